theorem sX12_tellBit_0 : Snd (miT Tb) RX12 cX12_tellBit 7 (some .int) 0 (i_aload 1 0) := snd_aload_n rfl dX12_tellBit_0
theorem sX12_tellBit_1 : Snd (miT Tb) RX12 cX12_tellBit 7 (some .int) 1 (i_getR 11 0 4) := snd_getR rfl (by decide) (by decide) (by decide) (fun hK ho hs hq kk => gf_X12_7 hK ho hs hq rfl dX12_tellBit_1 kk)
theorem sX12_tellBit_4 : Snd (miT Tb) RX12 cX12_tellBit 7 (some .int) 4 (i_aload 5 0) := snd_aload_n rfl dX12_tellBit_4
theorem sX12_tellBit_5 : Snd (miT Tb) RX12 cX12_tellBit 7 (some .int) 5 (i_getR 11 30 8) := snd_getR rfl (by decide) (by decide) (by decide) (fun hK ho hs hq kk => gf_X12_84 hK ho hs hq rfl dX12_tellBit_5 kk)
theorem sX12_tellBit_8 : Snd (miT Tb) RX12 cX12_tellBit 7 (some .int) 8 (i_iload 9 1) := snd_iload_n rfl dX12_tellBit_8
theorem sX12_tellBit_9 : Snd (miT Tb) RX12 cX12_tellBit 7 (some .int) 9 (i_iald 10) := snd_iald dX12_tellBit_9
theorem sX12_tellBit_10 : Snd (miT Tb) RX12 cX12_tellBit 7 (some .int) 10 (i_iald 11) := snd_iald dX12_tellBit_10
theorem sX12_tellBit_11 : Snd (miT Tb) RX12 cX12_tellBit 7 (some .int) 11 (i_istore 12 3) := snd_istore_n rfl (by decide) dX12_tellBit_11
theorem sX12_tellBit_12 : Snd (miT Tb) RX12 cX12_tellBit 7 (some .int) 12 (i_iload 13 2) := snd_iload_n rfl dX12_tellBit_12
theorem sX12_tellBit_13 : Snd (miT Tb) RX12 cX12_tellBit 7 (some .int) 13 (i_aload 14 0) := snd_aload_n rfl dX12_tellBit_13
theorem sX12_tellBit_14 : Snd (miT Tb) RX12 cX12_tellBit 7 (some .int) 14 (i_getR 11 31 17) := snd_getR rfl (by decide) (by decide) (by decide) (fun hK ho hs hq kk => gf_X12_87 hK ho hs hq rfl dX12_tellBit_14 kk)
theorem sX12_tellBit_17 : Snd (miT Tb) RX12 cX12_tellBit 7 (some .int) 17 (i_iload 18 1) := snd_iload_n rfl dX12_tellBit_17
theorem sX12_tellBit_18 : Snd (miT Tb) RX12 cX12_tellBit 7 (some .int) 18 (i_iald 19) := snd_iald dX12_tellBit_18
theorem sX12_tellBit_19 : Snd (miT Tb) RX12 cX12_tellBit 7 (some .int) 19 (i_icmp_eq 22 26) := snd_icmp_eq dX12_tellBit_19 rfl
theorem sX12_tellBit_22 : Snd (miT Tb) RX12 cX12_tellBit 7 (some .int) 22 (i_const 23 (vI 1)) := snd_iconst dX12_tellBit_22
theorem sX12_tellBit_23 : Snd (miT Tb) RX12 cX12_tellBit 7 (some .int) 23 (i_goto 27) := snd_goto dX12_tellBit_23 rfl
theorem sX12_tellBit_26 : Snd (miT Tb) RX12 cX12_tellBit 7 (some .int) 26 (i_const 27 (vI 0)) := snd_iconst dX12_tellBit_26
theorem sX12_tellBit_27 : Snd (miT Tb) RX12 cX12_tellBit 7 (some .int) 27 (i_istore 29 4) := snd_istore (by decide) dX12_tellBit_27
theorem sX12_tellBit_29 : Snd (miT Tb) RX12 cX12_tellBit 7 (some .int) 29 (i_aload 30 0) := snd_aload_n rfl dX12_tellBit_29
theorem sX12_tellBit_30 : Snd (miT Tb) RX12 cX12_tellBit 7 (some .int) 30 (i_aload 31 0) := snd_aload_n rfl dX12_tellBit_30
theorem sX12_tellBit_31 : Snd (miT Tb) RX12 cX12_tellBit 7 (some .int) 31 (i_getJ 11 32 34) := snd_getJ (fun hK ho hs hv kk => gf_X12_171 hK ho hs hv dX12_tellBit_31 kk)
theorem sX12_tellBit_34 : Snd (miT Tb) RX12 cX12_tellBit 7 (some .int) 34 (i_iload 35 3) := snd_iload_n rfl dX12_tellBit_34
theorem sX12_tellBit_35 : Snd (miT Tb) RX12 cX12_tellBit 7 (some .int) 35 (i_i2l 36) := snd_i2l dX12_tellBit_35
theorem sX12_tellBit_36 : Snd (miT Tb) RX12 cX12_tellBit 7 (some .int) 36 (i_lsub 37) := snd_lsub dX12_tellBit_36
theorem sX12_tellBit_37 : Snd (miT Tb) RX12 cX12_tellBit 7 (some .int) 37 (i_putJ 11 32 40) := snd_putJ (fun hK ho hs kk => pf_X12_171 hK ho hs dX12_tellBit_37 kk)
theorem sX12_tellBit_40 : Snd (miT Tb) RX12 cX12_tellBit 7 (some .int) 40 (i_iload 42 4) := snd_iload dX12_tellBit_40
theorem sX12_tellBit_42 : Snd (miT Tb) RX12 cX12_tellBit 7 (some .int) 42 (i_if_ne 45 69) := snd_if_ne dX12_tellBit_42 rfl
theorem sX12_tellBit_45 : Snd (miT Tb) RX12 cX12_tellBit 7 (some .int) 45 (i_aload 46 0) := snd_aload_n rfl dX12_tellBit_45
theorem sX12_tellBit_46 : Snd (miT Tb) RX12 cX12_tellBit 7 (some .int) 46 (i_getJ 11 32 49) := snd_getJ (fun hK ho hs hv kk => gf_X12_171 hK ho hs hv dX12_tellBit_46 kk)
theorem sX12_tellBit_49 : Snd (miT Tb) RX12 cX12_tellBit 7 (some .int) 49 (i_const 52 (vJ 32768)) := snd_ldc2 lc_X12_169 dX12_tellBit_49
theorem sX12_tellBit_52 : Snd (miT Tb) RX12 cX12_tellBit 7 (some .int) 52 (i_lcmp 53) := snd_lcmp dX12_tellBit_52
theorem sX12_tellBit_53 : Snd (miT Tb) RX12 cX12_tellBit 7 (some .int) 53 (i_if_lt 56 69) := snd_if_lt dX12_tellBit_53 rfl
theorem sX12_tellBit_56 : Snd (miT Tb) RX12 cX12_tellBit 7 (some .int) 56 (i_aload 57 0) := snd_aload_n rfl dX12_tellBit_56
theorem sX12_tellBit_57 : Snd (miT Tb) RX12 cX12_tellBit 7 (some .int) 57 (i_aload 58 0) := snd_aload_n rfl dX12_tellBit_57
theorem sX12_tellBit_58 : Snd (miT Tb) RX12 cX12_tellBit 7 (some .int) 58 (i_getJ 11 33 61) := snd_getJ (fun hK ho hs hv kk => gf_X12_175 hK ho hs hv dX12_tellBit_58 kk)
theorem sX12_tellBit_61 : Snd (miT Tb) RX12 cX12_tellBit 7 (some .int) 61 (i_iload 62 3) := snd_iload_n rfl dX12_tellBit_61
theorem sX12_tellBit_62 : Snd (miT Tb) RX12 cX12_tellBit 7 (some .int) 62 (i_i2l 63) := snd_i2l dX12_tellBit_62
theorem sX12_tellBit_63 : Snd (miT Tb) RX12 cX12_tellBit 7 (some .int) 63 (i_ladd 64) := snd_ladd dX12_tellBit_63
theorem sX12_tellBit_64 : Snd (miT Tb) RX12 cX12_tellBit 7 (some .int) 64 (i_putJ 11 33 67) := snd_putJ (fun hK ho hs kk => pf_X12_175 hK ho hs dX12_tellBit_64 kk)
theorem sX12_tellBit_67 : Snd (miT Tb) RX12 cX12_tellBit 7 (some .int) 67 (i_iload 68 2) := snd_iload_n rfl dX12_tellBit_67
theorem sX12_tellBit_68 : Snd (miT Tb) RX12 cX12_tellBit 7 (some .int) 68 (i_iret) := snd_iret dX12_tellBit_68
theorem sX12_tellBit_69 : Snd (miT Tb) RX12 cX12_tellBit 7 (some .int) 69 (i_aload 70 0) := snd_aload_n rfl dX12_tellBit_69
theorem sX12_tellBit_70 : Snd (miT Tb) RX12 cX12_tellBit 7 (some .int) 70 (i_getJ 11 32 73) := snd_getJ (fun hK ho hs hv kk => gf_X12_171 hK ho hs hv dX12_tellBit_70 kk)
theorem sX12_tellBit_73 : Snd (miT Tb) RX12 cX12_tellBit 7 (some .int) 73 (i_iload 74 3) := snd_iload_n rfl dX12_tellBit_73
theorem sX12_tellBit_74 : Snd (miT Tb) RX12 cX12_tellBit 7 (some .int) 74 (i_i2l 75) := snd_i2l dX12_tellBit_74
theorem sX12_tellBit_75 : Snd (miT Tb) RX12 cX12_tellBit 7 (some .int) 75 (i_lcmp 76) := snd_lcmp dX12_tellBit_75
theorem sX12_tellBit_76 : Snd (miT Tb) RX12 cX12_tellBit 7 (some .int) 76 (i_if_ge 79 83) := snd_if_ge dX12_tellBit_76 rfl
theorem sX12_tellBit_79 : Snd (miT Tb) RX12 cX12_tellBit 7 (some .int) 79 (i_const 80 (vI 1)) := snd_iconst dX12_tellBit_79
theorem sX12_tellBit_80 : Snd (miT Tb) RX12 cX12_tellBit 7 (some .int) 80 (i_goto 84) := snd_goto dX12_tellBit_80 rfl
theorem sX12_tellBit_83 : Snd (miT Tb) RX12 cX12_tellBit 7 (some .int) 83 (i_const 84 (vI 0)) := snd_iconst dX12_tellBit_83
theorem sX12_tellBit_84 : Snd (miT Tb) RX12 cX12_tellBit 7 (some .int) 84 (i_istore 86 5) := snd_istore (by decide) dX12_tellBit_84
theorem sX12_tellBit_86 : Snd (miT Tb) RX12 cX12_tellBit 7 (some .int) 86 (i_iload 88 4) := snd_iload dX12_tellBit_86
theorem sX12_tellBit_88 : Snd (miT Tb) RX12 cX12_tellBit 7 (some .int) 88 (i_iload 90 5) := snd_iload dX12_tellBit_88
theorem sX12_tellBit_90 : Snd (miT Tb) RX12 cX12_tellBit 7 (some .int) 90 (i_icmp_eq 93 97) := snd_icmp_eq dX12_tellBit_90 rfl
theorem sX12_tellBit_93 : Snd (miT Tb) RX12 cX12_tellBit 7 (some .int) 93 (i_const 94 (vI 1)) := snd_iconst dX12_tellBit_93
theorem sX12_tellBit_94 : Snd (miT Tb) RX12 cX12_tellBit 7 (some .int) 94 (i_goto 98) := snd_goto dX12_tellBit_94 rfl
theorem sX12_tellBit_97 : Snd (miT Tb) RX12 cX12_tellBit 7 (some .int) 97 (i_const 98 (vI 0)) := snd_iconst dX12_tellBit_97
theorem sX12_tellBit_98 : Snd (miT Tb) RX12 cX12_tellBit 7 (some .int) 98 (i_istore 100 6) := snd_istore (by decide) dX12_tellBit_98
theorem sX12_tellBit_100 : Snd (miT Tb) RX12 cX12_tellBit 7 (some .int) 100 (i_aload 101 0) := snd_aload_n rfl dX12_tellBit_100
theorem sX12_tellBit_101 : Snd (miT Tb) RX12 cX12_tellBit 7 (some .int) 101 (i_iload 103 6) := snd_iload dX12_tellBit_101
theorem sX12_tellBit_103 : Snd (miT Tb) RX12 cX12_tellBit 7 (some .int) 103 (i_if_eq 106 113) := snd_if_eq dX12_tellBit_103 rfl
theorem sX12_tellBit_106 : Snd (miT Tb) RX12 cX12_tellBit 7 (some .int) 106 (i_aload 107 0) := snd_aload_n rfl dX12_tellBit_106
theorem sX12_tellBit_107 : Snd (miT Tb) RX12 cX12_tellBit 7 (some .int) 107 (i_getJ 11 33 110) := snd_getJ (fun hK ho hs hv kk => gf_X12_175 hK ho hs hv dX12_tellBit_107 kk)
theorem sX12_tellBit_110 : Snd (miT Tb) RX12 cX12_tellBit 7 (some .int) 110 (i_goto 120) := snd_goto dX12_tellBit_110 rfl
theorem sX12_tellBit_113 : Snd (miT Tb) RX12 cX12_tellBit 7 (some .int) 113 (i_aload 114 0) := snd_aload_n rfl dX12_tellBit_113
theorem sX12_tellBit_114 : Snd (miT Tb) RX12 cX12_tellBit 7 (some .int) 114 (i_getJ 11 33 117) := snd_getJ (fun hK ho hs hv kk => gf_X12_175 hK ho hs hv dX12_tellBit_114 kk)
theorem sX12_tellBit_117 : Snd (miT Tb) RX12 cX12_tellBit 7 (some .int) 117 (i_iload 118 3) := snd_iload_n rfl dX12_tellBit_117
theorem sX12_tellBit_118 : Snd (miT Tb) RX12 cX12_tellBit 7 (some .int) 118 (i_i2l 119) := snd_i2l dX12_tellBit_118
theorem sX12_tellBit_119 : Snd (miT Tb) RX12 cX12_tellBit 7 (some .int) 119 (i_ladd 120) := snd_ladd dX12_tellBit_119
theorem sX12_tellBit_120 : Snd (miT Tb) RX12 cX12_tellBit 7 (some .int) 120 (i_putJ 11 33 123) := snd_putJ (fun hK ho hs kk => pf_X12_175 hK ho hs dX12_tellBit_120 kk)
theorem sX12_tellBit_123 : Snd (miT Tb) RX12 cX12_tellBit 7 (some .int) 123 (i_aload 124 0) := snd_aload_n rfl dX12_tellBit_123
theorem sX12_tellBit_124 : Snd (miT Tb) RX12 cX12_tellBit 7 (some .int) 124 (i_iload 126 6) := snd_iload dX12_tellBit_124
theorem sX12_tellBit_126 : Snd (miT Tb) RX12 cX12_tellBit 7 (some .int) 126 (i_if_eq 129 134) := snd_if_eq dX12_tellBit_126 rfl
theorem sX12_tellBit_129 : Snd (miT Tb) RX12 cX12_tellBit 7 (some .int) 129 (i_iload 130 3) := snd_iload_n rfl dX12_tellBit_129
theorem sX12_tellBit_130 : Snd (miT Tb) RX12 cX12_tellBit 7 (some .int) 130 (i_i2l 131) := snd_i2l dX12_tellBit_130
theorem sX12_tellBit_131 : Snd (miT Tb) RX12 cX12_tellBit 7 (some .int) 131 (i_goto 138) := snd_goto dX12_tellBit_131 rfl
theorem sX12_tellBit_134 : Snd (miT Tb) RX12 cX12_tellBit 7 (some .int) 134 (i_aload 135 0) := snd_aload_n rfl dX12_tellBit_134
theorem sX12_tellBit_135 : Snd (miT Tb) RX12 cX12_tellBit 7 (some .int) 135 (i_getJ 11 32 138) := snd_getJ (fun hK ho hs hv kk => gf_X12_171 hK ho hs hv dX12_tellBit_135 kk)
theorem sX12_tellBit_138 : Snd (miT Tb) RX12 cX12_tellBit 7 (some .int) 138 (i_putJ 11 32 141) := snd_putJ (fun hK ho hs kk => pf_X12_171 hK ho hs dX12_tellBit_138 kk)
theorem sX12_tellBit_141 : Snd (miT Tb) RX12 cX12_tellBit 7 (some .int) 141 (i_aload 142 0) := snd_aload_n rfl dX12_tellBit_141
theorem sX12_tellBit_142 : Snd (miT Tb) RX12 cX12_tellBit 7 (some .int) 142 (i_iload 143 1) := snd_iload_n rfl dX12_tellBit_142
theorem sX12_tellBit_143 : Snd (miT Tb) RX12 cX12_tellBit 7 (some .int) 143 (i_iload 145 4) := snd_iload dX12_tellBit_143
theorem sX12_tellBit_145 : Snd (miT Tb) RX12 cX12_tellBit 7 (some .int) 145 (i_cV2 45 11 148) := snd_cV2 (fun hK hd hC ho hs h6 h7 h8 kk => iv_X12_189 hK (mc_45 hC) ho hs ⟨hd, by show _ ≤ 40 * (_ + 1); omega⟩ (Nat.le_refl _) h6 h7 h8 ⟨Nat.le_refl _, Nat.le_refl _⟩ dX12_tellBit_145 kk)
theorem sX12_tellBit_148 : Snd (miT Tb) RX12 cX12_tellBit 7 (some .int) 148 (i_aload 149 0) := snd_aload_n rfl dX12_tellBit_148
theorem sX12_tellBit_149 : Snd (miT Tb) RX12 cX12_tellBit 7 (some .int) 149 (i_getJ 11 32 152) := snd_getJ (fun hK ho hs hv kk => gf_X12_171 hK ho hs hv dX12_tellBit_149 kk)
theorem sX12_tellBit_152 : Snd (miT Tb) RX12 cX12_tellBit 7 (some .int) 152 (i_const 155 (vJ 32768)) := snd_ldc2 lc_X12_169 dX12_tellBit_152
theorem sX12_tellBit_155 : Snd (miT Tb) RX12 cX12_tellBit 7 (some .int) 155 (i_lcmp 156) := snd_lcmp dX12_tellBit_155
theorem sX12_tellBit_156 : Snd (miT Tb) RX12 cX12_tellBit 7 (some .int) 156 (i_if_ge 159 207) := snd_if_ge dX12_tellBit_156 rfl
theorem sX12_tellBit_159 : Snd (miT Tb) RX12 cX12_tellBit 7 (some .int) 159 (i_aload 160 0) := snd_aload_n rfl dX12_tellBit_159
theorem sX12_tellBit_160 : Snd (miT Tb) RX12 cX12_tellBit 7 (some .int) 160 (i_const 163 (vJ 2)) := snd_ldc2 lc_X12_193 dX12_tellBit_160
theorem sX12_tellBit_163 : Snd (miT Tb) RX12 cX12_tellBit 7 (some .int) 163 (i_aload 164 0) := snd_aload_n rfl dX12_tellBit_163
theorem sX12_tellBit_164 : Snd (miT Tb) RX12 cX12_tellBit 7 (some .int) 164 (i_getJ 11 32 167) := snd_getJ (fun hK ho hs hv kk => gf_X12_171 hK ho hs hv dX12_tellBit_164 kk)
theorem sX12_tellBit_167 : Snd (miT Tb) RX12 cX12_tellBit 7 (some .int) 167 (i_lmul 168) := snd_lmul dX12_tellBit_167
theorem sX12_tellBit_168 : Snd (miT Tb) RX12 cX12_tellBit 7 (some .int) 168 (i_putJ 11 32 171) := snd_putJ (fun hK ho hs kk => pf_X12_171 hK ho hs dX12_tellBit_168 kk)
theorem sX12_tellBit_171 : Snd (miT Tb) RX12 cX12_tellBit 7 (some .int) 171 (i_aload 172 0) := snd_aload_n rfl dX12_tellBit_171
theorem sX12_tellBit_172 : Snd (miT Tb) RX12 cX12_tellBit 7 (some .int) 172 (i_const 175 (vJ 2)) := snd_ldc2 lc_X12_193 dX12_tellBit_172
theorem sX12_tellBit_175 : Snd (miT Tb) RX12 cX12_tellBit 7 (some .int) 175 (i_aload 176 0) := snd_aload_n rfl dX12_tellBit_175
theorem sX12_tellBit_176 : Snd (miT Tb) RX12 cX12_tellBit 7 (some .int) 176 (i_getJ 11 33 179) := snd_getJ (fun hK ho hs hv kk => gf_X12_175 hK ho hs hv dX12_tellBit_176 kk)
theorem sX12_tellBit_179 : Snd (miT Tb) RX12 cX12_tellBit 7 (some .int) 179 (i_lmul 180) := snd_lmul dX12_tellBit_179
theorem sX12_tellBit_180 : Snd (miT Tb) RX12 cX12_tellBit 7 (some .int) 180 (i_putJ 11 33 183) := snd_putJ (fun hK ho hs kk => pf_X12_175 hK ho hs dX12_tellBit_180 kk)
theorem sX12_tellBit_183 : Snd (miT Tb) RX12 cX12_tellBit 7 (some .int) 183 (i_aload 184 0) := snd_aload_n rfl dX12_tellBit_183
theorem sX12_tellBit_184 : Snd (miT Tb) RX12 cX12_tellBit 7 (some .int) 184 (i_dup 185) := snd_dup dX12_tellBit_184
theorem sX12_tellBit_185 : Snd (miT Tb) RX12 cX12_tellBit 7 (some .int) 185 (i_getI 11 34 188) := snd_getI (fun hK ho hs hv kk => gf_X12_178 hK ho hs hv dX12_tellBit_185 kk)
theorem sX12_tellBit_188 : Snd (miT Tb) RX12 cX12_tellBit 7 (some .int) 188 (i_const 189 (vI 1)) := snd_iconst dX12_tellBit_188
theorem sX12_tellBit_189 : Snd (miT Tb) RX12 cX12_tellBit 7 (some .int) 189 (i_isub 190) := snd_isub dX12_tellBit_189
theorem sX12_tellBit_190 : Snd (miT Tb) RX12 cX12_tellBit 7 (some .int) 190 (i_putI 11 34 193) := snd_putI (fun hK ho hs kk => pf_X12_178 hK ho hs dX12_tellBit_190 kk)
theorem sX12_tellBit_193 : Snd (miT Tb) RX12 cX12_tellBit 7 (some .int) 193 (i_aload 194 0) := snd_aload_n rfl dX12_tellBit_193
theorem sX12_tellBit_194 : Snd (miT Tb) RX12 cX12_tellBit 7 (some .int) 194 (i_getI 11 34 197) := snd_getI (fun hK ho hs hv kk => gf_X12_178 hK ho hs hv dX12_tellBit_194 kk)
theorem sX12_tellBit_197 : Snd (miT Tb) RX12 cX12_tellBit 7 (some .int) 197 (i_if_ne 200 148) := snd_if_ne dX12_tellBit_197 rfl
theorem sX12_tellBit_200 : Snd (miT Tb) RX12 cX12_tellBit 7 (some .int) 200 (i_aload 201 0) := snd_aload_n rfl dX12_tellBit_200
theorem sX12_tellBit_201 : Snd (miT Tb) RX12 cX12_tellBit 7 (some .int) 201 (i_cV0 52 11 204) := snd_cV0 (fun hK hd hC ho hs h6 h7 h8 kk => iv_X12_195 hK (mc_52 hC) ho hs ⟨hd, by show _ ≤ 40 * (_ + 1); omega⟩ (Nat.le_refl _) h6 h7 h8 ⟨Nat.le_refl _, Nat.le_refl _⟩ dX12_tellBit_201 kk)
theorem sX12_tellBit_204 : Snd (miT Tb) RX12 cX12_tellBit 7 (some .int) 204 (i_goto 148) := snd_goto dX12_tellBit_204 rfl
theorem sX12_tellBit_207 : Snd (miT Tb) RX12 cX12_tellBit 7 (some .int) 207 (i_iload 208 2) := snd_iload_n rfl dX12_tellBit_207
theorem sX12_tellBit_208 : Snd (miT Tb) RX12 cX12_tellBit 7 (some .int) 208 (i_iret) := snd_iret dX12_tellBit_208
theorem kX12_tellBit : raA (okI (miT Tb) (yX12_tellBit, cX12_tellBit, 7, (some .int))) tX12_tellBit := (raA_br (raA_br (raA_br (raA_br (raA_br (raA_br (raA_leaf sX12_tellBit_0) (raA_br (raA_leaf sX12_tellBit_1) (raA_leaf sX12_tellBit_4))) (raA_br (raA_br (raA_leaf sX12_tellBit_5) (raA_leaf sX12_tellBit_8)) (raA_br (raA_leaf sX12_tellBit_9) (raA_leaf sX12_tellBit_10)))) (raA_br (raA_br (raA_leaf sX12_tellBit_11) (raA_br (raA_leaf sX12_tellBit_12) (raA_leaf sX12_tellBit_13))) (raA_br (raA_br (raA_leaf sX12_tellBit_14) (raA_leaf sX12_tellBit_17)) (raA_br (raA_leaf sX12_tellBit_18) (raA_leaf sX12_tellBit_19))))) (raA_br (raA_br (raA_br (raA_leaf sX12_tellBit_22) (raA_br (raA_leaf sX12_tellBit_23) (raA_leaf sX12_tellBit_26))) (raA_br (raA_br (raA_leaf sX12_tellBit_27) (raA_leaf sX12_tellBit_29)) (raA_br (raA_leaf sX12_tellBit_30) (raA_leaf sX12_tellBit_31)))) (raA_br (raA_br (raA_leaf sX12_tellBit_34) (raA_br (raA_leaf sX12_tellBit_35) (raA_leaf sX12_tellBit_36))) (raA_br (raA_br (raA_leaf sX12_tellBit_37) (raA_leaf sX12_tellBit_40)) (raA_br (raA_leaf sX12_tellBit_42) (raA_leaf sX12_tellBit_45)))))) (raA_br (raA_br (raA_br (raA_br (raA_leaf sX12_tellBit_46) (raA_br (raA_leaf sX12_tellBit_49) (raA_leaf sX12_tellBit_52))) (raA_br (raA_br (raA_leaf sX12_tellBit_53) (raA_leaf sX12_tellBit_56)) (raA_br (raA_leaf sX12_tellBit_57) (raA_leaf sX12_tellBit_58)))) (raA_br (raA_br (raA_leaf sX12_tellBit_61) (raA_br (raA_leaf sX12_tellBit_62) (raA_leaf sX12_tellBit_63))) (raA_br (raA_br (raA_leaf sX12_tellBit_64) (raA_leaf sX12_tellBit_67)) (raA_br (raA_leaf sX12_tellBit_68) (raA_leaf sX12_tellBit_69))))) (raA_br (raA_br (raA_br (raA_leaf sX12_tellBit_70) (raA_br (raA_leaf sX12_tellBit_73) (raA_leaf sX12_tellBit_74))) (raA_br (raA_br (raA_leaf sX12_tellBit_75) (raA_leaf sX12_tellBit_76)) (raA_br (raA_leaf sX12_tellBit_79) (raA_leaf sX12_tellBit_80)))) (raA_br (raA_br (raA_br (raA_leaf sX12_tellBit_83) (raA_leaf sX12_tellBit_84)) (raA_br (raA_leaf sX12_tellBit_86) (raA_leaf sX12_tellBit_88))) (raA_br (raA_br (raA_leaf sX12_tellBit_90) (raA_leaf sX12_tellBit_93)) (raA_br (raA_leaf sX12_tellBit_94) (raA_leaf sX12_tellBit_97))))))) (raA_br (raA_br (raA_br (raA_br (raA_br (raA_leaf sX12_tellBit_98) (raA_br (raA_leaf sX12_tellBit_100) (raA_leaf sX12_tellBit_101))) (raA_br (raA_br (raA_leaf sX12_tellBit_103) (raA_leaf sX12_tellBit_106)) (raA_br (raA_leaf sX12_tellBit_107) (raA_leaf sX12_tellBit_110)))) (raA_br (raA_br (raA_leaf sX12_tellBit_113) (raA_br (raA_leaf sX12_tellBit_114) (raA_leaf sX12_tellBit_117))) (raA_br (raA_br (raA_leaf sX12_tellBit_118) (raA_leaf sX12_tellBit_119)) (raA_br (raA_leaf sX12_tellBit_120) (raA_leaf sX12_tellBit_123))))) (raA_br (raA_br (raA_br (raA_leaf sX12_tellBit_124) (raA_br (raA_leaf sX12_tellBit_126) (raA_leaf sX12_tellBit_129))) (raA_br (raA_br (raA_leaf sX12_tellBit_130) (raA_leaf sX12_tellBit_131)) (raA_br (raA_leaf sX12_tellBit_134) (raA_leaf sX12_tellBit_135)))) (raA_br (raA_br (raA_leaf sX12_tellBit_138) (raA_br (raA_leaf sX12_tellBit_141) (raA_leaf sX12_tellBit_142))) (raA_br (raA_br (raA_leaf sX12_tellBit_143) (raA_leaf sX12_tellBit_145)) (raA_br (raA_leaf sX12_tellBit_148) (raA_leaf sX12_tellBit_149)))))) (raA_br (raA_br (raA_br (raA_br (raA_leaf sX12_tellBit_152) (raA_br (raA_leaf sX12_tellBit_155) (raA_leaf sX12_tellBit_156))) (raA_br (raA_br (raA_leaf sX12_tellBit_159) (raA_leaf sX12_tellBit_160)) (raA_br (raA_leaf sX12_tellBit_163) (raA_leaf sX12_tellBit_164)))) (raA_br (raA_br (raA_leaf sX12_tellBit_167) (raA_br (raA_leaf sX12_tellBit_168) (raA_leaf sX12_tellBit_171))) (raA_br (raA_br (raA_leaf sX12_tellBit_172) (raA_leaf sX12_tellBit_175)) (raA_br (raA_leaf sX12_tellBit_176) (raA_leaf sX12_tellBit_179))))) (raA_br (raA_br (raA_br (raA_leaf sX12_tellBit_180) (raA_br (raA_leaf sX12_tellBit_183) (raA_leaf sX12_tellBit_184))) (raA_br (raA_br (raA_leaf sX12_tellBit_185) (raA_leaf sX12_tellBit_188)) (raA_br (raA_leaf sX12_tellBit_189) (raA_leaf sX12_tellBit_190)))) (raA_br (raA_br (raA_br (raA_leaf sX12_tellBit_193) (raA_leaf sX12_tellBit_194)) (raA_br (raA_leaf sX12_tellBit_197) (raA_leaf sX12_tellBit_200))) (raA_br (raA_br (raA_leaf sX12_tellBit_201) (raA_leaf sX12_tellBit_204)) (raA_br (raA_leaf sX12_tellBit_207) (raA_leaf sX12_tellBit_208))))))))
theorem sX12_unit_0 : Snd (miT Tb) RX12 cX12_unit 1 (some .int) 0 (i_iload 1 0) := snd_iload_n rfl dX12_unit_0
theorem sX12_unit_1 : Snd (miT Tb) RX12 cX12_unit 1 (some .int) 1 (i_if_le 4 8) := snd_if_le dX12_unit_1 rfl
theorem sX12_unit_4 : Snd (miT Tb) RX12 cX12_unit 1 (some .int) 4 (i_const 5 (vI 1)) := snd_iconst dX12_unit_4
theorem sX12_unit_5 : Snd (miT Tb) RX12 cX12_unit 1 (some .int) 5 (i_goto 17) := snd_goto dX12_unit_5 rfl
theorem sX12_unit_8 : Snd (miT Tb) RX12 cX12_unit 1 (some .int) 8 (i_iload 9 0) := snd_iload_n rfl dX12_unit_8
theorem sX12_unit_9 : Snd (miT Tb) RX12 cX12_unit 1 (some .int) 9 (i_if_ge 12 16) := snd_if_ge dX12_unit_9 rfl
theorem sX12_unit_12 : Snd (miT Tb) RX12 cX12_unit 1 (some .int) 12 (i_const 13 (vI (-1))) := snd_iconst dX12_unit_12
theorem sX12_unit_13 : Snd (miT Tb) RX12 cX12_unit 1 (some .int) 13 (i_goto 17) := snd_goto dX12_unit_13 rfl
theorem sX12_unit_16 : Snd (miT Tb) RX12 cX12_unit 1 (some .int) 16 (i_const 17 (vI 0)) := snd_iconst dX12_unit_16
theorem sX12_unit_17 : Snd (miT Tb) RX12 cX12_unit 1 (some .int) 17 (i_iret) := snd_iret dX12_unit_17
theorem kX12_unit : raA (okI (miT Tb) (yX12_unit, cX12_unit, 1, (some .int))) tX12_unit := (raA_br (raA_br (raA_br (raA_leaf sX12_unit_0) (raA_leaf sX12_unit_1)) (raA_br (raA_leaf sX12_unit_4) (raA_br (raA_leaf sX12_unit_5) (raA_leaf sX12_unit_8)))) (raA_br (raA_br (raA_leaf sX12_unit_9) (raA_leaf sX12_unit_12)) (raA_br (raA_leaf sX12_unit_13) (raA_br (raA_leaf sX12_unit_16) (raA_leaf sX12_unit_17)))))
theorem sX12_useWord_0 : Snd (miT Tb) RX12 cX12_useWord 3 none 0 (i_const 1 (vI 0)) := snd_iconst dX12_useWord_0
theorem sX12_useWord_1 : Snd (miT Tb) RX12 cX12_useWord 3 none 1 (i_istore 2 2) := snd_istore_n rfl (by decide) dX12_useWord_1
theorem sX12_useWord_2 : Snd (miT Tb) RX12 cX12_useWord 3 none 2 (i_iload 3 2) := snd_iload_n rfl dX12_useWord_2
theorem sX12_useWord_3 : Snd (miT Tb) RX12 cX12_useWord 3 none 3 (i_aload 4 0) := snd_aload_n rfl dX12_useWord_3
theorem sX12_useWord_4 : Snd (miT Tb) RX12 cX12_useWord 3 none 4 (i_getR 11 21 7) := snd_getR rfl (by decide) (by decide) (by decide) (fun hK ho hs hq kk => gf_X12_69 hK ho hs hq rfl dX12_useWord_4 kk)
theorem sX12_useWord_7 : Snd (miT Tb) RX12 cX12_useWord 3 none 7 (i_iload 8 1) := snd_iload_n rfl dX12_useWord_7
theorem sX12_useWord_8 : Snd (miT Tb) RX12 cX12_useWord 3 none 8 (i_iald 9) := snd_iald dX12_useWord_8
theorem sX12_useWord_9 : Snd (miT Tb) RX12 cX12_useWord 3 none 9 (i_icmp_ge 12 37) := snd_icmp_ge dX12_useWord_9 rfl
theorem sX12_useWord_12 : Snd (miT Tb) RX12 cX12_useWord 3 none 12 (i_aload 13 0) := snd_aload_n rfl dX12_useWord_12
theorem sX12_useWord_13 : Snd (miT Tb) RX12 cX12_useWord 3 none 13 (i_getR 11 37 16) := snd_getR rfl (by decide) (by decide) (by decide) (fun hK ho hs hq kk => gf_X12_93 hK ho hs hq rfl dX12_useWord_13 kk)
theorem sX12_useWord_16 : Snd (miT Tb) RX12 cX12_useWord 3 none 16 (i_iload 17 2) := snd_iload_n rfl dX12_useWord_16
theorem sX12_useWord_17 : Snd (miT Tb) RX12 cX12_useWord 3 none 17 (i_aload 18 0) := snd_aload_n rfl dX12_useWord_17
theorem sX12_useWord_18 : Snd (miT Tb) RX12 cX12_useWord 3 none 18 (i_getR 11 19 21) := snd_getR rfl (by decide) (by decide) (by decide) (fun hK ho hs hq kk => gf_X12_63 hK ho hs hq rfl dX12_useWord_18 kk)
theorem sX12_useWord_21 : Snd (miT Tb) RX12 cX12_useWord 3 none 21 (i_aload 22 0) := snd_aload_n rfl dX12_useWord_21
theorem sX12_useWord_22 : Snd (miT Tb) RX12 cX12_useWord 3 none 22 (i_getR 11 20 25) := snd_getR rfl (by decide) (by decide) (by decide) (fun hK ho hs hq kk => gf_X12_66 hK ho hs hq rfl dX12_useWord_22 kk)
theorem sX12_useWord_25 : Snd (miT Tb) RX12 cX12_useWord 3 none 25 (i_iload 26 1) := snd_iload_n rfl dX12_useWord_25
theorem sX12_useWord_26 : Snd (miT Tb) RX12 cX12_useWord 3 none 26 (i_iald 27) := snd_iald dX12_useWord_26
theorem sX12_useWord_27 : Snd (miT Tb) RX12 cX12_useWord 3 none 27 (i_iload 28 2) := snd_iload_n rfl dX12_useWord_27
theorem sX12_useWord_28 : Snd (miT Tb) RX12 cX12_useWord 3 none 28 (i_iadd 29) := snd_iadd dX12_useWord_28
theorem sX12_useWord_29 : Snd (miT Tb) RX12 cX12_useWord 3 none 29 (i_iald 30) := snd_iald dX12_useWord_29
theorem sX12_useWord_30 : Snd (miT Tb) RX12 cX12_useWord 3 none 30 (i_iast 31) := snd_iast dX12_useWord_30
theorem sX12_useWord_31 : Snd (miT Tb) RX12 cX12_useWord 3 none 31 (i_iinc 34 2 1) := snd_iinc (by decide) dX12_useWord_31
theorem sX12_useWord_34 : Snd (miT Tb) RX12 cX12_useWord 3 none 34 (i_goto 2) := snd_goto dX12_useWord_34 rfl
theorem sX12_useWord_37 : Snd (miT Tb) RX12 cX12_useWord 3 none 37 (i_vret) := snd_vret dX12_useWord_37
theorem kX12_useWord : raA (okI (miT Tb) (yX12_useWord, cX12_useWord, 3, none)) tX12_useWord := (raA_br (raA_br (raA_br (raA_br (raA_leaf sX12_useWord_0) (raA_br (raA_leaf sX12_useWord_1) (raA_leaf sX12_useWord_2))) (raA_br (raA_leaf sX12_useWord_3) (raA_br (raA_leaf sX12_useWord_4) (raA_leaf sX12_useWord_7)))) (raA_br (raA_br (raA_leaf sX12_useWord_8) (raA_br (raA_leaf sX12_useWord_9) (raA_leaf sX12_useWord_12))) (raA_br (raA_leaf sX12_useWord_13) (raA_br (raA_leaf sX12_useWord_16) (raA_leaf sX12_useWord_17))))) (raA_br (raA_br (raA_br (raA_leaf sX12_useWord_18) (raA_br (raA_leaf sX12_useWord_21) (raA_leaf sX12_useWord_22))) (raA_br (raA_leaf sX12_useWord_25) (raA_br (raA_leaf sX12_useWord_26) (raA_leaf sX12_useWord_27)))) (raA_br (raA_br (raA_leaf sX12_useWord_28) (raA_br (raA_leaf sX12_useWord_29) (raA_leaf sX12_useWord_30))) (raA_br (raA_leaf sX12_useWord_31) (raA_br (raA_leaf sX12_useWord_34) (raA_leaf sX12_useWord_37))))))
theorem sX12_wake_0 : Snd (miT Tb) RX12 cX12_wake 10 none 0 (i_iload 1 1) := snd_iload_n rfl dX12_wake_0
theorem sX12_wake_1 : Snd (miT Tb) RX12 cX12_wake 10 none 1 (i_iload 2 2) := snd_iload_n rfl dX12_wake_1
theorem sX12_wake_2 : Snd (miT Tb) RX12 cX12_wake 10 none 2 (i_cS2 57 5) := snd_cS2 (fun hK hd hC h6 h7 h8 kk => iv_X12_234 hK (mc_57 hC) ⟨hd, by show _ ≤ 40 * (_ + 1); omega⟩ (Nat.le_refl _) h6 h7 h8 ⟨Nat.le_refl _, Nat.le_refl _⟩ dX12_wake_2 kk)
theorem sX12_wake_5 : Snd (miT Tb) RX12 cX12_wake 10 none 5 (i_istore 6 3) := snd_istore_n rfl (by decide) dX12_wake_5
theorem sX12_wake_6 : Snd (miT Tb) RX12 cX12_wake 10 none 6 (i_aload 7 0) := snd_aload_n rfl dX12_wake_6
theorem sX12_wake_7 : Snd (miT Tb) RX12 cX12_wake 10 none 7 (i_getR 11 23 10) := snd_getR rfl (by decide) (by decide) (by decide) (fun hK ho hs hq kk => gf_X12_75 hK ho hs hq rfl dX12_wake_7 kk)
theorem sX12_wake_10 : Snd (miT Tb) RX12 cX12_wake 10 none 10 (i_iload 11 3) := snd_iload_n rfl dX12_wake_10
theorem sX12_wake_11 : Snd (miT Tb) RX12 cX12_wake 10 none 11 (i_const 12 (vI 1)) := snd_iconst dX12_wake_11
theorem sX12_wake_12 : Snd (miT Tb) RX12 cX12_wake 10 none 12 (i_isub 13) := snd_isub dX12_wake_12
theorem sX12_wake_13 : Snd (miT Tb) RX12 cX12_wake 10 none 13 (i_iald 14) := snd_iald dX12_wake_13
theorem sX12_wake_14 : Snd (miT Tb) RX12 cX12_wake 10 none 14 (i_aload 15 0) := snd_aload_n rfl dX12_wake_14
theorem sX12_wake_15 : Snd (miT Tb) RX12 cX12_wake 10 none 15 (i_getR 11 23 18) := snd_getR rfl (by decide) (by decide) (by decide) (fun hK ho hs hq kk => gf_X12_75 hK ho hs hq rfl dX12_wake_15 kk)
theorem sX12_wake_18 : Snd (miT Tb) RX12 cX12_wake 10 none 18 (i_iload 19 3) := snd_iload_n rfl dX12_wake_18
theorem sX12_wake_19 : Snd (miT Tb) RX12 cX12_wake 10 none 19 (i_const 20 (vI 1)) := snd_iconst dX12_wake_19
theorem sX12_wake_20 : Snd (miT Tb) RX12 cX12_wake 10 none 20 (i_iadd 21) := snd_iadd dX12_wake_20
theorem sX12_wake_21 : Snd (miT Tb) RX12 cX12_wake 10 none 21 (i_iald 22) := snd_iald dX12_wake_21
theorem sX12_wake_22 : Snd (miT Tb) RX12 cX12_wake 10 none 22 (i_iadd 23) := snd_iadd dX12_wake_22
theorem sX12_wake_23 : Snd (miT Tb) RX12 cX12_wake 10 none 23 (i_cS1 63 26) := snd_cS1 (fun hK hd hC h6 h7 h8 kk => iv_X12_255 hK (mc_63 hC) ⟨hd, by show _ ≤ 40 * (_ + 1); omega⟩ (Nat.le_refl _) h6 h7 h8 ⟨Nat.le_refl _, Nat.le_refl _⟩ dX12_wake_23 kk)
theorem sX12_wake_26 : Snd (miT Tb) RX12 cX12_wake 10 none 26 (i_istore 28 4) := snd_istore (by decide) dX12_wake_26
theorem sX12_wake_28 : Snd (miT Tb) RX12 cX12_wake 10 none 28 (i_aload 29 0) := snd_aload_n rfl dX12_wake_28
theorem sX12_wake_29 : Snd (miT Tb) RX12 cX12_wake 10 none 29 (i_getR 11 23 32) := snd_getR rfl (by decide) (by decide) (by decide) (fun hK ho hs hq kk => gf_X12_75 hK ho hs hq rfl dX12_wake_29 kk)
theorem sX12_wake_32 : Snd (miT Tb) RX12 cX12_wake 10 none 32 (i_iload 33 3) := snd_iload_n rfl dX12_wake_32
theorem sX12_wake_33 : Snd (miT Tb) RX12 cX12_wake 10 none 33 (i_const 35 (vI 10)) := snd_bipush (by decide) dX12_wake_33
theorem sX12_wake_35 : Snd (miT Tb) RX12 cX12_wake 10 none 35 (i_isub 36) := snd_isub dX12_wake_35
theorem sX12_wake_36 : Snd (miT Tb) RX12 cX12_wake 10 none 36 (i_iald 37) := snd_iald dX12_wake_36
theorem sX12_wake_37 : Snd (miT Tb) RX12 cX12_wake 10 none 37 (i_aload 38 0) := snd_aload_n rfl dX12_wake_37
theorem sX12_wake_38 : Snd (miT Tb) RX12 cX12_wake 10 none 38 (i_getR 11 23 41) := snd_getR rfl (by decide) (by decide) (by decide) (fun hK ho hs hq kk => gf_X12_75 hK ho hs hq rfl dX12_wake_38 kk)
theorem sX12_wake_41 : Snd (miT Tb) RX12 cX12_wake 10 none 41 (i_iload 42 3) := snd_iload_n rfl dX12_wake_41
theorem sX12_wake_42 : Snd (miT Tb) RX12 cX12_wake 10 none 42 (i_const 44 (vI 10)) := snd_bipush (by decide) dX12_wake_42
theorem sX12_wake_44 : Snd (miT Tb) RX12 cX12_wake 10 none 44 (i_iadd 45) := snd_iadd dX12_wake_44
theorem sX12_wake_45 : Snd (miT Tb) RX12 cX12_wake 10 none 45 (i_iald 46) := snd_iald dX12_wake_45
theorem sX12_wake_46 : Snd (miT Tb) RX12 cX12_wake 10 none 46 (i_iadd 47) := snd_iadd dX12_wake_46
theorem sX12_wake_47 : Snd (miT Tb) RX12 cX12_wake 10 none 47 (i_cS1 63 50) := snd_cS1 (fun hK hd hC h6 h7 h8 kk => iv_X12_255 hK (mc_63 hC) ⟨hd, by show _ ≤ 40 * (_ + 1); omega⟩ (Nat.le_refl _) h6 h7 h8 ⟨Nat.le_refl _, Nat.le_refl _⟩ dX12_wake_47 kk)
theorem sX12_wake_50 : Snd (miT Tb) RX12 cX12_wake 10 none 50 (i_istore 52 5) := snd_istore (by decide) dX12_wake_50
theorem sX12_wake_52 : Snd (miT Tb) RX12 cX12_wake 10 none 52 (i_iload 54 4) := snd_iload dX12_wake_52
theorem sX12_wake_54 : Snd (miT Tb) RX12 cX12_wake 10 none 54 (i_if_lt 57 67) := snd_if_lt dX12_wake_54 rfl
theorem sX12_wake_57 : Snd (miT Tb) RX12 cX12_wake 10 none 57 (i_iload 59 4) := snd_iload dX12_wake_57
theorem sX12_wake_59 : Snd (miT Tb) RX12 cX12_wake 10 none 59 (i_if_ne 62 71) := snd_if_ne dX12_wake_59 rfl
theorem sX12_wake_62 : Snd (miT Tb) RX12 cX12_wake 10 none 62 (i_iload 64 5) := snd_iload dX12_wake_62
theorem sX12_wake_64 : Snd (miT Tb) RX12 cX12_wake 10 none 64 (i_if_ge 67 71) := snd_if_ge dX12_wake_64 rfl
theorem sX12_wake_67 : Snd (miT Tb) RX12 cX12_wake 10 none 67 (i_const 68 (vI 1)) := snd_iconst dX12_wake_67
theorem sX12_wake_68 : Snd (miT Tb) RX12 cX12_wake 10 none 68 (i_goto 72) := snd_goto dX12_wake_68 rfl
theorem sX12_wake_71 : Snd (miT Tb) RX12 cX12_wake 10 none 71 (i_const 72 (vI 0)) := snd_iconst dX12_wake_71
theorem sX12_wake_72 : Snd (miT Tb) RX12 cX12_wake 10 none 72 (i_istore 74 6) := snd_istore (by decide) dX12_wake_72
theorem sX12_wake_74 : Snd (miT Tb) RX12 cX12_wake 10 none 74 (i_const 76 (vI 9)) := snd_bipush (by decide) dX12_wake_74
theorem sX12_wake_76 : Snd (miT Tb) RX12 cX12_wake 10 none 76 (i_iload 78 6) := snd_iload dX12_wake_76
theorem sX12_wake_78 : Snd (miT Tb) RX12 cX12_wake 10 none 78 (i_if_eq 81 92) := snd_if_eq dX12_wake_78 rfl
theorem sX12_wake_81 : Snd (miT Tb) RX12 cX12_wake 10 none 81 (i_const 83 (vI (-3))) := snd_bipush (by decide) dX12_wake_81
theorem sX12_wake_83 : Snd (miT Tb) RX12 cX12_wake 10 none 83 (i_iload 85 4) := snd_iload dX12_wake_83
theorem sX12_wake_85 : Snd (miT Tb) RX12 cX12_wake 10 none 85 (i_imul 86) := snd_imul dX12_wake_85
theorem sX12_wake_86 : Snd (miT Tb) RX12 cX12_wake 10 none 86 (i_iload 88 5) := snd_iload dX12_wake_86
theorem sX12_wake_88 : Snd (miT Tb) RX12 cX12_wake 10 none 88 (i_isub 89) := snd_isub dX12_wake_88
theorem sX12_wake_89 : Snd (miT Tb) RX12 cX12_wake 10 none 89 (i_goto 99) := snd_goto dX12_wake_89 rfl
theorem sX12_wake_92 : Snd (miT Tb) RX12 cX12_wake 10 none 92 (i_const 93 (vI 3)) := snd_iconst dX12_wake_92
theorem sX12_wake_93 : Snd (miT Tb) RX12 cX12_wake 10 none 93 (i_iload 95 4) := snd_iload dX12_wake_93
theorem sX12_wake_95 : Snd (miT Tb) RX12 cX12_wake 10 none 95 (i_imul 96) := snd_imul dX12_wake_95
theorem sX12_wake_96 : Snd (miT Tb) RX12 cX12_wake 10 none 96 (i_iload 98 5) := snd_iload dX12_wake_96
theorem sX12_wake_98 : Snd (miT Tb) RX12 cX12_wake 10 none 98 (i_iadd 99) := snd_iadd dX12_wake_98
theorem sX12_wake_99 : Snd (miT Tb) RX12 cX12_wake 10 none 99 (i_iadd 100) := snd_iadd dX12_wake_99
theorem sX12_wake_100 : Snd (miT Tb) RX12 cX12_wake 10 none 100 (i_istore 102 7) := snd_istore (by decide) dX12_wake_100
theorem sX12_wake_102 : Snd (miT Tb) RX12 cX12_wake 10 none 102 (i_aload 103 0) := snd_aload_n rfl dX12_wake_102
theorem sX12_wake_103 : Snd (miT Tb) RX12 cX12_wake 10 none 103 (i_getR 11 14 106) := snd_getR rfl (by decide) (by decide) (by decide) (fun hK ho hs hq kk => gf_X12_50 hK ho hs hq rfl dX12_wake_103 kk)
theorem sX12_wake_106 : Snd (miT Tb) RX12 cX12_wake 10 none 106 (i_aload 107 0) := snd_aload_n rfl dX12_wake_106
theorem sX12_wake_107 : Snd (miT Tb) RX12 cX12_wake 10 none 107 (i_iload 108 1) := snd_iload_n rfl dX12_wake_107
theorem sX12_wake_108 : Snd (miT Tb) RX12 cX12_wake 10 none 108 (i_iload 109 2) := snd_iload_n rfl dX12_wake_108
theorem sX12_wake_109 : Snd (miT Tb) RX12 cX12_wake 10 none 109 (i_cV2 27 11 112) := snd_cV2 (fun hK hd hC ho hs h6 h7 h8 kk => iv_X12_249 hK (mc_27 hC) ho hs ⟨hd, by show _ ≤ 40 * (_ + 1); omega⟩ (Nat.le_refl _) h6 h7 h8 ⟨Nat.le_refl _, Nat.le_refl _⟩ dX12_wake_109 kk)
theorem sX12_wake_112 : Snd (miT Tb) RX12 cX12_wake 10 none 112 (i_zald 113) := snd_zald dX12_wake_112
theorem sX12_wake_113 : Snd (miT Tb) RX12 cX12_wake 10 none 113 (i_if_eq 116 120) := snd_if_eq dX12_wake_113 rfl
theorem sX12_wake_116 : Snd (miT Tb) RX12 cX12_wake 10 none 116 (i_const 117 (vI 1)) := snd_iconst dX12_wake_116
theorem sX12_wake_117 : Snd (miT Tb) RX12 cX12_wake 10 none 117 (i_goto 121) := snd_goto dX12_wake_117 rfl
theorem sX12_wake_120 : Snd (miT Tb) RX12 cX12_wake 10 none 120 (i_const 121 (vI 0)) := snd_iconst dX12_wake_120
theorem sX12_wake_121 : Snd (miT Tb) RX12 cX12_wake 10 none 121 (i_istore 123 8) := snd_istore (by decide) dX12_wake_121
theorem sX12_wake_123 : Snd (miT Tb) RX12 cX12_wake 10 none 123 (i_aload 124 0) := snd_aload_n rfl dX12_wake_123
theorem sX12_wake_124 : Snd (miT Tb) RX12 cX12_wake 10 none 124 (i_iload 126 7) := snd_iload dX12_wake_124
theorem sX12_wake_126 : Snd (miT Tb) RX12 cX12_wake 10 none 126 (i_iload 128 6) := snd_iload dX12_wake_126
theorem sX12_wake_128 : Snd (miT Tb) RX12 cX12_wake 10 none 128 (i_if_eq 131 138) := snd_if_eq dX12_wake_128 rfl
theorem sX12_wake_131 : Snd (miT Tb) RX12 cX12_wake 10 none 131 (i_const 132 (vI 1)) := snd_iconst dX12_wake_131
theorem sX12_wake_132 : Snd (miT Tb) RX12 cX12_wake 10 none 132 (i_iload 134 8) := snd_iload dX12_wake_132
theorem sX12_wake_134 : Snd (miT Tb) RX12 cX12_wake 10 none 134 (i_isub 135) := snd_isub dX12_wake_134
theorem sX12_wake_135 : Snd (miT Tb) RX12 cX12_wake 10 none 135 (i_goto 140) := snd_goto dX12_wake_135 rfl
theorem sX12_wake_138 : Snd (miT Tb) RX12 cX12_wake 10 none 138 (i_iload 140 8) := snd_iload dX12_wake_138
theorem sX12_wake_140 : Snd (miT Tb) RX12 cX12_wake 10 none 140 (i_cV2 29 11 143) := snd_cV2 (fun hK hd hC ho hs h6 h7 h8 kk => iv_X12_258 hK (mc_29 hC) ho hs ⟨hd, by show _ ≤ 40 * (_ + 1); omega⟩ (Nat.le_refl _) h6 h7 h8 ⟨Nat.le_refl _, Nat.le_refl _⟩ dX12_wake_140 kk)
theorem sX12_wake_143 : Snd (miT Tb) RX12 cX12_wake 10 none 143 (i_istore 145 9) := snd_istore (by decide) dX12_wake_143
theorem sX12_wake_145 : Snd (miT Tb) RX12 cX12_wake 10 none 145 (i_iload 147 6) := snd_iload dX12_wake_145
theorem sX12_wake_147 : Snd (miT Tb) RX12 cX12_wake 10 none 147 (i_if_eq 150 157) := snd_if_eq dX12_wake_147 rfl
theorem sX12_wake_150 : Snd (miT Tb) RX12 cX12_wake 10 none 150 (i_const 151 (vI 1)) := snd_iconst dX12_wake_150
theorem sX12_wake_151 : Snd (miT Tb) RX12 cX12_wake 10 none 151 (i_iload 153 9) := snd_iload dX12_wake_151
theorem sX12_wake_153 : Snd (miT Tb) RX12 cX12_wake 10 none 153 (i_isub 154) := snd_isub dX12_wake_153
theorem sX12_wake_154 : Snd (miT Tb) RX12 cX12_wake 10 none 154 (i_goto 159) := snd_goto dX12_wake_154 rfl
theorem sX12_wake_157 : Snd (miT Tb) RX12 cX12_wake 10 none 157 (i_iload 159 9) := snd_iload dX12_wake_157
theorem sX12_wake_159 : Snd (miT Tb) RX12 cX12_wake 10 none 159 (i_istore 161 8) := snd_istore (by decide) dX12_wake_159
theorem sX12_wake_161 : Snd (miT Tb) RX12 cX12_wake 10 none 161 (i_aload 162 0) := snd_aload_n rfl dX12_wake_161
theorem sX12_wake_162 : Snd (miT Tb) RX12 cX12_wake 10 none 162 (i_getR 11 14 165) := snd_getR rfl (by decide) (by decide) (by decide) (fun hK ho hs hq kk => gf_X12_50 hK ho hs hq rfl dX12_wake_162 kk)
theorem sX12_wake_165 : Snd (miT Tb) RX12 cX12_wake 10 none 165 (i_aload 166 0) := snd_aload_n rfl dX12_wake_165
theorem sX12_wake_166 : Snd (miT Tb) RX12 cX12_wake 10 none 166 (i_iload 167 1) := snd_iload_n rfl dX12_wake_166
theorem sX12_wake_167 : Snd (miT Tb) RX12 cX12_wake 10 none 167 (i_iload 168 2) := snd_iload_n rfl dX12_wake_167
theorem sX12_wake_168 : Snd (miT Tb) RX12 cX12_wake 10 none 168 (i_cV2 27 11 171) := snd_cV2 (fun hK hd hC ho hs h6 h7 h8 kk => iv_X12_249 hK (mc_27 hC) ho hs ⟨hd, by show _ ≤ 40 * (_ + 1); omega⟩ (Nat.le_refl _) h6 h7 h8 ⟨Nat.le_refl _, Nat.le_refl _⟩ dX12_wake_168 kk)
theorem sX12_wake_171 : Snd (miT Tb) RX12 cX12_wake 10 none 171 (i_iload 173 8) := snd_iload dX12_wake_171
theorem sX12_wake_173 : Snd (miT Tb) RX12 cX12_wake 10 none 173 (i_const 174 (vI 1)) := snd_iconst dX12_wake_173
theorem sX12_wake_174 : Snd (miT Tb) RX12 cX12_wake 10 none 174 (i_icmp_ne 177 181) := snd_icmp_ne dX12_wake_174 rfl
theorem sX12_wake_177 : Snd (miT Tb) RX12 cX12_wake 10 none 177 (i_const 178 (vI 1)) := snd_iconst dX12_wake_177
theorem sX12_wake_178 : Snd (miT Tb) RX12 cX12_wake 10 none 178 (i_goto 182) := snd_goto dX12_wake_178 rfl
theorem sX12_wake_181 : Snd (miT Tb) RX12 cX12_wake 10 none 181 (i_const 182 (vI 0)) := snd_iconst dX12_wake_181
theorem sX12_wake_182 : Snd (miT Tb) RX12 cX12_wake 10 none 182 (i_zast 183) := snd_zast dX12_wake_182
theorem sX12_wake_183 : Snd (miT Tb) RX12 cX12_wake 10 none 183 (i_aload 184 0) := snd_aload_n rfl dX12_wake_183
theorem sX12_wake_184 : Snd (miT Tb) RX12 cX12_wake 10 none 184 (i_getR 11 23 187) := snd_getR rfl (by decide) (by decide) (by decide) (fun hK ho hs hq kk => gf_X12_75 hK ho hs hq rfl dX12_wake_184 kk)
theorem sX12_wake_187 : Snd (miT Tb) RX12 cX12_wake 10 none 187 (i_iload 188 3) := snd_iload_n rfl dX12_wake_187
theorem sX12_wake_188 : Snd (miT Tb) RX12 cX12_wake 10 none 188 (i_iload 190 8) := snd_iload dX12_wake_188
theorem sX12_wake_190 : Snd (miT Tb) RX12 cX12_wake 10 none 190 (i_const 191 (vI 1)) := snd_iconst dX12_wake_190
theorem sX12_wake_191 : Snd (miT Tb) RX12 cX12_wake 10 none 191 (i_icmp_ne 194 198) := snd_icmp_ne dX12_wake_191 rfl
theorem sX12_wake_194 : Snd (miT Tb) RX12 cX12_wake 10 none 194 (i_const 195 (vI (-1))) := snd_iconst dX12_wake_194
theorem sX12_wake_195 : Snd (miT Tb) RX12 cX12_wake 10 none 195 (i_goto 199) := snd_goto dX12_wake_195 rfl
theorem sX12_wake_198 : Snd (miT Tb) RX12 cX12_wake 10 none 198 (i_const 199 (vI 1)) := snd_iconst dX12_wake_198
theorem sX12_wake_199 : Snd (miT Tb) RX12 cX12_wake 10 none 199 (i_iast 200) := snd_iast dX12_wake_199
theorem sX12_wake_200 : Snd (miT Tb) RX12 cX12_wake 10 none 200 (i_aload 201 0) := snd_aload_n rfl dX12_wake_200
theorem sX12_wake_201 : Snd (miT Tb) RX12 cX12_wake 10 none 201 (i_getI 11 29 204) := snd_getI (fun hK ho hs hv kk => gf_X12_163 hK ho hs hv dX12_wake_201 kk)
theorem sX12_wake_204 : Snd (miT Tb) RX12 cX12_wake 10 none 204 (i_const 205 (vI 1)) := snd_iconst dX12_wake_204
theorem sX12_wake_205 : Snd (miT Tb) RX12 cX12_wake 10 none 205 (i_icmp_ne 208 237) := snd_icmp_ne dX12_wake_205 rfl
theorem sX12_wake_208 : Snd (miT Tb) RX12 cX12_wake 10 none 208 (i_aload 209 0) := snd_aload_n rfl dX12_wake_208
theorem sX12_wake_209 : Snd (miT Tb) RX12 cX12_wake 10 none 209 (i_getR 11 13 212) := snd_getR rfl (by decide) (by decide) (by decide) (fun hK ho hs hq kk => gf_X12_47 hK ho hs hq rfl dX12_wake_209 kk)
theorem sX12_wake_212 : Snd (miT Tb) RX12 cX12_wake 10 none 212 (i_aload 213 0) := snd_aload_n rfl dX12_wake_212
theorem sX12_wake_213 : Snd (miT Tb) RX12 cX12_wake 10 none 213 (i_iload 214 1) := snd_iload_n rfl dX12_wake_213
theorem sX12_wake_214 : Snd (miT Tb) RX12 cX12_wake 10 none 214 (i_iload 215 2) := snd_iload_n rfl dX12_wake_214
theorem sX12_wake_215 : Snd (miT Tb) RX12 cX12_wake 10 none 215 (i_cV2 27 11 218) := snd_cV2 (fun hK hd hC ho hs h6 h7 h8 kk => iv_X12_249 hK (mc_27 hC) ho hs ⟨hd, by show _ ≤ 40 * (_ + 1); omega⟩ (Nat.le_refl _) h6 h7 h8 ⟨Nat.le_refl _, Nat.le_refl _⟩ dX12_wake_215 kk)
theorem sX12_wake_218 : Snd (miT Tb) RX12 cX12_wake 10 none 218 (i_aload 219 0) := snd_aload_n rfl dX12_wake_218
theorem sX12_wake_219 : Snd (miT Tb) RX12 cX12_wake 10 none 219 (i_getR 11 13 222) := snd_getR rfl (by decide) (by decide) (by decide) (fun hK ho hs hq kk => gf_X12_47 hK ho hs hq rfl dX12_wake_219 kk)
theorem sX12_wake_222 : Snd (miT Tb) RX12 cX12_wake 10 none 222 (i_aload 223 0) := snd_aload_n rfl dX12_wake_222
theorem sX12_wake_223 : Snd (miT Tb) RX12 cX12_wake 10 none 223 (i_iload 224 1) := snd_iload_n rfl dX12_wake_223
theorem sX12_wake_224 : Snd (miT Tb) RX12 cX12_wake 10 none 224 (i_iload 225 2) := snd_iload_n rfl dX12_wake_224
theorem sX12_wake_225 : Snd (miT Tb) RX12 cX12_wake 10 none 225 (i_cV2 27 11 228) := snd_cV2 (fun hK hd hC ho hs h6 h7 h8 kk => iv_X12_249 hK (mc_27 hC) ho hs ⟨hd, by show _ ≤ 40 * (_ + 1); omega⟩ (Nat.le_refl _) h6 h7 h8 ⟨Nat.le_refl _, Nat.le_refl _⟩ dX12_wake_225 kk)
theorem sX12_wake_228 : Snd (miT Tb) RX12 cX12_wake 10 none 228 (i_iald 229) := snd_iald dX12_wake_228
theorem sX12_wake_229 : Snd (miT Tb) RX12 cX12_wake 10 none 229 (i_const 230 (vI 1)) := snd_iconst dX12_wake_229
theorem sX12_wake_230 : Snd (miT Tb) RX12 cX12_wake 10 none 230 (i_aload 231 0) := snd_aload_n rfl dX12_wake_230
theorem sX12_wake_231 : Snd (miT Tb) RX12 cX12_wake 10 none 231 (i_getI 11 27 234) := snd_getI (fun hK ho hs hv kk => gf_X12_252 hK ho hs hv dX12_wake_231 kk)
theorem sX12_wake_234 : Snd (miT Tb) RX12 cX12_wake 10 none 234 (i_ishl 235) := snd_ishl dX12_wake_234
theorem sX12_wake_235 : Snd (miT Tb) RX12 cX12_wake 10 none 235 (i_ior 236) := snd_ior dX12_wake_235
theorem sX12_wake_236 : Snd (miT Tb) RX12 cX12_wake 10 none 236 (i_iast 237) := snd_iast dX12_wake_236
theorem sX12_wake_237 : Snd (miT Tb) RX12 cX12_wake 10 none 237 (i_vret) := snd_vret dX12_wake_237
theorem kX12_wake : raA (okI (miT Tb) (yX12_wake, cX12_wake, 10, none)) tX12_wake := (raA_br (raA_br (raA_br (raA_br (raA_br (raA_br (raA_br (raA_leaf sX12_wake_0) (raA_leaf sX12_wake_1)) (raA_br (raA_leaf sX12_wake_2) (raA_leaf sX12_wake_5))) (raA_br (raA_br (raA_leaf sX12_wake_6) (raA_leaf sX12_wake_7)) (raA_br (raA_leaf sX12_wake_10) (raA_leaf sX12_wake_11)))) (raA_br (raA_br (raA_br (raA_leaf sX12_wake_12) (raA_leaf sX12_wake_13)) (raA_br (raA_leaf sX12_wake_14) (raA_leaf sX12_wake_15))) (raA_br (raA_br (raA_leaf sX12_wake_18) (raA_leaf sX12_wake_19)) (raA_br (raA_leaf sX12_wake_20) (raA_br (raA_leaf sX12_wake_21) (raA_leaf sX12_wake_22)))))) (raA_br (raA_br (raA_br (raA_br (raA_leaf sX12_wake_23) (raA_leaf sX12_wake_26)) (raA_br (raA_leaf sX12_wake_28) (raA_leaf sX12_wake_29))) (raA_br (raA_br (raA_leaf sX12_wake_32) (raA_leaf sX12_wake_33)) (raA_br (raA_leaf sX12_wake_35) (raA_leaf sX12_wake_36)))) (raA_br (raA_br (raA_br (raA_leaf sX12_wake_37) (raA_leaf sX12_wake_38)) (raA_br (raA_leaf sX12_wake_41) (raA_leaf sX12_wake_42))) (raA_br (raA_br (raA_leaf sX12_wake_44) (raA_leaf sX12_wake_45)) (raA_br (raA_leaf sX12_wake_46) (raA_br (raA_leaf sX12_wake_47) (raA_leaf sX12_wake_50))))))) (raA_br (raA_br (raA_br (raA_br (raA_br (raA_leaf sX12_wake_52) (raA_leaf sX12_wake_54)) (raA_br (raA_leaf sX12_wake_57) (raA_leaf sX12_wake_59))) (raA_br (raA_br (raA_leaf sX12_wake_62) (raA_leaf sX12_wake_64)) (raA_br (raA_leaf sX12_wake_67) (raA_leaf sX12_wake_68)))) (raA_br (raA_br (raA_br (raA_leaf sX12_wake_71) (raA_leaf sX12_wake_72)) (raA_br (raA_leaf sX12_wake_74) (raA_leaf sX12_wake_76))) (raA_br (raA_br (raA_leaf sX12_wake_78) (raA_leaf sX12_wake_81)) (raA_br (raA_leaf sX12_wake_83) (raA_br (raA_leaf sX12_wake_85) (raA_leaf sX12_wake_86)))))) (raA_br (raA_br (raA_br (raA_br (raA_leaf sX12_wake_88) (raA_leaf sX12_wake_89)) (raA_br (raA_leaf sX12_wake_92) (raA_leaf sX12_wake_93))) (raA_br (raA_br (raA_leaf sX12_wake_95) (raA_leaf sX12_wake_96)) (raA_br (raA_leaf sX12_wake_98) (raA_br (raA_leaf sX12_wake_99) (raA_leaf sX12_wake_100))))) (raA_br (raA_br (raA_br (raA_leaf sX12_wake_102) (raA_leaf sX12_wake_103)) (raA_br (raA_leaf sX12_wake_106) (raA_leaf sX12_wake_107))) (raA_br (raA_br (raA_leaf sX12_wake_108) (raA_leaf sX12_wake_109)) (raA_br (raA_leaf sX12_wake_112) (raA_br (raA_leaf sX12_wake_113) (raA_leaf sX12_wake_116)))))))) (raA_br (raA_br (raA_br (raA_br (raA_br (raA_br (raA_leaf sX12_wake_117) (raA_leaf sX12_wake_120)) (raA_br (raA_leaf sX12_wake_121) (raA_leaf sX12_wake_123))) (raA_br (raA_br (raA_leaf sX12_wake_124) (raA_leaf sX12_wake_126)) (raA_br (raA_leaf sX12_wake_128) (raA_leaf sX12_wake_131)))) (raA_br (raA_br (raA_br (raA_leaf sX12_wake_132) (raA_leaf sX12_wake_134)) (raA_br (raA_leaf sX12_wake_135) (raA_leaf sX12_wake_138))) (raA_br (raA_br (raA_leaf sX12_wake_140) (raA_leaf sX12_wake_143)) (raA_br (raA_leaf sX12_wake_145) (raA_br (raA_leaf sX12_wake_147) (raA_leaf sX12_wake_150)))))) (raA_br (raA_br (raA_br (raA_br (raA_leaf sX12_wake_151) (raA_leaf sX12_wake_153)) (raA_br (raA_leaf sX12_wake_154) (raA_leaf sX12_wake_157))) (raA_br (raA_br (raA_leaf sX12_wake_159) (raA_leaf sX12_wake_161)) (raA_br (raA_leaf sX12_wake_162) (raA_leaf sX12_wake_165)))) (raA_br (raA_br (raA_br (raA_leaf sX12_wake_166) (raA_leaf sX12_wake_167)) (raA_br (raA_leaf sX12_wake_168) (raA_leaf sX12_wake_171))) (raA_br (raA_br (raA_leaf sX12_wake_173) (raA_leaf sX12_wake_174)) (raA_br (raA_leaf sX12_wake_177) (raA_br (raA_leaf sX12_wake_178) (raA_leaf sX12_wake_181))))))) (raA_br (raA_br (raA_br (raA_br (raA_br (raA_leaf sX12_wake_182) (raA_leaf sX12_wake_183)) (raA_br (raA_leaf sX12_wake_184) (raA_leaf sX12_wake_187))) (raA_br (raA_br (raA_leaf sX12_wake_188) (raA_leaf sX12_wake_190)) (raA_br (raA_leaf sX12_wake_191) (raA_leaf sX12_wake_194)))) (raA_br (raA_br (raA_br (raA_leaf sX12_wake_195) (raA_leaf sX12_wake_198)) (raA_br (raA_leaf sX12_wake_199) (raA_leaf sX12_wake_200))) (raA_br (raA_br (raA_leaf sX12_wake_201) (raA_leaf sX12_wake_204)) (raA_br (raA_leaf sX12_wake_205) (raA_br (raA_leaf sX12_wake_208) (raA_leaf sX12_wake_209)))))) (raA_br (raA_br (raA_br (raA_br (raA_leaf sX12_wake_212) (raA_leaf sX12_wake_213)) (raA_br (raA_leaf sX12_wake_214) (raA_leaf sX12_wake_215))) (raA_br (raA_br (raA_leaf sX12_wake_218) (raA_leaf sX12_wake_219)) (raA_br (raA_leaf sX12_wake_222) (raA_br (raA_leaf sX12_wake_223) (raA_leaf sX12_wake_224))))) (raA_br (raA_br (raA_br (raA_leaf sX12_wake_225) (raA_leaf sX12_wake_228)) (raA_br (raA_leaf sX12_wake_229) (raA_leaf sX12_wake_230))) (raA_br (raA_br (raA_leaf sX12_wake_231) (raA_leaf sX12_wake_234)) (raA_br (raA_leaf sX12_wake_235) (raA_br (raA_leaf sX12_wake_236) (raA_leaf sX12_wake_237)))))))))
theorem sX12_walk_0 : Snd (miT Tb) RX12 cX12_walk 7 none 0 (i_aload 1 0) := snd_aload_n rfl dX12_walk_0
theorem sX12_walk_1 : Snd (miT Tb) RX12 cX12_walk 7 none 1 (i_iload 2 1) := snd_iload_n rfl dX12_walk_1
theorem sX12_walk_2 : Snd (miT Tb) RX12 cX12_walk 7 none 2 (i_putI 11 26 5) := snd_putI (fun hK ho hs kk => pf_X12_246 hK ho hs dX12_walk_2 kk)
theorem sX12_walk_5 : Snd (miT Tb) RX12 cX12_walk 7 none 5 (i_const 6 (vI 0)) := snd_iconst dX12_walk_5
theorem sX12_walk_6 : Snd (miT Tb) RX12 cX12_walk 7 none 6 (i_istore 7 3) := snd_istore_n rfl (by decide) dX12_walk_6
theorem sX12_walk_7 : Snd (miT Tb) RX12 cX12_walk 7 none 7 (i_iload 8 3) := snd_iload_n rfl dX12_walk_7
theorem sX12_walk_8 : Snd (miT Tb) RX12 cX12_walk 7 none 8 (i_const 10 (vI 100)) := snd_bipush (by decide) dX12_walk_8
theorem sX12_walk_10 : Snd (miT Tb) RX12 cX12_walk 7 none 10 (i_icmp_ge 13 26) := snd_icmp_ge dX12_walk_10 rfl
theorem sX12_walk_13 : Snd (miT Tb) RX12 cX12_walk 7 none 13 (i_aload 14 0) := snd_aload_n rfl dX12_walk_13
theorem sX12_walk_14 : Snd (miT Tb) RX12 cX12_walk 7 none 14 (i_getR 11 23 17) := snd_getR rfl (by decide) (by decide) (by decide) (fun hK ho hs hq kk => gf_X12_75 hK ho hs hq rfl dX12_walk_14 kk)
theorem sX12_walk_17 : Snd (miT Tb) RX12 cX12_walk 7 none 17 (i_iload 18 3) := snd_iload_n rfl dX12_walk_17
theorem sX12_walk_18 : Snd (miT Tb) RX12 cX12_walk 7 none 18 (i_const 19 (vI 0)) := snd_iconst dX12_walk_18
theorem sX12_walk_19 : Snd (miT Tb) RX12 cX12_walk 7 none 19 (i_iast 20) := snd_iast dX12_walk_19
theorem sX12_walk_20 : Snd (miT Tb) RX12 cX12_walk 7 none 20 (i_iinc 23 3 1) := snd_iinc (by decide) dX12_walk_20
theorem sX12_walk_23 : Snd (miT Tb) RX12 cX12_walk 7 none 23 (i_goto 7) := snd_goto dX12_walk_23 rfl
theorem sX12_walk_26 : Snd (miT Tb) RX12 cX12_walk 7 none 26 (i_const 27 (vI 0)) := snd_iconst dX12_walk_26
theorem sX12_walk_27 : Snd (miT Tb) RX12 cX12_walk 7 none 27 (i_istore 28 3) := snd_istore_n rfl (by decide) dX12_walk_27
theorem sX12_walk_28 : Snd (miT Tb) RX12 cX12_walk 7 none 28 (i_iload 29 3) := snd_iload_n rfl dX12_walk_28
theorem sX12_walk_29 : Snd (miT Tb) RX12 cX12_walk 7 none 29 (i_const 31 (vI 64)) := snd_bipush (by decide) dX12_walk_29
theorem sX12_walk_31 : Snd (miT Tb) RX12 cX12_walk 7 none 31 (i_icmp_ge 34 47) := snd_icmp_ge dX12_walk_31 rfl
theorem sX12_walk_34 : Snd (miT Tb) RX12 cX12_walk 7 none 34 (i_aload 35 0) := snd_aload_n rfl dX12_walk_34
theorem sX12_walk_35 : Snd (miT Tb) RX12 cX12_walk 7 none 35 (i_getR 11 25 38) := snd_getR rfl (by decide) (by decide) (by decide) (fun hK ho hs hq kk => gf_X12_81 hK ho hs hq rfl dX12_walk_35 kk)
theorem sX12_walk_38 : Snd (miT Tb) RX12 cX12_walk 7 none 38 (i_iload 39 3) := snd_iload_n rfl dX12_walk_38
theorem sX12_walk_39 : Snd (miT Tb) RX12 cX12_walk 7 none 39 (i_const 40 (vI 0)) := snd_iconst dX12_walk_39
theorem sX12_walk_40 : Snd (miT Tb) RX12 cX12_walk 7 none 40 (i_zast 41) := snd_zast dX12_walk_40
theorem sX12_walk_41 : Snd (miT Tb) RX12 cX12_walk 7 none 41 (i_iinc 44 3 1) := snd_iinc (by decide) dX12_walk_41
theorem sX12_walk_44 : Snd (miT Tb) RX12 cX12_walk 7 none 44 (i_goto 28) := snd_goto dX12_walk_44 rfl
theorem sX12_walk_47 : Snd (miT Tb) RX12 cX12_walk 7 none 47 (i_aload 48 0) := snd_aload_n rfl dX12_walk_47
theorem sX12_walk_48 : Snd (miT Tb) RX12 cX12_walk 7 none 48 (i_aload 49 0) := snd_aload_n rfl dX12_walk_48
theorem sX12_walk_49 : Snd (miT Tb) RX12 cX12_walk 7 none 49 (i_getR 11 12 52) := snd_getR rfl (by decide) (by decide) (by decide) (fun hK ho hs hq kk => gf_X12_44 hK ho hs hq rfl dX12_walk_49 kk)
theorem sX12_walk_52 : Snd (miT Tb) RX12 cX12_walk 7 none 52 (i_iload 53 1) := snd_iload_n rfl dX12_walk_52
theorem sX12_walk_53 : Snd (miT Tb) RX12 cX12_walk 7 none 53 (i_iald 54) := snd_iald dX12_walk_53
theorem sX12_walk_54 : Snd (miT Tb) RX12 cX12_walk 7 none 54 (i_const 55 (vI 1)) := snd_iconst dX12_walk_54
theorem sX12_walk_55 : Snd (miT Tb) RX12 cX12_walk 7 none 55 (i_isub 56) := snd_isub dX12_walk_55
theorem sX12_walk_56 : Snd (miT Tb) RX12 cX12_walk 7 none 56 (i_putI 11 27 59) := snd_putI (fun hK ho hs kk => pf_X12_252 hK ho hs dX12_walk_56 kk)
theorem sX12_walk_59 : Snd (miT Tb) RX12 cX12_walk 7 none 59 (i_const 60 (vI 2)) := snd_iconst dX12_walk_59
theorem sX12_walk_60 : Snd (miT Tb) RX12 cX12_walk 7 none 60 (i_istore 61 3) := snd_istore_n rfl (by decide) dX12_walk_60
theorem sX12_walk_61 : Snd (miT Tb) RX12 cX12_walk 7 none 61 (i_const 62 (vI 0)) := snd_iconst dX12_walk_61
theorem sX12_walk_62 : Snd (miT Tb) RX12 cX12_walk 7 none 62 (i_istore 64 4) := snd_istore (by decide) dX12_walk_62
theorem sX12_walk_64 : Snd (miT Tb) RX12 cX12_walk 7 none 64 (i_iload 66 4) := snd_iload dX12_walk_64
theorem sX12_walk_66 : Snd (miT Tb) RX12 cX12_walk 7 none 66 (i_iload 67 2) := snd_iload_n rfl dX12_walk_66
theorem sX12_walk_67 : Snd (miT Tb) RX12 cX12_walk 7 none 67 (i_icmp_ge 70 193) := snd_icmp_ge dX12_walk_67 rfl
theorem sX12_walk_70 : Snd (miT Tb) RX12 cX12_walk 7 none 70 (i_const 71 (vI 0)) := snd_iconst dX12_walk_70
theorem sX12_walk_71 : Snd (miT Tb) RX12 cX12_walk 7 none 71 (i_istore 73 5) := snd_istore (by decide) dX12_walk_71
theorem sX12_walk_73 : Snd (miT Tb) RX12 cX12_walk 7 none 73 (i_iload 75 5) := snd_iload dX12_walk_73
theorem sX12_walk_75 : Snd (miT Tb) RX12 cX12_walk 7 none 75 (i_const 77 (vI 64)) := snd_bipush (by decide) dX12_walk_75
theorem sX12_walk_77 : Snd (miT Tb) RX12 cX12_walk 7 none 77 (i_icmp_ge 80 103) := snd_icmp_ge dX12_walk_77 rfl
theorem sX12_walk_80 : Snd (miT Tb) RX12 cX12_walk 7 none 80 (i_iload 81 3) := snd_iload_n rfl dX12_walk_80
theorem sX12_walk_81 : Snd (miT Tb) RX12 cX12_walk 7 none 81 (i_if_eq 84 89) := snd_if_eq dX12_walk_81 rfl
theorem sX12_walk_84 : Snd (miT Tb) RX12 cX12_walk 7 none 84 (i_iload 86 4) := snd_iload dX12_walk_84
theorem sX12_walk_86 : Snd (miT Tb) RX12 cX12_walk 7 none 86 (i_if_ne 89 103) := snd_if_ne dX12_walk_86 rfl
theorem sX12_walk_89 : Snd (miT Tb) RX12 cX12_walk 7 none 89 (i_aload 90 0) := snd_aload_n rfl dX12_walk_89
theorem sX12_walk_90 : Snd (miT Tb) RX12 cX12_walk 7 none 90 (i_getR 11 24 93) := snd_getR rfl (by decide) (by decide) (by decide) (fun hK ho hs hq kk => gf_X12_78 hK ho hs hq rfl dX12_walk_90 kk)
theorem sX12_walk_93 : Snd (miT Tb) RX12 cX12_walk 7 none 93 (i_iload 95 5) := snd_iload dX12_walk_93
theorem sX12_walk_95 : Snd (miT Tb) RX12 cX12_walk 7 none 95 (i_const 96 (vI 0)) := snd_iconst dX12_walk_95
theorem sX12_walk_96 : Snd (miT Tb) RX12 cX12_walk 7 none 96 (i_zast 97) := snd_zast dX12_walk_96
theorem sX12_walk_97 : Snd (miT Tb) RX12 cX12_walk 7 none 97 (i_iinc 100 5 1) := snd_iinc (by decide) dX12_walk_97
theorem sX12_walk_100 : Snd (miT Tb) RX12 cX12_walk 7 none 100 (i_goto 73) := snd_goto dX12_walk_100 rfl
theorem sX12_walk_103 : Snd (miT Tb) RX12 cX12_walk 7 none 103 (i_const 104 (vI 0)) := snd_iconst dX12_walk_103
theorem sX12_walk_104 : Snd (miT Tb) RX12 cX12_walk 7 none 104 (i_istore 106 5) := snd_istore (by decide) dX12_walk_104
theorem sX12_walk_106 : Snd (miT Tb) RX12 cX12_walk 7 none 106 (i_iload 108 5) := snd_iload dX12_walk_106
theorem sX12_walk_108 : Snd (miT Tb) RX12 cX12_walk 7 none 108 (i_aload 109 0) := snd_aload_n rfl dX12_walk_108
theorem sX12_walk_109 : Snd (miT Tb) RX12 cX12_walk 7 none 109 (i_getR 11 10 112) := snd_getR rfl (by decide) (by decide) (by decide) (fun hK ho hs hq kk => gf_X12_38 hK ho hs hq rfl dX12_walk_109 kk)
theorem sX12_walk_112 : Snd (miT Tb) RX12 cX12_walk 7 none 112 (i_iload 113 1) := snd_iload_n rfl dX12_walk_112
theorem sX12_walk_113 : Snd (miT Tb) RX12 cX12_walk 7 none 113 (i_iald 114) := snd_iald dX12_walk_113
theorem sX12_walk_114 : Snd (miT Tb) RX12 cX12_walk 7 none 114 (i_icmp_ge 117 152) := snd_icmp_ge dX12_walk_114 rfl
theorem sX12_walk_117 : Snd (miT Tb) RX12 cX12_walk 7 none 117 (i_const 118 (vI 0)) := snd_iconst dX12_walk_117
theorem sX12_walk_118 : Snd (miT Tb) RX12 cX12_walk 7 none 118 (i_istore 120 6) := snd_istore (by decide) dX12_walk_118
theorem sX12_walk_120 : Snd (miT Tb) RX12 cX12_walk 7 none 120 (i_iload 122 6) := snd_iload dX12_walk_120
theorem sX12_walk_122 : Snd (miT Tb) RX12 cX12_walk 7 none 122 (i_aload 123 0) := snd_aload_n rfl dX12_walk_122
theorem sX12_walk_123 : Snd (miT Tb) RX12 cX12_walk 7 none 123 (i_getR 11 9 126) := snd_getR rfl (by decide) (by decide) (by decide) (fun hK ho hs hq kk => gf_X12_35 hK ho hs hq rfl dX12_walk_123 kk)
theorem sX12_walk_126 : Snd (miT Tb) RX12 cX12_walk 7 none 126 (i_iload 127 1) := snd_iload_n rfl dX12_walk_126
theorem sX12_walk_127 : Snd (miT Tb) RX12 cX12_walk 7 none 127 (i_iald 128) := snd_iald dX12_walk_127
theorem sX12_walk_128 : Snd (miT Tb) RX12 cX12_walk 7 none 128 (i_icmp_ge 131 146) := snd_icmp_ge dX12_walk_128 rfl
theorem sX12_walk_131 : Snd (miT Tb) RX12 cX12_walk 7 none 131 (i_aload 132 0) := snd_aload_n rfl dX12_walk_131
theorem sX12_walk_132 : Snd (miT Tb) RX12 cX12_walk 7 none 132 (i_iload 133 3) := snd_iload_n rfl dX12_walk_132
theorem sX12_walk_133 : Snd (miT Tb) RX12 cX12_walk 7 none 133 (i_iload 135 6) := snd_iload dX12_walk_133
theorem sX12_walk_135 : Snd (miT Tb) RX12 cX12_walk 7 none 135 (i_iload 137 5) := snd_iload dX12_walk_135
theorem sX12_walk_137 : Snd (miT Tb) RX12 cX12_walk 7 none 137 (i_cV3 30 11 140) := snd_cV3 (fun hK hd hC ho hs h6 h7 h8 kk => iv_X12_286 hK (mc_30 hC) ho hs ⟨hd, by show _ ≤ 40 * (_ + 1); omega⟩ (Nat.le_refl _) h6 h7 h8 ⟨Nat.le_refl _, Nat.le_refl _⟩ dX12_walk_137 kk)
theorem sX12_walk_140 : Snd (miT Tb) RX12 cX12_walk 7 none 140 (i_iinc 143 6 1) := snd_iinc (by decide) dX12_walk_140
theorem sX12_walk_143 : Snd (miT Tb) RX12 cX12_walk 7 none 143 (i_goto 120) := snd_goto dX12_walk_143 rfl
theorem sX12_walk_146 : Snd (miT Tb) RX12 cX12_walk 7 none 146 (i_iinc 149 5 4) := snd_iinc (by decide) dX12_walk_146
theorem sX12_walk_149 : Snd (miT Tb) RX12 cX12_walk 7 none 149 (i_goto 106) := snd_goto dX12_walk_149 rfl
theorem sX12_walk_152 : Snd (miT Tb) RX12 cX12_walk 7 none 152 (i_aload 153 0) := snd_aload_n rfl dX12_walk_152
theorem sX12_walk_153 : Snd (miT Tb) RX12 cX12_walk 7 none 153 (i_iload 154 3) := snd_iload_n rfl dX12_walk_153
theorem sX12_walk_154 : Snd (miT Tb) RX12 cX12_walk 7 none 154 (i_const 155 (vI 2)) := snd_iconst dX12_walk_154
theorem sX12_walk_155 : Snd (miT Tb) RX12 cX12_walk 7 none 155 (i_icmp_ne 158 167) := snd_icmp_ne dX12_walk_155 rfl
theorem sX12_walk_158 : Snd (miT Tb) RX12 cX12_walk 7 none 158 (i_aload 159 0) := snd_aload_n rfl dX12_walk_158
theorem sX12_walk_159 : Snd (miT Tb) RX12 cX12_walk 7 none 159 (i_getI 11 27 162) := snd_getI (fun hK ho hs hv kk => gf_X12_252 hK ho hs hv dX12_walk_159 kk)
theorem sX12_walk_162 : Snd (miT Tb) RX12 cX12_walk 7 none 162 (i_const 163 (vI 1)) := snd_iconst dX12_walk_162
theorem sX12_walk_163 : Snd (miT Tb) RX12 cX12_walk 7 none 163 (i_isub 164) := snd_isub dX12_walk_163
theorem sX12_walk_164 : Snd (miT Tb) RX12 cX12_walk 7 none 164 (i_goto 171) := snd_goto dX12_walk_164 rfl
theorem sX12_walk_167 : Snd (miT Tb) RX12 cX12_walk 7 none 167 (i_aload 168 0) := snd_aload_n rfl dX12_walk_167
theorem sX12_walk_168 : Snd (miT Tb) RX12 cX12_walk 7 none 168 (i_getI 11 27 171) := snd_getI (fun hK ho hs hv kk => gf_X12_252 hK ho hs hv dX12_walk_168 kk)
theorem sX12_walk_171 : Snd (miT Tb) RX12 cX12_walk 7 none 171 (i_putI 11 27 174) := snd_putI (fun hK ho hs kk => pf_X12_252 hK ho hs dX12_walk_171 kk)
theorem sX12_walk_174 : Snd (miT Tb) RX12 cX12_walk 7 none 174 (i_iload 175 3) := snd_iload_n rfl dX12_walk_174
theorem sX12_walk_175 : Snd (miT Tb) RX12 cX12_walk 7 none 175 (i_const 176 (vI 2)) := snd_iconst dX12_walk_175
theorem sX12_walk_176 : Snd (miT Tb) RX12 cX12_walk 7 none 176 (i_icmp_ne 179 183) := snd_icmp_ne dX12_walk_176 rfl
theorem sX12_walk_179 : Snd (miT Tb) RX12 cX12_walk 7 none 179 (i_const 180 (vI 0)) := snd_iconst dX12_walk_179
theorem sX12_walk_180 : Snd (miT Tb) RX12 cX12_walk 7 none 180 (i_goto 186) := snd_goto dX12_walk_180 rfl
theorem sX12_walk_183 : Snd (miT Tb) RX12 cX12_walk 7 none 183 (i_iload 184 3) := snd_iload_n rfl dX12_walk_183
theorem sX12_walk_184 : Snd (miT Tb) RX12 cX12_walk 7 none 184 (i_const 185 (vI 1)) := snd_iconst dX12_walk_184
theorem sX12_walk_185 : Snd (miT Tb) RX12 cX12_walk 7 none 185 (i_iadd 186) := snd_iadd dX12_walk_185
theorem sX12_walk_186 : Snd (miT Tb) RX12 cX12_walk 7 none 186 (i_istore 187 3) := snd_istore_n rfl (by decide) dX12_walk_186
theorem sX12_walk_187 : Snd (miT Tb) RX12 cX12_walk 7 none 187 (i_iinc 190 4 1) := snd_iinc (by decide) dX12_walk_187
theorem sX12_walk_190 : Snd (miT Tb) RX12 cX12_walk 7 none 190 (i_goto 64) := snd_goto dX12_walk_190 rfl
theorem sX12_walk_193 : Snd (miT Tb) RX12 cX12_walk 7 none 193 (i_vret) := snd_vret dX12_walk_193
theorem kX12_walk : raA (okI (miT Tb) (yX12_walk, cX12_walk, 7, none)) tX12_walk := (raA_br (raA_br (raA_br (raA_br (raA_br (raA_br (raA_leaf sX12_walk_0) (raA_br (raA_leaf sX12_walk_1) (raA_leaf sX12_walk_2))) (raA_br (raA_leaf sX12_walk_5) (raA_br (raA_leaf sX12_walk_6) (raA_leaf sX12_walk_7)))) (raA_br (raA_br (raA_leaf sX12_walk_8) (raA_br (raA_leaf sX12_walk_10) (raA_leaf sX12_walk_13))) (raA_br (raA_br (raA_leaf sX12_walk_14) (raA_leaf sX12_walk_17)) (raA_br (raA_leaf sX12_walk_18) (raA_leaf sX12_walk_19))))) (raA_br (raA_br (raA_br (raA_leaf sX12_walk_20) (raA_br (raA_leaf sX12_walk_23) (raA_leaf sX12_walk_26))) (raA_br (raA_leaf sX12_walk_27) (raA_br (raA_leaf sX12_walk_28) (raA_leaf sX12_walk_29)))) (raA_br (raA_br (raA_leaf sX12_walk_31) (raA_br (raA_leaf sX12_walk_34) (raA_leaf sX12_walk_35))) (raA_br (raA_br (raA_leaf sX12_walk_38) (raA_leaf sX12_walk_39)) (raA_br (raA_leaf sX12_walk_40) (raA_leaf sX12_walk_41)))))) (raA_br (raA_br (raA_br (raA_br (raA_leaf sX12_walk_44) (raA_br (raA_leaf sX12_walk_47) (raA_leaf sX12_walk_48))) (raA_br (raA_leaf sX12_walk_49) (raA_br (raA_leaf sX12_walk_52) (raA_leaf sX12_walk_53)))) (raA_br (raA_br (raA_leaf sX12_walk_54) (raA_br (raA_leaf sX12_walk_55) (raA_leaf sX12_walk_56))) (raA_br (raA_br (raA_leaf sX12_walk_59) (raA_leaf sX12_walk_60)) (raA_br (raA_leaf sX12_walk_61) (raA_leaf sX12_walk_62))))) (raA_br (raA_br (raA_br (raA_leaf sX12_walk_64) (raA_br (raA_leaf sX12_walk_66) (raA_leaf sX12_walk_67))) (raA_br (raA_br (raA_leaf sX12_walk_70) (raA_leaf sX12_walk_71)) (raA_br (raA_leaf sX12_walk_73) (raA_leaf sX12_walk_75)))) (raA_br (raA_br (raA_leaf sX12_walk_77) (raA_br (raA_leaf sX12_walk_80) (raA_leaf sX12_walk_81))) (raA_br (raA_br (raA_leaf sX12_walk_84) (raA_leaf sX12_walk_86)) (raA_br (raA_leaf sX12_walk_89) (raA_leaf sX12_walk_90))))))) (raA_br (raA_br (raA_br (raA_br (raA_br (raA_leaf sX12_walk_93) (raA_br (raA_leaf sX12_walk_95) (raA_leaf sX12_walk_96))) (raA_br (raA_leaf sX12_walk_97) (raA_br (raA_leaf sX12_walk_100) (raA_leaf sX12_walk_103)))) (raA_br (raA_br (raA_leaf sX12_walk_104) (raA_br (raA_leaf sX12_walk_106) (raA_leaf sX12_walk_108))) (raA_br (raA_br (raA_leaf sX12_walk_109) (raA_leaf sX12_walk_112)) (raA_br (raA_leaf sX12_walk_113) (raA_leaf sX12_walk_114))))) (raA_br (raA_br (raA_br (raA_leaf sX12_walk_117) (raA_br (raA_leaf sX12_walk_118) (raA_leaf sX12_walk_120))) (raA_br (raA_br (raA_leaf sX12_walk_122) (raA_leaf sX12_walk_123)) (raA_br (raA_leaf sX12_walk_126) (raA_leaf sX12_walk_127)))) (raA_br (raA_br (raA_leaf sX12_walk_128) (raA_br (raA_leaf sX12_walk_131) (raA_leaf sX12_walk_132))) (raA_br (raA_br (raA_leaf sX12_walk_133) (raA_leaf sX12_walk_135)) (raA_br (raA_leaf sX12_walk_137) (raA_leaf sX12_walk_140)))))) (raA_br (raA_br (raA_br (raA_br (raA_leaf sX12_walk_143) (raA_br (raA_leaf sX12_walk_146) (raA_leaf sX12_walk_149))) (raA_br (raA_leaf sX12_walk_152) (raA_br (raA_leaf sX12_walk_153) (raA_leaf sX12_walk_154)))) (raA_br (raA_br (raA_leaf sX12_walk_155) (raA_br (raA_leaf sX12_walk_158) (raA_leaf sX12_walk_159))) (raA_br (raA_br (raA_leaf sX12_walk_162) (raA_leaf sX12_walk_163)) (raA_br (raA_leaf sX12_walk_164) (raA_leaf sX12_walk_167))))) (raA_br (raA_br (raA_br (raA_leaf sX12_walk_168) (raA_br (raA_leaf sX12_walk_171) (raA_leaf sX12_walk_174))) (raA_br (raA_br (raA_leaf sX12_walk_175) (raA_leaf sX12_walk_176)) (raA_br (raA_leaf sX12_walk_179) (raA_leaf sX12_walk_180)))) (raA_br (raA_br (raA_leaf sX12_walk_183) (raA_br (raA_leaf sX12_walk_184) (raA_leaf sX12_walk_185))) (raA_br (raA_br (raA_leaf sX12_walk_186) (raA_leaf sX12_walk_187)) (raA_br (raA_leaf sX12_walk_190) (raA_leaf sX12_walk_193))))))))
theorem sX12_within_0 : Snd (miT Tb) RX12 cX12_within 3 (some .boolean) 0 (i_iload 1 0) := snd_iload_n rfl dX12_within_0
theorem sX12_within_1 : Snd (miT Tb) RX12 cX12_within 3 (some .boolean) 1 (i_iload 2 1) := snd_iload_n rfl dX12_within_1
theorem sX12_within_2 : Snd (miT Tb) RX12 cX12_within 3 (some .boolean) 2 (i_icmp_lt 5 14) := snd_icmp_lt dX12_within_2 rfl
theorem sX12_within_5 : Snd (miT Tb) RX12 cX12_within 3 (some .boolean) 5 (i_iload 6 0) := snd_iload_n rfl dX12_within_5
theorem sX12_within_6 : Snd (miT Tb) RX12 cX12_within 3 (some .boolean) 6 (i_iload 7 2) := snd_iload_n rfl dX12_within_6
theorem sX12_within_7 : Snd (miT Tb) RX12 cX12_within 3 (some .boolean) 7 (i_icmp_gt 10 14) := snd_icmp_gt dX12_within_7 rfl
theorem sX12_within_10 : Snd (miT Tb) RX12 cX12_within 3 (some .boolean) 10 (i_const 11 (vI 1)) := snd_iconst dX12_within_10
theorem sX12_within_11 : Snd (miT Tb) RX12 cX12_within 3 (some .boolean) 11 (i_goto 15) := snd_goto dX12_within_11 rfl
theorem sX12_within_14 : Snd (miT Tb) RX12 cX12_within 3 (some .boolean) 14 (i_const 15 (vI 0)) := snd_iconst dX12_within_14
theorem sX12_within_15 : Snd (miT Tb) RX12 cX12_within 3 (some .boolean) 15 (i_zret) := snd_zret dX12_within_15
theorem kX12_within : raA (okI (miT Tb) (yX12_within, cX12_within, 3, (some .boolean))) tX12_within := (raA_br (raA_br (raA_br (raA_leaf sX12_within_0) (raA_leaf sX12_within_1)) (raA_br (raA_leaf sX12_within_2) (raA_br (raA_leaf sX12_within_5) (raA_leaf sX12_within_6)))) (raA_br (raA_br (raA_leaf sX12_within_7) (raA_leaf sX12_within_10)) (raA_br (raA_leaf sX12_within_11) (raA_br (raA_leaf sX12_within_14) (raA_leaf sX12_within_15)))))
theorem sX12_work_0 : Snd (miT Tb) RX12 cX12_work 6 none 0 (i_const 1 (vI 0)) := snd_iconst dX12_work_0
theorem sX12_work_1 : Snd (miT Tb) RX12 cX12_work 6 none 1 (i_istore 3 5) := snd_istore (by decide) dX12_work_1
theorem sX12_work_3 : Snd (miT Tb) RX12 cX12_work 6 none 3 (i_iload 5 5) := snd_iload dX12_work_3
theorem sX12_work_5 : Snd (miT Tb) RX12 cX12_work 6 none 5 (i_iload 6 3) := snd_iload_n rfl dX12_work_5
theorem sX12_work_6 : Snd (miT Tb) RX12 cX12_work 6 none 6 (i_icmp_ge 9 33) := snd_icmp_ge dX12_work_6 rfl
theorem sX12_work_9 : Snd (miT Tb) RX12 cX12_work 6 none 9 (i_aload 10 0) := snd_aload_n rfl dX12_work_9
theorem sX12_work_10 : Snd (miT Tb) RX12 cX12_work 6 none 10 (i_getR 11 7 13) := snd_getR rfl (by decide) (by decide) (by decide) (fun hK ho hs hq kk => gf_X12_29 hK ho hs hq rfl dX12_work_10 kk)
theorem sX12_work_13 : Snd (miT Tb) RX12 cX12_work 6 none 13 (i_iload 15 5) := snd_iload dX12_work_13
theorem sX12_work_15 : Snd (miT Tb) RX12 cX12_work 6 none 15 (i_aload 16 0) := snd_aload_n rfl dX12_work_15
theorem sX12_work_16 : Snd (miT Tb) RX12 cX12_work 6 none 16 (i_getR 11 6 19) := snd_getR rfl (by decide) (by decide) (by decide) (fun hK ho hs hq kk => gf_X12_26 hK ho hs hq rfl dX12_work_16 kk)
theorem sX12_work_19 : Snd (miT Tb) RX12 cX12_work 6 none 19 (i_iload 20 1) := snd_iload_n rfl dX12_work_19
theorem sX12_work_20 : Snd (miT Tb) RX12 cX12_work 6 none 20 (i_iload 21 2) := snd_iload_n rfl dX12_work_20
theorem sX12_work_21 : Snd (miT Tb) RX12 cX12_work 6 none 21 (i_iload 23 5) := snd_iload dX12_work_21
theorem sX12_work_23 : Snd (miT Tb) RX12 cX12_work 6 none 23 (i_imul 24) := snd_imul dX12_work_23
theorem sX12_work_24 : Snd (miT Tb) RX12 cX12_work 6 none 24 (i_iadd 25) := snd_iadd dX12_work_24
theorem sX12_work_25 : Snd (miT Tb) RX12 cX12_work 6 none 25 (i_iald 26) := snd_iald dX12_work_25
theorem sX12_work_26 : Snd (miT Tb) RX12 cX12_work 6 none 26 (i_iast 27) := snd_iast dX12_work_26
theorem sX12_work_27 : Snd (miT Tb) RX12 cX12_work 6 none 27 (i_iinc 30 5 1) := snd_iinc (by decide) dX12_work_27
theorem sX12_work_30 : Snd (miT Tb) RX12 cX12_work 6 none 30 (i_goto 3) := snd_goto dX12_work_30 rfl
theorem sX12_work_33 : Snd (miT Tb) RX12 cX12_work 6 none 33 (i_iload 35 4) := snd_iload dX12_work_33
theorem sX12_work_35 : Snd (miT Tb) RX12 cX12_work 6 none 35 (i_if_eq 38 46) := snd_if_eq dX12_work_35 rfl
theorem sX12_work_38 : Snd (miT Tb) RX12 cX12_work 6 none 38 (i_aload 39 0) := snd_aload_n rfl dX12_work_38
theorem sX12_work_39 : Snd (miT Tb) RX12 cX12_work 6 none 39 (i_iload 40 3) := snd_iload_n rfl dX12_work_39
theorem sX12_work_40 : Snd (miT Tb) RX12 cX12_work 6 none 40 (i_stop) := snd_stop
theorem sX12_work_43 : Snd (miT Tb) RX12 cX12_work 6 none 43 (i_goto 51) := snd_goto dX12_work_43 rfl
theorem sX12_work_46 : Snd (miT Tb) RX12 cX12_work 6 none 46 (i_aload 47 0) := snd_aload_n rfl dX12_work_46
theorem sX12_work_47 : Snd (miT Tb) RX12 cX12_work 6 none 47 (i_iload 48 3) := snd_iload_n rfl dX12_work_47
theorem sX12_work_48 : Snd (miT Tb) RX12 cX12_work 6 none 48 (i_cV1 39 11 51) := snd_cV1 (fun hK hd hC ho hs h6 h7 h8 kk => iv_X12_146 hK (mc_39 hC) ho hs ⟨hd, by show _ ≤ 40 * (_ + 1); omega⟩ (Nat.le_refl _) h6 h7 h8 ⟨Nat.le_refl _, Nat.le_refl _⟩ dX12_work_48 kk)
theorem sX12_work_51 : Snd (miT Tb) RX12 cX12_work 6 none 51 (i_const 52 (vI 0)) := snd_iconst dX12_work_51
theorem sX12_work_52 : Snd (miT Tb) RX12 cX12_work 6 none 52 (i_istore 54 5) := snd_istore (by decide) dX12_work_52
theorem sX12_work_54 : Snd (miT Tb) RX12 cX12_work 6 none 54 (i_iload 56 5) := snd_iload dX12_work_54
theorem sX12_work_56 : Snd (miT Tb) RX12 cX12_work 6 none 56 (i_iload 57 3) := snd_iload_n rfl dX12_work_56
theorem sX12_work_57 : Snd (miT Tb) RX12 cX12_work 6 none 57 (i_icmp_ge 60 84) := snd_icmp_ge dX12_work_57 rfl
theorem sX12_work_60 : Snd (miT Tb) RX12 cX12_work 6 none 60 (i_aload 61 0) := snd_aload_n rfl dX12_work_60
theorem sX12_work_61 : Snd (miT Tb) RX12 cX12_work 6 none 61 (i_getR 11 6 64) := snd_getR rfl (by decide) (by decide) (by decide) (fun hK ho hs hq kk => gf_X12_26 hK ho hs hq rfl dX12_work_61 kk)
theorem sX12_work_64 : Snd (miT Tb) RX12 cX12_work 6 none 64 (i_iload 65 1) := snd_iload_n rfl dX12_work_64
theorem sX12_work_65 : Snd (miT Tb) RX12 cX12_work 6 none 65 (i_iload 66 2) := snd_iload_n rfl dX12_work_65
theorem sX12_work_66 : Snd (miT Tb) RX12 cX12_work 6 none 66 (i_iload 68 5) := snd_iload dX12_work_66
theorem sX12_work_68 : Snd (miT Tb) RX12 cX12_work 6 none 68 (i_imul 69) := snd_imul dX12_work_68
theorem sX12_work_69 : Snd (miT Tb) RX12 cX12_work 6 none 69 (i_iadd 70) := snd_iadd dX12_work_69
theorem sX12_work_70 : Snd (miT Tb) RX12 cX12_work 6 none 70 (i_aload 71 0) := snd_aload_n rfl dX12_work_70
theorem sX12_work_71 : Snd (miT Tb) RX12 cX12_work 6 none 71 (i_getR 11 8 74) := snd_getR rfl (by decide) (by decide) (by decide) (fun hK ho hs hq kk => gf_X12_32 hK ho hs hq rfl dX12_work_71 kk)
theorem sX12_work_74 : Snd (miT Tb) RX12 cX12_work 6 none 74 (i_iload 76 5) := snd_iload dX12_work_74
theorem sX12_work_76 : Snd (miT Tb) RX12 cX12_work 6 none 76 (i_iald 77) := snd_iald dX12_work_76
theorem sX12_work_77 : Snd (miT Tb) RX12 cX12_work 6 none 77 (i_iast 78) := snd_iast dX12_work_77
theorem sX12_work_78 : Snd (miT Tb) RX12 cX12_work 6 none 78 (i_iinc 81 5 1) := snd_iinc (by decide) dX12_work_78
theorem sX12_work_81 : Snd (miT Tb) RX12 cX12_work 6 none 81 (i_goto 54) := snd_goto dX12_work_81 rfl
theorem sX12_work_84 : Snd (miT Tb) RX12 cX12_work 6 none 84 (i_vret) := snd_vret dX12_work_84
theorem kX12_work : raA (okI (miT Tb) (yX12_work, cX12_work, 6, none)) tX12_work := (raA_br (raA_br (raA_br (raA_br (raA_br (raA_leaf sX12_work_0) (raA_br (raA_leaf sX12_work_1) (raA_leaf sX12_work_3))) (raA_br (raA_leaf sX12_work_5) (raA_br (raA_leaf sX12_work_6) (raA_leaf sX12_work_9)))) (raA_br (raA_br (raA_leaf sX12_work_10) (raA_br (raA_leaf sX12_work_13) (raA_leaf sX12_work_15))) (raA_br (raA_leaf sX12_work_16) (raA_br (raA_leaf sX12_work_19) (raA_leaf sX12_work_20))))) (raA_br (raA_br (raA_br (raA_leaf sX12_work_21) (raA_br (raA_leaf sX12_work_23) (raA_leaf sX12_work_24))) (raA_br (raA_leaf sX12_work_25) (raA_br (raA_leaf sX12_work_26) (raA_leaf sX12_work_27)))) (raA_br (raA_br (raA_leaf sX12_work_30) (raA_br (raA_leaf sX12_work_33) (raA_leaf sX12_work_35))) (raA_br (raA_leaf sX12_work_38) (raA_br (raA_leaf sX12_work_39) (raA_leaf sX12_work_40)))))) (raA_br (raA_br (raA_br (raA_br (raA_leaf sX12_work_43) (raA_br (raA_leaf sX12_work_46) (raA_leaf sX12_work_47))) (raA_br (raA_leaf sX12_work_48) (raA_br (raA_leaf sX12_work_51) (raA_leaf sX12_work_52)))) (raA_br (raA_br (raA_leaf sX12_work_54) (raA_br (raA_leaf sX12_work_56) (raA_leaf sX12_work_57))) (raA_br (raA_leaf sX12_work_60) (raA_br (raA_leaf sX12_work_61) (raA_leaf sX12_work_64))))) (raA_br (raA_br (raA_br (raA_leaf sX12_work_65) (raA_br (raA_leaf sX12_work_66) (raA_leaf sX12_work_68))) (raA_br (raA_leaf sX12_work_69) (raA_br (raA_leaf sX12_work_70) (raA_leaf sX12_work_71)))) (raA_br (raA_br (raA_leaf sX12_work_74) (raA_br (raA_leaf sX12_work_76) (raA_leaf sX12_work_77))) (raA_br (raA_leaf sX12_work_78) (raA_br (raA_leaf sX12_work_81) (raA_leaf sX12_work_84)))))))
theorem sX1_add_0 : Snd (miT Tb) RX1 cX1_add 2 none 0 (i_aload 1 0) := snd_aload_n rfl dX1_add_0
theorem sX1_add_1 : Snd (miT Tb) RX1 cX1_add 2 none 1 (i_getI 1 1 4) := snd_getI (fun hK ho hs hv kk => gf_X1_15 hK ho hs hv dX1_add_1 kk)
theorem sX1_add_4 : Snd (miT Tb) RX1 cX1_add 2 none 4 (i_aload 5 0) := snd_aload_n rfl dX1_add_4
theorem sX1_add_5 : Snd (miT Tb) RX1 cX1_add 2 none 5 (i_getR 1 0 8) := snd_getR rfl (by decide) (by decide) (by decide) (fun hK ho hs hq kk => gf_X1_9 hK ho hs hq rfl dX1_add_5 kk)
theorem sX1_add_8 : Snd (miT Tb) RX1 cX1_add 2 none 8 (i_alen 9) := snd_alen dX1_add_8
theorem sX1_add_9 : Snd (miT Tb) RX1 cX1_add 2 none 9 (i_icmp_ge 12 32) := snd_icmp_ge dX1_add_9 rfl
theorem sX1_add_12 : Snd (miT Tb) RX1 cX1_add 2 none 12 (i_aload 13 0) := snd_aload_n rfl dX1_add_12
theorem sX1_add_13 : Snd (miT Tb) RX1 cX1_add 2 none 13 (i_getR 1 0 16) := snd_getR rfl (by decide) (by decide) (by decide) (fun hK ho hs hq kk => gf_X1_9 hK ho hs hq rfl dX1_add_13 kk)
theorem sX1_add_16 : Snd (miT Tb) RX1 cX1_add 2 none 16 (i_aload 17 0) := snd_aload_n rfl dX1_add_16
theorem sX1_add_17 : Snd (miT Tb) RX1 cX1_add 2 none 17 (i_getI 1 1 20) := snd_getI (fun hK ho hs hv kk => gf_X1_15 hK ho hs hv dX1_add_17 kk)
theorem sX1_add_20 : Snd (miT Tb) RX1 cX1_add 2 none 20 (i_iload 21 1) := snd_iload_n rfl dX1_add_20
theorem sX1_add_21 : Snd (miT Tb) RX1 cX1_add 2 none 21 (i_iast 22) := snd_iast dX1_add_21
theorem sX1_add_22 : Snd (miT Tb) RX1 cX1_add 2 none 22 (i_aload 23 0) := snd_aload_n rfl dX1_add_22
theorem sX1_add_23 : Snd (miT Tb) RX1 cX1_add 2 none 23 (i_dup 24) := snd_dup dX1_add_23
theorem sX1_add_24 : Snd (miT Tb) RX1 cX1_add 2 none 24 (i_getI 1 1 27) := snd_getI (fun hK ho hs hv kk => gf_X1_15 hK ho hs hv dX1_add_24 kk)
theorem sX1_add_27 : Snd (miT Tb) RX1 cX1_add 2 none 27 (i_const 28 (vI 1)) := snd_iconst dX1_add_27
theorem sX1_add_28 : Snd (miT Tb) RX1 cX1_add 2 none 28 (i_iadd 29) := snd_iadd dX1_add_28
theorem sX1_add_29 : Snd (miT Tb) RX1 cX1_add 2 none 29 (i_putI 1 1 32) := snd_putI (fun hK ho hs kk => pf_X1_15 hK ho hs dX1_add_29 kk)
theorem sX1_add_32 : Snd (miT Tb) RX1 cX1_add 2 none 32 (i_aload 33 0) := snd_aload_n rfl dX1_add_32
theorem sX1_add_33 : Snd (miT Tb) RX1 cX1_add 2 none 33 (i_const 34 (vI 0)) := snd_iconst dX1_add_33
theorem sX1_add_34 : Snd (miT Tb) RX1 cX1_add 2 none 34 (i_putI 1 2 37) := snd_putI (fun hK ho hs kk => pf_X1_19 hK ho hs dX1_add_34 kk)
theorem sX1_add_37 : Snd (miT Tb) RX1 cX1_add 2 none 37 (i_vret) := snd_vret dX1_add_37
theorem kX1_add : raA (okI (miT Tb) (yX1_add, cX1_add, 2, none)) tX1_add := (raA_br (raA_br (raA_br (raA_br (raA_leaf sX1_add_0) (raA_leaf sX1_add_1)) (raA_br (raA_leaf sX1_add_4) (raA_br (raA_leaf sX1_add_5) (raA_leaf sX1_add_8)))) (raA_br (raA_br (raA_leaf sX1_add_9) (raA_br (raA_leaf sX1_add_12) (raA_leaf sX1_add_13))) (raA_br (raA_leaf sX1_add_16) (raA_br (raA_leaf sX1_add_17) (raA_leaf sX1_add_20))))) (raA_br (raA_br (raA_br (raA_leaf sX1_add_21) (raA_leaf sX1_add_22)) (raA_br (raA_leaf sX1_add_23) (raA_br (raA_leaf sX1_add_24) (raA_leaf sX1_add_27)))) (raA_br (raA_br (raA_leaf sX1_add_28) (raA_br (raA_leaf sX1_add_29) (raA_leaf sX1_add_32))) (raA_br (raA_leaf sX1_add_33) (raA_br (raA_leaf sX1_add_34) (raA_leaf sX1_add_37))))))
theorem sX1_addFrom_0 : Snd (miT Tb) RX1 cX1_addFrom 5 none 0 (i_const 1 (vI 0)) := snd_iconst dX1_addFrom_0
theorem sX1_addFrom_1 : Snd (miT Tb) RX1 cX1_addFrom 5 none 1 (i_istore 3 4) := snd_istore (by decide) dX1_addFrom_1
theorem sX1_addFrom_3 : Snd (miT Tb) RX1 cX1_addFrom 5 none 3 (i_iload 5 4) := snd_iload dX1_addFrom_3
theorem sX1_addFrom_5 : Snd (miT Tb) RX1 cX1_addFrom 5 none 5 (i_iload 6 3) := snd_iload_n rfl dX1_addFrom_5
theorem sX1_addFrom_6 : Snd (miT Tb) RX1 cX1_addFrom 5 none 6 (i_icmp_ge 9 27) := snd_icmp_ge dX1_addFrom_6 rfl
theorem sX1_addFrom_9 : Snd (miT Tb) RX1 cX1_addFrom 5 none 9 (i_aload 10 0) := snd_aload_n rfl dX1_addFrom_9
theorem sX1_addFrom_10 : Snd (miT Tb) RX1 cX1_addFrom 5 none 10 (i_aload 11 1) := snd_aload_n rfl dX1_addFrom_10
theorem sX1_addFrom_11 : Snd (miT Tb) RX1 cX1_addFrom 5 none 11 (i_iload 12 2) := snd_iload_n rfl dX1_addFrom_11
theorem sX1_addFrom_12 : Snd (miT Tb) RX1 cX1_addFrom 5 none 12 (i_iload 14 4) := snd_iload dX1_addFrom_12
theorem sX1_addFrom_14 : Snd (miT Tb) RX1 cX1_addFrom 5 none 14 (i_iadd 15) := snd_iadd dX1_addFrom_14
theorem sX1_addFrom_15 : Snd (miT Tb) RX1 cX1_addFrom 5 none 15 (i_cV1 71 1 18) := snd_cV1 (fun hK hd hC ho hs h6 h7 h8 kk => iv_X1_26 hK (mc_71 hC) ho hs ⟨hd, by show _ ≤ 40 * (_ + 1); omega⟩ (Nat.le_refl _) h6 h7 h8 ⟨Nat.le_refl _, Nat.le_refl _⟩ dX1_addFrom_15 kk)
theorem sX1_addFrom_18 : Snd (miT Tb) RX1 cX1_addFrom 5 none 18 (i_cV1 69 1 21) := snd_cV1 (fun hK hd hC ho hs h6 h7 h8 kk => iv_X1_30 hK (mc_69 hC) ho hs ⟨hd, by show _ ≤ 40 * (_ + 1); omega⟩ (Nat.le_refl _) h6 h7 h8 ⟨Nat.le_refl _, Nat.le_refl _⟩ dX1_addFrom_18 kk)
theorem sX1_addFrom_21 : Snd (miT Tb) RX1 cX1_addFrom 5 none 21 (i_iinc 24 4 1) := snd_iinc (by decide) dX1_addFrom_21
theorem sX1_addFrom_24 : Snd (miT Tb) RX1 cX1_addFrom 5 none 24 (i_goto 3) := snd_goto dX1_addFrom_24 rfl
theorem sX1_addFrom_27 : Snd (miT Tb) RX1 cX1_addFrom 5 none 27 (i_vret) := snd_vret dX1_addFrom_27
theorem kX1_addFrom : raA (okI (miT Tb) (yX1_addFrom, cX1_addFrom, 5, none)) tX1_addFrom := (raA_br (raA_br (raA_br (raA_leaf sX1_addFrom_0) (raA_br (raA_leaf sX1_addFrom_1) (raA_leaf sX1_addFrom_3))) (raA_br (raA_br (raA_leaf sX1_addFrom_5) (raA_leaf sX1_addFrom_6)) (raA_br (raA_leaf sX1_addFrom_9) (raA_leaf sX1_addFrom_10)))) (raA_br (raA_br (raA_br (raA_leaf sX1_addFrom_11) (raA_leaf sX1_addFrom_12)) (raA_br (raA_leaf sX1_addFrom_14) (raA_leaf sX1_addFrom_15))) (raA_br (raA_br (raA_leaf sX1_addFrom_18) (raA_leaf sX1_addFrom_21)) (raA_br (raA_leaf sX1_addFrom_24) (raA_leaf sX1_addFrom_27)))))
theorem sX1_at_0 : Snd (miT Tb) RX1 cX1_at 2 (some .int) 0 (i_iload 1 1) := snd_iload_n rfl dX1_at_0
theorem sX1_at_1 : Snd (miT Tb) RX1 cX1_at 2 (some .int) 1 (i_if_lt 4 21) := snd_if_lt dX1_at_1 rfl
theorem sX1_at_4 : Snd (miT Tb) RX1 cX1_at 2 (some .int) 4 (i_iload 5 1) := snd_iload_n rfl dX1_at_4
theorem sX1_at_5 : Snd (miT Tb) RX1 cX1_at 2 (some .int) 5 (i_aload 6 0) := snd_aload_n rfl dX1_at_5
theorem sX1_at_6 : Snd (miT Tb) RX1 cX1_at 2 (some .int) 6 (i_getI 1 1 9) := snd_getI (fun hK ho hs hv kk => gf_X1_15 hK ho hs hv dX1_at_6 kk)
theorem sX1_at_9 : Snd (miT Tb) RX1 cX1_at 2 (some .int) 9 (i_icmp_ge 12 21) := snd_icmp_ge dX1_at_9 rfl
theorem sX1_at_12 : Snd (miT Tb) RX1 cX1_at 2 (some .int) 12 (i_aload 13 0) := snd_aload_n rfl dX1_at_12
theorem sX1_at_13 : Snd (miT Tb) RX1 cX1_at 2 (some .int) 13 (i_getR 1 0 16) := snd_getR rfl (by decide) (by decide) (by decide) (fun hK ho hs hq kk => gf_X1_9 hK ho hs hq rfl dX1_at_13 kk)
theorem sX1_at_16 : Snd (miT Tb) RX1 cX1_at 2 (some .int) 16 (i_iload 17 1) := snd_iload_n rfl dX1_at_16
theorem sX1_at_17 : Snd (miT Tb) RX1 cX1_at 2 (some .int) 17 (i_iald 18) := snd_iald dX1_at_17
theorem sX1_at_18 : Snd (miT Tb) RX1 cX1_at 2 (some .int) 18 (i_goto 24) := snd_goto dX1_at_18 rfl
theorem sX1_at_21 : Snd (miT Tb) RX1 cX1_at 2 (some .int) 21 (i_const 24 (vI 255)) := snd_sipush (by decide) dX1_at_21
theorem sX1_at_24 : Snd (miT Tb) RX1 cX1_at 2 (some .int) 24 (i_iret) := snd_iret dX1_at_24
theorem kX1_at : raA (okI (miT Tb) (yX1_at, cX1_at, 2, (some .int))) tX1_at := (raA_br (raA_br (raA_br (raA_leaf sX1_at_0) (raA_br (raA_leaf sX1_at_1) (raA_leaf sX1_at_4))) (raA_br (raA_leaf sX1_at_5) (raA_br (raA_leaf sX1_at_6) (raA_leaf sX1_at_9)))) (raA_br (raA_br (raA_leaf sX1_at_12) (raA_br (raA_leaf sX1_at_13) (raA_leaf sX1_at_16))) (raA_br (raA_br (raA_leaf sX1_at_17) (raA_leaf sX1_at_18)) (raA_br (raA_leaf sX1_at_21) (raA_leaf sX1_at_24)))))
theorem sX1_clear_0 : Snd (miT Tb) RX1 cX1_clear 1 none 0 (i_aload 1 0) := snd_aload_n rfl dX1_clear_0
theorem sX1_clear_1 : Snd (miT Tb) RX1 cX1_clear 1 none 1 (i_const 2 (vI 0)) := snd_iconst dX1_clear_1
theorem sX1_clear_2 : Snd (miT Tb) RX1 cX1_clear 1 none 2 (i_putI 1 1 5) := snd_putI (fun hK ho hs kk => pf_X1_15 hK ho hs dX1_clear_2 kk)
theorem sX1_clear_5 : Snd (miT Tb) RX1 cX1_clear 1 none 5 (i_aload 6 0) := snd_aload_n rfl dX1_clear_5
theorem sX1_clear_6 : Snd (miT Tb) RX1 cX1_clear 1 none 6 (i_const 7 (vI 0)) := snd_iconst dX1_clear_6
theorem sX1_clear_7 : Snd (miT Tb) RX1 cX1_clear 1 none 7 (i_putI 1 2 10) := snd_putI (fun hK ho hs kk => pf_X1_19 hK ho hs dX1_clear_7 kk)
theorem sX1_clear_10 : Snd (miT Tb) RX1 cX1_clear 1 none 10 (i_vret) := snd_vret dX1_clear_10
theorem kX1_clear : raA (okI (miT Tb) (yX1_clear, cX1_clear, 1, none)) tX1_clear := (raA_br (raA_br (raA_leaf sX1_clear_0) (raA_br (raA_leaf sX1_clear_1) (raA_leaf sX1_clear_2))) (raA_br (raA_br (raA_leaf sX1_clear_5) (raA_leaf sX1_clear_6)) (raA_br (raA_leaf sX1_clear_7) (raA_leaf sX1_clear_10))))
theorem sX1_endBits_0 : Snd (miT Tb) RX1 cX1_endBits 1 none 0 (i_aload 1 0) := snd_aload_n rfl dX1_endBits_0
theorem sX1_endBits_1 : Snd (miT Tb) RX1 cX1_endBits 1 none 1 (i_const 2 (vI 0)) := snd_iconst dX1_endBits_1
theorem sX1_endBits_2 : Snd (miT Tb) RX1 cX1_endBits 1 none 2 (i_putI 1 2 5) := snd_putI (fun hK ho hs kk => pf_X1_19 hK ho hs dX1_endBits_2 kk)
theorem sX1_endBits_5 : Snd (miT Tb) RX1 cX1_endBits 1 none 5 (i_vret) := snd_vret dX1_endBits_5
theorem kX1_endBits : raA (okI (miT Tb) (yX1_endBits, cX1_endBits, 1, none)) tX1_endBits := (raA_br (raA_br (raA_leaf sX1_endBits_0) (raA_leaf sX1_endBits_1)) (raA_br (raA_leaf sX1_endBits_2) (raA_leaf sX1_endBits_5)))
theorem sX1_has_0 : Snd (miT Tb) RX1 cX1_has 2 (some .boolean) 0 (i_iload 1 1) := snd_iload_n rfl dX1_has_0
theorem sX1_has_1 : Snd (miT Tb) RX1 cX1_has 2 (some .boolean) 1 (i_if_lt 4 16) := snd_if_lt dX1_has_1 rfl
theorem sX1_has_4 : Snd (miT Tb) RX1 cX1_has 2 (some .boolean) 4 (i_iload 5 1) := snd_iload_n rfl dX1_has_4
theorem sX1_has_5 : Snd (miT Tb) RX1 cX1_has 2 (some .boolean) 5 (i_aload 6 0) := snd_aload_n rfl dX1_has_5
theorem sX1_has_6 : Snd (miT Tb) RX1 cX1_has 2 (some .boolean) 6 (i_getI 1 1 9) := snd_getI (fun hK ho hs hv kk => gf_X1_15 hK ho hs hv dX1_has_6 kk)
theorem sX1_has_9 : Snd (miT Tb) RX1 cX1_has 2 (some .boolean) 9 (i_icmp_ge 12 16) := snd_icmp_ge dX1_has_9 rfl
theorem sX1_has_12 : Snd (miT Tb) RX1 cX1_has 2 (some .boolean) 12 (i_const 13 (vI 1)) := snd_iconst dX1_has_12
theorem sX1_has_13 : Snd (miT Tb) RX1 cX1_has 2 (some .boolean) 13 (i_goto 17) := snd_goto dX1_has_13 rfl
theorem sX1_has_16 : Snd (miT Tb) RX1 cX1_has 2 (some .boolean) 16 (i_const 17 (vI 0)) := snd_iconst dX1_has_16
theorem sX1_has_17 : Snd (miT Tb) RX1 cX1_has 2 (some .boolean) 17 (i_zret) := snd_zret dX1_has_17
theorem kX1_has : raA (okI (miT Tb) (yX1_has, cX1_has, 2, (some .boolean))) tX1_has := (raA_br (raA_br (raA_br (raA_leaf sX1_has_0) (raA_leaf sX1_has_1)) (raA_br (raA_leaf sX1_has_4) (raA_br (raA_leaf sX1_has_5) (raA_leaf sX1_has_6)))) (raA_br (raA_br (raA_leaf sX1_has_9) (raA_leaf sX1_has_12)) (raA_br (raA_leaf sX1_has_13) (raA_br (raA_leaf sX1_has_16) (raA_leaf sX1_has_17)))))
theorem sX1_length_0 : Snd (miT Tb) RX1 cX1_length 1 (some .int) 0 (i_aload 1 0) := snd_aload_n rfl dX1_length_0
theorem sX1_length_1 : Snd (miT Tb) RX1 cX1_length 1 (some .int) 1 (i_getI 1 1 4) := snd_getI (fun hK ho hs hv kk => gf_X1_15 hK ho hs hv dX1_length_1 kk)
theorem sX1_length_4 : Snd (miT Tb) RX1 cX1_length 1 (some .int) 4 (i_iret) := snd_iret dX1_length_4
theorem kX1_length : raA (okI (miT Tb) (yX1_length, cX1_length, 1, (some .int))) tX1_length := (raA_br (raA_leaf sX1_length_0) (raA_br (raA_leaf sX1_length_1) (raA_leaf sX1_length_4)))
theorem sX1_putBits_0 : Snd (miT Tb) RX1 cX1_putBits 4 none 0 (i_iload 1 2) := snd_iload_n rfl dX1_putBits_0
theorem sX1_putBits_1 : Snd (miT Tb) RX1 cX1_putBits 4 none 1 (i_const 2 (vI 1)) := snd_iconst dX1_putBits_1
theorem sX1_putBits_2 : Snd (miT Tb) RX1 cX1_putBits 4 none 2 (i_isub 3) := snd_isub dX1_putBits_2
theorem sX1_putBits_3 : Snd (miT Tb) RX1 cX1_putBits 4 none 3 (i_istore 4 3) := snd_istore_n rfl (by decide) dX1_putBits_3
theorem sX1_putBits_4 : Snd (miT Tb) RX1 cX1_putBits 4 none 4 (i_iload 5 3) := snd_iload_n rfl dX1_putBits_4
theorem sX1_putBits_5 : Snd (miT Tb) RX1 cX1_putBits 4 none 5 (i_if_lt 8 73) := snd_if_lt dX1_putBits_5 rfl
theorem sX1_putBits_8 : Snd (miT Tb) RX1 cX1_putBits 4 none 8 (i_aload 9 0) := snd_aload_n rfl dX1_putBits_8
theorem sX1_putBits_9 : Snd (miT Tb) RX1 cX1_putBits 4 none 9 (i_getI 1 2 12) := snd_getI (fun hK ho hs hv kk => gf_X1_19 hK ho hs hv dX1_putBits_9 kk)
theorem sX1_putBits_12 : Snd (miT Tb) RX1 cX1_putBits 4 none 12 (i_if_ne 15 26) := snd_if_ne dX1_putBits_12 rfl
theorem sX1_putBits_15 : Snd (miT Tb) RX1 cX1_putBits 4 none 15 (i_aload 16 0) := snd_aload_n rfl dX1_putBits_15
theorem sX1_putBits_16 : Snd (miT Tb) RX1 cX1_putBits 4 none 16 (i_const 17 (vI 0)) := snd_iconst dX1_putBits_16
theorem sX1_putBits_17 : Snd (miT Tb) RX1 cX1_putBits 4 none 17 (i_cV1 69 1 20) := snd_cV1 (fun hK hd hC ho hs h6 h7 h8 kk => iv_X1_30 hK (mc_69 hC) ho hs ⟨hd, by show _ ≤ 40 * (_ + 1); omega⟩ (Nat.le_refl _) h6 h7 h8 ⟨Nat.le_refl _, Nat.le_refl _⟩ dX1_putBits_17 kk)
theorem sX1_putBits_20 : Snd (miT Tb) RX1 cX1_putBits 4 none 20 (i_aload 21 0) := snd_aload_n rfl dX1_putBits_20
theorem sX1_putBits_21 : Snd (miT Tb) RX1 cX1_putBits 4 none 21 (i_const 23 (vI 8)) := snd_bipush (by decide) dX1_putBits_21
theorem sX1_putBits_23 : Snd (miT Tb) RX1 cX1_putBits 4 none 23 (i_putI 1 2 26) := snd_putI (fun hK ho hs kk => pf_X1_19 hK ho hs dX1_putBits_23 kk)
theorem sX1_putBits_26 : Snd (miT Tb) RX1 cX1_putBits 4 none 26 (i_aload 27 0) := snd_aload_n rfl dX1_putBits_26
theorem sX1_putBits_27 : Snd (miT Tb) RX1 cX1_putBits 4 none 27 (i_dup 28) := snd_dup dX1_putBits_27
theorem sX1_putBits_28 : Snd (miT Tb) RX1 cX1_putBits 4 none 28 (i_getI 1 2 31) := snd_getI (fun hK ho hs hv kk => gf_X1_19 hK ho hs hv dX1_putBits_28 kk)
theorem sX1_putBits_31 : Snd (miT Tb) RX1 cX1_putBits 4 none 31 (i_const 32 (vI 1)) := snd_iconst dX1_putBits_31
theorem sX1_putBits_32 : Snd (miT Tb) RX1 cX1_putBits 4 none 32 (i_isub 33) := snd_isub dX1_putBits_32
theorem sX1_putBits_33 : Snd (miT Tb) RX1 cX1_putBits 4 none 33 (i_putI 1 2 36) := snd_putI (fun hK ho hs kk => pf_X1_19 hK ho hs dX1_putBits_33 kk)
theorem sX1_putBits_36 : Snd (miT Tb) RX1 cX1_putBits 4 none 36 (i_aload 37 0) := snd_aload_n rfl dX1_putBits_36
theorem sX1_putBits_37 : Snd (miT Tb) RX1 cX1_putBits 4 none 37 (i_aload 38 0) := snd_aload_n rfl dX1_putBits_37
theorem sX1_putBits_38 : Snd (miT Tb) RX1 cX1_putBits 4 none 38 (i_getI 1 1 41) := snd_getI (fun hK ho hs hv kk => gf_X1_15 hK ho hs hv dX1_putBits_38 kk)
theorem sX1_putBits_41 : Snd (miT Tb) RX1 cX1_putBits 4 none 41 (i_const 42 (vI 1)) := snd_iconst dX1_putBits_41
theorem sX1_putBits_42 : Snd (miT Tb) RX1 cX1_putBits 4 none 42 (i_isub 43) := snd_isub dX1_putBits_42
theorem sX1_putBits_43 : Snd (miT Tb) RX1 cX1_putBits 4 none 43 (i_aload 44 0) := snd_aload_n rfl dX1_putBits_43
theorem sX1_putBits_44 : Snd (miT Tb) RX1 cX1_putBits 4 none 44 (i_aload 45 0) := snd_aload_n rfl dX1_putBits_44
theorem sX1_putBits_45 : Snd (miT Tb) RX1 cX1_putBits 4 none 45 (i_getI 1 1 48) := snd_getI (fun hK ho hs hv kk => gf_X1_15 hK ho hs hv dX1_putBits_45 kk)
theorem sX1_putBits_48 : Snd (miT Tb) RX1 cX1_putBits 4 none 48 (i_const 49 (vI 1)) := snd_iconst dX1_putBits_48
theorem sX1_putBits_49 : Snd (miT Tb) RX1 cX1_putBits 4 none 49 (i_isub 50) := snd_isub dX1_putBits_49
theorem sX1_putBits_50 : Snd (miT Tb) RX1 cX1_putBits 4 none 50 (i_cV1 71 1 53) := snd_cV1 (fun hK hd hC ho hs h6 h7 h8 kk => iv_X1_26 hK (mc_71 hC) ho hs ⟨hd, by show _ ≤ 40 * (_ + 1); omega⟩ (Nat.le_refl _) h6 h7 h8 ⟨Nat.le_refl _, Nat.le_refl _⟩ dX1_putBits_50 kk)
theorem sX1_putBits_53 : Snd (miT Tb) RX1 cX1_putBits 4 none 53 (i_iload 54 1) := snd_iload_n rfl dX1_putBits_53
theorem sX1_putBits_54 : Snd (miT Tb) RX1 cX1_putBits 4 none 54 (i_iload 55 3) := snd_iload_n rfl dX1_putBits_54
theorem sX1_putBits_55 : Snd (miT Tb) RX1 cX1_putBits 4 none 55 (i_ishr 56) := snd_ishr dX1_putBits_55
theorem sX1_putBits_56 : Snd (miT Tb) RX1 cX1_putBits 4 none 56 (i_const 57 (vI 1)) := snd_iconst dX1_putBits_56
theorem sX1_putBits_57 : Snd (miT Tb) RX1 cX1_putBits 4 none 57 (i_iand 58) := snd_iand dX1_putBits_57
theorem sX1_putBits_58 : Snd (miT Tb) RX1 cX1_putBits 4 none 58 (i_aload 59 0) := snd_aload_n rfl dX1_putBits_58
theorem sX1_putBits_59 : Snd (miT Tb) RX1 cX1_putBits 4 none 59 (i_getI 1 2 62) := snd_getI (fun hK ho hs hv kk => gf_X1_19 hK ho hs hv dX1_putBits_59 kk)
theorem sX1_putBits_62 : Snd (miT Tb) RX1 cX1_putBits 4 none 62 (i_ishl 63) := snd_ishl dX1_putBits_62
theorem sX1_putBits_63 : Snd (miT Tb) RX1 cX1_putBits 4 none 63 (i_ior 64) := snd_ior dX1_putBits_63
theorem sX1_putBits_64 : Snd (miT Tb) RX1 cX1_putBits 4 none 64 (i_cV2 77 1 67) := snd_cV2 (fun hK hd hC ho hs h6 h7 h8 kk => iv_X1_34 hK (mc_77 hC) ho hs ⟨hd, by show _ ≤ 40 * (_ + 1); omega⟩ (Nat.le_refl _) h6 h7 h8 ⟨Nat.le_refl _, Nat.le_refl _⟩ dX1_putBits_64 kk)
theorem sX1_putBits_67 : Snd (miT Tb) RX1 cX1_putBits 4 none 67 (i_iinc 70 3 (-1)) := snd_iinc (by decide) dX1_putBits_67
theorem sX1_putBits_70 : Snd (miT Tb) RX1 cX1_putBits 4 none 70 (i_goto 4) := snd_goto dX1_putBits_70 rfl
theorem sX1_putBits_73 : Snd (miT Tb) RX1 cX1_putBits 4 none 73 (i_vret) := snd_vret dX1_putBits_73
theorem kX1_putBits : raA (okI (miT Tb) (yX1_putBits, cX1_putBits, 4, none)) tX1_putBits := (raA_br (raA_br (raA_br (raA_br (raA_br (raA_leaf sX1_putBits_0) (raA_leaf sX1_putBits_1)) (raA_br (raA_leaf sX1_putBits_2) (raA_br (raA_leaf sX1_putBits_3) (raA_leaf sX1_putBits_4)))) (raA_br (raA_br (raA_leaf sX1_putBits_5) (raA_br (raA_leaf sX1_putBits_8) (raA_leaf sX1_putBits_9))) (raA_br (raA_leaf sX1_putBits_12) (raA_br (raA_leaf sX1_putBits_15) (raA_leaf sX1_putBits_16))))) (raA_br (raA_br (raA_br (raA_leaf sX1_putBits_17) (raA_leaf sX1_putBits_20)) (raA_br (raA_leaf sX1_putBits_21) (raA_br (raA_leaf sX1_putBits_23) (raA_leaf sX1_putBits_26)))) (raA_br (raA_br (raA_leaf sX1_putBits_27) (raA_br (raA_leaf sX1_putBits_28) (raA_leaf sX1_putBits_31))) (raA_br (raA_leaf sX1_putBits_32) (raA_br (raA_leaf sX1_putBits_33) (raA_leaf sX1_putBits_36)))))) (raA_br (raA_br (raA_br (raA_br (raA_leaf sX1_putBits_37) (raA_leaf sX1_putBits_38)) (raA_br (raA_leaf sX1_putBits_41) (raA_br (raA_leaf sX1_putBits_42) (raA_leaf sX1_putBits_43)))) (raA_br (raA_br (raA_leaf sX1_putBits_44) (raA_br (raA_leaf sX1_putBits_45) (raA_leaf sX1_putBits_48))) (raA_br (raA_leaf sX1_putBits_49) (raA_br (raA_leaf sX1_putBits_50) (raA_leaf sX1_putBits_53))))) (raA_br (raA_br (raA_br (raA_leaf sX1_putBits_54) (raA_br (raA_leaf sX1_putBits_55) (raA_leaf sX1_putBits_56))) (raA_br (raA_leaf sX1_putBits_57) (raA_br (raA_leaf sX1_putBits_58) (raA_leaf sX1_putBits_59)))) (raA_br (raA_br (raA_leaf sX1_putBits_62) (raA_br (raA_leaf sX1_putBits_63) (raA_leaf sX1_putBits_64))) (raA_br (raA_leaf sX1_putBits_67) (raA_br (raA_leaf sX1_putBits_70) (raA_leaf sX1_putBits_73)))))))
theorem sX1_set_0 : Snd (miT Tb) RX1 cX1_set 3 none 0 (i_aload 1 0) := snd_aload_n rfl dX1_set_0
theorem sX1_set_1 : Snd (miT Tb) RX1 cX1_set 3 none 1 (i_iload 2 1) := snd_iload_n rfl dX1_set_1
theorem sX1_set_2 : Snd (miT Tb) RX1 cX1_set 3 none 2 (i_cV1 74 1 5) := snd_cV1 (fun hK hd hC ho hs h6 h7 h8 kk => iv_X1_22 hK (mc_74 hC) ho hs ⟨hd, by show _ ≤ 40 * (_ + 1); omega⟩ (Nat.le_refl _) h6 h7 h8 ⟨Nat.le_refl _, Nat.le_refl _⟩ dX1_set_2 kk)
theorem sX1_set_5 : Snd (miT Tb) RX1 cX1_set 3 none 5 (i_if_eq 8 15) := snd_if_eq dX1_set_5 rfl
theorem sX1_set_8 : Snd (miT Tb) RX1 cX1_set 3 none 8 (i_aload 9 0) := snd_aload_n rfl dX1_set_8
theorem sX1_set_9 : Snd (miT Tb) RX1 cX1_set 3 none 9 (i_getR 1 0 12) := snd_getR rfl (by decide) (by decide) (by decide) (fun hK ho hs hq kk => gf_X1_9 hK ho hs hq rfl dX1_set_9 kk)
theorem sX1_set_12 : Snd (miT Tb) RX1 cX1_set 3 none 12 (i_iload 13 1) := snd_iload_n rfl dX1_set_12
theorem sX1_set_13 : Snd (miT Tb) RX1 cX1_set 3 none 13 (i_iload 14 2) := snd_iload_n rfl dX1_set_13
theorem sX1_set_14 : Snd (miT Tb) RX1 cX1_set 3 none 14 (i_iast 15) := snd_iast dX1_set_14
theorem sX1_set_15 : Snd (miT Tb) RX1 cX1_set 3 none 15 (i_vret) := snd_vret dX1_set_15
theorem kX1_set : raA (okI (miT Tb) (yX1_set, cX1_set, 3, none)) tX1_set := (raA_br (raA_br (raA_br (raA_leaf sX1_set_0) (raA_leaf sX1_set_1)) (raA_br (raA_leaf sX1_set_2) (raA_br (raA_leaf sX1_set_5) (raA_leaf sX1_set_8)))) (raA_br (raA_br (raA_leaf sX1_set_9) (raA_leaf sX1_set_12)) (raA_br (raA_leaf sX1_set_13) (raA_br (raA_leaf sX1_set_14) (raA_leaf sX1_set_15)))))
theorem sX2_begin_0 : Snd (miT Tb) RX2 cX2_begin 1 none 0 (i_aload 1 0) := snd_aload_n rfl dX2_begin_0
theorem sX2_begin_1 : Snd (miT Tb) RX2 cX2_begin 1 none 1 (i_getR 2 1 4) := snd_getR rfl (by decide) (by decide) (by decide) (fun hK ho hs hq kk => gf_X2_13 hK ho hs hq rfl dX2_begin_1 kk)
theorem sX2_begin_4 : Snd (miT Tb) RX2 cX2_begin 1 none 4 (i_const 5 (vI 0)) := snd_iconst dX2_begin_4
theorem sX2_begin_5 : Snd (miT Tb) RX2 cX2_begin 1 none 5 (i_cS2 1 8) := snd_cS2 (fun hK hd hC h6 h7 h8 kk => iv_X2_16 hK (mc_1 hC) ⟨hd, by show _ ≤ 40 * (_ + 1); omega⟩ (Nat.le_refl _) h6 h7 h8 ⟨Nat.le_refl _, Nat.le_refl _⟩ dX2_begin_5 kk)
theorem sX2_begin_8 : Snd (miT Tb) RX2 cX2_begin 1 none 8 (i_aload 9 0) := snd_aload_n rfl dX2_begin_8
theorem sX2_begin_9 : Snd (miT Tb) RX2 cX2_begin 1 none 9 (i_getR 2 0 12) := snd_getR rfl (by decide) (by decide) (by decide) (fun hK ho hs hq kk => gf_X2_9 hK ho hs hq rfl dX2_begin_9 kk)
theorem sX2_begin_12 : Snd (miT Tb) RX2 cX2_begin 1 none 12 (i_const 13 (vI 0)) := snd_iconst dX2_begin_12
theorem sX2_begin_13 : Snd (miT Tb) RX2 cX2_begin 1 none 13 (i_cS2 1 16) := snd_cS2 (fun hK hd hC h6 h7 h8 kk => iv_X2_16 hK (mc_1 hC) ⟨hd, by show _ ≤ 40 * (_ + 1); omega⟩ (Nat.le_refl _) h6 h7 h8 ⟨Nat.le_refl _, Nat.le_refl _⟩ dX2_begin_13 kk)
theorem sX2_begin_16 : Snd (miT Tb) RX2 cX2_begin 1 none 16 (i_aload 17 0) := snd_aload_n rfl dX2_begin_16
theorem sX2_begin_17 : Snd (miT Tb) RX2 cX2_begin 1 none 17 (i_getR 2 0 20) := snd_getR rfl (by decide) (by decide) (by decide) (fun hK ho hs hq kk => gf_X2_9 hK ho hs hq rfl dX2_begin_17 kk)
theorem sX2_begin_20 : Snd (miT Tb) RX2 cX2_begin 1 none 20 (i_const 21 (vI 0)) := snd_iconst dX2_begin_20
theorem sX2_begin_21 : Snd (miT Tb) RX2 cX2_begin 1 none 21 (i_const 22 (vI 4)) := snd_iconst dX2_begin_21
theorem sX2_begin_22 : Snd (miT Tb) RX2 cX2_begin 1 none 22 (i_iast 23) := snd_iast dX2_begin_22
theorem sX2_begin_23 : Snd (miT Tb) RX2 cX2_begin 1 none 23 (i_aload 24 0) := snd_aload_n rfl dX2_begin_23
theorem sX2_begin_24 : Snd (miT Tb) RX2 cX2_begin 1 none 24 (i_getR 2 0 27) := snd_getR rfl (by decide) (by decide) (by decide) (fun hK ho hs hq kk => gf_X2_9 hK ho hs hq rfl dX2_begin_24 kk)
theorem sX2_begin_27 : Snd (miT Tb) RX2 cX2_begin 1 none 27 (i_const 29 (vI 17)) := snd_bipush (by decide) dX2_begin_27
theorem sX2_begin_29 : Snd (miT Tb) RX2 cX2_begin 1 none 29 (i_const 30 (vI 3)) := snd_iconst dX2_begin_29
theorem sX2_begin_30 : Snd (miT Tb) RX2 cX2_begin 1 none 30 (i_iast 31) := snd_iast dX2_begin_30
theorem sX2_begin_31 : Snd (miT Tb) RX2 cX2_begin 1 none 31 (i_aload 32 0) := snd_aload_n rfl dX2_begin_31
theorem sX2_begin_32 : Snd (miT Tb) RX2 cX2_begin 1 none 32 (i_getR 2 0 35) := snd_getR rfl (by decide) (by decide) (by decide) (fun hK ho hs hq kk => gf_X2_9 hK ho hs hq rfl dX2_begin_32 kk)
theorem sX2_begin_35 : Snd (miT Tb) RX2 cX2_begin 1 none 35 (i_const 37 (vI 18)) := snd_bipush (by decide) dX2_begin_35
theorem sX2_begin_37 : Snd (miT Tb) RX2 cX2_begin 1 none 37 (i_const 39 (vI 46)) := snd_bipush (by decide) dX2_begin_37
theorem sX2_begin_39 : Snd (miT Tb) RX2 cX2_begin 1 none 39 (i_iast 40) := snd_iast dX2_begin_39
theorem sX2_begin_40 : Snd (miT Tb) RX2 cX2_begin 1 none 40 (i_vret) := snd_vret dX2_begin_40
theorem kX2_begin : raA (okI (miT Tb) (yX2_begin, cX2_begin, 1, none)) tX2_begin := (raA_br (raA_br (raA_br (raA_br (raA_leaf sX2_begin_0) (raA_br (raA_leaf sX2_begin_1) (raA_leaf sX2_begin_4))) (raA_br (raA_leaf sX2_begin_5) (raA_br (raA_leaf sX2_begin_8) (raA_leaf sX2_begin_9)))) (raA_br (raA_br (raA_leaf sX2_begin_12) (raA_br (raA_leaf sX2_begin_13) (raA_leaf sX2_begin_16))) (raA_br (raA_leaf sX2_begin_17) (raA_br (raA_leaf sX2_begin_20) (raA_leaf sX2_begin_21))))) (raA_br (raA_br (raA_br (raA_leaf sX2_begin_22) (raA_br (raA_leaf sX2_begin_23) (raA_leaf sX2_begin_24))) (raA_br (raA_leaf sX2_begin_27) (raA_br (raA_leaf sX2_begin_29) (raA_leaf sX2_begin_30)))) (raA_br (raA_br (raA_leaf sX2_begin_31) (raA_br (raA_leaf sX2_begin_32) (raA_leaf sX2_begin_35))) (raA_br (raA_leaf sX2_begin_37) (raA_br (raA_leaf sX2_begin_39) (raA_leaf sX2_begin_40))))))
theorem sX2_learn_0 : Snd (miT Tb) RX2 cX2_learn 4 none 0 (i_aload 1 0) := snd_aload_n rfl dX2_learn_0
theorem sX2_learn_1 : Snd (miT Tb) RX2 cX2_learn 4 none 1 (i_getR 2 0 4) := snd_getR rfl (by decide) (by decide) (by decide) (fun hK ho hs hq kk => gf_X2_9 hK ho hs hq rfl dX2_learn_1 kk)
theorem sX2_learn_4 : Snd (miT Tb) RX2 cX2_learn 4 none 4 (i_iload 5 1) := snd_iload_n rfl dX2_learn_4
theorem sX2_learn_5 : Snd (miT Tb) RX2 cX2_learn 4 none 5 (i_iald 6) := snd_iald dX2_learn_5
theorem sX2_learn_6 : Snd (miT Tb) RX2 cX2_learn 4 none 6 (i_istore 7 3) := snd_istore_n rfl (by decide) dX2_learn_6
theorem sX2_learn_7 : Snd (miT Tb) RX2 cX2_learn 4 none 7 (i_iload 8 2) := snd_iload_n rfl dX2_learn_7
theorem sX2_learn_8 : Snd (miT Tb) RX2 cX2_learn 4 none 8 (i_aload 9 0) := snd_aload_n rfl dX2_learn_8
theorem sX2_learn_9 : Snd (miT Tb) RX2 cX2_learn 4 none 9 (i_getR 2 1 12) := snd_getR rfl (by decide) (by decide) (by decide) (fun hK ho hs hq kk => gf_X2_13 hK ho hs hq rfl dX2_learn_9 kk)
theorem sX2_learn_12 : Snd (miT Tb) RX2 cX2_learn 4 none 12 (i_iload 13 1) := snd_iload_n rfl dX2_learn_12
theorem sX2_learn_13 : Snd (miT Tb) RX2 cX2_learn 4 none 13 (i_iald 14) := snd_iald dX2_learn_13
theorem sX2_learn_14 : Snd (miT Tb) RX2 cX2_learn 4 none 14 (i_icmp_ne 17 29) := snd_icmp_ne dX2_learn_14 rfl
theorem sX2_learn_17 : Snd (miT Tb) RX2 cX2_learn 4 none 17 (i_aload 18 0) := snd_aload_n rfl dX2_learn_17
theorem sX2_learn_18 : Snd (miT Tb) RX2 cX2_learn 4 none 18 (i_getR 2 0 21) := snd_getR rfl (by decide) (by decide) (by decide) (fun hK ho hs hq kk => gf_X2_9 hK ho hs hq rfl dX2_learn_18 kk)
theorem sX2_learn_21 : Snd (miT Tb) RX2 cX2_learn 4 none 21 (i_iload 22 1) := snd_iload_n rfl dX2_learn_21
theorem sX2_learn_22 : Snd (miT Tb) RX2 cX2_learn 4 none 22 (i_const 25 (vR 1001)) := snd_gets (i := 1) (by decide) gs_X2_25 dX2_learn_22
theorem sX2_learn_25 : Snd (miT Tb) RX2 cX2_learn 4 none 25 (i_iload 26 3) := snd_iload_n rfl dX2_learn_25
theorem sX2_learn_26 : Snd (miT Tb) RX2 cX2_learn 4 none 26 (i_iald 27) := snd_iald dX2_learn_26
theorem sX2_learn_27 : Snd (miT Tb) RX2 cX2_learn 4 none 27 (i_iast 28) := snd_iast dX2_learn_27
theorem sX2_learn_28 : Snd (miT Tb) RX2 cX2_learn 4 none 28 (i_vret) := snd_vret dX2_learn_28
theorem sX2_learn_29 : Snd (miT Tb) RX2 cX2_learn 4 none 29 (i_aload 30 0) := snd_aload_n rfl dX2_learn_29
theorem sX2_learn_30 : Snd (miT Tb) RX2 cX2_learn 4 none 30 (i_getR 2 0 33) := snd_getR rfl (by decide) (by decide) (by decide) (fun hK ho hs hq kk => gf_X2_9 hK ho hs hq rfl dX2_learn_30 kk)
theorem sX2_learn_33 : Snd (miT Tb) RX2 cX2_learn 4 none 33 (i_iload 34 1) := snd_iload_n rfl dX2_learn_33
theorem sX2_learn_34 : Snd (miT Tb) RX2 cX2_learn 4 none 34 (i_const 37 (vR 1002)) := snd_gets (i := 2) (by decide) gs_X2_28 dX2_learn_34
theorem sX2_learn_37 : Snd (miT Tb) RX2 cX2_learn 4 none 37 (i_iload 38 3) := snd_iload_n rfl dX2_learn_37
theorem sX2_learn_38 : Snd (miT Tb) RX2 cX2_learn 4 none 38 (i_iald 39) := snd_iald dX2_learn_38
theorem sX2_learn_39 : Snd (miT Tb) RX2 cX2_learn 4 none 39 (i_iast 40) := snd_iast dX2_learn_39
theorem sX2_learn_40 : Snd (miT Tb) RX2 cX2_learn 4 none 40 (i_iload 41 3) := snd_iload_n rfl dX2_learn_40
theorem sX2_learn_41 : Snd (miT Tb) RX2 cX2_learn 4 none 41 (i_if_eq 44 56) := snd_if_eq dX2_learn_41 rfl
theorem sX2_learn_44 : Snd (miT Tb) RX2 cX2_learn 4 none 44 (i_iload 45 3) := snd_iload_n rfl dX2_learn_44
theorem sX2_learn_45 : Snd (miT Tb) RX2 cX2_learn 4 none 45 (i_const 47 (vI 6)) := snd_bipush (by decide) dX2_learn_45
theorem sX2_learn_47 : Snd (miT Tb) RX2 cX2_learn 4 none 47 (i_icmp_eq 50 56) := snd_icmp_eq dX2_learn_47 rfl
theorem sX2_learn_50 : Snd (miT Tb) RX2 cX2_learn 4 none 50 (i_iload 51 3) := snd_iload_n rfl dX2_learn_50
theorem sX2_learn_51 : Snd (miT Tb) RX2 cX2_learn 4 none 51 (i_const 53 (vI 14)) := snd_bipush (by decide) dX2_learn_51
theorem sX2_learn_53 : Snd (miT Tb) RX2 cX2_learn 4 none 53 (i_icmp_ne 56 63) := snd_icmp_ne dX2_learn_53 rfl
theorem sX2_learn_56 : Snd (miT Tb) RX2 cX2_learn 4 none 56 (i_aload 57 0) := snd_aload_n rfl dX2_learn_56
theorem sX2_learn_57 : Snd (miT Tb) RX2 cX2_learn 4 none 57 (i_getR 2 1 60) := snd_getR rfl (by decide) (by decide) (by decide) (fun hK ho hs hq kk => gf_X2_13 hK ho hs hq rfl dX2_learn_57 kk)
theorem sX2_learn_60 : Snd (miT Tb) RX2 cX2_learn 4 none 60 (i_iload 61 1) := snd_iload_n rfl dX2_learn_60
theorem sX2_learn_61 : Snd (miT Tb) RX2 cX2_learn 4 none 61 (i_iload 62 2) := snd_iload_n rfl dX2_learn_61
theorem sX2_learn_62 : Snd (miT Tb) RX2 cX2_learn 4 none 62 (i_iast 63) := snd_iast dX2_learn_62
theorem sX2_learn_63 : Snd (miT Tb) RX2 cX2_learn 4 none 63 (i_vret) := snd_vret dX2_learn_63
theorem kX2_learn : raA (okI (miT Tb) (yX2_learn, cX2_learn, 4, none)) tX2_learn := (raA_br (raA_br (raA_br (raA_br (raA_br (raA_leaf sX2_learn_0) (raA_leaf sX2_learn_1)) (raA_br (raA_leaf sX2_learn_4) (raA_br (raA_leaf sX2_learn_5) (raA_leaf sX2_learn_6)))) (raA_br (raA_br (raA_leaf sX2_learn_7) (raA_leaf sX2_learn_8)) (raA_br (raA_leaf sX2_learn_9) (raA_br (raA_leaf sX2_learn_12) (raA_leaf sX2_learn_13))))) (raA_br (raA_br (raA_br (raA_leaf sX2_learn_14) (raA_leaf sX2_learn_17)) (raA_br (raA_leaf sX2_learn_18) (raA_br (raA_leaf sX2_learn_21) (raA_leaf sX2_learn_22)))) (raA_br (raA_br (raA_leaf sX2_learn_25) (raA_leaf sX2_learn_26)) (raA_br (raA_leaf sX2_learn_27) (raA_br (raA_leaf sX2_learn_28) (raA_leaf sX2_learn_29)))))) (raA_br (raA_br (raA_br (raA_br (raA_leaf sX2_learn_30) (raA_leaf sX2_learn_33)) (raA_br (raA_leaf sX2_learn_34) (raA_br (raA_leaf sX2_learn_37) (raA_leaf sX2_learn_38)))) (raA_br (raA_br (raA_leaf sX2_learn_39) (raA_leaf sX2_learn_40)) (raA_br (raA_leaf sX2_learn_41) (raA_br (raA_leaf sX2_learn_44) (raA_leaf sX2_learn_45))))) (raA_br (raA_br (raA_br (raA_leaf sX2_learn_47) (raA_leaf sX2_learn_50)) (raA_br (raA_leaf sX2_learn_51) (raA_br (raA_leaf sX2_learn_53) (raA_leaf sX2_learn_56)))) (raA_br (raA_br (raA_leaf sX2_learn_57) (raA_leaf sX2_learn_60)) (raA_br (raA_leaf sX2_learn_61) (raA_br (raA_leaf sX2_learn_62) (raA_leaf sX2_learn_63)))))))
theorem sX2_likelyBit_0 : Snd (miT Tb) RX2 cX2_likelyBit 2 (some .int) 0 (i_aload 1 0) := snd_aload_n rfl dX2_likelyBit_0
theorem sX2_likelyBit_1 : Snd (miT Tb) RX2 cX2_likelyBit 2 (some .int) 1 (i_getR 2 1 4) := snd_getR rfl (by decide) (by decide) (by decide) (fun hK ho hs hq kk => gf_X2_13 hK ho hs hq rfl dX2_likelyBit_1 kk)
theorem sX2_likelyBit_4 : Snd (miT Tb) RX2 cX2_likelyBit 2 (some .int) 4 (i_iload 5 1) := snd_iload_n rfl dX2_likelyBit_4
theorem sX2_likelyBit_5 : Snd (miT Tb) RX2 cX2_likelyBit 2 (some .int) 5 (i_iald 6) := snd_iald dX2_likelyBit_5
theorem sX2_likelyBit_6 : Snd (miT Tb) RX2 cX2_likelyBit 2 (some .int) 6 (i_iret) := snd_iret dX2_likelyBit_6
theorem kX2_likelyBit : raA (okI (miT Tb) (yX2_likelyBit, cX2_likelyBit, 2, (some .int))) tX2_likelyBit := (raA_br (raA_br (raA_leaf sX2_likelyBit_0) (raA_leaf sX2_likelyBit_1)) (raA_br (raA_leaf sX2_likelyBit_4) (raA_br (raA_leaf sX2_likelyBit_5) (raA_leaf sX2_likelyBit_6))))
theorem sX2_sizeOf_0 : Snd (miT Tb) RX2 cX2_sizeOf 2 (some .int) 0 (i_const 3 (vR 1000)) := snd_gets (i := 0) (by decide) gs_X2_22 dX2_sizeOf_0
theorem sX2_sizeOf_3 : Snd (miT Tb) RX2 cX2_sizeOf 2 (some .int) 3 (i_aload 4 0) := snd_aload_n rfl dX2_sizeOf_3
theorem sX2_sizeOf_4 : Snd (miT Tb) RX2 cX2_sizeOf 2 (some .int) 4 (i_getR 2 0 7) := snd_getR rfl (by decide) (by decide) (by decide) (fun hK ho hs hq kk => gf_X2_9 hK ho hs hq rfl dX2_sizeOf_4 kk)
theorem sX2_sizeOf_7 : Snd (miT Tb) RX2 cX2_sizeOf 2 (some .int) 7 (i_iload 8 1) := snd_iload_n rfl dX2_sizeOf_7
theorem sX2_sizeOf_8 : Snd (miT Tb) RX2 cX2_sizeOf 2 (some .int) 8 (i_iald 9) := snd_iald dX2_sizeOf_8
theorem sX2_sizeOf_9 : Snd (miT Tb) RX2 cX2_sizeOf 2 (some .int) 9 (i_iald 10) := snd_iald dX2_sizeOf_9
theorem sX2_sizeOf_10 : Snd (miT Tb) RX2 cX2_sizeOf 2 (some .int) 10 (i_iret) := snd_iret dX2_sizeOf_10
theorem kX2_sizeOf : raA (okI (miT Tb) (yX2_sizeOf, cX2_sizeOf, 2, (some .int))) tX2_sizeOf := (raA_br (raA_br (raA_leaf sX2_sizeOf_0) (raA_br (raA_leaf sX2_sizeOf_3) (raA_leaf sX2_sizeOf_4))) (raA_br (raA_br (raA_leaf sX2_sizeOf_7) (raA_leaf sX2_sizeOf_8)) (raA_br (raA_leaf sX2_sizeOf_9) (raA_leaf sX2_sizeOf_10))))
theorem sX3_findLeasts_0 : Snd (miT Tb) RX3 cX3_findLeasts 7 none 0 (i_iload 1 1) := snd_iload_n rfl dX3_findLeasts_0
theorem sX3_findLeasts_1 : Snd (miT Tb) RX3 cX3_findLeasts 7 none 1 (i_const 3 (vI 35)) := snd_bipush (by decide) dX3_findLeasts_1
theorem sX3_findLeasts_3 : Snd (miT Tb) RX3 cX3_findLeasts 7 none 3 (i_imul 4) := snd_imul dX3_findLeasts_3
theorem sX3_findLeasts_4 : Snd (miT Tb) RX3 cX3_findLeasts 7 none 4 (i_istore 5 2) := snd_istore_n rfl (by decide) dX3_findLeasts_4
theorem sX3_findLeasts_5 : Snd (miT Tb) RX3 cX3_findLeasts 7 none 5 (i_aload 6 0) := snd_aload_n rfl dX3_findLeasts_5
theorem sX3_findLeasts_6 : Snd (miT Tb) RX3 cX3_findLeasts 7 none 6 (i_getR 3 1 9) := snd_getR rfl (by decide) (by decide) (by decide) (fun hK ho hs hq kk => gf_X3_18 hK ho hs hq rfl dX3_findLeasts_6 kk)
theorem sX3_findLeasts_9 : Snd (miT Tb) RX3 cX3_findLeasts 7 none 9 (i_iload 10 1) := snd_iload_n rfl dX3_findLeasts_9
theorem sX3_findLeasts_10 : Snd (miT Tb) RX3 cX3_findLeasts 7 none 10 (i_iald 11) := snd_iald dX3_findLeasts_10
theorem sX3_findLeasts_11 : Snd (miT Tb) RX3 cX3_findLeasts 7 none 11 (i_cS1 19 14) := snd_cS1 (fun hK hd hC h6 h7 h8 kk => iv_X3_85 hK (mc_19 hC) ⟨hd, by show _ ≤ 40 * (_ + 1); omega⟩ (Nat.le_refl _) h6 h7 h8 ⟨Nat.le_refl _, Nat.le_refl _⟩ dX3_findLeasts_11 kk)
theorem sX3_findLeasts_14 : Snd (miT Tb) RX3 cX3_findLeasts 7 none 14 (i_istore 15 3) := snd_istore_n rfl (by decide) dX3_findLeasts_14
theorem sX3_findLeasts_15 : Snd (miT Tb) RX3 cX3_findLeasts 7 none 15 (i_aload 16 0) := snd_aload_n rfl dX3_findLeasts_15
theorem sX3_findLeasts_16 : Snd (miT Tb) RX3 cX3_findLeasts 7 none 16 (i_getR 3 4 19) := snd_getR rfl (by decide) (by decide) (by decide) (fun hK ho hs hq kk => gf_X3_28 hK ho hs hq rfl dX3_findLeasts_16 kk)
theorem sX3_findLeasts_19 : Snd (miT Tb) RX3 cX3_findLeasts 7 none 19 (i_iload 20 2) := snd_iload_n rfl dX3_findLeasts_19
theorem sX3_findLeasts_20 : Snd (miT Tb) RX3 cX3_findLeasts 7 none 20 (i_const 21 (vI 0)) := snd_iconst dX3_findLeasts_20
theorem sX3_findLeasts_21 : Snd (miT Tb) RX3 cX3_findLeasts 7 none 21 (i_iast 22) := snd_iast dX3_findLeasts_21
theorem sX3_findLeasts_22 : Snd (miT Tb) RX3 cX3_findLeasts 7 none 22 (i_aload 23 0) := snd_aload_n rfl dX3_findLeasts_22
theorem sX3_findLeasts_23 : Snd (miT Tb) RX3 cX3_findLeasts 7 none 23 (i_getR 3 11 26) := snd_getR rfl (by decide) (by decide) (by decide) (fun hK ho hs hq kk => gf_X3_70 hK ho hs hq rfl dX3_findLeasts_23 kk)
theorem sX3_findLeasts_26 : Snd (miT Tb) RX3 cX3_findLeasts 7 none 26 (i_cV0 112 6 29) := snd_cV0 (fun hK hd hC ho hs h6 h7 h8 kk => iv_X3_187 hK (mc_112 hC) ho hs ⟨hd, by show _ ≤ 40 * (_ + 1); omega⟩ (Nat.le_refl _) h6 h7 h8 ⟨Nat.le_refl _, Nat.le_refl _⟩ dX3_findLeasts_26 kk)
theorem sX3_findLeasts_29 : Snd (miT Tb) RX3 cX3_findLeasts 7 none 29 (i_aload 30 0) := snd_aload_n rfl dX3_findLeasts_29
theorem sX3_findLeasts_30 : Snd (miT Tb) RX3 cX3_findLeasts 7 none 30 (i_getR 3 11 33) := snd_getR rfl (by decide) (by decide) (by decide) (fun hK ho hs hq kk => gf_X3_70 hK ho hs hq rfl dX3_findLeasts_30 kk)
theorem sX3_findLeasts_33 : Snd (miT Tb) RX3 cX3_findLeasts 7 none 33 (i_aload 34 0) := snd_aload_n rfl dX3_findLeasts_33
theorem sX3_findLeasts_34 : Snd (miT Tb) RX3 cX3_findLeasts 7 none 34 (i_getR 3 7 37) := snd_getR rfl (by decide) (by decide) (by decide) (fun hK ho hs hq kk => gf_X3_40 hK ho hs hq rfl dX3_findLeasts_34 kk)
theorem sX3_findLeasts_37 : Snd (miT Tb) RX3 cX3_findLeasts 7 none 37 (i_aload 38 0) := snd_aload_n rfl dX3_findLeasts_37
theorem sX3_findLeasts_38 : Snd (miT Tb) RX3 cX3_findLeasts 7 none 38 (i_getR 3 2 41) := snd_getR rfl (by decide) (by decide) (by decide) (fun hK ho hs hq kk => gf_X3_22 hK ho hs hq rfl dX3_findLeasts_38 kk)
theorem sX3_findLeasts_41 : Snd (miT Tb) RX3 cX3_findLeasts 7 none 41 (i_iload 42 1) := snd_iload_n rfl dX3_findLeasts_41
theorem sX3_findLeasts_42 : Snd (miT Tb) RX3 cX3_findLeasts 7 none 42 (i_iald 43) := snd_iald dX3_findLeasts_42
theorem sX3_findLeasts_43 : Snd (miT Tb) RX3 cX3_findLeasts 7 none 43 (i_aload 44 0) := snd_aload_n rfl dX3_findLeasts_43
theorem sX3_findLeasts_44 : Snd (miT Tb) RX3 cX3_findLeasts 7 none 44 (i_getR 3 3 47) := snd_getR rfl (by decide) (by decide) (by decide) (fun hK ho hs hq kk => gf_X3_25 hK ho hs hq rfl dX3_findLeasts_44 kk)
theorem sX3_findLeasts_47 : Snd (miT Tb) RX3 cX3_findLeasts 7 none 47 (i_iload 48 1) := snd_iload_n rfl dX3_findLeasts_47
theorem sX3_findLeasts_48 : Snd (miT Tb) RX3 cX3_findLeasts 7 none 48 (i_iald 49) := snd_iald dX3_findLeasts_48
theorem sX3_findLeasts_49 : Snd (miT Tb) RX3 cX3_findLeasts 7 none 49 (i_cV3 110 6 52) := snd_cV3 (fun hK hd hC ho hs h6 h7 h8 kk => iv_X3_188 hK (mc_110 hC) ho hs ⟨hd, by show _ ≤ 40 * (_ + 1); omega⟩ (Nat.le_refl _) h6 h7 h8 ⟨Nat.le_refl _, Nat.le_refl _⟩ dX3_findLeasts_49 kk)
theorem sX3_findLeasts_52 : Snd (miT Tb) RX3 cX3_findLeasts 7 none 52 (i_const 53 (vI 0)) := snd_iconst dX3_findLeasts_52
theorem sX3_findLeasts_53 : Snd (miT Tb) RX3 cX3_findLeasts 7 none 53 (i_istore 55 4) := snd_istore (by decide) dX3_findLeasts_53
theorem sX3_findLeasts_55 : Snd (miT Tb) RX3 cX3_findLeasts 7 none 55 (i_const 56 (vI 0)) := snd_iconst dX3_findLeasts_55
theorem sX3_findLeasts_56 : Snd (miT Tb) RX3 cX3_findLeasts 7 none 56 (i_istore 58 5) := snd_istore (by decide) dX3_findLeasts_56
theorem sX3_findLeasts_58 : Snd (miT Tb) RX3 cX3_findLeasts 7 none 58 (i_iload 60 5) := snd_iload dX3_findLeasts_58
theorem sX3_findLeasts_60 : Snd (miT Tb) RX3 cX3_findLeasts 7 none 60 (i_aload 61 0) := snd_aload_n rfl dX3_findLeasts_60
theorem sX3_findLeasts_61 : Snd (miT Tb) RX3 cX3_findLeasts 7 none 61 (i_getR 3 3 64) := snd_getR rfl (by decide) (by decide) (by decide) (fun hK ho hs hq kk => gf_X3_25 hK ho hs hq rfl dX3_findLeasts_61 kk)
theorem sX3_findLeasts_64 : Snd (miT Tb) RX3 cX3_findLeasts 7 none 64 (i_iload 65 1) := snd_iload_n rfl dX3_findLeasts_64
theorem sX3_findLeasts_65 : Snd (miT Tb) RX3 cX3_findLeasts 7 none 65 (i_iald 66) := snd_iald dX3_findLeasts_65
theorem sX3_findLeasts_66 : Snd (miT Tb) RX3 cX3_findLeasts 7 none 66 (i_icmp_gt 69 127) := snd_icmp_gt dX3_findLeasts_66 rfl
theorem sX3_findLeasts_69 : Snd (miT Tb) RX3 cX3_findLeasts 7 none 69 (i_iload 71 4) := snd_iload dX3_findLeasts_69
theorem sX3_findLeasts_71 : Snd (miT Tb) RX3 cX3_findLeasts 7 none 71 (i_iload 72 3) := snd_iload_n rfl dX3_findLeasts_71
theorem sX3_findLeasts_72 : Snd (miT Tb) RX3 cX3_findLeasts 7 none 72 (i_icmp_ge 75 127) := snd_icmp_ge dX3_findLeasts_72 rfl
theorem sX3_findLeasts_75 : Snd (miT Tb) RX3 cX3_findLeasts 7 none 75 (i_aload 76 0) := snd_aload_n rfl dX3_findLeasts_75
theorem sX3_findLeasts_76 : Snd (miT Tb) RX3 cX3_findLeasts 7 none 76 (i_getR 3 11 79) := snd_getR rfl (by decide) (by decide) (by decide) (fun hK ho hs hq kk => gf_X3_70 hK ho hs hq rfl dX3_findLeasts_76 kk)
theorem sX3_findLeasts_79 : Snd (miT Tb) RX3 cX3_findLeasts 7 none 79 (i_iload 81 5) := snd_iload dX3_findLeasts_79
theorem sX3_findLeasts_81 : Snd (miT Tb) RX3 cX3_findLeasts 7 none 81 (i_cV1 111 6 84) := snd_cV1 (fun hK hd hC ho hs h6 h7 h8 kk => iv_X3_192 hK (mc_111 hC) ho hs ⟨hd, by show _ ≤ 40 * (_ + 1); omega⟩ (Nat.le_refl _) h6 h7 h8 ⟨Nat.le_refl _, Nat.le_refl _⟩ dX3_findLeasts_81 kk)
theorem sX3_findLeasts_84 : Snd (miT Tb) RX3 cX3_findLeasts 7 none 84 (i_aload 85 0) := snd_aload_n rfl dX3_findLeasts_84
theorem sX3_findLeasts_85 : Snd (miT Tb) RX3 cX3_findLeasts 7 none 85 (i_getR 3 8 88) := snd_getR rfl (by decide) (by decide) (by decide) (fun hK ho hs hq kk => gf_X3_47 hK ho hs hq rfl dX3_findLeasts_85 kk)
theorem sX3_findLeasts_88 : Snd (miT Tb) RX3 cX3_findLeasts 7 none 88 (i_aload 89 0) := snd_aload_n rfl dX3_findLeasts_88
theorem sX3_findLeasts_89 : Snd (miT Tb) RX3 cX3_findLeasts 7 none 89 (i_getR 3 11 92) := snd_getR rfl (by decide) (by decide) (by decide) (fun hK ho hs hq kk => gf_X3_70 hK ho hs hq rfl dX3_findLeasts_89 kk)
theorem sX3_findLeasts_92 : Snd (miT Tb) RX3 cX3_findLeasts 7 none 92 (i_cV1 117 7 95) := snd_cV1 (fun hK hd hC ho hs h6 h7 h8 kk => iv_X3_194 hK (mc_117 hC) ho hs ⟨hd, by show _ ≤ 40 * (_ + 1); omega⟩ (Nat.le_refl _) h6 h7 h8 ⟨Nat.le_refl _, Nat.le_refl _⟩ dX3_findLeasts_92 kk)
theorem sX3_findLeasts_95 : Snd (miT Tb) RX3 cX3_findLeasts 7 none 95 (i_istore 97 6) := snd_istore (by decide) dX3_findLeasts_95
theorem sX3_findLeasts_97 : Snd (miT Tb) RX3 cX3_findLeasts 7 none 97 (i_iload 99 4) := snd_iload dX3_findLeasts_97
theorem sX3_findLeasts_99 : Snd (miT Tb) RX3 cX3_findLeasts 7 none 99 (i_iload 101 6) := snd_iload dX3_findLeasts_99
theorem sX3_findLeasts_101 : Snd (miT Tb) RX3 cX3_findLeasts 7 none 101 (i_icmp_ge 104 121) := snd_icmp_ge dX3_findLeasts_101 rfl
theorem sX3_findLeasts_104 : Snd (miT Tb) RX3 cX3_findLeasts 7 none 104 (i_iinc 107 4 1) := snd_iinc (by decide) dX3_findLeasts_104
theorem sX3_findLeasts_107 : Snd (miT Tb) RX3 cX3_findLeasts 7 none 107 (i_aload 108 0) := snd_aload_n rfl dX3_findLeasts_107
theorem sX3_findLeasts_108 : Snd (miT Tb) RX3 cX3_findLeasts 7 none 108 (i_getR 3 4 111) := snd_getR rfl (by decide) (by decide) (by decide) (fun hK ho hs hq kk => gf_X3_28 hK ho hs hq rfl dX3_findLeasts_108 kk)
theorem sX3_findLeasts_111 : Snd (miT Tb) RX3 cX3_findLeasts 7 none 111 (i_iload 112 2) := snd_iload_n rfl dX3_findLeasts_111
theorem sX3_findLeasts_112 : Snd (miT Tb) RX3 cX3_findLeasts 7 none 112 (i_iload 114 4) := snd_iload dX3_findLeasts_112
theorem sX3_findLeasts_114 : Snd (miT Tb) RX3 cX3_findLeasts 7 none 114 (i_iadd 115) := snd_iadd dX3_findLeasts_114
theorem sX3_findLeasts_115 : Snd (miT Tb) RX3 cX3_findLeasts 7 none 115 (i_iload 117 5) := snd_iload dX3_findLeasts_115
theorem sX3_findLeasts_117 : Snd (miT Tb) RX3 cX3_findLeasts 7 none 117 (i_iast 118) := snd_iast dX3_findLeasts_117
theorem sX3_findLeasts_118 : Snd (miT Tb) RX3 cX3_findLeasts 7 none 118 (i_goto 97) := snd_goto dX3_findLeasts_118 rfl
theorem sX3_findLeasts_121 : Snd (miT Tb) RX3 cX3_findLeasts 7 none 121 (i_iinc 124 5 1) := snd_iinc (by decide) dX3_findLeasts_121
theorem sX3_findLeasts_124 : Snd (miT Tb) RX3 cX3_findLeasts 7 none 124 (i_goto 58) := snd_goto dX3_findLeasts_124 rfl
theorem sX3_findLeasts_127 : Snd (miT Tb) RX3 cX3_findLeasts 7 none 127 (i_vret) := snd_vret dX3_findLeasts_127
theorem kX3_findLeasts : raA (okI (miT Tb) (yX3_findLeasts, cX3_findLeasts, 7, none)) tX3_findLeasts := (raA_br (raA_br (raA_br (raA_br (raA_br (raA_br (raA_leaf sX3_findLeasts_0) (raA_leaf sX3_findLeasts_1)) (raA_br (raA_leaf sX3_findLeasts_3) (raA_leaf sX3_findLeasts_4))) (raA_br (raA_br (raA_leaf sX3_findLeasts_5) (raA_leaf sX3_findLeasts_6)) (raA_br (raA_leaf sX3_findLeasts_9) (raA_leaf sX3_findLeasts_10)))) (raA_br (raA_br (raA_br (raA_leaf sX3_findLeasts_11) (raA_leaf sX3_findLeasts_14)) (raA_br (raA_leaf sX3_findLeasts_15) (raA_leaf sX3_findLeasts_16))) (raA_br (raA_br (raA_leaf sX3_findLeasts_19) (raA_leaf sX3_findLeasts_20)) (raA_br (raA_leaf sX3_findLeasts_21) (raA_br (raA_leaf sX3_findLeasts_22) (raA_leaf sX3_findLeasts_23)))))) (raA_br (raA_br (raA_br (raA_br (raA_leaf sX3_findLeasts_26) (raA_leaf sX3_findLeasts_29)) (raA_br (raA_leaf sX3_findLeasts_30) (raA_leaf sX3_findLeasts_33))) (raA_br (raA_br (raA_leaf sX3_findLeasts_34) (raA_leaf sX3_findLeasts_37)) (raA_br (raA_leaf sX3_findLeasts_38) (raA_leaf sX3_findLeasts_41)))) (raA_br (raA_br (raA_br (raA_leaf sX3_findLeasts_42) (raA_leaf sX3_findLeasts_43)) (raA_br (raA_leaf sX3_findLeasts_44) (raA_leaf sX3_findLeasts_47))) (raA_br (raA_br (raA_leaf sX3_findLeasts_48) (raA_leaf sX3_findLeasts_49)) (raA_br (raA_leaf sX3_findLeasts_52) (raA_br (raA_leaf sX3_findLeasts_53) (raA_leaf sX3_findLeasts_55))))))) (raA_br (raA_br (raA_br (raA_br (raA_br (raA_leaf sX3_findLeasts_56) (raA_leaf sX3_findLeasts_58)) (raA_br (raA_leaf sX3_findLeasts_60) (raA_leaf sX3_findLeasts_61))) (raA_br (raA_br (raA_leaf sX3_findLeasts_64) (raA_leaf sX3_findLeasts_65)) (raA_br (raA_leaf sX3_findLeasts_66) (raA_leaf sX3_findLeasts_69)))) (raA_br (raA_br (raA_br (raA_leaf sX3_findLeasts_71) (raA_leaf sX3_findLeasts_72)) (raA_br (raA_leaf sX3_findLeasts_75) (raA_leaf sX3_findLeasts_76))) (raA_br (raA_br (raA_leaf sX3_findLeasts_79) (raA_leaf sX3_findLeasts_81)) (raA_br (raA_leaf sX3_findLeasts_84) (raA_br (raA_leaf sX3_findLeasts_85) (raA_leaf sX3_findLeasts_88)))))) (raA_br (raA_br (raA_br (raA_br (raA_leaf sX3_findLeasts_89) (raA_leaf sX3_findLeasts_92)) (raA_br (raA_leaf sX3_findLeasts_95) (raA_leaf sX3_findLeasts_97))) (raA_br (raA_br (raA_leaf sX3_findLeasts_99) (raA_leaf sX3_findLeasts_101)) (raA_br (raA_leaf sX3_findLeasts_104) (raA_br (raA_leaf sX3_findLeasts_107) (raA_leaf sX3_findLeasts_108))))) (raA_br (raA_br (raA_br (raA_leaf sX3_findLeasts_111) (raA_leaf sX3_findLeasts_112)) (raA_br (raA_leaf sX3_findLeasts_114) (raA_leaf sX3_findLeasts_115))) (raA_br (raA_br (raA_leaf sX3_findLeasts_117) (raA_leaf sX3_findLeasts_118)) (raA_br (raA_leaf sX3_findLeasts_121) (raA_br (raA_leaf sX3_findLeasts_124) (raA_leaf sX3_findLeasts_127))))))))
theorem sX3_leastLength_0 : Snd (miT Tb) RX3 cX3_leastLength 3 (some .int) 0 (i_aload 1 0) := snd_aload_n rfl dX3_leastLength_0
theorem sX3_leastLength_1 : Snd (miT Tb) RX3 cX3_leastLength 3 (some .int) 1 (i_getR 3 0 4) := snd_getR rfl (by decide) (by decide) (by decide) (fun hK ho hs hq kk => gf_X3_12 hK ho hs hq rfl dX3_leastLength_1 kk)
theorem sX3_leastLength_4 : Snd (miT Tb) RX3 cX3_leastLength 3 (some .int) 4 (i_iload 5 1) := snd_iload_n rfl dX3_leastLength_4
theorem sX3_leastLength_5 : Snd (miT Tb) RX3 cX3_leastLength 3 (some .int) 5 (i_cV1 4 0 8) := snd_cV1 (fun hK hd hC ho hs h6 h7 h8 kk => iv_X3_74 hK (mc_4 hC) ho hs ⟨hd, by show _ ≤ 40 * (_ + 1); omega⟩ (Nat.le_refl _) h6 h7 h8 ⟨Nat.le_refl _, Nat.le_refl _⟩ dX3_leastLength_5 kk)
theorem sX3_leastLength_8 : Snd (miT Tb) RX3 cX3_leastLength 3 (some .int) 8 (i_if_eq 11 28) := snd_if_eq dX3_leastLength_8 rfl
theorem sX3_leastLength_11 : Snd (miT Tb) RX3 cX3_leastLength 3 (some .int) 11 (i_iload 12 2) := snd_iload_n rfl dX3_leastLength_11
theorem sX3_leastLength_12 : Snd (miT Tb) RX3 cX3_leastLength 3 (some .int) 12 (i_if_lt 15 28) := snd_if_lt dX3_leastLength_12 rfl
theorem sX3_leastLength_15 : Snd (miT Tb) RX3 cX3_leastLength 3 (some .int) 15 (i_iload 16 2) := snd_iload_n rfl dX3_leastLength_15
theorem sX3_leastLength_16 : Snd (miT Tb) RX3 cX3_leastLength 3 (some .int) 16 (i_aload 17 0) := snd_aload_n rfl dX3_leastLength_16
theorem sX3_leastLength_17 : Snd (miT Tb) RX3 cX3_leastLength 3 (some .int) 17 (i_getR 3 1 20) := snd_getR rfl (by decide) (by decide) (by decide) (fun hK ho hs hq kk => gf_X3_18 hK ho hs hq rfl dX3_leastLength_17 kk)
theorem sX3_leastLength_20 : Snd (miT Tb) RX3 cX3_leastLength 3 (some .int) 20 (i_iload 21 1) := snd_iload_n rfl dX3_leastLength_20
theorem sX3_leastLength_21 : Snd (miT Tb) RX3 cX3_leastLength 3 (some .int) 21 (i_iald 22) := snd_iald dX3_leastLength_21
theorem sX3_leastLength_22 : Snd (miT Tb) RX3 cX3_leastLength 3 (some .int) 22 (i_cS1 19 25) := snd_cS1 (fun hK hd hC h6 h7 h8 kk => iv_X3_85 hK (mc_19 hC) ⟨hd, by show _ ≤ 40 * (_ + 1); omega⟩ (Nat.le_refl _) h6 h7 h8 ⟨Nat.le_refl _, Nat.le_refl _⟩ dX3_leastLength_22 kk)
theorem sX3_leastLength_25 : Snd (miT Tb) RX3 cX3_leastLength 3 (some .int) 25 (i_icmp_le 28 31) := snd_icmp_le dX3_leastLength_25 rfl
theorem sX3_leastLength_28 : Snd (miT Tb) RX3 cX3_leastLength 3 (some .int) 28 (i_const 30 (vI (-100000))) := snd_ldc lc_X3_78 dX3_leastLength_28
theorem sX3_leastLength_30 : Snd (miT Tb) RX3 cX3_leastLength 3 (some .int) 30 (i_iret) := snd_iret dX3_leastLength_30
theorem sX3_leastLength_31 : Snd (miT Tb) RX3 cX3_leastLength 3 (some .int) 31 (i_aload 32 0) := snd_aload_n rfl dX3_leastLength_31
theorem sX3_leastLength_32 : Snd (miT Tb) RX3 cX3_leastLength 3 (some .int) 32 (i_getR 3 4 35) := snd_getR rfl (by decide) (by decide) (by decide) (fun hK ho hs hq kk => gf_X3_28 hK ho hs hq rfl dX3_leastLength_32 kk)
theorem sX3_leastLength_35 : Snd (miT Tb) RX3 cX3_leastLength 3 (some .int) 35 (i_iload 36 1) := snd_iload_n rfl dX3_leastLength_35
theorem sX3_leastLength_36 : Snd (miT Tb) RX3 cX3_leastLength 3 (some .int) 36 (i_const 38 (vI 35)) := snd_bipush (by decide) dX3_leastLength_36
theorem sX3_leastLength_38 : Snd (miT Tb) RX3 cX3_leastLength 3 (some .int) 38 (i_imul 39) := snd_imul dX3_leastLength_38
theorem sX3_leastLength_39 : Snd (miT Tb) RX3 cX3_leastLength 3 (some .int) 39 (i_iload 40 2) := snd_iload_n rfl dX3_leastLength_39
theorem sX3_leastLength_40 : Snd (miT Tb) RX3 cX3_leastLength 3 (some .int) 40 (i_iadd 41) := snd_iadd dX3_leastLength_40
theorem sX3_leastLength_41 : Snd (miT Tb) RX3 cX3_leastLength 3 (some .int) 41 (i_iald 42) := snd_iald dX3_leastLength_41
theorem sX3_leastLength_42 : Snd (miT Tb) RX3 cX3_leastLength 3 (some .int) 42 (i_iret) := snd_iret dX3_leastLength_42
theorem kX3_leastLength : raA (okI (miT Tb) (yX3_leastLength, cX3_leastLength, 3, (some .int))) tX3_leastLength := (raA_br (raA_br (raA_br (raA_br (raA_leaf sX3_leastLength_0) (raA_br (raA_leaf sX3_leastLength_1) (raA_leaf sX3_leastLength_4))) (raA_br (raA_leaf sX3_leastLength_5) (raA_br (raA_leaf sX3_leastLength_8) (raA_leaf sX3_leastLength_11)))) (raA_br (raA_br (raA_leaf sX3_leastLength_12) (raA_br (raA_leaf sX3_leastLength_15) (raA_leaf sX3_leastLength_16))) (raA_br (raA_leaf sX3_leastLength_17) (raA_br (raA_leaf sX3_leastLength_20) (raA_leaf sX3_leastLength_21))))) (raA_br (raA_br (raA_br (raA_leaf sX3_leastLength_22) (raA_br (raA_leaf sX3_leastLength_25) (raA_leaf sX3_leastLength_28))) (raA_br (raA_leaf sX3_leastLength_30) (raA_br (raA_leaf sX3_leastLength_31) (raA_leaf sX3_leastLength_32)))) (raA_br (raA_br (raA_leaf sX3_leastLength_35) (raA_br (raA_leaf sX3_leastLength_36) (raA_leaf sX3_leastLength_38))) (raA_br (raA_br (raA_leaf sX3_leastLength_39) (raA_leaf sX3_leastLength_40)) (raA_br (raA_leaf sX3_leastLength_41) (raA_leaf sX3_leastLength_42))))))
theorem sX3_pack_0 : Snd (miT Tb) RX3 cX3_pack 7 none 0 (i_aload 1 0) := snd_aload_n rfl dX3_pack_0
theorem sX3_pack_1 : Snd (miT Tb) RX3 cX3_pack 7 none 1 (i_getR 3 0 4) := snd_getR rfl (by decide) (by decide) (by decide) (fun hK ho hs hq kk => gf_X3_12 hK ho hs hq rfl dX3_pack_1 kk)
theorem sX3_pack_4 : Snd (miT Tb) RX3 cX3_pack 7 none 4 (i_aload 5 1) := snd_aload_n rfl dX3_pack_4
theorem sX3_pack_5 : Snd (miT Tb) RX3 cX3_pack 7 none 5 (i_getI 5 1 8) := snd_getI (fun hK ho hs hv kk => gf_X3_95 hK ho hs hv dX3_pack_5 kk)
theorem sX3_pack_8 : Snd (miT Tb) RX3 cX3_pack 7 none 8 (i_aload 9 1) := snd_aload_n rfl dX3_pack_8
theorem sX3_pack_9 : Snd (miT Tb) RX3 cX3_pack 7 none 9 (i_getI 5 2 12) := snd_getI (fun hK ho hs hv kk => gf_X3_101 hK ho hs hv dX3_pack_9 kk)
theorem sX3_pack_12 : Snd (miT Tb) RX3 cX3_pack 7 none 12 (i_iload 13 2) := snd_iload_n rfl dX3_pack_12
theorem sX3_pack_13 : Snd (miT Tb) RX3 cX3_pack 7 none 13 (i_cV3 8 0 16) := snd_cV3 (fun hK hd hC ho hs h6 h7 h8 kk => iv_X3_104 hK (mc_8 hC) ho hs ⟨hd, by show _ ≤ 40 * (_ + 1); omega⟩ (Nat.le_refl _) h6 h7 h8 ⟨Nat.le_refl _, Nat.le_refl _⟩ dX3_pack_13 kk)
theorem sX3_pack_16 : Snd (miT Tb) RX3 cX3_pack 7 none 16 (i_aload 17 0) := snd_aload_n rfl dX3_pack_16
theorem sX3_pack_17 : Snd (miT Tb) RX3 cX3_pack 7 none 17 (i_getR 3 0 20) := snd_getR rfl (by decide) (by decide) (by decide) (fun hK ho hs hq kk => gf_X3_12 hK ho hs hq rfl dX3_pack_17 kk)
theorem sX3_pack_20 : Snd (miT Tb) RX3 cX3_pack 7 none 20 (i_aload 21 1) := snd_aload_n rfl dX3_pack_20
theorem sX3_pack_21 : Snd (miT Tb) RX3 cX3_pack 7 none 21 (i_cV1 10 0 24) := snd_cV1 (fun hK hd hC ho hs h6 h7 h8 kk => iv_X3_108 hK (mc_10 hC) ho hs ⟨hd, by show _ ≤ 40 * (_ + 1); omega⟩ (Nat.le_refl _) h6 h7 h8 ⟨Nat.le_refl _, Nat.le_refl _⟩ dX3_pack_21 kk)
theorem sX3_pack_24 : Snd (miT Tb) RX3 cX3_pack 7 none 24 (i_aload 25 0) := snd_aload_n rfl dX3_pack_24
theorem sX3_pack_25 : Snd (miT Tb) RX3 cX3_pack 7 none 25 (i_getR 3 0 28) := snd_getR rfl (by decide) (by decide) (by decide) (fun hK ho hs hq kk => gf_X3_12 hK ho hs hq rfl dX3_pack_25 kk)
theorem sX3_pack_28 : Snd (miT Tb) RX3 cX3_pack 7 none 28 (i_cV0 3 0 31) := snd_cV0 (fun hK hd hC ho hs h6 h7 h8 kk => iv_X3_112 hK (mc_3 hC) ho hs ⟨hd, by show _ ≤ 40 * (_ + 1); omega⟩ (Nat.le_refl _) h6 h7 h8 ⟨Nat.le_refl _, Nat.le_refl _⟩ dX3_pack_28 kk)
theorem sX3_pack_31 : Snd (miT Tb) RX3 cX3_pack 7 none 31 (i_aload 32 0) := snd_aload_n rfl dX3_pack_31
theorem sX3_pack_32 : Snd (miT Tb) RX3 cX3_pack 7 none 32 (i_getR 3 7 35) := snd_getR rfl (by decide) (by decide) (by decide) (fun hK ho hs hq kk => gf_X3_40 hK ho hs hq rfl dX3_pack_32 kk)
theorem sX3_pack_35 : Snd (miT Tb) RX3 cX3_pack 7 none 35 (i_cV0 72 1 38) := snd_cV0 (fun hK hd hC ho hs h6 h7 h8 kk => iv_X3_115 hK (mc_72 hC) ho hs ⟨hd, by show _ ≤ 40 * (_ + 1); omega⟩ (Nat.le_refl _) h6 h7 h8 ⟨Nat.le_refl _, Nat.le_refl _⟩ dX3_pack_35 kk)
theorem sX3_pack_38 : Snd (miT Tb) RX3 cX3_pack 7 none 38 (i_const 39 (vI 0)) := snd_iconst dX3_pack_38
theorem sX3_pack_39 : Snd (miT Tb) RX3 cX3_pack 7 none 39 (i_istore 41 5) := snd_istore (by decide) dX3_pack_39
theorem sX3_pack_41 : Snd (miT Tb) RX3 cX3_pack 7 none 41 (i_iload 43 5) := snd_iload dX3_pack_41
theorem sX3_pack_43 : Snd (miT Tb) RX3 cX3_pack 7 none 43 (i_aload 44 0) := snd_aload_n rfl dX3_pack_43
theorem sX3_pack_44 : Snd (miT Tb) RX3 cX3_pack 7 none 44 (i_getR 3 0 47) := snd_getR rfl (by decide) (by decide) (by decide) (fun hK ho hs hq kk => gf_X3_12 hK ho hs hq rfl dX3_pack_44 kk)
theorem sX3_pack_47 : Snd (miT Tb) RX3 cX3_pack 7 none 47 (i_getI 0 10 50) := snd_getI (fun hK ho hs hv kk => gf_X3_118 hK ho hs hv dX3_pack_47 kk)
theorem sX3_pack_50 : Snd (miT Tb) RX3 cX3_pack 7 none 50 (i_icmp_ge 53 100) := snd_icmp_ge dX3_pack_50 rfl
theorem sX3_pack_53 : Snd (miT Tb) RX3 cX3_pack 7 none 53 (i_aload 54 0) := snd_aload_n rfl dX3_pack_53
theorem sX3_pack_54 : Snd (miT Tb) RX3 cX3_pack 7 none 54 (i_getR 3 1 57) := snd_getR rfl (by decide) (by decide) (by decide) (fun hK ho hs hq kk => gf_X3_18 hK ho hs hq rfl dX3_pack_54 kk)
theorem sX3_pack_57 : Snd (miT Tb) RX3 cX3_pack 7 none 57 (i_iload 59 5) := snd_iload dX3_pack_57
theorem sX3_pack_59 : Snd (miT Tb) RX3 cX3_pack 7 none 59 (i_aload 60 0) := snd_aload_n rfl dX3_pack_59
theorem sX3_pack_60 : Snd (miT Tb) RX3 cX3_pack 7 none 60 (i_iload 62 5) := snd_iload dX3_pack_60
theorem sX3_pack_62 : Snd (miT Tb) RX3 cX3_pack 7 none 62 (i_cV1 86 3 65) := snd_cV1 (fun hK hd hC ho hs h6 h7 h8 kk => iv_X3_121 hK (mc_86 hC) ho hs ⟨hd, by show _ ≤ 40 * (_ + 1); omega⟩ (Nat.le_refl _) h6 h7 h8 ⟨Nat.le_refl _, Nat.le_refl _⟩ dX3_pack_62 kk)
theorem sX3_pack_65 : Snd (miT Tb) RX3 cX3_pack 7 none 65 (i_iast 66) := snd_iast dX3_pack_65
theorem sX3_pack_66 : Snd (miT Tb) RX3 cX3_pack 7 none 66 (i_aload 67 0) := snd_aload_n rfl dX3_pack_66
theorem sX3_pack_67 : Snd (miT Tb) RX3 cX3_pack 7 none 67 (i_getR 3 5 70) := snd_getR rfl (by decide) (by decide) (by decide) (fun hK ho hs hq kk => gf_X3_31 hK ho hs hq rfl dX3_pack_67 kk)
theorem sX3_pack_70 : Snd (miT Tb) RX3 cX3_pack 7 none 70 (i_iload 72 5) := snd_iload dX3_pack_70
theorem sX3_pack_72 : Snd (miT Tb) RX3 cX3_pack 7 none 72 (i_const 73 (vI 0)) := snd_iconst dX3_pack_72
theorem sX3_pack_73 : Snd (miT Tb) RX3 cX3_pack 7 none 73 (i_iast 74) := snd_iast dX3_pack_73
theorem sX3_pack_74 : Snd (miT Tb) RX3 cX3_pack 7 none 74 (i_aload 75 0) := snd_aload_n rfl dX3_pack_74
theorem sX3_pack_75 : Snd (miT Tb) RX3 cX3_pack 7 none 75 (i_getR 3 6 78) := snd_getR rfl (by decide) (by decide) (by decide) (fun hK ho hs hq kk => gf_X3_34 hK ho hs hq rfl dX3_pack_75 kk)
theorem sX3_pack_78 : Snd (miT Tb) RX3 cX3_pack 7 none 78 (i_iload 80 5) := snd_iload dX3_pack_78
theorem sX3_pack_80 : Snd (miT Tb) RX3 cX3_pack 7 none 80 (i_const 81 (vI 3)) := snd_iconst dX3_pack_80
theorem sX3_pack_81 : Snd (miT Tb) RX3 cX3_pack 7 none 81 (i_iast 82) := snd_iast dX3_pack_81
theorem sX3_pack_82 : Snd (miT Tb) RX3 cX3_pack 7 none 82 (i_aload 83 0) := snd_aload_n rfl dX3_pack_82
theorem sX3_pack_83 : Snd (miT Tb) RX3 cX3_pack 7 none 83 (i_iload 85 5) := snd_iload dX3_pack_83
theorem sX3_pack_85 : Snd (miT Tb) RX3 cX3_pack 7 none 85 (i_cV1 87 3 88) := snd_cV1 (fun hK hd hC ho hs h6 h7 h8 kk => iv_X3_124 hK (mc_87 hC) ho hs ⟨hd, by show _ ≤ 40 * (_ + 1); omega⟩ (Nat.le_refl _) h6 h7 h8 ⟨Nat.le_refl _, Nat.le_refl _⟩ dX3_pack_85 kk)
theorem sX3_pack_88 : Snd (miT Tb) RX3 cX3_pack 7 none 88 (i_aload 89 0) := snd_aload_n rfl dX3_pack_88
theorem sX3_pack_89 : Snd (miT Tb) RX3 cX3_pack 7 none 89 (i_iload 91 5) := snd_iload dX3_pack_89
theorem sX3_pack_91 : Snd (miT Tb) RX3 cX3_pack 7 none 91 (i_cV1 82 3 94) := snd_cV1 (fun hK hd hC ho hs h6 h7 h8 kk => iv_X3_128 hK (mc_82 hC) ho hs ⟨hd, by show _ ≤ 40 * (_ + 1); omega⟩ (Nat.le_refl _) h6 h7 h8 ⟨Nat.le_refl _, Nat.le_refl _⟩ dX3_pack_91 kk)
theorem sX3_pack_94 : Snd (miT Tb) RX3 cX3_pack 7 none 94 (i_iinc 97 5 1) := snd_iinc (by decide) dX3_pack_94
theorem sX3_pack_97 : Snd (miT Tb) RX3 cX3_pack 7 none 97 (i_goto 41) := snd_goto dX3_pack_97 rfl
theorem sX3_pack_100 : Snd (miT Tb) RX3 cX3_pack 7 none 100 (i_aload 102 4) := snd_aload dX3_pack_100
theorem sX3_pack_102 : Snd (miT Tb) RX3 cX3_pack 7 none 102 (i_cV0 72 1 105) := snd_cV0 (fun hK hd hC ho hs h6 h7 h8 kk => iv_X3_115 hK (mc_72 hC) ho hs ⟨hd, by show _ ≤ 40 * (_ + 1); omega⟩ (Nat.le_refl _) h6 h7 h8 ⟨Nat.le_refl _, Nat.le_refl _⟩ dX3_pack_102 kk)
theorem sX3_pack_105 : Snd (miT Tb) RX3 cX3_pack 7 none 105 (i_aload 107 4) := snd_aload dX3_pack_105
theorem sX3_pack_107 : Snd (miT Tb) RX3 cX3_pack 7 none 107 (i_aload 108 1) := snd_aload_n rfl dX3_pack_107
theorem sX3_pack_108 : Snd (miT Tb) RX3 cX3_pack 7 none 108 (i_getI 5 1 111) := snd_getI (fun hK ho hs hv kk => gf_X3_95 hK ho hs hv dX3_pack_108 kk)
theorem sX3_pack_111 : Snd (miT Tb) RX3 cX3_pack 7 none 111 (i_cV1 69 1 114) := snd_cV1 (fun hK hd hC ho hs h6 h7 h8 kk => iv_X3_131 hK (mc_69 hC) ho hs ⟨hd, by show _ ≤ 40 * (_ + 1); omega⟩ (Nat.le_refl _) h6 h7 h8 ⟨Nat.le_refl _, Nat.le_refl _⟩ dX3_pack_111 kk)
theorem sX3_pack_114 : Snd (miT Tb) RX3 cX3_pack 7 none 114 (i_aload 116 4) := snd_aload dX3_pack_114
theorem sX3_pack_116 : Snd (miT Tb) RX3 cX3_pack 7 none 116 (i_aload 117 1) := snd_aload_n rfl dX3_pack_116
theorem sX3_pack_117 : Snd (miT Tb) RX3 cX3_pack 7 none 117 (i_getI 5 2 120) := snd_getI (fun hK ho hs hv kk => gf_X3_101 hK ho hs hv dX3_pack_117 kk)
theorem sX3_pack_120 : Snd (miT Tb) RX3 cX3_pack 7 none 120 (i_cV1 69 1 123) := snd_cV1 (fun hK hd hC ho hs h6 h7 h8 kk => iv_X3_131 hK (mc_69 hC) ho hs ⟨hd, by show _ ≤ 40 * (_ + 1); omega⟩ (Nat.le_refl _) h6 h7 h8 ⟨Nat.le_refl _, Nat.le_refl _⟩ dX3_pack_120 kk)
theorem sX3_pack_123 : Snd (miT Tb) RX3 cX3_pack 7 none 123 (i_aload 125 4) := snd_aload dX3_pack_123
theorem sX3_pack_125 : Snd (miT Tb) RX3 cX3_pack 7 none 125 (i_iload 126 2) := snd_iload_n rfl dX3_pack_125
theorem sX3_pack_126 : Snd (miT Tb) RX3 cX3_pack 7 none 126 (i_cV1 69 1 129) := snd_cV1 (fun hK hd hC ho hs h6 h7 h8 kk => iv_X3_131 hK (mc_69 hC) ho hs ⟨hd, by show _ ≤ 40 * (_ + 1); omega⟩ (Nat.le_refl _) h6 h7 h8 ⟨Nat.le_refl _, Nat.le_refl _⟩ dX3_pack_126 kk)
theorem sX3_pack_129 : Snd (miT Tb) RX3 cX3_pack 7 none 129 (i_aload 131 4) := snd_aload dX3_pack_129
theorem sX3_pack_131 : Snd (miT Tb) RX3 cX3_pack 7 none 131 (i_iload 132 3) := snd_iload_n rfl dX3_pack_131
theorem sX3_pack_132 : Snd (miT Tb) RX3 cX3_pack 7 none 132 (i_cV1 69 1 135) := snd_cV1 (fun hK hd hC ho hs h6 h7 h8 kk => iv_X3_131 hK (mc_69 hC) ho hs ⟨hd, by show _ ≤ 40 * (_ + 1); omega⟩ (Nat.le_refl _) h6 h7 h8 ⟨Nat.le_refl _, Nat.le_refl _⟩ dX3_pack_132 kk)
theorem sX3_pack_135 : Snd (miT Tb) RX3 cX3_pack 7 none 135 (i_const 136 (vI 1)) := snd_iconst dX3_pack_135
theorem sX3_pack_136 : Snd (miT Tb) RX3 cX3_pack 7 none 136 (i_istore 138 5) := snd_istore (by decide) dX3_pack_136
theorem sX3_pack_138 : Snd (miT Tb) RX3 cX3_pack 7 none 138 (i_iload 140 5) := snd_iload dX3_pack_138
theorem sX3_pack_140 : Snd (miT Tb) RX3 cX3_pack 7 none 140 (i_iload 141 3) := snd_iload_n rfl dX3_pack_140
theorem sX3_pack_141 : Snd (miT Tb) RX3 cX3_pack 7 none 141 (i_icmp_gt 144 176) := snd_icmp_gt dX3_pack_141 rfl
theorem sX3_pack_144 : Snd (miT Tb) RX3 cX3_pack 7 none 144 (i_const 145 (vI 0)) := snd_iconst dX3_pack_144
theorem sX3_pack_145 : Snd (miT Tb) RX3 cX3_pack 7 none 145 (i_istore 147 6) := snd_istore (by decide) dX3_pack_145
theorem sX3_pack_147 : Snd (miT Tb) RX3 cX3_pack 7 none 147 (i_iload 149 6) := snd_iload dX3_pack_147
theorem sX3_pack_149 : Snd (miT Tb) RX3 cX3_pack 7 none 149 (i_iload 150 2) := snd_iload_n rfl dX3_pack_149
theorem sX3_pack_150 : Snd (miT Tb) RX3 cX3_pack 7 none 150 (i_icmp_gt 153 170) := snd_icmp_gt dX3_pack_150 rfl
theorem sX3_pack_153 : Snd (miT Tb) RX3 cX3_pack 7 none 153 (i_aload 154 0) := snd_aload_n rfl dX3_pack_153
theorem sX3_pack_154 : Snd (miT Tb) RX3 cX3_pack 7 none 154 (i_iload 156 6) := snd_iload dX3_pack_154
theorem sX3_pack_156 : Snd (miT Tb) RX3 cX3_pack 7 none 156 (i_iload 158 5) := snd_iload dX3_pack_156
theorem sX3_pack_158 : Snd (miT Tb) RX3 cX3_pack 7 none 158 (i_iload 159 3) := snd_iload_n rfl dX3_pack_158
theorem sX3_pack_159 : Snd (miT Tb) RX3 cX3_pack 7 none 159 (i_aload 161 4) := snd_aload dX3_pack_159
theorem sX3_pack_161 : Snd (miT Tb) RX3 cX3_pack 7 none 161 (i_cV4 90 3 164) := snd_cV4 (fun hK hd hC ho hs h6 h7 h8 kk => iv_X3_134 hK (mc_90 hC) ho hs ⟨hd, by show _ ≤ 40 * (_ + 1); omega⟩ (Nat.le_refl _) h6 h7 h8 ⟨Nat.le_refl _, Nat.le_refl _⟩ dX3_pack_161 kk)
theorem sX3_pack_164 : Snd (miT Tb) RX3 cX3_pack 7 none 164 (i_iinc 167 6 1) := snd_iinc (by decide) dX3_pack_164
theorem sX3_pack_167 : Snd (miT Tb) RX3 cX3_pack 7 none 167 (i_goto 147) := snd_goto dX3_pack_167 rfl
theorem sX3_pack_170 : Snd (miT Tb) RX3 cX3_pack 7 none 170 (i_iinc 173 5 1) := snd_iinc (by decide) dX3_pack_170
theorem sX3_pack_173 : Snd (miT Tb) RX3 cX3_pack 7 none 173 (i_goto 138) := snd_goto dX3_pack_173 rfl
theorem sX3_pack_176 : Snd (miT Tb) RX3 cX3_pack 7 none 176 (i_vret) := snd_vret dX3_pack_176
theorem kX3_pack : raA (okI (miT Tb) (yX3_pack, cX3_pack, 7, none)) tX3_pack := (raA_br (raA_br (raA_br (raA_br (raA_br (raA_br (raA_leaf sX3_pack_0) (raA_leaf sX3_pack_1)) (raA_br (raA_leaf sX3_pack_4) (raA_br (raA_leaf sX3_pack_5) (raA_leaf sX3_pack_8)))) (raA_br (raA_br (raA_leaf sX3_pack_9) (raA_leaf sX3_pack_12)) (raA_br (raA_leaf sX3_pack_13) (raA_br (raA_leaf sX3_pack_16) (raA_leaf sX3_pack_17))))) (raA_br (raA_br (raA_br (raA_leaf sX3_pack_20) (raA_leaf sX3_pack_21)) (raA_br (raA_leaf sX3_pack_24) (raA_br (raA_leaf sX3_pack_25) (raA_leaf sX3_pack_28)))) (raA_br (raA_br (raA_leaf sX3_pack_31) (raA_br (raA_leaf sX3_pack_32) (raA_leaf sX3_pack_35))) (raA_br (raA_leaf sX3_pack_38) (raA_br (raA_leaf sX3_pack_39) (raA_leaf sX3_pack_41)))))) (raA_br (raA_br (raA_br (raA_br (raA_leaf sX3_pack_43) (raA_leaf sX3_pack_44)) (raA_br (raA_leaf sX3_pack_47) (raA_br (raA_leaf sX3_pack_50) (raA_leaf sX3_pack_53)))) (raA_br (raA_br (raA_leaf sX3_pack_54) (raA_br (raA_leaf sX3_pack_57) (raA_leaf sX3_pack_59))) (raA_br (raA_leaf sX3_pack_60) (raA_br (raA_leaf sX3_pack_62) (raA_leaf sX3_pack_65))))) (raA_br (raA_br (raA_br (raA_leaf sX3_pack_66) (raA_leaf sX3_pack_67)) (raA_br (raA_leaf sX3_pack_70) (raA_br (raA_leaf sX3_pack_72) (raA_leaf sX3_pack_73)))) (raA_br (raA_br (raA_leaf sX3_pack_74) (raA_br (raA_leaf sX3_pack_75) (raA_leaf sX3_pack_78))) (raA_br (raA_leaf sX3_pack_80) (raA_br (raA_leaf sX3_pack_81) (raA_leaf sX3_pack_82))))))) (raA_br (raA_br (raA_br (raA_br (raA_br (raA_leaf sX3_pack_83) (raA_leaf sX3_pack_85)) (raA_br (raA_leaf sX3_pack_88) (raA_br (raA_leaf sX3_pack_89) (raA_leaf sX3_pack_91)))) (raA_br (raA_br (raA_leaf sX3_pack_94) (raA_br (raA_leaf sX3_pack_97) (raA_leaf sX3_pack_100))) (raA_br (raA_leaf sX3_pack_102) (raA_br (raA_leaf sX3_pack_105) (raA_leaf sX3_pack_107))))) (raA_br (raA_br (raA_br (raA_leaf sX3_pack_108) (raA_leaf sX3_pack_111)) (raA_br (raA_leaf sX3_pack_114) (raA_br (raA_leaf sX3_pack_116) (raA_leaf sX3_pack_117)))) (raA_br (raA_br (raA_leaf sX3_pack_120) (raA_br (raA_leaf sX3_pack_123) (raA_leaf sX3_pack_125))) (raA_br (raA_leaf sX3_pack_126) (raA_br (raA_leaf sX3_pack_129) (raA_leaf sX3_pack_131)))))) (raA_br (raA_br (raA_br (raA_br (raA_leaf sX3_pack_132) (raA_leaf sX3_pack_135)) (raA_br (raA_leaf sX3_pack_136) (raA_br (raA_leaf sX3_pack_138) (raA_leaf sX3_pack_140)))) (raA_br (raA_br (raA_leaf sX3_pack_141) (raA_br (raA_leaf sX3_pack_144) (raA_leaf sX3_pack_145))) (raA_br (raA_leaf sX3_pack_147) (raA_br (raA_leaf sX3_pack_149) (raA_leaf sX3_pack_150))))) (raA_br (raA_br (raA_br (raA_leaf sX3_pack_153) (raA_leaf sX3_pack_154)) (raA_br (raA_leaf sX3_pack_156) (raA_br (raA_leaf sX3_pack_158) (raA_leaf sX3_pack_159)))) (raA_br (raA_br (raA_leaf sX3_pack_161) (raA_br (raA_leaf sX3_pack_164) (raA_leaf sX3_pack_167))) (raA_br (raA_leaf sX3_pack_170) (raA_br (raA_leaf sX3_pack_173) (raA_leaf sX3_pack_176))))))))
theorem sX3_passesUpTo_0 : Snd (miT Tb) RX3 cX3_passesUpTo 4 (some .int) 0 (i_iload 1 3) := snd_iload_n rfl dX3_passesUpTo_0
theorem sX3_passesUpTo_1 : Snd (miT Tb) RX3 cX3_passesUpTo 4 (some .int) 1 (i_if_le 4 20) := snd_if_le dX3_passesUpTo_1 rfl
theorem sX3_passesUpTo_4 : Snd (miT Tb) RX3 cX3_passesUpTo 4 (some .int) 4 (i_iload 5 2) := snd_iload_n rfl dX3_passesUpTo_4
theorem sX3_passesUpTo_5 : Snd (miT Tb) RX3 cX3_passesUpTo 4 (some .int) 5 (i_aload 6 0) := snd_aload_n rfl dX3_passesUpTo_5
theorem sX3_passesUpTo_6 : Snd (miT Tb) RX3 cX3_passesUpTo 4 (some .int) 6 (i_getR 3 1 9) := snd_getR rfl (by decide) (by decide) (by decide) (fun hK ho hs hq kk => gf_X3_18 hK ho hs hq rfl dX3_passesUpTo_6 kk)
theorem sX3_passesUpTo_9 : Snd (miT Tb) RX3 cX3_passesUpTo 4 (some .int) 9 (i_iload 10 1) := snd_iload_n rfl dX3_passesUpTo_9
theorem sX3_passesUpTo_10 : Snd (miT Tb) RX3 cX3_passesUpTo 4 (some .int) 10 (i_iald 11) := snd_iald dX3_passesUpTo_10
theorem sX3_passesUpTo_11 : Snd (miT Tb) RX3 cX3_passesUpTo 4 (some .int) 11 (i_cS1 19 14) := snd_cS1 (fun hK hd hC h6 h7 h8 kk => iv_X3_85 hK (mc_19 hC) ⟨hd, by show _ ≤ 40 * (_ + 1); omega⟩ (Nat.le_refl _) h6 h7 h8 ⟨Nat.le_refl _, Nat.le_refl _⟩ dX3_passesUpTo_11 kk)
theorem sX3_passesUpTo_14 : Snd (miT Tb) RX3 cX3_passesUpTo 4 (some .int) 14 (i_imul 15) := snd_imul dX3_passesUpTo_14
theorem sX3_passesUpTo_15 : Snd (miT Tb) RX3 cX3_passesUpTo 4 (some .int) 15 (i_iload 16 3) := snd_iload_n rfl dX3_passesUpTo_15
theorem sX3_passesUpTo_16 : Snd (miT Tb) RX3 cX3_passesUpTo 4 (some .int) 16 (i_idiv 17) := snd_idiv dX3_passesUpTo_16
theorem sX3_passesUpTo_17 : Snd (miT Tb) RX3 cX3_passesUpTo 4 (some .int) 17 (i_goto 21) := snd_goto dX3_passesUpTo_17 rfl
theorem sX3_passesUpTo_20 : Snd (miT Tb) RX3 cX3_passesUpTo 4 (some .int) 20 (i_const 21 (vI 0)) := snd_iconst dX3_passesUpTo_20
theorem sX3_passesUpTo_21 : Snd (miT Tb) RX3 cX3_passesUpTo 4 (some .int) 21 (i_iret) := snd_iret dX3_passesUpTo_21
theorem kX3_passesUpTo : raA (okI (miT Tb) (yX3_passesUpTo, cX3_passesUpTo, 4, (some .int))) tX3_passesUpTo := (raA_br (raA_br (raA_br (raA_leaf sX3_passesUpTo_0) (raA_br (raA_leaf sX3_passesUpTo_1) (raA_leaf sX3_passesUpTo_4))) (raA_br (raA_br (raA_leaf sX3_passesUpTo_5) (raA_leaf sX3_passesUpTo_6)) (raA_br (raA_leaf sX3_passesUpTo_9) (raA_leaf sX3_passesUpTo_10)))) (raA_br (raA_br (raA_leaf sX3_passesUpTo_11) (raA_br (raA_leaf sX3_passesUpTo_14) (raA_leaf sX3_passesUpTo_15))) (raA_br (raA_br (raA_leaf sX3_passesUpTo_16) (raA_leaf sX3_passesUpTo_17)) (raA_br (raA_leaf sX3_passesUpTo_20) (raA_leaf sX3_passesUpTo_21)))))
theorem sX3_planesOf_0 : Snd (miT Tb) RX3 cX3_planesOf 5 (some .int) 0 (i_const 1 (vI 0)) := snd_iconst dX3_planesOf_0
theorem sX3_planesOf_1 : Snd (miT Tb) RX3 cX3_planesOf 5 (some .int) 1 (i_istore 2 2) := snd_istore_n rfl (by decide) dX3_planesOf_1
theorem sX3_planesOf_2 : Snd (miT Tb) RX3 cX3_planesOf 5 (some .int) 2 (i_const 3 (vI 0)) := snd_iconst dX3_planesOf_2
theorem sX3_planesOf_3 : Snd (miT Tb) RX3 cX3_planesOf 5 (some .int) 3 (i_istore 4 3) := snd_istore_n rfl (by decide) dX3_planesOf_3
theorem sX3_planesOf_4 : Snd (miT Tb) RX3 cX3_planesOf 5 (some .int) 4 (i_iload 5 3) := snd_iload_n rfl dX3_planesOf_4
theorem sX3_planesOf_5 : Snd (miT Tb) RX3 cX3_planesOf 5 (some .int) 5 (i_aload 6 0) := snd_aload_n rfl dX3_planesOf_5
theorem sX3_planesOf_6 : Snd (miT Tb) RX3 cX3_planesOf 5 (some .int) 6 (i_getR 3 0 9) := snd_getR rfl (by decide) (by decide) (by decide) (fun hK ho hs hq kk => gf_X3_12 hK ho hs hq rfl dX3_planesOf_6 kk)
theorem sX3_planesOf_9 : Snd (miT Tb) RX3 cX3_planesOf 5 (some .int) 9 (i_getR 0 4 12) := snd_getR rfl (by decide) (by decide) (by decide) (fun hK ho hs hq kk => gf_X3_82 hK ho hs hq rfl dX3_planesOf_9 kk)
theorem sX3_planesOf_12 : Snd (miT Tb) RX3 cX3_planesOf 5 (some .int) 12 (i_iload 13 1) := snd_iload_n rfl dX3_planesOf_12
theorem sX3_planesOf_13 : Snd (miT Tb) RX3 cX3_planesOf 5 (some .int) 13 (i_iald 14) := snd_iald dX3_planesOf_13
theorem sX3_planesOf_14 : Snd (miT Tb) RX3 cX3_planesOf 5 (some .int) 14 (i_icmp_ge 17 65) := snd_icmp_ge dX3_planesOf_14 rfl
theorem sX3_planesOf_17 : Snd (miT Tb) RX3 cX3_planesOf 5 (some .int) 17 (i_const 18 (vI 0)) := snd_iconst dX3_planesOf_17
theorem sX3_planesOf_18 : Snd (miT Tb) RX3 cX3_planesOf 5 (some .int) 18 (i_istore 20 4) := snd_istore (by decide) dX3_planesOf_18
theorem sX3_planesOf_20 : Snd (miT Tb) RX3 cX3_planesOf 5 (some .int) 20 (i_iload 22 4) := snd_iload dX3_planesOf_20
theorem sX3_planesOf_22 : Snd (miT Tb) RX3 cX3_planesOf 5 (some .int) 22 (i_aload 23 0) := snd_aload_n rfl dX3_planesOf_22
theorem sX3_planesOf_23 : Snd (miT Tb) RX3 cX3_planesOf 5 (some .int) 23 (i_getR 3 0 26) := snd_getR rfl (by decide) (by decide) (by decide) (fun hK ho hs hq kk => gf_X3_12 hK ho hs hq rfl dX3_planesOf_23 kk)
theorem sX3_planesOf_26 : Snd (miT Tb) RX3 cX3_planesOf 5 (some .int) 26 (i_getR 0 3 29) := snd_getR rfl (by decide) (by decide) (by decide) (fun hK ho hs hq kk => gf_X3_79 hK ho hs hq rfl dX3_planesOf_26 kk)
theorem sX3_planesOf_29 : Snd (miT Tb) RX3 cX3_planesOf 5 (some .int) 29 (i_iload 30 1) := snd_iload_n rfl dX3_planesOf_29
theorem sX3_planesOf_30 : Snd (miT Tb) RX3 cX3_planesOf 5 (some .int) 30 (i_iald 31) := snd_iald dX3_planesOf_30
theorem sX3_planesOf_31 : Snd (miT Tb) RX3 cX3_planesOf 5 (some .int) 31 (i_icmp_ge 34 59) := snd_icmp_ge dX3_planesOf_31 rfl
theorem sX3_planesOf_34 : Snd (miT Tb) RX3 cX3_planesOf 5 (some .int) 34 (i_iload 35 2) := snd_iload_n rfl dX3_planesOf_34
theorem sX3_planesOf_35 : Snd (miT Tb) RX3 cX3_planesOf 5 (some .int) 35 (i_aload 36 0) := snd_aload_n rfl dX3_planesOf_35
theorem sX3_planesOf_36 : Snd (miT Tb) RX3 cX3_planesOf 5 (some .int) 36 (i_getR 3 0 39) := snd_getR rfl (by decide) (by decide) (by decide) (fun hK ho hs hq kk => gf_X3_12 hK ho hs hq rfl dX3_planesOf_36 kk)
theorem sX3_planesOf_39 : Snd (miT Tb) RX3 cX3_planesOf 5 (some .int) 39 (i_iload 40 1) := snd_iload_n rfl dX3_planesOf_39
theorem sX3_planesOf_40 : Snd (miT Tb) RX3 cX3_planesOf 5 (some .int) 40 (i_iload 42 4) := snd_iload dX3_planesOf_40
theorem sX3_planesOf_42 : Snd (miT Tb) RX3 cX3_planesOf 5 (some .int) 42 (i_iload 43 3) := snd_iload_n rfl dX3_planesOf_42
theorem sX3_planesOf_43 : Snd (miT Tb) RX3 cX3_planesOf 5 (some .int) 43 (i_cV3 2 0 46) := snd_cV3 (fun hK hd hC ho hs h6 h7 h8 kk => iv_X3_89 hK (mc_2 hC) ho hs ⟨hd, by show _ ≤ 40 * (_ + 1); omega⟩ (Nat.le_refl _) h6 h7 h8 ⟨Nat.le_refl _, Nat.le_refl _⟩ dX3_planesOf_43 kk)
theorem sX3_planesOf_46 : Snd (miT Tb) RX3 cX3_planesOf 5 (some .int) 46 (i_mabs 49) := snd_mabs iw_X3_138 dX3_planesOf_46
theorem sX3_planesOf_49 : Snd (miT Tb) RX3 cX3_planesOf 5 (some .int) 49 (i_mmax 52) := snd_mmax iw_X3_143 dX3_planesOf_49
theorem sX3_planesOf_52 : Snd (miT Tb) RX3 cX3_planesOf 5 (some .int) 52 (i_istore 53 2) := snd_istore_n rfl (by decide) dX3_planesOf_52
theorem sX3_planesOf_53 : Snd (miT Tb) RX3 cX3_planesOf 5 (some .int) 53 (i_iinc 56 4 1) := snd_iinc (by decide) dX3_planesOf_53
theorem sX3_planesOf_56 : Snd (miT Tb) RX3 cX3_planesOf 5 (some .int) 56 (i_goto 20) := snd_goto dX3_planesOf_56 rfl
theorem sX3_planesOf_59 : Snd (miT Tb) RX3 cX3_planesOf 5 (some .int) 59 (i_iinc 62 3 1) := snd_iinc (by decide) dX3_planesOf_59
theorem sX3_planesOf_62 : Snd (miT Tb) RX3 cX3_planesOf 5 (some .int) 62 (i_goto 4) := snd_goto dX3_planesOf_62 rfl
theorem sX3_planesOf_65 : Snd (miT Tb) RX3 cX3_planesOf 5 (some .int) 65 (i_const 67 (vI 12)) := snd_bipush (by decide) dX3_planesOf_65
theorem sX3_planesOf_67 : Snd (miT Tb) RX3 cX3_planesOf 5 (some .int) 67 (i_iload 68 2) := snd_iload_n rfl dX3_planesOf_67
theorem sX3_planesOf_68 : Snd (miT Tb) RX3 cX3_planesOf 5 (some .int) 68 (i_cS1 15 71) := snd_cS1 (fun hK hd hC h6 h7 h8 kk => iv_X3_147 hK (mc_15 hC) ⟨hd, by show _ ≤ 40 * (_ + 1); omega⟩ (Nat.le_refl _) h6 h7 h8 ⟨Nat.le_refl _, Nat.le_refl _⟩ dX3_planesOf_68 kk)
theorem sX3_planesOf_71 : Snd (miT Tb) RX3 cX3_planesOf 5 (some .int) 71 (i_mmin 74) := snd_mmin iw_X3_150 dX3_planesOf_71
theorem sX3_planesOf_74 : Snd (miT Tb) RX3 cX3_planesOf 5 (some .int) 74 (i_iret) := snd_iret dX3_planesOf_74
theorem kX3_planesOf : raA (okI (miT Tb) (yX3_planesOf, cX3_planesOf, 5, (some .int))) tX3_planesOf := (raA_br (raA_br (raA_br (raA_br (raA_br (raA_leaf sX3_planesOf_0) (raA_leaf sX3_planesOf_1)) (raA_br (raA_leaf sX3_planesOf_2) (raA_leaf sX3_planesOf_3))) (raA_br (raA_br (raA_leaf sX3_planesOf_4) (raA_leaf sX3_planesOf_5)) (raA_br (raA_leaf sX3_planesOf_6) (raA_br (raA_leaf sX3_planesOf_9) (raA_leaf sX3_planesOf_12))))) (raA_br (raA_br (raA_br (raA_leaf sX3_planesOf_13) (raA_leaf sX3_planesOf_14)) (raA_br (raA_leaf sX3_planesOf_17) (raA_br (raA_leaf sX3_planesOf_18) (raA_leaf sX3_planesOf_20)))) (raA_br (raA_br (raA_leaf sX3_planesOf_22) (raA_leaf sX3_planesOf_23)) (raA_br (raA_leaf sX3_planesOf_26) (raA_br (raA_leaf sX3_planesOf_29) (raA_leaf sX3_planesOf_30)))))) (raA_br (raA_br (raA_br (raA_br (raA_leaf sX3_planesOf_31) (raA_leaf sX3_planesOf_34)) (raA_br (raA_leaf sX3_planesOf_35) (raA_br (raA_leaf sX3_planesOf_36) (raA_leaf sX3_planesOf_39)))) (raA_br (raA_br (raA_leaf sX3_planesOf_40) (raA_leaf sX3_planesOf_42)) (raA_br (raA_leaf sX3_planesOf_43) (raA_br (raA_leaf sX3_planesOf_46) (raA_leaf sX3_planesOf_49))))) (raA_br (raA_br (raA_br (raA_leaf sX3_planesOf_52) (raA_leaf sX3_planesOf_53)) (raA_br (raA_leaf sX3_planesOf_56) (raA_br (raA_leaf sX3_planesOf_59) (raA_leaf sX3_planesOf_62)))) (raA_br (raA_br (raA_leaf sX3_planesOf_65) (raA_leaf sX3_planesOf_67)) (raA_br (raA_leaf sX3_planesOf_68) (raA_br (raA_leaf sX3_planesOf_71) (raA_leaf sX3_planesOf_74)))))))
theorem sX3_tellBand_0 : Snd (miT Tb) RX3 cX3_tellBand 4 none 0 (i_aload 1 0) := snd_aload_n rfl dX3_tellBand_0
theorem sX3_tellBand_1 : Snd (miT Tb) RX3 cX3_tellBand 4 none 1 (i_getR 3 2 4) := snd_getR rfl (by decide) (by decide) (by decide) (fun hK ho hs hq kk => gf_X3_22 hK ho hs hq rfl dX3_tellBand_1 kk)
theorem sX3_tellBand_4 : Snd (miT Tb) RX3 cX3_tellBand 4 none 4 (i_iload 5 1) := snd_iload_n rfl dX3_tellBand_4
theorem sX3_tellBand_5 : Snd (miT Tb) RX3 cX3_tellBand 4 none 5 (i_aload 6 0) := snd_aload_n rfl dX3_tellBand_5
theorem sX3_tellBand_6 : Snd (miT Tb) RX3 cX3_tellBand 4 none 6 (i_getR 3 7 9) := snd_getR rfl (by decide) (by decide) (by decide) (fun hK ho hs hq kk => gf_X3_40 hK ho hs hq rfl dX3_tellBand_6 kk)
theorem sX3_tellBand_9 : Snd (miT Tb) RX3 cX3_tellBand 4 none 9 (i_cV0 75 1 12) := snd_cV0 (fun hK hd hC ho hs h6 h7 h8 kk => iv_X3_153 hK (mc_75 hC) ho hs ⟨hd, by show _ ≤ 40 * (_ + 1); omega⟩ (Nat.le_refl _) h6 h7 h8 ⟨Nat.le_refl _, Nat.le_refl _⟩ dX3_tellBand_9 kk)
theorem sX3_tellBand_12 : Snd (miT Tb) RX3 cX3_tellBand 4 none 12 (i_iast 13) := snd_iast dX3_tellBand_12
theorem sX3_tellBand_13 : Snd (miT Tb) RX3 cX3_tellBand 4 none 13 (i_aload 14 0) := snd_aload_n rfl dX3_tellBand_13
theorem sX3_tellBand_14 : Snd (miT Tb) RX3 cX3_tellBand 4 none 14 (i_getR 3 3 17) := snd_getR rfl (by decide) (by decide) (by decide) (fun hK ho hs hq kk => gf_X3_25 hK ho hs hq rfl dX3_tellBand_14 kk)
theorem sX3_tellBand_17 : Snd (miT Tb) RX3 cX3_tellBand 4 none 17 (i_iload 18 1) := snd_iload_n rfl dX3_tellBand_17
theorem sX3_tellBand_18 : Snd (miT Tb) RX3 cX3_tellBand 4 none 18 (i_const 19 (vI 0)) := snd_iconst dX3_tellBand_18
theorem sX3_tellBand_19 : Snd (miT Tb) RX3 cX3_tellBand 4 none 19 (i_iast 20) := snd_iast dX3_tellBand_19
theorem sX3_tellBand_20 : Snd (miT Tb) RX3 cX3_tellBand 4 none 20 (i_aload 21 0) := snd_aload_n rfl dX3_tellBand_20
theorem sX3_tellBand_21 : Snd (miT Tb) RX3 cX3_tellBand 4 none 21 (i_getR 3 8 24) := snd_getR rfl (by decide) (by decide) (by decide) (fun hK ho hs hq kk => gf_X3_47 hK ho hs hq rfl dX3_tellBand_21 kk)
theorem sX3_tellBand_24 : Snd (miT Tb) RX3 cX3_tellBand 4 none 24 (i_cV0 115 7 27) := snd_cV0 (fun hK hd hC ho hs h6 h7 h8 kk => iv_X3_157 hK (mc_115 hC) ho hs ⟨hd, by show _ ≤ 40 * (_ + 1); omega⟩ (Nat.le_refl _) h6 h7 h8 ⟨Nat.le_refl _, Nat.le_refl _⟩ dX3_tellBand_24 kk)
theorem sX3_tellBand_27 : Snd (miT Tb) RX3 cX3_tellBand 4 none 27 (i_aload 28 0) := snd_aload_n rfl dX3_tellBand_27
theorem sX3_tellBand_28 : Snd (miT Tb) RX3 cX3_tellBand 4 none 28 (i_getR 3 1 31) := snd_getR rfl (by decide) (by decide) (by decide) (fun hK ho hs hq kk => gf_X3_18 hK ho hs hq rfl dX3_tellBand_28 kk)
theorem sX3_tellBand_31 : Snd (miT Tb) RX3 cX3_tellBand 4 none 31 (i_iload 32 1) := snd_iload_n rfl dX3_tellBand_31
theorem sX3_tellBand_32 : Snd (miT Tb) RX3 cX3_tellBand 4 none 32 (i_iald 33) := snd_iald dX3_tellBand_32
theorem sX3_tellBand_33 : Snd (miT Tb) RX3 cX3_tellBand 4 none 33 (i_if_ne 36 37) := snd_if_ne dX3_tellBand_33 rfl
theorem sX3_tellBand_36 : Snd (miT Tb) RX3 cX3_tellBand 4 none 36 (i_vret) := snd_vret dX3_tellBand_36
theorem sX3_tellBand_37 : Snd (miT Tb) RX3 cX3_tellBand 4 none 37 (i_aload 38 0) := snd_aload_n rfl dX3_tellBand_37
theorem sX3_tellBand_38 : Snd (miT Tb) RX3 cX3_tellBand 4 none 38 (i_getR 3 9 41) := snd_getR rfl (by decide) (by decide) (by decide) (fun hK ho hs hq kk => gf_X3_56 hK ho hs hq rfl dX3_tellBand_38 kk)
theorem sX3_tellBand_41 : Snd (miT Tb) RX3 cX3_tellBand 4 none 41 (i_aload 42 0) := snd_aload_n rfl dX3_tellBand_41
theorem sX3_tellBand_42 : Snd (miT Tb) RX3 cX3_tellBand 4 none 42 (i_getR 3 0 45) := snd_getR rfl (by decide) (by decide) (by decide) (fun hK ho hs hq kk => gf_X3_12 hK ho hs hq rfl dX3_tellBand_42 kk)
theorem sX3_tellBand_45 : Snd (miT Tb) RX3 cX3_tellBand 4 none 45 (i_getR 0 3 48) := snd_getR rfl (by decide) (by decide) (by decide) (fun hK ho hs hq kk => gf_X3_79 hK ho hs hq rfl dX3_tellBand_45 kk)
theorem sX3_tellBand_48 : Snd (miT Tb) RX3 cX3_tellBand 4 none 48 (i_iload 49 1) := snd_iload_n rfl dX3_tellBand_48
theorem sX3_tellBand_49 : Snd (miT Tb) RX3 cX3_tellBand 4 none 49 (i_iald 50) := snd_iald dX3_tellBand_49
theorem sX3_tellBand_50 : Snd (miT Tb) RX3 cX3_tellBand 4 none 50 (i_aload 51 0) := snd_aload_n rfl dX3_tellBand_50
theorem sX3_tellBand_51 : Snd (miT Tb) RX3 cX3_tellBand 4 none 51 (i_getR 3 0 54) := snd_getR rfl (by decide) (by decide) (by decide) (fun hK ho hs hq kk => gf_X3_12 hK ho hs hq rfl dX3_tellBand_51 kk)
theorem sX3_tellBand_54 : Snd (miT Tb) RX3 cX3_tellBand 4 none 54 (i_getR 0 4 57) := snd_getR rfl (by decide) (by decide) (by decide) (fun hK ho hs hq kk => gf_X3_82 hK ho hs hq rfl dX3_tellBand_54 kk)
theorem sX3_tellBand_57 : Snd (miT Tb) RX3 cX3_tellBand 4 none 57 (i_iload 58 1) := snd_iload_n rfl dX3_tellBand_57
theorem sX3_tellBand_58 : Snd (miT Tb) RX3 cX3_tellBand 4 none 58 (i_iald 59) := snd_iald dX3_tellBand_58
theorem sX3_tellBand_59 : Snd (miT Tb) RX3 cX3_tellBand 4 none 59 (i_aload 60 0) := snd_aload_n rfl dX3_tellBand_59
theorem sX3_tellBand_60 : Snd (miT Tb) RX3 cX3_tellBand 4 none 60 (i_getR 3 0 63) := snd_getR rfl (by decide) (by decide) (by decide) (fun hK ho hs hq kk => gf_X3_12 hK ho hs hq rfl dX3_tellBand_60 kk)
theorem sX3_tellBand_63 : Snd (miT Tb) RX3 cX3_tellBand 4 none 63 (i_iload 64 1) := snd_iload_n rfl dX3_tellBand_63
theorem sX3_tellBand_64 : Snd (miT Tb) RX3 cX3_tellBand 4 none 64 (i_cV1 7 0 67) := snd_cV1 (fun hK hd hC ho hs h6 h7 h8 kk => iv_X3_158 hK (mc_7 hC) ho hs ⟨hd, by show _ ≤ 40 * (_ + 1); omega⟩ (Nat.le_refl _) h6 h7 h8 ⟨Nat.le_refl _, Nat.le_refl _⟩ dX3_tellBand_64 kk)
theorem sX3_tellBand_67 : Snd (miT Tb) RX3 cX3_tellBand 4 none 67 (i_cV3 92 4 70) := snd_cV3 (fun hK hd hC ho hs h6 h7 h8 kk => iv_X3_161 hK (mc_92 hC) ho hs ⟨hd, by show _ ≤ 40 * (_ + 1); omega⟩ (Nat.le_refl _) h6 h7 h8 ⟨Nat.le_refl _, Nat.le_refl _⟩ dX3_tellBand_67 kk)
theorem sX3_tellBand_70 : Snd (miT Tb) RX3 cX3_tellBand 4 none 70 (i_const 71 (vI 0)) := snd_iconst dX3_tellBand_70
theorem sX3_tellBand_71 : Snd (miT Tb) RX3 cX3_tellBand 4 none 71 (i_istore 72 2) := snd_istore_n rfl (by decide) dX3_tellBand_71
theorem sX3_tellBand_72 : Snd (miT Tb) RX3 cX3_tellBand 4 none 72 (i_iload 73 2) := snd_iload_n rfl dX3_tellBand_72
theorem sX3_tellBand_73 : Snd (miT Tb) RX3 cX3_tellBand 4 none 73 (i_aload 74 0) := snd_aload_n rfl dX3_tellBand_73
theorem sX3_tellBand_74 : Snd (miT Tb) RX3 cX3_tellBand 4 none 74 (i_getR 3 0 77) := snd_getR rfl (by decide) (by decide) (by decide) (fun hK ho hs hq kk => gf_X3_12 hK ho hs hq rfl dX3_tellBand_74 kk)
theorem sX3_tellBand_77 : Snd (miT Tb) RX3 cX3_tellBand 4 none 77 (i_getR 0 4 80) := snd_getR rfl (by decide) (by decide) (by decide) (fun hK ho hs hq kk => gf_X3_82 hK ho hs hq rfl dX3_tellBand_77 kk)
theorem sX3_tellBand_80 : Snd (miT Tb) RX3 cX3_tellBand 4 none 80 (i_iload 81 1) := snd_iload_n rfl dX3_tellBand_80
theorem sX3_tellBand_81 : Snd (miT Tb) RX3 cX3_tellBand 4 none 81 (i_iald 82) := snd_iald dX3_tellBand_81
theorem sX3_tellBand_82 : Snd (miT Tb) RX3 cX3_tellBand 4 none 82 (i_icmp_ge 85 131) := snd_icmp_ge dX3_tellBand_82 rfl
theorem sX3_tellBand_85 : Snd (miT Tb) RX3 cX3_tellBand 4 none 85 (i_const 86 (vI 0)) := snd_iconst dX3_tellBand_85
theorem sX3_tellBand_86 : Snd (miT Tb) RX3 cX3_tellBand 4 none 86 (i_istore 87 3) := snd_istore_n rfl (by decide) dX3_tellBand_86
theorem sX3_tellBand_87 : Snd (miT Tb) RX3 cX3_tellBand 4 none 87 (i_iload 88 3) := snd_iload_n rfl dX3_tellBand_87
theorem sX3_tellBand_88 : Snd (miT Tb) RX3 cX3_tellBand 4 none 88 (i_aload 89 0) := snd_aload_n rfl dX3_tellBand_88
theorem sX3_tellBand_89 : Snd (miT Tb) RX3 cX3_tellBand 4 none 89 (i_getR 3 0 92) := snd_getR rfl (by decide) (by decide) (by decide) (fun hK ho hs hq kk => gf_X3_12 hK ho hs hq rfl dX3_tellBand_89 kk)
theorem sX3_tellBand_92 : Snd (miT Tb) RX3 cX3_tellBand 4 none 92 (i_getR 0 3 95) := snd_getR rfl (by decide) (by decide) (by decide) (fun hK ho hs hq kk => gf_X3_79 hK ho hs hq rfl dX3_tellBand_92 kk)
theorem sX3_tellBand_95 : Snd (miT Tb) RX3 cX3_tellBand 4 none 95 (i_iload 96 1) := snd_iload_n rfl dX3_tellBand_95
theorem sX3_tellBand_96 : Snd (miT Tb) RX3 cX3_tellBand 4 none 96 (i_iald 97) := snd_iald dX3_tellBand_96
theorem sX3_tellBand_97 : Snd (miT Tb) RX3 cX3_tellBand 4 none 97 (i_icmp_ge 100 125) := snd_icmp_ge dX3_tellBand_97 rfl
theorem sX3_tellBand_100 : Snd (miT Tb) RX3 cX3_tellBand 4 none 100 (i_aload 101 0) := snd_aload_n rfl dX3_tellBand_100
theorem sX3_tellBand_101 : Snd (miT Tb) RX3 cX3_tellBand 4 none 101 (i_getR 3 9 104) := snd_getR rfl (by decide) (by decide) (by decide) (fun hK ho hs hq kk => gf_X3_56 hK ho hs hq rfl dX3_tellBand_101 kk)
theorem sX3_tellBand_104 : Snd (miT Tb) RX3 cX3_tellBand 4 none 104 (i_iload 105 3) := snd_iload_n rfl dX3_tellBand_104
theorem sX3_tellBand_105 : Snd (miT Tb) RX3 cX3_tellBand 4 none 105 (i_iload 106 2) := snd_iload_n rfl dX3_tellBand_105
theorem sX3_tellBand_106 : Snd (miT Tb) RX3 cX3_tellBand 4 none 106 (i_aload 107 0) := snd_aload_n rfl dX3_tellBand_106
theorem sX3_tellBand_107 : Snd (miT Tb) RX3 cX3_tellBand 4 none 107 (i_getR 3 0 110) := snd_getR rfl (by decide) (by decide) (by decide) (fun hK ho hs hq kk => gf_X3_12 hK ho hs hq rfl dX3_tellBand_107 kk)
theorem sX3_tellBand_110 : Snd (miT Tb) RX3 cX3_tellBand 4 none 110 (i_iload 111 1) := snd_iload_n rfl dX3_tellBand_110
theorem sX3_tellBand_111 : Snd (miT Tb) RX3 cX3_tellBand 4 none 111 (i_iload 112 3) := snd_iload_n rfl dX3_tellBand_111
theorem sX3_tellBand_112 : Snd (miT Tb) RX3 cX3_tellBand 4 none 112 (i_iload 113 2) := snd_iload_n rfl dX3_tellBand_112
theorem sX3_tellBand_113 : Snd (miT Tb) RX3 cX3_tellBand 4 none 113 (i_cV3 2 0 116) := snd_cV3 (fun hK hd hC ho hs h6 h7 h8 kk => iv_X3_89 hK (mc_2 hC) ho hs ⟨hd, by show _ ≤ 40 * (_ + 1); omega⟩ (Nat.le_refl _) h6 h7 h8 ⟨Nat.le_refl _, Nat.le_refl _⟩ dX3_tellBand_113 kk)
theorem sX3_tellBand_116 : Snd (miT Tb) RX3 cX3_tellBand 4 none 116 (i_cV3 100 4 119) := snd_cV3 (fun hK hd hC ho hs h6 h7 h8 kk => iv_X3_164 hK (mc_100 hC) ho hs ⟨hd, by show _ ≤ 40 * (_ + 1); omega⟩ (Nat.le_refl _) h6 h7 h8 ⟨Nat.le_refl _, Nat.le_refl _⟩ dX3_tellBand_116 kk)
theorem sX3_tellBand_119 : Snd (miT Tb) RX3 cX3_tellBand 4 none 119 (i_iinc 122 3 1) := snd_iinc (by decide) dX3_tellBand_119
theorem sX3_tellBand_122 : Snd (miT Tb) RX3 cX3_tellBand 4 none 122 (i_goto 87) := snd_goto dX3_tellBand_122 rfl
theorem sX3_tellBand_125 : Snd (miT Tb) RX3 cX3_tellBand 4 none 125 (i_iinc 128 2 1) := snd_iinc (by decide) dX3_tellBand_125
theorem sX3_tellBand_128 : Snd (miT Tb) RX3 cX3_tellBand 4 none 128 (i_goto 72) := snd_goto dX3_tellBand_128 rfl
theorem sX3_tellBand_131 : Snd (miT Tb) RX3 cX3_tellBand 4 none 131 (i_const 132 (vI 0)) := snd_iconst dX3_tellBand_131
theorem sX3_tellBand_132 : Snd (miT Tb) RX3 cX3_tellBand 4 none 132 (i_istore 133 2) := snd_istore_n rfl (by decide) dX3_tellBand_132
theorem sX3_tellBand_133 : Snd (miT Tb) RX3 cX3_tellBand 4 none 133 (i_iload 134 2) := snd_iload_n rfl dX3_tellBand_133
theorem sX3_tellBand_134 : Snd (miT Tb) RX3 cX3_tellBand 4 none 134 (i_aload 135 0) := snd_aload_n rfl dX3_tellBand_134
theorem sX3_tellBand_135 : Snd (miT Tb) RX3 cX3_tellBand 4 none 135 (i_getR 3 1 138) := snd_getR rfl (by decide) (by decide) (by decide) (fun hK ho hs hq kk => gf_X3_18 hK ho hs hq rfl dX3_tellBand_135 kk)
theorem sX3_tellBand_138 : Snd (miT Tb) RX3 cX3_tellBand 4 none 138 (i_iload 139 1) := snd_iload_n rfl dX3_tellBand_138
theorem sX3_tellBand_139 : Snd (miT Tb) RX3 cX3_tellBand 4 none 139 (i_iald 140) := snd_iald dX3_tellBand_139
theorem sX3_tellBand_140 : Snd (miT Tb) RX3 cX3_tellBand 4 none 140 (i_cS1 19 143) := snd_cS1 (fun hK hd hC h6 h7 h8 kk => iv_X3_85 hK (mc_19 hC) ⟨hd, by show _ ≤ 40 * (_ + 1); omega⟩ (Nat.le_refl _) h6 h7 h8 ⟨Nat.le_refl _, Nat.le_refl _⟩ dX3_tellBand_140 kk)
theorem sX3_tellBand_143 : Snd (miT Tb) RX3 cX3_tellBand 4 none 143 (i_icmp_ge 146 173) := snd_icmp_ge dX3_tellBand_143 rfl
theorem sX3_tellBand_146 : Snd (miT Tb) RX3 cX3_tellBand 4 none 146 (i_aload 147 0) := snd_aload_n rfl dX3_tellBand_146
theorem sX3_tellBand_147 : Snd (miT Tb) RX3 cX3_tellBand 4 none 147 (i_getR 3 9 150) := snd_getR rfl (by decide) (by decide) (by decide) (fun hK ho hs hq kk => gf_X3_56 hK ho hs hq rfl dX3_tellBand_147 kk)
theorem sX3_tellBand_150 : Snd (miT Tb) RX3 cX3_tellBand 4 none 150 (i_iload 151 2) := snd_iload_n rfl dX3_tellBand_150
theorem sX3_tellBand_151 : Snd (miT Tb) RX3 cX3_tellBand 4 none 151 (i_aload 152 0) := snd_aload_n rfl dX3_tellBand_151
theorem sX3_tellBand_152 : Snd (miT Tb) RX3 cX3_tellBand 4 none 152 (i_getR 3 1 155) := snd_getR rfl (by decide) (by decide) (by decide) (fun hK ho hs hq kk => gf_X3_18 hK ho hs hq rfl dX3_tellBand_152 kk)
theorem sX3_tellBand_155 : Snd (miT Tb) RX3 cX3_tellBand 4 none 155 (i_iload 156 1) := snd_iload_n rfl dX3_tellBand_155
theorem sX3_tellBand_156 : Snd (miT Tb) RX3 cX3_tellBand 4 none 156 (i_iald 157) := snd_iald dX3_tellBand_156
theorem sX3_tellBand_157 : Snd (miT Tb) RX3 cX3_tellBand 4 none 157 (i_cV2 105 4 160) := snd_cV2 (fun hK hd hC ho hs h6 h7 h8 kk => iv_X3_167 hK (mc_105 hC) ho hs ⟨hd, by show _ ≤ 40 * (_ + 1); omega⟩ (Nat.le_refl _) h6 h7 h8 ⟨Nat.le_refl _, Nat.le_refl _⟩ dX3_tellBand_157 kk)
theorem sX3_tellBand_160 : Snd (miT Tb) RX3 cX3_tellBand 4 none 160 (i_aload 161 0) := snd_aload_n rfl dX3_tellBand_160
theorem sX3_tellBand_161 : Snd (miT Tb) RX3 cX3_tellBand 4 none 161 (i_getR 3 8 164) := snd_getR rfl (by decide) (by decide) (by decide) (fun hK ho hs hq kk => gf_X3_47 hK ho hs hq rfl dX3_tellBand_161 kk)
theorem sX3_tellBand_164 : Snd (miT Tb) RX3 cX3_tellBand 4 none 164 (i_cV0 116 7 167) := snd_cV0 (fun hK hd hC ho hs h6 h7 h8 kk => iv_X3_171 hK (mc_116 hC) ho hs ⟨hd, by show _ ≤ 40 * (_ + 1); omega⟩ (Nat.le_refl _) h6 h7 h8 ⟨Nat.le_refl _, Nat.le_refl _⟩ dX3_tellBand_164 kk)
theorem sX3_tellBand_167 : Snd (miT Tb) RX3 cX3_tellBand 4 none 167 (i_iinc 170 2 1) := snd_iinc (by decide) dX3_tellBand_167
theorem sX3_tellBand_170 : Snd (miT Tb) RX3 cX3_tellBand 4 none 170 (i_goto 133) := snd_goto dX3_tellBand_170 rfl
theorem sX3_tellBand_173 : Snd (miT Tb) RX3 cX3_tellBand 4 none 173 (i_aload 174 0) := snd_aload_n rfl dX3_tellBand_173
theorem sX3_tellBand_174 : Snd (miT Tb) RX3 cX3_tellBand 4 none 174 (i_getR 3 10 177) := snd_getR rfl (by decide) (by decide) (by decide) (fun hK ho hs hq kk => gf_X3_63 hK ho hs hq rfl dX3_tellBand_174 kk)
theorem sX3_tellBand_177 : Snd (miT Tb) RX3 cX3_tellBand 4 none 177 (i_cV0 121 8 180) := snd_cV0 (fun hK hd hC ho hs h6 h7 h8 kk => iv_X3_174 hK (mc_121 hC) ho hs ⟨hd, by show _ ≤ 40 * (_ + 1); omega⟩ (Nat.le_refl _) h6 h7 h8 ⟨Nat.le_refl _, Nat.le_refl _⟩ dX3_tellBand_177 kk)
theorem sX3_tellBand_180 : Snd (miT Tb) RX3 cX3_tellBand 4 none 180 (i_aload 181 0) := snd_aload_n rfl dX3_tellBand_180
theorem sX3_tellBand_181 : Snd (miT Tb) RX3 cX3_tellBand 4 none 181 (i_getR 3 8 184) := snd_getR rfl (by decide) (by decide) (by decide) (fun hK ho hs hq kk => gf_X3_47 hK ho hs hq rfl dX3_tellBand_181 kk)
theorem sX3_tellBand_184 : Snd (miT Tb) RX3 cX3_tellBand 4 none 184 (i_aload 185 0) := snd_aload_n rfl dX3_tellBand_184
theorem sX3_tellBand_185 : Snd (miT Tb) RX3 cX3_tellBand 4 none 185 (i_getR 3 10 188) := snd_getR rfl (by decide) (by decide) (by decide) (fun hK ho hs hq kk => gf_X3_63 hK ho hs hq rfl dX3_tellBand_185 kk)
theorem sX3_tellBand_188 : Snd (miT Tb) RX3 cX3_tellBand 4 none 188 (i_cV1 119 7 191) := snd_cV1 (fun hK hd hC ho hs h6 h7 h8 kk => iv_X3_176 hK (mc_119 hC) ho hs ⟨hd, by show _ ≤ 40 * (_ + 1); omega⟩ (Nat.le_refl _) h6 h7 h8 ⟨Nat.le_refl _, Nat.le_refl _⟩ dX3_tellBand_188 kk)
theorem sX3_tellBand_191 : Snd (miT Tb) RX3 cX3_tellBand 4 none 191 (i_aload 192 0) := snd_aload_n rfl dX3_tellBand_191
theorem sX3_tellBand_192 : Snd (miT Tb) RX3 cX3_tellBand 4 none 192 (i_getR 3 10 195) := snd_getR rfl (by decide) (by decide) (by decide) (fun hK ho hs hq kk => gf_X3_63 hK ho hs hq rfl dX3_tellBand_192 kk)
theorem sX3_tellBand_195 : Snd (miT Tb) RX3 cX3_tellBand 4 none 195 (i_cV0 122 8 198) := snd_cV0 (fun hK hd hC ho hs h6 h7 h8 kk => iv_X3_180 hK (mc_122 hC) ho hs ⟨hd, by show _ ≤ 40 * (_ + 1); omega⟩ (Nat.le_refl _) h6 h7 h8 ⟨Nat.le_refl _, Nat.le_refl _⟩ dX3_tellBand_195 kk)
theorem sX3_tellBand_198 : Snd (miT Tb) RX3 cX3_tellBand 4 none 198 (i_aload 199 0) := snd_aload_n rfl dX3_tellBand_198
theorem sX3_tellBand_199 : Snd (miT Tb) RX3 cX3_tellBand 4 none 199 (i_getR 3 3 202) := snd_getR rfl (by decide) (by decide) (by decide) (fun hK ho hs hq kk => gf_X3_25 hK ho hs hq rfl dX3_tellBand_199 kk)
theorem sX3_tellBand_202 : Snd (miT Tb) RX3 cX3_tellBand 4 none 202 (i_iload 203 1) := snd_iload_n rfl dX3_tellBand_202
theorem sX3_tellBand_203 : Snd (miT Tb) RX3 cX3_tellBand 4 none 203 (i_aload 204 0) := snd_aload_n rfl dX3_tellBand_203
theorem sX3_tellBand_204 : Snd (miT Tb) RX3 cX3_tellBand 4 none 204 (i_getR 3 10 207) := snd_getR rfl (by decide) (by decide) (by decide) (fun hK ho hs hq kk => gf_X3_63 hK ho hs hq rfl dX3_tellBand_204 kk)
theorem sX3_tellBand_207 : Snd (miT Tb) RX3 cX3_tellBand 4 none 207 (i_aload 208 0) := snd_aload_n rfl dX3_tellBand_207
theorem sX3_tellBand_208 : Snd (miT Tb) RX3 cX3_tellBand 4 none 208 (i_getR 3 7 211) := snd_getR rfl (by decide) (by decide) (by decide) (fun hK ho hs hq kk => gf_X3_40 hK ho hs hq rfl dX3_tellBand_208 kk)
theorem sX3_tellBand_211 : Snd (miT Tb) RX3 cX3_tellBand 4 none 211 (i_cV1 120 8 214) := snd_cV1 (fun hK hd hC ho hs h6 h7 h8 kk => iv_X3_183 hK (mc_120 hC) ho hs ⟨hd, by show _ ≤ 40 * (_ + 1); omega⟩ (Nat.le_refl _) h6 h7 h8 ⟨Nat.le_refl _, Nat.le_refl _⟩ dX3_tellBand_211 kk)
theorem sX3_tellBand_214 : Snd (miT Tb) RX3 cX3_tellBand 4 none 214 (i_iast 215) := snd_iast dX3_tellBand_214
theorem sX3_tellBand_215 : Snd (miT Tb) RX3 cX3_tellBand 4 none 215 (i_vret) := snd_vret dX3_tellBand_215
theorem kX3_tellBand : raA (okI (miT Tb) (yX3_tellBand, cX3_tellBand, 4, none)) tX3_tellBand := (raA_br (raA_br (raA_br (raA_br (raA_br (raA_br (raA_leaf sX3_tellBand_0) (raA_br (raA_leaf sX3_tellBand_1) (raA_leaf sX3_tellBand_4))) (raA_br (raA_br (raA_leaf sX3_tellBand_5) (raA_leaf sX3_tellBand_6)) (raA_br (raA_leaf sX3_tellBand_9) (raA_leaf sX3_tellBand_12)))) (raA_br (raA_br (raA_leaf sX3_tellBand_13) (raA_br (raA_leaf sX3_tellBand_14) (raA_leaf sX3_tellBand_17))) (raA_br (raA_br (raA_leaf sX3_tellBand_18) (raA_leaf sX3_tellBand_19)) (raA_br (raA_leaf sX3_tellBand_20) (raA_leaf sX3_tellBand_21))))) (raA_br (raA_br (raA_br (raA_leaf sX3_tellBand_24) (raA_br (raA_leaf sX3_tellBand_27) (raA_leaf sX3_tellBand_28))) (raA_br (raA_br (raA_leaf sX3_tellBand_31) (raA_leaf sX3_tellBand_32)) (raA_br (raA_leaf sX3_tellBand_33) (raA_leaf sX3_tellBand_36)))) (raA_br (raA_br (raA_leaf sX3_tellBand_37) (raA_br (raA_leaf sX3_tellBand_38) (raA_leaf sX3_tellBand_41))) (raA_br (raA_br (raA_leaf sX3_tellBand_42) (raA_leaf sX3_tellBand_45)) (raA_br (raA_leaf sX3_tellBand_48) (raA_leaf sX3_tellBand_49)))))) (raA_br (raA_br (raA_br (raA_br (raA_leaf sX3_tellBand_50) (raA_br (raA_leaf sX3_tellBand_51) (raA_leaf sX3_tellBand_54))) (raA_br (raA_br (raA_leaf sX3_tellBand_57) (raA_leaf sX3_tellBand_58)) (raA_br (raA_leaf sX3_tellBand_59) (raA_leaf sX3_tellBand_60)))) (raA_br (raA_br (raA_leaf sX3_tellBand_63) (raA_br (raA_leaf sX3_tellBand_64) (raA_leaf sX3_tellBand_67))) (raA_br (raA_br (raA_leaf sX3_tellBand_70) (raA_leaf sX3_tellBand_71)) (raA_br (raA_leaf sX3_tellBand_72) (raA_leaf sX3_tellBand_73))))) (raA_br (raA_br (raA_br (raA_leaf sX3_tellBand_74) (raA_br (raA_leaf sX3_tellBand_77) (raA_leaf sX3_tellBand_80))) (raA_br (raA_br (raA_leaf sX3_tellBand_81) (raA_leaf sX3_tellBand_82)) (raA_br (raA_leaf sX3_tellBand_85) (raA_leaf sX3_tellBand_86)))) (raA_br (raA_br (raA_br (raA_leaf sX3_tellBand_87) (raA_leaf sX3_tellBand_88)) (raA_br (raA_leaf sX3_tellBand_89) (raA_leaf sX3_tellBand_92))) (raA_br (raA_br (raA_leaf sX3_tellBand_95) (raA_leaf sX3_tellBand_96)) (raA_br (raA_leaf sX3_tellBand_97) (raA_leaf sX3_tellBand_100))))))) (raA_br (raA_br (raA_br (raA_br (raA_br (raA_leaf sX3_tellBand_101) (raA_br (raA_leaf sX3_tellBand_104) (raA_leaf sX3_tellBand_105))) (raA_br (raA_br (raA_leaf sX3_tellBand_106) (raA_leaf sX3_tellBand_107)) (raA_br (raA_leaf sX3_tellBand_110) (raA_leaf sX3_tellBand_111)))) (raA_br (raA_br (raA_leaf sX3_tellBand_112) (raA_br (raA_leaf sX3_tellBand_113) (raA_leaf sX3_tellBand_116))) (raA_br (raA_br (raA_leaf sX3_tellBand_119) (raA_leaf sX3_tellBand_122)) (raA_br (raA_leaf sX3_tellBand_125) (raA_leaf sX3_tellBand_128))))) (raA_br (raA_br (raA_br (raA_leaf sX3_tellBand_131) (raA_br (raA_leaf sX3_tellBand_132) (raA_leaf sX3_tellBand_133))) (raA_br (raA_br (raA_leaf sX3_tellBand_134) (raA_leaf sX3_tellBand_135)) (raA_br (raA_leaf sX3_tellBand_138) (raA_leaf sX3_tellBand_139)))) (raA_br (raA_br (raA_leaf sX3_tellBand_140) (raA_br (raA_leaf sX3_tellBand_143) (raA_leaf sX3_tellBand_146))) (raA_br (raA_br (raA_leaf sX3_tellBand_147) (raA_leaf sX3_tellBand_150)) (raA_br (raA_leaf sX3_tellBand_151) (raA_leaf sX3_tellBand_152)))))) (raA_br (raA_br (raA_br (raA_br (raA_leaf sX3_tellBand_155) (raA_br (raA_leaf sX3_tellBand_156) (raA_leaf sX3_tellBand_157))) (raA_br (raA_br (raA_leaf sX3_tellBand_160) (raA_leaf sX3_tellBand_161)) (raA_br (raA_leaf sX3_tellBand_164) (raA_leaf sX3_tellBand_167)))) (raA_br (raA_br (raA_leaf sX3_tellBand_170) (raA_br (raA_leaf sX3_tellBand_173) (raA_leaf sX3_tellBand_174))) (raA_br (raA_br (raA_leaf sX3_tellBand_177) (raA_leaf sX3_tellBand_180)) (raA_br (raA_leaf sX3_tellBand_181) (raA_leaf sX3_tellBand_184))))) (raA_br (raA_br (raA_br (raA_leaf sX3_tellBand_185) (raA_br (raA_leaf sX3_tellBand_188) (raA_leaf sX3_tellBand_191))) (raA_br (raA_br (raA_leaf sX3_tellBand_192) (raA_leaf sX3_tellBand_195)) (raA_br (raA_leaf sX3_tellBand_198) (raA_leaf sX3_tellBand_199)))) (raA_br (raA_br (raA_br (raA_leaf sX3_tellBand_202) (raA_leaf sX3_tellBand_203)) (raA_br (raA_leaf sX3_tellBand_204) (raA_leaf sX3_tellBand_207))) (raA_br (raA_br (raA_leaf sX3_tellBand_208) (raA_leaf sX3_tellBand_211)) (raA_br (raA_leaf sX3_tellBand_214) (raA_leaf sX3_tellBand_215))))))))
theorem sX3_writeBandHead_0 : Snd (miT Tb) RX3 cX3_writeBandHead 9 none 0 (i_iload 1 2) := snd_iload_n rfl dX3_writeBandHead_0
theorem sX3_writeBandHead_1 : Snd (miT Tb) RX3 cX3_writeBandHead 9 none 1 (i_aload 2 0) := snd_aload_n rfl dX3_writeBandHead_1
theorem sX3_writeBandHead_2 : Snd (miT Tb) RX3 cX3_writeBandHead 9 none 2 (i_getR 3 5 5) := snd_getR rfl (by decide) (by decide) (by decide) (fun hK ho hs hq kk => gf_X3_31 hK ho hs hq rfl dX3_writeBandHead_2 kk)
theorem sX3_writeBandHead_5 : Snd (miT Tb) RX3 cX3_writeBandHead 9 none 5 (i_iload 6 1) := snd_iload_n rfl dX3_writeBandHead_5
theorem sX3_writeBandHead_6 : Snd (miT Tb) RX3 cX3_writeBandHead 9 none 6 (i_iald 7) := snd_iald dX3_writeBandHead_6
theorem sX3_writeBandHead_7 : Snd (miT Tb) RX3 cX3_writeBandHead 9 none 7 (i_isub 8) := snd_isub dX3_writeBandHead_7
theorem sX3_writeBandHead_8 : Snd (miT Tb) RX3 cX3_writeBandHead 9 none 8 (i_istore 10 4) := snd_istore (by decide) dX3_writeBandHead_8
theorem sX3_writeBandHead_10 : Snd (miT Tb) RX3 cX3_writeBandHead 9 none 10 (i_aload 11 3) := snd_aload_n rfl dX3_writeBandHead_10
theorem sX3_writeBandHead_11 : Snd (miT Tb) RX3 cX3_writeBandHead 9 none 11 (i_iload 13 4) := snd_iload dX3_writeBandHead_11
theorem sX3_writeBandHead_13 : Snd (miT Tb) RX3 cX3_writeBandHead 9 none 13 (i_if_le 16 20) := snd_if_le dX3_writeBandHead_13 rfl
theorem sX3_writeBandHead_16 : Snd (miT Tb) RX3 cX3_writeBandHead 9 none 16 (i_const 17 (vI 1)) := snd_iconst dX3_writeBandHead_16
theorem sX3_writeBandHead_17 : Snd (miT Tb) RX3 cX3_writeBandHead 9 none 17 (i_goto 21) := snd_goto dX3_writeBandHead_17 rfl
theorem sX3_writeBandHead_20 : Snd (miT Tb) RX3 cX3_writeBandHead 9 none 20 (i_const 21 (vI 0)) := snd_iconst dX3_writeBandHead_20
theorem sX3_writeBandHead_21 : Snd (miT Tb) RX3 cX3_writeBandHead 9 none 21 (i_const 22 (vI 1)) := snd_iconst dX3_writeBandHead_21
theorem sX3_writeBandHead_22 : Snd (miT Tb) RX3 cX3_writeBandHead 9 none 22 (i_cV2 76 1 25) := snd_cV2 (fun hK hd hC ho hs h6 h7 h8 kk => iv_X3_207 hK (mc_76 hC) ho hs ⟨hd, by show _ ≤ 40 * (_ + 1); omega⟩ (Nat.le_refl _) h6 h7 h8 ⟨Nat.le_refl _, Nat.le_refl _⟩ dX3_writeBandHead_22 kk)
theorem sX3_writeBandHead_25 : Snd (miT Tb) RX3 cX3_writeBandHead 9 none 25 (i_iload 27 4) := snd_iload dX3_writeBandHead_25
theorem sX3_writeBandHead_27 : Snd (miT Tb) RX3 cX3_writeBandHead 9 none 27 (i_if_gt 30 31) := snd_if_gt dX3_writeBandHead_27 rfl
theorem sX3_writeBandHead_30 : Snd (miT Tb) RX3 cX3_writeBandHead 9 none 30 (i_vret) := snd_vret dX3_writeBandHead_30
theorem sX3_writeBandHead_31 : Snd (miT Tb) RX3 cX3_writeBandHead 9 none 31 (i_aload 32 0) := snd_aload_n rfl dX3_writeBandHead_31
theorem sX3_writeBandHead_32 : Snd (miT Tb) RX3 cX3_writeBandHead 9 none 32 (i_getR 3 5 35) := snd_getR rfl (by decide) (by decide) (by decide) (fun hK ho hs hq kk => gf_X3_31 hK ho hs hq rfl dX3_writeBandHead_32 kk)
theorem sX3_writeBandHead_35 : Snd (miT Tb) RX3 cX3_writeBandHead 9 none 35 (i_iload 36 1) := snd_iload_n rfl dX3_writeBandHead_35
theorem sX3_writeBandHead_36 : Snd (miT Tb) RX3 cX3_writeBandHead 9 none 36 (i_iald 37) := snd_iald dX3_writeBandHead_36
theorem sX3_writeBandHead_37 : Snd (miT Tb) RX3 cX3_writeBandHead 9 none 37 (i_if_ne 40 51) := snd_if_ne dX3_writeBandHead_37 rfl
theorem sX3_writeBandHead_40 : Snd (miT Tb) RX3 cX3_writeBandHead 9 none 40 (i_aload 41 3) := snd_aload_n rfl dX3_writeBandHead_40
theorem sX3_writeBandHead_41 : Snd (miT Tb) RX3 cX3_writeBandHead 9 none 41 (i_aload 42 0) := snd_aload_n rfl dX3_writeBandHead_41
theorem sX3_writeBandHead_42 : Snd (miT Tb) RX3 cX3_writeBandHead 9 none 42 (i_getR 3 1 45) := snd_getR rfl (by decide) (by decide) (by decide) (fun hK ho hs hq kk => gf_X3_18 hK ho hs hq rfl dX3_writeBandHead_42 kk)
theorem sX3_writeBandHead_45 : Snd (miT Tb) RX3 cX3_writeBandHead 9 none 45 (i_iload 46 1) := snd_iload_n rfl dX3_writeBandHead_45
theorem sX3_writeBandHead_46 : Snd (miT Tb) RX3 cX3_writeBandHead 9 none 46 (i_iald 47) := snd_iald dX3_writeBandHead_46
theorem sX3_writeBandHead_47 : Snd (miT Tb) RX3 cX3_writeBandHead 9 none 47 (i_const 48 (vI 4)) := snd_iconst dX3_writeBandHead_47
theorem sX3_writeBandHead_48 : Snd (miT Tb) RX3 cX3_writeBandHead 9 none 48 (i_cV2 76 1 51) := snd_cV2 (fun hK hd hC ho hs h6 h7 h8 kk => iv_X3_207 hK (mc_76 hC) ho hs ⟨hd, by show _ ≤ 40 * (_ + 1); omega⟩ (Nat.le_refl _) h6 h7 h8 ⟨Nat.le_refl _, Nat.le_refl _⟩ dX3_writeBandHead_48 kk)
theorem sX3_writeBandHead_51 : Snd (miT Tb) RX3 cX3_writeBandHead 9 none 51 (i_iload 53 4) := snd_iload dX3_writeBandHead_51
theorem sX3_writeBandHead_53 : Snd (miT Tb) RX3 cX3_writeBandHead 9 none 53 (i_aload 54 3) := snd_aload_n rfl dX3_writeBandHead_53
theorem sX3_writeBandHead_54 : Snd (miT Tb) RX3 cX3_writeBandHead 9 none 54 (i_cS2 89 57) := snd_cS2 (fun hK hd hC h6 h7 h8 kk => iv_X3_224 hK (mc_89 hC) ⟨hd, by show _ ≤ 40 * (_ + 1); omega⟩ (Nat.le_refl _) h6 h7 h8 ⟨Nat.le_refl _, Nat.le_refl _⟩ dX3_writeBandHead_54 kk)
theorem sX3_writeBandHead_57 : Snd (miT Tb) RX3 cX3_writeBandHead 9 none 57 (i_aload 58 0) := snd_aload_n rfl dX3_writeBandHead_57
theorem sX3_writeBandHead_58 : Snd (miT Tb) RX3 cX3_writeBandHead 9 none 58 (i_iload 59 1) := snd_iload_n rfl dX3_writeBandHead_58
theorem sX3_writeBandHead_59 : Snd (miT Tb) RX3 cX3_writeBandHead 9 none 59 (i_iload 60 2) := snd_iload_n rfl dX3_writeBandHead_59
theorem sX3_writeBandHead_60 : Snd (miT Tb) RX3 cX3_writeBandHead 9 none 60 (i_cV2 83 3 63) := snd_cV2 (fun hK hd hC ho hs h6 h7 h8 kk => iv_X3_220 hK (mc_83 hC) ho hs ⟨hd, by show _ ≤ 40 * (_ + 1); omega⟩ (Nat.le_refl _) h6 h7 h8 ⟨Nat.le_refl _, Nat.le_refl _⟩ dX3_writeBandHead_60 kk)
theorem sX3_writeBandHead_63 : Snd (miT Tb) RX3 cX3_writeBandHead 9 none 63 (i_aload 64 0) := snd_aload_n rfl dX3_writeBandHead_63
theorem sX3_writeBandHead_64 : Snd (miT Tb) RX3 cX3_writeBandHead 9 none 64 (i_iload 65 1) := snd_iload_n rfl dX3_writeBandHead_64
theorem sX3_writeBandHead_65 : Snd (miT Tb) RX3 cX3_writeBandHead 9 none 65 (i_aload 66 0) := snd_aload_n rfl dX3_writeBandHead_65
theorem sX3_writeBandHead_66 : Snd (miT Tb) RX3 cX3_writeBandHead 9 none 66 (i_getR 3 5 69) := snd_getR rfl (by decide) (by decide) (by decide) (fun hK ho hs hq kk => gf_X3_31 hK ho hs hq rfl dX3_writeBandHead_66 kk)
theorem sX3_writeBandHead_69 : Snd (miT Tb) RX3 cX3_writeBandHead 9 none 69 (i_iload 70 1) := snd_iload_n rfl dX3_writeBandHead_69
theorem sX3_writeBandHead_70 : Snd (miT Tb) RX3 cX3_writeBandHead 9 none 70 (i_iald 71) := snd_iald dX3_writeBandHead_70
theorem sX3_writeBandHead_71 : Snd (miT Tb) RX3 cX3_writeBandHead 9 none 71 (i_cV2 83 3 74) := snd_cV2 (fun hK hd hC ho hs h6 h7 h8 kk => iv_X3_220 hK (mc_83 hC) ho hs ⟨hd, by show _ ≤ 40 * (_ + 1); omega⟩ (Nat.le_refl _) h6 h7 h8 ⟨Nat.le_refl _, Nat.le_refl _⟩ dX3_writeBandHead_71 kk)
theorem sX3_writeBandHead_74 : Snd (miT Tb) RX3 cX3_writeBandHead 9 none 74 (i_isub 75) := snd_isub dX3_writeBandHead_74
theorem sX3_writeBandHead_75 : Snd (miT Tb) RX3 cX3_writeBandHead 9 none 75 (i_istore 77 5) := snd_istore (by decide) dX3_writeBandHead_75
theorem sX3_writeBandHead_77 : Snd (miT Tb) RX3 cX3_writeBandHead 9 none 77 (i_iload 79 4) := snd_iload dX3_writeBandHead_77
theorem sX3_writeBandHead_79 : Snd (miT Tb) RX3 cX3_writeBandHead 9 none 79 (i_cS1 15 82) := snd_cS1 (fun hK hd hC h6 h7 h8 kk => iv_X3_147 hK (mc_15 hC) ⟨hd, by show _ ≤ 40 * (_ + 1); omega⟩ (Nat.le_refl _) h6 h7 h8 ⟨Nat.le_refl _, Nat.le_refl _⟩ dX3_writeBandHead_79 kk)
theorem sX3_writeBandHead_82 : Snd (miT Tb) RX3 cX3_writeBandHead 9 none 82 (i_const 83 (vI 1)) := snd_iconst dX3_writeBandHead_82
theorem sX3_writeBandHead_83 : Snd (miT Tb) RX3 cX3_writeBandHead 9 none 83 (i_isub 84) := snd_isub dX3_writeBandHead_83
theorem sX3_writeBandHead_84 : Snd (miT Tb) RX3 cX3_writeBandHead 9 none 84 (i_istore 86 6) := snd_istore (by decide) dX3_writeBandHead_84
theorem sX3_writeBandHead_86 : Snd (miT Tb) RX3 cX3_writeBandHead 9 none 86 (i_const 87 (vI 0)) := snd_iconst dX3_writeBandHead_86
theorem sX3_writeBandHead_87 : Snd (miT Tb) RX3 cX3_writeBandHead 9 none 87 (i_iload 89 5) := snd_iload dX3_writeBandHead_87
theorem sX3_writeBandHead_89 : Snd (miT Tb) RX3 cX3_writeBandHead 9 none 89 (i_cS1 15 92) := snd_cS1 (fun hK hd hC h6 h7 h8 kk => iv_X3_147 hK (mc_15 hC) ⟨hd, by show _ ≤ 40 * (_ + 1); omega⟩ (Nat.le_refl _) h6 h7 h8 ⟨Nat.le_refl _, Nat.le_refl _⟩ dX3_writeBandHead_89 kk)
theorem sX3_writeBandHead_92 : Snd (miT Tb) RX3 cX3_writeBandHead 9 none 92 (i_aload 93 0) := snd_aload_n rfl dX3_writeBandHead_92
theorem sX3_writeBandHead_93 : Snd (miT Tb) RX3 cX3_writeBandHead 9 none 93 (i_getR 3 6 96) := snd_getR rfl (by decide) (by decide) (by decide) (fun hK ho hs hq kk => gf_X3_34 hK ho hs hq rfl dX3_writeBandHead_93 kk)
theorem sX3_writeBandHead_96 : Snd (miT Tb) RX3 cX3_writeBandHead 9 none 96 (i_iload 97 1) := snd_iload_n rfl dX3_writeBandHead_96
theorem sX3_writeBandHead_97 : Snd (miT Tb) RX3 cX3_writeBandHead 9 none 97 (i_iald 98) := snd_iald dX3_writeBandHead_97
theorem sX3_writeBandHead_98 : Snd (miT Tb) RX3 cX3_writeBandHead 9 none 98 (i_isub 99) := snd_isub dX3_writeBandHead_98
theorem sX3_writeBandHead_99 : Snd (miT Tb) RX3 cX3_writeBandHead 9 none 99 (i_iload 101 6) := snd_iload dX3_writeBandHead_99
theorem sX3_writeBandHead_101 : Snd (miT Tb) RX3 cX3_writeBandHead 9 none 101 (i_isub 102) := snd_isub dX3_writeBandHead_101
theorem sX3_writeBandHead_102 : Snd (miT Tb) RX3 cX3_writeBandHead 9 none 102 (i_mmax 105) := snd_mmax iw_X3_143 dX3_writeBandHead_102
theorem sX3_writeBandHead_105 : Snd (miT Tb) RX3 cX3_writeBandHead 9 none 105 (i_istore 107 7) := snd_istore (by decide) dX3_writeBandHead_105
theorem sX3_writeBandHead_107 : Snd (miT Tb) RX3 cX3_writeBandHead 9 none 107 (i_aload 108 0) := snd_aload_n rfl dX3_writeBandHead_107
theorem sX3_writeBandHead_108 : Snd (miT Tb) RX3 cX3_writeBandHead 9 none 108 (i_getR 3 6 111) := snd_getR rfl (by decide) (by decide) (by decide) (fun hK ho hs hq kk => gf_X3_34 hK ho hs hq rfl dX3_writeBandHead_108 kk)
theorem sX3_writeBandHead_111 : Snd (miT Tb) RX3 cX3_writeBandHead 9 none 111 (i_iload 112 1) := snd_iload_n rfl dX3_writeBandHead_111
theorem sX3_writeBandHead_112 : Snd (miT Tb) RX3 cX3_writeBandHead 9 none 112 (i_dup2 113) := snd_dup2 dX3_writeBandHead_112
theorem sX3_writeBandHead_113 : Snd (miT Tb) RX3 cX3_writeBandHead 9 none 113 (i_iald 114) := snd_iald dX3_writeBandHead_113
theorem sX3_writeBandHead_114 : Snd (miT Tb) RX3 cX3_writeBandHead 9 none 114 (i_iload 116 7) := snd_iload dX3_writeBandHead_114
theorem sX3_writeBandHead_116 : Snd (miT Tb) RX3 cX3_writeBandHead 9 none 116 (i_iadd 117) := snd_iadd dX3_writeBandHead_116
theorem sX3_writeBandHead_117 : Snd (miT Tb) RX3 cX3_writeBandHead 9 none 117 (i_iast 118) := snd_iast dX3_writeBandHead_117
theorem sX3_writeBandHead_118 : Snd (miT Tb) RX3 cX3_writeBandHead 9 none 118 (i_const 119 (vI 0)) := snd_iconst dX3_writeBandHead_118
theorem sX3_writeBandHead_119 : Snd (miT Tb) RX3 cX3_writeBandHead 9 none 119 (i_istore 121 8) := snd_istore (by decide) dX3_writeBandHead_119
theorem sX3_writeBandHead_121 : Snd (miT Tb) RX3 cX3_writeBandHead 9 none 121 (i_iload 123 8) := snd_iload dX3_writeBandHead_121
theorem sX3_writeBandHead_123 : Snd (miT Tb) RX3 cX3_writeBandHead 9 none 123 (i_iload 125 7) := snd_iload dX3_writeBandHead_123
theorem sX3_writeBandHead_125 : Snd (miT Tb) RX3 cX3_writeBandHead 9 none 125 (i_icmp_ge 128 140) := snd_icmp_ge dX3_writeBandHead_125 rfl
theorem sX3_writeBandHead_128 : Snd (miT Tb) RX3 cX3_writeBandHead 9 none 128 (i_aload 129 3) := snd_aload_n rfl dX3_writeBandHead_128
theorem sX3_writeBandHead_129 : Snd (miT Tb) RX3 cX3_writeBandHead 9 none 129 (i_const 130 (vI 1)) := snd_iconst dX3_writeBandHead_129
theorem sX3_writeBandHead_130 : Snd (miT Tb) RX3 cX3_writeBandHead 9 none 130 (i_const 131 (vI 1)) := snd_iconst dX3_writeBandHead_130
theorem sX3_writeBandHead_131 : Snd (miT Tb) RX3 cX3_writeBandHead 9 none 131 (i_cV2 76 1 134) := snd_cV2 (fun hK hd hC ho hs h6 h7 h8 kk => iv_X3_207 hK (mc_76 hC) ho hs ⟨hd, by show _ ≤ 40 * (_ + 1); omega⟩ (Nat.le_refl _) h6 h7 h8 ⟨Nat.le_refl _, Nat.le_refl _⟩ dX3_writeBandHead_131 kk)
theorem sX3_writeBandHead_134 : Snd (miT Tb) RX3 cX3_writeBandHead 9 none 134 (i_iinc 137 8 1) := snd_iinc (by decide) dX3_writeBandHead_134
theorem sX3_writeBandHead_137 : Snd (miT Tb) RX3 cX3_writeBandHead 9 none 137 (i_goto 121) := snd_goto dX3_writeBandHead_137 rfl
theorem sX3_writeBandHead_140 : Snd (miT Tb) RX3 cX3_writeBandHead 9 none 140 (i_aload 141 3) := snd_aload_n rfl dX3_writeBandHead_140
theorem sX3_writeBandHead_141 : Snd (miT Tb) RX3 cX3_writeBandHead 9 none 141 (i_const 142 (vI 0)) := snd_iconst dX3_writeBandHead_141
theorem sX3_writeBandHead_142 : Snd (miT Tb) RX3 cX3_writeBandHead 9 none 142 (i_const 143 (vI 1)) := snd_iconst dX3_writeBandHead_142
theorem sX3_writeBandHead_143 : Snd (miT Tb) RX3 cX3_writeBandHead 9 none 143 (i_cV2 76 1 146) := snd_cV2 (fun hK hd hC ho hs h6 h7 h8 kk => iv_X3_207 hK (mc_76 hC) ho hs ⟨hd, by show _ ≤ 40 * (_ + 1); omega⟩ (Nat.le_refl _) h6 h7 h8 ⟨Nat.le_refl _, Nat.le_refl _⟩ dX3_writeBandHead_143 kk)
theorem sX3_writeBandHead_146 : Snd (miT Tb) RX3 cX3_writeBandHead 9 none 146 (i_aload 147 3) := snd_aload_n rfl dX3_writeBandHead_146
theorem sX3_writeBandHead_147 : Snd (miT Tb) RX3 cX3_writeBandHead 9 none 147 (i_iload 149 5) := snd_iload dX3_writeBandHead_147
theorem sX3_writeBandHead_149 : Snd (miT Tb) RX3 cX3_writeBandHead 9 none 149 (i_aload 150 0) := snd_aload_n rfl dX3_writeBandHead_149
theorem sX3_writeBandHead_150 : Snd (miT Tb) RX3 cX3_writeBandHead 9 none 150 (i_getR 3 6 153) := snd_getR rfl (by decide) (by decide) (by decide) (fun hK ho hs hq kk => gf_X3_34 hK ho hs hq rfl dX3_writeBandHead_150 kk)
theorem sX3_writeBandHead_153 : Snd (miT Tb) RX3 cX3_writeBandHead 9 none 153 (i_iload 154 1) := snd_iload_n rfl dX3_writeBandHead_153
theorem sX3_writeBandHead_154 : Snd (miT Tb) RX3 cX3_writeBandHead 9 none 154 (i_iald 155) := snd_iald dX3_writeBandHead_154
theorem sX3_writeBandHead_155 : Snd (miT Tb) RX3 cX3_writeBandHead 9 none 155 (i_iload 157 6) := snd_iload dX3_writeBandHead_155
theorem sX3_writeBandHead_157 : Snd (miT Tb) RX3 cX3_writeBandHead 9 none 157 (i_iadd 158) := snd_iadd dX3_writeBandHead_157
theorem sX3_writeBandHead_158 : Snd (miT Tb) RX3 cX3_writeBandHead 9 none 158 (i_cV2 76 1 161) := snd_cV2 (fun hK hd hC ho hs h6 h7 h8 kk => iv_X3_207 hK (mc_76 hC) ho hs ⟨hd, by show _ ≤ 40 * (_ + 1); omega⟩ (Nat.le_refl _) h6 h7 h8 ⟨Nat.le_refl _, Nat.le_refl _⟩ dX3_writeBandHead_158 kk)
theorem sX3_writeBandHead_161 : Snd (miT Tb) RX3 cX3_writeBandHead 9 none 161 (i_vret) := snd_vret dX3_writeBandHead_161
theorem kX3_writeBandHead : raA (okI (miT Tb) (yX3_writeBandHead, cX3_writeBandHead, 9, none)) tX3_writeBandHead := (raA_br (raA_br (raA_br (raA_br (raA_br (raA_br (raA_leaf sX3_writeBandHead_0) (raA_br (raA_leaf sX3_writeBandHead_1) (raA_leaf sX3_writeBandHead_2))) (raA_br (raA_leaf sX3_writeBandHead_5) (raA_br (raA_leaf sX3_writeBandHead_6) (raA_leaf sX3_writeBandHead_7)))) (raA_br (raA_br (raA_leaf sX3_writeBandHead_8) (raA_br (raA_leaf sX3_writeBandHead_10) (raA_leaf sX3_writeBandHead_11))) (raA_br (raA_leaf sX3_writeBandHead_13) (raA_br (raA_leaf sX3_writeBandHead_16) (raA_leaf sX3_writeBandHead_17))))) (raA_br (raA_br (raA_br (raA_leaf sX3_writeBandHead_20) (raA_br (raA_leaf sX3_writeBandHead_21) (raA_leaf sX3_writeBandHead_22))) (raA_br (raA_leaf sX3_writeBandHead_25) (raA_br (raA_leaf sX3_writeBandHead_27) (raA_leaf sX3_writeBandHead_30)))) (raA_br (raA_br (raA_leaf sX3_writeBandHead_31) (raA_br (raA_leaf sX3_writeBandHead_32) (raA_leaf sX3_writeBandHead_35))) (raA_br (raA_leaf sX3_writeBandHead_36) (raA_br (raA_leaf sX3_writeBandHead_37) (raA_leaf sX3_writeBandHead_40)))))) (raA_br (raA_br (raA_br (raA_br (raA_leaf sX3_writeBandHead_41) (raA_br (raA_leaf sX3_writeBandHead_42) (raA_leaf sX3_writeBandHead_45))) (raA_br (raA_leaf sX3_writeBandHead_46) (raA_br (raA_leaf sX3_writeBandHead_47) (raA_leaf sX3_writeBandHead_48)))) (raA_br (raA_br (raA_leaf sX3_writeBandHead_51) (raA_br (raA_leaf sX3_writeBandHead_53) (raA_leaf sX3_writeBandHead_54))) (raA_br (raA_leaf sX3_writeBandHead_57) (raA_br (raA_leaf sX3_writeBandHead_58) (raA_leaf sX3_writeBandHead_59))))) (raA_br (raA_br (raA_br (raA_leaf sX3_writeBandHead_60) (raA_br (raA_leaf sX3_writeBandHead_63) (raA_leaf sX3_writeBandHead_64))) (raA_br (raA_leaf sX3_writeBandHead_65) (raA_br (raA_leaf sX3_writeBandHead_66) (raA_leaf sX3_writeBandHead_69)))) (raA_br (raA_br (raA_leaf sX3_writeBandHead_70) (raA_br (raA_leaf sX3_writeBandHead_71) (raA_leaf sX3_writeBandHead_74))) (raA_br (raA_leaf sX3_writeBandHead_75) (raA_br (raA_leaf sX3_writeBandHead_77) (raA_leaf sX3_writeBandHead_79))))))) (raA_br (raA_br (raA_br (raA_br (raA_br (raA_leaf sX3_writeBandHead_82) (raA_br (raA_leaf sX3_writeBandHead_83) (raA_leaf sX3_writeBandHead_84))) (raA_br (raA_leaf sX3_writeBandHead_86) (raA_br (raA_leaf sX3_writeBandHead_87) (raA_leaf sX3_writeBandHead_89)))) (raA_br (raA_br (raA_leaf sX3_writeBandHead_92) (raA_br (raA_leaf sX3_writeBandHead_93) (raA_leaf sX3_writeBandHead_96))) (raA_br (raA_leaf sX3_writeBandHead_97) (raA_br (raA_leaf sX3_writeBandHead_98) (raA_leaf sX3_writeBandHead_99))))) (raA_br (raA_br (raA_br (raA_leaf sX3_writeBandHead_101) (raA_br (raA_leaf sX3_writeBandHead_102) (raA_leaf sX3_writeBandHead_105))) (raA_br (raA_leaf sX3_writeBandHead_107) (raA_br (raA_leaf sX3_writeBandHead_108) (raA_leaf sX3_writeBandHead_111)))) (raA_br (raA_br (raA_leaf sX3_writeBandHead_112) (raA_br (raA_leaf sX3_writeBandHead_113) (raA_leaf sX3_writeBandHead_114))) (raA_br (raA_leaf sX3_writeBandHead_116) (raA_br (raA_leaf sX3_writeBandHead_117) (raA_leaf sX3_writeBandHead_118)))))) (raA_br (raA_br (raA_br (raA_br (raA_leaf sX3_writeBandHead_119) (raA_br (raA_leaf sX3_writeBandHead_121) (raA_leaf sX3_writeBandHead_123))) (raA_br (raA_leaf sX3_writeBandHead_125) (raA_br (raA_leaf sX3_writeBandHead_128) (raA_leaf sX3_writeBandHead_129)))) (raA_br (raA_br (raA_leaf sX3_writeBandHead_130) (raA_br (raA_leaf sX3_writeBandHead_131) (raA_leaf sX3_writeBandHead_134))) (raA_br (raA_leaf sX3_writeBandHead_137) (raA_br (raA_leaf sX3_writeBandHead_140) (raA_leaf sX3_writeBandHead_141))))) (raA_br (raA_br (raA_br (raA_leaf sX3_writeBandHead_142) (raA_br (raA_leaf sX3_writeBandHead_143) (raA_leaf sX3_writeBandHead_146))) (raA_br (raA_leaf sX3_writeBandHead_147) (raA_br (raA_leaf sX3_writeBandHead_149) (raA_leaf sX3_writeBandHead_150)))) (raA_br (raA_br (raA_leaf sX3_writeBandHead_153) (raA_br (raA_leaf sX3_writeBandHead_154) (raA_leaf sX3_writeBandHead_155))) (raA_br (raA_leaf sX3_writeBandHead_157) (raA_br (raA_leaf sX3_writeBandHead_158) (raA_leaf sX3_writeBandHead_161))))))))
theorem sX3_writeCount_0 : Snd (miT Tb) RX3 cX3_writeCount 2 none 0 (i_iload 1 0) := snd_iload_n rfl dX3_writeCount_0
theorem sX3_writeCount_1 : Snd (miT Tb) RX3 cX3_writeCount 2 none 1 (i_const 2 (vI 1)) := snd_iconst dX3_writeCount_1
theorem sX3_writeCount_2 : Snd (miT Tb) RX3 cX3_writeCount 2 none 2 (i_icmp_ne 5 14) := snd_icmp_ne dX3_writeCount_2 rfl
theorem sX3_writeCount_5 : Snd (miT Tb) RX3 cX3_writeCount 2 none 5 (i_aload 6 1) := snd_aload_n rfl dX3_writeCount_5
theorem sX3_writeCount_6 : Snd (miT Tb) RX3 cX3_writeCount 2 none 6 (i_const 7 (vI 0)) := snd_iconst dX3_writeCount_6
theorem sX3_writeCount_7 : Snd (miT Tb) RX3 cX3_writeCount 2 none 7 (i_const 8 (vI 1)) := snd_iconst dX3_writeCount_7
theorem sX3_writeCount_8 : Snd (miT Tb) RX3 cX3_writeCount 2 none 8 (i_cV2 76 1 11) := snd_cV2 (fun hK hd hC ho hs h6 h7 h8 kk => iv_X3_207 hK (mc_76 hC) ho hs ⟨hd, by show _ ≤ 40 * (_ + 1); omega⟩ (Nat.le_refl _) h6 h7 h8 ⟨Nat.le_refl _, Nat.le_refl _⟩ dX3_writeCount_8 kk)
theorem sX3_writeCount_11 : Snd (miT Tb) RX3 cX3_writeCount 2 none 11 (i_goto 66) := snd_goto dX3_writeCount_11 rfl
theorem sX3_writeCount_14 : Snd (miT Tb) RX3 cX3_writeCount 2 none 14 (i_iload 15 0) := snd_iload_n rfl dX3_writeCount_14
theorem sX3_writeCount_15 : Snd (miT Tb) RX3 cX3_writeCount 2 none 15 (i_const 16 (vI 2)) := snd_iconst dX3_writeCount_15
theorem sX3_writeCount_16 : Snd (miT Tb) RX3 cX3_writeCount 2 none 16 (i_icmp_ne 19 28) := snd_icmp_ne dX3_writeCount_16 rfl
theorem sX3_writeCount_19 : Snd (miT Tb) RX3 cX3_writeCount 2 none 19 (i_aload 20 1) := snd_aload_n rfl dX3_writeCount_19
theorem sX3_writeCount_20 : Snd (miT Tb) RX3 cX3_writeCount 2 none 20 (i_const 21 (vI 2)) := snd_iconst dX3_writeCount_20
theorem sX3_writeCount_21 : Snd (miT Tb) RX3 cX3_writeCount 2 none 21 (i_const 22 (vI 2)) := snd_iconst dX3_writeCount_21
theorem sX3_writeCount_22 : Snd (miT Tb) RX3 cX3_writeCount 2 none 22 (i_cV2 76 1 25) := snd_cV2 (fun hK hd hC ho hs h6 h7 h8 kk => iv_X3_207 hK (mc_76 hC) ho hs ⟨hd, by show _ ≤ 40 * (_ + 1); omega⟩ (Nat.le_refl _) h6 h7 h8 ⟨Nat.le_refl _, Nat.le_refl _⟩ dX3_writeCount_22 kk)
theorem sX3_writeCount_25 : Snd (miT Tb) RX3 cX3_writeCount 2 none 25 (i_goto 66) := snd_goto dX3_writeCount_25 rfl
theorem sX3_writeCount_28 : Snd (miT Tb) RX3 cX3_writeCount 2 none 28 (i_iload 29 0) := snd_iload_n rfl dX3_writeCount_28
theorem sX3_writeCount_29 : Snd (miT Tb) RX3 cX3_writeCount 2 none 29 (i_const 30 (vI 5)) := snd_iconst dX3_writeCount_29
theorem sX3_writeCount_30 : Snd (miT Tb) RX3 cX3_writeCount 2 none 30 (i_icmp_gt 33 50) := snd_icmp_gt dX3_writeCount_30 rfl
theorem sX3_writeCount_33 : Snd (miT Tb) RX3 cX3_writeCount 2 none 33 (i_aload 34 1) := snd_aload_n rfl dX3_writeCount_33
theorem sX3_writeCount_34 : Snd (miT Tb) RX3 cX3_writeCount 2 none 34 (i_const 35 (vI 3)) := snd_iconst dX3_writeCount_34
theorem sX3_writeCount_35 : Snd (miT Tb) RX3 cX3_writeCount 2 none 35 (i_const 36 (vI 2)) := snd_iconst dX3_writeCount_35
theorem sX3_writeCount_36 : Snd (miT Tb) RX3 cX3_writeCount 2 none 36 (i_cV2 76 1 39) := snd_cV2 (fun hK hd hC ho hs h6 h7 h8 kk => iv_X3_207 hK (mc_76 hC) ho hs ⟨hd, by show _ ≤ 40 * (_ + 1); omega⟩ (Nat.le_refl _) h6 h7 h8 ⟨Nat.le_refl _, Nat.le_refl _⟩ dX3_writeCount_36 kk)
theorem sX3_writeCount_39 : Snd (miT Tb) RX3 cX3_writeCount 2 none 39 (i_aload 40 1) := snd_aload_n rfl dX3_writeCount_39
theorem sX3_writeCount_40 : Snd (miT Tb) RX3 cX3_writeCount 2 none 40 (i_iload 41 0) := snd_iload_n rfl dX3_writeCount_40
theorem sX3_writeCount_41 : Snd (miT Tb) RX3 cX3_writeCount 2 none 41 (i_const 42 (vI 3)) := snd_iconst dX3_writeCount_41
theorem sX3_writeCount_42 : Snd (miT Tb) RX3 cX3_writeCount 2 none 42 (i_isub 43) := snd_isub dX3_writeCount_42
theorem sX3_writeCount_43 : Snd (miT Tb) RX3 cX3_writeCount 2 none 43 (i_const 44 (vI 2)) := snd_iconst dX3_writeCount_43
theorem sX3_writeCount_44 : Snd (miT Tb) RX3 cX3_writeCount 2 none 44 (i_cV2 76 1 47) := snd_cV2 (fun hK hd hC ho hs h6 h7 h8 kk => iv_X3_207 hK (mc_76 hC) ho hs ⟨hd, by show _ ≤ 40 * (_ + 1); omega⟩ (Nat.le_refl _) h6 h7 h8 ⟨Nat.le_refl _, Nat.le_refl _⟩ dX3_writeCount_44 kk)
theorem sX3_writeCount_47 : Snd (miT Tb) RX3 cX3_writeCount 2 none 47 (i_goto 66) := snd_goto dX3_writeCount_47 rfl
theorem sX3_writeCount_50 : Snd (miT Tb) RX3 cX3_writeCount 2 none 50 (i_aload 51 1) := snd_aload_n rfl dX3_writeCount_50
theorem sX3_writeCount_51 : Snd (miT Tb) RX3 cX3_writeCount 2 none 51 (i_const 53 (vI 15)) := snd_bipush (by decide) dX3_writeCount_51
theorem sX3_writeCount_53 : Snd (miT Tb) RX3 cX3_writeCount 2 none 53 (i_const 54 (vI 4)) := snd_iconst dX3_writeCount_53
theorem sX3_writeCount_54 : Snd (miT Tb) RX3 cX3_writeCount 2 none 54 (i_cV2 76 1 57) := snd_cV2 (fun hK hd hC ho hs h6 h7 h8 kk => iv_X3_207 hK (mc_76 hC) ho hs ⟨hd, by show _ ≤ 40 * (_ + 1); omega⟩ (Nat.le_refl _) h6 h7 h8 ⟨Nat.le_refl _, Nat.le_refl _⟩ dX3_writeCount_54 kk)
theorem sX3_writeCount_57 : Snd (miT Tb) RX3 cX3_writeCount 2 none 57 (i_aload 58 1) := snd_aload_n rfl dX3_writeCount_57
theorem sX3_writeCount_58 : Snd (miT Tb) RX3 cX3_writeCount 2 none 58 (i_iload 59 0) := snd_iload_n rfl dX3_writeCount_58
theorem sX3_writeCount_59 : Snd (miT Tb) RX3 cX3_writeCount 2 none 59 (i_const 61 (vI 6)) := snd_bipush (by decide) dX3_writeCount_59
theorem sX3_writeCount_61 : Snd (miT Tb) RX3 cX3_writeCount 2 none 61 (i_isub 62) := snd_isub dX3_writeCount_61
theorem sX3_writeCount_62 : Snd (miT Tb) RX3 cX3_writeCount 2 none 62 (i_const 63 (vI 5)) := snd_iconst dX3_writeCount_62
theorem sX3_writeCount_63 : Snd (miT Tb) RX3 cX3_writeCount 2 none 63 (i_cV2 76 1 66) := snd_cV2 (fun hK hd hC ho hs h6 h7 h8 kk => iv_X3_207 hK (mc_76 hC) ho hs ⟨hd, by show _ ≤ 40 * (_ + 1); omega⟩ (Nat.le_refl _) h6 h7 h8 ⟨Nat.le_refl _, Nat.le_refl _⟩ dX3_writeCount_63 kk)
theorem sX3_writeCount_66 : Snd (miT Tb) RX3 cX3_writeCount 2 none 66 (i_vret) := snd_vret dX3_writeCount_66
theorem kX3_writeCount : raA (okI (miT Tb) (yX3_writeCount, cX3_writeCount, 2, none)) tX3_writeCount := (raA_br (raA_br (raA_br (raA_br (raA_br (raA_leaf sX3_writeCount_0) (raA_leaf sX3_writeCount_1)) (raA_br (raA_leaf sX3_writeCount_2) (raA_br (raA_leaf sX3_writeCount_5) (raA_leaf sX3_writeCount_6)))) (raA_br (raA_br (raA_leaf sX3_writeCount_7) (raA_leaf sX3_writeCount_8)) (raA_br (raA_leaf sX3_writeCount_11) (raA_br (raA_leaf sX3_writeCount_14) (raA_leaf sX3_writeCount_15))))) (raA_br (raA_br (raA_br (raA_leaf sX3_writeCount_16) (raA_leaf sX3_writeCount_19)) (raA_br (raA_leaf sX3_writeCount_20) (raA_br (raA_leaf sX3_writeCount_21) (raA_leaf sX3_writeCount_22)))) (raA_br (raA_br (raA_leaf sX3_writeCount_25) (raA_leaf sX3_writeCount_28)) (raA_br (raA_leaf sX3_writeCount_29) (raA_br (raA_leaf sX3_writeCount_30) (raA_leaf sX3_writeCount_33)))))) (raA_br (raA_br (raA_br (raA_br (raA_leaf sX3_writeCount_34) (raA_leaf sX3_writeCount_35)) (raA_br (raA_leaf sX3_writeCount_36) (raA_br (raA_leaf sX3_writeCount_39) (raA_leaf sX3_writeCount_40)))) (raA_br (raA_br (raA_leaf sX3_writeCount_41) (raA_leaf sX3_writeCount_42)) (raA_br (raA_leaf sX3_writeCount_43) (raA_br (raA_leaf sX3_writeCount_44) (raA_leaf sX3_writeCount_47))))) (raA_br (raA_br (raA_br (raA_leaf sX3_writeCount_50) (raA_leaf sX3_writeCount_51)) (raA_br (raA_leaf sX3_writeCount_53) (raA_br (raA_leaf sX3_writeCount_54) (raA_leaf sX3_writeCount_57)))) (raA_br (raA_br (raA_leaf sX3_writeCount_58) (raA_br (raA_leaf sX3_writeCount_59) (raA_leaf sX3_writeCount_61))) (raA_br (raA_leaf sX3_writeCount_62) (raA_br (raA_leaf sX3_writeCount_63) (raA_leaf sX3_writeCount_66)))))))
theorem sX3_writePacket_0 : Snd (miT Tb) RX3 cX3_writePacket 9 none 0 (i_const 1 (vI 0)) := snd_iconst dX3_writePacket_0
theorem sX3_writePacket_1 : Snd (miT Tb) RX3 cX3_writePacket 9 none 1 (i_istore 3 5) := snd_istore (by decide) dX3_writePacket_1
theorem sX3_writePacket_3 : Snd (miT Tb) RX3 cX3_writePacket 9 none 3 (i_iload 4 1) := snd_iload_n rfl dX3_writePacket_3
theorem sX3_writePacket_4 : Snd (miT Tb) RX3 cX3_writePacket 9 none 4 (i_cS1 17 7) := snd_cS1 (fun hK hd hC h6 h7 h8 kk => iv_X3_198 hK (mc_17 hC) ⟨hd, by show _ ≤ 40 * (_ + 1); omega⟩ (Nat.le_refl _) h6 h7 h8 ⟨Nat.le_refl _, Nat.le_refl _⟩ dX3_writePacket_4 kk)
theorem sX3_writePacket_7 : Snd (miT Tb) RX3 cX3_writePacket 9 none 7 (i_istore 9 6) := snd_istore (by decide) dX3_writePacket_7
theorem sX3_writePacket_9 : Snd (miT Tb) RX3 cX3_writePacket 9 none 9 (i_iload 11 6) := snd_iload dX3_writePacket_9
theorem sX3_writePacket_11 : Snd (miT Tb) RX3 cX3_writePacket 9 none 11 (i_iload 12 1) := snd_iload_n rfl dX3_writePacket_11
theorem sX3_writePacket_12 : Snd (miT Tb) RX3 cX3_writePacket 9 none 12 (i_cS1 18 15) := snd_cS1 (fun hK hd hC h6 h7 h8 kk => iv_X3_201 hK (mc_18 hC) ⟨hd, by show _ ≤ 40 * (_ + 1); omega⟩ (Nat.le_refl _) h6 h7 h8 ⟨Nat.le_refl _, Nat.le_refl _⟩ dX3_writePacket_12 kk)
theorem sX3_writePacket_15 : Snd (miT Tb) RX3 cX3_writePacket 9 none 15 (i_icmp_gt 18 54) := snd_icmp_gt dX3_writePacket_15 rfl
theorem sX3_writePacket_18 : Snd (miT Tb) RX3 cX3_writePacket 9 none 18 (i_iload 20 5) := snd_iload dX3_writePacket_18
theorem sX3_writePacket_20 : Snd (miT Tb) RX3 cX3_writePacket 9 none 20 (i_if_ne 23 41) := snd_if_ne dX3_writePacket_20 rfl
theorem sX3_writePacket_23 : Snd (miT Tb) RX3 cX3_writePacket 9 none 23 (i_aload 24 0) := snd_aload_n rfl dX3_writePacket_23
theorem sX3_writePacket_24 : Snd (miT Tb) RX3 cX3_writePacket 9 none 24 (i_iload 26 6) := snd_iload dX3_writePacket_24
theorem sX3_writePacket_26 : Snd (miT Tb) RX3 cX3_writePacket 9 none 26 (i_iload 27 2) := snd_iload_n rfl dX3_writePacket_26
theorem sX3_writePacket_27 : Snd (miT Tb) RX3 cX3_writePacket 9 none 27 (i_iload 28 3) := snd_iload_n rfl dX3_writePacket_27
theorem sX3_writePacket_28 : Snd (miT Tb) RX3 cX3_writePacket 9 none 28 (i_cV3 85 3 31) := snd_cV3 (fun hK hd hC ho hs h6 h7 h8 kk => iv_X3_204 hK (mc_85 hC) ho hs ⟨hd, by show _ ≤ 40 * (_ + 1); omega⟩ (Nat.le_refl _) h6 h7 h8 ⟨Nat.le_refl _, Nat.le_refl _⟩ dX3_writePacket_28 kk)
theorem sX3_writePacket_31 : Snd (miT Tb) RX3 cX3_writePacket 9 none 31 (i_aload 32 0) := snd_aload_n rfl dX3_writePacket_31
theorem sX3_writePacket_32 : Snd (miT Tb) RX3 cX3_writePacket 9 none 32 (i_getR 3 5 35) := snd_getR rfl (by decide) (by decide) (by decide) (fun hK ho hs hq kk => gf_X3_31 hK ho hs hq rfl dX3_writePacket_32 kk)
theorem sX3_writePacket_35 : Snd (miT Tb) RX3 cX3_writePacket 9 none 35 (i_iload 37 6) := snd_iload dX3_writePacket_35
theorem sX3_writePacket_37 : Snd (miT Tb) RX3 cX3_writePacket 9 none 37 (i_iald 38) := snd_iald dX3_writePacket_37
theorem sX3_writePacket_38 : Snd (miT Tb) RX3 cX3_writePacket 9 none 38 (i_icmp_le 41 45) := snd_icmp_le dX3_writePacket_38 rfl
theorem sX3_writePacket_41 : Snd (miT Tb) RX3 cX3_writePacket 9 none 41 (i_const 42 (vI 1)) := snd_iconst dX3_writePacket_41
theorem sX3_writePacket_42 : Snd (miT Tb) RX3 cX3_writePacket 9 none 42 (i_goto 46) := snd_goto dX3_writePacket_42 rfl
theorem sX3_writePacket_45 : Snd (miT Tb) RX3 cX3_writePacket 9 none 45 (i_const 46 (vI 0)) := snd_iconst dX3_writePacket_45
theorem sX3_writePacket_46 : Snd (miT Tb) RX3 cX3_writePacket 9 none 46 (i_istore 48 5) := snd_istore (by decide) dX3_writePacket_46
theorem sX3_writePacket_48 : Snd (miT Tb) RX3 cX3_writePacket 9 none 48 (i_iinc 51 6 1) := snd_iinc (by decide) dX3_writePacket_48
theorem sX3_writePacket_51 : Snd (miT Tb) RX3 cX3_writePacket 9 none 51 (i_goto 9) := snd_goto dX3_writePacket_51 rfl
theorem sX3_writePacket_54 : Snd (miT Tb) RX3 cX3_writePacket 9 none 54 (i_aload 56 4) := snd_aload dX3_writePacket_54
theorem sX3_writePacket_56 : Snd (miT Tb) RX3 cX3_writePacket 9 none 56 (i_iload 58 5) := snd_iload dX3_writePacket_56
theorem sX3_writePacket_58 : Snd (miT Tb) RX3 cX3_writePacket 9 none 58 (i_if_eq 61 65) := snd_if_eq dX3_writePacket_58 rfl
theorem sX3_writePacket_61 : Snd (miT Tb) RX3 cX3_writePacket 9 none 61 (i_const 62 (vI 1)) := snd_iconst dX3_writePacket_61
theorem sX3_writePacket_62 : Snd (miT Tb) RX3 cX3_writePacket 9 none 62 (i_goto 66) := snd_goto dX3_writePacket_62 rfl
theorem sX3_writePacket_65 : Snd (miT Tb) RX3 cX3_writePacket 9 none 65 (i_const 66 (vI 0)) := snd_iconst dX3_writePacket_65
theorem sX3_writePacket_66 : Snd (miT Tb) RX3 cX3_writePacket 9 none 66 (i_const 67 (vI 1)) := snd_iconst dX3_writePacket_66
theorem sX3_writePacket_67 : Snd (miT Tb) RX3 cX3_writePacket 9 none 67 (i_cV2 76 1 70) := snd_cV2 (fun hK hd hC ho hs h6 h7 h8 kk => iv_X3_207 hK (mc_76 hC) ho hs ⟨hd, by show _ ≤ 40 * (_ + 1); omega⟩ (Nat.le_refl _) h6 h7 h8 ⟨Nat.le_refl _, Nat.le_refl _⟩ dX3_writePacket_67 kk)
theorem sX3_writePacket_70 : Snd (miT Tb) RX3 cX3_writePacket 9 none 70 (i_iload 72 5) := snd_iload dX3_writePacket_70
theorem sX3_writePacket_72 : Snd (miT Tb) RX3 cX3_writePacket 9 none 72 (i_if_ne 75 81) := snd_if_ne dX3_writePacket_72 rfl
theorem sX3_writePacket_75 : Snd (miT Tb) RX3 cX3_writePacket 9 none 75 (i_aload 77 4) := snd_aload dX3_writePacket_75
theorem sX3_writePacket_77 : Snd (miT Tb) RX3 cX3_writePacket 9 none 77 (i_cV0 73 1 80) := snd_cV0 (fun hK hd hC ho hs h6 h7 h8 kk => iv_X3_210 hK (mc_73 hC) ho hs ⟨hd, by show _ ≤ 40 * (_ + 1); omega⟩ (Nat.le_refl _) h6 h7 h8 ⟨Nat.le_refl _, Nat.le_refl _⟩ dX3_writePacket_77 kk)
theorem sX3_writePacket_80 : Snd (miT Tb) RX3 cX3_writePacket 9 none 80 (i_vret) := snd_vret dX3_writePacket_80
theorem sX3_writePacket_81 : Snd (miT Tb) RX3 cX3_writePacket 9 none 81 (i_iload 82 1) := snd_iload_n rfl dX3_writePacket_81
theorem sX3_writePacket_82 : Snd (miT Tb) RX3 cX3_writePacket 9 none 82 (i_cS1 17 85) := snd_cS1 (fun hK hd hC h6 h7 h8 kk => iv_X3_198 hK (mc_17 hC) ⟨hd, by show _ ≤ 40 * (_ + 1); omega⟩ (Nat.le_refl _) h6 h7 h8 ⟨Nat.le_refl _, Nat.le_refl _⟩ dX3_writePacket_82 kk)
theorem sX3_writePacket_85 : Snd (miT Tb) RX3 cX3_writePacket 9 none 85 (i_istore 87 6) := snd_istore (by decide) dX3_writePacket_85
theorem sX3_writePacket_87 : Snd (miT Tb) RX3 cX3_writePacket 9 none 87 (i_iload 89 6) := snd_iload dX3_writePacket_87
theorem sX3_writePacket_89 : Snd (miT Tb) RX3 cX3_writePacket 9 none 89 (i_iload 90 1) := snd_iload_n rfl dX3_writePacket_89
theorem sX3_writePacket_90 : Snd (miT Tb) RX3 cX3_writePacket 9 none 90 (i_cS1 18 93) := snd_cS1 (fun hK hd hC h6 h7 h8 kk => iv_X3_201 hK (mc_18 hC) ⟨hd, by show _ ≤ 40 * (_ + 1); omega⟩ (Nat.le_refl _) h6 h7 h8 ⟨Nat.le_refl _, Nat.le_refl _⟩ dX3_writePacket_90 kk)
theorem sX3_writePacket_93 : Snd (miT Tb) RX3 cX3_writePacket 9 none 93 (i_icmp_gt 96 130) := snd_icmp_gt dX3_writePacket_93 rfl
theorem sX3_writePacket_96 : Snd (miT Tb) RX3 cX3_writePacket 9 none 96 (i_aload 97 0) := snd_aload_n rfl dX3_writePacket_96
theorem sX3_writePacket_97 : Snd (miT Tb) RX3 cX3_writePacket 9 none 97 (i_getR 3 0 100) := snd_getR rfl (by decide) (by decide) (by decide) (fun hK ho hs hq kk => gf_X3_12 hK ho hs hq rfl dX3_writePacket_97 kk)
theorem sX3_writePacket_100 : Snd (miT Tb) RX3 cX3_writePacket 9 none 100 (i_iload 102 6) := snd_iload dX3_writePacket_100
theorem sX3_writePacket_102 : Snd (miT Tb) RX3 cX3_writePacket 9 none 102 (i_cV1 6 0 105) := snd_cV1 (fun hK hd hC ho hs h6 h7 h8 kk => iv_X3_213 hK (mc_6 hC) ho hs ⟨hd, by show _ ≤ 40 * (_ + 1); omega⟩ (Nat.le_refl _) h6 h7 h8 ⟨Nat.le_refl _, Nat.le_refl _⟩ dX3_writePacket_102 kk)
theorem sX3_writePacket_105 : Snd (miT Tb) RX3 cX3_writePacket 9 none 105 (i_if_ne 108 124) := snd_if_ne dX3_writePacket_105 rfl
theorem sX3_writePacket_108 : Snd (miT Tb) RX3 cX3_writePacket 9 none 108 (i_aload 109 0) := snd_aload_n rfl dX3_writePacket_108
theorem sX3_writePacket_109 : Snd (miT Tb) RX3 cX3_writePacket 9 none 109 (i_iload 111 6) := snd_iload dX3_writePacket_109
theorem sX3_writePacket_111 : Snd (miT Tb) RX3 cX3_writePacket 9 none 111 (i_aload 112 0) := snd_aload_n rfl dX3_writePacket_111
theorem sX3_writePacket_112 : Snd (miT Tb) RX3 cX3_writePacket 9 none 112 (i_iload 114 6) := snd_iload dX3_writePacket_112
theorem sX3_writePacket_114 : Snd (miT Tb) RX3 cX3_writePacket 9 none 114 (i_iload 115 2) := snd_iload_n rfl dX3_writePacket_114
theorem sX3_writePacket_115 : Snd (miT Tb) RX3 cX3_writePacket 9 none 115 (i_iload 116 3) := snd_iload_n rfl dX3_writePacket_115
theorem sX3_writePacket_116 : Snd (miT Tb) RX3 cX3_writePacket 9 none 116 (i_cV3 85 3 119) := snd_cV3 (fun hK hd hC ho hs h6 h7 h8 kk => iv_X3_204 hK (mc_85 hC) ho hs ⟨hd, by show _ ≤ 40 * (_ + 1); omega⟩ (Nat.le_refl _) h6 h7 h8 ⟨Nat.le_refl _, Nat.le_refl _⟩ dX3_writePacket_116 kk)
theorem sX3_writePacket_119 : Snd (miT Tb) RX3 cX3_writePacket 9 none 119 (i_aload 121 4) := snd_aload dX3_writePacket_119
theorem sX3_writePacket_121 : Snd (miT Tb) RX3 cX3_writePacket 9 none 121 (i_cV3 88 3 124) := snd_cV3 (fun hK hd hC ho hs h6 h7 h8 kk => iv_X3_216 hK (mc_88 hC) ho hs ⟨hd, by show _ ≤ 40 * (_ + 1); omega⟩ (Nat.le_refl _) h6 h7 h8 ⟨Nat.le_refl _, Nat.le_refl _⟩ dX3_writePacket_121 kk)
theorem sX3_writePacket_124 : Snd (miT Tb) RX3 cX3_writePacket 9 none 124 (i_iinc 127 6 1) := snd_iinc (by decide) dX3_writePacket_124
theorem sX3_writePacket_127 : Snd (miT Tb) RX3 cX3_writePacket 9 none 127 (i_goto 87) := snd_goto dX3_writePacket_127 rfl
theorem sX3_writePacket_130 : Snd (miT Tb) RX3 cX3_writePacket 9 none 130 (i_aload 132 4) := snd_aload dX3_writePacket_130
theorem sX3_writePacket_132 : Snd (miT Tb) RX3 cX3_writePacket 9 none 132 (i_cV0 73 1 135) := snd_cV0 (fun hK hd hC ho hs h6 h7 h8 kk => iv_X3_210 hK (mc_73 hC) ho hs ⟨hd, by show _ ≤ 40 * (_ + 1); omega⟩ (Nat.le_refl _) h6 h7 h8 ⟨Nat.le_refl _, Nat.le_refl _⟩ dX3_writePacket_132 kk)
theorem sX3_writePacket_135 : Snd (miT Tb) RX3 cX3_writePacket 9 none 135 (i_iload 136 1) := snd_iload_n rfl dX3_writePacket_135
theorem sX3_writePacket_136 : Snd (miT Tb) RX3 cX3_writePacket 9 none 136 (i_cS1 17 139) := snd_cS1 (fun hK hd hC h6 h7 h8 kk => iv_X3_198 hK (mc_17 hC) ⟨hd, by show _ ≤ 40 * (_ + 1); omega⟩ (Nat.le_refl _) h6 h7 h8 ⟨Nat.le_refl _, Nat.le_refl _⟩ dX3_writePacket_136 kk)
theorem sX3_writePacket_139 : Snd (miT Tb) RX3 cX3_writePacket 9 none 139 (i_istore 141 6) := snd_istore (by decide) dX3_writePacket_139
theorem sX3_writePacket_141 : Snd (miT Tb) RX3 cX3_writePacket 9 none 141 (i_iload 143 6) := snd_iload dX3_writePacket_141
theorem sX3_writePacket_143 : Snd (miT Tb) RX3 cX3_writePacket 9 none 143 (i_iload 144 1) := snd_iload_n rfl dX3_writePacket_143
theorem sX3_writePacket_144 : Snd (miT Tb) RX3 cX3_writePacket 9 none 144 (i_cS1 18 147) := snd_cS1 (fun hK hd hC h6 h7 h8 kk => iv_X3_201 hK (mc_18 hC) ⟨hd, by show _ ≤ 40 * (_ + 1); omega⟩ (Nat.le_refl _) h6 h7 h8 ⟨Nat.le_refl _, Nat.le_refl _⟩ dX3_writePacket_144 kk)
theorem sX3_writePacket_147 : Snd (miT Tb) RX3 cX3_writePacket 9 none 147 (i_icmp_gt 150 220) := snd_icmp_gt dX3_writePacket_147 rfl
theorem sX3_writePacket_150 : Snd (miT Tb) RX3 cX3_writePacket 9 none 150 (i_aload 151 0) := snd_aload_n rfl dX3_writePacket_150
theorem sX3_writePacket_151 : Snd (miT Tb) RX3 cX3_writePacket 9 none 151 (i_iload 153 6) := snd_iload dX3_writePacket_151
theorem sX3_writePacket_153 : Snd (miT Tb) RX3 cX3_writePacket 9 none 153 (i_iload 154 2) := snd_iload_n rfl dX3_writePacket_153
theorem sX3_writePacket_154 : Snd (miT Tb) RX3 cX3_writePacket 9 none 154 (i_iload 155 3) := snd_iload_n rfl dX3_writePacket_154
theorem sX3_writePacket_155 : Snd (miT Tb) RX3 cX3_writePacket 9 none 155 (i_cV3 85 3 158) := snd_cV3 (fun hK hd hC ho hs h6 h7 h8 kk => iv_X3_204 hK (mc_85 hC) ho hs ⟨hd, by show _ ≤ 40 * (_ + 1); omega⟩ (Nat.le_refl _) h6 h7 h8 ⟨Nat.le_refl _, Nat.le_refl _⟩ dX3_writePacket_155 kk)
theorem sX3_writePacket_158 : Snd (miT Tb) RX3 cX3_writePacket 9 none 158 (i_istore 160 7) := snd_istore (by decide) dX3_writePacket_158
theorem sX3_writePacket_160 : Snd (miT Tb) RX3 cX3_writePacket 9 none 160 (i_aload 161 0) := snd_aload_n rfl dX3_writePacket_160
theorem sX3_writePacket_161 : Snd (miT Tb) RX3 cX3_writePacket 9 none 161 (i_iload 163 6) := snd_iload dX3_writePacket_161
theorem sX3_writePacket_163 : Snd (miT Tb) RX3 cX3_writePacket 9 none 163 (i_aload 164 0) := snd_aload_n rfl dX3_writePacket_163
theorem sX3_writePacket_164 : Snd (miT Tb) RX3 cX3_writePacket 9 none 164 (i_getR 3 5 167) := snd_getR rfl (by decide) (by decide) (by decide) (fun hK ho hs hq kk => gf_X3_31 hK ho hs hq rfl dX3_writePacket_164 kk)
theorem sX3_writePacket_167 : Snd (miT Tb) RX3 cX3_writePacket 9 none 167 (i_iload 169 6) := snd_iload dX3_writePacket_167
theorem sX3_writePacket_169 : Snd (miT Tb) RX3 cX3_writePacket 9 none 169 (i_iald 170) := snd_iald dX3_writePacket_169
theorem sX3_writePacket_170 : Snd (miT Tb) RX3 cX3_writePacket 9 none 170 (i_cV2 83 3 173) := snd_cV2 (fun hK hd hC ho hs h6 h7 h8 kk => iv_X3_220 hK (mc_83 hC) ho hs ⟨hd, by show _ ≤ 40 * (_ + 1); omega⟩ (Nat.le_refl _) h6 h7 h8 ⟨Nat.le_refl _, Nat.le_refl _⟩ dX3_writePacket_170 kk)
theorem sX3_writePacket_173 : Snd (miT Tb) RX3 cX3_writePacket 9 none 173 (i_istore 175 8) := snd_istore (by decide) dX3_writePacket_173
theorem sX3_writePacket_175 : Snd (miT Tb) RX3 cX3_writePacket 9 none 175 (i_aload 177 4) := snd_aload dX3_writePacket_175
theorem sX3_writePacket_177 : Snd (miT Tb) RX3 cX3_writePacket 9 none 177 (i_aload 178 0) := snd_aload_n rfl dX3_writePacket_177
theorem sX3_writePacket_178 : Snd (miT Tb) RX3 cX3_writePacket 9 none 178 (i_getR 3 7 181) := snd_getR rfl (by decide) (by decide) (by decide) (fun hK ho hs hq kk => gf_X3_40 hK ho hs hq rfl dX3_writePacket_178 kk)
theorem sX3_writePacket_181 : Snd (miT Tb) RX3 cX3_writePacket 9 none 181 (i_aload 182 0) := snd_aload_n rfl dX3_writePacket_181
theorem sX3_writePacket_182 : Snd (miT Tb) RX3 cX3_writePacket 9 none 182 (i_getR 3 2 185) := snd_getR rfl (by decide) (by decide) (by decide) (fun hK ho hs hq kk => gf_X3_22 hK ho hs hq rfl dX3_writePacket_182 kk)
theorem sX3_writePacket_185 : Snd (miT Tb) RX3 cX3_writePacket 9 none 185 (i_iload 187 6) := snd_iload dX3_writePacket_185
theorem sX3_writePacket_187 : Snd (miT Tb) RX3 cX3_writePacket 9 none 187 (i_iald 188) := snd_iald dX3_writePacket_187
theorem sX3_writePacket_188 : Snd (miT Tb) RX3 cX3_writePacket 9 none 188 (i_iload 190 8) := snd_iload dX3_writePacket_188
theorem sX3_writePacket_190 : Snd (miT Tb) RX3 cX3_writePacket 9 none 190 (i_iadd 191) := snd_iadd dX3_writePacket_190
theorem sX3_writePacket_191 : Snd (miT Tb) RX3 cX3_writePacket 9 none 191 (i_aload 192 0) := snd_aload_n rfl dX3_writePacket_191
theorem sX3_writePacket_192 : Snd (miT Tb) RX3 cX3_writePacket 9 none 192 (i_iload 194 6) := snd_iload dX3_writePacket_192
theorem sX3_writePacket_194 : Snd (miT Tb) RX3 cX3_writePacket 9 none 194 (i_iload 196 7) := snd_iload dX3_writePacket_194
theorem sX3_writePacket_196 : Snd (miT Tb) RX3 cX3_writePacket 9 none 196 (i_cV2 83 3 199) := snd_cV2 (fun hK hd hC ho hs h6 h7 h8 kk => iv_X3_220 hK (mc_83 hC) ho hs ⟨hd, by show _ ≤ 40 * (_ + 1); omega⟩ (Nat.le_refl _) h6 h7 h8 ⟨Nat.le_refl _, Nat.le_refl _⟩ dX3_writePacket_196 kk)
theorem sX3_writePacket_199 : Snd (miT Tb) RX3 cX3_writePacket 9 none 199 (i_iload 201 8) := snd_iload dX3_writePacket_199
theorem sX3_writePacket_201 : Snd (miT Tb) RX3 cX3_writePacket 9 none 201 (i_isub 202) := snd_isub dX3_writePacket_201
theorem sX3_writePacket_202 : Snd (miT Tb) RX3 cX3_writePacket 9 none 202 (i_cV3 70 1 205) := snd_cV3 (fun hK hd hC ho hs h6 h7 h8 kk => iv_X3_223 hK (mc_70 hC) ho hs ⟨hd, by show _ ≤ 40 * (_ + 1); omega⟩ (Nat.le_refl _) h6 h7 h8 ⟨Nat.le_refl _, Nat.le_refl _⟩ dX3_writePacket_202 kk)
theorem sX3_writePacket_205 : Snd (miT Tb) RX3 cX3_writePacket 9 none 205 (i_aload 206 0) := snd_aload_n rfl dX3_writePacket_205
theorem sX3_writePacket_206 : Snd (miT Tb) RX3 cX3_writePacket 9 none 206 (i_getR 3 5 209) := snd_getR rfl (by decide) (by decide) (by decide) (fun hK ho hs hq kk => gf_X3_31 hK ho hs hq rfl dX3_writePacket_206 kk)
theorem sX3_writePacket_209 : Snd (miT Tb) RX3 cX3_writePacket 9 none 209 (i_iload 211 6) := snd_iload dX3_writePacket_209
theorem sX3_writePacket_211 : Snd (miT Tb) RX3 cX3_writePacket 9 none 211 (i_iload 213 7) := snd_iload dX3_writePacket_211
theorem sX3_writePacket_213 : Snd (miT Tb) RX3 cX3_writePacket 9 none 213 (i_iast 214) := snd_iast dX3_writePacket_213
theorem sX3_writePacket_214 : Snd (miT Tb) RX3 cX3_writePacket 9 none 214 (i_iinc 217 6 1) := snd_iinc (by decide) dX3_writePacket_214
theorem sX3_writePacket_217 : Snd (miT Tb) RX3 cX3_writePacket 9 none 217 (i_goto 141) := snd_goto dX3_writePacket_217 rfl
theorem sX3_writePacket_220 : Snd (miT Tb) RX3 cX3_writePacket 9 none 220 (i_vret) := snd_vret dX3_writePacket_220
theorem kX3_writePacket : raA (okI (miT Tb) (yX3_writePacket, cX3_writePacket, 9, none)) tX3_writePacket := (raA_br (raA_br (raA_br (raA_br (raA_br (raA_br (raA_leaf sX3_writePacket_0) (raA_br (raA_leaf sX3_writePacket_1) (raA_leaf sX3_writePacket_3))) (raA_br (raA_leaf sX3_writePacket_4) (raA_br (raA_leaf sX3_writePacket_7) (raA_leaf sX3_writePacket_9)))) (raA_br (raA_br (raA_leaf sX3_writePacket_11) (raA_br (raA_leaf sX3_writePacket_12) (raA_leaf sX3_writePacket_15))) (raA_br (raA_br (raA_leaf sX3_writePacket_18) (raA_leaf sX3_writePacket_20)) (raA_br (raA_leaf sX3_writePacket_23) (raA_leaf sX3_writePacket_24))))) (raA_br (raA_br (raA_br (raA_leaf sX3_writePacket_26) (raA_br (raA_leaf sX3_writePacket_27) (raA_leaf sX3_writePacket_28))) (raA_br (raA_br (raA_leaf sX3_writePacket_31) (raA_leaf sX3_writePacket_32)) (raA_br (raA_leaf sX3_writePacket_35) (raA_leaf sX3_writePacket_37)))) (raA_br (raA_br (raA_leaf sX3_writePacket_38) (raA_br (raA_leaf sX3_writePacket_41) (raA_leaf sX3_writePacket_42))) (raA_br (raA_br (raA_leaf sX3_writePacket_45) (raA_leaf sX3_writePacket_46)) (raA_br (raA_leaf sX3_writePacket_48) (raA_leaf sX3_writePacket_51)))))) (raA_br (raA_br (raA_br (raA_br (raA_leaf sX3_writePacket_54) (raA_br (raA_leaf sX3_writePacket_56) (raA_leaf sX3_writePacket_58))) (raA_br (raA_br (raA_leaf sX3_writePacket_61) (raA_leaf sX3_writePacket_62)) (raA_br (raA_leaf sX3_writePacket_65) (raA_leaf sX3_writePacket_66)))) (raA_br (raA_br (raA_leaf sX3_writePacket_67) (raA_br (raA_leaf sX3_writePacket_70) (raA_leaf sX3_writePacket_72))) (raA_br (raA_br (raA_leaf sX3_writePacket_75) (raA_leaf sX3_writePacket_77)) (raA_br (raA_leaf sX3_writePacket_80) (raA_leaf sX3_writePacket_81))))) (raA_br (raA_br (raA_br (raA_leaf sX3_writePacket_82) (raA_br (raA_leaf sX3_writePacket_85) (raA_leaf sX3_writePacket_87))) (raA_br (raA_br (raA_leaf sX3_writePacket_89) (raA_leaf sX3_writePacket_90)) (raA_br (raA_leaf sX3_writePacket_93) (raA_leaf sX3_writePacket_96)))) (raA_br (raA_br (raA_leaf sX3_writePacket_97) (raA_br (raA_leaf sX3_writePacket_100) (raA_leaf sX3_writePacket_102))) (raA_br (raA_br (raA_leaf sX3_writePacket_105) (raA_leaf sX3_writePacket_108)) (raA_br (raA_leaf sX3_writePacket_109) (raA_leaf sX3_writePacket_111))))))) (raA_br (raA_br (raA_br (raA_br (raA_br (raA_leaf sX3_writePacket_112) (raA_br (raA_leaf sX3_writePacket_114) (raA_leaf sX3_writePacket_115))) (raA_br (raA_leaf sX3_writePacket_116) (raA_br (raA_leaf sX3_writePacket_119) (raA_leaf sX3_writePacket_121)))) (raA_br (raA_br (raA_leaf sX3_writePacket_124) (raA_br (raA_leaf sX3_writePacket_127) (raA_leaf sX3_writePacket_130))) (raA_br (raA_br (raA_leaf sX3_writePacket_132) (raA_leaf sX3_writePacket_135)) (raA_br (raA_leaf sX3_writePacket_136) (raA_leaf sX3_writePacket_139))))) (raA_br (raA_br (raA_br (raA_leaf sX3_writePacket_141) (raA_br (raA_leaf sX3_writePacket_143) (raA_leaf sX3_writePacket_144))) (raA_br (raA_br (raA_leaf sX3_writePacket_147) (raA_leaf sX3_writePacket_150)) (raA_br (raA_leaf sX3_writePacket_151) (raA_leaf sX3_writePacket_153)))) (raA_br (raA_br (raA_leaf sX3_writePacket_154) (raA_br (raA_leaf sX3_writePacket_155) (raA_leaf sX3_writePacket_158))) (raA_br (raA_br (raA_leaf sX3_writePacket_160) (raA_leaf sX3_writePacket_161)) (raA_br (raA_leaf sX3_writePacket_163) (raA_leaf sX3_writePacket_164)))))) (raA_br (raA_br (raA_br (raA_br (raA_leaf sX3_writePacket_167) (raA_br (raA_leaf sX3_writePacket_169) (raA_leaf sX3_writePacket_170))) (raA_br (raA_br (raA_leaf sX3_writePacket_173) (raA_leaf sX3_writePacket_175)) (raA_br (raA_leaf sX3_writePacket_177) (raA_leaf sX3_writePacket_178)))) (raA_br (raA_br (raA_leaf sX3_writePacket_181) (raA_br (raA_leaf sX3_writePacket_182) (raA_leaf sX3_writePacket_185))) (raA_br (raA_br (raA_leaf sX3_writePacket_187) (raA_leaf sX3_writePacket_188)) (raA_br (raA_leaf sX3_writePacket_190) (raA_leaf sX3_writePacket_191))))) (raA_br (raA_br (raA_br (raA_leaf sX3_writePacket_192) (raA_br (raA_leaf sX3_writePacket_194) (raA_leaf sX3_writePacket_196))) (raA_br (raA_br (raA_leaf sX3_writePacket_199) (raA_leaf sX3_writePacket_201)) (raA_br (raA_leaf sX3_writePacket_202) (raA_leaf sX3_writePacket_205)))) (raA_br (raA_br (raA_leaf sX3_writePacket_206) (raA_br (raA_leaf sX3_writePacket_209) (raA_leaf sX3_writePacket_211))) (raA_br (raA_br (raA_leaf sX3_writePacket_213) (raA_leaf sX3_writePacket_214)) (raA_br (raA_leaf sX3_writePacket_217) (raA_leaf sX3_writePacket_220))))))))
theorem sX4_acrossCorners_0 : Snd (miT Tb) RX4 cX4_acrossCorners 2 (some .int) 0 (i_aload 1 0) := snd_aload_n rfl dX4_acrossCorners_0
theorem sX4_acrossCorners_1 : Snd (miT Tb) RX4 cX4_acrossCorners 2 (some .int) 1 (i_getR 4 3 4) := snd_getR rfl (by decide) (by decide) (by decide) (fun hK ho hs hq kk => gf_X4_18 hK ho hs hq rfl dX4_acrossCorners_1 kk)
theorem sX4_acrossCorners_4 : Snd (miT Tb) RX4 cX4_acrossCorners 2 (some .int) 4 (i_iload 5 1) := snd_iload_n rfl dX4_acrossCorners_4
theorem sX4_acrossCorners_5 : Snd (miT Tb) RX4 cX4_acrossCorners 2 (some .int) 5 (i_const 7 (vI 10)) := snd_bipush (by decide) dX4_acrossCorners_5
theorem sX4_acrossCorners_7 : Snd (miT Tb) RX4 cX4_acrossCorners 2 (some .int) 7 (i_isub 8) := snd_isub dX4_acrossCorners_7
theorem sX4_acrossCorners_8 : Snd (miT Tb) RX4 cX4_acrossCorners 2 (some .int) 8 (i_const 9 (vI 1)) := snd_iconst dX4_acrossCorners_8
theorem sX4_acrossCorners_9 : Snd (miT Tb) RX4 cX4_acrossCorners 2 (some .int) 9 (i_isub 10) := snd_isub dX4_acrossCorners_9
theorem sX4_acrossCorners_10 : Snd (miT Tb) RX4 cX4_acrossCorners 2 (some .int) 10 (i_iald 11) := snd_iald dX4_acrossCorners_10
theorem sX4_acrossCorners_11 : Snd (miT Tb) RX4 cX4_acrossCorners 2 (some .int) 11 (i_const 12 (vI 1)) := snd_iconst dX4_acrossCorners_11
theorem sX4_acrossCorners_12 : Snd (miT Tb) RX4 cX4_acrossCorners 2 (some .int) 12 (i_iand 13) := snd_iand dX4_acrossCorners_12
theorem sX4_acrossCorners_13 : Snd (miT Tb) RX4 cX4_acrossCorners 2 (some .int) 13 (i_aload 14 0) := snd_aload_n rfl dX4_acrossCorners_13
theorem sX4_acrossCorners_14 : Snd (miT Tb) RX4 cX4_acrossCorners 2 (some .int) 14 (i_getR 4 3 17) := snd_getR rfl (by decide) (by decide) (by decide) (fun hK ho hs hq kk => gf_X4_18 hK ho hs hq rfl dX4_acrossCorners_14 kk)
theorem sX4_acrossCorners_17 : Snd (miT Tb) RX4 cX4_acrossCorners 2 (some .int) 17 (i_iload 18 1) := snd_iload_n rfl dX4_acrossCorners_17
theorem sX4_acrossCorners_18 : Snd (miT Tb) RX4 cX4_acrossCorners 2 (some .int) 18 (i_const 20 (vI 10)) := snd_bipush (by decide) dX4_acrossCorners_18
theorem sX4_acrossCorners_20 : Snd (miT Tb) RX4 cX4_acrossCorners 2 (some .int) 20 (i_isub 21) := snd_isub dX4_acrossCorners_20
theorem sX4_acrossCorners_21 : Snd (miT Tb) RX4 cX4_acrossCorners 2 (some .int) 21 (i_const 22 (vI 1)) := snd_iconst dX4_acrossCorners_21
theorem sX4_acrossCorners_22 : Snd (miT Tb) RX4 cX4_acrossCorners 2 (some .int) 22 (i_iadd 23) := snd_iadd dX4_acrossCorners_22
theorem sX4_acrossCorners_23 : Snd (miT Tb) RX4 cX4_acrossCorners 2 (some .int) 23 (i_iald 24) := snd_iald dX4_acrossCorners_23
theorem sX4_acrossCorners_24 : Snd (miT Tb) RX4 cX4_acrossCorners 2 (some .int) 24 (i_const 25 (vI 1)) := snd_iconst dX4_acrossCorners_24
theorem sX4_acrossCorners_25 : Snd (miT Tb) RX4 cX4_acrossCorners 2 (some .int) 25 (i_iand 26) := snd_iand dX4_acrossCorners_25
theorem sX4_acrossCorners_26 : Snd (miT Tb) RX4 cX4_acrossCorners 2 (some .int) 26 (i_iadd 27) := snd_iadd dX4_acrossCorners_26
theorem sX4_acrossCorners_27 : Snd (miT Tb) RX4 cX4_acrossCorners 2 (some .int) 27 (i_aload 28 0) := snd_aload_n rfl dX4_acrossCorners_27
theorem sX4_acrossCorners_28 : Snd (miT Tb) RX4 cX4_acrossCorners 2 (some .int) 28 (i_getR 4 3 31) := snd_getR rfl (by decide) (by decide) (by decide) (fun hK ho hs hq kk => gf_X4_18 hK ho hs hq rfl dX4_acrossCorners_28 kk)
theorem sX4_acrossCorners_31 : Snd (miT Tb) RX4 cX4_acrossCorners 2 (some .int) 31 (i_iload 32 1) := snd_iload_n rfl dX4_acrossCorners_31
theorem sX4_acrossCorners_32 : Snd (miT Tb) RX4 cX4_acrossCorners 2 (some .int) 32 (i_const 34 (vI 10)) := snd_bipush (by decide) dX4_acrossCorners_32
theorem sX4_acrossCorners_34 : Snd (miT Tb) RX4 cX4_acrossCorners 2 (some .int) 34 (i_iadd 35) := snd_iadd dX4_acrossCorners_34
theorem sX4_acrossCorners_35 : Snd (miT Tb) RX4 cX4_acrossCorners 2 (some .int) 35 (i_const 36 (vI 1)) := snd_iconst dX4_acrossCorners_35
theorem sX4_acrossCorners_36 : Snd (miT Tb) RX4 cX4_acrossCorners 2 (some .int) 36 (i_isub 37) := snd_isub dX4_acrossCorners_36
theorem sX4_acrossCorners_37 : Snd (miT Tb) RX4 cX4_acrossCorners 2 (some .int) 37 (i_iald 38) := snd_iald dX4_acrossCorners_37
theorem sX4_acrossCorners_38 : Snd (miT Tb) RX4 cX4_acrossCorners 2 (some .int) 38 (i_const 39 (vI 1)) := snd_iconst dX4_acrossCorners_38
theorem sX4_acrossCorners_39 : Snd (miT Tb) RX4 cX4_acrossCorners 2 (some .int) 39 (i_iand 40) := snd_iand dX4_acrossCorners_39
theorem sX4_acrossCorners_40 : Snd (miT Tb) RX4 cX4_acrossCorners 2 (some .int) 40 (i_iadd 41) := snd_iadd dX4_acrossCorners_40
theorem sX4_acrossCorners_41 : Snd (miT Tb) RX4 cX4_acrossCorners 2 (some .int) 41 (i_aload 42 0) := snd_aload_n rfl dX4_acrossCorners_41
theorem sX4_acrossCorners_42 : Snd (miT Tb) RX4 cX4_acrossCorners 2 (some .int) 42 (i_getR 4 3 45) := snd_getR rfl (by decide) (by decide) (by decide) (fun hK ho hs hq kk => gf_X4_18 hK ho hs hq rfl dX4_acrossCorners_42 kk)
theorem sX4_acrossCorners_45 : Snd (miT Tb) RX4 cX4_acrossCorners 2 (some .int) 45 (i_iload 46 1) := snd_iload_n rfl dX4_acrossCorners_45
theorem sX4_acrossCorners_46 : Snd (miT Tb) RX4 cX4_acrossCorners 2 (some .int) 46 (i_const 48 (vI 10)) := snd_bipush (by decide) dX4_acrossCorners_46
theorem sX4_acrossCorners_48 : Snd (miT Tb) RX4 cX4_acrossCorners 2 (some .int) 48 (i_iadd 49) := snd_iadd dX4_acrossCorners_48
theorem sX4_acrossCorners_49 : Snd (miT Tb) RX4 cX4_acrossCorners 2 (some .int) 49 (i_const 50 (vI 1)) := snd_iconst dX4_acrossCorners_49
theorem sX4_acrossCorners_50 : Snd (miT Tb) RX4 cX4_acrossCorners 2 (some .int) 50 (i_iadd 51) := snd_iadd dX4_acrossCorners_50
theorem sX4_acrossCorners_51 : Snd (miT Tb) RX4 cX4_acrossCorners 2 (some .int) 51 (i_iald 52) := snd_iald dX4_acrossCorners_51
theorem sX4_acrossCorners_52 : Snd (miT Tb) RX4 cX4_acrossCorners 2 (some .int) 52 (i_const 53 (vI 1)) := snd_iconst dX4_acrossCorners_52
theorem sX4_acrossCorners_53 : Snd (miT Tb) RX4 cX4_acrossCorners 2 (some .int) 53 (i_iand 54) := snd_iand dX4_acrossCorners_53
theorem sX4_acrossCorners_54 : Snd (miT Tb) RX4 cX4_acrossCorners 2 (some .int) 54 (i_iadd 55) := snd_iadd dX4_acrossCorners_54
theorem sX4_acrossCorners_55 : Snd (miT Tb) RX4 cX4_acrossCorners 2 (some .int) 55 (i_iret) := snd_iret dX4_acrossCorners_55
theorem kX4_acrossCorners : raA (okI (miT Tb) (yX4_acrossCorners, cX4_acrossCorners, 2, (some .int))) tX4_acrossCorners := (raA_br (raA_br (raA_br (raA_br (raA_br (raA_leaf sX4_acrossCorners_0) (raA_leaf sX4_acrossCorners_1)) (raA_br (raA_leaf sX4_acrossCorners_4) (raA_br (raA_leaf sX4_acrossCorners_5) (raA_leaf sX4_acrossCorners_7)))) (raA_br (raA_br (raA_leaf sX4_acrossCorners_8) (raA_br (raA_leaf sX4_acrossCorners_9) (raA_leaf sX4_acrossCorners_10))) (raA_br (raA_leaf sX4_acrossCorners_11) (raA_br (raA_leaf sX4_acrossCorners_12) (raA_leaf sX4_acrossCorners_13))))) (raA_br (raA_br (raA_br (raA_leaf sX4_acrossCorners_14) (raA_leaf sX4_acrossCorners_17)) (raA_br (raA_leaf sX4_acrossCorners_18) (raA_br (raA_leaf sX4_acrossCorners_20) (raA_leaf sX4_acrossCorners_21)))) (raA_br (raA_br (raA_leaf sX4_acrossCorners_22) (raA_br (raA_leaf sX4_acrossCorners_23) (raA_leaf sX4_acrossCorners_24))) (raA_br (raA_leaf sX4_acrossCorners_25) (raA_br (raA_leaf sX4_acrossCorners_26) (raA_leaf sX4_acrossCorners_27)))))) (raA_br (raA_br (raA_br (raA_br (raA_leaf sX4_acrossCorners_28) (raA_leaf sX4_acrossCorners_31)) (raA_br (raA_leaf sX4_acrossCorners_32) (raA_br (raA_leaf sX4_acrossCorners_34) (raA_leaf sX4_acrossCorners_35)))) (raA_br (raA_br (raA_leaf sX4_acrossCorners_36) (raA_br (raA_leaf sX4_acrossCorners_37) (raA_leaf sX4_acrossCorners_38))) (raA_br (raA_leaf sX4_acrossCorners_39) (raA_br (raA_leaf sX4_acrossCorners_40) (raA_leaf sX4_acrossCorners_41))))) (raA_br (raA_br (raA_br (raA_leaf sX4_acrossCorners_42) (raA_leaf sX4_acrossCorners_45)) (raA_br (raA_leaf sX4_acrossCorners_46) (raA_br (raA_leaf sX4_acrossCorners_48) (raA_leaf sX4_acrossCorners_49)))) (raA_br (raA_br (raA_leaf sX4_acrossCorners_50) (raA_br (raA_leaf sX4_acrossCorners_51) (raA_leaf sX4_acrossCorners_52))) (raA_br (raA_leaf sX4_acrossCorners_53) (raA_br (raA_leaf sX4_acrossCorners_54) (raA_leaf sX4_acrossCorners_55)))))))
theorem sX4_begin_0 : Snd (miT Tb) RX4 cX4_begin 5 none 0 (i_aload 1 0) := snd_aload_n rfl dX4_begin_0
theorem sX4_begin_1 : Snd (miT Tb) RX4 cX4_begin 5 none 1 (i_iload 2 1) := snd_iload_n rfl dX4_begin_1
theorem sX4_begin_2 : Snd (miT Tb) RX4 cX4_begin 5 none 2 (i_putI 4 6 5) := snd_putI (fun hK ho hs kk => pf_X4_32 hK ho hs dX4_begin_2 kk)
theorem sX4_begin_5 : Snd (miT Tb) RX4 cX4_begin 5 none 5 (i_aload 6 0) := snd_aload_n rfl dX4_begin_5
theorem sX4_begin_6 : Snd (miT Tb) RX4 cX4_begin 5 none 6 (i_iload 7 2) := snd_iload_n rfl dX4_begin_6
theorem sX4_begin_7 : Snd (miT Tb) RX4 cX4_begin 5 none 7 (i_putI 4 7 10) := snd_putI (fun hK ho hs kk => pf_X4_36 hK ho hs dX4_begin_7 kk)
theorem sX4_begin_10 : Snd (miT Tb) RX4 cX4_begin 5 none 10 (i_aload 11 0) := snd_aload_n rfl dX4_begin_10
theorem sX4_begin_11 : Snd (miT Tb) RX4 cX4_begin 5 none 11 (i_iload 12 3) := snd_iload_n rfl dX4_begin_11
theorem sX4_begin_12 : Snd (miT Tb) RX4 cX4_begin 5 none 12 (i_putI 4 8 15) := snd_putI (fun hK ho hs kk => pf_X4_39 hK ho hs dX4_begin_12 kk)
theorem sX4_begin_15 : Snd (miT Tb) RX4 cX4_begin 5 none 15 (i_aload 16 0) := snd_aload_n rfl dX4_begin_15
theorem sX4_begin_16 : Snd (miT Tb) RX4 cX4_begin 5 none 16 (i_getR 4 1 19) := snd_getR rfl (by decide) (by decide) (by decide) (fun hK ho hs hq kk => gf_X4_11 hK ho hs hq rfl dX4_begin_16 kk)
theorem sX4_begin_19 : Snd (miT Tb) RX4 cX4_begin 5 none 19 (i_const 20 (vI 0)) := snd_iconst dX4_begin_19
theorem sX4_begin_20 : Snd (miT Tb) RX4 cX4_begin 5 none 20 (i_cS2 1 23) := snd_cS2 (fun hK hd hC h6 h7 h8 kk => iv_X4_42 hK (mc_1 hC) ⟨hd, by show _ ≤ 40 * (_ + 1); omega⟩ (Nat.le_refl _) h6 h7 h8 ⟨Nat.le_refl _, Nat.le_refl _⟩ dX4_begin_20 kk)
theorem sX4_begin_23 : Snd (miT Tb) RX4 cX4_begin 5 none 23 (i_aload 24 0) := snd_aload_n rfl dX4_begin_23
theorem sX4_begin_24 : Snd (miT Tb) RX4 cX4_begin 5 none 24 (i_getR 4 2 27) := snd_getR rfl (by decide) (by decide) (by decide) (fun hK ho hs hq kk => gf_X4_15 hK ho hs hq rfl dX4_begin_24 kk)
theorem sX4_begin_27 : Snd (miT Tb) RX4 cX4_begin 5 none 27 (i_const 28 (vI 0)) := snd_iconst dX4_begin_27
theorem sX4_begin_28 : Snd (miT Tb) RX4 cX4_begin 5 none 28 (i_cS2 1 31) := snd_cS2 (fun hK hd hC h6 h7 h8 kk => iv_X4_42 hK (mc_1 hC) ⟨hd, by show _ ≤ 40 * (_ + 1); omega⟩ (Nat.le_refl _) h6 h7 h8 ⟨Nat.le_refl _, Nat.le_refl _⟩ dX4_begin_28 kk)
theorem sX4_begin_31 : Snd (miT Tb) RX4 cX4_begin 5 none 31 (i_aload 32 0) := snd_aload_n rfl dX4_begin_31
theorem sX4_begin_32 : Snd (miT Tb) RX4 cX4_begin 5 none 32 (i_getR 4 3 35) := snd_getR rfl (by decide) (by decide) (by decide) (fun hK ho hs hq kk => gf_X4_18 hK ho hs hq rfl dX4_begin_32 kk)
theorem sX4_begin_35 : Snd (miT Tb) RX4 cX4_begin 5 none 35 (i_const 36 (vI 0)) := snd_iconst dX4_begin_35
theorem sX4_begin_36 : Snd (miT Tb) RX4 cX4_begin 5 none 36 (i_cS2 1 39) := snd_cS2 (fun hK hd hC h6 h7 h8 kk => iv_X4_42 hK (mc_1 hC) ⟨hd, by show _ ≤ 40 * (_ + 1); omega⟩ (Nat.le_refl _) h6 h7 h8 ⟨Nat.le_refl _, Nat.le_refl _⟩ dX4_begin_36 kk)
theorem sX4_begin_39 : Snd (miT Tb) RX4 cX4_begin 5 none 39 (i_aload 40 0) := snd_aload_n rfl dX4_begin_39
theorem sX4_begin_40 : Snd (miT Tb) RX4 cX4_begin 5 none 40 (i_cV0 94 4 43) := snd_cV0 (fun hK hd hC ho hs h6 h7 h8 kk => iv_X4_48 hK (mc_94 hC) ho hs ⟨hd, by show _ ≤ 40 * (_ + 1); omega⟩ (Nat.le_refl _) h6 h7 h8 ⟨Nat.le_refl _, Nat.le_refl _⟩ dX4_begin_40 kk)
theorem sX4_begin_43 : Snd (miT Tb) RX4 cX4_begin 5 none 43 (i_const 44 (vI 0)) := snd_iconst dX4_begin_43
theorem sX4_begin_44 : Snd (miT Tb) RX4 cX4_begin 5 none 44 (i_istore 46 4) := snd_istore (by decide) dX4_begin_44
theorem sX4_begin_46 : Snd (miT Tb) RX4 cX4_begin 5 none 46 (i_iload 48 4) := snd_iload dX4_begin_46
theorem sX4_begin_48 : Snd (miT Tb) RX4 cX4_begin 5 none 48 (i_aload 49 0) := snd_aload_n rfl dX4_begin_48
theorem sX4_begin_49 : Snd (miT Tb) RX4 cX4_begin 5 none 49 (i_getR 4 5 52) := snd_getR rfl (by decide) (by decide) (by decide) (fun hK ho hs hq kk => gf_X4_25 hK ho hs hq rfl dX4_begin_49 kk)
theorem sX4_begin_52 : Snd (miT Tb) RX4 cX4_begin 5 none 52 (i_alen 53) := snd_alen dX4_begin_52
theorem sX4_begin_53 : Snd (miT Tb) RX4 cX4_begin 5 none 53 (i_icmp_ge 56 70) := snd_icmp_ge dX4_begin_53 rfl
theorem sX4_begin_56 : Snd (miT Tb) RX4 cX4_begin 5 none 56 (i_aload 57 0) := snd_aload_n rfl dX4_begin_56
theorem sX4_begin_57 : Snd (miT Tb) RX4 cX4_begin 5 none 57 (i_getR 4 5 60) := snd_getR rfl (by decide) (by decide) (by decide) (fun hK ho hs hq kk => gf_X4_25 hK ho hs hq rfl dX4_begin_57 kk)
theorem sX4_begin_60 : Snd (miT Tb) RX4 cX4_begin 5 none 60 (i_iload 62 4) := snd_iload dX4_begin_60
theorem sX4_begin_62 : Snd (miT Tb) RX4 cX4_begin 5 none 62 (i_const 63 (vI 0)) := snd_iconst dX4_begin_62
theorem sX4_begin_63 : Snd (miT Tb) RX4 cX4_begin 5 none 63 (i_zast 64) := snd_zast dX4_begin_63
theorem sX4_begin_64 : Snd (miT Tb) RX4 cX4_begin 5 none 64 (i_iinc 67 4 1) := snd_iinc (by decide) dX4_begin_64
theorem sX4_begin_67 : Snd (miT Tb) RX4 cX4_begin 5 none 67 (i_goto 46) := snd_goto dX4_begin_67 rfl
theorem sX4_begin_70 : Snd (miT Tb) RX4 cX4_begin 5 none 70 (i_vret) := snd_vret dX4_begin_70
theorem kX4_begin : raA (okI (miT Tb) (yX4_begin, cX4_begin, 5, none)) tX4_begin := (raA_br (raA_br (raA_br (raA_br (raA_br (raA_leaf sX4_begin_0) (raA_leaf sX4_begin_1)) (raA_br (raA_leaf sX4_begin_2) (raA_leaf sX4_begin_5))) (raA_br (raA_br (raA_leaf sX4_begin_6) (raA_leaf sX4_begin_7)) (raA_br (raA_leaf sX4_begin_10) (raA_br (raA_leaf sX4_begin_11) (raA_leaf sX4_begin_12))))) (raA_br (raA_br (raA_br (raA_leaf sX4_begin_15) (raA_leaf sX4_begin_16)) (raA_br (raA_leaf sX4_begin_19) (raA_br (raA_leaf sX4_begin_20) (raA_leaf sX4_begin_23)))) (raA_br (raA_br (raA_leaf sX4_begin_24) (raA_leaf sX4_begin_27)) (raA_br (raA_leaf sX4_begin_28) (raA_br (raA_leaf sX4_begin_31) (raA_leaf sX4_begin_32)))))) (raA_br (raA_br (raA_br (raA_br (raA_leaf sX4_begin_35) (raA_leaf sX4_begin_36)) (raA_br (raA_leaf sX4_begin_39) (raA_leaf sX4_begin_40))) (raA_br (raA_br (raA_leaf sX4_begin_43) (raA_leaf sX4_begin_44)) (raA_br (raA_leaf sX4_begin_46) (raA_br (raA_leaf sX4_begin_48) (raA_leaf sX4_begin_49))))) (raA_br (raA_br (raA_br (raA_leaf sX4_begin_52) (raA_leaf sX4_begin_53)) (raA_br (raA_leaf sX4_begin_56) (raA_br (raA_leaf sX4_begin_57) (raA_leaf sX4_begin_60)))) (raA_br (raA_br (raA_leaf sX4_begin_62) (raA_leaf sX4_begin_63)) (raA_br (raA_leaf sX4_begin_64) (raA_br (raA_leaf sX4_begin_67) (raA_leaf sX4_begin_70)))))))

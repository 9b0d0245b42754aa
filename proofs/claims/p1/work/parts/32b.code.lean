theorem sX12_putOut_0 {h0 : Hp_} : Snd 73 107 h0 (miT TbM) RX12 cX12_putOut 4 none 0 (i_aload 1 0) := snd_aload_n rfl dX12_putOut_0
theorem sX12_putOut_1 {h0 : Hp_} : Snd 73 107 h0 (miT TbM) RX12 cX12_putOut 4 none 1 (i_getR 11 35 4) := snd_getR rfl (by decide) (by decide) (by decide) (fun hK ho hs hq kk => gf_X12_90 hK ho hs hq rfl dX12_putOut_1 kk)
theorem sX12_putOut_4 {h0 : Hp_} : Snd 73 107 h0 (miT TbM) RX12 cX12_putOut 4 none 4 (i_aload 5 0) := snd_aload_n rfl dX12_putOut_4
theorem sX12_putOut_5 {h0 : Hp_} : Snd 73 107 h0 (miT TbM) RX12 cX12_putOut 4 none 5 (i_getI 11 36 8) := snd_getI hl73 (fun hK ho hs hv kk => gf_X12_166 hK ho hs hv dX12_putOut_5 kk)
theorem sX12_putOut_8 {h0 : Hp_} : Snd 73 107 h0 (miT TbM) RX12 cX12_putOut 4 none 8 (i_const 9 (vI 1)) := snd_iconst dX12_putOut_8
theorem sX12_putOut_9 {h0 : Hp_} : Snd 73 107 h0 (miT TbM) RX12 cX12_putOut 4 none 9 (i_isub 10) := snd_isub dX12_putOut_9
theorem sX12_putOut_10 {h0 : Hp_} : Snd 73 107 h0 (miT TbM) RX12 cX12_putOut 4 none 10 (i_iald 73 107 11) := snd_iald dX12_putOut_10
theorem sX12_putOut_11 {h0 : Hp_} : Snd 73 107 h0 (miT TbM) RX12 cX12_putOut 4 none 11 (i_const 14 (vI 255)) := snd_sipush (by decide) dX12_putOut_11
theorem sX12_putOut_14 {h0 : Hp_} : Snd 73 107 h0 (miT TbM) RX12 cX12_putOut 4 none 14 (i_icmp_eq 17 79) := snd_icmp_eq dX12_putOut_14 rfl
theorem sX12_putOut_17 {h0 : Hp_} : Snd 73 107 h0 (miT TbM) RX12 cX12_putOut 4 none 17 (i_aload 18 0) := snd_aload_n rfl dX12_putOut_17
theorem sX12_putOut_18 {h0 : Hp_} : Snd 73 107 h0 (miT TbM) RX12 cX12_putOut 4 none 18 (i_getJ 11 33 21) := snd_getJ hl73 (fun hK ho hs hv kk => gf_X12_175 hK ho hs hv dX12_putOut_18 kk)
theorem sX12_putOut_21 {h0 : Hp_} : Snd 73 107 h0 (miT TbM) RX12 cX12_putOut 4 none 21 (i_const 24 (vJ 134217728)) := snd_ldc2 lc_X12_181 dX12_putOut_21
theorem sX12_putOut_24 {h0 : Hp_} : Snd 73 107 h0 (miT TbM) RX12 cX12_putOut 4 none 24 (i_lcmp 25) := snd_lcmp dX12_putOut_24
theorem sX12_putOut_25 {h0 : Hp_} : Snd 73 107 h0 (miT TbM) RX12 cX12_putOut 4 none 25 (i_if_lt 28 79) := snd_if_lt dX12_putOut_25 rfl
theorem sX12_putOut_28 {h0 : Hp_} : Snd 73 107 h0 (miT TbM) RX12 cX12_putOut 4 none 28 (i_aload 29 0) := snd_aload_n rfl dX12_putOut_28
theorem sX12_putOut_29 {h0 : Hp_} : Snd 73 107 h0 (miT TbM) RX12 cX12_putOut 4 none 29 (i_getR 11 35 32) := snd_getR rfl (by decide) (by decide) (by decide) (fun hK ho hs hq kk => gf_X12_90 hK ho hs hq rfl dX12_putOut_29 kk)
theorem sX12_putOut_32 {h0 : Hp_} : Snd 73 107 h0 (miT TbM) RX12 cX12_putOut 4 none 32 (i_aload 33 0) := snd_aload_n rfl dX12_putOut_32
theorem sX12_putOut_33 {h0 : Hp_} : Snd 73 107 h0 (miT TbM) RX12 cX12_putOut 4 none 33 (i_getI 11 36 36) := snd_getI hl73 (fun hK ho hs hv kk => gf_X12_166 hK ho hs hv dX12_putOut_33 kk)
theorem sX12_putOut_36 {h0 : Hp_} : Snd 73 107 h0 (miT TbM) RX12 cX12_putOut 4 none 36 (i_const 37 (vI 1)) := snd_iconst dX12_putOut_36
theorem sX12_putOut_37 {h0 : Hp_} : Snd 73 107 h0 (miT TbM) RX12 cX12_putOut 4 none 37 (i_isub 38) := snd_isub dX12_putOut_37
theorem sX12_putOut_38 {h0 : Hp_} : Snd 73 107 h0 (miT TbM) RX12 cX12_putOut 4 none 38 (i_dup2 39) := snd_dup2 dX12_putOut_38
theorem sX12_putOut_39 {h0 : Hp_} : Snd 73 107 h0 (miT TbM) RX12 cX12_putOut 4 none 39 (i_iald 73 107 40) := snd_iald dX12_putOut_39
theorem sX12_putOut_40 {h0 : Hp_} : Snd 73 107 h0 (miT TbM) RX12 cX12_putOut 4 none 40 (i_const 41 (vI 1)) := snd_iconst dX12_putOut_40
theorem sX12_putOut_41 {h0 : Hp_} : Snd 73 107 h0 (miT TbM) RX12 cX12_putOut 4 none 41 (i_iadd 42) := snd_iadd dX12_putOut_41
theorem sX12_putOut_42 {h0 : Hp_} : Snd 73 107 h0 (miT TbM) RX12 cX12_putOut 4 none 42 (i_iast 73 107 43) := snd_iast dX12_putOut_42
theorem sX12_putOut_43 {h0 : Hp_} : Snd 73 107 h0 (miT TbM) RX12 cX12_putOut 4 none 43 (i_aload 44 0) := snd_aload_n rfl dX12_putOut_43
theorem sX12_putOut_44 {h0 : Hp_} : Snd 73 107 h0 (miT TbM) RX12 cX12_putOut 4 none 44 (i_aload 45 0) := snd_aload_n rfl dX12_putOut_44
theorem sX12_putOut_45 {h0 : Hp_} : Snd 73 107 h0 (miT TbM) RX12 cX12_putOut 4 none 45 (i_getR 11 35 48) := snd_getR rfl (by decide) (by decide) (by decide) (fun hK ho hs hq kk => gf_X12_90 hK ho hs hq rfl dX12_putOut_45 kk)
theorem sX12_putOut_48 {h0 : Hp_} : Snd 73 107 h0 (miT TbM) RX12 cX12_putOut 4 none 48 (i_aload 49 0) := snd_aload_n rfl dX12_putOut_48
theorem sX12_putOut_49 {h0 : Hp_} : Snd 73 107 h0 (miT TbM) RX12 cX12_putOut 4 none 49 (i_getI 11 36 52) := snd_getI hl73 (fun hK ho hs hv kk => gf_X12_166 hK ho hs hv dX12_putOut_49 kk)
theorem sX12_putOut_52 {h0 : Hp_} : Snd 73 107 h0 (miT TbM) RX12 cX12_putOut 4 none 52 (i_const 53 (vI 1)) := snd_iconst dX12_putOut_52
theorem sX12_putOut_53 {h0 : Hp_} : Snd 73 107 h0 (miT TbM) RX12 cX12_putOut 4 none 53 (i_isub 54) := snd_isub dX12_putOut_53
theorem sX12_putOut_54 {h0 : Hp_} : Snd 73 107 h0 (miT TbM) RX12 cX12_putOut 4 none 54 (i_iald 73 107 55) := snd_iald dX12_putOut_54
theorem sX12_putOut_55 {h0 : Hp_} : Snd 73 107 h0 (miT TbM) RX12 cX12_putOut 4 none 55 (i_const 58 (vI 255)) := snd_sipush (by decide) dX12_putOut_55
theorem sX12_putOut_58 {h0 : Hp_} : Snd 73 107 h0 (miT TbM) RX12 cX12_putOut 4 none 58 (i_icmp_ne 61 72) := snd_icmp_ne dX12_putOut_58 rfl
theorem sX12_putOut_61 {h0 : Hp_} : Snd 73 107 h0 (miT TbM) RX12 cX12_putOut 4 none 61 (i_aload 62 0) := snd_aload_n rfl dX12_putOut_61
theorem sX12_putOut_62 {h0 : Hp_} : Snd 73 107 h0 (miT TbM) RX12 cX12_putOut 4 none 62 (i_getJ 11 33 65) := snd_getJ hl73 (fun hK ho hs hv kk => gf_X12_175 hK ho hs hv dX12_putOut_62 kk)
theorem sX12_putOut_65 {h0 : Hp_} : Snd 73 107 h0 (miT TbM) RX12 cX12_putOut 4 none 65 (i_const 68 (vJ 134217728)) := snd_ldc2 lc_X12_181 dX12_putOut_65
theorem sX12_putOut_68 {h0 : Hp_} : Snd 73 107 h0 (miT TbM) RX12 cX12_putOut 4 none 68 (i_lsub 69) := snd_lsub dX12_putOut_68
theorem sX12_putOut_69 {h0 : Hp_} : Snd 73 107 h0 (miT TbM) RX12 cX12_putOut 4 none 69 (i_goto 76) := snd_goto dX12_putOut_69 rfl
theorem sX12_putOut_72 {h0 : Hp_} : Snd 73 107 h0 (miT TbM) RX12 cX12_putOut 4 none 72 (i_aload 73 0) := snd_aload_n rfl dX12_putOut_72
theorem sX12_putOut_73 {h0 : Hp_} : Snd 73 107 h0 (miT TbM) RX12 cX12_putOut 4 none 73 (i_getJ 11 33 76) := snd_getJ hl73 (fun hK ho hs hv kk => gf_X12_175 hK ho hs hv dX12_putOut_73 kk)
theorem sX12_putOut_76 {h0 : Hp_} : Snd 73 107 h0 (miT TbM) RX12 cX12_putOut 4 none 76 (i_putJ 11 33 79) := snd_putJ hl73 (fun hK ho hs kk => pf_X12_175 hK ho hs dX12_putOut_76 kk)
theorem sX12_putOut_79 {h0 : Hp_} : Snd 73 107 h0 (miT TbM) RX12 cX12_putOut 4 none 79 (i_aload 80 0) := snd_aload_n rfl dX12_putOut_79
theorem sX12_putOut_80 {h0 : Hp_} : Snd 73 107 h0 (miT TbM) RX12 cX12_putOut 4 none 80 (i_getR 11 35 83) := snd_getR rfl (by decide) (by decide) (by decide) (fun hK ho hs hq kk => gf_X12_90 hK ho hs hq rfl dX12_putOut_80 kk)
theorem sX12_putOut_83 {h0 : Hp_} : Snd 73 107 h0 (miT TbM) RX12 cX12_putOut 4 none 83 (i_aload 84 0) := snd_aload_n rfl dX12_putOut_83
theorem sX12_putOut_84 {h0 : Hp_} : Snd 73 107 h0 (miT TbM) RX12 cX12_putOut 4 none 84 (i_getI 11 36 87) := snd_getI hl73 (fun hK ho hs hv kk => gf_X12_166 hK ho hs hv dX12_putOut_84 kk)
theorem sX12_putOut_87 {h0 : Hp_} : Snd 73 107 h0 (miT TbM) RX12 cX12_putOut 4 none 87 (i_const 88 (vI 1)) := snd_iconst dX12_putOut_87
theorem sX12_putOut_88 {h0 : Hp_} : Snd 73 107 h0 (miT TbM) RX12 cX12_putOut 4 none 88 (i_isub 89) := snd_isub dX12_putOut_88
theorem sX12_putOut_89 {h0 : Hp_} : Snd 73 107 h0 (miT TbM) RX12 cX12_putOut 4 none 89 (i_iald 73 107 90) := snd_iald dX12_putOut_89
theorem sX12_putOut_90 {h0 : Hp_} : Snd 73 107 h0 (miT TbM) RX12 cX12_putOut 4 none 90 (i_const 93 (vI 255)) := snd_sipush (by decide) dX12_putOut_90
theorem sX12_putOut_93 {h0 : Hp_} : Snd 73 107 h0 (miT TbM) RX12 cX12_putOut 4 none 93 (i_icmp_ne 96 100) := snd_icmp_ne dX12_putOut_93 rfl
theorem sX12_putOut_96 {h0 : Hp_} : Snd 73 107 h0 (miT TbM) RX12 cX12_putOut 4 none 96 (i_const 97 (vI 1)) := snd_iconst dX12_putOut_96
theorem sX12_putOut_97 {h0 : Hp_} : Snd 73 107 h0 (miT TbM) RX12 cX12_putOut 4 none 97 (i_goto 101) := snd_goto dX12_putOut_97 rfl
theorem sX12_putOut_100 {h0 : Hp_} : Snd 73 107 h0 (miT TbM) RX12 cX12_putOut 4 none 100 (i_const 101 (vI 0)) := snd_iconst dX12_putOut_100
theorem sX12_putOut_101 {h0 : Hp_} : Snd 73 107 h0 (miT TbM) RX12 cX12_putOut 4 none 101 (i_istore 102 1) := snd_istore_n rfl (by decide) dX12_putOut_101
theorem sX12_putOut_102 {h0 : Hp_} : Snd 73 107 h0 (miT TbM) RX12 cX12_putOut 4 none 102 (i_iload 103 1) := snd_iload_n rfl dX12_putOut_102
theorem sX12_putOut_103 {h0 : Hp_} : Snd 73 107 h0 (miT TbM) RX12 cX12_putOut 4 none 103 (i_if_eq 106 112) := snd_if_eq dX12_putOut_103 rfl
theorem sX12_putOut_106 {h0 : Hp_} : Snd 73 107 h0 (miT TbM) RX12 cX12_putOut 4 none 106 (i_const 109 (vJ 1048576)) := snd_ldc2 lc_X12_183 dX12_putOut_106
theorem sX12_putOut_109 {h0 : Hp_} : Snd 73 107 h0 (miT TbM) RX12 cX12_putOut 4 none 109 (i_goto 115) := snd_goto dX12_putOut_109 rfl
theorem sX12_putOut_112 {h0 : Hp_} : Snd 73 107 h0 (miT TbM) RX12 cX12_putOut 4 none 112 (i_const 115 (vJ 524288)) := snd_ldc2 lc_X12_185 dX12_putOut_112
theorem sX12_putOut_115 {h0 : Hp_} : Snd 73 107 h0 (miT TbM) RX12 cX12_putOut 4 none 115 (i_lstore 116 2) := snd_lstore_n rfl (by decide) dX12_putOut_115
theorem sX12_putOut_116 {h0 : Hp_} : Snd 73 107 h0 (miT TbM) RX12 cX12_putOut 4 none 116 (i_aload 117 0) := snd_aload_n rfl dX12_putOut_116
theorem sX12_putOut_117 {h0 : Hp_} : Snd 73 107 h0 (miT TbM) RX12 cX12_putOut 4 none 117 (i_getR 11 35 120) := snd_getR rfl (by decide) (by decide) (by decide) (fun hK ho hs hq kk => gf_X12_90 hK ho hs hq rfl dX12_putOut_117 kk)
theorem sX12_putOut_120 {h0 : Hp_} : Snd 73 107 h0 (miT TbM) RX12 cX12_putOut 4 none 120 (i_aload 121 0) := snd_aload_n rfl dX12_putOut_120
theorem sX12_putOut_121 {h0 : Hp_} : Snd 73 107 h0 (miT TbM) RX12 cX12_putOut 4 none 121 (i_getI 11 36 124) := snd_getI hl73 (fun hK ho hs hv kk => gf_X12_166 hK ho hs hv dX12_putOut_121 kk)
theorem sX12_putOut_124 {h0 : Hp_} : Snd 73 107 h0 (miT TbM) RX12 cX12_putOut 4 none 124 (i_aload 125 0) := snd_aload_n rfl dX12_putOut_124
theorem sX12_putOut_125 {h0 : Hp_} : Snd 73 107 h0 (miT TbM) RX12 cX12_putOut 4 none 125 (i_getJ 11 33 128) := snd_getJ hl73 (fun hK ho hs hv kk => gf_X12_175 hK ho hs hv dX12_putOut_125 kk)
theorem sX12_putOut_128 {h0 : Hp_} : Snd 73 107 h0 (miT TbM) RX12 cX12_putOut 4 none 128 (i_lload 129 2) := snd_lload_n rfl dX12_putOut_128
theorem sX12_putOut_129 {h0 : Hp_} : Snd 73 107 h0 (miT TbM) RX12 cX12_putOut 4 none 129 (i_ldiv 130) := snd_ldiv dX12_putOut_129
theorem sX12_putOut_130 {h0 : Hp_} : Snd 73 107 h0 (miT TbM) RX12 cX12_putOut 4 none 130 (i_const 133 (vJ 256)) := snd_ldc2 lc_X12_187 dX12_putOut_130
theorem sX12_putOut_133 {h0 : Hp_} : Snd 73 107 h0 (miT TbM) RX12 cX12_putOut 4 none 133 (i_lrem 134) := snd_lrem dX12_putOut_133
theorem sX12_putOut_134 {h0 : Hp_} : Snd 73 107 h0 (miT TbM) RX12 cX12_putOut 4 none 134 (i_l2i 135) := snd_l2i dX12_putOut_134
theorem sX12_putOut_135 {h0 : Hp_} : Snd 73 107 h0 (miT TbM) RX12 cX12_putOut 4 none 135 (i_iast 73 107 136) := snd_iast dX12_putOut_135
theorem sX12_putOut_136 {h0 : Hp_} : Snd 73 107 h0 (miT TbM) RX12 cX12_putOut 4 none 136 (i_aload 137 0) := snd_aload_n rfl dX12_putOut_136
theorem sX12_putOut_137 {h0 : Hp_} : Snd 73 107 h0 (miT TbM) RX12 cX12_putOut 4 none 137 (i_dup 138) := snd_dup dX12_putOut_137
theorem sX12_putOut_138 {h0 : Hp_} : Snd 73 107 h0 (miT TbM) RX12 cX12_putOut 4 none 138 (i_getI 11 36 141) := snd_getI hl73 (fun hK ho hs hv kk => gf_X12_166 hK ho hs hv dX12_putOut_138 kk)
theorem sX12_putOut_141 {h0 : Hp_} : Snd 73 107 h0 (miT TbM) RX12 cX12_putOut 4 none 141 (i_const 142 (vI 1)) := snd_iconst dX12_putOut_141
theorem sX12_putOut_142 {h0 : Hp_} : Snd 73 107 h0 (miT TbM) RX12 cX12_putOut 4 none 142 (i_iadd 143) := snd_iadd dX12_putOut_142
theorem sX12_putOut_143 {h0 : Hp_} : Snd 73 107 h0 (miT TbM) RX12 cX12_putOut 4 none 143 (i_putI 11 36 146) := snd_putI hl73 (fun hK ho hs kk => pf_X12_166 hK ho hs dX12_putOut_143 kk)
theorem sX12_putOut_146 {h0 : Hp_} : Snd 73 107 h0 (miT TbM) RX12 cX12_putOut 4 none 146 (i_aload 147 0) := snd_aload_n rfl dX12_putOut_146
theorem sX12_putOut_147 {h0 : Hp_} : Snd 73 107 h0 (miT TbM) RX12 cX12_putOut 4 none 147 (i_aload 148 0) := snd_aload_n rfl dX12_putOut_147
theorem sX12_putOut_148 {h0 : Hp_} : Snd 73 107 h0 (miT TbM) RX12 cX12_putOut 4 none 148 (i_getJ 11 33 151) := snd_getJ hl73 (fun hK ho hs hv kk => gf_X12_175 hK ho hs hv dX12_putOut_148 kk)
theorem sX12_putOut_151 {h0 : Hp_} : Snd 73 107 h0 (miT TbM) RX12 cX12_putOut 4 none 151 (i_lload 152 2) := snd_lload_n rfl dX12_putOut_151
theorem sX12_putOut_152 {h0 : Hp_} : Snd 73 107 h0 (miT TbM) RX12 cX12_putOut 4 none 152 (i_lrem 153) := snd_lrem dX12_putOut_152
theorem sX12_putOut_153 {h0 : Hp_} : Snd 73 107 h0 (miT TbM) RX12 cX12_putOut 4 none 153 (i_putJ 11 33 156) := snd_putJ hl73 (fun hK ho hs kk => pf_X12_175 hK ho hs dX12_putOut_153 kk)
theorem sX12_putOut_156 {h0 : Hp_} : Snd 73 107 h0 (miT TbM) RX12 cX12_putOut 4 none 156 (i_aload 157 0) := snd_aload_n rfl dX12_putOut_156
theorem sX12_putOut_157 {h0 : Hp_} : Snd 73 107 h0 (miT TbM) RX12 cX12_putOut 4 none 157 (i_iload 158 1) := snd_iload_n rfl dX12_putOut_157
theorem sX12_putOut_158 {h0 : Hp_} : Snd 73 107 h0 (miT TbM) RX12 cX12_putOut 4 none 158 (i_if_eq 161 166) := snd_if_eq dX12_putOut_158 rfl
theorem sX12_putOut_161 {h0 : Hp_} : Snd 73 107 h0 (miT TbM) RX12 cX12_putOut 4 none 161 (i_const 163 (vI 7)) := snd_bipush (by decide) dX12_putOut_161
theorem sX12_putOut_163 {h0 : Hp_} : Snd 73 107 h0 (miT TbM) RX12 cX12_putOut 4 none 163 (i_goto 168) := snd_goto dX12_putOut_163 rfl
theorem sX12_putOut_166 {h0 : Hp_} : Snd 73 107 h0 (miT TbM) RX12 cX12_putOut 4 none 166 (i_const 168 (vI 8)) := snd_bipush (by decide) dX12_putOut_166
theorem sX12_putOut_168 {h0 : Hp_} : Snd 73 107 h0 (miT TbM) RX12 cX12_putOut 4 none 168 (i_putI 11 34 171) := snd_putI hl73 (fun hK ho hs kk => pf_X12_178 hK ho hs dX12_putOut_168 kk)
theorem sX12_putOut_171 {h0 : Hp_} : Snd 73 107 h0 (miT TbM) RX12 cX12_putOut 4 none 171 (i_vret) := snd_vret dX12_putOut_171
theorem kX12_putOut {h0 : Hp_} : raA (okI 73 107 h0 (miT TbM) (yX12_putOut, cX12_putOut, 4, none)) tX12_putOut := (raA_br (raA_br (raA_br (raA_br (raA_br (raA_br (raA_leaf sX12_putOut_0) (raA_leaf sX12_putOut_1)) (raA_br (raA_leaf sX12_putOut_4) (raA_br (raA_leaf sX12_putOut_5) (raA_leaf sX12_putOut_8)))) (raA_br (raA_br (raA_leaf sX12_putOut_9) (raA_br (raA_leaf sX12_putOut_10) (raA_leaf sX12_putOut_11))) (raA_br (raA_leaf sX12_putOut_14) (raA_br (raA_leaf sX12_putOut_17) (raA_leaf sX12_putOut_18))))) (raA_br (raA_br (raA_br (raA_leaf sX12_putOut_21) (raA_br (raA_leaf sX12_putOut_24) (raA_leaf sX12_putOut_25))) (raA_br (raA_leaf sX12_putOut_28) (raA_br (raA_leaf sX12_putOut_29) (raA_leaf sX12_putOut_32)))) (raA_br (raA_br (raA_leaf sX12_putOut_33) (raA_br (raA_leaf sX12_putOut_36) (raA_leaf sX12_putOut_37))) (raA_br (raA_leaf sX12_putOut_38) (raA_br (raA_leaf sX12_putOut_39) (raA_leaf sX12_putOut_40)))))) (raA_br (raA_br (raA_br (raA_br (raA_leaf sX12_putOut_41) (raA_br (raA_leaf sX12_putOut_42) (raA_leaf sX12_putOut_43))) (raA_br (raA_leaf sX12_putOut_44) (raA_br (raA_leaf sX12_putOut_45) (raA_leaf sX12_putOut_48)))) (raA_br (raA_br (raA_leaf sX12_putOut_49) (raA_br (raA_leaf sX12_putOut_52) (raA_leaf sX12_putOut_53))) (raA_br (raA_leaf sX12_putOut_54) (raA_br (raA_leaf sX12_putOut_55) (raA_leaf sX12_putOut_58))))) (raA_br (raA_br (raA_br (raA_leaf sX12_putOut_61) (raA_br (raA_leaf sX12_putOut_62) (raA_leaf sX12_putOut_65))) (raA_br (raA_leaf sX12_putOut_68) (raA_br (raA_leaf sX12_putOut_69) (raA_leaf sX12_putOut_72)))) (raA_br (raA_br (raA_leaf sX12_putOut_73) (raA_br (raA_leaf sX12_putOut_76) (raA_leaf sX12_putOut_79))) (raA_br (raA_leaf sX12_putOut_80) (raA_br (raA_leaf sX12_putOut_83) (raA_leaf sX12_putOut_84))))))) (raA_br (raA_br (raA_br (raA_br (raA_br (raA_leaf sX12_putOut_87) (raA_leaf sX12_putOut_88)) (raA_br (raA_leaf sX12_putOut_89) (raA_br (raA_leaf sX12_putOut_90) (raA_leaf sX12_putOut_93)))) (raA_br (raA_br (raA_leaf sX12_putOut_96) (raA_br (raA_leaf sX12_putOut_97) (raA_leaf sX12_putOut_100))) (raA_br (raA_leaf sX12_putOut_101) (raA_br (raA_leaf sX12_putOut_102) (raA_leaf sX12_putOut_103))))) (raA_br (raA_br (raA_br (raA_leaf sX12_putOut_106) (raA_br (raA_leaf sX12_putOut_109) (raA_leaf sX12_putOut_112))) (raA_br (raA_leaf sX12_putOut_115) (raA_br (raA_leaf sX12_putOut_116) (raA_leaf sX12_putOut_117)))) (raA_br (raA_br (raA_leaf sX12_putOut_120) (raA_br (raA_leaf sX12_putOut_121) (raA_leaf sX12_putOut_124))) (raA_br (raA_leaf sX12_putOut_125) (raA_br (raA_leaf sX12_putOut_128) (raA_leaf sX12_putOut_129)))))) (raA_br (raA_br (raA_br (raA_br (raA_leaf sX12_putOut_130) (raA_br (raA_leaf sX12_putOut_133) (raA_leaf sX12_putOut_134))) (raA_br (raA_leaf sX12_putOut_135) (raA_br (raA_leaf sX12_putOut_136) (raA_leaf sX12_putOut_137)))) (raA_br (raA_br (raA_leaf sX12_putOut_138) (raA_br (raA_leaf sX12_putOut_141) (raA_leaf sX12_putOut_142))) (raA_br (raA_leaf sX12_putOut_143) (raA_br (raA_leaf sX12_putOut_146) (raA_leaf sX12_putOut_147))))) (raA_br (raA_br (raA_br (raA_leaf sX12_putOut_148) (raA_br (raA_leaf sX12_putOut_151) (raA_leaf sX12_putOut_152))) (raA_br (raA_leaf sX12_putOut_153) (raA_br (raA_leaf sX12_putOut_156) (raA_leaf sX12_putOut_157)))) (raA_br (raA_br (raA_leaf sX12_putOut_158) (raA_br (raA_leaf sX12_putOut_161) (raA_leaf sX12_putOut_163))) (raA_br (raA_leaf sX12_putOut_166) (raA_br (raA_leaf sX12_putOut_168) (raA_leaf sX12_putOut_171))))))))
theorem sX12_putPacket_0 {h0 : Hp_} : Snd 73 107 h0 (miT TbM) RX12 cX12_putPacket 7 none 0 (i_const 1 (vI 0)) := snd_iconst dX12_putPacket_0
theorem sX12_putPacket_1 {h0 : Hp_} : Snd 73 107 h0 (miT TbM) RX12 cX12_putPacket 7 none 1 (i_istore 3 4) := snd_istore (by decide) dX12_putPacket_1
theorem sX12_putPacket_3 {h0 : Hp_} : Snd 73 107 h0 (miT TbM) RX12 cX12_putPacket 7 none 3 (i_iload 4 1) := snd_iload_n rfl dX12_putPacket_3
theorem sX12_putPacket_4 {h0 : Hp_} : Snd 73 107 h0 (miT TbM) RX12 cX12_putPacket 7 none 4 (i_cS1 17 7) := snd_cS1 (fun hK hd hC h6 h7 h8 kk => iv_X12_326 hK (mcM_17 hC) ⟨hd, by show _ ≤ 40 * (_ + 1); omega⟩ (Nat.le_refl _) h6 h7 h8 ⟨Nat.le_refl _, Nat.le_refl _⟩ dX12_putPacket_4 kk)
theorem sX12_putPacket_7 {h0 : Hp_} : Snd 73 107 h0 (miT TbM) RX12 cX12_putPacket 7 none 7 (i_istore 9 5) := snd_istore (by decide) dX12_putPacket_7
theorem sX12_putPacket_9 {h0 : Hp_} : Snd 73 107 h0 (miT TbM) RX12 cX12_putPacket 7 none 9 (i_iload 11 5) := snd_iload dX12_putPacket_9
theorem sX12_putPacket_11 {h0 : Hp_} : Snd 73 107 h0 (miT TbM) RX12 cX12_putPacket 7 none 11 (i_const 12 (vI 3)) := snd_iconst dX12_putPacket_11
theorem sX12_putPacket_12 {h0 : Hp_} : Snd 73 107 h0 (miT TbM) RX12 cX12_putPacket 7 none 12 (i_iload 13 1) := snd_iload_n rfl dX12_putPacket_12
theorem sX12_putPacket_13 {h0 : Hp_} : Snd 73 107 h0 (miT TbM) RX12 cX12_putPacket 7 none 13 (i_imul 14) := snd_imul dX12_putPacket_13
theorem sX12_putPacket_14 {h0 : Hp_} : Snd 73 107 h0 (miT TbM) RX12 cX12_putPacket 7 none 14 (i_icmp_gt 17 83) := snd_icmp_gt dX12_putPacket_14 rfl
theorem sX12_putPacket_17 {h0 : Hp_} : Snd 73 107 h0 (miT TbM) RX12 cX12_putPacket 7 none 17 (i_aload 18 0) := snd_aload_n rfl dX12_putPacket_17
theorem sX12_putPacket_18 {h0 : Hp_} : Snd 73 107 h0 (miT TbM) RX12 cX12_putPacket 7 none 18 (i_getR 11 16 21) := snd_getR rfl (by decide) (by decide) (by decide) (fun hK ho hs hq kk => gf_X12_57 hK ho hs hq rfl dX12_putPacket_18 kk)
theorem sX12_putPacket_21 {h0 : Hp_} : Snd 73 107 h0 (miT TbM) RX12 cX12_putPacket 7 none 21 (i_iload 23 5) := snd_iload dX12_putPacket_21
theorem sX12_putPacket_23 {h0 : Hp_} : Snd 73 107 h0 (miT TbM) RX12 cX12_putPacket 7 none 23 (i_aload 24 0) := snd_aload_n rfl dX12_putPacket_23
theorem sX12_putPacket_24 {h0 : Hp_} : Snd 73 107 h0 (miT TbM) RX12 cX12_putPacket 7 none 24 (i_getR 11 15 27) := snd_getR rfl (by decide) (by decide) (by decide) (fun hK ho hs hq kk => gf_X12_54 hK ho hs hq rfl dX12_putPacket_24 kk)
theorem sX12_putPacket_27 {h0 : Hp_} : Snd 73 107 h0 (miT TbM) RX12 cX12_putPacket 7 none 27 (i_iload 29 5) := snd_iload dX12_putPacket_27
theorem sX12_putPacket_29 {h0 : Hp_} : Snd 73 107 h0 (miT TbM) RX12 cX12_putPacket 7 none 29 (i_iald 73 107 30) := snd_iald dX12_putPacket_29
theorem sX12_putPacket_30 {h0 : Hp_} : Snd 73 107 h0 (miT TbM) RX12 cX12_putPacket 7 none 30 (i_iast 73 107 31) := snd_iast dX12_putPacket_30
theorem sX12_putPacket_31 {h0 : Hp_} : Snd 73 107 h0 (miT TbM) RX12 cX12_putPacket 7 none 31 (i_aload 32 0) := snd_aload_n rfl dX12_putPacket_31
theorem sX12_putPacket_32 {h0 : Hp_} : Snd 73 107 h0 (miT TbM) RX12 cX12_putPacket 7 none 32 (i_getR 11 15 35) := snd_getR rfl (by decide) (by decide) (by decide) (fun hK ho hs hq kk => gf_X12_54 hK ho hs hq rfl dX12_putPacket_32 kk)
theorem sX12_putPacket_35 {h0 : Hp_} : Snd 73 107 h0 (miT TbM) RX12 cX12_putPacket 7 none 35 (i_iload 37 5) := snd_iload dX12_putPacket_35
theorem sX12_putPacket_37 {h0 : Hp_} : Snd 73 107 h0 (miT TbM) RX12 cX12_putPacket 7 none 37 (i_aload 38 0) := snd_aload_n rfl dX12_putPacket_37
theorem sX12_putPacket_38 {h0 : Hp_} : Snd 73 107 h0 (miT TbM) RX12 cX12_putPacket 7 none 38 (i_iload 40 5) := snd_iload dX12_putPacket_38
theorem sX12_putPacket_40 {h0 : Hp_} : Snd 73 107 h0 (miT TbM) RX12 cX12_putPacket 7 none 40 (i_cV1 29 11 43) := snd_cV1 (fun hK hd hC ho hs h6 h7 h8 kk => iv_X12_296 hK (mcM_29 hC) ho hs ⟨hd, by show _ ≤ 40 * (_ + 1); omega⟩ (Nat.le_refl _) h6 h7 h8 ⟨Nat.le_refl _, Nat.le_refl _⟩ dX12_putPacket_40 kk)
theorem sX12_putPacket_43 {h0 : Hp_} : Snd 73 107 h0 (miT TbM) RX12 cX12_putPacket 7 none 43 (i_iload 44 2) := snd_iload_n rfl dX12_putPacket_43
theorem sX12_putPacket_44 {h0 : Hp_} : Snd 73 107 h0 (miT TbM) RX12 cX12_putPacket 7 none 44 (i_imul 45) := snd_imul dX12_putPacket_44
theorem sX12_putPacket_45 {h0 : Hp_} : Snd 73 107 h0 (miT TbM) RX12 cX12_putPacket 7 none 45 (i_iload 46 3) := snd_iload_n rfl dX12_putPacket_45
theorem sX12_putPacket_46 {h0 : Hp_} : Snd 73 107 h0 (miT TbM) RX12 cX12_putPacket 7 none 46 (i_idiv 47) := snd_idiv dX12_putPacket_46
theorem sX12_putPacket_47 {h0 : Hp_} : Snd 73 107 h0 (miT TbM) RX12 cX12_putPacket 7 none 47 (i_iast 73 107 48) := snd_iast dX12_putPacket_47
theorem sX12_putPacket_48 {h0 : Hp_} : Snd 73 107 h0 (miT TbM) RX12 cX12_putPacket 7 none 48 (i_iload 50 4) := snd_iload dX12_putPacket_48
theorem sX12_putPacket_50 {h0 : Hp_} : Snd 73 107 h0 (miT TbM) RX12 cX12_putPacket 7 none 50 (i_if_ne 53 70) := snd_if_ne dX12_putPacket_50 rfl
theorem sX12_putPacket_53 {h0 : Hp_} : Snd 73 107 h0 (miT TbM) RX12 cX12_putPacket 7 none 53 (i_aload 54 0) := snd_aload_n rfl dX12_putPacket_53
theorem sX12_putPacket_54 {h0 : Hp_} : Snd 73 107 h0 (miT TbM) RX12 cX12_putPacket 7 none 54 (i_getR 11 15 57) := snd_getR rfl (by decide) (by decide) (by decide) (fun hK ho hs hq kk => gf_X12_54 hK ho hs hq rfl dX12_putPacket_54 kk)
theorem sX12_putPacket_57 {h0 : Hp_} : Snd 73 107 h0 (miT TbM) RX12 cX12_putPacket 7 none 57 (i_iload 59 5) := snd_iload dX12_putPacket_57
theorem sX12_putPacket_59 {h0 : Hp_} : Snd 73 107 h0 (miT TbM) RX12 cX12_putPacket 7 none 59 (i_iald 73 107 60) := snd_iald dX12_putPacket_59
theorem sX12_putPacket_60 {h0 : Hp_} : Snd 73 107 h0 (miT TbM) RX12 cX12_putPacket 7 none 60 (i_aload 61 0) := snd_aload_n rfl dX12_putPacket_60
theorem sX12_putPacket_61 {h0 : Hp_} : Snd 73 107 h0 (miT TbM) RX12 cX12_putPacket 7 none 61 (i_getR 11 16 64) := snd_getR rfl (by decide) (by decide) (by decide) (fun hK ho hs hq kk => gf_X12_57 hK ho hs hq rfl dX12_putPacket_61 kk)
theorem sX12_putPacket_64 {h0 : Hp_} : Snd 73 107 h0 (miT TbM) RX12 cX12_putPacket 7 none 64 (i_iload 66 5) := snd_iload dX12_putPacket_64
theorem sX12_putPacket_66 {h0 : Hp_} : Snd 73 107 h0 (miT TbM) RX12 cX12_putPacket 7 none 66 (i_iald 73 107 67) := snd_iald dX12_putPacket_66
theorem sX12_putPacket_67 {h0 : Hp_} : Snd 73 107 h0 (miT TbM) RX12 cX12_putPacket 7 none 67 (i_icmp_le 70 74) := snd_icmp_le dX12_putPacket_67 rfl
theorem sX12_putPacket_70 {h0 : Hp_} : Snd 73 107 h0 (miT TbM) RX12 cX12_putPacket 7 none 70 (i_const 71 (vI 1)) := snd_iconst dX12_putPacket_70
theorem sX12_putPacket_71 {h0 : Hp_} : Snd 73 107 h0 (miT TbM) RX12 cX12_putPacket 7 none 71 (i_goto 75) := snd_goto dX12_putPacket_71 rfl
theorem sX12_putPacket_74 {h0 : Hp_} : Snd 73 107 h0 (miT TbM) RX12 cX12_putPacket 7 none 74 (i_const 75 (vI 0)) := snd_iconst dX12_putPacket_74
theorem sX12_putPacket_75 {h0 : Hp_} : Snd 73 107 h0 (miT TbM) RX12 cX12_putPacket 7 none 75 (i_istore 77 4) := snd_istore (by decide) dX12_putPacket_75
theorem sX12_putPacket_77 {h0 : Hp_} : Snd 73 107 h0 (miT TbM) RX12 cX12_putPacket 7 none 77 (i_iinc 80 5 1) := snd_iinc (by decide) dX12_putPacket_77
theorem sX12_putPacket_80 {h0 : Hp_} : Snd 73 107 h0 (miT TbM) RX12 cX12_putPacket 7 none 80 (i_goto 9) := snd_goto dX12_putPacket_80 rfl
theorem sX12_putPacket_83 {h0 : Hp_} : Snd 73 107 h0 (miT TbM) RX12 cX12_putPacket 7 none 83 (i_aload 84 0) := snd_aload_n rfl dX12_putPacket_83
theorem sX12_putPacket_84 {h0 : Hp_} : Snd 73 107 h0 (miT TbM) RX12 cX12_putPacket 7 none 84 (i_aload 85 0) := snd_aload_n rfl dX12_putPacket_84
theorem sX12_putPacket_85 {h0 : Hp_} : Snd 73 107 h0 (miT TbM) RX12 cX12_putPacket 7 none 85 (i_getI 11 41 88) := snd_getI hl73 (fun hK ho hs hv kk => gf_X12_329 hK ho hs hv dX12_putPacket_85 kk)
theorem sX12_putPacket_88 {h0 : Hp_} : Snd 73 107 h0 (miT TbM) RX12 cX12_putPacket 7 none 88 (i_putI 11 42 91) := snd_putI hl73 (fun hK ho hs kk => pf_X12_311 hK ho hs dX12_putPacket_88 kk)
theorem sX12_putPacket_91 {h0 : Hp_} : Snd 73 107 h0 (miT TbM) RX12 cX12_putPacket 7 none 91 (i_aload 92 0) := snd_aload_n rfl dX12_putPacket_91
theorem sX12_putPacket_92 {h0 : Hp_} : Snd 73 107 h0 (miT TbM) RX12 cX12_putPacket 7 none 92 (i_const 93 (vI 0)) := snd_iconst dX12_putPacket_92
theorem sX12_putPacket_93 {h0 : Hp_} : Snd 73 107 h0 (miT TbM) RX12 cX12_putPacket 7 none 93 (i_putI 11 43 96) := snd_putI hl73 (fun hK ho hs kk => pf_X12_314 hK ho hs dX12_putPacket_93 kk)
theorem sX12_putPacket_96 {h0 : Hp_} : Snd 73 107 h0 (miT TbM) RX12 cX12_putPacket 7 none 96 (i_aload 97 0) := snd_aload_n rfl dX12_putPacket_96
theorem sX12_putPacket_97 {h0 : Hp_} : Snd 73 107 h0 (miT TbM) RX12 cX12_putPacket 7 none 97 (i_iload 99 4) := snd_iload dX12_putPacket_97
theorem sX12_putPacket_99 {h0 : Hp_} : Snd 73 107 h0 (miT TbM) RX12 cX12_putPacket 7 none 99 (i_if_eq 102 106) := snd_if_eq dX12_putPacket_99 rfl
theorem sX12_putPacket_102 {h0 : Hp_} : Snd 73 107 h0 (miT TbM) RX12 cX12_putPacket 7 none 102 (i_const 103 (vI 1)) := snd_iconst dX12_putPacket_102
theorem sX12_putPacket_103 {h0 : Hp_} : Snd 73 107 h0 (miT TbM) RX12 cX12_putPacket 7 none 103 (i_goto 107) := snd_goto dX12_putPacket_103 rfl
theorem sX12_putPacket_106 {h0 : Hp_} : Snd 73 107 h0 (miT TbM) RX12 cX12_putPacket 7 none 106 (i_const 107 (vI 0)) := snd_iconst dX12_putPacket_106
theorem sX12_putPacket_107 {h0 : Hp_} : Snd 73 107 h0 (miT TbM) RX12 cX12_putPacket 7 none 107 (i_const 108 (vI 1)) := snd_iconst dX12_putPacket_107
theorem sX12_putPacket_108 {h0 : Hp_} : Snd 73 107 h0 (miT TbM) RX12 cX12_putPacket 7 none 108 (i_cV2 30 11 111) := snd_cV2 (fun hK hd hC ho hs h6 h7 h8 kk => iv_X12_320 hK (mcM_30 hC) ho hs ⟨hd, by show _ ≤ 40 * (_ + 1); omega⟩ (Nat.le_refl _) h6 h7 h8 ⟨Nat.le_refl _, Nat.le_refl _⟩ dX12_putPacket_108 kk)
theorem sX12_putPacket_111 {h0 : Hp_} : Snd 73 107 h0 (miT TbM) RX12 cX12_putPacket 7 none 111 (i_iload 112 1) := snd_iload_n rfl dX12_putPacket_111
theorem sX12_putPacket_112 {h0 : Hp_} : Snd 73 107 h0 (miT TbM) RX12 cX12_putPacket 7 none 112 (i_cS1 17 115) := snd_cS1 (fun hK hd hC h6 h7 h8 kk => iv_X12_326 hK (mcM_17 hC) ⟨hd, by show _ ≤ 40 * (_ + 1); omega⟩ (Nat.le_refl _) h6 h7 h8 ⟨Nat.le_refl _, Nat.le_refl _⟩ dX12_putPacket_112 kk)
theorem sX12_putPacket_115 {h0 : Hp_} : Snd 73 107 h0 (miT TbM) RX12 cX12_putPacket 7 none 115 (i_istore 117 5) := snd_istore (by decide) dX12_putPacket_115
theorem sX12_putPacket_117 {h0 : Hp_} : Snd 73 107 h0 (miT TbM) RX12 cX12_putPacket 7 none 117 (i_iload 119 5) := snd_iload dX12_putPacket_117
theorem sX12_putPacket_119 {h0 : Hp_} : Snd 73 107 h0 (miT TbM) RX12 cX12_putPacket 7 none 119 (i_const 120 (vI 3)) := snd_iconst dX12_putPacket_119
theorem sX12_putPacket_120 {h0 : Hp_} : Snd 73 107 h0 (miT TbM) RX12 cX12_putPacket 7 none 120 (i_iload 121 1) := snd_iload_n rfl dX12_putPacket_120
theorem sX12_putPacket_121 {h0 : Hp_} : Snd 73 107 h0 (miT TbM) RX12 cX12_putPacket 7 none 121 (i_imul 122) := snd_imul dX12_putPacket_121
theorem sX12_putPacket_122 {h0 : Hp_} : Snd 73 107 h0 (miT TbM) RX12 cX12_putPacket 7 none 122 (i_icmp_gt 125 160) := snd_icmp_gt dX12_putPacket_122 rfl
theorem sX12_putPacket_125 {h0 : Hp_} : Snd 73 107 h0 (miT TbM) RX12 cX12_putPacket 7 none 125 (i_iload 127 4) := snd_iload dX12_putPacket_125
theorem sX12_putPacket_127 {h0 : Hp_} : Snd 73 107 h0 (miT TbM) RX12 cX12_putPacket 7 none 127 (i_if_eq 130 160) := snd_if_eq dX12_putPacket_127 rfl
theorem sX12_putPacket_130 {h0 : Hp_} : Snd 73 107 h0 (miT TbM) RX12 cX12_putPacket 7 none 130 (i_aload 131 0) := snd_aload_n rfl dX12_putPacket_130
theorem sX12_putPacket_131 {h0 : Hp_} : Snd 73 107 h0 (miT TbM) RX12 cX12_putPacket 7 none 131 (i_getR 11 9 134) := snd_getR rfl (by decide) (by decide) (by decide) (fun hK ho hs hq kk => gf_X12_35 hK ho hs hq rfl dX12_putPacket_131 kk)
theorem sX12_putPacket_134 {h0 : Hp_} : Snd 73 107 h0 (miT TbM) RX12 cX12_putPacket 7 none 134 (i_iload 136 5) := snd_iload dX12_putPacket_134
theorem sX12_putPacket_136 {h0 : Hp_} : Snd 73 107 h0 (miT TbM) RX12 cX12_putPacket 7 none 136 (i_iald 73 107 137) := snd_iald dX12_putPacket_136
theorem sX12_putPacket_137 {h0 : Hp_} : Snd 73 107 h0 (miT TbM) RX12 cX12_putPacket 7 none 137 (i_aload 138 0) := snd_aload_n rfl dX12_putPacket_137
theorem sX12_putPacket_138 {h0 : Hp_} : Snd 73 107 h0 (miT TbM) RX12 cX12_putPacket 7 none 138 (i_getR 11 10 141) := snd_getR rfl (by decide) (by decide) (by decide) (fun hK ho hs hq kk => gf_X12_38 hK ho hs hq rfl dX12_putPacket_138 kk)
theorem sX12_putPacket_141 {h0 : Hp_} : Snd 73 107 h0 (miT TbM) RX12 cX12_putPacket 7 none 141 (i_iload 143 5) := snd_iload dX12_putPacket_141
theorem sX12_putPacket_143 {h0 : Hp_} : Snd 73 107 h0 (miT TbM) RX12 cX12_putPacket 7 none 143 (i_iald 73 107 144) := snd_iald dX12_putPacket_143
theorem sX12_putPacket_144 {h0 : Hp_} : Snd 73 107 h0 (miT TbM) RX12 cX12_putPacket 7 none 144 (i_imul 145) := snd_imul dX12_putPacket_144
theorem sX12_putPacket_145 {h0 : Hp_} : Snd 73 107 h0 (miT TbM) RX12 cX12_putPacket 7 none 145 (i_if_le 148 154) := snd_if_le dX12_putPacket_145 rfl
theorem sX12_putPacket_148 {h0 : Hp_} : Snd 73 107 h0 (miT TbM) RX12 cX12_putPacket 7 none 148 (i_aload 149 0) := snd_aload_n rfl dX12_putPacket_148
theorem sX12_putPacket_149 {h0 : Hp_} : Snd 73 107 h0 (miT TbM) RX12 cX12_putPacket 7 none 149 (i_iload 151 5) := snd_iload dX12_putPacket_149
theorem sX12_putPacket_151 {h0 : Hp_} : Snd 73 107 h0 (miT TbM) RX12 cX12_putPacket 7 none 151 (i_cV1 31 11 154) := snd_cV1 (fun hK hd hC ho hs h6 h7 h8 kk => iv_X12_332 hK (mcM_31 hC) ho hs ⟨hd, by show _ ≤ 40 * (_ + 1); omega⟩ (Nat.le_refl _) h6 h7 h8 ⟨Nat.le_refl _, Nat.le_refl _⟩ dX12_putPacket_151 kk)
theorem sX12_putPacket_154 {h0 : Hp_} : Snd 73 107 h0 (miT TbM) RX12 cX12_putPacket 7 none 154 (i_iinc 157 5 1) := snd_iinc (by decide) dX12_putPacket_154
theorem sX12_putPacket_157 {h0 : Hp_} : Snd 73 107 h0 (miT TbM) RX12 cX12_putPacket 7 none 157 (i_goto 117) := snd_goto dX12_putPacket_157 rfl
theorem sX12_putPacket_160 {h0 : Hp_} : Snd 73 107 h0 (miT TbM) RX12 cX12_putPacket 7 none 160 (i_aload 161 0) := snd_aload_n rfl dX12_putPacket_160
theorem sX12_putPacket_161 {h0 : Hp_} : Snd 73 107 h0 (miT TbM) RX12 cX12_putPacket 7 none 161 (i_aload 162 0) := snd_aload_n rfl dX12_putPacket_161
theorem sX12_putPacket_162 {h0 : Hp_} : Snd 73 107 h0 (miT TbM) RX12 cX12_putPacket 7 none 162 (i_getI 11 43 165) := snd_getI hl73 (fun hK ho hs hv kk => gf_X12_314 hK ho hs hv dX12_putPacket_162 kk)
theorem sX12_putPacket_165 {h0 : Hp_} : Snd 73 107 h0 (miT TbM) RX12 cX12_putPacket 7 none 165 (i_if_le 168 177) := snd_if_le dX12_putPacket_165 rfl
theorem sX12_putPacket_168 {h0 : Hp_} : Snd 73 107 h0 (miT TbM) RX12 cX12_putPacket 7 none 168 (i_aload 169 0) := snd_aload_n rfl dX12_putPacket_168
theorem sX12_putPacket_169 {h0 : Hp_} : Snd 73 107 h0 (miT TbM) RX12 cX12_putPacket 7 none 169 (i_getI 11 42 172) := snd_getI hl73 (fun hK ho hs hv kk => gf_X12_311 hK ho hs hv dX12_putPacket_169 kk)
theorem sX12_putPacket_172 {h0 : Hp_} : Snd 73 107 h0 (miT TbM) RX12 cX12_putPacket 7 none 172 (i_const 173 (vI 1)) := snd_iconst dX12_putPacket_172
theorem sX12_putPacket_173 {h0 : Hp_} : Snd 73 107 h0 (miT TbM) RX12 cX12_putPacket 7 none 173 (i_iadd 174) := snd_iadd dX12_putPacket_173
theorem sX12_putPacket_174 {h0 : Hp_} : Snd 73 107 h0 (miT TbM) RX12 cX12_putPacket 7 none 174 (i_goto 181) := snd_goto dX12_putPacket_174 rfl
theorem sX12_putPacket_177 {h0 : Hp_} : Snd 73 107 h0 (miT TbM) RX12 cX12_putPacket 7 none 177 (i_aload 178 0) := snd_aload_n rfl dX12_putPacket_177
theorem sX12_putPacket_178 {h0 : Hp_} : Snd 73 107 h0 (miT TbM) RX12 cX12_putPacket 7 none 178 (i_getI 11 42 181) := snd_getI hl73 (fun hK ho hs hv kk => gf_X12_311 hK ho hs hv dX12_putPacket_178 kk)
theorem sX12_putPacket_181 {h0 : Hp_} : Snd 73 107 h0 (miT TbM) RX12 cX12_putPacket 7 none 181 (i_putI 11 41 184) := snd_putI hl73 (fun hK ho hs kk => pf_X12_329 hK ho hs dX12_putPacket_181 kk)
theorem sX12_putPacket_184 {h0 : Hp_} : Snd 73 107 h0 (miT TbM) RX12 cX12_putPacket 7 none 184 (i_iload 185 1) := snd_iload_n rfl dX12_putPacket_184
theorem sX12_putPacket_185 {h0 : Hp_} : Snd 73 107 h0 (miT TbM) RX12 cX12_putPacket 7 none 185 (i_cS1 17 188) := snd_cS1 (fun hK hd hC h6 h7 h8 kk => iv_X12_326 hK (mcM_17 hC) ⟨hd, by show _ ≤ 40 * (_ + 1); omega⟩ (Nat.le_refl _) h6 h7 h8 ⟨Nat.le_refl _, Nat.le_refl _⟩ dX12_putPacket_185 kk)
theorem sX12_putPacket_188 {h0 : Hp_} : Snd 73 107 h0 (miT TbM) RX12 cX12_putPacket 7 none 188 (i_istore 190 5) := snd_istore (by decide) dX12_putPacket_188
theorem sX12_putPacket_190 {h0 : Hp_} : Snd 73 107 h0 (miT TbM) RX12 cX12_putPacket 7 none 190 (i_iload 192 5) := snd_iload dX12_putPacket_190
theorem sX12_putPacket_192 {h0 : Hp_} : Snd 73 107 h0 (miT TbM) RX12 cX12_putPacket 7 none 192 (i_const 193 (vI 3)) := snd_iconst dX12_putPacket_192
theorem sX12_putPacket_193 {h0 : Hp_} : Snd 73 107 h0 (miT TbM) RX12 cX12_putPacket 7 none 193 (i_iload 194 1) := snd_iload_n rfl dX12_putPacket_193
theorem sX12_putPacket_194 {h0 : Hp_} : Snd 73 107 h0 (miT TbM) RX12 cX12_putPacket 7 none 194 (i_imul 195) := snd_imul dX12_putPacket_194
theorem sX12_putPacket_195 {h0 : Hp_} : Snd 73 107 h0 (miT TbM) RX12 cX12_putPacket 7 none 195 (i_icmp_gt 198 287) := snd_icmp_gt dX12_putPacket_195 rfl
theorem sX12_putPacket_198 {h0 : Hp_} : Snd 73 107 h0 (miT TbM) RX12 cX12_putPacket 7 none 198 (i_aload 199 0) := snd_aload_n rfl dX12_putPacket_198
theorem sX12_putPacket_199 {h0 : Hp_} : Snd 73 107 h0 (miT TbM) RX12 cX12_putPacket 7 none 199 (i_getR 11 22 202) := snd_getR rfl (by decide) (by decide) (by decide) (fun hK ho hs hq kk => gf_X12_72 hK ho hs hq rfl dX12_putPacket_199 kk)
theorem sX12_putPacket_202 {h0 : Hp_} : Snd 73 107 h0 (miT TbM) RX12 cX12_putPacket 7 none 202 (i_const 204 (vI 35)) := snd_bipush (by decide) dX12_putPacket_202
theorem sX12_putPacket_204 {h0 : Hp_} : Snd 73 107 h0 (miT TbM) RX12 cX12_putPacket 7 none 204 (i_iload 206 5) := snd_iload dX12_putPacket_204
theorem sX12_putPacket_206 {h0 : Hp_} : Snd 73 107 h0 (miT TbM) RX12 cX12_putPacket 7 none 206 (i_imul 207) := snd_imul dX12_putPacket_206
theorem sX12_putPacket_207 {h0 : Hp_} : Snd 73 107 h0 (miT TbM) RX12 cX12_putPacket 7 none 207 (i_aload 208 0) := snd_aload_n rfl dX12_putPacket_207
theorem sX12_putPacket_208 {h0 : Hp_} : Snd 73 107 h0 (miT TbM) RX12 cX12_putPacket 7 none 208 (i_getR 11 16 211) := snd_getR rfl (by decide) (by decide) (by decide) (fun hK ho hs hq kk => gf_X12_57 hK ho hs hq rfl dX12_putPacket_208 kk)
theorem sX12_putPacket_211 {h0 : Hp_} : Snd 73 107 h0 (miT TbM) RX12 cX12_putPacket 7 none 211 (i_iload 213 5) := snd_iload dX12_putPacket_211
theorem sX12_putPacket_213 {h0 : Hp_} : Snd 73 107 h0 (miT TbM) RX12 cX12_putPacket 7 none 213 (i_iald 73 107 214) := snd_iald dX12_putPacket_213
theorem sX12_putPacket_214 {h0 : Hp_} : Snd 73 107 h0 (miT TbM) RX12 cX12_putPacket 7 none 214 (i_iadd 215) := snd_iadd dX12_putPacket_214
theorem sX12_putPacket_215 {h0 : Hp_} : Snd 73 107 h0 (miT TbM) RX12 cX12_putPacket 7 none 215 (i_iald 73 107 216) := snd_iald dX12_putPacket_215
theorem sX12_putPacket_216 {h0 : Hp_} : Snd 73 107 h0 (miT TbM) RX12 cX12_putPacket 7 none 216 (i_istore 218 6) := snd_istore (by decide) dX12_putPacket_216
theorem sX12_putPacket_218 {h0 : Hp_} : Snd 73 107 h0 (miT TbM) RX12 cX12_putPacket 7 none 218 (i_iload 220 6) := snd_iload dX12_putPacket_218
theorem sX12_putPacket_220 {h0 : Hp_} : Snd 73 107 h0 (miT TbM) RX12 cX12_putPacket 7 none 220 (i_aload 221 0) := snd_aload_n rfl dX12_putPacket_220
theorem sX12_putPacket_221 {h0 : Hp_} : Snd 73 107 h0 (miT TbM) RX12 cX12_putPacket 7 none 221 (i_getR 11 22 224) := snd_getR rfl (by decide) (by decide) (by decide) (fun hK ho hs hq kk => gf_X12_72 hK ho hs hq rfl dX12_putPacket_221 kk)
theorem sX12_putPacket_224 {h0 : Hp_} : Snd 73 107 h0 (miT TbM) RX12 cX12_putPacket 7 none 224 (i_const 226 (vI 35)) := snd_bipush (by decide) dX12_putPacket_224
theorem sX12_putPacket_226 {h0 : Hp_} : Snd 73 107 h0 (miT TbM) RX12 cX12_putPacket 7 none 226 (i_iload 228 5) := snd_iload dX12_putPacket_226
theorem sX12_putPacket_228 {h0 : Hp_} : Snd 73 107 h0 (miT TbM) RX12 cX12_putPacket 7 none 228 (i_imul 229) := snd_imul dX12_putPacket_228
theorem sX12_putPacket_229 {h0 : Hp_} : Snd 73 107 h0 (miT TbM) RX12 cX12_putPacket 7 none 229 (i_aload 230 0) := snd_aload_n rfl dX12_putPacket_229
theorem sX12_putPacket_230 {h0 : Hp_} : Snd 73 107 h0 (miT TbM) RX12 cX12_putPacket 7 none 230 (i_getR 11 15 233) := snd_getR rfl (by decide) (by decide) (by decide) (fun hK ho hs hq kk => gf_X12_54 hK ho hs hq rfl dX12_putPacket_230 kk)
theorem sX12_putPacket_233 {h0 : Hp_} : Snd 73 107 h0 (miT TbM) RX12 cX12_putPacket 7 none 233 (i_iload 235 5) := snd_iload dX12_putPacket_233
theorem sX12_putPacket_235 {h0 : Hp_} : Snd 73 107 h0 (miT TbM) RX12 cX12_putPacket 7 none 235 (i_iald 73 107 236) := snd_iald dX12_putPacket_235
theorem sX12_putPacket_236 {h0 : Hp_} : Snd 73 107 h0 (miT TbM) RX12 cX12_putPacket 7 none 236 (i_iadd 237) := snd_iadd dX12_putPacket_236
theorem sX12_putPacket_237 {h0 : Hp_} : Snd 73 107 h0 (miT TbM) RX12 cX12_putPacket 7 none 237 (i_iald 73 107 238) := snd_iald dX12_putPacket_237
theorem sX12_putPacket_238 {h0 : Hp_} : Snd 73 107 h0 (miT TbM) RX12 cX12_putPacket 7 none 238 (i_icmp_ge 241 281) := snd_icmp_ge dX12_putPacket_238 rfl
theorem sX12_putPacket_241 {h0 : Hp_} : Snd 73 107 h0 (miT TbM) RX12 cX12_putPacket 7 none 241 (i_aload 242 0) := snd_aload_n rfl dX12_putPacket_241
theorem sX12_putPacket_242 {h0 : Hp_} : Snd 73 107 h0 (miT TbM) RX12 cX12_putPacket 7 none 242 (i_getR 11 40 245) := snd_getR rfl (by decide) (by decide) (by decide) (fun hK ho hs hq kk => gf_X12_96 hK ho hs hq rfl dX12_putPacket_242 kk)
theorem sX12_putPacket_245 {h0 : Hp_} : Snd 73 107 h0 (miT TbM) RX12 cX12_putPacket 7 none 245 (i_aload 246 0) := snd_aload_n rfl dX12_putPacket_245
theorem sX12_putPacket_246 {h0 : Hp_} : Snd 73 107 h0 (miT TbM) RX12 cX12_putPacket 7 none 246 (i_getI 11 41 249) := snd_getI hl73 (fun hK ho hs hv kk => gf_X12_329 hK ho hs hv dX12_putPacket_246 kk)
theorem sX12_putPacket_249 {h0 : Hp_} : Snd 73 107 h0 (miT TbM) RX12 cX12_putPacket 7 none 249 (i_aload 250 0) := snd_aload_n rfl dX12_putPacket_249
theorem sX12_putPacket_250 {h0 : Hp_} : Snd 73 107 h0 (miT TbM) RX12 cX12_putPacket 7 none 250 (i_getR 11 19 253) := snd_getR rfl (by decide) (by decide) (by decide) (fun hK ho hs hq kk => gf_X12_63 hK ho hs hq rfl dX12_putPacket_250 kk)
theorem sX12_putPacket_253 {h0 : Hp_} : Snd 73 107 h0 (miT TbM) RX12 cX12_putPacket 7 none 253 (i_aload 254 0) := snd_aload_n rfl dX12_putPacket_253
theorem sX12_putPacket_254 {h0 : Hp_} : Snd 73 107 h0 (miT TbM) RX12 cX12_putPacket 7 none 254 (i_getR 11 20 257) := snd_getR rfl (by decide) (by decide) (by decide) (fun hK ho hs hq kk => gf_X12_66 hK ho hs hq rfl dX12_putPacket_254 kk)
theorem sX12_putPacket_257 {h0 : Hp_} : Snd 73 107 h0 (miT TbM) RX12 cX12_putPacket 7 none 257 (i_iload 259 5) := snd_iload dX12_putPacket_257
theorem sX12_putPacket_259 {h0 : Hp_} : Snd 73 107 h0 (miT TbM) RX12 cX12_putPacket 7 none 259 (i_iald 73 107 260) := snd_iald dX12_putPacket_259
theorem sX12_putPacket_260 {h0 : Hp_} : Snd 73 107 h0 (miT TbM) RX12 cX12_putPacket 7 none 260 (i_iload 262 6) := snd_iload dX12_putPacket_260
theorem sX12_putPacket_262 {h0 : Hp_} : Snd 73 107 h0 (miT TbM) RX12 cX12_putPacket 7 none 262 (i_iadd 263) := snd_iadd dX12_putPacket_262
theorem sX12_putPacket_263 {h0 : Hp_} : Snd 73 107 h0 (miT TbM) RX12 cX12_putPacket 7 none 263 (i_iald 73 107 264) := snd_iald dX12_putPacket_263
theorem sX12_putPacket_264 {h0 : Hp_} : Snd 73 107 h0 (miT TbM) RX12 cX12_putPacket 7 none 264 (i_iast 73 107 265) := snd_iast dX12_putPacket_264
theorem sX12_putPacket_265 {h0 : Hp_} : Snd 73 107 h0 (miT TbM) RX12 cX12_putPacket 7 none 265 (i_aload 266 0) := snd_aload_n rfl dX12_putPacket_265
theorem sX12_putPacket_266 {h0 : Hp_} : Snd 73 107 h0 (miT TbM) RX12 cX12_putPacket 7 none 266 (i_dup 267) := snd_dup dX12_putPacket_266
theorem sX12_putPacket_267 {h0 : Hp_} : Snd 73 107 h0 (miT TbM) RX12 cX12_putPacket 7 none 267 (i_getI 11 41 270) := snd_getI hl73 (fun hK ho hs hv kk => gf_X12_329 hK ho hs hv dX12_putPacket_267 kk)
theorem sX12_putPacket_270 {h0 : Hp_} : Snd 73 107 h0 (miT TbM) RX12 cX12_putPacket 7 none 270 (i_const 271 (vI 1)) := snd_iconst dX12_putPacket_270
theorem sX12_putPacket_271 {h0 : Hp_} : Snd 73 107 h0 (miT TbM) RX12 cX12_putPacket 7 none 271 (i_iadd 272) := snd_iadd dX12_putPacket_271
theorem sX12_putPacket_272 {h0 : Hp_} : Snd 73 107 h0 (miT TbM) RX12 cX12_putPacket 7 none 272 (i_putI 11 41 275) := snd_putI hl73 (fun hK ho hs kk => pf_X12_329 hK ho hs dX12_putPacket_272 kk)
theorem sX12_putPacket_275 {h0 : Hp_} : Snd 73 107 h0 (miT TbM) RX12 cX12_putPacket 7 none 275 (i_iinc 278 6 1) := snd_iinc (by decide) dX12_putPacket_275
theorem sX12_putPacket_278 {h0 : Hp_} : Snd 73 107 h0 (miT TbM) RX12 cX12_putPacket 7 none 278 (i_goto 218) := snd_goto dX12_putPacket_278 rfl
theorem sX12_putPacket_281 {h0 : Hp_} : Snd 73 107 h0 (miT TbM) RX12 cX12_putPacket 7 none 281 (i_iinc 284 5 1) := snd_iinc (by decide) dX12_putPacket_281
theorem sX12_putPacket_284 {h0 : Hp_} : Snd 73 107 h0 (miT TbM) RX12 cX12_putPacket 7 none 284 (i_goto 190) := snd_goto dX12_putPacket_284 rfl
theorem sX12_putPacket_287 {h0 : Hp_} : Snd 73 107 h0 (miT TbM) RX12 cX12_putPacket 7 none 287 (i_vret) := snd_vret dX12_putPacket_287
theorem kX12_putPacket {h0 : Hp_} : raA (okI 73 107 h0 (miT TbM) (yX12_putPacket, cX12_putPacket, 7, none)) tX12_putPacket := (raA_br (raA_br (raA_br (raA_br (raA_br (raA_br (raA_br (raA_leaf sX12_putPacket_0) (raA_leaf sX12_putPacket_1)) (raA_br (raA_leaf sX12_putPacket_3) (raA_leaf sX12_putPacket_4))) (raA_br (raA_br (raA_leaf sX12_putPacket_7) (raA_leaf sX12_putPacket_9)) (raA_br (raA_leaf sX12_putPacket_11) (raA_br (raA_leaf sX12_putPacket_12) (raA_leaf sX12_putPacket_13))))) (raA_br (raA_br (raA_br (raA_leaf sX12_putPacket_14) (raA_leaf sX12_putPacket_17)) (raA_br (raA_leaf sX12_putPacket_18) (raA_br (raA_leaf sX12_putPacket_21) (raA_leaf sX12_putPacket_23)))) (raA_br (raA_br (raA_leaf sX12_putPacket_24) (raA_leaf sX12_putPacket_27)) (raA_br (raA_leaf sX12_putPacket_29) (raA_br (raA_leaf sX12_putPacket_30) (raA_leaf sX12_putPacket_31)))))) (raA_br (raA_br (raA_br (raA_br (raA_leaf sX12_putPacket_32) (raA_leaf sX12_putPacket_35)) (raA_br (raA_leaf sX12_putPacket_37) (raA_br (raA_leaf sX12_putPacket_38) (raA_leaf sX12_putPacket_40)))) (raA_br (raA_br (raA_leaf sX12_putPacket_43) (raA_leaf sX12_putPacket_44)) (raA_br (raA_leaf sX12_putPacket_45) (raA_br (raA_leaf sX12_putPacket_46) (raA_leaf sX12_putPacket_47))))) (raA_br (raA_br (raA_br (raA_leaf sX12_putPacket_48) (raA_leaf sX12_putPacket_50)) (raA_br (raA_leaf sX12_putPacket_53) (raA_br (raA_leaf sX12_putPacket_54) (raA_leaf sX12_putPacket_57)))) (raA_br (raA_br (raA_leaf sX12_putPacket_59) (raA_leaf sX12_putPacket_60)) (raA_br (raA_leaf sX12_putPacket_61) (raA_br (raA_leaf sX12_putPacket_64) (raA_leaf sX12_putPacket_66))))))) (raA_br (raA_br (raA_br (raA_br (raA_br (raA_leaf sX12_putPacket_67) (raA_leaf sX12_putPacket_70)) (raA_br (raA_leaf sX12_putPacket_71) (raA_leaf sX12_putPacket_74))) (raA_br (raA_br (raA_leaf sX12_putPacket_75) (raA_leaf sX12_putPacket_77)) (raA_br (raA_leaf sX12_putPacket_80) (raA_br (raA_leaf sX12_putPacket_83) (raA_leaf sX12_putPacket_84))))) (raA_br (raA_br (raA_br (raA_leaf sX12_putPacket_85) (raA_leaf sX12_putPacket_88)) (raA_br (raA_leaf sX12_putPacket_91) (raA_br (raA_leaf sX12_putPacket_92) (raA_leaf sX12_putPacket_93)))) (raA_br (raA_br (raA_leaf sX12_putPacket_96) (raA_leaf sX12_putPacket_97)) (raA_br (raA_leaf sX12_putPacket_99) (raA_br (raA_leaf sX12_putPacket_102) (raA_leaf sX12_putPacket_103)))))) (raA_br (raA_br (raA_br (raA_br (raA_leaf sX12_putPacket_106) (raA_leaf sX12_putPacket_107)) (raA_br (raA_leaf sX12_putPacket_108) (raA_br (raA_leaf sX12_putPacket_111) (raA_leaf sX12_putPacket_112)))) (raA_br (raA_br (raA_leaf sX12_putPacket_115) (raA_leaf sX12_putPacket_117)) (raA_br (raA_leaf sX12_putPacket_119) (raA_br (raA_leaf sX12_putPacket_120) (raA_leaf sX12_putPacket_121))))) (raA_br (raA_br (raA_br (raA_leaf sX12_putPacket_122) (raA_leaf sX12_putPacket_125)) (raA_br (raA_leaf sX12_putPacket_127) (raA_br (raA_leaf sX12_putPacket_130) (raA_leaf sX12_putPacket_131)))) (raA_br (raA_br (raA_leaf sX12_putPacket_134) (raA_leaf sX12_putPacket_136)) (raA_br (raA_leaf sX12_putPacket_137) (raA_br (raA_leaf sX12_putPacket_138) (raA_leaf sX12_putPacket_141)))))))) (raA_br (raA_br (raA_br (raA_br (raA_br (raA_br (raA_leaf sX12_putPacket_143) (raA_leaf sX12_putPacket_144)) (raA_br (raA_leaf sX12_putPacket_145) (raA_leaf sX12_putPacket_148))) (raA_br (raA_br (raA_leaf sX12_putPacket_149) (raA_leaf sX12_putPacket_151)) (raA_br (raA_leaf sX12_putPacket_154) (raA_br (raA_leaf sX12_putPacket_157) (raA_leaf sX12_putPacket_160))))) (raA_br (raA_br (raA_br (raA_leaf sX12_putPacket_161) (raA_leaf sX12_putPacket_162)) (raA_br (raA_leaf sX12_putPacket_165) (raA_br (raA_leaf sX12_putPacket_168) (raA_leaf sX12_putPacket_169)))) (raA_br (raA_br (raA_leaf sX12_putPacket_172) (raA_leaf sX12_putPacket_173)) (raA_br (raA_leaf sX12_putPacket_174) (raA_br (raA_leaf sX12_putPacket_177) (raA_leaf sX12_putPacket_178)))))) (raA_br (raA_br (raA_br (raA_br (raA_leaf sX12_putPacket_181) (raA_leaf sX12_putPacket_184)) (raA_br (raA_leaf sX12_putPacket_185) (raA_br (raA_leaf sX12_putPacket_188) (raA_leaf sX12_putPacket_190)))) (raA_br (raA_br (raA_leaf sX12_putPacket_192) (raA_leaf sX12_putPacket_193)) (raA_br (raA_leaf sX12_putPacket_194) (raA_br (raA_leaf sX12_putPacket_195) (raA_leaf sX12_putPacket_198))))) (raA_br (raA_br (raA_br (raA_leaf sX12_putPacket_199) (raA_leaf sX12_putPacket_202)) (raA_br (raA_leaf sX12_putPacket_204) (raA_br (raA_leaf sX12_putPacket_206) (raA_leaf sX12_putPacket_207)))) (raA_br (raA_br (raA_leaf sX12_putPacket_208) (raA_leaf sX12_putPacket_211)) (raA_br (raA_leaf sX12_putPacket_213) (raA_br (raA_leaf sX12_putPacket_214) (raA_leaf sX12_putPacket_215))))))) (raA_br (raA_br (raA_br (raA_br (raA_br (raA_leaf sX12_putPacket_216) (raA_leaf sX12_putPacket_218)) (raA_br (raA_leaf sX12_putPacket_220) (raA_leaf sX12_putPacket_221))) (raA_br (raA_br (raA_leaf sX12_putPacket_224) (raA_leaf sX12_putPacket_226)) (raA_br (raA_leaf sX12_putPacket_228) (raA_br (raA_leaf sX12_putPacket_229) (raA_leaf sX12_putPacket_230))))) (raA_br (raA_br (raA_br (raA_leaf sX12_putPacket_233) (raA_leaf sX12_putPacket_235)) (raA_br (raA_leaf sX12_putPacket_236) (raA_br (raA_leaf sX12_putPacket_237) (raA_leaf sX12_putPacket_238)))) (raA_br (raA_br (raA_leaf sX12_putPacket_241) (raA_leaf sX12_putPacket_242)) (raA_br (raA_leaf sX12_putPacket_245) (raA_br (raA_leaf sX12_putPacket_246) (raA_leaf sX12_putPacket_249)))))) (raA_br (raA_br (raA_br (raA_br (raA_leaf sX12_putPacket_250) (raA_leaf sX12_putPacket_253)) (raA_br (raA_leaf sX12_putPacket_254) (raA_br (raA_leaf sX12_putPacket_257) (raA_leaf sX12_putPacket_259)))) (raA_br (raA_br (raA_leaf sX12_putPacket_260) (raA_leaf sX12_putPacket_262)) (raA_br (raA_leaf sX12_putPacket_263) (raA_br (raA_leaf sX12_putPacket_264) (raA_leaf sX12_putPacket_265))))) (raA_br (raA_br (raA_br (raA_leaf sX12_putPacket_266) (raA_leaf sX12_putPacket_267)) (raA_br (raA_leaf sX12_putPacket_270) (raA_br (raA_leaf sX12_putPacket_271) (raA_leaf sX12_putPacket_272)))) (raA_br (raA_br (raA_leaf sX12_putPacket_275) (raA_leaf sX12_putPacket_278)) (raA_br (raA_leaf sX12_putPacket_281) (raA_br (raA_leaf sX12_putPacket_284) (raA_leaf sX12_putPacket_287)))))))))
theorem sX12_readBit_0 {h0 : Hp_} : Snd 73 107 h0 (miT TbM) RX12 cX12_readBit 7 (some .int) 0 (i_aload 1 0) := snd_aload_n rfl dX12_readBit_0
theorem sX12_readBit_1 {h0 : Hp_} : Snd 73 107 h0 (miT TbM) RX12 cX12_readBit 7 (some .int) 1 (i_getR 11 0 4) := snd_getR rfl (by decide) (by decide) (by decide) (fun hK ho hs hq kk => gf_X12_7 hK ho hs hq rfl dX12_readBit_1 kk)
theorem sX12_readBit_4 {h0 : Hp_} : Snd 73 107 h0 (miT TbM) RX12 cX12_readBit 7 (some .int) 4 (i_aload 5 0) := snd_aload_n rfl dX12_readBit_4
theorem sX12_readBit_5 {h0 : Hp_} : Snd 73 107 h0 (miT TbM) RX12 cX12_readBit 7 (some .int) 5 (i_getR 11 30 8) := snd_getR rfl (by decide) (by decide) (by decide) (fun hK ho hs hq kk => gf_X12_84 hK ho hs hq rfl dX12_readBit_5 kk)
theorem sX12_readBit_8 {h0 : Hp_} : Snd 73 107 h0 (miT TbM) RX12 cX12_readBit 7 (some .int) 8 (i_iload 9 1) := snd_iload_n rfl dX12_readBit_8
theorem sX12_readBit_9 {h0 : Hp_} : Snd 73 107 h0 (miT TbM) RX12 cX12_readBit 7 (some .int) 9 (i_iald 73 107 10) := snd_iald dX12_readBit_9
theorem sX12_readBit_10 {h0 : Hp_} : Snd 73 107 h0 (miT TbM) RX12 cX12_readBit 7 (some .int) 10 (i_iald 73 107 11) := snd_iald dX12_readBit_10
theorem sX12_readBit_11 {h0 : Hp_} : Snd 73 107 h0 (miT TbM) RX12 cX12_readBit 7 (some .int) 11 (i_istore 12 2) := snd_istore_n rfl (by decide) dX12_readBit_11
theorem sX12_readBit_12 {h0 : Hp_} : Snd 73 107 h0 (miT TbM) RX12 cX12_readBit 7 (some .int) 12 (i_aload 13 0) := snd_aload_n rfl dX12_readBit_12
theorem sX12_readBit_13 {h0 : Hp_} : Snd 73 107 h0 (miT TbM) RX12 cX12_readBit 7 (some .int) 13 (i_aload 14 0) := snd_aload_n rfl dX12_readBit_13
theorem sX12_readBit_14 {h0 : Hp_} : Snd 73 107 h0 (miT TbM) RX12 cX12_readBit 7 (some .int) 14 (i_getJ 11 32 17) := snd_getJ hl73 (fun hK ho hs hv kk => gf_X12_171 hK ho hs hv dX12_readBit_14 kk)
theorem sX12_readBit_17 {h0 : Hp_} : Snd 73 107 h0 (miT TbM) RX12 cX12_readBit 7 (some .int) 17 (i_iload 18 2) := snd_iload_n rfl dX12_readBit_17
theorem sX12_readBit_18 {h0 : Hp_} : Snd 73 107 h0 (miT TbM) RX12 cX12_readBit 7 (some .int) 18 (i_i2l 19) := snd_i2l dX12_readBit_18
theorem sX12_readBit_19 {h0 : Hp_} : Snd 73 107 h0 (miT TbM) RX12 cX12_readBit 7 (some .int) 19 (i_lsub 20) := snd_lsub dX12_readBit_19
theorem sX12_readBit_20 {h0 : Hp_} : Snd 73 107 h0 (miT TbM) RX12 cX12_readBit 7 (some .int) 20 (i_putJ 11 32 23) := snd_putJ hl73 (fun hK ho hs kk => pf_X12_171 hK ho hs dX12_readBit_20 kk)
theorem sX12_readBit_23 {h0 : Hp_} : Snd 73 107 h0 (miT TbM) RX12 cX12_readBit 7 (some .int) 23 (i_aload 24 0) := snd_aload_n rfl dX12_readBit_23
theorem sX12_readBit_24 {h0 : Hp_} : Snd 73 107 h0 (miT TbM) RX12 cX12_readBit 7 (some .int) 24 (i_getJ 11 33 27) := snd_getJ hl73 (fun hK ho hs hv kk => gf_X12_175 hK ho hs hv dX12_readBit_24 kk)
theorem sX12_readBit_27 {h0 : Hp_} : Snd 73 107 h0 (miT TbM) RX12 cX12_readBit 7 (some .int) 27 (i_const 30 (vJ 65536)) := snd_ldc2 lc_X12_198 dX12_readBit_27
theorem sX12_readBit_30 {h0 : Hp_} : Snd 73 107 h0 (miT TbM) RX12 cX12_readBit 7 (some .int) 30 (i_ldiv 31) := snd_ldiv dX12_readBit_30
theorem sX12_readBit_31 {h0 : Hp_} : Snd 73 107 h0 (miT TbM) RX12 cX12_readBit 7 (some .int) 31 (i_iload 32 2) := snd_iload_n rfl dX12_readBit_31
theorem sX12_readBit_32 {h0 : Hp_} : Snd 73 107 h0 (miT TbM) RX12 cX12_readBit 7 (some .int) 32 (i_i2l 33) := snd_i2l dX12_readBit_32
theorem sX12_readBit_33 {h0 : Hp_} : Snd 73 107 h0 (miT TbM) RX12 cX12_readBit 7 (some .int) 33 (i_lcmp 34) := snd_lcmp dX12_readBit_33
theorem sX12_readBit_34 {h0 : Hp_} : Snd 73 107 h0 (miT TbM) RX12 cX12_readBit 7 (some .int) 34 (i_if_ge 37 41) := snd_if_ge dX12_readBit_34 rfl
theorem sX12_readBit_37 {h0 : Hp_} : Snd 73 107 h0 (miT TbM) RX12 cX12_readBit 7 (some .int) 37 (i_const 38 (vI 1)) := snd_iconst dX12_readBit_37
theorem sX12_readBit_38 {h0 : Hp_} : Snd 73 107 h0 (miT TbM) RX12 cX12_readBit 7 (some .int) 38 (i_goto 42) := snd_goto dX12_readBit_38 rfl
theorem sX12_readBit_41 {h0 : Hp_} : Snd 73 107 h0 (miT TbM) RX12 cX12_readBit 7 (some .int) 41 (i_const 42 (vI 0)) := snd_iconst dX12_readBit_41
theorem sX12_readBit_42 {h0 : Hp_} : Snd 73 107 h0 (miT TbM) RX12 cX12_readBit 7 (some .int) 42 (i_istore 43 3) := snd_istore_n rfl (by decide) dX12_readBit_42
theorem sX12_readBit_43 {h0 : Hp_} : Snd 73 107 h0 (miT TbM) RX12 cX12_readBit 7 (some .int) 43 (i_iload 44 3) := snd_iload_n rfl dX12_readBit_43
theorem sX12_readBit_44 {h0 : Hp_} : Snd 73 107 h0 (miT TbM) RX12 cX12_readBit 7 (some .int) 44 (i_if_ne 47 80) := snd_if_ne dX12_readBit_44 rfl
theorem sX12_readBit_47 {h0 : Hp_} : Snd 73 107 h0 (miT TbM) RX12 cX12_readBit 7 (some .int) 47 (i_aload 48 0) := snd_aload_n rfl dX12_readBit_47
theorem sX12_readBit_48 {h0 : Hp_} : Snd 73 107 h0 (miT TbM) RX12 cX12_readBit 7 (some .int) 48 (i_aload 49 0) := snd_aload_n rfl dX12_readBit_48
theorem sX12_readBit_49 {h0 : Hp_} : Snd 73 107 h0 (miT TbM) RX12 cX12_readBit 7 (some .int) 49 (i_getJ 11 33 52) := snd_getJ hl73 (fun hK ho hs hv kk => gf_X12_175 hK ho hs hv dX12_readBit_49 kk)
theorem sX12_readBit_52 {h0 : Hp_} : Snd 73 107 h0 (miT TbM) RX12 cX12_readBit 7 (some .int) 52 (i_const 55 (vJ 65536)) := snd_ldc2 lc_X12_198 dX12_readBit_52
theorem sX12_readBit_55 {h0 : Hp_} : Snd 73 107 h0 (miT TbM) RX12 cX12_readBit 7 (some .int) 55 (i_iload 56 2) := snd_iload_n rfl dX12_readBit_55
theorem sX12_readBit_56 {h0 : Hp_} : Snd 73 107 h0 (miT TbM) RX12 cX12_readBit 7 (some .int) 56 (i_i2l 57) := snd_i2l dX12_readBit_56
theorem sX12_readBit_57 {h0 : Hp_} : Snd 73 107 h0 (miT TbM) RX12 cX12_readBit 7 (some .int) 57 (i_lmul 58) := snd_lmul dX12_readBit_57
theorem sX12_readBit_58 {h0 : Hp_} : Snd 73 107 h0 (miT TbM) RX12 cX12_readBit 7 (some .int) 58 (i_lsub 59) := snd_lsub dX12_readBit_58
theorem sX12_readBit_59 {h0 : Hp_} : Snd 73 107 h0 (miT TbM) RX12 cX12_readBit 7 (some .int) 59 (i_putJ 11 33 62) := snd_putJ hl73 (fun hK ho hs kk => pf_X12_175 hK ho hs dX12_readBit_59 kk)
theorem sX12_readBit_62 {h0 : Hp_} : Snd 73 107 h0 (miT TbM) RX12 cX12_readBit 7 (some .int) 62 (i_aload 63 0) := snd_aload_n rfl dX12_readBit_62
theorem sX12_readBit_63 {h0 : Hp_} : Snd 73 107 h0 (miT TbM) RX12 cX12_readBit 7 (some .int) 63 (i_getJ 11 32 66) := snd_getJ hl73 (fun hK ho hs hv kk => gf_X12_171 hK ho hs hv dX12_readBit_63 kk)
theorem sX12_readBit_66 {h0 : Hp_} : Snd 73 107 h0 (miT TbM) RX12 cX12_readBit 7 (some .int) 66 (i_const 69 (vJ 32768)) := snd_ldc2 lc_X12_169 dX12_readBit_66
theorem sX12_readBit_69 {h0 : Hp_} : Snd 73 107 h0 (miT TbM) RX12 cX12_readBit 7 (some .int) 69 (i_lcmp 70) := snd_lcmp dX12_readBit_69
theorem sX12_readBit_70 {h0 : Hp_} : Snd 73 107 h0 (miT TbM) RX12 cX12_readBit 7 (some .int) 70 (i_if_lt 73 80) := snd_if_lt dX12_readBit_70 rfl
theorem sX12_readBit_73 {h0 : Hp_} : Snd 73 107 h0 (miT TbM) RX12 cX12_readBit 7 (some .int) 73 (i_aload 74 0) := snd_aload_n rfl dX12_readBit_73
theorem sX12_readBit_74 {h0 : Hp_} : Snd 73 107 h0 (miT TbM) RX12 cX12_readBit 7 (some .int) 74 (i_getR 11 31 77) := snd_getR rfl (by decide) (by decide) (by decide) (fun hK ho hs hq kk => gf_X12_87 hK ho hs hq rfl dX12_readBit_74 kk)
theorem sX12_readBit_77 {h0 : Hp_} : Snd 73 107 h0 (miT TbM) RX12 cX12_readBit 7 (some .int) 77 (i_iload 78 1) := snd_iload_n rfl dX12_readBit_77
theorem sX12_readBit_78 {h0 : Hp_} : Snd 73 107 h0 (miT TbM) RX12 cX12_readBit 7 (some .int) 78 (i_iald 73 107 79) := snd_iald dX12_readBit_78
theorem sX12_readBit_79 {h0 : Hp_} : Snd 73 107 h0 (miT TbM) RX12 cX12_readBit 7 (some .int) 79 (i_iret) := snd_iret dX12_readBit_79
theorem sX12_readBit_80 {h0 : Hp_} : Snd 73 107 h0 (miT TbM) RX12 cX12_readBit 7 (some .int) 80 (i_aload 81 0) := snd_aload_n rfl dX12_readBit_80
theorem sX12_readBit_81 {h0 : Hp_} : Snd 73 107 h0 (miT TbM) RX12 cX12_readBit 7 (some .int) 81 (i_getJ 11 32 84) := snd_getJ hl73 (fun hK ho hs hv kk => gf_X12_171 hK ho hs hv dX12_readBit_81 kk)
theorem sX12_readBit_84 {h0 : Hp_} : Snd 73 107 h0 (miT TbM) RX12 cX12_readBit 7 (some .int) 84 (i_iload 85 2) := snd_iload_n rfl dX12_readBit_84
theorem sX12_readBit_85 {h0 : Hp_} : Snd 73 107 h0 (miT TbM) RX12 cX12_readBit 7 (some .int) 85 (i_i2l 86) := snd_i2l dX12_readBit_85
theorem sX12_readBit_86 {h0 : Hp_} : Snd 73 107 h0 (miT TbM) RX12 cX12_readBit 7 (some .int) 86 (i_lcmp 87) := snd_lcmp dX12_readBit_86
theorem sX12_readBit_87 {h0 : Hp_} : Snd 73 107 h0 (miT TbM) RX12 cX12_readBit 7 (some .int) 87 (i_if_ge 90 94) := snd_if_ge dX12_readBit_87 rfl
theorem sX12_readBit_90 {h0 : Hp_} : Snd 73 107 h0 (miT TbM) RX12 cX12_readBit 7 (some .int) 90 (i_const 91 (vI 1)) := snd_iconst dX12_readBit_90
theorem sX12_readBit_91 {h0 : Hp_} : Snd 73 107 h0 (miT TbM) RX12 cX12_readBit 7 (some .int) 91 (i_goto 95) := snd_goto dX12_readBit_91 rfl
theorem sX12_readBit_94 {h0 : Hp_} : Snd 73 107 h0 (miT TbM) RX12 cX12_readBit 7 (some .int) 94 (i_const 95 (vI 0)) := snd_iconst dX12_readBit_94
theorem sX12_readBit_95 {h0 : Hp_} : Snd 73 107 h0 (miT TbM) RX12 cX12_readBit 7 (some .int) 95 (i_istore 97 4) := snd_istore (by decide) dX12_readBit_95
theorem sX12_readBit_97 {h0 : Hp_} : Snd 73 107 h0 (miT TbM) RX12 cX12_readBit 7 (some .int) 97 (i_iload 98 3) := snd_iload_n rfl dX12_readBit_97
theorem sX12_readBit_98 {h0 : Hp_} : Snd 73 107 h0 (miT TbM) RX12 cX12_readBit 7 (some .int) 98 (i_if_eq 101 114) := snd_if_eq dX12_readBit_98 rfl
theorem sX12_readBit_101 {h0 : Hp_} : Snd 73 107 h0 (miT TbM) RX12 cX12_readBit 7 (some .int) 101 (i_iload 103 4) := snd_iload dX12_readBit_101
theorem sX12_readBit_103 {h0 : Hp_} : Snd 73 107 h0 (miT TbM) RX12 cX12_readBit 7 (some .int) 103 (i_if_ne 106 110) := snd_if_ne dX12_readBit_103 rfl
theorem sX12_readBit_106 {h0 : Hp_} : Snd 73 107 h0 (miT TbM) RX12 cX12_readBit 7 (some .int) 106 (i_const 107 (vI 1)) := snd_iconst dX12_readBit_106
theorem sX12_readBit_107 {h0 : Hp_} : Snd 73 107 h0 (miT TbM) RX12 cX12_readBit 7 (some .int) 107 (i_goto 116) := snd_goto dX12_readBit_107 rfl
theorem sX12_readBit_110 {h0 : Hp_} : Snd 73 107 h0 (miT TbM) RX12 cX12_readBit 7 (some .int) 110 (i_const 111 (vI 0)) := snd_iconst dX12_readBit_110
theorem sX12_readBit_111 {h0 : Hp_} : Snd 73 107 h0 (miT TbM) RX12 cX12_readBit 7 (some .int) 111 (i_goto 116) := snd_goto dX12_readBit_111 rfl
theorem sX12_readBit_114 {h0 : Hp_} : Snd 73 107 h0 (miT TbM) RX12 cX12_readBit 7 (some .int) 114 (i_iload 116 4) := snd_iload dX12_readBit_114
theorem sX12_readBit_116 {h0 : Hp_} : Snd 73 107 h0 (miT TbM) RX12 cX12_readBit 7 (some .int) 116 (i_istore 118 5) := snd_istore (by decide) dX12_readBit_116
theorem sX12_readBit_118 {h0 : Hp_} : Snd 73 107 h0 (miT TbM) RX12 cX12_readBit 7 (some .int) 118 (i_iload 120 5) := snd_iload dX12_readBit_118
theorem sX12_readBit_120 {h0 : Hp_} : Snd 73 107 h0 (miT TbM) RX12 cX12_readBit 7 (some .int) 120 (i_if_eq 123 134) := snd_if_eq dX12_readBit_120 rfl
theorem sX12_readBit_123 {h0 : Hp_} : Snd 73 107 h0 (miT TbM) RX12 cX12_readBit 7 (some .int) 123 (i_const 124 (vI 1)) := snd_iconst dX12_readBit_123
theorem sX12_readBit_124 {h0 : Hp_} : Snd 73 107 h0 (miT TbM) RX12 cX12_readBit 7 (some .int) 124 (i_aload 125 0) := snd_aload_n rfl dX12_readBit_124
theorem sX12_readBit_125 {h0 : Hp_} : Snd 73 107 h0 (miT TbM) RX12 cX12_readBit 7 (some .int) 125 (i_getR 11 31 128) := snd_getR rfl (by decide) (by decide) (by decide) (fun hK ho hs hq kk => gf_X12_87 hK ho hs hq rfl dX12_readBit_125 kk)
theorem sX12_readBit_128 {h0 : Hp_} : Snd 73 107 h0 (miT TbM) RX12 cX12_readBit 7 (some .int) 128 (i_iload 129 1) := snd_iload_n rfl dX12_readBit_128
theorem sX12_readBit_129 {h0 : Hp_} : Snd 73 107 h0 (miT TbM) RX12 cX12_readBit 7 (some .int) 129 (i_iald 73 107 130) := snd_iald dX12_readBit_129
theorem sX12_readBit_130 {h0 : Hp_} : Snd 73 107 h0 (miT TbM) RX12 cX12_readBit 7 (some .int) 130 (i_isub 131) := snd_isub dX12_readBit_130
theorem sX12_readBit_131 {h0 : Hp_} : Snd 73 107 h0 (miT TbM) RX12 cX12_readBit 7 (some .int) 131 (i_goto 140) := snd_goto dX12_readBit_131 rfl
theorem sX12_readBit_134 {h0 : Hp_} : Snd 73 107 h0 (miT TbM) RX12 cX12_readBit 7 (some .int) 134 (i_aload 135 0) := snd_aload_n rfl dX12_readBit_134
theorem sX12_readBit_135 {h0 : Hp_} : Snd 73 107 h0 (miT TbM) RX12 cX12_readBit 7 (some .int) 135 (i_getR 11 31 138) := snd_getR rfl (by decide) (by decide) (by decide) (fun hK ho hs hq kk => gf_X12_87 hK ho hs hq rfl dX12_readBit_135 kk)
theorem sX12_readBit_138 {h0 : Hp_} : Snd 73 107 h0 (miT TbM) RX12 cX12_readBit 7 (some .int) 138 (i_iload 139 1) := snd_iload_n rfl dX12_readBit_138
theorem sX12_readBit_139 {h0 : Hp_} : Snd 73 107 h0 (miT TbM) RX12 cX12_readBit 7 (some .int) 139 (i_iald 73 107 140) := snd_iald dX12_readBit_139
theorem sX12_readBit_140 {h0 : Hp_} : Snd 73 107 h0 (miT TbM) RX12 cX12_readBit 7 (some .int) 140 (i_istore 142 6) := snd_istore (by decide) dX12_readBit_140
theorem sX12_readBit_142 {h0 : Hp_} : Snd 73 107 h0 (miT TbM) RX12 cX12_readBit 7 (some .int) 142 (i_aload 143 0) := snd_aload_n rfl dX12_readBit_142
theorem sX12_readBit_143 {h0 : Hp_} : Snd 73 107 h0 (miT TbM) RX12 cX12_readBit 7 (some .int) 143 (i_iload 144 3) := snd_iload_n rfl dX12_readBit_143
theorem sX12_readBit_144 {h0 : Hp_} : Snd 73 107 h0 (miT TbM) RX12 cX12_readBit 7 (some .int) 144 (i_if_eq 147 152) := snd_if_eq dX12_readBit_144 rfl
theorem sX12_readBit_147 {h0 : Hp_} : Snd 73 107 h0 (miT TbM) RX12 cX12_readBit 7 (some .int) 147 (i_iload 148 2) := snd_iload_n rfl dX12_readBit_147
theorem sX12_readBit_148 {h0 : Hp_} : Snd 73 107 h0 (miT TbM) RX12 cX12_readBit 7 (some .int) 148 (i_i2l 149) := snd_i2l dX12_readBit_148
theorem sX12_readBit_149 {h0 : Hp_} : Snd 73 107 h0 (miT TbM) RX12 cX12_readBit 7 (some .int) 149 (i_goto 156) := snd_goto dX12_readBit_149 rfl
theorem sX12_readBit_152 {h0 : Hp_} : Snd 73 107 h0 (miT TbM) RX12 cX12_readBit 7 (some .int) 152 (i_aload 153 0) := snd_aload_n rfl dX12_readBit_152
theorem sX12_readBit_153 {h0 : Hp_} : Snd 73 107 h0 (miT TbM) RX12 cX12_readBit 7 (some .int) 153 (i_getJ 11 32 156) := snd_getJ hl73 (fun hK ho hs hv kk => gf_X12_171 hK ho hs hv dX12_readBit_153 kk)
theorem sX12_readBit_156 {h0 : Hp_} : Snd 73 107 h0 (miT TbM) RX12 cX12_readBit 7 (some .int) 156 (i_putJ 11 32 159) := snd_putJ hl73 (fun hK ho hs kk => pf_X12_171 hK ho hs dX12_readBit_156 kk)
theorem sX12_readBit_159 {h0 : Hp_} : Snd 73 107 h0 (miT TbM) RX12 cX12_readBit 7 (some .int) 159 (i_aload 160 0) := snd_aload_n rfl dX12_readBit_159
theorem sX12_readBit_160 {h0 : Hp_} : Snd 73 107 h0 (miT TbM) RX12 cX12_readBit 7 (some .int) 160 (i_iload 161 1) := snd_iload_n rfl dX12_readBit_160
theorem sX12_readBit_161 {h0 : Hp_} : Snd 73 107 h0 (miT TbM) RX12 cX12_readBit 7 (some .int) 161 (i_iload 163 5) := snd_iload dX12_readBit_161
theorem sX12_readBit_163 {h0 : Hp_} : Snd 73 107 h0 (miT TbM) RX12 cX12_readBit 7 (some .int) 163 (i_cV2 25 11 166) := snd_cV2 (fun hK hd hC ho hs h6 h7 h8 kk => iv_X12_189 hK (mcM_25 hC) ho hs ⟨hd, by show _ ≤ 40 * (_ + 1); omega⟩ (Nat.le_refl _) h6 h7 h8 ⟨Nat.le_refl _, Nat.le_refl _⟩ dX12_readBit_163 kk)
theorem sX12_readBit_166 {h0 : Hp_} : Snd 73 107 h0 (miT TbM) RX12 cX12_readBit 7 (some .int) 166 (i_aload 167 0) := snd_aload_n rfl dX12_readBit_166
theorem sX12_readBit_167 {h0 : Hp_} : Snd 73 107 h0 (miT TbM) RX12 cX12_readBit 7 (some .int) 167 (i_getJ 11 32 170) := snd_getJ hl73 (fun hK ho hs hv kk => gf_X12_171 hK ho hs hv dX12_readBit_167 kk)
theorem sX12_readBit_170 {h0 : Hp_} : Snd 73 107 h0 (miT TbM) RX12 cX12_readBit 7 (some .int) 170 (i_const 173 (vJ 32768)) := snd_ldc2 lc_X12_169 dX12_readBit_170
theorem sX12_readBit_173 {h0 : Hp_} : Snd 73 107 h0 (miT TbM) RX12 cX12_readBit 7 (some .int) 173 (i_lcmp 174) := snd_lcmp dX12_readBit_173
theorem sX12_readBit_174 {h0 : Hp_} : Snd 73 107 h0 (miT TbM) RX12 cX12_readBit 7 (some .int) 174 (i_if_ge 177 225) := snd_if_ge dX12_readBit_174 rfl
theorem sX12_readBit_177 {h0 : Hp_} : Snd 73 107 h0 (miT TbM) RX12 cX12_readBit 7 (some .int) 177 (i_aload 178 0) := snd_aload_n rfl dX12_readBit_177
theorem sX12_readBit_178 {h0 : Hp_} : Snd 73 107 h0 (miT TbM) RX12 cX12_readBit 7 (some .int) 178 (i_getI 11 34 181) := snd_getI hl73 (fun hK ho hs hv kk => gf_X12_178 hK ho hs hv dX12_readBit_178 kk)
theorem sX12_readBit_181 {h0 : Hp_} : Snd 73 107 h0 (miT TbM) RX12 cX12_readBit 7 (some .int) 181 (i_if_ne 184 188) := snd_if_ne dX12_readBit_181 rfl
theorem sX12_readBit_184 {h0 : Hp_} : Snd 73 107 h0 (miT TbM) RX12 cX12_readBit 7 (some .int) 184 (i_aload 185 0) := snd_aload_n rfl dX12_readBit_184
theorem sX12_readBit_185 {h0 : Hp_} : Snd 73 107 h0 (miT TbM) RX12 cX12_readBit 7 (some .int) 185 (i_cV0 40 11 188) := snd_cV0 (fun hK hd hC ho hs h6 h7 h8 kk => iv_X12_216 hK (mcM_40 hC) ho hs ⟨hd, by show _ ≤ 40 * (_ + 1); omega⟩ (Nat.le_refl _) h6 h7 h8 ⟨Nat.le_refl _, Nat.le_refl _⟩ dX12_readBit_185 kk)
theorem sX12_readBit_188 {h0 : Hp_} : Snd 73 107 h0 (miT TbM) RX12 cX12_readBit 7 (some .int) 188 (i_aload 189 0) := snd_aload_n rfl dX12_readBit_188
theorem sX12_readBit_189 {h0 : Hp_} : Snd 73 107 h0 (miT TbM) RX12 cX12_readBit 7 (some .int) 189 (i_const 192 (vJ 2)) := snd_ldc2 lc_X12_193 dX12_readBit_189
theorem sX12_readBit_192 {h0 : Hp_} : Snd 73 107 h0 (miT TbM) RX12 cX12_readBit 7 (some .int) 192 (i_aload 193 0) := snd_aload_n rfl dX12_readBit_192
theorem sX12_readBit_193 {h0 : Hp_} : Snd 73 107 h0 (miT TbM) RX12 cX12_readBit 7 (some .int) 193 (i_getJ 11 32 196) := snd_getJ hl73 (fun hK ho hs hv kk => gf_X12_171 hK ho hs hv dX12_readBit_193 kk)
theorem sX12_readBit_196 {h0 : Hp_} : Snd 73 107 h0 (miT TbM) RX12 cX12_readBit 7 (some .int) 196 (i_lmul 197) := snd_lmul dX12_readBit_196
theorem sX12_readBit_197 {h0 : Hp_} : Snd 73 107 h0 (miT TbM) RX12 cX12_readBit 7 (some .int) 197 (i_putJ 11 32 200) := snd_putJ hl73 (fun hK ho hs kk => pf_X12_171 hK ho hs dX12_readBit_197 kk)
theorem sX12_readBit_200 {h0 : Hp_} : Snd 73 107 h0 (miT TbM) RX12 cX12_readBit 7 (some .int) 200 (i_aload 201 0) := snd_aload_n rfl dX12_readBit_200
theorem sX12_readBit_201 {h0 : Hp_} : Snd 73 107 h0 (miT TbM) RX12 cX12_readBit 7 (some .int) 201 (i_const 204 (vJ 2)) := snd_ldc2 lc_X12_193 dX12_readBit_201
theorem sX12_readBit_204 {h0 : Hp_} : Snd 73 107 h0 (miT TbM) RX12 cX12_readBit 7 (some .int) 204 (i_aload 205 0) := snd_aload_n rfl dX12_readBit_204
theorem sX12_readBit_205 {h0 : Hp_} : Snd 73 107 h0 (miT TbM) RX12 cX12_readBit 7 (some .int) 205 (i_getJ 11 33 208) := snd_getJ hl73 (fun hK ho hs hv kk => gf_X12_175 hK ho hs hv dX12_readBit_205 kk)
theorem sX12_readBit_208 {h0 : Hp_} : Snd 73 107 h0 (miT TbM) RX12 cX12_readBit 7 (some .int) 208 (i_lmul 209) := snd_lmul dX12_readBit_208
theorem sX12_readBit_209 {h0 : Hp_} : Snd 73 107 h0 (miT TbM) RX12 cX12_readBit 7 (some .int) 209 (i_putJ 11 33 212) := snd_putJ hl73 (fun hK ho hs kk => pf_X12_175 hK ho hs dX12_readBit_209 kk)
theorem sX12_readBit_212 {h0 : Hp_} : Snd 73 107 h0 (miT TbM) RX12 cX12_readBit 7 (some .int) 212 (i_aload 213 0) := snd_aload_n rfl dX12_readBit_212
theorem sX12_readBit_213 {h0 : Hp_} : Snd 73 107 h0 (miT TbM) RX12 cX12_readBit 7 (some .int) 213 (i_dup 214) := snd_dup dX12_readBit_213
theorem sX12_readBit_214 {h0 : Hp_} : Snd 73 107 h0 (miT TbM) RX12 cX12_readBit 7 (some .int) 214 (i_getI 11 34 217) := snd_getI hl73 (fun hK ho hs hv kk => gf_X12_178 hK ho hs hv dX12_readBit_214 kk)
theorem sX12_readBit_217 {h0 : Hp_} : Snd 73 107 h0 (miT TbM) RX12 cX12_readBit 7 (some .int) 217 (i_const 218 (vI 1)) := snd_iconst dX12_readBit_217
theorem sX12_readBit_218 {h0 : Hp_} : Snd 73 107 h0 (miT TbM) RX12 cX12_readBit 7 (some .int) 218 (i_isub 219) := snd_isub dX12_readBit_218
theorem sX12_readBit_219 {h0 : Hp_} : Snd 73 107 h0 (miT TbM) RX12 cX12_readBit 7 (some .int) 219 (i_putI 11 34 222) := snd_putI hl73 (fun hK ho hs kk => pf_X12_178 hK ho hs dX12_readBit_219 kk)
theorem sX12_readBit_222 {h0 : Hp_} : Snd 73 107 h0 (miT TbM) RX12 cX12_readBit 7 (some .int) 222 (i_goto 166) := snd_goto dX12_readBit_222 rfl
theorem sX12_readBit_225 {h0 : Hp_} : Snd 73 107 h0 (miT TbM) RX12 cX12_readBit 7 (some .int) 225 (i_iload 227 6) := snd_iload dX12_readBit_225
theorem sX12_readBit_227 {h0 : Hp_} : Snd 73 107 h0 (miT TbM) RX12 cX12_readBit 7 (some .int) 227 (i_iret) := snd_iret dX12_readBit_227
theorem kX12_readBit {h0 : Hp_} : raA (okI 73 107 h0 (miT TbM) (yX12_readBit, cX12_readBit, 7, (some .int))) tX12_readBit := (raA_br (raA_br (raA_br (raA_br (raA_br (raA_br (raA_leaf sX12_readBit_0) (raA_br (raA_leaf sX12_readBit_1) (raA_leaf sX12_readBit_4))) (raA_br (raA_br (raA_leaf sX12_readBit_5) (raA_leaf sX12_readBit_8)) (raA_br (raA_leaf sX12_readBit_9) (raA_leaf sX12_readBit_10)))) (raA_br (raA_br (raA_br (raA_leaf sX12_readBit_11) (raA_leaf sX12_readBit_12)) (raA_br (raA_leaf sX12_readBit_13) (raA_leaf sX12_readBit_14))) (raA_br (raA_br (raA_leaf sX12_readBit_17) (raA_leaf sX12_readBit_18)) (raA_br (raA_leaf sX12_readBit_19) (raA_leaf sX12_readBit_20))))) (raA_br (raA_br (raA_br (raA_br (raA_leaf sX12_readBit_23) (raA_leaf sX12_readBit_24)) (raA_br (raA_leaf sX12_readBit_27) (raA_leaf sX12_readBit_30))) (raA_br (raA_br (raA_leaf sX12_readBit_31) (raA_leaf sX12_readBit_32)) (raA_br (raA_leaf sX12_readBit_33) (raA_leaf sX12_readBit_34)))) (raA_br (raA_br (raA_br (raA_leaf sX12_readBit_37) (raA_leaf sX12_readBit_38)) (raA_br (raA_leaf sX12_readBit_41) (raA_leaf sX12_readBit_42))) (raA_br (raA_br (raA_leaf sX12_readBit_43) (raA_leaf sX12_readBit_44)) (raA_br (raA_leaf sX12_readBit_47) (raA_leaf sX12_readBit_48)))))) (raA_br (raA_br (raA_br (raA_br (raA_br (raA_leaf sX12_readBit_49) (raA_leaf sX12_readBit_52)) (raA_br (raA_leaf sX12_readBit_55) (raA_leaf sX12_readBit_56))) (raA_br (raA_br (raA_leaf sX12_readBit_57) (raA_leaf sX12_readBit_58)) (raA_br (raA_leaf sX12_readBit_59) (raA_leaf sX12_readBit_62)))) (raA_br (raA_br (raA_br (raA_leaf sX12_readBit_63) (raA_leaf sX12_readBit_66)) (raA_br (raA_leaf sX12_readBit_69) (raA_leaf sX12_readBit_70))) (raA_br (raA_br (raA_leaf sX12_readBit_73) (raA_leaf sX12_readBit_74)) (raA_br (raA_leaf sX12_readBit_77) (raA_leaf sX12_readBit_78))))) (raA_br (raA_br (raA_br (raA_br (raA_leaf sX12_readBit_79) (raA_leaf sX12_readBit_80)) (raA_br (raA_leaf sX12_readBit_81) (raA_leaf sX12_readBit_84))) (raA_br (raA_br (raA_leaf sX12_readBit_85) (raA_leaf sX12_readBit_86)) (raA_br (raA_leaf sX12_readBit_87) (raA_leaf sX12_readBit_90)))) (raA_br (raA_br (raA_br (raA_leaf sX12_readBit_91) (raA_leaf sX12_readBit_94)) (raA_br (raA_leaf sX12_readBit_95) (raA_leaf sX12_readBit_97))) (raA_br (raA_br (raA_leaf sX12_readBit_98) (raA_leaf sX12_readBit_101)) (raA_br (raA_leaf sX12_readBit_103) (raA_leaf sX12_readBit_106))))))) (raA_br (raA_br (raA_br (raA_br (raA_br (raA_leaf sX12_readBit_107) (raA_br (raA_leaf sX12_readBit_110) (raA_leaf sX12_readBit_111))) (raA_br (raA_br (raA_leaf sX12_readBit_114) (raA_leaf sX12_readBit_116)) (raA_br (raA_leaf sX12_readBit_118) (raA_leaf sX12_readBit_120)))) (raA_br (raA_br (raA_br (raA_leaf sX12_readBit_123) (raA_leaf sX12_readBit_124)) (raA_br (raA_leaf sX12_readBit_125) (raA_leaf sX12_readBit_128))) (raA_br (raA_br (raA_leaf sX12_readBit_129) (raA_leaf sX12_readBit_130)) (raA_br (raA_leaf sX12_readBit_131) (raA_leaf sX12_readBit_134))))) (raA_br (raA_br (raA_br (raA_br (raA_leaf sX12_readBit_135) (raA_leaf sX12_readBit_138)) (raA_br (raA_leaf sX12_readBit_139) (raA_leaf sX12_readBit_140))) (raA_br (raA_br (raA_leaf sX12_readBit_142) (raA_leaf sX12_readBit_143)) (raA_br (raA_leaf sX12_readBit_144) (raA_leaf sX12_readBit_147)))) (raA_br (raA_br (raA_br (raA_leaf sX12_readBit_148) (raA_leaf sX12_readBit_149)) (raA_br (raA_leaf sX12_readBit_152) (raA_leaf sX12_readBit_153))) (raA_br (raA_br (raA_leaf sX12_readBit_156) (raA_leaf sX12_readBit_159)) (raA_br (raA_leaf sX12_readBit_160) (raA_leaf sX12_readBit_161)))))) (raA_br (raA_br (raA_br (raA_br (raA_br (raA_leaf sX12_readBit_163) (raA_leaf sX12_readBit_166)) (raA_br (raA_leaf sX12_readBit_167) (raA_leaf sX12_readBit_170))) (raA_br (raA_br (raA_leaf sX12_readBit_173) (raA_leaf sX12_readBit_174)) (raA_br (raA_leaf sX12_readBit_177) (raA_leaf sX12_readBit_178)))) (raA_br (raA_br (raA_br (raA_leaf sX12_readBit_181) (raA_leaf sX12_readBit_184)) (raA_br (raA_leaf sX12_readBit_185) (raA_leaf sX12_readBit_188))) (raA_br (raA_br (raA_leaf sX12_readBit_189) (raA_leaf sX12_readBit_192)) (raA_br (raA_leaf sX12_readBit_193) (raA_leaf sX12_readBit_196))))) (raA_br (raA_br (raA_br (raA_br (raA_leaf sX12_readBit_197) (raA_leaf sX12_readBit_200)) (raA_br (raA_leaf sX12_readBit_201) (raA_leaf sX12_readBit_204))) (raA_br (raA_br (raA_leaf sX12_readBit_205) (raA_leaf sX12_readBit_208)) (raA_br (raA_leaf sX12_readBit_209) (raA_leaf sX12_readBit_212)))) (raA_br (raA_br (raA_br (raA_leaf sX12_readBit_213) (raA_leaf sX12_readBit_214)) (raA_br (raA_leaf sX12_readBit_217) (raA_leaf sX12_readBit_218))) (raA_br (raA_br (raA_leaf sX12_readBit_219) (raA_leaf sX12_readBit_222)) (raA_br (raA_leaf sX12_readBit_225) (raA_leaf sX12_readBit_227))))))))
theorem sX12_refine_0 {h0 : Hp_} : Snd 73 107 h0 (miT TbM) RX12 cX12_refine 6 none 0 (i_iload 1 1) := snd_iload_n rfl dX12_refine_0
theorem sX12_refine_1 {h0 : Hp_} : Snd 73 107 h0 (miT TbM) RX12 cX12_refine 6 none 1 (i_iload 2 2) := snd_iload_n rfl dX12_refine_1
theorem sX12_refine_2 {h0 : Hp_} : Snd 73 107 h0 (miT TbM) RX12 cX12_refine 6 none 2 (i_cS2 37 5) := snd_cS2 (fun hK hd hC h6 h7 h8 kk => iv_X12_234 hK (mcM_37 hC) ⟨hd, by show _ ≤ 40 * (_ + 1); omega⟩ (Nat.le_refl _) h6 h7 h8 ⟨Nat.le_refl _, Nat.le_refl _⟩ dX12_refine_2 kk)
theorem sX12_refine_5 {h0 : Hp_} : Snd 73 107 h0 (miT TbM) RX12 cX12_refine 6 none 5 (i_istore 6 3) := snd_istore_n rfl (by decide) dX12_refine_5
theorem sX12_refine_6 {h0 : Hp_} : Snd 73 107 h0 (miT TbM) RX12 cX12_refine 6 none 6 (i_aload 7 0) := snd_aload_n rfl dX12_refine_6
theorem sX12_refine_7 {h0 : Hp_} : Snd 73 107 h0 (miT TbM) RX12 cX12_refine 6 none 7 (i_iload 8 3) := snd_iload_n rfl dX12_refine_7
theorem sX12_refine_8 {h0 : Hp_} : Snd 73 107 h0 (miT TbM) RX12 cX12_refine 6 none 8 (i_cV1 20 11 11) := snd_cV1 (fun hK hd hC ho hs h6 h7 h8 kk => iv_X12_231 hK (mcM_20 hC) ho hs ⟨hd, by show _ ≤ 40 * (_ + 1); omega⟩ (Nat.le_refl _) h6 h7 h8 ⟨Nat.le_refl _, Nat.le_refl _⟩ dX12_refine_8 kk)
theorem sX12_refine_11 {h0 : Hp_} : Snd 73 107 h0 (miT TbM) RX12 cX12_refine 6 none 11 (i_if_eq 14 28) := snd_if_eq dX12_refine_11 rfl
theorem sX12_refine_14 {h0 : Hp_} : Snd 73 107 h0 (miT TbM) RX12 cX12_refine 6 none 14 (i_aload 15 0) := snd_aload_n rfl dX12_refine_14
theorem sX12_refine_15 {h0 : Hp_} : Snd 73 107 h0 (miT TbM) RX12 cX12_refine 6 none 15 (i_getR 11 24 18) := snd_getR rfl (by decide) (by decide) (by decide) (fun hK ho hs hq kk => gf_X12_78 hK ho hs hq rfl dX12_refine_15 kk)
theorem sX12_refine_18 {h0 : Hp_} : Snd 73 107 h0 (miT TbM) RX12 cX12_refine 6 none 18 (i_const 20 (vI 8)) := snd_bipush (by decide) dX12_refine_18
theorem sX12_refine_20 {h0 : Hp_} : Snd 73 107 h0 (miT TbM) RX12 cX12_refine 6 none 20 (i_iload 21 2) := snd_iload_n rfl dX12_refine_20
theorem sX12_refine_21 {h0 : Hp_} : Snd 73 107 h0 (miT TbM) RX12 cX12_refine 6 none 21 (i_imul 22) := snd_imul dX12_refine_21
theorem sX12_refine_22 {h0 : Hp_} : Snd 73 107 h0 (miT TbM) RX12 cX12_refine 6 none 22 (i_iload 23 1) := snd_iload_n rfl dX12_refine_22
theorem sX12_refine_23 {h0 : Hp_} : Snd 73 107 h0 (miT TbM) RX12 cX12_refine 6 none 23 (i_iadd 24) := snd_iadd dX12_refine_23
theorem sX12_refine_24 {h0 : Hp_} : Snd 73 107 h0 (miT TbM) RX12 cX12_refine 6 none 24 (i_zald 73 107 25) := snd_zald dX12_refine_24
theorem sX12_refine_25 {h0 : Hp_} : Snd 73 107 h0 (miT TbM) RX12 cX12_refine 6 none 25 (i_if_eq 28 29) := snd_if_eq dX12_refine_25 rfl
theorem sX12_refine_28 {h0 : Hp_} : Snd 73 107 h0 (miT TbM) RX12 cX12_refine 6 none 28 (i_vret) := snd_vret dX12_refine_28
theorem sX12_refine_29 {h0 : Hp_} : Snd 73 107 h0 (miT TbM) RX12 cX12_refine 6 none 29 (i_aload 30 0) := snd_aload_n rfl dX12_refine_29
theorem sX12_refine_30 {h0 : Hp_} : Snd 73 107 h0 (miT TbM) RX12 cX12_refine 6 none 30 (i_getR 11 25 33) := snd_getR rfl (by decide) (by decide) (by decide) (fun hK ho hs hq kk => gf_X12_81 hK ho hs hq rfl dX12_refine_30 kk)
theorem sX12_refine_33 {h0 : Hp_} : Snd 73 107 h0 (miT TbM) RX12 cX12_refine 6 none 33 (i_const 35 (vI 8)) := snd_bipush (by decide) dX12_refine_33
theorem sX12_refine_35 {h0 : Hp_} : Snd 73 107 h0 (miT TbM) RX12 cX12_refine 6 none 35 (i_iload 36 2) := snd_iload_n rfl dX12_refine_35
theorem sX12_refine_36 {h0 : Hp_} : Snd 73 107 h0 (miT TbM) RX12 cX12_refine 6 none 36 (i_imul 37) := snd_imul dX12_refine_36
theorem sX12_refine_37 {h0 : Hp_} : Snd 73 107 h0 (miT TbM) RX12 cX12_refine 6 none 37 (i_iload 38 1) := snd_iload_n rfl dX12_refine_37
theorem sX12_refine_38 {h0 : Hp_} : Snd 73 107 h0 (miT TbM) RX12 cX12_refine 6 none 38 (i_iadd 39) := snd_iadd dX12_refine_38
theorem sX12_refine_39 {h0 : Hp_} : Snd 73 107 h0 (miT TbM) RX12 cX12_refine 6 none 39 (i_zald 73 107 40) := snd_zald dX12_refine_39
theorem sX12_refine_40 {h0 : Hp_} : Snd 73 107 h0 (miT TbM) RX12 cX12_refine 6 none 40 (i_if_eq 43 48) := snd_if_eq dX12_refine_40 rfl
theorem sX12_refine_43 {h0 : Hp_} : Snd 73 107 h0 (miT TbM) RX12 cX12_refine 6 none 43 (i_const 45 (vI 16)) := snd_bipush (by decide) dX12_refine_43
theorem sX12_refine_45 {h0 : Hp_} : Snd 73 107 h0 (miT TbM) RX12 cX12_refine 6 none 45 (i_goto 75) := snd_goto dX12_refine_45 rfl
theorem sX12_refine_48 {h0 : Hp_} : Snd 73 107 h0 (miT TbM) RX12 cX12_refine 6 none 48 (i_aload 49 0) := snd_aload_n rfl dX12_refine_48
theorem sX12_refine_49 {h0 : Hp_} : Snd 73 107 h0 (miT TbM) RX12 cX12_refine 6 none 49 (i_iload 50 3) := snd_iload_n rfl dX12_refine_49
theorem sX12_refine_50 {h0 : Hp_} : Snd 73 107 h0 (miT TbM) RX12 cX12_refine 6 none 50 (i_cV1 22 11 53) := snd_cV1 (fun hK hd hC ho hs h6 h7 h8 kk => iv_X12_237 hK (mcM_22 hC) ho hs ⟨hd, by show _ ≤ 40 * (_ + 1); omega⟩ (Nat.le_refl _) h6 h7 h8 ⟨Nat.le_refl _, Nat.le_refl _⟩ dX12_refine_50 kk)
theorem sX12_refine_53 {h0 : Hp_} : Snd 73 107 h0 (miT TbM) RX12 cX12_refine 6 none 53 (i_aload 54 0) := snd_aload_n rfl dX12_refine_53
theorem sX12_refine_54 {h0 : Hp_} : Snd 73 107 h0 (miT TbM) RX12 cX12_refine 6 none 54 (i_iload 55 3) := snd_iload_n rfl dX12_refine_54
theorem sX12_refine_55 {h0 : Hp_} : Snd 73 107 h0 (miT TbM) RX12 cX12_refine 6 none 55 (i_cV1 21 11 58) := snd_cV1 (fun hK hd hC ho hs h6 h7 h8 kk => iv_X12_240 hK (mcM_21 hC) ho hs ⟨hd, by show _ ≤ 40 * (_ + 1); omega⟩ (Nat.le_refl _) h6 h7 h8 ⟨Nat.le_refl _, Nat.le_refl _⟩ dX12_refine_55 kk)
theorem sX12_refine_58 {h0 : Hp_} : Snd 73 107 h0 (miT TbM) RX12 cX12_refine 6 none 58 (i_iadd 59) := snd_iadd dX12_refine_58
theorem sX12_refine_59 {h0 : Hp_} : Snd 73 107 h0 (miT TbM) RX12 cX12_refine 6 none 59 (i_aload 60 0) := snd_aload_n rfl dX12_refine_59
theorem sX12_refine_60 {h0 : Hp_} : Snd 73 107 h0 (miT TbM) RX12 cX12_refine 6 none 60 (i_iload 61 3) := snd_iload_n rfl dX12_refine_60
theorem sX12_refine_61 {h0 : Hp_} : Snd 73 107 h0 (miT TbM) RX12 cX12_refine 6 none 61 (i_cV1 0 11 64) := snd_cV1 (fun hK hd hC ho hs h6 h7 h8 kk => iv_X12_243 hK (mcM_0 hC) ho hs ⟨hd, by show _ ≤ 40 * (_ + 1); omega⟩ (Nat.le_refl _) h6 h7 h8 ⟨Nat.le_refl _, Nat.le_refl _⟩ dX12_refine_61 kk)
theorem sX12_refine_64 {h0 : Hp_} : Snd 73 107 h0 (miT TbM) RX12 cX12_refine 6 none 64 (i_iadd 65) := snd_iadd dX12_refine_64
theorem sX12_refine_65 {h0 : Hp_} : Snd 73 107 h0 (miT TbM) RX12 cX12_refine 6 none 65 (i_if_le 68 73) := snd_if_le dX12_refine_65 rfl
theorem sX12_refine_68 {h0 : Hp_} : Snd 73 107 h0 (miT TbM) RX12 cX12_refine 6 none 68 (i_const 70 (vI 15)) := snd_bipush (by decide) dX12_refine_68
theorem sX12_refine_70 {h0 : Hp_} : Snd 73 107 h0 (miT TbM) RX12 cX12_refine 6 none 70 (i_goto 75) := snd_goto dX12_refine_70 rfl
theorem sX12_refine_73 {h0 : Hp_} : Snd 73 107 h0 (miT TbM) RX12 cX12_refine 6 none 73 (i_const 75 (vI 14)) := snd_bipush (by decide) dX12_refine_73
theorem sX12_refine_75 {h0 : Hp_} : Snd 73 107 h0 (miT TbM) RX12 cX12_refine 6 none 75 (i_istore 77 4) := snd_istore (by decide) dX12_refine_75
theorem sX12_refine_77 {h0 : Hp_} : Snd 73 107 h0 (miT TbM) RX12 cX12_refine 6 none 77 (i_aload 78 0) := snd_aload_n rfl dX12_refine_77
theorem sX12_refine_78 {h0 : Hp_} : Snd 73 107 h0 (miT TbM) RX12 cX12_refine 6 none 78 (i_iload 80 4) := snd_iload dX12_refine_78
theorem sX12_refine_80 {h0 : Hp_} : Snd 73 107 h0 (miT TbM) RX12 cX12_refine 6 none 80 (i_aload 81 0) := snd_aload_n rfl dX12_refine_80
theorem sX12_refine_81 {h0 : Hp_} : Snd 73 107 h0 (miT TbM) RX12 cX12_refine 6 none 81 (i_iload 82 1) := snd_iload_n rfl dX12_refine_81
theorem sX12_refine_82 {h0 : Hp_} : Snd 73 107 h0 (miT TbM) RX12 cX12_refine 6 none 82 (i_iload 83 2) := snd_iload_n rfl dX12_refine_82
theorem sX12_refine_83 {h0 : Hp_} : Snd 73 107 h0 (miT TbM) RX12 cX12_refine 6 none 83 (i_cV2 5 11 86) := snd_cV2 (fun hK hd hC ho hs h6 h7 h8 kk => iv_X12_264 hK (mcM_5 hC) ho hs ⟨hd, by show _ ≤ 40 * (_ + 1); omega⟩ (Nat.le_refl _) h6 h7 h8 ⟨Nat.le_refl _, Nat.le_refl _⟩ dX12_refine_83 kk)
theorem sX12_refine_86 {h0 : Hp_} : Snd 73 107 h0 (miT TbM) RX12 cX12_refine 6 none 86 (i_cV2 9 11 89) := snd_cV2 (fun hK hd hC ho hs h6 h7 h8 kk => iv_X12_258 hK (mcM_9 hC) ho hs ⟨hd, by show _ ≤ 40 * (_ + 1); omega⟩ (Nat.le_refl _) h6 h7 h8 ⟨Nat.le_refl _, Nat.le_refl _⟩ dX12_refine_86 kk)
theorem sX12_refine_89 {h0 : Hp_} : Snd 73 107 h0 (miT TbM) RX12 cX12_refine 6 none 89 (i_istore 91 5) := snd_istore (by decide) dX12_refine_89
theorem sX12_refine_91 {h0 : Hp_} : Snd 73 107 h0 (miT TbM) RX12 cX12_refine 6 none 91 (i_aload 92 0) := snd_aload_n rfl dX12_refine_91
theorem sX12_refine_92 {h0 : Hp_} : Snd 73 107 h0 (miT TbM) RX12 cX12_refine 6 none 92 (i_getR 11 25 95) := snd_getR rfl (by decide) (by decide) (by decide) (fun hK ho hs hq kk => gf_X12_81 hK ho hs hq rfl dX12_refine_92 kk)
theorem sX12_refine_95 {h0 : Hp_} : Snd 73 107 h0 (miT TbM) RX12 cX12_refine 6 none 95 (i_const 97 (vI 8)) := snd_bipush (by decide) dX12_refine_95
theorem sX12_refine_97 {h0 : Hp_} : Snd 73 107 h0 (miT TbM) RX12 cX12_refine 6 none 97 (i_iload 98 2) := snd_iload_n rfl dX12_refine_97
theorem sX12_refine_98 {h0 : Hp_} : Snd 73 107 h0 (miT TbM) RX12 cX12_refine 6 none 98 (i_imul 99) := snd_imul dX12_refine_98
theorem sX12_refine_99 {h0 : Hp_} : Snd 73 107 h0 (miT TbM) RX12 cX12_refine 6 none 99 (i_iload 100 1) := snd_iload_n rfl dX12_refine_99
theorem sX12_refine_100 {h0 : Hp_} : Snd 73 107 h0 (miT TbM) RX12 cX12_refine 6 none 100 (i_iadd 101) := snd_iadd dX12_refine_100
theorem sX12_refine_101 {h0 : Hp_} : Snd 73 107 h0 (miT TbM) RX12 cX12_refine 6 none 101 (i_const 102 (vI 1)) := snd_iconst dX12_refine_101
theorem sX12_refine_102 {h0 : Hp_} : Snd 73 107 h0 (miT TbM) RX12 cX12_refine 6 none 102 (i_zast 73 107 103) := snd_zast dX12_refine_102
theorem sX12_refine_103 {h0 : Hp_} : Snd 73 107 h0 (miT TbM) RX12 cX12_refine 6 none 103 (i_aload 104 0) := snd_aload_n rfl dX12_refine_103
theorem sX12_refine_104 {h0 : Hp_} : Snd 73 107 h0 (miT TbM) RX12 cX12_refine 6 none 104 (i_getI 11 29 107) := snd_getI hl73 (fun hK ho hs hv kk => gf_X12_163 hK ho hs hv dX12_refine_104 kk)
theorem sX12_refine_107 {h0 : Hp_} : Snd 73 107 h0 (miT TbM) RX12 cX12_refine 6 none 107 (i_const 108 (vI 1)) := snd_iconst dX12_refine_107
theorem sX12_refine_108 {h0 : Hp_} : Snd 73 107 h0 (miT TbM) RX12 cX12_refine 6 none 108 (i_icmp_ne 111 141) := snd_icmp_ne dX12_refine_108 rfl
theorem sX12_refine_111 {h0 : Hp_} : Snd 73 107 h0 (miT TbM) RX12 cX12_refine 6 none 111 (i_aload 112 0) := snd_aload_n rfl dX12_refine_111
theorem sX12_refine_112 {h0 : Hp_} : Snd 73 107 h0 (miT TbM) RX12 cX12_refine 6 none 112 (i_getR 11 13 115) := snd_getR rfl (by decide) (by decide) (by decide) (fun hK ho hs hq kk => gf_X12_47 hK ho hs hq rfl dX12_refine_112 kk)
theorem sX12_refine_115 {h0 : Hp_} : Snd 73 107 h0 (miT TbM) RX12 cX12_refine 6 none 115 (i_aload 116 0) := snd_aload_n rfl dX12_refine_115
theorem sX12_refine_116 {h0 : Hp_} : Snd 73 107 h0 (miT TbM) RX12 cX12_refine 6 none 116 (i_iload 117 1) := snd_iload_n rfl dX12_refine_116
theorem sX12_refine_117 {h0 : Hp_} : Snd 73 107 h0 (miT TbM) RX12 cX12_refine 6 none 117 (i_iload 118 2) := snd_iload_n rfl dX12_refine_117
theorem sX12_refine_118 {h0 : Hp_} : Snd 73 107 h0 (miT TbM) RX12 cX12_refine 6 none 118 (i_cV2 7 11 121) := snd_cV2 (fun hK hd hC ho hs h6 h7 h8 kk => iv_X12_249 hK (mcM_7 hC) ho hs ⟨hd, by show _ ≤ 40 * (_ + 1); omega⟩ (Nat.le_refl _) h6 h7 h8 ⟨Nat.le_refl _, Nat.le_refl _⟩ dX12_refine_118 kk)
theorem sX12_refine_121 {h0 : Hp_} : Snd 73 107 h0 (miT TbM) RX12 cX12_refine 6 none 121 (i_aload 122 0) := snd_aload_n rfl dX12_refine_121
theorem sX12_refine_122 {h0 : Hp_} : Snd 73 107 h0 (miT TbM) RX12 cX12_refine 6 none 122 (i_getR 11 13 125) := snd_getR rfl (by decide) (by decide) (by decide) (fun hK ho hs hq kk => gf_X12_47 hK ho hs hq rfl dX12_refine_122 kk)
theorem sX12_refine_125 {h0 : Hp_} : Snd 73 107 h0 (miT TbM) RX12 cX12_refine 6 none 125 (i_aload 126 0) := snd_aload_n rfl dX12_refine_125
theorem sX12_refine_126 {h0 : Hp_} : Snd 73 107 h0 (miT TbM) RX12 cX12_refine 6 none 126 (i_iload 127 1) := snd_iload_n rfl dX12_refine_126
theorem sX12_refine_127 {h0 : Hp_} : Snd 73 107 h0 (miT TbM) RX12 cX12_refine 6 none 127 (i_iload 128 2) := snd_iload_n rfl dX12_refine_127
theorem sX12_refine_128 {h0 : Hp_} : Snd 73 107 h0 (miT TbM) RX12 cX12_refine 6 none 128 (i_cV2 7 11 131) := snd_cV2 (fun hK hd hC ho hs h6 h7 h8 kk => iv_X12_249 hK (mcM_7 hC) ho hs ⟨hd, by show _ ≤ 40 * (_ + 1); omega⟩ (Nat.le_refl _) h6 h7 h8 ⟨Nat.le_refl _, Nat.le_refl _⟩ dX12_refine_128 kk)
theorem sX12_refine_131 {h0 : Hp_} : Snd 73 107 h0 (miT TbM) RX12 cX12_refine 6 none 131 (i_iald 73 107 132) := snd_iald dX12_refine_131
theorem sX12_refine_132 {h0 : Hp_} : Snd 73 107 h0 (miT TbM) RX12 cX12_refine 6 none 132 (i_iload 134 5) := snd_iload dX12_refine_132
theorem sX12_refine_134 {h0 : Hp_} : Snd 73 107 h0 (miT TbM) RX12 cX12_refine 6 none 134 (i_aload 135 0) := snd_aload_n rfl dX12_refine_134
theorem sX12_refine_135 {h0 : Hp_} : Snd 73 107 h0 (miT TbM) RX12 cX12_refine 6 none 135 (i_getI 11 27 138) := snd_getI hl73 (fun hK ho hs hv kk => gf_X12_252 hK ho hs hv dX12_refine_135 kk)
theorem sX12_refine_138 {h0 : Hp_} : Snd 73 107 h0 (miT TbM) RX12 cX12_refine 6 none 138 (i_ishl 139) := snd_ishl dX12_refine_138
theorem sX12_refine_139 {h0 : Hp_} : Snd 73 107 h0 (miT TbM) RX12 cX12_refine 6 none 139 (i_ior 140) := snd_ior dX12_refine_139
theorem sX12_refine_140 {h0 : Hp_} : Snd 73 107 h0 (miT TbM) RX12 cX12_refine 6 none 140 (i_iast 73 107 141) := snd_iast dX12_refine_140
theorem sX12_refine_141 {h0 : Hp_} : Snd 73 107 h0 (miT TbM) RX12 cX12_refine 6 none 141 (i_vret) := snd_vret dX12_refine_141
theorem kX12_refine {h0 : Hp_} : raA (okI 73 107 h0 (miT TbM) (yX12_refine, cX12_refine, 6, none)) tX12_refine := (raA_br (raA_br (raA_br (raA_br (raA_br (raA_br (raA_leaf sX12_refine_0) (raA_leaf sX12_refine_1)) (raA_br (raA_leaf sX12_refine_2) (raA_br (raA_leaf sX12_refine_5) (raA_leaf sX12_refine_6)))) (raA_br (raA_br (raA_leaf sX12_refine_7) (raA_leaf sX12_refine_8)) (raA_br (raA_leaf sX12_refine_11) (raA_br (raA_leaf sX12_refine_14) (raA_leaf sX12_refine_15))))) (raA_br (raA_br (raA_br (raA_leaf sX12_refine_18) (raA_leaf sX12_refine_20)) (raA_br (raA_leaf sX12_refine_21) (raA_br (raA_leaf sX12_refine_22) (raA_leaf sX12_refine_23)))) (raA_br (raA_br (raA_leaf sX12_refine_24) (raA_br (raA_leaf sX12_refine_25) (raA_leaf sX12_refine_28))) (raA_br (raA_leaf sX12_refine_29) (raA_br (raA_leaf sX12_refine_30) (raA_leaf sX12_refine_33)))))) (raA_br (raA_br (raA_br (raA_br (raA_leaf sX12_refine_35) (raA_leaf sX12_refine_36)) (raA_br (raA_leaf sX12_refine_37) (raA_br (raA_leaf sX12_refine_38) (raA_leaf sX12_refine_39)))) (raA_br (raA_br (raA_leaf sX12_refine_40) (raA_br (raA_leaf sX12_refine_43) (raA_leaf sX12_refine_45))) (raA_br (raA_leaf sX12_refine_48) (raA_br (raA_leaf sX12_refine_49) (raA_leaf sX12_refine_50))))) (raA_br (raA_br (raA_br (raA_leaf sX12_refine_53) (raA_leaf sX12_refine_54)) (raA_br (raA_leaf sX12_refine_55) (raA_br (raA_leaf sX12_refine_58) (raA_leaf sX12_refine_59)))) (raA_br (raA_br (raA_leaf sX12_refine_60) (raA_br (raA_leaf sX12_refine_61) (raA_leaf sX12_refine_64))) (raA_br (raA_leaf sX12_refine_65) (raA_br (raA_leaf sX12_refine_68) (raA_leaf sX12_refine_70))))))) (raA_br (raA_br (raA_br (raA_br (raA_br (raA_leaf sX12_refine_73) (raA_leaf sX12_refine_75)) (raA_br (raA_leaf sX12_refine_77) (raA_br (raA_leaf sX12_refine_78) (raA_leaf sX12_refine_80)))) (raA_br (raA_br (raA_leaf sX12_refine_81) (raA_leaf sX12_refine_82)) (raA_br (raA_leaf sX12_refine_83) (raA_br (raA_leaf sX12_refine_86) (raA_leaf sX12_refine_89))))) (raA_br (raA_br (raA_br (raA_leaf sX12_refine_91) (raA_leaf sX12_refine_92)) (raA_br (raA_leaf sX12_refine_95) (raA_br (raA_leaf sX12_refine_97) (raA_leaf sX12_refine_98)))) (raA_br (raA_br (raA_leaf sX12_refine_99) (raA_br (raA_leaf sX12_refine_100) (raA_leaf sX12_refine_101))) (raA_br (raA_leaf sX12_refine_102) (raA_br (raA_leaf sX12_refine_103) (raA_leaf sX12_refine_104)))))) (raA_br (raA_br (raA_br (raA_br (raA_leaf sX12_refine_107) (raA_leaf sX12_refine_108)) (raA_br (raA_leaf sX12_refine_111) (raA_br (raA_leaf sX12_refine_112) (raA_leaf sX12_refine_115)))) (raA_br (raA_br (raA_leaf sX12_refine_116) (raA_br (raA_leaf sX12_refine_117) (raA_leaf sX12_refine_118))) (raA_br (raA_leaf sX12_refine_121) (raA_br (raA_leaf sX12_refine_122) (raA_leaf sX12_refine_125))))) (raA_br (raA_br (raA_br (raA_leaf sX12_refine_126) (raA_leaf sX12_refine_127)) (raA_br (raA_leaf sX12_refine_128) (raA_br (raA_leaf sX12_refine_131) (raA_leaf sX12_refine_132)))) (raA_br (raA_br (raA_leaf sX12_refine_134) (raA_br (raA_leaf sX12_refine_135) (raA_leaf sX12_refine_138))) (raA_br (raA_leaf sX12_refine_139) (raA_br (raA_leaf sX12_refine_140) (raA_leaf sX12_refine_141))))))))
theorem sX12_rows_0 {h0 : Hp_} : Snd 73 107 h0 (miT TbM) RX12 cX12_rows 5 none 0 (i_const 1 (vI 0)) := snd_iconst dX12_rows_0
theorem sX12_rows_1 {h0 : Hp_} : Snd 73 107 h0 (miT TbM) RX12 cX12_rows 5 none 1 (i_istore 3 4) := snd_istore (by decide) dX12_rows_1
theorem sX12_rows_3 {h0 : Hp_} : Snd 73 107 h0 (miT TbM) RX12 cX12_rows 5 none 3 (i_iload 5 4) := snd_iload dX12_rows_3
theorem sX12_rows_5 {h0 : Hp_} : Snd 73 107 h0 (miT TbM) RX12 cX12_rows 5 none 5 (i_iload 6 2) := snd_iload_n rfl dX12_rows_5
theorem sX12_rows_6 {h0 : Hp_} : Snd 73 107 h0 (miT TbM) RX12 cX12_rows 5 none 6 (i_icmp_ge 9 27) := snd_icmp_ge dX12_rows_6 rfl
theorem sX12_rows_9 {h0 : Hp_} : Snd 73 107 h0 (miT TbM) RX12 cX12_rows 5 none 9 (i_aload 10 0) := snd_aload_n rfl dX12_rows_9
theorem sX12_rows_10 {h0 : Hp_} : Snd 73 107 h0 (miT TbM) RX12 cX12_rows 5 none 10 (i_const 12 (vI 8)) := snd_bipush (by decide) dX12_rows_10
theorem sX12_rows_12 {h0 : Hp_} : Snd 73 107 h0 (miT TbM) RX12 cX12_rows 5 none 12 (i_iload 14 4) := snd_iload dX12_rows_12
theorem sX12_rows_14 {h0 : Hp_} : Snd 73 107 h0 (miT TbM) RX12 cX12_rows 5 none 14 (i_imul 15) := snd_imul dX12_rows_14
theorem sX12_rows_15 {h0 : Hp_} : Snd 73 107 h0 (miT TbM) RX12 cX12_rows 5 none 15 (i_const 16 (vI 1)) := snd_iconst dX12_rows_15
theorem sX12_rows_16 {h0 : Hp_} : Snd 73 107 h0 (miT TbM) RX12 cX12_rows 5 none 16 (i_iload 17 1) := snd_iload_n rfl dX12_rows_16
theorem sX12_rows_17 {h0 : Hp_} : Snd 73 107 h0 (miT TbM) RX12 cX12_rows 5 none 17 (i_iload 18 3) := snd_iload_n rfl dX12_rows_17
theorem sX12_rows_18 {h0 : Hp_} : Snd 73 107 h0 (miT TbM) RX12 cX12_rows 5 none 18 (i_cV4 48 11 21) := snd_cV4 (fun hK hd hC ho hs h6 h7 h8 kk => iv_X12_149 hK (mcM_48 hC) ho hs ⟨hd, by show _ ≤ 40 * (_ + 1); omega⟩ (Nat.le_refl _) h6 h7 h8 ⟨Nat.le_refl _, Nat.le_refl _⟩ dX12_rows_18 kk)
theorem sX12_rows_21 {h0 : Hp_} : Snd 73 107 h0 (miT TbM) RX12 cX12_rows 5 none 21 (i_iinc 24 4 1) := snd_iinc (by decide) dX12_rows_21
theorem sX12_rows_24 {h0 : Hp_} : Snd 73 107 h0 (miT TbM) RX12 cX12_rows 5 none 24 (i_goto 3) := snd_goto dX12_rows_24 rfl
theorem sX12_rows_27 {h0 : Hp_} : Snd 73 107 h0 (miT TbM) RX12 cX12_rows 5 none 27 (i_vret) := snd_vret dX12_rows_27
theorem kX12_rows {h0 : Hp_} : raA (okI 73 107 h0 (miT TbM) (yX12_rows, cX12_rows, 5, none)) tX12_rows := (raA_br (raA_br (raA_br (raA_br (raA_leaf sX12_rows_0) (raA_leaf sX12_rows_1)) (raA_br (raA_leaf sX12_rows_3) (raA_leaf sX12_rows_5))) (raA_br (raA_br (raA_leaf sX12_rows_6) (raA_leaf sX12_rows_9)) (raA_br (raA_leaf sX12_rows_10) (raA_leaf sX12_rows_12)))) (raA_br (raA_br (raA_br (raA_leaf sX12_rows_14) (raA_leaf sX12_rows_15)) (raA_br (raA_leaf sX12_rows_16) (raA_leaf sX12_rows_17))) (raA_br (raA_br (raA_leaf sX12_rows_18) (raA_leaf sX12_rows_21)) (raA_br (raA_leaf sX12_rows_24) (raA_leaf sX12_rows_27)))))
theorem sX12_spot_0 {h0 : Hp_} : Snd 73 107 h0 (miT TbM) RX12 cX12_spot 2 (some .int) 0 (i_const 2 (vI 10)) := snd_bipush (by decide) dX12_spot_0
theorem sX12_spot_2 {h0 : Hp_} : Snd 73 107 h0 (miT TbM) RX12 cX12_spot 2 (some .int) 2 (i_iload 3 1) := snd_iload_n rfl dX12_spot_2
theorem sX12_spot_3 {h0 : Hp_} : Snd 73 107 h0 (miT TbM) RX12 cX12_spot 2 (some .int) 3 (i_imul 4) := snd_imul dX12_spot_3
theorem sX12_spot_4 {h0 : Hp_} : Snd 73 107 h0 (miT TbM) RX12 cX12_spot 2 (some .int) 4 (i_iload 5 0) := snd_iload_n rfl dX12_spot_4
theorem sX12_spot_5 {h0 : Hp_} : Snd 73 107 h0 (miT TbM) RX12 cX12_spot 2 (some .int) 5 (i_iadd 6) := snd_iadd dX12_spot_5
theorem sX12_spot_6 {h0 : Hp_} : Snd 73 107 h0 (miT TbM) RX12 cX12_spot 2 (some .int) 6 (i_const 8 (vI 11)) := snd_bipush (by decide) dX12_spot_6
theorem sX12_spot_8 {h0 : Hp_} : Snd 73 107 h0 (miT TbM) RX12 cX12_spot 2 (some .int) 8 (i_iadd 9) := snd_iadd dX12_spot_8
theorem sX12_spot_9 {h0 : Hp_} : Snd 73 107 h0 (miT TbM) RX12 cX12_spot 2 (some .int) 9 (i_iret) := snd_iret dX12_spot_9
theorem kX12_spot {h0 : Hp_} : raA (okI 73 107 h0 (miT TbM) (yX12_spot, cX12_spot, 2, (some .int))) tX12_spot := (raA_br (raA_br (raA_br (raA_leaf sX12_spot_0) (raA_leaf sX12_spot_2)) (raA_br (raA_leaf sX12_spot_3) (raA_leaf sX12_spot_4))) (raA_br (raA_br (raA_leaf sX12_spot_5) (raA_leaf sX12_spot_6)) (raA_br (raA_leaf sX12_spot_8) (raA_leaf sX12_spot_9))))
theorem sX12_spread_0 {h0 : Hp_} : Snd 73 107 h0 (miT TbM) RX12 cX12_spread 4 none 0 (i_aload 1 0) := snd_aload_n rfl dX12_spread_0
theorem sX12_spread_1 {h0 : Hp_} : Snd 73 107 h0 (miT TbM) RX12 cX12_spread 4 none 1 (i_iload 2 1) := snd_iload_n rfl dX12_spread_1
theorem sX12_spread_2 {h0 : Hp_} : Snd 73 107 h0 (miT TbM) RX12 cX12_spread 4 none 2 (i_iload 3 2) := snd_iload_n rfl dX12_spread_2
theorem sX12_spread_3 {h0 : Hp_} : Snd 73 107 h0 (miT TbM) RX12 cX12_spread 4 none 3 (i_cV2 12 11 6) := snd_cV2 (fun hK hd hC ho hs h6 h7 h8 kk => iv_X12_261 hK (mcM_12 hC) ho hs ⟨hd, by show _ ≤ 40 * (_ + 1); omega⟩ (Nat.le_refl _) h6 h7 h8 ⟨Nat.le_refl _, Nat.le_refl _⟩ dX12_spread_3 kk)
theorem sX12_spread_6 {h0 : Hp_} : Snd 73 107 h0 (miT TbM) RX12 cX12_spread 4 none 6 (i_istore 7 3) := snd_istore_n rfl (by decide) dX12_spread_6
theorem sX12_spread_7 {h0 : Hp_} : Snd 73 107 h0 (miT TbM) RX12 cX12_spread 4 none 7 (i_aload 8 0) := snd_aload_n rfl dX12_spread_7
theorem sX12_spread_8 {h0 : Hp_} : Snd 73 107 h0 (miT TbM) RX12 cX12_spread 4 none 8 (i_iload 9 1) := snd_iload_n rfl dX12_spread_8
theorem sX12_spread_9 {h0 : Hp_} : Snd 73 107 h0 (miT TbM) RX12 cX12_spread 4 none 9 (i_iload 10 2) := snd_iload_n rfl dX12_spread_9
theorem sX12_spread_10 {h0 : Hp_} : Snd 73 107 h0 (miT TbM) RX12 cX12_spread 4 none 10 (i_cS2 37 13) := snd_cS2 (fun hK hd hC h6 h7 h8 kk => iv_X12_234 hK (mcM_37 hC) ⟨hd, by show _ ≤ 40 * (_ + 1); omega⟩ (Nat.le_refl _) h6 h7 h8 ⟨Nat.le_refl _, Nat.le_refl _⟩ dX12_spread_10 kk)
theorem sX12_spread_13 {h0 : Hp_} : Snd 73 107 h0 (miT TbM) RX12 cX12_spread 4 none 13 (i_cV1 20 11 16) := snd_cV1 (fun hK hd hC ho hs h6 h7 h8 kk => iv_X12_231 hK (mcM_20 hC) ho hs ⟨hd, by show _ ≤ 40 * (_ + 1); omega⟩ (Nat.le_refl _) h6 h7 h8 ⟨Nat.le_refl _, Nat.le_refl _⟩ dX12_spread_13 kk)
theorem sX12_spread_16 {h0 : Hp_} : Snd 73 107 h0 (miT TbM) RX12 cX12_spread 4 none 16 (i_if_ne 19 56) := snd_if_ne dX12_spread_16 rfl
theorem sX12_spread_19 {h0 : Hp_} : Snd 73 107 h0 (miT TbM) RX12 cX12_spread 4 none 19 (i_iload 20 3) := snd_iload_n rfl dX12_spread_19
theorem sX12_spread_20 {h0 : Hp_} : Snd 73 107 h0 (miT TbM) RX12 cX12_spread 4 none 20 (i_if_le 23 56) := snd_if_le dX12_spread_20 rfl
theorem sX12_spread_23 {h0 : Hp_} : Snd 73 107 h0 (miT TbM) RX12 cX12_spread 4 none 23 (i_aload 24 0) := snd_aload_n rfl dX12_spread_23
theorem sX12_spread_24 {h0 : Hp_} : Snd 73 107 h0 (miT TbM) RX12 cX12_spread 4 none 24 (i_getR 11 24 27) := snd_getR rfl (by decide) (by decide) (by decide) (fun hK ho hs hq kk => gf_X12_78 hK ho hs hq rfl dX12_spread_24 kk)
theorem sX12_spread_27 {h0 : Hp_} : Snd 73 107 h0 (miT TbM) RX12 cX12_spread 4 none 27 (i_const 29 (vI 8)) := snd_bipush (by decide) dX12_spread_27
theorem sX12_spread_29 {h0 : Hp_} : Snd 73 107 h0 (miT TbM) RX12 cX12_spread 4 none 29 (i_iload 30 2) := snd_iload_n rfl dX12_spread_29
theorem sX12_spread_30 {h0 : Hp_} : Snd 73 107 h0 (miT TbM) RX12 cX12_spread 4 none 30 (i_imul 31) := snd_imul dX12_spread_30
theorem sX12_spread_31 {h0 : Hp_} : Snd 73 107 h0 (miT TbM) RX12 cX12_spread 4 none 31 (i_iload 32 1) := snd_iload_n rfl dX12_spread_31
theorem sX12_spread_32 {h0 : Hp_} : Snd 73 107 h0 (miT TbM) RX12 cX12_spread 4 none 32 (i_iadd 33) := snd_iadd dX12_spread_32
theorem sX12_spread_33 {h0 : Hp_} : Snd 73 107 h0 (miT TbM) RX12 cX12_spread 4 none 33 (i_const 34 (vI 1)) := snd_iconst dX12_spread_33
theorem sX12_spread_34 {h0 : Hp_} : Snd 73 107 h0 (miT TbM) RX12 cX12_spread 4 none 34 (i_zast 73 107 35) := snd_zast dX12_spread_34
theorem sX12_spread_35 {h0 : Hp_} : Snd 73 107 h0 (miT TbM) RX12 cX12_spread 4 none 35 (i_aload 36 0) := snd_aload_n rfl dX12_spread_35
theorem sX12_spread_36 {h0 : Hp_} : Snd 73 107 h0 (miT TbM) RX12 cX12_spread 4 none 36 (i_iload 37 3) := snd_iload_n rfl dX12_spread_36
theorem sX12_spread_37 {h0 : Hp_} : Snd 73 107 h0 (miT TbM) RX12 cX12_spread 4 none 37 (i_aload 38 0) := snd_aload_n rfl dX12_spread_37
theorem sX12_spread_38 {h0 : Hp_} : Snd 73 107 h0 (miT TbM) RX12 cX12_spread 4 none 38 (i_iload 39 1) := snd_iload_n rfl dX12_spread_38
theorem sX12_spread_39 {h0 : Hp_} : Snd 73 107 h0 (miT TbM) RX12 cX12_spread 4 none 39 (i_iload 40 2) := snd_iload_n rfl dX12_spread_39
theorem sX12_spread_40 {h0 : Hp_} : Snd 73 107 h0 (miT TbM) RX12 cX12_spread 4 none 40 (i_cV2 5 11 43) := snd_cV2 (fun hK hd hC ho hs h6 h7 h8 kk => iv_X12_264 hK (mcM_5 hC) ho hs ⟨hd, by show _ ≤ 40 * (_ + 1); omega⟩ (Nat.le_refl _) h6 h7 h8 ⟨Nat.le_refl _, Nat.le_refl _⟩ dX12_spread_40 kk)
theorem sX12_spread_43 {h0 : Hp_} : Snd 73 107 h0 (miT TbM) RX12 cX12_spread 4 none 43 (i_cV2 9 11 46) := snd_cV2 (fun hK hd hC ho hs h6 h7 h8 kk => iv_X12_258 hK (mcM_9 hC) ho hs ⟨hd, by show _ ≤ 40 * (_ + 1); omega⟩ (Nat.le_refl _) h6 h7 h8 ⟨Nat.le_refl _, Nat.le_refl _⟩ dX12_spread_43 kk)
theorem sX12_spread_46 {h0 : Hp_} : Snd 73 107 h0 (miT TbM) RX12 cX12_spread 4 none 46 (i_const 47 (vI 1)) := snd_iconst dX12_spread_46
theorem sX12_spread_47 {h0 : Hp_} : Snd 73 107 h0 (miT TbM) RX12 cX12_spread 4 none 47 (i_icmp_ne 50 56) := snd_icmp_ne dX12_spread_47 rfl
theorem sX12_spread_50 {h0 : Hp_} : Snd 73 107 h0 (miT TbM) RX12 cX12_spread 4 none 50 (i_aload 51 0) := snd_aload_n rfl dX12_spread_50
theorem sX12_spread_51 {h0 : Hp_} : Snd 73 107 h0 (miT TbM) RX12 cX12_spread 4 none 51 (i_iload 52 1) := snd_iload_n rfl dX12_spread_51
theorem sX12_spread_52 {h0 : Hp_} : Snd 73 107 h0 (miT TbM) RX12 cX12_spread 4 none 52 (i_iload 53 2) := snd_iload_n rfl dX12_spread_52
theorem sX12_spread_53 {h0 : Hp_} : Snd 73 107 h0 (miT TbM) RX12 cX12_spread 4 none 53 (i_cV2 45 11 56) := snd_cV2 (fun hK hd hC ho hs h6 h7 h8 kk => iv_X12_267 hK (mcM_45 hC) ho hs ⟨hd, by show _ ≤ 40 * (_ + 1); omega⟩ (Nat.le_refl _) h6 h7 h8 ⟨Nat.le_refl _, Nat.le_refl _⟩ dX12_spread_53 kk)
theorem sX12_spread_56 {h0 : Hp_} : Snd 73 107 h0 (miT TbM) RX12 cX12_spread 4 none 56 (i_vret) := snd_vret dX12_spread_56
theorem kX12_spread {h0 : Hp_} : raA (okI 73 107 h0 (miT TbM) (yX12_spread, cX12_spread, 4, none)) tX12_spread := (raA_br (raA_br (raA_br (raA_br (raA_br (raA_leaf sX12_spread_0) (raA_leaf sX12_spread_1)) (raA_br (raA_leaf sX12_spread_2) (raA_leaf sX12_spread_3))) (raA_br (raA_br (raA_leaf sX12_spread_6) (raA_leaf sX12_spread_7)) (raA_br (raA_leaf sX12_spread_8) (raA_br (raA_leaf sX12_spread_9) (raA_leaf sX12_spread_10))))) (raA_br (raA_br (raA_br (raA_leaf sX12_spread_13) (raA_leaf sX12_spread_16)) (raA_br (raA_leaf sX12_spread_19) (raA_leaf sX12_spread_20))) (raA_br (raA_br (raA_leaf sX12_spread_23) (raA_leaf sX12_spread_24)) (raA_br (raA_leaf sX12_spread_27) (raA_br (raA_leaf sX12_spread_29) (raA_leaf sX12_spread_30)))))) (raA_br (raA_br (raA_br (raA_br (raA_leaf sX12_spread_31) (raA_leaf sX12_spread_32)) (raA_br (raA_leaf sX12_spread_33) (raA_leaf sX12_spread_34))) (raA_br (raA_br (raA_leaf sX12_spread_35) (raA_leaf sX12_spread_36)) (raA_br (raA_leaf sX12_spread_37) (raA_br (raA_leaf sX12_spread_38) (raA_leaf sX12_spread_39))))) (raA_br (raA_br (raA_br (raA_leaf sX12_spread_40) (raA_leaf sX12_spread_43)) (raA_br (raA_leaf sX12_spread_46) (raA_leaf sX12_spread_47))) (raA_br (raA_br (raA_leaf sX12_spread_50) (raA_leaf sX12_spread_51)) (raA_br (raA_leaf sX12_spread_52) (raA_br (raA_leaf sX12_spread_53) (raA_leaf sX12_spread_56)))))))
theorem sX12_stepBit_0 {h0 : Hp_} : Snd 73 107 h0 (miT TbM) RX12 cX12_stepBit 1 none 0 (i_aload 1 0) := snd_aload_n rfl dX12_stepBit_0
theorem sX12_stepBit_1 {h0 : Hp_} : Snd 73 107 h0 (miT TbM) RX12 cX12_stepBit 1 none 1 (i_aload 2 0) := snd_aload_n rfl dX12_stepBit_1
theorem sX12_stepBit_2 {h0 : Hp_} : Snd 73 107 h0 (miT TbM) RX12 cX12_stepBit 1 none 2 (i_getI 11 43 5) := snd_getI hl73 (fun hK ho hs hv kk => gf_X12_314 hK ho hs hv dX12_stepBit_2 kk)
theorem sX12_stepBit_5 {h0 : Hp_} : Snd 73 107 h0 (miT TbM) RX12 cX12_stepBit 1 none 5 (i_const 7 (vI 7)) := snd_bipush (by decide) dX12_stepBit_5
theorem sX12_stepBit_7 {h0 : Hp_} : Snd 73 107 h0 (miT TbM) RX12 cX12_stepBit 1 none 7 (i_icmp_ne 10 14) := snd_icmp_ne dX12_stepBit_7 rfl
theorem sX12_stepBit_10 {h0 : Hp_} : Snd 73 107 h0 (miT TbM) RX12 cX12_stepBit 1 none 10 (i_const 11 (vI 0)) := snd_iconst dX12_stepBit_10
theorem sX12_stepBit_11 {h0 : Hp_} : Snd 73 107 h0 (miT TbM) RX12 cX12_stepBit 1 none 11 (i_goto 20) := snd_goto dX12_stepBit_11 rfl
theorem sX12_stepBit_14 {h0 : Hp_} : Snd 73 107 h0 (miT TbM) RX12 cX12_stepBit 1 none 14 (i_aload 15 0) := snd_aload_n rfl dX12_stepBit_14
theorem sX12_stepBit_15 {h0 : Hp_} : Snd 73 107 h0 (miT TbM) RX12 cX12_stepBit 1 none 15 (i_getI 11 43 18) := snd_getI hl73 (fun hK ho hs hv kk => gf_X12_314 hK ho hs hv dX12_stepBit_15 kk)
theorem sX12_stepBit_18 {h0 : Hp_} : Snd 73 107 h0 (miT TbM) RX12 cX12_stepBit 1 none 18 (i_const 19 (vI 1)) := snd_iconst dX12_stepBit_18
theorem sX12_stepBit_19 {h0 : Hp_} : Snd 73 107 h0 (miT TbM) RX12 cX12_stepBit 1 none 19 (i_iadd 20) := snd_iadd dX12_stepBit_19
theorem sX12_stepBit_20 {h0 : Hp_} : Snd 73 107 h0 (miT TbM) RX12 cX12_stepBit 1 none 20 (i_putI 11 43 23) := snd_putI hl73 (fun hK ho hs kk => pf_X12_314 hK ho hs dX12_stepBit_20 kk)
theorem sX12_stepBit_23 {h0 : Hp_} : Snd 73 107 h0 (miT TbM) RX12 cX12_stepBit 1 none 23 (i_aload 24 0) := snd_aload_n rfl dX12_stepBit_23
theorem sX12_stepBit_24 {h0 : Hp_} : Snd 73 107 h0 (miT TbM) RX12 cX12_stepBit 1 none 24 (i_aload 25 0) := snd_aload_n rfl dX12_stepBit_24
theorem sX12_stepBit_25 {h0 : Hp_} : Snd 73 107 h0 (miT TbM) RX12 cX12_stepBit 1 none 25 (i_getI 11 43 28) := snd_getI hl73 (fun hK ho hs hv kk => gf_X12_314 hK ho hs hv dX12_stepBit_25 kk)
theorem sX12_stepBit_28 {h0 : Hp_} : Snd 73 107 h0 (miT TbM) RX12 cX12_stepBit 1 none 28 (i_if_ne 31 40) := snd_if_ne dX12_stepBit_28 rfl
theorem sX12_stepBit_31 {h0 : Hp_} : Snd 73 107 h0 (miT TbM) RX12 cX12_stepBit 1 none 31 (i_aload 32 0) := snd_aload_n rfl dX12_stepBit_31
theorem sX12_stepBit_32 {h0 : Hp_} : Snd 73 107 h0 (miT TbM) RX12 cX12_stepBit 1 none 32 (i_getI 11 42 35) := snd_getI hl73 (fun hK ho hs hv kk => gf_X12_311 hK ho hs hv dX12_stepBit_32 kk)
theorem sX12_stepBit_35 {h0 : Hp_} : Snd 73 107 h0 (miT TbM) RX12 cX12_stepBit 1 none 35 (i_const 36 (vI 1)) := snd_iconst dX12_stepBit_35
theorem sX12_stepBit_36 {h0 : Hp_} : Snd 73 107 h0 (miT TbM) RX12 cX12_stepBit 1 none 36 (i_iadd 37) := snd_iadd dX12_stepBit_36
theorem sX12_stepBit_37 {h0 : Hp_} : Snd 73 107 h0 (miT TbM) RX12 cX12_stepBit 1 none 37 (i_goto 44) := snd_goto dX12_stepBit_37 rfl
theorem sX12_stepBit_40 {h0 : Hp_} : Snd 73 107 h0 (miT TbM) RX12 cX12_stepBit 1 none 40 (i_aload 41 0) := snd_aload_n rfl dX12_stepBit_40
theorem sX12_stepBit_41 {h0 : Hp_} : Snd 73 107 h0 (miT TbM) RX12 cX12_stepBit 1 none 41 (i_getI 11 42 44) := snd_getI hl73 (fun hK ho hs hv kk => gf_X12_311 hK ho hs hv dX12_stepBit_41 kk)
theorem sX12_stepBit_44 {h0 : Hp_} : Snd 73 107 h0 (miT TbM) RX12 cX12_stepBit 1 none 44 (i_putI 11 42 47) := snd_putI hl73 (fun hK ho hs kk => pf_X12_311 hK ho hs dX12_stepBit_44 kk)
theorem sX12_stepBit_47 {h0 : Hp_} : Snd 73 107 h0 (miT TbM) RX12 cX12_stepBit 1 none 47 (i_vret) := snd_vret dX12_stepBit_47
theorem kX12_stepBit {h0 : Hp_} : raA (okI 73 107 h0 (miT TbM) (yX12_stepBit, cX12_stepBit, 1, none)) tX12_stepBit := (raA_br (raA_br (raA_br (raA_br (raA_leaf sX12_stepBit_0) (raA_br (raA_leaf sX12_stepBit_1) (raA_leaf sX12_stepBit_2))) (raA_br (raA_leaf sX12_stepBit_5) (raA_br (raA_leaf sX12_stepBit_7) (raA_leaf sX12_stepBit_10)))) (raA_br (raA_br (raA_leaf sX12_stepBit_11) (raA_br (raA_leaf sX12_stepBit_14) (raA_leaf sX12_stepBit_15))) (raA_br (raA_leaf sX12_stepBit_18) (raA_br (raA_leaf sX12_stepBit_19) (raA_leaf sX12_stepBit_20))))) (raA_br (raA_br (raA_br (raA_leaf sX12_stepBit_23) (raA_br (raA_leaf sX12_stepBit_24) (raA_leaf sX12_stepBit_25))) (raA_br (raA_leaf sX12_stepBit_28) (raA_br (raA_leaf sX12_stepBit_31) (raA_leaf sX12_stepBit_32)))) (raA_br (raA_br (raA_leaf sX12_stepBit_35) (raA_br (raA_leaf sX12_stepBit_36) (raA_leaf sX12_stepBit_37))) (raA_br (raA_br (raA_leaf sX12_stepBit_40) (raA_leaf sX12_stepBit_41)) (raA_br (raA_leaf sX12_stepBit_44) (raA_leaf sX12_stepBit_47))))))
theorem sX12_takeIn_0 {h0 : Hp_} : Snd 73 107 h0 (miT TbM) RX12 cX12_takeIn 2 none 0 (i_aload 1 0) := snd_aload_n rfl dX12_takeIn_0
theorem sX12_takeIn_1 {h0 : Hp_} : Snd 73 107 h0 (miT TbM) RX12 cX12_takeIn 2 none 1 (i_aload 2 0) := snd_aload_n rfl dX12_takeIn_1
theorem sX12_takeIn_2 {h0 : Hp_} : Snd 73 107 h0 (miT TbM) RX12 cX12_takeIn 2 none 2 (i_getI 11 39 5) := snd_getI hl73 (fun hK ho hs hv kk => gf_X12_205 hK ho hs hv dX12_takeIn_2 kk)
theorem sX12_takeIn_5 {h0 : Hp_} : Snd 73 107 h0 (miT TbM) RX12 cX12_takeIn 2 none 5 (i_cV1 6 11 8) := snd_cV1 (fun hK hd hC ho hs h6 h7 h8 kk => iv_X12_208 hK (mcM_6 hC) ho hs ⟨hd, by show _ ≤ 40 * (_ + 1); omega⟩ (Nat.le_refl _) h6 h7 h8 ⟨Nat.le_refl _, Nat.le_refl _⟩ dX12_takeIn_5 kk)
theorem sX12_takeIn_8 {h0 : Hp_} : Snd 73 107 h0 (miT TbM) RX12 cX12_takeIn 2 none 8 (i_const 11 (vI 255)) := snd_sipush (by decide) dX12_takeIn_8
theorem sX12_takeIn_11 {h0 : Hp_} : Snd 73 107 h0 (miT TbM) RX12 cX12_takeIn 2 none 11 (i_icmp_ne 14 18) := snd_icmp_ne dX12_takeIn_11 rfl
theorem sX12_takeIn_14 {h0 : Hp_} : Snd 73 107 h0 (miT TbM) RX12 cX12_takeIn 2 none 14 (i_const 15 (vI 1)) := snd_iconst dX12_takeIn_14
theorem sX12_takeIn_15 {h0 : Hp_} : Snd 73 107 h0 (miT TbM) RX12 cX12_takeIn 2 none 15 (i_goto 19) := snd_goto dX12_takeIn_15 rfl
theorem sX12_takeIn_18 {h0 : Hp_} : Snd 73 107 h0 (miT TbM) RX12 cX12_takeIn 2 none 18 (i_const 19 (vI 0)) := snd_iconst dX12_takeIn_18
theorem sX12_takeIn_19 {h0 : Hp_} : Snd 73 107 h0 (miT TbM) RX12 cX12_takeIn 2 none 19 (i_istore 20 1) := snd_istore_n rfl (by decide) dX12_takeIn_19
theorem sX12_takeIn_20 {h0 : Hp_} : Snd 73 107 h0 (miT TbM) RX12 cX12_takeIn 2 none 20 (i_iload 21 1) := snd_iload_n rfl dX12_takeIn_20
theorem sX12_takeIn_21 {h0 : Hp_} : Snd 73 107 h0 (miT TbM) RX12 cX12_takeIn 2 none 21 (i_if_eq 24 59) := snd_if_eq dX12_takeIn_21 rfl
theorem sX12_takeIn_24 {h0 : Hp_} : Snd 73 107 h0 (miT TbM) RX12 cX12_takeIn 2 none 24 (i_aload 25 0) := snd_aload_n rfl dX12_takeIn_24
theorem sX12_takeIn_25 {h0 : Hp_} : Snd 73 107 h0 (miT TbM) RX12 cX12_takeIn 2 none 25 (i_aload 26 0) := snd_aload_n rfl dX12_takeIn_25
theorem sX12_takeIn_26 {h0 : Hp_} : Snd 73 107 h0 (miT TbM) RX12 cX12_takeIn 2 none 26 (i_getI 11 39 29) := snd_getI hl73 (fun hK ho hs hv kk => gf_X12_205 hK ho hs hv dX12_takeIn_26 kk)
theorem sX12_takeIn_29 {h0 : Hp_} : Snd 73 107 h0 (miT TbM) RX12 cX12_takeIn 2 none 29 (i_const 30 (vI 1)) := snd_iconst dX12_takeIn_29
theorem sX12_takeIn_30 {h0 : Hp_} : Snd 73 107 h0 (miT TbM) RX12 cX12_takeIn 2 none 30 (i_iadd 31) := snd_iadd dX12_takeIn_30
theorem sX12_takeIn_31 {h0 : Hp_} : Snd 73 107 h0 (miT TbM) RX12 cX12_takeIn 2 none 31 (i_cV1 6 11 34) := snd_cV1 (fun hK hd hC ho hs h6 h7 h8 kk => iv_X12_208 hK (mcM_6 hC) ho hs ⟨hd, by show _ ≤ 40 * (_ + 1); omega⟩ (Nat.le_refl _) h6 h7 h8 ⟨Nat.le_refl _, Nat.le_refl _⟩ dX12_takeIn_31 kk)
theorem sX12_takeIn_34 {h0 : Hp_} : Snd 73 107 h0 (miT TbM) RX12 cX12_takeIn 2 none 34 (i_const 37 (vI 143)) := snd_sipush (by decide) dX12_takeIn_34
theorem sX12_takeIn_37 {h0 : Hp_} : Snd 73 107 h0 (miT TbM) RX12 cX12_takeIn 2 none 37 (i_icmp_le 40 59) := snd_icmp_le dX12_takeIn_37 rfl
theorem sX12_takeIn_40 {h0 : Hp_} : Snd 73 107 h0 (miT TbM) RX12 cX12_takeIn 2 none 40 (i_aload 41 0) := snd_aload_n rfl dX12_takeIn_40
theorem sX12_takeIn_41 {h0 : Hp_} : Snd 73 107 h0 (miT TbM) RX12 cX12_takeIn 2 none 41 (i_aload 42 0) := snd_aload_n rfl dX12_takeIn_41
theorem sX12_takeIn_42 {h0 : Hp_} : Snd 73 107 h0 (miT TbM) RX12 cX12_takeIn 2 none 42 (i_getJ 11 33 45) := snd_getJ hl73 (fun hK ho hs hv kk => gf_X12_175 hK ho hs hv dX12_takeIn_42 kk)
theorem sX12_takeIn_45 {h0 : Hp_} : Snd 73 107 h0 (miT TbM) RX12 cX12_takeIn 2 none 45 (i_const 48 (vJ 65280)) := snd_ldc2 lc_X12_212 dX12_takeIn_45
theorem sX12_takeIn_48 {h0 : Hp_} : Snd 73 107 h0 (miT TbM) RX12 cX12_takeIn 2 none 48 (i_ladd 49) := snd_ladd dX12_takeIn_48
theorem sX12_takeIn_49 {h0 : Hp_} : Snd 73 107 h0 (miT TbM) RX12 cX12_takeIn 2 none 49 (i_putJ 11 33 52) := snd_putJ hl73 (fun hK ho hs kk => pf_X12_175 hK ho hs dX12_takeIn_49 kk)
theorem sX12_takeIn_52 {h0 : Hp_} : Snd 73 107 h0 (miT TbM) RX12 cX12_takeIn 2 none 52 (i_aload 53 0) := snd_aload_n rfl dX12_takeIn_52
theorem sX12_takeIn_53 {h0 : Hp_} : Snd 73 107 h0 (miT TbM) RX12 cX12_takeIn 2 none 53 (i_const 55 (vI 8)) := snd_bipush (by decide) dX12_takeIn_53
theorem sX12_takeIn_55 {h0 : Hp_} : Snd 73 107 h0 (miT TbM) RX12 cX12_takeIn 2 none 55 (i_putI 11 34 58) := snd_putI hl73 (fun hK ho hs kk => pf_X12_178 hK ho hs dX12_takeIn_55 kk)
theorem sX12_takeIn_58 {h0 : Hp_} : Snd 73 107 h0 (miT TbM) RX12 cX12_takeIn 2 none 58 (i_vret) := snd_vret dX12_takeIn_58
theorem sX12_takeIn_59 {h0 : Hp_} : Snd 73 107 h0 (miT TbM) RX12 cX12_takeIn 2 none 59 (i_aload 60 0) := snd_aload_n rfl dX12_takeIn_59
theorem sX12_takeIn_60 {h0 : Hp_} : Snd 73 107 h0 (miT TbM) RX12 cX12_takeIn 2 none 60 (i_dup 61) := snd_dup dX12_takeIn_60
theorem sX12_takeIn_61 {h0 : Hp_} : Snd 73 107 h0 (miT TbM) RX12 cX12_takeIn 2 none 61 (i_getI 11 39 64) := snd_getI hl73 (fun hK ho hs hv kk => gf_X12_205 hK ho hs hv dX12_takeIn_61 kk)
theorem sX12_takeIn_64 {h0 : Hp_} : Snd 73 107 h0 (miT TbM) RX12 cX12_takeIn 2 none 64 (i_const 65 (vI 1)) := snd_iconst dX12_takeIn_64
theorem sX12_takeIn_65 {h0 : Hp_} : Snd 73 107 h0 (miT TbM) RX12 cX12_takeIn 2 none 65 (i_iadd 66) := snd_iadd dX12_takeIn_65
theorem sX12_takeIn_66 {h0 : Hp_} : Snd 73 107 h0 (miT TbM) RX12 cX12_takeIn 2 none 66 (i_putI 11 39 69) := snd_putI hl73 (fun hK ho hs kk => pf_X12_205 hK ho hs dX12_takeIn_66 kk)
theorem sX12_takeIn_69 {h0 : Hp_} : Snd 73 107 h0 (miT TbM) RX12 cX12_takeIn 2 none 69 (i_aload 70 0) := snd_aload_n rfl dX12_takeIn_69
theorem sX12_takeIn_70 {h0 : Hp_} : Snd 73 107 h0 (miT TbM) RX12 cX12_takeIn 2 none 70 (i_aload 71 0) := snd_aload_n rfl dX12_takeIn_70
theorem sX12_takeIn_71 {h0 : Hp_} : Snd 73 107 h0 (miT TbM) RX12 cX12_takeIn 2 none 71 (i_getJ 11 33 74) := snd_getJ hl73 (fun hK ho hs hv kk => gf_X12_175 hK ho hs hv dX12_takeIn_71 kk)
theorem sX12_takeIn_74 {h0 : Hp_} : Snd 73 107 h0 (miT TbM) RX12 cX12_takeIn 2 none 74 (i_aload 75 0) := snd_aload_n rfl dX12_takeIn_74
theorem sX12_takeIn_75 {h0 : Hp_} : Snd 73 107 h0 (miT TbM) RX12 cX12_takeIn 2 none 75 (i_aload 76 0) := snd_aload_n rfl dX12_takeIn_75
theorem sX12_takeIn_76 {h0 : Hp_} : Snd 73 107 h0 (miT TbM) RX12 cX12_takeIn 2 none 76 (i_getI 11 39 79) := snd_getI hl73 (fun hK ho hs hv kk => gf_X12_205 hK ho hs hv dX12_takeIn_76 kk)
theorem sX12_takeIn_79 {h0 : Hp_} : Snd 73 107 h0 (miT TbM) RX12 cX12_takeIn 2 none 79 (i_cV1 6 11 82) := snd_cV1 (fun hK hd hC ho hs h6 h7 h8 kk => iv_X12_208 hK (mcM_6 hC) ho hs ⟨hd, by show _ ≤ 40 * (_ + 1); omega⟩ (Nat.le_refl _) h6 h7 h8 ⟨Nat.le_refl _, Nat.le_refl _⟩ dX12_takeIn_79 kk)
theorem sX12_takeIn_82 {h0 : Hp_} : Snd 73 107 h0 (miT TbM) RX12 cX12_takeIn 2 none 82 (i_i2l 83) := snd_i2l dX12_takeIn_82
theorem sX12_takeIn_83 {h0 : Hp_} : Snd 73 107 h0 (miT TbM) RX12 cX12_takeIn 2 none 83 (i_iload 84 1) := snd_iload_n rfl dX12_takeIn_83
theorem sX12_takeIn_84 {h0 : Hp_} : Snd 73 107 h0 (miT TbM) RX12 cX12_takeIn 2 none 84 (i_if_eq 87 93) := snd_if_eq dX12_takeIn_84 rfl
theorem sX12_takeIn_87 {h0 : Hp_} : Snd 73 107 h0 (miT TbM) RX12 cX12_takeIn 2 none 87 (i_const 90 (vJ 512)) := snd_ldc2 lc_X12_214 dX12_takeIn_87
theorem sX12_takeIn_90 {h0 : Hp_} : Snd 73 107 h0 (miT TbM) RX12 cX12_takeIn 2 none 90 (i_goto 96) := snd_goto dX12_takeIn_90 rfl
theorem sX12_takeIn_93 {h0 : Hp_} : Snd 73 107 h0 (miT TbM) RX12 cX12_takeIn 2 none 93 (i_const 96 (vJ 256)) := snd_ldc2 lc_X12_187 dX12_takeIn_93
theorem sX12_takeIn_96 {h0 : Hp_} : Snd 73 107 h0 (miT TbM) RX12 cX12_takeIn 2 none 96 (i_lmul 97) := snd_lmul dX12_takeIn_96
theorem sX12_takeIn_97 {h0 : Hp_} : Snd 73 107 h0 (miT TbM) RX12 cX12_takeIn 2 none 97 (i_ladd 98) := snd_ladd dX12_takeIn_97
theorem sX12_takeIn_98 {h0 : Hp_} : Snd 73 107 h0 (miT TbM) RX12 cX12_takeIn 2 none 98 (i_putJ 11 33 101) := snd_putJ hl73 (fun hK ho hs kk => pf_X12_175 hK ho hs dX12_takeIn_98 kk)
theorem sX12_takeIn_101 {h0 : Hp_} : Snd 73 107 h0 (miT TbM) RX12 cX12_takeIn 2 none 101 (i_aload 102 0) := snd_aload_n rfl dX12_takeIn_101
theorem sX12_takeIn_102 {h0 : Hp_} : Snd 73 107 h0 (miT TbM) RX12 cX12_takeIn 2 none 102 (i_iload 103 1) := snd_iload_n rfl dX12_takeIn_102
theorem sX12_takeIn_103 {h0 : Hp_} : Snd 73 107 h0 (miT TbM) RX12 cX12_takeIn 2 none 103 (i_if_eq 106 111) := snd_if_eq dX12_takeIn_103 rfl
theorem sX12_takeIn_106 {h0 : Hp_} : Snd 73 107 h0 (miT TbM) RX12 cX12_takeIn 2 none 106 (i_const 108 (vI 7)) := snd_bipush (by decide) dX12_takeIn_106
theorem sX12_takeIn_108 {h0 : Hp_} : Snd 73 107 h0 (miT TbM) RX12 cX12_takeIn 2 none 108 (i_goto 113) := snd_goto dX12_takeIn_108 rfl
theorem sX12_takeIn_111 {h0 : Hp_} : Snd 73 107 h0 (miT TbM) RX12 cX12_takeIn 2 none 111 (i_const 113 (vI 8)) := snd_bipush (by decide) dX12_takeIn_111
theorem sX12_takeIn_113 {h0 : Hp_} : Snd 73 107 h0 (miT TbM) RX12 cX12_takeIn 2 none 113 (i_putI 11 34 116) := snd_putI hl73 (fun hK ho hs kk => pf_X12_178 hK ho hs dX12_takeIn_113 kk)
theorem sX12_takeIn_116 {h0 : Hp_} : Snd 73 107 h0 (miT TbM) RX12 cX12_takeIn 2 none 116 (i_vret) := snd_vret dX12_takeIn_116
theorem kX12_takeIn {h0 : Hp_} : raA (okI 73 107 h0 (miT TbM) (yX12_takeIn, cX12_takeIn, 2, none)) tX12_takeIn := (raA_br (raA_br (raA_br (raA_br (raA_br (raA_leaf sX12_takeIn_0) (raA_br (raA_leaf sX12_takeIn_1) (raA_leaf sX12_takeIn_2))) (raA_br (raA_br (raA_leaf sX12_takeIn_5) (raA_leaf sX12_takeIn_8)) (raA_br (raA_leaf sX12_takeIn_11) (raA_leaf sX12_takeIn_14)))) (raA_br (raA_br (raA_br (raA_leaf sX12_takeIn_15) (raA_leaf sX12_takeIn_18)) (raA_br (raA_leaf sX12_takeIn_19) (raA_leaf sX12_takeIn_20))) (raA_br (raA_br (raA_leaf sX12_takeIn_21) (raA_leaf sX12_takeIn_24)) (raA_br (raA_leaf sX12_takeIn_25) (raA_leaf sX12_takeIn_26))))) (raA_br (raA_br (raA_br (raA_leaf sX12_takeIn_29) (raA_br (raA_leaf sX12_takeIn_30) (raA_leaf sX12_takeIn_31))) (raA_br (raA_br (raA_leaf sX12_takeIn_34) (raA_leaf sX12_takeIn_37)) (raA_br (raA_leaf sX12_takeIn_40) (raA_leaf sX12_takeIn_41)))) (raA_br (raA_br (raA_br (raA_leaf sX12_takeIn_42) (raA_leaf sX12_takeIn_45)) (raA_br (raA_leaf sX12_takeIn_48) (raA_leaf sX12_takeIn_49))) (raA_br (raA_br (raA_leaf sX12_takeIn_52) (raA_leaf sX12_takeIn_53)) (raA_br (raA_leaf sX12_takeIn_55) (raA_leaf sX12_takeIn_58)))))) (raA_br (raA_br (raA_br (raA_br (raA_leaf sX12_takeIn_59) (raA_br (raA_leaf sX12_takeIn_60) (raA_leaf sX12_takeIn_61))) (raA_br (raA_br (raA_leaf sX12_takeIn_64) (raA_leaf sX12_takeIn_65)) (raA_br (raA_leaf sX12_takeIn_66) (raA_leaf sX12_takeIn_69)))) (raA_br (raA_br (raA_br (raA_leaf sX12_takeIn_70) (raA_leaf sX12_takeIn_71)) (raA_br (raA_leaf sX12_takeIn_74) (raA_leaf sX12_takeIn_75))) (raA_br (raA_br (raA_leaf sX12_takeIn_76) (raA_leaf sX12_takeIn_79)) (raA_br (raA_leaf sX12_takeIn_82) (raA_leaf sX12_takeIn_83))))) (raA_br (raA_br (raA_br (raA_leaf sX12_takeIn_84) (raA_br (raA_leaf sX12_takeIn_87) (raA_leaf sX12_takeIn_90))) (raA_br (raA_br (raA_leaf sX12_takeIn_93) (raA_leaf sX12_takeIn_96)) (raA_br (raA_leaf sX12_takeIn_97) (raA_leaf sX12_takeIn_98)))) (raA_br (raA_br (raA_br (raA_leaf sX12_takeIn_101) (raA_leaf sX12_takeIn_102)) (raA_br (raA_leaf sX12_takeIn_103) (raA_leaf sX12_takeIn_106))) (raA_br (raA_br (raA_leaf sX12_takeIn_108) (raA_leaf sX12_takeIn_111)) (raA_br (raA_leaf sX12_takeIn_113) (raA_leaf sX12_takeIn_116)))))))
theorem sX12_tellBand_0 {h0 : Hp_} : Snd 73 107 h0 (miT TbM) RX12 cX12_tellBand 5 none 0 (i_aload 1 0) := snd_aload_n rfl dX12_tellBand_0
theorem sX12_tellBand_1 {h0 : Hp_} : Snd 73 107 h0 (miT TbM) RX12 cX12_tellBand 5 none 1 (i_iload 2 1) := snd_iload_n rfl dX12_tellBand_1
theorem sX12_tellBand_2 {h0 : Hp_} : Snd 73 107 h0 (miT TbM) RX12 cX12_tellBand 5 none 2 (i_cV1 16 11 5) := snd_cV1 (fun hK hd hC ho hs h6 h7 h8 kk => iv_X12_290 hK (mcM_16 hC) ho hs ⟨hd, by show _ ≤ 40 * (_ + 1); omega⟩ (Nat.le_refl _) h6 h7 h8 ⟨Nat.le_refl _, Nat.le_refl _⟩ dX12_tellBand_2 kk)
theorem sX12_tellBand_5 {h0 : Hp_} : Snd 73 107 h0 (miT TbM) RX12 cX12_tellBand 5 none 5 (i_aload 6 0) := snd_aload_n rfl dX12_tellBand_5
theorem sX12_tellBand_6 {h0 : Hp_} : Snd 73 107 h0 (miT TbM) RX12 cX12_tellBand 5 none 6 (i_getR 11 20 9) := snd_getR rfl (by decide) (by decide) (by decide) (fun hK ho hs hq kk => gf_X12_66 hK ho hs hq rfl dX12_tellBand_6 kk)
theorem sX12_tellBand_9 {h0 : Hp_} : Snd 73 107 h0 (miT TbM) RX12 cX12_tellBand 5 none 9 (i_iload 10 1) := snd_iload_n rfl dX12_tellBand_9
theorem sX12_tellBand_10 {h0 : Hp_} : Snd 73 107 h0 (miT TbM) RX12 cX12_tellBand 5 none 10 (i_iload 11 2) := snd_iload_n rfl dX12_tellBand_10
theorem sX12_tellBand_11 {h0 : Hp_} : Snd 73 107 h0 (miT TbM) RX12 cX12_tellBand 5 none 11 (i_iast 73 107 12) := snd_iast dX12_tellBand_11
theorem sX12_tellBand_12 {h0 : Hp_} : Snd 73 107 h0 (miT TbM) RX12 cX12_tellBand 5 none 12 (i_aload 13 0) := snd_aload_n rfl dX12_tellBand_12
theorem sX12_tellBand_13 {h0 : Hp_} : Snd 73 107 h0 (miT TbM) RX12 cX12_tellBand 5 none 13 (i_getR 11 21 16) := snd_getR rfl (by decide) (by decide) (by decide) (fun hK ho hs hq kk => gf_X12_69 hK ho hs hq rfl dX12_tellBand_13 kk)
theorem sX12_tellBand_16 {h0 : Hp_} : Snd 73 107 h0 (miT TbM) RX12 cX12_tellBand 5 none 16 (i_iload 17 1) := snd_iload_n rfl dX12_tellBand_16
theorem sX12_tellBand_17 {h0 : Hp_} : Snd 73 107 h0 (miT TbM) RX12 cX12_tellBand 5 none 17 (i_const 18 (vI 0)) := snd_iconst dX12_tellBand_17
theorem sX12_tellBand_18 {h0 : Hp_} : Snd 73 107 h0 (miT TbM) RX12 cX12_tellBand 5 none 18 (i_iast 73 107 19) := snd_iast dX12_tellBand_18
theorem sX12_tellBand_19 {h0 : Hp_} : Snd 73 107 h0 (miT TbM) RX12 cX12_tellBand 5 none 19 (i_aload 20 0) := snd_aload_n rfl dX12_tellBand_19
theorem sX12_tellBand_20 {h0 : Hp_} : Snd 73 107 h0 (miT TbM) RX12 cX12_tellBand 5 none 20 (i_getR 11 22 23) := snd_getR rfl (by decide) (by decide) (by decide) (fun hK ho hs hq kk => gf_X12_72 hK ho hs hq rfl dX12_tellBand_20 kk)
theorem sX12_tellBand_23 {h0 : Hp_} : Snd 73 107 h0 (miT TbM) RX12 cX12_tellBand 5 none 23 (i_const 25 (vI 35)) := snd_bipush (by decide) dX12_tellBand_23
theorem sX12_tellBand_25 {h0 : Hp_} : Snd 73 107 h0 (miT TbM) RX12 cX12_tellBand 5 none 25 (i_iload 26 1) := snd_iload_n rfl dX12_tellBand_25
theorem sX12_tellBand_26 {h0 : Hp_} : Snd 73 107 h0 (miT TbM) RX12 cX12_tellBand 5 none 26 (i_imul 27) := snd_imul dX12_tellBand_26
theorem sX12_tellBand_27 {h0 : Hp_} : Snd 73 107 h0 (miT TbM) RX12 cX12_tellBand 5 none 27 (i_const 28 (vI 0)) := snd_iconst dX12_tellBand_27
theorem sX12_tellBand_28 {h0 : Hp_} : Snd 73 107 h0 (miT TbM) RX12 cX12_tellBand 5 none 28 (i_iast 73 107 29) := snd_iast dX12_tellBand_28
theorem sX12_tellBand_29 {h0 : Hp_} : Snd 73 107 h0 (miT TbM) RX12 cX12_tellBand 5 none 29 (i_aload 30 0) := snd_aload_n rfl dX12_tellBand_29
theorem sX12_tellBand_30 {h0 : Hp_} : Snd 73 107 h0 (miT TbM) RX12 cX12_tellBand 5 none 30 (i_getR 11 12 33) := snd_getR rfl (by decide) (by decide) (by decide) (fun hK ho hs hq kk => gf_X12_44 hK ho hs hq rfl dX12_tellBand_30 kk)
theorem sX12_tellBand_33 {h0 : Hp_} : Snd 73 107 h0 (miT TbM) RX12 cX12_tellBand 5 none 33 (i_iload 34 1) := snd_iload_n rfl dX12_tellBand_33
theorem sX12_tellBand_34 {h0 : Hp_} : Snd 73 107 h0 (miT TbM) RX12 cX12_tellBand 5 none 34 (i_iald 73 107 35) := snd_iald dX12_tellBand_34
theorem sX12_tellBand_35 {h0 : Hp_} : Snd 73 107 h0 (miT TbM) RX12 cX12_tellBand 5 none 35 (i_if_ne 38 39) := snd_if_ne dX12_tellBand_35 rfl
theorem sX12_tellBand_38 {h0 : Hp_} : Snd 73 107 h0 (miT TbM) RX12 cX12_tellBand 5 none 38 (i_vret) := snd_vret dX12_tellBand_38
theorem sX12_tellBand_39 {h0 : Hp_} : Snd 73 107 h0 (miT TbM) RX12 cX12_tellBand 5 none 39 (i_aload 40 0) := snd_aload_n rfl dX12_tellBand_39
theorem sX12_tellBand_40 {h0 : Hp_} : Snd 73 107 h0 (miT TbM) RX12 cX12_tellBand 5 none 40 (i_cV0 4 11 43) := snd_cV0 (fun hK hd hC ho hs h6 h7 h8 kk => iv_X12_293 hK (mcM_4 hC) ho hs ⟨hd, by show _ ≤ 40 * (_ + 1); omega⟩ (Nat.le_refl _) h6 h7 h8 ⟨Nat.le_refl _, Nat.le_refl _⟩ dX12_tellBand_40 kk)
theorem sX12_tellBand_43 {h0 : Hp_} : Snd 73 107 h0 (miT TbM) RX12 cX12_tellBand 5 none 43 (i_aload 44 0) := snd_aload_n rfl dX12_tellBand_43
theorem sX12_tellBand_44 {h0 : Hp_} : Snd 73 107 h0 (miT TbM) RX12 cX12_tellBand 5 none 44 (i_iload 45 1) := snd_iload_n rfl dX12_tellBand_44
theorem sX12_tellBand_45 {h0 : Hp_} : Snd 73 107 h0 (miT TbM) RX12 cX12_tellBand 5 none 45 (i_aload 46 0) := snd_aload_n rfl dX12_tellBand_45
theorem sX12_tellBand_46 {h0 : Hp_} : Snd 73 107 h0 (miT TbM) RX12 cX12_tellBand 5 none 46 (i_iload 47 1) := snd_iload_n rfl dX12_tellBand_46
theorem sX12_tellBand_47 {h0 : Hp_} : Snd 73 107 h0 (miT TbM) RX12 cX12_tellBand 5 none 47 (i_cV1 29 11 50) := snd_cV1 (fun hK hd hC ho hs h6 h7 h8 kk => iv_X12_296 hK (mcM_29 hC) ho hs ⟨hd, by show _ ≤ 40 * (_ + 1); omega⟩ (Nat.le_refl _) h6 h7 h8 ⟨Nat.le_refl _, Nat.le_refl _⟩ dX12_tellBand_47 kk)
theorem sX12_tellBand_50 {h0 : Hp_} : Snd 73 107 h0 (miT TbM) RX12 cX12_tellBand 5 none 50 (i_cV2 46 11 53) := snd_cV2 (fun hK hd hC ho hs h6 h7 h8 kk => iv_X12_299 hK (mcM_46 hC) ho hs ⟨hd, by show _ ≤ 40 * (_ + 1); omega⟩ (Nat.le_refl _) h6 h7 h8 ⟨Nat.le_refl _, Nat.le_refl _⟩ dX12_tellBand_50 kk)
theorem sX12_tellBand_53 {h0 : Hp_} : Snd 73 107 h0 (miT TbM) RX12 cX12_tellBand 5 none 53 (i_aload 54 0) := snd_aload_n rfl dX12_tellBand_53
theorem sX12_tellBand_54 {h0 : Hp_} : Snd 73 107 h0 (miT TbM) RX12 cX12_tellBand 5 none 54 (i_cV0 15 11 57) := snd_cV0 (fun hK hd hC ho hs h6 h7 h8 kk => iv_X12_302 hK (mcM_15 hC) ho hs ⟨hd, by show _ ≤ 40 * (_ + 1); omega⟩ (Nat.le_refl _) h6 h7 h8 ⟨Nat.le_refl _, Nat.le_refl _⟩ dX12_tellBand_54 kk)
theorem sX12_tellBand_57 {h0 : Hp_} : Snd 73 107 h0 (miT TbM) RX12 cX12_tellBand 5 none 57 (i_aload 58 0) := snd_aload_n rfl dX12_tellBand_57
theorem sX12_tellBand_58 {h0 : Hp_} : Snd 73 107 h0 (miT TbM) RX12 cX12_tellBand 5 none 58 (i_getR 11 21 61) := snd_getR rfl (by decide) (by decide) (by decide) (fun hK ho hs hq kk => gf_X12_69 hK ho hs hq rfl dX12_tellBand_58 kk)
theorem sX12_tellBand_61 {h0 : Hp_} : Snd 73 107 h0 (miT TbM) RX12 cX12_tellBand 5 none 61 (i_iload 62 1) := snd_iload_n rfl dX12_tellBand_61
theorem sX12_tellBand_62 {h0 : Hp_} : Snd 73 107 h0 (miT TbM) RX12 cX12_tellBand 5 none 62 (i_aload 63 0) := snd_aload_n rfl dX12_tellBand_62
theorem sX12_tellBand_63 {h0 : Hp_} : Snd 73 107 h0 (miT TbM) RX12 cX12_tellBand 5 none 63 (i_getI 11 36 66) := snd_getI hl73 (fun hK ho hs hv kk => gf_X12_166 hK ho hs hv dX12_tellBand_63 kk)
theorem sX12_tellBand_66 {h0 : Hp_} : Snd 73 107 h0 (miT TbM) RX12 cX12_tellBand 5 none 66 (i_const 67 (vI 1)) := snd_iconst dX12_tellBand_66
theorem sX12_tellBand_67 {h0 : Hp_} : Snd 73 107 h0 (miT TbM) RX12 cX12_tellBand 5 none 67 (i_isub 68) := snd_isub dX12_tellBand_67
theorem sX12_tellBand_68 {h0 : Hp_} : Snd 73 107 h0 (miT TbM) RX12 cX12_tellBand 5 none 68 (i_iast 73 107 69) := snd_iast dX12_tellBand_68
theorem sX12_tellBand_69 {h0 : Hp_} : Snd 73 107 h0 (miT TbM) RX12 cX12_tellBand 5 none 69 (i_const 70 (vI 1)) := snd_iconst dX12_tellBand_69
theorem sX12_tellBand_70 {h0 : Hp_} : Snd 73 107 h0 (miT TbM) RX12 cX12_tellBand 5 none 70 (i_istore 71 3) := snd_istore_n rfl (by decide) dX12_tellBand_70
theorem sX12_tellBand_71 {h0 : Hp_} : Snd 73 107 h0 (miT TbM) RX12 cX12_tellBand 5 none 71 (i_iload 72 3) := snd_iload_n rfl dX12_tellBand_71
theorem sX12_tellBand_72 {h0 : Hp_} : Snd 73 107 h0 (miT TbM) RX12 cX12_tellBand 5 none 72 (i_aload 73 0) := snd_aload_n rfl dX12_tellBand_72
theorem sX12_tellBand_73 {h0 : Hp_} : Snd 73 107 h0 (miT TbM) RX12 cX12_tellBand 5 none 73 (i_getI 11 36 76) := snd_getI hl73 (fun hK ho hs hv kk => gf_X12_166 hK ho hs hv dX12_tellBand_73 kk)
theorem sX12_tellBand_76 {h0 : Hp_} : Snd 73 107 h0 (miT TbM) RX12 cX12_tellBand 5 none 76 (i_icmp_ge 79 101) := snd_icmp_ge dX12_tellBand_76 rfl
theorem sX12_tellBand_79 {h0 : Hp_} : Snd 73 107 h0 (miT TbM) RX12 cX12_tellBand 5 none 79 (i_aload 80 0) := snd_aload_n rfl dX12_tellBand_79
theorem sX12_tellBand_80 {h0 : Hp_} : Snd 73 107 h0 (miT TbM) RX12 cX12_tellBand 5 none 80 (i_getR 11 19 83) := snd_getR rfl (by decide) (by decide) (by decide) (fun hK ho hs hq kk => gf_X12_63 hK ho hs hq rfl dX12_tellBand_80 kk)
theorem sX12_tellBand_83 {h0 : Hp_} : Snd 73 107 h0 (miT TbM) RX12 cX12_tellBand 5 none 83 (i_iload 84 2) := snd_iload_n rfl dX12_tellBand_83
theorem sX12_tellBand_84 {h0 : Hp_} : Snd 73 107 h0 (miT TbM) RX12 cX12_tellBand 5 none 84 (i_iload 85 3) := snd_iload_n rfl dX12_tellBand_84
theorem sX12_tellBand_85 {h0 : Hp_} : Snd 73 107 h0 (miT TbM) RX12 cX12_tellBand 5 none 85 (i_iadd 86) := snd_iadd dX12_tellBand_85
theorem sX12_tellBand_86 {h0 : Hp_} : Snd 73 107 h0 (miT TbM) RX12 cX12_tellBand 5 none 86 (i_const 87 (vI 1)) := snd_iconst dX12_tellBand_86
theorem sX12_tellBand_87 {h0 : Hp_} : Snd 73 107 h0 (miT TbM) RX12 cX12_tellBand 5 none 87 (i_isub 88) := snd_isub dX12_tellBand_87
theorem sX12_tellBand_88 {h0 : Hp_} : Snd 73 107 h0 (miT TbM) RX12 cX12_tellBand 5 none 88 (i_aload 89 0) := snd_aload_n rfl dX12_tellBand_88
theorem sX12_tellBand_89 {h0 : Hp_} : Snd 73 107 h0 (miT TbM) RX12 cX12_tellBand 5 none 89 (i_getR 11 35 92) := snd_getR rfl (by decide) (by decide) (by decide) (fun hK ho hs hq kk => gf_X12_90 hK ho hs hq rfl dX12_tellBand_89 kk)
theorem sX12_tellBand_92 {h0 : Hp_} : Snd 73 107 h0 (miT TbM) RX12 cX12_tellBand 5 none 92 (i_iload 93 3) := snd_iload_n rfl dX12_tellBand_92
theorem sX12_tellBand_93 {h0 : Hp_} : Snd 73 107 h0 (miT TbM) RX12 cX12_tellBand 5 none 93 (i_iald 73 107 94) := snd_iald dX12_tellBand_93
theorem sX12_tellBand_94 {h0 : Hp_} : Snd 73 107 h0 (miT TbM) RX12 cX12_tellBand 5 none 94 (i_iast 73 107 95) := snd_iast dX12_tellBand_94
theorem sX12_tellBand_95 {h0 : Hp_} : Snd 73 107 h0 (miT TbM) RX12 cX12_tellBand 5 none 95 (i_iinc 98 3 1) := snd_iinc (by decide) dX12_tellBand_95
theorem sX12_tellBand_98 {h0 : Hp_} : Snd 73 107 h0 (miT TbM) RX12 cX12_tellBand 5 none 98 (i_goto 71) := snd_goto dX12_tellBand_98 rfl
theorem sX12_tellBand_101 {h0 : Hp_} : Snd 73 107 h0 (miT TbM) RX12 cX12_tellBand 5 none 101 (i_aload 102 0) := snd_aload_n rfl dX12_tellBand_101
theorem sX12_tellBand_102 {h0 : Hp_} : Snd 73 107 h0 (miT TbM) RX12 cX12_tellBand 5 none 102 (i_iload 103 1) := snd_iload_n rfl dX12_tellBand_102
theorem sX12_tellBand_103 {h0 : Hp_} : Snd 73 107 h0 (miT TbM) RX12 cX12_tellBand 5 none 103 (i_cV1 44 11 106) := snd_cV1 (fun hK hd hC ho hs h6 h7 h8 kk => iv_X12_305 hK (mcM_44 hC) ho hs ⟨hd, by show _ ≤ 40 * (_ + 1); omega⟩ (Nat.le_refl _) h6 h7 h8 ⟨Nat.le_refl _, Nat.le_refl _⟩ dX12_tellBand_103 kk)
theorem sX12_tellBand_106 {h0 : Hp_} : Snd 73 107 h0 (miT TbM) RX12 cX12_tellBand 5 none 106 (i_const 107 (vI 0)) := snd_iconst dX12_tellBand_106
theorem sX12_tellBand_107 {h0 : Hp_} : Snd 73 107 h0 (miT TbM) RX12 cX12_tellBand 5 none 107 (i_istore 108 3) := snd_istore_n rfl (by decide) dX12_tellBand_107
theorem sX12_tellBand_108 {h0 : Hp_} : Snd 73 107 h0 (miT TbM) RX12 cX12_tellBand 5 none 108 (i_const 109 (vI 1)) := snd_iconst dX12_tellBand_108
theorem sX12_tellBand_109 {h0 : Hp_} : Snd 73 107 h0 (miT TbM) RX12 cX12_tellBand 5 none 109 (i_istore 111 4) := snd_istore (by decide) dX12_tellBand_109
theorem sX12_tellBand_111 {h0 : Hp_} : Snd 73 107 h0 (miT TbM) RX12 cX12_tellBand 5 none 111 (i_iload 113 4) := snd_iload dX12_tellBand_111
theorem sX12_tellBand_113 {h0 : Hp_} : Snd 73 107 h0 (miT TbM) RX12 cX12_tellBand 5 none 113 (i_aload 114 0) := snd_aload_n rfl dX12_tellBand_113
theorem sX12_tellBand_114 {h0 : Hp_} : Snd 73 107 h0 (miT TbM) RX12 cX12_tellBand 5 none 114 (i_iload 115 1) := snd_iload_n rfl dX12_tellBand_114
theorem sX12_tellBand_115 {h0 : Hp_} : Snd 73 107 h0 (miT TbM) RX12 cX12_tellBand 5 none 115 (i_cV1 29 11 118) := snd_cV1 (fun hK hd hC ho hs h6 h7 h8 kk => iv_X12_296 hK (mcM_29 hC) ho hs ⟨hd, by show _ ≤ 40 * (_ + 1); omega⟩ (Nat.le_refl _) h6 h7 h8 ⟨Nat.le_refl _, Nat.le_refl _⟩ dX12_tellBand_115 kk)
theorem sX12_tellBand_118 {h0 : Hp_} : Snd 73 107 h0 (miT TbM) RX12 cX12_tellBand 5 none 118 (i_icmp_gt 121 216) := snd_icmp_gt dX12_tellBand_118 rfl
theorem sX12_tellBand_121 {h0 : Hp_} : Snd 73 107 h0 (miT TbM) RX12 cX12_tellBand 5 none 121 (i_aload 122 0) := snd_aload_n rfl dX12_tellBand_121
theorem sX12_tellBand_122 {h0 : Hp_} : Snd 73 107 h0 (miT TbM) RX12 cX12_tellBand 5 none 122 (i_const 123 (vI 1)) := snd_iconst dX12_tellBand_122
theorem sX12_tellBand_123 {h0 : Hp_} : Snd 73 107 h0 (miT TbM) RX12 cX12_tellBand 5 none 123 (i_putZ 11 28 126) := snd_putZ hl73 (fun hK ho hs hx kk => pf_X12_227 hK ho hs hx dX12_tellBand_123 kk)
theorem sX12_tellBand_126 {h0 : Hp_} : Snd 73 107 h0 (miT TbM) RX12 cX12_tellBand 5 none 126 (i_iload 127 3) := snd_iload_n rfl dX12_tellBand_126
theorem sX12_tellBand_127 {h0 : Hp_} : Snd 73 107 h0 (miT TbM) RX12 cX12_tellBand 5 none 127 (i_const 128 (vI 1)) := snd_iconst dX12_tellBand_127
theorem sX12_tellBand_128 {h0 : Hp_} : Snd 73 107 h0 (miT TbM) RX12 cX12_tellBand 5 none 128 (i_isub 129) := snd_isub dX12_tellBand_128
theorem sX12_tellBand_129 {h0 : Hp_} : Snd 73 107 h0 (miT TbM) RX12 cX12_tellBand 5 none 129 (i_istore 130 3) := snd_istore_n rfl (by decide) dX12_tellBand_129
theorem sX12_tellBand_130 {h0 : Hp_} : Snd 73 107 h0 (miT TbM) RX12 cX12_tellBand 5 none 130 (i_aload 131 0) := snd_aload_n rfl dX12_tellBand_130
theorem sX12_tellBand_131 {h0 : Hp_} : Snd 73 107 h0 (miT TbM) RX12 cX12_tellBand 5 none 131 (i_getI 11 28 134) := snd_getI hl73 (fun hK ho hs hv kk => gf_X12_227 hK ho hs hv dX12_tellBand_131 kk)
theorem sX12_tellBand_134 {h0 : Hp_} : Snd 73 107 h0 (miT TbM) RX12 cX12_tellBand 5 none 134 (i_if_eq 137 197) := snd_if_eq dX12_tellBand_134 rfl
theorem sX12_tellBand_137 {h0 : Hp_} : Snd 73 107 h0 (miT TbM) RX12 cX12_tellBand 5 none 137 (i_iinc 140 3 1) := snd_iinc (by decide) dX12_tellBand_137
theorem sX12_tellBand_140 {h0 : Hp_} : Snd 73 107 h0 (miT TbM) RX12 cX12_tellBand 5 none 140 (i_iload 141 3) := snd_iload_n rfl dX12_tellBand_140
theorem sX12_tellBand_141 {h0 : Hp_} : Snd 73 107 h0 (miT TbM) RX12 cX12_tellBand 5 none 141 (i_if_ge 144 148) := snd_if_ge dX12_tellBand_141 rfl
theorem sX12_tellBand_144 {h0 : Hp_} : Snd 73 107 h0 (miT TbM) RX12 cX12_tellBand 5 none 144 (i_const 145 (vI 0)) := snd_iconst dX12_tellBand_144
theorem sX12_tellBand_145 {h0 : Hp_} : Snd 73 107 h0 (miT TbM) RX12 cX12_tellBand 5 none 145 (i_goto 149) := snd_goto dX12_tellBand_145 rfl
theorem sX12_tellBand_148 {h0 : Hp_} : Snd 73 107 h0 (miT TbM) RX12 cX12_tellBand 5 none 148 (i_iload 149 3) := snd_iload_n rfl dX12_tellBand_148
theorem sX12_tellBand_149 {h0 : Hp_} : Snd 73 107 h0 (miT TbM) RX12 cX12_tellBand 5 none 149 (i_istore 150 3) := snd_istore_n rfl (by decide) dX12_tellBand_149
theorem sX12_tellBand_150 {h0 : Hp_} : Snd 73 107 h0 (miT TbM) RX12 cX12_tellBand 5 none 150 (i_aload 151 0) := snd_aload_n rfl dX12_tellBand_150
theorem sX12_tellBand_151 {h0 : Hp_} : Snd 73 107 h0 (miT TbM) RX12 cX12_tellBand 5 none 151 (i_iload 152 3) := snd_iload_n rfl dX12_tellBand_151
theorem sX12_tellBand_152 {h0 : Hp_} : Snd 73 107 h0 (miT TbM) RX12 cX12_tellBand 5 none 152 (i_const 153 (vI 2)) := snd_iconst dX12_tellBand_152
theorem sX12_tellBand_153 {h0 : Hp_} : Snd 73 107 h0 (miT TbM) RX12 cX12_tellBand 5 none 153 (i_cV2 3 11 156) := snd_cV2 (fun hK hd hC ho hs h6 h7 h8 kk => iv_X12_308 hK (mcM_3 hC) ho hs ⟨hd, by show _ ≤ 40 * (_ + 1); omega⟩ (Nat.le_refl _) h6 h7 h8 ⟨Nat.le_refl _, Nat.le_refl _⟩ dX12_tellBand_153 kk)
theorem sX12_tellBand_156 {h0 : Hp_} : Snd 73 107 h0 (miT TbM) RX12 cX12_tellBand 5 none 156 (i_aload 157 0) := snd_aload_n rfl dX12_tellBand_156
theorem sX12_tellBand_157 {h0 : Hp_} : Snd 73 107 h0 (miT TbM) RX12 cX12_tellBand 5 none 157 (i_const 158 (vI 0)) := snd_iconst dX12_tellBand_157
theorem sX12_tellBand_158 {h0 : Hp_} : Snd 73 107 h0 (miT TbM) RX12 cX12_tellBand 5 none 158 (i_putZ 11 28 161) := snd_putZ hl73 (fun hK ho hs hx kk => pf_X12_227 hK ho hs hx dX12_tellBand_158 kk)
theorem sX12_tellBand_161 {h0 : Hp_} : Snd 73 107 h0 (miT TbM) RX12 cX12_tellBand 5 none 161 (i_aload 162 0) := snd_aload_n rfl dX12_tellBand_161
theorem sX12_tellBand_162 {h0 : Hp_} : Snd 73 107 h0 (miT TbM) RX12 cX12_tellBand 5 none 162 (i_iload 163 1) := snd_iload_n rfl dX12_tellBand_162
theorem sX12_tellBand_163 {h0 : Hp_} : Snd 73 107 h0 (miT TbM) RX12 cX12_tellBand 5 none 163 (i_iload 165 4) := snd_iload dX12_tellBand_163
theorem sX12_tellBand_165 {h0 : Hp_} : Snd 73 107 h0 (miT TbM) RX12 cX12_tellBand 5 none 165 (i_cV2 46 11 168) := snd_cV2 (fun hK hd hC ho hs h6 h7 h8 kk => iv_X12_299 hK (mcM_46 hC) ho hs ⟨hd, by show _ ≤ 40 * (_ + 1); omega⟩ (Nat.le_refl _) h6 h7 h8 ⟨Nat.le_refl _, Nat.le_refl _⟩ dX12_tellBand_165 kk)
theorem sX12_tellBand_168 {h0 : Hp_} : Snd 73 107 h0 (miT TbM) RX12 cX12_tellBand 5 none 168 (i_aload 169 0) := snd_aload_n rfl dX12_tellBand_168
theorem sX12_tellBand_169 {h0 : Hp_} : Snd 73 107 h0 (miT TbM) RX12 cX12_tellBand 5 none 169 (i_aload 170 0) := snd_aload_n rfl dX12_tellBand_169
theorem sX12_tellBand_170 {h0 : Hp_} : Snd 73 107 h0 (miT TbM) RX12 cX12_tellBand 5 none 170 (i_getI 11 28 173) := snd_getI hl73 (fun hK ho hs hv kk => gf_X12_227 hK ho hs hv dX12_tellBand_170 kk)
theorem sX12_tellBand_173 {h0 : Hp_} : Snd 73 107 h0 (miT TbM) RX12 cX12_tellBand 5 none 173 (i_if_eq 176 190) := snd_if_eq dX12_tellBand_173 rfl
theorem sX12_tellBand_176 {h0 : Hp_} : Snd 73 107 h0 (miT TbM) RX12 cX12_tellBand 5 none 176 (i_iload 177 3) := snd_iload_n rfl dX12_tellBand_176
theorem sX12_tellBand_177 {h0 : Hp_} : Snd 73 107 h0 (miT TbM) RX12 cX12_tellBand 5 none 177 (i_aload 178 0) := snd_aload_n rfl dX12_tellBand_177
theorem sX12_tellBand_178 {h0 : Hp_} : Snd 73 107 h0 (miT TbM) RX12 cX12_tellBand 5 none 178 (i_getR 11 21 181) := snd_getR rfl (by decide) (by decide) (by decide) (fun hK ho hs hq kk => gf_X12_69 hK ho hs hq rfl dX12_tellBand_178 kk)
theorem sX12_tellBand_181 {h0 : Hp_} : Snd 73 107 h0 (miT TbM) RX12 cX12_tellBand 5 none 181 (i_iload 182 1) := snd_iload_n rfl dX12_tellBand_181
theorem sX12_tellBand_182 {h0 : Hp_} : Snd 73 107 h0 (miT TbM) RX12 cX12_tellBand 5 none 182 (i_iald 73 107 183) := snd_iald dX12_tellBand_182
theorem sX12_tellBand_183 {h0 : Hp_} : Snd 73 107 h0 (miT TbM) RX12 cX12_tellBand 5 none 183 (i_icmp_ge 186 190) := snd_icmp_ge dX12_tellBand_183 rfl
theorem sX12_tellBand_186 {h0 : Hp_} : Snd 73 107 h0 (miT TbM) RX12 cX12_tellBand 5 none 186 (i_const 187 (vI 1)) := snd_iconst dX12_tellBand_186
theorem sX12_tellBand_187 {h0 : Hp_} : Snd 73 107 h0 (miT TbM) RX12 cX12_tellBand 5 none 187 (i_goto 191) := snd_goto dX12_tellBand_187 rfl
theorem sX12_tellBand_190 {h0 : Hp_} : Snd 73 107 h0 (miT TbM) RX12 cX12_tellBand 5 none 190 (i_const 191 (vI 0)) := snd_iconst dX12_tellBand_190
theorem sX12_tellBand_191 {h0 : Hp_} : Snd 73 107 h0 (miT TbM) RX12 cX12_tellBand 5 none 191 (i_putZ 11 28 194) := snd_putZ hl73 (fun hK ho hs hx kk => pf_X12_227 hK ho hs hx dX12_tellBand_191 kk)
theorem sX12_tellBand_194 {h0 : Hp_} : Snd 73 107 h0 (miT TbM) RX12 cX12_tellBand 5 none 194 (i_goto 130) := snd_goto dX12_tellBand_194 rfl
theorem sX12_tellBand_197 {h0 : Hp_} : Snd 73 107 h0 (miT TbM) RX12 cX12_tellBand 5 none 197 (i_aload 198 0) := snd_aload_n rfl dX12_tellBand_197
theorem sX12_tellBand_198 {h0 : Hp_} : Snd 73 107 h0 (miT TbM) RX12 cX12_tellBand 5 none 198 (i_getR 11 22 201) := snd_getR rfl (by decide) (by decide) (by decide) (fun hK ho hs hq kk => gf_X12_72 hK ho hs hq rfl dX12_tellBand_198 kk)
theorem sX12_tellBand_201 {h0 : Hp_} : Snd 73 107 h0 (miT TbM) RX12 cX12_tellBand 5 none 201 (i_const 203 (vI 35)) := snd_bipush (by decide) dX12_tellBand_201
theorem sX12_tellBand_203 {h0 : Hp_} : Snd 73 107 h0 (miT TbM) RX12 cX12_tellBand 5 none 203 (i_iload 204 1) := snd_iload_n rfl dX12_tellBand_203
theorem sX12_tellBand_204 {h0 : Hp_} : Snd 73 107 h0 (miT TbM) RX12 cX12_tellBand 5 none 204 (i_imul 205) := snd_imul dX12_tellBand_204
theorem sX12_tellBand_205 {h0 : Hp_} : Snd 73 107 h0 (miT TbM) RX12 cX12_tellBand 5 none 205 (i_iload 207 4) := snd_iload dX12_tellBand_205
theorem sX12_tellBand_207 {h0 : Hp_} : Snd 73 107 h0 (miT TbM) RX12 cX12_tellBand 5 none 207 (i_iadd 208) := snd_iadd dX12_tellBand_207
theorem sX12_tellBand_208 {h0 : Hp_} : Snd 73 107 h0 (miT TbM) RX12 cX12_tellBand 5 none 208 (i_iload 209 3) := snd_iload_n rfl dX12_tellBand_208
theorem sX12_tellBand_209 {h0 : Hp_} : Snd 73 107 h0 (miT TbM) RX12 cX12_tellBand 5 none 209 (i_iast 73 107 210) := snd_iast dX12_tellBand_209
theorem sX12_tellBand_210 {h0 : Hp_} : Snd 73 107 h0 (miT TbM) RX12 cX12_tellBand 5 none 210 (i_iinc 213 4 1) := snd_iinc (by decide) dX12_tellBand_210
theorem sX12_tellBand_213 {h0 : Hp_} : Snd 73 107 h0 (miT TbM) RX12 cX12_tellBand 5 none 213 (i_goto 111) := snd_goto dX12_tellBand_213 rfl
theorem sX12_tellBand_216 {h0 : Hp_} : Snd 73 107 h0 (miT TbM) RX12 cX12_tellBand 5 none 216 (i_vret) := snd_vret dX12_tellBand_216
theorem kX12_tellBand {h0 : Hp_} : raA (okI 73 107 h0 (miT TbM) (yX12_tellBand, cX12_tellBand, 5, none)) tX12_tellBand := (raA_br (raA_br (raA_br (raA_br (raA_br (raA_br (raA_br (raA_leaf sX12_tellBand_0) (raA_leaf sX12_tellBand_1)) (raA_br (raA_leaf sX12_tellBand_2) (raA_leaf sX12_tellBand_5))) (raA_br (raA_br (raA_leaf sX12_tellBand_6) (raA_leaf sX12_tellBand_9)) (raA_br (raA_leaf sX12_tellBand_10) (raA_leaf sX12_tellBand_11)))) (raA_br (raA_br (raA_br (raA_leaf sX12_tellBand_12) (raA_leaf sX12_tellBand_13)) (raA_br (raA_leaf sX12_tellBand_16) (raA_leaf sX12_tellBand_17))) (raA_br (raA_br (raA_leaf sX12_tellBand_18) (raA_leaf sX12_tellBand_19)) (raA_br (raA_leaf sX12_tellBand_20) (raA_leaf sX12_tellBand_23))))) (raA_br (raA_br (raA_br (raA_br (raA_leaf sX12_tellBand_25) (raA_leaf sX12_tellBand_26)) (raA_br (raA_leaf sX12_tellBand_27) (raA_leaf sX12_tellBand_28))) (raA_br (raA_br (raA_leaf sX12_tellBand_29) (raA_leaf sX12_tellBand_30)) (raA_br (raA_leaf sX12_tellBand_33) (raA_leaf sX12_tellBand_34)))) (raA_br (raA_br (raA_br (raA_leaf sX12_tellBand_35) (raA_leaf sX12_tellBand_38)) (raA_br (raA_leaf sX12_tellBand_39) (raA_leaf sX12_tellBand_40))) (raA_br (raA_br (raA_leaf sX12_tellBand_43) (raA_leaf sX12_tellBand_44)) (raA_br (raA_leaf sX12_tellBand_45) (raA_leaf sX12_tellBand_46)))))) (raA_br (raA_br (raA_br (raA_br (raA_br (raA_leaf sX12_tellBand_47) (raA_leaf sX12_tellBand_50)) (raA_br (raA_leaf sX12_tellBand_53) (raA_leaf sX12_tellBand_54))) (raA_br (raA_br (raA_leaf sX12_tellBand_57) (raA_leaf sX12_tellBand_58)) (raA_br (raA_leaf sX12_tellBand_61) (raA_leaf sX12_tellBand_62)))) (raA_br (raA_br (raA_br (raA_leaf sX12_tellBand_63) (raA_leaf sX12_tellBand_66)) (raA_br (raA_leaf sX12_tellBand_67) (raA_leaf sX12_tellBand_68))) (raA_br (raA_br (raA_leaf sX12_tellBand_69) (raA_leaf sX12_tellBand_70)) (raA_br (raA_leaf sX12_tellBand_71) (raA_leaf sX12_tellBand_72))))) (raA_br (raA_br (raA_br (raA_br (raA_leaf sX12_tellBand_73) (raA_leaf sX12_tellBand_76)) (raA_br (raA_leaf sX12_tellBand_79) (raA_leaf sX12_tellBand_80))) (raA_br (raA_br (raA_leaf sX12_tellBand_83) (raA_leaf sX12_tellBand_84)) (raA_br (raA_leaf sX12_tellBand_85) (raA_leaf sX12_tellBand_86)))) (raA_br (raA_br (raA_br (raA_leaf sX12_tellBand_87) (raA_leaf sX12_tellBand_88)) (raA_br (raA_leaf sX12_tellBand_89) (raA_leaf sX12_tellBand_92))) (raA_br (raA_br (raA_leaf sX12_tellBand_93) (raA_leaf sX12_tellBand_94)) (raA_br (raA_leaf sX12_tellBand_95) (raA_br (raA_leaf sX12_tellBand_98) (raA_leaf sX12_tellBand_101)))))))) (raA_br (raA_br (raA_br (raA_br (raA_br (raA_br (raA_leaf sX12_tellBand_102) (raA_leaf sX12_tellBand_103)) (raA_br (raA_leaf sX12_tellBand_106) (raA_leaf sX12_tellBand_107))) (raA_br (raA_br (raA_leaf sX12_tellBand_108) (raA_leaf sX12_tellBand_109)) (raA_br (raA_leaf sX12_tellBand_111) (raA_leaf sX12_tellBand_113)))) (raA_br (raA_br (raA_br (raA_leaf sX12_tellBand_114) (raA_leaf sX12_tellBand_115)) (raA_br (raA_leaf sX12_tellBand_118) (raA_leaf sX12_tellBand_121))) (raA_br (raA_br (raA_leaf sX12_tellBand_122) (raA_leaf sX12_tellBand_123)) (raA_br (raA_leaf sX12_tellBand_126) (raA_leaf sX12_tellBand_127))))) (raA_br (raA_br (raA_br (raA_br (raA_leaf sX12_tellBand_128) (raA_leaf sX12_tellBand_129)) (raA_br (raA_leaf sX12_tellBand_130) (raA_leaf sX12_tellBand_131))) (raA_br (raA_br (raA_leaf sX12_tellBand_134) (raA_leaf sX12_tellBand_137)) (raA_br (raA_leaf sX12_tellBand_140) (raA_leaf sX12_tellBand_141)))) (raA_br (raA_br (raA_br (raA_leaf sX12_tellBand_144) (raA_leaf sX12_tellBand_145)) (raA_br (raA_leaf sX12_tellBand_148) (raA_leaf sX12_tellBand_149))) (raA_br (raA_br (raA_leaf sX12_tellBand_150) (raA_leaf sX12_tellBand_151)) (raA_br (raA_leaf sX12_tellBand_152) (raA_br (raA_leaf sX12_tellBand_153) (raA_leaf sX12_tellBand_156))))))) (raA_br (raA_br (raA_br (raA_br (raA_br (raA_leaf sX12_tellBand_157) (raA_leaf sX12_tellBand_158)) (raA_br (raA_leaf sX12_tellBand_161) (raA_leaf sX12_tellBand_162))) (raA_br (raA_br (raA_leaf sX12_tellBand_163) (raA_leaf sX12_tellBand_165)) (raA_br (raA_leaf sX12_tellBand_168) (raA_leaf sX12_tellBand_169)))) (raA_br (raA_br (raA_br (raA_leaf sX12_tellBand_170) (raA_leaf sX12_tellBand_173)) (raA_br (raA_leaf sX12_tellBand_176) (raA_leaf sX12_tellBand_177))) (raA_br (raA_br (raA_leaf sX12_tellBand_178) (raA_leaf sX12_tellBand_181)) (raA_br (raA_leaf sX12_tellBand_182) (raA_leaf sX12_tellBand_183))))) (raA_br (raA_br (raA_br (raA_br (raA_leaf sX12_tellBand_186) (raA_leaf sX12_tellBand_187)) (raA_br (raA_leaf sX12_tellBand_190) (raA_leaf sX12_tellBand_191))) (raA_br (raA_br (raA_leaf sX12_tellBand_194) (raA_leaf sX12_tellBand_197)) (raA_br (raA_leaf sX12_tellBand_198) (raA_leaf sX12_tellBand_201)))) (raA_br (raA_br (raA_br (raA_leaf sX12_tellBand_203) (raA_leaf sX12_tellBand_204)) (raA_br (raA_leaf sX12_tellBand_205) (raA_leaf sX12_tellBand_207))) (raA_br (raA_br (raA_leaf sX12_tellBand_208) (raA_leaf sX12_tellBand_209)) (raA_br (raA_leaf sX12_tellBand_210) (raA_br (raA_leaf sX12_tellBand_213) (raA_leaf sX12_tellBand_216)))))))))
theorem sX12_tellBit_0 {h0 : Hp_} : Snd 73 107 h0 (miT TbM) RX12 cX12_tellBit 7 (some .int) 0 (i_aload 1 0) := snd_aload_n rfl dX12_tellBit_0
theorem sX12_tellBit_1 {h0 : Hp_} : Snd 73 107 h0 (miT TbM) RX12 cX12_tellBit 7 (some .int) 1 (i_getR 11 0 4) := snd_getR rfl (by decide) (by decide) (by decide) (fun hK ho hs hq kk => gf_X12_7 hK ho hs hq rfl dX12_tellBit_1 kk)
theorem sX12_tellBit_4 {h0 : Hp_} : Snd 73 107 h0 (miT TbM) RX12 cX12_tellBit 7 (some .int) 4 (i_aload 5 0) := snd_aload_n rfl dX12_tellBit_4
theorem sX12_tellBit_5 {h0 : Hp_} : Snd 73 107 h0 (miT TbM) RX12 cX12_tellBit 7 (some .int) 5 (i_getR 11 30 8) := snd_getR rfl (by decide) (by decide) (by decide) (fun hK ho hs hq kk => gf_X12_84 hK ho hs hq rfl dX12_tellBit_5 kk)
theorem sX12_tellBit_8 {h0 : Hp_} : Snd 73 107 h0 (miT TbM) RX12 cX12_tellBit 7 (some .int) 8 (i_iload 9 1) := snd_iload_n rfl dX12_tellBit_8
theorem sX12_tellBit_9 {h0 : Hp_} : Snd 73 107 h0 (miT TbM) RX12 cX12_tellBit 7 (some .int) 9 (i_iald 73 107 10) := snd_iald dX12_tellBit_9
theorem sX12_tellBit_10 {h0 : Hp_} : Snd 73 107 h0 (miT TbM) RX12 cX12_tellBit 7 (some .int) 10 (i_iald 73 107 11) := snd_iald dX12_tellBit_10
theorem sX12_tellBit_11 {h0 : Hp_} : Snd 73 107 h0 (miT TbM) RX12 cX12_tellBit 7 (some .int) 11 (i_istore 12 3) := snd_istore_n rfl (by decide) dX12_tellBit_11
theorem sX12_tellBit_12 {h0 : Hp_} : Snd 73 107 h0 (miT TbM) RX12 cX12_tellBit 7 (some .int) 12 (i_iload 13 2) := snd_iload_n rfl dX12_tellBit_12
theorem sX12_tellBit_13 {h0 : Hp_} : Snd 73 107 h0 (miT TbM) RX12 cX12_tellBit 7 (some .int) 13 (i_aload 14 0) := snd_aload_n rfl dX12_tellBit_13
theorem sX12_tellBit_14 {h0 : Hp_} : Snd 73 107 h0 (miT TbM) RX12 cX12_tellBit 7 (some .int) 14 (i_getR 11 31 17) := snd_getR rfl (by decide) (by decide) (by decide) (fun hK ho hs hq kk => gf_X12_87 hK ho hs hq rfl dX12_tellBit_14 kk)
theorem sX12_tellBit_17 {h0 : Hp_} : Snd 73 107 h0 (miT TbM) RX12 cX12_tellBit 7 (some .int) 17 (i_iload 18 1) := snd_iload_n rfl dX12_tellBit_17
theorem sX12_tellBit_18 {h0 : Hp_} : Snd 73 107 h0 (miT TbM) RX12 cX12_tellBit 7 (some .int) 18 (i_iald 73 107 19) := snd_iald dX12_tellBit_18
theorem sX12_tellBit_19 {h0 : Hp_} : Snd 73 107 h0 (miT TbM) RX12 cX12_tellBit 7 (some .int) 19 (i_icmp_eq 22 26) := snd_icmp_eq dX12_tellBit_19 rfl
theorem sX12_tellBit_22 {h0 : Hp_} : Snd 73 107 h0 (miT TbM) RX12 cX12_tellBit 7 (some .int) 22 (i_const 23 (vI 1)) := snd_iconst dX12_tellBit_22
theorem sX12_tellBit_23 {h0 : Hp_} : Snd 73 107 h0 (miT TbM) RX12 cX12_tellBit 7 (some .int) 23 (i_goto 27) := snd_goto dX12_tellBit_23 rfl
theorem sX12_tellBit_26 {h0 : Hp_} : Snd 73 107 h0 (miT TbM) RX12 cX12_tellBit 7 (some .int) 26 (i_const 27 (vI 0)) := snd_iconst dX12_tellBit_26
theorem sX12_tellBit_27 {h0 : Hp_} : Snd 73 107 h0 (miT TbM) RX12 cX12_tellBit 7 (some .int) 27 (i_istore 29 4) := snd_istore (by decide) dX12_tellBit_27
theorem sX12_tellBit_29 {h0 : Hp_} : Snd 73 107 h0 (miT TbM) RX12 cX12_tellBit 7 (some .int) 29 (i_aload 30 0) := snd_aload_n rfl dX12_tellBit_29
theorem sX12_tellBit_30 {h0 : Hp_} : Snd 73 107 h0 (miT TbM) RX12 cX12_tellBit 7 (some .int) 30 (i_aload 31 0) := snd_aload_n rfl dX12_tellBit_30
theorem sX12_tellBit_31 {h0 : Hp_} : Snd 73 107 h0 (miT TbM) RX12 cX12_tellBit 7 (some .int) 31 (i_getJ 11 32 34) := snd_getJ hl73 (fun hK ho hs hv kk => gf_X12_171 hK ho hs hv dX12_tellBit_31 kk)
theorem sX12_tellBit_34 {h0 : Hp_} : Snd 73 107 h0 (miT TbM) RX12 cX12_tellBit 7 (some .int) 34 (i_iload 35 3) := snd_iload_n rfl dX12_tellBit_34
theorem sX12_tellBit_35 {h0 : Hp_} : Snd 73 107 h0 (miT TbM) RX12 cX12_tellBit 7 (some .int) 35 (i_i2l 36) := snd_i2l dX12_tellBit_35
theorem sX12_tellBit_36 {h0 : Hp_} : Snd 73 107 h0 (miT TbM) RX12 cX12_tellBit 7 (some .int) 36 (i_lsub 37) := snd_lsub dX12_tellBit_36
theorem sX12_tellBit_37 {h0 : Hp_} : Snd 73 107 h0 (miT TbM) RX12 cX12_tellBit 7 (some .int) 37 (i_putJ 11 32 40) := snd_putJ hl73 (fun hK ho hs kk => pf_X12_171 hK ho hs dX12_tellBit_37 kk)
theorem sX12_tellBit_40 {h0 : Hp_} : Snd 73 107 h0 (miT TbM) RX12 cX12_tellBit 7 (some .int) 40 (i_iload 42 4) := snd_iload dX12_tellBit_40
theorem sX12_tellBit_42 {h0 : Hp_} : Snd 73 107 h0 (miT TbM) RX12 cX12_tellBit 7 (some .int) 42 (i_if_ne 45 69) := snd_if_ne dX12_tellBit_42 rfl
theorem sX12_tellBit_45 {h0 : Hp_} : Snd 73 107 h0 (miT TbM) RX12 cX12_tellBit 7 (some .int) 45 (i_aload 46 0) := snd_aload_n rfl dX12_tellBit_45
theorem sX12_tellBit_46 {h0 : Hp_} : Snd 73 107 h0 (miT TbM) RX12 cX12_tellBit 7 (some .int) 46 (i_getJ 11 32 49) := snd_getJ hl73 (fun hK ho hs hv kk => gf_X12_171 hK ho hs hv dX12_tellBit_46 kk)
theorem sX12_tellBit_49 {h0 : Hp_} : Snd 73 107 h0 (miT TbM) RX12 cX12_tellBit 7 (some .int) 49 (i_const 52 (vJ 32768)) := snd_ldc2 lc_X12_169 dX12_tellBit_49
theorem sX12_tellBit_52 {h0 : Hp_} : Snd 73 107 h0 (miT TbM) RX12 cX12_tellBit 7 (some .int) 52 (i_lcmp 53) := snd_lcmp dX12_tellBit_52
theorem sX12_tellBit_53 {h0 : Hp_} : Snd 73 107 h0 (miT TbM) RX12 cX12_tellBit 7 (some .int) 53 (i_if_lt 56 69) := snd_if_lt dX12_tellBit_53 rfl
theorem sX12_tellBit_56 {h0 : Hp_} : Snd 73 107 h0 (miT TbM) RX12 cX12_tellBit 7 (some .int) 56 (i_aload 57 0) := snd_aload_n rfl dX12_tellBit_56
theorem sX12_tellBit_57 {h0 : Hp_} : Snd 73 107 h0 (miT TbM) RX12 cX12_tellBit 7 (some .int) 57 (i_aload 58 0) := snd_aload_n rfl dX12_tellBit_57
theorem sX12_tellBit_58 {h0 : Hp_} : Snd 73 107 h0 (miT TbM) RX12 cX12_tellBit 7 (some .int) 58 (i_getJ 11 33 61) := snd_getJ hl73 (fun hK ho hs hv kk => gf_X12_175 hK ho hs hv dX12_tellBit_58 kk)
theorem sX12_tellBit_61 {h0 : Hp_} : Snd 73 107 h0 (miT TbM) RX12 cX12_tellBit 7 (some .int) 61 (i_iload 62 3) := snd_iload_n rfl dX12_tellBit_61
theorem sX12_tellBit_62 {h0 : Hp_} : Snd 73 107 h0 (miT TbM) RX12 cX12_tellBit 7 (some .int) 62 (i_i2l 63) := snd_i2l dX12_tellBit_62
theorem sX12_tellBit_63 {h0 : Hp_} : Snd 73 107 h0 (miT TbM) RX12 cX12_tellBit 7 (some .int) 63 (i_ladd 64) := snd_ladd dX12_tellBit_63
theorem sX12_tellBit_64 {h0 : Hp_} : Snd 73 107 h0 (miT TbM) RX12 cX12_tellBit 7 (some .int) 64 (i_putJ 11 33 67) := snd_putJ hl73 (fun hK ho hs kk => pf_X12_175 hK ho hs dX12_tellBit_64 kk)
theorem sX12_tellBit_67 {h0 : Hp_} : Snd 73 107 h0 (miT TbM) RX12 cX12_tellBit 7 (some .int) 67 (i_iload 68 2) := snd_iload_n rfl dX12_tellBit_67
theorem sX12_tellBit_68 {h0 : Hp_} : Snd 73 107 h0 (miT TbM) RX12 cX12_tellBit 7 (some .int) 68 (i_iret) := snd_iret dX12_tellBit_68
theorem sX12_tellBit_69 {h0 : Hp_} : Snd 73 107 h0 (miT TbM) RX12 cX12_tellBit 7 (some .int) 69 (i_aload 70 0) := snd_aload_n rfl dX12_tellBit_69
theorem sX12_tellBit_70 {h0 : Hp_} : Snd 73 107 h0 (miT TbM) RX12 cX12_tellBit 7 (some .int) 70 (i_getJ 11 32 73) := snd_getJ hl73 (fun hK ho hs hv kk => gf_X12_171 hK ho hs hv dX12_tellBit_70 kk)
theorem sX12_tellBit_73 {h0 : Hp_} : Snd 73 107 h0 (miT TbM) RX12 cX12_tellBit 7 (some .int) 73 (i_iload 74 3) := snd_iload_n rfl dX12_tellBit_73
theorem sX12_tellBit_74 {h0 : Hp_} : Snd 73 107 h0 (miT TbM) RX12 cX12_tellBit 7 (some .int) 74 (i_i2l 75) := snd_i2l dX12_tellBit_74
theorem sX12_tellBit_75 {h0 : Hp_} : Snd 73 107 h0 (miT TbM) RX12 cX12_tellBit 7 (some .int) 75 (i_lcmp 76) := snd_lcmp dX12_tellBit_75
theorem sX12_tellBit_76 {h0 : Hp_} : Snd 73 107 h0 (miT TbM) RX12 cX12_tellBit 7 (some .int) 76 (i_if_ge 79 83) := snd_if_ge dX12_tellBit_76 rfl
theorem sX12_tellBit_79 {h0 : Hp_} : Snd 73 107 h0 (miT TbM) RX12 cX12_tellBit 7 (some .int) 79 (i_const 80 (vI 1)) := snd_iconst dX12_tellBit_79
theorem sX12_tellBit_80 {h0 : Hp_} : Snd 73 107 h0 (miT TbM) RX12 cX12_tellBit 7 (some .int) 80 (i_goto 84) := snd_goto dX12_tellBit_80 rfl
theorem sX12_tellBit_83 {h0 : Hp_} : Snd 73 107 h0 (miT TbM) RX12 cX12_tellBit 7 (some .int) 83 (i_const 84 (vI 0)) := snd_iconst dX12_tellBit_83
theorem sX12_tellBit_84 {h0 : Hp_} : Snd 73 107 h0 (miT TbM) RX12 cX12_tellBit 7 (some .int) 84 (i_istore 86 5) := snd_istore (by decide) dX12_tellBit_84
theorem sX12_tellBit_86 {h0 : Hp_} : Snd 73 107 h0 (miT TbM) RX12 cX12_tellBit 7 (some .int) 86 (i_iload 88 4) := snd_iload dX12_tellBit_86
theorem sX12_tellBit_88 {h0 : Hp_} : Snd 73 107 h0 (miT TbM) RX12 cX12_tellBit 7 (some .int) 88 (i_iload 90 5) := snd_iload dX12_tellBit_88
theorem sX12_tellBit_90 {h0 : Hp_} : Snd 73 107 h0 (miT TbM) RX12 cX12_tellBit 7 (some .int) 90 (i_icmp_eq 93 97) := snd_icmp_eq dX12_tellBit_90 rfl
theorem sX12_tellBit_93 {h0 : Hp_} : Snd 73 107 h0 (miT TbM) RX12 cX12_tellBit 7 (some .int) 93 (i_const 94 (vI 1)) := snd_iconst dX12_tellBit_93
theorem sX12_tellBit_94 {h0 : Hp_} : Snd 73 107 h0 (miT TbM) RX12 cX12_tellBit 7 (some .int) 94 (i_goto 98) := snd_goto dX12_tellBit_94 rfl
theorem sX12_tellBit_97 {h0 : Hp_} : Snd 73 107 h0 (miT TbM) RX12 cX12_tellBit 7 (some .int) 97 (i_const 98 (vI 0)) := snd_iconst dX12_tellBit_97
theorem sX12_tellBit_98 {h0 : Hp_} : Snd 73 107 h0 (miT TbM) RX12 cX12_tellBit 7 (some .int) 98 (i_istore 100 6) := snd_istore (by decide) dX12_tellBit_98
theorem sX12_tellBit_100 {h0 : Hp_} : Snd 73 107 h0 (miT TbM) RX12 cX12_tellBit 7 (some .int) 100 (i_aload 101 0) := snd_aload_n rfl dX12_tellBit_100
theorem sX12_tellBit_101 {h0 : Hp_} : Snd 73 107 h0 (miT TbM) RX12 cX12_tellBit 7 (some .int) 101 (i_iload 103 6) := snd_iload dX12_tellBit_101
theorem sX12_tellBit_103 {h0 : Hp_} : Snd 73 107 h0 (miT TbM) RX12 cX12_tellBit 7 (some .int) 103 (i_if_eq 106 113) := snd_if_eq dX12_tellBit_103 rfl
theorem sX12_tellBit_106 {h0 : Hp_} : Snd 73 107 h0 (miT TbM) RX12 cX12_tellBit 7 (some .int) 106 (i_aload 107 0) := snd_aload_n rfl dX12_tellBit_106
theorem sX12_tellBit_107 {h0 : Hp_} : Snd 73 107 h0 (miT TbM) RX12 cX12_tellBit 7 (some .int) 107 (i_getJ 11 33 110) := snd_getJ hl73 (fun hK ho hs hv kk => gf_X12_175 hK ho hs hv dX12_tellBit_107 kk)
theorem sX12_tellBit_110 {h0 : Hp_} : Snd 73 107 h0 (miT TbM) RX12 cX12_tellBit 7 (some .int) 110 (i_goto 120) := snd_goto dX12_tellBit_110 rfl
theorem sX12_tellBit_113 {h0 : Hp_} : Snd 73 107 h0 (miT TbM) RX12 cX12_tellBit 7 (some .int) 113 (i_aload 114 0) := snd_aload_n rfl dX12_tellBit_113
theorem sX12_tellBit_114 {h0 : Hp_} : Snd 73 107 h0 (miT TbM) RX12 cX12_tellBit 7 (some .int) 114 (i_getJ 11 33 117) := snd_getJ hl73 (fun hK ho hs hv kk => gf_X12_175 hK ho hs hv dX12_tellBit_114 kk)
theorem sX12_tellBit_117 {h0 : Hp_} : Snd 73 107 h0 (miT TbM) RX12 cX12_tellBit 7 (some .int) 117 (i_iload 118 3) := snd_iload_n rfl dX12_tellBit_117
theorem sX12_tellBit_118 {h0 : Hp_} : Snd 73 107 h0 (miT TbM) RX12 cX12_tellBit 7 (some .int) 118 (i_i2l 119) := snd_i2l dX12_tellBit_118
theorem sX12_tellBit_119 {h0 : Hp_} : Snd 73 107 h0 (miT TbM) RX12 cX12_tellBit 7 (some .int) 119 (i_ladd 120) := snd_ladd dX12_tellBit_119
theorem sX12_tellBit_120 {h0 : Hp_} : Snd 73 107 h0 (miT TbM) RX12 cX12_tellBit 7 (some .int) 120 (i_putJ 11 33 123) := snd_putJ hl73 (fun hK ho hs kk => pf_X12_175 hK ho hs dX12_tellBit_120 kk)
theorem sX12_tellBit_123 {h0 : Hp_} : Snd 73 107 h0 (miT TbM) RX12 cX12_tellBit 7 (some .int) 123 (i_aload 124 0) := snd_aload_n rfl dX12_tellBit_123
theorem sX12_tellBit_124 {h0 : Hp_} : Snd 73 107 h0 (miT TbM) RX12 cX12_tellBit 7 (some .int) 124 (i_iload 126 6) := snd_iload dX12_tellBit_124
theorem sX12_tellBit_126 {h0 : Hp_} : Snd 73 107 h0 (miT TbM) RX12 cX12_tellBit 7 (some .int) 126 (i_if_eq 129 134) := snd_if_eq dX12_tellBit_126 rfl
theorem sX12_tellBit_129 {h0 : Hp_} : Snd 73 107 h0 (miT TbM) RX12 cX12_tellBit 7 (some .int) 129 (i_iload 130 3) := snd_iload_n rfl dX12_tellBit_129
theorem sX12_tellBit_130 {h0 : Hp_} : Snd 73 107 h0 (miT TbM) RX12 cX12_tellBit 7 (some .int) 130 (i_i2l 131) := snd_i2l dX12_tellBit_130
theorem sX12_tellBit_131 {h0 : Hp_} : Snd 73 107 h0 (miT TbM) RX12 cX12_tellBit 7 (some .int) 131 (i_goto 138) := snd_goto dX12_tellBit_131 rfl
theorem sX12_tellBit_134 {h0 : Hp_} : Snd 73 107 h0 (miT TbM) RX12 cX12_tellBit 7 (some .int) 134 (i_aload 135 0) := snd_aload_n rfl dX12_tellBit_134
theorem sX12_tellBit_135 {h0 : Hp_} : Snd 73 107 h0 (miT TbM) RX12 cX12_tellBit 7 (some .int) 135 (i_getJ 11 32 138) := snd_getJ hl73 (fun hK ho hs hv kk => gf_X12_171 hK ho hs hv dX12_tellBit_135 kk)
theorem sX12_tellBit_138 {h0 : Hp_} : Snd 73 107 h0 (miT TbM) RX12 cX12_tellBit 7 (some .int) 138 (i_putJ 11 32 141) := snd_putJ hl73 (fun hK ho hs kk => pf_X12_171 hK ho hs dX12_tellBit_138 kk)
theorem sX12_tellBit_141 {h0 : Hp_} : Snd 73 107 h0 (miT TbM) RX12 cX12_tellBit 7 (some .int) 141 (i_aload 142 0) := snd_aload_n rfl dX12_tellBit_141
theorem sX12_tellBit_142 {h0 : Hp_} : Snd 73 107 h0 (miT TbM) RX12 cX12_tellBit 7 (some .int) 142 (i_iload 143 1) := snd_iload_n rfl dX12_tellBit_142
theorem sX12_tellBit_143 {h0 : Hp_} : Snd 73 107 h0 (miT TbM) RX12 cX12_tellBit 7 (some .int) 143 (i_iload 145 4) := snd_iload dX12_tellBit_143
theorem sX12_tellBit_145 {h0 : Hp_} : Snd 73 107 h0 (miT TbM) RX12 cX12_tellBit 7 (some .int) 145 (i_cV2 25 11 148) := snd_cV2 (fun hK hd hC ho hs h6 h7 h8 kk => iv_X12_189 hK (mcM_25 hC) ho hs ⟨hd, by show _ ≤ 40 * (_ + 1); omega⟩ (Nat.le_refl _) h6 h7 h8 ⟨Nat.le_refl _, Nat.le_refl _⟩ dX12_tellBit_145 kk)
theorem sX12_tellBit_148 {h0 : Hp_} : Snd 73 107 h0 (miT TbM) RX12 cX12_tellBit 7 (some .int) 148 (i_aload 149 0) := snd_aload_n rfl dX12_tellBit_148
theorem sX12_tellBit_149 {h0 : Hp_} : Snd 73 107 h0 (miT TbM) RX12 cX12_tellBit 7 (some .int) 149 (i_getJ 11 32 152) := snd_getJ hl73 (fun hK ho hs hv kk => gf_X12_171 hK ho hs hv dX12_tellBit_149 kk)
theorem sX12_tellBit_152 {h0 : Hp_} : Snd 73 107 h0 (miT TbM) RX12 cX12_tellBit 7 (some .int) 152 (i_const 155 (vJ 32768)) := snd_ldc2 lc_X12_169 dX12_tellBit_152
theorem sX12_tellBit_155 {h0 : Hp_} : Snd 73 107 h0 (miT TbM) RX12 cX12_tellBit 7 (some .int) 155 (i_lcmp 156) := snd_lcmp dX12_tellBit_155
theorem sX12_tellBit_156 {h0 : Hp_} : Snd 73 107 h0 (miT TbM) RX12 cX12_tellBit 7 (some .int) 156 (i_if_ge 159 207) := snd_if_ge dX12_tellBit_156 rfl
theorem sX12_tellBit_159 {h0 : Hp_} : Snd 73 107 h0 (miT TbM) RX12 cX12_tellBit 7 (some .int) 159 (i_aload 160 0) := snd_aload_n rfl dX12_tellBit_159
theorem sX12_tellBit_160 {h0 : Hp_} : Snd 73 107 h0 (miT TbM) RX12 cX12_tellBit 7 (some .int) 160 (i_const 163 (vJ 2)) := snd_ldc2 lc_X12_193 dX12_tellBit_160
theorem sX12_tellBit_163 {h0 : Hp_} : Snd 73 107 h0 (miT TbM) RX12 cX12_tellBit 7 (some .int) 163 (i_aload 164 0) := snd_aload_n rfl dX12_tellBit_163
theorem sX12_tellBit_164 {h0 : Hp_} : Snd 73 107 h0 (miT TbM) RX12 cX12_tellBit 7 (some .int) 164 (i_getJ 11 32 167) := snd_getJ hl73 (fun hK ho hs hv kk => gf_X12_171 hK ho hs hv dX12_tellBit_164 kk)
theorem sX12_tellBit_167 {h0 : Hp_} : Snd 73 107 h0 (miT TbM) RX12 cX12_tellBit 7 (some .int) 167 (i_lmul 168) := snd_lmul dX12_tellBit_167
theorem sX12_tellBit_168 {h0 : Hp_} : Snd 73 107 h0 (miT TbM) RX12 cX12_tellBit 7 (some .int) 168 (i_putJ 11 32 171) := snd_putJ hl73 (fun hK ho hs kk => pf_X12_171 hK ho hs dX12_tellBit_168 kk)
theorem sX12_tellBit_171 {h0 : Hp_} : Snd 73 107 h0 (miT TbM) RX12 cX12_tellBit 7 (some .int) 171 (i_aload 172 0) := snd_aload_n rfl dX12_tellBit_171
theorem sX12_tellBit_172 {h0 : Hp_} : Snd 73 107 h0 (miT TbM) RX12 cX12_tellBit 7 (some .int) 172 (i_const 175 (vJ 2)) := snd_ldc2 lc_X12_193 dX12_tellBit_172
theorem sX12_tellBit_175 {h0 : Hp_} : Snd 73 107 h0 (miT TbM) RX12 cX12_tellBit 7 (some .int) 175 (i_aload 176 0) := snd_aload_n rfl dX12_tellBit_175
theorem sX12_tellBit_176 {h0 : Hp_} : Snd 73 107 h0 (miT TbM) RX12 cX12_tellBit 7 (some .int) 176 (i_getJ 11 33 179) := snd_getJ hl73 (fun hK ho hs hv kk => gf_X12_175 hK ho hs hv dX12_tellBit_176 kk)
theorem sX12_tellBit_179 {h0 : Hp_} : Snd 73 107 h0 (miT TbM) RX12 cX12_tellBit 7 (some .int) 179 (i_lmul 180) := snd_lmul dX12_tellBit_179
theorem sX12_tellBit_180 {h0 : Hp_} : Snd 73 107 h0 (miT TbM) RX12 cX12_tellBit 7 (some .int) 180 (i_putJ 11 33 183) := snd_putJ hl73 (fun hK ho hs kk => pf_X12_175 hK ho hs dX12_tellBit_180 kk)
theorem sX12_tellBit_183 {h0 : Hp_} : Snd 73 107 h0 (miT TbM) RX12 cX12_tellBit 7 (some .int) 183 (i_aload 184 0) := snd_aload_n rfl dX12_tellBit_183
theorem sX12_tellBit_184 {h0 : Hp_} : Snd 73 107 h0 (miT TbM) RX12 cX12_tellBit 7 (some .int) 184 (i_dup 185) := snd_dup dX12_tellBit_184
theorem sX12_tellBit_185 {h0 : Hp_} : Snd 73 107 h0 (miT TbM) RX12 cX12_tellBit 7 (some .int) 185 (i_getI 11 34 188) := snd_getI hl73 (fun hK ho hs hv kk => gf_X12_178 hK ho hs hv dX12_tellBit_185 kk)
theorem sX12_tellBit_188 {h0 : Hp_} : Snd 73 107 h0 (miT TbM) RX12 cX12_tellBit 7 (some .int) 188 (i_const 189 (vI 1)) := snd_iconst dX12_tellBit_188
theorem sX12_tellBit_189 {h0 : Hp_} : Snd 73 107 h0 (miT TbM) RX12 cX12_tellBit 7 (some .int) 189 (i_isub 190) := snd_isub dX12_tellBit_189
theorem sX12_tellBit_190 {h0 : Hp_} : Snd 73 107 h0 (miT TbM) RX12 cX12_tellBit 7 (some .int) 190 (i_putI 11 34 193) := snd_putI hl73 (fun hK ho hs kk => pf_X12_178 hK ho hs dX12_tellBit_190 kk)
theorem sX12_tellBit_193 {h0 : Hp_} : Snd 73 107 h0 (miT TbM) RX12 cX12_tellBit 7 (some .int) 193 (i_aload 194 0) := snd_aload_n rfl dX12_tellBit_193
theorem sX12_tellBit_194 {h0 : Hp_} : Snd 73 107 h0 (miT TbM) RX12 cX12_tellBit 7 (some .int) 194 (i_getI 11 34 197) := snd_getI hl73 (fun hK ho hs hv kk => gf_X12_178 hK ho hs hv dX12_tellBit_194 kk)
theorem sX12_tellBit_197 {h0 : Hp_} : Snd 73 107 h0 (miT TbM) RX12 cX12_tellBit 7 (some .int) 197 (i_if_ne 200 148) := snd_if_ne dX12_tellBit_197 rfl
theorem sX12_tellBit_200 {h0 : Hp_} : Snd 73 107 h0 (miT TbM) RX12 cX12_tellBit 7 (some .int) 200 (i_aload 201 0) := snd_aload_n rfl dX12_tellBit_200
theorem sX12_tellBit_201 {h0 : Hp_} : Snd 73 107 h0 (miT TbM) RX12 cX12_tellBit 7 (some .int) 201 (i_cV0 32 11 204) := snd_cV0 (fun hK hd hC ho hs h6 h7 h8 kk => iv_X12_195 hK (mcM_32 hC) ho hs ⟨hd, by show _ ≤ 40 * (_ + 1); omega⟩ (Nat.le_refl _) h6 h7 h8 ⟨Nat.le_refl _, Nat.le_refl _⟩ dX12_tellBit_201 kk)
theorem sX12_tellBit_204 {h0 : Hp_} : Snd 73 107 h0 (miT TbM) RX12 cX12_tellBit 7 (some .int) 204 (i_goto 148) := snd_goto dX12_tellBit_204 rfl
theorem sX12_tellBit_207 {h0 : Hp_} : Snd 73 107 h0 (miT TbM) RX12 cX12_tellBit 7 (some .int) 207 (i_iload 208 2) := snd_iload_n rfl dX12_tellBit_207
theorem sX12_tellBit_208 {h0 : Hp_} : Snd 73 107 h0 (miT TbM) RX12 cX12_tellBit 7 (some .int) 208 (i_iret) := snd_iret dX12_tellBit_208
theorem kX12_tellBit {h0 : Hp_} : raA (okI 73 107 h0 (miT TbM) (yX12_tellBit, cX12_tellBit, 7, (some .int))) tX12_tellBit := (raA_br (raA_br (raA_br (raA_br (raA_br (raA_br (raA_leaf sX12_tellBit_0) (raA_br (raA_leaf sX12_tellBit_1) (raA_leaf sX12_tellBit_4))) (raA_br (raA_br (raA_leaf sX12_tellBit_5) (raA_leaf sX12_tellBit_8)) (raA_br (raA_leaf sX12_tellBit_9) (raA_leaf sX12_tellBit_10)))) (raA_br (raA_br (raA_leaf sX12_tellBit_11) (raA_br (raA_leaf sX12_tellBit_12) (raA_leaf sX12_tellBit_13))) (raA_br (raA_br (raA_leaf sX12_tellBit_14) (raA_leaf sX12_tellBit_17)) (raA_br (raA_leaf sX12_tellBit_18) (raA_leaf sX12_tellBit_19))))) (raA_br (raA_br (raA_br (raA_leaf sX12_tellBit_22) (raA_br (raA_leaf sX12_tellBit_23) (raA_leaf sX12_tellBit_26))) (raA_br (raA_br (raA_leaf sX12_tellBit_27) (raA_leaf sX12_tellBit_29)) (raA_br (raA_leaf sX12_tellBit_30) (raA_leaf sX12_tellBit_31)))) (raA_br (raA_br (raA_leaf sX12_tellBit_34) (raA_br (raA_leaf sX12_tellBit_35) (raA_leaf sX12_tellBit_36))) (raA_br (raA_br (raA_leaf sX12_tellBit_37) (raA_leaf sX12_tellBit_40)) (raA_br (raA_leaf sX12_tellBit_42) (raA_leaf sX12_tellBit_45)))))) (raA_br (raA_br (raA_br (raA_br (raA_leaf sX12_tellBit_46) (raA_br (raA_leaf sX12_tellBit_49) (raA_leaf sX12_tellBit_52))) (raA_br (raA_br (raA_leaf sX12_tellBit_53) (raA_leaf sX12_tellBit_56)) (raA_br (raA_leaf sX12_tellBit_57) (raA_leaf sX12_tellBit_58)))) (raA_br (raA_br (raA_leaf sX12_tellBit_61) (raA_br (raA_leaf sX12_tellBit_62) (raA_leaf sX12_tellBit_63))) (raA_br (raA_br (raA_leaf sX12_tellBit_64) (raA_leaf sX12_tellBit_67)) (raA_br (raA_leaf sX12_tellBit_68) (raA_leaf sX12_tellBit_69))))) (raA_br (raA_br (raA_br (raA_leaf sX12_tellBit_70) (raA_br (raA_leaf sX12_tellBit_73) (raA_leaf sX12_tellBit_74))) (raA_br (raA_br (raA_leaf sX12_tellBit_75) (raA_leaf sX12_tellBit_76)) (raA_br (raA_leaf sX12_tellBit_79) (raA_leaf sX12_tellBit_80)))) (raA_br (raA_br (raA_br (raA_leaf sX12_tellBit_83) (raA_leaf sX12_tellBit_84)) (raA_br (raA_leaf sX12_tellBit_86) (raA_leaf sX12_tellBit_88))) (raA_br (raA_br (raA_leaf sX12_tellBit_90) (raA_leaf sX12_tellBit_93)) (raA_br (raA_leaf sX12_tellBit_94) (raA_leaf sX12_tellBit_97))))))) (raA_br (raA_br (raA_br (raA_br (raA_br (raA_leaf sX12_tellBit_98) (raA_br (raA_leaf sX12_tellBit_100) (raA_leaf sX12_tellBit_101))) (raA_br (raA_br (raA_leaf sX12_tellBit_103) (raA_leaf sX12_tellBit_106)) (raA_br (raA_leaf sX12_tellBit_107) (raA_leaf sX12_tellBit_110)))) (raA_br (raA_br (raA_leaf sX12_tellBit_113) (raA_br (raA_leaf sX12_tellBit_114) (raA_leaf sX12_tellBit_117))) (raA_br (raA_br (raA_leaf sX12_tellBit_118) (raA_leaf sX12_tellBit_119)) (raA_br (raA_leaf sX12_tellBit_120) (raA_leaf sX12_tellBit_123))))) (raA_br (raA_br (raA_br (raA_leaf sX12_tellBit_124) (raA_br (raA_leaf sX12_tellBit_126) (raA_leaf sX12_tellBit_129))) (raA_br (raA_br (raA_leaf sX12_tellBit_130) (raA_leaf sX12_tellBit_131)) (raA_br (raA_leaf sX12_tellBit_134) (raA_leaf sX12_tellBit_135)))) (raA_br (raA_br (raA_leaf sX12_tellBit_138) (raA_br (raA_leaf sX12_tellBit_141) (raA_leaf sX12_tellBit_142))) (raA_br (raA_br (raA_leaf sX12_tellBit_143) (raA_leaf sX12_tellBit_145)) (raA_br (raA_leaf sX12_tellBit_148) (raA_leaf sX12_tellBit_149)))))) (raA_br (raA_br (raA_br (raA_br (raA_leaf sX12_tellBit_152) (raA_br (raA_leaf sX12_tellBit_155) (raA_leaf sX12_tellBit_156))) (raA_br (raA_br (raA_leaf sX12_tellBit_159) (raA_leaf sX12_tellBit_160)) (raA_br (raA_leaf sX12_tellBit_163) (raA_leaf sX12_tellBit_164)))) (raA_br (raA_br (raA_leaf sX12_tellBit_167) (raA_br (raA_leaf sX12_tellBit_168) (raA_leaf sX12_tellBit_171))) (raA_br (raA_br (raA_leaf sX12_tellBit_172) (raA_leaf sX12_tellBit_175)) (raA_br (raA_leaf sX12_tellBit_176) (raA_leaf sX12_tellBit_179))))) (raA_br (raA_br (raA_br (raA_leaf sX12_tellBit_180) (raA_br (raA_leaf sX12_tellBit_183) (raA_leaf sX12_tellBit_184))) (raA_br (raA_br (raA_leaf sX12_tellBit_185) (raA_leaf sX12_tellBit_188)) (raA_br (raA_leaf sX12_tellBit_189) (raA_leaf sX12_tellBit_190)))) (raA_br (raA_br (raA_br (raA_leaf sX12_tellBit_193) (raA_leaf sX12_tellBit_194)) (raA_br (raA_leaf sX12_tellBit_197) (raA_leaf sX12_tellBit_200))) (raA_br (raA_br (raA_leaf sX12_tellBit_201) (raA_leaf sX12_tellBit_204)) (raA_br (raA_leaf sX12_tellBit_207) (raA_leaf sX12_tellBit_208))))))))
theorem sX12_unit_0 {h0 : Hp_} : Snd 73 107 h0 (miT TbM) RX12 cX12_unit 1 (some .int) 0 (i_iload 1 0) := snd_iload_n rfl dX12_unit_0
theorem sX12_unit_1 {h0 : Hp_} : Snd 73 107 h0 (miT TbM) RX12 cX12_unit 1 (some .int) 1 (i_if_le 4 8) := snd_if_le dX12_unit_1 rfl
theorem sX12_unit_4 {h0 : Hp_} : Snd 73 107 h0 (miT TbM) RX12 cX12_unit 1 (some .int) 4 (i_const 5 (vI 1)) := snd_iconst dX12_unit_4
theorem sX12_unit_5 {h0 : Hp_} : Snd 73 107 h0 (miT TbM) RX12 cX12_unit 1 (some .int) 5 (i_goto 17) := snd_goto dX12_unit_5 rfl
theorem sX12_unit_8 {h0 : Hp_} : Snd 73 107 h0 (miT TbM) RX12 cX12_unit 1 (some .int) 8 (i_iload 9 0) := snd_iload_n rfl dX12_unit_8
theorem sX12_unit_9 {h0 : Hp_} : Snd 73 107 h0 (miT TbM) RX12 cX12_unit 1 (some .int) 9 (i_if_ge 12 16) := snd_if_ge dX12_unit_9 rfl
theorem sX12_unit_12 {h0 : Hp_} : Snd 73 107 h0 (miT TbM) RX12 cX12_unit 1 (some .int) 12 (i_const 13 (vI (-1))) := snd_iconst dX12_unit_12
theorem sX12_unit_13 {h0 : Hp_} : Snd 73 107 h0 (miT TbM) RX12 cX12_unit 1 (some .int) 13 (i_goto 17) := snd_goto dX12_unit_13 rfl
theorem sX12_unit_16 {h0 : Hp_} : Snd 73 107 h0 (miT TbM) RX12 cX12_unit 1 (some .int) 16 (i_const 17 (vI 0)) := snd_iconst dX12_unit_16
theorem sX12_unit_17 {h0 : Hp_} : Snd 73 107 h0 (miT TbM) RX12 cX12_unit 1 (some .int) 17 (i_iret) := snd_iret dX12_unit_17
theorem kX12_unit {h0 : Hp_} : raA (okI 73 107 h0 (miT TbM) (yX12_unit, cX12_unit, 1, (some .int))) tX12_unit := (raA_br (raA_br (raA_br (raA_leaf sX12_unit_0) (raA_leaf sX12_unit_1)) (raA_br (raA_leaf sX12_unit_4) (raA_br (raA_leaf sX12_unit_5) (raA_leaf sX12_unit_8)))) (raA_br (raA_br (raA_leaf sX12_unit_9) (raA_leaf sX12_unit_12)) (raA_br (raA_leaf sX12_unit_13) (raA_br (raA_leaf sX12_unit_16) (raA_leaf sX12_unit_17)))))
theorem sX12_useWord_0 {h0 : Hp_} : Snd 73 107 h0 (miT TbM) RX12 cX12_useWord 3 none 0 (i_const 1 (vI 0)) := snd_iconst dX12_useWord_0
theorem sX12_useWord_1 {h0 : Hp_} : Snd 73 107 h0 (miT TbM) RX12 cX12_useWord 3 none 1 (i_istore 2 2) := snd_istore_n rfl (by decide) dX12_useWord_1
theorem sX12_useWord_2 {h0 : Hp_} : Snd 73 107 h0 (miT TbM) RX12 cX12_useWord 3 none 2 (i_iload 3 2) := snd_iload_n rfl dX12_useWord_2
theorem sX12_useWord_3 {h0 : Hp_} : Snd 73 107 h0 (miT TbM) RX12 cX12_useWord 3 none 3 (i_aload 4 0) := snd_aload_n rfl dX12_useWord_3
theorem sX12_useWord_4 {h0 : Hp_} : Snd 73 107 h0 (miT TbM) RX12 cX12_useWord 3 none 4 (i_getR 11 21 7) := snd_getR rfl (by decide) (by decide) (by decide) (fun hK ho hs hq kk => gf_X12_69 hK ho hs hq rfl dX12_useWord_4 kk)
theorem sX12_useWord_7 {h0 : Hp_} : Snd 73 107 h0 (miT TbM) RX12 cX12_useWord 3 none 7 (i_iload 8 1) := snd_iload_n rfl dX12_useWord_7
theorem sX12_useWord_8 {h0 : Hp_} : Snd 73 107 h0 (miT TbM) RX12 cX12_useWord 3 none 8 (i_iald 73 107 9) := snd_iald dX12_useWord_8
theorem sX12_useWord_9 {h0 : Hp_} : Snd 73 107 h0 (miT TbM) RX12 cX12_useWord 3 none 9 (i_icmp_ge 12 37) := snd_icmp_ge dX12_useWord_9 rfl
theorem sX12_useWord_12 {h0 : Hp_} : Snd 73 107 h0 (miT TbM) RX12 cX12_useWord 3 none 12 (i_aload 13 0) := snd_aload_n rfl dX12_useWord_12
theorem sX12_useWord_13 {h0 : Hp_} : Snd 73 107 h0 (miT TbM) RX12 cX12_useWord 3 none 13 (i_getR 11 37 16) := snd_getR rfl (by decide) (by decide) (by decide) (fun hK ho hs hq kk => gf_X12_93 hK ho hs hq rfl dX12_useWord_13 kk)
theorem sX12_useWord_16 {h0 : Hp_} : Snd 73 107 h0 (miT TbM) RX12 cX12_useWord 3 none 16 (i_iload 17 2) := snd_iload_n rfl dX12_useWord_16
theorem sX12_useWord_17 {h0 : Hp_} : Snd 73 107 h0 (miT TbM) RX12 cX12_useWord 3 none 17 (i_aload 18 0) := snd_aload_n rfl dX12_useWord_17
theorem sX12_useWord_18 {h0 : Hp_} : Snd 73 107 h0 (miT TbM) RX12 cX12_useWord 3 none 18 (i_getR 11 19 21) := snd_getR rfl (by decide) (by decide) (by decide) (fun hK ho hs hq kk => gf_X12_63 hK ho hs hq rfl dX12_useWord_18 kk)
theorem sX12_useWord_21 {h0 : Hp_} : Snd 73 107 h0 (miT TbM) RX12 cX12_useWord 3 none 21 (i_aload 22 0) := snd_aload_n rfl dX12_useWord_21
theorem sX12_useWord_22 {h0 : Hp_} : Snd 73 107 h0 (miT TbM) RX12 cX12_useWord 3 none 22 (i_getR 11 20 25) := snd_getR rfl (by decide) (by decide) (by decide) (fun hK ho hs hq kk => gf_X12_66 hK ho hs hq rfl dX12_useWord_22 kk)
theorem sX12_useWord_25 {h0 : Hp_} : Snd 73 107 h0 (miT TbM) RX12 cX12_useWord 3 none 25 (i_iload 26 1) := snd_iload_n rfl dX12_useWord_25
theorem sX12_useWord_26 {h0 : Hp_} : Snd 73 107 h0 (miT TbM) RX12 cX12_useWord 3 none 26 (i_iald 73 107 27) := snd_iald dX12_useWord_26
theorem sX12_useWord_27 {h0 : Hp_} : Snd 73 107 h0 (miT TbM) RX12 cX12_useWord 3 none 27 (i_iload 28 2) := snd_iload_n rfl dX12_useWord_27
theorem sX12_useWord_28 {h0 : Hp_} : Snd 73 107 h0 (miT TbM) RX12 cX12_useWord 3 none 28 (i_iadd 29) := snd_iadd dX12_useWord_28
theorem sX12_useWord_29 {h0 : Hp_} : Snd 73 107 h0 (miT TbM) RX12 cX12_useWord 3 none 29 (i_iald 73 107 30) := snd_iald dX12_useWord_29
theorem sX12_useWord_30 {h0 : Hp_} : Snd 73 107 h0 (miT TbM) RX12 cX12_useWord 3 none 30 (i_iast 73 107 31) := snd_iast dX12_useWord_30
theorem sX12_useWord_31 {h0 : Hp_} : Snd 73 107 h0 (miT TbM) RX12 cX12_useWord 3 none 31 (i_iinc 34 2 1) := snd_iinc (by decide) dX12_useWord_31
theorem sX12_useWord_34 {h0 : Hp_} : Snd 73 107 h0 (miT TbM) RX12 cX12_useWord 3 none 34 (i_goto 2) := snd_goto dX12_useWord_34 rfl
theorem sX12_useWord_37 {h0 : Hp_} : Snd 73 107 h0 (miT TbM) RX12 cX12_useWord 3 none 37 (i_vret) := snd_vret dX12_useWord_37
theorem kX12_useWord {h0 : Hp_} : raA (okI 73 107 h0 (miT TbM) (yX12_useWord, cX12_useWord, 3, none)) tX12_useWord := (raA_br (raA_br (raA_br (raA_br (raA_leaf sX12_useWord_0) (raA_br (raA_leaf sX12_useWord_1) (raA_leaf sX12_useWord_2))) (raA_br (raA_leaf sX12_useWord_3) (raA_br (raA_leaf sX12_useWord_4) (raA_leaf sX12_useWord_7)))) (raA_br (raA_br (raA_leaf sX12_useWord_8) (raA_br (raA_leaf sX12_useWord_9) (raA_leaf sX12_useWord_12))) (raA_br (raA_leaf sX12_useWord_13) (raA_br (raA_leaf sX12_useWord_16) (raA_leaf sX12_useWord_17))))) (raA_br (raA_br (raA_br (raA_leaf sX12_useWord_18) (raA_br (raA_leaf sX12_useWord_21) (raA_leaf sX12_useWord_22))) (raA_br (raA_leaf sX12_useWord_25) (raA_br (raA_leaf sX12_useWord_26) (raA_leaf sX12_useWord_27)))) (raA_br (raA_br (raA_leaf sX12_useWord_28) (raA_br (raA_leaf sX12_useWord_29) (raA_leaf sX12_useWord_30))) (raA_br (raA_leaf sX12_useWord_31) (raA_br (raA_leaf sX12_useWord_34) (raA_leaf sX12_useWord_37))))))
theorem sX12_wake_0 {h0 : Hp_} : Snd 73 107 h0 (miT TbM) RX12 cX12_wake 10 none 0 (i_iload 1 1) := snd_iload_n rfl dX12_wake_0
theorem sX12_wake_1 {h0 : Hp_} : Snd 73 107 h0 (miT TbM) RX12 cX12_wake 10 none 1 (i_iload 2 2) := snd_iload_n rfl dX12_wake_1
theorem sX12_wake_2 {h0 : Hp_} : Snd 73 107 h0 (miT TbM) RX12 cX12_wake 10 none 2 (i_cS2 37 5) := snd_cS2 (fun hK hd hC h6 h7 h8 kk => iv_X12_234 hK (mcM_37 hC) ⟨hd, by show _ ≤ 40 * (_ + 1); omega⟩ (Nat.le_refl _) h6 h7 h8 ⟨Nat.le_refl _, Nat.le_refl _⟩ dX12_wake_2 kk)
theorem sX12_wake_5 {h0 : Hp_} : Snd 73 107 h0 (miT TbM) RX12 cX12_wake 10 none 5 (i_istore 6 3) := snd_istore_n rfl (by decide) dX12_wake_5
theorem sX12_wake_6 {h0 : Hp_} : Snd 73 107 h0 (miT TbM) RX12 cX12_wake 10 none 6 (i_aload 7 0) := snd_aload_n rfl dX12_wake_6
theorem sX12_wake_7 {h0 : Hp_} : Snd 73 107 h0 (miT TbM) RX12 cX12_wake 10 none 7 (i_getR 11 23 10) := snd_getR rfl (by decide) (by decide) (by decide) (fun hK ho hs hq kk => gf_X12_75 hK ho hs hq rfl dX12_wake_7 kk)
theorem sX12_wake_10 {h0 : Hp_} : Snd 73 107 h0 (miT TbM) RX12 cX12_wake 10 none 10 (i_iload 11 3) := snd_iload_n rfl dX12_wake_10
theorem sX12_wake_11 {h0 : Hp_} : Snd 73 107 h0 (miT TbM) RX12 cX12_wake 10 none 11 (i_const 12 (vI 1)) := snd_iconst dX12_wake_11
theorem sX12_wake_12 {h0 : Hp_} : Snd 73 107 h0 (miT TbM) RX12 cX12_wake 10 none 12 (i_isub 13) := snd_isub dX12_wake_12
theorem sX12_wake_13 {h0 : Hp_} : Snd 73 107 h0 (miT TbM) RX12 cX12_wake 10 none 13 (i_iald 73 107 14) := snd_iald dX12_wake_13
theorem sX12_wake_14 {h0 : Hp_} : Snd 73 107 h0 (miT TbM) RX12 cX12_wake 10 none 14 (i_aload 15 0) := snd_aload_n rfl dX12_wake_14
theorem sX12_wake_15 {h0 : Hp_} : Snd 73 107 h0 (miT TbM) RX12 cX12_wake 10 none 15 (i_getR 11 23 18) := snd_getR rfl (by decide) (by decide) (by decide) (fun hK ho hs hq kk => gf_X12_75 hK ho hs hq rfl dX12_wake_15 kk)
theorem sX12_wake_18 {h0 : Hp_} : Snd 73 107 h0 (miT TbM) RX12 cX12_wake 10 none 18 (i_iload 19 3) := snd_iload_n rfl dX12_wake_18
theorem sX12_wake_19 {h0 : Hp_} : Snd 73 107 h0 (miT TbM) RX12 cX12_wake 10 none 19 (i_const 20 (vI 1)) := snd_iconst dX12_wake_19
theorem sX12_wake_20 {h0 : Hp_} : Snd 73 107 h0 (miT TbM) RX12 cX12_wake 10 none 20 (i_iadd 21) := snd_iadd dX12_wake_20
theorem sX12_wake_21 {h0 : Hp_} : Snd 73 107 h0 (miT TbM) RX12 cX12_wake 10 none 21 (i_iald 73 107 22) := snd_iald dX12_wake_21
theorem sX12_wake_22 {h0 : Hp_} : Snd 73 107 h0 (miT TbM) RX12 cX12_wake 10 none 22 (i_iadd 23) := snd_iadd dX12_wake_22
theorem sX12_wake_23 {h0 : Hp_} : Snd 73 107 h0 (miT TbM) RX12 cX12_wake 10 none 23 (i_cS1 43 26) := snd_cS1 (fun hK hd hC h6 h7 h8 kk => iv_X12_255 hK (mcM_43 hC) ⟨hd, by show _ ≤ 40 * (_ + 1); omega⟩ (Nat.le_refl _) h6 h7 h8 ⟨Nat.le_refl _, Nat.le_refl _⟩ dX12_wake_23 kk)
theorem sX12_wake_26 {h0 : Hp_} : Snd 73 107 h0 (miT TbM) RX12 cX12_wake 10 none 26 (i_istore 28 4) := snd_istore (by decide) dX12_wake_26
theorem sX12_wake_28 {h0 : Hp_} : Snd 73 107 h0 (miT TbM) RX12 cX12_wake 10 none 28 (i_aload 29 0) := snd_aload_n rfl dX12_wake_28
theorem sX12_wake_29 {h0 : Hp_} : Snd 73 107 h0 (miT TbM) RX12 cX12_wake 10 none 29 (i_getR 11 23 32) := snd_getR rfl (by decide) (by decide) (by decide) (fun hK ho hs hq kk => gf_X12_75 hK ho hs hq rfl dX12_wake_29 kk)
theorem sX12_wake_32 {h0 : Hp_} : Snd 73 107 h0 (miT TbM) RX12 cX12_wake 10 none 32 (i_iload 33 3) := snd_iload_n rfl dX12_wake_32
theorem sX12_wake_33 {h0 : Hp_} : Snd 73 107 h0 (miT TbM) RX12 cX12_wake 10 none 33 (i_const 35 (vI 10)) := snd_bipush (by decide) dX12_wake_33
theorem sX12_wake_35 {h0 : Hp_} : Snd 73 107 h0 (miT TbM) RX12 cX12_wake 10 none 35 (i_isub 36) := snd_isub dX12_wake_35
theorem sX12_wake_36 {h0 : Hp_} : Snd 73 107 h0 (miT TbM) RX12 cX12_wake 10 none 36 (i_iald 73 107 37) := snd_iald dX12_wake_36
theorem sX12_wake_37 {h0 : Hp_} : Snd 73 107 h0 (miT TbM) RX12 cX12_wake 10 none 37 (i_aload 38 0) := snd_aload_n rfl dX12_wake_37
theorem sX12_wake_38 {h0 : Hp_} : Snd 73 107 h0 (miT TbM) RX12 cX12_wake 10 none 38 (i_getR 11 23 41) := snd_getR rfl (by decide) (by decide) (by decide) (fun hK ho hs hq kk => gf_X12_75 hK ho hs hq rfl dX12_wake_38 kk)
theorem sX12_wake_41 {h0 : Hp_} : Snd 73 107 h0 (miT TbM) RX12 cX12_wake 10 none 41 (i_iload 42 3) := snd_iload_n rfl dX12_wake_41
theorem sX12_wake_42 {h0 : Hp_} : Snd 73 107 h0 (miT TbM) RX12 cX12_wake 10 none 42 (i_const 44 (vI 10)) := snd_bipush (by decide) dX12_wake_42
theorem sX12_wake_44 {h0 : Hp_} : Snd 73 107 h0 (miT TbM) RX12 cX12_wake 10 none 44 (i_iadd 45) := snd_iadd dX12_wake_44
theorem sX12_wake_45 {h0 : Hp_} : Snd 73 107 h0 (miT TbM) RX12 cX12_wake 10 none 45 (i_iald 73 107 46) := snd_iald dX12_wake_45
theorem sX12_wake_46 {h0 : Hp_} : Snd 73 107 h0 (miT TbM) RX12 cX12_wake 10 none 46 (i_iadd 47) := snd_iadd dX12_wake_46
theorem sX12_wake_47 {h0 : Hp_} : Snd 73 107 h0 (miT TbM) RX12 cX12_wake 10 none 47 (i_cS1 43 50) := snd_cS1 (fun hK hd hC h6 h7 h8 kk => iv_X12_255 hK (mcM_43 hC) ⟨hd, by show _ ≤ 40 * (_ + 1); omega⟩ (Nat.le_refl _) h6 h7 h8 ⟨Nat.le_refl _, Nat.le_refl _⟩ dX12_wake_47 kk)
theorem sX12_wake_50 {h0 : Hp_} : Snd 73 107 h0 (miT TbM) RX12 cX12_wake 10 none 50 (i_istore 52 5) := snd_istore (by decide) dX12_wake_50
theorem sX12_wake_52 {h0 : Hp_} : Snd 73 107 h0 (miT TbM) RX12 cX12_wake 10 none 52 (i_iload 54 4) := snd_iload dX12_wake_52
theorem sX12_wake_54 {h0 : Hp_} : Snd 73 107 h0 (miT TbM) RX12 cX12_wake 10 none 54 (i_if_lt 57 67) := snd_if_lt dX12_wake_54 rfl
theorem sX12_wake_57 {h0 : Hp_} : Snd 73 107 h0 (miT TbM) RX12 cX12_wake 10 none 57 (i_iload 59 4) := snd_iload dX12_wake_57
theorem sX12_wake_59 {h0 : Hp_} : Snd 73 107 h0 (miT TbM) RX12 cX12_wake 10 none 59 (i_if_ne 62 71) := snd_if_ne dX12_wake_59 rfl
theorem sX12_wake_62 {h0 : Hp_} : Snd 73 107 h0 (miT TbM) RX12 cX12_wake 10 none 62 (i_iload 64 5) := snd_iload dX12_wake_62
theorem sX12_wake_64 {h0 : Hp_} : Snd 73 107 h0 (miT TbM) RX12 cX12_wake 10 none 64 (i_if_ge 67 71) := snd_if_ge dX12_wake_64 rfl
theorem sX12_wake_67 {h0 : Hp_} : Snd 73 107 h0 (miT TbM) RX12 cX12_wake 10 none 67 (i_const 68 (vI 1)) := snd_iconst dX12_wake_67
theorem sX12_wake_68 {h0 : Hp_} : Snd 73 107 h0 (miT TbM) RX12 cX12_wake 10 none 68 (i_goto 72) := snd_goto dX12_wake_68 rfl
theorem sX12_wake_71 {h0 : Hp_} : Snd 73 107 h0 (miT TbM) RX12 cX12_wake 10 none 71 (i_const 72 (vI 0)) := snd_iconst dX12_wake_71
theorem sX12_wake_72 {h0 : Hp_} : Snd 73 107 h0 (miT TbM) RX12 cX12_wake 10 none 72 (i_istore 74 6) := snd_istore (by decide) dX12_wake_72
theorem sX12_wake_74 {h0 : Hp_} : Snd 73 107 h0 (miT TbM) RX12 cX12_wake 10 none 74 (i_const 76 (vI 9)) := snd_bipush (by decide) dX12_wake_74
theorem sX12_wake_76 {h0 : Hp_} : Snd 73 107 h0 (miT TbM) RX12 cX12_wake 10 none 76 (i_iload 78 6) := snd_iload dX12_wake_76
theorem sX12_wake_78 {h0 : Hp_} : Snd 73 107 h0 (miT TbM) RX12 cX12_wake 10 none 78 (i_if_eq 81 92) := snd_if_eq dX12_wake_78 rfl
theorem sX12_wake_81 {h0 : Hp_} : Snd 73 107 h0 (miT TbM) RX12 cX12_wake 10 none 81 (i_const 83 (vI (-3))) := snd_bipush (by decide) dX12_wake_81
theorem sX12_wake_83 {h0 : Hp_} : Snd 73 107 h0 (miT TbM) RX12 cX12_wake 10 none 83 (i_iload 85 4) := snd_iload dX12_wake_83
theorem sX12_wake_85 {h0 : Hp_} : Snd 73 107 h0 (miT TbM) RX12 cX12_wake 10 none 85 (i_imul 86) := snd_imul dX12_wake_85
theorem sX12_wake_86 {h0 : Hp_} : Snd 73 107 h0 (miT TbM) RX12 cX12_wake 10 none 86 (i_iload 88 5) := snd_iload dX12_wake_86
theorem sX12_wake_88 {h0 : Hp_} : Snd 73 107 h0 (miT TbM) RX12 cX12_wake 10 none 88 (i_isub 89) := snd_isub dX12_wake_88
theorem sX12_wake_89 {h0 : Hp_} : Snd 73 107 h0 (miT TbM) RX12 cX12_wake 10 none 89 (i_goto 99) := snd_goto dX12_wake_89 rfl
theorem sX12_wake_92 {h0 : Hp_} : Snd 73 107 h0 (miT TbM) RX12 cX12_wake 10 none 92 (i_const 93 (vI 3)) := snd_iconst dX12_wake_92
theorem sX12_wake_93 {h0 : Hp_} : Snd 73 107 h0 (miT TbM) RX12 cX12_wake 10 none 93 (i_iload 95 4) := snd_iload dX12_wake_93
theorem sX12_wake_95 {h0 : Hp_} : Snd 73 107 h0 (miT TbM) RX12 cX12_wake 10 none 95 (i_imul 96) := snd_imul dX12_wake_95
theorem sX12_wake_96 {h0 : Hp_} : Snd 73 107 h0 (miT TbM) RX12 cX12_wake 10 none 96 (i_iload 98 5) := snd_iload dX12_wake_96
theorem sX12_wake_98 {h0 : Hp_} : Snd 73 107 h0 (miT TbM) RX12 cX12_wake 10 none 98 (i_iadd 99) := snd_iadd dX12_wake_98
theorem sX12_wake_99 {h0 : Hp_} : Snd 73 107 h0 (miT TbM) RX12 cX12_wake 10 none 99 (i_iadd 100) := snd_iadd dX12_wake_99
theorem sX12_wake_100 {h0 : Hp_} : Snd 73 107 h0 (miT TbM) RX12 cX12_wake 10 none 100 (i_istore 102 7) := snd_istore (by decide) dX12_wake_100
theorem sX12_wake_102 {h0 : Hp_} : Snd 73 107 h0 (miT TbM) RX12 cX12_wake 10 none 102 (i_aload 103 0) := snd_aload_n rfl dX12_wake_102
theorem sX12_wake_103 {h0 : Hp_} : Snd 73 107 h0 (miT TbM) RX12 cX12_wake 10 none 103 (i_getR 11 14 106) := snd_getR rfl (by decide) (by decide) (by decide) (fun hK ho hs hq kk => gf_X12_50 hK ho hs hq rfl dX12_wake_103 kk)
theorem sX12_wake_106 {h0 : Hp_} : Snd 73 107 h0 (miT TbM) RX12 cX12_wake 10 none 106 (i_aload 107 0) := snd_aload_n rfl dX12_wake_106
theorem sX12_wake_107 {h0 : Hp_} : Snd 73 107 h0 (miT TbM) RX12 cX12_wake 10 none 107 (i_iload 108 1) := snd_iload_n rfl dX12_wake_107
theorem sX12_wake_108 {h0 : Hp_} : Snd 73 107 h0 (miT TbM) RX12 cX12_wake 10 none 108 (i_iload 109 2) := snd_iload_n rfl dX12_wake_108
theorem sX12_wake_109 {h0 : Hp_} : Snd 73 107 h0 (miT TbM) RX12 cX12_wake 10 none 109 (i_cV2 7 11 112) := snd_cV2 (fun hK hd hC ho hs h6 h7 h8 kk => iv_X12_249 hK (mcM_7 hC) ho hs ⟨hd, by show _ ≤ 40 * (_ + 1); omega⟩ (Nat.le_refl _) h6 h7 h8 ⟨Nat.le_refl _, Nat.le_refl _⟩ dX12_wake_109 kk)
theorem sX12_wake_112 {h0 : Hp_} : Snd 73 107 h0 (miT TbM) RX12 cX12_wake 10 none 112 (i_zald 73 107 113) := snd_zald dX12_wake_112
theorem sX12_wake_113 {h0 : Hp_} : Snd 73 107 h0 (miT TbM) RX12 cX12_wake 10 none 113 (i_if_eq 116 120) := snd_if_eq dX12_wake_113 rfl
theorem sX12_wake_116 {h0 : Hp_} : Snd 73 107 h0 (miT TbM) RX12 cX12_wake 10 none 116 (i_const 117 (vI 1)) := snd_iconst dX12_wake_116
theorem sX12_wake_117 {h0 : Hp_} : Snd 73 107 h0 (miT TbM) RX12 cX12_wake 10 none 117 (i_goto 121) := snd_goto dX12_wake_117 rfl
theorem sX12_wake_120 {h0 : Hp_} : Snd 73 107 h0 (miT TbM) RX12 cX12_wake 10 none 120 (i_const 121 (vI 0)) := snd_iconst dX12_wake_120
theorem sX12_wake_121 {h0 : Hp_} : Snd 73 107 h0 (miT TbM) RX12 cX12_wake 10 none 121 (i_istore 123 8) := snd_istore (by decide) dX12_wake_121
theorem sX12_wake_123 {h0 : Hp_} : Snd 73 107 h0 (miT TbM) RX12 cX12_wake 10 none 123 (i_aload 124 0) := snd_aload_n rfl dX12_wake_123
theorem sX12_wake_124 {h0 : Hp_} : Snd 73 107 h0 (miT TbM) RX12 cX12_wake 10 none 124 (i_iload 126 7) := snd_iload dX12_wake_124
theorem sX12_wake_126 {h0 : Hp_} : Snd 73 107 h0 (miT TbM) RX12 cX12_wake 10 none 126 (i_iload 128 6) := snd_iload dX12_wake_126
theorem sX12_wake_128 {h0 : Hp_} : Snd 73 107 h0 (miT TbM) RX12 cX12_wake 10 none 128 (i_if_eq 131 138) := snd_if_eq dX12_wake_128 rfl
theorem sX12_wake_131 {h0 : Hp_} : Snd 73 107 h0 (miT TbM) RX12 cX12_wake 10 none 131 (i_const 132 (vI 1)) := snd_iconst dX12_wake_131
theorem sX12_wake_132 {h0 : Hp_} : Snd 73 107 h0 (miT TbM) RX12 cX12_wake 10 none 132 (i_iload 134 8) := snd_iload dX12_wake_132
theorem sX12_wake_134 {h0 : Hp_} : Snd 73 107 h0 (miT TbM) RX12 cX12_wake 10 none 134 (i_isub 135) := snd_isub dX12_wake_134
theorem sX12_wake_135 {h0 : Hp_} : Snd 73 107 h0 (miT TbM) RX12 cX12_wake 10 none 135 (i_goto 140) := snd_goto dX12_wake_135 rfl
theorem sX12_wake_138 {h0 : Hp_} : Snd 73 107 h0 (miT TbM) RX12 cX12_wake 10 none 138 (i_iload 140 8) := snd_iload dX12_wake_138
theorem sX12_wake_140 {h0 : Hp_} : Snd 73 107 h0 (miT TbM) RX12 cX12_wake 10 none 140 (i_cV2 9 11 143) := snd_cV2 (fun hK hd hC ho hs h6 h7 h8 kk => iv_X12_258 hK (mcM_9 hC) ho hs ⟨hd, by show _ ≤ 40 * (_ + 1); omega⟩ (Nat.le_refl _) h6 h7 h8 ⟨Nat.le_refl _, Nat.le_refl _⟩ dX12_wake_140 kk)
theorem sX12_wake_143 {h0 : Hp_} : Snd 73 107 h0 (miT TbM) RX12 cX12_wake 10 none 143 (i_istore 145 9) := snd_istore (by decide) dX12_wake_143
theorem sX12_wake_145 {h0 : Hp_} : Snd 73 107 h0 (miT TbM) RX12 cX12_wake 10 none 145 (i_iload 147 6) := snd_iload dX12_wake_145
theorem sX12_wake_147 {h0 : Hp_} : Snd 73 107 h0 (miT TbM) RX12 cX12_wake 10 none 147 (i_if_eq 150 157) := snd_if_eq dX12_wake_147 rfl
theorem sX12_wake_150 {h0 : Hp_} : Snd 73 107 h0 (miT TbM) RX12 cX12_wake 10 none 150 (i_const 151 (vI 1)) := snd_iconst dX12_wake_150
theorem sX12_wake_151 {h0 : Hp_} : Snd 73 107 h0 (miT TbM) RX12 cX12_wake 10 none 151 (i_iload 153 9) := snd_iload dX12_wake_151
theorem sX12_wake_153 {h0 : Hp_} : Snd 73 107 h0 (miT TbM) RX12 cX12_wake 10 none 153 (i_isub 154) := snd_isub dX12_wake_153
theorem sX12_wake_154 {h0 : Hp_} : Snd 73 107 h0 (miT TbM) RX12 cX12_wake 10 none 154 (i_goto 159) := snd_goto dX12_wake_154 rfl
theorem sX12_wake_157 {h0 : Hp_} : Snd 73 107 h0 (miT TbM) RX12 cX12_wake 10 none 157 (i_iload 159 9) := snd_iload dX12_wake_157
theorem sX12_wake_159 {h0 : Hp_} : Snd 73 107 h0 (miT TbM) RX12 cX12_wake 10 none 159 (i_istore 161 8) := snd_istore (by decide) dX12_wake_159
theorem sX12_wake_161 {h0 : Hp_} : Snd 73 107 h0 (miT TbM) RX12 cX12_wake 10 none 161 (i_aload 162 0) := snd_aload_n rfl dX12_wake_161
theorem sX12_wake_162 {h0 : Hp_} : Snd 73 107 h0 (miT TbM) RX12 cX12_wake 10 none 162 (i_getR 11 14 165) := snd_getR rfl (by decide) (by decide) (by decide) (fun hK ho hs hq kk => gf_X12_50 hK ho hs hq rfl dX12_wake_162 kk)
theorem sX12_wake_165 {h0 : Hp_} : Snd 73 107 h0 (miT TbM) RX12 cX12_wake 10 none 165 (i_aload 166 0) := snd_aload_n rfl dX12_wake_165
theorem sX12_wake_166 {h0 : Hp_} : Snd 73 107 h0 (miT TbM) RX12 cX12_wake 10 none 166 (i_iload 167 1) := snd_iload_n rfl dX12_wake_166
theorem sX12_wake_167 {h0 : Hp_} : Snd 73 107 h0 (miT TbM) RX12 cX12_wake 10 none 167 (i_iload 168 2) := snd_iload_n rfl dX12_wake_167
theorem sX12_wake_168 {h0 : Hp_} : Snd 73 107 h0 (miT TbM) RX12 cX12_wake 10 none 168 (i_cV2 7 11 171) := snd_cV2 (fun hK hd hC ho hs h6 h7 h8 kk => iv_X12_249 hK (mcM_7 hC) ho hs ⟨hd, by show _ ≤ 40 * (_ + 1); omega⟩ (Nat.le_refl _) h6 h7 h8 ⟨Nat.le_refl _, Nat.le_refl _⟩ dX12_wake_168 kk)
theorem sX12_wake_171 {h0 : Hp_} : Snd 73 107 h0 (miT TbM) RX12 cX12_wake 10 none 171 (i_iload 173 8) := snd_iload dX12_wake_171
theorem sX12_wake_173 {h0 : Hp_} : Snd 73 107 h0 (miT TbM) RX12 cX12_wake 10 none 173 (i_const 174 (vI 1)) := snd_iconst dX12_wake_173
theorem sX12_wake_174 {h0 : Hp_} : Snd 73 107 h0 (miT TbM) RX12 cX12_wake 10 none 174 (i_icmp_ne 177 181) := snd_icmp_ne dX12_wake_174 rfl
theorem sX12_wake_177 {h0 : Hp_} : Snd 73 107 h0 (miT TbM) RX12 cX12_wake 10 none 177 (i_const 178 (vI 1)) := snd_iconst dX12_wake_177
theorem sX12_wake_178 {h0 : Hp_} : Snd 73 107 h0 (miT TbM) RX12 cX12_wake 10 none 178 (i_goto 182) := snd_goto dX12_wake_178 rfl
theorem sX12_wake_181 {h0 : Hp_} : Snd 73 107 h0 (miT TbM) RX12 cX12_wake 10 none 181 (i_const 182 (vI 0)) := snd_iconst dX12_wake_181
theorem sX12_wake_182 {h0 : Hp_} : Snd 73 107 h0 (miT TbM) RX12 cX12_wake 10 none 182 (i_zast 73 107 183) := snd_zast dX12_wake_182
theorem sX12_wake_183 {h0 : Hp_} : Snd 73 107 h0 (miT TbM) RX12 cX12_wake 10 none 183 (i_aload 184 0) := snd_aload_n rfl dX12_wake_183
theorem sX12_wake_184 {h0 : Hp_} : Snd 73 107 h0 (miT TbM) RX12 cX12_wake 10 none 184 (i_getR 11 23 187) := snd_getR rfl (by decide) (by decide) (by decide) (fun hK ho hs hq kk => gf_X12_75 hK ho hs hq rfl dX12_wake_184 kk)
theorem sX12_wake_187 {h0 : Hp_} : Snd 73 107 h0 (miT TbM) RX12 cX12_wake 10 none 187 (i_iload 188 3) := snd_iload_n rfl dX12_wake_187
theorem sX12_wake_188 {h0 : Hp_} : Snd 73 107 h0 (miT TbM) RX12 cX12_wake 10 none 188 (i_iload 190 8) := snd_iload dX12_wake_188
theorem sX12_wake_190 {h0 : Hp_} : Snd 73 107 h0 (miT TbM) RX12 cX12_wake 10 none 190 (i_const 191 (vI 1)) := snd_iconst dX12_wake_190
theorem sX12_wake_191 {h0 : Hp_} : Snd 73 107 h0 (miT TbM) RX12 cX12_wake 10 none 191 (i_icmp_ne 194 198) := snd_icmp_ne dX12_wake_191 rfl
theorem sX12_wake_194 {h0 : Hp_} : Snd 73 107 h0 (miT TbM) RX12 cX12_wake 10 none 194 (i_const 195 (vI (-1))) := snd_iconst dX12_wake_194
theorem sX12_wake_195 {h0 : Hp_} : Snd 73 107 h0 (miT TbM) RX12 cX12_wake 10 none 195 (i_goto 199) := snd_goto dX12_wake_195 rfl
theorem sX12_wake_198 {h0 : Hp_} : Snd 73 107 h0 (miT TbM) RX12 cX12_wake 10 none 198 (i_const 199 (vI 1)) := snd_iconst dX12_wake_198
theorem sX12_wake_199 {h0 : Hp_} : Snd 73 107 h0 (miT TbM) RX12 cX12_wake 10 none 199 (i_iast 73 107 200) := snd_iast dX12_wake_199
theorem sX12_wake_200 {h0 : Hp_} : Snd 73 107 h0 (miT TbM) RX12 cX12_wake 10 none 200 (i_aload 201 0) := snd_aload_n rfl dX12_wake_200
theorem sX12_wake_201 {h0 : Hp_} : Snd 73 107 h0 (miT TbM) RX12 cX12_wake 10 none 201 (i_getI 11 29 204) := snd_getI hl73 (fun hK ho hs hv kk => gf_X12_163 hK ho hs hv dX12_wake_201 kk)
theorem sX12_wake_204 {h0 : Hp_} : Snd 73 107 h0 (miT TbM) RX12 cX12_wake 10 none 204 (i_const 205 (vI 1)) := snd_iconst dX12_wake_204
theorem sX12_wake_205 {h0 : Hp_} : Snd 73 107 h0 (miT TbM) RX12 cX12_wake 10 none 205 (i_icmp_ne 208 237) := snd_icmp_ne dX12_wake_205 rfl
theorem sX12_wake_208 {h0 : Hp_} : Snd 73 107 h0 (miT TbM) RX12 cX12_wake 10 none 208 (i_aload 209 0) := snd_aload_n rfl dX12_wake_208
theorem sX12_wake_209 {h0 : Hp_} : Snd 73 107 h0 (miT TbM) RX12 cX12_wake 10 none 209 (i_getR 11 13 212) := snd_getR rfl (by decide) (by decide) (by decide) (fun hK ho hs hq kk => gf_X12_47 hK ho hs hq rfl dX12_wake_209 kk)
theorem sX12_wake_212 {h0 : Hp_} : Snd 73 107 h0 (miT TbM) RX12 cX12_wake 10 none 212 (i_aload 213 0) := snd_aload_n rfl dX12_wake_212
theorem sX12_wake_213 {h0 : Hp_} : Snd 73 107 h0 (miT TbM) RX12 cX12_wake 10 none 213 (i_iload 214 1) := snd_iload_n rfl dX12_wake_213
theorem sX12_wake_214 {h0 : Hp_} : Snd 73 107 h0 (miT TbM) RX12 cX12_wake 10 none 214 (i_iload 215 2) := snd_iload_n rfl dX12_wake_214
theorem sX12_wake_215 {h0 : Hp_} : Snd 73 107 h0 (miT TbM) RX12 cX12_wake 10 none 215 (i_cV2 7 11 218) := snd_cV2 (fun hK hd hC ho hs h6 h7 h8 kk => iv_X12_249 hK (mcM_7 hC) ho hs ⟨hd, by show _ ≤ 40 * (_ + 1); omega⟩ (Nat.le_refl _) h6 h7 h8 ⟨Nat.le_refl _, Nat.le_refl _⟩ dX12_wake_215 kk)
theorem sX12_wake_218 {h0 : Hp_} : Snd 73 107 h0 (miT TbM) RX12 cX12_wake 10 none 218 (i_aload 219 0) := snd_aload_n rfl dX12_wake_218
theorem sX12_wake_219 {h0 : Hp_} : Snd 73 107 h0 (miT TbM) RX12 cX12_wake 10 none 219 (i_getR 11 13 222) := snd_getR rfl (by decide) (by decide) (by decide) (fun hK ho hs hq kk => gf_X12_47 hK ho hs hq rfl dX12_wake_219 kk)
theorem sX12_wake_222 {h0 : Hp_} : Snd 73 107 h0 (miT TbM) RX12 cX12_wake 10 none 222 (i_aload 223 0) := snd_aload_n rfl dX12_wake_222
theorem sX12_wake_223 {h0 : Hp_} : Snd 73 107 h0 (miT TbM) RX12 cX12_wake 10 none 223 (i_iload 224 1) := snd_iload_n rfl dX12_wake_223
theorem sX12_wake_224 {h0 : Hp_} : Snd 73 107 h0 (miT TbM) RX12 cX12_wake 10 none 224 (i_iload 225 2) := snd_iload_n rfl dX12_wake_224
theorem sX12_wake_225 {h0 : Hp_} : Snd 73 107 h0 (miT TbM) RX12 cX12_wake 10 none 225 (i_cV2 7 11 228) := snd_cV2 (fun hK hd hC ho hs h6 h7 h8 kk => iv_X12_249 hK (mcM_7 hC) ho hs ⟨hd, by show _ ≤ 40 * (_ + 1); omega⟩ (Nat.le_refl _) h6 h7 h8 ⟨Nat.le_refl _, Nat.le_refl _⟩ dX12_wake_225 kk)
theorem sX12_wake_228 {h0 : Hp_} : Snd 73 107 h0 (miT TbM) RX12 cX12_wake 10 none 228 (i_iald 73 107 229) := snd_iald dX12_wake_228
theorem sX12_wake_229 {h0 : Hp_} : Snd 73 107 h0 (miT TbM) RX12 cX12_wake 10 none 229 (i_const 230 (vI 1)) := snd_iconst dX12_wake_229
theorem sX12_wake_230 {h0 : Hp_} : Snd 73 107 h0 (miT TbM) RX12 cX12_wake 10 none 230 (i_aload 231 0) := snd_aload_n rfl dX12_wake_230
theorem sX12_wake_231 {h0 : Hp_} : Snd 73 107 h0 (miT TbM) RX12 cX12_wake 10 none 231 (i_getI 11 27 234) := snd_getI hl73 (fun hK ho hs hv kk => gf_X12_252 hK ho hs hv dX12_wake_231 kk)
theorem sX12_wake_234 {h0 : Hp_} : Snd 73 107 h0 (miT TbM) RX12 cX12_wake 10 none 234 (i_ishl 235) := snd_ishl dX12_wake_234
theorem sX12_wake_235 {h0 : Hp_} : Snd 73 107 h0 (miT TbM) RX12 cX12_wake 10 none 235 (i_ior 236) := snd_ior dX12_wake_235
theorem sX12_wake_236 {h0 : Hp_} : Snd 73 107 h0 (miT TbM) RX12 cX12_wake 10 none 236 (i_iast 73 107 237) := snd_iast dX12_wake_236
theorem sX12_wake_237 {h0 : Hp_} : Snd 73 107 h0 (miT TbM) RX12 cX12_wake 10 none 237 (i_vret) := snd_vret dX12_wake_237
theorem kX12_wake {h0 : Hp_} : raA (okI 73 107 h0 (miT TbM) (yX12_wake, cX12_wake, 10, none)) tX12_wake := (raA_br (raA_br (raA_br (raA_br (raA_br (raA_br (raA_br (raA_leaf sX12_wake_0) (raA_leaf sX12_wake_1)) (raA_br (raA_leaf sX12_wake_2) (raA_leaf sX12_wake_5))) (raA_br (raA_br (raA_leaf sX12_wake_6) (raA_leaf sX12_wake_7)) (raA_br (raA_leaf sX12_wake_10) (raA_leaf sX12_wake_11)))) (raA_br (raA_br (raA_br (raA_leaf sX12_wake_12) (raA_leaf sX12_wake_13)) (raA_br (raA_leaf sX12_wake_14) (raA_leaf sX12_wake_15))) (raA_br (raA_br (raA_leaf sX12_wake_18) (raA_leaf sX12_wake_19)) (raA_br (raA_leaf sX12_wake_20) (raA_br (raA_leaf sX12_wake_21) (raA_leaf sX12_wake_22)))))) (raA_br (raA_br (raA_br (raA_br (raA_leaf sX12_wake_23) (raA_leaf sX12_wake_26)) (raA_br (raA_leaf sX12_wake_28) (raA_leaf sX12_wake_29))) (raA_br (raA_br (raA_leaf sX12_wake_32) (raA_leaf sX12_wake_33)) (raA_br (raA_leaf sX12_wake_35) (raA_leaf sX12_wake_36)))) (raA_br (raA_br (raA_br (raA_leaf sX12_wake_37) (raA_leaf sX12_wake_38)) (raA_br (raA_leaf sX12_wake_41) (raA_leaf sX12_wake_42))) (raA_br (raA_br (raA_leaf sX12_wake_44) (raA_leaf sX12_wake_45)) (raA_br (raA_leaf sX12_wake_46) (raA_br (raA_leaf sX12_wake_47) (raA_leaf sX12_wake_50))))))) (raA_br (raA_br (raA_br (raA_br (raA_br (raA_leaf sX12_wake_52) (raA_leaf sX12_wake_54)) (raA_br (raA_leaf sX12_wake_57) (raA_leaf sX12_wake_59))) (raA_br (raA_br (raA_leaf sX12_wake_62) (raA_leaf sX12_wake_64)) (raA_br (raA_leaf sX12_wake_67) (raA_leaf sX12_wake_68)))) (raA_br (raA_br (raA_br (raA_leaf sX12_wake_71) (raA_leaf sX12_wake_72)) (raA_br (raA_leaf sX12_wake_74) (raA_leaf sX12_wake_76))) (raA_br (raA_br (raA_leaf sX12_wake_78) (raA_leaf sX12_wake_81)) (raA_br (raA_leaf sX12_wake_83) (raA_br (raA_leaf sX12_wake_85) (raA_leaf sX12_wake_86)))))) (raA_br (raA_br (raA_br (raA_br (raA_leaf sX12_wake_88) (raA_leaf sX12_wake_89)) (raA_br (raA_leaf sX12_wake_92) (raA_leaf sX12_wake_93))) (raA_br (raA_br (raA_leaf sX12_wake_95) (raA_leaf sX12_wake_96)) (raA_br (raA_leaf sX12_wake_98) (raA_br (raA_leaf sX12_wake_99) (raA_leaf sX12_wake_100))))) (raA_br (raA_br (raA_br (raA_leaf sX12_wake_102) (raA_leaf sX12_wake_103)) (raA_br (raA_leaf sX12_wake_106) (raA_leaf sX12_wake_107))) (raA_br (raA_br (raA_leaf sX12_wake_108) (raA_leaf sX12_wake_109)) (raA_br (raA_leaf sX12_wake_112) (raA_br (raA_leaf sX12_wake_113) (raA_leaf sX12_wake_116)))))))) (raA_br (raA_br (raA_br (raA_br (raA_br (raA_br (raA_leaf sX12_wake_117) (raA_leaf sX12_wake_120)) (raA_br (raA_leaf sX12_wake_121) (raA_leaf sX12_wake_123))) (raA_br (raA_br (raA_leaf sX12_wake_124) (raA_leaf sX12_wake_126)) (raA_br (raA_leaf sX12_wake_128) (raA_leaf sX12_wake_131)))) (raA_br (raA_br (raA_br (raA_leaf sX12_wake_132) (raA_leaf sX12_wake_134)) (raA_br (raA_leaf sX12_wake_135) (raA_leaf sX12_wake_138))) (raA_br (raA_br (raA_leaf sX12_wake_140) (raA_leaf sX12_wake_143)) (raA_br (raA_leaf sX12_wake_145) (raA_br (raA_leaf sX12_wake_147) (raA_leaf sX12_wake_150)))))) (raA_br (raA_br (raA_br (raA_br (raA_leaf sX12_wake_151) (raA_leaf sX12_wake_153)) (raA_br (raA_leaf sX12_wake_154) (raA_leaf sX12_wake_157))) (raA_br (raA_br (raA_leaf sX12_wake_159) (raA_leaf sX12_wake_161)) (raA_br (raA_leaf sX12_wake_162) (raA_leaf sX12_wake_165)))) (raA_br (raA_br (raA_br (raA_leaf sX12_wake_166) (raA_leaf sX12_wake_167)) (raA_br (raA_leaf sX12_wake_168) (raA_leaf sX12_wake_171))) (raA_br (raA_br (raA_leaf sX12_wake_173) (raA_leaf sX12_wake_174)) (raA_br (raA_leaf sX12_wake_177) (raA_br (raA_leaf sX12_wake_178) (raA_leaf sX12_wake_181))))))) (raA_br (raA_br (raA_br (raA_br (raA_br (raA_leaf sX12_wake_182) (raA_leaf sX12_wake_183)) (raA_br (raA_leaf sX12_wake_184) (raA_leaf sX12_wake_187))) (raA_br (raA_br (raA_leaf sX12_wake_188) (raA_leaf sX12_wake_190)) (raA_br (raA_leaf sX12_wake_191) (raA_leaf sX12_wake_194)))) (raA_br (raA_br (raA_br (raA_leaf sX12_wake_195) (raA_leaf sX12_wake_198)) (raA_br (raA_leaf sX12_wake_199) (raA_leaf sX12_wake_200))) (raA_br (raA_br (raA_leaf sX12_wake_201) (raA_leaf sX12_wake_204)) (raA_br (raA_leaf sX12_wake_205) (raA_br (raA_leaf sX12_wake_208) (raA_leaf sX12_wake_209)))))) (raA_br (raA_br (raA_br (raA_br (raA_leaf sX12_wake_212) (raA_leaf sX12_wake_213)) (raA_br (raA_leaf sX12_wake_214) (raA_leaf sX12_wake_215))) (raA_br (raA_br (raA_leaf sX12_wake_218) (raA_leaf sX12_wake_219)) (raA_br (raA_leaf sX12_wake_222) (raA_br (raA_leaf sX12_wake_223) (raA_leaf sX12_wake_224))))) (raA_br (raA_br (raA_br (raA_leaf sX12_wake_225) (raA_leaf sX12_wake_228)) (raA_br (raA_leaf sX12_wake_229) (raA_leaf sX12_wake_230))) (raA_br (raA_br (raA_leaf sX12_wake_231) (raA_leaf sX12_wake_234)) (raA_br (raA_leaf sX12_wake_235) (raA_br (raA_leaf sX12_wake_236) (raA_leaf sX12_wake_237)))))))))
theorem sX12_walk_0 {h0 : Hp_} : Snd 73 107 h0 (miT TbM) RX12 cX12_walk 7 none 0 (i_aload 1 0) := snd_aload_n rfl dX12_walk_0
theorem sX12_walk_1 {h0 : Hp_} : Snd 73 107 h0 (miT TbM) RX12 cX12_walk 7 none 1 (i_iload 2 1) := snd_iload_n rfl dX12_walk_1
theorem sX12_walk_2 {h0 : Hp_} : Snd 73 107 h0 (miT TbM) RX12 cX12_walk 7 none 2 (i_putI 11 26 5) := snd_putI hl73 (fun hK ho hs kk => pf_X12_246 hK ho hs dX12_walk_2 kk)
theorem sX12_walk_5 {h0 : Hp_} : Snd 73 107 h0 (miT TbM) RX12 cX12_walk 7 none 5 (i_const 6 (vI 0)) := snd_iconst dX12_walk_5
theorem sX12_walk_6 {h0 : Hp_} : Snd 73 107 h0 (miT TbM) RX12 cX12_walk 7 none 6 (i_istore 7 3) := snd_istore_n rfl (by decide) dX12_walk_6
theorem sX12_walk_7 {h0 : Hp_} : Snd 73 107 h0 (miT TbM) RX12 cX12_walk 7 none 7 (i_iload 8 3) := snd_iload_n rfl dX12_walk_7
theorem sX12_walk_8 {h0 : Hp_} : Snd 73 107 h0 (miT TbM) RX12 cX12_walk 7 none 8 (i_const 10 (vI 100)) := snd_bipush (by decide) dX12_walk_8
theorem sX12_walk_10 {h0 : Hp_} : Snd 73 107 h0 (miT TbM) RX12 cX12_walk 7 none 10 (i_icmp_ge 13 26) := snd_icmp_ge dX12_walk_10 rfl
theorem sX12_walk_13 {h0 : Hp_} : Snd 73 107 h0 (miT TbM) RX12 cX12_walk 7 none 13 (i_aload 14 0) := snd_aload_n rfl dX12_walk_13
theorem sX12_walk_14 {h0 : Hp_} : Snd 73 107 h0 (miT TbM) RX12 cX12_walk 7 none 14 (i_getR 11 23 17) := snd_getR rfl (by decide) (by decide) (by decide) (fun hK ho hs hq kk => gf_X12_75 hK ho hs hq rfl dX12_walk_14 kk)
theorem sX12_walk_17 {h0 : Hp_} : Snd 73 107 h0 (miT TbM) RX12 cX12_walk 7 none 17 (i_iload 18 3) := snd_iload_n rfl dX12_walk_17
theorem sX12_walk_18 {h0 : Hp_} : Snd 73 107 h0 (miT TbM) RX12 cX12_walk 7 none 18 (i_const 19 (vI 0)) := snd_iconst dX12_walk_18
theorem sX12_walk_19 {h0 : Hp_} : Snd 73 107 h0 (miT TbM) RX12 cX12_walk 7 none 19 (i_iast 73 107 20) := snd_iast dX12_walk_19
theorem sX12_walk_20 {h0 : Hp_} : Snd 73 107 h0 (miT TbM) RX12 cX12_walk 7 none 20 (i_iinc 23 3 1) := snd_iinc (by decide) dX12_walk_20
theorem sX12_walk_23 {h0 : Hp_} : Snd 73 107 h0 (miT TbM) RX12 cX12_walk 7 none 23 (i_goto 7) := snd_goto dX12_walk_23 rfl
theorem sX12_walk_26 {h0 : Hp_} : Snd 73 107 h0 (miT TbM) RX12 cX12_walk 7 none 26 (i_const 27 (vI 0)) := snd_iconst dX12_walk_26
theorem sX12_walk_27 {h0 : Hp_} : Snd 73 107 h0 (miT TbM) RX12 cX12_walk 7 none 27 (i_istore 28 3) := snd_istore_n rfl (by decide) dX12_walk_27
theorem sX12_walk_28 {h0 : Hp_} : Snd 73 107 h0 (miT TbM) RX12 cX12_walk 7 none 28 (i_iload 29 3) := snd_iload_n rfl dX12_walk_28
theorem sX12_walk_29 {h0 : Hp_} : Snd 73 107 h0 (miT TbM) RX12 cX12_walk 7 none 29 (i_const 31 (vI 64)) := snd_bipush (by decide) dX12_walk_29
theorem sX12_walk_31 {h0 : Hp_} : Snd 73 107 h0 (miT TbM) RX12 cX12_walk 7 none 31 (i_icmp_ge 34 47) := snd_icmp_ge dX12_walk_31 rfl
theorem sX12_walk_34 {h0 : Hp_} : Snd 73 107 h0 (miT TbM) RX12 cX12_walk 7 none 34 (i_aload 35 0) := snd_aload_n rfl dX12_walk_34
theorem sX12_walk_35 {h0 : Hp_} : Snd 73 107 h0 (miT TbM) RX12 cX12_walk 7 none 35 (i_getR 11 25 38) := snd_getR rfl (by decide) (by decide) (by decide) (fun hK ho hs hq kk => gf_X12_81 hK ho hs hq rfl dX12_walk_35 kk)
theorem sX12_walk_38 {h0 : Hp_} : Snd 73 107 h0 (miT TbM) RX12 cX12_walk 7 none 38 (i_iload 39 3) := snd_iload_n rfl dX12_walk_38
theorem sX12_walk_39 {h0 : Hp_} : Snd 73 107 h0 (miT TbM) RX12 cX12_walk 7 none 39 (i_const 40 (vI 0)) := snd_iconst dX12_walk_39
theorem sX12_walk_40 {h0 : Hp_} : Snd 73 107 h0 (miT TbM) RX12 cX12_walk 7 none 40 (i_zast 73 107 41) := snd_zast dX12_walk_40
theorem sX12_walk_41 {h0 : Hp_} : Snd 73 107 h0 (miT TbM) RX12 cX12_walk 7 none 41 (i_iinc 44 3 1) := snd_iinc (by decide) dX12_walk_41
theorem sX12_walk_44 {h0 : Hp_} : Snd 73 107 h0 (miT TbM) RX12 cX12_walk 7 none 44 (i_goto 28) := snd_goto dX12_walk_44 rfl
theorem sX12_walk_47 {h0 : Hp_} : Snd 73 107 h0 (miT TbM) RX12 cX12_walk 7 none 47 (i_aload 48 0) := snd_aload_n rfl dX12_walk_47
theorem sX12_walk_48 {h0 : Hp_} : Snd 73 107 h0 (miT TbM) RX12 cX12_walk 7 none 48 (i_aload 49 0) := snd_aload_n rfl dX12_walk_48
theorem sX12_walk_49 {h0 : Hp_} : Snd 73 107 h0 (miT TbM) RX12 cX12_walk 7 none 49 (i_getR 11 12 52) := snd_getR rfl (by decide) (by decide) (by decide) (fun hK ho hs hq kk => gf_X12_44 hK ho hs hq rfl dX12_walk_49 kk)
theorem sX12_walk_52 {h0 : Hp_} : Snd 73 107 h0 (miT TbM) RX12 cX12_walk 7 none 52 (i_iload 53 1) := snd_iload_n rfl dX12_walk_52
theorem sX12_walk_53 {h0 : Hp_} : Snd 73 107 h0 (miT TbM) RX12 cX12_walk 7 none 53 (i_iald 73 107 54) := snd_iald dX12_walk_53
theorem sX12_walk_54 {h0 : Hp_} : Snd 73 107 h0 (miT TbM) RX12 cX12_walk 7 none 54 (i_const 55 (vI 1)) := snd_iconst dX12_walk_54
theorem sX12_walk_55 {h0 : Hp_} : Snd 73 107 h0 (miT TbM) RX12 cX12_walk 7 none 55 (i_isub 56) := snd_isub dX12_walk_55
theorem sX12_walk_56 {h0 : Hp_} : Snd 73 107 h0 (miT TbM) RX12 cX12_walk 7 none 56 (i_putI 11 27 59) := snd_putI hl73 (fun hK ho hs kk => pf_X12_252 hK ho hs dX12_walk_56 kk)
theorem sX12_walk_59 {h0 : Hp_} : Snd 73 107 h0 (miT TbM) RX12 cX12_walk 7 none 59 (i_const 60 (vI 2)) := snd_iconst dX12_walk_59
theorem sX12_walk_60 {h0 : Hp_} : Snd 73 107 h0 (miT TbM) RX12 cX12_walk 7 none 60 (i_istore 61 3) := snd_istore_n rfl (by decide) dX12_walk_60
theorem sX12_walk_61 {h0 : Hp_} : Snd 73 107 h0 (miT TbM) RX12 cX12_walk 7 none 61 (i_const 62 (vI 0)) := snd_iconst dX12_walk_61
theorem sX12_walk_62 {h0 : Hp_} : Snd 73 107 h0 (miT TbM) RX12 cX12_walk 7 none 62 (i_istore 64 4) := snd_istore (by decide) dX12_walk_62
theorem sX12_walk_64 {h0 : Hp_} : Snd 73 107 h0 (miT TbM) RX12 cX12_walk 7 none 64 (i_iload 66 4) := snd_iload dX12_walk_64
theorem sX12_walk_66 {h0 : Hp_} : Snd 73 107 h0 (miT TbM) RX12 cX12_walk 7 none 66 (i_iload 67 2) := snd_iload_n rfl dX12_walk_66
theorem sX12_walk_67 {h0 : Hp_} : Snd 73 107 h0 (miT TbM) RX12 cX12_walk 7 none 67 (i_icmp_ge 70 193) := snd_icmp_ge dX12_walk_67 rfl
theorem sX12_walk_70 {h0 : Hp_} : Snd 73 107 h0 (miT TbM) RX12 cX12_walk 7 none 70 (i_const 71 (vI 0)) := snd_iconst dX12_walk_70
theorem sX12_walk_71 {h0 : Hp_} : Snd 73 107 h0 (miT TbM) RX12 cX12_walk 7 none 71 (i_istore 73 5) := snd_istore (by decide) dX12_walk_71
theorem sX12_walk_73 {h0 : Hp_} : Snd 73 107 h0 (miT TbM) RX12 cX12_walk 7 none 73 (i_iload 75 5) := snd_iload dX12_walk_73
theorem sX12_walk_75 {h0 : Hp_} : Snd 73 107 h0 (miT TbM) RX12 cX12_walk 7 none 75 (i_const 77 (vI 64)) := snd_bipush (by decide) dX12_walk_75
theorem sX12_walk_77 {h0 : Hp_} : Snd 73 107 h0 (miT TbM) RX12 cX12_walk 7 none 77 (i_icmp_ge 80 103) := snd_icmp_ge dX12_walk_77 rfl
theorem sX12_walk_80 {h0 : Hp_} : Snd 73 107 h0 (miT TbM) RX12 cX12_walk 7 none 80 (i_iload 81 3) := snd_iload_n rfl dX12_walk_80
theorem sX12_walk_81 {h0 : Hp_} : Snd 73 107 h0 (miT TbM) RX12 cX12_walk 7 none 81 (i_if_eq 84 89) := snd_if_eq dX12_walk_81 rfl
theorem sX12_walk_84 {h0 : Hp_} : Snd 73 107 h0 (miT TbM) RX12 cX12_walk 7 none 84 (i_iload 86 4) := snd_iload dX12_walk_84
theorem sX12_walk_86 {h0 : Hp_} : Snd 73 107 h0 (miT TbM) RX12 cX12_walk 7 none 86 (i_if_ne 89 103) := snd_if_ne dX12_walk_86 rfl
theorem sX12_walk_89 {h0 : Hp_} : Snd 73 107 h0 (miT TbM) RX12 cX12_walk 7 none 89 (i_aload 90 0) := snd_aload_n rfl dX12_walk_89
theorem sX12_walk_90 {h0 : Hp_} : Snd 73 107 h0 (miT TbM) RX12 cX12_walk 7 none 90 (i_getR 11 24 93) := snd_getR rfl (by decide) (by decide) (by decide) (fun hK ho hs hq kk => gf_X12_78 hK ho hs hq rfl dX12_walk_90 kk)
theorem sX12_walk_93 {h0 : Hp_} : Snd 73 107 h0 (miT TbM) RX12 cX12_walk 7 none 93 (i_iload 95 5) := snd_iload dX12_walk_93
theorem sX12_walk_95 {h0 : Hp_} : Snd 73 107 h0 (miT TbM) RX12 cX12_walk 7 none 95 (i_const 96 (vI 0)) := snd_iconst dX12_walk_95
theorem sX12_walk_96 {h0 : Hp_} : Snd 73 107 h0 (miT TbM) RX12 cX12_walk 7 none 96 (i_zast 73 107 97) := snd_zast dX12_walk_96
theorem sX12_walk_97 {h0 : Hp_} : Snd 73 107 h0 (miT TbM) RX12 cX12_walk 7 none 97 (i_iinc 100 5 1) := snd_iinc (by decide) dX12_walk_97
theorem sX12_walk_100 {h0 : Hp_} : Snd 73 107 h0 (miT TbM) RX12 cX12_walk 7 none 100 (i_goto 73) := snd_goto dX12_walk_100 rfl
theorem sX12_walk_103 {h0 : Hp_} : Snd 73 107 h0 (miT TbM) RX12 cX12_walk 7 none 103 (i_const 104 (vI 0)) := snd_iconst dX12_walk_103
theorem sX12_walk_104 {h0 : Hp_} : Snd 73 107 h0 (miT TbM) RX12 cX12_walk 7 none 104 (i_istore 106 5) := snd_istore (by decide) dX12_walk_104
theorem sX12_walk_106 {h0 : Hp_} : Snd 73 107 h0 (miT TbM) RX12 cX12_walk 7 none 106 (i_iload 108 5) := snd_iload dX12_walk_106
theorem sX12_walk_108 {h0 : Hp_} : Snd 73 107 h0 (miT TbM) RX12 cX12_walk 7 none 108 (i_aload 109 0) := snd_aload_n rfl dX12_walk_108
theorem sX12_walk_109 {h0 : Hp_} : Snd 73 107 h0 (miT TbM) RX12 cX12_walk 7 none 109 (i_getR 11 10 112) := snd_getR rfl (by decide) (by decide) (by decide) (fun hK ho hs hq kk => gf_X12_38 hK ho hs hq rfl dX12_walk_109 kk)
theorem sX12_walk_112 {h0 : Hp_} : Snd 73 107 h0 (miT TbM) RX12 cX12_walk 7 none 112 (i_iload 113 1) := snd_iload_n rfl dX12_walk_112
theorem sX12_walk_113 {h0 : Hp_} : Snd 73 107 h0 (miT TbM) RX12 cX12_walk 7 none 113 (i_iald 73 107 114) := snd_iald dX12_walk_113
theorem sX12_walk_114 {h0 : Hp_} : Snd 73 107 h0 (miT TbM) RX12 cX12_walk 7 none 114 (i_icmp_ge 117 152) := snd_icmp_ge dX12_walk_114 rfl
theorem sX12_walk_117 {h0 : Hp_} : Snd 73 107 h0 (miT TbM) RX12 cX12_walk 7 none 117 (i_const 118 (vI 0)) := snd_iconst dX12_walk_117
theorem sX12_walk_118 {h0 : Hp_} : Snd 73 107 h0 (miT TbM) RX12 cX12_walk 7 none 118 (i_istore 120 6) := snd_istore (by decide) dX12_walk_118
theorem sX12_walk_120 {h0 : Hp_} : Snd 73 107 h0 (miT TbM) RX12 cX12_walk 7 none 120 (i_iload 122 6) := snd_iload dX12_walk_120
theorem sX12_walk_122 {h0 : Hp_} : Snd 73 107 h0 (miT TbM) RX12 cX12_walk 7 none 122 (i_aload 123 0) := snd_aload_n rfl dX12_walk_122
theorem sX12_walk_123 {h0 : Hp_} : Snd 73 107 h0 (miT TbM) RX12 cX12_walk 7 none 123 (i_getR 11 9 126) := snd_getR rfl (by decide) (by decide) (by decide) (fun hK ho hs hq kk => gf_X12_35 hK ho hs hq rfl dX12_walk_123 kk)
theorem sX12_walk_126 {h0 : Hp_} : Snd 73 107 h0 (miT TbM) RX12 cX12_walk 7 none 126 (i_iload 127 1) := snd_iload_n rfl dX12_walk_126
theorem sX12_walk_127 {h0 : Hp_} : Snd 73 107 h0 (miT TbM) RX12 cX12_walk 7 none 127 (i_iald 73 107 128) := snd_iald dX12_walk_127
theorem sX12_walk_128 {h0 : Hp_} : Snd 73 107 h0 (miT TbM) RX12 cX12_walk 7 none 128 (i_icmp_ge 131 146) := snd_icmp_ge dX12_walk_128 rfl
theorem sX12_walk_131 {h0 : Hp_} : Snd 73 107 h0 (miT TbM) RX12 cX12_walk 7 none 131 (i_aload 132 0) := snd_aload_n rfl dX12_walk_131
theorem sX12_walk_132 {h0 : Hp_} : Snd 73 107 h0 (miT TbM) RX12 cX12_walk 7 none 132 (i_iload 133 3) := snd_iload_n rfl dX12_walk_132
theorem sX12_walk_133 {h0 : Hp_} : Snd 73 107 h0 (miT TbM) RX12 cX12_walk 7 none 133 (i_iload 135 6) := snd_iload dX12_walk_133
theorem sX12_walk_135 {h0 : Hp_} : Snd 73 107 h0 (miT TbM) RX12 cX12_walk 7 none 135 (i_iload 137 5) := snd_iload dX12_walk_135
theorem sX12_walk_137 {h0 : Hp_} : Snd 73 107 h0 (miT TbM) RX12 cX12_walk 7 none 137 (i_cV3 10 11 140) := snd_cV3 (fun hK hd hC ho hs h6 h7 h8 kk => iv_X12_286 hK (mcM_10 hC) ho hs ⟨hd, by show _ ≤ 40 * (_ + 1); omega⟩ (Nat.le_refl _) h6 h7 h8 ⟨Nat.le_refl _, Nat.le_refl _⟩ dX12_walk_137 kk)
theorem sX12_walk_140 {h0 : Hp_} : Snd 73 107 h0 (miT TbM) RX12 cX12_walk 7 none 140 (i_iinc 143 6 1) := snd_iinc (by decide) dX12_walk_140
theorem sX12_walk_143 {h0 : Hp_} : Snd 73 107 h0 (miT TbM) RX12 cX12_walk 7 none 143 (i_goto 120) := snd_goto dX12_walk_143 rfl
theorem sX12_walk_146 {h0 : Hp_} : Snd 73 107 h0 (miT TbM) RX12 cX12_walk 7 none 146 (i_iinc 149 5 4) := snd_iinc (by decide) dX12_walk_146
theorem sX12_walk_149 {h0 : Hp_} : Snd 73 107 h0 (miT TbM) RX12 cX12_walk 7 none 149 (i_goto 106) := snd_goto dX12_walk_149 rfl
theorem sX12_walk_152 {h0 : Hp_} : Snd 73 107 h0 (miT TbM) RX12 cX12_walk 7 none 152 (i_aload 153 0) := snd_aload_n rfl dX12_walk_152
theorem sX12_walk_153 {h0 : Hp_} : Snd 73 107 h0 (miT TbM) RX12 cX12_walk 7 none 153 (i_iload 154 3) := snd_iload_n rfl dX12_walk_153
theorem sX12_walk_154 {h0 : Hp_} : Snd 73 107 h0 (miT TbM) RX12 cX12_walk 7 none 154 (i_const 155 (vI 2)) := snd_iconst dX12_walk_154
theorem sX12_walk_155 {h0 : Hp_} : Snd 73 107 h0 (miT TbM) RX12 cX12_walk 7 none 155 (i_icmp_ne 158 167) := snd_icmp_ne dX12_walk_155 rfl
theorem sX12_walk_158 {h0 : Hp_} : Snd 73 107 h0 (miT TbM) RX12 cX12_walk 7 none 158 (i_aload 159 0) := snd_aload_n rfl dX12_walk_158
theorem sX12_walk_159 {h0 : Hp_} : Snd 73 107 h0 (miT TbM) RX12 cX12_walk 7 none 159 (i_getI 11 27 162) := snd_getI hl73 (fun hK ho hs hv kk => gf_X12_252 hK ho hs hv dX12_walk_159 kk)
theorem sX12_walk_162 {h0 : Hp_} : Snd 73 107 h0 (miT TbM) RX12 cX12_walk 7 none 162 (i_const 163 (vI 1)) := snd_iconst dX12_walk_162
theorem sX12_walk_163 {h0 : Hp_} : Snd 73 107 h0 (miT TbM) RX12 cX12_walk 7 none 163 (i_isub 164) := snd_isub dX12_walk_163
theorem sX12_walk_164 {h0 : Hp_} : Snd 73 107 h0 (miT TbM) RX12 cX12_walk 7 none 164 (i_goto 171) := snd_goto dX12_walk_164 rfl
theorem sX12_walk_167 {h0 : Hp_} : Snd 73 107 h0 (miT TbM) RX12 cX12_walk 7 none 167 (i_aload 168 0) := snd_aload_n rfl dX12_walk_167
theorem sX12_walk_168 {h0 : Hp_} : Snd 73 107 h0 (miT TbM) RX12 cX12_walk 7 none 168 (i_getI 11 27 171) := snd_getI hl73 (fun hK ho hs hv kk => gf_X12_252 hK ho hs hv dX12_walk_168 kk)
theorem sX12_walk_171 {h0 : Hp_} : Snd 73 107 h0 (miT TbM) RX12 cX12_walk 7 none 171 (i_putI 11 27 174) := snd_putI hl73 (fun hK ho hs kk => pf_X12_252 hK ho hs dX12_walk_171 kk)
theorem sX12_walk_174 {h0 : Hp_} : Snd 73 107 h0 (miT TbM) RX12 cX12_walk 7 none 174 (i_iload 175 3) := snd_iload_n rfl dX12_walk_174
theorem sX12_walk_175 {h0 : Hp_} : Snd 73 107 h0 (miT TbM) RX12 cX12_walk 7 none 175 (i_const 176 (vI 2)) := snd_iconst dX12_walk_175
theorem sX12_walk_176 {h0 : Hp_} : Snd 73 107 h0 (miT TbM) RX12 cX12_walk 7 none 176 (i_icmp_ne 179 183) := snd_icmp_ne dX12_walk_176 rfl
theorem sX12_walk_179 {h0 : Hp_} : Snd 73 107 h0 (miT TbM) RX12 cX12_walk 7 none 179 (i_const 180 (vI 0)) := snd_iconst dX12_walk_179
theorem sX12_walk_180 {h0 : Hp_} : Snd 73 107 h0 (miT TbM) RX12 cX12_walk 7 none 180 (i_goto 186) := snd_goto dX12_walk_180 rfl
theorem sX12_walk_183 {h0 : Hp_} : Snd 73 107 h0 (miT TbM) RX12 cX12_walk 7 none 183 (i_iload 184 3) := snd_iload_n rfl dX12_walk_183
theorem sX12_walk_184 {h0 : Hp_} : Snd 73 107 h0 (miT TbM) RX12 cX12_walk 7 none 184 (i_const 185 (vI 1)) := snd_iconst dX12_walk_184
theorem sX12_walk_185 {h0 : Hp_} : Snd 73 107 h0 (miT TbM) RX12 cX12_walk 7 none 185 (i_iadd 186) := snd_iadd dX12_walk_185
theorem sX12_walk_186 {h0 : Hp_} : Snd 73 107 h0 (miT TbM) RX12 cX12_walk 7 none 186 (i_istore 187 3) := snd_istore_n rfl (by decide) dX12_walk_186
theorem sX12_walk_187 {h0 : Hp_} : Snd 73 107 h0 (miT TbM) RX12 cX12_walk 7 none 187 (i_iinc 190 4 1) := snd_iinc (by decide) dX12_walk_187
theorem sX12_walk_190 {h0 : Hp_} : Snd 73 107 h0 (miT TbM) RX12 cX12_walk 7 none 190 (i_goto 64) := snd_goto dX12_walk_190 rfl
theorem sX12_walk_193 {h0 : Hp_} : Snd 73 107 h0 (miT TbM) RX12 cX12_walk 7 none 193 (i_vret) := snd_vret dX12_walk_193
theorem kX12_walk {h0 : Hp_} : raA (okI 73 107 h0 (miT TbM) (yX12_walk, cX12_walk, 7, none)) tX12_walk := (raA_br (raA_br (raA_br (raA_br (raA_br (raA_br (raA_leaf sX12_walk_0) (raA_br (raA_leaf sX12_walk_1) (raA_leaf sX12_walk_2))) (raA_br (raA_leaf sX12_walk_5) (raA_br (raA_leaf sX12_walk_6) (raA_leaf sX12_walk_7)))) (raA_br (raA_br (raA_leaf sX12_walk_8) (raA_br (raA_leaf sX12_walk_10) (raA_leaf sX12_walk_13))) (raA_br (raA_br (raA_leaf sX12_walk_14) (raA_leaf sX12_walk_17)) (raA_br (raA_leaf sX12_walk_18) (raA_leaf sX12_walk_19))))) (raA_br (raA_br (raA_br (raA_leaf sX12_walk_20) (raA_br (raA_leaf sX12_walk_23) (raA_leaf sX12_walk_26))) (raA_br (raA_leaf sX12_walk_27) (raA_br (raA_leaf sX12_walk_28) (raA_leaf sX12_walk_29)))) (raA_br (raA_br (raA_leaf sX12_walk_31) (raA_br (raA_leaf sX12_walk_34) (raA_leaf sX12_walk_35))) (raA_br (raA_br (raA_leaf sX12_walk_38) (raA_leaf sX12_walk_39)) (raA_br (raA_leaf sX12_walk_40) (raA_leaf sX12_walk_41)))))) (raA_br (raA_br (raA_br (raA_br (raA_leaf sX12_walk_44) (raA_br (raA_leaf sX12_walk_47) (raA_leaf sX12_walk_48))) (raA_br (raA_leaf sX12_walk_49) (raA_br (raA_leaf sX12_walk_52) (raA_leaf sX12_walk_53)))) (raA_br (raA_br (raA_leaf sX12_walk_54) (raA_br (raA_leaf sX12_walk_55) (raA_leaf sX12_walk_56))) (raA_br (raA_br (raA_leaf sX12_walk_59) (raA_leaf sX12_walk_60)) (raA_br (raA_leaf sX12_walk_61) (raA_leaf sX12_walk_62))))) (raA_br (raA_br (raA_br (raA_leaf sX12_walk_64) (raA_br (raA_leaf sX12_walk_66) (raA_leaf sX12_walk_67))) (raA_br (raA_br (raA_leaf sX12_walk_70) (raA_leaf sX12_walk_71)) (raA_br (raA_leaf sX12_walk_73) (raA_leaf sX12_walk_75)))) (raA_br (raA_br (raA_leaf sX12_walk_77) (raA_br (raA_leaf sX12_walk_80) (raA_leaf sX12_walk_81))) (raA_br (raA_br (raA_leaf sX12_walk_84) (raA_leaf sX12_walk_86)) (raA_br (raA_leaf sX12_walk_89) (raA_leaf sX12_walk_90))))))) (raA_br (raA_br (raA_br (raA_br (raA_br (raA_leaf sX12_walk_93) (raA_br (raA_leaf sX12_walk_95) (raA_leaf sX12_walk_96))) (raA_br (raA_leaf sX12_walk_97) (raA_br (raA_leaf sX12_walk_100) (raA_leaf sX12_walk_103)))) (raA_br (raA_br (raA_leaf sX12_walk_104) (raA_br (raA_leaf sX12_walk_106) (raA_leaf sX12_walk_108))) (raA_br (raA_br (raA_leaf sX12_walk_109) (raA_leaf sX12_walk_112)) (raA_br (raA_leaf sX12_walk_113) (raA_leaf sX12_walk_114))))) (raA_br (raA_br (raA_br (raA_leaf sX12_walk_117) (raA_br (raA_leaf sX12_walk_118) (raA_leaf sX12_walk_120))) (raA_br (raA_br (raA_leaf sX12_walk_122) (raA_leaf sX12_walk_123)) (raA_br (raA_leaf sX12_walk_126) (raA_leaf sX12_walk_127)))) (raA_br (raA_br (raA_leaf sX12_walk_128) (raA_br (raA_leaf sX12_walk_131) (raA_leaf sX12_walk_132))) (raA_br (raA_br (raA_leaf sX12_walk_133) (raA_leaf sX12_walk_135)) (raA_br (raA_leaf sX12_walk_137) (raA_leaf sX12_walk_140)))))) (raA_br (raA_br (raA_br (raA_br (raA_leaf sX12_walk_143) (raA_br (raA_leaf sX12_walk_146) (raA_leaf sX12_walk_149))) (raA_br (raA_leaf sX12_walk_152) (raA_br (raA_leaf sX12_walk_153) (raA_leaf sX12_walk_154)))) (raA_br (raA_br (raA_leaf sX12_walk_155) (raA_br (raA_leaf sX12_walk_158) (raA_leaf sX12_walk_159))) (raA_br (raA_br (raA_leaf sX12_walk_162) (raA_leaf sX12_walk_163)) (raA_br (raA_leaf sX12_walk_164) (raA_leaf sX12_walk_167))))) (raA_br (raA_br (raA_br (raA_leaf sX12_walk_168) (raA_br (raA_leaf sX12_walk_171) (raA_leaf sX12_walk_174))) (raA_br (raA_br (raA_leaf sX12_walk_175) (raA_leaf sX12_walk_176)) (raA_br (raA_leaf sX12_walk_179) (raA_leaf sX12_walk_180)))) (raA_br (raA_br (raA_leaf sX12_walk_183) (raA_br (raA_leaf sX12_walk_184) (raA_leaf sX12_walk_185))) (raA_br (raA_br (raA_leaf sX12_walk_186) (raA_leaf sX12_walk_187)) (raA_br (raA_leaf sX12_walk_190) (raA_leaf sX12_walk_193))))))))
theorem sX12_within_0 {h0 : Hp_} : Snd 73 107 h0 (miT TbM) RX12 cX12_within 3 (some .boolean) 0 (i_iload 1 0) := snd_iload_n rfl dX12_within_0
theorem sX12_within_1 {h0 : Hp_} : Snd 73 107 h0 (miT TbM) RX12 cX12_within 3 (some .boolean) 1 (i_iload 2 1) := snd_iload_n rfl dX12_within_1
theorem sX12_within_2 {h0 : Hp_} : Snd 73 107 h0 (miT TbM) RX12 cX12_within 3 (some .boolean) 2 (i_icmp_lt 5 14) := snd_icmp_lt dX12_within_2 rfl
theorem sX12_within_5 {h0 : Hp_} : Snd 73 107 h0 (miT TbM) RX12 cX12_within 3 (some .boolean) 5 (i_iload 6 0) := snd_iload_n rfl dX12_within_5
theorem sX12_within_6 {h0 : Hp_} : Snd 73 107 h0 (miT TbM) RX12 cX12_within 3 (some .boolean) 6 (i_iload 7 2) := snd_iload_n rfl dX12_within_6
theorem sX12_within_7 {h0 : Hp_} : Snd 73 107 h0 (miT TbM) RX12 cX12_within 3 (some .boolean) 7 (i_icmp_gt 10 14) := snd_icmp_gt dX12_within_7 rfl
theorem sX12_within_10 {h0 : Hp_} : Snd 73 107 h0 (miT TbM) RX12 cX12_within 3 (some .boolean) 10 (i_const 11 (vI 1)) := snd_iconst dX12_within_10
theorem sX12_within_11 {h0 : Hp_} : Snd 73 107 h0 (miT TbM) RX12 cX12_within 3 (some .boolean) 11 (i_goto 15) := snd_goto dX12_within_11 rfl
theorem sX12_within_14 {h0 : Hp_} : Snd 73 107 h0 (miT TbM) RX12 cX12_within 3 (some .boolean) 14 (i_const 15 (vI 0)) := snd_iconst dX12_within_14
theorem sX12_within_15 {h0 : Hp_} : Snd 73 107 h0 (miT TbM) RX12 cX12_within 3 (some .boolean) 15 (i_zret) := snd_zret dX12_within_15
theorem kX12_within {h0 : Hp_} : raA (okI 73 107 h0 (miT TbM) (yX12_within, cX12_within, 3, (some .boolean))) tX12_within := (raA_br (raA_br (raA_br (raA_leaf sX12_within_0) (raA_leaf sX12_within_1)) (raA_br (raA_leaf sX12_within_2) (raA_br (raA_leaf sX12_within_5) (raA_leaf sX12_within_6)))) (raA_br (raA_br (raA_leaf sX12_within_7) (raA_leaf sX12_within_10)) (raA_br (raA_leaf sX12_within_11) (raA_br (raA_leaf sX12_within_14) (raA_leaf sX12_within_15)))))
theorem sX12_work_0 {h0 : Hp_} : Snd 73 107 h0 (miT TbM) RX12 cX12_work 6 none 0 (i_const 1 (vI 0)) := snd_iconst dX12_work_0
theorem sX12_work_1 {h0 : Hp_} : Snd 73 107 h0 (miT TbM) RX12 cX12_work 6 none 1 (i_istore 3 5) := snd_istore (by decide) dX12_work_1
theorem sX12_work_3 {h0 : Hp_} : Snd 73 107 h0 (miT TbM) RX12 cX12_work 6 none 3 (i_iload 5 5) := snd_iload dX12_work_3
theorem sX12_work_5 {h0 : Hp_} : Snd 73 107 h0 (miT TbM) RX12 cX12_work 6 none 5 (i_iload 6 3) := snd_iload_n rfl dX12_work_5
theorem sX12_work_6 {h0 : Hp_} : Snd 73 107 h0 (miT TbM) RX12 cX12_work 6 none 6 (i_icmp_ge 9 33) := snd_icmp_ge dX12_work_6 rfl
theorem sX12_work_9 {h0 : Hp_} : Snd 73 107 h0 (miT TbM) RX12 cX12_work 6 none 9 (i_aload 10 0) := snd_aload_n rfl dX12_work_9
theorem sX12_work_10 {h0 : Hp_} : Snd 73 107 h0 (miT TbM) RX12 cX12_work 6 none 10 (i_getR 11 7 13) := snd_getR rfl (by decide) (by decide) (by decide) (fun hK ho hs hq kk => gf_X12_29 hK ho hs hq rfl dX12_work_10 kk)
theorem sX12_work_13 {h0 : Hp_} : Snd 73 107 h0 (miT TbM) RX12 cX12_work 6 none 13 (i_iload 15 5) := snd_iload dX12_work_13
theorem sX12_work_15 {h0 : Hp_} : Snd 73 107 h0 (miT TbM) RX12 cX12_work 6 none 15 (i_aload 16 0) := snd_aload_n rfl dX12_work_15
theorem sX12_work_16 {h0 : Hp_} : Snd 73 107 h0 (miT TbM) RX12 cX12_work 6 none 16 (i_getR 11 6 19) := snd_getR rfl (by decide) (by decide) (by decide) (fun hK ho hs hq kk => gf_X12_26 hK ho hs hq rfl dX12_work_16 kk)
theorem sX12_work_19 {h0 : Hp_} : Snd 73 107 h0 (miT TbM) RX12 cX12_work 6 none 19 (i_iload 20 1) := snd_iload_n rfl dX12_work_19
theorem sX12_work_20 {h0 : Hp_} : Snd 73 107 h0 (miT TbM) RX12 cX12_work 6 none 20 (i_iload 21 2) := snd_iload_n rfl dX12_work_20
theorem sX12_work_21 {h0 : Hp_} : Snd 73 107 h0 (miT TbM) RX12 cX12_work 6 none 21 (i_iload 23 5) := snd_iload dX12_work_21
theorem sX12_work_23 {h0 : Hp_} : Snd 73 107 h0 (miT TbM) RX12 cX12_work 6 none 23 (i_imul 24) := snd_imul dX12_work_23
theorem sX12_work_24 {h0 : Hp_} : Snd 73 107 h0 (miT TbM) RX12 cX12_work 6 none 24 (i_iadd 25) := snd_iadd dX12_work_24
theorem sX12_work_25 {h0 : Hp_} : Snd 73 107 h0 (miT TbM) RX12 cX12_work 6 none 25 (i_iald 73 107 26) := snd_iald dX12_work_25
theorem sX12_work_26 {h0 : Hp_} : Snd 73 107 h0 (miT TbM) RX12 cX12_work 6 none 26 (i_iast 73 107 27) := snd_iast dX12_work_26
theorem sX12_work_27 {h0 : Hp_} : Snd 73 107 h0 (miT TbM) RX12 cX12_work 6 none 27 (i_iinc 30 5 1) := snd_iinc (by decide) dX12_work_27
theorem sX12_work_30 {h0 : Hp_} : Snd 73 107 h0 (miT TbM) RX12 cX12_work 6 none 30 (i_goto 3) := snd_goto dX12_work_30 rfl
theorem sX12_work_33 {h0 : Hp_} : Snd 73 107 h0 (miT TbM) RX12 cX12_work 6 none 33 (i_iload 35 4) := snd_iload dX12_work_33
theorem sX12_work_35 {h0 : Hp_} : Snd 73 107 h0 (miT TbM) RX12 cX12_work 6 none 35 (i_if_eq 38 46) := snd_if_eq dX12_work_35 rfl
theorem sX12_work_38 {h0 : Hp_} : Snd 73 107 h0 (miT TbM) RX12 cX12_work 6 none 38 (i_aload 39 0) := snd_aload_n rfl dX12_work_38
theorem sX12_work_39 {h0 : Hp_} : Snd 73 107 h0 (miT TbM) RX12 cX12_work 6 none 39 (i_iload 40 3) := snd_iload_n rfl dX12_work_39
theorem sX12_work_40 {h0 : Hp_} : Snd 73 107 h0 (miT TbM) RX12 cX12_work 6 none 40 (i_stop) := snd_stop
theorem sX12_work_43 {h0 : Hp_} : Snd 73 107 h0 (miT TbM) RX12 cX12_work 6 none 43 (i_goto 51) := snd_goto dX12_work_43 rfl
theorem sX12_work_46 {h0 : Hp_} : Snd 73 107 h0 (miT TbM) RX12 cX12_work 6 none 46 (i_aload 47 0) := snd_aload_n rfl dX12_work_46
theorem sX12_work_47 {h0 : Hp_} : Snd 73 107 h0 (miT TbM) RX12 cX12_work 6 none 47 (i_iload 48 3) := snd_iload_n rfl dX12_work_47
theorem sX12_work_48 {h0 : Hp_} : Snd 73 107 h0 (miT TbM) RX12 cX12_work 6 none 48 (i_cV1 19 11 51) := snd_cV1 (fun hK hd hC ho hs h6 h7 h8 kk => iv_X12_146 hK (mcM_19 hC) ho hs ⟨hd, by show _ ≤ 40 * (_ + 1); omega⟩ (Nat.le_refl _) h6 h7 h8 ⟨Nat.le_refl _, Nat.le_refl _⟩ dX12_work_48 kk)
theorem sX12_work_51 {h0 : Hp_} : Snd 73 107 h0 (miT TbM) RX12 cX12_work 6 none 51 (i_const 52 (vI 0)) := snd_iconst dX12_work_51
theorem sX12_work_52 {h0 : Hp_} : Snd 73 107 h0 (miT TbM) RX12 cX12_work 6 none 52 (i_istore 54 5) := snd_istore (by decide) dX12_work_52
theorem sX12_work_54 {h0 : Hp_} : Snd 73 107 h0 (miT TbM) RX12 cX12_work 6 none 54 (i_iload 56 5) := snd_iload dX12_work_54
theorem sX12_work_56 {h0 : Hp_} : Snd 73 107 h0 (miT TbM) RX12 cX12_work 6 none 56 (i_iload 57 3) := snd_iload_n rfl dX12_work_56
theorem sX12_work_57 {h0 : Hp_} : Snd 73 107 h0 (miT TbM) RX12 cX12_work 6 none 57 (i_icmp_ge 60 84) := snd_icmp_ge dX12_work_57 rfl
theorem sX12_work_60 {h0 : Hp_} : Snd 73 107 h0 (miT TbM) RX12 cX12_work 6 none 60 (i_aload 61 0) := snd_aload_n rfl dX12_work_60
theorem sX12_work_61 {h0 : Hp_} : Snd 73 107 h0 (miT TbM) RX12 cX12_work 6 none 61 (i_getR 11 6 64) := snd_getR rfl (by decide) (by decide) (by decide) (fun hK ho hs hq kk => gf_X12_26 hK ho hs hq rfl dX12_work_61 kk)
theorem sX12_work_64 {h0 : Hp_} : Snd 73 107 h0 (miT TbM) RX12 cX12_work 6 none 64 (i_iload 65 1) := snd_iload_n rfl dX12_work_64
theorem sX12_work_65 {h0 : Hp_} : Snd 73 107 h0 (miT TbM) RX12 cX12_work 6 none 65 (i_iload 66 2) := snd_iload_n rfl dX12_work_65
theorem sX12_work_66 {h0 : Hp_} : Snd 73 107 h0 (miT TbM) RX12 cX12_work 6 none 66 (i_iload 68 5) := snd_iload dX12_work_66
theorem sX12_work_68 {h0 : Hp_} : Snd 73 107 h0 (miT TbM) RX12 cX12_work 6 none 68 (i_imul 69) := snd_imul dX12_work_68
theorem sX12_work_69 {h0 : Hp_} : Snd 73 107 h0 (miT TbM) RX12 cX12_work 6 none 69 (i_iadd 70) := snd_iadd dX12_work_69
theorem sX12_work_70 {h0 : Hp_} : Snd 73 107 h0 (miT TbM) RX12 cX12_work 6 none 70 (i_aload 71 0) := snd_aload_n rfl dX12_work_70
theorem sX12_work_71 {h0 : Hp_} : Snd 73 107 h0 (miT TbM) RX12 cX12_work 6 none 71 (i_getR 11 8 74) := snd_getR rfl (by decide) (by decide) (by decide) (fun hK ho hs hq kk => gf_X12_32 hK ho hs hq rfl dX12_work_71 kk)
theorem sX12_work_74 {h0 : Hp_} : Snd 73 107 h0 (miT TbM) RX12 cX12_work 6 none 74 (i_iload 76 5) := snd_iload dX12_work_74
theorem sX12_work_76 {h0 : Hp_} : Snd 73 107 h0 (miT TbM) RX12 cX12_work 6 none 76 (i_iald 73 107 77) := snd_iald dX12_work_76
theorem sX12_work_77 {h0 : Hp_} : Snd 73 107 h0 (miT TbM) RX12 cX12_work 6 none 77 (i_iast 73 107 78) := snd_iast dX12_work_77
theorem sX12_work_78 {h0 : Hp_} : Snd 73 107 h0 (miT TbM) RX12 cX12_work 6 none 78 (i_iinc 81 5 1) := snd_iinc (by decide) dX12_work_78
theorem sX12_work_81 {h0 : Hp_} : Snd 73 107 h0 (miT TbM) RX12 cX12_work 6 none 81 (i_goto 54) := snd_goto dX12_work_81 rfl
theorem sX12_work_84 {h0 : Hp_} : Snd 73 107 h0 (miT TbM) RX12 cX12_work 6 none 84 (i_vret) := snd_vret dX12_work_84
theorem kX12_work {h0 : Hp_} : raA (okI 73 107 h0 (miT TbM) (yX12_work, cX12_work, 6, none)) tX12_work := (raA_br (raA_br (raA_br (raA_br (raA_br (raA_leaf sX12_work_0) (raA_br (raA_leaf sX12_work_1) (raA_leaf sX12_work_3))) (raA_br (raA_leaf sX12_work_5) (raA_br (raA_leaf sX12_work_6) (raA_leaf sX12_work_9)))) (raA_br (raA_br (raA_leaf sX12_work_10) (raA_br (raA_leaf sX12_work_13) (raA_leaf sX12_work_15))) (raA_br (raA_leaf sX12_work_16) (raA_br (raA_leaf sX12_work_19) (raA_leaf sX12_work_20))))) (raA_br (raA_br (raA_br (raA_leaf sX12_work_21) (raA_br (raA_leaf sX12_work_23) (raA_leaf sX12_work_24))) (raA_br (raA_leaf sX12_work_25) (raA_br (raA_leaf sX12_work_26) (raA_leaf sX12_work_27)))) (raA_br (raA_br (raA_leaf sX12_work_30) (raA_br (raA_leaf sX12_work_33) (raA_leaf sX12_work_35))) (raA_br (raA_leaf sX12_work_38) (raA_br (raA_leaf sX12_work_39) (raA_leaf sX12_work_40)))))) (raA_br (raA_br (raA_br (raA_br (raA_leaf sX12_work_43) (raA_br (raA_leaf sX12_work_46) (raA_leaf sX12_work_47))) (raA_br (raA_leaf sX12_work_48) (raA_br (raA_leaf sX12_work_51) (raA_leaf sX12_work_52)))) (raA_br (raA_br (raA_leaf sX12_work_54) (raA_br (raA_leaf sX12_work_56) (raA_leaf sX12_work_57))) (raA_br (raA_leaf sX12_work_60) (raA_br (raA_leaf sX12_work_61) (raA_leaf sX12_work_64))))) (raA_br (raA_br (raA_br (raA_leaf sX12_work_65) (raA_br (raA_leaf sX12_work_66) (raA_leaf sX12_work_68))) (raA_br (raA_leaf sX12_work_69) (raA_br (raA_leaf sX12_work_70) (raA_leaf sX12_work_71)))) (raA_br (raA_br (raA_leaf sX12_work_74) (raA_br (raA_leaf sX12_work_76) (raA_leaf sX12_work_77))) (raA_br (raA_leaf sX12_work_78) (raA_br (raA_leaf sX12_work_81) (raA_leaf sX12_work_84)))))))
theorem sJ6_numberOfLeadingZeros_0f7a4_0 {h0 : Hp_} : Snd 0 108 h0 (miT TbC) RJ6 cJ6_numberOfLeadingZeros_0f7a4 2 (some .int) 0 (i_iload 1 0) := snd_iload_n rfl dJ6_numberOfLeadingZeros_0f7a4_0
theorem sJ6_numberOfLeadingZeros_0f7a4_1 {h0 : Hp_} : Snd 0 108 h0 (miT TbC) RJ6 cJ6_numberOfLeadingZeros_0f7a4 2 (some .int) 1 (i_if_gt 4 15) := snd_if_gt dJ6_numberOfLeadingZeros_0f7a4_1 rfl
theorem sJ6_numberOfLeadingZeros_0f7a4_4 {h0 : Hp_} : Snd 0 108 h0 (miT TbC) RJ6 cJ6_numberOfLeadingZeros_0f7a4 2 (some .int) 4 (i_iload 5 0) := snd_iload_n rfl dJ6_numberOfLeadingZeros_0f7a4_4
theorem sJ6_numberOfLeadingZeros_0f7a4_5 {h0 : Hp_} : Snd 0 108 h0 (miT TbC) RJ6 cJ6_numberOfLeadingZeros_0f7a4 2 (some .int) 5 (i_if_ne 8 13) := snd_if_ne dJ6_numberOfLeadingZeros_0f7a4_5 rfl
theorem sJ6_numberOfLeadingZeros_0f7a4_8 {h0 : Hp_} : Snd 0 108 h0 (miT TbC) RJ6 cJ6_numberOfLeadingZeros_0f7a4 2 (some .int) 8 (i_const 10 (vI 32)) := snd_bipush (by decide) dJ6_numberOfLeadingZeros_0f7a4_8
theorem sJ6_numberOfLeadingZeros_0f7a4_10 {h0 : Hp_} : Snd 0 108 h0 (miT TbC) RJ6 cJ6_numberOfLeadingZeros_0f7a4 2 (some .int) 10 (i_goto 14) := snd_goto dJ6_numberOfLeadingZeros_0f7a4_10 rfl
theorem sJ6_numberOfLeadingZeros_0f7a4_13 {h0 : Hp_} : Snd 0 108 h0 (miT TbC) RJ6 cJ6_numberOfLeadingZeros_0f7a4 2 (some .int) 13 (i_const 14 (vI 0)) := snd_iconst dJ6_numberOfLeadingZeros_0f7a4_13
theorem sJ6_numberOfLeadingZeros_0f7a4_14 {h0 : Hp_} : Snd 0 108 h0 (miT TbC) RJ6 cJ6_numberOfLeadingZeros_0f7a4 2 (some .int) 14 (i_iret) := snd_iret dJ6_numberOfLeadingZeros_0f7a4_14
theorem sJ6_numberOfLeadingZeros_0f7a4_15 {h0 : Hp_} : Snd 0 108 h0 (miT TbC) RJ6 cJ6_numberOfLeadingZeros_0f7a4 2 (some .int) 15 (i_const 17 (vI 31)) := snd_bipush (by decide) dJ6_numberOfLeadingZeros_0f7a4_15
theorem sJ6_numberOfLeadingZeros_0f7a4_17 {h0 : Hp_} : Snd 0 108 h0 (miT TbC) RJ6 cJ6_numberOfLeadingZeros_0f7a4 2 (some .int) 17 (i_istore 18 1) := snd_istore_n rfl (by decide) dJ6_numberOfLeadingZeros_0f7a4_17
theorem sJ6_numberOfLeadingZeros_0f7a4_18 {h0 : Hp_} : Snd 0 108 h0 (miT TbC) RJ6 cJ6_numberOfLeadingZeros_0f7a4 2 (some .int) 18 (i_iload 19 0) := snd_iload_n rfl dJ6_numberOfLeadingZeros_0f7a4_18
theorem sJ6_numberOfLeadingZeros_0f7a4_19 {h0 : Hp_} : Snd 0 108 h0 (miT TbC) RJ6 cJ6_numberOfLeadingZeros_0f7a4 2 (some .int) 19 (i_const 22 (vI 65536)) := snd_ldcw (gd_ (tb_3 162 rfl) rfl) dJ6_numberOfLeadingZeros_0f7a4_19
theorem sJ6_numberOfLeadingZeros_0f7a4_22 {h0 : Hp_} : Snd 0 108 h0 (miT TbC) RJ6 cJ6_numberOfLeadingZeros_0f7a4 2 (some .int) 22 (i_icmp_lt 25 33) := snd_icmp_lt dJ6_numberOfLeadingZeros_0f7a4_22 rfl
theorem sJ6_numberOfLeadingZeros_0f7a4_25 {h0 : Hp_} : Snd 0 108 h0 (miT TbC) RJ6 cJ6_numberOfLeadingZeros_0f7a4 2 (some .int) 25 (i_iinc 28 1 (-16)) := snd_iinc (by decide) dJ6_numberOfLeadingZeros_0f7a4_25
theorem sJ6_numberOfLeadingZeros_0f7a4_28 {h0 : Hp_} : Snd 0 108 h0 (miT TbC) RJ6 cJ6_numberOfLeadingZeros_0f7a4 2 (some .int) 28 (i_iload 29 0) := snd_iload_n rfl dJ6_numberOfLeadingZeros_0f7a4_28
theorem sJ6_numberOfLeadingZeros_0f7a4_29 {h0 : Hp_} : Snd 0 108 h0 (miT TbC) RJ6 cJ6_numberOfLeadingZeros_0f7a4 2 (some .int) 29 (i_const 31 (vI 16)) := snd_bipush (by decide) dJ6_numberOfLeadingZeros_0f7a4_29
theorem sJ6_numberOfLeadingZeros_0f7a4_31 {h0 : Hp_} : Snd 0 108 h0 (miT TbC) RJ6 cJ6_numberOfLeadingZeros_0f7a4 2 (some .int) 31 (i_iushr 32) := snd_iushr dJ6_numberOfLeadingZeros_0f7a4_31
theorem sJ6_numberOfLeadingZeros_0f7a4_32 {h0 : Hp_} : Snd 0 108 h0 (miT TbC) RJ6 cJ6_numberOfLeadingZeros_0f7a4 2 (some .int) 32 (i_istore 33 0) := snd_istore_n rfl (by decide) dJ6_numberOfLeadingZeros_0f7a4_32
theorem sJ6_numberOfLeadingZeros_0f7a4_33 {h0 : Hp_} : Snd 0 108 h0 (miT TbC) RJ6 cJ6_numberOfLeadingZeros_0f7a4 2 (some .int) 33 (i_iload 34 0) := snd_iload_n rfl dJ6_numberOfLeadingZeros_0f7a4_33
theorem sJ6_numberOfLeadingZeros_0f7a4_34 {h0 : Hp_} : Snd 0 108 h0 (miT TbC) RJ6 cJ6_numberOfLeadingZeros_0f7a4 2 (some .int) 34 (i_const 37 (vI 256)) := snd_sipush (by decide) dJ6_numberOfLeadingZeros_0f7a4_34
theorem sJ6_numberOfLeadingZeros_0f7a4_37 {h0 : Hp_} : Snd 0 108 h0 (miT TbC) RJ6 cJ6_numberOfLeadingZeros_0f7a4 2 (some .int) 37 (i_icmp_lt 40 48) := snd_icmp_lt dJ6_numberOfLeadingZeros_0f7a4_37 rfl
theorem sJ6_numberOfLeadingZeros_0f7a4_40 {h0 : Hp_} : Snd 0 108 h0 (miT TbC) RJ6 cJ6_numberOfLeadingZeros_0f7a4 2 (some .int) 40 (i_iinc 43 1 (-8)) := snd_iinc (by decide) dJ6_numberOfLeadingZeros_0f7a4_40
theorem sJ6_numberOfLeadingZeros_0f7a4_43 {h0 : Hp_} : Snd 0 108 h0 (miT TbC) RJ6 cJ6_numberOfLeadingZeros_0f7a4 2 (some .int) 43 (i_iload 44 0) := snd_iload_n rfl dJ6_numberOfLeadingZeros_0f7a4_43
theorem sJ6_numberOfLeadingZeros_0f7a4_44 {h0 : Hp_} : Snd 0 108 h0 (miT TbC) RJ6 cJ6_numberOfLeadingZeros_0f7a4 2 (some .int) 44 (i_const 46 (vI 8)) := snd_bipush (by decide) dJ6_numberOfLeadingZeros_0f7a4_44
theorem sJ6_numberOfLeadingZeros_0f7a4_46 {h0 : Hp_} : Snd 0 108 h0 (miT TbC) RJ6 cJ6_numberOfLeadingZeros_0f7a4 2 (some .int) 46 (i_iushr 47) := snd_iushr dJ6_numberOfLeadingZeros_0f7a4_46
theorem sJ6_numberOfLeadingZeros_0f7a4_47 {h0 : Hp_} : Snd 0 108 h0 (miT TbC) RJ6 cJ6_numberOfLeadingZeros_0f7a4 2 (some .int) 47 (i_istore 48 0) := snd_istore_n rfl (by decide) dJ6_numberOfLeadingZeros_0f7a4_47
theorem sJ6_numberOfLeadingZeros_0f7a4_48 {h0 : Hp_} : Snd 0 108 h0 (miT TbC) RJ6 cJ6_numberOfLeadingZeros_0f7a4 2 (some .int) 48 (i_iload 49 0) := snd_iload_n rfl dJ6_numberOfLeadingZeros_0f7a4_48
theorem sJ6_numberOfLeadingZeros_0f7a4_49 {h0 : Hp_} : Snd 0 108 h0 (miT TbC) RJ6 cJ6_numberOfLeadingZeros_0f7a4 2 (some .int) 49 (i_const 51 (vI 16)) := snd_bipush (by decide) dJ6_numberOfLeadingZeros_0f7a4_49
theorem sJ6_numberOfLeadingZeros_0f7a4_51 {h0 : Hp_} : Snd 0 108 h0 (miT TbC) RJ6 cJ6_numberOfLeadingZeros_0f7a4 2 (some .int) 51 (i_icmp_lt 54 61) := snd_icmp_lt dJ6_numberOfLeadingZeros_0f7a4_51 rfl
theorem sJ6_numberOfLeadingZeros_0f7a4_54 {h0 : Hp_} : Snd 0 108 h0 (miT TbC) RJ6 cJ6_numberOfLeadingZeros_0f7a4 2 (some .int) 54 (i_iinc 57 1 (-4)) := snd_iinc (by decide) dJ6_numberOfLeadingZeros_0f7a4_54
theorem sJ6_numberOfLeadingZeros_0f7a4_57 {h0 : Hp_} : Snd 0 108 h0 (miT TbC) RJ6 cJ6_numberOfLeadingZeros_0f7a4 2 (some .int) 57 (i_iload 58 0) := snd_iload_n rfl dJ6_numberOfLeadingZeros_0f7a4_57
theorem sJ6_numberOfLeadingZeros_0f7a4_58 {h0 : Hp_} : Snd 0 108 h0 (miT TbC) RJ6 cJ6_numberOfLeadingZeros_0f7a4 2 (some .int) 58 (i_const 59 (vI 4)) := snd_iconst dJ6_numberOfLeadingZeros_0f7a4_58
theorem sJ6_numberOfLeadingZeros_0f7a4_59 {h0 : Hp_} : Snd 0 108 h0 (miT TbC) RJ6 cJ6_numberOfLeadingZeros_0f7a4 2 (some .int) 59 (i_iushr 60) := snd_iushr dJ6_numberOfLeadingZeros_0f7a4_59
theorem sJ6_numberOfLeadingZeros_0f7a4_60 {h0 : Hp_} : Snd 0 108 h0 (miT TbC) RJ6 cJ6_numberOfLeadingZeros_0f7a4 2 (some .int) 60 (i_istore 61 0) := snd_istore_n rfl (by decide) dJ6_numberOfLeadingZeros_0f7a4_60
theorem sJ6_numberOfLeadingZeros_0f7a4_61 {h0 : Hp_} : Snd 0 108 h0 (miT TbC) RJ6 cJ6_numberOfLeadingZeros_0f7a4 2 (some .int) 61 (i_iload 62 0) := snd_iload_n rfl dJ6_numberOfLeadingZeros_0f7a4_61
theorem sJ6_numberOfLeadingZeros_0f7a4_62 {h0 : Hp_} : Snd 0 108 h0 (miT TbC) RJ6 cJ6_numberOfLeadingZeros_0f7a4 2 (some .int) 62 (i_const 63 (vI 4)) := snd_iconst dJ6_numberOfLeadingZeros_0f7a4_62
theorem sJ6_numberOfLeadingZeros_0f7a4_63 {h0 : Hp_} : Snd 0 108 h0 (miT TbC) RJ6 cJ6_numberOfLeadingZeros_0f7a4 2 (some .int) 63 (i_icmp_lt 66 73) := snd_icmp_lt dJ6_numberOfLeadingZeros_0f7a4_63 rfl
theorem sJ6_numberOfLeadingZeros_0f7a4_66 {h0 : Hp_} : Snd 0 108 h0 (miT TbC) RJ6 cJ6_numberOfLeadingZeros_0f7a4 2 (some .int) 66 (i_iinc 69 1 (-2)) := snd_iinc (by decide) dJ6_numberOfLeadingZeros_0f7a4_66
theorem sJ6_numberOfLeadingZeros_0f7a4_69 {h0 : Hp_} : Snd 0 108 h0 (miT TbC) RJ6 cJ6_numberOfLeadingZeros_0f7a4 2 (some .int) 69 (i_iload 70 0) := snd_iload_n rfl dJ6_numberOfLeadingZeros_0f7a4_69
theorem sJ6_numberOfLeadingZeros_0f7a4_70 {h0 : Hp_} : Snd 0 108 h0 (miT TbC) RJ6 cJ6_numberOfLeadingZeros_0f7a4 2 (some .int) 70 (i_const 71 (vI 2)) := snd_iconst dJ6_numberOfLeadingZeros_0f7a4_70
theorem sJ6_numberOfLeadingZeros_0f7a4_71 {h0 : Hp_} : Snd 0 108 h0 (miT TbC) RJ6 cJ6_numberOfLeadingZeros_0f7a4 2 (some .int) 71 (i_iushr 72) := snd_iushr dJ6_numberOfLeadingZeros_0f7a4_71
theorem sJ6_numberOfLeadingZeros_0f7a4_72 {h0 : Hp_} : Snd 0 108 h0 (miT TbC) RJ6 cJ6_numberOfLeadingZeros_0f7a4 2 (some .int) 72 (i_istore 73 0) := snd_istore_n rfl (by decide) dJ6_numberOfLeadingZeros_0f7a4_72
theorem sJ6_numberOfLeadingZeros_0f7a4_73 {h0 : Hp_} : Snd 0 108 h0 (miT TbC) RJ6 cJ6_numberOfLeadingZeros_0f7a4 2 (some .int) 73 (i_iload 74 1) := snd_iload_n rfl dJ6_numberOfLeadingZeros_0f7a4_73
theorem sJ6_numberOfLeadingZeros_0f7a4_74 {h0 : Hp_} : Snd 0 108 h0 (miT TbC) RJ6 cJ6_numberOfLeadingZeros_0f7a4 2 (some .int) 74 (i_iload 75 0) := snd_iload_n rfl dJ6_numberOfLeadingZeros_0f7a4_74
theorem sJ6_numberOfLeadingZeros_0f7a4_75 {h0 : Hp_} : Snd 0 108 h0 (miT TbC) RJ6 cJ6_numberOfLeadingZeros_0f7a4 2 (some .int) 75 (i_const 76 (vI 1)) := snd_iconst dJ6_numberOfLeadingZeros_0f7a4_75
theorem sJ6_numberOfLeadingZeros_0f7a4_76 {h0 : Hp_} : Snd 0 108 h0 (miT TbC) RJ6 cJ6_numberOfLeadingZeros_0f7a4 2 (some .int) 76 (i_iushr 77) := snd_iushr dJ6_numberOfLeadingZeros_0f7a4_76
theorem sJ6_numberOfLeadingZeros_0f7a4_77 {h0 : Hp_} : Snd 0 108 h0 (miT TbC) RJ6 cJ6_numberOfLeadingZeros_0f7a4 2 (some .int) 77 (i_isub 78) := snd_isub dJ6_numberOfLeadingZeros_0f7a4_77
theorem sJ6_numberOfLeadingZeros_0f7a4_78 {h0 : Hp_} : Snd 0 108 h0 (miT TbC) RJ6 cJ6_numberOfLeadingZeros_0f7a4 2 (some .int) 78 (i_iret) := snd_iret dJ6_numberOfLeadingZeros_0f7a4_78
theorem kJ6_numberOfLeadingZeros_0f7a4 {h0 : Hp_} : raA (okI 0 108 h0 (miT TbC) (yJ6_numberOfLeadingZeros_0f7a4, cJ6_numberOfLeadingZeros_0f7a4, 2, (some .int))) tJ6_numberOfLeadingZeros_0f7a4 := (raA_br (raA_br (raA_br (raA_br (raA_br (raA_leaf sJ6_numberOfLeadingZeros_0f7a4_0) (raA_br (raA_leaf sJ6_numberOfLeadingZeros_0f7a4_1) (raA_leaf sJ6_numberOfLeadingZeros_0f7a4_4))) (raA_br (raA_leaf sJ6_numberOfLeadingZeros_0f7a4_5) (raA_br (raA_leaf sJ6_numberOfLeadingZeros_0f7a4_8) (raA_leaf sJ6_numberOfLeadingZeros_0f7a4_10)))) (raA_br (raA_br (raA_leaf sJ6_numberOfLeadingZeros_0f7a4_13) (raA_br (raA_leaf sJ6_numberOfLeadingZeros_0f7a4_14) (raA_leaf sJ6_numberOfLeadingZeros_0f7a4_15))) (raA_br (raA_leaf sJ6_numberOfLeadingZeros_0f7a4_17) (raA_br (raA_leaf sJ6_numberOfLeadingZeros_0f7a4_18) (raA_leaf sJ6_numberOfLeadingZeros_0f7a4_19))))) (raA_br (raA_br (raA_br (raA_leaf sJ6_numberOfLeadingZeros_0f7a4_22) (raA_br (raA_leaf sJ6_numberOfLeadingZeros_0f7a4_25) (raA_leaf sJ6_numberOfLeadingZeros_0f7a4_28))) (raA_br (raA_leaf sJ6_numberOfLeadingZeros_0f7a4_29) (raA_br (raA_leaf sJ6_numberOfLeadingZeros_0f7a4_31) (raA_leaf sJ6_numberOfLeadingZeros_0f7a4_32)))) (raA_br (raA_br (raA_leaf sJ6_numberOfLeadingZeros_0f7a4_33) (raA_br (raA_leaf sJ6_numberOfLeadingZeros_0f7a4_34) (raA_leaf sJ6_numberOfLeadingZeros_0f7a4_37))) (raA_br (raA_leaf sJ6_numberOfLeadingZeros_0f7a4_40) (raA_br (raA_leaf sJ6_numberOfLeadingZeros_0f7a4_43) (raA_leaf sJ6_numberOfLeadingZeros_0f7a4_44)))))) (raA_br (raA_br (raA_br (raA_br (raA_leaf sJ6_numberOfLeadingZeros_0f7a4_46) (raA_br (raA_leaf sJ6_numberOfLeadingZeros_0f7a4_47) (raA_leaf sJ6_numberOfLeadingZeros_0f7a4_48))) (raA_br (raA_leaf sJ6_numberOfLeadingZeros_0f7a4_49) (raA_br (raA_leaf sJ6_numberOfLeadingZeros_0f7a4_51) (raA_leaf sJ6_numberOfLeadingZeros_0f7a4_54)))) (raA_br (raA_br (raA_leaf sJ6_numberOfLeadingZeros_0f7a4_57) (raA_br (raA_leaf sJ6_numberOfLeadingZeros_0f7a4_58) (raA_leaf sJ6_numberOfLeadingZeros_0f7a4_59))) (raA_br (raA_leaf sJ6_numberOfLeadingZeros_0f7a4_60) (raA_br (raA_leaf sJ6_numberOfLeadingZeros_0f7a4_61) (raA_leaf sJ6_numberOfLeadingZeros_0f7a4_62))))) (raA_br (raA_br (raA_br (raA_leaf sJ6_numberOfLeadingZeros_0f7a4_63) (raA_br (raA_leaf sJ6_numberOfLeadingZeros_0f7a4_66) (raA_leaf sJ6_numberOfLeadingZeros_0f7a4_69))) (raA_br (raA_leaf sJ6_numberOfLeadingZeros_0f7a4_70) (raA_br (raA_leaf sJ6_numberOfLeadingZeros_0f7a4_71) (raA_leaf sJ6_numberOfLeadingZeros_0f7a4_72)))) (raA_br (raA_br (raA_leaf sJ6_numberOfLeadingZeros_0f7a4_73) (raA_br (raA_leaf sJ6_numberOfLeadingZeros_0f7a4_74) (raA_leaf sJ6_numberOfLeadingZeros_0f7a4_75))) (raA_br (raA_leaf sJ6_numberOfLeadingZeros_0f7a4_76) (raA_br (raA_leaf sJ6_numberOfLeadingZeros_0f7a4_77) (raA_leaf sJ6_numberOfLeadingZeros_0f7a4_78)))))))
theorem sJ7_fill_53178_0 {h0 : Hp_} : Snd 0 108 h0 (miT TbC) RJ7 cJ7_fill_53178 4 none 0 (i_const 1 (vI 0)) := snd_iconst dJ7_fill_53178_0
theorem sJ7_fill_53178_1 {h0 : Hp_} : Snd 0 108 h0 (miT TbC) RJ7 cJ7_fill_53178 4 none 1 (i_istore 2 2) := snd_istore_n rfl (by decide) dJ7_fill_53178_1
theorem sJ7_fill_53178_2 {h0 : Hp_} : Snd 0 108 h0 (miT TbC) RJ7 cJ7_fill_53178 4 none 2 (i_aload 3 0) := snd_aload_n rfl dJ7_fill_53178_2
theorem sJ7_fill_53178_3 {h0 : Hp_} : Snd 0 108 h0 (miT TbC) RJ7 cJ7_fill_53178 4 none 3 (i_alen 4) := snd_alen dJ7_fill_53178_3
theorem sJ7_fill_53178_4 {h0 : Hp_} : Snd 0 108 h0 (miT TbC) RJ7 cJ7_fill_53178 4 none 4 (i_istore 5 3) := snd_istore_n rfl (by decide) dJ7_fill_53178_4
theorem sJ7_fill_53178_5 {h0 : Hp_} : Snd 0 108 h0 (miT TbC) RJ7 cJ7_fill_53178 4 none 5 (i_iload 6 2) := snd_iload_n rfl dJ7_fill_53178_5
theorem sJ7_fill_53178_6 {h0 : Hp_} : Snd 0 108 h0 (miT TbC) RJ7 cJ7_fill_53178 4 none 6 (i_iload 7 3) := snd_iload_n rfl dJ7_fill_53178_6
theorem sJ7_fill_53178_7 {h0 : Hp_} : Snd 0 108 h0 (miT TbC) RJ7 cJ7_fill_53178 4 none 7 (i_icmp_ge 10 20) := snd_icmp_ge dJ7_fill_53178_7 rfl
theorem sJ7_fill_53178_10 {h0 : Hp_} : Snd 0 108 h0 (miT TbC) RJ7 cJ7_fill_53178 4 none 10 (i_aload 11 0) := snd_aload_n rfl dJ7_fill_53178_10
theorem sJ7_fill_53178_11 {h0 : Hp_} : Snd 0 108 h0 (miT TbC) RJ7 cJ7_fill_53178 4 none 11 (i_iload 12 2) := snd_iload_n rfl dJ7_fill_53178_11
theorem sJ7_fill_53178_12 {h0 : Hp_} : Snd 0 108 h0 (miT TbC) RJ7 cJ7_fill_53178 4 none 12 (i_iload 13 1) := snd_iload_n rfl dJ7_fill_53178_12
theorem sJ7_fill_53178_13 {h0 : Hp_} : Snd 0 108 h0 (miT TbC) RJ7 cJ7_fill_53178 4 none 13 (i_iast 0 108 14) := snd_iast dJ7_fill_53178_13
theorem sJ7_fill_53178_14 {h0 : Hp_} : Snd 0 108 h0 (miT TbC) RJ7 cJ7_fill_53178 4 none 14 (i_iinc 17 2 1) := snd_iinc (by decide) dJ7_fill_53178_14
theorem sJ7_fill_53178_17 {h0 : Hp_} : Snd 0 108 h0 (miT TbC) RJ7 cJ7_fill_53178 4 none 17 (i_goto 5) := snd_goto dJ7_fill_53178_17 rfl
theorem sJ7_fill_53178_20 {h0 : Hp_} : Snd 0 108 h0 (miT TbC) RJ7 cJ7_fill_53178 4 none 20 (i_vret) := snd_vret dJ7_fill_53178_20
theorem kJ7_fill_53178 {h0 : Hp_} : raA (okI 0 108 h0 (miT TbC) (yJ7_fill_53178, cJ7_fill_53178, 4, none)) tJ7_fill_53178 := (raA_br (raA_br (raA_br (raA_leaf sJ7_fill_53178_0) (raA_br (raA_leaf sJ7_fill_53178_1) (raA_leaf sJ7_fill_53178_2))) (raA_br (raA_br (raA_leaf sJ7_fill_53178_3) (raA_leaf sJ7_fill_53178_4)) (raA_br (raA_leaf sJ7_fill_53178_5) (raA_leaf sJ7_fill_53178_6)))) (raA_br (raA_br (raA_br (raA_leaf sJ7_fill_53178_7) (raA_leaf sJ7_fill_53178_10)) (raA_br (raA_leaf sJ7_fill_53178_11) (raA_leaf sJ7_fill_53178_12))) (raA_br (raA_br (raA_leaf sJ7_fill_53178_13) (raA_leaf sJ7_fill_53178_14)) (raA_br (raA_leaf sJ7_fill_53178_17) (raA_leaf sJ7_fill_53178_20)))))
theorem sX0_at_0 {h0 : Hp_} : Snd 0 108 h0 (miT TbC) RX0 cX0_at 4 (some .int) 0 (i_aload 1 0) := snd_aload_n rfl dX0_at_0
theorem sX0_at_1 {h0 : Hp_} : Snd 0 108 h0 (miT TbC) RX0 cX0_at 4 (some .int) 1 (i_iload 2 1) := snd_iload_n rfl dX0_at_1
theorem sX0_at_2 {h0 : Hp_} : Snd 0 108 h0 (miT TbC) RX0 cX0_at 4 (some .int) 2 (i_iload 3 2) := snd_iload_n rfl dX0_at_2
theorem sX0_at_3 {h0 : Hp_} : Snd 0 108 h0 (miT TbC) RX0 cX0_at 4 (some .int) 3 (i_iload 4 3) := snd_iload_n rfl dX0_at_3
theorem sX0_at_4 {h0 : Hp_} : Snd 0 108 h0 (miT TbC) RX0 cX0_at 4 (some .int) 4 (i_cV3 5 0 7) := snd_cV3 (fun hK hd hC ho hs h6 h7 h8 kk => iv_X0_58 hK (mcC_5 hC) ho hs ⟨hd, by show _ ≤ 40 * (_ + 1); omega⟩ (Nat.le_refl _) h6 h7 h8 ⟨Nat.le_refl _, Nat.le_refl _⟩ dX0_at_4 kk)
theorem sX0_at_7 {h0 : Hp_} : Snd 0 108 h0 (miT TbC) RX0 cX0_at 4 (some .int) 7 (i_if_eq 10 38) := snd_if_eq dX0_at_7 rfl
theorem sX0_at_10 {h0 : Hp_} : Snd 0 108 h0 (miT TbC) RX0 cX0_at 4 (some .int) 10 (i_aload 11 0) := snd_aload_n rfl dX0_at_10
theorem sX0_at_11 {h0 : Hp_} : Snd 0 108 h0 (miT TbC) RX0 cX0_at 4 (some .int) 11 (i_getR 0 0 14) := snd_getR rfl (by decide) (by decide) (by decide) (fun hK ho hs hq kk => gf_X0_9 hK ho hs hq rfl dX0_at_11 kk)
theorem sX0_at_14 {h0 : Hp_} : Snd 0 108 h0 (miT TbC) RX0 cX0_at 4 (some .int) 14 (i_aload 15 0) := snd_aload_n rfl dX0_at_14
theorem sX0_at_15 {h0 : Hp_} : Snd 0 108 h0 (miT TbC) RX0 cX0_at 4 (some .int) 15 (i_getR 0 2 18) := snd_getR rfl (by decide) (by decide) (by decide) (fun hK ho hs hq kk => gf_X0_18 hK ho hs hq rfl dX0_at_15 kk)
theorem sX0_at_18 {h0 : Hp_} : Snd 0 108 h0 (miT TbC) RX0 cX0_at 4 (some .int) 18 (i_iload 19 1) := snd_iload_n rfl dX0_at_18
theorem sX0_at_19 {h0 : Hp_} : Snd 0 108 h0 (miT TbC) RX0 cX0_at 4 (some .int) 19 (i_iald 0 108 20) := snd_iald dX0_at_19
theorem sX0_at_20 {h0 : Hp_} : Snd 0 108 h0 (miT TbC) RX0 cX0_at 4 (some .int) 20 (i_iload 21 3) := snd_iload_n rfl dX0_at_20
theorem sX0_at_21 {h0 : Hp_} : Snd 0 108 h0 (miT TbC) RX0 cX0_at 4 (some .int) 21 (i_iadd 22) := snd_iadd dX0_at_21
theorem sX0_at_22 {h0 : Hp_} : Snd 0 108 h0 (miT TbC) RX0 cX0_at 4 (some .int) 22 (i_const 24 (vI 8)) := snd_bipush (by decide) dX0_at_22
theorem sX0_at_24 {h0 : Hp_} : Snd 0 108 h0 (miT TbC) RX0 cX0_at 4 (some .int) 24 (i_imul 25) := snd_imul dX0_at_24
theorem sX0_at_25 {h0 : Hp_} : Snd 0 108 h0 (miT TbC) RX0 cX0_at 4 (some .int) 25 (i_aload 26 0) := snd_aload_n rfl dX0_at_25
theorem sX0_at_26 {h0 : Hp_} : Snd 0 108 h0 (miT TbC) RX0 cX0_at 4 (some .int) 26 (i_getR 0 1 29) := snd_getR rfl (by decide) (by decide) (by decide) (fun hK ho hs hq kk => gf_X0_15 hK ho hs hq rfl dX0_at_26 kk)
theorem sX0_at_29 {h0 : Hp_} : Snd 0 108 h0 (miT TbC) RX0 cX0_at 4 (some .int) 29 (i_iload 30 1) := snd_iload_n rfl dX0_at_29
theorem sX0_at_30 {h0 : Hp_} : Snd 0 108 h0 (miT TbC) RX0 cX0_at 4 (some .int) 30 (i_iald 0 108 31) := snd_iald dX0_at_30
theorem sX0_at_31 {h0 : Hp_} : Snd 0 108 h0 (miT TbC) RX0 cX0_at 4 (some .int) 31 (i_iadd 32) := snd_iadd dX0_at_31
theorem sX0_at_32 {h0 : Hp_} : Snd 0 108 h0 (miT TbC) RX0 cX0_at 4 (some .int) 32 (i_iload 33 2) := snd_iload_n rfl dX0_at_32
theorem sX0_at_33 {h0 : Hp_} : Snd 0 108 h0 (miT TbC) RX0 cX0_at 4 (some .int) 33 (i_iadd 34) := snd_iadd dX0_at_33
theorem sX0_at_34 {h0 : Hp_} : Snd 0 108 h0 (miT TbC) RX0 cX0_at 4 (some .int) 34 (i_iald 0 108 35) := snd_iald dX0_at_34
theorem sX0_at_35 {h0 : Hp_} : Snd 0 108 h0 (miT TbC) RX0 cX0_at 4 (some .int) 35 (i_goto 40) := snd_goto dX0_at_35 rfl
theorem sX0_at_38 {h0 : Hp_} : Snd 0 108 h0 (miT TbC) RX0 cX0_at 4 (some .int) 38 (i_const 40 (vI (-100000))) := snd_ldc lc_X0_62 dX0_at_38
theorem sX0_at_40 {h0 : Hp_} : Snd 0 108 h0 (miT TbC) RX0 cX0_at 4 (some .int) 40 (i_iret) := snd_iret dX0_at_40
theorem kX0_at {h0 : Hp_} : raA (okI 0 108 h0 (miT TbC) (yX0_at, cX0_at, 4, (some .int))) tX0_at := (raA_br (raA_br (raA_br (raA_br (raA_leaf sX0_at_0) (raA_br (raA_leaf sX0_at_1) (raA_leaf sX0_at_2))) (raA_br (raA_leaf sX0_at_3) (raA_br (raA_leaf sX0_at_4) (raA_leaf sX0_at_7)))) (raA_br (raA_br (raA_leaf sX0_at_10) (raA_br (raA_leaf sX0_at_11) (raA_leaf sX0_at_14))) (raA_br (raA_br (raA_leaf sX0_at_15) (raA_leaf sX0_at_18)) (raA_br (raA_leaf sX0_at_19) (raA_leaf sX0_at_20))))) (raA_br (raA_br (raA_br (raA_leaf sX0_at_21) (raA_br (raA_leaf sX0_at_22) (raA_leaf sX0_at_24))) (raA_br (raA_br (raA_leaf sX0_at_25) (raA_leaf sX0_at_26)) (raA_br (raA_leaf sX0_at_29) (raA_leaf sX0_at_30)))) (raA_br (raA_br (raA_leaf sX0_at_31) (raA_br (raA_leaf sX0_at_32) (raA_leaf sX0_at_33))) (raA_br (raA_br (raA_leaf sX0_at_34) (raA_leaf sX0_at_35)) (raA_br (raA_leaf sX0_at_38) (raA_leaf sX0_at_40))))))
theorem sX0_goForth_0 {h0 : Hp_} : Snd 0 108 h0 (miT TbC) RX0 cX0_goForth 5 none 0 (i_const 1 (vI 0)) := snd_iconst dX0_goForth_0
theorem sX0_goForth_1 {h0 : Hp_} : Snd 0 108 h0 (miT TbC) RX0 cX0_goForth 5 none 1 (i_istore 2 1) := snd_istore_n rfl (by decide) dX0_goForth_1
theorem sX0_goForth_2 {h0 : Hp_} : Snd 0 108 h0 (miT TbC) RX0 cX0_goForth 5 none 2 (i_iload 3 1) := snd_iload_n rfl dX0_goForth_2
theorem sX0_goForth_3 {h0 : Hp_} : Snd 0 108 h0 (miT TbC) RX0 cX0_goForth 5 none 3 (i_aload 4 0) := snd_aload_n rfl dX0_goForth_3
theorem sX0_goForth_4 {h0 : Hp_} : Snd 0 108 h0 (miT TbC) RX0 cX0_goForth 5 none 4 (i_getI 0 9 7) := snd_getI hl0 (fun hK ho hs hv kk => gf_X0_40 hK ho hs hv dX0_goForth_4 kk)
theorem sX0_goForth_7 {h0 : Hp_} : Snd 0 108 h0 (miT TbC) RX0 cX0_goForth 5 none 7 (i_icmp_ge 10 84) := snd_icmp_ge dX0_goForth_7 rfl
theorem sX0_goForth_10 {h0 : Hp_} : Snd 0 108 h0 (miT TbC) RX0 cX0_goForth 5 none 10 (i_aload 11 0) := snd_aload_n rfl dX0_goForth_10
theorem sX0_goForth_11 {h0 : Hp_} : Snd 0 108 h0 (miT TbC) RX0 cX0_goForth 5 none 11 (i_getI 0 7 14) := snd_getI hl0 (fun hK ho hs hv kk => gf_X0_33 hK ho hs hv dX0_goForth_11 kk)
theorem sX0_goForth_14 {h0 : Hp_} : Snd 0 108 h0 (miT TbC) RX0 cX0_goForth 5 none 14 (i_iload 15 1) := snd_iload_n rfl dX0_goForth_14
theorem sX0_goForth_15 {h0 : Hp_} : Snd 0 108 h0 (miT TbC) RX0 cX0_goForth 5 none 15 (i_cS2 11 18) := snd_cS2 (fun hK hd hC h6 h7 h8 kk => iv_X0_46 hK (mcC_11 hC) ⟨hd, by show _ ≤ 40 * (_ + 1); omega⟩ (Nat.le_refl _) h6 h7 h8 ⟨Nat.le_refl _, Nat.le_refl _⟩ dX0_goForth_15 kk)
theorem sX0_goForth_18 {h0 : Hp_} : Snd 0 108 h0 (miT TbC) RX0 cX0_goForth 5 none 18 (i_istore 19 2) := snd_istore_n rfl (by decide) dX0_goForth_18
theorem sX0_goForth_19 {h0 : Hp_} : Snd 0 108 h0 (miT TbC) RX0 cX0_goForth 5 none 19 (i_aload 20 0) := snd_aload_n rfl dX0_goForth_19
theorem sX0_goForth_20 {h0 : Hp_} : Snd 0 108 h0 (miT TbC) RX0 cX0_goForth 5 none 20 (i_getI 0 8 23) := snd_getI hl0 (fun hK ho hs hv kk => gf_X0_37 hK ho hs hv dX0_goForth_20 kk)
theorem sX0_goForth_23 {h0 : Hp_} : Snd 0 108 h0 (miT TbC) RX0 cX0_goForth 5 none 23 (i_iload 24 1) := snd_iload_n rfl dX0_goForth_23
theorem sX0_goForth_24 {h0 : Hp_} : Snd 0 108 h0 (miT TbC) RX0 cX0_goForth 5 none 24 (i_cS2 11 27) := snd_cS2 (fun hK hd hC h6 h7 h8 kk => iv_X0_46 hK (mcC_11 hC) ⟨hd, by show _ ≤ 40 * (_ + 1); omega⟩ (Nat.le_refl _) h6 h7 h8 ⟨Nat.le_refl _, Nat.le_refl _⟩ dX0_goForth_24 kk)
theorem sX0_goForth_27 {h0 : Hp_} : Snd 0 108 h0 (miT TbC) RX0 cX0_goForth 5 none 27 (i_istore 28 3) := snd_istore_n rfl (by decide) dX0_goForth_27
theorem sX0_goForth_28 {h0 : Hp_} : Snd 0 108 h0 (miT TbC) RX0 cX0_goForth 5 none 28 (i_const 29 (vI 0)) := snd_iconst dX0_goForth_28
theorem sX0_goForth_29 {h0 : Hp_} : Snd 0 108 h0 (miT TbC) RX0 cX0_goForth 5 none 29 (i_istore 31 4) := snd_istore (by decide) dX0_goForth_29
theorem sX0_goForth_31 {h0 : Hp_} : Snd 0 108 h0 (miT TbC) RX0 cX0_goForth 5 none 31 (i_iload 33 4) := snd_iload dX0_goForth_31
theorem sX0_goForth_33 {h0 : Hp_} : Snd 0 108 h0 (miT TbC) RX0 cX0_goForth 5 none 33 (i_iload 34 2) := snd_iload_n rfl dX0_goForth_33
theorem sX0_goForth_34 {h0 : Hp_} : Snd 0 108 h0 (miT TbC) RX0 cX0_goForth 5 none 34 (i_icmp_ge 37 52) := snd_icmp_ge dX0_goForth_34 rfl
theorem sX0_goForth_37 {h0 : Hp_} : Snd 0 108 h0 (miT TbC) RX0 cX0_goForth 5 none 37 (i_aload 38 0) := snd_aload_n rfl dX0_goForth_37
theorem sX0_goForth_38 {h0 : Hp_} : Snd 0 108 h0 (miT TbC) RX0 cX0_goForth 5 none 38 (i_iload 40 4) := snd_iload dX0_goForth_38
theorem sX0_goForth_40 {h0 : Hp_} : Snd 0 108 h0 (miT TbC) RX0 cX0_goForth 5 none 40 (i_const 42 (vI 8)) := snd_bipush (by decide) dX0_goForth_40
theorem sX0_goForth_42 {h0 : Hp_} : Snd 0 108 h0 (miT TbC) RX0 cX0_goForth 5 none 42 (i_iload 43 3) := snd_iload_n rfl dX0_goForth_42
theorem sX0_goForth_43 {h0 : Hp_} : Snd 0 108 h0 (miT TbC) RX0 cX0_goForth 5 none 43 (i_cV3 12 0 46) := snd_cV3 (fun hK hd hC ho hs h6 h7 h8 kk => iv_X0_84 hK (mcC_12 hC) ho hs ⟨hd, by show _ ≤ 40 * (_ + 1); omega⟩ (Nat.le_refl _) h6 h7 h8 ⟨Nat.le_refl _, Nat.le_refl _⟩ dX0_goForth_43 kk)
theorem sX0_goForth_46 {h0 : Hp_} : Snd 0 108 h0 (miT TbC) RX0 cX0_goForth 5 none 46 (i_iinc 49 4 1) := snd_iinc (by decide) dX0_goForth_46
theorem sX0_goForth_49 {h0 : Hp_} : Snd 0 108 h0 (miT TbC) RX0 cX0_goForth 5 none 49 (i_goto 31) := snd_goto dX0_goForth_49 rfl
theorem sX0_goForth_52 {h0 : Hp_} : Snd 0 108 h0 (miT TbC) RX0 cX0_goForth 5 none 52 (i_const 53 (vI 0)) := snd_iconst dX0_goForth_52
theorem sX0_goForth_53 {h0 : Hp_} : Snd 0 108 h0 (miT TbC) RX0 cX0_goForth 5 none 53 (i_istore 55 4) := snd_istore (by decide) dX0_goForth_53
theorem sX0_goForth_55 {h0 : Hp_} : Snd 0 108 h0 (miT TbC) RX0 cX0_goForth 5 none 55 (i_iload 57 4) := snd_iload dX0_goForth_55
theorem sX0_goForth_57 {h0 : Hp_} : Snd 0 108 h0 (miT TbC) RX0 cX0_goForth 5 none 57 (i_iload 58 3) := snd_iload_n rfl dX0_goForth_57
theorem sX0_goForth_58 {h0 : Hp_} : Snd 0 108 h0 (miT TbC) RX0 cX0_goForth 5 none 58 (i_icmp_ge 61 78) := snd_icmp_ge dX0_goForth_58 rfl
theorem sX0_goForth_61 {h0 : Hp_} : Snd 0 108 h0 (miT TbC) RX0 cX0_goForth 5 none 61 (i_aload 62 0) := snd_aload_n rfl dX0_goForth_61
theorem sX0_goForth_62 {h0 : Hp_} : Snd 0 108 h0 (miT TbC) RX0 cX0_goForth 5 none 62 (i_iload 64 4) := snd_iload dX0_goForth_62
theorem sX0_goForth_64 {h0 : Hp_} : Snd 0 108 h0 (miT TbC) RX0 cX0_goForth 5 none 64 (i_const 66 (vI 8)) := snd_bipush (by decide) dX0_goForth_64
theorem sX0_goForth_66 {h0 : Hp_} : Snd 0 108 h0 (miT TbC) RX0 cX0_goForth 5 none 66 (i_imul 67) := snd_imul dX0_goForth_66
theorem sX0_goForth_67 {h0 : Hp_} : Snd 0 108 h0 (miT TbC) RX0 cX0_goForth 5 none 67 (i_const 68 (vI 1)) := snd_iconst dX0_goForth_67
theorem sX0_goForth_68 {h0 : Hp_} : Snd 0 108 h0 (miT TbC) RX0 cX0_goForth 5 none 68 (i_iload 69 2) := snd_iload_n rfl dX0_goForth_68
theorem sX0_goForth_69 {h0 : Hp_} : Snd 0 108 h0 (miT TbC) RX0 cX0_goForth 5 none 69 (i_cV3 12 0 72) := snd_cV3 (fun hK hd hC ho hs h6 h7 h8 kk => iv_X0_84 hK (mcC_12 hC) ho hs ⟨hd, by show _ ≤ 40 * (_ + 1); omega⟩ (Nat.le_refl _) h6 h7 h8 ⟨Nat.le_refl _, Nat.le_refl _⟩ dX0_goForth_69 kk)
theorem sX0_goForth_72 {h0 : Hp_} : Snd 0 108 h0 (miT TbC) RX0 cX0_goForth 5 none 72 (i_iinc 75 4 1) := snd_iinc (by decide) dX0_goForth_72
theorem sX0_goForth_75 {h0 : Hp_} : Snd 0 108 h0 (miT TbC) RX0 cX0_goForth 5 none 75 (i_goto 55) := snd_goto dX0_goForth_75 rfl
theorem sX0_goForth_78 {h0 : Hp_} : Snd 0 108 h0 (miT TbC) RX0 cX0_goForth 5 none 78 (i_iinc 81 1 1) := snd_iinc (by decide) dX0_goForth_78
theorem sX0_goForth_81 {h0 : Hp_} : Snd 0 108 h0 (miT TbC) RX0 cX0_goForth 5 none 81 (i_goto 2) := snd_goto dX0_goForth_81 rfl
theorem sX0_goForth_84 {h0 : Hp_} : Snd 0 108 h0 (miT TbC) RX0 cX0_goForth 5 none 84 (i_vret) := snd_vret dX0_goForth_84
theorem kX0_goForth {h0 : Hp_} : raA (okI 0 108 h0 (miT TbC) (yX0_goForth, cX0_goForth, 5, none)) tX0_goForth := (raA_br (raA_br (raA_br (raA_br (raA_br (raA_leaf sX0_goForth_0) (raA_leaf sX0_goForth_1)) (raA_br (raA_leaf sX0_goForth_2) (raA_br (raA_leaf sX0_goForth_3) (raA_leaf sX0_goForth_4)))) (raA_br (raA_br (raA_leaf sX0_goForth_7) (raA_br (raA_leaf sX0_goForth_10) (raA_leaf sX0_goForth_11))) (raA_br (raA_leaf sX0_goForth_14) (raA_br (raA_leaf sX0_goForth_15) (raA_leaf sX0_goForth_18))))) (raA_br (raA_br (raA_br (raA_leaf sX0_goForth_19) (raA_leaf sX0_goForth_20)) (raA_br (raA_leaf sX0_goForth_23) (raA_br (raA_leaf sX0_goForth_24) (raA_leaf sX0_goForth_27)))) (raA_br (raA_br (raA_leaf sX0_goForth_28) (raA_br (raA_leaf sX0_goForth_29) (raA_leaf sX0_goForth_31))) (raA_br (raA_leaf sX0_goForth_33) (raA_br (raA_leaf sX0_goForth_34) (raA_leaf sX0_goForth_37)))))) (raA_br (raA_br (raA_br (raA_br (raA_leaf sX0_goForth_38) (raA_leaf sX0_goForth_40)) (raA_br (raA_leaf sX0_goForth_42) (raA_br (raA_leaf sX0_goForth_43) (raA_leaf sX0_goForth_46)))) (raA_br (raA_br (raA_leaf sX0_goForth_49) (raA_br (raA_leaf sX0_goForth_52) (raA_leaf sX0_goForth_53))) (raA_br (raA_leaf sX0_goForth_55) (raA_br (raA_leaf sX0_goForth_57) (raA_leaf sX0_goForth_58))))) (raA_br (raA_br (raA_br (raA_leaf sX0_goForth_61) (raA_br (raA_leaf sX0_goForth_62) (raA_leaf sX0_goForth_64))) (raA_br (raA_leaf sX0_goForth_66) (raA_br (raA_leaf sX0_goForth_67) (raA_leaf sX0_goForth_68)))) (raA_br (raA_br (raA_leaf sX0_goForth_69) (raA_br (raA_leaf sX0_goForth_72) (raA_leaf sX0_goForth_75))) (raA_br (raA_leaf sX0_goForth_78) (raA_br (raA_leaf sX0_goForth_81) (raA_leaf sX0_goForth_84)))))))

theorem sX12_acrossOf_0 {h0 : Hp_} : Snd 73 107 h0 (miT TbM) RX12 cX12_acrossOf 2 (some .int) 0 (i_aload 1 0) := snd_aload_n rfl dX12_acrossOf_0
theorem sX12_acrossOf_1 {h0 : Hp_} : Snd 73 107 h0 (miT TbM) RX12 cX12_acrossOf 2 (some .int) 1 (i_iload 2 1) := snd_iload_n rfl dX12_acrossOf_1
theorem sX12_acrossOf_2 {h0 : Hp_} : Snd 73 107 h0 (miT TbM) RX12 cX12_acrossOf 2 (some .int) 2 (i_const 4 (vI 11)) := snd_bipush (by decide) dX12_acrossOf_2
theorem sX12_acrossOf_4 {h0 : Hp_} : Snd 73 107 h0 (miT TbM) RX12 cX12_acrossOf 2 (some .int) 4 (i_isub 5) := snd_isub dX12_acrossOf_4
theorem sX12_acrossOf_5 {h0 : Hp_} : Snd 73 107 h0 (miT TbM) RX12 cX12_acrossOf 2 (some .int) 5 (i_cV1 20 11 8) := snd_cV1 (fun hK hd hC ho hs h6 h7 h8 kk => iv_X12_231 hK (mcM_20 hC) ho hs ⟨hd, by show _ ≤ 40 * (_ + 1); omega⟩ (Nat.le_refl _) h6 h7 h8 ⟨Nat.le_refl _, Nat.le_refl _⟩ dX12_acrossOf_5 kk)
theorem sX12_acrossOf_8 {h0 : Hp_} : Snd 73 107 h0 (miT TbM) RX12 cX12_acrossOf 2 (some .int) 8 (i_aload 9 0) := snd_aload_n rfl dX12_acrossOf_8
theorem sX12_acrossOf_9 {h0 : Hp_} : Snd 73 107 h0 (miT TbM) RX12 cX12_acrossOf 2 (some .int) 9 (i_iload 10 1) := snd_iload_n rfl dX12_acrossOf_9
theorem sX12_acrossOf_10 {h0 : Hp_} : Snd 73 107 h0 (miT TbM) RX12 cX12_acrossOf 2 (some .int) 10 (i_const 12 (vI 9)) := snd_bipush (by decide) dX12_acrossOf_10
theorem sX12_acrossOf_12 {h0 : Hp_} : Snd 73 107 h0 (miT TbM) RX12 cX12_acrossOf 2 (some .int) 12 (i_isub 13) := snd_isub dX12_acrossOf_12
theorem sX12_acrossOf_13 {h0 : Hp_} : Snd 73 107 h0 (miT TbM) RX12 cX12_acrossOf 2 (some .int) 13 (i_cV1 20 11 16) := snd_cV1 (fun hK hd hC ho hs h6 h7 h8 kk => iv_X12_231 hK (mcM_20 hC) ho hs ⟨hd, by show _ ≤ 40 * (_ + 1); omega⟩ (Nat.le_refl _) h6 h7 h8 ⟨Nat.le_refl _, Nat.le_refl _⟩ dX12_acrossOf_13 kk)
theorem sX12_acrossOf_16 {h0 : Hp_} : Snd 73 107 h0 (miT TbM) RX12 cX12_acrossOf 2 (some .int) 16 (i_iadd 17) := snd_iadd dX12_acrossOf_16
theorem sX12_acrossOf_17 {h0 : Hp_} : Snd 73 107 h0 (miT TbM) RX12 cX12_acrossOf 2 (some .int) 17 (i_aload 18 0) := snd_aload_n rfl dX12_acrossOf_17
theorem sX12_acrossOf_18 {h0 : Hp_} : Snd 73 107 h0 (miT TbM) RX12 cX12_acrossOf 2 (some .int) 18 (i_iload 19 1) := snd_iload_n rfl dX12_acrossOf_18
theorem sX12_acrossOf_19 {h0 : Hp_} : Snd 73 107 h0 (miT TbM) RX12 cX12_acrossOf 2 (some .int) 19 (i_const 21 (vI 9)) := snd_bipush (by decide) dX12_acrossOf_19
theorem sX12_acrossOf_21 {h0 : Hp_} : Snd 73 107 h0 (miT TbM) RX12 cX12_acrossOf 2 (some .int) 21 (i_iadd 22) := snd_iadd dX12_acrossOf_21
theorem sX12_acrossOf_22 {h0 : Hp_} : Snd 73 107 h0 (miT TbM) RX12 cX12_acrossOf 2 (some .int) 22 (i_cV1 20 11 25) := snd_cV1 (fun hK hd hC ho hs h6 h7 h8 kk => iv_X12_231 hK (mcM_20 hC) ho hs ⟨hd, by show _ ≤ 40 * (_ + 1); omega⟩ (Nat.le_refl _) h6 h7 h8 ⟨Nat.le_refl _, Nat.le_refl _⟩ dX12_acrossOf_22 kk)
theorem sX12_acrossOf_25 {h0 : Hp_} : Snd 73 107 h0 (miT TbM) RX12 cX12_acrossOf 2 (some .int) 25 (i_iadd 26) := snd_iadd dX12_acrossOf_25
theorem sX12_acrossOf_26 {h0 : Hp_} : Snd 73 107 h0 (miT TbM) RX12 cX12_acrossOf 2 (some .int) 26 (i_aload 27 0) := snd_aload_n rfl dX12_acrossOf_26
theorem sX12_acrossOf_27 {h0 : Hp_} : Snd 73 107 h0 (miT TbM) RX12 cX12_acrossOf 2 (some .int) 27 (i_iload 28 1) := snd_iload_n rfl dX12_acrossOf_27
theorem sX12_acrossOf_28 {h0 : Hp_} : Snd 73 107 h0 (miT TbM) RX12 cX12_acrossOf 2 (some .int) 28 (i_const 30 (vI 11)) := snd_bipush (by decide) dX12_acrossOf_28
theorem sX12_acrossOf_30 {h0 : Hp_} : Snd 73 107 h0 (miT TbM) RX12 cX12_acrossOf 2 (some .int) 30 (i_iadd 31) := snd_iadd dX12_acrossOf_30
theorem sX12_acrossOf_31 {h0 : Hp_} : Snd 73 107 h0 (miT TbM) RX12 cX12_acrossOf 2 (some .int) 31 (i_cV1 20 11 34) := snd_cV1 (fun hK hd hC ho hs h6 h7 h8 kk => iv_X12_231 hK (mcM_20 hC) ho hs ⟨hd, by show _ ≤ 40 * (_ + 1); omega⟩ (Nat.le_refl _) h6 h7 h8 ⟨Nat.le_refl _, Nat.le_refl _⟩ dX12_acrossOf_31 kk)
theorem sX12_acrossOf_34 {h0 : Hp_} : Snd 73 107 h0 (miT TbM) RX12 cX12_acrossOf 2 (some .int) 34 (i_iadd 35) := snd_iadd dX12_acrossOf_34
theorem sX12_acrossOf_35 {h0 : Hp_} : Snd 73 107 h0 (miT TbM) RX12 cX12_acrossOf 2 (some .int) 35 (i_iret) := snd_iret dX12_acrossOf_35
theorem kX12_acrossOf {h0 : Hp_} : raA (okI 73 107 h0 (miT TbM) (yX12_acrossOf, cX12_acrossOf, 2, (some .int))) tX12_acrossOf := (raA_br (raA_br (raA_br (raA_br (raA_leaf sX12_acrossOf_0) (raA_br (raA_leaf sX12_acrossOf_1) (raA_leaf sX12_acrossOf_2))) (raA_br (raA_leaf sX12_acrossOf_4) (raA_br (raA_leaf sX12_acrossOf_5) (raA_leaf sX12_acrossOf_8)))) (raA_br (raA_br (raA_leaf sX12_acrossOf_9) (raA_br (raA_leaf sX12_acrossOf_10) (raA_leaf sX12_acrossOf_12))) (raA_br (raA_leaf sX12_acrossOf_13) (raA_br (raA_leaf sX12_acrossOf_16) (raA_leaf sX12_acrossOf_17))))) (raA_br (raA_br (raA_br (raA_leaf sX12_acrossOf_18) (raA_br (raA_leaf sX12_acrossOf_19) (raA_leaf sX12_acrossOf_21))) (raA_br (raA_leaf sX12_acrossOf_22) (raA_br (raA_leaf sX12_acrossOf_25) (raA_leaf sX12_acrossOf_26)))) (raA_br (raA_br (raA_leaf sX12_acrossOf_27) (raA_br (raA_leaf sX12_acrossOf_28) (raA_leaf sX12_acrossOf_30))) (raA_br (raA_leaf sX12_acrossOf_31) (raA_br (raA_leaf sX12_acrossOf_34) (raA_leaf sX12_acrossOf_35))))))
theorem sX12_beBand_0 {h0 : Hp_} : Snd 73 107 h0 (miT TbM) RX12 cX12_beBand 6 none 0 (i_aload 1 0) := snd_aload_n rfl dX12_beBand_0
theorem sX12_beBand_1 {h0 : Hp_} : Snd 73 107 h0 (miT TbM) RX12 cX12_beBand 6 none 1 (i_getR 11 9 4) := snd_getR rfl (by decide) (by decide) (by decide) (fun hK ho hs hq kk => gf_X12_35 hK ho hs hq rfl dX12_beBand_1 kk)
theorem sX12_beBand_4 {h0 : Hp_} : Snd 73 107 h0 (miT TbM) RX12 cX12_beBand 6 none 4 (i_iload 5 1) := snd_iload_n rfl dX12_beBand_4
theorem sX12_beBand_5 {h0 : Hp_} : Snd 73 107 h0 (miT TbM) RX12 cX12_beBand 6 none 5 (i_iload 6 2) := snd_iload_n rfl dX12_beBand_5
theorem sX12_beBand_6 {h0 : Hp_} : Snd 73 107 h0 (miT TbM) RX12 cX12_beBand 6 none 6 (i_iast 73 107 7) := snd_iast dX12_beBand_6
theorem sX12_beBand_7 {h0 : Hp_} : Snd 73 107 h0 (miT TbM) RX12 cX12_beBand 6 none 7 (i_aload 8 0) := snd_aload_n rfl dX12_beBand_7
theorem sX12_beBand_8 {h0 : Hp_} : Snd 73 107 h0 (miT TbM) RX12 cX12_beBand 6 none 8 (i_getR 11 10 11) := snd_getR rfl (by decide) (by decide) (by decide) (fun hK ho hs hq kk => gf_X12_38 hK ho hs hq rfl dX12_beBand_8 kk)
theorem sX12_beBand_11 {h0 : Hp_} : Snd 73 107 h0 (miT TbM) RX12 cX12_beBand 6 none 11 (i_iload 12 1) := snd_iload_n rfl dX12_beBand_11
theorem sX12_beBand_12 {h0 : Hp_} : Snd 73 107 h0 (miT TbM) RX12 cX12_beBand 6 none 12 (i_iload 13 3) := snd_iload_n rfl dX12_beBand_12
theorem sX12_beBand_13 {h0 : Hp_} : Snd 73 107 h0 (miT TbM) RX12 cX12_beBand 6 none 13 (i_iast 73 107 14) := snd_iast dX12_beBand_13
theorem sX12_beBand_14 {h0 : Hp_} : Snd 73 107 h0 (miT TbM) RX12 cX12_beBand 6 none 14 (i_aload 15 0) := snd_aload_n rfl dX12_beBand_14
theorem sX12_beBand_15 {h0 : Hp_} : Snd 73 107 h0 (miT TbM) RX12 cX12_beBand 6 none 15 (i_getR 11 11 18) := snd_getR rfl (by decide) (by decide) (by decide) (fun hK ho hs hq kk => gf_X12_41 hK ho hs hq rfl dX12_beBand_15 kk)
theorem sX12_beBand_18 {h0 : Hp_} : Snd 73 107 h0 (miT TbM) RX12 cX12_beBand 6 none 18 (i_iload 19 1) := snd_iload_n rfl dX12_beBand_18
theorem sX12_beBand_19 {h0 : Hp_} : Snd 73 107 h0 (miT TbM) RX12 cX12_beBand 6 none 19 (i_iload 21 4) := snd_iload dX12_beBand_19
theorem sX12_beBand_21 {h0 : Hp_} : Snd 73 107 h0 (miT TbM) RX12 cX12_beBand 6 none 21 (i_iast 73 107 22) := snd_iast dX12_beBand_21
theorem sX12_beBand_22 {h0 : Hp_} : Snd 73 107 h0 (miT TbM) RX12 cX12_beBand 6 none 22 (i_aload 23 0) := snd_aload_n rfl dX12_beBand_22
theorem sX12_beBand_23 {h0 : Hp_} : Snd 73 107 h0 (miT TbM) RX12 cX12_beBand 6 none 23 (i_getR 11 12 26) := snd_getR rfl (by decide) (by decide) (by decide) (fun hK ho hs hq kk => gf_X12_44 hK ho hs hq rfl dX12_beBand_23 kk)
theorem sX12_beBand_26 {h0 : Hp_} : Snd 73 107 h0 (miT TbM) RX12 cX12_beBand 6 none 26 (i_iload 27 1) := snd_iload_n rfl dX12_beBand_26
theorem sX12_beBand_27 {h0 : Hp_} : Snd 73 107 h0 (miT TbM) RX12 cX12_beBand 6 none 27 (i_const 28 (vI 0)) := snd_iconst dX12_beBand_27
theorem sX12_beBand_28 {h0 : Hp_} : Snd 73 107 h0 (miT TbM) RX12 cX12_beBand 6 none 28 (i_iast 73 107 29) := snd_iast dX12_beBand_28
theorem sX12_beBand_29 {h0 : Hp_} : Snd 73 107 h0 (miT TbM) RX12 cX12_beBand 6 none 29 (i_aload 30 0) := snd_aload_n rfl dX12_beBand_29
theorem sX12_beBand_30 {h0 : Hp_} : Snd 73 107 h0 (miT TbM) RX12 cX12_beBand 6 none 30 (i_getR 11 15 33) := snd_getR rfl (by decide) (by decide) (by decide) (fun hK ho hs hq kk => gf_X12_54 hK ho hs hq rfl dX12_beBand_30 kk)
theorem sX12_beBand_33 {h0 : Hp_} : Snd 73 107 h0 (miT TbM) RX12 cX12_beBand 6 none 33 (i_iload 34 1) := snd_iload_n rfl dX12_beBand_33
theorem sX12_beBand_34 {h0 : Hp_} : Snd 73 107 h0 (miT TbM) RX12 cX12_beBand 6 none 34 (i_const 35 (vI 0)) := snd_iconst dX12_beBand_34
theorem sX12_beBand_35 {h0 : Hp_} : Snd 73 107 h0 (miT TbM) RX12 cX12_beBand 6 none 35 (i_iast 73 107 36) := snd_iast dX12_beBand_35
theorem sX12_beBand_36 {h0 : Hp_} : Snd 73 107 h0 (miT TbM) RX12 cX12_beBand 6 none 36 (i_aload 37 0) := snd_aload_n rfl dX12_beBand_36
theorem sX12_beBand_37 {h0 : Hp_} : Snd 73 107 h0 (miT TbM) RX12 cX12_beBand 6 none 37 (i_getR 11 16 40) := snd_getR rfl (by decide) (by decide) (by decide) (fun hK ho hs hq kk => gf_X12_57 hK ho hs hq rfl dX12_beBand_37 kk)
theorem sX12_beBand_40 {h0 : Hp_} : Snd 73 107 h0 (miT TbM) RX12 cX12_beBand 6 none 40 (i_iload 41 1) := snd_iload_n rfl dX12_beBand_40
theorem sX12_beBand_41 {h0 : Hp_} : Snd 73 107 h0 (miT TbM) RX12 cX12_beBand 6 none 41 (i_const 42 (vI 0)) := snd_iconst dX12_beBand_41
theorem sX12_beBand_42 {h0 : Hp_} : Snd 73 107 h0 (miT TbM) RX12 cX12_beBand 6 none 42 (i_iast 73 107 43) := snd_iast dX12_beBand_42
theorem sX12_beBand_43 {h0 : Hp_} : Snd 73 107 h0 (miT TbM) RX12 cX12_beBand 6 none 43 (i_aload 44 0) := snd_aload_n rfl dX12_beBand_43
theorem sX12_beBand_44 {h0 : Hp_} : Snd 73 107 h0 (miT TbM) RX12 cX12_beBand 6 none 44 (i_getR 11 17 47) := snd_getR rfl (by decide) (by decide) (by decide) (fun hK ho hs hq kk => gf_X12_60 hK ho hs hq rfl dX12_beBand_44 kk)
theorem sX12_beBand_47 {h0 : Hp_} : Snd 73 107 h0 (miT TbM) RX12 cX12_beBand 6 none 47 (i_iload 48 1) := snd_iload_n rfl dX12_beBand_47
theorem sX12_beBand_48 {h0 : Hp_} : Snd 73 107 h0 (miT TbM) RX12 cX12_beBand 6 none 48 (i_const 49 (vI 3)) := snd_iconst dX12_beBand_48
theorem sX12_beBand_49 {h0 : Hp_} : Snd 73 107 h0 (miT TbM) RX12 cX12_beBand 6 none 49 (i_iast 73 107 50) := snd_iast dX12_beBand_49
theorem sX12_beBand_50 {h0 : Hp_} : Snd 73 107 h0 (miT TbM) RX12 cX12_beBand 6 none 50 (i_const 52 (vI 64)) := snd_bipush (by decide) dX12_beBand_50
theorem sX12_beBand_52 {h0 : Hp_} : Snd 73 107 h0 (miT TbM) RX12 cX12_beBand 6 none 52 (i_iload 53 1) := snd_iload_n rfl dX12_beBand_52
theorem sX12_beBand_53 {h0 : Hp_} : Snd 73 107 h0 (miT TbM) RX12 cX12_beBand 6 none 53 (i_imul 54) := snd_imul dX12_beBand_53
theorem sX12_beBand_54 {h0 : Hp_} : Snd 73 107 h0 (miT TbM) RX12 cX12_beBand 6 none 54 (i_istore 56 5) := snd_istore (by decide) dX12_beBand_54
theorem sX12_beBand_56 {h0 : Hp_} : Snd 73 107 h0 (miT TbM) RX12 cX12_beBand 6 none 56 (i_iload 58 5) := snd_iload dX12_beBand_56
theorem sX12_beBand_58 {h0 : Hp_} : Snd 73 107 h0 (miT TbM) RX12 cX12_beBand 6 none 58 (i_const 60 (vI 64)) := snd_bipush (by decide) dX12_beBand_58
theorem sX12_beBand_60 {h0 : Hp_} : Snd 73 107 h0 (miT TbM) RX12 cX12_beBand 6 none 60 (i_iload 61 1) := snd_iload_n rfl dX12_beBand_60
theorem sX12_beBand_61 {h0 : Hp_} : Snd 73 107 h0 (miT TbM) RX12 cX12_beBand 6 none 61 (i_imul 62) := snd_imul dX12_beBand_61
theorem sX12_beBand_62 {h0 : Hp_} : Snd 73 107 h0 (miT TbM) RX12 cX12_beBand 6 none 62 (i_const 64 (vI 64)) := snd_bipush (by decide) dX12_beBand_62
theorem sX12_beBand_64 {h0 : Hp_} : Snd 73 107 h0 (miT TbM) RX12 cX12_beBand 6 none 64 (i_iadd 65) := snd_iadd dX12_beBand_64
theorem sX12_beBand_65 {h0 : Hp_} : Snd 73 107 h0 (miT TbM) RX12 cX12_beBand 6 none 65 (i_icmp_ge 68 90) := snd_icmp_ge dX12_beBand_65 rfl
theorem sX12_beBand_68 {h0 : Hp_} : Snd 73 107 h0 (miT TbM) RX12 cX12_beBand 6 none 68 (i_aload 69 0) := snd_aload_n rfl dX12_beBand_68
theorem sX12_beBand_69 {h0 : Hp_} : Snd 73 107 h0 (miT TbM) RX12 cX12_beBand 6 none 69 (i_getR 11 13 72) := snd_getR rfl (by decide) (by decide) (by decide) (fun hK ho hs hq kk => gf_X12_47 hK ho hs hq rfl dX12_beBand_69 kk)
theorem sX12_beBand_72 {h0 : Hp_} : Snd 73 107 h0 (miT TbM) RX12 cX12_beBand 6 none 72 (i_iload 74 5) := snd_iload dX12_beBand_72
theorem sX12_beBand_74 {h0 : Hp_} : Snd 73 107 h0 (miT TbM) RX12 cX12_beBand 6 none 74 (i_const 75 (vI 0)) := snd_iconst dX12_beBand_74
theorem sX12_beBand_75 {h0 : Hp_} : Snd 73 107 h0 (miT TbM) RX12 cX12_beBand 6 none 75 (i_iast 73 107 76) := snd_iast dX12_beBand_75
theorem sX12_beBand_76 {h0 : Hp_} : Snd 73 107 h0 (miT TbM) RX12 cX12_beBand 6 none 76 (i_aload 77 0) := snd_aload_n rfl dX12_beBand_76
theorem sX12_beBand_77 {h0 : Hp_} : Snd 73 107 h0 (miT TbM) RX12 cX12_beBand 6 none 77 (i_getR 11 14 80) := snd_getR rfl (by decide) (by decide) (by decide) (fun hK ho hs hq kk => gf_X12_50 hK ho hs hq rfl dX12_beBand_77 kk)
theorem sX12_beBand_80 {h0 : Hp_} : Snd 73 107 h0 (miT TbM) RX12 cX12_beBand 6 none 80 (i_iload 82 5) := snd_iload dX12_beBand_80
theorem sX12_beBand_82 {h0 : Hp_} : Snd 73 107 h0 (miT TbM) RX12 cX12_beBand 6 none 82 (i_const 83 (vI 0)) := snd_iconst dX12_beBand_82
theorem sX12_beBand_83 {h0 : Hp_} : Snd 73 107 h0 (miT TbM) RX12 cX12_beBand 6 none 83 (i_zast 73 107 84) := snd_zast dX12_beBand_83
theorem sX12_beBand_84 {h0 : Hp_} : Snd 73 107 h0 (miT TbM) RX12 cX12_beBand 6 none 84 (i_iinc 87 5 1) := snd_iinc (by decide) dX12_beBand_84
theorem sX12_beBand_87 {h0 : Hp_} : Snd 73 107 h0 (miT TbM) RX12 cX12_beBand 6 none 87 (i_goto 56) := snd_goto dX12_beBand_87 rfl
theorem sX12_beBand_90 {h0 : Hp_} : Snd 73 107 h0 (miT TbM) RX12 cX12_beBand 6 none 90 (i_vret) := snd_vret dX12_beBand_90
theorem kX12_beBand {h0 : Hp_} : raA (okI 73 107 h0 (miT TbM) (yX12_beBand, cX12_beBand, 6, none)) tX12_beBand := (raA_br (raA_br (raA_br (raA_br (raA_br (raA_leaf sX12_beBand_0) (raA_br (raA_leaf sX12_beBand_1) (raA_leaf sX12_beBand_4))) (raA_br (raA_br (raA_leaf sX12_beBand_5) (raA_leaf sX12_beBand_6)) (raA_br (raA_leaf sX12_beBand_7) (raA_leaf sX12_beBand_8)))) (raA_br (raA_br (raA_leaf sX12_beBand_11) (raA_br (raA_leaf sX12_beBand_12) (raA_leaf sX12_beBand_13))) (raA_br (raA_br (raA_leaf sX12_beBand_14) (raA_leaf sX12_beBand_15)) (raA_br (raA_leaf sX12_beBand_18) (raA_leaf sX12_beBand_19))))) (raA_br (raA_br (raA_br (raA_leaf sX12_beBand_21) (raA_br (raA_leaf sX12_beBand_22) (raA_leaf sX12_beBand_23))) (raA_br (raA_br (raA_leaf sX12_beBand_26) (raA_leaf sX12_beBand_27)) (raA_br (raA_leaf sX12_beBand_28) (raA_leaf sX12_beBand_29)))) (raA_br (raA_br (raA_br (raA_leaf sX12_beBand_30) (raA_leaf sX12_beBand_33)) (raA_br (raA_leaf sX12_beBand_34) (raA_leaf sX12_beBand_35))) (raA_br (raA_br (raA_leaf sX12_beBand_36) (raA_leaf sX12_beBand_37)) (raA_br (raA_leaf sX12_beBand_40) (raA_leaf sX12_beBand_41)))))) (raA_br (raA_br (raA_br (raA_br (raA_leaf sX12_beBand_42) (raA_br (raA_leaf sX12_beBand_43) (raA_leaf sX12_beBand_44))) (raA_br (raA_br (raA_leaf sX12_beBand_47) (raA_leaf sX12_beBand_48)) (raA_br (raA_leaf sX12_beBand_49) (raA_leaf sX12_beBand_50)))) (raA_br (raA_br (raA_br (raA_leaf sX12_beBand_52) (raA_leaf sX12_beBand_53)) (raA_br (raA_leaf sX12_beBand_54) (raA_leaf sX12_beBand_56))) (raA_br (raA_br (raA_leaf sX12_beBand_58) (raA_leaf sX12_beBand_60)) (raA_br (raA_leaf sX12_beBand_61) (raA_leaf sX12_beBand_62))))) (raA_br (raA_br (raA_br (raA_leaf sX12_beBand_64) (raA_br (raA_leaf sX12_beBand_65) (raA_leaf sX12_beBand_68))) (raA_br (raA_br (raA_leaf sX12_beBand_69) (raA_leaf sX12_beBand_72)) (raA_br (raA_leaf sX12_beBand_74) (raA_leaf sX12_beBand_75)))) (raA_br (raA_br (raA_br (raA_leaf sX12_beBand_76) (raA_leaf sX12_beBand_77)) (raA_br (raA_leaf sX12_beBand_80) (raA_leaf sX12_beBand_82))) (raA_br (raA_br (raA_leaf sX12_beBand_83) (raA_leaf sX12_beBand_84)) (raA_br (raA_leaf sX12_beBand_87) (raA_leaf sX12_beBand_90)))))))
theorem sX12_beBands_0 {h0 : Hp_} : Snd 73 107 h0 (miT TbM) RX12 cX12_beBands 11 none 0 (i_aload 1 0) := snd_aload_n rfl dX12_beBands_0
theorem sX12_beBands_1 {h0 : Hp_} : Snd 73 107 h0 (miT TbM) RX12 cX12_beBands 11 none 1 (i_iload 2 1) := snd_iload_n rfl dX12_beBands_1
theorem sX12_beBands_2 {h0 : Hp_} : Snd 73 107 h0 (miT TbM) RX12 cX12_beBands 11 none 2 (i_iload 3 2) := snd_iload_n rfl dX12_beBands_2
theorem sX12_beBands_3 {h0 : Hp_} : Snd 73 107 h0 (miT TbM) RX12 cX12_beBands 11 none 3 (i_iload 5 4) := snd_iload dX12_beBands_3
theorem sX12_beBands_5 {h0 : Hp_} : Snd 73 107 h0 (miT TbM) RX12 cX12_beBands 11 none 5 (i_cS2 26 8) := snd_cS2 (fun hK hd hC h6 h7 h8 kk => iv_X12_153 hK (mcM_26 hC) ⟨hd, by show _ ≤ 40 * (_ + 1); omega⟩ (Nat.le_refl _) h6 h7 h8 ⟨Nat.le_refl _, Nat.le_refl _⟩ dX12_beBands_5 kk)
theorem sX12_beBands_8 {h0 : Hp_} : Snd 73 107 h0 (miT TbM) RX12 cX12_beBands 11 none 8 (i_iload 9 3) := snd_iload_n rfl dX12_beBands_8
theorem sX12_beBands_9 {h0 : Hp_} : Snd 73 107 h0 (miT TbM) RX12 cX12_beBands 11 none 9 (i_iload 11 4) := snd_iload dX12_beBands_9
theorem sX12_beBands_11 {h0 : Hp_} : Snd 73 107 h0 (miT TbM) RX12 cX12_beBands 11 none 11 (i_cS2 26 14) := snd_cS2 (fun hK hd hC h6 h7 h8 kk => iv_X12_153 hK (mcM_26 hC) ⟨hd, by show _ ≤ 40 * (_ + 1); omega⟩ (Nat.le_refl _) h6 h7 h8 ⟨Nat.le_refl _, Nat.le_refl _⟩ dX12_beBands_11 kk)
theorem sX12_beBands_14 {h0 : Hp_} : Snd 73 107 h0 (miT TbM) RX12 cX12_beBands 11 none 14 (i_const 15 (vI 0)) := snd_iconst dX12_beBands_14
theorem sX12_beBands_15 {h0 : Hp_} : Snd 73 107 h0 (miT TbM) RX12 cX12_beBands 11 none 15 (i_cV4 1 11 18) := snd_cV4 (fun hK hd hC ho hs h6 h7 h8 kk => iv_X12_156 hK (mcM_1 hC) ho hs ⟨hd, by show _ ≤ 40 * (_ + 1); omega⟩ (Nat.le_refl _) h6 h7 h8 ⟨Nat.le_refl _, Nat.le_refl _⟩ dX12_beBands_15 kk)
theorem sX12_beBands_18 {h0 : Hp_} : Snd 73 107 h0 (miT TbM) RX12 cX12_beBands 11 none 18 (i_const 19 (vI 1)) := snd_iconst dX12_beBands_18
theorem sX12_beBands_19 {h0 : Hp_} : Snd 73 107 h0 (miT TbM) RX12 cX12_beBands 11 none 19 (i_istore 21 5) := snd_istore (by decide) dX12_beBands_19
theorem sX12_beBands_21 {h0 : Hp_} : Snd 73 107 h0 (miT TbM) RX12 cX12_beBands 11 none 21 (i_iload 23 5) := snd_iload dX12_beBands_21
theorem sX12_beBands_23 {h0 : Hp_} : Snd 73 107 h0 (miT TbM) RX12 cX12_beBands 11 none 23 (i_iload 25 4) := snd_iload dX12_beBands_23
theorem sX12_beBands_25 {h0 : Hp_} : Snd 73 107 h0 (miT TbM) RX12 cX12_beBands 11 none 25 (i_icmp_gt 28 132) := snd_icmp_gt dX12_beBands_25 rfl
theorem sX12_beBands_28 {h0 : Hp_} : Snd 73 107 h0 (miT TbM) RX12 cX12_beBands 11 none 28 (i_iload 30 4) := snd_iload dX12_beBands_28
theorem sX12_beBands_30 {h0 : Hp_} : Snd 73 107 h0 (miT TbM) RX12 cX12_beBands 11 none 30 (i_iload 32 5) := snd_iload dX12_beBands_30
theorem sX12_beBands_32 {h0 : Hp_} : Snd 73 107 h0 (miT TbM) RX12 cX12_beBands 11 none 32 (i_isub 33) := snd_isub dX12_beBands_32
theorem sX12_beBands_33 {h0 : Hp_} : Snd 73 107 h0 (miT TbM) RX12 cX12_beBands 11 none 33 (i_istore 35 6) := snd_istore (by decide) dX12_beBands_33
theorem sX12_beBands_35 {h0 : Hp_} : Snd 73 107 h0 (miT TbM) RX12 cX12_beBands 11 none 35 (i_iload 36 2) := snd_iload_n rfl dX12_beBands_35
theorem sX12_beBands_36 {h0 : Hp_} : Snd 73 107 h0 (miT TbM) RX12 cX12_beBands 11 none 36 (i_iload 38 6) := snd_iload dX12_beBands_36
theorem sX12_beBands_38 {h0 : Hp_} : Snd 73 107 h0 (miT TbM) RX12 cX12_beBands 11 none 38 (i_const 39 (vI 1)) := snd_iconst dX12_beBands_38
theorem sX12_beBands_39 {h0 : Hp_} : Snd 73 107 h0 (miT TbM) RX12 cX12_beBands 11 none 39 (i_iadd 40) := snd_iadd dX12_beBands_39
theorem sX12_beBands_40 {h0 : Hp_} : Snd 73 107 h0 (miT TbM) RX12 cX12_beBands 11 none 40 (i_cS2 26 43) := snd_cS2 (fun hK hd hC h6 h7 h8 kk => iv_X12_153 hK (mcM_26 hC) ⟨hd, by show _ ≤ 40 * (_ + 1); omega⟩ (Nat.le_refl _) h6 h7 h8 ⟨Nat.le_refl _, Nat.le_refl _⟩ dX12_beBands_40 kk)
theorem sX12_beBands_43 {h0 : Hp_} : Snd 73 107 h0 (miT TbM) RX12 cX12_beBands 11 none 43 (i_istore 45 7) := snd_istore (by decide) dX12_beBands_43
theorem sX12_beBands_45 {h0 : Hp_} : Snd 73 107 h0 (miT TbM) RX12 cX12_beBands 11 none 45 (i_iload 46 3) := snd_iload_n rfl dX12_beBands_45
theorem sX12_beBands_46 {h0 : Hp_} : Snd 73 107 h0 (miT TbM) RX12 cX12_beBands 11 none 46 (i_iload 48 6) := snd_iload dX12_beBands_46
theorem sX12_beBands_48 {h0 : Hp_} : Snd 73 107 h0 (miT TbM) RX12 cX12_beBands 11 none 48 (i_const 49 (vI 1)) := snd_iconst dX12_beBands_48
theorem sX12_beBands_49 {h0 : Hp_} : Snd 73 107 h0 (miT TbM) RX12 cX12_beBands 11 none 49 (i_iadd 50) := snd_iadd dX12_beBands_49
theorem sX12_beBands_50 {h0 : Hp_} : Snd 73 107 h0 (miT TbM) RX12 cX12_beBands 11 none 50 (i_cS2 26 53) := snd_cS2 (fun hK hd hC h6 h7 h8 kk => iv_X12_153 hK (mcM_26 hC) ⟨hd, by show _ ≤ 40 * (_ + 1); omega⟩ (Nat.le_refl _) h6 h7 h8 ⟨Nat.le_refl _, Nat.le_refl _⟩ dX12_beBands_50 kk)
theorem sX12_beBands_53 {h0 : Hp_} : Snd 73 107 h0 (miT TbM) RX12 cX12_beBands 11 none 53 (i_istore 55 8) := snd_istore (by decide) dX12_beBands_53
theorem sX12_beBands_55 {h0 : Hp_} : Snd 73 107 h0 (miT TbM) RX12 cX12_beBands 11 none 55 (i_iload 56 2) := snd_iload_n rfl dX12_beBands_55
theorem sX12_beBands_56 {h0 : Hp_} : Snd 73 107 h0 (miT TbM) RX12 cX12_beBands 11 none 56 (i_iload 58 6) := snd_iload dX12_beBands_56
theorem sX12_beBands_58 {h0 : Hp_} : Snd 73 107 h0 (miT TbM) RX12 cX12_beBands 11 none 58 (i_cS2 26 61) := snd_cS2 (fun hK hd hC h6 h7 h8 kk => iv_X12_153 hK (mcM_26 hC) ⟨hd, by show _ ≤ 40 * (_ + 1); omega⟩ (Nat.le_refl _) h6 h7 h8 ⟨Nat.le_refl _, Nat.le_refl _⟩ dX12_beBands_58 kk)
theorem sX12_beBands_61 {h0 : Hp_} : Snd 73 107 h0 (miT TbM) RX12 cX12_beBands 11 none 61 (i_iload 63 7) := snd_iload dX12_beBands_61
theorem sX12_beBands_63 {h0 : Hp_} : Snd 73 107 h0 (miT TbM) RX12 cX12_beBands 11 none 63 (i_isub 64) := snd_isub dX12_beBands_63
theorem sX12_beBands_64 {h0 : Hp_} : Snd 73 107 h0 (miT TbM) RX12 cX12_beBands 11 none 64 (i_istore 66 9) := snd_istore (by decide) dX12_beBands_64
theorem sX12_beBands_66 {h0 : Hp_} : Snd 73 107 h0 (miT TbM) RX12 cX12_beBands 11 none 66 (i_iload 67 3) := snd_iload_n rfl dX12_beBands_66
theorem sX12_beBands_67 {h0 : Hp_} : Snd 73 107 h0 (miT TbM) RX12 cX12_beBands 11 none 67 (i_iload 69 6) := snd_iload dX12_beBands_67
theorem sX12_beBands_69 {h0 : Hp_} : Snd 73 107 h0 (miT TbM) RX12 cX12_beBands 11 none 69 (i_cS2 26 72) := snd_cS2 (fun hK hd hC h6 h7 h8 kk => iv_X12_153 hK (mcM_26 hC) ⟨hd, by show _ ≤ 40 * (_ + 1); omega⟩ (Nat.le_refl _) h6 h7 h8 ⟨Nat.le_refl _, Nat.le_refl _⟩ dX12_beBands_69 kk)
theorem sX12_beBands_72 {h0 : Hp_} : Snd 73 107 h0 (miT TbM) RX12 cX12_beBands 11 none 72 (i_iload 74 8) := snd_iload dX12_beBands_72
theorem sX12_beBands_74 {h0 : Hp_} : Snd 73 107 h0 (miT TbM) RX12 cX12_beBands 11 none 74 (i_isub 75) := snd_isub dX12_beBands_74
theorem sX12_beBands_75 {h0 : Hp_} : Snd 73 107 h0 (miT TbM) RX12 cX12_beBands 11 none 75 (i_istore 77 10) := snd_istore (by decide) dX12_beBands_75
theorem sX12_beBands_77 {h0 : Hp_} : Snd 73 107 h0 (miT TbM) RX12 cX12_beBands 11 none 77 (i_aload 78 0) := snd_aload_n rfl dX12_beBands_77
theorem sX12_beBands_78 {h0 : Hp_} : Snd 73 107 h0 (miT TbM) RX12 cX12_beBands 11 none 78 (i_iload 79 1) := snd_iload_n rfl dX12_beBands_78
theorem sX12_beBands_79 {h0 : Hp_} : Snd 73 107 h0 (miT TbM) RX12 cX12_beBands 11 none 79 (i_const 80 (vI 3)) := snd_iconst dX12_beBands_79
theorem sX12_beBands_80 {h0 : Hp_} : Snd 73 107 h0 (miT TbM) RX12 cX12_beBands 11 none 80 (i_iload 82 5) := snd_iload dX12_beBands_80
theorem sX12_beBands_82 {h0 : Hp_} : Snd 73 107 h0 (miT TbM) RX12 cX12_beBands 11 none 82 (i_imul 83) := snd_imul dX12_beBands_82
theorem sX12_beBands_83 {h0 : Hp_} : Snd 73 107 h0 (miT TbM) RX12 cX12_beBands 11 none 83 (i_iadd 84) := snd_iadd dX12_beBands_83
theorem sX12_beBands_84 {h0 : Hp_} : Snd 73 107 h0 (miT TbM) RX12 cX12_beBands 11 none 84 (i_const 85 (vI 2)) := snd_iconst dX12_beBands_84
theorem sX12_beBands_85 {h0 : Hp_} : Snd 73 107 h0 (miT TbM) RX12 cX12_beBands 11 none 85 (i_isub 86) := snd_isub dX12_beBands_85
theorem sX12_beBands_86 {h0 : Hp_} : Snd 73 107 h0 (miT TbM) RX12 cX12_beBands 11 none 86 (i_iload 88 9) := snd_iload dX12_beBands_86
theorem sX12_beBands_88 {h0 : Hp_} : Snd 73 107 h0 (miT TbM) RX12 cX12_beBands 11 none 88 (i_iload 90 8) := snd_iload dX12_beBands_88
theorem sX12_beBands_90 {h0 : Hp_} : Snd 73 107 h0 (miT TbM) RX12 cX12_beBands 11 none 90 (i_const 91 (vI 1)) := snd_iconst dX12_beBands_90
theorem sX12_beBands_91 {h0 : Hp_} : Snd 73 107 h0 (miT TbM) RX12 cX12_beBands 11 none 91 (i_cV4 1 11 94) := snd_cV4 (fun hK hd hC ho hs h6 h7 h8 kk => iv_X12_156 hK (mcM_1 hC) ho hs ⟨hd, by show _ ≤ 40 * (_ + 1); omega⟩ (Nat.le_refl _) h6 h7 h8 ⟨Nat.le_refl _, Nat.le_refl _⟩ dX12_beBands_91 kk)
theorem sX12_beBands_94 {h0 : Hp_} : Snd 73 107 h0 (miT TbM) RX12 cX12_beBands 11 none 94 (i_aload 95 0) := snd_aload_n rfl dX12_beBands_94
theorem sX12_beBands_95 {h0 : Hp_} : Snd 73 107 h0 (miT TbM) RX12 cX12_beBands 11 none 95 (i_iload 96 1) := snd_iload_n rfl dX12_beBands_95
theorem sX12_beBands_96 {h0 : Hp_} : Snd 73 107 h0 (miT TbM) RX12 cX12_beBands 11 none 96 (i_const 97 (vI 3)) := snd_iconst dX12_beBands_96
theorem sX12_beBands_97 {h0 : Hp_} : Snd 73 107 h0 (miT TbM) RX12 cX12_beBands 11 none 97 (i_iload 99 5) := snd_iload dX12_beBands_97
theorem sX12_beBands_99 {h0 : Hp_} : Snd 73 107 h0 (miT TbM) RX12 cX12_beBands 11 none 99 (i_imul 100) := snd_imul dX12_beBands_99
theorem sX12_beBands_100 {h0 : Hp_} : Snd 73 107 h0 (miT TbM) RX12 cX12_beBands 11 none 100 (i_iadd 101) := snd_iadd dX12_beBands_100
theorem sX12_beBands_101 {h0 : Hp_} : Snd 73 107 h0 (miT TbM) RX12 cX12_beBands 11 none 101 (i_const 102 (vI 1)) := snd_iconst dX12_beBands_101
theorem sX12_beBands_102 {h0 : Hp_} : Snd 73 107 h0 (miT TbM) RX12 cX12_beBands 11 none 102 (i_isub 103) := snd_isub dX12_beBands_102
theorem sX12_beBands_103 {h0 : Hp_} : Snd 73 107 h0 (miT TbM) RX12 cX12_beBands 11 none 103 (i_iload 105 7) := snd_iload dX12_beBands_103
theorem sX12_beBands_105 {h0 : Hp_} : Snd 73 107 h0 (miT TbM) RX12 cX12_beBands 11 none 105 (i_iload 107 10) := snd_iload dX12_beBands_105
theorem sX12_beBands_107 {h0 : Hp_} : Snd 73 107 h0 (miT TbM) RX12 cX12_beBands 11 none 107 (i_const 108 (vI 0)) := snd_iconst dX12_beBands_107
theorem sX12_beBands_108 {h0 : Hp_} : Snd 73 107 h0 (miT TbM) RX12 cX12_beBands 11 none 108 (i_cV4 1 11 111) := snd_cV4 (fun hK hd hC ho hs h6 h7 h8 kk => iv_X12_156 hK (mcM_1 hC) ho hs ⟨hd, by show _ ≤ 40 * (_ + 1); omega⟩ (Nat.le_refl _) h6 h7 h8 ⟨Nat.le_refl _, Nat.le_refl _⟩ dX12_beBands_108 kk)
theorem sX12_beBands_111 {h0 : Hp_} : Snd 73 107 h0 (miT TbM) RX12 cX12_beBands 11 none 111 (i_aload 112 0) := snd_aload_n rfl dX12_beBands_111
theorem sX12_beBands_112 {h0 : Hp_} : Snd 73 107 h0 (miT TbM) RX12 cX12_beBands 11 none 112 (i_iload 113 1) := snd_iload_n rfl dX12_beBands_112
theorem sX12_beBands_113 {h0 : Hp_} : Snd 73 107 h0 (miT TbM) RX12 cX12_beBands 11 none 113 (i_const 114 (vI 3)) := snd_iconst dX12_beBands_113
theorem sX12_beBands_114 {h0 : Hp_} : Snd 73 107 h0 (miT TbM) RX12 cX12_beBands 11 none 114 (i_iload 116 5) := snd_iload dX12_beBands_114
theorem sX12_beBands_116 {h0 : Hp_} : Snd 73 107 h0 (miT TbM) RX12 cX12_beBands 11 none 116 (i_imul 117) := snd_imul dX12_beBands_116
theorem sX12_beBands_117 {h0 : Hp_} : Snd 73 107 h0 (miT TbM) RX12 cX12_beBands 11 none 117 (i_iadd 118) := snd_iadd dX12_beBands_117
theorem sX12_beBands_118 {h0 : Hp_} : Snd 73 107 h0 (miT TbM) RX12 cX12_beBands 11 none 118 (i_iload 120 9) := snd_iload dX12_beBands_118
theorem sX12_beBands_120 {h0 : Hp_} : Snd 73 107 h0 (miT TbM) RX12 cX12_beBands 11 none 120 (i_iload 122 10) := snd_iload dX12_beBands_120
theorem sX12_beBands_122 {h0 : Hp_} : Snd 73 107 h0 (miT TbM) RX12 cX12_beBands 11 none 122 (i_const 123 (vI 2)) := snd_iconst dX12_beBands_122
theorem sX12_beBands_123 {h0 : Hp_} : Snd 73 107 h0 (miT TbM) RX12 cX12_beBands 11 none 123 (i_cV4 1 11 126) := snd_cV4 (fun hK hd hC ho hs h6 h7 h8 kk => iv_X12_156 hK (mcM_1 hC) ho hs ⟨hd, by show _ ≤ 40 * (_ + 1); omega⟩ (Nat.le_refl _) h6 h7 h8 ⟨Nat.le_refl _, Nat.le_refl _⟩ dX12_beBands_123 kk)
theorem sX12_beBands_126 {h0 : Hp_} : Snd 73 107 h0 (miT TbM) RX12 cX12_beBands 11 none 126 (i_iinc 129 5 1) := snd_iinc (by decide) dX12_beBands_126
theorem sX12_beBands_129 {h0 : Hp_} : Snd 73 107 h0 (miT TbM) RX12 cX12_beBands 11 none 129 (i_goto 21) := snd_goto dX12_beBands_129 rfl
theorem sX12_beBands_132 {h0 : Hp_} : Snd 73 107 h0 (miT TbM) RX12 cX12_beBands 11 none 132 (i_vret) := snd_vret dX12_beBands_132
theorem kX12_beBands {h0 : Hp_} : raA (okI 73 107 h0 (miT TbM) (yX12_beBands, cX12_beBands, 11, none)) tX12_beBands := (raA_br (raA_br (raA_br (raA_br (raA_br (raA_br (raA_leaf sX12_beBands_0) (raA_leaf sX12_beBands_1)) (raA_br (raA_leaf sX12_beBands_2) (raA_br (raA_leaf sX12_beBands_3) (raA_leaf sX12_beBands_5)))) (raA_br (raA_br (raA_leaf sX12_beBands_8) (raA_leaf sX12_beBands_9)) (raA_br (raA_leaf sX12_beBands_11) (raA_br (raA_leaf sX12_beBands_14) (raA_leaf sX12_beBands_15))))) (raA_br (raA_br (raA_br (raA_leaf sX12_beBands_18) (raA_leaf sX12_beBands_19)) (raA_br (raA_leaf sX12_beBands_21) (raA_br (raA_leaf sX12_beBands_23) (raA_leaf sX12_beBands_25)))) (raA_br (raA_br (raA_leaf sX12_beBands_28) (raA_leaf sX12_beBands_30)) (raA_br (raA_leaf sX12_beBands_32) (raA_br (raA_leaf sX12_beBands_33) (raA_leaf sX12_beBands_35)))))) (raA_br (raA_br (raA_br (raA_br (raA_leaf sX12_beBands_36) (raA_leaf sX12_beBands_38)) (raA_br (raA_leaf sX12_beBands_39) (raA_br (raA_leaf sX12_beBands_40) (raA_leaf sX12_beBands_43)))) (raA_br (raA_br (raA_leaf sX12_beBands_45) (raA_leaf sX12_beBands_46)) (raA_br (raA_leaf sX12_beBands_48) (raA_br (raA_leaf sX12_beBands_49) (raA_leaf sX12_beBands_50))))) (raA_br (raA_br (raA_br (raA_leaf sX12_beBands_53) (raA_leaf sX12_beBands_55)) (raA_br (raA_leaf sX12_beBands_56) (raA_br (raA_leaf sX12_beBands_58) (raA_leaf sX12_beBands_61)))) (raA_br (raA_br (raA_leaf sX12_beBands_63) (raA_leaf sX12_beBands_64)) (raA_br (raA_leaf sX12_beBands_66) (raA_br (raA_leaf sX12_beBands_67) (raA_leaf sX12_beBands_69))))))) (raA_br (raA_br (raA_br (raA_br (raA_br (raA_leaf sX12_beBands_72) (raA_leaf sX12_beBands_74)) (raA_br (raA_leaf sX12_beBands_75) (raA_br (raA_leaf sX12_beBands_77) (raA_leaf sX12_beBands_78)))) (raA_br (raA_br (raA_leaf sX12_beBands_79) (raA_leaf sX12_beBands_80)) (raA_br (raA_leaf sX12_beBands_82) (raA_br (raA_leaf sX12_beBands_83) (raA_leaf sX12_beBands_84))))) (raA_br (raA_br (raA_br (raA_leaf sX12_beBands_85) (raA_leaf sX12_beBands_86)) (raA_br (raA_leaf sX12_beBands_88) (raA_br (raA_leaf sX12_beBands_90) (raA_leaf sX12_beBands_91)))) (raA_br (raA_br (raA_leaf sX12_beBands_94) (raA_leaf sX12_beBands_95)) (raA_br (raA_leaf sX12_beBands_96) (raA_br (raA_leaf sX12_beBands_97) (raA_leaf sX12_beBands_99)))))) (raA_br (raA_br (raA_br (raA_br (raA_leaf sX12_beBands_100) (raA_leaf sX12_beBands_101)) (raA_br (raA_leaf sX12_beBands_102) (raA_br (raA_leaf sX12_beBands_103) (raA_leaf sX12_beBands_105)))) (raA_br (raA_br (raA_leaf sX12_beBands_107) (raA_leaf sX12_beBands_108)) (raA_br (raA_leaf sX12_beBands_111) (raA_br (raA_leaf sX12_beBands_112) (raA_leaf sX12_beBands_113))))) (raA_br (raA_br (raA_br (raA_leaf sX12_beBands_114) (raA_leaf sX12_beBands_116)) (raA_br (raA_leaf sX12_beBands_117) (raA_br (raA_leaf sX12_beBands_118) (raA_leaf sX12_beBands_120)))) (raA_br (raA_br (raA_leaf sX12_beBands_122) (raA_leaf sX12_beBands_123)) (raA_br (raA_leaf sX12_beBands_126) (raA_br (raA_leaf sX12_beBands_129) (raA_leaf sX12_beBands_132))))))))
theorem sX12_beginReading_0 {h0 : Hp_} : Snd 73 107 h0 (miT TbM) RX12 cX12_beginReading 3 none 0 (i_aload 1 0) := snd_aload_n rfl dX12_beginReading_0
theorem sX12_beginReading_1 {h0 : Hp_} : Snd 73 107 h0 (miT TbM) RX12 cX12_beginReading 3 none 1 (i_cV0 18 11 4) := snd_cV0 (fun hK hd hC ho hs h6 h7 h8 kk => iv_X12_160 hK (mcM_18 hC) ho hs ⟨hd, by show _ ≤ 40 * (_ + 1); omega⟩ (Nat.le_refl _) h6 h7 h8 ⟨Nat.le_refl _, Nat.le_refl _⟩ dX12_beginReading_1 kk)
theorem sX12_beginReading_4 {h0 : Hp_} : Snd 73 107 h0 (miT TbM) RX12 cX12_beginReading 3 none 4 (i_aload 5 0) := snd_aload_n rfl dX12_beginReading_4
theorem sX12_beginReading_5 {h0 : Hp_} : Snd 73 107 h0 (miT TbM) RX12 cX12_beginReading 3 none 5 (i_iload 6 2) := snd_iload_n rfl dX12_beginReading_5
theorem sX12_beginReading_6 {h0 : Hp_} : Snd 73 107 h0 (miT TbM) RX12 cX12_beginReading 3 none 6 (i_putI 11 29 9) := snd_putI hl73 (fun hK ho hs kk => pf_X12_163 hK ho hs dX12_beginReading_6 kk)
theorem sX12_beginReading_9 {h0 : Hp_} : Snd 73 107 h0 (miT TbM) RX12 cX12_beginReading 3 none 9 (i_aload 10 0) := snd_aload_n rfl dX12_beginReading_9
theorem sX12_beginReading_10 {h0 : Hp_} : Snd 73 107 h0 (miT TbM) RX12 cX12_beginReading 3 none 10 (i_iload 11 1) := snd_iload_n rfl dX12_beginReading_10
theorem sX12_beginReading_11 {h0 : Hp_} : Snd 73 107 h0 (miT TbM) RX12 cX12_beginReading 3 none 11 (i_putI 11 38 14) := snd_putI hl73 (fun hK ho hs kk => pf_X12_202 hK ho hs dX12_beginReading_11 kk)
theorem sX12_beginReading_14 {h0 : Hp_} : Snd 73 107 h0 (miT TbM) RX12 cX12_beginReading 3 none 14 (i_aload 15 0) := snd_aload_n rfl dX12_beginReading_14
theorem sX12_beginReading_15 {h0 : Hp_} : Snd 73 107 h0 (miT TbM) RX12 cX12_beginReading 3 none 15 (i_const 16 (vI 0)) := snd_iconst dX12_beginReading_15
theorem sX12_beginReading_16 {h0 : Hp_} : Snd 73 107 h0 (miT TbM) RX12 cX12_beginReading 3 none 16 (i_putI 11 39 19) := snd_putI hl73 (fun hK ho hs kk => pf_X12_205 hK ho hs dX12_beginReading_16 kk)
theorem sX12_beginReading_19 {h0 : Hp_} : Snd 73 107 h0 (miT TbM) RX12 cX12_beginReading 3 none 19 (i_aload 20 0) := snd_aload_n rfl dX12_beginReading_19
theorem sX12_beginReading_20 {h0 : Hp_} : Snd 73 107 h0 (miT TbM) RX12 cX12_beginReading 3 none 20 (i_const 23 (vJ 65536)) := snd_ldc2 lc_X12_198 dX12_beginReading_20
theorem sX12_beginReading_23 {h0 : Hp_} : Snd 73 107 h0 (miT TbM) RX12 cX12_beginReading 3 none 23 (i_aload 24 0) := snd_aload_n rfl dX12_beginReading_23
theorem sX12_beginReading_24 {h0 : Hp_} : Snd 73 107 h0 (miT TbM) RX12 cX12_beginReading 3 none 24 (i_const 25 (vI 0)) := snd_iconst dX12_beginReading_24
theorem sX12_beginReading_25 {h0 : Hp_} : Snd 73 107 h0 (miT TbM) RX12 cX12_beginReading 3 none 25 (i_cV1 6 11 28) := snd_cV1 (fun hK hd hC ho hs h6 h7 h8 kk => iv_X12_208 hK (mcM_6 hC) ho hs ⟨hd, by show _ ≤ 40 * (_ + 1); omega⟩ (Nat.le_refl _) h6 h7 h8 ⟨Nat.le_refl _, Nat.le_refl _⟩ dX12_beginReading_25 kk)
theorem sX12_beginReading_28 {h0 : Hp_} : Snd 73 107 h0 (miT TbM) RX12 cX12_beginReading 3 none 28 (i_i2l 29) := snd_i2l dX12_beginReading_28
theorem sX12_beginReading_29 {h0 : Hp_} : Snd 73 107 h0 (miT TbM) RX12 cX12_beginReading 3 none 29 (i_lmul 30) := snd_lmul dX12_beginReading_29
theorem sX12_beginReading_30 {h0 : Hp_} : Snd 73 107 h0 (miT TbM) RX12 cX12_beginReading 3 none 30 (i_putJ 11 33 33) := snd_putJ hl73 (fun hK ho hs kk => pf_X12_175 hK ho hs dX12_beginReading_30 kk)
theorem sX12_beginReading_33 {h0 : Hp_} : Snd 73 107 h0 (miT TbM) RX12 cX12_beginReading 3 none 33 (i_aload 34 0) := snd_aload_n rfl dX12_beginReading_33
theorem sX12_beginReading_34 {h0 : Hp_} : Snd 73 107 h0 (miT TbM) RX12 cX12_beginReading 3 none 34 (i_cV0 40 11 37) := snd_cV0 (fun hK hd hC ho hs h6 h7 h8 kk => iv_X12_216 hK (mcM_40 hC) ho hs ⟨hd, by show _ ≤ 40 * (_ + 1); omega⟩ (Nat.le_refl _) h6 h7 h8 ⟨Nat.le_refl _, Nat.le_refl _⟩ dX12_beginReading_34 kk)
theorem sX12_beginReading_37 {h0 : Hp_} : Snd 73 107 h0 (miT TbM) RX12 cX12_beginReading 3 none 37 (i_aload 38 0) := snd_aload_n rfl dX12_beginReading_37
theorem sX12_beginReading_38 {h0 : Hp_} : Snd 73 107 h0 (miT TbM) RX12 cX12_beginReading 3 none 38 (i_const 41 (vJ 128)) := snd_ldc2 lc_X12_219 dX12_beginReading_38
theorem sX12_beginReading_41 {h0 : Hp_} : Snd 73 107 h0 (miT TbM) RX12 cX12_beginReading 3 none 41 (i_aload 42 0) := snd_aload_n rfl dX12_beginReading_41
theorem sX12_beginReading_42 {h0 : Hp_} : Snd 73 107 h0 (miT TbM) RX12 cX12_beginReading 3 none 42 (i_getJ 11 33 45) := snd_getJ hl73 (fun hK ho hs hv kk => gf_X12_175 hK ho hs hv dX12_beginReading_42 kk)
theorem sX12_beginReading_45 {h0 : Hp_} : Snd 73 107 h0 (miT TbM) RX12 cX12_beginReading 3 none 45 (i_lmul 46) := snd_lmul dX12_beginReading_45
theorem sX12_beginReading_46 {h0 : Hp_} : Snd 73 107 h0 (miT TbM) RX12 cX12_beginReading 3 none 46 (i_putJ 11 33 49) := snd_putJ hl73 (fun hK ho hs kk => pf_X12_175 hK ho hs dX12_beginReading_46 kk)
theorem sX12_beginReading_49 {h0 : Hp_} : Snd 73 107 h0 (miT TbM) RX12 cX12_beginReading 3 none 49 (i_aload 50 0) := snd_aload_n rfl dX12_beginReading_49
theorem sX12_beginReading_50 {h0 : Hp_} : Snd 73 107 h0 (miT TbM) RX12 cX12_beginReading 3 none 50 (i_aload 51 0) := snd_aload_n rfl dX12_beginReading_50
theorem sX12_beginReading_51 {h0 : Hp_} : Snd 73 107 h0 (miT TbM) RX12 cX12_beginReading 3 none 51 (i_getI 11 34 54) := snd_getI hl73 (fun hK ho hs hv kk => gf_X12_178 hK ho hs hv dX12_beginReading_51 kk)
theorem sX12_beginReading_54 {h0 : Hp_} : Snd 73 107 h0 (miT TbM) RX12 cX12_beginReading 3 none 54 (i_const 56 (vI 7)) := snd_bipush (by decide) dX12_beginReading_54
theorem sX12_beginReading_56 {h0 : Hp_} : Snd 73 107 h0 (miT TbM) RX12 cX12_beginReading 3 none 56 (i_isub 57) := snd_isub dX12_beginReading_56
theorem sX12_beginReading_57 {h0 : Hp_} : Snd 73 107 h0 (miT TbM) RX12 cX12_beginReading 3 none 57 (i_putI 11 34 60) := snd_putI hl73 (fun hK ho hs kk => pf_X12_178 hK ho hs dX12_beginReading_57 kk)
theorem sX12_beginReading_60 {h0 : Hp_} : Snd 73 107 h0 (miT TbM) RX12 cX12_beginReading 3 none 60 (i_aload 61 0) := snd_aload_n rfl dX12_beginReading_60
theorem sX12_beginReading_61 {h0 : Hp_} : Snd 73 107 h0 (miT TbM) RX12 cX12_beginReading 3 none 61 (i_const 64 (vJ 32768)) := snd_ldc2 lc_X12_169 dX12_beginReading_61
theorem sX12_beginReading_64 {h0 : Hp_} : Snd 73 107 h0 (miT TbM) RX12 cX12_beginReading 3 none 64 (i_putJ 11 32 67) := snd_putJ hl73 (fun hK ho hs kk => pf_X12_171 hK ho hs dX12_beginReading_64 kk)
theorem sX12_beginReading_67 {h0 : Hp_} : Snd 73 107 h0 (miT TbM) RX12 cX12_beginReading 3 none 67 (i_vret) := snd_vret dX12_beginReading_67
theorem kX12_beginReading {h0 : Hp_} : raA (okI 73 107 h0 (miT TbM) (yX12_beginReading, cX12_beginReading, 3, none)) tX12_beginReading := (raA_br (raA_br (raA_br (raA_br (raA_br (raA_leaf sX12_beginReading_0) (raA_leaf sX12_beginReading_1)) (raA_br (raA_leaf sX12_beginReading_4) (raA_leaf sX12_beginReading_5))) (raA_br (raA_br (raA_leaf sX12_beginReading_6) (raA_leaf sX12_beginReading_9)) (raA_br (raA_leaf sX12_beginReading_10) (raA_br (raA_leaf sX12_beginReading_11) (raA_leaf sX12_beginReading_14))))) (raA_br (raA_br (raA_br (raA_leaf sX12_beginReading_15) (raA_leaf sX12_beginReading_16)) (raA_br (raA_leaf sX12_beginReading_19) (raA_leaf sX12_beginReading_20))) (raA_br (raA_br (raA_leaf sX12_beginReading_23) (raA_leaf sX12_beginReading_24)) (raA_br (raA_leaf sX12_beginReading_25) (raA_br (raA_leaf sX12_beginReading_28) (raA_leaf sX12_beginReading_29)))))) (raA_br (raA_br (raA_br (raA_br (raA_leaf sX12_beginReading_30) (raA_leaf sX12_beginReading_33)) (raA_br (raA_leaf sX12_beginReading_34) (raA_leaf sX12_beginReading_37))) (raA_br (raA_br (raA_leaf sX12_beginReading_38) (raA_leaf sX12_beginReading_41)) (raA_br (raA_leaf sX12_beginReading_42) (raA_br (raA_leaf sX12_beginReading_45) (raA_leaf sX12_beginReading_46))))) (raA_br (raA_br (raA_br (raA_leaf sX12_beginReading_49) (raA_leaf sX12_beginReading_50)) (raA_br (raA_leaf sX12_beginReading_51) (raA_br (raA_leaf sX12_beginReading_54) (raA_leaf sX12_beginReading_56)))) (raA_br (raA_br (raA_leaf sX12_beginReading_57) (raA_leaf sX12_beginReading_60)) (raA_br (raA_leaf sX12_beginReading_61) (raA_br (raA_leaf sX12_beginReading_64) (raA_leaf sX12_beginReading_67)))))))
theorem sX12_beginTelling_0 {h0 : Hp_} : Snd 73 107 h0 (miT TbM) RX12 cX12_beginTelling 1 none 0 (i_aload 1 0) := snd_aload_n rfl dX12_beginTelling_0
theorem sX12_beginTelling_1 {h0 : Hp_} : Snd 73 107 h0 (miT TbM) RX12 cX12_beginTelling 1 none 1 (i_cV0 18 11 4) := snd_cV0 (fun hK hd hC ho hs h6 h7 h8 kk => iv_X12_160 hK (mcM_18 hC) ho hs ⟨hd, by show _ ≤ 40 * (_ + 1); omega⟩ (Nat.le_refl _) h6 h7 h8 ⟨Nat.le_refl _, Nat.le_refl _⟩ dX12_beginTelling_1 kk)
theorem sX12_beginTelling_4 {h0 : Hp_} : Snd 73 107 h0 (miT TbM) RX12 cX12_beginTelling 1 none 4 (i_aload 5 0) := snd_aload_n rfl dX12_beginTelling_4
theorem sX12_beginTelling_5 {h0 : Hp_} : Snd 73 107 h0 (miT TbM) RX12 cX12_beginTelling 1 none 5 (i_const 6 (vI 0)) := snd_iconst dX12_beginTelling_5
theorem sX12_beginTelling_6 {h0 : Hp_} : Snd 73 107 h0 (miT TbM) RX12 cX12_beginTelling 1 none 6 (i_putI 11 29 9) := snd_putI hl73 (fun hK ho hs kk => pf_X12_163 hK ho hs dX12_beginTelling_6 kk)
theorem sX12_beginTelling_9 {h0 : Hp_} : Snd 73 107 h0 (miT TbM) RX12 cX12_beginTelling 1 none 9 (i_aload 10 0) := snd_aload_n rfl dX12_beginTelling_9
theorem sX12_beginTelling_10 {h0 : Hp_} : Snd 73 107 h0 (miT TbM) RX12 cX12_beginTelling 1 none 10 (i_getR 11 35 13) := snd_getR rfl (by decide) (by decide) (by decide) (fun hK ho hs hq kk => gf_X12_90 hK ho hs hq rfl dX12_beginTelling_10 kk)
theorem sX12_beginTelling_13 {h0 : Hp_} : Snd 73 107 h0 (miT TbM) RX12 cX12_beginTelling 1 none 13 (i_const 14 (vI 0)) := snd_iconst dX12_beginTelling_13
theorem sX12_beginTelling_14 {h0 : Hp_} : Snd 73 107 h0 (miT TbM) RX12 cX12_beginTelling 1 none 14 (i_const 15 (vI 0)) := snd_iconst dX12_beginTelling_14
theorem sX12_beginTelling_15 {h0 : Hp_} : Snd 73 107 h0 (miT TbM) RX12 cX12_beginTelling 1 none 15 (i_iast 73 107 16) := snd_iast dX12_beginTelling_15
theorem sX12_beginTelling_16 {h0 : Hp_} : Snd 73 107 h0 (miT TbM) RX12 cX12_beginTelling 1 none 16 (i_aload 17 0) := snd_aload_n rfl dX12_beginTelling_16
theorem sX12_beginTelling_17 {h0 : Hp_} : Snd 73 107 h0 (miT TbM) RX12 cX12_beginTelling 1 none 17 (i_const 18 (vI 1)) := snd_iconst dX12_beginTelling_17
theorem sX12_beginTelling_18 {h0 : Hp_} : Snd 73 107 h0 (miT TbM) RX12 cX12_beginTelling 1 none 18 (i_putI 11 36 21) := snd_putI hl73 (fun hK ho hs kk => pf_X12_166 hK ho hs dX12_beginTelling_18 kk)
theorem sX12_beginTelling_21 {h0 : Hp_} : Snd 73 107 h0 (miT TbM) RX12 cX12_beginTelling 1 none 21 (i_aload 22 0) := snd_aload_n rfl dX12_beginTelling_21
theorem sX12_beginTelling_22 {h0 : Hp_} : Snd 73 107 h0 (miT TbM) RX12 cX12_beginTelling 1 none 22 (i_const 25 (vJ 32768)) := snd_ldc2 lc_X12_169 dX12_beginTelling_22
theorem sX12_beginTelling_25 {h0 : Hp_} : Snd 73 107 h0 (miT TbM) RX12 cX12_beginTelling 1 none 25 (i_putJ 11 32 28) := snd_putJ hl73 (fun hK ho hs kk => pf_X12_171 hK ho hs dX12_beginTelling_25 kk)
theorem sX12_beginTelling_28 {h0 : Hp_} : Snd 73 107 h0 (miT TbM) RX12 cX12_beginTelling 1 none 28 (i_aload 29 0) := snd_aload_n rfl dX12_beginTelling_28
theorem sX12_beginTelling_29 {h0 : Hp_} : Snd 73 107 h0 (miT TbM) RX12 cX12_beginTelling 1 none 29 (i_const 30 (vJ 0)) := snd_lconst (by decide) dX12_beginTelling_29
theorem sX12_beginTelling_30 {h0 : Hp_} : Snd 73 107 h0 (miT TbM) RX12 cX12_beginTelling 1 none 30 (i_putJ 11 33 33) := snd_putJ hl73 (fun hK ho hs kk => pf_X12_175 hK ho hs dX12_beginTelling_30 kk)
theorem sX12_beginTelling_33 {h0 : Hp_} : Snd 73 107 h0 (miT TbM) RX12 cX12_beginTelling 1 none 33 (i_aload 34 0) := snd_aload_n rfl dX12_beginTelling_33
theorem sX12_beginTelling_34 {h0 : Hp_} : Snd 73 107 h0 (miT TbM) RX12 cX12_beginTelling 1 none 34 (i_const 36 (vI 12)) := snd_bipush (by decide) dX12_beginTelling_34
theorem sX12_beginTelling_36 {h0 : Hp_} : Snd 73 107 h0 (miT TbM) RX12 cX12_beginTelling 1 none 36 (i_putI 11 34 39) := snd_putI hl73 (fun hK ho hs kk => pf_X12_178 hK ho hs dX12_beginTelling_36 kk)
theorem sX12_beginTelling_39 {h0 : Hp_} : Snd 73 107 h0 (miT TbM) RX12 cX12_beginTelling 1 none 39 (i_vret) := snd_vret dX12_beginTelling_39
theorem kX12_beginTelling {h0 : Hp_} : raA (okI 73 107 h0 (miT TbM) (yX12_beginTelling, cX12_beginTelling, 1, none)) tX12_beginTelling := (raA_br (raA_br (raA_br (raA_br (raA_leaf sX12_beginTelling_0) (raA_leaf sX12_beginTelling_1)) (raA_br (raA_leaf sX12_beginTelling_4) (raA_br (raA_leaf sX12_beginTelling_5) (raA_leaf sX12_beginTelling_6)))) (raA_br (raA_br (raA_leaf sX12_beginTelling_9) (raA_br (raA_leaf sX12_beginTelling_10) (raA_leaf sX12_beginTelling_13))) (raA_br (raA_leaf sX12_beginTelling_14) (raA_br (raA_leaf sX12_beginTelling_15) (raA_leaf sX12_beginTelling_16))))) (raA_br (raA_br (raA_br (raA_leaf sX12_beginTelling_17) (raA_br (raA_leaf sX12_beginTelling_18) (raA_leaf sX12_beginTelling_21))) (raA_br (raA_leaf sX12_beginTelling_22) (raA_br (raA_leaf sX12_beginTelling_25) (raA_leaf sX12_beginTelling_28)))) (raA_br (raA_br (raA_leaf sX12_beginTelling_29) (raA_br (raA_leaf sX12_beginTelling_30) (raA_leaf sX12_beginTelling_33))) (raA_br (raA_leaf sX12_beginTelling_34) (raA_br (raA_leaf sX12_beginTelling_36) (raA_leaf sX12_beginTelling_39))))))
theorem sX12_bitAt_0 {h0 : Hp_} : Snd 73 107 h0 (miT TbM) RX12 cX12_bitAt 3 (some .int) 0 (i_aload 1 0) := snd_aload_n rfl dX12_bitAt_0
theorem sX12_bitAt_1 {h0 : Hp_} : Snd 73 107 h0 (miT TbM) RX12 cX12_bitAt 3 (some .int) 1 (i_getR 11 13 4) := snd_getR rfl (by decide) (by decide) (by decide) (fun hK ho hs hq kk => gf_X12_47 hK ho hs hq rfl dX12_bitAt_1 kk)
theorem sX12_bitAt_4 {h0 : Hp_} : Snd 73 107 h0 (miT TbM) RX12 cX12_bitAt 3 (some .int) 4 (i_aload 5 0) := snd_aload_n rfl dX12_bitAt_4
theorem sX12_bitAt_5 {h0 : Hp_} : Snd 73 107 h0 (miT TbM) RX12 cX12_bitAt 3 (some .int) 5 (i_iload 6 1) := snd_iload_n rfl dX12_bitAt_5
theorem sX12_bitAt_6 {h0 : Hp_} : Snd 73 107 h0 (miT TbM) RX12 cX12_bitAt 3 (some .int) 6 (i_iload 7 2) := snd_iload_n rfl dX12_bitAt_6
theorem sX12_bitAt_7 {h0 : Hp_} : Snd 73 107 h0 (miT TbM) RX12 cX12_bitAt 3 (some .int) 7 (i_cV2 7 11 10) := snd_cV2 (fun hK hd hC ho hs h6 h7 h8 kk => iv_X12_249 hK (mcM_7 hC) ho hs ⟨hd, by show _ ≤ 40 * (_ + 1); omega⟩ (Nat.le_refl _) h6 h7 h8 ⟨Nat.le_refl _, Nat.le_refl _⟩ dX12_bitAt_7 kk)
theorem sX12_bitAt_10 {h0 : Hp_} : Snd 73 107 h0 (miT TbM) RX12 cX12_bitAt 3 (some .int) 10 (i_iald 73 107 11) := snd_iald dX12_bitAt_10
theorem sX12_bitAt_11 {h0 : Hp_} : Snd 73 107 h0 (miT TbM) RX12 cX12_bitAt 3 (some .int) 11 (i_aload 12 0) := snd_aload_n rfl dX12_bitAt_11
theorem sX12_bitAt_12 {h0 : Hp_} : Snd 73 107 h0 (miT TbM) RX12 cX12_bitAt 3 (some .int) 12 (i_getI 11 27 15) := snd_getI hl73 (fun hK ho hs hv kk => gf_X12_252 hK ho hs hv dX12_bitAt_12 kk)
theorem sX12_bitAt_15 {h0 : Hp_} : Snd 73 107 h0 (miT TbM) RX12 cX12_bitAt 3 (some .int) 15 (i_ishr 16) := snd_ishr dX12_bitAt_15
theorem sX12_bitAt_16 {h0 : Hp_} : Snd 73 107 h0 (miT TbM) RX12 cX12_bitAt 3 (some .int) 16 (i_const 17 (vI 1)) := snd_iconst dX12_bitAt_16
theorem sX12_bitAt_17 {h0 : Hp_} : Snd 73 107 h0 (miT TbM) RX12 cX12_bitAt 3 (some .int) 17 (i_iand 18) := snd_iand dX12_bitAt_17
theorem sX12_bitAt_18 {h0 : Hp_} : Snd 73 107 h0 (miT TbM) RX12 cX12_bitAt 3 (some .int) 18 (i_iret) := snd_iret dX12_bitAt_18
theorem kX12_bitAt {h0 : Hp_} : raA (okI 73 107 h0 (miT TbM) (yX12_bitAt, cX12_bitAt, 3, (some .int))) tX12_bitAt := (raA_br (raA_br (raA_br (raA_leaf sX12_bitAt_0) (raA_br (raA_leaf sX12_bitAt_1) (raA_leaf sX12_bitAt_4))) (raA_br (raA_leaf sX12_bitAt_5) (raA_br (raA_leaf sX12_bitAt_6) (raA_leaf sX12_bitAt_7)))) (raA_br (raA_br (raA_leaf sX12_bitAt_10) (raA_br (raA_leaf sX12_bitAt_11) (raA_leaf sX12_bitAt_12))) (raA_br (raA_br (raA_leaf sX12_bitAt_15) (raA_leaf sX12_bitAt_16)) (raA_br (raA_leaf sX12_bitAt_17) (raA_leaf sX12_bitAt_18)))))
theorem sX12_byteAt_0 {h0 : Hp_} : Snd 73 107 h0 (miT TbM) RX12 cX12_byteAt 2 (some .int) 0 (i_iload 1 1) := snd_iload_n rfl dX12_byteAt_0
theorem sX12_byteAt_1 {h0 : Hp_} : Snd 73 107 h0 (miT TbM) RX12 cX12_byteAt 2 (some .int) 1 (i_aload 2 0) := snd_aload_n rfl dX12_byteAt_1
theorem sX12_byteAt_2 {h0 : Hp_} : Snd 73 107 h0 (miT TbM) RX12 cX12_byteAt 2 (some .int) 2 (i_getI 11 38 5) := snd_getI hl73 (fun hK ho hs hv kk => gf_X12_202 hK ho hs hv dX12_byteAt_2 kk)
theorem sX12_byteAt_5 {h0 : Hp_} : Snd 73 107 h0 (miT TbM) RX12 cX12_byteAt 2 (some .int) 5 (i_icmp_ge 8 17) := snd_icmp_ge dX12_byteAt_5 rfl
theorem sX12_byteAt_8 {h0 : Hp_} : Snd 73 107 h0 (miT TbM) RX12 cX12_byteAt 2 (some .int) 8 (i_aload 9 0) := snd_aload_n rfl dX12_byteAt_8
theorem sX12_byteAt_9 {h0 : Hp_} : Snd 73 107 h0 (miT TbM) RX12 cX12_byteAt 2 (some .int) 9 (i_getR 11 37 12) := snd_getR rfl (by decide) (by decide) (by decide) (fun hK ho hs hq kk => gf_X12_93 hK ho hs hq rfl dX12_byteAt_9 kk)
theorem sX12_byteAt_12 {h0 : Hp_} : Snd 73 107 h0 (miT TbM) RX12 cX12_byteAt 2 (some .int) 12 (i_iload 13 1) := snd_iload_n rfl dX12_byteAt_12
theorem sX12_byteAt_13 {h0 : Hp_} : Snd 73 107 h0 (miT TbM) RX12 cX12_byteAt 2 (some .int) 13 (i_iald 73 107 14) := snd_iald dX12_byteAt_13
theorem sX12_byteAt_14 {h0 : Hp_} : Snd 73 107 h0 (miT TbM) RX12 cX12_byteAt 2 (some .int) 14 (i_goto 20) := snd_goto dX12_byteAt_14 rfl
theorem sX12_byteAt_17 {h0 : Hp_} : Snd 73 107 h0 (miT TbM) RX12 cX12_byteAt 2 (some .int) 17 (i_const 20 (vI 255)) := snd_sipush (by decide) dX12_byteAt_17
theorem sX12_byteAt_20 {h0 : Hp_} : Snd 73 107 h0 (miT TbM) RX12 cX12_byteAt 2 (some .int) 20 (i_iret) := snd_iret dX12_byteAt_20
theorem kX12_byteAt {h0 : Hp_} : raA (okI 73 107 h0 (miT TbM) (yX12_byteAt, cX12_byteAt, 2, (some .int))) tX12_byteAt := (raA_br (raA_br (raA_br (raA_leaf sX12_byteAt_0) (raA_leaf sX12_byteAt_1)) (raA_br (raA_leaf sX12_byteAt_2) (raA_br (raA_leaf sX12_byteAt_5) (raA_leaf sX12_byteAt_8)))) (raA_br (raA_br (raA_leaf sX12_byteAt_9) (raA_br (raA_leaf sX12_byteAt_12) (raA_leaf sX12_byteAt_13))) (raA_br (raA_leaf sX12_byteAt_14) (raA_br (raA_leaf sX12_byteAt_17) (raA_leaf sX12_byteAt_20)))))
theorem sX12_cell_0 {h0 : Hp_} : Snd 73 107 h0 (miT TbM) RX12 cX12_cell 3 (some .int) 0 (i_const 2 (vI 64)) := snd_bipush (by decide) dX12_cell_0
theorem sX12_cell_2 {h0 : Hp_} : Snd 73 107 h0 (miT TbM) RX12 cX12_cell 3 (some .int) 2 (i_aload 3 0) := snd_aload_n rfl dX12_cell_2
theorem sX12_cell_3 {h0 : Hp_} : Snd 73 107 h0 (miT TbM) RX12 cX12_cell 3 (some .int) 3 (i_getI 11 26 6) := snd_getI hl73 (fun hK ho hs hv kk => gf_X12_246 hK ho hs hv dX12_cell_3 kk)
theorem sX12_cell_6 {h0 : Hp_} : Snd 73 107 h0 (miT TbM) RX12 cX12_cell 3 (some .int) 6 (i_imul 7) := snd_imul dX12_cell_6
theorem sX12_cell_7 {h0 : Hp_} : Snd 73 107 h0 (miT TbM) RX12 cX12_cell 3 (some .int) 7 (i_const 9 (vI 8)) := snd_bipush (by decide) dX12_cell_7
theorem sX12_cell_9 {h0 : Hp_} : Snd 73 107 h0 (miT TbM) RX12 cX12_cell 3 (some .int) 9 (i_iload 10 2) := snd_iload_n rfl dX12_cell_9
theorem sX12_cell_10 {h0 : Hp_} : Snd 73 107 h0 (miT TbM) RX12 cX12_cell 3 (some .int) 10 (i_imul 11) := snd_imul dX12_cell_10
theorem sX12_cell_11 {h0 : Hp_} : Snd 73 107 h0 (miT TbM) RX12 cX12_cell 3 (some .int) 11 (i_iadd 12) := snd_iadd dX12_cell_11
theorem sX12_cell_12 {h0 : Hp_} : Snd 73 107 h0 (miT TbM) RX12 cX12_cell 3 (some .int) 12 (i_iload 13 1) := snd_iload_n rfl dX12_cell_12
theorem sX12_cell_13 {h0 : Hp_} : Snd 73 107 h0 (miT TbM) RX12 cX12_cell 3 (some .int) 13 (i_iadd 14) := snd_iadd dX12_cell_13
theorem sX12_cell_14 {h0 : Hp_} : Snd 73 107 h0 (miT TbM) RX12 cX12_cell 3 (some .int) 14 (i_iret) := snd_iret dX12_cell_14
theorem kX12_cell {h0 : Hp_} : raA (okI 73 107 h0 (miT TbM) (yX12_cell, cX12_cell, 3, (some .int))) tX12_cell := (raA_br (raA_br (raA_br (raA_leaf sX12_cell_0) (raA_leaf sX12_cell_2)) (raA_br (raA_leaf sX12_cell_3) (raA_br (raA_leaf sX12_cell_6) (raA_leaf sX12_cell_7)))) (raA_br (raA_br (raA_leaf sX12_cell_9) (raA_br (raA_leaf sX12_cell_10) (raA_leaf sX12_cell_11))) (raA_br (raA_leaf sX12_cell_12) (raA_br (raA_leaf sX12_cell_13) (raA_leaf sX12_cell_14)))))
theorem sX12_clean_0 {h0 : Hp_} : Snd 73 107 h0 (miT TbM) RX12 cX12_clean 4 none 0 (i_iload 1 2) := snd_iload_n rfl dX12_clean_0
theorem sX12_clean_1 {h0 : Hp_} : Snd 73 107 h0 (miT TbM) RX12 cX12_clean 4 none 1 (i_aload 2 0) := snd_aload_n rfl dX12_clean_1
theorem sX12_clean_2 {h0 : Hp_} : Snd 73 107 h0 (miT TbM) RX12 cX12_clean 4 none 2 (i_iload 3 1) := snd_iload_n rfl dX12_clean_2
theorem sX12_clean_3 {h0 : Hp_} : Snd 73 107 h0 (miT TbM) RX12 cX12_clean 4 none 3 (i_iload 4 2) := snd_iload_n rfl dX12_clean_3
theorem sX12_clean_4 {h0 : Hp_} : Snd 73 107 h0 (miT TbM) RX12 cX12_clean 4 none 4 (i_cV2 24 11 7) := snd_cV2 (fun hK hd hC ho hs h6 h7 h8 kk => iv_X12_274 hK (mcM_24 hC) ho hs ⟨hd, by show _ ≤ 40 * (_ + 1); omega⟩ (Nat.le_refl _) h6 h7 h8 ⟨Nat.le_refl _, Nat.le_refl _⟩ dX12_clean_4 kk)
theorem sX12_clean_7 {h0 : Hp_} : Snd 73 107 h0 (miT TbM) RX12 cX12_clean 4 none 7 (i_iadd 8) := snd_iadd dX12_clean_7
theorem sX12_clean_8 {h0 : Hp_} : Snd 73 107 h0 (miT TbM) RX12 cX12_clean 4 none 8 (i_istore 9 3) := snd_istore_n rfl (by decide) dX12_clean_8
theorem sX12_clean_9 {h0 : Hp_} : Snd 73 107 h0 (miT TbM) RX12 cX12_clean 4 none 9 (i_iload 10 3) := snd_iload_n rfl dX12_clean_9
theorem sX12_clean_10 {h0 : Hp_} : Snd 73 107 h0 (miT TbM) RX12 cX12_clean 4 none 10 (i_iload 11 2) := snd_iload_n rfl dX12_clean_10
theorem sX12_clean_11 {h0 : Hp_} : Snd 73 107 h0 (miT TbM) RX12 cX12_clean 4 none 11 (i_const 12 (vI 4)) := snd_iconst dX12_clean_11
theorem sX12_clean_12 {h0 : Hp_} : Snd 73 107 h0 (miT TbM) RX12 cX12_clean 4 none 12 (i_iadd 13) := snd_iadd dX12_clean_12
theorem sX12_clean_13 {h0 : Hp_} : Snd 73 107 h0 (miT TbM) RX12 cX12_clean 4 none 13 (i_icmp_ge 16 70) := snd_icmp_ge dX12_clean_13 rfl
theorem sX12_clean_16 {h0 : Hp_} : Snd 73 107 h0 (miT TbM) RX12 cX12_clean 4 none 16 (i_iload 17 3) := snd_iload_n rfl dX12_clean_16
theorem sX12_clean_17 {h0 : Hp_} : Snd 73 107 h0 (miT TbM) RX12 cX12_clean 4 none 17 (i_aload 18 0) := snd_aload_n rfl dX12_clean_17
theorem sX12_clean_18 {h0 : Hp_} : Snd 73 107 h0 (miT TbM) RX12 cX12_clean 4 none 18 (i_getR 11 10 21) := snd_getR rfl (by decide) (by decide) (by decide) (fun hK ho hs hq kk => gf_X12_38 hK ho hs hq rfl dX12_clean_18 kk)
theorem sX12_clean_21 {h0 : Hp_} : Snd 73 107 h0 (miT TbM) RX12 cX12_clean 4 none 21 (i_aload 22 0) := snd_aload_n rfl dX12_clean_21
theorem sX12_clean_22 {h0 : Hp_} : Snd 73 107 h0 (miT TbM) RX12 cX12_clean 4 none 22 (i_getI 11 26 25) := snd_getI hl73 (fun hK ho hs hv kk => gf_X12_246 hK ho hs hv dX12_clean_22 kk)
theorem sX12_clean_25 {h0 : Hp_} : Snd 73 107 h0 (miT TbM) RX12 cX12_clean 4 none 25 (i_iald 73 107 26) := snd_iald dX12_clean_25
theorem sX12_clean_26 {h0 : Hp_} : Snd 73 107 h0 (miT TbM) RX12 cX12_clean 4 none 26 (i_icmp_ge 29 70) := snd_icmp_ge dX12_clean_26 rfl
theorem sX12_clean_29 {h0 : Hp_} : Snd 73 107 h0 (miT TbM) RX12 cX12_clean 4 none 29 (i_aload 30 0) := snd_aload_n rfl dX12_clean_29
theorem sX12_clean_30 {h0 : Hp_} : Snd 73 107 h0 (miT TbM) RX12 cX12_clean 4 none 30 (i_iload 31 1) := snd_iload_n rfl dX12_clean_30
theorem sX12_clean_31 {h0 : Hp_} : Snd 73 107 h0 (miT TbM) RX12 cX12_clean 4 none 31 (i_iload 32 3) := snd_iload_n rfl dX12_clean_31
theorem sX12_clean_32 {h0 : Hp_} : Snd 73 107 h0 (miT TbM) RX12 cX12_clean 4 none 32 (i_cV2 23 11 35) := snd_cV2 (fun hK hd hC ho hs h6 h7 h8 kk => iv_X12_271 hK (mcM_23 hC) ho hs ⟨hd, by show _ ≤ 40 * (_ + 1); omega⟩ (Nat.le_refl _) h6 h7 h8 ⟨Nat.le_refl _, Nat.le_refl _⟩ dX12_clean_32 kk)
theorem sX12_clean_35 {h0 : Hp_} : Snd 73 107 h0 (miT TbM) RX12 cX12_clean 4 none 35 (i_if_eq 38 64) := snd_if_eq dX12_clean_35 rfl
theorem sX12_clean_38 {h0 : Hp_} : Snd 73 107 h0 (miT TbM) RX12 cX12_clean 4 none 38 (i_aload 39 0) := snd_aload_n rfl dX12_clean_38
theorem sX12_clean_39 {h0 : Hp_} : Snd 73 107 h0 (miT TbM) RX12 cX12_clean 4 none 39 (i_aload 40 0) := snd_aload_n rfl dX12_clean_39
theorem sX12_clean_40 {h0 : Hp_} : Snd 73 107 h0 (miT TbM) RX12 cX12_clean 4 none 40 (i_iload 41 1) := snd_iload_n rfl dX12_clean_40
theorem sX12_clean_41 {h0 : Hp_} : Snd 73 107 h0 (miT TbM) RX12 cX12_clean 4 none 41 (i_iload 42 3) := snd_iload_n rfl dX12_clean_41
theorem sX12_clean_42 {h0 : Hp_} : Snd 73 107 h0 (miT TbM) RX12 cX12_clean 4 none 42 (i_cV2 12 11 45) := snd_cV2 (fun hK hd hC ho hs h6 h7 h8 kk => iv_X12_261 hK (mcM_12 hC) ho hs ⟨hd, by show _ ≤ 40 * (_ + 1); omega⟩ (Nat.le_refl _) h6 h7 h8 ⟨Nat.le_refl _, Nat.le_refl _⟩ dX12_clean_42 kk)
theorem sX12_clean_45 {h0 : Hp_} : Snd 73 107 h0 (miT TbM) RX12 cX12_clean 4 none 45 (i_aload 46 0) := snd_aload_n rfl dX12_clean_45
theorem sX12_clean_46 {h0 : Hp_} : Snd 73 107 h0 (miT TbM) RX12 cX12_clean 4 none 46 (i_iload 47 1) := snd_iload_n rfl dX12_clean_46
theorem sX12_clean_47 {h0 : Hp_} : Snd 73 107 h0 (miT TbM) RX12 cX12_clean 4 none 47 (i_iload 48 3) := snd_iload_n rfl dX12_clean_47
theorem sX12_clean_48 {h0 : Hp_} : Snd 73 107 h0 (miT TbM) RX12 cX12_clean 4 none 48 (i_cV2 5 11 51) := snd_cV2 (fun hK hd hC ho hs h6 h7 h8 kk => iv_X12_264 hK (mcM_5 hC) ho hs ⟨hd, by show _ ≤ 40 * (_ + 1); omega⟩ (Nat.le_refl _) h6 h7 h8 ⟨Nat.le_refl _, Nat.le_refl _⟩ dX12_clean_48 kk)
theorem sX12_clean_51 {h0 : Hp_} : Snd 73 107 h0 (miT TbM) RX12 cX12_clean 4 none 51 (i_cV2 9 11 54) := snd_cV2 (fun hK hd hC ho hs h6 h7 h8 kk => iv_X12_258 hK (mcM_9 hC) ho hs ⟨hd, by show _ ≤ 40 * (_ + 1); omega⟩ (Nat.le_refl _) h6 h7 h8 ⟨Nat.le_refl _, Nat.le_refl _⟩ dX12_clean_51 kk)
theorem sX12_clean_54 {h0 : Hp_} : Snd 73 107 h0 (miT TbM) RX12 cX12_clean 4 none 54 (i_const 55 (vI 1)) := snd_iconst dX12_clean_54
theorem sX12_clean_55 {h0 : Hp_} : Snd 73 107 h0 (miT TbM) RX12 cX12_clean 4 none 55 (i_icmp_ne 58 64) := snd_icmp_ne dX12_clean_55 rfl
theorem sX12_clean_58 {h0 : Hp_} : Snd 73 107 h0 (miT TbM) RX12 cX12_clean 4 none 58 (i_aload 59 0) := snd_aload_n rfl dX12_clean_58
theorem sX12_clean_59 {h0 : Hp_} : Snd 73 107 h0 (miT TbM) RX12 cX12_clean 4 none 59 (i_iload 60 1) := snd_iload_n rfl dX12_clean_59
theorem sX12_clean_60 {h0 : Hp_} : Snd 73 107 h0 (miT TbM) RX12 cX12_clean 4 none 60 (i_iload 61 3) := snd_iload_n rfl dX12_clean_60
theorem sX12_clean_61 {h0 : Hp_} : Snd 73 107 h0 (miT TbM) RX12 cX12_clean 4 none 61 (i_cV2 45 11 64) := snd_cV2 (fun hK hd hC ho hs h6 h7 h8 kk => iv_X12_267 hK (mcM_45 hC) ho hs ⟨hd, by show _ ≤ 40 * (_ + 1); omega⟩ (Nat.le_refl _) h6 h7 h8 ⟨Nat.le_refl _, Nat.le_refl _⟩ dX12_clean_61 kk)
theorem sX12_clean_64 {h0 : Hp_} : Snd 73 107 h0 (miT TbM) RX12 cX12_clean 4 none 64 (i_iinc 67 3 1) := snd_iinc (by decide) dX12_clean_64
theorem sX12_clean_67 {h0 : Hp_} : Snd 73 107 h0 (miT TbM) RX12 cX12_clean 4 none 67 (i_goto 9) := snd_goto dX12_clean_67 rfl
theorem sX12_clean_70 {h0 : Hp_} : Snd 73 107 h0 (miT TbM) RX12 cX12_clean 4 none 70 (i_vret) := snd_vret dX12_clean_70
theorem kX12_clean {h0 : Hp_} : raA (okI 73 107 h0 (miT TbM) (yX12_clean, cX12_clean, 4, none)) tX12_clean := (raA_br (raA_br (raA_br (raA_br (raA_br (raA_leaf sX12_clean_0) (raA_leaf sX12_clean_1)) (raA_br (raA_leaf sX12_clean_2) (raA_br (raA_leaf sX12_clean_3) (raA_leaf sX12_clean_4)))) (raA_br (raA_br (raA_leaf sX12_clean_7) (raA_leaf sX12_clean_8)) (raA_br (raA_leaf sX12_clean_9) (raA_br (raA_leaf sX12_clean_10) (raA_leaf sX12_clean_11))))) (raA_br (raA_br (raA_br (raA_leaf sX12_clean_12) (raA_leaf sX12_clean_13)) (raA_br (raA_leaf sX12_clean_16) (raA_br (raA_leaf sX12_clean_17) (raA_leaf sX12_clean_18)))) (raA_br (raA_br (raA_leaf sX12_clean_21) (raA_br (raA_leaf sX12_clean_22) (raA_leaf sX12_clean_25))) (raA_br (raA_leaf sX12_clean_26) (raA_br (raA_leaf sX12_clean_29) (raA_leaf sX12_clean_30)))))) (raA_br (raA_br (raA_br (raA_br (raA_leaf sX12_clean_31) (raA_leaf sX12_clean_32)) (raA_br (raA_leaf sX12_clean_35) (raA_br (raA_leaf sX12_clean_38) (raA_leaf sX12_clean_39)))) (raA_br (raA_br (raA_leaf sX12_clean_40) (raA_br (raA_leaf sX12_clean_41) (raA_leaf sX12_clean_42))) (raA_br (raA_leaf sX12_clean_45) (raA_br (raA_leaf sX12_clean_46) (raA_leaf sX12_clean_47))))) (raA_br (raA_br (raA_br (raA_leaf sX12_clean_48) (raA_leaf sX12_clean_51)) (raA_br (raA_leaf sX12_clean_54) (raA_br (raA_leaf sX12_clean_55) (raA_leaf sX12_clean_58)))) (raA_br (raA_br (raA_leaf sX12_clean_59) (raA_br (raA_leaf sX12_clean_60) (raA_leaf sX12_clean_61))) (raA_br (raA_leaf sX12_clean_64) (raA_br (raA_leaf sX12_clean_67) (raA_leaf sX12_clean_70)))))))
theorem sX12_code_0 {h0 : Hp_} : Snd 73 107 h0 (miT TbM) RX12 cX12_code 4 (some .int) 0 (i_aload 1 0) := snd_aload_n rfl dX12_code_0
theorem sX12_code_1 {h0 : Hp_} : Snd 73 107 h0 (miT TbM) RX12 cX12_code 4 (some .int) 1 (i_getI 11 29 4) := snd_getI hl73 (fun hK ho hs hv kk => gf_X12_163 hK ho hs hv dX12_code_1 kk)
theorem sX12_code_4 {h0 : Hp_} : Snd 73 107 h0 (miT TbM) RX12 cX12_code 4 (some .int) 4 (i_if_ne 7 14) := snd_if_ne dX12_code_4 rfl
theorem sX12_code_7 {h0 : Hp_} : Snd 73 107 h0 (miT TbM) RX12 cX12_code 4 (some .int) 7 (i_aload 8 0) := snd_aload_n rfl dX12_code_7
theorem sX12_code_8 {h0 : Hp_} : Snd 73 107 h0 (miT TbM) RX12 cX12_code 4 (some .int) 8 (i_iload 9 1) := snd_iload_n rfl dX12_code_8
theorem sX12_code_9 {h0 : Hp_} : Snd 73 107 h0 (miT TbM) RX12 cX12_code 4 (some .int) 9 (i_iload 10 2) := snd_iload_n rfl dX12_code_9
theorem sX12_code_10 {h0 : Hp_} : Snd 73 107 h0 (miT TbM) RX12 cX12_code 4 (some .int) 10 (i_cV2 42 11 13) := snd_cV2 (fun hK hd hC ho hs h6 h7 h8 kk => iv_X12_221 hK (mcM_42 hC) ho hs ⟨hd, by show _ ≤ 40 * (_ + 1); omega⟩ (Nat.le_refl _) h6 h7 h8 ⟨Nat.le_refl _, Nat.le_refl _⟩ dX12_code_10 kk)
theorem sX12_code_13 {h0 : Hp_} : Snd 73 107 h0 (miT TbM) RX12 cX12_code 4 (some .int) 13 (i_iret) := snd_iret dX12_code_13
theorem sX12_code_14 {h0 : Hp_} : Snd 73 107 h0 (miT TbM) RX12 cX12_code 4 (some .int) 14 (i_aload 15 0) := snd_aload_n rfl dX12_code_14
theorem sX12_code_15 {h0 : Hp_} : Snd 73 107 h0 (miT TbM) RX12 cX12_code 4 (some .int) 15 (i_iload 16 1) := snd_iload_n rfl dX12_code_15
theorem sX12_code_16 {h0 : Hp_} : Snd 73 107 h0 (miT TbM) RX12 cX12_code 4 (some .int) 16 (i_cV1 34 11 19) := snd_cV1 (fun hK hd hC ho hs h6 h7 h8 kk => iv_X12_224 hK (mcM_34 hC) ho hs ⟨hd, by show _ ≤ 40 * (_ + 1); omega⟩ (Nat.le_refl _) h6 h7 h8 ⟨Nat.le_refl _, Nat.le_refl _⟩ dX12_code_16 kk)
theorem sX12_code_19 {h0 : Hp_} : Snd 73 107 h0 (miT TbM) RX12 cX12_code 4 (some .int) 19 (i_istore 20 3) := snd_istore_n rfl (by decide) dX12_code_19
theorem sX12_code_20 {h0 : Hp_} : Snd 73 107 h0 (miT TbM) RX12 cX12_code 4 (some .int) 20 (i_aload 21 0) := snd_aload_n rfl dX12_code_20
theorem sX12_code_21 {h0 : Hp_} : Snd 73 107 h0 (miT TbM) RX12 cX12_code 4 (some .int) 21 (i_getI 11 29 24) := snd_getI hl73 (fun hK ho hs hv kk => gf_X12_163 hK ho hs hv dX12_code_21 kk)
theorem sX12_code_24 {h0 : Hp_} : Snd 73 107 h0 (miT TbM) RX12 cX12_code 4 (some .int) 24 (i_const 25 (vI 1)) := snd_iconst dX12_code_24
theorem sX12_code_25 {h0 : Hp_} : Snd 73 107 h0 (miT TbM) RX12 cX12_code 4 (some .int) 25 (i_icmp_ne 28 30) := snd_icmp_ne dX12_code_25 rfl
theorem sX12_code_28 {h0 : Hp_} : Snd 73 107 h0 (miT TbM) RX12 cX12_code 4 (some .int) 28 (i_iload 29 3) := snd_iload_n rfl dX12_code_28
theorem sX12_code_29 {h0 : Hp_} : Snd 73 107 h0 (miT TbM) RX12 cX12_code 4 (some .int) 29 (i_iret) := snd_iret dX12_code_29
theorem sX12_code_30 {h0 : Hp_} : Snd 73 107 h0 (miT TbM) RX12 cX12_code 4 (some .int) 30 (i_aload 31 0) := snd_aload_n rfl dX12_code_30
theorem sX12_code_31 {h0 : Hp_} : Snd 73 107 h0 (miT TbM) RX12 cX12_code 4 (some .int) 31 (i_aload 32 0) := snd_aload_n rfl dX12_code_31
theorem sX12_code_32 {h0 : Hp_} : Snd 73 107 h0 (miT TbM) RX12 cX12_code 4 (some .int) 32 (i_getI 11 28 35) := snd_getI hl73 (fun hK ho hs hv kk => gf_X12_227 hK ho hs hv dX12_code_32 kk)
theorem sX12_code_35 {h0 : Hp_} : Snd 73 107 h0 (miT TbM) RX12 cX12_code 4 (some .int) 35 (i_if_ne 38 43) := snd_if_ne dX12_code_35 rfl
theorem sX12_code_38 {h0 : Hp_} : Snd 73 107 h0 (miT TbM) RX12 cX12_code 4 (some .int) 38 (i_iload 39 3) := snd_iload_n rfl dX12_code_38
theorem sX12_code_39 {h0 : Hp_} : Snd 73 107 h0 (miT TbM) RX12 cX12_code 4 (some .int) 39 (i_iload 40 2) := snd_iload_n rfl dX12_code_39
theorem sX12_code_40 {h0 : Hp_} : Snd 73 107 h0 (miT TbM) RX12 cX12_code 4 (some .int) 40 (i_icmp_eq 43 47) := snd_icmp_eq dX12_code_40 rfl
theorem sX12_code_43 {h0 : Hp_} : Snd 73 107 h0 (miT TbM) RX12 cX12_code 4 (some .int) 43 (i_const 44 (vI 1)) := snd_iconst dX12_code_43
theorem sX12_code_44 {h0 : Hp_} : Snd 73 107 h0 (miT TbM) RX12 cX12_code 4 (some .int) 44 (i_goto 48) := snd_goto dX12_code_44 rfl
theorem sX12_code_47 {h0 : Hp_} : Snd 73 107 h0 (miT TbM) RX12 cX12_code 4 (some .int) 47 (i_const 48 (vI 0)) := snd_iconst dX12_code_47
theorem sX12_code_48 {h0 : Hp_} : Snd 73 107 h0 (miT TbM) RX12 cX12_code 4 (some .int) 48 (i_putZ 11 28 51) := snd_putZ hl73 (fun hK ho hs hx kk => pf_X12_227 hK ho hs hx dX12_code_48 kk)
theorem sX12_code_51 {h0 : Hp_} : Snd 73 107 h0 (miT TbM) RX12 cX12_code 4 (some .int) 51 (i_iload 52 2) := snd_iload_n rfl dX12_code_51
theorem sX12_code_52 {h0 : Hp_} : Snd 73 107 h0 (miT TbM) RX12 cX12_code 4 (some .int) 52 (i_iret) := snd_iret dX12_code_52
theorem kX12_code {h0 : Hp_} : raA (okI 73 107 h0 (miT TbM) (yX12_code, cX12_code, 4, (some .int))) tX12_code := (raA_br (raA_br (raA_br (raA_br (raA_leaf sX12_code_0) (raA_br (raA_leaf sX12_code_1) (raA_leaf sX12_code_4))) (raA_br (raA_br (raA_leaf sX12_code_7) (raA_leaf sX12_code_8)) (raA_br (raA_leaf sX12_code_9) (raA_leaf sX12_code_10)))) (raA_br (raA_br (raA_br (raA_leaf sX12_code_13) (raA_leaf sX12_code_14)) (raA_br (raA_leaf sX12_code_15) (raA_leaf sX12_code_16))) (raA_br (raA_br (raA_leaf sX12_code_19) (raA_leaf sX12_code_20)) (raA_br (raA_leaf sX12_code_21) (raA_leaf sX12_code_24))))) (raA_br (raA_br (raA_br (raA_br (raA_leaf sX12_code_25) (raA_leaf sX12_code_28)) (raA_br (raA_leaf sX12_code_29) (raA_leaf sX12_code_30))) (raA_br (raA_br (raA_leaf sX12_code_31) (raA_leaf sX12_code_32)) (raA_br (raA_leaf sX12_code_35) (raA_leaf sX12_code_38)))) (raA_br (raA_br (raA_br (raA_leaf sX12_code_39) (raA_leaf sX12_code_40)) (raA_br (raA_leaf sX12_code_43) (raA_leaf sX12_code_44))) (raA_br (raA_br (raA_leaf sX12_code_47) (raA_leaf sX12_code_48)) (raA_br (raA_leaf sX12_code_51) (raA_leaf sX12_code_52))))))
theorem sX12_column_0 {h0 : Hp_} : Snd 73 107 h0 (miT TbM) RX12 cX12_column 5 none 0 (i_iload 1 1) := snd_iload_n rfl dX12_column_0
theorem sX12_column_1 {h0 : Hp_} : Snd 73 107 h0 (miT TbM) RX12 cX12_column 5 none 1 (i_const 2 (vI 2)) := snd_iconst dX12_column_1
theorem sX12_column_2 {h0 : Hp_} : Snd 73 107 h0 (miT TbM) RX12 cX12_column 5 none 2 (i_icmp_ne 5 12) := snd_icmp_ne dX12_column_2 rfl
theorem sX12_column_5 {h0 : Hp_} : Snd 73 107 h0 (miT TbM) RX12 cX12_column 5 none 5 (i_aload 6 0) := snd_aload_n rfl dX12_column_5
theorem sX12_column_6 {h0 : Hp_} : Snd 73 107 h0 (miT TbM) RX12 cX12_column 5 none 6 (i_iload 7 2) := snd_iload_n rfl dX12_column_6
theorem sX12_column_7 {h0 : Hp_} : Snd 73 107 h0 (miT TbM) RX12 cX12_column 5 none 7 (i_iload 8 3) := snd_iload_n rfl dX12_column_7
theorem sX12_column_8 {h0 : Hp_} : Snd 73 107 h0 (miT TbM) RX12 cX12_column 5 none 8 (i_cV2 8 11 11) := snd_cV2 (fun hK hd hC ho hs h6 h7 h8 kk => iv_X12_277 hK (mcM_8 hC) ho hs ⟨hd, by show _ ≤ 40 * (_ + 1); omega⟩ (Nat.le_refl _) h6 h7 h8 ⟨Nat.le_refl _, Nat.le_refl _⟩ dX12_column_8 kk)
theorem sX12_column_11 {h0 : Hp_} : Snd 73 107 h0 (miT TbM) RX12 cX12_column 5 none 11 (i_vret) := snd_vret dX12_column_11
theorem sX12_column_12 {h0 : Hp_} : Snd 73 107 h0 (miT TbM) RX12 cX12_column 5 none 12 (i_iload 13 3) := snd_iload_n rfl dX12_column_12
theorem sX12_column_13 {h0 : Hp_} : Snd 73 107 h0 (miT TbM) RX12 cX12_column 5 none 13 (i_istore 15 4) := snd_istore (by decide) dX12_column_13
theorem sX12_column_15 {h0 : Hp_} : Snd 73 107 h0 (miT TbM) RX12 cX12_column 5 none 15 (i_iload 17 4) := snd_iload dX12_column_15
theorem sX12_column_17 {h0 : Hp_} : Snd 73 107 h0 (miT TbM) RX12 cX12_column 5 none 17 (i_iload 18 3) := snd_iload_n rfl dX12_column_17
theorem sX12_column_18 {h0 : Hp_} : Snd 73 107 h0 (miT TbM) RX12 cX12_column 5 none 18 (i_const 19 (vI 4)) := snd_iconst dX12_column_18
theorem sX12_column_19 {h0 : Hp_} : Snd 73 107 h0 (miT TbM) RX12 cX12_column 5 none 19 (i_iadd 20) := snd_iadd dX12_column_19
theorem sX12_column_20 {h0 : Hp_} : Snd 73 107 h0 (miT TbM) RX12 cX12_column 5 none 20 (i_icmp_ge 23 64) := snd_icmp_ge dX12_column_20 rfl
theorem sX12_column_23 {h0 : Hp_} : Snd 73 107 h0 (miT TbM) RX12 cX12_column 5 none 23 (i_iload 25 4) := snd_iload dX12_column_23
theorem sX12_column_25 {h0 : Hp_} : Snd 73 107 h0 (miT TbM) RX12 cX12_column 5 none 25 (i_aload 26 0) := snd_aload_n rfl dX12_column_25
theorem sX12_column_26 {h0 : Hp_} : Snd 73 107 h0 (miT TbM) RX12 cX12_column 5 none 26 (i_getR 11 10 29) := snd_getR rfl (by decide) (by decide) (by decide) (fun hK ho hs hq kk => gf_X12_38 hK ho hs hq rfl dX12_column_26 kk)
theorem sX12_column_29 {h0 : Hp_} : Snd 73 107 h0 (miT TbM) RX12 cX12_column 5 none 29 (i_aload 30 0) := snd_aload_n rfl dX12_column_29
theorem sX12_column_30 {h0 : Hp_} : Snd 73 107 h0 (miT TbM) RX12 cX12_column 5 none 30 (i_getI 11 26 33) := snd_getI hl73 (fun hK ho hs hv kk => gf_X12_246 hK ho hs hv dX12_column_30 kk)
theorem sX12_column_33 {h0 : Hp_} : Snd 73 107 h0 (miT TbM) RX12 cX12_column 5 none 33 (i_iald 73 107 34) := snd_iald dX12_column_33
theorem sX12_column_34 {h0 : Hp_} : Snd 73 107 h0 (miT TbM) RX12 cX12_column 5 none 34 (i_icmp_ge 37 64) := snd_icmp_ge dX12_column_34 rfl
theorem sX12_column_37 {h0 : Hp_} : Snd 73 107 h0 (miT TbM) RX12 cX12_column 5 none 37 (i_iload 38 1) := snd_iload_n rfl dX12_column_37
theorem sX12_column_38 {h0 : Hp_} : Snd 73 107 h0 (miT TbM) RX12 cX12_column 5 none 38 (i_if_ne 41 51) := snd_if_ne dX12_column_38 rfl
theorem sX12_column_41 {h0 : Hp_} : Snd 73 107 h0 (miT TbM) RX12 cX12_column 5 none 41 (i_aload 42 0) := snd_aload_n rfl dX12_column_41
theorem sX12_column_42 {h0 : Hp_} : Snd 73 107 h0 (miT TbM) RX12 cX12_column 5 none 42 (i_iload 43 2) := snd_iload_n rfl dX12_column_42
theorem sX12_column_43 {h0 : Hp_} : Snd 73 107 h0 (miT TbM) RX12 cX12_column 5 none 43 (i_iload 45 4) := snd_iload dX12_column_43
theorem sX12_column_45 {h0 : Hp_} : Snd 73 107 h0 (miT TbM) RX12 cX12_column 5 none 45 (i_cV2 38 11 48) := snd_cV2 (fun hK hd hC ho hs h6 h7 h8 kk => iv_X12_280 hK (mcM_38 hC) ho hs ⟨hd, by show _ ≤ 40 * (_ + 1); omega⟩ (Nat.le_refl _) h6 h7 h8 ⟨Nat.le_refl _, Nat.le_refl _⟩ dX12_column_45 kk)
theorem sX12_column_48 {h0 : Hp_} : Snd 73 107 h0 (miT TbM) RX12 cX12_column 5 none 48 (i_goto 58) := snd_goto dX12_column_48 rfl
theorem sX12_column_51 {h0 : Hp_} : Snd 73 107 h0 (miT TbM) RX12 cX12_column 5 none 51 (i_aload 52 0) := snd_aload_n rfl dX12_column_51
theorem sX12_column_52 {h0 : Hp_} : Snd 73 107 h0 (miT TbM) RX12 cX12_column 5 none 52 (i_iload 53 2) := snd_iload_n rfl dX12_column_52
theorem sX12_column_53 {h0 : Hp_} : Snd 73 107 h0 (miT TbM) RX12 cX12_column 5 none 53 (i_iload 55 4) := snd_iload dX12_column_53
theorem sX12_column_55 {h0 : Hp_} : Snd 73 107 h0 (miT TbM) RX12 cX12_column 5 none 55 (i_cV2 35 11 58) := snd_cV2 (fun hK hd hC ho hs h6 h7 h8 kk => iv_X12_283 hK (mcM_35 hC) ho hs ⟨hd, by show _ ≤ 40 * (_ + 1); omega⟩ (Nat.le_refl _) h6 h7 h8 ⟨Nat.le_refl _, Nat.le_refl _⟩ dX12_column_55 kk)
theorem sX12_column_58 {h0 : Hp_} : Snd 73 107 h0 (miT TbM) RX12 cX12_column 5 none 58 (i_iinc 61 4 1) := snd_iinc (by decide) dX12_column_58
theorem sX12_column_61 {h0 : Hp_} : Snd 73 107 h0 (miT TbM) RX12 cX12_column 5 none 61 (i_goto 15) := snd_goto dX12_column_61 rfl
theorem sX12_column_64 {h0 : Hp_} : Snd 73 107 h0 (miT TbM) RX12 cX12_column 5 none 64 (i_vret) := snd_vret dX12_column_64
theorem kX12_column {h0 : Hp_} : raA (okI 73 107 h0 (miT TbM) (yX12_column, cX12_column, 5, none)) tX12_column := (raA_br (raA_br (raA_br (raA_br (raA_br (raA_leaf sX12_column_0) (raA_leaf sX12_column_1)) (raA_br (raA_leaf sX12_column_2) (raA_leaf sX12_column_5))) (raA_br (raA_br (raA_leaf sX12_column_6) (raA_leaf sX12_column_7)) (raA_br (raA_leaf sX12_column_8) (raA_br (raA_leaf sX12_column_11) (raA_leaf sX12_column_12))))) (raA_br (raA_br (raA_br (raA_leaf sX12_column_13) (raA_leaf sX12_column_15)) (raA_br (raA_leaf sX12_column_17) (raA_leaf sX12_column_18))) (raA_br (raA_br (raA_leaf sX12_column_19) (raA_leaf sX12_column_20)) (raA_br (raA_leaf sX12_column_23) (raA_br (raA_leaf sX12_column_25) (raA_leaf sX12_column_26)))))) (raA_br (raA_br (raA_br (raA_br (raA_leaf sX12_column_29) (raA_leaf sX12_column_30)) (raA_br (raA_leaf sX12_column_33) (raA_leaf sX12_column_34))) (raA_br (raA_br (raA_leaf sX12_column_37) (raA_leaf sX12_column_38)) (raA_br (raA_leaf sX12_column_41) (raA_br (raA_leaf sX12_column_42) (raA_leaf sX12_column_43))))) (raA_br (raA_br (raA_br (raA_leaf sX12_column_45) (raA_leaf sX12_column_48)) (raA_br (raA_leaf sX12_column_51) (raA_leaf sX12_column_52))) (raA_br (raA_br (raA_leaf sX12_column_53) (raA_leaf sX12_column_55)) (raA_br (raA_leaf sX12_column_58) (raA_br (raA_leaf sX12_column_61) (raA_leaf sX12_column_64)))))))
theorem sX12_columns_0 {h0 : Hp_} : Snd 73 107 h0 (miT TbM) RX12 cX12_columns 5 none 0 (i_const 1 (vI 0)) := snd_iconst dX12_columns_0
theorem sX12_columns_1 {h0 : Hp_} : Snd 73 107 h0 (miT TbM) RX12 cX12_columns 5 none 1 (i_istore 3 4) := snd_istore (by decide) dX12_columns_1
theorem sX12_columns_3 {h0 : Hp_} : Snd 73 107 h0 (miT TbM) RX12 cX12_columns 5 none 3 (i_iload 5 4) := snd_iload dX12_columns_3
theorem sX12_columns_5 {h0 : Hp_} : Snd 73 107 h0 (miT TbM) RX12 cX12_columns 5 none 5 (i_iload 6 1) := snd_iload_n rfl dX12_columns_5
theorem sX12_columns_6 {h0 : Hp_} : Snd 73 107 h0 (miT TbM) RX12 cX12_columns 5 none 6 (i_icmp_ge 9 25) := snd_icmp_ge dX12_columns_6 rfl
theorem sX12_columns_9 {h0 : Hp_} : Snd 73 107 h0 (miT TbM) RX12 cX12_columns 5 none 9 (i_aload 10 0) := snd_aload_n rfl dX12_columns_9
theorem sX12_columns_10 {h0 : Hp_} : Snd 73 107 h0 (miT TbM) RX12 cX12_columns 5 none 10 (i_iload 12 4) := snd_iload dX12_columns_10
theorem sX12_columns_12 {h0 : Hp_} : Snd 73 107 h0 (miT TbM) RX12 cX12_columns 5 none 12 (i_const 14 (vI 8)) := snd_bipush (by decide) dX12_columns_12
theorem sX12_columns_14 {h0 : Hp_} : Snd 73 107 h0 (miT TbM) RX12 cX12_columns 5 none 14 (i_iload 15 2) := snd_iload_n rfl dX12_columns_14
theorem sX12_columns_15 {h0 : Hp_} : Snd 73 107 h0 (miT TbM) RX12 cX12_columns 5 none 15 (i_iload 16 3) := snd_iload_n rfl dX12_columns_15
theorem sX12_columns_16 {h0 : Hp_} : Snd 73 107 h0 (miT TbM) RX12 cX12_columns 5 none 16 (i_cV4 48 11 19) := snd_cV4 (fun hK hd hC ho hs h6 h7 h8 kk => iv_X12_149 hK (mcM_48 hC) ho hs ⟨hd, by show _ ≤ 40 * (_ + 1); omega⟩ (Nat.le_refl _) h6 h7 h8 ⟨Nat.le_refl _, Nat.le_refl _⟩ dX12_columns_16 kk)
theorem sX12_columns_19 {h0 : Hp_} : Snd 73 107 h0 (miT TbM) RX12 cX12_columns 5 none 19 (i_iinc 22 4 1) := snd_iinc (by decide) dX12_columns_19
theorem sX12_columns_22 {h0 : Hp_} : Snd 73 107 h0 (miT TbM) RX12 cX12_columns 5 none 22 (i_goto 3) := snd_goto dX12_columns_22 rfl
theorem sX12_columns_25 {h0 : Hp_} : Snd 73 107 h0 (miT TbM) RX12 cX12_columns 5 none 25 (i_vret) := snd_vret dX12_columns_25
theorem kX12_columns {h0 : Hp_} : raA (okI 73 107 h0 (miT TbM) (yX12_columns, cX12_columns, 5, none)) tX12_columns := (raA_br (raA_br (raA_br (raA_leaf sX12_columns_0) (raA_br (raA_leaf sX12_columns_1) (raA_leaf sX12_columns_3))) (raA_br (raA_br (raA_leaf sX12_columns_5) (raA_leaf sX12_columns_6)) (raA_br (raA_leaf sX12_columns_9) (raA_leaf sX12_columns_10)))) (raA_br (raA_br (raA_leaf sX12_columns_12) (raA_br (raA_leaf sX12_columns_14) (raA_leaf sX12_columns_15))) (raA_br (raA_br (raA_leaf sX12_columns_16) (raA_leaf sX12_columns_19)) (raA_br (raA_leaf sX12_columns_22) (raA_leaf sX12_columns_25)))))
theorem sX12_context_0 {h0 : Hp_} : Snd 73 107 h0 (miT TbM) RX12 cX12_context 8 (some .int) 0 (i_iload 1 1) := snd_iload_n rfl dX12_context_0
theorem sX12_context_1 {h0 : Hp_} : Snd 73 107 h0 (miT TbM) RX12 cX12_context 8 (some .int) 1 (i_iload 2 2) := snd_iload_n rfl dX12_context_1
theorem sX12_context_2 {h0 : Hp_} : Snd 73 107 h0 (miT TbM) RX12 cX12_context 8 (some .int) 2 (i_cS2 37 5) := snd_cS2 (fun hK hd hC h6 h7 h8 kk => iv_X12_234 hK (mcM_37 hC) ⟨hd, by show _ ≤ 40 * (_ + 1); omega⟩ (Nat.le_refl _) h6 h7 h8 ⟨Nat.le_refl _, Nat.le_refl _⟩ dX12_context_2 kk)
theorem sX12_context_5 {h0 : Hp_} : Snd 73 107 h0 (miT TbM) RX12 cX12_context 8 (some .int) 5 (i_istore 6 3) := snd_istore_n rfl (by decide) dX12_context_5
theorem sX12_context_6 {h0 : Hp_} : Snd 73 107 h0 (miT TbM) RX12 cX12_context 8 (some .int) 6 (i_aload 7 0) := snd_aload_n rfl dX12_context_6
theorem sX12_context_7 {h0 : Hp_} : Snd 73 107 h0 (miT TbM) RX12 cX12_context 8 (some .int) 7 (i_iload 8 3) := snd_iload_n rfl dX12_context_7
theorem sX12_context_8 {h0 : Hp_} : Snd 73 107 h0 (miT TbM) RX12 cX12_context 8 (some .int) 8 (i_cV1 22 11 11) := snd_cV1 (fun hK hd hC ho hs h6 h7 h8 kk => iv_X12_237 hK (mcM_22 hC) ho hs ⟨hd, by show _ ≤ 40 * (_ + 1); omega⟩ (Nat.le_refl _) h6 h7 h8 ⟨Nat.le_refl _, Nat.le_refl _⟩ dX12_context_8 kk)
theorem sX12_context_11 {h0 : Hp_} : Snd 73 107 h0 (miT TbM) RX12 cX12_context 8 (some .int) 11 (i_istore 13 4) := snd_istore (by decide) dX12_context_11
theorem sX12_context_13 {h0 : Hp_} : Snd 73 107 h0 (miT TbM) RX12 cX12_context 8 (some .int) 13 (i_aload 14 0) := snd_aload_n rfl dX12_context_13
theorem sX12_context_14 {h0 : Hp_} : Snd 73 107 h0 (miT TbM) RX12 cX12_context 8 (some .int) 14 (i_iload 15 3) := snd_iload_n rfl dX12_context_14
theorem sX12_context_15 {h0 : Hp_} : Snd 73 107 h0 (miT TbM) RX12 cX12_context 8 (some .int) 15 (i_cV1 21 11 18) := snd_cV1 (fun hK hd hC ho hs h6 h7 h8 kk => iv_X12_240 hK (mcM_21 hC) ho hs ⟨hd, by show _ ≤ 40 * (_ + 1); omega⟩ (Nat.le_refl _) h6 h7 h8 ⟨Nat.le_refl _, Nat.le_refl _⟩ dX12_context_15 kk)
theorem sX12_context_18 {h0 : Hp_} : Snd 73 107 h0 (miT TbM) RX12 cX12_context 8 (some .int) 18 (i_istore 20 5) := snd_istore (by decide) dX12_context_18
theorem sX12_context_20 {h0 : Hp_} : Snd 73 107 h0 (miT TbM) RX12 cX12_context 8 (some .int) 20 (i_aload 21 0) := snd_aload_n rfl dX12_context_20
theorem sX12_context_21 {h0 : Hp_} : Snd 73 107 h0 (miT TbM) RX12 cX12_context 8 (some .int) 21 (i_iload 22 3) := snd_iload_n rfl dX12_context_21
theorem sX12_context_22 {h0 : Hp_} : Snd 73 107 h0 (miT TbM) RX12 cX12_context 8 (some .int) 22 (i_cV1 0 11 25) := snd_cV1 (fun hK hd hC ho hs h6 h7 h8 kk => iv_X12_243 hK (mcM_0 hC) ho hs ⟨hd, by show _ ≤ 40 * (_ + 1); omega⟩ (Nat.le_refl _) h6 h7 h8 ⟨Nat.le_refl _, Nat.le_refl _⟩ dX12_context_22 kk)
theorem sX12_context_25 {h0 : Hp_} : Snd 73 107 h0 (miT TbM) RX12 cX12_context 8 (some .int) 25 (i_istore 27 6) := snd_istore (by decide) dX12_context_25
theorem sX12_context_27 {h0 : Hp_} : Snd 73 107 h0 (miT TbM) RX12 cX12_context 8 (some .int) 27 (i_aload 28 0) := snd_aload_n rfl dX12_context_27
theorem sX12_context_28 {h0 : Hp_} : Snd 73 107 h0 (miT TbM) RX12 cX12_context 8 (some .int) 28 (i_getR 11 11 31) := snd_getR rfl (by decide) (by decide) (by decide) (fun hK ho hs hq kk => gf_X12_41 hK ho hs hq rfl dX12_context_28 kk)
theorem sX12_context_31 {h0 : Hp_} : Snd 73 107 h0 (miT TbM) RX12 cX12_context 8 (some .int) 31 (i_aload 32 0) := snd_aload_n rfl dX12_context_31
theorem sX12_context_32 {h0 : Hp_} : Snd 73 107 h0 (miT TbM) RX12 cX12_context 8 (some .int) 32 (i_getI 11 26 35) := snd_getI hl73 (fun hK ho hs hv kk => gf_X12_246 hK ho hs hv dX12_context_32 kk)
theorem sX12_context_35 {h0 : Hp_} : Snd 73 107 h0 (miT TbM) RX12 cX12_context 8 (some .int) 35 (i_iald 73 107 36) := snd_iald dX12_context_35
theorem sX12_context_36 {h0 : Hp_} : Snd 73 107 h0 (miT TbM) RX12 cX12_context 8 (some .int) 36 (i_const 37 (vI 2)) := snd_iconst dX12_context_36
theorem sX12_context_37 {h0 : Hp_} : Snd 73 107 h0 (miT TbM) RX12 cX12_context 8 (some .int) 37 (i_icmp_ne 40 100) := snd_icmp_ne dX12_context_37 rfl
theorem sX12_context_40 {h0 : Hp_} : Snd 73 107 h0 (miT TbM) RX12 cX12_context 8 (some .int) 40 (i_iload 42 4) := snd_iload dX12_context_40
theorem sX12_context_42 {h0 : Hp_} : Snd 73 107 h0 (miT TbM) RX12 cX12_context 8 (some .int) 42 (i_iload 44 5) := snd_iload dX12_context_42
theorem sX12_context_44 {h0 : Hp_} : Snd 73 107 h0 (miT TbM) RX12 cX12_context 8 (some .int) 44 (i_iadd 45) := snd_iadd dX12_context_44
theorem sX12_context_45 {h0 : Hp_} : Snd 73 107 h0 (miT TbM) RX12 cX12_context 8 (some .int) 45 (i_const 46 (vI 2)) := snd_iconst dX12_context_45
theorem sX12_context_46 {h0 : Hp_} : Snd 73 107 h0 (miT TbM) RX12 cX12_context 8 (some .int) 46 (i_icmp_le 49 53) := snd_icmp_le dX12_context_46 rfl
theorem sX12_context_49 {h0 : Hp_} : Snd 73 107 h0 (miT TbM) RX12 cX12_context 8 (some .int) 49 (i_const 50 (vI 2)) := snd_iconst dX12_context_49
theorem sX12_context_50 {h0 : Hp_} : Snd 73 107 h0 (miT TbM) RX12 cX12_context 8 (some .int) 50 (i_goto 58) := snd_goto dX12_context_50 rfl
theorem sX12_context_53 {h0 : Hp_} : Snd 73 107 h0 (miT TbM) RX12 cX12_context 8 (some .int) 53 (i_iload 55 4) := snd_iload dX12_context_53
theorem sX12_context_55 {h0 : Hp_} : Snd 73 107 h0 (miT TbM) RX12 cX12_context 8 (some .int) 55 (i_iload 57 5) := snd_iload dX12_context_55
theorem sX12_context_57 {h0 : Hp_} : Snd 73 107 h0 (miT TbM) RX12 cX12_context 8 (some .int) 57 (i_iadd 58) := snd_iadd dX12_context_57
theorem sX12_context_58 {h0 : Hp_} : Snd 73 107 h0 (miT TbM) RX12 cX12_context 8 (some .int) 58 (i_istore 60 7) := snd_istore (by decide) dX12_context_58
theorem sX12_context_60 {h0 : Hp_} : Snd 73 107 h0 (miT TbM) RX12 cX12_context 8 (some .int) 60 (i_iload 62 6) := snd_iload dX12_context_60
theorem sX12_context_62 {h0 : Hp_} : Snd 73 107 h0 (miT TbM) RX12 cX12_context 8 (some .int) 62 (i_const 63 (vI 2)) := snd_iconst dX12_context_62
theorem sX12_context_63 {h0 : Hp_} : Snd 73 107 h0 (miT TbM) RX12 cX12_context 8 (some .int) 63 (i_icmp_le 66 71) := snd_icmp_le dX12_context_63 rfl
theorem sX12_context_66 {h0 : Hp_} : Snd 73 107 h0 (miT TbM) RX12 cX12_context 8 (some .int) 66 (i_const 68 (vI 8)) := snd_bipush (by decide) dX12_context_66
theorem sX12_context_68 {h0 : Hp_} : Snd 73 107 h0 (miT TbM) RX12 cX12_context 8 (some .int) 68 (i_goto 99) := snd_goto dX12_context_68 rfl
theorem sX12_context_71 {h0 : Hp_} : Snd 73 107 h0 (miT TbM) RX12 cX12_context 8 (some .int) 71 (i_iload 73 6) := snd_iload dX12_context_71
theorem sX12_context_73 {h0 : Hp_} : Snd 73 107 h0 (miT TbM) RX12 cX12_context 8 (some .int) 73 (i_const 74 (vI 2)) := snd_iconst dX12_context_73
theorem sX12_context_74 {h0 : Hp_} : Snd 73 107 h0 (miT TbM) RX12 cX12_context 8 (some .int) 74 (i_icmp_ne 77 92) := snd_icmp_ne dX12_context_74 rfl
theorem sX12_context_77 {h0 : Hp_} : Snd 73 107 h0 (miT TbM) RX12 cX12_context 8 (some .int) 77 (i_iload 79 7) := snd_iload dX12_context_77
theorem sX12_context_79 {h0 : Hp_} : Snd 73 107 h0 (miT TbM) RX12 cX12_context 8 (some .int) 79 (i_if_le 82 87) := snd_if_le dX12_context_79 rfl
theorem sX12_context_82 {h0 : Hp_} : Snd 73 107 h0 (miT TbM) RX12 cX12_context 8 (some .int) 82 (i_const 84 (vI 7)) := snd_bipush (by decide) dX12_context_82
theorem sX12_context_84 {h0 : Hp_} : Snd 73 107 h0 (miT TbM) RX12 cX12_context 8 (some .int) 84 (i_goto 99) := snd_goto dX12_context_84 rfl
theorem sX12_context_87 {h0 : Hp_} : Snd 73 107 h0 (miT TbM) RX12 cX12_context 8 (some .int) 87 (i_const 89 (vI 6)) := snd_bipush (by decide) dX12_context_87
theorem sX12_context_89 {h0 : Hp_} : Snd 73 107 h0 (miT TbM) RX12 cX12_context 8 (some .int) 89 (i_goto 99) := snd_goto dX12_context_89 rfl
theorem sX12_context_92 {h0 : Hp_} : Snd 73 107 h0 (miT TbM) RX12 cX12_context 8 (some .int) 92 (i_const 93 (vI 3)) := snd_iconst dX12_context_92
theorem sX12_context_93 {h0 : Hp_} : Snd 73 107 h0 (miT TbM) RX12 cX12_context 8 (some .int) 93 (i_iload 95 6) := snd_iload dX12_context_93
theorem sX12_context_95 {h0 : Hp_} : Snd 73 107 h0 (miT TbM) RX12 cX12_context 8 (some .int) 95 (i_imul 96) := snd_imul dX12_context_95
theorem sX12_context_96 {h0 : Hp_} : Snd 73 107 h0 (miT TbM) RX12 cX12_context 8 (some .int) 96 (i_iload 98 7) := snd_iload dX12_context_96
theorem sX12_context_98 {h0 : Hp_} : Snd 73 107 h0 (miT TbM) RX12 cX12_context 8 (some .int) 98 (i_iadd 99) := snd_iadd dX12_context_98
theorem sX12_context_99 {h0 : Hp_} : Snd 73 107 h0 (miT TbM) RX12 cX12_context 8 (some .int) 99 (i_iret) := snd_iret dX12_context_99
theorem sX12_context_100 {h0 : Hp_} : Snd 73 107 h0 (miT TbM) RX12 cX12_context 8 (some .int) 100 (i_aload 101 0) := snd_aload_n rfl dX12_context_100
theorem sX12_context_101 {h0 : Hp_} : Snd 73 107 h0 (miT TbM) RX12 cX12_context 8 (some .int) 101 (i_getR 11 11 104) := snd_getR rfl (by decide) (by decide) (by decide) (fun hK ho hs hq kk => gf_X12_41 hK ho hs hq rfl dX12_context_101 kk)
theorem sX12_context_104 {h0 : Hp_} : Snd 73 107 h0 (miT TbM) RX12 cX12_context 8 (some .int) 104 (i_aload 105 0) := snd_aload_n rfl dX12_context_104
theorem sX12_context_105 {h0 : Hp_} : Snd 73 107 h0 (miT TbM) RX12 cX12_context 8 (some .int) 105 (i_getI 11 26 108) := snd_getI hl73 (fun hK ho hs hv kk => gf_X12_246 hK ho hs hv dX12_context_105 kk)
theorem sX12_context_108 {h0 : Hp_} : Snd 73 107 h0 (miT TbM) RX12 cX12_context 8 (some .int) 108 (i_iald 73 107 109) := snd_iald dX12_context_108
theorem sX12_context_109 {h0 : Hp_} : Snd 73 107 h0 (miT TbM) RX12 cX12_context 8 (some .int) 109 (i_const 110 (vI 1)) := snd_iconst dX12_context_109
theorem sX12_context_110 {h0 : Hp_} : Snd 73 107 h0 (miT TbM) RX12 cX12_context 8 (some .int) 110 (i_icmp_ne 113 125) := snd_icmp_ne dX12_context_110 rfl
theorem sX12_context_113 {h0 : Hp_} : Snd 73 107 h0 (miT TbM) RX12 cX12_context 8 (some .int) 113 (i_iload 115 4) := snd_iload dX12_context_113
theorem sX12_context_115 {h0 : Hp_} : Snd 73 107 h0 (miT TbM) RX12 cX12_context 8 (some .int) 115 (i_istore 117 7) := snd_istore (by decide) dX12_context_115
theorem sX12_context_117 {h0 : Hp_} : Snd 73 107 h0 (miT TbM) RX12 cX12_context 8 (some .int) 117 (i_iload 119 5) := snd_iload dX12_context_117
theorem sX12_context_119 {h0 : Hp_} : Snd 73 107 h0 (miT TbM) RX12 cX12_context 8 (some .int) 119 (i_istore 121 4) := snd_istore (by decide) dX12_context_119
theorem sX12_context_121 {h0 : Hp_} : Snd 73 107 h0 (miT TbM) RX12 cX12_context 8 (some .int) 121 (i_iload 123 7) := snd_iload dX12_context_121
theorem sX12_context_123 {h0 : Hp_} : Snd 73 107 h0 (miT TbM) RX12 cX12_context 8 (some .int) 123 (i_istore 125 5) := snd_istore (by decide) dX12_context_123
theorem sX12_context_125 {h0 : Hp_} : Snd 73 107 h0 (miT TbM) RX12 cX12_context 8 (some .int) 125 (i_iload 127 4) := snd_iload dX12_context_125
theorem sX12_context_127 {h0 : Hp_} : Snd 73 107 h0 (miT TbM) RX12 cX12_context 8 (some .int) 127 (i_const 128 (vI 2)) := snd_iconst dX12_context_127
theorem sX12_context_128 {h0 : Hp_} : Snd 73 107 h0 (miT TbM) RX12 cX12_context 8 (some .int) 128 (i_icmp_ne 131 136) := snd_icmp_ne dX12_context_128 rfl
theorem sX12_context_131 {h0 : Hp_} : Snd 73 107 h0 (miT TbM) RX12 cX12_context 8 (some .int) 131 (i_const 133 (vI 8)) := snd_bipush (by decide) dX12_context_131
theorem sX12_context_133 {h0 : Hp_} : Snd 73 107 h0 (miT TbM) RX12 cX12_context 8 (some .int) 133 (i_goto 198) := snd_goto dX12_context_133 rfl
theorem sX12_context_136 {h0 : Hp_} : Snd 73 107 h0 (miT TbM) RX12 cX12_context 8 (some .int) 136 (i_iload 138 4) := snd_iload dX12_context_136
theorem sX12_context_138 {h0 : Hp_} : Snd 73 107 h0 (miT TbM) RX12 cX12_context 8 (some .int) 138 (i_const 139 (vI 1)) := snd_iconst dX12_context_138
theorem sX12_context_139 {h0 : Hp_} : Snd 73 107 h0 (miT TbM) RX12 cX12_context 8 (some .int) 139 (i_icmp_ne 142 166) := snd_icmp_ne dX12_context_139 rfl
theorem sX12_context_142 {h0 : Hp_} : Snd 73 107 h0 (miT TbM) RX12 cX12_context 8 (some .int) 142 (i_iload 144 5) := snd_iload dX12_context_142
theorem sX12_context_144 {h0 : Hp_} : Snd 73 107 h0 (miT TbM) RX12 cX12_context 8 (some .int) 144 (i_if_le 147 152) := snd_if_le dX12_context_144 rfl
theorem sX12_context_147 {h0 : Hp_} : Snd 73 107 h0 (miT TbM) RX12 cX12_context 8 (some .int) 147 (i_const 149 (vI 7)) := snd_bipush (by decide) dX12_context_147
theorem sX12_context_149 {h0 : Hp_} : Snd 73 107 h0 (miT TbM) RX12 cX12_context 8 (some .int) 149 (i_goto 198) := snd_goto dX12_context_149 rfl
theorem sX12_context_152 {h0 : Hp_} : Snd 73 107 h0 (miT TbM) RX12 cX12_context 8 (some .int) 152 (i_iload 154 6) := snd_iload dX12_context_152
theorem sX12_context_154 {h0 : Hp_} : Snd 73 107 h0 (miT TbM) RX12 cX12_context 8 (some .int) 154 (i_if_le 157 162) := snd_if_le dX12_context_154 rfl
theorem sX12_context_157 {h0 : Hp_} : Snd 73 107 h0 (miT TbM) RX12 cX12_context 8 (some .int) 157 (i_const 159 (vI 6)) := snd_bipush (by decide) dX12_context_157
theorem sX12_context_159 {h0 : Hp_} : Snd 73 107 h0 (miT TbM) RX12 cX12_context 8 (some .int) 159 (i_goto 198) := snd_goto dX12_context_159 rfl
theorem sX12_context_162 {h0 : Hp_} : Snd 73 107 h0 (miT TbM) RX12 cX12_context 8 (some .int) 162 (i_const 163 (vI 5)) := snd_iconst dX12_context_162
theorem sX12_context_163 {h0 : Hp_} : Snd 73 107 h0 (miT TbM) RX12 cX12_context 8 (some .int) 163 (i_goto 198) := snd_goto dX12_context_163 rfl
theorem sX12_context_166 {h0 : Hp_} : Snd 73 107 h0 (miT TbM) RX12 cX12_context 8 (some .int) 166 (i_iload 168 5) := snd_iload dX12_context_166
theorem sX12_context_168 {h0 : Hp_} : Snd 73 107 h0 (miT TbM) RX12 cX12_context 8 (some .int) 168 (i_const 169 (vI 2)) := snd_iconst dX12_context_168
theorem sX12_context_169 {h0 : Hp_} : Snd 73 107 h0 (miT TbM) RX12 cX12_context 8 (some .int) 169 (i_icmp_ne 172 176) := snd_icmp_ne dX12_context_169 rfl
theorem sX12_context_172 {h0 : Hp_} : Snd 73 107 h0 (miT TbM) RX12 cX12_context 8 (some .int) 172 (i_const 173 (vI 4)) := snd_iconst dX12_context_172
theorem sX12_context_173 {h0 : Hp_} : Snd 73 107 h0 (miT TbM) RX12 cX12_context 8 (some .int) 173 (i_goto 198) := snd_goto dX12_context_173 rfl
theorem sX12_context_176 {h0 : Hp_} : Snd 73 107 h0 (miT TbM) RX12 cX12_context 8 (some .int) 176 (i_iload 178 5) := snd_iload dX12_context_176
theorem sX12_context_178 {h0 : Hp_} : Snd 73 107 h0 (miT TbM) RX12 cX12_context 8 (some .int) 178 (i_const 179 (vI 1)) := snd_iconst dX12_context_178
theorem sX12_context_179 {h0 : Hp_} : Snd 73 107 h0 (miT TbM) RX12 cX12_context 8 (some .int) 179 (i_icmp_ne 182 186) := snd_icmp_ne dX12_context_179 rfl
theorem sX12_context_182 {h0 : Hp_} : Snd 73 107 h0 (miT TbM) RX12 cX12_context 8 (some .int) 182 (i_const 183 (vI 3)) := snd_iconst dX12_context_182
theorem sX12_context_183 {h0 : Hp_} : Snd 73 107 h0 (miT TbM) RX12 cX12_context 8 (some .int) 183 (i_goto 198) := snd_goto dX12_context_183 rfl
theorem sX12_context_186 {h0 : Hp_} : Snd 73 107 h0 (miT TbM) RX12 cX12_context 8 (some .int) 186 (i_iload 188 6) := snd_iload dX12_context_186
theorem sX12_context_188 {h0 : Hp_} : Snd 73 107 h0 (miT TbM) RX12 cX12_context 8 (some .int) 188 (i_const 189 (vI 1)) := snd_iconst dX12_context_188
theorem sX12_context_189 {h0 : Hp_} : Snd 73 107 h0 (miT TbM) RX12 cX12_context 8 (some .int) 189 (i_icmp_le 192 196) := snd_icmp_le dX12_context_189 rfl
theorem sX12_context_192 {h0 : Hp_} : Snd 73 107 h0 (miT TbM) RX12 cX12_context 8 (some .int) 192 (i_const 193 (vI 2)) := snd_iconst dX12_context_192
theorem sX12_context_193 {h0 : Hp_} : Snd 73 107 h0 (miT TbM) RX12 cX12_context 8 (some .int) 193 (i_goto 198) := snd_goto dX12_context_193 rfl
theorem sX12_context_196 {h0 : Hp_} : Snd 73 107 h0 (miT TbM) RX12 cX12_context 8 (some .int) 196 (i_iload 198 6) := snd_iload dX12_context_196
theorem sX12_context_198 {h0 : Hp_} : Snd 73 107 h0 (miT TbM) RX12 cX12_context 8 (some .int) 198 (i_iret) := snd_iret dX12_context_198
theorem kX12_context {h0 : Hp_} : raA (okI 73 107 h0 (miT TbM) (yX12_context, cX12_context, 8, (some .int))) tX12_context := (raA_br (raA_br (raA_br (raA_br (raA_br (raA_br (raA_leaf sX12_context_0) (raA_br (raA_leaf sX12_context_1) (raA_leaf sX12_context_2))) (raA_br (raA_leaf sX12_context_5) (raA_br (raA_leaf sX12_context_6) (raA_leaf sX12_context_7)))) (raA_br (raA_br (raA_leaf sX12_context_8) (raA_br (raA_leaf sX12_context_11) (raA_leaf sX12_context_13))) (raA_br (raA_leaf sX12_context_14) (raA_br (raA_leaf sX12_context_15) (raA_leaf sX12_context_18))))) (raA_br (raA_br (raA_br (raA_leaf sX12_context_20) (raA_br (raA_leaf sX12_context_21) (raA_leaf sX12_context_22))) (raA_br (raA_leaf sX12_context_25) (raA_br (raA_leaf sX12_context_27) (raA_leaf sX12_context_28)))) (raA_br (raA_br (raA_leaf sX12_context_31) (raA_br (raA_leaf sX12_context_32) (raA_leaf sX12_context_35))) (raA_br (raA_br (raA_leaf sX12_context_36) (raA_leaf sX12_context_37)) (raA_br (raA_leaf sX12_context_40) (raA_leaf sX12_context_42)))))) (raA_br (raA_br (raA_br (raA_br (raA_leaf sX12_context_44) (raA_br (raA_leaf sX12_context_45) (raA_leaf sX12_context_46))) (raA_br (raA_leaf sX12_context_49) (raA_br (raA_leaf sX12_context_50) (raA_leaf sX12_context_53)))) (raA_br (raA_br (raA_leaf sX12_context_55) (raA_br (raA_leaf sX12_context_57) (raA_leaf sX12_context_58))) (raA_br (raA_br (raA_leaf sX12_context_60) (raA_leaf sX12_context_62)) (raA_br (raA_leaf sX12_context_63) (raA_leaf sX12_context_66))))) (raA_br (raA_br (raA_br (raA_leaf sX12_context_68) (raA_br (raA_leaf sX12_context_71) (raA_leaf sX12_context_73))) (raA_br (raA_leaf sX12_context_74) (raA_br (raA_leaf sX12_context_77) (raA_leaf sX12_context_79)))) (raA_br (raA_br (raA_leaf sX12_context_82) (raA_br (raA_leaf sX12_context_84) (raA_leaf sX12_context_87))) (raA_br (raA_br (raA_leaf sX12_context_89) (raA_leaf sX12_context_92)) (raA_br (raA_leaf sX12_context_93) (raA_leaf sX12_context_95))))))) (raA_br (raA_br (raA_br (raA_br (raA_br (raA_leaf sX12_context_96) (raA_br (raA_leaf sX12_context_98) (raA_leaf sX12_context_99))) (raA_br (raA_leaf sX12_context_100) (raA_br (raA_leaf sX12_context_101) (raA_leaf sX12_context_104)))) (raA_br (raA_br (raA_leaf sX12_context_105) (raA_br (raA_leaf sX12_context_108) (raA_leaf sX12_context_109))) (raA_br (raA_leaf sX12_context_110) (raA_br (raA_leaf sX12_context_113) (raA_leaf sX12_context_115))))) (raA_br (raA_br (raA_br (raA_leaf sX12_context_117) (raA_br (raA_leaf sX12_context_119) (raA_leaf sX12_context_121))) (raA_br (raA_leaf sX12_context_123) (raA_br (raA_leaf sX12_context_125) (raA_leaf sX12_context_127)))) (raA_br (raA_br (raA_leaf sX12_context_128) (raA_br (raA_leaf sX12_context_131) (raA_leaf sX12_context_133))) (raA_br (raA_br (raA_leaf sX12_context_136) (raA_leaf sX12_context_138)) (raA_br (raA_leaf sX12_context_139) (raA_leaf sX12_context_142)))))) (raA_br (raA_br (raA_br (raA_br (raA_leaf sX12_context_144) (raA_br (raA_leaf sX12_context_147) (raA_leaf sX12_context_149))) (raA_br (raA_leaf sX12_context_152) (raA_br (raA_leaf sX12_context_154) (raA_leaf sX12_context_157)))) (raA_br (raA_br (raA_leaf sX12_context_159) (raA_br (raA_leaf sX12_context_162) (raA_leaf sX12_context_163))) (raA_br (raA_br (raA_leaf sX12_context_166) (raA_leaf sX12_context_168)) (raA_br (raA_leaf sX12_context_169) (raA_leaf sX12_context_172))))) (raA_br (raA_br (raA_br (raA_leaf sX12_context_173) (raA_br (raA_leaf sX12_context_176) (raA_leaf sX12_context_178))) (raA_br (raA_leaf sX12_context_179) (raA_br (raA_leaf sX12_context_182) (raA_leaf sX12_context_183)))) (raA_br (raA_br (raA_leaf sX12_context_186) (raA_br (raA_leaf sX12_context_188) (raA_leaf sX12_context_189))) (raA_br (raA_br (raA_leaf sX12_context_192) (raA_leaf sX12_context_193)) (raA_br (raA_leaf sX12_context_196) (raA_leaf sX12_context_198))))))))
theorem sX12_corner_0 {h0 : Hp_} : Snd 73 107 h0 (miT TbM) RX12 cX12_corner 7 (some .int) 0 (i_iload 1 0) := snd_iload_n rfl dX12_corner_0
theorem sX12_corner_1 {h0 : Hp_} : Snd 73 107 h0 (miT TbM) RX12 cX12_corner 7 (some .int) 1 (i_if_ne 4 6) := snd_if_ne dX12_corner_1 rfl
theorem sX12_corner_4 {h0 : Hp_} : Snd 73 107 h0 (miT TbM) RX12 cX12_corner 7 (some .int) 4 (i_const 5 (vI 0)) := snd_iconst dX12_corner_4
theorem sX12_corner_5 {h0 : Hp_} : Snd 73 107 h0 (miT TbM) RX12 cX12_corner 7 (some .int) 5 (i_iret) := snd_iret dX12_corner_5
theorem sX12_corner_6 {h0 : Hp_} : Snd 73 107 h0 (miT TbM) RX12 cX12_corner 7 (some .int) 6 (i_iload 7 3) := snd_iload_n rfl dX12_corner_6
theorem sX12_corner_7 {h0 : Hp_} : Snd 73 107 h0 (miT TbM) RX12 cX12_corner 7 (some .int) 7 (i_iload 8 0) := snd_iload_n rfl dX12_corner_7
theorem sX12_corner_8 {h0 : Hp_} : Snd 73 107 h0 (miT TbM) RX12 cX12_corner 7 (some .int) 8 (i_const 9 (vI 1)) := snd_iconst dX12_corner_8
theorem sX12_corner_9 {h0 : Hp_} : Snd 73 107 h0 (miT TbM) RX12 cX12_corner 7 (some .int) 9 (i_isub 10) := snd_isub dX12_corner_9
theorem sX12_corner_10 {h0 : Hp_} : Snd 73 107 h0 (miT TbM) RX12 cX12_corner 7 (some .int) 10 (i_const 11 (vI 3)) := snd_iconst dX12_corner_10
theorem sX12_corner_11 {h0 : Hp_} : Snd 73 107 h0 (miT TbM) RX12 cX12_corner 7 (some .int) 11 (i_idiv 12) := snd_idiv dX12_corner_11
theorem sX12_corner_12 {h0 : Hp_} : Snd 73 107 h0 (miT TbM) RX12 cX12_corner 7 (some .int) 12 (i_isub 13) := snd_isub dX12_corner_12
theorem sX12_corner_13 {h0 : Hp_} : Snd 73 107 h0 (miT TbM) RX12 cX12_corner 7 (some .int) 13 (i_istore 15 4) := snd_istore (by decide) dX12_corner_13
theorem sX12_corner_15 {h0 : Hp_} : Snd 73 107 h0 (miT TbM) RX12 cX12_corner 7 (some .int) 15 (i_iload 16 0) := snd_iload_n rfl dX12_corner_15
theorem sX12_corner_16 {h0 : Hp_} : Snd 73 107 h0 (miT TbM) RX12 cX12_corner 7 (some .int) 16 (i_const 17 (vI 1)) := snd_iconst dX12_corner_16
theorem sX12_corner_17 {h0 : Hp_} : Snd 73 107 h0 (miT TbM) RX12 cX12_corner 7 (some .int) 17 (i_isub 18) := snd_isub dX12_corner_17
theorem sX12_corner_18 {h0 : Hp_} : Snd 73 107 h0 (miT TbM) RX12 cX12_corner 7 (some .int) 18 (i_const 19 (vI 3)) := snd_iconst dX12_corner_18
theorem sX12_corner_19 {h0 : Hp_} : Snd 73 107 h0 (miT TbM) RX12 cX12_corner 7 (some .int) 19 (i_irem 20) := snd_irem dX12_corner_19
theorem sX12_corner_20 {h0 : Hp_} : Snd 73 107 h0 (miT TbM) RX12 cX12_corner 7 (some .int) 20 (i_const 21 (vI 1)) := snd_iconst dX12_corner_20
theorem sX12_corner_21 {h0 : Hp_} : Snd 73 107 h0 (miT TbM) RX12 cX12_corner 7 (some .int) 21 (i_icmp_ne 24 28) := snd_icmp_ne dX12_corner_21 rfl
theorem sX12_corner_24 {h0 : Hp_} : Snd 73 107 h0 (miT TbM) RX12 cX12_corner 7 (some .int) 24 (i_const 25 (vI 0)) := snd_iconst dX12_corner_24
theorem sX12_corner_25 {h0 : Hp_} : Snd 73 107 h0 (miT TbM) RX12 cX12_corner 7 (some .int) 25 (i_goto 34) := snd_goto dX12_corner_25 rfl
theorem sX12_corner_28 {h0 : Hp_} : Snd 73 107 h0 (miT TbM) RX12 cX12_corner 7 (some .int) 28 (i_iload 29 1) := snd_iload_n rfl dX12_corner_28
theorem sX12_corner_29 {h0 : Hp_} : Snd 73 107 h0 (miT TbM) RX12 cX12_corner 7 (some .int) 29 (i_iload 31 4) := snd_iload dX12_corner_29
theorem sX12_corner_31 {h0 : Hp_} : Snd 73 107 h0 (miT TbM) RX12 cX12_corner 7 (some .int) 31 (i_cS2 26 34) := snd_cS2 (fun hK hd hC h6 h7 h8 kk => iv_X12_153 hK (mcM_26 hC) ⟨hd, by show _ ≤ 40 * (_ + 1); omega⟩ (Nat.le_refl _) h6 h7 h8 ⟨Nat.le_refl _, Nat.le_refl _⟩ dX12_corner_31 kk)
theorem sX12_corner_34 {h0 : Hp_} : Snd 73 107 h0 (miT TbM) RX12 cX12_corner 7 (some .int) 34 (i_istore 36 5) := snd_istore (by decide) dX12_corner_34
theorem sX12_corner_36 {h0 : Hp_} : Snd 73 107 h0 (miT TbM) RX12 cX12_corner 7 (some .int) 36 (i_iload 37 0) := snd_iload_n rfl dX12_corner_36
theorem sX12_corner_37 {h0 : Hp_} : Snd 73 107 h0 (miT TbM) RX12 cX12_corner 7 (some .int) 37 (i_const 38 (vI 1)) := snd_iconst dX12_corner_37
theorem sX12_corner_38 {h0 : Hp_} : Snd 73 107 h0 (miT TbM) RX12 cX12_corner 7 (some .int) 38 (i_isub 39) := snd_isub dX12_corner_38
theorem sX12_corner_39 {h0 : Hp_} : Snd 73 107 h0 (miT TbM) RX12 cX12_corner 7 (some .int) 39 (i_const 40 (vI 3)) := snd_iconst dX12_corner_39
theorem sX12_corner_40 {h0 : Hp_} : Snd 73 107 h0 (miT TbM) RX12 cX12_corner 7 (some .int) 40 (i_irem 41) := snd_irem dX12_corner_40
theorem sX12_corner_41 {h0 : Hp_} : Snd 73 107 h0 (miT TbM) RX12 cX12_corner 7 (some .int) 41 (i_if_ne 44 48) := snd_if_ne dX12_corner_41 rfl
theorem sX12_corner_44 {h0 : Hp_} : Snd 73 107 h0 (miT TbM) RX12 cX12_corner 7 (some .int) 44 (i_const 45 (vI 0)) := snd_iconst dX12_corner_44
theorem sX12_corner_45 {h0 : Hp_} : Snd 73 107 h0 (miT TbM) RX12 cX12_corner 7 (some .int) 45 (i_goto 54) := snd_goto dX12_corner_45 rfl
theorem sX12_corner_48 {h0 : Hp_} : Snd 73 107 h0 (miT TbM) RX12 cX12_corner 7 (some .int) 48 (i_iload 49 2) := snd_iload_n rfl dX12_corner_48
theorem sX12_corner_49 {h0 : Hp_} : Snd 73 107 h0 (miT TbM) RX12 cX12_corner 7 (some .int) 49 (i_iload 51 4) := snd_iload dX12_corner_49
theorem sX12_corner_51 {h0 : Hp_} : Snd 73 107 h0 (miT TbM) RX12 cX12_corner 7 (some .int) 51 (i_cS2 26 54) := snd_cS2 (fun hK hd hC h6 h7 h8 kk => iv_X12_153 hK (mcM_26 hC) ⟨hd, by show _ ≤ 40 * (_ + 1); omega⟩ (Nat.le_refl _) h6 h7 h8 ⟨Nat.le_refl _, Nat.le_refl _⟩ dX12_corner_51 kk)
theorem sX12_corner_54 {h0 : Hp_} : Snd 73 107 h0 (miT TbM) RX12 cX12_corner 7 (some .int) 54 (i_istore 56 6) := snd_istore (by decide) dX12_corner_54
theorem sX12_corner_56 {h0 : Hp_} : Snd 73 107 h0 (miT TbM) RX12 cX12_corner 7 (some .int) 56 (i_const 58 (vI 8)) := snd_bipush (by decide) dX12_corner_56
theorem sX12_corner_58 {h0 : Hp_} : Snd 73 107 h0 (miT TbM) RX12 cX12_corner 7 (some .int) 58 (i_iload 60 6) := snd_iload dX12_corner_58
theorem sX12_corner_60 {h0 : Hp_} : Snd 73 107 h0 (miT TbM) RX12 cX12_corner 7 (some .int) 60 (i_imul 61) := snd_imul dX12_corner_60
theorem sX12_corner_61 {h0 : Hp_} : Snd 73 107 h0 (miT TbM) RX12 cX12_corner 7 (some .int) 61 (i_iload 63 5) := snd_iload dX12_corner_61
theorem sX12_corner_63 {h0 : Hp_} : Snd 73 107 h0 (miT TbM) RX12 cX12_corner 7 (some .int) 63 (i_iadd 64) := snd_iadd dX12_corner_63
theorem sX12_corner_64 {h0 : Hp_} : Snd 73 107 h0 (miT TbM) RX12 cX12_corner 7 (some .int) 64 (i_iret) := snd_iret dX12_corner_64
theorem kX12_corner {h0 : Hp_} : raA (okI 73 107 h0 (miT TbM) (yX12_corner, cX12_corner, 7, (some .int))) tX12_corner := (raA_br (raA_br (raA_br (raA_br (raA_br (raA_leaf sX12_corner_0) (raA_leaf sX12_corner_1)) (raA_br (raA_leaf sX12_corner_4) (raA_br (raA_leaf sX12_corner_5) (raA_leaf sX12_corner_6)))) (raA_br (raA_br (raA_leaf sX12_corner_7) (raA_leaf sX12_corner_8)) (raA_br (raA_leaf sX12_corner_9) (raA_br (raA_leaf sX12_corner_10) (raA_leaf sX12_corner_11))))) (raA_br (raA_br (raA_br (raA_leaf sX12_corner_12) (raA_leaf sX12_corner_13)) (raA_br (raA_leaf sX12_corner_15) (raA_br (raA_leaf sX12_corner_16) (raA_leaf sX12_corner_17)))) (raA_br (raA_br (raA_leaf sX12_corner_18) (raA_br (raA_leaf sX12_corner_19) (raA_leaf sX12_corner_20))) (raA_br (raA_leaf sX12_corner_21) (raA_br (raA_leaf sX12_corner_24) (raA_leaf sX12_corner_25)))))) (raA_br (raA_br (raA_br (raA_br (raA_leaf sX12_corner_28) (raA_leaf sX12_corner_29)) (raA_br (raA_leaf sX12_corner_31) (raA_br (raA_leaf sX12_corner_34) (raA_leaf sX12_corner_36)))) (raA_br (raA_br (raA_leaf sX12_corner_37) (raA_br (raA_leaf sX12_corner_38) (raA_leaf sX12_corner_39))) (raA_br (raA_leaf sX12_corner_40) (raA_br (raA_leaf sX12_corner_41) (raA_leaf sX12_corner_44))))) (raA_br (raA_br (raA_br (raA_leaf sX12_corner_45) (raA_leaf sX12_corner_48)) (raA_br (raA_leaf sX12_corner_49) (raA_br (raA_leaf sX12_corner_51) (raA_leaf sX12_corner_54)))) (raA_br (raA_br (raA_leaf sX12_corner_56) (raA_br (raA_leaf sX12_corner_58) (raA_leaf sX12_corner_60))) (raA_br (raA_leaf sX12_corner_61) (raA_br (raA_leaf sX12_corner_63) (raA_leaf sX12_corner_64)))))))
theorem sX12_encode_0 {h0 : Hp_} : Snd 73 107 h0 (miT TbM) RX12 cX12_encode 6 (some .int) 0 (i_aload 1 0) := snd_aload_n rfl dX12_encode_0
theorem sX12_encode_1 {h0 : Hp_} : Snd 73 107 h0 (miT TbM) RX12 cX12_encode 6 (some .int) 1 (i_iload 2 1) := snd_iload_n rfl dX12_encode_1
theorem sX12_encode_2 {h0 : Hp_} : Snd 73 107 h0 (miT TbM) RX12 cX12_encode 6 (some .int) 2 (i_const 3 (vI 0)) := snd_iconst dX12_encode_2
theorem sX12_encode_3 {h0 : Hp_} : Snd 73 107 h0 (miT TbM) RX12 cX12_encode 6 (some .int) 3 (i_const 4 (vI 3)) := snd_iconst dX12_encode_3
theorem sX12_encode_4 {h0 : Hp_} : Snd 73 107 h0 (miT TbM) RX12 cX12_encode 6 (some .int) 4 (i_cS3 47 7) := snd_cS3 (fun hK hd hC h6 h7 h8 kk => iv_X12_120 hK (mcM_47 hC) ⟨hd, by show _ ≤ 40 * (_ + 1); omega⟩ (Nat.le_refl _) h6 h7 h8 ⟨Nat.le_refl _, Nat.le_refl _⟩ dX12_encode_4 kk)
theorem sX12_encode_7 {h0 : Hp_} : Snd 73 107 h0 (miT TbM) RX12 cX12_encode 6 (some .int) 7 (i_if_eq 10 23) := snd_if_eq dX12_encode_7 rfl
theorem sX12_encode_10 {h0 : Hp_} : Snd 73 107 h0 (miT TbM) RX12 cX12_encode 6 (some .int) 10 (i_iload 11 2) := snd_iload_n rfl dX12_encode_10
theorem sX12_encode_11 {h0 : Hp_} : Snd 73 107 h0 (miT TbM) RX12 cX12_encode 6 (some .int) 11 (i_const 12 (vI 1)) := snd_iconst dX12_encode_11
theorem sX12_encode_12 {h0 : Hp_} : Snd 73 107 h0 (miT TbM) RX12 cX12_encode 6 (some .int) 12 (i_const 13 (vI 3)) := snd_iconst dX12_encode_12
theorem sX12_encode_13 {h0 : Hp_} : Snd 73 107 h0 (miT TbM) RX12 cX12_encode 6 (some .int) 13 (i_cS3 47 16) := snd_cS3 (fun hK hd hC h6 h7 h8 kk => iv_X12_120 hK (mcM_47 hC) ⟨hd, by show _ ≤ 40 * (_ + 1); omega⟩ (Nat.le_refl _) h6 h7 h8 ⟨Nat.le_refl _, Nat.le_refl _⟩ dX12_encode_13 kk)
theorem sX12_encode_16 {h0 : Hp_} : Snd 73 107 h0 (miT TbM) RX12 cX12_encode 6 (some .int) 16 (i_if_eq 19 23) := snd_if_eq dX12_encode_16 rfl
theorem sX12_encode_19 {h0 : Hp_} : Snd 73 107 h0 (miT TbM) RX12 cX12_encode 6 (some .int) 19 (i_const 20 (vI 0)) := snd_iconst dX12_encode_19
theorem sX12_encode_20 {h0 : Hp_} : Snd 73 107 h0 (miT TbM) RX12 cX12_encode 6 (some .int) 20 (i_goto 24) := snd_goto dX12_encode_20 rfl
theorem sX12_encode_23 {h0 : Hp_} : Snd 73 107 h0 (miT TbM) RX12 cX12_encode 6 (some .int) 23 (i_const 24 (vI 1)) := snd_iconst dX12_encode_23
theorem sX12_encode_24 {h0 : Hp_} : Snd 73 107 h0 (miT TbM) RX12 cX12_encode 6 (some .int) 24 (i_putI 11 2 27) := snd_putI hl73 (fun hK ho hs kk => pf_X12_117 hK ho hs dX12_encode_24 kk)
theorem sX12_encode_27 {h0 : Hp_} : Snd 73 107 h0 (miT TbM) RX12 cX12_encode 6 (some .int) 27 (i_aload 28 0) := snd_aload_n rfl dX12_encode_27
theorem sX12_encode_28 {h0 : Hp_} : Snd 73 107 h0 (miT TbM) RX12 cX12_encode 6 (some .int) 28 (i_getI 11 2 31) := snd_getI hl73 (fun hK ho hs hv kk => gf_X12_117 hK ho hs hv dX12_encode_28 kk)
theorem sX12_encode_31 {h0 : Hp_} : Snd 73 107 h0 (miT TbM) RX12 cX12_encode 6 (some .int) 31 (i_if_le 34 36) := snd_if_le dX12_encode_31 rfl
theorem sX12_encode_34 {h0 : Hp_} : Snd 73 107 h0 (miT TbM) RX12 cX12_encode 6 (some .int) 34 (i_const 35 (vI 0)) := snd_iconst dX12_encode_34
theorem sX12_encode_35 {h0 : Hp_} : Snd 73 107 h0 (miT TbM) RX12 cX12_encode 6 (some .int) 35 (i_iret) := snd_iret dX12_encode_35
theorem sX12_encode_36 {h0 : Hp_} : Snd 73 107 h0 (miT TbM) RX12 cX12_encode 6 (some .int) 36 (i_const 37 (vI 0)) := snd_iconst dX12_encode_36
theorem sX12_encode_37 {h0 : Hp_} : Snd 73 107 h0 (miT TbM) RX12 cX12_encode 6 (some .int) 37 (i_istore 38 3) := snd_istore_n rfl (by decide) dX12_encode_37
theorem sX12_encode_38 {h0 : Hp_} : Snd 73 107 h0 (miT TbM) RX12 cX12_encode 6 (some .int) 38 (i_iload 39 3) := snd_iload_n rfl dX12_encode_38
theorem sX12_encode_39 {h0 : Hp_} : Snd 73 107 h0 (miT TbM) RX12 cX12_encode 6 (some .int) 39 (i_const 41 (vI 64)) := snd_bipush (by decide) dX12_encode_39
theorem sX12_encode_41 {h0 : Hp_} : Snd 73 107 h0 (miT TbM) RX12 cX12_encode 6 (some .int) 41 (i_icmp_ge 44 66) := snd_icmp_ge dX12_encode_41 rfl
theorem sX12_encode_44 {h0 : Hp_} : Snd 73 107 h0 (miT TbM) RX12 cX12_encode 6 (some .int) 44 (i_aload 45 0) := snd_aload_n rfl dX12_encode_44
theorem sX12_encode_45 {h0 : Hp_} : Snd 73 107 h0 (miT TbM) RX12 cX12_encode 6 (some .int) 45 (i_getR 11 6 48) := snd_getR rfl (by decide) (by decide) (by decide) (fun hK ho hs hq kk => gf_X12_26 hK ho hs hq rfl dX12_encode_45 kk)
theorem sX12_encode_48 {h0 : Hp_} : Snd 73 107 h0 (miT TbM) RX12 cX12_encode 6 (some .int) 48 (i_iload 49 3) := snd_iload_n rfl dX12_encode_48
theorem sX12_encode_49 {h0 : Hp_} : Snd 73 107 h0 (miT TbM) RX12 cX12_encode 6 (some .int) 49 (i_aload 50 0) := snd_aload_n rfl dX12_encode_49
theorem sX12_encode_50 {h0 : Hp_} : Snd 73 107 h0 (miT TbM) RX12 cX12_encode 6 (some .int) 50 (i_getR 11 5 53) := snd_getR rfl (by decide) (by decide) (by decide) (fun hK ho hs hq kk => gf_X12_23 hK ho hs hq rfl dX12_encode_50 kk)
theorem sX12_encode_53 {h0 : Hp_} : Snd 73 107 h0 (miT TbM) RX12 cX12_encode 6 (some .int) 53 (i_iload 54 3) := snd_iload_n rfl dX12_encode_53
theorem sX12_encode_54 {h0 : Hp_} : Snd 73 107 h0 (miT TbM) RX12 cX12_encode 6 (some .int) 54 (i_iald 73 107 55) := snd_iald dX12_encode_54
theorem sX12_encode_55 {h0 : Hp_} : Snd 73 107 h0 (miT TbM) RX12 cX12_encode 6 (some .int) 55 (i_const 58 (vI 128)) := snd_sipush (by decide) dX12_encode_55
theorem sX12_encode_58 {h0 : Hp_} : Snd 73 107 h0 (miT TbM) RX12 cX12_encode 6 (some .int) 58 (i_isub 59) := snd_isub dX12_encode_58
theorem sX12_encode_59 {h0 : Hp_} : Snd 73 107 h0 (miT TbM) RX12 cX12_encode 6 (some .int) 59 (i_iast 73 107 60) := snd_iast dX12_encode_59
theorem sX12_encode_60 {h0 : Hp_} : Snd 73 107 h0 (miT TbM) RX12 cX12_encode 6 (some .int) 60 (i_iinc 63 3 1) := snd_iinc (by decide) dX12_encode_60
theorem sX12_encode_63 {h0 : Hp_} : Snd 73 107 h0 (miT TbM) RX12 cX12_encode 6 (some .int) 63 (i_goto 38) := snd_goto dX12_encode_63 rfl
theorem sX12_encode_66 {h0 : Hp_} : Snd 73 107 h0 (miT TbM) RX12 cX12_encode 6 (some .int) 66 (i_const 67 (vI 0)) := snd_iconst dX12_encode_66
theorem sX12_encode_67 {h0 : Hp_} : Snd 73 107 h0 (miT TbM) RX12 cX12_encode 6 (some .int) 67 (i_istore 68 3) := snd_istore_n rfl (by decide) dX12_encode_67
theorem sX12_encode_68 {h0 : Hp_} : Snd 73 107 h0 (miT TbM) RX12 cX12_encode 6 (some .int) 68 (i_iload 69 3) := snd_iload_n rfl dX12_encode_68
theorem sX12_encode_69 {h0 : Hp_} : Snd 73 107 h0 (miT TbM) RX12 cX12_encode 6 (some .int) 69 (i_iload 70 1) := snd_iload_n rfl dX12_encode_69
theorem sX12_encode_70 {h0 : Hp_} : Snd 73 107 h0 (miT TbM) RX12 cX12_encode 6 (some .int) 70 (i_icmp_ge 73 121) := snd_icmp_ge dX12_encode_70 rfl
theorem sX12_encode_73 {h0 : Hp_} : Snd 73 107 h0 (miT TbM) RX12 cX12_encode 6 (some .int) 73 (i_aload 74 0) := snd_aload_n rfl dX12_encode_73
theorem sX12_encode_74 {h0 : Hp_} : Snd 73 107 h0 (miT TbM) RX12 cX12_encode 6 (some .int) 74 (i_aload 75 0) := snd_aload_n rfl dX12_encode_74
theorem sX12_encode_75 {h0 : Hp_} : Snd 73 107 h0 (miT TbM) RX12 cX12_encode 6 (some .int) 75 (i_getI 11 3 78) := snd_getI hl73 (fun hK ho hs hv kk => gf_X12_16 hK ho hs hv dX12_encode_75 kk)
theorem sX12_encode_78 {h0 : Hp_} : Snd 73 107 h0 (miT TbM) RX12 cX12_encode 6 (some .int) 78 (i_iload 79 3) := snd_iload_n rfl dX12_encode_78
theorem sX12_encode_79 {h0 : Hp_} : Snd 73 107 h0 (miT TbM) RX12 cX12_encode 6 (some .int) 79 (i_cS2 26 82) := snd_cS2 (fun hK hd hC h6 h7 h8 kk => iv_X12_153 hK (mcM_26 hC) ⟨hd, by show _ ≤ 40 * (_ + 1); omega⟩ (Nat.le_refl _) h6 h7 h8 ⟨Nat.le_refl _, Nat.le_refl _⟩ dX12_encode_79 kk)
theorem sX12_encode_82 {h0 : Hp_} : Snd 73 107 h0 (miT TbM) RX12 cX12_encode 6 (some .int) 82 (i_aload 83 0) := snd_aload_n rfl dX12_encode_82
theorem sX12_encode_83 {h0 : Hp_} : Snd 73 107 h0 (miT TbM) RX12 cX12_encode 6 (some .int) 83 (i_getI 11 4 86) := snd_getI hl73 (fun hK ho hs hv kk => gf_X12_20 hK ho hs hv dX12_encode_83 kk)
theorem sX12_encode_86 {h0 : Hp_} : Snd 73 107 h0 (miT TbM) RX12 cX12_encode 6 (some .int) 86 (i_iload 87 3) := snd_iload_n rfl dX12_encode_86
theorem sX12_encode_87 {h0 : Hp_} : Snd 73 107 h0 (miT TbM) RX12 cX12_encode 6 (some .int) 87 (i_cS2 26 90) := snd_cS2 (fun hK hd hC h6 h7 h8 kk => iv_X12_153 hK (mcM_26 hC) ⟨hd, by show _ ≤ 40 * (_ + 1); omega⟩ (Nat.le_refl _) h6 h7 h8 ⟨Nat.le_refl _, Nat.le_refl _⟩ dX12_encode_87 kk)
theorem sX12_encode_90 {h0 : Hp_} : Snd 73 107 h0 (miT TbM) RX12 cX12_encode 6 (some .int) 90 (i_const 91 (vI 0)) := snd_iconst dX12_encode_90
theorem sX12_encode_91 {h0 : Hp_} : Snd 73 107 h0 (miT TbM) RX12 cX12_encode 6 (some .int) 91 (i_cV3 11 11 94) := snd_cV3 (fun hK hd hC ho hs h6 h7 h8 kk => iv_X12_335 hK (mcM_11 hC) ho hs ⟨hd, by show _ ≤ 40 * (_ + 1); omega⟩ (Nat.le_refl _) h6 h7 h8 ⟨Nat.le_refl _, Nat.le_refl _⟩ dX12_encode_91 kk)
theorem sX12_encode_94 {h0 : Hp_} : Snd 73 107 h0 (miT TbM) RX12 cX12_encode 6 (some .int) 94 (i_aload 95 0) := snd_aload_n rfl dX12_encode_94
theorem sX12_encode_95 {h0 : Hp_} : Snd 73 107 h0 (miT TbM) RX12 cX12_encode 6 (some .int) 95 (i_aload 96 0) := snd_aload_n rfl dX12_encode_95
theorem sX12_encode_96 {h0 : Hp_} : Snd 73 107 h0 (miT TbM) RX12 cX12_encode 6 (some .int) 96 (i_getI 11 3 99) := snd_getI hl73 (fun hK ho hs hv kk => gf_X12_16 hK ho hs hv dX12_encode_96 kk)
theorem sX12_encode_99 {h0 : Hp_} : Snd 73 107 h0 (miT TbM) RX12 cX12_encode 6 (some .int) 99 (i_iload 100 3) := snd_iload_n rfl dX12_encode_99
theorem sX12_encode_100 {h0 : Hp_} : Snd 73 107 h0 (miT TbM) RX12 cX12_encode 6 (some .int) 100 (i_cS2 26 103) := snd_cS2 (fun hK hd hC h6 h7 h8 kk => iv_X12_153 hK (mcM_26 hC) ⟨hd, by show _ ≤ 40 * (_ + 1); omega⟩ (Nat.le_refl _) h6 h7 h8 ⟨Nat.le_refl _, Nat.le_refl _⟩ dX12_encode_100 kk)
theorem sX12_encode_103 {h0 : Hp_} : Snd 73 107 h0 (miT TbM) RX12 cX12_encode 6 (some .int) 103 (i_aload 104 0) := snd_aload_n rfl dX12_encode_103
theorem sX12_encode_104 {h0 : Hp_} : Snd 73 107 h0 (miT TbM) RX12 cX12_encode 6 (some .int) 104 (i_getI 11 4 107) := snd_getI hl73 (fun hK ho hs hv kk => gf_X12_20 hK ho hs hv dX12_encode_104 kk)
theorem sX12_encode_107 {h0 : Hp_} : Snd 73 107 h0 (miT TbM) RX12 cX12_encode 6 (some .int) 107 (i_iload 108 3) := snd_iload_n rfl dX12_encode_107
theorem sX12_encode_108 {h0 : Hp_} : Snd 73 107 h0 (miT TbM) RX12 cX12_encode 6 (some .int) 108 (i_cS2 26 111) := snd_cS2 (fun hK hd hC h6 h7 h8 kk => iv_X12_153 hK (mcM_26 hC) ⟨hd, by show _ ≤ 40 * (_ + 1); omega⟩ (Nat.le_refl _) h6 h7 h8 ⟨Nat.le_refl _, Nat.le_refl _⟩ dX12_encode_108 kk)
theorem sX12_encode_111 {h0 : Hp_} : Snd 73 107 h0 (miT TbM) RX12 cX12_encode 6 (some .int) 111 (i_const 112 (vI 0)) := snd_iconst dX12_encode_111
theorem sX12_encode_112 {h0 : Hp_} : Snd 73 107 h0 (miT TbM) RX12 cX12_encode 6 (some .int) 112 (i_cV3 36 11 115) := snd_cV3 (fun hK hd hC ho hs h6 h7 h8 kk => iv_X12_339 hK (mcM_36 hC) ho hs ⟨hd, by show _ ≤ 40 * (_ + 1); omega⟩ (Nat.le_refl _) h6 h7 h8 ⟨Nat.le_refl _, Nat.le_refl _⟩ dX12_encode_112 kk)
theorem sX12_encode_115 {h0 : Hp_} : Snd 73 107 h0 (miT TbM) RX12 cX12_encode 6 (some .int) 115 (i_iinc 118 3 1) := snd_iinc (by decide) dX12_encode_115
theorem sX12_encode_118 {h0 : Hp_} : Snd 73 107 h0 (miT TbM) RX12 cX12_encode 6 (some .int) 118 (i_goto 68) := snd_goto dX12_encode_118 rfl
theorem sX12_encode_121 {h0 : Hp_} : Snd 73 107 h0 (miT TbM) RX12 cX12_encode 6 (some .int) 121 (i_aload 122 0) := snd_aload_n rfl dX12_encode_121
theorem sX12_encode_122 {h0 : Hp_} : Snd 73 107 h0 (miT TbM) RX12 cX12_encode 6 (some .int) 122 (i_const 123 (vI 0)) := snd_iconst dX12_encode_122
theorem sX12_encode_123 {h0 : Hp_} : Snd 73 107 h0 (miT TbM) RX12 cX12_encode 6 (some .int) 123 (i_aload 124 0) := snd_aload_n rfl dX12_encode_123
theorem sX12_encode_124 {h0 : Hp_} : Snd 73 107 h0 (miT TbM) RX12 cX12_encode 6 (some .int) 124 (i_getI 11 3 127) := snd_getI hl73 (fun hK ho hs hv kk => gf_X12_16 hK ho hs hv dX12_encode_124 kk)
theorem sX12_encode_127 {h0 : Hp_} : Snd 73 107 h0 (miT TbM) RX12 cX12_encode 6 (some .int) 127 (i_aload 128 0) := snd_aload_n rfl dX12_encode_127
theorem sX12_encode_128 {h0 : Hp_} : Snd 73 107 h0 (miT TbM) RX12 cX12_encode 6 (some .int) 128 (i_getI 11 4 131) := snd_getI hl73 (fun hK ho hs hv kk => gf_X12_20 hK ho hs hv dX12_encode_128 kk)
theorem sX12_encode_131 {h0 : Hp_} : Snd 73 107 h0 (miT TbM) RX12 cX12_encode 6 (some .int) 131 (i_iload 132 1) := snd_iload_n rfl dX12_encode_131
theorem sX12_encode_132 {h0 : Hp_} : Snd 73 107 h0 (miT TbM) RX12 cX12_encode 6 (some .int) 132 (i_cV4 2 11 135) := snd_cV4 (fun hK hd hC ho hs h6 h7 h8 kk => iv_X12_342 hK (mcM_2 hC) ho hs ⟨hd, by show _ ≤ 40 * (_ + 1); omega⟩ (Nat.le_refl _) h6 h7 h8 ⟨Nat.le_refl _, Nat.le_refl _⟩ dX12_encode_132 kk)
theorem sX12_encode_135 {h0 : Hp_} : Snd 73 107 h0 (miT TbM) RX12 cX12_encode 6 (some .int) 135 (i_aload 136 0) := snd_aload_n rfl dX12_encode_135
theorem sX12_encode_136 {h0 : Hp_} : Snd 73 107 h0 (miT TbM) RX12 cX12_encode 6 (some .int) 136 (i_const 137 (vI 3)) := snd_iconst dX12_encode_136
theorem sX12_encode_137 {h0 : Hp_} : Snd 73 107 h0 (miT TbM) RX12 cX12_encode 6 (some .int) 137 (i_iload 138 1) := snd_iload_n rfl dX12_encode_137
theorem sX12_encode_138 {h0 : Hp_} : Snd 73 107 h0 (miT TbM) RX12 cX12_encode 6 (some .int) 138 (i_imul 139) := snd_imul dX12_encode_138
theorem sX12_encode_139 {h0 : Hp_} : Snd 73 107 h0 (miT TbM) RX12 cX12_encode 6 (some .int) 139 (i_const 140 (vI 1)) := snd_iconst dX12_encode_139
theorem sX12_encode_140 {h0 : Hp_} : Snd 73 107 h0 (miT TbM) RX12 cX12_encode 6 (some .int) 140 (i_iadd 141) := snd_iadd dX12_encode_140
theorem sX12_encode_141 {h0 : Hp_} : Snd 73 107 h0 (miT TbM) RX12 cX12_encode 6 (some .int) 141 (i_putI 11 18 144) := snd_putI hl73 (fun hK ho hs kk => pf_X12_345 hK ho hs dX12_encode_141 kk)
theorem sX12_encode_144 {h0 : Hp_} : Snd 73 107 h0 (miT TbM) RX12 cX12_encode 6 (some .int) 144 (i_const 145 (vI 0)) := snd_iconst dX12_encode_144
theorem sX12_encode_145 {h0 : Hp_} : Snd 73 107 h0 (miT TbM) RX12 cX12_encode 6 (some .int) 145 (i_istore 146 3) := snd_istore_n rfl (by decide) dX12_encode_145
theorem sX12_encode_146 {h0 : Hp_} : Snd 73 107 h0 (miT TbM) RX12 cX12_encode 6 (some .int) 146 (i_const 147 (vI 0)) := snd_iconst dX12_encode_146
theorem sX12_encode_147 {h0 : Hp_} : Snd 73 107 h0 (miT TbM) RX12 cX12_encode 6 (some .int) 147 (i_istore 149 4) := snd_istore (by decide) dX12_encode_147
theorem sX12_encode_149 {h0 : Hp_} : Snd 73 107 h0 (miT TbM) RX12 cX12_encode 6 (some .int) 149 (i_iload 151 4) := snd_iload dX12_encode_149
theorem sX12_encode_151 {h0 : Hp_} : Snd 73 107 h0 (miT TbM) RX12 cX12_encode 6 (some .int) 151 (i_aload 152 0) := snd_aload_n rfl dX12_encode_151
theorem sX12_encode_152 {h0 : Hp_} : Snd 73 107 h0 (miT TbM) RX12 cX12_encode 6 (some .int) 152 (i_getI 11 18 155) := snd_getI hl73 (fun hK ho hs hv kk => gf_X12_345 hK ho hs hv dX12_encode_152 kk)
theorem sX12_encode_155 {h0 : Hp_} : Snd 73 107 h0 (miT TbM) RX12 cX12_encode 6 (some .int) 155 (i_icmp_ge 158 201) := snd_icmp_ge dX12_encode_155 rfl
theorem sX12_encode_158 {h0 : Hp_} : Snd 73 107 h0 (miT TbM) RX12 cX12_encode 6 (some .int) 158 (i_aload 159 0) := snd_aload_n rfl dX12_encode_158
theorem sX12_encode_159 {h0 : Hp_} : Snd 73 107 h0 (miT TbM) RX12 cX12_encode 6 (some .int) 159 (i_iload 161 4) := snd_iload dX12_encode_159
theorem sX12_encode_161 {h0 : Hp_} : Snd 73 107 h0 (miT TbM) RX12 cX12_encode 6 (some .int) 161 (i_iload 163 4) := snd_iload dX12_encode_161
theorem sX12_encode_163 {h0 : Hp_} : Snd 73 107 h0 (miT TbM) RX12 cX12_encode 6 (some .int) 163 (i_aload 164 0) := snd_aload_n rfl dX12_encode_163
theorem sX12_encode_164 {h0 : Hp_} : Snd 73 107 h0 (miT TbM) RX12 cX12_encode 6 (some .int) 164 (i_getI 11 3 167) := snd_getI hl73 (fun hK ho hs hv kk => gf_X12_16 hK ho hs hv dX12_encode_164 kk)
theorem sX12_encode_167 {h0 : Hp_} : Snd 73 107 h0 (miT TbM) RX12 cX12_encode 6 (some .int) 167 (i_aload 168 0) := snd_aload_n rfl dX12_encode_167
theorem sX12_encode_168 {h0 : Hp_} : Snd 73 107 h0 (miT TbM) RX12 cX12_encode 6 (some .int) 168 (i_getI 11 4 171) := snd_getI hl73 (fun hK ho hs hv kk => gf_X12_20 hK ho hs hv dX12_encode_168 kk)
theorem sX12_encode_171 {h0 : Hp_} : Snd 73 107 h0 (miT TbM) RX12 cX12_encode 6 (some .int) 171 (i_iload 172 1) := snd_iload_n rfl dX12_encode_171
theorem sX12_encode_172 {h0 : Hp_} : Snd 73 107 h0 (miT TbM) RX12 cX12_encode 6 (some .int) 172 (i_cS4 13 175) := snd_cS4 (fun hK hd hC h6 h7 h8 kk => iv_X12_348 hK (mcM_13 hC) ⟨hd, by show _ ≤ 40 * (_ + 1); omega⟩ (Nat.le_refl _) h6 h7 h8 ⟨Nat.le_refl _, Nat.le_refl _⟩ dX12_encode_172 kk)
theorem sX12_encode_175 {h0 : Hp_} : Snd 73 107 h0 (miT TbM) RX12 cX12_encode 6 (some .int) 175 (i_cV2 27 11 178) := snd_cV2 (fun hK hd hC ho hs h6 h7 h8 kk => iv_X12_352 hK (mcM_27 hC) ho hs ⟨hd, by show _ ≤ 40 * (_ + 1); omega⟩ (Nat.le_refl _) h6 h7 h8 ⟨Nat.le_refl _, Nat.le_refl _⟩ dX12_encode_175 kk)
theorem sX12_encode_178 {h0 : Hp_} : Snd 73 107 h0 (miT TbM) RX12 cX12_encode 6 (some .int) 178 (i_aload 179 0) := snd_aload_n rfl dX12_encode_178
theorem sX12_encode_179 {h0 : Hp_} : Snd 73 107 h0 (miT TbM) RX12 cX12_encode 6 (some .int) 179 (i_iload 181 4) := snd_iload dX12_encode_179
theorem sX12_encode_181 {h0 : Hp_} : Snd 73 107 h0 (miT TbM) RX12 cX12_encode 6 (some .int) 181 (i_iload 182 3) := snd_iload_n rfl dX12_encode_181
theorem sX12_encode_182 {h0 : Hp_} : Snd 73 107 h0 (miT TbM) RX12 cX12_encode 6 (some .int) 182 (i_cV2 41 11 185) := snd_cV2 (fun hK hd hC ho hs h6 h7 h8 kk => iv_X12_355 hK (mcM_41 hC) ho hs ⟨hd, by show _ ≤ 40 * (_ + 1); omega⟩ (Nat.le_refl _) h6 h7 h8 ⟨Nat.le_refl _, Nat.le_refl _⟩ dX12_encode_182 kk)
theorem sX12_encode_185 {h0 : Hp_} : Snd 73 107 h0 (miT TbM) RX12 cX12_encode 6 (some .int) 185 (i_iload 186 3) := snd_iload_n rfl dX12_encode_185
theorem sX12_encode_186 {h0 : Hp_} : Snd 73 107 h0 (miT TbM) RX12 cX12_encode 6 (some .int) 186 (i_aload 187 0) := snd_aload_n rfl dX12_encode_186
theorem sX12_encode_187 {h0 : Hp_} : Snd 73 107 h0 (miT TbM) RX12 cX12_encode 6 (some .int) 187 (i_getR 11 21 190) := snd_getR rfl (by decide) (by decide) (by decide) (fun hK ho hs hq kk => gf_X12_69 hK ho hs hq rfl dX12_encode_187 kk)
theorem sX12_encode_190 {h0 : Hp_} : Snd 73 107 h0 (miT TbM) RX12 cX12_encode 6 (some .int) 190 (i_iload 192 4) := snd_iload dX12_encode_190
theorem sX12_encode_192 {h0 : Hp_} : Snd 73 107 h0 (miT TbM) RX12 cX12_encode 6 (some .int) 192 (i_iald 73 107 193) := snd_iald dX12_encode_192
theorem sX12_encode_193 {h0 : Hp_} : Snd 73 107 h0 (miT TbM) RX12 cX12_encode 6 (some .int) 193 (i_iadd 194) := snd_iadd dX12_encode_193
theorem sX12_encode_194 {h0 : Hp_} : Snd 73 107 h0 (miT TbM) RX12 cX12_encode 6 (some .int) 194 (i_istore 195 3) := snd_istore_n rfl (by decide) dX12_encode_194
theorem sX12_encode_195 {h0 : Hp_} : Snd 73 107 h0 (miT TbM) RX12 cX12_encode 6 (some .int) 195 (i_iinc 198 4 1) := snd_iinc (by decide) dX12_encode_195
theorem sX12_encode_198 {h0 : Hp_} : Snd 73 107 h0 (miT TbM) RX12 cX12_encode 6 (some .int) 198 (i_goto 149) := snd_goto dX12_encode_198 rfl
theorem sX12_encode_201 {h0 : Hp_} : Snd 73 107 h0 (miT TbM) RX12 cX12_encode 6 (some .int) 201 (i_aload 202 0) := snd_aload_n rfl dX12_encode_201
theorem sX12_encode_202 {h0 : Hp_} : Snd 73 107 h0 (miT TbM) RX12 cX12_encode 6 (some .int) 202 (i_getR 11 40 205) := snd_getR rfl (by decide) (by decide) (by decide) (fun hK ho hs hq kk => gf_X12_96 hK ho hs hq rfl dX12_encode_202 kk)
theorem sX12_encode_205 {h0 : Hp_} : Snd 73 107 h0 (miT TbM) RX12 cX12_encode 6 (some .int) 205 (i_const 206 (vI 0)) := snd_iconst dX12_encode_205
theorem sX12_encode_206 {h0 : Hp_} : Snd 73 107 h0 (miT TbM) RX12 cX12_encode 6 (some .int) 206 (i_aload 207 0) := snd_aload_n rfl dX12_encode_206
theorem sX12_encode_207 {h0 : Hp_} : Snd 73 107 h0 (miT TbM) RX12 cX12_encode 6 (some .int) 207 (i_getI 11 3 210) := snd_getI hl73 (fun hK ho hs hv kk => gf_X12_16 hK ho hs hv dX12_encode_207 kk)
theorem sX12_encode_210 {h0 : Hp_} : Snd 73 107 h0 (miT TbM) RX12 cX12_encode 6 (some .int) 210 (i_iast 73 107 211) := snd_iast dX12_encode_210
theorem sX12_encode_211 {h0 : Hp_} : Snd 73 107 h0 (miT TbM) RX12 cX12_encode 6 (some .int) 211 (i_aload 212 0) := snd_aload_n rfl dX12_encode_211
theorem sX12_encode_212 {h0 : Hp_} : Snd 73 107 h0 (miT TbM) RX12 cX12_encode 6 (some .int) 212 (i_getR 11 40 215) := snd_getR rfl (by decide) (by decide) (by decide) (fun hK ho hs hq kk => gf_X12_96 hK ho hs hq rfl dX12_encode_212 kk)
theorem sX12_encode_215 {h0 : Hp_} : Snd 73 107 h0 (miT TbM) RX12 cX12_encode 6 (some .int) 215 (i_const 216 (vI 1)) := snd_iconst dX12_encode_215
theorem sX12_encode_216 {h0 : Hp_} : Snd 73 107 h0 (miT TbM) RX12 cX12_encode 6 (some .int) 216 (i_aload 217 0) := snd_aload_n rfl dX12_encode_216
theorem sX12_encode_217 {h0 : Hp_} : Snd 73 107 h0 (miT TbM) RX12 cX12_encode 6 (some .int) 217 (i_getI 11 4 220) := snd_getI hl73 (fun hK ho hs hv kk => gf_X12_20 hK ho hs hv dX12_encode_217 kk)
theorem sX12_encode_220 {h0 : Hp_} : Snd 73 107 h0 (miT TbM) RX12 cX12_encode 6 (some .int) 220 (i_iast 73 107 221) := snd_iast dX12_encode_220
theorem sX12_encode_221 {h0 : Hp_} : Snd 73 107 h0 (miT TbM) RX12 cX12_encode 6 (some .int) 221 (i_aload 222 0) := snd_aload_n rfl dX12_encode_221
theorem sX12_encode_222 {h0 : Hp_} : Snd 73 107 h0 (miT TbM) RX12 cX12_encode 6 (some .int) 222 (i_getR 11 40 225) := snd_getR rfl (by decide) (by decide) (by decide) (fun hK ho hs hq kk => gf_X12_96 hK ho hs hq rfl dX12_encode_222 kk)
theorem sX12_encode_225 {h0 : Hp_} : Snd 73 107 h0 (miT TbM) RX12 cX12_encode 6 (some .int) 225 (i_const 226 (vI 2)) := snd_iconst dX12_encode_225
theorem sX12_encode_226 {h0 : Hp_} : Snd 73 107 h0 (miT TbM) RX12 cX12_encode 6 (some .int) 226 (i_iload 227 1) := snd_iload_n rfl dX12_encode_226
theorem sX12_encode_227 {h0 : Hp_} : Snd 73 107 h0 (miT TbM) RX12 cX12_encode 6 (some .int) 227 (i_iast 73 107 228) := snd_iast dX12_encode_227
theorem sX12_encode_228 {h0 : Hp_} : Snd 73 107 h0 (miT TbM) RX12 cX12_encode 6 (some .int) 228 (i_aload 229 0) := snd_aload_n rfl dX12_encode_228
theorem sX12_encode_229 {h0 : Hp_} : Snd 73 107 h0 (miT TbM) RX12 cX12_encode 6 (some .int) 229 (i_getR 11 40 232) := snd_getR rfl (by decide) (by decide) (by decide) (fun hK ho hs hq kk => gf_X12_96 hK ho hs hq rfl dX12_encode_229 kk)
theorem sX12_encode_232 {h0 : Hp_} : Snd 73 107 h0 (miT TbM) RX12 cX12_encode 6 (some .int) 232 (i_const 233 (vI 3)) := snd_iconst dX12_encode_232
theorem sX12_encode_233 {h0 : Hp_} : Snd 73 107 h0 (miT TbM) RX12 cX12_encode 6 (some .int) 233 (i_iload 234 2) := snd_iload_n rfl dX12_encode_233
theorem sX12_encode_234 {h0 : Hp_} : Snd 73 107 h0 (miT TbM) RX12 cX12_encode 6 (some .int) 234 (i_iast 73 107 235) := snd_iast dX12_encode_234
theorem sX12_encode_235 {h0 : Hp_} : Snd 73 107 h0 (miT TbM) RX12 cX12_encode 6 (some .int) 235 (i_aload 236 0) := snd_aload_n rfl dX12_encode_235
theorem sX12_encode_236 {h0 : Hp_} : Snd 73 107 h0 (miT TbM) RX12 cX12_encode 6 (some .int) 236 (i_const 237 (vI 4)) := snd_iconst dX12_encode_236
theorem sX12_encode_237 {h0 : Hp_} : Snd 73 107 h0 (miT TbM) RX12 cX12_encode 6 (some .int) 237 (i_putI 11 41 240) := snd_putI hl73 (fun hK ho hs kk => pf_X12_329 hK ho hs dX12_encode_237 kk)
theorem sX12_encode_240 {h0 : Hp_} : Snd 73 107 h0 (miT TbM) RX12 cX12_encode 6 (some .int) 240 (i_const 241 (vI 1)) := snd_iconst dX12_encode_240
theorem sX12_encode_241 {h0 : Hp_} : Snd 73 107 h0 (miT TbM) RX12 cX12_encode 6 (some .int) 241 (i_istore 243 4) := snd_istore (by decide) dX12_encode_241
theorem sX12_encode_243 {h0 : Hp_} : Snd 73 107 h0 (miT TbM) RX12 cX12_encode 6 (some .int) 243 (i_iload 245 4) := snd_iload dX12_encode_243
theorem sX12_encode_245 {h0 : Hp_} : Snd 73 107 h0 (miT TbM) RX12 cX12_encode 6 (some .int) 245 (i_iload 246 2) := snd_iload_n rfl dX12_encode_245
theorem sX12_encode_246 {h0 : Hp_} : Snd 73 107 h0 (miT TbM) RX12 cX12_encode 6 (some .int) 246 (i_icmp_gt 249 279) := snd_icmp_gt dX12_encode_246 rfl
theorem sX12_encode_249 {h0 : Hp_} : Snd 73 107 h0 (miT TbM) RX12 cX12_encode 6 (some .int) 249 (i_const 250 (vI 0)) := snd_iconst dX12_encode_249
theorem sX12_encode_250 {h0 : Hp_} : Snd 73 107 h0 (miT TbM) RX12 cX12_encode 6 (some .int) 250 (i_istore 252 5) := snd_istore (by decide) dX12_encode_250
theorem sX12_encode_252 {h0 : Hp_} : Snd 73 107 h0 (miT TbM) RX12 cX12_encode 6 (some .int) 252 (i_iload 254 5) := snd_iload dX12_encode_252
theorem sX12_encode_254 {h0 : Hp_} : Snd 73 107 h0 (miT TbM) RX12 cX12_encode 6 (some .int) 254 (i_iload 255 1) := snd_iload_n rfl dX12_encode_254
theorem sX12_encode_255 {h0 : Hp_} : Snd 73 107 h0 (miT TbM) RX12 cX12_encode 6 (some .int) 255 (i_icmp_gt 258 273) := snd_icmp_gt dX12_encode_255 rfl
theorem sX12_encode_258 {h0 : Hp_} : Snd 73 107 h0 (miT TbM) RX12 cX12_encode 6 (some .int) 258 (i_aload 259 0) := snd_aload_n rfl dX12_encode_258
theorem sX12_encode_259 {h0 : Hp_} : Snd 73 107 h0 (miT TbM) RX12 cX12_encode 6 (some .int) 259 (i_iload 261 5) := snd_iload dX12_encode_259
theorem sX12_encode_261 {h0 : Hp_} : Snd 73 107 h0 (miT TbM) RX12 cX12_encode 6 (some .int) 261 (i_iload 263 4) := snd_iload dX12_encode_261
theorem sX12_encode_263 {h0 : Hp_} : Snd 73 107 h0 (miT TbM) RX12 cX12_encode 6 (some .int) 263 (i_iload 264 2) := snd_iload_n rfl dX12_encode_263
theorem sX12_encode_264 {h0 : Hp_} : Snd 73 107 h0 (miT TbM) RX12 cX12_encode 6 (some .int) 264 (i_cV3 33 11 267) := snd_cV3 (fun hK hd hC ho hs h6 h7 h8 kk => iv_X12_358 hK (mcM_33 hC) ho hs ⟨hd, by show _ ≤ 40 * (_ + 1); omega⟩ (Nat.le_refl _) h6 h7 h8 ⟨Nat.le_refl _, Nat.le_refl _⟩ dX12_encode_264 kk)
theorem sX12_encode_267 {h0 : Hp_} : Snd 73 107 h0 (miT TbM) RX12 cX12_encode 6 (some .int) 267 (i_iinc 270 5 1) := snd_iinc (by decide) dX12_encode_267
theorem sX12_encode_270 {h0 : Hp_} : Snd 73 107 h0 (miT TbM) RX12 cX12_encode 6 (some .int) 270 (i_goto 252) := snd_goto dX12_encode_270 rfl
theorem sX12_encode_273 {h0 : Hp_} : Snd 73 107 h0 (miT TbM) RX12 cX12_encode 6 (some .int) 273 (i_iinc 276 4 1) := snd_iinc (by decide) dX12_encode_273
theorem sX12_encode_276 {h0 : Hp_} : Snd 73 107 h0 (miT TbM) RX12 cX12_encode 6 (some .int) 276 (i_goto 243) := snd_goto dX12_encode_276 rfl
theorem sX12_encode_279 {h0 : Hp_} : Snd 73 107 h0 (miT TbM) RX12 cX12_encode 6 (some .int) 279 (i_aload 280 0) := snd_aload_n rfl dX12_encode_279
theorem sX12_encode_280 {h0 : Hp_} : Snd 73 107 h0 (miT TbM) RX12 cX12_encode 6 (some .int) 280 (i_getI 11 41 283) := snd_getI hl73 (fun hK ho hs hv kk => gf_X12_329 hK ho hs hv dX12_encode_280 kk)
theorem sX12_encode_283 {h0 : Hp_} : Snd 73 107 h0 (miT TbM) RX12 cX12_encode 6 (some .int) 283 (i_iret) := snd_iret dX12_encode_283
theorem kX12_encode {h0 : Hp_} : raA (okI 73 107 h0 (miT TbM) (yX12_encode, cX12_encode, 6, (some .int))) tX12_encode := (raA_br (raA_br (raA_br (raA_br (raA_br (raA_br (raA_br (raA_leaf sX12_encode_0) (raA_leaf sX12_encode_1)) (raA_br (raA_leaf sX12_encode_2) (raA_leaf sX12_encode_3))) (raA_br (raA_br (raA_leaf sX12_encode_4) (raA_leaf sX12_encode_7)) (raA_br (raA_leaf sX12_encode_10) (raA_br (raA_leaf sX12_encode_11) (raA_leaf sX12_encode_12))))) (raA_br (raA_br (raA_br (raA_leaf sX12_encode_13) (raA_leaf sX12_encode_16)) (raA_br (raA_leaf sX12_encode_19) (raA_br (raA_leaf sX12_encode_20) (raA_leaf sX12_encode_23)))) (raA_br (raA_br (raA_leaf sX12_encode_24) (raA_leaf sX12_encode_27)) (raA_br (raA_leaf sX12_encode_28) (raA_br (raA_leaf sX12_encode_31) (raA_leaf sX12_encode_34)))))) (raA_br (raA_br (raA_br (raA_br (raA_leaf sX12_encode_35) (raA_leaf sX12_encode_36)) (raA_br (raA_leaf sX12_encode_37) (raA_br (raA_leaf sX12_encode_38) (raA_leaf sX12_encode_39)))) (raA_br (raA_br (raA_leaf sX12_encode_41) (raA_leaf sX12_encode_44)) (raA_br (raA_leaf sX12_encode_45) (raA_br (raA_leaf sX12_encode_48) (raA_leaf sX12_encode_49))))) (raA_br (raA_br (raA_br (raA_leaf sX12_encode_50) (raA_leaf sX12_encode_53)) (raA_br (raA_leaf sX12_encode_54) (raA_br (raA_leaf sX12_encode_55) (raA_leaf sX12_encode_58)))) (raA_br (raA_br (raA_leaf sX12_encode_59) (raA_leaf sX12_encode_60)) (raA_br (raA_leaf sX12_encode_63) (raA_br (raA_leaf sX12_encode_66) (raA_leaf sX12_encode_67))))))) (raA_br (raA_br (raA_br (raA_br (raA_br (raA_leaf sX12_encode_68) (raA_leaf sX12_encode_69)) (raA_br (raA_leaf sX12_encode_70) (raA_br (raA_leaf sX12_encode_73) (raA_leaf sX12_encode_74)))) (raA_br (raA_br (raA_leaf sX12_encode_75) (raA_leaf sX12_encode_78)) (raA_br (raA_leaf sX12_encode_79) (raA_br (raA_leaf sX12_encode_82) (raA_leaf sX12_encode_83))))) (raA_br (raA_br (raA_br (raA_leaf sX12_encode_86) (raA_leaf sX12_encode_87)) (raA_br (raA_leaf sX12_encode_90) (raA_br (raA_leaf sX12_encode_91) (raA_leaf sX12_encode_94)))) (raA_br (raA_br (raA_leaf sX12_encode_95) (raA_leaf sX12_encode_96)) (raA_br (raA_leaf sX12_encode_99) (raA_br (raA_leaf sX12_encode_100) (raA_leaf sX12_encode_103)))))) (raA_br (raA_br (raA_br (raA_br (raA_leaf sX12_encode_104) (raA_leaf sX12_encode_107)) (raA_br (raA_leaf sX12_encode_108) (raA_br (raA_leaf sX12_encode_111) (raA_leaf sX12_encode_112)))) (raA_br (raA_br (raA_leaf sX12_encode_115) (raA_leaf sX12_encode_118)) (raA_br (raA_leaf sX12_encode_121) (raA_br (raA_leaf sX12_encode_122) (raA_leaf sX12_encode_123))))) (raA_br (raA_br (raA_br (raA_leaf sX12_encode_124) (raA_leaf sX12_encode_127)) (raA_br (raA_leaf sX12_encode_128) (raA_br (raA_leaf sX12_encode_131) (raA_leaf sX12_encode_132)))) (raA_br (raA_br (raA_leaf sX12_encode_135) (raA_leaf sX12_encode_136)) (raA_br (raA_leaf sX12_encode_137) (raA_br (raA_leaf sX12_encode_138) (raA_leaf sX12_encode_139)))))))) (raA_br (raA_br (raA_br (raA_br (raA_br (raA_br (raA_leaf sX12_encode_140) (raA_leaf sX12_encode_141)) (raA_br (raA_leaf sX12_encode_144) (raA_br (raA_leaf sX12_encode_145) (raA_leaf sX12_encode_146)))) (raA_br (raA_br (raA_leaf sX12_encode_147) (raA_leaf sX12_encode_149)) (raA_br (raA_leaf sX12_encode_151) (raA_br (raA_leaf sX12_encode_152) (raA_leaf sX12_encode_155))))) (raA_br (raA_br (raA_br (raA_leaf sX12_encode_158) (raA_leaf sX12_encode_159)) (raA_br (raA_leaf sX12_encode_161) (raA_br (raA_leaf sX12_encode_163) (raA_leaf sX12_encode_164)))) (raA_br (raA_br (raA_leaf sX12_encode_167) (raA_leaf sX12_encode_168)) (raA_br (raA_leaf sX12_encode_171) (raA_br (raA_leaf sX12_encode_172) (raA_leaf sX12_encode_175)))))) (raA_br (raA_br (raA_br (raA_br (raA_leaf sX12_encode_178) (raA_leaf sX12_encode_179)) (raA_br (raA_leaf sX12_encode_181) (raA_br (raA_leaf sX12_encode_182) (raA_leaf sX12_encode_185)))) (raA_br (raA_br (raA_leaf sX12_encode_186) (raA_leaf sX12_encode_187)) (raA_br (raA_leaf sX12_encode_190) (raA_br (raA_leaf sX12_encode_192) (raA_leaf sX12_encode_193))))) (raA_br (raA_br (raA_br (raA_leaf sX12_encode_194) (raA_leaf sX12_encode_195)) (raA_br (raA_leaf sX12_encode_198) (raA_br (raA_leaf sX12_encode_201) (raA_leaf sX12_encode_202)))) (raA_br (raA_br (raA_leaf sX12_encode_205) (raA_leaf sX12_encode_206)) (raA_br (raA_leaf sX12_encode_207) (raA_br (raA_leaf sX12_encode_210) (raA_leaf sX12_encode_211))))))) (raA_br (raA_br (raA_br (raA_br (raA_br (raA_leaf sX12_encode_212) (raA_leaf sX12_encode_215)) (raA_br (raA_leaf sX12_encode_216) (raA_br (raA_leaf sX12_encode_217) (raA_leaf sX12_encode_220)))) (raA_br (raA_br (raA_leaf sX12_encode_221) (raA_leaf sX12_encode_222)) (raA_br (raA_leaf sX12_encode_225) (raA_br (raA_leaf sX12_encode_226) (raA_leaf sX12_encode_227))))) (raA_br (raA_br (raA_br (raA_leaf sX12_encode_228) (raA_leaf sX12_encode_229)) (raA_br (raA_leaf sX12_encode_232) (raA_br (raA_leaf sX12_encode_233) (raA_leaf sX12_encode_234)))) (raA_br (raA_br (raA_leaf sX12_encode_235) (raA_leaf sX12_encode_236)) (raA_br (raA_leaf sX12_encode_237) (raA_br (raA_leaf sX12_encode_240) (raA_leaf sX12_encode_241)))))) (raA_br (raA_br (raA_br (raA_br (raA_leaf sX12_encode_243) (raA_leaf sX12_encode_245)) (raA_br (raA_leaf sX12_encode_246) (raA_br (raA_leaf sX12_encode_249) (raA_leaf sX12_encode_250)))) (raA_br (raA_br (raA_leaf sX12_encode_252) (raA_leaf sX12_encode_254)) (raA_br (raA_leaf sX12_encode_255) (raA_br (raA_leaf sX12_encode_258) (raA_leaf sX12_encode_259))))) (raA_br (raA_br (raA_br (raA_leaf sX12_encode_261) (raA_leaf sX12_encode_263)) (raA_br (raA_leaf sX12_encode_264) (raA_br (raA_leaf sX12_encode_267) (raA_leaf sX12_encode_270)))) (raA_br (raA_br (raA_leaf sX12_encode_273) (raA_leaf sX12_encode_276)) (raA_br (raA_leaf sX12_encode_279) (raA_br (raA_leaf sX12_encode_280) (raA_leaf sX12_encode_283)))))))))
theorem sX12_endTelling_0 {h0 : Hp_} : Snd 73 107 h0 (miT TbM) RX12 cX12_endTelling 5 none 0 (i_aload 1 0) := snd_aload_n rfl dX12_endTelling_0
theorem sX12_endTelling_1 {h0 : Hp_} : Snd 73 107 h0 (miT TbM) RX12 cX12_endTelling 5 none 1 (i_getJ 11 33 4) := snd_getJ hl73 (fun hK ho hs hv kk => gf_X12_175 hK ho hs hv dX12_endTelling_1 kk)
theorem sX12_endTelling_4 {h0 : Hp_} : Snd 73 107 h0 (miT TbM) RX12 cX12_endTelling 5 none 4 (i_aload 5 0) := snd_aload_n rfl dX12_endTelling_4
theorem sX12_endTelling_5 {h0 : Hp_} : Snd 73 107 h0 (miT TbM) RX12 cX12_endTelling 5 none 5 (i_getJ 11 32 8) := snd_getJ hl73 (fun hK ho hs hv kk => gf_X12_171 hK ho hs hv dX12_endTelling_5 kk)
theorem sX12_endTelling_8 {h0 : Hp_} : Snd 73 107 h0 (miT TbM) RX12 cX12_endTelling 5 none 8 (i_ladd 9) := snd_ladd dX12_endTelling_8
theorem sX12_endTelling_9 {h0 : Hp_} : Snd 73 107 h0 (miT TbM) RX12 cX12_endTelling 5 none 9 (i_lstore 10 1) := snd_lstore_n rfl (by decide) dX12_endTelling_9
theorem sX12_endTelling_10 {h0 : Hp_} : Snd 73 107 h0 (miT TbM) RX12 cX12_endTelling 5 none 10 (i_aload 11 0) := snd_aload_n rfl dX12_endTelling_10
theorem sX12_endTelling_11 {h0 : Hp_} : Snd 73 107 h0 (miT TbM) RX12 cX12_endTelling 5 none 11 (i_aload 12 0) := snd_aload_n rfl dX12_endTelling_11
theorem sX12_endTelling_12 {h0 : Hp_} : Snd 73 107 h0 (miT TbM) RX12 cX12_endTelling 5 none 12 (i_getJ 11 33 15) := snd_getJ hl73 (fun hK ho hs hv kk => gf_X12_175 hK ho hs hv dX12_endTelling_12 kk)
theorem sX12_endTelling_15 {h0 : Hp_} : Snd 73 107 h0 (miT TbM) RX12 cX12_endTelling 5 none 15 (i_const 18 (vJ 65536)) := snd_ldc2 lc_X12_198 dX12_endTelling_15
theorem sX12_endTelling_18 {h0 : Hp_} : Snd 73 107 h0 (miT TbM) RX12 cX12_endTelling 5 none 18 (i_ldiv 19) := snd_ldiv dX12_endTelling_18
theorem sX12_endTelling_19 {h0 : Hp_} : Snd 73 107 h0 (miT TbM) RX12 cX12_endTelling 5 none 19 (i_const 22 (vJ 65536)) := snd_ldc2 lc_X12_198 dX12_endTelling_19
theorem sX12_endTelling_22 {h0 : Hp_} : Snd 73 107 h0 (miT TbM) RX12 cX12_endTelling 5 none 22 (i_lmul 23) := snd_lmul dX12_endTelling_22
theorem sX12_endTelling_23 {h0 : Hp_} : Snd 73 107 h0 (miT TbM) RX12 cX12_endTelling 5 none 23 (i_const 26 (vJ 65535)) := snd_ldc2 lc_X12_200 dX12_endTelling_23
theorem sX12_endTelling_26 {h0 : Hp_} : Snd 73 107 h0 (miT TbM) RX12 cX12_endTelling 5 none 26 (i_ladd 27) := snd_ladd dX12_endTelling_26
theorem sX12_endTelling_27 {h0 : Hp_} : Snd 73 107 h0 (miT TbM) RX12 cX12_endTelling 5 none 27 (i_putJ 11 33 30) := snd_putJ hl73 (fun hK ho hs kk => pf_X12_175 hK ho hs dX12_endTelling_27 kk)
theorem sX12_endTelling_30 {h0 : Hp_} : Snd 73 107 h0 (miT TbM) RX12 cX12_endTelling 5 none 30 (i_aload 31 0) := snd_aload_n rfl dX12_endTelling_30
theorem sX12_endTelling_31 {h0 : Hp_} : Snd 73 107 h0 (miT TbM) RX12 cX12_endTelling 5 none 31 (i_aload 32 0) := snd_aload_n rfl dX12_endTelling_31
theorem sX12_endTelling_32 {h0 : Hp_} : Snd 73 107 h0 (miT TbM) RX12 cX12_endTelling 5 none 32 (i_getJ 11 33 35) := snd_getJ hl73 (fun hK ho hs hv kk => gf_X12_175 hK ho hs hv dX12_endTelling_32 kk)
theorem sX12_endTelling_35 {h0 : Hp_} : Snd 73 107 h0 (miT TbM) RX12 cX12_endTelling 5 none 35 (i_lload 36 1) := snd_lload_n rfl dX12_endTelling_35
theorem sX12_endTelling_36 {h0 : Hp_} : Snd 73 107 h0 (miT TbM) RX12 cX12_endTelling 5 none 36 (i_lcmp 37) := snd_lcmp dX12_endTelling_36
theorem sX12_endTelling_37 {h0 : Hp_} : Snd 73 107 h0 (miT TbM) RX12 cX12_endTelling 5 none 37 (i_if_lt 40 51) := snd_if_lt dX12_endTelling_37 rfl
theorem sX12_endTelling_40 {h0 : Hp_} : Snd 73 107 h0 (miT TbM) RX12 cX12_endTelling 5 none 40 (i_aload 41 0) := snd_aload_n rfl dX12_endTelling_40
theorem sX12_endTelling_41 {h0 : Hp_} : Snd 73 107 h0 (miT TbM) RX12 cX12_endTelling 5 none 41 (i_getJ 11 33 44) := snd_getJ hl73 (fun hK ho hs hv kk => gf_X12_175 hK ho hs hv dX12_endTelling_41 kk)
theorem sX12_endTelling_44 {h0 : Hp_} : Snd 73 107 h0 (miT TbM) RX12 cX12_endTelling 5 none 44 (i_const 47 (vJ 32768)) := snd_ldc2 lc_X12_169 dX12_endTelling_44
theorem sX12_endTelling_47 {h0 : Hp_} : Snd 73 107 h0 (miT TbM) RX12 cX12_endTelling 5 none 47 (i_lsub 48) := snd_lsub dX12_endTelling_47
theorem sX12_endTelling_48 {h0 : Hp_} : Snd 73 107 h0 (miT TbM) RX12 cX12_endTelling 5 none 48 (i_goto 55) := snd_goto dX12_endTelling_48 rfl
theorem sX12_endTelling_51 {h0 : Hp_} : Snd 73 107 h0 (miT TbM) RX12 cX12_endTelling 5 none 51 (i_aload 52 0) := snd_aload_n rfl dX12_endTelling_51
theorem sX12_endTelling_52 {h0 : Hp_} : Snd 73 107 h0 (miT TbM) RX12 cX12_endTelling 5 none 52 (i_getJ 11 33 55) := snd_getJ hl73 (fun hK ho hs hv kk => gf_X12_175 hK ho hs hv dX12_endTelling_52 kk)
theorem sX12_endTelling_55 {h0 : Hp_} : Snd 73 107 h0 (miT TbM) RX12 cX12_endTelling 5 none 55 (i_putJ 11 33 58) := snd_putJ hl73 (fun hK ho hs kk => pf_X12_175 hK ho hs dX12_endTelling_55 kk)
theorem sX12_endTelling_58 {h0 : Hp_} : Snd 73 107 h0 (miT TbM) RX12 cX12_endTelling 5 none 58 (i_const 59 (vI 0)) := snd_iconst dX12_endTelling_58
theorem sX12_endTelling_59 {h0 : Hp_} : Snd 73 107 h0 (miT TbM) RX12 cX12_endTelling 5 none 59 (i_istore 60 3) := snd_istore_n rfl (by decide) dX12_endTelling_59
theorem sX12_endTelling_60 {h0 : Hp_} : Snd 73 107 h0 (miT TbM) RX12 cX12_endTelling 5 none 60 (i_iload 61 3) := snd_iload_n rfl dX12_endTelling_60
theorem sX12_endTelling_61 {h0 : Hp_} : Snd 73 107 h0 (miT TbM) RX12 cX12_endTelling 5 none 61 (i_const 62 (vI 2)) := snd_iconst dX12_endTelling_61
theorem sX12_endTelling_62 {h0 : Hp_} : Snd 73 107 h0 (miT TbM) RX12 cX12_endTelling 5 none 62 (i_icmp_ge 65 104) := snd_icmp_ge dX12_endTelling_62 rfl
theorem sX12_endTelling_65 {h0 : Hp_} : Snd 73 107 h0 (miT TbM) RX12 cX12_endTelling 5 none 65 (i_aload 66 0) := snd_aload_n rfl dX12_endTelling_65
theorem sX12_endTelling_66 {h0 : Hp_} : Snd 73 107 h0 (miT TbM) RX12 cX12_endTelling 5 none 66 (i_getI 11 34 69) := snd_getI hl73 (fun hK ho hs hv kk => gf_X12_178 hK ho hs hv dX12_endTelling_66 kk)
theorem sX12_endTelling_69 {h0 : Hp_} : Snd 73 107 h0 (miT TbM) RX12 cX12_endTelling 5 none 69 (i_istore 71 4) := snd_istore (by decide) dX12_endTelling_69
theorem sX12_endTelling_71 {h0 : Hp_} : Snd 73 107 h0 (miT TbM) RX12 cX12_endTelling 5 none 71 (i_iload 73 4) := snd_iload dX12_endTelling_71
theorem sX12_endTelling_73 {h0 : Hp_} : Snd 73 107 h0 (miT TbM) RX12 cX12_endTelling 5 none 73 (i_if_le 76 94) := snd_if_le dX12_endTelling_73 rfl
theorem sX12_endTelling_76 {h0 : Hp_} : Snd 73 107 h0 (miT TbM) RX12 cX12_endTelling 5 none 76 (i_aload 77 0) := snd_aload_n rfl dX12_endTelling_76
theorem sX12_endTelling_77 {h0 : Hp_} : Snd 73 107 h0 (miT TbM) RX12 cX12_endTelling 5 none 77 (i_const 80 (vJ 2)) := snd_ldc2 lc_X12_193 dX12_endTelling_77
theorem sX12_endTelling_80 {h0 : Hp_} : Snd 73 107 h0 (miT TbM) RX12 cX12_endTelling 5 none 80 (i_aload 81 0) := snd_aload_n rfl dX12_endTelling_80
theorem sX12_endTelling_81 {h0 : Hp_} : Snd 73 107 h0 (miT TbM) RX12 cX12_endTelling 5 none 81 (i_getJ 11 33 84) := snd_getJ hl73 (fun hK ho hs hv kk => gf_X12_175 hK ho hs hv dX12_endTelling_81 kk)
theorem sX12_endTelling_84 {h0 : Hp_} : Snd 73 107 h0 (miT TbM) RX12 cX12_endTelling 5 none 84 (i_lmul 85) := snd_lmul dX12_endTelling_84
theorem sX12_endTelling_85 {h0 : Hp_} : Snd 73 107 h0 (miT TbM) RX12 cX12_endTelling 5 none 85 (i_putJ 11 33 88) := snd_putJ hl73 (fun hK ho hs kk => pf_X12_175 hK ho hs dX12_endTelling_85 kk)
theorem sX12_endTelling_88 {h0 : Hp_} : Snd 73 107 h0 (miT TbM) RX12 cX12_endTelling 5 none 88 (i_iinc 91 4 (-1)) := snd_iinc (by decide) dX12_endTelling_88
theorem sX12_endTelling_91 {h0 : Hp_} : Snd 73 107 h0 (miT TbM) RX12 cX12_endTelling 5 none 91 (i_goto 71) := snd_goto dX12_endTelling_91 rfl
theorem sX12_endTelling_94 {h0 : Hp_} : Snd 73 107 h0 (miT TbM) RX12 cX12_endTelling 5 none 94 (i_aload 95 0) := snd_aload_n rfl dX12_endTelling_94
theorem sX12_endTelling_95 {h0 : Hp_} : Snd 73 107 h0 (miT TbM) RX12 cX12_endTelling 5 none 95 (i_cV0 32 11 98) := snd_cV0 (fun hK hd hC ho hs h6 h7 h8 kk => iv_X12_195 hK (mcM_32 hC) ho hs ⟨hd, by show _ ≤ 40 * (_ + 1); omega⟩ (Nat.le_refl _) h6 h7 h8 ⟨Nat.le_refl _, Nat.le_refl _⟩ dX12_endTelling_95 kk)
theorem sX12_endTelling_98 {h0 : Hp_} : Snd 73 107 h0 (miT TbM) RX12 cX12_endTelling 5 none 98 (i_iinc 101 3 1) := snd_iinc (by decide) dX12_endTelling_98
theorem sX12_endTelling_101 {h0 : Hp_} : Snd 73 107 h0 (miT TbM) RX12 cX12_endTelling 5 none 101 (i_goto 60) := snd_goto dX12_endTelling_101 rfl
theorem sX12_endTelling_104 {h0 : Hp_} : Snd 73 107 h0 (miT TbM) RX12 cX12_endTelling 5 none 104 (i_aload 105 0) := snd_aload_n rfl dX12_endTelling_104
theorem sX12_endTelling_105 {h0 : Hp_} : Snd 73 107 h0 (miT TbM) RX12 cX12_endTelling 5 none 105 (i_aload 106 0) := snd_aload_n rfl dX12_endTelling_105
theorem sX12_endTelling_106 {h0 : Hp_} : Snd 73 107 h0 (miT TbM) RX12 cX12_endTelling 5 none 106 (i_getR 11 35 109) := snd_getR rfl (by decide) (by decide) (by decide) (fun hK ho hs hq kk => gf_X12_90 hK ho hs hq rfl dX12_endTelling_106 kk)
theorem sX12_endTelling_109 {h0 : Hp_} : Snd 73 107 h0 (miT TbM) RX12 cX12_endTelling 5 none 109 (i_aload 110 0) := snd_aload_n rfl dX12_endTelling_109
theorem sX12_endTelling_110 {h0 : Hp_} : Snd 73 107 h0 (miT TbM) RX12 cX12_endTelling 5 none 110 (i_getI 11 36 113) := snd_getI hl73 (fun hK ho hs hv kk => gf_X12_166 hK ho hs hv dX12_endTelling_110 kk)
theorem sX12_endTelling_113 {h0 : Hp_} : Snd 73 107 h0 (miT TbM) RX12 cX12_endTelling 5 none 113 (i_const 114 (vI 1)) := snd_iconst dX12_endTelling_113
theorem sX12_endTelling_114 {h0 : Hp_} : Snd 73 107 h0 (miT TbM) RX12 cX12_endTelling 5 none 114 (i_isub 115) := snd_isub dX12_endTelling_114
theorem sX12_endTelling_115 {h0 : Hp_} : Snd 73 107 h0 (miT TbM) RX12 cX12_endTelling 5 none 115 (i_iald 73 107 116) := snd_iald dX12_endTelling_115
theorem sX12_endTelling_116 {h0 : Hp_} : Snd 73 107 h0 (miT TbM) RX12 cX12_endTelling 5 none 116 (i_const 119 (vI 255)) := snd_sipush (by decide) dX12_endTelling_116
theorem sX12_endTelling_119 {h0 : Hp_} : Snd 73 107 h0 (miT TbM) RX12 cX12_endTelling 5 none 119 (i_icmp_ne 122 131) := snd_icmp_ne dX12_endTelling_119 rfl
theorem sX12_endTelling_122 {h0 : Hp_} : Snd 73 107 h0 (miT TbM) RX12 cX12_endTelling 5 none 122 (i_aload 123 0) := snd_aload_n rfl dX12_endTelling_122
theorem sX12_endTelling_123 {h0 : Hp_} : Snd 73 107 h0 (miT TbM) RX12 cX12_endTelling 5 none 123 (i_getI 11 36 126) := snd_getI hl73 (fun hK ho hs hv kk => gf_X12_166 hK ho hs hv dX12_endTelling_123 kk)
theorem sX12_endTelling_126 {h0 : Hp_} : Snd 73 107 h0 (miT TbM) RX12 cX12_endTelling 5 none 126 (i_const 127 (vI 1)) := snd_iconst dX12_endTelling_126
theorem sX12_endTelling_127 {h0 : Hp_} : Snd 73 107 h0 (miT TbM) RX12 cX12_endTelling 5 none 127 (i_isub 128) := snd_isub dX12_endTelling_127
theorem sX12_endTelling_128 {h0 : Hp_} : Snd 73 107 h0 (miT TbM) RX12 cX12_endTelling 5 none 128 (i_goto 135) := snd_goto dX12_endTelling_128 rfl
theorem sX12_endTelling_131 {h0 : Hp_} : Snd 73 107 h0 (miT TbM) RX12 cX12_endTelling 5 none 131 (i_aload 132 0) := snd_aload_n rfl dX12_endTelling_131
theorem sX12_endTelling_132 {h0 : Hp_} : Snd 73 107 h0 (miT TbM) RX12 cX12_endTelling 5 none 132 (i_getI 11 36 135) := snd_getI hl73 (fun hK ho hs hv kk => gf_X12_166 hK ho hs hv dX12_endTelling_132 kk)
theorem sX12_endTelling_135 {h0 : Hp_} : Snd 73 107 h0 (miT TbM) RX12 cX12_endTelling 5 none 135 (i_putI 11 36 138) := snd_putI hl73 (fun hK ho hs kk => pf_X12_166 hK ho hs dX12_endTelling_135 kk)
theorem sX12_endTelling_138 {h0 : Hp_} : Snd 73 107 h0 (miT TbM) RX12 cX12_endTelling 5 none 138 (i_vret) := snd_vret dX12_endTelling_138
theorem kX12_endTelling {h0 : Hp_} : raA (okI 73 107 h0 (miT TbM) (yX12_endTelling, cX12_endTelling, 5, none)) tX12_endTelling := (raA_br (raA_br (raA_br (raA_br (raA_br (raA_br (raA_leaf sX12_endTelling_0) (raA_leaf sX12_endTelling_1)) (raA_br (raA_leaf sX12_endTelling_4) (raA_leaf sX12_endTelling_5))) (raA_br (raA_br (raA_leaf sX12_endTelling_8) (raA_leaf sX12_endTelling_9)) (raA_br (raA_leaf sX12_endTelling_10) (raA_leaf sX12_endTelling_11)))) (raA_br (raA_br (raA_br (raA_leaf sX12_endTelling_12) (raA_leaf sX12_endTelling_15)) (raA_br (raA_leaf sX12_endTelling_18) (raA_leaf sX12_endTelling_19))) (raA_br (raA_br (raA_leaf sX12_endTelling_22) (raA_leaf sX12_endTelling_23)) (raA_br (raA_leaf sX12_endTelling_26) (raA_br (raA_leaf sX12_endTelling_27) (raA_leaf sX12_endTelling_30)))))) (raA_br (raA_br (raA_br (raA_br (raA_leaf sX12_endTelling_31) (raA_leaf sX12_endTelling_32)) (raA_br (raA_leaf sX12_endTelling_35) (raA_leaf sX12_endTelling_36))) (raA_br (raA_br (raA_leaf sX12_endTelling_37) (raA_leaf sX12_endTelling_40)) (raA_br (raA_leaf sX12_endTelling_41) (raA_br (raA_leaf sX12_endTelling_44) (raA_leaf sX12_endTelling_47))))) (raA_br (raA_br (raA_br (raA_leaf sX12_endTelling_48) (raA_leaf sX12_endTelling_51)) (raA_br (raA_leaf sX12_endTelling_52) (raA_leaf sX12_endTelling_55))) (raA_br (raA_br (raA_leaf sX12_endTelling_58) (raA_leaf sX12_endTelling_59)) (raA_br (raA_leaf sX12_endTelling_60) (raA_br (raA_leaf sX12_endTelling_61) (raA_leaf sX12_endTelling_62))))))) (raA_br (raA_br (raA_br (raA_br (raA_br (raA_leaf sX12_endTelling_65) (raA_leaf sX12_endTelling_66)) (raA_br (raA_leaf sX12_endTelling_69) (raA_leaf sX12_endTelling_71))) (raA_br (raA_br (raA_leaf sX12_endTelling_73) (raA_leaf sX12_endTelling_76)) (raA_br (raA_leaf sX12_endTelling_77) (raA_br (raA_leaf sX12_endTelling_80) (raA_leaf sX12_endTelling_81))))) (raA_br (raA_br (raA_br (raA_leaf sX12_endTelling_84) (raA_leaf sX12_endTelling_85)) (raA_br (raA_leaf sX12_endTelling_88) (raA_leaf sX12_endTelling_91))) (raA_br (raA_br (raA_leaf sX12_endTelling_94) (raA_leaf sX12_endTelling_95)) (raA_br (raA_leaf sX12_endTelling_98) (raA_br (raA_leaf sX12_endTelling_101) (raA_leaf sX12_endTelling_104)))))) (raA_br (raA_br (raA_br (raA_br (raA_leaf sX12_endTelling_105) (raA_leaf sX12_endTelling_106)) (raA_br (raA_leaf sX12_endTelling_109) (raA_leaf sX12_endTelling_110))) (raA_br (raA_br (raA_leaf sX12_endTelling_113) (raA_leaf sX12_endTelling_114)) (raA_br (raA_leaf sX12_endTelling_115) (raA_br (raA_leaf sX12_endTelling_116) (raA_leaf sX12_endTelling_119))))) (raA_br (raA_br (raA_br (raA_leaf sX12_endTelling_122) (raA_leaf sX12_endTelling_123)) (raA_br (raA_leaf sX12_endTelling_126) (raA_leaf sX12_endTelling_127))) (raA_br (raA_br (raA_leaf sX12_endTelling_128) (raA_leaf sX12_endTelling_131)) (raA_br (raA_leaf sX12_endTelling_132) (raA_br (raA_leaf sX12_endTelling_135) (raA_leaf sX12_endTelling_138))))))))
theorem sX12_findPlanes_0 {h0 : Hp_} : Snd 73 107 h0 (miT TbM) RX12 cX12_findPlanes 3 none 0 (i_aload 1 0) := snd_aload_n rfl dX12_findPlanes_0
theorem sX12_findPlanes_1 {h0 : Hp_} : Snd 73 107 h0 (miT TbM) RX12 cX12_findPlanes 3 none 1 (i_getR 11 12 4) := snd_getR rfl (by decide) (by decide) (by decide) (fun hK ho hs hq kk => gf_X12_44 hK ho hs hq rfl dX12_findPlanes_1 kk)
theorem sX12_findPlanes_4 {h0 : Hp_} : Snd 73 107 h0 (miT TbM) RX12 cX12_findPlanes 3 none 4 (i_iload 5 1) := snd_iload_n rfl dX12_findPlanes_4
theorem sX12_findPlanes_5 {h0 : Hp_} : Snd 73 107 h0 (miT TbM) RX12 cX12_findPlanes 3 none 5 (i_const 6 (vI 0)) := snd_iconst dX12_findPlanes_5
theorem sX12_findPlanes_6 {h0 : Hp_} : Snd 73 107 h0 (miT TbM) RX12 cX12_findPlanes 3 none 6 (i_iast 73 107 7) := snd_iast dX12_findPlanes_6
theorem sX12_findPlanes_7 {h0 : Hp_} : Snd 73 107 h0 (miT TbM) RX12 cX12_findPlanes 3 none 7 (i_const 9 (vI 64)) := snd_bipush (by decide) dX12_findPlanes_7
theorem sX12_findPlanes_9 {h0 : Hp_} : Snd 73 107 h0 (miT TbM) RX12 cX12_findPlanes 3 none 9 (i_iload 10 1) := snd_iload_n rfl dX12_findPlanes_9
theorem sX12_findPlanes_10 {h0 : Hp_} : Snd 73 107 h0 (miT TbM) RX12 cX12_findPlanes 3 none 10 (i_imul 11) := snd_imul dX12_findPlanes_10
theorem sX12_findPlanes_11 {h0 : Hp_} : Snd 73 107 h0 (miT TbM) RX12 cX12_findPlanes 3 none 11 (i_istore 12 2) := snd_istore_n rfl (by decide) dX12_findPlanes_11
theorem sX12_findPlanes_12 {h0 : Hp_} : Snd 73 107 h0 (miT TbM) RX12 cX12_findPlanes 3 none 12 (i_iload 13 2) := snd_iload_n rfl dX12_findPlanes_12
theorem sX12_findPlanes_13 {h0 : Hp_} : Snd 73 107 h0 (miT TbM) RX12 cX12_findPlanes 3 none 13 (i_const 15 (vI 64)) := snd_bipush (by decide) dX12_findPlanes_13
theorem sX12_findPlanes_15 {h0 : Hp_} : Snd 73 107 h0 (miT TbM) RX12 cX12_findPlanes 3 none 15 (i_iload 16 1) := snd_iload_n rfl dX12_findPlanes_15
theorem sX12_findPlanes_16 {h0 : Hp_} : Snd 73 107 h0 (miT TbM) RX12 cX12_findPlanes 3 none 16 (i_imul 17) := snd_imul dX12_findPlanes_16
theorem sX12_findPlanes_17 {h0 : Hp_} : Snd 73 107 h0 (miT TbM) RX12 cX12_findPlanes 3 none 17 (i_const 19 (vI 64)) := snd_bipush (by decide) dX12_findPlanes_17
theorem sX12_findPlanes_19 {h0 : Hp_} : Snd 73 107 h0 (miT TbM) RX12 cX12_findPlanes 3 none 19 (i_iadd 20) := snd_iadd dX12_findPlanes_19
theorem sX12_findPlanes_20 {h0 : Hp_} : Snd 73 107 h0 (miT TbM) RX12 cX12_findPlanes 3 none 20 (i_icmp_ge 23 59) := snd_icmp_ge dX12_findPlanes_20 rfl
theorem sX12_findPlanes_23 {h0 : Hp_} : Snd 73 107 h0 (miT TbM) RX12 cX12_findPlanes 3 none 23 (i_aload 24 0) := snd_aload_n rfl dX12_findPlanes_23
theorem sX12_findPlanes_24 {h0 : Hp_} : Snd 73 107 h0 (miT TbM) RX12 cX12_findPlanes 3 none 24 (i_getR 11 13 27) := snd_getR rfl (by decide) (by decide) (by decide) (fun hK ho hs hq kk => gf_X12_47 hK ho hs hq rfl dX12_findPlanes_24 kk)
theorem sX12_findPlanes_27 {h0 : Hp_} : Snd 73 107 h0 (miT TbM) RX12 cX12_findPlanes 3 none 27 (i_iload 28 2) := snd_iload_n rfl dX12_findPlanes_27
theorem sX12_findPlanes_28 {h0 : Hp_} : Snd 73 107 h0 (miT TbM) RX12 cX12_findPlanes 3 none 28 (i_iald 73 107 29) := snd_iald dX12_findPlanes_28
theorem sX12_findPlanes_29 {h0 : Hp_} : Snd 73 107 h0 (miT TbM) RX12 cX12_findPlanes 3 none 29 (i_const 30 (vI 1)) := snd_iconst dX12_findPlanes_29
theorem sX12_findPlanes_30 {h0 : Hp_} : Snd 73 107 h0 (miT TbM) RX12 cX12_findPlanes 3 none 30 (i_aload 31 0) := snd_aload_n rfl dX12_findPlanes_30
theorem sX12_findPlanes_31 {h0 : Hp_} : Snd 73 107 h0 (miT TbM) RX12 cX12_findPlanes 3 none 31 (i_getR 11 12 34) := snd_getR rfl (by decide) (by decide) (by decide) (fun hK ho hs hq kk => gf_X12_44 hK ho hs hq rfl dX12_findPlanes_31 kk)
theorem sX12_findPlanes_34 {h0 : Hp_} : Snd 73 107 h0 (miT TbM) RX12 cX12_findPlanes 3 none 34 (i_iload 35 1) := snd_iload_n rfl dX12_findPlanes_34
theorem sX12_findPlanes_35 {h0 : Hp_} : Snd 73 107 h0 (miT TbM) RX12 cX12_findPlanes 3 none 35 (i_iald 73 107 36) := snd_iald dX12_findPlanes_35
theorem sX12_findPlanes_36 {h0 : Hp_} : Snd 73 107 h0 (miT TbM) RX12 cX12_findPlanes 3 none 36 (i_ishl 37) := snd_ishl dX12_findPlanes_36
theorem sX12_findPlanes_37 {h0 : Hp_} : Snd 73 107 h0 (miT TbM) RX12 cX12_findPlanes 3 none 37 (i_icmp_lt 40 53) := snd_icmp_lt dX12_findPlanes_37 rfl
theorem sX12_findPlanes_40 {h0 : Hp_} : Snd 73 107 h0 (miT TbM) RX12 cX12_findPlanes 3 none 40 (i_aload 41 0) := snd_aload_n rfl dX12_findPlanes_40
theorem sX12_findPlanes_41 {h0 : Hp_} : Snd 73 107 h0 (miT TbM) RX12 cX12_findPlanes 3 none 41 (i_getR 11 12 44) := snd_getR rfl (by decide) (by decide) (by decide) (fun hK ho hs hq kk => gf_X12_44 hK ho hs hq rfl dX12_findPlanes_41 kk)
theorem sX12_findPlanes_44 {h0 : Hp_} : Snd 73 107 h0 (miT TbM) RX12 cX12_findPlanes 3 none 44 (i_iload 45 1) := snd_iload_n rfl dX12_findPlanes_44
theorem sX12_findPlanes_45 {h0 : Hp_} : Snd 73 107 h0 (miT TbM) RX12 cX12_findPlanes 3 none 45 (i_dup2 46) := snd_dup2 dX12_findPlanes_45
theorem sX12_findPlanes_46 {h0 : Hp_} : Snd 73 107 h0 (miT TbM) RX12 cX12_findPlanes 3 none 46 (i_iald 73 107 47) := snd_iald dX12_findPlanes_46
theorem sX12_findPlanes_47 {h0 : Hp_} : Snd 73 107 h0 (miT TbM) RX12 cX12_findPlanes 3 none 47 (i_const 48 (vI 1)) := snd_iconst dX12_findPlanes_47
theorem sX12_findPlanes_48 {h0 : Hp_} : Snd 73 107 h0 (miT TbM) RX12 cX12_findPlanes 3 none 48 (i_iadd 49) := snd_iadd dX12_findPlanes_48
theorem sX12_findPlanes_49 {h0 : Hp_} : Snd 73 107 h0 (miT TbM) RX12 cX12_findPlanes 3 none 49 (i_iast 73 107 50) := snd_iast dX12_findPlanes_49
theorem sX12_findPlanes_50 {h0 : Hp_} : Snd 73 107 h0 (miT TbM) RX12 cX12_findPlanes 3 none 50 (i_goto 23) := snd_goto dX12_findPlanes_50 rfl
theorem sX12_findPlanes_53 {h0 : Hp_} : Snd 73 107 h0 (miT TbM) RX12 cX12_findPlanes 3 none 53 (i_iinc 56 2 1) := snd_iinc (by decide) dX12_findPlanes_53
theorem sX12_findPlanes_56 {h0 : Hp_} : Snd 73 107 h0 (miT TbM) RX12 cX12_findPlanes 3 none 56 (i_goto 12) := snd_goto dX12_findPlanes_56 rfl
theorem sX12_findPlanes_59 {h0 : Hp_} : Snd 73 107 h0 (miT TbM) RX12 cX12_findPlanes 3 none 59 (i_vret) := snd_vret dX12_findPlanes_59
theorem kX12_findPlanes {h0 : Hp_} : raA (okI 73 107 h0 (miT TbM) (yX12_findPlanes, cX12_findPlanes, 3, none)) tX12_findPlanes := (raA_br (raA_br (raA_br (raA_br (raA_br (raA_leaf sX12_findPlanes_0) (raA_leaf sX12_findPlanes_1)) (raA_br (raA_leaf sX12_findPlanes_4) (raA_leaf sX12_findPlanes_5))) (raA_br (raA_br (raA_leaf sX12_findPlanes_6) (raA_leaf sX12_findPlanes_7)) (raA_br (raA_leaf sX12_findPlanes_9) (raA_br (raA_leaf sX12_findPlanes_10) (raA_leaf sX12_findPlanes_11))))) (raA_br (raA_br (raA_br (raA_leaf sX12_findPlanes_12) (raA_leaf sX12_findPlanes_13)) (raA_br (raA_leaf sX12_findPlanes_15) (raA_br (raA_leaf sX12_findPlanes_16) (raA_leaf sX12_findPlanes_17)))) (raA_br (raA_br (raA_leaf sX12_findPlanes_19) (raA_leaf sX12_findPlanes_20)) (raA_br (raA_leaf sX12_findPlanes_23) (raA_br (raA_leaf sX12_findPlanes_24) (raA_leaf sX12_findPlanes_27)))))) (raA_br (raA_br (raA_br (raA_br (raA_leaf sX12_findPlanes_28) (raA_leaf sX12_findPlanes_29)) (raA_br (raA_leaf sX12_findPlanes_30) (raA_br (raA_leaf sX12_findPlanes_31) (raA_leaf sX12_findPlanes_34)))) (raA_br (raA_br (raA_leaf sX12_findPlanes_35) (raA_leaf sX12_findPlanes_36)) (raA_br (raA_leaf sX12_findPlanes_37) (raA_br (raA_leaf sX12_findPlanes_40) (raA_leaf sX12_findPlanes_41))))) (raA_br (raA_br (raA_br (raA_leaf sX12_findPlanes_44) (raA_leaf sX12_findPlanes_45)) (raA_br (raA_leaf sX12_findPlanes_46) (raA_br (raA_leaf sX12_findPlanes_47) (raA_leaf sX12_findPlanes_48)))) (raA_br (raA_br (raA_leaf sX12_findPlanes_49) (raA_leaf sX12_findPlanes_50)) (raA_br (raA_leaf sX12_findPlanes_53) (raA_br (raA_leaf sX12_findPlanes_56) (raA_leaf sX12_findPlanes_59)))))))
theorem sX12_firstOf_0 {h0 : Hp_} : Snd 73 107 h0 (miT TbM) RX12 cX12_firstOf 1 (some .int) 0 (i_iload 1 0) := snd_iload_n rfl dX12_firstOf_0
theorem sX12_firstOf_1 {h0 : Hp_} : Snd 73 107 h0 (miT TbM) RX12 cX12_firstOf 1 (some .int) 1 (i_if_ne 4 8) := snd_if_ne dX12_firstOf_1 rfl
theorem sX12_firstOf_4 {h0 : Hp_} : Snd 73 107 h0 (miT TbM) RX12 cX12_firstOf 1 (some .int) 4 (i_const 5 (vI 0)) := snd_iconst dX12_firstOf_4
theorem sX12_firstOf_5 {h0 : Hp_} : Snd 73 107 h0 (miT TbM) RX12 cX12_firstOf 1 (some .int) 5 (i_goto 13) := snd_goto dX12_firstOf_5 rfl
theorem sX12_firstOf_8 {h0 : Hp_} : Snd 73 107 h0 (miT TbM) RX12 cX12_firstOf 1 (some .int) 8 (i_const 9 (vI 3)) := snd_iconst dX12_firstOf_8
theorem sX12_firstOf_9 {h0 : Hp_} : Snd 73 107 h0 (miT TbM) RX12 cX12_firstOf 1 (some .int) 9 (i_iload 10 0) := snd_iload_n rfl dX12_firstOf_9
theorem sX12_firstOf_10 {h0 : Hp_} : Snd 73 107 h0 (miT TbM) RX12 cX12_firstOf 1 (some .int) 10 (i_imul 11) := snd_imul dX12_firstOf_10
theorem sX12_firstOf_11 {h0 : Hp_} : Snd 73 107 h0 (miT TbM) RX12 cX12_firstOf 1 (some .int) 11 (i_const 12 (vI 2)) := snd_iconst dX12_firstOf_11
theorem sX12_firstOf_12 {h0 : Hp_} : Snd 73 107 h0 (miT TbM) RX12 cX12_firstOf 1 (some .int) 12 (i_isub 13) := snd_isub dX12_firstOf_12
theorem sX12_firstOf_13 {h0 : Hp_} : Snd 73 107 h0 (miT TbM) RX12 cX12_firstOf 1 (some .int) 13 (i_iret) := snd_iret dX12_firstOf_13
theorem kX12_firstOf {h0 : Hp_} : raA (okI 73 107 h0 (miT TbM) (yX12_firstOf, cX12_firstOf, 1, (some .int))) tX12_firstOf := (raA_br (raA_br (raA_br (raA_leaf sX12_firstOf_0) (raA_leaf sX12_firstOf_1)) (raA_br (raA_leaf sX12_firstOf_4) (raA_br (raA_leaf sX12_firstOf_5) (raA_leaf sX12_firstOf_8)))) (raA_br (raA_br (raA_leaf sX12_firstOf_9) (raA_leaf sX12_firstOf_10)) (raA_br (raA_leaf sX12_firstOf_11) (raA_br (raA_leaf sX12_firstOf_12) (raA_leaf sX12_firstOf_13)))))
theorem sX12_forget_0 {h0 : Hp_} : Snd 73 107 h0 (miT TbM) RX12 cX12_forget 2 none 0 (i_const 1 (vI 0)) := snd_iconst dX12_forget_0
theorem sX12_forget_1 {h0 : Hp_} : Snd 73 107 h0 (miT TbM) RX12 cX12_forget 2 none 1 (i_istore 2 1) := snd_istore_n rfl (by decide) dX12_forget_1
theorem sX12_forget_2 {h0 : Hp_} : Snd 73 107 h0 (miT TbM) RX12 cX12_forget 2 none 2 (i_iload 3 1) := snd_iload_n rfl dX12_forget_2
theorem sX12_forget_3 {h0 : Hp_} : Snd 73 107 h0 (miT TbM) RX12 cX12_forget 2 none 3 (i_const 5 (vI 19)) := snd_bipush (by decide) dX12_forget_3
theorem sX12_forget_5 {h0 : Hp_} : Snd 73 107 h0 (miT TbM) RX12 cX12_forget 2 none 5 (i_icmp_ge 8 57) := snd_icmp_ge dX12_forget_5 rfl
theorem sX12_forget_8 {h0 : Hp_} : Snd 73 107 h0 (miT TbM) RX12 cX12_forget 2 none 8 (i_aload 9 0) := snd_aload_n rfl dX12_forget_8
theorem sX12_forget_9 {h0 : Hp_} : Snd 73 107 h0 (miT TbM) RX12 cX12_forget 2 none 9 (i_getR 11 30 12) := snd_getR rfl (by decide) (by decide) (by decide) (fun hK ho hs hq kk => gf_X12_84 hK ho hs hq rfl dX12_forget_9 kk)
theorem sX12_forget_12 {h0 : Hp_} : Snd 73 107 h0 (miT TbM) RX12 cX12_forget 2 none 12 (i_iload 13 1) := snd_iload_n rfl dX12_forget_12
theorem sX12_forget_13 {h0 : Hp_} : Snd 73 107 h0 (miT TbM) RX12 cX12_forget 2 none 13 (i_iload 14 1) := snd_iload_n rfl dX12_forget_13
theorem sX12_forget_14 {h0 : Hp_} : Snd 73 107 h0 (miT TbM) RX12 cX12_forget 2 none 14 (i_const 16 (vI 18)) := snd_bipush (by decide) dX12_forget_14
theorem sX12_forget_16 {h0 : Hp_} : Snd 73 107 h0 (miT TbM) RX12 cX12_forget 2 none 16 (i_icmp_ne 19 24) := snd_icmp_ne dX12_forget_16 rfl
theorem sX12_forget_19 {h0 : Hp_} : Snd 73 107 h0 (miT TbM) RX12 cX12_forget 2 none 19 (i_const 21 (vI 46)) := snd_bipush (by decide) dX12_forget_19
theorem sX12_forget_21 {h0 : Hp_} : Snd 73 107 h0 (miT TbM) RX12 cX12_forget 2 none 21 (i_goto 43) := snd_goto dX12_forget_21 rfl
theorem sX12_forget_24 {h0 : Hp_} : Snd 73 107 h0 (miT TbM) RX12 cX12_forget 2 none 24 (i_iload 25 1) := snd_iload_n rfl dX12_forget_24
theorem sX12_forget_25 {h0 : Hp_} : Snd 73 107 h0 (miT TbM) RX12 cX12_forget 2 none 25 (i_const 27 (vI 17)) := snd_bipush (by decide) dX12_forget_25
theorem sX12_forget_27 {h0 : Hp_} : Snd 73 107 h0 (miT TbM) RX12 cX12_forget 2 none 27 (i_icmp_ne 30 34) := snd_icmp_ne dX12_forget_27 rfl
theorem sX12_forget_30 {h0 : Hp_} : Snd 73 107 h0 (miT TbM) RX12 cX12_forget 2 none 30 (i_const 31 (vI 3)) := snd_iconst dX12_forget_30
theorem sX12_forget_31 {h0 : Hp_} : Snd 73 107 h0 (miT TbM) RX12 cX12_forget 2 none 31 (i_goto 43) := snd_goto dX12_forget_31 rfl
theorem sX12_forget_34 {h0 : Hp_} : Snd 73 107 h0 (miT TbM) RX12 cX12_forget 2 none 34 (i_iload 35 1) := snd_iload_n rfl dX12_forget_34
theorem sX12_forget_35 {h0 : Hp_} : Snd 73 107 h0 (miT TbM) RX12 cX12_forget 2 none 35 (i_if_ne 38 42) := snd_if_ne dX12_forget_35 rfl
theorem sX12_forget_38 {h0 : Hp_} : Snd 73 107 h0 (miT TbM) RX12 cX12_forget 2 none 38 (i_const 39 (vI 4)) := snd_iconst dX12_forget_38
theorem sX12_forget_39 {h0 : Hp_} : Snd 73 107 h0 (miT TbM) RX12 cX12_forget 2 none 39 (i_goto 43) := snd_goto dX12_forget_39 rfl
theorem sX12_forget_42 {h0 : Hp_} : Snd 73 107 h0 (miT TbM) RX12 cX12_forget 2 none 42 (i_const 43 (vI 0)) := snd_iconst dX12_forget_42
theorem sX12_forget_43 {h0 : Hp_} : Snd 73 107 h0 (miT TbM) RX12 cX12_forget 2 none 43 (i_iast 73 107 44) := snd_iast dX12_forget_43
theorem sX12_forget_44 {h0 : Hp_} : Snd 73 107 h0 (miT TbM) RX12 cX12_forget 2 none 44 (i_aload 45 0) := snd_aload_n rfl dX12_forget_44
theorem sX12_forget_45 {h0 : Hp_} : Snd 73 107 h0 (miT TbM) RX12 cX12_forget 2 none 45 (i_getR 11 31 48) := snd_getR rfl (by decide) (by decide) (by decide) (fun hK ho hs hq kk => gf_X12_87 hK ho hs hq rfl dX12_forget_45 kk)
theorem sX12_forget_48 {h0 : Hp_} : Snd 73 107 h0 (miT TbM) RX12 cX12_forget 2 none 48 (i_iload 49 1) := snd_iload_n rfl dX12_forget_48
theorem sX12_forget_49 {h0 : Hp_} : Snd 73 107 h0 (miT TbM) RX12 cX12_forget 2 none 49 (i_const 50 (vI 0)) := snd_iconst dX12_forget_49
theorem sX12_forget_50 {h0 : Hp_} : Snd 73 107 h0 (miT TbM) RX12 cX12_forget 2 none 50 (i_iast 73 107 51) := snd_iast dX12_forget_50
theorem sX12_forget_51 {h0 : Hp_} : Snd 73 107 h0 (miT TbM) RX12 cX12_forget 2 none 51 (i_iinc 54 1 1) := snd_iinc (by decide) dX12_forget_51
theorem sX12_forget_54 {h0 : Hp_} : Snd 73 107 h0 (miT TbM) RX12 cX12_forget 2 none 54 (i_goto 2) := snd_goto dX12_forget_54 rfl
theorem sX12_forget_57 {h0 : Hp_} : Snd 73 107 h0 (miT TbM) RX12 cX12_forget 2 none 57 (i_vret) := snd_vret dX12_forget_57
theorem kX12_forget {h0 : Hp_} : raA (okI 73 107 h0 (miT TbM) (yX12_forget, cX12_forget, 2, none)) tX12_forget := (raA_br (raA_br (raA_br (raA_br (raA_br (raA_leaf sX12_forget_0) (raA_leaf sX12_forget_1)) (raA_br (raA_leaf sX12_forget_2) (raA_leaf sX12_forget_3))) (raA_br (raA_br (raA_leaf sX12_forget_5) (raA_leaf sX12_forget_8)) (raA_br (raA_leaf sX12_forget_9) (raA_leaf sX12_forget_12)))) (raA_br (raA_br (raA_br (raA_leaf sX12_forget_13) (raA_leaf sX12_forget_14)) (raA_br (raA_leaf sX12_forget_16) (raA_leaf sX12_forget_19))) (raA_br (raA_br (raA_leaf sX12_forget_21) (raA_leaf sX12_forget_24)) (raA_br (raA_leaf sX12_forget_25) (raA_leaf sX12_forget_27))))) (raA_br (raA_br (raA_br (raA_br (raA_leaf sX12_forget_30) (raA_leaf sX12_forget_31)) (raA_br (raA_leaf sX12_forget_34) (raA_leaf sX12_forget_35))) (raA_br (raA_br (raA_leaf sX12_forget_38) (raA_leaf sX12_forget_39)) (raA_br (raA_leaf sX12_forget_42) (raA_leaf sX12_forget_43)))) (raA_br (raA_br (raA_br (raA_leaf sX12_forget_44) (raA_leaf sX12_forget_45)) (raA_br (raA_leaf sX12_forget_48) (raA_leaf sX12_forget_49))) (raA_br (raA_br (raA_leaf sX12_forget_50) (raA_leaf sX12_forget_51)) (raA_br (raA_leaf sX12_forget_54) (raA_leaf sX12_forget_57))))))
theorem sX12_forward_0 {h0 : Hp_} : Snd 73 107 h0 (miT TbM) RX12 cX12_forward 4 none 0 (i_iload 1 1) := snd_iload_n rfl dX12_forward_0
theorem sX12_forward_1 {h0 : Hp_} : Snd 73 107 h0 (miT TbM) RX12 cX12_forward 4 none 1 (i_const 2 (vI 1)) := snd_iconst dX12_forward_1
theorem sX12_forward_2 {h0 : Hp_} : Snd 73 107 h0 (miT TbM) RX12 cX12_forward 4 none 2 (i_iadd 3) := snd_iadd dX12_forward_2
theorem sX12_forward_3 {h0 : Hp_} : Snd 73 107 h0 (miT TbM) RX12 cX12_forward 4 none 3 (i_const 4 (vI 2)) := snd_iconst dX12_forward_3
theorem sX12_forward_4 {h0 : Hp_} : Snd 73 107 h0 (miT TbM) RX12 cX12_forward 4 none 4 (i_idiv 5) := snd_idiv dX12_forward_4
theorem sX12_forward_5 {h0 : Hp_} : Snd 73 107 h0 (miT TbM) RX12 cX12_forward 4 none 5 (i_istore 6 2) := snd_istore_n rfl (by decide) dX12_forward_5
theorem sX12_forward_6 {h0 : Hp_} : Snd 73 107 h0 (miT TbM) RX12 cX12_forward 4 none 6 (i_const 7 (vI 0)) := snd_iconst dX12_forward_6
theorem sX12_forward_7 {h0 : Hp_} : Snd 73 107 h0 (miT TbM) RX12 cX12_forward 4 none 7 (i_istore 8 3) := snd_istore_n rfl (by decide) dX12_forward_7
theorem sX12_forward_8 {h0 : Hp_} : Snd 73 107 h0 (miT TbM) RX12 cX12_forward 4 none 8 (i_iload 9 3) := snd_iload_n rfl dX12_forward_8
theorem sX12_forward_9 {h0 : Hp_} : Snd 73 107 h0 (miT TbM) RX12 cX12_forward 4 none 9 (i_iload 10 2) := snd_iload_n rfl dX12_forward_9
theorem sX12_forward_10 {h0 : Hp_} : Snd 73 107 h0 (miT TbM) RX12 cX12_forward 4 none 10 (i_icmp_ge 13 69) := snd_icmp_ge dX12_forward_10 rfl
theorem sX12_forward_13 {h0 : Hp_} : Snd 73 107 h0 (miT TbM) RX12 cX12_forward 4 none 13 (i_aload 14 0) := snd_aload_n rfl dX12_forward_13
theorem sX12_forward_14 {h0 : Hp_} : Snd 73 107 h0 (miT TbM) RX12 cX12_forward 4 none 14 (i_getR 11 8 17) := snd_getR rfl (by decide) (by decide) (by decide) (fun hK ho hs hq kk => gf_X12_32 hK ho hs hq rfl dX12_forward_14 kk)
theorem sX12_forward_17 {h0 : Hp_} : Snd 73 107 h0 (miT TbM) RX12 cX12_forward 4 none 17 (i_iload 18 3) := snd_iload_n rfl dX12_forward_17
theorem sX12_forward_18 {h0 : Hp_} : Snd 73 107 h0 (miT TbM) RX12 cX12_forward 4 none 18 (i_iload 19 1) := snd_iload_n rfl dX12_forward_18
theorem sX12_forward_19 {h0 : Hp_} : Snd 73 107 h0 (miT TbM) RX12 cX12_forward 4 none 19 (i_const 20 (vI 1)) := snd_iconst dX12_forward_19
theorem sX12_forward_20 {h0 : Hp_} : Snd 73 107 h0 (miT TbM) RX12 cX12_forward 4 none 20 (i_icmp_ne 23 32) := snd_icmp_ne dX12_forward_20 rfl
theorem sX12_forward_23 {h0 : Hp_} : Snd 73 107 h0 (miT TbM) RX12 cX12_forward 4 none 23 (i_aload 24 0) := snd_aload_n rfl dX12_forward_23
theorem sX12_forward_24 {h0 : Hp_} : Snd 73 107 h0 (miT TbM) RX12 cX12_forward 4 none 24 (i_getR 11 7 27) := snd_getR rfl (by decide) (by decide) (by decide) (fun hK ho hs hq kk => gf_X12_29 hK ho hs hq rfl dX12_forward_24 kk)
theorem sX12_forward_27 {h0 : Hp_} : Snd 73 107 h0 (miT TbM) RX12 cX12_forward 4 none 27 (i_const 28 (vI 0)) := snd_iconst dX12_forward_27
theorem sX12_forward_28 {h0 : Hp_} : Snd 73 107 h0 (miT TbM) RX12 cX12_forward 4 none 28 (i_iald 73 107 29) := snd_iald dX12_forward_28
theorem sX12_forward_29 {h0 : Hp_} : Snd 73 107 h0 (miT TbM) RX12 cX12_forward 4 none 29 (i_goto 62) := snd_goto dX12_forward_29 rfl
theorem sX12_forward_32 {h0 : Hp_} : Snd 73 107 h0 (miT TbM) RX12 cX12_forward 4 none 32 (i_aload 33 0) := snd_aload_n rfl dX12_forward_32
theorem sX12_forward_33 {h0 : Hp_} : Snd 73 107 h0 (miT TbM) RX12 cX12_forward 4 none 33 (i_getR 11 7 36) := snd_getR rfl (by decide) (by decide) (by decide) (fun hK ho hs hq kk => gf_X12_29 hK ho hs hq rfl dX12_forward_33 kk)
theorem sX12_forward_36 {h0 : Hp_} : Snd 73 107 h0 (miT TbM) RX12 cX12_forward 4 none 36 (i_const 37 (vI 2)) := snd_iconst dX12_forward_36
theorem sX12_forward_37 {h0 : Hp_} : Snd 73 107 h0 (miT TbM) RX12 cX12_forward 4 none 37 (i_iload 38 3) := snd_iload_n rfl dX12_forward_37
theorem sX12_forward_38 {h0 : Hp_} : Snd 73 107 h0 (miT TbM) RX12 cX12_forward 4 none 38 (i_imul 39) := snd_imul dX12_forward_38
theorem sX12_forward_39 {h0 : Hp_} : Snd 73 107 h0 (miT TbM) RX12 cX12_forward 4 none 39 (i_iald 73 107 40) := snd_iald dX12_forward_39
theorem sX12_forward_40 {h0 : Hp_} : Snd 73 107 h0 (miT TbM) RX12 cX12_forward 4 none 40 (i_aload 41 0) := snd_aload_n rfl dX12_forward_40
theorem sX12_forward_41 {h0 : Hp_} : Snd 73 107 h0 (miT TbM) RX12 cX12_forward 4 none 41 (i_iload 42 3) := snd_iload_n rfl dX12_forward_41
theorem sX12_forward_42 {h0 : Hp_} : Snd 73 107 h0 (miT TbM) RX12 cX12_forward 4 none 42 (i_const 43 (vI 1)) := snd_iconst dX12_forward_42
theorem sX12_forward_43 {h0 : Hp_} : Snd 73 107 h0 (miT TbM) RX12 cX12_forward 4 none 43 (i_isub 44) := snd_isub dX12_forward_43
theorem sX12_forward_44 {h0 : Hp_} : Snd 73 107 h0 (miT TbM) RX12 cX12_forward 4 none 44 (i_iload 45 1) := snd_iload_n rfl dX12_forward_44
theorem sX12_forward_45 {h0 : Hp_} : Snd 73 107 h0 (miT TbM) RX12 cX12_forward 4 none 45 (i_stop) := snd_stop
theorem sX12_forward_48 {h0 : Hp_} : Snd 73 107 h0 (miT TbM) RX12 cX12_forward 4 none 48 (i_aload 49 0) := snd_aload_n rfl dX12_forward_48
theorem sX12_forward_49 {h0 : Hp_} : Snd 73 107 h0 (miT TbM) RX12 cX12_forward 4 none 49 (i_iload 50 3) := snd_iload_n rfl dX12_forward_49
theorem sX12_forward_50 {h0 : Hp_} : Snd 73 107 h0 (miT TbM) RX12 cX12_forward 4 none 50 (i_iload 51 1) := snd_iload_n rfl dX12_forward_50
theorem sX12_forward_51 {h0 : Hp_} : Snd 73 107 h0 (miT TbM) RX12 cX12_forward 4 none 51 (i_stop) := snd_stop
theorem sX12_forward_54 {h0 : Hp_} : Snd 73 107 h0 (miT TbM) RX12 cX12_forward 4 none 54 (i_iadd 55) := snd_iadd dX12_forward_54
theorem sX12_forward_55 {h0 : Hp_} : Snd 73 107 h0 (miT TbM) RX12 cX12_forward 4 none 55 (i_const 56 (vI 2)) := snd_iconst dX12_forward_55
theorem sX12_forward_56 {h0 : Hp_} : Snd 73 107 h0 (miT TbM) RX12 cX12_forward 4 none 56 (i_iadd 57) := snd_iadd dX12_forward_56
theorem sX12_forward_57 {h0 : Hp_} : Snd 73 107 h0 (miT TbM) RX12 cX12_forward 4 none 57 (i_const 58 (vI 2)) := snd_iconst dX12_forward_57
theorem sX12_forward_58 {h0 : Hp_} : Snd 73 107 h0 (miT TbM) RX12 cX12_forward 4 none 58 (i_stop) := snd_stop
theorem sX12_forward_61 {h0 : Hp_} : Snd 73 107 h0 (miT TbM) RX12 cX12_forward 4 none 61 (i_iadd 62) := snd_iadd dX12_forward_61
theorem sX12_forward_62 {h0 : Hp_} : Snd 73 107 h0 (miT TbM) RX12 cX12_forward 4 none 62 (i_iast 73 107 63) := snd_iast dX12_forward_62
theorem sX12_forward_63 {h0 : Hp_} : Snd 73 107 h0 (miT TbM) RX12 cX12_forward 4 none 63 (i_iinc 66 3 1) := snd_iinc (by decide) dX12_forward_63
theorem sX12_forward_66 {h0 : Hp_} : Snd 73 107 h0 (miT TbM) RX12 cX12_forward 4 none 66 (i_goto 8) := snd_goto dX12_forward_66 rfl
theorem sX12_forward_69 {h0 : Hp_} : Snd 73 107 h0 (miT TbM) RX12 cX12_forward 4 none 69 (i_const 70 (vI 0)) := snd_iconst dX12_forward_69
theorem sX12_forward_70 {h0 : Hp_} : Snd 73 107 h0 (miT TbM) RX12 cX12_forward 4 none 70 (i_istore 71 3) := snd_istore_n rfl (by decide) dX12_forward_70
theorem sX12_forward_71 {h0 : Hp_} : Snd 73 107 h0 (miT TbM) RX12 cX12_forward 4 none 71 (i_iload 72 3) := snd_iload_n rfl dX12_forward_71
theorem sX12_forward_72 {h0 : Hp_} : Snd 73 107 h0 (miT TbM) RX12 cX12_forward 4 none 72 (i_iload 73 1) := snd_iload_n rfl dX12_forward_72
theorem sX12_forward_73 {h0 : Hp_} : Snd 73 107 h0 (miT TbM) RX12 cX12_forward 4 none 73 (i_const 74 (vI 2)) := snd_iconst dX12_forward_73
theorem sX12_forward_74 {h0 : Hp_} : Snd 73 107 h0 (miT TbM) RX12 cX12_forward 4 none 74 (i_idiv 75) := snd_idiv dX12_forward_74
theorem sX12_forward_75 {h0 : Hp_} : Snd 73 107 h0 (miT TbM) RX12 cX12_forward 4 none 75 (i_icmp_ge 78 98) := snd_icmp_ge dX12_forward_75 rfl
theorem sX12_forward_78 {h0 : Hp_} : Snd 73 107 h0 (miT TbM) RX12 cX12_forward 4 none 78 (i_aload 79 0) := snd_aload_n rfl dX12_forward_78
theorem sX12_forward_79 {h0 : Hp_} : Snd 73 107 h0 (miT TbM) RX12 cX12_forward 4 none 79 (i_getR 11 8 82) := snd_getR rfl (by decide) (by decide) (by decide) (fun hK ho hs hq kk => gf_X12_32 hK ho hs hq rfl dX12_forward_79 kk)
theorem sX12_forward_82 {h0 : Hp_} : Snd 73 107 h0 (miT TbM) RX12 cX12_forward 4 none 82 (i_iload 83 2) := snd_iload_n rfl dX12_forward_82
theorem sX12_forward_83 {h0 : Hp_} : Snd 73 107 h0 (miT TbM) RX12 cX12_forward 4 none 83 (i_iload 84 3) := snd_iload_n rfl dX12_forward_83
theorem sX12_forward_84 {h0 : Hp_} : Snd 73 107 h0 (miT TbM) RX12 cX12_forward 4 none 84 (i_iadd 85) := snd_iadd dX12_forward_84
theorem sX12_forward_85 {h0 : Hp_} : Snd 73 107 h0 (miT TbM) RX12 cX12_forward 4 none 85 (i_aload 86 0) := snd_aload_n rfl dX12_forward_85
theorem sX12_forward_86 {h0 : Hp_} : Snd 73 107 h0 (miT TbM) RX12 cX12_forward 4 none 86 (i_iload 87 3) := snd_iload_n rfl dX12_forward_86
theorem sX12_forward_87 {h0 : Hp_} : Snd 73 107 h0 (miT TbM) RX12 cX12_forward 4 none 87 (i_iload 88 1) := snd_iload_n rfl dX12_forward_87
theorem sX12_forward_88 {h0 : Hp_} : Snd 73 107 h0 (miT TbM) RX12 cX12_forward 4 none 88 (i_stop) := snd_stop
theorem sX12_forward_91 {h0 : Hp_} : Snd 73 107 h0 (miT TbM) RX12 cX12_forward 4 none 91 (i_iast 73 107 92) := snd_iast dX12_forward_91
theorem sX12_forward_92 {h0 : Hp_} : Snd 73 107 h0 (miT TbM) RX12 cX12_forward 4 none 92 (i_iinc 95 3 1) := snd_iinc (by decide) dX12_forward_92
theorem sX12_forward_95 {h0 : Hp_} : Snd 73 107 h0 (miT TbM) RX12 cX12_forward 4 none 95 (i_goto 71) := snd_goto dX12_forward_95 rfl
theorem sX12_forward_98 {h0 : Hp_} : Snd 73 107 h0 (miT TbM) RX12 cX12_forward 4 none 98 (i_vret) := snd_vret dX12_forward_98
theorem kX12_forward {h0 : Hp_} : raA (okI 73 107 h0 (miT TbM) (yX12_forward, cX12_forward, 4, none)) tX12_forward := (raA_br (raA_br (raA_br (raA_br (raA_br (raA_br (raA_leaf sX12_forward_0) (raA_leaf sX12_forward_1)) (raA_br (raA_leaf sX12_forward_2) (raA_leaf sX12_forward_3))) (raA_br (raA_br (raA_leaf sX12_forward_4) (raA_leaf sX12_forward_5)) (raA_br (raA_leaf sX12_forward_6) (raA_leaf sX12_forward_7)))) (raA_br (raA_br (raA_br (raA_leaf sX12_forward_8) (raA_leaf sX12_forward_9)) (raA_br (raA_leaf sX12_forward_10) (raA_leaf sX12_forward_13))) (raA_br (raA_br (raA_leaf sX12_forward_14) (raA_leaf sX12_forward_17)) (raA_br (raA_leaf sX12_forward_18) (raA_leaf sX12_forward_19))))) (raA_br (raA_br (raA_br (raA_br (raA_leaf sX12_forward_20) (raA_leaf sX12_forward_23)) (raA_br (raA_leaf sX12_forward_24) (raA_leaf sX12_forward_27))) (raA_br (raA_br (raA_leaf sX12_forward_28) (raA_leaf sX12_forward_29)) (raA_br (raA_leaf sX12_forward_32) (raA_leaf sX12_forward_33)))) (raA_br (raA_br (raA_br (raA_leaf sX12_forward_36) (raA_leaf sX12_forward_37)) (raA_br (raA_leaf sX12_forward_38) (raA_leaf sX12_forward_39))) (raA_br (raA_br (raA_leaf sX12_forward_40) (raA_leaf sX12_forward_41)) (raA_br (raA_leaf sX12_forward_42) (raA_br (raA_leaf sX12_forward_43) (raA_leaf sX12_forward_44))))))) (raA_br (raA_br (raA_br (raA_br (raA_br (raA_leaf sX12_forward_45) (raA_leaf sX12_forward_48)) (raA_br (raA_leaf sX12_forward_49) (raA_leaf sX12_forward_50))) (raA_br (raA_br (raA_leaf sX12_forward_51) (raA_leaf sX12_forward_54)) (raA_br (raA_leaf sX12_forward_55) (raA_leaf sX12_forward_56)))) (raA_br (raA_br (raA_br (raA_leaf sX12_forward_57) (raA_leaf sX12_forward_58)) (raA_br (raA_leaf sX12_forward_61) (raA_leaf sX12_forward_62))) (raA_br (raA_br (raA_leaf sX12_forward_63) (raA_leaf sX12_forward_66)) (raA_br (raA_leaf sX12_forward_69) (raA_br (raA_leaf sX12_forward_70) (raA_leaf sX12_forward_71)))))) (raA_br (raA_br (raA_br (raA_br (raA_leaf sX12_forward_72) (raA_leaf sX12_forward_73)) (raA_br (raA_leaf sX12_forward_74) (raA_leaf sX12_forward_75))) (raA_br (raA_br (raA_leaf sX12_forward_78) (raA_leaf sX12_forward_79)) (raA_br (raA_leaf sX12_forward_82) (raA_leaf sX12_forward_83)))) (raA_br (raA_br (raA_br (raA_leaf sX12_forward_84) (raA_leaf sX12_forward_85)) (raA_br (raA_leaf sX12_forward_86) (raA_leaf sX12_forward_87))) (raA_br (raA_br (raA_leaf sX12_forward_88) (raA_leaf sX12_forward_91)) (raA_br (raA_leaf sX12_forward_92) (raA_br (raA_leaf sX12_forward_95) (raA_leaf sX12_forward_98))))))))
theorem sX12_here_0 {h0 : Hp_} : Snd 73 107 h0 (miT TbM) RX12 cX12_here 2 (some .int) 0 (i_aload 1 0) := snd_aload_n rfl dX12_here_0
theorem sX12_here_1 {h0 : Hp_} : Snd 73 107 h0 (miT TbM) RX12 cX12_here 2 (some .int) 1 (i_getR 11 23 4) := snd_getR rfl (by decide) (by decide) (by decide) (fun hK ho hs hq kk => gf_X12_75 hK ho hs hq rfl dX12_here_1 kk)
theorem sX12_here_4 {h0 : Hp_} : Snd 73 107 h0 (miT TbM) RX12 cX12_here 2 (some .int) 4 (i_iload 5 1) := snd_iload_n rfl dX12_here_4
theorem sX12_here_5 {h0 : Hp_} : Snd 73 107 h0 (miT TbM) RX12 cX12_here 2 (some .int) 5 (i_iald 73 107 6) := snd_iald dX12_here_5
theorem sX12_here_6 {h0 : Hp_} : Snd 73 107 h0 (miT TbM) RX12 cX12_here 2 (some .int) 6 (i_if_ne 9 13) := snd_if_ne dX12_here_6 rfl
theorem sX12_here_9 {h0 : Hp_} : Snd 73 107 h0 (miT TbM) RX12 cX12_here 2 (some .int) 9 (i_const 10 (vI 0)) := snd_iconst dX12_here_9
theorem sX12_here_10 {h0 : Hp_} : Snd 73 107 h0 (miT TbM) RX12 cX12_here 2 (some .int) 10 (i_goto 14) := snd_goto dX12_here_10 rfl
theorem sX12_here_13 {h0 : Hp_} : Snd 73 107 h0 (miT TbM) RX12 cX12_here 2 (some .int) 13 (i_const 14 (vI 1)) := snd_iconst dX12_here_13
theorem sX12_here_14 {h0 : Hp_} : Snd 73 107 h0 (miT TbM) RX12 cX12_here 2 (some .int) 14 (i_iret) := snd_iret dX12_here_14
theorem kX12_here {h0 : Hp_} : raA (okI 73 107 h0 (miT TbM) (yX12_here, cX12_here, 2, (some .int))) tX12_here := (raA_br (raA_br (raA_br (raA_leaf sX12_here_0) (raA_leaf sX12_here_1)) (raA_br (raA_leaf sX12_here_4) (raA_leaf sX12_here_5))) (raA_br (raA_br (raA_leaf sX12_here_6) (raA_leaf sX12_here_9)) (raA_br (raA_leaf sX12_here_10) (raA_br (raA_leaf sX12_here_13) (raA_leaf sX12_here_14)))))
theorem sX12_inColumn_0 {h0 : Hp_} : Snd 73 107 h0 (miT TbM) RX12 cX12_inColumn 2 (some .int) 0 (i_aload 1 0) := snd_aload_n rfl dX12_inColumn_0
theorem sX12_inColumn_1 {h0 : Hp_} : Snd 73 107 h0 (miT TbM) RX12 cX12_inColumn 2 (some .int) 1 (i_iload 2 1) := snd_iload_n rfl dX12_inColumn_1
theorem sX12_inColumn_2 {h0 : Hp_} : Snd 73 107 h0 (miT TbM) RX12 cX12_inColumn 2 (some .int) 2 (i_const 4 (vI 10)) := snd_bipush (by decide) dX12_inColumn_2
theorem sX12_inColumn_4 {h0 : Hp_} : Snd 73 107 h0 (miT TbM) RX12 cX12_inColumn 2 (some .int) 4 (i_isub 5) := snd_isub dX12_inColumn_4
theorem sX12_inColumn_5 {h0 : Hp_} : Snd 73 107 h0 (miT TbM) RX12 cX12_inColumn 2 (some .int) 5 (i_cV1 20 11 8) := snd_cV1 (fun hK hd hC ho hs h6 h7 h8 kk => iv_X12_231 hK (mcM_20 hC) ho hs ⟨hd, by show _ ≤ 40 * (_ + 1); omega⟩ (Nat.le_refl _) h6 h7 h8 ⟨Nat.le_refl _, Nat.le_refl _⟩ dX12_inColumn_5 kk)
theorem sX12_inColumn_8 {h0 : Hp_} : Snd 73 107 h0 (miT TbM) RX12 cX12_inColumn 2 (some .int) 8 (i_aload 9 0) := snd_aload_n rfl dX12_inColumn_8
theorem sX12_inColumn_9 {h0 : Hp_} : Snd 73 107 h0 (miT TbM) RX12 cX12_inColumn 2 (some .int) 9 (i_iload 10 1) := snd_iload_n rfl dX12_inColumn_9
theorem sX12_inColumn_10 {h0 : Hp_} : Snd 73 107 h0 (miT TbM) RX12 cX12_inColumn 2 (some .int) 10 (i_const 12 (vI 10)) := snd_bipush (by decide) dX12_inColumn_10
theorem sX12_inColumn_12 {h0 : Hp_} : Snd 73 107 h0 (miT TbM) RX12 cX12_inColumn 2 (some .int) 12 (i_iadd 13) := snd_iadd dX12_inColumn_12
theorem sX12_inColumn_13 {h0 : Hp_} : Snd 73 107 h0 (miT TbM) RX12 cX12_inColumn 2 (some .int) 13 (i_cV1 20 11 16) := snd_cV1 (fun hK hd hC ho hs h6 h7 h8 kk => iv_X12_231 hK (mcM_20 hC) ho hs ⟨hd, by show _ ≤ 40 * (_ + 1); omega⟩ (Nat.le_refl _) h6 h7 h8 ⟨Nat.le_refl _, Nat.le_refl _⟩ dX12_inColumn_13 kk)
theorem sX12_inColumn_16 {h0 : Hp_} : Snd 73 107 h0 (miT TbM) RX12 cX12_inColumn 2 (some .int) 16 (i_iadd 17) := snd_iadd dX12_inColumn_16
theorem sX12_inColumn_17 {h0 : Hp_} : Snd 73 107 h0 (miT TbM) RX12 cX12_inColumn 2 (some .int) 17 (i_iret) := snd_iret dX12_inColumn_17
theorem kX12_inColumn {h0 : Hp_} : raA (okI 73 107 h0 (miT TbM) (yX12_inColumn, cX12_inColumn, 2, (some .int))) tX12_inColumn := (raA_br (raA_br (raA_br (raA_leaf sX12_inColumn_0) (raA_br (raA_leaf sX12_inColumn_1) (raA_leaf sX12_inColumn_2))) (raA_br (raA_leaf sX12_inColumn_4) (raA_br (raA_leaf sX12_inColumn_5) (raA_leaf sX12_inColumn_8)))) (raA_br (raA_br (raA_leaf sX12_inColumn_9) (raA_br (raA_leaf sX12_inColumn_10) (raA_leaf sX12_inColumn_12))) (raA_br (raA_leaf sX12_inColumn_13) (raA_br (raA_leaf sX12_inColumn_16) (raA_leaf sX12_inColumn_17)))))
theorem sX12_inRow_0 {h0 : Hp_} : Snd 73 107 h0 (miT TbM) RX12 cX12_inRow 2 (some .int) 0 (i_aload 1 0) := snd_aload_n rfl dX12_inRow_0
theorem sX12_inRow_1 {h0 : Hp_} : Snd 73 107 h0 (miT TbM) RX12 cX12_inRow 2 (some .int) 1 (i_iload 2 1) := snd_iload_n rfl dX12_inRow_1
theorem sX12_inRow_2 {h0 : Hp_} : Snd 73 107 h0 (miT TbM) RX12 cX12_inRow 2 (some .int) 2 (i_const 3 (vI 1)) := snd_iconst dX12_inRow_2
theorem sX12_inRow_3 {h0 : Hp_} : Snd 73 107 h0 (miT TbM) RX12 cX12_inRow 2 (some .int) 3 (i_isub 4) := snd_isub dX12_inRow_3
theorem sX12_inRow_4 {h0 : Hp_} : Snd 73 107 h0 (miT TbM) RX12 cX12_inRow 2 (some .int) 4 (i_cV1 20 11 7) := snd_cV1 (fun hK hd hC ho hs h6 h7 h8 kk => iv_X12_231 hK (mcM_20 hC) ho hs ⟨hd, by show _ ≤ 40 * (_ + 1); omega⟩ (Nat.le_refl _) h6 h7 h8 ⟨Nat.le_refl _, Nat.le_refl _⟩ dX12_inRow_4 kk)
theorem sX12_inRow_7 {h0 : Hp_} : Snd 73 107 h0 (miT TbM) RX12 cX12_inRow 2 (some .int) 7 (i_aload 8 0) := snd_aload_n rfl dX12_inRow_7
theorem sX12_inRow_8 {h0 : Hp_} : Snd 73 107 h0 (miT TbM) RX12 cX12_inRow 2 (some .int) 8 (i_iload 9 1) := snd_iload_n rfl dX12_inRow_8
theorem sX12_inRow_9 {h0 : Hp_} : Snd 73 107 h0 (miT TbM) RX12 cX12_inRow 2 (some .int) 9 (i_const 10 (vI 1)) := snd_iconst dX12_inRow_9
theorem sX12_inRow_10 {h0 : Hp_} : Snd 73 107 h0 (miT TbM) RX12 cX12_inRow 2 (some .int) 10 (i_iadd 11) := snd_iadd dX12_inRow_10
theorem sX12_inRow_11 {h0 : Hp_} : Snd 73 107 h0 (miT TbM) RX12 cX12_inRow 2 (some .int) 11 (i_cV1 20 11 14) := snd_cV1 (fun hK hd hC ho hs h6 h7 h8 kk => iv_X12_231 hK (mcM_20 hC) ho hs ⟨hd, by show _ ≤ 40 * (_ + 1); omega⟩ (Nat.le_refl _) h6 h7 h8 ⟨Nat.le_refl _, Nat.le_refl _⟩ dX12_inRow_11 kk)
theorem sX12_inRow_14 {h0 : Hp_} : Snd 73 107 h0 (miT TbM) RX12 cX12_inRow 2 (some .int) 14 (i_iadd 15) := snd_iadd dX12_inRow_14
theorem sX12_inRow_15 {h0 : Hp_} : Snd 73 107 h0 (miT TbM) RX12 cX12_inRow 2 (some .int) 15 (i_iret) := snd_iret dX12_inRow_15
theorem kX12_inRow {h0 : Hp_} : raA (okI 73 107 h0 (miT TbM) (yX12_inRow, cX12_inRow, 2, (some .int))) tX12_inRow := (raA_br (raA_br (raA_br (raA_leaf sX12_inRow_0) (raA_br (raA_leaf sX12_inRow_1) (raA_leaf sX12_inRow_2))) (raA_br (raA_leaf sX12_inRow_3) (raA_br (raA_leaf sX12_inRow_4) (raA_leaf sX12_inRow_7)))) (raA_br (raA_br (raA_leaf sX12_inRow_8) (raA_br (raA_leaf sX12_inRow_9) (raA_leaf sX12_inRow_10))) (raA_br (raA_leaf sX12_inRow_11) (raA_br (raA_leaf sX12_inRow_14) (raA_leaf sX12_inRow_15)))))
theorem sX12_isUntouched_0 {h0 : Hp_} : Snd 73 107 h0 (miT TbM) RX12 cX12_isUntouched 3 (some .boolean) 0 (i_aload 1 0) := snd_aload_n rfl dX12_isUntouched_0
theorem sX12_isUntouched_1 {h0 : Hp_} : Snd 73 107 h0 (miT TbM) RX12 cX12_isUntouched 3 (some .boolean) 1 (i_iload 2 1) := snd_iload_n rfl dX12_isUntouched_1
theorem sX12_isUntouched_2 {h0 : Hp_} : Snd 73 107 h0 (miT TbM) RX12 cX12_isUntouched 3 (some .boolean) 2 (i_iload 3 2) := snd_iload_n rfl dX12_isUntouched_2
theorem sX12_isUntouched_3 {h0 : Hp_} : Snd 73 107 h0 (miT TbM) RX12 cX12_isUntouched 3 (some .boolean) 3 (i_cS2 37 6) := snd_cS2 (fun hK hd hC h6 h7 h8 kk => iv_X12_234 hK (mcM_37 hC) ⟨hd, by show _ ≤ 40 * (_ + 1); omega⟩ (Nat.le_refl _) h6 h7 h8 ⟨Nat.le_refl _, Nat.le_refl _⟩ dX12_isUntouched_3 kk)
theorem sX12_isUntouched_6 {h0 : Hp_} : Snd 73 107 h0 (miT TbM) RX12 cX12_isUntouched 3 (some .boolean) 6 (i_cV1 20 11 9) := snd_cV1 (fun hK hd hC ho hs h6 h7 h8 kk => iv_X12_231 hK (mcM_20 hC) ho hs ⟨hd, by show _ ≤ 40 * (_ + 1); omega⟩ (Nat.le_refl _) h6 h7 h8 ⟨Nat.le_refl _, Nat.le_refl _⟩ dX12_isUntouched_6 kk)
theorem sX12_isUntouched_9 {h0 : Hp_} : Snd 73 107 h0 (miT TbM) RX12 cX12_isUntouched 3 (some .boolean) 9 (i_if_ne 12 30) := snd_if_ne dX12_isUntouched_9 rfl
theorem sX12_isUntouched_12 {h0 : Hp_} : Snd 73 107 h0 (miT TbM) RX12 cX12_isUntouched 3 (some .boolean) 12 (i_aload 13 0) := snd_aload_n rfl dX12_isUntouched_12
theorem sX12_isUntouched_13 {h0 : Hp_} : Snd 73 107 h0 (miT TbM) RX12 cX12_isUntouched 3 (some .boolean) 13 (i_getR 11 24 16) := snd_getR rfl (by decide) (by decide) (by decide) (fun hK ho hs hq kk => gf_X12_78 hK ho hs hq rfl dX12_isUntouched_13 kk)
theorem sX12_isUntouched_16 {h0 : Hp_} : Snd 73 107 h0 (miT TbM) RX12 cX12_isUntouched 3 (some .boolean) 16 (i_const 18 (vI 8)) := snd_bipush (by decide) dX12_isUntouched_16
theorem sX12_isUntouched_18 {h0 : Hp_} : Snd 73 107 h0 (miT TbM) RX12 cX12_isUntouched 3 (some .boolean) 18 (i_iload 19 2) := snd_iload_n rfl dX12_isUntouched_18
theorem sX12_isUntouched_19 {h0 : Hp_} : Snd 73 107 h0 (miT TbM) RX12 cX12_isUntouched 3 (some .boolean) 19 (i_imul 20) := snd_imul dX12_isUntouched_19
theorem sX12_isUntouched_20 {h0 : Hp_} : Snd 73 107 h0 (miT TbM) RX12 cX12_isUntouched 3 (some .boolean) 20 (i_iload 21 1) := snd_iload_n rfl dX12_isUntouched_20
theorem sX12_isUntouched_21 {h0 : Hp_} : Snd 73 107 h0 (miT TbM) RX12 cX12_isUntouched 3 (some .boolean) 21 (i_iadd 22) := snd_iadd dX12_isUntouched_21
theorem sX12_isUntouched_22 {h0 : Hp_} : Snd 73 107 h0 (miT TbM) RX12 cX12_isUntouched 3 (some .boolean) 22 (i_zald 73 107 23) := snd_zald dX12_isUntouched_22
theorem sX12_isUntouched_23 {h0 : Hp_} : Snd 73 107 h0 (miT TbM) RX12 cX12_isUntouched 3 (some .boolean) 23 (i_if_ne 26 30) := snd_if_ne dX12_isUntouched_23 rfl
theorem sX12_isUntouched_26 {h0 : Hp_} : Snd 73 107 h0 (miT TbM) RX12 cX12_isUntouched 3 (some .boolean) 26 (i_const 27 (vI 1)) := snd_iconst dX12_isUntouched_26
theorem sX12_isUntouched_27 {h0 : Hp_} : Snd 73 107 h0 (miT TbM) RX12 cX12_isUntouched 3 (some .boolean) 27 (i_goto 31) := snd_goto dX12_isUntouched_27 rfl
theorem sX12_isUntouched_30 {h0 : Hp_} : Snd 73 107 h0 (miT TbM) RX12 cX12_isUntouched 3 (some .boolean) 30 (i_const 31 (vI 0)) := snd_iconst dX12_isUntouched_30
theorem sX12_isUntouched_31 {h0 : Hp_} : Snd 73 107 h0 (miT TbM) RX12 cX12_isUntouched 3 (some .boolean) 31 (i_zret) := snd_zret dX12_isUntouched_31
theorem kX12_isUntouched {h0 : Hp_} : raA (okI 73 107 h0 (miT TbM) (yX12_isUntouched, cX12_isUntouched, 3, (some .boolean))) tX12_isUntouched := (raA_br (raA_br (raA_br (raA_br (raA_leaf sX12_isUntouched_0) (raA_leaf sX12_isUntouched_1)) (raA_br (raA_leaf sX12_isUntouched_2) (raA_leaf sX12_isUntouched_3))) (raA_br (raA_br (raA_leaf sX12_isUntouched_6) (raA_leaf sX12_isUntouched_9)) (raA_br (raA_leaf sX12_isUntouched_12) (raA_br (raA_leaf sX12_isUntouched_13) (raA_leaf sX12_isUntouched_16))))) (raA_br (raA_br (raA_br (raA_leaf sX12_isUntouched_18) (raA_leaf sX12_isUntouched_19)) (raA_br (raA_leaf sX12_isUntouched_20) (raA_br (raA_leaf sX12_isUntouched_21) (raA_leaf sX12_isUntouched_22)))) (raA_br (raA_br (raA_leaf sX12_isUntouched_23) (raA_leaf sX12_isUntouched_26)) (raA_br (raA_leaf sX12_isUntouched_27) (raA_br (raA_leaf sX12_isUntouched_30) (raA_leaf sX12_isUntouched_31))))))
theorem sX12_jump_0 {h0 : Hp_} : Snd 73 107 h0 (miT TbM) RX12 cX12_jump 7 (some .int) 0 (i_iload 1 2) := snd_iload_n rfl dX12_jump_0
theorem sX12_jump_1 {h0 : Hp_} : Snd 73 107 h0 (miT TbM) RX12 cX12_jump 7 (some .int) 1 (i_const 2 (vI 4)) := snd_iconst dX12_jump_1
theorem sX12_jump_2 {h0 : Hp_} : Snd 73 107 h0 (miT TbM) RX12 cX12_jump 7 (some .int) 2 (i_iadd 3) := snd_iadd dX12_jump_2
theorem sX12_jump_3 {h0 : Hp_} : Snd 73 107 h0 (miT TbM) RX12 cX12_jump 7 (some .int) 3 (i_aload 4 0) := snd_aload_n rfl dX12_jump_3
theorem sX12_jump_4 {h0 : Hp_} : Snd 73 107 h0 (miT TbM) RX12 cX12_jump 7 (some .int) 4 (i_getR 11 10 7) := snd_getR rfl (by decide) (by decide) (by decide) (fun hK ho hs hq kk => gf_X12_38 hK ho hs hq rfl dX12_jump_4 kk)
theorem sX12_jump_7 {h0 : Hp_} : Snd 73 107 h0 (miT TbM) RX12 cX12_jump 7 (some .int) 7 (i_aload 8 0) := snd_aload_n rfl dX12_jump_7
theorem sX12_jump_8 {h0 : Hp_} : Snd 73 107 h0 (miT TbM) RX12 cX12_jump 7 (some .int) 8 (i_getI 11 26 11) := snd_getI hl73 (fun hK ho hs hv kk => gf_X12_246 hK ho hs hv dX12_jump_8 kk)
theorem sX12_jump_11 {h0 : Hp_} : Snd 73 107 h0 (miT TbM) RX12 cX12_jump 7 (some .int) 11 (i_iald 73 107 12) := snd_iald dX12_jump_11
theorem sX12_jump_12 {h0 : Hp_} : Snd 73 107 h0 (miT TbM) RX12 cX12_jump 7 (some .int) 12 (i_icmp_gt 15 19) := snd_icmp_gt dX12_jump_12 rfl
theorem sX12_jump_15 {h0 : Hp_} : Snd 73 107 h0 (miT TbM) RX12 cX12_jump 7 (some .int) 15 (i_const 16 (vI 1)) := snd_iconst dX12_jump_15
theorem sX12_jump_16 {h0 : Hp_} : Snd 73 107 h0 (miT TbM) RX12 cX12_jump 7 (some .int) 16 (i_goto 20) := snd_goto dX12_jump_16 rfl
theorem sX12_jump_19 {h0 : Hp_} : Snd 73 107 h0 (miT TbM) RX12 cX12_jump 7 (some .int) 19 (i_const 20 (vI 0)) := snd_iconst dX12_jump_19
theorem sX12_jump_20 {h0 : Hp_} : Snd 73 107 h0 (miT TbM) RX12 cX12_jump 7 (some .int) 20 (i_istore 21 3) := snd_istore_n rfl (by decide) dX12_jump_20
theorem sX12_jump_21 {h0 : Hp_} : Snd 73 107 h0 (miT TbM) RX12 cX12_jump 7 (some .int) 21 (i_const 22 (vI 4)) := snd_iconst dX12_jump_21
theorem sX12_jump_22 {h0 : Hp_} : Snd 73 107 h0 (miT TbM) RX12 cX12_jump 7 (some .int) 22 (i_istore 24 4) := snd_istore (by decide) dX12_jump_22
theorem sX12_jump_24 {h0 : Hp_} : Snd 73 107 h0 (miT TbM) RX12 cX12_jump 7 (some .int) 24 (i_iload 25 2) := snd_iload_n rfl dX12_jump_24
theorem sX12_jump_25 {h0 : Hp_} : Snd 73 107 h0 (miT TbM) RX12 cX12_jump 7 (some .int) 25 (i_const 26 (vI 3)) := snd_iconst dX12_jump_25
theorem sX12_jump_26 {h0 : Hp_} : Snd 73 107 h0 (miT TbM) RX12 cX12_jump 7 (some .int) 26 (i_iadd 27) := snd_iadd dX12_jump_26
theorem sX12_jump_27 {h0 : Hp_} : Snd 73 107 h0 (miT TbM) RX12 cX12_jump 7 (some .int) 27 (i_istore 29 5) := snd_istore (by decide) dX12_jump_27
theorem sX12_jump_29 {h0 : Hp_} : Snd 73 107 h0 (miT TbM) RX12 cX12_jump 7 (some .int) 29 (i_iload 31 5) := snd_iload dX12_jump_29
theorem sX12_jump_31 {h0 : Hp_} : Snd 73 107 h0 (miT TbM) RX12 cX12_jump 7 (some .int) 31 (i_iload 32 2) := snd_iload_n rfl dX12_jump_31
theorem sX12_jump_32 {h0 : Hp_} : Snd 73 107 h0 (miT TbM) RX12 cX12_jump 7 (some .int) 32 (i_icmp_lt 35 97) := snd_icmp_lt dX12_jump_32 rfl
theorem sX12_jump_35 {h0 : Hp_} : Snd 73 107 h0 (miT TbM) RX12 cX12_jump 7 (some .int) 35 (i_iload 36 3) := snd_iload_n rfl dX12_jump_35
theorem sX12_jump_36 {h0 : Hp_} : Snd 73 107 h0 (miT TbM) RX12 cX12_jump 7 (some .int) 36 (i_if_eq 39 97) := snd_if_eq dX12_jump_36 rfl
theorem sX12_jump_39 {h0 : Hp_} : Snd 73 107 h0 (miT TbM) RX12 cX12_jump 7 (some .int) 39 (i_aload 40 0) := snd_aload_n rfl dX12_jump_39
theorem sX12_jump_40 {h0 : Hp_} : Snd 73 107 h0 (miT TbM) RX12 cX12_jump 7 (some .int) 40 (i_iload 41 1) := snd_iload_n rfl dX12_jump_40
theorem sX12_jump_41 {h0 : Hp_} : Snd 73 107 h0 (miT TbM) RX12 cX12_jump 7 (some .int) 41 (i_iload 43 5) := snd_iload dX12_jump_41
theorem sX12_jump_43 {h0 : Hp_} : Snd 73 107 h0 (miT TbM) RX12 cX12_jump 7 (some .int) 43 (i_cV2 23 11 46) := snd_cV2 (fun hK hd hC ho hs h6 h7 h8 kk => iv_X12_271 hK (mcM_23 hC) ho hs ⟨hd, by show _ ≤ 40 * (_ + 1); omega⟩ (Nat.le_refl _) h6 h7 h8 ⟨Nat.le_refl _, Nat.le_refl _⟩ dX12_jump_43 kk)
theorem sX12_jump_46 {h0 : Hp_} : Snd 73 107 h0 (miT TbM) RX12 cX12_jump 7 (some .int) 46 (i_if_eq 49 63) := snd_if_eq dX12_jump_46 rfl
theorem sX12_jump_49 {h0 : Hp_} : Snd 73 107 h0 (miT TbM) RX12 cX12_jump 7 (some .int) 49 (i_aload 50 0) := snd_aload_n rfl dX12_jump_49
theorem sX12_jump_50 {h0 : Hp_} : Snd 73 107 h0 (miT TbM) RX12 cX12_jump 7 (some .int) 50 (i_iload 51 1) := snd_iload_n rfl dX12_jump_50
theorem sX12_jump_51 {h0 : Hp_} : Snd 73 107 h0 (miT TbM) RX12 cX12_jump 7 (some .int) 51 (i_iload 53 5) := snd_iload dX12_jump_51
theorem sX12_jump_53 {h0 : Hp_} : Snd 73 107 h0 (miT TbM) RX12 cX12_jump 7 (some .int) 53 (i_cV2 12 11 56) := snd_cV2 (fun hK hd hC ho hs h6 h7 h8 kk => iv_X12_261 hK (mcM_12 hC) ho hs ⟨hd, by show _ ≤ 40 * (_ + 1); omega⟩ (Nat.le_refl _) h6 h7 h8 ⟨Nat.le_refl _, Nat.le_refl _⟩ dX12_jump_53 kk)
theorem sX12_jump_56 {h0 : Hp_} : Snd 73 107 h0 (miT TbM) RX12 cX12_jump 7 (some .int) 56 (i_if_ne 59 63) := snd_if_ne dX12_jump_56 rfl
theorem sX12_jump_59 {h0 : Hp_} : Snd 73 107 h0 (miT TbM) RX12 cX12_jump 7 (some .int) 59 (i_const 60 (vI 1)) := snd_iconst dX12_jump_59
theorem sX12_jump_60 {h0 : Hp_} : Snd 73 107 h0 (miT TbM) RX12 cX12_jump 7 (some .int) 60 (i_goto 64) := snd_goto dX12_jump_60 rfl
theorem sX12_jump_63 {h0 : Hp_} : Snd 73 107 h0 (miT TbM) RX12 cX12_jump 7 (some .int) 63 (i_const 64 (vI 0)) := snd_iconst dX12_jump_63
theorem sX12_jump_64 {h0 : Hp_} : Snd 73 107 h0 (miT TbM) RX12 cX12_jump 7 (some .int) 64 (i_istore 65 3) := snd_istore_n rfl (by decide) dX12_jump_64
theorem sX12_jump_65 {h0 : Hp_} : Snd 73 107 h0 (miT TbM) RX12 cX12_jump 7 (some .int) 65 (i_iload 66 3) := snd_iload_n rfl dX12_jump_65
theorem sX12_jump_66 {h0 : Hp_} : Snd 73 107 h0 (miT TbM) RX12 cX12_jump 7 (some .int) 66 (i_if_eq 69 87) := snd_if_eq dX12_jump_66 rfl
theorem sX12_jump_69 {h0 : Hp_} : Snd 73 107 h0 (miT TbM) RX12 cX12_jump 7 (some .int) 69 (i_aload 70 0) := snd_aload_n rfl dX12_jump_69
theorem sX12_jump_70 {h0 : Hp_} : Snd 73 107 h0 (miT TbM) RX12 cX12_jump 7 (some .int) 70 (i_iload 71 1) := snd_iload_n rfl dX12_jump_70
theorem sX12_jump_71 {h0 : Hp_} : Snd 73 107 h0 (miT TbM) RX12 cX12_jump 7 (some .int) 71 (i_iload 73 5) := snd_iload dX12_jump_71
theorem sX12_jump_73 {h0 : Hp_} : Snd 73 107 h0 (miT TbM) RX12 cX12_jump 7 (some .int) 73 (i_cV2 5 11 76) := snd_cV2 (fun hK hd hC ho hs h6 h7 h8 kk => iv_X12_264 hK (mcM_5 hC) ho hs ⟨hd, by show _ ≤ 40 * (_ + 1); omega⟩ (Nat.le_refl _) h6 h7 h8 ⟨Nat.le_refl _, Nat.le_refl _⟩ dX12_jump_73 kk)
theorem sX12_jump_76 {h0 : Hp_} : Snd 73 107 h0 (miT TbM) RX12 cX12_jump 7 (some .int) 76 (i_const 77 (vI 1)) := snd_iconst dX12_jump_76
theorem sX12_jump_77 {h0 : Hp_} : Snd 73 107 h0 (miT TbM) RX12 cX12_jump 7 (some .int) 77 (i_icmp_ne 80 87) := snd_icmp_ne dX12_jump_77 rfl
theorem sX12_jump_80 {h0 : Hp_} : Snd 73 107 h0 (miT TbM) RX12 cX12_jump 7 (some .int) 80 (i_iload 82 5) := snd_iload dX12_jump_80
theorem sX12_jump_82 {h0 : Hp_} : Snd 73 107 h0 (miT TbM) RX12 cX12_jump 7 (some .int) 82 (i_iload 83 2) := snd_iload_n rfl dX12_jump_82
theorem sX12_jump_83 {h0 : Hp_} : Snd 73 107 h0 (miT TbM) RX12 cX12_jump 7 (some .int) 83 (i_isub 84) := snd_isub dX12_jump_83
theorem sX12_jump_84 {h0 : Hp_} : Snd 73 107 h0 (miT TbM) RX12 cX12_jump 7 (some .int) 84 (i_goto 89) := snd_goto dX12_jump_84 rfl
theorem sX12_jump_87 {h0 : Hp_} : Snd 73 107 h0 (miT TbM) RX12 cX12_jump 7 (some .int) 87 (i_iload 89 4) := snd_iload dX12_jump_87
theorem sX12_jump_89 {h0 : Hp_} : Snd 73 107 h0 (miT TbM) RX12 cX12_jump 7 (some .int) 89 (i_istore 91 4) := snd_istore (by decide) dX12_jump_89
theorem sX12_jump_91 {h0 : Hp_} : Snd 73 107 h0 (miT TbM) RX12 cX12_jump 7 (some .int) 91 (i_iinc 94 5 (-1)) := snd_iinc (by decide) dX12_jump_91
theorem sX12_jump_94 {h0 : Hp_} : Snd 73 107 h0 (miT TbM) RX12 cX12_jump 7 (some .int) 94 (i_goto 29) := snd_goto dX12_jump_94 rfl
theorem sX12_jump_97 {h0 : Hp_} : Snd 73 107 h0 (miT TbM) RX12 cX12_jump 7 (some .int) 97 (i_iload 98 3) := snd_iload_n rfl dX12_jump_97
theorem sX12_jump_98 {h0 : Hp_} : Snd 73 107 h0 (miT TbM) RX12 cX12_jump 7 (some .int) 98 (i_if_ne 101 103) := snd_if_ne dX12_jump_98 rfl
theorem sX12_jump_101 {h0 : Hp_} : Snd 73 107 h0 (miT TbM) RX12 cX12_jump 7 (some .int) 101 (i_const 102 (vI 0)) := snd_iconst dX12_jump_101
theorem sX12_jump_102 {h0 : Hp_} : Snd 73 107 h0 (miT TbM) RX12 cX12_jump 7 (some .int) 102 (i_iret) := snd_iret dX12_jump_102
theorem sX12_jump_103 {h0 : Hp_} : Snd 73 107 h0 (miT TbM) RX12 cX12_jump 7 (some .int) 103 (i_aload 104 0) := snd_aload_n rfl dX12_jump_103
theorem sX12_jump_104 {h0 : Hp_} : Snd 73 107 h0 (miT TbM) RX12 cX12_jump 7 (some .int) 104 (i_const 106 (vI 17)) := snd_bipush (by decide) dX12_jump_104
theorem sX12_jump_106 {h0 : Hp_} : Snd 73 107 h0 (miT TbM) RX12 cX12_jump 7 (some .int) 106 (i_iload 108 4) := snd_iload dX12_jump_106
theorem sX12_jump_108 {h0 : Hp_} : Snd 73 107 h0 (miT TbM) RX12 cX12_jump 7 (some .int) 108 (i_const 109 (vI 4)) := snd_iconst dX12_jump_108
theorem sX12_jump_109 {h0 : Hp_} : Snd 73 107 h0 (miT TbM) RX12 cX12_jump 7 (some .int) 109 (i_icmp_ge 112 116) := snd_icmp_ge dX12_jump_109 rfl
theorem sX12_jump_112 {h0 : Hp_} : Snd 73 107 h0 (miT TbM) RX12 cX12_jump 7 (some .int) 112 (i_const 113 (vI 1)) := snd_iconst dX12_jump_112
theorem sX12_jump_113 {h0 : Hp_} : Snd 73 107 h0 (miT TbM) RX12 cX12_jump 7 (some .int) 113 (i_goto 117) := snd_goto dX12_jump_113 rfl
theorem sX12_jump_116 {h0 : Hp_} : Snd 73 107 h0 (miT TbM) RX12 cX12_jump 7 (some .int) 116 (i_const 117 (vI 0)) := snd_iconst dX12_jump_116
theorem sX12_jump_117 {h0 : Hp_} : Snd 73 107 h0 (miT TbM) RX12 cX12_jump 7 (some .int) 117 (i_cV2 9 11 120) := snd_cV2 (fun hK hd hC ho hs h6 h7 h8 kk => iv_X12_258 hK (mcM_9 hC) ho hs ⟨hd, by show _ ≤ 40 * (_ + 1); omega⟩ (Nat.le_refl _) h6 h7 h8 ⟨Nat.le_refl _, Nat.le_refl _⟩ dX12_jump_117 kk)
theorem sX12_jump_120 {h0 : Hp_} : Snd 73 107 h0 (miT TbM) RX12 cX12_jump 7 (some .int) 120 (i_if_ne 123 125) := snd_if_ne dX12_jump_120 rfl
theorem sX12_jump_123 {h0 : Hp_} : Snd 73 107 h0 (miT TbM) RX12 cX12_jump 7 (some .int) 123 (i_const 124 (vI 4)) := snd_iconst dX12_jump_123
theorem sX12_jump_124 {h0 : Hp_} : Snd 73 107 h0 (miT TbM) RX12 cX12_jump 7 (some .int) 124 (i_iret) := snd_iret dX12_jump_124
theorem sX12_jump_125 {h0 : Hp_} : Snd 73 107 h0 (miT TbM) RX12 cX12_jump 7 (some .int) 125 (i_aload 126 0) := snd_aload_n rfl dX12_jump_125
theorem sX12_jump_126 {h0 : Hp_} : Snd 73 107 h0 (miT TbM) RX12 cX12_jump 7 (some .int) 126 (i_const 128 (vI 18)) := snd_bipush (by decide) dX12_jump_126
theorem sX12_jump_128 {h0 : Hp_} : Snd 73 107 h0 (miT TbM) RX12 cX12_jump 7 (some .int) 128 (i_iload 130 4) := snd_iload dX12_jump_128
theorem sX12_jump_130 {h0 : Hp_} : Snd 73 107 h0 (miT TbM) RX12 cX12_jump 7 (some .int) 130 (i_const 131 (vI 2)) := snd_iconst dX12_jump_130
theorem sX12_jump_131 {h0 : Hp_} : Snd 73 107 h0 (miT TbM) RX12 cX12_jump 7 (some .int) 131 (i_idiv 132) := snd_idiv dX12_jump_131
theorem sX12_jump_132 {h0 : Hp_} : Snd 73 107 h0 (miT TbM) RX12 cX12_jump 7 (some .int) 132 (i_const 133 (vI 2)) := snd_iconst dX12_jump_132
theorem sX12_jump_133 {h0 : Hp_} : Snd 73 107 h0 (miT TbM) RX12 cX12_jump 7 (some .int) 133 (i_irem 134) := snd_irem dX12_jump_133
theorem sX12_jump_134 {h0 : Hp_} : Snd 73 107 h0 (miT TbM) RX12 cX12_jump 7 (some .int) 134 (i_cV2 9 11 137) := snd_cV2 (fun hK hd hC ho hs h6 h7 h8 kk => iv_X12_258 hK (mcM_9 hC) ho hs ⟨hd, by show _ ≤ 40 * (_ + 1); omega⟩ (Nat.le_refl _) h6 h7 h8 ⟨Nat.le_refl _, Nat.le_refl _⟩ dX12_jump_134 kk)
theorem sX12_jump_137 {h0 : Hp_} : Snd 73 107 h0 (miT TbM) RX12 cX12_jump 7 (some .int) 137 (i_istore 139 5) := snd_istore (by decide) dX12_jump_137
theorem sX12_jump_139 {h0 : Hp_} : Snd 73 107 h0 (miT TbM) RX12 cX12_jump 7 (some .int) 139 (i_aload 140 0) := snd_aload_n rfl dX12_jump_139
theorem sX12_jump_140 {h0 : Hp_} : Snd 73 107 h0 (miT TbM) RX12 cX12_jump 7 (some .int) 140 (i_const 142 (vI 18)) := snd_bipush (by decide) dX12_jump_140
theorem sX12_jump_142 {h0 : Hp_} : Snd 73 107 h0 (miT TbM) RX12 cX12_jump 7 (some .int) 142 (i_iload 144 4) := snd_iload dX12_jump_142
theorem sX12_jump_144 {h0 : Hp_} : Snd 73 107 h0 (miT TbM) RX12 cX12_jump 7 (some .int) 144 (i_const 145 (vI 2)) := snd_iconst dX12_jump_144
theorem sX12_jump_145 {h0 : Hp_} : Snd 73 107 h0 (miT TbM) RX12 cX12_jump 7 (some .int) 145 (i_irem 146) := snd_irem dX12_jump_145
theorem sX12_jump_146 {h0 : Hp_} : Snd 73 107 h0 (miT TbM) RX12 cX12_jump 7 (some .int) 146 (i_cV2 9 11 149) := snd_cV2 (fun hK hd hC ho hs h6 h7 h8 kk => iv_X12_258 hK (mcM_9 hC) ho hs ⟨hd, by show _ ≤ 40 * (_ + 1); omega⟩ (Nat.le_refl _) h6 h7 h8 ⟨Nat.le_refl _, Nat.le_refl _⟩ dX12_jump_146 kk)
theorem sX12_jump_149 {h0 : Hp_} : Snd 73 107 h0 (miT TbM) RX12 cX12_jump 7 (some .int) 149 (i_istore 151 6) := snd_istore (by decide) dX12_jump_149
theorem sX12_jump_151 {h0 : Hp_} : Snd 73 107 h0 (miT TbM) RX12 cX12_jump 7 (some .int) 151 (i_aload 152 0) := snd_aload_n rfl dX12_jump_151
theorem sX12_jump_152 {h0 : Hp_} : Snd 73 107 h0 (miT TbM) RX12 cX12_jump 7 (some .int) 152 (i_iload 153 1) := snd_iload_n rfl dX12_jump_152
theorem sX12_jump_153 {h0 : Hp_} : Snd 73 107 h0 (miT TbM) RX12 cX12_jump 7 (some .int) 153 (i_iload 154 2) := snd_iload_n rfl dX12_jump_153
theorem sX12_jump_154 {h0 : Hp_} : Snd 73 107 h0 (miT TbM) RX12 cX12_jump 7 (some .int) 154 (i_const 155 (vI 2)) := snd_iconst dX12_jump_154
theorem sX12_jump_155 {h0 : Hp_} : Snd 73 107 h0 (miT TbM) RX12 cX12_jump 7 (some .int) 155 (i_iload 157 5) := snd_iload dX12_jump_155
theorem sX12_jump_157 {h0 : Hp_} : Snd 73 107 h0 (miT TbM) RX12 cX12_jump 7 (some .int) 157 (i_imul 158) := snd_imul dX12_jump_157
theorem sX12_jump_158 {h0 : Hp_} : Snd 73 107 h0 (miT TbM) RX12 cX12_jump 7 (some .int) 158 (i_iadd 159) := snd_iadd dX12_jump_158
theorem sX12_jump_159 {h0 : Hp_} : Snd 73 107 h0 (miT TbM) RX12 cX12_jump 7 (some .int) 159 (i_iload 161 6) := snd_iload dX12_jump_159
theorem sX12_jump_161 {h0 : Hp_} : Snd 73 107 h0 (miT TbM) RX12 cX12_jump 7 (some .int) 161 (i_iadd 162) := snd_iadd dX12_jump_161
theorem sX12_jump_162 {h0 : Hp_} : Snd 73 107 h0 (miT TbM) RX12 cX12_jump 7 (some .int) 162 (i_cV2 45 11 165) := snd_cV2 (fun hK hd hC ho hs h6 h7 h8 kk => iv_X12_267 hK (mcM_45 hC) ho hs ⟨hd, by show _ ≤ 40 * (_ + 1); omega⟩ (Nat.le_refl _) h6 h7 h8 ⟨Nat.le_refl _, Nat.le_refl _⟩ dX12_jump_162 kk)
theorem sX12_jump_165 {h0 : Hp_} : Snd 73 107 h0 (miT TbM) RX12 cX12_jump 7 (some .int) 165 (i_const 166 (vI 2)) := snd_iconst dX12_jump_165
theorem sX12_jump_166 {h0 : Hp_} : Snd 73 107 h0 (miT TbM) RX12 cX12_jump 7 (some .int) 166 (i_iload 168 5) := snd_iload dX12_jump_166
theorem sX12_jump_168 {h0 : Hp_} : Snd 73 107 h0 (miT TbM) RX12 cX12_jump 7 (some .int) 168 (i_imul 169) := snd_imul dX12_jump_168
theorem sX12_jump_169 {h0 : Hp_} : Snd 73 107 h0 (miT TbM) RX12 cX12_jump 7 (some .int) 169 (i_iload 171 6) := snd_iload dX12_jump_169
theorem sX12_jump_171 {h0 : Hp_} : Snd 73 107 h0 (miT TbM) RX12 cX12_jump 7 (some .int) 171 (i_iadd 172) := snd_iadd dX12_jump_171
theorem sX12_jump_172 {h0 : Hp_} : Snd 73 107 h0 (miT TbM) RX12 cX12_jump 7 (some .int) 172 (i_const 173 (vI 1)) := snd_iconst dX12_jump_172
theorem sX12_jump_173 {h0 : Hp_} : Snd 73 107 h0 (miT TbM) RX12 cX12_jump 7 (some .int) 173 (i_iadd 174) := snd_iadd dX12_jump_173
theorem sX12_jump_174 {h0 : Hp_} : Snd 73 107 h0 (miT TbM) RX12 cX12_jump 7 (some .int) 174 (i_iret) := snd_iret dX12_jump_174
theorem kX12_jump {h0 : Hp_} : raA (okI 73 107 h0 (miT TbM) (yX12_jump, cX12_jump, 7, (some .int))) tX12_jump := (raA_br (raA_br (raA_br (raA_br (raA_br (raA_br (raA_leaf sX12_jump_0) (raA_br (raA_leaf sX12_jump_1) (raA_leaf sX12_jump_2))) (raA_br (raA_leaf sX12_jump_3) (raA_br (raA_leaf sX12_jump_4) (raA_leaf sX12_jump_7)))) (raA_br (raA_br (raA_leaf sX12_jump_8) (raA_br (raA_leaf sX12_jump_11) (raA_leaf sX12_jump_12))) (raA_br (raA_br (raA_leaf sX12_jump_15) (raA_leaf sX12_jump_16)) (raA_br (raA_leaf sX12_jump_19) (raA_leaf sX12_jump_20))))) (raA_br (raA_br (raA_br (raA_leaf sX12_jump_21) (raA_br (raA_leaf sX12_jump_22) (raA_leaf sX12_jump_24))) (raA_br (raA_leaf sX12_jump_25) (raA_br (raA_leaf sX12_jump_26) (raA_leaf sX12_jump_27)))) (raA_br (raA_br (raA_leaf sX12_jump_29) (raA_br (raA_leaf sX12_jump_31) (raA_leaf sX12_jump_32))) (raA_br (raA_br (raA_leaf sX12_jump_35) (raA_leaf sX12_jump_36)) (raA_br (raA_leaf sX12_jump_39) (raA_leaf sX12_jump_40)))))) (raA_br (raA_br (raA_br (raA_br (raA_leaf sX12_jump_41) (raA_br (raA_leaf sX12_jump_43) (raA_leaf sX12_jump_46))) (raA_br (raA_leaf sX12_jump_49) (raA_br (raA_leaf sX12_jump_50) (raA_leaf sX12_jump_51)))) (raA_br (raA_br (raA_leaf sX12_jump_53) (raA_br (raA_leaf sX12_jump_56) (raA_leaf sX12_jump_59))) (raA_br (raA_br (raA_leaf sX12_jump_60) (raA_leaf sX12_jump_63)) (raA_br (raA_leaf sX12_jump_64) (raA_leaf sX12_jump_65))))) (raA_br (raA_br (raA_br (raA_leaf sX12_jump_66) (raA_br (raA_leaf sX12_jump_69) (raA_leaf sX12_jump_70))) (raA_br (raA_leaf sX12_jump_71) (raA_br (raA_leaf sX12_jump_73) (raA_leaf sX12_jump_76)))) (raA_br (raA_br (raA_leaf sX12_jump_77) (raA_br (raA_leaf sX12_jump_80) (raA_leaf sX12_jump_82))) (raA_br (raA_br (raA_leaf sX12_jump_83) (raA_leaf sX12_jump_84)) (raA_br (raA_leaf sX12_jump_87) (raA_leaf sX12_jump_89))))))) (raA_br (raA_br (raA_br (raA_br (raA_br (raA_leaf sX12_jump_91) (raA_br (raA_leaf sX12_jump_94) (raA_leaf sX12_jump_97))) (raA_br (raA_leaf sX12_jump_98) (raA_br (raA_leaf sX12_jump_101) (raA_leaf sX12_jump_102)))) (raA_br (raA_br (raA_leaf sX12_jump_103) (raA_br (raA_leaf sX12_jump_104) (raA_leaf sX12_jump_106))) (raA_br (raA_br (raA_leaf sX12_jump_108) (raA_leaf sX12_jump_109)) (raA_br (raA_leaf sX12_jump_112) (raA_leaf sX12_jump_113))))) (raA_br (raA_br (raA_br (raA_leaf sX12_jump_116) (raA_br (raA_leaf sX12_jump_117) (raA_leaf sX12_jump_120))) (raA_br (raA_leaf sX12_jump_123) (raA_br (raA_leaf sX12_jump_124) (raA_leaf sX12_jump_125)))) (raA_br (raA_br (raA_leaf sX12_jump_126) (raA_br (raA_leaf sX12_jump_128) (raA_leaf sX12_jump_130))) (raA_br (raA_br (raA_leaf sX12_jump_131) (raA_leaf sX12_jump_132)) (raA_br (raA_leaf sX12_jump_133) (raA_leaf sX12_jump_134)))))) (raA_br (raA_br (raA_br (raA_br (raA_leaf sX12_jump_137) (raA_br (raA_leaf sX12_jump_139) (raA_leaf sX12_jump_140))) (raA_br (raA_leaf sX12_jump_142) (raA_br (raA_leaf sX12_jump_144) (raA_leaf sX12_jump_145)))) (raA_br (raA_br (raA_leaf sX12_jump_146) (raA_br (raA_leaf sX12_jump_149) (raA_leaf sX12_jump_151))) (raA_br (raA_br (raA_leaf sX12_jump_152) (raA_leaf sX12_jump_153)) (raA_br (raA_leaf sX12_jump_154) (raA_leaf sX12_jump_155))))) (raA_br (raA_br (raA_br (raA_leaf sX12_jump_157) (raA_br (raA_leaf sX12_jump_158) (raA_leaf sX12_jump_159))) (raA_br (raA_leaf sX12_jump_161) (raA_br (raA_leaf sX12_jump_162) (raA_leaf sX12_jump_165)))) (raA_br (raA_br (raA_leaf sX12_jump_166) (raA_br (raA_leaf sX12_jump_168) (raA_leaf sX12_jump_169))) (raA_br (raA_br (raA_leaf sX12_jump_171) (raA_leaf sX12_jump_172)) (raA_br (raA_leaf sX12_jump_173) (raA_leaf sX12_jump_174))))))))
theorem sX12_learn_0 {h0 : Hp_} : Snd 73 107 h0 (miT TbM) RX12 cX12_learn 4 none 0 (i_aload 1 0) := snd_aload_n rfl dX12_learn_0
theorem sX12_learn_1 {h0 : Hp_} : Snd 73 107 h0 (miT TbM) RX12 cX12_learn 4 none 1 (i_getR 11 30 4) := snd_getR rfl (by decide) (by decide) (by decide) (fun hK ho hs hq kk => gf_X12_84 hK ho hs hq rfl dX12_learn_1 kk)
theorem sX12_learn_4 {h0 : Hp_} : Snd 73 107 h0 (miT TbM) RX12 cX12_learn 4 none 4 (i_iload 5 1) := snd_iload_n rfl dX12_learn_4
theorem sX12_learn_5 {h0 : Hp_} : Snd 73 107 h0 (miT TbM) RX12 cX12_learn 4 none 5 (i_iald 73 107 6) := snd_iald dX12_learn_5
theorem sX12_learn_6 {h0 : Hp_} : Snd 73 107 h0 (miT TbM) RX12 cX12_learn 4 none 6 (i_istore 7 3) := snd_istore_n rfl (by decide) dX12_learn_6
theorem sX12_learn_7 {h0 : Hp_} : Snd 73 107 h0 (miT TbM) RX12 cX12_learn 4 none 7 (i_iload 8 2) := snd_iload_n rfl dX12_learn_7
theorem sX12_learn_8 {h0 : Hp_} : Snd 73 107 h0 (miT TbM) RX12 cX12_learn 4 none 8 (i_if_eq 11 41) := snd_if_eq dX12_learn_8 rfl
theorem sX12_learn_11 {h0 : Hp_} : Snd 73 107 h0 (miT TbM) RX12 cX12_learn 4 none 11 (i_iload 12 3) := snd_iload_n rfl dX12_learn_11
theorem sX12_learn_12 {h0 : Hp_} : Snd 73 107 h0 (miT TbM) RX12 cX12_learn 4 none 12 (i_if_eq 15 27) := snd_if_eq dX12_learn_12 rfl
theorem sX12_learn_15 {h0 : Hp_} : Snd 73 107 h0 (miT TbM) RX12 cX12_learn 4 none 15 (i_iload 16 3) := snd_iload_n rfl dX12_learn_15
theorem sX12_learn_16 {h0 : Hp_} : Snd 73 107 h0 (miT TbM) RX12 cX12_learn 4 none 16 (i_const 18 (vI 6)) := snd_bipush (by decide) dX12_learn_16
theorem sX12_learn_18 {h0 : Hp_} : Snd 73 107 h0 (miT TbM) RX12 cX12_learn 4 none 18 (i_icmp_eq 21 27) := snd_icmp_eq dX12_learn_18 rfl
theorem sX12_learn_21 {h0 : Hp_} : Snd 73 107 h0 (miT TbM) RX12 cX12_learn 4 none 21 (i_iload 22 3) := snd_iload_n rfl dX12_learn_21
theorem sX12_learn_22 {h0 : Hp_} : Snd 73 107 h0 (miT TbM) RX12 cX12_learn 4 none 22 (i_const 24 (vI 14)) := snd_bipush (by decide) dX12_learn_22
theorem sX12_learn_24 {h0 : Hp_} : Snd 73 107 h0 (miT TbM) RX12 cX12_learn 4 none 24 (i_icmp_ne 27 41) := snd_icmp_ne dX12_learn_24 rfl
theorem sX12_learn_27 {h0 : Hp_} : Snd 73 107 h0 (miT TbM) RX12 cX12_learn 4 none 27 (i_aload 28 0) := snd_aload_n rfl dX12_learn_27
theorem sX12_learn_28 {h0 : Hp_} : Snd 73 107 h0 (miT TbM) RX12 cX12_learn 4 none 28 (i_getR 11 31 31) := snd_getR rfl (by decide) (by decide) (by decide) (fun hK ho hs hq kk => gf_X12_87 hK ho hs hq rfl dX12_learn_28 kk)
theorem sX12_learn_31 {h0 : Hp_} : Snd 73 107 h0 (miT TbM) RX12 cX12_learn 4 none 31 (i_iload 32 1) := snd_iload_n rfl dX12_learn_31
theorem sX12_learn_32 {h0 : Hp_} : Snd 73 107 h0 (miT TbM) RX12 cX12_learn 4 none 32 (i_const 33 (vI 1)) := snd_iconst dX12_learn_32
theorem sX12_learn_33 {h0 : Hp_} : Snd 73 107 h0 (miT TbM) RX12 cX12_learn 4 none 33 (i_aload 34 0) := snd_aload_n rfl dX12_learn_33
theorem sX12_learn_34 {h0 : Hp_} : Snd 73 107 h0 (miT TbM) RX12 cX12_learn 4 none 34 (i_getR 11 31 37) := snd_getR rfl (by decide) (by decide) (by decide) (fun hK ho hs hq kk => gf_X12_87 hK ho hs hq rfl dX12_learn_34 kk)
theorem sX12_learn_37 {h0 : Hp_} : Snd 73 107 h0 (miT TbM) RX12 cX12_learn 4 none 37 (i_iload 38 1) := snd_iload_n rfl dX12_learn_37
theorem sX12_learn_38 {h0 : Hp_} : Snd 73 107 h0 (miT TbM) RX12 cX12_learn 4 none 38 (i_iald 73 107 39) := snd_iald dX12_learn_38
theorem sX12_learn_39 {h0 : Hp_} : Snd 73 107 h0 (miT TbM) RX12 cX12_learn 4 none 39 (i_isub 40) := snd_isub dX12_learn_39
theorem sX12_learn_40 {h0 : Hp_} : Snd 73 107 h0 (miT TbM) RX12 cX12_learn 4 none 40 (i_iast 73 107 41) := snd_iast dX12_learn_40
theorem sX12_learn_41 {h0 : Hp_} : Snd 73 107 h0 (miT TbM) RX12 cX12_learn 4 none 41 (i_aload 42 0) := snd_aload_n rfl dX12_learn_41
theorem sX12_learn_42 {h0 : Hp_} : Snd 73 107 h0 (miT TbM) RX12 cX12_learn 4 none 42 (i_getR 11 30 45) := snd_getR rfl (by decide) (by decide) (by decide) (fun hK ho hs hq kk => gf_X12_84 hK ho hs hq rfl dX12_learn_42 kk)
theorem sX12_learn_45 {h0 : Hp_} : Snd 73 107 h0 (miT TbM) RX12 cX12_learn 4 none 45 (i_iload 46 1) := snd_iload_n rfl dX12_learn_45
theorem sX12_learn_46 {h0 : Hp_} : Snd 73 107 h0 (miT TbM) RX12 cX12_learn 4 none 46 (i_iload 47 2) := snd_iload_n rfl dX12_learn_46
theorem sX12_learn_47 {h0 : Hp_} : Snd 73 107 h0 (miT TbM) RX12 cX12_learn 4 none 47 (i_if_eq 50 62) := snd_if_eq dX12_learn_47 rfl
theorem sX12_learn_50 {h0 : Hp_} : Snd 73 107 h0 (miT TbM) RX12 cX12_learn 4 none 50 (i_aload 51 0) := snd_aload_n rfl dX12_learn_50
theorem sX12_learn_51 {h0 : Hp_} : Snd 73 107 h0 (miT TbM) RX12 cX12_learn 4 none 51 (i_getR 11 1 54) := snd_getR rfl (by decide) (by decide) (by decide) (fun hK ho hs hq kk => gf_X12_13 hK ho hs hq rfl dX12_learn_51 kk)
theorem sX12_learn_54 {h0 : Hp_} : Snd 73 107 h0 (miT TbM) RX12 cX12_learn 4 none 54 (i_iload 55 3) := snd_iload_n rfl dX12_learn_54
theorem sX12_learn_55 {h0 : Hp_} : Snd 73 107 h0 (miT TbM) RX12 cX12_learn 4 none 55 (i_iald 73 107 56) := snd_iald dX12_learn_55
theorem sX12_learn_56 {h0 : Hp_} : Snd 73 107 h0 (miT TbM) RX12 cX12_learn 4 none 56 (i_const 58 (vI 100)) := snd_bipush (by decide) dX12_learn_56
theorem sX12_learn_58 {h0 : Hp_} : Snd 73 107 h0 (miT TbM) RX12 cX12_learn 4 none 58 (i_irem 59) := snd_irem dX12_learn_58
theorem sX12_learn_59 {h0 : Hp_} : Snd 73 107 h0 (miT TbM) RX12 cX12_learn 4 none 59 (i_goto 71) := snd_goto dX12_learn_59 rfl
theorem sX12_learn_62 {h0 : Hp_} : Snd 73 107 h0 (miT TbM) RX12 cX12_learn 4 none 62 (i_aload 63 0) := snd_aload_n rfl dX12_learn_62
theorem sX12_learn_63 {h0 : Hp_} : Snd 73 107 h0 (miT TbM) RX12 cX12_learn 4 none 63 (i_getR 11 1 66) := snd_getR rfl (by decide) (by decide) (by decide) (fun hK ho hs hq kk => gf_X12_13 hK ho hs hq rfl dX12_learn_63 kk)
theorem sX12_learn_66 {h0 : Hp_} : Snd 73 107 h0 (miT TbM) RX12 cX12_learn 4 none 66 (i_iload 67 3) := snd_iload_n rfl dX12_learn_66
theorem sX12_learn_67 {h0 : Hp_} : Snd 73 107 h0 (miT TbM) RX12 cX12_learn 4 none 67 (i_iald 73 107 68) := snd_iald dX12_learn_67
theorem sX12_learn_68 {h0 : Hp_} : Snd 73 107 h0 (miT TbM) RX12 cX12_learn 4 none 68 (i_const 70 (vI 100)) := snd_bipush (by decide) dX12_learn_68
theorem sX12_learn_70 {h0 : Hp_} : Snd 73 107 h0 (miT TbM) RX12 cX12_learn 4 none 70 (i_idiv 71) := snd_idiv dX12_learn_70
theorem sX12_learn_71 {h0 : Hp_} : Snd 73 107 h0 (miT TbM) RX12 cX12_learn 4 none 71 (i_iast 73 107 72) := snd_iast dX12_learn_71
theorem sX12_learn_72 {h0 : Hp_} : Snd 73 107 h0 (miT TbM) RX12 cX12_learn 4 none 72 (i_vret) := snd_vret dX12_learn_72
theorem kX12_learn {h0 : Hp_} : raA (okI 73 107 h0 (miT TbM) (yX12_learn, cX12_learn, 4, none)) tX12_learn := (raA_br (raA_br (raA_br (raA_br (raA_br (raA_leaf sX12_learn_0) (raA_leaf sX12_learn_1)) (raA_br (raA_leaf sX12_learn_4) (raA_br (raA_leaf sX12_learn_5) (raA_leaf sX12_learn_6)))) (raA_br (raA_br (raA_leaf sX12_learn_7) (raA_br (raA_leaf sX12_learn_8) (raA_leaf sX12_learn_11))) (raA_br (raA_leaf sX12_learn_12) (raA_br (raA_leaf sX12_learn_15) (raA_leaf sX12_learn_16))))) (raA_br (raA_br (raA_br (raA_leaf sX12_learn_18) (raA_leaf sX12_learn_21)) (raA_br (raA_leaf sX12_learn_22) (raA_br (raA_leaf sX12_learn_24) (raA_leaf sX12_learn_27)))) (raA_br (raA_br (raA_leaf sX12_learn_28) (raA_br (raA_leaf sX12_learn_31) (raA_leaf sX12_learn_32))) (raA_br (raA_leaf sX12_learn_33) (raA_br (raA_leaf sX12_learn_34) (raA_leaf sX12_learn_37)))))) (raA_br (raA_br (raA_br (raA_br (raA_leaf sX12_learn_38) (raA_leaf sX12_learn_39)) (raA_br (raA_leaf sX12_learn_40) (raA_br (raA_leaf sX12_learn_41) (raA_leaf sX12_learn_42)))) (raA_br (raA_br (raA_leaf sX12_learn_45) (raA_br (raA_leaf sX12_learn_46) (raA_leaf sX12_learn_47))) (raA_br (raA_leaf sX12_learn_50) (raA_br (raA_leaf sX12_learn_51) (raA_leaf sX12_learn_54))))) (raA_br (raA_br (raA_br (raA_leaf sX12_learn_55) (raA_br (raA_leaf sX12_learn_56) (raA_leaf sX12_learn_58))) (raA_br (raA_leaf sX12_learn_59) (raA_br (raA_leaf sX12_learn_62) (raA_leaf sX12_learn_63)))) (raA_br (raA_br (raA_leaf sX12_learn_66) (raA_br (raA_leaf sX12_learn_67) (raA_leaf sX12_learn_68))) (raA_br (raA_leaf sX12_learn_70) (raA_br (raA_leaf sX12_learn_71) (raA_leaf sX12_learn_72)))))))
theorem sX12_left_0 {h0 : Hp_} : Snd 73 107 h0 (miT TbM) RX12 cX12_left 2 (some .int) 0 (i_iload 1 0) := snd_iload_n rfl dX12_left_0
theorem sX12_left_1 {h0 : Hp_} : Snd 73 107 h0 (miT TbM) RX12 cX12_left 2 (some .int) 1 (i_const 2 (vI 1)) := snd_iconst dX12_left_1
theorem sX12_left_2 {h0 : Hp_} : Snd 73 107 h0 (miT TbM) RX12 cX12_left 2 (some .int) 2 (i_iload 3 1) := snd_iload_n rfl dX12_left_2
theorem sX12_left_3 {h0 : Hp_} : Snd 73 107 h0 (miT TbM) RX12 cX12_left 2 (some .int) 3 (i_ishl 4) := snd_ishl dX12_left_3
theorem sX12_left_4 {h0 : Hp_} : Snd 73 107 h0 (miT TbM) RX12 cX12_left 2 (some .int) 4 (i_iadd 5) := snd_iadd dX12_left_4
theorem sX12_left_5 {h0 : Hp_} : Snd 73 107 h0 (miT TbM) RX12 cX12_left 2 (some .int) 5 (i_const 6 (vI 1)) := snd_iconst dX12_left_5
theorem sX12_left_6 {h0 : Hp_} : Snd 73 107 h0 (miT TbM) RX12 cX12_left 2 (some .int) 6 (i_isub 7) := snd_isub dX12_left_6
theorem sX12_left_7 {h0 : Hp_} : Snd 73 107 h0 (miT TbM) RX12 cX12_left 2 (some .int) 7 (i_iload 8 1) := snd_iload_n rfl dX12_left_7
theorem sX12_left_8 {h0 : Hp_} : Snd 73 107 h0 (miT TbM) RX12 cX12_left 2 (some .int) 8 (i_ishr 9) := snd_ishr dX12_left_8
theorem sX12_left_9 {h0 : Hp_} : Snd 73 107 h0 (miT TbM) RX12 cX12_left 2 (some .int) 9 (i_iret) := snd_iret dX12_left_9
theorem kX12_left {h0 : Hp_} : raA (okI 73 107 h0 (miT TbM) (yX12_left, cX12_left, 2, (some .int))) tX12_left := (raA_br (raA_br (raA_br (raA_leaf sX12_left_0) (raA_leaf sX12_left_1)) (raA_br (raA_leaf sX12_left_2) (raA_br (raA_leaf sX12_left_3) (raA_leaf sX12_left_4)))) (raA_br (raA_br (raA_leaf sX12_left_5) (raA_leaf sX12_left_6)) (raA_br (raA_leaf sX12_left_7) (raA_br (raA_leaf sX12_left_8) (raA_leaf sX12_left_9)))))
theorem sX12_loadBand_0 {h0 : Hp_} : Snd 73 107 h0 (miT TbM) RX12 cX12_loadBand 6 none 0 (i_const 1 (vI 0)) := snd_iconst dX12_loadBand_0
theorem sX12_loadBand_1 {h0 : Hp_} : Snd 73 107 h0 (miT TbM) RX12 cX12_loadBand 6 none 1 (i_istore 2 3) := snd_istore_n rfl (by decide) dX12_loadBand_1
theorem sX12_loadBand_2 {h0 : Hp_} : Snd 73 107 h0 (miT TbM) RX12 cX12_loadBand 6 none 2 (i_iload 3 3) := snd_iload_n rfl dX12_loadBand_2
theorem sX12_loadBand_3 {h0 : Hp_} : Snd 73 107 h0 (miT TbM) RX12 cX12_loadBand 6 none 3 (i_aload 4 0) := snd_aload_n rfl dX12_loadBand_3
theorem sX12_loadBand_4 {h0 : Hp_} : Snd 73 107 h0 (miT TbM) RX12 cX12_loadBand 6 none 4 (i_getR 11 10 7) := snd_getR rfl (by decide) (by decide) (by decide) (fun hK ho hs hq kk => gf_X12_38 hK ho hs hq rfl dX12_loadBand_4 kk)
theorem sX12_loadBand_7 {h0 : Hp_} : Snd 73 107 h0 (miT TbM) RX12 cX12_loadBand 6 none 7 (i_iload 8 1) := snd_iload_n rfl dX12_loadBand_7
theorem sX12_loadBand_8 {h0 : Hp_} : Snd 73 107 h0 (miT TbM) RX12 cX12_loadBand 6 none 8 (i_iald 73 107 9) := snd_iald dX12_loadBand_8
theorem sX12_loadBand_9 {h0 : Hp_} : Snd 73 107 h0 (miT TbM) RX12 cX12_loadBand 6 none 9 (i_icmp_ge 12 111) := snd_icmp_ge dX12_loadBand_9 rfl
theorem sX12_loadBand_12 {h0 : Hp_} : Snd 73 107 h0 (miT TbM) RX12 cX12_loadBand 6 none 12 (i_const 13 (vI 0)) := snd_iconst dX12_loadBand_12
theorem sX12_loadBand_13 {h0 : Hp_} : Snd 73 107 h0 (miT TbM) RX12 cX12_loadBand 6 none 13 (i_istore 15 4) := snd_istore (by decide) dX12_loadBand_13
theorem sX12_loadBand_15 {h0 : Hp_} : Snd 73 107 h0 (miT TbM) RX12 cX12_loadBand 6 none 15 (i_iload 17 4) := snd_iload dX12_loadBand_15
theorem sX12_loadBand_17 {h0 : Hp_} : Snd 73 107 h0 (miT TbM) RX12 cX12_loadBand 6 none 17 (i_aload 18 0) := snd_aload_n rfl dX12_loadBand_17
theorem sX12_loadBand_18 {h0 : Hp_} : Snd 73 107 h0 (miT TbM) RX12 cX12_loadBand 6 none 18 (i_getR 11 9 21) := snd_getR rfl (by decide) (by decide) (by decide) (fun hK ho hs hq kk => gf_X12_35 hK ho hs hq rfl dX12_loadBand_18 kk)
theorem sX12_loadBand_21 {h0 : Hp_} : Snd 73 107 h0 (miT TbM) RX12 cX12_loadBand 6 none 21 (i_iload 22 1) := snd_iload_n rfl dX12_loadBand_21
theorem sX12_loadBand_22 {h0 : Hp_} : Snd 73 107 h0 (miT TbM) RX12 cX12_loadBand 6 none 22 (i_iald 73 107 23) := snd_iald dX12_loadBand_22
theorem sX12_loadBand_23 {h0 : Hp_} : Snd 73 107 h0 (miT TbM) RX12 cX12_loadBand 6 none 23 (i_icmp_ge 26 105) := snd_icmp_ge dX12_loadBand_23 rfl
theorem sX12_loadBand_26 {h0 : Hp_} : Snd 73 107 h0 (miT TbM) RX12 cX12_loadBand 6 none 26 (i_aload 27 0) := snd_aload_n rfl dX12_loadBand_26
theorem sX12_loadBand_27 {h0 : Hp_} : Snd 73 107 h0 (miT TbM) RX12 cX12_loadBand 6 none 27 (i_getR 11 6 30) := snd_getR rfl (by decide) (by decide) (by decide) (fun hK ho hs hq kk => gf_X12_26 hK ho hs hq rfl dX12_loadBand_27 kk)
theorem sX12_loadBand_30 {h0 : Hp_} : Snd 73 107 h0 (miT TbM) RX12 cX12_loadBand 6 none 30 (i_iload 31 2) := snd_iload_n rfl dX12_loadBand_30
theorem sX12_loadBand_31 {h0 : Hp_} : Snd 73 107 h0 (miT TbM) RX12 cX12_loadBand 6 none 31 (i_const 33 (vI 8)) := snd_bipush (by decide) dX12_loadBand_31
theorem sX12_loadBand_33 {h0 : Hp_} : Snd 73 107 h0 (miT TbM) RX12 cX12_loadBand 6 none 33 (i_iload 34 3) := snd_iload_n rfl dX12_loadBand_33
theorem sX12_loadBand_34 {h0 : Hp_} : Snd 73 107 h0 (miT TbM) RX12 cX12_loadBand 6 none 34 (i_imul 35) := snd_imul dX12_loadBand_34
theorem sX12_loadBand_35 {h0 : Hp_} : Snd 73 107 h0 (miT TbM) RX12 cX12_loadBand 6 none 35 (i_iadd 36) := snd_iadd dX12_loadBand_35
theorem sX12_loadBand_36 {h0 : Hp_} : Snd 73 107 h0 (miT TbM) RX12 cX12_loadBand 6 none 36 (i_iload 38 4) := snd_iload dX12_loadBand_36
theorem sX12_loadBand_38 {h0 : Hp_} : Snd 73 107 h0 (miT TbM) RX12 cX12_loadBand 6 none 38 (i_iadd 39) := snd_iadd dX12_loadBand_38
theorem sX12_loadBand_39 {h0 : Hp_} : Snd 73 107 h0 (miT TbM) RX12 cX12_loadBand 6 none 39 (i_iald 73 107 40) := snd_iald dX12_loadBand_39
theorem sX12_loadBand_40 {h0 : Hp_} : Snd 73 107 h0 (miT TbM) RX12 cX12_loadBand 6 none 40 (i_istore 42 5) := snd_istore (by decide) dX12_loadBand_40
theorem sX12_loadBand_42 {h0 : Hp_} : Snd 73 107 h0 (miT TbM) RX12 cX12_loadBand 6 none 42 (i_aload 43 0) := snd_aload_n rfl dX12_loadBand_42
theorem sX12_loadBand_43 {h0 : Hp_} : Snd 73 107 h0 (miT TbM) RX12 cX12_loadBand 6 none 43 (i_getR 11 13 46) := snd_getR rfl (by decide) (by decide) (by decide) (fun hK ho hs hq kk => gf_X12_47 hK ho hs hq rfl dX12_loadBand_43 kk)
theorem sX12_loadBand_46 {h0 : Hp_} : Snd 73 107 h0 (miT TbM) RX12 cX12_loadBand 6 none 46 (i_const 48 (vI 64)) := snd_bipush (by decide) dX12_loadBand_46
theorem sX12_loadBand_48 {h0 : Hp_} : Snd 73 107 h0 (miT TbM) RX12 cX12_loadBand 6 none 48 (i_iload 49 1) := snd_iload_n rfl dX12_loadBand_48
theorem sX12_loadBand_49 {h0 : Hp_} : Snd 73 107 h0 (miT TbM) RX12 cX12_loadBand 6 none 49 (i_imul 50) := snd_imul dX12_loadBand_49
theorem sX12_loadBand_50 {h0 : Hp_} : Snd 73 107 h0 (miT TbM) RX12 cX12_loadBand 6 none 50 (i_const 52 (vI 8)) := snd_bipush (by decide) dX12_loadBand_50
theorem sX12_loadBand_52 {h0 : Hp_} : Snd 73 107 h0 (miT TbM) RX12 cX12_loadBand 6 none 52 (i_iload 53 3) := snd_iload_n rfl dX12_loadBand_52
theorem sX12_loadBand_53 {h0 : Hp_} : Snd 73 107 h0 (miT TbM) RX12 cX12_loadBand 6 none 53 (i_imul 54) := snd_imul dX12_loadBand_53
theorem sX12_loadBand_54 {h0 : Hp_} : Snd 73 107 h0 (miT TbM) RX12 cX12_loadBand 6 none 54 (i_iadd 55) := snd_iadd dX12_loadBand_54
theorem sX12_loadBand_55 {h0 : Hp_} : Snd 73 107 h0 (miT TbM) RX12 cX12_loadBand 6 none 55 (i_iload 57 4) := snd_iload dX12_loadBand_55
theorem sX12_loadBand_57 {h0 : Hp_} : Snd 73 107 h0 (miT TbM) RX12 cX12_loadBand 6 none 57 (i_iadd 58) := snd_iadd dX12_loadBand_57
theorem sX12_loadBand_58 {h0 : Hp_} : Snd 73 107 h0 (miT TbM) RX12 cX12_loadBand 6 none 58 (i_iload 60 5) := snd_iload dX12_loadBand_58
theorem sX12_loadBand_60 {h0 : Hp_} : Snd 73 107 h0 (miT TbM) RX12 cX12_loadBand 6 none 60 (i_if_ge 63 69) := snd_if_ge dX12_loadBand_60 rfl
theorem sX12_loadBand_63 {h0 : Hp_} : Snd 73 107 h0 (miT TbM) RX12 cX12_loadBand 6 none 63 (i_iload 65 5) := snd_iload dX12_loadBand_63
theorem sX12_loadBand_65 {h0 : Hp_} : Snd 73 107 h0 (miT TbM) RX12 cX12_loadBand 6 none 65 (i_ineg 66) := snd_ineg dX12_loadBand_65
theorem sX12_loadBand_66 {h0 : Hp_} : Snd 73 107 h0 (miT TbM) RX12 cX12_loadBand 6 none 66 (i_goto 71) := snd_goto dX12_loadBand_66 rfl
theorem sX12_loadBand_69 {h0 : Hp_} : Snd 73 107 h0 (miT TbM) RX12 cX12_loadBand 6 none 69 (i_iload 71 5) := snd_iload dX12_loadBand_69
theorem sX12_loadBand_71 {h0 : Hp_} : Snd 73 107 h0 (miT TbM) RX12 cX12_loadBand 6 none 71 (i_iast 73 107 72) := snd_iast dX12_loadBand_71
theorem sX12_loadBand_72 {h0 : Hp_} : Snd 73 107 h0 (miT TbM) RX12 cX12_loadBand 6 none 72 (i_aload 73 0) := snd_aload_n rfl dX12_loadBand_72
theorem sX12_loadBand_73 {h0 : Hp_} : Snd 73 107 h0 (miT TbM) RX12 cX12_loadBand 6 none 73 (i_getR 11 14 76) := snd_getR rfl (by decide) (by decide) (by decide) (fun hK ho hs hq kk => gf_X12_50 hK ho hs hq rfl dX12_loadBand_73 kk)
theorem sX12_loadBand_76 {h0 : Hp_} : Snd 73 107 h0 (miT TbM) RX12 cX12_loadBand 6 none 76 (i_const 78 (vI 64)) := snd_bipush (by decide) dX12_loadBand_76
theorem sX12_loadBand_78 {h0 : Hp_} : Snd 73 107 h0 (miT TbM) RX12 cX12_loadBand 6 none 78 (i_iload 79 1) := snd_iload_n rfl dX12_loadBand_78
theorem sX12_loadBand_79 {h0 : Hp_} : Snd 73 107 h0 (miT TbM) RX12 cX12_loadBand 6 none 79 (i_imul 80) := snd_imul dX12_loadBand_79
theorem sX12_loadBand_80 {h0 : Hp_} : Snd 73 107 h0 (miT TbM) RX12 cX12_loadBand 6 none 80 (i_const 82 (vI 8)) := snd_bipush (by decide) dX12_loadBand_80
theorem sX12_loadBand_82 {h0 : Hp_} : Snd 73 107 h0 (miT TbM) RX12 cX12_loadBand 6 none 82 (i_iload 83 3) := snd_iload_n rfl dX12_loadBand_82
theorem sX12_loadBand_83 {h0 : Hp_} : Snd 73 107 h0 (miT TbM) RX12 cX12_loadBand 6 none 83 (i_imul 84) := snd_imul dX12_loadBand_83
theorem sX12_loadBand_84 {h0 : Hp_} : Snd 73 107 h0 (miT TbM) RX12 cX12_loadBand 6 none 84 (i_iadd 85) := snd_iadd dX12_loadBand_84
theorem sX12_loadBand_85 {h0 : Hp_} : Snd 73 107 h0 (miT TbM) RX12 cX12_loadBand 6 none 85 (i_iload 87 4) := snd_iload dX12_loadBand_85
theorem sX12_loadBand_87 {h0 : Hp_} : Snd 73 107 h0 (miT TbM) RX12 cX12_loadBand 6 none 87 (i_iadd 88) := snd_iadd dX12_loadBand_87
theorem sX12_loadBand_88 {h0 : Hp_} : Snd 73 107 h0 (miT TbM) RX12 cX12_loadBand 6 none 88 (i_iload 90 5) := snd_iload dX12_loadBand_88
theorem sX12_loadBand_90 {h0 : Hp_} : Snd 73 107 h0 (miT TbM) RX12 cX12_loadBand 6 none 90 (i_if_ge 93 97) := snd_if_ge dX12_loadBand_90 rfl
theorem sX12_loadBand_93 {h0 : Hp_} : Snd 73 107 h0 (miT TbM) RX12 cX12_loadBand 6 none 93 (i_const 94 (vI 1)) := snd_iconst dX12_loadBand_93
theorem sX12_loadBand_94 {h0 : Hp_} : Snd 73 107 h0 (miT TbM) RX12 cX12_loadBand 6 none 94 (i_goto 98) := snd_goto dX12_loadBand_94 rfl
theorem sX12_loadBand_97 {h0 : Hp_} : Snd 73 107 h0 (miT TbM) RX12 cX12_loadBand 6 none 97 (i_const 98 (vI 0)) := snd_iconst dX12_loadBand_97
theorem sX12_loadBand_98 {h0 : Hp_} : Snd 73 107 h0 (miT TbM) RX12 cX12_loadBand 6 none 98 (i_zast 73 107 99) := snd_zast dX12_loadBand_98
theorem sX12_loadBand_99 {h0 : Hp_} : Snd 73 107 h0 (miT TbM) RX12 cX12_loadBand 6 none 99 (i_iinc 102 4 1) := snd_iinc (by decide) dX12_loadBand_99
theorem sX12_loadBand_102 {h0 : Hp_} : Snd 73 107 h0 (miT TbM) RX12 cX12_loadBand 6 none 102 (i_goto 15) := snd_goto dX12_loadBand_102 rfl
theorem sX12_loadBand_105 {h0 : Hp_} : Snd 73 107 h0 (miT TbM) RX12 cX12_loadBand 6 none 105 (i_iinc 108 3 1) := snd_iinc (by decide) dX12_loadBand_105
theorem sX12_loadBand_108 {h0 : Hp_} : Snd 73 107 h0 (miT TbM) RX12 cX12_loadBand 6 none 108 (i_goto 2) := snd_goto dX12_loadBand_108 rfl
theorem sX12_loadBand_111 {h0 : Hp_} : Snd 73 107 h0 (miT TbM) RX12 cX12_loadBand 6 none 111 (i_vret) := snd_vret dX12_loadBand_111
theorem kX12_loadBand {h0 : Hp_} : raA (okI 73 107 h0 (miT TbM) (yX12_loadBand, cX12_loadBand, 6, none)) tX12_loadBand := (raA_br (raA_br (raA_br (raA_br (raA_br (raA_br (raA_leaf sX12_loadBand_0) (raA_leaf sX12_loadBand_1)) (raA_br (raA_leaf sX12_loadBand_2) (raA_leaf sX12_loadBand_3))) (raA_br (raA_br (raA_leaf sX12_loadBand_4) (raA_leaf sX12_loadBand_7)) (raA_br (raA_leaf sX12_loadBand_8) (raA_leaf sX12_loadBand_9)))) (raA_br (raA_br (raA_br (raA_leaf sX12_loadBand_12) (raA_leaf sX12_loadBand_13)) (raA_br (raA_leaf sX12_loadBand_15) (raA_leaf sX12_loadBand_17))) (raA_br (raA_br (raA_leaf sX12_loadBand_18) (raA_leaf sX12_loadBand_21)) (raA_br (raA_leaf sX12_loadBand_22) (raA_leaf sX12_loadBand_23))))) (raA_br (raA_br (raA_br (raA_br (raA_leaf sX12_loadBand_26) (raA_leaf sX12_loadBand_27)) (raA_br (raA_leaf sX12_loadBand_30) (raA_leaf sX12_loadBand_31))) (raA_br (raA_br (raA_leaf sX12_loadBand_33) (raA_leaf sX12_loadBand_34)) (raA_br (raA_leaf sX12_loadBand_35) (raA_leaf sX12_loadBand_36)))) (raA_br (raA_br (raA_br (raA_leaf sX12_loadBand_38) (raA_leaf sX12_loadBand_39)) (raA_br (raA_leaf sX12_loadBand_40) (raA_leaf sX12_loadBand_42))) (raA_br (raA_br (raA_leaf sX12_loadBand_43) (raA_leaf sX12_loadBand_46)) (raA_br (raA_leaf sX12_loadBand_48) (raA_br (raA_leaf sX12_loadBand_49) (raA_leaf sX12_loadBand_50))))))) (raA_br (raA_br (raA_br (raA_br (raA_br (raA_leaf sX12_loadBand_52) (raA_leaf sX12_loadBand_53)) (raA_br (raA_leaf sX12_loadBand_54) (raA_leaf sX12_loadBand_55))) (raA_br (raA_br (raA_leaf sX12_loadBand_57) (raA_leaf sX12_loadBand_58)) (raA_br (raA_leaf sX12_loadBand_60) (raA_leaf sX12_loadBand_63)))) (raA_br (raA_br (raA_br (raA_leaf sX12_loadBand_65) (raA_leaf sX12_loadBand_66)) (raA_br (raA_leaf sX12_loadBand_69) (raA_leaf sX12_loadBand_71))) (raA_br (raA_br (raA_leaf sX12_loadBand_72) (raA_leaf sX12_loadBand_73)) (raA_br (raA_leaf sX12_loadBand_76) (raA_br (raA_leaf sX12_loadBand_78) (raA_leaf sX12_loadBand_79)))))) (raA_br (raA_br (raA_br (raA_br (raA_leaf sX12_loadBand_80) (raA_leaf sX12_loadBand_82)) (raA_br (raA_leaf sX12_loadBand_83) (raA_leaf sX12_loadBand_84))) (raA_br (raA_br (raA_leaf sX12_loadBand_85) (raA_leaf sX12_loadBand_87)) (raA_br (raA_leaf sX12_loadBand_88) (raA_leaf sX12_loadBand_90)))) (raA_br (raA_br (raA_br (raA_leaf sX12_loadBand_93) (raA_leaf sX12_loadBand_94)) (raA_br (raA_leaf sX12_loadBand_97) (raA_leaf sX12_loadBand_98))) (raA_br (raA_br (raA_leaf sX12_loadBand_99) (raA_leaf sX12_loadBand_102)) (raA_br (raA_leaf sX12_loadBand_105) (raA_br (raA_leaf sX12_loadBand_108) (raA_leaf sX12_loadBand_111))))))))
theorem sX12_log_0 {h0 : Hp_} : Snd 73 107 h0 (miT TbM) RX12 cX12_log 2 (some .int) 0 (i_const 1 (vI 0)) := snd_iconst dX12_log_0
theorem sX12_log_1 {h0 : Hp_} : Snd 73 107 h0 (miT TbM) RX12 cX12_log 2 (some .int) 1 (i_istore 2 1) := snd_istore_n rfl (by decide) dX12_log_1
theorem sX12_log_2 {h0 : Hp_} : Snd 73 107 h0 (miT TbM) RX12 cX12_log 2 (some .int) 2 (i_iload 3 0) := snd_iload_n rfl dX12_log_2
theorem sX12_log_3 {h0 : Hp_} : Snd 73 107 h0 (miT TbM) RX12 cX12_log 2 (some .int) 3 (i_const 4 (vI 1)) := snd_iconst dX12_log_3
theorem sX12_log_4 {h0 : Hp_} : Snd 73 107 h0 (miT TbM) RX12 cX12_log 2 (some .int) 4 (i_iload 5 1) := snd_iload_n rfl dX12_log_4
theorem sX12_log_5 {h0 : Hp_} : Snd 73 107 h0 (miT TbM) RX12 cX12_log 2 (some .int) 5 (i_const 6 (vI 1)) := snd_iconst dX12_log_5
theorem sX12_log_6 {h0 : Hp_} : Snd 73 107 h0 (miT TbM) RX12 cX12_log 2 (some .int) 6 (i_iadd 7) := snd_iadd dX12_log_6
theorem sX12_log_7 {h0 : Hp_} : Snd 73 107 h0 (miT TbM) RX12 cX12_log 2 (some .int) 7 (i_ishl 8) := snd_ishl dX12_log_7
theorem sX12_log_8 {h0 : Hp_} : Snd 73 107 h0 (miT TbM) RX12 cX12_log 2 (some .int) 8 (i_icmp_gt 11 20) := snd_icmp_gt dX12_log_8 rfl
theorem sX12_log_11 {h0 : Hp_} : Snd 73 107 h0 (miT TbM) RX12 cX12_log 2 (some .int) 11 (i_iload 12 0) := snd_iload_n rfl dX12_log_11
theorem sX12_log_12 {h0 : Hp_} : Snd 73 107 h0 (miT TbM) RX12 cX12_log 2 (some .int) 12 (i_const 13 (vI 1)) := snd_iconst dX12_log_12
theorem sX12_log_13 {h0 : Hp_} : Snd 73 107 h0 (miT TbM) RX12 cX12_log 2 (some .int) 13 (i_iload 14 1) := snd_iload_n rfl dX12_log_13
theorem sX12_log_14 {h0 : Hp_} : Snd 73 107 h0 (miT TbM) RX12 cX12_log 2 (some .int) 14 (i_const 15 (vI 1)) := snd_iconst dX12_log_14
theorem sX12_log_15 {h0 : Hp_} : Snd 73 107 h0 (miT TbM) RX12 cX12_log 2 (some .int) 15 (i_iadd 16) := snd_iadd dX12_log_15
theorem sX12_log_16 {h0 : Hp_} : Snd 73 107 h0 (miT TbM) RX12 cX12_log 2 (some .int) 16 (i_ishl 17) := snd_ishl dX12_log_16
theorem sX12_log_17 {h0 : Hp_} : Snd 73 107 h0 (miT TbM) RX12 cX12_log 2 (some .int) 17 (i_icmp_ne 20 26) := snd_icmp_ne dX12_log_17 rfl
theorem sX12_log_20 {h0 : Hp_} : Snd 73 107 h0 (miT TbM) RX12 cX12_log 2 (some .int) 20 (i_iinc 23 1 1) := snd_iinc (by decide) dX12_log_20
theorem sX12_log_23 {h0 : Hp_} : Snd 73 107 h0 (miT TbM) RX12 cX12_log 2 (some .int) 23 (i_goto 2) := snd_goto dX12_log_23 rfl
theorem sX12_log_26 {h0 : Hp_} : Snd 73 107 h0 (miT TbM) RX12 cX12_log 2 (some .int) 26 (i_iload 27 1) := snd_iload_n rfl dX12_log_26
theorem sX12_log_27 {h0 : Hp_} : Snd 73 107 h0 (miT TbM) RX12 cX12_log 2 (some .int) 27 (i_iret) := snd_iret dX12_log_27
theorem kX12_log {h0 : Hp_} : raA (okI 73 107 h0 (miT TbM) (yX12_log, cX12_log, 2, (some .int))) tX12_log := (raA_br (raA_br (raA_br (raA_br (raA_leaf sX12_log_0) (raA_leaf sX12_log_1)) (raA_br (raA_leaf sX12_log_2) (raA_br (raA_leaf sX12_log_3) (raA_leaf sX12_log_4)))) (raA_br (raA_br (raA_leaf sX12_log_5) (raA_leaf sX12_log_6)) (raA_br (raA_leaf sX12_log_7) (raA_br (raA_leaf sX12_log_8) (raA_leaf sX12_log_11))))) (raA_br (raA_br (raA_br (raA_leaf sX12_log_12) (raA_leaf sX12_log_13)) (raA_br (raA_leaf sX12_log_14) (raA_br (raA_leaf sX12_log_15) (raA_leaf sX12_log_16)))) (raA_br (raA_br (raA_leaf sX12_log_17) (raA_leaf sX12_log_20)) (raA_br (raA_leaf sX12_log_23) (raA_br (raA_leaf sX12_log_26) (raA_leaf sX12_log_27))))))
theorem sX12_passesOf_0 {h0 : Hp_} : Snd 73 107 h0 (miT TbM) RX12 cX12_passesOf 2 (some .int) 0 (i_aload 1 0) := snd_aload_n rfl dX12_passesOf_0
theorem sX12_passesOf_1 {h0 : Hp_} : Snd 73 107 h0 (miT TbM) RX12 cX12_passesOf 2 (some .int) 1 (i_getR 11 12 4) := snd_getR rfl (by decide) (by decide) (by decide) (fun hK ho hs hq kk => gf_X12_44 hK ho hs hq rfl dX12_passesOf_1 kk)
theorem sX12_passesOf_4 {h0 : Hp_} : Snd 73 107 h0 (miT TbM) RX12 cX12_passesOf 2 (some .int) 4 (i_iload 5 1) := snd_iload_n rfl dX12_passesOf_4
theorem sX12_passesOf_5 {h0 : Hp_} : Snd 73 107 h0 (miT TbM) RX12 cX12_passesOf 2 (some .int) 5 (i_iald 73 107 6) := snd_iald dX12_passesOf_5
theorem sX12_passesOf_6 {h0 : Hp_} : Snd 73 107 h0 (miT TbM) RX12 cX12_passesOf 2 (some .int) 6 (i_if_ne 9 13) := snd_if_ne dX12_passesOf_6 rfl
theorem sX12_passesOf_9 {h0 : Hp_} : Snd 73 107 h0 (miT TbM) RX12 cX12_passesOf 2 (some .int) 9 (i_const 10 (vI 0)) := snd_iconst dX12_passesOf_9
theorem sX12_passesOf_10 {h0 : Hp_} : Snd 73 107 h0 (miT TbM) RX12 cX12_passesOf 2 (some .int) 10 (i_goto 23) := snd_goto dX12_passesOf_10 rfl
theorem sX12_passesOf_13 {h0 : Hp_} : Snd 73 107 h0 (miT TbM) RX12 cX12_passesOf 2 (some .int) 13 (i_const 14 (vI 3)) := snd_iconst dX12_passesOf_13
theorem sX12_passesOf_14 {h0 : Hp_} : Snd 73 107 h0 (miT TbM) RX12 cX12_passesOf 2 (some .int) 14 (i_aload 15 0) := snd_aload_n rfl dX12_passesOf_14
theorem sX12_passesOf_15 {h0 : Hp_} : Snd 73 107 h0 (miT TbM) RX12 cX12_passesOf 2 (some .int) 15 (i_getR 11 12 18) := snd_getR rfl (by decide) (by decide) (by decide) (fun hK ho hs hq kk => gf_X12_44 hK ho hs hq rfl dX12_passesOf_15 kk)
theorem sX12_passesOf_18 {h0 : Hp_} : Snd 73 107 h0 (miT TbM) RX12 cX12_passesOf 2 (some .int) 18 (i_iload 19 1) := snd_iload_n rfl dX12_passesOf_18
theorem sX12_passesOf_19 {h0 : Hp_} : Snd 73 107 h0 (miT TbM) RX12 cX12_passesOf 2 (some .int) 19 (i_iald 73 107 20) := snd_iald dX12_passesOf_19
theorem sX12_passesOf_20 {h0 : Hp_} : Snd 73 107 h0 (miT TbM) RX12 cX12_passesOf 2 (some .int) 20 (i_imul 21) := snd_imul dX12_passesOf_20
theorem sX12_passesOf_21 {h0 : Hp_} : Snd 73 107 h0 (miT TbM) RX12 cX12_passesOf 2 (some .int) 21 (i_const 22 (vI 2)) := snd_iconst dX12_passesOf_21
theorem sX12_passesOf_22 {h0 : Hp_} : Snd 73 107 h0 (miT TbM) RX12 cX12_passesOf 2 (some .int) 22 (i_isub 23) := snd_isub dX12_passesOf_22
theorem sX12_passesOf_23 {h0 : Hp_} : Snd 73 107 h0 (miT TbM) RX12 cX12_passesOf 2 (some .int) 23 (i_iret) := snd_iret dX12_passesOf_23
theorem kX12_passesOf {h0 : Hp_} : raA (okI 73 107 h0 (miT TbM) (yX12_passesOf, cX12_passesOf, 2, (some .int))) tX12_passesOf := (raA_br (raA_br (raA_br (raA_br (raA_leaf sX12_passesOf_0) (raA_leaf sX12_passesOf_1)) (raA_br (raA_leaf sX12_passesOf_4) (raA_leaf sX12_passesOf_5))) (raA_br (raA_br (raA_leaf sX12_passesOf_6) (raA_leaf sX12_passesOf_9)) (raA_br (raA_leaf sX12_passesOf_10) (raA_leaf sX12_passesOf_13)))) (raA_br (raA_br (raA_br (raA_leaf sX12_passesOf_14) (raA_leaf sX12_passesOf_15)) (raA_br (raA_leaf sX12_passesOf_18) (raA_leaf sX12_passesOf_19))) (raA_br (raA_br (raA_leaf sX12_passesOf_20) (raA_leaf sX12_passesOf_21)) (raA_br (raA_leaf sX12_passesOf_22) (raA_leaf sX12_passesOf_23)))))
theorem sX12_putBits_0 {h0 : Hp_} : Snd 73 107 h0 (miT TbM) RX12 cX12_putBits 4 none 0 (i_iload 1 2) := snd_iload_n rfl dX12_putBits_0
theorem sX12_putBits_1 {h0 : Hp_} : Snd 73 107 h0 (miT TbM) RX12 cX12_putBits 4 none 1 (i_const 2 (vI 1)) := snd_iconst dX12_putBits_1
theorem sX12_putBits_2 {h0 : Hp_} : Snd 73 107 h0 (miT TbM) RX12 cX12_putBits 4 none 2 (i_isub 3) := snd_isub dX12_putBits_2
theorem sX12_putBits_3 {h0 : Hp_} : Snd 73 107 h0 (miT TbM) RX12 cX12_putBits 4 none 3 (i_istore 4 3) := snd_istore_n rfl (by decide) dX12_putBits_3
theorem sX12_putBits_4 {h0 : Hp_} : Snd 73 107 h0 (miT TbM) RX12 cX12_putBits 4 none 4 (i_iload 5 3) := snd_iload_n rfl dX12_putBits_4
theorem sX12_putBits_5 {h0 : Hp_} : Snd 73 107 h0 (miT TbM) RX12 cX12_putBits 4 none 5 (i_if_lt 8 79) := snd_if_lt dX12_putBits_5 rfl
theorem sX12_putBits_8 {h0 : Hp_} : Snd 73 107 h0 (miT TbM) RX12 cX12_putBits 4 none 8 (i_aload 9 0) := snd_aload_n rfl dX12_putBits_8
theorem sX12_putBits_9 {h0 : Hp_} : Snd 73 107 h0 (miT TbM) RX12 cX12_putBits 4 none 9 (i_getR 11 40 12) := snd_getR rfl (by decide) (by decide) (by decide) (fun hK ho hs hq kk => gf_X12_96 hK ho hs hq rfl dX12_putBits_9 kk)
theorem sX12_putBits_12 {h0 : Hp_} : Snd 73 107 h0 (miT TbM) RX12 cX12_putBits 4 none 12 (i_aload 13 0) := snd_aload_n rfl dX12_putBits_12
theorem sX12_putBits_13 {h0 : Hp_} : Snd 73 107 h0 (miT TbM) RX12 cX12_putBits 4 none 13 (i_getI 11 42 16) := snd_getI hl73 (fun hK ho hs hv kk => gf_X12_311 hK ho hs hv dX12_putBits_13 kk)
theorem sX12_putBits_16 {h0 : Hp_} : Snd 73 107 h0 (miT TbM) RX12 cX12_putBits 4 none 16 (i_aload 17 0) := snd_aload_n rfl dX12_putBits_16
theorem sX12_putBits_17 {h0 : Hp_} : Snd 73 107 h0 (miT TbM) RX12 cX12_putBits 4 none 17 (i_getI 11 43 20) := snd_getI hl73 (fun hK ho hs hv kk => gf_X12_314 hK ho hs hv dX12_putBits_17 kk)
theorem sX12_putBits_20 {h0 : Hp_} : Snd 73 107 h0 (miT TbM) RX12 cX12_putBits 4 none 20 (i_if_ne 23 27) := snd_if_ne dX12_putBits_20 rfl
theorem sX12_putBits_23 {h0 : Hp_} : Snd 73 107 h0 (miT TbM) RX12 cX12_putBits 4 none 23 (i_const 24 (vI 0)) := snd_iconst dX12_putBits_23
theorem sX12_putBits_24 {h0 : Hp_} : Snd 73 107 h0 (miT TbM) RX12 cX12_putBits 4 none 24 (i_goto 36) := snd_goto dX12_putBits_24 rfl
theorem sX12_putBits_27 {h0 : Hp_} : Snd 73 107 h0 (miT TbM) RX12 cX12_putBits 4 none 27 (i_aload 28 0) := snd_aload_n rfl dX12_putBits_27
theorem sX12_putBits_28 {h0 : Hp_} : Snd 73 107 h0 (miT TbM) RX12 cX12_putBits 4 none 28 (i_getR 11 40 31) := snd_getR rfl (by decide) (by decide) (by decide) (fun hK ho hs hq kk => gf_X12_96 hK ho hs hq rfl dX12_putBits_28 kk)
theorem sX12_putBits_31 {h0 : Hp_} : Snd 73 107 h0 (miT TbM) RX12 cX12_putBits 4 none 31 (i_aload 32 0) := snd_aload_n rfl dX12_putBits_31
theorem sX12_putBits_32 {h0 : Hp_} : Snd 73 107 h0 (miT TbM) RX12 cX12_putBits 4 none 32 (i_getI 11 42 35) := snd_getI hl73 (fun hK ho hs hv kk => gf_X12_311 hK ho hs hv dX12_putBits_32 kk)
theorem sX12_putBits_35 {h0 : Hp_} : Snd 73 107 h0 (miT TbM) RX12 cX12_putBits 4 none 35 (i_iald 73 107 36) := snd_iald dX12_putBits_35
theorem sX12_putBits_36 {h0 : Hp_} : Snd 73 107 h0 (miT TbM) RX12 cX12_putBits 4 none 36 (i_iast 73 107 37) := snd_iast dX12_putBits_36
theorem sX12_putBits_37 {h0 : Hp_} : Snd 73 107 h0 (miT TbM) RX12 cX12_putBits 4 none 37 (i_aload 38 0) := snd_aload_n rfl dX12_putBits_37
theorem sX12_putBits_38 {h0 : Hp_} : Snd 73 107 h0 (miT TbM) RX12 cX12_putBits 4 none 38 (i_getR 11 40 41) := snd_getR rfl (by decide) (by decide) (by decide) (fun hK ho hs hq kk => gf_X12_96 hK ho hs hq rfl dX12_putBits_38 kk)
theorem sX12_putBits_41 {h0 : Hp_} : Snd 73 107 h0 (miT TbM) RX12 cX12_putBits 4 none 41 (i_aload 42 0) := snd_aload_n rfl dX12_putBits_41
theorem sX12_putBits_42 {h0 : Hp_} : Snd 73 107 h0 (miT TbM) RX12 cX12_putBits 4 none 42 (i_getI 11 42 45) := snd_getI hl73 (fun hK ho hs hv kk => gf_X12_311 hK ho hs hv dX12_putBits_42 kk)
theorem sX12_putBits_45 {h0 : Hp_} : Snd 73 107 h0 (miT TbM) RX12 cX12_putBits 4 none 45 (i_aload 46 0) := snd_aload_n rfl dX12_putBits_45
theorem sX12_putBits_46 {h0 : Hp_} : Snd 73 107 h0 (miT TbM) RX12 cX12_putBits 4 none 46 (i_getR 11 40 49) := snd_getR rfl (by decide) (by decide) (by decide) (fun hK ho hs hq kk => gf_X12_96 hK ho hs hq rfl dX12_putBits_46 kk)
theorem sX12_putBits_49 {h0 : Hp_} : Snd 73 107 h0 (miT TbM) RX12 cX12_putBits 4 none 49 (i_aload 50 0) := snd_aload_n rfl dX12_putBits_49
theorem sX12_putBits_50 {h0 : Hp_} : Snd 73 107 h0 (miT TbM) RX12 cX12_putBits 4 none 50 (i_getI 11 42 53) := snd_getI hl73 (fun hK ho hs hv kk => gf_X12_311 hK ho hs hv dX12_putBits_50 kk)
theorem sX12_putBits_53 {h0 : Hp_} : Snd 73 107 h0 (miT TbM) RX12 cX12_putBits 4 none 53 (i_iald 73 107 54) := snd_iald dX12_putBits_53
theorem sX12_putBits_54 {h0 : Hp_} : Snd 73 107 h0 (miT TbM) RX12 cX12_putBits 4 none 54 (i_iload 55 1) := snd_iload_n rfl dX12_putBits_54
theorem sX12_putBits_55 {h0 : Hp_} : Snd 73 107 h0 (miT TbM) RX12 cX12_putBits 4 none 55 (i_iload 56 3) := snd_iload_n rfl dX12_putBits_55
theorem sX12_putBits_56 {h0 : Hp_} : Snd 73 107 h0 (miT TbM) RX12 cX12_putBits 4 none 56 (i_ishr 57) := snd_ishr dX12_putBits_56
theorem sX12_putBits_57 {h0 : Hp_} : Snd 73 107 h0 (miT TbM) RX12 cX12_putBits 4 none 57 (i_const 58 (vI 1)) := snd_iconst dX12_putBits_57
theorem sX12_putBits_58 {h0 : Hp_} : Snd 73 107 h0 (miT TbM) RX12 cX12_putBits 4 none 58 (i_iand 59) := snd_iand dX12_putBits_58
theorem sX12_putBits_59 {h0 : Hp_} : Snd 73 107 h0 (miT TbM) RX12 cX12_putBits 4 none 59 (i_const 61 (vI 7)) := snd_bipush (by decide) dX12_putBits_59
theorem sX12_putBits_61 {h0 : Hp_} : Snd 73 107 h0 (miT TbM) RX12 cX12_putBits 4 none 61 (i_aload 62 0) := snd_aload_n rfl dX12_putBits_61
theorem sX12_putBits_62 {h0 : Hp_} : Snd 73 107 h0 (miT TbM) RX12 cX12_putBits 4 none 62 (i_getI 11 43 65) := snd_getI hl73 (fun hK ho hs hv kk => gf_X12_314 hK ho hs hv dX12_putBits_62 kk)
theorem sX12_putBits_65 {h0 : Hp_} : Snd 73 107 h0 (miT TbM) RX12 cX12_putBits 4 none 65 (i_isub 66) := snd_isub dX12_putBits_65
theorem sX12_putBits_66 {h0 : Hp_} : Snd 73 107 h0 (miT TbM) RX12 cX12_putBits 4 none 66 (i_ishl 67) := snd_ishl dX12_putBits_66
theorem sX12_putBits_67 {h0 : Hp_} : Snd 73 107 h0 (miT TbM) RX12 cX12_putBits 4 none 67 (i_iadd 68) := snd_iadd dX12_putBits_67
theorem sX12_putBits_68 {h0 : Hp_} : Snd 73 107 h0 (miT TbM) RX12 cX12_putBits 4 none 68 (i_iast 73 107 69) := snd_iast dX12_putBits_68
theorem sX12_putBits_69 {h0 : Hp_} : Snd 73 107 h0 (miT TbM) RX12 cX12_putBits 4 none 69 (i_aload 70 0) := snd_aload_n rfl dX12_putBits_69
theorem sX12_putBits_70 {h0 : Hp_} : Snd 73 107 h0 (miT TbM) RX12 cX12_putBits 4 none 70 (i_cV0 39 11 73) := snd_cV0 (fun hK hd hC ho hs h6 h7 h8 kk => iv_X12_317 hK (mcM_39 hC) ho hs ⟨hd, by show _ ≤ 40 * (_ + 1); omega⟩ (Nat.le_refl _) h6 h7 h8 ⟨Nat.le_refl _, Nat.le_refl _⟩ dX12_putBits_70 kk)
theorem sX12_putBits_73 {h0 : Hp_} : Snd 73 107 h0 (miT TbM) RX12 cX12_putBits 4 none 73 (i_iinc 76 3 (-1)) := snd_iinc (by decide) dX12_putBits_73
theorem sX12_putBits_76 {h0 : Hp_} : Snd 73 107 h0 (miT TbM) RX12 cX12_putBits 4 none 76 (i_goto 4) := snd_goto dX12_putBits_76 rfl
theorem sX12_putBits_79 {h0 : Hp_} : Snd 73 107 h0 (miT TbM) RX12 cX12_putBits 4 none 79 (i_vret) := snd_vret dX12_putBits_79
theorem kX12_putBits {h0 : Hp_} : raA (okI 73 107 h0 (miT TbM) (yX12_putBits, cX12_putBits, 4, none)) tX12_putBits := (raA_br (raA_br (raA_br (raA_br (raA_br (raA_leaf sX12_putBits_0) (raA_leaf sX12_putBits_1)) (raA_br (raA_leaf sX12_putBits_2) (raA_br (raA_leaf sX12_putBits_3) (raA_leaf sX12_putBits_4)))) (raA_br (raA_br (raA_leaf sX12_putBits_5) (raA_br (raA_leaf sX12_putBits_8) (raA_leaf sX12_putBits_9))) (raA_br (raA_leaf sX12_putBits_12) (raA_br (raA_leaf sX12_putBits_13) (raA_leaf sX12_putBits_16))))) (raA_br (raA_br (raA_br (raA_leaf sX12_putBits_17) (raA_br (raA_leaf sX12_putBits_20) (raA_leaf sX12_putBits_23))) (raA_br (raA_leaf sX12_putBits_24) (raA_br (raA_leaf sX12_putBits_27) (raA_leaf sX12_putBits_28)))) (raA_br (raA_br (raA_leaf sX12_putBits_31) (raA_br (raA_leaf sX12_putBits_32) (raA_leaf sX12_putBits_35))) (raA_br (raA_leaf sX12_putBits_36) (raA_br (raA_leaf sX12_putBits_37) (raA_leaf sX12_putBits_38)))))) (raA_br (raA_br (raA_br (raA_br (raA_leaf sX12_putBits_41) (raA_br (raA_leaf sX12_putBits_42) (raA_leaf sX12_putBits_45))) (raA_br (raA_leaf sX12_putBits_46) (raA_br (raA_leaf sX12_putBits_49) (raA_leaf sX12_putBits_50)))) (raA_br (raA_br (raA_leaf sX12_putBits_53) (raA_br (raA_leaf sX12_putBits_54) (raA_leaf sX12_putBits_55))) (raA_br (raA_leaf sX12_putBits_56) (raA_br (raA_leaf sX12_putBits_57) (raA_leaf sX12_putBits_58))))) (raA_br (raA_br (raA_br (raA_leaf sX12_putBits_59) (raA_br (raA_leaf sX12_putBits_61) (raA_leaf sX12_putBits_62))) (raA_br (raA_leaf sX12_putBits_65) (raA_br (raA_leaf sX12_putBits_66) (raA_leaf sX12_putBits_67)))) (raA_br (raA_br (raA_leaf sX12_putBits_68) (raA_br (raA_leaf sX12_putBits_69) (raA_leaf sX12_putBits_70))) (raA_br (raA_leaf sX12_putBits_73) (raA_br (raA_leaf sX12_putBits_76) (raA_leaf sX12_putBits_79)))))))
theorem sX12_putHead_0 {h0 : Hp_} : Snd 73 107 h0 (miT TbM) RX12 cX12_putHead 4 none 0 (i_aload 1 0) := snd_aload_n rfl dX12_putHead_0
theorem sX12_putHead_1 {h0 : Hp_} : Snd 73 107 h0 (miT TbM) RX12 cX12_putHead 4 none 1 (i_getR 11 15 4) := snd_getR rfl (by decide) (by decide) (by decide) (fun hK ho hs hq kk => gf_X12_54 hK ho hs hq rfl dX12_putHead_1 kk)
theorem sX12_putHead_4 {h0 : Hp_} : Snd 73 107 h0 (miT TbM) RX12 cX12_putHead 4 none 4 (i_iload 5 1) := snd_iload_n rfl dX12_putHead_4
theorem sX12_putHead_5 {h0 : Hp_} : Snd 73 107 h0 (miT TbM) RX12 cX12_putHead 4 none 5 (i_iald 73 107 6) := snd_iald dX12_putHead_5
theorem sX12_putHead_6 {h0 : Hp_} : Snd 73 107 h0 (miT TbM) RX12 cX12_putHead 4 none 6 (i_aload 7 0) := snd_aload_n rfl dX12_putHead_6
theorem sX12_putHead_7 {h0 : Hp_} : Snd 73 107 h0 (miT TbM) RX12 cX12_putHead 4 none 7 (i_getR 11 16 10) := snd_getR rfl (by decide) (by decide) (by decide) (fun hK ho hs hq kk => gf_X12_57 hK ho hs hq rfl dX12_putHead_7 kk)
theorem sX12_putHead_10 {h0 : Hp_} : Snd 73 107 h0 (miT TbM) RX12 cX12_putHead 4 none 10 (i_iload 11 1) := snd_iload_n rfl dX12_putHead_10
theorem sX12_putHead_11 {h0 : Hp_} : Snd 73 107 h0 (miT TbM) RX12 cX12_putHead 4 none 11 (i_iald 73 107 12) := snd_iald dX12_putHead_11
theorem sX12_putHead_12 {h0 : Hp_} : Snd 73 107 h0 (miT TbM) RX12 cX12_putHead 4 none 12 (i_isub 13) := snd_isub dX12_putHead_12
theorem sX12_putHead_13 {h0 : Hp_} : Snd 73 107 h0 (miT TbM) RX12 cX12_putHead 4 none 13 (i_istore 14 2) := snd_istore_n rfl (by decide) dX12_putHead_13
theorem sX12_putHead_14 {h0 : Hp_} : Snd 73 107 h0 (miT TbM) RX12 cX12_putHead 4 none 14 (i_aload 15 0) := snd_aload_n rfl dX12_putHead_14
theorem sX12_putHead_15 {h0 : Hp_} : Snd 73 107 h0 (miT TbM) RX12 cX12_putHead 4 none 15 (i_iload 16 2) := snd_iload_n rfl dX12_putHead_15
theorem sX12_putHead_16 {h0 : Hp_} : Snd 73 107 h0 (miT TbM) RX12 cX12_putHead 4 none 16 (i_if_le 19 23) := snd_if_le dX12_putHead_16 rfl
theorem sX12_putHead_19 {h0 : Hp_} : Snd 73 107 h0 (miT TbM) RX12 cX12_putHead 4 none 19 (i_const 20 (vI 1)) := snd_iconst dX12_putHead_19
theorem sX12_putHead_20 {h0 : Hp_} : Snd 73 107 h0 (miT TbM) RX12 cX12_putHead 4 none 20 (i_goto 24) := snd_goto dX12_putHead_20 rfl
theorem sX12_putHead_23 {h0 : Hp_} : Snd 73 107 h0 (miT TbM) RX12 cX12_putHead 4 none 23 (i_const 24 (vI 0)) := snd_iconst dX12_putHead_23
theorem sX12_putHead_24 {h0 : Hp_} : Snd 73 107 h0 (miT TbM) RX12 cX12_putHead 4 none 24 (i_const 25 (vI 1)) := snd_iconst dX12_putHead_24
theorem sX12_putHead_25 {h0 : Hp_} : Snd 73 107 h0 (miT TbM) RX12 cX12_putHead 4 none 25 (i_cV2 30 11 28) := snd_cV2 (fun hK hd hC ho hs h6 h7 h8 kk => iv_X12_320 hK (mcM_30 hC) ho hs ⟨hd, by show _ ≤ 40 * (_ + 1); omega⟩ (Nat.le_refl _) h6 h7 h8 ⟨Nat.le_refl _, Nat.le_refl _⟩ dX12_putHead_25 kk)
theorem sX12_putHead_28 {h0 : Hp_} : Snd 73 107 h0 (miT TbM) RX12 cX12_putHead 4 none 28 (i_iload 29 2) := snd_iload_n rfl dX12_putHead_28
theorem sX12_putHead_29 {h0 : Hp_} : Snd 73 107 h0 (miT TbM) RX12 cX12_putHead 4 none 29 (i_if_ne 32 33) := snd_if_ne dX12_putHead_29 rfl
theorem sX12_putHead_32 {h0 : Hp_} : Snd 73 107 h0 (miT TbM) RX12 cX12_putHead 4 none 32 (i_vret) := snd_vret dX12_putHead_32
theorem sX12_putHead_33 {h0 : Hp_} : Snd 73 107 h0 (miT TbM) RX12 cX12_putHead 4 none 33 (i_aload 34 0) := snd_aload_n rfl dX12_putHead_33
theorem sX12_putHead_34 {h0 : Hp_} : Snd 73 107 h0 (miT TbM) RX12 cX12_putHead 4 none 34 (i_getR 11 16 37) := snd_getR rfl (by decide) (by decide) (by decide) (fun hK ho hs hq kk => gf_X12_57 hK ho hs hq rfl dX12_putHead_34 kk)
theorem sX12_putHead_37 {h0 : Hp_} : Snd 73 107 h0 (miT TbM) RX12 cX12_putHead 4 none 37 (i_iload 38 1) := snd_iload_n rfl dX12_putHead_37
theorem sX12_putHead_38 {h0 : Hp_} : Snd 73 107 h0 (miT TbM) RX12 cX12_putHead 4 none 38 (i_iald 73 107 39) := snd_iald dX12_putHead_38
theorem sX12_putHead_39 {h0 : Hp_} : Snd 73 107 h0 (miT TbM) RX12 cX12_putHead 4 none 39 (i_if_ne 42 53) := snd_if_ne dX12_putHead_39 rfl
theorem sX12_putHead_42 {h0 : Hp_} : Snd 73 107 h0 (miT TbM) RX12 cX12_putHead 4 none 42 (i_aload 43 0) := snd_aload_n rfl dX12_putHead_42
theorem sX12_putHead_43 {h0 : Hp_} : Snd 73 107 h0 (miT TbM) RX12 cX12_putHead 4 none 43 (i_aload 44 0) := snd_aload_n rfl dX12_putHead_43
theorem sX12_putHead_44 {h0 : Hp_} : Snd 73 107 h0 (miT TbM) RX12 cX12_putHead 4 none 44 (i_getR 11 12 47) := snd_getR rfl (by decide) (by decide) (by decide) (fun hK ho hs hq kk => gf_X12_44 hK ho hs hq rfl dX12_putHead_44 kk)
theorem sX12_putHead_47 {h0 : Hp_} : Snd 73 107 h0 (miT TbM) RX12 cX12_putHead 4 none 47 (i_iload 48 1) := snd_iload_n rfl dX12_putHead_47
theorem sX12_putHead_48 {h0 : Hp_} : Snd 73 107 h0 (miT TbM) RX12 cX12_putHead 4 none 48 (i_iald 73 107 49) := snd_iald dX12_putHead_48
theorem sX12_putHead_49 {h0 : Hp_} : Snd 73 107 h0 (miT TbM) RX12 cX12_putHead 4 none 49 (i_const 50 (vI 4)) := snd_iconst dX12_putHead_49
theorem sX12_putHead_50 {h0 : Hp_} : Snd 73 107 h0 (miT TbM) RX12 cX12_putHead 4 none 50 (i_cV2 30 11 53) := snd_cV2 (fun hK hd hC ho hs h6 h7 h8 kk => iv_X12_320 hK (mcM_30 hC) ho hs ⟨hd, by show _ ≤ 40 * (_ + 1); omega⟩ (Nat.le_refl _) h6 h7 h8 ⟨Nat.le_refl _, Nat.le_refl _⟩ dX12_putHead_50 kk)
theorem sX12_putHead_53 {h0 : Hp_} : Snd 73 107 h0 (miT TbM) RX12 cX12_putHead 4 none 53 (i_iload 54 2) := snd_iload_n rfl dX12_putHead_53
theorem sX12_putHead_54 {h0 : Hp_} : Snd 73 107 h0 (miT TbM) RX12 cX12_putHead 4 none 54 (i_const 55 (vI 3)) := snd_iconst dX12_putHead_54
theorem sX12_putHead_55 {h0 : Hp_} : Snd 73 107 h0 (miT TbM) RX12 cX12_putHead 4 none 55 (i_icmp_ge 58 76) := snd_icmp_ge dX12_putHead_55 rfl
theorem sX12_putHead_58 {h0 : Hp_} : Snd 73 107 h0 (miT TbM) RX12 cX12_putHead 4 none 58 (i_aload 59 0) := snd_aload_n rfl dX12_putHead_58
theorem sX12_putHead_59 {h0 : Hp_} : Snd 73 107 h0 (miT TbM) RX12 cX12_putHead 4 none 59 (i_iload 60 2) := snd_iload_n rfl dX12_putHead_59
theorem sX12_putHead_60 {h0 : Hp_} : Snd 73 107 h0 (miT TbM) RX12 cX12_putHead 4 none 60 (i_const 61 (vI 1)) := snd_iconst dX12_putHead_60
theorem sX12_putHead_61 {h0 : Hp_} : Snd 73 107 h0 (miT TbM) RX12 cX12_putHead 4 none 61 (i_icmp_ne 64 68) := snd_icmp_ne dX12_putHead_61 rfl
theorem sX12_putHead_64 {h0 : Hp_} : Snd 73 107 h0 (miT TbM) RX12 cX12_putHead 4 none 64 (i_const 65 (vI 0)) := snd_iconst dX12_putHead_64
theorem sX12_putHead_65 {h0 : Hp_} : Snd 73 107 h0 (miT TbM) RX12 cX12_putHead 4 none 65 (i_goto 69) := snd_goto dX12_putHead_65 rfl
theorem sX12_putHead_68 {h0 : Hp_} : Snd 73 107 h0 (miT TbM) RX12 cX12_putHead 4 none 68 (i_const 69 (vI 2)) := snd_iconst dX12_putHead_68
theorem sX12_putHead_69 {h0 : Hp_} : Snd 73 107 h0 (miT TbM) RX12 cX12_putHead 4 none 69 (i_iload 70 2) := snd_iload_n rfl dX12_putHead_69
theorem sX12_putHead_70 {h0 : Hp_} : Snd 73 107 h0 (miT TbM) RX12 cX12_putHead 4 none 70 (i_cV2 30 11 73) := snd_cV2 (fun hK hd hC ho hs h6 h7 h8 kk => iv_X12_320 hK (mcM_30 hC) ho hs ⟨hd, by show _ ≤ 40 * (_ + 1); omega⟩ (Nat.le_refl _) h6 h7 h8 ⟨Nat.le_refl _, Nat.le_refl _⟩ dX12_putHead_70 kk)
theorem sX12_putHead_73 {h0 : Hp_} : Snd 73 107 h0 (miT TbM) RX12 cX12_putHead 4 none 73 (i_goto 115) := snd_goto dX12_putHead_73 rfl
theorem sX12_putHead_76 {h0 : Hp_} : Snd 73 107 h0 (miT TbM) RX12 cX12_putHead 4 none 76 (i_iload 77 2) := snd_iload_n rfl dX12_putHead_76
theorem sX12_putHead_77 {h0 : Hp_} : Snd 73 107 h0 (miT TbM) RX12 cX12_putHead 4 none 77 (i_const 79 (vI 6)) := snd_bipush (by decide) dX12_putHead_77
theorem sX12_putHead_79 {h0 : Hp_} : Snd 73 107 h0 (miT TbM) RX12 cX12_putHead 4 none 79 (i_icmp_ge 82 99) := snd_icmp_ge dX12_putHead_79 rfl
theorem sX12_putHead_82 {h0 : Hp_} : Snd 73 107 h0 (miT TbM) RX12 cX12_putHead 4 none 82 (i_aload 83 0) := snd_aload_n rfl dX12_putHead_82
theorem sX12_putHead_83 {h0 : Hp_} : Snd 73 107 h0 (miT TbM) RX12 cX12_putHead 4 none 83 (i_const 84 (vI 3)) := snd_iconst dX12_putHead_83
theorem sX12_putHead_84 {h0 : Hp_} : Snd 73 107 h0 (miT TbM) RX12 cX12_putHead 4 none 84 (i_const 85 (vI 2)) := snd_iconst dX12_putHead_84
theorem sX12_putHead_85 {h0 : Hp_} : Snd 73 107 h0 (miT TbM) RX12 cX12_putHead 4 none 85 (i_cV2 30 11 88) := snd_cV2 (fun hK hd hC ho hs h6 h7 h8 kk => iv_X12_320 hK (mcM_30 hC) ho hs ⟨hd, by show _ ≤ 40 * (_ + 1); omega⟩ (Nat.le_refl _) h6 h7 h8 ⟨Nat.le_refl _, Nat.le_refl _⟩ dX12_putHead_85 kk)
theorem sX12_putHead_88 {h0 : Hp_} : Snd 73 107 h0 (miT TbM) RX12 cX12_putHead 4 none 88 (i_aload 89 0) := snd_aload_n rfl dX12_putHead_88
theorem sX12_putHead_89 {h0 : Hp_} : Snd 73 107 h0 (miT TbM) RX12 cX12_putHead 4 none 89 (i_iload 90 2) := snd_iload_n rfl dX12_putHead_89
theorem sX12_putHead_90 {h0 : Hp_} : Snd 73 107 h0 (miT TbM) RX12 cX12_putHead 4 none 90 (i_const 91 (vI 3)) := snd_iconst dX12_putHead_90
theorem sX12_putHead_91 {h0 : Hp_} : Snd 73 107 h0 (miT TbM) RX12 cX12_putHead 4 none 91 (i_isub 92) := snd_isub dX12_putHead_91
theorem sX12_putHead_92 {h0 : Hp_} : Snd 73 107 h0 (miT TbM) RX12 cX12_putHead 4 none 92 (i_const 93 (vI 2)) := snd_iconst dX12_putHead_92
theorem sX12_putHead_93 {h0 : Hp_} : Snd 73 107 h0 (miT TbM) RX12 cX12_putHead 4 none 93 (i_cV2 30 11 96) := snd_cV2 (fun hK hd hC ho hs h6 h7 h8 kk => iv_X12_320 hK (mcM_30 hC) ho hs ⟨hd, by show _ ≤ 40 * (_ + 1); omega⟩ (Nat.le_refl _) h6 h7 h8 ⟨Nat.le_refl _, Nat.le_refl _⟩ dX12_putHead_93 kk)
theorem sX12_putHead_96 {h0 : Hp_} : Snd 73 107 h0 (miT TbM) RX12 cX12_putHead 4 none 96 (i_goto 115) := snd_goto dX12_putHead_96 rfl
theorem sX12_putHead_99 {h0 : Hp_} : Snd 73 107 h0 (miT TbM) RX12 cX12_putHead 4 none 99 (i_aload 100 0) := snd_aload_n rfl dX12_putHead_99
theorem sX12_putHead_100 {h0 : Hp_} : Snd 73 107 h0 (miT TbM) RX12 cX12_putHead 4 none 100 (i_const 102 (vI 15)) := snd_bipush (by decide) dX12_putHead_100
theorem sX12_putHead_102 {h0 : Hp_} : Snd 73 107 h0 (miT TbM) RX12 cX12_putHead 4 none 102 (i_const 103 (vI 4)) := snd_iconst dX12_putHead_102
theorem sX12_putHead_103 {h0 : Hp_} : Snd 73 107 h0 (miT TbM) RX12 cX12_putHead 4 none 103 (i_cV2 30 11 106) := snd_cV2 (fun hK hd hC ho hs h6 h7 h8 kk => iv_X12_320 hK (mcM_30 hC) ho hs ⟨hd, by show _ ≤ 40 * (_ + 1); omega⟩ (Nat.le_refl _) h6 h7 h8 ⟨Nat.le_refl _, Nat.le_refl _⟩ dX12_putHead_103 kk)
theorem sX12_putHead_106 {h0 : Hp_} : Snd 73 107 h0 (miT TbM) RX12 cX12_putHead 4 none 106 (i_aload 107 0) := snd_aload_n rfl dX12_putHead_106
theorem sX12_putHead_107 {h0 : Hp_} : Snd 73 107 h0 (miT TbM) RX12 cX12_putHead 4 none 107 (i_iload 108 2) := snd_iload_n rfl dX12_putHead_107
theorem sX12_putHead_108 {h0 : Hp_} : Snd 73 107 h0 (miT TbM) RX12 cX12_putHead 4 none 108 (i_const 110 (vI 6)) := snd_bipush (by decide) dX12_putHead_108
theorem sX12_putHead_110 {h0 : Hp_} : Snd 73 107 h0 (miT TbM) RX12 cX12_putHead 4 none 110 (i_isub 111) := snd_isub dX12_putHead_110
theorem sX12_putHead_111 {h0 : Hp_} : Snd 73 107 h0 (miT TbM) RX12 cX12_putHead 4 none 111 (i_const 112 (vI 5)) := snd_iconst dX12_putHead_111
theorem sX12_putHead_112 {h0 : Hp_} : Snd 73 107 h0 (miT TbM) RX12 cX12_putHead 4 none 112 (i_cV2 30 11 115) := snd_cV2 (fun hK hd hC ho hs h6 h7 h8 kk => iv_X12_320 hK (mcM_30 hC) ho hs ⟨hd, by show _ ≤ 40 * (_ + 1); omega⟩ (Nat.le_refl _) h6 h7 h8 ⟨Nat.le_refl _, Nat.le_refl _⟩ dX12_putHead_112 kk)
theorem sX12_putHead_115 {h0 : Hp_} : Snd 73 107 h0 (miT TbM) RX12 cX12_putHead 4 none 115 (i_aload 116 0) := snd_aload_n rfl dX12_putHead_115
theorem sX12_putHead_116 {h0 : Hp_} : Snd 73 107 h0 (miT TbM) RX12 cX12_putHead 4 none 116 (i_getR 11 22 119) := snd_getR rfl (by decide) (by decide) (by decide) (fun hK ho hs hq kk => gf_X12_72 hK ho hs hq rfl dX12_putHead_116 kk)
theorem sX12_putHead_119 {h0 : Hp_} : Snd 73 107 h0 (miT TbM) RX12 cX12_putHead 4 none 119 (i_const 121 (vI 35)) := snd_bipush (by decide) dX12_putHead_119
theorem sX12_putHead_121 {h0 : Hp_} : Snd 73 107 h0 (miT TbM) RX12 cX12_putHead 4 none 121 (i_iload 122 1) := snd_iload_n rfl dX12_putHead_121
theorem sX12_putHead_122 {h0 : Hp_} : Snd 73 107 h0 (miT TbM) RX12 cX12_putHead 4 none 122 (i_imul 123) := snd_imul dX12_putHead_122
theorem sX12_putHead_123 {h0 : Hp_} : Snd 73 107 h0 (miT TbM) RX12 cX12_putHead 4 none 123 (i_aload 124 0) := snd_aload_n rfl dX12_putHead_123
theorem sX12_putHead_124 {h0 : Hp_} : Snd 73 107 h0 (miT TbM) RX12 cX12_putHead 4 none 124 (i_getR 11 15 127) := snd_getR rfl (by decide) (by decide) (by decide) (fun hK ho hs hq kk => gf_X12_54 hK ho hs hq rfl dX12_putHead_124 kk)
theorem sX12_putHead_127 {h0 : Hp_} : Snd 73 107 h0 (miT TbM) RX12 cX12_putHead 4 none 127 (i_iload 128 1) := snd_iload_n rfl dX12_putHead_127
theorem sX12_putHead_128 {h0 : Hp_} : Snd 73 107 h0 (miT TbM) RX12 cX12_putHead 4 none 128 (i_iald 73 107 129) := snd_iald dX12_putHead_128
theorem sX12_putHead_129 {h0 : Hp_} : Snd 73 107 h0 (miT TbM) RX12 cX12_putHead 4 none 129 (i_iadd 130) := snd_iadd dX12_putHead_129
theorem sX12_putHead_130 {h0 : Hp_} : Snd 73 107 h0 (miT TbM) RX12 cX12_putHead 4 none 130 (i_iald 73 107 131) := snd_iald dX12_putHead_130
theorem sX12_putHead_131 {h0 : Hp_} : Snd 73 107 h0 (miT TbM) RX12 cX12_putHead 4 none 131 (i_aload 132 0) := snd_aload_n rfl dX12_putHead_131
theorem sX12_putHead_132 {h0 : Hp_} : Snd 73 107 h0 (miT TbM) RX12 cX12_putHead 4 none 132 (i_getR 11 22 135) := snd_getR rfl (by decide) (by decide) (by decide) (fun hK ho hs hq kk => gf_X12_72 hK ho hs hq rfl dX12_putHead_132 kk)
theorem sX12_putHead_135 {h0 : Hp_} : Snd 73 107 h0 (miT TbM) RX12 cX12_putHead 4 none 135 (i_const 137 (vI 35)) := snd_bipush (by decide) dX12_putHead_135
theorem sX12_putHead_137 {h0 : Hp_} : Snd 73 107 h0 (miT TbM) RX12 cX12_putHead 4 none 137 (i_iload 138 1) := snd_iload_n rfl dX12_putHead_137
theorem sX12_putHead_138 {h0 : Hp_} : Snd 73 107 h0 (miT TbM) RX12 cX12_putHead 4 none 138 (i_imul 139) := snd_imul dX12_putHead_138
theorem sX12_putHead_139 {h0 : Hp_} : Snd 73 107 h0 (miT TbM) RX12 cX12_putHead 4 none 139 (i_aload 140 0) := snd_aload_n rfl dX12_putHead_139
theorem sX12_putHead_140 {h0 : Hp_} : Snd 73 107 h0 (miT TbM) RX12 cX12_putHead 4 none 140 (i_getR 11 16 143) := snd_getR rfl (by decide) (by decide) (by decide) (fun hK ho hs hq kk => gf_X12_57 hK ho hs hq rfl dX12_putHead_140 kk)
theorem sX12_putHead_143 {h0 : Hp_} : Snd 73 107 h0 (miT TbM) RX12 cX12_putHead 4 none 143 (i_iload 144 1) := snd_iload_n rfl dX12_putHead_143
theorem sX12_putHead_144 {h0 : Hp_} : Snd 73 107 h0 (miT TbM) RX12 cX12_putHead 4 none 144 (i_iald 73 107 145) := snd_iald dX12_putHead_144
theorem sX12_putHead_145 {h0 : Hp_} : Snd 73 107 h0 (miT TbM) RX12 cX12_putHead 4 none 145 (i_iadd 146) := snd_iadd dX12_putHead_145
theorem sX12_putHead_146 {h0 : Hp_} : Snd 73 107 h0 (miT TbM) RX12 cX12_putHead 4 none 146 (i_iald 73 107 147) := snd_iald dX12_putHead_146
theorem sX12_putHead_147 {h0 : Hp_} : Snd 73 107 h0 (miT TbM) RX12 cX12_putHead 4 none 147 (i_isub 148) := snd_isub dX12_putHead_147
theorem sX12_putHead_148 {h0 : Hp_} : Snd 73 107 h0 (miT TbM) RX12 cX12_putHead 4 none 148 (i_istore 149 3) := snd_istore_n rfl (by decide) dX12_putHead_148
theorem sX12_putHead_149 {h0 : Hp_} : Snd 73 107 h0 (miT TbM) RX12 cX12_putHead 4 none 149 (i_iload 150 3) := snd_iload_n rfl dX12_putHead_149
theorem sX12_putHead_150 {h0 : Hp_} : Snd 73 107 h0 (miT TbM) RX12 cX12_putHead 4 none 150 (i_const 151 (vI 1)) := snd_iconst dX12_putHead_150
theorem sX12_putHead_151 {h0 : Hp_} : Snd 73 107 h0 (miT TbM) RX12 cX12_putHead 4 none 151 (i_aload 152 0) := snd_aload_n rfl dX12_putHead_151
theorem sX12_putHead_152 {h0 : Hp_} : Snd 73 107 h0 (miT TbM) RX12 cX12_putHead 4 none 152 (i_getR 11 17 155) := snd_getR rfl (by decide) (by decide) (by decide) (fun hK ho hs hq kk => gf_X12_60 hK ho hs hq rfl dX12_putHead_152 kk)
theorem sX12_putHead_155 {h0 : Hp_} : Snd 73 107 h0 (miT TbM) RX12 cX12_putHead 4 none 155 (i_iload 156 1) := snd_iload_n rfl dX12_putHead_155
theorem sX12_putHead_156 {h0 : Hp_} : Snd 73 107 h0 (miT TbM) RX12 cX12_putHead 4 none 156 (i_iald 73 107 157) := snd_iald dX12_putHead_156
theorem sX12_putHead_157 {h0 : Hp_} : Snd 73 107 h0 (miT TbM) RX12 cX12_putHead 4 none 157 (i_iload 158 2) := snd_iload_n rfl dX12_putHead_157
theorem sX12_putHead_158 {h0 : Hp_} : Snd 73 107 h0 (miT TbM) RX12 cX12_putHead 4 none 158 (i_cS1 28 161) := snd_cS1 (fun hK hd hC h6 h7 h8 kk => iv_X12_323 hK (mcM_28 hC) ⟨hd, by show _ ≤ 40 * (_ + 1); omega⟩ (Nat.le_refl _) h6 h7 h8 ⟨Nat.le_refl _, Nat.le_refl _⟩ dX12_putHead_158 kk)
theorem sX12_putHead_161 {h0 : Hp_} : Snd 73 107 h0 (miT TbM) RX12 cX12_putHead 4 none 161 (i_iadd 162) := snd_iadd dX12_putHead_161
theorem sX12_putHead_162 {h0 : Hp_} : Snd 73 107 h0 (miT TbM) RX12 cX12_putHead 4 none 162 (i_ishl 163) := snd_ishl dX12_putHead_162
theorem sX12_putHead_163 {h0 : Hp_} : Snd 73 107 h0 (miT TbM) RX12 cX12_putHead 4 none 163 (i_icmp_lt 166 185) := snd_icmp_lt dX12_putHead_163 rfl
theorem sX12_putHead_166 {h0 : Hp_} : Snd 73 107 h0 (miT TbM) RX12 cX12_putHead 4 none 166 (i_aload 167 0) := snd_aload_n rfl dX12_putHead_166
theorem sX12_putHead_167 {h0 : Hp_} : Snd 73 107 h0 (miT TbM) RX12 cX12_putHead 4 none 167 (i_const 168 (vI 1)) := snd_iconst dX12_putHead_167
theorem sX12_putHead_168 {h0 : Hp_} : Snd 73 107 h0 (miT TbM) RX12 cX12_putHead 4 none 168 (i_const 169 (vI 1)) := snd_iconst dX12_putHead_168
theorem sX12_putHead_169 {h0 : Hp_} : Snd 73 107 h0 (miT TbM) RX12 cX12_putHead 4 none 169 (i_cV2 30 11 172) := snd_cV2 (fun hK hd hC ho hs h6 h7 h8 kk => iv_X12_320 hK (mcM_30 hC) ho hs ⟨hd, by show _ ≤ 40 * (_ + 1); omega⟩ (Nat.le_refl _) h6 h7 h8 ⟨Nat.le_refl _, Nat.le_refl _⟩ dX12_putHead_169 kk)
theorem sX12_putHead_172 {h0 : Hp_} : Snd 73 107 h0 (miT TbM) RX12 cX12_putHead 4 none 172 (i_aload 173 0) := snd_aload_n rfl dX12_putHead_172
theorem sX12_putHead_173 {h0 : Hp_} : Snd 73 107 h0 (miT TbM) RX12 cX12_putHead 4 none 173 (i_getR 11 17 176) := snd_getR rfl (by decide) (by decide) (by decide) (fun hK ho hs hq kk => gf_X12_60 hK ho hs hq rfl dX12_putHead_173 kk)
theorem sX12_putHead_176 {h0 : Hp_} : Snd 73 107 h0 (miT TbM) RX12 cX12_putHead 4 none 176 (i_iload 177 1) := snd_iload_n rfl dX12_putHead_176
theorem sX12_putHead_177 {h0 : Hp_} : Snd 73 107 h0 (miT TbM) RX12 cX12_putHead 4 none 177 (i_dup2 178) := snd_dup2 dX12_putHead_177
theorem sX12_putHead_178 {h0 : Hp_} : Snd 73 107 h0 (miT TbM) RX12 cX12_putHead 4 none 178 (i_iald 73 107 179) := snd_iald dX12_putHead_178
theorem sX12_putHead_179 {h0 : Hp_} : Snd 73 107 h0 (miT TbM) RX12 cX12_putHead 4 none 179 (i_const 180 (vI 1)) := snd_iconst dX12_putHead_179
theorem sX12_putHead_180 {h0 : Hp_} : Snd 73 107 h0 (miT TbM) RX12 cX12_putHead 4 none 180 (i_iadd 181) := snd_iadd dX12_putHead_180
theorem sX12_putHead_181 {h0 : Hp_} : Snd 73 107 h0 (miT TbM) RX12 cX12_putHead 4 none 181 (i_iast 73 107 182) := snd_iast dX12_putHead_181
theorem sX12_putHead_182 {h0 : Hp_} : Snd 73 107 h0 (miT TbM) RX12 cX12_putHead 4 none 182 (i_goto 149) := snd_goto dX12_putHead_182 rfl
theorem sX12_putHead_185 {h0 : Hp_} : Snd 73 107 h0 (miT TbM) RX12 cX12_putHead 4 none 185 (i_aload 186 0) := snd_aload_n rfl dX12_putHead_185
theorem sX12_putHead_186 {h0 : Hp_} : Snd 73 107 h0 (miT TbM) RX12 cX12_putHead 4 none 186 (i_const 187 (vI 0)) := snd_iconst dX12_putHead_186
theorem sX12_putHead_187 {h0 : Hp_} : Snd 73 107 h0 (miT TbM) RX12 cX12_putHead 4 none 187 (i_const 188 (vI 1)) := snd_iconst dX12_putHead_187
theorem sX12_putHead_188 {h0 : Hp_} : Snd 73 107 h0 (miT TbM) RX12 cX12_putHead 4 none 188 (i_cV2 30 11 191) := snd_cV2 (fun hK hd hC ho hs h6 h7 h8 kk => iv_X12_320 hK (mcM_30 hC) ho hs ⟨hd, by show _ ≤ 40 * (_ + 1); omega⟩ (Nat.le_refl _) h6 h7 h8 ⟨Nat.le_refl _, Nat.le_refl _⟩ dX12_putHead_188 kk)
theorem sX12_putHead_191 {h0 : Hp_} : Snd 73 107 h0 (miT TbM) RX12 cX12_putHead 4 none 191 (i_aload 192 0) := snd_aload_n rfl dX12_putHead_191
theorem sX12_putHead_192 {h0 : Hp_} : Snd 73 107 h0 (miT TbM) RX12 cX12_putHead 4 none 192 (i_iload 193 3) := snd_iload_n rfl dX12_putHead_192
theorem sX12_putHead_193 {h0 : Hp_} : Snd 73 107 h0 (miT TbM) RX12 cX12_putHead 4 none 193 (i_aload 194 0) := snd_aload_n rfl dX12_putHead_193
theorem sX12_putHead_194 {h0 : Hp_} : Snd 73 107 h0 (miT TbM) RX12 cX12_putHead 4 none 194 (i_getR 11 17 197) := snd_getR rfl (by decide) (by decide) (by decide) (fun hK ho hs hq kk => gf_X12_60 hK ho hs hq rfl dX12_putHead_194 kk)
theorem sX12_putHead_197 {h0 : Hp_} : Snd 73 107 h0 (miT TbM) RX12 cX12_putHead 4 none 197 (i_iload 198 1) := snd_iload_n rfl dX12_putHead_197
theorem sX12_putHead_198 {h0 : Hp_} : Snd 73 107 h0 (miT TbM) RX12 cX12_putHead 4 none 198 (i_iald 73 107 199) := snd_iald dX12_putHead_198
theorem sX12_putHead_199 {h0 : Hp_} : Snd 73 107 h0 (miT TbM) RX12 cX12_putHead 4 none 199 (i_iload 200 2) := snd_iload_n rfl dX12_putHead_199
theorem sX12_putHead_200 {h0 : Hp_} : Snd 73 107 h0 (miT TbM) RX12 cX12_putHead 4 none 200 (i_cS1 28 203) := snd_cS1 (fun hK hd hC h6 h7 h8 kk => iv_X12_323 hK (mcM_28 hC) ⟨hd, by show _ ≤ 40 * (_ + 1); omega⟩ (Nat.le_refl _) h6 h7 h8 ⟨Nat.le_refl _, Nat.le_refl _⟩ dX12_putHead_200 kk)
theorem sX12_putHead_203 {h0 : Hp_} : Snd 73 107 h0 (miT TbM) RX12 cX12_putHead 4 none 203 (i_iadd 204) := snd_iadd dX12_putHead_203
theorem sX12_putHead_204 {h0 : Hp_} : Snd 73 107 h0 (miT TbM) RX12 cX12_putHead 4 none 204 (i_cV2 30 11 207) := snd_cV2 (fun hK hd hC ho hs h6 h7 h8 kk => iv_X12_320 hK (mcM_30 hC) ho hs ⟨hd, by show _ ≤ 40 * (_ + 1); omega⟩ (Nat.le_refl _) h6 h7 h8 ⟨Nat.le_refl _, Nat.le_refl _⟩ dX12_putHead_204 kk)
theorem sX12_putHead_207 {h0 : Hp_} : Snd 73 107 h0 (miT TbM) RX12 cX12_putHead 4 none 207 (i_vret) := snd_vret dX12_putHead_207
theorem kX12_putHead {h0 : Hp_} : raA (okI 73 107 h0 (miT TbM) (yX12_putHead, cX12_putHead, 4, none)) tX12_putHead := (raA_br (raA_br (raA_br (raA_br (raA_br (raA_br (raA_br (raA_leaf sX12_putHead_0) (raA_leaf sX12_putHead_1)) (raA_br (raA_leaf sX12_putHead_4) (raA_leaf sX12_putHead_5))) (raA_br (raA_br (raA_leaf sX12_putHead_6) (raA_leaf sX12_putHead_7)) (raA_br (raA_leaf sX12_putHead_10) (raA_leaf sX12_putHead_11)))) (raA_br (raA_br (raA_br (raA_leaf sX12_putHead_12) (raA_leaf sX12_putHead_13)) (raA_br (raA_leaf sX12_putHead_14) (raA_leaf sX12_putHead_15))) (raA_br (raA_br (raA_leaf sX12_putHead_16) (raA_leaf sX12_putHead_19)) (raA_br (raA_leaf sX12_putHead_20) (raA_leaf sX12_putHead_23))))) (raA_br (raA_br (raA_br (raA_br (raA_leaf sX12_putHead_24) (raA_leaf sX12_putHead_25)) (raA_br (raA_leaf sX12_putHead_28) (raA_leaf sX12_putHead_29))) (raA_br (raA_br (raA_leaf sX12_putHead_32) (raA_leaf sX12_putHead_33)) (raA_br (raA_leaf sX12_putHead_34) (raA_leaf sX12_putHead_37)))) (raA_br (raA_br (raA_br (raA_leaf sX12_putHead_38) (raA_leaf sX12_putHead_39)) (raA_br (raA_leaf sX12_putHead_42) (raA_leaf sX12_putHead_43))) (raA_br (raA_br (raA_leaf sX12_putHead_44) (raA_leaf sX12_putHead_47)) (raA_br (raA_leaf sX12_putHead_48) (raA_br (raA_leaf sX12_putHead_49) (raA_leaf sX12_putHead_50))))))) (raA_br (raA_br (raA_br (raA_br (raA_br (raA_leaf sX12_putHead_53) (raA_leaf sX12_putHead_54)) (raA_br (raA_leaf sX12_putHead_55) (raA_leaf sX12_putHead_58))) (raA_br (raA_br (raA_leaf sX12_putHead_59) (raA_leaf sX12_putHead_60)) (raA_br (raA_leaf sX12_putHead_61) (raA_leaf sX12_putHead_64)))) (raA_br (raA_br (raA_br (raA_leaf sX12_putHead_65) (raA_leaf sX12_putHead_68)) (raA_br (raA_leaf sX12_putHead_69) (raA_leaf sX12_putHead_70))) (raA_br (raA_br (raA_leaf sX12_putHead_73) (raA_leaf sX12_putHead_76)) (raA_br (raA_leaf sX12_putHead_77) (raA_leaf sX12_putHead_79))))) (raA_br (raA_br (raA_br (raA_br (raA_leaf sX12_putHead_82) (raA_leaf sX12_putHead_83)) (raA_br (raA_leaf sX12_putHead_84) (raA_leaf sX12_putHead_85))) (raA_br (raA_br (raA_leaf sX12_putHead_88) (raA_leaf sX12_putHead_89)) (raA_br (raA_leaf sX12_putHead_90) (raA_leaf sX12_putHead_91)))) (raA_br (raA_br (raA_br (raA_leaf sX12_putHead_92) (raA_leaf sX12_putHead_93)) (raA_br (raA_leaf sX12_putHead_96) (raA_leaf sX12_putHead_99))) (raA_br (raA_br (raA_leaf sX12_putHead_100) (raA_leaf sX12_putHead_102)) (raA_br (raA_leaf sX12_putHead_103) (raA_br (raA_leaf sX12_putHead_106) (raA_leaf sX12_putHead_107)))))))) (raA_br (raA_br (raA_br (raA_br (raA_br (raA_br (raA_leaf sX12_putHead_108) (raA_leaf sX12_putHead_110)) (raA_br (raA_leaf sX12_putHead_111) (raA_leaf sX12_putHead_112))) (raA_br (raA_br (raA_leaf sX12_putHead_115) (raA_leaf sX12_putHead_116)) (raA_br (raA_leaf sX12_putHead_119) (raA_leaf sX12_putHead_121)))) (raA_br (raA_br (raA_br (raA_leaf sX12_putHead_122) (raA_leaf sX12_putHead_123)) (raA_br (raA_leaf sX12_putHead_124) (raA_leaf sX12_putHead_127))) (raA_br (raA_br (raA_leaf sX12_putHead_128) (raA_leaf sX12_putHead_129)) (raA_br (raA_leaf sX12_putHead_130) (raA_leaf sX12_putHead_131))))) (raA_br (raA_br (raA_br (raA_br (raA_leaf sX12_putHead_132) (raA_leaf sX12_putHead_135)) (raA_br (raA_leaf sX12_putHead_137) (raA_leaf sX12_putHead_138))) (raA_br (raA_br (raA_leaf sX12_putHead_139) (raA_leaf sX12_putHead_140)) (raA_br (raA_leaf sX12_putHead_143) (raA_leaf sX12_putHead_144)))) (raA_br (raA_br (raA_br (raA_leaf sX12_putHead_145) (raA_leaf sX12_putHead_146)) (raA_br (raA_leaf sX12_putHead_147) (raA_leaf sX12_putHead_148))) (raA_br (raA_br (raA_leaf sX12_putHead_149) (raA_leaf sX12_putHead_150)) (raA_br (raA_leaf sX12_putHead_151) (raA_br (raA_leaf sX12_putHead_152) (raA_leaf sX12_putHead_155))))))) (raA_br (raA_br (raA_br (raA_br (raA_br (raA_leaf sX12_putHead_156) (raA_leaf sX12_putHead_157)) (raA_br (raA_leaf sX12_putHead_158) (raA_leaf sX12_putHead_161))) (raA_br (raA_br (raA_leaf sX12_putHead_162) (raA_leaf sX12_putHead_163)) (raA_br (raA_leaf sX12_putHead_166) (raA_leaf sX12_putHead_167)))) (raA_br (raA_br (raA_br (raA_leaf sX12_putHead_168) (raA_leaf sX12_putHead_169)) (raA_br (raA_leaf sX12_putHead_172) (raA_leaf sX12_putHead_173))) (raA_br (raA_br (raA_leaf sX12_putHead_176) (raA_leaf sX12_putHead_177)) (raA_br (raA_leaf sX12_putHead_178) (raA_br (raA_leaf sX12_putHead_179) (raA_leaf sX12_putHead_180)))))) (raA_br (raA_br (raA_br (raA_br (raA_leaf sX12_putHead_181) (raA_leaf sX12_putHead_182)) (raA_br (raA_leaf sX12_putHead_185) (raA_leaf sX12_putHead_186))) (raA_br (raA_br (raA_leaf sX12_putHead_187) (raA_leaf sX12_putHead_188)) (raA_br (raA_leaf sX12_putHead_191) (raA_leaf sX12_putHead_192)))) (raA_br (raA_br (raA_br (raA_leaf sX12_putHead_193) (raA_leaf sX12_putHead_194)) (raA_br (raA_leaf sX12_putHead_197) (raA_leaf sX12_putHead_198))) (raA_br (raA_br (raA_leaf sX12_putHead_199) (raA_leaf sX12_putHead_200)) (raA_br (raA_leaf sX12_putHead_203) (raA_br (raA_leaf sX12_putHead_204) (raA_leaf sX12_putHead_207)))))))))

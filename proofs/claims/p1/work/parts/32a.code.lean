theorem sJ6_numberOfLeadingZeros_0f7a4_0 : Snd (miT Tb) RJ6 cJ6_numberOfLeadingZeros_0f7a4 2 (some .int) 0 (i_iload 1 0) := snd_iload_n rfl dJ6_numberOfLeadingZeros_0f7a4_0
theorem sJ6_numberOfLeadingZeros_0f7a4_1 : Snd (miT Tb) RJ6 cJ6_numberOfLeadingZeros_0f7a4 2 (some .int) 1 (i_if_gt 4 15) := snd_if_gt dJ6_numberOfLeadingZeros_0f7a4_1 rfl
theorem sJ6_numberOfLeadingZeros_0f7a4_4 : Snd (miT Tb) RJ6 cJ6_numberOfLeadingZeros_0f7a4 2 (some .int) 4 (i_iload 5 0) := snd_iload_n rfl dJ6_numberOfLeadingZeros_0f7a4_4
theorem sJ6_numberOfLeadingZeros_0f7a4_5 : Snd (miT Tb) RJ6 cJ6_numberOfLeadingZeros_0f7a4 2 (some .int) 5 (i_if_ne 8 13) := snd_if_ne dJ6_numberOfLeadingZeros_0f7a4_5 rfl
theorem sJ6_numberOfLeadingZeros_0f7a4_8 : Snd (miT Tb) RJ6 cJ6_numberOfLeadingZeros_0f7a4 2 (some .int) 8 (i_const 10 (vI 32)) := snd_bipush (by decide) dJ6_numberOfLeadingZeros_0f7a4_8
theorem sJ6_numberOfLeadingZeros_0f7a4_10 : Snd (miT Tb) RJ6 cJ6_numberOfLeadingZeros_0f7a4 2 (some .int) 10 (i_goto 14) := snd_goto dJ6_numberOfLeadingZeros_0f7a4_10 rfl
theorem sJ6_numberOfLeadingZeros_0f7a4_13 : Snd (miT Tb) RJ6 cJ6_numberOfLeadingZeros_0f7a4 2 (some .int) 13 (i_const 14 (vI 0)) := snd_iconst dJ6_numberOfLeadingZeros_0f7a4_13
theorem sJ6_numberOfLeadingZeros_0f7a4_14 : Snd (miT Tb) RJ6 cJ6_numberOfLeadingZeros_0f7a4 2 (some .int) 14 (i_iret) := snd_iret dJ6_numberOfLeadingZeros_0f7a4_14
theorem sJ6_numberOfLeadingZeros_0f7a4_15 : Snd (miT Tb) RJ6 cJ6_numberOfLeadingZeros_0f7a4 2 (some .int) 15 (i_const 17 (vI 31)) := snd_bipush (by decide) dJ6_numberOfLeadingZeros_0f7a4_15
theorem sJ6_numberOfLeadingZeros_0f7a4_17 : Snd (miT Tb) RJ6 cJ6_numberOfLeadingZeros_0f7a4 2 (some .int) 17 (i_istore 18 1) := snd_istore_n rfl (by decide) dJ6_numberOfLeadingZeros_0f7a4_17
theorem sJ6_numberOfLeadingZeros_0f7a4_18 : Snd (miT Tb) RJ6 cJ6_numberOfLeadingZeros_0f7a4 2 (some .int) 18 (i_iload 19 0) := snd_iload_n rfl dJ6_numberOfLeadingZeros_0f7a4_18
theorem sJ6_numberOfLeadingZeros_0f7a4_19 : Snd (miT Tb) RJ6 cJ6_numberOfLeadingZeros_0f7a4 2 (some .int) 19 (i_const 22 (vI 65536)) := snd_ldcw (gd_ (tb_3 162 rfl) rfl) dJ6_numberOfLeadingZeros_0f7a4_19
theorem sJ6_numberOfLeadingZeros_0f7a4_22 : Snd (miT Tb) RJ6 cJ6_numberOfLeadingZeros_0f7a4 2 (some .int) 22 (i_icmp_lt 25 33) := snd_icmp_lt dJ6_numberOfLeadingZeros_0f7a4_22 rfl
theorem sJ6_numberOfLeadingZeros_0f7a4_25 : Snd (miT Tb) RJ6 cJ6_numberOfLeadingZeros_0f7a4 2 (some .int) 25 (i_iinc 28 1 (-16)) := snd_iinc (by decide) dJ6_numberOfLeadingZeros_0f7a4_25
theorem sJ6_numberOfLeadingZeros_0f7a4_28 : Snd (miT Tb) RJ6 cJ6_numberOfLeadingZeros_0f7a4 2 (some .int) 28 (i_iload 29 0) := snd_iload_n rfl dJ6_numberOfLeadingZeros_0f7a4_28
theorem sJ6_numberOfLeadingZeros_0f7a4_29 : Snd (miT Tb) RJ6 cJ6_numberOfLeadingZeros_0f7a4 2 (some .int) 29 (i_const 31 (vI 16)) := snd_bipush (by decide) dJ6_numberOfLeadingZeros_0f7a4_29
theorem sJ6_numberOfLeadingZeros_0f7a4_31 : Snd (miT Tb) RJ6 cJ6_numberOfLeadingZeros_0f7a4 2 (some .int) 31 (i_iushr 32) := snd_iushr dJ6_numberOfLeadingZeros_0f7a4_31
theorem sJ6_numberOfLeadingZeros_0f7a4_32 : Snd (miT Tb) RJ6 cJ6_numberOfLeadingZeros_0f7a4 2 (some .int) 32 (i_istore 33 0) := snd_istore_n rfl (by decide) dJ6_numberOfLeadingZeros_0f7a4_32
theorem sJ6_numberOfLeadingZeros_0f7a4_33 : Snd (miT Tb) RJ6 cJ6_numberOfLeadingZeros_0f7a4 2 (some .int) 33 (i_iload 34 0) := snd_iload_n rfl dJ6_numberOfLeadingZeros_0f7a4_33
theorem sJ6_numberOfLeadingZeros_0f7a4_34 : Snd (miT Tb) RJ6 cJ6_numberOfLeadingZeros_0f7a4 2 (some .int) 34 (i_const 37 (vI 256)) := snd_sipush (by decide) dJ6_numberOfLeadingZeros_0f7a4_34
theorem sJ6_numberOfLeadingZeros_0f7a4_37 : Snd (miT Tb) RJ6 cJ6_numberOfLeadingZeros_0f7a4 2 (some .int) 37 (i_icmp_lt 40 48) := snd_icmp_lt dJ6_numberOfLeadingZeros_0f7a4_37 rfl
theorem sJ6_numberOfLeadingZeros_0f7a4_40 : Snd (miT Tb) RJ6 cJ6_numberOfLeadingZeros_0f7a4 2 (some .int) 40 (i_iinc 43 1 (-8)) := snd_iinc (by decide) dJ6_numberOfLeadingZeros_0f7a4_40
theorem sJ6_numberOfLeadingZeros_0f7a4_43 : Snd (miT Tb) RJ6 cJ6_numberOfLeadingZeros_0f7a4 2 (some .int) 43 (i_iload 44 0) := snd_iload_n rfl dJ6_numberOfLeadingZeros_0f7a4_43
theorem sJ6_numberOfLeadingZeros_0f7a4_44 : Snd (miT Tb) RJ6 cJ6_numberOfLeadingZeros_0f7a4 2 (some .int) 44 (i_const 46 (vI 8)) := snd_bipush (by decide) dJ6_numberOfLeadingZeros_0f7a4_44
theorem sJ6_numberOfLeadingZeros_0f7a4_46 : Snd (miT Tb) RJ6 cJ6_numberOfLeadingZeros_0f7a4 2 (some .int) 46 (i_iushr 47) := snd_iushr dJ6_numberOfLeadingZeros_0f7a4_46
theorem sJ6_numberOfLeadingZeros_0f7a4_47 : Snd (miT Tb) RJ6 cJ6_numberOfLeadingZeros_0f7a4 2 (some .int) 47 (i_istore 48 0) := snd_istore_n rfl (by decide) dJ6_numberOfLeadingZeros_0f7a4_47
theorem sJ6_numberOfLeadingZeros_0f7a4_48 : Snd (miT Tb) RJ6 cJ6_numberOfLeadingZeros_0f7a4 2 (some .int) 48 (i_iload 49 0) := snd_iload_n rfl dJ6_numberOfLeadingZeros_0f7a4_48
theorem sJ6_numberOfLeadingZeros_0f7a4_49 : Snd (miT Tb) RJ6 cJ6_numberOfLeadingZeros_0f7a4 2 (some .int) 49 (i_const 51 (vI 16)) := snd_bipush (by decide) dJ6_numberOfLeadingZeros_0f7a4_49
theorem sJ6_numberOfLeadingZeros_0f7a4_51 : Snd (miT Tb) RJ6 cJ6_numberOfLeadingZeros_0f7a4 2 (some .int) 51 (i_icmp_lt 54 61) := snd_icmp_lt dJ6_numberOfLeadingZeros_0f7a4_51 rfl
theorem sJ6_numberOfLeadingZeros_0f7a4_54 : Snd (miT Tb) RJ6 cJ6_numberOfLeadingZeros_0f7a4 2 (some .int) 54 (i_iinc 57 1 (-4)) := snd_iinc (by decide) dJ6_numberOfLeadingZeros_0f7a4_54
theorem sJ6_numberOfLeadingZeros_0f7a4_57 : Snd (miT Tb) RJ6 cJ6_numberOfLeadingZeros_0f7a4 2 (some .int) 57 (i_iload 58 0) := snd_iload_n rfl dJ6_numberOfLeadingZeros_0f7a4_57
theorem sJ6_numberOfLeadingZeros_0f7a4_58 : Snd (miT Tb) RJ6 cJ6_numberOfLeadingZeros_0f7a4 2 (some .int) 58 (i_const 59 (vI 4)) := snd_iconst dJ6_numberOfLeadingZeros_0f7a4_58
theorem sJ6_numberOfLeadingZeros_0f7a4_59 : Snd (miT Tb) RJ6 cJ6_numberOfLeadingZeros_0f7a4 2 (some .int) 59 (i_iushr 60) := snd_iushr dJ6_numberOfLeadingZeros_0f7a4_59
theorem sJ6_numberOfLeadingZeros_0f7a4_60 : Snd (miT Tb) RJ6 cJ6_numberOfLeadingZeros_0f7a4 2 (some .int) 60 (i_istore 61 0) := snd_istore_n rfl (by decide) dJ6_numberOfLeadingZeros_0f7a4_60
theorem sJ6_numberOfLeadingZeros_0f7a4_61 : Snd (miT Tb) RJ6 cJ6_numberOfLeadingZeros_0f7a4 2 (some .int) 61 (i_iload 62 0) := snd_iload_n rfl dJ6_numberOfLeadingZeros_0f7a4_61
theorem sJ6_numberOfLeadingZeros_0f7a4_62 : Snd (miT Tb) RJ6 cJ6_numberOfLeadingZeros_0f7a4 2 (some .int) 62 (i_const 63 (vI 4)) := snd_iconst dJ6_numberOfLeadingZeros_0f7a4_62
theorem sJ6_numberOfLeadingZeros_0f7a4_63 : Snd (miT Tb) RJ6 cJ6_numberOfLeadingZeros_0f7a4 2 (some .int) 63 (i_icmp_lt 66 73) := snd_icmp_lt dJ6_numberOfLeadingZeros_0f7a4_63 rfl
theorem sJ6_numberOfLeadingZeros_0f7a4_66 : Snd (miT Tb) RJ6 cJ6_numberOfLeadingZeros_0f7a4 2 (some .int) 66 (i_iinc 69 1 (-2)) := snd_iinc (by decide) dJ6_numberOfLeadingZeros_0f7a4_66
theorem sJ6_numberOfLeadingZeros_0f7a4_69 : Snd (miT Tb) RJ6 cJ6_numberOfLeadingZeros_0f7a4 2 (some .int) 69 (i_iload 70 0) := snd_iload_n rfl dJ6_numberOfLeadingZeros_0f7a4_69
theorem sJ6_numberOfLeadingZeros_0f7a4_70 : Snd (miT Tb) RJ6 cJ6_numberOfLeadingZeros_0f7a4 2 (some .int) 70 (i_const 71 (vI 2)) := snd_iconst dJ6_numberOfLeadingZeros_0f7a4_70
theorem sJ6_numberOfLeadingZeros_0f7a4_71 : Snd (miT Tb) RJ6 cJ6_numberOfLeadingZeros_0f7a4 2 (some .int) 71 (i_iushr 72) := snd_iushr dJ6_numberOfLeadingZeros_0f7a4_71
theorem sJ6_numberOfLeadingZeros_0f7a4_72 : Snd (miT Tb) RJ6 cJ6_numberOfLeadingZeros_0f7a4 2 (some .int) 72 (i_istore 73 0) := snd_istore_n rfl (by decide) dJ6_numberOfLeadingZeros_0f7a4_72
theorem sJ6_numberOfLeadingZeros_0f7a4_73 : Snd (miT Tb) RJ6 cJ6_numberOfLeadingZeros_0f7a4 2 (some .int) 73 (i_iload 74 1) := snd_iload_n rfl dJ6_numberOfLeadingZeros_0f7a4_73
theorem sJ6_numberOfLeadingZeros_0f7a4_74 : Snd (miT Tb) RJ6 cJ6_numberOfLeadingZeros_0f7a4 2 (some .int) 74 (i_iload 75 0) := snd_iload_n rfl dJ6_numberOfLeadingZeros_0f7a4_74
theorem sJ6_numberOfLeadingZeros_0f7a4_75 : Snd (miT Tb) RJ6 cJ6_numberOfLeadingZeros_0f7a4 2 (some .int) 75 (i_const 76 (vI 1)) := snd_iconst dJ6_numberOfLeadingZeros_0f7a4_75
theorem sJ6_numberOfLeadingZeros_0f7a4_76 : Snd (miT Tb) RJ6 cJ6_numberOfLeadingZeros_0f7a4 2 (some .int) 76 (i_iushr 77) := snd_iushr dJ6_numberOfLeadingZeros_0f7a4_76
theorem sJ6_numberOfLeadingZeros_0f7a4_77 : Snd (miT Tb) RJ6 cJ6_numberOfLeadingZeros_0f7a4 2 (some .int) 77 (i_isub 78) := snd_isub dJ6_numberOfLeadingZeros_0f7a4_77
theorem sJ6_numberOfLeadingZeros_0f7a4_78 : Snd (miT Tb) RJ6 cJ6_numberOfLeadingZeros_0f7a4 2 (some .int) 78 (i_iret) := snd_iret dJ6_numberOfLeadingZeros_0f7a4_78
theorem kJ6_numberOfLeadingZeros_0f7a4 : raA (okI (miT Tb) (yJ6_numberOfLeadingZeros_0f7a4, cJ6_numberOfLeadingZeros_0f7a4, 2, (some .int))) tJ6_numberOfLeadingZeros_0f7a4 := (raA_br (raA_br (raA_br (raA_br (raA_br (raA_leaf sJ6_numberOfLeadingZeros_0f7a4_0) (raA_br (raA_leaf sJ6_numberOfLeadingZeros_0f7a4_1) (raA_leaf sJ6_numberOfLeadingZeros_0f7a4_4))) (raA_br (raA_leaf sJ6_numberOfLeadingZeros_0f7a4_5) (raA_br (raA_leaf sJ6_numberOfLeadingZeros_0f7a4_8) (raA_leaf sJ6_numberOfLeadingZeros_0f7a4_10)))) (raA_br (raA_br (raA_leaf sJ6_numberOfLeadingZeros_0f7a4_13) (raA_br (raA_leaf sJ6_numberOfLeadingZeros_0f7a4_14) (raA_leaf sJ6_numberOfLeadingZeros_0f7a4_15))) (raA_br (raA_leaf sJ6_numberOfLeadingZeros_0f7a4_17) (raA_br (raA_leaf sJ6_numberOfLeadingZeros_0f7a4_18) (raA_leaf sJ6_numberOfLeadingZeros_0f7a4_19))))) (raA_br (raA_br (raA_br (raA_leaf sJ6_numberOfLeadingZeros_0f7a4_22) (raA_br (raA_leaf sJ6_numberOfLeadingZeros_0f7a4_25) (raA_leaf sJ6_numberOfLeadingZeros_0f7a4_28))) (raA_br (raA_leaf sJ6_numberOfLeadingZeros_0f7a4_29) (raA_br (raA_leaf sJ6_numberOfLeadingZeros_0f7a4_31) (raA_leaf sJ6_numberOfLeadingZeros_0f7a4_32)))) (raA_br (raA_br (raA_leaf sJ6_numberOfLeadingZeros_0f7a4_33) (raA_br (raA_leaf sJ6_numberOfLeadingZeros_0f7a4_34) (raA_leaf sJ6_numberOfLeadingZeros_0f7a4_37))) (raA_br (raA_leaf sJ6_numberOfLeadingZeros_0f7a4_40) (raA_br (raA_leaf sJ6_numberOfLeadingZeros_0f7a4_43) (raA_leaf sJ6_numberOfLeadingZeros_0f7a4_44)))))) (raA_br (raA_br (raA_br (raA_br (raA_leaf sJ6_numberOfLeadingZeros_0f7a4_46) (raA_br (raA_leaf sJ6_numberOfLeadingZeros_0f7a4_47) (raA_leaf sJ6_numberOfLeadingZeros_0f7a4_48))) (raA_br (raA_leaf sJ6_numberOfLeadingZeros_0f7a4_49) (raA_br (raA_leaf sJ6_numberOfLeadingZeros_0f7a4_51) (raA_leaf sJ6_numberOfLeadingZeros_0f7a4_54)))) (raA_br (raA_br (raA_leaf sJ6_numberOfLeadingZeros_0f7a4_57) (raA_br (raA_leaf sJ6_numberOfLeadingZeros_0f7a4_58) (raA_leaf sJ6_numberOfLeadingZeros_0f7a4_59))) (raA_br (raA_leaf sJ6_numberOfLeadingZeros_0f7a4_60) (raA_br (raA_leaf sJ6_numberOfLeadingZeros_0f7a4_61) (raA_leaf sJ6_numberOfLeadingZeros_0f7a4_62))))) (raA_br (raA_br (raA_br (raA_leaf sJ6_numberOfLeadingZeros_0f7a4_63) (raA_br (raA_leaf sJ6_numberOfLeadingZeros_0f7a4_66) (raA_leaf sJ6_numberOfLeadingZeros_0f7a4_69))) (raA_br (raA_leaf sJ6_numberOfLeadingZeros_0f7a4_70) (raA_br (raA_leaf sJ6_numberOfLeadingZeros_0f7a4_71) (raA_leaf sJ6_numberOfLeadingZeros_0f7a4_72)))) (raA_br (raA_br (raA_leaf sJ6_numberOfLeadingZeros_0f7a4_73) (raA_br (raA_leaf sJ6_numberOfLeadingZeros_0f7a4_74) (raA_leaf sJ6_numberOfLeadingZeros_0f7a4_75))) (raA_br (raA_leaf sJ6_numberOfLeadingZeros_0f7a4_76) (raA_br (raA_leaf sJ6_numberOfLeadingZeros_0f7a4_77) (raA_leaf sJ6_numberOfLeadingZeros_0f7a4_78)))))))
theorem sJ7_fill_53178_0 : Snd (miT Tb) RJ7 cJ7_fill_53178 4 none 0 (i_const 1 (vI 0)) := snd_iconst dJ7_fill_53178_0
theorem sJ7_fill_53178_1 : Snd (miT Tb) RJ7 cJ7_fill_53178 4 none 1 (i_istore 2 2) := snd_istore_n rfl (by decide) dJ7_fill_53178_1
theorem sJ7_fill_53178_2 : Snd (miT Tb) RJ7 cJ7_fill_53178 4 none 2 (i_aload 3 0) := snd_aload_n rfl dJ7_fill_53178_2
theorem sJ7_fill_53178_3 : Snd (miT Tb) RJ7 cJ7_fill_53178 4 none 3 (i_alen 4) := snd_alen dJ7_fill_53178_3
theorem sJ7_fill_53178_4 : Snd (miT Tb) RJ7 cJ7_fill_53178 4 none 4 (i_istore 5 3) := snd_istore_n rfl (by decide) dJ7_fill_53178_4
theorem sJ7_fill_53178_5 : Snd (miT Tb) RJ7 cJ7_fill_53178 4 none 5 (i_iload 6 2) := snd_iload_n rfl dJ7_fill_53178_5
theorem sJ7_fill_53178_6 : Snd (miT Tb) RJ7 cJ7_fill_53178 4 none 6 (i_iload 7 3) := snd_iload_n rfl dJ7_fill_53178_6
theorem sJ7_fill_53178_7 : Snd (miT Tb) RJ7 cJ7_fill_53178 4 none 7 (i_icmp_ge 10 20) := snd_icmp_ge dJ7_fill_53178_7 rfl
theorem sJ7_fill_53178_10 : Snd (miT Tb) RJ7 cJ7_fill_53178 4 none 10 (i_aload 11 0) := snd_aload_n rfl dJ7_fill_53178_10
theorem sJ7_fill_53178_11 : Snd (miT Tb) RJ7 cJ7_fill_53178 4 none 11 (i_iload 12 2) := snd_iload_n rfl dJ7_fill_53178_11
theorem sJ7_fill_53178_12 : Snd (miT Tb) RJ7 cJ7_fill_53178 4 none 12 (i_iload 13 1) := snd_iload_n rfl dJ7_fill_53178_12
theorem sJ7_fill_53178_13 : Snd (miT Tb) RJ7 cJ7_fill_53178 4 none 13 (i_iast 14) := snd_iast dJ7_fill_53178_13
theorem sJ7_fill_53178_14 : Snd (miT Tb) RJ7 cJ7_fill_53178 4 none 14 (i_iinc 17 2 1) := snd_iinc (by decide) dJ7_fill_53178_14
theorem sJ7_fill_53178_17 : Snd (miT Tb) RJ7 cJ7_fill_53178 4 none 17 (i_goto 5) := snd_goto dJ7_fill_53178_17 rfl
theorem sJ7_fill_53178_20 : Snd (miT Tb) RJ7 cJ7_fill_53178 4 none 20 (i_vret) := snd_vret dJ7_fill_53178_20
theorem kJ7_fill_53178 : raA (okI (miT Tb) (yJ7_fill_53178, cJ7_fill_53178, 4, none)) tJ7_fill_53178 := (raA_br (raA_br (raA_br (raA_leaf sJ7_fill_53178_0) (raA_br (raA_leaf sJ7_fill_53178_1) (raA_leaf sJ7_fill_53178_2))) (raA_br (raA_br (raA_leaf sJ7_fill_53178_3) (raA_leaf sJ7_fill_53178_4)) (raA_br (raA_leaf sJ7_fill_53178_5) (raA_leaf sJ7_fill_53178_6)))) (raA_br (raA_br (raA_br (raA_leaf sJ7_fill_53178_7) (raA_leaf sJ7_fill_53178_10)) (raA_br (raA_leaf sJ7_fill_53178_11) (raA_leaf sJ7_fill_53178_12))) (raA_br (raA_br (raA_leaf sJ7_fill_53178_13) (raA_leaf sJ7_fill_53178_14)) (raA_br (raA_leaf sJ7_fill_53178_17) (raA_leaf sJ7_fill_53178_20)))))
theorem sX0_at_0 : Snd (miT Tb) RX0 cX0_at 4 (some .int) 0 (i_aload 1 0) := snd_aload_n rfl dX0_at_0
theorem sX0_at_1 : Snd (miT Tb) RX0 cX0_at 4 (some .int) 1 (i_iload 2 1) := snd_iload_n rfl dX0_at_1
theorem sX0_at_2 : Snd (miT Tb) RX0 cX0_at 4 (some .int) 2 (i_iload 3 2) := snd_iload_n rfl dX0_at_2
theorem sX0_at_3 : Snd (miT Tb) RX0 cX0_at 4 (some .int) 3 (i_iload 4 3) := snd_iload_n rfl dX0_at_3
theorem sX0_at_4 : Snd (miT Tb) RX0 cX0_at 4 (some .int) 4 (i_cV3 5 0 7) := snd_cV3 (fun hK hd hC ho hs h6 h7 h8 kk => iv_X0_58 hK (mc_5 hC) ho hs ⟨hd, by show _ ≤ 40 * (_ + 1); omega⟩ (Nat.le_refl _) h6 h7 h8 ⟨Nat.le_refl _, Nat.le_refl _⟩ dX0_at_4 kk)
theorem sX0_at_7 : Snd (miT Tb) RX0 cX0_at 4 (some .int) 7 (i_if_eq 10 38) := snd_if_eq dX0_at_7 rfl
theorem sX0_at_10 : Snd (miT Tb) RX0 cX0_at 4 (some .int) 10 (i_aload 11 0) := snd_aload_n rfl dX0_at_10
theorem sX0_at_11 : Snd (miT Tb) RX0 cX0_at 4 (some .int) 11 (i_getR 0 0 14) := snd_getR rfl (by decide) (by decide) (by decide) (fun hK ho hs hq kk => gf_X0_9 hK ho hs hq rfl dX0_at_11 kk)
theorem sX0_at_14 : Snd (miT Tb) RX0 cX0_at 4 (some .int) 14 (i_aload 15 0) := snd_aload_n rfl dX0_at_14
theorem sX0_at_15 : Snd (miT Tb) RX0 cX0_at 4 (some .int) 15 (i_getR 0 2 18) := snd_getR rfl (by decide) (by decide) (by decide) (fun hK ho hs hq kk => gf_X0_18 hK ho hs hq rfl dX0_at_15 kk)
theorem sX0_at_18 : Snd (miT Tb) RX0 cX0_at 4 (some .int) 18 (i_iload 19 1) := snd_iload_n rfl dX0_at_18
theorem sX0_at_19 : Snd (miT Tb) RX0 cX0_at 4 (some .int) 19 (i_iald 20) := snd_iald dX0_at_19
theorem sX0_at_20 : Snd (miT Tb) RX0 cX0_at 4 (some .int) 20 (i_iload 21 3) := snd_iload_n rfl dX0_at_20
theorem sX0_at_21 : Snd (miT Tb) RX0 cX0_at 4 (some .int) 21 (i_iadd 22) := snd_iadd dX0_at_21
theorem sX0_at_22 : Snd (miT Tb) RX0 cX0_at 4 (some .int) 22 (i_const 24 (vI 8)) := snd_bipush (by decide) dX0_at_22
theorem sX0_at_24 : Snd (miT Tb) RX0 cX0_at 4 (some .int) 24 (i_imul 25) := snd_imul dX0_at_24
theorem sX0_at_25 : Snd (miT Tb) RX0 cX0_at 4 (some .int) 25 (i_aload 26 0) := snd_aload_n rfl dX0_at_25
theorem sX0_at_26 : Snd (miT Tb) RX0 cX0_at 4 (some .int) 26 (i_getR 0 1 29) := snd_getR rfl (by decide) (by decide) (by decide) (fun hK ho hs hq kk => gf_X0_15 hK ho hs hq rfl dX0_at_26 kk)
theorem sX0_at_29 : Snd (miT Tb) RX0 cX0_at 4 (some .int) 29 (i_iload 30 1) := snd_iload_n rfl dX0_at_29
theorem sX0_at_30 : Snd (miT Tb) RX0 cX0_at 4 (some .int) 30 (i_iald 31) := snd_iald dX0_at_30
theorem sX0_at_31 : Snd (miT Tb) RX0 cX0_at 4 (some .int) 31 (i_iadd 32) := snd_iadd dX0_at_31
theorem sX0_at_32 : Snd (miT Tb) RX0 cX0_at 4 (some .int) 32 (i_iload 33 2) := snd_iload_n rfl dX0_at_32
theorem sX0_at_33 : Snd (miT Tb) RX0 cX0_at 4 (some .int) 33 (i_iadd 34) := snd_iadd dX0_at_33
theorem sX0_at_34 : Snd (miT Tb) RX0 cX0_at 4 (some .int) 34 (i_iald 35) := snd_iald dX0_at_34
theorem sX0_at_35 : Snd (miT Tb) RX0 cX0_at 4 (some .int) 35 (i_goto 40) := snd_goto dX0_at_35 rfl
theorem sX0_at_38 : Snd (miT Tb) RX0 cX0_at 4 (some .int) 38 (i_const 40 (vI (-100000))) := snd_ldc lc_X0_62 dX0_at_38
theorem sX0_at_40 : Snd (miT Tb) RX0 cX0_at 4 (some .int) 40 (i_iret) := snd_iret dX0_at_40
theorem kX0_at : raA (okI (miT Tb) (yX0_at, cX0_at, 4, (some .int))) tX0_at := (raA_br (raA_br (raA_br (raA_br (raA_leaf sX0_at_0) (raA_br (raA_leaf sX0_at_1) (raA_leaf sX0_at_2))) (raA_br (raA_leaf sX0_at_3) (raA_br (raA_leaf sX0_at_4) (raA_leaf sX0_at_7)))) (raA_br (raA_br (raA_leaf sX0_at_10) (raA_br (raA_leaf sX0_at_11) (raA_leaf sX0_at_14))) (raA_br (raA_br (raA_leaf sX0_at_15) (raA_leaf sX0_at_18)) (raA_br (raA_leaf sX0_at_19) (raA_leaf sX0_at_20))))) (raA_br (raA_br (raA_br (raA_leaf sX0_at_21) (raA_br (raA_leaf sX0_at_22) (raA_leaf sX0_at_24))) (raA_br (raA_br (raA_leaf sX0_at_25) (raA_leaf sX0_at_26)) (raA_br (raA_leaf sX0_at_29) (raA_leaf sX0_at_30)))) (raA_br (raA_br (raA_leaf sX0_at_31) (raA_br (raA_leaf sX0_at_32) (raA_leaf sX0_at_33))) (raA_br (raA_br (raA_leaf sX0_at_34) (raA_leaf sX0_at_35)) (raA_br (raA_leaf sX0_at_38) (raA_leaf sX0_at_40))))))
theorem sX0_goForth_0 : Snd (miT Tb) RX0 cX0_goForth 5 none 0 (i_const 1 (vI 0)) := snd_iconst dX0_goForth_0
theorem sX0_goForth_1 : Snd (miT Tb) RX0 cX0_goForth 5 none 1 (i_istore 2 1) := snd_istore_n rfl (by decide) dX0_goForth_1
theorem sX0_goForth_2 : Snd (miT Tb) RX0 cX0_goForth 5 none 2 (i_iload 3 1) := snd_iload_n rfl dX0_goForth_2
theorem sX0_goForth_3 : Snd (miT Tb) RX0 cX0_goForth 5 none 3 (i_aload 4 0) := snd_aload_n rfl dX0_goForth_3
theorem sX0_goForth_4 : Snd (miT Tb) RX0 cX0_goForth 5 none 4 (i_getI 0 9 7) := snd_getI (fun hK ho hs hv kk => gf_X0_40 hK ho hs hv dX0_goForth_4 kk)
theorem sX0_goForth_7 : Snd (miT Tb) RX0 cX0_goForth 5 none 7 (i_icmp_ge 10 84) := snd_icmp_ge dX0_goForth_7 rfl
theorem sX0_goForth_10 : Snd (miT Tb) RX0 cX0_goForth 5 none 10 (i_aload 11 0) := snd_aload_n rfl dX0_goForth_10
theorem sX0_goForth_11 : Snd (miT Tb) RX0 cX0_goForth 5 none 11 (i_getI 0 7 14) := snd_getI (fun hK ho hs hv kk => gf_X0_33 hK ho hs hv dX0_goForth_11 kk)
theorem sX0_goForth_14 : Snd (miT Tb) RX0 cX0_goForth 5 none 14 (i_iload 15 1) := snd_iload_n rfl dX0_goForth_14
theorem sX0_goForth_15 : Snd (miT Tb) RX0 cX0_goForth 5 none 15 (i_cS2 11 18) := snd_cS2 (fun hK hd hC h6 h7 h8 kk => iv_X0_46 hK (mc_11 hC) ⟨hd, by show _ ≤ 40 * (_ + 1); omega⟩ (Nat.le_refl _) h6 h7 h8 ⟨Nat.le_refl _, Nat.le_refl _⟩ dX0_goForth_15 kk)
theorem sX0_goForth_18 : Snd (miT Tb) RX0 cX0_goForth 5 none 18 (i_istore 19 2) := snd_istore_n rfl (by decide) dX0_goForth_18
theorem sX0_goForth_19 : Snd (miT Tb) RX0 cX0_goForth 5 none 19 (i_aload 20 0) := snd_aload_n rfl dX0_goForth_19
theorem sX0_goForth_20 : Snd (miT Tb) RX0 cX0_goForth 5 none 20 (i_getI 0 8 23) := snd_getI (fun hK ho hs hv kk => gf_X0_37 hK ho hs hv dX0_goForth_20 kk)
theorem sX0_goForth_23 : Snd (miT Tb) RX0 cX0_goForth 5 none 23 (i_iload 24 1) := snd_iload_n rfl dX0_goForth_23
theorem sX0_goForth_24 : Snd (miT Tb) RX0 cX0_goForth 5 none 24 (i_cS2 11 27) := snd_cS2 (fun hK hd hC h6 h7 h8 kk => iv_X0_46 hK (mc_11 hC) ⟨hd, by show _ ≤ 40 * (_ + 1); omega⟩ (Nat.le_refl _) h6 h7 h8 ⟨Nat.le_refl _, Nat.le_refl _⟩ dX0_goForth_24 kk)
theorem sX0_goForth_27 : Snd (miT Tb) RX0 cX0_goForth 5 none 27 (i_istore 28 3) := snd_istore_n rfl (by decide) dX0_goForth_27
theorem sX0_goForth_28 : Snd (miT Tb) RX0 cX0_goForth 5 none 28 (i_const 29 (vI 0)) := snd_iconst dX0_goForth_28
theorem sX0_goForth_29 : Snd (miT Tb) RX0 cX0_goForth 5 none 29 (i_istore 31 4) := snd_istore (by decide) dX0_goForth_29
theorem sX0_goForth_31 : Snd (miT Tb) RX0 cX0_goForth 5 none 31 (i_iload 33 4) := snd_iload dX0_goForth_31
theorem sX0_goForth_33 : Snd (miT Tb) RX0 cX0_goForth 5 none 33 (i_iload 34 2) := snd_iload_n rfl dX0_goForth_33
theorem sX0_goForth_34 : Snd (miT Tb) RX0 cX0_goForth 5 none 34 (i_icmp_ge 37 52) := snd_icmp_ge dX0_goForth_34 rfl
theorem sX0_goForth_37 : Snd (miT Tb) RX0 cX0_goForth 5 none 37 (i_aload 38 0) := snd_aload_n rfl dX0_goForth_37
theorem sX0_goForth_38 : Snd (miT Tb) RX0 cX0_goForth 5 none 38 (i_iload 40 4) := snd_iload dX0_goForth_38
theorem sX0_goForth_40 : Snd (miT Tb) RX0 cX0_goForth 5 none 40 (i_const 42 (vI 8)) := snd_bipush (by decide) dX0_goForth_40
theorem sX0_goForth_42 : Snd (miT Tb) RX0 cX0_goForth 5 none 42 (i_iload 43 3) := snd_iload_n rfl dX0_goForth_42
theorem sX0_goForth_43 : Snd (miT Tb) RX0 cX0_goForth 5 none 43 (i_cV3 12 0 46) := snd_cV3 (fun hK hd hC ho hs h6 h7 h8 kk => iv_X0_84 hK (mc_12 hC) ho hs ⟨hd, by show _ ≤ 40 * (_ + 1); omega⟩ (Nat.le_refl _) h6 h7 h8 ⟨Nat.le_refl _, Nat.le_refl _⟩ dX0_goForth_43 kk)
theorem sX0_goForth_46 : Snd (miT Tb) RX0 cX0_goForth 5 none 46 (i_iinc 49 4 1) := snd_iinc (by decide) dX0_goForth_46
theorem sX0_goForth_49 : Snd (miT Tb) RX0 cX0_goForth 5 none 49 (i_goto 31) := snd_goto dX0_goForth_49 rfl
theorem sX0_goForth_52 : Snd (miT Tb) RX0 cX0_goForth 5 none 52 (i_const 53 (vI 0)) := snd_iconst dX0_goForth_52
theorem sX0_goForth_53 : Snd (miT Tb) RX0 cX0_goForth 5 none 53 (i_istore 55 4) := snd_istore (by decide) dX0_goForth_53
theorem sX0_goForth_55 : Snd (miT Tb) RX0 cX0_goForth 5 none 55 (i_iload 57 4) := snd_iload dX0_goForth_55
theorem sX0_goForth_57 : Snd (miT Tb) RX0 cX0_goForth 5 none 57 (i_iload 58 3) := snd_iload_n rfl dX0_goForth_57
theorem sX0_goForth_58 : Snd (miT Tb) RX0 cX0_goForth 5 none 58 (i_icmp_ge 61 78) := snd_icmp_ge dX0_goForth_58 rfl
theorem sX0_goForth_61 : Snd (miT Tb) RX0 cX0_goForth 5 none 61 (i_aload 62 0) := snd_aload_n rfl dX0_goForth_61
theorem sX0_goForth_62 : Snd (miT Tb) RX0 cX0_goForth 5 none 62 (i_iload 64 4) := snd_iload dX0_goForth_62
theorem sX0_goForth_64 : Snd (miT Tb) RX0 cX0_goForth 5 none 64 (i_const 66 (vI 8)) := snd_bipush (by decide) dX0_goForth_64
theorem sX0_goForth_66 : Snd (miT Tb) RX0 cX0_goForth 5 none 66 (i_imul 67) := snd_imul dX0_goForth_66
theorem sX0_goForth_67 : Snd (miT Tb) RX0 cX0_goForth 5 none 67 (i_const 68 (vI 1)) := snd_iconst dX0_goForth_67
theorem sX0_goForth_68 : Snd (miT Tb) RX0 cX0_goForth 5 none 68 (i_iload 69 2) := snd_iload_n rfl dX0_goForth_68
theorem sX0_goForth_69 : Snd (miT Tb) RX0 cX0_goForth 5 none 69 (i_cV3 12 0 72) := snd_cV3 (fun hK hd hC ho hs h6 h7 h8 kk => iv_X0_84 hK (mc_12 hC) ho hs ⟨hd, by show _ ≤ 40 * (_ + 1); omega⟩ (Nat.le_refl _) h6 h7 h8 ⟨Nat.le_refl _, Nat.le_refl _⟩ dX0_goForth_69 kk)
theorem sX0_goForth_72 : Snd (miT Tb) RX0 cX0_goForth 5 none 72 (i_iinc 75 4 1) := snd_iinc (by decide) dX0_goForth_72
theorem sX0_goForth_75 : Snd (miT Tb) RX0 cX0_goForth 5 none 75 (i_goto 55) := snd_goto dX0_goForth_75 rfl
theorem sX0_goForth_78 : Snd (miT Tb) RX0 cX0_goForth 5 none 78 (i_iinc 81 1 1) := snd_iinc (by decide) dX0_goForth_78
theorem sX0_goForth_81 : Snd (miT Tb) RX0 cX0_goForth 5 none 81 (i_goto 2) := snd_goto dX0_goForth_81 rfl
theorem sX0_goForth_84 : Snd (miT Tb) RX0 cX0_goForth 5 none 84 (i_vret) := snd_vret dX0_goForth_84
theorem kX0_goForth : raA (okI (miT Tb) (yX0_goForth, cX0_goForth, 5, none)) tX0_goForth := (raA_br (raA_br (raA_br (raA_br (raA_br (raA_leaf sX0_goForth_0) (raA_leaf sX0_goForth_1)) (raA_br (raA_leaf sX0_goForth_2) (raA_br (raA_leaf sX0_goForth_3) (raA_leaf sX0_goForth_4)))) (raA_br (raA_br (raA_leaf sX0_goForth_7) (raA_br (raA_leaf sX0_goForth_10) (raA_leaf sX0_goForth_11))) (raA_br (raA_leaf sX0_goForth_14) (raA_br (raA_leaf sX0_goForth_15) (raA_leaf sX0_goForth_18))))) (raA_br (raA_br (raA_br (raA_leaf sX0_goForth_19) (raA_leaf sX0_goForth_20)) (raA_br (raA_leaf sX0_goForth_23) (raA_br (raA_leaf sX0_goForth_24) (raA_leaf sX0_goForth_27)))) (raA_br (raA_br (raA_leaf sX0_goForth_28) (raA_br (raA_leaf sX0_goForth_29) (raA_leaf sX0_goForth_31))) (raA_br (raA_leaf sX0_goForth_33) (raA_br (raA_leaf sX0_goForth_34) (raA_leaf sX0_goForth_37)))))) (raA_br (raA_br (raA_br (raA_br (raA_leaf sX0_goForth_38) (raA_leaf sX0_goForth_40)) (raA_br (raA_leaf sX0_goForth_42) (raA_br (raA_leaf sX0_goForth_43) (raA_leaf sX0_goForth_46)))) (raA_br (raA_br (raA_leaf sX0_goForth_49) (raA_br (raA_leaf sX0_goForth_52) (raA_leaf sX0_goForth_53))) (raA_br (raA_leaf sX0_goForth_55) (raA_br (raA_leaf sX0_goForth_57) (raA_leaf sX0_goForth_58))))) (raA_br (raA_br (raA_br (raA_leaf sX0_goForth_61) (raA_br (raA_leaf sX0_goForth_62) (raA_leaf sX0_goForth_64))) (raA_br (raA_leaf sX0_goForth_66) (raA_br (raA_leaf sX0_goForth_67) (raA_leaf sX0_goForth_68)))) (raA_br (raA_br (raA_leaf sX0_goForth_69) (raA_br (raA_leaf sX0_goForth_72) (raA_leaf sX0_goForth_75))) (raA_br (raA_leaf sX0_goForth_78) (raA_br (raA_leaf sX0_goForth_81) (raA_leaf sX0_goForth_84)))))))
theorem sX0_hasBand_0 : Snd (miT Tb) RX0 cX0_hasBand 2 (some .boolean) 0 (i_iload 1 1) := snd_iload_n rfl dX0_hasBand_0
theorem sX0_hasBand_1 : Snd (miT Tb) RX0 cX0_hasBand 2 (some .boolean) 1 (i_if_lt 4 16) := snd_if_lt dX0_hasBand_1 rfl
theorem sX0_hasBand_4 : Snd (miT Tb) RX0 cX0_hasBand 2 (some .boolean) 4 (i_iload 5 1) := snd_iload_n rfl dX0_hasBand_4
theorem sX0_hasBand_5 : Snd (miT Tb) RX0 cX0_hasBand 2 (some .boolean) 5 (i_aload 6 0) := snd_aload_n rfl dX0_hasBand_5
theorem sX0_hasBand_6 : Snd (miT Tb) RX0 cX0_hasBand 2 (some .boolean) 6 (i_getI 0 10 9) := snd_getI (fun hK ho hs hv kk => gf_X0_43 hK ho hs hv dX0_hasBand_6 kk)
theorem sX0_hasBand_9 : Snd (miT Tb) RX0 cX0_hasBand 2 (some .boolean) 9 (i_icmp_ge 12 16) := snd_icmp_ge dX0_hasBand_9 rfl
theorem sX0_hasBand_12 : Snd (miT Tb) RX0 cX0_hasBand 2 (some .boolean) 12 (i_const 13 (vI 1)) := snd_iconst dX0_hasBand_12
theorem sX0_hasBand_13 : Snd (miT Tb) RX0 cX0_hasBand 2 (some .boolean) 13 (i_goto 17) := snd_goto dX0_hasBand_13 rfl
theorem sX0_hasBand_16 : Snd (miT Tb) RX0 cX0_hasBand 2 (some .boolean) 16 (i_const 17 (vI 0)) := snd_iconst dX0_hasBand_16
theorem sX0_hasBand_17 : Snd (miT Tb) RX0 cX0_hasBand 2 (some .boolean) 17 (i_zret) := snd_zret dX0_hasBand_17
theorem kX0_hasBand : raA (okI (miT Tb) (yX0_hasBand, cX0_hasBand, 2, (some .boolean))) tX0_hasBand := (raA_br (raA_br (raA_br (raA_leaf sX0_hasBand_0) (raA_leaf sX0_hasBand_1)) (raA_br (raA_leaf sX0_hasBand_4) (raA_br (raA_leaf sX0_hasBand_5) (raA_leaf sX0_hasBand_6)))) (raA_br (raA_br (raA_leaf sX0_hasBand_9) (raA_leaf sX0_hasBand_12)) (raA_br (raA_leaf sX0_hasBand_13) (raA_br (raA_leaf sX0_hasBand_16) (raA_leaf sX0_hasBand_17)))))
theorem sX0_hasNumber_0 : Snd (miT Tb) RX0 cX0_hasNumber 4 (some .boolean) 0 (i_aload 1 0) := snd_aload_n rfl dX0_hasNumber_0
theorem sX0_hasNumber_1 : Snd (miT Tb) RX0 cX0_hasNumber 4 (some .boolean) 1 (i_iload 2 1) := snd_iload_n rfl dX0_hasNumber_1
theorem sX0_hasNumber_2 : Snd (miT Tb) RX0 cX0_hasNumber 4 (some .boolean) 2 (i_cV1 4 0 5) := snd_cV1 (fun hK hd hC ho hs h6 h7 h8 kk => iv_X0_54 hK (mc_4 hC) ho hs ⟨hd, by show _ ≤ 40 * (_ + 1); omega⟩ (Nat.le_refl _) h6 h7 h8 ⟨Nat.le_refl _, Nat.le_refl _⟩ dX0_hasNumber_2 kk)
theorem sX0_hasNumber_5 : Snd (miT Tb) RX0 cX0_hasNumber 4 (some .boolean) 5 (i_if_eq 8 40) := snd_if_eq dX0_hasNumber_5 rfl
theorem sX0_hasNumber_8 : Snd (miT Tb) RX0 cX0_hasNumber 4 (some .boolean) 8 (i_iload 9 2) := snd_iload_n rfl dX0_hasNumber_8
theorem sX0_hasNumber_9 : Snd (miT Tb) RX0 cX0_hasNumber 4 (some .boolean) 9 (i_if_lt 12 40) := snd_if_lt dX0_hasNumber_9 rfl
theorem sX0_hasNumber_12 : Snd (miT Tb) RX0 cX0_hasNumber 4 (some .boolean) 12 (i_iload 13 2) := snd_iload_n rfl dX0_hasNumber_12
theorem sX0_hasNumber_13 : Snd (miT Tb) RX0 cX0_hasNumber 4 (some .boolean) 13 (i_aload 14 0) := snd_aload_n rfl dX0_hasNumber_13
theorem sX0_hasNumber_14 : Snd (miT Tb) RX0 cX0_hasNumber 4 (some .boolean) 14 (i_getR 0 3 17) := snd_getR rfl (by decide) (by decide) (by decide) (fun hK ho hs hq kk => gf_X0_21 hK ho hs hq rfl dX0_hasNumber_14 kk)
theorem sX0_hasNumber_17 : Snd (miT Tb) RX0 cX0_hasNumber 4 (some .boolean) 17 (i_iload 18 1) := snd_iload_n rfl dX0_hasNumber_17
theorem sX0_hasNumber_18 : Snd (miT Tb) RX0 cX0_hasNumber 4 (some .boolean) 18 (i_iald 19) := snd_iald dX0_hasNumber_18
theorem sX0_hasNumber_19 : Snd (miT Tb) RX0 cX0_hasNumber 4 (some .boolean) 19 (i_icmp_ge 22 40) := snd_icmp_ge dX0_hasNumber_19 rfl
theorem sX0_hasNumber_22 : Snd (miT Tb) RX0 cX0_hasNumber 4 (some .boolean) 22 (i_iload 23 3) := snd_iload_n rfl dX0_hasNumber_22
theorem sX0_hasNumber_23 : Snd (miT Tb) RX0 cX0_hasNumber 4 (some .boolean) 23 (i_if_lt 26 40) := snd_if_lt dX0_hasNumber_23 rfl
theorem sX0_hasNumber_26 : Snd (miT Tb) RX0 cX0_hasNumber 4 (some .boolean) 26 (i_iload 27 3) := snd_iload_n rfl dX0_hasNumber_26
theorem sX0_hasNumber_27 : Snd (miT Tb) RX0 cX0_hasNumber 4 (some .boolean) 27 (i_aload 28 0) := snd_aload_n rfl dX0_hasNumber_27
theorem sX0_hasNumber_28 : Snd (miT Tb) RX0 cX0_hasNumber 4 (some .boolean) 28 (i_getR 0 4 31) := snd_getR rfl (by decide) (by decide) (by decide) (fun hK ho hs hq kk => gf_X0_24 hK ho hs hq rfl dX0_hasNumber_28 kk)
theorem sX0_hasNumber_31 : Snd (miT Tb) RX0 cX0_hasNumber 4 (some .boolean) 31 (i_iload 32 1) := snd_iload_n rfl dX0_hasNumber_31
theorem sX0_hasNumber_32 : Snd (miT Tb) RX0 cX0_hasNumber 4 (some .boolean) 32 (i_iald 33) := snd_iald dX0_hasNumber_32
theorem sX0_hasNumber_33 : Snd (miT Tb) RX0 cX0_hasNumber 4 (some .boolean) 33 (i_icmp_ge 36 40) := snd_icmp_ge dX0_hasNumber_33 rfl
theorem sX0_hasNumber_36 : Snd (miT Tb) RX0 cX0_hasNumber 4 (some .boolean) 36 (i_const 37 (vI 1)) := snd_iconst dX0_hasNumber_36
theorem sX0_hasNumber_37 : Snd (miT Tb) RX0 cX0_hasNumber 4 (some .boolean) 37 (i_goto 41) := snd_goto dX0_hasNumber_37 rfl
theorem sX0_hasNumber_40 : Snd (miT Tb) RX0 cX0_hasNumber 4 (some .boolean) 40 (i_const 41 (vI 0)) := snd_iconst dX0_hasNumber_40
theorem sX0_hasNumber_41 : Snd (miT Tb) RX0 cX0_hasNumber 4 (some .boolean) 41 (i_zret) := snd_zret dX0_hasNumber_41
theorem kX0_hasNumber : raA (okI (miT Tb) (yX0_hasNumber, cX0_hasNumber, 4, (some .boolean))) tX0_hasNumber := (raA_br (raA_br (raA_br (raA_br (raA_leaf sX0_hasNumber_0) (raA_br (raA_leaf sX0_hasNumber_1) (raA_leaf sX0_hasNumber_2))) (raA_br (raA_leaf sX0_hasNumber_5) (raA_br (raA_leaf sX0_hasNumber_8) (raA_leaf sX0_hasNumber_9)))) (raA_br (raA_br (raA_leaf sX0_hasNumber_12) (raA_br (raA_leaf sX0_hasNumber_13) (raA_leaf sX0_hasNumber_14))) (raA_br (raA_leaf sX0_hasNumber_17) (raA_br (raA_leaf sX0_hasNumber_18) (raA_leaf sX0_hasNumber_19))))) (raA_br (raA_br (raA_br (raA_leaf sX0_hasNumber_22) (raA_br (raA_leaf sX0_hasNumber_23) (raA_leaf sX0_hasNumber_26))) (raA_br (raA_leaf sX0_hasNumber_27) (raA_br (raA_leaf sX0_hasNumber_28) (raA_leaf sX0_hasNumber_31)))) (raA_br (raA_br (raA_leaf sX0_hasNumber_32) (raA_br (raA_leaf sX0_hasNumber_33) (raA_leaf sX0_hasNumber_36))) (raA_br (raA_leaf sX0_hasNumber_37) (raA_br (raA_leaf sX0_hasNumber_40) (raA_leaf sX0_hasNumber_41))))))
theorem sX0_isEmpty_0 : Snd (miT Tb) RX0 cX0_isEmpty 2 (some .boolean) 0 (i_aload 1 0) := snd_aload_n rfl dX0_isEmpty_0
theorem sX0_isEmpty_1 : Snd (miT Tb) RX0 cX0_isEmpty 2 (some .boolean) 1 (i_getR 0 3 4) := snd_getR rfl (by decide) (by decide) (by decide) (fun hK ho hs hq kk => gf_X0_21 hK ho hs hq rfl dX0_isEmpty_1 kk)
theorem sX0_isEmpty_4 : Snd (miT Tb) RX0 cX0_isEmpty 2 (some .boolean) 4 (i_iload 5 1) := snd_iload_n rfl dX0_isEmpty_4
theorem sX0_isEmpty_5 : Snd (miT Tb) RX0 cX0_isEmpty 2 (some .boolean) 5 (i_iald 6) := snd_iald dX0_isEmpty_5
theorem sX0_isEmpty_6 : Snd (miT Tb) RX0 cX0_isEmpty 2 (some .boolean) 6 (i_if_eq 9 18) := snd_if_eq dX0_isEmpty_6 rfl
theorem sX0_isEmpty_9 : Snd (miT Tb) RX0 cX0_isEmpty 2 (some .boolean) 9 (i_aload 10 0) := snd_aload_n rfl dX0_isEmpty_9
theorem sX0_isEmpty_10 : Snd (miT Tb) RX0 cX0_isEmpty 2 (some .boolean) 10 (i_getR 0 4 13) := snd_getR rfl (by decide) (by decide) (by decide) (fun hK ho hs hq kk => gf_X0_24 hK ho hs hq rfl dX0_isEmpty_10 kk)
theorem sX0_isEmpty_13 : Snd (miT Tb) RX0 cX0_isEmpty 2 (some .boolean) 13 (i_iload 14 1) := snd_iload_n rfl dX0_isEmpty_13
theorem sX0_isEmpty_14 : Snd (miT Tb) RX0 cX0_isEmpty 2 (some .boolean) 14 (i_iald 15) := snd_iald dX0_isEmpty_14
theorem sX0_isEmpty_15 : Snd (miT Tb) RX0 cX0_isEmpty 2 (some .boolean) 15 (i_if_ne 18 22) := snd_if_ne dX0_isEmpty_15 rfl
theorem sX0_isEmpty_18 : Snd (miT Tb) RX0 cX0_isEmpty 2 (some .boolean) 18 (i_const 19 (vI 1)) := snd_iconst dX0_isEmpty_18
theorem sX0_isEmpty_19 : Snd (miT Tb) RX0 cX0_isEmpty 2 (some .boolean) 19 (i_goto 23) := snd_goto dX0_isEmpty_19 rfl
theorem sX0_isEmpty_22 : Snd (miT Tb) RX0 cX0_isEmpty 2 (some .boolean) 22 (i_const 23 (vI 0)) := snd_iconst dX0_isEmpty_22
theorem sX0_isEmpty_23 : Snd (miT Tb) RX0 cX0_isEmpty 2 (some .boolean) 23 (i_zret) := snd_zret dX0_isEmpty_23
theorem kX0_isEmpty : raA (okI (miT Tb) (yX0_isEmpty, cX0_isEmpty, 2, (some .boolean))) tX0_isEmpty := (raA_br (raA_br (raA_br (raA_leaf sX0_isEmpty_0) (raA_br (raA_leaf sX0_isEmpty_1) (raA_leaf sX0_isEmpty_4))) (raA_br (raA_br (raA_leaf sX0_isEmpty_5) (raA_leaf sX0_isEmpty_6)) (raA_br (raA_leaf sX0_isEmpty_9) (raA_leaf sX0_isEmpty_10)))) (raA_br (raA_br (raA_leaf sX0_isEmpty_13) (raA_br (raA_leaf sX0_isEmpty_14) (raA_leaf sX0_isEmpty_15))) (raA_br (raA_br (raA_leaf sX0_isEmpty_18) (raA_leaf sX0_isEmpty_19)) (raA_br (raA_leaf sX0_isEmpty_22) (raA_leaf sX0_isEmpty_23)))))
theorem sX0_kindOf_0 : Snd (miT Tb) RX0 cX0_kindOf 3 (some .int) 0 (i_iload 1 1) := snd_iload_n rfl dX0_kindOf_0
theorem sX0_kindOf_1 : Snd (miT Tb) RX0 cX0_kindOf 3 (some .int) 1 (i_if_ne 4 6) := snd_if_ne dX0_kindOf_1 rfl
theorem sX0_kindOf_4 : Snd (miT Tb) RX0 cX0_kindOf 3 (some .int) 4 (i_const 5 (vI 0)) := snd_iconst dX0_kindOf_4
theorem sX0_kindOf_5 : Snd (miT Tb) RX0 cX0_kindOf 3 (some .int) 5 (i_iret) := snd_iret dX0_kindOf_5
theorem sX0_kindOf_6 : Snd (miT Tb) RX0 cX0_kindOf 3 (some .int) 6 (i_iload 7 1) := snd_iload_n rfl dX0_kindOf_6
theorem sX0_kindOf_7 : Snd (miT Tb) RX0 cX0_kindOf 3 (some .int) 7 (i_const 8 (vI 1)) := snd_iconst dX0_kindOf_7
theorem sX0_kindOf_8 : Snd (miT Tb) RX0 cX0_kindOf 3 (some .int) 8 (i_isub 9) := snd_isub dX0_kindOf_8
theorem sX0_kindOf_9 : Snd (miT Tb) RX0 cX0_kindOf 3 (some .int) 9 (i_const 10 (vI 3)) := snd_iconst dX0_kindOf_9
theorem sX0_kindOf_10 : Snd (miT Tb) RX0 cX0_kindOf 3 (some .int) 10 (i_irem 11) := snd_irem dX0_kindOf_10
theorem sX0_kindOf_11 : Snd (miT Tb) RX0 cX0_kindOf 3 (some .int) 11 (i_istore 12 2) := snd_istore_n rfl (by decide) dX0_kindOf_11
theorem sX0_kindOf_12 : Snd (miT Tb) RX0 cX0_kindOf 3 (some .int) 12 (i_iload 13 2) := snd_iload_n rfl dX0_kindOf_12
theorem sX0_kindOf_13 : Snd (miT Tb) RX0 cX0_kindOf 3 (some .int) 13 (i_if_ne 16 20) := snd_if_ne dX0_kindOf_13 rfl
theorem sX0_kindOf_16 : Snd (miT Tb) RX0 cX0_kindOf 3 (some .int) 16 (i_const 17 (vI 1)) := snd_iconst dX0_kindOf_16
theorem sX0_kindOf_17 : Snd (miT Tb) RX0 cX0_kindOf 3 (some .int) 17 (i_goto 30) := snd_goto dX0_kindOf_17 rfl
theorem sX0_kindOf_20 : Snd (miT Tb) RX0 cX0_kindOf 3 (some .int) 20 (i_iload 21 2) := snd_iload_n rfl dX0_kindOf_20
theorem sX0_kindOf_21 : Snd (miT Tb) RX0 cX0_kindOf 3 (some .int) 21 (i_const 22 (vI 1)) := snd_iconst dX0_kindOf_21
theorem sX0_kindOf_22 : Snd (miT Tb) RX0 cX0_kindOf 3 (some .int) 22 (i_icmp_ne 25 29) := snd_icmp_ne dX0_kindOf_22 rfl
theorem sX0_kindOf_25 : Snd (miT Tb) RX0 cX0_kindOf 3 (some .int) 25 (i_const 26 (vI 0)) := snd_iconst dX0_kindOf_25
theorem sX0_kindOf_26 : Snd (miT Tb) RX0 cX0_kindOf 3 (some .int) 26 (i_goto 30) := snd_goto dX0_kindOf_26 rfl
theorem sX0_kindOf_29 : Snd (miT Tb) RX0 cX0_kindOf 3 (some .int) 29 (i_const 30 (vI 2)) := snd_iconst dX0_kindOf_29
theorem sX0_kindOf_30 : Snd (miT Tb) RX0 cX0_kindOf 3 (some .int) 30 (i_iret) := snd_iret dX0_kindOf_30
theorem kX0_kindOf : raA (okI (miT Tb) (yX0_kindOf, cX0_kindOf, 3, (some .int))) tX0_kindOf := (raA_br (raA_br (raA_br (raA_br (raA_leaf sX0_kindOf_0) (raA_leaf sX0_kindOf_1)) (raA_br (raA_leaf sX0_kindOf_4) (raA_br (raA_leaf sX0_kindOf_5) (raA_leaf sX0_kindOf_6)))) (raA_br (raA_br (raA_leaf sX0_kindOf_7) (raA_leaf sX0_kindOf_8)) (raA_br (raA_leaf sX0_kindOf_9) (raA_br (raA_leaf sX0_kindOf_10) (raA_leaf sX0_kindOf_11))))) (raA_br (raA_br (raA_br (raA_leaf sX0_kindOf_12) (raA_leaf sX0_kindOf_13)) (raA_br (raA_leaf sX0_kindOf_16) (raA_br (raA_leaf sX0_kindOf_17) (raA_leaf sX0_kindOf_20)))) (raA_br (raA_br (raA_leaf sX0_kindOf_21) (raA_br (raA_leaf sX0_kindOf_22) (raA_leaf sX0_kindOf_25))) (raA_br (raA_leaf sX0_kindOf_26) (raA_br (raA_leaf sX0_kindOf_29) (raA_leaf sX0_kindOf_30))))))
theorem sX0_lay_0 : Snd (miT Tb) RX0 cX0_lay 10 none 0 (i_aload 1 0) := snd_aload_n rfl dX0_lay_0
theorem sX0_lay_1 : Snd (miT Tb) RX0 cX0_lay 10 none 1 (i_iload 2 1) := snd_iload_n rfl dX0_lay_1
theorem sX0_lay_2 : Snd (miT Tb) RX0 cX0_lay 10 none 2 (i_putI 0 7 5) := snd_putI (fun hK ho hs kk => pf_X0_33 hK ho hs dX0_lay_2 kk)
theorem sX0_lay_5 : Snd (miT Tb) RX0 cX0_lay 10 none 5 (i_aload 6 0) := snd_aload_n rfl dX0_lay_5
theorem sX0_lay_6 : Snd (miT Tb) RX0 cX0_lay 10 none 6 (i_iload 7 2) := snd_iload_n rfl dX0_lay_6
theorem sX0_lay_7 : Snd (miT Tb) RX0 cX0_lay 10 none 7 (i_putI 0 8 10) := snd_putI (fun hK ho hs kk => pf_X0_37 hK ho hs dX0_lay_7 kk)
theorem sX0_lay_10 : Snd (miT Tb) RX0 cX0_lay 10 none 10 (i_aload 11 0) := snd_aload_n rfl dX0_lay_10
theorem sX0_lay_11 : Snd (miT Tb) RX0 cX0_lay 10 none 11 (i_iload 12 3) := snd_iload_n rfl dX0_lay_11
theorem sX0_lay_12 : Snd (miT Tb) RX0 cX0_lay 10 none 12 (i_putI 0 9 15) := snd_putI (fun hK ho hs kk => pf_X0_40 hK ho hs dX0_lay_12 kk)
theorem sX0_lay_15 : Snd (miT Tb) RX0 cX0_lay 10 none 15 (i_aload 16 0) := snd_aload_n rfl dX0_lay_15
theorem sX0_lay_16 : Snd (miT Tb) RX0 cX0_lay 10 none 16 (i_const 17 (vI 3)) := snd_iconst dX0_lay_16
theorem sX0_lay_17 : Snd (miT Tb) RX0 cX0_lay 10 none 17 (i_aload 18 0) := snd_aload_n rfl dX0_lay_17
theorem sX0_lay_18 : Snd (miT Tb) RX0 cX0_lay 10 none 18 (i_getI 0 9 21) := snd_getI (fun hK ho hs hv kk => gf_X0_40 hK ho hs hv dX0_lay_18 kk)
theorem sX0_lay_21 : Snd (miT Tb) RX0 cX0_lay 10 none 21 (i_imul 22) := snd_imul dX0_lay_21
theorem sX0_lay_22 : Snd (miT Tb) RX0 cX0_lay 10 none 22 (i_const 23 (vI 1)) := snd_iconst dX0_lay_22
theorem sX0_lay_23 : Snd (miT Tb) RX0 cX0_lay 10 none 23 (i_iadd 24) := snd_iadd dX0_lay_23
theorem sX0_lay_24 : Snd (miT Tb) RX0 cX0_lay 10 none 24 (i_putI 0 10 27) := snd_putI (fun hK ho hs kk => pf_X0_43 hK ho hs dX0_lay_24 kk)
theorem sX0_lay_27 : Snd (miT Tb) RX0 cX0_lay 10 none 27 (i_const 28 (vI 1)) := snd_iconst dX0_lay_27
theorem sX0_lay_28 : Snd (miT Tb) RX0 cX0_lay 10 none 28 (i_istore 30 4) := snd_istore (by decide) dX0_lay_28
theorem sX0_lay_30 : Snd (miT Tb) RX0 cX0_lay 10 none 30 (i_iload 32 4) := snd_iload dX0_lay_30
theorem sX0_lay_32 : Snd (miT Tb) RX0 cX0_lay 10 none 32 (i_aload 33 0) := snd_aload_n rfl dX0_lay_32
theorem sX0_lay_33 : Snd (miT Tb) RX0 cX0_lay 10 none 33 (i_getI 0 9 36) := snd_getI (fun hK ho hs hv kk => gf_X0_40 hK ho hs hv dX0_lay_33 kk)
theorem sX0_lay_36 : Snd (miT Tb) RX0 cX0_lay 10 none 36 (i_icmp_gt 39 162) := snd_icmp_gt dX0_lay_36 rfl
theorem sX0_lay_39 : Snd (miT Tb) RX0 cX0_lay 10 none 39 (i_const 40 (vI 3)) := snd_iconst dX0_lay_39
theorem sX0_lay_40 : Snd (miT Tb) RX0 cX0_lay 10 none 40 (i_aload 41 0) := snd_aload_n rfl dX0_lay_40
theorem sX0_lay_41 : Snd (miT Tb) RX0 cX0_lay 10 none 41 (i_getI 0 9 44) := snd_getI (fun hK ho hs hv kk => gf_X0_40 hK ho hs hv dX0_lay_41 kk)
theorem sX0_lay_44 : Snd (miT Tb) RX0 cX0_lay 10 none 44 (i_iload 46 4) := snd_iload dX0_lay_44
theorem sX0_lay_46 : Snd (miT Tb) RX0 cX0_lay 10 none 46 (i_isub 47) := snd_isub dX0_lay_46
theorem sX0_lay_47 : Snd (miT Tb) RX0 cX0_lay 10 none 47 (i_imul 48) := snd_imul dX0_lay_47
theorem sX0_lay_48 : Snd (miT Tb) RX0 cX0_lay 10 none 48 (i_const 49 (vI 1)) := snd_iconst dX0_lay_48
theorem sX0_lay_49 : Snd (miT Tb) RX0 cX0_lay 10 none 49 (i_iadd 50) := snd_iadd dX0_lay_49
theorem sX0_lay_50 : Snd (miT Tb) RX0 cX0_lay 10 none 50 (i_istore 52 5) := snd_istore (by decide) dX0_lay_50
theorem sX0_lay_52 : Snd (miT Tb) RX0 cX0_lay 10 none 52 (i_aload 53 0) := snd_aload_n rfl dX0_lay_52
theorem sX0_lay_53 : Snd (miT Tb) RX0 cX0_lay 10 none 53 (i_getI 0 7 56) := snd_getI (fun hK ho hs hv kk => gf_X0_33 hK ho hs hv dX0_lay_53 kk)
theorem sX0_lay_56 : Snd (miT Tb) RX0 cX0_lay 10 none 56 (i_iload 58 4) := snd_iload dX0_lay_56
theorem sX0_lay_58 : Snd (miT Tb) RX0 cX0_lay 10 none 58 (i_const 59 (vI 1)) := snd_iconst dX0_lay_58
theorem sX0_lay_59 : Snd (miT Tb) RX0 cX0_lay 10 none 59 (i_isub 60) := snd_isub dX0_lay_59
theorem sX0_lay_60 : Snd (miT Tb) RX0 cX0_lay 10 none 60 (i_cS2 11 63) := snd_cS2 (fun hK hd hC h6 h7 h8 kk => iv_X0_46 hK (mc_11 hC) ⟨hd, by show _ ≤ 40 * (_ + 1); omega⟩ (Nat.le_refl _) h6 h7 h8 ⟨Nat.le_refl _, Nat.le_refl _⟩ dX0_lay_60 kk)
theorem sX0_lay_63 : Snd (miT Tb) RX0 cX0_lay 10 none 63 (i_istore 65 6) := snd_istore (by decide) dX0_lay_63
theorem sX0_lay_65 : Snd (miT Tb) RX0 cX0_lay 10 none 65 (i_aload 66 0) := snd_aload_n rfl dX0_lay_65
theorem sX0_lay_66 : Snd (miT Tb) RX0 cX0_lay 10 none 66 (i_getI 0 8 69) := snd_getI (fun hK ho hs hv kk => gf_X0_37 hK ho hs hv dX0_lay_66 kk)
theorem sX0_lay_69 : Snd (miT Tb) RX0 cX0_lay 10 none 69 (i_iload 71 4) := snd_iload dX0_lay_69
theorem sX0_lay_71 : Snd (miT Tb) RX0 cX0_lay 10 none 71 (i_const 72 (vI 1)) := snd_iconst dX0_lay_71
theorem sX0_lay_72 : Snd (miT Tb) RX0 cX0_lay 10 none 72 (i_isub 73) := snd_isub dX0_lay_72
theorem sX0_lay_73 : Snd (miT Tb) RX0 cX0_lay 10 none 73 (i_cS2 11 76) := snd_cS2 (fun hK hd hC h6 h7 h8 kk => iv_X0_46 hK (mc_11 hC) ⟨hd, by show _ ≤ 40 * (_ + 1); omega⟩ (Nat.le_refl _) h6 h7 h8 ⟨Nat.le_refl _, Nat.le_refl _⟩ dX0_lay_73 kk)
theorem sX0_lay_76 : Snd (miT Tb) RX0 cX0_lay 10 none 76 (i_istore 78 7) := snd_istore (by decide) dX0_lay_76
theorem sX0_lay_78 : Snd (miT Tb) RX0 cX0_lay 10 none 78 (i_aload 79 0) := snd_aload_n rfl dX0_lay_78
theorem sX0_lay_79 : Snd (miT Tb) RX0 cX0_lay 10 none 79 (i_getI 0 7 82) := snd_getI (fun hK ho hs hv kk => gf_X0_33 hK ho hs hv dX0_lay_79 kk)
theorem sX0_lay_82 : Snd (miT Tb) RX0 cX0_lay 10 none 82 (i_iload 84 4) := snd_iload dX0_lay_82
theorem sX0_lay_84 : Snd (miT Tb) RX0 cX0_lay 10 none 84 (i_cS2 11 87) := snd_cS2 (fun hK hd hC h6 h7 h8 kk => iv_X0_46 hK (mc_11 hC) ⟨hd, by show _ ≤ 40 * (_ + 1); omega⟩ (Nat.le_refl _) h6 h7 h8 ⟨Nat.le_refl _, Nat.le_refl _⟩ dX0_lay_84 kk)
theorem sX0_lay_87 : Snd (miT Tb) RX0 cX0_lay 10 none 87 (i_istore 89 8) := snd_istore (by decide) dX0_lay_87
theorem sX0_lay_89 : Snd (miT Tb) RX0 cX0_lay 10 none 89 (i_aload 90 0) := snd_aload_n rfl dX0_lay_89
theorem sX0_lay_90 : Snd (miT Tb) RX0 cX0_lay 10 none 90 (i_getI 0 8 93) := snd_getI (fun hK ho hs hv kk => gf_X0_37 hK ho hs hv dX0_lay_90 kk)
theorem sX0_lay_93 : Snd (miT Tb) RX0 cX0_lay 10 none 93 (i_iload 95 4) := snd_iload dX0_lay_93
theorem sX0_lay_95 : Snd (miT Tb) RX0 cX0_lay 10 none 95 (i_cS2 11 98) := snd_cS2 (fun hK hd hC h6 h7 h8 kk => iv_X0_46 hK (mc_11 hC) ⟨hd, by show _ ≤ 40 * (_ + 1); omega⟩ (Nat.le_refl _) h6 h7 h8 ⟨Nat.le_refl _, Nat.le_refl _⟩ dX0_lay_95 kk)
theorem sX0_lay_98 : Snd (miT Tb) RX0 cX0_lay 10 none 98 (i_istore 100 9) := snd_istore (by decide) dX0_lay_98
theorem sX0_lay_100 : Snd (miT Tb) RX0 cX0_lay 10 none 100 (i_aload 101 0) := snd_aload_n rfl dX0_lay_100
theorem sX0_lay_101 : Snd (miT Tb) RX0 cX0_lay 10 none 101 (i_iload 103 5) := snd_iload dX0_lay_101
theorem sX0_lay_103 : Snd (miT Tb) RX0 cX0_lay 10 none 103 (i_iload 105 8) := snd_iload dX0_lay_103
theorem sX0_lay_105 : Snd (miT Tb) RX0 cX0_lay 10 none 105 (i_const 106 (vI 0)) := snd_iconst dX0_lay_105
theorem sX0_lay_106 : Snd (miT Tb) RX0 cX0_lay 10 none 106 (i_iload 108 6) := snd_iload dX0_lay_106
theorem sX0_lay_108 : Snd (miT Tb) RX0 cX0_lay 10 none 108 (i_iload 110 8) := snd_iload dX0_lay_108
theorem sX0_lay_110 : Snd (miT Tb) RX0 cX0_lay 10 none 110 (i_isub 111) := snd_isub dX0_lay_110
theorem sX0_lay_111 : Snd (miT Tb) RX0 cX0_lay 10 none 111 (i_iload 113 9) := snd_iload dX0_lay_111
theorem sX0_lay_113 : Snd (miT Tb) RX0 cX0_lay 10 none 113 (i_cV5 9 0 116) := snd_cV5 (fun hK hd hC ho hs h6 h7 h8 kk => iv_X0_50 hK (mc_9 hC) ho hs ⟨hd, by show _ ≤ 40 * (_ + 1); omega⟩ (Nat.le_refl _) h6 h7 h8 ⟨Nat.le_refl _, Nat.le_refl _⟩ dX0_lay_113 kk)
theorem sX0_lay_116 : Snd (miT Tb) RX0 cX0_lay 10 none 116 (i_aload 117 0) := snd_aload_n rfl dX0_lay_116
theorem sX0_lay_117 : Snd (miT Tb) RX0 cX0_lay 10 none 117 (i_iload 119 5) := snd_iload dX0_lay_117
theorem sX0_lay_119 : Snd (miT Tb) RX0 cX0_lay 10 none 119 (i_const 120 (vI 1)) := snd_iconst dX0_lay_119
theorem sX0_lay_120 : Snd (miT Tb) RX0 cX0_lay 10 none 120 (i_iadd 121) := snd_iadd dX0_lay_120
theorem sX0_lay_121 : Snd (miT Tb) RX0 cX0_lay 10 none 121 (i_const 122 (vI 0)) := snd_iconst dX0_lay_121
theorem sX0_lay_122 : Snd (miT Tb) RX0 cX0_lay 10 none 122 (i_iload 124 9) := snd_iload dX0_lay_122
theorem sX0_lay_124 : Snd (miT Tb) RX0 cX0_lay 10 none 124 (i_iload 126 8) := snd_iload dX0_lay_124
theorem sX0_lay_126 : Snd (miT Tb) RX0 cX0_lay 10 none 126 (i_iload 128 7) := snd_iload dX0_lay_126
theorem sX0_lay_128 : Snd (miT Tb) RX0 cX0_lay 10 none 128 (i_iload 130 9) := snd_iload dX0_lay_128
theorem sX0_lay_130 : Snd (miT Tb) RX0 cX0_lay 10 none 130 (i_isub 131) := snd_isub dX0_lay_130
theorem sX0_lay_131 : Snd (miT Tb) RX0 cX0_lay 10 none 131 (i_cV5 9 0 134) := snd_cV5 (fun hK hd hC ho hs h6 h7 h8 kk => iv_X0_50 hK (mc_9 hC) ho hs ⟨hd, by show _ ≤ 40 * (_ + 1); omega⟩ (Nat.le_refl _) h6 h7 h8 ⟨Nat.le_refl _, Nat.le_refl _⟩ dX0_lay_131 kk)
theorem sX0_lay_134 : Snd (miT Tb) RX0 cX0_lay 10 none 134 (i_aload 135 0) := snd_aload_n rfl dX0_lay_134
theorem sX0_lay_135 : Snd (miT Tb) RX0 cX0_lay 10 none 135 (i_iload 137 5) := snd_iload dX0_lay_135
theorem sX0_lay_137 : Snd (miT Tb) RX0 cX0_lay 10 none 137 (i_const 138 (vI 2)) := snd_iconst dX0_lay_137
theorem sX0_lay_138 : Snd (miT Tb) RX0 cX0_lay 10 none 138 (i_iadd 139) := snd_iadd dX0_lay_138
theorem sX0_lay_139 : Snd (miT Tb) RX0 cX0_lay 10 none 139 (i_iload 141 8) := snd_iload dX0_lay_139
theorem sX0_lay_141 : Snd (miT Tb) RX0 cX0_lay 10 none 141 (i_iload 143 9) := snd_iload dX0_lay_141
theorem sX0_lay_143 : Snd (miT Tb) RX0 cX0_lay 10 none 143 (i_iload 145 6) := snd_iload dX0_lay_143
theorem sX0_lay_145 : Snd (miT Tb) RX0 cX0_lay 10 none 145 (i_iload 147 8) := snd_iload dX0_lay_145
theorem sX0_lay_147 : Snd (miT Tb) RX0 cX0_lay 10 none 147 (i_isub 148) := snd_isub dX0_lay_147
theorem sX0_lay_148 : Snd (miT Tb) RX0 cX0_lay 10 none 148 (i_iload 150 7) := snd_iload dX0_lay_148
theorem sX0_lay_150 : Snd (miT Tb) RX0 cX0_lay 10 none 150 (i_iload 152 9) := snd_iload dX0_lay_150
theorem sX0_lay_152 : Snd (miT Tb) RX0 cX0_lay 10 none 152 (i_isub 153) := snd_isub dX0_lay_152
theorem sX0_lay_153 : Snd (miT Tb) RX0 cX0_lay 10 none 153 (i_cV5 9 0 156) := snd_cV5 (fun hK hd hC ho hs h6 h7 h8 kk => iv_X0_50 hK (mc_9 hC) ho hs ⟨hd, by show _ ≤ 40 * (_ + 1); omega⟩ (Nat.le_refl _) h6 h7 h8 ⟨Nat.le_refl _, Nat.le_refl _⟩ dX0_lay_153 kk)
theorem sX0_lay_156 : Snd (miT Tb) RX0 cX0_lay 10 none 156 (i_iinc 159 4 1) := snd_iinc (by decide) dX0_lay_156
theorem sX0_lay_159 : Snd (miT Tb) RX0 cX0_lay 10 none 159 (i_goto 30) := snd_goto dX0_lay_159 rfl
theorem sX0_lay_162 : Snd (miT Tb) RX0 cX0_lay 10 none 162 (i_aload 163 0) := snd_aload_n rfl dX0_lay_162
theorem sX0_lay_163 : Snd (miT Tb) RX0 cX0_lay 10 none 163 (i_const 164 (vI 0)) := snd_iconst dX0_lay_163
theorem sX0_lay_164 : Snd (miT Tb) RX0 cX0_lay 10 none 164 (i_const 165 (vI 0)) := snd_iconst dX0_lay_164
theorem sX0_lay_165 : Snd (miT Tb) RX0 cX0_lay 10 none 165 (i_const 166 (vI 0)) := snd_iconst dX0_lay_165
theorem sX0_lay_166 : Snd (miT Tb) RX0 cX0_lay 10 none 166 (i_aload 167 0) := snd_aload_n rfl dX0_lay_166
theorem sX0_lay_167 : Snd (miT Tb) RX0 cX0_lay 10 none 167 (i_getI 0 7 170) := snd_getI (fun hK ho hs hv kk => gf_X0_33 hK ho hs hv dX0_lay_167 kk)
theorem sX0_lay_170 : Snd (miT Tb) RX0 cX0_lay 10 none 170 (i_aload 171 0) := snd_aload_n rfl dX0_lay_170
theorem sX0_lay_171 : Snd (miT Tb) RX0 cX0_lay 10 none 171 (i_getI 0 9 174) := snd_getI (fun hK ho hs hv kk => gf_X0_40 hK ho hs hv dX0_lay_171 kk)
theorem sX0_lay_174 : Snd (miT Tb) RX0 cX0_lay 10 none 174 (i_cS2 11 177) := snd_cS2 (fun hK hd hC h6 h7 h8 kk => iv_X0_46 hK (mc_11 hC) ⟨hd, by show _ ≤ 40 * (_ + 1); omega⟩ (Nat.le_refl _) h6 h7 h8 ⟨Nat.le_refl _, Nat.le_refl _⟩ dX0_lay_174 kk)
theorem sX0_lay_177 : Snd (miT Tb) RX0 cX0_lay 10 none 177 (i_aload 178 0) := snd_aload_n rfl dX0_lay_177
theorem sX0_lay_178 : Snd (miT Tb) RX0 cX0_lay 10 none 178 (i_getI 0 8 181) := snd_getI (fun hK ho hs hv kk => gf_X0_37 hK ho hs hv dX0_lay_178 kk)
theorem sX0_lay_181 : Snd (miT Tb) RX0 cX0_lay 10 none 181 (i_aload 182 0) := snd_aload_n rfl dX0_lay_181
theorem sX0_lay_182 : Snd (miT Tb) RX0 cX0_lay 10 none 182 (i_getI 0 9 185) := snd_getI (fun hK ho hs hv kk => gf_X0_40 hK ho hs hv dX0_lay_182 kk)
theorem sX0_lay_185 : Snd (miT Tb) RX0 cX0_lay 10 none 185 (i_cS2 11 188) := snd_cS2 (fun hK hd hC h6 h7 h8 kk => iv_X0_46 hK (mc_11 hC) ⟨hd, by show _ ≤ 40 * (_ + 1); omega⟩ (Nat.le_refl _) h6 h7 h8 ⟨Nat.le_refl _, Nat.le_refl _⟩ dX0_lay_185 kk)
theorem sX0_lay_188 : Snd (miT Tb) RX0 cX0_lay 10 none 188 (i_cV5 9 0 191) := snd_cV5 (fun hK hd hC ho hs h6 h7 h8 kk => iv_X0_50 hK (mc_9 hC) ho hs ⟨hd, by show _ ≤ 40 * (_ + 1); omega⟩ (Nat.le_refl _) h6 h7 h8 ⟨Nat.le_refl _, Nat.le_refl _⟩ dX0_lay_188 kk)
theorem sX0_lay_191 : Snd (miT Tb) RX0 cX0_lay 10 none 191 (i_vret) := snd_vret dX0_lay_191
theorem kX0_lay : raA (okI (miT Tb) (yX0_lay, cX0_lay, 10, none)) tX0_lay := (raA_br (raA_br (raA_br (raA_br (raA_br (raA_br (raA_leaf sX0_lay_0) (raA_br (raA_leaf sX0_lay_1) (raA_leaf sX0_lay_2))) (raA_br (raA_leaf sX0_lay_5) (raA_br (raA_leaf sX0_lay_6) (raA_leaf sX0_lay_7)))) (raA_br (raA_br (raA_leaf sX0_lay_10) (raA_br (raA_leaf sX0_lay_11) (raA_leaf sX0_lay_12))) (raA_br (raA_br (raA_leaf sX0_lay_15) (raA_leaf sX0_lay_16)) (raA_br (raA_leaf sX0_lay_17) (raA_leaf sX0_lay_18))))) (raA_br (raA_br (raA_br (raA_leaf sX0_lay_21) (raA_br (raA_leaf sX0_lay_22) (raA_leaf sX0_lay_23))) (raA_br (raA_leaf sX0_lay_24) (raA_br (raA_leaf sX0_lay_27) (raA_leaf sX0_lay_28)))) (raA_br (raA_br (raA_leaf sX0_lay_30) (raA_br (raA_leaf sX0_lay_32) (raA_leaf sX0_lay_33))) (raA_br (raA_br (raA_leaf sX0_lay_36) (raA_leaf sX0_lay_39)) (raA_br (raA_leaf sX0_lay_40) (raA_leaf sX0_lay_41)))))) (raA_br (raA_br (raA_br (raA_br (raA_leaf sX0_lay_44) (raA_br (raA_leaf sX0_lay_46) (raA_leaf sX0_lay_47))) (raA_br (raA_leaf sX0_lay_48) (raA_br (raA_leaf sX0_lay_49) (raA_leaf sX0_lay_50)))) (raA_br (raA_br (raA_leaf sX0_lay_52) (raA_br (raA_leaf sX0_lay_53) (raA_leaf sX0_lay_56))) (raA_br (raA_br (raA_leaf sX0_lay_58) (raA_leaf sX0_lay_59)) (raA_br (raA_leaf sX0_lay_60) (raA_leaf sX0_lay_63))))) (raA_br (raA_br (raA_br (raA_leaf sX0_lay_65) (raA_br (raA_leaf sX0_lay_66) (raA_leaf sX0_lay_69))) (raA_br (raA_br (raA_leaf sX0_lay_71) (raA_leaf sX0_lay_72)) (raA_br (raA_leaf sX0_lay_73) (raA_leaf sX0_lay_76)))) (raA_br (raA_br (raA_leaf sX0_lay_78) (raA_br (raA_leaf sX0_lay_79) (raA_leaf sX0_lay_82))) (raA_br (raA_br (raA_leaf sX0_lay_84) (raA_leaf sX0_lay_87)) (raA_br (raA_leaf sX0_lay_89) (raA_leaf sX0_lay_90))))))) (raA_br (raA_br (raA_br (raA_br (raA_br (raA_leaf sX0_lay_93) (raA_br (raA_leaf sX0_lay_95) (raA_leaf sX0_lay_98))) (raA_br (raA_leaf sX0_lay_100) (raA_br (raA_leaf sX0_lay_101) (raA_leaf sX0_lay_103)))) (raA_br (raA_br (raA_leaf sX0_lay_105) (raA_br (raA_leaf sX0_lay_106) (raA_leaf sX0_lay_108))) (raA_br (raA_br (raA_leaf sX0_lay_110) (raA_leaf sX0_lay_111)) (raA_br (raA_leaf sX0_lay_113) (raA_leaf sX0_lay_116))))) (raA_br (raA_br (raA_br (raA_leaf sX0_lay_117) (raA_br (raA_leaf sX0_lay_119) (raA_leaf sX0_lay_120))) (raA_br (raA_br (raA_leaf sX0_lay_121) (raA_leaf sX0_lay_122)) (raA_br (raA_leaf sX0_lay_124) (raA_leaf sX0_lay_126)))) (raA_br (raA_br (raA_leaf sX0_lay_128) (raA_br (raA_leaf sX0_lay_130) (raA_leaf sX0_lay_131))) (raA_br (raA_br (raA_leaf sX0_lay_134) (raA_leaf sX0_lay_135)) (raA_br (raA_leaf sX0_lay_137) (raA_leaf sX0_lay_138)))))) (raA_br (raA_br (raA_br (raA_br (raA_leaf sX0_lay_139) (raA_br (raA_leaf sX0_lay_141) (raA_leaf sX0_lay_143))) (raA_br (raA_leaf sX0_lay_145) (raA_br (raA_leaf sX0_lay_147) (raA_leaf sX0_lay_148)))) (raA_br (raA_br (raA_leaf sX0_lay_150) (raA_br (raA_leaf sX0_lay_152) (raA_leaf sX0_lay_153))) (raA_br (raA_br (raA_leaf sX0_lay_156) (raA_leaf sX0_lay_159)) (raA_br (raA_leaf sX0_lay_162) (raA_leaf sX0_lay_163))))) (raA_br (raA_br (raA_br (raA_leaf sX0_lay_164) (raA_br (raA_leaf sX0_lay_165) (raA_leaf sX0_lay_166))) (raA_br (raA_br (raA_leaf sX0_lay_167) (raA_leaf sX0_lay_170)) (raA_br (raA_leaf sX0_lay_171) (raA_leaf sX0_lay_174)))) (raA_br (raA_br (raA_leaf sX0_lay_177) (raA_br (raA_leaf sX0_lay_178) (raA_leaf sX0_lay_181))) (raA_br (raA_br (raA_leaf sX0_lay_182) (raA_leaf sX0_lay_185)) (raA_br (raA_leaf sX0_lay_188) (raA_leaf sX0_lay_191))))))))
theorem sX0_layBand_0 : Snd (miT Tb) RX0 cX0_layBand 6 none 0 (i_aload 1 0) := snd_aload_n rfl dX0_layBand_0
theorem sX0_layBand_1 : Snd (miT Tb) RX0 cX0_layBand 6 none 1 (i_getR 0 1 4) := snd_getR rfl (by decide) (by decide) (by decide) (fun hK ho hs hq kk => gf_X0_15 hK ho hs hq rfl dX0_layBand_1 kk)
theorem sX0_layBand_4 : Snd (miT Tb) RX0 cX0_layBand 6 none 4 (i_iload 5 1) := snd_iload_n rfl dX0_layBand_4
theorem sX0_layBand_5 : Snd (miT Tb) RX0 cX0_layBand 6 none 5 (i_iload 6 2) := snd_iload_n rfl dX0_layBand_5
theorem sX0_layBand_6 : Snd (miT Tb) RX0 cX0_layBand 6 none 6 (i_iast 7) := snd_iast dX0_layBand_6
theorem sX0_layBand_7 : Snd (miT Tb) RX0 cX0_layBand 6 none 7 (i_aload 8 0) := snd_aload_n rfl dX0_layBand_7
theorem sX0_layBand_8 : Snd (miT Tb) RX0 cX0_layBand 6 none 8 (i_getR 0 2 11) := snd_getR rfl (by decide) (by decide) (by decide) (fun hK ho hs hq kk => gf_X0_18 hK ho hs hq rfl dX0_layBand_8 kk)
theorem sX0_layBand_11 : Snd (miT Tb) RX0 cX0_layBand 6 none 11 (i_iload 12 1) := snd_iload_n rfl dX0_layBand_11
theorem sX0_layBand_12 : Snd (miT Tb) RX0 cX0_layBand 6 none 12 (i_iload 13 3) := snd_iload_n rfl dX0_layBand_12
theorem sX0_layBand_13 : Snd (miT Tb) RX0 cX0_layBand 6 none 13 (i_iast 14) := snd_iast dX0_layBand_13
theorem sX0_layBand_14 : Snd (miT Tb) RX0 cX0_layBand 6 none 14 (i_aload 15 0) := snd_aload_n rfl dX0_layBand_14
theorem sX0_layBand_15 : Snd (miT Tb) RX0 cX0_layBand 6 none 15 (i_getR 0 3 18) := snd_getR rfl (by decide) (by decide) (by decide) (fun hK ho hs hq kk => gf_X0_21 hK ho hs hq rfl dX0_layBand_15 kk)
theorem sX0_layBand_18 : Snd (miT Tb) RX0 cX0_layBand 6 none 18 (i_iload 19 1) := snd_iload_n rfl dX0_layBand_18
theorem sX0_layBand_19 : Snd (miT Tb) RX0 cX0_layBand 6 none 19 (i_iload 21 4) := snd_iload dX0_layBand_19
theorem sX0_layBand_21 : Snd (miT Tb) RX0 cX0_layBand 6 none 21 (i_iast 22) := snd_iast dX0_layBand_21
theorem sX0_layBand_22 : Snd (miT Tb) RX0 cX0_layBand 6 none 22 (i_aload 23 0) := snd_aload_n rfl dX0_layBand_22
theorem sX0_layBand_23 : Snd (miT Tb) RX0 cX0_layBand 6 none 23 (i_getR 0 4 26) := snd_getR rfl (by decide) (by decide) (by decide) (fun hK ho hs hq kk => gf_X0_24 hK ho hs hq rfl dX0_layBand_23 kk)
theorem sX0_layBand_26 : Snd (miT Tb) RX0 cX0_layBand 6 none 26 (i_iload 27 1) := snd_iload_n rfl dX0_layBand_26
theorem sX0_layBand_27 : Snd (miT Tb) RX0 cX0_layBand 6 none 27 (i_iload 29 5) := snd_iload dX0_layBand_27
theorem sX0_layBand_29 : Snd (miT Tb) RX0 cX0_layBand 6 none 29 (i_iast 30) := snd_iast dX0_layBand_29
theorem sX0_layBand_30 : Snd (miT Tb) RX0 cX0_layBand 6 none 30 (i_vret) := snd_vret dX0_layBand_30
theorem kX0_layBand : raA (okI (miT Tb) (yX0_layBand, cX0_layBand, 6, none)) tX0_layBand := (raA_br (raA_br (raA_br (raA_br (raA_leaf sX0_layBand_0) (raA_leaf sX0_layBand_1)) (raA_br (raA_leaf sX0_layBand_4) (raA_br (raA_leaf sX0_layBand_5) (raA_leaf sX0_layBand_6)))) (raA_br (raA_br (raA_leaf sX0_layBand_7) (raA_leaf sX0_layBand_8)) (raA_br (raA_leaf sX0_layBand_11) (raA_br (raA_leaf sX0_layBand_12) (raA_leaf sX0_layBand_13))))) (raA_br (raA_br (raA_br (raA_leaf sX0_layBand_14) (raA_leaf sX0_layBand_15)) (raA_br (raA_leaf sX0_layBand_18) (raA_br (raA_leaf sX0_layBand_19) (raA_leaf sX0_layBand_21)))) (raA_br (raA_br (raA_leaf sX0_layBand_22) (raA_br (raA_leaf sX0_layBand_23) (raA_leaf sX0_layBand_26))) (raA_br (raA_leaf sX0_layBand_27) (raA_br (raA_leaf sX0_layBand_29) (raA_leaf sX0_layBand_30))))))
theorem sX0_readPicture_0 : Snd (miT Tb) RX0 cX0_readPicture 4 none 0 (i_const 1 (vI 0)) := snd_iconst dX0_readPicture_0
theorem sX0_readPicture_1 : Snd (miT Tb) RX0 cX0_readPicture 4 none 1 (i_istore 2 2) := snd_istore_n rfl (by decide) dX0_readPicture_1
theorem sX0_readPicture_2 : Snd (miT Tb) RX0 cX0_readPicture 4 none 2 (i_iload 3 2) := snd_iload_n rfl dX0_readPicture_2
theorem sX0_readPicture_3 : Snd (miT Tb) RX0 cX0_readPicture 4 none 3 (i_aload 4 0) := snd_aload_n rfl dX0_readPicture_3
theorem sX0_readPicture_4 : Snd (miT Tb) RX0 cX0_readPicture 4 none 4 (i_getI 0 8 7) := snd_getI (fun hK ho hs hv kk => gf_X0_37 hK ho hs hv dX0_readPicture_4 kk)
theorem sX0_readPicture_7 : Snd (miT Tb) RX0 cX0_readPicture 4 none 7 (i_icmp_ge 10 53) := snd_icmp_ge dX0_readPicture_7 rfl
theorem sX0_readPicture_10 : Snd (miT Tb) RX0 cX0_readPicture 4 none 10 (i_const 11 (vI 0)) := snd_iconst dX0_readPicture_10
theorem sX0_readPicture_11 : Snd (miT Tb) RX0 cX0_readPicture 4 none 11 (i_istore 12 3) := snd_istore_n rfl (by decide) dX0_readPicture_11
theorem sX0_readPicture_12 : Snd (miT Tb) RX0 cX0_readPicture 4 none 12 (i_iload 13 3) := snd_iload_n rfl dX0_readPicture_12
theorem sX0_readPicture_13 : Snd (miT Tb) RX0 cX0_readPicture 4 none 13 (i_aload 14 0) := snd_aload_n rfl dX0_readPicture_13
theorem sX0_readPicture_14 : Snd (miT Tb) RX0 cX0_readPicture 4 none 14 (i_getI 0 7 17) := snd_getI (fun hK ho hs hv kk => gf_X0_33 hK ho hs hv dX0_readPicture_14 kk)
theorem sX0_readPicture_17 : Snd (miT Tb) RX0 cX0_readPicture 4 none 17 (i_icmp_ge 20 47) := snd_icmp_ge dX0_readPicture_17 rfl
theorem sX0_readPicture_20 : Snd (miT Tb) RX0 cX0_readPicture 4 none 20 (i_aload 21 0) := snd_aload_n rfl dX0_readPicture_20
theorem sX0_readPicture_21 : Snd (miT Tb) RX0 cX0_readPicture 4 none 21 (i_getR 0 0 24) := snd_getR rfl (by decide) (by decide) (by decide) (fun hK ho hs hq kk => gf_X0_9 hK ho hs hq rfl dX0_readPicture_21 kk)
theorem sX0_readPicture_24 : Snd (miT Tb) RX0 cX0_readPicture 4 none 24 (i_iload 25 2) := snd_iload_n rfl dX0_readPicture_24
theorem sX0_readPicture_25 : Snd (miT Tb) RX0 cX0_readPicture 4 none 25 (i_const 27 (vI 8)) := snd_bipush (by decide) dX0_readPicture_25
theorem sX0_readPicture_27 : Snd (miT Tb) RX0 cX0_readPicture 4 none 27 (i_imul 28) := snd_imul dX0_readPicture_27
theorem sX0_readPicture_28 : Snd (miT Tb) RX0 cX0_readPicture 4 none 28 (i_iload 29 3) := snd_iload_n rfl dX0_readPicture_28
theorem sX0_readPicture_29 : Snd (miT Tb) RX0 cX0_readPicture 4 none 29 (i_iadd 30) := snd_iadd dX0_readPicture_29
theorem sX0_readPicture_30 : Snd (miT Tb) RX0 cX0_readPicture 4 none 30 (i_aload 31 1) := snd_aload_n rfl dX0_readPicture_30
theorem sX0_readPicture_31 : Snd (miT Tb) RX0 cX0_readPicture 4 none 31 (i_iload 32 3) := snd_iload_n rfl dX0_readPicture_31
theorem sX0_readPicture_32 : Snd (miT Tb) RX0 cX0_readPicture 4 none 32 (i_iload 33 2) := snd_iload_n rfl dX0_readPicture_32
theorem sX0_readPicture_33 : Snd (miT Tb) RX0 cX0_readPicture 4 none 33 (i_cV2 108 5 36) := snd_cV2 (fun hK hd hC ho hs h6 h7 h8 kk => iv_X0_63 hK (mc_108 hC) ho hs ⟨hd, by show _ ≤ 40 * (_ + 1); omega⟩ (Nat.le_refl _) h6 h7 h8 ⟨Nat.le_refl _, Nat.le_refl _⟩ dX0_readPicture_33 kk)
theorem sX0_readPicture_36 : Snd (miT Tb) RX0 cX0_readPicture 4 none 36 (i_const 39 (vI 128)) := snd_sipush (by decide) dX0_readPicture_36
theorem sX0_readPicture_39 : Snd (miT Tb) RX0 cX0_readPicture 4 none 39 (i_isub 40) := snd_isub dX0_readPicture_39
theorem sX0_readPicture_40 : Snd (miT Tb) RX0 cX0_readPicture 4 none 40 (i_iast 41) := snd_iast dX0_readPicture_40
theorem sX0_readPicture_41 : Snd (miT Tb) RX0 cX0_readPicture 4 none 41 (i_iinc 44 3 1) := snd_iinc (by decide) dX0_readPicture_41
theorem sX0_readPicture_44 : Snd (miT Tb) RX0 cX0_readPicture 4 none 44 (i_goto 12) := snd_goto dX0_readPicture_44 rfl
theorem sX0_readPicture_47 : Snd (miT Tb) RX0 cX0_readPicture 4 none 47 (i_iinc 50 2 1) := snd_iinc (by decide) dX0_readPicture_47
theorem sX0_readPicture_50 : Snd (miT Tb) RX0 cX0_readPicture 4 none 50 (i_goto 2) := snd_goto dX0_readPicture_50 rfl
theorem sX0_readPicture_53 : Snd (miT Tb) RX0 cX0_readPicture 4 none 53 (i_vret) := snd_vret dX0_readPicture_53
theorem kX0_readPicture : raA (okI (miT Tb) (yX0_readPicture, cX0_readPicture, 4, none)) tX0_readPicture := (raA_br (raA_br (raA_br (raA_br (raA_leaf sX0_readPicture_0) (raA_br (raA_leaf sX0_readPicture_1) (raA_leaf sX0_readPicture_2))) (raA_br (raA_br (raA_leaf sX0_readPicture_3) (raA_leaf sX0_readPicture_4)) (raA_br (raA_leaf sX0_readPicture_7) (raA_leaf sX0_readPicture_10)))) (raA_br (raA_br (raA_br (raA_leaf sX0_readPicture_11) (raA_leaf sX0_readPicture_12)) (raA_br (raA_leaf sX0_readPicture_13) (raA_leaf sX0_readPicture_14))) (raA_br (raA_br (raA_leaf sX0_readPicture_17) (raA_leaf sX0_readPicture_20)) (raA_br (raA_leaf sX0_readPicture_21) (raA_leaf sX0_readPicture_24))))) (raA_br (raA_br (raA_br (raA_br (raA_leaf sX0_readPicture_25) (raA_leaf sX0_readPicture_27)) (raA_br (raA_leaf sX0_readPicture_28) (raA_leaf sX0_readPicture_29))) (raA_br (raA_br (raA_leaf sX0_readPicture_30) (raA_leaf sX0_readPicture_31)) (raA_br (raA_leaf sX0_readPicture_32) (raA_leaf sX0_readPicture_33)))) (raA_br (raA_br (raA_br (raA_leaf sX0_readPicture_36) (raA_leaf sX0_readPicture_39)) (raA_br (raA_leaf sX0_readPicture_40) (raA_leaf sX0_readPicture_41))) (raA_br (raA_br (raA_leaf sX0_readPicture_44) (raA_leaf sX0_readPicture_47)) (raA_br (raA_leaf sX0_readPicture_50) (raA_leaf sX0_readPicture_53))))))
theorem sX0_sideAfter_0 : Snd (miT Tb) RX0 cX0_sideAfter 2 (some .int) 0 (i_iload 1 0) := snd_iload_n rfl dX0_sideAfter_0
theorem sX0_sideAfter_1 : Snd (miT Tb) RX0 cX0_sideAfter 2 (some .int) 1 (i_const 2 (vI 1)) := snd_iconst dX0_sideAfter_1
theorem sX0_sideAfter_2 : Snd (miT Tb) RX0 cX0_sideAfter 2 (some .int) 2 (i_iload 3 1) := snd_iload_n rfl dX0_sideAfter_2
theorem sX0_sideAfter_3 : Snd (miT Tb) RX0 cX0_sideAfter 2 (some .int) 3 (i_ishl 4) := snd_ishl dX0_sideAfter_3
theorem sX0_sideAfter_4 : Snd (miT Tb) RX0 cX0_sideAfter 2 (some .int) 4 (i_iadd 5) := snd_iadd dX0_sideAfter_4
theorem sX0_sideAfter_5 : Snd (miT Tb) RX0 cX0_sideAfter 2 (some .int) 5 (i_const 6 (vI 1)) := snd_iconst dX0_sideAfter_5
theorem sX0_sideAfter_6 : Snd (miT Tb) RX0 cX0_sideAfter 2 (some .int) 6 (i_isub 7) := snd_isub dX0_sideAfter_6
theorem sX0_sideAfter_7 : Snd (miT Tb) RX0 cX0_sideAfter 2 (some .int) 7 (i_iload 8 1) := snd_iload_n rfl dX0_sideAfter_7
theorem sX0_sideAfter_8 : Snd (miT Tb) RX0 cX0_sideAfter 2 (some .int) 8 (i_ishr 9) := snd_ishr dX0_sideAfter_8
theorem sX0_sideAfter_9 : Snd (miT Tb) RX0 cX0_sideAfter 2 (some .int) 9 (i_iret) := snd_iret dX0_sideAfter_9
theorem kX0_sideAfter : raA (okI (miT Tb) (yX0_sideAfter, cX0_sideAfter, 2, (some .int))) tX0_sideAfter := (raA_br (raA_br (raA_br (raA_leaf sX0_sideAfter_0) (raA_leaf sX0_sideAfter_1)) (raA_br (raA_leaf sX0_sideAfter_2) (raA_br (raA_leaf sX0_sideAfter_3) (raA_leaf sX0_sideAfter_4)))) (raA_br (raA_br (raA_leaf sX0_sideAfter_5) (raA_leaf sX0_sideAfter_6)) (raA_br (raA_leaf sX0_sideAfter_7) (raA_br (raA_leaf sX0_sideAfter_8) (raA_leaf sX0_sideAfter_9)))))
theorem sX0_splitLine_0 : Snd (miT Tb) RX0 cX0_splitLine 7 none 0 (i_iload 1 3) := snd_iload_n rfl dX0_splitLine_0
theorem sX0_splitLine_1 : Snd (miT Tb) RX0 cX0_splitLine 7 none 1 (i_const 2 (vI 2)) := snd_iconst dX0_splitLine_1
theorem sX0_splitLine_2 : Snd (miT Tb) RX0 cX0_splitLine 7 none 2 (i_icmp_ge 5 6) := snd_icmp_ge dX0_splitLine_2 rfl
theorem sX0_splitLine_5 : Snd (miT Tb) RX0 cX0_splitLine 7 none 5 (i_vret) := snd_vret dX0_splitLine_5
theorem sX0_splitLine_6 : Snd (miT Tb) RX0 cX0_splitLine 7 none 6 (i_aload 7 0) := snd_aload_n rfl dX0_splitLine_6
theorem sX0_splitLine_7 : Snd (miT Tb) RX0 cX0_splitLine 7 none 7 (i_iload 8 1) := snd_iload_n rfl dX0_splitLine_7
theorem sX0_splitLine_8 : Snd (miT Tb) RX0 cX0_splitLine 7 none 8 (i_iload 9 2) := snd_iload_n rfl dX0_splitLine_8
theorem sX0_splitLine_9 : Snd (miT Tb) RX0 cX0_splitLine 7 none 9 (i_iload 10 3) := snd_iload_n rfl dX0_splitLine_9
theorem sX0_splitLine_10 : Snd (miT Tb) RX0 cX0_splitLine 7 none 10 (i_stop) := snd_stop
theorem sX0_splitLine_13 : Snd (miT Tb) RX0 cX0_splitLine 7 none 13 (i_iload 14 3) := snd_iload_n rfl dX0_splitLine_13
theorem sX0_splitLine_14 : Snd (miT Tb) RX0 cX0_splitLine 7 none 14 (i_const 15 (vI 1)) := snd_iconst dX0_splitLine_14
theorem sX0_splitLine_15 : Snd (miT Tb) RX0 cX0_splitLine 7 none 15 (i_iadd 16) := snd_iadd dX0_splitLine_15
theorem sX0_splitLine_16 : Snd (miT Tb) RX0 cX0_splitLine 7 none 16 (i_const 17 (vI 2)) := snd_iconst dX0_splitLine_16
theorem sX0_splitLine_17 : Snd (miT Tb) RX0 cX0_splitLine 7 none 17 (i_idiv 18) := snd_idiv dX0_splitLine_17
theorem sX0_splitLine_18 : Snd (miT Tb) RX0 cX0_splitLine 7 none 18 (i_istore 20 4) := snd_istore (by decide) dX0_splitLine_18
theorem sX0_splitLine_20 : Snd (miT Tb) RX0 cX0_splitLine 7 none 20 (i_const 21 (vI 0)) := snd_iconst dX0_splitLine_20
theorem sX0_splitLine_21 : Snd (miT Tb) RX0 cX0_splitLine 7 none 21 (i_istore 23 5) := snd_istore (by decide) dX0_splitLine_21
theorem sX0_splitLine_23 : Snd (miT Tb) RX0 cX0_splitLine 7 none 23 (i_iload 25 5) := snd_iload dX0_splitLine_23
theorem sX0_splitLine_25 : Snd (miT Tb) RX0 cX0_splitLine 7 none 25 (i_iload 26 3) := snd_iload_n rfl dX0_splitLine_25
theorem sX0_splitLine_26 : Snd (miT Tb) RX0 cX0_splitLine 7 none 26 (i_const 27 (vI 2)) := snd_iconst dX0_splitLine_26
theorem sX0_splitLine_27 : Snd (miT Tb) RX0 cX0_splitLine 7 none 27 (i_idiv 28) := snd_idiv dX0_splitLine_27
theorem sX0_splitLine_28 : Snd (miT Tb) RX0 cX0_splitLine 7 none 28 (i_icmp_ge 31 108) := snd_icmp_ge dX0_splitLine_28 rfl
theorem sX0_splitLine_31 : Snd (miT Tb) RX0 cX0_splitLine 7 none 31 (i_const 32 (vI 2)) := snd_iconst dX0_splitLine_31
theorem sX0_splitLine_32 : Snd (miT Tb) RX0 cX0_splitLine 7 none 32 (i_iload 34 5) := snd_iload dX0_splitLine_32
theorem sX0_splitLine_34 : Snd (miT Tb) RX0 cX0_splitLine 7 none 34 (i_imul 35) := snd_imul dX0_splitLine_34
theorem sX0_splitLine_35 : Snd (miT Tb) RX0 cX0_splitLine 7 none 35 (i_const 36 (vI 2)) := snd_iconst dX0_splitLine_35
theorem sX0_splitLine_36 : Snd (miT Tb) RX0 cX0_splitLine 7 none 36 (i_iadd 37) := snd_iadd dX0_splitLine_36
theorem sX0_splitLine_37 : Snd (miT Tb) RX0 cX0_splitLine 7 none 37 (i_iload 38 3) := snd_iload_n rfl dX0_splitLine_37
theorem sX0_splitLine_38 : Snd (miT Tb) RX0 cX0_splitLine 7 none 38 (i_icmp_ge 41 55) := snd_icmp_ge dX0_splitLine_38 rfl
theorem sX0_splitLine_41 : Snd (miT Tb) RX0 cX0_splitLine 7 none 41 (i_aload 42 0) := snd_aload_n rfl dX0_splitLine_41
theorem sX0_splitLine_42 : Snd (miT Tb) RX0 cX0_splitLine 7 none 42 (i_getR 0 5 45) := snd_getR rfl (by decide) (by decide) (by decide) (fun hK ho hs hq kk => gf_X0_27 hK ho hs hq rfl dX0_splitLine_42 kk)
theorem sX0_splitLine_45 : Snd (miT Tb) RX0 cX0_splitLine 7 none 45 (i_const 46 (vI 2)) := snd_iconst dX0_splitLine_45
theorem sX0_splitLine_46 : Snd (miT Tb) RX0 cX0_splitLine 7 none 46 (i_iload 48 5) := snd_iload dX0_splitLine_46
theorem sX0_splitLine_48 : Snd (miT Tb) RX0 cX0_splitLine 7 none 48 (i_imul 49) := snd_imul dX0_splitLine_48
theorem sX0_splitLine_49 : Snd (miT Tb) RX0 cX0_splitLine 7 none 49 (i_const 50 (vI 2)) := snd_iconst dX0_splitLine_49
theorem sX0_splitLine_50 : Snd (miT Tb) RX0 cX0_splitLine 7 none 50 (i_iadd 51) := snd_iadd dX0_splitLine_50
theorem sX0_splitLine_51 : Snd (miT Tb) RX0 cX0_splitLine 7 none 51 (i_iald 52) := snd_iald dX0_splitLine_51
theorem sX0_splitLine_52 : Snd (miT Tb) RX0 cX0_splitLine 7 none 52 (i_goto 64) := snd_goto dX0_splitLine_52 rfl
theorem sX0_splitLine_55 : Snd (miT Tb) RX0 cX0_splitLine 7 none 55 (i_aload 56 0) := snd_aload_n rfl dX0_splitLine_55
theorem sX0_splitLine_56 : Snd (miT Tb) RX0 cX0_splitLine 7 none 56 (i_getR 0 5 59) := snd_getR rfl (by decide) (by decide) (by decide) (fun hK ho hs hq kk => gf_X0_27 hK ho hs hq rfl dX0_splitLine_56 kk)
theorem sX0_splitLine_59 : Snd (miT Tb) RX0 cX0_splitLine 7 none 59 (i_const 60 (vI 2)) := snd_iconst dX0_splitLine_59
theorem sX0_splitLine_60 : Snd (miT Tb) RX0 cX0_splitLine 7 none 60 (i_iload 62 5) := snd_iload dX0_splitLine_60
theorem sX0_splitLine_62 : Snd (miT Tb) RX0 cX0_splitLine 7 none 62 (i_imul 63) := snd_imul dX0_splitLine_62
theorem sX0_splitLine_63 : Snd (miT Tb) RX0 cX0_splitLine 7 none 63 (i_iald 64) := snd_iald dX0_splitLine_63
theorem sX0_splitLine_64 : Snd (miT Tb) RX0 cX0_splitLine 7 none 64 (i_istore 66 6) := snd_istore (by decide) dX0_splitLine_64
theorem sX0_splitLine_66 : Snd (miT Tb) RX0 cX0_splitLine 7 none 66 (i_aload 67 0) := snd_aload_n rfl dX0_splitLine_66
theorem sX0_splitLine_67 : Snd (miT Tb) RX0 cX0_splitLine 7 none 67 (i_getR 0 6 70) := snd_getR rfl (by decide) (by decide) (by decide) (fun hK ho hs hq kk => gf_X0_30 hK ho hs hq rfl dX0_splitLine_67 kk)
theorem sX0_splitLine_70 : Snd (miT Tb) RX0 cX0_splitLine 7 none 70 (i_iload 72 4) := snd_iload dX0_splitLine_70
theorem sX0_splitLine_72 : Snd (miT Tb) RX0 cX0_splitLine 7 none 72 (i_iload 74 5) := snd_iload dX0_splitLine_72
theorem sX0_splitLine_74 : Snd (miT Tb) RX0 cX0_splitLine 7 none 74 (i_iadd 75) := snd_iadd dX0_splitLine_74
theorem sX0_splitLine_75 : Snd (miT Tb) RX0 cX0_splitLine 7 none 75 (i_aload 76 0) := snd_aload_n rfl dX0_splitLine_75
theorem sX0_splitLine_76 : Snd (miT Tb) RX0 cX0_splitLine 7 none 76 (i_getR 0 5 79) := snd_getR rfl (by decide) (by decide) (by decide) (fun hK ho hs hq kk => gf_X0_27 hK ho hs hq rfl dX0_splitLine_76 kk)
theorem sX0_splitLine_79 : Snd (miT Tb) RX0 cX0_splitLine 7 none 79 (i_const 80 (vI 2)) := snd_iconst dX0_splitLine_79
theorem sX0_splitLine_80 : Snd (miT Tb) RX0 cX0_splitLine 7 none 80 (i_iload 82 5) := snd_iload dX0_splitLine_80
theorem sX0_splitLine_82 : Snd (miT Tb) RX0 cX0_splitLine 7 none 82 (i_imul 83) := snd_imul dX0_splitLine_82
theorem sX0_splitLine_83 : Snd (miT Tb) RX0 cX0_splitLine 7 none 83 (i_const 84 (vI 1)) := snd_iconst dX0_splitLine_83
theorem sX0_splitLine_84 : Snd (miT Tb) RX0 cX0_splitLine 7 none 84 (i_iadd 85) := snd_iadd dX0_splitLine_84
theorem sX0_splitLine_85 : Snd (miT Tb) RX0 cX0_splitLine 7 none 85 (i_iald 86) := snd_iald dX0_splitLine_85
theorem sX0_splitLine_86 : Snd (miT Tb) RX0 cX0_splitLine 7 none 86 (i_aload 87 0) := snd_aload_n rfl dX0_splitLine_86
theorem sX0_splitLine_87 : Snd (miT Tb) RX0 cX0_splitLine 7 none 87 (i_getR 0 5 90) := snd_getR rfl (by decide) (by decide) (by decide) (fun hK ho hs hq kk => gf_X0_27 hK ho hs hq rfl dX0_splitLine_87 kk)
theorem sX0_splitLine_90 : Snd (miT Tb) RX0 cX0_splitLine 7 none 90 (i_const 91 (vI 2)) := snd_iconst dX0_splitLine_90
theorem sX0_splitLine_91 : Snd (miT Tb) RX0 cX0_splitLine 7 none 91 (i_iload 93 5) := snd_iload dX0_splitLine_91
theorem sX0_splitLine_93 : Snd (miT Tb) RX0 cX0_splitLine 7 none 93 (i_imul 94) := snd_imul dX0_splitLine_93
theorem sX0_splitLine_94 : Snd (miT Tb) RX0 cX0_splitLine 7 none 94 (i_iald 95) := snd_iald dX0_splitLine_94
theorem sX0_splitLine_95 : Snd (miT Tb) RX0 cX0_splitLine 7 none 95 (i_iload 97 6) := snd_iload dX0_splitLine_95
theorem sX0_splitLine_97 : Snd (miT Tb) RX0 cX0_splitLine 7 none 97 (i_iadd 98) := snd_iadd dX0_splitLine_97
theorem sX0_splitLine_98 : Snd (miT Tb) RX0 cX0_splitLine 7 none 98 (i_const 99 (vI 1)) := snd_iconst dX0_splitLine_98
theorem sX0_splitLine_99 : Snd (miT Tb) RX0 cX0_splitLine 7 none 99 (i_ishr 100) := snd_ishr dX0_splitLine_99
theorem sX0_splitLine_100 : Snd (miT Tb) RX0 cX0_splitLine 7 none 100 (i_isub 101) := snd_isub dX0_splitLine_100
theorem sX0_splitLine_101 : Snd (miT Tb) RX0 cX0_splitLine 7 none 101 (i_iast 102) := snd_iast dX0_splitLine_101
theorem sX0_splitLine_102 : Snd (miT Tb) RX0 cX0_splitLine 7 none 102 (i_iinc 105 5 1) := snd_iinc (by decide) dX0_splitLine_102
theorem sX0_splitLine_105 : Snd (miT Tb) RX0 cX0_splitLine 7 none 105 (i_goto 23) := snd_goto dX0_splitLine_105 rfl
theorem sX0_splitLine_108 : Snd (miT Tb) RX0 cX0_splitLine 7 none 108 (i_const 109 (vI 0)) := snd_iconst dX0_splitLine_108
theorem sX0_splitLine_109 : Snd (miT Tb) RX0 cX0_splitLine 7 none 109 (i_istore 111 5) := snd_istore (by decide) dX0_splitLine_109
theorem sX0_splitLine_111 : Snd (miT Tb) RX0 cX0_splitLine 7 none 111 (i_iload 113 5) := snd_iload dX0_splitLine_111
theorem sX0_splitLine_113 : Snd (miT Tb) RX0 cX0_splitLine 7 none 113 (i_iload 115 4) := snd_iload dX0_splitLine_113
theorem sX0_splitLine_115 : Snd (miT Tb) RX0 cX0_splitLine 7 none 115 (i_icmp_ge 118 151) := snd_icmp_ge dX0_splitLine_115 rfl
theorem sX0_splitLine_118 : Snd (miT Tb) RX0 cX0_splitLine 7 none 118 (i_aload 119 0) := snd_aload_n rfl dX0_splitLine_118
theorem sX0_splitLine_119 : Snd (miT Tb) RX0 cX0_splitLine 7 none 119 (i_getR 0 6 122) := snd_getR rfl (by decide) (by decide) (by decide) (fun hK ho hs hq kk => gf_X0_30 hK ho hs hq rfl dX0_splitLine_119 kk)
theorem sX0_splitLine_122 : Snd (miT Tb) RX0 cX0_splitLine 7 none 122 (i_iload 124 5) := snd_iload dX0_splitLine_122
theorem sX0_splitLine_124 : Snd (miT Tb) RX0 cX0_splitLine 7 none 124 (i_aload 125 0) := snd_aload_n rfl dX0_splitLine_124
theorem sX0_splitLine_125 : Snd (miT Tb) RX0 cX0_splitLine 7 none 125 (i_getR 0 5 128) := snd_getR rfl (by decide) (by decide) (by decide) (fun hK ho hs hq kk => gf_X0_27 hK ho hs hq rfl dX0_splitLine_125 kk)
theorem sX0_splitLine_128 : Snd (miT Tb) RX0 cX0_splitLine 7 none 128 (i_const 129 (vI 2)) := snd_iconst dX0_splitLine_128
theorem sX0_splitLine_129 : Snd (miT Tb) RX0 cX0_splitLine 7 none 129 (i_iload 131 5) := snd_iload dX0_splitLine_129
theorem sX0_splitLine_131 : Snd (miT Tb) RX0 cX0_splitLine 7 none 131 (i_imul 132) := snd_imul dX0_splitLine_131
theorem sX0_splitLine_132 : Snd (miT Tb) RX0 cX0_splitLine 7 none 132 (i_iald 133) := snd_iald dX0_splitLine_132
theorem sX0_splitLine_133 : Snd (miT Tb) RX0 cX0_splitLine 7 none 133 (i_aload 134 0) := snd_aload_n rfl dX0_splitLine_133
theorem sX0_splitLine_134 : Snd (miT Tb) RX0 cX0_splitLine 7 none 134 (i_getR 0 6 137) := snd_getR rfl (by decide) (by decide) (by decide) (fun hK ho hs hq kk => gf_X0_30 hK ho hs hq rfl dX0_splitLine_134 kk)
theorem sX0_splitLine_137 : Snd (miT Tb) RX0 cX0_splitLine 7 none 137 (i_iload 139 5) := snd_iload dX0_splitLine_137
theorem sX0_splitLine_139 : Snd (miT Tb) RX0 cX0_splitLine 7 none 139 (i_iload 140 3) := snd_iload_n rfl dX0_splitLine_139
theorem sX0_splitLine_140 : Snd (miT Tb) RX0 cX0_splitLine 7 none 140 (i_stop) := snd_stop
theorem sX0_splitLine_143 : Snd (miT Tb) RX0 cX0_splitLine 7 none 143 (i_iadd 144) := snd_iadd dX0_splitLine_143
theorem sX0_splitLine_144 : Snd (miT Tb) RX0 cX0_splitLine 7 none 144 (i_iast 145) := snd_iast dX0_splitLine_144
theorem sX0_splitLine_145 : Snd (miT Tb) RX0 cX0_splitLine 7 none 145 (i_iinc 148 5 1) := snd_iinc (by decide) dX0_splitLine_145
theorem sX0_splitLine_148 : Snd (miT Tb) RX0 cX0_splitLine 7 none 148 (i_goto 111) := snd_goto dX0_splitLine_148 rfl
theorem sX0_splitLine_151 : Snd (miT Tb) RX0 cX0_splitLine 7 none 151 (i_aload 152 0) := snd_aload_n rfl dX0_splitLine_151
theorem sX0_splitLine_152 : Snd (miT Tb) RX0 cX0_splitLine 7 none 152 (i_iload 153 1) := snd_iload_n rfl dX0_splitLine_152
theorem sX0_splitLine_153 : Snd (miT Tb) RX0 cX0_splitLine 7 none 153 (i_iload 154 2) := snd_iload_n rfl dX0_splitLine_153
theorem sX0_splitLine_154 : Snd (miT Tb) RX0 cX0_splitLine 7 none 154 (i_iload 155 3) := snd_iload_n rfl dX0_splitLine_154
theorem sX0_splitLine_155 : Snd (miT Tb) RX0 cX0_splitLine 7 none 155 (i_stop) := snd_stop
theorem sX0_splitLine_158 : Snd (miT Tb) RX0 cX0_splitLine 7 none 158 (i_vret) := snd_vret dX0_splitLine_158
theorem kX0_splitLine : raA (okI (miT Tb) (yX0_splitLine, cX0_splitLine, 7, none)) tX0_splitLine := (raA_br (raA_br (raA_br (raA_br (raA_br (raA_br (raA_leaf sX0_splitLine_0) (raA_br (raA_leaf sX0_splitLine_1) (raA_leaf sX0_splitLine_2))) (raA_br (raA_leaf sX0_splitLine_5) (raA_br (raA_leaf sX0_splitLine_6) (raA_leaf sX0_splitLine_7)))) (raA_br (raA_br (raA_leaf sX0_splitLine_8) (raA_br (raA_leaf sX0_splitLine_9) (raA_leaf sX0_splitLine_10))) (raA_br (raA_leaf sX0_splitLine_13) (raA_br (raA_leaf sX0_splitLine_14) (raA_leaf sX0_splitLine_15))))) (raA_br (raA_br (raA_br (raA_leaf sX0_splitLine_16) (raA_br (raA_leaf sX0_splitLine_17) (raA_leaf sX0_splitLine_18))) (raA_br (raA_leaf sX0_splitLine_20) (raA_br (raA_leaf sX0_splitLine_21) (raA_leaf sX0_splitLine_23)))) (raA_br (raA_br (raA_leaf sX0_splitLine_25) (raA_br (raA_leaf sX0_splitLine_26) (raA_leaf sX0_splitLine_27))) (raA_br (raA_br (raA_leaf sX0_splitLine_28) (raA_leaf sX0_splitLine_31)) (raA_br (raA_leaf sX0_splitLine_32) (raA_leaf sX0_splitLine_34)))))) (raA_br (raA_br (raA_br (raA_br (raA_leaf sX0_splitLine_35) (raA_br (raA_leaf sX0_splitLine_36) (raA_leaf sX0_splitLine_37))) (raA_br (raA_leaf sX0_splitLine_38) (raA_br (raA_leaf sX0_splitLine_41) (raA_leaf sX0_splitLine_42)))) (raA_br (raA_br (raA_leaf sX0_splitLine_45) (raA_br (raA_leaf sX0_splitLine_46) (raA_leaf sX0_splitLine_48))) (raA_br (raA_leaf sX0_splitLine_49) (raA_br (raA_leaf sX0_splitLine_50) (raA_leaf sX0_splitLine_51))))) (raA_br (raA_br (raA_br (raA_leaf sX0_splitLine_52) (raA_br (raA_leaf sX0_splitLine_55) (raA_leaf sX0_splitLine_56))) (raA_br (raA_leaf sX0_splitLine_59) (raA_br (raA_leaf sX0_splitLine_60) (raA_leaf sX0_splitLine_62)))) (raA_br (raA_br (raA_leaf sX0_splitLine_63) (raA_br (raA_leaf sX0_splitLine_64) (raA_leaf sX0_splitLine_66))) (raA_br (raA_br (raA_leaf sX0_splitLine_67) (raA_leaf sX0_splitLine_70)) (raA_br (raA_leaf sX0_splitLine_72) (raA_leaf sX0_splitLine_74))))))) (raA_br (raA_br (raA_br (raA_br (raA_br (raA_leaf sX0_splitLine_75) (raA_br (raA_leaf sX0_splitLine_76) (raA_leaf sX0_splitLine_79))) (raA_br (raA_leaf sX0_splitLine_80) (raA_br (raA_leaf sX0_splitLine_82) (raA_leaf sX0_splitLine_83)))) (raA_br (raA_br (raA_leaf sX0_splitLine_84) (raA_br (raA_leaf sX0_splitLine_85) (raA_leaf sX0_splitLine_86))) (raA_br (raA_leaf sX0_splitLine_87) (raA_br (raA_leaf sX0_splitLine_90) (raA_leaf sX0_splitLine_91))))) (raA_br (raA_br (raA_br (raA_leaf sX0_splitLine_93) (raA_br (raA_leaf sX0_splitLine_94) (raA_leaf sX0_splitLine_95))) (raA_br (raA_leaf sX0_splitLine_97) (raA_br (raA_leaf sX0_splitLine_98) (raA_leaf sX0_splitLine_99)))) (raA_br (raA_br (raA_leaf sX0_splitLine_100) (raA_br (raA_leaf sX0_splitLine_101) (raA_leaf sX0_splitLine_102))) (raA_br (raA_br (raA_leaf sX0_splitLine_105) (raA_leaf sX0_splitLine_108)) (raA_br (raA_leaf sX0_splitLine_109) (raA_leaf sX0_splitLine_111)))))) (raA_br (raA_br (raA_br (raA_br (raA_leaf sX0_splitLine_113) (raA_br (raA_leaf sX0_splitLine_115) (raA_leaf sX0_splitLine_118))) (raA_br (raA_leaf sX0_splitLine_119) (raA_br (raA_leaf sX0_splitLine_122) (raA_leaf sX0_splitLine_124)))) (raA_br (raA_br (raA_leaf sX0_splitLine_125) (raA_br (raA_leaf sX0_splitLine_128) (raA_leaf sX0_splitLine_129))) (raA_br (raA_br (raA_leaf sX0_splitLine_131) (raA_leaf sX0_splitLine_132)) (raA_br (raA_leaf sX0_splitLine_133) (raA_leaf sX0_splitLine_134))))) (raA_br (raA_br (raA_br (raA_leaf sX0_splitLine_137) (raA_br (raA_leaf sX0_splitLine_139) (raA_leaf sX0_splitLine_140))) (raA_br (raA_leaf sX0_splitLine_143) (raA_br (raA_leaf sX0_splitLine_144) (raA_leaf sX0_splitLine_145)))) (raA_br (raA_br (raA_leaf sX0_splitLine_148) (raA_br (raA_leaf sX0_splitLine_151) (raA_leaf sX0_splitLine_152))) (raA_br (raA_br (raA_leaf sX0_splitLine_153) (raA_leaf sX0_splitLine_154)) (raA_br (raA_leaf sX0_splitLine_155) (raA_leaf sX0_splitLine_158))))))))
theorem sX11_areLayers_0 : Snd (miT Tb) RX11 cX11_areLayers 1 (some .boolean) 0 (i_iload 1 0) := snd_iload_n rfl dX11_areLayers_0
theorem sX11_areLayers_1 : Snd (miT Tb) RX11 cX11_areLayers 1 (some .boolean) 1 (i_const 2 (vI 1)) := snd_iconst dX11_areLayers_1
theorem sX11_areLayers_2 : Snd (miT Tb) RX11 cX11_areLayers 1 (some .boolean) 2 (i_icmp_lt 5 14) := snd_icmp_lt dX11_areLayers_2 rfl
theorem sX11_areLayers_5 : Snd (miT Tb) RX11 cX11_areLayers 1 (some .boolean) 5 (i_iload 6 0) := snd_iload_n rfl dX11_areLayers_5
theorem sX11_areLayers_6 : Snd (miT Tb) RX11 cX11_areLayers 1 (some .boolean) 6 (i_const 7 (vI 3)) := snd_iconst dX11_areLayers_6
theorem sX11_areLayers_7 : Snd (miT Tb) RX11 cX11_areLayers 1 (some .boolean) 7 (i_icmp_gt 10 14) := snd_icmp_gt dX11_areLayers_7 rfl
theorem sX11_areLayers_10 : Snd (miT Tb) RX11 cX11_areLayers 1 (some .boolean) 10 (i_const 11 (vI 1)) := snd_iconst dX11_areLayers_10
theorem sX11_areLayers_11 : Snd (miT Tb) RX11 cX11_areLayers 1 (some .boolean) 11 (i_goto 15) := snd_goto dX11_areLayers_11 rfl
theorem sX11_areLayers_14 : Snd (miT Tb) RX11 cX11_areLayers 1 (some .boolean) 14 (i_const 15 (vI 0)) := snd_iconst dX11_areLayers_14
theorem sX11_areLayers_15 : Snd (miT Tb) RX11 cX11_areLayers 1 (some .boolean) 15 (i_zret) := snd_zret dX11_areLayers_15
theorem kX11_areLayers : raA (okI (miT Tb) (yX11_areLayers, cX11_areLayers, 1, (some .boolean))) tX11_areLayers := (raA_br (raA_br (raA_br (raA_leaf sX11_areLayers_0) (raA_leaf sX11_areLayers_1)) (raA_br (raA_leaf sX11_areLayers_2) (raA_br (raA_leaf sX11_areLayers_5) (raA_leaf sX11_areLayers_6)))) (raA_br (raA_br (raA_leaf sX11_areLayers_7) (raA_leaf sX11_areLayers_10)) (raA_br (raA_leaf sX11_areLayers_11) (raA_br (raA_leaf sX11_areLayers_14) (raA_leaf sX11_areLayers_15)))))
theorem sX11_areLevels_0 : Snd (miT Tb) RX11 cX11_areLevels 1 (some .boolean) 0 (i_iload 1 0) := snd_iload_n rfl dX11_areLevels_0
theorem sX11_areLevels_1 : Snd (miT Tb) RX11 cX11_areLevels 1 (some .boolean) 1 (i_if_lt 4 13) := snd_if_lt dX11_areLevels_1 rfl
theorem sX11_areLevels_4 : Snd (miT Tb) RX11 cX11_areLevels 1 (some .boolean) 4 (i_iload 5 0) := snd_iload_n rfl dX11_areLevels_4
theorem sX11_areLevels_5 : Snd (miT Tb) RX11 cX11_areLevels 1 (some .boolean) 5 (i_const 6 (vI 3)) := snd_iconst dX11_areLevels_5
theorem sX11_areLevels_6 : Snd (miT Tb) RX11 cX11_areLevels 1 (some .boolean) 6 (i_icmp_gt 9 13) := snd_icmp_gt dX11_areLevels_6 rfl
theorem sX11_areLevels_9 : Snd (miT Tb) RX11 cX11_areLevels 1 (some .boolean) 9 (i_const 10 (vI 1)) := snd_iconst dX11_areLevels_9
theorem sX11_areLevels_10 : Snd (miT Tb) RX11 cX11_areLevels 1 (some .boolean) 10 (i_goto 14) := snd_goto dX11_areLevels_10 rfl
theorem sX11_areLevels_13 : Snd (miT Tb) RX11 cX11_areLevels 1 (some .boolean) 13 (i_const 14 (vI 0)) := snd_iconst dX11_areLevels_13
theorem sX11_areLevels_14 : Snd (miT Tb) RX11 cX11_areLevels 1 (some .boolean) 14 (i_zret) := snd_zret dX11_areLevels_14
theorem kX11_areLevels : raA (okI (miT Tb) (yX11_areLevels, cX11_areLevels, 1, (some .boolean))) tX11_areLevels := (raA_br (raA_br (raA_br (raA_leaf sX11_areLevels_0) (raA_leaf sX11_areLevels_1)) (raA_br (raA_leaf sX11_areLevels_4) (raA_leaf sX11_areLevels_5))) (raA_br (raA_br (raA_leaf sX11_areLevels_6) (raA_leaf sX11_areLevels_9)) (raA_br (raA_leaf sX11_areLevels_10) (raA_br (raA_leaf sX11_areLevels_13) (raA_leaf sX11_areLevels_14)))))
theorem sX11_bitsOf_0 : Snd (miT Tb) RX11 cX11_bitsOf 1 (some .int) 0 (i_const 2 (vI 32)) := snd_bipush (by decide) dX11_bitsOf_0
theorem sX11_bitsOf_2 : Snd (miT Tb) RX11 cX11_bitsOf 1 (some .int) 2 (i_iload 3 0) := snd_iload_n rfl dX11_bitsOf_2
theorem sX11_bitsOf_3 : Snd (miT Tb) RX11 cX11_bitsOf 1 (some .int) 3 (i_cS1 0 6) := snd_cS1 (fun hK hd hC h6 h7 h8 kk => iv_X11_125 hK (mc_0 hC) ⟨hd, by show _ ≤ 40 * (_ + 1); omega⟩ (Nat.le_refl _) h6 h7 h8 ⟨Nat.le_refl _, Nat.le_refl _⟩ dX11_bitsOf_3 kk)
theorem sX11_bitsOf_6 : Snd (miT Tb) RX11 cX11_bitsOf 1 (some .int) 6 (i_isub 7) := snd_isub dX11_bitsOf_6
theorem sX11_bitsOf_7 : Snd (miT Tb) RX11 cX11_bitsOf 1 (some .int) 7 (i_iret) := snd_iret dX11_bitsOf_7
theorem kX11_bitsOf : raA (okI (miT Tb) (yX11_bitsOf, cX11_bitsOf, 1, (some .int))) tX11_bitsOf := (raA_br (raA_br (raA_leaf sX11_bitsOf_0) (raA_leaf sX11_bitsOf_2)) (raA_br (raA_leaf sX11_bitsOf_3) (raA_br (raA_leaf sX11_bitsOf_6) (raA_leaf sX11_bitsOf_7))))
theorem sX11_encode_0 : Snd (miT Tb) RX11 cX11_encode 3 (some .int) 0 (i_iload 1 1) := snd_iload_n rfl dX11_encode_0
theorem sX11_encode_1 : Snd (miT Tb) RX11 cX11_encode 3 (some .int) 1 (i_cS1 14 4) := snd_cS1 (fun hK hd hC h6 h7 h8 kk => iv_X11_69 hK (mc_14 hC) ⟨hd, by show _ ≤ 40 * (_ + 1); omega⟩ (Nat.le_refl _) h6 h7 h8 ⟨Nat.le_refl _, Nat.le_refl _⟩ dX11_encode_1 kk)
theorem sX11_encode_4 : Snd (miT Tb) RX11 cX11_encode 3 (some .int) 4 (i_if_eq 7 14) := snd_if_eq dX11_encode_4 rfl
theorem sX11_encode_7 : Snd (miT Tb) RX11 cX11_encode 3 (some .int) 7 (i_iload 8 2) := snd_iload_n rfl dX11_encode_7
theorem sX11_encode_8 : Snd (miT Tb) RX11 cX11_encode 3 (some .int) 8 (i_cS1 13 11) := snd_cS1 (fun hK hd hC h6 h7 h8 kk => iv_X11_72 hK (mc_13 hC) ⟨hd, by show _ ≤ 40 * (_ + 1); omega⟩ (Nat.le_refl _) h6 h7 h8 ⟨Nat.le_refl _, Nat.le_refl _⟩ dX11_encode_8 kk)
theorem sX11_encode_11 : Snd (miT Tb) RX11 cX11_encode 3 (some .int) 11 (i_if_ne 14 24) := snd_if_ne dX11_encode_11 rfl
theorem sX11_encode_14 : Snd (miT Tb) RX11 cX11_encode 3 (some .int) 14 (i_stop) := snd_stop
theorem sX11_encode_17 : Snd (miT Tb) RX11 cX11_encode 3 (some .int) 17 (i_dup 18) := snd_dup dX11_encode_17
theorem sX11_encode_18 : Snd (miT Tb) RX11 cX11_encode 3 (some .int) 18 (i_stop) := snd_stop
theorem sX11_encode_20 : Snd (miT Tb) RX11 cX11_encode 3 (some .int) 20 (i_stop) := snd_stop
theorem sX11_encode_23 : Snd (miT Tb) RX11 cX11_encode 3 (some .int) 23 (i_stop) := snd_stop
theorem sX11_encode_24 : Snd (miT Tb) RX11 cX11_encode 3 (some .int) 24 (i_aload 25 0) := snd_aload_n rfl dX11_encode_24
theorem sX11_encode_25 : Snd (miT Tb) RX11 cX11_encode 3 (some .int) 25 (i_getR 10 3 28) := snd_getR rfl (by decide) (by decide) (by decide) (fun hK ho hs hq kk => gf_X11_29 hK ho hs hq rfl dX11_encode_25 kk)
theorem sX11_encode_28 : Snd (miT Tb) RX11 cX11_encode 3 (some .int) 28 (i_aload 29 0) := snd_aload_n rfl dX11_encode_28
theorem sX11_encode_29 : Snd (miT Tb) RX11 cX11_encode 3 (some .int) 29 (i_getR 10 0 32) := snd_getR rfl (by decide) (by decide) (by decide) (fun hK ho hs hq kk => gf_X11_10 hK ho hs hq rfl dX11_encode_29 kk)
theorem sX11_encode_32 : Snd (miT Tb) RX11 cX11_encode 3 (some .int) 32 (i_iload 33 1) := snd_iload_n rfl dX11_encode_32
theorem sX11_encode_33 : Snd (miT Tb) RX11 cX11_encode 3 (some .int) 33 (i_iload 34 2) := snd_iload_n rfl dX11_encode_33
theorem sX11_encode_34 : Snd (miT Tb) RX11 cX11_encode 3 (some .int) 34 (i_aload 35 0) := snd_aload_n rfl dX11_encode_34
theorem sX11_encode_35 : Snd (miT Tb) RX11 cX11_encode 3 (some .int) 35 (i_getR 10 2 38) := snd_getR rfl (by decide) (by decide) (by decide) (fun hK ho hs hq kk => gf_X11_22 hK ho hs hq rfl dX11_encode_35 kk)
theorem sX11_encode_38 : Snd (miT Tb) RX11 cX11_encode 3 (some .int) 38 (i_cV4 84 3 41) := snd_cV4 (fun hK hd hC ho hs h6 h7 h8 kk => iv_X11_77 hK (mc_84 hC) ho hs ⟨hd, by show _ ≤ 40 * (_ + 1); omega⟩ (Nat.le_refl _) h6 h7 h8 ⟨Nat.le_refl _, Nat.le_refl _⟩ dX11_encode_38 kk)
theorem sX11_encode_41 : Snd (miT Tb) RX11 cX11_encode 3 (some .int) 41 (i_aload 42 0) := snd_aload_n rfl dX11_encode_41
theorem sX11_encode_42 : Snd (miT Tb) RX11 cX11_encode 3 (some .int) 42 (i_getR 10 2 45) := snd_getR rfl (by decide) (by decide) (by decide) (fun hK ho hs hq kk => gf_X11_22 hK ho hs hq rfl dX11_encode_42 kk)
theorem sX11_encode_45 : Snd (miT Tb) RX11 cX11_encode 3 (some .int) 45 (i_cV0 75 1 48) := snd_cV0 (fun hK hd hC ho hs h6 h7 h8 kk => iv_X11_81 hK (mc_75 hC) ho hs ⟨hd, by show _ ≤ 40 * (_ + 1); omega⟩ (Nat.le_refl _) h6 h7 h8 ⟨Nat.le_refl _, Nat.le_refl _⟩ dX11_encode_45 kk)
theorem sX11_encode_48 : Snd (miT Tb) RX11 cX11_encode 3 (some .int) 48 (i_iret) := snd_iret dX11_encode_48
theorem kX11_encode : raA (okI (miT Tb) (yX11_encode, cX11_encode, 3, (some .int))) tX11_encode := (raA_br (raA_br (raA_br (raA_br (raA_leaf sX11_encode_0) (raA_br (raA_leaf sX11_encode_1) (raA_leaf sX11_encode_4))) (raA_br (raA_leaf sX11_encode_7) (raA_br (raA_leaf sX11_encode_8) (raA_leaf sX11_encode_11)))) (raA_br (raA_br (raA_leaf sX11_encode_14) (raA_br (raA_leaf sX11_encode_17) (raA_leaf sX11_encode_18))) (raA_br (raA_leaf sX11_encode_20) (raA_br (raA_leaf sX11_encode_23) (raA_leaf sX11_encode_24))))) (raA_br (raA_br (raA_br (raA_leaf sX11_encode_25) (raA_br (raA_leaf sX11_encode_28) (raA_leaf sX11_encode_29))) (raA_br (raA_leaf sX11_encode_32) (raA_br (raA_leaf sX11_encode_33) (raA_leaf sX11_encode_34)))) (raA_br (raA_br (raA_leaf sX11_encode_35) (raA_br (raA_leaf sX11_encode_38) (raA_leaf sX11_encode_41))) (raA_br (raA_leaf sX11_encode_42) (raA_br (raA_leaf sX11_encode_45) (raA_leaf sX11_encode_48))))))
theorem sX11_firstBandOf_0 : Snd (miT Tb) RX11 cX11_firstBandOf 1 (some .int) 0 (i_iload 1 0) := snd_iload_n rfl dX11_firstBandOf_0
theorem sX11_firstBandOf_1 : Snd (miT Tb) RX11 cX11_firstBandOf 1 (some .int) 1 (i_if_ne 4 8) := snd_if_ne dX11_firstBandOf_1 rfl
theorem sX11_firstBandOf_4 : Snd (miT Tb) RX11 cX11_firstBandOf 1 (some .int) 4 (i_const 5 (vI 0)) := snd_iconst dX11_firstBandOf_4
theorem sX11_firstBandOf_5 : Snd (miT Tb) RX11 cX11_firstBandOf 1 (some .int) 5 (i_goto 13) := snd_goto dX11_firstBandOf_5 rfl
theorem sX11_firstBandOf_8 : Snd (miT Tb) RX11 cX11_firstBandOf 1 (some .int) 8 (i_const 9 (vI 3)) := snd_iconst dX11_firstBandOf_8
theorem sX11_firstBandOf_9 : Snd (miT Tb) RX11 cX11_firstBandOf 1 (some .int) 9 (i_iload 10 0) := snd_iload_n rfl dX11_firstBandOf_9
theorem sX11_firstBandOf_10 : Snd (miT Tb) RX11 cX11_firstBandOf 1 (some .int) 10 (i_imul 11) := snd_imul dX11_firstBandOf_10
theorem sX11_firstBandOf_11 : Snd (miT Tb) RX11 cX11_firstBandOf 1 (some .int) 11 (i_const 12 (vI 2)) := snd_iconst dX11_firstBandOf_11
theorem sX11_firstBandOf_12 : Snd (miT Tb) RX11 cX11_firstBandOf 1 (some .int) 12 (i_isub 13) := snd_isub dX11_firstBandOf_12
theorem sX11_firstBandOf_13 : Snd (miT Tb) RX11 cX11_firstBandOf 1 (some .int) 13 (i_iret) := snd_iret dX11_firstBandOf_13
theorem kX11_firstBandOf : raA (okI (miT Tb) (yX11_firstBandOf, cX11_firstBandOf, 1, (some .int))) tX11_firstBandOf := (raA_br (raA_br (raA_br (raA_leaf sX11_firstBandOf_0) (raA_leaf sX11_firstBandOf_1)) (raA_br (raA_leaf sX11_firstBandOf_4) (raA_br (raA_leaf sX11_firstBandOf_5) (raA_leaf sX11_firstBandOf_8)))) (raA_br (raA_br (raA_leaf sX11_firstBandOf_9) (raA_leaf sX11_firstBandOf_10)) (raA_br (raA_leaf sX11_firstBandOf_11) (raA_br (raA_leaf sX11_firstBandOf_12) (raA_leaf sX11_firstBandOf_13)))))
theorem sX11_lastBandOf_0 : Snd (miT Tb) RX11 cX11_lastBandOf 1 (some .int) 0 (i_const 1 (vI 3)) := snd_iconst dX11_lastBandOf_0
theorem sX11_lastBandOf_1 : Snd (miT Tb) RX11 cX11_lastBandOf 1 (some .int) 1 (i_iload 2 0) := snd_iload_n rfl dX11_lastBandOf_1
theorem sX11_lastBandOf_2 : Snd (miT Tb) RX11 cX11_lastBandOf 1 (some .int) 2 (i_imul 3) := snd_imul dX11_lastBandOf_2
theorem sX11_lastBandOf_3 : Snd (miT Tb) RX11 cX11_lastBandOf 1 (some .int) 3 (i_iret) := snd_iret dX11_lastBandOf_3
theorem kX11_lastBandOf : raA (okI (miT Tb) (yX11_lastBandOf, cX11_lastBandOf, 1, (some .int))) tX11_lastBandOf := (raA_br (raA_br (raA_leaf sX11_lastBandOf_0) (raA_leaf sX11_lastBandOf_1)) (raA_br (raA_leaf sX11_lastBandOf_2) (raA_leaf sX11_lastBandOf_3)))
theorem sX11_passesOf_0 : Snd (miT Tb) RX11 cX11_passesOf 1 (some .int) 0 (i_iload 1 0) := snd_iload_n rfl dX11_passesOf_0
theorem sX11_passesOf_1 : Snd (miT Tb) RX11 cX11_passesOf 1 (some .int) 1 (i_if_ne 4 8) := snd_if_ne dX11_passesOf_1 rfl
theorem sX11_passesOf_4 : Snd (miT Tb) RX11 cX11_passesOf 1 (some .int) 4 (i_const 5 (vI 0)) := snd_iconst dX11_passesOf_4
theorem sX11_passesOf_5 : Snd (miT Tb) RX11 cX11_passesOf 1 (some .int) 5 (i_goto 13) := snd_goto dX11_passesOf_5 rfl
theorem sX11_passesOf_8 : Snd (miT Tb) RX11 cX11_passesOf 1 (some .int) 8 (i_const 9 (vI 3)) := snd_iconst dX11_passesOf_8
theorem sX11_passesOf_9 : Snd (miT Tb) RX11 cX11_passesOf 1 (some .int) 9 (i_iload 10 0) := snd_iload_n rfl dX11_passesOf_9
theorem sX11_passesOf_10 : Snd (miT Tb) RX11 cX11_passesOf 1 (some .int) 10 (i_imul 11) := snd_imul dX11_passesOf_10
theorem sX11_passesOf_11 : Snd (miT Tb) RX11 cX11_passesOf 1 (some .int) 11 (i_const 12 (vI 2)) := snd_iconst dX11_passesOf_11
theorem sX11_passesOf_12 : Snd (miT Tb) RX11 cX11_passesOf 1 (some .int) 12 (i_isub 13) := snd_isub dX11_passesOf_12
theorem sX11_passesOf_13 : Snd (miT Tb) RX11 cX11_passesOf 1 (some .int) 13 (i_iret) := snd_iret dX11_passesOf_13
theorem kX11_passesOf : raA (okI (miT Tb) (yX11_passesOf, cX11_passesOf, 1, (some .int))) tX11_passesOf := (raA_br (raA_br (raA_br (raA_leaf sX11_passesOf_0) (raA_leaf sX11_passesOf_1)) (raA_br (raA_leaf sX11_passesOf_4) (raA_br (raA_leaf sX11_passesOf_5) (raA_leaf sX11_passesOf_8)))) (raA_br (raA_br (raA_leaf sX11_passesOf_9) (raA_leaf sX11_passesOf_10)) (raA_br (raA_leaf sX11_passesOf_11) (raA_br (raA_leaf sX11_passesOf_12) (raA_leaf sX11_passesOf_13)))))
theorem sX12_acrossOf_0 : Snd (miT Tb) RX12 cX12_acrossOf 2 (some .int) 0 (i_aload 1 0) := snd_aload_n rfl dX12_acrossOf_0
theorem sX12_acrossOf_1 : Snd (miT Tb) RX12 cX12_acrossOf 2 (some .int) 1 (i_iload 2 1) := snd_iload_n rfl dX12_acrossOf_1
theorem sX12_acrossOf_2 : Snd (miT Tb) RX12 cX12_acrossOf 2 (some .int) 2 (i_const 4 (vI 11)) := snd_bipush (by decide) dX12_acrossOf_2
theorem sX12_acrossOf_4 : Snd (miT Tb) RX12 cX12_acrossOf 2 (some .int) 4 (i_isub 5) := snd_isub dX12_acrossOf_4
theorem sX12_acrossOf_5 : Snd (miT Tb) RX12 cX12_acrossOf 2 (some .int) 5 (i_cV1 40 11 8) := snd_cV1 (fun hK hd hC ho hs h6 h7 h8 kk => iv_X12_231 hK (mc_40 hC) ho hs ⟨hd, by show _ ≤ 40 * (_ + 1); omega⟩ (Nat.le_refl _) h6 h7 h8 ⟨Nat.le_refl _, Nat.le_refl _⟩ dX12_acrossOf_5 kk)
theorem sX12_acrossOf_8 : Snd (miT Tb) RX12 cX12_acrossOf 2 (some .int) 8 (i_aload 9 0) := snd_aload_n rfl dX12_acrossOf_8
theorem sX12_acrossOf_9 : Snd (miT Tb) RX12 cX12_acrossOf 2 (some .int) 9 (i_iload 10 1) := snd_iload_n rfl dX12_acrossOf_9
theorem sX12_acrossOf_10 : Snd (miT Tb) RX12 cX12_acrossOf 2 (some .int) 10 (i_const 12 (vI 9)) := snd_bipush (by decide) dX12_acrossOf_10
theorem sX12_acrossOf_12 : Snd (miT Tb) RX12 cX12_acrossOf 2 (some .int) 12 (i_isub 13) := snd_isub dX12_acrossOf_12
theorem sX12_acrossOf_13 : Snd (miT Tb) RX12 cX12_acrossOf 2 (some .int) 13 (i_cV1 40 11 16) := snd_cV1 (fun hK hd hC ho hs h6 h7 h8 kk => iv_X12_231 hK (mc_40 hC) ho hs ⟨hd, by show _ ≤ 40 * (_ + 1); omega⟩ (Nat.le_refl _) h6 h7 h8 ⟨Nat.le_refl _, Nat.le_refl _⟩ dX12_acrossOf_13 kk)
theorem sX12_acrossOf_16 : Snd (miT Tb) RX12 cX12_acrossOf 2 (some .int) 16 (i_iadd 17) := snd_iadd dX12_acrossOf_16
theorem sX12_acrossOf_17 : Snd (miT Tb) RX12 cX12_acrossOf 2 (some .int) 17 (i_aload 18 0) := snd_aload_n rfl dX12_acrossOf_17
theorem sX12_acrossOf_18 : Snd (miT Tb) RX12 cX12_acrossOf 2 (some .int) 18 (i_iload 19 1) := snd_iload_n rfl dX12_acrossOf_18
theorem sX12_acrossOf_19 : Snd (miT Tb) RX12 cX12_acrossOf 2 (some .int) 19 (i_const 21 (vI 9)) := snd_bipush (by decide) dX12_acrossOf_19
theorem sX12_acrossOf_21 : Snd (miT Tb) RX12 cX12_acrossOf 2 (some .int) 21 (i_iadd 22) := snd_iadd dX12_acrossOf_21
theorem sX12_acrossOf_22 : Snd (miT Tb) RX12 cX12_acrossOf 2 (some .int) 22 (i_cV1 40 11 25) := snd_cV1 (fun hK hd hC ho hs h6 h7 h8 kk => iv_X12_231 hK (mc_40 hC) ho hs ⟨hd, by show _ ≤ 40 * (_ + 1); omega⟩ (Nat.le_refl _) h6 h7 h8 ⟨Nat.le_refl _, Nat.le_refl _⟩ dX12_acrossOf_22 kk)
theorem sX12_acrossOf_25 : Snd (miT Tb) RX12 cX12_acrossOf 2 (some .int) 25 (i_iadd 26) := snd_iadd dX12_acrossOf_25
theorem sX12_acrossOf_26 : Snd (miT Tb) RX12 cX12_acrossOf 2 (some .int) 26 (i_aload 27 0) := snd_aload_n rfl dX12_acrossOf_26
theorem sX12_acrossOf_27 : Snd (miT Tb) RX12 cX12_acrossOf 2 (some .int) 27 (i_iload 28 1) := snd_iload_n rfl dX12_acrossOf_27
theorem sX12_acrossOf_28 : Snd (miT Tb) RX12 cX12_acrossOf 2 (some .int) 28 (i_const 30 (vI 11)) := snd_bipush (by decide) dX12_acrossOf_28
theorem sX12_acrossOf_30 : Snd (miT Tb) RX12 cX12_acrossOf 2 (some .int) 30 (i_iadd 31) := snd_iadd dX12_acrossOf_30
theorem sX12_acrossOf_31 : Snd (miT Tb) RX12 cX12_acrossOf 2 (some .int) 31 (i_cV1 40 11 34) := snd_cV1 (fun hK hd hC ho hs h6 h7 h8 kk => iv_X12_231 hK (mc_40 hC) ho hs ⟨hd, by show _ ≤ 40 * (_ + 1); omega⟩ (Nat.le_refl _) h6 h7 h8 ⟨Nat.le_refl _, Nat.le_refl _⟩ dX12_acrossOf_31 kk)
theorem sX12_acrossOf_34 : Snd (miT Tb) RX12 cX12_acrossOf 2 (some .int) 34 (i_iadd 35) := snd_iadd dX12_acrossOf_34
theorem sX12_acrossOf_35 : Snd (miT Tb) RX12 cX12_acrossOf 2 (some .int) 35 (i_iret) := snd_iret dX12_acrossOf_35
theorem kX12_acrossOf : raA (okI (miT Tb) (yX12_acrossOf, cX12_acrossOf, 2, (some .int))) tX12_acrossOf := (raA_br (raA_br (raA_br (raA_br (raA_leaf sX12_acrossOf_0) (raA_br (raA_leaf sX12_acrossOf_1) (raA_leaf sX12_acrossOf_2))) (raA_br (raA_leaf sX12_acrossOf_4) (raA_br (raA_leaf sX12_acrossOf_5) (raA_leaf sX12_acrossOf_8)))) (raA_br (raA_br (raA_leaf sX12_acrossOf_9) (raA_br (raA_leaf sX12_acrossOf_10) (raA_leaf sX12_acrossOf_12))) (raA_br (raA_leaf sX12_acrossOf_13) (raA_br (raA_leaf sX12_acrossOf_16) (raA_leaf sX12_acrossOf_17))))) (raA_br (raA_br (raA_br (raA_leaf sX12_acrossOf_18) (raA_br (raA_leaf sX12_acrossOf_19) (raA_leaf sX12_acrossOf_21))) (raA_br (raA_leaf sX12_acrossOf_22) (raA_br (raA_leaf sX12_acrossOf_25) (raA_leaf sX12_acrossOf_26)))) (raA_br (raA_br (raA_leaf sX12_acrossOf_27) (raA_br (raA_leaf sX12_acrossOf_28) (raA_leaf sX12_acrossOf_30))) (raA_br (raA_leaf sX12_acrossOf_31) (raA_br (raA_leaf sX12_acrossOf_34) (raA_leaf sX12_acrossOf_35))))))
theorem sX12_beBand_0 : Snd (miT Tb) RX12 cX12_beBand 6 none 0 (i_aload 1 0) := snd_aload_n rfl dX12_beBand_0
theorem sX12_beBand_1 : Snd (miT Tb) RX12 cX12_beBand 6 none 1 (i_getR 11 9 4) := snd_getR rfl (by decide) (by decide) (by decide) (fun hK ho hs hq kk => gf_X12_35 hK ho hs hq rfl dX12_beBand_1 kk)
theorem sX12_beBand_4 : Snd (miT Tb) RX12 cX12_beBand 6 none 4 (i_iload 5 1) := snd_iload_n rfl dX12_beBand_4
theorem sX12_beBand_5 : Snd (miT Tb) RX12 cX12_beBand 6 none 5 (i_iload 6 2) := snd_iload_n rfl dX12_beBand_5
theorem sX12_beBand_6 : Snd (miT Tb) RX12 cX12_beBand 6 none 6 (i_iast 7) := snd_iast dX12_beBand_6
theorem sX12_beBand_7 : Snd (miT Tb) RX12 cX12_beBand 6 none 7 (i_aload 8 0) := snd_aload_n rfl dX12_beBand_7
theorem sX12_beBand_8 : Snd (miT Tb) RX12 cX12_beBand 6 none 8 (i_getR 11 10 11) := snd_getR rfl (by decide) (by decide) (by decide) (fun hK ho hs hq kk => gf_X12_38 hK ho hs hq rfl dX12_beBand_8 kk)
theorem sX12_beBand_11 : Snd (miT Tb) RX12 cX12_beBand 6 none 11 (i_iload 12 1) := snd_iload_n rfl dX12_beBand_11
theorem sX12_beBand_12 : Snd (miT Tb) RX12 cX12_beBand 6 none 12 (i_iload 13 3) := snd_iload_n rfl dX12_beBand_12
theorem sX12_beBand_13 : Snd (miT Tb) RX12 cX12_beBand 6 none 13 (i_iast 14) := snd_iast dX12_beBand_13
theorem sX12_beBand_14 : Snd (miT Tb) RX12 cX12_beBand 6 none 14 (i_aload 15 0) := snd_aload_n rfl dX12_beBand_14
theorem sX12_beBand_15 : Snd (miT Tb) RX12 cX12_beBand 6 none 15 (i_getR 11 11 18) := snd_getR rfl (by decide) (by decide) (by decide) (fun hK ho hs hq kk => gf_X12_41 hK ho hs hq rfl dX12_beBand_15 kk)
theorem sX12_beBand_18 : Snd (miT Tb) RX12 cX12_beBand 6 none 18 (i_iload 19 1) := snd_iload_n rfl dX12_beBand_18
theorem sX12_beBand_19 : Snd (miT Tb) RX12 cX12_beBand 6 none 19 (i_iload 21 4) := snd_iload dX12_beBand_19
theorem sX12_beBand_21 : Snd (miT Tb) RX12 cX12_beBand 6 none 21 (i_iast 22) := snd_iast dX12_beBand_21
theorem sX12_beBand_22 : Snd (miT Tb) RX12 cX12_beBand 6 none 22 (i_aload 23 0) := snd_aload_n rfl dX12_beBand_22
theorem sX12_beBand_23 : Snd (miT Tb) RX12 cX12_beBand 6 none 23 (i_getR 11 12 26) := snd_getR rfl (by decide) (by decide) (by decide) (fun hK ho hs hq kk => gf_X12_44 hK ho hs hq rfl dX12_beBand_23 kk)
theorem sX12_beBand_26 : Snd (miT Tb) RX12 cX12_beBand 6 none 26 (i_iload 27 1) := snd_iload_n rfl dX12_beBand_26
theorem sX12_beBand_27 : Snd (miT Tb) RX12 cX12_beBand 6 none 27 (i_const 28 (vI 0)) := snd_iconst dX12_beBand_27
theorem sX12_beBand_28 : Snd (miT Tb) RX12 cX12_beBand 6 none 28 (i_iast 29) := snd_iast dX12_beBand_28
theorem sX12_beBand_29 : Snd (miT Tb) RX12 cX12_beBand 6 none 29 (i_aload 30 0) := snd_aload_n rfl dX12_beBand_29
theorem sX12_beBand_30 : Snd (miT Tb) RX12 cX12_beBand 6 none 30 (i_getR 11 15 33) := snd_getR rfl (by decide) (by decide) (by decide) (fun hK ho hs hq kk => gf_X12_54 hK ho hs hq rfl dX12_beBand_30 kk)
theorem sX12_beBand_33 : Snd (miT Tb) RX12 cX12_beBand 6 none 33 (i_iload 34 1) := snd_iload_n rfl dX12_beBand_33
theorem sX12_beBand_34 : Snd (miT Tb) RX12 cX12_beBand 6 none 34 (i_const 35 (vI 0)) := snd_iconst dX12_beBand_34
theorem sX12_beBand_35 : Snd (miT Tb) RX12 cX12_beBand 6 none 35 (i_iast 36) := snd_iast dX12_beBand_35
theorem sX12_beBand_36 : Snd (miT Tb) RX12 cX12_beBand 6 none 36 (i_aload 37 0) := snd_aload_n rfl dX12_beBand_36
theorem sX12_beBand_37 : Snd (miT Tb) RX12 cX12_beBand 6 none 37 (i_getR 11 16 40) := snd_getR rfl (by decide) (by decide) (by decide) (fun hK ho hs hq kk => gf_X12_57 hK ho hs hq rfl dX12_beBand_37 kk)
theorem sX12_beBand_40 : Snd (miT Tb) RX12 cX12_beBand 6 none 40 (i_iload 41 1) := snd_iload_n rfl dX12_beBand_40
theorem sX12_beBand_41 : Snd (miT Tb) RX12 cX12_beBand 6 none 41 (i_const 42 (vI 0)) := snd_iconst dX12_beBand_41
theorem sX12_beBand_42 : Snd (miT Tb) RX12 cX12_beBand 6 none 42 (i_iast 43) := snd_iast dX12_beBand_42
theorem sX12_beBand_43 : Snd (miT Tb) RX12 cX12_beBand 6 none 43 (i_aload 44 0) := snd_aload_n rfl dX12_beBand_43
theorem sX12_beBand_44 : Snd (miT Tb) RX12 cX12_beBand 6 none 44 (i_getR 11 17 47) := snd_getR rfl (by decide) (by decide) (by decide) (fun hK ho hs hq kk => gf_X12_60 hK ho hs hq rfl dX12_beBand_44 kk)
theorem sX12_beBand_47 : Snd (miT Tb) RX12 cX12_beBand 6 none 47 (i_iload 48 1) := snd_iload_n rfl dX12_beBand_47
theorem sX12_beBand_48 : Snd (miT Tb) RX12 cX12_beBand 6 none 48 (i_const 49 (vI 3)) := snd_iconst dX12_beBand_48
theorem sX12_beBand_49 : Snd (miT Tb) RX12 cX12_beBand 6 none 49 (i_iast 50) := snd_iast dX12_beBand_49
theorem sX12_beBand_50 : Snd (miT Tb) RX12 cX12_beBand 6 none 50 (i_const 52 (vI 64)) := snd_bipush (by decide) dX12_beBand_50
theorem sX12_beBand_52 : Snd (miT Tb) RX12 cX12_beBand 6 none 52 (i_iload 53 1) := snd_iload_n rfl dX12_beBand_52
theorem sX12_beBand_53 : Snd (miT Tb) RX12 cX12_beBand 6 none 53 (i_imul 54) := snd_imul dX12_beBand_53
theorem sX12_beBand_54 : Snd (miT Tb) RX12 cX12_beBand 6 none 54 (i_istore 56 5) := snd_istore (by decide) dX12_beBand_54
theorem sX12_beBand_56 : Snd (miT Tb) RX12 cX12_beBand 6 none 56 (i_iload 58 5) := snd_iload dX12_beBand_56
theorem sX12_beBand_58 : Snd (miT Tb) RX12 cX12_beBand 6 none 58 (i_const 60 (vI 64)) := snd_bipush (by decide) dX12_beBand_58
theorem sX12_beBand_60 : Snd (miT Tb) RX12 cX12_beBand 6 none 60 (i_iload 61 1) := snd_iload_n rfl dX12_beBand_60
theorem sX12_beBand_61 : Snd (miT Tb) RX12 cX12_beBand 6 none 61 (i_imul 62) := snd_imul dX12_beBand_61
theorem sX12_beBand_62 : Snd (miT Tb) RX12 cX12_beBand 6 none 62 (i_const 64 (vI 64)) := snd_bipush (by decide) dX12_beBand_62
theorem sX12_beBand_64 : Snd (miT Tb) RX12 cX12_beBand 6 none 64 (i_iadd 65) := snd_iadd dX12_beBand_64
theorem sX12_beBand_65 : Snd (miT Tb) RX12 cX12_beBand 6 none 65 (i_icmp_ge 68 90) := snd_icmp_ge dX12_beBand_65 rfl
theorem sX12_beBand_68 : Snd (miT Tb) RX12 cX12_beBand 6 none 68 (i_aload 69 0) := snd_aload_n rfl dX12_beBand_68
theorem sX12_beBand_69 : Snd (miT Tb) RX12 cX12_beBand 6 none 69 (i_getR 11 13 72) := snd_getR rfl (by decide) (by decide) (by decide) (fun hK ho hs hq kk => gf_X12_47 hK ho hs hq rfl dX12_beBand_69 kk)
theorem sX12_beBand_72 : Snd (miT Tb) RX12 cX12_beBand 6 none 72 (i_iload 74 5) := snd_iload dX12_beBand_72
theorem sX12_beBand_74 : Snd (miT Tb) RX12 cX12_beBand 6 none 74 (i_const 75 (vI 0)) := snd_iconst dX12_beBand_74
theorem sX12_beBand_75 : Snd (miT Tb) RX12 cX12_beBand 6 none 75 (i_iast 76) := snd_iast dX12_beBand_75
theorem sX12_beBand_76 : Snd (miT Tb) RX12 cX12_beBand 6 none 76 (i_aload 77 0) := snd_aload_n rfl dX12_beBand_76
theorem sX12_beBand_77 : Snd (miT Tb) RX12 cX12_beBand 6 none 77 (i_getR 11 14 80) := snd_getR rfl (by decide) (by decide) (by decide) (fun hK ho hs hq kk => gf_X12_50 hK ho hs hq rfl dX12_beBand_77 kk)
theorem sX12_beBand_80 : Snd (miT Tb) RX12 cX12_beBand 6 none 80 (i_iload 82 5) := snd_iload dX12_beBand_80
theorem sX12_beBand_82 : Snd (miT Tb) RX12 cX12_beBand 6 none 82 (i_const 83 (vI 0)) := snd_iconst dX12_beBand_82
theorem sX12_beBand_83 : Snd (miT Tb) RX12 cX12_beBand 6 none 83 (i_zast 84) := snd_zast dX12_beBand_83
theorem sX12_beBand_84 : Snd (miT Tb) RX12 cX12_beBand 6 none 84 (i_iinc 87 5 1) := snd_iinc (by decide) dX12_beBand_84
theorem sX12_beBand_87 : Snd (miT Tb) RX12 cX12_beBand 6 none 87 (i_goto 56) := snd_goto dX12_beBand_87 rfl
theorem sX12_beBand_90 : Snd (miT Tb) RX12 cX12_beBand 6 none 90 (i_vret) := snd_vret dX12_beBand_90
theorem kX12_beBand : raA (okI (miT Tb) (yX12_beBand, cX12_beBand, 6, none)) tX12_beBand := (raA_br (raA_br (raA_br (raA_br (raA_br (raA_leaf sX12_beBand_0) (raA_br (raA_leaf sX12_beBand_1) (raA_leaf sX12_beBand_4))) (raA_br (raA_br (raA_leaf sX12_beBand_5) (raA_leaf sX12_beBand_6)) (raA_br (raA_leaf sX12_beBand_7) (raA_leaf sX12_beBand_8)))) (raA_br (raA_br (raA_leaf sX12_beBand_11) (raA_br (raA_leaf sX12_beBand_12) (raA_leaf sX12_beBand_13))) (raA_br (raA_br (raA_leaf sX12_beBand_14) (raA_leaf sX12_beBand_15)) (raA_br (raA_leaf sX12_beBand_18) (raA_leaf sX12_beBand_19))))) (raA_br (raA_br (raA_br (raA_leaf sX12_beBand_21) (raA_br (raA_leaf sX12_beBand_22) (raA_leaf sX12_beBand_23))) (raA_br (raA_br (raA_leaf sX12_beBand_26) (raA_leaf sX12_beBand_27)) (raA_br (raA_leaf sX12_beBand_28) (raA_leaf sX12_beBand_29)))) (raA_br (raA_br (raA_br (raA_leaf sX12_beBand_30) (raA_leaf sX12_beBand_33)) (raA_br (raA_leaf sX12_beBand_34) (raA_leaf sX12_beBand_35))) (raA_br (raA_br (raA_leaf sX12_beBand_36) (raA_leaf sX12_beBand_37)) (raA_br (raA_leaf sX12_beBand_40) (raA_leaf sX12_beBand_41)))))) (raA_br (raA_br (raA_br (raA_br (raA_leaf sX12_beBand_42) (raA_br (raA_leaf sX12_beBand_43) (raA_leaf sX12_beBand_44))) (raA_br (raA_br (raA_leaf sX12_beBand_47) (raA_leaf sX12_beBand_48)) (raA_br (raA_leaf sX12_beBand_49) (raA_leaf sX12_beBand_50)))) (raA_br (raA_br (raA_br (raA_leaf sX12_beBand_52) (raA_leaf sX12_beBand_53)) (raA_br (raA_leaf sX12_beBand_54) (raA_leaf sX12_beBand_56))) (raA_br (raA_br (raA_leaf sX12_beBand_58) (raA_leaf sX12_beBand_60)) (raA_br (raA_leaf sX12_beBand_61) (raA_leaf sX12_beBand_62))))) (raA_br (raA_br (raA_br (raA_leaf sX12_beBand_64) (raA_br (raA_leaf sX12_beBand_65) (raA_leaf sX12_beBand_68))) (raA_br (raA_br (raA_leaf sX12_beBand_69) (raA_leaf sX12_beBand_72)) (raA_br (raA_leaf sX12_beBand_74) (raA_leaf sX12_beBand_75)))) (raA_br (raA_br (raA_br (raA_leaf sX12_beBand_76) (raA_leaf sX12_beBand_77)) (raA_br (raA_leaf sX12_beBand_80) (raA_leaf sX12_beBand_82))) (raA_br (raA_br (raA_leaf sX12_beBand_83) (raA_leaf sX12_beBand_84)) (raA_br (raA_leaf sX12_beBand_87) (raA_leaf sX12_beBand_90)))))))
theorem sX12_beBands_0 : Snd (miT Tb) RX12 cX12_beBands 11 none 0 (i_aload 1 0) := snd_aload_n rfl dX12_beBands_0
theorem sX12_beBands_1 : Snd (miT Tb) RX12 cX12_beBands 11 none 1 (i_iload 2 1) := snd_iload_n rfl dX12_beBands_1
theorem sX12_beBands_2 : Snd (miT Tb) RX12 cX12_beBands 11 none 2 (i_iload 3 2) := snd_iload_n rfl dX12_beBands_2
theorem sX12_beBands_3 : Snd (miT Tb) RX12 cX12_beBands 11 none 3 (i_iload 5 4) := snd_iload dX12_beBands_3
theorem sX12_beBands_5 : Snd (miT Tb) RX12 cX12_beBands 11 none 5 (i_cS2 46 8) := snd_cS2 (fun hK hd hC h6 h7 h8 kk => iv_X12_153 hK (mc_46 hC) ⟨hd, by show _ ≤ 40 * (_ + 1); omega⟩ (Nat.le_refl _) h6 h7 h8 ⟨Nat.le_refl _, Nat.le_refl _⟩ dX12_beBands_5 kk)
theorem sX12_beBands_8 : Snd (miT Tb) RX12 cX12_beBands 11 none 8 (i_iload 9 3) := snd_iload_n rfl dX12_beBands_8
theorem sX12_beBands_9 : Snd (miT Tb) RX12 cX12_beBands 11 none 9 (i_iload 11 4) := snd_iload dX12_beBands_9
theorem sX12_beBands_11 : Snd (miT Tb) RX12 cX12_beBands 11 none 11 (i_cS2 46 14) := snd_cS2 (fun hK hd hC h6 h7 h8 kk => iv_X12_153 hK (mc_46 hC) ⟨hd, by show _ ≤ 40 * (_ + 1); omega⟩ (Nat.le_refl _) h6 h7 h8 ⟨Nat.le_refl _, Nat.le_refl _⟩ dX12_beBands_11 kk)
theorem sX12_beBands_14 : Snd (miT Tb) RX12 cX12_beBands 11 none 14 (i_const 15 (vI 0)) := snd_iconst dX12_beBands_14
theorem sX12_beBands_15 : Snd (miT Tb) RX12 cX12_beBands 11 none 15 (i_cV4 21 11 18) := snd_cV4 (fun hK hd hC ho hs h6 h7 h8 kk => iv_X12_156 hK (mc_21 hC) ho hs ⟨hd, by show _ ≤ 40 * (_ + 1); omega⟩ (Nat.le_refl _) h6 h7 h8 ⟨Nat.le_refl _, Nat.le_refl _⟩ dX12_beBands_15 kk)
theorem sX12_beBands_18 : Snd (miT Tb) RX12 cX12_beBands 11 none 18 (i_const 19 (vI 1)) := snd_iconst dX12_beBands_18
theorem sX12_beBands_19 : Snd (miT Tb) RX12 cX12_beBands 11 none 19 (i_istore 21 5) := snd_istore (by decide) dX12_beBands_19
theorem sX12_beBands_21 : Snd (miT Tb) RX12 cX12_beBands 11 none 21 (i_iload 23 5) := snd_iload dX12_beBands_21
theorem sX12_beBands_23 : Snd (miT Tb) RX12 cX12_beBands 11 none 23 (i_iload 25 4) := snd_iload dX12_beBands_23
theorem sX12_beBands_25 : Snd (miT Tb) RX12 cX12_beBands 11 none 25 (i_icmp_gt 28 132) := snd_icmp_gt dX12_beBands_25 rfl
theorem sX12_beBands_28 : Snd (miT Tb) RX12 cX12_beBands 11 none 28 (i_iload 30 4) := snd_iload dX12_beBands_28
theorem sX12_beBands_30 : Snd (miT Tb) RX12 cX12_beBands 11 none 30 (i_iload 32 5) := snd_iload dX12_beBands_30
theorem sX12_beBands_32 : Snd (miT Tb) RX12 cX12_beBands 11 none 32 (i_isub 33) := snd_isub dX12_beBands_32
theorem sX12_beBands_33 : Snd (miT Tb) RX12 cX12_beBands 11 none 33 (i_istore 35 6) := snd_istore (by decide) dX12_beBands_33
theorem sX12_beBands_35 : Snd (miT Tb) RX12 cX12_beBands 11 none 35 (i_iload 36 2) := snd_iload_n rfl dX12_beBands_35
theorem sX12_beBands_36 : Snd (miT Tb) RX12 cX12_beBands 11 none 36 (i_iload 38 6) := snd_iload dX12_beBands_36
theorem sX12_beBands_38 : Snd (miT Tb) RX12 cX12_beBands 11 none 38 (i_const 39 (vI 1)) := snd_iconst dX12_beBands_38
theorem sX12_beBands_39 : Snd (miT Tb) RX12 cX12_beBands 11 none 39 (i_iadd 40) := snd_iadd dX12_beBands_39
theorem sX12_beBands_40 : Snd (miT Tb) RX12 cX12_beBands 11 none 40 (i_cS2 46 43) := snd_cS2 (fun hK hd hC h6 h7 h8 kk => iv_X12_153 hK (mc_46 hC) ⟨hd, by show _ ≤ 40 * (_ + 1); omega⟩ (Nat.le_refl _) h6 h7 h8 ⟨Nat.le_refl _, Nat.le_refl _⟩ dX12_beBands_40 kk)
theorem sX12_beBands_43 : Snd (miT Tb) RX12 cX12_beBands 11 none 43 (i_istore 45 7) := snd_istore (by decide) dX12_beBands_43
theorem sX12_beBands_45 : Snd (miT Tb) RX12 cX12_beBands 11 none 45 (i_iload 46 3) := snd_iload_n rfl dX12_beBands_45
theorem sX12_beBands_46 : Snd (miT Tb) RX12 cX12_beBands 11 none 46 (i_iload 48 6) := snd_iload dX12_beBands_46
theorem sX12_beBands_48 : Snd (miT Tb) RX12 cX12_beBands 11 none 48 (i_const 49 (vI 1)) := snd_iconst dX12_beBands_48
theorem sX12_beBands_49 : Snd (miT Tb) RX12 cX12_beBands 11 none 49 (i_iadd 50) := snd_iadd dX12_beBands_49
theorem sX12_beBands_50 : Snd (miT Tb) RX12 cX12_beBands 11 none 50 (i_cS2 46 53) := snd_cS2 (fun hK hd hC h6 h7 h8 kk => iv_X12_153 hK (mc_46 hC) ⟨hd, by show _ ≤ 40 * (_ + 1); omega⟩ (Nat.le_refl _) h6 h7 h8 ⟨Nat.le_refl _, Nat.le_refl _⟩ dX12_beBands_50 kk)
theorem sX12_beBands_53 : Snd (miT Tb) RX12 cX12_beBands 11 none 53 (i_istore 55 8) := snd_istore (by decide) dX12_beBands_53
theorem sX12_beBands_55 : Snd (miT Tb) RX12 cX12_beBands 11 none 55 (i_iload 56 2) := snd_iload_n rfl dX12_beBands_55
theorem sX12_beBands_56 : Snd (miT Tb) RX12 cX12_beBands 11 none 56 (i_iload 58 6) := snd_iload dX12_beBands_56
theorem sX12_beBands_58 : Snd (miT Tb) RX12 cX12_beBands 11 none 58 (i_cS2 46 61) := snd_cS2 (fun hK hd hC h6 h7 h8 kk => iv_X12_153 hK (mc_46 hC) ⟨hd, by show _ ≤ 40 * (_ + 1); omega⟩ (Nat.le_refl _) h6 h7 h8 ⟨Nat.le_refl _, Nat.le_refl _⟩ dX12_beBands_58 kk)
theorem sX12_beBands_61 : Snd (miT Tb) RX12 cX12_beBands 11 none 61 (i_iload 63 7) := snd_iload dX12_beBands_61
theorem sX12_beBands_63 : Snd (miT Tb) RX12 cX12_beBands 11 none 63 (i_isub 64) := snd_isub dX12_beBands_63
theorem sX12_beBands_64 : Snd (miT Tb) RX12 cX12_beBands 11 none 64 (i_istore 66 9) := snd_istore (by decide) dX12_beBands_64
theorem sX12_beBands_66 : Snd (miT Tb) RX12 cX12_beBands 11 none 66 (i_iload 67 3) := snd_iload_n rfl dX12_beBands_66
theorem sX12_beBands_67 : Snd (miT Tb) RX12 cX12_beBands 11 none 67 (i_iload 69 6) := snd_iload dX12_beBands_67
theorem sX12_beBands_69 : Snd (miT Tb) RX12 cX12_beBands 11 none 69 (i_cS2 46 72) := snd_cS2 (fun hK hd hC h6 h7 h8 kk => iv_X12_153 hK (mc_46 hC) ⟨hd, by show _ ≤ 40 * (_ + 1); omega⟩ (Nat.le_refl _) h6 h7 h8 ⟨Nat.le_refl _, Nat.le_refl _⟩ dX12_beBands_69 kk)
theorem sX12_beBands_72 : Snd (miT Tb) RX12 cX12_beBands 11 none 72 (i_iload 74 8) := snd_iload dX12_beBands_72
theorem sX12_beBands_74 : Snd (miT Tb) RX12 cX12_beBands 11 none 74 (i_isub 75) := snd_isub dX12_beBands_74
theorem sX12_beBands_75 : Snd (miT Tb) RX12 cX12_beBands 11 none 75 (i_istore 77 10) := snd_istore (by decide) dX12_beBands_75
theorem sX12_beBands_77 : Snd (miT Tb) RX12 cX12_beBands 11 none 77 (i_aload 78 0) := snd_aload_n rfl dX12_beBands_77
theorem sX12_beBands_78 : Snd (miT Tb) RX12 cX12_beBands 11 none 78 (i_iload 79 1) := snd_iload_n rfl dX12_beBands_78
theorem sX12_beBands_79 : Snd (miT Tb) RX12 cX12_beBands 11 none 79 (i_const 80 (vI 3)) := snd_iconst dX12_beBands_79
theorem sX12_beBands_80 : Snd (miT Tb) RX12 cX12_beBands 11 none 80 (i_iload 82 5) := snd_iload dX12_beBands_80
theorem sX12_beBands_82 : Snd (miT Tb) RX12 cX12_beBands 11 none 82 (i_imul 83) := snd_imul dX12_beBands_82
theorem sX12_beBands_83 : Snd (miT Tb) RX12 cX12_beBands 11 none 83 (i_iadd 84) := snd_iadd dX12_beBands_83
theorem sX12_beBands_84 : Snd (miT Tb) RX12 cX12_beBands 11 none 84 (i_const 85 (vI 2)) := snd_iconst dX12_beBands_84
theorem sX12_beBands_85 : Snd (miT Tb) RX12 cX12_beBands 11 none 85 (i_isub 86) := snd_isub dX12_beBands_85
theorem sX12_beBands_86 : Snd (miT Tb) RX12 cX12_beBands 11 none 86 (i_iload 88 9) := snd_iload dX12_beBands_86
theorem sX12_beBands_88 : Snd (miT Tb) RX12 cX12_beBands 11 none 88 (i_iload 90 8) := snd_iload dX12_beBands_88
theorem sX12_beBands_90 : Snd (miT Tb) RX12 cX12_beBands 11 none 90 (i_const 91 (vI 1)) := snd_iconst dX12_beBands_90
theorem sX12_beBands_91 : Snd (miT Tb) RX12 cX12_beBands 11 none 91 (i_cV4 21 11 94) := snd_cV4 (fun hK hd hC ho hs h6 h7 h8 kk => iv_X12_156 hK (mc_21 hC) ho hs ⟨hd, by show _ ≤ 40 * (_ + 1); omega⟩ (Nat.le_refl _) h6 h7 h8 ⟨Nat.le_refl _, Nat.le_refl _⟩ dX12_beBands_91 kk)
theorem sX12_beBands_94 : Snd (miT Tb) RX12 cX12_beBands 11 none 94 (i_aload 95 0) := snd_aload_n rfl dX12_beBands_94
theorem sX12_beBands_95 : Snd (miT Tb) RX12 cX12_beBands 11 none 95 (i_iload 96 1) := snd_iload_n rfl dX12_beBands_95
theorem sX12_beBands_96 : Snd (miT Tb) RX12 cX12_beBands 11 none 96 (i_const 97 (vI 3)) := snd_iconst dX12_beBands_96
theorem sX12_beBands_97 : Snd (miT Tb) RX12 cX12_beBands 11 none 97 (i_iload 99 5) := snd_iload dX12_beBands_97
theorem sX12_beBands_99 : Snd (miT Tb) RX12 cX12_beBands 11 none 99 (i_imul 100) := snd_imul dX12_beBands_99
theorem sX12_beBands_100 : Snd (miT Tb) RX12 cX12_beBands 11 none 100 (i_iadd 101) := snd_iadd dX12_beBands_100
theorem sX12_beBands_101 : Snd (miT Tb) RX12 cX12_beBands 11 none 101 (i_const 102 (vI 1)) := snd_iconst dX12_beBands_101
theorem sX12_beBands_102 : Snd (miT Tb) RX12 cX12_beBands 11 none 102 (i_isub 103) := snd_isub dX12_beBands_102
theorem sX12_beBands_103 : Snd (miT Tb) RX12 cX12_beBands 11 none 103 (i_iload 105 7) := snd_iload dX12_beBands_103
theorem sX12_beBands_105 : Snd (miT Tb) RX12 cX12_beBands 11 none 105 (i_iload 107 10) := snd_iload dX12_beBands_105
theorem sX12_beBands_107 : Snd (miT Tb) RX12 cX12_beBands 11 none 107 (i_const 108 (vI 0)) := snd_iconst dX12_beBands_107
theorem sX12_beBands_108 : Snd (miT Tb) RX12 cX12_beBands 11 none 108 (i_cV4 21 11 111) := snd_cV4 (fun hK hd hC ho hs h6 h7 h8 kk => iv_X12_156 hK (mc_21 hC) ho hs ⟨hd, by show _ ≤ 40 * (_ + 1); omega⟩ (Nat.le_refl _) h6 h7 h8 ⟨Nat.le_refl _, Nat.le_refl _⟩ dX12_beBands_108 kk)
theorem sX12_beBands_111 : Snd (miT Tb) RX12 cX12_beBands 11 none 111 (i_aload 112 0) := snd_aload_n rfl dX12_beBands_111
theorem sX12_beBands_112 : Snd (miT Tb) RX12 cX12_beBands 11 none 112 (i_iload 113 1) := snd_iload_n rfl dX12_beBands_112
theorem sX12_beBands_113 : Snd (miT Tb) RX12 cX12_beBands 11 none 113 (i_const 114 (vI 3)) := snd_iconst dX12_beBands_113
theorem sX12_beBands_114 : Snd (miT Tb) RX12 cX12_beBands 11 none 114 (i_iload 116 5) := snd_iload dX12_beBands_114
theorem sX12_beBands_116 : Snd (miT Tb) RX12 cX12_beBands 11 none 116 (i_imul 117) := snd_imul dX12_beBands_116
theorem sX12_beBands_117 : Snd (miT Tb) RX12 cX12_beBands 11 none 117 (i_iadd 118) := snd_iadd dX12_beBands_117
theorem sX12_beBands_118 : Snd (miT Tb) RX12 cX12_beBands 11 none 118 (i_iload 120 9) := snd_iload dX12_beBands_118
theorem sX12_beBands_120 : Snd (miT Tb) RX12 cX12_beBands 11 none 120 (i_iload 122 10) := snd_iload dX12_beBands_120
theorem sX12_beBands_122 : Snd (miT Tb) RX12 cX12_beBands 11 none 122 (i_const 123 (vI 2)) := snd_iconst dX12_beBands_122
theorem sX12_beBands_123 : Snd (miT Tb) RX12 cX12_beBands 11 none 123 (i_cV4 21 11 126) := snd_cV4 (fun hK hd hC ho hs h6 h7 h8 kk => iv_X12_156 hK (mc_21 hC) ho hs ⟨hd, by show _ ≤ 40 * (_ + 1); omega⟩ (Nat.le_refl _) h6 h7 h8 ⟨Nat.le_refl _, Nat.le_refl _⟩ dX12_beBands_123 kk)
theorem sX12_beBands_126 : Snd (miT Tb) RX12 cX12_beBands 11 none 126 (i_iinc 129 5 1) := snd_iinc (by decide) dX12_beBands_126
theorem sX12_beBands_129 : Snd (miT Tb) RX12 cX12_beBands 11 none 129 (i_goto 21) := snd_goto dX12_beBands_129 rfl
theorem sX12_beBands_132 : Snd (miT Tb) RX12 cX12_beBands 11 none 132 (i_vret) := snd_vret dX12_beBands_132
theorem kX12_beBands : raA (okI (miT Tb) (yX12_beBands, cX12_beBands, 11, none)) tX12_beBands := (raA_br (raA_br (raA_br (raA_br (raA_br (raA_br (raA_leaf sX12_beBands_0) (raA_leaf sX12_beBands_1)) (raA_br (raA_leaf sX12_beBands_2) (raA_br (raA_leaf sX12_beBands_3) (raA_leaf sX12_beBands_5)))) (raA_br (raA_br (raA_leaf sX12_beBands_8) (raA_leaf sX12_beBands_9)) (raA_br (raA_leaf sX12_beBands_11) (raA_br (raA_leaf sX12_beBands_14) (raA_leaf sX12_beBands_15))))) (raA_br (raA_br (raA_br (raA_leaf sX12_beBands_18) (raA_leaf sX12_beBands_19)) (raA_br (raA_leaf sX12_beBands_21) (raA_br (raA_leaf sX12_beBands_23) (raA_leaf sX12_beBands_25)))) (raA_br (raA_br (raA_leaf sX12_beBands_28) (raA_leaf sX12_beBands_30)) (raA_br (raA_leaf sX12_beBands_32) (raA_br (raA_leaf sX12_beBands_33) (raA_leaf sX12_beBands_35)))))) (raA_br (raA_br (raA_br (raA_br (raA_leaf sX12_beBands_36) (raA_leaf sX12_beBands_38)) (raA_br (raA_leaf sX12_beBands_39) (raA_br (raA_leaf sX12_beBands_40) (raA_leaf sX12_beBands_43)))) (raA_br (raA_br (raA_leaf sX12_beBands_45) (raA_leaf sX12_beBands_46)) (raA_br (raA_leaf sX12_beBands_48) (raA_br (raA_leaf sX12_beBands_49) (raA_leaf sX12_beBands_50))))) (raA_br (raA_br (raA_br (raA_leaf sX12_beBands_53) (raA_leaf sX12_beBands_55)) (raA_br (raA_leaf sX12_beBands_56) (raA_br (raA_leaf sX12_beBands_58) (raA_leaf sX12_beBands_61)))) (raA_br (raA_br (raA_leaf sX12_beBands_63) (raA_leaf sX12_beBands_64)) (raA_br (raA_leaf sX12_beBands_66) (raA_br (raA_leaf sX12_beBands_67) (raA_leaf sX12_beBands_69))))))) (raA_br (raA_br (raA_br (raA_br (raA_br (raA_leaf sX12_beBands_72) (raA_leaf sX12_beBands_74)) (raA_br (raA_leaf sX12_beBands_75) (raA_br (raA_leaf sX12_beBands_77) (raA_leaf sX12_beBands_78)))) (raA_br (raA_br (raA_leaf sX12_beBands_79) (raA_leaf sX12_beBands_80)) (raA_br (raA_leaf sX12_beBands_82) (raA_br (raA_leaf sX12_beBands_83) (raA_leaf sX12_beBands_84))))) (raA_br (raA_br (raA_br (raA_leaf sX12_beBands_85) (raA_leaf sX12_beBands_86)) (raA_br (raA_leaf sX12_beBands_88) (raA_br (raA_leaf sX12_beBands_90) (raA_leaf sX12_beBands_91)))) (raA_br (raA_br (raA_leaf sX12_beBands_94) (raA_leaf sX12_beBands_95)) (raA_br (raA_leaf sX12_beBands_96) (raA_br (raA_leaf sX12_beBands_97) (raA_leaf sX12_beBands_99)))))) (raA_br (raA_br (raA_br (raA_br (raA_leaf sX12_beBands_100) (raA_leaf sX12_beBands_101)) (raA_br (raA_leaf sX12_beBands_102) (raA_br (raA_leaf sX12_beBands_103) (raA_leaf sX12_beBands_105)))) (raA_br (raA_br (raA_leaf sX12_beBands_107) (raA_leaf sX12_beBands_108)) (raA_br (raA_leaf sX12_beBands_111) (raA_br (raA_leaf sX12_beBands_112) (raA_leaf sX12_beBands_113))))) (raA_br (raA_br (raA_br (raA_leaf sX12_beBands_114) (raA_leaf sX12_beBands_116)) (raA_br (raA_leaf sX12_beBands_117) (raA_br (raA_leaf sX12_beBands_118) (raA_leaf sX12_beBands_120)))) (raA_br (raA_br (raA_leaf sX12_beBands_122) (raA_leaf sX12_beBands_123)) (raA_br (raA_leaf sX12_beBands_126) (raA_br (raA_leaf sX12_beBands_129) (raA_leaf sX12_beBands_132))))))))
theorem sX12_beginReading_0 : Snd (miT Tb) RX12 cX12_beginReading 3 none 0 (i_aload 1 0) := snd_aload_n rfl dX12_beginReading_0
theorem sX12_beginReading_1 : Snd (miT Tb) RX12 cX12_beginReading 3 none 1 (i_cV0 38 11 4) := snd_cV0 (fun hK hd hC ho hs h6 h7 h8 kk => iv_X12_160 hK (mc_38 hC) ho hs ⟨hd, by show _ ≤ 40 * (_ + 1); omega⟩ (Nat.le_refl _) h6 h7 h8 ⟨Nat.le_refl _, Nat.le_refl _⟩ dX12_beginReading_1 kk)
theorem sX12_beginReading_4 : Snd (miT Tb) RX12 cX12_beginReading 3 none 4 (i_aload 5 0) := snd_aload_n rfl dX12_beginReading_4
theorem sX12_beginReading_5 : Snd (miT Tb) RX12 cX12_beginReading 3 none 5 (i_iload 6 2) := snd_iload_n rfl dX12_beginReading_5
theorem sX12_beginReading_6 : Snd (miT Tb) RX12 cX12_beginReading 3 none 6 (i_putI 11 29 9) := snd_putI (fun hK ho hs kk => pf_X12_163 hK ho hs dX12_beginReading_6 kk)
theorem sX12_beginReading_9 : Snd (miT Tb) RX12 cX12_beginReading 3 none 9 (i_aload 10 0) := snd_aload_n rfl dX12_beginReading_9
theorem sX12_beginReading_10 : Snd (miT Tb) RX12 cX12_beginReading 3 none 10 (i_iload 11 1) := snd_iload_n rfl dX12_beginReading_10
theorem sX12_beginReading_11 : Snd (miT Tb) RX12 cX12_beginReading 3 none 11 (i_putI 11 38 14) := snd_putI (fun hK ho hs kk => pf_X12_202 hK ho hs dX12_beginReading_11 kk)
theorem sX12_beginReading_14 : Snd (miT Tb) RX12 cX12_beginReading 3 none 14 (i_aload 15 0) := snd_aload_n rfl dX12_beginReading_14
theorem sX12_beginReading_15 : Snd (miT Tb) RX12 cX12_beginReading 3 none 15 (i_const 16 (vI 0)) := snd_iconst dX12_beginReading_15
theorem sX12_beginReading_16 : Snd (miT Tb) RX12 cX12_beginReading 3 none 16 (i_putI 11 39 19) := snd_putI (fun hK ho hs kk => pf_X12_205 hK ho hs dX12_beginReading_16 kk)
theorem sX12_beginReading_19 : Snd (miT Tb) RX12 cX12_beginReading 3 none 19 (i_aload 20 0) := snd_aload_n rfl dX12_beginReading_19
theorem sX12_beginReading_20 : Snd (miT Tb) RX12 cX12_beginReading 3 none 20 (i_const 23 (vJ 65536)) := snd_ldc2 lc_X12_198 dX12_beginReading_20
theorem sX12_beginReading_23 : Snd (miT Tb) RX12 cX12_beginReading 3 none 23 (i_aload 24 0) := snd_aload_n rfl dX12_beginReading_23
theorem sX12_beginReading_24 : Snd (miT Tb) RX12 cX12_beginReading 3 none 24 (i_const 25 (vI 0)) := snd_iconst dX12_beginReading_24
theorem sX12_beginReading_25 : Snd (miT Tb) RX12 cX12_beginReading 3 none 25 (i_cV1 26 11 28) := snd_cV1 (fun hK hd hC ho hs h6 h7 h8 kk => iv_X12_208 hK (mc_26 hC) ho hs ⟨hd, by show _ ≤ 40 * (_ + 1); omega⟩ (Nat.le_refl _) h6 h7 h8 ⟨Nat.le_refl _, Nat.le_refl _⟩ dX12_beginReading_25 kk)
theorem sX12_beginReading_28 : Snd (miT Tb) RX12 cX12_beginReading 3 none 28 (i_i2l 29) := snd_i2l dX12_beginReading_28
theorem sX12_beginReading_29 : Snd (miT Tb) RX12 cX12_beginReading 3 none 29 (i_lmul 30) := snd_lmul dX12_beginReading_29
theorem sX12_beginReading_30 : Snd (miT Tb) RX12 cX12_beginReading 3 none 30 (i_putJ 11 33 33) := snd_putJ (fun hK ho hs kk => pf_X12_175 hK ho hs dX12_beginReading_30 kk)
theorem sX12_beginReading_33 : Snd (miT Tb) RX12 cX12_beginReading 3 none 33 (i_aload 34 0) := snd_aload_n rfl dX12_beginReading_33
theorem sX12_beginReading_34 : Snd (miT Tb) RX12 cX12_beginReading 3 none 34 (i_cV0 60 11 37) := snd_cV0 (fun hK hd hC ho hs h6 h7 h8 kk => iv_X12_216 hK (mc_60 hC) ho hs ⟨hd, by show _ ≤ 40 * (_ + 1); omega⟩ (Nat.le_refl _) h6 h7 h8 ⟨Nat.le_refl _, Nat.le_refl _⟩ dX12_beginReading_34 kk)
theorem sX12_beginReading_37 : Snd (miT Tb) RX12 cX12_beginReading 3 none 37 (i_aload 38 0) := snd_aload_n rfl dX12_beginReading_37
theorem sX12_beginReading_38 : Snd (miT Tb) RX12 cX12_beginReading 3 none 38 (i_const 41 (vJ 128)) := snd_ldc2 lc_X12_219 dX12_beginReading_38
theorem sX12_beginReading_41 : Snd (miT Tb) RX12 cX12_beginReading 3 none 41 (i_aload 42 0) := snd_aload_n rfl dX12_beginReading_41
theorem sX12_beginReading_42 : Snd (miT Tb) RX12 cX12_beginReading 3 none 42 (i_getJ 11 33 45) := snd_getJ (fun hK ho hs hv kk => gf_X12_175 hK ho hs hv dX12_beginReading_42 kk)
theorem sX12_beginReading_45 : Snd (miT Tb) RX12 cX12_beginReading 3 none 45 (i_lmul 46) := snd_lmul dX12_beginReading_45
theorem sX12_beginReading_46 : Snd (miT Tb) RX12 cX12_beginReading 3 none 46 (i_putJ 11 33 49) := snd_putJ (fun hK ho hs kk => pf_X12_175 hK ho hs dX12_beginReading_46 kk)
theorem sX12_beginReading_49 : Snd (miT Tb) RX12 cX12_beginReading 3 none 49 (i_aload 50 0) := snd_aload_n rfl dX12_beginReading_49
theorem sX12_beginReading_50 : Snd (miT Tb) RX12 cX12_beginReading 3 none 50 (i_aload 51 0) := snd_aload_n rfl dX12_beginReading_50
theorem sX12_beginReading_51 : Snd (miT Tb) RX12 cX12_beginReading 3 none 51 (i_getI 11 34 54) := snd_getI (fun hK ho hs hv kk => gf_X12_178 hK ho hs hv dX12_beginReading_51 kk)
theorem sX12_beginReading_54 : Snd (miT Tb) RX12 cX12_beginReading 3 none 54 (i_const 56 (vI 7)) := snd_bipush (by decide) dX12_beginReading_54
theorem sX12_beginReading_56 : Snd (miT Tb) RX12 cX12_beginReading 3 none 56 (i_isub 57) := snd_isub dX12_beginReading_56
theorem sX12_beginReading_57 : Snd (miT Tb) RX12 cX12_beginReading 3 none 57 (i_putI 11 34 60) := snd_putI (fun hK ho hs kk => pf_X12_178 hK ho hs dX12_beginReading_57 kk)
theorem sX12_beginReading_60 : Snd (miT Tb) RX12 cX12_beginReading 3 none 60 (i_aload 61 0) := snd_aload_n rfl dX12_beginReading_60
theorem sX12_beginReading_61 : Snd (miT Tb) RX12 cX12_beginReading 3 none 61 (i_const 64 (vJ 32768)) := snd_ldc2 lc_X12_169 dX12_beginReading_61
theorem sX12_beginReading_64 : Snd (miT Tb) RX12 cX12_beginReading 3 none 64 (i_putJ 11 32 67) := snd_putJ (fun hK ho hs kk => pf_X12_171 hK ho hs dX12_beginReading_64 kk)
theorem sX12_beginReading_67 : Snd (miT Tb) RX12 cX12_beginReading 3 none 67 (i_vret) := snd_vret dX12_beginReading_67
theorem kX12_beginReading : raA (okI (miT Tb) (yX12_beginReading, cX12_beginReading, 3, none)) tX12_beginReading := (raA_br (raA_br (raA_br (raA_br (raA_br (raA_leaf sX12_beginReading_0) (raA_leaf sX12_beginReading_1)) (raA_br (raA_leaf sX12_beginReading_4) (raA_leaf sX12_beginReading_5))) (raA_br (raA_br (raA_leaf sX12_beginReading_6) (raA_leaf sX12_beginReading_9)) (raA_br (raA_leaf sX12_beginReading_10) (raA_br (raA_leaf sX12_beginReading_11) (raA_leaf sX12_beginReading_14))))) (raA_br (raA_br (raA_br (raA_leaf sX12_beginReading_15) (raA_leaf sX12_beginReading_16)) (raA_br (raA_leaf sX12_beginReading_19) (raA_leaf sX12_beginReading_20))) (raA_br (raA_br (raA_leaf sX12_beginReading_23) (raA_leaf sX12_beginReading_24)) (raA_br (raA_leaf sX12_beginReading_25) (raA_br (raA_leaf sX12_beginReading_28) (raA_leaf sX12_beginReading_29)))))) (raA_br (raA_br (raA_br (raA_br (raA_leaf sX12_beginReading_30) (raA_leaf sX12_beginReading_33)) (raA_br (raA_leaf sX12_beginReading_34) (raA_leaf sX12_beginReading_37))) (raA_br (raA_br (raA_leaf sX12_beginReading_38) (raA_leaf sX12_beginReading_41)) (raA_br (raA_leaf sX12_beginReading_42) (raA_br (raA_leaf sX12_beginReading_45) (raA_leaf sX12_beginReading_46))))) (raA_br (raA_br (raA_br (raA_leaf sX12_beginReading_49) (raA_leaf sX12_beginReading_50)) (raA_br (raA_leaf sX12_beginReading_51) (raA_br (raA_leaf sX12_beginReading_54) (raA_leaf sX12_beginReading_56)))) (raA_br (raA_br (raA_leaf sX12_beginReading_57) (raA_leaf sX12_beginReading_60)) (raA_br (raA_leaf sX12_beginReading_61) (raA_br (raA_leaf sX12_beginReading_64) (raA_leaf sX12_beginReading_67)))))))
theorem sX12_beginTelling_0 : Snd (miT Tb) RX12 cX12_beginTelling 1 none 0 (i_aload 1 0) := snd_aload_n rfl dX12_beginTelling_0
theorem sX12_beginTelling_1 : Snd (miT Tb) RX12 cX12_beginTelling 1 none 1 (i_cV0 38 11 4) := snd_cV0 (fun hK hd hC ho hs h6 h7 h8 kk => iv_X12_160 hK (mc_38 hC) ho hs ⟨hd, by show _ ≤ 40 * (_ + 1); omega⟩ (Nat.le_refl _) h6 h7 h8 ⟨Nat.le_refl _, Nat.le_refl _⟩ dX12_beginTelling_1 kk)
theorem sX12_beginTelling_4 : Snd (miT Tb) RX12 cX12_beginTelling 1 none 4 (i_aload 5 0) := snd_aload_n rfl dX12_beginTelling_4
theorem sX12_beginTelling_5 : Snd (miT Tb) RX12 cX12_beginTelling 1 none 5 (i_const 6 (vI 0)) := snd_iconst dX12_beginTelling_5
theorem sX12_beginTelling_6 : Snd (miT Tb) RX12 cX12_beginTelling 1 none 6 (i_putI 11 29 9) := snd_putI (fun hK ho hs kk => pf_X12_163 hK ho hs dX12_beginTelling_6 kk)
theorem sX12_beginTelling_9 : Snd (miT Tb) RX12 cX12_beginTelling 1 none 9 (i_aload 10 0) := snd_aload_n rfl dX12_beginTelling_9
theorem sX12_beginTelling_10 : Snd (miT Tb) RX12 cX12_beginTelling 1 none 10 (i_getR 11 35 13) := snd_getR rfl (by decide) (by decide) (by decide) (fun hK ho hs hq kk => gf_X12_90 hK ho hs hq rfl dX12_beginTelling_10 kk)
theorem sX12_beginTelling_13 : Snd (miT Tb) RX12 cX12_beginTelling 1 none 13 (i_const 14 (vI 0)) := snd_iconst dX12_beginTelling_13
theorem sX12_beginTelling_14 : Snd (miT Tb) RX12 cX12_beginTelling 1 none 14 (i_const 15 (vI 0)) := snd_iconst dX12_beginTelling_14
theorem sX12_beginTelling_15 : Snd (miT Tb) RX12 cX12_beginTelling 1 none 15 (i_iast 16) := snd_iast dX12_beginTelling_15
theorem sX12_beginTelling_16 : Snd (miT Tb) RX12 cX12_beginTelling 1 none 16 (i_aload 17 0) := snd_aload_n rfl dX12_beginTelling_16
theorem sX12_beginTelling_17 : Snd (miT Tb) RX12 cX12_beginTelling 1 none 17 (i_const 18 (vI 1)) := snd_iconst dX12_beginTelling_17
theorem sX12_beginTelling_18 : Snd (miT Tb) RX12 cX12_beginTelling 1 none 18 (i_putI 11 36 21) := snd_putI (fun hK ho hs kk => pf_X12_166 hK ho hs dX12_beginTelling_18 kk)
theorem sX12_beginTelling_21 : Snd (miT Tb) RX12 cX12_beginTelling 1 none 21 (i_aload 22 0) := snd_aload_n rfl dX12_beginTelling_21
theorem sX12_beginTelling_22 : Snd (miT Tb) RX12 cX12_beginTelling 1 none 22 (i_const 25 (vJ 32768)) := snd_ldc2 lc_X12_169 dX12_beginTelling_22
theorem sX12_beginTelling_25 : Snd (miT Tb) RX12 cX12_beginTelling 1 none 25 (i_putJ 11 32 28) := snd_putJ (fun hK ho hs kk => pf_X12_171 hK ho hs dX12_beginTelling_25 kk)
theorem sX12_beginTelling_28 : Snd (miT Tb) RX12 cX12_beginTelling 1 none 28 (i_aload 29 0) := snd_aload_n rfl dX12_beginTelling_28
theorem sX12_beginTelling_29 : Snd (miT Tb) RX12 cX12_beginTelling 1 none 29 (i_const 30 (vJ 0)) := snd_lconst (by decide) dX12_beginTelling_29
theorem sX12_beginTelling_30 : Snd (miT Tb) RX12 cX12_beginTelling 1 none 30 (i_putJ 11 33 33) := snd_putJ (fun hK ho hs kk => pf_X12_175 hK ho hs dX12_beginTelling_30 kk)
theorem sX12_beginTelling_33 : Snd (miT Tb) RX12 cX12_beginTelling 1 none 33 (i_aload 34 0) := snd_aload_n rfl dX12_beginTelling_33
theorem sX12_beginTelling_34 : Snd (miT Tb) RX12 cX12_beginTelling 1 none 34 (i_const 36 (vI 12)) := snd_bipush (by decide) dX12_beginTelling_34
theorem sX12_beginTelling_36 : Snd (miT Tb) RX12 cX12_beginTelling 1 none 36 (i_putI 11 34 39) := snd_putI (fun hK ho hs kk => pf_X12_178 hK ho hs dX12_beginTelling_36 kk)
theorem sX12_beginTelling_39 : Snd (miT Tb) RX12 cX12_beginTelling 1 none 39 (i_vret) := snd_vret dX12_beginTelling_39
theorem kX12_beginTelling : raA (okI (miT Tb) (yX12_beginTelling, cX12_beginTelling, 1, none)) tX12_beginTelling := (raA_br (raA_br (raA_br (raA_br (raA_leaf sX12_beginTelling_0) (raA_leaf sX12_beginTelling_1)) (raA_br (raA_leaf sX12_beginTelling_4) (raA_br (raA_leaf sX12_beginTelling_5) (raA_leaf sX12_beginTelling_6)))) (raA_br (raA_br (raA_leaf sX12_beginTelling_9) (raA_br (raA_leaf sX12_beginTelling_10) (raA_leaf sX12_beginTelling_13))) (raA_br (raA_leaf sX12_beginTelling_14) (raA_br (raA_leaf sX12_beginTelling_15) (raA_leaf sX12_beginTelling_16))))) (raA_br (raA_br (raA_br (raA_leaf sX12_beginTelling_17) (raA_br (raA_leaf sX12_beginTelling_18) (raA_leaf sX12_beginTelling_21))) (raA_br (raA_leaf sX12_beginTelling_22) (raA_br (raA_leaf sX12_beginTelling_25) (raA_leaf sX12_beginTelling_28)))) (raA_br (raA_br (raA_leaf sX12_beginTelling_29) (raA_br (raA_leaf sX12_beginTelling_30) (raA_leaf sX12_beginTelling_33))) (raA_br (raA_leaf sX12_beginTelling_34) (raA_br (raA_leaf sX12_beginTelling_36) (raA_leaf sX12_beginTelling_39))))))
theorem sX12_bitAt_0 : Snd (miT Tb) RX12 cX12_bitAt 3 (some .int) 0 (i_aload 1 0) := snd_aload_n rfl dX12_bitAt_0
theorem sX12_bitAt_1 : Snd (miT Tb) RX12 cX12_bitAt 3 (some .int) 1 (i_getR 11 13 4) := snd_getR rfl (by decide) (by decide) (by decide) (fun hK ho hs hq kk => gf_X12_47 hK ho hs hq rfl dX12_bitAt_1 kk)
theorem sX12_bitAt_4 : Snd (miT Tb) RX12 cX12_bitAt 3 (some .int) 4 (i_aload 5 0) := snd_aload_n rfl dX12_bitAt_4
theorem sX12_bitAt_5 : Snd (miT Tb) RX12 cX12_bitAt 3 (some .int) 5 (i_iload 6 1) := snd_iload_n rfl dX12_bitAt_5
theorem sX12_bitAt_6 : Snd (miT Tb) RX12 cX12_bitAt 3 (some .int) 6 (i_iload 7 2) := snd_iload_n rfl dX12_bitAt_6
theorem sX12_bitAt_7 : Snd (miT Tb) RX12 cX12_bitAt 3 (some .int) 7 (i_cV2 27 11 10) := snd_cV2 (fun hK hd hC ho hs h6 h7 h8 kk => iv_X12_249 hK (mc_27 hC) ho hs ⟨hd, by show _ ≤ 40 * (_ + 1); omega⟩ (Nat.le_refl _) h6 h7 h8 ⟨Nat.le_refl _, Nat.le_refl _⟩ dX12_bitAt_7 kk)
theorem sX12_bitAt_10 : Snd (miT Tb) RX12 cX12_bitAt 3 (some .int) 10 (i_iald 11) := snd_iald dX12_bitAt_10
theorem sX12_bitAt_11 : Snd (miT Tb) RX12 cX12_bitAt 3 (some .int) 11 (i_aload 12 0) := snd_aload_n rfl dX12_bitAt_11
theorem sX12_bitAt_12 : Snd (miT Tb) RX12 cX12_bitAt 3 (some .int) 12 (i_getI 11 27 15) := snd_getI (fun hK ho hs hv kk => gf_X12_252 hK ho hs hv dX12_bitAt_12 kk)
theorem sX12_bitAt_15 : Snd (miT Tb) RX12 cX12_bitAt 3 (some .int) 15 (i_ishr 16) := snd_ishr dX12_bitAt_15
theorem sX12_bitAt_16 : Snd (miT Tb) RX12 cX12_bitAt 3 (some .int) 16 (i_const 17 (vI 1)) := snd_iconst dX12_bitAt_16
theorem sX12_bitAt_17 : Snd (miT Tb) RX12 cX12_bitAt 3 (some .int) 17 (i_iand 18) := snd_iand dX12_bitAt_17
theorem sX12_bitAt_18 : Snd (miT Tb) RX12 cX12_bitAt 3 (some .int) 18 (i_iret) := snd_iret dX12_bitAt_18
theorem kX12_bitAt : raA (okI (miT Tb) (yX12_bitAt, cX12_bitAt, 3, (some .int))) tX12_bitAt := (raA_br (raA_br (raA_br (raA_leaf sX12_bitAt_0) (raA_br (raA_leaf sX12_bitAt_1) (raA_leaf sX12_bitAt_4))) (raA_br (raA_leaf sX12_bitAt_5) (raA_br (raA_leaf sX12_bitAt_6) (raA_leaf sX12_bitAt_7)))) (raA_br (raA_br (raA_leaf sX12_bitAt_10) (raA_br (raA_leaf sX12_bitAt_11) (raA_leaf sX12_bitAt_12))) (raA_br (raA_br (raA_leaf sX12_bitAt_15) (raA_leaf sX12_bitAt_16)) (raA_br (raA_leaf sX12_bitAt_17) (raA_leaf sX12_bitAt_18)))))
theorem sX12_byteAt_0 : Snd (miT Tb) RX12 cX12_byteAt 2 (some .int) 0 (i_iload 1 1) := snd_iload_n rfl dX12_byteAt_0
theorem sX12_byteAt_1 : Snd (miT Tb) RX12 cX12_byteAt 2 (some .int) 1 (i_aload 2 0) := snd_aload_n rfl dX12_byteAt_1
theorem sX12_byteAt_2 : Snd (miT Tb) RX12 cX12_byteAt 2 (some .int) 2 (i_getI 11 38 5) := snd_getI (fun hK ho hs hv kk => gf_X12_202 hK ho hs hv dX12_byteAt_2 kk)
theorem sX12_byteAt_5 : Snd (miT Tb) RX12 cX12_byteAt 2 (some .int) 5 (i_icmp_ge 8 17) := snd_icmp_ge dX12_byteAt_5 rfl
theorem sX12_byteAt_8 : Snd (miT Tb) RX12 cX12_byteAt 2 (some .int) 8 (i_aload 9 0) := snd_aload_n rfl dX12_byteAt_8
theorem sX12_byteAt_9 : Snd (miT Tb) RX12 cX12_byteAt 2 (some .int) 9 (i_getR 11 37 12) := snd_getR rfl (by decide) (by decide) (by decide) (fun hK ho hs hq kk => gf_X12_93 hK ho hs hq rfl dX12_byteAt_9 kk)
theorem sX12_byteAt_12 : Snd (miT Tb) RX12 cX12_byteAt 2 (some .int) 12 (i_iload 13 1) := snd_iload_n rfl dX12_byteAt_12
theorem sX12_byteAt_13 : Snd (miT Tb) RX12 cX12_byteAt 2 (some .int) 13 (i_iald 14) := snd_iald dX12_byteAt_13
theorem sX12_byteAt_14 : Snd (miT Tb) RX12 cX12_byteAt 2 (some .int) 14 (i_goto 20) := snd_goto dX12_byteAt_14 rfl
theorem sX12_byteAt_17 : Snd (miT Tb) RX12 cX12_byteAt 2 (some .int) 17 (i_const 20 (vI 255)) := snd_sipush (by decide) dX12_byteAt_17
theorem sX12_byteAt_20 : Snd (miT Tb) RX12 cX12_byteAt 2 (some .int) 20 (i_iret) := snd_iret dX12_byteAt_20
theorem kX12_byteAt : raA (okI (miT Tb) (yX12_byteAt, cX12_byteAt, 2, (some .int))) tX12_byteAt := (raA_br (raA_br (raA_br (raA_leaf sX12_byteAt_0) (raA_leaf sX12_byteAt_1)) (raA_br (raA_leaf sX12_byteAt_2) (raA_br (raA_leaf sX12_byteAt_5) (raA_leaf sX12_byteAt_8)))) (raA_br (raA_br (raA_leaf sX12_byteAt_9) (raA_br (raA_leaf sX12_byteAt_12) (raA_leaf sX12_byteAt_13))) (raA_br (raA_leaf sX12_byteAt_14) (raA_br (raA_leaf sX12_byteAt_17) (raA_leaf sX12_byteAt_20)))))
theorem sX12_cell_0 : Snd (miT Tb) RX12 cX12_cell 3 (some .int) 0 (i_const 2 (vI 64)) := snd_bipush (by decide) dX12_cell_0
theorem sX12_cell_2 : Snd (miT Tb) RX12 cX12_cell 3 (some .int) 2 (i_aload 3 0) := snd_aload_n rfl dX12_cell_2
theorem sX12_cell_3 : Snd (miT Tb) RX12 cX12_cell 3 (some .int) 3 (i_getI 11 26 6) := snd_getI (fun hK ho hs hv kk => gf_X12_246 hK ho hs hv dX12_cell_3 kk)
theorem sX12_cell_6 : Snd (miT Tb) RX12 cX12_cell 3 (some .int) 6 (i_imul 7) := snd_imul dX12_cell_6
theorem sX12_cell_7 : Snd (miT Tb) RX12 cX12_cell 3 (some .int) 7 (i_const 9 (vI 8)) := snd_bipush (by decide) dX12_cell_7
theorem sX12_cell_9 : Snd (miT Tb) RX12 cX12_cell 3 (some .int) 9 (i_iload 10 2) := snd_iload_n rfl dX12_cell_9
theorem sX12_cell_10 : Snd (miT Tb) RX12 cX12_cell 3 (some .int) 10 (i_imul 11) := snd_imul dX12_cell_10
theorem sX12_cell_11 : Snd (miT Tb) RX12 cX12_cell 3 (some .int) 11 (i_iadd 12) := snd_iadd dX12_cell_11
theorem sX12_cell_12 : Snd (miT Tb) RX12 cX12_cell 3 (some .int) 12 (i_iload 13 1) := snd_iload_n rfl dX12_cell_12
theorem sX12_cell_13 : Snd (miT Tb) RX12 cX12_cell 3 (some .int) 13 (i_iadd 14) := snd_iadd dX12_cell_13
theorem sX12_cell_14 : Snd (miT Tb) RX12 cX12_cell 3 (some .int) 14 (i_iret) := snd_iret dX12_cell_14
theorem kX12_cell : raA (okI (miT Tb) (yX12_cell, cX12_cell, 3, (some .int))) tX12_cell := (raA_br (raA_br (raA_br (raA_leaf sX12_cell_0) (raA_leaf sX12_cell_2)) (raA_br (raA_leaf sX12_cell_3) (raA_br (raA_leaf sX12_cell_6) (raA_leaf sX12_cell_7)))) (raA_br (raA_br (raA_leaf sX12_cell_9) (raA_br (raA_leaf sX12_cell_10) (raA_leaf sX12_cell_11))) (raA_br (raA_leaf sX12_cell_12) (raA_br (raA_leaf sX12_cell_13) (raA_leaf sX12_cell_14)))))
theorem sX12_clean_0 : Snd (miT Tb) RX12 cX12_clean 4 none 0 (i_iload 1 2) := snd_iload_n rfl dX12_clean_0
theorem sX12_clean_1 : Snd (miT Tb) RX12 cX12_clean 4 none 1 (i_aload 2 0) := snd_aload_n rfl dX12_clean_1
theorem sX12_clean_2 : Snd (miT Tb) RX12 cX12_clean 4 none 2 (i_iload 3 1) := snd_iload_n rfl dX12_clean_2
theorem sX12_clean_3 : Snd (miT Tb) RX12 cX12_clean 4 none 3 (i_iload 4 2) := snd_iload_n rfl dX12_clean_3
theorem sX12_clean_4 : Snd (miT Tb) RX12 cX12_clean 4 none 4 (i_cV2 44 11 7) := snd_cV2 (fun hK hd hC ho hs h6 h7 h8 kk => iv_X12_274 hK (mc_44 hC) ho hs ⟨hd, by show _ ≤ 40 * (_ + 1); omega⟩ (Nat.le_refl _) h6 h7 h8 ⟨Nat.le_refl _, Nat.le_refl _⟩ dX12_clean_4 kk)
theorem sX12_clean_7 : Snd (miT Tb) RX12 cX12_clean 4 none 7 (i_iadd 8) := snd_iadd dX12_clean_7
theorem sX12_clean_8 : Snd (miT Tb) RX12 cX12_clean 4 none 8 (i_istore 9 3) := snd_istore_n rfl (by decide) dX12_clean_8
theorem sX12_clean_9 : Snd (miT Tb) RX12 cX12_clean 4 none 9 (i_iload 10 3) := snd_iload_n rfl dX12_clean_9
theorem sX12_clean_10 : Snd (miT Tb) RX12 cX12_clean 4 none 10 (i_iload 11 2) := snd_iload_n rfl dX12_clean_10
theorem sX12_clean_11 : Snd (miT Tb) RX12 cX12_clean 4 none 11 (i_const 12 (vI 4)) := snd_iconst dX12_clean_11
theorem sX12_clean_12 : Snd (miT Tb) RX12 cX12_clean 4 none 12 (i_iadd 13) := snd_iadd dX12_clean_12
theorem sX12_clean_13 : Snd (miT Tb) RX12 cX12_clean 4 none 13 (i_icmp_ge 16 70) := snd_icmp_ge dX12_clean_13 rfl
theorem sX12_clean_16 : Snd (miT Tb) RX12 cX12_clean 4 none 16 (i_iload 17 3) := snd_iload_n rfl dX12_clean_16
theorem sX12_clean_17 : Snd (miT Tb) RX12 cX12_clean 4 none 17 (i_aload 18 0) := snd_aload_n rfl dX12_clean_17
theorem sX12_clean_18 : Snd (miT Tb) RX12 cX12_clean 4 none 18 (i_getR 11 10 21) := snd_getR rfl (by decide) (by decide) (by decide) (fun hK ho hs hq kk => gf_X12_38 hK ho hs hq rfl dX12_clean_18 kk)
theorem sX12_clean_21 : Snd (miT Tb) RX12 cX12_clean 4 none 21 (i_aload 22 0) := snd_aload_n rfl dX12_clean_21
theorem sX12_clean_22 : Snd (miT Tb) RX12 cX12_clean 4 none 22 (i_getI 11 26 25) := snd_getI (fun hK ho hs hv kk => gf_X12_246 hK ho hs hv dX12_clean_22 kk)
theorem sX12_clean_25 : Snd (miT Tb) RX12 cX12_clean 4 none 25 (i_iald 26) := snd_iald dX12_clean_25
theorem sX12_clean_26 : Snd (miT Tb) RX12 cX12_clean 4 none 26 (i_icmp_ge 29 70) := snd_icmp_ge dX12_clean_26 rfl
theorem sX12_clean_29 : Snd (miT Tb) RX12 cX12_clean 4 none 29 (i_aload 30 0) := snd_aload_n rfl dX12_clean_29
theorem sX12_clean_30 : Snd (miT Tb) RX12 cX12_clean 4 none 30 (i_iload 31 1) := snd_iload_n rfl dX12_clean_30
theorem sX12_clean_31 : Snd (miT Tb) RX12 cX12_clean 4 none 31 (i_iload 32 3) := snd_iload_n rfl dX12_clean_31
theorem sX12_clean_32 : Snd (miT Tb) RX12 cX12_clean 4 none 32 (i_cV2 43 11 35) := snd_cV2 (fun hK hd hC ho hs h6 h7 h8 kk => iv_X12_271 hK (mc_43 hC) ho hs ⟨hd, by show _ ≤ 40 * (_ + 1); omega⟩ (Nat.le_refl _) h6 h7 h8 ⟨Nat.le_refl _, Nat.le_refl _⟩ dX12_clean_32 kk)
theorem sX12_clean_35 : Snd (miT Tb) RX12 cX12_clean 4 none 35 (i_if_eq 38 64) := snd_if_eq dX12_clean_35 rfl
theorem sX12_clean_38 : Snd (miT Tb) RX12 cX12_clean 4 none 38 (i_aload 39 0) := snd_aload_n rfl dX12_clean_38
theorem sX12_clean_39 : Snd (miT Tb) RX12 cX12_clean 4 none 39 (i_aload 40 0) := snd_aload_n rfl dX12_clean_39
theorem sX12_clean_40 : Snd (miT Tb) RX12 cX12_clean 4 none 40 (i_iload 41 1) := snd_iload_n rfl dX12_clean_40
theorem sX12_clean_41 : Snd (miT Tb) RX12 cX12_clean 4 none 41 (i_iload 42 3) := snd_iload_n rfl dX12_clean_41
theorem sX12_clean_42 : Snd (miT Tb) RX12 cX12_clean 4 none 42 (i_cV2 32 11 45) := snd_cV2 (fun hK hd hC ho hs h6 h7 h8 kk => iv_X12_261 hK (mc_32 hC) ho hs ⟨hd, by show _ ≤ 40 * (_ + 1); omega⟩ (Nat.le_refl _) h6 h7 h8 ⟨Nat.le_refl _, Nat.le_refl _⟩ dX12_clean_42 kk)
theorem sX12_clean_45 : Snd (miT Tb) RX12 cX12_clean 4 none 45 (i_aload 46 0) := snd_aload_n rfl dX12_clean_45
theorem sX12_clean_46 : Snd (miT Tb) RX12 cX12_clean 4 none 46 (i_iload 47 1) := snd_iload_n rfl dX12_clean_46
theorem sX12_clean_47 : Snd (miT Tb) RX12 cX12_clean 4 none 47 (i_iload 48 3) := snd_iload_n rfl dX12_clean_47
theorem sX12_clean_48 : Snd (miT Tb) RX12 cX12_clean 4 none 48 (i_cV2 25 11 51) := snd_cV2 (fun hK hd hC ho hs h6 h7 h8 kk => iv_X12_264 hK (mc_25 hC) ho hs ⟨hd, by show _ ≤ 40 * (_ + 1); omega⟩ (Nat.le_refl _) h6 h7 h8 ⟨Nat.le_refl _, Nat.le_refl _⟩ dX12_clean_48 kk)
theorem sX12_clean_51 : Snd (miT Tb) RX12 cX12_clean 4 none 51 (i_cV2 29 11 54) := snd_cV2 (fun hK hd hC ho hs h6 h7 h8 kk => iv_X12_258 hK (mc_29 hC) ho hs ⟨hd, by show _ ≤ 40 * (_ + 1); omega⟩ (Nat.le_refl _) h6 h7 h8 ⟨Nat.le_refl _, Nat.le_refl _⟩ dX12_clean_51 kk)
theorem sX12_clean_54 : Snd (miT Tb) RX12 cX12_clean 4 none 54 (i_const 55 (vI 1)) := snd_iconst dX12_clean_54
theorem sX12_clean_55 : Snd (miT Tb) RX12 cX12_clean 4 none 55 (i_icmp_ne 58 64) := snd_icmp_ne dX12_clean_55 rfl
theorem sX12_clean_58 : Snd (miT Tb) RX12 cX12_clean 4 none 58 (i_aload 59 0) := snd_aload_n rfl dX12_clean_58
theorem sX12_clean_59 : Snd (miT Tb) RX12 cX12_clean 4 none 59 (i_iload 60 1) := snd_iload_n rfl dX12_clean_59
theorem sX12_clean_60 : Snd (miT Tb) RX12 cX12_clean 4 none 60 (i_iload 61 3) := snd_iload_n rfl dX12_clean_60
theorem sX12_clean_61 : Snd (miT Tb) RX12 cX12_clean 4 none 61 (i_cV2 65 11 64) := snd_cV2 (fun hK hd hC ho hs h6 h7 h8 kk => iv_X12_267 hK (mc_65 hC) ho hs ⟨hd, by show _ ≤ 40 * (_ + 1); omega⟩ (Nat.le_refl _) h6 h7 h8 ⟨Nat.le_refl _, Nat.le_refl _⟩ dX12_clean_61 kk)
theorem sX12_clean_64 : Snd (miT Tb) RX12 cX12_clean 4 none 64 (i_iinc 67 3 1) := snd_iinc (by decide) dX12_clean_64
theorem sX12_clean_67 : Snd (miT Tb) RX12 cX12_clean 4 none 67 (i_goto 9) := snd_goto dX12_clean_67 rfl
theorem sX12_clean_70 : Snd (miT Tb) RX12 cX12_clean 4 none 70 (i_vret) := snd_vret dX12_clean_70
theorem kX12_clean : raA (okI (miT Tb) (yX12_clean, cX12_clean, 4, none)) tX12_clean := (raA_br (raA_br (raA_br (raA_br (raA_br (raA_leaf sX12_clean_0) (raA_leaf sX12_clean_1)) (raA_br (raA_leaf sX12_clean_2) (raA_br (raA_leaf sX12_clean_3) (raA_leaf sX12_clean_4)))) (raA_br (raA_br (raA_leaf sX12_clean_7) (raA_leaf sX12_clean_8)) (raA_br (raA_leaf sX12_clean_9) (raA_br (raA_leaf sX12_clean_10) (raA_leaf sX12_clean_11))))) (raA_br (raA_br (raA_br (raA_leaf sX12_clean_12) (raA_leaf sX12_clean_13)) (raA_br (raA_leaf sX12_clean_16) (raA_br (raA_leaf sX12_clean_17) (raA_leaf sX12_clean_18)))) (raA_br (raA_br (raA_leaf sX12_clean_21) (raA_br (raA_leaf sX12_clean_22) (raA_leaf sX12_clean_25))) (raA_br (raA_leaf sX12_clean_26) (raA_br (raA_leaf sX12_clean_29) (raA_leaf sX12_clean_30)))))) (raA_br (raA_br (raA_br (raA_br (raA_leaf sX12_clean_31) (raA_leaf sX12_clean_32)) (raA_br (raA_leaf sX12_clean_35) (raA_br (raA_leaf sX12_clean_38) (raA_leaf sX12_clean_39)))) (raA_br (raA_br (raA_leaf sX12_clean_40) (raA_br (raA_leaf sX12_clean_41) (raA_leaf sX12_clean_42))) (raA_br (raA_leaf sX12_clean_45) (raA_br (raA_leaf sX12_clean_46) (raA_leaf sX12_clean_47))))) (raA_br (raA_br (raA_br (raA_leaf sX12_clean_48) (raA_leaf sX12_clean_51)) (raA_br (raA_leaf sX12_clean_54) (raA_br (raA_leaf sX12_clean_55) (raA_leaf sX12_clean_58)))) (raA_br (raA_br (raA_leaf sX12_clean_59) (raA_br (raA_leaf sX12_clean_60) (raA_leaf sX12_clean_61))) (raA_br (raA_leaf sX12_clean_64) (raA_br (raA_leaf sX12_clean_67) (raA_leaf sX12_clean_70)))))))
theorem sX12_code_0 : Snd (miT Tb) RX12 cX12_code 4 (some .int) 0 (i_aload 1 0) := snd_aload_n rfl dX12_code_0
theorem sX12_code_1 : Snd (miT Tb) RX12 cX12_code 4 (some .int) 1 (i_getI 11 29 4) := snd_getI (fun hK ho hs hv kk => gf_X12_163 hK ho hs hv dX12_code_1 kk)
theorem sX12_code_4 : Snd (miT Tb) RX12 cX12_code 4 (some .int) 4 (i_if_ne 7 14) := snd_if_ne dX12_code_4 rfl
theorem sX12_code_7 : Snd (miT Tb) RX12 cX12_code 4 (some .int) 7 (i_aload 8 0) := snd_aload_n rfl dX12_code_7
theorem sX12_code_8 : Snd (miT Tb) RX12 cX12_code 4 (some .int) 8 (i_iload 9 1) := snd_iload_n rfl dX12_code_8
theorem sX12_code_9 : Snd (miT Tb) RX12 cX12_code 4 (some .int) 9 (i_iload 10 2) := snd_iload_n rfl dX12_code_9
theorem sX12_code_10 : Snd (miT Tb) RX12 cX12_code 4 (some .int) 10 (i_cV2 62 11 13) := snd_cV2 (fun hK hd hC ho hs h6 h7 h8 kk => iv_X12_221 hK (mc_62 hC) ho hs ⟨hd, by show _ ≤ 40 * (_ + 1); omega⟩ (Nat.le_refl _) h6 h7 h8 ⟨Nat.le_refl _, Nat.le_refl _⟩ dX12_code_10 kk)
theorem sX12_code_13 : Snd (miT Tb) RX12 cX12_code 4 (some .int) 13 (i_iret) := snd_iret dX12_code_13
theorem sX12_code_14 : Snd (miT Tb) RX12 cX12_code 4 (some .int) 14 (i_aload 15 0) := snd_aload_n rfl dX12_code_14
theorem sX12_code_15 : Snd (miT Tb) RX12 cX12_code 4 (some .int) 15 (i_iload 16 1) := snd_iload_n rfl dX12_code_15
theorem sX12_code_16 : Snd (miT Tb) RX12 cX12_code 4 (some .int) 16 (i_cV1 54 11 19) := snd_cV1 (fun hK hd hC ho hs h6 h7 h8 kk => iv_X12_224 hK (mc_54 hC) ho hs ⟨hd, by show _ ≤ 40 * (_ + 1); omega⟩ (Nat.le_refl _) h6 h7 h8 ⟨Nat.le_refl _, Nat.le_refl _⟩ dX12_code_16 kk)
theorem sX12_code_19 : Snd (miT Tb) RX12 cX12_code 4 (some .int) 19 (i_istore 20 3) := snd_istore_n rfl (by decide) dX12_code_19
theorem sX12_code_20 : Snd (miT Tb) RX12 cX12_code 4 (some .int) 20 (i_aload 21 0) := snd_aload_n rfl dX12_code_20
theorem sX12_code_21 : Snd (miT Tb) RX12 cX12_code 4 (some .int) 21 (i_getI 11 29 24) := snd_getI (fun hK ho hs hv kk => gf_X12_163 hK ho hs hv dX12_code_21 kk)
theorem sX12_code_24 : Snd (miT Tb) RX12 cX12_code 4 (some .int) 24 (i_const 25 (vI 1)) := snd_iconst dX12_code_24
theorem sX12_code_25 : Snd (miT Tb) RX12 cX12_code 4 (some .int) 25 (i_icmp_ne 28 30) := snd_icmp_ne dX12_code_25 rfl
theorem sX12_code_28 : Snd (miT Tb) RX12 cX12_code 4 (some .int) 28 (i_iload 29 3) := snd_iload_n rfl dX12_code_28
theorem sX12_code_29 : Snd (miT Tb) RX12 cX12_code 4 (some .int) 29 (i_iret) := snd_iret dX12_code_29
theorem sX12_code_30 : Snd (miT Tb) RX12 cX12_code 4 (some .int) 30 (i_aload 31 0) := snd_aload_n rfl dX12_code_30
theorem sX12_code_31 : Snd (miT Tb) RX12 cX12_code 4 (some .int) 31 (i_aload 32 0) := snd_aload_n rfl dX12_code_31
theorem sX12_code_32 : Snd (miT Tb) RX12 cX12_code 4 (some .int) 32 (i_getI 11 28 35) := snd_getI (fun hK ho hs hv kk => gf_X12_227 hK ho hs hv dX12_code_32 kk)
theorem sX12_code_35 : Snd (miT Tb) RX12 cX12_code 4 (some .int) 35 (i_if_ne 38 43) := snd_if_ne dX12_code_35 rfl
theorem sX12_code_38 : Snd (miT Tb) RX12 cX12_code 4 (some .int) 38 (i_iload 39 3) := snd_iload_n rfl dX12_code_38
theorem sX12_code_39 : Snd (miT Tb) RX12 cX12_code 4 (some .int) 39 (i_iload 40 2) := snd_iload_n rfl dX12_code_39
theorem sX12_code_40 : Snd (miT Tb) RX12 cX12_code 4 (some .int) 40 (i_icmp_eq 43 47) := snd_icmp_eq dX12_code_40 rfl
theorem sX12_code_43 : Snd (miT Tb) RX12 cX12_code 4 (some .int) 43 (i_const 44 (vI 1)) := snd_iconst dX12_code_43
theorem sX12_code_44 : Snd (miT Tb) RX12 cX12_code 4 (some .int) 44 (i_goto 48) := snd_goto dX12_code_44 rfl
theorem sX12_code_47 : Snd (miT Tb) RX12 cX12_code 4 (some .int) 47 (i_const 48 (vI 0)) := snd_iconst dX12_code_47
theorem sX12_code_48 : Snd (miT Tb) RX12 cX12_code 4 (some .int) 48 (i_putZ 11 28 51) := snd_putZ (fun hK ho hs hx kk => pf_X12_227 hK ho hs hx dX12_code_48 kk)
theorem sX12_code_51 : Snd (miT Tb) RX12 cX12_code 4 (some .int) 51 (i_iload 52 2) := snd_iload_n rfl dX12_code_51
theorem sX12_code_52 : Snd (miT Tb) RX12 cX12_code 4 (some .int) 52 (i_iret) := snd_iret dX12_code_52
theorem kX12_code : raA (okI (miT Tb) (yX12_code, cX12_code, 4, (some .int))) tX12_code := (raA_br (raA_br (raA_br (raA_br (raA_leaf sX12_code_0) (raA_br (raA_leaf sX12_code_1) (raA_leaf sX12_code_4))) (raA_br (raA_br (raA_leaf sX12_code_7) (raA_leaf sX12_code_8)) (raA_br (raA_leaf sX12_code_9) (raA_leaf sX12_code_10)))) (raA_br (raA_br (raA_br (raA_leaf sX12_code_13) (raA_leaf sX12_code_14)) (raA_br (raA_leaf sX12_code_15) (raA_leaf sX12_code_16))) (raA_br (raA_br (raA_leaf sX12_code_19) (raA_leaf sX12_code_20)) (raA_br (raA_leaf sX12_code_21) (raA_leaf sX12_code_24))))) (raA_br (raA_br (raA_br (raA_br (raA_leaf sX12_code_25) (raA_leaf sX12_code_28)) (raA_br (raA_leaf sX12_code_29) (raA_leaf sX12_code_30))) (raA_br (raA_br (raA_leaf sX12_code_31) (raA_leaf sX12_code_32)) (raA_br (raA_leaf sX12_code_35) (raA_leaf sX12_code_38)))) (raA_br (raA_br (raA_br (raA_leaf sX12_code_39) (raA_leaf sX12_code_40)) (raA_br (raA_leaf sX12_code_43) (raA_leaf sX12_code_44))) (raA_br (raA_br (raA_leaf sX12_code_47) (raA_leaf sX12_code_48)) (raA_br (raA_leaf sX12_code_51) (raA_leaf sX12_code_52))))))
theorem sX12_column_0 : Snd (miT Tb) RX12 cX12_column 5 none 0 (i_iload 1 1) := snd_iload_n rfl dX12_column_0
theorem sX12_column_1 : Snd (miT Tb) RX12 cX12_column 5 none 1 (i_const 2 (vI 2)) := snd_iconst dX12_column_1
theorem sX12_column_2 : Snd (miT Tb) RX12 cX12_column 5 none 2 (i_icmp_ne 5 12) := snd_icmp_ne dX12_column_2 rfl
theorem sX12_column_5 : Snd (miT Tb) RX12 cX12_column 5 none 5 (i_aload 6 0) := snd_aload_n rfl dX12_column_5
theorem sX12_column_6 : Snd (miT Tb) RX12 cX12_column 5 none 6 (i_iload 7 2) := snd_iload_n rfl dX12_column_6
theorem sX12_column_7 : Snd (miT Tb) RX12 cX12_column 5 none 7 (i_iload 8 3) := snd_iload_n rfl dX12_column_7
theorem sX12_column_8 : Snd (miT Tb) RX12 cX12_column 5 none 8 (i_cV2 28 11 11) := snd_cV2 (fun hK hd hC ho hs h6 h7 h8 kk => iv_X12_277 hK (mc_28 hC) ho hs ⟨hd, by show _ ≤ 40 * (_ + 1); omega⟩ (Nat.le_refl _) h6 h7 h8 ⟨Nat.le_refl _, Nat.le_refl _⟩ dX12_column_8 kk)
theorem sX12_column_11 : Snd (miT Tb) RX12 cX12_column 5 none 11 (i_vret) := snd_vret dX12_column_11
theorem sX12_column_12 : Snd (miT Tb) RX12 cX12_column 5 none 12 (i_iload 13 3) := snd_iload_n rfl dX12_column_12
theorem sX12_column_13 : Snd (miT Tb) RX12 cX12_column 5 none 13 (i_istore 15 4) := snd_istore (by decide) dX12_column_13
theorem sX12_column_15 : Snd (miT Tb) RX12 cX12_column 5 none 15 (i_iload 17 4) := snd_iload dX12_column_15
theorem sX12_column_17 : Snd (miT Tb) RX12 cX12_column 5 none 17 (i_iload 18 3) := snd_iload_n rfl dX12_column_17
theorem sX12_column_18 : Snd (miT Tb) RX12 cX12_column 5 none 18 (i_const 19 (vI 4)) := snd_iconst dX12_column_18
theorem sX12_column_19 : Snd (miT Tb) RX12 cX12_column 5 none 19 (i_iadd 20) := snd_iadd dX12_column_19
theorem sX12_column_20 : Snd (miT Tb) RX12 cX12_column 5 none 20 (i_icmp_ge 23 64) := snd_icmp_ge dX12_column_20 rfl
theorem sX12_column_23 : Snd (miT Tb) RX12 cX12_column 5 none 23 (i_iload 25 4) := snd_iload dX12_column_23
theorem sX12_column_25 : Snd (miT Tb) RX12 cX12_column 5 none 25 (i_aload 26 0) := snd_aload_n rfl dX12_column_25
theorem sX12_column_26 : Snd (miT Tb) RX12 cX12_column 5 none 26 (i_getR 11 10 29) := snd_getR rfl (by decide) (by decide) (by decide) (fun hK ho hs hq kk => gf_X12_38 hK ho hs hq rfl dX12_column_26 kk)
theorem sX12_column_29 : Snd (miT Tb) RX12 cX12_column 5 none 29 (i_aload 30 0) := snd_aload_n rfl dX12_column_29
theorem sX12_column_30 : Snd (miT Tb) RX12 cX12_column 5 none 30 (i_getI 11 26 33) := snd_getI (fun hK ho hs hv kk => gf_X12_246 hK ho hs hv dX12_column_30 kk)
theorem sX12_column_33 : Snd (miT Tb) RX12 cX12_column 5 none 33 (i_iald 34) := snd_iald dX12_column_33
theorem sX12_column_34 : Snd (miT Tb) RX12 cX12_column 5 none 34 (i_icmp_ge 37 64) := snd_icmp_ge dX12_column_34 rfl
theorem sX12_column_37 : Snd (miT Tb) RX12 cX12_column 5 none 37 (i_iload 38 1) := snd_iload_n rfl dX12_column_37
theorem sX12_column_38 : Snd (miT Tb) RX12 cX12_column 5 none 38 (i_if_ne 41 51) := snd_if_ne dX12_column_38 rfl
theorem sX12_column_41 : Snd (miT Tb) RX12 cX12_column 5 none 41 (i_aload 42 0) := snd_aload_n rfl dX12_column_41
theorem sX12_column_42 : Snd (miT Tb) RX12 cX12_column 5 none 42 (i_iload 43 2) := snd_iload_n rfl dX12_column_42
theorem sX12_column_43 : Snd (miT Tb) RX12 cX12_column 5 none 43 (i_iload 45 4) := snd_iload dX12_column_43
theorem sX12_column_45 : Snd (miT Tb) RX12 cX12_column 5 none 45 (i_cV2 58 11 48) := snd_cV2 (fun hK hd hC ho hs h6 h7 h8 kk => iv_X12_280 hK (mc_58 hC) ho hs ⟨hd, by show _ ≤ 40 * (_ + 1); omega⟩ (Nat.le_refl _) h6 h7 h8 ⟨Nat.le_refl _, Nat.le_refl _⟩ dX12_column_45 kk)
theorem sX12_column_48 : Snd (miT Tb) RX12 cX12_column 5 none 48 (i_goto 58) := snd_goto dX12_column_48 rfl
theorem sX12_column_51 : Snd (miT Tb) RX12 cX12_column 5 none 51 (i_aload 52 0) := snd_aload_n rfl dX12_column_51
theorem sX12_column_52 : Snd (miT Tb) RX12 cX12_column 5 none 52 (i_iload 53 2) := snd_iload_n rfl dX12_column_52
theorem sX12_column_53 : Snd (miT Tb) RX12 cX12_column 5 none 53 (i_iload 55 4) := snd_iload dX12_column_53
theorem sX12_column_55 : Snd (miT Tb) RX12 cX12_column 5 none 55 (i_cV2 55 11 58) := snd_cV2 (fun hK hd hC ho hs h6 h7 h8 kk => iv_X12_283 hK (mc_55 hC) ho hs ⟨hd, by show _ ≤ 40 * (_ + 1); omega⟩ (Nat.le_refl _) h6 h7 h8 ⟨Nat.le_refl _, Nat.le_refl _⟩ dX12_column_55 kk)
theorem sX12_column_58 : Snd (miT Tb) RX12 cX12_column 5 none 58 (i_iinc 61 4 1) := snd_iinc (by decide) dX12_column_58
theorem sX12_column_61 : Snd (miT Tb) RX12 cX12_column 5 none 61 (i_goto 15) := snd_goto dX12_column_61 rfl
theorem sX12_column_64 : Snd (miT Tb) RX12 cX12_column 5 none 64 (i_vret) := snd_vret dX12_column_64
theorem kX12_column : raA (okI (miT Tb) (yX12_column, cX12_column, 5, none)) tX12_column := (raA_br (raA_br (raA_br (raA_br (raA_br (raA_leaf sX12_column_0) (raA_leaf sX12_column_1)) (raA_br (raA_leaf sX12_column_2) (raA_leaf sX12_column_5))) (raA_br (raA_br (raA_leaf sX12_column_6) (raA_leaf sX12_column_7)) (raA_br (raA_leaf sX12_column_8) (raA_br (raA_leaf sX12_column_11) (raA_leaf sX12_column_12))))) (raA_br (raA_br (raA_br (raA_leaf sX12_column_13) (raA_leaf sX12_column_15)) (raA_br (raA_leaf sX12_column_17) (raA_leaf sX12_column_18))) (raA_br (raA_br (raA_leaf sX12_column_19) (raA_leaf sX12_column_20)) (raA_br (raA_leaf sX12_column_23) (raA_br (raA_leaf sX12_column_25) (raA_leaf sX12_column_26)))))) (raA_br (raA_br (raA_br (raA_br (raA_leaf sX12_column_29) (raA_leaf sX12_column_30)) (raA_br (raA_leaf sX12_column_33) (raA_leaf sX12_column_34))) (raA_br (raA_br (raA_leaf sX12_column_37) (raA_leaf sX12_column_38)) (raA_br (raA_leaf sX12_column_41) (raA_br (raA_leaf sX12_column_42) (raA_leaf sX12_column_43))))) (raA_br (raA_br (raA_br (raA_leaf sX12_column_45) (raA_leaf sX12_column_48)) (raA_br (raA_leaf sX12_column_51) (raA_leaf sX12_column_52))) (raA_br (raA_br (raA_leaf sX12_column_53) (raA_leaf sX12_column_55)) (raA_br (raA_leaf sX12_column_58) (raA_br (raA_leaf sX12_column_61) (raA_leaf sX12_column_64)))))))
theorem sX12_columns_0 : Snd (miT Tb) RX12 cX12_columns 5 none 0 (i_const 1 (vI 0)) := snd_iconst dX12_columns_0
theorem sX12_columns_1 : Snd (miT Tb) RX12 cX12_columns 5 none 1 (i_istore 3 4) := snd_istore (by decide) dX12_columns_1
theorem sX12_columns_3 : Snd (miT Tb) RX12 cX12_columns 5 none 3 (i_iload 5 4) := snd_iload dX12_columns_3
theorem sX12_columns_5 : Snd (miT Tb) RX12 cX12_columns 5 none 5 (i_iload 6 1) := snd_iload_n rfl dX12_columns_5
theorem sX12_columns_6 : Snd (miT Tb) RX12 cX12_columns 5 none 6 (i_icmp_ge 9 25) := snd_icmp_ge dX12_columns_6 rfl
theorem sX12_columns_9 : Snd (miT Tb) RX12 cX12_columns 5 none 9 (i_aload 10 0) := snd_aload_n rfl dX12_columns_9
theorem sX12_columns_10 : Snd (miT Tb) RX12 cX12_columns 5 none 10 (i_iload 12 4) := snd_iload dX12_columns_10
theorem sX12_columns_12 : Snd (miT Tb) RX12 cX12_columns 5 none 12 (i_const 14 (vI 8)) := snd_bipush (by decide) dX12_columns_12
theorem sX12_columns_14 : Snd (miT Tb) RX12 cX12_columns 5 none 14 (i_iload 15 2) := snd_iload_n rfl dX12_columns_14
theorem sX12_columns_15 : Snd (miT Tb) RX12 cX12_columns 5 none 15 (i_iload 16 3) := snd_iload_n rfl dX12_columns_15
theorem sX12_columns_16 : Snd (miT Tb) RX12 cX12_columns 5 none 16 (i_cV4 68 11 19) := snd_cV4 (fun hK hd hC ho hs h6 h7 h8 kk => iv_X12_149 hK (mc_68 hC) ho hs ⟨hd, by show _ ≤ 40 * (_ + 1); omega⟩ (Nat.le_refl _) h6 h7 h8 ⟨Nat.le_refl _, Nat.le_refl _⟩ dX12_columns_16 kk)
theorem sX12_columns_19 : Snd (miT Tb) RX12 cX12_columns 5 none 19 (i_iinc 22 4 1) := snd_iinc (by decide) dX12_columns_19
theorem sX12_columns_22 : Snd (miT Tb) RX12 cX12_columns 5 none 22 (i_goto 3) := snd_goto dX12_columns_22 rfl
theorem sX12_columns_25 : Snd (miT Tb) RX12 cX12_columns 5 none 25 (i_vret) := snd_vret dX12_columns_25
theorem kX12_columns : raA (okI (miT Tb) (yX12_columns, cX12_columns, 5, none)) tX12_columns := (raA_br (raA_br (raA_br (raA_leaf sX12_columns_0) (raA_br (raA_leaf sX12_columns_1) (raA_leaf sX12_columns_3))) (raA_br (raA_br (raA_leaf sX12_columns_5) (raA_leaf sX12_columns_6)) (raA_br (raA_leaf sX12_columns_9) (raA_leaf sX12_columns_10)))) (raA_br (raA_br (raA_leaf sX12_columns_12) (raA_br (raA_leaf sX12_columns_14) (raA_leaf sX12_columns_15))) (raA_br (raA_br (raA_leaf sX12_columns_16) (raA_leaf sX12_columns_19)) (raA_br (raA_leaf sX12_columns_22) (raA_leaf sX12_columns_25)))))
theorem sX12_context_0 : Snd (miT Tb) RX12 cX12_context 8 (some .int) 0 (i_iload 1 1) := snd_iload_n rfl dX12_context_0
theorem sX12_context_1 : Snd (miT Tb) RX12 cX12_context 8 (some .int) 1 (i_iload 2 2) := snd_iload_n rfl dX12_context_1
theorem sX12_context_2 : Snd (miT Tb) RX12 cX12_context 8 (some .int) 2 (i_cS2 57 5) := snd_cS2 (fun hK hd hC h6 h7 h8 kk => iv_X12_234 hK (mc_57 hC) ⟨hd, by show _ ≤ 40 * (_ + 1); omega⟩ (Nat.le_refl _) h6 h7 h8 ⟨Nat.le_refl _, Nat.le_refl _⟩ dX12_context_2 kk)
theorem sX12_context_5 : Snd (miT Tb) RX12 cX12_context 8 (some .int) 5 (i_istore 6 3) := snd_istore_n rfl (by decide) dX12_context_5
theorem sX12_context_6 : Snd (miT Tb) RX12 cX12_context 8 (some .int) 6 (i_aload 7 0) := snd_aload_n rfl dX12_context_6
theorem sX12_context_7 : Snd (miT Tb) RX12 cX12_context 8 (some .int) 7 (i_iload 8 3) := snd_iload_n rfl dX12_context_7
theorem sX12_context_8 : Snd (miT Tb) RX12 cX12_context 8 (some .int) 8 (i_cV1 42 11 11) := snd_cV1 (fun hK hd hC ho hs h6 h7 h8 kk => iv_X12_237 hK (mc_42 hC) ho hs ⟨hd, by show _ ≤ 40 * (_ + 1); omega⟩ (Nat.le_refl _) h6 h7 h8 ⟨Nat.le_refl _, Nat.le_refl _⟩ dX12_context_8 kk)
theorem sX12_context_11 : Snd (miT Tb) RX12 cX12_context 8 (some .int) 11 (i_istore 13 4) := snd_istore (by decide) dX12_context_11
theorem sX12_context_13 : Snd (miT Tb) RX12 cX12_context 8 (some .int) 13 (i_aload 14 0) := snd_aload_n rfl dX12_context_13
theorem sX12_context_14 : Snd (miT Tb) RX12 cX12_context 8 (some .int) 14 (i_iload 15 3) := snd_iload_n rfl dX12_context_14
theorem sX12_context_15 : Snd (miT Tb) RX12 cX12_context 8 (some .int) 15 (i_cV1 41 11 18) := snd_cV1 (fun hK hd hC ho hs h6 h7 h8 kk => iv_X12_240 hK (mc_41 hC) ho hs ⟨hd, by show _ ≤ 40 * (_ + 1); omega⟩ (Nat.le_refl _) h6 h7 h8 ⟨Nat.le_refl _, Nat.le_refl _⟩ dX12_context_15 kk)
theorem sX12_context_18 : Snd (miT Tb) RX12 cX12_context 8 (some .int) 18 (i_istore 20 5) := snd_istore (by decide) dX12_context_18
theorem sX12_context_20 : Snd (miT Tb) RX12 cX12_context 8 (some .int) 20 (i_aload 21 0) := snd_aload_n rfl dX12_context_20
theorem sX12_context_21 : Snd (miT Tb) RX12 cX12_context 8 (some .int) 21 (i_iload 22 3) := snd_iload_n rfl dX12_context_21
theorem sX12_context_22 : Snd (miT Tb) RX12 cX12_context 8 (some .int) 22 (i_cV1 20 11 25) := snd_cV1 (fun hK hd hC ho hs h6 h7 h8 kk => iv_X12_243 hK (mc_20 hC) ho hs ⟨hd, by show _ ≤ 40 * (_ + 1); omega⟩ (Nat.le_refl _) h6 h7 h8 ⟨Nat.le_refl _, Nat.le_refl _⟩ dX12_context_22 kk)
theorem sX12_context_25 : Snd (miT Tb) RX12 cX12_context 8 (some .int) 25 (i_istore 27 6) := snd_istore (by decide) dX12_context_25
theorem sX12_context_27 : Snd (miT Tb) RX12 cX12_context 8 (some .int) 27 (i_aload 28 0) := snd_aload_n rfl dX12_context_27
theorem sX12_context_28 : Snd (miT Tb) RX12 cX12_context 8 (some .int) 28 (i_getR 11 11 31) := snd_getR rfl (by decide) (by decide) (by decide) (fun hK ho hs hq kk => gf_X12_41 hK ho hs hq rfl dX12_context_28 kk)
theorem sX12_context_31 : Snd (miT Tb) RX12 cX12_context 8 (some .int) 31 (i_aload 32 0) := snd_aload_n rfl dX12_context_31
theorem sX12_context_32 : Snd (miT Tb) RX12 cX12_context 8 (some .int) 32 (i_getI 11 26 35) := snd_getI (fun hK ho hs hv kk => gf_X12_246 hK ho hs hv dX12_context_32 kk)
theorem sX12_context_35 : Snd (miT Tb) RX12 cX12_context 8 (some .int) 35 (i_iald 36) := snd_iald dX12_context_35
theorem sX12_context_36 : Snd (miT Tb) RX12 cX12_context 8 (some .int) 36 (i_const 37 (vI 2)) := snd_iconst dX12_context_36
theorem sX12_context_37 : Snd (miT Tb) RX12 cX12_context 8 (some .int) 37 (i_icmp_ne 40 100) := snd_icmp_ne dX12_context_37 rfl
theorem sX12_context_40 : Snd (miT Tb) RX12 cX12_context 8 (some .int) 40 (i_iload 42 4) := snd_iload dX12_context_40
theorem sX12_context_42 : Snd (miT Tb) RX12 cX12_context 8 (some .int) 42 (i_iload 44 5) := snd_iload dX12_context_42
theorem sX12_context_44 : Snd (miT Tb) RX12 cX12_context 8 (some .int) 44 (i_iadd 45) := snd_iadd dX12_context_44
theorem sX12_context_45 : Snd (miT Tb) RX12 cX12_context 8 (some .int) 45 (i_const 46 (vI 2)) := snd_iconst dX12_context_45
theorem sX12_context_46 : Snd (miT Tb) RX12 cX12_context 8 (some .int) 46 (i_icmp_le 49 53) := snd_icmp_le dX12_context_46 rfl
theorem sX12_context_49 : Snd (miT Tb) RX12 cX12_context 8 (some .int) 49 (i_const 50 (vI 2)) := snd_iconst dX12_context_49
theorem sX12_context_50 : Snd (miT Tb) RX12 cX12_context 8 (some .int) 50 (i_goto 58) := snd_goto dX12_context_50 rfl
theorem sX12_context_53 : Snd (miT Tb) RX12 cX12_context 8 (some .int) 53 (i_iload 55 4) := snd_iload dX12_context_53
theorem sX12_context_55 : Snd (miT Tb) RX12 cX12_context 8 (some .int) 55 (i_iload 57 5) := snd_iload dX12_context_55
theorem sX12_context_57 : Snd (miT Tb) RX12 cX12_context 8 (some .int) 57 (i_iadd 58) := snd_iadd dX12_context_57
theorem sX12_context_58 : Snd (miT Tb) RX12 cX12_context 8 (some .int) 58 (i_istore 60 7) := snd_istore (by decide) dX12_context_58
theorem sX12_context_60 : Snd (miT Tb) RX12 cX12_context 8 (some .int) 60 (i_iload 62 6) := snd_iload dX12_context_60
theorem sX12_context_62 : Snd (miT Tb) RX12 cX12_context 8 (some .int) 62 (i_const 63 (vI 2)) := snd_iconst dX12_context_62
theorem sX12_context_63 : Snd (miT Tb) RX12 cX12_context 8 (some .int) 63 (i_icmp_le 66 71) := snd_icmp_le dX12_context_63 rfl
theorem sX12_context_66 : Snd (miT Tb) RX12 cX12_context 8 (some .int) 66 (i_const 68 (vI 8)) := snd_bipush (by decide) dX12_context_66
theorem sX12_context_68 : Snd (miT Tb) RX12 cX12_context 8 (some .int) 68 (i_goto 99) := snd_goto dX12_context_68 rfl
theorem sX12_context_71 : Snd (miT Tb) RX12 cX12_context 8 (some .int) 71 (i_iload 73 6) := snd_iload dX12_context_71
theorem sX12_context_73 : Snd (miT Tb) RX12 cX12_context 8 (some .int) 73 (i_const 74 (vI 2)) := snd_iconst dX12_context_73
theorem sX12_context_74 : Snd (miT Tb) RX12 cX12_context 8 (some .int) 74 (i_icmp_ne 77 92) := snd_icmp_ne dX12_context_74 rfl
theorem sX12_context_77 : Snd (miT Tb) RX12 cX12_context 8 (some .int) 77 (i_iload 79 7) := snd_iload dX12_context_77
theorem sX12_context_79 : Snd (miT Tb) RX12 cX12_context 8 (some .int) 79 (i_if_le 82 87) := snd_if_le dX12_context_79 rfl
theorem sX12_context_82 : Snd (miT Tb) RX12 cX12_context 8 (some .int) 82 (i_const 84 (vI 7)) := snd_bipush (by decide) dX12_context_82
theorem sX12_context_84 : Snd (miT Tb) RX12 cX12_context 8 (some .int) 84 (i_goto 99) := snd_goto dX12_context_84 rfl
theorem sX12_context_87 : Snd (miT Tb) RX12 cX12_context 8 (some .int) 87 (i_const 89 (vI 6)) := snd_bipush (by decide) dX12_context_87
theorem sX12_context_89 : Snd (miT Tb) RX12 cX12_context 8 (some .int) 89 (i_goto 99) := snd_goto dX12_context_89 rfl
theorem sX12_context_92 : Snd (miT Tb) RX12 cX12_context 8 (some .int) 92 (i_const 93 (vI 3)) := snd_iconst dX12_context_92
theorem sX12_context_93 : Snd (miT Tb) RX12 cX12_context 8 (some .int) 93 (i_iload 95 6) := snd_iload dX12_context_93
theorem sX12_context_95 : Snd (miT Tb) RX12 cX12_context 8 (some .int) 95 (i_imul 96) := snd_imul dX12_context_95
theorem sX12_context_96 : Snd (miT Tb) RX12 cX12_context 8 (some .int) 96 (i_iload 98 7) := snd_iload dX12_context_96
theorem sX12_context_98 : Snd (miT Tb) RX12 cX12_context 8 (some .int) 98 (i_iadd 99) := snd_iadd dX12_context_98
theorem sX12_context_99 : Snd (miT Tb) RX12 cX12_context 8 (some .int) 99 (i_iret) := snd_iret dX12_context_99
theorem sX12_context_100 : Snd (miT Tb) RX12 cX12_context 8 (some .int) 100 (i_aload 101 0) := snd_aload_n rfl dX12_context_100
theorem sX12_context_101 : Snd (miT Tb) RX12 cX12_context 8 (some .int) 101 (i_getR 11 11 104) := snd_getR rfl (by decide) (by decide) (by decide) (fun hK ho hs hq kk => gf_X12_41 hK ho hs hq rfl dX12_context_101 kk)
theorem sX12_context_104 : Snd (miT Tb) RX12 cX12_context 8 (some .int) 104 (i_aload 105 0) := snd_aload_n rfl dX12_context_104
theorem sX12_context_105 : Snd (miT Tb) RX12 cX12_context 8 (some .int) 105 (i_getI 11 26 108) := snd_getI (fun hK ho hs hv kk => gf_X12_246 hK ho hs hv dX12_context_105 kk)
theorem sX12_context_108 : Snd (miT Tb) RX12 cX12_context 8 (some .int) 108 (i_iald 109) := snd_iald dX12_context_108
theorem sX12_context_109 : Snd (miT Tb) RX12 cX12_context 8 (some .int) 109 (i_const 110 (vI 1)) := snd_iconst dX12_context_109
theorem sX12_context_110 : Snd (miT Tb) RX12 cX12_context 8 (some .int) 110 (i_icmp_ne 113 125) := snd_icmp_ne dX12_context_110 rfl
theorem sX12_context_113 : Snd (miT Tb) RX12 cX12_context 8 (some .int) 113 (i_iload 115 4) := snd_iload dX12_context_113
theorem sX12_context_115 : Snd (miT Tb) RX12 cX12_context 8 (some .int) 115 (i_istore 117 7) := snd_istore (by decide) dX12_context_115
theorem sX12_context_117 : Snd (miT Tb) RX12 cX12_context 8 (some .int) 117 (i_iload 119 5) := snd_iload dX12_context_117
theorem sX12_context_119 : Snd (miT Tb) RX12 cX12_context 8 (some .int) 119 (i_istore 121 4) := snd_istore (by decide) dX12_context_119
theorem sX12_context_121 : Snd (miT Tb) RX12 cX12_context 8 (some .int) 121 (i_iload 123 7) := snd_iload dX12_context_121
theorem sX12_context_123 : Snd (miT Tb) RX12 cX12_context 8 (some .int) 123 (i_istore 125 5) := snd_istore (by decide) dX12_context_123
theorem sX12_context_125 : Snd (miT Tb) RX12 cX12_context 8 (some .int) 125 (i_iload 127 4) := snd_iload dX12_context_125
theorem sX12_context_127 : Snd (miT Tb) RX12 cX12_context 8 (some .int) 127 (i_const 128 (vI 2)) := snd_iconst dX12_context_127
theorem sX12_context_128 : Snd (miT Tb) RX12 cX12_context 8 (some .int) 128 (i_icmp_ne 131 136) := snd_icmp_ne dX12_context_128 rfl
theorem sX12_context_131 : Snd (miT Tb) RX12 cX12_context 8 (some .int) 131 (i_const 133 (vI 8)) := snd_bipush (by decide) dX12_context_131
theorem sX12_context_133 : Snd (miT Tb) RX12 cX12_context 8 (some .int) 133 (i_goto 198) := snd_goto dX12_context_133 rfl
theorem sX12_context_136 : Snd (miT Tb) RX12 cX12_context 8 (some .int) 136 (i_iload 138 4) := snd_iload dX12_context_136
theorem sX12_context_138 : Snd (miT Tb) RX12 cX12_context 8 (some .int) 138 (i_const 139 (vI 1)) := snd_iconst dX12_context_138
theorem sX12_context_139 : Snd (miT Tb) RX12 cX12_context 8 (some .int) 139 (i_icmp_ne 142 166) := snd_icmp_ne dX12_context_139 rfl
theorem sX12_context_142 : Snd (miT Tb) RX12 cX12_context 8 (some .int) 142 (i_iload 144 5) := snd_iload dX12_context_142
theorem sX12_context_144 : Snd (miT Tb) RX12 cX12_context 8 (some .int) 144 (i_if_le 147 152) := snd_if_le dX12_context_144 rfl
theorem sX12_context_147 : Snd (miT Tb) RX12 cX12_context 8 (some .int) 147 (i_const 149 (vI 7)) := snd_bipush (by decide) dX12_context_147
theorem sX12_context_149 : Snd (miT Tb) RX12 cX12_context 8 (some .int) 149 (i_goto 198) := snd_goto dX12_context_149 rfl
theorem sX12_context_152 : Snd (miT Tb) RX12 cX12_context 8 (some .int) 152 (i_iload 154 6) := snd_iload dX12_context_152
theorem sX12_context_154 : Snd (miT Tb) RX12 cX12_context 8 (some .int) 154 (i_if_le 157 162) := snd_if_le dX12_context_154 rfl
theorem sX12_context_157 : Snd (miT Tb) RX12 cX12_context 8 (some .int) 157 (i_const 159 (vI 6)) := snd_bipush (by decide) dX12_context_157
theorem sX12_context_159 : Snd (miT Tb) RX12 cX12_context 8 (some .int) 159 (i_goto 198) := snd_goto dX12_context_159 rfl
theorem sX12_context_162 : Snd (miT Tb) RX12 cX12_context 8 (some .int) 162 (i_const 163 (vI 5)) := snd_iconst dX12_context_162
theorem sX12_context_163 : Snd (miT Tb) RX12 cX12_context 8 (some .int) 163 (i_goto 198) := snd_goto dX12_context_163 rfl
theorem sX12_context_166 : Snd (miT Tb) RX12 cX12_context 8 (some .int) 166 (i_iload 168 5) := snd_iload dX12_context_166
theorem sX12_context_168 : Snd (miT Tb) RX12 cX12_context 8 (some .int) 168 (i_const 169 (vI 2)) := snd_iconst dX12_context_168
theorem sX12_context_169 : Snd (miT Tb) RX12 cX12_context 8 (some .int) 169 (i_icmp_ne 172 176) := snd_icmp_ne dX12_context_169 rfl
theorem sX12_context_172 : Snd (miT Tb) RX12 cX12_context 8 (some .int) 172 (i_const 173 (vI 4)) := snd_iconst dX12_context_172
theorem sX12_context_173 : Snd (miT Tb) RX12 cX12_context 8 (some .int) 173 (i_goto 198) := snd_goto dX12_context_173 rfl
theorem sX12_context_176 : Snd (miT Tb) RX12 cX12_context 8 (some .int) 176 (i_iload 178 5) := snd_iload dX12_context_176
theorem sX12_context_178 : Snd (miT Tb) RX12 cX12_context 8 (some .int) 178 (i_const 179 (vI 1)) := snd_iconst dX12_context_178
theorem sX12_context_179 : Snd (miT Tb) RX12 cX12_context 8 (some .int) 179 (i_icmp_ne 182 186) := snd_icmp_ne dX12_context_179 rfl
theorem sX12_context_182 : Snd (miT Tb) RX12 cX12_context 8 (some .int) 182 (i_const 183 (vI 3)) := snd_iconst dX12_context_182
theorem sX12_context_183 : Snd (miT Tb) RX12 cX12_context 8 (some .int) 183 (i_goto 198) := snd_goto dX12_context_183 rfl
theorem sX12_context_186 : Snd (miT Tb) RX12 cX12_context 8 (some .int) 186 (i_iload 188 6) := snd_iload dX12_context_186
theorem sX12_context_188 : Snd (miT Tb) RX12 cX12_context 8 (some .int) 188 (i_const 189 (vI 1)) := snd_iconst dX12_context_188
theorem sX12_context_189 : Snd (miT Tb) RX12 cX12_context 8 (some .int) 189 (i_icmp_le 192 196) := snd_icmp_le dX12_context_189 rfl
theorem sX12_context_192 : Snd (miT Tb) RX12 cX12_context 8 (some .int) 192 (i_const 193 (vI 2)) := snd_iconst dX12_context_192
theorem sX12_context_193 : Snd (miT Tb) RX12 cX12_context 8 (some .int) 193 (i_goto 198) := snd_goto dX12_context_193 rfl
theorem sX12_context_196 : Snd (miT Tb) RX12 cX12_context 8 (some .int) 196 (i_iload 198 6) := snd_iload dX12_context_196
theorem sX12_context_198 : Snd (miT Tb) RX12 cX12_context 8 (some .int) 198 (i_iret) := snd_iret dX12_context_198
theorem kX12_context : raA (okI (miT Tb) (yX12_context, cX12_context, 8, (some .int))) tX12_context := (raA_br (raA_br (raA_br (raA_br (raA_br (raA_br (raA_leaf sX12_context_0) (raA_br (raA_leaf sX12_context_1) (raA_leaf sX12_context_2))) (raA_br (raA_leaf sX12_context_5) (raA_br (raA_leaf sX12_context_6) (raA_leaf sX12_context_7)))) (raA_br (raA_br (raA_leaf sX12_context_8) (raA_br (raA_leaf sX12_context_11) (raA_leaf sX12_context_13))) (raA_br (raA_leaf sX12_context_14) (raA_br (raA_leaf sX12_context_15) (raA_leaf sX12_context_18))))) (raA_br (raA_br (raA_br (raA_leaf sX12_context_20) (raA_br (raA_leaf sX12_context_21) (raA_leaf sX12_context_22))) (raA_br (raA_leaf sX12_context_25) (raA_br (raA_leaf sX12_context_27) (raA_leaf sX12_context_28)))) (raA_br (raA_br (raA_leaf sX12_context_31) (raA_br (raA_leaf sX12_context_32) (raA_leaf sX12_context_35))) (raA_br (raA_br (raA_leaf sX12_context_36) (raA_leaf sX12_context_37)) (raA_br (raA_leaf sX12_context_40) (raA_leaf sX12_context_42)))))) (raA_br (raA_br (raA_br (raA_br (raA_leaf sX12_context_44) (raA_br (raA_leaf sX12_context_45) (raA_leaf sX12_context_46))) (raA_br (raA_leaf sX12_context_49) (raA_br (raA_leaf sX12_context_50) (raA_leaf sX12_context_53)))) (raA_br (raA_br (raA_leaf sX12_context_55) (raA_br (raA_leaf sX12_context_57) (raA_leaf sX12_context_58))) (raA_br (raA_br (raA_leaf sX12_context_60) (raA_leaf sX12_context_62)) (raA_br (raA_leaf sX12_context_63) (raA_leaf sX12_context_66))))) (raA_br (raA_br (raA_br (raA_leaf sX12_context_68) (raA_br (raA_leaf sX12_context_71) (raA_leaf sX12_context_73))) (raA_br (raA_leaf sX12_context_74) (raA_br (raA_leaf sX12_context_77) (raA_leaf sX12_context_79)))) (raA_br (raA_br (raA_leaf sX12_context_82) (raA_br (raA_leaf sX12_context_84) (raA_leaf sX12_context_87))) (raA_br (raA_br (raA_leaf sX12_context_89) (raA_leaf sX12_context_92)) (raA_br (raA_leaf sX12_context_93) (raA_leaf sX12_context_95))))))) (raA_br (raA_br (raA_br (raA_br (raA_br (raA_leaf sX12_context_96) (raA_br (raA_leaf sX12_context_98) (raA_leaf sX12_context_99))) (raA_br (raA_leaf sX12_context_100) (raA_br (raA_leaf sX12_context_101) (raA_leaf sX12_context_104)))) (raA_br (raA_br (raA_leaf sX12_context_105) (raA_br (raA_leaf sX12_context_108) (raA_leaf sX12_context_109))) (raA_br (raA_leaf sX12_context_110) (raA_br (raA_leaf sX12_context_113) (raA_leaf sX12_context_115))))) (raA_br (raA_br (raA_br (raA_leaf sX12_context_117) (raA_br (raA_leaf sX12_context_119) (raA_leaf sX12_context_121))) (raA_br (raA_leaf sX12_context_123) (raA_br (raA_leaf sX12_context_125) (raA_leaf sX12_context_127)))) (raA_br (raA_br (raA_leaf sX12_context_128) (raA_br (raA_leaf sX12_context_131) (raA_leaf sX12_context_133))) (raA_br (raA_br (raA_leaf sX12_context_136) (raA_leaf sX12_context_138)) (raA_br (raA_leaf sX12_context_139) (raA_leaf sX12_context_142)))))) (raA_br (raA_br (raA_br (raA_br (raA_leaf sX12_context_144) (raA_br (raA_leaf sX12_context_147) (raA_leaf sX12_context_149))) (raA_br (raA_leaf sX12_context_152) (raA_br (raA_leaf sX12_context_154) (raA_leaf sX12_context_157)))) (raA_br (raA_br (raA_leaf sX12_context_159) (raA_br (raA_leaf sX12_context_162) (raA_leaf sX12_context_163))) (raA_br (raA_br (raA_leaf sX12_context_166) (raA_leaf sX12_context_168)) (raA_br (raA_leaf sX12_context_169) (raA_leaf sX12_context_172))))) (raA_br (raA_br (raA_br (raA_leaf sX12_context_173) (raA_br (raA_leaf sX12_context_176) (raA_leaf sX12_context_178))) (raA_br (raA_leaf sX12_context_179) (raA_br (raA_leaf sX12_context_182) (raA_leaf sX12_context_183)))) (raA_br (raA_br (raA_leaf sX12_context_186) (raA_br (raA_leaf sX12_context_188) (raA_leaf sX12_context_189))) (raA_br (raA_br (raA_leaf sX12_context_192) (raA_leaf sX12_context_193)) (raA_br (raA_leaf sX12_context_196) (raA_leaf sX12_context_198))))))))
theorem sX12_corner_0 : Snd (miT Tb) RX12 cX12_corner 7 (some .int) 0 (i_iload 1 0) := snd_iload_n rfl dX12_corner_0
theorem sX12_corner_1 : Snd (miT Tb) RX12 cX12_corner 7 (some .int) 1 (i_if_ne 4 6) := snd_if_ne dX12_corner_1 rfl
theorem sX12_corner_4 : Snd (miT Tb) RX12 cX12_corner 7 (some .int) 4 (i_const 5 (vI 0)) := snd_iconst dX12_corner_4
theorem sX12_corner_5 : Snd (miT Tb) RX12 cX12_corner 7 (some .int) 5 (i_iret) := snd_iret dX12_corner_5
theorem sX12_corner_6 : Snd (miT Tb) RX12 cX12_corner 7 (some .int) 6 (i_iload 7 3) := snd_iload_n rfl dX12_corner_6
theorem sX12_corner_7 : Snd (miT Tb) RX12 cX12_corner 7 (some .int) 7 (i_iload 8 0) := snd_iload_n rfl dX12_corner_7
theorem sX12_corner_8 : Snd (miT Tb) RX12 cX12_corner 7 (some .int) 8 (i_const 9 (vI 1)) := snd_iconst dX12_corner_8
theorem sX12_corner_9 : Snd (miT Tb) RX12 cX12_corner 7 (some .int) 9 (i_isub 10) := snd_isub dX12_corner_9
theorem sX12_corner_10 : Snd (miT Tb) RX12 cX12_corner 7 (some .int) 10 (i_const 11 (vI 3)) := snd_iconst dX12_corner_10
theorem sX12_corner_11 : Snd (miT Tb) RX12 cX12_corner 7 (some .int) 11 (i_idiv 12) := snd_idiv dX12_corner_11
theorem sX12_corner_12 : Snd (miT Tb) RX12 cX12_corner 7 (some .int) 12 (i_isub 13) := snd_isub dX12_corner_12
theorem sX12_corner_13 : Snd (miT Tb) RX12 cX12_corner 7 (some .int) 13 (i_istore 15 4) := snd_istore (by decide) dX12_corner_13
theorem sX12_corner_15 : Snd (miT Tb) RX12 cX12_corner 7 (some .int) 15 (i_iload 16 0) := snd_iload_n rfl dX12_corner_15
theorem sX12_corner_16 : Snd (miT Tb) RX12 cX12_corner 7 (some .int) 16 (i_const 17 (vI 1)) := snd_iconst dX12_corner_16
theorem sX12_corner_17 : Snd (miT Tb) RX12 cX12_corner 7 (some .int) 17 (i_isub 18) := snd_isub dX12_corner_17
theorem sX12_corner_18 : Snd (miT Tb) RX12 cX12_corner 7 (some .int) 18 (i_const 19 (vI 3)) := snd_iconst dX12_corner_18
theorem sX12_corner_19 : Snd (miT Tb) RX12 cX12_corner 7 (some .int) 19 (i_irem 20) := snd_irem dX12_corner_19
theorem sX12_corner_20 : Snd (miT Tb) RX12 cX12_corner 7 (some .int) 20 (i_const 21 (vI 1)) := snd_iconst dX12_corner_20
theorem sX12_corner_21 : Snd (miT Tb) RX12 cX12_corner 7 (some .int) 21 (i_icmp_ne 24 28) := snd_icmp_ne dX12_corner_21 rfl
theorem sX12_corner_24 : Snd (miT Tb) RX12 cX12_corner 7 (some .int) 24 (i_const 25 (vI 0)) := snd_iconst dX12_corner_24
theorem sX12_corner_25 : Snd (miT Tb) RX12 cX12_corner 7 (some .int) 25 (i_goto 34) := snd_goto dX12_corner_25 rfl
theorem sX12_corner_28 : Snd (miT Tb) RX12 cX12_corner 7 (some .int) 28 (i_iload 29 1) := snd_iload_n rfl dX12_corner_28
theorem sX12_corner_29 : Snd (miT Tb) RX12 cX12_corner 7 (some .int) 29 (i_iload 31 4) := snd_iload dX12_corner_29
theorem sX12_corner_31 : Snd (miT Tb) RX12 cX12_corner 7 (some .int) 31 (i_cS2 46 34) := snd_cS2 (fun hK hd hC h6 h7 h8 kk => iv_X12_153 hK (mc_46 hC) ⟨hd, by show _ ≤ 40 * (_ + 1); omega⟩ (Nat.le_refl _) h6 h7 h8 ⟨Nat.le_refl _, Nat.le_refl _⟩ dX12_corner_31 kk)
theorem sX12_corner_34 : Snd (miT Tb) RX12 cX12_corner 7 (some .int) 34 (i_istore 36 5) := snd_istore (by decide) dX12_corner_34
theorem sX12_corner_36 : Snd (miT Tb) RX12 cX12_corner 7 (some .int) 36 (i_iload 37 0) := snd_iload_n rfl dX12_corner_36
theorem sX12_corner_37 : Snd (miT Tb) RX12 cX12_corner 7 (some .int) 37 (i_const 38 (vI 1)) := snd_iconst dX12_corner_37
theorem sX12_corner_38 : Snd (miT Tb) RX12 cX12_corner 7 (some .int) 38 (i_isub 39) := snd_isub dX12_corner_38
theorem sX12_corner_39 : Snd (miT Tb) RX12 cX12_corner 7 (some .int) 39 (i_const 40 (vI 3)) := snd_iconst dX12_corner_39
theorem sX12_corner_40 : Snd (miT Tb) RX12 cX12_corner 7 (some .int) 40 (i_irem 41) := snd_irem dX12_corner_40
theorem sX12_corner_41 : Snd (miT Tb) RX12 cX12_corner 7 (some .int) 41 (i_if_ne 44 48) := snd_if_ne dX12_corner_41 rfl
theorem sX12_corner_44 : Snd (miT Tb) RX12 cX12_corner 7 (some .int) 44 (i_const 45 (vI 0)) := snd_iconst dX12_corner_44
theorem sX12_corner_45 : Snd (miT Tb) RX12 cX12_corner 7 (some .int) 45 (i_goto 54) := snd_goto dX12_corner_45 rfl
theorem sX12_corner_48 : Snd (miT Tb) RX12 cX12_corner 7 (some .int) 48 (i_iload 49 2) := snd_iload_n rfl dX12_corner_48
theorem sX12_corner_49 : Snd (miT Tb) RX12 cX12_corner 7 (some .int) 49 (i_iload 51 4) := snd_iload dX12_corner_49
theorem sX12_corner_51 : Snd (miT Tb) RX12 cX12_corner 7 (some .int) 51 (i_cS2 46 54) := snd_cS2 (fun hK hd hC h6 h7 h8 kk => iv_X12_153 hK (mc_46 hC) ⟨hd, by show _ ≤ 40 * (_ + 1); omega⟩ (Nat.le_refl _) h6 h7 h8 ⟨Nat.le_refl _, Nat.le_refl _⟩ dX12_corner_51 kk)
theorem sX12_corner_54 : Snd (miT Tb) RX12 cX12_corner 7 (some .int) 54 (i_istore 56 6) := snd_istore (by decide) dX12_corner_54
theorem sX12_corner_56 : Snd (miT Tb) RX12 cX12_corner 7 (some .int) 56 (i_const 58 (vI 8)) := snd_bipush (by decide) dX12_corner_56
theorem sX12_corner_58 : Snd (miT Tb) RX12 cX12_corner 7 (some .int) 58 (i_iload 60 6) := snd_iload dX12_corner_58
theorem sX12_corner_60 : Snd (miT Tb) RX12 cX12_corner 7 (some .int) 60 (i_imul 61) := snd_imul dX12_corner_60
theorem sX12_corner_61 : Snd (miT Tb) RX12 cX12_corner 7 (some .int) 61 (i_iload 63 5) := snd_iload dX12_corner_61
theorem sX12_corner_63 : Snd (miT Tb) RX12 cX12_corner 7 (some .int) 63 (i_iadd 64) := snd_iadd dX12_corner_63
theorem sX12_corner_64 : Snd (miT Tb) RX12 cX12_corner 7 (some .int) 64 (i_iret) := snd_iret dX12_corner_64
theorem kX12_corner : raA (okI (miT Tb) (yX12_corner, cX12_corner, 7, (some .int))) tX12_corner := (raA_br (raA_br (raA_br (raA_br (raA_br (raA_leaf sX12_corner_0) (raA_leaf sX12_corner_1)) (raA_br (raA_leaf sX12_corner_4) (raA_br (raA_leaf sX12_corner_5) (raA_leaf sX12_corner_6)))) (raA_br (raA_br (raA_leaf sX12_corner_7) (raA_leaf sX12_corner_8)) (raA_br (raA_leaf sX12_corner_9) (raA_br (raA_leaf sX12_corner_10) (raA_leaf sX12_corner_11))))) (raA_br (raA_br (raA_br (raA_leaf sX12_corner_12) (raA_leaf sX12_corner_13)) (raA_br (raA_leaf sX12_corner_15) (raA_br (raA_leaf sX12_corner_16) (raA_leaf sX12_corner_17)))) (raA_br (raA_br (raA_leaf sX12_corner_18) (raA_br (raA_leaf sX12_corner_19) (raA_leaf sX12_corner_20))) (raA_br (raA_leaf sX12_corner_21) (raA_br (raA_leaf sX12_corner_24) (raA_leaf sX12_corner_25)))))) (raA_br (raA_br (raA_br (raA_br (raA_leaf sX12_corner_28) (raA_leaf sX12_corner_29)) (raA_br (raA_leaf sX12_corner_31) (raA_br (raA_leaf sX12_corner_34) (raA_leaf sX12_corner_36)))) (raA_br (raA_br (raA_leaf sX12_corner_37) (raA_br (raA_leaf sX12_corner_38) (raA_leaf sX12_corner_39))) (raA_br (raA_leaf sX12_corner_40) (raA_br (raA_leaf sX12_corner_41) (raA_leaf sX12_corner_44))))) (raA_br (raA_br (raA_br (raA_leaf sX12_corner_45) (raA_leaf sX12_corner_48)) (raA_br (raA_leaf sX12_corner_49) (raA_br (raA_leaf sX12_corner_51) (raA_leaf sX12_corner_54)))) (raA_br (raA_br (raA_leaf sX12_corner_56) (raA_br (raA_leaf sX12_corner_58) (raA_leaf sX12_corner_60))) (raA_br (raA_leaf sX12_corner_61) (raA_br (raA_leaf sX12_corner_63) (raA_leaf sX12_corner_64)))))))
theorem sX12_encode_0 : Snd (miT Tb) RX12 cX12_encode 6 (some .int) 0 (i_aload 1 0) := snd_aload_n rfl dX12_encode_0
theorem sX12_encode_1 : Snd (miT Tb) RX12 cX12_encode 6 (some .int) 1 (i_iload 2 1) := snd_iload_n rfl dX12_encode_1
theorem sX12_encode_2 : Snd (miT Tb) RX12 cX12_encode 6 (some .int) 2 (i_const 3 (vI 0)) := snd_iconst dX12_encode_2
theorem sX12_encode_3 : Snd (miT Tb) RX12 cX12_encode 6 (some .int) 3 (i_const 4 (vI 3)) := snd_iconst dX12_encode_3
theorem sX12_encode_4 : Snd (miT Tb) RX12 cX12_encode 6 (some .int) 4 (i_cS3 67 7) := snd_cS3 (fun hK hd hC h6 h7 h8 kk => iv_X12_120 hK (mc_67 hC) ⟨hd, by show _ ≤ 40 * (_ + 1); omega⟩ (Nat.le_refl _) h6 h7 h8 ⟨Nat.le_refl _, Nat.le_refl _⟩ dX12_encode_4 kk)
theorem sX12_encode_7 : Snd (miT Tb) RX12 cX12_encode 6 (some .int) 7 (i_if_eq 10 23) := snd_if_eq dX12_encode_7 rfl
theorem sX12_encode_10 : Snd (miT Tb) RX12 cX12_encode 6 (some .int) 10 (i_iload 11 2) := snd_iload_n rfl dX12_encode_10
theorem sX12_encode_11 : Snd (miT Tb) RX12 cX12_encode 6 (some .int) 11 (i_const 12 (vI 1)) := snd_iconst dX12_encode_11
theorem sX12_encode_12 : Snd (miT Tb) RX12 cX12_encode 6 (some .int) 12 (i_const 13 (vI 3)) := snd_iconst dX12_encode_12
theorem sX12_encode_13 : Snd (miT Tb) RX12 cX12_encode 6 (some .int) 13 (i_cS3 67 16) := snd_cS3 (fun hK hd hC h6 h7 h8 kk => iv_X12_120 hK (mc_67 hC) ⟨hd, by show _ ≤ 40 * (_ + 1); omega⟩ (Nat.le_refl _) h6 h7 h8 ⟨Nat.le_refl _, Nat.le_refl _⟩ dX12_encode_13 kk)
theorem sX12_encode_16 : Snd (miT Tb) RX12 cX12_encode 6 (some .int) 16 (i_if_eq 19 23) := snd_if_eq dX12_encode_16 rfl
theorem sX12_encode_19 : Snd (miT Tb) RX12 cX12_encode 6 (some .int) 19 (i_const 20 (vI 0)) := snd_iconst dX12_encode_19
theorem sX12_encode_20 : Snd (miT Tb) RX12 cX12_encode 6 (some .int) 20 (i_goto 24) := snd_goto dX12_encode_20 rfl
theorem sX12_encode_23 : Snd (miT Tb) RX12 cX12_encode 6 (some .int) 23 (i_const 24 (vI 1)) := snd_iconst dX12_encode_23
theorem sX12_encode_24 : Snd (miT Tb) RX12 cX12_encode 6 (some .int) 24 (i_putI 11 2 27) := snd_putI (fun hK ho hs kk => pf_X12_117 hK ho hs dX12_encode_24 kk)
theorem sX12_encode_27 : Snd (miT Tb) RX12 cX12_encode 6 (some .int) 27 (i_aload 28 0) := snd_aload_n rfl dX12_encode_27
theorem sX12_encode_28 : Snd (miT Tb) RX12 cX12_encode 6 (some .int) 28 (i_getI 11 2 31) := snd_getI (fun hK ho hs hv kk => gf_X12_117 hK ho hs hv dX12_encode_28 kk)
theorem sX12_encode_31 : Snd (miT Tb) RX12 cX12_encode 6 (some .int) 31 (i_if_le 34 36) := snd_if_le dX12_encode_31 rfl
theorem sX12_encode_34 : Snd (miT Tb) RX12 cX12_encode 6 (some .int) 34 (i_const 35 (vI 0)) := snd_iconst dX12_encode_34
theorem sX12_encode_35 : Snd (miT Tb) RX12 cX12_encode 6 (some .int) 35 (i_iret) := snd_iret dX12_encode_35
theorem sX12_encode_36 : Snd (miT Tb) RX12 cX12_encode 6 (some .int) 36 (i_const 37 (vI 0)) := snd_iconst dX12_encode_36
theorem sX12_encode_37 : Snd (miT Tb) RX12 cX12_encode 6 (some .int) 37 (i_istore 38 3) := snd_istore_n rfl (by decide) dX12_encode_37
theorem sX12_encode_38 : Snd (miT Tb) RX12 cX12_encode 6 (some .int) 38 (i_iload 39 3) := snd_iload_n rfl dX12_encode_38
theorem sX12_encode_39 : Snd (miT Tb) RX12 cX12_encode 6 (some .int) 39 (i_const 41 (vI 64)) := snd_bipush (by decide) dX12_encode_39
theorem sX12_encode_41 : Snd (miT Tb) RX12 cX12_encode 6 (some .int) 41 (i_icmp_ge 44 66) := snd_icmp_ge dX12_encode_41 rfl
theorem sX12_encode_44 : Snd (miT Tb) RX12 cX12_encode 6 (some .int) 44 (i_aload 45 0) := snd_aload_n rfl dX12_encode_44
theorem sX12_encode_45 : Snd (miT Tb) RX12 cX12_encode 6 (some .int) 45 (i_getR 11 6 48) := snd_getR rfl (by decide) (by decide) (by decide) (fun hK ho hs hq kk => gf_X12_26 hK ho hs hq rfl dX12_encode_45 kk)
theorem sX12_encode_48 : Snd (miT Tb) RX12 cX12_encode 6 (some .int) 48 (i_iload 49 3) := snd_iload_n rfl dX12_encode_48
theorem sX12_encode_49 : Snd (miT Tb) RX12 cX12_encode 6 (some .int) 49 (i_aload 50 0) := snd_aload_n rfl dX12_encode_49
theorem sX12_encode_50 : Snd (miT Tb) RX12 cX12_encode 6 (some .int) 50 (i_getR 11 5 53) := snd_getR rfl (by decide) (by decide) (by decide) (fun hK ho hs hq kk => gf_X12_23 hK ho hs hq rfl dX12_encode_50 kk)
theorem sX12_encode_53 : Snd (miT Tb) RX12 cX12_encode 6 (some .int) 53 (i_iload 54 3) := snd_iload_n rfl dX12_encode_53
theorem sX12_encode_54 : Snd (miT Tb) RX12 cX12_encode 6 (some .int) 54 (i_iald 55) := snd_iald dX12_encode_54
theorem sX12_encode_55 : Snd (miT Tb) RX12 cX12_encode 6 (some .int) 55 (i_const 58 (vI 128)) := snd_sipush (by decide) dX12_encode_55
theorem sX12_encode_58 : Snd (miT Tb) RX12 cX12_encode 6 (some .int) 58 (i_isub 59) := snd_isub dX12_encode_58
theorem sX12_encode_59 : Snd (miT Tb) RX12 cX12_encode 6 (some .int) 59 (i_iast 60) := snd_iast dX12_encode_59
theorem sX12_encode_60 : Snd (miT Tb) RX12 cX12_encode 6 (some .int) 60 (i_iinc 63 3 1) := snd_iinc (by decide) dX12_encode_60
theorem sX12_encode_63 : Snd (miT Tb) RX12 cX12_encode 6 (some .int) 63 (i_goto 38) := snd_goto dX12_encode_63 rfl
theorem sX12_encode_66 : Snd (miT Tb) RX12 cX12_encode 6 (some .int) 66 (i_const 67 (vI 0)) := snd_iconst dX12_encode_66
theorem sX12_encode_67 : Snd (miT Tb) RX12 cX12_encode 6 (some .int) 67 (i_istore 68 3) := snd_istore_n rfl (by decide) dX12_encode_67
theorem sX12_encode_68 : Snd (miT Tb) RX12 cX12_encode 6 (some .int) 68 (i_iload 69 3) := snd_iload_n rfl dX12_encode_68
theorem sX12_encode_69 : Snd (miT Tb) RX12 cX12_encode 6 (some .int) 69 (i_iload 70 1) := snd_iload_n rfl dX12_encode_69
theorem sX12_encode_70 : Snd (miT Tb) RX12 cX12_encode 6 (some .int) 70 (i_icmp_ge 73 121) := snd_icmp_ge dX12_encode_70 rfl
theorem sX12_encode_73 : Snd (miT Tb) RX12 cX12_encode 6 (some .int) 73 (i_aload 74 0) := snd_aload_n rfl dX12_encode_73
theorem sX12_encode_74 : Snd (miT Tb) RX12 cX12_encode 6 (some .int) 74 (i_aload 75 0) := snd_aload_n rfl dX12_encode_74
theorem sX12_encode_75 : Snd (miT Tb) RX12 cX12_encode 6 (some .int) 75 (i_getI 11 3 78) := snd_getI (fun hK ho hs hv kk => gf_X12_16 hK ho hs hv dX12_encode_75 kk)
theorem sX12_encode_78 : Snd (miT Tb) RX12 cX12_encode 6 (some .int) 78 (i_iload 79 3) := snd_iload_n rfl dX12_encode_78
theorem sX12_encode_79 : Snd (miT Tb) RX12 cX12_encode 6 (some .int) 79 (i_cS2 46 82) := snd_cS2 (fun hK hd hC h6 h7 h8 kk => iv_X12_153 hK (mc_46 hC) ⟨hd, by show _ ≤ 40 * (_ + 1); omega⟩ (Nat.le_refl _) h6 h7 h8 ⟨Nat.le_refl _, Nat.le_refl _⟩ dX12_encode_79 kk)
theorem sX12_encode_82 : Snd (miT Tb) RX12 cX12_encode 6 (some .int) 82 (i_aload 83 0) := snd_aload_n rfl dX12_encode_82
theorem sX12_encode_83 : Snd (miT Tb) RX12 cX12_encode 6 (some .int) 83 (i_getI 11 4 86) := snd_getI (fun hK ho hs hv kk => gf_X12_20 hK ho hs hv dX12_encode_83 kk)
theorem sX12_encode_86 : Snd (miT Tb) RX12 cX12_encode 6 (some .int) 86 (i_iload 87 3) := snd_iload_n rfl dX12_encode_86
theorem sX12_encode_87 : Snd (miT Tb) RX12 cX12_encode 6 (some .int) 87 (i_cS2 46 90) := snd_cS2 (fun hK hd hC h6 h7 h8 kk => iv_X12_153 hK (mc_46 hC) ⟨hd, by show _ ≤ 40 * (_ + 1); omega⟩ (Nat.le_refl _) h6 h7 h8 ⟨Nat.le_refl _, Nat.le_refl _⟩ dX12_encode_87 kk)
theorem sX12_encode_90 : Snd (miT Tb) RX12 cX12_encode 6 (some .int) 90 (i_const 91 (vI 0)) := snd_iconst dX12_encode_90
theorem sX12_encode_91 : Snd (miT Tb) RX12 cX12_encode 6 (some .int) 91 (i_cV3 31 11 94) := snd_cV3 (fun hK hd hC ho hs h6 h7 h8 kk => iv_X12_335 hK (mc_31 hC) ho hs ⟨hd, by show _ ≤ 40 * (_ + 1); omega⟩ (Nat.le_refl _) h6 h7 h8 ⟨Nat.le_refl _, Nat.le_refl _⟩ dX12_encode_91 kk)
theorem sX12_encode_94 : Snd (miT Tb) RX12 cX12_encode 6 (some .int) 94 (i_aload 95 0) := snd_aload_n rfl dX12_encode_94
theorem sX12_encode_95 : Snd (miT Tb) RX12 cX12_encode 6 (some .int) 95 (i_aload 96 0) := snd_aload_n rfl dX12_encode_95
theorem sX12_encode_96 : Snd (miT Tb) RX12 cX12_encode 6 (some .int) 96 (i_getI 11 3 99) := snd_getI (fun hK ho hs hv kk => gf_X12_16 hK ho hs hv dX12_encode_96 kk)
theorem sX12_encode_99 : Snd (miT Tb) RX12 cX12_encode 6 (some .int) 99 (i_iload 100 3) := snd_iload_n rfl dX12_encode_99
theorem sX12_encode_100 : Snd (miT Tb) RX12 cX12_encode 6 (some .int) 100 (i_cS2 46 103) := snd_cS2 (fun hK hd hC h6 h7 h8 kk => iv_X12_153 hK (mc_46 hC) ⟨hd, by show _ ≤ 40 * (_ + 1); omega⟩ (Nat.le_refl _) h6 h7 h8 ⟨Nat.le_refl _, Nat.le_refl _⟩ dX12_encode_100 kk)
theorem sX12_encode_103 : Snd (miT Tb) RX12 cX12_encode 6 (some .int) 103 (i_aload 104 0) := snd_aload_n rfl dX12_encode_103
theorem sX12_encode_104 : Snd (miT Tb) RX12 cX12_encode 6 (some .int) 104 (i_getI 11 4 107) := snd_getI (fun hK ho hs hv kk => gf_X12_20 hK ho hs hv dX12_encode_104 kk)
theorem sX12_encode_107 : Snd (miT Tb) RX12 cX12_encode 6 (some .int) 107 (i_iload 108 3) := snd_iload_n rfl dX12_encode_107
theorem sX12_encode_108 : Snd (miT Tb) RX12 cX12_encode 6 (some .int) 108 (i_cS2 46 111) := snd_cS2 (fun hK hd hC h6 h7 h8 kk => iv_X12_153 hK (mc_46 hC) ⟨hd, by show _ ≤ 40 * (_ + 1); omega⟩ (Nat.le_refl _) h6 h7 h8 ⟨Nat.le_refl _, Nat.le_refl _⟩ dX12_encode_108 kk)
theorem sX12_encode_111 : Snd (miT Tb) RX12 cX12_encode 6 (some .int) 111 (i_const 112 (vI 0)) := snd_iconst dX12_encode_111
theorem sX12_encode_112 : Snd (miT Tb) RX12 cX12_encode 6 (some .int) 112 (i_cV3 56 11 115) := snd_cV3 (fun hK hd hC ho hs h6 h7 h8 kk => iv_X12_339 hK (mc_56 hC) ho hs ⟨hd, by show _ ≤ 40 * (_ + 1); omega⟩ (Nat.le_refl _) h6 h7 h8 ⟨Nat.le_refl _, Nat.le_refl _⟩ dX12_encode_112 kk)
theorem sX12_encode_115 : Snd (miT Tb) RX12 cX12_encode 6 (some .int) 115 (i_iinc 118 3 1) := snd_iinc (by decide) dX12_encode_115
theorem sX12_encode_118 : Snd (miT Tb) RX12 cX12_encode 6 (some .int) 118 (i_goto 68) := snd_goto dX12_encode_118 rfl
theorem sX12_encode_121 : Snd (miT Tb) RX12 cX12_encode 6 (some .int) 121 (i_aload 122 0) := snd_aload_n rfl dX12_encode_121
theorem sX12_encode_122 : Snd (miT Tb) RX12 cX12_encode 6 (some .int) 122 (i_const 123 (vI 0)) := snd_iconst dX12_encode_122
theorem sX12_encode_123 : Snd (miT Tb) RX12 cX12_encode 6 (some .int) 123 (i_aload 124 0) := snd_aload_n rfl dX12_encode_123
theorem sX12_encode_124 : Snd (miT Tb) RX12 cX12_encode 6 (some .int) 124 (i_getI 11 3 127) := snd_getI (fun hK ho hs hv kk => gf_X12_16 hK ho hs hv dX12_encode_124 kk)
theorem sX12_encode_127 : Snd (miT Tb) RX12 cX12_encode 6 (some .int) 127 (i_aload 128 0) := snd_aload_n rfl dX12_encode_127
theorem sX12_encode_128 : Snd (miT Tb) RX12 cX12_encode 6 (some .int) 128 (i_getI 11 4 131) := snd_getI (fun hK ho hs hv kk => gf_X12_20 hK ho hs hv dX12_encode_128 kk)
theorem sX12_encode_131 : Snd (miT Tb) RX12 cX12_encode 6 (some .int) 131 (i_iload 132 1) := snd_iload_n rfl dX12_encode_131
theorem sX12_encode_132 : Snd (miT Tb) RX12 cX12_encode 6 (some .int) 132 (i_cV4 22 11 135) := snd_cV4 (fun hK hd hC ho hs h6 h7 h8 kk => iv_X12_342 hK (mc_22 hC) ho hs ⟨hd, by show _ ≤ 40 * (_ + 1); omega⟩ (Nat.le_refl _) h6 h7 h8 ⟨Nat.le_refl _, Nat.le_refl _⟩ dX12_encode_132 kk)
theorem sX12_encode_135 : Snd (miT Tb) RX12 cX12_encode 6 (some .int) 135 (i_aload 136 0) := snd_aload_n rfl dX12_encode_135
theorem sX12_encode_136 : Snd (miT Tb) RX12 cX12_encode 6 (some .int) 136 (i_const 137 (vI 3)) := snd_iconst dX12_encode_136
theorem sX12_encode_137 : Snd (miT Tb) RX12 cX12_encode 6 (some .int) 137 (i_iload 138 1) := snd_iload_n rfl dX12_encode_137
theorem sX12_encode_138 : Snd (miT Tb) RX12 cX12_encode 6 (some .int) 138 (i_imul 139) := snd_imul dX12_encode_138
theorem sX12_encode_139 : Snd (miT Tb) RX12 cX12_encode 6 (some .int) 139 (i_const 140 (vI 1)) := snd_iconst dX12_encode_139
theorem sX12_encode_140 : Snd (miT Tb) RX12 cX12_encode 6 (some .int) 140 (i_iadd 141) := snd_iadd dX12_encode_140
theorem sX12_encode_141 : Snd (miT Tb) RX12 cX12_encode 6 (some .int) 141 (i_putI 11 18 144) := snd_putI (fun hK ho hs kk => pf_X12_345 hK ho hs dX12_encode_141 kk)
theorem sX12_encode_144 : Snd (miT Tb) RX12 cX12_encode 6 (some .int) 144 (i_const 145 (vI 0)) := snd_iconst dX12_encode_144
theorem sX12_encode_145 : Snd (miT Tb) RX12 cX12_encode 6 (some .int) 145 (i_istore 146 3) := snd_istore_n rfl (by decide) dX12_encode_145
theorem sX12_encode_146 : Snd (miT Tb) RX12 cX12_encode 6 (some .int) 146 (i_const 147 (vI 0)) := snd_iconst dX12_encode_146
theorem sX12_encode_147 : Snd (miT Tb) RX12 cX12_encode 6 (some .int) 147 (i_istore 149 4) := snd_istore (by decide) dX12_encode_147
theorem sX12_encode_149 : Snd (miT Tb) RX12 cX12_encode 6 (some .int) 149 (i_iload 151 4) := snd_iload dX12_encode_149
theorem sX12_encode_151 : Snd (miT Tb) RX12 cX12_encode 6 (some .int) 151 (i_aload 152 0) := snd_aload_n rfl dX12_encode_151
theorem sX12_encode_152 : Snd (miT Tb) RX12 cX12_encode 6 (some .int) 152 (i_getI 11 18 155) := snd_getI (fun hK ho hs hv kk => gf_X12_345 hK ho hs hv dX12_encode_152 kk)
theorem sX12_encode_155 : Snd (miT Tb) RX12 cX12_encode 6 (some .int) 155 (i_icmp_ge 158 201) := snd_icmp_ge dX12_encode_155 rfl
theorem sX12_encode_158 : Snd (miT Tb) RX12 cX12_encode 6 (some .int) 158 (i_aload 159 0) := snd_aload_n rfl dX12_encode_158
theorem sX12_encode_159 : Snd (miT Tb) RX12 cX12_encode 6 (some .int) 159 (i_iload 161 4) := snd_iload dX12_encode_159
theorem sX12_encode_161 : Snd (miT Tb) RX12 cX12_encode 6 (some .int) 161 (i_iload 163 4) := snd_iload dX12_encode_161
theorem sX12_encode_163 : Snd (miT Tb) RX12 cX12_encode 6 (some .int) 163 (i_aload 164 0) := snd_aload_n rfl dX12_encode_163
theorem sX12_encode_164 : Snd (miT Tb) RX12 cX12_encode 6 (some .int) 164 (i_getI 11 3 167) := snd_getI (fun hK ho hs hv kk => gf_X12_16 hK ho hs hv dX12_encode_164 kk)
theorem sX12_encode_167 : Snd (miT Tb) RX12 cX12_encode 6 (some .int) 167 (i_aload 168 0) := snd_aload_n rfl dX12_encode_167
theorem sX12_encode_168 : Snd (miT Tb) RX12 cX12_encode 6 (some .int) 168 (i_getI 11 4 171) := snd_getI (fun hK ho hs hv kk => gf_X12_20 hK ho hs hv dX12_encode_168 kk)
theorem sX12_encode_171 : Snd (miT Tb) RX12 cX12_encode 6 (some .int) 171 (i_iload 172 1) := snd_iload_n rfl dX12_encode_171
theorem sX12_encode_172 : Snd (miT Tb) RX12 cX12_encode 6 (some .int) 172 (i_cS4 33 175) := snd_cS4 (fun hK hd hC h6 h7 h8 kk => iv_X12_348 hK (mc_33 hC) ⟨hd, by show _ ≤ 40 * (_ + 1); omega⟩ (Nat.le_refl _) h6 h7 h8 ⟨Nat.le_refl _, Nat.le_refl _⟩ dX12_encode_172 kk)
theorem sX12_encode_175 : Snd (miT Tb) RX12 cX12_encode 6 (some .int) 175 (i_cV2 47 11 178) := snd_cV2 (fun hK hd hC ho hs h6 h7 h8 kk => iv_X12_352 hK (mc_47 hC) ho hs ⟨hd, by show _ ≤ 40 * (_ + 1); omega⟩ (Nat.le_refl _) h6 h7 h8 ⟨Nat.le_refl _, Nat.le_refl _⟩ dX12_encode_175 kk)
theorem sX12_encode_178 : Snd (miT Tb) RX12 cX12_encode 6 (some .int) 178 (i_aload 179 0) := snd_aload_n rfl dX12_encode_178
theorem sX12_encode_179 : Snd (miT Tb) RX12 cX12_encode 6 (some .int) 179 (i_iload 181 4) := snd_iload dX12_encode_179
theorem sX12_encode_181 : Snd (miT Tb) RX12 cX12_encode 6 (some .int) 181 (i_iload 182 3) := snd_iload_n rfl dX12_encode_181
theorem sX12_encode_182 : Snd (miT Tb) RX12 cX12_encode 6 (some .int) 182 (i_cV2 61 11 185) := snd_cV2 (fun hK hd hC ho hs h6 h7 h8 kk => iv_X12_355 hK (mc_61 hC) ho hs ⟨hd, by show _ ≤ 40 * (_ + 1); omega⟩ (Nat.le_refl _) h6 h7 h8 ⟨Nat.le_refl _, Nat.le_refl _⟩ dX12_encode_182 kk)
theorem sX12_encode_185 : Snd (miT Tb) RX12 cX12_encode 6 (some .int) 185 (i_iload 186 3) := snd_iload_n rfl dX12_encode_185
theorem sX12_encode_186 : Snd (miT Tb) RX12 cX12_encode 6 (some .int) 186 (i_aload 187 0) := snd_aload_n rfl dX12_encode_186
theorem sX12_encode_187 : Snd (miT Tb) RX12 cX12_encode 6 (some .int) 187 (i_getR 11 21 190) := snd_getR rfl (by decide) (by decide) (by decide) (fun hK ho hs hq kk => gf_X12_69 hK ho hs hq rfl dX12_encode_187 kk)
theorem sX12_encode_190 : Snd (miT Tb) RX12 cX12_encode 6 (some .int) 190 (i_iload 192 4) := snd_iload dX12_encode_190
theorem sX12_encode_192 : Snd (miT Tb) RX12 cX12_encode 6 (some .int) 192 (i_iald 193) := snd_iald dX12_encode_192
theorem sX12_encode_193 : Snd (miT Tb) RX12 cX12_encode 6 (some .int) 193 (i_iadd 194) := snd_iadd dX12_encode_193
theorem sX12_encode_194 : Snd (miT Tb) RX12 cX12_encode 6 (some .int) 194 (i_istore 195 3) := snd_istore_n rfl (by decide) dX12_encode_194
theorem sX12_encode_195 : Snd (miT Tb) RX12 cX12_encode 6 (some .int) 195 (i_iinc 198 4 1) := snd_iinc (by decide) dX12_encode_195
theorem sX12_encode_198 : Snd (miT Tb) RX12 cX12_encode 6 (some .int) 198 (i_goto 149) := snd_goto dX12_encode_198 rfl
theorem sX12_encode_201 : Snd (miT Tb) RX12 cX12_encode 6 (some .int) 201 (i_aload 202 0) := snd_aload_n rfl dX12_encode_201
theorem sX12_encode_202 : Snd (miT Tb) RX12 cX12_encode 6 (some .int) 202 (i_getR 11 40 205) := snd_getR rfl (by decide) (by decide) (by decide) (fun hK ho hs hq kk => gf_X12_96 hK ho hs hq rfl dX12_encode_202 kk)
theorem sX12_encode_205 : Snd (miT Tb) RX12 cX12_encode 6 (some .int) 205 (i_const 206 (vI 0)) := snd_iconst dX12_encode_205
theorem sX12_encode_206 : Snd (miT Tb) RX12 cX12_encode 6 (some .int) 206 (i_aload 207 0) := snd_aload_n rfl dX12_encode_206
theorem sX12_encode_207 : Snd (miT Tb) RX12 cX12_encode 6 (some .int) 207 (i_getI 11 3 210) := snd_getI (fun hK ho hs hv kk => gf_X12_16 hK ho hs hv dX12_encode_207 kk)
theorem sX12_encode_210 : Snd (miT Tb) RX12 cX12_encode 6 (some .int) 210 (i_iast 211) := snd_iast dX12_encode_210
theorem sX12_encode_211 : Snd (miT Tb) RX12 cX12_encode 6 (some .int) 211 (i_aload 212 0) := snd_aload_n rfl dX12_encode_211
theorem sX12_encode_212 : Snd (miT Tb) RX12 cX12_encode 6 (some .int) 212 (i_getR 11 40 215) := snd_getR rfl (by decide) (by decide) (by decide) (fun hK ho hs hq kk => gf_X12_96 hK ho hs hq rfl dX12_encode_212 kk)
theorem sX12_encode_215 : Snd (miT Tb) RX12 cX12_encode 6 (some .int) 215 (i_const 216 (vI 1)) := snd_iconst dX12_encode_215
theorem sX12_encode_216 : Snd (miT Tb) RX12 cX12_encode 6 (some .int) 216 (i_aload 217 0) := snd_aload_n rfl dX12_encode_216
theorem sX12_encode_217 : Snd (miT Tb) RX12 cX12_encode 6 (some .int) 217 (i_getI 11 4 220) := snd_getI (fun hK ho hs hv kk => gf_X12_20 hK ho hs hv dX12_encode_217 kk)
theorem sX12_encode_220 : Snd (miT Tb) RX12 cX12_encode 6 (some .int) 220 (i_iast 221) := snd_iast dX12_encode_220
theorem sX12_encode_221 : Snd (miT Tb) RX12 cX12_encode 6 (some .int) 221 (i_aload 222 0) := snd_aload_n rfl dX12_encode_221
theorem sX12_encode_222 : Snd (miT Tb) RX12 cX12_encode 6 (some .int) 222 (i_getR 11 40 225) := snd_getR rfl (by decide) (by decide) (by decide) (fun hK ho hs hq kk => gf_X12_96 hK ho hs hq rfl dX12_encode_222 kk)
theorem sX12_encode_225 : Snd (miT Tb) RX12 cX12_encode 6 (some .int) 225 (i_const 226 (vI 2)) := snd_iconst dX12_encode_225
theorem sX12_encode_226 : Snd (miT Tb) RX12 cX12_encode 6 (some .int) 226 (i_iload 227 1) := snd_iload_n rfl dX12_encode_226
theorem sX12_encode_227 : Snd (miT Tb) RX12 cX12_encode 6 (some .int) 227 (i_iast 228) := snd_iast dX12_encode_227
theorem sX12_encode_228 : Snd (miT Tb) RX12 cX12_encode 6 (some .int) 228 (i_aload 229 0) := snd_aload_n rfl dX12_encode_228
theorem sX12_encode_229 : Snd (miT Tb) RX12 cX12_encode 6 (some .int) 229 (i_getR 11 40 232) := snd_getR rfl (by decide) (by decide) (by decide) (fun hK ho hs hq kk => gf_X12_96 hK ho hs hq rfl dX12_encode_229 kk)
theorem sX12_encode_232 : Snd (miT Tb) RX12 cX12_encode 6 (some .int) 232 (i_const 233 (vI 3)) := snd_iconst dX12_encode_232
theorem sX12_encode_233 : Snd (miT Tb) RX12 cX12_encode 6 (some .int) 233 (i_iload 234 2) := snd_iload_n rfl dX12_encode_233
theorem sX12_encode_234 : Snd (miT Tb) RX12 cX12_encode 6 (some .int) 234 (i_iast 235) := snd_iast dX12_encode_234
theorem sX12_encode_235 : Snd (miT Tb) RX12 cX12_encode 6 (some .int) 235 (i_aload 236 0) := snd_aload_n rfl dX12_encode_235
theorem sX12_encode_236 : Snd (miT Tb) RX12 cX12_encode 6 (some .int) 236 (i_const 237 (vI 4)) := snd_iconst dX12_encode_236
theorem sX12_encode_237 : Snd (miT Tb) RX12 cX12_encode 6 (some .int) 237 (i_putI 11 41 240) := snd_putI (fun hK ho hs kk => pf_X12_329 hK ho hs dX12_encode_237 kk)
theorem sX12_encode_240 : Snd (miT Tb) RX12 cX12_encode 6 (some .int) 240 (i_const 241 (vI 1)) := snd_iconst dX12_encode_240
theorem sX12_encode_241 : Snd (miT Tb) RX12 cX12_encode 6 (some .int) 241 (i_istore 243 4) := snd_istore (by decide) dX12_encode_241
theorem sX12_encode_243 : Snd (miT Tb) RX12 cX12_encode 6 (some .int) 243 (i_iload 245 4) := snd_iload dX12_encode_243
theorem sX12_encode_245 : Snd (miT Tb) RX12 cX12_encode 6 (some .int) 245 (i_iload 246 2) := snd_iload_n rfl dX12_encode_245
theorem sX12_encode_246 : Snd (miT Tb) RX12 cX12_encode 6 (some .int) 246 (i_icmp_gt 249 279) := snd_icmp_gt dX12_encode_246 rfl
theorem sX12_encode_249 : Snd (miT Tb) RX12 cX12_encode 6 (some .int) 249 (i_const 250 (vI 0)) := snd_iconst dX12_encode_249
theorem sX12_encode_250 : Snd (miT Tb) RX12 cX12_encode 6 (some .int) 250 (i_istore 252 5) := snd_istore (by decide) dX12_encode_250
theorem sX12_encode_252 : Snd (miT Tb) RX12 cX12_encode 6 (some .int) 252 (i_iload 254 5) := snd_iload dX12_encode_252
theorem sX12_encode_254 : Snd (miT Tb) RX12 cX12_encode 6 (some .int) 254 (i_iload 255 1) := snd_iload_n rfl dX12_encode_254
theorem sX12_encode_255 : Snd (miT Tb) RX12 cX12_encode 6 (some .int) 255 (i_icmp_gt 258 273) := snd_icmp_gt dX12_encode_255 rfl
theorem sX12_encode_258 : Snd (miT Tb) RX12 cX12_encode 6 (some .int) 258 (i_aload 259 0) := snd_aload_n rfl dX12_encode_258
theorem sX12_encode_259 : Snd (miT Tb) RX12 cX12_encode 6 (some .int) 259 (i_iload 261 5) := snd_iload dX12_encode_259
theorem sX12_encode_261 : Snd (miT Tb) RX12 cX12_encode 6 (some .int) 261 (i_iload 263 4) := snd_iload dX12_encode_261
theorem sX12_encode_263 : Snd (miT Tb) RX12 cX12_encode 6 (some .int) 263 (i_iload 264 2) := snd_iload_n rfl dX12_encode_263
theorem sX12_encode_264 : Snd (miT Tb) RX12 cX12_encode 6 (some .int) 264 (i_cV3 53 11 267) := snd_cV3 (fun hK hd hC ho hs h6 h7 h8 kk => iv_X12_358 hK (mc_53 hC) ho hs ⟨hd, by show _ ≤ 40 * (_ + 1); omega⟩ (Nat.le_refl _) h6 h7 h8 ⟨Nat.le_refl _, Nat.le_refl _⟩ dX12_encode_264 kk)
theorem sX12_encode_267 : Snd (miT Tb) RX12 cX12_encode 6 (some .int) 267 (i_iinc 270 5 1) := snd_iinc (by decide) dX12_encode_267
theorem sX12_encode_270 : Snd (miT Tb) RX12 cX12_encode 6 (some .int) 270 (i_goto 252) := snd_goto dX12_encode_270 rfl
theorem sX12_encode_273 : Snd (miT Tb) RX12 cX12_encode 6 (some .int) 273 (i_iinc 276 4 1) := snd_iinc (by decide) dX12_encode_273
theorem sX12_encode_276 : Snd (miT Tb) RX12 cX12_encode 6 (some .int) 276 (i_goto 243) := snd_goto dX12_encode_276 rfl
theorem sX12_encode_279 : Snd (miT Tb) RX12 cX12_encode 6 (some .int) 279 (i_aload 280 0) := snd_aload_n rfl dX12_encode_279
theorem sX12_encode_280 : Snd (miT Tb) RX12 cX12_encode 6 (some .int) 280 (i_getI 11 41 283) := snd_getI (fun hK ho hs hv kk => gf_X12_329 hK ho hs hv dX12_encode_280 kk)
theorem sX12_encode_283 : Snd (miT Tb) RX12 cX12_encode 6 (some .int) 283 (i_iret) := snd_iret dX12_encode_283
theorem kX12_encode : raA (okI (miT Tb) (yX12_encode, cX12_encode, 6, (some .int))) tX12_encode := (raA_br (raA_br (raA_br (raA_br (raA_br (raA_br (raA_br (raA_leaf sX12_encode_0) (raA_leaf sX12_encode_1)) (raA_br (raA_leaf sX12_encode_2) (raA_leaf sX12_encode_3))) (raA_br (raA_br (raA_leaf sX12_encode_4) (raA_leaf sX12_encode_7)) (raA_br (raA_leaf sX12_encode_10) (raA_br (raA_leaf sX12_encode_11) (raA_leaf sX12_encode_12))))) (raA_br (raA_br (raA_br (raA_leaf sX12_encode_13) (raA_leaf sX12_encode_16)) (raA_br (raA_leaf sX12_encode_19) (raA_br (raA_leaf sX12_encode_20) (raA_leaf sX12_encode_23)))) (raA_br (raA_br (raA_leaf sX12_encode_24) (raA_leaf sX12_encode_27)) (raA_br (raA_leaf sX12_encode_28) (raA_br (raA_leaf sX12_encode_31) (raA_leaf sX12_encode_34)))))) (raA_br (raA_br (raA_br (raA_br (raA_leaf sX12_encode_35) (raA_leaf sX12_encode_36)) (raA_br (raA_leaf sX12_encode_37) (raA_br (raA_leaf sX12_encode_38) (raA_leaf sX12_encode_39)))) (raA_br (raA_br (raA_leaf sX12_encode_41) (raA_leaf sX12_encode_44)) (raA_br (raA_leaf sX12_encode_45) (raA_br (raA_leaf sX12_encode_48) (raA_leaf sX12_encode_49))))) (raA_br (raA_br (raA_br (raA_leaf sX12_encode_50) (raA_leaf sX12_encode_53)) (raA_br (raA_leaf sX12_encode_54) (raA_br (raA_leaf sX12_encode_55) (raA_leaf sX12_encode_58)))) (raA_br (raA_br (raA_leaf sX12_encode_59) (raA_leaf sX12_encode_60)) (raA_br (raA_leaf sX12_encode_63) (raA_br (raA_leaf sX12_encode_66) (raA_leaf sX12_encode_67))))))) (raA_br (raA_br (raA_br (raA_br (raA_br (raA_leaf sX12_encode_68) (raA_leaf sX12_encode_69)) (raA_br (raA_leaf sX12_encode_70) (raA_br (raA_leaf sX12_encode_73) (raA_leaf sX12_encode_74)))) (raA_br (raA_br (raA_leaf sX12_encode_75) (raA_leaf sX12_encode_78)) (raA_br (raA_leaf sX12_encode_79) (raA_br (raA_leaf sX12_encode_82) (raA_leaf sX12_encode_83))))) (raA_br (raA_br (raA_br (raA_leaf sX12_encode_86) (raA_leaf sX12_encode_87)) (raA_br (raA_leaf sX12_encode_90) (raA_br (raA_leaf sX12_encode_91) (raA_leaf sX12_encode_94)))) (raA_br (raA_br (raA_leaf sX12_encode_95) (raA_leaf sX12_encode_96)) (raA_br (raA_leaf sX12_encode_99) (raA_br (raA_leaf sX12_encode_100) (raA_leaf sX12_encode_103)))))) (raA_br (raA_br (raA_br (raA_br (raA_leaf sX12_encode_104) (raA_leaf sX12_encode_107)) (raA_br (raA_leaf sX12_encode_108) (raA_br (raA_leaf sX12_encode_111) (raA_leaf sX12_encode_112)))) (raA_br (raA_br (raA_leaf sX12_encode_115) (raA_leaf sX12_encode_118)) (raA_br (raA_leaf sX12_encode_121) (raA_br (raA_leaf sX12_encode_122) (raA_leaf sX12_encode_123))))) (raA_br (raA_br (raA_br (raA_leaf sX12_encode_124) (raA_leaf sX12_encode_127)) (raA_br (raA_leaf sX12_encode_128) (raA_br (raA_leaf sX12_encode_131) (raA_leaf sX12_encode_132)))) (raA_br (raA_br (raA_leaf sX12_encode_135) (raA_leaf sX12_encode_136)) (raA_br (raA_leaf sX12_encode_137) (raA_br (raA_leaf sX12_encode_138) (raA_leaf sX12_encode_139)))))))) (raA_br (raA_br (raA_br (raA_br (raA_br (raA_br (raA_leaf sX12_encode_140) (raA_leaf sX12_encode_141)) (raA_br (raA_leaf sX12_encode_144) (raA_br (raA_leaf sX12_encode_145) (raA_leaf sX12_encode_146)))) (raA_br (raA_br (raA_leaf sX12_encode_147) (raA_leaf sX12_encode_149)) (raA_br (raA_leaf sX12_encode_151) (raA_br (raA_leaf sX12_encode_152) (raA_leaf sX12_encode_155))))) (raA_br (raA_br (raA_br (raA_leaf sX12_encode_158) (raA_leaf sX12_encode_159)) (raA_br (raA_leaf sX12_encode_161) (raA_br (raA_leaf sX12_encode_163) (raA_leaf sX12_encode_164)))) (raA_br (raA_br (raA_leaf sX12_encode_167) (raA_leaf sX12_encode_168)) (raA_br (raA_leaf sX12_encode_171) (raA_br (raA_leaf sX12_encode_172) (raA_leaf sX12_encode_175)))))) (raA_br (raA_br (raA_br (raA_br (raA_leaf sX12_encode_178) (raA_leaf sX12_encode_179)) (raA_br (raA_leaf sX12_encode_181) (raA_br (raA_leaf sX12_encode_182) (raA_leaf sX12_encode_185)))) (raA_br (raA_br (raA_leaf sX12_encode_186) (raA_leaf sX12_encode_187)) (raA_br (raA_leaf sX12_encode_190) (raA_br (raA_leaf sX12_encode_192) (raA_leaf sX12_encode_193))))) (raA_br (raA_br (raA_br (raA_leaf sX12_encode_194) (raA_leaf sX12_encode_195)) (raA_br (raA_leaf sX12_encode_198) (raA_br (raA_leaf sX12_encode_201) (raA_leaf sX12_encode_202)))) (raA_br (raA_br (raA_leaf sX12_encode_205) (raA_leaf sX12_encode_206)) (raA_br (raA_leaf sX12_encode_207) (raA_br (raA_leaf sX12_encode_210) (raA_leaf sX12_encode_211))))))) (raA_br (raA_br (raA_br (raA_br (raA_br (raA_leaf sX12_encode_212) (raA_leaf sX12_encode_215)) (raA_br (raA_leaf sX12_encode_216) (raA_br (raA_leaf sX12_encode_217) (raA_leaf sX12_encode_220)))) (raA_br (raA_br (raA_leaf sX12_encode_221) (raA_leaf sX12_encode_222)) (raA_br (raA_leaf sX12_encode_225) (raA_br (raA_leaf sX12_encode_226) (raA_leaf sX12_encode_227))))) (raA_br (raA_br (raA_br (raA_leaf sX12_encode_228) (raA_leaf sX12_encode_229)) (raA_br (raA_leaf sX12_encode_232) (raA_br (raA_leaf sX12_encode_233) (raA_leaf sX12_encode_234)))) (raA_br (raA_br (raA_leaf sX12_encode_235) (raA_leaf sX12_encode_236)) (raA_br (raA_leaf sX12_encode_237) (raA_br (raA_leaf sX12_encode_240) (raA_leaf sX12_encode_241)))))) (raA_br (raA_br (raA_br (raA_br (raA_leaf sX12_encode_243) (raA_leaf sX12_encode_245)) (raA_br (raA_leaf sX12_encode_246) (raA_br (raA_leaf sX12_encode_249) (raA_leaf sX12_encode_250)))) (raA_br (raA_br (raA_leaf sX12_encode_252) (raA_leaf sX12_encode_254)) (raA_br (raA_leaf sX12_encode_255) (raA_br (raA_leaf sX12_encode_258) (raA_leaf sX12_encode_259))))) (raA_br (raA_br (raA_br (raA_leaf sX12_encode_261) (raA_leaf sX12_encode_263)) (raA_br (raA_leaf sX12_encode_264) (raA_br (raA_leaf sX12_encode_267) (raA_leaf sX12_encode_270)))) (raA_br (raA_br (raA_leaf sX12_encode_273) (raA_leaf sX12_encode_276)) (raA_br (raA_leaf sX12_encode_279) (raA_br (raA_leaf sX12_encode_280) (raA_leaf sX12_encode_283)))))))))
theorem sX12_endTelling_0 : Snd (miT Tb) RX12 cX12_endTelling 5 none 0 (i_aload 1 0) := snd_aload_n rfl dX12_endTelling_0
theorem sX12_endTelling_1 : Snd (miT Tb) RX12 cX12_endTelling 5 none 1 (i_getJ 11 33 4) := snd_getJ (fun hK ho hs hv kk => gf_X12_175 hK ho hs hv dX12_endTelling_1 kk)
theorem sX12_endTelling_4 : Snd (miT Tb) RX12 cX12_endTelling 5 none 4 (i_aload 5 0) := snd_aload_n rfl dX12_endTelling_4
theorem sX12_endTelling_5 : Snd (miT Tb) RX12 cX12_endTelling 5 none 5 (i_getJ 11 32 8) := snd_getJ (fun hK ho hs hv kk => gf_X12_171 hK ho hs hv dX12_endTelling_5 kk)
theorem sX12_endTelling_8 : Snd (miT Tb) RX12 cX12_endTelling 5 none 8 (i_ladd 9) := snd_ladd dX12_endTelling_8
theorem sX12_endTelling_9 : Snd (miT Tb) RX12 cX12_endTelling 5 none 9 (i_lstore 10 1) := snd_lstore_n rfl (by decide) dX12_endTelling_9
theorem sX12_endTelling_10 : Snd (miT Tb) RX12 cX12_endTelling 5 none 10 (i_aload 11 0) := snd_aload_n rfl dX12_endTelling_10
theorem sX12_endTelling_11 : Snd (miT Tb) RX12 cX12_endTelling 5 none 11 (i_aload 12 0) := snd_aload_n rfl dX12_endTelling_11
theorem sX12_endTelling_12 : Snd (miT Tb) RX12 cX12_endTelling 5 none 12 (i_getJ 11 33 15) := snd_getJ (fun hK ho hs hv kk => gf_X12_175 hK ho hs hv dX12_endTelling_12 kk)
theorem sX12_endTelling_15 : Snd (miT Tb) RX12 cX12_endTelling 5 none 15 (i_const 18 (vJ 65536)) := snd_ldc2 lc_X12_198 dX12_endTelling_15
theorem sX12_endTelling_18 : Snd (miT Tb) RX12 cX12_endTelling 5 none 18 (i_ldiv 19) := snd_ldiv dX12_endTelling_18
theorem sX12_endTelling_19 : Snd (miT Tb) RX12 cX12_endTelling 5 none 19 (i_const 22 (vJ 65536)) := snd_ldc2 lc_X12_198 dX12_endTelling_19
theorem sX12_endTelling_22 : Snd (miT Tb) RX12 cX12_endTelling 5 none 22 (i_lmul 23) := snd_lmul dX12_endTelling_22
theorem sX12_endTelling_23 : Snd (miT Tb) RX12 cX12_endTelling 5 none 23 (i_const 26 (vJ 65535)) := snd_ldc2 lc_X12_200 dX12_endTelling_23
theorem sX12_endTelling_26 : Snd (miT Tb) RX12 cX12_endTelling 5 none 26 (i_ladd 27) := snd_ladd dX12_endTelling_26
theorem sX12_endTelling_27 : Snd (miT Tb) RX12 cX12_endTelling 5 none 27 (i_putJ 11 33 30) := snd_putJ (fun hK ho hs kk => pf_X12_175 hK ho hs dX12_endTelling_27 kk)
theorem sX12_endTelling_30 : Snd (miT Tb) RX12 cX12_endTelling 5 none 30 (i_aload 31 0) := snd_aload_n rfl dX12_endTelling_30
theorem sX12_endTelling_31 : Snd (miT Tb) RX12 cX12_endTelling 5 none 31 (i_aload 32 0) := snd_aload_n rfl dX12_endTelling_31
theorem sX12_endTelling_32 : Snd (miT Tb) RX12 cX12_endTelling 5 none 32 (i_getJ 11 33 35) := snd_getJ (fun hK ho hs hv kk => gf_X12_175 hK ho hs hv dX12_endTelling_32 kk)
theorem sX12_endTelling_35 : Snd (miT Tb) RX12 cX12_endTelling 5 none 35 (i_lload 36 1) := snd_lload_n rfl dX12_endTelling_35
theorem sX12_endTelling_36 : Snd (miT Tb) RX12 cX12_endTelling 5 none 36 (i_lcmp 37) := snd_lcmp dX12_endTelling_36
theorem sX12_endTelling_37 : Snd (miT Tb) RX12 cX12_endTelling 5 none 37 (i_if_lt 40 51) := snd_if_lt dX12_endTelling_37 rfl
theorem sX12_endTelling_40 : Snd (miT Tb) RX12 cX12_endTelling 5 none 40 (i_aload 41 0) := snd_aload_n rfl dX12_endTelling_40
theorem sX12_endTelling_41 : Snd (miT Tb) RX12 cX12_endTelling 5 none 41 (i_getJ 11 33 44) := snd_getJ (fun hK ho hs hv kk => gf_X12_175 hK ho hs hv dX12_endTelling_41 kk)
theorem sX12_endTelling_44 : Snd (miT Tb) RX12 cX12_endTelling 5 none 44 (i_const 47 (vJ 32768)) := snd_ldc2 lc_X12_169 dX12_endTelling_44
theorem sX12_endTelling_47 : Snd (miT Tb) RX12 cX12_endTelling 5 none 47 (i_lsub 48) := snd_lsub dX12_endTelling_47
theorem sX12_endTelling_48 : Snd (miT Tb) RX12 cX12_endTelling 5 none 48 (i_goto 55) := snd_goto dX12_endTelling_48 rfl
theorem sX12_endTelling_51 : Snd (miT Tb) RX12 cX12_endTelling 5 none 51 (i_aload 52 0) := snd_aload_n rfl dX12_endTelling_51
theorem sX12_endTelling_52 : Snd (miT Tb) RX12 cX12_endTelling 5 none 52 (i_getJ 11 33 55) := snd_getJ (fun hK ho hs hv kk => gf_X12_175 hK ho hs hv dX12_endTelling_52 kk)
theorem sX12_endTelling_55 : Snd (miT Tb) RX12 cX12_endTelling 5 none 55 (i_putJ 11 33 58) := snd_putJ (fun hK ho hs kk => pf_X12_175 hK ho hs dX12_endTelling_55 kk)
theorem sX12_endTelling_58 : Snd (miT Tb) RX12 cX12_endTelling 5 none 58 (i_const 59 (vI 0)) := snd_iconst dX12_endTelling_58
theorem sX12_endTelling_59 : Snd (miT Tb) RX12 cX12_endTelling 5 none 59 (i_istore 60 3) := snd_istore_n rfl (by decide) dX12_endTelling_59
theorem sX12_endTelling_60 : Snd (miT Tb) RX12 cX12_endTelling 5 none 60 (i_iload 61 3) := snd_iload_n rfl dX12_endTelling_60
theorem sX12_endTelling_61 : Snd (miT Tb) RX12 cX12_endTelling 5 none 61 (i_const 62 (vI 2)) := snd_iconst dX12_endTelling_61
theorem sX12_endTelling_62 : Snd (miT Tb) RX12 cX12_endTelling 5 none 62 (i_icmp_ge 65 104) := snd_icmp_ge dX12_endTelling_62 rfl
theorem sX12_endTelling_65 : Snd (miT Tb) RX12 cX12_endTelling 5 none 65 (i_aload 66 0) := snd_aload_n rfl dX12_endTelling_65
theorem sX12_endTelling_66 : Snd (miT Tb) RX12 cX12_endTelling 5 none 66 (i_getI 11 34 69) := snd_getI (fun hK ho hs hv kk => gf_X12_178 hK ho hs hv dX12_endTelling_66 kk)
theorem sX12_endTelling_69 : Snd (miT Tb) RX12 cX12_endTelling 5 none 69 (i_istore 71 4) := snd_istore (by decide) dX12_endTelling_69
theorem sX12_endTelling_71 : Snd (miT Tb) RX12 cX12_endTelling 5 none 71 (i_iload 73 4) := snd_iload dX12_endTelling_71
theorem sX12_endTelling_73 : Snd (miT Tb) RX12 cX12_endTelling 5 none 73 (i_if_le 76 94) := snd_if_le dX12_endTelling_73 rfl
theorem sX12_endTelling_76 : Snd (miT Tb) RX12 cX12_endTelling 5 none 76 (i_aload 77 0) := snd_aload_n rfl dX12_endTelling_76
theorem sX12_endTelling_77 : Snd (miT Tb) RX12 cX12_endTelling 5 none 77 (i_const 80 (vJ 2)) := snd_ldc2 lc_X12_193 dX12_endTelling_77
theorem sX12_endTelling_80 : Snd (miT Tb) RX12 cX12_endTelling 5 none 80 (i_aload 81 0) := snd_aload_n rfl dX12_endTelling_80
theorem sX12_endTelling_81 : Snd (miT Tb) RX12 cX12_endTelling 5 none 81 (i_getJ 11 33 84) := snd_getJ (fun hK ho hs hv kk => gf_X12_175 hK ho hs hv dX12_endTelling_81 kk)
theorem sX12_endTelling_84 : Snd (miT Tb) RX12 cX12_endTelling 5 none 84 (i_lmul 85) := snd_lmul dX12_endTelling_84
theorem sX12_endTelling_85 : Snd (miT Tb) RX12 cX12_endTelling 5 none 85 (i_putJ 11 33 88) := snd_putJ (fun hK ho hs kk => pf_X12_175 hK ho hs dX12_endTelling_85 kk)
theorem sX12_endTelling_88 : Snd (miT Tb) RX12 cX12_endTelling 5 none 88 (i_iinc 91 4 (-1)) := snd_iinc (by decide) dX12_endTelling_88
theorem sX12_endTelling_91 : Snd (miT Tb) RX12 cX12_endTelling 5 none 91 (i_goto 71) := snd_goto dX12_endTelling_91 rfl
theorem sX12_endTelling_94 : Snd (miT Tb) RX12 cX12_endTelling 5 none 94 (i_aload 95 0) := snd_aload_n rfl dX12_endTelling_94
theorem sX12_endTelling_95 : Snd (miT Tb) RX12 cX12_endTelling 5 none 95 (i_cV0 52 11 98) := snd_cV0 (fun hK hd hC ho hs h6 h7 h8 kk => iv_X12_195 hK (mc_52 hC) ho hs ⟨hd, by show _ ≤ 40 * (_ + 1); omega⟩ (Nat.le_refl _) h6 h7 h8 ⟨Nat.le_refl _, Nat.le_refl _⟩ dX12_endTelling_95 kk)
theorem sX12_endTelling_98 : Snd (miT Tb) RX12 cX12_endTelling 5 none 98 (i_iinc 101 3 1) := snd_iinc (by decide) dX12_endTelling_98
theorem sX12_endTelling_101 : Snd (miT Tb) RX12 cX12_endTelling 5 none 101 (i_goto 60) := snd_goto dX12_endTelling_101 rfl
theorem sX12_endTelling_104 : Snd (miT Tb) RX12 cX12_endTelling 5 none 104 (i_aload 105 0) := snd_aload_n rfl dX12_endTelling_104
theorem sX12_endTelling_105 : Snd (miT Tb) RX12 cX12_endTelling 5 none 105 (i_aload 106 0) := snd_aload_n rfl dX12_endTelling_105
theorem sX12_endTelling_106 : Snd (miT Tb) RX12 cX12_endTelling 5 none 106 (i_getR 11 35 109) := snd_getR rfl (by decide) (by decide) (by decide) (fun hK ho hs hq kk => gf_X12_90 hK ho hs hq rfl dX12_endTelling_106 kk)
theorem sX12_endTelling_109 : Snd (miT Tb) RX12 cX12_endTelling 5 none 109 (i_aload 110 0) := snd_aload_n rfl dX12_endTelling_109
theorem sX12_endTelling_110 : Snd (miT Tb) RX12 cX12_endTelling 5 none 110 (i_getI 11 36 113) := snd_getI (fun hK ho hs hv kk => gf_X12_166 hK ho hs hv dX12_endTelling_110 kk)
theorem sX12_endTelling_113 : Snd (miT Tb) RX12 cX12_endTelling 5 none 113 (i_const 114 (vI 1)) := snd_iconst dX12_endTelling_113
theorem sX12_endTelling_114 : Snd (miT Tb) RX12 cX12_endTelling 5 none 114 (i_isub 115) := snd_isub dX12_endTelling_114
theorem sX12_endTelling_115 : Snd (miT Tb) RX12 cX12_endTelling 5 none 115 (i_iald 116) := snd_iald dX12_endTelling_115
theorem sX12_endTelling_116 : Snd (miT Tb) RX12 cX12_endTelling 5 none 116 (i_const 119 (vI 255)) := snd_sipush (by decide) dX12_endTelling_116
theorem sX12_endTelling_119 : Snd (miT Tb) RX12 cX12_endTelling 5 none 119 (i_icmp_ne 122 131) := snd_icmp_ne dX12_endTelling_119 rfl
theorem sX12_endTelling_122 : Snd (miT Tb) RX12 cX12_endTelling 5 none 122 (i_aload 123 0) := snd_aload_n rfl dX12_endTelling_122
theorem sX12_endTelling_123 : Snd (miT Tb) RX12 cX12_endTelling 5 none 123 (i_getI 11 36 126) := snd_getI (fun hK ho hs hv kk => gf_X12_166 hK ho hs hv dX12_endTelling_123 kk)
theorem sX12_endTelling_126 : Snd (miT Tb) RX12 cX12_endTelling 5 none 126 (i_const 127 (vI 1)) := snd_iconst dX12_endTelling_126
theorem sX12_endTelling_127 : Snd (miT Tb) RX12 cX12_endTelling 5 none 127 (i_isub 128) := snd_isub dX12_endTelling_127
theorem sX12_endTelling_128 : Snd (miT Tb) RX12 cX12_endTelling 5 none 128 (i_goto 135) := snd_goto dX12_endTelling_128 rfl
theorem sX12_endTelling_131 : Snd (miT Tb) RX12 cX12_endTelling 5 none 131 (i_aload 132 0) := snd_aload_n rfl dX12_endTelling_131
theorem sX12_endTelling_132 : Snd (miT Tb) RX12 cX12_endTelling 5 none 132 (i_getI 11 36 135) := snd_getI (fun hK ho hs hv kk => gf_X12_166 hK ho hs hv dX12_endTelling_132 kk)
theorem sX12_endTelling_135 : Snd (miT Tb) RX12 cX12_endTelling 5 none 135 (i_putI 11 36 138) := snd_putI (fun hK ho hs kk => pf_X12_166 hK ho hs dX12_endTelling_135 kk)
theorem sX12_endTelling_138 : Snd (miT Tb) RX12 cX12_endTelling 5 none 138 (i_vret) := snd_vret dX12_endTelling_138
theorem kX12_endTelling : raA (okI (miT Tb) (yX12_endTelling, cX12_endTelling, 5, none)) tX12_endTelling := (raA_br (raA_br (raA_br (raA_br (raA_br (raA_br (raA_leaf sX12_endTelling_0) (raA_leaf sX12_endTelling_1)) (raA_br (raA_leaf sX12_endTelling_4) (raA_leaf sX12_endTelling_5))) (raA_br (raA_br (raA_leaf sX12_endTelling_8) (raA_leaf sX12_endTelling_9)) (raA_br (raA_leaf sX12_endTelling_10) (raA_leaf sX12_endTelling_11)))) (raA_br (raA_br (raA_br (raA_leaf sX12_endTelling_12) (raA_leaf sX12_endTelling_15)) (raA_br (raA_leaf sX12_endTelling_18) (raA_leaf sX12_endTelling_19))) (raA_br (raA_br (raA_leaf sX12_endTelling_22) (raA_leaf sX12_endTelling_23)) (raA_br (raA_leaf sX12_endTelling_26) (raA_br (raA_leaf sX12_endTelling_27) (raA_leaf sX12_endTelling_30)))))) (raA_br (raA_br (raA_br (raA_br (raA_leaf sX12_endTelling_31) (raA_leaf sX12_endTelling_32)) (raA_br (raA_leaf sX12_endTelling_35) (raA_leaf sX12_endTelling_36))) (raA_br (raA_br (raA_leaf sX12_endTelling_37) (raA_leaf sX12_endTelling_40)) (raA_br (raA_leaf sX12_endTelling_41) (raA_br (raA_leaf sX12_endTelling_44) (raA_leaf sX12_endTelling_47))))) (raA_br (raA_br (raA_br (raA_leaf sX12_endTelling_48) (raA_leaf sX12_endTelling_51)) (raA_br (raA_leaf sX12_endTelling_52) (raA_leaf sX12_endTelling_55))) (raA_br (raA_br (raA_leaf sX12_endTelling_58) (raA_leaf sX12_endTelling_59)) (raA_br (raA_leaf sX12_endTelling_60) (raA_br (raA_leaf sX12_endTelling_61) (raA_leaf sX12_endTelling_62))))))) (raA_br (raA_br (raA_br (raA_br (raA_br (raA_leaf sX12_endTelling_65) (raA_leaf sX12_endTelling_66)) (raA_br (raA_leaf sX12_endTelling_69) (raA_leaf sX12_endTelling_71))) (raA_br (raA_br (raA_leaf sX12_endTelling_73) (raA_leaf sX12_endTelling_76)) (raA_br (raA_leaf sX12_endTelling_77) (raA_br (raA_leaf sX12_endTelling_80) (raA_leaf sX12_endTelling_81))))) (raA_br (raA_br (raA_br (raA_leaf sX12_endTelling_84) (raA_leaf sX12_endTelling_85)) (raA_br (raA_leaf sX12_endTelling_88) (raA_leaf sX12_endTelling_91))) (raA_br (raA_br (raA_leaf sX12_endTelling_94) (raA_leaf sX12_endTelling_95)) (raA_br (raA_leaf sX12_endTelling_98) (raA_br (raA_leaf sX12_endTelling_101) (raA_leaf sX12_endTelling_104)))))) (raA_br (raA_br (raA_br (raA_br (raA_leaf sX12_endTelling_105) (raA_leaf sX12_endTelling_106)) (raA_br (raA_leaf sX12_endTelling_109) (raA_leaf sX12_endTelling_110))) (raA_br (raA_br (raA_leaf sX12_endTelling_113) (raA_leaf sX12_endTelling_114)) (raA_br (raA_leaf sX12_endTelling_115) (raA_br (raA_leaf sX12_endTelling_116) (raA_leaf sX12_endTelling_119))))) (raA_br (raA_br (raA_br (raA_leaf sX12_endTelling_122) (raA_leaf sX12_endTelling_123)) (raA_br (raA_leaf sX12_endTelling_126) (raA_leaf sX12_endTelling_127))) (raA_br (raA_br (raA_leaf sX12_endTelling_128) (raA_leaf sX12_endTelling_131)) (raA_br (raA_leaf sX12_endTelling_132) (raA_br (raA_leaf sX12_endTelling_135) (raA_leaf sX12_endTelling_138))))))))

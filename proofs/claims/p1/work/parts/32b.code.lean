theorem sX12_findPlanes_0 : Snd (miT Tb) RX12 cX12_findPlanes 3 none 0 (i_aload 1 0) := snd_aload_n rfl dX12_findPlanes_0
theorem sX12_findPlanes_1 : Snd (miT Tb) RX12 cX12_findPlanes 3 none 1 (i_getR 11 12 4) := snd_getR rfl (by decide) (by decide) (by decide) (fun hK ho hs hq kk => gf_X12_44 hK ho hs hq rfl dX12_findPlanes_1 kk)
theorem sX12_findPlanes_4 : Snd (miT Tb) RX12 cX12_findPlanes 3 none 4 (i_iload 5 1) := snd_iload_n rfl dX12_findPlanes_4
theorem sX12_findPlanes_5 : Snd (miT Tb) RX12 cX12_findPlanes 3 none 5 (i_const 6 (vI 0)) := snd_iconst dX12_findPlanes_5
theorem sX12_findPlanes_6 : Snd (miT Tb) RX12 cX12_findPlanes 3 none 6 (i_iast 7) := snd_iast dX12_findPlanes_6
theorem sX12_findPlanes_7 : Snd (miT Tb) RX12 cX12_findPlanes 3 none 7 (i_const 9 (vI 64)) := snd_bipush (by decide) dX12_findPlanes_7
theorem sX12_findPlanes_9 : Snd (miT Tb) RX12 cX12_findPlanes 3 none 9 (i_iload 10 1) := snd_iload_n rfl dX12_findPlanes_9
theorem sX12_findPlanes_10 : Snd (miT Tb) RX12 cX12_findPlanes 3 none 10 (i_imul 11) := snd_imul dX12_findPlanes_10
theorem sX12_findPlanes_11 : Snd (miT Tb) RX12 cX12_findPlanes 3 none 11 (i_istore 12 2) := snd_istore_n rfl (by decide) dX12_findPlanes_11
theorem sX12_findPlanes_12 : Snd (miT Tb) RX12 cX12_findPlanes 3 none 12 (i_iload 13 2) := snd_iload_n rfl dX12_findPlanes_12
theorem sX12_findPlanes_13 : Snd (miT Tb) RX12 cX12_findPlanes 3 none 13 (i_const 15 (vI 64)) := snd_bipush (by decide) dX12_findPlanes_13
theorem sX12_findPlanes_15 : Snd (miT Tb) RX12 cX12_findPlanes 3 none 15 (i_iload 16 1) := snd_iload_n rfl dX12_findPlanes_15
theorem sX12_findPlanes_16 : Snd (miT Tb) RX12 cX12_findPlanes 3 none 16 (i_imul 17) := snd_imul dX12_findPlanes_16
theorem sX12_findPlanes_17 : Snd (miT Tb) RX12 cX12_findPlanes 3 none 17 (i_const 19 (vI 64)) := snd_bipush (by decide) dX12_findPlanes_17
theorem sX12_findPlanes_19 : Snd (miT Tb) RX12 cX12_findPlanes 3 none 19 (i_iadd 20) := snd_iadd dX12_findPlanes_19
theorem sX12_findPlanes_20 : Snd (miT Tb) RX12 cX12_findPlanes 3 none 20 (i_icmp_ge 23 59) := snd_icmp_ge dX12_findPlanes_20 rfl
theorem sX12_findPlanes_23 : Snd (miT Tb) RX12 cX12_findPlanes 3 none 23 (i_aload 24 0) := snd_aload_n rfl dX12_findPlanes_23
theorem sX12_findPlanes_24 : Snd (miT Tb) RX12 cX12_findPlanes 3 none 24 (i_getR 11 13 27) := snd_getR rfl (by decide) (by decide) (by decide) (fun hK ho hs hq kk => gf_X12_47 hK ho hs hq rfl dX12_findPlanes_24 kk)
theorem sX12_findPlanes_27 : Snd (miT Tb) RX12 cX12_findPlanes 3 none 27 (i_iload 28 2) := snd_iload_n rfl dX12_findPlanes_27
theorem sX12_findPlanes_28 : Snd (miT Tb) RX12 cX12_findPlanes 3 none 28 (i_iald 29) := snd_iald dX12_findPlanes_28
theorem sX12_findPlanes_29 : Snd (miT Tb) RX12 cX12_findPlanes 3 none 29 (i_const 30 (vI 1)) := snd_iconst dX12_findPlanes_29
theorem sX12_findPlanes_30 : Snd (miT Tb) RX12 cX12_findPlanes 3 none 30 (i_aload 31 0) := snd_aload_n rfl dX12_findPlanes_30
theorem sX12_findPlanes_31 : Snd (miT Tb) RX12 cX12_findPlanes 3 none 31 (i_getR 11 12 34) := snd_getR rfl (by decide) (by decide) (by decide) (fun hK ho hs hq kk => gf_X12_44 hK ho hs hq rfl dX12_findPlanes_31 kk)
theorem sX12_findPlanes_34 : Snd (miT Tb) RX12 cX12_findPlanes 3 none 34 (i_iload 35 1) := snd_iload_n rfl dX12_findPlanes_34
theorem sX12_findPlanes_35 : Snd (miT Tb) RX12 cX12_findPlanes 3 none 35 (i_iald 36) := snd_iald dX12_findPlanes_35
theorem sX12_findPlanes_36 : Snd (miT Tb) RX12 cX12_findPlanes 3 none 36 (i_ishl 37) := snd_ishl dX12_findPlanes_36
theorem sX12_findPlanes_37 : Snd (miT Tb) RX12 cX12_findPlanes 3 none 37 (i_icmp_lt 40 53) := snd_icmp_lt dX12_findPlanes_37 rfl
theorem sX12_findPlanes_40 : Snd (miT Tb) RX12 cX12_findPlanes 3 none 40 (i_aload 41 0) := snd_aload_n rfl dX12_findPlanes_40
theorem sX12_findPlanes_41 : Snd (miT Tb) RX12 cX12_findPlanes 3 none 41 (i_getR 11 12 44) := snd_getR rfl (by decide) (by decide) (by decide) (fun hK ho hs hq kk => gf_X12_44 hK ho hs hq rfl dX12_findPlanes_41 kk)
theorem sX12_findPlanes_44 : Snd (miT Tb) RX12 cX12_findPlanes 3 none 44 (i_iload 45 1) := snd_iload_n rfl dX12_findPlanes_44
theorem sX12_findPlanes_45 : Snd (miT Tb) RX12 cX12_findPlanes 3 none 45 (i_dup2 46) := snd_dup2 dX12_findPlanes_45
theorem sX12_findPlanes_46 : Snd (miT Tb) RX12 cX12_findPlanes 3 none 46 (i_iald 47) := snd_iald dX12_findPlanes_46
theorem sX12_findPlanes_47 : Snd (miT Tb) RX12 cX12_findPlanes 3 none 47 (i_const 48 (vI 1)) := snd_iconst dX12_findPlanes_47
theorem sX12_findPlanes_48 : Snd (miT Tb) RX12 cX12_findPlanes 3 none 48 (i_iadd 49) := snd_iadd dX12_findPlanes_48
theorem sX12_findPlanes_49 : Snd (miT Tb) RX12 cX12_findPlanes 3 none 49 (i_iast 50) := snd_iast dX12_findPlanes_49
theorem sX12_findPlanes_50 : Snd (miT Tb) RX12 cX12_findPlanes 3 none 50 (i_goto 23) := snd_goto dX12_findPlanes_50 rfl
theorem sX12_findPlanes_53 : Snd (miT Tb) RX12 cX12_findPlanes 3 none 53 (i_iinc 56 2 1) := snd_iinc (by decide) dX12_findPlanes_53
theorem sX12_findPlanes_56 : Snd (miT Tb) RX12 cX12_findPlanes 3 none 56 (i_goto 12) := snd_goto dX12_findPlanes_56 rfl
theorem sX12_findPlanes_59 : Snd (miT Tb) RX12 cX12_findPlanes 3 none 59 (i_vret) := snd_vret dX12_findPlanes_59
theorem kX12_findPlanes : raA (okI (miT Tb) (yX12_findPlanes, cX12_findPlanes, 3, none)) tX12_findPlanes := (raA_br (raA_br (raA_br (raA_br (raA_br (raA_leaf sX12_findPlanes_0) (raA_leaf sX12_findPlanes_1)) (raA_br (raA_leaf sX12_findPlanes_4) (raA_leaf sX12_findPlanes_5))) (raA_br (raA_br (raA_leaf sX12_findPlanes_6) (raA_leaf sX12_findPlanes_7)) (raA_br (raA_leaf sX12_findPlanes_9) (raA_br (raA_leaf sX12_findPlanes_10) (raA_leaf sX12_findPlanes_11))))) (raA_br (raA_br (raA_br (raA_leaf sX12_findPlanes_12) (raA_leaf sX12_findPlanes_13)) (raA_br (raA_leaf sX12_findPlanes_15) (raA_br (raA_leaf sX12_findPlanes_16) (raA_leaf sX12_findPlanes_17)))) (raA_br (raA_br (raA_leaf sX12_findPlanes_19) (raA_leaf sX12_findPlanes_20)) (raA_br (raA_leaf sX12_findPlanes_23) (raA_br (raA_leaf sX12_findPlanes_24) (raA_leaf sX12_findPlanes_27)))))) (raA_br (raA_br (raA_br (raA_br (raA_leaf sX12_findPlanes_28) (raA_leaf sX12_findPlanes_29)) (raA_br (raA_leaf sX12_findPlanes_30) (raA_br (raA_leaf sX12_findPlanes_31) (raA_leaf sX12_findPlanes_34)))) (raA_br (raA_br (raA_leaf sX12_findPlanes_35) (raA_leaf sX12_findPlanes_36)) (raA_br (raA_leaf sX12_findPlanes_37) (raA_br (raA_leaf sX12_findPlanes_40) (raA_leaf sX12_findPlanes_41))))) (raA_br (raA_br (raA_br (raA_leaf sX12_findPlanes_44) (raA_leaf sX12_findPlanes_45)) (raA_br (raA_leaf sX12_findPlanes_46) (raA_br (raA_leaf sX12_findPlanes_47) (raA_leaf sX12_findPlanes_48)))) (raA_br (raA_br (raA_leaf sX12_findPlanes_49) (raA_leaf sX12_findPlanes_50)) (raA_br (raA_leaf sX12_findPlanes_53) (raA_br (raA_leaf sX12_findPlanes_56) (raA_leaf sX12_findPlanes_59)))))))
theorem sX12_firstOf_0 : Snd (miT Tb) RX12 cX12_firstOf 1 (some .int) 0 (i_iload 1 0) := snd_iload_n rfl dX12_firstOf_0
theorem sX12_firstOf_1 : Snd (miT Tb) RX12 cX12_firstOf 1 (some .int) 1 (i_if_ne 4 8) := snd_if_ne dX12_firstOf_1 rfl
theorem sX12_firstOf_4 : Snd (miT Tb) RX12 cX12_firstOf 1 (some .int) 4 (i_const 5 (vI 0)) := snd_iconst dX12_firstOf_4
theorem sX12_firstOf_5 : Snd (miT Tb) RX12 cX12_firstOf 1 (some .int) 5 (i_goto 13) := snd_goto dX12_firstOf_5 rfl
theorem sX12_firstOf_8 : Snd (miT Tb) RX12 cX12_firstOf 1 (some .int) 8 (i_const 9 (vI 3)) := snd_iconst dX12_firstOf_8
theorem sX12_firstOf_9 : Snd (miT Tb) RX12 cX12_firstOf 1 (some .int) 9 (i_iload 10 0) := snd_iload_n rfl dX12_firstOf_9
theorem sX12_firstOf_10 : Snd (miT Tb) RX12 cX12_firstOf 1 (some .int) 10 (i_imul 11) := snd_imul dX12_firstOf_10
theorem sX12_firstOf_11 : Snd (miT Tb) RX12 cX12_firstOf 1 (some .int) 11 (i_const 12 (vI 2)) := snd_iconst dX12_firstOf_11
theorem sX12_firstOf_12 : Snd (miT Tb) RX12 cX12_firstOf 1 (some .int) 12 (i_isub 13) := snd_isub dX12_firstOf_12
theorem sX12_firstOf_13 : Snd (miT Tb) RX12 cX12_firstOf 1 (some .int) 13 (i_iret) := snd_iret dX12_firstOf_13
theorem kX12_firstOf : raA (okI (miT Tb) (yX12_firstOf, cX12_firstOf, 1, (some .int))) tX12_firstOf := (raA_br (raA_br (raA_br (raA_leaf sX12_firstOf_0) (raA_leaf sX12_firstOf_1)) (raA_br (raA_leaf sX12_firstOf_4) (raA_br (raA_leaf sX12_firstOf_5) (raA_leaf sX12_firstOf_8)))) (raA_br (raA_br (raA_leaf sX12_firstOf_9) (raA_leaf sX12_firstOf_10)) (raA_br (raA_leaf sX12_firstOf_11) (raA_br (raA_leaf sX12_firstOf_12) (raA_leaf sX12_firstOf_13)))))
theorem sX12_forget_0 : Snd (miT Tb) RX12 cX12_forget 2 none 0 (i_const 1 (vI 0)) := snd_iconst dX12_forget_0
theorem sX12_forget_1 : Snd (miT Tb) RX12 cX12_forget 2 none 1 (i_istore 2 1) := snd_istore_n rfl (by decide) dX12_forget_1
theorem sX12_forget_2 : Snd (miT Tb) RX12 cX12_forget 2 none 2 (i_iload 3 1) := snd_iload_n rfl dX12_forget_2
theorem sX12_forget_3 : Snd (miT Tb) RX12 cX12_forget 2 none 3 (i_const 5 (vI 19)) := snd_bipush (by decide) dX12_forget_3
theorem sX12_forget_5 : Snd (miT Tb) RX12 cX12_forget 2 none 5 (i_icmp_ge 8 57) := snd_icmp_ge dX12_forget_5 rfl
theorem sX12_forget_8 : Snd (miT Tb) RX12 cX12_forget 2 none 8 (i_aload 9 0) := snd_aload_n rfl dX12_forget_8
theorem sX12_forget_9 : Snd (miT Tb) RX12 cX12_forget 2 none 9 (i_getR 11 30 12) := snd_getR rfl (by decide) (by decide) (by decide) (fun hK ho hs hq kk => gf_X12_84 hK ho hs hq rfl dX12_forget_9 kk)
theorem sX12_forget_12 : Snd (miT Tb) RX12 cX12_forget 2 none 12 (i_iload 13 1) := snd_iload_n rfl dX12_forget_12
theorem sX12_forget_13 : Snd (miT Tb) RX12 cX12_forget 2 none 13 (i_iload 14 1) := snd_iload_n rfl dX12_forget_13
theorem sX12_forget_14 : Snd (miT Tb) RX12 cX12_forget 2 none 14 (i_const 16 (vI 18)) := snd_bipush (by decide) dX12_forget_14
theorem sX12_forget_16 : Snd (miT Tb) RX12 cX12_forget 2 none 16 (i_icmp_ne 19 24) := snd_icmp_ne dX12_forget_16 rfl
theorem sX12_forget_19 : Snd (miT Tb) RX12 cX12_forget 2 none 19 (i_const 21 (vI 46)) := snd_bipush (by decide) dX12_forget_19
theorem sX12_forget_21 : Snd (miT Tb) RX12 cX12_forget 2 none 21 (i_goto 43) := snd_goto dX12_forget_21 rfl
theorem sX12_forget_24 : Snd (miT Tb) RX12 cX12_forget 2 none 24 (i_iload 25 1) := snd_iload_n rfl dX12_forget_24
theorem sX12_forget_25 : Snd (miT Tb) RX12 cX12_forget 2 none 25 (i_const 27 (vI 17)) := snd_bipush (by decide) dX12_forget_25
theorem sX12_forget_27 : Snd (miT Tb) RX12 cX12_forget 2 none 27 (i_icmp_ne 30 34) := snd_icmp_ne dX12_forget_27 rfl
theorem sX12_forget_30 : Snd (miT Tb) RX12 cX12_forget 2 none 30 (i_const 31 (vI 3)) := snd_iconst dX12_forget_30
theorem sX12_forget_31 : Snd (miT Tb) RX12 cX12_forget 2 none 31 (i_goto 43) := snd_goto dX12_forget_31 rfl
theorem sX12_forget_34 : Snd (miT Tb) RX12 cX12_forget 2 none 34 (i_iload 35 1) := snd_iload_n rfl dX12_forget_34
theorem sX12_forget_35 : Snd (miT Tb) RX12 cX12_forget 2 none 35 (i_if_ne 38 42) := snd_if_ne dX12_forget_35 rfl
theorem sX12_forget_38 : Snd (miT Tb) RX12 cX12_forget 2 none 38 (i_const 39 (vI 4)) := snd_iconst dX12_forget_38
theorem sX12_forget_39 : Snd (miT Tb) RX12 cX12_forget 2 none 39 (i_goto 43) := snd_goto dX12_forget_39 rfl
theorem sX12_forget_42 : Snd (miT Tb) RX12 cX12_forget 2 none 42 (i_const 43 (vI 0)) := snd_iconst dX12_forget_42
theorem sX12_forget_43 : Snd (miT Tb) RX12 cX12_forget 2 none 43 (i_iast 44) := snd_iast dX12_forget_43
theorem sX12_forget_44 : Snd (miT Tb) RX12 cX12_forget 2 none 44 (i_aload 45 0) := snd_aload_n rfl dX12_forget_44
theorem sX12_forget_45 : Snd (miT Tb) RX12 cX12_forget 2 none 45 (i_getR 11 31 48) := snd_getR rfl (by decide) (by decide) (by decide) (fun hK ho hs hq kk => gf_X12_87 hK ho hs hq rfl dX12_forget_45 kk)
theorem sX12_forget_48 : Snd (miT Tb) RX12 cX12_forget 2 none 48 (i_iload 49 1) := snd_iload_n rfl dX12_forget_48
theorem sX12_forget_49 : Snd (miT Tb) RX12 cX12_forget 2 none 49 (i_const 50 (vI 0)) := snd_iconst dX12_forget_49
theorem sX12_forget_50 : Snd (miT Tb) RX12 cX12_forget 2 none 50 (i_iast 51) := snd_iast dX12_forget_50
theorem sX12_forget_51 : Snd (miT Tb) RX12 cX12_forget 2 none 51 (i_iinc 54 1 1) := snd_iinc (by decide) dX12_forget_51
theorem sX12_forget_54 : Snd (miT Tb) RX12 cX12_forget 2 none 54 (i_goto 2) := snd_goto dX12_forget_54 rfl
theorem sX12_forget_57 : Snd (miT Tb) RX12 cX12_forget 2 none 57 (i_vret) := snd_vret dX12_forget_57
theorem kX12_forget : raA (okI (miT Tb) (yX12_forget, cX12_forget, 2, none)) tX12_forget := (raA_br (raA_br (raA_br (raA_br (raA_br (raA_leaf sX12_forget_0) (raA_leaf sX12_forget_1)) (raA_br (raA_leaf sX12_forget_2) (raA_leaf sX12_forget_3))) (raA_br (raA_br (raA_leaf sX12_forget_5) (raA_leaf sX12_forget_8)) (raA_br (raA_leaf sX12_forget_9) (raA_leaf sX12_forget_12)))) (raA_br (raA_br (raA_br (raA_leaf sX12_forget_13) (raA_leaf sX12_forget_14)) (raA_br (raA_leaf sX12_forget_16) (raA_leaf sX12_forget_19))) (raA_br (raA_br (raA_leaf sX12_forget_21) (raA_leaf sX12_forget_24)) (raA_br (raA_leaf sX12_forget_25) (raA_leaf sX12_forget_27))))) (raA_br (raA_br (raA_br (raA_br (raA_leaf sX12_forget_30) (raA_leaf sX12_forget_31)) (raA_br (raA_leaf sX12_forget_34) (raA_leaf sX12_forget_35))) (raA_br (raA_br (raA_leaf sX12_forget_38) (raA_leaf sX12_forget_39)) (raA_br (raA_leaf sX12_forget_42) (raA_leaf sX12_forget_43)))) (raA_br (raA_br (raA_br (raA_leaf sX12_forget_44) (raA_leaf sX12_forget_45)) (raA_br (raA_leaf sX12_forget_48) (raA_leaf sX12_forget_49))) (raA_br (raA_br (raA_leaf sX12_forget_50) (raA_leaf sX12_forget_51)) (raA_br (raA_leaf sX12_forget_54) (raA_leaf sX12_forget_57))))))
theorem sX12_forward_0 : Snd (miT Tb) RX12 cX12_forward 4 none 0 (i_iload 1 1) := snd_iload_n rfl dX12_forward_0
theorem sX12_forward_1 : Snd (miT Tb) RX12 cX12_forward 4 none 1 (i_const 2 (vI 1)) := snd_iconst dX12_forward_1
theorem sX12_forward_2 : Snd (miT Tb) RX12 cX12_forward 4 none 2 (i_iadd 3) := snd_iadd dX12_forward_2
theorem sX12_forward_3 : Snd (miT Tb) RX12 cX12_forward 4 none 3 (i_const 4 (vI 2)) := snd_iconst dX12_forward_3
theorem sX12_forward_4 : Snd (miT Tb) RX12 cX12_forward 4 none 4 (i_idiv 5) := snd_idiv dX12_forward_4
theorem sX12_forward_5 : Snd (miT Tb) RX12 cX12_forward 4 none 5 (i_istore 6 2) := snd_istore_n rfl (by decide) dX12_forward_5
theorem sX12_forward_6 : Snd (miT Tb) RX12 cX12_forward 4 none 6 (i_const 7 (vI 0)) := snd_iconst dX12_forward_6
theorem sX12_forward_7 : Snd (miT Tb) RX12 cX12_forward 4 none 7 (i_istore 8 3) := snd_istore_n rfl (by decide) dX12_forward_7
theorem sX12_forward_8 : Snd (miT Tb) RX12 cX12_forward 4 none 8 (i_iload 9 3) := snd_iload_n rfl dX12_forward_8
theorem sX12_forward_9 : Snd (miT Tb) RX12 cX12_forward 4 none 9 (i_iload 10 2) := snd_iload_n rfl dX12_forward_9
theorem sX12_forward_10 : Snd (miT Tb) RX12 cX12_forward 4 none 10 (i_icmp_ge 13 69) := snd_icmp_ge dX12_forward_10 rfl
theorem sX12_forward_13 : Snd (miT Tb) RX12 cX12_forward 4 none 13 (i_aload 14 0) := snd_aload_n rfl dX12_forward_13
theorem sX12_forward_14 : Snd (miT Tb) RX12 cX12_forward 4 none 14 (i_getR 11 8 17) := snd_getR rfl (by decide) (by decide) (by decide) (fun hK ho hs hq kk => gf_X12_32 hK ho hs hq rfl dX12_forward_14 kk)
theorem sX12_forward_17 : Snd (miT Tb) RX12 cX12_forward 4 none 17 (i_iload 18 3) := snd_iload_n rfl dX12_forward_17
theorem sX12_forward_18 : Snd (miT Tb) RX12 cX12_forward 4 none 18 (i_iload 19 1) := snd_iload_n rfl dX12_forward_18
theorem sX12_forward_19 : Snd (miT Tb) RX12 cX12_forward 4 none 19 (i_const 20 (vI 1)) := snd_iconst dX12_forward_19
theorem sX12_forward_20 : Snd (miT Tb) RX12 cX12_forward 4 none 20 (i_icmp_ne 23 32) := snd_icmp_ne dX12_forward_20 rfl
theorem sX12_forward_23 : Snd (miT Tb) RX12 cX12_forward 4 none 23 (i_aload 24 0) := snd_aload_n rfl dX12_forward_23
theorem sX12_forward_24 : Snd (miT Tb) RX12 cX12_forward 4 none 24 (i_getR 11 7 27) := snd_getR rfl (by decide) (by decide) (by decide) (fun hK ho hs hq kk => gf_X12_29 hK ho hs hq rfl dX12_forward_24 kk)
theorem sX12_forward_27 : Snd (miT Tb) RX12 cX12_forward 4 none 27 (i_const 28 (vI 0)) := snd_iconst dX12_forward_27
theorem sX12_forward_28 : Snd (miT Tb) RX12 cX12_forward 4 none 28 (i_iald 29) := snd_iald dX12_forward_28
theorem sX12_forward_29 : Snd (miT Tb) RX12 cX12_forward 4 none 29 (i_goto 62) := snd_goto dX12_forward_29 rfl
theorem sX12_forward_32 : Snd (miT Tb) RX12 cX12_forward 4 none 32 (i_aload 33 0) := snd_aload_n rfl dX12_forward_32
theorem sX12_forward_33 : Snd (miT Tb) RX12 cX12_forward 4 none 33 (i_getR 11 7 36) := snd_getR rfl (by decide) (by decide) (by decide) (fun hK ho hs hq kk => gf_X12_29 hK ho hs hq rfl dX12_forward_33 kk)
theorem sX12_forward_36 : Snd (miT Tb) RX12 cX12_forward 4 none 36 (i_const 37 (vI 2)) := snd_iconst dX12_forward_36
theorem sX12_forward_37 : Snd (miT Tb) RX12 cX12_forward 4 none 37 (i_iload 38 3) := snd_iload_n rfl dX12_forward_37
theorem sX12_forward_38 : Snd (miT Tb) RX12 cX12_forward 4 none 38 (i_imul 39) := snd_imul dX12_forward_38
theorem sX12_forward_39 : Snd (miT Tb) RX12 cX12_forward 4 none 39 (i_iald 40) := snd_iald dX12_forward_39
theorem sX12_forward_40 : Snd (miT Tb) RX12 cX12_forward 4 none 40 (i_aload 41 0) := snd_aload_n rfl dX12_forward_40
theorem sX12_forward_41 : Snd (miT Tb) RX12 cX12_forward 4 none 41 (i_iload 42 3) := snd_iload_n rfl dX12_forward_41
theorem sX12_forward_42 : Snd (miT Tb) RX12 cX12_forward 4 none 42 (i_const 43 (vI 1)) := snd_iconst dX12_forward_42
theorem sX12_forward_43 : Snd (miT Tb) RX12 cX12_forward 4 none 43 (i_isub 44) := snd_isub dX12_forward_43
theorem sX12_forward_44 : Snd (miT Tb) RX12 cX12_forward 4 none 44 (i_iload 45 1) := snd_iload_n rfl dX12_forward_44
theorem sX12_forward_45 : Snd (miT Tb) RX12 cX12_forward 4 none 45 (i_stop) := snd_stop
theorem sX12_forward_48 : Snd (miT Tb) RX12 cX12_forward 4 none 48 (i_aload 49 0) := snd_aload_n rfl dX12_forward_48
theorem sX12_forward_49 : Snd (miT Tb) RX12 cX12_forward 4 none 49 (i_iload 50 3) := snd_iload_n rfl dX12_forward_49
theorem sX12_forward_50 : Snd (miT Tb) RX12 cX12_forward 4 none 50 (i_iload 51 1) := snd_iload_n rfl dX12_forward_50
theorem sX12_forward_51 : Snd (miT Tb) RX12 cX12_forward 4 none 51 (i_stop) := snd_stop
theorem sX12_forward_54 : Snd (miT Tb) RX12 cX12_forward 4 none 54 (i_iadd 55) := snd_iadd dX12_forward_54
theorem sX12_forward_55 : Snd (miT Tb) RX12 cX12_forward 4 none 55 (i_const 56 (vI 2)) := snd_iconst dX12_forward_55
theorem sX12_forward_56 : Snd (miT Tb) RX12 cX12_forward 4 none 56 (i_iadd 57) := snd_iadd dX12_forward_56
theorem sX12_forward_57 : Snd (miT Tb) RX12 cX12_forward 4 none 57 (i_const 58 (vI 2)) := snd_iconst dX12_forward_57
theorem sX12_forward_58 : Snd (miT Tb) RX12 cX12_forward 4 none 58 (i_stop) := snd_stop
theorem sX12_forward_61 : Snd (miT Tb) RX12 cX12_forward 4 none 61 (i_iadd 62) := snd_iadd dX12_forward_61
theorem sX12_forward_62 : Snd (miT Tb) RX12 cX12_forward 4 none 62 (i_iast 63) := snd_iast dX12_forward_62
theorem sX12_forward_63 : Snd (miT Tb) RX12 cX12_forward 4 none 63 (i_iinc 66 3 1) := snd_iinc (by decide) dX12_forward_63
theorem sX12_forward_66 : Snd (miT Tb) RX12 cX12_forward 4 none 66 (i_goto 8) := snd_goto dX12_forward_66 rfl
theorem sX12_forward_69 : Snd (miT Tb) RX12 cX12_forward 4 none 69 (i_const 70 (vI 0)) := snd_iconst dX12_forward_69
theorem sX12_forward_70 : Snd (miT Tb) RX12 cX12_forward 4 none 70 (i_istore 71 3) := snd_istore_n rfl (by decide) dX12_forward_70
theorem sX12_forward_71 : Snd (miT Tb) RX12 cX12_forward 4 none 71 (i_iload 72 3) := snd_iload_n rfl dX12_forward_71
theorem sX12_forward_72 : Snd (miT Tb) RX12 cX12_forward 4 none 72 (i_iload 73 1) := snd_iload_n rfl dX12_forward_72
theorem sX12_forward_73 : Snd (miT Tb) RX12 cX12_forward 4 none 73 (i_const 74 (vI 2)) := snd_iconst dX12_forward_73
theorem sX12_forward_74 : Snd (miT Tb) RX12 cX12_forward 4 none 74 (i_idiv 75) := snd_idiv dX12_forward_74
theorem sX12_forward_75 : Snd (miT Tb) RX12 cX12_forward 4 none 75 (i_icmp_ge 78 98) := snd_icmp_ge dX12_forward_75 rfl
theorem sX12_forward_78 : Snd (miT Tb) RX12 cX12_forward 4 none 78 (i_aload 79 0) := snd_aload_n rfl dX12_forward_78
theorem sX12_forward_79 : Snd (miT Tb) RX12 cX12_forward 4 none 79 (i_getR 11 8 82) := snd_getR rfl (by decide) (by decide) (by decide) (fun hK ho hs hq kk => gf_X12_32 hK ho hs hq rfl dX12_forward_79 kk)
theorem sX12_forward_82 : Snd (miT Tb) RX12 cX12_forward 4 none 82 (i_iload 83 2) := snd_iload_n rfl dX12_forward_82
theorem sX12_forward_83 : Snd (miT Tb) RX12 cX12_forward 4 none 83 (i_iload 84 3) := snd_iload_n rfl dX12_forward_83
theorem sX12_forward_84 : Snd (miT Tb) RX12 cX12_forward 4 none 84 (i_iadd 85) := snd_iadd dX12_forward_84
theorem sX12_forward_85 : Snd (miT Tb) RX12 cX12_forward 4 none 85 (i_aload 86 0) := snd_aload_n rfl dX12_forward_85
theorem sX12_forward_86 : Snd (miT Tb) RX12 cX12_forward 4 none 86 (i_iload 87 3) := snd_iload_n rfl dX12_forward_86
theorem sX12_forward_87 : Snd (miT Tb) RX12 cX12_forward 4 none 87 (i_iload 88 1) := snd_iload_n rfl dX12_forward_87
theorem sX12_forward_88 : Snd (miT Tb) RX12 cX12_forward 4 none 88 (i_stop) := snd_stop
theorem sX12_forward_91 : Snd (miT Tb) RX12 cX12_forward 4 none 91 (i_iast 92) := snd_iast dX12_forward_91
theorem sX12_forward_92 : Snd (miT Tb) RX12 cX12_forward 4 none 92 (i_iinc 95 3 1) := snd_iinc (by decide) dX12_forward_92
theorem sX12_forward_95 : Snd (miT Tb) RX12 cX12_forward 4 none 95 (i_goto 71) := snd_goto dX12_forward_95 rfl
theorem sX12_forward_98 : Snd (miT Tb) RX12 cX12_forward 4 none 98 (i_vret) := snd_vret dX12_forward_98
theorem kX12_forward : raA (okI (miT Tb) (yX12_forward, cX12_forward, 4, none)) tX12_forward := (raA_br (raA_br (raA_br (raA_br (raA_br (raA_br (raA_leaf sX12_forward_0) (raA_leaf sX12_forward_1)) (raA_br (raA_leaf sX12_forward_2) (raA_leaf sX12_forward_3))) (raA_br (raA_br (raA_leaf sX12_forward_4) (raA_leaf sX12_forward_5)) (raA_br (raA_leaf sX12_forward_6) (raA_leaf sX12_forward_7)))) (raA_br (raA_br (raA_br (raA_leaf sX12_forward_8) (raA_leaf sX12_forward_9)) (raA_br (raA_leaf sX12_forward_10) (raA_leaf sX12_forward_13))) (raA_br (raA_br (raA_leaf sX12_forward_14) (raA_leaf sX12_forward_17)) (raA_br (raA_leaf sX12_forward_18) (raA_leaf sX12_forward_19))))) (raA_br (raA_br (raA_br (raA_br (raA_leaf sX12_forward_20) (raA_leaf sX12_forward_23)) (raA_br (raA_leaf sX12_forward_24) (raA_leaf sX12_forward_27))) (raA_br (raA_br (raA_leaf sX12_forward_28) (raA_leaf sX12_forward_29)) (raA_br (raA_leaf sX12_forward_32) (raA_leaf sX12_forward_33)))) (raA_br (raA_br (raA_br (raA_leaf sX12_forward_36) (raA_leaf sX12_forward_37)) (raA_br (raA_leaf sX12_forward_38) (raA_leaf sX12_forward_39))) (raA_br (raA_br (raA_leaf sX12_forward_40) (raA_leaf sX12_forward_41)) (raA_br (raA_leaf sX12_forward_42) (raA_br (raA_leaf sX12_forward_43) (raA_leaf sX12_forward_44))))))) (raA_br (raA_br (raA_br (raA_br (raA_br (raA_leaf sX12_forward_45) (raA_leaf sX12_forward_48)) (raA_br (raA_leaf sX12_forward_49) (raA_leaf sX12_forward_50))) (raA_br (raA_br (raA_leaf sX12_forward_51) (raA_leaf sX12_forward_54)) (raA_br (raA_leaf sX12_forward_55) (raA_leaf sX12_forward_56)))) (raA_br (raA_br (raA_br (raA_leaf sX12_forward_57) (raA_leaf sX12_forward_58)) (raA_br (raA_leaf sX12_forward_61) (raA_leaf sX12_forward_62))) (raA_br (raA_br (raA_leaf sX12_forward_63) (raA_leaf sX12_forward_66)) (raA_br (raA_leaf sX12_forward_69) (raA_br (raA_leaf sX12_forward_70) (raA_leaf sX12_forward_71)))))) (raA_br (raA_br (raA_br (raA_br (raA_leaf sX12_forward_72) (raA_leaf sX12_forward_73)) (raA_br (raA_leaf sX12_forward_74) (raA_leaf sX12_forward_75))) (raA_br (raA_br (raA_leaf sX12_forward_78) (raA_leaf sX12_forward_79)) (raA_br (raA_leaf sX12_forward_82) (raA_leaf sX12_forward_83)))) (raA_br (raA_br (raA_br (raA_leaf sX12_forward_84) (raA_leaf sX12_forward_85)) (raA_br (raA_leaf sX12_forward_86) (raA_leaf sX12_forward_87))) (raA_br (raA_br (raA_leaf sX12_forward_88) (raA_leaf sX12_forward_91)) (raA_br (raA_leaf sX12_forward_92) (raA_br (raA_leaf sX12_forward_95) (raA_leaf sX12_forward_98))))))))
theorem sX12_here_0 : Snd (miT Tb) RX12 cX12_here 2 (some .int) 0 (i_aload 1 0) := snd_aload_n rfl dX12_here_0
theorem sX12_here_1 : Snd (miT Tb) RX12 cX12_here 2 (some .int) 1 (i_getR 11 23 4) := snd_getR rfl (by decide) (by decide) (by decide) (fun hK ho hs hq kk => gf_X12_75 hK ho hs hq rfl dX12_here_1 kk)
theorem sX12_here_4 : Snd (miT Tb) RX12 cX12_here 2 (some .int) 4 (i_iload 5 1) := snd_iload_n rfl dX12_here_4
theorem sX12_here_5 : Snd (miT Tb) RX12 cX12_here 2 (some .int) 5 (i_iald 6) := snd_iald dX12_here_5
theorem sX12_here_6 : Snd (miT Tb) RX12 cX12_here 2 (some .int) 6 (i_if_ne 9 13) := snd_if_ne dX12_here_6 rfl
theorem sX12_here_9 : Snd (miT Tb) RX12 cX12_here 2 (some .int) 9 (i_const 10 (vI 0)) := snd_iconst dX12_here_9
theorem sX12_here_10 : Snd (miT Tb) RX12 cX12_here 2 (some .int) 10 (i_goto 14) := snd_goto dX12_here_10 rfl
theorem sX12_here_13 : Snd (miT Tb) RX12 cX12_here 2 (some .int) 13 (i_const 14 (vI 1)) := snd_iconst dX12_here_13
theorem sX12_here_14 : Snd (miT Tb) RX12 cX12_here 2 (some .int) 14 (i_iret) := snd_iret dX12_here_14
theorem kX12_here : raA (okI (miT Tb) (yX12_here, cX12_here, 2, (some .int))) tX12_here := (raA_br (raA_br (raA_br (raA_leaf sX12_here_0) (raA_leaf sX12_here_1)) (raA_br (raA_leaf sX12_here_4) (raA_leaf sX12_here_5))) (raA_br (raA_br (raA_leaf sX12_here_6) (raA_leaf sX12_here_9)) (raA_br (raA_leaf sX12_here_10) (raA_br (raA_leaf sX12_here_13) (raA_leaf sX12_here_14)))))
theorem sX12_inColumn_0 : Snd (miT Tb) RX12 cX12_inColumn 2 (some .int) 0 (i_aload 1 0) := snd_aload_n rfl dX12_inColumn_0
theorem sX12_inColumn_1 : Snd (miT Tb) RX12 cX12_inColumn 2 (some .int) 1 (i_iload 2 1) := snd_iload_n rfl dX12_inColumn_1
theorem sX12_inColumn_2 : Snd (miT Tb) RX12 cX12_inColumn 2 (some .int) 2 (i_const 4 (vI 10)) := snd_bipush (by decide) dX12_inColumn_2
theorem sX12_inColumn_4 : Snd (miT Tb) RX12 cX12_inColumn 2 (some .int) 4 (i_isub 5) := snd_isub dX12_inColumn_4
theorem sX12_inColumn_5 : Snd (miT Tb) RX12 cX12_inColumn 2 (some .int) 5 (i_cV1 40 11 8) := snd_cV1 (fun hK hd hC ho hs h6 h7 h8 kk => iv_X12_231 hK (mc_40 hC) ho hs ⟨hd, by show _ ≤ 40 * (_ + 1); omega⟩ (Nat.le_refl _) h6 h7 h8 ⟨Nat.le_refl _, Nat.le_refl _⟩ dX12_inColumn_5 kk)
theorem sX12_inColumn_8 : Snd (miT Tb) RX12 cX12_inColumn 2 (some .int) 8 (i_aload 9 0) := snd_aload_n rfl dX12_inColumn_8
theorem sX12_inColumn_9 : Snd (miT Tb) RX12 cX12_inColumn 2 (some .int) 9 (i_iload 10 1) := snd_iload_n rfl dX12_inColumn_9
theorem sX12_inColumn_10 : Snd (miT Tb) RX12 cX12_inColumn 2 (some .int) 10 (i_const 12 (vI 10)) := snd_bipush (by decide) dX12_inColumn_10
theorem sX12_inColumn_12 : Snd (miT Tb) RX12 cX12_inColumn 2 (some .int) 12 (i_iadd 13) := snd_iadd dX12_inColumn_12
theorem sX12_inColumn_13 : Snd (miT Tb) RX12 cX12_inColumn 2 (some .int) 13 (i_cV1 40 11 16) := snd_cV1 (fun hK hd hC ho hs h6 h7 h8 kk => iv_X12_231 hK (mc_40 hC) ho hs ⟨hd, by show _ ≤ 40 * (_ + 1); omega⟩ (Nat.le_refl _) h6 h7 h8 ⟨Nat.le_refl _, Nat.le_refl _⟩ dX12_inColumn_13 kk)
theorem sX12_inColumn_16 : Snd (miT Tb) RX12 cX12_inColumn 2 (some .int) 16 (i_iadd 17) := snd_iadd dX12_inColumn_16
theorem sX12_inColumn_17 : Snd (miT Tb) RX12 cX12_inColumn 2 (some .int) 17 (i_iret) := snd_iret dX12_inColumn_17
theorem kX12_inColumn : raA (okI (miT Tb) (yX12_inColumn, cX12_inColumn, 2, (some .int))) tX12_inColumn := (raA_br (raA_br (raA_br (raA_leaf sX12_inColumn_0) (raA_br (raA_leaf sX12_inColumn_1) (raA_leaf sX12_inColumn_2))) (raA_br (raA_leaf sX12_inColumn_4) (raA_br (raA_leaf sX12_inColumn_5) (raA_leaf sX12_inColumn_8)))) (raA_br (raA_br (raA_leaf sX12_inColumn_9) (raA_br (raA_leaf sX12_inColumn_10) (raA_leaf sX12_inColumn_12))) (raA_br (raA_leaf sX12_inColumn_13) (raA_br (raA_leaf sX12_inColumn_16) (raA_leaf sX12_inColumn_17)))))
theorem sX12_inRow_0 : Snd (miT Tb) RX12 cX12_inRow 2 (some .int) 0 (i_aload 1 0) := snd_aload_n rfl dX12_inRow_0
theorem sX12_inRow_1 : Snd (miT Tb) RX12 cX12_inRow 2 (some .int) 1 (i_iload 2 1) := snd_iload_n rfl dX12_inRow_1
theorem sX12_inRow_2 : Snd (miT Tb) RX12 cX12_inRow 2 (some .int) 2 (i_const 3 (vI 1)) := snd_iconst dX12_inRow_2
theorem sX12_inRow_3 : Snd (miT Tb) RX12 cX12_inRow 2 (some .int) 3 (i_isub 4) := snd_isub dX12_inRow_3
theorem sX12_inRow_4 : Snd (miT Tb) RX12 cX12_inRow 2 (some .int) 4 (i_cV1 40 11 7) := snd_cV1 (fun hK hd hC ho hs h6 h7 h8 kk => iv_X12_231 hK (mc_40 hC) ho hs ⟨hd, by show _ ≤ 40 * (_ + 1); omega⟩ (Nat.le_refl _) h6 h7 h8 ⟨Nat.le_refl _, Nat.le_refl _⟩ dX12_inRow_4 kk)
theorem sX12_inRow_7 : Snd (miT Tb) RX12 cX12_inRow 2 (some .int) 7 (i_aload 8 0) := snd_aload_n rfl dX12_inRow_7
theorem sX12_inRow_8 : Snd (miT Tb) RX12 cX12_inRow 2 (some .int) 8 (i_iload 9 1) := snd_iload_n rfl dX12_inRow_8
theorem sX12_inRow_9 : Snd (miT Tb) RX12 cX12_inRow 2 (some .int) 9 (i_const 10 (vI 1)) := snd_iconst dX12_inRow_9
theorem sX12_inRow_10 : Snd (miT Tb) RX12 cX12_inRow 2 (some .int) 10 (i_iadd 11) := snd_iadd dX12_inRow_10
theorem sX12_inRow_11 : Snd (miT Tb) RX12 cX12_inRow 2 (some .int) 11 (i_cV1 40 11 14) := snd_cV1 (fun hK hd hC ho hs h6 h7 h8 kk => iv_X12_231 hK (mc_40 hC) ho hs ⟨hd, by show _ ≤ 40 * (_ + 1); omega⟩ (Nat.le_refl _) h6 h7 h8 ⟨Nat.le_refl _, Nat.le_refl _⟩ dX12_inRow_11 kk)
theorem sX12_inRow_14 : Snd (miT Tb) RX12 cX12_inRow 2 (some .int) 14 (i_iadd 15) := snd_iadd dX12_inRow_14
theorem sX12_inRow_15 : Snd (miT Tb) RX12 cX12_inRow 2 (some .int) 15 (i_iret) := snd_iret dX12_inRow_15
theorem kX12_inRow : raA (okI (miT Tb) (yX12_inRow, cX12_inRow, 2, (some .int))) tX12_inRow := (raA_br (raA_br (raA_br (raA_leaf sX12_inRow_0) (raA_br (raA_leaf sX12_inRow_1) (raA_leaf sX12_inRow_2))) (raA_br (raA_leaf sX12_inRow_3) (raA_br (raA_leaf sX12_inRow_4) (raA_leaf sX12_inRow_7)))) (raA_br (raA_br (raA_leaf sX12_inRow_8) (raA_br (raA_leaf sX12_inRow_9) (raA_leaf sX12_inRow_10))) (raA_br (raA_leaf sX12_inRow_11) (raA_br (raA_leaf sX12_inRow_14) (raA_leaf sX12_inRow_15)))))
theorem sX12_isUntouched_0 : Snd (miT Tb) RX12 cX12_isUntouched 3 (some .boolean) 0 (i_aload 1 0) := snd_aload_n rfl dX12_isUntouched_0
theorem sX12_isUntouched_1 : Snd (miT Tb) RX12 cX12_isUntouched 3 (some .boolean) 1 (i_iload 2 1) := snd_iload_n rfl dX12_isUntouched_1
theorem sX12_isUntouched_2 : Snd (miT Tb) RX12 cX12_isUntouched 3 (some .boolean) 2 (i_iload 3 2) := snd_iload_n rfl dX12_isUntouched_2
theorem sX12_isUntouched_3 : Snd (miT Tb) RX12 cX12_isUntouched 3 (some .boolean) 3 (i_cS2 57 6) := snd_cS2 (fun hK hd hC h6 h7 h8 kk => iv_X12_234 hK (mc_57 hC) ⟨hd, by show _ ≤ 40 * (_ + 1); omega⟩ (Nat.le_refl _) h6 h7 h8 ⟨Nat.le_refl _, Nat.le_refl _⟩ dX12_isUntouched_3 kk)
theorem sX12_isUntouched_6 : Snd (miT Tb) RX12 cX12_isUntouched 3 (some .boolean) 6 (i_cV1 40 11 9) := snd_cV1 (fun hK hd hC ho hs h6 h7 h8 kk => iv_X12_231 hK (mc_40 hC) ho hs ⟨hd, by show _ ≤ 40 * (_ + 1); omega⟩ (Nat.le_refl _) h6 h7 h8 ⟨Nat.le_refl _, Nat.le_refl _⟩ dX12_isUntouched_6 kk)
theorem sX12_isUntouched_9 : Snd (miT Tb) RX12 cX12_isUntouched 3 (some .boolean) 9 (i_if_ne 12 30) := snd_if_ne dX12_isUntouched_9 rfl
theorem sX12_isUntouched_12 : Snd (miT Tb) RX12 cX12_isUntouched 3 (some .boolean) 12 (i_aload 13 0) := snd_aload_n rfl dX12_isUntouched_12
theorem sX12_isUntouched_13 : Snd (miT Tb) RX12 cX12_isUntouched 3 (some .boolean) 13 (i_getR 11 24 16) := snd_getR rfl (by decide) (by decide) (by decide) (fun hK ho hs hq kk => gf_X12_78 hK ho hs hq rfl dX12_isUntouched_13 kk)
theorem sX12_isUntouched_16 : Snd (miT Tb) RX12 cX12_isUntouched 3 (some .boolean) 16 (i_const 18 (vI 8)) := snd_bipush (by decide) dX12_isUntouched_16
theorem sX12_isUntouched_18 : Snd (miT Tb) RX12 cX12_isUntouched 3 (some .boolean) 18 (i_iload 19 2) := snd_iload_n rfl dX12_isUntouched_18
theorem sX12_isUntouched_19 : Snd (miT Tb) RX12 cX12_isUntouched 3 (some .boolean) 19 (i_imul 20) := snd_imul dX12_isUntouched_19
theorem sX12_isUntouched_20 : Snd (miT Tb) RX12 cX12_isUntouched 3 (some .boolean) 20 (i_iload 21 1) := snd_iload_n rfl dX12_isUntouched_20
theorem sX12_isUntouched_21 : Snd (miT Tb) RX12 cX12_isUntouched 3 (some .boolean) 21 (i_iadd 22) := snd_iadd dX12_isUntouched_21
theorem sX12_isUntouched_22 : Snd (miT Tb) RX12 cX12_isUntouched 3 (some .boolean) 22 (i_zald 23) := snd_zald dX12_isUntouched_22
theorem sX12_isUntouched_23 : Snd (miT Tb) RX12 cX12_isUntouched 3 (some .boolean) 23 (i_if_ne 26 30) := snd_if_ne dX12_isUntouched_23 rfl
theorem sX12_isUntouched_26 : Snd (miT Tb) RX12 cX12_isUntouched 3 (some .boolean) 26 (i_const 27 (vI 1)) := snd_iconst dX12_isUntouched_26
theorem sX12_isUntouched_27 : Snd (miT Tb) RX12 cX12_isUntouched 3 (some .boolean) 27 (i_goto 31) := snd_goto dX12_isUntouched_27 rfl
theorem sX12_isUntouched_30 : Snd (miT Tb) RX12 cX12_isUntouched 3 (some .boolean) 30 (i_const 31 (vI 0)) := snd_iconst dX12_isUntouched_30
theorem sX12_isUntouched_31 : Snd (miT Tb) RX12 cX12_isUntouched 3 (some .boolean) 31 (i_zret) := snd_zret dX12_isUntouched_31
theorem kX12_isUntouched : raA (okI (miT Tb) (yX12_isUntouched, cX12_isUntouched, 3, (some .boolean))) tX12_isUntouched := (raA_br (raA_br (raA_br (raA_br (raA_leaf sX12_isUntouched_0) (raA_leaf sX12_isUntouched_1)) (raA_br (raA_leaf sX12_isUntouched_2) (raA_leaf sX12_isUntouched_3))) (raA_br (raA_br (raA_leaf sX12_isUntouched_6) (raA_leaf sX12_isUntouched_9)) (raA_br (raA_leaf sX12_isUntouched_12) (raA_br (raA_leaf sX12_isUntouched_13) (raA_leaf sX12_isUntouched_16))))) (raA_br (raA_br (raA_br (raA_leaf sX12_isUntouched_18) (raA_leaf sX12_isUntouched_19)) (raA_br (raA_leaf sX12_isUntouched_20) (raA_br (raA_leaf sX12_isUntouched_21) (raA_leaf sX12_isUntouched_22)))) (raA_br (raA_br (raA_leaf sX12_isUntouched_23) (raA_leaf sX12_isUntouched_26)) (raA_br (raA_leaf sX12_isUntouched_27) (raA_br (raA_leaf sX12_isUntouched_30) (raA_leaf sX12_isUntouched_31))))))
theorem sX12_jump_0 : Snd (miT Tb) RX12 cX12_jump 7 (some .int) 0 (i_iload 1 2) := snd_iload_n rfl dX12_jump_0
theorem sX12_jump_1 : Snd (miT Tb) RX12 cX12_jump 7 (some .int) 1 (i_const 2 (vI 4)) := snd_iconst dX12_jump_1
theorem sX12_jump_2 : Snd (miT Tb) RX12 cX12_jump 7 (some .int) 2 (i_iadd 3) := snd_iadd dX12_jump_2
theorem sX12_jump_3 : Snd (miT Tb) RX12 cX12_jump 7 (some .int) 3 (i_aload 4 0) := snd_aload_n rfl dX12_jump_3
theorem sX12_jump_4 : Snd (miT Tb) RX12 cX12_jump 7 (some .int) 4 (i_getR 11 10 7) := snd_getR rfl (by decide) (by decide) (by decide) (fun hK ho hs hq kk => gf_X12_38 hK ho hs hq rfl dX12_jump_4 kk)
theorem sX12_jump_7 : Snd (miT Tb) RX12 cX12_jump 7 (some .int) 7 (i_aload 8 0) := snd_aload_n rfl dX12_jump_7
theorem sX12_jump_8 : Snd (miT Tb) RX12 cX12_jump 7 (some .int) 8 (i_getI 11 26 11) := snd_getI (fun hK ho hs hv kk => gf_X12_246 hK ho hs hv dX12_jump_8 kk)
theorem sX12_jump_11 : Snd (miT Tb) RX12 cX12_jump 7 (some .int) 11 (i_iald 12) := snd_iald dX12_jump_11
theorem sX12_jump_12 : Snd (miT Tb) RX12 cX12_jump 7 (some .int) 12 (i_icmp_gt 15 19) := snd_icmp_gt dX12_jump_12 rfl
theorem sX12_jump_15 : Snd (miT Tb) RX12 cX12_jump 7 (some .int) 15 (i_const 16 (vI 1)) := snd_iconst dX12_jump_15
theorem sX12_jump_16 : Snd (miT Tb) RX12 cX12_jump 7 (some .int) 16 (i_goto 20) := snd_goto dX12_jump_16 rfl
theorem sX12_jump_19 : Snd (miT Tb) RX12 cX12_jump 7 (some .int) 19 (i_const 20 (vI 0)) := snd_iconst dX12_jump_19
theorem sX12_jump_20 : Snd (miT Tb) RX12 cX12_jump 7 (some .int) 20 (i_istore 21 3) := snd_istore_n rfl (by decide) dX12_jump_20
theorem sX12_jump_21 : Snd (miT Tb) RX12 cX12_jump 7 (some .int) 21 (i_const 22 (vI 4)) := snd_iconst dX12_jump_21
theorem sX12_jump_22 : Snd (miT Tb) RX12 cX12_jump 7 (some .int) 22 (i_istore 24 4) := snd_istore (by decide) dX12_jump_22
theorem sX12_jump_24 : Snd (miT Tb) RX12 cX12_jump 7 (some .int) 24 (i_iload 25 2) := snd_iload_n rfl dX12_jump_24
theorem sX12_jump_25 : Snd (miT Tb) RX12 cX12_jump 7 (some .int) 25 (i_const 26 (vI 3)) := snd_iconst dX12_jump_25
theorem sX12_jump_26 : Snd (miT Tb) RX12 cX12_jump 7 (some .int) 26 (i_iadd 27) := snd_iadd dX12_jump_26
theorem sX12_jump_27 : Snd (miT Tb) RX12 cX12_jump 7 (some .int) 27 (i_istore 29 5) := snd_istore (by decide) dX12_jump_27
theorem sX12_jump_29 : Snd (miT Tb) RX12 cX12_jump 7 (some .int) 29 (i_iload 31 5) := snd_iload dX12_jump_29
theorem sX12_jump_31 : Snd (miT Tb) RX12 cX12_jump 7 (some .int) 31 (i_iload 32 2) := snd_iload_n rfl dX12_jump_31
theorem sX12_jump_32 : Snd (miT Tb) RX12 cX12_jump 7 (some .int) 32 (i_icmp_lt 35 97) := snd_icmp_lt dX12_jump_32 rfl
theorem sX12_jump_35 : Snd (miT Tb) RX12 cX12_jump 7 (some .int) 35 (i_iload 36 3) := snd_iload_n rfl dX12_jump_35
theorem sX12_jump_36 : Snd (miT Tb) RX12 cX12_jump 7 (some .int) 36 (i_if_eq 39 97) := snd_if_eq dX12_jump_36 rfl
theorem sX12_jump_39 : Snd (miT Tb) RX12 cX12_jump 7 (some .int) 39 (i_aload 40 0) := snd_aload_n rfl dX12_jump_39
theorem sX12_jump_40 : Snd (miT Tb) RX12 cX12_jump 7 (some .int) 40 (i_iload 41 1) := snd_iload_n rfl dX12_jump_40
theorem sX12_jump_41 : Snd (miT Tb) RX12 cX12_jump 7 (some .int) 41 (i_iload 43 5) := snd_iload dX12_jump_41
theorem sX12_jump_43 : Snd (miT Tb) RX12 cX12_jump 7 (some .int) 43 (i_cV2 43 11 46) := snd_cV2 (fun hK hd hC ho hs h6 h7 h8 kk => iv_X12_271 hK (mc_43 hC) ho hs ⟨hd, by show _ ≤ 40 * (_ + 1); omega⟩ (Nat.le_refl _) h6 h7 h8 ⟨Nat.le_refl _, Nat.le_refl _⟩ dX12_jump_43 kk)
theorem sX12_jump_46 : Snd (miT Tb) RX12 cX12_jump 7 (some .int) 46 (i_if_eq 49 63) := snd_if_eq dX12_jump_46 rfl
theorem sX12_jump_49 : Snd (miT Tb) RX12 cX12_jump 7 (some .int) 49 (i_aload 50 0) := snd_aload_n rfl dX12_jump_49
theorem sX12_jump_50 : Snd (miT Tb) RX12 cX12_jump 7 (some .int) 50 (i_iload 51 1) := snd_iload_n rfl dX12_jump_50
theorem sX12_jump_51 : Snd (miT Tb) RX12 cX12_jump 7 (some .int) 51 (i_iload 53 5) := snd_iload dX12_jump_51
theorem sX12_jump_53 : Snd (miT Tb) RX12 cX12_jump 7 (some .int) 53 (i_cV2 32 11 56) := snd_cV2 (fun hK hd hC ho hs h6 h7 h8 kk => iv_X12_261 hK (mc_32 hC) ho hs ⟨hd, by show _ ≤ 40 * (_ + 1); omega⟩ (Nat.le_refl _) h6 h7 h8 ⟨Nat.le_refl _, Nat.le_refl _⟩ dX12_jump_53 kk)
theorem sX12_jump_56 : Snd (miT Tb) RX12 cX12_jump 7 (some .int) 56 (i_if_ne 59 63) := snd_if_ne dX12_jump_56 rfl
theorem sX12_jump_59 : Snd (miT Tb) RX12 cX12_jump 7 (some .int) 59 (i_const 60 (vI 1)) := snd_iconst dX12_jump_59
theorem sX12_jump_60 : Snd (miT Tb) RX12 cX12_jump 7 (some .int) 60 (i_goto 64) := snd_goto dX12_jump_60 rfl
theorem sX12_jump_63 : Snd (miT Tb) RX12 cX12_jump 7 (some .int) 63 (i_const 64 (vI 0)) := snd_iconst dX12_jump_63
theorem sX12_jump_64 : Snd (miT Tb) RX12 cX12_jump 7 (some .int) 64 (i_istore 65 3) := snd_istore_n rfl (by decide) dX12_jump_64
theorem sX12_jump_65 : Snd (miT Tb) RX12 cX12_jump 7 (some .int) 65 (i_iload 66 3) := snd_iload_n rfl dX12_jump_65
theorem sX12_jump_66 : Snd (miT Tb) RX12 cX12_jump 7 (some .int) 66 (i_if_eq 69 87) := snd_if_eq dX12_jump_66 rfl
theorem sX12_jump_69 : Snd (miT Tb) RX12 cX12_jump 7 (some .int) 69 (i_aload 70 0) := snd_aload_n rfl dX12_jump_69
theorem sX12_jump_70 : Snd (miT Tb) RX12 cX12_jump 7 (some .int) 70 (i_iload 71 1) := snd_iload_n rfl dX12_jump_70
theorem sX12_jump_71 : Snd (miT Tb) RX12 cX12_jump 7 (some .int) 71 (i_iload 73 5) := snd_iload dX12_jump_71
theorem sX12_jump_73 : Snd (miT Tb) RX12 cX12_jump 7 (some .int) 73 (i_cV2 25 11 76) := snd_cV2 (fun hK hd hC ho hs h6 h7 h8 kk => iv_X12_264 hK (mc_25 hC) ho hs ⟨hd, by show _ ≤ 40 * (_ + 1); omega⟩ (Nat.le_refl _) h6 h7 h8 ⟨Nat.le_refl _, Nat.le_refl _⟩ dX12_jump_73 kk)
theorem sX12_jump_76 : Snd (miT Tb) RX12 cX12_jump 7 (some .int) 76 (i_const 77 (vI 1)) := snd_iconst dX12_jump_76
theorem sX12_jump_77 : Snd (miT Tb) RX12 cX12_jump 7 (some .int) 77 (i_icmp_ne 80 87) := snd_icmp_ne dX12_jump_77 rfl
theorem sX12_jump_80 : Snd (miT Tb) RX12 cX12_jump 7 (some .int) 80 (i_iload 82 5) := snd_iload dX12_jump_80
theorem sX12_jump_82 : Snd (miT Tb) RX12 cX12_jump 7 (some .int) 82 (i_iload 83 2) := snd_iload_n rfl dX12_jump_82
theorem sX12_jump_83 : Snd (miT Tb) RX12 cX12_jump 7 (some .int) 83 (i_isub 84) := snd_isub dX12_jump_83
theorem sX12_jump_84 : Snd (miT Tb) RX12 cX12_jump 7 (some .int) 84 (i_goto 89) := snd_goto dX12_jump_84 rfl
theorem sX12_jump_87 : Snd (miT Tb) RX12 cX12_jump 7 (some .int) 87 (i_iload 89 4) := snd_iload dX12_jump_87
theorem sX12_jump_89 : Snd (miT Tb) RX12 cX12_jump 7 (some .int) 89 (i_istore 91 4) := snd_istore (by decide) dX12_jump_89
theorem sX12_jump_91 : Snd (miT Tb) RX12 cX12_jump 7 (some .int) 91 (i_iinc 94 5 (-1)) := snd_iinc (by decide) dX12_jump_91
theorem sX12_jump_94 : Snd (miT Tb) RX12 cX12_jump 7 (some .int) 94 (i_goto 29) := snd_goto dX12_jump_94 rfl
theorem sX12_jump_97 : Snd (miT Tb) RX12 cX12_jump 7 (some .int) 97 (i_iload 98 3) := snd_iload_n rfl dX12_jump_97
theorem sX12_jump_98 : Snd (miT Tb) RX12 cX12_jump 7 (some .int) 98 (i_if_ne 101 103) := snd_if_ne dX12_jump_98 rfl
theorem sX12_jump_101 : Snd (miT Tb) RX12 cX12_jump 7 (some .int) 101 (i_const 102 (vI 0)) := snd_iconst dX12_jump_101
theorem sX12_jump_102 : Snd (miT Tb) RX12 cX12_jump 7 (some .int) 102 (i_iret) := snd_iret dX12_jump_102
theorem sX12_jump_103 : Snd (miT Tb) RX12 cX12_jump 7 (some .int) 103 (i_aload 104 0) := snd_aload_n rfl dX12_jump_103
theorem sX12_jump_104 : Snd (miT Tb) RX12 cX12_jump 7 (some .int) 104 (i_const 106 (vI 17)) := snd_bipush (by decide) dX12_jump_104
theorem sX12_jump_106 : Snd (miT Tb) RX12 cX12_jump 7 (some .int) 106 (i_iload 108 4) := snd_iload dX12_jump_106
theorem sX12_jump_108 : Snd (miT Tb) RX12 cX12_jump 7 (some .int) 108 (i_const 109 (vI 4)) := snd_iconst dX12_jump_108
theorem sX12_jump_109 : Snd (miT Tb) RX12 cX12_jump 7 (some .int) 109 (i_icmp_ge 112 116) := snd_icmp_ge dX12_jump_109 rfl
theorem sX12_jump_112 : Snd (miT Tb) RX12 cX12_jump 7 (some .int) 112 (i_const 113 (vI 1)) := snd_iconst dX12_jump_112
theorem sX12_jump_113 : Snd (miT Tb) RX12 cX12_jump 7 (some .int) 113 (i_goto 117) := snd_goto dX12_jump_113 rfl
theorem sX12_jump_116 : Snd (miT Tb) RX12 cX12_jump 7 (some .int) 116 (i_const 117 (vI 0)) := snd_iconst dX12_jump_116
theorem sX12_jump_117 : Snd (miT Tb) RX12 cX12_jump 7 (some .int) 117 (i_cV2 29 11 120) := snd_cV2 (fun hK hd hC ho hs h6 h7 h8 kk => iv_X12_258 hK (mc_29 hC) ho hs ⟨hd, by show _ ≤ 40 * (_ + 1); omega⟩ (Nat.le_refl _) h6 h7 h8 ⟨Nat.le_refl _, Nat.le_refl _⟩ dX12_jump_117 kk)
theorem sX12_jump_120 : Snd (miT Tb) RX12 cX12_jump 7 (some .int) 120 (i_if_ne 123 125) := snd_if_ne dX12_jump_120 rfl
theorem sX12_jump_123 : Snd (miT Tb) RX12 cX12_jump 7 (some .int) 123 (i_const 124 (vI 4)) := snd_iconst dX12_jump_123
theorem sX12_jump_124 : Snd (miT Tb) RX12 cX12_jump 7 (some .int) 124 (i_iret) := snd_iret dX12_jump_124
theorem sX12_jump_125 : Snd (miT Tb) RX12 cX12_jump 7 (some .int) 125 (i_aload 126 0) := snd_aload_n rfl dX12_jump_125
theorem sX12_jump_126 : Snd (miT Tb) RX12 cX12_jump 7 (some .int) 126 (i_const 128 (vI 18)) := snd_bipush (by decide) dX12_jump_126
theorem sX12_jump_128 : Snd (miT Tb) RX12 cX12_jump 7 (some .int) 128 (i_iload 130 4) := snd_iload dX12_jump_128
theorem sX12_jump_130 : Snd (miT Tb) RX12 cX12_jump 7 (some .int) 130 (i_const 131 (vI 2)) := snd_iconst dX12_jump_130
theorem sX12_jump_131 : Snd (miT Tb) RX12 cX12_jump 7 (some .int) 131 (i_idiv 132) := snd_idiv dX12_jump_131
theorem sX12_jump_132 : Snd (miT Tb) RX12 cX12_jump 7 (some .int) 132 (i_const 133 (vI 2)) := snd_iconst dX12_jump_132
theorem sX12_jump_133 : Snd (miT Tb) RX12 cX12_jump 7 (some .int) 133 (i_irem 134) := snd_irem dX12_jump_133
theorem sX12_jump_134 : Snd (miT Tb) RX12 cX12_jump 7 (some .int) 134 (i_cV2 29 11 137) := snd_cV2 (fun hK hd hC ho hs h6 h7 h8 kk => iv_X12_258 hK (mc_29 hC) ho hs ⟨hd, by show _ ≤ 40 * (_ + 1); omega⟩ (Nat.le_refl _) h6 h7 h8 ⟨Nat.le_refl _, Nat.le_refl _⟩ dX12_jump_134 kk)
theorem sX12_jump_137 : Snd (miT Tb) RX12 cX12_jump 7 (some .int) 137 (i_istore 139 5) := snd_istore (by decide) dX12_jump_137
theorem sX12_jump_139 : Snd (miT Tb) RX12 cX12_jump 7 (some .int) 139 (i_aload 140 0) := snd_aload_n rfl dX12_jump_139
theorem sX12_jump_140 : Snd (miT Tb) RX12 cX12_jump 7 (some .int) 140 (i_const 142 (vI 18)) := snd_bipush (by decide) dX12_jump_140
theorem sX12_jump_142 : Snd (miT Tb) RX12 cX12_jump 7 (some .int) 142 (i_iload 144 4) := snd_iload dX12_jump_142
theorem sX12_jump_144 : Snd (miT Tb) RX12 cX12_jump 7 (some .int) 144 (i_const 145 (vI 2)) := snd_iconst dX12_jump_144
theorem sX12_jump_145 : Snd (miT Tb) RX12 cX12_jump 7 (some .int) 145 (i_irem 146) := snd_irem dX12_jump_145
theorem sX12_jump_146 : Snd (miT Tb) RX12 cX12_jump 7 (some .int) 146 (i_cV2 29 11 149) := snd_cV2 (fun hK hd hC ho hs h6 h7 h8 kk => iv_X12_258 hK (mc_29 hC) ho hs ⟨hd, by show _ ≤ 40 * (_ + 1); omega⟩ (Nat.le_refl _) h6 h7 h8 ⟨Nat.le_refl _, Nat.le_refl _⟩ dX12_jump_146 kk)
theorem sX12_jump_149 : Snd (miT Tb) RX12 cX12_jump 7 (some .int) 149 (i_istore 151 6) := snd_istore (by decide) dX12_jump_149
theorem sX12_jump_151 : Snd (miT Tb) RX12 cX12_jump 7 (some .int) 151 (i_aload 152 0) := snd_aload_n rfl dX12_jump_151
theorem sX12_jump_152 : Snd (miT Tb) RX12 cX12_jump 7 (some .int) 152 (i_iload 153 1) := snd_iload_n rfl dX12_jump_152
theorem sX12_jump_153 : Snd (miT Tb) RX12 cX12_jump 7 (some .int) 153 (i_iload 154 2) := snd_iload_n rfl dX12_jump_153
theorem sX12_jump_154 : Snd (miT Tb) RX12 cX12_jump 7 (some .int) 154 (i_const 155 (vI 2)) := snd_iconst dX12_jump_154
theorem sX12_jump_155 : Snd (miT Tb) RX12 cX12_jump 7 (some .int) 155 (i_iload 157 5) := snd_iload dX12_jump_155
theorem sX12_jump_157 : Snd (miT Tb) RX12 cX12_jump 7 (some .int) 157 (i_imul 158) := snd_imul dX12_jump_157
theorem sX12_jump_158 : Snd (miT Tb) RX12 cX12_jump 7 (some .int) 158 (i_iadd 159) := snd_iadd dX12_jump_158
theorem sX12_jump_159 : Snd (miT Tb) RX12 cX12_jump 7 (some .int) 159 (i_iload 161 6) := snd_iload dX12_jump_159
theorem sX12_jump_161 : Snd (miT Tb) RX12 cX12_jump 7 (some .int) 161 (i_iadd 162) := snd_iadd dX12_jump_161
theorem sX12_jump_162 : Snd (miT Tb) RX12 cX12_jump 7 (some .int) 162 (i_cV2 65 11 165) := snd_cV2 (fun hK hd hC ho hs h6 h7 h8 kk => iv_X12_267 hK (mc_65 hC) ho hs ⟨hd, by show _ ≤ 40 * (_ + 1); omega⟩ (Nat.le_refl _) h6 h7 h8 ⟨Nat.le_refl _, Nat.le_refl _⟩ dX12_jump_162 kk)
theorem sX12_jump_165 : Snd (miT Tb) RX12 cX12_jump 7 (some .int) 165 (i_const 166 (vI 2)) := snd_iconst dX12_jump_165
theorem sX12_jump_166 : Snd (miT Tb) RX12 cX12_jump 7 (some .int) 166 (i_iload 168 5) := snd_iload dX12_jump_166
theorem sX12_jump_168 : Snd (miT Tb) RX12 cX12_jump 7 (some .int) 168 (i_imul 169) := snd_imul dX12_jump_168
theorem sX12_jump_169 : Snd (miT Tb) RX12 cX12_jump 7 (some .int) 169 (i_iload 171 6) := snd_iload dX12_jump_169
theorem sX12_jump_171 : Snd (miT Tb) RX12 cX12_jump 7 (some .int) 171 (i_iadd 172) := snd_iadd dX12_jump_171
theorem sX12_jump_172 : Snd (miT Tb) RX12 cX12_jump 7 (some .int) 172 (i_const 173 (vI 1)) := snd_iconst dX12_jump_172
theorem sX12_jump_173 : Snd (miT Tb) RX12 cX12_jump 7 (some .int) 173 (i_iadd 174) := snd_iadd dX12_jump_173
theorem sX12_jump_174 : Snd (miT Tb) RX12 cX12_jump 7 (some .int) 174 (i_iret) := snd_iret dX12_jump_174
theorem kX12_jump : raA (okI (miT Tb) (yX12_jump, cX12_jump, 7, (some .int))) tX12_jump := (raA_br (raA_br (raA_br (raA_br (raA_br (raA_br (raA_leaf sX12_jump_0) (raA_br (raA_leaf sX12_jump_1) (raA_leaf sX12_jump_2))) (raA_br (raA_leaf sX12_jump_3) (raA_br (raA_leaf sX12_jump_4) (raA_leaf sX12_jump_7)))) (raA_br (raA_br (raA_leaf sX12_jump_8) (raA_br (raA_leaf sX12_jump_11) (raA_leaf sX12_jump_12))) (raA_br (raA_br (raA_leaf sX12_jump_15) (raA_leaf sX12_jump_16)) (raA_br (raA_leaf sX12_jump_19) (raA_leaf sX12_jump_20))))) (raA_br (raA_br (raA_br (raA_leaf sX12_jump_21) (raA_br (raA_leaf sX12_jump_22) (raA_leaf sX12_jump_24))) (raA_br (raA_leaf sX12_jump_25) (raA_br (raA_leaf sX12_jump_26) (raA_leaf sX12_jump_27)))) (raA_br (raA_br (raA_leaf sX12_jump_29) (raA_br (raA_leaf sX12_jump_31) (raA_leaf sX12_jump_32))) (raA_br (raA_br (raA_leaf sX12_jump_35) (raA_leaf sX12_jump_36)) (raA_br (raA_leaf sX12_jump_39) (raA_leaf sX12_jump_40)))))) (raA_br (raA_br (raA_br (raA_br (raA_leaf sX12_jump_41) (raA_br (raA_leaf sX12_jump_43) (raA_leaf sX12_jump_46))) (raA_br (raA_leaf sX12_jump_49) (raA_br (raA_leaf sX12_jump_50) (raA_leaf sX12_jump_51)))) (raA_br (raA_br (raA_leaf sX12_jump_53) (raA_br (raA_leaf sX12_jump_56) (raA_leaf sX12_jump_59))) (raA_br (raA_br (raA_leaf sX12_jump_60) (raA_leaf sX12_jump_63)) (raA_br (raA_leaf sX12_jump_64) (raA_leaf sX12_jump_65))))) (raA_br (raA_br (raA_br (raA_leaf sX12_jump_66) (raA_br (raA_leaf sX12_jump_69) (raA_leaf sX12_jump_70))) (raA_br (raA_leaf sX12_jump_71) (raA_br (raA_leaf sX12_jump_73) (raA_leaf sX12_jump_76)))) (raA_br (raA_br (raA_leaf sX12_jump_77) (raA_br (raA_leaf sX12_jump_80) (raA_leaf sX12_jump_82))) (raA_br (raA_br (raA_leaf sX12_jump_83) (raA_leaf sX12_jump_84)) (raA_br (raA_leaf sX12_jump_87) (raA_leaf sX12_jump_89))))))) (raA_br (raA_br (raA_br (raA_br (raA_br (raA_leaf sX12_jump_91) (raA_br (raA_leaf sX12_jump_94) (raA_leaf sX12_jump_97))) (raA_br (raA_leaf sX12_jump_98) (raA_br (raA_leaf sX12_jump_101) (raA_leaf sX12_jump_102)))) (raA_br (raA_br (raA_leaf sX12_jump_103) (raA_br (raA_leaf sX12_jump_104) (raA_leaf sX12_jump_106))) (raA_br (raA_br (raA_leaf sX12_jump_108) (raA_leaf sX12_jump_109)) (raA_br (raA_leaf sX12_jump_112) (raA_leaf sX12_jump_113))))) (raA_br (raA_br (raA_br (raA_leaf sX12_jump_116) (raA_br (raA_leaf sX12_jump_117) (raA_leaf sX12_jump_120))) (raA_br (raA_leaf sX12_jump_123) (raA_br (raA_leaf sX12_jump_124) (raA_leaf sX12_jump_125)))) (raA_br (raA_br (raA_leaf sX12_jump_126) (raA_br (raA_leaf sX12_jump_128) (raA_leaf sX12_jump_130))) (raA_br (raA_br (raA_leaf sX12_jump_131) (raA_leaf sX12_jump_132)) (raA_br (raA_leaf sX12_jump_133) (raA_leaf sX12_jump_134)))))) (raA_br (raA_br (raA_br (raA_br (raA_leaf sX12_jump_137) (raA_br (raA_leaf sX12_jump_139) (raA_leaf sX12_jump_140))) (raA_br (raA_leaf sX12_jump_142) (raA_br (raA_leaf sX12_jump_144) (raA_leaf sX12_jump_145)))) (raA_br (raA_br (raA_leaf sX12_jump_146) (raA_br (raA_leaf sX12_jump_149) (raA_leaf sX12_jump_151))) (raA_br (raA_br (raA_leaf sX12_jump_152) (raA_leaf sX12_jump_153)) (raA_br (raA_leaf sX12_jump_154) (raA_leaf sX12_jump_155))))) (raA_br (raA_br (raA_br (raA_leaf sX12_jump_157) (raA_br (raA_leaf sX12_jump_158) (raA_leaf sX12_jump_159))) (raA_br (raA_leaf sX12_jump_161) (raA_br (raA_leaf sX12_jump_162) (raA_leaf sX12_jump_165)))) (raA_br (raA_br (raA_leaf sX12_jump_166) (raA_br (raA_leaf sX12_jump_168) (raA_leaf sX12_jump_169))) (raA_br (raA_br (raA_leaf sX12_jump_171) (raA_leaf sX12_jump_172)) (raA_br (raA_leaf sX12_jump_173) (raA_leaf sX12_jump_174))))))))
theorem sX12_learn_0 : Snd (miT Tb) RX12 cX12_learn 4 none 0 (i_aload 1 0) := snd_aload_n rfl dX12_learn_0
theorem sX12_learn_1 : Snd (miT Tb) RX12 cX12_learn 4 none 1 (i_getR 11 30 4) := snd_getR rfl (by decide) (by decide) (by decide) (fun hK ho hs hq kk => gf_X12_84 hK ho hs hq rfl dX12_learn_1 kk)
theorem sX12_learn_4 : Snd (miT Tb) RX12 cX12_learn 4 none 4 (i_iload 5 1) := snd_iload_n rfl dX12_learn_4
theorem sX12_learn_5 : Snd (miT Tb) RX12 cX12_learn 4 none 5 (i_iald 6) := snd_iald dX12_learn_5
theorem sX12_learn_6 : Snd (miT Tb) RX12 cX12_learn 4 none 6 (i_istore 7 3) := snd_istore_n rfl (by decide) dX12_learn_6
theorem sX12_learn_7 : Snd (miT Tb) RX12 cX12_learn 4 none 7 (i_iload 8 2) := snd_iload_n rfl dX12_learn_7
theorem sX12_learn_8 : Snd (miT Tb) RX12 cX12_learn 4 none 8 (i_if_eq 11 41) := snd_if_eq dX12_learn_8 rfl
theorem sX12_learn_11 : Snd (miT Tb) RX12 cX12_learn 4 none 11 (i_iload 12 3) := snd_iload_n rfl dX12_learn_11
theorem sX12_learn_12 : Snd (miT Tb) RX12 cX12_learn 4 none 12 (i_if_eq 15 27) := snd_if_eq dX12_learn_12 rfl
theorem sX12_learn_15 : Snd (miT Tb) RX12 cX12_learn 4 none 15 (i_iload 16 3) := snd_iload_n rfl dX12_learn_15
theorem sX12_learn_16 : Snd (miT Tb) RX12 cX12_learn 4 none 16 (i_const 18 (vI 6)) := snd_bipush (by decide) dX12_learn_16
theorem sX12_learn_18 : Snd (miT Tb) RX12 cX12_learn 4 none 18 (i_icmp_eq 21 27) := snd_icmp_eq dX12_learn_18 rfl
theorem sX12_learn_21 : Snd (miT Tb) RX12 cX12_learn 4 none 21 (i_iload 22 3) := snd_iload_n rfl dX12_learn_21
theorem sX12_learn_22 : Snd (miT Tb) RX12 cX12_learn 4 none 22 (i_const 24 (vI 14)) := snd_bipush (by decide) dX12_learn_22
theorem sX12_learn_24 : Snd (miT Tb) RX12 cX12_learn 4 none 24 (i_icmp_ne 27 41) := snd_icmp_ne dX12_learn_24 rfl
theorem sX12_learn_27 : Snd (miT Tb) RX12 cX12_learn 4 none 27 (i_aload 28 0) := snd_aload_n rfl dX12_learn_27
theorem sX12_learn_28 : Snd (miT Tb) RX12 cX12_learn 4 none 28 (i_getR 11 31 31) := snd_getR rfl (by decide) (by decide) (by decide) (fun hK ho hs hq kk => gf_X12_87 hK ho hs hq rfl dX12_learn_28 kk)
theorem sX12_learn_31 : Snd (miT Tb) RX12 cX12_learn 4 none 31 (i_iload 32 1) := snd_iload_n rfl dX12_learn_31
theorem sX12_learn_32 : Snd (miT Tb) RX12 cX12_learn 4 none 32 (i_const 33 (vI 1)) := snd_iconst dX12_learn_32
theorem sX12_learn_33 : Snd (miT Tb) RX12 cX12_learn 4 none 33 (i_aload 34 0) := snd_aload_n rfl dX12_learn_33
theorem sX12_learn_34 : Snd (miT Tb) RX12 cX12_learn 4 none 34 (i_getR 11 31 37) := snd_getR rfl (by decide) (by decide) (by decide) (fun hK ho hs hq kk => gf_X12_87 hK ho hs hq rfl dX12_learn_34 kk)
theorem sX12_learn_37 : Snd (miT Tb) RX12 cX12_learn 4 none 37 (i_iload 38 1) := snd_iload_n rfl dX12_learn_37
theorem sX12_learn_38 : Snd (miT Tb) RX12 cX12_learn 4 none 38 (i_iald 39) := snd_iald dX12_learn_38
theorem sX12_learn_39 : Snd (miT Tb) RX12 cX12_learn 4 none 39 (i_isub 40) := snd_isub dX12_learn_39
theorem sX12_learn_40 : Snd (miT Tb) RX12 cX12_learn 4 none 40 (i_iast 41) := snd_iast dX12_learn_40
theorem sX12_learn_41 : Snd (miT Tb) RX12 cX12_learn 4 none 41 (i_aload 42 0) := snd_aload_n rfl dX12_learn_41
theorem sX12_learn_42 : Snd (miT Tb) RX12 cX12_learn 4 none 42 (i_getR 11 30 45) := snd_getR rfl (by decide) (by decide) (by decide) (fun hK ho hs hq kk => gf_X12_84 hK ho hs hq rfl dX12_learn_42 kk)
theorem sX12_learn_45 : Snd (miT Tb) RX12 cX12_learn 4 none 45 (i_iload 46 1) := snd_iload_n rfl dX12_learn_45
theorem sX12_learn_46 : Snd (miT Tb) RX12 cX12_learn 4 none 46 (i_iload 47 2) := snd_iload_n rfl dX12_learn_46
theorem sX12_learn_47 : Snd (miT Tb) RX12 cX12_learn 4 none 47 (i_if_eq 50 62) := snd_if_eq dX12_learn_47 rfl
theorem sX12_learn_50 : Snd (miT Tb) RX12 cX12_learn 4 none 50 (i_aload 51 0) := snd_aload_n rfl dX12_learn_50
theorem sX12_learn_51 : Snd (miT Tb) RX12 cX12_learn 4 none 51 (i_getR 11 1 54) := snd_getR rfl (by decide) (by decide) (by decide) (fun hK ho hs hq kk => gf_X12_13 hK ho hs hq rfl dX12_learn_51 kk)
theorem sX12_learn_54 : Snd (miT Tb) RX12 cX12_learn 4 none 54 (i_iload 55 3) := snd_iload_n rfl dX12_learn_54
theorem sX12_learn_55 : Snd (miT Tb) RX12 cX12_learn 4 none 55 (i_iald 56) := snd_iald dX12_learn_55
theorem sX12_learn_56 : Snd (miT Tb) RX12 cX12_learn 4 none 56 (i_const 58 (vI 100)) := snd_bipush (by decide) dX12_learn_56
theorem sX12_learn_58 : Snd (miT Tb) RX12 cX12_learn 4 none 58 (i_irem 59) := snd_irem dX12_learn_58
theorem sX12_learn_59 : Snd (miT Tb) RX12 cX12_learn 4 none 59 (i_goto 71) := snd_goto dX12_learn_59 rfl
theorem sX12_learn_62 : Snd (miT Tb) RX12 cX12_learn 4 none 62 (i_aload 63 0) := snd_aload_n rfl dX12_learn_62
theorem sX12_learn_63 : Snd (miT Tb) RX12 cX12_learn 4 none 63 (i_getR 11 1 66) := snd_getR rfl (by decide) (by decide) (by decide) (fun hK ho hs hq kk => gf_X12_13 hK ho hs hq rfl dX12_learn_63 kk)
theorem sX12_learn_66 : Snd (miT Tb) RX12 cX12_learn 4 none 66 (i_iload 67 3) := snd_iload_n rfl dX12_learn_66
theorem sX12_learn_67 : Snd (miT Tb) RX12 cX12_learn 4 none 67 (i_iald 68) := snd_iald dX12_learn_67
theorem sX12_learn_68 : Snd (miT Tb) RX12 cX12_learn 4 none 68 (i_const 70 (vI 100)) := snd_bipush (by decide) dX12_learn_68
theorem sX12_learn_70 : Snd (miT Tb) RX12 cX12_learn 4 none 70 (i_idiv 71) := snd_idiv dX12_learn_70
theorem sX12_learn_71 : Snd (miT Tb) RX12 cX12_learn 4 none 71 (i_iast 72) := snd_iast dX12_learn_71
theorem sX12_learn_72 : Snd (miT Tb) RX12 cX12_learn 4 none 72 (i_vret) := snd_vret dX12_learn_72
theorem kX12_learn : raA (okI (miT Tb) (yX12_learn, cX12_learn, 4, none)) tX12_learn := (raA_br (raA_br (raA_br (raA_br (raA_br (raA_leaf sX12_learn_0) (raA_leaf sX12_learn_1)) (raA_br (raA_leaf sX12_learn_4) (raA_br (raA_leaf sX12_learn_5) (raA_leaf sX12_learn_6)))) (raA_br (raA_br (raA_leaf sX12_learn_7) (raA_br (raA_leaf sX12_learn_8) (raA_leaf sX12_learn_11))) (raA_br (raA_leaf sX12_learn_12) (raA_br (raA_leaf sX12_learn_15) (raA_leaf sX12_learn_16))))) (raA_br (raA_br (raA_br (raA_leaf sX12_learn_18) (raA_leaf sX12_learn_21)) (raA_br (raA_leaf sX12_learn_22) (raA_br (raA_leaf sX12_learn_24) (raA_leaf sX12_learn_27)))) (raA_br (raA_br (raA_leaf sX12_learn_28) (raA_br (raA_leaf sX12_learn_31) (raA_leaf sX12_learn_32))) (raA_br (raA_leaf sX12_learn_33) (raA_br (raA_leaf sX12_learn_34) (raA_leaf sX12_learn_37)))))) (raA_br (raA_br (raA_br (raA_br (raA_leaf sX12_learn_38) (raA_leaf sX12_learn_39)) (raA_br (raA_leaf sX12_learn_40) (raA_br (raA_leaf sX12_learn_41) (raA_leaf sX12_learn_42)))) (raA_br (raA_br (raA_leaf sX12_learn_45) (raA_br (raA_leaf sX12_learn_46) (raA_leaf sX12_learn_47))) (raA_br (raA_leaf sX12_learn_50) (raA_br (raA_leaf sX12_learn_51) (raA_leaf sX12_learn_54))))) (raA_br (raA_br (raA_br (raA_leaf sX12_learn_55) (raA_br (raA_leaf sX12_learn_56) (raA_leaf sX12_learn_58))) (raA_br (raA_leaf sX12_learn_59) (raA_br (raA_leaf sX12_learn_62) (raA_leaf sX12_learn_63)))) (raA_br (raA_br (raA_leaf sX12_learn_66) (raA_br (raA_leaf sX12_learn_67) (raA_leaf sX12_learn_68))) (raA_br (raA_leaf sX12_learn_70) (raA_br (raA_leaf sX12_learn_71) (raA_leaf sX12_learn_72)))))))
theorem sX12_left_0 : Snd (miT Tb) RX12 cX12_left 2 (some .int) 0 (i_iload 1 0) := snd_iload_n rfl dX12_left_0
theorem sX12_left_1 : Snd (miT Tb) RX12 cX12_left 2 (some .int) 1 (i_const 2 (vI 1)) := snd_iconst dX12_left_1
theorem sX12_left_2 : Snd (miT Tb) RX12 cX12_left 2 (some .int) 2 (i_iload 3 1) := snd_iload_n rfl dX12_left_2
theorem sX12_left_3 : Snd (miT Tb) RX12 cX12_left 2 (some .int) 3 (i_ishl 4) := snd_ishl dX12_left_3
theorem sX12_left_4 : Snd (miT Tb) RX12 cX12_left 2 (some .int) 4 (i_iadd 5) := snd_iadd dX12_left_4
theorem sX12_left_5 : Snd (miT Tb) RX12 cX12_left 2 (some .int) 5 (i_const 6 (vI 1)) := snd_iconst dX12_left_5
theorem sX12_left_6 : Snd (miT Tb) RX12 cX12_left 2 (some .int) 6 (i_isub 7) := snd_isub dX12_left_6
theorem sX12_left_7 : Snd (miT Tb) RX12 cX12_left 2 (some .int) 7 (i_iload 8 1) := snd_iload_n rfl dX12_left_7
theorem sX12_left_8 : Snd (miT Tb) RX12 cX12_left 2 (some .int) 8 (i_ishr 9) := snd_ishr dX12_left_8
theorem sX12_left_9 : Snd (miT Tb) RX12 cX12_left 2 (some .int) 9 (i_iret) := snd_iret dX12_left_9
theorem kX12_left : raA (okI (miT Tb) (yX12_left, cX12_left, 2, (some .int))) tX12_left := (raA_br (raA_br (raA_br (raA_leaf sX12_left_0) (raA_leaf sX12_left_1)) (raA_br (raA_leaf sX12_left_2) (raA_br (raA_leaf sX12_left_3) (raA_leaf sX12_left_4)))) (raA_br (raA_br (raA_leaf sX12_left_5) (raA_leaf sX12_left_6)) (raA_br (raA_leaf sX12_left_7) (raA_br (raA_leaf sX12_left_8) (raA_leaf sX12_left_9)))))
theorem sX12_loadBand_0 : Snd (miT Tb) RX12 cX12_loadBand 6 none 0 (i_const 1 (vI 0)) := snd_iconst dX12_loadBand_0
theorem sX12_loadBand_1 : Snd (miT Tb) RX12 cX12_loadBand 6 none 1 (i_istore 2 3) := snd_istore_n rfl (by decide) dX12_loadBand_1
theorem sX12_loadBand_2 : Snd (miT Tb) RX12 cX12_loadBand 6 none 2 (i_iload 3 3) := snd_iload_n rfl dX12_loadBand_2
theorem sX12_loadBand_3 : Snd (miT Tb) RX12 cX12_loadBand 6 none 3 (i_aload 4 0) := snd_aload_n rfl dX12_loadBand_3
theorem sX12_loadBand_4 : Snd (miT Tb) RX12 cX12_loadBand 6 none 4 (i_getR 11 10 7) := snd_getR rfl (by decide) (by decide) (by decide) (fun hK ho hs hq kk => gf_X12_38 hK ho hs hq rfl dX12_loadBand_4 kk)
theorem sX12_loadBand_7 : Snd (miT Tb) RX12 cX12_loadBand 6 none 7 (i_iload 8 1) := snd_iload_n rfl dX12_loadBand_7
theorem sX12_loadBand_8 : Snd (miT Tb) RX12 cX12_loadBand 6 none 8 (i_iald 9) := snd_iald dX12_loadBand_8
theorem sX12_loadBand_9 : Snd (miT Tb) RX12 cX12_loadBand 6 none 9 (i_icmp_ge 12 111) := snd_icmp_ge dX12_loadBand_9 rfl
theorem sX12_loadBand_12 : Snd (miT Tb) RX12 cX12_loadBand 6 none 12 (i_const 13 (vI 0)) := snd_iconst dX12_loadBand_12
theorem sX12_loadBand_13 : Snd (miT Tb) RX12 cX12_loadBand 6 none 13 (i_istore 15 4) := snd_istore (by decide) dX12_loadBand_13
theorem sX12_loadBand_15 : Snd (miT Tb) RX12 cX12_loadBand 6 none 15 (i_iload 17 4) := snd_iload dX12_loadBand_15
theorem sX12_loadBand_17 : Snd (miT Tb) RX12 cX12_loadBand 6 none 17 (i_aload 18 0) := snd_aload_n rfl dX12_loadBand_17
theorem sX12_loadBand_18 : Snd (miT Tb) RX12 cX12_loadBand 6 none 18 (i_getR 11 9 21) := snd_getR rfl (by decide) (by decide) (by decide) (fun hK ho hs hq kk => gf_X12_35 hK ho hs hq rfl dX12_loadBand_18 kk)
theorem sX12_loadBand_21 : Snd (miT Tb) RX12 cX12_loadBand 6 none 21 (i_iload 22 1) := snd_iload_n rfl dX12_loadBand_21
theorem sX12_loadBand_22 : Snd (miT Tb) RX12 cX12_loadBand 6 none 22 (i_iald 23) := snd_iald dX12_loadBand_22
theorem sX12_loadBand_23 : Snd (miT Tb) RX12 cX12_loadBand 6 none 23 (i_icmp_ge 26 105) := snd_icmp_ge dX12_loadBand_23 rfl
theorem sX12_loadBand_26 : Snd (miT Tb) RX12 cX12_loadBand 6 none 26 (i_aload 27 0) := snd_aload_n rfl dX12_loadBand_26
theorem sX12_loadBand_27 : Snd (miT Tb) RX12 cX12_loadBand 6 none 27 (i_getR 11 6 30) := snd_getR rfl (by decide) (by decide) (by decide) (fun hK ho hs hq kk => gf_X12_26 hK ho hs hq rfl dX12_loadBand_27 kk)
theorem sX12_loadBand_30 : Snd (miT Tb) RX12 cX12_loadBand 6 none 30 (i_iload 31 2) := snd_iload_n rfl dX12_loadBand_30
theorem sX12_loadBand_31 : Snd (miT Tb) RX12 cX12_loadBand 6 none 31 (i_const 33 (vI 8)) := snd_bipush (by decide) dX12_loadBand_31
theorem sX12_loadBand_33 : Snd (miT Tb) RX12 cX12_loadBand 6 none 33 (i_iload 34 3) := snd_iload_n rfl dX12_loadBand_33
theorem sX12_loadBand_34 : Snd (miT Tb) RX12 cX12_loadBand 6 none 34 (i_imul 35) := snd_imul dX12_loadBand_34
theorem sX12_loadBand_35 : Snd (miT Tb) RX12 cX12_loadBand 6 none 35 (i_iadd 36) := snd_iadd dX12_loadBand_35
theorem sX12_loadBand_36 : Snd (miT Tb) RX12 cX12_loadBand 6 none 36 (i_iload 38 4) := snd_iload dX12_loadBand_36
theorem sX12_loadBand_38 : Snd (miT Tb) RX12 cX12_loadBand 6 none 38 (i_iadd 39) := snd_iadd dX12_loadBand_38
theorem sX12_loadBand_39 : Snd (miT Tb) RX12 cX12_loadBand 6 none 39 (i_iald 40) := snd_iald dX12_loadBand_39
theorem sX12_loadBand_40 : Snd (miT Tb) RX12 cX12_loadBand 6 none 40 (i_istore 42 5) := snd_istore (by decide) dX12_loadBand_40
theorem sX12_loadBand_42 : Snd (miT Tb) RX12 cX12_loadBand 6 none 42 (i_aload 43 0) := snd_aload_n rfl dX12_loadBand_42
theorem sX12_loadBand_43 : Snd (miT Tb) RX12 cX12_loadBand 6 none 43 (i_getR 11 13 46) := snd_getR rfl (by decide) (by decide) (by decide) (fun hK ho hs hq kk => gf_X12_47 hK ho hs hq rfl dX12_loadBand_43 kk)
theorem sX12_loadBand_46 : Snd (miT Tb) RX12 cX12_loadBand 6 none 46 (i_const 48 (vI 64)) := snd_bipush (by decide) dX12_loadBand_46
theorem sX12_loadBand_48 : Snd (miT Tb) RX12 cX12_loadBand 6 none 48 (i_iload 49 1) := snd_iload_n rfl dX12_loadBand_48
theorem sX12_loadBand_49 : Snd (miT Tb) RX12 cX12_loadBand 6 none 49 (i_imul 50) := snd_imul dX12_loadBand_49
theorem sX12_loadBand_50 : Snd (miT Tb) RX12 cX12_loadBand 6 none 50 (i_const 52 (vI 8)) := snd_bipush (by decide) dX12_loadBand_50
theorem sX12_loadBand_52 : Snd (miT Tb) RX12 cX12_loadBand 6 none 52 (i_iload 53 3) := snd_iload_n rfl dX12_loadBand_52
theorem sX12_loadBand_53 : Snd (miT Tb) RX12 cX12_loadBand 6 none 53 (i_imul 54) := snd_imul dX12_loadBand_53
theorem sX12_loadBand_54 : Snd (miT Tb) RX12 cX12_loadBand 6 none 54 (i_iadd 55) := snd_iadd dX12_loadBand_54
theorem sX12_loadBand_55 : Snd (miT Tb) RX12 cX12_loadBand 6 none 55 (i_iload 57 4) := snd_iload dX12_loadBand_55
theorem sX12_loadBand_57 : Snd (miT Tb) RX12 cX12_loadBand 6 none 57 (i_iadd 58) := snd_iadd dX12_loadBand_57
theorem sX12_loadBand_58 : Snd (miT Tb) RX12 cX12_loadBand 6 none 58 (i_iload 60 5) := snd_iload dX12_loadBand_58
theorem sX12_loadBand_60 : Snd (miT Tb) RX12 cX12_loadBand 6 none 60 (i_if_ge 63 69) := snd_if_ge dX12_loadBand_60 rfl
theorem sX12_loadBand_63 : Snd (miT Tb) RX12 cX12_loadBand 6 none 63 (i_iload 65 5) := snd_iload dX12_loadBand_63
theorem sX12_loadBand_65 : Snd (miT Tb) RX12 cX12_loadBand 6 none 65 (i_ineg 66) := snd_ineg dX12_loadBand_65
theorem sX12_loadBand_66 : Snd (miT Tb) RX12 cX12_loadBand 6 none 66 (i_goto 71) := snd_goto dX12_loadBand_66 rfl
theorem sX12_loadBand_69 : Snd (miT Tb) RX12 cX12_loadBand 6 none 69 (i_iload 71 5) := snd_iload dX12_loadBand_69
theorem sX12_loadBand_71 : Snd (miT Tb) RX12 cX12_loadBand 6 none 71 (i_iast 72) := snd_iast dX12_loadBand_71
theorem sX12_loadBand_72 : Snd (miT Tb) RX12 cX12_loadBand 6 none 72 (i_aload 73 0) := snd_aload_n rfl dX12_loadBand_72
theorem sX12_loadBand_73 : Snd (miT Tb) RX12 cX12_loadBand 6 none 73 (i_getR 11 14 76) := snd_getR rfl (by decide) (by decide) (by decide) (fun hK ho hs hq kk => gf_X12_50 hK ho hs hq rfl dX12_loadBand_73 kk)
theorem sX12_loadBand_76 : Snd (miT Tb) RX12 cX12_loadBand 6 none 76 (i_const 78 (vI 64)) := snd_bipush (by decide) dX12_loadBand_76
theorem sX12_loadBand_78 : Snd (miT Tb) RX12 cX12_loadBand 6 none 78 (i_iload 79 1) := snd_iload_n rfl dX12_loadBand_78
theorem sX12_loadBand_79 : Snd (miT Tb) RX12 cX12_loadBand 6 none 79 (i_imul 80) := snd_imul dX12_loadBand_79
theorem sX12_loadBand_80 : Snd (miT Tb) RX12 cX12_loadBand 6 none 80 (i_const 82 (vI 8)) := snd_bipush (by decide) dX12_loadBand_80
theorem sX12_loadBand_82 : Snd (miT Tb) RX12 cX12_loadBand 6 none 82 (i_iload 83 3) := snd_iload_n rfl dX12_loadBand_82
theorem sX12_loadBand_83 : Snd (miT Tb) RX12 cX12_loadBand 6 none 83 (i_imul 84) := snd_imul dX12_loadBand_83
theorem sX12_loadBand_84 : Snd (miT Tb) RX12 cX12_loadBand 6 none 84 (i_iadd 85) := snd_iadd dX12_loadBand_84
theorem sX12_loadBand_85 : Snd (miT Tb) RX12 cX12_loadBand 6 none 85 (i_iload 87 4) := snd_iload dX12_loadBand_85
theorem sX12_loadBand_87 : Snd (miT Tb) RX12 cX12_loadBand 6 none 87 (i_iadd 88) := snd_iadd dX12_loadBand_87
theorem sX12_loadBand_88 : Snd (miT Tb) RX12 cX12_loadBand 6 none 88 (i_iload 90 5) := snd_iload dX12_loadBand_88
theorem sX12_loadBand_90 : Snd (miT Tb) RX12 cX12_loadBand 6 none 90 (i_if_ge 93 97) := snd_if_ge dX12_loadBand_90 rfl
theorem sX12_loadBand_93 : Snd (miT Tb) RX12 cX12_loadBand 6 none 93 (i_const 94 (vI 1)) := snd_iconst dX12_loadBand_93
theorem sX12_loadBand_94 : Snd (miT Tb) RX12 cX12_loadBand 6 none 94 (i_goto 98) := snd_goto dX12_loadBand_94 rfl
theorem sX12_loadBand_97 : Snd (miT Tb) RX12 cX12_loadBand 6 none 97 (i_const 98 (vI 0)) := snd_iconst dX12_loadBand_97
theorem sX12_loadBand_98 : Snd (miT Tb) RX12 cX12_loadBand 6 none 98 (i_zast 99) := snd_zast dX12_loadBand_98
theorem sX12_loadBand_99 : Snd (miT Tb) RX12 cX12_loadBand 6 none 99 (i_iinc 102 4 1) := snd_iinc (by decide) dX12_loadBand_99
theorem sX12_loadBand_102 : Snd (miT Tb) RX12 cX12_loadBand 6 none 102 (i_goto 15) := snd_goto dX12_loadBand_102 rfl
theorem sX12_loadBand_105 : Snd (miT Tb) RX12 cX12_loadBand 6 none 105 (i_iinc 108 3 1) := snd_iinc (by decide) dX12_loadBand_105
theorem sX12_loadBand_108 : Snd (miT Tb) RX12 cX12_loadBand 6 none 108 (i_goto 2) := snd_goto dX12_loadBand_108 rfl
theorem sX12_loadBand_111 : Snd (miT Tb) RX12 cX12_loadBand 6 none 111 (i_vret) := snd_vret dX12_loadBand_111
theorem kX12_loadBand : raA (okI (miT Tb) (yX12_loadBand, cX12_loadBand, 6, none)) tX12_loadBand := (raA_br (raA_br (raA_br (raA_br (raA_br (raA_br (raA_leaf sX12_loadBand_0) (raA_leaf sX12_loadBand_1)) (raA_br (raA_leaf sX12_loadBand_2) (raA_leaf sX12_loadBand_3))) (raA_br (raA_br (raA_leaf sX12_loadBand_4) (raA_leaf sX12_loadBand_7)) (raA_br (raA_leaf sX12_loadBand_8) (raA_leaf sX12_loadBand_9)))) (raA_br (raA_br (raA_br (raA_leaf sX12_loadBand_12) (raA_leaf sX12_loadBand_13)) (raA_br (raA_leaf sX12_loadBand_15) (raA_leaf sX12_loadBand_17))) (raA_br (raA_br (raA_leaf sX12_loadBand_18) (raA_leaf sX12_loadBand_21)) (raA_br (raA_leaf sX12_loadBand_22) (raA_leaf sX12_loadBand_23))))) (raA_br (raA_br (raA_br (raA_br (raA_leaf sX12_loadBand_26) (raA_leaf sX12_loadBand_27)) (raA_br (raA_leaf sX12_loadBand_30) (raA_leaf sX12_loadBand_31))) (raA_br (raA_br (raA_leaf sX12_loadBand_33) (raA_leaf sX12_loadBand_34)) (raA_br (raA_leaf sX12_loadBand_35) (raA_leaf sX12_loadBand_36)))) (raA_br (raA_br (raA_br (raA_leaf sX12_loadBand_38) (raA_leaf sX12_loadBand_39)) (raA_br (raA_leaf sX12_loadBand_40) (raA_leaf sX12_loadBand_42))) (raA_br (raA_br (raA_leaf sX12_loadBand_43) (raA_leaf sX12_loadBand_46)) (raA_br (raA_leaf sX12_loadBand_48) (raA_br (raA_leaf sX12_loadBand_49) (raA_leaf sX12_loadBand_50))))))) (raA_br (raA_br (raA_br (raA_br (raA_br (raA_leaf sX12_loadBand_52) (raA_leaf sX12_loadBand_53)) (raA_br (raA_leaf sX12_loadBand_54) (raA_leaf sX12_loadBand_55))) (raA_br (raA_br (raA_leaf sX12_loadBand_57) (raA_leaf sX12_loadBand_58)) (raA_br (raA_leaf sX12_loadBand_60) (raA_leaf sX12_loadBand_63)))) (raA_br (raA_br (raA_br (raA_leaf sX12_loadBand_65) (raA_leaf sX12_loadBand_66)) (raA_br (raA_leaf sX12_loadBand_69) (raA_leaf sX12_loadBand_71))) (raA_br (raA_br (raA_leaf sX12_loadBand_72) (raA_leaf sX12_loadBand_73)) (raA_br (raA_leaf sX12_loadBand_76) (raA_br (raA_leaf sX12_loadBand_78) (raA_leaf sX12_loadBand_79)))))) (raA_br (raA_br (raA_br (raA_br (raA_leaf sX12_loadBand_80) (raA_leaf sX12_loadBand_82)) (raA_br (raA_leaf sX12_loadBand_83) (raA_leaf sX12_loadBand_84))) (raA_br (raA_br (raA_leaf sX12_loadBand_85) (raA_leaf sX12_loadBand_87)) (raA_br (raA_leaf sX12_loadBand_88) (raA_leaf sX12_loadBand_90)))) (raA_br (raA_br (raA_br (raA_leaf sX12_loadBand_93) (raA_leaf sX12_loadBand_94)) (raA_br (raA_leaf sX12_loadBand_97) (raA_leaf sX12_loadBand_98))) (raA_br (raA_br (raA_leaf sX12_loadBand_99) (raA_leaf sX12_loadBand_102)) (raA_br (raA_leaf sX12_loadBand_105) (raA_br (raA_leaf sX12_loadBand_108) (raA_leaf sX12_loadBand_111))))))))
theorem sX12_log_0 : Snd (miT Tb) RX12 cX12_log 2 (some .int) 0 (i_const 1 (vI 0)) := snd_iconst dX12_log_0
theorem sX12_log_1 : Snd (miT Tb) RX12 cX12_log 2 (some .int) 1 (i_istore 2 1) := snd_istore_n rfl (by decide) dX12_log_1
theorem sX12_log_2 : Snd (miT Tb) RX12 cX12_log 2 (some .int) 2 (i_iload 3 0) := snd_iload_n rfl dX12_log_2
theorem sX12_log_3 : Snd (miT Tb) RX12 cX12_log 2 (some .int) 3 (i_const 4 (vI 1)) := snd_iconst dX12_log_3
theorem sX12_log_4 : Snd (miT Tb) RX12 cX12_log 2 (some .int) 4 (i_iload 5 1) := snd_iload_n rfl dX12_log_4
theorem sX12_log_5 : Snd (miT Tb) RX12 cX12_log 2 (some .int) 5 (i_const 6 (vI 1)) := snd_iconst dX12_log_5
theorem sX12_log_6 : Snd (miT Tb) RX12 cX12_log 2 (some .int) 6 (i_iadd 7) := snd_iadd dX12_log_6
theorem sX12_log_7 : Snd (miT Tb) RX12 cX12_log 2 (some .int) 7 (i_ishl 8) := snd_ishl dX12_log_7
theorem sX12_log_8 : Snd (miT Tb) RX12 cX12_log 2 (some .int) 8 (i_icmp_gt 11 20) := snd_icmp_gt dX12_log_8 rfl
theorem sX12_log_11 : Snd (miT Tb) RX12 cX12_log 2 (some .int) 11 (i_iload 12 0) := snd_iload_n rfl dX12_log_11
theorem sX12_log_12 : Snd (miT Tb) RX12 cX12_log 2 (some .int) 12 (i_const 13 (vI 1)) := snd_iconst dX12_log_12
theorem sX12_log_13 : Snd (miT Tb) RX12 cX12_log 2 (some .int) 13 (i_iload 14 1) := snd_iload_n rfl dX12_log_13
theorem sX12_log_14 : Snd (miT Tb) RX12 cX12_log 2 (some .int) 14 (i_const 15 (vI 1)) := snd_iconst dX12_log_14
theorem sX12_log_15 : Snd (miT Tb) RX12 cX12_log 2 (some .int) 15 (i_iadd 16) := snd_iadd dX12_log_15
theorem sX12_log_16 : Snd (miT Tb) RX12 cX12_log 2 (some .int) 16 (i_ishl 17) := snd_ishl dX12_log_16
theorem sX12_log_17 : Snd (miT Tb) RX12 cX12_log 2 (some .int) 17 (i_icmp_ne 20 26) := snd_icmp_ne dX12_log_17 rfl
theorem sX12_log_20 : Snd (miT Tb) RX12 cX12_log 2 (some .int) 20 (i_iinc 23 1 1) := snd_iinc (by decide) dX12_log_20
theorem sX12_log_23 : Snd (miT Tb) RX12 cX12_log 2 (some .int) 23 (i_goto 2) := snd_goto dX12_log_23 rfl
theorem sX12_log_26 : Snd (miT Tb) RX12 cX12_log 2 (some .int) 26 (i_iload 27 1) := snd_iload_n rfl dX12_log_26
theorem sX12_log_27 : Snd (miT Tb) RX12 cX12_log 2 (some .int) 27 (i_iret) := snd_iret dX12_log_27
theorem kX12_log : raA (okI (miT Tb) (yX12_log, cX12_log, 2, (some .int))) tX12_log := (raA_br (raA_br (raA_br (raA_br (raA_leaf sX12_log_0) (raA_leaf sX12_log_1)) (raA_br (raA_leaf sX12_log_2) (raA_br (raA_leaf sX12_log_3) (raA_leaf sX12_log_4)))) (raA_br (raA_br (raA_leaf sX12_log_5) (raA_leaf sX12_log_6)) (raA_br (raA_leaf sX12_log_7) (raA_br (raA_leaf sX12_log_8) (raA_leaf sX12_log_11))))) (raA_br (raA_br (raA_br (raA_leaf sX12_log_12) (raA_leaf sX12_log_13)) (raA_br (raA_leaf sX12_log_14) (raA_br (raA_leaf sX12_log_15) (raA_leaf sX12_log_16)))) (raA_br (raA_br (raA_leaf sX12_log_17) (raA_leaf sX12_log_20)) (raA_br (raA_leaf sX12_log_23) (raA_br (raA_leaf sX12_log_26) (raA_leaf sX12_log_27))))))
theorem sX12_passesOf_0 : Snd (miT Tb) RX12 cX12_passesOf 2 (some .int) 0 (i_aload 1 0) := snd_aload_n rfl dX12_passesOf_0
theorem sX12_passesOf_1 : Snd (miT Tb) RX12 cX12_passesOf 2 (some .int) 1 (i_getR 11 12 4) := snd_getR rfl (by decide) (by decide) (by decide) (fun hK ho hs hq kk => gf_X12_44 hK ho hs hq rfl dX12_passesOf_1 kk)
theorem sX12_passesOf_4 : Snd (miT Tb) RX12 cX12_passesOf 2 (some .int) 4 (i_iload 5 1) := snd_iload_n rfl dX12_passesOf_4
theorem sX12_passesOf_5 : Snd (miT Tb) RX12 cX12_passesOf 2 (some .int) 5 (i_iald 6) := snd_iald dX12_passesOf_5
theorem sX12_passesOf_6 : Snd (miT Tb) RX12 cX12_passesOf 2 (some .int) 6 (i_if_ne 9 13) := snd_if_ne dX12_passesOf_6 rfl
theorem sX12_passesOf_9 : Snd (miT Tb) RX12 cX12_passesOf 2 (some .int) 9 (i_const 10 (vI 0)) := snd_iconst dX12_passesOf_9
theorem sX12_passesOf_10 : Snd (miT Tb) RX12 cX12_passesOf 2 (some .int) 10 (i_goto 23) := snd_goto dX12_passesOf_10 rfl
theorem sX12_passesOf_13 : Snd (miT Tb) RX12 cX12_passesOf 2 (some .int) 13 (i_const 14 (vI 3)) := snd_iconst dX12_passesOf_13
theorem sX12_passesOf_14 : Snd (miT Tb) RX12 cX12_passesOf 2 (some .int) 14 (i_aload 15 0) := snd_aload_n rfl dX12_passesOf_14
theorem sX12_passesOf_15 : Snd (miT Tb) RX12 cX12_passesOf 2 (some .int) 15 (i_getR 11 12 18) := snd_getR rfl (by decide) (by decide) (by decide) (fun hK ho hs hq kk => gf_X12_44 hK ho hs hq rfl dX12_passesOf_15 kk)
theorem sX12_passesOf_18 : Snd (miT Tb) RX12 cX12_passesOf 2 (some .int) 18 (i_iload 19 1) := snd_iload_n rfl dX12_passesOf_18
theorem sX12_passesOf_19 : Snd (miT Tb) RX12 cX12_passesOf 2 (some .int) 19 (i_iald 20) := snd_iald dX12_passesOf_19
theorem sX12_passesOf_20 : Snd (miT Tb) RX12 cX12_passesOf 2 (some .int) 20 (i_imul 21) := snd_imul dX12_passesOf_20
theorem sX12_passesOf_21 : Snd (miT Tb) RX12 cX12_passesOf 2 (some .int) 21 (i_const 22 (vI 2)) := snd_iconst dX12_passesOf_21
theorem sX12_passesOf_22 : Snd (miT Tb) RX12 cX12_passesOf 2 (some .int) 22 (i_isub 23) := snd_isub dX12_passesOf_22
theorem sX12_passesOf_23 : Snd (miT Tb) RX12 cX12_passesOf 2 (some .int) 23 (i_iret) := snd_iret dX12_passesOf_23
theorem kX12_passesOf : raA (okI (miT Tb) (yX12_passesOf, cX12_passesOf, 2, (some .int))) tX12_passesOf := (raA_br (raA_br (raA_br (raA_br (raA_leaf sX12_passesOf_0) (raA_leaf sX12_passesOf_1)) (raA_br (raA_leaf sX12_passesOf_4) (raA_leaf sX12_passesOf_5))) (raA_br (raA_br (raA_leaf sX12_passesOf_6) (raA_leaf sX12_passesOf_9)) (raA_br (raA_leaf sX12_passesOf_10) (raA_leaf sX12_passesOf_13)))) (raA_br (raA_br (raA_br (raA_leaf sX12_passesOf_14) (raA_leaf sX12_passesOf_15)) (raA_br (raA_leaf sX12_passesOf_18) (raA_leaf sX12_passesOf_19))) (raA_br (raA_br (raA_leaf sX12_passesOf_20) (raA_leaf sX12_passesOf_21)) (raA_br (raA_leaf sX12_passesOf_22) (raA_leaf sX12_passesOf_23)))))
theorem sX12_putBits_0 : Snd (miT Tb) RX12 cX12_putBits 4 none 0 (i_iload 1 2) := snd_iload_n rfl dX12_putBits_0
theorem sX12_putBits_1 : Snd (miT Tb) RX12 cX12_putBits 4 none 1 (i_const 2 (vI 1)) := snd_iconst dX12_putBits_1
theorem sX12_putBits_2 : Snd (miT Tb) RX12 cX12_putBits 4 none 2 (i_isub 3) := snd_isub dX12_putBits_2
theorem sX12_putBits_3 : Snd (miT Tb) RX12 cX12_putBits 4 none 3 (i_istore 4 3) := snd_istore_n rfl (by decide) dX12_putBits_3
theorem sX12_putBits_4 : Snd (miT Tb) RX12 cX12_putBits 4 none 4 (i_iload 5 3) := snd_iload_n rfl dX12_putBits_4
theorem sX12_putBits_5 : Snd (miT Tb) RX12 cX12_putBits 4 none 5 (i_if_lt 8 79) := snd_if_lt dX12_putBits_5 rfl
theorem sX12_putBits_8 : Snd (miT Tb) RX12 cX12_putBits 4 none 8 (i_aload 9 0) := snd_aload_n rfl dX12_putBits_8
theorem sX12_putBits_9 : Snd (miT Tb) RX12 cX12_putBits 4 none 9 (i_getR 11 40 12) := snd_getR rfl (by decide) (by decide) (by decide) (fun hK ho hs hq kk => gf_X12_96 hK ho hs hq rfl dX12_putBits_9 kk)
theorem sX12_putBits_12 : Snd (miT Tb) RX12 cX12_putBits 4 none 12 (i_aload 13 0) := snd_aload_n rfl dX12_putBits_12
theorem sX12_putBits_13 : Snd (miT Tb) RX12 cX12_putBits 4 none 13 (i_getI 11 42 16) := snd_getI (fun hK ho hs hv kk => gf_X12_311 hK ho hs hv dX12_putBits_13 kk)
theorem sX12_putBits_16 : Snd (miT Tb) RX12 cX12_putBits 4 none 16 (i_aload 17 0) := snd_aload_n rfl dX12_putBits_16
theorem sX12_putBits_17 : Snd (miT Tb) RX12 cX12_putBits 4 none 17 (i_getI 11 43 20) := snd_getI (fun hK ho hs hv kk => gf_X12_314 hK ho hs hv dX12_putBits_17 kk)
theorem sX12_putBits_20 : Snd (miT Tb) RX12 cX12_putBits 4 none 20 (i_if_ne 23 27) := snd_if_ne dX12_putBits_20 rfl
theorem sX12_putBits_23 : Snd (miT Tb) RX12 cX12_putBits 4 none 23 (i_const 24 (vI 0)) := snd_iconst dX12_putBits_23
theorem sX12_putBits_24 : Snd (miT Tb) RX12 cX12_putBits 4 none 24 (i_goto 36) := snd_goto dX12_putBits_24 rfl
theorem sX12_putBits_27 : Snd (miT Tb) RX12 cX12_putBits 4 none 27 (i_aload 28 0) := snd_aload_n rfl dX12_putBits_27
theorem sX12_putBits_28 : Snd (miT Tb) RX12 cX12_putBits 4 none 28 (i_getR 11 40 31) := snd_getR rfl (by decide) (by decide) (by decide) (fun hK ho hs hq kk => gf_X12_96 hK ho hs hq rfl dX12_putBits_28 kk)
theorem sX12_putBits_31 : Snd (miT Tb) RX12 cX12_putBits 4 none 31 (i_aload 32 0) := snd_aload_n rfl dX12_putBits_31
theorem sX12_putBits_32 : Snd (miT Tb) RX12 cX12_putBits 4 none 32 (i_getI 11 42 35) := snd_getI (fun hK ho hs hv kk => gf_X12_311 hK ho hs hv dX12_putBits_32 kk)
theorem sX12_putBits_35 : Snd (miT Tb) RX12 cX12_putBits 4 none 35 (i_iald 36) := snd_iald dX12_putBits_35
theorem sX12_putBits_36 : Snd (miT Tb) RX12 cX12_putBits 4 none 36 (i_iast 37) := snd_iast dX12_putBits_36
theorem sX12_putBits_37 : Snd (miT Tb) RX12 cX12_putBits 4 none 37 (i_aload 38 0) := snd_aload_n rfl dX12_putBits_37
theorem sX12_putBits_38 : Snd (miT Tb) RX12 cX12_putBits 4 none 38 (i_getR 11 40 41) := snd_getR rfl (by decide) (by decide) (by decide) (fun hK ho hs hq kk => gf_X12_96 hK ho hs hq rfl dX12_putBits_38 kk)
theorem sX12_putBits_41 : Snd (miT Tb) RX12 cX12_putBits 4 none 41 (i_aload 42 0) := snd_aload_n rfl dX12_putBits_41
theorem sX12_putBits_42 : Snd (miT Tb) RX12 cX12_putBits 4 none 42 (i_getI 11 42 45) := snd_getI (fun hK ho hs hv kk => gf_X12_311 hK ho hs hv dX12_putBits_42 kk)
theorem sX12_putBits_45 : Snd (miT Tb) RX12 cX12_putBits 4 none 45 (i_aload 46 0) := snd_aload_n rfl dX12_putBits_45
theorem sX12_putBits_46 : Snd (miT Tb) RX12 cX12_putBits 4 none 46 (i_getR 11 40 49) := snd_getR rfl (by decide) (by decide) (by decide) (fun hK ho hs hq kk => gf_X12_96 hK ho hs hq rfl dX12_putBits_46 kk)
theorem sX12_putBits_49 : Snd (miT Tb) RX12 cX12_putBits 4 none 49 (i_aload 50 0) := snd_aload_n rfl dX12_putBits_49
theorem sX12_putBits_50 : Snd (miT Tb) RX12 cX12_putBits 4 none 50 (i_getI 11 42 53) := snd_getI (fun hK ho hs hv kk => gf_X12_311 hK ho hs hv dX12_putBits_50 kk)
theorem sX12_putBits_53 : Snd (miT Tb) RX12 cX12_putBits 4 none 53 (i_iald 54) := snd_iald dX12_putBits_53
theorem sX12_putBits_54 : Snd (miT Tb) RX12 cX12_putBits 4 none 54 (i_iload 55 1) := snd_iload_n rfl dX12_putBits_54
theorem sX12_putBits_55 : Snd (miT Tb) RX12 cX12_putBits 4 none 55 (i_iload 56 3) := snd_iload_n rfl dX12_putBits_55
theorem sX12_putBits_56 : Snd (miT Tb) RX12 cX12_putBits 4 none 56 (i_ishr 57) := snd_ishr dX12_putBits_56
theorem sX12_putBits_57 : Snd (miT Tb) RX12 cX12_putBits 4 none 57 (i_const 58 (vI 1)) := snd_iconst dX12_putBits_57
theorem sX12_putBits_58 : Snd (miT Tb) RX12 cX12_putBits 4 none 58 (i_iand 59) := snd_iand dX12_putBits_58
theorem sX12_putBits_59 : Snd (miT Tb) RX12 cX12_putBits 4 none 59 (i_const 61 (vI 7)) := snd_bipush (by decide) dX12_putBits_59
theorem sX12_putBits_61 : Snd (miT Tb) RX12 cX12_putBits 4 none 61 (i_aload 62 0) := snd_aload_n rfl dX12_putBits_61
theorem sX12_putBits_62 : Snd (miT Tb) RX12 cX12_putBits 4 none 62 (i_getI 11 43 65) := snd_getI (fun hK ho hs hv kk => gf_X12_314 hK ho hs hv dX12_putBits_62 kk)
theorem sX12_putBits_65 : Snd (miT Tb) RX12 cX12_putBits 4 none 65 (i_isub 66) := snd_isub dX12_putBits_65
theorem sX12_putBits_66 : Snd (miT Tb) RX12 cX12_putBits 4 none 66 (i_ishl 67) := snd_ishl dX12_putBits_66
theorem sX12_putBits_67 : Snd (miT Tb) RX12 cX12_putBits 4 none 67 (i_iadd 68) := snd_iadd dX12_putBits_67
theorem sX12_putBits_68 : Snd (miT Tb) RX12 cX12_putBits 4 none 68 (i_iast 69) := snd_iast dX12_putBits_68
theorem sX12_putBits_69 : Snd (miT Tb) RX12 cX12_putBits 4 none 69 (i_aload 70 0) := snd_aload_n rfl dX12_putBits_69
theorem sX12_putBits_70 : Snd (miT Tb) RX12 cX12_putBits 4 none 70 (i_cV0 59 11 73) := snd_cV0 (fun hK hd hC ho hs h6 h7 h8 kk => iv_X12_317 hK (mc_59 hC) ho hs ⟨hd, by show _ ≤ 40 * (_ + 1); omega⟩ (Nat.le_refl _) h6 h7 h8 ⟨Nat.le_refl _, Nat.le_refl _⟩ dX12_putBits_70 kk)
theorem sX12_putBits_73 : Snd (miT Tb) RX12 cX12_putBits 4 none 73 (i_iinc 76 3 (-1)) := snd_iinc (by decide) dX12_putBits_73
theorem sX12_putBits_76 : Snd (miT Tb) RX12 cX12_putBits 4 none 76 (i_goto 4) := snd_goto dX12_putBits_76 rfl
theorem sX12_putBits_79 : Snd (miT Tb) RX12 cX12_putBits 4 none 79 (i_vret) := snd_vret dX12_putBits_79
theorem kX12_putBits : raA (okI (miT Tb) (yX12_putBits, cX12_putBits, 4, none)) tX12_putBits := (raA_br (raA_br (raA_br (raA_br (raA_br (raA_leaf sX12_putBits_0) (raA_leaf sX12_putBits_1)) (raA_br (raA_leaf sX12_putBits_2) (raA_br (raA_leaf sX12_putBits_3) (raA_leaf sX12_putBits_4)))) (raA_br (raA_br (raA_leaf sX12_putBits_5) (raA_br (raA_leaf sX12_putBits_8) (raA_leaf sX12_putBits_9))) (raA_br (raA_leaf sX12_putBits_12) (raA_br (raA_leaf sX12_putBits_13) (raA_leaf sX12_putBits_16))))) (raA_br (raA_br (raA_br (raA_leaf sX12_putBits_17) (raA_br (raA_leaf sX12_putBits_20) (raA_leaf sX12_putBits_23))) (raA_br (raA_leaf sX12_putBits_24) (raA_br (raA_leaf sX12_putBits_27) (raA_leaf sX12_putBits_28)))) (raA_br (raA_br (raA_leaf sX12_putBits_31) (raA_br (raA_leaf sX12_putBits_32) (raA_leaf sX12_putBits_35))) (raA_br (raA_leaf sX12_putBits_36) (raA_br (raA_leaf sX12_putBits_37) (raA_leaf sX12_putBits_38)))))) (raA_br (raA_br (raA_br (raA_br (raA_leaf sX12_putBits_41) (raA_br (raA_leaf sX12_putBits_42) (raA_leaf sX12_putBits_45))) (raA_br (raA_leaf sX12_putBits_46) (raA_br (raA_leaf sX12_putBits_49) (raA_leaf sX12_putBits_50)))) (raA_br (raA_br (raA_leaf sX12_putBits_53) (raA_br (raA_leaf sX12_putBits_54) (raA_leaf sX12_putBits_55))) (raA_br (raA_leaf sX12_putBits_56) (raA_br (raA_leaf sX12_putBits_57) (raA_leaf sX12_putBits_58))))) (raA_br (raA_br (raA_br (raA_leaf sX12_putBits_59) (raA_br (raA_leaf sX12_putBits_61) (raA_leaf sX12_putBits_62))) (raA_br (raA_leaf sX12_putBits_65) (raA_br (raA_leaf sX12_putBits_66) (raA_leaf sX12_putBits_67)))) (raA_br (raA_br (raA_leaf sX12_putBits_68) (raA_br (raA_leaf sX12_putBits_69) (raA_leaf sX12_putBits_70))) (raA_br (raA_leaf sX12_putBits_73) (raA_br (raA_leaf sX12_putBits_76) (raA_leaf sX12_putBits_79)))))))
theorem sX12_putHead_0 : Snd (miT Tb) RX12 cX12_putHead 4 none 0 (i_aload 1 0) := snd_aload_n rfl dX12_putHead_0
theorem sX12_putHead_1 : Snd (miT Tb) RX12 cX12_putHead 4 none 1 (i_getR 11 15 4) := snd_getR rfl (by decide) (by decide) (by decide) (fun hK ho hs hq kk => gf_X12_54 hK ho hs hq rfl dX12_putHead_1 kk)
theorem sX12_putHead_4 : Snd (miT Tb) RX12 cX12_putHead 4 none 4 (i_iload 5 1) := snd_iload_n rfl dX12_putHead_4
theorem sX12_putHead_5 : Snd (miT Tb) RX12 cX12_putHead 4 none 5 (i_iald 6) := snd_iald dX12_putHead_5
theorem sX12_putHead_6 : Snd (miT Tb) RX12 cX12_putHead 4 none 6 (i_aload 7 0) := snd_aload_n rfl dX12_putHead_6
theorem sX12_putHead_7 : Snd (miT Tb) RX12 cX12_putHead 4 none 7 (i_getR 11 16 10) := snd_getR rfl (by decide) (by decide) (by decide) (fun hK ho hs hq kk => gf_X12_57 hK ho hs hq rfl dX12_putHead_7 kk)
theorem sX12_putHead_10 : Snd (miT Tb) RX12 cX12_putHead 4 none 10 (i_iload 11 1) := snd_iload_n rfl dX12_putHead_10
theorem sX12_putHead_11 : Snd (miT Tb) RX12 cX12_putHead 4 none 11 (i_iald 12) := snd_iald dX12_putHead_11
theorem sX12_putHead_12 : Snd (miT Tb) RX12 cX12_putHead 4 none 12 (i_isub 13) := snd_isub dX12_putHead_12
theorem sX12_putHead_13 : Snd (miT Tb) RX12 cX12_putHead 4 none 13 (i_istore 14 2) := snd_istore_n rfl (by decide) dX12_putHead_13
theorem sX12_putHead_14 : Snd (miT Tb) RX12 cX12_putHead 4 none 14 (i_aload 15 0) := snd_aload_n rfl dX12_putHead_14
theorem sX12_putHead_15 : Snd (miT Tb) RX12 cX12_putHead 4 none 15 (i_iload 16 2) := snd_iload_n rfl dX12_putHead_15
theorem sX12_putHead_16 : Snd (miT Tb) RX12 cX12_putHead 4 none 16 (i_if_le 19 23) := snd_if_le dX12_putHead_16 rfl
theorem sX12_putHead_19 : Snd (miT Tb) RX12 cX12_putHead 4 none 19 (i_const 20 (vI 1)) := snd_iconst dX12_putHead_19
theorem sX12_putHead_20 : Snd (miT Tb) RX12 cX12_putHead 4 none 20 (i_goto 24) := snd_goto dX12_putHead_20 rfl
theorem sX12_putHead_23 : Snd (miT Tb) RX12 cX12_putHead 4 none 23 (i_const 24 (vI 0)) := snd_iconst dX12_putHead_23
theorem sX12_putHead_24 : Snd (miT Tb) RX12 cX12_putHead 4 none 24 (i_const 25 (vI 1)) := snd_iconst dX12_putHead_24
theorem sX12_putHead_25 : Snd (miT Tb) RX12 cX12_putHead 4 none 25 (i_cV2 50 11 28) := snd_cV2 (fun hK hd hC ho hs h6 h7 h8 kk => iv_X12_320 hK (mc_50 hC) ho hs ⟨hd, by show _ ≤ 40 * (_ + 1); omega⟩ (Nat.le_refl _) h6 h7 h8 ⟨Nat.le_refl _, Nat.le_refl _⟩ dX12_putHead_25 kk)
theorem sX12_putHead_28 : Snd (miT Tb) RX12 cX12_putHead 4 none 28 (i_iload 29 2) := snd_iload_n rfl dX12_putHead_28
theorem sX12_putHead_29 : Snd (miT Tb) RX12 cX12_putHead 4 none 29 (i_if_ne 32 33) := snd_if_ne dX12_putHead_29 rfl
theorem sX12_putHead_32 : Snd (miT Tb) RX12 cX12_putHead 4 none 32 (i_vret) := snd_vret dX12_putHead_32
theorem sX12_putHead_33 : Snd (miT Tb) RX12 cX12_putHead 4 none 33 (i_aload 34 0) := snd_aload_n rfl dX12_putHead_33
theorem sX12_putHead_34 : Snd (miT Tb) RX12 cX12_putHead 4 none 34 (i_getR 11 16 37) := snd_getR rfl (by decide) (by decide) (by decide) (fun hK ho hs hq kk => gf_X12_57 hK ho hs hq rfl dX12_putHead_34 kk)
theorem sX12_putHead_37 : Snd (miT Tb) RX12 cX12_putHead 4 none 37 (i_iload 38 1) := snd_iload_n rfl dX12_putHead_37
theorem sX12_putHead_38 : Snd (miT Tb) RX12 cX12_putHead 4 none 38 (i_iald 39) := snd_iald dX12_putHead_38
theorem sX12_putHead_39 : Snd (miT Tb) RX12 cX12_putHead 4 none 39 (i_if_ne 42 53) := snd_if_ne dX12_putHead_39 rfl
theorem sX12_putHead_42 : Snd (miT Tb) RX12 cX12_putHead 4 none 42 (i_aload 43 0) := snd_aload_n rfl dX12_putHead_42
theorem sX12_putHead_43 : Snd (miT Tb) RX12 cX12_putHead 4 none 43 (i_aload 44 0) := snd_aload_n rfl dX12_putHead_43
theorem sX12_putHead_44 : Snd (miT Tb) RX12 cX12_putHead 4 none 44 (i_getR 11 12 47) := snd_getR rfl (by decide) (by decide) (by decide) (fun hK ho hs hq kk => gf_X12_44 hK ho hs hq rfl dX12_putHead_44 kk)
theorem sX12_putHead_47 : Snd (miT Tb) RX12 cX12_putHead 4 none 47 (i_iload 48 1) := snd_iload_n rfl dX12_putHead_47
theorem sX12_putHead_48 : Snd (miT Tb) RX12 cX12_putHead 4 none 48 (i_iald 49) := snd_iald dX12_putHead_48
theorem sX12_putHead_49 : Snd (miT Tb) RX12 cX12_putHead 4 none 49 (i_const 50 (vI 4)) := snd_iconst dX12_putHead_49
theorem sX12_putHead_50 : Snd (miT Tb) RX12 cX12_putHead 4 none 50 (i_cV2 50 11 53) := snd_cV2 (fun hK hd hC ho hs h6 h7 h8 kk => iv_X12_320 hK (mc_50 hC) ho hs ⟨hd, by show _ ≤ 40 * (_ + 1); omega⟩ (Nat.le_refl _) h6 h7 h8 ⟨Nat.le_refl _, Nat.le_refl _⟩ dX12_putHead_50 kk)
theorem sX12_putHead_53 : Snd (miT Tb) RX12 cX12_putHead 4 none 53 (i_iload 54 2) := snd_iload_n rfl dX12_putHead_53
theorem sX12_putHead_54 : Snd (miT Tb) RX12 cX12_putHead 4 none 54 (i_const 55 (vI 3)) := snd_iconst dX12_putHead_54
theorem sX12_putHead_55 : Snd (miT Tb) RX12 cX12_putHead 4 none 55 (i_icmp_ge 58 76) := snd_icmp_ge dX12_putHead_55 rfl
theorem sX12_putHead_58 : Snd (miT Tb) RX12 cX12_putHead 4 none 58 (i_aload 59 0) := snd_aload_n rfl dX12_putHead_58
theorem sX12_putHead_59 : Snd (miT Tb) RX12 cX12_putHead 4 none 59 (i_iload 60 2) := snd_iload_n rfl dX12_putHead_59
theorem sX12_putHead_60 : Snd (miT Tb) RX12 cX12_putHead 4 none 60 (i_const 61 (vI 1)) := snd_iconst dX12_putHead_60
theorem sX12_putHead_61 : Snd (miT Tb) RX12 cX12_putHead 4 none 61 (i_icmp_ne 64 68) := snd_icmp_ne dX12_putHead_61 rfl
theorem sX12_putHead_64 : Snd (miT Tb) RX12 cX12_putHead 4 none 64 (i_const 65 (vI 0)) := snd_iconst dX12_putHead_64
theorem sX12_putHead_65 : Snd (miT Tb) RX12 cX12_putHead 4 none 65 (i_goto 69) := snd_goto dX12_putHead_65 rfl
theorem sX12_putHead_68 : Snd (miT Tb) RX12 cX12_putHead 4 none 68 (i_const 69 (vI 2)) := snd_iconst dX12_putHead_68
theorem sX12_putHead_69 : Snd (miT Tb) RX12 cX12_putHead 4 none 69 (i_iload 70 2) := snd_iload_n rfl dX12_putHead_69
theorem sX12_putHead_70 : Snd (miT Tb) RX12 cX12_putHead 4 none 70 (i_cV2 50 11 73) := snd_cV2 (fun hK hd hC ho hs h6 h7 h8 kk => iv_X12_320 hK (mc_50 hC) ho hs ⟨hd, by show _ ≤ 40 * (_ + 1); omega⟩ (Nat.le_refl _) h6 h7 h8 ⟨Nat.le_refl _, Nat.le_refl _⟩ dX12_putHead_70 kk)
theorem sX12_putHead_73 : Snd (miT Tb) RX12 cX12_putHead 4 none 73 (i_goto 115) := snd_goto dX12_putHead_73 rfl
theorem sX12_putHead_76 : Snd (miT Tb) RX12 cX12_putHead 4 none 76 (i_iload 77 2) := snd_iload_n rfl dX12_putHead_76
theorem sX12_putHead_77 : Snd (miT Tb) RX12 cX12_putHead 4 none 77 (i_const 79 (vI 6)) := snd_bipush (by decide) dX12_putHead_77
theorem sX12_putHead_79 : Snd (miT Tb) RX12 cX12_putHead 4 none 79 (i_icmp_ge 82 99) := snd_icmp_ge dX12_putHead_79 rfl
theorem sX12_putHead_82 : Snd (miT Tb) RX12 cX12_putHead 4 none 82 (i_aload 83 0) := snd_aload_n rfl dX12_putHead_82
theorem sX12_putHead_83 : Snd (miT Tb) RX12 cX12_putHead 4 none 83 (i_const 84 (vI 3)) := snd_iconst dX12_putHead_83
theorem sX12_putHead_84 : Snd (miT Tb) RX12 cX12_putHead 4 none 84 (i_const 85 (vI 2)) := snd_iconst dX12_putHead_84
theorem sX12_putHead_85 : Snd (miT Tb) RX12 cX12_putHead 4 none 85 (i_cV2 50 11 88) := snd_cV2 (fun hK hd hC ho hs h6 h7 h8 kk => iv_X12_320 hK (mc_50 hC) ho hs ⟨hd, by show _ ≤ 40 * (_ + 1); omega⟩ (Nat.le_refl _) h6 h7 h8 ⟨Nat.le_refl _, Nat.le_refl _⟩ dX12_putHead_85 kk)
theorem sX12_putHead_88 : Snd (miT Tb) RX12 cX12_putHead 4 none 88 (i_aload 89 0) := snd_aload_n rfl dX12_putHead_88
theorem sX12_putHead_89 : Snd (miT Tb) RX12 cX12_putHead 4 none 89 (i_iload 90 2) := snd_iload_n rfl dX12_putHead_89
theorem sX12_putHead_90 : Snd (miT Tb) RX12 cX12_putHead 4 none 90 (i_const 91 (vI 3)) := snd_iconst dX12_putHead_90
theorem sX12_putHead_91 : Snd (miT Tb) RX12 cX12_putHead 4 none 91 (i_isub 92) := snd_isub dX12_putHead_91
theorem sX12_putHead_92 : Snd (miT Tb) RX12 cX12_putHead 4 none 92 (i_const 93 (vI 2)) := snd_iconst dX12_putHead_92
theorem sX12_putHead_93 : Snd (miT Tb) RX12 cX12_putHead 4 none 93 (i_cV2 50 11 96) := snd_cV2 (fun hK hd hC ho hs h6 h7 h8 kk => iv_X12_320 hK (mc_50 hC) ho hs ⟨hd, by show _ ≤ 40 * (_ + 1); omega⟩ (Nat.le_refl _) h6 h7 h8 ⟨Nat.le_refl _, Nat.le_refl _⟩ dX12_putHead_93 kk)
theorem sX12_putHead_96 : Snd (miT Tb) RX12 cX12_putHead 4 none 96 (i_goto 115) := snd_goto dX12_putHead_96 rfl
theorem sX12_putHead_99 : Snd (miT Tb) RX12 cX12_putHead 4 none 99 (i_aload 100 0) := snd_aload_n rfl dX12_putHead_99
theorem sX12_putHead_100 : Snd (miT Tb) RX12 cX12_putHead 4 none 100 (i_const 102 (vI 15)) := snd_bipush (by decide) dX12_putHead_100
theorem sX12_putHead_102 : Snd (miT Tb) RX12 cX12_putHead 4 none 102 (i_const 103 (vI 4)) := snd_iconst dX12_putHead_102
theorem sX12_putHead_103 : Snd (miT Tb) RX12 cX12_putHead 4 none 103 (i_cV2 50 11 106) := snd_cV2 (fun hK hd hC ho hs h6 h7 h8 kk => iv_X12_320 hK (mc_50 hC) ho hs ⟨hd, by show _ ≤ 40 * (_ + 1); omega⟩ (Nat.le_refl _) h6 h7 h8 ⟨Nat.le_refl _, Nat.le_refl _⟩ dX12_putHead_103 kk)
theorem sX12_putHead_106 : Snd (miT Tb) RX12 cX12_putHead 4 none 106 (i_aload 107 0) := snd_aload_n rfl dX12_putHead_106
theorem sX12_putHead_107 : Snd (miT Tb) RX12 cX12_putHead 4 none 107 (i_iload 108 2) := snd_iload_n rfl dX12_putHead_107
theorem sX12_putHead_108 : Snd (miT Tb) RX12 cX12_putHead 4 none 108 (i_const 110 (vI 6)) := snd_bipush (by decide) dX12_putHead_108
theorem sX12_putHead_110 : Snd (miT Tb) RX12 cX12_putHead 4 none 110 (i_isub 111) := snd_isub dX12_putHead_110
theorem sX12_putHead_111 : Snd (miT Tb) RX12 cX12_putHead 4 none 111 (i_const 112 (vI 5)) := snd_iconst dX12_putHead_111
theorem sX12_putHead_112 : Snd (miT Tb) RX12 cX12_putHead 4 none 112 (i_cV2 50 11 115) := snd_cV2 (fun hK hd hC ho hs h6 h7 h8 kk => iv_X12_320 hK (mc_50 hC) ho hs ⟨hd, by show _ ≤ 40 * (_ + 1); omega⟩ (Nat.le_refl _) h6 h7 h8 ⟨Nat.le_refl _, Nat.le_refl _⟩ dX12_putHead_112 kk)
theorem sX12_putHead_115 : Snd (miT Tb) RX12 cX12_putHead 4 none 115 (i_aload 116 0) := snd_aload_n rfl dX12_putHead_115
theorem sX12_putHead_116 : Snd (miT Tb) RX12 cX12_putHead 4 none 116 (i_getR 11 22 119) := snd_getR rfl (by decide) (by decide) (by decide) (fun hK ho hs hq kk => gf_X12_72 hK ho hs hq rfl dX12_putHead_116 kk)
theorem sX12_putHead_119 : Snd (miT Tb) RX12 cX12_putHead 4 none 119 (i_const 121 (vI 35)) := snd_bipush (by decide) dX12_putHead_119
theorem sX12_putHead_121 : Snd (miT Tb) RX12 cX12_putHead 4 none 121 (i_iload 122 1) := snd_iload_n rfl dX12_putHead_121
theorem sX12_putHead_122 : Snd (miT Tb) RX12 cX12_putHead 4 none 122 (i_imul 123) := snd_imul dX12_putHead_122
theorem sX12_putHead_123 : Snd (miT Tb) RX12 cX12_putHead 4 none 123 (i_aload 124 0) := snd_aload_n rfl dX12_putHead_123
theorem sX12_putHead_124 : Snd (miT Tb) RX12 cX12_putHead 4 none 124 (i_getR 11 15 127) := snd_getR rfl (by decide) (by decide) (by decide) (fun hK ho hs hq kk => gf_X12_54 hK ho hs hq rfl dX12_putHead_124 kk)
theorem sX12_putHead_127 : Snd (miT Tb) RX12 cX12_putHead 4 none 127 (i_iload 128 1) := snd_iload_n rfl dX12_putHead_127
theorem sX12_putHead_128 : Snd (miT Tb) RX12 cX12_putHead 4 none 128 (i_iald 129) := snd_iald dX12_putHead_128
theorem sX12_putHead_129 : Snd (miT Tb) RX12 cX12_putHead 4 none 129 (i_iadd 130) := snd_iadd dX12_putHead_129
theorem sX12_putHead_130 : Snd (miT Tb) RX12 cX12_putHead 4 none 130 (i_iald 131) := snd_iald dX12_putHead_130
theorem sX12_putHead_131 : Snd (miT Tb) RX12 cX12_putHead 4 none 131 (i_aload 132 0) := snd_aload_n rfl dX12_putHead_131
theorem sX12_putHead_132 : Snd (miT Tb) RX12 cX12_putHead 4 none 132 (i_getR 11 22 135) := snd_getR rfl (by decide) (by decide) (by decide) (fun hK ho hs hq kk => gf_X12_72 hK ho hs hq rfl dX12_putHead_132 kk)
theorem sX12_putHead_135 : Snd (miT Tb) RX12 cX12_putHead 4 none 135 (i_const 137 (vI 35)) := snd_bipush (by decide) dX12_putHead_135
theorem sX12_putHead_137 : Snd (miT Tb) RX12 cX12_putHead 4 none 137 (i_iload 138 1) := snd_iload_n rfl dX12_putHead_137
theorem sX12_putHead_138 : Snd (miT Tb) RX12 cX12_putHead 4 none 138 (i_imul 139) := snd_imul dX12_putHead_138
theorem sX12_putHead_139 : Snd (miT Tb) RX12 cX12_putHead 4 none 139 (i_aload 140 0) := snd_aload_n rfl dX12_putHead_139
theorem sX12_putHead_140 : Snd (miT Tb) RX12 cX12_putHead 4 none 140 (i_getR 11 16 143) := snd_getR rfl (by decide) (by decide) (by decide) (fun hK ho hs hq kk => gf_X12_57 hK ho hs hq rfl dX12_putHead_140 kk)
theorem sX12_putHead_143 : Snd (miT Tb) RX12 cX12_putHead 4 none 143 (i_iload 144 1) := snd_iload_n rfl dX12_putHead_143
theorem sX12_putHead_144 : Snd (miT Tb) RX12 cX12_putHead 4 none 144 (i_iald 145) := snd_iald dX12_putHead_144
theorem sX12_putHead_145 : Snd (miT Tb) RX12 cX12_putHead 4 none 145 (i_iadd 146) := snd_iadd dX12_putHead_145
theorem sX12_putHead_146 : Snd (miT Tb) RX12 cX12_putHead 4 none 146 (i_iald 147) := snd_iald dX12_putHead_146
theorem sX12_putHead_147 : Snd (miT Tb) RX12 cX12_putHead 4 none 147 (i_isub 148) := snd_isub dX12_putHead_147
theorem sX12_putHead_148 : Snd (miT Tb) RX12 cX12_putHead 4 none 148 (i_istore 149 3) := snd_istore_n rfl (by decide) dX12_putHead_148
theorem sX12_putHead_149 : Snd (miT Tb) RX12 cX12_putHead 4 none 149 (i_iload 150 3) := snd_iload_n rfl dX12_putHead_149
theorem sX12_putHead_150 : Snd (miT Tb) RX12 cX12_putHead 4 none 150 (i_const 151 (vI 1)) := snd_iconst dX12_putHead_150
theorem sX12_putHead_151 : Snd (miT Tb) RX12 cX12_putHead 4 none 151 (i_aload 152 0) := snd_aload_n rfl dX12_putHead_151
theorem sX12_putHead_152 : Snd (miT Tb) RX12 cX12_putHead 4 none 152 (i_getR 11 17 155) := snd_getR rfl (by decide) (by decide) (by decide) (fun hK ho hs hq kk => gf_X12_60 hK ho hs hq rfl dX12_putHead_152 kk)
theorem sX12_putHead_155 : Snd (miT Tb) RX12 cX12_putHead 4 none 155 (i_iload 156 1) := snd_iload_n rfl dX12_putHead_155
theorem sX12_putHead_156 : Snd (miT Tb) RX12 cX12_putHead 4 none 156 (i_iald 157) := snd_iald dX12_putHead_156
theorem sX12_putHead_157 : Snd (miT Tb) RX12 cX12_putHead 4 none 157 (i_iload 158 2) := snd_iload_n rfl dX12_putHead_157
theorem sX12_putHead_158 : Snd (miT Tb) RX12 cX12_putHead 4 none 158 (i_cS1 48 161) := snd_cS1 (fun hK hd hC h6 h7 h8 kk => iv_X12_323 hK (mc_48 hC) ⟨hd, by show _ ≤ 40 * (_ + 1); omega⟩ (Nat.le_refl _) h6 h7 h8 ⟨Nat.le_refl _, Nat.le_refl _⟩ dX12_putHead_158 kk)
theorem sX12_putHead_161 : Snd (miT Tb) RX12 cX12_putHead 4 none 161 (i_iadd 162) := snd_iadd dX12_putHead_161
theorem sX12_putHead_162 : Snd (miT Tb) RX12 cX12_putHead 4 none 162 (i_ishl 163) := snd_ishl dX12_putHead_162
theorem sX12_putHead_163 : Snd (miT Tb) RX12 cX12_putHead 4 none 163 (i_icmp_lt 166 185) := snd_icmp_lt dX12_putHead_163 rfl
theorem sX12_putHead_166 : Snd (miT Tb) RX12 cX12_putHead 4 none 166 (i_aload 167 0) := snd_aload_n rfl dX12_putHead_166
theorem sX12_putHead_167 : Snd (miT Tb) RX12 cX12_putHead 4 none 167 (i_const 168 (vI 1)) := snd_iconst dX12_putHead_167
theorem sX12_putHead_168 : Snd (miT Tb) RX12 cX12_putHead 4 none 168 (i_const 169 (vI 1)) := snd_iconst dX12_putHead_168
theorem sX12_putHead_169 : Snd (miT Tb) RX12 cX12_putHead 4 none 169 (i_cV2 50 11 172) := snd_cV2 (fun hK hd hC ho hs h6 h7 h8 kk => iv_X12_320 hK (mc_50 hC) ho hs ⟨hd, by show _ ≤ 40 * (_ + 1); omega⟩ (Nat.le_refl _) h6 h7 h8 ⟨Nat.le_refl _, Nat.le_refl _⟩ dX12_putHead_169 kk)
theorem sX12_putHead_172 : Snd (miT Tb) RX12 cX12_putHead 4 none 172 (i_aload 173 0) := snd_aload_n rfl dX12_putHead_172
theorem sX12_putHead_173 : Snd (miT Tb) RX12 cX12_putHead 4 none 173 (i_getR 11 17 176) := snd_getR rfl (by decide) (by decide) (by decide) (fun hK ho hs hq kk => gf_X12_60 hK ho hs hq rfl dX12_putHead_173 kk)
theorem sX12_putHead_176 : Snd (miT Tb) RX12 cX12_putHead 4 none 176 (i_iload 177 1) := snd_iload_n rfl dX12_putHead_176
theorem sX12_putHead_177 : Snd (miT Tb) RX12 cX12_putHead 4 none 177 (i_dup2 178) := snd_dup2 dX12_putHead_177
theorem sX12_putHead_178 : Snd (miT Tb) RX12 cX12_putHead 4 none 178 (i_iald 179) := snd_iald dX12_putHead_178
theorem sX12_putHead_179 : Snd (miT Tb) RX12 cX12_putHead 4 none 179 (i_const 180 (vI 1)) := snd_iconst dX12_putHead_179
theorem sX12_putHead_180 : Snd (miT Tb) RX12 cX12_putHead 4 none 180 (i_iadd 181) := snd_iadd dX12_putHead_180
theorem sX12_putHead_181 : Snd (miT Tb) RX12 cX12_putHead 4 none 181 (i_iast 182) := snd_iast dX12_putHead_181
theorem sX12_putHead_182 : Snd (miT Tb) RX12 cX12_putHead 4 none 182 (i_goto 149) := snd_goto dX12_putHead_182 rfl
theorem sX12_putHead_185 : Snd (miT Tb) RX12 cX12_putHead 4 none 185 (i_aload 186 0) := snd_aload_n rfl dX12_putHead_185
theorem sX12_putHead_186 : Snd (miT Tb) RX12 cX12_putHead 4 none 186 (i_const 187 (vI 0)) := snd_iconst dX12_putHead_186
theorem sX12_putHead_187 : Snd (miT Tb) RX12 cX12_putHead 4 none 187 (i_const 188 (vI 1)) := snd_iconst dX12_putHead_187
theorem sX12_putHead_188 : Snd (miT Tb) RX12 cX12_putHead 4 none 188 (i_cV2 50 11 191) := snd_cV2 (fun hK hd hC ho hs h6 h7 h8 kk => iv_X12_320 hK (mc_50 hC) ho hs ⟨hd, by show _ ≤ 40 * (_ + 1); omega⟩ (Nat.le_refl _) h6 h7 h8 ⟨Nat.le_refl _, Nat.le_refl _⟩ dX12_putHead_188 kk)
theorem sX12_putHead_191 : Snd (miT Tb) RX12 cX12_putHead 4 none 191 (i_aload 192 0) := snd_aload_n rfl dX12_putHead_191
theorem sX12_putHead_192 : Snd (miT Tb) RX12 cX12_putHead 4 none 192 (i_iload 193 3) := snd_iload_n rfl dX12_putHead_192
theorem sX12_putHead_193 : Snd (miT Tb) RX12 cX12_putHead 4 none 193 (i_aload 194 0) := snd_aload_n rfl dX12_putHead_193
theorem sX12_putHead_194 : Snd (miT Tb) RX12 cX12_putHead 4 none 194 (i_getR 11 17 197) := snd_getR rfl (by decide) (by decide) (by decide) (fun hK ho hs hq kk => gf_X12_60 hK ho hs hq rfl dX12_putHead_194 kk)
theorem sX12_putHead_197 : Snd (miT Tb) RX12 cX12_putHead 4 none 197 (i_iload 198 1) := snd_iload_n rfl dX12_putHead_197
theorem sX12_putHead_198 : Snd (miT Tb) RX12 cX12_putHead 4 none 198 (i_iald 199) := snd_iald dX12_putHead_198
theorem sX12_putHead_199 : Snd (miT Tb) RX12 cX12_putHead 4 none 199 (i_iload 200 2) := snd_iload_n rfl dX12_putHead_199
theorem sX12_putHead_200 : Snd (miT Tb) RX12 cX12_putHead 4 none 200 (i_cS1 48 203) := snd_cS1 (fun hK hd hC h6 h7 h8 kk => iv_X12_323 hK (mc_48 hC) ⟨hd, by show _ ≤ 40 * (_ + 1); omega⟩ (Nat.le_refl _) h6 h7 h8 ⟨Nat.le_refl _, Nat.le_refl _⟩ dX12_putHead_200 kk)
theorem sX12_putHead_203 : Snd (miT Tb) RX12 cX12_putHead 4 none 203 (i_iadd 204) := snd_iadd dX12_putHead_203
theorem sX12_putHead_204 : Snd (miT Tb) RX12 cX12_putHead 4 none 204 (i_cV2 50 11 207) := snd_cV2 (fun hK hd hC ho hs h6 h7 h8 kk => iv_X12_320 hK (mc_50 hC) ho hs ⟨hd, by show _ ≤ 40 * (_ + 1); omega⟩ (Nat.le_refl _) h6 h7 h8 ⟨Nat.le_refl _, Nat.le_refl _⟩ dX12_putHead_204 kk)
theorem sX12_putHead_207 : Snd (miT Tb) RX12 cX12_putHead 4 none 207 (i_vret) := snd_vret dX12_putHead_207
theorem kX12_putHead : raA (okI (miT Tb) (yX12_putHead, cX12_putHead, 4, none)) tX12_putHead := (raA_br (raA_br (raA_br (raA_br (raA_br (raA_br (raA_br (raA_leaf sX12_putHead_0) (raA_leaf sX12_putHead_1)) (raA_br (raA_leaf sX12_putHead_4) (raA_leaf sX12_putHead_5))) (raA_br (raA_br (raA_leaf sX12_putHead_6) (raA_leaf sX12_putHead_7)) (raA_br (raA_leaf sX12_putHead_10) (raA_leaf sX12_putHead_11)))) (raA_br (raA_br (raA_br (raA_leaf sX12_putHead_12) (raA_leaf sX12_putHead_13)) (raA_br (raA_leaf sX12_putHead_14) (raA_leaf sX12_putHead_15))) (raA_br (raA_br (raA_leaf sX12_putHead_16) (raA_leaf sX12_putHead_19)) (raA_br (raA_leaf sX12_putHead_20) (raA_leaf sX12_putHead_23))))) (raA_br (raA_br (raA_br (raA_br (raA_leaf sX12_putHead_24) (raA_leaf sX12_putHead_25)) (raA_br (raA_leaf sX12_putHead_28) (raA_leaf sX12_putHead_29))) (raA_br (raA_br (raA_leaf sX12_putHead_32) (raA_leaf sX12_putHead_33)) (raA_br (raA_leaf sX12_putHead_34) (raA_leaf sX12_putHead_37)))) (raA_br (raA_br (raA_br (raA_leaf sX12_putHead_38) (raA_leaf sX12_putHead_39)) (raA_br (raA_leaf sX12_putHead_42) (raA_leaf sX12_putHead_43))) (raA_br (raA_br (raA_leaf sX12_putHead_44) (raA_leaf sX12_putHead_47)) (raA_br (raA_leaf sX12_putHead_48) (raA_br (raA_leaf sX12_putHead_49) (raA_leaf sX12_putHead_50))))))) (raA_br (raA_br (raA_br (raA_br (raA_br (raA_leaf sX12_putHead_53) (raA_leaf sX12_putHead_54)) (raA_br (raA_leaf sX12_putHead_55) (raA_leaf sX12_putHead_58))) (raA_br (raA_br (raA_leaf sX12_putHead_59) (raA_leaf sX12_putHead_60)) (raA_br (raA_leaf sX12_putHead_61) (raA_leaf sX12_putHead_64)))) (raA_br (raA_br (raA_br (raA_leaf sX12_putHead_65) (raA_leaf sX12_putHead_68)) (raA_br (raA_leaf sX12_putHead_69) (raA_leaf sX12_putHead_70))) (raA_br (raA_br (raA_leaf sX12_putHead_73) (raA_leaf sX12_putHead_76)) (raA_br (raA_leaf sX12_putHead_77) (raA_leaf sX12_putHead_79))))) (raA_br (raA_br (raA_br (raA_br (raA_leaf sX12_putHead_82) (raA_leaf sX12_putHead_83)) (raA_br (raA_leaf sX12_putHead_84) (raA_leaf sX12_putHead_85))) (raA_br (raA_br (raA_leaf sX12_putHead_88) (raA_leaf sX12_putHead_89)) (raA_br (raA_leaf sX12_putHead_90) (raA_leaf sX12_putHead_91)))) (raA_br (raA_br (raA_br (raA_leaf sX12_putHead_92) (raA_leaf sX12_putHead_93)) (raA_br (raA_leaf sX12_putHead_96) (raA_leaf sX12_putHead_99))) (raA_br (raA_br (raA_leaf sX12_putHead_100) (raA_leaf sX12_putHead_102)) (raA_br (raA_leaf sX12_putHead_103) (raA_br (raA_leaf sX12_putHead_106) (raA_leaf sX12_putHead_107)))))))) (raA_br (raA_br (raA_br (raA_br (raA_br (raA_br (raA_leaf sX12_putHead_108) (raA_leaf sX12_putHead_110)) (raA_br (raA_leaf sX12_putHead_111) (raA_leaf sX12_putHead_112))) (raA_br (raA_br (raA_leaf sX12_putHead_115) (raA_leaf sX12_putHead_116)) (raA_br (raA_leaf sX12_putHead_119) (raA_leaf sX12_putHead_121)))) (raA_br (raA_br (raA_br (raA_leaf sX12_putHead_122) (raA_leaf sX12_putHead_123)) (raA_br (raA_leaf sX12_putHead_124) (raA_leaf sX12_putHead_127))) (raA_br (raA_br (raA_leaf sX12_putHead_128) (raA_leaf sX12_putHead_129)) (raA_br (raA_leaf sX12_putHead_130) (raA_leaf sX12_putHead_131))))) (raA_br (raA_br (raA_br (raA_br (raA_leaf sX12_putHead_132) (raA_leaf sX12_putHead_135)) (raA_br (raA_leaf sX12_putHead_137) (raA_leaf sX12_putHead_138))) (raA_br (raA_br (raA_leaf sX12_putHead_139) (raA_leaf sX12_putHead_140)) (raA_br (raA_leaf sX12_putHead_143) (raA_leaf sX12_putHead_144)))) (raA_br (raA_br (raA_br (raA_leaf sX12_putHead_145) (raA_leaf sX12_putHead_146)) (raA_br (raA_leaf sX12_putHead_147) (raA_leaf sX12_putHead_148))) (raA_br (raA_br (raA_leaf sX12_putHead_149) (raA_leaf sX12_putHead_150)) (raA_br (raA_leaf sX12_putHead_151) (raA_br (raA_leaf sX12_putHead_152) (raA_leaf sX12_putHead_155))))))) (raA_br (raA_br (raA_br (raA_br (raA_br (raA_leaf sX12_putHead_156) (raA_leaf sX12_putHead_157)) (raA_br (raA_leaf sX12_putHead_158) (raA_leaf sX12_putHead_161))) (raA_br (raA_br (raA_leaf sX12_putHead_162) (raA_leaf sX12_putHead_163)) (raA_br (raA_leaf sX12_putHead_166) (raA_leaf sX12_putHead_167)))) (raA_br (raA_br (raA_br (raA_leaf sX12_putHead_168) (raA_leaf sX12_putHead_169)) (raA_br (raA_leaf sX12_putHead_172) (raA_leaf sX12_putHead_173))) (raA_br (raA_br (raA_leaf sX12_putHead_176) (raA_leaf sX12_putHead_177)) (raA_br (raA_leaf sX12_putHead_178) (raA_br (raA_leaf sX12_putHead_179) (raA_leaf sX12_putHead_180)))))) (raA_br (raA_br (raA_br (raA_br (raA_leaf sX12_putHead_181) (raA_leaf sX12_putHead_182)) (raA_br (raA_leaf sX12_putHead_185) (raA_leaf sX12_putHead_186))) (raA_br (raA_br (raA_leaf sX12_putHead_187) (raA_leaf sX12_putHead_188)) (raA_br (raA_leaf sX12_putHead_191) (raA_leaf sX12_putHead_192)))) (raA_br (raA_br (raA_br (raA_leaf sX12_putHead_193) (raA_leaf sX12_putHead_194)) (raA_br (raA_leaf sX12_putHead_197) (raA_leaf sX12_putHead_198))) (raA_br (raA_br (raA_leaf sX12_putHead_199) (raA_leaf sX12_putHead_200)) (raA_br (raA_leaf sX12_putHead_203) (raA_br (raA_leaf sX12_putHead_204) (raA_leaf sX12_putHead_207)))))))))
theorem sX12_putOut_0 : Snd (miT Tb) RX12 cX12_putOut 4 none 0 (i_aload 1 0) := snd_aload_n rfl dX12_putOut_0
theorem sX12_putOut_1 : Snd (miT Tb) RX12 cX12_putOut 4 none 1 (i_getR 11 35 4) := snd_getR rfl (by decide) (by decide) (by decide) (fun hK ho hs hq kk => gf_X12_90 hK ho hs hq rfl dX12_putOut_1 kk)
theorem sX12_putOut_4 : Snd (miT Tb) RX12 cX12_putOut 4 none 4 (i_aload 5 0) := snd_aload_n rfl dX12_putOut_4
theorem sX12_putOut_5 : Snd (miT Tb) RX12 cX12_putOut 4 none 5 (i_getI 11 36 8) := snd_getI (fun hK ho hs hv kk => gf_X12_166 hK ho hs hv dX12_putOut_5 kk)
theorem sX12_putOut_8 : Snd (miT Tb) RX12 cX12_putOut 4 none 8 (i_const 9 (vI 1)) := snd_iconst dX12_putOut_8
theorem sX12_putOut_9 : Snd (miT Tb) RX12 cX12_putOut 4 none 9 (i_isub 10) := snd_isub dX12_putOut_9
theorem sX12_putOut_10 : Snd (miT Tb) RX12 cX12_putOut 4 none 10 (i_iald 11) := snd_iald dX12_putOut_10
theorem sX12_putOut_11 : Snd (miT Tb) RX12 cX12_putOut 4 none 11 (i_const 14 (vI 255)) := snd_sipush (by decide) dX12_putOut_11
theorem sX12_putOut_14 : Snd (miT Tb) RX12 cX12_putOut 4 none 14 (i_icmp_eq 17 79) := snd_icmp_eq dX12_putOut_14 rfl
theorem sX12_putOut_17 : Snd (miT Tb) RX12 cX12_putOut 4 none 17 (i_aload 18 0) := snd_aload_n rfl dX12_putOut_17
theorem sX12_putOut_18 : Snd (miT Tb) RX12 cX12_putOut 4 none 18 (i_getJ 11 33 21) := snd_getJ (fun hK ho hs hv kk => gf_X12_175 hK ho hs hv dX12_putOut_18 kk)
theorem sX12_putOut_21 : Snd (miT Tb) RX12 cX12_putOut 4 none 21 (i_const 24 (vJ 134217728)) := snd_ldc2 lc_X12_181 dX12_putOut_21
theorem sX12_putOut_24 : Snd (miT Tb) RX12 cX12_putOut 4 none 24 (i_lcmp 25) := snd_lcmp dX12_putOut_24
theorem sX12_putOut_25 : Snd (miT Tb) RX12 cX12_putOut 4 none 25 (i_if_lt 28 79) := snd_if_lt dX12_putOut_25 rfl
theorem sX12_putOut_28 : Snd (miT Tb) RX12 cX12_putOut 4 none 28 (i_aload 29 0) := snd_aload_n rfl dX12_putOut_28
theorem sX12_putOut_29 : Snd (miT Tb) RX12 cX12_putOut 4 none 29 (i_getR 11 35 32) := snd_getR rfl (by decide) (by decide) (by decide) (fun hK ho hs hq kk => gf_X12_90 hK ho hs hq rfl dX12_putOut_29 kk)
theorem sX12_putOut_32 : Snd (miT Tb) RX12 cX12_putOut 4 none 32 (i_aload 33 0) := snd_aload_n rfl dX12_putOut_32
theorem sX12_putOut_33 : Snd (miT Tb) RX12 cX12_putOut 4 none 33 (i_getI 11 36 36) := snd_getI (fun hK ho hs hv kk => gf_X12_166 hK ho hs hv dX12_putOut_33 kk)
theorem sX12_putOut_36 : Snd (miT Tb) RX12 cX12_putOut 4 none 36 (i_const 37 (vI 1)) := snd_iconst dX12_putOut_36
theorem sX12_putOut_37 : Snd (miT Tb) RX12 cX12_putOut 4 none 37 (i_isub 38) := snd_isub dX12_putOut_37
theorem sX12_putOut_38 : Snd (miT Tb) RX12 cX12_putOut 4 none 38 (i_dup2 39) := snd_dup2 dX12_putOut_38
theorem sX12_putOut_39 : Snd (miT Tb) RX12 cX12_putOut 4 none 39 (i_iald 40) := snd_iald dX12_putOut_39
theorem sX12_putOut_40 : Snd (miT Tb) RX12 cX12_putOut 4 none 40 (i_const 41 (vI 1)) := snd_iconst dX12_putOut_40
theorem sX12_putOut_41 : Snd (miT Tb) RX12 cX12_putOut 4 none 41 (i_iadd 42) := snd_iadd dX12_putOut_41
theorem sX12_putOut_42 : Snd (miT Tb) RX12 cX12_putOut 4 none 42 (i_iast 43) := snd_iast dX12_putOut_42
theorem sX12_putOut_43 : Snd (miT Tb) RX12 cX12_putOut 4 none 43 (i_aload 44 0) := snd_aload_n rfl dX12_putOut_43
theorem sX12_putOut_44 : Snd (miT Tb) RX12 cX12_putOut 4 none 44 (i_aload 45 0) := snd_aload_n rfl dX12_putOut_44
theorem sX12_putOut_45 : Snd (miT Tb) RX12 cX12_putOut 4 none 45 (i_getR 11 35 48) := snd_getR rfl (by decide) (by decide) (by decide) (fun hK ho hs hq kk => gf_X12_90 hK ho hs hq rfl dX12_putOut_45 kk)
theorem sX12_putOut_48 : Snd (miT Tb) RX12 cX12_putOut 4 none 48 (i_aload 49 0) := snd_aload_n rfl dX12_putOut_48
theorem sX12_putOut_49 : Snd (miT Tb) RX12 cX12_putOut 4 none 49 (i_getI 11 36 52) := snd_getI (fun hK ho hs hv kk => gf_X12_166 hK ho hs hv dX12_putOut_49 kk)
theorem sX12_putOut_52 : Snd (miT Tb) RX12 cX12_putOut 4 none 52 (i_const 53 (vI 1)) := snd_iconst dX12_putOut_52
theorem sX12_putOut_53 : Snd (miT Tb) RX12 cX12_putOut 4 none 53 (i_isub 54) := snd_isub dX12_putOut_53
theorem sX12_putOut_54 : Snd (miT Tb) RX12 cX12_putOut 4 none 54 (i_iald 55) := snd_iald dX12_putOut_54
theorem sX12_putOut_55 : Snd (miT Tb) RX12 cX12_putOut 4 none 55 (i_const 58 (vI 255)) := snd_sipush (by decide) dX12_putOut_55
theorem sX12_putOut_58 : Snd (miT Tb) RX12 cX12_putOut 4 none 58 (i_icmp_ne 61 72) := snd_icmp_ne dX12_putOut_58 rfl
theorem sX12_putOut_61 : Snd (miT Tb) RX12 cX12_putOut 4 none 61 (i_aload 62 0) := snd_aload_n rfl dX12_putOut_61
theorem sX12_putOut_62 : Snd (miT Tb) RX12 cX12_putOut 4 none 62 (i_getJ 11 33 65) := snd_getJ (fun hK ho hs hv kk => gf_X12_175 hK ho hs hv dX12_putOut_62 kk)
theorem sX12_putOut_65 : Snd (miT Tb) RX12 cX12_putOut 4 none 65 (i_const 68 (vJ 134217728)) := snd_ldc2 lc_X12_181 dX12_putOut_65
theorem sX12_putOut_68 : Snd (miT Tb) RX12 cX12_putOut 4 none 68 (i_lsub 69) := snd_lsub dX12_putOut_68
theorem sX12_putOut_69 : Snd (miT Tb) RX12 cX12_putOut 4 none 69 (i_goto 76) := snd_goto dX12_putOut_69 rfl
theorem sX12_putOut_72 : Snd (miT Tb) RX12 cX12_putOut 4 none 72 (i_aload 73 0) := snd_aload_n rfl dX12_putOut_72
theorem sX12_putOut_73 : Snd (miT Tb) RX12 cX12_putOut 4 none 73 (i_getJ 11 33 76) := snd_getJ (fun hK ho hs hv kk => gf_X12_175 hK ho hs hv dX12_putOut_73 kk)
theorem sX12_putOut_76 : Snd (miT Tb) RX12 cX12_putOut 4 none 76 (i_putJ 11 33 79) := snd_putJ (fun hK ho hs kk => pf_X12_175 hK ho hs dX12_putOut_76 kk)
theorem sX12_putOut_79 : Snd (miT Tb) RX12 cX12_putOut 4 none 79 (i_aload 80 0) := snd_aload_n rfl dX12_putOut_79
theorem sX12_putOut_80 : Snd (miT Tb) RX12 cX12_putOut 4 none 80 (i_getR 11 35 83) := snd_getR rfl (by decide) (by decide) (by decide) (fun hK ho hs hq kk => gf_X12_90 hK ho hs hq rfl dX12_putOut_80 kk)
theorem sX12_putOut_83 : Snd (miT Tb) RX12 cX12_putOut 4 none 83 (i_aload 84 0) := snd_aload_n rfl dX12_putOut_83
theorem sX12_putOut_84 : Snd (miT Tb) RX12 cX12_putOut 4 none 84 (i_getI 11 36 87) := snd_getI (fun hK ho hs hv kk => gf_X12_166 hK ho hs hv dX12_putOut_84 kk)
theorem sX12_putOut_87 : Snd (miT Tb) RX12 cX12_putOut 4 none 87 (i_const 88 (vI 1)) := snd_iconst dX12_putOut_87
theorem sX12_putOut_88 : Snd (miT Tb) RX12 cX12_putOut 4 none 88 (i_isub 89) := snd_isub dX12_putOut_88
theorem sX12_putOut_89 : Snd (miT Tb) RX12 cX12_putOut 4 none 89 (i_iald 90) := snd_iald dX12_putOut_89
theorem sX12_putOut_90 : Snd (miT Tb) RX12 cX12_putOut 4 none 90 (i_const 93 (vI 255)) := snd_sipush (by decide) dX12_putOut_90
theorem sX12_putOut_93 : Snd (miT Tb) RX12 cX12_putOut 4 none 93 (i_icmp_ne 96 100) := snd_icmp_ne dX12_putOut_93 rfl
theorem sX12_putOut_96 : Snd (miT Tb) RX12 cX12_putOut 4 none 96 (i_const 97 (vI 1)) := snd_iconst dX12_putOut_96
theorem sX12_putOut_97 : Snd (miT Tb) RX12 cX12_putOut 4 none 97 (i_goto 101) := snd_goto dX12_putOut_97 rfl
theorem sX12_putOut_100 : Snd (miT Tb) RX12 cX12_putOut 4 none 100 (i_const 101 (vI 0)) := snd_iconst dX12_putOut_100
theorem sX12_putOut_101 : Snd (miT Tb) RX12 cX12_putOut 4 none 101 (i_istore 102 1) := snd_istore_n rfl (by decide) dX12_putOut_101
theorem sX12_putOut_102 : Snd (miT Tb) RX12 cX12_putOut 4 none 102 (i_iload 103 1) := snd_iload_n rfl dX12_putOut_102
theorem sX12_putOut_103 : Snd (miT Tb) RX12 cX12_putOut 4 none 103 (i_if_eq 106 112) := snd_if_eq dX12_putOut_103 rfl
theorem sX12_putOut_106 : Snd (miT Tb) RX12 cX12_putOut 4 none 106 (i_const 109 (vJ 1048576)) := snd_ldc2 lc_X12_183 dX12_putOut_106
theorem sX12_putOut_109 : Snd (miT Tb) RX12 cX12_putOut 4 none 109 (i_goto 115) := snd_goto dX12_putOut_109 rfl
theorem sX12_putOut_112 : Snd (miT Tb) RX12 cX12_putOut 4 none 112 (i_const 115 (vJ 524288)) := snd_ldc2 lc_X12_185 dX12_putOut_112
theorem sX12_putOut_115 : Snd (miT Tb) RX12 cX12_putOut 4 none 115 (i_lstore 116 2) := snd_lstore_n rfl (by decide) dX12_putOut_115
theorem sX12_putOut_116 : Snd (miT Tb) RX12 cX12_putOut 4 none 116 (i_aload 117 0) := snd_aload_n rfl dX12_putOut_116
theorem sX12_putOut_117 : Snd (miT Tb) RX12 cX12_putOut 4 none 117 (i_getR 11 35 120) := snd_getR rfl (by decide) (by decide) (by decide) (fun hK ho hs hq kk => gf_X12_90 hK ho hs hq rfl dX12_putOut_117 kk)
theorem sX12_putOut_120 : Snd (miT Tb) RX12 cX12_putOut 4 none 120 (i_aload 121 0) := snd_aload_n rfl dX12_putOut_120
theorem sX12_putOut_121 : Snd (miT Tb) RX12 cX12_putOut 4 none 121 (i_getI 11 36 124) := snd_getI (fun hK ho hs hv kk => gf_X12_166 hK ho hs hv dX12_putOut_121 kk)
theorem sX12_putOut_124 : Snd (miT Tb) RX12 cX12_putOut 4 none 124 (i_aload 125 0) := snd_aload_n rfl dX12_putOut_124
theorem sX12_putOut_125 : Snd (miT Tb) RX12 cX12_putOut 4 none 125 (i_getJ 11 33 128) := snd_getJ (fun hK ho hs hv kk => gf_X12_175 hK ho hs hv dX12_putOut_125 kk)
theorem sX12_putOut_128 : Snd (miT Tb) RX12 cX12_putOut 4 none 128 (i_lload 129 2) := snd_lload_n rfl dX12_putOut_128
theorem sX12_putOut_129 : Snd (miT Tb) RX12 cX12_putOut 4 none 129 (i_ldiv 130) := snd_ldiv dX12_putOut_129
theorem sX12_putOut_130 : Snd (miT Tb) RX12 cX12_putOut 4 none 130 (i_const 133 (vJ 256)) := snd_ldc2 lc_X12_187 dX12_putOut_130
theorem sX12_putOut_133 : Snd (miT Tb) RX12 cX12_putOut 4 none 133 (i_lrem 134) := snd_lrem dX12_putOut_133
theorem sX12_putOut_134 : Snd (miT Tb) RX12 cX12_putOut 4 none 134 (i_l2i 135) := snd_l2i dX12_putOut_134
theorem sX12_putOut_135 : Snd (miT Tb) RX12 cX12_putOut 4 none 135 (i_iast 136) := snd_iast dX12_putOut_135
theorem sX12_putOut_136 : Snd (miT Tb) RX12 cX12_putOut 4 none 136 (i_aload 137 0) := snd_aload_n rfl dX12_putOut_136
theorem sX12_putOut_137 : Snd (miT Tb) RX12 cX12_putOut 4 none 137 (i_dup 138) := snd_dup dX12_putOut_137
theorem sX12_putOut_138 : Snd (miT Tb) RX12 cX12_putOut 4 none 138 (i_getI 11 36 141) := snd_getI (fun hK ho hs hv kk => gf_X12_166 hK ho hs hv dX12_putOut_138 kk)
theorem sX12_putOut_141 : Snd (miT Tb) RX12 cX12_putOut 4 none 141 (i_const 142 (vI 1)) := snd_iconst dX12_putOut_141
theorem sX12_putOut_142 : Snd (miT Tb) RX12 cX12_putOut 4 none 142 (i_iadd 143) := snd_iadd dX12_putOut_142
theorem sX12_putOut_143 : Snd (miT Tb) RX12 cX12_putOut 4 none 143 (i_putI 11 36 146) := snd_putI (fun hK ho hs kk => pf_X12_166 hK ho hs dX12_putOut_143 kk)
theorem sX12_putOut_146 : Snd (miT Tb) RX12 cX12_putOut 4 none 146 (i_aload 147 0) := snd_aload_n rfl dX12_putOut_146
theorem sX12_putOut_147 : Snd (miT Tb) RX12 cX12_putOut 4 none 147 (i_aload 148 0) := snd_aload_n rfl dX12_putOut_147
theorem sX12_putOut_148 : Snd (miT Tb) RX12 cX12_putOut 4 none 148 (i_getJ 11 33 151) := snd_getJ (fun hK ho hs hv kk => gf_X12_175 hK ho hs hv dX12_putOut_148 kk)
theorem sX12_putOut_151 : Snd (miT Tb) RX12 cX12_putOut 4 none 151 (i_lload 152 2) := snd_lload_n rfl dX12_putOut_151
theorem sX12_putOut_152 : Snd (miT Tb) RX12 cX12_putOut 4 none 152 (i_lrem 153) := snd_lrem dX12_putOut_152
theorem sX12_putOut_153 : Snd (miT Tb) RX12 cX12_putOut 4 none 153 (i_putJ 11 33 156) := snd_putJ (fun hK ho hs kk => pf_X12_175 hK ho hs dX12_putOut_153 kk)
theorem sX12_putOut_156 : Snd (miT Tb) RX12 cX12_putOut 4 none 156 (i_aload 157 0) := snd_aload_n rfl dX12_putOut_156
theorem sX12_putOut_157 : Snd (miT Tb) RX12 cX12_putOut 4 none 157 (i_iload 158 1) := snd_iload_n rfl dX12_putOut_157
theorem sX12_putOut_158 : Snd (miT Tb) RX12 cX12_putOut 4 none 158 (i_if_eq 161 166) := snd_if_eq dX12_putOut_158 rfl
theorem sX12_putOut_161 : Snd (miT Tb) RX12 cX12_putOut 4 none 161 (i_const 163 (vI 7)) := snd_bipush (by decide) dX12_putOut_161
theorem sX12_putOut_163 : Snd (miT Tb) RX12 cX12_putOut 4 none 163 (i_goto 168) := snd_goto dX12_putOut_163 rfl
theorem sX12_putOut_166 : Snd (miT Tb) RX12 cX12_putOut 4 none 166 (i_const 168 (vI 8)) := snd_bipush (by decide) dX12_putOut_166
theorem sX12_putOut_168 : Snd (miT Tb) RX12 cX12_putOut 4 none 168 (i_putI 11 34 171) := snd_putI (fun hK ho hs kk => pf_X12_178 hK ho hs dX12_putOut_168 kk)
theorem sX12_putOut_171 : Snd (miT Tb) RX12 cX12_putOut 4 none 171 (i_vret) := snd_vret dX12_putOut_171
theorem kX12_putOut : raA (okI (miT Tb) (yX12_putOut, cX12_putOut, 4, none)) tX12_putOut := (raA_br (raA_br (raA_br (raA_br (raA_br (raA_br (raA_leaf sX12_putOut_0) (raA_leaf sX12_putOut_1)) (raA_br (raA_leaf sX12_putOut_4) (raA_br (raA_leaf sX12_putOut_5) (raA_leaf sX12_putOut_8)))) (raA_br (raA_br (raA_leaf sX12_putOut_9) (raA_br (raA_leaf sX12_putOut_10) (raA_leaf sX12_putOut_11))) (raA_br (raA_leaf sX12_putOut_14) (raA_br (raA_leaf sX12_putOut_17) (raA_leaf sX12_putOut_18))))) (raA_br (raA_br (raA_br (raA_leaf sX12_putOut_21) (raA_br (raA_leaf sX12_putOut_24) (raA_leaf sX12_putOut_25))) (raA_br (raA_leaf sX12_putOut_28) (raA_br (raA_leaf sX12_putOut_29) (raA_leaf sX12_putOut_32)))) (raA_br (raA_br (raA_leaf sX12_putOut_33) (raA_br (raA_leaf sX12_putOut_36) (raA_leaf sX12_putOut_37))) (raA_br (raA_leaf sX12_putOut_38) (raA_br (raA_leaf sX12_putOut_39) (raA_leaf sX12_putOut_40)))))) (raA_br (raA_br (raA_br (raA_br (raA_leaf sX12_putOut_41) (raA_br (raA_leaf sX12_putOut_42) (raA_leaf sX12_putOut_43))) (raA_br (raA_leaf sX12_putOut_44) (raA_br (raA_leaf sX12_putOut_45) (raA_leaf sX12_putOut_48)))) (raA_br (raA_br (raA_leaf sX12_putOut_49) (raA_br (raA_leaf sX12_putOut_52) (raA_leaf sX12_putOut_53))) (raA_br (raA_leaf sX12_putOut_54) (raA_br (raA_leaf sX12_putOut_55) (raA_leaf sX12_putOut_58))))) (raA_br (raA_br (raA_br (raA_leaf sX12_putOut_61) (raA_br (raA_leaf sX12_putOut_62) (raA_leaf sX12_putOut_65))) (raA_br (raA_leaf sX12_putOut_68) (raA_br (raA_leaf sX12_putOut_69) (raA_leaf sX12_putOut_72)))) (raA_br (raA_br (raA_leaf sX12_putOut_73) (raA_br (raA_leaf sX12_putOut_76) (raA_leaf sX12_putOut_79))) (raA_br (raA_leaf sX12_putOut_80) (raA_br (raA_leaf sX12_putOut_83) (raA_leaf sX12_putOut_84))))))) (raA_br (raA_br (raA_br (raA_br (raA_br (raA_leaf sX12_putOut_87) (raA_leaf sX12_putOut_88)) (raA_br (raA_leaf sX12_putOut_89) (raA_br (raA_leaf sX12_putOut_90) (raA_leaf sX12_putOut_93)))) (raA_br (raA_br (raA_leaf sX12_putOut_96) (raA_br (raA_leaf sX12_putOut_97) (raA_leaf sX12_putOut_100))) (raA_br (raA_leaf sX12_putOut_101) (raA_br (raA_leaf sX12_putOut_102) (raA_leaf sX12_putOut_103))))) (raA_br (raA_br (raA_br (raA_leaf sX12_putOut_106) (raA_br (raA_leaf sX12_putOut_109) (raA_leaf sX12_putOut_112))) (raA_br (raA_leaf sX12_putOut_115) (raA_br (raA_leaf sX12_putOut_116) (raA_leaf sX12_putOut_117)))) (raA_br (raA_br (raA_leaf sX12_putOut_120) (raA_br (raA_leaf sX12_putOut_121) (raA_leaf sX12_putOut_124))) (raA_br (raA_leaf sX12_putOut_125) (raA_br (raA_leaf sX12_putOut_128) (raA_leaf sX12_putOut_129)))))) (raA_br (raA_br (raA_br (raA_br (raA_leaf sX12_putOut_130) (raA_br (raA_leaf sX12_putOut_133) (raA_leaf sX12_putOut_134))) (raA_br (raA_leaf sX12_putOut_135) (raA_br (raA_leaf sX12_putOut_136) (raA_leaf sX12_putOut_137)))) (raA_br (raA_br (raA_leaf sX12_putOut_138) (raA_br (raA_leaf sX12_putOut_141) (raA_leaf sX12_putOut_142))) (raA_br (raA_leaf sX12_putOut_143) (raA_br (raA_leaf sX12_putOut_146) (raA_leaf sX12_putOut_147))))) (raA_br (raA_br (raA_br (raA_leaf sX12_putOut_148) (raA_br (raA_leaf sX12_putOut_151) (raA_leaf sX12_putOut_152))) (raA_br (raA_leaf sX12_putOut_153) (raA_br (raA_leaf sX12_putOut_156) (raA_leaf sX12_putOut_157)))) (raA_br (raA_br (raA_leaf sX12_putOut_158) (raA_br (raA_leaf sX12_putOut_161) (raA_leaf sX12_putOut_163))) (raA_br (raA_leaf sX12_putOut_166) (raA_br (raA_leaf sX12_putOut_168) (raA_leaf sX12_putOut_171))))))))
theorem sX12_putPacket_0 : Snd (miT Tb) RX12 cX12_putPacket 7 none 0 (i_const 1 (vI 0)) := snd_iconst dX12_putPacket_0
theorem sX12_putPacket_1 : Snd (miT Tb) RX12 cX12_putPacket 7 none 1 (i_istore 3 4) := snd_istore (by decide) dX12_putPacket_1
theorem sX12_putPacket_3 : Snd (miT Tb) RX12 cX12_putPacket 7 none 3 (i_iload 4 1) := snd_iload_n rfl dX12_putPacket_3
theorem sX12_putPacket_4 : Snd (miT Tb) RX12 cX12_putPacket 7 none 4 (i_cS1 37 7) := snd_cS1 (fun hK hd hC h6 h7 h8 kk => iv_X12_326 hK (mc_37 hC) ⟨hd, by show _ ≤ 40 * (_ + 1); omega⟩ (Nat.le_refl _) h6 h7 h8 ⟨Nat.le_refl _, Nat.le_refl _⟩ dX12_putPacket_4 kk)
theorem sX12_putPacket_7 : Snd (miT Tb) RX12 cX12_putPacket 7 none 7 (i_istore 9 5) := snd_istore (by decide) dX12_putPacket_7
theorem sX12_putPacket_9 : Snd (miT Tb) RX12 cX12_putPacket 7 none 9 (i_iload 11 5) := snd_iload dX12_putPacket_9
theorem sX12_putPacket_11 : Snd (miT Tb) RX12 cX12_putPacket 7 none 11 (i_const 12 (vI 3)) := snd_iconst dX12_putPacket_11
theorem sX12_putPacket_12 : Snd (miT Tb) RX12 cX12_putPacket 7 none 12 (i_iload 13 1) := snd_iload_n rfl dX12_putPacket_12
theorem sX12_putPacket_13 : Snd (miT Tb) RX12 cX12_putPacket 7 none 13 (i_imul 14) := snd_imul dX12_putPacket_13
theorem sX12_putPacket_14 : Snd (miT Tb) RX12 cX12_putPacket 7 none 14 (i_icmp_gt 17 83) := snd_icmp_gt dX12_putPacket_14 rfl
theorem sX12_putPacket_17 : Snd (miT Tb) RX12 cX12_putPacket 7 none 17 (i_aload 18 0) := snd_aload_n rfl dX12_putPacket_17
theorem sX12_putPacket_18 : Snd (miT Tb) RX12 cX12_putPacket 7 none 18 (i_getR 11 16 21) := snd_getR rfl (by decide) (by decide) (by decide) (fun hK ho hs hq kk => gf_X12_57 hK ho hs hq rfl dX12_putPacket_18 kk)
theorem sX12_putPacket_21 : Snd (miT Tb) RX12 cX12_putPacket 7 none 21 (i_iload 23 5) := snd_iload dX12_putPacket_21
theorem sX12_putPacket_23 : Snd (miT Tb) RX12 cX12_putPacket 7 none 23 (i_aload 24 0) := snd_aload_n rfl dX12_putPacket_23
theorem sX12_putPacket_24 : Snd (miT Tb) RX12 cX12_putPacket 7 none 24 (i_getR 11 15 27) := snd_getR rfl (by decide) (by decide) (by decide) (fun hK ho hs hq kk => gf_X12_54 hK ho hs hq rfl dX12_putPacket_24 kk)
theorem sX12_putPacket_27 : Snd (miT Tb) RX12 cX12_putPacket 7 none 27 (i_iload 29 5) := snd_iload dX12_putPacket_27
theorem sX12_putPacket_29 : Snd (miT Tb) RX12 cX12_putPacket 7 none 29 (i_iald 30) := snd_iald dX12_putPacket_29
theorem sX12_putPacket_30 : Snd (miT Tb) RX12 cX12_putPacket 7 none 30 (i_iast 31) := snd_iast dX12_putPacket_30
theorem sX12_putPacket_31 : Snd (miT Tb) RX12 cX12_putPacket 7 none 31 (i_aload 32 0) := snd_aload_n rfl dX12_putPacket_31
theorem sX12_putPacket_32 : Snd (miT Tb) RX12 cX12_putPacket 7 none 32 (i_getR 11 15 35) := snd_getR rfl (by decide) (by decide) (by decide) (fun hK ho hs hq kk => gf_X12_54 hK ho hs hq rfl dX12_putPacket_32 kk)
theorem sX12_putPacket_35 : Snd (miT Tb) RX12 cX12_putPacket 7 none 35 (i_iload 37 5) := snd_iload dX12_putPacket_35
theorem sX12_putPacket_37 : Snd (miT Tb) RX12 cX12_putPacket 7 none 37 (i_aload 38 0) := snd_aload_n rfl dX12_putPacket_37
theorem sX12_putPacket_38 : Snd (miT Tb) RX12 cX12_putPacket 7 none 38 (i_iload 40 5) := snd_iload dX12_putPacket_38
theorem sX12_putPacket_40 : Snd (miT Tb) RX12 cX12_putPacket 7 none 40 (i_cV1 49 11 43) := snd_cV1 (fun hK hd hC ho hs h6 h7 h8 kk => iv_X12_296 hK (mc_49 hC) ho hs ⟨hd, by show _ ≤ 40 * (_ + 1); omega⟩ (Nat.le_refl _) h6 h7 h8 ⟨Nat.le_refl _, Nat.le_refl _⟩ dX12_putPacket_40 kk)
theorem sX12_putPacket_43 : Snd (miT Tb) RX12 cX12_putPacket 7 none 43 (i_iload 44 2) := snd_iload_n rfl dX12_putPacket_43
theorem sX12_putPacket_44 : Snd (miT Tb) RX12 cX12_putPacket 7 none 44 (i_imul 45) := snd_imul dX12_putPacket_44
theorem sX12_putPacket_45 : Snd (miT Tb) RX12 cX12_putPacket 7 none 45 (i_iload 46 3) := snd_iload_n rfl dX12_putPacket_45
theorem sX12_putPacket_46 : Snd (miT Tb) RX12 cX12_putPacket 7 none 46 (i_idiv 47) := snd_idiv dX12_putPacket_46
theorem sX12_putPacket_47 : Snd (miT Tb) RX12 cX12_putPacket 7 none 47 (i_iast 48) := snd_iast dX12_putPacket_47
theorem sX12_putPacket_48 : Snd (miT Tb) RX12 cX12_putPacket 7 none 48 (i_iload 50 4) := snd_iload dX12_putPacket_48
theorem sX12_putPacket_50 : Snd (miT Tb) RX12 cX12_putPacket 7 none 50 (i_if_ne 53 70) := snd_if_ne dX12_putPacket_50 rfl
theorem sX12_putPacket_53 : Snd (miT Tb) RX12 cX12_putPacket 7 none 53 (i_aload 54 0) := snd_aload_n rfl dX12_putPacket_53
theorem sX12_putPacket_54 : Snd (miT Tb) RX12 cX12_putPacket 7 none 54 (i_getR 11 15 57) := snd_getR rfl (by decide) (by decide) (by decide) (fun hK ho hs hq kk => gf_X12_54 hK ho hs hq rfl dX12_putPacket_54 kk)
theorem sX12_putPacket_57 : Snd (miT Tb) RX12 cX12_putPacket 7 none 57 (i_iload 59 5) := snd_iload dX12_putPacket_57
theorem sX12_putPacket_59 : Snd (miT Tb) RX12 cX12_putPacket 7 none 59 (i_iald 60) := snd_iald dX12_putPacket_59
theorem sX12_putPacket_60 : Snd (miT Tb) RX12 cX12_putPacket 7 none 60 (i_aload 61 0) := snd_aload_n rfl dX12_putPacket_60
theorem sX12_putPacket_61 : Snd (miT Tb) RX12 cX12_putPacket 7 none 61 (i_getR 11 16 64) := snd_getR rfl (by decide) (by decide) (by decide) (fun hK ho hs hq kk => gf_X12_57 hK ho hs hq rfl dX12_putPacket_61 kk)
theorem sX12_putPacket_64 : Snd (miT Tb) RX12 cX12_putPacket 7 none 64 (i_iload 66 5) := snd_iload dX12_putPacket_64
theorem sX12_putPacket_66 : Snd (miT Tb) RX12 cX12_putPacket 7 none 66 (i_iald 67) := snd_iald dX12_putPacket_66
theorem sX12_putPacket_67 : Snd (miT Tb) RX12 cX12_putPacket 7 none 67 (i_icmp_le 70 74) := snd_icmp_le dX12_putPacket_67 rfl
theorem sX12_putPacket_70 : Snd (miT Tb) RX12 cX12_putPacket 7 none 70 (i_const 71 (vI 1)) := snd_iconst dX12_putPacket_70
theorem sX12_putPacket_71 : Snd (miT Tb) RX12 cX12_putPacket 7 none 71 (i_goto 75) := snd_goto dX12_putPacket_71 rfl
theorem sX12_putPacket_74 : Snd (miT Tb) RX12 cX12_putPacket 7 none 74 (i_const 75 (vI 0)) := snd_iconst dX12_putPacket_74
theorem sX12_putPacket_75 : Snd (miT Tb) RX12 cX12_putPacket 7 none 75 (i_istore 77 4) := snd_istore (by decide) dX12_putPacket_75
theorem sX12_putPacket_77 : Snd (miT Tb) RX12 cX12_putPacket 7 none 77 (i_iinc 80 5 1) := snd_iinc (by decide) dX12_putPacket_77
theorem sX12_putPacket_80 : Snd (miT Tb) RX12 cX12_putPacket 7 none 80 (i_goto 9) := snd_goto dX12_putPacket_80 rfl
theorem sX12_putPacket_83 : Snd (miT Tb) RX12 cX12_putPacket 7 none 83 (i_aload 84 0) := snd_aload_n rfl dX12_putPacket_83
theorem sX12_putPacket_84 : Snd (miT Tb) RX12 cX12_putPacket 7 none 84 (i_aload 85 0) := snd_aload_n rfl dX12_putPacket_84
theorem sX12_putPacket_85 : Snd (miT Tb) RX12 cX12_putPacket 7 none 85 (i_getI 11 41 88) := snd_getI (fun hK ho hs hv kk => gf_X12_329 hK ho hs hv dX12_putPacket_85 kk)
theorem sX12_putPacket_88 : Snd (miT Tb) RX12 cX12_putPacket 7 none 88 (i_putI 11 42 91) := snd_putI (fun hK ho hs kk => pf_X12_311 hK ho hs dX12_putPacket_88 kk)
theorem sX12_putPacket_91 : Snd (miT Tb) RX12 cX12_putPacket 7 none 91 (i_aload 92 0) := snd_aload_n rfl dX12_putPacket_91
theorem sX12_putPacket_92 : Snd (miT Tb) RX12 cX12_putPacket 7 none 92 (i_const 93 (vI 0)) := snd_iconst dX12_putPacket_92
theorem sX12_putPacket_93 : Snd (miT Tb) RX12 cX12_putPacket 7 none 93 (i_putI 11 43 96) := snd_putI (fun hK ho hs kk => pf_X12_314 hK ho hs dX12_putPacket_93 kk)
theorem sX12_putPacket_96 : Snd (miT Tb) RX12 cX12_putPacket 7 none 96 (i_aload 97 0) := snd_aload_n rfl dX12_putPacket_96
theorem sX12_putPacket_97 : Snd (miT Tb) RX12 cX12_putPacket 7 none 97 (i_iload 99 4) := snd_iload dX12_putPacket_97
theorem sX12_putPacket_99 : Snd (miT Tb) RX12 cX12_putPacket 7 none 99 (i_if_eq 102 106) := snd_if_eq dX12_putPacket_99 rfl
theorem sX12_putPacket_102 : Snd (miT Tb) RX12 cX12_putPacket 7 none 102 (i_const 103 (vI 1)) := snd_iconst dX12_putPacket_102
theorem sX12_putPacket_103 : Snd (miT Tb) RX12 cX12_putPacket 7 none 103 (i_goto 107) := snd_goto dX12_putPacket_103 rfl
theorem sX12_putPacket_106 : Snd (miT Tb) RX12 cX12_putPacket 7 none 106 (i_const 107 (vI 0)) := snd_iconst dX12_putPacket_106
theorem sX12_putPacket_107 : Snd (miT Tb) RX12 cX12_putPacket 7 none 107 (i_const 108 (vI 1)) := snd_iconst dX12_putPacket_107
theorem sX12_putPacket_108 : Snd (miT Tb) RX12 cX12_putPacket 7 none 108 (i_cV2 50 11 111) := snd_cV2 (fun hK hd hC ho hs h6 h7 h8 kk => iv_X12_320 hK (mc_50 hC) ho hs ⟨hd, by show _ ≤ 40 * (_ + 1); omega⟩ (Nat.le_refl _) h6 h7 h8 ⟨Nat.le_refl _, Nat.le_refl _⟩ dX12_putPacket_108 kk)
theorem sX12_putPacket_111 : Snd (miT Tb) RX12 cX12_putPacket 7 none 111 (i_iload 112 1) := snd_iload_n rfl dX12_putPacket_111
theorem sX12_putPacket_112 : Snd (miT Tb) RX12 cX12_putPacket 7 none 112 (i_cS1 37 115) := snd_cS1 (fun hK hd hC h6 h7 h8 kk => iv_X12_326 hK (mc_37 hC) ⟨hd, by show _ ≤ 40 * (_ + 1); omega⟩ (Nat.le_refl _) h6 h7 h8 ⟨Nat.le_refl _, Nat.le_refl _⟩ dX12_putPacket_112 kk)
theorem sX12_putPacket_115 : Snd (miT Tb) RX12 cX12_putPacket 7 none 115 (i_istore 117 5) := snd_istore (by decide) dX12_putPacket_115
theorem sX12_putPacket_117 : Snd (miT Tb) RX12 cX12_putPacket 7 none 117 (i_iload 119 5) := snd_iload dX12_putPacket_117
theorem sX12_putPacket_119 : Snd (miT Tb) RX12 cX12_putPacket 7 none 119 (i_const 120 (vI 3)) := snd_iconst dX12_putPacket_119
theorem sX12_putPacket_120 : Snd (miT Tb) RX12 cX12_putPacket 7 none 120 (i_iload 121 1) := snd_iload_n rfl dX12_putPacket_120
theorem sX12_putPacket_121 : Snd (miT Tb) RX12 cX12_putPacket 7 none 121 (i_imul 122) := snd_imul dX12_putPacket_121
theorem sX12_putPacket_122 : Snd (miT Tb) RX12 cX12_putPacket 7 none 122 (i_icmp_gt 125 160) := snd_icmp_gt dX12_putPacket_122 rfl
theorem sX12_putPacket_125 : Snd (miT Tb) RX12 cX12_putPacket 7 none 125 (i_iload 127 4) := snd_iload dX12_putPacket_125
theorem sX12_putPacket_127 : Snd (miT Tb) RX12 cX12_putPacket 7 none 127 (i_if_eq 130 160) := snd_if_eq dX12_putPacket_127 rfl
theorem sX12_putPacket_130 : Snd (miT Tb) RX12 cX12_putPacket 7 none 130 (i_aload 131 0) := snd_aload_n rfl dX12_putPacket_130
theorem sX12_putPacket_131 : Snd (miT Tb) RX12 cX12_putPacket 7 none 131 (i_getR 11 9 134) := snd_getR rfl (by decide) (by decide) (by decide) (fun hK ho hs hq kk => gf_X12_35 hK ho hs hq rfl dX12_putPacket_131 kk)
theorem sX12_putPacket_134 : Snd (miT Tb) RX12 cX12_putPacket 7 none 134 (i_iload 136 5) := snd_iload dX12_putPacket_134
theorem sX12_putPacket_136 : Snd (miT Tb) RX12 cX12_putPacket 7 none 136 (i_iald 137) := snd_iald dX12_putPacket_136
theorem sX12_putPacket_137 : Snd (miT Tb) RX12 cX12_putPacket 7 none 137 (i_aload 138 0) := snd_aload_n rfl dX12_putPacket_137
theorem sX12_putPacket_138 : Snd (miT Tb) RX12 cX12_putPacket 7 none 138 (i_getR 11 10 141) := snd_getR rfl (by decide) (by decide) (by decide) (fun hK ho hs hq kk => gf_X12_38 hK ho hs hq rfl dX12_putPacket_138 kk)
theorem sX12_putPacket_141 : Snd (miT Tb) RX12 cX12_putPacket 7 none 141 (i_iload 143 5) := snd_iload dX12_putPacket_141
theorem sX12_putPacket_143 : Snd (miT Tb) RX12 cX12_putPacket 7 none 143 (i_iald 144) := snd_iald dX12_putPacket_143
theorem sX12_putPacket_144 : Snd (miT Tb) RX12 cX12_putPacket 7 none 144 (i_imul 145) := snd_imul dX12_putPacket_144
theorem sX12_putPacket_145 : Snd (miT Tb) RX12 cX12_putPacket 7 none 145 (i_if_le 148 154) := snd_if_le dX12_putPacket_145 rfl
theorem sX12_putPacket_148 : Snd (miT Tb) RX12 cX12_putPacket 7 none 148 (i_aload 149 0) := snd_aload_n rfl dX12_putPacket_148
theorem sX12_putPacket_149 : Snd (miT Tb) RX12 cX12_putPacket 7 none 149 (i_iload 151 5) := snd_iload dX12_putPacket_149
theorem sX12_putPacket_151 : Snd (miT Tb) RX12 cX12_putPacket 7 none 151 (i_cV1 51 11 154) := snd_cV1 (fun hK hd hC ho hs h6 h7 h8 kk => iv_X12_332 hK (mc_51 hC) ho hs ⟨hd, by show _ ≤ 40 * (_ + 1); omega⟩ (Nat.le_refl _) h6 h7 h8 ⟨Nat.le_refl _, Nat.le_refl _⟩ dX12_putPacket_151 kk)
theorem sX12_putPacket_154 : Snd (miT Tb) RX12 cX12_putPacket 7 none 154 (i_iinc 157 5 1) := snd_iinc (by decide) dX12_putPacket_154
theorem sX12_putPacket_157 : Snd (miT Tb) RX12 cX12_putPacket 7 none 157 (i_goto 117) := snd_goto dX12_putPacket_157 rfl
theorem sX12_putPacket_160 : Snd (miT Tb) RX12 cX12_putPacket 7 none 160 (i_aload 161 0) := snd_aload_n rfl dX12_putPacket_160
theorem sX12_putPacket_161 : Snd (miT Tb) RX12 cX12_putPacket 7 none 161 (i_aload 162 0) := snd_aload_n rfl dX12_putPacket_161
theorem sX12_putPacket_162 : Snd (miT Tb) RX12 cX12_putPacket 7 none 162 (i_getI 11 43 165) := snd_getI (fun hK ho hs hv kk => gf_X12_314 hK ho hs hv dX12_putPacket_162 kk)
theorem sX12_putPacket_165 : Snd (miT Tb) RX12 cX12_putPacket 7 none 165 (i_if_le 168 177) := snd_if_le dX12_putPacket_165 rfl
theorem sX12_putPacket_168 : Snd (miT Tb) RX12 cX12_putPacket 7 none 168 (i_aload 169 0) := snd_aload_n rfl dX12_putPacket_168
theorem sX12_putPacket_169 : Snd (miT Tb) RX12 cX12_putPacket 7 none 169 (i_getI 11 42 172) := snd_getI (fun hK ho hs hv kk => gf_X12_311 hK ho hs hv dX12_putPacket_169 kk)
theorem sX12_putPacket_172 : Snd (miT Tb) RX12 cX12_putPacket 7 none 172 (i_const 173 (vI 1)) := snd_iconst dX12_putPacket_172
theorem sX12_putPacket_173 : Snd (miT Tb) RX12 cX12_putPacket 7 none 173 (i_iadd 174) := snd_iadd dX12_putPacket_173
theorem sX12_putPacket_174 : Snd (miT Tb) RX12 cX12_putPacket 7 none 174 (i_goto 181) := snd_goto dX12_putPacket_174 rfl
theorem sX12_putPacket_177 : Snd (miT Tb) RX12 cX12_putPacket 7 none 177 (i_aload 178 0) := snd_aload_n rfl dX12_putPacket_177
theorem sX12_putPacket_178 : Snd (miT Tb) RX12 cX12_putPacket 7 none 178 (i_getI 11 42 181) := snd_getI (fun hK ho hs hv kk => gf_X12_311 hK ho hs hv dX12_putPacket_178 kk)
theorem sX12_putPacket_181 : Snd (miT Tb) RX12 cX12_putPacket 7 none 181 (i_putI 11 41 184) := snd_putI (fun hK ho hs kk => pf_X12_329 hK ho hs dX12_putPacket_181 kk)
theorem sX12_putPacket_184 : Snd (miT Tb) RX12 cX12_putPacket 7 none 184 (i_iload 185 1) := snd_iload_n rfl dX12_putPacket_184
theorem sX12_putPacket_185 : Snd (miT Tb) RX12 cX12_putPacket 7 none 185 (i_cS1 37 188) := snd_cS1 (fun hK hd hC h6 h7 h8 kk => iv_X12_326 hK (mc_37 hC) ⟨hd, by show _ ≤ 40 * (_ + 1); omega⟩ (Nat.le_refl _) h6 h7 h8 ⟨Nat.le_refl _, Nat.le_refl _⟩ dX12_putPacket_185 kk)
theorem sX12_putPacket_188 : Snd (miT Tb) RX12 cX12_putPacket 7 none 188 (i_istore 190 5) := snd_istore (by decide) dX12_putPacket_188
theorem sX12_putPacket_190 : Snd (miT Tb) RX12 cX12_putPacket 7 none 190 (i_iload 192 5) := snd_iload dX12_putPacket_190
theorem sX12_putPacket_192 : Snd (miT Tb) RX12 cX12_putPacket 7 none 192 (i_const 193 (vI 3)) := snd_iconst dX12_putPacket_192
theorem sX12_putPacket_193 : Snd (miT Tb) RX12 cX12_putPacket 7 none 193 (i_iload 194 1) := snd_iload_n rfl dX12_putPacket_193
theorem sX12_putPacket_194 : Snd (miT Tb) RX12 cX12_putPacket 7 none 194 (i_imul 195) := snd_imul dX12_putPacket_194
theorem sX12_putPacket_195 : Snd (miT Tb) RX12 cX12_putPacket 7 none 195 (i_icmp_gt 198 287) := snd_icmp_gt dX12_putPacket_195 rfl
theorem sX12_putPacket_198 : Snd (miT Tb) RX12 cX12_putPacket 7 none 198 (i_aload 199 0) := snd_aload_n rfl dX12_putPacket_198
theorem sX12_putPacket_199 : Snd (miT Tb) RX12 cX12_putPacket 7 none 199 (i_getR 11 22 202) := snd_getR rfl (by decide) (by decide) (by decide) (fun hK ho hs hq kk => gf_X12_72 hK ho hs hq rfl dX12_putPacket_199 kk)
theorem sX12_putPacket_202 : Snd (miT Tb) RX12 cX12_putPacket 7 none 202 (i_const 204 (vI 35)) := snd_bipush (by decide) dX12_putPacket_202
theorem sX12_putPacket_204 : Snd (miT Tb) RX12 cX12_putPacket 7 none 204 (i_iload 206 5) := snd_iload dX12_putPacket_204
theorem sX12_putPacket_206 : Snd (miT Tb) RX12 cX12_putPacket 7 none 206 (i_imul 207) := snd_imul dX12_putPacket_206
theorem sX12_putPacket_207 : Snd (miT Tb) RX12 cX12_putPacket 7 none 207 (i_aload 208 0) := snd_aload_n rfl dX12_putPacket_207
theorem sX12_putPacket_208 : Snd (miT Tb) RX12 cX12_putPacket 7 none 208 (i_getR 11 16 211) := snd_getR rfl (by decide) (by decide) (by decide) (fun hK ho hs hq kk => gf_X12_57 hK ho hs hq rfl dX12_putPacket_208 kk)
theorem sX12_putPacket_211 : Snd (miT Tb) RX12 cX12_putPacket 7 none 211 (i_iload 213 5) := snd_iload dX12_putPacket_211
theorem sX12_putPacket_213 : Snd (miT Tb) RX12 cX12_putPacket 7 none 213 (i_iald 214) := snd_iald dX12_putPacket_213
theorem sX12_putPacket_214 : Snd (miT Tb) RX12 cX12_putPacket 7 none 214 (i_iadd 215) := snd_iadd dX12_putPacket_214
theorem sX12_putPacket_215 : Snd (miT Tb) RX12 cX12_putPacket 7 none 215 (i_iald 216) := snd_iald dX12_putPacket_215
theorem sX12_putPacket_216 : Snd (miT Tb) RX12 cX12_putPacket 7 none 216 (i_istore 218 6) := snd_istore (by decide) dX12_putPacket_216
theorem sX12_putPacket_218 : Snd (miT Tb) RX12 cX12_putPacket 7 none 218 (i_iload 220 6) := snd_iload dX12_putPacket_218
theorem sX12_putPacket_220 : Snd (miT Tb) RX12 cX12_putPacket 7 none 220 (i_aload 221 0) := snd_aload_n rfl dX12_putPacket_220
theorem sX12_putPacket_221 : Snd (miT Tb) RX12 cX12_putPacket 7 none 221 (i_getR 11 22 224) := snd_getR rfl (by decide) (by decide) (by decide) (fun hK ho hs hq kk => gf_X12_72 hK ho hs hq rfl dX12_putPacket_221 kk)
theorem sX12_putPacket_224 : Snd (miT Tb) RX12 cX12_putPacket 7 none 224 (i_const 226 (vI 35)) := snd_bipush (by decide) dX12_putPacket_224
theorem sX12_putPacket_226 : Snd (miT Tb) RX12 cX12_putPacket 7 none 226 (i_iload 228 5) := snd_iload dX12_putPacket_226
theorem sX12_putPacket_228 : Snd (miT Tb) RX12 cX12_putPacket 7 none 228 (i_imul 229) := snd_imul dX12_putPacket_228
theorem sX12_putPacket_229 : Snd (miT Tb) RX12 cX12_putPacket 7 none 229 (i_aload 230 0) := snd_aload_n rfl dX12_putPacket_229
theorem sX12_putPacket_230 : Snd (miT Tb) RX12 cX12_putPacket 7 none 230 (i_getR 11 15 233) := snd_getR rfl (by decide) (by decide) (by decide) (fun hK ho hs hq kk => gf_X12_54 hK ho hs hq rfl dX12_putPacket_230 kk)
theorem sX12_putPacket_233 : Snd (miT Tb) RX12 cX12_putPacket 7 none 233 (i_iload 235 5) := snd_iload dX12_putPacket_233
theorem sX12_putPacket_235 : Snd (miT Tb) RX12 cX12_putPacket 7 none 235 (i_iald 236) := snd_iald dX12_putPacket_235
theorem sX12_putPacket_236 : Snd (miT Tb) RX12 cX12_putPacket 7 none 236 (i_iadd 237) := snd_iadd dX12_putPacket_236
theorem sX12_putPacket_237 : Snd (miT Tb) RX12 cX12_putPacket 7 none 237 (i_iald 238) := snd_iald dX12_putPacket_237
theorem sX12_putPacket_238 : Snd (miT Tb) RX12 cX12_putPacket 7 none 238 (i_icmp_ge 241 281) := snd_icmp_ge dX12_putPacket_238 rfl
theorem sX12_putPacket_241 : Snd (miT Tb) RX12 cX12_putPacket 7 none 241 (i_aload 242 0) := snd_aload_n rfl dX12_putPacket_241
theorem sX12_putPacket_242 : Snd (miT Tb) RX12 cX12_putPacket 7 none 242 (i_getR 11 40 245) := snd_getR rfl (by decide) (by decide) (by decide) (fun hK ho hs hq kk => gf_X12_96 hK ho hs hq rfl dX12_putPacket_242 kk)
theorem sX12_putPacket_245 : Snd (miT Tb) RX12 cX12_putPacket 7 none 245 (i_aload 246 0) := snd_aload_n rfl dX12_putPacket_245
theorem sX12_putPacket_246 : Snd (miT Tb) RX12 cX12_putPacket 7 none 246 (i_getI 11 41 249) := snd_getI (fun hK ho hs hv kk => gf_X12_329 hK ho hs hv dX12_putPacket_246 kk)
theorem sX12_putPacket_249 : Snd (miT Tb) RX12 cX12_putPacket 7 none 249 (i_aload 250 0) := snd_aload_n rfl dX12_putPacket_249
theorem sX12_putPacket_250 : Snd (miT Tb) RX12 cX12_putPacket 7 none 250 (i_getR 11 19 253) := snd_getR rfl (by decide) (by decide) (by decide) (fun hK ho hs hq kk => gf_X12_63 hK ho hs hq rfl dX12_putPacket_250 kk)
theorem sX12_putPacket_253 : Snd (miT Tb) RX12 cX12_putPacket 7 none 253 (i_aload 254 0) := snd_aload_n rfl dX12_putPacket_253
theorem sX12_putPacket_254 : Snd (miT Tb) RX12 cX12_putPacket 7 none 254 (i_getR 11 20 257) := snd_getR rfl (by decide) (by decide) (by decide) (fun hK ho hs hq kk => gf_X12_66 hK ho hs hq rfl dX12_putPacket_254 kk)
theorem sX12_putPacket_257 : Snd (miT Tb) RX12 cX12_putPacket 7 none 257 (i_iload 259 5) := snd_iload dX12_putPacket_257
theorem sX12_putPacket_259 : Snd (miT Tb) RX12 cX12_putPacket 7 none 259 (i_iald 260) := snd_iald dX12_putPacket_259
theorem sX12_putPacket_260 : Snd (miT Tb) RX12 cX12_putPacket 7 none 260 (i_iload 262 6) := snd_iload dX12_putPacket_260
theorem sX12_putPacket_262 : Snd (miT Tb) RX12 cX12_putPacket 7 none 262 (i_iadd 263) := snd_iadd dX12_putPacket_262
theorem sX12_putPacket_263 : Snd (miT Tb) RX12 cX12_putPacket 7 none 263 (i_iald 264) := snd_iald dX12_putPacket_263
theorem sX12_putPacket_264 : Snd (miT Tb) RX12 cX12_putPacket 7 none 264 (i_iast 265) := snd_iast dX12_putPacket_264
theorem sX12_putPacket_265 : Snd (miT Tb) RX12 cX12_putPacket 7 none 265 (i_aload 266 0) := snd_aload_n rfl dX12_putPacket_265
theorem sX12_putPacket_266 : Snd (miT Tb) RX12 cX12_putPacket 7 none 266 (i_dup 267) := snd_dup dX12_putPacket_266
theorem sX12_putPacket_267 : Snd (miT Tb) RX12 cX12_putPacket 7 none 267 (i_getI 11 41 270) := snd_getI (fun hK ho hs hv kk => gf_X12_329 hK ho hs hv dX12_putPacket_267 kk)
theorem sX12_putPacket_270 : Snd (miT Tb) RX12 cX12_putPacket 7 none 270 (i_const 271 (vI 1)) := snd_iconst dX12_putPacket_270
theorem sX12_putPacket_271 : Snd (miT Tb) RX12 cX12_putPacket 7 none 271 (i_iadd 272) := snd_iadd dX12_putPacket_271
theorem sX12_putPacket_272 : Snd (miT Tb) RX12 cX12_putPacket 7 none 272 (i_putI 11 41 275) := snd_putI (fun hK ho hs kk => pf_X12_329 hK ho hs dX12_putPacket_272 kk)
theorem sX12_putPacket_275 : Snd (miT Tb) RX12 cX12_putPacket 7 none 275 (i_iinc 278 6 1) := snd_iinc (by decide) dX12_putPacket_275
theorem sX12_putPacket_278 : Snd (miT Tb) RX12 cX12_putPacket 7 none 278 (i_goto 218) := snd_goto dX12_putPacket_278 rfl
theorem sX12_putPacket_281 : Snd (miT Tb) RX12 cX12_putPacket 7 none 281 (i_iinc 284 5 1) := snd_iinc (by decide) dX12_putPacket_281
theorem sX12_putPacket_284 : Snd (miT Tb) RX12 cX12_putPacket 7 none 284 (i_goto 190) := snd_goto dX12_putPacket_284 rfl
theorem sX12_putPacket_287 : Snd (miT Tb) RX12 cX12_putPacket 7 none 287 (i_vret) := snd_vret dX12_putPacket_287
theorem kX12_putPacket : raA (okI (miT Tb) (yX12_putPacket, cX12_putPacket, 7, none)) tX12_putPacket := (raA_br (raA_br (raA_br (raA_br (raA_br (raA_br (raA_br (raA_leaf sX12_putPacket_0) (raA_leaf sX12_putPacket_1)) (raA_br (raA_leaf sX12_putPacket_3) (raA_leaf sX12_putPacket_4))) (raA_br (raA_br (raA_leaf sX12_putPacket_7) (raA_leaf sX12_putPacket_9)) (raA_br (raA_leaf sX12_putPacket_11) (raA_br (raA_leaf sX12_putPacket_12) (raA_leaf sX12_putPacket_13))))) (raA_br (raA_br (raA_br (raA_leaf sX12_putPacket_14) (raA_leaf sX12_putPacket_17)) (raA_br (raA_leaf sX12_putPacket_18) (raA_br (raA_leaf sX12_putPacket_21) (raA_leaf sX12_putPacket_23)))) (raA_br (raA_br (raA_leaf sX12_putPacket_24) (raA_leaf sX12_putPacket_27)) (raA_br (raA_leaf sX12_putPacket_29) (raA_br (raA_leaf sX12_putPacket_30) (raA_leaf sX12_putPacket_31)))))) (raA_br (raA_br (raA_br (raA_br (raA_leaf sX12_putPacket_32) (raA_leaf sX12_putPacket_35)) (raA_br (raA_leaf sX12_putPacket_37) (raA_br (raA_leaf sX12_putPacket_38) (raA_leaf sX12_putPacket_40)))) (raA_br (raA_br (raA_leaf sX12_putPacket_43) (raA_leaf sX12_putPacket_44)) (raA_br (raA_leaf sX12_putPacket_45) (raA_br (raA_leaf sX12_putPacket_46) (raA_leaf sX12_putPacket_47))))) (raA_br (raA_br (raA_br (raA_leaf sX12_putPacket_48) (raA_leaf sX12_putPacket_50)) (raA_br (raA_leaf sX12_putPacket_53) (raA_br (raA_leaf sX12_putPacket_54) (raA_leaf sX12_putPacket_57)))) (raA_br (raA_br (raA_leaf sX12_putPacket_59) (raA_leaf sX12_putPacket_60)) (raA_br (raA_leaf sX12_putPacket_61) (raA_br (raA_leaf sX12_putPacket_64) (raA_leaf sX12_putPacket_66))))))) (raA_br (raA_br (raA_br (raA_br (raA_br (raA_leaf sX12_putPacket_67) (raA_leaf sX12_putPacket_70)) (raA_br (raA_leaf sX12_putPacket_71) (raA_leaf sX12_putPacket_74))) (raA_br (raA_br (raA_leaf sX12_putPacket_75) (raA_leaf sX12_putPacket_77)) (raA_br (raA_leaf sX12_putPacket_80) (raA_br (raA_leaf sX12_putPacket_83) (raA_leaf sX12_putPacket_84))))) (raA_br (raA_br (raA_br (raA_leaf sX12_putPacket_85) (raA_leaf sX12_putPacket_88)) (raA_br (raA_leaf sX12_putPacket_91) (raA_br (raA_leaf sX12_putPacket_92) (raA_leaf sX12_putPacket_93)))) (raA_br (raA_br (raA_leaf sX12_putPacket_96) (raA_leaf sX12_putPacket_97)) (raA_br (raA_leaf sX12_putPacket_99) (raA_br (raA_leaf sX12_putPacket_102) (raA_leaf sX12_putPacket_103)))))) (raA_br (raA_br (raA_br (raA_br (raA_leaf sX12_putPacket_106) (raA_leaf sX12_putPacket_107)) (raA_br (raA_leaf sX12_putPacket_108) (raA_br (raA_leaf sX12_putPacket_111) (raA_leaf sX12_putPacket_112)))) (raA_br (raA_br (raA_leaf sX12_putPacket_115) (raA_leaf sX12_putPacket_117)) (raA_br (raA_leaf sX12_putPacket_119) (raA_br (raA_leaf sX12_putPacket_120) (raA_leaf sX12_putPacket_121))))) (raA_br (raA_br (raA_br (raA_leaf sX12_putPacket_122) (raA_leaf sX12_putPacket_125)) (raA_br (raA_leaf sX12_putPacket_127) (raA_br (raA_leaf sX12_putPacket_130) (raA_leaf sX12_putPacket_131)))) (raA_br (raA_br (raA_leaf sX12_putPacket_134) (raA_leaf sX12_putPacket_136)) (raA_br (raA_leaf sX12_putPacket_137) (raA_br (raA_leaf sX12_putPacket_138) (raA_leaf sX12_putPacket_141)))))))) (raA_br (raA_br (raA_br (raA_br (raA_br (raA_br (raA_leaf sX12_putPacket_143) (raA_leaf sX12_putPacket_144)) (raA_br (raA_leaf sX12_putPacket_145) (raA_leaf sX12_putPacket_148))) (raA_br (raA_br (raA_leaf sX12_putPacket_149) (raA_leaf sX12_putPacket_151)) (raA_br (raA_leaf sX12_putPacket_154) (raA_br (raA_leaf sX12_putPacket_157) (raA_leaf sX12_putPacket_160))))) (raA_br (raA_br (raA_br (raA_leaf sX12_putPacket_161) (raA_leaf sX12_putPacket_162)) (raA_br (raA_leaf sX12_putPacket_165) (raA_br (raA_leaf sX12_putPacket_168) (raA_leaf sX12_putPacket_169)))) (raA_br (raA_br (raA_leaf sX12_putPacket_172) (raA_leaf sX12_putPacket_173)) (raA_br (raA_leaf sX12_putPacket_174) (raA_br (raA_leaf sX12_putPacket_177) (raA_leaf sX12_putPacket_178)))))) (raA_br (raA_br (raA_br (raA_br (raA_leaf sX12_putPacket_181) (raA_leaf sX12_putPacket_184)) (raA_br (raA_leaf sX12_putPacket_185) (raA_br (raA_leaf sX12_putPacket_188) (raA_leaf sX12_putPacket_190)))) (raA_br (raA_br (raA_leaf sX12_putPacket_192) (raA_leaf sX12_putPacket_193)) (raA_br (raA_leaf sX12_putPacket_194) (raA_br (raA_leaf sX12_putPacket_195) (raA_leaf sX12_putPacket_198))))) (raA_br (raA_br (raA_br (raA_leaf sX12_putPacket_199) (raA_leaf sX12_putPacket_202)) (raA_br (raA_leaf sX12_putPacket_204) (raA_br (raA_leaf sX12_putPacket_206) (raA_leaf sX12_putPacket_207)))) (raA_br (raA_br (raA_leaf sX12_putPacket_208) (raA_leaf sX12_putPacket_211)) (raA_br (raA_leaf sX12_putPacket_213) (raA_br (raA_leaf sX12_putPacket_214) (raA_leaf sX12_putPacket_215))))))) (raA_br (raA_br (raA_br (raA_br (raA_br (raA_leaf sX12_putPacket_216) (raA_leaf sX12_putPacket_218)) (raA_br (raA_leaf sX12_putPacket_220) (raA_leaf sX12_putPacket_221))) (raA_br (raA_br (raA_leaf sX12_putPacket_224) (raA_leaf sX12_putPacket_226)) (raA_br (raA_leaf sX12_putPacket_228) (raA_br (raA_leaf sX12_putPacket_229) (raA_leaf sX12_putPacket_230))))) (raA_br (raA_br (raA_br (raA_leaf sX12_putPacket_233) (raA_leaf sX12_putPacket_235)) (raA_br (raA_leaf sX12_putPacket_236) (raA_br (raA_leaf sX12_putPacket_237) (raA_leaf sX12_putPacket_238)))) (raA_br (raA_br (raA_leaf sX12_putPacket_241) (raA_leaf sX12_putPacket_242)) (raA_br (raA_leaf sX12_putPacket_245) (raA_br (raA_leaf sX12_putPacket_246) (raA_leaf sX12_putPacket_249)))))) (raA_br (raA_br (raA_br (raA_br (raA_leaf sX12_putPacket_250) (raA_leaf sX12_putPacket_253)) (raA_br (raA_leaf sX12_putPacket_254) (raA_br (raA_leaf sX12_putPacket_257) (raA_leaf sX12_putPacket_259)))) (raA_br (raA_br (raA_leaf sX12_putPacket_260) (raA_leaf sX12_putPacket_262)) (raA_br (raA_leaf sX12_putPacket_263) (raA_br (raA_leaf sX12_putPacket_264) (raA_leaf sX12_putPacket_265))))) (raA_br (raA_br (raA_br (raA_leaf sX12_putPacket_266) (raA_leaf sX12_putPacket_267)) (raA_br (raA_leaf sX12_putPacket_270) (raA_br (raA_leaf sX12_putPacket_271) (raA_leaf sX12_putPacket_272)))) (raA_br (raA_br (raA_leaf sX12_putPacket_275) (raA_leaf sX12_putPacket_278)) (raA_br (raA_leaf sX12_putPacket_281) (raA_br (raA_leaf sX12_putPacket_284) (raA_leaf sX12_putPacket_287)))))))))
theorem sX12_readBit_0 : Snd (miT Tb) RX12 cX12_readBit 7 (some .int) 0 (i_aload 1 0) := snd_aload_n rfl dX12_readBit_0
theorem sX12_readBit_1 : Snd (miT Tb) RX12 cX12_readBit 7 (some .int) 1 (i_getR 11 0 4) := snd_getR rfl (by decide) (by decide) (by decide) (fun hK ho hs hq kk => gf_X12_7 hK ho hs hq rfl dX12_readBit_1 kk)
theorem sX12_readBit_4 : Snd (miT Tb) RX12 cX12_readBit 7 (some .int) 4 (i_aload 5 0) := snd_aload_n rfl dX12_readBit_4
theorem sX12_readBit_5 : Snd (miT Tb) RX12 cX12_readBit 7 (some .int) 5 (i_getR 11 30 8) := snd_getR rfl (by decide) (by decide) (by decide) (fun hK ho hs hq kk => gf_X12_84 hK ho hs hq rfl dX12_readBit_5 kk)
theorem sX12_readBit_8 : Snd (miT Tb) RX12 cX12_readBit 7 (some .int) 8 (i_iload 9 1) := snd_iload_n rfl dX12_readBit_8
theorem sX12_readBit_9 : Snd (miT Tb) RX12 cX12_readBit 7 (some .int) 9 (i_iald 10) := snd_iald dX12_readBit_9
theorem sX12_readBit_10 : Snd (miT Tb) RX12 cX12_readBit 7 (some .int) 10 (i_iald 11) := snd_iald dX12_readBit_10
theorem sX12_readBit_11 : Snd (miT Tb) RX12 cX12_readBit 7 (some .int) 11 (i_istore 12 2) := snd_istore_n rfl (by decide) dX12_readBit_11
theorem sX12_readBit_12 : Snd (miT Tb) RX12 cX12_readBit 7 (some .int) 12 (i_aload 13 0) := snd_aload_n rfl dX12_readBit_12
theorem sX12_readBit_13 : Snd (miT Tb) RX12 cX12_readBit 7 (some .int) 13 (i_aload 14 0) := snd_aload_n rfl dX12_readBit_13
theorem sX12_readBit_14 : Snd (miT Tb) RX12 cX12_readBit 7 (some .int) 14 (i_getJ 11 32 17) := snd_getJ (fun hK ho hs hv kk => gf_X12_171 hK ho hs hv dX12_readBit_14 kk)
theorem sX12_readBit_17 : Snd (miT Tb) RX12 cX12_readBit 7 (some .int) 17 (i_iload 18 2) := snd_iload_n rfl dX12_readBit_17
theorem sX12_readBit_18 : Snd (miT Tb) RX12 cX12_readBit 7 (some .int) 18 (i_i2l 19) := snd_i2l dX12_readBit_18
theorem sX12_readBit_19 : Snd (miT Tb) RX12 cX12_readBit 7 (some .int) 19 (i_lsub 20) := snd_lsub dX12_readBit_19
theorem sX12_readBit_20 : Snd (miT Tb) RX12 cX12_readBit 7 (some .int) 20 (i_putJ 11 32 23) := snd_putJ (fun hK ho hs kk => pf_X12_171 hK ho hs dX12_readBit_20 kk)
theorem sX12_readBit_23 : Snd (miT Tb) RX12 cX12_readBit 7 (some .int) 23 (i_aload 24 0) := snd_aload_n rfl dX12_readBit_23
theorem sX12_readBit_24 : Snd (miT Tb) RX12 cX12_readBit 7 (some .int) 24 (i_getJ 11 33 27) := snd_getJ (fun hK ho hs hv kk => gf_X12_175 hK ho hs hv dX12_readBit_24 kk)
theorem sX12_readBit_27 : Snd (miT Tb) RX12 cX12_readBit 7 (some .int) 27 (i_const 30 (vJ 65536)) := snd_ldc2 lc_X12_198 dX12_readBit_27
theorem sX12_readBit_30 : Snd (miT Tb) RX12 cX12_readBit 7 (some .int) 30 (i_ldiv 31) := snd_ldiv dX12_readBit_30
theorem sX12_readBit_31 : Snd (miT Tb) RX12 cX12_readBit 7 (some .int) 31 (i_iload 32 2) := snd_iload_n rfl dX12_readBit_31
theorem sX12_readBit_32 : Snd (miT Tb) RX12 cX12_readBit 7 (some .int) 32 (i_i2l 33) := snd_i2l dX12_readBit_32
theorem sX12_readBit_33 : Snd (miT Tb) RX12 cX12_readBit 7 (some .int) 33 (i_lcmp 34) := snd_lcmp dX12_readBit_33
theorem sX12_readBit_34 : Snd (miT Tb) RX12 cX12_readBit 7 (some .int) 34 (i_if_ge 37 41) := snd_if_ge dX12_readBit_34 rfl
theorem sX12_readBit_37 : Snd (miT Tb) RX12 cX12_readBit 7 (some .int) 37 (i_const 38 (vI 1)) := snd_iconst dX12_readBit_37
theorem sX12_readBit_38 : Snd (miT Tb) RX12 cX12_readBit 7 (some .int) 38 (i_goto 42) := snd_goto dX12_readBit_38 rfl
theorem sX12_readBit_41 : Snd (miT Tb) RX12 cX12_readBit 7 (some .int) 41 (i_const 42 (vI 0)) := snd_iconst dX12_readBit_41
theorem sX12_readBit_42 : Snd (miT Tb) RX12 cX12_readBit 7 (some .int) 42 (i_istore 43 3) := snd_istore_n rfl (by decide) dX12_readBit_42
theorem sX12_readBit_43 : Snd (miT Tb) RX12 cX12_readBit 7 (some .int) 43 (i_iload 44 3) := snd_iload_n rfl dX12_readBit_43
theorem sX12_readBit_44 : Snd (miT Tb) RX12 cX12_readBit 7 (some .int) 44 (i_if_ne 47 80) := snd_if_ne dX12_readBit_44 rfl
theorem sX12_readBit_47 : Snd (miT Tb) RX12 cX12_readBit 7 (some .int) 47 (i_aload 48 0) := snd_aload_n rfl dX12_readBit_47
theorem sX12_readBit_48 : Snd (miT Tb) RX12 cX12_readBit 7 (some .int) 48 (i_aload 49 0) := snd_aload_n rfl dX12_readBit_48
theorem sX12_readBit_49 : Snd (miT Tb) RX12 cX12_readBit 7 (some .int) 49 (i_getJ 11 33 52) := snd_getJ (fun hK ho hs hv kk => gf_X12_175 hK ho hs hv dX12_readBit_49 kk)
theorem sX12_readBit_52 : Snd (miT Tb) RX12 cX12_readBit 7 (some .int) 52 (i_const 55 (vJ 65536)) := snd_ldc2 lc_X12_198 dX12_readBit_52
theorem sX12_readBit_55 : Snd (miT Tb) RX12 cX12_readBit 7 (some .int) 55 (i_iload 56 2) := snd_iload_n rfl dX12_readBit_55
theorem sX12_readBit_56 : Snd (miT Tb) RX12 cX12_readBit 7 (some .int) 56 (i_i2l 57) := snd_i2l dX12_readBit_56
theorem sX12_readBit_57 : Snd (miT Tb) RX12 cX12_readBit 7 (some .int) 57 (i_lmul 58) := snd_lmul dX12_readBit_57
theorem sX12_readBit_58 : Snd (miT Tb) RX12 cX12_readBit 7 (some .int) 58 (i_lsub 59) := snd_lsub dX12_readBit_58
theorem sX12_readBit_59 : Snd (miT Tb) RX12 cX12_readBit 7 (some .int) 59 (i_putJ 11 33 62) := snd_putJ (fun hK ho hs kk => pf_X12_175 hK ho hs dX12_readBit_59 kk)
theorem sX12_readBit_62 : Snd (miT Tb) RX12 cX12_readBit 7 (some .int) 62 (i_aload 63 0) := snd_aload_n rfl dX12_readBit_62
theorem sX12_readBit_63 : Snd (miT Tb) RX12 cX12_readBit 7 (some .int) 63 (i_getJ 11 32 66) := snd_getJ (fun hK ho hs hv kk => gf_X12_171 hK ho hs hv dX12_readBit_63 kk)
theorem sX12_readBit_66 : Snd (miT Tb) RX12 cX12_readBit 7 (some .int) 66 (i_const 69 (vJ 32768)) := snd_ldc2 lc_X12_169 dX12_readBit_66
theorem sX12_readBit_69 : Snd (miT Tb) RX12 cX12_readBit 7 (some .int) 69 (i_lcmp 70) := snd_lcmp dX12_readBit_69
theorem sX12_readBit_70 : Snd (miT Tb) RX12 cX12_readBit 7 (some .int) 70 (i_if_lt 73 80) := snd_if_lt dX12_readBit_70 rfl
theorem sX12_readBit_73 : Snd (miT Tb) RX12 cX12_readBit 7 (some .int) 73 (i_aload 74 0) := snd_aload_n rfl dX12_readBit_73
theorem sX12_readBit_74 : Snd (miT Tb) RX12 cX12_readBit 7 (some .int) 74 (i_getR 11 31 77) := snd_getR rfl (by decide) (by decide) (by decide) (fun hK ho hs hq kk => gf_X12_87 hK ho hs hq rfl dX12_readBit_74 kk)
theorem sX12_readBit_77 : Snd (miT Tb) RX12 cX12_readBit 7 (some .int) 77 (i_iload 78 1) := snd_iload_n rfl dX12_readBit_77
theorem sX12_readBit_78 : Snd (miT Tb) RX12 cX12_readBit 7 (some .int) 78 (i_iald 79) := snd_iald dX12_readBit_78
theorem sX12_readBit_79 : Snd (miT Tb) RX12 cX12_readBit 7 (some .int) 79 (i_iret) := snd_iret dX12_readBit_79
theorem sX12_readBit_80 : Snd (miT Tb) RX12 cX12_readBit 7 (some .int) 80 (i_aload 81 0) := snd_aload_n rfl dX12_readBit_80
theorem sX12_readBit_81 : Snd (miT Tb) RX12 cX12_readBit 7 (some .int) 81 (i_getJ 11 32 84) := snd_getJ (fun hK ho hs hv kk => gf_X12_171 hK ho hs hv dX12_readBit_81 kk)
theorem sX12_readBit_84 : Snd (miT Tb) RX12 cX12_readBit 7 (some .int) 84 (i_iload 85 2) := snd_iload_n rfl dX12_readBit_84
theorem sX12_readBit_85 : Snd (miT Tb) RX12 cX12_readBit 7 (some .int) 85 (i_i2l 86) := snd_i2l dX12_readBit_85
theorem sX12_readBit_86 : Snd (miT Tb) RX12 cX12_readBit 7 (some .int) 86 (i_lcmp 87) := snd_lcmp dX12_readBit_86
theorem sX12_readBit_87 : Snd (miT Tb) RX12 cX12_readBit 7 (some .int) 87 (i_if_ge 90 94) := snd_if_ge dX12_readBit_87 rfl
theorem sX12_readBit_90 : Snd (miT Tb) RX12 cX12_readBit 7 (some .int) 90 (i_const 91 (vI 1)) := snd_iconst dX12_readBit_90
theorem sX12_readBit_91 : Snd (miT Tb) RX12 cX12_readBit 7 (some .int) 91 (i_goto 95) := snd_goto dX12_readBit_91 rfl
theorem sX12_readBit_94 : Snd (miT Tb) RX12 cX12_readBit 7 (some .int) 94 (i_const 95 (vI 0)) := snd_iconst dX12_readBit_94
theorem sX12_readBit_95 : Snd (miT Tb) RX12 cX12_readBit 7 (some .int) 95 (i_istore 97 4) := snd_istore (by decide) dX12_readBit_95
theorem sX12_readBit_97 : Snd (miT Tb) RX12 cX12_readBit 7 (some .int) 97 (i_iload 98 3) := snd_iload_n rfl dX12_readBit_97
theorem sX12_readBit_98 : Snd (miT Tb) RX12 cX12_readBit 7 (some .int) 98 (i_if_eq 101 114) := snd_if_eq dX12_readBit_98 rfl
theorem sX12_readBit_101 : Snd (miT Tb) RX12 cX12_readBit 7 (some .int) 101 (i_iload 103 4) := snd_iload dX12_readBit_101
theorem sX12_readBit_103 : Snd (miT Tb) RX12 cX12_readBit 7 (some .int) 103 (i_if_ne 106 110) := snd_if_ne dX12_readBit_103 rfl
theorem sX12_readBit_106 : Snd (miT Tb) RX12 cX12_readBit 7 (some .int) 106 (i_const 107 (vI 1)) := snd_iconst dX12_readBit_106
theorem sX12_readBit_107 : Snd (miT Tb) RX12 cX12_readBit 7 (some .int) 107 (i_goto 116) := snd_goto dX12_readBit_107 rfl
theorem sX12_readBit_110 : Snd (miT Tb) RX12 cX12_readBit 7 (some .int) 110 (i_const 111 (vI 0)) := snd_iconst dX12_readBit_110
theorem sX12_readBit_111 : Snd (miT Tb) RX12 cX12_readBit 7 (some .int) 111 (i_goto 116) := snd_goto dX12_readBit_111 rfl
theorem sX12_readBit_114 : Snd (miT Tb) RX12 cX12_readBit 7 (some .int) 114 (i_iload 116 4) := snd_iload dX12_readBit_114
theorem sX12_readBit_116 : Snd (miT Tb) RX12 cX12_readBit 7 (some .int) 116 (i_istore 118 5) := snd_istore (by decide) dX12_readBit_116
theorem sX12_readBit_118 : Snd (miT Tb) RX12 cX12_readBit 7 (some .int) 118 (i_iload 120 5) := snd_iload dX12_readBit_118
theorem sX12_readBit_120 : Snd (miT Tb) RX12 cX12_readBit 7 (some .int) 120 (i_if_eq 123 134) := snd_if_eq dX12_readBit_120 rfl
theorem sX12_readBit_123 : Snd (miT Tb) RX12 cX12_readBit 7 (some .int) 123 (i_const 124 (vI 1)) := snd_iconst dX12_readBit_123
theorem sX12_readBit_124 : Snd (miT Tb) RX12 cX12_readBit 7 (some .int) 124 (i_aload 125 0) := snd_aload_n rfl dX12_readBit_124
theorem sX12_readBit_125 : Snd (miT Tb) RX12 cX12_readBit 7 (some .int) 125 (i_getR 11 31 128) := snd_getR rfl (by decide) (by decide) (by decide) (fun hK ho hs hq kk => gf_X12_87 hK ho hs hq rfl dX12_readBit_125 kk)
theorem sX12_readBit_128 : Snd (miT Tb) RX12 cX12_readBit 7 (some .int) 128 (i_iload 129 1) := snd_iload_n rfl dX12_readBit_128
theorem sX12_readBit_129 : Snd (miT Tb) RX12 cX12_readBit 7 (some .int) 129 (i_iald 130) := snd_iald dX12_readBit_129
theorem sX12_readBit_130 : Snd (miT Tb) RX12 cX12_readBit 7 (some .int) 130 (i_isub 131) := snd_isub dX12_readBit_130
theorem sX12_readBit_131 : Snd (miT Tb) RX12 cX12_readBit 7 (some .int) 131 (i_goto 140) := snd_goto dX12_readBit_131 rfl
theorem sX12_readBit_134 : Snd (miT Tb) RX12 cX12_readBit 7 (some .int) 134 (i_aload 135 0) := snd_aload_n rfl dX12_readBit_134
theorem sX12_readBit_135 : Snd (miT Tb) RX12 cX12_readBit 7 (some .int) 135 (i_getR 11 31 138) := snd_getR rfl (by decide) (by decide) (by decide) (fun hK ho hs hq kk => gf_X12_87 hK ho hs hq rfl dX12_readBit_135 kk)
theorem sX12_readBit_138 : Snd (miT Tb) RX12 cX12_readBit 7 (some .int) 138 (i_iload 139 1) := snd_iload_n rfl dX12_readBit_138
theorem sX12_readBit_139 : Snd (miT Tb) RX12 cX12_readBit 7 (some .int) 139 (i_iald 140) := snd_iald dX12_readBit_139
theorem sX12_readBit_140 : Snd (miT Tb) RX12 cX12_readBit 7 (some .int) 140 (i_istore 142 6) := snd_istore (by decide) dX12_readBit_140
theorem sX12_readBit_142 : Snd (miT Tb) RX12 cX12_readBit 7 (some .int) 142 (i_aload 143 0) := snd_aload_n rfl dX12_readBit_142
theorem sX12_readBit_143 : Snd (miT Tb) RX12 cX12_readBit 7 (some .int) 143 (i_iload 144 3) := snd_iload_n rfl dX12_readBit_143
theorem sX12_readBit_144 : Snd (miT Tb) RX12 cX12_readBit 7 (some .int) 144 (i_if_eq 147 152) := snd_if_eq dX12_readBit_144 rfl
theorem sX12_readBit_147 : Snd (miT Tb) RX12 cX12_readBit 7 (some .int) 147 (i_iload 148 2) := snd_iload_n rfl dX12_readBit_147
theorem sX12_readBit_148 : Snd (miT Tb) RX12 cX12_readBit 7 (some .int) 148 (i_i2l 149) := snd_i2l dX12_readBit_148
theorem sX12_readBit_149 : Snd (miT Tb) RX12 cX12_readBit 7 (some .int) 149 (i_goto 156) := snd_goto dX12_readBit_149 rfl
theorem sX12_readBit_152 : Snd (miT Tb) RX12 cX12_readBit 7 (some .int) 152 (i_aload 153 0) := snd_aload_n rfl dX12_readBit_152
theorem sX12_readBit_153 : Snd (miT Tb) RX12 cX12_readBit 7 (some .int) 153 (i_getJ 11 32 156) := snd_getJ (fun hK ho hs hv kk => gf_X12_171 hK ho hs hv dX12_readBit_153 kk)
theorem sX12_readBit_156 : Snd (miT Tb) RX12 cX12_readBit 7 (some .int) 156 (i_putJ 11 32 159) := snd_putJ (fun hK ho hs kk => pf_X12_171 hK ho hs dX12_readBit_156 kk)
theorem sX12_readBit_159 : Snd (miT Tb) RX12 cX12_readBit 7 (some .int) 159 (i_aload 160 0) := snd_aload_n rfl dX12_readBit_159
theorem sX12_readBit_160 : Snd (miT Tb) RX12 cX12_readBit 7 (some .int) 160 (i_iload 161 1) := snd_iload_n rfl dX12_readBit_160
theorem sX12_readBit_161 : Snd (miT Tb) RX12 cX12_readBit 7 (some .int) 161 (i_iload 163 5) := snd_iload dX12_readBit_161
theorem sX12_readBit_163 : Snd (miT Tb) RX12 cX12_readBit 7 (some .int) 163 (i_cV2 45 11 166) := snd_cV2 (fun hK hd hC ho hs h6 h7 h8 kk => iv_X12_189 hK (mc_45 hC) ho hs ⟨hd, by show _ ≤ 40 * (_ + 1); omega⟩ (Nat.le_refl _) h6 h7 h8 ⟨Nat.le_refl _, Nat.le_refl _⟩ dX12_readBit_163 kk)
theorem sX12_readBit_166 : Snd (miT Tb) RX12 cX12_readBit 7 (some .int) 166 (i_aload 167 0) := snd_aload_n rfl dX12_readBit_166
theorem sX12_readBit_167 : Snd (miT Tb) RX12 cX12_readBit 7 (some .int) 167 (i_getJ 11 32 170) := snd_getJ (fun hK ho hs hv kk => gf_X12_171 hK ho hs hv dX12_readBit_167 kk)
theorem sX12_readBit_170 : Snd (miT Tb) RX12 cX12_readBit 7 (some .int) 170 (i_const 173 (vJ 32768)) := snd_ldc2 lc_X12_169 dX12_readBit_170
theorem sX12_readBit_173 : Snd (miT Tb) RX12 cX12_readBit 7 (some .int) 173 (i_lcmp 174) := snd_lcmp dX12_readBit_173
theorem sX12_readBit_174 : Snd (miT Tb) RX12 cX12_readBit 7 (some .int) 174 (i_if_ge 177 225) := snd_if_ge dX12_readBit_174 rfl
theorem sX12_readBit_177 : Snd (miT Tb) RX12 cX12_readBit 7 (some .int) 177 (i_aload 178 0) := snd_aload_n rfl dX12_readBit_177
theorem sX12_readBit_178 : Snd (miT Tb) RX12 cX12_readBit 7 (some .int) 178 (i_getI 11 34 181) := snd_getI (fun hK ho hs hv kk => gf_X12_178 hK ho hs hv dX12_readBit_178 kk)
theorem sX12_readBit_181 : Snd (miT Tb) RX12 cX12_readBit 7 (some .int) 181 (i_if_ne 184 188) := snd_if_ne dX12_readBit_181 rfl
theorem sX12_readBit_184 : Snd (miT Tb) RX12 cX12_readBit 7 (some .int) 184 (i_aload 185 0) := snd_aload_n rfl dX12_readBit_184
theorem sX12_readBit_185 : Snd (miT Tb) RX12 cX12_readBit 7 (some .int) 185 (i_cV0 60 11 188) := snd_cV0 (fun hK hd hC ho hs h6 h7 h8 kk => iv_X12_216 hK (mc_60 hC) ho hs ⟨hd, by show _ ≤ 40 * (_ + 1); omega⟩ (Nat.le_refl _) h6 h7 h8 ⟨Nat.le_refl _, Nat.le_refl _⟩ dX12_readBit_185 kk)
theorem sX12_readBit_188 : Snd (miT Tb) RX12 cX12_readBit 7 (some .int) 188 (i_aload 189 0) := snd_aload_n rfl dX12_readBit_188
theorem sX12_readBit_189 : Snd (miT Tb) RX12 cX12_readBit 7 (some .int) 189 (i_const 192 (vJ 2)) := snd_ldc2 lc_X12_193 dX12_readBit_189
theorem sX12_readBit_192 : Snd (miT Tb) RX12 cX12_readBit 7 (some .int) 192 (i_aload 193 0) := snd_aload_n rfl dX12_readBit_192
theorem sX12_readBit_193 : Snd (miT Tb) RX12 cX12_readBit 7 (some .int) 193 (i_getJ 11 32 196) := snd_getJ (fun hK ho hs hv kk => gf_X12_171 hK ho hs hv dX12_readBit_193 kk)
theorem sX12_readBit_196 : Snd (miT Tb) RX12 cX12_readBit 7 (some .int) 196 (i_lmul 197) := snd_lmul dX12_readBit_196
theorem sX12_readBit_197 : Snd (miT Tb) RX12 cX12_readBit 7 (some .int) 197 (i_putJ 11 32 200) := snd_putJ (fun hK ho hs kk => pf_X12_171 hK ho hs dX12_readBit_197 kk)
theorem sX12_readBit_200 : Snd (miT Tb) RX12 cX12_readBit 7 (some .int) 200 (i_aload 201 0) := snd_aload_n rfl dX12_readBit_200
theorem sX12_readBit_201 : Snd (miT Tb) RX12 cX12_readBit 7 (some .int) 201 (i_const 204 (vJ 2)) := snd_ldc2 lc_X12_193 dX12_readBit_201
theorem sX12_readBit_204 : Snd (miT Tb) RX12 cX12_readBit 7 (some .int) 204 (i_aload 205 0) := snd_aload_n rfl dX12_readBit_204
theorem sX12_readBit_205 : Snd (miT Tb) RX12 cX12_readBit 7 (some .int) 205 (i_getJ 11 33 208) := snd_getJ (fun hK ho hs hv kk => gf_X12_175 hK ho hs hv dX12_readBit_205 kk)
theorem sX12_readBit_208 : Snd (miT Tb) RX12 cX12_readBit 7 (some .int) 208 (i_lmul 209) := snd_lmul dX12_readBit_208
theorem sX12_readBit_209 : Snd (miT Tb) RX12 cX12_readBit 7 (some .int) 209 (i_putJ 11 33 212) := snd_putJ (fun hK ho hs kk => pf_X12_175 hK ho hs dX12_readBit_209 kk)
theorem sX12_readBit_212 : Snd (miT Tb) RX12 cX12_readBit 7 (some .int) 212 (i_aload 213 0) := snd_aload_n rfl dX12_readBit_212
theorem sX12_readBit_213 : Snd (miT Tb) RX12 cX12_readBit 7 (some .int) 213 (i_dup 214) := snd_dup dX12_readBit_213
theorem sX12_readBit_214 : Snd (miT Tb) RX12 cX12_readBit 7 (some .int) 214 (i_getI 11 34 217) := snd_getI (fun hK ho hs hv kk => gf_X12_178 hK ho hs hv dX12_readBit_214 kk)
theorem sX12_readBit_217 : Snd (miT Tb) RX12 cX12_readBit 7 (some .int) 217 (i_const 218 (vI 1)) := snd_iconst dX12_readBit_217
theorem sX12_readBit_218 : Snd (miT Tb) RX12 cX12_readBit 7 (some .int) 218 (i_isub 219) := snd_isub dX12_readBit_218
theorem sX12_readBit_219 : Snd (miT Tb) RX12 cX12_readBit 7 (some .int) 219 (i_putI 11 34 222) := snd_putI (fun hK ho hs kk => pf_X12_178 hK ho hs dX12_readBit_219 kk)
theorem sX12_readBit_222 : Snd (miT Tb) RX12 cX12_readBit 7 (some .int) 222 (i_goto 166) := snd_goto dX12_readBit_222 rfl
theorem sX12_readBit_225 : Snd (miT Tb) RX12 cX12_readBit 7 (some .int) 225 (i_iload 227 6) := snd_iload dX12_readBit_225
theorem sX12_readBit_227 : Snd (miT Tb) RX12 cX12_readBit 7 (some .int) 227 (i_iret) := snd_iret dX12_readBit_227
theorem kX12_readBit : raA (okI (miT Tb) (yX12_readBit, cX12_readBit, 7, (some .int))) tX12_readBit := (raA_br (raA_br (raA_br (raA_br (raA_br (raA_br (raA_leaf sX12_readBit_0) (raA_br (raA_leaf sX12_readBit_1) (raA_leaf sX12_readBit_4))) (raA_br (raA_br (raA_leaf sX12_readBit_5) (raA_leaf sX12_readBit_8)) (raA_br (raA_leaf sX12_readBit_9) (raA_leaf sX12_readBit_10)))) (raA_br (raA_br (raA_br (raA_leaf sX12_readBit_11) (raA_leaf sX12_readBit_12)) (raA_br (raA_leaf sX12_readBit_13) (raA_leaf sX12_readBit_14))) (raA_br (raA_br (raA_leaf sX12_readBit_17) (raA_leaf sX12_readBit_18)) (raA_br (raA_leaf sX12_readBit_19) (raA_leaf sX12_readBit_20))))) (raA_br (raA_br (raA_br (raA_br (raA_leaf sX12_readBit_23) (raA_leaf sX12_readBit_24)) (raA_br (raA_leaf sX12_readBit_27) (raA_leaf sX12_readBit_30))) (raA_br (raA_br (raA_leaf sX12_readBit_31) (raA_leaf sX12_readBit_32)) (raA_br (raA_leaf sX12_readBit_33) (raA_leaf sX12_readBit_34)))) (raA_br (raA_br (raA_br (raA_leaf sX12_readBit_37) (raA_leaf sX12_readBit_38)) (raA_br (raA_leaf sX12_readBit_41) (raA_leaf sX12_readBit_42))) (raA_br (raA_br (raA_leaf sX12_readBit_43) (raA_leaf sX12_readBit_44)) (raA_br (raA_leaf sX12_readBit_47) (raA_leaf sX12_readBit_48)))))) (raA_br (raA_br (raA_br (raA_br (raA_br (raA_leaf sX12_readBit_49) (raA_leaf sX12_readBit_52)) (raA_br (raA_leaf sX12_readBit_55) (raA_leaf sX12_readBit_56))) (raA_br (raA_br (raA_leaf sX12_readBit_57) (raA_leaf sX12_readBit_58)) (raA_br (raA_leaf sX12_readBit_59) (raA_leaf sX12_readBit_62)))) (raA_br (raA_br (raA_br (raA_leaf sX12_readBit_63) (raA_leaf sX12_readBit_66)) (raA_br (raA_leaf sX12_readBit_69) (raA_leaf sX12_readBit_70))) (raA_br (raA_br (raA_leaf sX12_readBit_73) (raA_leaf sX12_readBit_74)) (raA_br (raA_leaf sX12_readBit_77) (raA_leaf sX12_readBit_78))))) (raA_br (raA_br (raA_br (raA_br (raA_leaf sX12_readBit_79) (raA_leaf sX12_readBit_80)) (raA_br (raA_leaf sX12_readBit_81) (raA_leaf sX12_readBit_84))) (raA_br (raA_br (raA_leaf sX12_readBit_85) (raA_leaf sX12_readBit_86)) (raA_br (raA_leaf sX12_readBit_87) (raA_leaf sX12_readBit_90)))) (raA_br (raA_br (raA_br (raA_leaf sX12_readBit_91) (raA_leaf sX12_readBit_94)) (raA_br (raA_leaf sX12_readBit_95) (raA_leaf sX12_readBit_97))) (raA_br (raA_br (raA_leaf sX12_readBit_98) (raA_leaf sX12_readBit_101)) (raA_br (raA_leaf sX12_readBit_103) (raA_leaf sX12_readBit_106))))))) (raA_br (raA_br (raA_br (raA_br (raA_br (raA_leaf sX12_readBit_107) (raA_br (raA_leaf sX12_readBit_110) (raA_leaf sX12_readBit_111))) (raA_br (raA_br (raA_leaf sX12_readBit_114) (raA_leaf sX12_readBit_116)) (raA_br (raA_leaf sX12_readBit_118) (raA_leaf sX12_readBit_120)))) (raA_br (raA_br (raA_br (raA_leaf sX12_readBit_123) (raA_leaf sX12_readBit_124)) (raA_br (raA_leaf sX12_readBit_125) (raA_leaf sX12_readBit_128))) (raA_br (raA_br (raA_leaf sX12_readBit_129) (raA_leaf sX12_readBit_130)) (raA_br (raA_leaf sX12_readBit_131) (raA_leaf sX12_readBit_134))))) (raA_br (raA_br (raA_br (raA_br (raA_leaf sX12_readBit_135) (raA_leaf sX12_readBit_138)) (raA_br (raA_leaf sX12_readBit_139) (raA_leaf sX12_readBit_140))) (raA_br (raA_br (raA_leaf sX12_readBit_142) (raA_leaf sX12_readBit_143)) (raA_br (raA_leaf sX12_readBit_144) (raA_leaf sX12_readBit_147)))) (raA_br (raA_br (raA_br (raA_leaf sX12_readBit_148) (raA_leaf sX12_readBit_149)) (raA_br (raA_leaf sX12_readBit_152) (raA_leaf sX12_readBit_153))) (raA_br (raA_br (raA_leaf sX12_readBit_156) (raA_leaf sX12_readBit_159)) (raA_br (raA_leaf sX12_readBit_160) (raA_leaf sX12_readBit_161)))))) (raA_br (raA_br (raA_br (raA_br (raA_br (raA_leaf sX12_readBit_163) (raA_leaf sX12_readBit_166)) (raA_br (raA_leaf sX12_readBit_167) (raA_leaf sX12_readBit_170))) (raA_br (raA_br (raA_leaf sX12_readBit_173) (raA_leaf sX12_readBit_174)) (raA_br (raA_leaf sX12_readBit_177) (raA_leaf sX12_readBit_178)))) (raA_br (raA_br (raA_br (raA_leaf sX12_readBit_181) (raA_leaf sX12_readBit_184)) (raA_br (raA_leaf sX12_readBit_185) (raA_leaf sX12_readBit_188))) (raA_br (raA_br (raA_leaf sX12_readBit_189) (raA_leaf sX12_readBit_192)) (raA_br (raA_leaf sX12_readBit_193) (raA_leaf sX12_readBit_196))))) (raA_br (raA_br (raA_br (raA_br (raA_leaf sX12_readBit_197) (raA_leaf sX12_readBit_200)) (raA_br (raA_leaf sX12_readBit_201) (raA_leaf sX12_readBit_204))) (raA_br (raA_br (raA_leaf sX12_readBit_205) (raA_leaf sX12_readBit_208)) (raA_br (raA_leaf sX12_readBit_209) (raA_leaf sX12_readBit_212)))) (raA_br (raA_br (raA_br (raA_leaf sX12_readBit_213) (raA_leaf sX12_readBit_214)) (raA_br (raA_leaf sX12_readBit_217) (raA_leaf sX12_readBit_218))) (raA_br (raA_br (raA_leaf sX12_readBit_219) (raA_leaf sX12_readBit_222)) (raA_br (raA_leaf sX12_readBit_225) (raA_leaf sX12_readBit_227))))))))
theorem sX12_refine_0 : Snd (miT Tb) RX12 cX12_refine 6 none 0 (i_iload 1 1) := snd_iload_n rfl dX12_refine_0
theorem sX12_refine_1 : Snd (miT Tb) RX12 cX12_refine 6 none 1 (i_iload 2 2) := snd_iload_n rfl dX12_refine_1
theorem sX12_refine_2 : Snd (miT Tb) RX12 cX12_refine 6 none 2 (i_cS2 57 5) := snd_cS2 (fun hK hd hC h6 h7 h8 kk => iv_X12_234 hK (mc_57 hC) ⟨hd, by show _ ≤ 40 * (_ + 1); omega⟩ (Nat.le_refl _) h6 h7 h8 ⟨Nat.le_refl _, Nat.le_refl _⟩ dX12_refine_2 kk)
theorem sX12_refine_5 : Snd (miT Tb) RX12 cX12_refine 6 none 5 (i_istore 6 3) := snd_istore_n rfl (by decide) dX12_refine_5
theorem sX12_refine_6 : Snd (miT Tb) RX12 cX12_refine 6 none 6 (i_aload 7 0) := snd_aload_n rfl dX12_refine_6
theorem sX12_refine_7 : Snd (miT Tb) RX12 cX12_refine 6 none 7 (i_iload 8 3) := snd_iload_n rfl dX12_refine_7
theorem sX12_refine_8 : Snd (miT Tb) RX12 cX12_refine 6 none 8 (i_cV1 40 11 11) := snd_cV1 (fun hK hd hC ho hs h6 h7 h8 kk => iv_X12_231 hK (mc_40 hC) ho hs ⟨hd, by show _ ≤ 40 * (_ + 1); omega⟩ (Nat.le_refl _) h6 h7 h8 ⟨Nat.le_refl _, Nat.le_refl _⟩ dX12_refine_8 kk)
theorem sX12_refine_11 : Snd (miT Tb) RX12 cX12_refine 6 none 11 (i_if_eq 14 28) := snd_if_eq dX12_refine_11 rfl
theorem sX12_refine_14 : Snd (miT Tb) RX12 cX12_refine 6 none 14 (i_aload 15 0) := snd_aload_n rfl dX12_refine_14
theorem sX12_refine_15 : Snd (miT Tb) RX12 cX12_refine 6 none 15 (i_getR 11 24 18) := snd_getR rfl (by decide) (by decide) (by decide) (fun hK ho hs hq kk => gf_X12_78 hK ho hs hq rfl dX12_refine_15 kk)
theorem sX12_refine_18 : Snd (miT Tb) RX12 cX12_refine 6 none 18 (i_const 20 (vI 8)) := snd_bipush (by decide) dX12_refine_18
theorem sX12_refine_20 : Snd (miT Tb) RX12 cX12_refine 6 none 20 (i_iload 21 2) := snd_iload_n rfl dX12_refine_20
theorem sX12_refine_21 : Snd (miT Tb) RX12 cX12_refine 6 none 21 (i_imul 22) := snd_imul dX12_refine_21
theorem sX12_refine_22 : Snd (miT Tb) RX12 cX12_refine 6 none 22 (i_iload 23 1) := snd_iload_n rfl dX12_refine_22
theorem sX12_refine_23 : Snd (miT Tb) RX12 cX12_refine 6 none 23 (i_iadd 24) := snd_iadd dX12_refine_23
theorem sX12_refine_24 : Snd (miT Tb) RX12 cX12_refine 6 none 24 (i_zald 25) := snd_zald dX12_refine_24
theorem sX12_refine_25 : Snd (miT Tb) RX12 cX12_refine 6 none 25 (i_if_eq 28 29) := snd_if_eq dX12_refine_25 rfl
theorem sX12_refine_28 : Snd (miT Tb) RX12 cX12_refine 6 none 28 (i_vret) := snd_vret dX12_refine_28
theorem sX12_refine_29 : Snd (miT Tb) RX12 cX12_refine 6 none 29 (i_aload 30 0) := snd_aload_n rfl dX12_refine_29
theorem sX12_refine_30 : Snd (miT Tb) RX12 cX12_refine 6 none 30 (i_getR 11 25 33) := snd_getR rfl (by decide) (by decide) (by decide) (fun hK ho hs hq kk => gf_X12_81 hK ho hs hq rfl dX12_refine_30 kk)
theorem sX12_refine_33 : Snd (miT Tb) RX12 cX12_refine 6 none 33 (i_const 35 (vI 8)) := snd_bipush (by decide) dX12_refine_33
theorem sX12_refine_35 : Snd (miT Tb) RX12 cX12_refine 6 none 35 (i_iload 36 2) := snd_iload_n rfl dX12_refine_35
theorem sX12_refine_36 : Snd (miT Tb) RX12 cX12_refine 6 none 36 (i_imul 37) := snd_imul dX12_refine_36
theorem sX12_refine_37 : Snd (miT Tb) RX12 cX12_refine 6 none 37 (i_iload 38 1) := snd_iload_n rfl dX12_refine_37
theorem sX12_refine_38 : Snd (miT Tb) RX12 cX12_refine 6 none 38 (i_iadd 39) := snd_iadd dX12_refine_38
theorem sX12_refine_39 : Snd (miT Tb) RX12 cX12_refine 6 none 39 (i_zald 40) := snd_zald dX12_refine_39
theorem sX12_refine_40 : Snd (miT Tb) RX12 cX12_refine 6 none 40 (i_if_eq 43 48) := snd_if_eq dX12_refine_40 rfl
theorem sX12_refine_43 : Snd (miT Tb) RX12 cX12_refine 6 none 43 (i_const 45 (vI 16)) := snd_bipush (by decide) dX12_refine_43
theorem sX12_refine_45 : Snd (miT Tb) RX12 cX12_refine 6 none 45 (i_goto 75) := snd_goto dX12_refine_45 rfl
theorem sX12_refine_48 : Snd (miT Tb) RX12 cX12_refine 6 none 48 (i_aload 49 0) := snd_aload_n rfl dX12_refine_48
theorem sX12_refine_49 : Snd (miT Tb) RX12 cX12_refine 6 none 49 (i_iload 50 3) := snd_iload_n rfl dX12_refine_49
theorem sX12_refine_50 : Snd (miT Tb) RX12 cX12_refine 6 none 50 (i_cV1 42 11 53) := snd_cV1 (fun hK hd hC ho hs h6 h7 h8 kk => iv_X12_237 hK (mc_42 hC) ho hs ⟨hd, by show _ ≤ 40 * (_ + 1); omega⟩ (Nat.le_refl _) h6 h7 h8 ⟨Nat.le_refl _, Nat.le_refl _⟩ dX12_refine_50 kk)
theorem sX12_refine_53 : Snd (miT Tb) RX12 cX12_refine 6 none 53 (i_aload 54 0) := snd_aload_n rfl dX12_refine_53
theorem sX12_refine_54 : Snd (miT Tb) RX12 cX12_refine 6 none 54 (i_iload 55 3) := snd_iload_n rfl dX12_refine_54
theorem sX12_refine_55 : Snd (miT Tb) RX12 cX12_refine 6 none 55 (i_cV1 41 11 58) := snd_cV1 (fun hK hd hC ho hs h6 h7 h8 kk => iv_X12_240 hK (mc_41 hC) ho hs ⟨hd, by show _ ≤ 40 * (_ + 1); omega⟩ (Nat.le_refl _) h6 h7 h8 ⟨Nat.le_refl _, Nat.le_refl _⟩ dX12_refine_55 kk)
theorem sX12_refine_58 : Snd (miT Tb) RX12 cX12_refine 6 none 58 (i_iadd 59) := snd_iadd dX12_refine_58
theorem sX12_refine_59 : Snd (miT Tb) RX12 cX12_refine 6 none 59 (i_aload 60 0) := snd_aload_n rfl dX12_refine_59
theorem sX12_refine_60 : Snd (miT Tb) RX12 cX12_refine 6 none 60 (i_iload 61 3) := snd_iload_n rfl dX12_refine_60
theorem sX12_refine_61 : Snd (miT Tb) RX12 cX12_refine 6 none 61 (i_cV1 20 11 64) := snd_cV1 (fun hK hd hC ho hs h6 h7 h8 kk => iv_X12_243 hK (mc_20 hC) ho hs ⟨hd, by show _ ≤ 40 * (_ + 1); omega⟩ (Nat.le_refl _) h6 h7 h8 ⟨Nat.le_refl _, Nat.le_refl _⟩ dX12_refine_61 kk)
theorem sX12_refine_64 : Snd (miT Tb) RX12 cX12_refine 6 none 64 (i_iadd 65) := snd_iadd dX12_refine_64
theorem sX12_refine_65 : Snd (miT Tb) RX12 cX12_refine 6 none 65 (i_if_le 68 73) := snd_if_le dX12_refine_65 rfl
theorem sX12_refine_68 : Snd (miT Tb) RX12 cX12_refine 6 none 68 (i_const 70 (vI 15)) := snd_bipush (by decide) dX12_refine_68
theorem sX12_refine_70 : Snd (miT Tb) RX12 cX12_refine 6 none 70 (i_goto 75) := snd_goto dX12_refine_70 rfl
theorem sX12_refine_73 : Snd (miT Tb) RX12 cX12_refine 6 none 73 (i_const 75 (vI 14)) := snd_bipush (by decide) dX12_refine_73
theorem sX12_refine_75 : Snd (miT Tb) RX12 cX12_refine 6 none 75 (i_istore 77 4) := snd_istore (by decide) dX12_refine_75
theorem sX12_refine_77 : Snd (miT Tb) RX12 cX12_refine 6 none 77 (i_aload 78 0) := snd_aload_n rfl dX12_refine_77
theorem sX12_refine_78 : Snd (miT Tb) RX12 cX12_refine 6 none 78 (i_iload 80 4) := snd_iload dX12_refine_78
theorem sX12_refine_80 : Snd (miT Tb) RX12 cX12_refine 6 none 80 (i_aload 81 0) := snd_aload_n rfl dX12_refine_80
theorem sX12_refine_81 : Snd (miT Tb) RX12 cX12_refine 6 none 81 (i_iload 82 1) := snd_iload_n rfl dX12_refine_81
theorem sX12_refine_82 : Snd (miT Tb) RX12 cX12_refine 6 none 82 (i_iload 83 2) := snd_iload_n rfl dX12_refine_82
theorem sX12_refine_83 : Snd (miT Tb) RX12 cX12_refine 6 none 83 (i_cV2 25 11 86) := snd_cV2 (fun hK hd hC ho hs h6 h7 h8 kk => iv_X12_264 hK (mc_25 hC) ho hs ⟨hd, by show _ ≤ 40 * (_ + 1); omega⟩ (Nat.le_refl _) h6 h7 h8 ⟨Nat.le_refl _, Nat.le_refl _⟩ dX12_refine_83 kk)
theorem sX12_refine_86 : Snd (miT Tb) RX12 cX12_refine 6 none 86 (i_cV2 29 11 89) := snd_cV2 (fun hK hd hC ho hs h6 h7 h8 kk => iv_X12_258 hK (mc_29 hC) ho hs ⟨hd, by show _ ≤ 40 * (_ + 1); omega⟩ (Nat.le_refl _) h6 h7 h8 ⟨Nat.le_refl _, Nat.le_refl _⟩ dX12_refine_86 kk)
theorem sX12_refine_89 : Snd (miT Tb) RX12 cX12_refine 6 none 89 (i_istore 91 5) := snd_istore (by decide) dX12_refine_89
theorem sX12_refine_91 : Snd (miT Tb) RX12 cX12_refine 6 none 91 (i_aload 92 0) := snd_aload_n rfl dX12_refine_91
theorem sX12_refine_92 : Snd (miT Tb) RX12 cX12_refine 6 none 92 (i_getR 11 25 95) := snd_getR rfl (by decide) (by decide) (by decide) (fun hK ho hs hq kk => gf_X12_81 hK ho hs hq rfl dX12_refine_92 kk)
theorem sX12_refine_95 : Snd (miT Tb) RX12 cX12_refine 6 none 95 (i_const 97 (vI 8)) := snd_bipush (by decide) dX12_refine_95
theorem sX12_refine_97 : Snd (miT Tb) RX12 cX12_refine 6 none 97 (i_iload 98 2) := snd_iload_n rfl dX12_refine_97
theorem sX12_refine_98 : Snd (miT Tb) RX12 cX12_refine 6 none 98 (i_imul 99) := snd_imul dX12_refine_98
theorem sX12_refine_99 : Snd (miT Tb) RX12 cX12_refine 6 none 99 (i_iload 100 1) := snd_iload_n rfl dX12_refine_99
theorem sX12_refine_100 : Snd (miT Tb) RX12 cX12_refine 6 none 100 (i_iadd 101) := snd_iadd dX12_refine_100
theorem sX12_refine_101 : Snd (miT Tb) RX12 cX12_refine 6 none 101 (i_const 102 (vI 1)) := snd_iconst dX12_refine_101
theorem sX12_refine_102 : Snd (miT Tb) RX12 cX12_refine 6 none 102 (i_zast 103) := snd_zast dX12_refine_102
theorem sX12_refine_103 : Snd (miT Tb) RX12 cX12_refine 6 none 103 (i_aload 104 0) := snd_aload_n rfl dX12_refine_103
theorem sX12_refine_104 : Snd (miT Tb) RX12 cX12_refine 6 none 104 (i_getI 11 29 107) := snd_getI (fun hK ho hs hv kk => gf_X12_163 hK ho hs hv dX12_refine_104 kk)
theorem sX12_refine_107 : Snd (miT Tb) RX12 cX12_refine 6 none 107 (i_const 108 (vI 1)) := snd_iconst dX12_refine_107
theorem sX12_refine_108 : Snd (miT Tb) RX12 cX12_refine 6 none 108 (i_icmp_ne 111 141) := snd_icmp_ne dX12_refine_108 rfl
theorem sX12_refine_111 : Snd (miT Tb) RX12 cX12_refine 6 none 111 (i_aload 112 0) := snd_aload_n rfl dX12_refine_111
theorem sX12_refine_112 : Snd (miT Tb) RX12 cX12_refine 6 none 112 (i_getR 11 13 115) := snd_getR rfl (by decide) (by decide) (by decide) (fun hK ho hs hq kk => gf_X12_47 hK ho hs hq rfl dX12_refine_112 kk)
theorem sX12_refine_115 : Snd (miT Tb) RX12 cX12_refine 6 none 115 (i_aload 116 0) := snd_aload_n rfl dX12_refine_115
theorem sX12_refine_116 : Snd (miT Tb) RX12 cX12_refine 6 none 116 (i_iload 117 1) := snd_iload_n rfl dX12_refine_116
theorem sX12_refine_117 : Snd (miT Tb) RX12 cX12_refine 6 none 117 (i_iload 118 2) := snd_iload_n rfl dX12_refine_117
theorem sX12_refine_118 : Snd (miT Tb) RX12 cX12_refine 6 none 118 (i_cV2 27 11 121) := snd_cV2 (fun hK hd hC ho hs h6 h7 h8 kk => iv_X12_249 hK (mc_27 hC) ho hs ⟨hd, by show _ ≤ 40 * (_ + 1); omega⟩ (Nat.le_refl _) h6 h7 h8 ⟨Nat.le_refl _, Nat.le_refl _⟩ dX12_refine_118 kk)
theorem sX12_refine_121 : Snd (miT Tb) RX12 cX12_refine 6 none 121 (i_aload 122 0) := snd_aload_n rfl dX12_refine_121
theorem sX12_refine_122 : Snd (miT Tb) RX12 cX12_refine 6 none 122 (i_getR 11 13 125) := snd_getR rfl (by decide) (by decide) (by decide) (fun hK ho hs hq kk => gf_X12_47 hK ho hs hq rfl dX12_refine_122 kk)
theorem sX12_refine_125 : Snd (miT Tb) RX12 cX12_refine 6 none 125 (i_aload 126 0) := snd_aload_n rfl dX12_refine_125
theorem sX12_refine_126 : Snd (miT Tb) RX12 cX12_refine 6 none 126 (i_iload 127 1) := snd_iload_n rfl dX12_refine_126
theorem sX12_refine_127 : Snd (miT Tb) RX12 cX12_refine 6 none 127 (i_iload 128 2) := snd_iload_n rfl dX12_refine_127
theorem sX12_refine_128 : Snd (miT Tb) RX12 cX12_refine 6 none 128 (i_cV2 27 11 131) := snd_cV2 (fun hK hd hC ho hs h6 h7 h8 kk => iv_X12_249 hK (mc_27 hC) ho hs ⟨hd, by show _ ≤ 40 * (_ + 1); omega⟩ (Nat.le_refl _) h6 h7 h8 ⟨Nat.le_refl _, Nat.le_refl _⟩ dX12_refine_128 kk)
theorem sX12_refine_131 : Snd (miT Tb) RX12 cX12_refine 6 none 131 (i_iald 132) := snd_iald dX12_refine_131
theorem sX12_refine_132 : Snd (miT Tb) RX12 cX12_refine 6 none 132 (i_iload 134 5) := snd_iload dX12_refine_132
theorem sX12_refine_134 : Snd (miT Tb) RX12 cX12_refine 6 none 134 (i_aload 135 0) := snd_aload_n rfl dX12_refine_134
theorem sX12_refine_135 : Snd (miT Tb) RX12 cX12_refine 6 none 135 (i_getI 11 27 138) := snd_getI (fun hK ho hs hv kk => gf_X12_252 hK ho hs hv dX12_refine_135 kk)
theorem sX12_refine_138 : Snd (miT Tb) RX12 cX12_refine 6 none 138 (i_ishl 139) := snd_ishl dX12_refine_138
theorem sX12_refine_139 : Snd (miT Tb) RX12 cX12_refine 6 none 139 (i_ior 140) := snd_ior dX12_refine_139
theorem sX12_refine_140 : Snd (miT Tb) RX12 cX12_refine 6 none 140 (i_iast 141) := snd_iast dX12_refine_140
theorem sX12_refine_141 : Snd (miT Tb) RX12 cX12_refine 6 none 141 (i_vret) := snd_vret dX12_refine_141
theorem kX12_refine : raA (okI (miT Tb) (yX12_refine, cX12_refine, 6, none)) tX12_refine := (raA_br (raA_br (raA_br (raA_br (raA_br (raA_br (raA_leaf sX12_refine_0) (raA_leaf sX12_refine_1)) (raA_br (raA_leaf sX12_refine_2) (raA_br (raA_leaf sX12_refine_5) (raA_leaf sX12_refine_6)))) (raA_br (raA_br (raA_leaf sX12_refine_7) (raA_leaf sX12_refine_8)) (raA_br (raA_leaf sX12_refine_11) (raA_br (raA_leaf sX12_refine_14) (raA_leaf sX12_refine_15))))) (raA_br (raA_br (raA_br (raA_leaf sX12_refine_18) (raA_leaf sX12_refine_20)) (raA_br (raA_leaf sX12_refine_21) (raA_br (raA_leaf sX12_refine_22) (raA_leaf sX12_refine_23)))) (raA_br (raA_br (raA_leaf sX12_refine_24) (raA_br (raA_leaf sX12_refine_25) (raA_leaf sX12_refine_28))) (raA_br (raA_leaf sX12_refine_29) (raA_br (raA_leaf sX12_refine_30) (raA_leaf sX12_refine_33)))))) (raA_br (raA_br (raA_br (raA_br (raA_leaf sX12_refine_35) (raA_leaf sX12_refine_36)) (raA_br (raA_leaf sX12_refine_37) (raA_br (raA_leaf sX12_refine_38) (raA_leaf sX12_refine_39)))) (raA_br (raA_br (raA_leaf sX12_refine_40) (raA_br (raA_leaf sX12_refine_43) (raA_leaf sX12_refine_45))) (raA_br (raA_leaf sX12_refine_48) (raA_br (raA_leaf sX12_refine_49) (raA_leaf sX12_refine_50))))) (raA_br (raA_br (raA_br (raA_leaf sX12_refine_53) (raA_leaf sX12_refine_54)) (raA_br (raA_leaf sX12_refine_55) (raA_br (raA_leaf sX12_refine_58) (raA_leaf sX12_refine_59)))) (raA_br (raA_br (raA_leaf sX12_refine_60) (raA_br (raA_leaf sX12_refine_61) (raA_leaf sX12_refine_64))) (raA_br (raA_leaf sX12_refine_65) (raA_br (raA_leaf sX12_refine_68) (raA_leaf sX12_refine_70))))))) (raA_br (raA_br (raA_br (raA_br (raA_br (raA_leaf sX12_refine_73) (raA_leaf sX12_refine_75)) (raA_br (raA_leaf sX12_refine_77) (raA_br (raA_leaf sX12_refine_78) (raA_leaf sX12_refine_80)))) (raA_br (raA_br (raA_leaf sX12_refine_81) (raA_leaf sX12_refine_82)) (raA_br (raA_leaf sX12_refine_83) (raA_br (raA_leaf sX12_refine_86) (raA_leaf sX12_refine_89))))) (raA_br (raA_br (raA_br (raA_leaf sX12_refine_91) (raA_leaf sX12_refine_92)) (raA_br (raA_leaf sX12_refine_95) (raA_br (raA_leaf sX12_refine_97) (raA_leaf sX12_refine_98)))) (raA_br (raA_br (raA_leaf sX12_refine_99) (raA_br (raA_leaf sX12_refine_100) (raA_leaf sX12_refine_101))) (raA_br (raA_leaf sX12_refine_102) (raA_br (raA_leaf sX12_refine_103) (raA_leaf sX12_refine_104)))))) (raA_br (raA_br (raA_br (raA_br (raA_leaf sX12_refine_107) (raA_leaf sX12_refine_108)) (raA_br (raA_leaf sX12_refine_111) (raA_br (raA_leaf sX12_refine_112) (raA_leaf sX12_refine_115)))) (raA_br (raA_br (raA_leaf sX12_refine_116) (raA_br (raA_leaf sX12_refine_117) (raA_leaf sX12_refine_118))) (raA_br (raA_leaf sX12_refine_121) (raA_br (raA_leaf sX12_refine_122) (raA_leaf sX12_refine_125))))) (raA_br (raA_br (raA_br (raA_leaf sX12_refine_126) (raA_leaf sX12_refine_127)) (raA_br (raA_leaf sX12_refine_128) (raA_br (raA_leaf sX12_refine_131) (raA_leaf sX12_refine_132)))) (raA_br (raA_br (raA_leaf sX12_refine_134) (raA_br (raA_leaf sX12_refine_135) (raA_leaf sX12_refine_138))) (raA_br (raA_leaf sX12_refine_139) (raA_br (raA_leaf sX12_refine_140) (raA_leaf sX12_refine_141))))))))
theorem sX12_rows_0 : Snd (miT Tb) RX12 cX12_rows 5 none 0 (i_const 1 (vI 0)) := snd_iconst dX12_rows_0
theorem sX12_rows_1 : Snd (miT Tb) RX12 cX12_rows 5 none 1 (i_istore 3 4) := snd_istore (by decide) dX12_rows_1
theorem sX12_rows_3 : Snd (miT Tb) RX12 cX12_rows 5 none 3 (i_iload 5 4) := snd_iload dX12_rows_3
theorem sX12_rows_5 : Snd (miT Tb) RX12 cX12_rows 5 none 5 (i_iload 6 2) := snd_iload_n rfl dX12_rows_5
theorem sX12_rows_6 : Snd (miT Tb) RX12 cX12_rows 5 none 6 (i_icmp_ge 9 27) := snd_icmp_ge dX12_rows_6 rfl
theorem sX12_rows_9 : Snd (miT Tb) RX12 cX12_rows 5 none 9 (i_aload 10 0) := snd_aload_n rfl dX12_rows_9
theorem sX12_rows_10 : Snd (miT Tb) RX12 cX12_rows 5 none 10 (i_const 12 (vI 8)) := snd_bipush (by decide) dX12_rows_10
theorem sX12_rows_12 : Snd (miT Tb) RX12 cX12_rows 5 none 12 (i_iload 14 4) := snd_iload dX12_rows_12
theorem sX12_rows_14 : Snd (miT Tb) RX12 cX12_rows 5 none 14 (i_imul 15) := snd_imul dX12_rows_14
theorem sX12_rows_15 : Snd (miT Tb) RX12 cX12_rows 5 none 15 (i_const 16 (vI 1)) := snd_iconst dX12_rows_15
theorem sX12_rows_16 : Snd (miT Tb) RX12 cX12_rows 5 none 16 (i_iload 17 1) := snd_iload_n rfl dX12_rows_16
theorem sX12_rows_17 : Snd (miT Tb) RX12 cX12_rows 5 none 17 (i_iload 18 3) := snd_iload_n rfl dX12_rows_17
theorem sX12_rows_18 : Snd (miT Tb) RX12 cX12_rows 5 none 18 (i_cV4 68 11 21) := snd_cV4 (fun hK hd hC ho hs h6 h7 h8 kk => iv_X12_149 hK (mc_68 hC) ho hs ⟨hd, by show _ ≤ 40 * (_ + 1); omega⟩ (Nat.le_refl _) h6 h7 h8 ⟨Nat.le_refl _, Nat.le_refl _⟩ dX12_rows_18 kk)
theorem sX12_rows_21 : Snd (miT Tb) RX12 cX12_rows 5 none 21 (i_iinc 24 4 1) := snd_iinc (by decide) dX12_rows_21
theorem sX12_rows_24 : Snd (miT Tb) RX12 cX12_rows 5 none 24 (i_goto 3) := snd_goto dX12_rows_24 rfl
theorem sX12_rows_27 : Snd (miT Tb) RX12 cX12_rows 5 none 27 (i_vret) := snd_vret dX12_rows_27
theorem kX12_rows : raA (okI (miT Tb) (yX12_rows, cX12_rows, 5, none)) tX12_rows := (raA_br (raA_br (raA_br (raA_br (raA_leaf sX12_rows_0) (raA_leaf sX12_rows_1)) (raA_br (raA_leaf sX12_rows_3) (raA_leaf sX12_rows_5))) (raA_br (raA_br (raA_leaf sX12_rows_6) (raA_leaf sX12_rows_9)) (raA_br (raA_leaf sX12_rows_10) (raA_leaf sX12_rows_12)))) (raA_br (raA_br (raA_br (raA_leaf sX12_rows_14) (raA_leaf sX12_rows_15)) (raA_br (raA_leaf sX12_rows_16) (raA_leaf sX12_rows_17))) (raA_br (raA_br (raA_leaf sX12_rows_18) (raA_leaf sX12_rows_21)) (raA_br (raA_leaf sX12_rows_24) (raA_leaf sX12_rows_27)))))
theorem sX12_spot_0 : Snd (miT Tb) RX12 cX12_spot 2 (some .int) 0 (i_const 2 (vI 10)) := snd_bipush (by decide) dX12_spot_0
theorem sX12_spot_2 : Snd (miT Tb) RX12 cX12_spot 2 (some .int) 2 (i_iload 3 1) := snd_iload_n rfl dX12_spot_2
theorem sX12_spot_3 : Snd (miT Tb) RX12 cX12_spot 2 (some .int) 3 (i_imul 4) := snd_imul dX12_spot_3
theorem sX12_spot_4 : Snd (miT Tb) RX12 cX12_spot 2 (some .int) 4 (i_iload 5 0) := snd_iload_n rfl dX12_spot_4
theorem sX12_spot_5 : Snd (miT Tb) RX12 cX12_spot 2 (some .int) 5 (i_iadd 6) := snd_iadd dX12_spot_5
theorem sX12_spot_6 : Snd (miT Tb) RX12 cX12_spot 2 (some .int) 6 (i_const 8 (vI 11)) := snd_bipush (by decide) dX12_spot_6
theorem sX12_spot_8 : Snd (miT Tb) RX12 cX12_spot 2 (some .int) 8 (i_iadd 9) := snd_iadd dX12_spot_8
theorem sX12_spot_9 : Snd (miT Tb) RX12 cX12_spot 2 (some .int) 9 (i_iret) := snd_iret dX12_spot_9
theorem kX12_spot : raA (okI (miT Tb) (yX12_spot, cX12_spot, 2, (some .int))) tX12_spot := (raA_br (raA_br (raA_br (raA_leaf sX12_spot_0) (raA_leaf sX12_spot_2)) (raA_br (raA_leaf sX12_spot_3) (raA_leaf sX12_spot_4))) (raA_br (raA_br (raA_leaf sX12_spot_5) (raA_leaf sX12_spot_6)) (raA_br (raA_leaf sX12_spot_8) (raA_leaf sX12_spot_9))))
theorem sX12_spread_0 : Snd (miT Tb) RX12 cX12_spread 4 none 0 (i_aload 1 0) := snd_aload_n rfl dX12_spread_0
theorem sX12_spread_1 : Snd (miT Tb) RX12 cX12_spread 4 none 1 (i_iload 2 1) := snd_iload_n rfl dX12_spread_1
theorem sX12_spread_2 : Snd (miT Tb) RX12 cX12_spread 4 none 2 (i_iload 3 2) := snd_iload_n rfl dX12_spread_2
theorem sX12_spread_3 : Snd (miT Tb) RX12 cX12_spread 4 none 3 (i_cV2 32 11 6) := snd_cV2 (fun hK hd hC ho hs h6 h7 h8 kk => iv_X12_261 hK (mc_32 hC) ho hs ⟨hd, by show _ ≤ 40 * (_ + 1); omega⟩ (Nat.le_refl _) h6 h7 h8 ⟨Nat.le_refl _, Nat.le_refl _⟩ dX12_spread_3 kk)
theorem sX12_spread_6 : Snd (miT Tb) RX12 cX12_spread 4 none 6 (i_istore 7 3) := snd_istore_n rfl (by decide) dX12_spread_6
theorem sX12_spread_7 : Snd (miT Tb) RX12 cX12_spread 4 none 7 (i_aload 8 0) := snd_aload_n rfl dX12_spread_7
theorem sX12_spread_8 : Snd (miT Tb) RX12 cX12_spread 4 none 8 (i_iload 9 1) := snd_iload_n rfl dX12_spread_8
theorem sX12_spread_9 : Snd (miT Tb) RX12 cX12_spread 4 none 9 (i_iload 10 2) := snd_iload_n rfl dX12_spread_9
theorem sX12_spread_10 : Snd (miT Tb) RX12 cX12_spread 4 none 10 (i_cS2 57 13) := snd_cS2 (fun hK hd hC h6 h7 h8 kk => iv_X12_234 hK (mc_57 hC) ⟨hd, by show _ ≤ 40 * (_ + 1); omega⟩ (Nat.le_refl _) h6 h7 h8 ⟨Nat.le_refl _, Nat.le_refl _⟩ dX12_spread_10 kk)
theorem sX12_spread_13 : Snd (miT Tb) RX12 cX12_spread 4 none 13 (i_cV1 40 11 16) := snd_cV1 (fun hK hd hC ho hs h6 h7 h8 kk => iv_X12_231 hK (mc_40 hC) ho hs ⟨hd, by show _ ≤ 40 * (_ + 1); omega⟩ (Nat.le_refl _) h6 h7 h8 ⟨Nat.le_refl _, Nat.le_refl _⟩ dX12_spread_13 kk)
theorem sX12_spread_16 : Snd (miT Tb) RX12 cX12_spread 4 none 16 (i_if_ne 19 56) := snd_if_ne dX12_spread_16 rfl
theorem sX12_spread_19 : Snd (miT Tb) RX12 cX12_spread 4 none 19 (i_iload 20 3) := snd_iload_n rfl dX12_spread_19
theorem sX12_spread_20 : Snd (miT Tb) RX12 cX12_spread 4 none 20 (i_if_le 23 56) := snd_if_le dX12_spread_20 rfl
theorem sX12_spread_23 : Snd (miT Tb) RX12 cX12_spread 4 none 23 (i_aload 24 0) := snd_aload_n rfl dX12_spread_23
theorem sX12_spread_24 : Snd (miT Tb) RX12 cX12_spread 4 none 24 (i_getR 11 24 27) := snd_getR rfl (by decide) (by decide) (by decide) (fun hK ho hs hq kk => gf_X12_78 hK ho hs hq rfl dX12_spread_24 kk)
theorem sX12_spread_27 : Snd (miT Tb) RX12 cX12_spread 4 none 27 (i_const 29 (vI 8)) := snd_bipush (by decide) dX12_spread_27
theorem sX12_spread_29 : Snd (miT Tb) RX12 cX12_spread 4 none 29 (i_iload 30 2) := snd_iload_n rfl dX12_spread_29
theorem sX12_spread_30 : Snd (miT Tb) RX12 cX12_spread 4 none 30 (i_imul 31) := snd_imul dX12_spread_30
theorem sX12_spread_31 : Snd (miT Tb) RX12 cX12_spread 4 none 31 (i_iload 32 1) := snd_iload_n rfl dX12_spread_31
theorem sX12_spread_32 : Snd (miT Tb) RX12 cX12_spread 4 none 32 (i_iadd 33) := snd_iadd dX12_spread_32
theorem sX12_spread_33 : Snd (miT Tb) RX12 cX12_spread 4 none 33 (i_const 34 (vI 1)) := snd_iconst dX12_spread_33
theorem sX12_spread_34 : Snd (miT Tb) RX12 cX12_spread 4 none 34 (i_zast 35) := snd_zast dX12_spread_34
theorem sX12_spread_35 : Snd (miT Tb) RX12 cX12_spread 4 none 35 (i_aload 36 0) := snd_aload_n rfl dX12_spread_35
theorem sX12_spread_36 : Snd (miT Tb) RX12 cX12_spread 4 none 36 (i_iload 37 3) := snd_iload_n rfl dX12_spread_36
theorem sX12_spread_37 : Snd (miT Tb) RX12 cX12_spread 4 none 37 (i_aload 38 0) := snd_aload_n rfl dX12_spread_37
theorem sX12_spread_38 : Snd (miT Tb) RX12 cX12_spread 4 none 38 (i_iload 39 1) := snd_iload_n rfl dX12_spread_38
theorem sX12_spread_39 : Snd (miT Tb) RX12 cX12_spread 4 none 39 (i_iload 40 2) := snd_iload_n rfl dX12_spread_39
theorem sX12_spread_40 : Snd (miT Tb) RX12 cX12_spread 4 none 40 (i_cV2 25 11 43) := snd_cV2 (fun hK hd hC ho hs h6 h7 h8 kk => iv_X12_264 hK (mc_25 hC) ho hs ⟨hd, by show _ ≤ 40 * (_ + 1); omega⟩ (Nat.le_refl _) h6 h7 h8 ⟨Nat.le_refl _, Nat.le_refl _⟩ dX12_spread_40 kk)
theorem sX12_spread_43 : Snd (miT Tb) RX12 cX12_spread 4 none 43 (i_cV2 29 11 46) := snd_cV2 (fun hK hd hC ho hs h6 h7 h8 kk => iv_X12_258 hK (mc_29 hC) ho hs ⟨hd, by show _ ≤ 40 * (_ + 1); omega⟩ (Nat.le_refl _) h6 h7 h8 ⟨Nat.le_refl _, Nat.le_refl _⟩ dX12_spread_43 kk)
theorem sX12_spread_46 : Snd (miT Tb) RX12 cX12_spread 4 none 46 (i_const 47 (vI 1)) := snd_iconst dX12_spread_46
theorem sX12_spread_47 : Snd (miT Tb) RX12 cX12_spread 4 none 47 (i_icmp_ne 50 56) := snd_icmp_ne dX12_spread_47 rfl
theorem sX12_spread_50 : Snd (miT Tb) RX12 cX12_spread 4 none 50 (i_aload 51 0) := snd_aload_n rfl dX12_spread_50
theorem sX12_spread_51 : Snd (miT Tb) RX12 cX12_spread 4 none 51 (i_iload 52 1) := snd_iload_n rfl dX12_spread_51
theorem sX12_spread_52 : Snd (miT Tb) RX12 cX12_spread 4 none 52 (i_iload 53 2) := snd_iload_n rfl dX12_spread_52
theorem sX12_spread_53 : Snd (miT Tb) RX12 cX12_spread 4 none 53 (i_cV2 65 11 56) := snd_cV2 (fun hK hd hC ho hs h6 h7 h8 kk => iv_X12_267 hK (mc_65 hC) ho hs ⟨hd, by show _ ≤ 40 * (_ + 1); omega⟩ (Nat.le_refl _) h6 h7 h8 ⟨Nat.le_refl _, Nat.le_refl _⟩ dX12_spread_53 kk)
theorem sX12_spread_56 : Snd (miT Tb) RX12 cX12_spread 4 none 56 (i_vret) := snd_vret dX12_spread_56
theorem kX12_spread : raA (okI (miT Tb) (yX12_spread, cX12_spread, 4, none)) tX12_spread := (raA_br (raA_br (raA_br (raA_br (raA_br (raA_leaf sX12_spread_0) (raA_leaf sX12_spread_1)) (raA_br (raA_leaf sX12_spread_2) (raA_leaf sX12_spread_3))) (raA_br (raA_br (raA_leaf sX12_spread_6) (raA_leaf sX12_spread_7)) (raA_br (raA_leaf sX12_spread_8) (raA_br (raA_leaf sX12_spread_9) (raA_leaf sX12_spread_10))))) (raA_br (raA_br (raA_br (raA_leaf sX12_spread_13) (raA_leaf sX12_spread_16)) (raA_br (raA_leaf sX12_spread_19) (raA_leaf sX12_spread_20))) (raA_br (raA_br (raA_leaf sX12_spread_23) (raA_leaf sX12_spread_24)) (raA_br (raA_leaf sX12_spread_27) (raA_br (raA_leaf sX12_spread_29) (raA_leaf sX12_spread_30)))))) (raA_br (raA_br (raA_br (raA_br (raA_leaf sX12_spread_31) (raA_leaf sX12_spread_32)) (raA_br (raA_leaf sX12_spread_33) (raA_leaf sX12_spread_34))) (raA_br (raA_br (raA_leaf sX12_spread_35) (raA_leaf sX12_spread_36)) (raA_br (raA_leaf sX12_spread_37) (raA_br (raA_leaf sX12_spread_38) (raA_leaf sX12_spread_39))))) (raA_br (raA_br (raA_br (raA_leaf sX12_spread_40) (raA_leaf sX12_spread_43)) (raA_br (raA_leaf sX12_spread_46) (raA_leaf sX12_spread_47))) (raA_br (raA_br (raA_leaf sX12_spread_50) (raA_leaf sX12_spread_51)) (raA_br (raA_leaf sX12_spread_52) (raA_br (raA_leaf sX12_spread_53) (raA_leaf sX12_spread_56)))))))
theorem sX12_stepBit_0 : Snd (miT Tb) RX12 cX12_stepBit 1 none 0 (i_aload 1 0) := snd_aload_n rfl dX12_stepBit_0
theorem sX12_stepBit_1 : Snd (miT Tb) RX12 cX12_stepBit 1 none 1 (i_aload 2 0) := snd_aload_n rfl dX12_stepBit_1
theorem sX12_stepBit_2 : Snd (miT Tb) RX12 cX12_stepBit 1 none 2 (i_getI 11 43 5) := snd_getI (fun hK ho hs hv kk => gf_X12_314 hK ho hs hv dX12_stepBit_2 kk)
theorem sX12_stepBit_5 : Snd (miT Tb) RX12 cX12_stepBit 1 none 5 (i_const 7 (vI 7)) := snd_bipush (by decide) dX12_stepBit_5
theorem sX12_stepBit_7 : Snd (miT Tb) RX12 cX12_stepBit 1 none 7 (i_icmp_ne 10 14) := snd_icmp_ne dX12_stepBit_7 rfl
theorem sX12_stepBit_10 : Snd (miT Tb) RX12 cX12_stepBit 1 none 10 (i_const 11 (vI 0)) := snd_iconst dX12_stepBit_10
theorem sX12_stepBit_11 : Snd (miT Tb) RX12 cX12_stepBit 1 none 11 (i_goto 20) := snd_goto dX12_stepBit_11 rfl
theorem sX12_stepBit_14 : Snd (miT Tb) RX12 cX12_stepBit 1 none 14 (i_aload 15 0) := snd_aload_n rfl dX12_stepBit_14
theorem sX12_stepBit_15 : Snd (miT Tb) RX12 cX12_stepBit 1 none 15 (i_getI 11 43 18) := snd_getI (fun hK ho hs hv kk => gf_X12_314 hK ho hs hv dX12_stepBit_15 kk)
theorem sX12_stepBit_18 : Snd (miT Tb) RX12 cX12_stepBit 1 none 18 (i_const 19 (vI 1)) := snd_iconst dX12_stepBit_18
theorem sX12_stepBit_19 : Snd (miT Tb) RX12 cX12_stepBit 1 none 19 (i_iadd 20) := snd_iadd dX12_stepBit_19
theorem sX12_stepBit_20 : Snd (miT Tb) RX12 cX12_stepBit 1 none 20 (i_putI 11 43 23) := snd_putI (fun hK ho hs kk => pf_X12_314 hK ho hs dX12_stepBit_20 kk)
theorem sX12_stepBit_23 : Snd (miT Tb) RX12 cX12_stepBit 1 none 23 (i_aload 24 0) := snd_aload_n rfl dX12_stepBit_23
theorem sX12_stepBit_24 : Snd (miT Tb) RX12 cX12_stepBit 1 none 24 (i_aload 25 0) := snd_aload_n rfl dX12_stepBit_24
theorem sX12_stepBit_25 : Snd (miT Tb) RX12 cX12_stepBit 1 none 25 (i_getI 11 43 28) := snd_getI (fun hK ho hs hv kk => gf_X12_314 hK ho hs hv dX12_stepBit_25 kk)
theorem sX12_stepBit_28 : Snd (miT Tb) RX12 cX12_stepBit 1 none 28 (i_if_ne 31 40) := snd_if_ne dX12_stepBit_28 rfl
theorem sX12_stepBit_31 : Snd (miT Tb) RX12 cX12_stepBit 1 none 31 (i_aload 32 0) := snd_aload_n rfl dX12_stepBit_31
theorem sX12_stepBit_32 : Snd (miT Tb) RX12 cX12_stepBit 1 none 32 (i_getI 11 42 35) := snd_getI (fun hK ho hs hv kk => gf_X12_311 hK ho hs hv dX12_stepBit_32 kk)
theorem sX12_stepBit_35 : Snd (miT Tb) RX12 cX12_stepBit 1 none 35 (i_const 36 (vI 1)) := snd_iconst dX12_stepBit_35
theorem sX12_stepBit_36 : Snd (miT Tb) RX12 cX12_stepBit 1 none 36 (i_iadd 37) := snd_iadd dX12_stepBit_36
theorem sX12_stepBit_37 : Snd (miT Tb) RX12 cX12_stepBit 1 none 37 (i_goto 44) := snd_goto dX12_stepBit_37 rfl
theorem sX12_stepBit_40 : Snd (miT Tb) RX12 cX12_stepBit 1 none 40 (i_aload 41 0) := snd_aload_n rfl dX12_stepBit_40
theorem sX12_stepBit_41 : Snd (miT Tb) RX12 cX12_stepBit 1 none 41 (i_getI 11 42 44) := snd_getI (fun hK ho hs hv kk => gf_X12_311 hK ho hs hv dX12_stepBit_41 kk)
theorem sX12_stepBit_44 : Snd (miT Tb) RX12 cX12_stepBit 1 none 44 (i_putI 11 42 47) := snd_putI (fun hK ho hs kk => pf_X12_311 hK ho hs dX12_stepBit_44 kk)
theorem sX12_stepBit_47 : Snd (miT Tb) RX12 cX12_stepBit 1 none 47 (i_vret) := snd_vret dX12_stepBit_47
theorem kX12_stepBit : raA (okI (miT Tb) (yX12_stepBit, cX12_stepBit, 1, none)) tX12_stepBit := (raA_br (raA_br (raA_br (raA_br (raA_leaf sX12_stepBit_0) (raA_br (raA_leaf sX12_stepBit_1) (raA_leaf sX12_stepBit_2))) (raA_br (raA_leaf sX12_stepBit_5) (raA_br (raA_leaf sX12_stepBit_7) (raA_leaf sX12_stepBit_10)))) (raA_br (raA_br (raA_leaf sX12_stepBit_11) (raA_br (raA_leaf sX12_stepBit_14) (raA_leaf sX12_stepBit_15))) (raA_br (raA_leaf sX12_stepBit_18) (raA_br (raA_leaf sX12_stepBit_19) (raA_leaf sX12_stepBit_20))))) (raA_br (raA_br (raA_br (raA_leaf sX12_stepBit_23) (raA_br (raA_leaf sX12_stepBit_24) (raA_leaf sX12_stepBit_25))) (raA_br (raA_leaf sX12_stepBit_28) (raA_br (raA_leaf sX12_stepBit_31) (raA_leaf sX12_stepBit_32)))) (raA_br (raA_br (raA_leaf sX12_stepBit_35) (raA_br (raA_leaf sX12_stepBit_36) (raA_leaf sX12_stepBit_37))) (raA_br (raA_br (raA_leaf sX12_stepBit_40) (raA_leaf sX12_stepBit_41)) (raA_br (raA_leaf sX12_stepBit_44) (raA_leaf sX12_stepBit_47))))))
theorem sX12_takeIn_0 : Snd (miT Tb) RX12 cX12_takeIn 2 none 0 (i_aload 1 0) := snd_aload_n rfl dX12_takeIn_0
theorem sX12_takeIn_1 : Snd (miT Tb) RX12 cX12_takeIn 2 none 1 (i_aload 2 0) := snd_aload_n rfl dX12_takeIn_1
theorem sX12_takeIn_2 : Snd (miT Tb) RX12 cX12_takeIn 2 none 2 (i_getI 11 39 5) := snd_getI (fun hK ho hs hv kk => gf_X12_205 hK ho hs hv dX12_takeIn_2 kk)
theorem sX12_takeIn_5 : Snd (miT Tb) RX12 cX12_takeIn 2 none 5 (i_cV1 26 11 8) := snd_cV1 (fun hK hd hC ho hs h6 h7 h8 kk => iv_X12_208 hK (mc_26 hC) ho hs ⟨hd, by show _ ≤ 40 * (_ + 1); omega⟩ (Nat.le_refl _) h6 h7 h8 ⟨Nat.le_refl _, Nat.le_refl _⟩ dX12_takeIn_5 kk)
theorem sX12_takeIn_8 : Snd (miT Tb) RX12 cX12_takeIn 2 none 8 (i_const 11 (vI 255)) := snd_sipush (by decide) dX12_takeIn_8
theorem sX12_takeIn_11 : Snd (miT Tb) RX12 cX12_takeIn 2 none 11 (i_icmp_ne 14 18) := snd_icmp_ne dX12_takeIn_11 rfl
theorem sX12_takeIn_14 : Snd (miT Tb) RX12 cX12_takeIn 2 none 14 (i_const 15 (vI 1)) := snd_iconst dX12_takeIn_14
theorem sX12_takeIn_15 : Snd (miT Tb) RX12 cX12_takeIn 2 none 15 (i_goto 19) := snd_goto dX12_takeIn_15 rfl
theorem sX12_takeIn_18 : Snd (miT Tb) RX12 cX12_takeIn 2 none 18 (i_const 19 (vI 0)) := snd_iconst dX12_takeIn_18
theorem sX12_takeIn_19 : Snd (miT Tb) RX12 cX12_takeIn 2 none 19 (i_istore 20 1) := snd_istore_n rfl (by decide) dX12_takeIn_19
theorem sX12_takeIn_20 : Snd (miT Tb) RX12 cX12_takeIn 2 none 20 (i_iload 21 1) := snd_iload_n rfl dX12_takeIn_20
theorem sX12_takeIn_21 : Snd (miT Tb) RX12 cX12_takeIn 2 none 21 (i_if_eq 24 59) := snd_if_eq dX12_takeIn_21 rfl
theorem sX12_takeIn_24 : Snd (miT Tb) RX12 cX12_takeIn 2 none 24 (i_aload 25 0) := snd_aload_n rfl dX12_takeIn_24
theorem sX12_takeIn_25 : Snd (miT Tb) RX12 cX12_takeIn 2 none 25 (i_aload 26 0) := snd_aload_n rfl dX12_takeIn_25
theorem sX12_takeIn_26 : Snd (miT Tb) RX12 cX12_takeIn 2 none 26 (i_getI 11 39 29) := snd_getI (fun hK ho hs hv kk => gf_X12_205 hK ho hs hv dX12_takeIn_26 kk)
theorem sX12_takeIn_29 : Snd (miT Tb) RX12 cX12_takeIn 2 none 29 (i_const 30 (vI 1)) := snd_iconst dX12_takeIn_29
theorem sX12_takeIn_30 : Snd (miT Tb) RX12 cX12_takeIn 2 none 30 (i_iadd 31) := snd_iadd dX12_takeIn_30
theorem sX12_takeIn_31 : Snd (miT Tb) RX12 cX12_takeIn 2 none 31 (i_cV1 26 11 34) := snd_cV1 (fun hK hd hC ho hs h6 h7 h8 kk => iv_X12_208 hK (mc_26 hC) ho hs ⟨hd, by show _ ≤ 40 * (_ + 1); omega⟩ (Nat.le_refl _) h6 h7 h8 ⟨Nat.le_refl _, Nat.le_refl _⟩ dX12_takeIn_31 kk)
theorem sX12_takeIn_34 : Snd (miT Tb) RX12 cX12_takeIn 2 none 34 (i_const 37 (vI 143)) := snd_sipush (by decide) dX12_takeIn_34
theorem sX12_takeIn_37 : Snd (miT Tb) RX12 cX12_takeIn 2 none 37 (i_icmp_le 40 59) := snd_icmp_le dX12_takeIn_37 rfl
theorem sX12_takeIn_40 : Snd (miT Tb) RX12 cX12_takeIn 2 none 40 (i_aload 41 0) := snd_aload_n rfl dX12_takeIn_40
theorem sX12_takeIn_41 : Snd (miT Tb) RX12 cX12_takeIn 2 none 41 (i_aload 42 0) := snd_aload_n rfl dX12_takeIn_41
theorem sX12_takeIn_42 : Snd (miT Tb) RX12 cX12_takeIn 2 none 42 (i_getJ 11 33 45) := snd_getJ (fun hK ho hs hv kk => gf_X12_175 hK ho hs hv dX12_takeIn_42 kk)
theorem sX12_takeIn_45 : Snd (miT Tb) RX12 cX12_takeIn 2 none 45 (i_const 48 (vJ 65280)) := snd_ldc2 lc_X12_212 dX12_takeIn_45
theorem sX12_takeIn_48 : Snd (miT Tb) RX12 cX12_takeIn 2 none 48 (i_ladd 49) := snd_ladd dX12_takeIn_48
theorem sX12_takeIn_49 : Snd (miT Tb) RX12 cX12_takeIn 2 none 49 (i_putJ 11 33 52) := snd_putJ (fun hK ho hs kk => pf_X12_175 hK ho hs dX12_takeIn_49 kk)
theorem sX12_takeIn_52 : Snd (miT Tb) RX12 cX12_takeIn 2 none 52 (i_aload 53 0) := snd_aload_n rfl dX12_takeIn_52
theorem sX12_takeIn_53 : Snd (miT Tb) RX12 cX12_takeIn 2 none 53 (i_const 55 (vI 8)) := snd_bipush (by decide) dX12_takeIn_53
theorem sX12_takeIn_55 : Snd (miT Tb) RX12 cX12_takeIn 2 none 55 (i_putI 11 34 58) := snd_putI (fun hK ho hs kk => pf_X12_178 hK ho hs dX12_takeIn_55 kk)
theorem sX12_takeIn_58 : Snd (miT Tb) RX12 cX12_takeIn 2 none 58 (i_vret) := snd_vret dX12_takeIn_58
theorem sX12_takeIn_59 : Snd (miT Tb) RX12 cX12_takeIn 2 none 59 (i_aload 60 0) := snd_aload_n rfl dX12_takeIn_59
theorem sX12_takeIn_60 : Snd (miT Tb) RX12 cX12_takeIn 2 none 60 (i_dup 61) := snd_dup dX12_takeIn_60
theorem sX12_takeIn_61 : Snd (miT Tb) RX12 cX12_takeIn 2 none 61 (i_getI 11 39 64) := snd_getI (fun hK ho hs hv kk => gf_X12_205 hK ho hs hv dX12_takeIn_61 kk)
theorem sX12_takeIn_64 : Snd (miT Tb) RX12 cX12_takeIn 2 none 64 (i_const 65 (vI 1)) := snd_iconst dX12_takeIn_64
theorem sX12_takeIn_65 : Snd (miT Tb) RX12 cX12_takeIn 2 none 65 (i_iadd 66) := snd_iadd dX12_takeIn_65
theorem sX12_takeIn_66 : Snd (miT Tb) RX12 cX12_takeIn 2 none 66 (i_putI 11 39 69) := snd_putI (fun hK ho hs kk => pf_X12_205 hK ho hs dX12_takeIn_66 kk)
theorem sX12_takeIn_69 : Snd (miT Tb) RX12 cX12_takeIn 2 none 69 (i_aload 70 0) := snd_aload_n rfl dX12_takeIn_69
theorem sX12_takeIn_70 : Snd (miT Tb) RX12 cX12_takeIn 2 none 70 (i_aload 71 0) := snd_aload_n rfl dX12_takeIn_70
theorem sX12_takeIn_71 : Snd (miT Tb) RX12 cX12_takeIn 2 none 71 (i_getJ 11 33 74) := snd_getJ (fun hK ho hs hv kk => gf_X12_175 hK ho hs hv dX12_takeIn_71 kk)
theorem sX12_takeIn_74 : Snd (miT Tb) RX12 cX12_takeIn 2 none 74 (i_aload 75 0) := snd_aload_n rfl dX12_takeIn_74
theorem sX12_takeIn_75 : Snd (miT Tb) RX12 cX12_takeIn 2 none 75 (i_aload 76 0) := snd_aload_n rfl dX12_takeIn_75
theorem sX12_takeIn_76 : Snd (miT Tb) RX12 cX12_takeIn 2 none 76 (i_getI 11 39 79) := snd_getI (fun hK ho hs hv kk => gf_X12_205 hK ho hs hv dX12_takeIn_76 kk)
theorem sX12_takeIn_79 : Snd (miT Tb) RX12 cX12_takeIn 2 none 79 (i_cV1 26 11 82) := snd_cV1 (fun hK hd hC ho hs h6 h7 h8 kk => iv_X12_208 hK (mc_26 hC) ho hs ⟨hd, by show _ ≤ 40 * (_ + 1); omega⟩ (Nat.le_refl _) h6 h7 h8 ⟨Nat.le_refl _, Nat.le_refl _⟩ dX12_takeIn_79 kk)
theorem sX12_takeIn_82 : Snd (miT Tb) RX12 cX12_takeIn 2 none 82 (i_i2l 83) := snd_i2l dX12_takeIn_82
theorem sX12_takeIn_83 : Snd (miT Tb) RX12 cX12_takeIn 2 none 83 (i_iload 84 1) := snd_iload_n rfl dX12_takeIn_83
theorem sX12_takeIn_84 : Snd (miT Tb) RX12 cX12_takeIn 2 none 84 (i_if_eq 87 93) := snd_if_eq dX12_takeIn_84 rfl
theorem sX12_takeIn_87 : Snd (miT Tb) RX12 cX12_takeIn 2 none 87 (i_const 90 (vJ 512)) := snd_ldc2 lc_X12_214 dX12_takeIn_87
theorem sX12_takeIn_90 : Snd (miT Tb) RX12 cX12_takeIn 2 none 90 (i_goto 96) := snd_goto dX12_takeIn_90 rfl
theorem sX12_takeIn_93 : Snd (miT Tb) RX12 cX12_takeIn 2 none 93 (i_const 96 (vJ 256)) := snd_ldc2 lc_X12_187 dX12_takeIn_93
theorem sX12_takeIn_96 : Snd (miT Tb) RX12 cX12_takeIn 2 none 96 (i_lmul 97) := snd_lmul dX12_takeIn_96
theorem sX12_takeIn_97 : Snd (miT Tb) RX12 cX12_takeIn 2 none 97 (i_ladd 98) := snd_ladd dX12_takeIn_97
theorem sX12_takeIn_98 : Snd (miT Tb) RX12 cX12_takeIn 2 none 98 (i_putJ 11 33 101) := snd_putJ (fun hK ho hs kk => pf_X12_175 hK ho hs dX12_takeIn_98 kk)
theorem sX12_takeIn_101 : Snd (miT Tb) RX12 cX12_takeIn 2 none 101 (i_aload 102 0) := snd_aload_n rfl dX12_takeIn_101
theorem sX12_takeIn_102 : Snd (miT Tb) RX12 cX12_takeIn 2 none 102 (i_iload 103 1) := snd_iload_n rfl dX12_takeIn_102
theorem sX12_takeIn_103 : Snd (miT Tb) RX12 cX12_takeIn 2 none 103 (i_if_eq 106 111) := snd_if_eq dX12_takeIn_103 rfl
theorem sX12_takeIn_106 : Snd (miT Tb) RX12 cX12_takeIn 2 none 106 (i_const 108 (vI 7)) := snd_bipush (by decide) dX12_takeIn_106
theorem sX12_takeIn_108 : Snd (miT Tb) RX12 cX12_takeIn 2 none 108 (i_goto 113) := snd_goto dX12_takeIn_108 rfl
theorem sX12_takeIn_111 : Snd (miT Tb) RX12 cX12_takeIn 2 none 111 (i_const 113 (vI 8)) := snd_bipush (by decide) dX12_takeIn_111
theorem sX12_takeIn_113 : Snd (miT Tb) RX12 cX12_takeIn 2 none 113 (i_putI 11 34 116) := snd_putI (fun hK ho hs kk => pf_X12_178 hK ho hs dX12_takeIn_113 kk)
theorem sX12_takeIn_116 : Snd (miT Tb) RX12 cX12_takeIn 2 none 116 (i_vret) := snd_vret dX12_takeIn_116
theorem kX12_takeIn : raA (okI (miT Tb) (yX12_takeIn, cX12_takeIn, 2, none)) tX12_takeIn := (raA_br (raA_br (raA_br (raA_br (raA_br (raA_leaf sX12_takeIn_0) (raA_br (raA_leaf sX12_takeIn_1) (raA_leaf sX12_takeIn_2))) (raA_br (raA_br (raA_leaf sX12_takeIn_5) (raA_leaf sX12_takeIn_8)) (raA_br (raA_leaf sX12_takeIn_11) (raA_leaf sX12_takeIn_14)))) (raA_br (raA_br (raA_br (raA_leaf sX12_takeIn_15) (raA_leaf sX12_takeIn_18)) (raA_br (raA_leaf sX12_takeIn_19) (raA_leaf sX12_takeIn_20))) (raA_br (raA_br (raA_leaf sX12_takeIn_21) (raA_leaf sX12_takeIn_24)) (raA_br (raA_leaf sX12_takeIn_25) (raA_leaf sX12_takeIn_26))))) (raA_br (raA_br (raA_br (raA_leaf sX12_takeIn_29) (raA_br (raA_leaf sX12_takeIn_30) (raA_leaf sX12_takeIn_31))) (raA_br (raA_br (raA_leaf sX12_takeIn_34) (raA_leaf sX12_takeIn_37)) (raA_br (raA_leaf sX12_takeIn_40) (raA_leaf sX12_takeIn_41)))) (raA_br (raA_br (raA_br (raA_leaf sX12_takeIn_42) (raA_leaf sX12_takeIn_45)) (raA_br (raA_leaf sX12_takeIn_48) (raA_leaf sX12_takeIn_49))) (raA_br (raA_br (raA_leaf sX12_takeIn_52) (raA_leaf sX12_takeIn_53)) (raA_br (raA_leaf sX12_takeIn_55) (raA_leaf sX12_takeIn_58)))))) (raA_br (raA_br (raA_br (raA_br (raA_leaf sX12_takeIn_59) (raA_br (raA_leaf sX12_takeIn_60) (raA_leaf sX12_takeIn_61))) (raA_br (raA_br (raA_leaf sX12_takeIn_64) (raA_leaf sX12_takeIn_65)) (raA_br (raA_leaf sX12_takeIn_66) (raA_leaf sX12_takeIn_69)))) (raA_br (raA_br (raA_br (raA_leaf sX12_takeIn_70) (raA_leaf sX12_takeIn_71)) (raA_br (raA_leaf sX12_takeIn_74) (raA_leaf sX12_takeIn_75))) (raA_br (raA_br (raA_leaf sX12_takeIn_76) (raA_leaf sX12_takeIn_79)) (raA_br (raA_leaf sX12_takeIn_82) (raA_leaf sX12_takeIn_83))))) (raA_br (raA_br (raA_br (raA_leaf sX12_takeIn_84) (raA_br (raA_leaf sX12_takeIn_87) (raA_leaf sX12_takeIn_90))) (raA_br (raA_br (raA_leaf sX12_takeIn_93) (raA_leaf sX12_takeIn_96)) (raA_br (raA_leaf sX12_takeIn_97) (raA_leaf sX12_takeIn_98)))) (raA_br (raA_br (raA_br (raA_leaf sX12_takeIn_101) (raA_leaf sX12_takeIn_102)) (raA_br (raA_leaf sX12_takeIn_103) (raA_leaf sX12_takeIn_106))) (raA_br (raA_br (raA_leaf sX12_takeIn_108) (raA_leaf sX12_takeIn_111)) (raA_br (raA_leaf sX12_takeIn_113) (raA_leaf sX12_takeIn_116)))))))
theorem sX12_tellBand_0 : Snd (miT Tb) RX12 cX12_tellBand 5 none 0 (i_aload 1 0) := snd_aload_n rfl dX12_tellBand_0
theorem sX12_tellBand_1 : Snd (miT Tb) RX12 cX12_tellBand 5 none 1 (i_iload 2 1) := snd_iload_n rfl dX12_tellBand_1
theorem sX12_tellBand_2 : Snd (miT Tb) RX12 cX12_tellBand 5 none 2 (i_cV1 36 11 5) := snd_cV1 (fun hK hd hC ho hs h6 h7 h8 kk => iv_X12_290 hK (mc_36 hC) ho hs ⟨hd, by show _ ≤ 40 * (_ + 1); omega⟩ (Nat.le_refl _) h6 h7 h8 ⟨Nat.le_refl _, Nat.le_refl _⟩ dX12_tellBand_2 kk)
theorem sX12_tellBand_5 : Snd (miT Tb) RX12 cX12_tellBand 5 none 5 (i_aload 6 0) := snd_aload_n rfl dX12_tellBand_5
theorem sX12_tellBand_6 : Snd (miT Tb) RX12 cX12_tellBand 5 none 6 (i_getR 11 20 9) := snd_getR rfl (by decide) (by decide) (by decide) (fun hK ho hs hq kk => gf_X12_66 hK ho hs hq rfl dX12_tellBand_6 kk)
theorem sX12_tellBand_9 : Snd (miT Tb) RX12 cX12_tellBand 5 none 9 (i_iload 10 1) := snd_iload_n rfl dX12_tellBand_9
theorem sX12_tellBand_10 : Snd (miT Tb) RX12 cX12_tellBand 5 none 10 (i_iload 11 2) := snd_iload_n rfl dX12_tellBand_10
theorem sX12_tellBand_11 : Snd (miT Tb) RX12 cX12_tellBand 5 none 11 (i_iast 12) := snd_iast dX12_tellBand_11
theorem sX12_tellBand_12 : Snd (miT Tb) RX12 cX12_tellBand 5 none 12 (i_aload 13 0) := snd_aload_n rfl dX12_tellBand_12
theorem sX12_tellBand_13 : Snd (miT Tb) RX12 cX12_tellBand 5 none 13 (i_getR 11 21 16) := snd_getR rfl (by decide) (by decide) (by decide) (fun hK ho hs hq kk => gf_X12_69 hK ho hs hq rfl dX12_tellBand_13 kk)
theorem sX12_tellBand_16 : Snd (miT Tb) RX12 cX12_tellBand 5 none 16 (i_iload 17 1) := snd_iload_n rfl dX12_tellBand_16
theorem sX12_tellBand_17 : Snd (miT Tb) RX12 cX12_tellBand 5 none 17 (i_const 18 (vI 0)) := snd_iconst dX12_tellBand_17
theorem sX12_tellBand_18 : Snd (miT Tb) RX12 cX12_tellBand 5 none 18 (i_iast 19) := snd_iast dX12_tellBand_18
theorem sX12_tellBand_19 : Snd (miT Tb) RX12 cX12_tellBand 5 none 19 (i_aload 20 0) := snd_aload_n rfl dX12_tellBand_19
theorem sX12_tellBand_20 : Snd (miT Tb) RX12 cX12_tellBand 5 none 20 (i_getR 11 22 23) := snd_getR rfl (by decide) (by decide) (by decide) (fun hK ho hs hq kk => gf_X12_72 hK ho hs hq rfl dX12_tellBand_20 kk)
theorem sX12_tellBand_23 : Snd (miT Tb) RX12 cX12_tellBand 5 none 23 (i_const 25 (vI 35)) := snd_bipush (by decide) dX12_tellBand_23
theorem sX12_tellBand_25 : Snd (miT Tb) RX12 cX12_tellBand 5 none 25 (i_iload 26 1) := snd_iload_n rfl dX12_tellBand_25
theorem sX12_tellBand_26 : Snd (miT Tb) RX12 cX12_tellBand 5 none 26 (i_imul 27) := snd_imul dX12_tellBand_26
theorem sX12_tellBand_27 : Snd (miT Tb) RX12 cX12_tellBand 5 none 27 (i_const 28 (vI 0)) := snd_iconst dX12_tellBand_27
theorem sX12_tellBand_28 : Snd (miT Tb) RX12 cX12_tellBand 5 none 28 (i_iast 29) := snd_iast dX12_tellBand_28
theorem sX12_tellBand_29 : Snd (miT Tb) RX12 cX12_tellBand 5 none 29 (i_aload 30 0) := snd_aload_n rfl dX12_tellBand_29
theorem sX12_tellBand_30 : Snd (miT Tb) RX12 cX12_tellBand 5 none 30 (i_getR 11 12 33) := snd_getR rfl (by decide) (by decide) (by decide) (fun hK ho hs hq kk => gf_X12_44 hK ho hs hq rfl dX12_tellBand_30 kk)
theorem sX12_tellBand_33 : Snd (miT Tb) RX12 cX12_tellBand 5 none 33 (i_iload 34 1) := snd_iload_n rfl dX12_tellBand_33
theorem sX12_tellBand_34 : Snd (miT Tb) RX12 cX12_tellBand 5 none 34 (i_iald 35) := snd_iald dX12_tellBand_34
theorem sX12_tellBand_35 : Snd (miT Tb) RX12 cX12_tellBand 5 none 35 (i_if_ne 38 39) := snd_if_ne dX12_tellBand_35 rfl
theorem sX12_tellBand_38 : Snd (miT Tb) RX12 cX12_tellBand 5 none 38 (i_vret) := snd_vret dX12_tellBand_38
theorem sX12_tellBand_39 : Snd (miT Tb) RX12 cX12_tellBand 5 none 39 (i_aload 40 0) := snd_aload_n rfl dX12_tellBand_39
theorem sX12_tellBand_40 : Snd (miT Tb) RX12 cX12_tellBand 5 none 40 (i_cV0 24 11 43) := snd_cV0 (fun hK hd hC ho hs h6 h7 h8 kk => iv_X12_293 hK (mc_24 hC) ho hs ⟨hd, by show _ ≤ 40 * (_ + 1); omega⟩ (Nat.le_refl _) h6 h7 h8 ⟨Nat.le_refl _, Nat.le_refl _⟩ dX12_tellBand_40 kk)
theorem sX12_tellBand_43 : Snd (miT Tb) RX12 cX12_tellBand 5 none 43 (i_aload 44 0) := snd_aload_n rfl dX12_tellBand_43
theorem sX12_tellBand_44 : Snd (miT Tb) RX12 cX12_tellBand 5 none 44 (i_iload 45 1) := snd_iload_n rfl dX12_tellBand_44
theorem sX12_tellBand_45 : Snd (miT Tb) RX12 cX12_tellBand 5 none 45 (i_aload 46 0) := snd_aload_n rfl dX12_tellBand_45
theorem sX12_tellBand_46 : Snd (miT Tb) RX12 cX12_tellBand 5 none 46 (i_iload 47 1) := snd_iload_n rfl dX12_tellBand_46
theorem sX12_tellBand_47 : Snd (miT Tb) RX12 cX12_tellBand 5 none 47 (i_cV1 49 11 50) := snd_cV1 (fun hK hd hC ho hs h6 h7 h8 kk => iv_X12_296 hK (mc_49 hC) ho hs ⟨hd, by show _ ≤ 40 * (_ + 1); omega⟩ (Nat.le_refl _) h6 h7 h8 ⟨Nat.le_refl _, Nat.le_refl _⟩ dX12_tellBand_47 kk)
theorem sX12_tellBand_50 : Snd (miT Tb) RX12 cX12_tellBand 5 none 50 (i_cV2 66 11 53) := snd_cV2 (fun hK hd hC ho hs h6 h7 h8 kk => iv_X12_299 hK (mc_66 hC) ho hs ⟨hd, by show _ ≤ 40 * (_ + 1); omega⟩ (Nat.le_refl _) h6 h7 h8 ⟨Nat.le_refl _, Nat.le_refl _⟩ dX12_tellBand_50 kk)
theorem sX12_tellBand_53 : Snd (miT Tb) RX12 cX12_tellBand 5 none 53 (i_aload 54 0) := snd_aload_n rfl dX12_tellBand_53
theorem sX12_tellBand_54 : Snd (miT Tb) RX12 cX12_tellBand 5 none 54 (i_cV0 35 11 57) := snd_cV0 (fun hK hd hC ho hs h6 h7 h8 kk => iv_X12_302 hK (mc_35 hC) ho hs ⟨hd, by show _ ≤ 40 * (_ + 1); omega⟩ (Nat.le_refl _) h6 h7 h8 ⟨Nat.le_refl _, Nat.le_refl _⟩ dX12_tellBand_54 kk)
theorem sX12_tellBand_57 : Snd (miT Tb) RX12 cX12_tellBand 5 none 57 (i_aload 58 0) := snd_aload_n rfl dX12_tellBand_57
theorem sX12_tellBand_58 : Snd (miT Tb) RX12 cX12_tellBand 5 none 58 (i_getR 11 21 61) := snd_getR rfl (by decide) (by decide) (by decide) (fun hK ho hs hq kk => gf_X12_69 hK ho hs hq rfl dX12_tellBand_58 kk)
theorem sX12_tellBand_61 : Snd (miT Tb) RX12 cX12_tellBand 5 none 61 (i_iload 62 1) := snd_iload_n rfl dX12_tellBand_61
theorem sX12_tellBand_62 : Snd (miT Tb) RX12 cX12_tellBand 5 none 62 (i_aload 63 0) := snd_aload_n rfl dX12_tellBand_62
theorem sX12_tellBand_63 : Snd (miT Tb) RX12 cX12_tellBand 5 none 63 (i_getI 11 36 66) := snd_getI (fun hK ho hs hv kk => gf_X12_166 hK ho hs hv dX12_tellBand_63 kk)
theorem sX12_tellBand_66 : Snd (miT Tb) RX12 cX12_tellBand 5 none 66 (i_const 67 (vI 1)) := snd_iconst dX12_tellBand_66
theorem sX12_tellBand_67 : Snd (miT Tb) RX12 cX12_tellBand 5 none 67 (i_isub 68) := snd_isub dX12_tellBand_67
theorem sX12_tellBand_68 : Snd (miT Tb) RX12 cX12_tellBand 5 none 68 (i_iast 69) := snd_iast dX12_tellBand_68
theorem sX12_tellBand_69 : Snd (miT Tb) RX12 cX12_tellBand 5 none 69 (i_const 70 (vI 1)) := snd_iconst dX12_tellBand_69
theorem sX12_tellBand_70 : Snd (miT Tb) RX12 cX12_tellBand 5 none 70 (i_istore 71 3) := snd_istore_n rfl (by decide) dX12_tellBand_70
theorem sX12_tellBand_71 : Snd (miT Tb) RX12 cX12_tellBand 5 none 71 (i_iload 72 3) := snd_iload_n rfl dX12_tellBand_71
theorem sX12_tellBand_72 : Snd (miT Tb) RX12 cX12_tellBand 5 none 72 (i_aload 73 0) := snd_aload_n rfl dX12_tellBand_72
theorem sX12_tellBand_73 : Snd (miT Tb) RX12 cX12_tellBand 5 none 73 (i_getI 11 36 76) := snd_getI (fun hK ho hs hv kk => gf_X12_166 hK ho hs hv dX12_tellBand_73 kk)
theorem sX12_tellBand_76 : Snd (miT Tb) RX12 cX12_tellBand 5 none 76 (i_icmp_ge 79 101) := snd_icmp_ge dX12_tellBand_76 rfl
theorem sX12_tellBand_79 : Snd (miT Tb) RX12 cX12_tellBand 5 none 79 (i_aload 80 0) := snd_aload_n rfl dX12_tellBand_79
theorem sX12_tellBand_80 : Snd (miT Tb) RX12 cX12_tellBand 5 none 80 (i_getR 11 19 83) := snd_getR rfl (by decide) (by decide) (by decide) (fun hK ho hs hq kk => gf_X12_63 hK ho hs hq rfl dX12_tellBand_80 kk)
theorem sX12_tellBand_83 : Snd (miT Tb) RX12 cX12_tellBand 5 none 83 (i_iload 84 2) := snd_iload_n rfl dX12_tellBand_83
theorem sX12_tellBand_84 : Snd (miT Tb) RX12 cX12_tellBand 5 none 84 (i_iload 85 3) := snd_iload_n rfl dX12_tellBand_84
theorem sX12_tellBand_85 : Snd (miT Tb) RX12 cX12_tellBand 5 none 85 (i_iadd 86) := snd_iadd dX12_tellBand_85
theorem sX12_tellBand_86 : Snd (miT Tb) RX12 cX12_tellBand 5 none 86 (i_const 87 (vI 1)) := snd_iconst dX12_tellBand_86
theorem sX12_tellBand_87 : Snd (miT Tb) RX12 cX12_tellBand 5 none 87 (i_isub 88) := snd_isub dX12_tellBand_87
theorem sX12_tellBand_88 : Snd (miT Tb) RX12 cX12_tellBand 5 none 88 (i_aload 89 0) := snd_aload_n rfl dX12_tellBand_88
theorem sX12_tellBand_89 : Snd (miT Tb) RX12 cX12_tellBand 5 none 89 (i_getR 11 35 92) := snd_getR rfl (by decide) (by decide) (by decide) (fun hK ho hs hq kk => gf_X12_90 hK ho hs hq rfl dX12_tellBand_89 kk)
theorem sX12_tellBand_92 : Snd (miT Tb) RX12 cX12_tellBand 5 none 92 (i_iload 93 3) := snd_iload_n rfl dX12_tellBand_92
theorem sX12_tellBand_93 : Snd (miT Tb) RX12 cX12_tellBand 5 none 93 (i_iald 94) := snd_iald dX12_tellBand_93
theorem sX12_tellBand_94 : Snd (miT Tb) RX12 cX12_tellBand 5 none 94 (i_iast 95) := snd_iast dX12_tellBand_94
theorem sX12_tellBand_95 : Snd (miT Tb) RX12 cX12_tellBand 5 none 95 (i_iinc 98 3 1) := snd_iinc (by decide) dX12_tellBand_95
theorem sX12_tellBand_98 : Snd (miT Tb) RX12 cX12_tellBand 5 none 98 (i_goto 71) := snd_goto dX12_tellBand_98 rfl
theorem sX12_tellBand_101 : Snd (miT Tb) RX12 cX12_tellBand 5 none 101 (i_aload 102 0) := snd_aload_n rfl dX12_tellBand_101
theorem sX12_tellBand_102 : Snd (miT Tb) RX12 cX12_tellBand 5 none 102 (i_iload 103 1) := snd_iload_n rfl dX12_tellBand_102
theorem sX12_tellBand_103 : Snd (miT Tb) RX12 cX12_tellBand 5 none 103 (i_cV1 64 11 106) := snd_cV1 (fun hK hd hC ho hs h6 h7 h8 kk => iv_X12_305 hK (mc_64 hC) ho hs ⟨hd, by show _ ≤ 40 * (_ + 1); omega⟩ (Nat.le_refl _) h6 h7 h8 ⟨Nat.le_refl _, Nat.le_refl _⟩ dX12_tellBand_103 kk)
theorem sX12_tellBand_106 : Snd (miT Tb) RX12 cX12_tellBand 5 none 106 (i_const 107 (vI 0)) := snd_iconst dX12_tellBand_106
theorem sX12_tellBand_107 : Snd (miT Tb) RX12 cX12_tellBand 5 none 107 (i_istore 108 3) := snd_istore_n rfl (by decide) dX12_tellBand_107
theorem sX12_tellBand_108 : Snd (miT Tb) RX12 cX12_tellBand 5 none 108 (i_const 109 (vI 1)) := snd_iconst dX12_tellBand_108
theorem sX12_tellBand_109 : Snd (miT Tb) RX12 cX12_tellBand 5 none 109 (i_istore 111 4) := snd_istore (by decide) dX12_tellBand_109
theorem sX12_tellBand_111 : Snd (miT Tb) RX12 cX12_tellBand 5 none 111 (i_iload 113 4) := snd_iload dX12_tellBand_111
theorem sX12_tellBand_113 : Snd (miT Tb) RX12 cX12_tellBand 5 none 113 (i_aload 114 0) := snd_aload_n rfl dX12_tellBand_113
theorem sX12_tellBand_114 : Snd (miT Tb) RX12 cX12_tellBand 5 none 114 (i_iload 115 1) := snd_iload_n rfl dX12_tellBand_114
theorem sX12_tellBand_115 : Snd (miT Tb) RX12 cX12_tellBand 5 none 115 (i_cV1 49 11 118) := snd_cV1 (fun hK hd hC ho hs h6 h7 h8 kk => iv_X12_296 hK (mc_49 hC) ho hs ⟨hd, by show _ ≤ 40 * (_ + 1); omega⟩ (Nat.le_refl _) h6 h7 h8 ⟨Nat.le_refl _, Nat.le_refl _⟩ dX12_tellBand_115 kk)
theorem sX12_tellBand_118 : Snd (miT Tb) RX12 cX12_tellBand 5 none 118 (i_icmp_gt 121 216) := snd_icmp_gt dX12_tellBand_118 rfl
theorem sX12_tellBand_121 : Snd (miT Tb) RX12 cX12_tellBand 5 none 121 (i_aload 122 0) := snd_aload_n rfl dX12_tellBand_121
theorem sX12_tellBand_122 : Snd (miT Tb) RX12 cX12_tellBand 5 none 122 (i_const 123 (vI 1)) := snd_iconst dX12_tellBand_122
theorem sX12_tellBand_123 : Snd (miT Tb) RX12 cX12_tellBand 5 none 123 (i_putZ 11 28 126) := snd_putZ (fun hK ho hs hx kk => pf_X12_227 hK ho hs hx dX12_tellBand_123 kk)
theorem sX12_tellBand_126 : Snd (miT Tb) RX12 cX12_tellBand 5 none 126 (i_iload 127 3) := snd_iload_n rfl dX12_tellBand_126
theorem sX12_tellBand_127 : Snd (miT Tb) RX12 cX12_tellBand 5 none 127 (i_const 128 (vI 1)) := snd_iconst dX12_tellBand_127
theorem sX12_tellBand_128 : Snd (miT Tb) RX12 cX12_tellBand 5 none 128 (i_isub 129) := snd_isub dX12_tellBand_128
theorem sX12_tellBand_129 : Snd (miT Tb) RX12 cX12_tellBand 5 none 129 (i_istore 130 3) := snd_istore_n rfl (by decide) dX12_tellBand_129
theorem sX12_tellBand_130 : Snd (miT Tb) RX12 cX12_tellBand 5 none 130 (i_aload 131 0) := snd_aload_n rfl dX12_tellBand_130
theorem sX12_tellBand_131 : Snd (miT Tb) RX12 cX12_tellBand 5 none 131 (i_getI 11 28 134) := snd_getI (fun hK ho hs hv kk => gf_X12_227 hK ho hs hv dX12_tellBand_131 kk)
theorem sX12_tellBand_134 : Snd (miT Tb) RX12 cX12_tellBand 5 none 134 (i_if_eq 137 197) := snd_if_eq dX12_tellBand_134 rfl
theorem sX12_tellBand_137 : Snd (miT Tb) RX12 cX12_tellBand 5 none 137 (i_iinc 140 3 1) := snd_iinc (by decide) dX12_tellBand_137
theorem sX12_tellBand_140 : Snd (miT Tb) RX12 cX12_tellBand 5 none 140 (i_iload 141 3) := snd_iload_n rfl dX12_tellBand_140
theorem sX12_tellBand_141 : Snd (miT Tb) RX12 cX12_tellBand 5 none 141 (i_if_ge 144 148) := snd_if_ge dX12_tellBand_141 rfl
theorem sX12_tellBand_144 : Snd (miT Tb) RX12 cX12_tellBand 5 none 144 (i_const 145 (vI 0)) := snd_iconst dX12_tellBand_144
theorem sX12_tellBand_145 : Snd (miT Tb) RX12 cX12_tellBand 5 none 145 (i_goto 149) := snd_goto dX12_tellBand_145 rfl
theorem sX12_tellBand_148 : Snd (miT Tb) RX12 cX12_tellBand 5 none 148 (i_iload 149 3) := snd_iload_n rfl dX12_tellBand_148
theorem sX12_tellBand_149 : Snd (miT Tb) RX12 cX12_tellBand 5 none 149 (i_istore 150 3) := snd_istore_n rfl (by decide) dX12_tellBand_149
theorem sX12_tellBand_150 : Snd (miT Tb) RX12 cX12_tellBand 5 none 150 (i_aload 151 0) := snd_aload_n rfl dX12_tellBand_150
theorem sX12_tellBand_151 : Snd (miT Tb) RX12 cX12_tellBand 5 none 151 (i_iload 152 3) := snd_iload_n rfl dX12_tellBand_151
theorem sX12_tellBand_152 : Snd (miT Tb) RX12 cX12_tellBand 5 none 152 (i_const 153 (vI 2)) := snd_iconst dX12_tellBand_152
theorem sX12_tellBand_153 : Snd (miT Tb) RX12 cX12_tellBand 5 none 153 (i_cV2 23 11 156) := snd_cV2 (fun hK hd hC ho hs h6 h7 h8 kk => iv_X12_308 hK (mc_23 hC) ho hs ⟨hd, by show _ ≤ 40 * (_ + 1); omega⟩ (Nat.le_refl _) h6 h7 h8 ⟨Nat.le_refl _, Nat.le_refl _⟩ dX12_tellBand_153 kk)
theorem sX12_tellBand_156 : Snd (miT Tb) RX12 cX12_tellBand 5 none 156 (i_aload 157 0) := snd_aload_n rfl dX12_tellBand_156
theorem sX12_tellBand_157 : Snd (miT Tb) RX12 cX12_tellBand 5 none 157 (i_const 158 (vI 0)) := snd_iconst dX12_tellBand_157
theorem sX12_tellBand_158 : Snd (miT Tb) RX12 cX12_tellBand 5 none 158 (i_putZ 11 28 161) := snd_putZ (fun hK ho hs hx kk => pf_X12_227 hK ho hs hx dX12_tellBand_158 kk)
theorem sX12_tellBand_161 : Snd (miT Tb) RX12 cX12_tellBand 5 none 161 (i_aload 162 0) := snd_aload_n rfl dX12_tellBand_161
theorem sX12_tellBand_162 : Snd (miT Tb) RX12 cX12_tellBand 5 none 162 (i_iload 163 1) := snd_iload_n rfl dX12_tellBand_162
theorem sX12_tellBand_163 : Snd (miT Tb) RX12 cX12_tellBand 5 none 163 (i_iload 165 4) := snd_iload dX12_tellBand_163
theorem sX12_tellBand_165 : Snd (miT Tb) RX12 cX12_tellBand 5 none 165 (i_cV2 66 11 168) := snd_cV2 (fun hK hd hC ho hs h6 h7 h8 kk => iv_X12_299 hK (mc_66 hC) ho hs ⟨hd, by show _ ≤ 40 * (_ + 1); omega⟩ (Nat.le_refl _) h6 h7 h8 ⟨Nat.le_refl _, Nat.le_refl _⟩ dX12_tellBand_165 kk)
theorem sX12_tellBand_168 : Snd (miT Tb) RX12 cX12_tellBand 5 none 168 (i_aload 169 0) := snd_aload_n rfl dX12_tellBand_168
theorem sX12_tellBand_169 : Snd (miT Tb) RX12 cX12_tellBand 5 none 169 (i_aload 170 0) := snd_aload_n rfl dX12_tellBand_169
theorem sX12_tellBand_170 : Snd (miT Tb) RX12 cX12_tellBand 5 none 170 (i_getI 11 28 173) := snd_getI (fun hK ho hs hv kk => gf_X12_227 hK ho hs hv dX12_tellBand_170 kk)
theorem sX12_tellBand_173 : Snd (miT Tb) RX12 cX12_tellBand 5 none 173 (i_if_eq 176 190) := snd_if_eq dX12_tellBand_173 rfl
theorem sX12_tellBand_176 : Snd (miT Tb) RX12 cX12_tellBand 5 none 176 (i_iload 177 3) := snd_iload_n rfl dX12_tellBand_176
theorem sX12_tellBand_177 : Snd (miT Tb) RX12 cX12_tellBand 5 none 177 (i_aload 178 0) := snd_aload_n rfl dX12_tellBand_177
theorem sX12_tellBand_178 : Snd (miT Tb) RX12 cX12_tellBand 5 none 178 (i_getR 11 21 181) := snd_getR rfl (by decide) (by decide) (by decide) (fun hK ho hs hq kk => gf_X12_69 hK ho hs hq rfl dX12_tellBand_178 kk)
theorem sX12_tellBand_181 : Snd (miT Tb) RX12 cX12_tellBand 5 none 181 (i_iload 182 1) := snd_iload_n rfl dX12_tellBand_181
theorem sX12_tellBand_182 : Snd (miT Tb) RX12 cX12_tellBand 5 none 182 (i_iald 183) := snd_iald dX12_tellBand_182
theorem sX12_tellBand_183 : Snd (miT Tb) RX12 cX12_tellBand 5 none 183 (i_icmp_ge 186 190) := snd_icmp_ge dX12_tellBand_183 rfl
theorem sX12_tellBand_186 : Snd (miT Tb) RX12 cX12_tellBand 5 none 186 (i_const 187 (vI 1)) := snd_iconst dX12_tellBand_186
theorem sX12_tellBand_187 : Snd (miT Tb) RX12 cX12_tellBand 5 none 187 (i_goto 191) := snd_goto dX12_tellBand_187 rfl
theorem sX12_tellBand_190 : Snd (miT Tb) RX12 cX12_tellBand 5 none 190 (i_const 191 (vI 0)) := snd_iconst dX12_tellBand_190
theorem sX12_tellBand_191 : Snd (miT Tb) RX12 cX12_tellBand 5 none 191 (i_putZ 11 28 194) := snd_putZ (fun hK ho hs hx kk => pf_X12_227 hK ho hs hx dX12_tellBand_191 kk)
theorem sX12_tellBand_194 : Snd (miT Tb) RX12 cX12_tellBand 5 none 194 (i_goto 130) := snd_goto dX12_tellBand_194 rfl
theorem sX12_tellBand_197 : Snd (miT Tb) RX12 cX12_tellBand 5 none 197 (i_aload 198 0) := snd_aload_n rfl dX12_tellBand_197
theorem sX12_tellBand_198 : Snd (miT Tb) RX12 cX12_tellBand 5 none 198 (i_getR 11 22 201) := snd_getR rfl (by decide) (by decide) (by decide) (fun hK ho hs hq kk => gf_X12_72 hK ho hs hq rfl dX12_tellBand_198 kk)
theorem sX12_tellBand_201 : Snd (miT Tb) RX12 cX12_tellBand 5 none 201 (i_const 203 (vI 35)) := snd_bipush (by decide) dX12_tellBand_201
theorem sX12_tellBand_203 : Snd (miT Tb) RX12 cX12_tellBand 5 none 203 (i_iload 204 1) := snd_iload_n rfl dX12_tellBand_203
theorem sX12_tellBand_204 : Snd (miT Tb) RX12 cX12_tellBand 5 none 204 (i_imul 205) := snd_imul dX12_tellBand_204
theorem sX12_tellBand_205 : Snd (miT Tb) RX12 cX12_tellBand 5 none 205 (i_iload 207 4) := snd_iload dX12_tellBand_205
theorem sX12_tellBand_207 : Snd (miT Tb) RX12 cX12_tellBand 5 none 207 (i_iadd 208) := snd_iadd dX12_tellBand_207
theorem sX12_tellBand_208 : Snd (miT Tb) RX12 cX12_tellBand 5 none 208 (i_iload 209 3) := snd_iload_n rfl dX12_tellBand_208
theorem sX12_tellBand_209 : Snd (miT Tb) RX12 cX12_tellBand 5 none 209 (i_iast 210) := snd_iast dX12_tellBand_209
theorem sX12_tellBand_210 : Snd (miT Tb) RX12 cX12_tellBand 5 none 210 (i_iinc 213 4 1) := snd_iinc (by decide) dX12_tellBand_210
theorem sX12_tellBand_213 : Snd (miT Tb) RX12 cX12_tellBand 5 none 213 (i_goto 111) := snd_goto dX12_tellBand_213 rfl
theorem sX12_tellBand_216 : Snd (miT Tb) RX12 cX12_tellBand 5 none 216 (i_vret) := snd_vret dX12_tellBand_216
theorem kX12_tellBand : raA (okI (miT Tb) (yX12_tellBand, cX12_tellBand, 5, none)) tX12_tellBand := (raA_br (raA_br (raA_br (raA_br (raA_br (raA_br (raA_br (raA_leaf sX12_tellBand_0) (raA_leaf sX12_tellBand_1)) (raA_br (raA_leaf sX12_tellBand_2) (raA_leaf sX12_tellBand_5))) (raA_br (raA_br (raA_leaf sX12_tellBand_6) (raA_leaf sX12_tellBand_9)) (raA_br (raA_leaf sX12_tellBand_10) (raA_leaf sX12_tellBand_11)))) (raA_br (raA_br (raA_br (raA_leaf sX12_tellBand_12) (raA_leaf sX12_tellBand_13)) (raA_br (raA_leaf sX12_tellBand_16) (raA_leaf sX12_tellBand_17))) (raA_br (raA_br (raA_leaf sX12_tellBand_18) (raA_leaf sX12_tellBand_19)) (raA_br (raA_leaf sX12_tellBand_20) (raA_leaf sX12_tellBand_23))))) (raA_br (raA_br (raA_br (raA_br (raA_leaf sX12_tellBand_25) (raA_leaf sX12_tellBand_26)) (raA_br (raA_leaf sX12_tellBand_27) (raA_leaf sX12_tellBand_28))) (raA_br (raA_br (raA_leaf sX12_tellBand_29) (raA_leaf sX12_tellBand_30)) (raA_br (raA_leaf sX12_tellBand_33) (raA_leaf sX12_tellBand_34)))) (raA_br (raA_br (raA_br (raA_leaf sX12_tellBand_35) (raA_leaf sX12_tellBand_38)) (raA_br (raA_leaf sX12_tellBand_39) (raA_leaf sX12_tellBand_40))) (raA_br (raA_br (raA_leaf sX12_tellBand_43) (raA_leaf sX12_tellBand_44)) (raA_br (raA_leaf sX12_tellBand_45) (raA_leaf sX12_tellBand_46)))))) (raA_br (raA_br (raA_br (raA_br (raA_br (raA_leaf sX12_tellBand_47) (raA_leaf sX12_tellBand_50)) (raA_br (raA_leaf sX12_tellBand_53) (raA_leaf sX12_tellBand_54))) (raA_br (raA_br (raA_leaf sX12_tellBand_57) (raA_leaf sX12_tellBand_58)) (raA_br (raA_leaf sX12_tellBand_61) (raA_leaf sX12_tellBand_62)))) (raA_br (raA_br (raA_br (raA_leaf sX12_tellBand_63) (raA_leaf sX12_tellBand_66)) (raA_br (raA_leaf sX12_tellBand_67) (raA_leaf sX12_tellBand_68))) (raA_br (raA_br (raA_leaf sX12_tellBand_69) (raA_leaf sX12_tellBand_70)) (raA_br (raA_leaf sX12_tellBand_71) (raA_leaf sX12_tellBand_72))))) (raA_br (raA_br (raA_br (raA_br (raA_leaf sX12_tellBand_73) (raA_leaf sX12_tellBand_76)) (raA_br (raA_leaf sX12_tellBand_79) (raA_leaf sX12_tellBand_80))) (raA_br (raA_br (raA_leaf sX12_tellBand_83) (raA_leaf sX12_tellBand_84)) (raA_br (raA_leaf sX12_tellBand_85) (raA_leaf sX12_tellBand_86)))) (raA_br (raA_br (raA_br (raA_leaf sX12_tellBand_87) (raA_leaf sX12_tellBand_88)) (raA_br (raA_leaf sX12_tellBand_89) (raA_leaf sX12_tellBand_92))) (raA_br (raA_br (raA_leaf sX12_tellBand_93) (raA_leaf sX12_tellBand_94)) (raA_br (raA_leaf sX12_tellBand_95) (raA_br (raA_leaf sX12_tellBand_98) (raA_leaf sX12_tellBand_101)))))))) (raA_br (raA_br (raA_br (raA_br (raA_br (raA_br (raA_leaf sX12_tellBand_102) (raA_leaf sX12_tellBand_103)) (raA_br (raA_leaf sX12_tellBand_106) (raA_leaf sX12_tellBand_107))) (raA_br (raA_br (raA_leaf sX12_tellBand_108) (raA_leaf sX12_tellBand_109)) (raA_br (raA_leaf sX12_tellBand_111) (raA_leaf sX12_tellBand_113)))) (raA_br (raA_br (raA_br (raA_leaf sX12_tellBand_114) (raA_leaf sX12_tellBand_115)) (raA_br (raA_leaf sX12_tellBand_118) (raA_leaf sX12_tellBand_121))) (raA_br (raA_br (raA_leaf sX12_tellBand_122) (raA_leaf sX12_tellBand_123)) (raA_br (raA_leaf sX12_tellBand_126) (raA_leaf sX12_tellBand_127))))) (raA_br (raA_br (raA_br (raA_br (raA_leaf sX12_tellBand_128) (raA_leaf sX12_tellBand_129)) (raA_br (raA_leaf sX12_tellBand_130) (raA_leaf sX12_tellBand_131))) (raA_br (raA_br (raA_leaf sX12_tellBand_134) (raA_leaf sX12_tellBand_137)) (raA_br (raA_leaf sX12_tellBand_140) (raA_leaf sX12_tellBand_141)))) (raA_br (raA_br (raA_br (raA_leaf sX12_tellBand_144) (raA_leaf sX12_tellBand_145)) (raA_br (raA_leaf sX12_tellBand_148) (raA_leaf sX12_tellBand_149))) (raA_br (raA_br (raA_leaf sX12_tellBand_150) (raA_leaf sX12_tellBand_151)) (raA_br (raA_leaf sX12_tellBand_152) (raA_br (raA_leaf sX12_tellBand_153) (raA_leaf sX12_tellBand_156))))))) (raA_br (raA_br (raA_br (raA_br (raA_br (raA_leaf sX12_tellBand_157) (raA_leaf sX12_tellBand_158)) (raA_br (raA_leaf sX12_tellBand_161) (raA_leaf sX12_tellBand_162))) (raA_br (raA_br (raA_leaf sX12_tellBand_163) (raA_leaf sX12_tellBand_165)) (raA_br (raA_leaf sX12_tellBand_168) (raA_leaf sX12_tellBand_169)))) (raA_br (raA_br (raA_br (raA_leaf sX12_tellBand_170) (raA_leaf sX12_tellBand_173)) (raA_br (raA_leaf sX12_tellBand_176) (raA_leaf sX12_tellBand_177))) (raA_br (raA_br (raA_leaf sX12_tellBand_178) (raA_leaf sX12_tellBand_181)) (raA_br (raA_leaf sX12_tellBand_182) (raA_leaf sX12_tellBand_183))))) (raA_br (raA_br (raA_br (raA_br (raA_leaf sX12_tellBand_186) (raA_leaf sX12_tellBand_187)) (raA_br (raA_leaf sX12_tellBand_190) (raA_leaf sX12_tellBand_191))) (raA_br (raA_br (raA_leaf sX12_tellBand_194) (raA_leaf sX12_tellBand_197)) (raA_br (raA_leaf sX12_tellBand_198) (raA_leaf sX12_tellBand_201)))) (raA_br (raA_br (raA_br (raA_leaf sX12_tellBand_203) (raA_leaf sX12_tellBand_204)) (raA_br (raA_leaf sX12_tellBand_205) (raA_leaf sX12_tellBand_207))) (raA_br (raA_br (raA_leaf sX12_tellBand_208) (raA_leaf sX12_tellBand_209)) (raA_br (raA_leaf sX12_tellBand_210) (raA_br (raA_leaf sX12_tellBand_213) (raA_leaf sX12_tellBand_216)))))))))

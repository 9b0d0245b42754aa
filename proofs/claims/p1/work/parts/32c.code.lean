theorem sX0_hasBand_0 {h0 : Hp_} : Snd 0 108 h0 (miT TbC) RX0 cX0_hasBand 2 (some .boolean) 0 (i_iload 1 1) := snd_iload_n rfl dX0_hasBand_0
theorem sX0_hasBand_1 {h0 : Hp_} : Snd 0 108 h0 (miT TbC) RX0 cX0_hasBand 2 (some .boolean) 1 (i_if_lt 4 16) := snd_if_lt dX0_hasBand_1 rfl
theorem sX0_hasBand_4 {h0 : Hp_} : Snd 0 108 h0 (miT TbC) RX0 cX0_hasBand 2 (some .boolean) 4 (i_iload 5 1) := snd_iload_n rfl dX0_hasBand_4
theorem sX0_hasBand_5 {h0 : Hp_} : Snd 0 108 h0 (miT TbC) RX0 cX0_hasBand 2 (some .boolean) 5 (i_aload 6 0) := snd_aload_n rfl dX0_hasBand_5
theorem sX0_hasBand_6 {h0 : Hp_} : Snd 0 108 h0 (miT TbC) RX0 cX0_hasBand 2 (some .boolean) 6 (i_getI 0 10 9) := snd_getI hl0 (fun hK ho hs hv kk => gf_X0_43 hK ho hs hv dX0_hasBand_6 kk)
theorem sX0_hasBand_9 {h0 : Hp_} : Snd 0 108 h0 (miT TbC) RX0 cX0_hasBand 2 (some .boolean) 9 (i_icmp_ge 12 16) := snd_icmp_ge dX0_hasBand_9 rfl
theorem sX0_hasBand_12 {h0 : Hp_} : Snd 0 108 h0 (miT TbC) RX0 cX0_hasBand 2 (some .boolean) 12 (i_const 13 (vI 1)) := snd_iconst dX0_hasBand_12
theorem sX0_hasBand_13 {h0 : Hp_} : Snd 0 108 h0 (miT TbC) RX0 cX0_hasBand 2 (some .boolean) 13 (i_goto 17) := snd_goto dX0_hasBand_13 rfl
theorem sX0_hasBand_16 {h0 : Hp_} : Snd 0 108 h0 (miT TbC) RX0 cX0_hasBand 2 (some .boolean) 16 (i_const 17 (vI 0)) := snd_iconst dX0_hasBand_16
theorem sX0_hasBand_17 {h0 : Hp_} : Snd 0 108 h0 (miT TbC) RX0 cX0_hasBand 2 (some .boolean) 17 (i_zret) := snd_zret dX0_hasBand_17
theorem kX0_hasBand {h0 : Hp_} : raA (okI 0 108 h0 (miT TbC) (yX0_hasBand, cX0_hasBand, 2, (some .boolean))) tX0_hasBand := (raA_br (raA_br (raA_br (raA_leaf sX0_hasBand_0) (raA_leaf sX0_hasBand_1)) (raA_br (raA_leaf sX0_hasBand_4) (raA_br (raA_leaf sX0_hasBand_5) (raA_leaf sX0_hasBand_6)))) (raA_br (raA_br (raA_leaf sX0_hasBand_9) (raA_leaf sX0_hasBand_12)) (raA_br (raA_leaf sX0_hasBand_13) (raA_br (raA_leaf sX0_hasBand_16) (raA_leaf sX0_hasBand_17)))))
theorem sX0_hasNumber_0 {h0 : Hp_} : Snd 0 108 h0 (miT TbC) RX0 cX0_hasNumber 4 (some .boolean) 0 (i_aload 1 0) := snd_aload_n rfl dX0_hasNumber_0
theorem sX0_hasNumber_1 {h0 : Hp_} : Snd 0 108 h0 (miT TbC) RX0 cX0_hasNumber 4 (some .boolean) 1 (i_iload 2 1) := snd_iload_n rfl dX0_hasNumber_1
theorem sX0_hasNumber_2 {h0 : Hp_} : Snd 0 108 h0 (miT TbC) RX0 cX0_hasNumber 4 (some .boolean) 2 (i_cV1 4 0 5) := snd_cV1 (fun hK hd hC ho hs h6 h7 h8 kk => iv_X0_54 hK (mcC_4 hC) ho hs ⟨hd, by show _ ≤ 40 * (_ + 1); omega⟩ (Nat.le_refl _) h6 h7 h8 ⟨Nat.le_refl _, Nat.le_refl _⟩ dX0_hasNumber_2 kk)
theorem sX0_hasNumber_5 {h0 : Hp_} : Snd 0 108 h0 (miT TbC) RX0 cX0_hasNumber 4 (some .boolean) 5 (i_if_eq 8 40) := snd_if_eq dX0_hasNumber_5 rfl
theorem sX0_hasNumber_8 {h0 : Hp_} : Snd 0 108 h0 (miT TbC) RX0 cX0_hasNumber 4 (some .boolean) 8 (i_iload 9 2) := snd_iload_n rfl dX0_hasNumber_8
theorem sX0_hasNumber_9 {h0 : Hp_} : Snd 0 108 h0 (miT TbC) RX0 cX0_hasNumber 4 (some .boolean) 9 (i_if_lt 12 40) := snd_if_lt dX0_hasNumber_9 rfl
theorem sX0_hasNumber_12 {h0 : Hp_} : Snd 0 108 h0 (miT TbC) RX0 cX0_hasNumber 4 (some .boolean) 12 (i_iload 13 2) := snd_iload_n rfl dX0_hasNumber_12
theorem sX0_hasNumber_13 {h0 : Hp_} : Snd 0 108 h0 (miT TbC) RX0 cX0_hasNumber 4 (some .boolean) 13 (i_aload 14 0) := snd_aload_n rfl dX0_hasNumber_13
theorem sX0_hasNumber_14 {h0 : Hp_} : Snd 0 108 h0 (miT TbC) RX0 cX0_hasNumber 4 (some .boolean) 14 (i_getR 0 3 17) := snd_getR rfl (by decide) (by decide) (by decide) (fun hK ho hs hq kk => gf_X0_21 hK ho hs hq rfl dX0_hasNumber_14 kk)
theorem sX0_hasNumber_17 {h0 : Hp_} : Snd 0 108 h0 (miT TbC) RX0 cX0_hasNumber 4 (some .boolean) 17 (i_iload 18 1) := snd_iload_n rfl dX0_hasNumber_17
theorem sX0_hasNumber_18 {h0 : Hp_} : Snd 0 108 h0 (miT TbC) RX0 cX0_hasNumber 4 (some .boolean) 18 (i_iald 0 108 19) := snd_iald dX0_hasNumber_18
theorem sX0_hasNumber_19 {h0 : Hp_} : Snd 0 108 h0 (miT TbC) RX0 cX0_hasNumber 4 (some .boolean) 19 (i_icmp_ge 22 40) := snd_icmp_ge dX0_hasNumber_19 rfl
theorem sX0_hasNumber_22 {h0 : Hp_} : Snd 0 108 h0 (miT TbC) RX0 cX0_hasNumber 4 (some .boolean) 22 (i_iload 23 3) := snd_iload_n rfl dX0_hasNumber_22
theorem sX0_hasNumber_23 {h0 : Hp_} : Snd 0 108 h0 (miT TbC) RX0 cX0_hasNumber 4 (some .boolean) 23 (i_if_lt 26 40) := snd_if_lt dX0_hasNumber_23 rfl
theorem sX0_hasNumber_26 {h0 : Hp_} : Snd 0 108 h0 (miT TbC) RX0 cX0_hasNumber 4 (some .boolean) 26 (i_iload 27 3) := snd_iload_n rfl dX0_hasNumber_26
theorem sX0_hasNumber_27 {h0 : Hp_} : Snd 0 108 h0 (miT TbC) RX0 cX0_hasNumber 4 (some .boolean) 27 (i_aload 28 0) := snd_aload_n rfl dX0_hasNumber_27
theorem sX0_hasNumber_28 {h0 : Hp_} : Snd 0 108 h0 (miT TbC) RX0 cX0_hasNumber 4 (some .boolean) 28 (i_getR 0 4 31) := snd_getR rfl (by decide) (by decide) (by decide) (fun hK ho hs hq kk => gf_X0_24 hK ho hs hq rfl dX0_hasNumber_28 kk)
theorem sX0_hasNumber_31 {h0 : Hp_} : Snd 0 108 h0 (miT TbC) RX0 cX0_hasNumber 4 (some .boolean) 31 (i_iload 32 1) := snd_iload_n rfl dX0_hasNumber_31
theorem sX0_hasNumber_32 {h0 : Hp_} : Snd 0 108 h0 (miT TbC) RX0 cX0_hasNumber 4 (some .boolean) 32 (i_iald 0 108 33) := snd_iald dX0_hasNumber_32
theorem sX0_hasNumber_33 {h0 : Hp_} : Snd 0 108 h0 (miT TbC) RX0 cX0_hasNumber 4 (some .boolean) 33 (i_icmp_ge 36 40) := snd_icmp_ge dX0_hasNumber_33 rfl
theorem sX0_hasNumber_36 {h0 : Hp_} : Snd 0 108 h0 (miT TbC) RX0 cX0_hasNumber 4 (some .boolean) 36 (i_const 37 (vI 1)) := snd_iconst dX0_hasNumber_36
theorem sX0_hasNumber_37 {h0 : Hp_} : Snd 0 108 h0 (miT TbC) RX0 cX0_hasNumber 4 (some .boolean) 37 (i_goto 41) := snd_goto dX0_hasNumber_37 rfl
theorem sX0_hasNumber_40 {h0 : Hp_} : Snd 0 108 h0 (miT TbC) RX0 cX0_hasNumber 4 (some .boolean) 40 (i_const 41 (vI 0)) := snd_iconst dX0_hasNumber_40
theorem sX0_hasNumber_41 {h0 : Hp_} : Snd 0 108 h0 (miT TbC) RX0 cX0_hasNumber 4 (some .boolean) 41 (i_zret) := snd_zret dX0_hasNumber_41
theorem kX0_hasNumber {h0 : Hp_} : raA (okI 0 108 h0 (miT TbC) (yX0_hasNumber, cX0_hasNumber, 4, (some .boolean))) tX0_hasNumber := (raA_br (raA_br (raA_br (raA_br (raA_leaf sX0_hasNumber_0) (raA_br (raA_leaf sX0_hasNumber_1) (raA_leaf sX0_hasNumber_2))) (raA_br (raA_leaf sX0_hasNumber_5) (raA_br (raA_leaf sX0_hasNumber_8) (raA_leaf sX0_hasNumber_9)))) (raA_br (raA_br (raA_leaf sX0_hasNumber_12) (raA_br (raA_leaf sX0_hasNumber_13) (raA_leaf sX0_hasNumber_14))) (raA_br (raA_leaf sX0_hasNumber_17) (raA_br (raA_leaf sX0_hasNumber_18) (raA_leaf sX0_hasNumber_19))))) (raA_br (raA_br (raA_br (raA_leaf sX0_hasNumber_22) (raA_br (raA_leaf sX0_hasNumber_23) (raA_leaf sX0_hasNumber_26))) (raA_br (raA_leaf sX0_hasNumber_27) (raA_br (raA_leaf sX0_hasNumber_28) (raA_leaf sX0_hasNumber_31)))) (raA_br (raA_br (raA_leaf sX0_hasNumber_32) (raA_br (raA_leaf sX0_hasNumber_33) (raA_leaf sX0_hasNumber_36))) (raA_br (raA_leaf sX0_hasNumber_37) (raA_br (raA_leaf sX0_hasNumber_40) (raA_leaf sX0_hasNumber_41))))))
theorem sX0_isEmpty_0 {h0 : Hp_} : Snd 0 108 h0 (miT TbC) RX0 cX0_isEmpty 2 (some .boolean) 0 (i_aload 1 0) := snd_aload_n rfl dX0_isEmpty_0
theorem sX0_isEmpty_1 {h0 : Hp_} : Snd 0 108 h0 (miT TbC) RX0 cX0_isEmpty 2 (some .boolean) 1 (i_getR 0 3 4) := snd_getR rfl (by decide) (by decide) (by decide) (fun hK ho hs hq kk => gf_X0_21 hK ho hs hq rfl dX0_isEmpty_1 kk)
theorem sX0_isEmpty_4 {h0 : Hp_} : Snd 0 108 h0 (miT TbC) RX0 cX0_isEmpty 2 (some .boolean) 4 (i_iload 5 1) := snd_iload_n rfl dX0_isEmpty_4
theorem sX0_isEmpty_5 {h0 : Hp_} : Snd 0 108 h0 (miT TbC) RX0 cX0_isEmpty 2 (some .boolean) 5 (i_iald 0 108 6) := snd_iald dX0_isEmpty_5
theorem sX0_isEmpty_6 {h0 : Hp_} : Snd 0 108 h0 (miT TbC) RX0 cX0_isEmpty 2 (some .boolean) 6 (i_if_eq 9 18) := snd_if_eq dX0_isEmpty_6 rfl
theorem sX0_isEmpty_9 {h0 : Hp_} : Snd 0 108 h0 (miT TbC) RX0 cX0_isEmpty 2 (some .boolean) 9 (i_aload 10 0) := snd_aload_n rfl dX0_isEmpty_9
theorem sX0_isEmpty_10 {h0 : Hp_} : Snd 0 108 h0 (miT TbC) RX0 cX0_isEmpty 2 (some .boolean) 10 (i_getR 0 4 13) := snd_getR rfl (by decide) (by decide) (by decide) (fun hK ho hs hq kk => gf_X0_24 hK ho hs hq rfl dX0_isEmpty_10 kk)
theorem sX0_isEmpty_13 {h0 : Hp_} : Snd 0 108 h0 (miT TbC) RX0 cX0_isEmpty 2 (some .boolean) 13 (i_iload 14 1) := snd_iload_n rfl dX0_isEmpty_13
theorem sX0_isEmpty_14 {h0 : Hp_} : Snd 0 108 h0 (miT TbC) RX0 cX0_isEmpty 2 (some .boolean) 14 (i_iald 0 108 15) := snd_iald dX0_isEmpty_14
theorem sX0_isEmpty_15 {h0 : Hp_} : Snd 0 108 h0 (miT TbC) RX0 cX0_isEmpty 2 (some .boolean) 15 (i_if_ne 18 22) := snd_if_ne dX0_isEmpty_15 rfl
theorem sX0_isEmpty_18 {h0 : Hp_} : Snd 0 108 h0 (miT TbC) RX0 cX0_isEmpty 2 (some .boolean) 18 (i_const 19 (vI 1)) := snd_iconst dX0_isEmpty_18
theorem sX0_isEmpty_19 {h0 : Hp_} : Snd 0 108 h0 (miT TbC) RX0 cX0_isEmpty 2 (some .boolean) 19 (i_goto 23) := snd_goto dX0_isEmpty_19 rfl
theorem sX0_isEmpty_22 {h0 : Hp_} : Snd 0 108 h0 (miT TbC) RX0 cX0_isEmpty 2 (some .boolean) 22 (i_const 23 (vI 0)) := snd_iconst dX0_isEmpty_22
theorem sX0_isEmpty_23 {h0 : Hp_} : Snd 0 108 h0 (miT TbC) RX0 cX0_isEmpty 2 (some .boolean) 23 (i_zret) := snd_zret dX0_isEmpty_23
theorem kX0_isEmpty {h0 : Hp_} : raA (okI 0 108 h0 (miT TbC) (yX0_isEmpty, cX0_isEmpty, 2, (some .boolean))) tX0_isEmpty := (raA_br (raA_br (raA_br (raA_leaf sX0_isEmpty_0) (raA_br (raA_leaf sX0_isEmpty_1) (raA_leaf sX0_isEmpty_4))) (raA_br (raA_br (raA_leaf sX0_isEmpty_5) (raA_leaf sX0_isEmpty_6)) (raA_br (raA_leaf sX0_isEmpty_9) (raA_leaf sX0_isEmpty_10)))) (raA_br (raA_br (raA_leaf sX0_isEmpty_13) (raA_br (raA_leaf sX0_isEmpty_14) (raA_leaf sX0_isEmpty_15))) (raA_br (raA_br (raA_leaf sX0_isEmpty_18) (raA_leaf sX0_isEmpty_19)) (raA_br (raA_leaf sX0_isEmpty_22) (raA_leaf sX0_isEmpty_23)))))
theorem sX0_kindOf_0 {h0 : Hp_} : Snd 0 108 h0 (miT TbC) RX0 cX0_kindOf 3 (some .int) 0 (i_iload 1 1) := snd_iload_n rfl dX0_kindOf_0
theorem sX0_kindOf_1 {h0 : Hp_} : Snd 0 108 h0 (miT TbC) RX0 cX0_kindOf 3 (some .int) 1 (i_if_ne 4 6) := snd_if_ne dX0_kindOf_1 rfl
theorem sX0_kindOf_4 {h0 : Hp_} : Snd 0 108 h0 (miT TbC) RX0 cX0_kindOf 3 (some .int) 4 (i_const 5 (vI 0)) := snd_iconst dX0_kindOf_4
theorem sX0_kindOf_5 {h0 : Hp_} : Snd 0 108 h0 (miT TbC) RX0 cX0_kindOf 3 (some .int) 5 (i_iret) := snd_iret dX0_kindOf_5
theorem sX0_kindOf_6 {h0 : Hp_} : Snd 0 108 h0 (miT TbC) RX0 cX0_kindOf 3 (some .int) 6 (i_iload 7 1) := snd_iload_n rfl dX0_kindOf_6
theorem sX0_kindOf_7 {h0 : Hp_} : Snd 0 108 h0 (miT TbC) RX0 cX0_kindOf 3 (some .int) 7 (i_const 8 (vI 1)) := snd_iconst dX0_kindOf_7
theorem sX0_kindOf_8 {h0 : Hp_} : Snd 0 108 h0 (miT TbC) RX0 cX0_kindOf 3 (some .int) 8 (i_isub 9) := snd_isub dX0_kindOf_8
theorem sX0_kindOf_9 {h0 : Hp_} : Snd 0 108 h0 (miT TbC) RX0 cX0_kindOf 3 (some .int) 9 (i_const 10 (vI 3)) := snd_iconst dX0_kindOf_9
theorem sX0_kindOf_10 {h0 : Hp_} : Snd 0 108 h0 (miT TbC) RX0 cX0_kindOf 3 (some .int) 10 (i_irem 11) := snd_irem dX0_kindOf_10
theorem sX0_kindOf_11 {h0 : Hp_} : Snd 0 108 h0 (miT TbC) RX0 cX0_kindOf 3 (some .int) 11 (i_istore 12 2) := snd_istore_n rfl (by decide) dX0_kindOf_11
theorem sX0_kindOf_12 {h0 : Hp_} : Snd 0 108 h0 (miT TbC) RX0 cX0_kindOf 3 (some .int) 12 (i_iload 13 2) := snd_iload_n rfl dX0_kindOf_12
theorem sX0_kindOf_13 {h0 : Hp_} : Snd 0 108 h0 (miT TbC) RX0 cX0_kindOf 3 (some .int) 13 (i_if_ne 16 20) := snd_if_ne dX0_kindOf_13 rfl
theorem sX0_kindOf_16 {h0 : Hp_} : Snd 0 108 h0 (miT TbC) RX0 cX0_kindOf 3 (some .int) 16 (i_const 17 (vI 1)) := snd_iconst dX0_kindOf_16
theorem sX0_kindOf_17 {h0 : Hp_} : Snd 0 108 h0 (miT TbC) RX0 cX0_kindOf 3 (some .int) 17 (i_goto 30) := snd_goto dX0_kindOf_17 rfl
theorem sX0_kindOf_20 {h0 : Hp_} : Snd 0 108 h0 (miT TbC) RX0 cX0_kindOf 3 (some .int) 20 (i_iload 21 2) := snd_iload_n rfl dX0_kindOf_20
theorem sX0_kindOf_21 {h0 : Hp_} : Snd 0 108 h0 (miT TbC) RX0 cX0_kindOf 3 (some .int) 21 (i_const 22 (vI 1)) := snd_iconst dX0_kindOf_21
theorem sX0_kindOf_22 {h0 : Hp_} : Snd 0 108 h0 (miT TbC) RX0 cX0_kindOf 3 (some .int) 22 (i_icmp_ne 25 29) := snd_icmp_ne dX0_kindOf_22 rfl
theorem sX0_kindOf_25 {h0 : Hp_} : Snd 0 108 h0 (miT TbC) RX0 cX0_kindOf 3 (some .int) 25 (i_const 26 (vI 0)) := snd_iconst dX0_kindOf_25
theorem sX0_kindOf_26 {h0 : Hp_} : Snd 0 108 h0 (miT TbC) RX0 cX0_kindOf 3 (some .int) 26 (i_goto 30) := snd_goto dX0_kindOf_26 rfl
theorem sX0_kindOf_29 {h0 : Hp_} : Snd 0 108 h0 (miT TbC) RX0 cX0_kindOf 3 (some .int) 29 (i_const 30 (vI 2)) := snd_iconst dX0_kindOf_29
theorem sX0_kindOf_30 {h0 : Hp_} : Snd 0 108 h0 (miT TbC) RX0 cX0_kindOf 3 (some .int) 30 (i_iret) := snd_iret dX0_kindOf_30
theorem kX0_kindOf {h0 : Hp_} : raA (okI 0 108 h0 (miT TbC) (yX0_kindOf, cX0_kindOf, 3, (some .int))) tX0_kindOf := (raA_br (raA_br (raA_br (raA_br (raA_leaf sX0_kindOf_0) (raA_leaf sX0_kindOf_1)) (raA_br (raA_leaf sX0_kindOf_4) (raA_br (raA_leaf sX0_kindOf_5) (raA_leaf sX0_kindOf_6)))) (raA_br (raA_br (raA_leaf sX0_kindOf_7) (raA_leaf sX0_kindOf_8)) (raA_br (raA_leaf sX0_kindOf_9) (raA_br (raA_leaf sX0_kindOf_10) (raA_leaf sX0_kindOf_11))))) (raA_br (raA_br (raA_br (raA_leaf sX0_kindOf_12) (raA_leaf sX0_kindOf_13)) (raA_br (raA_leaf sX0_kindOf_16) (raA_br (raA_leaf sX0_kindOf_17) (raA_leaf sX0_kindOf_20)))) (raA_br (raA_br (raA_leaf sX0_kindOf_21) (raA_br (raA_leaf sX0_kindOf_22) (raA_leaf sX0_kindOf_25))) (raA_br (raA_leaf sX0_kindOf_26) (raA_br (raA_leaf sX0_kindOf_29) (raA_leaf sX0_kindOf_30))))))
theorem sX0_lay_0 {h0 : Hp_} : Snd 0 108 h0 (miT TbC) RX0 cX0_lay 10 none 0 (i_aload 1 0) := snd_aload_n rfl dX0_lay_0
theorem sX0_lay_1 {h0 : Hp_} : Snd 0 108 h0 (miT TbC) RX0 cX0_lay 10 none 1 (i_iload 2 1) := snd_iload_n rfl dX0_lay_1
theorem sX0_lay_2 {h0 : Hp_} : Snd 0 108 h0 (miT TbC) RX0 cX0_lay 10 none 2 (i_putI 0 7 5) := snd_putI hl0 (fun hK ho hs kk => pf_X0_33 hK ho hs dX0_lay_2 kk)
theorem sX0_lay_5 {h0 : Hp_} : Snd 0 108 h0 (miT TbC) RX0 cX0_lay 10 none 5 (i_aload 6 0) := snd_aload_n rfl dX0_lay_5
theorem sX0_lay_6 {h0 : Hp_} : Snd 0 108 h0 (miT TbC) RX0 cX0_lay 10 none 6 (i_iload 7 2) := snd_iload_n rfl dX0_lay_6
theorem sX0_lay_7 {h0 : Hp_} : Snd 0 108 h0 (miT TbC) RX0 cX0_lay 10 none 7 (i_putI 0 8 10) := snd_putI hl0 (fun hK ho hs kk => pf_X0_37 hK ho hs dX0_lay_7 kk)
theorem sX0_lay_10 {h0 : Hp_} : Snd 0 108 h0 (miT TbC) RX0 cX0_lay 10 none 10 (i_aload 11 0) := snd_aload_n rfl dX0_lay_10
theorem sX0_lay_11 {h0 : Hp_} : Snd 0 108 h0 (miT TbC) RX0 cX0_lay 10 none 11 (i_iload 12 3) := snd_iload_n rfl dX0_lay_11
theorem sX0_lay_12 {h0 : Hp_} : Snd 0 108 h0 (miT TbC) RX0 cX0_lay 10 none 12 (i_putI 0 9 15) := snd_putI hl0 (fun hK ho hs kk => pf_X0_40 hK ho hs dX0_lay_12 kk)
theorem sX0_lay_15 {h0 : Hp_} : Snd 0 108 h0 (miT TbC) RX0 cX0_lay 10 none 15 (i_aload 16 0) := snd_aload_n rfl dX0_lay_15
theorem sX0_lay_16 {h0 : Hp_} : Snd 0 108 h0 (miT TbC) RX0 cX0_lay 10 none 16 (i_const 17 (vI 3)) := snd_iconst dX0_lay_16
theorem sX0_lay_17 {h0 : Hp_} : Snd 0 108 h0 (miT TbC) RX0 cX0_lay 10 none 17 (i_aload 18 0) := snd_aload_n rfl dX0_lay_17
theorem sX0_lay_18 {h0 : Hp_} : Snd 0 108 h0 (miT TbC) RX0 cX0_lay 10 none 18 (i_getI 0 9 21) := snd_getI hl0 (fun hK ho hs hv kk => gf_X0_40 hK ho hs hv dX0_lay_18 kk)
theorem sX0_lay_21 {h0 : Hp_} : Snd 0 108 h0 (miT TbC) RX0 cX0_lay 10 none 21 (i_imul 22) := snd_imul dX0_lay_21
theorem sX0_lay_22 {h0 : Hp_} : Snd 0 108 h0 (miT TbC) RX0 cX0_lay 10 none 22 (i_const 23 (vI 1)) := snd_iconst dX0_lay_22
theorem sX0_lay_23 {h0 : Hp_} : Snd 0 108 h0 (miT TbC) RX0 cX0_lay 10 none 23 (i_iadd 24) := snd_iadd dX0_lay_23
theorem sX0_lay_24 {h0 : Hp_} : Snd 0 108 h0 (miT TbC) RX0 cX0_lay 10 none 24 (i_putI 0 10 27) := snd_putI hl0 (fun hK ho hs kk => pf_X0_43 hK ho hs dX0_lay_24 kk)
theorem sX0_lay_27 {h0 : Hp_} : Snd 0 108 h0 (miT TbC) RX0 cX0_lay 10 none 27 (i_const 28 (vI 1)) := snd_iconst dX0_lay_27
theorem sX0_lay_28 {h0 : Hp_} : Snd 0 108 h0 (miT TbC) RX0 cX0_lay 10 none 28 (i_istore 30 4) := snd_istore (by decide) dX0_lay_28
theorem sX0_lay_30 {h0 : Hp_} : Snd 0 108 h0 (miT TbC) RX0 cX0_lay 10 none 30 (i_iload 32 4) := snd_iload dX0_lay_30
theorem sX0_lay_32 {h0 : Hp_} : Snd 0 108 h0 (miT TbC) RX0 cX0_lay 10 none 32 (i_aload 33 0) := snd_aload_n rfl dX0_lay_32
theorem sX0_lay_33 {h0 : Hp_} : Snd 0 108 h0 (miT TbC) RX0 cX0_lay 10 none 33 (i_getI 0 9 36) := snd_getI hl0 (fun hK ho hs hv kk => gf_X0_40 hK ho hs hv dX0_lay_33 kk)
theorem sX0_lay_36 {h0 : Hp_} : Snd 0 108 h0 (miT TbC) RX0 cX0_lay 10 none 36 (i_icmp_gt 39 162) := snd_icmp_gt dX0_lay_36 rfl
theorem sX0_lay_39 {h0 : Hp_} : Snd 0 108 h0 (miT TbC) RX0 cX0_lay 10 none 39 (i_const 40 (vI 3)) := snd_iconst dX0_lay_39
theorem sX0_lay_40 {h0 : Hp_} : Snd 0 108 h0 (miT TbC) RX0 cX0_lay 10 none 40 (i_aload 41 0) := snd_aload_n rfl dX0_lay_40
theorem sX0_lay_41 {h0 : Hp_} : Snd 0 108 h0 (miT TbC) RX0 cX0_lay 10 none 41 (i_getI 0 9 44) := snd_getI hl0 (fun hK ho hs hv kk => gf_X0_40 hK ho hs hv dX0_lay_41 kk)
theorem sX0_lay_44 {h0 : Hp_} : Snd 0 108 h0 (miT TbC) RX0 cX0_lay 10 none 44 (i_iload 46 4) := snd_iload dX0_lay_44
theorem sX0_lay_46 {h0 : Hp_} : Snd 0 108 h0 (miT TbC) RX0 cX0_lay 10 none 46 (i_isub 47) := snd_isub dX0_lay_46
theorem sX0_lay_47 {h0 : Hp_} : Snd 0 108 h0 (miT TbC) RX0 cX0_lay 10 none 47 (i_imul 48) := snd_imul dX0_lay_47
theorem sX0_lay_48 {h0 : Hp_} : Snd 0 108 h0 (miT TbC) RX0 cX0_lay 10 none 48 (i_const 49 (vI 1)) := snd_iconst dX0_lay_48
theorem sX0_lay_49 {h0 : Hp_} : Snd 0 108 h0 (miT TbC) RX0 cX0_lay 10 none 49 (i_iadd 50) := snd_iadd dX0_lay_49
theorem sX0_lay_50 {h0 : Hp_} : Snd 0 108 h0 (miT TbC) RX0 cX0_lay 10 none 50 (i_istore 52 5) := snd_istore (by decide) dX0_lay_50
theorem sX0_lay_52 {h0 : Hp_} : Snd 0 108 h0 (miT TbC) RX0 cX0_lay 10 none 52 (i_aload 53 0) := snd_aload_n rfl dX0_lay_52
theorem sX0_lay_53 {h0 : Hp_} : Snd 0 108 h0 (miT TbC) RX0 cX0_lay 10 none 53 (i_getI 0 7 56) := snd_getI hl0 (fun hK ho hs hv kk => gf_X0_33 hK ho hs hv dX0_lay_53 kk)
theorem sX0_lay_56 {h0 : Hp_} : Snd 0 108 h0 (miT TbC) RX0 cX0_lay 10 none 56 (i_iload 58 4) := snd_iload dX0_lay_56
theorem sX0_lay_58 {h0 : Hp_} : Snd 0 108 h0 (miT TbC) RX0 cX0_lay 10 none 58 (i_const 59 (vI 1)) := snd_iconst dX0_lay_58
theorem sX0_lay_59 {h0 : Hp_} : Snd 0 108 h0 (miT TbC) RX0 cX0_lay 10 none 59 (i_isub 60) := snd_isub dX0_lay_59
theorem sX0_lay_60 {h0 : Hp_} : Snd 0 108 h0 (miT TbC) RX0 cX0_lay 10 none 60 (i_cS2 11 63) := snd_cS2 (fun hK hd hC h6 h7 h8 kk => iv_X0_46 hK (mcC_11 hC) ⟨hd, by show _ ≤ 40 * (_ + 1); omega⟩ (Nat.le_refl _) h6 h7 h8 ⟨Nat.le_refl _, Nat.le_refl _⟩ dX0_lay_60 kk)
theorem sX0_lay_63 {h0 : Hp_} : Snd 0 108 h0 (miT TbC) RX0 cX0_lay 10 none 63 (i_istore 65 6) := snd_istore (by decide) dX0_lay_63
theorem sX0_lay_65 {h0 : Hp_} : Snd 0 108 h0 (miT TbC) RX0 cX0_lay 10 none 65 (i_aload 66 0) := snd_aload_n rfl dX0_lay_65
theorem sX0_lay_66 {h0 : Hp_} : Snd 0 108 h0 (miT TbC) RX0 cX0_lay 10 none 66 (i_getI 0 8 69) := snd_getI hl0 (fun hK ho hs hv kk => gf_X0_37 hK ho hs hv dX0_lay_66 kk)
theorem sX0_lay_69 {h0 : Hp_} : Snd 0 108 h0 (miT TbC) RX0 cX0_lay 10 none 69 (i_iload 71 4) := snd_iload dX0_lay_69
theorem sX0_lay_71 {h0 : Hp_} : Snd 0 108 h0 (miT TbC) RX0 cX0_lay 10 none 71 (i_const 72 (vI 1)) := snd_iconst dX0_lay_71
theorem sX0_lay_72 {h0 : Hp_} : Snd 0 108 h0 (miT TbC) RX0 cX0_lay 10 none 72 (i_isub 73) := snd_isub dX0_lay_72
theorem sX0_lay_73 {h0 : Hp_} : Snd 0 108 h0 (miT TbC) RX0 cX0_lay 10 none 73 (i_cS2 11 76) := snd_cS2 (fun hK hd hC h6 h7 h8 kk => iv_X0_46 hK (mcC_11 hC) ⟨hd, by show _ ≤ 40 * (_ + 1); omega⟩ (Nat.le_refl _) h6 h7 h8 ⟨Nat.le_refl _, Nat.le_refl _⟩ dX0_lay_73 kk)
theorem sX0_lay_76 {h0 : Hp_} : Snd 0 108 h0 (miT TbC) RX0 cX0_lay 10 none 76 (i_istore 78 7) := snd_istore (by decide) dX0_lay_76
theorem sX0_lay_78 {h0 : Hp_} : Snd 0 108 h0 (miT TbC) RX0 cX0_lay 10 none 78 (i_aload 79 0) := snd_aload_n rfl dX0_lay_78
theorem sX0_lay_79 {h0 : Hp_} : Snd 0 108 h0 (miT TbC) RX0 cX0_lay 10 none 79 (i_getI 0 7 82) := snd_getI hl0 (fun hK ho hs hv kk => gf_X0_33 hK ho hs hv dX0_lay_79 kk)
theorem sX0_lay_82 {h0 : Hp_} : Snd 0 108 h0 (miT TbC) RX0 cX0_lay 10 none 82 (i_iload 84 4) := snd_iload dX0_lay_82
theorem sX0_lay_84 {h0 : Hp_} : Snd 0 108 h0 (miT TbC) RX0 cX0_lay 10 none 84 (i_cS2 11 87) := snd_cS2 (fun hK hd hC h6 h7 h8 kk => iv_X0_46 hK (mcC_11 hC) ⟨hd, by show _ ≤ 40 * (_ + 1); omega⟩ (Nat.le_refl _) h6 h7 h8 ⟨Nat.le_refl _, Nat.le_refl _⟩ dX0_lay_84 kk)
theorem sX0_lay_87 {h0 : Hp_} : Snd 0 108 h0 (miT TbC) RX0 cX0_lay 10 none 87 (i_istore 89 8) := snd_istore (by decide) dX0_lay_87
theorem sX0_lay_89 {h0 : Hp_} : Snd 0 108 h0 (miT TbC) RX0 cX0_lay 10 none 89 (i_aload 90 0) := snd_aload_n rfl dX0_lay_89
theorem sX0_lay_90 {h0 : Hp_} : Snd 0 108 h0 (miT TbC) RX0 cX0_lay 10 none 90 (i_getI 0 8 93) := snd_getI hl0 (fun hK ho hs hv kk => gf_X0_37 hK ho hs hv dX0_lay_90 kk)
theorem sX0_lay_93 {h0 : Hp_} : Snd 0 108 h0 (miT TbC) RX0 cX0_lay 10 none 93 (i_iload 95 4) := snd_iload dX0_lay_93
theorem sX0_lay_95 {h0 : Hp_} : Snd 0 108 h0 (miT TbC) RX0 cX0_lay 10 none 95 (i_cS2 11 98) := snd_cS2 (fun hK hd hC h6 h7 h8 kk => iv_X0_46 hK (mcC_11 hC) ⟨hd, by show _ ≤ 40 * (_ + 1); omega⟩ (Nat.le_refl _) h6 h7 h8 ⟨Nat.le_refl _, Nat.le_refl _⟩ dX0_lay_95 kk)
theorem sX0_lay_98 {h0 : Hp_} : Snd 0 108 h0 (miT TbC) RX0 cX0_lay 10 none 98 (i_istore 100 9) := snd_istore (by decide) dX0_lay_98
theorem sX0_lay_100 {h0 : Hp_} : Snd 0 108 h0 (miT TbC) RX0 cX0_lay 10 none 100 (i_aload 101 0) := snd_aload_n rfl dX0_lay_100
theorem sX0_lay_101 {h0 : Hp_} : Snd 0 108 h0 (miT TbC) RX0 cX0_lay 10 none 101 (i_iload 103 5) := snd_iload dX0_lay_101
theorem sX0_lay_103 {h0 : Hp_} : Snd 0 108 h0 (miT TbC) RX0 cX0_lay 10 none 103 (i_iload 105 8) := snd_iload dX0_lay_103
theorem sX0_lay_105 {h0 : Hp_} : Snd 0 108 h0 (miT TbC) RX0 cX0_lay 10 none 105 (i_const 106 (vI 0)) := snd_iconst dX0_lay_105
theorem sX0_lay_106 {h0 : Hp_} : Snd 0 108 h0 (miT TbC) RX0 cX0_lay 10 none 106 (i_iload 108 6) := snd_iload dX0_lay_106
theorem sX0_lay_108 {h0 : Hp_} : Snd 0 108 h0 (miT TbC) RX0 cX0_lay 10 none 108 (i_iload 110 8) := snd_iload dX0_lay_108
theorem sX0_lay_110 {h0 : Hp_} : Snd 0 108 h0 (miT TbC) RX0 cX0_lay 10 none 110 (i_isub 111) := snd_isub dX0_lay_110
theorem sX0_lay_111 {h0 : Hp_} : Snd 0 108 h0 (miT TbC) RX0 cX0_lay 10 none 111 (i_iload 113 9) := snd_iload dX0_lay_111
theorem sX0_lay_113 {h0 : Hp_} : Snd 0 108 h0 (miT TbC) RX0 cX0_lay 10 none 113 (i_cV5 9 0 116) := snd_cV5 (fun hK hd hC ho hs h6 h7 h8 kk => iv_X0_50 hK (mcC_9 hC) ho hs ⟨hd, by show _ ≤ 40 * (_ + 1); omega⟩ (Nat.le_refl _) h6 h7 h8 ⟨Nat.le_refl _, Nat.le_refl _⟩ dX0_lay_113 kk)
theorem sX0_lay_116 {h0 : Hp_} : Snd 0 108 h0 (miT TbC) RX0 cX0_lay 10 none 116 (i_aload 117 0) := snd_aload_n rfl dX0_lay_116
theorem sX0_lay_117 {h0 : Hp_} : Snd 0 108 h0 (miT TbC) RX0 cX0_lay 10 none 117 (i_iload 119 5) := snd_iload dX0_lay_117
theorem sX0_lay_119 {h0 : Hp_} : Snd 0 108 h0 (miT TbC) RX0 cX0_lay 10 none 119 (i_const 120 (vI 1)) := snd_iconst dX0_lay_119
theorem sX0_lay_120 {h0 : Hp_} : Snd 0 108 h0 (miT TbC) RX0 cX0_lay 10 none 120 (i_iadd 121) := snd_iadd dX0_lay_120
theorem sX0_lay_121 {h0 : Hp_} : Snd 0 108 h0 (miT TbC) RX0 cX0_lay 10 none 121 (i_const 122 (vI 0)) := snd_iconst dX0_lay_121
theorem sX0_lay_122 {h0 : Hp_} : Snd 0 108 h0 (miT TbC) RX0 cX0_lay 10 none 122 (i_iload 124 9) := snd_iload dX0_lay_122
theorem sX0_lay_124 {h0 : Hp_} : Snd 0 108 h0 (miT TbC) RX0 cX0_lay 10 none 124 (i_iload 126 8) := snd_iload dX0_lay_124
theorem sX0_lay_126 {h0 : Hp_} : Snd 0 108 h0 (miT TbC) RX0 cX0_lay 10 none 126 (i_iload 128 7) := snd_iload dX0_lay_126
theorem sX0_lay_128 {h0 : Hp_} : Snd 0 108 h0 (miT TbC) RX0 cX0_lay 10 none 128 (i_iload 130 9) := snd_iload dX0_lay_128
theorem sX0_lay_130 {h0 : Hp_} : Snd 0 108 h0 (miT TbC) RX0 cX0_lay 10 none 130 (i_isub 131) := snd_isub dX0_lay_130
theorem sX0_lay_131 {h0 : Hp_} : Snd 0 108 h0 (miT TbC) RX0 cX0_lay 10 none 131 (i_cV5 9 0 134) := snd_cV5 (fun hK hd hC ho hs h6 h7 h8 kk => iv_X0_50 hK (mcC_9 hC) ho hs ⟨hd, by show _ ≤ 40 * (_ + 1); omega⟩ (Nat.le_refl _) h6 h7 h8 ⟨Nat.le_refl _, Nat.le_refl _⟩ dX0_lay_131 kk)
theorem sX0_lay_134 {h0 : Hp_} : Snd 0 108 h0 (miT TbC) RX0 cX0_lay 10 none 134 (i_aload 135 0) := snd_aload_n rfl dX0_lay_134
theorem sX0_lay_135 {h0 : Hp_} : Snd 0 108 h0 (miT TbC) RX0 cX0_lay 10 none 135 (i_iload 137 5) := snd_iload dX0_lay_135
theorem sX0_lay_137 {h0 : Hp_} : Snd 0 108 h0 (miT TbC) RX0 cX0_lay 10 none 137 (i_const 138 (vI 2)) := snd_iconst dX0_lay_137
theorem sX0_lay_138 {h0 : Hp_} : Snd 0 108 h0 (miT TbC) RX0 cX0_lay 10 none 138 (i_iadd 139) := snd_iadd dX0_lay_138
theorem sX0_lay_139 {h0 : Hp_} : Snd 0 108 h0 (miT TbC) RX0 cX0_lay 10 none 139 (i_iload 141 8) := snd_iload dX0_lay_139
theorem sX0_lay_141 {h0 : Hp_} : Snd 0 108 h0 (miT TbC) RX0 cX0_lay 10 none 141 (i_iload 143 9) := snd_iload dX0_lay_141
theorem sX0_lay_143 {h0 : Hp_} : Snd 0 108 h0 (miT TbC) RX0 cX0_lay 10 none 143 (i_iload 145 6) := snd_iload dX0_lay_143
theorem sX0_lay_145 {h0 : Hp_} : Snd 0 108 h0 (miT TbC) RX0 cX0_lay 10 none 145 (i_iload 147 8) := snd_iload dX0_lay_145
theorem sX0_lay_147 {h0 : Hp_} : Snd 0 108 h0 (miT TbC) RX0 cX0_lay 10 none 147 (i_isub 148) := snd_isub dX0_lay_147
theorem sX0_lay_148 {h0 : Hp_} : Snd 0 108 h0 (miT TbC) RX0 cX0_lay 10 none 148 (i_iload 150 7) := snd_iload dX0_lay_148
theorem sX0_lay_150 {h0 : Hp_} : Snd 0 108 h0 (miT TbC) RX0 cX0_lay 10 none 150 (i_iload 152 9) := snd_iload dX0_lay_150
theorem sX0_lay_152 {h0 : Hp_} : Snd 0 108 h0 (miT TbC) RX0 cX0_lay 10 none 152 (i_isub 153) := snd_isub dX0_lay_152
theorem sX0_lay_153 {h0 : Hp_} : Snd 0 108 h0 (miT TbC) RX0 cX0_lay 10 none 153 (i_cV5 9 0 156) := snd_cV5 (fun hK hd hC ho hs h6 h7 h8 kk => iv_X0_50 hK (mcC_9 hC) ho hs ⟨hd, by show _ ≤ 40 * (_ + 1); omega⟩ (Nat.le_refl _) h6 h7 h8 ⟨Nat.le_refl _, Nat.le_refl _⟩ dX0_lay_153 kk)
theorem sX0_lay_156 {h0 : Hp_} : Snd 0 108 h0 (miT TbC) RX0 cX0_lay 10 none 156 (i_iinc 159 4 1) := snd_iinc (by decide) dX0_lay_156
theorem sX0_lay_159 {h0 : Hp_} : Snd 0 108 h0 (miT TbC) RX0 cX0_lay 10 none 159 (i_goto 30) := snd_goto dX0_lay_159 rfl
theorem sX0_lay_162 {h0 : Hp_} : Snd 0 108 h0 (miT TbC) RX0 cX0_lay 10 none 162 (i_aload 163 0) := snd_aload_n rfl dX0_lay_162
theorem sX0_lay_163 {h0 : Hp_} : Snd 0 108 h0 (miT TbC) RX0 cX0_lay 10 none 163 (i_const 164 (vI 0)) := snd_iconst dX0_lay_163
theorem sX0_lay_164 {h0 : Hp_} : Snd 0 108 h0 (miT TbC) RX0 cX0_lay 10 none 164 (i_const 165 (vI 0)) := snd_iconst dX0_lay_164
theorem sX0_lay_165 {h0 : Hp_} : Snd 0 108 h0 (miT TbC) RX0 cX0_lay 10 none 165 (i_const 166 (vI 0)) := snd_iconst dX0_lay_165
theorem sX0_lay_166 {h0 : Hp_} : Snd 0 108 h0 (miT TbC) RX0 cX0_lay 10 none 166 (i_aload 167 0) := snd_aload_n rfl dX0_lay_166
theorem sX0_lay_167 {h0 : Hp_} : Snd 0 108 h0 (miT TbC) RX0 cX0_lay 10 none 167 (i_getI 0 7 170) := snd_getI hl0 (fun hK ho hs hv kk => gf_X0_33 hK ho hs hv dX0_lay_167 kk)
theorem sX0_lay_170 {h0 : Hp_} : Snd 0 108 h0 (miT TbC) RX0 cX0_lay 10 none 170 (i_aload 171 0) := snd_aload_n rfl dX0_lay_170
theorem sX0_lay_171 {h0 : Hp_} : Snd 0 108 h0 (miT TbC) RX0 cX0_lay 10 none 171 (i_getI 0 9 174) := snd_getI hl0 (fun hK ho hs hv kk => gf_X0_40 hK ho hs hv dX0_lay_171 kk)
theorem sX0_lay_174 {h0 : Hp_} : Snd 0 108 h0 (miT TbC) RX0 cX0_lay 10 none 174 (i_cS2 11 177) := snd_cS2 (fun hK hd hC h6 h7 h8 kk => iv_X0_46 hK (mcC_11 hC) ⟨hd, by show _ ≤ 40 * (_ + 1); omega⟩ (Nat.le_refl _) h6 h7 h8 ⟨Nat.le_refl _, Nat.le_refl _⟩ dX0_lay_174 kk)
theorem sX0_lay_177 {h0 : Hp_} : Snd 0 108 h0 (miT TbC) RX0 cX0_lay 10 none 177 (i_aload 178 0) := snd_aload_n rfl dX0_lay_177
theorem sX0_lay_178 {h0 : Hp_} : Snd 0 108 h0 (miT TbC) RX0 cX0_lay 10 none 178 (i_getI 0 8 181) := snd_getI hl0 (fun hK ho hs hv kk => gf_X0_37 hK ho hs hv dX0_lay_178 kk)
theorem sX0_lay_181 {h0 : Hp_} : Snd 0 108 h0 (miT TbC) RX0 cX0_lay 10 none 181 (i_aload 182 0) := snd_aload_n rfl dX0_lay_181
theorem sX0_lay_182 {h0 : Hp_} : Snd 0 108 h0 (miT TbC) RX0 cX0_lay 10 none 182 (i_getI 0 9 185) := snd_getI hl0 (fun hK ho hs hv kk => gf_X0_40 hK ho hs hv dX0_lay_182 kk)
theorem sX0_lay_185 {h0 : Hp_} : Snd 0 108 h0 (miT TbC) RX0 cX0_lay 10 none 185 (i_cS2 11 188) := snd_cS2 (fun hK hd hC h6 h7 h8 kk => iv_X0_46 hK (mcC_11 hC) ⟨hd, by show _ ≤ 40 * (_ + 1); omega⟩ (Nat.le_refl _) h6 h7 h8 ⟨Nat.le_refl _, Nat.le_refl _⟩ dX0_lay_185 kk)
theorem sX0_lay_188 {h0 : Hp_} : Snd 0 108 h0 (miT TbC) RX0 cX0_lay 10 none 188 (i_cV5 9 0 191) := snd_cV5 (fun hK hd hC ho hs h6 h7 h8 kk => iv_X0_50 hK (mcC_9 hC) ho hs ⟨hd, by show _ ≤ 40 * (_ + 1); omega⟩ (Nat.le_refl _) h6 h7 h8 ⟨Nat.le_refl _, Nat.le_refl _⟩ dX0_lay_188 kk)
theorem sX0_lay_191 {h0 : Hp_} : Snd 0 108 h0 (miT TbC) RX0 cX0_lay 10 none 191 (i_vret) := snd_vret dX0_lay_191
theorem kX0_lay {h0 : Hp_} : raA (okI 0 108 h0 (miT TbC) (yX0_lay, cX0_lay, 10, none)) tX0_lay := (raA_br (raA_br (raA_br (raA_br (raA_br (raA_br (raA_leaf sX0_lay_0) (raA_br (raA_leaf sX0_lay_1) (raA_leaf sX0_lay_2))) (raA_br (raA_leaf sX0_lay_5) (raA_br (raA_leaf sX0_lay_6) (raA_leaf sX0_lay_7)))) (raA_br (raA_br (raA_leaf sX0_lay_10) (raA_br (raA_leaf sX0_lay_11) (raA_leaf sX0_lay_12))) (raA_br (raA_br (raA_leaf sX0_lay_15) (raA_leaf sX0_lay_16)) (raA_br (raA_leaf sX0_lay_17) (raA_leaf sX0_lay_18))))) (raA_br (raA_br (raA_br (raA_leaf sX0_lay_21) (raA_br (raA_leaf sX0_lay_22) (raA_leaf sX0_lay_23))) (raA_br (raA_leaf sX0_lay_24) (raA_br (raA_leaf sX0_lay_27) (raA_leaf sX0_lay_28)))) (raA_br (raA_br (raA_leaf sX0_lay_30) (raA_br (raA_leaf sX0_lay_32) (raA_leaf sX0_lay_33))) (raA_br (raA_br (raA_leaf sX0_lay_36) (raA_leaf sX0_lay_39)) (raA_br (raA_leaf sX0_lay_40) (raA_leaf sX0_lay_41)))))) (raA_br (raA_br (raA_br (raA_br (raA_leaf sX0_lay_44) (raA_br (raA_leaf sX0_lay_46) (raA_leaf sX0_lay_47))) (raA_br (raA_leaf sX0_lay_48) (raA_br (raA_leaf sX0_lay_49) (raA_leaf sX0_lay_50)))) (raA_br (raA_br (raA_leaf sX0_lay_52) (raA_br (raA_leaf sX0_lay_53) (raA_leaf sX0_lay_56))) (raA_br (raA_br (raA_leaf sX0_lay_58) (raA_leaf sX0_lay_59)) (raA_br (raA_leaf sX0_lay_60) (raA_leaf sX0_lay_63))))) (raA_br (raA_br (raA_br (raA_leaf sX0_lay_65) (raA_br (raA_leaf sX0_lay_66) (raA_leaf sX0_lay_69))) (raA_br (raA_br (raA_leaf sX0_lay_71) (raA_leaf sX0_lay_72)) (raA_br (raA_leaf sX0_lay_73) (raA_leaf sX0_lay_76)))) (raA_br (raA_br (raA_leaf sX0_lay_78) (raA_br (raA_leaf sX0_lay_79) (raA_leaf sX0_lay_82))) (raA_br (raA_br (raA_leaf sX0_lay_84) (raA_leaf sX0_lay_87)) (raA_br (raA_leaf sX0_lay_89) (raA_leaf sX0_lay_90))))))) (raA_br (raA_br (raA_br (raA_br (raA_br (raA_leaf sX0_lay_93) (raA_br (raA_leaf sX0_lay_95) (raA_leaf sX0_lay_98))) (raA_br (raA_leaf sX0_lay_100) (raA_br (raA_leaf sX0_lay_101) (raA_leaf sX0_lay_103)))) (raA_br (raA_br (raA_leaf sX0_lay_105) (raA_br (raA_leaf sX0_lay_106) (raA_leaf sX0_lay_108))) (raA_br (raA_br (raA_leaf sX0_lay_110) (raA_leaf sX0_lay_111)) (raA_br (raA_leaf sX0_lay_113) (raA_leaf sX0_lay_116))))) (raA_br (raA_br (raA_br (raA_leaf sX0_lay_117) (raA_br (raA_leaf sX0_lay_119) (raA_leaf sX0_lay_120))) (raA_br (raA_br (raA_leaf sX0_lay_121) (raA_leaf sX0_lay_122)) (raA_br (raA_leaf sX0_lay_124) (raA_leaf sX0_lay_126)))) (raA_br (raA_br (raA_leaf sX0_lay_128) (raA_br (raA_leaf sX0_lay_130) (raA_leaf sX0_lay_131))) (raA_br (raA_br (raA_leaf sX0_lay_134) (raA_leaf sX0_lay_135)) (raA_br (raA_leaf sX0_lay_137) (raA_leaf sX0_lay_138)))))) (raA_br (raA_br (raA_br (raA_br (raA_leaf sX0_lay_139) (raA_br (raA_leaf sX0_lay_141) (raA_leaf sX0_lay_143))) (raA_br (raA_leaf sX0_lay_145) (raA_br (raA_leaf sX0_lay_147) (raA_leaf sX0_lay_148)))) (raA_br (raA_br (raA_leaf sX0_lay_150) (raA_br (raA_leaf sX0_lay_152) (raA_leaf sX0_lay_153))) (raA_br (raA_br (raA_leaf sX0_lay_156) (raA_leaf sX0_lay_159)) (raA_br (raA_leaf sX0_lay_162) (raA_leaf sX0_lay_163))))) (raA_br (raA_br (raA_br (raA_leaf sX0_lay_164) (raA_br (raA_leaf sX0_lay_165) (raA_leaf sX0_lay_166))) (raA_br (raA_br (raA_leaf sX0_lay_167) (raA_leaf sX0_lay_170)) (raA_br (raA_leaf sX0_lay_171) (raA_leaf sX0_lay_174)))) (raA_br (raA_br (raA_leaf sX0_lay_177) (raA_br (raA_leaf sX0_lay_178) (raA_leaf sX0_lay_181))) (raA_br (raA_br (raA_leaf sX0_lay_182) (raA_leaf sX0_lay_185)) (raA_br (raA_leaf sX0_lay_188) (raA_leaf sX0_lay_191))))))))
theorem sX0_layBand_0 {h0 : Hp_} : Snd 0 108 h0 (miT TbC) RX0 cX0_layBand 6 none 0 (i_aload 1 0) := snd_aload_n rfl dX0_layBand_0
theorem sX0_layBand_1 {h0 : Hp_} : Snd 0 108 h0 (miT TbC) RX0 cX0_layBand 6 none 1 (i_getR 0 1 4) := snd_getR rfl (by decide) (by decide) (by decide) (fun hK ho hs hq kk => gf_X0_15 hK ho hs hq rfl dX0_layBand_1 kk)
theorem sX0_layBand_4 {h0 : Hp_} : Snd 0 108 h0 (miT TbC) RX0 cX0_layBand 6 none 4 (i_iload 5 1) := snd_iload_n rfl dX0_layBand_4
theorem sX0_layBand_5 {h0 : Hp_} : Snd 0 108 h0 (miT TbC) RX0 cX0_layBand 6 none 5 (i_iload 6 2) := snd_iload_n rfl dX0_layBand_5
theorem sX0_layBand_6 {h0 : Hp_} : Snd 0 108 h0 (miT TbC) RX0 cX0_layBand 6 none 6 (i_iast 0 108 7) := snd_iast dX0_layBand_6
theorem sX0_layBand_7 {h0 : Hp_} : Snd 0 108 h0 (miT TbC) RX0 cX0_layBand 6 none 7 (i_aload 8 0) := snd_aload_n rfl dX0_layBand_7
theorem sX0_layBand_8 {h0 : Hp_} : Snd 0 108 h0 (miT TbC) RX0 cX0_layBand 6 none 8 (i_getR 0 2 11) := snd_getR rfl (by decide) (by decide) (by decide) (fun hK ho hs hq kk => gf_X0_18 hK ho hs hq rfl dX0_layBand_8 kk)
theorem sX0_layBand_11 {h0 : Hp_} : Snd 0 108 h0 (miT TbC) RX0 cX0_layBand 6 none 11 (i_iload 12 1) := snd_iload_n rfl dX0_layBand_11
theorem sX0_layBand_12 {h0 : Hp_} : Snd 0 108 h0 (miT TbC) RX0 cX0_layBand 6 none 12 (i_iload 13 3) := snd_iload_n rfl dX0_layBand_12
theorem sX0_layBand_13 {h0 : Hp_} : Snd 0 108 h0 (miT TbC) RX0 cX0_layBand 6 none 13 (i_iast 0 108 14) := snd_iast dX0_layBand_13
theorem sX0_layBand_14 {h0 : Hp_} : Snd 0 108 h0 (miT TbC) RX0 cX0_layBand 6 none 14 (i_aload 15 0) := snd_aload_n rfl dX0_layBand_14
theorem sX0_layBand_15 {h0 : Hp_} : Snd 0 108 h0 (miT TbC) RX0 cX0_layBand 6 none 15 (i_getR 0 3 18) := snd_getR rfl (by decide) (by decide) (by decide) (fun hK ho hs hq kk => gf_X0_21 hK ho hs hq rfl dX0_layBand_15 kk)
theorem sX0_layBand_18 {h0 : Hp_} : Snd 0 108 h0 (miT TbC) RX0 cX0_layBand 6 none 18 (i_iload 19 1) := snd_iload_n rfl dX0_layBand_18
theorem sX0_layBand_19 {h0 : Hp_} : Snd 0 108 h0 (miT TbC) RX0 cX0_layBand 6 none 19 (i_iload 21 4) := snd_iload dX0_layBand_19
theorem sX0_layBand_21 {h0 : Hp_} : Snd 0 108 h0 (miT TbC) RX0 cX0_layBand 6 none 21 (i_iast 0 108 22) := snd_iast dX0_layBand_21
theorem sX0_layBand_22 {h0 : Hp_} : Snd 0 108 h0 (miT TbC) RX0 cX0_layBand 6 none 22 (i_aload 23 0) := snd_aload_n rfl dX0_layBand_22
theorem sX0_layBand_23 {h0 : Hp_} : Snd 0 108 h0 (miT TbC) RX0 cX0_layBand 6 none 23 (i_getR 0 4 26) := snd_getR rfl (by decide) (by decide) (by decide) (fun hK ho hs hq kk => gf_X0_24 hK ho hs hq rfl dX0_layBand_23 kk)
theorem sX0_layBand_26 {h0 : Hp_} : Snd 0 108 h0 (miT TbC) RX0 cX0_layBand 6 none 26 (i_iload 27 1) := snd_iload_n rfl dX0_layBand_26
theorem sX0_layBand_27 {h0 : Hp_} : Snd 0 108 h0 (miT TbC) RX0 cX0_layBand 6 none 27 (i_iload 29 5) := snd_iload dX0_layBand_27
theorem sX0_layBand_29 {h0 : Hp_} : Snd 0 108 h0 (miT TbC) RX0 cX0_layBand 6 none 29 (i_iast 0 108 30) := snd_iast dX0_layBand_29
theorem sX0_layBand_30 {h0 : Hp_} : Snd 0 108 h0 (miT TbC) RX0 cX0_layBand 6 none 30 (i_vret) := snd_vret dX0_layBand_30
theorem kX0_layBand {h0 : Hp_} : raA (okI 0 108 h0 (miT TbC) (yX0_layBand, cX0_layBand, 6, none)) tX0_layBand := (raA_br (raA_br (raA_br (raA_br (raA_leaf sX0_layBand_0) (raA_leaf sX0_layBand_1)) (raA_br (raA_leaf sX0_layBand_4) (raA_br (raA_leaf sX0_layBand_5) (raA_leaf sX0_layBand_6)))) (raA_br (raA_br (raA_leaf sX0_layBand_7) (raA_leaf sX0_layBand_8)) (raA_br (raA_leaf sX0_layBand_11) (raA_br (raA_leaf sX0_layBand_12) (raA_leaf sX0_layBand_13))))) (raA_br (raA_br (raA_br (raA_leaf sX0_layBand_14) (raA_leaf sX0_layBand_15)) (raA_br (raA_leaf sX0_layBand_18) (raA_br (raA_leaf sX0_layBand_19) (raA_leaf sX0_layBand_21)))) (raA_br (raA_br (raA_leaf sX0_layBand_22) (raA_br (raA_leaf sX0_layBand_23) (raA_leaf sX0_layBand_26))) (raA_br (raA_leaf sX0_layBand_27) (raA_br (raA_leaf sX0_layBand_29) (raA_leaf sX0_layBand_30))))))
theorem sX0_readPicture_0 {h0 : Hp_} : Snd 0 108 h0 (miT TbC) RX0 cX0_readPicture 4 none 0 (i_const 1 (vI 0)) := snd_iconst dX0_readPicture_0
theorem sX0_readPicture_1 {h0 : Hp_} : Snd 0 108 h0 (miT TbC) RX0 cX0_readPicture 4 none 1 (i_istore 2 2) := snd_istore_n rfl (by decide) dX0_readPicture_1
theorem sX0_readPicture_2 {h0 : Hp_} : Snd 0 108 h0 (miT TbC) RX0 cX0_readPicture 4 none 2 (i_iload 3 2) := snd_iload_n rfl dX0_readPicture_2
theorem sX0_readPicture_3 {h0 : Hp_} : Snd 0 108 h0 (miT TbC) RX0 cX0_readPicture 4 none 3 (i_aload 4 0) := snd_aload_n rfl dX0_readPicture_3
theorem sX0_readPicture_4 {h0 : Hp_} : Snd 0 108 h0 (miT TbC) RX0 cX0_readPicture 4 none 4 (i_getI 0 8 7) := snd_getI hl0 (fun hK ho hs hv kk => gf_X0_37 hK ho hs hv dX0_readPicture_4 kk)
theorem sX0_readPicture_7 {h0 : Hp_} : Snd 0 108 h0 (miT TbC) RX0 cX0_readPicture 4 none 7 (i_icmp_ge 10 53) := snd_icmp_ge dX0_readPicture_7 rfl
theorem sX0_readPicture_10 {h0 : Hp_} : Snd 0 108 h0 (miT TbC) RX0 cX0_readPicture 4 none 10 (i_const 11 (vI 0)) := snd_iconst dX0_readPicture_10
theorem sX0_readPicture_11 {h0 : Hp_} : Snd 0 108 h0 (miT TbC) RX0 cX0_readPicture 4 none 11 (i_istore 12 3) := snd_istore_n rfl (by decide) dX0_readPicture_11
theorem sX0_readPicture_12 {h0 : Hp_} : Snd 0 108 h0 (miT TbC) RX0 cX0_readPicture 4 none 12 (i_iload 13 3) := snd_iload_n rfl dX0_readPicture_12
theorem sX0_readPicture_13 {h0 : Hp_} : Snd 0 108 h0 (miT TbC) RX0 cX0_readPicture 4 none 13 (i_aload 14 0) := snd_aload_n rfl dX0_readPicture_13
theorem sX0_readPicture_14 {h0 : Hp_} : Snd 0 108 h0 (miT TbC) RX0 cX0_readPicture 4 none 14 (i_getI 0 7 17) := snd_getI hl0 (fun hK ho hs hv kk => gf_X0_33 hK ho hs hv dX0_readPicture_14 kk)
theorem sX0_readPicture_17 {h0 : Hp_} : Snd 0 108 h0 (miT TbC) RX0 cX0_readPicture 4 none 17 (i_icmp_ge 20 47) := snd_icmp_ge dX0_readPicture_17 rfl
theorem sX0_readPicture_20 {h0 : Hp_} : Snd 0 108 h0 (miT TbC) RX0 cX0_readPicture 4 none 20 (i_aload 21 0) := snd_aload_n rfl dX0_readPicture_20
theorem sX0_readPicture_21 {h0 : Hp_} : Snd 0 108 h0 (miT TbC) RX0 cX0_readPicture 4 none 21 (i_getR 0 0 24) := snd_getR rfl (by decide) (by decide) (by decide) (fun hK ho hs hq kk => gf_X0_9 hK ho hs hq rfl dX0_readPicture_21 kk)
theorem sX0_readPicture_24 {h0 : Hp_} : Snd 0 108 h0 (miT TbC) RX0 cX0_readPicture 4 none 24 (i_iload 25 2) := snd_iload_n rfl dX0_readPicture_24
theorem sX0_readPicture_25 {h0 : Hp_} : Snd 0 108 h0 (miT TbC) RX0 cX0_readPicture 4 none 25 (i_const 27 (vI 8)) := snd_bipush (by decide) dX0_readPicture_25
theorem sX0_readPicture_27 {h0 : Hp_} : Snd 0 108 h0 (miT TbC) RX0 cX0_readPicture 4 none 27 (i_imul 28) := snd_imul dX0_readPicture_27
theorem sX0_readPicture_28 {h0 : Hp_} : Snd 0 108 h0 (miT TbC) RX0 cX0_readPicture 4 none 28 (i_iload 29 3) := snd_iload_n rfl dX0_readPicture_28
theorem sX0_readPicture_29 {h0 : Hp_} : Snd 0 108 h0 (miT TbC) RX0 cX0_readPicture 4 none 29 (i_iadd 30) := snd_iadd dX0_readPicture_29
theorem sX0_readPicture_30 {h0 : Hp_} : Snd 0 108 h0 (miT TbC) RX0 cX0_readPicture 4 none 30 (i_aload 31 1) := snd_aload_n rfl dX0_readPicture_30
theorem sX0_readPicture_31 {h0 : Hp_} : Snd 0 108 h0 (miT TbC) RX0 cX0_readPicture 4 none 31 (i_iload 32 3) := snd_iload_n rfl dX0_readPicture_31
theorem sX0_readPicture_32 {h0 : Hp_} : Snd 0 108 h0 (miT TbC) RX0 cX0_readPicture 4 none 32 (i_iload 33 2) := snd_iload_n rfl dX0_readPicture_32
theorem sX0_readPicture_33 {h0 : Hp_} : Snd 0 108 h0 (miT TbC) RX0 cX0_readPicture 4 none 33 (i_cV2 59 5 36) := snd_cV2 (fun hK hd hC ho hs h6 h7 h8 kk => iv_X0_63 hK (mcC_59 hC) ho hs ⟨hd, by show _ ≤ 40 * (_ + 1); omega⟩ (Nat.le_refl _) h6 h7 h8 ⟨Nat.le_refl _, Nat.le_refl _⟩ dX0_readPicture_33 kk)
theorem sX0_readPicture_36 {h0 : Hp_} : Snd 0 108 h0 (miT TbC) RX0 cX0_readPicture 4 none 36 (i_const 39 (vI 128)) := snd_sipush (by decide) dX0_readPicture_36
theorem sX0_readPicture_39 {h0 : Hp_} : Snd 0 108 h0 (miT TbC) RX0 cX0_readPicture 4 none 39 (i_isub 40) := snd_isub dX0_readPicture_39
theorem sX0_readPicture_40 {h0 : Hp_} : Snd 0 108 h0 (miT TbC) RX0 cX0_readPicture 4 none 40 (i_iast 0 108 41) := snd_iast dX0_readPicture_40
theorem sX0_readPicture_41 {h0 : Hp_} : Snd 0 108 h0 (miT TbC) RX0 cX0_readPicture 4 none 41 (i_iinc 44 3 1) := snd_iinc (by decide) dX0_readPicture_41
theorem sX0_readPicture_44 {h0 : Hp_} : Snd 0 108 h0 (miT TbC) RX0 cX0_readPicture 4 none 44 (i_goto 12) := snd_goto dX0_readPicture_44 rfl
theorem sX0_readPicture_47 {h0 : Hp_} : Snd 0 108 h0 (miT TbC) RX0 cX0_readPicture 4 none 47 (i_iinc 50 2 1) := snd_iinc (by decide) dX0_readPicture_47
theorem sX0_readPicture_50 {h0 : Hp_} : Snd 0 108 h0 (miT TbC) RX0 cX0_readPicture 4 none 50 (i_goto 2) := snd_goto dX0_readPicture_50 rfl
theorem sX0_readPicture_53 {h0 : Hp_} : Snd 0 108 h0 (miT TbC) RX0 cX0_readPicture 4 none 53 (i_vret) := snd_vret dX0_readPicture_53
theorem kX0_readPicture {h0 : Hp_} : raA (okI 0 108 h0 (miT TbC) (yX0_readPicture, cX0_readPicture, 4, none)) tX0_readPicture := (raA_br (raA_br (raA_br (raA_br (raA_leaf sX0_readPicture_0) (raA_br (raA_leaf sX0_readPicture_1) (raA_leaf sX0_readPicture_2))) (raA_br (raA_br (raA_leaf sX0_readPicture_3) (raA_leaf sX0_readPicture_4)) (raA_br (raA_leaf sX0_readPicture_7) (raA_leaf sX0_readPicture_10)))) (raA_br (raA_br (raA_br (raA_leaf sX0_readPicture_11) (raA_leaf sX0_readPicture_12)) (raA_br (raA_leaf sX0_readPicture_13) (raA_leaf sX0_readPicture_14))) (raA_br (raA_br (raA_leaf sX0_readPicture_17) (raA_leaf sX0_readPicture_20)) (raA_br (raA_leaf sX0_readPicture_21) (raA_leaf sX0_readPicture_24))))) (raA_br (raA_br (raA_br (raA_br (raA_leaf sX0_readPicture_25) (raA_leaf sX0_readPicture_27)) (raA_br (raA_leaf sX0_readPicture_28) (raA_leaf sX0_readPicture_29))) (raA_br (raA_br (raA_leaf sX0_readPicture_30) (raA_leaf sX0_readPicture_31)) (raA_br (raA_leaf sX0_readPicture_32) (raA_leaf sX0_readPicture_33)))) (raA_br (raA_br (raA_br (raA_leaf sX0_readPicture_36) (raA_leaf sX0_readPicture_39)) (raA_br (raA_leaf sX0_readPicture_40) (raA_leaf sX0_readPicture_41))) (raA_br (raA_br (raA_leaf sX0_readPicture_44) (raA_leaf sX0_readPicture_47)) (raA_br (raA_leaf sX0_readPicture_50) (raA_leaf sX0_readPicture_53))))))
theorem sX0_sideAfter_0 {h0 : Hp_} : Snd 0 108 h0 (miT TbC) RX0 cX0_sideAfter 2 (some .int) 0 (i_iload 1 0) := snd_iload_n rfl dX0_sideAfter_0
theorem sX0_sideAfter_1 {h0 : Hp_} : Snd 0 108 h0 (miT TbC) RX0 cX0_sideAfter 2 (some .int) 1 (i_const 2 (vI 1)) := snd_iconst dX0_sideAfter_1
theorem sX0_sideAfter_2 {h0 : Hp_} : Snd 0 108 h0 (miT TbC) RX0 cX0_sideAfter 2 (some .int) 2 (i_iload 3 1) := snd_iload_n rfl dX0_sideAfter_2
theorem sX0_sideAfter_3 {h0 : Hp_} : Snd 0 108 h0 (miT TbC) RX0 cX0_sideAfter 2 (some .int) 3 (i_ishl 4) := snd_ishl dX0_sideAfter_3
theorem sX0_sideAfter_4 {h0 : Hp_} : Snd 0 108 h0 (miT TbC) RX0 cX0_sideAfter 2 (some .int) 4 (i_iadd 5) := snd_iadd dX0_sideAfter_4
theorem sX0_sideAfter_5 {h0 : Hp_} : Snd 0 108 h0 (miT TbC) RX0 cX0_sideAfter 2 (some .int) 5 (i_const 6 (vI 1)) := snd_iconst dX0_sideAfter_5
theorem sX0_sideAfter_6 {h0 : Hp_} : Snd 0 108 h0 (miT TbC) RX0 cX0_sideAfter 2 (some .int) 6 (i_isub 7) := snd_isub dX0_sideAfter_6
theorem sX0_sideAfter_7 {h0 : Hp_} : Snd 0 108 h0 (miT TbC) RX0 cX0_sideAfter 2 (some .int) 7 (i_iload 8 1) := snd_iload_n rfl dX0_sideAfter_7
theorem sX0_sideAfter_8 {h0 : Hp_} : Snd 0 108 h0 (miT TbC) RX0 cX0_sideAfter 2 (some .int) 8 (i_ishr 9) := snd_ishr dX0_sideAfter_8
theorem sX0_sideAfter_9 {h0 : Hp_} : Snd 0 108 h0 (miT TbC) RX0 cX0_sideAfter 2 (some .int) 9 (i_iret) := snd_iret dX0_sideAfter_9
theorem kX0_sideAfter {h0 : Hp_} : raA (okI 0 108 h0 (miT TbC) (yX0_sideAfter, cX0_sideAfter, 2, (some .int))) tX0_sideAfter := (raA_br (raA_br (raA_br (raA_leaf sX0_sideAfter_0) (raA_leaf sX0_sideAfter_1)) (raA_br (raA_leaf sX0_sideAfter_2) (raA_br (raA_leaf sX0_sideAfter_3) (raA_leaf sX0_sideAfter_4)))) (raA_br (raA_br (raA_leaf sX0_sideAfter_5) (raA_leaf sX0_sideAfter_6)) (raA_br (raA_leaf sX0_sideAfter_7) (raA_br (raA_leaf sX0_sideAfter_8) (raA_leaf sX0_sideAfter_9)))))
theorem sX0_splitLine_0 {h0 : Hp_} : Snd 0 108 h0 (miT TbC) RX0 cX0_splitLine 7 none 0 (i_iload 1 3) := snd_iload_n rfl dX0_splitLine_0
theorem sX0_splitLine_1 {h0 : Hp_} : Snd 0 108 h0 (miT TbC) RX0 cX0_splitLine 7 none 1 (i_const 2 (vI 2)) := snd_iconst dX0_splitLine_1
theorem sX0_splitLine_2 {h0 : Hp_} : Snd 0 108 h0 (miT TbC) RX0 cX0_splitLine 7 none 2 (i_icmp_ge 5 6) := snd_icmp_ge dX0_splitLine_2 rfl
theorem sX0_splitLine_5 {h0 : Hp_} : Snd 0 108 h0 (miT TbC) RX0 cX0_splitLine 7 none 5 (i_vret) := snd_vret dX0_splitLine_5
theorem sX0_splitLine_6 {h0 : Hp_} : Snd 0 108 h0 (miT TbC) RX0 cX0_splitLine 7 none 6 (i_aload 7 0) := snd_aload_n rfl dX0_splitLine_6
theorem sX0_splitLine_7 {h0 : Hp_} : Snd 0 108 h0 (miT TbC) RX0 cX0_splitLine 7 none 7 (i_iload 8 1) := snd_iload_n rfl dX0_splitLine_7
theorem sX0_splitLine_8 {h0 : Hp_} : Snd 0 108 h0 (miT TbC) RX0 cX0_splitLine 7 none 8 (i_iload 9 2) := snd_iload_n rfl dX0_splitLine_8
theorem sX0_splitLine_9 {h0 : Hp_} : Snd 0 108 h0 (miT TbC) RX0 cX0_splitLine 7 none 9 (i_iload 10 3) := snd_iload_n rfl dX0_splitLine_9
theorem sX0_splitLine_10 {h0 : Hp_} : Snd 0 108 h0 (miT TbC) RX0 cX0_splitLine 7 none 10 (i_stop) := snd_stop
theorem sX0_splitLine_13 {h0 : Hp_} : Snd 0 108 h0 (miT TbC) RX0 cX0_splitLine 7 none 13 (i_iload 14 3) := snd_iload_n rfl dX0_splitLine_13
theorem sX0_splitLine_14 {h0 : Hp_} : Snd 0 108 h0 (miT TbC) RX0 cX0_splitLine 7 none 14 (i_const 15 (vI 1)) := snd_iconst dX0_splitLine_14
theorem sX0_splitLine_15 {h0 : Hp_} : Snd 0 108 h0 (miT TbC) RX0 cX0_splitLine 7 none 15 (i_iadd 16) := snd_iadd dX0_splitLine_15
theorem sX0_splitLine_16 {h0 : Hp_} : Snd 0 108 h0 (miT TbC) RX0 cX0_splitLine 7 none 16 (i_const 17 (vI 2)) := snd_iconst dX0_splitLine_16
theorem sX0_splitLine_17 {h0 : Hp_} : Snd 0 108 h0 (miT TbC) RX0 cX0_splitLine 7 none 17 (i_idiv 18) := snd_idiv dX0_splitLine_17
theorem sX0_splitLine_18 {h0 : Hp_} : Snd 0 108 h0 (miT TbC) RX0 cX0_splitLine 7 none 18 (i_istore 20 4) := snd_istore (by decide) dX0_splitLine_18
theorem sX0_splitLine_20 {h0 : Hp_} : Snd 0 108 h0 (miT TbC) RX0 cX0_splitLine 7 none 20 (i_const 21 (vI 0)) := snd_iconst dX0_splitLine_20
theorem sX0_splitLine_21 {h0 : Hp_} : Snd 0 108 h0 (miT TbC) RX0 cX0_splitLine 7 none 21 (i_istore 23 5) := snd_istore (by decide) dX0_splitLine_21
theorem sX0_splitLine_23 {h0 : Hp_} : Snd 0 108 h0 (miT TbC) RX0 cX0_splitLine 7 none 23 (i_iload 25 5) := snd_iload dX0_splitLine_23
theorem sX0_splitLine_25 {h0 : Hp_} : Snd 0 108 h0 (miT TbC) RX0 cX0_splitLine 7 none 25 (i_iload 26 3) := snd_iload_n rfl dX0_splitLine_25
theorem sX0_splitLine_26 {h0 : Hp_} : Snd 0 108 h0 (miT TbC) RX0 cX0_splitLine 7 none 26 (i_const 27 (vI 2)) := snd_iconst dX0_splitLine_26
theorem sX0_splitLine_27 {h0 : Hp_} : Snd 0 108 h0 (miT TbC) RX0 cX0_splitLine 7 none 27 (i_idiv 28) := snd_idiv dX0_splitLine_27
theorem sX0_splitLine_28 {h0 : Hp_} : Snd 0 108 h0 (miT TbC) RX0 cX0_splitLine 7 none 28 (i_icmp_ge 31 108) := snd_icmp_ge dX0_splitLine_28 rfl
theorem sX0_splitLine_31 {h0 : Hp_} : Snd 0 108 h0 (miT TbC) RX0 cX0_splitLine 7 none 31 (i_const 32 (vI 2)) := snd_iconst dX0_splitLine_31
theorem sX0_splitLine_32 {h0 : Hp_} : Snd 0 108 h0 (miT TbC) RX0 cX0_splitLine 7 none 32 (i_iload 34 5) := snd_iload dX0_splitLine_32
theorem sX0_splitLine_34 {h0 : Hp_} : Snd 0 108 h0 (miT TbC) RX0 cX0_splitLine 7 none 34 (i_imul 35) := snd_imul dX0_splitLine_34
theorem sX0_splitLine_35 {h0 : Hp_} : Snd 0 108 h0 (miT TbC) RX0 cX0_splitLine 7 none 35 (i_const 36 (vI 2)) := snd_iconst dX0_splitLine_35
theorem sX0_splitLine_36 {h0 : Hp_} : Snd 0 108 h0 (miT TbC) RX0 cX0_splitLine 7 none 36 (i_iadd 37) := snd_iadd dX0_splitLine_36
theorem sX0_splitLine_37 {h0 : Hp_} : Snd 0 108 h0 (miT TbC) RX0 cX0_splitLine 7 none 37 (i_iload 38 3) := snd_iload_n rfl dX0_splitLine_37
theorem sX0_splitLine_38 {h0 : Hp_} : Snd 0 108 h0 (miT TbC) RX0 cX0_splitLine 7 none 38 (i_icmp_ge 41 55) := snd_icmp_ge dX0_splitLine_38 rfl
theorem sX0_splitLine_41 {h0 : Hp_} : Snd 0 108 h0 (miT TbC) RX0 cX0_splitLine 7 none 41 (i_aload 42 0) := snd_aload_n rfl dX0_splitLine_41
theorem sX0_splitLine_42 {h0 : Hp_} : Snd 0 108 h0 (miT TbC) RX0 cX0_splitLine 7 none 42 (i_getR 0 5 45) := snd_getR rfl (by decide) (by decide) (by decide) (fun hK ho hs hq kk => gf_X0_27 hK ho hs hq rfl dX0_splitLine_42 kk)
theorem sX0_splitLine_45 {h0 : Hp_} : Snd 0 108 h0 (miT TbC) RX0 cX0_splitLine 7 none 45 (i_const 46 (vI 2)) := snd_iconst dX0_splitLine_45
theorem sX0_splitLine_46 {h0 : Hp_} : Snd 0 108 h0 (miT TbC) RX0 cX0_splitLine 7 none 46 (i_iload 48 5) := snd_iload dX0_splitLine_46
theorem sX0_splitLine_48 {h0 : Hp_} : Snd 0 108 h0 (miT TbC) RX0 cX0_splitLine 7 none 48 (i_imul 49) := snd_imul dX0_splitLine_48
theorem sX0_splitLine_49 {h0 : Hp_} : Snd 0 108 h0 (miT TbC) RX0 cX0_splitLine 7 none 49 (i_const 50 (vI 2)) := snd_iconst dX0_splitLine_49
theorem sX0_splitLine_50 {h0 : Hp_} : Snd 0 108 h0 (miT TbC) RX0 cX0_splitLine 7 none 50 (i_iadd 51) := snd_iadd dX0_splitLine_50
theorem sX0_splitLine_51 {h0 : Hp_} : Snd 0 108 h0 (miT TbC) RX0 cX0_splitLine 7 none 51 (i_iald 0 108 52) := snd_iald dX0_splitLine_51
theorem sX0_splitLine_52 {h0 : Hp_} : Snd 0 108 h0 (miT TbC) RX0 cX0_splitLine 7 none 52 (i_goto 64) := snd_goto dX0_splitLine_52 rfl
theorem sX0_splitLine_55 {h0 : Hp_} : Snd 0 108 h0 (miT TbC) RX0 cX0_splitLine 7 none 55 (i_aload 56 0) := snd_aload_n rfl dX0_splitLine_55
theorem sX0_splitLine_56 {h0 : Hp_} : Snd 0 108 h0 (miT TbC) RX0 cX0_splitLine 7 none 56 (i_getR 0 5 59) := snd_getR rfl (by decide) (by decide) (by decide) (fun hK ho hs hq kk => gf_X0_27 hK ho hs hq rfl dX0_splitLine_56 kk)
theorem sX0_splitLine_59 {h0 : Hp_} : Snd 0 108 h0 (miT TbC) RX0 cX0_splitLine 7 none 59 (i_const 60 (vI 2)) := snd_iconst dX0_splitLine_59
theorem sX0_splitLine_60 {h0 : Hp_} : Snd 0 108 h0 (miT TbC) RX0 cX0_splitLine 7 none 60 (i_iload 62 5) := snd_iload dX0_splitLine_60
theorem sX0_splitLine_62 {h0 : Hp_} : Snd 0 108 h0 (miT TbC) RX0 cX0_splitLine 7 none 62 (i_imul 63) := snd_imul dX0_splitLine_62
theorem sX0_splitLine_63 {h0 : Hp_} : Snd 0 108 h0 (miT TbC) RX0 cX0_splitLine 7 none 63 (i_iald 0 108 64) := snd_iald dX0_splitLine_63
theorem sX0_splitLine_64 {h0 : Hp_} : Snd 0 108 h0 (miT TbC) RX0 cX0_splitLine 7 none 64 (i_istore 66 6) := snd_istore (by decide) dX0_splitLine_64
theorem sX0_splitLine_66 {h0 : Hp_} : Snd 0 108 h0 (miT TbC) RX0 cX0_splitLine 7 none 66 (i_aload 67 0) := snd_aload_n rfl dX0_splitLine_66
theorem sX0_splitLine_67 {h0 : Hp_} : Snd 0 108 h0 (miT TbC) RX0 cX0_splitLine 7 none 67 (i_getR 0 6 70) := snd_getR rfl (by decide) (by decide) (by decide) (fun hK ho hs hq kk => gf_X0_30 hK ho hs hq rfl dX0_splitLine_67 kk)
theorem sX0_splitLine_70 {h0 : Hp_} : Snd 0 108 h0 (miT TbC) RX0 cX0_splitLine 7 none 70 (i_iload 72 4) := snd_iload dX0_splitLine_70
theorem sX0_splitLine_72 {h0 : Hp_} : Snd 0 108 h0 (miT TbC) RX0 cX0_splitLine 7 none 72 (i_iload 74 5) := snd_iload dX0_splitLine_72
theorem sX0_splitLine_74 {h0 : Hp_} : Snd 0 108 h0 (miT TbC) RX0 cX0_splitLine 7 none 74 (i_iadd 75) := snd_iadd dX0_splitLine_74
theorem sX0_splitLine_75 {h0 : Hp_} : Snd 0 108 h0 (miT TbC) RX0 cX0_splitLine 7 none 75 (i_aload 76 0) := snd_aload_n rfl dX0_splitLine_75
theorem sX0_splitLine_76 {h0 : Hp_} : Snd 0 108 h0 (miT TbC) RX0 cX0_splitLine 7 none 76 (i_getR 0 5 79) := snd_getR rfl (by decide) (by decide) (by decide) (fun hK ho hs hq kk => gf_X0_27 hK ho hs hq rfl dX0_splitLine_76 kk)
theorem sX0_splitLine_79 {h0 : Hp_} : Snd 0 108 h0 (miT TbC) RX0 cX0_splitLine 7 none 79 (i_const 80 (vI 2)) := snd_iconst dX0_splitLine_79
theorem sX0_splitLine_80 {h0 : Hp_} : Snd 0 108 h0 (miT TbC) RX0 cX0_splitLine 7 none 80 (i_iload 82 5) := snd_iload dX0_splitLine_80
theorem sX0_splitLine_82 {h0 : Hp_} : Snd 0 108 h0 (miT TbC) RX0 cX0_splitLine 7 none 82 (i_imul 83) := snd_imul dX0_splitLine_82
theorem sX0_splitLine_83 {h0 : Hp_} : Snd 0 108 h0 (miT TbC) RX0 cX0_splitLine 7 none 83 (i_const 84 (vI 1)) := snd_iconst dX0_splitLine_83
theorem sX0_splitLine_84 {h0 : Hp_} : Snd 0 108 h0 (miT TbC) RX0 cX0_splitLine 7 none 84 (i_iadd 85) := snd_iadd dX0_splitLine_84
theorem sX0_splitLine_85 {h0 : Hp_} : Snd 0 108 h0 (miT TbC) RX0 cX0_splitLine 7 none 85 (i_iald 0 108 86) := snd_iald dX0_splitLine_85
theorem sX0_splitLine_86 {h0 : Hp_} : Snd 0 108 h0 (miT TbC) RX0 cX0_splitLine 7 none 86 (i_aload 87 0) := snd_aload_n rfl dX0_splitLine_86
theorem sX0_splitLine_87 {h0 : Hp_} : Snd 0 108 h0 (miT TbC) RX0 cX0_splitLine 7 none 87 (i_getR 0 5 90) := snd_getR rfl (by decide) (by decide) (by decide) (fun hK ho hs hq kk => gf_X0_27 hK ho hs hq rfl dX0_splitLine_87 kk)
theorem sX0_splitLine_90 {h0 : Hp_} : Snd 0 108 h0 (miT TbC) RX0 cX0_splitLine 7 none 90 (i_const 91 (vI 2)) := snd_iconst dX0_splitLine_90
theorem sX0_splitLine_91 {h0 : Hp_} : Snd 0 108 h0 (miT TbC) RX0 cX0_splitLine 7 none 91 (i_iload 93 5) := snd_iload dX0_splitLine_91
theorem sX0_splitLine_93 {h0 : Hp_} : Snd 0 108 h0 (miT TbC) RX0 cX0_splitLine 7 none 93 (i_imul 94) := snd_imul dX0_splitLine_93
theorem sX0_splitLine_94 {h0 : Hp_} : Snd 0 108 h0 (miT TbC) RX0 cX0_splitLine 7 none 94 (i_iald 0 108 95) := snd_iald dX0_splitLine_94
theorem sX0_splitLine_95 {h0 : Hp_} : Snd 0 108 h0 (miT TbC) RX0 cX0_splitLine 7 none 95 (i_iload 97 6) := snd_iload dX0_splitLine_95
theorem sX0_splitLine_97 {h0 : Hp_} : Snd 0 108 h0 (miT TbC) RX0 cX0_splitLine 7 none 97 (i_iadd 98) := snd_iadd dX0_splitLine_97
theorem sX0_splitLine_98 {h0 : Hp_} : Snd 0 108 h0 (miT TbC) RX0 cX0_splitLine 7 none 98 (i_const 99 (vI 1)) := snd_iconst dX0_splitLine_98
theorem sX0_splitLine_99 {h0 : Hp_} : Snd 0 108 h0 (miT TbC) RX0 cX0_splitLine 7 none 99 (i_ishr 100) := snd_ishr dX0_splitLine_99
theorem sX0_splitLine_100 {h0 : Hp_} : Snd 0 108 h0 (miT TbC) RX0 cX0_splitLine 7 none 100 (i_isub 101) := snd_isub dX0_splitLine_100
theorem sX0_splitLine_101 {h0 : Hp_} : Snd 0 108 h0 (miT TbC) RX0 cX0_splitLine 7 none 101 (i_iast 0 108 102) := snd_iast dX0_splitLine_101
theorem sX0_splitLine_102 {h0 : Hp_} : Snd 0 108 h0 (miT TbC) RX0 cX0_splitLine 7 none 102 (i_iinc 105 5 1) := snd_iinc (by decide) dX0_splitLine_102
theorem sX0_splitLine_105 {h0 : Hp_} : Snd 0 108 h0 (miT TbC) RX0 cX0_splitLine 7 none 105 (i_goto 23) := snd_goto dX0_splitLine_105 rfl
theorem sX0_splitLine_108 {h0 : Hp_} : Snd 0 108 h0 (miT TbC) RX0 cX0_splitLine 7 none 108 (i_const 109 (vI 0)) := snd_iconst dX0_splitLine_108
theorem sX0_splitLine_109 {h0 : Hp_} : Snd 0 108 h0 (miT TbC) RX0 cX0_splitLine 7 none 109 (i_istore 111 5) := snd_istore (by decide) dX0_splitLine_109
theorem sX0_splitLine_111 {h0 : Hp_} : Snd 0 108 h0 (miT TbC) RX0 cX0_splitLine 7 none 111 (i_iload 113 5) := snd_iload dX0_splitLine_111
theorem sX0_splitLine_113 {h0 : Hp_} : Snd 0 108 h0 (miT TbC) RX0 cX0_splitLine 7 none 113 (i_iload 115 4) := snd_iload dX0_splitLine_113
theorem sX0_splitLine_115 {h0 : Hp_} : Snd 0 108 h0 (miT TbC) RX0 cX0_splitLine 7 none 115 (i_icmp_ge 118 151) := snd_icmp_ge dX0_splitLine_115 rfl
theorem sX0_splitLine_118 {h0 : Hp_} : Snd 0 108 h0 (miT TbC) RX0 cX0_splitLine 7 none 118 (i_aload 119 0) := snd_aload_n rfl dX0_splitLine_118
theorem sX0_splitLine_119 {h0 : Hp_} : Snd 0 108 h0 (miT TbC) RX0 cX0_splitLine 7 none 119 (i_getR 0 6 122) := snd_getR rfl (by decide) (by decide) (by decide) (fun hK ho hs hq kk => gf_X0_30 hK ho hs hq rfl dX0_splitLine_119 kk)
theorem sX0_splitLine_122 {h0 : Hp_} : Snd 0 108 h0 (miT TbC) RX0 cX0_splitLine 7 none 122 (i_iload 124 5) := snd_iload dX0_splitLine_122
theorem sX0_splitLine_124 {h0 : Hp_} : Snd 0 108 h0 (miT TbC) RX0 cX0_splitLine 7 none 124 (i_aload 125 0) := snd_aload_n rfl dX0_splitLine_124
theorem sX0_splitLine_125 {h0 : Hp_} : Snd 0 108 h0 (miT TbC) RX0 cX0_splitLine 7 none 125 (i_getR 0 5 128) := snd_getR rfl (by decide) (by decide) (by decide) (fun hK ho hs hq kk => gf_X0_27 hK ho hs hq rfl dX0_splitLine_125 kk)
theorem sX0_splitLine_128 {h0 : Hp_} : Snd 0 108 h0 (miT TbC) RX0 cX0_splitLine 7 none 128 (i_const 129 (vI 2)) := snd_iconst dX0_splitLine_128
theorem sX0_splitLine_129 {h0 : Hp_} : Snd 0 108 h0 (miT TbC) RX0 cX0_splitLine 7 none 129 (i_iload 131 5) := snd_iload dX0_splitLine_129
theorem sX0_splitLine_131 {h0 : Hp_} : Snd 0 108 h0 (miT TbC) RX0 cX0_splitLine 7 none 131 (i_imul 132) := snd_imul dX0_splitLine_131
theorem sX0_splitLine_132 {h0 : Hp_} : Snd 0 108 h0 (miT TbC) RX0 cX0_splitLine 7 none 132 (i_iald 0 108 133) := snd_iald dX0_splitLine_132
theorem sX0_splitLine_133 {h0 : Hp_} : Snd 0 108 h0 (miT TbC) RX0 cX0_splitLine 7 none 133 (i_aload 134 0) := snd_aload_n rfl dX0_splitLine_133
theorem sX0_splitLine_134 {h0 : Hp_} : Snd 0 108 h0 (miT TbC) RX0 cX0_splitLine 7 none 134 (i_getR 0 6 137) := snd_getR rfl (by decide) (by decide) (by decide) (fun hK ho hs hq kk => gf_X0_30 hK ho hs hq rfl dX0_splitLine_134 kk)
theorem sX0_splitLine_137 {h0 : Hp_} : Snd 0 108 h0 (miT TbC) RX0 cX0_splitLine 7 none 137 (i_iload 139 5) := snd_iload dX0_splitLine_137
theorem sX0_splitLine_139 {h0 : Hp_} : Snd 0 108 h0 (miT TbC) RX0 cX0_splitLine 7 none 139 (i_iload 140 3) := snd_iload_n rfl dX0_splitLine_139
theorem sX0_splitLine_140 {h0 : Hp_} : Snd 0 108 h0 (miT TbC) RX0 cX0_splitLine 7 none 140 (i_stop) := snd_stop
theorem sX0_splitLine_143 {h0 : Hp_} : Snd 0 108 h0 (miT TbC) RX0 cX0_splitLine 7 none 143 (i_iadd 144) := snd_iadd dX0_splitLine_143
theorem sX0_splitLine_144 {h0 : Hp_} : Snd 0 108 h0 (miT TbC) RX0 cX0_splitLine 7 none 144 (i_iast 0 108 145) := snd_iast dX0_splitLine_144
theorem sX0_splitLine_145 {h0 : Hp_} : Snd 0 108 h0 (miT TbC) RX0 cX0_splitLine 7 none 145 (i_iinc 148 5 1) := snd_iinc (by decide) dX0_splitLine_145
theorem sX0_splitLine_148 {h0 : Hp_} : Snd 0 108 h0 (miT TbC) RX0 cX0_splitLine 7 none 148 (i_goto 111) := snd_goto dX0_splitLine_148 rfl
theorem sX0_splitLine_151 {h0 : Hp_} : Snd 0 108 h0 (miT TbC) RX0 cX0_splitLine 7 none 151 (i_aload 152 0) := snd_aload_n rfl dX0_splitLine_151
theorem sX0_splitLine_152 {h0 : Hp_} : Snd 0 108 h0 (miT TbC) RX0 cX0_splitLine 7 none 152 (i_iload 153 1) := snd_iload_n rfl dX0_splitLine_152
theorem sX0_splitLine_153 {h0 : Hp_} : Snd 0 108 h0 (miT TbC) RX0 cX0_splitLine 7 none 153 (i_iload 154 2) := snd_iload_n rfl dX0_splitLine_153
theorem sX0_splitLine_154 {h0 : Hp_} : Snd 0 108 h0 (miT TbC) RX0 cX0_splitLine 7 none 154 (i_iload 155 3) := snd_iload_n rfl dX0_splitLine_154
theorem sX0_splitLine_155 {h0 : Hp_} : Snd 0 108 h0 (miT TbC) RX0 cX0_splitLine 7 none 155 (i_stop) := snd_stop
theorem sX0_splitLine_158 {h0 : Hp_} : Snd 0 108 h0 (miT TbC) RX0 cX0_splitLine 7 none 158 (i_vret) := snd_vret dX0_splitLine_158
theorem kX0_splitLine {h0 : Hp_} : raA (okI 0 108 h0 (miT TbC) (yX0_splitLine, cX0_splitLine, 7, none)) tX0_splitLine := (raA_br (raA_br (raA_br (raA_br (raA_br (raA_br (raA_leaf sX0_splitLine_0) (raA_br (raA_leaf sX0_splitLine_1) (raA_leaf sX0_splitLine_2))) (raA_br (raA_leaf sX0_splitLine_5) (raA_br (raA_leaf sX0_splitLine_6) (raA_leaf sX0_splitLine_7)))) (raA_br (raA_br (raA_leaf sX0_splitLine_8) (raA_br (raA_leaf sX0_splitLine_9) (raA_leaf sX0_splitLine_10))) (raA_br (raA_leaf sX0_splitLine_13) (raA_br (raA_leaf sX0_splitLine_14) (raA_leaf sX0_splitLine_15))))) (raA_br (raA_br (raA_br (raA_leaf sX0_splitLine_16) (raA_br (raA_leaf sX0_splitLine_17) (raA_leaf sX0_splitLine_18))) (raA_br (raA_leaf sX0_splitLine_20) (raA_br (raA_leaf sX0_splitLine_21) (raA_leaf sX0_splitLine_23)))) (raA_br (raA_br (raA_leaf sX0_splitLine_25) (raA_br (raA_leaf sX0_splitLine_26) (raA_leaf sX0_splitLine_27))) (raA_br (raA_br (raA_leaf sX0_splitLine_28) (raA_leaf sX0_splitLine_31)) (raA_br (raA_leaf sX0_splitLine_32) (raA_leaf sX0_splitLine_34)))))) (raA_br (raA_br (raA_br (raA_br (raA_leaf sX0_splitLine_35) (raA_br (raA_leaf sX0_splitLine_36) (raA_leaf sX0_splitLine_37))) (raA_br (raA_leaf sX0_splitLine_38) (raA_br (raA_leaf sX0_splitLine_41) (raA_leaf sX0_splitLine_42)))) (raA_br (raA_br (raA_leaf sX0_splitLine_45) (raA_br (raA_leaf sX0_splitLine_46) (raA_leaf sX0_splitLine_48))) (raA_br (raA_leaf sX0_splitLine_49) (raA_br (raA_leaf sX0_splitLine_50) (raA_leaf sX0_splitLine_51))))) (raA_br (raA_br (raA_br (raA_leaf sX0_splitLine_52) (raA_br (raA_leaf sX0_splitLine_55) (raA_leaf sX0_splitLine_56))) (raA_br (raA_leaf sX0_splitLine_59) (raA_br (raA_leaf sX0_splitLine_60) (raA_leaf sX0_splitLine_62)))) (raA_br (raA_br (raA_leaf sX0_splitLine_63) (raA_br (raA_leaf sX0_splitLine_64) (raA_leaf sX0_splitLine_66))) (raA_br (raA_br (raA_leaf sX0_splitLine_67) (raA_leaf sX0_splitLine_70)) (raA_br (raA_leaf sX0_splitLine_72) (raA_leaf sX0_splitLine_74))))))) (raA_br (raA_br (raA_br (raA_br (raA_br (raA_leaf sX0_splitLine_75) (raA_br (raA_leaf sX0_splitLine_76) (raA_leaf sX0_splitLine_79))) (raA_br (raA_leaf sX0_splitLine_80) (raA_br (raA_leaf sX0_splitLine_82) (raA_leaf sX0_splitLine_83)))) (raA_br (raA_br (raA_leaf sX0_splitLine_84) (raA_br (raA_leaf sX0_splitLine_85) (raA_leaf sX0_splitLine_86))) (raA_br (raA_leaf sX0_splitLine_87) (raA_br (raA_leaf sX0_splitLine_90) (raA_leaf sX0_splitLine_91))))) (raA_br (raA_br (raA_br (raA_leaf sX0_splitLine_93) (raA_br (raA_leaf sX0_splitLine_94) (raA_leaf sX0_splitLine_95))) (raA_br (raA_leaf sX0_splitLine_97) (raA_br (raA_leaf sX0_splitLine_98) (raA_leaf sX0_splitLine_99)))) (raA_br (raA_br (raA_leaf sX0_splitLine_100) (raA_br (raA_leaf sX0_splitLine_101) (raA_leaf sX0_splitLine_102))) (raA_br (raA_br (raA_leaf sX0_splitLine_105) (raA_leaf sX0_splitLine_108)) (raA_br (raA_leaf sX0_splitLine_109) (raA_leaf sX0_splitLine_111)))))) (raA_br (raA_br (raA_br (raA_br (raA_leaf sX0_splitLine_113) (raA_br (raA_leaf sX0_splitLine_115) (raA_leaf sX0_splitLine_118))) (raA_br (raA_leaf sX0_splitLine_119) (raA_br (raA_leaf sX0_splitLine_122) (raA_leaf sX0_splitLine_124)))) (raA_br (raA_br (raA_leaf sX0_splitLine_125) (raA_br (raA_leaf sX0_splitLine_128) (raA_leaf sX0_splitLine_129))) (raA_br (raA_br (raA_leaf sX0_splitLine_131) (raA_leaf sX0_splitLine_132)) (raA_br (raA_leaf sX0_splitLine_133) (raA_leaf sX0_splitLine_134))))) (raA_br (raA_br (raA_br (raA_leaf sX0_splitLine_137) (raA_br (raA_leaf sX0_splitLine_139) (raA_leaf sX0_splitLine_140))) (raA_br (raA_leaf sX0_splitLine_143) (raA_br (raA_leaf sX0_splitLine_144) (raA_leaf sX0_splitLine_145)))) (raA_br (raA_br (raA_leaf sX0_splitLine_148) (raA_br (raA_leaf sX0_splitLine_151) (raA_leaf sX0_splitLine_152))) (raA_br (raA_br (raA_leaf sX0_splitLine_153) (raA_leaf sX0_splitLine_154)) (raA_br (raA_leaf sX0_splitLine_155) (raA_leaf sX0_splitLine_158))))))))
theorem sX11_areLayers_0 {h0 : Hp_} : Snd 0 108 h0 (miT TbC) RX11 cX11_areLayers 1 (some .boolean) 0 (i_iload 1 0) := snd_iload_n rfl dX11_areLayers_0
theorem sX11_areLayers_1 {h0 : Hp_} : Snd 0 108 h0 (miT TbC) RX11 cX11_areLayers 1 (some .boolean) 1 (i_const 2 (vI 1)) := snd_iconst dX11_areLayers_1
theorem sX11_areLayers_2 {h0 : Hp_} : Snd 0 108 h0 (miT TbC) RX11 cX11_areLayers 1 (some .boolean) 2 (i_icmp_lt 5 14) := snd_icmp_lt dX11_areLayers_2 rfl
theorem sX11_areLayers_5 {h0 : Hp_} : Snd 0 108 h0 (miT TbC) RX11 cX11_areLayers 1 (some .boolean) 5 (i_iload 6 0) := snd_iload_n rfl dX11_areLayers_5
theorem sX11_areLayers_6 {h0 : Hp_} : Snd 0 108 h0 (miT TbC) RX11 cX11_areLayers 1 (some .boolean) 6 (i_const 7 (vI 3)) := snd_iconst dX11_areLayers_6
theorem sX11_areLayers_7 {h0 : Hp_} : Snd 0 108 h0 (miT TbC) RX11 cX11_areLayers 1 (some .boolean) 7 (i_icmp_gt 10 14) := snd_icmp_gt dX11_areLayers_7 rfl
theorem sX11_areLayers_10 {h0 : Hp_} : Snd 0 108 h0 (miT TbC) RX11 cX11_areLayers 1 (some .boolean) 10 (i_const 11 (vI 1)) := snd_iconst dX11_areLayers_10
theorem sX11_areLayers_11 {h0 : Hp_} : Snd 0 108 h0 (miT TbC) RX11 cX11_areLayers 1 (some .boolean) 11 (i_goto 15) := snd_goto dX11_areLayers_11 rfl
theorem sX11_areLayers_14 {h0 : Hp_} : Snd 0 108 h0 (miT TbC) RX11 cX11_areLayers 1 (some .boolean) 14 (i_const 15 (vI 0)) := snd_iconst dX11_areLayers_14
theorem sX11_areLayers_15 {h0 : Hp_} : Snd 0 108 h0 (miT TbC) RX11 cX11_areLayers 1 (some .boolean) 15 (i_zret) := snd_zret dX11_areLayers_15
theorem kX11_areLayers {h0 : Hp_} : raA (okI 0 108 h0 (miT TbC) (yX11_areLayers, cX11_areLayers, 1, (some .boolean))) tX11_areLayers := (raA_br (raA_br (raA_br (raA_leaf sX11_areLayers_0) (raA_leaf sX11_areLayers_1)) (raA_br (raA_leaf sX11_areLayers_2) (raA_br (raA_leaf sX11_areLayers_5) (raA_leaf sX11_areLayers_6)))) (raA_br (raA_br (raA_leaf sX11_areLayers_7) (raA_leaf sX11_areLayers_10)) (raA_br (raA_leaf sX11_areLayers_11) (raA_br (raA_leaf sX11_areLayers_14) (raA_leaf sX11_areLayers_15)))))
theorem sX11_areLevels_0 {h0 : Hp_} : Snd 0 108 h0 (miT TbC) RX11 cX11_areLevels 1 (some .boolean) 0 (i_iload 1 0) := snd_iload_n rfl dX11_areLevels_0
theorem sX11_areLevels_1 {h0 : Hp_} : Snd 0 108 h0 (miT TbC) RX11 cX11_areLevels 1 (some .boolean) 1 (i_if_lt 4 13) := snd_if_lt dX11_areLevels_1 rfl
theorem sX11_areLevels_4 {h0 : Hp_} : Snd 0 108 h0 (miT TbC) RX11 cX11_areLevels 1 (some .boolean) 4 (i_iload 5 0) := snd_iload_n rfl dX11_areLevels_4
theorem sX11_areLevels_5 {h0 : Hp_} : Snd 0 108 h0 (miT TbC) RX11 cX11_areLevels 1 (some .boolean) 5 (i_const 6 (vI 3)) := snd_iconst dX11_areLevels_5
theorem sX11_areLevels_6 {h0 : Hp_} : Snd 0 108 h0 (miT TbC) RX11 cX11_areLevels 1 (some .boolean) 6 (i_icmp_gt 9 13) := snd_icmp_gt dX11_areLevels_6 rfl
theorem sX11_areLevels_9 {h0 : Hp_} : Snd 0 108 h0 (miT TbC) RX11 cX11_areLevels 1 (some .boolean) 9 (i_const 10 (vI 1)) := snd_iconst dX11_areLevels_9
theorem sX11_areLevels_10 {h0 : Hp_} : Snd 0 108 h0 (miT TbC) RX11 cX11_areLevels 1 (some .boolean) 10 (i_goto 14) := snd_goto dX11_areLevels_10 rfl
theorem sX11_areLevels_13 {h0 : Hp_} : Snd 0 108 h0 (miT TbC) RX11 cX11_areLevels 1 (some .boolean) 13 (i_const 14 (vI 0)) := snd_iconst dX11_areLevels_13
theorem sX11_areLevels_14 {h0 : Hp_} : Snd 0 108 h0 (miT TbC) RX11 cX11_areLevels 1 (some .boolean) 14 (i_zret) := snd_zret dX11_areLevels_14
theorem kX11_areLevels {h0 : Hp_} : raA (okI 0 108 h0 (miT TbC) (yX11_areLevels, cX11_areLevels, 1, (some .boolean))) tX11_areLevels := (raA_br (raA_br (raA_br (raA_leaf sX11_areLevels_0) (raA_leaf sX11_areLevels_1)) (raA_br (raA_leaf sX11_areLevels_4) (raA_leaf sX11_areLevels_5))) (raA_br (raA_br (raA_leaf sX11_areLevels_6) (raA_leaf sX11_areLevels_9)) (raA_br (raA_leaf sX11_areLevels_10) (raA_br (raA_leaf sX11_areLevels_13) (raA_leaf sX11_areLevels_14)))))
theorem sX11_bitsOf_0 {h0 : Hp_} : Snd 0 108 h0 (miT TbC) RX11 cX11_bitsOf 1 (some .int) 0 (i_const 2 (vI 32)) := snd_bipush (by decide) dX11_bitsOf_0
theorem sX11_bitsOf_2 {h0 : Hp_} : Snd 0 108 h0 (miT TbC) RX11 cX11_bitsOf 1 (some .int) 2 (i_iload 3 0) := snd_iload_n rfl dX11_bitsOf_2
theorem sX11_bitsOf_3 {h0 : Hp_} : Snd 0 108 h0 (miT TbC) RX11 cX11_bitsOf 1 (some .int) 3 (i_cS1 0 6) := snd_cS1 (fun hK hd hC h6 h7 h8 kk => iv_X11_125 hK (mcC_0 hC) ⟨hd, by show _ ≤ 40 * (_ + 1); omega⟩ (Nat.le_refl _) h6 h7 h8 ⟨Nat.le_refl _, Nat.le_refl _⟩ dX11_bitsOf_3 kk)
theorem sX11_bitsOf_6 {h0 : Hp_} : Snd 0 108 h0 (miT TbC) RX11 cX11_bitsOf 1 (some .int) 6 (i_isub 7) := snd_isub dX11_bitsOf_6
theorem sX11_bitsOf_7 {h0 : Hp_} : Snd 0 108 h0 (miT TbC) RX11 cX11_bitsOf 1 (some .int) 7 (i_iret) := snd_iret dX11_bitsOf_7
theorem kX11_bitsOf {h0 : Hp_} : raA (okI 0 108 h0 (miT TbC) (yX11_bitsOf, cX11_bitsOf, 1, (some .int))) tX11_bitsOf := (raA_br (raA_br (raA_leaf sX11_bitsOf_0) (raA_leaf sX11_bitsOf_2)) (raA_br (raA_leaf sX11_bitsOf_3) (raA_br (raA_leaf sX11_bitsOf_6) (raA_leaf sX11_bitsOf_7))))
theorem sX11_encode_0 {h0 : Hp_} : Snd 0 108 h0 (miT TbC) RX11 cX11_encode 3 (some .int) 0 (i_iload 1 1) := snd_iload_n rfl dX11_encode_0
theorem sX11_encode_1 {h0 : Hp_} : Snd 0 108 h0 (miT TbC) RX11 cX11_encode 3 (some .int) 1 (i_cS1 14 4) := snd_cS1 (fun hK hd hC h6 h7 h8 kk => iv_X11_69 hK (mcC_14 hC) ⟨hd, by show _ ≤ 40 * (_ + 1); omega⟩ (Nat.le_refl _) h6 h7 h8 ⟨Nat.le_refl _, Nat.le_refl _⟩ dX11_encode_1 kk)
theorem sX11_encode_4 {h0 : Hp_} : Snd 0 108 h0 (miT TbC) RX11 cX11_encode 3 (some .int) 4 (i_if_eq 7 14) := snd_if_eq dX11_encode_4 rfl
theorem sX11_encode_7 {h0 : Hp_} : Snd 0 108 h0 (miT TbC) RX11 cX11_encode 3 (some .int) 7 (i_iload 8 2) := snd_iload_n rfl dX11_encode_7
theorem sX11_encode_8 {h0 : Hp_} : Snd 0 108 h0 (miT TbC) RX11 cX11_encode 3 (some .int) 8 (i_cS1 13 11) := snd_cS1 (fun hK hd hC h6 h7 h8 kk => iv_X11_72 hK (mcC_13 hC) ⟨hd, by show _ ≤ 40 * (_ + 1); omega⟩ (Nat.le_refl _) h6 h7 h8 ⟨Nat.le_refl _, Nat.le_refl _⟩ dX11_encode_8 kk)
theorem sX11_encode_11 {h0 : Hp_} : Snd 0 108 h0 (miT TbC) RX11 cX11_encode 3 (some .int) 11 (i_if_ne 14 24) := snd_if_ne dX11_encode_11 rfl
theorem sX11_encode_14 {h0 : Hp_} : Snd 0 108 h0 (miT TbC) RX11 cX11_encode 3 (some .int) 14 (i_stop) := snd_stop
theorem sX11_encode_17 {h0 : Hp_} : Snd 0 108 h0 (miT TbC) RX11 cX11_encode 3 (some .int) 17 (i_dup 18) := snd_dup dX11_encode_17
theorem sX11_encode_18 {h0 : Hp_} : Snd 0 108 h0 (miT TbC) RX11 cX11_encode 3 (some .int) 18 (i_stop) := snd_stop
theorem sX11_encode_20 {h0 : Hp_} : Snd 0 108 h0 (miT TbC) RX11 cX11_encode 3 (some .int) 20 (i_stop) := snd_stop
theorem sX11_encode_23 {h0 : Hp_} : Snd 0 108 h0 (miT TbC) RX11 cX11_encode 3 (some .int) 23 (i_stop) := snd_stop
theorem sX11_encode_24 {h0 : Hp_} : Snd 0 108 h0 (miT TbC) RX11 cX11_encode 3 (some .int) 24 (i_aload 25 0) := snd_aload_n rfl dX11_encode_24
theorem sX11_encode_25 {h0 : Hp_} : Snd 0 108 h0 (miT TbC) RX11 cX11_encode 3 (some .int) 25 (i_getR 10 3 28) := snd_getR rfl (by decide) (by decide) (by decide) (fun hK ho hs hq kk => gf_X11_29 hK ho hs hq rfl dX11_encode_25 kk)
theorem sX11_encode_28 {h0 : Hp_} : Snd 0 108 h0 (miT TbC) RX11 cX11_encode 3 (some .int) 28 (i_aload 29 0) := snd_aload_n rfl dX11_encode_28
theorem sX11_encode_29 {h0 : Hp_} : Snd 0 108 h0 (miT TbC) RX11 cX11_encode 3 (some .int) 29 (i_getR 10 0 32) := snd_getR rfl (by decide) (by decide) (by decide) (fun hK ho hs hq kk => gf_X11_10 hK ho hs hq rfl dX11_encode_29 kk)
theorem sX11_encode_32 {h0 : Hp_} : Snd 0 108 h0 (miT TbC) RX11 cX11_encode 3 (some .int) 32 (i_iload 33 1) := snd_iload_n rfl dX11_encode_32
theorem sX11_encode_33 {h0 : Hp_} : Snd 0 108 h0 (miT TbC) RX11 cX11_encode 3 (some .int) 33 (i_iload 34 2) := snd_iload_n rfl dX11_encode_33
theorem sX11_encode_34 {h0 : Hp_} : Snd 0 108 h0 (miT TbC) RX11 cX11_encode 3 (some .int) 34 (i_aload 35 0) := snd_aload_n rfl dX11_encode_34
theorem sX11_encode_35 {h0 : Hp_} : Snd 0 108 h0 (miT TbC) RX11 cX11_encode 3 (some .int) 35 (i_getR 10 2 38) := snd_getR rfl (by decide) (by decide) (by decide) (fun hK ho hs hq kk => gf_X11_22 hK ho hs hq rfl dX11_encode_35 kk)
theorem sX11_encode_38 {h0 : Hp_} : Snd 0 108 h0 (miT TbC) RX11 cX11_encode 3 (some .int) 38 (i_cV4 35 3 41) := snd_cV4 (fun hK hd hC ho hs h6 h7 h8 kk => iv_X11_77 hK (mcC_35 hC) ho hs ⟨hd, by show _ ≤ 40 * (_ + 1); omega⟩ (Nat.le_refl _) h6 h7 h8 ⟨Nat.le_refl _, Nat.le_refl _⟩ dX11_encode_38 kk)
theorem sX11_encode_41 {h0 : Hp_} : Snd 0 108 h0 (miT TbC) RX11 cX11_encode 3 (some .int) 41 (i_aload 42 0) := snd_aload_n rfl dX11_encode_41
theorem sX11_encode_42 {h0 : Hp_} : Snd 0 108 h0 (miT TbC) RX11 cX11_encode 3 (some .int) 42 (i_getR 10 2 45) := snd_getR rfl (by decide) (by decide) (by decide) (fun hK ho hs hq kk => gf_X11_22 hK ho hs hq rfl dX11_encode_42 kk)
theorem sX11_encode_45 {h0 : Hp_} : Snd 0 108 h0 (miT TbC) RX11 cX11_encode 3 (some .int) 45 (i_cV0 26 1 48) := snd_cV0 (fun hK hd hC ho hs h6 h7 h8 kk => iv_X11_81 hK (mcC_26 hC) ho hs ⟨hd, by show _ ≤ 40 * (_ + 1); omega⟩ (Nat.le_refl _) h6 h7 h8 ⟨Nat.le_refl _, Nat.le_refl _⟩ dX11_encode_45 kk)
theorem sX11_encode_48 {h0 : Hp_} : Snd 0 108 h0 (miT TbC) RX11 cX11_encode 3 (some .int) 48 (i_iret) := snd_iret dX11_encode_48
theorem kX11_encode {h0 : Hp_} : raA (okI 0 108 h0 (miT TbC) (yX11_encode, cX11_encode, 3, (some .int))) tX11_encode := (raA_br (raA_br (raA_br (raA_br (raA_leaf sX11_encode_0) (raA_br (raA_leaf sX11_encode_1) (raA_leaf sX11_encode_4))) (raA_br (raA_leaf sX11_encode_7) (raA_br (raA_leaf sX11_encode_8) (raA_leaf sX11_encode_11)))) (raA_br (raA_br (raA_leaf sX11_encode_14) (raA_br (raA_leaf sX11_encode_17) (raA_leaf sX11_encode_18))) (raA_br (raA_leaf sX11_encode_20) (raA_br (raA_leaf sX11_encode_23) (raA_leaf sX11_encode_24))))) (raA_br (raA_br (raA_br (raA_leaf sX11_encode_25) (raA_br (raA_leaf sX11_encode_28) (raA_leaf sX11_encode_29))) (raA_br (raA_leaf sX11_encode_32) (raA_br (raA_leaf sX11_encode_33) (raA_leaf sX11_encode_34)))) (raA_br (raA_br (raA_leaf sX11_encode_35) (raA_br (raA_leaf sX11_encode_38) (raA_leaf sX11_encode_41))) (raA_br (raA_leaf sX11_encode_42) (raA_br (raA_leaf sX11_encode_45) (raA_leaf sX11_encode_48))))))
theorem sX11_firstBandOf_0 {h0 : Hp_} : Snd 0 108 h0 (miT TbC) RX11 cX11_firstBandOf 1 (some .int) 0 (i_iload 1 0) := snd_iload_n rfl dX11_firstBandOf_0
theorem sX11_firstBandOf_1 {h0 : Hp_} : Snd 0 108 h0 (miT TbC) RX11 cX11_firstBandOf 1 (some .int) 1 (i_if_ne 4 8) := snd_if_ne dX11_firstBandOf_1 rfl
theorem sX11_firstBandOf_4 {h0 : Hp_} : Snd 0 108 h0 (miT TbC) RX11 cX11_firstBandOf 1 (some .int) 4 (i_const 5 (vI 0)) := snd_iconst dX11_firstBandOf_4
theorem sX11_firstBandOf_5 {h0 : Hp_} : Snd 0 108 h0 (miT TbC) RX11 cX11_firstBandOf 1 (some .int) 5 (i_goto 13) := snd_goto dX11_firstBandOf_5 rfl
theorem sX11_firstBandOf_8 {h0 : Hp_} : Snd 0 108 h0 (miT TbC) RX11 cX11_firstBandOf 1 (some .int) 8 (i_const 9 (vI 3)) := snd_iconst dX11_firstBandOf_8
theorem sX11_firstBandOf_9 {h0 : Hp_} : Snd 0 108 h0 (miT TbC) RX11 cX11_firstBandOf 1 (some .int) 9 (i_iload 10 0) := snd_iload_n rfl dX11_firstBandOf_9
theorem sX11_firstBandOf_10 {h0 : Hp_} : Snd 0 108 h0 (miT TbC) RX11 cX11_firstBandOf 1 (some .int) 10 (i_imul 11) := snd_imul dX11_firstBandOf_10
theorem sX11_firstBandOf_11 {h0 : Hp_} : Snd 0 108 h0 (miT TbC) RX11 cX11_firstBandOf 1 (some .int) 11 (i_const 12 (vI 2)) := snd_iconst dX11_firstBandOf_11
theorem sX11_firstBandOf_12 {h0 : Hp_} : Snd 0 108 h0 (miT TbC) RX11 cX11_firstBandOf 1 (some .int) 12 (i_isub 13) := snd_isub dX11_firstBandOf_12
theorem sX11_firstBandOf_13 {h0 : Hp_} : Snd 0 108 h0 (miT TbC) RX11 cX11_firstBandOf 1 (some .int) 13 (i_iret) := snd_iret dX11_firstBandOf_13
theorem kX11_firstBandOf {h0 : Hp_} : raA (okI 0 108 h0 (miT TbC) (yX11_firstBandOf, cX11_firstBandOf, 1, (some .int))) tX11_firstBandOf := (raA_br (raA_br (raA_br (raA_leaf sX11_firstBandOf_0) (raA_leaf sX11_firstBandOf_1)) (raA_br (raA_leaf sX11_firstBandOf_4) (raA_br (raA_leaf sX11_firstBandOf_5) (raA_leaf sX11_firstBandOf_8)))) (raA_br (raA_br (raA_leaf sX11_firstBandOf_9) (raA_leaf sX11_firstBandOf_10)) (raA_br (raA_leaf sX11_firstBandOf_11) (raA_br (raA_leaf sX11_firstBandOf_12) (raA_leaf sX11_firstBandOf_13)))))
theorem sX11_lastBandOf_0 {h0 : Hp_} : Snd 0 108 h0 (miT TbC) RX11 cX11_lastBandOf 1 (some .int) 0 (i_const 1 (vI 3)) := snd_iconst dX11_lastBandOf_0
theorem sX11_lastBandOf_1 {h0 : Hp_} : Snd 0 108 h0 (miT TbC) RX11 cX11_lastBandOf 1 (some .int) 1 (i_iload 2 0) := snd_iload_n rfl dX11_lastBandOf_1
theorem sX11_lastBandOf_2 {h0 : Hp_} : Snd 0 108 h0 (miT TbC) RX11 cX11_lastBandOf 1 (some .int) 2 (i_imul 3) := snd_imul dX11_lastBandOf_2
theorem sX11_lastBandOf_3 {h0 : Hp_} : Snd 0 108 h0 (miT TbC) RX11 cX11_lastBandOf 1 (some .int) 3 (i_iret) := snd_iret dX11_lastBandOf_3
theorem kX11_lastBandOf {h0 : Hp_} : raA (okI 0 108 h0 (miT TbC) (yX11_lastBandOf, cX11_lastBandOf, 1, (some .int))) tX11_lastBandOf := (raA_br (raA_br (raA_leaf sX11_lastBandOf_0) (raA_leaf sX11_lastBandOf_1)) (raA_br (raA_leaf sX11_lastBandOf_2) (raA_leaf sX11_lastBandOf_3)))
theorem sX11_passesOf_0 {h0 : Hp_} : Snd 0 108 h0 (miT TbC) RX11 cX11_passesOf 1 (some .int) 0 (i_iload 1 0) := snd_iload_n rfl dX11_passesOf_0
theorem sX11_passesOf_1 {h0 : Hp_} : Snd 0 108 h0 (miT TbC) RX11 cX11_passesOf 1 (some .int) 1 (i_if_ne 4 8) := snd_if_ne dX11_passesOf_1 rfl
theorem sX11_passesOf_4 {h0 : Hp_} : Snd 0 108 h0 (miT TbC) RX11 cX11_passesOf 1 (some .int) 4 (i_const 5 (vI 0)) := snd_iconst dX11_passesOf_4
theorem sX11_passesOf_5 {h0 : Hp_} : Snd 0 108 h0 (miT TbC) RX11 cX11_passesOf 1 (some .int) 5 (i_goto 13) := snd_goto dX11_passesOf_5 rfl
theorem sX11_passesOf_8 {h0 : Hp_} : Snd 0 108 h0 (miT TbC) RX11 cX11_passesOf 1 (some .int) 8 (i_const 9 (vI 3)) := snd_iconst dX11_passesOf_8
theorem sX11_passesOf_9 {h0 : Hp_} : Snd 0 108 h0 (miT TbC) RX11 cX11_passesOf 1 (some .int) 9 (i_iload 10 0) := snd_iload_n rfl dX11_passesOf_9
theorem sX11_passesOf_10 {h0 : Hp_} : Snd 0 108 h0 (miT TbC) RX11 cX11_passesOf 1 (some .int) 10 (i_imul 11) := snd_imul dX11_passesOf_10
theorem sX11_passesOf_11 {h0 : Hp_} : Snd 0 108 h0 (miT TbC) RX11 cX11_passesOf 1 (some .int) 11 (i_const 12 (vI 2)) := snd_iconst dX11_passesOf_11
theorem sX11_passesOf_12 {h0 : Hp_} : Snd 0 108 h0 (miT TbC) RX11 cX11_passesOf 1 (some .int) 12 (i_isub 13) := snd_isub dX11_passesOf_12
theorem sX11_passesOf_13 {h0 : Hp_} : Snd 0 108 h0 (miT TbC) RX11 cX11_passesOf 1 (some .int) 13 (i_iret) := snd_iret dX11_passesOf_13
theorem kX11_passesOf {h0 : Hp_} : raA (okI 0 108 h0 (miT TbC) (yX11_passesOf, cX11_passesOf, 1, (some .int))) tX11_passesOf := (raA_br (raA_br (raA_br (raA_leaf sX11_passesOf_0) (raA_leaf sX11_passesOf_1)) (raA_br (raA_leaf sX11_passesOf_4) (raA_br (raA_leaf sX11_passesOf_5) (raA_leaf sX11_passesOf_8)))) (raA_br (raA_br (raA_leaf sX11_passesOf_9) (raA_leaf sX11_passesOf_10)) (raA_br (raA_leaf sX11_passesOf_11) (raA_br (raA_leaf sX11_passesOf_12) (raA_leaf sX11_passesOf_13)))))
theorem sX1_add_0 {h0 : Hp_} : Snd 0 108 h0 (miT TbC) RX1 cX1_add 2 none 0 (i_aload 1 0) := snd_aload_n rfl dX1_add_0
theorem sX1_add_1 {h0 : Hp_} : Snd 0 108 h0 (miT TbC) RX1 cX1_add 2 none 1 (i_getI 1 1 4) := snd_getI hl0 (fun hK ho hs hv kk => gf_X1_15 hK ho hs hv dX1_add_1 kk)
theorem sX1_add_4 {h0 : Hp_} : Snd 0 108 h0 (miT TbC) RX1 cX1_add 2 none 4 (i_aload 5 0) := snd_aload_n rfl dX1_add_4
theorem sX1_add_5 {h0 : Hp_} : Snd 0 108 h0 (miT TbC) RX1 cX1_add 2 none 5 (i_getR 1 0 8) := snd_getR rfl (by decide) (by decide) (by decide) (fun hK ho hs hq kk => gf_X1_9 hK ho hs hq rfl dX1_add_5 kk)
theorem sX1_add_8 {h0 : Hp_} : Snd 0 108 h0 (miT TbC) RX1 cX1_add 2 none 8 (i_alen 9) := snd_alen dX1_add_8
theorem sX1_add_9 {h0 : Hp_} : Snd 0 108 h0 (miT TbC) RX1 cX1_add 2 none 9 (i_icmp_ge 12 32) := snd_icmp_ge dX1_add_9 rfl
theorem sX1_add_12 {h0 : Hp_} : Snd 0 108 h0 (miT TbC) RX1 cX1_add 2 none 12 (i_aload 13 0) := snd_aload_n rfl dX1_add_12
theorem sX1_add_13 {h0 : Hp_} : Snd 0 108 h0 (miT TbC) RX1 cX1_add 2 none 13 (i_getR 1 0 16) := snd_getR rfl (by decide) (by decide) (by decide) (fun hK ho hs hq kk => gf_X1_9 hK ho hs hq rfl dX1_add_13 kk)
theorem sX1_add_16 {h0 : Hp_} : Snd 0 108 h0 (miT TbC) RX1 cX1_add 2 none 16 (i_aload 17 0) := snd_aload_n rfl dX1_add_16
theorem sX1_add_17 {h0 : Hp_} : Snd 0 108 h0 (miT TbC) RX1 cX1_add 2 none 17 (i_getI 1 1 20) := snd_getI hl0 (fun hK ho hs hv kk => gf_X1_15 hK ho hs hv dX1_add_17 kk)
theorem sX1_add_20 {h0 : Hp_} : Snd 0 108 h0 (miT TbC) RX1 cX1_add 2 none 20 (i_iload 21 1) := snd_iload_n rfl dX1_add_20
theorem sX1_add_21 {h0 : Hp_} : Snd 0 108 h0 (miT TbC) RX1 cX1_add 2 none 21 (i_iast 0 108 22) := snd_iast dX1_add_21
theorem sX1_add_22 {h0 : Hp_} : Snd 0 108 h0 (miT TbC) RX1 cX1_add 2 none 22 (i_aload 23 0) := snd_aload_n rfl dX1_add_22
theorem sX1_add_23 {h0 : Hp_} : Snd 0 108 h0 (miT TbC) RX1 cX1_add 2 none 23 (i_dup 24) := snd_dup dX1_add_23
theorem sX1_add_24 {h0 : Hp_} : Snd 0 108 h0 (miT TbC) RX1 cX1_add 2 none 24 (i_getI 1 1 27) := snd_getI hl0 (fun hK ho hs hv kk => gf_X1_15 hK ho hs hv dX1_add_24 kk)
theorem sX1_add_27 {h0 : Hp_} : Snd 0 108 h0 (miT TbC) RX1 cX1_add 2 none 27 (i_const 28 (vI 1)) := snd_iconst dX1_add_27
theorem sX1_add_28 {h0 : Hp_} : Snd 0 108 h0 (miT TbC) RX1 cX1_add 2 none 28 (i_iadd 29) := snd_iadd dX1_add_28
theorem sX1_add_29 {h0 : Hp_} : Snd 0 108 h0 (miT TbC) RX1 cX1_add 2 none 29 (i_putI 1 1 32) := snd_putI hl0 (fun hK ho hs kk => pf_X1_15 hK ho hs dX1_add_29 kk)
theorem sX1_add_32 {h0 : Hp_} : Snd 0 108 h0 (miT TbC) RX1 cX1_add 2 none 32 (i_aload 33 0) := snd_aload_n rfl dX1_add_32
theorem sX1_add_33 {h0 : Hp_} : Snd 0 108 h0 (miT TbC) RX1 cX1_add 2 none 33 (i_const 34 (vI 0)) := snd_iconst dX1_add_33
theorem sX1_add_34 {h0 : Hp_} : Snd 0 108 h0 (miT TbC) RX1 cX1_add 2 none 34 (i_putI 1 2 37) := snd_putI hl0 (fun hK ho hs kk => pf_X1_19 hK ho hs dX1_add_34 kk)
theorem sX1_add_37 {h0 : Hp_} : Snd 0 108 h0 (miT TbC) RX1 cX1_add 2 none 37 (i_vret) := snd_vret dX1_add_37
theorem kX1_add {h0 : Hp_} : raA (okI 0 108 h0 (miT TbC) (yX1_add, cX1_add, 2, none)) tX1_add := (raA_br (raA_br (raA_br (raA_br (raA_leaf sX1_add_0) (raA_leaf sX1_add_1)) (raA_br (raA_leaf sX1_add_4) (raA_br (raA_leaf sX1_add_5) (raA_leaf sX1_add_8)))) (raA_br (raA_br (raA_leaf sX1_add_9) (raA_br (raA_leaf sX1_add_12) (raA_leaf sX1_add_13))) (raA_br (raA_leaf sX1_add_16) (raA_br (raA_leaf sX1_add_17) (raA_leaf sX1_add_20))))) (raA_br (raA_br (raA_br (raA_leaf sX1_add_21) (raA_leaf sX1_add_22)) (raA_br (raA_leaf sX1_add_23) (raA_br (raA_leaf sX1_add_24) (raA_leaf sX1_add_27)))) (raA_br (raA_br (raA_leaf sX1_add_28) (raA_br (raA_leaf sX1_add_29) (raA_leaf sX1_add_32))) (raA_br (raA_leaf sX1_add_33) (raA_br (raA_leaf sX1_add_34) (raA_leaf sX1_add_37))))))
theorem sX1_addFrom_0 {h0 : Hp_} : Snd 0 108 h0 (miT TbC) RX1 cX1_addFrom 5 none 0 (i_const 1 (vI 0)) := snd_iconst dX1_addFrom_0
theorem sX1_addFrom_1 {h0 : Hp_} : Snd 0 108 h0 (miT TbC) RX1 cX1_addFrom 5 none 1 (i_istore 3 4) := snd_istore (by decide) dX1_addFrom_1
theorem sX1_addFrom_3 {h0 : Hp_} : Snd 0 108 h0 (miT TbC) RX1 cX1_addFrom 5 none 3 (i_iload 5 4) := snd_iload dX1_addFrom_3
theorem sX1_addFrom_5 {h0 : Hp_} : Snd 0 108 h0 (miT TbC) RX1 cX1_addFrom 5 none 5 (i_iload 6 3) := snd_iload_n rfl dX1_addFrom_5
theorem sX1_addFrom_6 {h0 : Hp_} : Snd 0 108 h0 (miT TbC) RX1 cX1_addFrom 5 none 6 (i_icmp_ge 9 27) := snd_icmp_ge dX1_addFrom_6 rfl
theorem sX1_addFrom_9 {h0 : Hp_} : Snd 0 108 h0 (miT TbC) RX1 cX1_addFrom 5 none 9 (i_aload 10 0) := snd_aload_n rfl dX1_addFrom_9
theorem sX1_addFrom_10 {h0 : Hp_} : Snd 0 108 h0 (miT TbC) RX1 cX1_addFrom 5 none 10 (i_aload 11 1) := snd_aload_n rfl dX1_addFrom_10
theorem sX1_addFrom_11 {h0 : Hp_} : Snd 0 108 h0 (miT TbC) RX1 cX1_addFrom 5 none 11 (i_iload 12 2) := snd_iload_n rfl dX1_addFrom_11
theorem sX1_addFrom_12 {h0 : Hp_} : Snd 0 108 h0 (miT TbC) RX1 cX1_addFrom 5 none 12 (i_iload 14 4) := snd_iload dX1_addFrom_12
theorem sX1_addFrom_14 {h0 : Hp_} : Snd 0 108 h0 (miT TbC) RX1 cX1_addFrom 5 none 14 (i_iadd 15) := snd_iadd dX1_addFrom_14
theorem sX1_addFrom_15 {h0 : Hp_} : Snd 0 108 h0 (miT TbC) RX1 cX1_addFrom 5 none 15 (i_cV1 22 1 18) := snd_cV1 (fun hK hd hC ho hs h6 h7 h8 kk => iv_X1_26 hK (mcC_22 hC) ho hs ⟨hd, by show _ ≤ 40 * (_ + 1); omega⟩ (Nat.le_refl _) h6 h7 h8 ⟨Nat.le_refl _, Nat.le_refl _⟩ dX1_addFrom_15 kk)
theorem sX1_addFrom_18 {h0 : Hp_} : Snd 0 108 h0 (miT TbC) RX1 cX1_addFrom 5 none 18 (i_cV1 20 1 21) := snd_cV1 (fun hK hd hC ho hs h6 h7 h8 kk => iv_X1_30 hK (mcC_20 hC) ho hs ⟨hd, by show _ ≤ 40 * (_ + 1); omega⟩ (Nat.le_refl _) h6 h7 h8 ⟨Nat.le_refl _, Nat.le_refl _⟩ dX1_addFrom_18 kk)
theorem sX1_addFrom_21 {h0 : Hp_} : Snd 0 108 h0 (miT TbC) RX1 cX1_addFrom 5 none 21 (i_iinc 24 4 1) := snd_iinc (by decide) dX1_addFrom_21
theorem sX1_addFrom_24 {h0 : Hp_} : Snd 0 108 h0 (miT TbC) RX1 cX1_addFrom 5 none 24 (i_goto 3) := snd_goto dX1_addFrom_24 rfl
theorem sX1_addFrom_27 {h0 : Hp_} : Snd 0 108 h0 (miT TbC) RX1 cX1_addFrom 5 none 27 (i_vret) := snd_vret dX1_addFrom_27
theorem kX1_addFrom {h0 : Hp_} : raA (okI 0 108 h0 (miT TbC) (yX1_addFrom, cX1_addFrom, 5, none)) tX1_addFrom := (raA_br (raA_br (raA_br (raA_leaf sX1_addFrom_0) (raA_br (raA_leaf sX1_addFrom_1) (raA_leaf sX1_addFrom_3))) (raA_br (raA_br (raA_leaf sX1_addFrom_5) (raA_leaf sX1_addFrom_6)) (raA_br (raA_leaf sX1_addFrom_9) (raA_leaf sX1_addFrom_10)))) (raA_br (raA_br (raA_br (raA_leaf sX1_addFrom_11) (raA_leaf sX1_addFrom_12)) (raA_br (raA_leaf sX1_addFrom_14) (raA_leaf sX1_addFrom_15))) (raA_br (raA_br (raA_leaf sX1_addFrom_18) (raA_leaf sX1_addFrom_21)) (raA_br (raA_leaf sX1_addFrom_24) (raA_leaf sX1_addFrom_27)))))
theorem sX1_at_0 {h0 : Hp_} : Snd 0 108 h0 (miT TbC) RX1 cX1_at 2 (some .int) 0 (i_iload 1 1) := snd_iload_n rfl dX1_at_0
theorem sX1_at_1 {h0 : Hp_} : Snd 0 108 h0 (miT TbC) RX1 cX1_at 2 (some .int) 1 (i_if_lt 4 21) := snd_if_lt dX1_at_1 rfl
theorem sX1_at_4 {h0 : Hp_} : Snd 0 108 h0 (miT TbC) RX1 cX1_at 2 (some .int) 4 (i_iload 5 1) := snd_iload_n rfl dX1_at_4
theorem sX1_at_5 {h0 : Hp_} : Snd 0 108 h0 (miT TbC) RX1 cX1_at 2 (some .int) 5 (i_aload 6 0) := snd_aload_n rfl dX1_at_5
theorem sX1_at_6 {h0 : Hp_} : Snd 0 108 h0 (miT TbC) RX1 cX1_at 2 (some .int) 6 (i_getI 1 1 9) := snd_getI hl0 (fun hK ho hs hv kk => gf_X1_15 hK ho hs hv dX1_at_6 kk)
theorem sX1_at_9 {h0 : Hp_} : Snd 0 108 h0 (miT TbC) RX1 cX1_at 2 (some .int) 9 (i_icmp_ge 12 21) := snd_icmp_ge dX1_at_9 rfl
theorem sX1_at_12 {h0 : Hp_} : Snd 0 108 h0 (miT TbC) RX1 cX1_at 2 (some .int) 12 (i_aload 13 0) := snd_aload_n rfl dX1_at_12
theorem sX1_at_13 {h0 : Hp_} : Snd 0 108 h0 (miT TbC) RX1 cX1_at 2 (some .int) 13 (i_getR 1 0 16) := snd_getR rfl (by decide) (by decide) (by decide) (fun hK ho hs hq kk => gf_X1_9 hK ho hs hq rfl dX1_at_13 kk)
theorem sX1_at_16 {h0 : Hp_} : Snd 0 108 h0 (miT TbC) RX1 cX1_at 2 (some .int) 16 (i_iload 17 1) := snd_iload_n rfl dX1_at_16
theorem sX1_at_17 {h0 : Hp_} : Snd 0 108 h0 (miT TbC) RX1 cX1_at 2 (some .int) 17 (i_iald 0 108 18) := snd_iald dX1_at_17
theorem sX1_at_18 {h0 : Hp_} : Snd 0 108 h0 (miT TbC) RX1 cX1_at 2 (some .int) 18 (i_goto 24) := snd_goto dX1_at_18 rfl
theorem sX1_at_21 {h0 : Hp_} : Snd 0 108 h0 (miT TbC) RX1 cX1_at 2 (some .int) 21 (i_const 24 (vI 255)) := snd_sipush (by decide) dX1_at_21
theorem sX1_at_24 {h0 : Hp_} : Snd 0 108 h0 (miT TbC) RX1 cX1_at 2 (some .int) 24 (i_iret) := snd_iret dX1_at_24
theorem kX1_at {h0 : Hp_} : raA (okI 0 108 h0 (miT TbC) (yX1_at, cX1_at, 2, (some .int))) tX1_at := (raA_br (raA_br (raA_br (raA_leaf sX1_at_0) (raA_br (raA_leaf sX1_at_1) (raA_leaf sX1_at_4))) (raA_br (raA_leaf sX1_at_5) (raA_br (raA_leaf sX1_at_6) (raA_leaf sX1_at_9)))) (raA_br (raA_br (raA_leaf sX1_at_12) (raA_br (raA_leaf sX1_at_13) (raA_leaf sX1_at_16))) (raA_br (raA_br (raA_leaf sX1_at_17) (raA_leaf sX1_at_18)) (raA_br (raA_leaf sX1_at_21) (raA_leaf sX1_at_24)))))
theorem sX1_clear_0 {h0 : Hp_} : Snd 0 108 h0 (miT TbC) RX1 cX1_clear 1 none 0 (i_aload 1 0) := snd_aload_n rfl dX1_clear_0
theorem sX1_clear_1 {h0 : Hp_} : Snd 0 108 h0 (miT TbC) RX1 cX1_clear 1 none 1 (i_const 2 (vI 0)) := snd_iconst dX1_clear_1
theorem sX1_clear_2 {h0 : Hp_} : Snd 0 108 h0 (miT TbC) RX1 cX1_clear 1 none 2 (i_putI 1 1 5) := snd_putI hl0 (fun hK ho hs kk => pf_X1_15 hK ho hs dX1_clear_2 kk)
theorem sX1_clear_5 {h0 : Hp_} : Snd 0 108 h0 (miT TbC) RX1 cX1_clear 1 none 5 (i_aload 6 0) := snd_aload_n rfl dX1_clear_5
theorem sX1_clear_6 {h0 : Hp_} : Snd 0 108 h0 (miT TbC) RX1 cX1_clear 1 none 6 (i_const 7 (vI 0)) := snd_iconst dX1_clear_6
theorem sX1_clear_7 {h0 : Hp_} : Snd 0 108 h0 (miT TbC) RX1 cX1_clear 1 none 7 (i_putI 1 2 10) := snd_putI hl0 (fun hK ho hs kk => pf_X1_19 hK ho hs dX1_clear_7 kk)
theorem sX1_clear_10 {h0 : Hp_} : Snd 0 108 h0 (miT TbC) RX1 cX1_clear 1 none 10 (i_vret) := snd_vret dX1_clear_10
theorem kX1_clear {h0 : Hp_} : raA (okI 0 108 h0 (miT TbC) (yX1_clear, cX1_clear, 1, none)) tX1_clear := (raA_br (raA_br (raA_leaf sX1_clear_0) (raA_br (raA_leaf sX1_clear_1) (raA_leaf sX1_clear_2))) (raA_br (raA_br (raA_leaf sX1_clear_5) (raA_leaf sX1_clear_6)) (raA_br (raA_leaf sX1_clear_7) (raA_leaf sX1_clear_10))))
theorem sX1_endBits_0 {h0 : Hp_} : Snd 0 108 h0 (miT TbC) RX1 cX1_endBits 1 none 0 (i_aload 1 0) := snd_aload_n rfl dX1_endBits_0
theorem sX1_endBits_1 {h0 : Hp_} : Snd 0 108 h0 (miT TbC) RX1 cX1_endBits 1 none 1 (i_const 2 (vI 0)) := snd_iconst dX1_endBits_1
theorem sX1_endBits_2 {h0 : Hp_} : Snd 0 108 h0 (miT TbC) RX1 cX1_endBits 1 none 2 (i_putI 1 2 5) := snd_putI hl0 (fun hK ho hs kk => pf_X1_19 hK ho hs dX1_endBits_2 kk)
theorem sX1_endBits_5 {h0 : Hp_} : Snd 0 108 h0 (miT TbC) RX1 cX1_endBits 1 none 5 (i_vret) := snd_vret dX1_endBits_5
theorem kX1_endBits {h0 : Hp_} : raA (okI 0 108 h0 (miT TbC) (yX1_endBits, cX1_endBits, 1, none)) tX1_endBits := (raA_br (raA_br (raA_leaf sX1_endBits_0) (raA_leaf sX1_endBits_1)) (raA_br (raA_leaf sX1_endBits_2) (raA_leaf sX1_endBits_5)))
theorem sX1_has_0 {h0 : Hp_} : Snd 0 108 h0 (miT TbC) RX1 cX1_has 2 (some .boolean) 0 (i_iload 1 1) := snd_iload_n rfl dX1_has_0
theorem sX1_has_1 {h0 : Hp_} : Snd 0 108 h0 (miT TbC) RX1 cX1_has 2 (some .boolean) 1 (i_if_lt 4 16) := snd_if_lt dX1_has_1 rfl
theorem sX1_has_4 {h0 : Hp_} : Snd 0 108 h0 (miT TbC) RX1 cX1_has 2 (some .boolean) 4 (i_iload 5 1) := snd_iload_n rfl dX1_has_4
theorem sX1_has_5 {h0 : Hp_} : Snd 0 108 h0 (miT TbC) RX1 cX1_has 2 (some .boolean) 5 (i_aload 6 0) := snd_aload_n rfl dX1_has_5
theorem sX1_has_6 {h0 : Hp_} : Snd 0 108 h0 (miT TbC) RX1 cX1_has 2 (some .boolean) 6 (i_getI 1 1 9) := snd_getI hl0 (fun hK ho hs hv kk => gf_X1_15 hK ho hs hv dX1_has_6 kk)
theorem sX1_has_9 {h0 : Hp_} : Snd 0 108 h0 (miT TbC) RX1 cX1_has 2 (some .boolean) 9 (i_icmp_ge 12 16) := snd_icmp_ge dX1_has_9 rfl
theorem sX1_has_12 {h0 : Hp_} : Snd 0 108 h0 (miT TbC) RX1 cX1_has 2 (some .boolean) 12 (i_const 13 (vI 1)) := snd_iconst dX1_has_12
theorem sX1_has_13 {h0 : Hp_} : Snd 0 108 h0 (miT TbC) RX1 cX1_has 2 (some .boolean) 13 (i_goto 17) := snd_goto dX1_has_13 rfl
theorem sX1_has_16 {h0 : Hp_} : Snd 0 108 h0 (miT TbC) RX1 cX1_has 2 (some .boolean) 16 (i_const 17 (vI 0)) := snd_iconst dX1_has_16
theorem sX1_has_17 {h0 : Hp_} : Snd 0 108 h0 (miT TbC) RX1 cX1_has 2 (some .boolean) 17 (i_zret) := snd_zret dX1_has_17
theorem kX1_has {h0 : Hp_} : raA (okI 0 108 h0 (miT TbC) (yX1_has, cX1_has, 2, (some .boolean))) tX1_has := (raA_br (raA_br (raA_br (raA_leaf sX1_has_0) (raA_leaf sX1_has_1)) (raA_br (raA_leaf sX1_has_4) (raA_br (raA_leaf sX1_has_5) (raA_leaf sX1_has_6)))) (raA_br (raA_br (raA_leaf sX1_has_9) (raA_leaf sX1_has_12)) (raA_br (raA_leaf sX1_has_13) (raA_br (raA_leaf sX1_has_16) (raA_leaf sX1_has_17)))))
theorem sX1_length_0 {h0 : Hp_} : Snd 0 108 h0 (miT TbC) RX1 cX1_length 1 (some .int) 0 (i_aload 1 0) := snd_aload_n rfl dX1_length_0
theorem sX1_length_1 {h0 : Hp_} : Snd 0 108 h0 (miT TbC) RX1 cX1_length 1 (some .int) 1 (i_getI 1 1 4) := snd_getI hl0 (fun hK ho hs hv kk => gf_X1_15 hK ho hs hv dX1_length_1 kk)
theorem sX1_length_4 {h0 : Hp_} : Snd 0 108 h0 (miT TbC) RX1 cX1_length 1 (some .int) 4 (i_iret) := snd_iret dX1_length_4
theorem kX1_length {h0 : Hp_} : raA (okI 0 108 h0 (miT TbC) (yX1_length, cX1_length, 1, (some .int))) tX1_length := (raA_br (raA_leaf sX1_length_0) (raA_br (raA_leaf sX1_length_1) (raA_leaf sX1_length_4)))
theorem sX1_putBits_0 {h0 : Hp_} : Snd 0 108 h0 (miT TbC) RX1 cX1_putBits 4 none 0 (i_iload 1 2) := snd_iload_n rfl dX1_putBits_0
theorem sX1_putBits_1 {h0 : Hp_} : Snd 0 108 h0 (miT TbC) RX1 cX1_putBits 4 none 1 (i_const 2 (vI 1)) := snd_iconst dX1_putBits_1
theorem sX1_putBits_2 {h0 : Hp_} : Snd 0 108 h0 (miT TbC) RX1 cX1_putBits 4 none 2 (i_isub 3) := snd_isub dX1_putBits_2
theorem sX1_putBits_3 {h0 : Hp_} : Snd 0 108 h0 (miT TbC) RX1 cX1_putBits 4 none 3 (i_istore 4 3) := snd_istore_n rfl (by decide) dX1_putBits_3
theorem sX1_putBits_4 {h0 : Hp_} : Snd 0 108 h0 (miT TbC) RX1 cX1_putBits 4 none 4 (i_iload 5 3) := snd_iload_n rfl dX1_putBits_4
theorem sX1_putBits_5 {h0 : Hp_} : Snd 0 108 h0 (miT TbC) RX1 cX1_putBits 4 none 5 (i_if_lt 8 73) := snd_if_lt dX1_putBits_5 rfl
theorem sX1_putBits_8 {h0 : Hp_} : Snd 0 108 h0 (miT TbC) RX1 cX1_putBits 4 none 8 (i_aload 9 0) := snd_aload_n rfl dX1_putBits_8
theorem sX1_putBits_9 {h0 : Hp_} : Snd 0 108 h0 (miT TbC) RX1 cX1_putBits 4 none 9 (i_getI 1 2 12) := snd_getI hl0 (fun hK ho hs hv kk => gf_X1_19 hK ho hs hv dX1_putBits_9 kk)
theorem sX1_putBits_12 {h0 : Hp_} : Snd 0 108 h0 (miT TbC) RX1 cX1_putBits 4 none 12 (i_if_ne 15 26) := snd_if_ne dX1_putBits_12 rfl
theorem sX1_putBits_15 {h0 : Hp_} : Snd 0 108 h0 (miT TbC) RX1 cX1_putBits 4 none 15 (i_aload 16 0) := snd_aload_n rfl dX1_putBits_15
theorem sX1_putBits_16 {h0 : Hp_} : Snd 0 108 h0 (miT TbC) RX1 cX1_putBits 4 none 16 (i_const 17 (vI 0)) := snd_iconst dX1_putBits_16
theorem sX1_putBits_17 {h0 : Hp_} : Snd 0 108 h0 (miT TbC) RX1 cX1_putBits 4 none 17 (i_cV1 20 1 20) := snd_cV1 (fun hK hd hC ho hs h6 h7 h8 kk => iv_X1_30 hK (mcC_20 hC) ho hs ⟨hd, by show _ ≤ 40 * (_ + 1); omega⟩ (Nat.le_refl _) h6 h7 h8 ⟨Nat.le_refl _, Nat.le_refl _⟩ dX1_putBits_17 kk)
theorem sX1_putBits_20 {h0 : Hp_} : Snd 0 108 h0 (miT TbC) RX1 cX1_putBits 4 none 20 (i_aload 21 0) := snd_aload_n rfl dX1_putBits_20
theorem sX1_putBits_21 {h0 : Hp_} : Snd 0 108 h0 (miT TbC) RX1 cX1_putBits 4 none 21 (i_const 23 (vI 8)) := snd_bipush (by decide) dX1_putBits_21
theorem sX1_putBits_23 {h0 : Hp_} : Snd 0 108 h0 (miT TbC) RX1 cX1_putBits 4 none 23 (i_putI 1 2 26) := snd_putI hl0 (fun hK ho hs kk => pf_X1_19 hK ho hs dX1_putBits_23 kk)
theorem sX1_putBits_26 {h0 : Hp_} : Snd 0 108 h0 (miT TbC) RX1 cX1_putBits 4 none 26 (i_aload 27 0) := snd_aload_n rfl dX1_putBits_26
theorem sX1_putBits_27 {h0 : Hp_} : Snd 0 108 h0 (miT TbC) RX1 cX1_putBits 4 none 27 (i_dup 28) := snd_dup dX1_putBits_27
theorem sX1_putBits_28 {h0 : Hp_} : Snd 0 108 h0 (miT TbC) RX1 cX1_putBits 4 none 28 (i_getI 1 2 31) := snd_getI hl0 (fun hK ho hs hv kk => gf_X1_19 hK ho hs hv dX1_putBits_28 kk)
theorem sX1_putBits_31 {h0 : Hp_} : Snd 0 108 h0 (miT TbC) RX1 cX1_putBits 4 none 31 (i_const 32 (vI 1)) := snd_iconst dX1_putBits_31
theorem sX1_putBits_32 {h0 : Hp_} : Snd 0 108 h0 (miT TbC) RX1 cX1_putBits 4 none 32 (i_isub 33) := snd_isub dX1_putBits_32
theorem sX1_putBits_33 {h0 : Hp_} : Snd 0 108 h0 (miT TbC) RX1 cX1_putBits 4 none 33 (i_putI 1 2 36) := snd_putI hl0 (fun hK ho hs kk => pf_X1_19 hK ho hs dX1_putBits_33 kk)
theorem sX1_putBits_36 {h0 : Hp_} : Snd 0 108 h0 (miT TbC) RX1 cX1_putBits 4 none 36 (i_aload 37 0) := snd_aload_n rfl dX1_putBits_36
theorem sX1_putBits_37 {h0 : Hp_} : Snd 0 108 h0 (miT TbC) RX1 cX1_putBits 4 none 37 (i_aload 38 0) := snd_aload_n rfl dX1_putBits_37
theorem sX1_putBits_38 {h0 : Hp_} : Snd 0 108 h0 (miT TbC) RX1 cX1_putBits 4 none 38 (i_getI 1 1 41) := snd_getI hl0 (fun hK ho hs hv kk => gf_X1_15 hK ho hs hv dX1_putBits_38 kk)
theorem sX1_putBits_41 {h0 : Hp_} : Snd 0 108 h0 (miT TbC) RX1 cX1_putBits 4 none 41 (i_const 42 (vI 1)) := snd_iconst dX1_putBits_41
theorem sX1_putBits_42 {h0 : Hp_} : Snd 0 108 h0 (miT TbC) RX1 cX1_putBits 4 none 42 (i_isub 43) := snd_isub dX1_putBits_42
theorem sX1_putBits_43 {h0 : Hp_} : Snd 0 108 h0 (miT TbC) RX1 cX1_putBits 4 none 43 (i_aload 44 0) := snd_aload_n rfl dX1_putBits_43
theorem sX1_putBits_44 {h0 : Hp_} : Snd 0 108 h0 (miT TbC) RX1 cX1_putBits 4 none 44 (i_aload 45 0) := snd_aload_n rfl dX1_putBits_44
theorem sX1_putBits_45 {h0 : Hp_} : Snd 0 108 h0 (miT TbC) RX1 cX1_putBits 4 none 45 (i_getI 1 1 48) := snd_getI hl0 (fun hK ho hs hv kk => gf_X1_15 hK ho hs hv dX1_putBits_45 kk)
theorem sX1_putBits_48 {h0 : Hp_} : Snd 0 108 h0 (miT TbC) RX1 cX1_putBits 4 none 48 (i_const 49 (vI 1)) := snd_iconst dX1_putBits_48
theorem sX1_putBits_49 {h0 : Hp_} : Snd 0 108 h0 (miT TbC) RX1 cX1_putBits 4 none 49 (i_isub 50) := snd_isub dX1_putBits_49
theorem sX1_putBits_50 {h0 : Hp_} : Snd 0 108 h0 (miT TbC) RX1 cX1_putBits 4 none 50 (i_cV1 22 1 53) := snd_cV1 (fun hK hd hC ho hs h6 h7 h8 kk => iv_X1_26 hK (mcC_22 hC) ho hs ⟨hd, by show _ ≤ 40 * (_ + 1); omega⟩ (Nat.le_refl _) h6 h7 h8 ⟨Nat.le_refl _, Nat.le_refl _⟩ dX1_putBits_50 kk)
theorem sX1_putBits_53 {h0 : Hp_} : Snd 0 108 h0 (miT TbC) RX1 cX1_putBits 4 none 53 (i_iload 54 1) := snd_iload_n rfl dX1_putBits_53
theorem sX1_putBits_54 {h0 : Hp_} : Snd 0 108 h0 (miT TbC) RX1 cX1_putBits 4 none 54 (i_iload 55 3) := snd_iload_n rfl dX1_putBits_54
theorem sX1_putBits_55 {h0 : Hp_} : Snd 0 108 h0 (miT TbC) RX1 cX1_putBits 4 none 55 (i_ishr 56) := snd_ishr dX1_putBits_55
theorem sX1_putBits_56 {h0 : Hp_} : Snd 0 108 h0 (miT TbC) RX1 cX1_putBits 4 none 56 (i_const 57 (vI 1)) := snd_iconst dX1_putBits_56
theorem sX1_putBits_57 {h0 : Hp_} : Snd 0 108 h0 (miT TbC) RX1 cX1_putBits 4 none 57 (i_iand 58) := snd_iand dX1_putBits_57
theorem sX1_putBits_58 {h0 : Hp_} : Snd 0 108 h0 (miT TbC) RX1 cX1_putBits 4 none 58 (i_aload 59 0) := snd_aload_n rfl dX1_putBits_58
theorem sX1_putBits_59 {h0 : Hp_} : Snd 0 108 h0 (miT TbC) RX1 cX1_putBits 4 none 59 (i_getI 1 2 62) := snd_getI hl0 (fun hK ho hs hv kk => gf_X1_19 hK ho hs hv dX1_putBits_59 kk)
theorem sX1_putBits_62 {h0 : Hp_} : Snd 0 108 h0 (miT TbC) RX1 cX1_putBits 4 none 62 (i_ishl 63) := snd_ishl dX1_putBits_62
theorem sX1_putBits_63 {h0 : Hp_} : Snd 0 108 h0 (miT TbC) RX1 cX1_putBits 4 none 63 (i_ior 64) := snd_ior dX1_putBits_63
theorem sX1_putBits_64 {h0 : Hp_} : Snd 0 108 h0 (miT TbC) RX1 cX1_putBits 4 none 64 (i_cV2 28 1 67) := snd_cV2 (fun hK hd hC ho hs h6 h7 h8 kk => iv_X1_34 hK (mcC_28 hC) ho hs ⟨hd, by show _ ≤ 40 * (_ + 1); omega⟩ (Nat.le_refl _) h6 h7 h8 ⟨Nat.le_refl _, Nat.le_refl _⟩ dX1_putBits_64 kk)
theorem sX1_putBits_67 {h0 : Hp_} : Snd 0 108 h0 (miT TbC) RX1 cX1_putBits 4 none 67 (i_iinc 70 3 (-1)) := snd_iinc (by decide) dX1_putBits_67
theorem sX1_putBits_70 {h0 : Hp_} : Snd 0 108 h0 (miT TbC) RX1 cX1_putBits 4 none 70 (i_goto 4) := snd_goto dX1_putBits_70 rfl
theorem sX1_putBits_73 {h0 : Hp_} : Snd 0 108 h0 (miT TbC) RX1 cX1_putBits 4 none 73 (i_vret) := snd_vret dX1_putBits_73
theorem kX1_putBits {h0 : Hp_} : raA (okI 0 108 h0 (miT TbC) (yX1_putBits, cX1_putBits, 4, none)) tX1_putBits := (raA_br (raA_br (raA_br (raA_br (raA_br (raA_leaf sX1_putBits_0) (raA_leaf sX1_putBits_1)) (raA_br (raA_leaf sX1_putBits_2) (raA_br (raA_leaf sX1_putBits_3) (raA_leaf sX1_putBits_4)))) (raA_br (raA_br (raA_leaf sX1_putBits_5) (raA_br (raA_leaf sX1_putBits_8) (raA_leaf sX1_putBits_9))) (raA_br (raA_leaf sX1_putBits_12) (raA_br (raA_leaf sX1_putBits_15) (raA_leaf sX1_putBits_16))))) (raA_br (raA_br (raA_br (raA_leaf sX1_putBits_17) (raA_leaf sX1_putBits_20)) (raA_br (raA_leaf sX1_putBits_21) (raA_br (raA_leaf sX1_putBits_23) (raA_leaf sX1_putBits_26)))) (raA_br (raA_br (raA_leaf sX1_putBits_27) (raA_br (raA_leaf sX1_putBits_28) (raA_leaf sX1_putBits_31))) (raA_br (raA_leaf sX1_putBits_32) (raA_br (raA_leaf sX1_putBits_33) (raA_leaf sX1_putBits_36)))))) (raA_br (raA_br (raA_br (raA_br (raA_leaf sX1_putBits_37) (raA_leaf sX1_putBits_38)) (raA_br (raA_leaf sX1_putBits_41) (raA_br (raA_leaf sX1_putBits_42) (raA_leaf sX1_putBits_43)))) (raA_br (raA_br (raA_leaf sX1_putBits_44) (raA_br (raA_leaf sX1_putBits_45) (raA_leaf sX1_putBits_48))) (raA_br (raA_leaf sX1_putBits_49) (raA_br (raA_leaf sX1_putBits_50) (raA_leaf sX1_putBits_53))))) (raA_br (raA_br (raA_br (raA_leaf sX1_putBits_54) (raA_br (raA_leaf sX1_putBits_55) (raA_leaf sX1_putBits_56))) (raA_br (raA_leaf sX1_putBits_57) (raA_br (raA_leaf sX1_putBits_58) (raA_leaf sX1_putBits_59)))) (raA_br (raA_br (raA_leaf sX1_putBits_62) (raA_br (raA_leaf sX1_putBits_63) (raA_leaf sX1_putBits_64))) (raA_br (raA_leaf sX1_putBits_67) (raA_br (raA_leaf sX1_putBits_70) (raA_leaf sX1_putBits_73)))))))
theorem sX1_set_0 {h0 : Hp_} : Snd 0 108 h0 (miT TbC) RX1 cX1_set 3 none 0 (i_aload 1 0) := snd_aload_n rfl dX1_set_0
theorem sX1_set_1 {h0 : Hp_} : Snd 0 108 h0 (miT TbC) RX1 cX1_set 3 none 1 (i_iload 2 1) := snd_iload_n rfl dX1_set_1
theorem sX1_set_2 {h0 : Hp_} : Snd 0 108 h0 (miT TbC) RX1 cX1_set 3 none 2 (i_cV1 25 1 5) := snd_cV1 (fun hK hd hC ho hs h6 h7 h8 kk => iv_X1_22 hK (mcC_25 hC) ho hs ⟨hd, by show _ ≤ 40 * (_ + 1); omega⟩ (Nat.le_refl _) h6 h7 h8 ⟨Nat.le_refl _, Nat.le_refl _⟩ dX1_set_2 kk)
theorem sX1_set_5 {h0 : Hp_} : Snd 0 108 h0 (miT TbC) RX1 cX1_set 3 none 5 (i_if_eq 8 15) := snd_if_eq dX1_set_5 rfl
theorem sX1_set_8 {h0 : Hp_} : Snd 0 108 h0 (miT TbC) RX1 cX1_set 3 none 8 (i_aload 9 0) := snd_aload_n rfl dX1_set_8
theorem sX1_set_9 {h0 : Hp_} : Snd 0 108 h0 (miT TbC) RX1 cX1_set 3 none 9 (i_getR 1 0 12) := snd_getR rfl (by decide) (by decide) (by decide) (fun hK ho hs hq kk => gf_X1_9 hK ho hs hq rfl dX1_set_9 kk)
theorem sX1_set_12 {h0 : Hp_} : Snd 0 108 h0 (miT TbC) RX1 cX1_set 3 none 12 (i_iload 13 1) := snd_iload_n rfl dX1_set_12
theorem sX1_set_13 {h0 : Hp_} : Snd 0 108 h0 (miT TbC) RX1 cX1_set 3 none 13 (i_iload 14 2) := snd_iload_n rfl dX1_set_13
theorem sX1_set_14 {h0 : Hp_} : Snd 0 108 h0 (miT TbC) RX1 cX1_set 3 none 14 (i_iast 0 108 15) := snd_iast dX1_set_14
theorem sX1_set_15 {h0 : Hp_} : Snd 0 108 h0 (miT TbC) RX1 cX1_set 3 none 15 (i_vret) := snd_vret dX1_set_15
theorem kX1_set {h0 : Hp_} : raA (okI 0 108 h0 (miT TbC) (yX1_set, cX1_set, 3, none)) tX1_set := (raA_br (raA_br (raA_br (raA_leaf sX1_set_0) (raA_leaf sX1_set_1)) (raA_br (raA_leaf sX1_set_2) (raA_br (raA_leaf sX1_set_5) (raA_leaf sX1_set_8)))) (raA_br (raA_br (raA_leaf sX1_set_9) (raA_leaf sX1_set_12)) (raA_br (raA_leaf sX1_set_13) (raA_br (raA_leaf sX1_set_14) (raA_leaf sX1_set_15)))))
theorem sX2_begin_0 {h0 : Hp_} : Snd 0 108 h0 (miT TbC) RX2 cX2_begin 1 none 0 (i_aload 1 0) := snd_aload_n rfl dX2_begin_0
theorem sX2_begin_1 {h0 : Hp_} : Snd 0 108 h0 (miT TbC) RX2 cX2_begin 1 none 1 (i_getR 2 1 4) := snd_getR rfl (by decide) (by decide) (by decide) (fun hK ho hs hq kk => gf_X2_13 hK ho hs hq rfl dX2_begin_1 kk)
theorem sX2_begin_4 {h0 : Hp_} : Snd 0 108 h0 (miT TbC) RX2 cX2_begin 1 none 4 (i_const 5 (vI 0)) := snd_iconst dX2_begin_4
theorem sX2_begin_5 {h0 : Hp_} : Snd 0 108 h0 (miT TbC) RX2 cX2_begin 1 none 5 (i_cS2 1 8) := snd_cS2 (fun hK hd hC h6 h7 h8 kk => iv_X2_16 hK (mcC_1 hC) ⟨hd, by show _ ≤ 40 * (_ + 1); omega⟩ (Nat.le_refl _) h6 h7 h8 ⟨Nat.le_refl _, Nat.le_refl _⟩ dX2_begin_5 kk)
theorem sX2_begin_8 {h0 : Hp_} : Snd 0 108 h0 (miT TbC) RX2 cX2_begin 1 none 8 (i_aload 9 0) := snd_aload_n rfl dX2_begin_8
theorem sX2_begin_9 {h0 : Hp_} : Snd 0 108 h0 (miT TbC) RX2 cX2_begin 1 none 9 (i_getR 2 0 12) := snd_getR rfl (by decide) (by decide) (by decide) (fun hK ho hs hq kk => gf_X2_9 hK ho hs hq rfl dX2_begin_9 kk)
theorem sX2_begin_12 {h0 : Hp_} : Snd 0 108 h0 (miT TbC) RX2 cX2_begin 1 none 12 (i_const 13 (vI 0)) := snd_iconst dX2_begin_12
theorem sX2_begin_13 {h0 : Hp_} : Snd 0 108 h0 (miT TbC) RX2 cX2_begin 1 none 13 (i_cS2 1 16) := snd_cS2 (fun hK hd hC h6 h7 h8 kk => iv_X2_16 hK (mcC_1 hC) ⟨hd, by show _ ≤ 40 * (_ + 1); omega⟩ (Nat.le_refl _) h6 h7 h8 ⟨Nat.le_refl _, Nat.le_refl _⟩ dX2_begin_13 kk)
theorem sX2_begin_16 {h0 : Hp_} : Snd 0 108 h0 (miT TbC) RX2 cX2_begin 1 none 16 (i_aload 17 0) := snd_aload_n rfl dX2_begin_16
theorem sX2_begin_17 {h0 : Hp_} : Snd 0 108 h0 (miT TbC) RX2 cX2_begin 1 none 17 (i_getR 2 0 20) := snd_getR rfl (by decide) (by decide) (by decide) (fun hK ho hs hq kk => gf_X2_9 hK ho hs hq rfl dX2_begin_17 kk)
theorem sX2_begin_20 {h0 : Hp_} : Snd 0 108 h0 (miT TbC) RX2 cX2_begin 1 none 20 (i_const 21 (vI 0)) := snd_iconst dX2_begin_20
theorem sX2_begin_21 {h0 : Hp_} : Snd 0 108 h0 (miT TbC) RX2 cX2_begin 1 none 21 (i_const 22 (vI 4)) := snd_iconst dX2_begin_21
theorem sX2_begin_22 {h0 : Hp_} : Snd 0 108 h0 (miT TbC) RX2 cX2_begin 1 none 22 (i_iast 0 108 23) := snd_iast dX2_begin_22
theorem sX2_begin_23 {h0 : Hp_} : Snd 0 108 h0 (miT TbC) RX2 cX2_begin 1 none 23 (i_aload 24 0) := snd_aload_n rfl dX2_begin_23
theorem sX2_begin_24 {h0 : Hp_} : Snd 0 108 h0 (miT TbC) RX2 cX2_begin 1 none 24 (i_getR 2 0 27) := snd_getR rfl (by decide) (by decide) (by decide) (fun hK ho hs hq kk => gf_X2_9 hK ho hs hq rfl dX2_begin_24 kk)
theorem sX2_begin_27 {h0 : Hp_} : Snd 0 108 h0 (miT TbC) RX2 cX2_begin 1 none 27 (i_const 29 (vI 17)) := snd_bipush (by decide) dX2_begin_27
theorem sX2_begin_29 {h0 : Hp_} : Snd 0 108 h0 (miT TbC) RX2 cX2_begin 1 none 29 (i_const 30 (vI 3)) := snd_iconst dX2_begin_29
theorem sX2_begin_30 {h0 : Hp_} : Snd 0 108 h0 (miT TbC) RX2 cX2_begin 1 none 30 (i_iast 0 108 31) := snd_iast dX2_begin_30
theorem sX2_begin_31 {h0 : Hp_} : Snd 0 108 h0 (miT TbC) RX2 cX2_begin 1 none 31 (i_aload 32 0) := snd_aload_n rfl dX2_begin_31
theorem sX2_begin_32 {h0 : Hp_} : Snd 0 108 h0 (miT TbC) RX2 cX2_begin 1 none 32 (i_getR 2 0 35) := snd_getR rfl (by decide) (by decide) (by decide) (fun hK ho hs hq kk => gf_X2_9 hK ho hs hq rfl dX2_begin_32 kk)
theorem sX2_begin_35 {h0 : Hp_} : Snd 0 108 h0 (miT TbC) RX2 cX2_begin 1 none 35 (i_const 37 (vI 18)) := snd_bipush (by decide) dX2_begin_35
theorem sX2_begin_37 {h0 : Hp_} : Snd 0 108 h0 (miT TbC) RX2 cX2_begin 1 none 37 (i_const 39 (vI 46)) := snd_bipush (by decide) dX2_begin_37
theorem sX2_begin_39 {h0 : Hp_} : Snd 0 108 h0 (miT TbC) RX2 cX2_begin 1 none 39 (i_iast 0 108 40) := snd_iast dX2_begin_39
theorem sX2_begin_40 {h0 : Hp_} : Snd 0 108 h0 (miT TbC) RX2 cX2_begin 1 none 40 (i_vret) := snd_vret dX2_begin_40
theorem kX2_begin {h0 : Hp_} : raA (okI 0 108 h0 (miT TbC) (yX2_begin, cX2_begin, 1, none)) tX2_begin := (raA_br (raA_br (raA_br (raA_br (raA_leaf sX2_begin_0) (raA_br (raA_leaf sX2_begin_1) (raA_leaf sX2_begin_4))) (raA_br (raA_leaf sX2_begin_5) (raA_br (raA_leaf sX2_begin_8) (raA_leaf sX2_begin_9)))) (raA_br (raA_br (raA_leaf sX2_begin_12) (raA_br (raA_leaf sX2_begin_13) (raA_leaf sX2_begin_16))) (raA_br (raA_leaf sX2_begin_17) (raA_br (raA_leaf sX2_begin_20) (raA_leaf sX2_begin_21))))) (raA_br (raA_br (raA_br (raA_leaf sX2_begin_22) (raA_br (raA_leaf sX2_begin_23) (raA_leaf sX2_begin_24))) (raA_br (raA_leaf sX2_begin_27) (raA_br (raA_leaf sX2_begin_29) (raA_leaf sX2_begin_30)))) (raA_br (raA_br (raA_leaf sX2_begin_31) (raA_br (raA_leaf sX2_begin_32) (raA_leaf sX2_begin_35))) (raA_br (raA_leaf sX2_begin_37) (raA_br (raA_leaf sX2_begin_39) (raA_leaf sX2_begin_40))))))
theorem sX2_learn_0 {h0 : Hp_} : Snd 0 108 h0 (miT TbC) RX2 cX2_learn 4 none 0 (i_aload 1 0) := snd_aload_n rfl dX2_learn_0
theorem sX2_learn_1 {h0 : Hp_} : Snd 0 108 h0 (miT TbC) RX2 cX2_learn 4 none 1 (i_getR 2 0 4) := snd_getR rfl (by decide) (by decide) (by decide) (fun hK ho hs hq kk => gf_X2_9 hK ho hs hq rfl dX2_learn_1 kk)
theorem sX2_learn_4 {h0 : Hp_} : Snd 0 108 h0 (miT TbC) RX2 cX2_learn 4 none 4 (i_iload 5 1) := snd_iload_n rfl dX2_learn_4
theorem sX2_learn_5 {h0 : Hp_} : Snd 0 108 h0 (miT TbC) RX2 cX2_learn 4 none 5 (i_iald 0 108 6) := snd_iald dX2_learn_5
theorem sX2_learn_6 {h0 : Hp_} : Snd 0 108 h0 (miT TbC) RX2 cX2_learn 4 none 6 (i_istore 7 3) := snd_istore_n rfl (by decide) dX2_learn_6
theorem sX2_learn_7 {h0 : Hp_} : Snd 0 108 h0 (miT TbC) RX2 cX2_learn 4 none 7 (i_iload 8 2) := snd_iload_n rfl dX2_learn_7
theorem sX2_learn_8 {h0 : Hp_} : Snd 0 108 h0 (miT TbC) RX2 cX2_learn 4 none 8 (i_aload 9 0) := snd_aload_n rfl dX2_learn_8
theorem sX2_learn_9 {h0 : Hp_} : Snd 0 108 h0 (miT TbC) RX2 cX2_learn 4 none 9 (i_getR 2 1 12) := snd_getR rfl (by decide) (by decide) (by decide) (fun hK ho hs hq kk => gf_X2_13 hK ho hs hq rfl dX2_learn_9 kk)
theorem sX2_learn_12 {h0 : Hp_} : Snd 0 108 h0 (miT TbC) RX2 cX2_learn 4 none 12 (i_iload 13 1) := snd_iload_n rfl dX2_learn_12
theorem sX2_learn_13 {h0 : Hp_} : Snd 0 108 h0 (miT TbC) RX2 cX2_learn 4 none 13 (i_iald 0 108 14) := snd_iald dX2_learn_13
theorem sX2_learn_14 {h0 : Hp_} : Snd 0 108 h0 (miT TbC) RX2 cX2_learn 4 none 14 (i_icmp_ne 17 29) := snd_icmp_ne dX2_learn_14 rfl
theorem sX2_learn_17 {h0 : Hp_} : Snd 0 108 h0 (miT TbC) RX2 cX2_learn 4 none 17 (i_aload 18 0) := snd_aload_n rfl dX2_learn_17
theorem sX2_learn_18 {h0 : Hp_} : Snd 0 108 h0 (miT TbC) RX2 cX2_learn 4 none 18 (i_getR 2 0 21) := snd_getR rfl (by decide) (by decide) (by decide) (fun hK ho hs hq kk => gf_X2_9 hK ho hs hq rfl dX2_learn_18 kk)
theorem sX2_learn_21 {h0 : Hp_} : Snd 0 108 h0 (miT TbC) RX2 cX2_learn 4 none 21 (i_iload 22 1) := snd_iload_n rfl dX2_learn_21
theorem sX2_learn_22 {h0 : Hp_} : Snd 0 108 h0 (miT TbC) RX2 cX2_learn 4 none 22 (i_const 25 (vR 1001)) := snd_gets (i := 1) (by decide) gs_X2_25 dX2_learn_22
theorem sX2_learn_25 {h0 : Hp_} : Snd 0 108 h0 (miT TbC) RX2 cX2_learn 4 none 25 (i_iload 26 3) := snd_iload_n rfl dX2_learn_25
theorem sX2_learn_26 {h0 : Hp_} : Snd 0 108 h0 (miT TbC) RX2 cX2_learn 4 none 26 (i_iald 0 108 27) := snd_iald dX2_learn_26
theorem sX2_learn_27 {h0 : Hp_} : Snd 0 108 h0 (miT TbC) RX2 cX2_learn 4 none 27 (i_iast 0 108 28) := snd_iast dX2_learn_27
theorem sX2_learn_28 {h0 : Hp_} : Snd 0 108 h0 (miT TbC) RX2 cX2_learn 4 none 28 (i_vret) := snd_vret dX2_learn_28
theorem sX2_learn_29 {h0 : Hp_} : Snd 0 108 h0 (miT TbC) RX2 cX2_learn 4 none 29 (i_aload 30 0) := snd_aload_n rfl dX2_learn_29
theorem sX2_learn_30 {h0 : Hp_} : Snd 0 108 h0 (miT TbC) RX2 cX2_learn 4 none 30 (i_getR 2 0 33) := snd_getR rfl (by decide) (by decide) (by decide) (fun hK ho hs hq kk => gf_X2_9 hK ho hs hq rfl dX2_learn_30 kk)
theorem sX2_learn_33 {h0 : Hp_} : Snd 0 108 h0 (miT TbC) RX2 cX2_learn 4 none 33 (i_iload 34 1) := snd_iload_n rfl dX2_learn_33
theorem sX2_learn_34 {h0 : Hp_} : Snd 0 108 h0 (miT TbC) RX2 cX2_learn 4 none 34 (i_const 37 (vR 1002)) := snd_gets (i := 2) (by decide) gs_X2_28 dX2_learn_34
theorem sX2_learn_37 {h0 : Hp_} : Snd 0 108 h0 (miT TbC) RX2 cX2_learn 4 none 37 (i_iload 38 3) := snd_iload_n rfl dX2_learn_37
theorem sX2_learn_38 {h0 : Hp_} : Snd 0 108 h0 (miT TbC) RX2 cX2_learn 4 none 38 (i_iald 0 108 39) := snd_iald dX2_learn_38
theorem sX2_learn_39 {h0 : Hp_} : Snd 0 108 h0 (miT TbC) RX2 cX2_learn 4 none 39 (i_iast 0 108 40) := snd_iast dX2_learn_39
theorem sX2_learn_40 {h0 : Hp_} : Snd 0 108 h0 (miT TbC) RX2 cX2_learn 4 none 40 (i_iload 41 3) := snd_iload_n rfl dX2_learn_40
theorem sX2_learn_41 {h0 : Hp_} : Snd 0 108 h0 (miT TbC) RX2 cX2_learn 4 none 41 (i_if_eq 44 56) := snd_if_eq dX2_learn_41 rfl
theorem sX2_learn_44 {h0 : Hp_} : Snd 0 108 h0 (miT TbC) RX2 cX2_learn 4 none 44 (i_iload 45 3) := snd_iload_n rfl dX2_learn_44
theorem sX2_learn_45 {h0 : Hp_} : Snd 0 108 h0 (miT TbC) RX2 cX2_learn 4 none 45 (i_const 47 (vI 6)) := snd_bipush (by decide) dX2_learn_45
theorem sX2_learn_47 {h0 : Hp_} : Snd 0 108 h0 (miT TbC) RX2 cX2_learn 4 none 47 (i_icmp_eq 50 56) := snd_icmp_eq dX2_learn_47 rfl
theorem sX2_learn_50 {h0 : Hp_} : Snd 0 108 h0 (miT TbC) RX2 cX2_learn 4 none 50 (i_iload 51 3) := snd_iload_n rfl dX2_learn_50
theorem sX2_learn_51 {h0 : Hp_} : Snd 0 108 h0 (miT TbC) RX2 cX2_learn 4 none 51 (i_const 53 (vI 14)) := snd_bipush (by decide) dX2_learn_51
theorem sX2_learn_53 {h0 : Hp_} : Snd 0 108 h0 (miT TbC) RX2 cX2_learn 4 none 53 (i_icmp_ne 56 63) := snd_icmp_ne dX2_learn_53 rfl
theorem sX2_learn_56 {h0 : Hp_} : Snd 0 108 h0 (miT TbC) RX2 cX2_learn 4 none 56 (i_aload 57 0) := snd_aload_n rfl dX2_learn_56
theorem sX2_learn_57 {h0 : Hp_} : Snd 0 108 h0 (miT TbC) RX2 cX2_learn 4 none 57 (i_getR 2 1 60) := snd_getR rfl (by decide) (by decide) (by decide) (fun hK ho hs hq kk => gf_X2_13 hK ho hs hq rfl dX2_learn_57 kk)
theorem sX2_learn_60 {h0 : Hp_} : Snd 0 108 h0 (miT TbC) RX2 cX2_learn 4 none 60 (i_iload 61 1) := snd_iload_n rfl dX2_learn_60
theorem sX2_learn_61 {h0 : Hp_} : Snd 0 108 h0 (miT TbC) RX2 cX2_learn 4 none 61 (i_iload 62 2) := snd_iload_n rfl dX2_learn_61
theorem sX2_learn_62 {h0 : Hp_} : Snd 0 108 h0 (miT TbC) RX2 cX2_learn 4 none 62 (i_iast 0 108 63) := snd_iast dX2_learn_62
theorem sX2_learn_63 {h0 : Hp_} : Snd 0 108 h0 (miT TbC) RX2 cX2_learn 4 none 63 (i_vret) := snd_vret dX2_learn_63
theorem kX2_learn {h0 : Hp_} : raA (okI 0 108 h0 (miT TbC) (yX2_learn, cX2_learn, 4, none)) tX2_learn := (raA_br (raA_br (raA_br (raA_br (raA_br (raA_leaf sX2_learn_0) (raA_leaf sX2_learn_1)) (raA_br (raA_leaf sX2_learn_4) (raA_br (raA_leaf sX2_learn_5) (raA_leaf sX2_learn_6)))) (raA_br (raA_br (raA_leaf sX2_learn_7) (raA_leaf sX2_learn_8)) (raA_br (raA_leaf sX2_learn_9) (raA_br (raA_leaf sX2_learn_12) (raA_leaf sX2_learn_13))))) (raA_br (raA_br (raA_br (raA_leaf sX2_learn_14) (raA_leaf sX2_learn_17)) (raA_br (raA_leaf sX2_learn_18) (raA_br (raA_leaf sX2_learn_21) (raA_leaf sX2_learn_22)))) (raA_br (raA_br (raA_leaf sX2_learn_25) (raA_leaf sX2_learn_26)) (raA_br (raA_leaf sX2_learn_27) (raA_br (raA_leaf sX2_learn_28) (raA_leaf sX2_learn_29)))))) (raA_br (raA_br (raA_br (raA_br (raA_leaf sX2_learn_30) (raA_leaf sX2_learn_33)) (raA_br (raA_leaf sX2_learn_34) (raA_br (raA_leaf sX2_learn_37) (raA_leaf sX2_learn_38)))) (raA_br (raA_br (raA_leaf sX2_learn_39) (raA_leaf sX2_learn_40)) (raA_br (raA_leaf sX2_learn_41) (raA_br (raA_leaf sX2_learn_44) (raA_leaf sX2_learn_45))))) (raA_br (raA_br (raA_br (raA_leaf sX2_learn_47) (raA_leaf sX2_learn_50)) (raA_br (raA_leaf sX2_learn_51) (raA_br (raA_leaf sX2_learn_53) (raA_leaf sX2_learn_56)))) (raA_br (raA_br (raA_leaf sX2_learn_57) (raA_leaf sX2_learn_60)) (raA_br (raA_leaf sX2_learn_61) (raA_br (raA_leaf sX2_learn_62) (raA_leaf sX2_learn_63)))))))
theorem sX2_likelyBit_0 {h0 : Hp_} : Snd 0 108 h0 (miT TbC) RX2 cX2_likelyBit 2 (some .int) 0 (i_aload 1 0) := snd_aload_n rfl dX2_likelyBit_0
theorem sX2_likelyBit_1 {h0 : Hp_} : Snd 0 108 h0 (miT TbC) RX2 cX2_likelyBit 2 (some .int) 1 (i_getR 2 1 4) := snd_getR rfl (by decide) (by decide) (by decide) (fun hK ho hs hq kk => gf_X2_13 hK ho hs hq rfl dX2_likelyBit_1 kk)
theorem sX2_likelyBit_4 {h0 : Hp_} : Snd 0 108 h0 (miT TbC) RX2 cX2_likelyBit 2 (some .int) 4 (i_iload 5 1) := snd_iload_n rfl dX2_likelyBit_4
theorem sX2_likelyBit_5 {h0 : Hp_} : Snd 0 108 h0 (miT TbC) RX2 cX2_likelyBit 2 (some .int) 5 (i_iald 0 108 6) := snd_iald dX2_likelyBit_5
theorem sX2_likelyBit_6 {h0 : Hp_} : Snd 0 108 h0 (miT TbC) RX2 cX2_likelyBit 2 (some .int) 6 (i_iret) := snd_iret dX2_likelyBit_6
theorem kX2_likelyBit {h0 : Hp_} : raA (okI 0 108 h0 (miT TbC) (yX2_likelyBit, cX2_likelyBit, 2, (some .int))) tX2_likelyBit := (raA_br (raA_br (raA_leaf sX2_likelyBit_0) (raA_leaf sX2_likelyBit_1)) (raA_br (raA_leaf sX2_likelyBit_4) (raA_br (raA_leaf sX2_likelyBit_5) (raA_leaf sX2_likelyBit_6))))
theorem sX2_sizeOf_0 {h0 : Hp_} : Snd 0 108 h0 (miT TbC) RX2 cX2_sizeOf 2 (some .int) 0 (i_const 3 (vR 1000)) := snd_gets (i := 0) (by decide) gs_X2_22 dX2_sizeOf_0
theorem sX2_sizeOf_3 {h0 : Hp_} : Snd 0 108 h0 (miT TbC) RX2 cX2_sizeOf 2 (some .int) 3 (i_aload 4 0) := snd_aload_n rfl dX2_sizeOf_3
theorem sX2_sizeOf_4 {h0 : Hp_} : Snd 0 108 h0 (miT TbC) RX2 cX2_sizeOf 2 (some .int) 4 (i_getR 2 0 7) := snd_getR rfl (by decide) (by decide) (by decide) (fun hK ho hs hq kk => gf_X2_9 hK ho hs hq rfl dX2_sizeOf_4 kk)
theorem sX2_sizeOf_7 {h0 : Hp_} : Snd 0 108 h0 (miT TbC) RX2 cX2_sizeOf 2 (some .int) 7 (i_iload 8 1) := snd_iload_n rfl dX2_sizeOf_7
theorem sX2_sizeOf_8 {h0 : Hp_} : Snd 0 108 h0 (miT TbC) RX2 cX2_sizeOf 2 (some .int) 8 (i_iald 0 108 9) := snd_iald dX2_sizeOf_8
theorem sX2_sizeOf_9 {h0 : Hp_} : Snd 0 108 h0 (miT TbC) RX2 cX2_sizeOf 2 (some .int) 9 (i_iald 0 108 10) := snd_iald dX2_sizeOf_9
theorem sX2_sizeOf_10 {h0 : Hp_} : Snd 0 108 h0 (miT TbC) RX2 cX2_sizeOf 2 (some .int) 10 (i_iret) := snd_iret dX2_sizeOf_10
theorem kX2_sizeOf {h0 : Hp_} : raA (okI 0 108 h0 (miT TbC) (yX2_sizeOf, cX2_sizeOf, 2, (some .int))) tX2_sizeOf := (raA_br (raA_br (raA_leaf sX2_sizeOf_0) (raA_br (raA_leaf sX2_sizeOf_3) (raA_leaf sX2_sizeOf_4))) (raA_br (raA_br (raA_leaf sX2_sizeOf_7) (raA_leaf sX2_sizeOf_8)) (raA_br (raA_leaf sX2_sizeOf_9) (raA_leaf sX2_sizeOf_10))))
theorem sX3_findLeasts_0 {h0 : Hp_} : Snd 0 108 h0 (miT TbC) RX3 cX3_findLeasts 7 none 0 (i_iload 1 1) := snd_iload_n rfl dX3_findLeasts_0
theorem sX3_findLeasts_1 {h0 : Hp_} : Snd 0 108 h0 (miT TbC) RX3 cX3_findLeasts 7 none 1 (i_const 3 (vI 35)) := snd_bipush (by decide) dX3_findLeasts_1
theorem sX3_findLeasts_3 {h0 : Hp_} : Snd 0 108 h0 (miT TbC) RX3 cX3_findLeasts 7 none 3 (i_imul 4) := snd_imul dX3_findLeasts_3
theorem sX3_findLeasts_4 {h0 : Hp_} : Snd 0 108 h0 (miT TbC) RX3 cX3_findLeasts 7 none 4 (i_istore 5 2) := snd_istore_n rfl (by decide) dX3_findLeasts_4
theorem sX3_findLeasts_5 {h0 : Hp_} : Snd 0 108 h0 (miT TbC) RX3 cX3_findLeasts 7 none 5 (i_aload 6 0) := snd_aload_n rfl dX3_findLeasts_5
theorem sX3_findLeasts_6 {h0 : Hp_} : Snd 0 108 h0 (miT TbC) RX3 cX3_findLeasts 7 none 6 (i_getR 3 1 9) := snd_getR rfl (by decide) (by decide) (by decide) (fun hK ho hs hq kk => gf_X3_18 hK ho hs hq rfl dX3_findLeasts_6 kk)
theorem sX3_findLeasts_9 {h0 : Hp_} : Snd 0 108 h0 (miT TbC) RX3 cX3_findLeasts 7 none 9 (i_iload 10 1) := snd_iload_n rfl dX3_findLeasts_9
theorem sX3_findLeasts_10 {h0 : Hp_} : Snd 0 108 h0 (miT TbC) RX3 cX3_findLeasts 7 none 10 (i_iald 0 108 11) := snd_iald dX3_findLeasts_10
theorem sX3_findLeasts_11 {h0 : Hp_} : Snd 0 108 h0 (miT TbC) RX3 cX3_findLeasts 7 none 11 (i_cS1 19 14) := snd_cS1 (fun hK hd hC h6 h7 h8 kk => iv_X3_85 hK (mcC_19 hC) ⟨hd, by show _ ≤ 40 * (_ + 1); omega⟩ (Nat.le_refl _) h6 h7 h8 ⟨Nat.le_refl _, Nat.le_refl _⟩ dX3_findLeasts_11 kk)
theorem sX3_findLeasts_14 {h0 : Hp_} : Snd 0 108 h0 (miT TbC) RX3 cX3_findLeasts 7 none 14 (i_istore 15 3) := snd_istore_n rfl (by decide) dX3_findLeasts_14
theorem sX3_findLeasts_15 {h0 : Hp_} : Snd 0 108 h0 (miT TbC) RX3 cX3_findLeasts 7 none 15 (i_aload 16 0) := snd_aload_n rfl dX3_findLeasts_15
theorem sX3_findLeasts_16 {h0 : Hp_} : Snd 0 108 h0 (miT TbC) RX3 cX3_findLeasts 7 none 16 (i_getR 3 4 19) := snd_getR rfl (by decide) (by decide) (by decide) (fun hK ho hs hq kk => gf_X3_28 hK ho hs hq rfl dX3_findLeasts_16 kk)
theorem sX3_findLeasts_19 {h0 : Hp_} : Snd 0 108 h0 (miT TbC) RX3 cX3_findLeasts 7 none 19 (i_iload 20 2) := snd_iload_n rfl dX3_findLeasts_19
theorem sX3_findLeasts_20 {h0 : Hp_} : Snd 0 108 h0 (miT TbC) RX3 cX3_findLeasts 7 none 20 (i_const 21 (vI 0)) := snd_iconst dX3_findLeasts_20
theorem sX3_findLeasts_21 {h0 : Hp_} : Snd 0 108 h0 (miT TbC) RX3 cX3_findLeasts 7 none 21 (i_iast 0 108 22) := snd_iast dX3_findLeasts_21
theorem sX3_findLeasts_22 {h0 : Hp_} : Snd 0 108 h0 (miT TbC) RX3 cX3_findLeasts 7 none 22 (i_aload 23 0) := snd_aload_n rfl dX3_findLeasts_22
theorem sX3_findLeasts_23 {h0 : Hp_} : Snd 0 108 h0 (miT TbC) RX3 cX3_findLeasts 7 none 23 (i_getR 3 11 26) := snd_getR rfl (by decide) (by decide) (by decide) (fun hK ho hs hq kk => gf_X3_70 hK ho hs hq rfl dX3_findLeasts_23 kk)
theorem sX3_findLeasts_26 {h0 : Hp_} : Snd 0 108 h0 (miT TbC) RX3 cX3_findLeasts 7 none 26 (i_cV0 63 6 29) := snd_cV0 (fun hK hd hC ho hs h6 h7 h8 kk => iv_X3_187 hK (mcC_63 hC) ho hs ⟨hd, by show _ ≤ 40 * (_ + 1); omega⟩ (Nat.le_refl _) h6 h7 h8 ⟨Nat.le_refl _, Nat.le_refl _⟩ dX3_findLeasts_26 kk)
theorem sX3_findLeasts_29 {h0 : Hp_} : Snd 0 108 h0 (miT TbC) RX3 cX3_findLeasts 7 none 29 (i_aload 30 0) := snd_aload_n rfl dX3_findLeasts_29
theorem sX3_findLeasts_30 {h0 : Hp_} : Snd 0 108 h0 (miT TbC) RX3 cX3_findLeasts 7 none 30 (i_getR 3 11 33) := snd_getR rfl (by decide) (by decide) (by decide) (fun hK ho hs hq kk => gf_X3_70 hK ho hs hq rfl dX3_findLeasts_30 kk)
theorem sX3_findLeasts_33 {h0 : Hp_} : Snd 0 108 h0 (miT TbC) RX3 cX3_findLeasts 7 none 33 (i_aload 34 0) := snd_aload_n rfl dX3_findLeasts_33
theorem sX3_findLeasts_34 {h0 : Hp_} : Snd 0 108 h0 (miT TbC) RX3 cX3_findLeasts 7 none 34 (i_getR 3 7 37) := snd_getR rfl (by decide) (by decide) (by decide) (fun hK ho hs hq kk => gf_X3_40 hK ho hs hq rfl dX3_findLeasts_34 kk)
theorem sX3_findLeasts_37 {h0 : Hp_} : Snd 0 108 h0 (miT TbC) RX3 cX3_findLeasts 7 none 37 (i_aload 38 0) := snd_aload_n rfl dX3_findLeasts_37
theorem sX3_findLeasts_38 {h0 : Hp_} : Snd 0 108 h0 (miT TbC) RX3 cX3_findLeasts 7 none 38 (i_getR 3 2 41) := snd_getR rfl (by decide) (by decide) (by decide) (fun hK ho hs hq kk => gf_X3_22 hK ho hs hq rfl dX3_findLeasts_38 kk)
theorem sX3_findLeasts_41 {h0 : Hp_} : Snd 0 108 h0 (miT TbC) RX3 cX3_findLeasts 7 none 41 (i_iload 42 1) := snd_iload_n rfl dX3_findLeasts_41
theorem sX3_findLeasts_42 {h0 : Hp_} : Snd 0 108 h0 (miT TbC) RX3 cX3_findLeasts 7 none 42 (i_iald 0 108 43) := snd_iald dX3_findLeasts_42
theorem sX3_findLeasts_43 {h0 : Hp_} : Snd 0 108 h0 (miT TbC) RX3 cX3_findLeasts 7 none 43 (i_aload 44 0) := snd_aload_n rfl dX3_findLeasts_43
theorem sX3_findLeasts_44 {h0 : Hp_} : Snd 0 108 h0 (miT TbC) RX3 cX3_findLeasts 7 none 44 (i_getR 3 3 47) := snd_getR rfl (by decide) (by decide) (by decide) (fun hK ho hs hq kk => gf_X3_25 hK ho hs hq rfl dX3_findLeasts_44 kk)
theorem sX3_findLeasts_47 {h0 : Hp_} : Snd 0 108 h0 (miT TbC) RX3 cX3_findLeasts 7 none 47 (i_iload 48 1) := snd_iload_n rfl dX3_findLeasts_47
theorem sX3_findLeasts_48 {h0 : Hp_} : Snd 0 108 h0 (miT TbC) RX3 cX3_findLeasts 7 none 48 (i_iald 0 108 49) := snd_iald dX3_findLeasts_48
theorem sX3_findLeasts_49 {h0 : Hp_} : Snd 0 108 h0 (miT TbC) RX3 cX3_findLeasts 7 none 49 (i_cV3 61 6 52) := snd_cV3 (fun hK hd hC ho hs h6 h7 h8 kk => iv_X3_188 hK (mcC_61 hC) ho hs ⟨hd, by show _ ≤ 40 * (_ + 1); omega⟩ (Nat.le_refl _) h6 h7 h8 ⟨Nat.le_refl _, Nat.le_refl _⟩ dX3_findLeasts_49 kk)
theorem sX3_findLeasts_52 {h0 : Hp_} : Snd 0 108 h0 (miT TbC) RX3 cX3_findLeasts 7 none 52 (i_const 53 (vI 0)) := snd_iconst dX3_findLeasts_52
theorem sX3_findLeasts_53 {h0 : Hp_} : Snd 0 108 h0 (miT TbC) RX3 cX3_findLeasts 7 none 53 (i_istore 55 4) := snd_istore (by decide) dX3_findLeasts_53
theorem sX3_findLeasts_55 {h0 : Hp_} : Snd 0 108 h0 (miT TbC) RX3 cX3_findLeasts 7 none 55 (i_const 56 (vI 0)) := snd_iconst dX3_findLeasts_55
theorem sX3_findLeasts_56 {h0 : Hp_} : Snd 0 108 h0 (miT TbC) RX3 cX3_findLeasts 7 none 56 (i_istore 58 5) := snd_istore (by decide) dX3_findLeasts_56
theorem sX3_findLeasts_58 {h0 : Hp_} : Snd 0 108 h0 (miT TbC) RX3 cX3_findLeasts 7 none 58 (i_iload 60 5) := snd_iload dX3_findLeasts_58
theorem sX3_findLeasts_60 {h0 : Hp_} : Snd 0 108 h0 (miT TbC) RX3 cX3_findLeasts 7 none 60 (i_aload 61 0) := snd_aload_n rfl dX3_findLeasts_60
theorem sX3_findLeasts_61 {h0 : Hp_} : Snd 0 108 h0 (miT TbC) RX3 cX3_findLeasts 7 none 61 (i_getR 3 3 64) := snd_getR rfl (by decide) (by decide) (by decide) (fun hK ho hs hq kk => gf_X3_25 hK ho hs hq rfl dX3_findLeasts_61 kk)
theorem sX3_findLeasts_64 {h0 : Hp_} : Snd 0 108 h0 (miT TbC) RX3 cX3_findLeasts 7 none 64 (i_iload 65 1) := snd_iload_n rfl dX3_findLeasts_64
theorem sX3_findLeasts_65 {h0 : Hp_} : Snd 0 108 h0 (miT TbC) RX3 cX3_findLeasts 7 none 65 (i_iald 0 108 66) := snd_iald dX3_findLeasts_65
theorem sX3_findLeasts_66 {h0 : Hp_} : Snd 0 108 h0 (miT TbC) RX3 cX3_findLeasts 7 none 66 (i_icmp_gt 69 127) := snd_icmp_gt dX3_findLeasts_66 rfl
theorem sX3_findLeasts_69 {h0 : Hp_} : Snd 0 108 h0 (miT TbC) RX3 cX3_findLeasts 7 none 69 (i_iload 71 4) := snd_iload dX3_findLeasts_69
theorem sX3_findLeasts_71 {h0 : Hp_} : Snd 0 108 h0 (miT TbC) RX3 cX3_findLeasts 7 none 71 (i_iload 72 3) := snd_iload_n rfl dX3_findLeasts_71
theorem sX3_findLeasts_72 {h0 : Hp_} : Snd 0 108 h0 (miT TbC) RX3 cX3_findLeasts 7 none 72 (i_icmp_ge 75 127) := snd_icmp_ge dX3_findLeasts_72 rfl
theorem sX3_findLeasts_75 {h0 : Hp_} : Snd 0 108 h0 (miT TbC) RX3 cX3_findLeasts 7 none 75 (i_aload 76 0) := snd_aload_n rfl dX3_findLeasts_75
theorem sX3_findLeasts_76 {h0 : Hp_} : Snd 0 108 h0 (miT TbC) RX3 cX3_findLeasts 7 none 76 (i_getR 3 11 79) := snd_getR rfl (by decide) (by decide) (by decide) (fun hK ho hs hq kk => gf_X3_70 hK ho hs hq rfl dX3_findLeasts_76 kk)
theorem sX3_findLeasts_79 {h0 : Hp_} : Snd 0 108 h0 (miT TbC) RX3 cX3_findLeasts 7 none 79 (i_iload 81 5) := snd_iload dX3_findLeasts_79
theorem sX3_findLeasts_81 {h0 : Hp_} : Snd 0 108 h0 (miT TbC) RX3 cX3_findLeasts 7 none 81 (i_cV1 62 6 84) := snd_cV1 (fun hK hd hC ho hs h6 h7 h8 kk => iv_X3_192 hK (mcC_62 hC) ho hs ⟨hd, by show _ ≤ 40 * (_ + 1); omega⟩ (Nat.le_refl _) h6 h7 h8 ⟨Nat.le_refl _, Nat.le_refl _⟩ dX3_findLeasts_81 kk)
theorem sX3_findLeasts_84 {h0 : Hp_} : Snd 0 108 h0 (miT TbC) RX3 cX3_findLeasts 7 none 84 (i_aload 85 0) := snd_aload_n rfl dX3_findLeasts_84
theorem sX3_findLeasts_85 {h0 : Hp_} : Snd 0 108 h0 (miT TbC) RX3 cX3_findLeasts 7 none 85 (i_getR 3 8 88) := snd_getR rfl (by decide) (by decide) (by decide) (fun hK ho hs hq kk => gf_X3_47 hK ho hs hq rfl dX3_findLeasts_85 kk)
theorem sX3_findLeasts_88 {h0 : Hp_} : Snd 0 108 h0 (miT TbC) RX3 cX3_findLeasts 7 none 88 (i_aload 89 0) := snd_aload_n rfl dX3_findLeasts_88
theorem sX3_findLeasts_89 {h0 : Hp_} : Snd 0 108 h0 (miT TbC) RX3 cX3_findLeasts 7 none 89 (i_getR 3 11 92) := snd_getR rfl (by decide) (by decide) (by decide) (fun hK ho hs hq kk => gf_X3_70 hK ho hs hq rfl dX3_findLeasts_89 kk)
theorem sX3_findLeasts_92 {h0 : Hp_} : Snd 0 108 h0 (miT TbC) RX3 cX3_findLeasts 7 none 92 (i_cV1 68 7 95) := snd_cV1 (fun hK hd hC ho hs h6 h7 h8 kk => iv_X3_194 hK (mcC_68 hC) ho hs ⟨hd, by show _ ≤ 40 * (_ + 1); omega⟩ (Nat.le_refl _) h6 h7 h8 ⟨Nat.le_refl _, Nat.le_refl _⟩ dX3_findLeasts_92 kk)
theorem sX3_findLeasts_95 {h0 : Hp_} : Snd 0 108 h0 (miT TbC) RX3 cX3_findLeasts 7 none 95 (i_istore 97 6) := snd_istore (by decide) dX3_findLeasts_95
theorem sX3_findLeasts_97 {h0 : Hp_} : Snd 0 108 h0 (miT TbC) RX3 cX3_findLeasts 7 none 97 (i_iload 99 4) := snd_iload dX3_findLeasts_97
theorem sX3_findLeasts_99 {h0 : Hp_} : Snd 0 108 h0 (miT TbC) RX3 cX3_findLeasts 7 none 99 (i_iload 101 6) := snd_iload dX3_findLeasts_99
theorem sX3_findLeasts_101 {h0 : Hp_} : Snd 0 108 h0 (miT TbC) RX3 cX3_findLeasts 7 none 101 (i_icmp_ge 104 121) := snd_icmp_ge dX3_findLeasts_101 rfl
theorem sX3_findLeasts_104 {h0 : Hp_} : Snd 0 108 h0 (miT TbC) RX3 cX3_findLeasts 7 none 104 (i_iinc 107 4 1) := snd_iinc (by decide) dX3_findLeasts_104
theorem sX3_findLeasts_107 {h0 : Hp_} : Snd 0 108 h0 (miT TbC) RX3 cX3_findLeasts 7 none 107 (i_aload 108 0) := snd_aload_n rfl dX3_findLeasts_107
theorem sX3_findLeasts_108 {h0 : Hp_} : Snd 0 108 h0 (miT TbC) RX3 cX3_findLeasts 7 none 108 (i_getR 3 4 111) := snd_getR rfl (by decide) (by decide) (by decide) (fun hK ho hs hq kk => gf_X3_28 hK ho hs hq rfl dX3_findLeasts_108 kk)
theorem sX3_findLeasts_111 {h0 : Hp_} : Snd 0 108 h0 (miT TbC) RX3 cX3_findLeasts 7 none 111 (i_iload 112 2) := snd_iload_n rfl dX3_findLeasts_111
theorem sX3_findLeasts_112 {h0 : Hp_} : Snd 0 108 h0 (miT TbC) RX3 cX3_findLeasts 7 none 112 (i_iload 114 4) := snd_iload dX3_findLeasts_112
theorem sX3_findLeasts_114 {h0 : Hp_} : Snd 0 108 h0 (miT TbC) RX3 cX3_findLeasts 7 none 114 (i_iadd 115) := snd_iadd dX3_findLeasts_114
theorem sX3_findLeasts_115 {h0 : Hp_} : Snd 0 108 h0 (miT TbC) RX3 cX3_findLeasts 7 none 115 (i_iload 117 5) := snd_iload dX3_findLeasts_115
theorem sX3_findLeasts_117 {h0 : Hp_} : Snd 0 108 h0 (miT TbC) RX3 cX3_findLeasts 7 none 117 (i_iast 0 108 118) := snd_iast dX3_findLeasts_117
theorem sX3_findLeasts_118 {h0 : Hp_} : Snd 0 108 h0 (miT TbC) RX3 cX3_findLeasts 7 none 118 (i_goto 97) := snd_goto dX3_findLeasts_118 rfl
theorem sX3_findLeasts_121 {h0 : Hp_} : Snd 0 108 h0 (miT TbC) RX3 cX3_findLeasts 7 none 121 (i_iinc 124 5 1) := snd_iinc (by decide) dX3_findLeasts_121
theorem sX3_findLeasts_124 {h0 : Hp_} : Snd 0 108 h0 (miT TbC) RX3 cX3_findLeasts 7 none 124 (i_goto 58) := snd_goto dX3_findLeasts_124 rfl
theorem sX3_findLeasts_127 {h0 : Hp_} : Snd 0 108 h0 (miT TbC) RX3 cX3_findLeasts 7 none 127 (i_vret) := snd_vret dX3_findLeasts_127
theorem kX3_findLeasts {h0 : Hp_} : raA (okI 0 108 h0 (miT TbC) (yX3_findLeasts, cX3_findLeasts, 7, none)) tX3_findLeasts := (raA_br (raA_br (raA_br (raA_br (raA_br (raA_br (raA_leaf sX3_findLeasts_0) (raA_leaf sX3_findLeasts_1)) (raA_br (raA_leaf sX3_findLeasts_3) (raA_leaf sX3_findLeasts_4))) (raA_br (raA_br (raA_leaf sX3_findLeasts_5) (raA_leaf sX3_findLeasts_6)) (raA_br (raA_leaf sX3_findLeasts_9) (raA_leaf sX3_findLeasts_10)))) (raA_br (raA_br (raA_br (raA_leaf sX3_findLeasts_11) (raA_leaf sX3_findLeasts_14)) (raA_br (raA_leaf sX3_findLeasts_15) (raA_leaf sX3_findLeasts_16))) (raA_br (raA_br (raA_leaf sX3_findLeasts_19) (raA_leaf sX3_findLeasts_20)) (raA_br (raA_leaf sX3_findLeasts_21) (raA_br (raA_leaf sX3_findLeasts_22) (raA_leaf sX3_findLeasts_23)))))) (raA_br (raA_br (raA_br (raA_br (raA_leaf sX3_findLeasts_26) (raA_leaf sX3_findLeasts_29)) (raA_br (raA_leaf sX3_findLeasts_30) (raA_leaf sX3_findLeasts_33))) (raA_br (raA_br (raA_leaf sX3_findLeasts_34) (raA_leaf sX3_findLeasts_37)) (raA_br (raA_leaf sX3_findLeasts_38) (raA_leaf sX3_findLeasts_41)))) (raA_br (raA_br (raA_br (raA_leaf sX3_findLeasts_42) (raA_leaf sX3_findLeasts_43)) (raA_br (raA_leaf sX3_findLeasts_44) (raA_leaf sX3_findLeasts_47))) (raA_br (raA_br (raA_leaf sX3_findLeasts_48) (raA_leaf sX3_findLeasts_49)) (raA_br (raA_leaf sX3_findLeasts_52) (raA_br (raA_leaf sX3_findLeasts_53) (raA_leaf sX3_findLeasts_55))))))) (raA_br (raA_br (raA_br (raA_br (raA_br (raA_leaf sX3_findLeasts_56) (raA_leaf sX3_findLeasts_58)) (raA_br (raA_leaf sX3_findLeasts_60) (raA_leaf sX3_findLeasts_61))) (raA_br (raA_br (raA_leaf sX3_findLeasts_64) (raA_leaf sX3_findLeasts_65)) (raA_br (raA_leaf sX3_findLeasts_66) (raA_leaf sX3_findLeasts_69)))) (raA_br (raA_br (raA_br (raA_leaf sX3_findLeasts_71) (raA_leaf sX3_findLeasts_72)) (raA_br (raA_leaf sX3_findLeasts_75) (raA_leaf sX3_findLeasts_76))) (raA_br (raA_br (raA_leaf sX3_findLeasts_79) (raA_leaf sX3_findLeasts_81)) (raA_br (raA_leaf sX3_findLeasts_84) (raA_br (raA_leaf sX3_findLeasts_85) (raA_leaf sX3_findLeasts_88)))))) (raA_br (raA_br (raA_br (raA_br (raA_leaf sX3_findLeasts_89) (raA_leaf sX3_findLeasts_92)) (raA_br (raA_leaf sX3_findLeasts_95) (raA_leaf sX3_findLeasts_97))) (raA_br (raA_br (raA_leaf sX3_findLeasts_99) (raA_leaf sX3_findLeasts_101)) (raA_br (raA_leaf sX3_findLeasts_104) (raA_br (raA_leaf sX3_findLeasts_107) (raA_leaf sX3_findLeasts_108))))) (raA_br (raA_br (raA_br (raA_leaf sX3_findLeasts_111) (raA_leaf sX3_findLeasts_112)) (raA_br (raA_leaf sX3_findLeasts_114) (raA_leaf sX3_findLeasts_115))) (raA_br (raA_br (raA_leaf sX3_findLeasts_117) (raA_leaf sX3_findLeasts_118)) (raA_br (raA_leaf sX3_findLeasts_121) (raA_br (raA_leaf sX3_findLeasts_124) (raA_leaf sX3_findLeasts_127))))))))
theorem sX3_leastLength_0 {h0 : Hp_} : Snd 0 108 h0 (miT TbC) RX3 cX3_leastLength 3 (some .int) 0 (i_aload 1 0) := snd_aload_n rfl dX3_leastLength_0
theorem sX3_leastLength_1 {h0 : Hp_} : Snd 0 108 h0 (miT TbC) RX3 cX3_leastLength 3 (some .int) 1 (i_getR 3 0 4) := snd_getR rfl (by decide) (by decide) (by decide) (fun hK ho hs hq kk => gf_X3_12 hK ho hs hq rfl dX3_leastLength_1 kk)
theorem sX3_leastLength_4 {h0 : Hp_} : Snd 0 108 h0 (miT TbC) RX3 cX3_leastLength 3 (some .int) 4 (i_iload 5 1) := snd_iload_n rfl dX3_leastLength_4
theorem sX3_leastLength_5 {h0 : Hp_} : Snd 0 108 h0 (miT TbC) RX3 cX3_leastLength 3 (some .int) 5 (i_cV1 4 0 8) := snd_cV1 (fun hK hd hC ho hs h6 h7 h8 kk => iv_X3_74 hK (mcC_4 hC) ho hs ⟨hd, by show _ ≤ 40 * (_ + 1); omega⟩ (Nat.le_refl _) h6 h7 h8 ⟨Nat.le_refl _, Nat.le_refl _⟩ dX3_leastLength_5 kk)
theorem sX3_leastLength_8 {h0 : Hp_} : Snd 0 108 h0 (miT TbC) RX3 cX3_leastLength 3 (some .int) 8 (i_if_eq 11 28) := snd_if_eq dX3_leastLength_8 rfl
theorem sX3_leastLength_11 {h0 : Hp_} : Snd 0 108 h0 (miT TbC) RX3 cX3_leastLength 3 (some .int) 11 (i_iload 12 2) := snd_iload_n rfl dX3_leastLength_11
theorem sX3_leastLength_12 {h0 : Hp_} : Snd 0 108 h0 (miT TbC) RX3 cX3_leastLength 3 (some .int) 12 (i_if_lt 15 28) := snd_if_lt dX3_leastLength_12 rfl
theorem sX3_leastLength_15 {h0 : Hp_} : Snd 0 108 h0 (miT TbC) RX3 cX3_leastLength 3 (some .int) 15 (i_iload 16 2) := snd_iload_n rfl dX3_leastLength_15
theorem sX3_leastLength_16 {h0 : Hp_} : Snd 0 108 h0 (miT TbC) RX3 cX3_leastLength 3 (some .int) 16 (i_aload 17 0) := snd_aload_n rfl dX3_leastLength_16
theorem sX3_leastLength_17 {h0 : Hp_} : Snd 0 108 h0 (miT TbC) RX3 cX3_leastLength 3 (some .int) 17 (i_getR 3 1 20) := snd_getR rfl (by decide) (by decide) (by decide) (fun hK ho hs hq kk => gf_X3_18 hK ho hs hq rfl dX3_leastLength_17 kk)
theorem sX3_leastLength_20 {h0 : Hp_} : Snd 0 108 h0 (miT TbC) RX3 cX3_leastLength 3 (some .int) 20 (i_iload 21 1) := snd_iload_n rfl dX3_leastLength_20
theorem sX3_leastLength_21 {h0 : Hp_} : Snd 0 108 h0 (miT TbC) RX3 cX3_leastLength 3 (some .int) 21 (i_iald 0 108 22) := snd_iald dX3_leastLength_21
theorem sX3_leastLength_22 {h0 : Hp_} : Snd 0 108 h0 (miT TbC) RX3 cX3_leastLength 3 (some .int) 22 (i_cS1 19 25) := snd_cS1 (fun hK hd hC h6 h7 h8 kk => iv_X3_85 hK (mcC_19 hC) ⟨hd, by show _ ≤ 40 * (_ + 1); omega⟩ (Nat.le_refl _) h6 h7 h8 ⟨Nat.le_refl _, Nat.le_refl _⟩ dX3_leastLength_22 kk)
theorem sX3_leastLength_25 {h0 : Hp_} : Snd 0 108 h0 (miT TbC) RX3 cX3_leastLength 3 (some .int) 25 (i_icmp_le 28 31) := snd_icmp_le dX3_leastLength_25 rfl
theorem sX3_leastLength_28 {h0 : Hp_} : Snd 0 108 h0 (miT TbC) RX3 cX3_leastLength 3 (some .int) 28 (i_const 30 (vI (-100000))) := snd_ldc lc_X3_78 dX3_leastLength_28
theorem sX3_leastLength_30 {h0 : Hp_} : Snd 0 108 h0 (miT TbC) RX3 cX3_leastLength 3 (some .int) 30 (i_iret) := snd_iret dX3_leastLength_30
theorem sX3_leastLength_31 {h0 : Hp_} : Snd 0 108 h0 (miT TbC) RX3 cX3_leastLength 3 (some .int) 31 (i_aload 32 0) := snd_aload_n rfl dX3_leastLength_31
theorem sX3_leastLength_32 {h0 : Hp_} : Snd 0 108 h0 (miT TbC) RX3 cX3_leastLength 3 (some .int) 32 (i_getR 3 4 35) := snd_getR rfl (by decide) (by decide) (by decide) (fun hK ho hs hq kk => gf_X3_28 hK ho hs hq rfl dX3_leastLength_32 kk)
theorem sX3_leastLength_35 {h0 : Hp_} : Snd 0 108 h0 (miT TbC) RX3 cX3_leastLength 3 (some .int) 35 (i_iload 36 1) := snd_iload_n rfl dX3_leastLength_35
theorem sX3_leastLength_36 {h0 : Hp_} : Snd 0 108 h0 (miT TbC) RX3 cX3_leastLength 3 (some .int) 36 (i_const 38 (vI 35)) := snd_bipush (by decide) dX3_leastLength_36
theorem sX3_leastLength_38 {h0 : Hp_} : Snd 0 108 h0 (miT TbC) RX3 cX3_leastLength 3 (some .int) 38 (i_imul 39) := snd_imul dX3_leastLength_38
theorem sX3_leastLength_39 {h0 : Hp_} : Snd 0 108 h0 (miT TbC) RX3 cX3_leastLength 3 (some .int) 39 (i_iload 40 2) := snd_iload_n rfl dX3_leastLength_39
theorem sX3_leastLength_40 {h0 : Hp_} : Snd 0 108 h0 (miT TbC) RX3 cX3_leastLength 3 (some .int) 40 (i_iadd 41) := snd_iadd dX3_leastLength_40
theorem sX3_leastLength_41 {h0 : Hp_} : Snd 0 108 h0 (miT TbC) RX3 cX3_leastLength 3 (some .int) 41 (i_iald 0 108 42) := snd_iald dX3_leastLength_41
theorem sX3_leastLength_42 {h0 : Hp_} : Snd 0 108 h0 (miT TbC) RX3 cX3_leastLength 3 (some .int) 42 (i_iret) := snd_iret dX3_leastLength_42
theorem kX3_leastLength {h0 : Hp_} : raA (okI 0 108 h0 (miT TbC) (yX3_leastLength, cX3_leastLength, 3, (some .int))) tX3_leastLength := (raA_br (raA_br (raA_br (raA_br (raA_leaf sX3_leastLength_0) (raA_br (raA_leaf sX3_leastLength_1) (raA_leaf sX3_leastLength_4))) (raA_br (raA_leaf sX3_leastLength_5) (raA_br (raA_leaf sX3_leastLength_8) (raA_leaf sX3_leastLength_11)))) (raA_br (raA_br (raA_leaf sX3_leastLength_12) (raA_br (raA_leaf sX3_leastLength_15) (raA_leaf sX3_leastLength_16))) (raA_br (raA_leaf sX3_leastLength_17) (raA_br (raA_leaf sX3_leastLength_20) (raA_leaf sX3_leastLength_21))))) (raA_br (raA_br (raA_br (raA_leaf sX3_leastLength_22) (raA_br (raA_leaf sX3_leastLength_25) (raA_leaf sX3_leastLength_28))) (raA_br (raA_leaf sX3_leastLength_30) (raA_br (raA_leaf sX3_leastLength_31) (raA_leaf sX3_leastLength_32)))) (raA_br (raA_br (raA_leaf sX3_leastLength_35) (raA_br (raA_leaf sX3_leastLength_36) (raA_leaf sX3_leastLength_38))) (raA_br (raA_br (raA_leaf sX3_leastLength_39) (raA_leaf sX3_leastLength_40)) (raA_br (raA_leaf sX3_leastLength_41) (raA_leaf sX3_leastLength_42))))))
theorem sX3_pack_0 {h0 : Hp_} : Snd 0 108 h0 (miT TbC) RX3 cX3_pack 7 none 0 (i_aload 1 0) := snd_aload_n rfl dX3_pack_0
theorem sX3_pack_1 {h0 : Hp_} : Snd 0 108 h0 (miT TbC) RX3 cX3_pack 7 none 1 (i_getR 3 0 4) := snd_getR rfl (by decide) (by decide) (by decide) (fun hK ho hs hq kk => gf_X3_12 hK ho hs hq rfl dX3_pack_1 kk)
theorem sX3_pack_4 {h0 : Hp_} : Snd 0 108 h0 (miT TbC) RX3 cX3_pack 7 none 4 (i_aload 5 1) := snd_aload_n rfl dX3_pack_4
theorem sX3_pack_5 {h0 : Hp_} : Snd 0 108 h0 (miT TbC) RX3 cX3_pack 7 none 5 (i_getI 5 1 8) := snd_getI hl0 (fun hK ho hs hv kk => gf_X3_95 hK ho hs hv dX3_pack_5 kk)
theorem sX3_pack_8 {h0 : Hp_} : Snd 0 108 h0 (miT TbC) RX3 cX3_pack 7 none 8 (i_aload 9 1) := snd_aload_n rfl dX3_pack_8
theorem sX3_pack_9 {h0 : Hp_} : Snd 0 108 h0 (miT TbC) RX3 cX3_pack 7 none 9 (i_getI 5 2 12) := snd_getI hl0 (fun hK ho hs hv kk => gf_X3_101 hK ho hs hv dX3_pack_9 kk)
theorem sX3_pack_12 {h0 : Hp_} : Snd 0 108 h0 (miT TbC) RX3 cX3_pack 7 none 12 (i_iload 13 2) := snd_iload_n rfl dX3_pack_12
theorem sX3_pack_13 {h0 : Hp_} : Snd 0 108 h0 (miT TbC) RX3 cX3_pack 7 none 13 (i_cV3 8 0 16) := snd_cV3 (fun hK hd hC ho hs h6 h7 h8 kk => iv_X3_104 hK (mcC_8 hC) ho hs ⟨hd, by show _ ≤ 40 * (_ + 1); omega⟩ (Nat.le_refl _) h6 h7 h8 ⟨Nat.le_refl _, Nat.le_refl _⟩ dX3_pack_13 kk)
theorem sX3_pack_16 {h0 : Hp_} : Snd 0 108 h0 (miT TbC) RX3 cX3_pack 7 none 16 (i_aload 17 0) := snd_aload_n rfl dX3_pack_16
theorem sX3_pack_17 {h0 : Hp_} : Snd 0 108 h0 (miT TbC) RX3 cX3_pack 7 none 17 (i_getR 3 0 20) := snd_getR rfl (by decide) (by decide) (by decide) (fun hK ho hs hq kk => gf_X3_12 hK ho hs hq rfl dX3_pack_17 kk)
theorem sX3_pack_20 {h0 : Hp_} : Snd 0 108 h0 (miT TbC) RX3 cX3_pack 7 none 20 (i_aload 21 1) := snd_aload_n rfl dX3_pack_20
theorem sX3_pack_21 {h0 : Hp_} : Snd 0 108 h0 (miT TbC) RX3 cX3_pack 7 none 21 (i_cV1 10 0 24) := snd_cV1 (fun hK hd hC ho hs h6 h7 h8 kk => iv_X3_108 hK (mcC_10 hC) ho hs ⟨hd, by show _ ≤ 40 * (_ + 1); omega⟩ (Nat.le_refl _) h6 h7 h8 ⟨Nat.le_refl _, Nat.le_refl _⟩ dX3_pack_21 kk)
theorem sX3_pack_24 {h0 : Hp_} : Snd 0 108 h0 (miT TbC) RX3 cX3_pack 7 none 24 (i_aload 25 0) := snd_aload_n rfl dX3_pack_24
theorem sX3_pack_25 {h0 : Hp_} : Snd 0 108 h0 (miT TbC) RX3 cX3_pack 7 none 25 (i_getR 3 0 28) := snd_getR rfl (by decide) (by decide) (by decide) (fun hK ho hs hq kk => gf_X3_12 hK ho hs hq rfl dX3_pack_25 kk)
theorem sX3_pack_28 {h0 : Hp_} : Snd 0 108 h0 (miT TbC) RX3 cX3_pack 7 none 28 (i_cV0 3 0 31) := snd_cV0 (fun hK hd hC ho hs h6 h7 h8 kk => iv_X3_112 hK (mcC_3 hC) ho hs ⟨hd, by show _ ≤ 40 * (_ + 1); omega⟩ (Nat.le_refl _) h6 h7 h8 ⟨Nat.le_refl _, Nat.le_refl _⟩ dX3_pack_28 kk)
theorem sX3_pack_31 {h0 : Hp_} : Snd 0 108 h0 (miT TbC) RX3 cX3_pack 7 none 31 (i_aload 32 0) := snd_aload_n rfl dX3_pack_31
theorem sX3_pack_32 {h0 : Hp_} : Snd 0 108 h0 (miT TbC) RX3 cX3_pack 7 none 32 (i_getR 3 7 35) := snd_getR rfl (by decide) (by decide) (by decide) (fun hK ho hs hq kk => gf_X3_40 hK ho hs hq rfl dX3_pack_32 kk)
theorem sX3_pack_35 {h0 : Hp_} : Snd 0 108 h0 (miT TbC) RX3 cX3_pack 7 none 35 (i_cV0 23 1 38) := snd_cV0 (fun hK hd hC ho hs h6 h7 h8 kk => iv_X3_115 hK (mcC_23 hC) ho hs ⟨hd, by show _ ≤ 40 * (_ + 1); omega⟩ (Nat.le_refl _) h6 h7 h8 ⟨Nat.le_refl _, Nat.le_refl _⟩ dX3_pack_35 kk)
theorem sX3_pack_38 {h0 : Hp_} : Snd 0 108 h0 (miT TbC) RX3 cX3_pack 7 none 38 (i_const 39 (vI 0)) := snd_iconst dX3_pack_38
theorem sX3_pack_39 {h0 : Hp_} : Snd 0 108 h0 (miT TbC) RX3 cX3_pack 7 none 39 (i_istore 41 5) := snd_istore (by decide) dX3_pack_39
theorem sX3_pack_41 {h0 : Hp_} : Snd 0 108 h0 (miT TbC) RX3 cX3_pack 7 none 41 (i_iload 43 5) := snd_iload dX3_pack_41
theorem sX3_pack_43 {h0 : Hp_} : Snd 0 108 h0 (miT TbC) RX3 cX3_pack 7 none 43 (i_aload 44 0) := snd_aload_n rfl dX3_pack_43
theorem sX3_pack_44 {h0 : Hp_} : Snd 0 108 h0 (miT TbC) RX3 cX3_pack 7 none 44 (i_getR 3 0 47) := snd_getR rfl (by decide) (by decide) (by decide) (fun hK ho hs hq kk => gf_X3_12 hK ho hs hq rfl dX3_pack_44 kk)
theorem sX3_pack_47 {h0 : Hp_} : Snd 0 108 h0 (miT TbC) RX3 cX3_pack 7 none 47 (i_getI 0 10 50) := snd_getI hl0 (fun hK ho hs hv kk => gf_X3_118 hK ho hs hv dX3_pack_47 kk)
theorem sX3_pack_50 {h0 : Hp_} : Snd 0 108 h0 (miT TbC) RX3 cX3_pack 7 none 50 (i_icmp_ge 53 100) := snd_icmp_ge dX3_pack_50 rfl
theorem sX3_pack_53 {h0 : Hp_} : Snd 0 108 h0 (miT TbC) RX3 cX3_pack 7 none 53 (i_aload 54 0) := snd_aload_n rfl dX3_pack_53
theorem sX3_pack_54 {h0 : Hp_} : Snd 0 108 h0 (miT TbC) RX3 cX3_pack 7 none 54 (i_getR 3 1 57) := snd_getR rfl (by decide) (by decide) (by decide) (fun hK ho hs hq kk => gf_X3_18 hK ho hs hq rfl dX3_pack_54 kk)
theorem sX3_pack_57 {h0 : Hp_} : Snd 0 108 h0 (miT TbC) RX3 cX3_pack 7 none 57 (i_iload 59 5) := snd_iload dX3_pack_57
theorem sX3_pack_59 {h0 : Hp_} : Snd 0 108 h0 (miT TbC) RX3 cX3_pack 7 none 59 (i_aload 60 0) := snd_aload_n rfl dX3_pack_59
theorem sX3_pack_60 {h0 : Hp_} : Snd 0 108 h0 (miT TbC) RX3 cX3_pack 7 none 60 (i_iload 62 5) := snd_iload dX3_pack_60
theorem sX3_pack_62 {h0 : Hp_} : Snd 0 108 h0 (miT TbC) RX3 cX3_pack 7 none 62 (i_cV1 37 3 65) := snd_cV1 (fun hK hd hC ho hs h6 h7 h8 kk => iv_X3_121 hK (mcC_37 hC) ho hs ⟨hd, by show _ ≤ 40 * (_ + 1); omega⟩ (Nat.le_refl _) h6 h7 h8 ⟨Nat.le_refl _, Nat.le_refl _⟩ dX3_pack_62 kk)
theorem sX3_pack_65 {h0 : Hp_} : Snd 0 108 h0 (miT TbC) RX3 cX3_pack 7 none 65 (i_iast 0 108 66) := snd_iast dX3_pack_65
theorem sX3_pack_66 {h0 : Hp_} : Snd 0 108 h0 (miT TbC) RX3 cX3_pack 7 none 66 (i_aload 67 0) := snd_aload_n rfl dX3_pack_66
theorem sX3_pack_67 {h0 : Hp_} : Snd 0 108 h0 (miT TbC) RX3 cX3_pack 7 none 67 (i_getR 3 5 70) := snd_getR rfl (by decide) (by decide) (by decide) (fun hK ho hs hq kk => gf_X3_31 hK ho hs hq rfl dX3_pack_67 kk)
theorem sX3_pack_70 {h0 : Hp_} : Snd 0 108 h0 (miT TbC) RX3 cX3_pack 7 none 70 (i_iload 72 5) := snd_iload dX3_pack_70
theorem sX3_pack_72 {h0 : Hp_} : Snd 0 108 h0 (miT TbC) RX3 cX3_pack 7 none 72 (i_const 73 (vI 0)) := snd_iconst dX3_pack_72
theorem sX3_pack_73 {h0 : Hp_} : Snd 0 108 h0 (miT TbC) RX3 cX3_pack 7 none 73 (i_iast 0 108 74) := snd_iast dX3_pack_73
theorem sX3_pack_74 {h0 : Hp_} : Snd 0 108 h0 (miT TbC) RX3 cX3_pack 7 none 74 (i_aload 75 0) := snd_aload_n rfl dX3_pack_74
theorem sX3_pack_75 {h0 : Hp_} : Snd 0 108 h0 (miT TbC) RX3 cX3_pack 7 none 75 (i_getR 3 6 78) := snd_getR rfl (by decide) (by decide) (by decide) (fun hK ho hs hq kk => gf_X3_34 hK ho hs hq rfl dX3_pack_75 kk)
theorem sX3_pack_78 {h0 : Hp_} : Snd 0 108 h0 (miT TbC) RX3 cX3_pack 7 none 78 (i_iload 80 5) := snd_iload dX3_pack_78
theorem sX3_pack_80 {h0 : Hp_} : Snd 0 108 h0 (miT TbC) RX3 cX3_pack 7 none 80 (i_const 81 (vI 3)) := snd_iconst dX3_pack_80
theorem sX3_pack_81 {h0 : Hp_} : Snd 0 108 h0 (miT TbC) RX3 cX3_pack 7 none 81 (i_iast 0 108 82) := snd_iast dX3_pack_81
theorem sX3_pack_82 {h0 : Hp_} : Snd 0 108 h0 (miT TbC) RX3 cX3_pack 7 none 82 (i_aload 83 0) := snd_aload_n rfl dX3_pack_82
theorem sX3_pack_83 {h0 : Hp_} : Snd 0 108 h0 (miT TbC) RX3 cX3_pack 7 none 83 (i_iload 85 5) := snd_iload dX3_pack_83
theorem sX3_pack_85 {h0 : Hp_} : Snd 0 108 h0 (miT TbC) RX3 cX3_pack 7 none 85 (i_cV1 38 3 88) := snd_cV1 (fun hK hd hC ho hs h6 h7 h8 kk => iv_X3_124 hK (mcC_38 hC) ho hs ⟨hd, by show _ ≤ 40 * (_ + 1); omega⟩ (Nat.le_refl _) h6 h7 h8 ⟨Nat.le_refl _, Nat.le_refl _⟩ dX3_pack_85 kk)
theorem sX3_pack_88 {h0 : Hp_} : Snd 0 108 h0 (miT TbC) RX3 cX3_pack 7 none 88 (i_aload 89 0) := snd_aload_n rfl dX3_pack_88
theorem sX3_pack_89 {h0 : Hp_} : Snd 0 108 h0 (miT TbC) RX3 cX3_pack 7 none 89 (i_iload 91 5) := snd_iload dX3_pack_89
theorem sX3_pack_91 {h0 : Hp_} : Snd 0 108 h0 (miT TbC) RX3 cX3_pack 7 none 91 (i_cV1 33 3 94) := snd_cV1 (fun hK hd hC ho hs h6 h7 h8 kk => iv_X3_128 hK (mcC_33 hC) ho hs ⟨hd, by show _ ≤ 40 * (_ + 1); omega⟩ (Nat.le_refl _) h6 h7 h8 ⟨Nat.le_refl _, Nat.le_refl _⟩ dX3_pack_91 kk)
theorem sX3_pack_94 {h0 : Hp_} : Snd 0 108 h0 (miT TbC) RX3 cX3_pack 7 none 94 (i_iinc 97 5 1) := snd_iinc (by decide) dX3_pack_94
theorem sX3_pack_97 {h0 : Hp_} : Snd 0 108 h0 (miT TbC) RX3 cX3_pack 7 none 97 (i_goto 41) := snd_goto dX3_pack_97 rfl
theorem sX3_pack_100 {h0 : Hp_} : Snd 0 108 h0 (miT TbC) RX3 cX3_pack 7 none 100 (i_aload 102 4) := snd_aload dX3_pack_100
theorem sX3_pack_102 {h0 : Hp_} : Snd 0 108 h0 (miT TbC) RX3 cX3_pack 7 none 102 (i_cV0 23 1 105) := snd_cV0 (fun hK hd hC ho hs h6 h7 h8 kk => iv_X3_115 hK (mcC_23 hC) ho hs ⟨hd, by show _ ≤ 40 * (_ + 1); omega⟩ (Nat.le_refl _) h6 h7 h8 ⟨Nat.le_refl _, Nat.le_refl _⟩ dX3_pack_102 kk)
theorem sX3_pack_105 {h0 : Hp_} : Snd 0 108 h0 (miT TbC) RX3 cX3_pack 7 none 105 (i_aload 107 4) := snd_aload dX3_pack_105
theorem sX3_pack_107 {h0 : Hp_} : Snd 0 108 h0 (miT TbC) RX3 cX3_pack 7 none 107 (i_aload 108 1) := snd_aload_n rfl dX3_pack_107
theorem sX3_pack_108 {h0 : Hp_} : Snd 0 108 h0 (miT TbC) RX3 cX3_pack 7 none 108 (i_getI 5 1 111) := snd_getI hl0 (fun hK ho hs hv kk => gf_X3_95 hK ho hs hv dX3_pack_108 kk)
theorem sX3_pack_111 {h0 : Hp_} : Snd 0 108 h0 (miT TbC) RX3 cX3_pack 7 none 111 (i_cV1 20 1 114) := snd_cV1 (fun hK hd hC ho hs h6 h7 h8 kk => iv_X3_131 hK (mcC_20 hC) ho hs ⟨hd, by show _ ≤ 40 * (_ + 1); omega⟩ (Nat.le_refl _) h6 h7 h8 ⟨Nat.le_refl _, Nat.le_refl _⟩ dX3_pack_111 kk)
theorem sX3_pack_114 {h0 : Hp_} : Snd 0 108 h0 (miT TbC) RX3 cX3_pack 7 none 114 (i_aload 116 4) := snd_aload dX3_pack_114
theorem sX3_pack_116 {h0 : Hp_} : Snd 0 108 h0 (miT TbC) RX3 cX3_pack 7 none 116 (i_aload 117 1) := snd_aload_n rfl dX3_pack_116
theorem sX3_pack_117 {h0 : Hp_} : Snd 0 108 h0 (miT TbC) RX3 cX3_pack 7 none 117 (i_getI 5 2 120) := snd_getI hl0 (fun hK ho hs hv kk => gf_X3_101 hK ho hs hv dX3_pack_117 kk)
theorem sX3_pack_120 {h0 : Hp_} : Snd 0 108 h0 (miT TbC) RX3 cX3_pack 7 none 120 (i_cV1 20 1 123) := snd_cV1 (fun hK hd hC ho hs h6 h7 h8 kk => iv_X3_131 hK (mcC_20 hC) ho hs ⟨hd, by show _ ≤ 40 * (_ + 1); omega⟩ (Nat.le_refl _) h6 h7 h8 ⟨Nat.le_refl _, Nat.le_refl _⟩ dX3_pack_120 kk)
theorem sX3_pack_123 {h0 : Hp_} : Snd 0 108 h0 (miT TbC) RX3 cX3_pack 7 none 123 (i_aload 125 4) := snd_aload dX3_pack_123
theorem sX3_pack_125 {h0 : Hp_} : Snd 0 108 h0 (miT TbC) RX3 cX3_pack 7 none 125 (i_iload 126 2) := snd_iload_n rfl dX3_pack_125
theorem sX3_pack_126 {h0 : Hp_} : Snd 0 108 h0 (miT TbC) RX3 cX3_pack 7 none 126 (i_cV1 20 1 129) := snd_cV1 (fun hK hd hC ho hs h6 h7 h8 kk => iv_X3_131 hK (mcC_20 hC) ho hs ⟨hd, by show _ ≤ 40 * (_ + 1); omega⟩ (Nat.le_refl _) h6 h7 h8 ⟨Nat.le_refl _, Nat.le_refl _⟩ dX3_pack_126 kk)
theorem sX3_pack_129 {h0 : Hp_} : Snd 0 108 h0 (miT TbC) RX3 cX3_pack 7 none 129 (i_aload 131 4) := snd_aload dX3_pack_129
theorem sX3_pack_131 {h0 : Hp_} : Snd 0 108 h0 (miT TbC) RX3 cX3_pack 7 none 131 (i_iload 132 3) := snd_iload_n rfl dX3_pack_131
theorem sX3_pack_132 {h0 : Hp_} : Snd 0 108 h0 (miT TbC) RX3 cX3_pack 7 none 132 (i_cV1 20 1 135) := snd_cV1 (fun hK hd hC ho hs h6 h7 h8 kk => iv_X3_131 hK (mcC_20 hC) ho hs ⟨hd, by show _ ≤ 40 * (_ + 1); omega⟩ (Nat.le_refl _) h6 h7 h8 ⟨Nat.le_refl _, Nat.le_refl _⟩ dX3_pack_132 kk)
theorem sX3_pack_135 {h0 : Hp_} : Snd 0 108 h0 (miT TbC) RX3 cX3_pack 7 none 135 (i_const 136 (vI 1)) := snd_iconst dX3_pack_135
theorem sX3_pack_136 {h0 : Hp_} : Snd 0 108 h0 (miT TbC) RX3 cX3_pack 7 none 136 (i_istore 138 5) := snd_istore (by decide) dX3_pack_136
theorem sX3_pack_138 {h0 : Hp_} : Snd 0 108 h0 (miT TbC) RX3 cX3_pack 7 none 138 (i_iload 140 5) := snd_iload dX3_pack_138
theorem sX3_pack_140 {h0 : Hp_} : Snd 0 108 h0 (miT TbC) RX3 cX3_pack 7 none 140 (i_iload 141 3) := snd_iload_n rfl dX3_pack_140
theorem sX3_pack_141 {h0 : Hp_} : Snd 0 108 h0 (miT TbC) RX3 cX3_pack 7 none 141 (i_icmp_gt 144 176) := snd_icmp_gt dX3_pack_141 rfl
theorem sX3_pack_144 {h0 : Hp_} : Snd 0 108 h0 (miT TbC) RX3 cX3_pack 7 none 144 (i_const 145 (vI 0)) := snd_iconst dX3_pack_144
theorem sX3_pack_145 {h0 : Hp_} : Snd 0 108 h0 (miT TbC) RX3 cX3_pack 7 none 145 (i_istore 147 6) := snd_istore (by decide) dX3_pack_145
theorem sX3_pack_147 {h0 : Hp_} : Snd 0 108 h0 (miT TbC) RX3 cX3_pack 7 none 147 (i_iload 149 6) := snd_iload dX3_pack_147
theorem sX3_pack_149 {h0 : Hp_} : Snd 0 108 h0 (miT TbC) RX3 cX3_pack 7 none 149 (i_iload 150 2) := snd_iload_n rfl dX3_pack_149
theorem sX3_pack_150 {h0 : Hp_} : Snd 0 108 h0 (miT TbC) RX3 cX3_pack 7 none 150 (i_icmp_gt 153 170) := snd_icmp_gt dX3_pack_150 rfl
theorem sX3_pack_153 {h0 : Hp_} : Snd 0 108 h0 (miT TbC) RX3 cX3_pack 7 none 153 (i_aload 154 0) := snd_aload_n rfl dX3_pack_153
theorem sX3_pack_154 {h0 : Hp_} : Snd 0 108 h0 (miT TbC) RX3 cX3_pack 7 none 154 (i_iload 156 6) := snd_iload dX3_pack_154
theorem sX3_pack_156 {h0 : Hp_} : Snd 0 108 h0 (miT TbC) RX3 cX3_pack 7 none 156 (i_iload 158 5) := snd_iload dX3_pack_156
theorem sX3_pack_158 {h0 : Hp_} : Snd 0 108 h0 (miT TbC) RX3 cX3_pack 7 none 158 (i_iload 159 3) := snd_iload_n rfl dX3_pack_158
theorem sX3_pack_159 {h0 : Hp_} : Snd 0 108 h0 (miT TbC) RX3 cX3_pack 7 none 159 (i_aload 161 4) := snd_aload dX3_pack_159
theorem sX3_pack_161 {h0 : Hp_} : Snd 0 108 h0 (miT TbC) RX3 cX3_pack 7 none 161 (i_cV4 41 3 164) := snd_cV4 (fun hK hd hC ho hs h6 h7 h8 kk => iv_X3_134 hK (mcC_41 hC) ho hs ⟨hd, by show _ ≤ 40 * (_ + 1); omega⟩ (Nat.le_refl _) h6 h7 h8 ⟨Nat.le_refl _, Nat.le_refl _⟩ dX3_pack_161 kk)
theorem sX3_pack_164 {h0 : Hp_} : Snd 0 108 h0 (miT TbC) RX3 cX3_pack 7 none 164 (i_iinc 167 6 1) := snd_iinc (by decide) dX3_pack_164
theorem sX3_pack_167 {h0 : Hp_} : Snd 0 108 h0 (miT TbC) RX3 cX3_pack 7 none 167 (i_goto 147) := snd_goto dX3_pack_167 rfl
theorem sX3_pack_170 {h0 : Hp_} : Snd 0 108 h0 (miT TbC) RX3 cX3_pack 7 none 170 (i_iinc 173 5 1) := snd_iinc (by decide) dX3_pack_170
theorem sX3_pack_173 {h0 : Hp_} : Snd 0 108 h0 (miT TbC) RX3 cX3_pack 7 none 173 (i_goto 138) := snd_goto dX3_pack_173 rfl
theorem sX3_pack_176 {h0 : Hp_} : Snd 0 108 h0 (miT TbC) RX3 cX3_pack 7 none 176 (i_vret) := snd_vret dX3_pack_176
theorem kX3_pack {h0 : Hp_} : raA (okI 0 108 h0 (miT TbC) (yX3_pack, cX3_pack, 7, none)) tX3_pack := (raA_br (raA_br (raA_br (raA_br (raA_br (raA_br (raA_leaf sX3_pack_0) (raA_leaf sX3_pack_1)) (raA_br (raA_leaf sX3_pack_4) (raA_br (raA_leaf sX3_pack_5) (raA_leaf sX3_pack_8)))) (raA_br (raA_br (raA_leaf sX3_pack_9) (raA_leaf sX3_pack_12)) (raA_br (raA_leaf sX3_pack_13) (raA_br (raA_leaf sX3_pack_16) (raA_leaf sX3_pack_17))))) (raA_br (raA_br (raA_br (raA_leaf sX3_pack_20) (raA_leaf sX3_pack_21)) (raA_br (raA_leaf sX3_pack_24) (raA_br (raA_leaf sX3_pack_25) (raA_leaf sX3_pack_28)))) (raA_br (raA_br (raA_leaf sX3_pack_31) (raA_br (raA_leaf sX3_pack_32) (raA_leaf sX3_pack_35))) (raA_br (raA_leaf sX3_pack_38) (raA_br (raA_leaf sX3_pack_39) (raA_leaf sX3_pack_41)))))) (raA_br (raA_br (raA_br (raA_br (raA_leaf sX3_pack_43) (raA_leaf sX3_pack_44)) (raA_br (raA_leaf sX3_pack_47) (raA_br (raA_leaf sX3_pack_50) (raA_leaf sX3_pack_53)))) (raA_br (raA_br (raA_leaf sX3_pack_54) (raA_br (raA_leaf sX3_pack_57) (raA_leaf sX3_pack_59))) (raA_br (raA_leaf sX3_pack_60) (raA_br (raA_leaf sX3_pack_62) (raA_leaf sX3_pack_65))))) (raA_br (raA_br (raA_br (raA_leaf sX3_pack_66) (raA_leaf sX3_pack_67)) (raA_br (raA_leaf sX3_pack_70) (raA_br (raA_leaf sX3_pack_72) (raA_leaf sX3_pack_73)))) (raA_br (raA_br (raA_leaf sX3_pack_74) (raA_br (raA_leaf sX3_pack_75) (raA_leaf sX3_pack_78))) (raA_br (raA_leaf sX3_pack_80) (raA_br (raA_leaf sX3_pack_81) (raA_leaf sX3_pack_82))))))) (raA_br (raA_br (raA_br (raA_br (raA_br (raA_leaf sX3_pack_83) (raA_leaf sX3_pack_85)) (raA_br (raA_leaf sX3_pack_88) (raA_br (raA_leaf sX3_pack_89) (raA_leaf sX3_pack_91)))) (raA_br (raA_br (raA_leaf sX3_pack_94) (raA_br (raA_leaf sX3_pack_97) (raA_leaf sX3_pack_100))) (raA_br (raA_leaf sX3_pack_102) (raA_br (raA_leaf sX3_pack_105) (raA_leaf sX3_pack_107))))) (raA_br (raA_br (raA_br (raA_leaf sX3_pack_108) (raA_leaf sX3_pack_111)) (raA_br (raA_leaf sX3_pack_114) (raA_br (raA_leaf sX3_pack_116) (raA_leaf sX3_pack_117)))) (raA_br (raA_br (raA_leaf sX3_pack_120) (raA_br (raA_leaf sX3_pack_123) (raA_leaf sX3_pack_125))) (raA_br (raA_leaf sX3_pack_126) (raA_br (raA_leaf sX3_pack_129) (raA_leaf sX3_pack_131)))))) (raA_br (raA_br (raA_br (raA_br (raA_leaf sX3_pack_132) (raA_leaf sX3_pack_135)) (raA_br (raA_leaf sX3_pack_136) (raA_br (raA_leaf sX3_pack_138) (raA_leaf sX3_pack_140)))) (raA_br (raA_br (raA_leaf sX3_pack_141) (raA_br (raA_leaf sX3_pack_144) (raA_leaf sX3_pack_145))) (raA_br (raA_leaf sX3_pack_147) (raA_br (raA_leaf sX3_pack_149) (raA_leaf sX3_pack_150))))) (raA_br (raA_br (raA_br (raA_leaf sX3_pack_153) (raA_leaf sX3_pack_154)) (raA_br (raA_leaf sX3_pack_156) (raA_br (raA_leaf sX3_pack_158) (raA_leaf sX3_pack_159)))) (raA_br (raA_br (raA_leaf sX3_pack_161) (raA_br (raA_leaf sX3_pack_164) (raA_leaf sX3_pack_167))) (raA_br (raA_leaf sX3_pack_170) (raA_br (raA_leaf sX3_pack_173) (raA_leaf sX3_pack_176))))))))
theorem sX3_passesUpTo_0 {h0 : Hp_} : Snd 0 108 h0 (miT TbC) RX3 cX3_passesUpTo 4 (some .int) 0 (i_iload 1 3) := snd_iload_n rfl dX3_passesUpTo_0
theorem sX3_passesUpTo_1 {h0 : Hp_} : Snd 0 108 h0 (miT TbC) RX3 cX3_passesUpTo 4 (some .int) 1 (i_if_le 4 20) := snd_if_le dX3_passesUpTo_1 rfl
theorem sX3_passesUpTo_4 {h0 : Hp_} : Snd 0 108 h0 (miT TbC) RX3 cX3_passesUpTo 4 (some .int) 4 (i_iload 5 2) := snd_iload_n rfl dX3_passesUpTo_4
theorem sX3_passesUpTo_5 {h0 : Hp_} : Snd 0 108 h0 (miT TbC) RX3 cX3_passesUpTo 4 (some .int) 5 (i_aload 6 0) := snd_aload_n rfl dX3_passesUpTo_5
theorem sX3_passesUpTo_6 {h0 : Hp_} : Snd 0 108 h0 (miT TbC) RX3 cX3_passesUpTo 4 (some .int) 6 (i_getR 3 1 9) := snd_getR rfl (by decide) (by decide) (by decide) (fun hK ho hs hq kk => gf_X3_18 hK ho hs hq rfl dX3_passesUpTo_6 kk)
theorem sX3_passesUpTo_9 {h0 : Hp_} : Snd 0 108 h0 (miT TbC) RX3 cX3_passesUpTo 4 (some .int) 9 (i_iload 10 1) := snd_iload_n rfl dX3_passesUpTo_9
theorem sX3_passesUpTo_10 {h0 : Hp_} : Snd 0 108 h0 (miT TbC) RX3 cX3_passesUpTo 4 (some .int) 10 (i_iald 0 108 11) := snd_iald dX3_passesUpTo_10
theorem sX3_passesUpTo_11 {h0 : Hp_} : Snd 0 108 h0 (miT TbC) RX3 cX3_passesUpTo 4 (some .int) 11 (i_cS1 19 14) := snd_cS1 (fun hK hd hC h6 h7 h8 kk => iv_X3_85 hK (mcC_19 hC) ⟨hd, by show _ ≤ 40 * (_ + 1); omega⟩ (Nat.le_refl _) h6 h7 h8 ⟨Nat.le_refl _, Nat.le_refl _⟩ dX3_passesUpTo_11 kk)
theorem sX3_passesUpTo_14 {h0 : Hp_} : Snd 0 108 h0 (miT TbC) RX3 cX3_passesUpTo 4 (some .int) 14 (i_imul 15) := snd_imul dX3_passesUpTo_14
theorem sX3_passesUpTo_15 {h0 : Hp_} : Snd 0 108 h0 (miT TbC) RX3 cX3_passesUpTo 4 (some .int) 15 (i_iload 16 3) := snd_iload_n rfl dX3_passesUpTo_15
theorem sX3_passesUpTo_16 {h0 : Hp_} : Snd 0 108 h0 (miT TbC) RX3 cX3_passesUpTo 4 (some .int) 16 (i_idiv 17) := snd_idiv dX3_passesUpTo_16
theorem sX3_passesUpTo_17 {h0 : Hp_} : Snd 0 108 h0 (miT TbC) RX3 cX3_passesUpTo 4 (some .int) 17 (i_goto 21) := snd_goto dX3_passesUpTo_17 rfl
theorem sX3_passesUpTo_20 {h0 : Hp_} : Snd 0 108 h0 (miT TbC) RX3 cX3_passesUpTo 4 (some .int) 20 (i_const 21 (vI 0)) := snd_iconst dX3_passesUpTo_20
theorem sX3_passesUpTo_21 {h0 : Hp_} : Snd 0 108 h0 (miT TbC) RX3 cX3_passesUpTo 4 (some .int) 21 (i_iret) := snd_iret dX3_passesUpTo_21
theorem kX3_passesUpTo {h0 : Hp_} : raA (okI 0 108 h0 (miT TbC) (yX3_passesUpTo, cX3_passesUpTo, 4, (some .int))) tX3_passesUpTo := (raA_br (raA_br (raA_br (raA_leaf sX3_passesUpTo_0) (raA_br (raA_leaf sX3_passesUpTo_1) (raA_leaf sX3_passesUpTo_4))) (raA_br (raA_br (raA_leaf sX3_passesUpTo_5) (raA_leaf sX3_passesUpTo_6)) (raA_br (raA_leaf sX3_passesUpTo_9) (raA_leaf sX3_passesUpTo_10)))) (raA_br (raA_br (raA_leaf sX3_passesUpTo_11) (raA_br (raA_leaf sX3_passesUpTo_14) (raA_leaf sX3_passesUpTo_15))) (raA_br (raA_br (raA_leaf sX3_passesUpTo_16) (raA_leaf sX3_passesUpTo_17)) (raA_br (raA_leaf sX3_passesUpTo_20) (raA_leaf sX3_passesUpTo_21)))))
theorem sX3_planesOf_0 {h0 : Hp_} : Snd 0 108 h0 (miT TbC) RX3 cX3_planesOf 5 (some .int) 0 (i_const 1 (vI 0)) := snd_iconst dX3_planesOf_0
theorem sX3_planesOf_1 {h0 : Hp_} : Snd 0 108 h0 (miT TbC) RX3 cX3_planesOf 5 (some .int) 1 (i_istore 2 2) := snd_istore_n rfl (by decide) dX3_planesOf_1
theorem sX3_planesOf_2 {h0 : Hp_} : Snd 0 108 h0 (miT TbC) RX3 cX3_planesOf 5 (some .int) 2 (i_const 3 (vI 0)) := snd_iconst dX3_planesOf_2
theorem sX3_planesOf_3 {h0 : Hp_} : Snd 0 108 h0 (miT TbC) RX3 cX3_planesOf 5 (some .int) 3 (i_istore 4 3) := snd_istore_n rfl (by decide) dX3_planesOf_3
theorem sX3_planesOf_4 {h0 : Hp_} : Snd 0 108 h0 (miT TbC) RX3 cX3_planesOf 5 (some .int) 4 (i_iload 5 3) := snd_iload_n rfl dX3_planesOf_4
theorem sX3_planesOf_5 {h0 : Hp_} : Snd 0 108 h0 (miT TbC) RX3 cX3_planesOf 5 (some .int) 5 (i_aload 6 0) := snd_aload_n rfl dX3_planesOf_5
theorem sX3_planesOf_6 {h0 : Hp_} : Snd 0 108 h0 (miT TbC) RX3 cX3_planesOf 5 (some .int) 6 (i_getR 3 0 9) := snd_getR rfl (by decide) (by decide) (by decide) (fun hK ho hs hq kk => gf_X3_12 hK ho hs hq rfl dX3_planesOf_6 kk)
theorem sX3_planesOf_9 {h0 : Hp_} : Snd 0 108 h0 (miT TbC) RX3 cX3_planesOf 5 (some .int) 9 (i_getR 0 4 12) := snd_getR rfl (by decide) (by decide) (by decide) (fun hK ho hs hq kk => gf_X3_82 hK ho hs hq rfl dX3_planesOf_9 kk)
theorem sX3_planesOf_12 {h0 : Hp_} : Snd 0 108 h0 (miT TbC) RX3 cX3_planesOf 5 (some .int) 12 (i_iload 13 1) := snd_iload_n rfl dX3_planesOf_12
theorem sX3_planesOf_13 {h0 : Hp_} : Snd 0 108 h0 (miT TbC) RX3 cX3_planesOf 5 (some .int) 13 (i_iald 0 108 14) := snd_iald dX3_planesOf_13
theorem sX3_planesOf_14 {h0 : Hp_} : Snd 0 108 h0 (miT TbC) RX3 cX3_planesOf 5 (some .int) 14 (i_icmp_ge 17 65) := snd_icmp_ge dX3_planesOf_14 rfl
theorem sX3_planesOf_17 {h0 : Hp_} : Snd 0 108 h0 (miT TbC) RX3 cX3_planesOf 5 (some .int) 17 (i_const 18 (vI 0)) := snd_iconst dX3_planesOf_17
theorem sX3_planesOf_18 {h0 : Hp_} : Snd 0 108 h0 (miT TbC) RX3 cX3_planesOf 5 (some .int) 18 (i_istore 20 4) := snd_istore (by decide) dX3_planesOf_18
theorem sX3_planesOf_20 {h0 : Hp_} : Snd 0 108 h0 (miT TbC) RX3 cX3_planesOf 5 (some .int) 20 (i_iload 22 4) := snd_iload dX3_planesOf_20
theorem sX3_planesOf_22 {h0 : Hp_} : Snd 0 108 h0 (miT TbC) RX3 cX3_planesOf 5 (some .int) 22 (i_aload 23 0) := snd_aload_n rfl dX3_planesOf_22
theorem sX3_planesOf_23 {h0 : Hp_} : Snd 0 108 h0 (miT TbC) RX3 cX3_planesOf 5 (some .int) 23 (i_getR 3 0 26) := snd_getR rfl (by decide) (by decide) (by decide) (fun hK ho hs hq kk => gf_X3_12 hK ho hs hq rfl dX3_planesOf_23 kk)
theorem sX3_planesOf_26 {h0 : Hp_} : Snd 0 108 h0 (miT TbC) RX3 cX3_planesOf 5 (some .int) 26 (i_getR 0 3 29) := snd_getR rfl (by decide) (by decide) (by decide) (fun hK ho hs hq kk => gf_X3_79 hK ho hs hq rfl dX3_planesOf_26 kk)
theorem sX3_planesOf_29 {h0 : Hp_} : Snd 0 108 h0 (miT TbC) RX3 cX3_planesOf 5 (some .int) 29 (i_iload 30 1) := snd_iload_n rfl dX3_planesOf_29
theorem sX3_planesOf_30 {h0 : Hp_} : Snd 0 108 h0 (miT TbC) RX3 cX3_planesOf 5 (some .int) 30 (i_iald 0 108 31) := snd_iald dX3_planesOf_30
theorem sX3_planesOf_31 {h0 : Hp_} : Snd 0 108 h0 (miT TbC) RX3 cX3_planesOf 5 (some .int) 31 (i_icmp_ge 34 59) := snd_icmp_ge dX3_planesOf_31 rfl
theorem sX3_planesOf_34 {h0 : Hp_} : Snd 0 108 h0 (miT TbC) RX3 cX3_planesOf 5 (some .int) 34 (i_iload 35 2) := snd_iload_n rfl dX3_planesOf_34
theorem sX3_planesOf_35 {h0 : Hp_} : Snd 0 108 h0 (miT TbC) RX3 cX3_planesOf 5 (some .int) 35 (i_aload 36 0) := snd_aload_n rfl dX3_planesOf_35
theorem sX3_planesOf_36 {h0 : Hp_} : Snd 0 108 h0 (miT TbC) RX3 cX3_planesOf 5 (some .int) 36 (i_getR 3 0 39) := snd_getR rfl (by decide) (by decide) (by decide) (fun hK ho hs hq kk => gf_X3_12 hK ho hs hq rfl dX3_planesOf_36 kk)
theorem sX3_planesOf_39 {h0 : Hp_} : Snd 0 108 h0 (miT TbC) RX3 cX3_planesOf 5 (some .int) 39 (i_iload 40 1) := snd_iload_n rfl dX3_planesOf_39
theorem sX3_planesOf_40 {h0 : Hp_} : Snd 0 108 h0 (miT TbC) RX3 cX3_planesOf 5 (some .int) 40 (i_iload 42 4) := snd_iload dX3_planesOf_40
theorem sX3_planesOf_42 {h0 : Hp_} : Snd 0 108 h0 (miT TbC) RX3 cX3_planesOf 5 (some .int) 42 (i_iload 43 3) := snd_iload_n rfl dX3_planesOf_42
theorem sX3_planesOf_43 {h0 : Hp_} : Snd 0 108 h0 (miT TbC) RX3 cX3_planesOf 5 (some .int) 43 (i_cV3 2 0 46) := snd_cV3 (fun hK hd hC ho hs h6 h7 h8 kk => iv_X3_89 hK (mcC_2 hC) ho hs ⟨hd, by show _ ≤ 40 * (_ + 1); omega⟩ (Nat.le_refl _) h6 h7 h8 ⟨Nat.le_refl _, Nat.le_refl _⟩ dX3_planesOf_43 kk)
theorem sX3_planesOf_46 {h0 : Hp_} : Snd 0 108 h0 (miT TbC) RX3 cX3_planesOf 5 (some .int) 46 (i_mabs 49) := snd_mabs iw_X3_138 dX3_planesOf_46
theorem sX3_planesOf_49 {h0 : Hp_} : Snd 0 108 h0 (miT TbC) RX3 cX3_planesOf 5 (some .int) 49 (i_mmax 52) := snd_mmax iw_X3_143 dX3_planesOf_49
theorem sX3_planesOf_52 {h0 : Hp_} : Snd 0 108 h0 (miT TbC) RX3 cX3_planesOf 5 (some .int) 52 (i_istore 53 2) := snd_istore_n rfl (by decide) dX3_planesOf_52
theorem sX3_planesOf_53 {h0 : Hp_} : Snd 0 108 h0 (miT TbC) RX3 cX3_planesOf 5 (some .int) 53 (i_iinc 56 4 1) := snd_iinc (by decide) dX3_planesOf_53
theorem sX3_planesOf_56 {h0 : Hp_} : Snd 0 108 h0 (miT TbC) RX3 cX3_planesOf 5 (some .int) 56 (i_goto 20) := snd_goto dX3_planesOf_56 rfl
theorem sX3_planesOf_59 {h0 : Hp_} : Snd 0 108 h0 (miT TbC) RX3 cX3_planesOf 5 (some .int) 59 (i_iinc 62 3 1) := snd_iinc (by decide) dX3_planesOf_59
theorem sX3_planesOf_62 {h0 : Hp_} : Snd 0 108 h0 (miT TbC) RX3 cX3_planesOf 5 (some .int) 62 (i_goto 4) := snd_goto dX3_planesOf_62 rfl
theorem sX3_planesOf_65 {h0 : Hp_} : Snd 0 108 h0 (miT TbC) RX3 cX3_planesOf 5 (some .int) 65 (i_const 67 (vI 12)) := snd_bipush (by decide) dX3_planesOf_65
theorem sX3_planesOf_67 {h0 : Hp_} : Snd 0 108 h0 (miT TbC) RX3 cX3_planesOf 5 (some .int) 67 (i_iload 68 2) := snd_iload_n rfl dX3_planesOf_67
theorem sX3_planesOf_68 {h0 : Hp_} : Snd 0 108 h0 (miT TbC) RX3 cX3_planesOf 5 (some .int) 68 (i_cS1 15 71) := snd_cS1 (fun hK hd hC h6 h7 h8 kk => iv_X3_147 hK (mcC_15 hC) ⟨hd, by show _ ≤ 40 * (_ + 1); omega⟩ (Nat.le_refl _) h6 h7 h8 ⟨Nat.le_refl _, Nat.le_refl _⟩ dX3_planesOf_68 kk)
theorem sX3_planesOf_71 {h0 : Hp_} : Snd 0 108 h0 (miT TbC) RX3 cX3_planesOf 5 (some .int) 71 (i_mmin 74) := snd_mmin iw_X3_150 dX3_planesOf_71
theorem sX3_planesOf_74 {h0 : Hp_} : Snd 0 108 h0 (miT TbC) RX3 cX3_planesOf 5 (some .int) 74 (i_iret) := snd_iret dX3_planesOf_74
theorem kX3_planesOf {h0 : Hp_} : raA (okI 0 108 h0 (miT TbC) (yX3_planesOf, cX3_planesOf, 5, (some .int))) tX3_planesOf := (raA_br (raA_br (raA_br (raA_br (raA_br (raA_leaf sX3_planesOf_0) (raA_leaf sX3_planesOf_1)) (raA_br (raA_leaf sX3_planesOf_2) (raA_leaf sX3_planesOf_3))) (raA_br (raA_br (raA_leaf sX3_planesOf_4) (raA_leaf sX3_planesOf_5)) (raA_br (raA_leaf sX3_planesOf_6) (raA_br (raA_leaf sX3_planesOf_9) (raA_leaf sX3_planesOf_12))))) (raA_br (raA_br (raA_br (raA_leaf sX3_planesOf_13) (raA_leaf sX3_planesOf_14)) (raA_br (raA_leaf sX3_planesOf_17) (raA_br (raA_leaf sX3_planesOf_18) (raA_leaf sX3_planesOf_20)))) (raA_br (raA_br (raA_leaf sX3_planesOf_22) (raA_leaf sX3_planesOf_23)) (raA_br (raA_leaf sX3_planesOf_26) (raA_br (raA_leaf sX3_planesOf_29) (raA_leaf sX3_planesOf_30)))))) (raA_br (raA_br (raA_br (raA_br (raA_leaf sX3_planesOf_31) (raA_leaf sX3_planesOf_34)) (raA_br (raA_leaf sX3_planesOf_35) (raA_br (raA_leaf sX3_planesOf_36) (raA_leaf sX3_planesOf_39)))) (raA_br (raA_br (raA_leaf sX3_planesOf_40) (raA_leaf sX3_planesOf_42)) (raA_br (raA_leaf sX3_planesOf_43) (raA_br (raA_leaf sX3_planesOf_46) (raA_leaf sX3_planesOf_49))))) (raA_br (raA_br (raA_br (raA_leaf sX3_planesOf_52) (raA_leaf sX3_planesOf_53)) (raA_br (raA_leaf sX3_planesOf_56) (raA_br (raA_leaf sX3_planesOf_59) (raA_leaf sX3_planesOf_62)))) (raA_br (raA_br (raA_leaf sX3_planesOf_65) (raA_leaf sX3_planesOf_67)) (raA_br (raA_leaf sX3_planesOf_68) (raA_br (raA_leaf sX3_planesOf_71) (raA_leaf sX3_planesOf_74)))))))
theorem sX3_tellBand_0 {h0 : Hp_} : Snd 0 108 h0 (miT TbC) RX3 cX3_tellBand 4 none 0 (i_aload 1 0) := snd_aload_n rfl dX3_tellBand_0
theorem sX3_tellBand_1 {h0 : Hp_} : Snd 0 108 h0 (miT TbC) RX3 cX3_tellBand 4 none 1 (i_getR 3 2 4) := snd_getR rfl (by decide) (by decide) (by decide) (fun hK ho hs hq kk => gf_X3_22 hK ho hs hq rfl dX3_tellBand_1 kk)
theorem sX3_tellBand_4 {h0 : Hp_} : Snd 0 108 h0 (miT TbC) RX3 cX3_tellBand 4 none 4 (i_iload 5 1) := snd_iload_n rfl dX3_tellBand_4
theorem sX3_tellBand_5 {h0 : Hp_} : Snd 0 108 h0 (miT TbC) RX3 cX3_tellBand 4 none 5 (i_aload 6 0) := snd_aload_n rfl dX3_tellBand_5
theorem sX3_tellBand_6 {h0 : Hp_} : Snd 0 108 h0 (miT TbC) RX3 cX3_tellBand 4 none 6 (i_getR 3 7 9) := snd_getR rfl (by decide) (by decide) (by decide) (fun hK ho hs hq kk => gf_X3_40 hK ho hs hq rfl dX3_tellBand_6 kk)
theorem sX3_tellBand_9 {h0 : Hp_} : Snd 0 108 h0 (miT TbC) RX3 cX3_tellBand 4 none 9 (i_cV0 26 1 12) := snd_cV0 (fun hK hd hC ho hs h6 h7 h8 kk => iv_X3_153 hK (mcC_26 hC) ho hs ⟨hd, by show _ ≤ 40 * (_ + 1); omega⟩ (Nat.le_refl _) h6 h7 h8 ⟨Nat.le_refl _, Nat.le_refl _⟩ dX3_tellBand_9 kk)
theorem sX3_tellBand_12 {h0 : Hp_} : Snd 0 108 h0 (miT TbC) RX3 cX3_tellBand 4 none 12 (i_iast 0 108 13) := snd_iast dX3_tellBand_12
theorem sX3_tellBand_13 {h0 : Hp_} : Snd 0 108 h0 (miT TbC) RX3 cX3_tellBand 4 none 13 (i_aload 14 0) := snd_aload_n rfl dX3_tellBand_13
theorem sX3_tellBand_14 {h0 : Hp_} : Snd 0 108 h0 (miT TbC) RX3 cX3_tellBand 4 none 14 (i_getR 3 3 17) := snd_getR rfl (by decide) (by decide) (by decide) (fun hK ho hs hq kk => gf_X3_25 hK ho hs hq rfl dX3_tellBand_14 kk)
theorem sX3_tellBand_17 {h0 : Hp_} : Snd 0 108 h0 (miT TbC) RX3 cX3_tellBand 4 none 17 (i_iload 18 1) := snd_iload_n rfl dX3_tellBand_17
theorem sX3_tellBand_18 {h0 : Hp_} : Snd 0 108 h0 (miT TbC) RX3 cX3_tellBand 4 none 18 (i_const 19 (vI 0)) := snd_iconst dX3_tellBand_18
theorem sX3_tellBand_19 {h0 : Hp_} : Snd 0 108 h0 (miT TbC) RX3 cX3_tellBand 4 none 19 (i_iast 0 108 20) := snd_iast dX3_tellBand_19
theorem sX3_tellBand_20 {h0 : Hp_} : Snd 0 108 h0 (miT TbC) RX3 cX3_tellBand 4 none 20 (i_aload 21 0) := snd_aload_n rfl dX3_tellBand_20
theorem sX3_tellBand_21 {h0 : Hp_} : Snd 0 108 h0 (miT TbC) RX3 cX3_tellBand 4 none 21 (i_getR 3 8 24) := snd_getR rfl (by decide) (by decide) (by decide) (fun hK ho hs hq kk => gf_X3_47 hK ho hs hq rfl dX3_tellBand_21 kk)
theorem sX3_tellBand_24 {h0 : Hp_} : Snd 0 108 h0 (miT TbC) RX3 cX3_tellBand 4 none 24 (i_cV0 66 7 27) := snd_cV0 (fun hK hd hC ho hs h6 h7 h8 kk => iv_X3_157 hK (mcC_66 hC) ho hs ⟨hd, by show _ ≤ 40 * (_ + 1); omega⟩ (Nat.le_refl _) h6 h7 h8 ⟨Nat.le_refl _, Nat.le_refl _⟩ dX3_tellBand_24 kk)
theorem sX3_tellBand_27 {h0 : Hp_} : Snd 0 108 h0 (miT TbC) RX3 cX3_tellBand 4 none 27 (i_aload 28 0) := snd_aload_n rfl dX3_tellBand_27
theorem sX3_tellBand_28 {h0 : Hp_} : Snd 0 108 h0 (miT TbC) RX3 cX3_tellBand 4 none 28 (i_getR 3 1 31) := snd_getR rfl (by decide) (by decide) (by decide) (fun hK ho hs hq kk => gf_X3_18 hK ho hs hq rfl dX3_tellBand_28 kk)
theorem sX3_tellBand_31 {h0 : Hp_} : Snd 0 108 h0 (miT TbC) RX3 cX3_tellBand 4 none 31 (i_iload 32 1) := snd_iload_n rfl dX3_tellBand_31
theorem sX3_tellBand_32 {h0 : Hp_} : Snd 0 108 h0 (miT TbC) RX3 cX3_tellBand 4 none 32 (i_iald 0 108 33) := snd_iald dX3_tellBand_32
theorem sX3_tellBand_33 {h0 : Hp_} : Snd 0 108 h0 (miT TbC) RX3 cX3_tellBand 4 none 33 (i_if_ne 36 37) := snd_if_ne dX3_tellBand_33 rfl
theorem sX3_tellBand_36 {h0 : Hp_} : Snd 0 108 h0 (miT TbC) RX3 cX3_tellBand 4 none 36 (i_vret) := snd_vret dX3_tellBand_36
theorem sX3_tellBand_37 {h0 : Hp_} : Snd 0 108 h0 (miT TbC) RX3 cX3_tellBand 4 none 37 (i_aload 38 0) := snd_aload_n rfl dX3_tellBand_37
theorem sX3_tellBand_38 {h0 : Hp_} : Snd 0 108 h0 (miT TbC) RX3 cX3_tellBand 4 none 38 (i_getR 3 9 41) := snd_getR rfl (by decide) (by decide) (by decide) (fun hK ho hs hq kk => gf_X3_56 hK ho hs hq rfl dX3_tellBand_38 kk)
theorem sX3_tellBand_41 {h0 : Hp_} : Snd 0 108 h0 (miT TbC) RX3 cX3_tellBand 4 none 41 (i_aload 42 0) := snd_aload_n rfl dX3_tellBand_41
theorem sX3_tellBand_42 {h0 : Hp_} : Snd 0 108 h0 (miT TbC) RX3 cX3_tellBand 4 none 42 (i_getR 3 0 45) := snd_getR rfl (by decide) (by decide) (by decide) (fun hK ho hs hq kk => gf_X3_12 hK ho hs hq rfl dX3_tellBand_42 kk)
theorem sX3_tellBand_45 {h0 : Hp_} : Snd 0 108 h0 (miT TbC) RX3 cX3_tellBand 4 none 45 (i_getR 0 3 48) := snd_getR rfl (by decide) (by decide) (by decide) (fun hK ho hs hq kk => gf_X3_79 hK ho hs hq rfl dX3_tellBand_45 kk)
theorem sX3_tellBand_48 {h0 : Hp_} : Snd 0 108 h0 (miT TbC) RX3 cX3_tellBand 4 none 48 (i_iload 49 1) := snd_iload_n rfl dX3_tellBand_48
theorem sX3_tellBand_49 {h0 : Hp_} : Snd 0 108 h0 (miT TbC) RX3 cX3_tellBand 4 none 49 (i_iald 0 108 50) := snd_iald dX3_tellBand_49
theorem sX3_tellBand_50 {h0 : Hp_} : Snd 0 108 h0 (miT TbC) RX3 cX3_tellBand 4 none 50 (i_aload 51 0) := snd_aload_n rfl dX3_tellBand_50
theorem sX3_tellBand_51 {h0 : Hp_} : Snd 0 108 h0 (miT TbC) RX3 cX3_tellBand 4 none 51 (i_getR 3 0 54) := snd_getR rfl (by decide) (by decide) (by decide) (fun hK ho hs hq kk => gf_X3_12 hK ho hs hq rfl dX3_tellBand_51 kk)
theorem sX3_tellBand_54 {h0 : Hp_} : Snd 0 108 h0 (miT TbC) RX3 cX3_tellBand 4 none 54 (i_getR 0 4 57) := snd_getR rfl (by decide) (by decide) (by decide) (fun hK ho hs hq kk => gf_X3_82 hK ho hs hq rfl dX3_tellBand_54 kk)
theorem sX3_tellBand_57 {h0 : Hp_} : Snd 0 108 h0 (miT TbC) RX3 cX3_tellBand 4 none 57 (i_iload 58 1) := snd_iload_n rfl dX3_tellBand_57
theorem sX3_tellBand_58 {h0 : Hp_} : Snd 0 108 h0 (miT TbC) RX3 cX3_tellBand 4 none 58 (i_iald 0 108 59) := snd_iald dX3_tellBand_58
theorem sX3_tellBand_59 {h0 : Hp_} : Snd 0 108 h0 (miT TbC) RX3 cX3_tellBand 4 none 59 (i_aload 60 0) := snd_aload_n rfl dX3_tellBand_59
theorem sX3_tellBand_60 {h0 : Hp_} : Snd 0 108 h0 (miT TbC) RX3 cX3_tellBand 4 none 60 (i_getR 3 0 63) := snd_getR rfl (by decide) (by decide) (by decide) (fun hK ho hs hq kk => gf_X3_12 hK ho hs hq rfl dX3_tellBand_60 kk)
theorem sX3_tellBand_63 {h0 : Hp_} : Snd 0 108 h0 (miT TbC) RX3 cX3_tellBand 4 none 63 (i_iload 64 1) := snd_iload_n rfl dX3_tellBand_63
theorem sX3_tellBand_64 {h0 : Hp_} : Snd 0 108 h0 (miT TbC) RX3 cX3_tellBand 4 none 64 (i_cV1 7 0 67) := snd_cV1 (fun hK hd hC ho hs h6 h7 h8 kk => iv_X3_158 hK (mcC_7 hC) ho hs ⟨hd, by show _ ≤ 40 * (_ + 1); omega⟩ (Nat.le_refl _) h6 h7 h8 ⟨Nat.le_refl _, Nat.le_refl _⟩ dX3_tellBand_64 kk)
theorem sX3_tellBand_67 {h0 : Hp_} : Snd 0 108 h0 (miT TbC) RX3 cX3_tellBand 4 none 67 (i_cV3 43 4 70) := snd_cV3 (fun hK hd hC ho hs h6 h7 h8 kk => iv_X3_161 hK (mcC_43 hC) ho hs ⟨hd, by show _ ≤ 40 * (_ + 1); omega⟩ (Nat.le_refl _) h6 h7 h8 ⟨Nat.le_refl _, Nat.le_refl _⟩ dX3_tellBand_67 kk)
theorem sX3_tellBand_70 {h0 : Hp_} : Snd 0 108 h0 (miT TbC) RX3 cX3_tellBand 4 none 70 (i_const 71 (vI 0)) := snd_iconst dX3_tellBand_70
theorem sX3_tellBand_71 {h0 : Hp_} : Snd 0 108 h0 (miT TbC) RX3 cX3_tellBand 4 none 71 (i_istore 72 2) := snd_istore_n rfl (by decide) dX3_tellBand_71
theorem sX3_tellBand_72 {h0 : Hp_} : Snd 0 108 h0 (miT TbC) RX3 cX3_tellBand 4 none 72 (i_iload 73 2) := snd_iload_n rfl dX3_tellBand_72
theorem sX3_tellBand_73 {h0 : Hp_} : Snd 0 108 h0 (miT TbC) RX3 cX3_tellBand 4 none 73 (i_aload 74 0) := snd_aload_n rfl dX3_tellBand_73
theorem sX3_tellBand_74 {h0 : Hp_} : Snd 0 108 h0 (miT TbC) RX3 cX3_tellBand 4 none 74 (i_getR 3 0 77) := snd_getR rfl (by decide) (by decide) (by decide) (fun hK ho hs hq kk => gf_X3_12 hK ho hs hq rfl dX3_tellBand_74 kk)
theorem sX3_tellBand_77 {h0 : Hp_} : Snd 0 108 h0 (miT TbC) RX3 cX3_tellBand 4 none 77 (i_getR 0 4 80) := snd_getR rfl (by decide) (by decide) (by decide) (fun hK ho hs hq kk => gf_X3_82 hK ho hs hq rfl dX3_tellBand_77 kk)
theorem sX3_tellBand_80 {h0 : Hp_} : Snd 0 108 h0 (miT TbC) RX3 cX3_tellBand 4 none 80 (i_iload 81 1) := snd_iload_n rfl dX3_tellBand_80
theorem sX3_tellBand_81 {h0 : Hp_} : Snd 0 108 h0 (miT TbC) RX3 cX3_tellBand 4 none 81 (i_iald 0 108 82) := snd_iald dX3_tellBand_81
theorem sX3_tellBand_82 {h0 : Hp_} : Snd 0 108 h0 (miT TbC) RX3 cX3_tellBand 4 none 82 (i_icmp_ge 85 131) := snd_icmp_ge dX3_tellBand_82 rfl
theorem sX3_tellBand_85 {h0 : Hp_} : Snd 0 108 h0 (miT TbC) RX3 cX3_tellBand 4 none 85 (i_const 86 (vI 0)) := snd_iconst dX3_tellBand_85
theorem sX3_tellBand_86 {h0 : Hp_} : Snd 0 108 h0 (miT TbC) RX3 cX3_tellBand 4 none 86 (i_istore 87 3) := snd_istore_n rfl (by decide) dX3_tellBand_86
theorem sX3_tellBand_87 {h0 : Hp_} : Snd 0 108 h0 (miT TbC) RX3 cX3_tellBand 4 none 87 (i_iload 88 3) := snd_iload_n rfl dX3_tellBand_87
theorem sX3_tellBand_88 {h0 : Hp_} : Snd 0 108 h0 (miT TbC) RX3 cX3_tellBand 4 none 88 (i_aload 89 0) := snd_aload_n rfl dX3_tellBand_88
theorem sX3_tellBand_89 {h0 : Hp_} : Snd 0 108 h0 (miT TbC) RX3 cX3_tellBand 4 none 89 (i_getR 3 0 92) := snd_getR rfl (by decide) (by decide) (by decide) (fun hK ho hs hq kk => gf_X3_12 hK ho hs hq rfl dX3_tellBand_89 kk)
theorem sX3_tellBand_92 {h0 : Hp_} : Snd 0 108 h0 (miT TbC) RX3 cX3_tellBand 4 none 92 (i_getR 0 3 95) := snd_getR rfl (by decide) (by decide) (by decide) (fun hK ho hs hq kk => gf_X3_79 hK ho hs hq rfl dX3_tellBand_92 kk)
theorem sX3_tellBand_95 {h0 : Hp_} : Snd 0 108 h0 (miT TbC) RX3 cX3_tellBand 4 none 95 (i_iload 96 1) := snd_iload_n rfl dX3_tellBand_95
theorem sX3_tellBand_96 {h0 : Hp_} : Snd 0 108 h0 (miT TbC) RX3 cX3_tellBand 4 none 96 (i_iald 0 108 97) := snd_iald dX3_tellBand_96
theorem sX3_tellBand_97 {h0 : Hp_} : Snd 0 108 h0 (miT TbC) RX3 cX3_tellBand 4 none 97 (i_icmp_ge 100 125) := snd_icmp_ge dX3_tellBand_97 rfl
theorem sX3_tellBand_100 {h0 : Hp_} : Snd 0 108 h0 (miT TbC) RX3 cX3_tellBand 4 none 100 (i_aload 101 0) := snd_aload_n rfl dX3_tellBand_100
theorem sX3_tellBand_101 {h0 : Hp_} : Snd 0 108 h0 (miT TbC) RX3 cX3_tellBand 4 none 101 (i_getR 3 9 104) := snd_getR rfl (by decide) (by decide) (by decide) (fun hK ho hs hq kk => gf_X3_56 hK ho hs hq rfl dX3_tellBand_101 kk)
theorem sX3_tellBand_104 {h0 : Hp_} : Snd 0 108 h0 (miT TbC) RX3 cX3_tellBand 4 none 104 (i_iload 105 3) := snd_iload_n rfl dX3_tellBand_104
theorem sX3_tellBand_105 {h0 : Hp_} : Snd 0 108 h0 (miT TbC) RX3 cX3_tellBand 4 none 105 (i_iload 106 2) := snd_iload_n rfl dX3_tellBand_105
theorem sX3_tellBand_106 {h0 : Hp_} : Snd 0 108 h0 (miT TbC) RX3 cX3_tellBand 4 none 106 (i_aload 107 0) := snd_aload_n rfl dX3_tellBand_106
theorem sX3_tellBand_107 {h0 : Hp_} : Snd 0 108 h0 (miT TbC) RX3 cX3_tellBand 4 none 107 (i_getR 3 0 110) := snd_getR rfl (by decide) (by decide) (by decide) (fun hK ho hs hq kk => gf_X3_12 hK ho hs hq rfl dX3_tellBand_107 kk)
theorem sX3_tellBand_110 {h0 : Hp_} : Snd 0 108 h0 (miT TbC) RX3 cX3_tellBand 4 none 110 (i_iload 111 1) := snd_iload_n rfl dX3_tellBand_110
theorem sX3_tellBand_111 {h0 : Hp_} : Snd 0 108 h0 (miT TbC) RX3 cX3_tellBand 4 none 111 (i_iload 112 3) := snd_iload_n rfl dX3_tellBand_111
theorem sX3_tellBand_112 {h0 : Hp_} : Snd 0 108 h0 (miT TbC) RX3 cX3_tellBand 4 none 112 (i_iload 113 2) := snd_iload_n rfl dX3_tellBand_112
theorem sX3_tellBand_113 {h0 : Hp_} : Snd 0 108 h0 (miT TbC) RX3 cX3_tellBand 4 none 113 (i_cV3 2 0 116) := snd_cV3 (fun hK hd hC ho hs h6 h7 h8 kk => iv_X3_89 hK (mcC_2 hC) ho hs ⟨hd, by show _ ≤ 40 * (_ + 1); omega⟩ (Nat.le_refl _) h6 h7 h8 ⟨Nat.le_refl _, Nat.le_refl _⟩ dX3_tellBand_113 kk)
theorem sX3_tellBand_116 {h0 : Hp_} : Snd 0 108 h0 (miT TbC) RX3 cX3_tellBand 4 none 116 (i_cV3 51 4 119) := snd_cV3 (fun hK hd hC ho hs h6 h7 h8 kk => iv_X3_164 hK (mcC_51 hC) ho hs ⟨hd, by show _ ≤ 40 * (_ + 1); omega⟩ (Nat.le_refl _) h6 h7 h8 ⟨Nat.le_refl _, Nat.le_refl _⟩ dX3_tellBand_116 kk)
theorem sX3_tellBand_119 {h0 : Hp_} : Snd 0 108 h0 (miT TbC) RX3 cX3_tellBand 4 none 119 (i_iinc 122 3 1) := snd_iinc (by decide) dX3_tellBand_119
theorem sX3_tellBand_122 {h0 : Hp_} : Snd 0 108 h0 (miT TbC) RX3 cX3_tellBand 4 none 122 (i_goto 87) := snd_goto dX3_tellBand_122 rfl
theorem sX3_tellBand_125 {h0 : Hp_} : Snd 0 108 h0 (miT TbC) RX3 cX3_tellBand 4 none 125 (i_iinc 128 2 1) := snd_iinc (by decide) dX3_tellBand_125
theorem sX3_tellBand_128 {h0 : Hp_} : Snd 0 108 h0 (miT TbC) RX3 cX3_tellBand 4 none 128 (i_goto 72) := snd_goto dX3_tellBand_128 rfl
theorem sX3_tellBand_131 {h0 : Hp_} : Snd 0 108 h0 (miT TbC) RX3 cX3_tellBand 4 none 131 (i_const 132 (vI 0)) := snd_iconst dX3_tellBand_131
theorem sX3_tellBand_132 {h0 : Hp_} : Snd 0 108 h0 (miT TbC) RX3 cX3_tellBand 4 none 132 (i_istore 133 2) := snd_istore_n rfl (by decide) dX3_tellBand_132
theorem sX3_tellBand_133 {h0 : Hp_} : Snd 0 108 h0 (miT TbC) RX3 cX3_tellBand 4 none 133 (i_iload 134 2) := snd_iload_n rfl dX3_tellBand_133
theorem sX3_tellBand_134 {h0 : Hp_} : Snd 0 108 h0 (miT TbC) RX3 cX3_tellBand 4 none 134 (i_aload 135 0) := snd_aload_n rfl dX3_tellBand_134
theorem sX3_tellBand_135 {h0 : Hp_} : Snd 0 108 h0 (miT TbC) RX3 cX3_tellBand 4 none 135 (i_getR 3 1 138) := snd_getR rfl (by decide) (by decide) (by decide) (fun hK ho hs hq kk => gf_X3_18 hK ho hs hq rfl dX3_tellBand_135 kk)
theorem sX3_tellBand_138 {h0 : Hp_} : Snd 0 108 h0 (miT TbC) RX3 cX3_tellBand 4 none 138 (i_iload 139 1) := snd_iload_n rfl dX3_tellBand_138
theorem sX3_tellBand_139 {h0 : Hp_} : Snd 0 108 h0 (miT TbC) RX3 cX3_tellBand 4 none 139 (i_iald 0 108 140) := snd_iald dX3_tellBand_139
theorem sX3_tellBand_140 {h0 : Hp_} : Snd 0 108 h0 (miT TbC) RX3 cX3_tellBand 4 none 140 (i_cS1 19 143) := snd_cS1 (fun hK hd hC h6 h7 h8 kk => iv_X3_85 hK (mcC_19 hC) ⟨hd, by show _ ≤ 40 * (_ + 1); omega⟩ (Nat.le_refl _) h6 h7 h8 ⟨Nat.le_refl _, Nat.le_refl _⟩ dX3_tellBand_140 kk)
theorem sX3_tellBand_143 {h0 : Hp_} : Snd 0 108 h0 (miT TbC) RX3 cX3_tellBand 4 none 143 (i_icmp_ge 146 173) := snd_icmp_ge dX3_tellBand_143 rfl
theorem sX3_tellBand_146 {h0 : Hp_} : Snd 0 108 h0 (miT TbC) RX3 cX3_tellBand 4 none 146 (i_aload 147 0) := snd_aload_n rfl dX3_tellBand_146
theorem sX3_tellBand_147 {h0 : Hp_} : Snd 0 108 h0 (miT TbC) RX3 cX3_tellBand 4 none 147 (i_getR 3 9 150) := snd_getR rfl (by decide) (by decide) (by decide) (fun hK ho hs hq kk => gf_X3_56 hK ho hs hq rfl dX3_tellBand_147 kk)
theorem sX3_tellBand_150 {h0 : Hp_} : Snd 0 108 h0 (miT TbC) RX3 cX3_tellBand 4 none 150 (i_iload 151 2) := snd_iload_n rfl dX3_tellBand_150
theorem sX3_tellBand_151 {h0 : Hp_} : Snd 0 108 h0 (miT TbC) RX3 cX3_tellBand 4 none 151 (i_aload 152 0) := snd_aload_n rfl dX3_tellBand_151
theorem sX3_tellBand_152 {h0 : Hp_} : Snd 0 108 h0 (miT TbC) RX3 cX3_tellBand 4 none 152 (i_getR 3 1 155) := snd_getR rfl (by decide) (by decide) (by decide) (fun hK ho hs hq kk => gf_X3_18 hK ho hs hq rfl dX3_tellBand_152 kk)
theorem sX3_tellBand_155 {h0 : Hp_} : Snd 0 108 h0 (miT TbC) RX3 cX3_tellBand 4 none 155 (i_iload 156 1) := snd_iload_n rfl dX3_tellBand_155
theorem sX3_tellBand_156 {h0 : Hp_} : Snd 0 108 h0 (miT TbC) RX3 cX3_tellBand 4 none 156 (i_iald 0 108 157) := snd_iald dX3_tellBand_156
theorem sX3_tellBand_157 {h0 : Hp_} : Snd 0 108 h0 (miT TbC) RX3 cX3_tellBand 4 none 157 (i_cV2 56 4 160) := snd_cV2 (fun hK hd hC ho hs h6 h7 h8 kk => iv_X3_167 hK (mcC_56 hC) ho hs ⟨hd, by show _ ≤ 40 * (_ + 1); omega⟩ (Nat.le_refl _) h6 h7 h8 ⟨Nat.le_refl _, Nat.le_refl _⟩ dX3_tellBand_157 kk)
theorem sX3_tellBand_160 {h0 : Hp_} : Snd 0 108 h0 (miT TbC) RX3 cX3_tellBand 4 none 160 (i_aload 161 0) := snd_aload_n rfl dX3_tellBand_160
theorem sX3_tellBand_161 {h0 : Hp_} : Snd 0 108 h0 (miT TbC) RX3 cX3_tellBand 4 none 161 (i_getR 3 8 164) := snd_getR rfl (by decide) (by decide) (by decide) (fun hK ho hs hq kk => gf_X3_47 hK ho hs hq rfl dX3_tellBand_161 kk)
theorem sX3_tellBand_164 {h0 : Hp_} : Snd 0 108 h0 (miT TbC) RX3 cX3_tellBand 4 none 164 (i_cV0 67 7 167) := snd_cV0 (fun hK hd hC ho hs h6 h7 h8 kk => iv_X3_171 hK (mcC_67 hC) ho hs ⟨hd, by show _ ≤ 40 * (_ + 1); omega⟩ (Nat.le_refl _) h6 h7 h8 ⟨Nat.le_refl _, Nat.le_refl _⟩ dX3_tellBand_164 kk)
theorem sX3_tellBand_167 {h0 : Hp_} : Snd 0 108 h0 (miT TbC) RX3 cX3_tellBand 4 none 167 (i_iinc 170 2 1) := snd_iinc (by decide) dX3_tellBand_167
theorem sX3_tellBand_170 {h0 : Hp_} : Snd 0 108 h0 (miT TbC) RX3 cX3_tellBand 4 none 170 (i_goto 133) := snd_goto dX3_tellBand_170 rfl
theorem sX3_tellBand_173 {h0 : Hp_} : Snd 0 108 h0 (miT TbC) RX3 cX3_tellBand 4 none 173 (i_aload 174 0) := snd_aload_n rfl dX3_tellBand_173
theorem sX3_tellBand_174 {h0 : Hp_} : Snd 0 108 h0 (miT TbC) RX3 cX3_tellBand 4 none 174 (i_getR 3 10 177) := snd_getR rfl (by decide) (by decide) (by decide) (fun hK ho hs hq kk => gf_X3_63 hK ho hs hq rfl dX3_tellBand_174 kk)
theorem sX3_tellBand_177 {h0 : Hp_} : Snd 0 108 h0 (miT TbC) RX3 cX3_tellBand 4 none 177 (i_cV0 72 8 180) := snd_cV0 (fun hK hd hC ho hs h6 h7 h8 kk => iv_X3_174 hK (mcC_72 hC) ho hs ⟨hd, by show _ ≤ 40 * (_ + 1); omega⟩ (Nat.le_refl _) h6 h7 h8 ⟨Nat.le_refl _, Nat.le_refl _⟩ dX3_tellBand_177 kk)
theorem sX3_tellBand_180 {h0 : Hp_} : Snd 0 108 h0 (miT TbC) RX3 cX3_tellBand 4 none 180 (i_aload 181 0) := snd_aload_n rfl dX3_tellBand_180
theorem sX3_tellBand_181 {h0 : Hp_} : Snd 0 108 h0 (miT TbC) RX3 cX3_tellBand 4 none 181 (i_getR 3 8 184) := snd_getR rfl (by decide) (by decide) (by decide) (fun hK ho hs hq kk => gf_X3_47 hK ho hs hq rfl dX3_tellBand_181 kk)
theorem sX3_tellBand_184 {h0 : Hp_} : Snd 0 108 h0 (miT TbC) RX3 cX3_tellBand 4 none 184 (i_aload 185 0) := snd_aload_n rfl dX3_tellBand_184
theorem sX3_tellBand_185 {h0 : Hp_} : Snd 0 108 h0 (miT TbC) RX3 cX3_tellBand 4 none 185 (i_getR 3 10 188) := snd_getR rfl (by decide) (by decide) (by decide) (fun hK ho hs hq kk => gf_X3_63 hK ho hs hq rfl dX3_tellBand_185 kk)
theorem sX3_tellBand_188 {h0 : Hp_} : Snd 0 108 h0 (miT TbC) RX3 cX3_tellBand 4 none 188 (i_cV1 70 7 191) := snd_cV1 (fun hK hd hC ho hs h6 h7 h8 kk => iv_X3_176 hK (mcC_70 hC) ho hs ⟨hd, by show _ ≤ 40 * (_ + 1); omega⟩ (Nat.le_refl _) h6 h7 h8 ⟨Nat.le_refl _, Nat.le_refl _⟩ dX3_tellBand_188 kk)
theorem sX3_tellBand_191 {h0 : Hp_} : Snd 0 108 h0 (miT TbC) RX3 cX3_tellBand 4 none 191 (i_aload 192 0) := snd_aload_n rfl dX3_tellBand_191
theorem sX3_tellBand_192 {h0 : Hp_} : Snd 0 108 h0 (miT TbC) RX3 cX3_tellBand 4 none 192 (i_getR 3 10 195) := snd_getR rfl (by decide) (by decide) (by decide) (fun hK ho hs hq kk => gf_X3_63 hK ho hs hq rfl dX3_tellBand_192 kk)
theorem sX3_tellBand_195 {h0 : Hp_} : Snd 0 108 h0 (miT TbC) RX3 cX3_tellBand 4 none 195 (i_cV0 73 8 198) := snd_cV0 (fun hK hd hC ho hs h6 h7 h8 kk => iv_X3_180 hK (mcC_73 hC) ho hs ⟨hd, by show _ ≤ 40 * (_ + 1); omega⟩ (Nat.le_refl _) h6 h7 h8 ⟨Nat.le_refl _, Nat.le_refl _⟩ dX3_tellBand_195 kk)
theorem sX3_tellBand_198 {h0 : Hp_} : Snd 0 108 h0 (miT TbC) RX3 cX3_tellBand 4 none 198 (i_aload 199 0) := snd_aload_n rfl dX3_tellBand_198
theorem sX3_tellBand_199 {h0 : Hp_} : Snd 0 108 h0 (miT TbC) RX3 cX3_tellBand 4 none 199 (i_getR 3 3 202) := snd_getR rfl (by decide) (by decide) (by decide) (fun hK ho hs hq kk => gf_X3_25 hK ho hs hq rfl dX3_tellBand_199 kk)
theorem sX3_tellBand_202 {h0 : Hp_} : Snd 0 108 h0 (miT TbC) RX3 cX3_tellBand 4 none 202 (i_iload 203 1) := snd_iload_n rfl dX3_tellBand_202
theorem sX3_tellBand_203 {h0 : Hp_} : Snd 0 108 h0 (miT TbC) RX3 cX3_tellBand 4 none 203 (i_aload 204 0) := snd_aload_n rfl dX3_tellBand_203
theorem sX3_tellBand_204 {h0 : Hp_} : Snd 0 108 h0 (miT TbC) RX3 cX3_tellBand 4 none 204 (i_getR 3 10 207) := snd_getR rfl (by decide) (by decide) (by decide) (fun hK ho hs hq kk => gf_X3_63 hK ho hs hq rfl dX3_tellBand_204 kk)
theorem sX3_tellBand_207 {h0 : Hp_} : Snd 0 108 h0 (miT TbC) RX3 cX3_tellBand 4 none 207 (i_aload 208 0) := snd_aload_n rfl dX3_tellBand_207
theorem sX3_tellBand_208 {h0 : Hp_} : Snd 0 108 h0 (miT TbC) RX3 cX3_tellBand 4 none 208 (i_getR 3 7 211) := snd_getR rfl (by decide) (by decide) (by decide) (fun hK ho hs hq kk => gf_X3_40 hK ho hs hq rfl dX3_tellBand_208 kk)
theorem sX3_tellBand_211 {h0 : Hp_} : Snd 0 108 h0 (miT TbC) RX3 cX3_tellBand 4 none 211 (i_cV1 71 8 214) := snd_cV1 (fun hK hd hC ho hs h6 h7 h8 kk => iv_X3_183 hK (mcC_71 hC) ho hs ⟨hd, by show _ ≤ 40 * (_ + 1); omega⟩ (Nat.le_refl _) h6 h7 h8 ⟨Nat.le_refl _, Nat.le_refl _⟩ dX3_tellBand_211 kk)
theorem sX3_tellBand_214 {h0 : Hp_} : Snd 0 108 h0 (miT TbC) RX3 cX3_tellBand 4 none 214 (i_iast 0 108 215) := snd_iast dX3_tellBand_214
theorem sX3_tellBand_215 {h0 : Hp_} : Snd 0 108 h0 (miT TbC) RX3 cX3_tellBand 4 none 215 (i_vret) := snd_vret dX3_tellBand_215
theorem kX3_tellBand {h0 : Hp_} : raA (okI 0 108 h0 (miT TbC) (yX3_tellBand, cX3_tellBand, 4, none)) tX3_tellBand := (raA_br (raA_br (raA_br (raA_br (raA_br (raA_br (raA_leaf sX3_tellBand_0) (raA_br (raA_leaf sX3_tellBand_1) (raA_leaf sX3_tellBand_4))) (raA_br (raA_br (raA_leaf sX3_tellBand_5) (raA_leaf sX3_tellBand_6)) (raA_br (raA_leaf sX3_tellBand_9) (raA_leaf sX3_tellBand_12)))) (raA_br (raA_br (raA_leaf sX3_tellBand_13) (raA_br (raA_leaf sX3_tellBand_14) (raA_leaf sX3_tellBand_17))) (raA_br (raA_br (raA_leaf sX3_tellBand_18) (raA_leaf sX3_tellBand_19)) (raA_br (raA_leaf sX3_tellBand_20) (raA_leaf sX3_tellBand_21))))) (raA_br (raA_br (raA_br (raA_leaf sX3_tellBand_24) (raA_br (raA_leaf sX3_tellBand_27) (raA_leaf sX3_tellBand_28))) (raA_br (raA_br (raA_leaf sX3_tellBand_31) (raA_leaf sX3_tellBand_32)) (raA_br (raA_leaf sX3_tellBand_33) (raA_leaf sX3_tellBand_36)))) (raA_br (raA_br (raA_leaf sX3_tellBand_37) (raA_br (raA_leaf sX3_tellBand_38) (raA_leaf sX3_tellBand_41))) (raA_br (raA_br (raA_leaf sX3_tellBand_42) (raA_leaf sX3_tellBand_45)) (raA_br (raA_leaf sX3_tellBand_48) (raA_leaf sX3_tellBand_49)))))) (raA_br (raA_br (raA_br (raA_br (raA_leaf sX3_tellBand_50) (raA_br (raA_leaf sX3_tellBand_51) (raA_leaf sX3_tellBand_54))) (raA_br (raA_br (raA_leaf sX3_tellBand_57) (raA_leaf sX3_tellBand_58)) (raA_br (raA_leaf sX3_tellBand_59) (raA_leaf sX3_tellBand_60)))) (raA_br (raA_br (raA_leaf sX3_tellBand_63) (raA_br (raA_leaf sX3_tellBand_64) (raA_leaf sX3_tellBand_67))) (raA_br (raA_br (raA_leaf sX3_tellBand_70) (raA_leaf sX3_tellBand_71)) (raA_br (raA_leaf sX3_tellBand_72) (raA_leaf sX3_tellBand_73))))) (raA_br (raA_br (raA_br (raA_leaf sX3_tellBand_74) (raA_br (raA_leaf sX3_tellBand_77) (raA_leaf sX3_tellBand_80))) (raA_br (raA_br (raA_leaf sX3_tellBand_81) (raA_leaf sX3_tellBand_82)) (raA_br (raA_leaf sX3_tellBand_85) (raA_leaf sX3_tellBand_86)))) (raA_br (raA_br (raA_br (raA_leaf sX3_tellBand_87) (raA_leaf sX3_tellBand_88)) (raA_br (raA_leaf sX3_tellBand_89) (raA_leaf sX3_tellBand_92))) (raA_br (raA_br (raA_leaf sX3_tellBand_95) (raA_leaf sX3_tellBand_96)) (raA_br (raA_leaf sX3_tellBand_97) (raA_leaf sX3_tellBand_100))))))) (raA_br (raA_br (raA_br (raA_br (raA_br (raA_leaf sX3_tellBand_101) (raA_br (raA_leaf sX3_tellBand_104) (raA_leaf sX3_tellBand_105))) (raA_br (raA_br (raA_leaf sX3_tellBand_106) (raA_leaf sX3_tellBand_107)) (raA_br (raA_leaf sX3_tellBand_110) (raA_leaf sX3_tellBand_111)))) (raA_br (raA_br (raA_leaf sX3_tellBand_112) (raA_br (raA_leaf sX3_tellBand_113) (raA_leaf sX3_tellBand_116))) (raA_br (raA_br (raA_leaf sX3_tellBand_119) (raA_leaf sX3_tellBand_122)) (raA_br (raA_leaf sX3_tellBand_125) (raA_leaf sX3_tellBand_128))))) (raA_br (raA_br (raA_br (raA_leaf sX3_tellBand_131) (raA_br (raA_leaf sX3_tellBand_132) (raA_leaf sX3_tellBand_133))) (raA_br (raA_br (raA_leaf sX3_tellBand_134) (raA_leaf sX3_tellBand_135)) (raA_br (raA_leaf sX3_tellBand_138) (raA_leaf sX3_tellBand_139)))) (raA_br (raA_br (raA_leaf sX3_tellBand_140) (raA_br (raA_leaf sX3_tellBand_143) (raA_leaf sX3_tellBand_146))) (raA_br (raA_br (raA_leaf sX3_tellBand_147) (raA_leaf sX3_tellBand_150)) (raA_br (raA_leaf sX3_tellBand_151) (raA_leaf sX3_tellBand_152)))))) (raA_br (raA_br (raA_br (raA_br (raA_leaf sX3_tellBand_155) (raA_br (raA_leaf sX3_tellBand_156) (raA_leaf sX3_tellBand_157))) (raA_br (raA_br (raA_leaf sX3_tellBand_160) (raA_leaf sX3_tellBand_161)) (raA_br (raA_leaf sX3_tellBand_164) (raA_leaf sX3_tellBand_167)))) (raA_br (raA_br (raA_leaf sX3_tellBand_170) (raA_br (raA_leaf sX3_tellBand_173) (raA_leaf sX3_tellBand_174))) (raA_br (raA_br (raA_leaf sX3_tellBand_177) (raA_leaf sX3_tellBand_180)) (raA_br (raA_leaf sX3_tellBand_181) (raA_leaf sX3_tellBand_184))))) (raA_br (raA_br (raA_br (raA_leaf sX3_tellBand_185) (raA_br (raA_leaf sX3_tellBand_188) (raA_leaf sX3_tellBand_191))) (raA_br (raA_br (raA_leaf sX3_tellBand_192) (raA_leaf sX3_tellBand_195)) (raA_br (raA_leaf sX3_tellBand_198) (raA_leaf sX3_tellBand_199)))) (raA_br (raA_br (raA_br (raA_leaf sX3_tellBand_202) (raA_leaf sX3_tellBand_203)) (raA_br (raA_leaf sX3_tellBand_204) (raA_leaf sX3_tellBand_207))) (raA_br (raA_br (raA_leaf sX3_tellBand_208) (raA_leaf sX3_tellBand_211)) (raA_br (raA_leaf sX3_tellBand_214) (raA_leaf sX3_tellBand_215))))))))
theorem sX3_writeBandHead_0 {h0 : Hp_} : Snd 0 108 h0 (miT TbC) RX3 cX3_writeBandHead 9 none 0 (i_iload 1 2) := snd_iload_n rfl dX3_writeBandHead_0
theorem sX3_writeBandHead_1 {h0 : Hp_} : Snd 0 108 h0 (miT TbC) RX3 cX3_writeBandHead 9 none 1 (i_aload 2 0) := snd_aload_n rfl dX3_writeBandHead_1
theorem sX3_writeBandHead_2 {h0 : Hp_} : Snd 0 108 h0 (miT TbC) RX3 cX3_writeBandHead 9 none 2 (i_getR 3 5 5) := snd_getR rfl (by decide) (by decide) (by decide) (fun hK ho hs hq kk => gf_X3_31 hK ho hs hq rfl dX3_writeBandHead_2 kk)
theorem sX3_writeBandHead_5 {h0 : Hp_} : Snd 0 108 h0 (miT TbC) RX3 cX3_writeBandHead 9 none 5 (i_iload 6 1) := snd_iload_n rfl dX3_writeBandHead_5
theorem sX3_writeBandHead_6 {h0 : Hp_} : Snd 0 108 h0 (miT TbC) RX3 cX3_writeBandHead 9 none 6 (i_iald 0 108 7) := snd_iald dX3_writeBandHead_6
theorem sX3_writeBandHead_7 {h0 : Hp_} : Snd 0 108 h0 (miT TbC) RX3 cX3_writeBandHead 9 none 7 (i_isub 8) := snd_isub dX3_writeBandHead_7
theorem sX3_writeBandHead_8 {h0 : Hp_} : Snd 0 108 h0 (miT TbC) RX3 cX3_writeBandHead 9 none 8 (i_istore 10 4) := snd_istore (by decide) dX3_writeBandHead_8
theorem sX3_writeBandHead_10 {h0 : Hp_} : Snd 0 108 h0 (miT TbC) RX3 cX3_writeBandHead 9 none 10 (i_aload 11 3) := snd_aload_n rfl dX3_writeBandHead_10
theorem sX3_writeBandHead_11 {h0 : Hp_} : Snd 0 108 h0 (miT TbC) RX3 cX3_writeBandHead 9 none 11 (i_iload 13 4) := snd_iload dX3_writeBandHead_11
theorem sX3_writeBandHead_13 {h0 : Hp_} : Snd 0 108 h0 (miT TbC) RX3 cX3_writeBandHead 9 none 13 (i_if_le 16 20) := snd_if_le dX3_writeBandHead_13 rfl
theorem sX3_writeBandHead_16 {h0 : Hp_} : Snd 0 108 h0 (miT TbC) RX3 cX3_writeBandHead 9 none 16 (i_const 17 (vI 1)) := snd_iconst dX3_writeBandHead_16
theorem sX3_writeBandHead_17 {h0 : Hp_} : Snd 0 108 h0 (miT TbC) RX3 cX3_writeBandHead 9 none 17 (i_goto 21) := snd_goto dX3_writeBandHead_17 rfl
theorem sX3_writeBandHead_20 {h0 : Hp_} : Snd 0 108 h0 (miT TbC) RX3 cX3_writeBandHead 9 none 20 (i_const 21 (vI 0)) := snd_iconst dX3_writeBandHead_20
theorem sX3_writeBandHead_21 {h0 : Hp_} : Snd 0 108 h0 (miT TbC) RX3 cX3_writeBandHead 9 none 21 (i_const 22 (vI 1)) := snd_iconst dX3_writeBandHead_21
theorem sX3_writeBandHead_22 {h0 : Hp_} : Snd 0 108 h0 (miT TbC) RX3 cX3_writeBandHead 9 none 22 (i_cV2 27 1 25) := snd_cV2 (fun hK hd hC ho hs h6 h7 h8 kk => iv_X3_207 hK (mcC_27 hC) ho hs ⟨hd, by show _ ≤ 40 * (_ + 1); omega⟩ (Nat.le_refl _) h6 h7 h8 ⟨Nat.le_refl _, Nat.le_refl _⟩ dX3_writeBandHead_22 kk)
theorem sX3_writeBandHead_25 {h0 : Hp_} : Snd 0 108 h0 (miT TbC) RX3 cX3_writeBandHead 9 none 25 (i_iload 27 4) := snd_iload dX3_writeBandHead_25
theorem sX3_writeBandHead_27 {h0 : Hp_} : Snd 0 108 h0 (miT TbC) RX3 cX3_writeBandHead 9 none 27 (i_if_gt 30 31) := snd_if_gt dX3_writeBandHead_27 rfl
theorem sX3_writeBandHead_30 {h0 : Hp_} : Snd 0 108 h0 (miT TbC) RX3 cX3_writeBandHead 9 none 30 (i_vret) := snd_vret dX3_writeBandHead_30
theorem sX3_writeBandHead_31 {h0 : Hp_} : Snd 0 108 h0 (miT TbC) RX3 cX3_writeBandHead 9 none 31 (i_aload 32 0) := snd_aload_n rfl dX3_writeBandHead_31
theorem sX3_writeBandHead_32 {h0 : Hp_} : Snd 0 108 h0 (miT TbC) RX3 cX3_writeBandHead 9 none 32 (i_getR 3 5 35) := snd_getR rfl (by decide) (by decide) (by decide) (fun hK ho hs hq kk => gf_X3_31 hK ho hs hq rfl dX3_writeBandHead_32 kk)
theorem sX3_writeBandHead_35 {h0 : Hp_} : Snd 0 108 h0 (miT TbC) RX3 cX3_writeBandHead 9 none 35 (i_iload 36 1) := snd_iload_n rfl dX3_writeBandHead_35
theorem sX3_writeBandHead_36 {h0 : Hp_} : Snd 0 108 h0 (miT TbC) RX3 cX3_writeBandHead 9 none 36 (i_iald 0 108 37) := snd_iald dX3_writeBandHead_36
theorem sX3_writeBandHead_37 {h0 : Hp_} : Snd 0 108 h0 (miT TbC) RX3 cX3_writeBandHead 9 none 37 (i_if_ne 40 51) := snd_if_ne dX3_writeBandHead_37 rfl
theorem sX3_writeBandHead_40 {h0 : Hp_} : Snd 0 108 h0 (miT TbC) RX3 cX3_writeBandHead 9 none 40 (i_aload 41 3) := snd_aload_n rfl dX3_writeBandHead_40
theorem sX3_writeBandHead_41 {h0 : Hp_} : Snd 0 108 h0 (miT TbC) RX3 cX3_writeBandHead 9 none 41 (i_aload 42 0) := snd_aload_n rfl dX3_writeBandHead_41
theorem sX3_writeBandHead_42 {h0 : Hp_} : Snd 0 108 h0 (miT TbC) RX3 cX3_writeBandHead 9 none 42 (i_getR 3 1 45) := snd_getR rfl (by decide) (by decide) (by decide) (fun hK ho hs hq kk => gf_X3_18 hK ho hs hq rfl dX3_writeBandHead_42 kk)
theorem sX3_writeBandHead_45 {h0 : Hp_} : Snd 0 108 h0 (miT TbC) RX3 cX3_writeBandHead 9 none 45 (i_iload 46 1) := snd_iload_n rfl dX3_writeBandHead_45
theorem sX3_writeBandHead_46 {h0 : Hp_} : Snd 0 108 h0 (miT TbC) RX3 cX3_writeBandHead 9 none 46 (i_iald 0 108 47) := snd_iald dX3_writeBandHead_46
theorem sX3_writeBandHead_47 {h0 : Hp_} : Snd 0 108 h0 (miT TbC) RX3 cX3_writeBandHead 9 none 47 (i_const 48 (vI 4)) := snd_iconst dX3_writeBandHead_47
theorem sX3_writeBandHead_48 {h0 : Hp_} : Snd 0 108 h0 (miT TbC) RX3 cX3_writeBandHead 9 none 48 (i_cV2 27 1 51) := snd_cV2 (fun hK hd hC ho hs h6 h7 h8 kk => iv_X3_207 hK (mcC_27 hC) ho hs ⟨hd, by show _ ≤ 40 * (_ + 1); omega⟩ (Nat.le_refl _) h6 h7 h8 ⟨Nat.le_refl _, Nat.le_refl _⟩ dX3_writeBandHead_48 kk)
theorem sX3_writeBandHead_51 {h0 : Hp_} : Snd 0 108 h0 (miT TbC) RX3 cX3_writeBandHead 9 none 51 (i_iload 53 4) := snd_iload dX3_writeBandHead_51
theorem sX3_writeBandHead_53 {h0 : Hp_} : Snd 0 108 h0 (miT TbC) RX3 cX3_writeBandHead 9 none 53 (i_aload 54 3) := snd_aload_n rfl dX3_writeBandHead_53
theorem sX3_writeBandHead_54 {h0 : Hp_} : Snd 0 108 h0 (miT TbC) RX3 cX3_writeBandHead 9 none 54 (i_cS2 40 57) := snd_cS2 (fun hK hd hC h6 h7 h8 kk => iv_X3_224 hK (mcC_40 hC) ⟨hd, by show _ ≤ 40 * (_ + 1); omega⟩ (Nat.le_refl _) h6 h7 h8 ⟨Nat.le_refl _, Nat.le_refl _⟩ dX3_writeBandHead_54 kk)
theorem sX3_writeBandHead_57 {h0 : Hp_} : Snd 0 108 h0 (miT TbC) RX3 cX3_writeBandHead 9 none 57 (i_aload 58 0) := snd_aload_n rfl dX3_writeBandHead_57
theorem sX3_writeBandHead_58 {h0 : Hp_} : Snd 0 108 h0 (miT TbC) RX3 cX3_writeBandHead 9 none 58 (i_iload 59 1) := snd_iload_n rfl dX3_writeBandHead_58
theorem sX3_writeBandHead_59 {h0 : Hp_} : Snd 0 108 h0 (miT TbC) RX3 cX3_writeBandHead 9 none 59 (i_iload 60 2) := snd_iload_n rfl dX3_writeBandHead_59
theorem sX3_writeBandHead_60 {h0 : Hp_} : Snd 0 108 h0 (miT TbC) RX3 cX3_writeBandHead 9 none 60 (i_cV2 34 3 63) := snd_cV2 (fun hK hd hC ho hs h6 h7 h8 kk => iv_X3_220 hK (mcC_34 hC) ho hs ⟨hd, by show _ ≤ 40 * (_ + 1); omega⟩ (Nat.le_refl _) h6 h7 h8 ⟨Nat.le_refl _, Nat.le_refl _⟩ dX3_writeBandHead_60 kk)
theorem sX3_writeBandHead_63 {h0 : Hp_} : Snd 0 108 h0 (miT TbC) RX3 cX3_writeBandHead 9 none 63 (i_aload 64 0) := snd_aload_n rfl dX3_writeBandHead_63
theorem sX3_writeBandHead_64 {h0 : Hp_} : Snd 0 108 h0 (miT TbC) RX3 cX3_writeBandHead 9 none 64 (i_iload 65 1) := snd_iload_n rfl dX3_writeBandHead_64
theorem sX3_writeBandHead_65 {h0 : Hp_} : Snd 0 108 h0 (miT TbC) RX3 cX3_writeBandHead 9 none 65 (i_aload 66 0) := snd_aload_n rfl dX3_writeBandHead_65
theorem sX3_writeBandHead_66 {h0 : Hp_} : Snd 0 108 h0 (miT TbC) RX3 cX3_writeBandHead 9 none 66 (i_getR 3 5 69) := snd_getR rfl (by decide) (by decide) (by decide) (fun hK ho hs hq kk => gf_X3_31 hK ho hs hq rfl dX3_writeBandHead_66 kk)
theorem sX3_writeBandHead_69 {h0 : Hp_} : Snd 0 108 h0 (miT TbC) RX3 cX3_writeBandHead 9 none 69 (i_iload 70 1) := snd_iload_n rfl dX3_writeBandHead_69
theorem sX3_writeBandHead_70 {h0 : Hp_} : Snd 0 108 h0 (miT TbC) RX3 cX3_writeBandHead 9 none 70 (i_iald 0 108 71) := snd_iald dX3_writeBandHead_70
theorem sX3_writeBandHead_71 {h0 : Hp_} : Snd 0 108 h0 (miT TbC) RX3 cX3_writeBandHead 9 none 71 (i_cV2 34 3 74) := snd_cV2 (fun hK hd hC ho hs h6 h7 h8 kk => iv_X3_220 hK (mcC_34 hC) ho hs ⟨hd, by show _ ≤ 40 * (_ + 1); omega⟩ (Nat.le_refl _) h6 h7 h8 ⟨Nat.le_refl _, Nat.le_refl _⟩ dX3_writeBandHead_71 kk)
theorem sX3_writeBandHead_74 {h0 : Hp_} : Snd 0 108 h0 (miT TbC) RX3 cX3_writeBandHead 9 none 74 (i_isub 75) := snd_isub dX3_writeBandHead_74
theorem sX3_writeBandHead_75 {h0 : Hp_} : Snd 0 108 h0 (miT TbC) RX3 cX3_writeBandHead 9 none 75 (i_istore 77 5) := snd_istore (by decide) dX3_writeBandHead_75
theorem sX3_writeBandHead_77 {h0 : Hp_} : Snd 0 108 h0 (miT TbC) RX3 cX3_writeBandHead 9 none 77 (i_iload 79 4) := snd_iload dX3_writeBandHead_77
theorem sX3_writeBandHead_79 {h0 : Hp_} : Snd 0 108 h0 (miT TbC) RX3 cX3_writeBandHead 9 none 79 (i_cS1 15 82) := snd_cS1 (fun hK hd hC h6 h7 h8 kk => iv_X3_147 hK (mcC_15 hC) ⟨hd, by show _ ≤ 40 * (_ + 1); omega⟩ (Nat.le_refl _) h6 h7 h8 ⟨Nat.le_refl _, Nat.le_refl _⟩ dX3_writeBandHead_79 kk)
theorem sX3_writeBandHead_82 {h0 : Hp_} : Snd 0 108 h0 (miT TbC) RX3 cX3_writeBandHead 9 none 82 (i_const 83 (vI 1)) := snd_iconst dX3_writeBandHead_82
theorem sX3_writeBandHead_83 {h0 : Hp_} : Snd 0 108 h0 (miT TbC) RX3 cX3_writeBandHead 9 none 83 (i_isub 84) := snd_isub dX3_writeBandHead_83
theorem sX3_writeBandHead_84 {h0 : Hp_} : Snd 0 108 h0 (miT TbC) RX3 cX3_writeBandHead 9 none 84 (i_istore 86 6) := snd_istore (by decide) dX3_writeBandHead_84
theorem sX3_writeBandHead_86 {h0 : Hp_} : Snd 0 108 h0 (miT TbC) RX3 cX3_writeBandHead 9 none 86 (i_const 87 (vI 0)) := snd_iconst dX3_writeBandHead_86
theorem sX3_writeBandHead_87 {h0 : Hp_} : Snd 0 108 h0 (miT TbC) RX3 cX3_writeBandHead 9 none 87 (i_iload 89 5) := snd_iload dX3_writeBandHead_87
theorem sX3_writeBandHead_89 {h0 : Hp_} : Snd 0 108 h0 (miT TbC) RX3 cX3_writeBandHead 9 none 89 (i_cS1 15 92) := snd_cS1 (fun hK hd hC h6 h7 h8 kk => iv_X3_147 hK (mcC_15 hC) ⟨hd, by show _ ≤ 40 * (_ + 1); omega⟩ (Nat.le_refl _) h6 h7 h8 ⟨Nat.le_refl _, Nat.le_refl _⟩ dX3_writeBandHead_89 kk)
theorem sX3_writeBandHead_92 {h0 : Hp_} : Snd 0 108 h0 (miT TbC) RX3 cX3_writeBandHead 9 none 92 (i_aload 93 0) := snd_aload_n rfl dX3_writeBandHead_92
theorem sX3_writeBandHead_93 {h0 : Hp_} : Snd 0 108 h0 (miT TbC) RX3 cX3_writeBandHead 9 none 93 (i_getR 3 6 96) := snd_getR rfl (by decide) (by decide) (by decide) (fun hK ho hs hq kk => gf_X3_34 hK ho hs hq rfl dX3_writeBandHead_93 kk)
theorem sX3_writeBandHead_96 {h0 : Hp_} : Snd 0 108 h0 (miT TbC) RX3 cX3_writeBandHead 9 none 96 (i_iload 97 1) := snd_iload_n rfl dX3_writeBandHead_96
theorem sX3_writeBandHead_97 {h0 : Hp_} : Snd 0 108 h0 (miT TbC) RX3 cX3_writeBandHead 9 none 97 (i_iald 0 108 98) := snd_iald dX3_writeBandHead_97
theorem sX3_writeBandHead_98 {h0 : Hp_} : Snd 0 108 h0 (miT TbC) RX3 cX3_writeBandHead 9 none 98 (i_isub 99) := snd_isub dX3_writeBandHead_98
theorem sX3_writeBandHead_99 {h0 : Hp_} : Snd 0 108 h0 (miT TbC) RX3 cX3_writeBandHead 9 none 99 (i_iload 101 6) := snd_iload dX3_writeBandHead_99
theorem sX3_writeBandHead_101 {h0 : Hp_} : Snd 0 108 h0 (miT TbC) RX3 cX3_writeBandHead 9 none 101 (i_isub 102) := snd_isub dX3_writeBandHead_101
theorem sX3_writeBandHead_102 {h0 : Hp_} : Snd 0 108 h0 (miT TbC) RX3 cX3_writeBandHead 9 none 102 (i_mmax 105) := snd_mmax iw_X3_143 dX3_writeBandHead_102
theorem sX3_writeBandHead_105 {h0 : Hp_} : Snd 0 108 h0 (miT TbC) RX3 cX3_writeBandHead 9 none 105 (i_istore 107 7) := snd_istore (by decide) dX3_writeBandHead_105
theorem sX3_writeBandHead_107 {h0 : Hp_} : Snd 0 108 h0 (miT TbC) RX3 cX3_writeBandHead 9 none 107 (i_aload 108 0) := snd_aload_n rfl dX3_writeBandHead_107
theorem sX3_writeBandHead_108 {h0 : Hp_} : Snd 0 108 h0 (miT TbC) RX3 cX3_writeBandHead 9 none 108 (i_getR 3 6 111) := snd_getR rfl (by decide) (by decide) (by decide) (fun hK ho hs hq kk => gf_X3_34 hK ho hs hq rfl dX3_writeBandHead_108 kk)
theorem sX3_writeBandHead_111 {h0 : Hp_} : Snd 0 108 h0 (miT TbC) RX3 cX3_writeBandHead 9 none 111 (i_iload 112 1) := snd_iload_n rfl dX3_writeBandHead_111
theorem sX3_writeBandHead_112 {h0 : Hp_} : Snd 0 108 h0 (miT TbC) RX3 cX3_writeBandHead 9 none 112 (i_dup2 113) := snd_dup2 dX3_writeBandHead_112
theorem sX3_writeBandHead_113 {h0 : Hp_} : Snd 0 108 h0 (miT TbC) RX3 cX3_writeBandHead 9 none 113 (i_iald 0 108 114) := snd_iald dX3_writeBandHead_113
theorem sX3_writeBandHead_114 {h0 : Hp_} : Snd 0 108 h0 (miT TbC) RX3 cX3_writeBandHead 9 none 114 (i_iload 116 7) := snd_iload dX3_writeBandHead_114
theorem sX3_writeBandHead_116 {h0 : Hp_} : Snd 0 108 h0 (miT TbC) RX3 cX3_writeBandHead 9 none 116 (i_iadd 117) := snd_iadd dX3_writeBandHead_116
theorem sX3_writeBandHead_117 {h0 : Hp_} : Snd 0 108 h0 (miT TbC) RX3 cX3_writeBandHead 9 none 117 (i_iast 0 108 118) := snd_iast dX3_writeBandHead_117
theorem sX3_writeBandHead_118 {h0 : Hp_} : Snd 0 108 h0 (miT TbC) RX3 cX3_writeBandHead 9 none 118 (i_const 119 (vI 0)) := snd_iconst dX3_writeBandHead_118
theorem sX3_writeBandHead_119 {h0 : Hp_} : Snd 0 108 h0 (miT TbC) RX3 cX3_writeBandHead 9 none 119 (i_istore 121 8) := snd_istore (by decide) dX3_writeBandHead_119
theorem sX3_writeBandHead_121 {h0 : Hp_} : Snd 0 108 h0 (miT TbC) RX3 cX3_writeBandHead 9 none 121 (i_iload 123 8) := snd_iload dX3_writeBandHead_121
theorem sX3_writeBandHead_123 {h0 : Hp_} : Snd 0 108 h0 (miT TbC) RX3 cX3_writeBandHead 9 none 123 (i_iload 125 7) := snd_iload dX3_writeBandHead_123
theorem sX3_writeBandHead_125 {h0 : Hp_} : Snd 0 108 h0 (miT TbC) RX3 cX3_writeBandHead 9 none 125 (i_icmp_ge 128 140) := snd_icmp_ge dX3_writeBandHead_125 rfl
theorem sX3_writeBandHead_128 {h0 : Hp_} : Snd 0 108 h0 (miT TbC) RX3 cX3_writeBandHead 9 none 128 (i_aload 129 3) := snd_aload_n rfl dX3_writeBandHead_128
theorem sX3_writeBandHead_129 {h0 : Hp_} : Snd 0 108 h0 (miT TbC) RX3 cX3_writeBandHead 9 none 129 (i_const 130 (vI 1)) := snd_iconst dX3_writeBandHead_129
theorem sX3_writeBandHead_130 {h0 : Hp_} : Snd 0 108 h0 (miT TbC) RX3 cX3_writeBandHead 9 none 130 (i_const 131 (vI 1)) := snd_iconst dX3_writeBandHead_130
theorem sX3_writeBandHead_131 {h0 : Hp_} : Snd 0 108 h0 (miT TbC) RX3 cX3_writeBandHead 9 none 131 (i_cV2 27 1 134) := snd_cV2 (fun hK hd hC ho hs h6 h7 h8 kk => iv_X3_207 hK (mcC_27 hC) ho hs ⟨hd, by show _ ≤ 40 * (_ + 1); omega⟩ (Nat.le_refl _) h6 h7 h8 ⟨Nat.le_refl _, Nat.le_refl _⟩ dX3_writeBandHead_131 kk)
theorem sX3_writeBandHead_134 {h0 : Hp_} : Snd 0 108 h0 (miT TbC) RX3 cX3_writeBandHead 9 none 134 (i_iinc 137 8 1) := snd_iinc (by decide) dX3_writeBandHead_134
theorem sX3_writeBandHead_137 {h0 : Hp_} : Snd 0 108 h0 (miT TbC) RX3 cX3_writeBandHead 9 none 137 (i_goto 121) := snd_goto dX3_writeBandHead_137 rfl
theorem sX3_writeBandHead_140 {h0 : Hp_} : Snd 0 108 h0 (miT TbC) RX3 cX3_writeBandHead 9 none 140 (i_aload 141 3) := snd_aload_n rfl dX3_writeBandHead_140
theorem sX3_writeBandHead_141 {h0 : Hp_} : Snd 0 108 h0 (miT TbC) RX3 cX3_writeBandHead 9 none 141 (i_const 142 (vI 0)) := snd_iconst dX3_writeBandHead_141
theorem sX3_writeBandHead_142 {h0 : Hp_} : Snd 0 108 h0 (miT TbC) RX3 cX3_writeBandHead 9 none 142 (i_const 143 (vI 1)) := snd_iconst dX3_writeBandHead_142
theorem sX3_writeBandHead_143 {h0 : Hp_} : Snd 0 108 h0 (miT TbC) RX3 cX3_writeBandHead 9 none 143 (i_cV2 27 1 146) := snd_cV2 (fun hK hd hC ho hs h6 h7 h8 kk => iv_X3_207 hK (mcC_27 hC) ho hs ⟨hd, by show _ ≤ 40 * (_ + 1); omega⟩ (Nat.le_refl _) h6 h7 h8 ⟨Nat.le_refl _, Nat.le_refl _⟩ dX3_writeBandHead_143 kk)
theorem sX3_writeBandHead_146 {h0 : Hp_} : Snd 0 108 h0 (miT TbC) RX3 cX3_writeBandHead 9 none 146 (i_aload 147 3) := snd_aload_n rfl dX3_writeBandHead_146
theorem sX3_writeBandHead_147 {h0 : Hp_} : Snd 0 108 h0 (miT TbC) RX3 cX3_writeBandHead 9 none 147 (i_iload 149 5) := snd_iload dX3_writeBandHead_147
theorem sX3_writeBandHead_149 {h0 : Hp_} : Snd 0 108 h0 (miT TbC) RX3 cX3_writeBandHead 9 none 149 (i_aload 150 0) := snd_aload_n rfl dX3_writeBandHead_149
theorem sX3_writeBandHead_150 {h0 : Hp_} : Snd 0 108 h0 (miT TbC) RX3 cX3_writeBandHead 9 none 150 (i_getR 3 6 153) := snd_getR rfl (by decide) (by decide) (by decide) (fun hK ho hs hq kk => gf_X3_34 hK ho hs hq rfl dX3_writeBandHead_150 kk)
theorem sX3_writeBandHead_153 {h0 : Hp_} : Snd 0 108 h0 (miT TbC) RX3 cX3_writeBandHead 9 none 153 (i_iload 154 1) := snd_iload_n rfl dX3_writeBandHead_153
theorem sX3_writeBandHead_154 {h0 : Hp_} : Snd 0 108 h0 (miT TbC) RX3 cX3_writeBandHead 9 none 154 (i_iald 0 108 155) := snd_iald dX3_writeBandHead_154
theorem sX3_writeBandHead_155 {h0 : Hp_} : Snd 0 108 h0 (miT TbC) RX3 cX3_writeBandHead 9 none 155 (i_iload 157 6) := snd_iload dX3_writeBandHead_155
theorem sX3_writeBandHead_157 {h0 : Hp_} : Snd 0 108 h0 (miT TbC) RX3 cX3_writeBandHead 9 none 157 (i_iadd 158) := snd_iadd dX3_writeBandHead_157
theorem sX3_writeBandHead_158 {h0 : Hp_} : Snd 0 108 h0 (miT TbC) RX3 cX3_writeBandHead 9 none 158 (i_cV2 27 1 161) := snd_cV2 (fun hK hd hC ho hs h6 h7 h8 kk => iv_X3_207 hK (mcC_27 hC) ho hs ⟨hd, by show _ ≤ 40 * (_ + 1); omega⟩ (Nat.le_refl _) h6 h7 h8 ⟨Nat.le_refl _, Nat.le_refl _⟩ dX3_writeBandHead_158 kk)
theorem sX3_writeBandHead_161 {h0 : Hp_} : Snd 0 108 h0 (miT TbC) RX3 cX3_writeBandHead 9 none 161 (i_vret) := snd_vret dX3_writeBandHead_161
theorem kX3_writeBandHead {h0 : Hp_} : raA (okI 0 108 h0 (miT TbC) (yX3_writeBandHead, cX3_writeBandHead, 9, none)) tX3_writeBandHead := (raA_br (raA_br (raA_br (raA_br (raA_br (raA_br (raA_leaf sX3_writeBandHead_0) (raA_br (raA_leaf sX3_writeBandHead_1) (raA_leaf sX3_writeBandHead_2))) (raA_br (raA_leaf sX3_writeBandHead_5) (raA_br (raA_leaf sX3_writeBandHead_6) (raA_leaf sX3_writeBandHead_7)))) (raA_br (raA_br (raA_leaf sX3_writeBandHead_8) (raA_br (raA_leaf sX3_writeBandHead_10) (raA_leaf sX3_writeBandHead_11))) (raA_br (raA_leaf sX3_writeBandHead_13) (raA_br (raA_leaf sX3_writeBandHead_16) (raA_leaf sX3_writeBandHead_17))))) (raA_br (raA_br (raA_br (raA_leaf sX3_writeBandHead_20) (raA_br (raA_leaf sX3_writeBandHead_21) (raA_leaf sX3_writeBandHead_22))) (raA_br (raA_leaf sX3_writeBandHead_25) (raA_br (raA_leaf sX3_writeBandHead_27) (raA_leaf sX3_writeBandHead_30)))) (raA_br (raA_br (raA_leaf sX3_writeBandHead_31) (raA_br (raA_leaf sX3_writeBandHead_32) (raA_leaf sX3_writeBandHead_35))) (raA_br (raA_leaf sX3_writeBandHead_36) (raA_br (raA_leaf sX3_writeBandHead_37) (raA_leaf sX3_writeBandHead_40)))))) (raA_br (raA_br (raA_br (raA_br (raA_leaf sX3_writeBandHead_41) (raA_br (raA_leaf sX3_writeBandHead_42) (raA_leaf sX3_writeBandHead_45))) (raA_br (raA_leaf sX3_writeBandHead_46) (raA_br (raA_leaf sX3_writeBandHead_47) (raA_leaf sX3_writeBandHead_48)))) (raA_br (raA_br (raA_leaf sX3_writeBandHead_51) (raA_br (raA_leaf sX3_writeBandHead_53) (raA_leaf sX3_writeBandHead_54))) (raA_br (raA_leaf sX3_writeBandHead_57) (raA_br (raA_leaf sX3_writeBandHead_58) (raA_leaf sX3_writeBandHead_59))))) (raA_br (raA_br (raA_br (raA_leaf sX3_writeBandHead_60) (raA_br (raA_leaf sX3_writeBandHead_63) (raA_leaf sX3_writeBandHead_64))) (raA_br (raA_leaf sX3_writeBandHead_65) (raA_br (raA_leaf sX3_writeBandHead_66) (raA_leaf sX3_writeBandHead_69)))) (raA_br (raA_br (raA_leaf sX3_writeBandHead_70) (raA_br (raA_leaf sX3_writeBandHead_71) (raA_leaf sX3_writeBandHead_74))) (raA_br (raA_leaf sX3_writeBandHead_75) (raA_br (raA_leaf sX3_writeBandHead_77) (raA_leaf sX3_writeBandHead_79))))))) (raA_br (raA_br (raA_br (raA_br (raA_br (raA_leaf sX3_writeBandHead_82) (raA_br (raA_leaf sX3_writeBandHead_83) (raA_leaf sX3_writeBandHead_84))) (raA_br (raA_leaf sX3_writeBandHead_86) (raA_br (raA_leaf sX3_writeBandHead_87) (raA_leaf sX3_writeBandHead_89)))) (raA_br (raA_br (raA_leaf sX3_writeBandHead_92) (raA_br (raA_leaf sX3_writeBandHead_93) (raA_leaf sX3_writeBandHead_96))) (raA_br (raA_leaf sX3_writeBandHead_97) (raA_br (raA_leaf sX3_writeBandHead_98) (raA_leaf sX3_writeBandHead_99))))) (raA_br (raA_br (raA_br (raA_leaf sX3_writeBandHead_101) (raA_br (raA_leaf sX3_writeBandHead_102) (raA_leaf sX3_writeBandHead_105))) (raA_br (raA_leaf sX3_writeBandHead_107) (raA_br (raA_leaf sX3_writeBandHead_108) (raA_leaf sX3_writeBandHead_111)))) (raA_br (raA_br (raA_leaf sX3_writeBandHead_112) (raA_br (raA_leaf sX3_writeBandHead_113) (raA_leaf sX3_writeBandHead_114))) (raA_br (raA_leaf sX3_writeBandHead_116) (raA_br (raA_leaf sX3_writeBandHead_117) (raA_leaf sX3_writeBandHead_118)))))) (raA_br (raA_br (raA_br (raA_br (raA_leaf sX3_writeBandHead_119) (raA_br (raA_leaf sX3_writeBandHead_121) (raA_leaf sX3_writeBandHead_123))) (raA_br (raA_leaf sX3_writeBandHead_125) (raA_br (raA_leaf sX3_writeBandHead_128) (raA_leaf sX3_writeBandHead_129)))) (raA_br (raA_br (raA_leaf sX3_writeBandHead_130) (raA_br (raA_leaf sX3_writeBandHead_131) (raA_leaf sX3_writeBandHead_134))) (raA_br (raA_leaf sX3_writeBandHead_137) (raA_br (raA_leaf sX3_writeBandHead_140) (raA_leaf sX3_writeBandHead_141))))) (raA_br (raA_br (raA_br (raA_leaf sX3_writeBandHead_142) (raA_br (raA_leaf sX3_writeBandHead_143) (raA_leaf sX3_writeBandHead_146))) (raA_br (raA_leaf sX3_writeBandHead_147) (raA_br (raA_leaf sX3_writeBandHead_149) (raA_leaf sX3_writeBandHead_150)))) (raA_br (raA_br (raA_leaf sX3_writeBandHead_153) (raA_br (raA_leaf sX3_writeBandHead_154) (raA_leaf sX3_writeBandHead_155))) (raA_br (raA_leaf sX3_writeBandHead_157) (raA_br (raA_leaf sX3_writeBandHead_158) (raA_leaf sX3_writeBandHead_161))))))))
theorem sX3_writeCount_0 {h0 : Hp_} : Snd 0 108 h0 (miT TbC) RX3 cX3_writeCount 2 none 0 (i_iload 1 0) := snd_iload_n rfl dX3_writeCount_0
theorem sX3_writeCount_1 {h0 : Hp_} : Snd 0 108 h0 (miT TbC) RX3 cX3_writeCount 2 none 1 (i_const 2 (vI 1)) := snd_iconst dX3_writeCount_1
theorem sX3_writeCount_2 {h0 : Hp_} : Snd 0 108 h0 (miT TbC) RX3 cX3_writeCount 2 none 2 (i_icmp_ne 5 14) := snd_icmp_ne dX3_writeCount_2 rfl
theorem sX3_writeCount_5 {h0 : Hp_} : Snd 0 108 h0 (miT TbC) RX3 cX3_writeCount 2 none 5 (i_aload 6 1) := snd_aload_n rfl dX3_writeCount_5
theorem sX3_writeCount_6 {h0 : Hp_} : Snd 0 108 h0 (miT TbC) RX3 cX3_writeCount 2 none 6 (i_const 7 (vI 0)) := snd_iconst dX3_writeCount_6
theorem sX3_writeCount_7 {h0 : Hp_} : Snd 0 108 h0 (miT TbC) RX3 cX3_writeCount 2 none 7 (i_const 8 (vI 1)) := snd_iconst dX3_writeCount_7
theorem sX3_writeCount_8 {h0 : Hp_} : Snd 0 108 h0 (miT TbC) RX3 cX3_writeCount 2 none 8 (i_cV2 27 1 11) := snd_cV2 (fun hK hd hC ho hs h6 h7 h8 kk => iv_X3_207 hK (mcC_27 hC) ho hs ⟨hd, by show _ ≤ 40 * (_ + 1); omega⟩ (Nat.le_refl _) h6 h7 h8 ⟨Nat.le_refl _, Nat.le_refl _⟩ dX3_writeCount_8 kk)
theorem sX3_writeCount_11 {h0 : Hp_} : Snd 0 108 h0 (miT TbC) RX3 cX3_writeCount 2 none 11 (i_goto 66) := snd_goto dX3_writeCount_11 rfl
theorem sX3_writeCount_14 {h0 : Hp_} : Snd 0 108 h0 (miT TbC) RX3 cX3_writeCount 2 none 14 (i_iload 15 0) := snd_iload_n rfl dX3_writeCount_14
theorem sX3_writeCount_15 {h0 : Hp_} : Snd 0 108 h0 (miT TbC) RX3 cX3_writeCount 2 none 15 (i_const 16 (vI 2)) := snd_iconst dX3_writeCount_15
theorem sX3_writeCount_16 {h0 : Hp_} : Snd 0 108 h0 (miT TbC) RX3 cX3_writeCount 2 none 16 (i_icmp_ne 19 28) := snd_icmp_ne dX3_writeCount_16 rfl
theorem sX3_writeCount_19 {h0 : Hp_} : Snd 0 108 h0 (miT TbC) RX3 cX3_writeCount 2 none 19 (i_aload 20 1) := snd_aload_n rfl dX3_writeCount_19
theorem sX3_writeCount_20 {h0 : Hp_} : Snd 0 108 h0 (miT TbC) RX3 cX3_writeCount 2 none 20 (i_const 21 (vI 2)) := snd_iconst dX3_writeCount_20
theorem sX3_writeCount_21 {h0 : Hp_} : Snd 0 108 h0 (miT TbC) RX3 cX3_writeCount 2 none 21 (i_const 22 (vI 2)) := snd_iconst dX3_writeCount_21
theorem sX3_writeCount_22 {h0 : Hp_} : Snd 0 108 h0 (miT TbC) RX3 cX3_writeCount 2 none 22 (i_cV2 27 1 25) := snd_cV2 (fun hK hd hC ho hs h6 h7 h8 kk => iv_X3_207 hK (mcC_27 hC) ho hs ⟨hd, by show _ ≤ 40 * (_ + 1); omega⟩ (Nat.le_refl _) h6 h7 h8 ⟨Nat.le_refl _, Nat.le_refl _⟩ dX3_writeCount_22 kk)
theorem sX3_writeCount_25 {h0 : Hp_} : Snd 0 108 h0 (miT TbC) RX3 cX3_writeCount 2 none 25 (i_goto 66) := snd_goto dX3_writeCount_25 rfl
theorem sX3_writeCount_28 {h0 : Hp_} : Snd 0 108 h0 (miT TbC) RX3 cX3_writeCount 2 none 28 (i_iload 29 0) := snd_iload_n rfl dX3_writeCount_28
theorem sX3_writeCount_29 {h0 : Hp_} : Snd 0 108 h0 (miT TbC) RX3 cX3_writeCount 2 none 29 (i_const 30 (vI 5)) := snd_iconst dX3_writeCount_29
theorem sX3_writeCount_30 {h0 : Hp_} : Snd 0 108 h0 (miT TbC) RX3 cX3_writeCount 2 none 30 (i_icmp_gt 33 50) := snd_icmp_gt dX3_writeCount_30 rfl
theorem sX3_writeCount_33 {h0 : Hp_} : Snd 0 108 h0 (miT TbC) RX3 cX3_writeCount 2 none 33 (i_aload 34 1) := snd_aload_n rfl dX3_writeCount_33
theorem sX3_writeCount_34 {h0 : Hp_} : Snd 0 108 h0 (miT TbC) RX3 cX3_writeCount 2 none 34 (i_const 35 (vI 3)) := snd_iconst dX3_writeCount_34
theorem sX3_writeCount_35 {h0 : Hp_} : Snd 0 108 h0 (miT TbC) RX3 cX3_writeCount 2 none 35 (i_const 36 (vI 2)) := snd_iconst dX3_writeCount_35
theorem sX3_writeCount_36 {h0 : Hp_} : Snd 0 108 h0 (miT TbC) RX3 cX3_writeCount 2 none 36 (i_cV2 27 1 39) := snd_cV2 (fun hK hd hC ho hs h6 h7 h8 kk => iv_X3_207 hK (mcC_27 hC) ho hs ⟨hd, by show _ ≤ 40 * (_ + 1); omega⟩ (Nat.le_refl _) h6 h7 h8 ⟨Nat.le_refl _, Nat.le_refl _⟩ dX3_writeCount_36 kk)
theorem sX3_writeCount_39 {h0 : Hp_} : Snd 0 108 h0 (miT TbC) RX3 cX3_writeCount 2 none 39 (i_aload 40 1) := snd_aload_n rfl dX3_writeCount_39
theorem sX3_writeCount_40 {h0 : Hp_} : Snd 0 108 h0 (miT TbC) RX3 cX3_writeCount 2 none 40 (i_iload 41 0) := snd_iload_n rfl dX3_writeCount_40
theorem sX3_writeCount_41 {h0 : Hp_} : Snd 0 108 h0 (miT TbC) RX3 cX3_writeCount 2 none 41 (i_const 42 (vI 3)) := snd_iconst dX3_writeCount_41
theorem sX3_writeCount_42 {h0 : Hp_} : Snd 0 108 h0 (miT TbC) RX3 cX3_writeCount 2 none 42 (i_isub 43) := snd_isub dX3_writeCount_42
theorem sX3_writeCount_43 {h0 : Hp_} : Snd 0 108 h0 (miT TbC) RX3 cX3_writeCount 2 none 43 (i_const 44 (vI 2)) := snd_iconst dX3_writeCount_43
theorem sX3_writeCount_44 {h0 : Hp_} : Snd 0 108 h0 (miT TbC) RX3 cX3_writeCount 2 none 44 (i_cV2 27 1 47) := snd_cV2 (fun hK hd hC ho hs h6 h7 h8 kk => iv_X3_207 hK (mcC_27 hC) ho hs ⟨hd, by show _ ≤ 40 * (_ + 1); omega⟩ (Nat.le_refl _) h6 h7 h8 ⟨Nat.le_refl _, Nat.le_refl _⟩ dX3_writeCount_44 kk)
theorem sX3_writeCount_47 {h0 : Hp_} : Snd 0 108 h0 (miT TbC) RX3 cX3_writeCount 2 none 47 (i_goto 66) := snd_goto dX3_writeCount_47 rfl
theorem sX3_writeCount_50 {h0 : Hp_} : Snd 0 108 h0 (miT TbC) RX3 cX3_writeCount 2 none 50 (i_aload 51 1) := snd_aload_n rfl dX3_writeCount_50
theorem sX3_writeCount_51 {h0 : Hp_} : Snd 0 108 h0 (miT TbC) RX3 cX3_writeCount 2 none 51 (i_const 53 (vI 15)) := snd_bipush (by decide) dX3_writeCount_51
theorem sX3_writeCount_53 {h0 : Hp_} : Snd 0 108 h0 (miT TbC) RX3 cX3_writeCount 2 none 53 (i_const 54 (vI 4)) := snd_iconst dX3_writeCount_53
theorem sX3_writeCount_54 {h0 : Hp_} : Snd 0 108 h0 (miT TbC) RX3 cX3_writeCount 2 none 54 (i_cV2 27 1 57) := snd_cV2 (fun hK hd hC ho hs h6 h7 h8 kk => iv_X3_207 hK (mcC_27 hC) ho hs ⟨hd, by show _ ≤ 40 * (_ + 1); omega⟩ (Nat.le_refl _) h6 h7 h8 ⟨Nat.le_refl _, Nat.le_refl _⟩ dX3_writeCount_54 kk)
theorem sX3_writeCount_57 {h0 : Hp_} : Snd 0 108 h0 (miT TbC) RX3 cX3_writeCount 2 none 57 (i_aload 58 1) := snd_aload_n rfl dX3_writeCount_57
theorem sX3_writeCount_58 {h0 : Hp_} : Snd 0 108 h0 (miT TbC) RX3 cX3_writeCount 2 none 58 (i_iload 59 0) := snd_iload_n rfl dX3_writeCount_58
theorem sX3_writeCount_59 {h0 : Hp_} : Snd 0 108 h0 (miT TbC) RX3 cX3_writeCount 2 none 59 (i_const 61 (vI 6)) := snd_bipush (by decide) dX3_writeCount_59
theorem sX3_writeCount_61 {h0 : Hp_} : Snd 0 108 h0 (miT TbC) RX3 cX3_writeCount 2 none 61 (i_isub 62) := snd_isub dX3_writeCount_61
theorem sX3_writeCount_62 {h0 : Hp_} : Snd 0 108 h0 (miT TbC) RX3 cX3_writeCount 2 none 62 (i_const 63 (vI 5)) := snd_iconst dX3_writeCount_62
theorem sX3_writeCount_63 {h0 : Hp_} : Snd 0 108 h0 (miT TbC) RX3 cX3_writeCount 2 none 63 (i_cV2 27 1 66) := snd_cV2 (fun hK hd hC ho hs h6 h7 h8 kk => iv_X3_207 hK (mcC_27 hC) ho hs ⟨hd, by show _ ≤ 40 * (_ + 1); omega⟩ (Nat.le_refl _) h6 h7 h8 ⟨Nat.le_refl _, Nat.le_refl _⟩ dX3_writeCount_63 kk)
theorem sX3_writeCount_66 {h0 : Hp_} : Snd 0 108 h0 (miT TbC) RX3 cX3_writeCount 2 none 66 (i_vret) := snd_vret dX3_writeCount_66
theorem kX3_writeCount {h0 : Hp_} : raA (okI 0 108 h0 (miT TbC) (yX3_writeCount, cX3_writeCount, 2, none)) tX3_writeCount := (raA_br (raA_br (raA_br (raA_br (raA_br (raA_leaf sX3_writeCount_0) (raA_leaf sX3_writeCount_1)) (raA_br (raA_leaf sX3_writeCount_2) (raA_br (raA_leaf sX3_writeCount_5) (raA_leaf sX3_writeCount_6)))) (raA_br (raA_br (raA_leaf sX3_writeCount_7) (raA_leaf sX3_writeCount_8)) (raA_br (raA_leaf sX3_writeCount_11) (raA_br (raA_leaf sX3_writeCount_14) (raA_leaf sX3_writeCount_15))))) (raA_br (raA_br (raA_br (raA_leaf sX3_writeCount_16) (raA_leaf sX3_writeCount_19)) (raA_br (raA_leaf sX3_writeCount_20) (raA_br (raA_leaf sX3_writeCount_21) (raA_leaf sX3_writeCount_22)))) (raA_br (raA_br (raA_leaf sX3_writeCount_25) (raA_leaf sX3_writeCount_28)) (raA_br (raA_leaf sX3_writeCount_29) (raA_br (raA_leaf sX3_writeCount_30) (raA_leaf sX3_writeCount_33)))))) (raA_br (raA_br (raA_br (raA_br (raA_leaf sX3_writeCount_34) (raA_leaf sX3_writeCount_35)) (raA_br (raA_leaf sX3_writeCount_36) (raA_br (raA_leaf sX3_writeCount_39) (raA_leaf sX3_writeCount_40)))) (raA_br (raA_br (raA_leaf sX3_writeCount_41) (raA_leaf sX3_writeCount_42)) (raA_br (raA_leaf sX3_writeCount_43) (raA_br (raA_leaf sX3_writeCount_44) (raA_leaf sX3_writeCount_47))))) (raA_br (raA_br (raA_br (raA_leaf sX3_writeCount_50) (raA_leaf sX3_writeCount_51)) (raA_br (raA_leaf sX3_writeCount_53) (raA_br (raA_leaf sX3_writeCount_54) (raA_leaf sX3_writeCount_57)))) (raA_br (raA_br (raA_leaf sX3_writeCount_58) (raA_br (raA_leaf sX3_writeCount_59) (raA_leaf sX3_writeCount_61))) (raA_br (raA_leaf sX3_writeCount_62) (raA_br (raA_leaf sX3_writeCount_63) (raA_leaf sX3_writeCount_66)))))))
theorem sX3_writePacket_0 {h0 : Hp_} : Snd 0 108 h0 (miT TbC) RX3 cX3_writePacket 9 none 0 (i_const 1 (vI 0)) := snd_iconst dX3_writePacket_0
theorem sX3_writePacket_1 {h0 : Hp_} : Snd 0 108 h0 (miT TbC) RX3 cX3_writePacket 9 none 1 (i_istore 3 5) := snd_istore (by decide) dX3_writePacket_1
theorem sX3_writePacket_3 {h0 : Hp_} : Snd 0 108 h0 (miT TbC) RX3 cX3_writePacket 9 none 3 (i_iload 4 1) := snd_iload_n rfl dX3_writePacket_3
theorem sX3_writePacket_4 {h0 : Hp_} : Snd 0 108 h0 (miT TbC) RX3 cX3_writePacket 9 none 4 (i_cS1 17 7) := snd_cS1 (fun hK hd hC h6 h7 h8 kk => iv_X3_198 hK (mcC_17 hC) ⟨hd, by show _ ≤ 40 * (_ + 1); omega⟩ (Nat.le_refl _) h6 h7 h8 ⟨Nat.le_refl _, Nat.le_refl _⟩ dX3_writePacket_4 kk)
theorem sX3_writePacket_7 {h0 : Hp_} : Snd 0 108 h0 (miT TbC) RX3 cX3_writePacket 9 none 7 (i_istore 9 6) := snd_istore (by decide) dX3_writePacket_7
theorem sX3_writePacket_9 {h0 : Hp_} : Snd 0 108 h0 (miT TbC) RX3 cX3_writePacket 9 none 9 (i_iload 11 6) := snd_iload dX3_writePacket_9
theorem sX3_writePacket_11 {h0 : Hp_} : Snd 0 108 h0 (miT TbC) RX3 cX3_writePacket 9 none 11 (i_iload 12 1) := snd_iload_n rfl dX3_writePacket_11
theorem sX3_writePacket_12 {h0 : Hp_} : Snd 0 108 h0 (miT TbC) RX3 cX3_writePacket 9 none 12 (i_cS1 18 15) := snd_cS1 (fun hK hd hC h6 h7 h8 kk => iv_X3_201 hK (mcC_18 hC) ⟨hd, by show _ ≤ 40 * (_ + 1); omega⟩ (Nat.le_refl _) h6 h7 h8 ⟨Nat.le_refl _, Nat.le_refl _⟩ dX3_writePacket_12 kk)
theorem sX3_writePacket_15 {h0 : Hp_} : Snd 0 108 h0 (miT TbC) RX3 cX3_writePacket 9 none 15 (i_icmp_gt 18 54) := snd_icmp_gt dX3_writePacket_15 rfl
theorem sX3_writePacket_18 {h0 : Hp_} : Snd 0 108 h0 (miT TbC) RX3 cX3_writePacket 9 none 18 (i_iload 20 5) := snd_iload dX3_writePacket_18
theorem sX3_writePacket_20 {h0 : Hp_} : Snd 0 108 h0 (miT TbC) RX3 cX3_writePacket 9 none 20 (i_if_ne 23 41) := snd_if_ne dX3_writePacket_20 rfl
theorem sX3_writePacket_23 {h0 : Hp_} : Snd 0 108 h0 (miT TbC) RX3 cX3_writePacket 9 none 23 (i_aload 24 0) := snd_aload_n rfl dX3_writePacket_23
theorem sX3_writePacket_24 {h0 : Hp_} : Snd 0 108 h0 (miT TbC) RX3 cX3_writePacket 9 none 24 (i_iload 26 6) := snd_iload dX3_writePacket_24
theorem sX3_writePacket_26 {h0 : Hp_} : Snd 0 108 h0 (miT TbC) RX3 cX3_writePacket 9 none 26 (i_iload 27 2) := snd_iload_n rfl dX3_writePacket_26
theorem sX3_writePacket_27 {h0 : Hp_} : Snd 0 108 h0 (miT TbC) RX3 cX3_writePacket 9 none 27 (i_iload 28 3) := snd_iload_n rfl dX3_writePacket_27
theorem sX3_writePacket_28 {h0 : Hp_} : Snd 0 108 h0 (miT TbC) RX3 cX3_writePacket 9 none 28 (i_cV3 36 3 31) := snd_cV3 (fun hK hd hC ho hs h6 h7 h8 kk => iv_X3_204 hK (mcC_36 hC) ho hs ⟨hd, by show _ ≤ 40 * (_ + 1); omega⟩ (Nat.le_refl _) h6 h7 h8 ⟨Nat.le_refl _, Nat.le_refl _⟩ dX3_writePacket_28 kk)
theorem sX3_writePacket_31 {h0 : Hp_} : Snd 0 108 h0 (miT TbC) RX3 cX3_writePacket 9 none 31 (i_aload 32 0) := snd_aload_n rfl dX3_writePacket_31
theorem sX3_writePacket_32 {h0 : Hp_} : Snd 0 108 h0 (miT TbC) RX3 cX3_writePacket 9 none 32 (i_getR 3 5 35) := snd_getR rfl (by decide) (by decide) (by decide) (fun hK ho hs hq kk => gf_X3_31 hK ho hs hq rfl dX3_writePacket_32 kk)
theorem sX3_writePacket_35 {h0 : Hp_} : Snd 0 108 h0 (miT TbC) RX3 cX3_writePacket 9 none 35 (i_iload 37 6) := snd_iload dX3_writePacket_35
theorem sX3_writePacket_37 {h0 : Hp_} : Snd 0 108 h0 (miT TbC) RX3 cX3_writePacket 9 none 37 (i_iald 0 108 38) := snd_iald dX3_writePacket_37
theorem sX3_writePacket_38 {h0 : Hp_} : Snd 0 108 h0 (miT TbC) RX3 cX3_writePacket 9 none 38 (i_icmp_le 41 45) := snd_icmp_le dX3_writePacket_38 rfl
theorem sX3_writePacket_41 {h0 : Hp_} : Snd 0 108 h0 (miT TbC) RX3 cX3_writePacket 9 none 41 (i_const 42 (vI 1)) := snd_iconst dX3_writePacket_41
theorem sX3_writePacket_42 {h0 : Hp_} : Snd 0 108 h0 (miT TbC) RX3 cX3_writePacket 9 none 42 (i_goto 46) := snd_goto dX3_writePacket_42 rfl
theorem sX3_writePacket_45 {h0 : Hp_} : Snd 0 108 h0 (miT TbC) RX3 cX3_writePacket 9 none 45 (i_const 46 (vI 0)) := snd_iconst dX3_writePacket_45
theorem sX3_writePacket_46 {h0 : Hp_} : Snd 0 108 h0 (miT TbC) RX3 cX3_writePacket 9 none 46 (i_istore 48 5) := snd_istore (by decide) dX3_writePacket_46
theorem sX3_writePacket_48 {h0 : Hp_} : Snd 0 108 h0 (miT TbC) RX3 cX3_writePacket 9 none 48 (i_iinc 51 6 1) := snd_iinc (by decide) dX3_writePacket_48
theorem sX3_writePacket_51 {h0 : Hp_} : Snd 0 108 h0 (miT TbC) RX3 cX3_writePacket 9 none 51 (i_goto 9) := snd_goto dX3_writePacket_51 rfl
theorem sX3_writePacket_54 {h0 : Hp_} : Snd 0 108 h0 (miT TbC) RX3 cX3_writePacket 9 none 54 (i_aload 56 4) := snd_aload dX3_writePacket_54
theorem sX3_writePacket_56 {h0 : Hp_} : Snd 0 108 h0 (miT TbC) RX3 cX3_writePacket 9 none 56 (i_iload 58 5) := snd_iload dX3_writePacket_56
theorem sX3_writePacket_58 {h0 : Hp_} : Snd 0 108 h0 (miT TbC) RX3 cX3_writePacket 9 none 58 (i_if_eq 61 65) := snd_if_eq dX3_writePacket_58 rfl
theorem sX3_writePacket_61 {h0 : Hp_} : Snd 0 108 h0 (miT TbC) RX3 cX3_writePacket 9 none 61 (i_const 62 (vI 1)) := snd_iconst dX3_writePacket_61
theorem sX3_writePacket_62 {h0 : Hp_} : Snd 0 108 h0 (miT TbC) RX3 cX3_writePacket 9 none 62 (i_goto 66) := snd_goto dX3_writePacket_62 rfl
theorem sX3_writePacket_65 {h0 : Hp_} : Snd 0 108 h0 (miT TbC) RX3 cX3_writePacket 9 none 65 (i_const 66 (vI 0)) := snd_iconst dX3_writePacket_65
theorem sX3_writePacket_66 {h0 : Hp_} : Snd 0 108 h0 (miT TbC) RX3 cX3_writePacket 9 none 66 (i_const 67 (vI 1)) := snd_iconst dX3_writePacket_66
theorem sX3_writePacket_67 {h0 : Hp_} : Snd 0 108 h0 (miT TbC) RX3 cX3_writePacket 9 none 67 (i_cV2 27 1 70) := snd_cV2 (fun hK hd hC ho hs h6 h7 h8 kk => iv_X3_207 hK (mcC_27 hC) ho hs ⟨hd, by show _ ≤ 40 * (_ + 1); omega⟩ (Nat.le_refl _) h6 h7 h8 ⟨Nat.le_refl _, Nat.le_refl _⟩ dX3_writePacket_67 kk)
theorem sX3_writePacket_70 {h0 : Hp_} : Snd 0 108 h0 (miT TbC) RX3 cX3_writePacket 9 none 70 (i_iload 72 5) := snd_iload dX3_writePacket_70
theorem sX3_writePacket_72 {h0 : Hp_} : Snd 0 108 h0 (miT TbC) RX3 cX3_writePacket 9 none 72 (i_if_ne 75 81) := snd_if_ne dX3_writePacket_72 rfl
theorem sX3_writePacket_75 {h0 : Hp_} : Snd 0 108 h0 (miT TbC) RX3 cX3_writePacket 9 none 75 (i_aload 77 4) := snd_aload dX3_writePacket_75
theorem sX3_writePacket_77 {h0 : Hp_} : Snd 0 108 h0 (miT TbC) RX3 cX3_writePacket 9 none 77 (i_cV0 24 1 80) := snd_cV0 (fun hK hd hC ho hs h6 h7 h8 kk => iv_X3_210 hK (mcC_24 hC) ho hs ⟨hd, by show _ ≤ 40 * (_ + 1); omega⟩ (Nat.le_refl _) h6 h7 h8 ⟨Nat.le_refl _, Nat.le_refl _⟩ dX3_writePacket_77 kk)
theorem sX3_writePacket_80 {h0 : Hp_} : Snd 0 108 h0 (miT TbC) RX3 cX3_writePacket 9 none 80 (i_vret) := snd_vret dX3_writePacket_80
theorem sX3_writePacket_81 {h0 : Hp_} : Snd 0 108 h0 (miT TbC) RX3 cX3_writePacket 9 none 81 (i_iload 82 1) := snd_iload_n rfl dX3_writePacket_81
theorem sX3_writePacket_82 {h0 : Hp_} : Snd 0 108 h0 (miT TbC) RX3 cX3_writePacket 9 none 82 (i_cS1 17 85) := snd_cS1 (fun hK hd hC h6 h7 h8 kk => iv_X3_198 hK (mcC_17 hC) ⟨hd, by show _ ≤ 40 * (_ + 1); omega⟩ (Nat.le_refl _) h6 h7 h8 ⟨Nat.le_refl _, Nat.le_refl _⟩ dX3_writePacket_82 kk)
theorem sX3_writePacket_85 {h0 : Hp_} : Snd 0 108 h0 (miT TbC) RX3 cX3_writePacket 9 none 85 (i_istore 87 6) := snd_istore (by decide) dX3_writePacket_85
theorem sX3_writePacket_87 {h0 : Hp_} : Snd 0 108 h0 (miT TbC) RX3 cX3_writePacket 9 none 87 (i_iload 89 6) := snd_iload dX3_writePacket_87
theorem sX3_writePacket_89 {h0 : Hp_} : Snd 0 108 h0 (miT TbC) RX3 cX3_writePacket 9 none 89 (i_iload 90 1) := snd_iload_n rfl dX3_writePacket_89
theorem sX3_writePacket_90 {h0 : Hp_} : Snd 0 108 h0 (miT TbC) RX3 cX3_writePacket 9 none 90 (i_cS1 18 93) := snd_cS1 (fun hK hd hC h6 h7 h8 kk => iv_X3_201 hK (mcC_18 hC) ⟨hd, by show _ ≤ 40 * (_ + 1); omega⟩ (Nat.le_refl _) h6 h7 h8 ⟨Nat.le_refl _, Nat.le_refl _⟩ dX3_writePacket_90 kk)
theorem sX3_writePacket_93 {h0 : Hp_} : Snd 0 108 h0 (miT TbC) RX3 cX3_writePacket 9 none 93 (i_icmp_gt 96 130) := snd_icmp_gt dX3_writePacket_93 rfl
theorem sX3_writePacket_96 {h0 : Hp_} : Snd 0 108 h0 (miT TbC) RX3 cX3_writePacket 9 none 96 (i_aload 97 0) := snd_aload_n rfl dX3_writePacket_96
theorem sX3_writePacket_97 {h0 : Hp_} : Snd 0 108 h0 (miT TbC) RX3 cX3_writePacket 9 none 97 (i_getR 3 0 100) := snd_getR rfl (by decide) (by decide) (by decide) (fun hK ho hs hq kk => gf_X3_12 hK ho hs hq rfl dX3_writePacket_97 kk)
theorem sX3_writePacket_100 {h0 : Hp_} : Snd 0 108 h0 (miT TbC) RX3 cX3_writePacket 9 none 100 (i_iload 102 6) := snd_iload dX3_writePacket_100
theorem sX3_writePacket_102 {h0 : Hp_} : Snd 0 108 h0 (miT TbC) RX3 cX3_writePacket 9 none 102 (i_cV1 6 0 105) := snd_cV1 (fun hK hd hC ho hs h6 h7 h8 kk => iv_X3_213 hK (mcC_6 hC) ho hs ⟨hd, by show _ ≤ 40 * (_ + 1); omega⟩ (Nat.le_refl _) h6 h7 h8 ⟨Nat.le_refl _, Nat.le_refl _⟩ dX3_writePacket_102 kk)
theorem sX3_writePacket_105 {h0 : Hp_} : Snd 0 108 h0 (miT TbC) RX3 cX3_writePacket 9 none 105 (i_if_ne 108 124) := snd_if_ne dX3_writePacket_105 rfl
theorem sX3_writePacket_108 {h0 : Hp_} : Snd 0 108 h0 (miT TbC) RX3 cX3_writePacket 9 none 108 (i_aload 109 0) := snd_aload_n rfl dX3_writePacket_108
theorem sX3_writePacket_109 {h0 : Hp_} : Snd 0 108 h0 (miT TbC) RX3 cX3_writePacket 9 none 109 (i_iload 111 6) := snd_iload dX3_writePacket_109
theorem sX3_writePacket_111 {h0 : Hp_} : Snd 0 108 h0 (miT TbC) RX3 cX3_writePacket 9 none 111 (i_aload 112 0) := snd_aload_n rfl dX3_writePacket_111
theorem sX3_writePacket_112 {h0 : Hp_} : Snd 0 108 h0 (miT TbC) RX3 cX3_writePacket 9 none 112 (i_iload 114 6) := snd_iload dX3_writePacket_112
theorem sX3_writePacket_114 {h0 : Hp_} : Snd 0 108 h0 (miT TbC) RX3 cX3_writePacket 9 none 114 (i_iload 115 2) := snd_iload_n rfl dX3_writePacket_114
theorem sX3_writePacket_115 {h0 : Hp_} : Snd 0 108 h0 (miT TbC) RX3 cX3_writePacket 9 none 115 (i_iload 116 3) := snd_iload_n rfl dX3_writePacket_115
theorem sX3_writePacket_116 {h0 : Hp_} : Snd 0 108 h0 (miT TbC) RX3 cX3_writePacket 9 none 116 (i_cV3 36 3 119) := snd_cV3 (fun hK hd hC ho hs h6 h7 h8 kk => iv_X3_204 hK (mcC_36 hC) ho hs ⟨hd, by show _ ≤ 40 * (_ + 1); omega⟩ (Nat.le_refl _) h6 h7 h8 ⟨Nat.le_refl _, Nat.le_refl _⟩ dX3_writePacket_116 kk)
theorem sX3_writePacket_119 {h0 : Hp_} : Snd 0 108 h0 (miT TbC) RX3 cX3_writePacket 9 none 119 (i_aload 121 4) := snd_aload dX3_writePacket_119
theorem sX3_writePacket_121 {h0 : Hp_} : Snd 0 108 h0 (miT TbC) RX3 cX3_writePacket 9 none 121 (i_cV3 39 3 124) := snd_cV3 (fun hK hd hC ho hs h6 h7 h8 kk => iv_X3_216 hK (mcC_39 hC) ho hs ⟨hd, by show _ ≤ 40 * (_ + 1); omega⟩ (Nat.le_refl _) h6 h7 h8 ⟨Nat.le_refl _, Nat.le_refl _⟩ dX3_writePacket_121 kk)
theorem sX3_writePacket_124 {h0 : Hp_} : Snd 0 108 h0 (miT TbC) RX3 cX3_writePacket 9 none 124 (i_iinc 127 6 1) := snd_iinc (by decide) dX3_writePacket_124
theorem sX3_writePacket_127 {h0 : Hp_} : Snd 0 108 h0 (miT TbC) RX3 cX3_writePacket 9 none 127 (i_goto 87) := snd_goto dX3_writePacket_127 rfl
theorem sX3_writePacket_130 {h0 : Hp_} : Snd 0 108 h0 (miT TbC) RX3 cX3_writePacket 9 none 130 (i_aload 132 4) := snd_aload dX3_writePacket_130
theorem sX3_writePacket_132 {h0 : Hp_} : Snd 0 108 h0 (miT TbC) RX3 cX3_writePacket 9 none 132 (i_cV0 24 1 135) := snd_cV0 (fun hK hd hC ho hs h6 h7 h8 kk => iv_X3_210 hK (mcC_24 hC) ho hs ⟨hd, by show _ ≤ 40 * (_ + 1); omega⟩ (Nat.le_refl _) h6 h7 h8 ⟨Nat.le_refl _, Nat.le_refl _⟩ dX3_writePacket_132 kk)
theorem sX3_writePacket_135 {h0 : Hp_} : Snd 0 108 h0 (miT TbC) RX3 cX3_writePacket 9 none 135 (i_iload 136 1) := snd_iload_n rfl dX3_writePacket_135
theorem sX3_writePacket_136 {h0 : Hp_} : Snd 0 108 h0 (miT TbC) RX3 cX3_writePacket 9 none 136 (i_cS1 17 139) := snd_cS1 (fun hK hd hC h6 h7 h8 kk => iv_X3_198 hK (mcC_17 hC) ⟨hd, by show _ ≤ 40 * (_ + 1); omega⟩ (Nat.le_refl _) h6 h7 h8 ⟨Nat.le_refl _, Nat.le_refl _⟩ dX3_writePacket_136 kk)
theorem sX3_writePacket_139 {h0 : Hp_} : Snd 0 108 h0 (miT TbC) RX3 cX3_writePacket 9 none 139 (i_istore 141 6) := snd_istore (by decide) dX3_writePacket_139
theorem sX3_writePacket_141 {h0 : Hp_} : Snd 0 108 h0 (miT TbC) RX3 cX3_writePacket 9 none 141 (i_iload 143 6) := snd_iload dX3_writePacket_141
theorem sX3_writePacket_143 {h0 : Hp_} : Snd 0 108 h0 (miT TbC) RX3 cX3_writePacket 9 none 143 (i_iload 144 1) := snd_iload_n rfl dX3_writePacket_143
theorem sX3_writePacket_144 {h0 : Hp_} : Snd 0 108 h0 (miT TbC) RX3 cX3_writePacket 9 none 144 (i_cS1 18 147) := snd_cS1 (fun hK hd hC h6 h7 h8 kk => iv_X3_201 hK (mcC_18 hC) ⟨hd, by show _ ≤ 40 * (_ + 1); omega⟩ (Nat.le_refl _) h6 h7 h8 ⟨Nat.le_refl _, Nat.le_refl _⟩ dX3_writePacket_144 kk)
theorem sX3_writePacket_147 {h0 : Hp_} : Snd 0 108 h0 (miT TbC) RX3 cX3_writePacket 9 none 147 (i_icmp_gt 150 220) := snd_icmp_gt dX3_writePacket_147 rfl
theorem sX3_writePacket_150 {h0 : Hp_} : Snd 0 108 h0 (miT TbC) RX3 cX3_writePacket 9 none 150 (i_aload 151 0) := snd_aload_n rfl dX3_writePacket_150
theorem sX3_writePacket_151 {h0 : Hp_} : Snd 0 108 h0 (miT TbC) RX3 cX3_writePacket 9 none 151 (i_iload 153 6) := snd_iload dX3_writePacket_151
theorem sX3_writePacket_153 {h0 : Hp_} : Snd 0 108 h0 (miT TbC) RX3 cX3_writePacket 9 none 153 (i_iload 154 2) := snd_iload_n rfl dX3_writePacket_153
theorem sX3_writePacket_154 {h0 : Hp_} : Snd 0 108 h0 (miT TbC) RX3 cX3_writePacket 9 none 154 (i_iload 155 3) := snd_iload_n rfl dX3_writePacket_154
theorem sX3_writePacket_155 {h0 : Hp_} : Snd 0 108 h0 (miT TbC) RX3 cX3_writePacket 9 none 155 (i_cV3 36 3 158) := snd_cV3 (fun hK hd hC ho hs h6 h7 h8 kk => iv_X3_204 hK (mcC_36 hC) ho hs ⟨hd, by show _ ≤ 40 * (_ + 1); omega⟩ (Nat.le_refl _) h6 h7 h8 ⟨Nat.le_refl _, Nat.le_refl _⟩ dX3_writePacket_155 kk)
theorem sX3_writePacket_158 {h0 : Hp_} : Snd 0 108 h0 (miT TbC) RX3 cX3_writePacket 9 none 158 (i_istore 160 7) := snd_istore (by decide) dX3_writePacket_158
theorem sX3_writePacket_160 {h0 : Hp_} : Snd 0 108 h0 (miT TbC) RX3 cX3_writePacket 9 none 160 (i_aload 161 0) := snd_aload_n rfl dX3_writePacket_160
theorem sX3_writePacket_161 {h0 : Hp_} : Snd 0 108 h0 (miT TbC) RX3 cX3_writePacket 9 none 161 (i_iload 163 6) := snd_iload dX3_writePacket_161
theorem sX3_writePacket_163 {h0 : Hp_} : Snd 0 108 h0 (miT TbC) RX3 cX3_writePacket 9 none 163 (i_aload 164 0) := snd_aload_n rfl dX3_writePacket_163
theorem sX3_writePacket_164 {h0 : Hp_} : Snd 0 108 h0 (miT TbC) RX3 cX3_writePacket 9 none 164 (i_getR 3 5 167) := snd_getR rfl (by decide) (by decide) (by decide) (fun hK ho hs hq kk => gf_X3_31 hK ho hs hq rfl dX3_writePacket_164 kk)
theorem sX3_writePacket_167 {h0 : Hp_} : Snd 0 108 h0 (miT TbC) RX3 cX3_writePacket 9 none 167 (i_iload 169 6) := snd_iload dX3_writePacket_167
theorem sX3_writePacket_169 {h0 : Hp_} : Snd 0 108 h0 (miT TbC) RX3 cX3_writePacket 9 none 169 (i_iald 0 108 170) := snd_iald dX3_writePacket_169
theorem sX3_writePacket_170 {h0 : Hp_} : Snd 0 108 h0 (miT TbC) RX3 cX3_writePacket 9 none 170 (i_cV2 34 3 173) := snd_cV2 (fun hK hd hC ho hs h6 h7 h8 kk => iv_X3_220 hK (mcC_34 hC) ho hs ⟨hd, by show _ ≤ 40 * (_ + 1); omega⟩ (Nat.le_refl _) h6 h7 h8 ⟨Nat.le_refl _, Nat.le_refl _⟩ dX3_writePacket_170 kk)
theorem sX3_writePacket_173 {h0 : Hp_} : Snd 0 108 h0 (miT TbC) RX3 cX3_writePacket 9 none 173 (i_istore 175 8) := snd_istore (by decide) dX3_writePacket_173
theorem sX3_writePacket_175 {h0 : Hp_} : Snd 0 108 h0 (miT TbC) RX3 cX3_writePacket 9 none 175 (i_aload 177 4) := snd_aload dX3_writePacket_175
theorem sX3_writePacket_177 {h0 : Hp_} : Snd 0 108 h0 (miT TbC) RX3 cX3_writePacket 9 none 177 (i_aload 178 0) := snd_aload_n rfl dX3_writePacket_177
theorem sX3_writePacket_178 {h0 : Hp_} : Snd 0 108 h0 (miT TbC) RX3 cX3_writePacket 9 none 178 (i_getR 3 7 181) := snd_getR rfl (by decide) (by decide) (by decide) (fun hK ho hs hq kk => gf_X3_40 hK ho hs hq rfl dX3_writePacket_178 kk)
theorem sX3_writePacket_181 {h0 : Hp_} : Snd 0 108 h0 (miT TbC) RX3 cX3_writePacket 9 none 181 (i_aload 182 0) := snd_aload_n rfl dX3_writePacket_181
theorem sX3_writePacket_182 {h0 : Hp_} : Snd 0 108 h0 (miT TbC) RX3 cX3_writePacket 9 none 182 (i_getR 3 2 185) := snd_getR rfl (by decide) (by decide) (by decide) (fun hK ho hs hq kk => gf_X3_22 hK ho hs hq rfl dX3_writePacket_182 kk)
theorem sX3_writePacket_185 {h0 : Hp_} : Snd 0 108 h0 (miT TbC) RX3 cX3_writePacket 9 none 185 (i_iload 187 6) := snd_iload dX3_writePacket_185
theorem sX3_writePacket_187 {h0 : Hp_} : Snd 0 108 h0 (miT TbC) RX3 cX3_writePacket 9 none 187 (i_iald 0 108 188) := snd_iald dX3_writePacket_187
theorem sX3_writePacket_188 {h0 : Hp_} : Snd 0 108 h0 (miT TbC) RX3 cX3_writePacket 9 none 188 (i_iload 190 8) := snd_iload dX3_writePacket_188
theorem sX3_writePacket_190 {h0 : Hp_} : Snd 0 108 h0 (miT TbC) RX3 cX3_writePacket 9 none 190 (i_iadd 191) := snd_iadd dX3_writePacket_190
theorem sX3_writePacket_191 {h0 : Hp_} : Snd 0 108 h0 (miT TbC) RX3 cX3_writePacket 9 none 191 (i_aload 192 0) := snd_aload_n rfl dX3_writePacket_191
theorem sX3_writePacket_192 {h0 : Hp_} : Snd 0 108 h0 (miT TbC) RX3 cX3_writePacket 9 none 192 (i_iload 194 6) := snd_iload dX3_writePacket_192
theorem sX3_writePacket_194 {h0 : Hp_} : Snd 0 108 h0 (miT TbC) RX3 cX3_writePacket 9 none 194 (i_iload 196 7) := snd_iload dX3_writePacket_194
theorem sX3_writePacket_196 {h0 : Hp_} : Snd 0 108 h0 (miT TbC) RX3 cX3_writePacket 9 none 196 (i_cV2 34 3 199) := snd_cV2 (fun hK hd hC ho hs h6 h7 h8 kk => iv_X3_220 hK (mcC_34 hC) ho hs ⟨hd, by show _ ≤ 40 * (_ + 1); omega⟩ (Nat.le_refl _) h6 h7 h8 ⟨Nat.le_refl _, Nat.le_refl _⟩ dX3_writePacket_196 kk)
theorem sX3_writePacket_199 {h0 : Hp_} : Snd 0 108 h0 (miT TbC) RX3 cX3_writePacket 9 none 199 (i_iload 201 8) := snd_iload dX3_writePacket_199
theorem sX3_writePacket_201 {h0 : Hp_} : Snd 0 108 h0 (miT TbC) RX3 cX3_writePacket 9 none 201 (i_isub 202) := snd_isub dX3_writePacket_201
theorem sX3_writePacket_202 {h0 : Hp_} : Snd 0 108 h0 (miT TbC) RX3 cX3_writePacket 9 none 202 (i_cV3 21 1 205) := snd_cV3 (fun hK hd hC ho hs h6 h7 h8 kk => iv_X3_223 hK (mcC_21 hC) ho hs ⟨hd, by show _ ≤ 40 * (_ + 1); omega⟩ (Nat.le_refl _) h6 h7 h8 ⟨Nat.le_refl _, Nat.le_refl _⟩ dX3_writePacket_202 kk)
theorem sX3_writePacket_205 {h0 : Hp_} : Snd 0 108 h0 (miT TbC) RX3 cX3_writePacket 9 none 205 (i_aload 206 0) := snd_aload_n rfl dX3_writePacket_205
theorem sX3_writePacket_206 {h0 : Hp_} : Snd 0 108 h0 (miT TbC) RX3 cX3_writePacket 9 none 206 (i_getR 3 5 209) := snd_getR rfl (by decide) (by decide) (by decide) (fun hK ho hs hq kk => gf_X3_31 hK ho hs hq rfl dX3_writePacket_206 kk)
theorem sX3_writePacket_209 {h0 : Hp_} : Snd 0 108 h0 (miT TbC) RX3 cX3_writePacket 9 none 209 (i_iload 211 6) := snd_iload dX3_writePacket_209
theorem sX3_writePacket_211 {h0 : Hp_} : Snd 0 108 h0 (miT TbC) RX3 cX3_writePacket 9 none 211 (i_iload 213 7) := snd_iload dX3_writePacket_211
theorem sX3_writePacket_213 {h0 : Hp_} : Snd 0 108 h0 (miT TbC) RX3 cX3_writePacket 9 none 213 (i_iast 0 108 214) := snd_iast dX3_writePacket_213
theorem sX3_writePacket_214 {h0 : Hp_} : Snd 0 108 h0 (miT TbC) RX3 cX3_writePacket 9 none 214 (i_iinc 217 6 1) := snd_iinc (by decide) dX3_writePacket_214
theorem sX3_writePacket_217 {h0 : Hp_} : Snd 0 108 h0 (miT TbC) RX3 cX3_writePacket 9 none 217 (i_goto 141) := snd_goto dX3_writePacket_217 rfl
theorem sX3_writePacket_220 {h0 : Hp_} : Snd 0 108 h0 (miT TbC) RX3 cX3_writePacket 9 none 220 (i_vret) := snd_vret dX3_writePacket_220
theorem kX3_writePacket {h0 : Hp_} : raA (okI 0 108 h0 (miT TbC) (yX3_writePacket, cX3_writePacket, 9, none)) tX3_writePacket := (raA_br (raA_br (raA_br (raA_br (raA_br (raA_br (raA_leaf sX3_writePacket_0) (raA_br (raA_leaf sX3_writePacket_1) (raA_leaf sX3_writePacket_3))) (raA_br (raA_leaf sX3_writePacket_4) (raA_br (raA_leaf sX3_writePacket_7) (raA_leaf sX3_writePacket_9)))) (raA_br (raA_br (raA_leaf sX3_writePacket_11) (raA_br (raA_leaf sX3_writePacket_12) (raA_leaf sX3_writePacket_15))) (raA_br (raA_br (raA_leaf sX3_writePacket_18) (raA_leaf sX3_writePacket_20)) (raA_br (raA_leaf sX3_writePacket_23) (raA_leaf sX3_writePacket_24))))) (raA_br (raA_br (raA_br (raA_leaf sX3_writePacket_26) (raA_br (raA_leaf sX3_writePacket_27) (raA_leaf sX3_writePacket_28))) (raA_br (raA_br (raA_leaf sX3_writePacket_31) (raA_leaf sX3_writePacket_32)) (raA_br (raA_leaf sX3_writePacket_35) (raA_leaf sX3_writePacket_37)))) (raA_br (raA_br (raA_leaf sX3_writePacket_38) (raA_br (raA_leaf sX3_writePacket_41) (raA_leaf sX3_writePacket_42))) (raA_br (raA_br (raA_leaf sX3_writePacket_45) (raA_leaf sX3_writePacket_46)) (raA_br (raA_leaf sX3_writePacket_48) (raA_leaf sX3_writePacket_51)))))) (raA_br (raA_br (raA_br (raA_br (raA_leaf sX3_writePacket_54) (raA_br (raA_leaf sX3_writePacket_56) (raA_leaf sX3_writePacket_58))) (raA_br (raA_br (raA_leaf sX3_writePacket_61) (raA_leaf sX3_writePacket_62)) (raA_br (raA_leaf sX3_writePacket_65) (raA_leaf sX3_writePacket_66)))) (raA_br (raA_br (raA_leaf sX3_writePacket_67) (raA_br (raA_leaf sX3_writePacket_70) (raA_leaf sX3_writePacket_72))) (raA_br (raA_br (raA_leaf sX3_writePacket_75) (raA_leaf sX3_writePacket_77)) (raA_br (raA_leaf sX3_writePacket_80) (raA_leaf sX3_writePacket_81))))) (raA_br (raA_br (raA_br (raA_leaf sX3_writePacket_82) (raA_br (raA_leaf sX3_writePacket_85) (raA_leaf sX3_writePacket_87))) (raA_br (raA_br (raA_leaf sX3_writePacket_89) (raA_leaf sX3_writePacket_90)) (raA_br (raA_leaf sX3_writePacket_93) (raA_leaf sX3_writePacket_96)))) (raA_br (raA_br (raA_leaf sX3_writePacket_97) (raA_br (raA_leaf sX3_writePacket_100) (raA_leaf sX3_writePacket_102))) (raA_br (raA_br (raA_leaf sX3_writePacket_105) (raA_leaf sX3_writePacket_108)) (raA_br (raA_leaf sX3_writePacket_109) (raA_leaf sX3_writePacket_111))))))) (raA_br (raA_br (raA_br (raA_br (raA_br (raA_leaf sX3_writePacket_112) (raA_br (raA_leaf sX3_writePacket_114) (raA_leaf sX3_writePacket_115))) (raA_br (raA_leaf sX3_writePacket_116) (raA_br (raA_leaf sX3_writePacket_119) (raA_leaf sX3_writePacket_121)))) (raA_br (raA_br (raA_leaf sX3_writePacket_124) (raA_br (raA_leaf sX3_writePacket_127) (raA_leaf sX3_writePacket_130))) (raA_br (raA_br (raA_leaf sX3_writePacket_132) (raA_leaf sX3_writePacket_135)) (raA_br (raA_leaf sX3_writePacket_136) (raA_leaf sX3_writePacket_139))))) (raA_br (raA_br (raA_br (raA_leaf sX3_writePacket_141) (raA_br (raA_leaf sX3_writePacket_143) (raA_leaf sX3_writePacket_144))) (raA_br (raA_br (raA_leaf sX3_writePacket_147) (raA_leaf sX3_writePacket_150)) (raA_br (raA_leaf sX3_writePacket_151) (raA_leaf sX3_writePacket_153)))) (raA_br (raA_br (raA_leaf sX3_writePacket_154) (raA_br (raA_leaf sX3_writePacket_155) (raA_leaf sX3_writePacket_158))) (raA_br (raA_br (raA_leaf sX3_writePacket_160) (raA_leaf sX3_writePacket_161)) (raA_br (raA_leaf sX3_writePacket_163) (raA_leaf sX3_writePacket_164)))))) (raA_br (raA_br (raA_br (raA_br (raA_leaf sX3_writePacket_167) (raA_br (raA_leaf sX3_writePacket_169) (raA_leaf sX3_writePacket_170))) (raA_br (raA_br (raA_leaf sX3_writePacket_173) (raA_leaf sX3_writePacket_175)) (raA_br (raA_leaf sX3_writePacket_177) (raA_leaf sX3_writePacket_178)))) (raA_br (raA_br (raA_leaf sX3_writePacket_181) (raA_br (raA_leaf sX3_writePacket_182) (raA_leaf sX3_writePacket_185))) (raA_br (raA_br (raA_leaf sX3_writePacket_187) (raA_leaf sX3_writePacket_188)) (raA_br (raA_leaf sX3_writePacket_190) (raA_leaf sX3_writePacket_191))))) (raA_br (raA_br (raA_br (raA_leaf sX3_writePacket_192) (raA_br (raA_leaf sX3_writePacket_194) (raA_leaf sX3_writePacket_196))) (raA_br (raA_br (raA_leaf sX3_writePacket_199) (raA_leaf sX3_writePacket_201)) (raA_br (raA_leaf sX3_writePacket_202) (raA_leaf sX3_writePacket_205)))) (raA_br (raA_br (raA_leaf sX3_writePacket_206) (raA_br (raA_leaf sX3_writePacket_209) (raA_leaf sX3_writePacket_211))) (raA_br (raA_br (raA_leaf sX3_writePacket_213) (raA_leaf sX3_writePacket_214)) (raA_br (raA_leaf sX3_writePacket_217) (raA_leaf sX3_writePacket_220))))))))
theorem sX4_acrossCorners_0 {h0 : Hp_} : Snd 0 108 h0 (miT TbC) RX4 cX4_acrossCorners 2 (some .int) 0 (i_aload 1 0) := snd_aload_n rfl dX4_acrossCorners_0
theorem sX4_acrossCorners_1 {h0 : Hp_} : Snd 0 108 h0 (miT TbC) RX4 cX4_acrossCorners 2 (some .int) 1 (i_getR 4 3 4) := snd_getR rfl (by decide) (by decide) (by decide) (fun hK ho hs hq kk => gf_X4_18 hK ho hs hq rfl dX4_acrossCorners_1 kk)
theorem sX4_acrossCorners_4 {h0 : Hp_} : Snd 0 108 h0 (miT TbC) RX4 cX4_acrossCorners 2 (some .int) 4 (i_iload 5 1) := snd_iload_n rfl dX4_acrossCorners_4
theorem sX4_acrossCorners_5 {h0 : Hp_} : Snd 0 108 h0 (miT TbC) RX4 cX4_acrossCorners 2 (some .int) 5 (i_const 7 (vI 10)) := snd_bipush (by decide) dX4_acrossCorners_5
theorem sX4_acrossCorners_7 {h0 : Hp_} : Snd 0 108 h0 (miT TbC) RX4 cX4_acrossCorners 2 (some .int) 7 (i_isub 8) := snd_isub dX4_acrossCorners_7
theorem sX4_acrossCorners_8 {h0 : Hp_} : Snd 0 108 h0 (miT TbC) RX4 cX4_acrossCorners 2 (some .int) 8 (i_const 9 (vI 1)) := snd_iconst dX4_acrossCorners_8
theorem sX4_acrossCorners_9 {h0 : Hp_} : Snd 0 108 h0 (miT TbC) RX4 cX4_acrossCorners 2 (some .int) 9 (i_isub 10) := snd_isub dX4_acrossCorners_9
theorem sX4_acrossCorners_10 {h0 : Hp_} : Snd 0 108 h0 (miT TbC) RX4 cX4_acrossCorners 2 (some .int) 10 (i_iald 0 108 11) := snd_iald dX4_acrossCorners_10
theorem sX4_acrossCorners_11 {h0 : Hp_} : Snd 0 108 h0 (miT TbC) RX4 cX4_acrossCorners 2 (some .int) 11 (i_const 12 (vI 1)) := snd_iconst dX4_acrossCorners_11
theorem sX4_acrossCorners_12 {h0 : Hp_} : Snd 0 108 h0 (miT TbC) RX4 cX4_acrossCorners 2 (some .int) 12 (i_iand 13) := snd_iand dX4_acrossCorners_12
theorem sX4_acrossCorners_13 {h0 : Hp_} : Snd 0 108 h0 (miT TbC) RX4 cX4_acrossCorners 2 (some .int) 13 (i_aload 14 0) := snd_aload_n rfl dX4_acrossCorners_13
theorem sX4_acrossCorners_14 {h0 : Hp_} : Snd 0 108 h0 (miT TbC) RX4 cX4_acrossCorners 2 (some .int) 14 (i_getR 4 3 17) := snd_getR rfl (by decide) (by decide) (by decide) (fun hK ho hs hq kk => gf_X4_18 hK ho hs hq rfl dX4_acrossCorners_14 kk)
theorem sX4_acrossCorners_17 {h0 : Hp_} : Snd 0 108 h0 (miT TbC) RX4 cX4_acrossCorners 2 (some .int) 17 (i_iload 18 1) := snd_iload_n rfl dX4_acrossCorners_17
theorem sX4_acrossCorners_18 {h0 : Hp_} : Snd 0 108 h0 (miT TbC) RX4 cX4_acrossCorners 2 (some .int) 18 (i_const 20 (vI 10)) := snd_bipush (by decide) dX4_acrossCorners_18
theorem sX4_acrossCorners_20 {h0 : Hp_} : Snd 0 108 h0 (miT TbC) RX4 cX4_acrossCorners 2 (some .int) 20 (i_isub 21) := snd_isub dX4_acrossCorners_20
theorem sX4_acrossCorners_21 {h0 : Hp_} : Snd 0 108 h0 (miT TbC) RX4 cX4_acrossCorners 2 (some .int) 21 (i_const 22 (vI 1)) := snd_iconst dX4_acrossCorners_21
theorem sX4_acrossCorners_22 {h0 : Hp_} : Snd 0 108 h0 (miT TbC) RX4 cX4_acrossCorners 2 (some .int) 22 (i_iadd 23) := snd_iadd dX4_acrossCorners_22
theorem sX4_acrossCorners_23 {h0 : Hp_} : Snd 0 108 h0 (miT TbC) RX4 cX4_acrossCorners 2 (some .int) 23 (i_iald 0 108 24) := snd_iald dX4_acrossCorners_23
theorem sX4_acrossCorners_24 {h0 : Hp_} : Snd 0 108 h0 (miT TbC) RX4 cX4_acrossCorners 2 (some .int) 24 (i_const 25 (vI 1)) := snd_iconst dX4_acrossCorners_24
theorem sX4_acrossCorners_25 {h0 : Hp_} : Snd 0 108 h0 (miT TbC) RX4 cX4_acrossCorners 2 (some .int) 25 (i_iand 26) := snd_iand dX4_acrossCorners_25
theorem sX4_acrossCorners_26 {h0 : Hp_} : Snd 0 108 h0 (miT TbC) RX4 cX4_acrossCorners 2 (some .int) 26 (i_iadd 27) := snd_iadd dX4_acrossCorners_26
theorem sX4_acrossCorners_27 {h0 : Hp_} : Snd 0 108 h0 (miT TbC) RX4 cX4_acrossCorners 2 (some .int) 27 (i_aload 28 0) := snd_aload_n rfl dX4_acrossCorners_27
theorem sX4_acrossCorners_28 {h0 : Hp_} : Snd 0 108 h0 (miT TbC) RX4 cX4_acrossCorners 2 (some .int) 28 (i_getR 4 3 31) := snd_getR rfl (by decide) (by decide) (by decide) (fun hK ho hs hq kk => gf_X4_18 hK ho hs hq rfl dX4_acrossCorners_28 kk)
theorem sX4_acrossCorners_31 {h0 : Hp_} : Snd 0 108 h0 (miT TbC) RX4 cX4_acrossCorners 2 (some .int) 31 (i_iload 32 1) := snd_iload_n rfl dX4_acrossCorners_31
theorem sX4_acrossCorners_32 {h0 : Hp_} : Snd 0 108 h0 (miT TbC) RX4 cX4_acrossCorners 2 (some .int) 32 (i_const 34 (vI 10)) := snd_bipush (by decide) dX4_acrossCorners_32
theorem sX4_acrossCorners_34 {h0 : Hp_} : Snd 0 108 h0 (miT TbC) RX4 cX4_acrossCorners 2 (some .int) 34 (i_iadd 35) := snd_iadd dX4_acrossCorners_34
theorem sX4_acrossCorners_35 {h0 : Hp_} : Snd 0 108 h0 (miT TbC) RX4 cX4_acrossCorners 2 (some .int) 35 (i_const 36 (vI 1)) := snd_iconst dX4_acrossCorners_35
theorem sX4_acrossCorners_36 {h0 : Hp_} : Snd 0 108 h0 (miT TbC) RX4 cX4_acrossCorners 2 (some .int) 36 (i_isub 37) := snd_isub dX4_acrossCorners_36
theorem sX4_acrossCorners_37 {h0 : Hp_} : Snd 0 108 h0 (miT TbC) RX4 cX4_acrossCorners 2 (some .int) 37 (i_iald 0 108 38) := snd_iald dX4_acrossCorners_37
theorem sX4_acrossCorners_38 {h0 : Hp_} : Snd 0 108 h0 (miT TbC) RX4 cX4_acrossCorners 2 (some .int) 38 (i_const 39 (vI 1)) := snd_iconst dX4_acrossCorners_38
theorem sX4_acrossCorners_39 {h0 : Hp_} : Snd 0 108 h0 (miT TbC) RX4 cX4_acrossCorners 2 (some .int) 39 (i_iand 40) := snd_iand dX4_acrossCorners_39
theorem sX4_acrossCorners_40 {h0 : Hp_} : Snd 0 108 h0 (miT TbC) RX4 cX4_acrossCorners 2 (some .int) 40 (i_iadd 41) := snd_iadd dX4_acrossCorners_40
theorem sX4_acrossCorners_41 {h0 : Hp_} : Snd 0 108 h0 (miT TbC) RX4 cX4_acrossCorners 2 (some .int) 41 (i_aload 42 0) := snd_aload_n rfl dX4_acrossCorners_41
theorem sX4_acrossCorners_42 {h0 : Hp_} : Snd 0 108 h0 (miT TbC) RX4 cX4_acrossCorners 2 (some .int) 42 (i_getR 4 3 45) := snd_getR rfl (by decide) (by decide) (by decide) (fun hK ho hs hq kk => gf_X4_18 hK ho hs hq rfl dX4_acrossCorners_42 kk)
theorem sX4_acrossCorners_45 {h0 : Hp_} : Snd 0 108 h0 (miT TbC) RX4 cX4_acrossCorners 2 (some .int) 45 (i_iload 46 1) := snd_iload_n rfl dX4_acrossCorners_45
theorem sX4_acrossCorners_46 {h0 : Hp_} : Snd 0 108 h0 (miT TbC) RX4 cX4_acrossCorners 2 (some .int) 46 (i_const 48 (vI 10)) := snd_bipush (by decide) dX4_acrossCorners_46
theorem sX4_acrossCorners_48 {h0 : Hp_} : Snd 0 108 h0 (miT TbC) RX4 cX4_acrossCorners 2 (some .int) 48 (i_iadd 49) := snd_iadd dX4_acrossCorners_48
theorem sX4_acrossCorners_49 {h0 : Hp_} : Snd 0 108 h0 (miT TbC) RX4 cX4_acrossCorners 2 (some .int) 49 (i_const 50 (vI 1)) := snd_iconst dX4_acrossCorners_49
theorem sX4_acrossCorners_50 {h0 : Hp_} : Snd 0 108 h0 (miT TbC) RX4 cX4_acrossCorners 2 (some .int) 50 (i_iadd 51) := snd_iadd dX4_acrossCorners_50
theorem sX4_acrossCorners_51 {h0 : Hp_} : Snd 0 108 h0 (miT TbC) RX4 cX4_acrossCorners 2 (some .int) 51 (i_iald 0 108 52) := snd_iald dX4_acrossCorners_51
theorem sX4_acrossCorners_52 {h0 : Hp_} : Snd 0 108 h0 (miT TbC) RX4 cX4_acrossCorners 2 (some .int) 52 (i_const 53 (vI 1)) := snd_iconst dX4_acrossCorners_52
theorem sX4_acrossCorners_53 {h0 : Hp_} : Snd 0 108 h0 (miT TbC) RX4 cX4_acrossCorners 2 (some .int) 53 (i_iand 54) := snd_iand dX4_acrossCorners_53
theorem sX4_acrossCorners_54 {h0 : Hp_} : Snd 0 108 h0 (miT TbC) RX4 cX4_acrossCorners 2 (some .int) 54 (i_iadd 55) := snd_iadd dX4_acrossCorners_54
theorem sX4_acrossCorners_55 {h0 : Hp_} : Snd 0 108 h0 (miT TbC) RX4 cX4_acrossCorners 2 (some .int) 55 (i_iret) := snd_iret dX4_acrossCorners_55
theorem kX4_acrossCorners {h0 : Hp_} : raA (okI 0 108 h0 (miT TbC) (yX4_acrossCorners, cX4_acrossCorners, 2, (some .int))) tX4_acrossCorners := (raA_br (raA_br (raA_br (raA_br (raA_br (raA_leaf sX4_acrossCorners_0) (raA_leaf sX4_acrossCorners_1)) (raA_br (raA_leaf sX4_acrossCorners_4) (raA_br (raA_leaf sX4_acrossCorners_5) (raA_leaf sX4_acrossCorners_7)))) (raA_br (raA_br (raA_leaf sX4_acrossCorners_8) (raA_br (raA_leaf sX4_acrossCorners_9) (raA_leaf sX4_acrossCorners_10))) (raA_br (raA_leaf sX4_acrossCorners_11) (raA_br (raA_leaf sX4_acrossCorners_12) (raA_leaf sX4_acrossCorners_13))))) (raA_br (raA_br (raA_br (raA_leaf sX4_acrossCorners_14) (raA_leaf sX4_acrossCorners_17)) (raA_br (raA_leaf sX4_acrossCorners_18) (raA_br (raA_leaf sX4_acrossCorners_20) (raA_leaf sX4_acrossCorners_21)))) (raA_br (raA_br (raA_leaf sX4_acrossCorners_22) (raA_br (raA_leaf sX4_acrossCorners_23) (raA_leaf sX4_acrossCorners_24))) (raA_br (raA_leaf sX4_acrossCorners_25) (raA_br (raA_leaf sX4_acrossCorners_26) (raA_leaf sX4_acrossCorners_27)))))) (raA_br (raA_br (raA_br (raA_br (raA_leaf sX4_acrossCorners_28) (raA_leaf sX4_acrossCorners_31)) (raA_br (raA_leaf sX4_acrossCorners_32) (raA_br (raA_leaf sX4_acrossCorners_34) (raA_leaf sX4_acrossCorners_35)))) (raA_br (raA_br (raA_leaf sX4_acrossCorners_36) (raA_br (raA_leaf sX4_acrossCorners_37) (raA_leaf sX4_acrossCorners_38))) (raA_br (raA_leaf sX4_acrossCorners_39) (raA_br (raA_leaf sX4_acrossCorners_40) (raA_leaf sX4_acrossCorners_41))))) (raA_br (raA_br (raA_br (raA_leaf sX4_acrossCorners_42) (raA_leaf sX4_acrossCorners_45)) (raA_br (raA_leaf sX4_acrossCorners_46) (raA_br (raA_leaf sX4_acrossCorners_48) (raA_leaf sX4_acrossCorners_49)))) (raA_br (raA_br (raA_leaf sX4_acrossCorners_50) (raA_br (raA_leaf sX4_acrossCorners_51) (raA_leaf sX4_acrossCorners_52))) (raA_br (raA_leaf sX4_acrossCorners_53) (raA_br (raA_leaf sX4_acrossCorners_54) (raA_leaf sX4_acrossCorners_55)))))))
theorem sX4_begin_0 {h0 : Hp_} : Snd 0 108 h0 (miT TbC) RX4 cX4_begin 5 none 0 (i_aload 1 0) := snd_aload_n rfl dX4_begin_0
theorem sX4_begin_1 {h0 : Hp_} : Snd 0 108 h0 (miT TbC) RX4 cX4_begin 5 none 1 (i_iload 2 1) := snd_iload_n rfl dX4_begin_1
theorem sX4_begin_2 {h0 : Hp_} : Snd 0 108 h0 (miT TbC) RX4 cX4_begin 5 none 2 (i_putI 4 6 5) := snd_putI hl0 (fun hK ho hs kk => pf_X4_32 hK ho hs dX4_begin_2 kk)
theorem sX4_begin_5 {h0 : Hp_} : Snd 0 108 h0 (miT TbC) RX4 cX4_begin 5 none 5 (i_aload 6 0) := snd_aload_n rfl dX4_begin_5
theorem sX4_begin_6 {h0 : Hp_} : Snd 0 108 h0 (miT TbC) RX4 cX4_begin 5 none 6 (i_iload 7 2) := snd_iload_n rfl dX4_begin_6
theorem sX4_begin_7 {h0 : Hp_} : Snd 0 108 h0 (miT TbC) RX4 cX4_begin 5 none 7 (i_putI 4 7 10) := snd_putI hl0 (fun hK ho hs kk => pf_X4_36 hK ho hs dX4_begin_7 kk)
theorem sX4_begin_10 {h0 : Hp_} : Snd 0 108 h0 (miT TbC) RX4 cX4_begin 5 none 10 (i_aload 11 0) := snd_aload_n rfl dX4_begin_10
theorem sX4_begin_11 {h0 : Hp_} : Snd 0 108 h0 (miT TbC) RX4 cX4_begin 5 none 11 (i_iload 12 3) := snd_iload_n rfl dX4_begin_11
theorem sX4_begin_12 {h0 : Hp_} : Snd 0 108 h0 (miT TbC) RX4 cX4_begin 5 none 12 (i_putI 4 8 15) := snd_putI hl0 (fun hK ho hs kk => pf_X4_39 hK ho hs dX4_begin_12 kk)
theorem sX4_begin_15 {h0 : Hp_} : Snd 0 108 h0 (miT TbC) RX4 cX4_begin 5 none 15 (i_aload 16 0) := snd_aload_n rfl dX4_begin_15
theorem sX4_begin_16 {h0 : Hp_} : Snd 0 108 h0 (miT TbC) RX4 cX4_begin 5 none 16 (i_getR 4 1 19) := snd_getR rfl (by decide) (by decide) (by decide) (fun hK ho hs hq kk => gf_X4_11 hK ho hs hq rfl dX4_begin_16 kk)
theorem sX4_begin_19 {h0 : Hp_} : Snd 0 108 h0 (miT TbC) RX4 cX4_begin 5 none 19 (i_const 20 (vI 0)) := snd_iconst dX4_begin_19
theorem sX4_begin_20 {h0 : Hp_} : Snd 0 108 h0 (miT TbC) RX4 cX4_begin 5 none 20 (i_cS2 1 23) := snd_cS2 (fun hK hd hC h6 h7 h8 kk => iv_X4_42 hK (mcC_1 hC) ⟨hd, by show _ ≤ 40 * (_ + 1); omega⟩ (Nat.le_refl _) h6 h7 h8 ⟨Nat.le_refl _, Nat.le_refl _⟩ dX4_begin_20 kk)
theorem sX4_begin_23 {h0 : Hp_} : Snd 0 108 h0 (miT TbC) RX4 cX4_begin 5 none 23 (i_aload 24 0) := snd_aload_n rfl dX4_begin_23
theorem sX4_begin_24 {h0 : Hp_} : Snd 0 108 h0 (miT TbC) RX4 cX4_begin 5 none 24 (i_getR 4 2 27) := snd_getR rfl (by decide) (by decide) (by decide) (fun hK ho hs hq kk => gf_X4_15 hK ho hs hq rfl dX4_begin_24 kk)
theorem sX4_begin_27 {h0 : Hp_} : Snd 0 108 h0 (miT TbC) RX4 cX4_begin 5 none 27 (i_const 28 (vI 0)) := snd_iconst dX4_begin_27
theorem sX4_begin_28 {h0 : Hp_} : Snd 0 108 h0 (miT TbC) RX4 cX4_begin 5 none 28 (i_cS2 1 31) := snd_cS2 (fun hK hd hC h6 h7 h8 kk => iv_X4_42 hK (mcC_1 hC) ⟨hd, by show _ ≤ 40 * (_ + 1); omega⟩ (Nat.le_refl _) h6 h7 h8 ⟨Nat.le_refl _, Nat.le_refl _⟩ dX4_begin_28 kk)
theorem sX4_begin_31 {h0 : Hp_} : Snd 0 108 h0 (miT TbC) RX4 cX4_begin 5 none 31 (i_aload 32 0) := snd_aload_n rfl dX4_begin_31
theorem sX4_begin_32 {h0 : Hp_} : Snd 0 108 h0 (miT TbC) RX4 cX4_begin 5 none 32 (i_getR 4 3 35) := snd_getR rfl (by decide) (by decide) (by decide) (fun hK ho hs hq kk => gf_X4_18 hK ho hs hq rfl dX4_begin_32 kk)
theorem sX4_begin_35 {h0 : Hp_} : Snd 0 108 h0 (miT TbC) RX4 cX4_begin 5 none 35 (i_const 36 (vI 0)) := snd_iconst dX4_begin_35
theorem sX4_begin_36 {h0 : Hp_} : Snd 0 108 h0 (miT TbC) RX4 cX4_begin 5 none 36 (i_cS2 1 39) := snd_cS2 (fun hK hd hC h6 h7 h8 kk => iv_X4_42 hK (mcC_1 hC) ⟨hd, by show _ ≤ 40 * (_ + 1); omega⟩ (Nat.le_refl _) h6 h7 h8 ⟨Nat.le_refl _, Nat.le_refl _⟩ dX4_begin_36 kk)
theorem sX4_begin_39 {h0 : Hp_} : Snd 0 108 h0 (miT TbC) RX4 cX4_begin 5 none 39 (i_aload 40 0) := snd_aload_n rfl dX4_begin_39
theorem sX4_begin_40 {h0 : Hp_} : Snd 0 108 h0 (miT TbC) RX4 cX4_begin 5 none 40 (i_cV0 45 4 43) := snd_cV0 (fun hK hd hC ho hs h6 h7 h8 kk => iv_X4_48 hK (mcC_45 hC) ho hs ⟨hd, by show _ ≤ 40 * (_ + 1); omega⟩ (Nat.le_refl _) h6 h7 h8 ⟨Nat.le_refl _, Nat.le_refl _⟩ dX4_begin_40 kk)
theorem sX4_begin_43 {h0 : Hp_} : Snd 0 108 h0 (miT TbC) RX4 cX4_begin 5 none 43 (i_const 44 (vI 0)) := snd_iconst dX4_begin_43
theorem sX4_begin_44 {h0 : Hp_} : Snd 0 108 h0 (miT TbC) RX4 cX4_begin 5 none 44 (i_istore 46 4) := snd_istore (by decide) dX4_begin_44
theorem sX4_begin_46 {h0 : Hp_} : Snd 0 108 h0 (miT TbC) RX4 cX4_begin 5 none 46 (i_iload 48 4) := snd_iload dX4_begin_46
theorem sX4_begin_48 {h0 : Hp_} : Snd 0 108 h0 (miT TbC) RX4 cX4_begin 5 none 48 (i_aload 49 0) := snd_aload_n rfl dX4_begin_48
theorem sX4_begin_49 {h0 : Hp_} : Snd 0 108 h0 (miT TbC) RX4 cX4_begin 5 none 49 (i_getR 4 5 52) := snd_getR rfl (by decide) (by decide) (by decide) (fun hK ho hs hq kk => gf_X4_25 hK ho hs hq rfl dX4_begin_49 kk)
theorem sX4_begin_52 {h0 : Hp_} : Snd 0 108 h0 (miT TbC) RX4 cX4_begin 5 none 52 (i_alen 53) := snd_alen dX4_begin_52
theorem sX4_begin_53 {h0 : Hp_} : Snd 0 108 h0 (miT TbC) RX4 cX4_begin 5 none 53 (i_icmp_ge 56 70) := snd_icmp_ge dX4_begin_53 rfl
theorem sX4_begin_56 {h0 : Hp_} : Snd 0 108 h0 (miT TbC) RX4 cX4_begin 5 none 56 (i_aload 57 0) := snd_aload_n rfl dX4_begin_56
theorem sX4_begin_57 {h0 : Hp_} : Snd 0 108 h0 (miT TbC) RX4 cX4_begin 5 none 57 (i_getR 4 5 60) := snd_getR rfl (by decide) (by decide) (by decide) (fun hK ho hs hq kk => gf_X4_25 hK ho hs hq rfl dX4_begin_57 kk)
theorem sX4_begin_60 {h0 : Hp_} : Snd 0 108 h0 (miT TbC) RX4 cX4_begin 5 none 60 (i_iload 62 4) := snd_iload dX4_begin_60
theorem sX4_begin_62 {h0 : Hp_} : Snd 0 108 h0 (miT TbC) RX4 cX4_begin 5 none 62 (i_const 63 (vI 0)) := snd_iconst dX4_begin_62
theorem sX4_begin_63 {h0 : Hp_} : Snd 0 108 h0 (miT TbC) RX4 cX4_begin 5 none 63 (i_zast 0 108 64) := snd_zast dX4_begin_63
theorem sX4_begin_64 {h0 : Hp_} : Snd 0 108 h0 (miT TbC) RX4 cX4_begin 5 none 64 (i_iinc 67 4 1) := snd_iinc (by decide) dX4_begin_64
theorem sX4_begin_67 {h0 : Hp_} : Snd 0 108 h0 (miT TbC) RX4 cX4_begin 5 none 67 (i_goto 46) := snd_goto dX4_begin_67 rfl
theorem sX4_begin_70 {h0 : Hp_} : Snd 0 108 h0 (miT TbC) RX4 cX4_begin 5 none 70 (i_vret) := snd_vret dX4_begin_70
theorem kX4_begin {h0 : Hp_} : raA (okI 0 108 h0 (miT TbC) (yX4_begin, cX4_begin, 5, none)) tX4_begin := (raA_br (raA_br (raA_br (raA_br (raA_br (raA_leaf sX4_begin_0) (raA_leaf sX4_begin_1)) (raA_br (raA_leaf sX4_begin_2) (raA_leaf sX4_begin_5))) (raA_br (raA_br (raA_leaf sX4_begin_6) (raA_leaf sX4_begin_7)) (raA_br (raA_leaf sX4_begin_10) (raA_br (raA_leaf sX4_begin_11) (raA_leaf sX4_begin_12))))) (raA_br (raA_br (raA_br (raA_leaf sX4_begin_15) (raA_leaf sX4_begin_16)) (raA_br (raA_leaf sX4_begin_19) (raA_br (raA_leaf sX4_begin_20) (raA_leaf sX4_begin_23)))) (raA_br (raA_br (raA_leaf sX4_begin_24) (raA_leaf sX4_begin_27)) (raA_br (raA_leaf sX4_begin_28) (raA_br (raA_leaf sX4_begin_31) (raA_leaf sX4_begin_32)))))) (raA_br (raA_br (raA_br (raA_br (raA_leaf sX4_begin_35) (raA_leaf sX4_begin_36)) (raA_br (raA_leaf sX4_begin_39) (raA_leaf sX4_begin_40))) (raA_br (raA_br (raA_leaf sX4_begin_43) (raA_leaf sX4_begin_44)) (raA_br (raA_leaf sX4_begin_46) (raA_br (raA_leaf sX4_begin_48) (raA_leaf sX4_begin_49))))) (raA_br (raA_br (raA_br (raA_leaf sX4_begin_52) (raA_leaf sX4_begin_53)) (raA_br (raA_leaf sX4_begin_56) (raA_br (raA_leaf sX4_begin_57) (raA_leaf sX4_begin_60)))) (raA_br (raA_br (raA_leaf sX4_begin_62) (raA_leaf sX4_begin_63)) (raA_br (raA_leaf sX4_begin_64) (raA_br (raA_leaf sX4_begin_67) (raA_leaf sX4_begin_70)))))))
theorem sX4_cleanColumn_0 {h0 : Hp_} : Snd 0 108 h0 (miT TbC) RX4 cX4_cleanColumn 6 none 0 (i_const 1 (vI 0)) := snd_iconst dX4_cleanColumn_0
theorem sX4_cleanColumn_1 {h0 : Hp_} : Snd 0 108 h0 (miT TbC) RX4 cX4_cleanColumn 6 none 1 (i_istore 2 3) := snd_istore_n rfl (by decide) dX4_cleanColumn_1
theorem sX4_cleanColumn_2 {h0 : Hp_} : Snd 0 108 h0 (miT TbC) RX4 cX4_cleanColumn 6 none 2 (i_iload 3 2) := snd_iload_n rfl dX4_cleanColumn_2
theorem sX4_cleanColumn_3 {h0 : Hp_} : Snd 0 108 h0 (miT TbC) RX4 cX4_cleanColumn 6 none 3 (i_const 4 (vI 4)) := snd_iconst dX4_cleanColumn_3
theorem sX4_cleanColumn_4 {h0 : Hp_} : Snd 0 108 h0 (miT TbC) RX4 cX4_cleanColumn 6 none 4 (i_icmp_ne 7 44) := snd_icmp_ne dX4_cleanColumn_4 rfl
theorem sX4_cleanColumn_7 {h0 : Hp_} : Snd 0 108 h0 (miT TbC) RX4 cX4_cleanColumn 6 none 7 (i_aload 8 0) := snd_aload_n rfl dX4_cleanColumn_7
theorem sX4_cleanColumn_8 {h0 : Hp_} : Snd 0 108 h0 (miT TbC) RX4 cX4_cleanColumn 6 none 8 (i_iload 9 1) := snd_iload_n rfl dX4_cleanColumn_8
theorem sX4_cleanColumn_9 {h0 : Hp_} : Snd 0 108 h0 (miT TbC) RX4 cX4_cleanColumn 6 none 9 (i_stop) := snd_stop
theorem sX4_cleanColumn_12 {h0 : Hp_} : Snd 0 108 h0 (miT TbC) RX4 cX4_cleanColumn 6 none 12 (i_if_eq 15 44) := snd_if_eq dX4_cleanColumn_12 rfl
theorem sX4_cleanColumn_15 {h0 : Hp_} : Snd 0 108 h0 (miT TbC) RX4 cX4_cleanColumn 6 none 15 (i_aload 16 0) := snd_aload_n rfl dX4_cleanColumn_15
theorem sX4_cleanColumn_16 {h0 : Hp_} : Snd 0 108 h0 (miT TbC) RX4 cX4_cleanColumn 6 none 16 (i_iload 17 1) := snd_iload_n rfl dX4_cleanColumn_16
theorem sX4_cleanColumn_17 {h0 : Hp_} : Snd 0 108 h0 (miT TbC) RX4 cX4_cleanColumn 6 none 17 (i_stop) := snd_stop
theorem sX4_cleanColumn_20 {h0 : Hp_} : Snd 0 108 h0 (miT TbC) RX4 cX4_cleanColumn 6 none 20 (i_istore 22 4) := snd_istore (by decide) dX4_cleanColumn_20
theorem sX4_cleanColumn_22 {h0 : Hp_} : Snd 0 108 h0 (miT TbC) RX4 cX4_cleanColumn 6 none 22 (i_iload 24 4) := snd_iload dX4_cleanColumn_22
theorem sX4_cleanColumn_24 {h0 : Hp_} : Snd 0 108 h0 (miT TbC) RX4 cX4_cleanColumn 6 none 24 (i_const 25 (vI 4)) := snd_iconst dX4_cleanColumn_24
theorem sX4_cleanColumn_25 {h0 : Hp_} : Snd 0 108 h0 (miT TbC) RX4 cX4_cleanColumn 6 none 25 (i_icmp_ge 28 39) := snd_icmp_ge dX4_cleanColumn_25 rfl
theorem sX4_cleanColumn_28 {h0 : Hp_} : Snd 0 108 h0 (miT TbC) RX4 cX4_cleanColumn 6 none 28 (i_aload 29 0) := snd_aload_n rfl dX4_cleanColumn_28
theorem sX4_cleanColumn_29 {h0 : Hp_} : Snd 0 108 h0 (miT TbC) RX4 cX4_cleanColumn 6 none 29 (i_iload 30 1) := snd_iload_n rfl dX4_cleanColumn_29
theorem sX4_cleanColumn_30 {h0 : Hp_} : Snd 0 108 h0 (miT TbC) RX4 cX4_cleanColumn 6 none 30 (i_iload 32 4) := snd_iload dX4_cleanColumn_30
theorem sX4_cleanColumn_32 {h0 : Hp_} : Snd 0 108 h0 (miT TbC) RX4 cX4_cleanColumn 6 none 32 (i_const 34 (vI 10)) := snd_bipush (by decide) dX4_cleanColumn_32
theorem sX4_cleanColumn_34 {h0 : Hp_} : Snd 0 108 h0 (miT TbC) RX4 cX4_cleanColumn 6 none 34 (i_imul 35) := snd_imul dX4_cleanColumn_34
theorem sX4_cleanColumn_35 {h0 : Hp_} : Snd 0 108 h0 (miT TbC) RX4 cX4_cleanColumn 6 none 35 (i_iadd 36) := snd_iadd dX4_cleanColumn_35
theorem sX4_cleanColumn_36 {h0 : Hp_} : Snd 0 108 h0 (miT TbC) RX4 cX4_cleanColumn 6 none 36 (i_cV1 58 4 39) := snd_cV1 (fun hK hd hC ho hs h6 h7 h8 kk => iv_X4_85 hK (mcC_58 hC) ho hs ⟨hd, by show _ ≤ 40 * (_ + 1); omega⟩ (Nat.le_refl _) h6 h7 h8 ⟨Nat.le_refl _, Nat.le_refl _⟩ dX4_cleanColumn_36 kk)
theorem sX4_cleanColumn_39 {h0 : Hp_} : Snd 0 108 h0 (miT TbC) RX4 cX4_cleanColumn 6 none 39 (i_iload 41 4) := snd_iload dX4_cleanColumn_39
theorem sX4_cleanColumn_41 {h0 : Hp_} : Snd 0 108 h0 (miT TbC) RX4 cX4_cleanColumn 6 none 41 (i_const 42 (vI 1)) := snd_iconst dX4_cleanColumn_41
theorem sX4_cleanColumn_42 {h0 : Hp_} : Snd 0 108 h0 (miT TbC) RX4 cX4_cleanColumn 6 none 42 (i_iadd 43) := snd_iadd dX4_cleanColumn_42
theorem sX4_cleanColumn_43 {h0 : Hp_} : Snd 0 108 h0 (miT TbC) RX4 cX4_cleanColumn 6 none 43 (i_istore 44 3) := snd_istore_n rfl (by decide) dX4_cleanColumn_43
theorem sX4_cleanColumn_44 {h0 : Hp_} : Snd 0 108 h0 (miT TbC) RX4 cX4_cleanColumn 6 none 44 (i_iload 45 3) := snd_iload_n rfl dX4_cleanColumn_44
theorem sX4_cleanColumn_45 {h0 : Hp_} : Snd 0 108 h0 (miT TbC) RX4 cX4_cleanColumn 6 none 45 (i_istore 47 4) := snd_istore (by decide) dX4_cleanColumn_45
theorem sX4_cleanColumn_47 {h0 : Hp_} : Snd 0 108 h0 (miT TbC) RX4 cX4_cleanColumn 6 none 47 (i_iload 49 4) := snd_iload dX4_cleanColumn_47
theorem sX4_cleanColumn_49 {h0 : Hp_} : Snd 0 108 h0 (miT TbC) RX4 cX4_cleanColumn 6 none 49 (i_iload 50 2) := snd_iload_n rfl dX4_cleanColumn_49
theorem sX4_cleanColumn_50 {h0 : Hp_} : Snd 0 108 h0 (miT TbC) RX4 cX4_cleanColumn 6 none 50 (i_icmp_ge 53 119) := snd_icmp_ge dX4_cleanColumn_50 rfl
theorem sX4_cleanColumn_53 {h0 : Hp_} : Snd 0 108 h0 (miT TbC) RX4 cX4_cleanColumn 6 none 53 (i_iload 54 1) := snd_iload_n rfl dX4_cleanColumn_53
theorem sX4_cleanColumn_54 {h0 : Hp_} : Snd 0 108 h0 (miT TbC) RX4 cX4_cleanColumn 6 none 54 (i_iload 56 4) := snd_iload dX4_cleanColumn_54
theorem sX4_cleanColumn_56 {h0 : Hp_} : Snd 0 108 h0 (miT TbC) RX4 cX4_cleanColumn 6 none 56 (i_const 58 (vI 10)) := snd_bipush (by decide) dX4_cleanColumn_56
theorem sX4_cleanColumn_58 {h0 : Hp_} : Snd 0 108 h0 (miT TbC) RX4 cX4_cleanColumn 6 none 58 (i_imul 59) := snd_imul dX4_cleanColumn_58
theorem sX4_cleanColumn_59 {h0 : Hp_} : Snd 0 108 h0 (miT TbC) RX4 cX4_cleanColumn 6 none 59 (i_iadd 60) := snd_iadd dX4_cleanColumn_59
theorem sX4_cleanColumn_60 {h0 : Hp_} : Snd 0 108 h0 (miT TbC) RX4 cX4_cleanColumn 6 none 60 (i_istore 62 5) := snd_istore (by decide) dX4_cleanColumn_60
theorem sX4_cleanColumn_62 {h0 : Hp_} : Snd 0 108 h0 (miT TbC) RX4 cX4_cleanColumn 6 none 62 (i_aload 63 0) := snd_aload_n rfl dX4_cleanColumn_62
theorem sX4_cleanColumn_63 {h0 : Hp_} : Snd 0 108 h0 (miT TbC) RX4 cX4_cleanColumn 6 none 63 (i_getR 4 3 66) := snd_getR rfl (by decide) (by decide) (by decide) (fun hK ho hs hq kk => gf_X4_18 hK ho hs hq rfl dX4_cleanColumn_63 kk)
theorem sX4_cleanColumn_66 {h0 : Hp_} : Snd 0 108 h0 (miT TbC) RX4 cX4_cleanColumn 6 none 66 (i_iload 68 5) := snd_iload dX4_cleanColumn_66
theorem sX4_cleanColumn_68 {h0 : Hp_} : Snd 0 108 h0 (miT TbC) RX4 cX4_cleanColumn 6 none 68 (i_iald 0 108 69) := snd_iald dX4_cleanColumn_68
theorem sX4_cleanColumn_69 {h0 : Hp_} : Snd 0 108 h0 (miT TbC) RX4 cX4_cleanColumn 6 none 69 (i_if_ne 72 113) := snd_if_ne dX4_cleanColumn_69 rfl
theorem sX4_cleanColumn_72 {h0 : Hp_} : Snd 0 108 h0 (miT TbC) RX4 cX4_cleanColumn 6 none 72 (i_aload 73 0) := snd_aload_n rfl dX4_cleanColumn_72
theorem sX4_cleanColumn_73 {h0 : Hp_} : Snd 0 108 h0 (miT TbC) RX4 cX4_cleanColumn 6 none 73 (i_getR 4 4 76) := snd_getR rfl (by decide) (by decide) (by decide) (fun hK ho hs hq kk => gf_X4_21 hK ho hs hq rfl dX4_cleanColumn_73 kk)
theorem sX4_cleanColumn_76 {h0 : Hp_} : Snd 0 108 h0 (miT TbC) RX4 cX4_cleanColumn 6 none 76 (i_iload 78 5) := snd_iload dX4_cleanColumn_76
theorem sX4_cleanColumn_78 {h0 : Hp_} : Snd 0 108 h0 (miT TbC) RX4 cX4_cleanColumn 6 none 78 (i_zald 0 108 79) := snd_zald dX4_cleanColumn_78
theorem sX4_cleanColumn_79 {h0 : Hp_} : Snd 0 108 h0 (miT TbC) RX4 cX4_cleanColumn 6 none 79 (i_if_ne 82 113) := snd_if_ne dX4_cleanColumn_79 rfl
theorem sX4_cleanColumn_82 {h0 : Hp_} : Snd 0 108 h0 (miT TbC) RX4 cX4_cleanColumn 6 none 82 (i_aload 83 0) := snd_aload_n rfl dX4_cleanColumn_82
theorem sX4_cleanColumn_83 {h0 : Hp_} : Snd 0 108 h0 (miT TbC) RX4 cX4_cleanColumn 6 none 83 (i_getR 4 0 86) := snd_getR rfl (by decide) (by decide) (by decide) (fun hK ho hs hq kk => gf_X4_28 hK ho hs hq rfl dX4_cleanColumn_83 kk)
theorem sX4_cleanColumn_86 {h0 : Hp_} : Snd 0 108 h0 (miT TbC) RX4 cX4_cleanColumn 6 none 86 (i_aload 87 0) := snd_aload_n rfl dX4_cleanColumn_86
theorem sX4_cleanColumn_87 {h0 : Hp_} : Snd 0 108 h0 (miT TbC) RX4 cX4_cleanColumn 6 none 87 (i_iload 89 5) := snd_iload dX4_cleanColumn_87
theorem sX4_cleanColumn_89 {h0 : Hp_} : Snd 0 108 h0 (miT TbC) RX4 cX4_cleanColumn 6 none 89 (i_cV1 46 4 92) := snd_cV1 (fun hK hd hC ho hs h6 h7 h8 kk => iv_X4_73 hK (mcC_46 hC) ho hs ⟨hd, by show _ ≤ 40 * (_ + 1); omega⟩ (Nat.le_refl _) h6 h7 h8 ⟨Nat.le_refl _, Nat.le_refl _⟩ dX4_cleanColumn_89 kk)
theorem sX4_cleanColumn_92 {h0 : Hp_} : Snd 0 108 h0 (miT TbC) RX4 cX4_cleanColumn 6 none 92 (i_aload 93 0) := snd_aload_n rfl dX4_cleanColumn_92
theorem sX4_cleanColumn_93 {h0 : Hp_} : Snd 0 108 h0 (miT TbC) RX4 cX4_cleanColumn 6 none 93 (i_iload 95 5) := snd_iload dX4_cleanColumn_93
theorem sX4_cleanColumn_95 {h0 : Hp_} : Snd 0 108 h0 (miT TbC) RX4 cX4_cleanColumn 6 none 95 (i_cV1 52 4 98) := snd_cV1 (fun hK hd hC ho hs h6 h7 h8 kk => iv_X4_77 hK (mcC_52 hC) ho hs ⟨hd, by show _ ≤ 40 * (_ + 1); omega⟩ (Nat.le_refl _) h6 h7 h8 ⟨Nat.le_refl _, Nat.le_refl _⟩ dX4_cleanColumn_95 kk)
theorem sX4_cleanColumn_98 {h0 : Hp_} : Snd 0 108 h0 (miT TbC) RX4 cX4_cleanColumn 6 none 98 (i_cF2 69 65 103) := snd_cF2 (fun hK hd hC ho hs h6 h7 h8 kk => iv_X4_80_X7 hK (mcC_69 hC) ho hs ⟨hd, by show _ ≤ 40 * (_ + 1); omega⟩ (Nat.le_refl _) h6 h7 h8 ⟨Nat.le_refl _, Nat.le_refl _⟩ dX4_cleanColumn_98 kk) (fun hK hd hC ho hs h6 h7 h8 kk => iv_X4_80_X6 hK (mcC_65 hC) ho hs ⟨hd, by show _ ≤ 40 * (_ + 1); omega⟩ (Nat.le_refl _) h6 h7 h8 ⟨Nat.le_refl _, Nat.le_refl _⟩ dX4_cleanColumn_98 kk)
theorem sX4_cleanColumn_103 {h0 : Hp_} : Snd 0 108 h0 (miT TbC) RX4 cX4_cleanColumn 6 none 103 (i_const 104 (vI 1)) := snd_iconst dX4_cleanColumn_103
theorem sX4_cleanColumn_104 {h0 : Hp_} : Snd 0 108 h0 (miT TbC) RX4 cX4_cleanColumn 6 none 104 (i_icmp_ne 107 113) := snd_icmp_ne dX4_cleanColumn_104 rfl
theorem sX4_cleanColumn_107 {h0 : Hp_} : Snd 0 108 h0 (miT TbC) RX4 cX4_cleanColumn 6 none 107 (i_aload 108 0) := snd_aload_n rfl dX4_cleanColumn_107
theorem sX4_cleanColumn_108 {h0 : Hp_} : Snd 0 108 h0 (miT TbC) RX4 cX4_cleanColumn 6 none 108 (i_iload 110 5) := snd_iload dX4_cleanColumn_108
theorem sX4_cleanColumn_110 {h0 : Hp_} : Snd 0 108 h0 (miT TbC) RX4 cX4_cleanColumn 6 none 110 (i_cV1 58 4 113) := snd_cV1 (fun hK hd hC ho hs h6 h7 h8 kk => iv_X4_85 hK (mcC_58 hC) ho hs ⟨hd, by show _ ≤ 40 * (_ + 1); omega⟩ (Nat.le_refl _) h6 h7 h8 ⟨Nat.le_refl _, Nat.le_refl _⟩ dX4_cleanColumn_110 kk)
theorem sX4_cleanColumn_113 {h0 : Hp_} : Snd 0 108 h0 (miT TbC) RX4 cX4_cleanColumn 6 none 113 (i_iinc 116 4 1) := snd_iinc (by decide) dX4_cleanColumn_113
theorem sX4_cleanColumn_116 {h0 : Hp_} : Snd 0 108 h0 (miT TbC) RX4 cX4_cleanColumn 6 none 116 (i_goto 47) := snd_goto dX4_cleanColumn_116 rfl
theorem sX4_cleanColumn_119 {h0 : Hp_} : Snd 0 108 h0 (miT TbC) RX4 cX4_cleanColumn 6 none 119 (i_vret) := snd_vret dX4_cleanColumn_119
theorem kX4_cleanColumn {h0 : Hp_} : raA (okI 0 108 h0 (miT TbC) (yX4_cleanColumn, cX4_cleanColumn, 6, none)) tX4_cleanColumn := (raA_br (raA_br (raA_br (raA_br (raA_br (raA_br (raA_leaf sX4_cleanColumn_0) (raA_leaf sX4_cleanColumn_1)) (raA_br (raA_leaf sX4_cleanColumn_2) (raA_leaf sX4_cleanColumn_3))) (raA_br (raA_br (raA_leaf sX4_cleanColumn_4) (raA_leaf sX4_cleanColumn_7)) (raA_br (raA_leaf sX4_cleanColumn_8) (raA_leaf sX4_cleanColumn_9)))) (raA_br (raA_br (raA_br (raA_leaf sX4_cleanColumn_12) (raA_leaf sX4_cleanColumn_15)) (raA_br (raA_leaf sX4_cleanColumn_16) (raA_leaf sX4_cleanColumn_17))) (raA_br (raA_br (raA_leaf sX4_cleanColumn_20) (raA_leaf sX4_cleanColumn_22)) (raA_br (raA_leaf sX4_cleanColumn_24) (raA_leaf sX4_cleanColumn_25))))) (raA_br (raA_br (raA_br (raA_br (raA_leaf sX4_cleanColumn_28) (raA_leaf sX4_cleanColumn_29)) (raA_br (raA_leaf sX4_cleanColumn_30) (raA_leaf sX4_cleanColumn_32))) (raA_br (raA_br (raA_leaf sX4_cleanColumn_34) (raA_leaf sX4_cleanColumn_35)) (raA_br (raA_leaf sX4_cleanColumn_36) (raA_leaf sX4_cleanColumn_39)))) (raA_br (raA_br (raA_br (raA_leaf sX4_cleanColumn_41) (raA_leaf sX4_cleanColumn_42)) (raA_br (raA_leaf sX4_cleanColumn_43) (raA_leaf sX4_cleanColumn_44))) (raA_br (raA_br (raA_leaf sX4_cleanColumn_45) (raA_leaf sX4_cleanColumn_47)) (raA_br (raA_leaf sX4_cleanColumn_49) (raA_leaf sX4_cleanColumn_50)))))) (raA_br (raA_br (raA_br (raA_br (raA_br (raA_leaf sX4_cleanColumn_53) (raA_leaf sX4_cleanColumn_54)) (raA_br (raA_leaf sX4_cleanColumn_56) (raA_leaf sX4_cleanColumn_58))) (raA_br (raA_br (raA_leaf sX4_cleanColumn_59) (raA_leaf sX4_cleanColumn_60)) (raA_br (raA_leaf sX4_cleanColumn_62) (raA_leaf sX4_cleanColumn_63)))) (raA_br (raA_br (raA_br (raA_leaf sX4_cleanColumn_66) (raA_leaf sX4_cleanColumn_68)) (raA_br (raA_leaf sX4_cleanColumn_69) (raA_leaf sX4_cleanColumn_72))) (raA_br (raA_br (raA_leaf sX4_cleanColumn_73) (raA_leaf sX4_cleanColumn_76)) (raA_br (raA_leaf sX4_cleanColumn_78) (raA_leaf sX4_cleanColumn_79))))) (raA_br (raA_br (raA_br (raA_br (raA_leaf sX4_cleanColumn_82) (raA_leaf sX4_cleanColumn_83)) (raA_br (raA_leaf sX4_cleanColumn_86) (raA_leaf sX4_cleanColumn_87))) (raA_br (raA_br (raA_leaf sX4_cleanColumn_89) (raA_leaf sX4_cleanColumn_92)) (raA_br (raA_leaf sX4_cleanColumn_93) (raA_leaf sX4_cleanColumn_95)))) (raA_br (raA_br (raA_br (raA_leaf sX4_cleanColumn_98) (raA_leaf sX4_cleanColumn_103)) (raA_br (raA_leaf sX4_cleanColumn_104) (raA_leaf sX4_cleanColumn_107))) (raA_br (raA_br (raA_leaf sX4_cleanColumn_108) (raA_leaf sX4_cleanColumn_110)) (raA_br (raA_leaf sX4_cleanColumn_113) (raA_br (raA_leaf sX4_cleanColumn_116) (raA_leaf sX4_cleanColumn_119))))))))

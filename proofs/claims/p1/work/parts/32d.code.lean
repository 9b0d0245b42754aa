theorem sX4_clearTold_0 {h0 : Hp_} : Snd 0 108 h0 (miT TbC) RX4 cX4_clearTold 2 none 0 (i_const 1 (vI 0)) := snd_iconst dX4_clearTold_0
theorem sX4_clearTold_1 {h0 : Hp_} : Snd 0 108 h0 (miT TbC) RX4 cX4_clearTold 2 none 1 (i_istore 2 1) := snd_istore_n rfl (by decide) dX4_clearTold_1
theorem sX4_clearTold_2 {h0 : Hp_} : Snd 0 108 h0 (miT TbC) RX4 cX4_clearTold 2 none 2 (i_iload 3 1) := snd_iload_n rfl dX4_clearTold_2
theorem sX4_clearTold_3 {h0 : Hp_} : Snd 0 108 h0 (miT TbC) RX4 cX4_clearTold 2 none 3 (i_aload 4 0) := snd_aload_n rfl dX4_clearTold_3
theorem sX4_clearTold_4 {h0 : Hp_} : Snd 0 108 h0 (miT TbC) RX4 cX4_clearTold 2 none 4 (i_getR 4 4 7) := snd_getR rfl (by decide) (by decide) (by decide) (fun hK ho hs hq kk => gf_X4_21 hK ho hs hq rfl dX4_clearTold_4 kk)
theorem sX4_clearTold_7 {h0 : Hp_} : Snd 0 108 h0 (miT TbC) RX4 cX4_clearTold 2 none 7 (i_alen 8) := snd_alen dX4_clearTold_7
theorem sX4_clearTold_8 {h0 : Hp_} : Snd 0 108 h0 (miT TbC) RX4 cX4_clearTold 2 none 8 (i_icmp_ge 11 24) := snd_icmp_ge dX4_clearTold_8 rfl
theorem sX4_clearTold_11 {h0 : Hp_} : Snd 0 108 h0 (miT TbC) RX4 cX4_clearTold 2 none 11 (i_aload 12 0) := snd_aload_n rfl dX4_clearTold_11
theorem sX4_clearTold_12 {h0 : Hp_} : Snd 0 108 h0 (miT TbC) RX4 cX4_clearTold 2 none 12 (i_getR 4 4 15) := snd_getR rfl (by decide) (by decide) (by decide) (fun hK ho hs hq kk => gf_X4_21 hK ho hs hq rfl dX4_clearTold_12 kk)
theorem sX4_clearTold_15 {h0 : Hp_} : Snd 0 108 h0 (miT TbC) RX4 cX4_clearTold 2 none 15 (i_iload 16 1) := snd_iload_n rfl dX4_clearTold_15
theorem sX4_clearTold_16 {h0 : Hp_} : Snd 0 108 h0 (miT TbC) RX4 cX4_clearTold 2 none 16 (i_const 17 (vI 0)) := snd_iconst dX4_clearTold_16
theorem sX4_clearTold_17 {h0 : Hp_} : Snd 0 108 h0 (miT TbC) RX4 cX4_clearTold 2 none 17 (i_zast 0 108 18) := snd_zast dX4_clearTold_17
theorem sX4_clearTold_18 {h0 : Hp_} : Snd 0 108 h0 (miT TbC) RX4 cX4_clearTold 2 none 18 (i_iinc 21 1 1) := snd_iinc (by decide) dX4_clearTold_18
theorem sX4_clearTold_21 {h0 : Hp_} : Snd 0 108 h0 (miT TbC) RX4 cX4_clearTold 2 none 21 (i_goto 2) := snd_goto dX4_clearTold_21 rfl
theorem sX4_clearTold_24 {h0 : Hp_} : Snd 0 108 h0 (miT TbC) RX4 cX4_clearTold 2 none 24 (i_vret) := snd_vret dX4_clearTold_24
theorem kX4_clearTold {h0 : Hp_} : raA (okI 0 108 h0 (miT TbC) (yX4_clearTold, cX4_clearTold, 2, none)) tX4_clearTold := (raA_br (raA_br (raA_br (raA_leaf sX4_clearTold_0) (raA_br (raA_leaf sX4_clearTold_1) (raA_leaf sX4_clearTold_2))) (raA_br (raA_br (raA_leaf sX4_clearTold_3) (raA_leaf sX4_clearTold_4)) (raA_br (raA_leaf sX4_clearTold_7) (raA_leaf sX4_clearTold_8)))) (raA_br (raA_br (raA_br (raA_leaf sX4_clearTold_11) (raA_leaf sX4_clearTold_12)) (raA_br (raA_leaf sX4_clearTold_15) (raA_leaf sX4_clearTold_16))) (raA_br (raA_br (raA_leaf sX4_clearTold_17) (raA_leaf sX4_clearTold_18)) (raA_br (raA_leaf sX4_clearTold_21) (raA_leaf sX4_clearTold_24)))))
theorem sX4_contextOf_0 {h0 : Hp_} : Snd 0 108 h0 (miT TbC) RX4 cX4_contextOf 5 (some .int) 0 (i_aload 1 0) := snd_aload_n rfl dX4_contextOf_0
theorem sX4_contextOf_1 {h0 : Hp_} : Snd 0 108 h0 (miT TbC) RX4 cX4_contextOf 5 (some .int) 1 (i_iload 2 1) := snd_iload_n rfl dX4_contextOf_1
theorem sX4_contextOf_2 {h0 : Hp_} : Snd 0 108 h0 (miT TbC) RX4 cX4_contextOf 5 (some .int) 2 (i_cV1 50 4 5) := snd_cV1 (fun hK hd hC ho hs h6 h7 h8 kk => iv_X4_92 hK (mcC_50 hC) ho hs ⟨hd, by show _ ≤ 40 * (_ + 1); omega⟩ (Nat.le_refl _) h6 h7 h8 ⟨Nat.le_refl _, Nat.le_refl _⟩ dX4_contextOf_2 kk)
theorem sX4_contextOf_5 {h0 : Hp_} : Snd 0 108 h0 (miT TbC) RX4 cX4_contextOf 5 (some .int) 5 (i_istore 6 2) := snd_istore_n rfl (by decide) dX4_contextOf_5
theorem sX4_contextOf_6 {h0 : Hp_} : Snd 0 108 h0 (miT TbC) RX4 cX4_contextOf 5 (some .int) 6 (i_aload 7 0) := snd_aload_n rfl dX4_contextOf_6
theorem sX4_contextOf_7 {h0 : Hp_} : Snd 0 108 h0 (miT TbC) RX4 cX4_contextOf 5 (some .int) 7 (i_iload 8 1) := snd_iload_n rfl dX4_contextOf_7
theorem sX4_contextOf_8 {h0 : Hp_} : Snd 0 108 h0 (miT TbC) RX4 cX4_contextOf 5 (some .int) 8 (i_cV1 49 4 11) := snd_cV1 (fun hK hd hC ho hs h6 h7 h8 kk => iv_X4_95 hK (mcC_49 hC) ho hs ⟨hd, by show _ ≤ 40 * (_ + 1); omega⟩ (Nat.le_refl _) h6 h7 h8 ⟨Nat.le_refl _, Nat.le_refl _⟩ dX4_contextOf_8 kk)
theorem sX4_contextOf_11 {h0 : Hp_} : Snd 0 108 h0 (miT TbC) RX4 cX4_contextOf 5 (some .int) 11 (i_istore 12 3) := snd_istore_n rfl (by decide) dX4_contextOf_11
theorem sX4_contextOf_12 {h0 : Hp_} : Snd 0 108 h0 (miT TbC) RX4 cX4_contextOf 5 (some .int) 12 (i_aload 13 0) := snd_aload_n rfl dX4_contextOf_12
theorem sX4_contextOf_13 {h0 : Hp_} : Snd 0 108 h0 (miT TbC) RX4 cX4_contextOf 5 (some .int) 13 (i_iload 14 1) := snd_iload_n rfl dX4_contextOf_13
theorem sX4_contextOf_14 {h0 : Hp_} : Snd 0 108 h0 (miT TbC) RX4 cX4_contextOf 5 (some .int) 14 (i_cV1 42 4 17) := snd_cV1 (fun hK hd hC ho hs h6 h7 h8 kk => iv_X4_98 hK (mcC_42 hC) ho hs ⟨hd, by show _ ≤ 40 * (_ + 1); omega⟩ (Nat.le_refl _) h6 h7 h8 ⟨Nat.le_refl _, Nat.le_refl _⟩ dX4_contextOf_14 kk)
theorem sX4_contextOf_17 {h0 : Hp_} : Snd 0 108 h0 (miT TbC) RX4 cX4_contextOf 5 (some .int) 17 (i_istore 19 4) := snd_istore (by decide) dX4_contextOf_17
theorem sX4_contextOf_19 {h0 : Hp_} : Snd 0 108 h0 (miT TbC) RX4 cX4_contextOf 5 (some .int) 19 (i_aload 20 0) := snd_aload_n rfl dX4_contextOf_19
theorem sX4_contextOf_20 {h0 : Hp_} : Snd 0 108 h0 (miT TbC) RX4 cX4_contextOf 5 (some .int) 20 (i_getI 4 8 23) := snd_getI hl0 (fun hK ho hs hv kk => gf_X4_39 hK ho hs hv dX4_contextOf_20 kk)
theorem sX4_contextOf_23 {h0 : Hp_} : Snd 0 108 h0 (miT TbC) RX4 cX4_contextOf 5 (some .int) 23 (i_const 24 (vI 2)) := snd_iconst dX4_contextOf_23
theorem sX4_contextOf_24 {h0 : Hp_} : Snd 0 108 h0 (miT TbC) RX4 cX4_contextOf 5 (some .int) 24 (i_icmp_ne 27 36) := snd_icmp_ne dX4_contextOf_24 rfl
theorem sX4_contextOf_27 {h0 : Hp_} : Snd 0 108 h0 (miT TbC) RX4 cX4_contextOf 5 (some .int) 27 (i_iload 28 2) := snd_iload_n rfl dX4_contextOf_27
theorem sX4_contextOf_28 {h0 : Hp_} : Snd 0 108 h0 (miT TbC) RX4 cX4_contextOf 5 (some .int) 28 (i_iload 29 3) := snd_iload_n rfl dX4_contextOf_28
theorem sX4_contextOf_29 {h0 : Hp_} : Snd 0 108 h0 (miT TbC) RX4 cX4_contextOf 5 (some .int) 29 (i_iadd 30) := snd_iadd dX4_contextOf_29
theorem sX4_contextOf_30 {h0 : Hp_} : Snd 0 108 h0 (miT TbC) RX4 cX4_contextOf 5 (some .int) 30 (i_iload 32 4) := snd_iload dX4_contextOf_30
theorem sX4_contextOf_32 {h0 : Hp_} : Snd 0 108 h0 (miT TbC) RX4 cX4_contextOf 5 (some .int) 32 (i_stop) := snd_stop
theorem sX4_contextOf_35 {h0 : Hp_} : Snd 0 108 h0 (miT TbC) RX4 cX4_contextOf 5 (some .int) 35 (i_iret) := snd_iret dX4_contextOf_35
theorem sX4_contextOf_36 {h0 : Hp_} : Snd 0 108 h0 (miT TbC) RX4 cX4_contextOf 5 (some .int) 36 (i_aload 37 0) := snd_aload_n rfl dX4_contextOf_36
theorem sX4_contextOf_37 {h0 : Hp_} : Snd 0 108 h0 (miT TbC) RX4 cX4_contextOf 5 (some .int) 37 (i_getI 4 8 40) := snd_getI hl0 (fun hK ho hs hv kk => gf_X4_39 hK ho hs hv dX4_contextOf_37 kk)
theorem sX4_contextOf_40 {h0 : Hp_} : Snd 0 108 h0 (miT TbC) RX4 cX4_contextOf 5 (some .int) 40 (i_const 41 (vI 1)) := snd_iconst dX4_contextOf_40
theorem sX4_contextOf_41 {h0 : Hp_} : Snd 0 108 h0 (miT TbC) RX4 cX4_contextOf 5 (some .int) 41 (i_icmp_ne 44 54) := snd_icmp_ne dX4_contextOf_41 rfl
theorem sX4_contextOf_44 {h0 : Hp_} : Snd 0 108 h0 (miT TbC) RX4 cX4_contextOf 5 (some .int) 44 (i_iload 45 3) := snd_iload_n rfl dX4_contextOf_44
theorem sX4_contextOf_45 {h0 : Hp_} : Snd 0 108 h0 (miT TbC) RX4 cX4_contextOf 5 (some .int) 45 (i_iload 46 2) := snd_iload_n rfl dX4_contextOf_45
theorem sX4_contextOf_46 {h0 : Hp_} : Snd 0 108 h0 (miT TbC) RX4 cX4_contextOf 5 (some .int) 46 (i_iload 48 4) := snd_iload dX4_contextOf_46
theorem sX4_contextOf_48 {h0 : Hp_} : Snd 0 108 h0 (miT TbC) RX4 cX4_contextOf 5 (some .int) 48 (i_cS3 55 51) := snd_cS3 (fun hK hd hC h6 h7 h8 kk => iv_X4_122 hK (mcC_55 hC) ⟨hd, by show _ ≤ 40 * (_ + 1); omega⟩ (Nat.le_refl _) h6 h7 h8 ⟨Nat.le_refl _, Nat.le_refl _⟩ dX4_contextOf_48 kk)
theorem sX4_contextOf_51 {h0 : Hp_} : Snd 0 108 h0 (miT TbC) RX4 cX4_contextOf 5 (some .int) 51 (i_goto 61) := snd_goto dX4_contextOf_51 rfl
theorem sX4_contextOf_54 {h0 : Hp_} : Snd 0 108 h0 (miT TbC) RX4 cX4_contextOf 5 (some .int) 54 (i_iload 55 2) := snd_iload_n rfl dX4_contextOf_54
theorem sX4_contextOf_55 {h0 : Hp_} : Snd 0 108 h0 (miT TbC) RX4 cX4_contextOf 5 (some .int) 55 (i_iload 56 3) := snd_iload_n rfl dX4_contextOf_55
theorem sX4_contextOf_56 {h0 : Hp_} : Snd 0 108 h0 (miT TbC) RX4 cX4_contextOf 5 (some .int) 56 (i_iload 58 4) := snd_iload dX4_contextOf_56
theorem sX4_contextOf_58 {h0 : Hp_} : Snd 0 108 h0 (miT TbC) RX4 cX4_contextOf 5 (some .int) 58 (i_cS3 55 61) := snd_cS3 (fun hK hd hC h6 h7 h8 kk => iv_X4_122 hK (mcC_55 hC) ⟨hd, by show _ ≤ 40 * (_ + 1); omega⟩ (Nat.le_refl _) h6 h7 h8 ⟨Nat.le_refl _, Nat.le_refl _⟩ dX4_contextOf_58 kk)
theorem sX4_contextOf_61 {h0 : Hp_} : Snd 0 108 h0 (miT TbC) RX4 cX4_contextOf 5 (some .int) 61 (i_iret) := snd_iret dX4_contextOf_61
theorem kX4_contextOf {h0 : Hp_} : raA (okI 0 108 h0 (miT TbC) (yX4_contextOf, cX4_contextOf, 5, (some .int))) tX4_contextOf := (raA_br (raA_br (raA_br (raA_br (raA_br (raA_leaf sX4_contextOf_0) (raA_leaf sX4_contextOf_1)) (raA_br (raA_leaf sX4_contextOf_2) (raA_leaf sX4_contextOf_5))) (raA_br (raA_br (raA_leaf sX4_contextOf_6) (raA_leaf sX4_contextOf_7)) (raA_br (raA_leaf sX4_contextOf_8) (raA_br (raA_leaf sX4_contextOf_11) (raA_leaf sX4_contextOf_12))))) (raA_br (raA_br (raA_br (raA_leaf sX4_contextOf_13) (raA_leaf sX4_contextOf_14)) (raA_br (raA_leaf sX4_contextOf_17) (raA_leaf sX4_contextOf_19))) (raA_br (raA_br (raA_leaf sX4_contextOf_20) (raA_leaf sX4_contextOf_23)) (raA_br (raA_leaf sX4_contextOf_24) (raA_br (raA_leaf sX4_contextOf_27) (raA_leaf sX4_contextOf_28)))))) (raA_br (raA_br (raA_br (raA_br (raA_leaf sX4_contextOf_29) (raA_leaf sX4_contextOf_30)) (raA_br (raA_leaf sX4_contextOf_32) (raA_leaf sX4_contextOf_35))) (raA_br (raA_br (raA_leaf sX4_contextOf_36) (raA_leaf sX4_contextOf_37)) (raA_br (raA_leaf sX4_contextOf_40) (raA_br (raA_leaf sX4_contextOf_41) (raA_leaf sX4_contextOf_44))))) (raA_br (raA_br (raA_br (raA_leaf sX4_contextOf_45) (raA_leaf sX4_contextOf_46)) (raA_br (raA_leaf sX4_contextOf_48) (raA_leaf sX4_contextOf_51))) (raA_br (raA_br (raA_leaf sX4_contextOf_54) (raA_leaf sX4_contextOf_55)) (raA_br (raA_leaf sX4_contextOf_56) (raA_br (raA_leaf sX4_contextOf_58) (raA_leaf sX4_contextOf_61)))))))
theorem sX4_cut_0 {h0 : Hp_} : Snd 0 108 h0 (miT TbC) RX4 cX4_cut 1 (some .int) 0 (i_const 1 (vI (-1))) := snd_iconst dX4_cut_0
theorem sX4_cut_1 {h0 : Hp_} : Snd 0 108 h0 (miT TbC) RX4 cX4_cut 1 (some .int) 1 (i_const 2 (vI 1)) := snd_iconst dX4_cut_1
theorem sX4_cut_2 {h0 : Hp_} : Snd 0 108 h0 (miT TbC) RX4 cX4_cut 1 (some .int) 2 (i_iload 3 0) := snd_iload_n rfl dX4_cut_2
theorem sX4_cut_3 {h0 : Hp_} : Snd 0 108 h0 (miT TbC) RX4 cX4_cut 1 (some .int) 3 (i_mmin 6) := snd_mmin iw_X4_58 dX4_cut_3
theorem sX4_cut_6 {h0 : Hp_} : Snd 0 108 h0 (miT TbC) RX4 cX4_cut 1 (some .int) 6 (i_mmax 9) := snd_mmax iw_X4_111 dX4_cut_6
theorem sX4_cut_9 {h0 : Hp_} : Snd 0 108 h0 (miT TbC) RX4 cX4_cut 1 (some .int) 9 (i_iret) := snd_iret dX4_cut_9
theorem kX4_cut {h0 : Hp_} : raA (okI 0 108 h0 (miT TbC) (yX4_cut, cX4_cut, 1, (some .int))) tX4_cut := (raA_br (raA_br (raA_leaf sX4_cut_0) (raA_br (raA_leaf sX4_cut_1) (raA_leaf sX4_cut_2))) (raA_br (raA_leaf sX4_cut_3) (raA_br (raA_leaf sX4_cut_6) (raA_leaf sX4_cut_9))))
theorem sX4_firstRefiningContext_0 {h0 : Hp_} : Snd 0 108 h0 (miT TbC) RX4 cX4_firstRefiningContext 3 (some .int) 0 (i_aload 1 0) := snd_aload_n rfl dX4_firstRefiningContext_0
theorem sX4_firstRefiningContext_1 {h0 : Hp_} : Snd 0 108 h0 (miT TbC) RX4 cX4_firstRefiningContext 3 (some .int) 1 (i_iload 2 1) := snd_iload_n rfl dX4_firstRefiningContext_1
theorem sX4_firstRefiningContext_2 {h0 : Hp_} : Snd 0 108 h0 (miT TbC) RX4 cX4_firstRefiningContext 3 (some .int) 2 (i_cV1 50 4 5) := snd_cV1 (fun hK hd hC ho hs h6 h7 h8 kk => iv_X4_92 hK (mcC_50 hC) ho hs ⟨hd, by show _ ≤ 40 * (_ + 1); omega⟩ (Nat.le_refl _) h6 h7 h8 ⟨Nat.le_refl _, Nat.le_refl _⟩ dX4_firstRefiningContext_2 kk)
theorem sX4_firstRefiningContext_5 {h0 : Hp_} : Snd 0 108 h0 (miT TbC) RX4 cX4_firstRefiningContext 3 (some .int) 5 (i_aload 6 0) := snd_aload_n rfl dX4_firstRefiningContext_5
theorem sX4_firstRefiningContext_6 {h0 : Hp_} : Snd 0 108 h0 (miT TbC) RX4 cX4_firstRefiningContext 3 (some .int) 6 (i_iload 7 1) := snd_iload_n rfl dX4_firstRefiningContext_6
theorem sX4_firstRefiningContext_7 {h0 : Hp_} : Snd 0 108 h0 (miT TbC) RX4 cX4_firstRefiningContext 3 (some .int) 7 (i_cV1 49 4 10) := snd_cV1 (fun hK hd hC ho hs h6 h7 h8 kk => iv_X4_95 hK (mcC_49 hC) ho hs ⟨hd, by show _ ≤ 40 * (_ + 1); omega⟩ (Nat.le_refl _) h6 h7 h8 ⟨Nat.le_refl _, Nat.le_refl _⟩ dX4_firstRefiningContext_7 kk)
theorem sX4_firstRefiningContext_10 {h0 : Hp_} : Snd 0 108 h0 (miT TbC) RX4 cX4_firstRefiningContext 3 (some .int) 10 (i_iadd 11) := snd_iadd dX4_firstRefiningContext_10
theorem sX4_firstRefiningContext_11 {h0 : Hp_} : Snd 0 108 h0 (miT TbC) RX4 cX4_firstRefiningContext 3 (some .int) 11 (i_aload 12 0) := snd_aload_n rfl dX4_firstRefiningContext_11
theorem sX4_firstRefiningContext_12 {h0 : Hp_} : Snd 0 108 h0 (miT TbC) RX4 cX4_firstRefiningContext 3 (some .int) 12 (i_iload 13 1) := snd_iload_n rfl dX4_firstRefiningContext_12
theorem sX4_firstRefiningContext_13 {h0 : Hp_} : Snd 0 108 h0 (miT TbC) RX4 cX4_firstRefiningContext 3 (some .int) 13 (i_cV1 42 4 16) := snd_cV1 (fun hK hd hC ho hs h6 h7 h8 kk => iv_X4_98 hK (mcC_42 hC) ho hs ⟨hd, by show _ ≤ 40 * (_ + 1); omega⟩ (Nat.le_refl _) h6 h7 h8 ⟨Nat.le_refl _, Nat.le_refl _⟩ dX4_firstRefiningContext_13 kk)
theorem sX4_firstRefiningContext_16 {h0 : Hp_} : Snd 0 108 h0 (miT TbC) RX4 cX4_firstRefiningContext 3 (some .int) 16 (i_iadd 17) := snd_iadd dX4_firstRefiningContext_16
theorem sX4_firstRefiningContext_17 {h0 : Hp_} : Snd 0 108 h0 (miT TbC) RX4 cX4_firstRefiningContext 3 (some .int) 17 (i_if_ne 20 24) := snd_if_ne dX4_firstRefiningContext_17 rfl
theorem sX4_firstRefiningContext_20 {h0 : Hp_} : Snd 0 108 h0 (miT TbC) RX4 cX4_firstRefiningContext 3 (some .int) 20 (i_const 21 (vI 1)) := snd_iconst dX4_firstRefiningContext_20
theorem sX4_firstRefiningContext_21 {h0 : Hp_} : Snd 0 108 h0 (miT TbC) RX4 cX4_firstRefiningContext 3 (some .int) 21 (i_goto 25) := snd_goto dX4_firstRefiningContext_21 rfl
theorem sX4_firstRefiningContext_24 {h0 : Hp_} : Snd 0 108 h0 (miT TbC) RX4 cX4_firstRefiningContext 3 (some .int) 24 (i_const 25 (vI 0)) := snd_iconst dX4_firstRefiningContext_24
theorem sX4_firstRefiningContext_25 {h0 : Hp_} : Snd 0 108 h0 (miT TbC) RX4 cX4_firstRefiningContext 3 (some .int) 25 (i_istore 26 2) := snd_istore_n rfl (by decide) dX4_firstRefiningContext_25
theorem sX4_firstRefiningContext_26 {h0 : Hp_} : Snd 0 108 h0 (miT TbC) RX4 cX4_firstRefiningContext 3 (some .int) 26 (i_iload 27 2) := snd_iload_n rfl dX4_firstRefiningContext_26
theorem sX4_firstRefiningContext_27 {h0 : Hp_} : Snd 0 108 h0 (miT TbC) RX4 cX4_firstRefiningContext 3 (some .int) 27 (i_if_eq 30 35) := snd_if_eq dX4_firstRefiningContext_27 rfl
theorem sX4_firstRefiningContext_30 {h0 : Hp_} : Snd 0 108 h0 (miT TbC) RX4 cX4_firstRefiningContext 3 (some .int) 30 (i_const 32 (vI 14)) := snd_bipush (by decide) dX4_firstRefiningContext_30
theorem sX4_firstRefiningContext_32 {h0 : Hp_} : Snd 0 108 h0 (miT TbC) RX4 cX4_firstRefiningContext 3 (some .int) 32 (i_goto 37) := snd_goto dX4_firstRefiningContext_32 rfl
theorem sX4_firstRefiningContext_35 {h0 : Hp_} : Snd 0 108 h0 (miT TbC) RX4 cX4_firstRefiningContext 3 (some .int) 35 (i_const 37 (vI 15)) := snd_bipush (by decide) dX4_firstRefiningContext_35
theorem sX4_firstRefiningContext_37 {h0 : Hp_} : Snd 0 108 h0 (miT TbC) RX4 cX4_firstRefiningContext 3 (some .int) 37 (i_iret) := snd_iret dX4_firstRefiningContext_37
theorem kX4_firstRefiningContext {h0 : Hp_} : raA (okI 0 108 h0 (miT TbC) (yX4_firstRefiningContext, cX4_firstRefiningContext, 3, (some .int))) tX4_firstRefiningContext := (raA_br (raA_br (raA_br (raA_br (raA_leaf sX4_firstRefiningContext_0) (raA_leaf sX4_firstRefiningContext_1)) (raA_br (raA_leaf sX4_firstRefiningContext_2) (raA_br (raA_leaf sX4_firstRefiningContext_5) (raA_leaf sX4_firstRefiningContext_6)))) (raA_br (raA_br (raA_leaf sX4_firstRefiningContext_7) (raA_br (raA_leaf sX4_firstRefiningContext_10) (raA_leaf sX4_firstRefiningContext_11))) (raA_br (raA_leaf sX4_firstRefiningContext_12) (raA_br (raA_leaf sX4_firstRefiningContext_13) (raA_leaf sX4_firstRefiningContext_16))))) (raA_br (raA_br (raA_br (raA_leaf sX4_firstRefiningContext_17) (raA_leaf sX4_firstRefiningContext_20)) (raA_br (raA_leaf sX4_firstRefiningContext_21) (raA_br (raA_leaf sX4_firstRefiningContext_24) (raA_leaf sX4_firstRefiningContext_25)))) (raA_br (raA_br (raA_leaf sX4_firstRefiningContext_26) (raA_br (raA_leaf sX4_firstRefiningContext_27) (raA_leaf sX4_firstRefiningContext_30))) (raA_br (raA_leaf sX4_firstRefiningContext_32) (raA_br (raA_leaf sX4_firstRefiningContext_35) (raA_leaf sX4_firstRefiningContext_37))))))
theorem sX4_inColumn_0 {h0 : Hp_} : Snd 0 108 h0 (miT TbC) RX4 cX4_inColumn 2 (some .int) 0 (i_aload 1 0) := snd_aload_n rfl dX4_inColumn_0
theorem sX4_inColumn_1 {h0 : Hp_} : Snd 0 108 h0 (miT TbC) RX4 cX4_inColumn 2 (some .int) 1 (i_getR 4 3 4) := snd_getR rfl (by decide) (by decide) (by decide) (fun hK ho hs hq kk => gf_X4_18 hK ho hs hq rfl dX4_inColumn_1 kk)
theorem sX4_inColumn_4 {h0 : Hp_} : Snd 0 108 h0 (miT TbC) RX4 cX4_inColumn 2 (some .int) 4 (i_iload 5 1) := snd_iload_n rfl dX4_inColumn_4
theorem sX4_inColumn_5 {h0 : Hp_} : Snd 0 108 h0 (miT TbC) RX4 cX4_inColumn 2 (some .int) 5 (i_const 7 (vI 10)) := snd_bipush (by decide) dX4_inColumn_5
theorem sX4_inColumn_7 {h0 : Hp_} : Snd 0 108 h0 (miT TbC) RX4 cX4_inColumn 2 (some .int) 7 (i_isub 8) := snd_isub dX4_inColumn_7
theorem sX4_inColumn_8 {h0 : Hp_} : Snd 0 108 h0 (miT TbC) RX4 cX4_inColumn 2 (some .int) 8 (i_iald 0 108 9) := snd_iald dX4_inColumn_8
theorem sX4_inColumn_9 {h0 : Hp_} : Snd 0 108 h0 (miT TbC) RX4 cX4_inColumn 2 (some .int) 9 (i_const 10 (vI 1)) := snd_iconst dX4_inColumn_9
theorem sX4_inColumn_10 {h0 : Hp_} : Snd 0 108 h0 (miT TbC) RX4 cX4_inColumn 2 (some .int) 10 (i_iand 11) := snd_iand dX4_inColumn_10
theorem sX4_inColumn_11 {h0 : Hp_} : Snd 0 108 h0 (miT TbC) RX4 cX4_inColumn 2 (some .int) 11 (i_aload 12 0) := snd_aload_n rfl dX4_inColumn_11
theorem sX4_inColumn_12 {h0 : Hp_} : Snd 0 108 h0 (miT TbC) RX4 cX4_inColumn 2 (some .int) 12 (i_getR 4 3 15) := snd_getR rfl (by decide) (by decide) (by decide) (fun hK ho hs hq kk => gf_X4_18 hK ho hs hq rfl dX4_inColumn_12 kk)
theorem sX4_inColumn_15 {h0 : Hp_} : Snd 0 108 h0 (miT TbC) RX4 cX4_inColumn 2 (some .int) 15 (i_iload 16 1) := snd_iload_n rfl dX4_inColumn_15
theorem sX4_inColumn_16 {h0 : Hp_} : Snd 0 108 h0 (miT TbC) RX4 cX4_inColumn 2 (some .int) 16 (i_const 18 (vI 10)) := snd_bipush (by decide) dX4_inColumn_16
theorem sX4_inColumn_18 {h0 : Hp_} : Snd 0 108 h0 (miT TbC) RX4 cX4_inColumn 2 (some .int) 18 (i_iadd 19) := snd_iadd dX4_inColumn_18
theorem sX4_inColumn_19 {h0 : Hp_} : Snd 0 108 h0 (miT TbC) RX4 cX4_inColumn 2 (some .int) 19 (i_iald 0 108 20) := snd_iald dX4_inColumn_19
theorem sX4_inColumn_20 {h0 : Hp_} : Snd 0 108 h0 (miT TbC) RX4 cX4_inColumn 2 (some .int) 20 (i_const 21 (vI 1)) := snd_iconst dX4_inColumn_20
theorem sX4_inColumn_21 {h0 : Hp_} : Snd 0 108 h0 (miT TbC) RX4 cX4_inColumn 2 (some .int) 21 (i_iand 22) := snd_iand dX4_inColumn_21
theorem sX4_inColumn_22 {h0 : Hp_} : Snd 0 108 h0 (miT TbC) RX4 cX4_inColumn 2 (some .int) 22 (i_iadd 23) := snd_iadd dX4_inColumn_22
theorem sX4_inColumn_23 {h0 : Hp_} : Snd 0 108 h0 (miT TbC) RX4 cX4_inColumn 2 (some .int) 23 (i_iret) := snd_iret dX4_inColumn_23
theorem kX4_inColumn {h0 : Hp_} : raA (okI 0 108 h0 (miT TbC) (yX4_inColumn, cX4_inColumn, 2, (some .int))) tX4_inColumn := (raA_br (raA_br (raA_br (raA_br (raA_leaf sX4_inColumn_0) (raA_leaf sX4_inColumn_1)) (raA_br (raA_leaf sX4_inColumn_4) (raA_leaf sX4_inColumn_5))) (raA_br (raA_br (raA_leaf sX4_inColumn_7) (raA_leaf sX4_inColumn_8)) (raA_br (raA_leaf sX4_inColumn_9) (raA_br (raA_leaf sX4_inColumn_10) (raA_leaf sX4_inColumn_11))))) (raA_br (raA_br (raA_br (raA_leaf sX4_inColumn_12) (raA_leaf sX4_inColumn_15)) (raA_br (raA_leaf sX4_inColumn_16) (raA_leaf sX4_inColumn_18))) (raA_br (raA_br (raA_leaf sX4_inColumn_19) (raA_leaf sX4_inColumn_20)) (raA_br (raA_leaf sX4_inColumn_21) (raA_br (raA_leaf sX4_inColumn_22) (raA_leaf sX4_inColumn_23))))))
theorem sX4_inRow_0 {h0 : Hp_} : Snd 0 108 h0 (miT TbC) RX4 cX4_inRow 2 (some .int) 0 (i_aload 1 0) := snd_aload_n rfl dX4_inRow_0
theorem sX4_inRow_1 {h0 : Hp_} : Snd 0 108 h0 (miT TbC) RX4 cX4_inRow 2 (some .int) 1 (i_getR 4 3 4) := snd_getR rfl (by decide) (by decide) (by decide) (fun hK ho hs hq kk => gf_X4_18 hK ho hs hq rfl dX4_inRow_1 kk)
theorem sX4_inRow_4 {h0 : Hp_} : Snd 0 108 h0 (miT TbC) RX4 cX4_inRow 2 (some .int) 4 (i_iload 5 1) := snd_iload_n rfl dX4_inRow_4
theorem sX4_inRow_5 {h0 : Hp_} : Snd 0 108 h0 (miT TbC) RX4 cX4_inRow 2 (some .int) 5 (i_const 6 (vI 1)) := snd_iconst dX4_inRow_5
theorem sX4_inRow_6 {h0 : Hp_} : Snd 0 108 h0 (miT TbC) RX4 cX4_inRow 2 (some .int) 6 (i_isub 7) := snd_isub dX4_inRow_6
theorem sX4_inRow_7 {h0 : Hp_} : Snd 0 108 h0 (miT TbC) RX4 cX4_inRow 2 (some .int) 7 (i_iald 0 108 8) := snd_iald dX4_inRow_7
theorem sX4_inRow_8 {h0 : Hp_} : Snd 0 108 h0 (miT TbC) RX4 cX4_inRow 2 (some .int) 8 (i_const 9 (vI 1)) := snd_iconst dX4_inRow_8
theorem sX4_inRow_9 {h0 : Hp_} : Snd 0 108 h0 (miT TbC) RX4 cX4_inRow 2 (some .int) 9 (i_iand 10) := snd_iand dX4_inRow_9
theorem sX4_inRow_10 {h0 : Hp_} : Snd 0 108 h0 (miT TbC) RX4 cX4_inRow 2 (some .int) 10 (i_aload 11 0) := snd_aload_n rfl dX4_inRow_10
theorem sX4_inRow_11 {h0 : Hp_} : Snd 0 108 h0 (miT TbC) RX4 cX4_inRow 2 (some .int) 11 (i_getR 4 3 14) := snd_getR rfl (by decide) (by decide) (by decide) (fun hK ho hs hq kk => gf_X4_18 hK ho hs hq rfl dX4_inRow_11 kk)
theorem sX4_inRow_14 {h0 : Hp_} : Snd 0 108 h0 (miT TbC) RX4 cX4_inRow 2 (some .int) 14 (i_iload 15 1) := snd_iload_n rfl dX4_inRow_14
theorem sX4_inRow_15 {h0 : Hp_} : Snd 0 108 h0 (miT TbC) RX4 cX4_inRow 2 (some .int) 15 (i_const 16 (vI 1)) := snd_iconst dX4_inRow_15
theorem sX4_inRow_16 {h0 : Hp_} : Snd 0 108 h0 (miT TbC) RX4 cX4_inRow 2 (some .int) 16 (i_iadd 17) := snd_iadd dX4_inRow_16
theorem sX4_inRow_17 {h0 : Hp_} : Snd 0 108 h0 (miT TbC) RX4 cX4_inRow 2 (some .int) 17 (i_iald 0 108 18) := snd_iald dX4_inRow_17
theorem sX4_inRow_18 {h0 : Hp_} : Snd 0 108 h0 (miT TbC) RX4 cX4_inRow 2 (some .int) 18 (i_const 19 (vI 1)) := snd_iconst dX4_inRow_18
theorem sX4_inRow_19 {h0 : Hp_} : Snd 0 108 h0 (miT TbC) RX4 cX4_inRow 2 (some .int) 19 (i_iand 20) := snd_iand dX4_inRow_19
theorem sX4_inRow_20 {h0 : Hp_} : Snd 0 108 h0 (miT TbC) RX4 cX4_inRow 2 (some .int) 20 (i_iadd 21) := snd_iadd dX4_inRow_20
theorem sX4_inRow_21 {h0 : Hp_} : Snd 0 108 h0 (miT TbC) RX4 cX4_inRow 2 (some .int) 21 (i_iret) := snd_iret dX4_inRow_21
theorem kX4_inRow {h0 : Hp_} : raA (okI 0 108 h0 (miT TbC) (yX4_inRow, cX4_inRow, 2, (some .int))) tX4_inRow := (raA_br (raA_br (raA_br (raA_br (raA_leaf sX4_inRow_0) (raA_leaf sX4_inRow_1)) (raA_br (raA_leaf sX4_inRow_4) (raA_leaf sX4_inRow_5))) (raA_br (raA_br (raA_leaf sX4_inRow_6) (raA_leaf sX4_inRow_7)) (raA_br (raA_leaf sX4_inRow_8) (raA_br (raA_leaf sX4_inRow_9) (raA_leaf sX4_inRow_10))))) (raA_br (raA_br (raA_br (raA_leaf sX4_inRow_11) (raA_leaf sX4_inRow_14)) (raA_br (raA_leaf sX4_inRow_15) (raA_leaf sX4_inRow_16))) (raA_br (raA_br (raA_leaf sX4_inRow_17) (raA_leaf sX4_inRow_18)) (raA_br (raA_leaf sX4_inRow_19) (raA_br (raA_leaf sX4_inRow_20) (raA_leaf sX4_inRow_21))))))
theorem sX4_mean_0 {h0 : Hp_} : Snd 0 108 h0 (miT TbC) RX4 cX4_mean 4 none 0 (i_aload 1 0) := snd_aload_n rfl dX4_mean_0
theorem sX4_mean_1 {h0 : Hp_} : Snd 0 108 h0 (miT TbC) RX4 cX4_mean 4 none 1 (i_getR 4 1 4) := snd_getR rfl (by decide) (by decide) (by decide) (fun hK ho hs hq kk => gf_X4_11 hK ho hs hq rfl dX4_mean_1 kk)
theorem sX4_mean_4 {h0 : Hp_} : Snd 0 108 h0 (miT TbC) RX4 cX4_mean 4 none 4 (i_iload 5 1) := snd_iload_n rfl dX4_mean_4
theorem sX4_mean_5 {h0 : Hp_} : Snd 0 108 h0 (miT TbC) RX4 cX4_mean 4 none 5 (i_iload 6 2) := snd_iload_n rfl dX4_mean_5
theorem sX4_mean_6 {h0 : Hp_} : Snd 0 108 h0 (miT TbC) RX4 cX4_mean 4 none 6 (i_cS2 53 9) := snd_cS2 (fun hK hd hC h6 h7 h8 kk => iv_X4_51 hK (mcC_53 hC) ⟨hd, by show _ ≤ 40 * (_ + 1); omega⟩ (Nat.le_refl _) h6 h7 h8 ⟨Nat.le_refl _, Nat.le_refl _⟩ dX4_mean_6 kk)
theorem sX4_mean_9 {h0 : Hp_} : Snd 0 108 h0 (miT TbC) RX4 cX4_mean 4 none 9 (i_iload 10 3) := snd_iload_n rfl dX4_mean_9
theorem sX4_mean_10 {h0 : Hp_} : Snd 0 108 h0 (miT TbC) RX4 cX4_mean 4 none 10 (i_iast 0 108 11) := snd_iast dX4_mean_10
theorem sX4_mean_11 {h0 : Hp_} : Snd 0 108 h0 (miT TbC) RX4 cX4_mean 4 none 11 (i_vret) := snd_vret dX4_mean_11
theorem kX4_mean {h0 : Hp_} : raA (okI 0 108 h0 (miT TbC) (yX4_mean, cX4_mean, 4, none)) tX4_mean := (raA_br (raA_br (raA_br (raA_leaf sX4_mean_0) (raA_leaf sX4_mean_1)) (raA_br (raA_leaf sX4_mean_4) (raA_leaf sX4_mean_5))) (raA_br (raA_br (raA_leaf sX4_mean_6) (raA_leaf sX4_mean_9)) (raA_br (raA_leaf sX4_mean_10) (raA_leaf sX4_mean_11))))
theorem sX4_meantBit_0 {h0 : Hp_} : Snd 0 108 h0 (miT TbC) RX4 cX4_meantBit 2 (some .int) 0 (i_aload 1 0) := snd_aload_n rfl dX4_meantBit_0
theorem sX4_meantBit_1 {h0 : Hp_} : Snd 0 108 h0 (miT TbC) RX4 cX4_meantBit 2 (some .int) 1 (i_getR 4 1 4) := snd_getR rfl (by decide) (by decide) (by decide) (fun hK ho hs hq kk => gf_X4_11 hK ho hs hq rfl dX4_meantBit_1 kk)
theorem sX4_meantBit_4 {h0 : Hp_} : Snd 0 108 h0 (miT TbC) RX4 cX4_meantBit 2 (some .int) 4 (i_iload 5 1) := snd_iload_n rfl dX4_meantBit_4
theorem sX4_meantBit_5 {h0 : Hp_} : Snd 0 108 h0 (miT TbC) RX4 cX4_meantBit 2 (some .int) 5 (i_iald 0 108 6) := snd_iald dX4_meantBit_5
theorem sX4_meantBit_6 {h0 : Hp_} : Snd 0 108 h0 (miT TbC) RX4 cX4_meantBit 2 (some .int) 6 (i_mabs 9) := snd_mabs iw_X4_114 dX4_meantBit_6
theorem sX4_meantBit_9 {h0 : Hp_} : Snd 0 108 h0 (miT TbC) RX4 cX4_meantBit 2 (some .int) 9 (i_aload 10 0) := snd_aload_n rfl dX4_meantBit_9
theorem sX4_meantBit_10 {h0 : Hp_} : Snd 0 108 h0 (miT TbC) RX4 cX4_meantBit 2 (some .int) 10 (i_getI 4 9 13) := snd_getI hl0 (fun hK ho hs hv kk => gf_X4_55 hK ho hs hv dX4_meantBit_10 kk)
theorem sX4_meantBit_13 {h0 : Hp_} : Snd 0 108 h0 (miT TbC) RX4 cX4_meantBit 2 (some .int) 13 (i_ishr 14) := snd_ishr dX4_meantBit_13
theorem sX4_meantBit_14 {h0 : Hp_} : Snd 0 108 h0 (miT TbC) RX4 cX4_meantBit 2 (some .int) 14 (i_const 15 (vI 1)) := snd_iconst dX4_meantBit_14
theorem sX4_meantBit_15 {h0 : Hp_} : Snd 0 108 h0 (miT TbC) RX4 cX4_meantBit 2 (some .int) 15 (i_iand 16) := snd_iand dX4_meantBit_15
theorem sX4_meantBit_16 {h0 : Hp_} : Snd 0 108 h0 (miT TbC) RX4 cX4_meantBit 2 (some .int) 16 (i_iret) := snd_iret dX4_meantBit_16
theorem kX4_meantBit {h0 : Hp_} : raA (okI 0 108 h0 (miT TbC) (yX4_meantBit, cX4_meantBit, 2, (some .int))) tX4_meantBit := (raA_br (raA_br (raA_br (raA_leaf sX4_meantBit_0) (raA_leaf sX4_meantBit_1)) (raA_br (raA_leaf sX4_meantBit_4) (raA_br (raA_leaf sX4_meantBit_5) (raA_leaf sX4_meantBit_6)))) (raA_br (raA_br (raA_leaf sX4_meantBit_9) (raA_br (raA_leaf sX4_meantBit_10) (raA_leaf sX4_meantBit_13))) (raA_br (raA_leaf sX4_meantBit_14) (raA_br (raA_leaf sX4_meantBit_15) (raA_leaf sX4_meantBit_16)))))
theorem sX4_place_0 {h0 : Hp_} : Snd 0 108 h0 (miT TbC) RX4 cX4_place 2 (some .int) 0 (i_iload 1 1) := snd_iload_n rfl dX4_place_0
theorem sX4_place_1 {h0 : Hp_} : Snd 0 108 h0 (miT TbC) RX4 cX4_place 2 (some .int) 1 (i_const 2 (vI 1)) := snd_iconst dX4_place_1
theorem sX4_place_2 {h0 : Hp_} : Snd 0 108 h0 (miT TbC) RX4 cX4_place 2 (some .int) 2 (i_iadd 3) := snd_iadd dX4_place_2
theorem sX4_place_3 {h0 : Hp_} : Snd 0 108 h0 (miT TbC) RX4 cX4_place 2 (some .int) 3 (i_const 5 (vI 10)) := snd_bipush (by decide) dX4_place_3
theorem sX4_place_5 {h0 : Hp_} : Snd 0 108 h0 (miT TbC) RX4 cX4_place 2 (some .int) 5 (i_imul 6) := snd_imul dX4_place_5
theorem sX4_place_6 {h0 : Hp_} : Snd 0 108 h0 (miT TbC) RX4 cX4_place 2 (some .int) 6 (i_iload 7 0) := snd_iload_n rfl dX4_place_6
theorem sX4_place_7 {h0 : Hp_} : Snd 0 108 h0 (miT TbC) RX4 cX4_place 2 (some .int) 7 (i_iadd 8) := snd_iadd dX4_place_7
theorem sX4_place_8 {h0 : Hp_} : Snd 0 108 h0 (miT TbC) RX4 cX4_place 2 (some .int) 8 (i_const 9 (vI 1)) := snd_iconst dX4_place_8
theorem sX4_place_9 {h0 : Hp_} : Snd 0 108 h0 (miT TbC) RX4 cX4_place 2 (some .int) 9 (i_iadd 10) := snd_iadd dX4_place_9
theorem sX4_place_10 {h0 : Hp_} : Snd 0 108 h0 (miT TbC) RX4 cX4_place 2 (some .int) 10 (i_iret) := snd_iret dX4_place_10
theorem kX4_place {h0 : Hp_} : raA (okI 0 108 h0 (miT TbC) (yX4_place, cX4_place, 2, (some .int))) tX4_place := (raA_br (raA_br (raA_br (raA_leaf sX4_place_0) (raA_leaf sX4_place_1)) (raA_br (raA_leaf sX4_place_2) (raA_br (raA_leaf sX4_place_3) (raA_leaf sX4_place_5)))) (raA_br (raA_br (raA_leaf sX4_place_6) (raA_leaf sX4_place_7)) (raA_br (raA_leaf sX4_place_8) (raA_br (raA_leaf sX4_place_9) (raA_leaf sX4_place_10)))))
theorem sX4_refineColumn_0 {h0 : Hp_} : Snd 0 108 h0 (miT TbC) RX4 cX4_refineColumn 6 none 0 (i_const 1 (vI 0)) := snd_iconst dX4_refineColumn_0
theorem sX4_refineColumn_1 {h0 : Hp_} : Snd 0 108 h0 (miT TbC) RX4 cX4_refineColumn 6 none 1 (i_istore 2 3) := snd_istore_n rfl (by decide) dX4_refineColumn_1
theorem sX4_refineColumn_2 {h0 : Hp_} : Snd 0 108 h0 (miT TbC) RX4 cX4_refineColumn 6 none 2 (i_iload 3 3) := snd_iload_n rfl dX4_refineColumn_2
theorem sX4_refineColumn_3 {h0 : Hp_} : Snd 0 108 h0 (miT TbC) RX4 cX4_refineColumn 6 none 3 (i_iload 4 2) := snd_iload_n rfl dX4_refineColumn_3
theorem sX4_refineColumn_4 {h0 : Hp_} : Snd 0 108 h0 (miT TbC) RX4 cX4_refineColumn 6 none 4 (i_icmp_ge 7 104) := snd_icmp_ge dX4_refineColumn_4 rfl
theorem sX4_refineColumn_7 {h0 : Hp_} : Snd 0 108 h0 (miT TbC) RX4 cX4_refineColumn 6 none 7 (i_iload 8 1) := snd_iload_n rfl dX4_refineColumn_7
theorem sX4_refineColumn_8 {h0 : Hp_} : Snd 0 108 h0 (miT TbC) RX4 cX4_refineColumn 6 none 8 (i_iload 9 3) := snd_iload_n rfl dX4_refineColumn_8
theorem sX4_refineColumn_9 {h0 : Hp_} : Snd 0 108 h0 (miT TbC) RX4 cX4_refineColumn 6 none 9 (i_const 11 (vI 10)) := snd_bipush (by decide) dX4_refineColumn_9
theorem sX4_refineColumn_11 {h0 : Hp_} : Snd 0 108 h0 (miT TbC) RX4 cX4_refineColumn 6 none 11 (i_imul 12) := snd_imul dX4_refineColumn_11
theorem sX4_refineColumn_12 {h0 : Hp_} : Snd 0 108 h0 (miT TbC) RX4 cX4_refineColumn 6 none 12 (i_iadd 13) := snd_iadd dX4_refineColumn_12
theorem sX4_refineColumn_13 {h0 : Hp_} : Snd 0 108 h0 (miT TbC) RX4 cX4_refineColumn 6 none 13 (i_istore 15 4) := snd_istore (by decide) dX4_refineColumn_13
theorem sX4_refineColumn_15 {h0 : Hp_} : Snd 0 108 h0 (miT TbC) RX4 cX4_refineColumn 6 none 15 (i_aload 16 0) := snd_aload_n rfl dX4_refineColumn_15
theorem sX4_refineColumn_16 {h0 : Hp_} : Snd 0 108 h0 (miT TbC) RX4 cX4_refineColumn 6 none 16 (i_getR 4 3 19) := snd_getR rfl (by decide) (by decide) (by decide) (fun hK ho hs hq kk => gf_X4_18 hK ho hs hq rfl dX4_refineColumn_16 kk)
theorem sX4_refineColumn_19 {h0 : Hp_} : Snd 0 108 h0 (miT TbC) RX4 cX4_refineColumn 6 none 19 (i_iload 21 4) := snd_iload dX4_refineColumn_19
theorem sX4_refineColumn_21 {h0 : Hp_} : Snd 0 108 h0 (miT TbC) RX4 cX4_refineColumn 6 none 21 (i_iald 0 108 22) := snd_iald dX4_refineColumn_21
theorem sX4_refineColumn_22 {h0 : Hp_} : Snd 0 108 h0 (miT TbC) RX4 cX4_refineColumn 6 none 22 (i_if_eq 25 98) := snd_if_eq dX4_refineColumn_22 rfl
theorem sX4_refineColumn_25 {h0 : Hp_} : Snd 0 108 h0 (miT TbC) RX4 cX4_refineColumn 6 none 25 (i_aload 26 0) := snd_aload_n rfl dX4_refineColumn_25
theorem sX4_refineColumn_26 {h0 : Hp_} : Snd 0 108 h0 (miT TbC) RX4 cX4_refineColumn 6 none 26 (i_getR 4 4 29) := snd_getR rfl (by decide) (by decide) (by decide) (fun hK ho hs hq kk => gf_X4_21 hK ho hs hq rfl dX4_refineColumn_26 kk)
theorem sX4_refineColumn_29 {h0 : Hp_} : Snd 0 108 h0 (miT TbC) RX4 cX4_refineColumn 6 none 29 (i_iload 31 4) := snd_iload dX4_refineColumn_29
theorem sX4_refineColumn_31 {h0 : Hp_} : Snd 0 108 h0 (miT TbC) RX4 cX4_refineColumn 6 none 31 (i_zald 0 108 32) := snd_zald dX4_refineColumn_31
theorem sX4_refineColumn_32 {h0 : Hp_} : Snd 0 108 h0 (miT TbC) RX4 cX4_refineColumn 6 none 32 (i_if_ne 35 98) := snd_if_ne dX4_refineColumn_32 rfl
theorem sX4_refineColumn_35 {h0 : Hp_} : Snd 0 108 h0 (miT TbC) RX4 cX4_refineColumn 6 none 35 (i_aload 36 0) := snd_aload_n rfl dX4_refineColumn_35
theorem sX4_refineColumn_36 {h0 : Hp_} : Snd 0 108 h0 (miT TbC) RX4 cX4_refineColumn 6 none 36 (i_getR 4 5 39) := snd_getR rfl (by decide) (by decide) (by decide) (fun hK ho hs hq kk => gf_X4_25 hK ho hs hq rfl dX4_refineColumn_36 kk)
theorem sX4_refineColumn_39 {h0 : Hp_} : Snd 0 108 h0 (miT TbC) RX4 cX4_refineColumn 6 none 39 (i_iload 41 4) := snd_iload dX4_refineColumn_39
theorem sX4_refineColumn_41 {h0 : Hp_} : Snd 0 108 h0 (miT TbC) RX4 cX4_refineColumn 6 none 41 (i_zald 0 108 42) := snd_zald dX4_refineColumn_41
theorem sX4_refineColumn_42 {h0 : Hp_} : Snd 0 108 h0 (miT TbC) RX4 cX4_refineColumn 6 none 42 (i_if_eq 45 50) := snd_if_eq dX4_refineColumn_42 rfl
theorem sX4_refineColumn_45 {h0 : Hp_} : Snd 0 108 h0 (miT TbC) RX4 cX4_refineColumn 6 none 45 (i_const 47 (vI 16)) := snd_bipush (by decide) dX4_refineColumn_45
theorem sX4_refineColumn_47 {h0 : Hp_} : Snd 0 108 h0 (miT TbC) RX4 cX4_refineColumn 6 none 47 (i_goto 56) := snd_goto dX4_refineColumn_47 rfl
theorem sX4_refineColumn_50 {h0 : Hp_} : Snd 0 108 h0 (miT TbC) RX4 cX4_refineColumn 6 none 50 (i_aload 51 0) := snd_aload_n rfl dX4_refineColumn_50
theorem sX4_refineColumn_51 {h0 : Hp_} : Snd 0 108 h0 (miT TbC) RX4 cX4_refineColumn 6 none 51 (i_iload 53 4) := snd_iload dX4_refineColumn_51
theorem sX4_refineColumn_53 {h0 : Hp_} : Snd 0 108 h0 (miT TbC) RX4 cX4_refineColumn 6 none 53 (i_cV1 48 4 56) := snd_cV1 (fun hK hd hC ho hs h6 h7 h8 kk => iv_X4_89 hK (mcC_48 hC) ho hs ⟨hd, by show _ ≤ 40 * (_ + 1); omega⟩ (Nat.le_refl _) h6 h7 h8 ⟨Nat.le_refl _, Nat.le_refl _⟩ dX4_refineColumn_53 kk)
theorem sX4_refineColumn_56 {h0 : Hp_} : Snd 0 108 h0 (miT TbC) RX4 cX4_refineColumn 6 none 56 (i_istore 58 5) := snd_istore (by decide) dX4_refineColumn_56
theorem sX4_refineColumn_58 {h0 : Hp_} : Snd 0 108 h0 (miT TbC) RX4 cX4_refineColumn 6 none 58 (i_aload 59 0) := snd_aload_n rfl dX4_refineColumn_58
theorem sX4_refineColumn_59 {h0 : Hp_} : Snd 0 108 h0 (miT TbC) RX4 cX4_refineColumn 6 none 59 (i_getR 4 5 62) := snd_getR rfl (by decide) (by decide) (by decide) (fun hK ho hs hq kk => gf_X4_25 hK ho hs hq rfl dX4_refineColumn_59 kk)
theorem sX4_refineColumn_62 {h0 : Hp_} : Snd 0 108 h0 (miT TbC) RX4 cX4_refineColumn 6 none 62 (i_iload 64 4) := snd_iload dX4_refineColumn_62
theorem sX4_refineColumn_64 {h0 : Hp_} : Snd 0 108 h0 (miT TbC) RX4 cX4_refineColumn 6 none 64 (i_const 65 (vI 1)) := snd_iconst dX4_refineColumn_64
theorem sX4_refineColumn_65 {h0 : Hp_} : Snd 0 108 h0 (miT TbC) RX4 cX4_refineColumn 6 none 65 (i_zast 0 108 66) := snd_zast dX4_refineColumn_65
theorem sX4_refineColumn_66 {h0 : Hp_} : Snd 0 108 h0 (miT TbC) RX4 cX4_refineColumn 6 none 66 (i_aload 67 0) := snd_aload_n rfl dX4_refineColumn_66
theorem sX4_refineColumn_67 {h0 : Hp_} : Snd 0 108 h0 (miT TbC) RX4 cX4_refineColumn 6 none 67 (i_getR 4 2 70) := snd_getR rfl (by decide) (by decide) (by decide) (fun hK ho hs hq kk => gf_X4_15 hK ho hs hq rfl dX4_refineColumn_67 kk)
theorem sX4_refineColumn_70 {h0 : Hp_} : Snd 0 108 h0 (miT TbC) RX4 cX4_refineColumn 6 none 70 (i_iload 72 4) := snd_iload dX4_refineColumn_70
theorem sX4_refineColumn_72 {h0 : Hp_} : Snd 0 108 h0 (miT TbC) RX4 cX4_refineColumn 6 none 72 (i_dup2 73) := snd_dup2 dX4_refineColumn_72
theorem sX4_refineColumn_73 {h0 : Hp_} : Snd 0 108 h0 (miT TbC) RX4 cX4_refineColumn 6 none 73 (i_iald 0 108 74) := snd_iald dX4_refineColumn_73
theorem sX4_refineColumn_74 {h0 : Hp_} : Snd 0 108 h0 (miT TbC) RX4 cX4_refineColumn 6 none 74 (i_aload 75 0) := snd_aload_n rfl dX4_refineColumn_74
theorem sX4_refineColumn_75 {h0 : Hp_} : Snd 0 108 h0 (miT TbC) RX4 cX4_refineColumn 6 none 75 (i_getR 4 0 78) := snd_getR rfl (by decide) (by decide) (by decide) (fun hK ho hs hq kk => gf_X4_28 hK ho hs hq rfl dX4_refineColumn_75 kk)
theorem sX4_refineColumn_78 {h0 : Hp_} : Snd 0 108 h0 (miT TbC) RX4 cX4_refineColumn 6 none 78 (i_iload 80 5) := snd_iload dX4_refineColumn_78
theorem sX4_refineColumn_80 {h0 : Hp_} : Snd 0 108 h0 (miT TbC) RX4 cX4_refineColumn 6 none 80 (i_aload 81 0) := snd_aload_n rfl dX4_refineColumn_80
theorem sX4_refineColumn_81 {h0 : Hp_} : Snd 0 108 h0 (miT TbC) RX4 cX4_refineColumn 6 none 81 (i_iload 83 4) := snd_iload dX4_refineColumn_81
theorem sX4_refineColumn_83 {h0 : Hp_} : Snd 0 108 h0 (miT TbC) RX4 cX4_refineColumn 6 none 83 (i_cV1 52 4 86) := snd_cV1 (fun hK hd hC ho hs h6 h7 h8 kk => iv_X4_77 hK (mcC_52 hC) ho hs ⟨hd, by show _ ≤ 40 * (_ + 1); omega⟩ (Nat.le_refl _) h6 h7 h8 ⟨Nat.le_refl _, Nat.le_refl _⟩ dX4_refineColumn_83 kk)
theorem sX4_refineColumn_86 {h0 : Hp_} : Snd 0 108 h0 (miT TbC) RX4 cX4_refineColumn 6 none 86 (i_cF2 69 65 91) := snd_cF2 (fun hK hd hC ho hs h6 h7 h8 kk => iv_X4_80_X7 hK (mcC_69 hC) ho hs ⟨hd, by show _ ≤ 40 * (_ + 1); omega⟩ (Nat.le_refl _) h6 h7 h8 ⟨Nat.le_refl _, Nat.le_refl _⟩ dX4_refineColumn_86 kk) (fun hK hd hC ho hs h6 h7 h8 kk => iv_X4_80_X6 hK (mcC_65 hC) ho hs ⟨hd, by show _ ≤ 40 * (_ + 1); omega⟩ (Nat.le_refl _) h6 h7 h8 ⟨Nat.le_refl _, Nat.le_refl _⟩ dX4_refineColumn_86 kk)
theorem sX4_refineColumn_91 {h0 : Hp_} : Snd 0 108 h0 (miT TbC) RX4 cX4_refineColumn 6 none 91 (i_aload 92 0) := snd_aload_n rfl dX4_refineColumn_91
theorem sX4_refineColumn_92 {h0 : Hp_} : Snd 0 108 h0 (miT TbC) RX4 cX4_refineColumn 6 none 92 (i_getI 4 9 95) := snd_getI hl0 (fun hK ho hs hv kk => gf_X4_55 hK ho hs hv dX4_refineColumn_92 kk)
theorem sX4_refineColumn_95 {h0 : Hp_} : Snd 0 108 h0 (miT TbC) RX4 cX4_refineColumn 6 none 95 (i_ishl 96) := snd_ishl dX4_refineColumn_95
theorem sX4_refineColumn_96 {h0 : Hp_} : Snd 0 108 h0 (miT TbC) RX4 cX4_refineColumn 6 none 96 (i_ior 97) := snd_ior dX4_refineColumn_96
theorem sX4_refineColumn_97 {h0 : Hp_} : Snd 0 108 h0 (miT TbC) RX4 cX4_refineColumn 6 none 97 (i_iast 0 108 98) := snd_iast dX4_refineColumn_97
theorem sX4_refineColumn_98 {h0 : Hp_} : Snd 0 108 h0 (miT TbC) RX4 cX4_refineColumn 6 none 98 (i_iinc 101 3 1) := snd_iinc (by decide) dX4_refineColumn_98
theorem sX4_refineColumn_101 {h0 : Hp_} : Snd 0 108 h0 (miT TbC) RX4 cX4_refineColumn 6 none 101 (i_goto 2) := snd_goto dX4_refineColumn_101 rfl
theorem sX4_refineColumn_104 {h0 : Hp_} : Snd 0 108 h0 (miT TbC) RX4 cX4_refineColumn 6 none 104 (i_vret) := snd_vret dX4_refineColumn_104
theorem kX4_refineColumn {h0 : Hp_} : raA (okI 0 108 h0 (miT TbC) (yX4_refineColumn, cX4_refineColumn, 6, none)) tX4_refineColumn := (raA_br (raA_br (raA_br (raA_br (raA_br (raA_leaf sX4_refineColumn_0) (raA_br (raA_leaf sX4_refineColumn_1) (raA_leaf sX4_refineColumn_2))) (raA_br (raA_br (raA_leaf sX4_refineColumn_3) (raA_leaf sX4_refineColumn_4)) (raA_br (raA_leaf sX4_refineColumn_7) (raA_leaf sX4_refineColumn_8)))) (raA_br (raA_br (raA_leaf sX4_refineColumn_9) (raA_br (raA_leaf sX4_refineColumn_11) (raA_leaf sX4_refineColumn_12))) (raA_br (raA_br (raA_leaf sX4_refineColumn_13) (raA_leaf sX4_refineColumn_15)) (raA_br (raA_leaf sX4_refineColumn_16) (raA_leaf sX4_refineColumn_19))))) (raA_br (raA_br (raA_br (raA_leaf sX4_refineColumn_21) (raA_br (raA_leaf sX4_refineColumn_22) (raA_leaf sX4_refineColumn_25))) (raA_br (raA_br (raA_leaf sX4_refineColumn_26) (raA_leaf sX4_refineColumn_29)) (raA_br (raA_leaf sX4_refineColumn_31) (raA_leaf sX4_refineColumn_32)))) (raA_br (raA_br (raA_leaf sX4_refineColumn_35) (raA_br (raA_leaf sX4_refineColumn_36) (raA_leaf sX4_refineColumn_39))) (raA_br (raA_br (raA_leaf sX4_refineColumn_41) (raA_leaf sX4_refineColumn_42)) (raA_br (raA_leaf sX4_refineColumn_45) (raA_leaf sX4_refineColumn_47)))))) (raA_br (raA_br (raA_br (raA_br (raA_leaf sX4_refineColumn_50) (raA_br (raA_leaf sX4_refineColumn_51) (raA_leaf sX4_refineColumn_53))) (raA_br (raA_br (raA_leaf sX4_refineColumn_56) (raA_leaf sX4_refineColumn_58)) (raA_br (raA_leaf sX4_refineColumn_59) (raA_leaf sX4_refineColumn_62)))) (raA_br (raA_br (raA_leaf sX4_refineColumn_64) (raA_br (raA_leaf sX4_refineColumn_65) (raA_leaf sX4_refineColumn_66))) (raA_br (raA_br (raA_leaf sX4_refineColumn_67) (raA_leaf sX4_refineColumn_70)) (raA_br (raA_leaf sX4_refineColumn_72) (raA_leaf sX4_refineColumn_73))))) (raA_br (raA_br (raA_br (raA_leaf sX4_refineColumn_74) (raA_br (raA_leaf sX4_refineColumn_75) (raA_leaf sX4_refineColumn_78))) (raA_br (raA_br (raA_leaf sX4_refineColumn_80) (raA_leaf sX4_refineColumn_81)) (raA_br (raA_leaf sX4_refineColumn_83) (raA_leaf sX4_refineColumn_86)))) (raA_br (raA_br (raA_br (raA_leaf sX4_refineColumn_91) (raA_leaf sX4_refineColumn_92)) (raA_br (raA_leaf sX4_refineColumn_95) (raA_leaf sX4_refineColumn_96))) (raA_br (raA_br (raA_leaf sX4_refineColumn_97) (raA_leaf sX4_refineColumn_98)) (raA_br (raA_leaf sX4_refineColumn_101) (raA_leaf sX4_refineColumn_104)))))))
theorem sX4_rowFirst_0 {h0 : Hp_} : Snd 0 108 h0 (miT TbC) RX4 cX4_rowFirst 3 (some .int) 0 (i_iload 1 0) := snd_iload_n rfl dX4_rowFirst_0
theorem sX4_rowFirst_1 {h0 : Hp_} : Snd 0 108 h0 (miT TbC) RX4 cX4_rowFirst 3 (some .int) 1 (i_const 2 (vI 2)) := snd_iconst dX4_rowFirst_1
theorem sX4_rowFirst_2 {h0 : Hp_} : Snd 0 108 h0 (miT TbC) RX4 cX4_rowFirst 3 (some .int) 2 (i_icmp_ne 5 8) := snd_icmp_ne dX4_rowFirst_2 rfl
theorem sX4_rowFirst_5 {h0 : Hp_} : Snd 0 108 h0 (miT TbC) RX4 cX4_rowFirst 3 (some .int) 5 (i_const 7 (vI 8)) := snd_bipush (by decide) dX4_rowFirst_5
theorem sX4_rowFirst_7 {h0 : Hp_} : Snd 0 108 h0 (miT TbC) RX4 cX4_rowFirst 3 (some .int) 7 (i_iret) := snd_iret dX4_rowFirst_7
theorem sX4_rowFirst_8 {h0 : Hp_} : Snd 0 108 h0 (miT TbC) RX4 cX4_rowFirst 3 (some .int) 8 (i_iload 9 0) := snd_iload_n rfl dX4_rowFirst_8
theorem sX4_rowFirst_9 {h0 : Hp_} : Snd 0 108 h0 (miT TbC) RX4 cX4_rowFirst 3 (some .int) 9 (i_const 10 (vI 1)) := snd_iconst dX4_rowFirst_9
theorem sX4_rowFirst_10 {h0 : Hp_} : Snd 0 108 h0 (miT TbC) RX4 cX4_rowFirst 3 (some .int) 10 (i_icmp_ne 13 33) := snd_icmp_ne dX4_rowFirst_10 rfl
theorem sX4_rowFirst_13 {h0 : Hp_} : Snd 0 108 h0 (miT TbC) RX4 cX4_rowFirst 3 (some .int) 13 (i_iload 14 1) := snd_iload_n rfl dX4_rowFirst_13
theorem sX4_rowFirst_14 {h0 : Hp_} : Snd 0 108 h0 (miT TbC) RX4 cX4_rowFirst 3 (some .int) 14 (i_if_le 17 22) := snd_if_le dX4_rowFirst_14 rfl
theorem sX4_rowFirst_17 {h0 : Hp_} : Snd 0 108 h0 (miT TbC) RX4 cX4_rowFirst 3 (some .int) 17 (i_const 19 (vI 7)) := snd_bipush (by decide) dX4_rowFirst_17
theorem sX4_rowFirst_19 {h0 : Hp_} : Snd 0 108 h0 (miT TbC) RX4 cX4_rowFirst 3 (some .int) 19 (i_goto 32) := snd_goto dX4_rowFirst_19 rfl
theorem sX4_rowFirst_22 {h0 : Hp_} : Snd 0 108 h0 (miT TbC) RX4 cX4_rowFirst 3 (some .int) 22 (i_iload 23 2) := snd_iload_n rfl dX4_rowFirst_22
theorem sX4_rowFirst_23 {h0 : Hp_} : Snd 0 108 h0 (miT TbC) RX4 cX4_rowFirst 3 (some .int) 23 (i_if_le 26 31) := snd_if_le dX4_rowFirst_23 rfl
theorem sX4_rowFirst_26 {h0 : Hp_} : Snd 0 108 h0 (miT TbC) RX4 cX4_rowFirst 3 (some .int) 26 (i_const 28 (vI 6)) := snd_bipush (by decide) dX4_rowFirst_26
theorem sX4_rowFirst_28 {h0 : Hp_} : Snd 0 108 h0 (miT TbC) RX4 cX4_rowFirst 3 (some .int) 28 (i_goto 32) := snd_goto dX4_rowFirst_28 rfl
theorem sX4_rowFirst_31 {h0 : Hp_} : Snd 0 108 h0 (miT TbC) RX4 cX4_rowFirst 3 (some .int) 31 (i_const 32 (vI 5)) := snd_iconst dX4_rowFirst_31
theorem sX4_rowFirst_32 {h0 : Hp_} : Snd 0 108 h0 (miT TbC) RX4 cX4_rowFirst 3 (some .int) 32 (i_iret) := snd_iret dX4_rowFirst_32
theorem sX4_rowFirst_33 {h0 : Hp_} : Snd 0 108 h0 (miT TbC) RX4 cX4_rowFirst 3 (some .int) 33 (i_iload 34 1) := snd_iload_n rfl dX4_rowFirst_33
theorem sX4_rowFirst_34 {h0 : Hp_} : Snd 0 108 h0 (miT TbC) RX4 cX4_rowFirst 3 (some .int) 34 (i_if_le 37 48) := snd_if_le dX4_rowFirst_34 rfl
theorem sX4_rowFirst_37 {h0 : Hp_} : Snd 0 108 h0 (miT TbC) RX4 cX4_rowFirst 3 (some .int) 37 (i_iload 38 1) := snd_iload_n rfl dX4_rowFirst_37
theorem sX4_rowFirst_38 {h0 : Hp_} : Snd 0 108 h0 (miT TbC) RX4 cX4_rowFirst 3 (some .int) 38 (i_const 39 (vI 2)) := snd_iconst dX4_rowFirst_38
theorem sX4_rowFirst_39 {h0 : Hp_} : Snd 0 108 h0 (miT TbC) RX4 cX4_rowFirst 3 (some .int) 39 (i_icmp_ne 42 46) := snd_icmp_ne dX4_rowFirst_39 rfl
theorem sX4_rowFirst_42 {h0 : Hp_} : Snd 0 108 h0 (miT TbC) RX4 cX4_rowFirst 3 (some .int) 42 (i_const 43 (vI 4)) := snd_iconst dX4_rowFirst_42
theorem sX4_rowFirst_43 {h0 : Hp_} : Snd 0 108 h0 (miT TbC) RX4 cX4_rowFirst 3 (some .int) 43 (i_goto 47) := snd_goto dX4_rowFirst_43 rfl
theorem sX4_rowFirst_46 {h0 : Hp_} : Snd 0 108 h0 (miT TbC) RX4 cX4_rowFirst 3 (some .int) 46 (i_const 47 (vI 3)) := snd_iconst dX4_rowFirst_46
theorem sX4_rowFirst_47 {h0 : Hp_} : Snd 0 108 h0 (miT TbC) RX4 cX4_rowFirst 3 (some .int) 47 (i_iret) := snd_iret dX4_rowFirst_47
theorem sX4_rowFirst_48 {h0 : Hp_} : Snd 0 108 h0 (miT TbC) RX4 cX4_rowFirst 3 (some .int) 48 (i_iload 49 2) := snd_iload_n rfl dX4_rowFirst_48
theorem sX4_rowFirst_49 {h0 : Hp_} : Snd 0 108 h0 (miT TbC) RX4 cX4_rowFirst 3 (some .int) 49 (i_const 50 (vI 2)) := snd_iconst dX4_rowFirst_49
theorem sX4_rowFirst_50 {h0 : Hp_} : Snd 0 108 h0 (miT TbC) RX4 cX4_rowFirst 3 (some .int) 50 (i_icmp_ge 53 57) := snd_icmp_ge dX4_rowFirst_50 rfl
theorem sX4_rowFirst_53 {h0 : Hp_} : Snd 0 108 h0 (miT TbC) RX4 cX4_rowFirst 3 (some .int) 53 (i_iload 54 2) := snd_iload_n rfl dX4_rowFirst_53
theorem sX4_rowFirst_54 {h0 : Hp_} : Snd 0 108 h0 (miT TbC) RX4 cX4_rowFirst 3 (some .int) 54 (i_goto 58) := snd_goto dX4_rowFirst_54 rfl
theorem sX4_rowFirst_57 {h0 : Hp_} : Snd 0 108 h0 (miT TbC) RX4 cX4_rowFirst 3 (some .int) 57 (i_const 58 (vI 2)) := snd_iconst dX4_rowFirst_57
theorem sX4_rowFirst_58 {h0 : Hp_} : Snd 0 108 h0 (miT TbC) RX4 cX4_rowFirst 3 (some .int) 58 (i_iret) := snd_iret dX4_rowFirst_58
theorem kX4_rowFirst {h0 : Hp_} : raA (okI 0 108 h0 (miT TbC) (yX4_rowFirst, cX4_rowFirst, 3, (some .int))) tX4_rowFirst := (raA_br (raA_br (raA_br (raA_br (raA_br (raA_leaf sX4_rowFirst_0) (raA_leaf sX4_rowFirst_1)) (raA_br (raA_leaf sX4_rowFirst_2) (raA_leaf sX4_rowFirst_5))) (raA_br (raA_br (raA_leaf sX4_rowFirst_7) (raA_leaf sX4_rowFirst_8)) (raA_br (raA_leaf sX4_rowFirst_9) (raA_leaf sX4_rowFirst_10)))) (raA_br (raA_br (raA_br (raA_leaf sX4_rowFirst_13) (raA_leaf sX4_rowFirst_14)) (raA_br (raA_leaf sX4_rowFirst_17) (raA_leaf sX4_rowFirst_19))) (raA_br (raA_br (raA_leaf sX4_rowFirst_22) (raA_leaf sX4_rowFirst_23)) (raA_br (raA_leaf sX4_rowFirst_26) (raA_br (raA_leaf sX4_rowFirst_28) (raA_leaf sX4_rowFirst_31)))))) (raA_br (raA_br (raA_br (raA_br (raA_leaf sX4_rowFirst_32) (raA_leaf sX4_rowFirst_33)) (raA_br (raA_leaf sX4_rowFirst_34) (raA_leaf sX4_rowFirst_37))) (raA_br (raA_br (raA_leaf sX4_rowFirst_38) (raA_leaf sX4_rowFirst_39)) (raA_br (raA_leaf sX4_rowFirst_42) (raA_leaf sX4_rowFirst_43)))) (raA_br (raA_br (raA_br (raA_leaf sX4_rowFirst_46) (raA_leaf sX4_rowFirst_47)) (raA_br (raA_leaf sX4_rowFirst_48) (raA_leaf sX4_rowFirst_49))) (raA_br (raA_br (raA_leaf sX4_rowFirst_50) (raA_leaf sX4_rowFirst_53)) (raA_br (raA_leaf sX4_rowFirst_54) (raA_br (raA_leaf sX4_rowFirst_57) (raA_leaf sX4_rowFirst_58)))))))
theorem sX4_runPass_0 {h0 : Hp_} : Snd 0 108 h0 (miT TbC) RX4 cX4_runPass 7 none 0 (i_aload 1 0) := snd_aload_n rfl dX4_runPass_0
theorem sX4_runPass_1 {h0 : Hp_} : Snd 0 108 h0 (miT TbC) RX4 cX4_runPass 7 none 1 (i_iload 2 2) := snd_iload_n rfl dX4_runPass_1
theorem sX4_runPass_2 {h0 : Hp_} : Snd 0 108 h0 (miT TbC) RX4 cX4_runPass 7 none 2 (i_const 3 (vI 1)) := snd_iconst dX4_runPass_2
theorem sX4_runPass_3 {h0 : Hp_} : Snd 0 108 h0 (miT TbC) RX4 cX4_runPass 7 none 3 (i_isub 4) := snd_isub dX4_runPass_3
theorem sX4_runPass_4 {h0 : Hp_} : Snd 0 108 h0 (miT TbC) RX4 cX4_runPass 7 none 4 (i_iload 5 1) := snd_iload_n rfl dX4_runPass_4
theorem sX4_runPass_5 {h0 : Hp_} : Snd 0 108 h0 (miT TbC) RX4 cX4_runPass 7 none 5 (i_const 6 (vI 2)) := snd_iconst dX4_runPass_5
theorem sX4_runPass_6 {h0 : Hp_} : Snd 0 108 h0 (miT TbC) RX4 cX4_runPass 7 none 6 (i_iadd 7) := snd_iadd dX4_runPass_6
theorem sX4_runPass_7 {h0 : Hp_} : Snd 0 108 h0 (miT TbC) RX4 cX4_runPass 7 none 7 (i_const 8 (vI 3)) := snd_iconst dX4_runPass_7
theorem sX4_runPass_8 {h0 : Hp_} : Snd 0 108 h0 (miT TbC) RX4 cX4_runPass 7 none 8 (i_idiv 9) := snd_idiv dX4_runPass_8
theorem sX4_runPass_9 {h0 : Hp_} : Snd 0 108 h0 (miT TbC) RX4 cX4_runPass 7 none 9 (i_isub 10) := snd_isub dX4_runPass_9
theorem sX4_runPass_10 {h0 : Hp_} : Snd 0 108 h0 (miT TbC) RX4 cX4_runPass 7 none 10 (i_putI 4 9 13) := snd_putI hl0 (fun hK ho hs kk => pf_X4_55 hK ho hs dX4_runPass_10 kk)
theorem sX4_runPass_13 {h0 : Hp_} : Snd 0 108 h0 (miT TbC) RX4 cX4_runPass 7 none 13 (i_iload 14 1) := snd_iload_n rfl dX4_runPass_13
theorem sX4_runPass_14 {h0 : Hp_} : Snd 0 108 h0 (miT TbC) RX4 cX4_runPass 7 none 14 (i_const 15 (vI 2)) := snd_iconst dX4_runPass_14
theorem sX4_runPass_15 {h0 : Hp_} : Snd 0 108 h0 (miT TbC) RX4 cX4_runPass 7 none 15 (i_iadd 16) := snd_iadd dX4_runPass_15
theorem sX4_runPass_16 {h0 : Hp_} : Snd 0 108 h0 (miT TbC) RX4 cX4_runPass 7 none 16 (i_const 17 (vI 3)) := snd_iconst dX4_runPass_16
theorem sX4_runPass_17 {h0 : Hp_} : Snd 0 108 h0 (miT TbC) RX4 cX4_runPass 7 none 17 (i_irem 18) := snd_irem dX4_runPass_17
theorem sX4_runPass_18 {h0 : Hp_} : Snd 0 108 h0 (miT TbC) RX4 cX4_runPass 7 none 18 (i_istore 19 3) := snd_istore_n rfl (by decide) dX4_runPass_18
theorem sX4_runPass_19 {h0 : Hp_} : Snd 0 108 h0 (miT TbC) RX4 cX4_runPass 7 none 19 (i_const 20 (vI 0)) := snd_iconst dX4_runPass_19
theorem sX4_runPass_20 {h0 : Hp_} : Snd 0 108 h0 (miT TbC) RX4 cX4_runPass 7 none 20 (i_istore 22 4) := snd_istore (by decide) dX4_runPass_20
theorem sX4_runPass_22 {h0 : Hp_} : Snd 0 108 h0 (miT TbC) RX4 cX4_runPass 7 none 22 (i_iload 24 4) := snd_iload dX4_runPass_22
theorem sX4_runPass_24 {h0 : Hp_} : Snd 0 108 h0 (miT TbC) RX4 cX4_runPass 7 none 24 (i_aload 25 0) := snd_aload_n rfl dX4_runPass_24
theorem sX4_runPass_25 {h0 : Hp_} : Snd 0 108 h0 (miT TbC) RX4 cX4_runPass 7 none 25 (i_getI 4 7 28) := snd_getI hl0 (fun hK ho hs hv kk => gf_X4_36 hK ho hs hv dX4_runPass_25 kk)
theorem sX4_runPass_28 {h0 : Hp_} : Snd 0 108 h0 (miT TbC) RX4 cX4_runPass 7 none 28 (i_icmp_ge 31 122) := snd_icmp_ge dX4_runPass_28 rfl
theorem sX4_runPass_31 {h0 : Hp_} : Snd 0 108 h0 (miT TbC) RX4 cX4_runPass 7 none 31 (i_const 32 (vI 4)) := snd_iconst dX4_runPass_31
theorem sX4_runPass_32 {h0 : Hp_} : Snd 0 108 h0 (miT TbC) RX4 cX4_runPass 7 none 32 (i_aload 33 0) := snd_aload_n rfl dX4_runPass_32
theorem sX4_runPass_33 {h0 : Hp_} : Snd 0 108 h0 (miT TbC) RX4 cX4_runPass 7 none 33 (i_getI 4 7 36) := snd_getI hl0 (fun hK ho hs hv kk => gf_X4_36 hK ho hs hv dX4_runPass_33 kk)
theorem sX4_runPass_36 {h0 : Hp_} : Snd 0 108 h0 (miT TbC) RX4 cX4_runPass 7 none 36 (i_iload 38 4) := snd_iload dX4_runPass_36
theorem sX4_runPass_38 {h0 : Hp_} : Snd 0 108 h0 (miT TbC) RX4 cX4_runPass 7 none 38 (i_isub 39) := snd_isub dX4_runPass_38
theorem sX4_runPass_39 {h0 : Hp_} : Snd 0 108 h0 (miT TbC) RX4 cX4_runPass 7 none 39 (i_mmin 42) := snd_mmin iw_X4_58 dX4_runPass_39
theorem sX4_runPass_42 {h0 : Hp_} : Snd 0 108 h0 (miT TbC) RX4 cX4_runPass 7 none 42 (i_istore 44 5) := snd_istore (by decide) dX4_runPass_42
theorem sX4_runPass_44 {h0 : Hp_} : Snd 0 108 h0 (miT TbC) RX4 cX4_runPass 7 none 44 (i_const 45 (vI 0)) := snd_iconst dX4_runPass_44
theorem sX4_runPass_45 {h0 : Hp_} : Snd 0 108 h0 (miT TbC) RX4 cX4_runPass 7 none 45 (i_istore 47 6) := snd_istore (by decide) dX4_runPass_45
theorem sX4_runPass_47 {h0 : Hp_} : Snd 0 108 h0 (miT TbC) RX4 cX4_runPass 7 none 47 (i_iload 49 6) := snd_iload dX4_runPass_47
theorem sX4_runPass_49 {h0 : Hp_} : Snd 0 108 h0 (miT TbC) RX4 cX4_runPass 7 none 49 (i_aload 50 0) := snd_aload_n rfl dX4_runPass_49
theorem sX4_runPass_50 {h0 : Hp_} : Snd 0 108 h0 (miT TbC) RX4 cX4_runPass 7 none 50 (i_getI 4 6 53) := snd_getI hl0 (fun hK ho hs hv kk => gf_X4_32 hK ho hs hv dX4_runPass_50 kk)
theorem sX4_runPass_53 {h0 : Hp_} : Snd 0 108 h0 (miT TbC) RX4 cX4_runPass 7 none 53 (i_icmp_ge 56 116) := snd_icmp_ge dX4_runPass_53 rfl
theorem sX4_runPass_56 {h0 : Hp_} : Snd 0 108 h0 (miT TbC) RX4 cX4_runPass 7 none 56 (i_iload 57 3) := snd_iload_n rfl dX4_runPass_56
theorem sX4_runPass_57 {h0 : Hp_} : Snd 0 108 h0 (miT TbC) RX4 cX4_runPass 7 none 57 (i_if_ne 60 76) := snd_if_ne dX4_runPass_57 rfl
theorem sX4_runPass_60 {h0 : Hp_} : Snd 0 108 h0 (miT TbC) RX4 cX4_runPass 7 none 60 (i_aload 61 0) := snd_aload_n rfl dX4_runPass_60
theorem sX4_runPass_61 {h0 : Hp_} : Snd 0 108 h0 (miT TbC) RX4 cX4_runPass 7 none 61 (i_iload 63 6) := snd_iload dX4_runPass_61
theorem sX4_runPass_63 {h0 : Hp_} : Snd 0 108 h0 (miT TbC) RX4 cX4_runPass 7 none 63 (i_iload 65 4) := snd_iload dX4_runPass_63
theorem sX4_runPass_65 {h0 : Hp_} : Snd 0 108 h0 (miT TbC) RX4 cX4_runPass 7 none 65 (i_cS2 53 68) := snd_cS2 (fun hK hd hC h6 h7 h8 kk => iv_X4_51 hK (mcC_53 hC) ⟨hd, by show _ ≤ 40 * (_ + 1); omega⟩ (Nat.le_refl _) h6 h7 h8 ⟨Nat.le_refl _, Nat.le_refl _⟩ dX4_runPass_65 kk)
theorem sX4_runPass_68 {h0 : Hp_} : Snd 0 108 h0 (miT TbC) RX4 cX4_runPass 7 none 68 (i_iload 70 5) := snd_iload dX4_runPass_68
theorem sX4_runPass_70 {h0 : Hp_} : Snd 0 108 h0 (miT TbC) RX4 cX4_runPass 7 none 70 (i_cV2 57 4 73) := snd_cV2 (fun hK hd hC ho hs h6 h7 h8 kk => iv_X4_63 hK (mcC_57 hC) ho hs ⟨hd, by show _ ≤ 40 * (_ + 1); omega⟩ (Nat.le_refl _) h6 h7 h8 ⟨Nat.le_refl _, Nat.le_refl _⟩ dX4_runPass_70 kk)
theorem sX4_runPass_73 {h0 : Hp_} : Snd 0 108 h0 (miT TbC) RX4 cX4_runPass 7 none 73 (i_goto 110) := snd_goto dX4_runPass_73 rfl
theorem sX4_runPass_76 {h0 : Hp_} : Snd 0 108 h0 (miT TbC) RX4 cX4_runPass 7 none 76 (i_iload 77 3) := snd_iload_n rfl dX4_runPass_76
theorem sX4_runPass_77 {h0 : Hp_} : Snd 0 108 h0 (miT TbC) RX4 cX4_runPass 7 none 77 (i_const 78 (vI 1)) := snd_iconst dX4_runPass_77
theorem sX4_runPass_78 {h0 : Hp_} : Snd 0 108 h0 (miT TbC) RX4 cX4_runPass 7 none 78 (i_icmp_ne 81 97) := snd_icmp_ne dX4_runPass_78 rfl
theorem sX4_runPass_81 {h0 : Hp_} : Snd 0 108 h0 (miT TbC) RX4 cX4_runPass 7 none 81 (i_aload 82 0) := snd_aload_n rfl dX4_runPass_81
theorem sX4_runPass_82 {h0 : Hp_} : Snd 0 108 h0 (miT TbC) RX4 cX4_runPass 7 none 82 (i_iload 84 6) := snd_iload dX4_runPass_82
theorem sX4_runPass_84 {h0 : Hp_} : Snd 0 108 h0 (miT TbC) RX4 cX4_runPass 7 none 84 (i_iload 86 4) := snd_iload dX4_runPass_84
theorem sX4_runPass_86 {h0 : Hp_} : Snd 0 108 h0 (miT TbC) RX4 cX4_runPass 7 none 86 (i_cS2 53 89) := snd_cS2 (fun hK hd hC h6 h7 h8 kk => iv_X4_51 hK (mcC_53 hC) ⟨hd, by show _ ≤ 40 * (_ + 1); omega⟩ (Nat.le_refl _) h6 h7 h8 ⟨Nat.le_refl _, Nat.le_refl _⟩ dX4_runPass_86 kk)
theorem sX4_runPass_89 {h0 : Hp_} : Snd 0 108 h0 (miT TbC) RX4 cX4_runPass 7 none 89 (i_iload 91 5) := snd_iload dX4_runPass_89
theorem sX4_runPass_91 {h0 : Hp_} : Snd 0 108 h0 (miT TbC) RX4 cX4_runPass 7 none 91 (i_cV2 54 4 94) := snd_cV2 (fun hK hd hC ho hs h6 h7 h8 kk => iv_X4_67 hK (mcC_54 hC) ho hs ⟨hd, by show _ ≤ 40 * (_ + 1); omega⟩ (Nat.le_refl _) h6 h7 h8 ⟨Nat.le_refl _, Nat.le_refl _⟩ dX4_runPass_91 kk)
theorem sX4_runPass_94 {h0 : Hp_} : Snd 0 108 h0 (miT TbC) RX4 cX4_runPass 7 none 94 (i_goto 110) := snd_goto dX4_runPass_94 rfl
theorem sX4_runPass_97 {h0 : Hp_} : Snd 0 108 h0 (miT TbC) RX4 cX4_runPass 7 none 97 (i_aload 98 0) := snd_aload_n rfl dX4_runPass_97
theorem sX4_runPass_98 {h0 : Hp_} : Snd 0 108 h0 (miT TbC) RX4 cX4_runPass 7 none 98 (i_iload 100 6) := snd_iload dX4_runPass_98
theorem sX4_runPass_100 {h0 : Hp_} : Snd 0 108 h0 (miT TbC) RX4 cX4_runPass 7 none 100 (i_iload 102 4) := snd_iload dX4_runPass_100
theorem sX4_runPass_102 {h0 : Hp_} : Snd 0 108 h0 (miT TbC) RX4 cX4_runPass 7 none 102 (i_cS2 53 105) := snd_cS2 (fun hK hd hC h6 h7 h8 kk => iv_X4_51 hK (mcC_53 hC) ⟨hd, by show _ ≤ 40 * (_ + 1); omega⟩ (Nat.le_refl _) h6 h7 h8 ⟨Nat.le_refl _, Nat.le_refl _⟩ dX4_runPass_102 kk)
theorem sX4_runPass_105 {h0 : Hp_} : Snd 0 108 h0 (miT TbC) RX4 cX4_runPass 7 none 105 (i_iload 107 5) := snd_iload dX4_runPass_105
theorem sX4_runPass_107 {h0 : Hp_} : Snd 0 108 h0 (miT TbC) RX4 cX4_runPass 7 none 107 (i_cV2 44 4 110) := snd_cV2 (fun hK hd hC ho hs h6 h7 h8 kk => iv_X4_70 hK (mcC_44 hC) ho hs ⟨hd, by show _ ≤ 40 * (_ + 1); omega⟩ (Nat.le_refl _) h6 h7 h8 ⟨Nat.le_refl _, Nat.le_refl _⟩ dX4_runPass_107 kk)
theorem sX4_runPass_110 {h0 : Hp_} : Snd 0 108 h0 (miT TbC) RX4 cX4_runPass 7 none 110 (i_iinc 113 6 1) := snd_iinc (by decide) dX4_runPass_110
theorem sX4_runPass_113 {h0 : Hp_} : Snd 0 108 h0 (miT TbC) RX4 cX4_runPass 7 none 113 (i_goto 47) := snd_goto dX4_runPass_113 rfl
theorem sX4_runPass_116 {h0 : Hp_} : Snd 0 108 h0 (miT TbC) RX4 cX4_runPass 7 none 116 (i_iinc 119 4 4) := snd_iinc (by decide) dX4_runPass_116
theorem sX4_runPass_119 {h0 : Hp_} : Snd 0 108 h0 (miT TbC) RX4 cX4_runPass 7 none 119 (i_goto 22) := snd_goto dX4_runPass_119 rfl
theorem sX4_runPass_122 {h0 : Hp_} : Snd 0 108 h0 (miT TbC) RX4 cX4_runPass 7 none 122 (i_iload 123 3) := snd_iload_n rfl dX4_runPass_122
theorem sX4_runPass_123 {h0 : Hp_} : Snd 0 108 h0 (miT TbC) RX4 cX4_runPass 7 none 123 (i_const 124 (vI 2)) := snd_iconst dX4_runPass_123
theorem sX4_runPass_124 {h0 : Hp_} : Snd 0 108 h0 (miT TbC) RX4 cX4_runPass 7 none 124 (i_icmp_ne 127 131) := snd_icmp_ne dX4_runPass_124 rfl
theorem sX4_runPass_127 {h0 : Hp_} : Snd 0 108 h0 (miT TbC) RX4 cX4_runPass 7 none 127 (i_aload 128 0) := snd_aload_n rfl dX4_runPass_127
theorem sX4_runPass_128 {h0 : Hp_} : Snd 0 108 h0 (miT TbC) RX4 cX4_runPass 7 none 128 (i_cV0 45 4 131) := snd_cV0 (fun hK hd hC ho hs h6 h7 h8 kk => iv_X4_48 hK (mcC_45 hC) ho hs ⟨hd, by show _ ≤ 40 * (_ + 1); omega⟩ (Nat.le_refl _) h6 h7 h8 ⟨Nat.le_refl _, Nat.le_refl _⟩ dX4_runPass_128 kk)
theorem sX4_runPass_131 {h0 : Hp_} : Snd 0 108 h0 (miT TbC) RX4 cX4_runPass 7 none 131 (i_vret) := snd_vret dX4_runPass_131
theorem kX4_runPass {h0 : Hp_} : raA (okI 0 108 h0 (miT TbC) (yX4_runPass, cX4_runPass, 7, none)) tX4_runPass := (raA_br (raA_br (raA_br (raA_br (raA_br (raA_br (raA_leaf sX4_runPass_0) (raA_leaf sX4_runPass_1)) (raA_br (raA_leaf sX4_runPass_2) (raA_leaf sX4_runPass_3))) (raA_br (raA_br (raA_leaf sX4_runPass_4) (raA_leaf sX4_runPass_5)) (raA_br (raA_leaf sX4_runPass_6) (raA_leaf sX4_runPass_7)))) (raA_br (raA_br (raA_br (raA_leaf sX4_runPass_8) (raA_leaf sX4_runPass_9)) (raA_br (raA_leaf sX4_runPass_10) (raA_leaf sX4_runPass_13))) (raA_br (raA_br (raA_leaf sX4_runPass_14) (raA_leaf sX4_runPass_15)) (raA_br (raA_leaf sX4_runPass_16) (raA_br (raA_leaf sX4_runPass_17) (raA_leaf sX4_runPass_18)))))) (raA_br (raA_br (raA_br (raA_br (raA_leaf sX4_runPass_19) (raA_leaf sX4_runPass_20)) (raA_br (raA_leaf sX4_runPass_22) (raA_leaf sX4_runPass_24))) (raA_br (raA_br (raA_leaf sX4_runPass_25) (raA_leaf sX4_runPass_28)) (raA_br (raA_leaf sX4_runPass_31) (raA_br (raA_leaf sX4_runPass_32) (raA_leaf sX4_runPass_33))))) (raA_br (raA_br (raA_br (raA_leaf sX4_runPass_36) (raA_leaf sX4_runPass_38)) (raA_br (raA_leaf sX4_runPass_39) (raA_leaf sX4_runPass_42))) (raA_br (raA_br (raA_leaf sX4_runPass_44) (raA_leaf sX4_runPass_45)) (raA_br (raA_leaf sX4_runPass_47) (raA_br (raA_leaf sX4_runPass_49) (raA_leaf sX4_runPass_50))))))) (raA_br (raA_br (raA_br (raA_br (raA_br (raA_leaf sX4_runPass_53) (raA_leaf sX4_runPass_56)) (raA_br (raA_leaf sX4_runPass_57) (raA_leaf sX4_runPass_60))) (raA_br (raA_br (raA_leaf sX4_runPass_61) (raA_leaf sX4_runPass_63)) (raA_br (raA_leaf sX4_runPass_65) (raA_br (raA_leaf sX4_runPass_68) (raA_leaf sX4_runPass_70))))) (raA_br (raA_br (raA_br (raA_leaf sX4_runPass_73) (raA_leaf sX4_runPass_76)) (raA_br (raA_leaf sX4_runPass_77) (raA_leaf sX4_runPass_78))) (raA_br (raA_br (raA_leaf sX4_runPass_81) (raA_leaf sX4_runPass_82)) (raA_br (raA_leaf sX4_runPass_84) (raA_br (raA_leaf sX4_runPass_86) (raA_leaf sX4_runPass_89)))))) (raA_br (raA_br (raA_br (raA_br (raA_leaf sX4_runPass_91) (raA_leaf sX4_runPass_94)) (raA_br (raA_leaf sX4_runPass_97) (raA_leaf sX4_runPass_98))) (raA_br (raA_br (raA_leaf sX4_runPass_100) (raA_leaf sX4_runPass_102)) (raA_br (raA_leaf sX4_runPass_105) (raA_br (raA_leaf sX4_runPass_107) (raA_leaf sX4_runPass_110))))) (raA_br (raA_br (raA_br (raA_leaf sX4_runPass_113) (raA_leaf sX4_runPass_116)) (raA_br (raA_leaf sX4_runPass_119) (raA_leaf sX4_runPass_122))) (raA_br (raA_br (raA_leaf sX4_runPass_123) (raA_leaf sX4_runPass_124)) (raA_br (raA_leaf sX4_runPass_127) (raA_br (raA_leaf sX4_runPass_128) (raA_leaf sX4_runPass_131))))))))
theorem sX4_spreadColumn_0 {h0 : Hp_} : Snd 0 108 h0 (miT TbC) RX4 cX4_spreadColumn 6 none 0 (i_const 1 (vI 0)) := snd_iconst dX4_spreadColumn_0
theorem sX4_spreadColumn_1 {h0 : Hp_} : Snd 0 108 h0 (miT TbC) RX4 cX4_spreadColumn 6 none 1 (i_istore 2 3) := snd_istore_n rfl (by decide) dX4_spreadColumn_1
theorem sX4_spreadColumn_2 {h0 : Hp_} : Snd 0 108 h0 (miT TbC) RX4 cX4_spreadColumn 6 none 2 (i_iload 3 3) := snd_iload_n rfl dX4_spreadColumn_2
theorem sX4_spreadColumn_3 {h0 : Hp_} : Snd 0 108 h0 (miT TbC) RX4 cX4_spreadColumn 6 none 3 (i_iload 4 2) := snd_iload_n rfl dX4_spreadColumn_3
theorem sX4_spreadColumn_4 {h0 : Hp_} : Snd 0 108 h0 (miT TbC) RX4 cX4_spreadColumn 6 none 4 (i_icmp_ge 7 83) := snd_icmp_ge dX4_spreadColumn_4 rfl
theorem sX4_spreadColumn_7 {h0 : Hp_} : Snd 0 108 h0 (miT TbC) RX4 cX4_spreadColumn 6 none 7 (i_iload 8 1) := snd_iload_n rfl dX4_spreadColumn_7
theorem sX4_spreadColumn_8 {h0 : Hp_} : Snd 0 108 h0 (miT TbC) RX4 cX4_spreadColumn 6 none 8 (i_iload 9 3) := snd_iload_n rfl dX4_spreadColumn_8
theorem sX4_spreadColumn_9 {h0 : Hp_} : Snd 0 108 h0 (miT TbC) RX4 cX4_spreadColumn 6 none 9 (i_const 11 (vI 10)) := snd_bipush (by decide) dX4_spreadColumn_9
theorem sX4_spreadColumn_11 {h0 : Hp_} : Snd 0 108 h0 (miT TbC) RX4 cX4_spreadColumn 6 none 11 (i_imul 12) := snd_imul dX4_spreadColumn_11
theorem sX4_spreadColumn_12 {h0 : Hp_} : Snd 0 108 h0 (miT TbC) RX4 cX4_spreadColumn 6 none 12 (i_iadd 13) := snd_iadd dX4_spreadColumn_12
theorem sX4_spreadColumn_13 {h0 : Hp_} : Snd 0 108 h0 (miT TbC) RX4 cX4_spreadColumn 6 none 13 (i_istore 15 4) := snd_istore (by decide) dX4_spreadColumn_13
theorem sX4_spreadColumn_15 {h0 : Hp_} : Snd 0 108 h0 (miT TbC) RX4 cX4_spreadColumn 6 none 15 (i_aload 16 0) := snd_aload_n rfl dX4_spreadColumn_15
theorem sX4_spreadColumn_16 {h0 : Hp_} : Snd 0 108 h0 (miT TbC) RX4 cX4_spreadColumn 6 none 16 (i_getR 4 3 19) := snd_getR rfl (by decide) (by decide) (by decide) (fun hK ho hs hq kk => gf_X4_18 hK ho hs hq rfl dX4_spreadColumn_16 kk)
theorem sX4_spreadColumn_19 {h0 : Hp_} : Snd 0 108 h0 (miT TbC) RX4 cX4_spreadColumn 6 none 19 (i_iload 21 4) := snd_iload dX4_spreadColumn_19
theorem sX4_spreadColumn_21 {h0 : Hp_} : Snd 0 108 h0 (miT TbC) RX4 cX4_spreadColumn 6 none 21 (i_iald 0 108 22) := snd_iald dX4_spreadColumn_21
theorem sX4_spreadColumn_22 {h0 : Hp_} : Snd 0 108 h0 (miT TbC) RX4 cX4_spreadColumn 6 none 22 (i_if_ne 25 34) := snd_if_ne dX4_spreadColumn_22 rfl
theorem sX4_spreadColumn_25 {h0 : Hp_} : Snd 0 108 h0 (miT TbC) RX4 cX4_spreadColumn 6 none 25 (i_aload 26 0) := snd_aload_n rfl dX4_spreadColumn_25
theorem sX4_spreadColumn_26 {h0 : Hp_} : Snd 0 108 h0 (miT TbC) RX4 cX4_spreadColumn 6 none 26 (i_iload 28 4) := snd_iload dX4_spreadColumn_26
theorem sX4_spreadColumn_28 {h0 : Hp_} : Snd 0 108 h0 (miT TbC) RX4 cX4_spreadColumn 6 none 28 (i_cV1 46 4 31) := snd_cV1 (fun hK hd hC ho hs h6 h7 h8 kk => iv_X4_73 hK (mcC_46 hC) ho hs ⟨hd, by show _ ≤ 40 * (_ + 1); omega⟩ (Nat.le_refl _) h6 h7 h8 ⟨Nat.le_refl _, Nat.le_refl _⟩ dX4_spreadColumn_28 kk)
theorem sX4_spreadColumn_31 {h0 : Hp_} : Snd 0 108 h0 (miT TbC) RX4 cX4_spreadColumn 6 none 31 (i_goto 35) := snd_goto dX4_spreadColumn_31 rfl
theorem sX4_spreadColumn_34 {h0 : Hp_} : Snd 0 108 h0 (miT TbC) RX4 cX4_spreadColumn 6 none 34 (i_const 35 (vI 0)) := snd_iconst dX4_spreadColumn_34
theorem sX4_spreadColumn_35 {h0 : Hp_} : Snd 0 108 h0 (miT TbC) RX4 cX4_spreadColumn 6 none 35 (i_istore 37 5) := snd_istore (by decide) dX4_spreadColumn_35
theorem sX4_spreadColumn_37 {h0 : Hp_} : Snd 0 108 h0 (miT TbC) RX4 cX4_spreadColumn 6 none 37 (i_iload 39 5) := snd_iload dX4_spreadColumn_37
theorem sX4_spreadColumn_39 {h0 : Hp_} : Snd 0 108 h0 (miT TbC) RX4 cX4_spreadColumn 6 none 39 (i_if_le 42 77) := snd_if_le dX4_spreadColumn_39 rfl
theorem sX4_spreadColumn_42 {h0 : Hp_} : Snd 0 108 h0 (miT TbC) RX4 cX4_spreadColumn 6 none 42 (i_aload 43 0) := snd_aload_n rfl dX4_spreadColumn_42
theorem sX4_spreadColumn_43 {h0 : Hp_} : Snd 0 108 h0 (miT TbC) RX4 cX4_spreadColumn 6 none 43 (i_getR 4 4 46) := snd_getR rfl (by decide) (by decide) (by decide) (fun hK ho hs hq kk => gf_X4_21 hK ho hs hq rfl dX4_spreadColumn_43 kk)
theorem sX4_spreadColumn_46 {h0 : Hp_} : Snd 0 108 h0 (miT TbC) RX4 cX4_spreadColumn 6 none 46 (i_iload 48 4) := snd_iload dX4_spreadColumn_46
theorem sX4_spreadColumn_48 {h0 : Hp_} : Snd 0 108 h0 (miT TbC) RX4 cX4_spreadColumn 6 none 48 (i_const 49 (vI 1)) := snd_iconst dX4_spreadColumn_48
theorem sX4_spreadColumn_49 {h0 : Hp_} : Snd 0 108 h0 (miT TbC) RX4 cX4_spreadColumn 6 none 49 (i_zast 0 108 50) := snd_zast dX4_spreadColumn_49
theorem sX4_spreadColumn_50 {h0 : Hp_} : Snd 0 108 h0 (miT TbC) RX4 cX4_spreadColumn 6 none 50 (i_aload 51 0) := snd_aload_n rfl dX4_spreadColumn_50
theorem sX4_spreadColumn_51 {h0 : Hp_} : Snd 0 108 h0 (miT TbC) RX4 cX4_spreadColumn 6 none 51 (i_getR 4 0 54) := snd_getR rfl (by decide) (by decide) (by decide) (fun hK ho hs hq kk => gf_X4_28 hK ho hs hq rfl dX4_spreadColumn_51 kk)
theorem sX4_spreadColumn_54 {h0 : Hp_} : Snd 0 108 h0 (miT TbC) RX4 cX4_spreadColumn 6 none 54 (i_iload 56 5) := snd_iload dX4_spreadColumn_54
theorem sX4_spreadColumn_56 {h0 : Hp_} : Snd 0 108 h0 (miT TbC) RX4 cX4_spreadColumn 6 none 56 (i_aload 57 0) := snd_aload_n rfl dX4_spreadColumn_56
theorem sX4_spreadColumn_57 {h0 : Hp_} : Snd 0 108 h0 (miT TbC) RX4 cX4_spreadColumn 6 none 57 (i_iload 59 4) := snd_iload dX4_spreadColumn_57
theorem sX4_spreadColumn_59 {h0 : Hp_} : Snd 0 108 h0 (miT TbC) RX4 cX4_spreadColumn 6 none 59 (i_cV1 52 4 62) := snd_cV1 (fun hK hd hC ho hs h6 h7 h8 kk => iv_X4_77 hK (mcC_52 hC) ho hs ⟨hd, by show _ ≤ 40 * (_ + 1); omega⟩ (Nat.le_refl _) h6 h7 h8 ⟨Nat.le_refl _, Nat.le_refl _⟩ dX4_spreadColumn_59 kk)
theorem sX4_spreadColumn_62 {h0 : Hp_} : Snd 0 108 h0 (miT TbC) RX4 cX4_spreadColumn 6 none 62 (i_cF2 69 65 67) := snd_cF2 (fun hK hd hC ho hs h6 h7 h8 kk => iv_X4_80_X7 hK (mcC_69 hC) ho hs ⟨hd, by show _ ≤ 40 * (_ + 1); omega⟩ (Nat.le_refl _) h6 h7 h8 ⟨Nat.le_refl _, Nat.le_refl _⟩ dX4_spreadColumn_62 kk) (fun hK hd hC ho hs h6 h7 h8 kk => iv_X4_80_X6 hK (mcC_65 hC) ho hs ⟨hd, by show _ ≤ 40 * (_ + 1); omega⟩ (Nat.le_refl _) h6 h7 h8 ⟨Nat.le_refl _, Nat.le_refl _⟩ dX4_spreadColumn_62 kk)
theorem sX4_spreadColumn_67 {h0 : Hp_} : Snd 0 108 h0 (miT TbC) RX4 cX4_spreadColumn 6 none 67 (i_const 68 (vI 1)) := snd_iconst dX4_spreadColumn_67
theorem sX4_spreadColumn_68 {h0 : Hp_} : Snd 0 108 h0 (miT TbC) RX4 cX4_spreadColumn 6 none 68 (i_icmp_ne 71 77) := snd_icmp_ne dX4_spreadColumn_68 rfl
theorem sX4_spreadColumn_71 {h0 : Hp_} : Snd 0 108 h0 (miT TbC) RX4 cX4_spreadColumn 6 none 71 (i_aload 72 0) := snd_aload_n rfl dX4_spreadColumn_71
theorem sX4_spreadColumn_72 {h0 : Hp_} : Snd 0 108 h0 (miT TbC) RX4 cX4_spreadColumn 6 none 72 (i_iload 74 4) := snd_iload dX4_spreadColumn_72
theorem sX4_spreadColumn_74 {h0 : Hp_} : Snd 0 108 h0 (miT TbC) RX4 cX4_spreadColumn 6 none 74 (i_cV1 58 4 77) := snd_cV1 (fun hK hd hC ho hs h6 h7 h8 kk => iv_X4_85 hK (mcC_58 hC) ho hs ⟨hd, by show _ ≤ 40 * (_ + 1); omega⟩ (Nat.le_refl _) h6 h7 h8 ⟨Nat.le_refl _, Nat.le_refl _⟩ dX4_spreadColumn_74 kk)
theorem sX4_spreadColumn_77 {h0 : Hp_} : Snd 0 108 h0 (miT TbC) RX4 cX4_spreadColumn 6 none 77 (i_iinc 80 3 1) := snd_iinc (by decide) dX4_spreadColumn_77
theorem sX4_spreadColumn_80 {h0 : Hp_} : Snd 0 108 h0 (miT TbC) RX4 cX4_spreadColumn 6 none 80 (i_goto 2) := snd_goto dX4_spreadColumn_80 rfl
theorem sX4_spreadColumn_83 {h0 : Hp_} : Snd 0 108 h0 (miT TbC) RX4 cX4_spreadColumn 6 none 83 (i_vret) := snd_vret dX4_spreadColumn_83
theorem kX4_spreadColumn {h0 : Hp_} : raA (okI 0 108 h0 (miT TbC) (yX4_spreadColumn, cX4_spreadColumn, 6, none)) tX4_spreadColumn := (raA_br (raA_br (raA_br (raA_br (raA_br (raA_leaf sX4_spreadColumn_0) (raA_leaf sX4_spreadColumn_1)) (raA_br (raA_leaf sX4_spreadColumn_2) (raA_br (raA_leaf sX4_spreadColumn_3) (raA_leaf sX4_spreadColumn_4)))) (raA_br (raA_br (raA_leaf sX4_spreadColumn_7) (raA_br (raA_leaf sX4_spreadColumn_8) (raA_leaf sX4_spreadColumn_9))) (raA_br (raA_leaf sX4_spreadColumn_11) (raA_br (raA_leaf sX4_spreadColumn_12) (raA_leaf sX4_spreadColumn_13))))) (raA_br (raA_br (raA_br (raA_leaf sX4_spreadColumn_15) (raA_leaf sX4_spreadColumn_16)) (raA_br (raA_leaf sX4_spreadColumn_19) (raA_br (raA_leaf sX4_spreadColumn_21) (raA_leaf sX4_spreadColumn_22)))) (raA_br (raA_br (raA_leaf sX4_spreadColumn_25) (raA_br (raA_leaf sX4_spreadColumn_26) (raA_leaf sX4_spreadColumn_28))) (raA_br (raA_leaf sX4_spreadColumn_31) (raA_br (raA_leaf sX4_spreadColumn_34) (raA_leaf sX4_spreadColumn_35)))))) (raA_br (raA_br (raA_br (raA_br (raA_leaf sX4_spreadColumn_37) (raA_leaf sX4_spreadColumn_39)) (raA_br (raA_leaf sX4_spreadColumn_42) (raA_br (raA_leaf sX4_spreadColumn_43) (raA_leaf sX4_spreadColumn_46)))) (raA_br (raA_br (raA_leaf sX4_spreadColumn_48) (raA_br (raA_leaf sX4_spreadColumn_49) (raA_leaf sX4_spreadColumn_50))) (raA_br (raA_leaf sX4_spreadColumn_51) (raA_br (raA_leaf sX4_spreadColumn_54) (raA_leaf sX4_spreadColumn_56))))) (raA_br (raA_br (raA_br (raA_leaf sX4_spreadColumn_57) (raA_leaf sX4_spreadColumn_59)) (raA_br (raA_leaf sX4_spreadColumn_62) (raA_br (raA_leaf sX4_spreadColumn_67) (raA_leaf sX4_spreadColumn_68)))) (raA_br (raA_br (raA_leaf sX4_spreadColumn_71) (raA_br (raA_leaf sX4_spreadColumn_72) (raA_leaf sX4_spreadColumn_74))) (raA_br (raA_leaf sX4_spreadColumn_77) (raA_br (raA_leaf sX4_spreadColumn_80) (raA_leaf sX4_spreadColumn_83)))))))
theorem sX4_wake_0 {h0 : Hp_} : Snd 0 108 h0 (miT TbC) RX4 cX4_wake 7 none 0 (i_aload 1 0) := snd_aload_n rfl dX4_wake_0
theorem sX4_wake_1 {h0 : Hp_} : Snd 0 108 h0 (miT TbC) RX4 cX4_wake 7 none 1 (i_getR 4 3 4) := snd_getR rfl (by decide) (by decide) (by decide) (fun hK ho hs hq kk => gf_X4_18 hK ho hs hq rfl dX4_wake_1 kk)
theorem sX4_wake_4 {h0 : Hp_} : Snd 0 108 h0 (miT TbC) RX4 cX4_wake 7 none 4 (i_iload 5 1) := snd_iload_n rfl dX4_wake_4
theorem sX4_wake_5 {h0 : Hp_} : Snd 0 108 h0 (miT TbC) RX4 cX4_wake 7 none 5 (i_const 6 (vI 1)) := snd_iconst dX4_wake_5
theorem sX4_wake_6 {h0 : Hp_} : Snd 0 108 h0 (miT TbC) RX4 cX4_wake 7 none 6 (i_isub 7) := snd_isub dX4_wake_6
theorem sX4_wake_7 {h0 : Hp_} : Snd 0 108 h0 (miT TbC) RX4 cX4_wake 7 none 7 (i_iald 0 108 8) := snd_iald dX4_wake_7
theorem sX4_wake_8 {h0 : Hp_} : Snd 0 108 h0 (miT TbC) RX4 cX4_wake 7 none 8 (i_aload 9 0) := snd_aload_n rfl dX4_wake_8
theorem sX4_wake_9 {h0 : Hp_} : Snd 0 108 h0 (miT TbC) RX4 cX4_wake 7 none 9 (i_getR 4 3 12) := snd_getR rfl (by decide) (by decide) (by decide) (fun hK ho hs hq kk => gf_X4_18 hK ho hs hq rfl dX4_wake_9 kk)
theorem sX4_wake_12 {h0 : Hp_} : Snd 0 108 h0 (miT TbC) RX4 cX4_wake 7 none 12 (i_iload 13 1) := snd_iload_n rfl dX4_wake_12
theorem sX4_wake_13 {h0 : Hp_} : Snd 0 108 h0 (miT TbC) RX4 cX4_wake 7 none 13 (i_const 14 (vI 1)) := snd_iconst dX4_wake_13
theorem sX4_wake_14 {h0 : Hp_} : Snd 0 108 h0 (miT TbC) RX4 cX4_wake 7 none 14 (i_iadd 15) := snd_iadd dX4_wake_14
theorem sX4_wake_15 {h0 : Hp_} : Snd 0 108 h0 (miT TbC) RX4 cX4_wake 7 none 15 (i_iald 0 108 16) := snd_iald dX4_wake_15
theorem sX4_wake_16 {h0 : Hp_} : Snd 0 108 h0 (miT TbC) RX4 cX4_wake 7 none 16 (i_iadd 17) := snd_iadd dX4_wake_16
theorem sX4_wake_17 {h0 : Hp_} : Snd 0 108 h0 (miT TbC) RX4 cX4_wake 7 none 17 (i_cS1 47 20) := snd_cS1 (fun hK hd hC h6 h7 h8 kk => iv_X4_108 hK (mcC_47 hC) ⟨hd, by show _ ≤ 40 * (_ + 1); omega⟩ (Nat.le_refl _) h6 h7 h8 ⟨Nat.le_refl _, Nat.le_refl _⟩ dX4_wake_17 kk)
theorem sX4_wake_20 {h0 : Hp_} : Snd 0 108 h0 (miT TbC) RX4 cX4_wake 7 none 20 (i_istore 21 2) := snd_istore_n rfl (by decide) dX4_wake_20
theorem sX4_wake_21 {h0 : Hp_} : Snd 0 108 h0 (miT TbC) RX4 cX4_wake 7 none 21 (i_aload 22 0) := snd_aload_n rfl dX4_wake_21
theorem sX4_wake_22 {h0 : Hp_} : Snd 0 108 h0 (miT TbC) RX4 cX4_wake 7 none 22 (i_getR 4 3 25) := snd_getR rfl (by decide) (by decide) (by decide) (fun hK ho hs hq kk => gf_X4_18 hK ho hs hq rfl dX4_wake_22 kk)
theorem sX4_wake_25 {h0 : Hp_} : Snd 0 108 h0 (miT TbC) RX4 cX4_wake 7 none 25 (i_iload 26 1) := snd_iload_n rfl dX4_wake_25
theorem sX4_wake_26 {h0 : Hp_} : Snd 0 108 h0 (miT TbC) RX4 cX4_wake 7 none 26 (i_const 28 (vI 10)) := snd_bipush (by decide) dX4_wake_26
theorem sX4_wake_28 {h0 : Hp_} : Snd 0 108 h0 (miT TbC) RX4 cX4_wake 7 none 28 (i_isub 29) := snd_isub dX4_wake_28
theorem sX4_wake_29 {h0 : Hp_} : Snd 0 108 h0 (miT TbC) RX4 cX4_wake 7 none 29 (i_iald 0 108 30) := snd_iald dX4_wake_29
theorem sX4_wake_30 {h0 : Hp_} : Snd 0 108 h0 (miT TbC) RX4 cX4_wake 7 none 30 (i_aload 31 0) := snd_aload_n rfl dX4_wake_30
theorem sX4_wake_31 {h0 : Hp_} : Snd 0 108 h0 (miT TbC) RX4 cX4_wake 7 none 31 (i_getR 4 3 34) := snd_getR rfl (by decide) (by decide) (by decide) (fun hK ho hs hq kk => gf_X4_18 hK ho hs hq rfl dX4_wake_31 kk)
theorem sX4_wake_34 {h0 : Hp_} : Snd 0 108 h0 (miT TbC) RX4 cX4_wake 7 none 34 (i_iload 35 1) := snd_iload_n rfl dX4_wake_34
theorem sX4_wake_35 {h0 : Hp_} : Snd 0 108 h0 (miT TbC) RX4 cX4_wake 7 none 35 (i_const 37 (vI 10)) := snd_bipush (by decide) dX4_wake_35
theorem sX4_wake_37 {h0 : Hp_} : Snd 0 108 h0 (miT TbC) RX4 cX4_wake 7 none 37 (i_iadd 38) := snd_iadd dX4_wake_37
theorem sX4_wake_38 {h0 : Hp_} : Snd 0 108 h0 (miT TbC) RX4 cX4_wake 7 none 38 (i_iald 0 108 39) := snd_iald dX4_wake_38
theorem sX4_wake_39 {h0 : Hp_} : Snd 0 108 h0 (miT TbC) RX4 cX4_wake 7 none 39 (i_iadd 40) := snd_iadd dX4_wake_39
theorem sX4_wake_40 {h0 : Hp_} : Snd 0 108 h0 (miT TbC) RX4 cX4_wake 7 none 40 (i_cS1 47 43) := snd_cS1 (fun hK hd hC h6 h7 h8 kk => iv_X4_108 hK (mcC_47 hC) ⟨hd, by show _ ≤ 40 * (_ + 1); omega⟩ (Nat.le_refl _) h6 h7 h8 ⟨Nat.le_refl _, Nat.le_refl _⟩ dX4_wake_40 kk)
theorem sX4_wake_43 {h0 : Hp_} : Snd 0 108 h0 (miT TbC) RX4 cX4_wake 7 none 43 (i_istore 44 3) := snd_istore_n rfl (by decide) dX4_wake_43
theorem sX4_wake_44 {h0 : Hp_} : Snd 0 108 h0 (miT TbC) RX4 cX4_wake 7 none 44 (i_iload 45 2) := snd_iload_n rfl dX4_wake_44
theorem sX4_wake_45 {h0 : Hp_} : Snd 0 108 h0 (miT TbC) RX4 cX4_wake 7 none 45 (i_if_lt 48 56) := snd_if_lt dX4_wake_45 rfl
theorem sX4_wake_48 {h0 : Hp_} : Snd 0 108 h0 (miT TbC) RX4 cX4_wake 7 none 48 (i_iload 49 2) := snd_iload_n rfl dX4_wake_48
theorem sX4_wake_49 {h0 : Hp_} : Snd 0 108 h0 (miT TbC) RX4 cX4_wake 7 none 49 (i_if_ne 52 60) := snd_if_ne dX4_wake_49 rfl
theorem sX4_wake_52 {h0 : Hp_} : Snd 0 108 h0 (miT TbC) RX4 cX4_wake 7 none 52 (i_iload 53 3) := snd_iload_n rfl dX4_wake_52
theorem sX4_wake_53 {h0 : Hp_} : Snd 0 108 h0 (miT TbC) RX4 cX4_wake 7 none 53 (i_if_ge 56 60) := snd_if_ge dX4_wake_53 rfl
theorem sX4_wake_56 {h0 : Hp_} : Snd 0 108 h0 (miT TbC) RX4 cX4_wake 7 none 56 (i_const 57 (vI 1)) := snd_iconst dX4_wake_56
theorem sX4_wake_57 {h0 : Hp_} : Snd 0 108 h0 (miT TbC) RX4 cX4_wake 7 none 57 (i_goto 61) := snd_goto dX4_wake_57 rfl
theorem sX4_wake_60 {h0 : Hp_} : Snd 0 108 h0 (miT TbC) RX4 cX4_wake 7 none 60 (i_const 61 (vI 0)) := snd_iconst dX4_wake_60
theorem sX4_wake_61 {h0 : Hp_} : Snd 0 108 h0 (miT TbC) RX4 cX4_wake 7 none 61 (i_istore 63 4) := snd_istore (by decide) dX4_wake_61
theorem sX4_wake_63 {h0 : Hp_} : Snd 0 108 h0 (miT TbC) RX4 cX4_wake 7 none 63 (i_iload 65 4) := snd_iload dX4_wake_63
theorem sX4_wake_65 {h0 : Hp_} : Snd 0 108 h0 (miT TbC) RX4 cX4_wake 7 none 65 (i_const 66 (vI 1)) := snd_iconst dX4_wake_65
theorem sX4_wake_66 {h0 : Hp_} : Snd 0 108 h0 (miT TbC) RX4 cX4_wake 7 none 66 (i_icmp_ne 69 75) := snd_icmp_ne dX4_wake_66 rfl
theorem sX4_wake_69 {h0 : Hp_} : Snd 0 108 h0 (miT TbC) RX4 cX4_wake 7 none 69 (i_iload 70 2) := snd_iload_n rfl dX4_wake_69
theorem sX4_wake_70 {h0 : Hp_} : Snd 0 108 h0 (miT TbC) RX4 cX4_wake 7 none 70 (i_ineg 71) := snd_ineg dX4_wake_70
theorem sX4_wake_71 {h0 : Hp_} : Snd 0 108 h0 (miT TbC) RX4 cX4_wake 7 none 71 (i_istore 72 2) := snd_istore_n rfl (by decide) dX4_wake_71
theorem sX4_wake_72 {h0 : Hp_} : Snd 0 108 h0 (miT TbC) RX4 cX4_wake 7 none 72 (i_iload 73 3) := snd_iload_n rfl dX4_wake_72
theorem sX4_wake_73 {h0 : Hp_} : Snd 0 108 h0 (miT TbC) RX4 cX4_wake 7 none 73 (i_ineg 74) := snd_ineg dX4_wake_73
theorem sX4_wake_74 {h0 : Hp_} : Snd 0 108 h0 (miT TbC) RX4 cX4_wake 7 none 74 (i_istore 75 3) := snd_istore_n rfl (by decide) dX4_wake_74
theorem sX4_wake_75 {h0 : Hp_} : Snd 0 108 h0 (miT TbC) RX4 cX4_wake 7 none 75 (i_aload 76 0) := snd_aload_n rfl dX4_wake_75
theorem sX4_wake_76 {h0 : Hp_} : Snd 0 108 h0 (miT TbC) RX4 cX4_wake 7 none 76 (i_getR 4 1 79) := snd_getR rfl (by decide) (by decide) (by decide) (fun hK ho hs hq kk => gf_X4_11 hK ho hs hq rfl dX4_wake_76 kk)
theorem sX4_wake_79 {h0 : Hp_} : Snd 0 108 h0 (miT TbC) RX4 cX4_wake 7 none 79 (i_iload 80 1) := snd_iload_n rfl dX4_wake_79
theorem sX4_wake_80 {h0 : Hp_} : Snd 0 108 h0 (miT TbC) RX4 cX4_wake 7 none 80 (i_iald 0 108 81) := snd_iald dX4_wake_80
theorem sX4_wake_81 {h0 : Hp_} : Snd 0 108 h0 (miT TbC) RX4 cX4_wake 7 none 81 (i_if_ge 84 88) := snd_if_ge dX4_wake_81 rfl
theorem sX4_wake_84 {h0 : Hp_} : Snd 0 108 h0 (miT TbC) RX4 cX4_wake 7 none 84 (i_const 85 (vI 1)) := snd_iconst dX4_wake_84
theorem sX4_wake_85 {h0 : Hp_} : Snd 0 108 h0 (miT TbC) RX4 cX4_wake 7 none 85 (i_goto 89) := snd_goto dX4_wake_85 rfl
theorem sX4_wake_88 {h0 : Hp_} : Snd 0 108 h0 (miT TbC) RX4 cX4_wake 7 none 88 (i_const 89 (vI 0)) := snd_iconst dX4_wake_88
theorem sX4_wake_89 {h0 : Hp_} : Snd 0 108 h0 (miT TbC) RX4 cX4_wake 7 none 89 (i_istore 91 5) := snd_istore (by decide) dX4_wake_89
theorem sX4_wake_91 {h0 : Hp_} : Snd 0 108 h0 (miT TbC) RX4 cX4_wake 7 none 91 (i_aload 92 0) := snd_aload_n rfl dX4_wake_91
theorem sX4_wake_92 {h0 : Hp_} : Snd 0 108 h0 (miT TbC) RX4 cX4_wake 7 none 92 (i_getR 4 0 95) := snd_getR rfl (by decide) (by decide) (by decide) (fun hK ho hs hq kk => gf_X4_28 hK ho hs hq rfl dX4_wake_92 kk)
theorem sX4_wake_95 {h0 : Hp_} : Snd 0 108 h0 (miT TbC) RX4 cX4_wake 7 none 95 (i_const 97 (vI 9)) := snd_bipush (by decide) dX4_wake_95
theorem sX4_wake_97 {h0 : Hp_} : Snd 0 108 h0 (miT TbC) RX4 cX4_wake 7 none 97 (i_const 98 (vI 3)) := snd_iconst dX4_wake_97
theorem sX4_wake_98 {h0 : Hp_} : Snd 0 108 h0 (miT TbC) RX4 cX4_wake 7 none 98 (i_iload 99 2) := snd_iload_n rfl dX4_wake_98
theorem sX4_wake_99 {h0 : Hp_} : Snd 0 108 h0 (miT TbC) RX4 cX4_wake 7 none 99 (i_imul 100) := snd_imul dX4_wake_99
theorem sX4_wake_100 {h0 : Hp_} : Snd 0 108 h0 (miT TbC) RX4 cX4_wake 7 none 100 (i_iadd 101) := snd_iadd dX4_wake_100
theorem sX4_wake_101 {h0 : Hp_} : Snd 0 108 h0 (miT TbC) RX4 cX4_wake 7 none 101 (i_iload 102 3) := snd_iload_n rfl dX4_wake_101
theorem sX4_wake_102 {h0 : Hp_} : Snd 0 108 h0 (miT TbC) RX4 cX4_wake 7 none 102 (i_iadd 103) := snd_iadd dX4_wake_102
theorem sX4_wake_103 {h0 : Hp_} : Snd 0 108 h0 (miT TbC) RX4 cX4_wake 7 none 103 (i_iload 105 5) := snd_iload dX4_wake_103
theorem sX4_wake_105 {h0 : Hp_} : Snd 0 108 h0 (miT TbC) RX4 cX4_wake 7 none 105 (i_iload 107 4) := snd_iload dX4_wake_105
theorem sX4_wake_107 {h0 : Hp_} : Snd 0 108 h0 (miT TbC) RX4 cX4_wake 7 none 107 (i_ixor 108) := snd_ixor dX4_wake_107
theorem sX4_wake_108 {h0 : Hp_} : Snd 0 108 h0 (miT TbC) RX4 cX4_wake 7 none 108 (i_cF2 69 65 113) := snd_cF2 (fun hK hd hC ho hs h6 h7 h8 kk => iv_X4_80_X7 hK (mcC_69 hC) ho hs ⟨hd, by show _ ≤ 40 * (_ + 1); omega⟩ (Nat.le_refl _) h6 h7 h8 ⟨Nat.le_refl _, Nat.le_refl _⟩ dX4_wake_108 kk) (fun hK hd hC ho hs h6 h7 h8 kk => iv_X4_80_X6 hK (mcC_65 hC) ho hs ⟨hd, by show _ ≤ 40 * (_ + 1); omega⟩ (Nat.le_refl _) h6 h7 h8 ⟨Nat.le_refl _, Nat.le_refl _⟩ dX4_wake_108 kk)
theorem sX4_wake_113 {h0 : Hp_} : Snd 0 108 h0 (miT TbC) RX4 cX4_wake 7 none 113 (i_iload 115 4) := snd_iload dX4_wake_113
theorem sX4_wake_115 {h0 : Hp_} : Snd 0 108 h0 (miT TbC) RX4 cX4_wake 7 none 115 (i_ixor 116) := snd_ixor dX4_wake_115
theorem sX4_wake_116 {h0 : Hp_} : Snd 0 108 h0 (miT TbC) RX4 cX4_wake 7 none 116 (i_istore 118 6) := snd_istore (by decide) dX4_wake_116
theorem sX4_wake_118 {h0 : Hp_} : Snd 0 108 h0 (miT TbC) RX4 cX4_wake 7 none 118 (i_aload 119 0) := snd_aload_n rfl dX4_wake_118
theorem sX4_wake_119 {h0 : Hp_} : Snd 0 108 h0 (miT TbC) RX4 cX4_wake 7 none 119 (i_getR 4 3 122) := snd_getR rfl (by decide) (by decide) (by decide) (fun hK ho hs hq kk => gf_X4_18 hK ho hs hq rfl dX4_wake_119 kk)
theorem sX4_wake_122 {h0 : Hp_} : Snd 0 108 h0 (miT TbC) RX4 cX4_wake 7 none 122 (i_iload 123 1) := snd_iload_n rfl dX4_wake_122
theorem sX4_wake_123 {h0 : Hp_} : Snd 0 108 h0 (miT TbC) RX4 cX4_wake 7 none 123 (i_iload 125 6) := snd_iload dX4_wake_123
theorem sX4_wake_125 {h0 : Hp_} : Snd 0 108 h0 (miT TbC) RX4 cX4_wake 7 none 125 (i_const 126 (vI 1)) := snd_iconst dX4_wake_125
theorem sX4_wake_126 {h0 : Hp_} : Snd 0 108 h0 (miT TbC) RX4 cX4_wake 7 none 126 (i_icmp_ne 129 133) := snd_icmp_ne dX4_wake_126 rfl
theorem sX4_wake_129 {h0 : Hp_} : Snd 0 108 h0 (miT TbC) RX4 cX4_wake 7 none 129 (i_const 130 (vI (-1))) := snd_iconst dX4_wake_129
theorem sX4_wake_130 {h0 : Hp_} : Snd 0 108 h0 (miT TbC) RX4 cX4_wake 7 none 130 (i_goto 134) := snd_goto dX4_wake_130 rfl
theorem sX4_wake_133 {h0 : Hp_} : Snd 0 108 h0 (miT TbC) RX4 cX4_wake 7 none 133 (i_const 134 (vI 1)) := snd_iconst dX4_wake_133
theorem sX4_wake_134 {h0 : Hp_} : Snd 0 108 h0 (miT TbC) RX4 cX4_wake 7 none 134 (i_iast 0 108 135) := snd_iast dX4_wake_134
theorem sX4_wake_135 {h0 : Hp_} : Snd 0 108 h0 (miT TbC) RX4 cX4_wake 7 none 135 (i_aload 136 0) := snd_aload_n rfl dX4_wake_135
theorem sX4_wake_136 {h0 : Hp_} : Snd 0 108 h0 (miT TbC) RX4 cX4_wake 7 none 136 (i_getR 4 2 139) := snd_getR rfl (by decide) (by decide) (by decide) (fun hK ho hs hq kk => gf_X4_15 hK ho hs hq rfl dX4_wake_136 kk)
theorem sX4_wake_139 {h0 : Hp_} : Snd 0 108 h0 (miT TbC) RX4 cX4_wake 7 none 139 (i_iload 140 1) := snd_iload_n rfl dX4_wake_139
theorem sX4_wake_140 {h0 : Hp_} : Snd 0 108 h0 (miT TbC) RX4 cX4_wake 7 none 140 (i_dup2 141) := snd_dup2 dX4_wake_140
theorem sX4_wake_141 {h0 : Hp_} : Snd 0 108 h0 (miT TbC) RX4 cX4_wake 7 none 141 (i_iald 0 108 142) := snd_iald dX4_wake_141
theorem sX4_wake_142 {h0 : Hp_} : Snd 0 108 h0 (miT TbC) RX4 cX4_wake 7 none 142 (i_const 143 (vI 1)) := snd_iconst dX4_wake_142
theorem sX4_wake_143 {h0 : Hp_} : Snd 0 108 h0 (miT TbC) RX4 cX4_wake 7 none 143 (i_aload 144 0) := snd_aload_n rfl dX4_wake_143
theorem sX4_wake_144 {h0 : Hp_} : Snd 0 108 h0 (miT TbC) RX4 cX4_wake 7 none 144 (i_getI 4 9 147) := snd_getI hl0 (fun hK ho hs hv kk => gf_X4_55 hK ho hs hv dX4_wake_144 kk)
theorem sX4_wake_147 {h0 : Hp_} : Snd 0 108 h0 (miT TbC) RX4 cX4_wake 7 none 147 (i_ishl 148) := snd_ishl dX4_wake_147
theorem sX4_wake_148 {h0 : Hp_} : Snd 0 108 h0 (miT TbC) RX4 cX4_wake 7 none 148 (i_ior 149) := snd_ior dX4_wake_148
theorem sX4_wake_149 {h0 : Hp_} : Snd 0 108 h0 (miT TbC) RX4 cX4_wake 7 none 149 (i_iast 0 108 150) := snd_iast dX4_wake_149
theorem sX4_wake_150 {h0 : Hp_} : Snd 0 108 h0 (miT TbC) RX4 cX4_wake 7 none 150 (i_vret) := snd_vret dX4_wake_150
theorem kX4_wake {h0 : Hp_} : raA (okI 0 108 h0 (miT TbC) (yX4_wake, cX4_wake, 7, none)) tX4_wake := (raA_br (raA_br (raA_br (raA_br (raA_br (raA_br (raA_leaf sX4_wake_0) (raA_br (raA_leaf sX4_wake_1) (raA_leaf sX4_wake_4))) (raA_br (raA_leaf sX4_wake_5) (raA_br (raA_leaf sX4_wake_6) (raA_leaf sX4_wake_7)))) (raA_br (raA_br (raA_leaf sX4_wake_8) (raA_br (raA_leaf sX4_wake_9) (raA_leaf sX4_wake_12))) (raA_br (raA_leaf sX4_wake_13) (raA_br (raA_leaf sX4_wake_14) (raA_leaf sX4_wake_15))))) (raA_br (raA_br (raA_br (raA_leaf sX4_wake_16) (raA_br (raA_leaf sX4_wake_17) (raA_leaf sX4_wake_20))) (raA_br (raA_leaf sX4_wake_21) (raA_br (raA_leaf sX4_wake_22) (raA_leaf sX4_wake_25)))) (raA_br (raA_br (raA_leaf sX4_wake_26) (raA_br (raA_leaf sX4_wake_28) (raA_leaf sX4_wake_29))) (raA_br (raA_leaf sX4_wake_30) (raA_br (raA_leaf sX4_wake_31) (raA_leaf sX4_wake_34)))))) (raA_br (raA_br (raA_br (raA_br (raA_leaf sX4_wake_35) (raA_br (raA_leaf sX4_wake_37) (raA_leaf sX4_wake_38))) (raA_br (raA_leaf sX4_wake_39) (raA_br (raA_leaf sX4_wake_40) (raA_leaf sX4_wake_43)))) (raA_br (raA_br (raA_leaf sX4_wake_44) (raA_br (raA_leaf sX4_wake_45) (raA_leaf sX4_wake_48))) (raA_br (raA_leaf sX4_wake_49) (raA_br (raA_leaf sX4_wake_52) (raA_leaf sX4_wake_53))))) (raA_br (raA_br (raA_br (raA_leaf sX4_wake_56) (raA_br (raA_leaf sX4_wake_57) (raA_leaf sX4_wake_60))) (raA_br (raA_leaf sX4_wake_61) (raA_br (raA_leaf sX4_wake_63) (raA_leaf sX4_wake_65)))) (raA_br (raA_br (raA_leaf sX4_wake_66) (raA_br (raA_leaf sX4_wake_69) (raA_leaf sX4_wake_70))) (raA_br (raA_leaf sX4_wake_71) (raA_br (raA_leaf sX4_wake_72) (raA_leaf sX4_wake_73))))))) (raA_br (raA_br (raA_br (raA_br (raA_br (raA_leaf sX4_wake_74) (raA_br (raA_leaf sX4_wake_75) (raA_leaf sX4_wake_76))) (raA_br (raA_leaf sX4_wake_79) (raA_br (raA_leaf sX4_wake_80) (raA_leaf sX4_wake_81)))) (raA_br (raA_br (raA_leaf sX4_wake_84) (raA_br (raA_leaf sX4_wake_85) (raA_leaf sX4_wake_88))) (raA_br (raA_leaf sX4_wake_89) (raA_br (raA_leaf sX4_wake_91) (raA_leaf sX4_wake_92))))) (raA_br (raA_br (raA_br (raA_leaf sX4_wake_95) (raA_br (raA_leaf sX4_wake_97) (raA_leaf sX4_wake_98))) (raA_br (raA_leaf sX4_wake_99) (raA_br (raA_leaf sX4_wake_100) (raA_leaf sX4_wake_101)))) (raA_br (raA_br (raA_leaf sX4_wake_102) (raA_br (raA_leaf sX4_wake_103) (raA_leaf sX4_wake_105))) (raA_br (raA_leaf sX4_wake_107) (raA_br (raA_leaf sX4_wake_108) (raA_leaf sX4_wake_113)))))) (raA_br (raA_br (raA_br (raA_br (raA_leaf sX4_wake_115) (raA_br (raA_leaf sX4_wake_116) (raA_leaf sX4_wake_118))) (raA_br (raA_leaf sX4_wake_119) (raA_br (raA_leaf sX4_wake_122) (raA_leaf sX4_wake_123)))) (raA_br (raA_br (raA_leaf sX4_wake_125) (raA_br (raA_leaf sX4_wake_126) (raA_leaf sX4_wake_129))) (raA_br (raA_leaf sX4_wake_130) (raA_br (raA_leaf sX4_wake_133) (raA_leaf sX4_wake_134))))) (raA_br (raA_br (raA_br (raA_leaf sX4_wake_135) (raA_br (raA_leaf sX4_wake_136) (raA_leaf sX4_wake_139))) (raA_br (raA_leaf sX4_wake_140) (raA_br (raA_leaf sX4_wake_141) (raA_leaf sX4_wake_142)))) (raA_br (raA_br (raA_leaf sX4_wake_143) (raA_br (raA_leaf sX4_wake_144) (raA_leaf sX4_wake_147))) (raA_br (raA_leaf sX4_wake_148) (raA_br (raA_leaf sX4_wake_149) (raA_leaf sX4_wake_150))))))))
theorem sX5_at_0 {h0 : Hp_} : Snd 0 108 h0 (miT TbC) RX5 cX5_at 3 (some .int) 0 (i_aload 1 0) := snd_aload_n rfl dX5_at_0
theorem sX5_at_1 {h0 : Hp_} : Snd 0 108 h0 (miT TbC) RX5 cX5_at 3 (some .int) 1 (i_iload 2 1) := snd_iload_n rfl dX5_at_1
theorem sX5_at_2 {h0 : Hp_} : Snd 0 108 h0 (miT TbC) RX5 cX5_at 3 (some .int) 2 (i_iload 3 2) := snd_iload_n rfl dX5_at_2
theorem sX5_at_3 {h0 : Hp_} : Snd 0 108 h0 (miT TbC) RX5 cX5_at 3 (some .int) 3 (i_cV2 60 5 6) := snd_cV2 (fun hK hd hC ho hs h6 h7 h8 kk => iv_X5_28 hK (mcC_60 hC) ho hs ⟨hd, by show _ ≤ 40 * (_ + 1); omega⟩ (Nat.le_refl _) h6 h7 h8 ⟨Nat.le_refl _, Nat.le_refl _⟩ dX5_at_3 kk)
theorem sX5_at_6 {h0 : Hp_} : Snd 0 108 h0 (miT TbC) RX5 cX5_at 3 (some .int) 6 (i_if_eq 9 23) := snd_if_eq dX5_at_6 rfl
theorem sX5_at_9 {h0 : Hp_} : Snd 0 108 h0 (miT TbC) RX5 cX5_at 3 (some .int) 9 (i_aload 10 0) := snd_aload_n rfl dX5_at_9
theorem sX5_at_10 {h0 : Hp_} : Snd 0 108 h0 (miT TbC) RX5 cX5_at 3 (some .int) 10 (i_getR 5 0 13) := snd_getR rfl (by decide) (by decide) (by decide) (fun hK ho hs hq kk => gf_X5_9 hK ho hs hq rfl dX5_at_10 kk)
theorem sX5_at_13 {h0 : Hp_} : Snd 0 108 h0 (miT TbC) RX5 cX5_at 3 (some .int) 13 (i_iload 14 2) := snd_iload_n rfl dX5_at_13
theorem sX5_at_14 {h0 : Hp_} : Snd 0 108 h0 (miT TbC) RX5 cX5_at 3 (some .int) 14 (i_const 16 (vI 8)) := snd_bipush (by decide) dX5_at_14
theorem sX5_at_16 {h0 : Hp_} : Snd 0 108 h0 (miT TbC) RX5 cX5_at 3 (some .int) 16 (i_imul 17) := snd_imul dX5_at_16
theorem sX5_at_17 {h0 : Hp_} : Snd 0 108 h0 (miT TbC) RX5 cX5_at 3 (some .int) 17 (i_iload 18 1) := snd_iload_n rfl dX5_at_17
theorem sX5_at_18 {h0 : Hp_} : Snd 0 108 h0 (miT TbC) RX5 cX5_at 3 (some .int) 18 (i_iadd 19) := snd_iadd dX5_at_18
theorem sX5_at_19 {h0 : Hp_} : Snd 0 108 h0 (miT TbC) RX5 cX5_at 3 (some .int) 19 (i_iald 0 108 20) := snd_iald dX5_at_19
theorem sX5_at_20 {h0 : Hp_} : Snd 0 108 h0 (miT TbC) RX5 cX5_at 3 (some .int) 20 (i_goto 25) := snd_goto dX5_at_20 rfl
theorem sX5_at_23 {h0 : Hp_} : Snd 0 108 h0 (miT TbC) RX5 cX5_at 3 (some .int) 23 (i_const 25 (vI (-100000))) := snd_ldc lc_X5_32 dX5_at_23
theorem sX5_at_25 {h0 : Hp_} : Snd 0 108 h0 (miT TbC) RX5 cX5_at 3 (some .int) 25 (i_iret) := snd_iret dX5_at_25
theorem kX5_at {h0 : Hp_} : raA (okI 0 108 h0 (miT TbC) (yX5_at, cX5_at, 3, (some .int))) tX5_at := (raA_br (raA_br (raA_br (raA_br (raA_leaf sX5_at_0) (raA_leaf sX5_at_1)) (raA_br (raA_leaf sX5_at_2) (raA_leaf sX5_at_3))) (raA_br (raA_br (raA_leaf sX5_at_6) (raA_leaf sX5_at_9)) (raA_br (raA_leaf sX5_at_10) (raA_leaf sX5_at_13)))) (raA_br (raA_br (raA_br (raA_leaf sX5_at_14) (raA_leaf sX5_at_16)) (raA_br (raA_leaf sX5_at_17) (raA_leaf sX5_at_18))) (raA_br (raA_br (raA_leaf sX5_at_19) (raA_leaf sX5_at_20)) (raA_br (raA_leaf sX5_at_23) (raA_leaf sX5_at_25)))))
theorem sX5_has_0 {h0 : Hp_} : Snd 0 108 h0 (miT TbC) RX5 cX5_has 3 (some .boolean) 0 (i_iload 1 1) := snd_iload_n rfl dX5_has_0
theorem sX5_has_1 {h0 : Hp_} : Snd 0 108 h0 (miT TbC) RX5 cX5_has 3 (some .boolean) 1 (i_if_lt 4 28) := snd_if_lt dX5_has_1 rfl
theorem sX5_has_4 {h0 : Hp_} : Snd 0 108 h0 (miT TbC) RX5 cX5_has 3 (some .boolean) 4 (i_iload 5 1) := snd_iload_n rfl dX5_has_4
theorem sX5_has_5 {h0 : Hp_} : Snd 0 108 h0 (miT TbC) RX5 cX5_has 3 (some .boolean) 5 (i_aload 6 0) := snd_aload_n rfl dX5_has_5
theorem sX5_has_6 {h0 : Hp_} : Snd 0 108 h0 (miT TbC) RX5 cX5_has 3 (some .boolean) 6 (i_getI 5 1 9) := snd_getI hl0 (fun hK ho hs hv kk => gf_X5_15 hK ho hs hv dX5_has_6 kk)
theorem sX5_has_9 {h0 : Hp_} : Snd 0 108 h0 (miT TbC) RX5 cX5_has 3 (some .boolean) 9 (i_icmp_ge 12 28) := snd_icmp_ge dX5_has_9 rfl
theorem sX5_has_12 {h0 : Hp_} : Snd 0 108 h0 (miT TbC) RX5 cX5_has 3 (some .boolean) 12 (i_iload 13 2) := snd_iload_n rfl dX5_has_12
theorem sX5_has_13 {h0 : Hp_} : Snd 0 108 h0 (miT TbC) RX5 cX5_has 3 (some .boolean) 13 (i_if_lt 16 28) := snd_if_lt dX5_has_13 rfl
theorem sX5_has_16 {h0 : Hp_} : Snd 0 108 h0 (miT TbC) RX5 cX5_has 3 (some .boolean) 16 (i_iload 17 2) := snd_iload_n rfl dX5_has_16
theorem sX5_has_17 {h0 : Hp_} : Snd 0 108 h0 (miT TbC) RX5 cX5_has 3 (some .boolean) 17 (i_aload 18 0) := snd_aload_n rfl dX5_has_17
theorem sX5_has_18 {h0 : Hp_} : Snd 0 108 h0 (miT TbC) RX5 cX5_has 3 (some .boolean) 18 (i_getI 5 2 21) := snd_getI hl0 (fun hK ho hs hv kk => gf_X5_19 hK ho hs hv dX5_has_18 kk)
theorem sX5_has_21 {h0 : Hp_} : Snd 0 108 h0 (miT TbC) RX5 cX5_has 3 (some .boolean) 21 (i_icmp_ge 24 28) := snd_icmp_ge dX5_has_21 rfl
theorem sX5_has_24 {h0 : Hp_} : Snd 0 108 h0 (miT TbC) RX5 cX5_has 3 (some .boolean) 24 (i_const 25 (vI 1)) := snd_iconst dX5_has_24
theorem sX5_has_25 {h0 : Hp_} : Snd 0 108 h0 (miT TbC) RX5 cX5_has 3 (some .boolean) 25 (i_goto 29) := snd_goto dX5_has_25 rfl
theorem sX5_has_28 {h0 : Hp_} : Snd 0 108 h0 (miT TbC) RX5 cX5_has 3 (some .boolean) 28 (i_const 29 (vI 0)) := snd_iconst dX5_has_28
theorem sX5_has_29 {h0 : Hp_} : Snd 0 108 h0 (miT TbC) RX5 cX5_has 3 (some .boolean) 29 (i_zret) := snd_zret dX5_has_29
theorem kX5_has {h0 : Hp_} : raA (okI 0 108 h0 (miT TbC) (yX5_has, cX5_has, 3, (some .boolean))) tX5_has := (raA_br (raA_br (raA_br (raA_br (raA_leaf sX5_has_0) (raA_leaf sX5_has_1)) (raA_br (raA_leaf sX5_has_4) (raA_leaf sX5_has_5))) (raA_br (raA_br (raA_leaf sX5_has_6) (raA_leaf sX5_has_9)) (raA_br (raA_leaf sX5_has_12) (raA_leaf sX5_has_13)))) (raA_br (raA_br (raA_br (raA_leaf sX5_has_16) (raA_leaf sX5_has_17)) (raA_br (raA_leaf sX5_has_18) (raA_leaf sX5_has_21))) (raA_br (raA_br (raA_leaf sX5_has_24) (raA_leaf sX5_has_25)) (raA_br (raA_leaf sX5_has_28) (raA_leaf sX5_has_29)))))
theorem sX6_addFrom_0 {h0 : Hp_} : Snd 0 108 h0 (miT TbC) RX6 cX6_addFrom 5 none 0 (i_const 1 (vI 0)) := snd_iconst dX6_addFrom_0
theorem sX6_addFrom_1 {h0 : Hp_} : Snd 0 108 h0 (miT TbC) RX6 cX6_addFrom 5 none 1 (i_istore 3 4) := snd_istore (by decide) dX6_addFrom_1
theorem sX6_addFrom_3 {h0 : Hp_} : Snd 0 108 h0 (miT TbC) RX6 cX6_addFrom 5 none 3 (i_iload 5 4) := snd_iload dX6_addFrom_3
theorem sX6_addFrom_5 {h0 : Hp_} : Snd 0 108 h0 (miT TbC) RX6 cX6_addFrom 5 none 5 (i_iload 6 3) := snd_iload_n rfl dX6_addFrom_5
theorem sX6_addFrom_6 {h0 : Hp_} : Snd 0 108 h0 (miT TbC) RX6 cX6_addFrom 5 none 6 (i_icmp_ge 9 52) := snd_icmp_ge dX6_addFrom_6 rfl
theorem sX6_addFrom_9 {h0 : Hp_} : Snd 0 108 h0 (miT TbC) RX6 cX6_addFrom 5 none 9 (i_aload 10 0) := snd_aload_n rfl dX6_addFrom_9
theorem sX6_addFrom_10 {h0 : Hp_} : Snd 0 108 h0 (miT TbC) RX6 cX6_addFrom 5 none 10 (i_getI 6 2 13) := snd_getI hl0 (fun hK ho hs hv kk => gf_X6_22 hK ho hs hv dX6_addFrom_10 kk)
theorem sX6_addFrom_13 {h0 : Hp_} : Snd 0 108 h0 (miT TbC) RX6 cX6_addFrom 5 none 13 (i_const 16 (vI 1024)) := snd_sipush (by decide) dX6_addFrom_13
theorem sX6_addFrom_16 {h0 : Hp_} : Snd 0 108 h0 (miT TbC) RX6 cX6_addFrom 5 none 16 (i_icmp_ge 19 52) := snd_icmp_ge dX6_addFrom_16 rfl
theorem sX6_addFrom_19 {h0 : Hp_} : Snd 0 108 h0 (miT TbC) RX6 cX6_addFrom 5 none 19 (i_aload 20 0) := snd_aload_n rfl dX6_addFrom_19
theorem sX6_addFrom_20 {h0 : Hp_} : Snd 0 108 h0 (miT TbC) RX6 cX6_addFrom 5 none 20 (i_getR 6 1 23) := snd_getR rfl (by decide) (by decide) (by decide) (fun hK ho hs hq kk => gf_X6_18 hK ho hs hq rfl dX6_addFrom_20 kk)
theorem sX6_addFrom_23 {h0 : Hp_} : Snd 0 108 h0 (miT TbC) RX6 cX6_addFrom 5 none 23 (i_aload 24 0) := snd_aload_n rfl dX6_addFrom_23
theorem sX6_addFrom_24 {h0 : Hp_} : Snd 0 108 h0 (miT TbC) RX6 cX6_addFrom 5 none 24 (i_getI 6 2 27) := snd_getI hl0 (fun hK ho hs hv kk => gf_X6_22 hK ho hs hv dX6_addFrom_24 kk)
theorem sX6_addFrom_27 {h0 : Hp_} : Snd 0 108 h0 (miT TbC) RX6 cX6_addFrom 5 none 27 (i_aload 28 1) := snd_aload_n rfl dX6_addFrom_27
theorem sX6_addFrom_28 {h0 : Hp_} : Snd 0 108 h0 (miT TbC) RX6 cX6_addFrom 5 none 28 (i_iload 29 2) := snd_iload_n rfl dX6_addFrom_28
theorem sX6_addFrom_29 {h0 : Hp_} : Snd 0 108 h0 (miT TbC) RX6 cX6_addFrom 5 none 29 (i_iload 31 4) := snd_iload dX6_addFrom_29
theorem sX6_addFrom_31 {h0 : Hp_} : Snd 0 108 h0 (miT TbC) RX6 cX6_addFrom 5 none 31 (i_iadd 32) := snd_iadd dX6_addFrom_31
theorem sX6_addFrom_32 {h0 : Hp_} : Snd 0 108 h0 (miT TbC) RX6 cX6_addFrom 5 none 32 (i_cV1 22 1 35) := snd_cV1 (fun hK hd hC ho hs h6 h7 h8 kk => iv_X6_26 hK (mcC_22 hC) ho hs ⟨hd, by show _ ≤ 40 * (_ + 1); omega⟩ (Nat.le_refl _) h6 h7 h8 ⟨Nat.le_refl _, Nat.le_refl _⟩ dX6_addFrom_32 kk)
theorem sX6_addFrom_35 {h0 : Hp_} : Snd 0 108 h0 (miT TbC) RX6 cX6_addFrom 5 none 35 (i_iast 0 108 36) := snd_iast dX6_addFrom_35
theorem sX6_addFrom_36 {h0 : Hp_} : Snd 0 108 h0 (miT TbC) RX6 cX6_addFrom 5 none 36 (i_aload 37 0) := snd_aload_n rfl dX6_addFrom_36
theorem sX6_addFrom_37 {h0 : Hp_} : Snd 0 108 h0 (miT TbC) RX6 cX6_addFrom 5 none 37 (i_dup 38) := snd_dup dX6_addFrom_37
theorem sX6_addFrom_38 {h0 : Hp_} : Snd 0 108 h0 (miT TbC) RX6 cX6_addFrom 5 none 38 (i_getI 6 2 41) := snd_getI hl0 (fun hK ho hs hv kk => gf_X6_22 hK ho hs hv dX6_addFrom_38 kk)
theorem sX6_addFrom_41 {h0 : Hp_} : Snd 0 108 h0 (miT TbC) RX6 cX6_addFrom 5 none 41 (i_const 42 (vI 1)) := snd_iconst dX6_addFrom_41
theorem sX6_addFrom_42 {h0 : Hp_} : Snd 0 108 h0 (miT TbC) RX6 cX6_addFrom 5 none 42 (i_iadd 43) := snd_iadd dX6_addFrom_42
theorem sX6_addFrom_43 {h0 : Hp_} : Snd 0 108 h0 (miT TbC) RX6 cX6_addFrom 5 none 43 (i_putI 6 2 46) := snd_putI hl0 (fun hK ho hs kk => pf_X6_22 hK ho hs dX6_addFrom_43 kk)
theorem sX6_addFrom_46 {h0 : Hp_} : Snd 0 108 h0 (miT TbC) RX6 cX6_addFrom 5 none 46 (i_iinc 49 4 1) := snd_iinc (by decide) dX6_addFrom_46
theorem sX6_addFrom_49 {h0 : Hp_} : Snd 0 108 h0 (miT TbC) RX6 cX6_addFrom 5 none 49 (i_goto 3) := snd_goto dX6_addFrom_49 rfl
theorem sX6_addFrom_52 {h0 : Hp_} : Snd 0 108 h0 (miT TbC) RX6 cX6_addFrom 5 none 52 (i_vret) := snd_vret dX6_addFrom_52
theorem kX6_addFrom {h0 : Hp_} : raA (okI 0 108 h0 (miT TbC) (yX6_addFrom, cX6_addFrom, 5, none)) tX6_addFrom := (raA_br (raA_br (raA_br (raA_br (raA_leaf sX6_addFrom_0) (raA_br (raA_leaf sX6_addFrom_1) (raA_leaf sX6_addFrom_3))) (raA_br (raA_br (raA_leaf sX6_addFrom_5) (raA_leaf sX6_addFrom_6)) (raA_br (raA_leaf sX6_addFrom_9) (raA_leaf sX6_addFrom_10)))) (raA_br (raA_br (raA_leaf sX6_addFrom_13) (raA_br (raA_leaf sX6_addFrom_16) (raA_leaf sX6_addFrom_19))) (raA_br (raA_br (raA_leaf sX6_addFrom_20) (raA_leaf sX6_addFrom_23)) (raA_br (raA_leaf sX6_addFrom_24) (raA_leaf sX6_addFrom_27))))) (raA_br (raA_br (raA_br (raA_leaf sX6_addFrom_28) (raA_br (raA_leaf sX6_addFrom_29) (raA_leaf sX6_addFrom_31))) (raA_br (raA_br (raA_leaf sX6_addFrom_32) (raA_leaf sX6_addFrom_35)) (raA_br (raA_leaf sX6_addFrom_36) (raA_leaf sX6_addFrom_37)))) (raA_br (raA_br (raA_leaf sX6_addFrom_38) (raA_br (raA_leaf sX6_addFrom_41) (raA_leaf sX6_addFrom_42))) (raA_br (raA_br (raA_leaf sX6_addFrom_43) (raA_leaf sX6_addFrom_46)) (raA_br (raA_leaf sX6_addFrom_49) (raA_leaf sX6_addFrom_52))))))
theorem sX6_begin_0 {h0 : Hp_} : Snd 0 108 h0 (miT TbC) RX6 cX6_begin 2 none 0 (i_aload 1 0) := snd_aload_n rfl dX6_begin_0
theorem sX6_begin_1 {h0 : Hp_} : Snd 0 108 h0 (miT TbC) RX6 cX6_begin 2 none 1 (i_getR 6 0 4) := snd_getR rfl (by decide) (by decide) (by decide) (fun hK ho hs hq kk => gf_X6_12 hK ho hs hq rfl dX6_begin_1 kk)
theorem sX6_begin_4 {h0 : Hp_} : Snd 0 108 h0 (miT TbC) RX6 cX6_begin 2 none 4 (i_cV0 29 2 7) := snd_cV0 (fun hK hd hC ho hs h6 h7 h8 kk => iv_X6_32 hK (mcC_29 hC) ho hs ⟨hd, by show _ ≤ 40 * (_ + 1); omega⟩ (Nat.le_refl _) h6 h7 h8 ⟨Nat.le_refl _, Nat.le_refl _⟩ dX6_begin_4 kk)
theorem sX6_begin_7 {h0 : Hp_} : Snd 0 108 h0 (miT TbC) RX6 cX6_begin 2 none 7 (i_aload 8 0) := snd_aload_n rfl dX6_begin_7
theorem sX6_begin_8 {h0 : Hp_} : Snd 0 108 h0 (miT TbC) RX6 cX6_begin 2 none 8 (i_iload 9 1) := snd_iload_n rfl dX6_begin_8
theorem sX6_begin_9 {h0 : Hp_} : Snd 0 108 h0 (miT TbC) RX6 cX6_begin 2 none 9 (i_aload 10 0) := snd_aload_n rfl dX6_begin_9
theorem sX6_begin_10 {h0 : Hp_} : Snd 0 108 h0 (miT TbC) RX6 cX6_begin 2 none 10 (i_getI 6 2 13) := snd_getI hl0 (fun hK ho hs hv kk => gf_X6_22 hK ho hs hv dX6_begin_10 kk)
theorem sX6_begin_13 {h0 : Hp_} : Snd 0 108 h0 (miT TbC) RX6 cX6_begin 2 none 13 (i_mmin 16) := snd_mmin iw_X6_35 dX6_begin_13
theorem sX6_begin_16 {h0 : Hp_} : Snd 0 108 h0 (miT TbC) RX6 cX6_begin 2 none 16 (i_putI 6 3 19) := snd_putI hl0 (fun hK ho hs kk => pf_X6_41 hK ho hs dX6_begin_16 kk)
theorem sX6_begin_19 {h0 : Hp_} : Snd 0 108 h0 (miT TbC) RX6 cX6_begin 2 none 19 (i_aload 20 0) := snd_aload_n rfl dX6_begin_19
theorem sX6_begin_20 {h0 : Hp_} : Snd 0 108 h0 (miT TbC) RX6 cX6_begin 2 none 20 (i_const 21 (vI 0)) := snd_iconst dX6_begin_20
theorem sX6_begin_21 {h0 : Hp_} : Snd 0 108 h0 (miT TbC) RX6 cX6_begin 2 none 21 (i_putI 6 4 24) := snd_putI hl0 (fun hK ho hs kk => pf_X6_44 hK ho hs dX6_begin_21 kk)
theorem sX6_begin_24 {h0 : Hp_} : Snd 0 108 h0 (miT TbC) RX6 cX6_begin 2 none 24 (i_aload 25 0) := snd_aload_n rfl dX6_begin_24
theorem sX6_begin_25 {h0 : Hp_} : Snd 0 108 h0 (miT TbC) RX6 cX6_begin 2 none 25 (i_aload 26 0) := snd_aload_n rfl dX6_begin_25
theorem sX6_begin_26 {h0 : Hp_} : Snd 0 108 h0 (miT TbC) RX6 cX6_begin 2 none 26 (i_getI 6 3 29) := snd_getI hl0 (fun hK ho hs hv kk => gf_X6_41 hK ho hs hv dX6_begin_26 kk)
theorem sX6_begin_29 {h0 : Hp_} : Snd 0 108 h0 (miT TbC) RX6 cX6_begin 2 none 29 (i_if_le 32 41) := snd_if_le dX6_begin_29 rfl
theorem sX6_begin_32 {h0 : Hp_} : Snd 0 108 h0 (miT TbC) RX6 cX6_begin 2 none 32 (i_aload 33 0) := snd_aload_n rfl dX6_begin_32
theorem sX6_begin_33 {h0 : Hp_} : Snd 0 108 h0 (miT TbC) RX6 cX6_begin 2 none 33 (i_getR 6 1 36) := snd_getR rfl (by decide) (by decide) (by decide) (fun hK ho hs hq kk => gf_X6_18 hK ho hs hq rfl dX6_begin_33 kk)
theorem sX6_begin_36 {h0 : Hp_} : Snd 0 108 h0 (miT TbC) RX6 cX6_begin 2 none 36 (i_const 37 (vI 0)) := snd_iconst dX6_begin_36
theorem sX6_begin_37 {h0 : Hp_} : Snd 0 108 h0 (miT TbC) RX6 cX6_begin 2 none 37 (i_iald 0 108 38) := snd_iald dX6_begin_37
theorem sX6_begin_38 {h0 : Hp_} : Snd 0 108 h0 (miT TbC) RX6 cX6_begin 2 none 38 (i_goto 44) := snd_goto dX6_begin_38 rfl
theorem sX6_begin_41 {h0 : Hp_} : Snd 0 108 h0 (miT TbC) RX6 cX6_begin 2 none 41 (i_const 44 (vI 255)) := snd_sipush (by decide) dX6_begin_41
theorem sX6_begin_44 {h0 : Hp_} : Snd 0 108 h0 (miT TbC) RX6 cX6_begin 2 none 44 (i_i2l 45) := snd_i2l dX6_begin_44
theorem sX6_begin_45 {h0 : Hp_} : Snd 0 108 h0 (miT TbC) RX6 cX6_begin 2 none 45 (i_const 48 (vJ 65536)) := snd_ldc2 lc_X6_47 dX6_begin_45
theorem sX6_begin_48 {h0 : Hp_} : Snd 0 108 h0 (miT TbC) RX6 cX6_begin 2 none 48 (i_lmul 49) := snd_lmul dX6_begin_48
theorem sX6_begin_49 {h0 : Hp_} : Snd 0 108 h0 (miT TbC) RX6 cX6_begin 2 none 49 (i_putJ 6 7 52) := snd_putJ hl0 (fun hK ho hs kk => pf_X6_49 hK ho hs dX6_begin_49 kk)
theorem sX6_begin_52 {h0 : Hp_} : Snd 0 108 h0 (miT TbC) RX6 cX6_begin 2 none 52 (i_aload 53 0) := snd_aload_n rfl dX6_begin_52
theorem sX6_begin_53 {h0 : Hp_} : Snd 0 108 h0 (miT TbC) RX6 cX6_begin 2 none 53 (i_cV0 64 6 56) := snd_cV0 (fun hK hd hC ho hs h6 h7 h8 kk => iv_X6_53 hK (mcC_64 hC) ho hs ⟨hd, by show _ ≤ 40 * (_ + 1); omega⟩ (Nat.le_refl _) h6 h7 h8 ⟨Nat.le_refl _, Nat.le_refl _⟩ dX6_begin_53 kk)
theorem sX6_begin_56 {h0 : Hp_} : Snd 0 108 h0 (miT TbC) RX6 cX6_begin 2 none 56 (i_aload 57 0) := snd_aload_n rfl dX6_begin_56
theorem sX6_begin_57 {h0 : Hp_} : Snd 0 108 h0 (miT TbC) RX6 cX6_begin 2 none 57 (i_dup 58) := snd_dup dX6_begin_57
theorem sX6_begin_58 {h0 : Hp_} : Snd 0 108 h0 (miT TbC) RX6 cX6_begin 2 none 58 (i_getJ 6 7 61) := snd_getJ hl0 (fun hK ho hs hv kk => gf_X6_49 hK ho hs hv dX6_begin_58 kk)
theorem sX6_begin_61 {h0 : Hp_} : Snd 0 108 h0 (miT TbC) RX6 cX6_begin 2 none 61 (i_const 63 (vI 7)) := snd_bipush (by decide) dX6_begin_61
theorem sX6_begin_63 {h0 : Hp_} : Snd 0 108 h0 (miT TbC) RX6 cX6_begin 2 none 63 (i_lshl 64) := snd_lshl dX6_begin_63
theorem sX6_begin_64 {h0 : Hp_} : Snd 0 108 h0 (miT TbC) RX6 cX6_begin 2 none 64 (i_putJ 6 7 67) := snd_putJ hl0 (fun hK ho hs kk => pf_X6_49 hK ho hs dX6_begin_64 kk)
theorem sX6_begin_67 {h0 : Hp_} : Snd 0 108 h0 (miT TbC) RX6 cX6_begin 2 none 67 (i_aload 68 0) := snd_aload_n rfl dX6_begin_67
theorem sX6_begin_68 {h0 : Hp_} : Snd 0 108 h0 (miT TbC) RX6 cX6_begin 2 none 68 (i_dup 69) := snd_dup dX6_begin_68
theorem sX6_begin_69 {h0 : Hp_} : Snd 0 108 h0 (miT TbC) RX6 cX6_begin 2 none 69 (i_getI 6 6 72) := snd_getI hl0 (fun hK ho hs hv kk => gf_X6_56 hK ho hs hv dX6_begin_69 kk)
theorem sX6_begin_72 {h0 : Hp_} : Snd 0 108 h0 (miT TbC) RX6 cX6_begin 2 none 72 (i_const 74 (vI 7)) := snd_bipush (by decide) dX6_begin_72
theorem sX6_begin_74 {h0 : Hp_} : Snd 0 108 h0 (miT TbC) RX6 cX6_begin 2 none 74 (i_isub 75) := snd_isub dX6_begin_74
theorem sX6_begin_75 {h0 : Hp_} : Snd 0 108 h0 (miT TbC) RX6 cX6_begin 2 none 75 (i_putI 6 6 78) := snd_putI hl0 (fun hK ho hs kk => pf_X6_56 hK ho hs dX6_begin_75 kk)
theorem sX6_begin_78 {h0 : Hp_} : Snd 0 108 h0 (miT TbC) RX6 cX6_begin 2 none 78 (i_aload 79 0) := snd_aload_n rfl dX6_begin_78
theorem sX6_begin_79 {h0 : Hp_} : Snd 0 108 h0 (miT TbC) RX6 cX6_begin 2 none 79 (i_const 81 (vI 32768)) := snd_ldc lc_X6_59 dX6_begin_79
theorem sX6_begin_81 {h0 : Hp_} : Snd 0 108 h0 (miT TbC) RX6 cX6_begin 2 none 81 (i_putI 6 5 84) := snd_putI hl0 (fun hK ho hs kk => pf_X6_60 hK ho hs dX6_begin_81 kk)
theorem sX6_begin_84 {h0 : Hp_} : Snd 0 108 h0 (miT TbC) RX6 cX6_begin 2 none 84 (i_vret) := snd_vret dX6_begin_84
theorem kX6_begin {h0 : Hp_} : raA (okI 0 108 h0 (miT TbC) (yX6_begin, cX6_begin, 2, none)) tX6_begin := (raA_br (raA_br (raA_br (raA_br (raA_br (raA_leaf sX6_begin_0) (raA_leaf sX6_begin_1)) (raA_br (raA_leaf sX6_begin_4) (raA_br (raA_leaf sX6_begin_7) (raA_leaf sX6_begin_8)))) (raA_br (raA_br (raA_leaf sX6_begin_9) (raA_br (raA_leaf sX6_begin_10) (raA_leaf sX6_begin_13))) (raA_br (raA_leaf sX6_begin_16) (raA_br (raA_leaf sX6_begin_19) (raA_leaf sX6_begin_20))))) (raA_br (raA_br (raA_br (raA_leaf sX6_begin_21) (raA_leaf sX6_begin_24)) (raA_br (raA_leaf sX6_begin_25) (raA_br (raA_leaf sX6_begin_26) (raA_leaf sX6_begin_29)))) (raA_br (raA_br (raA_leaf sX6_begin_32) (raA_br (raA_leaf sX6_begin_33) (raA_leaf sX6_begin_36))) (raA_br (raA_leaf sX6_begin_37) (raA_br (raA_leaf sX6_begin_38) (raA_leaf sX6_begin_41)))))) (raA_br (raA_br (raA_br (raA_br (raA_leaf sX6_begin_44) (raA_leaf sX6_begin_45)) (raA_br (raA_leaf sX6_begin_48) (raA_br (raA_leaf sX6_begin_49) (raA_leaf sX6_begin_52)))) (raA_br (raA_br (raA_leaf sX6_begin_53) (raA_br (raA_leaf sX6_begin_56) (raA_leaf sX6_begin_57))) (raA_br (raA_leaf sX6_begin_58) (raA_br (raA_leaf sX6_begin_61) (raA_leaf sX6_begin_63))))) (raA_br (raA_br (raA_br (raA_leaf sX6_begin_64) (raA_leaf sX6_begin_67)) (raA_br (raA_leaf sX6_begin_68) (raA_br (raA_leaf sX6_begin_69) (raA_leaf sX6_begin_72)))) (raA_br (raA_br (raA_leaf sX6_begin_74) (raA_br (raA_leaf sX6_begin_75) (raA_leaf sX6_begin_78))) (raA_br (raA_leaf sX6_begin_79) (raA_br (raA_leaf sX6_begin_81) (raA_leaf sX6_begin_84)))))))
theorem sX6_clear_0 {h0 : Hp_} : Snd 0 108 h0 (miT TbC) RX6 cX6_clear 1 none 0 (i_aload 1 0) := snd_aload_n rfl dX6_clear_0
theorem sX6_clear_1 {h0 : Hp_} : Snd 0 108 h0 (miT TbC) RX6 cX6_clear 1 none 1 (i_const 2 (vI 0)) := snd_iconst dX6_clear_1
theorem sX6_clear_2 {h0 : Hp_} : Snd 0 108 h0 (miT TbC) RX6 cX6_clear 1 none 2 (i_putI 6 2 5) := snd_putI hl0 (fun hK ho hs kk => pf_X6_22 hK ho hs dX6_clear_2 kk)
theorem sX6_clear_5 {h0 : Hp_} : Snd 0 108 h0 (miT TbC) RX6 cX6_clear 1 none 5 (i_vret) := snd_vret dX6_clear_5
theorem kX6_clear {h0 : Hp_} : raA (okI 0 108 h0 (miT TbC) (yX6_clear, cX6_clear, 1, none)) tX6_clear := (raA_br (raA_br (raA_leaf sX6_clear_0) (raA_leaf sX6_clear_1)) (raA_br (raA_leaf sX6_clear_2) (raA_leaf sX6_clear_5)))
theorem sX6_comeIn_0 {h0 : Hp_} : Snd 0 108 h0 (miT TbC) RX6 cX6_comeIn 3 none 0 (i_aload 1 0) := snd_aload_n rfl dX6_comeIn_0
theorem sX6_comeIn_1 {h0 : Hp_} : Snd 0 108 h0 (miT TbC) RX6 cX6_comeIn 3 none 1 (i_getI 6 4 4) := snd_getI hl0 (fun hK ho hs hv kk => gf_X6_44 hK ho hs hv dX6_comeIn_1 kk)
theorem sX6_comeIn_4 {h0 : Hp_} : Snd 0 108 h0 (miT TbC) RX6 cX6_comeIn 3 none 4 (i_aload 5 0) := snd_aload_n rfl dX6_comeIn_4
theorem sX6_comeIn_5 {h0 : Hp_} : Snd 0 108 h0 (miT TbC) RX6 cX6_comeIn 3 none 5 (i_getI 6 3 8) := snd_getI hl0 (fun hK ho hs hv kk => gf_X6_41 hK ho hs hv dX6_comeIn_5 kk)
theorem sX6_comeIn_8 {h0 : Hp_} : Snd 0 108 h0 (miT TbC) RX6 cX6_comeIn 3 none 8 (i_icmp_ge 11 23) := snd_icmp_ge dX6_comeIn_8 rfl
theorem sX6_comeIn_11 {h0 : Hp_} : Snd 0 108 h0 (miT TbC) RX6 cX6_comeIn 3 none 11 (i_aload 12 0) := snd_aload_n rfl dX6_comeIn_11
theorem sX6_comeIn_12 {h0 : Hp_} : Snd 0 108 h0 (miT TbC) RX6 cX6_comeIn 3 none 12 (i_getR 6 1 15) := snd_getR rfl (by decide) (by decide) (by decide) (fun hK ho hs hq kk => gf_X6_18 hK ho hs hq rfl dX6_comeIn_12 kk)
theorem sX6_comeIn_15 {h0 : Hp_} : Snd 0 108 h0 (miT TbC) RX6 cX6_comeIn 3 none 15 (i_aload 16 0) := snd_aload_n rfl dX6_comeIn_15
theorem sX6_comeIn_16 {h0 : Hp_} : Snd 0 108 h0 (miT TbC) RX6 cX6_comeIn 3 none 16 (i_getI 6 4 19) := snd_getI hl0 (fun hK ho hs hv kk => gf_X6_44 hK ho hs hv dX6_comeIn_16 kk)
theorem sX6_comeIn_19 {h0 : Hp_} : Snd 0 108 h0 (miT TbC) RX6 cX6_comeIn 3 none 19 (i_iald 0 108 20) := snd_iald dX6_comeIn_19
theorem sX6_comeIn_20 {h0 : Hp_} : Snd 0 108 h0 (miT TbC) RX6 cX6_comeIn 3 none 20 (i_goto 26) := snd_goto dX6_comeIn_20 rfl
theorem sX6_comeIn_23 {h0 : Hp_} : Snd 0 108 h0 (miT TbC) RX6 cX6_comeIn 3 none 23 (i_const 26 (vI 255)) := snd_sipush (by decide) dX6_comeIn_23
theorem sX6_comeIn_26 {h0 : Hp_} : Snd 0 108 h0 (miT TbC) RX6 cX6_comeIn 3 none 26 (i_istore 27 1) := snd_istore_n rfl (by decide) dX6_comeIn_26
theorem sX6_comeIn_27 {h0 : Hp_} : Snd 0 108 h0 (miT TbC) RX6 cX6_comeIn 3 none 27 (i_aload 28 0) := snd_aload_n rfl dX6_comeIn_27
theorem sX6_comeIn_28 {h0 : Hp_} : Snd 0 108 h0 (miT TbC) RX6 cX6_comeIn 3 none 28 (i_getI 6 4 31) := snd_getI hl0 (fun hK ho hs hv kk => gf_X6_44 hK ho hs hv dX6_comeIn_28 kk)
theorem sX6_comeIn_31 {h0 : Hp_} : Snd 0 108 h0 (miT TbC) RX6 cX6_comeIn 3 none 31 (i_const 32 (vI 1)) := snd_iconst dX6_comeIn_31
theorem sX6_comeIn_32 {h0 : Hp_} : Snd 0 108 h0 (miT TbC) RX6 cX6_comeIn 3 none 32 (i_iadd 33) := snd_iadd dX6_comeIn_32
theorem sX6_comeIn_33 {h0 : Hp_} : Snd 0 108 h0 (miT TbC) RX6 cX6_comeIn 3 none 33 (i_aload 34 0) := snd_aload_n rfl dX6_comeIn_33
theorem sX6_comeIn_34 {h0 : Hp_} : Snd 0 108 h0 (miT TbC) RX6 cX6_comeIn 3 none 34 (i_getI 6 3 37) := snd_getI hl0 (fun hK ho hs hv kk => gf_X6_41 hK ho hs hv dX6_comeIn_34 kk)
theorem sX6_comeIn_37 {h0 : Hp_} : Snd 0 108 h0 (miT TbC) RX6 cX6_comeIn 3 none 37 (i_icmp_ge 40 54) := snd_icmp_ge dX6_comeIn_37 rfl
theorem sX6_comeIn_40 {h0 : Hp_} : Snd 0 108 h0 (miT TbC) RX6 cX6_comeIn 3 none 40 (i_aload 41 0) := snd_aload_n rfl dX6_comeIn_40
theorem sX6_comeIn_41 {h0 : Hp_} : Snd 0 108 h0 (miT TbC) RX6 cX6_comeIn 3 none 41 (i_getR 6 1 44) := snd_getR rfl (by decide) (by decide) (by decide) (fun hK ho hs hq kk => gf_X6_18 hK ho hs hq rfl dX6_comeIn_41 kk)
theorem sX6_comeIn_44 {h0 : Hp_} : Snd 0 108 h0 (miT TbC) RX6 cX6_comeIn 3 none 44 (i_aload 45 0) := snd_aload_n rfl dX6_comeIn_44
theorem sX6_comeIn_45 {h0 : Hp_} : Snd 0 108 h0 (miT TbC) RX6 cX6_comeIn 3 none 45 (i_getI 6 4 48) := snd_getI hl0 (fun hK ho hs hv kk => gf_X6_44 hK ho hs hv dX6_comeIn_45 kk)
theorem sX6_comeIn_48 {h0 : Hp_} : Snd 0 108 h0 (miT TbC) RX6 cX6_comeIn 3 none 48 (i_const 49 (vI 1)) := snd_iconst dX6_comeIn_48
theorem sX6_comeIn_49 {h0 : Hp_} : Snd 0 108 h0 (miT TbC) RX6 cX6_comeIn 3 none 49 (i_iadd 50) := snd_iadd dX6_comeIn_49
theorem sX6_comeIn_50 {h0 : Hp_} : Snd 0 108 h0 (miT TbC) RX6 cX6_comeIn 3 none 50 (i_iald 0 108 51) := snd_iald dX6_comeIn_50
theorem sX6_comeIn_51 {h0 : Hp_} : Snd 0 108 h0 (miT TbC) RX6 cX6_comeIn 3 none 51 (i_goto 57) := snd_goto dX6_comeIn_51 rfl
theorem sX6_comeIn_54 {h0 : Hp_} : Snd 0 108 h0 (miT TbC) RX6 cX6_comeIn 3 none 54 (i_const 57 (vI 255)) := snd_sipush (by decide) dX6_comeIn_54
theorem sX6_comeIn_57 {h0 : Hp_} : Snd 0 108 h0 (miT TbC) RX6 cX6_comeIn 3 none 57 (i_istore 58 2) := snd_istore_n rfl (by decide) dX6_comeIn_57
theorem sX6_comeIn_58 {h0 : Hp_} : Snd 0 108 h0 (miT TbC) RX6 cX6_comeIn 3 none 58 (i_iload 59 1) := snd_iload_n rfl dX6_comeIn_58
theorem sX6_comeIn_59 {h0 : Hp_} : Snd 0 108 h0 (miT TbC) RX6 cX6_comeIn 3 none 59 (i_const 62 (vI 255)) := snd_sipush (by decide) dX6_comeIn_59
theorem sX6_comeIn_62 {h0 : Hp_} : Snd 0 108 h0 (miT TbC) RX6 cX6_comeIn 3 none 62 (i_icmp_ne 65 91) := snd_icmp_ne dX6_comeIn_62 rfl
theorem sX6_comeIn_65 {h0 : Hp_} : Snd 0 108 h0 (miT TbC) RX6 cX6_comeIn 3 none 65 (i_iload 66 2) := snd_iload_n rfl dX6_comeIn_65
theorem sX6_comeIn_66 {h0 : Hp_} : Snd 0 108 h0 (miT TbC) RX6 cX6_comeIn 3 none 66 (i_const 69 (vI 143)) := snd_sipush (by decide) dX6_comeIn_66
theorem sX6_comeIn_69 {h0 : Hp_} : Snd 0 108 h0 (miT TbC) RX6 cX6_comeIn 3 none 69 (i_icmp_le 72 91) := snd_icmp_le dX6_comeIn_69 rfl
theorem sX6_comeIn_72 {h0 : Hp_} : Snd 0 108 h0 (miT TbC) RX6 cX6_comeIn 3 none 72 (i_aload 73 0) := snd_aload_n rfl dX6_comeIn_72
theorem sX6_comeIn_73 {h0 : Hp_} : Snd 0 108 h0 (miT TbC) RX6 cX6_comeIn 3 none 73 (i_dup 74) := snd_dup dX6_comeIn_73
theorem sX6_comeIn_74 {h0 : Hp_} : Snd 0 108 h0 (miT TbC) RX6 cX6_comeIn 3 none 74 (i_getJ 6 7 77) := snd_getJ hl0 (fun hK ho hs hv kk => gf_X6_49 hK ho hs hv dX6_comeIn_74 kk)
theorem sX6_comeIn_77 {h0 : Hp_} : Snd 0 108 h0 (miT TbC) RX6 cX6_comeIn 3 none 77 (i_const 80 (vJ 65280)) := snd_ldc2 lc_X6_63 dX6_comeIn_77
theorem sX6_comeIn_80 {h0 : Hp_} : Snd 0 108 h0 (miT TbC) RX6 cX6_comeIn 3 none 80 (i_ladd 81) := snd_ladd dX6_comeIn_80
theorem sX6_comeIn_81 {h0 : Hp_} : Snd 0 108 h0 (miT TbC) RX6 cX6_comeIn 3 none 81 (i_putJ 6 7 84) := snd_putJ hl0 (fun hK ho hs kk => pf_X6_49 hK ho hs dX6_comeIn_81 kk)
theorem sX6_comeIn_84 {h0 : Hp_} : Snd 0 108 h0 (miT TbC) RX6 cX6_comeIn 3 none 84 (i_aload 85 0) := snd_aload_n rfl dX6_comeIn_84
theorem sX6_comeIn_85 {h0 : Hp_} : Snd 0 108 h0 (miT TbC) RX6 cX6_comeIn 3 none 85 (i_const 87 (vI 8)) := snd_bipush (by decide) dX6_comeIn_85
theorem sX6_comeIn_87 {h0 : Hp_} : Snd 0 108 h0 (miT TbC) RX6 cX6_comeIn 3 none 87 (i_putI 6 6 90) := snd_putI hl0 (fun hK ho hs kk => pf_X6_56 hK ho hs dX6_comeIn_87 kk)
theorem sX6_comeIn_90 {h0 : Hp_} : Snd 0 108 h0 (miT TbC) RX6 cX6_comeIn 3 none 90 (i_vret) := snd_vret dX6_comeIn_90
theorem sX6_comeIn_91 {h0 : Hp_} : Snd 0 108 h0 (miT TbC) RX6 cX6_comeIn 3 none 91 (i_aload 92 0) := snd_aload_n rfl dX6_comeIn_91
theorem sX6_comeIn_92 {h0 : Hp_} : Snd 0 108 h0 (miT TbC) RX6 cX6_comeIn 3 none 92 (i_dup 93) := snd_dup dX6_comeIn_92
theorem sX6_comeIn_93 {h0 : Hp_} : Snd 0 108 h0 (miT TbC) RX6 cX6_comeIn 3 none 93 (i_getI 6 4 96) := snd_getI hl0 (fun hK ho hs hv kk => gf_X6_44 hK ho hs hv dX6_comeIn_93 kk)
theorem sX6_comeIn_96 {h0 : Hp_} : Snd 0 108 h0 (miT TbC) RX6 cX6_comeIn 3 none 96 (i_const 97 (vI 1)) := snd_iconst dX6_comeIn_96
theorem sX6_comeIn_97 {h0 : Hp_} : Snd 0 108 h0 (miT TbC) RX6 cX6_comeIn 3 none 97 (i_iadd 98) := snd_iadd dX6_comeIn_97
theorem sX6_comeIn_98 {h0 : Hp_} : Snd 0 108 h0 (miT TbC) RX6 cX6_comeIn 3 none 98 (i_putI 6 4 101) := snd_putI hl0 (fun hK ho hs kk => pf_X6_44 hK ho hs dX6_comeIn_98 kk)
theorem sX6_comeIn_101 {h0 : Hp_} : Snd 0 108 h0 (miT TbC) RX6 cX6_comeIn 3 none 101 (i_aload 102 0) := snd_aload_n rfl dX6_comeIn_101
theorem sX6_comeIn_102 {h0 : Hp_} : Snd 0 108 h0 (miT TbC) RX6 cX6_comeIn 3 none 102 (i_dup 103) := snd_dup dX6_comeIn_102
theorem sX6_comeIn_103 {h0 : Hp_} : Snd 0 108 h0 (miT TbC) RX6 cX6_comeIn 3 none 103 (i_getJ 6 7 106) := snd_getJ hl0 (fun hK ho hs hv kk => gf_X6_49 hK ho hs hv dX6_comeIn_103 kk)
theorem sX6_comeIn_106 {h0 : Hp_} : Snd 0 108 h0 (miT TbC) RX6 cX6_comeIn 3 none 106 (i_iload 107 2) := snd_iload_n rfl dX6_comeIn_106
theorem sX6_comeIn_107 {h0 : Hp_} : Snd 0 108 h0 (miT TbC) RX6 cX6_comeIn 3 none 107 (i_iload 108 1) := snd_iload_n rfl dX6_comeIn_107
theorem sX6_comeIn_108 {h0 : Hp_} : Snd 0 108 h0 (miT TbC) RX6 cX6_comeIn 3 none 108 (i_const 111 (vI 255)) := snd_sipush (by decide) dX6_comeIn_108
theorem sX6_comeIn_111 {h0 : Hp_} : Snd 0 108 h0 (miT TbC) RX6 cX6_comeIn 3 none 111 (i_icmp_ne 114 120) := snd_icmp_ne dX6_comeIn_111 rfl
theorem sX6_comeIn_114 {h0 : Hp_} : Snd 0 108 h0 (miT TbC) RX6 cX6_comeIn 3 none 114 (i_const 117 (vI 512)) := snd_sipush (by decide) dX6_comeIn_114
theorem sX6_comeIn_117 {h0 : Hp_} : Snd 0 108 h0 (miT TbC) RX6 cX6_comeIn 3 none 117 (i_goto 123) := snd_goto dX6_comeIn_117 rfl
theorem sX6_comeIn_120 {h0 : Hp_} : Snd 0 108 h0 (miT TbC) RX6 cX6_comeIn 3 none 120 (i_const 123 (vI 256)) := snd_sipush (by decide) dX6_comeIn_120
theorem sX6_comeIn_123 {h0 : Hp_} : Snd 0 108 h0 (miT TbC) RX6 cX6_comeIn 3 none 123 (i_imul 124) := snd_imul dX6_comeIn_123
theorem sX6_comeIn_124 {h0 : Hp_} : Snd 0 108 h0 (miT TbC) RX6 cX6_comeIn 3 none 124 (i_i2l 125) := snd_i2l dX6_comeIn_124
theorem sX6_comeIn_125 {h0 : Hp_} : Snd 0 108 h0 (miT TbC) RX6 cX6_comeIn 3 none 125 (i_ladd 126) := snd_ladd dX6_comeIn_125
theorem sX6_comeIn_126 {h0 : Hp_} : Snd 0 108 h0 (miT TbC) RX6 cX6_comeIn 3 none 126 (i_putJ 6 7 129) := snd_putJ hl0 (fun hK ho hs kk => pf_X6_49 hK ho hs dX6_comeIn_126 kk)
theorem sX6_comeIn_129 {h0 : Hp_} : Snd 0 108 h0 (miT TbC) RX6 cX6_comeIn 3 none 129 (i_aload 130 0) := snd_aload_n rfl dX6_comeIn_129
theorem sX6_comeIn_130 {h0 : Hp_} : Snd 0 108 h0 (miT TbC) RX6 cX6_comeIn 3 none 130 (i_iload 131 1) := snd_iload_n rfl dX6_comeIn_130
theorem sX6_comeIn_131 {h0 : Hp_} : Snd 0 108 h0 (miT TbC) RX6 cX6_comeIn 3 none 131 (i_const 134 (vI 255)) := snd_sipush (by decide) dX6_comeIn_131
theorem sX6_comeIn_134 {h0 : Hp_} : Snd 0 108 h0 (miT TbC) RX6 cX6_comeIn 3 none 134 (i_icmp_ne 137 142) := snd_icmp_ne dX6_comeIn_134 rfl
theorem sX6_comeIn_137 {h0 : Hp_} : Snd 0 108 h0 (miT TbC) RX6 cX6_comeIn 3 none 137 (i_const 139 (vI 7)) := snd_bipush (by decide) dX6_comeIn_137
theorem sX6_comeIn_139 {h0 : Hp_} : Snd 0 108 h0 (miT TbC) RX6 cX6_comeIn 3 none 139 (i_goto 144) := snd_goto dX6_comeIn_139 rfl
theorem sX6_comeIn_142 {h0 : Hp_} : Snd 0 108 h0 (miT TbC) RX6 cX6_comeIn 3 none 142 (i_const 144 (vI 8)) := snd_bipush (by decide) dX6_comeIn_142
theorem sX6_comeIn_144 {h0 : Hp_} : Snd 0 108 h0 (miT TbC) RX6 cX6_comeIn 3 none 144 (i_putI 6 6 147) := snd_putI hl0 (fun hK ho hs kk => pf_X6_56 hK ho hs dX6_comeIn_144 kk)
theorem sX6_comeIn_147 {h0 : Hp_} : Snd 0 108 h0 (miT TbC) RX6 cX6_comeIn 3 none 147 (i_vret) := snd_vret dX6_comeIn_147
theorem kX6_comeIn {h0 : Hp_} : raA (okI 0 108 h0 (miT TbC) (yX6_comeIn, cX6_comeIn, 3, none)) tX6_comeIn := (raA_br (raA_br (raA_br (raA_br (raA_br (raA_br (raA_leaf sX6_comeIn_0) (raA_leaf sX6_comeIn_1)) (raA_br (raA_leaf sX6_comeIn_4) (raA_leaf sX6_comeIn_5))) (raA_br (raA_br (raA_leaf sX6_comeIn_8) (raA_leaf sX6_comeIn_11)) (raA_br (raA_leaf sX6_comeIn_12) (raA_br (raA_leaf sX6_comeIn_15) (raA_leaf sX6_comeIn_16))))) (raA_br (raA_br (raA_br (raA_leaf sX6_comeIn_19) (raA_leaf sX6_comeIn_20)) (raA_br (raA_leaf sX6_comeIn_23) (raA_leaf sX6_comeIn_26))) (raA_br (raA_br (raA_leaf sX6_comeIn_27) (raA_leaf sX6_comeIn_28)) (raA_br (raA_leaf sX6_comeIn_31) (raA_br (raA_leaf sX6_comeIn_32) (raA_leaf sX6_comeIn_33)))))) (raA_br (raA_br (raA_br (raA_br (raA_leaf sX6_comeIn_34) (raA_leaf sX6_comeIn_37)) (raA_br (raA_leaf sX6_comeIn_40) (raA_leaf sX6_comeIn_41))) (raA_br (raA_br (raA_leaf sX6_comeIn_44) (raA_leaf sX6_comeIn_45)) (raA_br (raA_leaf sX6_comeIn_48) (raA_br (raA_leaf sX6_comeIn_49) (raA_leaf sX6_comeIn_50))))) (raA_br (raA_br (raA_br (raA_leaf sX6_comeIn_51) (raA_leaf sX6_comeIn_54)) (raA_br (raA_leaf sX6_comeIn_57) (raA_br (raA_leaf sX6_comeIn_58) (raA_leaf sX6_comeIn_59)))) (raA_br (raA_br (raA_leaf sX6_comeIn_62) (raA_leaf sX6_comeIn_65)) (raA_br (raA_leaf sX6_comeIn_66) (raA_br (raA_leaf sX6_comeIn_69) (raA_leaf sX6_comeIn_72))))))) (raA_br (raA_br (raA_br (raA_br (raA_br (raA_leaf sX6_comeIn_73) (raA_leaf sX6_comeIn_74)) (raA_br (raA_leaf sX6_comeIn_77) (raA_leaf sX6_comeIn_80))) (raA_br (raA_br (raA_leaf sX6_comeIn_81) (raA_leaf sX6_comeIn_84)) (raA_br (raA_leaf sX6_comeIn_85) (raA_br (raA_leaf sX6_comeIn_87) (raA_leaf sX6_comeIn_90))))) (raA_br (raA_br (raA_br (raA_leaf sX6_comeIn_91) (raA_leaf sX6_comeIn_92)) (raA_br (raA_leaf sX6_comeIn_93) (raA_br (raA_leaf sX6_comeIn_96) (raA_leaf sX6_comeIn_97)))) (raA_br (raA_br (raA_leaf sX6_comeIn_98) (raA_leaf sX6_comeIn_101)) (raA_br (raA_leaf sX6_comeIn_102) (raA_br (raA_leaf sX6_comeIn_103) (raA_leaf sX6_comeIn_106)))))) (raA_br (raA_br (raA_br (raA_br (raA_leaf sX6_comeIn_107) (raA_leaf sX6_comeIn_108)) (raA_br (raA_leaf sX6_comeIn_111) (raA_leaf sX6_comeIn_114))) (raA_br (raA_br (raA_leaf sX6_comeIn_117) (raA_leaf sX6_comeIn_120)) (raA_br (raA_leaf sX6_comeIn_123) (raA_br (raA_leaf sX6_comeIn_124) (raA_leaf sX6_comeIn_125))))) (raA_br (raA_br (raA_br (raA_leaf sX6_comeIn_126) (raA_leaf sX6_comeIn_129)) (raA_br (raA_leaf sX6_comeIn_130) (raA_br (raA_leaf sX6_comeIn_131) (raA_leaf sX6_comeIn_134)))) (raA_br (raA_br (raA_leaf sX6_comeIn_137) (raA_leaf sX6_comeIn_139)) (raA_br (raA_leaf sX6_comeIn_142) (raA_br (raA_leaf sX6_comeIn_144) (raA_leaf sX6_comeIn_147))))))))
theorem sX6_tellBit_0 {h0 : Hp_} : Snd 0 108 h0 (miT TbC) RX6 cX6_tellBit 7 (some .int) 0 (i_aload 1 0) := snd_aload_n rfl dX6_tellBit_0
theorem sX6_tellBit_1 {h0 : Hp_} : Snd 0 108 h0 (miT TbC) RX6 cX6_tellBit 7 (some .int) 1 (i_getR 6 0 4) := snd_getR rfl (by decide) (by decide) (by decide) (fun hK ho hs hq kk => gf_X6_12 hK ho hs hq rfl dX6_tellBit_1 kk)
theorem sX6_tellBit_4 {h0 : Hp_} : Snd 0 108 h0 (miT TbC) RX6 cX6_tellBit 7 (some .int) 4 (i_iload 5 1) := snd_iload_n rfl dX6_tellBit_4
theorem sX6_tellBit_5 {h0 : Hp_} : Snd 0 108 h0 (miT TbC) RX6 cX6_tellBit 7 (some .int) 5 (i_cV1 32 2 8) := snd_cV1 (fun hK hd hC ho hs h6 h7 h8 kk => iv_X6_65 hK (mcC_32 hC) ho hs ⟨hd, by show _ ≤ 40 * (_ + 1); omega⟩ (Nat.le_refl _) h6 h7 h8 ⟨Nat.le_refl _, Nat.le_refl _⟩ dX6_tellBit_5 kk)
theorem sX6_tellBit_8 {h0 : Hp_} : Snd 0 108 h0 (miT TbC) RX6 cX6_tellBit 7 (some .int) 8 (i_istore 9 3) := snd_istore_n rfl (by decide) dX6_tellBit_8
theorem sX6_tellBit_9 {h0 : Hp_} : Snd 0 108 h0 (miT TbC) RX6 cX6_tellBit 7 (some .int) 9 (i_aload 10 0) := snd_aload_n rfl dX6_tellBit_9
theorem sX6_tellBit_10 {h0 : Hp_} : Snd 0 108 h0 (miT TbC) RX6 cX6_tellBit 7 (some .int) 10 (i_getR 6 0 13) := snd_getR rfl (by decide) (by decide) (by decide) (fun hK ho hs hq kk => gf_X6_12 hK ho hs hq rfl dX6_tellBit_10 kk)
theorem sX6_tellBit_13 {h0 : Hp_} : Snd 0 108 h0 (miT TbC) RX6 cX6_tellBit 7 (some .int) 13 (i_iload 14 1) := snd_iload_n rfl dX6_tellBit_13
theorem sX6_tellBit_14 {h0 : Hp_} : Snd 0 108 h0 (miT TbC) RX6 cX6_tellBit 7 (some .int) 14 (i_cV1 31 2 17) := snd_cV1 (fun hK hd hC ho hs h6 h7 h8 kk => iv_X6_68 hK (mcC_31 hC) ho hs ⟨hd, by show _ ≤ 40 * (_ + 1); omega⟩ (Nat.le_refl _) h6 h7 h8 ⟨Nat.le_refl _, Nat.le_refl _⟩ dX6_tellBit_14 kk)
theorem sX6_tellBit_17 {h0 : Hp_} : Snd 0 108 h0 (miT TbC) RX6 cX6_tellBit 7 (some .int) 17 (i_istore 19 4) := snd_istore (by decide) dX6_tellBit_17
theorem sX6_tellBit_19 {h0 : Hp_} : Snd 0 108 h0 (miT TbC) RX6 cX6_tellBit 7 (some .int) 19 (i_aload 20 0) := snd_aload_n rfl dX6_tellBit_19
theorem sX6_tellBit_20 {h0 : Hp_} : Snd 0 108 h0 (miT TbC) RX6 cX6_tellBit 7 (some .int) 20 (i_dup 21) := snd_dup dX6_tellBit_20
theorem sX6_tellBit_21 {h0 : Hp_} : Snd 0 108 h0 (miT TbC) RX6 cX6_tellBit 7 (some .int) 21 (i_getI 6 5 24) := snd_getI hl0 (fun hK ho hs hv kk => gf_X6_60 hK ho hs hv dX6_tellBit_21 kk)
theorem sX6_tellBit_24 {h0 : Hp_} : Snd 0 108 h0 (miT TbC) RX6 cX6_tellBit 7 (some .int) 24 (i_iload 25 3) := snd_iload_n rfl dX6_tellBit_24
theorem sX6_tellBit_25 {h0 : Hp_} : Snd 0 108 h0 (miT TbC) RX6 cX6_tellBit 7 (some .int) 25 (i_isub 26) := snd_isub dX6_tellBit_25
theorem sX6_tellBit_26 {h0 : Hp_} : Snd 0 108 h0 (miT TbC) RX6 cX6_tellBit 7 (some .int) 26 (i_putI 6 5 29) := snd_putI hl0 (fun hK ho hs kk => pf_X6_60 hK ho hs dX6_tellBit_26 kk)
theorem sX6_tellBit_29 {h0 : Hp_} : Snd 0 108 h0 (miT TbC) RX6 cX6_tellBit 7 (some .int) 29 (i_aload 30 0) := snd_aload_n rfl dX6_tellBit_29
theorem sX6_tellBit_30 {h0 : Hp_} : Snd 0 108 h0 (miT TbC) RX6 cX6_tellBit 7 (some .int) 30 (i_getJ 6 7 33) := snd_getJ hl0 (fun hK ho hs hv kk => gf_X6_49 hK ho hs hv dX6_tellBit_30 kk)
theorem sX6_tellBit_33 {h0 : Hp_} : Snd 0 108 h0 (miT TbC) RX6 cX6_tellBit 7 (some .int) 33 (i_const 35 (vI 16)) := snd_bipush (by decide) dX6_tellBit_33
theorem sX6_tellBit_35 {h0 : Hp_} : Snd 0 108 h0 (miT TbC) RX6 cX6_tellBit 7 (some .int) 35 (i_lshr 36) := snd_lshr dX6_tellBit_35
theorem sX6_tellBit_36 {h0 : Hp_} : Snd 0 108 h0 (miT TbC) RX6 cX6_tellBit 7 (some .int) 36 (i_iload 37 3) := snd_iload_n rfl dX6_tellBit_36
theorem sX6_tellBit_37 {h0 : Hp_} : Snd 0 108 h0 (miT TbC) RX6 cX6_tellBit 7 (some .int) 37 (i_i2l 38) := snd_i2l dX6_tellBit_37
theorem sX6_tellBit_38 {h0 : Hp_} : Snd 0 108 h0 (miT TbC) RX6 cX6_tellBit 7 (some .int) 38 (i_lcmp 39) := snd_lcmp dX6_tellBit_38
theorem sX6_tellBit_39 {h0 : Hp_} : Snd 0 108 h0 (miT TbC) RX6 cX6_tellBit 7 (some .int) 39 (i_if_ge 42 69) := snd_if_ge dX6_tellBit_39 rfl
theorem sX6_tellBit_42 {h0 : Hp_} : Snd 0 108 h0 (miT TbC) RX6 cX6_tellBit 7 (some .int) 42 (i_aload 43 0) := snd_aload_n rfl dX6_tellBit_42
theorem sX6_tellBit_43 {h0 : Hp_} : Snd 0 108 h0 (miT TbC) RX6 cX6_tellBit 7 (some .int) 43 (i_getI 6 5 46) := snd_getI hl0 (fun hK ho hs hv kk => gf_X6_60 hK ho hs hv dX6_tellBit_43 kk)
theorem sX6_tellBit_46 {h0 : Hp_} : Snd 0 108 h0 (miT TbC) RX6 cX6_tellBit 7 (some .int) 46 (i_iload 47 3) := snd_iload_n rfl dX6_tellBit_46
theorem sX6_tellBit_47 {h0 : Hp_} : Snd 0 108 h0 (miT TbC) RX6 cX6_tellBit 7 (some .int) 47 (i_icmp_ge 50 55) := snd_icmp_ge dX6_tellBit_47 rfl
theorem sX6_tellBit_50 {h0 : Hp_} : Snd 0 108 h0 (miT TbC) RX6 cX6_tellBit 7 (some .int) 50 (i_iload 52 4) := snd_iload dX6_tellBit_50
theorem sX6_tellBit_52 {h0 : Hp_} : Snd 0 108 h0 (miT TbC) RX6 cX6_tellBit 7 (some .int) 52 (i_goto 59) := snd_goto dX6_tellBit_52 rfl
theorem sX6_tellBit_55 {h0 : Hp_} : Snd 0 108 h0 (miT TbC) RX6 cX6_tellBit 7 (some .int) 55 (i_const 56 (vI 1)) := snd_iconst dX6_tellBit_55
theorem sX6_tellBit_56 {h0 : Hp_} : Snd 0 108 h0 (miT TbC) RX6 cX6_tellBit 7 (some .int) 56 (i_iload 58 4) := snd_iload dX6_tellBit_56
theorem sX6_tellBit_58 {h0 : Hp_} : Snd 0 108 h0 (miT TbC) RX6 cX6_tellBit 7 (some .int) 58 (i_isub 59) := snd_isub dX6_tellBit_58
theorem sX6_tellBit_59 {h0 : Hp_} : Snd 0 108 h0 (miT TbC) RX6 cX6_tellBit 7 (some .int) 59 (i_istore 61 5) := snd_istore (by decide) dX6_tellBit_59
theorem sX6_tellBit_61 {h0 : Hp_} : Snd 0 108 h0 (miT TbC) RX6 cX6_tellBit 7 (some .int) 61 (i_aload 62 0) := snd_aload_n rfl dX6_tellBit_61
theorem sX6_tellBit_62 {h0 : Hp_} : Snd 0 108 h0 (miT TbC) RX6 cX6_tellBit 7 (some .int) 62 (i_iload 63 3) := snd_iload_n rfl dX6_tellBit_62
theorem sX6_tellBit_63 {h0 : Hp_} : Snd 0 108 h0 (miT TbC) RX6 cX6_tellBit 7 (some .int) 63 (i_putI 6 5 66) := snd_putI hl0 (fun hK ho hs kk => pf_X6_60 hK ho hs dX6_tellBit_63 kk)
theorem sX6_tellBit_66 {h0 : Hp_} : Snd 0 108 h0 (miT TbC) RX6 cX6_tellBit 7 (some .int) 66 (i_goto 114) := snd_goto dX6_tellBit_66 rfl
theorem sX6_tellBit_69 {h0 : Hp_} : Snd 0 108 h0 (miT TbC) RX6 cX6_tellBit 7 (some .int) 69 (i_aload 70 0) := snd_aload_n rfl dX6_tellBit_69
theorem sX6_tellBit_70 {h0 : Hp_} : Snd 0 108 h0 (miT TbC) RX6 cX6_tellBit 7 (some .int) 70 (i_dup 71) := snd_dup dX6_tellBit_70
theorem sX6_tellBit_71 {h0 : Hp_} : Snd 0 108 h0 (miT TbC) RX6 cX6_tellBit 7 (some .int) 71 (i_getJ 6 7 74) := snd_getJ hl0 (fun hK ho hs hv kk => gf_X6_49 hK ho hs hv dX6_tellBit_71 kk)
theorem sX6_tellBit_74 {h0 : Hp_} : Snd 0 108 h0 (miT TbC) RX6 cX6_tellBit 7 (some .int) 74 (i_iload 75 3) := snd_iload_n rfl dX6_tellBit_74
theorem sX6_tellBit_75 {h0 : Hp_} : Snd 0 108 h0 (miT TbC) RX6 cX6_tellBit 7 (some .int) 75 (i_i2l 76) := snd_i2l dX6_tellBit_75
theorem sX6_tellBit_76 {h0 : Hp_} : Snd 0 108 h0 (miT TbC) RX6 cX6_tellBit 7 (some .int) 76 (i_const 78 (vI 16)) := snd_bipush (by decide) dX6_tellBit_76
theorem sX6_tellBit_78 {h0 : Hp_} : Snd 0 108 h0 (miT TbC) RX6 cX6_tellBit 7 (some .int) 78 (i_lshl 79) := snd_lshl dX6_tellBit_78
theorem sX6_tellBit_79 {h0 : Hp_} : Snd 0 108 h0 (miT TbC) RX6 cX6_tellBit 7 (some .int) 79 (i_lsub 80) := snd_lsub dX6_tellBit_79
theorem sX6_tellBit_80 {h0 : Hp_} : Snd 0 108 h0 (miT TbC) RX6 cX6_tellBit 7 (some .int) 80 (i_putJ 6 7 83) := snd_putJ hl0 (fun hK ho hs kk => pf_X6_49 hK ho hs dX6_tellBit_80 kk)
theorem sX6_tellBit_83 {h0 : Hp_} : Snd 0 108 h0 (miT TbC) RX6 cX6_tellBit 7 (some .int) 83 (i_aload 84 0) := snd_aload_n rfl dX6_tellBit_83
theorem sX6_tellBit_84 {h0 : Hp_} : Snd 0 108 h0 (miT TbC) RX6 cX6_tellBit 7 (some .int) 84 (i_getI 6 5 87) := snd_getI hl0 (fun hK ho hs hv kk => gf_X6_60 hK ho hs hv dX6_tellBit_84 kk)
theorem sX6_tellBit_87 {h0 : Hp_} : Snd 0 108 h0 (miT TbC) RX6 cX6_tellBit 7 (some .int) 87 (i_const 89 (vI 32768)) := snd_ldc lc_X6_59 dX6_tellBit_87
theorem sX6_tellBit_89 {h0 : Hp_} : Snd 0 108 h0 (miT TbC) RX6 cX6_tellBit 7 (some .int) 89 (i_icmp_lt 92 95) := snd_icmp_lt dX6_tellBit_89 rfl
theorem sX6_tellBit_92 {h0 : Hp_} : Snd 0 108 h0 (miT TbC) RX6 cX6_tellBit 7 (some .int) 92 (i_iload 94 4) := snd_iload dX6_tellBit_92
theorem sX6_tellBit_94 {h0 : Hp_} : Snd 0 108 h0 (miT TbC) RX6 cX6_tellBit 7 (some .int) 94 (i_iret) := snd_iret dX6_tellBit_94
theorem sX6_tellBit_95 {h0 : Hp_} : Snd 0 108 h0 (miT TbC) RX6 cX6_tellBit 7 (some .int) 95 (i_aload 96 0) := snd_aload_n rfl dX6_tellBit_95
theorem sX6_tellBit_96 {h0 : Hp_} : Snd 0 108 h0 (miT TbC) RX6 cX6_tellBit 7 (some .int) 96 (i_getI 6 5 99) := snd_getI hl0 (fun hK ho hs hv kk => gf_X6_60 hK ho hs hv dX6_tellBit_96 kk)
theorem sX6_tellBit_99 {h0 : Hp_} : Snd 0 108 h0 (miT TbC) RX6 cX6_tellBit 7 (some .int) 99 (i_iload 100 3) := snd_iload_n rfl dX6_tellBit_99
theorem sX6_tellBit_100 {h0 : Hp_} : Snd 0 108 h0 (miT TbC) RX6 cX6_tellBit 7 (some .int) 100 (i_icmp_ge 103 110) := snd_icmp_ge dX6_tellBit_100 rfl
theorem sX6_tellBit_103 {h0 : Hp_} : Snd 0 108 h0 (miT TbC) RX6 cX6_tellBit 7 (some .int) 103 (i_const 104 (vI 1)) := snd_iconst dX6_tellBit_103
theorem sX6_tellBit_104 {h0 : Hp_} : Snd 0 108 h0 (miT TbC) RX6 cX6_tellBit 7 (some .int) 104 (i_iload 106 4) := snd_iload dX6_tellBit_104
theorem sX6_tellBit_106 {h0 : Hp_} : Snd 0 108 h0 (miT TbC) RX6 cX6_tellBit 7 (some .int) 106 (i_isub 107) := snd_isub dX6_tellBit_106
theorem sX6_tellBit_107 {h0 : Hp_} : Snd 0 108 h0 (miT TbC) RX6 cX6_tellBit 7 (some .int) 107 (i_goto 112) := snd_goto dX6_tellBit_107 rfl
theorem sX6_tellBit_110 {h0 : Hp_} : Snd 0 108 h0 (miT TbC) RX6 cX6_tellBit 7 (some .int) 110 (i_iload 112 4) := snd_iload dX6_tellBit_110
theorem sX6_tellBit_112 {h0 : Hp_} : Snd 0 108 h0 (miT TbC) RX6 cX6_tellBit 7 (some .int) 112 (i_istore 114 5) := snd_istore (by decide) dX6_tellBit_112
theorem sX6_tellBit_114 {h0 : Hp_} : Snd 0 108 h0 (miT TbC) RX6 cX6_tellBit 7 (some .int) 114 (i_aload 115 0) := snd_aload_n rfl dX6_tellBit_114
theorem sX6_tellBit_115 {h0 : Hp_} : Snd 0 108 h0 (miT TbC) RX6 cX6_tellBit 7 (some .int) 115 (i_getR 6 0 118) := snd_getR rfl (by decide) (by decide) (by decide) (fun hK ho hs hq kk => gf_X6_12 hK ho hs hq rfl dX6_tellBit_115 kk)
theorem sX6_tellBit_118 {h0 : Hp_} : Snd 0 108 h0 (miT TbC) RX6 cX6_tellBit 7 (some .int) 118 (i_iload 119 1) := snd_iload_n rfl dX6_tellBit_118
theorem sX6_tellBit_119 {h0 : Hp_} : Snd 0 108 h0 (miT TbC) RX6 cX6_tellBit 7 (some .int) 119 (i_iload 121 5) := snd_iload dX6_tellBit_119
theorem sX6_tellBit_121 {h0 : Hp_} : Snd 0 108 h0 (miT TbC) RX6 cX6_tellBit 7 (some .int) 121 (i_cV2 30 2 124) := snd_cV2 (fun hK hd hC ho hs h6 h7 h8 kk => iv_X6_71 hK (mcC_30 hC) ho hs ⟨hd, by show _ ≤ 40 * (_ + 1); omega⟩ (Nat.le_refl _) h6 h7 h8 ⟨Nat.le_refl _, Nat.le_refl _⟩ dX6_tellBit_121 kk)
theorem sX6_tellBit_124 {h0 : Hp_} : Snd 0 108 h0 (miT TbC) RX6 cX6_tellBit 7 (some .int) 124 (i_const 125 (vI 0)) := snd_iconst dX6_tellBit_124
theorem sX6_tellBit_125 {h0 : Hp_} : Snd 0 108 h0 (miT TbC) RX6 cX6_tellBit 7 (some .int) 125 (i_istore 127 6) := snd_istore (by decide) dX6_tellBit_125
theorem sX6_tellBit_127 {h0 : Hp_} : Snd 0 108 h0 (miT TbC) RX6 cX6_tellBit 7 (some .int) 127 (i_iload 129 6) := snd_iload dX6_tellBit_127
theorem sX6_tellBit_129 {h0 : Hp_} : Snd 0 108 h0 (miT TbC) RX6 cX6_tellBit 7 (some .int) 129 (i_const 131 (vI 15)) := snd_bipush (by decide) dX6_tellBit_129
theorem sX6_tellBit_131 {h0 : Hp_} : Snd 0 108 h0 (miT TbC) RX6 cX6_tellBit 7 (some .int) 131 (i_icmp_ge 134 196) := snd_icmp_ge dX6_tellBit_131 rfl
theorem sX6_tellBit_134 {h0 : Hp_} : Snd 0 108 h0 (miT TbC) RX6 cX6_tellBit 7 (some .int) 134 (i_aload 135 0) := snd_aload_n rfl dX6_tellBit_134
theorem sX6_tellBit_135 {h0 : Hp_} : Snd 0 108 h0 (miT TbC) RX6 cX6_tellBit 7 (some .int) 135 (i_getI 6 5 138) := snd_getI hl0 (fun hK ho hs hv kk => gf_X6_60 hK ho hs hv dX6_tellBit_135 kk)
theorem sX6_tellBit_138 {h0 : Hp_} : Snd 0 108 h0 (miT TbC) RX6 cX6_tellBit 7 (some .int) 138 (i_const 140 (vI 32768)) := snd_ldc lc_X6_59 dX6_tellBit_138
theorem sX6_tellBit_140 {h0 : Hp_} : Snd 0 108 h0 (miT TbC) RX6 cX6_tellBit 7 (some .int) 140 (i_icmp_ge 143 196) := snd_icmp_ge dX6_tellBit_140 rfl
theorem sX6_tellBit_143 {h0 : Hp_} : Snd 0 108 h0 (miT TbC) RX6 cX6_tellBit 7 (some .int) 143 (i_aload 144 0) := snd_aload_n rfl dX6_tellBit_143
theorem sX6_tellBit_144 {h0 : Hp_} : Snd 0 108 h0 (miT TbC) RX6 cX6_tellBit 7 (some .int) 144 (i_getI 6 6 147) := snd_getI hl0 (fun hK ho hs hv kk => gf_X6_56 hK ho hs hv dX6_tellBit_144 kk)
theorem sX6_tellBit_147 {h0 : Hp_} : Snd 0 108 h0 (miT TbC) RX6 cX6_tellBit 7 (some .int) 147 (i_if_ne 150 154) := snd_if_ne dX6_tellBit_147 rfl
theorem sX6_tellBit_150 {h0 : Hp_} : Snd 0 108 h0 (miT TbC) RX6 cX6_tellBit 7 (some .int) 150 (i_aload 151 0) := snd_aload_n rfl dX6_tellBit_150
theorem sX6_tellBit_151 {h0 : Hp_} : Snd 0 108 h0 (miT TbC) RX6 cX6_tellBit 7 (some .int) 151 (i_cV0 64 6 154) := snd_cV0 (fun hK hd hC ho hs h6 h7 h8 kk => iv_X6_53 hK (mcC_64 hC) ho hs ⟨hd, by show _ ≤ 40 * (_ + 1); omega⟩ (Nat.le_refl _) h6 h7 h8 ⟨Nat.le_refl _, Nat.le_refl _⟩ dX6_tellBit_151 kk)
theorem sX6_tellBit_154 {h0 : Hp_} : Snd 0 108 h0 (miT TbC) RX6 cX6_tellBit 7 (some .int) 154 (i_aload 155 0) := snd_aload_n rfl dX6_tellBit_154
theorem sX6_tellBit_155 {h0 : Hp_} : Snd 0 108 h0 (miT TbC) RX6 cX6_tellBit 7 (some .int) 155 (i_dup 156) := snd_dup dX6_tellBit_155
theorem sX6_tellBit_156 {h0 : Hp_} : Snd 0 108 h0 (miT TbC) RX6 cX6_tellBit 7 (some .int) 156 (i_getI 6 5 159) := snd_getI hl0 (fun hK ho hs hv kk => gf_X6_60 hK ho hs hv dX6_tellBit_156 kk)
theorem sX6_tellBit_159 {h0 : Hp_} : Snd 0 108 h0 (miT TbC) RX6 cX6_tellBit 7 (some .int) 159 (i_const 160 (vI 1)) := snd_iconst dX6_tellBit_159
theorem sX6_tellBit_160 {h0 : Hp_} : Snd 0 108 h0 (miT TbC) RX6 cX6_tellBit 7 (some .int) 160 (i_ishl 161) := snd_ishl dX6_tellBit_160
theorem sX6_tellBit_161 {h0 : Hp_} : Snd 0 108 h0 (miT TbC) RX6 cX6_tellBit 7 (some .int) 161 (i_putI 6 5 164) := snd_putI hl0 (fun hK ho hs kk => pf_X6_60 hK ho hs dX6_tellBit_161 kk)
theorem sX6_tellBit_164 {h0 : Hp_} : Snd 0 108 h0 (miT TbC) RX6 cX6_tellBit 7 (some .int) 164 (i_aload 165 0) := snd_aload_n rfl dX6_tellBit_164
theorem sX6_tellBit_165 {h0 : Hp_} : Snd 0 108 h0 (miT TbC) RX6 cX6_tellBit 7 (some .int) 165 (i_aload 166 0) := snd_aload_n rfl dX6_tellBit_165
theorem sX6_tellBit_166 {h0 : Hp_} : Snd 0 108 h0 (miT TbC) RX6 cX6_tellBit 7 (some .int) 166 (i_getJ 6 7 169) := snd_getJ hl0 (fun hK ho hs hv kk => gf_X6_49 hK ho hs hv dX6_tellBit_166 kk)
theorem sX6_tellBit_169 {h0 : Hp_} : Snd 0 108 h0 (miT TbC) RX6 cX6_tellBit 7 (some .int) 169 (i_const 170 (vI 1)) := snd_iconst dX6_tellBit_169
theorem sX6_tellBit_170 {h0 : Hp_} : Snd 0 108 h0 (miT TbC) RX6 cX6_tellBit 7 (some .int) 170 (i_lshl 171) := snd_lshl dX6_tellBit_170
theorem sX6_tellBit_171 {h0 : Hp_} : Snd 0 108 h0 (miT TbC) RX6 cX6_tellBit 7 (some .int) 171 (i_const 174 (vJ 1099511627776)) := snd_ldc2 lc_X6_75 dX6_tellBit_171
theorem sX6_tellBit_174 {h0 : Hp_} : Snd 0 108 h0 (miT TbC) RX6 cX6_tellBit 7 (some .int) 174 (i_mminl 177) := snd_mminl iw_X6_77 dX6_tellBit_174
theorem sX6_tellBit_177 {h0 : Hp_} : Snd 0 108 h0 (miT TbC) RX6 cX6_tellBit 7 (some .int) 177 (i_putJ 6 7 180) := snd_putJ hl0 (fun hK ho hs kk => pf_X6_49 hK ho hs dX6_tellBit_177 kk)
theorem sX6_tellBit_180 {h0 : Hp_} : Snd 0 108 h0 (miT TbC) RX6 cX6_tellBit 7 (some .int) 180 (i_aload 181 0) := snd_aload_n rfl dX6_tellBit_180
theorem sX6_tellBit_181 {h0 : Hp_} : Snd 0 108 h0 (miT TbC) RX6 cX6_tellBit 7 (some .int) 181 (i_dup 182) := snd_dup dX6_tellBit_181
theorem sX6_tellBit_182 {h0 : Hp_} : Snd 0 108 h0 (miT TbC) RX6 cX6_tellBit 7 (some .int) 182 (i_getI 6 6 185) := snd_getI hl0 (fun hK ho hs hv kk => gf_X6_56 hK ho hs hv dX6_tellBit_182 kk)
theorem sX6_tellBit_185 {h0 : Hp_} : Snd 0 108 h0 (miT TbC) RX6 cX6_tellBit 7 (some .int) 185 (i_const 186 (vI 1)) := snd_iconst dX6_tellBit_185
theorem sX6_tellBit_186 {h0 : Hp_} : Snd 0 108 h0 (miT TbC) RX6 cX6_tellBit 7 (some .int) 186 (i_isub 187) := snd_isub dX6_tellBit_186
theorem sX6_tellBit_187 {h0 : Hp_} : Snd 0 108 h0 (miT TbC) RX6 cX6_tellBit 7 (some .int) 187 (i_putI 6 6 190) := snd_putI hl0 (fun hK ho hs kk => pf_X6_56 hK ho hs dX6_tellBit_187 kk)
theorem sX6_tellBit_190 {h0 : Hp_} : Snd 0 108 h0 (miT TbC) RX6 cX6_tellBit 7 (some .int) 190 (i_iinc 193 6 1) := snd_iinc (by decide) dX6_tellBit_190
theorem sX6_tellBit_193 {h0 : Hp_} : Snd 0 108 h0 (miT TbC) RX6 cX6_tellBit 7 (some .int) 193 (i_goto 127) := snd_goto dX6_tellBit_193 rfl
theorem sX6_tellBit_196 {h0 : Hp_} : Snd 0 108 h0 (miT TbC) RX6 cX6_tellBit 7 (some .int) 196 (i_iload 198 5) := snd_iload dX6_tellBit_196
theorem sX6_tellBit_198 {h0 : Hp_} : Snd 0 108 h0 (miT TbC) RX6 cX6_tellBit 7 (some .int) 198 (i_iret) := snd_iret dX6_tellBit_198
theorem kX6_tellBit {h0 : Hp_} : raA (okI 0 108 h0 (miT TbC) (yX6_tellBit, cX6_tellBit, 7, (some .int))) tX6_tellBit := (raA_br (raA_br (raA_br (raA_br (raA_br (raA_br (raA_leaf sX6_tellBit_0) (raA_br (raA_leaf sX6_tellBit_1) (raA_leaf sX6_tellBit_4))) (raA_br (raA_leaf sX6_tellBit_5) (raA_br (raA_leaf sX6_tellBit_8) (raA_leaf sX6_tellBit_9)))) (raA_br (raA_br (raA_leaf sX6_tellBit_10) (raA_br (raA_leaf sX6_tellBit_13) (raA_leaf sX6_tellBit_14))) (raA_br (raA_br (raA_leaf sX6_tellBit_17) (raA_leaf sX6_tellBit_19)) (raA_br (raA_leaf sX6_tellBit_20) (raA_leaf sX6_tellBit_21))))) (raA_br (raA_br (raA_br (raA_leaf sX6_tellBit_24) (raA_br (raA_leaf sX6_tellBit_25) (raA_leaf sX6_tellBit_26))) (raA_br (raA_leaf sX6_tellBit_29) (raA_br (raA_leaf sX6_tellBit_30) (raA_leaf sX6_tellBit_33)))) (raA_br (raA_br (raA_leaf sX6_tellBit_35) (raA_br (raA_leaf sX6_tellBit_36) (raA_leaf sX6_tellBit_37))) (raA_br (raA_br (raA_leaf sX6_tellBit_38) (raA_leaf sX6_tellBit_39)) (raA_br (raA_leaf sX6_tellBit_42) (raA_leaf sX6_tellBit_43)))))) (raA_br (raA_br (raA_br (raA_br (raA_leaf sX6_tellBit_46) (raA_br (raA_leaf sX6_tellBit_47) (raA_leaf sX6_tellBit_50))) (raA_br (raA_leaf sX6_tellBit_52) (raA_br (raA_leaf sX6_tellBit_55) (raA_leaf sX6_tellBit_56)))) (raA_br (raA_br (raA_leaf sX6_tellBit_58) (raA_br (raA_leaf sX6_tellBit_59) (raA_leaf sX6_tellBit_61))) (raA_br (raA_br (raA_leaf sX6_tellBit_62) (raA_leaf sX6_tellBit_63)) (raA_br (raA_leaf sX6_tellBit_66) (raA_leaf sX6_tellBit_69))))) (raA_br (raA_br (raA_br (raA_leaf sX6_tellBit_70) (raA_br (raA_leaf sX6_tellBit_71) (raA_leaf sX6_tellBit_74))) (raA_br (raA_br (raA_leaf sX6_tellBit_75) (raA_leaf sX6_tellBit_76)) (raA_br (raA_leaf sX6_tellBit_78) (raA_leaf sX6_tellBit_79)))) (raA_br (raA_br (raA_leaf sX6_tellBit_80) (raA_br (raA_leaf sX6_tellBit_83) (raA_leaf sX6_tellBit_84))) (raA_br (raA_br (raA_leaf sX6_tellBit_87) (raA_leaf sX6_tellBit_89)) (raA_br (raA_leaf sX6_tellBit_92) (raA_leaf sX6_tellBit_94))))))) (raA_br (raA_br (raA_br (raA_br (raA_br (raA_leaf sX6_tellBit_95) (raA_br (raA_leaf sX6_tellBit_96) (raA_leaf sX6_tellBit_99))) (raA_br (raA_leaf sX6_tellBit_100) (raA_br (raA_leaf sX6_tellBit_103) (raA_leaf sX6_tellBit_104)))) (raA_br (raA_br (raA_leaf sX6_tellBit_106) (raA_br (raA_leaf sX6_tellBit_107) (raA_leaf sX6_tellBit_110))) (raA_br (raA_br (raA_leaf sX6_tellBit_112) (raA_leaf sX6_tellBit_114)) (raA_br (raA_leaf sX6_tellBit_115) (raA_leaf sX6_tellBit_118))))) (raA_br (raA_br (raA_br (raA_leaf sX6_tellBit_119) (raA_br (raA_leaf sX6_tellBit_121) (raA_leaf sX6_tellBit_124))) (raA_br (raA_leaf sX6_tellBit_125) (raA_br (raA_leaf sX6_tellBit_127) (raA_leaf sX6_tellBit_129)))) (raA_br (raA_br (raA_leaf sX6_tellBit_131) (raA_br (raA_leaf sX6_tellBit_134) (raA_leaf sX6_tellBit_135))) (raA_br (raA_br (raA_leaf sX6_tellBit_138) (raA_leaf sX6_tellBit_140)) (raA_br (raA_leaf sX6_tellBit_143) (raA_leaf sX6_tellBit_144)))))) (raA_br (raA_br (raA_br (raA_br (raA_leaf sX6_tellBit_147) (raA_br (raA_leaf sX6_tellBit_150) (raA_leaf sX6_tellBit_151))) (raA_br (raA_leaf sX6_tellBit_154) (raA_br (raA_leaf sX6_tellBit_155) (raA_leaf sX6_tellBit_156)))) (raA_br (raA_br (raA_leaf sX6_tellBit_159) (raA_br (raA_leaf sX6_tellBit_160) (raA_leaf sX6_tellBit_161))) (raA_br (raA_br (raA_leaf sX6_tellBit_164) (raA_leaf sX6_tellBit_165)) (raA_br (raA_leaf sX6_tellBit_166) (raA_leaf sX6_tellBit_169))))) (raA_br (raA_br (raA_br (raA_leaf sX6_tellBit_170) (raA_br (raA_leaf sX6_tellBit_171) (raA_leaf sX6_tellBit_174))) (raA_br (raA_br (raA_leaf sX6_tellBit_177) (raA_leaf sX6_tellBit_180)) (raA_br (raA_leaf sX6_tellBit_181) (raA_leaf sX6_tellBit_182)))) (raA_br (raA_br (raA_leaf sX6_tellBit_185) (raA_br (raA_leaf sX6_tellBit_186) (raA_leaf sX6_tellBit_187))) (raA_br (raA_br (raA_leaf sX6_tellBit_190) (raA_leaf sX6_tellBit_193)) (raA_br (raA_leaf sX6_tellBit_196) (raA_leaf sX6_tellBit_198))))))))
theorem sX7_clear_0 {h0 : Hp_} : Snd 0 108 h0 (miT TbC) RX7 cX7_clear 1 none 0 (i_aload 1 0) := snd_aload_n rfl dX7_clear_0
theorem sX7_clear_1 {h0 : Hp_} : Snd 0 108 h0 (miT TbC) RX7 cX7_clear 1 none 1 (i_const 2 (vI 0)) := snd_iconst dX7_clear_1
theorem sX7_clear_2 {h0 : Hp_} : Snd 0 108 h0 (miT TbC) RX7 cX7_clear 1 none 2 (i_putI 7 3 5) := snd_putI hl0 (fun hK ho hs kk => pf_X7_21 hK ho hs dX7_clear_2 kk)
theorem sX7_clear_5 {h0 : Hp_} : Snd 0 108 h0 (miT TbC) RX7 cX7_clear 1 none 5 (i_aload 6 0) := snd_aload_n rfl dX7_clear_5
theorem sX7_clear_6 {h0 : Hp_} : Snd 0 108 h0 (miT TbC) RX7 cX7_clear 1 none 6 (i_const 7 (vI 0)) := snd_iconst dX7_clear_6
theorem sX7_clear_7 {h0 : Hp_} : Snd 0 108 h0 (miT TbC) RX7 cX7_clear 1 none 7 (i_putI 7 4 10) := snd_putI hl0 (fun hK ho hs kk => pf_X7_25 hK ho hs dX7_clear_7 kk)
theorem sX7_clear_10 {h0 : Hp_} : Snd 0 108 h0 (miT TbC) RX7 cX7_clear 1 none 10 (i_vret) := snd_vret dX7_clear_10
theorem kX7_clear {h0 : Hp_} : raA (okI 0 108 h0 (miT TbC) (yX7_clear, cX7_clear, 1, none)) tX7_clear := (raA_br (raA_br (raA_leaf sX7_clear_0) (raA_br (raA_leaf sX7_clear_1) (raA_leaf sX7_clear_2))) (raA_br (raA_br (raA_leaf sX7_clear_5) (raA_leaf sX7_clear_6)) (raA_br (raA_leaf sX7_clear_7) (raA_leaf sX7_clear_10))))
theorem sX7_endPass_0 {h0 : Hp_} : Snd 0 108 h0 (miT TbC) RX7 cX7_endPass 1 none 0 (i_aload 1 0) := snd_aload_n rfl dX7_endPass_0
theorem sX7_endPass_1 {h0 : Hp_} : Snd 0 108 h0 (miT TbC) RX7 cX7_endPass 1 none 1 (i_getI 7 4 4) := snd_getI hl0 (fun hK ho hs hv kk => gf_X7_25 hK ho hs hv dX7_endPass_1 kk)
theorem sX7_endPass_4 {h0 : Hp_} : Snd 0 108 h0 (miT TbC) RX7 cX7_endPass 1 none 4 (i_const 6 (vI 34)) := snd_bipush (by decide) dX7_endPass_4
theorem sX7_endPass_6 {h0 : Hp_} : Snd 0 108 h0 (miT TbC) RX7 cX7_endPass 1 none 6 (i_icmp_ge 9 32) := snd_icmp_ge dX7_endPass_6 rfl
theorem sX7_endPass_9 {h0 : Hp_} : Snd 0 108 h0 (miT TbC) RX7 cX7_endPass 1 none 9 (i_aload 10 0) := snd_aload_n rfl dX7_endPass_9
theorem sX7_endPass_10 {h0 : Hp_} : Snd 0 108 h0 (miT TbC) RX7 cX7_endPass 1 none 10 (i_getR 7 2 13) := snd_getR rfl (by decide) (by decide) (by decide) (fun hK ho hs hq kk => gf_X7_18 hK ho hs hq rfl dX7_endPass_10 kk)
theorem sX7_endPass_13 {h0 : Hp_} : Snd 0 108 h0 (miT TbC) RX7 cX7_endPass 1 none 13 (i_aload 14 0) := snd_aload_n rfl dX7_endPass_13
theorem sX7_endPass_14 {h0 : Hp_} : Snd 0 108 h0 (miT TbC) RX7 cX7_endPass 1 none 14 (i_getI 7 4 17) := snd_getI hl0 (fun hK ho hs hv kk => gf_X7_25 hK ho hs hv dX7_endPass_14 kk)
theorem sX7_endPass_17 {h0 : Hp_} : Snd 0 108 h0 (miT TbC) RX7 cX7_endPass 1 none 17 (i_aload 18 0) := snd_aload_n rfl dX7_endPass_17
theorem sX7_endPass_18 {h0 : Hp_} : Snd 0 108 h0 (miT TbC) RX7 cX7_endPass 1 none 18 (i_getI 7 3 21) := snd_getI hl0 (fun hK ho hs hv kk => gf_X7_21 hK ho hs hv dX7_endPass_18 kk)
theorem sX7_endPass_21 {h0 : Hp_} : Snd 0 108 h0 (miT TbC) RX7 cX7_endPass 1 none 21 (i_iast 0 108 22) := snd_iast dX7_endPass_21
theorem sX7_endPass_22 {h0 : Hp_} : Snd 0 108 h0 (miT TbC) RX7 cX7_endPass 1 none 22 (i_aload 23 0) := snd_aload_n rfl dX7_endPass_22
theorem sX7_endPass_23 {h0 : Hp_} : Snd 0 108 h0 (miT TbC) RX7 cX7_endPass 1 none 23 (i_dup 24) := snd_dup dX7_endPass_23
theorem sX7_endPass_24 {h0 : Hp_} : Snd 0 108 h0 (miT TbC) RX7 cX7_endPass 1 none 24 (i_getI 7 4 27) := snd_getI hl0 (fun hK ho hs hv kk => gf_X7_25 hK ho hs hv dX7_endPass_24 kk)
theorem sX7_endPass_27 {h0 : Hp_} : Snd 0 108 h0 (miT TbC) RX7 cX7_endPass 1 none 27 (i_const 28 (vI 1)) := snd_iconst dX7_endPass_27
theorem sX7_endPass_28 {h0 : Hp_} : Snd 0 108 h0 (miT TbC) RX7 cX7_endPass 1 none 28 (i_iadd 29) := snd_iadd dX7_endPass_28
theorem sX7_endPass_29 {h0 : Hp_} : Snd 0 108 h0 (miT TbC) RX7 cX7_endPass 1 none 29 (i_putI 7 4 32) := snd_putI hl0 (fun hK ho hs kk => pf_X7_25 hK ho hs dX7_endPass_29 kk)
theorem sX7_endPass_32 {h0 : Hp_} : Snd 0 108 h0 (miT TbC) RX7 cX7_endPass 1 none 32 (i_vret) := snd_vret dX7_endPass_32
theorem kX7_endPass {h0 : Hp_} : raA (okI 0 108 h0 (miT TbC) (yX7_endPass, cX7_endPass, 1, none)) tX7_endPass := (raA_br (raA_br (raA_br (raA_br (raA_leaf sX7_endPass_0) (raA_leaf sX7_endPass_1)) (raA_br (raA_leaf sX7_endPass_4) (raA_leaf sX7_endPass_6))) (raA_br (raA_br (raA_leaf sX7_endPass_9) (raA_leaf sX7_endPass_10)) (raA_br (raA_leaf sX7_endPass_13) (raA_br (raA_leaf sX7_endPass_14) (raA_leaf sX7_endPass_17))))) (raA_br (raA_br (raA_br (raA_leaf sX7_endPass_18) (raA_leaf sX7_endPass_21)) (raA_br (raA_leaf sX7_endPass_22) (raA_leaf sX7_endPass_23))) (raA_br (raA_br (raA_leaf sX7_endPass_24) (raA_leaf sX7_endPass_27)) (raA_br (raA_leaf sX7_endPass_28) (raA_br (raA_leaf sX7_endPass_29) (raA_leaf sX7_endPass_32))))))
theorem sX7_passesReadRight_0 {h0 : Hp_} : Snd 0 108 h0 (miT TbC) RX7 cX7_passesReadRight 4 (some .int) 0 (i_const 1 (vI 0)) := snd_iconst dX7_passesReadRight_0
theorem sX7_passesReadRight_1 {h0 : Hp_} : Snd 0 108 h0 (miT TbC) RX7 cX7_passesReadRight 4 (some .int) 1 (i_istore 2 2) := snd_istore_n rfl (by decide) dX7_passesReadRight_1
theorem sX7_passesReadRight_2 {h0 : Hp_} : Snd 0 108 h0 (miT TbC) RX7 cX7_passesReadRight 4 (some .int) 2 (i_const 3 (vI 0)) := snd_iconst dX7_passesReadRight_2
theorem sX7_passesReadRight_3 {h0 : Hp_} : Snd 0 108 h0 (miT TbC) RX7 cX7_passesReadRight 4 (some .int) 3 (i_istore 4 3) := snd_istore_n rfl (by decide) dX7_passesReadRight_3
theorem sX7_passesReadRight_4 {h0 : Hp_} : Snd 0 108 h0 (miT TbC) RX7 cX7_passesReadRight 4 (some .int) 4 (i_iload 5 3) := snd_iload_n rfl dX7_passesReadRight_4
theorem sX7_passesReadRight_5 {h0 : Hp_} : Snd 0 108 h0 (miT TbC) RX7 cX7_passesReadRight 4 (some .int) 5 (i_aload 6 0) := snd_aload_n rfl dX7_passesReadRight_5
theorem sX7_passesReadRight_6 {h0 : Hp_} : Snd 0 108 h0 (miT TbC) RX7 cX7_passesReadRight 4 (some .int) 6 (i_getI 7 4 9) := snd_getI hl0 (fun hK ho hs hv kk => gf_X7_25 hK ho hs hv dX7_passesReadRight_6 kk)
theorem sX7_passesReadRight_9 {h0 : Hp_} : Snd 0 108 h0 (miT TbC) RX7 cX7_passesReadRight 4 (some .int) 9 (i_icmp_ge 12 56) := snd_icmp_ge dX7_passesReadRight_9 rfl
theorem sX7_passesReadRight_12 {h0 : Hp_} : Snd 0 108 h0 (miT TbC) RX7 cX7_passesReadRight 4 (some .int) 12 (i_iload 13 2) := snd_iload_n rfl dX7_passesReadRight_12
theorem sX7_passesReadRight_13 {h0 : Hp_} : Snd 0 108 h0 (miT TbC) RX7 cX7_passesReadRight 4 (some .int) 13 (i_aload 14 0) := snd_aload_n rfl dX7_passesReadRight_13
theorem sX7_passesReadRight_14 {h0 : Hp_} : Snd 0 108 h0 (miT TbC) RX7 cX7_passesReadRight 4 (some .int) 14 (i_getR 7 2 17) := snd_getR rfl (by decide) (by decide) (by decide) (fun hK ho hs hq kk => gf_X7_18 hK ho hs hq rfl dX7_passesReadRight_14 kk)
theorem sX7_passesReadRight_17 {h0 : Hp_} : Snd 0 108 h0 (miT TbC) RX7 cX7_passesReadRight 4 (some .int) 17 (i_iload 18 3) := snd_iload_n rfl dX7_passesReadRight_17
theorem sX7_passesReadRight_18 {h0 : Hp_} : Snd 0 108 h0 (miT TbC) RX7 cX7_passesReadRight 4 (some .int) 18 (i_iald 0 108 19) := snd_iald dX7_passesReadRight_18
theorem sX7_passesReadRight_19 {h0 : Hp_} : Snd 0 108 h0 (miT TbC) RX7 cX7_passesReadRight 4 (some .int) 19 (i_icmp_ge 22 50) := snd_icmp_ge dX7_passesReadRight_19 rfl
theorem sX7_passesReadRight_22 {h0 : Hp_} : Snd 0 108 h0 (miT TbC) RX7 cX7_passesReadRight 4 (some .int) 22 (i_aload 23 1) := snd_aload_n rfl dX7_passesReadRight_22
theorem sX7_passesReadRight_23 {h0 : Hp_} : Snd 0 108 h0 (miT TbC) RX7 cX7_passesReadRight 4 (some .int) 23 (i_aload 24 0) := snd_aload_n rfl dX7_passesReadRight_23
theorem sX7_passesReadRight_24 {h0 : Hp_} : Snd 0 108 h0 (miT TbC) RX7 cX7_passesReadRight 4 (some .int) 24 (i_getR 7 0 27) := snd_getR rfl (by decide) (by decide) (by decide) (fun hK ho hs hq kk => gf_X7_9 hK ho hs hq rfl dX7_passesReadRight_24 kk)
theorem sX7_passesReadRight_27 {h0 : Hp_} : Snd 0 108 h0 (miT TbC) RX7 cX7_passesReadRight 4 (some .int) 27 (i_iload 28 2) := snd_iload_n rfl dX7_passesReadRight_27
theorem sX7_passesReadRight_28 {h0 : Hp_} : Snd 0 108 h0 (miT TbC) RX7 cX7_passesReadRight 4 (some .int) 28 (i_iald 0 108 29) := snd_iald dX7_passesReadRight_28
theorem sX7_passesReadRight_29 {h0 : Hp_} : Snd 0 108 h0 (miT TbC) RX7 cX7_passesReadRight 4 (some .int) 29 (i_const 30 (vI 0)) := snd_iconst dX7_passesReadRight_29
theorem sX7_passesReadRight_30 {h0 : Hp_} : Snd 0 108 h0 (miT TbC) RX7 cX7_passesReadRight 4 (some .int) 30 (i_cV2 65 6 33) := snd_cV2 (fun hK hd hC ho hs h6 h7 h8 kk => iv_X7_34 hK (mcC_65 hC) ho hs ⟨hd, by show _ ≤ 40 * (_ + 1); omega⟩ (Nat.le_refl _) h6 h7 h8 ⟨Nat.le_refl _, Nat.le_refl _⟩ dX7_passesReadRight_30 kk)
theorem sX7_passesReadRight_33 {h0 : Hp_} : Snd 0 108 h0 (miT TbC) RX7 cX7_passesReadRight 4 (some .int) 33 (i_aload 34 0) := snd_aload_n rfl dX7_passesReadRight_33
theorem sX7_passesReadRight_34 {h0 : Hp_} : Snd 0 108 h0 (miT TbC) RX7 cX7_passesReadRight 4 (some .int) 34 (i_getR 7 1 37) := snd_getR rfl (by decide) (by decide) (by decide) (fun hK ho hs hq kk => gf_X7_15 hK ho hs hq rfl dX7_passesReadRight_34 kk)
theorem sX7_passesReadRight_37 {h0 : Hp_} : Snd 0 108 h0 (miT TbC) RX7 cX7_passesReadRight 4 (some .int) 37 (i_iload 38 2) := snd_iload_n rfl dX7_passesReadRight_37
theorem sX7_passesReadRight_38 {h0 : Hp_} : Snd 0 108 h0 (miT TbC) RX7 cX7_passesReadRight 4 (some .int) 38 (i_iald 0 108 39) := snd_iald dX7_passesReadRight_38
theorem sX7_passesReadRight_39 {h0 : Hp_} : Snd 0 108 h0 (miT TbC) RX7 cX7_passesReadRight 4 (some .int) 39 (i_icmp_eq 42 44) := snd_icmp_eq dX7_passesReadRight_39 rfl
theorem sX7_passesReadRight_42 {h0 : Hp_} : Snd 0 108 h0 (miT TbC) RX7 cX7_passesReadRight 4 (some .int) 42 (i_iload 43 3) := snd_iload_n rfl dX7_passesReadRight_42
theorem sX7_passesReadRight_43 {h0 : Hp_} : Snd 0 108 h0 (miT TbC) RX7 cX7_passesReadRight 4 (some .int) 43 (i_iret) := snd_iret dX7_passesReadRight_43
theorem sX7_passesReadRight_44 {h0 : Hp_} : Snd 0 108 h0 (miT TbC) RX7 cX7_passesReadRight 4 (some .int) 44 (i_iinc 47 2 1) := snd_iinc (by decide) dX7_passesReadRight_44
theorem sX7_passesReadRight_47 {h0 : Hp_} : Snd 0 108 h0 (miT TbC) RX7 cX7_passesReadRight 4 (some .int) 47 (i_goto 12) := snd_goto dX7_passesReadRight_47 rfl
theorem sX7_passesReadRight_50 {h0 : Hp_} : Snd 0 108 h0 (miT TbC) RX7 cX7_passesReadRight 4 (some .int) 50 (i_iinc 53 3 1) := snd_iinc (by decide) dX7_passesReadRight_50
theorem sX7_passesReadRight_53 {h0 : Hp_} : Snd 0 108 h0 (miT TbC) RX7 cX7_passesReadRight 4 (some .int) 53 (i_goto 4) := snd_goto dX7_passesReadRight_53 rfl
theorem sX7_passesReadRight_56 {h0 : Hp_} : Snd 0 108 h0 (miT TbC) RX7 cX7_passesReadRight 4 (some .int) 56 (i_aload 57 0) := snd_aload_n rfl dX7_passesReadRight_56
theorem sX7_passesReadRight_57 {h0 : Hp_} : Snd 0 108 h0 (miT TbC) RX7 cX7_passesReadRight 4 (some .int) 57 (i_getI 7 4 60) := snd_getI hl0 (fun hK ho hs hv kk => gf_X7_25 hK ho hs hv dX7_passesReadRight_57 kk)
theorem sX7_passesReadRight_60 {h0 : Hp_} : Snd 0 108 h0 (miT TbC) RX7 cX7_passesReadRight 4 (some .int) 60 (i_iret) := snd_iret dX7_passesReadRight_60
theorem kX7_passesReadRight {h0 : Hp_} : raA (okI 0 108 h0 (miT TbC) (yX7_passesReadRight, cX7_passesReadRight, 4, (some .int))) tX7_passesReadRight := (raA_br (raA_br (raA_br (raA_br (raA_br (raA_leaf sX7_passesReadRight_0) (raA_leaf sX7_passesReadRight_1)) (raA_br (raA_leaf sX7_passesReadRight_2) (raA_leaf sX7_passesReadRight_3))) (raA_br (raA_br (raA_leaf sX7_passesReadRight_4) (raA_leaf sX7_passesReadRight_5)) (raA_br (raA_leaf sX7_passesReadRight_6) (raA_leaf sX7_passesReadRight_9)))) (raA_br (raA_br (raA_br (raA_leaf sX7_passesReadRight_12) (raA_leaf sX7_passesReadRight_13)) (raA_br (raA_leaf sX7_passesReadRight_14) (raA_leaf sX7_passesReadRight_17))) (raA_br (raA_br (raA_leaf sX7_passesReadRight_18) (raA_leaf sX7_passesReadRight_19)) (raA_br (raA_leaf sX7_passesReadRight_22) (raA_br (raA_leaf sX7_passesReadRight_23) (raA_leaf sX7_passesReadRight_24)))))) (raA_br (raA_br (raA_br (raA_br (raA_leaf sX7_passesReadRight_27) (raA_leaf sX7_passesReadRight_28)) (raA_br (raA_leaf sX7_passesReadRight_29) (raA_leaf sX7_passesReadRight_30))) (raA_br (raA_br (raA_leaf sX7_passesReadRight_33) (raA_leaf sX7_passesReadRight_34)) (raA_br (raA_leaf sX7_passesReadRight_37) (raA_br (raA_leaf sX7_passesReadRight_38) (raA_leaf sX7_passesReadRight_39))))) (raA_br (raA_br (raA_br (raA_leaf sX7_passesReadRight_42) (raA_leaf sX7_passesReadRight_43)) (raA_br (raA_leaf sX7_passesReadRight_44) (raA_leaf sX7_passesReadRight_47))) (raA_br (raA_br (raA_leaf sX7_passesReadRight_50) (raA_leaf sX7_passesReadRight_53)) (raA_br (raA_leaf sX7_passesReadRight_56) (raA_br (raA_leaf sX7_passesReadRight_57) (raA_leaf sX7_passesReadRight_60)))))))
theorem sX7_tellBit_0 {h0 : Hp_} : Snd 0 108 h0 (miT TbC) RX7 cX7_tellBit 3 (some .int) 0 (i_aload 1 0) := snd_aload_n rfl dX7_tellBit_0
theorem sX7_tellBit_1 {h0 : Hp_} : Snd 0 108 h0 (miT TbC) RX7 cX7_tellBit 3 (some .int) 1 (i_getI 7 3 4) := snd_getI hl0 (fun hK ho hs hv kk => gf_X7_21 hK ho hs hv dX7_tellBit_1 kk)
theorem sX7_tellBit_4 {h0 : Hp_} : Snd 0 108 h0 (miT TbC) RX7 cX7_tellBit 3 (some .int) 4 (i_const 7 (vI 1024)) := snd_sipush (by decide) dX7_tellBit_4
theorem sX7_tellBit_7 {h0 : Hp_} : Snd 0 108 h0 (miT TbC) RX7 cX7_tellBit 3 (some .int) 7 (i_icmp_ge 10 40) := snd_icmp_ge dX7_tellBit_7 rfl
theorem sX7_tellBit_10 {h0 : Hp_} : Snd 0 108 h0 (miT TbC) RX7 cX7_tellBit 3 (some .int) 10 (i_aload 11 0) := snd_aload_n rfl dX7_tellBit_10
theorem sX7_tellBit_11 {h0 : Hp_} : Snd 0 108 h0 (miT TbC) RX7 cX7_tellBit 3 (some .int) 11 (i_getR 7 0 14) := snd_getR rfl (by decide) (by decide) (by decide) (fun hK ho hs hq kk => gf_X7_9 hK ho hs hq rfl dX7_tellBit_11 kk)
theorem sX7_tellBit_14 {h0 : Hp_} : Snd 0 108 h0 (miT TbC) RX7 cX7_tellBit 3 (some .int) 14 (i_aload 15 0) := snd_aload_n rfl dX7_tellBit_14
theorem sX7_tellBit_15 {h0 : Hp_} : Snd 0 108 h0 (miT TbC) RX7 cX7_tellBit 3 (some .int) 15 (i_getI 7 3 18) := snd_getI hl0 (fun hK ho hs hv kk => gf_X7_21 hK ho hs hv dX7_tellBit_15 kk)
theorem sX7_tellBit_18 {h0 : Hp_} : Snd 0 108 h0 (miT TbC) RX7 cX7_tellBit 3 (some .int) 18 (i_iload 19 1) := snd_iload_n rfl dX7_tellBit_18
theorem sX7_tellBit_19 {h0 : Hp_} : Snd 0 108 h0 (miT TbC) RX7 cX7_tellBit 3 (some .int) 19 (i_iast 0 108 20) := snd_iast dX7_tellBit_19
theorem sX7_tellBit_20 {h0 : Hp_} : Snd 0 108 h0 (miT TbC) RX7 cX7_tellBit 3 (some .int) 20 (i_aload 21 0) := snd_aload_n rfl dX7_tellBit_20
theorem sX7_tellBit_21 {h0 : Hp_} : Snd 0 108 h0 (miT TbC) RX7 cX7_tellBit 3 (some .int) 21 (i_getR 7 1 24) := snd_getR rfl (by decide) (by decide) (by decide) (fun hK ho hs hq kk => gf_X7_15 hK ho hs hq rfl dX7_tellBit_21 kk)
theorem sX7_tellBit_24 {h0 : Hp_} : Snd 0 108 h0 (miT TbC) RX7 cX7_tellBit 3 (some .int) 24 (i_aload 25 0) := snd_aload_n rfl dX7_tellBit_24
theorem sX7_tellBit_25 {h0 : Hp_} : Snd 0 108 h0 (miT TbC) RX7 cX7_tellBit 3 (some .int) 25 (i_getI 7 3 28) := snd_getI hl0 (fun hK ho hs hv kk => gf_X7_21 hK ho hs hv dX7_tellBit_25 kk)
theorem sX7_tellBit_28 {h0 : Hp_} : Snd 0 108 h0 (miT TbC) RX7 cX7_tellBit 3 (some .int) 28 (i_iload 29 2) := snd_iload_n rfl dX7_tellBit_28
theorem sX7_tellBit_29 {h0 : Hp_} : Snd 0 108 h0 (miT TbC) RX7 cX7_tellBit 3 (some .int) 29 (i_iast 0 108 30) := snd_iast dX7_tellBit_29
theorem sX7_tellBit_30 {h0 : Hp_} : Snd 0 108 h0 (miT TbC) RX7 cX7_tellBit 3 (some .int) 30 (i_aload 31 0) := snd_aload_n rfl dX7_tellBit_30
theorem sX7_tellBit_31 {h0 : Hp_} : Snd 0 108 h0 (miT TbC) RX7 cX7_tellBit 3 (some .int) 31 (i_dup 32) := snd_dup dX7_tellBit_31
theorem sX7_tellBit_32 {h0 : Hp_} : Snd 0 108 h0 (miT TbC) RX7 cX7_tellBit 3 (some .int) 32 (i_getI 7 3 35) := snd_getI hl0 (fun hK ho hs hv kk => gf_X7_21 hK ho hs hv dX7_tellBit_32 kk)
theorem sX7_tellBit_35 {h0 : Hp_} : Snd 0 108 h0 (miT TbC) RX7 cX7_tellBit 3 (some .int) 35 (i_const 36 (vI 1)) := snd_iconst dX7_tellBit_35
theorem sX7_tellBit_36 {h0 : Hp_} : Snd 0 108 h0 (miT TbC) RX7 cX7_tellBit 3 (some .int) 36 (i_iadd 37) := snd_iadd dX7_tellBit_36
theorem sX7_tellBit_37 {h0 : Hp_} : Snd 0 108 h0 (miT TbC) RX7 cX7_tellBit 3 (some .int) 37 (i_putI 7 3 40) := snd_putI hl0 (fun hK ho hs kk => pf_X7_21 hK ho hs dX7_tellBit_37 kk)
theorem sX7_tellBit_40 {h0 : Hp_} : Snd 0 108 h0 (miT TbC) RX7 cX7_tellBit 3 (some .int) 40 (i_iload 41 2) := snd_iload_n rfl dX7_tellBit_40
theorem sX7_tellBit_41 {h0 : Hp_} : Snd 0 108 h0 (miT TbC) RX7 cX7_tellBit 3 (some .int) 41 (i_iret) := snd_iret dX7_tellBit_41
theorem kX7_tellBit {h0 : Hp_} : raA (okI 0 108 h0 (miT TbC) (yX7_tellBit, cX7_tellBit, 3, (some .int))) tX7_tellBit := (raA_br (raA_br (raA_br (raA_br (raA_leaf sX7_tellBit_0) (raA_br (raA_leaf sX7_tellBit_1) (raA_leaf sX7_tellBit_4))) (raA_br (raA_leaf sX7_tellBit_7) (raA_br (raA_leaf sX7_tellBit_10) (raA_leaf sX7_tellBit_11)))) (raA_br (raA_br (raA_leaf sX7_tellBit_14) (raA_br (raA_leaf sX7_tellBit_15) (raA_leaf sX7_tellBit_18))) (raA_br (raA_leaf sX7_tellBit_19) (raA_br (raA_leaf sX7_tellBit_20) (raA_leaf sX7_tellBit_21))))) (raA_br (raA_br (raA_br (raA_leaf sX7_tellBit_24) (raA_br (raA_leaf sX7_tellBit_25) (raA_leaf sX7_tellBit_28))) (raA_br (raA_leaf sX7_tellBit_29) (raA_br (raA_leaf sX7_tellBit_30) (raA_leaf sX7_tellBit_31)))) (raA_br (raA_br (raA_leaf sX7_tellBit_32) (raA_br (raA_leaf sX7_tellBit_35) (raA_leaf sX7_tellBit_36))) (raA_br (raA_leaf sX7_tellBit_37) (raA_br (raA_leaf sX7_tellBit_40) (raA_leaf sX7_tellBit_41))))))
theorem sX7_tellTo_0 {h0 : Hp_} : Snd 0 108 h0 (miT TbC) RX7 cX7_tellTo 3 none 0 (i_const 1 (vI 0)) := snd_iconst dX7_tellTo_0
theorem sX7_tellTo_1 {h0 : Hp_} : Snd 0 108 h0 (miT TbC) RX7 cX7_tellTo 3 none 1 (i_istore 2 2) := snd_istore_n rfl (by decide) dX7_tellTo_1
theorem sX7_tellTo_2 {h0 : Hp_} : Snd 0 108 h0 (miT TbC) RX7 cX7_tellTo 3 none 2 (i_iload 3 2) := snd_iload_n rfl dX7_tellTo_2
theorem sX7_tellTo_3 {h0 : Hp_} : Snd 0 108 h0 (miT TbC) RX7 cX7_tellTo 3 none 3 (i_aload 4 0) := snd_aload_n rfl dX7_tellTo_3
theorem sX7_tellTo_4 {h0 : Hp_} : Snd 0 108 h0 (miT TbC) RX7 cX7_tellTo 3 none 4 (i_getI 7 3 7) := snd_getI hl0 (fun hK ho hs hv kk => gf_X7_21 hK ho hs hv dX7_tellTo_4 kk)
theorem sX7_tellTo_7 {h0 : Hp_} : Snd 0 108 h0 (miT TbC) RX7 cX7_tellTo 3 none 7 (i_icmp_ge 10 32) := snd_icmp_ge dX7_tellTo_7 rfl
theorem sX7_tellTo_10 {h0 : Hp_} : Snd 0 108 h0 (miT TbC) RX7 cX7_tellTo 3 none 10 (i_aload 11 1) := snd_aload_n rfl dX7_tellTo_10
theorem sX7_tellTo_11 {h0 : Hp_} : Snd 0 108 h0 (miT TbC) RX7 cX7_tellTo 3 none 11 (i_aload 12 0) := snd_aload_n rfl dX7_tellTo_11
theorem sX7_tellTo_12 {h0 : Hp_} : Snd 0 108 h0 (miT TbC) RX7 cX7_tellTo 3 none 12 (i_getR 7 0 15) := snd_getR rfl (by decide) (by decide) (by decide) (fun hK ho hs hq kk => gf_X7_9 hK ho hs hq rfl dX7_tellTo_12 kk)
theorem sX7_tellTo_15 {h0 : Hp_} : Snd 0 108 h0 (miT TbC) RX7 cX7_tellTo 3 none 15 (i_iload 16 2) := snd_iload_n rfl dX7_tellTo_15
theorem sX7_tellTo_16 {h0 : Hp_} : Snd 0 108 h0 (miT TbC) RX7 cX7_tellTo 3 none 16 (i_iald 0 108 17) := snd_iald dX7_tellTo_16
theorem sX7_tellTo_17 {h0 : Hp_} : Snd 0 108 h0 (miT TbC) RX7 cX7_tellTo 3 none 17 (i_aload 18 0) := snd_aload_n rfl dX7_tellTo_17
theorem sX7_tellTo_18 {h0 : Hp_} : Snd 0 108 h0 (miT TbC) RX7 cX7_tellTo 3 none 18 (i_getR 7 1 21) := snd_getR rfl (by decide) (by decide) (by decide) (fun hK ho hs hq kk => gf_X7_15 hK ho hs hq rfl dX7_tellTo_18 kk)
theorem sX7_tellTo_21 {h0 : Hp_} : Snd 0 108 h0 (miT TbC) RX7 cX7_tellTo 3 none 21 (i_iload 22 2) := snd_iload_n rfl dX7_tellTo_21
theorem sX7_tellTo_22 {h0 : Hp_} : Snd 0 108 h0 (miT TbC) RX7 cX7_tellTo 3 none 22 (i_iald 0 108 23) := snd_iald dX7_tellTo_22
theorem sX7_tellTo_23 {h0 : Hp_} : Snd 0 108 h0 (miT TbC) RX7 cX7_tellTo 3 none 23 (i_cV2 76 8 26) := snd_cV2 (fun hK hd hC ho hs h6 h7 h8 kk => iv_X7_28 hK (mcC_76 hC) ho hs ⟨hd, by show _ ≤ 40 * (_ + 1); omega⟩ (Nat.le_refl _) h6 h7 h8 ⟨Nat.le_refl _, Nat.le_refl _⟩ dX7_tellTo_23 kk)
theorem sX7_tellTo_26 {h0 : Hp_} : Snd 0 108 h0 (miT TbC) RX7 cX7_tellTo 3 none 26 (i_iinc 29 2 1) := snd_iinc (by decide) dX7_tellTo_26
theorem sX7_tellTo_29 {h0 : Hp_} : Snd 0 108 h0 (miT TbC) RX7 cX7_tellTo 3 none 29 (i_goto 2) := snd_goto dX7_tellTo_29 rfl
theorem sX7_tellTo_32 {h0 : Hp_} : Snd 0 108 h0 (miT TbC) RX7 cX7_tellTo 3 none 32 (i_vret) := snd_vret dX7_tellTo_32
theorem kX7_tellTo {h0 : Hp_} : raA (okI 0 108 h0 (miT TbC) (yX7_tellTo, cX7_tellTo, 3, none)) tX7_tellTo := (raA_br (raA_br (raA_br (raA_br (raA_leaf sX7_tellTo_0) (raA_leaf sX7_tellTo_1)) (raA_br (raA_leaf sX7_tellTo_2) (raA_leaf sX7_tellTo_3))) (raA_br (raA_br (raA_leaf sX7_tellTo_4) (raA_leaf sX7_tellTo_7)) (raA_br (raA_leaf sX7_tellTo_10) (raA_br (raA_leaf sX7_tellTo_11) (raA_leaf sX7_tellTo_12))))) (raA_br (raA_br (raA_br (raA_leaf sX7_tellTo_15) (raA_leaf sX7_tellTo_16)) (raA_br (raA_leaf sX7_tellTo_17) (raA_br (raA_leaf sX7_tellTo_18) (raA_leaf sX7_tellTo_21)))) (raA_br (raA_br (raA_leaf sX7_tellTo_22) (raA_leaf sX7_tellTo_23)) (raA_br (raA_leaf sX7_tellTo_26) (raA_br (raA_leaf sX7_tellTo_29) (raA_leaf sX7_tellTo_32))))))
theorem sX8_addBytesTo_0 {h0 : Hp_} : Snd 0 108 h0 (miT TbC) RX8 cX8_addBytesTo 4 (some .int) 0 (i_aload 1 0) := snd_aload_n rfl dX8_addBytesTo_0
theorem sX8_addBytesTo_1 {h0 : Hp_} : Snd 0 108 h0 (miT TbC) RX8 cX8_addBytesTo 4 (some .int) 1 (i_getR 8 1 4) := snd_getR rfl (by decide) (by decide) (by decide) (fun hK ho hs hq kk => gf_X8_18 hK ho hs hq rfl dX8_addBytesTo_1 kk)
theorem sX8_addBytesTo_4 {h0 : Hp_} : Snd 0 108 h0 (miT TbC) RX8 cX8_addBytesTo 4 (some .int) 4 (i_aload 5 0) := snd_aload_n rfl dX8_addBytesTo_4
theorem sX8_addBytesTo_5 {h0 : Hp_} : Snd 0 108 h0 (miT TbC) RX8 cX8_addBytesTo 4 (some .int) 5 (i_getI 8 2 8) := snd_getI hl0 (fun hK ho hs hv kk => gf_X8_25 hK ho hs hv dX8_addBytesTo_5 kk)
theorem sX8_addBytesTo_8 {h0 : Hp_} : Snd 0 108 h0 (miT TbC) RX8 cX8_addBytesTo 4 (some .int) 8 (i_const 9 (vI 1)) := snd_iconst dX8_addBytesTo_8
theorem sX8_addBytesTo_9 {h0 : Hp_} : Snd 0 108 h0 (miT TbC) RX8 cX8_addBytesTo 4 (some .int) 9 (i_isub 10) := snd_isub dX8_addBytesTo_9
theorem sX8_addBytesTo_10 {h0 : Hp_} : Snd 0 108 h0 (miT TbC) RX8 cX8_addBytesTo 4 (some .int) 10 (i_iald 0 108 11) := snd_iald dX8_addBytesTo_10
theorem sX8_addBytesTo_11 {h0 : Hp_} : Snd 0 108 h0 (miT TbC) RX8 cX8_addBytesTo 4 (some .int) 11 (i_const 14 (vI 255)) := snd_sipush (by decide) dX8_addBytesTo_11
theorem sX8_addBytesTo_14 {h0 : Hp_} : Snd 0 108 h0 (miT TbC) RX8 cX8_addBytesTo 4 (some .int) 14 (i_icmp_ne 17 26) := snd_icmp_ne dX8_addBytesTo_14 rfl
theorem sX8_addBytesTo_17 {h0 : Hp_} : Snd 0 108 h0 (miT TbC) RX8 cX8_addBytesTo 4 (some .int) 17 (i_aload 18 0) := snd_aload_n rfl dX8_addBytesTo_17
theorem sX8_addBytesTo_18 {h0 : Hp_} : Snd 0 108 h0 (miT TbC) RX8 cX8_addBytesTo 4 (some .int) 18 (i_getI 8 2 21) := snd_getI hl0 (fun hK ho hs hv kk => gf_X8_25 hK ho hs hv dX8_addBytesTo_18 kk)
theorem sX8_addBytesTo_21 {h0 : Hp_} : Snd 0 108 h0 (miT TbC) RX8 cX8_addBytesTo 4 (some .int) 21 (i_const 22 (vI 1)) := snd_iconst dX8_addBytesTo_21
theorem sX8_addBytesTo_22 {h0 : Hp_} : Snd 0 108 h0 (miT TbC) RX8 cX8_addBytesTo 4 (some .int) 22 (i_isub 23) := snd_isub dX8_addBytesTo_22
theorem sX8_addBytesTo_23 {h0 : Hp_} : Snd 0 108 h0 (miT TbC) RX8 cX8_addBytesTo 4 (some .int) 23 (i_goto 30) := snd_goto dX8_addBytesTo_23 rfl
theorem sX8_addBytesTo_26 {h0 : Hp_} : Snd 0 108 h0 (miT TbC) RX8 cX8_addBytesTo 4 (some .int) 26 (i_aload 27 0) := snd_aload_n rfl dX8_addBytesTo_26
theorem sX8_addBytesTo_27 {h0 : Hp_} : Snd 0 108 h0 (miT TbC) RX8 cX8_addBytesTo 4 (some .int) 27 (i_getI 8 2 30) := snd_getI hl0 (fun hK ho hs hv kk => gf_X8_25 hK ho hs hv dX8_addBytesTo_27 kk)
theorem sX8_addBytesTo_30 {h0 : Hp_} : Snd 0 108 h0 (miT TbC) RX8 cX8_addBytesTo 4 (some .int) 30 (i_istore 31 2) := snd_istore_n rfl (by decide) dX8_addBytesTo_30
theorem sX8_addBytesTo_31 {h0 : Hp_} : Snd 0 108 h0 (miT TbC) RX8 cX8_addBytesTo 4 (some .int) 31 (i_const 32 (vI 1)) := snd_iconst dX8_addBytesTo_31
theorem sX8_addBytesTo_32 {h0 : Hp_} : Snd 0 108 h0 (miT TbC) RX8 cX8_addBytesTo 4 (some .int) 32 (i_istore 33 3) := snd_istore_n rfl (by decide) dX8_addBytesTo_32
theorem sX8_addBytesTo_33 {h0 : Hp_} : Snd 0 108 h0 (miT TbC) RX8 cX8_addBytesTo 4 (some .int) 33 (i_iload 34 3) := snd_iload_n rfl dX8_addBytesTo_33
theorem sX8_addBytesTo_34 {h0 : Hp_} : Snd 0 108 h0 (miT TbC) RX8 cX8_addBytesTo 4 (some .int) 34 (i_iload 35 2) := snd_iload_n rfl dX8_addBytesTo_34
theorem sX8_addBytesTo_35 {h0 : Hp_} : Snd 0 108 h0 (miT TbC) RX8 cX8_addBytesTo 4 (some .int) 35 (i_icmp_ge 38 54) := snd_icmp_ge dX8_addBytesTo_35 rfl
theorem sX8_addBytesTo_38 {h0 : Hp_} : Snd 0 108 h0 (miT TbC) RX8 cX8_addBytesTo 4 (some .int) 38 (i_aload 39 1) := snd_aload_n rfl dX8_addBytesTo_38
theorem sX8_addBytesTo_39 {h0 : Hp_} : Snd 0 108 h0 (miT TbC) RX8 cX8_addBytesTo 4 (some .int) 39 (i_aload 40 0) := snd_aload_n rfl dX8_addBytesTo_39
theorem sX8_addBytesTo_40 {h0 : Hp_} : Snd 0 108 h0 (miT TbC) RX8 cX8_addBytesTo 4 (some .int) 40 (i_getR 8 1 43) := snd_getR rfl (by decide) (by decide) (by decide) (fun hK ho hs hq kk => gf_X8_18 hK ho hs hq rfl dX8_addBytesTo_40 kk)
theorem sX8_addBytesTo_43 {h0 : Hp_} : Snd 0 108 h0 (miT TbC) RX8 cX8_addBytesTo 4 (some .int) 43 (i_iload 44 3) := snd_iload_n rfl dX8_addBytesTo_43
theorem sX8_addBytesTo_44 {h0 : Hp_} : Snd 0 108 h0 (miT TbC) RX8 cX8_addBytesTo 4 (some .int) 44 (i_iald 0 108 45) := snd_iald dX8_addBytesTo_44
theorem sX8_addBytesTo_45 {h0 : Hp_} : Snd 0 108 h0 (miT TbC) RX8 cX8_addBytesTo 4 (some .int) 45 (i_cV1 20 1 48) := snd_cV1 (fun hK hd hC ho hs h6 h7 h8 kk => iv_X8_61 hK (mcC_20 hC) ho hs ⟨hd, by show _ ≤ 40 * (_ + 1); omega⟩ (Nat.le_refl _) h6 h7 h8 ⟨Nat.le_refl _, Nat.le_refl _⟩ dX8_addBytesTo_45 kk)
theorem sX8_addBytesTo_48 {h0 : Hp_} : Snd 0 108 h0 (miT TbC) RX8 cX8_addBytesTo 4 (some .int) 48 (i_iinc 51 3 1) := snd_iinc (by decide) dX8_addBytesTo_48
theorem sX8_addBytesTo_51 {h0 : Hp_} : Snd 0 108 h0 (miT TbC) RX8 cX8_addBytesTo 4 (some .int) 51 (i_goto 33) := snd_goto dX8_addBytesTo_51 rfl
theorem sX8_addBytesTo_54 {h0 : Hp_} : Snd 0 108 h0 (miT TbC) RX8 cX8_addBytesTo 4 (some .int) 54 (i_iload 55 2) := snd_iload_n rfl dX8_addBytesTo_54
theorem sX8_addBytesTo_55 {h0 : Hp_} : Snd 0 108 h0 (miT TbC) RX8 cX8_addBytesTo 4 (some .int) 55 (i_const 56 (vI 1)) := snd_iconst dX8_addBytesTo_55
theorem sX8_addBytesTo_56 {h0 : Hp_} : Snd 0 108 h0 (miT TbC) RX8 cX8_addBytesTo 4 (some .int) 56 (i_isub 57) := snd_isub dX8_addBytesTo_56
theorem sX8_addBytesTo_57 {h0 : Hp_} : Snd 0 108 h0 (miT TbC) RX8 cX8_addBytesTo 4 (some .int) 57 (i_iret) := snd_iret dX8_addBytesTo_57
theorem kX8_addBytesTo {h0 : Hp_} : raA (okI 0 108 h0 (miT TbC) (yX8_addBytesTo, cX8_addBytesTo, 4, (some .int))) tX8_addBytesTo := (raA_br (raA_br (raA_br (raA_br (raA_br (raA_leaf sX8_addBytesTo_0) (raA_leaf sX8_addBytesTo_1)) (raA_br (raA_leaf sX8_addBytesTo_4) (raA_leaf sX8_addBytesTo_5))) (raA_br (raA_br (raA_leaf sX8_addBytesTo_8) (raA_leaf sX8_addBytesTo_9)) (raA_br (raA_leaf sX8_addBytesTo_10) (raA_leaf sX8_addBytesTo_11)))) (raA_br (raA_br (raA_br (raA_leaf sX8_addBytesTo_14) (raA_leaf sX8_addBytesTo_17)) (raA_br (raA_leaf sX8_addBytesTo_18) (raA_leaf sX8_addBytesTo_21))) (raA_br (raA_br (raA_leaf sX8_addBytesTo_22) (raA_leaf sX8_addBytesTo_23)) (raA_br (raA_leaf sX8_addBytesTo_26) (raA_br (raA_leaf sX8_addBytesTo_27) (raA_leaf sX8_addBytesTo_30)))))) (raA_br (raA_br (raA_br (raA_br (raA_leaf sX8_addBytesTo_31) (raA_leaf sX8_addBytesTo_32)) (raA_br (raA_leaf sX8_addBytesTo_33) (raA_leaf sX8_addBytesTo_34))) (raA_br (raA_br (raA_leaf sX8_addBytesTo_35) (raA_leaf sX8_addBytesTo_38)) (raA_br (raA_leaf sX8_addBytesTo_39) (raA_leaf sX8_addBytesTo_40)))) (raA_br (raA_br (raA_br (raA_leaf sX8_addBytesTo_43) (raA_leaf sX8_addBytesTo_44)) (raA_br (raA_leaf sX8_addBytesTo_45) (raA_leaf sX8_addBytesTo_48))) (raA_br (raA_br (raA_leaf sX8_addBytesTo_51) (raA_leaf sX8_addBytesTo_54)) (raA_br (raA_leaf sX8_addBytesTo_55) (raA_br (raA_leaf sX8_addBytesTo_56) (raA_leaf sX8_addBytesTo_57)))))))
theorem sX8_begin_0 {h0 : Hp_} : Snd 0 108 h0 (miT TbC) RX8 cX8_begin 1 none 0 (i_aload 1 0) := snd_aload_n rfl dX8_begin_0
theorem sX8_begin_1 {h0 : Hp_} : Snd 0 108 h0 (miT TbC) RX8 cX8_begin 1 none 1 (i_getR 8 0 4) := snd_getR rfl (by decide) (by decide) (by decide) (fun hK ho hs hq kk => gf_X8_12 hK ho hs hq rfl dX8_begin_1 kk)
theorem sX8_begin_4 {h0 : Hp_} : Snd 0 108 h0 (miT TbC) RX8 cX8_begin 1 none 4 (i_cV0 29 2 7) := snd_cV0 (fun hK hd hC ho hs h6 h7 h8 kk => iv_X8_22 hK (mcC_29 hC) ho hs ⟨hd, by show _ ≤ 40 * (_ + 1); omega⟩ (Nat.le_refl _) h6 h7 h8 ⟨Nat.le_refl _, Nat.le_refl _⟩ dX8_begin_4 kk)
theorem sX8_begin_7 {h0 : Hp_} : Snd 0 108 h0 (miT TbC) RX8 cX8_begin 1 none 7 (i_aload 8 0) := snd_aload_n rfl dX8_begin_7
theorem sX8_begin_8 {h0 : Hp_} : Snd 0 108 h0 (miT TbC) RX8 cX8_begin 1 none 8 (i_getR 8 1 11) := snd_getR rfl (by decide) (by decide) (by decide) (fun hK ho hs hq kk => gf_X8_18 hK ho hs hq rfl dX8_begin_8 kk)
theorem sX8_begin_11 {h0 : Hp_} : Snd 0 108 h0 (miT TbC) RX8 cX8_begin 1 none 11 (i_const 12 (vI 0)) := snd_iconst dX8_begin_11
theorem sX8_begin_12 {h0 : Hp_} : Snd 0 108 h0 (miT TbC) RX8 cX8_begin 1 none 12 (i_const 13 (vI 0)) := snd_iconst dX8_begin_12
theorem sX8_begin_13 {h0 : Hp_} : Snd 0 108 h0 (miT TbC) RX8 cX8_begin 1 none 13 (i_iast 0 108 14) := snd_iast dX8_begin_13
theorem sX8_begin_14 {h0 : Hp_} : Snd 0 108 h0 (miT TbC) RX8 cX8_begin 1 none 14 (i_aload 15 0) := snd_aload_n rfl dX8_begin_14
theorem sX8_begin_15 {h0 : Hp_} : Snd 0 108 h0 (miT TbC) RX8 cX8_begin 1 none 15 (i_const 16 (vI 1)) := snd_iconst dX8_begin_15
theorem sX8_begin_16 {h0 : Hp_} : Snd 0 108 h0 (miT TbC) RX8 cX8_begin 1 none 16 (i_putI 8 2 19) := snd_putI hl0 (fun hK ho hs kk => pf_X8_25 hK ho hs dX8_begin_16 kk)
theorem sX8_begin_19 {h0 : Hp_} : Snd 0 108 h0 (miT TbC) RX8 cX8_begin 1 none 19 (i_aload 20 0) := snd_aload_n rfl dX8_begin_19
theorem sX8_begin_20 {h0 : Hp_} : Snd 0 108 h0 (miT TbC) RX8 cX8_begin 1 none 20 (i_const 22 (vI 32768)) := snd_ldc lc_X8_29 dX8_begin_20
theorem sX8_begin_22 {h0 : Hp_} : Snd 0 108 h0 (miT TbC) RX8 cX8_begin 1 none 22 (i_putI 8 3 25) := snd_putI hl0 (fun hK ho hs kk => pf_X8_30 hK ho hs dX8_begin_22 kk)
theorem sX8_begin_25 {h0 : Hp_} : Snd 0 108 h0 (miT TbC) RX8 cX8_begin 1 none 25 (i_aload 26 0) := snd_aload_n rfl dX8_begin_25
theorem sX8_begin_26 {h0 : Hp_} : Snd 0 108 h0 (miT TbC) RX8 cX8_begin 1 none 26 (i_const 27 (vI 0)) := snd_iconst dX8_begin_26
theorem sX8_begin_27 {h0 : Hp_} : Snd 0 108 h0 (miT TbC) RX8 cX8_begin 1 none 27 (i_putI 8 4 30) := snd_putI hl0 (fun hK ho hs kk => pf_X8_33 hK ho hs dX8_begin_27 kk)
theorem sX8_begin_30 {h0 : Hp_} : Snd 0 108 h0 (miT TbC) RX8 cX8_begin 1 none 30 (i_aload 31 0) := snd_aload_n rfl dX8_begin_30
theorem sX8_begin_31 {h0 : Hp_} : Snd 0 108 h0 (miT TbC) RX8 cX8_begin 1 none 31 (i_const 33 (vI 12)) := snd_bipush (by decide) dX8_begin_31
theorem sX8_begin_33 {h0 : Hp_} : Snd 0 108 h0 (miT TbC) RX8 cX8_begin 1 none 33 (i_putI 8 5 36) := snd_putI hl0 (fun hK ho hs kk => pf_X8_36 hK ho hs dX8_begin_33 kk)
theorem sX8_begin_36 {h0 : Hp_} : Snd 0 108 h0 (miT TbC) RX8 cX8_begin 1 none 36 (i_vret) := snd_vret dX8_begin_36
theorem kX8_begin {h0 : Hp_} : raA (okI 0 108 h0 (miT TbC) (yX8_begin, cX8_begin, 1, none)) tX8_begin := (raA_br (raA_br (raA_br (raA_br (raA_leaf sX8_begin_0) (raA_leaf sX8_begin_1)) (raA_br (raA_leaf sX8_begin_4) (raA_br (raA_leaf sX8_begin_7) (raA_leaf sX8_begin_8)))) (raA_br (raA_br (raA_leaf sX8_begin_11) (raA_leaf sX8_begin_12)) (raA_br (raA_leaf sX8_begin_13) (raA_br (raA_leaf sX8_begin_14) (raA_leaf sX8_begin_15))))) (raA_br (raA_br (raA_br (raA_leaf sX8_begin_16) (raA_leaf sX8_begin_19)) (raA_br (raA_leaf sX8_begin_20) (raA_br (raA_leaf sX8_begin_22) (raA_leaf sX8_begin_25)))) (raA_br (raA_br (raA_leaf sX8_begin_26) (raA_br (raA_leaf sX8_begin_27) (raA_leaf sX8_begin_30))) (raA_br (raA_leaf sX8_begin_31) (raA_br (raA_leaf sX8_begin_33) (raA_leaf sX8_begin_36))))))
theorem sX8_end_0 {h0 : Hp_} : Snd 0 108 h0 (miT TbC) RX8 cX8_end 2 none 0 (i_aload 1 0) := snd_aload_n rfl dX8_end_0
theorem sX8_end_1 {h0 : Hp_} : Snd 0 108 h0 (miT TbC) RX8 cX8_end 2 none 1 (i_getI 8 4 4) := snd_getI hl0 (fun hK ho hs hv kk => gf_X8_33 hK ho hs hv dX8_end_1 kk)
theorem sX8_end_4 {h0 : Hp_} : Snd 0 108 h0 (miT TbC) RX8 cX8_end 2 none 4 (i_aload 5 0) := snd_aload_n rfl dX8_end_4
theorem sX8_end_5 {h0 : Hp_} : Snd 0 108 h0 (miT TbC) RX8 cX8_end 2 none 5 (i_getI 8 3 8) := snd_getI hl0 (fun hK ho hs hv kk => gf_X8_30 hK ho hs hv dX8_end_5 kk)
theorem sX8_end_8 {h0 : Hp_} : Snd 0 108 h0 (miT TbC) RX8 cX8_end 2 none 8 (i_iadd 9) := snd_iadd dX8_end_8
theorem sX8_end_9 {h0 : Hp_} : Snd 0 108 h0 (miT TbC) RX8 cX8_end 2 none 9 (i_istore 10 1) := snd_istore_n rfl (by decide) dX8_end_9
theorem sX8_end_10 {h0 : Hp_} : Snd 0 108 h0 (miT TbC) RX8 cX8_end 2 none 10 (i_aload 11 0) := snd_aload_n rfl dX8_end_10
theorem sX8_end_11 {h0 : Hp_} : Snd 0 108 h0 (miT TbC) RX8 cX8_end 2 none 11 (i_dup 12) := snd_dup dX8_end_11
theorem sX8_end_12 {h0 : Hp_} : Snd 0 108 h0 (miT TbC) RX8 cX8_end 2 none 12 (i_getI 8 4 15) := snd_getI hl0 (fun hK ho hs hv kk => gf_X8_33 hK ho hs hv dX8_end_12 kk)
theorem sX8_end_15 {h0 : Hp_} : Snd 0 108 h0 (miT TbC) RX8 cX8_end 2 none 15 (i_const 17 (vI 65535)) := snd_ldc lc_X8_60 dX8_end_15
theorem sX8_end_17 {h0 : Hp_} : Snd 0 108 h0 (miT TbC) RX8 cX8_end 2 none 17 (i_ior 18) := snd_ior dX8_end_17
theorem sX8_end_18 {h0 : Hp_} : Snd 0 108 h0 (miT TbC) RX8 cX8_end 2 none 18 (i_putI 8 4 21) := snd_putI hl0 (fun hK ho hs kk => pf_X8_33 hK ho hs dX8_end_18 kk)
theorem sX8_end_21 {h0 : Hp_} : Snd 0 108 h0 (miT TbC) RX8 cX8_end 2 none 21 (i_aload 22 0) := snd_aload_n rfl dX8_end_21
theorem sX8_end_22 {h0 : Hp_} : Snd 0 108 h0 (miT TbC) RX8 cX8_end 2 none 22 (i_getI 8 4 25) := snd_getI hl0 (fun hK ho hs hv kk => gf_X8_33 hK ho hs hv dX8_end_22 kk)
theorem sX8_end_25 {h0 : Hp_} : Snd 0 108 h0 (miT TbC) RX8 cX8_end 2 none 25 (i_iload 26 1) := snd_iload_n rfl dX8_end_25
theorem sX8_end_26 {h0 : Hp_} : Snd 0 108 h0 (miT TbC) RX8 cX8_end 2 none 26 (i_icmp_lt 29 40) := snd_icmp_lt dX8_end_26 rfl
theorem sX8_end_29 {h0 : Hp_} : Snd 0 108 h0 (miT TbC) RX8 cX8_end 2 none 29 (i_aload 30 0) := snd_aload_n rfl dX8_end_29
theorem sX8_end_30 {h0 : Hp_} : Snd 0 108 h0 (miT TbC) RX8 cX8_end 2 none 30 (i_dup 31) := snd_dup dX8_end_30
theorem sX8_end_31 {h0 : Hp_} : Snd 0 108 h0 (miT TbC) RX8 cX8_end 2 none 31 (i_getI 8 4 34) := snd_getI hl0 (fun hK ho hs hv kk => gf_X8_33 hK ho hs hv dX8_end_31 kk)
theorem sX8_end_34 {h0 : Hp_} : Snd 0 108 h0 (miT TbC) RX8 cX8_end 2 none 34 (i_const 36 (vI 32768)) := snd_ldc lc_X8_29 dX8_end_34
theorem sX8_end_36 {h0 : Hp_} : Snd 0 108 h0 (miT TbC) RX8 cX8_end 2 none 36 (i_isub 37) := snd_isub dX8_end_36
theorem sX8_end_37 {h0 : Hp_} : Snd 0 108 h0 (miT TbC) RX8 cX8_end 2 none 37 (i_putI 8 4 40) := snd_putI hl0 (fun hK ho hs kk => pf_X8_33 hK ho hs dX8_end_37 kk)
theorem sX8_end_40 {h0 : Hp_} : Snd 0 108 h0 (miT TbC) RX8 cX8_end 2 none 40 (i_aload 41 0) := snd_aload_n rfl dX8_end_40
theorem sX8_end_41 {h0 : Hp_} : Snd 0 108 h0 (miT TbC) RX8 cX8_end 2 none 41 (i_dup 42) := snd_dup dX8_end_41
theorem sX8_end_42 {h0 : Hp_} : Snd 0 108 h0 (miT TbC) RX8 cX8_end 2 none 42 (i_getI 8 4 45) := snd_getI hl0 (fun hK ho hs hv kk => gf_X8_33 hK ho hs hv dX8_end_42 kk)
theorem sX8_end_45 {h0 : Hp_} : Snd 0 108 h0 (miT TbC) RX8 cX8_end 2 none 45 (i_aload 46 0) := snd_aload_n rfl dX8_end_45
theorem sX8_end_46 {h0 : Hp_} : Snd 0 108 h0 (miT TbC) RX8 cX8_end 2 none 46 (i_getI 8 5 49) := snd_getI hl0 (fun hK ho hs hv kk => gf_X8_36 hK ho hs hv dX8_end_46 kk)
theorem sX8_end_49 {h0 : Hp_} : Snd 0 108 h0 (miT TbC) RX8 cX8_end 2 none 49 (i_ishl 50) := snd_ishl dX8_end_49
theorem sX8_end_50 {h0 : Hp_} : Snd 0 108 h0 (miT TbC) RX8 cX8_end 2 none 50 (i_putI 8 4 53) := snd_putI hl0 (fun hK ho hs kk => pf_X8_33 hK ho hs dX8_end_50 kk)
theorem sX8_end_53 {h0 : Hp_} : Snd 0 108 h0 (miT TbC) RX8 cX8_end 2 none 53 (i_aload 54 0) := snd_aload_n rfl dX8_end_53
theorem sX8_end_54 {h0 : Hp_} : Snd 0 108 h0 (miT TbC) RX8 cX8_end 2 none 54 (i_cV0 74 8 57) := snd_cV0 (fun hK hd hC ho hs h6 h7 h8 kk => iv_X8_53 hK (mcC_74 hC) ho hs ⟨hd, by show _ ≤ 40 * (_ + 1); omega⟩ (Nat.le_refl _) h6 h7 h8 ⟨Nat.le_refl _, Nat.le_refl _⟩ dX8_end_54 kk)
theorem sX8_end_57 {h0 : Hp_} : Snd 0 108 h0 (miT TbC) RX8 cX8_end 2 none 57 (i_aload 58 0) := snd_aload_n rfl dX8_end_57
theorem sX8_end_58 {h0 : Hp_} : Snd 0 108 h0 (miT TbC) RX8 cX8_end 2 none 58 (i_dup 59) := snd_dup dX8_end_58
theorem sX8_end_59 {h0 : Hp_} : Snd 0 108 h0 (miT TbC) RX8 cX8_end 2 none 59 (i_getI 8 4 62) := snd_getI hl0 (fun hK ho hs hv kk => gf_X8_33 hK ho hs hv dX8_end_59 kk)
theorem sX8_end_62 {h0 : Hp_} : Snd 0 108 h0 (miT TbC) RX8 cX8_end 2 none 62 (i_aload 63 0) := snd_aload_n rfl dX8_end_62
theorem sX8_end_63 {h0 : Hp_} : Snd 0 108 h0 (miT TbC) RX8 cX8_end 2 none 63 (i_getI 8 5 66) := snd_getI hl0 (fun hK ho hs hv kk => gf_X8_36 hK ho hs hv dX8_end_63 kk)
theorem sX8_end_66 {h0 : Hp_} : Snd 0 108 h0 (miT TbC) RX8 cX8_end 2 none 66 (i_ishl 67) := snd_ishl dX8_end_66
theorem sX8_end_67 {h0 : Hp_} : Snd 0 108 h0 (miT TbC) RX8 cX8_end 2 none 67 (i_putI 8 4 70) := snd_putI hl0 (fun hK ho hs kk => pf_X8_33 hK ho hs dX8_end_67 kk)
theorem sX8_end_70 {h0 : Hp_} : Snd 0 108 h0 (miT TbC) RX8 cX8_end 2 none 70 (i_aload 71 0) := snd_aload_n rfl dX8_end_70
theorem sX8_end_71 {h0 : Hp_} : Snd 0 108 h0 (miT TbC) RX8 cX8_end 2 none 71 (i_cV0 74 8 74) := snd_cV0 (fun hK hd hC ho hs h6 h7 h8 kk => iv_X8_53 hK (mcC_74 hC) ho hs ⟨hd, by show _ ≤ 40 * (_ + 1); omega⟩ (Nat.le_refl _) h6 h7 h8 ⟨Nat.le_refl _, Nat.le_refl _⟩ dX8_end_71 kk)
theorem sX8_end_74 {h0 : Hp_} : Snd 0 108 h0 (miT TbC) RX8 cX8_end 2 none 74 (i_vret) := snd_vret dX8_end_74
theorem kX8_end {h0 : Hp_} : raA (okI 0 108 h0 (miT TbC) (yX8_end, cX8_end, 2, none)) tX8_end := (raA_br (raA_br (raA_br (raA_br (raA_br (raA_leaf sX8_end_0) (raA_leaf sX8_end_1)) (raA_br (raA_leaf sX8_end_4) (raA_br (raA_leaf sX8_end_5) (raA_leaf sX8_end_8)))) (raA_br (raA_br (raA_leaf sX8_end_9) (raA_leaf sX8_end_10)) (raA_br (raA_leaf sX8_end_11) (raA_br (raA_leaf sX8_end_12) (raA_leaf sX8_end_15))))) (raA_br (raA_br (raA_br (raA_leaf sX8_end_17) (raA_leaf sX8_end_18)) (raA_br (raA_leaf sX8_end_21) (raA_br (raA_leaf sX8_end_22) (raA_leaf sX8_end_25)))) (raA_br (raA_br (raA_leaf sX8_end_26) (raA_leaf sX8_end_29)) (raA_br (raA_leaf sX8_end_30) (raA_br (raA_leaf sX8_end_31) (raA_leaf sX8_end_34)))))) (raA_br (raA_br (raA_br (raA_br (raA_leaf sX8_end_36) (raA_leaf sX8_end_37)) (raA_br (raA_leaf sX8_end_40) (raA_br (raA_leaf sX8_end_41) (raA_leaf sX8_end_42)))) (raA_br (raA_br (raA_leaf sX8_end_45) (raA_leaf sX8_end_46)) (raA_br (raA_leaf sX8_end_49) (raA_br (raA_leaf sX8_end_50) (raA_leaf sX8_end_53))))) (raA_br (raA_br (raA_br (raA_leaf sX8_end_54) (raA_leaf sX8_end_57)) (raA_br (raA_leaf sX8_end_58) (raA_br (raA_leaf sX8_end_59) (raA_leaf sX8_end_62)))) (raA_br (raA_br (raA_leaf sX8_end_63) (raA_br (raA_leaf sX8_end_66) (raA_leaf sX8_end_67))) (raA_br (raA_leaf sX8_end_70) (raA_br (raA_leaf sX8_end_71) (raA_leaf sX8_end_74)))))))
theorem sX8_goOut_0 {h0 : Hp_} : Snd 0 108 h0 (miT TbC) RX8 cX8_goOut 3 none 0 (i_aload 1 0) := snd_aload_n rfl dX8_goOut_0
theorem sX8_goOut_1 {h0 : Hp_} : Snd 0 108 h0 (miT TbC) RX8 cX8_goOut 3 none 1 (i_getR 8 1 4) := snd_getR rfl (by decide) (by decide) (by decide) (fun hK ho hs hq kk => gf_X8_18 hK ho hs hq rfl dX8_goOut_1 kk)
theorem sX8_goOut_4 {h0 : Hp_} : Snd 0 108 h0 (miT TbC) RX8 cX8_goOut 3 none 4 (i_aload 5 0) := snd_aload_n rfl dX8_goOut_4
theorem sX8_goOut_5 {h0 : Hp_} : Snd 0 108 h0 (miT TbC) RX8 cX8_goOut 3 none 5 (i_getI 8 2 8) := snd_getI hl0 (fun hK ho hs hv kk => gf_X8_25 hK ho hs hv dX8_goOut_5 kk)
theorem sX8_goOut_8 {h0 : Hp_} : Snd 0 108 h0 (miT TbC) RX8 cX8_goOut 3 none 8 (i_const 9 (vI 1)) := snd_iconst dX8_goOut_8
theorem sX8_goOut_9 {h0 : Hp_} : Snd 0 108 h0 (miT TbC) RX8 cX8_goOut 3 none 9 (i_isub 10) := snd_isub dX8_goOut_9
theorem sX8_goOut_10 {h0 : Hp_} : Snd 0 108 h0 (miT TbC) RX8 cX8_goOut 3 none 10 (i_iald 0 108 11) := snd_iald dX8_goOut_10
theorem sX8_goOut_11 {h0 : Hp_} : Snd 0 108 h0 (miT TbC) RX8 cX8_goOut 3 none 11 (i_istore 12 1) := snd_istore_n rfl (by decide) dX8_goOut_11
theorem sX8_goOut_12 {h0 : Hp_} : Snd 0 108 h0 (miT TbC) RX8 cX8_goOut 3 none 12 (i_iload 13 1) := snd_iload_n rfl dX8_goOut_12
theorem sX8_goOut_13 {h0 : Hp_} : Snd 0 108 h0 (miT TbC) RX8 cX8_goOut 3 none 13 (i_const 16 (vI 255)) := snd_sipush (by decide) dX8_goOut_13
theorem sX8_goOut_16 {h0 : Hp_} : Snd 0 108 h0 (miT TbC) RX8 cX8_goOut 3 none 16 (i_icmp_eq 19 61) := snd_icmp_eq dX8_goOut_16 rfl
theorem sX8_goOut_19 {h0 : Hp_} : Snd 0 108 h0 (miT TbC) RX8 cX8_goOut 3 none 19 (i_aload 20 0) := snd_aload_n rfl dX8_goOut_19
theorem sX8_goOut_20 {h0 : Hp_} : Snd 0 108 h0 (miT TbC) RX8 cX8_goOut 3 none 20 (i_getI 8 4 23) := snd_getI hl0 (fun hK ho hs hv kk => gf_X8_33 hK ho hs hv dX8_goOut_20 kk)
theorem sX8_goOut_23 {h0 : Hp_} : Snd 0 108 h0 (miT TbC) RX8 cX8_goOut 3 none 23 (i_const 25 (vI 134217728)) := snd_ldc lc_X8_56 dX8_goOut_23
theorem sX8_goOut_25 {h0 : Hp_} : Snd 0 108 h0 (miT TbC) RX8 cX8_goOut 3 none 25 (i_icmp_lt 28 61) := snd_icmp_lt dX8_goOut_25 rfl
theorem sX8_goOut_28 {h0 : Hp_} : Snd 0 108 h0 (miT TbC) RX8 cX8_goOut 3 none 28 (i_iinc 31 1 1) := snd_iinc (by decide) dX8_goOut_28
theorem sX8_goOut_31 {h0 : Hp_} : Snd 0 108 h0 (miT TbC) RX8 cX8_goOut 3 none 31 (i_aload 32 0) := snd_aload_n rfl dX8_goOut_31
theorem sX8_goOut_32 {h0 : Hp_} : Snd 0 108 h0 (miT TbC) RX8 cX8_goOut 3 none 32 (i_getR 8 1 35) := snd_getR rfl (by decide) (by decide) (by decide) (fun hK ho hs hq kk => gf_X8_18 hK ho hs hq rfl dX8_goOut_32 kk)
theorem sX8_goOut_35 {h0 : Hp_} : Snd 0 108 h0 (miT TbC) RX8 cX8_goOut 3 none 35 (i_aload 36 0) := snd_aload_n rfl dX8_goOut_35
theorem sX8_goOut_36 {h0 : Hp_} : Snd 0 108 h0 (miT TbC) RX8 cX8_goOut 3 none 36 (i_getI 8 2 39) := snd_getI hl0 (fun hK ho hs hv kk => gf_X8_25 hK ho hs hv dX8_goOut_36 kk)
theorem sX8_goOut_39 {h0 : Hp_} : Snd 0 108 h0 (miT TbC) RX8 cX8_goOut 3 none 39 (i_const 40 (vI 1)) := snd_iconst dX8_goOut_39
theorem sX8_goOut_40 {h0 : Hp_} : Snd 0 108 h0 (miT TbC) RX8 cX8_goOut 3 none 40 (i_isub 41) := snd_isub dX8_goOut_40
theorem sX8_goOut_41 {h0 : Hp_} : Snd 0 108 h0 (miT TbC) RX8 cX8_goOut 3 none 41 (i_iload 42 1) := snd_iload_n rfl dX8_goOut_41
theorem sX8_goOut_42 {h0 : Hp_} : Snd 0 108 h0 (miT TbC) RX8 cX8_goOut 3 none 42 (i_iast 0 108 43) := snd_iast dX8_goOut_42
theorem sX8_goOut_43 {h0 : Hp_} : Snd 0 108 h0 (miT TbC) RX8 cX8_goOut 3 none 43 (i_iload 44 1) := snd_iload_n rfl dX8_goOut_43
theorem sX8_goOut_44 {h0 : Hp_} : Snd 0 108 h0 (miT TbC) RX8 cX8_goOut 3 none 44 (i_const 47 (vI 255)) := snd_sipush (by decide) dX8_goOut_44
theorem sX8_goOut_47 {h0 : Hp_} : Snd 0 108 h0 (miT TbC) RX8 cX8_goOut 3 none 47 (i_icmp_ne 50 61) := snd_icmp_ne dX8_goOut_47 rfl
theorem sX8_goOut_50 {h0 : Hp_} : Snd 0 108 h0 (miT TbC) RX8 cX8_goOut 3 none 50 (i_aload 51 0) := snd_aload_n rfl dX8_goOut_50
theorem sX8_goOut_51 {h0 : Hp_} : Snd 0 108 h0 (miT TbC) RX8 cX8_goOut 3 none 51 (i_dup 52) := snd_dup dX8_goOut_51
theorem sX8_goOut_52 {h0 : Hp_} : Snd 0 108 h0 (miT TbC) RX8 cX8_goOut 3 none 52 (i_getI 8 4 55) := snd_getI hl0 (fun hK ho hs hv kk => gf_X8_33 hK ho hs hv dX8_goOut_52 kk)
theorem sX8_goOut_55 {h0 : Hp_} : Snd 0 108 h0 (miT TbC) RX8 cX8_goOut 3 none 55 (i_const 57 (vI 134217727)) := snd_ldc lc_X8_57 dX8_goOut_55
theorem sX8_goOut_57 {h0 : Hp_} : Snd 0 108 h0 (miT TbC) RX8 cX8_goOut 3 none 57 (i_iand 58) := snd_iand dX8_goOut_57
theorem sX8_goOut_58 {h0 : Hp_} : Snd 0 108 h0 (miT TbC) RX8 cX8_goOut 3 none 58 (i_putI 8 4 61) := snd_putI hl0 (fun hK ho hs kk => pf_X8_33 hK ho hs dX8_goOut_58 kk)
theorem sX8_goOut_61 {h0 : Hp_} : Snd 0 108 h0 (miT TbC) RX8 cX8_goOut 3 none 61 (i_iload 62 1) := snd_iload_n rfl dX8_goOut_61
theorem sX8_goOut_62 {h0 : Hp_} : Snd 0 108 h0 (miT TbC) RX8 cX8_goOut 3 none 62 (i_const 65 (vI 255)) := snd_sipush (by decide) dX8_goOut_62
theorem sX8_goOut_65 {h0 : Hp_} : Snd 0 108 h0 (miT TbC) RX8 cX8_goOut 3 none 65 (i_icmp_ne 68 73) := snd_icmp_ne dX8_goOut_65 rfl
theorem sX8_goOut_68 {h0 : Hp_} : Snd 0 108 h0 (miT TbC) RX8 cX8_goOut 3 none 68 (i_const 70 (vI 1048576)) := snd_ldc lc_X8_58 dX8_goOut_68
theorem sX8_goOut_70 {h0 : Hp_} : Snd 0 108 h0 (miT TbC) RX8 cX8_goOut 3 none 70 (i_goto 75) := snd_goto dX8_goOut_70 rfl
theorem sX8_goOut_73 {h0 : Hp_} : Snd 0 108 h0 (miT TbC) RX8 cX8_goOut 3 none 73 (i_const 75 (vI 524288)) := snd_ldc lc_X8_59 dX8_goOut_73
theorem sX8_goOut_75 {h0 : Hp_} : Snd 0 108 h0 (miT TbC) RX8 cX8_goOut 3 none 75 (i_istore 76 2) := snd_istore_n rfl (by decide) dX8_goOut_75
theorem sX8_goOut_76 {h0 : Hp_} : Snd 0 108 h0 (miT TbC) RX8 cX8_goOut 3 none 76 (i_aload 77 0) := snd_aload_n rfl dX8_goOut_76
theorem sX8_goOut_77 {h0 : Hp_} : Snd 0 108 h0 (miT TbC) RX8 cX8_goOut 3 none 77 (i_getI 8 2 80) := snd_getI hl0 (fun hK ho hs hv kk => gf_X8_25 hK ho hs hv dX8_goOut_77 kk)
theorem sX8_goOut_80 {h0 : Hp_} : Snd 0 108 h0 (miT TbC) RX8 cX8_goOut 3 none 80 (i_const 83 (vI 1024)) := snd_sipush (by decide) dX8_goOut_80
theorem sX8_goOut_83 {h0 : Hp_} : Snd 0 108 h0 (miT TbC) RX8 cX8_goOut 3 none 83 (i_icmp_ge 86 115) := snd_icmp_ge dX8_goOut_83 rfl
theorem sX8_goOut_86 {h0 : Hp_} : Snd 0 108 h0 (miT TbC) RX8 cX8_goOut 3 none 86 (i_aload 87 0) := snd_aload_n rfl dX8_goOut_86
theorem sX8_goOut_87 {h0 : Hp_} : Snd 0 108 h0 (miT TbC) RX8 cX8_goOut 3 none 87 (i_getR 8 1 90) := snd_getR rfl (by decide) (by decide) (by decide) (fun hK ho hs hq kk => gf_X8_18 hK ho hs hq rfl dX8_goOut_87 kk)
theorem sX8_goOut_90 {h0 : Hp_} : Snd 0 108 h0 (miT TbC) RX8 cX8_goOut 3 none 90 (i_aload 91 0) := snd_aload_n rfl dX8_goOut_90
theorem sX8_goOut_91 {h0 : Hp_} : Snd 0 108 h0 (miT TbC) RX8 cX8_goOut 3 none 91 (i_getI 8 2 94) := snd_getI hl0 (fun hK ho hs hv kk => gf_X8_25 hK ho hs hv dX8_goOut_91 kk)
theorem sX8_goOut_94 {h0 : Hp_} : Snd 0 108 h0 (miT TbC) RX8 cX8_goOut 3 none 94 (i_aload 95 0) := snd_aload_n rfl dX8_goOut_94
theorem sX8_goOut_95 {h0 : Hp_} : Snd 0 108 h0 (miT TbC) RX8 cX8_goOut 3 none 95 (i_getI 8 4 98) := snd_getI hl0 (fun hK ho hs hv kk => gf_X8_33 hK ho hs hv dX8_goOut_95 kk)
theorem sX8_goOut_98 {h0 : Hp_} : Snd 0 108 h0 (miT TbC) RX8 cX8_goOut 3 none 98 (i_iload 99 2) := snd_iload_n rfl dX8_goOut_98
theorem sX8_goOut_99 {h0 : Hp_} : Snd 0 108 h0 (miT TbC) RX8 cX8_goOut 3 none 99 (i_idiv 100) := snd_idiv dX8_goOut_99
theorem sX8_goOut_100 {h0 : Hp_} : Snd 0 108 h0 (miT TbC) RX8 cX8_goOut 3 none 100 (i_const 103 (vI 255)) := snd_sipush (by decide) dX8_goOut_100
theorem sX8_goOut_103 {h0 : Hp_} : Snd 0 108 h0 (miT TbC) RX8 cX8_goOut 3 none 103 (i_iand 104) := snd_iand dX8_goOut_103
theorem sX8_goOut_104 {h0 : Hp_} : Snd 0 108 h0 (miT TbC) RX8 cX8_goOut 3 none 104 (i_iast 0 108 105) := snd_iast dX8_goOut_104
theorem sX8_goOut_105 {h0 : Hp_} : Snd 0 108 h0 (miT TbC) RX8 cX8_goOut 3 none 105 (i_aload 106 0) := snd_aload_n rfl dX8_goOut_105
theorem sX8_goOut_106 {h0 : Hp_} : Snd 0 108 h0 (miT TbC) RX8 cX8_goOut 3 none 106 (i_dup 107) := snd_dup dX8_goOut_106
theorem sX8_goOut_107 {h0 : Hp_} : Snd 0 108 h0 (miT TbC) RX8 cX8_goOut 3 none 107 (i_getI 8 2 110) := snd_getI hl0 (fun hK ho hs hv kk => gf_X8_25 hK ho hs hv dX8_goOut_107 kk)
theorem sX8_goOut_110 {h0 : Hp_} : Snd 0 108 h0 (miT TbC) RX8 cX8_goOut 3 none 110 (i_const 111 (vI 1)) := snd_iconst dX8_goOut_110
theorem sX8_goOut_111 {h0 : Hp_} : Snd 0 108 h0 (miT TbC) RX8 cX8_goOut 3 none 111 (i_iadd 112) := snd_iadd dX8_goOut_111
theorem sX8_goOut_112 {h0 : Hp_} : Snd 0 108 h0 (miT TbC) RX8 cX8_goOut 3 none 112 (i_putI 8 2 115) := snd_putI hl0 (fun hK ho hs kk => pf_X8_25 hK ho hs dX8_goOut_112 kk)
theorem sX8_goOut_115 {h0 : Hp_} : Snd 0 108 h0 (miT TbC) RX8 cX8_goOut 3 none 115 (i_aload 116 0) := snd_aload_n rfl dX8_goOut_115
theorem sX8_goOut_116 {h0 : Hp_} : Snd 0 108 h0 (miT TbC) RX8 cX8_goOut 3 none 116 (i_dup 117) := snd_dup dX8_goOut_116
theorem sX8_goOut_117 {h0 : Hp_} : Snd 0 108 h0 (miT TbC) RX8 cX8_goOut 3 none 117 (i_getI 8 4 120) := snd_getI hl0 (fun hK ho hs hv kk => gf_X8_33 hK ho hs hv dX8_goOut_117 kk)
theorem sX8_goOut_120 {h0 : Hp_} : Snd 0 108 h0 (miT TbC) RX8 cX8_goOut 3 none 120 (i_iload 121 2) := snd_iload_n rfl dX8_goOut_120
theorem sX8_goOut_121 {h0 : Hp_} : Snd 0 108 h0 (miT TbC) RX8 cX8_goOut 3 none 121 (i_irem 122) := snd_irem dX8_goOut_121
theorem sX8_goOut_122 {h0 : Hp_} : Snd 0 108 h0 (miT TbC) RX8 cX8_goOut 3 none 122 (i_putI 8 4 125) := snd_putI hl0 (fun hK ho hs kk => pf_X8_33 hK ho hs dX8_goOut_122 kk)
theorem sX8_goOut_125 {h0 : Hp_} : Snd 0 108 h0 (miT TbC) RX8 cX8_goOut 3 none 125 (i_aload 126 0) := snd_aload_n rfl dX8_goOut_125
theorem sX8_goOut_126 {h0 : Hp_} : Snd 0 108 h0 (miT TbC) RX8 cX8_goOut 3 none 126 (i_iload 127 1) := snd_iload_n rfl dX8_goOut_126
theorem sX8_goOut_127 {h0 : Hp_} : Snd 0 108 h0 (miT TbC) RX8 cX8_goOut 3 none 127 (i_const 130 (vI 255)) := snd_sipush (by decide) dX8_goOut_127
theorem sX8_goOut_130 {h0 : Hp_} : Snd 0 108 h0 (miT TbC) RX8 cX8_goOut 3 none 130 (i_icmp_ne 133 138) := snd_icmp_ne dX8_goOut_130 rfl
theorem sX8_goOut_133 {h0 : Hp_} : Snd 0 108 h0 (miT TbC) RX8 cX8_goOut 3 none 133 (i_const 135 (vI 7)) := snd_bipush (by decide) dX8_goOut_133
theorem sX8_goOut_135 {h0 : Hp_} : Snd 0 108 h0 (miT TbC) RX8 cX8_goOut 3 none 135 (i_goto 140) := snd_goto dX8_goOut_135 rfl
theorem sX8_goOut_138 {h0 : Hp_} : Snd 0 108 h0 (miT TbC) RX8 cX8_goOut 3 none 138 (i_const 140 (vI 8)) := snd_bipush (by decide) dX8_goOut_138
theorem sX8_goOut_140 {h0 : Hp_} : Snd 0 108 h0 (miT TbC) RX8 cX8_goOut 3 none 140 (i_putI 8 5 143) := snd_putI hl0 (fun hK ho hs kk => pf_X8_36 hK ho hs dX8_goOut_140 kk)
theorem sX8_goOut_143 {h0 : Hp_} : Snd 0 108 h0 (miT TbC) RX8 cX8_goOut 3 none 143 (i_vret) := snd_vret dX8_goOut_143
theorem kX8_goOut {h0 : Hp_} : raA (okI 0 108 h0 (miT TbC) (yX8_goOut, cX8_goOut, 3, none)) tX8_goOut := (raA_br (raA_br (raA_br (raA_br (raA_br (raA_br (raA_leaf sX8_goOut_0) (raA_leaf sX8_goOut_1)) (raA_br (raA_leaf sX8_goOut_4) (raA_leaf sX8_goOut_5))) (raA_br (raA_br (raA_leaf sX8_goOut_8) (raA_leaf sX8_goOut_9)) (raA_br (raA_leaf sX8_goOut_10) (raA_br (raA_leaf sX8_goOut_11) (raA_leaf sX8_goOut_12))))) (raA_br (raA_br (raA_br (raA_leaf sX8_goOut_13) (raA_leaf sX8_goOut_16)) (raA_br (raA_leaf sX8_goOut_19) (raA_br (raA_leaf sX8_goOut_20) (raA_leaf sX8_goOut_23)))) (raA_br (raA_br (raA_leaf sX8_goOut_25) (raA_leaf sX8_goOut_28)) (raA_br (raA_leaf sX8_goOut_31) (raA_br (raA_leaf sX8_goOut_32) (raA_leaf sX8_goOut_35)))))) (raA_br (raA_br (raA_br (raA_br (raA_leaf sX8_goOut_36) (raA_leaf sX8_goOut_39)) (raA_br (raA_leaf sX8_goOut_40) (raA_leaf sX8_goOut_41))) (raA_br (raA_br (raA_leaf sX8_goOut_42) (raA_leaf sX8_goOut_43)) (raA_br (raA_leaf sX8_goOut_44) (raA_br (raA_leaf sX8_goOut_47) (raA_leaf sX8_goOut_50))))) (raA_br (raA_br (raA_br (raA_leaf sX8_goOut_51) (raA_leaf sX8_goOut_52)) (raA_br (raA_leaf sX8_goOut_55) (raA_br (raA_leaf sX8_goOut_57) (raA_leaf sX8_goOut_58)))) (raA_br (raA_br (raA_leaf sX8_goOut_61) (raA_leaf sX8_goOut_62)) (raA_br (raA_leaf sX8_goOut_65) (raA_br (raA_leaf sX8_goOut_68) (raA_leaf sX8_goOut_70))))))) (raA_br (raA_br (raA_br (raA_br (raA_br (raA_leaf sX8_goOut_73) (raA_leaf sX8_goOut_75)) (raA_br (raA_leaf sX8_goOut_76) (raA_leaf sX8_goOut_77))) (raA_br (raA_br (raA_leaf sX8_goOut_80) (raA_leaf sX8_goOut_83)) (raA_br (raA_leaf sX8_goOut_86) (raA_br (raA_leaf sX8_goOut_87) (raA_leaf sX8_goOut_90))))) (raA_br (raA_br (raA_br (raA_leaf sX8_goOut_91) (raA_leaf sX8_goOut_94)) (raA_br (raA_leaf sX8_goOut_95) (raA_br (raA_leaf sX8_goOut_98) (raA_leaf sX8_goOut_99)))) (raA_br (raA_br (raA_leaf sX8_goOut_100) (raA_leaf sX8_goOut_103)) (raA_br (raA_leaf sX8_goOut_104) (raA_br (raA_leaf sX8_goOut_105) (raA_leaf sX8_goOut_106)))))) (raA_br (raA_br (raA_br (raA_br (raA_leaf sX8_goOut_107) (raA_leaf sX8_goOut_110)) (raA_br (raA_leaf sX8_goOut_111) (raA_leaf sX8_goOut_112))) (raA_br (raA_br (raA_leaf sX8_goOut_115) (raA_leaf sX8_goOut_116)) (raA_br (raA_leaf sX8_goOut_117) (raA_br (raA_leaf sX8_goOut_120) (raA_leaf sX8_goOut_121))))) (raA_br (raA_br (raA_br (raA_leaf sX8_goOut_122) (raA_leaf sX8_goOut_125)) (raA_br (raA_leaf sX8_goOut_126) (raA_br (raA_leaf sX8_goOut_127) (raA_leaf sX8_goOut_130)))) (raA_br (raA_br (raA_leaf sX8_goOut_133) (raA_leaf sX8_goOut_135)) (raA_br (raA_leaf sX8_goOut_138) (raA_br (raA_leaf sX8_goOut_140) (raA_leaf sX8_goOut_143))))))))
theorem sX8_mend_0 {h0 : Hp_} : Snd 0 108 h0 (miT TbC) RX8 cX8_mend 2 none 0 (i_const 1 (vI 0)) := snd_iconst dX8_mend_0
theorem sX8_mend_1 {h0 : Hp_} : Snd 0 108 h0 (miT TbC) RX8 cX8_mend 2 none 1 (i_istore 2 1) := snd_istore_n rfl (by decide) dX8_mend_1
theorem sX8_mend_2 {h0 : Hp_} : Snd 0 108 h0 (miT TbC) RX8 cX8_mend 2 none 2 (i_iload 3 1) := snd_iload_n rfl dX8_mend_2
theorem sX8_mend_3 {h0 : Hp_} : Snd 0 108 h0 (miT TbC) RX8 cX8_mend 2 none 3 (i_const 5 (vI 15)) := snd_bipush (by decide) dX8_mend_3
theorem sX8_mend_5 {h0 : Hp_} : Snd 0 108 h0 (miT TbC) RX8 cX8_mend 2 none 5 (i_icmp_ge 8 64) := snd_icmp_ge dX8_mend_5 rfl
theorem sX8_mend_8 {h0 : Hp_} : Snd 0 108 h0 (miT TbC) RX8 cX8_mend 2 none 8 (i_aload 9 0) := snd_aload_n rfl dX8_mend_8
theorem sX8_mend_9 {h0 : Hp_} : Snd 0 108 h0 (miT TbC) RX8 cX8_mend 2 none 9 (i_getI 8 3 12) := snd_getI hl0 (fun hK ho hs hv kk => gf_X8_30 hK ho hs hv dX8_mend_9 kk)
theorem sX8_mend_12 {h0 : Hp_} : Snd 0 108 h0 (miT TbC) RX8 cX8_mend 2 none 12 (i_const 14 (vI 32768)) := snd_ldc lc_X8_29 dX8_mend_12
theorem sX8_mend_14 {h0 : Hp_} : Snd 0 108 h0 (miT TbC) RX8 cX8_mend 2 none 14 (i_icmp_ge 17 64) := snd_icmp_ge dX8_mend_14 rfl
theorem sX8_mend_17 {h0 : Hp_} : Snd 0 108 h0 (miT TbC) RX8 cX8_mend 2 none 17 (i_aload 18 0) := snd_aload_n rfl dX8_mend_17
theorem sX8_mend_18 {h0 : Hp_} : Snd 0 108 h0 (miT TbC) RX8 cX8_mend 2 none 18 (i_dup 19) := snd_dup dX8_mend_18
theorem sX8_mend_19 {h0 : Hp_} : Snd 0 108 h0 (miT TbC) RX8 cX8_mend 2 none 19 (i_getI 8 3 22) := snd_getI hl0 (fun hK ho hs hv kk => gf_X8_30 hK ho hs hv dX8_mend_19 kk)
theorem sX8_mend_22 {h0 : Hp_} : Snd 0 108 h0 (miT TbC) RX8 cX8_mend 2 none 22 (i_const 23 (vI 1)) := snd_iconst dX8_mend_22
theorem sX8_mend_23 {h0 : Hp_} : Snd 0 108 h0 (miT TbC) RX8 cX8_mend 2 none 23 (i_ishl 24) := snd_ishl dX8_mend_23
theorem sX8_mend_24 {h0 : Hp_} : Snd 0 108 h0 (miT TbC) RX8 cX8_mend 2 none 24 (i_putI 8 3 27) := snd_putI hl0 (fun hK ho hs kk => pf_X8_30 hK ho hs dX8_mend_24 kk)
theorem sX8_mend_27 {h0 : Hp_} : Snd 0 108 h0 (miT TbC) RX8 cX8_mend 2 none 27 (i_aload 28 0) := snd_aload_n rfl dX8_mend_27
theorem sX8_mend_28 {h0 : Hp_} : Snd 0 108 h0 (miT TbC) RX8 cX8_mend 2 none 28 (i_dup 29) := snd_dup dX8_mend_28
theorem sX8_mend_29 {h0 : Hp_} : Snd 0 108 h0 (miT TbC) RX8 cX8_mend 2 none 29 (i_getI 8 4 32) := snd_getI hl0 (fun hK ho hs hv kk => gf_X8_33 hK ho hs hv dX8_mend_29 kk)
theorem sX8_mend_32 {h0 : Hp_} : Snd 0 108 h0 (miT TbC) RX8 cX8_mend 2 none 32 (i_const 33 (vI 1)) := snd_iconst dX8_mend_32
theorem sX8_mend_33 {h0 : Hp_} : Snd 0 108 h0 (miT TbC) RX8 cX8_mend 2 none 33 (i_ishl 34) := snd_ishl dX8_mend_33
theorem sX8_mend_34 {h0 : Hp_} : Snd 0 108 h0 (miT TbC) RX8 cX8_mend 2 none 34 (i_putI 8 4 37) := snd_putI hl0 (fun hK ho hs kk => pf_X8_33 hK ho hs dX8_mend_34 kk)
theorem sX8_mend_37 {h0 : Hp_} : Snd 0 108 h0 (miT TbC) RX8 cX8_mend 2 none 37 (i_aload 38 0) := snd_aload_n rfl dX8_mend_37
theorem sX8_mend_38 {h0 : Hp_} : Snd 0 108 h0 (miT TbC) RX8 cX8_mend 2 none 38 (i_dup 39) := snd_dup dX8_mend_38
theorem sX8_mend_39 {h0 : Hp_} : Snd 0 108 h0 (miT TbC) RX8 cX8_mend 2 none 39 (i_getI 8 5 42) := snd_getI hl0 (fun hK ho hs hv kk => gf_X8_36 hK ho hs hv dX8_mend_39 kk)
theorem sX8_mend_42 {h0 : Hp_} : Snd 0 108 h0 (miT TbC) RX8 cX8_mend 2 none 42 (i_const 43 (vI 1)) := snd_iconst dX8_mend_42
theorem sX8_mend_43 {h0 : Hp_} : Snd 0 108 h0 (miT TbC) RX8 cX8_mend 2 none 43 (i_isub 44) := snd_isub dX8_mend_43
theorem sX8_mend_44 {h0 : Hp_} : Snd 0 108 h0 (miT TbC) RX8 cX8_mend 2 none 44 (i_putI 8 5 47) := snd_putI hl0 (fun hK ho hs kk => pf_X8_36 hK ho hs dX8_mend_44 kk)
theorem sX8_mend_47 {h0 : Hp_} : Snd 0 108 h0 (miT TbC) RX8 cX8_mend 2 none 47 (i_aload 48 0) := snd_aload_n rfl dX8_mend_47
theorem sX8_mend_48 {h0 : Hp_} : Snd 0 108 h0 (miT TbC) RX8 cX8_mend 2 none 48 (i_getI 8 5 51) := snd_getI hl0 (fun hK ho hs hv kk => gf_X8_36 hK ho hs hv dX8_mend_48 kk)
theorem sX8_mend_51 {h0 : Hp_} : Snd 0 108 h0 (miT TbC) RX8 cX8_mend 2 none 51 (i_if_ne 54 58) := snd_if_ne dX8_mend_51 rfl
theorem sX8_mend_54 {h0 : Hp_} : Snd 0 108 h0 (miT TbC) RX8 cX8_mend 2 none 54 (i_aload 55 0) := snd_aload_n rfl dX8_mend_54
theorem sX8_mend_55 {h0 : Hp_} : Snd 0 108 h0 (miT TbC) RX8 cX8_mend 2 none 55 (i_cV0 74 8 58) := snd_cV0 (fun hK hd hC ho hs h6 h7 h8 kk => iv_X8_53 hK (mcC_74 hC) ho hs ⟨hd, by show _ ≤ 40 * (_ + 1); omega⟩ (Nat.le_refl _) h6 h7 h8 ⟨Nat.le_refl _, Nat.le_refl _⟩ dX8_mend_55 kk)
theorem sX8_mend_58 {h0 : Hp_} : Snd 0 108 h0 (miT TbC) RX8 cX8_mend 2 none 58 (i_iinc 61 1 1) := snd_iinc (by decide) dX8_mend_58
theorem sX8_mend_61 {h0 : Hp_} : Snd 0 108 h0 (miT TbC) RX8 cX8_mend 2 none 61 (i_goto 2) := snd_goto dX8_mend_61 rfl
theorem sX8_mend_64 {h0 : Hp_} : Snd 0 108 h0 (miT TbC) RX8 cX8_mend 2 none 64 (i_vret) := snd_vret dX8_mend_64
theorem kX8_mend {h0 : Hp_} : raA (okI 0 108 h0 (miT TbC) (yX8_mend, cX8_mend, 2, none)) tX8_mend := (raA_br (raA_br (raA_br (raA_br (raA_br (raA_leaf sX8_mend_0) (raA_leaf sX8_mend_1)) (raA_br (raA_leaf sX8_mend_2) (raA_leaf sX8_mend_3))) (raA_br (raA_br (raA_leaf sX8_mend_5) (raA_leaf sX8_mend_8)) (raA_br (raA_leaf sX8_mend_9) (raA_leaf sX8_mend_12)))) (raA_br (raA_br (raA_br (raA_leaf sX8_mend_14) (raA_leaf sX8_mend_17)) (raA_br (raA_leaf sX8_mend_18) (raA_leaf sX8_mend_19))) (raA_br (raA_br (raA_leaf sX8_mend_22) (raA_leaf sX8_mend_23)) (raA_br (raA_leaf sX8_mend_24) (raA_br (raA_leaf sX8_mend_27) (raA_leaf sX8_mend_28)))))) (raA_br (raA_br (raA_br (raA_br (raA_leaf sX8_mend_29) (raA_leaf sX8_mend_32)) (raA_br (raA_leaf sX8_mend_33) (raA_leaf sX8_mend_34))) (raA_br (raA_br (raA_leaf sX8_mend_37) (raA_leaf sX8_mend_38)) (raA_br (raA_leaf sX8_mend_39) (raA_br (raA_leaf sX8_mend_42) (raA_leaf sX8_mend_43))))) (raA_br (raA_br (raA_br (raA_leaf sX8_mend_44) (raA_leaf sX8_mend_47)) (raA_br (raA_leaf sX8_mend_48) (raA_leaf sX8_mend_51))) (raA_br (raA_br (raA_leaf sX8_mend_54) (raA_leaf sX8_mend_55)) (raA_br (raA_leaf sX8_mend_58) (raA_br (raA_leaf sX8_mend_61) (raA_leaf sX8_mend_64)))))))
theorem sX8_tell_0 {h0 : Hp_} : Snd 0 108 h0 (miT TbC) RX8 cX8_tell 5 none 0 (i_aload 1 0) := snd_aload_n rfl dX8_tell_0
theorem sX8_tell_1 {h0 : Hp_} : Snd 0 108 h0 (miT TbC) RX8 cX8_tell 5 none 1 (i_getR 8 0 4) := snd_getR rfl (by decide) (by decide) (by decide) (fun hK ho hs hq kk => gf_X8_12 hK ho hs hq rfl dX8_tell_1 kk)
theorem sX8_tell_4 {h0 : Hp_} : Snd 0 108 h0 (miT TbC) RX8 cX8_tell 5 none 4 (i_iload 5 1) := snd_iload_n rfl dX8_tell_4
theorem sX8_tell_5 {h0 : Hp_} : Snd 0 108 h0 (miT TbC) RX8 cX8_tell 5 none 5 (i_cV1 32 2 8) := snd_cV1 (fun hK hd hC ho hs h6 h7 h8 kk => iv_X8_39 hK (mcC_32 hC) ho hs ⟨hd, by show _ ≤ 40 * (_ + 1); omega⟩ (Nat.le_refl _) h6 h7 h8 ⟨Nat.le_refl _, Nat.le_refl _⟩ dX8_tell_5 kk)
theorem sX8_tell_8 {h0 : Hp_} : Snd 0 108 h0 (miT TbC) RX8 cX8_tell 5 none 8 (i_istore 9 3) := snd_istore_n rfl (by decide) dX8_tell_8
theorem sX8_tell_9 {h0 : Hp_} : Snd 0 108 h0 (miT TbC) RX8 cX8_tell 5 none 9 (i_iload 10 2) := snd_iload_n rfl dX8_tell_9
theorem sX8_tell_10 {h0 : Hp_} : Snd 0 108 h0 (miT TbC) RX8 cX8_tell 5 none 10 (i_aload 11 0) := snd_aload_n rfl dX8_tell_10
theorem sX8_tell_11 {h0 : Hp_} : Snd 0 108 h0 (miT TbC) RX8 cX8_tell 5 none 11 (i_getR 8 0 14) := snd_getR rfl (by decide) (by decide) (by decide) (fun hK ho hs hq kk => gf_X8_12 hK ho hs hq rfl dX8_tell_11 kk)
theorem sX8_tell_14 {h0 : Hp_} : Snd 0 108 h0 (miT TbC) RX8 cX8_tell 5 none 14 (i_iload 15 1) := snd_iload_n rfl dX8_tell_14
theorem sX8_tell_15 {h0 : Hp_} : Snd 0 108 h0 (miT TbC) RX8 cX8_tell 5 none 15 (i_cV1 31 2 18) := snd_cV1 (fun hK hd hC ho hs h6 h7 h8 kk => iv_X8_43 hK (mcC_31 hC) ho hs ⟨hd, by show _ ≤ 40 * (_ + 1); omega⟩ (Nat.le_refl _) h6 h7 h8 ⟨Nat.le_refl _, Nat.le_refl _⟩ dX8_tell_15 kk)
theorem sX8_tell_18 {h0 : Hp_} : Snd 0 108 h0 (miT TbC) RX8 cX8_tell 5 none 18 (i_icmp_ne 21 25) := snd_icmp_ne dX8_tell_18 rfl
theorem sX8_tell_21 {h0 : Hp_} : Snd 0 108 h0 (miT TbC) RX8 cX8_tell 5 none 21 (i_const 22 (vI 1)) := snd_iconst dX8_tell_21
theorem sX8_tell_22 {h0 : Hp_} : Snd 0 108 h0 (miT TbC) RX8 cX8_tell 5 none 22 (i_goto 26) := snd_goto dX8_tell_22 rfl
theorem sX8_tell_25 {h0 : Hp_} : Snd 0 108 h0 (miT TbC) RX8 cX8_tell 5 none 25 (i_const 26 (vI 0)) := snd_iconst dX8_tell_25
theorem sX8_tell_26 {h0 : Hp_} : Snd 0 108 h0 (miT TbC) RX8 cX8_tell 5 none 26 (i_istore 28 4) := snd_istore (by decide) dX8_tell_26
theorem sX8_tell_28 {h0 : Hp_} : Snd 0 108 h0 (miT TbC) RX8 cX8_tell 5 none 28 (i_aload 29 0) := snd_aload_n rfl dX8_tell_28
theorem sX8_tell_29 {h0 : Hp_} : Snd 0 108 h0 (miT TbC) RX8 cX8_tell 5 none 29 (i_dup 30) := snd_dup dX8_tell_29
theorem sX8_tell_30 {h0 : Hp_} : Snd 0 108 h0 (miT TbC) RX8 cX8_tell 5 none 30 (i_getI 8 3 33) := snd_getI hl0 (fun hK ho hs hv kk => gf_X8_30 hK ho hs hv dX8_tell_30 kk)
theorem sX8_tell_33 {h0 : Hp_} : Snd 0 108 h0 (miT TbC) RX8 cX8_tell 5 none 33 (i_iload 34 3) := snd_iload_n rfl dX8_tell_33
theorem sX8_tell_34 {h0 : Hp_} : Snd 0 108 h0 (miT TbC) RX8 cX8_tell 5 none 34 (i_isub 35) := snd_isub dX8_tell_34
theorem sX8_tell_35 {h0 : Hp_} : Snd 0 108 h0 (miT TbC) RX8 cX8_tell 5 none 35 (i_putI 8 3 38) := snd_putI hl0 (fun hK ho hs kk => pf_X8_30 hK ho hs dX8_tell_35 kk)
theorem sX8_tell_38 {h0 : Hp_} : Snd 0 108 h0 (miT TbC) RX8 cX8_tell 5 none 38 (i_iload 40 4) := snd_iload dX8_tell_38
theorem sX8_tell_40 {h0 : Hp_} : Snd 0 108 h0 (miT TbC) RX8 cX8_tell 5 none 40 (i_if_eq 43 63) := snd_if_eq dX8_tell_40 rfl
theorem sX8_tell_43 {h0 : Hp_} : Snd 0 108 h0 (miT TbC) RX8 cX8_tell 5 none 43 (i_aload 44 0) := snd_aload_n rfl dX8_tell_43
theorem sX8_tell_44 {h0 : Hp_} : Snd 0 108 h0 (miT TbC) RX8 cX8_tell 5 none 44 (i_getI 8 3 47) := snd_getI hl0 (fun hK ho hs hv kk => gf_X8_30 hK ho hs hv dX8_tell_44 kk)
theorem sX8_tell_47 {h0 : Hp_} : Snd 0 108 h0 (miT TbC) RX8 cX8_tell 5 none 47 (i_const 49 (vI 32768)) := snd_ldc lc_X8_29 dX8_tell_47
theorem sX8_tell_49 {h0 : Hp_} : Snd 0 108 h0 (miT TbC) RX8 cX8_tell 5 none 49 (i_icmp_lt 52 63) := snd_icmp_lt dX8_tell_49 rfl
theorem sX8_tell_52 {h0 : Hp_} : Snd 0 108 h0 (miT TbC) RX8 cX8_tell 5 none 52 (i_aload 53 0) := snd_aload_n rfl dX8_tell_52
theorem sX8_tell_53 {h0 : Hp_} : Snd 0 108 h0 (miT TbC) RX8 cX8_tell 5 none 53 (i_dup 54) := snd_dup dX8_tell_53
theorem sX8_tell_54 {h0 : Hp_} : Snd 0 108 h0 (miT TbC) RX8 cX8_tell 5 none 54 (i_getI 8 4 57) := snd_getI hl0 (fun hK ho hs hv kk => gf_X8_33 hK ho hs hv dX8_tell_54 kk)
theorem sX8_tell_57 {h0 : Hp_} : Snd 0 108 h0 (miT TbC) RX8 cX8_tell 5 none 57 (i_iload 58 3) := snd_iload_n rfl dX8_tell_57
theorem sX8_tell_58 {h0 : Hp_} : Snd 0 108 h0 (miT TbC) RX8 cX8_tell 5 none 58 (i_iadd 59) := snd_iadd dX8_tell_58
theorem sX8_tell_59 {h0 : Hp_} : Snd 0 108 h0 (miT TbC) RX8 cX8_tell 5 none 59 (i_putI 8 4 62) := snd_putI hl0 (fun hK ho hs kk => pf_X8_33 hK ho hs dX8_tell_59 kk)
theorem sX8_tell_62 {h0 : Hp_} : Snd 0 108 h0 (miT TbC) RX8 cX8_tell 5 none 62 (i_vret) := snd_vret dX8_tell_62
theorem sX8_tell_63 {h0 : Hp_} : Snd 0 108 h0 (miT TbC) RX8 cX8_tell 5 none 63 (i_iload 65 4) := snd_iload dX8_tell_63
theorem sX8_tell_65 {h0 : Hp_} : Snd 0 108 h0 (miT TbC) RX8 cX8_tell 5 none 65 (i_aload 66 0) := snd_aload_n rfl dX8_tell_65
theorem sX8_tell_66 {h0 : Hp_} : Snd 0 108 h0 (miT TbC) RX8 cX8_tell 5 none 66 (i_getI 8 3 69) := snd_getI hl0 (fun hK ho hs hv kk => gf_X8_30 hK ho hs hv dX8_tell_66 kk)
theorem sX8_tell_69 {h0 : Hp_} : Snd 0 108 h0 (miT TbC) RX8 cX8_tell 5 none 69 (i_iload 70 3) := snd_iload_n rfl dX8_tell_69
theorem sX8_tell_70 {h0 : Hp_} : Snd 0 108 h0 (miT TbC) RX8 cX8_tell 5 none 70 (i_icmp_ge 73 77) := snd_icmp_ge dX8_tell_70 rfl
theorem sX8_tell_73 {h0 : Hp_} : Snd 0 108 h0 (miT TbC) RX8 cX8_tell 5 none 73 (i_const 74 (vI 1)) := snd_iconst dX8_tell_73
theorem sX8_tell_74 {h0 : Hp_} : Snd 0 108 h0 (miT TbC) RX8 cX8_tell 5 none 74 (i_goto 78) := snd_goto dX8_tell_74 rfl
theorem sX8_tell_77 {h0 : Hp_} : Snd 0 108 h0 (miT TbC) RX8 cX8_tell 5 none 77 (i_const 78 (vI 0)) := snd_iconst dX8_tell_77
theorem sX8_tell_78 {h0 : Hp_} : Snd 0 108 h0 (miT TbC) RX8 cX8_tell 5 none 78 (i_icmp_ne 81 89) := snd_icmp_ne dX8_tell_78 rfl
theorem sX8_tell_81 {h0 : Hp_} : Snd 0 108 h0 (miT TbC) RX8 cX8_tell 5 none 81 (i_aload 82 0) := snd_aload_n rfl dX8_tell_81
theorem sX8_tell_82 {h0 : Hp_} : Snd 0 108 h0 (miT TbC) RX8 cX8_tell 5 none 82 (i_iload 83 3) := snd_iload_n rfl dX8_tell_82
theorem sX8_tell_83 {h0 : Hp_} : Snd 0 108 h0 (miT TbC) RX8 cX8_tell 5 none 83 (i_putI 8 3 86) := snd_putI hl0 (fun hK ho hs kk => pf_X8_30 hK ho hs dX8_tell_83 kk)
theorem sX8_tell_86 {h0 : Hp_} : Snd 0 108 h0 (miT TbC) RX8 cX8_tell 5 none 86 (i_goto 99) := snd_goto dX8_tell_86 rfl
theorem sX8_tell_89 {h0 : Hp_} : Snd 0 108 h0 (miT TbC) RX8 cX8_tell 5 none 89 (i_aload 90 0) := snd_aload_n rfl dX8_tell_89
theorem sX8_tell_90 {h0 : Hp_} : Snd 0 108 h0 (miT TbC) RX8 cX8_tell 5 none 90 (i_dup 91) := snd_dup dX8_tell_90
theorem sX8_tell_91 {h0 : Hp_} : Snd 0 108 h0 (miT TbC) RX8 cX8_tell 5 none 91 (i_getI 8 4 94) := snd_getI hl0 (fun hK ho hs hv kk => gf_X8_33 hK ho hs hv dX8_tell_91 kk)
theorem sX8_tell_94 {h0 : Hp_} : Snd 0 108 h0 (miT TbC) RX8 cX8_tell 5 none 94 (i_iload 95 3) := snd_iload_n rfl dX8_tell_94
theorem sX8_tell_95 {h0 : Hp_} : Snd 0 108 h0 (miT TbC) RX8 cX8_tell 5 none 95 (i_iadd 96) := snd_iadd dX8_tell_95
theorem sX8_tell_96 {h0 : Hp_} : Snd 0 108 h0 (miT TbC) RX8 cX8_tell 5 none 96 (i_putI 8 4 99) := snd_putI hl0 (fun hK ho hs kk => pf_X8_33 hK ho hs dX8_tell_96 kk)
theorem sX8_tell_99 {h0 : Hp_} : Snd 0 108 h0 (miT TbC) RX8 cX8_tell 5 none 99 (i_aload 100 0) := snd_aload_n rfl dX8_tell_99
theorem sX8_tell_100 {h0 : Hp_} : Snd 0 108 h0 (miT TbC) RX8 cX8_tell 5 none 100 (i_getR 8 0 103) := snd_getR rfl (by decide) (by decide) (by decide) (fun hK ho hs hq kk => gf_X8_12 hK ho hs hq rfl dX8_tell_100 kk)
theorem sX8_tell_103 {h0 : Hp_} : Snd 0 108 h0 (miT TbC) RX8 cX8_tell 5 none 103 (i_iload 104 1) := snd_iload_n rfl dX8_tell_103
theorem sX8_tell_104 {h0 : Hp_} : Snd 0 108 h0 (miT TbC) RX8 cX8_tell 5 none 104 (i_iload 105 2) := snd_iload_n rfl dX8_tell_104
theorem sX8_tell_105 {h0 : Hp_} : Snd 0 108 h0 (miT TbC) RX8 cX8_tell 5 none 105 (i_cV2 30 2 108) := snd_cV2 (fun hK hd hC ho hs h6 h7 h8 kk => iv_X8_46 hK (mcC_30 hC) ho hs ⟨hd, by show _ ≤ 40 * (_ + 1); omega⟩ (Nat.le_refl _) h6 h7 h8 ⟨Nat.le_refl _, Nat.le_refl _⟩ dX8_tell_105 kk)
theorem sX8_tell_108 {h0 : Hp_} : Snd 0 108 h0 (miT TbC) RX8 cX8_tell 5 none 108 (i_aload 109 0) := snd_aload_n rfl dX8_tell_108
theorem sX8_tell_109 {h0 : Hp_} : Snd 0 108 h0 (miT TbC) RX8 cX8_tell 5 none 109 (i_cV0 75 8 112) := snd_cV0 (fun hK hd hC ho hs h6 h7 h8 kk => iv_X8_50 hK (mcC_75 hC) ho hs ⟨hd, by show _ ≤ 40 * (_ + 1); omega⟩ (Nat.le_refl _) h6 h7 h8 ⟨Nat.le_refl _, Nat.le_refl _⟩ dX8_tell_109 kk)
theorem sX8_tell_112 {h0 : Hp_} : Snd 0 108 h0 (miT TbC) RX8 cX8_tell 5 none 112 (i_vret) := snd_vret dX8_tell_112
theorem kX8_tell {h0 : Hp_} : raA (okI 0 108 h0 (miT TbC) (yX8_tell, cX8_tell, 5, none)) tX8_tell := (raA_br (raA_br (raA_br (raA_br (raA_br (raA_leaf sX8_tell_0) (raA_br (raA_leaf sX8_tell_1) (raA_leaf sX8_tell_4))) (raA_br (raA_br (raA_leaf sX8_tell_5) (raA_leaf sX8_tell_8)) (raA_br (raA_leaf sX8_tell_9) (raA_leaf sX8_tell_10)))) (raA_br (raA_br (raA_br (raA_leaf sX8_tell_11) (raA_leaf sX8_tell_14)) (raA_br (raA_leaf sX8_tell_15) (raA_leaf sX8_tell_18))) (raA_br (raA_br (raA_leaf sX8_tell_21) (raA_leaf sX8_tell_22)) (raA_br (raA_leaf sX8_tell_25) (raA_leaf sX8_tell_26))))) (raA_br (raA_br (raA_br (raA_leaf sX8_tell_28) (raA_br (raA_leaf sX8_tell_29) (raA_leaf sX8_tell_30))) (raA_br (raA_br (raA_leaf sX8_tell_33) (raA_leaf sX8_tell_34)) (raA_br (raA_leaf sX8_tell_35) (raA_leaf sX8_tell_38)))) (raA_br (raA_br (raA_br (raA_leaf sX8_tell_40) (raA_leaf sX8_tell_43)) (raA_br (raA_leaf sX8_tell_44) (raA_leaf sX8_tell_47))) (raA_br (raA_br (raA_leaf sX8_tell_49) (raA_leaf sX8_tell_52)) (raA_br (raA_leaf sX8_tell_53) (raA_leaf sX8_tell_54)))))) (raA_br (raA_br (raA_br (raA_br (raA_leaf sX8_tell_57) (raA_br (raA_leaf sX8_tell_58) (raA_leaf sX8_tell_59))) (raA_br (raA_br (raA_leaf sX8_tell_62) (raA_leaf sX8_tell_63)) (raA_br (raA_leaf sX8_tell_65) (raA_leaf sX8_tell_66)))) (raA_br (raA_br (raA_br (raA_leaf sX8_tell_69) (raA_leaf sX8_tell_70)) (raA_br (raA_leaf sX8_tell_73) (raA_leaf sX8_tell_74))) (raA_br (raA_br (raA_leaf sX8_tell_77) (raA_leaf sX8_tell_78)) (raA_br (raA_leaf sX8_tell_81) (raA_leaf sX8_tell_82))))) (raA_br (raA_br (raA_br (raA_br (raA_leaf sX8_tell_83) (raA_leaf sX8_tell_86)) (raA_br (raA_leaf sX8_tell_89) (raA_leaf sX8_tell_90))) (raA_br (raA_br (raA_leaf sX8_tell_91) (raA_leaf sX8_tell_94)) (raA_br (raA_leaf sX8_tell_95) (raA_leaf sX8_tell_96)))) (raA_br (raA_br (raA_br (raA_leaf sX8_tell_99) (raA_leaf sX8_tell_100)) (raA_br (raA_leaf sX8_tell_103) (raA_leaf sX8_tell_104))) (raA_br (raA_br (raA_leaf sX8_tell_105) (raA_leaf sX8_tell_108)) (raA_br (raA_leaf sX8_tell_109) (raA_leaf sX8_tell_112)))))))

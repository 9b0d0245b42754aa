set_option maxRecDepth 20000 in
theorem s_X12_byteAt_73 (k : Int) (h : Hp_) (hT : TY h) (hk : 0 ≤ k ∧ k ≤ 5000) : Ctr yX12_byteAt cX12_byteAt 2 (some .int) (rmd 0) ly ly 0 0 [vR 73, vI k] h (fun r h' => (TY h' ∧ FRM [] [] h h') ∧ ∃ z : Int, r = some (vI z) ∧ (-2147483648 ≤ z ∧ z ≤ 2147483647) ∧ (z ≠ 255 → k < 4400)) := by
  refine Ctr_of (by decide) (Nat.le_of_ble_eq_true rfl) ⟨Nat.le_refl _, Nat.le_refl _⟩ (fun K hK hQ _ => ?_)
  show TT K ly 0 0 0 [(0, vR 73), (1, vI k)] [] h
  have hF : FRM [] [] h h := FRM_rf _ _ _
  refine TT_iload_n hK rfl 1 rfl dX12_byteAt_0 ?_
  refine TT_aload_n hK rfl 0 rfl dX12_byteAt_1 ?_
  refine gf_X12_202 hK (by decide) rfl (v := (h 73) 38) rfl dX12_byteAt_2 ?_
  have r1 := ty_73_38 (v := (h 73) 38) hT rfl
  refine TT_icmp_ge hK (tgt := 17) (irm (by omega) (by omega)) (irm (by omega) (by omega)) dX12_byteAt_5 (by decide) (fun hb5_2 => ?_) (fun hb5_2 => ?_)
  · refine TT_sipush hK (by decide) dX12_byteAt_17 ?_
    refine TT_iret hK hQ ?_ dX12_byteAt_20
    exact ⟨⟨hT, hF⟩, 255, rfl, (by omega), (by omega)⟩
  · refine TT_aload_n hK rfl 0 rfl dX12_byteAt_8 ?_
    refine gf_X12_93 hK (by decide) rfl (q := 99) rfl rfl dX12_byteAt_9 ?_
    refine TT_iload_n hK rfl 1 rfl dX12_byteAt_12 ?_
    refine TT_iald hK (o := 99) (n := 4400) (by decide) rfl (by first | omega | (simp [up, setR] <;> omega)) (by first | omega | (simp [up, setR] <;> omega)) (v := (h 99) k) rfl dX12_byteAt_13 ?_
    have r3 := ty_99 (i := k) (v := (h 99) k) hT rfl (by omega) (by omega)
    refine TT_goto hK (tgt := 20) dX12_byteAt_14 (by decide) ?_
    refine TT_iret hK hQ ?_ dX12_byteAt_20
    exact ⟨⟨hT, hF⟩, ((h 99) k), rfl, (by omega), (by omega)⟩
set_option maxRecDepth 20000 in
theorem s_X12_takeIn_73 (h : Hp_) (hT : TY h)  : Ctr yX12_takeIn cX12_takeIn 2 none (rmd 1) ly ly 0 0 [vR 73] h (fun r h' => (TY h' ∧ FRM [73] [33, 34, 39] h h') ∧ r = none ∧ (7 ≤ (h' 73 34))) := by
  refine Ctr_of (by decide) (Nat.le_of_ble_eq_true rfl) ⟨Nat.le_refl _, Nat.le_refl _⟩ (fun K hK hQ _ => ?_)
  show TT K ly 0 0 0 [(0, vR 73)] [] h
  have hF : FRM [73] [33, 34, 39] h h := FRM_rf _ _ _
  refine TT_aload_n hK rfl 0 rfl dX12_takeIn_0 ?_
  refine TT_aload_n hK rfl 0 rfl dX12_takeIn_1 ?_
  refine gf_X12_205 hK (by decide) rfl (v := (h 73) 39) rfl dX12_takeIn_2 ?_
  have r1 := ty_73_39 (v := (h 73) 39) hT rfl
  refine iv_X12_208 hK (s_X12_byteAt_73 ((h 73) 39) h hT (by first | omega | (simp [up, setR] <;> omega))) (by decide) rfl ⟨by decide, by decide⟩ (by decide) rfl rfl (Nat.le_of_ble_eq_true rfl) ⟨by decide, by decide⟩ dX12_takeIn_5 ?_
  intro r9 g5_2 hp9
  obtain ⟨⟨hT_2, hG_2⟩, z5_2, hr9, hz_2, p1_2⟩ := hp9
  rw [hr9]
  have hF_2 : FRM [73] [33, 34, 39] h g5_2 := FRM_tr hF hG_2 (by decide) (by decide)
  show TT K ly 0 0 8 [(0, vR 73)] [vI z5_2] g5_2
  refine TT_sipush hK (by decide) dX12_takeIn_8 ?_
  refine TT_icmp_ne hK (tgt := 18) (irm (by omega) (by omega)) (by decide) dX12_takeIn_11 (by decide) (fun hb11_3 => ?_) (fun hb11_3 => ?_)
  · refine TT_iconst hK dX12_takeIn_18 ?_
    refine TT_istore_n hK rfl (lv' := [(1, vI 0), (0, vR 73)]) (by decide) rfl dX12_takeIn_19 ?_
    refine TT_iload_n hK rfl 0 rfl dX12_takeIn_20 ?_
    refine TT_if_eq hK (tgt := 59) (by decide) dX12_takeIn_21 (by decide) (fun hb21_4 => ?_) (fun hb21_4 => ?_)
    · refine TT_aload_n hK rfl 1 rfl dX12_takeIn_59 ?_
      refine TT_dup hK rfl dX12_takeIn_60 ?_
      refine gf_X12_205 hK (by decide) rfl (v := (h 73) 39) (rd_ (hG_2.1 73 (by decide)) rfl) dX12_takeIn_61 ?_
      refine TT_iconst hK dX12_takeIn_64 ?_
      refine TT_iadd hK dX12_takeIn_65 ?_
      refine pf_X12_205 hK (by decide) rfl dX12_takeIn_66 ?_
      refine TT_hp (h' := setO g5_2 73 (fup (h 73) 39 (((h 73) 39) + 1))) (up_can (hG_2.1 73 (by decide)) rfl rfl) ?_
      have hT_5 : TY (setO g5_2 73 (fup (h 73) 39 (((h 73) 39) + 1))) := tu_73_39 hT_2 (show up g5_2 73 39 (((h 73) 39) + 1) = (setO g5_2 73 (fup (h 73) 39 (((h 73) 39) + 1))) from up_can (hG_2.1 73 (by decide)) rfl rfl) (by omega)
      have hF_5 : FRM [73] [33, 34, 39] h (setO g5_2 73 (fup (h 73) 39 (((h 73) 39) + 1))) := FRM_f (show up g5_2 73 39 (((h 73) 39) + 1) = (setO g5_2 73 (fup (h 73) 39 (((h 73) 39) + 1))) from up_can (hG_2.1 73 (by decide)) rfl rfl) hF_2 (by decide) (by decide)
      refine TT_aload_n hK rfl 1 rfl dX12_takeIn_69 ?_
      refine TT_aload_n hK rfl 1 rfl dX12_takeIn_70 ?_
      refine gf_X12_175 hK (by decide) rfl (v := (h 73) 33) (rd_ (sOf_eq _ _ _) (fup_ne _ _ (by decide))) dX12_takeIn_71 ?_
      have r6 := ty_73_33 (v := (h 73) 33) hT_5 (rd_ (sOf_eq _ _ _) (fup_ne _ _ (by decide)))
      refine TT_aload_n hK rfl 1 rfl dX12_takeIn_74 ?_
      refine TT_aload_n hK rfl 1 rfl dX12_takeIn_75 ?_
      refine gf_X12_205 hK (by decide) rfl (v := ((h 73) 39) + 1) (rd_ (sOf_eq _ _ _) (fup_eq _ _ _)) dX12_takeIn_76 ?_
      have r7 := ty_73_39 (v := ((h 73) 39) + 1) hT_5 (rd_ (sOf_eq _ _ _) (fup_eq _ _ _))
      refine iv_X12_208 hK (s_X12_byteAt_73 (((h 73) 39) + 1) (setO g5_2 73 (fup (h 73) 39 (((h 73) 39) + 1))) hT_5 (by first | omega | (simp [up, setR] <;> omega))) (by decide) rfl ⟨by decide, by decide⟩ (by decide) rfl rfl (Nat.le_of_ble_eq_true rfl) ⟨by decide, by decide⟩ dX12_takeIn_79 ?_
      intro r9 g79_8 hp9
      obtain ⟨⟨hT_8, hG_8⟩, z79_8, hr9, hz_8, p1_8⟩ := hp9
      rw [hr9]
      have hF_8 : FRM [73] [33, 34, 39] h g79_8 := FRM_tr hF_5 hG_8 (by decide) (by decide)
      show TT K ly 0 0 82 [(1, vI 0), (0, vR 73)] [vI z79_8, vJ ((h 73) 33), vR 73] g79_8
      refine TT_i2l hK (irm (by omega) (by omega)) dX12_takeIn_82 ?_
      refine TT_iload_n hK rfl 0 rfl dX12_takeIn_83 ?_
      refine TT_if_eq hK (tgt := 93) (by decide) dX12_takeIn_84 (by decide) (fun hb84_9 => ?_) (fun hb84_9 => ?_)
      · refine TT_ldc2 hK lc_X12_187 dX12_takeIn_93 ?_
        refine TT_lmul hK dX12_takeIn_96 ?_
        refine TT_ladd hK dX12_takeIn_97 ?_
        refine TT_w64f (fun x98_10 hx10 => ?_)
        refine pf_X12_175 hK (by decide) rfl dX12_takeIn_98 ?_
        refine TT_hp (h' := setO g79_8 73 (fup (fup (h 73) 33 x98_10) 39 (((h 73) 39) + 1))) (up_can (((hG_8.1 73 (by decide))).trans (sOf_eq _ _ _)) (fup_comm _ _ _ (by decide)) rfl) ?_
        have hT_11 : TY (setO g79_8 73 (fup (fup (h 73) 33 x98_10) 39 (((h 73) 39) + 1))) := tu_73_33 hT_8 (show up g79_8 73 33 x98_10 = (setO g79_8 73 (fup (fup (h 73) 33 x98_10) 39 (((h 73) 39) + 1))) from up_can (((hG_8.1 73 (by decide))).trans (sOf_eq _ _ _)) (fup_comm _ _ _ (by decide)) rfl) (by omega)
        have hF_11 : FRM [73] [33, 34, 39] h (setO g79_8 73 (fup (fup (h 73) 33 x98_10) 39 (((h 73) 39) + 1))) := FRM_f (show up g79_8 73 33 x98_10 = (setO g79_8 73 (fup (fup (h 73) 33 x98_10) 39 (((h 73) 39) + 1))) from up_can (((hG_8.1 73 (by decide))).trans (sOf_eq _ _ _)) (fup_comm _ _ _ (by decide)) rfl) hF_8 (by decide) (by decide)
        refine TT_aload_n hK rfl 1 rfl dX12_takeIn_101 ?_
        refine TT_iload_n hK rfl 0 rfl dX12_takeIn_102 ?_
        refine TT_if_eq hK (tgt := 111) (by decide) dX12_takeIn_103 (by decide) (fun hb103_12 => ?_) (fun hb103_12 => ?_)
        · refine TT_bipush hK (by decide) dX12_takeIn_111 ?_
          refine pf_X12_178 hK (by decide) rfl dX12_takeIn_113 ?_
          refine TT_hp (h' := setO g79_8 73 (fup (fup (fup (h 73) 33 x98_10) 34 8) 39 (((h 73) 39) + 1))) (up_can (sOf_eq _ _ _) (fup_comm _ _ _ (by decide)) (setO_same _ _ _ _)) ?_
          have hT_13 : TY (setO g79_8 73 (fup (fup (fup (h 73) 33 x98_10) 34 8) 39 (((h 73) 39) + 1))) := tu_73_34 hT_11 (show up (setO g79_8 73 (fup (fup (h 73) 33 x98_10) 39 (((h 73) 39) + 1))) 73 34 8 = (setO g79_8 73 (fup (fup (fup (h 73) 33 x98_10) 34 8) 39 (((h 73) 39) + 1))) from up_can (sOf_eq _ _ _) (fup_comm _ _ _ (by decide)) (setO_same _ _ _ _)) (by omega)
          have hF_13 : FRM [73] [33, 34, 39] h (setO g79_8 73 (fup (fup (fup (h 73) 33 x98_10) 34 8) 39 (((h 73) 39) + 1))) := FRM_f (show up (setO g79_8 73 (fup (fup (h 73) 33 x98_10) 39 (((h 73) 39) + 1))) 73 34 8 = (setO g79_8 73 (fup (fup (fup (h 73) 33 x98_10) 34 8) 39 (((h 73) 39) + 1))) from up_can (sOf_eq _ _ _) (fup_comm _ _ _ (by decide)) (setO_same _ _ _ _)) hF_11 (by decide) (by decide)
          refine TT_vret hK hQ ?_ dX12_takeIn_116
          have e14_73_34 : (setO g79_8 73 (fup (fup (fup (h 73) 33 x98_10) 34 8) 39 (((h 73) 39) + 1))) 73 34 = 8 := rd_ (sOf_eq _ _ _) ((fup_ne _ _ (by decide)).trans (fup_eq _ _ _))
          exact ⟨⟨hT_13, hF_13⟩, rfl, (by rewrite [e14_73_34]; omega)⟩
        · exact absurd hb103_12 (by decide)
      · exact absurd hb84_9 (by decide)
    · exact absurd hb21_4 (by decide)
  · refine TT_iconst hK dX12_takeIn_14 ?_
    refine TT_goto hK (tgt := 19) dX12_takeIn_15 (by decide) ?_
    refine TT_istore_n hK rfl (lv' := [(1, vI 1), (0, vR 73)]) (by decide) rfl dX12_takeIn_19 ?_
    refine TT_iload_n hK rfl 0 rfl dX12_takeIn_20 ?_
    refine TT_if_eq hK (tgt := 59) (by decide) dX12_takeIn_21 (by decide) (fun hb21_15 => ?_) (fun hb21_15 => ?_)
    · exact absurd hb21_15 (by decide)
    · refine TT_aload_n hK rfl 1 rfl dX12_takeIn_24 ?_
      refine TT_aload_n hK rfl 1 rfl dX12_takeIn_25 ?_
      refine gf_X12_205 hK (by decide) rfl (v := (h 73) 39) (rd_ (hG_2.1 73 (by decide)) rfl) dX12_takeIn_26 ?_
      refine TT_iconst hK dX12_takeIn_29 ?_
      refine TT_iadd hK dX12_takeIn_30 ?_
      refine iv_X12_208 hK (s_X12_byteAt_73 (((h 73) 39) + 1) g5_2 hT_2 (by first | omega | (simp [up, setR] <;> omega))) (by decide) rfl ⟨by decide, by decide⟩ (by decide) rfl rfl (Nat.le_of_ble_eq_true rfl) ⟨by decide, by decide⟩ dX12_takeIn_31 ?_
      intro r9 g31_16 hp9
      obtain ⟨⟨hT_16, hG_16⟩, z31_16, hr9, hz_16, p1_16⟩ := hp9
      rw [hr9]
      have hF_16 : FRM [73] [33, 34, 39] h g31_16 := FRM_tr hF_2 hG_16 (by decide) (by decide)
      show TT K ly 0 0 34 [(1, vI 1), (0, vR 73)] [vI z31_16] g31_16
      refine TT_sipush hK (by decide) dX12_takeIn_34 ?_
      refine TT_icmp_le hK (tgt := 59) (irm (by omega) (by omega)) (by decide) dX12_takeIn_37 (by decide) (fun hb37_17 => ?_) (fun hb37_17 => ?_)
      · refine TT_aload_n hK rfl 1 rfl dX12_takeIn_59 ?_
        refine TT_dup hK rfl dX12_takeIn_60 ?_
        refine gf_X12_205 hK (by decide) rfl (v := (h 73) 39) (rd_ (((hG_16.1 73 (by decide))).trans (hG_2.1 73 (by decide))) rfl) dX12_takeIn_61 ?_
        refine TT_iconst hK dX12_takeIn_64 ?_
        refine TT_iadd hK dX12_takeIn_65 ?_
        refine pf_X12_205 hK (by decide) rfl dX12_takeIn_66 ?_
        refine TT_hp (h' := setO g31_16 73 (fup (h 73) 39 (((h 73) 39) + 1))) (up_can (((hG_16.1 73 (by decide))).trans (hG_2.1 73 (by decide))) rfl rfl) ?_
        have hT_18 : TY (setO g31_16 73 (fup (h 73) 39 (((h 73) 39) + 1))) := tu_73_39 hT_16 (show up g31_16 73 39 (((h 73) 39) + 1) = (setO g31_16 73 (fup (h 73) 39 (((h 73) 39) + 1))) from up_can (((hG_16.1 73 (by decide))).trans (hG_2.1 73 (by decide))) rfl rfl) (by omega)
        have hF_18 : FRM [73] [33, 34, 39] h (setO g31_16 73 (fup (h 73) 39 (((h 73) 39) + 1))) := FRM_f (show up g31_16 73 39 (((h 73) 39) + 1) = (setO g31_16 73 (fup (h 73) 39 (((h 73) 39) + 1))) from up_can (((hG_16.1 73 (by decide))).trans (hG_2.1 73 (by decide))) rfl rfl) hF_16 (by decide) (by decide)
        refine TT_aload_n hK rfl 1 rfl dX12_takeIn_69 ?_
        refine TT_aload_n hK rfl 1 rfl dX12_takeIn_70 ?_
        refine gf_X12_175 hK (by decide) rfl (v := (h 73) 33) (rd_ (sOf_eq _ _ _) (fup_ne _ _ (by decide))) dX12_takeIn_71 ?_
        have r19 := ty_73_33 (v := (h 73) 33) hT_18 (rd_ (sOf_eq _ _ _) (fup_ne _ _ (by decide)))
        refine TT_aload_n hK rfl 1 rfl dX12_takeIn_74 ?_
        refine TT_aload_n hK rfl 1 rfl dX12_takeIn_75 ?_
        refine gf_X12_205 hK (by decide) rfl (v := ((h 73) 39) + 1) (rd_ (sOf_eq _ _ _) (fup_eq _ _ _)) dX12_takeIn_76 ?_
        have r20 := ty_73_39 (v := ((h 73) 39) + 1) hT_18 (rd_ (sOf_eq _ _ _) (fup_eq _ _ _))
        refine iv_X12_208 hK (s_X12_byteAt_73 (((h 73) 39) + 1) (setO g31_16 73 (fup (h 73) 39 (((h 73) 39) + 1))) hT_18 (by first | omega | (simp [up, setR] <;> omega))) (by decide) rfl ⟨by decide, by decide⟩ (by decide) rfl rfl (Nat.le_of_ble_eq_true rfl) ⟨by decide, by decide⟩ dX12_takeIn_79 ?_
        intro r9 g79_21 hp9
        obtain ⟨⟨hT_21, hG_21⟩, z79_21, hr9, hz_21, p1_21⟩ := hp9
        rw [hr9]
        have hF_21 : FRM [73] [33, 34, 39] h g79_21 := FRM_tr hF_18 hG_21 (by decide) (by decide)
        show TT K ly 0 0 82 [(1, vI 1), (0, vR 73)] [vI z79_21, vJ ((h 73) 33), vR 73] g79_21
        refine TT_i2l hK (irm (by omega) (by omega)) dX12_takeIn_82 ?_
        refine TT_iload_n hK rfl 0 rfl dX12_takeIn_83 ?_
        refine TT_if_eq hK (tgt := 93) (by decide) dX12_takeIn_84 (by decide) (fun hb84_22 => ?_) (fun hb84_22 => ?_)
        · exact absurd hb84_22 (by decide)
        · refine TT_ldc2 hK lc_X12_214 dX12_takeIn_87 ?_
          refine TT_goto hK (tgt := 96) dX12_takeIn_90 (by decide) ?_
          refine TT_lmul hK dX12_takeIn_96 ?_
          refine TT_ladd hK dX12_takeIn_97 ?_
          refine TT_w64f (fun x98_23 hx23 => ?_)
          refine pf_X12_175 hK (by decide) rfl dX12_takeIn_98 ?_
          refine TT_hp (h' := setO g79_21 73 (fup (fup (h 73) 33 x98_23) 39 (((h 73) 39) + 1))) (up_can (((hG_21.1 73 (by decide))).trans (sOf_eq _ _ _)) (fup_comm _ _ _ (by decide)) rfl) ?_
          have hT_24 : TY (setO g79_21 73 (fup (fup (h 73) 33 x98_23) 39 (((h 73) 39) + 1))) := tu_73_33 hT_21 (show up g79_21 73 33 x98_23 = (setO g79_21 73 (fup (fup (h 73) 33 x98_23) 39 (((h 73) 39) + 1))) from up_can (((hG_21.1 73 (by decide))).trans (sOf_eq _ _ _)) (fup_comm _ _ _ (by decide)) rfl) (by omega)
          have hF_24 : FRM [73] [33, 34, 39] h (setO g79_21 73 (fup (fup (h 73) 33 x98_23) 39 (((h 73) 39) + 1))) := FRM_f (show up g79_21 73 33 x98_23 = (setO g79_21 73 (fup (fup (h 73) 33 x98_23) 39 (((h 73) 39) + 1))) from up_can (((hG_21.1 73 (by decide))).trans (sOf_eq _ _ _)) (fup_comm _ _ _ (by decide)) rfl) hF_21 (by decide) (by decide)
          refine TT_aload_n hK rfl 1 rfl dX12_takeIn_101 ?_
          refine TT_iload_n hK rfl 0 rfl dX12_takeIn_102 ?_
          refine TT_if_eq hK (tgt := 111) (by decide) dX12_takeIn_103 (by decide) (fun hb103_25 => ?_) (fun hb103_25 => ?_)
          · exact absurd hb103_25 (by decide)
          · refine TT_bipush hK (by decide) dX12_takeIn_106 ?_
            refine TT_goto hK (tgt := 113) dX12_takeIn_108 (by decide) ?_
            refine pf_X12_178 hK (by decide) rfl dX12_takeIn_113 ?_
            refine TT_hp (h' := setO g79_21 73 (fup (fup (fup (h 73) 33 x98_23) 34 7) 39 (((h 73) 39) + 1))) (up_can (sOf_eq _ _ _) (fup_comm _ _ _ (by decide)) (setO_same _ _ _ _)) ?_
            have hT_26 : TY (setO g79_21 73 (fup (fup (fup (h 73) 33 x98_23) 34 7) 39 (((h 73) 39) + 1))) := tu_73_34 hT_24 (show up (setO g79_21 73 (fup (fup (h 73) 33 x98_23) 39 (((h 73) 39) + 1))) 73 34 7 = (setO g79_21 73 (fup (fup (fup (h 73) 33 x98_23) 34 7) 39 (((h 73) 39) + 1))) from up_can (sOf_eq _ _ _) (fup_comm _ _ _ (by decide)) (setO_same _ _ _ _)) (by omega)
            have hF_26 : FRM [73] [33, 34, 39] h (setO g79_21 73 (fup (fup (fup (h 73) 33 x98_23) 34 7) 39 (((h 73) 39) + 1))) := FRM_f (show up (setO g79_21 73 (fup (fup (h 73) 33 x98_23) 39 (((h 73) 39) + 1))) 73 34 7 = (setO g79_21 73 (fup (fup (fup (h 73) 33 x98_23) 34 7) 39 (((h 73) 39) + 1))) from up_can (sOf_eq _ _ _) (fup_comm _ _ _ (by decide)) (setO_same _ _ _ _)) hF_24 (by decide) (by decide)
            refine TT_vret hK hQ ?_ dX12_takeIn_116
            have e27_73_34 : (setO g79_21 73 (fup (fup (fup (h 73) 33 x98_23) 34 7) 39 (((h 73) 39) + 1))) 73 34 = 7 := rd_ (sOf_eq _ _ _) ((fup_ne _ _ (by decide)).trans (fup_eq _ _ _))
            exact ⟨⟨hT_26, hF_26⟩, rfl, (by rewrite [e27_73_34]; omega)⟩
      · refine TT_aload_n hK rfl 1 rfl dX12_takeIn_40 ?_
        refine TT_aload_n hK rfl 1 rfl dX12_takeIn_41 ?_
        refine gf_X12_175 hK (by decide) rfl (v := (h 73) 33) (rd_ (((hG_16.1 73 (by decide))).trans (hG_2.1 73 (by decide))) rfl) dX12_takeIn_42 ?_
        have r28 := ty_73_33 (v := (h 73) 33) hT_16 (rd_ (((hG_16.1 73 (by decide))).trans (hG_2.1 73 (by decide))) rfl)
        refine TT_ldc2 hK lc_X12_212 dX12_takeIn_45 ?_
        refine TT_ladd hK dX12_takeIn_48 ?_
        refine TT_w64f (fun x49_29 hx29 => ?_)
        refine pf_X12_175 hK (by decide) rfl dX12_takeIn_49 ?_
        refine TT_hp (h' := setO g31_16 73 (fup (h 73) 33 x49_29)) (up_can (((hG_16.1 73 (by decide))).trans (hG_2.1 73 (by decide))) rfl rfl) ?_
        have hT_30 : TY (setO g31_16 73 (fup (h 73) 33 x49_29)) := tu_73_33 hT_16 (show up g31_16 73 33 x49_29 = (setO g31_16 73 (fup (h 73) 33 x49_29)) from up_can (((hG_16.1 73 (by decide))).trans (hG_2.1 73 (by decide))) rfl rfl) (by omega)
        have hF_30 : FRM [73] [33, 34, 39] h (setO g31_16 73 (fup (h 73) 33 x49_29)) := FRM_f (show up g31_16 73 33 x49_29 = (setO g31_16 73 (fup (h 73) 33 x49_29)) from up_can (((hG_16.1 73 (by decide))).trans (hG_2.1 73 (by decide))) rfl rfl) hF_16 (by decide) (by decide)
        refine TT_aload_n hK rfl 1 rfl dX12_takeIn_52 ?_
        refine TT_bipush hK (by decide) dX12_takeIn_53 ?_
        refine pf_X12_178 hK (by decide) rfl dX12_takeIn_55 ?_
        refine TT_hp (h' := setO g31_16 73 (fup (fup (h 73) 33 x49_29) 34 8)) (up_can (sOf_eq _ _ _) rfl (setO_same _ _ _ _)) ?_
        have hT_31 : TY (setO g31_16 73 (fup (fup (h 73) 33 x49_29) 34 8)) := tu_73_34 hT_30 (show up (setO g31_16 73 (fup (h 73) 33 x49_29)) 73 34 8 = (setO g31_16 73 (fup (fup (h 73) 33 x49_29) 34 8)) from up_can (sOf_eq _ _ _) rfl (setO_same _ _ _ _)) (by omega)
        have hF_31 : FRM [73] [33, 34, 39] h (setO g31_16 73 (fup (fup (h 73) 33 x49_29) 34 8)) := FRM_f (show up (setO g31_16 73 (fup (h 73) 33 x49_29)) 73 34 8 = (setO g31_16 73 (fup (fup (h 73) 33 x49_29) 34 8)) from up_can (sOf_eq _ _ _) rfl (setO_same _ _ _ _)) hF_30 (by decide) (by decide)
        refine TT_vret hK hQ ?_ dX12_takeIn_58
        have e32_73_34 : (setO g31_16 73 (fup (fup (h 73) 33 x49_29) 34 8)) 73 34 = 8 := rd_ (sOf_eq _ _ _) (fup_eq _ _ _)
        exact ⟨⟨hT_31, hF_31⟩, rfl, (by rewrite [e32_73_34]; omega)⟩
set_option maxRecDepth 20000 in
theorem s_X12_beginReading_73 (n w : Int) (h : Hp_) (hT : TY h) (hn : 0 ≤ n ∧ n ≤ 4400) (hw : 0 ≤ w ∧ w ≤ 2) : Ctr yX12_beginReading cX12_beginReading 3 none (rmd 2) ly ly 0 0 [vR 73, vI n, vI w] h (fun r h' => (TY h' ∧ FRM [73, 96, 97] [29, 32, 33, 34, 38, 39] h h') ∧ r = none ∧ ((h' 73 32) = 32768) ∧ ((h' 73 29) = w)) := by
  refine Ctr_of (by decide) (Nat.le_of_ble_eq_true rfl) ⟨Nat.le_refl _, Nat.le_refl _⟩ (fun K hK hQ _ => ?_)
  show TT K ly 0 0 0 [(0, vR 73), (1, vI n), (2, vI w)] [] h
  have hF : FRM [73, 96, 97] [29, 32, 33, 34, 38, 39] h h := FRM_rf _ _ _
  refine TT_aload_n hK rfl 0 rfl dX12_beginReading_0 ?_
  refine iv_X12_160 hK (s_X12_forget_73 h hT ) (by decide) rfl ⟨by decide, by decide⟩ (by decide) rfl rfl (Nat.le_of_ble_eq_true rfl) ⟨by decide, by decide⟩ dX12_beginReading_1 ?_
  intro r9 g1_1 hp9
  obtain ⟨⟨hT_1, hG_1⟩, hr9⟩ := hp9
  rw [hr9]
  have hF_1 : FRM [73, 96, 97] [29, 32, 33, 34, 38, 39] h g1_1 := FRM_tr hF hG_1 (by decide) (by decide)
  show TT K ly 0 0 4 [(0, vR 73), (1, vI n), (2, vI w)] [] g1_1
  refine TT_aload_n hK rfl 0 rfl dX12_beginReading_4 ?_
  refine TT_iload_n hK rfl 2 rfl dX12_beginReading_5 ?_
  refine pf_X12_163 hK (by decide) rfl dX12_beginReading_6 ?_
  refine TT_hp (h' := setO g1_1 73 (fup (h 73) 29 w)) (up_can (hG_1.1 73 (by decide)) rfl rfl) ?_
  have hT_2 : TY (setO g1_1 73 (fup (h 73) 29 w)) := tu_73_29 hT_1 (show up g1_1 73 29 w = (setO g1_1 73 (fup (h 73) 29 w)) from up_can (hG_1.1 73 (by decide)) rfl rfl) (by omega)
  have hF_2 : FRM [73, 96, 97] [29, 32, 33, 34, 38, 39] h (setO g1_1 73 (fup (h 73) 29 w)) := FRM_f (show up g1_1 73 29 w = (setO g1_1 73 (fup (h 73) 29 w)) from up_can (hG_1.1 73 (by decide)) rfl rfl) hF_1 (by decide) (by decide)
  refine TT_aload_n hK rfl 0 rfl dX12_beginReading_9 ?_
  refine TT_iload_n hK rfl 1 rfl dX12_beginReading_10 ?_
  refine pf_X12_202 hK (by decide) rfl dX12_beginReading_11 ?_
  refine TT_hp (h' := setO g1_1 73 (fup (fup (h 73) 29 w) 38 n)) (up_can (sOf_eq _ _ _) rfl (setO_same _ _ _ _)) ?_
  have hT_3 : TY (setO g1_1 73 (fup (fup (h 73) 29 w) 38 n)) := tu_73_38 hT_2 (show up (setO g1_1 73 (fup (h 73) 29 w)) 73 38 n = (setO g1_1 73 (fup (fup (h 73) 29 w) 38 n)) from up_can (sOf_eq _ _ _) rfl (setO_same _ _ _ _)) (by omega)
  have hF_3 : FRM [73, 96, 97] [29, 32, 33, 34, 38, 39] h (setO g1_1 73 (fup (fup (h 73) 29 w) 38 n)) := FRM_f (show up (setO g1_1 73 (fup (h 73) 29 w)) 73 38 n = (setO g1_1 73 (fup (fup (h 73) 29 w) 38 n)) from up_can (sOf_eq _ _ _) rfl (setO_same _ _ _ _)) hF_2 (by decide) (by decide)
  refine TT_aload_n hK rfl 0 rfl dX12_beginReading_14 ?_
  refine TT_iconst hK dX12_beginReading_15 ?_
  refine pf_X12_205 hK (by decide) rfl dX12_beginReading_16 ?_
  refine TT_hp (h' := setO g1_1 73 (fup (fup (fup (h 73) 29 w) 38 n) 39 0)) (up_can (sOf_eq _ _ _) rfl (setO_same _ _ _ _)) ?_
  have hT_4 : TY (setO g1_1 73 (fup (fup (fup (h 73) 29 w) 38 n) 39 0)) := tu_73_39 hT_3 (show up (setO g1_1 73 (fup (fup (h 73) 29 w) 38 n)) 73 39 0 = (setO g1_1 73 (fup (fup (fup (h 73) 29 w) 38 n) 39 0)) from up_can (sOf_eq _ _ _) rfl (setO_same _ _ _ _)) (by omega)
  have hF_4 : FRM [73, 96, 97] [29, 32, 33, 34, 38, 39] h (setO g1_1 73 (fup (fup (fup (h 73) 29 w) 38 n) 39 0)) := FRM_f (show up (setO g1_1 73 (fup (fup (h 73) 29 w) 38 n)) 73 39 0 = (setO g1_1 73 (fup (fup (fup (h 73) 29 w) 38 n) 39 0)) from up_can (sOf_eq _ _ _) rfl (setO_same _ _ _ _)) hF_3 (by decide) (by decide)
  refine TT_aload_n hK rfl 0 rfl dX12_beginReading_19 ?_
  refine TT_ldc2 hK lc_X12_198 dX12_beginReading_20 ?_
  refine TT_aload_n hK rfl 0 rfl dX12_beginReading_23 ?_
  refine TT_iconst hK dX12_beginReading_24 ?_
  refine iv_X12_208 hK (s_X12_byteAt_73 0 (setO g1_1 73 (fup (fup (fup (h 73) 29 w) 38 n) 39 0)) hT_4 (by first | omega | (simp [up, setR] <;> omega))) (by decide) rfl ⟨by decide, by decide⟩ (by decide) rfl rfl (Nat.le_of_ble_eq_true rfl) ⟨by decide, by decide⟩ dX12_beginReading_25 ?_
  intro r9 g25_5 hp9
  obtain ⟨⟨hT_5, hG_5⟩, z25_5, hr9, hz_5, p1_5⟩ := hp9
  rw [hr9]
  have hF_5 : FRM [73, 96, 97] [29, 32, 33, 34, 38, 39] h g25_5 := FRM_tr hF_4 hG_5 (by decide) (by decide)
  show TT K ly 0 0 28 [(0, vR 73), (1, vI n), (2, vI w)] [vI z25_5, vJ 65536, vR 73] g25_5
  refine TT_i2l hK (irm (by omega) (by omega)) dX12_beginReading_28 ?_
  refine TT_lmul hK dX12_beginReading_29 ?_
  refine pf_X12_175 hK (by decide) rfl dX12_beginReading_30 ?_
  refine TT_hp (h' := setO g25_5 73 (fup (fup (fup (fup (h 73) 29 w) 33 (65536 * z25_5)) 38 n) 39 0)) (up_can (((hG_5.1 73 (by decide))).trans (sOf_eq _ _ _)) ((fup_comm _ _ _ (by decide)).trans (fup_cg (fup_comm _ _ _ (by decide)))) rfl) ?_
  have hT_6 : TY (setO g25_5 73 (fup (fup (fup (fup (h 73) 29 w) 33 (65536 * z25_5)) 38 n) 39 0)) := tu_73_33 hT_5 (show up g25_5 73 33 (65536 * z25_5) = (setO g25_5 73 (fup (fup (fup (fup (h 73) 29 w) 33 (65536 * z25_5)) 38 n) 39 0)) from up_can (((hG_5.1 73 (by decide))).trans (sOf_eq _ _ _)) ((fup_comm _ _ _ (by decide)).trans (fup_cg (fup_comm _ _ _ (by decide)))) rfl) (by omega)
  have hF_6 : FRM [73, 96, 97] [29, 32, 33, 34, 38, 39] h (setO g25_5 73 (fup (fup (fup (fup (h 73) 29 w) 33 (65536 * z25_5)) 38 n) 39 0)) := FRM_f (show up g25_5 73 33 (65536 * z25_5) = (setO g25_5 73 (fup (fup (fup (fup (h 73) 29 w) 33 (65536 * z25_5)) 38 n) 39 0)) from up_can (((hG_5.1 73 (by decide))).trans (sOf_eq _ _ _)) ((fup_comm _ _ _ (by decide)).trans (fup_cg (fup_comm _ _ _ (by decide)))) rfl) hF_5 (by decide) (by decide)
  refine TT_aload_n hK rfl 0 rfl dX12_beginReading_33 ?_
  refine iv_X12_216 hK (s_X12_takeIn_73 (setO g25_5 73 (fup (fup (fup (fup (h 73) 29 w) 33 (65536 * z25_5)) 38 n) 39 0)) hT_6 ) (by decide) rfl ⟨by decide, by decide⟩ (by decide) rfl rfl (Nat.le_of_ble_eq_true rfl) ⟨by decide, by decide⟩ dX12_beginReading_34 ?_
  intro r9 g34_7 hp9
  obtain ⟨⟨hT_7, hG_7⟩, hr9, p1_7⟩ := hp9
  rw [hr9]
  have hF_7 : FRM [73, 96, 97] [29, 32, 33, 34, 38, 39] h g34_7 := FRM_tr hF_6 hG_7 (by decide) (by decide)
  show TT K ly 0 0 37 [(0, vR 73), (1, vI n), (2, vI w)] [] g34_7
  refine TT_aload_n hK rfl 0 rfl dX12_beginReading_37 ?_
  refine TT_ldc2 hK lc_X12_219 dX12_beginReading_38 ?_
  refine TT_aload_n hK rfl 0 rfl dX12_beginReading_41 ?_
  refine gf_X12_175 hK (by decide) rfl (v := (g34_7 73) 33) rfl dX12_beginReading_42 ?_
  have r8 := ty_73_33 (v := (g34_7 73) 33) hT_7 rfl
  refine TT_lmul hK dX12_beginReading_45 ?_
  refine TT_w64f (fun x46_9 hx9 => ?_)
  refine pf_X12_175 hK (by decide) rfl dX12_beginReading_46 ?_
  refine TT_hp (h' := setO g34_7 73 (fup (g34_7 73) 33 x46_9)) (up_can rfl rfl rfl) ?_
  have hT_10 : TY (setO g34_7 73 (fup (g34_7 73) 33 x46_9)) := tu_73_33 hT_7 (show up g34_7 73 33 x46_9 = (setO g34_7 73 (fup (g34_7 73) 33 x46_9)) from up_can rfl rfl rfl) (by omega)
  have hF_10 : FRM [73, 96, 97] [29, 32, 33, 34, 38, 39] h (setO g34_7 73 (fup (g34_7 73) 33 x46_9)) := FRM_f (show up g34_7 73 33 x46_9 = (setO g34_7 73 (fup (g34_7 73) 33 x46_9)) from up_can rfl rfl rfl) hF_7 (by decide) (by decide)
  refine TT_aload_n hK rfl 0 rfl dX12_beginReading_49 ?_
  refine TT_aload_n hK rfl 0 rfl dX12_beginReading_50 ?_
  refine gf_X12_178 hK (by decide) rfl (v := (g34_7 73) 34) (rd_ (sOf_eq _ _ _) (fup_ne _ _ (by decide))) dX12_beginReading_51 ?_
  have r11 := ty_73_34 (v := (g34_7 73) 34) hT_10 (rd_ (sOf_eq _ _ _) (fup_ne _ _ (by decide)))
  refine TT_bipush hK (by decide) dX12_beginReading_54 ?_
  refine TT_isub hK dX12_beginReading_56 ?_
  refine pf_X12_178 hK (by decide) rfl dX12_beginReading_57 ?_
  refine TT_hp (h' := setO g34_7 73 (fup (fup (g34_7 73) 33 x46_9) 34 (((g34_7 73) 34) - 7))) (up_can (sOf_eq _ _ _) rfl (setO_same _ _ _ _)) ?_
  have hT_12 : TY (setO g34_7 73 (fup (fup (g34_7 73) 33 x46_9) 34 (((g34_7 73) 34) - 7))) := tu_73_34 hT_10 (show up (setO g34_7 73 (fup (g34_7 73) 33 x46_9)) 73 34 (((g34_7 73) 34) - 7) = (setO g34_7 73 (fup (fup (g34_7 73) 33 x46_9) 34 (((g34_7 73) 34) - 7))) from up_can (sOf_eq _ _ _) rfl (setO_same _ _ _ _)) (by omega)
  have hF_12 : FRM [73, 96, 97] [29, 32, 33, 34, 38, 39] h (setO g34_7 73 (fup (fup (g34_7 73) 33 x46_9) 34 (((g34_7 73) 34) - 7))) := FRM_f (show up (setO g34_7 73 (fup (g34_7 73) 33 x46_9)) 73 34 (((g34_7 73) 34) - 7) = (setO g34_7 73 (fup (fup (g34_7 73) 33 x46_9) 34 (((g34_7 73) 34) - 7))) from up_can (sOf_eq _ _ _) rfl (setO_same _ _ _ _)) hF_10 (by decide) (by decide)
  refine TT_aload_n hK rfl 0 rfl dX12_beginReading_60 ?_
  refine TT_ldc2 hK lc_X12_169 dX12_beginReading_61 ?_
  refine pf_X12_171 hK (by decide) rfl dX12_beginReading_64 ?_
  refine TT_hp (h' := setO g34_7 73 (fup (fup (fup (g34_7 73) 32 32768) 33 x46_9) 34 (((g34_7 73) 34) - 7))) (up_can (sOf_eq _ _ _) ((fup_comm _ _ _ (by decide)).trans (fup_cg (fup_comm _ _ _ (by decide)))) (setO_same _ _ _ _)) ?_
  have hT_13 : TY (setO g34_7 73 (fup (fup (fup (g34_7 73) 32 32768) 33 x46_9) 34 (((g34_7 73) 34) - 7))) := tu_73_32 hT_12 (show up (setO g34_7 73 (fup (fup (g34_7 73) 33 x46_9) 34 (((g34_7 73) 34) - 7))) 73 32 32768 = (setO g34_7 73 (fup (fup (fup (g34_7 73) 32 32768) 33 x46_9) 34 (((g34_7 73) 34) - 7))) from up_can (sOf_eq _ _ _) ((fup_comm _ _ _ (by decide)).trans (fup_cg (fup_comm _ _ _ (by decide)))) (setO_same _ _ _ _)) (by omega)
  have hF_13 : FRM [73, 96, 97] [29, 32, 33, 34, 38, 39] h (setO g34_7 73 (fup (fup (fup (g34_7 73) 32 32768) 33 x46_9) 34 (((g34_7 73) 34) - 7))) := FRM_f (show up (setO g34_7 73 (fup (fup (g34_7 73) 33 x46_9) 34 (((g34_7 73) 34) - 7))) 73 32 32768 = (setO g34_7 73 (fup (fup (fup (g34_7 73) 32 32768) 33 x46_9) 34 (((g34_7 73) 34) - 7))) from up_can (sOf_eq _ _ _) ((fup_comm _ _ _ (by decide)).trans (fup_cg (fup_comm _ _ _ (by decide)))) (setO_same _ _ _ _)) hF_12 (by decide) (by decide)
  refine TT_vret hK hQ ?_ dX12_beginReading_67
  have e14_73_32 : (setO g34_7 73 (fup (fup (fup (g34_7 73) 32 32768) 33 x46_9) 34 (((g34_7 73) 34) - 7))) 73 32 = 32768 := rd_ (sOf_eq _ _ _) ((fup_ne _ _ (by decide)).trans ((fup_ne _ _ (by decide)).trans (fup_eq _ _ _)))
  have e15_73_29 : (setO g34_7 73 (fup (fup (fup (g34_7 73) 32 32768) 33 x46_9) 34 (((g34_7 73) 34) - 7))) 73 29 = w := (rd_ (sOf_eq _ _ _) ((fup_ne _ _ (by decide)).trans ((fup_ne _ _ (by decide)).trans (fup_ne _ _ (by decide))))).trans (((hG_7.2 29 (by decide))).trans (rd_ (sOf_eq _ _ _) ((fup_ne _ _ (by decide)).trans ((fup_ne _ _ (by decide)).trans ((fup_ne _ _ (by decide)).trans (fup_eq _ _ _))))))
  exact ⟨⟨hT_13, hF_13⟩, rfl, (by rewrite [e14_73_32]; omega), (by rewrite [e15_73_29]; omega)⟩
set_option maxRecDepth 20000 in
theorem s_X12_readBit_73 (x : Int) (h : Hp_) (hT : TY h) (hx : 0 ≤ x ∧ x ≤ 18) (htb : TBL (h 74) (h 75)) (ha : 32768 ≤ (h 73 32) ∧ (h 73 32) < 65536) : Ctr yX12_readBit cX12_readBit 7 (some .int) (rmd 2) ly ly 0 0 [vR 73, vI x] h (fun r h' => (TY h' ∧ FRM [73, 96, 97] [32, 33, 34, 39] h h') ∧ ∃ z : Int, r = some (vI z) ∧ (0 ≤ z ∧ z ≤ 1) ∧ (32768 ≤ (h' 73 32) ∧ (h' 73 32) < 65536)) := by
  refine Ctr_of (by decide) (Nat.le_of_ble_eq_true rfl) ⟨Nat.le_refl _, Nat.le_refl _⟩ (fun K hK hQ _ => ?_)
  show TT K ly 0 0 0 [(0, vR 73), (1, vI x)] [] h
  have hF : FRM [73, 96, 97] [32, 33, 34, 39] h h := FRM_rf _ _ _
  refine TT_aload_n hK rfl 0 rfl dX12_readBit_0 ?_
  refine gf_X12_7 hK (by decide) rfl (q := 74) rfl rfl dX12_readBit_1 ?_
  refine TT_aload_n hK rfl 0 rfl dX12_readBit_4 ?_
  refine gf_X12_84 hK (by decide) rfl (q := 96) rfl rfl dX12_readBit_5 ?_
  refine TT_iload_n hK rfl 1 rfl dX12_readBit_8 ?_
  refine TT_iald hK (o := 96) (n := 19) (by decide) rfl (by first | omega | (simp [up, setR] <;> omega)) (by first | omega | (simp [up, setR] <;> omega)) (v := (h 96) x) rfl dX12_readBit_9 ?_
  have r1 := ty_96 (i := x) (v := (h 96) x) hT rfl (by omega) (by omega)
  refine TT_iald hK (o := 74) (n := 47) (by decide) rfl (by first | omega | (simp [up, setR] <;> omega)) (by first | omega | (simp [up, setR] <;> omega)) (v := (h 74) ((h 96) x)) rfl dX12_readBit_10 ?_
  have r2 := ty_74 (i := (h 96) x) (v := (h 74) ((h 96) x)) hT rfl (by omega) (by omega)
  have tq := TBL_r htb (s := h 96 x) (by omega) (by omega)
  refine TT_istore_n hK rfl (lv' := [(2, vI ((h 74) ((h 96) x))), (0, vR 73), (1, vI x)]) (by decide) rfl dX12_readBit_11 ?_
  refine TT_aload_n hK rfl 1 rfl dX12_readBit_12 ?_
  refine TT_aload_n hK rfl 1 rfl dX12_readBit_13 ?_
  refine gf_X12_171 hK (by decide) rfl (v := (h 73) 32) rfl dX12_readBit_14 ?_
  have r3 := ty_73_32 (v := (h 73) 32) hT rfl
  refine TT_iload_n hK rfl 0 rfl dX12_readBit_17 ?_
  refine TT_i2l hK (irm (by omega) (by omega)) dX12_readBit_18 ?_
  refine TT_lsub hK dX12_readBit_19 ?_
  refine pf_X12_171 hK (by decide) rfl dX12_readBit_20 ?_
  refine TT_hp (h' := setO h 73 (fup (h 73) 32 (((h 73) 32) - ((h 74) ((h 96) x))))) (up_can rfl rfl rfl) ?_
  have hT_4 : TY (setO h 73 (fup (h 73) 32 (((h 73) 32) - ((h 74) ((h 96) x))))) := tu_73_32 hT (show up h 73 32 (((h 73) 32) - ((h 74) ((h 96) x))) = (setO h 73 (fup (h 73) 32 (((h 73) 32) - ((h 74) ((h 96) x))))) from up_can rfl rfl rfl) (by omega)
  have hF_4 : FRM [73, 96, 97] [32, 33, 34, 39] h (setO h 73 (fup (h 73) 32 (((h 73) 32) - ((h 74) ((h 96) x))))) := FRM_f (show up h 73 32 (((h 73) 32) - ((h 74) ((h 96) x))) = (setO h 73 (fup (h 73) 32 (((h 73) 32) - ((h 74) ((h 96) x))))) from up_can rfl rfl rfl) hF (by decide) (by decide)
  refine TT_aload_n hK rfl 1 rfl dX12_readBit_23 ?_
  refine gf_X12_175 hK (by decide) rfl (v := (h 73) 33) (rd_ (sOf_eq _ _ _) (fup_ne _ _ (by decide))) dX12_readBit_24 ?_
  have r5 := ty_73_33 (v := (h 73) 33) hT_4 (rd_ (sOf_eq _ _ _) (fup_ne _ _ (by decide)))
  refine TT_ldc2 hK lc_X12_198 dX12_readBit_27 ?_
  refine TT_ldiv hK (lrm (by omega) (by omega)) (by decide) (by omega) dX12_readBit_30 ?_
  refine TT_w64f (fun x31_6 hx6 => ?_)
  refine TT_iload_n hK rfl 0 rfl dX12_readBit_31 ?_
  refine TT_i2l hK (irm (by omega) (by omega)) dX12_readBit_32 ?_
  refine TT_lcmp hK (lrm (by omega) (by omega)) (lrm (by omega) (by omega)) dX12_readBit_33 ?_
  refine TT_if_ge hK (tgt := 41) (lcmp_ir _ _) dX12_readBit_34 (by decide) (fun hb34_7 => ?_) (fun hb34_7 => ?_)
  · have hb34_7 := lcmp_ge hb34_7
    refine TT_iconst hK dX12_readBit_41 ?_
    refine TT_istore_n hK rfl (lv' := [(3, vI 0), (2, vI ((h 74) ((h 96) x))), (0, vR 73), (1, vI x)]) (by decide) rfl dX12_readBit_42 ?_
    refine TT_iload_n hK rfl 0 rfl dX12_readBit_43 ?_
    refine TT_if_ne hK (tgt := 80) (by decide) dX12_readBit_44 (by decide) (fun hb44_8 => ?_) (fun hb44_8 => ?_)
    · exact absurd hb44_8 (by decide)
    · refine TT_aload_n hK rfl 2 rfl dX12_readBit_47 ?_
      refine TT_aload_n hK rfl 2 rfl dX12_readBit_48 ?_
      refine gf_X12_175 hK (by decide) rfl (v := (h 73) 33) (rd_ (sOf_eq _ _ _) (fup_ne _ _ (by decide))) dX12_readBit_49 ?_
      refine TT_ldc2 hK lc_X12_198 dX12_readBit_52 ?_
      refine TT_iload_n hK rfl 1 rfl dX12_readBit_55 ?_
      refine TT_i2l hK (irm (by omega) (by omega)) dX12_readBit_56 ?_
      refine TT_lmul hK dX12_readBit_57 ?_
      refine TT_lsub hK dX12_readBit_58 ?_
      refine TT_w64f (fun x59_9 hx9 => ?_)
      refine pf_X12_175 hK (by decide) rfl dX12_readBit_59 ?_
      refine TT_hp (h' := setO h 73 (fup (fup (h 73) 32 (((h 73) 32) - ((h 74) ((h 96) x)))) 33 x59_9)) (up_can (sOf_eq _ _ _) rfl (setO_same _ _ _ _)) ?_
      have hT_10 : TY (setO h 73 (fup (fup (h 73) 32 (((h 73) 32) - ((h 74) ((h 96) x)))) 33 x59_9)) := tu_73_33 hT_4 (show up (setO h 73 (fup (h 73) 32 (((h 73) 32) - ((h 74) ((h 96) x))))) 73 33 x59_9 = (setO h 73 (fup (fup (h 73) 32 (((h 73) 32) - ((h 74) ((h 96) x)))) 33 x59_9)) from up_can (sOf_eq _ _ _) rfl (setO_same _ _ _ _)) (by omega)
      have hF_10 : FRM [73, 96, 97] [32, 33, 34, 39] h (setO h 73 (fup (fup (h 73) 32 (((h 73) 32) - ((h 74) ((h 96) x)))) 33 x59_9)) := FRM_f (show up (setO h 73 (fup (h 73) 32 (((h 73) 32) - ((h 74) ((h 96) x))))) 73 33 x59_9 = (setO h 73 (fup (fup (h 73) 32 (((h 73) 32) - ((h 74) ((h 96) x)))) 33 x59_9)) from up_can (sOf_eq _ _ _) rfl (setO_same _ _ _ _)) hF_4 (by decide) (by decide)
      refine TT_aload_n hK rfl 2 rfl dX12_readBit_62 ?_
      refine gf_X12_171 hK (by decide) rfl (v := ((h 73) 32) - ((h 74) ((h 96) x))) (rd_ (sOf_eq _ _ _) ((fup_ne _ _ (by decide)).trans (fup_eq _ _ _))) dX12_readBit_63 ?_
      have r11 := ty_73_32 (v := ((h 73) 32) - ((h 74) ((h 96) x))) hT_10 (rd_ (sOf_eq _ _ _) ((fup_ne _ _ (by decide)).trans (fup_eq _ _ _)))
      refine TT_ldc2 hK lc_X12_169 dX12_readBit_66 ?_
      refine TT_lcmp hK (lrm (by omega) (by omega)) (by decide) dX12_readBit_69 ?_
      refine TT_if_lt hK (tgt := 80) (lcmp_ir _ _) dX12_readBit_70 (by decide) (fun hb70_12 => ?_) (fun hb70_12 => ?_)
      · have hb70_12 := lcmp_lt hb70_12
        refine TT_aload_n hK rfl 2 rfl dX12_readBit_80 ?_
        refine gf_X12_171 hK (by decide) rfl (v := ((h 73) 32) - ((h 74) ((h 96) x))) (rd_ (sOf_eq _ _ _) ((fup_ne _ _ (by decide)).trans (fup_eq _ _ _))) dX12_readBit_81 ?_
        refine TT_iload_n hK rfl 1 rfl dX12_readBit_84 ?_
        refine TT_i2l hK (irm (by omega) (by omega)) dX12_readBit_85 ?_
        refine TT_lcmp hK (lrm (by omega) (by omega)) (lrm (by omega) (by omega)) dX12_readBit_86 ?_
        refine TT_if_ge hK (tgt := 94) (lcmp_ir _ _) dX12_readBit_87 (by decide) (fun hb87_13 => ?_) (fun hb87_13 => ?_)
        · have hb87_13 := lcmp_ge hb87_13
          refine TT_iconst hK dX12_readBit_94 ?_
          refine TT_istore hK (lv' := [(4, vI 0), (3, vI 0), (2, vI ((h 74) ((h 96) x))), (0, vR 73), (1, vI x)]) (by decide) rfl dX12_readBit_95 ?_
          refine TT_iload_n hK rfl 1 rfl dX12_readBit_97 ?_
          refine TT_if_eq hK (tgt := 114) (by decide) dX12_readBit_98 (by decide) (fun hb98_14 => ?_) (fun hb98_14 => ?_)
          · refine TT_iload hK 0 rfl dX12_readBit_114 ?_
            refine TT_istore hK (lv' := [(5, vI 0), (4, vI 0), (3, vI 0), (2, vI ((h 74) ((h 96) x))), (0, vR 73), (1, vI x)]) (by decide) rfl dX12_readBit_116 ?_
            refine TT_iload hK 0 rfl dX12_readBit_118 ?_
            refine TT_if_eq hK (tgt := 134) (by decide) dX12_readBit_120 (by decide) (fun hb120_15 => ?_) (fun hb120_15 => ?_)
            · refine TT_aload_n hK rfl 4 rfl dX12_readBit_134 ?_
              refine gf_X12_87 hK (by decide) rfl (q := 97) rfl rfl dX12_readBit_135 ?_
              refine TT_iload_n hK rfl 5 rfl dX12_readBit_138 ?_
              refine TT_iald hK (o := 97) (n := 19) (by decide) rfl (by first | omega | (simp [up, setR] <;> omega)) (by first | omega | (simp [up, setR] <;> omega)) (v := (h 97) x) (rd_ (sOf_ne _ _ (by decide)) rfl) dX12_readBit_139 ?_
              have r16 := ty_97 (i := x) (v := (h 97) x) hT_10 (rd_ (sOf_ne _ _ (by decide)) rfl) (by omega) (by omega)
              refine TT_istore hK (lv' := [(6, vI ((h 97) x)), (5, vI 0), (4, vI 0), (3, vI 0), (2, vI ((h 74) ((h 96) x))), (0, vR 73), (1, vI x)]) (by decide) rfl dX12_readBit_140 ?_
              refine TT_aload_n hK rfl 5 rfl dX12_readBit_142 ?_
              refine TT_iload_n hK rfl 3 rfl dX12_readBit_143 ?_
              refine TT_if_eq hK (tgt := 152) (by decide) dX12_readBit_144 (by decide) (fun hb144_17 => ?_) (fun hb144_17 => ?_)
              · refine TT_aload_n hK rfl 5 rfl dX12_readBit_152 ?_
                refine gf_X12_171 hK (by decide) rfl (v := ((h 73) 32) - ((h 74) ((h 96) x))) (rd_ (sOf_eq _ _ _) ((fup_ne _ _ (by decide)).trans (fup_eq _ _ _))) dX12_readBit_153 ?_
                refine pf_X12_171 hK (by decide) rfl dX12_readBit_156 ?_
                refine TT_hp (h' := setO h 73 (fup (fup (h 73) 32 (((h 73) 32) - ((h 74) ((h 96) x)))) 33 x59_9)) (up_can (sOf_eq _ _ _) ((fup_comm _ _ _ (by decide)).trans (fup_cg (fup_same _ _ _ _))) (setO_same _ _ _ _)) ?_
                have hT_18 : TY (setO h 73 (fup (fup (h 73) 32 (((h 73) 32) - ((h 74) ((h 96) x)))) 33 x59_9)) := tu_73_32 hT_10 (show up (setO h 73 (fup (fup (h 73) 32 (((h 73) 32) - ((h 74) ((h 96) x)))) 33 x59_9)) 73 32 (((h 73) 32) - ((h 74) ((h 96) x))) = (setO h 73 (fup (fup (h 73) 32 (((h 73) 32) - ((h 74) ((h 96) x)))) 33 x59_9)) from up_can (sOf_eq _ _ _) ((fup_comm _ _ _ (by decide)).trans (fup_cg (fup_same _ _ _ _))) (setO_same _ _ _ _)) (by omega)
                have hF_18 : FRM [73, 96, 97] [32, 33, 34, 39] h (setO h 73 (fup (fup (h 73) 32 (((h 73) 32) - ((h 74) ((h 96) x)))) 33 x59_9)) := FRM_f (show up (setO h 73 (fup (fup (h 73) 32 (((h 73) 32) - ((h 74) ((h 96) x)))) 33 x59_9)) 73 32 (((h 73) 32) - ((h 74) ((h 96) x))) = (setO h 73 (fup (fup (h 73) 32 (((h 73) 32) - ((h 74) ((h 96) x)))) 33 x59_9)) from up_can (sOf_eq _ _ _) ((fup_comm _ _ _ (by decide)).trans (fup_cg (fup_same _ _ _ _))) (setO_same _ _ _ _)) hF_10 (by decide) (by decide)
                refine TT_aload_n hK rfl 5 rfl dX12_readBit_159 ?_
                refine TT_iload_n hK rfl 6 rfl dX12_readBit_160 ?_
                refine TT_iload hK 1 rfl dX12_readBit_161 ?_
                have e19_74 : (setO h 73 (fup (fup (h 73) 32 (((h 73) 32) - ((h 74) ((h 96) x)))) 33 x59_9)) 74 = h 74 := sOf_ne _ _ (by decide)
                have e20_75 : (setO h 73 (fup (fup (h 73) 32 (((h 73) 32) - ((h 74) ((h 96) x)))) 33 x59_9)) 75 = h 75 := sOf_ne _ _ (by decide)
                refine iv_X12_189 hK (s_X12_learn_73 x 0 (setO h 73 (fup (fup (h 73) 32 (((h 73) 32) - ((h 74) ((h 96) x)))) 33 x59_9)) hT_18 (by first | omega | (simp [up, setR] <;> omega)) (by first | omega | (simp [up, setR] <;> omega)) (by rewrite [e19_74, e20_75]; first | assumption | exact htb)) (by decide) rfl ⟨by decide, by decide⟩ (by decide) rfl rfl (Nat.le_of_ble_eq_true rfl) ⟨by decide, by decide⟩ dX12_readBit_163 ?_
                intro r9 g163_21 hp9
                obtain ⟨⟨hT_21, hG_21⟩, hr9, p1_21⟩ := hp9
                rw [hr9]
                have hF_21 : FRM [73, 96, 97] [32, 33, 34, 39] h g163_21 := FRM_tr hF_18 hG_21 (by decide) (by decide)
                rw [show (setO h 73 (fup (fup (h 73) 32 (((h 73) 32) - ((h 74) ((h 96) x)))) 33 x59_9)) 75 = h 75 from sOf_ne _ _ (by decide)] at p1_21
                rw [show (setO h 73 (fup (fup (h 73) 32 (((h 73) 32) - ((h 74) ((h 96) x)))) 33 x59_9)) 96 = h 96 from sOf_ne _ _ (by decide)] at p1_21
                show TT K ly 0 0 166 [(6, vI ((h 97) x)), (5, vI 0), (4, vI 0), (3, vI 0), (2, vI ((h 74) ((h 96) x))), (0, vR 73), (1, vI x)] [] g163_21
                have L166_22 : ∀ (k22 : Nat) (bt : Int) (w166_22 : Hp_), TY w166_22 → FRM [73, 96, 97] [32, 33, 34, 39] h w166_22 → (0 ≤ bt ∧ bt ≤ 1) → (1 ≤ (w166_22 73 32) ∧ (w166_22 73 32) < 65536) → ((65536 : Int) - (w166_22 73 32)).toNat < k22 → TT K ly 0 0 166 [(0, vR 73), (1, vI x), (6, vI bt)] [] w166_22 := by
                  intro k22
                  induction k22 with
                  | zero => intro bt w166_22 hT166_22 hF166_22 hbt ha1 hk22; exact absurd hk22 (Nat.not_lt_zero _)
                  | succ k22 ih22 =>
                    intro bt w166_22 hT166_22 hF166_22 hbt ha1 hk22
                    refine TT_aload_n hK rfl 0 rfl dX12_readBit_166 ?_
                    refine gf_X12_171 hK (by decide) rfl (v := (w166_22 73) 32) rfl dX12_readBit_167 ?_
                    have r23 := ty_73_32 (v := (w166_22 73) 32) hT166_22 rfl
                    refine TT_ldc2 hK lc_X12_169 dX12_readBit_170 ?_
                    refine TT_lcmp hK (lrm (by omega) (by omega)) (by decide) dX12_readBit_173 ?_
                    refine TT_if_ge hK (tgt := 225) (lcmp_ir _ _) dX12_readBit_174 (by decide) (fun hb174_24 => ?_) (fun hb174_24 => ?_)
                    · have hb174_24 := lcmp_ge hb174_24
                      refine TT_iload hK 2 rfl dX12_readBit_225 ?_
                      refine TT_iret hK hQ ?_ dX12_readBit_227
                      have e25_73_32 : w166_22 73 32 = (w166_22 73) 32 := rfl
                      exact ⟨⟨hT166_22, hF166_22⟩, bt, rfl, (by omega), (by rewrite [e25_73_32]; omega)⟩
                    · have hb174_24 := lcmp_lt hb174_24
                      refine TT_aload_n hK rfl 0 rfl dX12_readBit_177 ?_
                      refine gf_X12_178 hK (by decide) rfl (v := (w166_22 73) 34) rfl dX12_readBit_178 ?_
                      have r26 := ty_73_34 (v := (w166_22 73) 34) hT166_22 rfl
                      refine TT_if_ne hK (tgt := 188) (irm (by omega) (by omega)) dX12_readBit_181 (by decide) (fun hb181_27 => ?_) (fun hb181_27 => ?_)
                      · refine TT_aload_n hK rfl 0 rfl dX12_readBit_188 ?_
                        refine TT_ldc2 hK lc_X12_193 dX12_readBit_189 ?_
                        refine TT_aload_n hK rfl 0 rfl dX12_readBit_192 ?_
                        refine gf_X12_171 hK (by decide) rfl (v := (w166_22 73) 32) rfl dX12_readBit_193 ?_
                        refine TT_lmul hK dX12_readBit_196 ?_
                        refine pf_X12_171 hK (by decide) rfl dX12_readBit_197 ?_
                        refine TT_hp (h' := setO w166_22 73 (fup (w166_22 73) 32 (2 * ((w166_22 73) 32)))) (up_can rfl rfl rfl) ?_
                        have hT_28 : TY (setO w166_22 73 (fup (w166_22 73) 32 (2 * ((w166_22 73) 32)))) := tu_73_32 hT166_22 (show up w166_22 73 32 (2 * ((w166_22 73) 32)) = (setO w166_22 73 (fup (w166_22 73) 32 (2 * ((w166_22 73) 32)))) from up_can rfl rfl rfl) (by omega)
                        have hF_28 : FRM [73, 96, 97] [32, 33, 34, 39] h (setO w166_22 73 (fup (w166_22 73) 32 (2 * ((w166_22 73) 32)))) := FRM_f (show up w166_22 73 32 (2 * ((w166_22 73) 32)) = (setO w166_22 73 (fup (w166_22 73) 32 (2 * ((w166_22 73) 32)))) from up_can rfl rfl rfl) hF166_22 (by decide) (by decide)
                        refine TT_aload_n hK rfl 0 rfl dX12_readBit_200 ?_
                        refine TT_ldc2 hK lc_X12_193 dX12_readBit_201 ?_
                        refine TT_aload_n hK rfl 0 rfl dX12_readBit_204 ?_
                        refine gf_X12_175 hK (by decide) rfl (v := (w166_22 73) 33) (rd_ (sOf_eq _ _ _) (fup_ne _ _ (by decide))) dX12_readBit_205 ?_
                        have r29 := ty_73_33 (v := (w166_22 73) 33) hT_28 (rd_ (sOf_eq _ _ _) (fup_ne _ _ (by decide)))
                        refine TT_lmul hK dX12_readBit_208 ?_
                        refine TT_w64f (fun x209_30 hx30 => ?_)
                        refine pf_X12_175 hK (by decide) rfl dX12_readBit_209 ?_
                        refine TT_hp (h' := setO w166_22 73 (fup (fup (w166_22 73) 32 (2 * ((w166_22 73) 32))) 33 x209_30)) (up_can (sOf_eq _ _ _) rfl (setO_same _ _ _ _)) ?_
                        have hT_31 : TY (setO w166_22 73 (fup (fup (w166_22 73) 32 (2 * ((w166_22 73) 32))) 33 x209_30)) := tu_73_33 hT_28 (show up (setO w166_22 73 (fup (w166_22 73) 32 (2 * ((w166_22 73) 32)))) 73 33 x209_30 = (setO w166_22 73 (fup (fup (w166_22 73) 32 (2 * ((w166_22 73) 32))) 33 x209_30)) from up_can (sOf_eq _ _ _) rfl (setO_same _ _ _ _)) (by omega)
                        have hF_31 : FRM [73, 96, 97] [32, 33, 34, 39] h (setO w166_22 73 (fup (fup (w166_22 73) 32 (2 * ((w166_22 73) 32))) 33 x209_30)) := FRM_f (show up (setO w166_22 73 (fup (w166_22 73) 32 (2 * ((w166_22 73) 32)))) 73 33 x209_30 = (setO w166_22 73 (fup (fup (w166_22 73) 32 (2 * ((w166_22 73) 32))) 33 x209_30)) from up_can (sOf_eq _ _ _) rfl (setO_same _ _ _ _)) hF_28 (by decide) (by decide)
                        refine TT_aload_n hK rfl 0 rfl dX12_readBit_212 ?_
                        refine TT_dup hK rfl dX12_readBit_213 ?_
                        refine gf_X12_178 hK (by decide) rfl (v := (w166_22 73) 34) (rd_ (sOf_eq _ _ _) ((fup_ne _ _ (by decide)).trans (fup_ne _ _ (by decide)))) dX12_readBit_214 ?_
                        refine TT_iconst hK dX12_readBit_217 ?_
                        refine TT_isub hK dX12_readBit_218 ?_
                        refine pf_X12_178 hK (by decide) rfl dX12_readBit_219 ?_
                        refine TT_hp (h' := setO w166_22 73 (fup (fup (fup (w166_22 73) 32 (2 * ((w166_22 73) 32))) 33 x209_30) 34 (((w166_22 73) 34) - 1))) (up_can (sOf_eq _ _ _) rfl (setO_same _ _ _ _)) ?_
                        have hT_32 : TY (setO w166_22 73 (fup (fup (fup (w166_22 73) 32 (2 * ((w166_22 73) 32))) 33 x209_30) 34 (((w166_22 73) 34) - 1))) := tu_73_34 hT_31 (show up (setO w166_22 73 (fup (fup (w166_22 73) 32 (2 * ((w166_22 73) 32))) 33 x209_30)) 73 34 (((w166_22 73) 34) - 1) = (setO w166_22 73 (fup (fup (fup (w166_22 73) 32 (2 * ((w166_22 73) 32))) 33 x209_30) 34 (((w166_22 73) 34) - 1))) from up_can (sOf_eq _ _ _) rfl (setO_same _ _ _ _)) (by omega)
                        have hF_32 : FRM [73, 96, 97] [32, 33, 34, 39] h (setO w166_22 73 (fup (fup (fup (w166_22 73) 32 (2 * ((w166_22 73) 32))) 33 x209_30) 34 (((w166_22 73) 34) - 1))) := FRM_f (show up (setO w166_22 73 (fup (fup (w166_22 73) 32 (2 * ((w166_22 73) 32))) 33 x209_30)) 73 34 (((w166_22 73) 34) - 1) = (setO w166_22 73 (fup (fup (fup (w166_22 73) 32 (2 * ((w166_22 73) 32))) 33 x209_30) 34 (((w166_22 73) 34) - 1))) from up_can (sOf_eq _ _ _) rfl (setO_same _ _ _ _)) hF_31 (by decide) (by decide)
                        refine TT_goto hK (tgt := 166) dX12_readBit_222 (by decide) ?_
                        have e33_73_32 : (setO w166_22 73 (fup (fup (fup (w166_22 73) 32 (2 * ((w166_22 73) 32))) 33 x209_30) 34 (((w166_22 73) 34) - 1))) 73 32 = 2 * ((w166_22 73) 32) := rd_ (sOf_eq _ _ _) ((fup_ne _ _ (by decide)).trans ((fup_ne _ _ (by decide)).trans (fup_eq _ _ _)))
                        have e34_73_32 : (setO w166_22 73 (fup (fup (fup (w166_22 73) 32 (2 * ((w166_22 73) 32))) 33 x209_30) 34 (((w166_22 73) 34) - 1))) 73 32 = 2 * ((w166_22 73) 32) := rd_ (sOf_eq _ _ _) ((fup_ne _ _ (by decide)).trans ((fup_ne _ _ (by decide)).trans (fup_eq _ _ _)))
                        exact ih22 bt (setO w166_22 73 (fup (fup (fup (w166_22 73) 32 (2 * ((w166_22 73) 32))) 33 x209_30) 34 (((w166_22 73) 34) - 1))) hT_32 hF_32 (by first | omega | (simp [up, setR] <;> omega)) (by rewrite [e33_73_32]; first | omega | (simp [up, setR] <;> omega)) (by rewrite [e34_73_32]; first | omega | (simp [up, setR] <;> omega))
                      · refine TT_aload_n hK rfl 0 rfl dX12_readBit_184 ?_
                        refine iv_X12_216 hK (s_X12_takeIn_73 w166_22 hT166_22 ) (by decide) rfl ⟨by decide, by decide⟩ (by decide) rfl rfl (Nat.le_of_ble_eq_true rfl) ⟨by decide, by decide⟩ dX12_readBit_185 ?_
                        intro r9 g185_35 hp9
                        obtain ⟨⟨hT_35, hG_35⟩, hr9, p1_35⟩ := hp9
                        rw [hr9]
                        have hF_35 : FRM [73, 96, 97] [32, 33, 34, 39] h g185_35 := FRM_tr hF166_22 hG_35 (by decide) (by decide)
                        show TT K ly 0 0 188 [(0, vR 73), (1, vI x), (6, vI bt)] [] g185_35
                        refine TT_aload_n hK rfl 0 rfl dX12_readBit_188 ?_
                        refine TT_ldc2 hK lc_X12_193 dX12_readBit_189 ?_
                        refine TT_aload_n hK rfl 0 rfl dX12_readBit_192 ?_
                        refine gf_X12_171 hK (by decide) rfl (v := (w166_22 73) 32) (hG_35.2 32 (by decide)) dX12_readBit_193 ?_
                        refine TT_lmul hK dX12_readBit_196 ?_
                        refine pf_X12_171 hK (by decide) rfl dX12_readBit_197 ?_
                        refine TT_hp (h' := setO g185_35 73 (fup (g185_35 73) 32 (2 * ((w166_22 73) 32)))) (up_can rfl rfl rfl) ?_
                        have hT_36 : TY (setO g185_35 73 (fup (g185_35 73) 32 (2 * ((w166_22 73) 32)))) := tu_73_32 hT_35 (show up g185_35 73 32 (2 * ((w166_22 73) 32)) = (setO g185_35 73 (fup (g185_35 73) 32 (2 * ((w166_22 73) 32)))) from up_can rfl rfl rfl) (by omega)
                        have hF_36 : FRM [73, 96, 97] [32, 33, 34, 39] h (setO g185_35 73 (fup (g185_35 73) 32 (2 * ((w166_22 73) 32)))) := FRM_f (show up g185_35 73 32 (2 * ((w166_22 73) 32)) = (setO g185_35 73 (fup (g185_35 73) 32 (2 * ((w166_22 73) 32)))) from up_can rfl rfl rfl) hF_35 (by decide) (by decide)
                        refine TT_aload_n hK rfl 0 rfl dX12_readBit_200 ?_
                        refine TT_ldc2 hK lc_X12_193 dX12_readBit_201 ?_
                        refine TT_aload_n hK rfl 0 rfl dX12_readBit_204 ?_
                        refine gf_X12_175 hK (by decide) rfl (v := (g185_35 73) 33) (rd_ (sOf_eq _ _ _) (fup_ne _ _ (by decide))) dX12_readBit_205 ?_
                        have r37 := ty_73_33 (v := (g185_35 73) 33) hT_36 (rd_ (sOf_eq _ _ _) (fup_ne _ _ (by decide)))
                        refine TT_lmul hK dX12_readBit_208 ?_
                        refine TT_w64f (fun x209_38 hx38 => ?_)
                        refine pf_X12_175 hK (by decide) rfl dX12_readBit_209 ?_
                        refine TT_hp (h' := setO g185_35 73 (fup (fup (g185_35 73) 32 (2 * ((w166_22 73) 32))) 33 x209_38)) (up_can (sOf_eq _ _ _) rfl (setO_same _ _ _ _)) ?_
                        have hT_39 : TY (setO g185_35 73 (fup (fup (g185_35 73) 32 (2 * ((w166_22 73) 32))) 33 x209_38)) := tu_73_33 hT_36 (show up (setO g185_35 73 (fup (g185_35 73) 32 (2 * ((w166_22 73) 32)))) 73 33 x209_38 = (setO g185_35 73 (fup (fup (g185_35 73) 32 (2 * ((w166_22 73) 32))) 33 x209_38)) from up_can (sOf_eq _ _ _) rfl (setO_same _ _ _ _)) (by omega)
                        have hF_39 : FRM [73, 96, 97] [32, 33, 34, 39] h (setO g185_35 73 (fup (fup (g185_35 73) 32 (2 * ((w166_22 73) 32))) 33 x209_38)) := FRM_f (show up (setO g185_35 73 (fup (g185_35 73) 32 (2 * ((w166_22 73) 32)))) 73 33 x209_38 = (setO g185_35 73 (fup (fup (g185_35 73) 32 (2 * ((w166_22 73) 32))) 33 x209_38)) from up_can (sOf_eq _ _ _) rfl (setO_same _ _ _ _)) hF_36 (by decide) (by decide)
                        refine TT_aload_n hK rfl 0 rfl dX12_readBit_212 ?_
                        refine TT_dup hK rfl dX12_readBit_213 ?_
                        refine gf_X12_178 hK (by decide) rfl (v := (g185_35 73) 34) (rd_ (sOf_eq _ _ _) ((fup_ne _ _ (by decide)).trans (fup_ne _ _ (by decide)))) dX12_readBit_214 ?_
                        have r40 := ty_73_34 (v := (g185_35 73) 34) hT_39 (rd_ (sOf_eq _ _ _) ((fup_ne _ _ (by decide)).trans (fup_ne _ _ (by decide))))
                        refine TT_iconst hK dX12_readBit_217 ?_
                        refine TT_isub hK dX12_readBit_218 ?_
                        refine pf_X12_178 hK (by decide) rfl dX12_readBit_219 ?_
                        refine TT_hp (h' := setO g185_35 73 (fup (fup (fup (g185_35 73) 32 (2 * ((w166_22 73) 32))) 33 x209_38) 34 (((g185_35 73) 34) - 1))) (up_can (sOf_eq _ _ _) rfl (setO_same _ _ _ _)) ?_
                        have hT_41 : TY (setO g185_35 73 (fup (fup (fup (g185_35 73) 32 (2 * ((w166_22 73) 32))) 33 x209_38) 34 (((g185_35 73) 34) - 1))) := tu_73_34 hT_39 (show up (setO g185_35 73 (fup (fup (g185_35 73) 32 (2 * ((w166_22 73) 32))) 33 x209_38)) 73 34 (((g185_35 73) 34) - 1) = (setO g185_35 73 (fup (fup (fup (g185_35 73) 32 (2 * ((w166_22 73) 32))) 33 x209_38) 34 (((g185_35 73) 34) - 1))) from up_can (sOf_eq _ _ _) rfl (setO_same _ _ _ _)) (by omega)
                        have hF_41 : FRM [73, 96, 97] [32, 33, 34, 39] h (setO g185_35 73 (fup (fup (fup (g185_35 73) 32 (2 * ((w166_22 73) 32))) 33 x209_38) 34 (((g185_35 73) 34) - 1))) := FRM_f (show up (setO g185_35 73 (fup (fup (g185_35 73) 32 (2 * ((w166_22 73) 32))) 33 x209_38)) 73 34 (((g185_35 73) 34) - 1) = (setO g185_35 73 (fup (fup (fup (g185_35 73) 32 (2 * ((w166_22 73) 32))) 33 x209_38) 34 (((g185_35 73) 34) - 1))) from up_can (sOf_eq _ _ _) rfl (setO_same _ _ _ _)) hF_39 (by decide) (by decide)
                        refine TT_goto hK (tgt := 166) dX12_readBit_222 (by decide) ?_
                        have e42_73_32 : (setO g185_35 73 (fup (fup (fup (g185_35 73) 32 (2 * ((w166_22 73) 32))) 33 x209_38) 34 (((g185_35 73) 34) - 1))) 73 32 = 2 * ((w166_22 73) 32) := rd_ (sOf_eq _ _ _) ((fup_ne _ _ (by decide)).trans ((fup_ne _ _ (by decide)).trans (fup_eq _ _ _)))
                        have e43_73_32 : (setO g185_35 73 (fup (fup (fup (g185_35 73) 32 (2 * ((w166_22 73) 32))) 33 x209_38) 34 (((g185_35 73) 34) - 1))) 73 32 = 2 * ((w166_22 73) 32) := rd_ (sOf_eq _ _ _) ((fup_ne _ _ (by decide)).trans ((fup_ne _ _ (by decide)).trans (fup_eq _ _ _)))
                        exact ih22 bt (setO g185_35 73 (fup (fup (fup (g185_35 73) 32 (2 * ((w166_22 73) 32))) 33 x209_38) 34 (((g185_35 73) 34) - 1))) hT_41 hF_41 (by first | omega | (simp [up, setR] <;> omega)) (by rewrite [e42_73_32]; first | omega | (simp [up, setR] <;> omega)) (by rewrite [e43_73_32]; first | omega | (simp [up, setR] <;> omega))
                refine TT_sub [5, 6, 0] rfl ?_
                have e44_73_32 : g163_21 73 32 = ((h 73) 32) - ((h 74) ((h 96) x)) := rd_ (((hG_21.1 73 (by decide))).trans (sOf_eq _ _ _)) ((fup_ne _ _ (by decide)).trans (fup_eq _ _ _))
                exact L166_22 ((((65536 : Int) - (g163_21 73 32)).toNat) + 1) ((h 97) x) g163_21 hT_21 hF_21 (by first | omega | (simp [up, setR] <;> omega)) (by rewrite [e44_73_32]; first | omega | (simp [up, setR] <;> omega)) (Nat.lt_succ_self _)
              · exact absurd hb144_17 (by decide)
            · exact absurd hb120_15 (by decide)
          · exact absurd hb98_14 (by decide)
        · have hb87_13 := lcmp_lt hb87_13
          refine TT_iconst hK dX12_readBit_90 ?_
          refine TT_goto hK (tgt := 95) dX12_readBit_91 (by decide) ?_
          refine TT_istore hK (lv' := [(4, vI 1), (3, vI 0), (2, vI ((h 74) ((h 96) x))), (0, vR 73), (1, vI x)]) (by decide) rfl dX12_readBit_95 ?_
          refine TT_iload_n hK rfl 1 rfl dX12_readBit_97 ?_
          refine TT_if_eq hK (tgt := 114) (by decide) dX12_readBit_98 (by decide) (fun hb98_45 => ?_) (fun hb98_45 => ?_)
          · refine TT_iload hK 0 rfl dX12_readBit_114 ?_
            refine TT_istore hK (lv' := [(5, vI 1), (4, vI 1), (3, vI 0), (2, vI ((h 74) ((h 96) x))), (0, vR 73), (1, vI x)]) (by decide) rfl dX12_readBit_116 ?_
            refine TT_iload hK 0 rfl dX12_readBit_118 ?_
            refine TT_if_eq hK (tgt := 134) (by decide) dX12_readBit_120 (by decide) (fun hb120_46 => ?_) (fun hb120_46 => ?_)
            · exact absurd hb120_46 (by decide)
            · refine TT_iconst hK dX12_readBit_123 ?_
              refine TT_aload_n hK rfl 4 rfl dX12_readBit_124 ?_
              refine gf_X12_87 hK (by decide) rfl (q := 97) rfl rfl dX12_readBit_125 ?_
              refine TT_iload_n hK rfl 5 rfl dX12_readBit_128 ?_
              refine TT_iald hK (o := 97) (n := 19) (by decide) rfl (by first | omega | (simp [up, setR] <;> omega)) (by first | omega | (simp [up, setR] <;> omega)) (v := (h 97) x) (rd_ (sOf_ne _ _ (by decide)) rfl) dX12_readBit_129 ?_
              have r47 := ty_97 (i := x) (v := (h 97) x) hT_10 (rd_ (sOf_ne _ _ (by decide)) rfl) (by omega) (by omega)
              refine TT_isub hK dX12_readBit_130 ?_
              refine TT_goto hK (tgt := 140) dX12_readBit_131 (by decide) ?_
              refine TT_istore hK (lv' := [(6, vI (1 - ((h 97) x))), (5, vI 1), (4, vI 1), (3, vI 0), (2, vI ((h 74) ((h 96) x))), (0, vR 73), (1, vI x)]) (by decide) rfl dX12_readBit_140 ?_
              refine TT_aload_n hK rfl 5 rfl dX12_readBit_142 ?_
              refine TT_iload_n hK rfl 3 rfl dX12_readBit_143 ?_
              refine TT_if_eq hK (tgt := 152) (by decide) dX12_readBit_144 (by decide) (fun hb144_48 => ?_) (fun hb144_48 => ?_)
              · refine TT_aload_n hK rfl 5 rfl dX12_readBit_152 ?_
                refine gf_X12_171 hK (by decide) rfl (v := ((h 73) 32) - ((h 74) ((h 96) x))) (rd_ (sOf_eq _ _ _) ((fup_ne _ _ (by decide)).trans (fup_eq _ _ _))) dX12_readBit_153 ?_
                refine pf_X12_171 hK (by decide) rfl dX12_readBit_156 ?_
                refine TT_hp (h' := setO h 73 (fup (fup (h 73) 32 (((h 73) 32) - ((h 74) ((h 96) x)))) 33 x59_9)) (up_can (sOf_eq _ _ _) ((fup_comm _ _ _ (by decide)).trans (fup_cg (fup_same _ _ _ _))) (setO_same _ _ _ _)) ?_
                have hT_49 : TY (setO h 73 (fup (fup (h 73) 32 (((h 73) 32) - ((h 74) ((h 96) x)))) 33 x59_9)) := tu_73_32 hT_10 (show up (setO h 73 (fup (fup (h 73) 32 (((h 73) 32) - ((h 74) ((h 96) x)))) 33 x59_9)) 73 32 (((h 73) 32) - ((h 74) ((h 96) x))) = (setO h 73 (fup (fup (h 73) 32 (((h 73) 32) - ((h 74) ((h 96) x)))) 33 x59_9)) from up_can (sOf_eq _ _ _) ((fup_comm _ _ _ (by decide)).trans (fup_cg (fup_same _ _ _ _))) (setO_same _ _ _ _)) (by omega)
                have hF_49 : FRM [73, 96, 97] [32, 33, 34, 39] h (setO h 73 (fup (fup (h 73) 32 (((h 73) 32) - ((h 74) ((h 96) x)))) 33 x59_9)) := FRM_f (show up (setO h 73 (fup (fup (h 73) 32 (((h 73) 32) - ((h 74) ((h 96) x)))) 33 x59_9)) 73 32 (((h 73) 32) - ((h 74) ((h 96) x))) = (setO h 73 (fup (fup (h 73) 32 (((h 73) 32) - ((h 74) ((h 96) x)))) 33 x59_9)) from up_can (sOf_eq _ _ _) ((fup_comm _ _ _ (by decide)).trans (fup_cg (fup_same _ _ _ _))) (setO_same _ _ _ _)) hF_10 (by decide) (by decide)
                refine TT_aload_n hK rfl 5 rfl dX12_readBit_159 ?_
                refine TT_iload_n hK rfl 6 rfl dX12_readBit_160 ?_
                refine TT_iload hK 1 rfl dX12_readBit_161 ?_
                have e50_74 : (setO h 73 (fup (fup (h 73) 32 (((h 73) 32) - ((h 74) ((h 96) x)))) 33 x59_9)) 74 = h 74 := sOf_ne _ _ (by decide)
                have e51_75 : (setO h 73 (fup (fup (h 73) 32 (((h 73) 32) - ((h 74) ((h 96) x)))) 33 x59_9)) 75 = h 75 := sOf_ne _ _ (by decide)
                refine iv_X12_189 hK (s_X12_learn_73 x 1 (setO h 73 (fup (fup (h 73) 32 (((h 73) 32) - ((h 74) ((h 96) x)))) 33 x59_9)) hT_49 (by first | omega | (simp [up, setR] <;> omega)) (by first | omega | (simp [up, setR] <;> omega)) (by rewrite [e50_74, e51_75]; first | assumption | exact htb)) (by decide) rfl ⟨by decide, by decide⟩ (by decide) rfl rfl (Nat.le_of_ble_eq_true rfl) ⟨by decide, by decide⟩ dX12_readBit_163 ?_
                intro r9 g163_52 hp9
                obtain ⟨⟨hT_52, hG_52⟩, hr9, p1_52⟩ := hp9
                rw [hr9]
                have hF_52 : FRM [73, 96, 97] [32, 33, 34, 39] h g163_52 := FRM_tr hF_49 hG_52 (by decide) (by decide)
                rw [show (setO h 73 (fup (fup (h 73) 32 (((h 73) 32) - ((h 74) ((h 96) x)))) 33 x59_9)) 75 = h 75 from sOf_ne _ _ (by decide)] at p1_52
                rw [show (setO h 73 (fup (fup (h 73) 32 (((h 73) 32) - ((h 74) ((h 96) x)))) 33 x59_9)) 96 = h 96 from sOf_ne _ _ (by decide)] at p1_52
                show TT K ly 0 0 166 [(6, vI (1 - ((h 97) x))), (5, vI 1), (4, vI 1), (3, vI 0), (2, vI ((h 74) ((h 96) x))), (0, vR 73), (1, vI x)] [] g163_52
                have L166_53 : ∀ (k53 : Nat) (bt : Int) (w166_53 : Hp_), TY w166_53 → FRM [73, 96, 97] [32, 33, 34, 39] h w166_53 → (0 ≤ bt ∧ bt ≤ 1) → (1 ≤ (w166_53 73 32) ∧ (w166_53 73 32) < 65536) → ((65536 : Int) - (w166_53 73 32)).toNat < k53 → TT K ly 0 0 166 [(0, vR 73), (1, vI x), (6, vI bt)] [] w166_53 := by
                  intro k53
                  induction k53 with
                  | zero => intro bt w166_53 hT166_53 hF166_53 hbt ha1 hk53; exact absurd hk53 (Nat.not_lt_zero _)
                  | succ k53 ih53 =>
                    intro bt w166_53 hT166_53 hF166_53 hbt ha1 hk53
                    refine TT_aload_n hK rfl 0 rfl dX12_readBit_166 ?_
                    refine gf_X12_171 hK (by decide) rfl (v := (w166_53 73) 32) rfl dX12_readBit_167 ?_
                    have r54 := ty_73_32 (v := (w166_53 73) 32) hT166_53 rfl
                    refine TT_ldc2 hK lc_X12_169 dX12_readBit_170 ?_
                    refine TT_lcmp hK (lrm (by omega) (by omega)) (by decide) dX12_readBit_173 ?_
                    refine TT_if_ge hK (tgt := 225) (lcmp_ir _ _) dX12_readBit_174 (by decide) (fun hb174_55 => ?_) (fun hb174_55 => ?_)
                    · have hb174_55 := lcmp_ge hb174_55
                      refine TT_iload hK 2 rfl dX12_readBit_225 ?_
                      refine TT_iret hK hQ ?_ dX12_readBit_227
                      have e56_73_32 : w166_53 73 32 = (w166_53 73) 32 := rfl
                      exact ⟨⟨hT166_53, hF166_53⟩, bt, rfl, (by omega), (by rewrite [e56_73_32]; omega)⟩
                    · have hb174_55 := lcmp_lt hb174_55
                      refine TT_aload_n hK rfl 0 rfl dX12_readBit_177 ?_
                      refine gf_X12_178 hK (by decide) rfl (v := (w166_53 73) 34) rfl dX12_readBit_178 ?_
                      have r57 := ty_73_34 (v := (w166_53 73) 34) hT166_53 rfl
                      refine TT_if_ne hK (tgt := 188) (irm (by omega) (by omega)) dX12_readBit_181 (by decide) (fun hb181_58 => ?_) (fun hb181_58 => ?_)
                      · refine TT_aload_n hK rfl 0 rfl dX12_readBit_188 ?_
                        refine TT_ldc2 hK lc_X12_193 dX12_readBit_189 ?_
                        refine TT_aload_n hK rfl 0 rfl dX12_readBit_192 ?_
                        refine gf_X12_171 hK (by decide) rfl (v := (w166_53 73) 32) rfl dX12_readBit_193 ?_
                        refine TT_lmul hK dX12_readBit_196 ?_
                        refine pf_X12_171 hK (by decide) rfl dX12_readBit_197 ?_
                        refine TT_hp (h' := setO w166_53 73 (fup (w166_53 73) 32 (2 * ((w166_53 73) 32)))) (up_can rfl rfl rfl) ?_
                        have hT_59 : TY (setO w166_53 73 (fup (w166_53 73) 32 (2 * ((w166_53 73) 32)))) := tu_73_32 hT166_53 (show up w166_53 73 32 (2 * ((w166_53 73) 32)) = (setO w166_53 73 (fup (w166_53 73) 32 (2 * ((w166_53 73) 32)))) from up_can rfl rfl rfl) (by omega)
                        have hF_59 : FRM [73, 96, 97] [32, 33, 34, 39] h (setO w166_53 73 (fup (w166_53 73) 32 (2 * ((w166_53 73) 32)))) := FRM_f (show up w166_53 73 32 (2 * ((w166_53 73) 32)) = (setO w166_53 73 (fup (w166_53 73) 32 (2 * ((w166_53 73) 32)))) from up_can rfl rfl rfl) hF166_53 (by decide) (by decide)
                        refine TT_aload_n hK rfl 0 rfl dX12_readBit_200 ?_
                        refine TT_ldc2 hK lc_X12_193 dX12_readBit_201 ?_
                        refine TT_aload_n hK rfl 0 rfl dX12_readBit_204 ?_
                        refine gf_X12_175 hK (by decide) rfl (v := (w166_53 73) 33) (rd_ (sOf_eq _ _ _) (fup_ne _ _ (by decide))) dX12_readBit_205 ?_
                        have r60 := ty_73_33 (v := (w166_53 73) 33) hT_59 (rd_ (sOf_eq _ _ _) (fup_ne _ _ (by decide)))
                        refine TT_lmul hK dX12_readBit_208 ?_
                        refine TT_w64f (fun x209_61 hx61 => ?_)
                        refine pf_X12_175 hK (by decide) rfl dX12_readBit_209 ?_
                        refine TT_hp (h' := setO w166_53 73 (fup (fup (w166_53 73) 32 (2 * ((w166_53 73) 32))) 33 x209_61)) (up_can (sOf_eq _ _ _) rfl (setO_same _ _ _ _)) ?_
                        have hT_62 : TY (setO w166_53 73 (fup (fup (w166_53 73) 32 (2 * ((w166_53 73) 32))) 33 x209_61)) := tu_73_33 hT_59 (show up (setO w166_53 73 (fup (w166_53 73) 32 (2 * ((w166_53 73) 32)))) 73 33 x209_61 = (setO w166_53 73 (fup (fup (w166_53 73) 32 (2 * ((w166_53 73) 32))) 33 x209_61)) from up_can (sOf_eq _ _ _) rfl (setO_same _ _ _ _)) (by omega)
                        have hF_62 : FRM [73, 96, 97] [32, 33, 34, 39] h (setO w166_53 73 (fup (fup (w166_53 73) 32 (2 * ((w166_53 73) 32))) 33 x209_61)) := FRM_f (show up (setO w166_53 73 (fup (w166_53 73) 32 (2 * ((w166_53 73) 32)))) 73 33 x209_61 = (setO w166_53 73 (fup (fup (w166_53 73) 32 (2 * ((w166_53 73) 32))) 33 x209_61)) from up_can (sOf_eq _ _ _) rfl (setO_same _ _ _ _)) hF_59 (by decide) (by decide)
                        refine TT_aload_n hK rfl 0 rfl dX12_readBit_212 ?_
                        refine TT_dup hK rfl dX12_readBit_213 ?_
                        refine gf_X12_178 hK (by decide) rfl (v := (w166_53 73) 34) (rd_ (sOf_eq _ _ _) ((fup_ne _ _ (by decide)).trans (fup_ne _ _ (by decide)))) dX12_readBit_214 ?_
                        refine TT_iconst hK dX12_readBit_217 ?_
                        refine TT_isub hK dX12_readBit_218 ?_
                        refine pf_X12_178 hK (by decide) rfl dX12_readBit_219 ?_
                        refine TT_hp (h' := setO w166_53 73 (fup (fup (fup (w166_53 73) 32 (2 * ((w166_53 73) 32))) 33 x209_61) 34 (((w166_53 73) 34) - 1))) (up_can (sOf_eq _ _ _) rfl (setO_same _ _ _ _)) ?_
                        have hT_63 : TY (setO w166_53 73 (fup (fup (fup (w166_53 73) 32 (2 * ((w166_53 73) 32))) 33 x209_61) 34 (((w166_53 73) 34) - 1))) := tu_73_34 hT_62 (show up (setO w166_53 73 (fup (fup (w166_53 73) 32 (2 * ((w166_53 73) 32))) 33 x209_61)) 73 34 (((w166_53 73) 34) - 1) = (setO w166_53 73 (fup (fup (fup (w166_53 73) 32 (2 * ((w166_53 73) 32))) 33 x209_61) 34 (((w166_53 73) 34) - 1))) from up_can (sOf_eq _ _ _) rfl (setO_same _ _ _ _)) (by omega)
                        have hF_63 : FRM [73, 96, 97] [32, 33, 34, 39] h (setO w166_53 73 (fup (fup (fup (w166_53 73) 32 (2 * ((w166_53 73) 32))) 33 x209_61) 34 (((w166_53 73) 34) - 1))) := FRM_f (show up (setO w166_53 73 (fup (fup (w166_53 73) 32 (2 * ((w166_53 73) 32))) 33 x209_61)) 73 34 (((w166_53 73) 34) - 1) = (setO w166_53 73 (fup (fup (fup (w166_53 73) 32 (2 * ((w166_53 73) 32))) 33 x209_61) 34 (((w166_53 73) 34) - 1))) from up_can (sOf_eq _ _ _) rfl (setO_same _ _ _ _)) hF_62 (by decide) (by decide)
                        refine TT_goto hK (tgt := 166) dX12_readBit_222 (by decide) ?_
                        have e64_73_32 : (setO w166_53 73 (fup (fup (fup (w166_53 73) 32 (2 * ((w166_53 73) 32))) 33 x209_61) 34 (((w166_53 73) 34) - 1))) 73 32 = 2 * ((w166_53 73) 32) := rd_ (sOf_eq _ _ _) ((fup_ne _ _ (by decide)).trans ((fup_ne _ _ (by decide)).trans (fup_eq _ _ _)))
                        have e65_73_32 : (setO w166_53 73 (fup (fup (fup (w166_53 73) 32 (2 * ((w166_53 73) 32))) 33 x209_61) 34 (((w166_53 73) 34) - 1))) 73 32 = 2 * ((w166_53 73) 32) := rd_ (sOf_eq _ _ _) ((fup_ne _ _ (by decide)).trans ((fup_ne _ _ (by decide)).trans (fup_eq _ _ _)))
                        exact ih53 bt (setO w166_53 73 (fup (fup (fup (w166_53 73) 32 (2 * ((w166_53 73) 32))) 33 x209_61) 34 (((w166_53 73) 34) - 1))) hT_63 hF_63 (by first | omega | (simp [up, setR] <;> omega)) (by rewrite [e64_73_32]; first | omega | (simp [up, setR] <;> omega)) (by rewrite [e65_73_32]; first | omega | (simp [up, setR] <;> omega))
                      · refine TT_aload_n hK rfl 0 rfl dX12_readBit_184 ?_
                        refine iv_X12_216 hK (s_X12_takeIn_73 w166_53 hT166_53 ) (by decide) rfl ⟨by decide, by decide⟩ (by decide) rfl rfl (Nat.le_of_ble_eq_true rfl) ⟨by decide, by decide⟩ dX12_readBit_185 ?_
                        intro r9 g185_66 hp9
                        obtain ⟨⟨hT_66, hG_66⟩, hr9, p1_66⟩ := hp9
                        rw [hr9]
                        have hF_66 : FRM [73, 96, 97] [32, 33, 34, 39] h g185_66 := FRM_tr hF166_53 hG_66 (by decide) (by decide)
                        show TT K ly 0 0 188 [(0, vR 73), (1, vI x), (6, vI bt)] [] g185_66
                        refine TT_aload_n hK rfl 0 rfl dX12_readBit_188 ?_
                        refine TT_ldc2 hK lc_X12_193 dX12_readBit_189 ?_
                        refine TT_aload_n hK rfl 0 rfl dX12_readBit_192 ?_
                        refine gf_X12_171 hK (by decide) rfl (v := (w166_53 73) 32) (hG_66.2 32 (by decide)) dX12_readBit_193 ?_
                        refine TT_lmul hK dX12_readBit_196 ?_
                        refine pf_X12_171 hK (by decide) rfl dX12_readBit_197 ?_
                        refine TT_hp (h' := setO g185_66 73 (fup (g185_66 73) 32 (2 * ((w166_53 73) 32)))) (up_can rfl rfl rfl) ?_
                        have hT_67 : TY (setO g185_66 73 (fup (g185_66 73) 32 (2 * ((w166_53 73) 32)))) := tu_73_32 hT_66 (show up g185_66 73 32 (2 * ((w166_53 73) 32)) = (setO g185_66 73 (fup (g185_66 73) 32 (2 * ((w166_53 73) 32)))) from up_can rfl rfl rfl) (by omega)
                        have hF_67 : FRM [73, 96, 97] [32, 33, 34, 39] h (setO g185_66 73 (fup (g185_66 73) 32 (2 * ((w166_53 73) 32)))) := FRM_f (show up g185_66 73 32 (2 * ((w166_53 73) 32)) = (setO g185_66 73 (fup (g185_66 73) 32 (2 * ((w166_53 73) 32)))) from up_can rfl rfl rfl) hF_66 (by decide) (by decide)
                        refine TT_aload_n hK rfl 0 rfl dX12_readBit_200 ?_
                        refine TT_ldc2 hK lc_X12_193 dX12_readBit_201 ?_
                        refine TT_aload_n hK rfl 0 rfl dX12_readBit_204 ?_
                        refine gf_X12_175 hK (by decide) rfl (v := (g185_66 73) 33) (rd_ (sOf_eq _ _ _) (fup_ne _ _ (by decide))) dX12_readBit_205 ?_
                        have r68 := ty_73_33 (v := (g185_66 73) 33) hT_67 (rd_ (sOf_eq _ _ _) (fup_ne _ _ (by decide)))
                        refine TT_lmul hK dX12_readBit_208 ?_
                        refine TT_w64f (fun x209_69 hx69 => ?_)
                        refine pf_X12_175 hK (by decide) rfl dX12_readBit_209 ?_
                        refine TT_hp (h' := setO g185_66 73 (fup (fup (g185_66 73) 32 (2 * ((w166_53 73) 32))) 33 x209_69)) (up_can (sOf_eq _ _ _) rfl (setO_same _ _ _ _)) ?_
                        have hT_70 : TY (setO g185_66 73 (fup (fup (g185_66 73) 32 (2 * ((w166_53 73) 32))) 33 x209_69)) := tu_73_33 hT_67 (show up (setO g185_66 73 (fup (g185_66 73) 32 (2 * ((w166_53 73) 32)))) 73 33 x209_69 = (setO g185_66 73 (fup (fup (g185_66 73) 32 (2 * ((w166_53 73) 32))) 33 x209_69)) from up_can (sOf_eq _ _ _) rfl (setO_same _ _ _ _)) (by omega)
                        have hF_70 : FRM [73, 96, 97] [32, 33, 34, 39] h (setO g185_66 73 (fup (fup (g185_66 73) 32 (2 * ((w166_53 73) 32))) 33 x209_69)) := FRM_f (show up (setO g185_66 73 (fup (g185_66 73) 32 (2 * ((w166_53 73) 32)))) 73 33 x209_69 = (setO g185_66 73 (fup (fup (g185_66 73) 32 (2 * ((w166_53 73) 32))) 33 x209_69)) from up_can (sOf_eq _ _ _) rfl (setO_same _ _ _ _)) hF_67 (by decide) (by decide)
                        refine TT_aload_n hK rfl 0 rfl dX12_readBit_212 ?_
                        refine TT_dup hK rfl dX12_readBit_213 ?_
                        refine gf_X12_178 hK (by decide) rfl (v := (g185_66 73) 34) (rd_ (sOf_eq _ _ _) ((fup_ne _ _ (by decide)).trans (fup_ne _ _ (by decide)))) dX12_readBit_214 ?_
                        have r71 := ty_73_34 (v := (g185_66 73) 34) hT_70 (rd_ (sOf_eq _ _ _) ((fup_ne _ _ (by decide)).trans (fup_ne _ _ (by decide))))
                        refine TT_iconst hK dX12_readBit_217 ?_
                        refine TT_isub hK dX12_readBit_218 ?_
                        refine pf_X12_178 hK (by decide) rfl dX12_readBit_219 ?_
                        refine TT_hp (h' := setO g185_66 73 (fup (fup (fup (g185_66 73) 32 (2 * ((w166_53 73) 32))) 33 x209_69) 34 (((g185_66 73) 34) - 1))) (up_can (sOf_eq _ _ _) rfl (setO_same _ _ _ _)) ?_
                        have hT_72 : TY (setO g185_66 73 (fup (fup (fup (g185_66 73) 32 (2 * ((w166_53 73) 32))) 33 x209_69) 34 (((g185_66 73) 34) - 1))) := tu_73_34 hT_70 (show up (setO g185_66 73 (fup (fup (g185_66 73) 32 (2 * ((w166_53 73) 32))) 33 x209_69)) 73 34 (((g185_66 73) 34) - 1) = (setO g185_66 73 (fup (fup (fup (g185_66 73) 32 (2 * ((w166_53 73) 32))) 33 x209_69) 34 (((g185_66 73) 34) - 1))) from up_can (sOf_eq _ _ _) rfl (setO_same _ _ _ _)) (by omega)
                        have hF_72 : FRM [73, 96, 97] [32, 33, 34, 39] h (setO g185_66 73 (fup (fup (fup (g185_66 73) 32 (2 * ((w166_53 73) 32))) 33 x209_69) 34 (((g185_66 73) 34) - 1))) := FRM_f (show up (setO g185_66 73 (fup (fup (g185_66 73) 32 (2 * ((w166_53 73) 32))) 33 x209_69)) 73 34 (((g185_66 73) 34) - 1) = (setO g185_66 73 (fup (fup (fup (g185_66 73) 32 (2 * ((w166_53 73) 32))) 33 x209_69) 34 (((g185_66 73) 34) - 1))) from up_can (sOf_eq _ _ _) rfl (setO_same _ _ _ _)) hF_70 (by decide) (by decide)
                        refine TT_goto hK (tgt := 166) dX12_readBit_222 (by decide) ?_
                        have e73_73_32 : (setO g185_66 73 (fup (fup (fup (g185_66 73) 32 (2 * ((w166_53 73) 32))) 33 x209_69) 34 (((g185_66 73) 34) - 1))) 73 32 = 2 * ((w166_53 73) 32) := rd_ (sOf_eq _ _ _) ((fup_ne _ _ (by decide)).trans ((fup_ne _ _ (by decide)).trans (fup_eq _ _ _)))
                        have e74_73_32 : (setO g185_66 73 (fup (fup (fup (g185_66 73) 32 (2 * ((w166_53 73) 32))) 33 x209_69) 34 (((g185_66 73) 34) - 1))) 73 32 = 2 * ((w166_53 73) 32) := rd_ (sOf_eq _ _ _) ((fup_ne _ _ (by decide)).trans ((fup_ne _ _ (by decide)).trans (fup_eq _ _ _)))
                        exact ih53 bt (setO g185_66 73 (fup (fup (fup (g185_66 73) 32 (2 * ((w166_53 73) 32))) 33 x209_69) 34 (((g185_66 73) 34) - 1))) hT_72 hF_72 (by first | omega | (simp [up, setR] <;> omega)) (by rewrite [e73_73_32]; first | omega | (simp [up, setR] <;> omega)) (by rewrite [e74_73_32]; first | omega | (simp [up, setR] <;> omega))
                refine TT_sub [5, 6, 0] rfl ?_
                have e75_73_32 : g163_52 73 32 = ((h 73) 32) - ((h 74) ((h 96) x)) := rd_ (((hG_52.1 73 (by decide))).trans (sOf_eq _ _ _)) ((fup_ne _ _ (by decide)).trans (fup_eq _ _ _))
                exact L166_53 ((((65536 : Int) - (g163_52 73 32)).toNat) + 1) (1 - ((h 97) x)) g163_52 hT_52 hF_52 (by first | omega | (simp [up, setR] <;> omega)) (by rewrite [e75_73_32]; first | omega | (simp [up, setR] <;> omega)) (Nat.lt_succ_self _)
              · exact absurd hb144_48 (by decide)
          · exact absurd hb98_45 (by decide)
      · have hb70_12 := lcmp_ge hb70_12
        refine TT_aload_n hK rfl 2 rfl dX12_readBit_73 ?_
        refine gf_X12_87 hK (by decide) rfl (q := 97) rfl rfl dX12_readBit_74 ?_
        refine TT_iload_n hK rfl 3 rfl dX12_readBit_77 ?_
        refine TT_iald hK (o := 97) (n := 19) (by decide) rfl (by first | omega | (simp [up, setR] <;> omega)) (by first | omega | (simp [up, setR] <;> omega)) (v := (h 97) x) (rd_ (sOf_ne _ _ (by decide)) rfl) dX12_readBit_78 ?_
        have r76 := ty_97 (i := x) (v := (h 97) x) hT_10 (rd_ (sOf_ne _ _ (by decide)) rfl) (by omega) (by omega)
        refine TT_iret hK hQ ?_ dX12_readBit_79
        have e77_73_32 : (setO h 73 (fup (fup (h 73) 32 (((h 73) 32) - ((h 74) ((h 96) x)))) 33 x59_9)) 73 32 = ((h 73) 32) - ((h 74) ((h 96) x)) := rd_ (sOf_eq _ _ _) ((fup_ne _ _ (by decide)).trans (fup_eq _ _ _))
        exact ⟨⟨hT_10, hF_10⟩, ((h 97) x), rfl, (by omega), (by rewrite [e77_73_32]; omega)⟩
  · have hb34_7 := lcmp_lt hb34_7
    refine TT_iconst hK dX12_readBit_37 ?_
    refine TT_goto hK (tgt := 42) dX12_readBit_38 (by decide) ?_
    refine TT_istore_n hK rfl (lv' := [(3, vI 1), (2, vI ((h 74) ((h 96) x))), (0, vR 73), (1, vI x)]) (by decide) rfl dX12_readBit_42 ?_
    refine TT_iload_n hK rfl 0 rfl dX12_readBit_43 ?_
    refine TT_if_ne hK (tgt := 80) (by decide) dX12_readBit_44 (by decide) (fun hb44_78 => ?_) (fun hb44_78 => ?_)
    · refine TT_aload_n hK rfl 2 rfl dX12_readBit_80 ?_
      refine gf_X12_171 hK (by decide) rfl (v := ((h 73) 32) - ((h 74) ((h 96) x))) (rd_ (sOf_eq _ _ _) (fup_eq _ _ _)) dX12_readBit_81 ?_
      have r79 := ty_73_32 (v := ((h 73) 32) - ((h 74) ((h 96) x))) hT_4 (rd_ (sOf_eq _ _ _) (fup_eq _ _ _))
      refine TT_iload_n hK rfl 1 rfl dX12_readBit_84 ?_
      refine TT_i2l hK (irm (by omega) (by omega)) dX12_readBit_85 ?_
      refine TT_lcmp hK (lrm (by omega) (by omega)) (lrm (by omega) (by omega)) dX12_readBit_86 ?_
      refine TT_if_ge hK (tgt := 94) (lcmp_ir _ _) dX12_readBit_87 (by decide) (fun hb87_80 => ?_) (fun hb87_80 => ?_)
      · have hb87_80 := lcmp_ge hb87_80
        refine TT_iconst hK dX12_readBit_94 ?_
        refine TT_istore hK (lv' := [(4, vI 0), (3, vI 1), (2, vI ((h 74) ((h 96) x))), (0, vR 73), (1, vI x)]) (by decide) rfl dX12_readBit_95 ?_
        refine TT_iload_n hK rfl 1 rfl dX12_readBit_97 ?_
        refine TT_if_eq hK (tgt := 114) (by decide) dX12_readBit_98 (by decide) (fun hb98_81 => ?_) (fun hb98_81 => ?_)
        · exact absurd hb98_81 (by decide)
        · refine TT_iload hK 0 rfl dX12_readBit_101 ?_
          refine TT_if_ne hK (tgt := 110) (by decide) dX12_readBit_103 (by decide) (fun hb103_82 => ?_) (fun hb103_82 => ?_)
          · exact absurd hb103_82 (by decide)
          · refine TT_iconst hK dX12_readBit_106 ?_
            refine TT_goto hK (tgt := 116) dX12_readBit_107 (by decide) ?_
            refine TT_istore hK (lv' := [(5, vI 1), (4, vI 0), (3, vI 1), (2, vI ((h 74) ((h 96) x))), (0, vR 73), (1, vI x)]) (by decide) rfl dX12_readBit_116 ?_
            refine TT_iload hK 0 rfl dX12_readBit_118 ?_
            refine TT_if_eq hK (tgt := 134) (by decide) dX12_readBit_120 (by decide) (fun hb120_83 => ?_) (fun hb120_83 => ?_)
            · exact absurd hb120_83 (by decide)
            · refine TT_iconst hK dX12_readBit_123 ?_
              refine TT_aload_n hK rfl 4 rfl dX12_readBit_124 ?_
              refine gf_X12_87 hK (by decide) rfl (q := 97) rfl rfl dX12_readBit_125 ?_
              refine TT_iload_n hK rfl 5 rfl dX12_readBit_128 ?_
              refine TT_iald hK (o := 97) (n := 19) (by decide) rfl (by first | omega | (simp [up, setR] <;> omega)) (by first | omega | (simp [up, setR] <;> omega)) (v := (h 97) x) (rd_ (sOf_ne _ _ (by decide)) rfl) dX12_readBit_129 ?_
              have r84 := ty_97 (i := x) (v := (h 97) x) hT_4 (rd_ (sOf_ne _ _ (by decide)) rfl) (by omega) (by omega)
              refine TT_isub hK dX12_readBit_130 ?_
              refine TT_goto hK (tgt := 140) dX12_readBit_131 (by decide) ?_
              refine TT_istore hK (lv' := [(6, vI (1 - ((h 97) x))), (5, vI 1), (4, vI 0), (3, vI 1), (2, vI ((h 74) ((h 96) x))), (0, vR 73), (1, vI x)]) (by decide) rfl dX12_readBit_140 ?_
              refine TT_aload_n hK rfl 5 rfl dX12_readBit_142 ?_
              refine TT_iload_n hK rfl 3 rfl dX12_readBit_143 ?_
              refine TT_if_eq hK (tgt := 152) (by decide) dX12_readBit_144 (by decide) (fun hb144_85 => ?_) (fun hb144_85 => ?_)
              · exact absurd hb144_85 (by decide)
              · refine TT_iload_n hK rfl 4 rfl dX12_readBit_147 ?_
                refine TT_i2l hK (irm (by omega) (by omega)) dX12_readBit_148 ?_
                refine TT_goto hK (tgt := 156) dX12_readBit_149 (by decide) ?_
                refine pf_X12_171 hK (by decide) rfl dX12_readBit_156 ?_
                refine TT_hp (h' := setO h 73 (fup (h 73) 32 ((h 74) ((h 96) x)))) (up_can (sOf_eq _ _ _) (fup_same _ _ _ _) (setO_same _ _ _ _)) ?_
                have hT_86 : TY (setO h 73 (fup (h 73) 32 ((h 74) ((h 96) x)))) := tu_73_32 hT_4 (show up (setO h 73 (fup (h 73) 32 (((h 73) 32) - ((h 74) ((h 96) x))))) 73 32 ((h 74) ((h 96) x)) = (setO h 73 (fup (h 73) 32 ((h 74) ((h 96) x)))) from up_can (sOf_eq _ _ _) (fup_same _ _ _ _) (setO_same _ _ _ _)) (by omega)
                have hF_86 : FRM [73, 96, 97] [32, 33, 34, 39] h (setO h 73 (fup (h 73) 32 ((h 74) ((h 96) x)))) := FRM_f (show up (setO h 73 (fup (h 73) 32 (((h 73) 32) - ((h 74) ((h 96) x))))) 73 32 ((h 74) ((h 96) x)) = (setO h 73 (fup (h 73) 32 ((h 74) ((h 96) x)))) from up_can (sOf_eq _ _ _) (fup_same _ _ _ _) (setO_same _ _ _ _)) hF_4 (by decide) (by decide)
                refine TT_aload_n hK rfl 5 rfl dX12_readBit_159 ?_
                refine TT_iload_n hK rfl 6 rfl dX12_readBit_160 ?_
                refine TT_iload hK 1 rfl dX12_readBit_161 ?_
                have e87_74 : (setO h 73 (fup (h 73) 32 ((h 74) ((h 96) x)))) 74 = h 74 := sOf_ne _ _ (by decide)
                have e88_75 : (setO h 73 (fup (h 73) 32 ((h 74) ((h 96) x)))) 75 = h 75 := sOf_ne _ _ (by decide)
                refine iv_X12_189 hK (s_X12_learn_73 x 1 (setO h 73 (fup (h 73) 32 ((h 74) ((h 96) x)))) hT_86 (by first | omega | (simp [up, setR] <;> omega)) (by first | omega | (simp [up, setR] <;> omega)) (by rewrite [e87_74, e88_75]; first | assumption | exact htb)) (by decide) rfl ⟨by decide, by decide⟩ (by decide) rfl rfl (Nat.le_of_ble_eq_true rfl) ⟨by decide, by decide⟩ dX12_readBit_163 ?_
                intro r9 g163_89 hp9
                obtain ⟨⟨hT_89, hG_89⟩, hr9, p1_89⟩ := hp9
                rw [hr9]
                have hF_89 : FRM [73, 96, 97] [32, 33, 34, 39] h g163_89 := FRM_tr hF_86 hG_89 (by decide) (by decide)
                rw [show (setO h 73 (fup (h 73) 32 ((h 74) ((h 96) x)))) 75 = h 75 from sOf_ne _ _ (by decide)] at p1_89
                rw [show (setO h 73 (fup (h 73) 32 ((h 74) ((h 96) x)))) 96 = h 96 from sOf_ne _ _ (by decide)] at p1_89
                show TT K ly 0 0 166 [(6, vI (1 - ((h 97) x))), (5, vI 1), (4, vI 0), (3, vI 1), (2, vI ((h 74) ((h 96) x))), (0, vR 73), (1, vI x)] [] g163_89
                have L166_90 : ∀ (k90 : Nat) (bt : Int) (w166_90 : Hp_), TY w166_90 → FRM [73, 96, 97] [32, 33, 34, 39] h w166_90 → (0 ≤ bt ∧ bt ≤ 1) → (1 ≤ (w166_90 73 32) ∧ (w166_90 73 32) < 65536) → ((65536 : Int) - (w166_90 73 32)).toNat < k90 → TT K ly 0 0 166 [(0, vR 73), (1, vI x), (6, vI bt)] [] w166_90 := by
                  intro k90
                  induction k90 with
                  | zero => intro bt w166_90 hT166_90 hF166_90 hbt ha1 hk90; exact absurd hk90 (Nat.not_lt_zero _)
                  | succ k90 ih90 =>
                    intro bt w166_90 hT166_90 hF166_90 hbt ha1 hk90
                    refine TT_aload_n hK rfl 0 rfl dX12_readBit_166 ?_
                    refine gf_X12_171 hK (by decide) rfl (v := (w166_90 73) 32) rfl dX12_readBit_167 ?_
                    have r91 := ty_73_32 (v := (w166_90 73) 32) hT166_90 rfl
                    refine TT_ldc2 hK lc_X12_169 dX12_readBit_170 ?_
                    refine TT_lcmp hK (lrm (by omega) (by omega)) (by decide) dX12_readBit_173 ?_
                    refine TT_if_ge hK (tgt := 225) (lcmp_ir _ _) dX12_readBit_174 (by decide) (fun hb174_92 => ?_) (fun hb174_92 => ?_)
                    · have hb174_92 := lcmp_ge hb174_92
                      refine TT_iload hK 2 rfl dX12_readBit_225 ?_
                      refine TT_iret hK hQ ?_ dX12_readBit_227
                      have e93_73_32 : w166_90 73 32 = (w166_90 73) 32 := rfl
                      exact ⟨⟨hT166_90, hF166_90⟩, bt, rfl, (by omega), (by rewrite [e93_73_32]; omega)⟩
                    · have hb174_92 := lcmp_lt hb174_92
                      refine TT_aload_n hK rfl 0 rfl dX12_readBit_177 ?_
                      refine gf_X12_178 hK (by decide) rfl (v := (w166_90 73) 34) rfl dX12_readBit_178 ?_
                      have r94 := ty_73_34 (v := (w166_90 73) 34) hT166_90 rfl
                      refine TT_if_ne hK (tgt := 188) (irm (by omega) (by omega)) dX12_readBit_181 (by decide) (fun hb181_95 => ?_) (fun hb181_95 => ?_)
                      · refine TT_aload_n hK rfl 0 rfl dX12_readBit_188 ?_
                        refine TT_ldc2 hK lc_X12_193 dX12_readBit_189 ?_
                        refine TT_aload_n hK rfl 0 rfl dX12_readBit_192 ?_
                        refine gf_X12_171 hK (by decide) rfl (v := (w166_90 73) 32) rfl dX12_readBit_193 ?_
                        refine TT_lmul hK dX12_readBit_196 ?_
                        refine pf_X12_171 hK (by decide) rfl dX12_readBit_197 ?_
                        refine TT_hp (h' := setO w166_90 73 (fup (w166_90 73) 32 (2 * ((w166_90 73) 32)))) (up_can rfl rfl rfl) ?_
                        have hT_96 : TY (setO w166_90 73 (fup (w166_90 73) 32 (2 * ((w166_90 73) 32)))) := tu_73_32 hT166_90 (show up w166_90 73 32 (2 * ((w166_90 73) 32)) = (setO w166_90 73 (fup (w166_90 73) 32 (2 * ((w166_90 73) 32)))) from up_can rfl rfl rfl) (by omega)
                        have hF_96 : FRM [73, 96, 97] [32, 33, 34, 39] h (setO w166_90 73 (fup (w166_90 73) 32 (2 * ((w166_90 73) 32)))) := FRM_f (show up w166_90 73 32 (2 * ((w166_90 73) 32)) = (setO w166_90 73 (fup (w166_90 73) 32 (2 * ((w166_90 73) 32)))) from up_can rfl rfl rfl) hF166_90 (by decide) (by decide)
                        refine TT_aload_n hK rfl 0 rfl dX12_readBit_200 ?_
                        refine TT_ldc2 hK lc_X12_193 dX12_readBit_201 ?_
                        refine TT_aload_n hK rfl 0 rfl dX12_readBit_204 ?_
                        refine gf_X12_175 hK (by decide) rfl (v := (w166_90 73) 33) (rd_ (sOf_eq _ _ _) (fup_ne _ _ (by decide))) dX12_readBit_205 ?_
                        have r97 := ty_73_33 (v := (w166_90 73) 33) hT_96 (rd_ (sOf_eq _ _ _) (fup_ne _ _ (by decide)))
                        refine TT_lmul hK dX12_readBit_208 ?_
                        refine TT_w64f (fun x209_98 hx98 => ?_)
                        refine pf_X12_175 hK (by decide) rfl dX12_readBit_209 ?_
                        refine TT_hp (h' := setO w166_90 73 (fup (fup (w166_90 73) 32 (2 * ((w166_90 73) 32))) 33 x209_98)) (up_can (sOf_eq _ _ _) rfl (setO_same _ _ _ _)) ?_
                        have hT_99 : TY (setO w166_90 73 (fup (fup (w166_90 73) 32 (2 * ((w166_90 73) 32))) 33 x209_98)) := tu_73_33 hT_96 (show up (setO w166_90 73 (fup (w166_90 73) 32 (2 * ((w166_90 73) 32)))) 73 33 x209_98 = (setO w166_90 73 (fup (fup (w166_90 73) 32 (2 * ((w166_90 73) 32))) 33 x209_98)) from up_can (sOf_eq _ _ _) rfl (setO_same _ _ _ _)) (by omega)
                        have hF_99 : FRM [73, 96, 97] [32, 33, 34, 39] h (setO w166_90 73 (fup (fup (w166_90 73) 32 (2 * ((w166_90 73) 32))) 33 x209_98)) := FRM_f (show up (setO w166_90 73 (fup (w166_90 73) 32 (2 * ((w166_90 73) 32)))) 73 33 x209_98 = (setO w166_90 73 (fup (fup (w166_90 73) 32 (2 * ((w166_90 73) 32))) 33 x209_98)) from up_can (sOf_eq _ _ _) rfl (setO_same _ _ _ _)) hF_96 (by decide) (by decide)
                        refine TT_aload_n hK rfl 0 rfl dX12_readBit_212 ?_
                        refine TT_dup hK rfl dX12_readBit_213 ?_
                        refine gf_X12_178 hK (by decide) rfl (v := (w166_90 73) 34) (rd_ (sOf_eq _ _ _) ((fup_ne _ _ (by decide)).trans (fup_ne _ _ (by decide)))) dX12_readBit_214 ?_
                        refine TT_iconst hK dX12_readBit_217 ?_
                        refine TT_isub hK dX12_readBit_218 ?_
                        refine pf_X12_178 hK (by decide) rfl dX12_readBit_219 ?_
                        refine TT_hp (h' := setO w166_90 73 (fup (fup (fup (w166_90 73) 32 (2 * ((w166_90 73) 32))) 33 x209_98) 34 (((w166_90 73) 34) - 1))) (up_can (sOf_eq _ _ _) rfl (setO_same _ _ _ _)) ?_
                        have hT_100 : TY (setO w166_90 73 (fup (fup (fup (w166_90 73) 32 (2 * ((w166_90 73) 32))) 33 x209_98) 34 (((w166_90 73) 34) - 1))) := tu_73_34 hT_99 (show up (setO w166_90 73 (fup (fup (w166_90 73) 32 (2 * ((w166_90 73) 32))) 33 x209_98)) 73 34 (((w166_90 73) 34) - 1) = (setO w166_90 73 (fup (fup (fup (w166_90 73) 32 (2 * ((w166_90 73) 32))) 33 x209_98) 34 (((w166_90 73) 34) - 1))) from up_can (sOf_eq _ _ _) rfl (setO_same _ _ _ _)) (by omega)
                        have hF_100 : FRM [73, 96, 97] [32, 33, 34, 39] h (setO w166_90 73 (fup (fup (fup (w166_90 73) 32 (2 * ((w166_90 73) 32))) 33 x209_98) 34 (((w166_90 73) 34) - 1))) := FRM_f (show up (setO w166_90 73 (fup (fup (w166_90 73) 32 (2 * ((w166_90 73) 32))) 33 x209_98)) 73 34 (((w166_90 73) 34) - 1) = (setO w166_90 73 (fup (fup (fup (w166_90 73) 32 (2 * ((w166_90 73) 32))) 33 x209_98) 34 (((w166_90 73) 34) - 1))) from up_can (sOf_eq _ _ _) rfl (setO_same _ _ _ _)) hF_99 (by decide) (by decide)
                        refine TT_goto hK (tgt := 166) dX12_readBit_222 (by decide) ?_
                        have e101_73_32 : (setO w166_90 73 (fup (fup (fup (w166_90 73) 32 (2 * ((w166_90 73) 32))) 33 x209_98) 34 (((w166_90 73) 34) - 1))) 73 32 = 2 * ((w166_90 73) 32) := rd_ (sOf_eq _ _ _) ((fup_ne _ _ (by decide)).trans ((fup_ne _ _ (by decide)).trans (fup_eq _ _ _)))
                        have e102_73_32 : (setO w166_90 73 (fup (fup (fup (w166_90 73) 32 (2 * ((w166_90 73) 32))) 33 x209_98) 34 (((w166_90 73) 34) - 1))) 73 32 = 2 * ((w166_90 73) 32) := rd_ (sOf_eq _ _ _) ((fup_ne _ _ (by decide)).trans ((fup_ne _ _ (by decide)).trans (fup_eq _ _ _)))
                        exact ih90 bt (setO w166_90 73 (fup (fup (fup (w166_90 73) 32 (2 * ((w166_90 73) 32))) 33 x209_98) 34 (((w166_90 73) 34) - 1))) hT_100 hF_100 (by first | omega | (simp [up, setR] <;> omega)) (by rewrite [e101_73_32]; first | omega | (simp [up, setR] <;> omega)) (by rewrite [e102_73_32]; first | omega | (simp [up, setR] <;> omega))
                      · refine TT_aload_n hK rfl 0 rfl dX12_readBit_184 ?_
                        refine iv_X12_216 hK (s_X12_takeIn_73 w166_90 hT166_90 ) (by decide) rfl ⟨by decide, by decide⟩ (by decide) rfl rfl (Nat.le_of_ble_eq_true rfl) ⟨by decide, by decide⟩ dX12_readBit_185 ?_
                        intro r9 g185_103 hp9
                        obtain ⟨⟨hT_103, hG_103⟩, hr9, p1_103⟩ := hp9
                        rw [hr9]
                        have hF_103 : FRM [73, 96, 97] [32, 33, 34, 39] h g185_103 := FRM_tr hF166_90 hG_103 (by decide) (by decide)
                        show TT K ly 0 0 188 [(0, vR 73), (1, vI x), (6, vI bt)] [] g185_103
                        refine TT_aload_n hK rfl 0 rfl dX12_readBit_188 ?_
                        refine TT_ldc2 hK lc_X12_193 dX12_readBit_189 ?_
                        refine TT_aload_n hK rfl 0 rfl dX12_readBit_192 ?_
                        refine gf_X12_171 hK (by decide) rfl (v := (w166_90 73) 32) (hG_103.2 32 (by decide)) dX12_readBit_193 ?_
                        refine TT_lmul hK dX12_readBit_196 ?_
                        refine pf_X12_171 hK (by decide) rfl dX12_readBit_197 ?_
                        refine TT_hp (h' := setO g185_103 73 (fup (g185_103 73) 32 (2 * ((w166_90 73) 32)))) (up_can rfl rfl rfl) ?_
                        have hT_104 : TY (setO g185_103 73 (fup (g185_103 73) 32 (2 * ((w166_90 73) 32)))) := tu_73_32 hT_103 (show up g185_103 73 32 (2 * ((w166_90 73) 32)) = (setO g185_103 73 (fup (g185_103 73) 32 (2 * ((w166_90 73) 32)))) from up_can rfl rfl rfl) (by omega)
                        have hF_104 : FRM [73, 96, 97] [32, 33, 34, 39] h (setO g185_103 73 (fup (g185_103 73) 32 (2 * ((w166_90 73) 32)))) := FRM_f (show up g185_103 73 32 (2 * ((w166_90 73) 32)) = (setO g185_103 73 (fup (g185_103 73) 32 (2 * ((w166_90 73) 32)))) from up_can rfl rfl rfl) hF_103 (by decide) (by decide)
                        refine TT_aload_n hK rfl 0 rfl dX12_readBit_200 ?_
                        refine TT_ldc2 hK lc_X12_193 dX12_readBit_201 ?_
                        refine TT_aload_n hK rfl 0 rfl dX12_readBit_204 ?_
                        refine gf_X12_175 hK (by decide) rfl (v := (g185_103 73) 33) (rd_ (sOf_eq _ _ _) (fup_ne _ _ (by decide))) dX12_readBit_205 ?_
                        have r105 := ty_73_33 (v := (g185_103 73) 33) hT_104 (rd_ (sOf_eq _ _ _) (fup_ne _ _ (by decide)))
                        refine TT_lmul hK dX12_readBit_208 ?_
                        refine TT_w64f (fun x209_106 hx106 => ?_)
                        refine pf_X12_175 hK (by decide) rfl dX12_readBit_209 ?_
                        refine TT_hp (h' := setO g185_103 73 (fup (fup (g185_103 73) 32 (2 * ((w166_90 73) 32))) 33 x209_106)) (up_can (sOf_eq _ _ _) rfl (setO_same _ _ _ _)) ?_
                        have hT_107 : TY (setO g185_103 73 (fup (fup (g185_103 73) 32 (2 * ((w166_90 73) 32))) 33 x209_106)) := tu_73_33 hT_104 (show up (setO g185_103 73 (fup (g185_103 73) 32 (2 * ((w166_90 73) 32)))) 73 33 x209_106 = (setO g185_103 73 (fup (fup (g185_103 73) 32 (2 * ((w166_90 73) 32))) 33 x209_106)) from up_can (sOf_eq _ _ _) rfl (setO_same _ _ _ _)) (by omega)
                        have hF_107 : FRM [73, 96, 97] [32, 33, 34, 39] h (setO g185_103 73 (fup (fup (g185_103 73) 32 (2 * ((w166_90 73) 32))) 33 x209_106)) := FRM_f (show up (setO g185_103 73 (fup (g185_103 73) 32 (2 * ((w166_90 73) 32)))) 73 33 x209_106 = (setO g185_103 73 (fup (fup (g185_103 73) 32 (2 * ((w166_90 73) 32))) 33 x209_106)) from up_can (sOf_eq _ _ _) rfl (setO_same _ _ _ _)) hF_104 (by decide) (by decide)
                        refine TT_aload_n hK rfl 0 rfl dX12_readBit_212 ?_
                        refine TT_dup hK rfl dX12_readBit_213 ?_
                        refine gf_X12_178 hK (by decide) rfl (v := (g185_103 73) 34) (rd_ (sOf_eq _ _ _) ((fup_ne _ _ (by decide)).trans (fup_ne _ _ (by decide)))) dX12_readBit_214 ?_
                        have r108 := ty_73_34 (v := (g185_103 73) 34) hT_107 (rd_ (sOf_eq _ _ _) ((fup_ne _ _ (by decide)).trans (fup_ne _ _ (by decide))))
                        refine TT_iconst hK dX12_readBit_217 ?_
                        refine TT_isub hK dX12_readBit_218 ?_
                        refine pf_X12_178 hK (by decide) rfl dX12_readBit_219 ?_
                        refine TT_hp (h' := setO g185_103 73 (fup (fup (fup (g185_103 73) 32 (2 * ((w166_90 73) 32))) 33 x209_106) 34 (((g185_103 73) 34) - 1))) (up_can (sOf_eq _ _ _) rfl (setO_same _ _ _ _)) ?_
                        have hT_109 : TY (setO g185_103 73 (fup (fup (fup (g185_103 73) 32 (2 * ((w166_90 73) 32))) 33 x209_106) 34 (((g185_103 73) 34) - 1))) := tu_73_34 hT_107 (show up (setO g185_103 73 (fup (fup (g185_103 73) 32 (2 * ((w166_90 73) 32))) 33 x209_106)) 73 34 (((g185_103 73) 34) - 1) = (setO g185_103 73 (fup (fup (fup (g185_103 73) 32 (2 * ((w166_90 73) 32))) 33 x209_106) 34 (((g185_103 73) 34) - 1))) from up_can (sOf_eq _ _ _) rfl (setO_same _ _ _ _)) (by omega)
                        have hF_109 : FRM [73, 96, 97] [32, 33, 34, 39] h (setO g185_103 73 (fup (fup (fup (g185_103 73) 32 (2 * ((w166_90 73) 32))) 33 x209_106) 34 (((g185_103 73) 34) - 1))) := FRM_f (show up (setO g185_103 73 (fup (fup (g185_103 73) 32 (2 * ((w166_90 73) 32))) 33 x209_106)) 73 34 (((g185_103 73) 34) - 1) = (setO g185_103 73 (fup (fup (fup (g185_103 73) 32 (2 * ((w166_90 73) 32))) 33 x209_106) 34 (((g185_103 73) 34) - 1))) from up_can (sOf_eq _ _ _) rfl (setO_same _ _ _ _)) hF_107 (by decide) (by decide)
                        refine TT_goto hK (tgt := 166) dX12_readBit_222 (by decide) ?_
                        have e110_73_32 : (setO g185_103 73 (fup (fup (fup (g185_103 73) 32 (2 * ((w166_90 73) 32))) 33 x209_106) 34 (((g185_103 73) 34) - 1))) 73 32 = 2 * ((w166_90 73) 32) := rd_ (sOf_eq _ _ _) ((fup_ne _ _ (by decide)).trans ((fup_ne _ _ (by decide)).trans (fup_eq _ _ _)))
                        have e111_73_32 : (setO g185_103 73 (fup (fup (fup (g185_103 73) 32 (2 * ((w166_90 73) 32))) 33 x209_106) 34 (((g185_103 73) 34) - 1))) 73 32 = 2 * ((w166_90 73) 32) := rd_ (sOf_eq _ _ _) ((fup_ne _ _ (by decide)).trans ((fup_ne _ _ (by decide)).trans (fup_eq _ _ _)))
                        exact ih90 bt (setO g185_103 73 (fup (fup (fup (g185_103 73) 32 (2 * ((w166_90 73) 32))) 33 x209_106) 34 (((g185_103 73) 34) - 1))) hT_109 hF_109 (by first | omega | (simp [up, setR] <;> omega)) (by rewrite [e110_73_32]; first | omega | (simp [up, setR] <;> omega)) (by rewrite [e111_73_32]; first | omega | (simp [up, setR] <;> omega))
                refine TT_sub [5, 6, 0] rfl ?_
                have e112_73_32 : g163_89 73 32 = (h 74) ((h 96) x) := rd_ (((hG_89.1 73 (by decide))).trans (sOf_eq _ _ _)) (fup_eq _ _ _)
                exact L166_90 ((((65536 : Int) - (g163_89 73 32)).toNat) + 1) (1 - ((h 97) x)) g163_89 hT_89 hF_89 (by first | omega | (simp [up, setR] <;> omega)) (by rewrite [e112_73_32]; first | omega | (simp [up, setR] <;> omega)) (Nat.lt_succ_self _)
      · have hb87_80 := lcmp_lt hb87_80
        refine TT_iconst hK dX12_readBit_90 ?_
        refine TT_goto hK (tgt := 95) dX12_readBit_91 (by decide) ?_
        refine TT_istore hK (lv' := [(4, vI 1), (3, vI 1), (2, vI ((h 74) ((h 96) x))), (0, vR 73), (1, vI x)]) (by decide) rfl dX12_readBit_95 ?_
        refine TT_iload_n hK rfl 1 rfl dX12_readBit_97 ?_
        refine TT_if_eq hK (tgt := 114) (by decide) dX12_readBit_98 (by decide) (fun hb98_113 => ?_) (fun hb98_113 => ?_)
        · exact absurd hb98_113 (by decide)
        · refine TT_iload hK 0 rfl dX12_readBit_101 ?_
          refine TT_if_ne hK (tgt := 110) (by decide) dX12_readBit_103 (by decide) (fun hb103_114 => ?_) (fun hb103_114 => ?_)
          · refine TT_iconst hK dX12_readBit_110 ?_
            refine TT_goto hK (tgt := 116) dX12_readBit_111 (by decide) ?_
            refine TT_istore hK (lv' := [(5, vI 0), (4, vI 1), (3, vI 1), (2, vI ((h 74) ((h 96) x))), (0, vR 73), (1, vI x)]) (by decide) rfl dX12_readBit_116 ?_
            refine TT_iload hK 0 rfl dX12_readBit_118 ?_
            refine TT_if_eq hK (tgt := 134) (by decide) dX12_readBit_120 (by decide) (fun hb120_115 => ?_) (fun hb120_115 => ?_)
            · refine TT_aload_n hK rfl 4 rfl dX12_readBit_134 ?_
              refine gf_X12_87 hK (by decide) rfl (q := 97) rfl rfl dX12_readBit_135 ?_
              refine TT_iload_n hK rfl 5 rfl dX12_readBit_138 ?_
              refine TT_iald hK (o := 97) (n := 19) (by decide) rfl (by first | omega | (simp [up, setR] <;> omega)) (by first | omega | (simp [up, setR] <;> omega)) (v := (h 97) x) (rd_ (sOf_ne _ _ (by decide)) rfl) dX12_readBit_139 ?_
              have r116 := ty_97 (i := x) (v := (h 97) x) hT_4 (rd_ (sOf_ne _ _ (by decide)) rfl) (by omega) (by omega)
              refine TT_istore hK (lv' := [(6, vI ((h 97) x)), (5, vI 0), (4, vI 1), (3, vI 1), (2, vI ((h 74) ((h 96) x))), (0, vR 73), (1, vI x)]) (by decide) rfl dX12_readBit_140 ?_
              refine TT_aload_n hK rfl 5 rfl dX12_readBit_142 ?_
              refine TT_iload_n hK rfl 3 rfl dX12_readBit_143 ?_
              refine TT_if_eq hK (tgt := 152) (by decide) dX12_readBit_144 (by decide) (fun hb144_117 => ?_) (fun hb144_117 => ?_)
              · exact absurd hb144_117 (by decide)
              · refine TT_iload_n hK rfl 4 rfl dX12_readBit_147 ?_
                refine TT_i2l hK (irm (by omega) (by omega)) dX12_readBit_148 ?_
                refine TT_goto hK (tgt := 156) dX12_readBit_149 (by decide) ?_
                refine pf_X12_171 hK (by decide) rfl dX12_readBit_156 ?_
                refine TT_hp (h' := setO h 73 (fup (h 73) 32 ((h 74) ((h 96) x)))) (up_can (sOf_eq _ _ _) (fup_same _ _ _ _) (setO_same _ _ _ _)) ?_
                have hT_118 : TY (setO h 73 (fup (h 73) 32 ((h 74) ((h 96) x)))) := tu_73_32 hT_4 (show up (setO h 73 (fup (h 73) 32 (((h 73) 32) - ((h 74) ((h 96) x))))) 73 32 ((h 74) ((h 96) x)) = (setO h 73 (fup (h 73) 32 ((h 74) ((h 96) x)))) from up_can (sOf_eq _ _ _) (fup_same _ _ _ _) (setO_same _ _ _ _)) (by omega)
                have hF_118 : FRM [73, 96, 97] [32, 33, 34, 39] h (setO h 73 (fup (h 73) 32 ((h 74) ((h 96) x)))) := FRM_f (show up (setO h 73 (fup (h 73) 32 (((h 73) 32) - ((h 74) ((h 96) x))))) 73 32 ((h 74) ((h 96) x)) = (setO h 73 (fup (h 73) 32 ((h 74) ((h 96) x)))) from up_can (sOf_eq _ _ _) (fup_same _ _ _ _) (setO_same _ _ _ _)) hF_4 (by decide) (by decide)
                refine TT_aload_n hK rfl 5 rfl dX12_readBit_159 ?_
                refine TT_iload_n hK rfl 6 rfl dX12_readBit_160 ?_
                refine TT_iload hK 1 rfl dX12_readBit_161 ?_
                have e119_74 : (setO h 73 (fup (h 73) 32 ((h 74) ((h 96) x)))) 74 = h 74 := sOf_ne _ _ (by decide)
                have e120_75 : (setO h 73 (fup (h 73) 32 ((h 74) ((h 96) x)))) 75 = h 75 := sOf_ne _ _ (by decide)
                refine iv_X12_189 hK (s_X12_learn_73 x 0 (setO h 73 (fup (h 73) 32 ((h 74) ((h 96) x)))) hT_118 (by first | omega | (simp [up, setR] <;> omega)) (by first | omega | (simp [up, setR] <;> omega)) (by rewrite [e119_74, e120_75]; first | assumption | exact htb)) (by decide) rfl ⟨by decide, by decide⟩ (by decide) rfl rfl (Nat.le_of_ble_eq_true rfl) ⟨by decide, by decide⟩ dX12_readBit_163 ?_
                intro r9 g163_121 hp9
                obtain ⟨⟨hT_121, hG_121⟩, hr9, p1_121⟩ := hp9
                rw [hr9]
                have hF_121 : FRM [73, 96, 97] [32, 33, 34, 39] h g163_121 := FRM_tr hF_118 hG_121 (by decide) (by decide)
                rw [show (setO h 73 (fup (h 73) 32 ((h 74) ((h 96) x)))) 75 = h 75 from sOf_ne _ _ (by decide)] at p1_121
                rw [show (setO h 73 (fup (h 73) 32 ((h 74) ((h 96) x)))) 96 = h 96 from sOf_ne _ _ (by decide)] at p1_121
                show TT K ly 0 0 166 [(6, vI ((h 97) x)), (5, vI 0), (4, vI 1), (3, vI 1), (2, vI ((h 74) ((h 96) x))), (0, vR 73), (1, vI x)] [] g163_121
                have L166_122 : ∀ (k122 : Nat) (bt : Int) (w166_122 : Hp_), TY w166_122 → FRM [73, 96, 97] [32, 33, 34, 39] h w166_122 → (0 ≤ bt ∧ bt ≤ 1) → (1 ≤ (w166_122 73 32) ∧ (w166_122 73 32) < 65536) → ((65536 : Int) - (w166_122 73 32)).toNat < k122 → TT K ly 0 0 166 [(0, vR 73), (1, vI x), (6, vI bt)] [] w166_122 := by
                  intro k122
                  induction k122 with
                  | zero => intro bt w166_122 hT166_122 hF166_122 hbt ha1 hk122; exact absurd hk122 (Nat.not_lt_zero _)
                  | succ k122 ih122 =>
                    intro bt w166_122 hT166_122 hF166_122 hbt ha1 hk122
                    refine TT_aload_n hK rfl 0 rfl dX12_readBit_166 ?_
                    refine gf_X12_171 hK (by decide) rfl (v := (w166_122 73) 32) rfl dX12_readBit_167 ?_
                    have r123 := ty_73_32 (v := (w166_122 73) 32) hT166_122 rfl
                    refine TT_ldc2 hK lc_X12_169 dX12_readBit_170 ?_
                    refine TT_lcmp hK (lrm (by omega) (by omega)) (by decide) dX12_readBit_173 ?_
                    refine TT_if_ge hK (tgt := 225) (lcmp_ir _ _) dX12_readBit_174 (by decide) (fun hb174_124 => ?_) (fun hb174_124 => ?_)
                    · have hb174_124 := lcmp_ge hb174_124
                      refine TT_iload hK 2 rfl dX12_readBit_225 ?_
                      refine TT_iret hK hQ ?_ dX12_readBit_227
                      have e125_73_32 : w166_122 73 32 = (w166_122 73) 32 := rfl
                      exact ⟨⟨hT166_122, hF166_122⟩, bt, rfl, (by omega), (by rewrite [e125_73_32]; omega)⟩
                    · have hb174_124 := lcmp_lt hb174_124
                      refine TT_aload_n hK rfl 0 rfl dX12_readBit_177 ?_
                      refine gf_X12_178 hK (by decide) rfl (v := (w166_122 73) 34) rfl dX12_readBit_178 ?_
                      have r126 := ty_73_34 (v := (w166_122 73) 34) hT166_122 rfl
                      refine TT_if_ne hK (tgt := 188) (irm (by omega) (by omega)) dX12_readBit_181 (by decide) (fun hb181_127 => ?_) (fun hb181_127 => ?_)
                      · refine TT_aload_n hK rfl 0 rfl dX12_readBit_188 ?_
                        refine TT_ldc2 hK lc_X12_193 dX12_readBit_189 ?_
                        refine TT_aload_n hK rfl 0 rfl dX12_readBit_192 ?_
                        refine gf_X12_171 hK (by decide) rfl (v := (w166_122 73) 32) rfl dX12_readBit_193 ?_
                        refine TT_lmul hK dX12_readBit_196 ?_
                        refine pf_X12_171 hK (by decide) rfl dX12_readBit_197 ?_
                        refine TT_hp (h' := setO w166_122 73 (fup (w166_122 73) 32 (2 * ((w166_122 73) 32)))) (up_can rfl rfl rfl) ?_
                        have hT_128 : TY (setO w166_122 73 (fup (w166_122 73) 32 (2 * ((w166_122 73) 32)))) := tu_73_32 hT166_122 (show up w166_122 73 32 (2 * ((w166_122 73) 32)) = (setO w166_122 73 (fup (w166_122 73) 32 (2 * ((w166_122 73) 32)))) from up_can rfl rfl rfl) (by omega)
                        have hF_128 : FRM [73, 96, 97] [32, 33, 34, 39] h (setO w166_122 73 (fup (w166_122 73) 32 (2 * ((w166_122 73) 32)))) := FRM_f (show up w166_122 73 32 (2 * ((w166_122 73) 32)) = (setO w166_122 73 (fup (w166_122 73) 32 (2 * ((w166_122 73) 32)))) from up_can rfl rfl rfl) hF166_122 (by decide) (by decide)
                        refine TT_aload_n hK rfl 0 rfl dX12_readBit_200 ?_
                        refine TT_ldc2 hK lc_X12_193 dX12_readBit_201 ?_
                        refine TT_aload_n hK rfl 0 rfl dX12_readBit_204 ?_
                        refine gf_X12_175 hK (by decide) rfl (v := (w166_122 73) 33) (rd_ (sOf_eq _ _ _) (fup_ne _ _ (by decide))) dX12_readBit_205 ?_
                        have r129 := ty_73_33 (v := (w166_122 73) 33) hT_128 (rd_ (sOf_eq _ _ _) (fup_ne _ _ (by decide)))
                        refine TT_lmul hK dX12_readBit_208 ?_
                        refine TT_w64f (fun x209_130 hx130 => ?_)
                        refine pf_X12_175 hK (by decide) rfl dX12_readBit_209 ?_
                        refine TT_hp (h' := setO w166_122 73 (fup (fup (w166_122 73) 32 (2 * ((w166_122 73) 32))) 33 x209_130)) (up_can (sOf_eq _ _ _) rfl (setO_same _ _ _ _)) ?_
                        have hT_131 : TY (setO w166_122 73 (fup (fup (w166_122 73) 32 (2 * ((w166_122 73) 32))) 33 x209_130)) := tu_73_33 hT_128 (show up (setO w166_122 73 (fup (w166_122 73) 32 (2 * ((w166_122 73) 32)))) 73 33 x209_130 = (setO w166_122 73 (fup (fup (w166_122 73) 32 (2 * ((w166_122 73) 32))) 33 x209_130)) from up_can (sOf_eq _ _ _) rfl (setO_same _ _ _ _)) (by omega)
                        have hF_131 : FRM [73, 96, 97] [32, 33, 34, 39] h (setO w166_122 73 (fup (fup (w166_122 73) 32 (2 * ((w166_122 73) 32))) 33 x209_130)) := FRM_f (show up (setO w166_122 73 (fup (w166_122 73) 32 (2 * ((w166_122 73) 32)))) 73 33 x209_130 = (setO w166_122 73 (fup (fup (w166_122 73) 32 (2 * ((w166_122 73) 32))) 33 x209_130)) from up_can (sOf_eq _ _ _) rfl (setO_same _ _ _ _)) hF_128 (by decide) (by decide)
                        refine TT_aload_n hK rfl 0 rfl dX12_readBit_212 ?_
                        refine TT_dup hK rfl dX12_readBit_213 ?_
                        refine gf_X12_178 hK (by decide) rfl (v := (w166_122 73) 34) (rd_ (sOf_eq _ _ _) ((fup_ne _ _ (by decide)).trans (fup_ne _ _ (by decide)))) dX12_readBit_214 ?_
                        refine TT_iconst hK dX12_readBit_217 ?_
                        refine TT_isub hK dX12_readBit_218 ?_
                        refine pf_X12_178 hK (by decide) rfl dX12_readBit_219 ?_
                        refine TT_hp (h' := setO w166_122 73 (fup (fup (fup (w166_122 73) 32 (2 * ((w166_122 73) 32))) 33 x209_130) 34 (((w166_122 73) 34) - 1))) (up_can (sOf_eq _ _ _) rfl (setO_same _ _ _ _)) ?_
                        have hT_132 : TY (setO w166_122 73 (fup (fup (fup (w166_122 73) 32 (2 * ((w166_122 73) 32))) 33 x209_130) 34 (((w166_122 73) 34) - 1))) := tu_73_34 hT_131 (show up (setO w166_122 73 (fup (fup (w166_122 73) 32 (2 * ((w166_122 73) 32))) 33 x209_130)) 73 34 (((w166_122 73) 34) - 1) = (setO w166_122 73 (fup (fup (fup (w166_122 73) 32 (2 * ((w166_122 73) 32))) 33 x209_130) 34 (((w166_122 73) 34) - 1))) from up_can (sOf_eq _ _ _) rfl (setO_same _ _ _ _)) (by omega)
                        have hF_132 : FRM [73, 96, 97] [32, 33, 34, 39] h (setO w166_122 73 (fup (fup (fup (w166_122 73) 32 (2 * ((w166_122 73) 32))) 33 x209_130) 34 (((w166_122 73) 34) - 1))) := FRM_f (show up (setO w166_122 73 (fup (fup (w166_122 73) 32 (2 * ((w166_122 73) 32))) 33 x209_130)) 73 34 (((w166_122 73) 34) - 1) = (setO w166_122 73 (fup (fup (fup (w166_122 73) 32 (2 * ((w166_122 73) 32))) 33 x209_130) 34 (((w166_122 73) 34) - 1))) from up_can (sOf_eq _ _ _) rfl (setO_same _ _ _ _)) hF_131 (by decide) (by decide)
                        refine TT_goto hK (tgt := 166) dX12_readBit_222 (by decide) ?_
                        have e133_73_32 : (setO w166_122 73 (fup (fup (fup (w166_122 73) 32 (2 * ((w166_122 73) 32))) 33 x209_130) 34 (((w166_122 73) 34) - 1))) 73 32 = 2 * ((w166_122 73) 32) := rd_ (sOf_eq _ _ _) ((fup_ne _ _ (by decide)).trans ((fup_ne _ _ (by decide)).trans (fup_eq _ _ _)))
                        have e134_73_32 : (setO w166_122 73 (fup (fup (fup (w166_122 73) 32 (2 * ((w166_122 73) 32))) 33 x209_130) 34 (((w166_122 73) 34) - 1))) 73 32 = 2 * ((w166_122 73) 32) := rd_ (sOf_eq _ _ _) ((fup_ne _ _ (by decide)).trans ((fup_ne _ _ (by decide)).trans (fup_eq _ _ _)))
                        exact ih122 bt (setO w166_122 73 (fup (fup (fup (w166_122 73) 32 (2 * ((w166_122 73) 32))) 33 x209_130) 34 (((w166_122 73) 34) - 1))) hT_132 hF_132 (by first | omega | (simp [up, setR] <;> omega)) (by rewrite [e133_73_32]; first | omega | (simp [up, setR] <;> omega)) (by rewrite [e134_73_32]; first | omega | (simp [up, setR] <;> omega))
                      · refine TT_aload_n hK rfl 0 rfl dX12_readBit_184 ?_
                        refine iv_X12_216 hK (s_X12_takeIn_73 w166_122 hT166_122 ) (by decide) rfl ⟨by decide, by decide⟩ (by decide) rfl rfl (Nat.le_of_ble_eq_true rfl) ⟨by decide, by decide⟩ dX12_readBit_185 ?_
                        intro r9 g185_135 hp9
                        obtain ⟨⟨hT_135, hG_135⟩, hr9, p1_135⟩ := hp9
                        rw [hr9]
                        have hF_135 : FRM [73, 96, 97] [32, 33, 34, 39] h g185_135 := FRM_tr hF166_122 hG_135 (by decide) (by decide)
                        show TT K ly 0 0 188 [(0, vR 73), (1, vI x), (6, vI bt)] [] g185_135
                        refine TT_aload_n hK rfl 0 rfl dX12_readBit_188 ?_
                        refine TT_ldc2 hK lc_X12_193 dX12_readBit_189 ?_
                        refine TT_aload_n hK rfl 0 rfl dX12_readBit_192 ?_
                        refine gf_X12_171 hK (by decide) rfl (v := (w166_122 73) 32) (hG_135.2 32 (by decide)) dX12_readBit_193 ?_
                        refine TT_lmul hK dX12_readBit_196 ?_
                        refine pf_X12_171 hK (by decide) rfl dX12_readBit_197 ?_
                        refine TT_hp (h' := setO g185_135 73 (fup (g185_135 73) 32 (2 * ((w166_122 73) 32)))) (up_can rfl rfl rfl) ?_
                        have hT_136 : TY (setO g185_135 73 (fup (g185_135 73) 32 (2 * ((w166_122 73) 32)))) := tu_73_32 hT_135 (show up g185_135 73 32 (2 * ((w166_122 73) 32)) = (setO g185_135 73 (fup (g185_135 73) 32 (2 * ((w166_122 73) 32)))) from up_can rfl rfl rfl) (by omega)
                        have hF_136 : FRM [73, 96, 97] [32, 33, 34, 39] h (setO g185_135 73 (fup (g185_135 73) 32 (2 * ((w166_122 73) 32)))) := FRM_f (show up g185_135 73 32 (2 * ((w166_122 73) 32)) = (setO g185_135 73 (fup (g185_135 73) 32 (2 * ((w166_122 73) 32)))) from up_can rfl rfl rfl) hF_135 (by decide) (by decide)
                        refine TT_aload_n hK rfl 0 rfl dX12_readBit_200 ?_
                        refine TT_ldc2 hK lc_X12_193 dX12_readBit_201 ?_
                        refine TT_aload_n hK rfl 0 rfl dX12_readBit_204 ?_
                        refine gf_X12_175 hK (by decide) rfl (v := (g185_135 73) 33) (rd_ (sOf_eq _ _ _) (fup_ne _ _ (by decide))) dX12_readBit_205 ?_
                        have r137 := ty_73_33 (v := (g185_135 73) 33) hT_136 (rd_ (sOf_eq _ _ _) (fup_ne _ _ (by decide)))
                        refine TT_lmul hK dX12_readBit_208 ?_
                        refine TT_w64f (fun x209_138 hx138 => ?_)
                        refine pf_X12_175 hK (by decide) rfl dX12_readBit_209 ?_
                        refine TT_hp (h' := setO g185_135 73 (fup (fup (g185_135 73) 32 (2 * ((w166_122 73) 32))) 33 x209_138)) (up_can (sOf_eq _ _ _) rfl (setO_same _ _ _ _)) ?_
                        have hT_139 : TY (setO g185_135 73 (fup (fup (g185_135 73) 32 (2 * ((w166_122 73) 32))) 33 x209_138)) := tu_73_33 hT_136 (show up (setO g185_135 73 (fup (g185_135 73) 32 (2 * ((w166_122 73) 32)))) 73 33 x209_138 = (setO g185_135 73 (fup (fup (g185_135 73) 32 (2 * ((w166_122 73) 32))) 33 x209_138)) from up_can (sOf_eq _ _ _) rfl (setO_same _ _ _ _)) (by omega)
                        have hF_139 : FRM [73, 96, 97] [32, 33, 34, 39] h (setO g185_135 73 (fup (fup (g185_135 73) 32 (2 * ((w166_122 73) 32))) 33 x209_138)) := FRM_f (show up (setO g185_135 73 (fup (g185_135 73) 32 (2 * ((w166_122 73) 32)))) 73 33 x209_138 = (setO g185_135 73 (fup (fup (g185_135 73) 32 (2 * ((w166_122 73) 32))) 33 x209_138)) from up_can (sOf_eq _ _ _) rfl (setO_same _ _ _ _)) hF_136 (by decide) (by decide)
                        refine TT_aload_n hK rfl 0 rfl dX12_readBit_212 ?_
                        refine TT_dup hK rfl dX12_readBit_213 ?_
                        refine gf_X12_178 hK (by decide) rfl (v := (g185_135 73) 34) (rd_ (sOf_eq _ _ _) ((fup_ne _ _ (by decide)).trans (fup_ne _ _ (by decide)))) dX12_readBit_214 ?_
                        have r140 := ty_73_34 (v := (g185_135 73) 34) hT_139 (rd_ (sOf_eq _ _ _) ((fup_ne _ _ (by decide)).trans (fup_ne _ _ (by decide))))
                        refine TT_iconst hK dX12_readBit_217 ?_
                        refine TT_isub hK dX12_readBit_218 ?_
                        refine pf_X12_178 hK (by decide) rfl dX12_readBit_219 ?_
                        refine TT_hp (h' := setO g185_135 73 (fup (fup (fup (g185_135 73) 32 (2 * ((w166_122 73) 32))) 33 x209_138) 34 (((g185_135 73) 34) - 1))) (up_can (sOf_eq _ _ _) rfl (setO_same _ _ _ _)) ?_
                        have hT_141 : TY (setO g185_135 73 (fup (fup (fup (g185_135 73) 32 (2 * ((w166_122 73) 32))) 33 x209_138) 34 (((g185_135 73) 34) - 1))) := tu_73_34 hT_139 (show up (setO g185_135 73 (fup (fup (g185_135 73) 32 (2 * ((w166_122 73) 32))) 33 x209_138)) 73 34 (((g185_135 73) 34) - 1) = (setO g185_135 73 (fup (fup (fup (g185_135 73) 32 (2 * ((w166_122 73) 32))) 33 x209_138) 34 (((g185_135 73) 34) - 1))) from up_can (sOf_eq _ _ _) rfl (setO_same _ _ _ _)) (by omega)
                        have hF_141 : FRM [73, 96, 97] [32, 33, 34, 39] h (setO g185_135 73 (fup (fup (fup (g185_135 73) 32 (2 * ((w166_122 73) 32))) 33 x209_138) 34 (((g185_135 73) 34) - 1))) := FRM_f (show up (setO g185_135 73 (fup (fup (g185_135 73) 32 (2 * ((w166_122 73) 32))) 33 x209_138)) 73 34 (((g185_135 73) 34) - 1) = (setO g185_135 73 (fup (fup (fup (g185_135 73) 32 (2 * ((w166_122 73) 32))) 33 x209_138) 34 (((g185_135 73) 34) - 1))) from up_can (sOf_eq _ _ _) rfl (setO_same _ _ _ _)) hF_139 (by decide) (by decide)
                        refine TT_goto hK (tgt := 166) dX12_readBit_222 (by decide) ?_
                        have e142_73_32 : (setO g185_135 73 (fup (fup (fup (g185_135 73) 32 (2 * ((w166_122 73) 32))) 33 x209_138) 34 (((g185_135 73) 34) - 1))) 73 32 = 2 * ((w166_122 73) 32) := rd_ (sOf_eq _ _ _) ((fup_ne _ _ (by decide)).trans ((fup_ne _ _ (by decide)).trans (fup_eq _ _ _)))
                        have e143_73_32 : (setO g185_135 73 (fup (fup (fup (g185_135 73) 32 (2 * ((w166_122 73) 32))) 33 x209_138) 34 (((g185_135 73) 34) - 1))) 73 32 = 2 * ((w166_122 73) 32) := rd_ (sOf_eq _ _ _) ((fup_ne _ _ (by decide)).trans ((fup_ne _ _ (by decide)).trans (fup_eq _ _ _)))
                        exact ih122 bt (setO g185_135 73 (fup (fup (fup (g185_135 73) 32 (2 * ((w166_122 73) 32))) 33 x209_138) 34 (((g185_135 73) 34) - 1))) hT_141 hF_141 (by first | omega | (simp [up, setR] <;> omega)) (by rewrite [e142_73_32]; first | omega | (simp [up, setR] <;> omega)) (by rewrite [e143_73_32]; first | omega | (simp [up, setR] <;> omega))
                refine TT_sub [5, 6, 0] rfl ?_
                have e144_73_32 : g163_121 73 32 = (h 74) ((h 96) x) := rd_ (((hG_121.1 73 (by decide))).trans (sOf_eq _ _ _)) (fup_eq _ _ _)
                exact L166_122 ((((65536 : Int) - (g163_121 73 32)).toNat) + 1) ((h 97) x) g163_121 hT_121 hF_121 (by first | omega | (simp [up, setR] <;> omega)) (by rewrite [e144_73_32]; first | omega | (simp [up, setR] <;> omega)) (Nat.lt_succ_self _)
            · exact absurd hb120_115 (by decide)
          · exact absurd hb103_114 (by decide)
    · exact absurd hb44_78 (by decide)
set_option maxRecDepth 20000 in
theorem s_X12_code_73 (x b : Int) (h : Hp_) (hT : TY h) (hx : 0 ≤ x ∧ x ≤ 18) (hb : 0 ≤ b ∧ b ≤ 1) (htb : TBL (h 74) (h 75)) (ha : 32768 ≤ (h 73 32) ∧ (h 73 32) < 65536) (hm : (h 73 29) = 0 → 1 ≤ (h 73 34) ∧ 1 ≤ (h 73 36) ∧ 7 * (h 73 36) - (h 73 34) + PhS (h 96) + 9 ≤ 22300) : Ctr yX12_code cX12_code 4 (some .int) (rmd 3) ly ly 0 0 [vR 73, vI x, vI b] h (fun r h' => (TY h' ∧ FRM [73, 96, 97, 98] [28, 32, 33, 34, 36, 39] h h') ∧ ∃ z : Int, r = some (vI z) ∧ (0 ≤ z ∧ z ≤ 1) ∧ (32768 ≤ (h' 73 32) ∧ (h' 73 32) < 65536) ∧ ((h 73 29) = 0 → z = b ∧ 1 ≤ (h' 73 34) ∧ 1 ≤ (h' 73 36) ∧ 7 * (h' 73 36) - (h' 73 34) + PhS (h' 96) ≤ 7 * (h 73 36) - (h 73 34) + PhS (h 96) + 9)) := by
  refine Ctr_of (by decide) (Nat.le_of_ble_eq_true rfl) ⟨Nat.le_refl _, Nat.le_refl _⟩ (fun K hK hQ _ => ?_)
  show TT K ly 0 0 0 [(0, vR 73), (1, vI x), (2, vI b)] [] h
  have hF : FRM [73, 96, 97, 98] [28, 32, 33, 34, 36, 39] h h := FRM_rf _ _ _
  refine TT_aload_n hK rfl 0 rfl dX12_code_0 ?_
  refine gf_X12_163 hK (by decide) rfl (v := (h 73) 29) rfl dX12_code_1 ?_
  have r1 := ty_73_29 (v := (h 73) 29) hT rfl
  refine TT_if_ne hK (tgt := 14) (irm (by omega) (by omega)) dX12_code_4 (by decide) (fun hb4_2 => ?_) (fun hb4_2 => ?_)
  · refine TT_aload_n hK rfl 0 rfl dX12_code_14 ?_
    refine TT_iload_n hK rfl 1 rfl dX12_code_15 ?_
    have e3_73_32 : h 73 32 = (h 73) 32 := rfl
    refine iv_X12_224 hK (s_X12_readBit_73 x h hT (by first | omega | (simp [up, setR] <;> omega)) (by first | assumption | exact htb) (by rewrite [e3_73_32]; first | omega | (simp [up, setR] <;> omega))) (by decide) rfl ⟨by decide, by decide⟩ (by decide) rfl rfl (Nat.le_of_ble_eq_true rfl) ⟨by decide, by decide⟩ dX12_code_16 ?_
    intro r9 g16_4 hp9
    obtain ⟨⟨hT_4, hG_4⟩, z16_4, hr9, hz_4, pa_4⟩ := hp9
    rw [hr9]
    have hF_4 : FRM [73, 96, 97, 98] [28, 32, 33, 34, 36, 39] h g16_4 := FRM_tr hF hG_4 (by decide) (by decide)
    show TT K ly 0 0 19 [(0, vR 73), (1, vI x), (2, vI b)] [vI z16_4] g16_4
    refine TT_istore_n hK rfl (lv' := [(3, vI z16_4), (0, vR 73), (1, vI x), (2, vI b)]) (by decide) rfl dX12_code_19 ?_
    refine TT_aload_n hK rfl 1 rfl dX12_code_20 ?_
    refine gf_X12_163 hK (by decide) rfl (v := (h 73) 29) (hG_4.2 29 (by decide)) dX12_code_21 ?_
    refine TT_iconst hK dX12_code_24 ?_
    refine TT_icmp_ne hK (tgt := 30) (irm (by omega) (by omega)) (by decide) dX12_code_25 (by decide) (fun hb25_5 => ?_) (fun hb25_5 => ?_)
    · refine TT_aload_n hK rfl 1 rfl dX12_code_30 ?_
      refine TT_aload_n hK rfl 1 rfl dX12_code_31 ?_
      refine gf_X12_227 hK (by decide) rfl (v := (h 73) 28) (hG_4.2 28 (by decide)) dX12_code_32 ?_
      have r6 := ty_73_28 (v := (h 73) 28) hT_4 (hG_4.2 28 (by decide))
      refine TT_if_ne hK (tgt := 43) (irm (by omega) (by omega)) dX12_code_35 (by decide) (fun hb35_7 => ?_) (fun hb35_7 => ?_)
      · refine TT_iconst hK dX12_code_43 ?_
        refine TT_goto hK (tgt := 48) dX12_code_44 (by decide) ?_
        refine pf_X12_227 hK (by decide) rfl (by first | decide | omega) dX12_code_48 ?_
        refine TT_hp (h' := setO g16_4 73 (fup (g16_4 73) 28 1)) (up_can rfl rfl rfl) ?_
        have hT_8 : TY (setO g16_4 73 (fup (g16_4 73) 28 1)) := tu_73_28 hT_4 (show up g16_4 73 28 1 = (setO g16_4 73 (fup (g16_4 73) 28 1)) from up_can rfl rfl rfl) (by omega)
        have hF_8 : FRM [73, 96, 97, 98] [28, 32, 33, 34, 36, 39] h (setO g16_4 73 (fup (g16_4 73) 28 1)) := FRM_f (show up g16_4 73 28 1 = (setO g16_4 73 (fup (g16_4 73) 28 1)) from up_can rfl rfl rfl) hF_4 (by decide) (by decide)
        refine TT_iload_n hK rfl 3 rfl dX12_code_51 ?_
        refine TT_iret hK hQ ?_ dX12_code_52
        have e9_73_32 : (setO g16_4 73 (fup (g16_4 73) 28 1)) 73 32 = (g16_4 73) 32 := rd_ (sOf_eq _ _ _) (fup_ne _ _ (by decide))
        have e10_73_34 : (setO g16_4 73 (fup (g16_4 73) 28 1)) 73 34 = (g16_4 73) 34 := rd_ (sOf_eq _ _ _) (fup_ne _ _ (by decide))
        have e11_73_36 : (setO g16_4 73 (fup (g16_4 73) 28 1)) 73 36 = (h 73) 36 := (rd_ (sOf_eq _ _ _) (fup_ne _ _ (by decide))).trans (hG_4.2 36 (by decide))
        have e12_96 : (setO g16_4 73 (fup (g16_4 73) 28 1)) 96 = g16_4 96 := sOf_ne _ _ (by decide)
        exact ⟨⟨hT_8, hF_8⟩, b, rfl, (by omega), (by rewrite [e9_73_32]; omega), (by rewrite [e10_73_34, e11_73_36, e12_96]; omega)⟩
      · refine TT_iload_n hK rfl 0 rfl dX12_code_38 ?_
        refine TT_iload_n hK rfl 3 rfl dX12_code_39 ?_
        refine TT_icmp_eq hK (tgt := 47) (irm (by omega) (by omega)) (irm (by omega) (by omega)) dX12_code_40 (by decide) (fun hb40_13 => ?_) (fun hb40_13 => ?_)
        · refine TT_iconst hK dX12_code_47 ?_
          refine pf_X12_227 hK (by decide) rfl (by first | decide | omega) dX12_code_48 ?_
          refine TT_hp (h' := setO g16_4 73 (fup (g16_4 73) 28 0)) (up_can rfl rfl rfl) ?_
          have hT_14 : TY (setO g16_4 73 (fup (g16_4 73) 28 0)) := tu_73_28 hT_4 (show up g16_4 73 28 0 = (setO g16_4 73 (fup (g16_4 73) 28 0)) from up_can rfl rfl rfl) (by omega)
          have hF_14 : FRM [73, 96, 97, 98] [28, 32, 33, 34, 36, 39] h (setO g16_4 73 (fup (g16_4 73) 28 0)) := FRM_f (show up g16_4 73 28 0 = (setO g16_4 73 (fup (g16_4 73) 28 0)) from up_can rfl rfl rfl) hF_4 (by decide) (by decide)
          refine TT_iload_n hK rfl 3 rfl dX12_code_51 ?_
          refine TT_iret hK hQ ?_ dX12_code_52
          have e15_73_32 : (setO g16_4 73 (fup (g16_4 73) 28 0)) 73 32 = (g16_4 73) 32 := rd_ (sOf_eq _ _ _) (fup_ne _ _ (by decide))
          have e16_73_34 : (setO g16_4 73 (fup (g16_4 73) 28 0)) 73 34 = (g16_4 73) 34 := rd_ (sOf_eq _ _ _) (fup_ne _ _ (by decide))
          have e17_73_36 : (setO g16_4 73 (fup (g16_4 73) 28 0)) 73 36 = (h 73) 36 := (rd_ (sOf_eq _ _ _) (fup_ne _ _ (by decide))).trans (hG_4.2 36 (by decide))
          have e18_96 : (setO g16_4 73 (fup (g16_4 73) 28 0)) 96 = g16_4 96 := sOf_ne _ _ (by decide)
          exact ⟨⟨hT_14, hF_14⟩, b, rfl, (by omega), (by rewrite [e15_73_32]; omega), (by rewrite [e16_73_34, e17_73_36, e18_96]; omega)⟩
        · refine TT_iconst hK dX12_code_43 ?_
          refine TT_goto hK (tgt := 48) dX12_code_44 (by decide) ?_
          refine pf_X12_227 hK (by decide) rfl (by first | decide | omega) dX12_code_48 ?_
          refine TT_hp (h' := setO g16_4 73 (fup (g16_4 73) 28 1)) (up_can rfl rfl rfl) ?_
          have hT_19 : TY (setO g16_4 73 (fup (g16_4 73) 28 1)) := tu_73_28 hT_4 (show up g16_4 73 28 1 = (setO g16_4 73 (fup (g16_4 73) 28 1)) from up_can rfl rfl rfl) (by omega)
          have hF_19 : FRM [73, 96, 97, 98] [28, 32, 33, 34, 36, 39] h (setO g16_4 73 (fup (g16_4 73) 28 1)) := FRM_f (show up g16_4 73 28 1 = (setO g16_4 73 (fup (g16_4 73) 28 1)) from up_can rfl rfl rfl) hF_4 (by decide) (by decide)
          refine TT_iload_n hK rfl 3 rfl dX12_code_51 ?_
          refine TT_iret hK hQ ?_ dX12_code_52
          have e20_73_32 : (setO g16_4 73 (fup (g16_4 73) 28 1)) 73 32 = (g16_4 73) 32 := rd_ (sOf_eq _ _ _) (fup_ne _ _ (by decide))
          have e21_73_34 : (setO g16_4 73 (fup (g16_4 73) 28 1)) 73 34 = (g16_4 73) 34 := rd_ (sOf_eq _ _ _) (fup_ne _ _ (by decide))
          have e22_73_36 : (setO g16_4 73 (fup (g16_4 73) 28 1)) 73 36 = (h 73) 36 := (rd_ (sOf_eq _ _ _) (fup_ne _ _ (by decide))).trans (hG_4.2 36 (by decide))
          have e23_96 : (setO g16_4 73 (fup (g16_4 73) 28 1)) 96 = g16_4 96 := sOf_ne _ _ (by decide)
          exact ⟨⟨hT_19, hF_19⟩, b, rfl, (by omega), (by rewrite [e20_73_32]; omega), (by rewrite [e21_73_34, e22_73_36, e23_96]; omega)⟩
    · refine TT_iload_n hK rfl 0 rfl dX12_code_28 ?_
      refine TT_iret hK hQ ?_ dX12_code_29
      have e24_73_32 : g16_4 73 32 = (g16_4 73) 32 := rfl
      have e25_73_34 : g16_4 73 34 = (g16_4 73) 34 := rfl
      have e26_73_36 : g16_4 73 36 = (h 73) 36 := (hG_4.2 36 (by decide))
      exact ⟨⟨hT_4, hF_4⟩, z16_4, rfl, (by omega), (by rewrite [e24_73_32]; omega), (by rewrite [e25_73_34, e26_73_36]; omega)⟩
  · refine TT_aload_n hK rfl 0 rfl dX12_code_7 ?_
    refine TT_iload_n hK rfl 1 rfl dX12_code_8 ?_
    refine TT_iload_n hK rfl 2 rfl dX12_code_9 ?_
    have e27_73_32 : h 73 32 = (h 73) 32 := rfl
    have e28_73_34 : h 73 34 = (h 73) 34 := rfl
    have e29_73_36 : h 73 36 = (h 73) 36 := rfl
    have e30_73_34 : h 73 34 = (h 73) 34 := rfl
    have e31_73_36 : h 73 36 = (h 73) 36 := rfl
    refine iv_X12_221 hK (s_X12_tellBit_73 x b h hT (by first | omega | (simp [up, setR] <;> omega)) (by first | omega | (simp [up, setR] <;> omega)) (by first | assumption | exact htb) (by rewrite [e27_73_32]; first | omega | (simp [up, setR] <;> omega)) (by rewrite [e28_73_34]; first | omega | (simp [up, setR] <;> omega)) (by rewrite [e29_73_36]; first | omega | (simp [up, setR] <;> omega)) (by rewrite [e30_73_34, e31_73_36]; first | omega | (simp [up, setR] <;> omega))) (by decide) rfl ⟨by decide, by decide⟩ (by decide) rfl rfl (Nat.le_of_ble_eq_true rfl) ⟨by decide, by decide⟩ dX12_code_10 ?_
    intro r9 g10_32 hp9
    obtain ⟨⟨hT_32, hG_32⟩, z10_32, hr9, hz_32, p1_32, pa_32, pt_32, pn_32, pp_32⟩ := hp9
    rw [hr9]
    have hF_32 : FRM [73, 96, 97, 98] [28, 32, 33, 34, 36, 39] h g10_32 := FRM_tr hF hG_32 (by decide) (by decide)
    rw [show h 73 34 = (h 73) 34 from rfl] at pp_32
    rw [show h 73 36 = (h 73) 36 from rfl] at pp_32
    show TT K ly 0 0 13 [(0, vR 73), (1, vI x), (2, vI b)] [vI z10_32] g10_32
    refine TT_iret hK hQ ?_ dX12_code_13
    have e33_73_32 : g10_32 73 32 = (g10_32 73) 32 := rfl
    have e34_73_34 : g10_32 73 34 = (g10_32 73) 34 := rfl
    have e35_73_36 : g10_32 73 36 = (g10_32 73) 36 := rfl
    exact ⟨⟨hT_32, hF_32⟩, z10_32, rfl, (by omega), (by rewrite [e33_73_32]; omega), (by rewrite [e34_73_34, e35_73_36]; omega)⟩

set_option maxRecDepth 20000 in
theorem s_X12_stream_73 (i : Int) (h : Hp_) (hT : TY h) (hi : -2147483648 ≤ i ∧ i ≤ 2147483647) : Ctr yX12_stream cX12_stream 2 (some .int) (rmd 1) ly ly 0 0 [vR 73, vI i] h (fun r h' => (TY h' ∧ FRM [73] [2] h h') ∧ ∃ z : Int, r = some (vI z) ∧ (-2147483648 ≤ z ∧ z ≤ 2147483647)) := by
  refine Ctr_of (by decide) (Nat.le_of_ble_eq_true rfl) ⟨Nat.le_refl _, Nat.le_refl _⟩ (fun K hK hQ _ => ?_)
  show TT K ly 0 0 0 [(0, vR 73), (1, vI i)] [] h
  have hF : FRM [73] [2] h h := FRM_rf _ _ _
  refine TT_aload_n hK rfl 0 rfl dX12_stream_0 ?_
  refine TT_iconst hK dX12_stream_1 ?_
  refine pf_X12_117 hK (by decide) rfl dX12_stream_2 ?_
  refine TT_hp (h' := setO h 73 (fup (h 73) 2 0)) (up_can rfl rfl rfl) ?_
  have hT_1 : TY (setO h 73 (fup (h 73) 2 0)) := tu_73_2 hT (show up h 73 2 0 = (setO h 73 (fup (h 73) 2 0)) from up_can rfl rfl rfl) (by omega)
  have hF_1 : FRM [73] [2] h (setO h 73 (fup (h 73) 2 0)) := FRM_f (show up h 73 2 0 = (setO h 73 (fup (h 73) 2 0)) from up_can rfl rfl rfl) hF (by decide) (by decide)
  refine TT_iload_n hK rfl 1 rfl dX12_stream_5 ?_
  refine TT_iconst hK dX12_stream_6 ?_
  refine TT_aload_n hK rfl 0 rfl dX12_stream_7 ?_
  refine gf_X12_329 hK (by decide) rfl (v := (h 73) 41) (rd_ (sOf_eq _ _ _) (fup_ne _ _ (by decide))) dX12_stream_8 ?_
  have r2 := ty_73_41 (v := (h 73) 41) hT_1 (rd_ (sOf_eq _ _ _) (fup_ne _ _ (by decide)))
  refine TT_iconst hK dX12_stream_11 ?_
  refine TT_isub hK dX12_stream_12 ?_
  refine iv_X12_120 hK (s_X12_within i 0 (((h 73) 41) - 1) (setO h 73 (fup (h 73) 2 0)) hT_1 (by first | omega | (simp [up, setR] <;> omega)) (by first | omega | (simp [up, setR] <;> omega)) (by first | omega | (simp [up, setR] <;> omega))) ⟨by decide, by decide⟩ (by decide) rfl rfl (Nat.le_of_ble_eq_true rfl) ⟨by decide, by decide⟩ dX12_stream_13 ?_
  intro r9 g13_3 hp9
  obtain ⟨⟨hT_3, hG_3⟩, z13_3, hr9, hz_3, p1_3, p2_3⟩ := hp9
  rw [hr9]
  have hF_3 : FRM [73] [2] h g13_3 := FRM_tr hF_1 hG_3 (by decide) (by decide)
  show TT K ly 0 0 16 [(0, vR 73), (1, vI i)] [vI z13_3] g13_3
  refine TT_if_eq hK (tgt := 28) (irm (by omega) (by omega)) dX12_stream_16 (by decide) (fun hb16_4 => ?_) (fun hb16_4 => ?_)
  · refine TT_ldc hK lc_X12_128 dX12_stream_28 ?_
    refine TT_iret hK hQ ?_ dX12_stream_30
    exact ⟨⟨hT_3, hF_3⟩, (-100000), rfl, (by omega)⟩
  · refine TT_aload_n hK rfl 0 rfl dX12_stream_19 ?_
    refine gf_X12_96 hK (by decide) rfl (q := 100) rfl rfl dX12_stream_20 ?_
    refine TT_iload_n hK rfl 1 rfl dX12_stream_23 ?_
    refine TT_iald hK (o := 100) (n := 4700) (by decide) rfl (by first | omega | (simp [up, setR] <;> omega)) (by first | omega | (simp [up, setR] <;> omega)) (v := (h 100) i) (rd_ (((hG_3.1 100 (by decide))).trans (sOf_ne _ _ (by decide))) rfl) dX12_stream_24 ?_
    have r5 := ty_100 (i := i) (v := (h 100) i) hT_3 (rd_ (((hG_3.1 100 (by decide))).trans (sOf_ne _ _ (by decide))) rfl) (by omega) (by omega)
    refine TT_goto hK (tgt := 30) dX12_stream_25 (by decide) ?_
    refine TT_iret hK hQ ?_ dX12_stream_30
    exact ⟨⟨hT_3, hF_3⟩, ((h 100) i), rfl, (by omega)⟩
set_option maxRecDepth 20000 in
theorem s_X12_poke_73 (i b : Int) (h : Hp_) (hT : TY h) (hi : -2147483648 ≤ i ∧ i ≤ 2147483647) (hb : -2147483648 ≤ b ∧ b ≤ 2147483647) : Ctr yX12_poke cX12_poke 3 (some .boolean) (rmd 1) ly ly 0 0 [vR 73, vI i, vI b] h (fun r h' => (TY h' ∧ FRM [73, 100] [2] h h') ∧ ∃ z : Int, r = some (vI z) ∧ (0 ≤ z ∧ z ≤ 1)) := by
  refine Ctr_of (by decide) (Nat.le_of_ble_eq_true rfl) ⟨Nat.le_refl _, Nat.le_refl _⟩ (fun K hK hQ _ => ?_)
  show TT K ly 0 0 0 [(0, vR 73), (1, vI i), (2, vI b)] [] h
  have hF : FRM [73, 100] [2] h h := FRM_rf _ _ _
  refine TT_aload_n hK rfl 0 rfl dX12_poke_0 ?_
  refine TT_iconst hK dX12_poke_1 ?_
  refine pf_X12_117 hK (by decide) rfl dX12_poke_2 ?_
  refine TT_hp (h' := setO h 73 (fup (h 73) 2 0)) (up_can rfl rfl rfl) ?_
  have hT_1 : TY (setO h 73 (fup (h 73) 2 0)) := tu_73_2 hT (show up h 73 2 0 = (setO h 73 (fup (h 73) 2 0)) from up_can rfl rfl rfl) (by omega)
  have hF_1 : FRM [73, 100] [2] h (setO h 73 (fup (h 73) 2 0)) := FRM_f (show up h 73 2 0 = (setO h 73 (fup (h 73) 2 0)) from up_can rfl rfl rfl) hF (by decide) (by decide)
  refine TT_iload_n hK rfl 1 rfl dX12_poke_5 ?_
  refine TT_iconst hK dX12_poke_6 ?_
  refine TT_aload_n hK rfl 0 rfl dX12_poke_7 ?_
  refine gf_X12_329 hK (by decide) rfl (v := (h 73) 41) (rd_ (sOf_eq _ _ _) (fup_ne _ _ (by decide))) dX12_poke_8 ?_
  have r2 := ty_73_41 (v := (h 73) 41) hT_1 (rd_ (sOf_eq _ _ _) (fup_ne _ _ (by decide)))
  refine TT_iconst hK dX12_poke_11 ?_
  refine TT_isub hK dX12_poke_12 ?_
  refine iv_X12_120 hK (s_X12_within i 0 (((h 73) 41) - 1) (setO h 73 (fup (h 73) 2 0)) hT_1 (by first | omega | (simp [up, setR] <;> omega)) (by first | omega | (simp [up, setR] <;> omega)) (by first | omega | (simp [up, setR] <;> omega))) ⟨by decide, by decide⟩ (by decide) rfl rfl (Nat.le_of_ble_eq_true rfl) ⟨by decide, by decide⟩ dX12_poke_13 ?_
  intro r9 g13_3 hp9
  obtain ⟨⟨hT_3, hG_3⟩, z13_3, hr9, hz_3, p1_3, p2_3⟩ := hp9
  rw [hr9]
  have hF_3 : FRM [73, 100] [2] h g13_3 := FRM_tr hF_1 hG_3 (by decide) (by decide)
  show TT K ly 0 0 16 [(0, vR 73), (1, vI i), (2, vI b)] [vI z13_3] g13_3
  refine TT_if_eq hK (tgt := 30) (irm (by omega) (by omega)) dX12_poke_16 (by decide) (fun hb16_4 => ?_) (fun hb16_4 => ?_)
  · refine TT_iconst hK dX12_poke_30 ?_
    refine TT_zret hK hQ (by decide) ?_ dX12_poke_31
    exact ⟨⟨hT_3, hF_3⟩, 0, rfl, (by omega)⟩
  · refine TT_iload_n hK rfl 2 rfl dX12_poke_19 ?_
    refine TT_iconst hK dX12_poke_20 ?_
    refine TT_sipush hK (by decide) dX12_poke_21 ?_
    refine iv_X12_120 hK (s_X12_within b 0 255 g13_3 hT_3 (by first | omega | (simp [up, setR] <;> omega)) (by first | omega | (simp [up, setR] <;> omega)) (by first | omega | (simp [up, setR] <;> omega))) ⟨by decide, by decide⟩ (by decide) rfl rfl (Nat.le_of_ble_eq_true rfl) ⟨by decide, by decide⟩ dX12_poke_24 ?_
    intro r9 g24_5 hp9
    obtain ⟨⟨hT_5, hG_5⟩, z24_5, hr9, hz_5, p1_5, p2_5⟩ := hp9
    rw [hr9]
    have hF_5 : FRM [73, 100] [2] h g24_5 := FRM_tr hF_3 hG_5 (by decide) (by decide)
    show TT K ly 0 0 27 [(0, vR 73), (1, vI i), (2, vI b)] [vI z24_5] g24_5
    refine TT_if_ne hK (tgt := 32) (irm (by omega) (by omega)) dX12_poke_27 (by decide) (fun hb27_6 => ?_) (fun hb27_6 => ?_)
    · refine TT_aload_n hK rfl 0 rfl dX12_poke_32 ?_
      refine gf_X12_96 hK (by decide) rfl (q := 100) rfl rfl dX12_poke_33 ?_
      refine TT_iload_n hK rfl 1 rfl dX12_poke_36 ?_
      refine TT_iload_n hK rfl 2 rfl dX12_poke_37 ?_
      refine TT_iast hK (o := 100) (n := 4700) (by decide) rfl (by omega) (by omega) dX12_poke_38 ?_
      refine TT_hp (h' := setO g24_5 100 (fup (h 100) i b)) (up_can (((hG_5.1 100 (by decide))).trans (((hG_3.1 100 (by decide))).trans (sOf_ne _ _ (by decide)))) rfl rfl) ?_
      have hT_7 : TY (setO g24_5 100 (fup (h 100) i b)) := tu_100 hT_5 (show up g24_5 100 i b = (setO g24_5 100 (fup (h 100) i b)) from up_can (((hG_5.1 100 (by decide))).trans (((hG_3.1 100 (by decide))).trans (sOf_ne _ _ (by decide)))) rfl rfl) (by omega)
      have hF_7 : FRM [73, 100] [2] h (setO g24_5 100 (fup (h 100) i b)) := FRM_up (show up g24_5 100 i b = (setO g24_5 100 (fup (h 100) i b)) from up_can (((hG_5.1 100 (by decide))).trans (((hG_3.1 100 (by decide))).trans (sOf_ne _ _ (by decide)))) rfl rfl) hF_5 (by decide) (by decide)
      refine TT_iconst hK dX12_poke_39 ?_
      refine TT_zret hK hQ (by decide) ?_ dX12_poke_40
      exact ⟨⟨hT_7, hF_7⟩, 1, rfl, (by omega)⟩
    · refine TT_iconst hK dX12_poke_30 ?_
      refine TT_zret hK hQ (by decide) ?_ dX12_poke_31
      exact ⟨⟨hT_5, hF_5⟩, 0, rfl, (by omega)⟩
set_option maxRecDepth 20000 in
theorem s_X12_isBand_73 (b : Int) (h : Hp_) (hT : TY h) (hb : -2147483648 ≤ b ∧ b ≤ 2147483647) : Ctr yX12_isBand cX12_isBand 2 (some .boolean) (rmd 1) ly ly 0 0 [vR 73, vI b] h (fun r h' => (TY h' ∧ FRM [] [] h h') ∧ ∃ z : Int, r = some (vI z) ∧ (0 ≤ z ∧ z ≤ 1) ∧ (z = 1 → (0 ≤ b ∧ b < (h 73 18)) ∧ b < 10)) := by
  refine Ctr_of (by decide) (Nat.le_of_ble_eq_true rfl) ⟨Nat.le_refl _, Nat.le_refl _⟩ (fun K hK hQ _ => ?_)
  show TT K ly 0 0 0 [(0, vR 73), (1, vI b)] [] h
  have hF : FRM [] [] h h := FRM_rf _ _ _
  refine TT_iload_n hK rfl 1 rfl dX12_isBand_0 ?_
  refine TT_iconst hK dX12_isBand_1 ?_
  refine TT_aload_n hK rfl 0 rfl dX12_isBand_2 ?_
  refine gf_X12_345 hK (by decide) rfl (v := (h 73) 18) rfl dX12_isBand_3 ?_
  have r1 := ty_73_18 (v := (h 73) 18) hT rfl
  refine TT_iconst hK dX12_isBand_6 ?_
  refine TT_isub hK dX12_isBand_7 ?_
  refine iv_X12_120 hK (s_X12_within b 0 (((h 73) 18) - 1) h hT (by first | omega | (simp [up, setR] <;> omega)) (by first | omega | (simp [up, setR] <;> omega)) (by first | omega | (simp [up, setR] <;> omega))) ⟨by decide, by decide⟩ (by decide) rfl rfl (Nat.le_of_ble_eq_true rfl) ⟨by decide, by decide⟩ dX12_isBand_8 ?_
  intro r9 g8_2 hp9
  obtain ⟨⟨hT_2, hG_2⟩, z8_2, hr9, hz_2, p1_2, p2_2⟩ := hp9
  rw [hr9]
  have hF_2 : FRM [] [] h g8_2 := FRM_tr hF hG_2 (by decide) (by decide)
  show TT K ly 0 0 11 [(0, vR 73), (1, vI b)] [vI z8_2] g8_2
  refine TT_zret hK hQ (by omega) ?_ dX12_isBand_11
  exact ⟨⟨hT_2, hF_2⟩, z8_2, rfl, (by omega), (by omega)⟩
set_option maxRecDepth 20000 in
theorem s_X12_band_73 (b w : Int) (h : Hp_) (hT : TY h) (hb : -2147483648 ≤ b ∧ b ≤ 2147483647) (hw : -2147483648 ≤ w ∧ w ≤ 2147483647) : Ctr yX12_band cX12_band 3 (some .int) (rmd 2) ly ly 0 0 [vR 73, vI b, vI w] h (fun r h' => (TY h' ∧ FRM [73] [2] h h') ∧ ∃ z : Int, r = some (vI z) ∧ (-2147483648 ≤ z ∧ z ≤ 2147483647)) := by
  refine Ctr_of (by decide) (Nat.le_of_ble_eq_true rfl) ⟨Nat.le_refl _, Nat.le_refl _⟩ (fun K hK hQ _ => ?_)
  show TT K ly 0 0 0 [(0, vR 73), (1, vI b), (2, vI w)] [] h
  have hF : FRM [73] [2] h h := FRM_rf _ _ _
  refine TT_aload_n hK rfl 0 rfl dX12_band_0 ?_
  refine TT_iconst hK dX12_band_1 ?_
  refine pf_X12_117 hK (by decide) rfl dX12_band_2 ?_
  refine TT_hp (h' := setO h 73 (fup (h 73) 2 0)) (up_can rfl rfl rfl) ?_
  have hT_1 : TY (setO h 73 (fup (h 73) 2 0)) := tu_73_2 hT (show up h 73 2 0 = (setO h 73 (fup (h 73) 2 0)) from up_can rfl rfl rfl) (by omega)
  have hF_1 : FRM [73] [2] h (setO h 73 (fup (h 73) 2 0)) := FRM_f (show up h 73 2 0 = (setO h 73 (fup (h 73) 2 0)) from up_can rfl rfl rfl) hF (by decide) (by decide)
  refine TT_aload_n hK rfl 0 rfl dX12_band_5 ?_
  refine TT_iload_n hK rfl 1 rfl dX12_band_6 ?_
  refine iv_X12_361 hK (s_X12_isBand_73 b (setO h 73 (fup (h 73) 2 0)) hT_1 (by first | omega | (simp [up, setR] <;> omega))) (by decide) rfl ⟨by decide, by decide⟩ (by decide) rfl rfl (Nat.le_of_ble_eq_true rfl) ⟨by decide, by decide⟩ dX12_band_7 ?_
  intro r9 g7_2 hp9
  obtain ⟨⟨hT_2, hG_2⟩, z7_2, hr9, hz_2, p1_2⟩ := hp9
  rw [hr9]
  have hF_2 : FRM [73] [2] h g7_2 := FRM_tr hF_1 hG_2 (by decide) (by decide)
  rw [show (setO h 73 (fup (h 73) 2 0)) 73 18 = (h 73) 18 from rd_ (sOf_eq _ _ _) (fup_ne _ _ (by decide))] at p1_2
  show TT K ly 0 0 10 [(0, vR 73), (1, vI b), (2, vI w)] [vI z7_2] g7_2
  refine TT_if_ne hK (tgt := 16) (irm (by omega) (by omega)) dX12_band_10 (by decide) (fun hb10_3 => ?_) (fun hb10_3 => ?_)
  · refine TT_iload_n hK rfl 2 rfl dX12_band_16 ?_
    refine TT_if_ne hK (tgt := 29) (irm (by omega) (by omega)) dX12_band_17 (by decide) (fun hb17_4 => ?_) (fun hb17_4 => ?_)
    · refine TT_iload_n hK rfl 2 rfl dX12_band_29 ?_
      refine TT_iconst hK dX12_band_30 ?_
      refine TT_icmp_ne hK (tgt := 43) (irm (by omega) (by omega)) (by decide) dX12_band_31 (by decide) (fun hb31_5 => ?_) (fun hb31_5 => ?_)
      · refine TT_iload_n hK rfl 2 rfl dX12_band_43 ?_
        refine TT_iconst hK dX12_band_44 ?_
        refine TT_icmp_ne hK (tgt := 57) (irm (by omega) (by omega)) (by decide) dX12_band_45 (by decide) (fun hb45_6 => ?_) (fun hb45_6 => ?_)
        · refine TT_iload_n hK rfl 2 rfl dX12_band_57 ?_
          refine TT_iconst hK dX12_band_58 ?_
          refine TT_icmp_ne hK (tgt := 70) (irm (by omega) (by omega)) (by decide) dX12_band_59 (by decide) (fun hb59_7 => ?_) (fun hb59_7 => ?_)
          · refine TT_iload_n hK rfl 2 rfl dX12_band_70 ?_
            refine TT_iconst hK dX12_band_71 ?_
            refine TT_icmp_ne hK (tgt := 84) (irm (by omega) (by omega)) (by decide) dX12_band_72 (by decide) (fun hb72_8 => ?_) (fun hb72_8 => ?_)
            · refine TT_ldc hK lc_X12_128 dX12_band_84 ?_
              refine TT_iret hK hQ ?_ dX12_band_86
              exact ⟨⟨hT_2, hF_2⟩, (-100000), rfl, (by omega)⟩
            · refine TT_aload_n hK rfl 0 rfl dX12_band_75 ?_
              refine gf_X12_69 hK (by decide) rfl (q := 91) rfl rfl dX12_band_76 ?_
              refine TT_iload_n hK rfl 1 rfl dX12_band_79 ?_
              refine TT_iald hK (o := 91) (n := 10) (by decide) rfl (by first | omega | (simp [up, setR] <;> omega)) (by first | omega | (simp [up, setR] <;> omega)) (v := (h 91) b) (rd_ (((hG_2.1 91 (by decide))).trans (sOf_ne _ _ (by decide))) rfl) dX12_band_80 ?_
              have r9 := ty_91 (i := b) (v := (h 91) b) hT_2 (rd_ (((hG_2.1 91 (by decide))).trans (sOf_ne _ _ (by decide))) rfl) (by omega) (by omega)
              refine TT_goto hK (tgt := 86) dX12_band_81 (by decide) ?_
              refine TT_iret hK hQ ?_ dX12_band_86
              exact ⟨⟨hT_2, hF_2⟩, ((h 91) b), rfl, (by omega)⟩
          · refine TT_aload_n hK rfl 0 rfl dX12_band_62 ?_
            refine TT_iload_n hK rfl 1 rfl dX12_band_63 ?_
            refine iv_X12_296 hK (s_X12_passesOf_73 b g7_2 hT_2 (by first | omega | (simp [up, setR] <;> omega))) (by decide) rfl ⟨by decide, by decide⟩ (by decide) rfl rfl (Nat.le_of_ble_eq_true rfl) ⟨by decide, by decide⟩ dX12_band_64 ?_
            intro r9 g64_10 hp9
            obtain ⟨⟨hT_10, hG_10⟩, z64_10, hr9, hz_10, p1_10⟩ := hp9
            rw [hr9]
            have hF_10 : FRM [73] [2] h g64_10 := FRM_tr hF_2 hG_10 (by decide) (by decide)
            show TT K ly 0 0 67 [(0, vR 73), (1, vI b), (2, vI w)] [vI z64_10] g64_10
            refine TT_goto hK (tgt := 86) dX12_band_67 (by decide) ?_
            refine TT_iret hK hQ ?_ dX12_band_86
            exact ⟨⟨hT_10, hF_10⟩, z64_10, rfl, (by omega)⟩
        · refine TT_aload_n hK rfl 0 rfl dX12_band_48 ?_
          refine gf_X12_44 hK (by decide) rfl (q := 83) rfl rfl dX12_band_49 ?_
          refine TT_iload_n hK rfl 1 rfl dX12_band_52 ?_
          refine TT_iald hK (o := 83) (n := 20) (by decide) rfl (by first | omega | (simp [up, setR] <;> omega)) (by first | omega | (simp [up, setR] <;> omega)) (v := (h 83) b) (rd_ (((hG_2.1 83 (by decide))).trans (sOf_ne _ _ (by decide))) rfl) dX12_band_53 ?_
          have r11 := ty_83 (i := b) (v := (h 83) b) hT_2 (rd_ (((hG_2.1 83 (by decide))).trans (sOf_ne _ _ (by decide))) rfl) (by omega) (by omega)
          refine TT_goto hK (tgt := 86) dX12_band_54 (by decide) ?_
          refine TT_iret hK hQ ?_ dX12_band_86
          exact ⟨⟨hT_2, hF_2⟩, ((h 83) b), rfl, (by omega)⟩
      · refine TT_aload_n hK rfl 0 rfl dX12_band_34 ?_
        refine gf_X12_38 hK (by decide) rfl (q := 81) rfl rfl dX12_band_35 ?_
        refine TT_iload_n hK rfl 1 rfl dX12_band_38 ?_
        refine TT_iald hK (o := 81) (n := 20) (by decide) rfl (by first | omega | (simp [up, setR] <;> omega)) (by first | omega | (simp [up, setR] <;> omega)) (v := (h 81) b) (rd_ (((hG_2.1 81 (by decide))).trans (sOf_ne _ _ (by decide))) rfl) dX12_band_39 ?_
        have r12 := ty_81 (i := b) (v := (h 81) b) hT_2 (rd_ (((hG_2.1 81 (by decide))).trans (sOf_ne _ _ (by decide))) rfl) (by omega) (by omega)
        refine TT_goto hK (tgt := 86) dX12_band_40 (by decide) ?_
        refine TT_iret hK hQ ?_ dX12_band_86
        exact ⟨⟨hT_2, hF_2⟩, ((h 81) b), rfl, (by omega)⟩
    · refine TT_aload_n hK rfl 0 rfl dX12_band_20 ?_
      refine gf_X12_35 hK (by decide) rfl (q := 80) rfl rfl dX12_band_21 ?_
      refine TT_iload_n hK rfl 1 rfl dX12_band_24 ?_
      refine TT_iald hK (o := 80) (n := 20) (by decide) rfl (by first | omega | (simp [up, setR] <;> omega)) (by first | omega | (simp [up, setR] <;> omega)) (v := (h 80) b) (rd_ (((hG_2.1 80 (by decide))).trans (sOf_ne _ _ (by decide))) rfl) dX12_band_25 ?_
      have r13 := ty_80 (i := b) (v := (h 80) b) hT_2 (rd_ (((hG_2.1 80 (by decide))).trans (sOf_ne _ _ (by decide))) rfl) (by omega) (by omega)
      refine TT_goto hK (tgt := 86) dX12_band_26 (by decide) ?_
      refine TT_iret hK hQ ?_ dX12_band_86
      exact ⟨⟨hT_2, hF_2⟩, ((h 80) b), rfl, (by omega)⟩
  · refine TT_ldc hK lc_X12_128 dX12_band_13 ?_
    refine TT_iret hK hQ ?_ dX12_band_15
    exact ⟨⟨hT_2, hF_2⟩, (-100000), rfl, (by omega)⟩
set_option maxRecDepth 20000 in
theorem s_X12_number_73 (b x y : Int) (h : Hp_) (hT : TY h) (hb : -2147483648 ≤ b ∧ b ≤ 2147483647) (hx : -2147483648 ≤ x ∧ x ≤ 2147483647) (hy : -2147483648 ≤ y ∧ y ≤ 2147483647) : Ctr yX12_number cX12_number 5 (some .int) (rmd 2) ly ly 0 0 [vR 73, vI b, vI x, vI y] h (fun r h' => (TY h' ∧ FRM [73] [2] h h') ∧ ∃ z : Int, r = some (vI z) ∧ (-2147483648 ≤ z ∧ z ≤ 2147483647)) := by
  refine Ctr_of (by decide) (Nat.le_of_ble_eq_true rfl) ⟨Nat.le_refl _, Nat.le_refl _⟩ (fun K hK hQ _ => ?_)
  show TT K ly 0 0 0 [(0, vR 73), (1, vI b), (2, vI x), (3, vI y)] [] h
  have hF : FRM [73] [2] h h := FRM_rf _ _ _
  refine TT_aload_n hK rfl 0 rfl dX12_number_0 ?_
  refine TT_iconst hK dX12_number_1 ?_
  refine pf_X12_117 hK (by decide) rfl dX12_number_2 ?_
  refine TT_hp (h' := setO h 73 (fup (h 73) 2 0)) (up_can rfl rfl rfl) ?_
  have hT_1 : TY (setO h 73 (fup (h 73) 2 0)) := tu_73_2 hT (show up h 73 2 0 = (setO h 73 (fup (h 73) 2 0)) from up_can rfl rfl rfl) (by omega)
  have hF_1 : FRM [73] [2] h (setO h 73 (fup (h 73) 2 0)) := FRM_f (show up h 73 2 0 = (setO h 73 (fup (h 73) 2 0)) from up_can rfl rfl rfl) hF (by decide) (by decide)
  refine TT_aload_n hK rfl 0 rfl dX12_number_5 ?_
  refine TT_iload_n hK rfl 1 rfl dX12_number_6 ?_
  refine iv_X12_361 hK (s_X12_isBand_73 b (setO h 73 (fup (h 73) 2 0)) hT_1 (by first | omega | (simp [up, setR] <;> omega))) (by decide) rfl ⟨by decide, by decide⟩ (by decide) rfl rfl (Nat.le_of_ble_eq_true rfl) ⟨by decide, by decide⟩ dX12_number_7 ?_
  intro r9 g7_2 hp9
  obtain ⟨⟨hT_2, hG_2⟩, z7_2, hr9, hz_2, p1_2⟩ := hp9
  rw [hr9]
  have hF_2 : FRM [73] [2] h g7_2 := FRM_tr hF_1 hG_2 (by decide) (by decide)
  rw [show (setO h 73 (fup (h 73) 2 0)) 73 18 = (h 73) 18 from rd_ (sOf_eq _ _ _) (fup_ne _ _ (by decide))] at p1_2
  show TT K ly 0 0 10 [(0, vR 73), (1, vI b), (2, vI x), (3, vI y)] [vI z7_2] g7_2
  refine TT_if_eq hK (tgt := 45) (irm (by omega) (by omega)) dX12_number_10 (by decide) (fun hb10_3 => ?_) (fun hb10_3 => ?_)
  · refine TT_ldc hK lc_X12_128 dX12_number_45 ?_
    refine TT_iret hK hQ ?_ dX12_number_47
    exact ⟨⟨hT_2, hF_2⟩, (-100000), rfl, (by omega)⟩
  · refine TT_iload_n hK rfl 2 rfl dX12_number_13 ?_
    refine TT_iconst hK dX12_number_14 ?_
    refine TT_aload_n hK rfl 0 rfl dX12_number_15 ?_
    refine gf_X12_35 hK (by decide) rfl (q := 80) rfl rfl dX12_number_16 ?_
    refine TT_iload_n hK rfl 1 rfl dX12_number_19 ?_
    refine TT_iald hK (o := 80) (n := 20) (by decide) rfl (by first | omega | (simp [up, setR] <;> omega)) (by first | omega | (simp [up, setR] <;> omega)) (v := (h 80) b) (rd_ (((hG_2.1 80 (by decide))).trans (sOf_ne _ _ (by decide))) rfl) dX12_number_20 ?_
    have r4 := ty_80 (i := b) (v := (h 80) b) hT_2 (rd_ (((hG_2.1 80 (by decide))).trans (sOf_ne _ _ (by decide))) rfl) (by omega) (by omega)
    refine TT_iconst hK dX12_number_21 ?_
    refine TT_isub hK dX12_number_22 ?_
    refine iv_X12_120 hK (s_X12_within x 0 (((h 80) b) - 1) g7_2 hT_2 (by first | omega | (simp [up, setR] <;> omega)) (by first | omega | (simp [up, setR] <;> omega)) (by first | omega | (simp [up, setR] <;> omega))) ⟨by decide, by decide⟩ (by decide) rfl rfl (Nat.le_of_ble_eq_true rfl) ⟨by decide, by decide⟩ dX12_number_23 ?_
    intro r9 g23_5 hp9
    obtain ⟨⟨hT_5, hG_5⟩, z23_5, hr9, hz_5, p1_5, p2_5⟩ := hp9
    rw [hr9]
    have hF_5 : FRM [73] [2] h g23_5 := FRM_tr hF_2 hG_5 (by decide) (by decide)
    show TT K ly 0 0 26 [(0, vR 73), (1, vI b), (2, vI x), (3, vI y)] [vI z23_5] g23_5
    refine TT_if_eq hK (tgt := 45) (irm (by omega) (by omega)) dX12_number_26 (by decide) (fun hb26_6 => ?_) (fun hb26_6 => ?_)
    · refine TT_ldc hK lc_X12_128 dX12_number_45 ?_
      refine TT_iret hK hQ ?_ dX12_number_47
      exact ⟨⟨hT_5, hF_5⟩, (-100000), rfl, (by omega)⟩
    · refine TT_iload_n hK rfl 3 rfl dX12_number_29 ?_
      refine TT_iconst hK dX12_number_30 ?_
      refine TT_aload_n hK rfl 0 rfl dX12_number_31 ?_
      refine gf_X12_38 hK (by decide) rfl (q := 81) rfl rfl dX12_number_32 ?_
      refine TT_iload_n hK rfl 1 rfl dX12_number_35 ?_
      refine TT_iald hK (o := 81) (n := 20) (by decide) rfl (by first | omega | (simp [up, setR] <;> omega)) (by first | omega | (simp [up, setR] <;> omega)) (v := (h 81) b) (rd_ (((hG_5.1 81 (by decide))).trans (((hG_2.1 81 (by decide))).trans (sOf_ne _ _ (by decide)))) rfl) dX12_number_36 ?_
      have r7 := ty_81 (i := b) (v := (h 81) b) hT_5 (rd_ (((hG_5.1 81 (by decide))).trans (((hG_2.1 81 (by decide))).trans (sOf_ne _ _ (by decide)))) rfl) (by omega) (by omega)
      refine TT_iconst hK dX12_number_37 ?_
      refine TT_isub hK dX12_number_38 ?_
      refine iv_X12_120 hK (s_X12_within y 0 (((h 81) b) - 1) g23_5 hT_5 (by first | omega | (simp [up, setR] <;> omega)) (by first | omega | (simp [up, setR] <;> omega)) (by first | omega | (simp [up, setR] <;> omega))) ⟨by decide, by decide⟩ (by decide) rfl rfl (Nat.le_of_ble_eq_true rfl) ⟨by decide, by decide⟩ dX12_number_39 ?_
      intro r9 g39_8 hp9
      obtain ⟨⟨hT_8, hG_8⟩, z39_8, hr9, hz_8, p1_8, p2_8⟩ := hp9
      rw [hr9]
      have hF_8 : FRM [73] [2] h g39_8 := FRM_tr hF_5 hG_8 (by decide) (by decide)
      show TT K ly 0 0 42 [(0, vR 73), (1, vI b), (2, vI x), (3, vI y)] [vI z39_8] g39_8
      refine TT_if_ne hK (tgt := 48) (irm (by omega) (by omega)) dX12_number_42 (by decide) (fun hb42_9 => ?_) (fun hb42_9 => ?_)
      · refine TT_bipush hK (by decide) dX12_number_48 ?_
        refine TT_iload_n hK rfl 1 rfl dX12_number_50 ?_
        refine TT_imul hK dX12_number_51 ?_
        refine TT_bipush hK (by decide) dX12_number_52 ?_
        refine TT_iload_n hK rfl 3 rfl dX12_number_54 ?_
        refine TT_imul hK dX12_number_55 ?_
        refine TT_iadd hK dX12_number_56 ?_
        refine TT_iload_n hK rfl 2 rfl dX12_number_57 ?_
        refine TT_iadd hK dX12_number_58 ?_
        refine TT_istore hK (lv' := [(4, vI (((64 * b) + (8 * y)) + x)), (0, vR 73), (1, vI b), (2, vI x), (3, vI y)]) (by decide) rfl dX12_number_59 ?_
        refine TT_aload_n hK rfl 1 rfl dX12_number_61 ?_
        refine gf_X12_50 hK (by decide) rfl (q := 85) rfl rfl dX12_number_62 ?_
        refine TT_iload hK 0 rfl dX12_number_65 ?_
        refine TT_zald hK (o := 85) (n := 1280) (by decide) rfl (by first | omega | (simp [up, setR] <;> omega)) (by first | omega | (simp [up, setR] <;> omega)) (v := (h 85) (((64 * b) + (8 * y)) + x)) (rd_ (((hG_8.1 85 (by decide))).trans (((hG_5.1 85 (by decide))).trans (((hG_2.1 85 (by decide))).trans (sOf_ne _ _ (by decide))))) rfl) dX12_number_67 ?_
        have r10 := ty_85 (i := ((64 * b) + (8 * y)) + x) (v := (h 85) (((64 * b) + (8 * y)) + x)) hT_8 (rd_ (((hG_8.1 85 (by decide))).trans (((hG_5.1 85 (by decide))).trans (((hG_2.1 85 (by decide))).trans (sOf_ne _ _ (by decide))))) rfl) (by omega) (by omega)
        refine TT_if_eq hK (tgt := 82) (irm (by omega) (by omega)) dX12_number_68 (by decide) (fun hb68_11 => ?_) (fun hb68_11 => ?_)
        · refine TT_aload_n hK rfl 1 rfl dX12_number_82 ?_
          refine gf_X12_47 hK (by decide) rfl (q := 84) rfl rfl dX12_number_83 ?_
          refine TT_iload hK 0 rfl dX12_number_86 ?_
          refine TT_iald hK (o := 84) (n := 1280) (by decide) rfl (by first | omega | (simp [up, setR] <;> omega)) (by first | omega | (simp [up, setR] <;> omega)) (v := (h 84) (((64 * b) + (8 * y)) + x)) (rd_ (((hG_8.1 84 (by decide))).trans (((hG_5.1 84 (by decide))).trans (((hG_2.1 84 (by decide))).trans (sOf_ne _ _ (by decide))))) rfl) dX12_number_88 ?_
          have r12 := ty_84 (i := ((64 * b) + (8 * y)) + x) (v := (h 84) (((64 * b) + (8 * y)) + x)) hT_8 (rd_ (((hG_8.1 84 (by decide))).trans (((hG_5.1 84 (by decide))).trans (((hG_2.1 84 (by decide))).trans (sOf_ne _ _ (by decide))))) rfl) (by omega) (by omega)
          refine TT_iret hK hQ ?_ dX12_number_89
          exact ⟨⟨hT_8, hF_8⟩, ((h 84) (((64 * b) + (8 * y)) + x)), rfl, (by omega)⟩
        · refine TT_aload_n hK rfl 1 rfl dX12_number_71 ?_
          refine gf_X12_47 hK (by decide) rfl (q := 84) rfl rfl dX12_number_72 ?_
          refine TT_iload hK 0 rfl dX12_number_75 ?_
          refine TT_iald hK (o := 84) (n := 1280) (by decide) rfl (by first | omega | (simp [up, setR] <;> omega)) (by first | omega | (simp [up, setR] <;> omega)) (v := (h 84) (((64 * b) + (8 * y)) + x)) (rd_ (((hG_8.1 84 (by decide))).trans (((hG_5.1 84 (by decide))).trans (((hG_2.1 84 (by decide))).trans (sOf_ne _ _ (by decide))))) rfl) dX12_number_77 ?_
          have r13 := ty_84 (i := ((64 * b) + (8 * y)) + x) (v := (h 84) (((64 * b) + (8 * y)) + x)) hT_8 (rd_ (((hG_8.1 84 (by decide))).trans (((hG_5.1 84 (by decide))).trans (((hG_2.1 84 (by decide))).trans (sOf_ne _ _ (by decide))))) rfl) (by omega) (by omega)
          refine TT_ineg hK dX12_number_78 ?_
          refine TT_w32 (fun x79_14 hx14 => ?_)
          refine TT_goto hK (tgt := 89) dX12_number_79 (by decide) ?_
          refine TT_iret hK hQ ?_ dX12_number_89
          exact ⟨⟨hT_8, hF_8⟩, x79_14, rfl, (by omega)⟩
      · refine TT_ldc hK lc_X12_128 dX12_number_45 ?_
        refine TT_iret hK hQ ?_ dX12_number_47
        exact ⟨⟨hT_8, hF_8⟩, (-100000), rfl, (by omega)⟩
set_option maxRecDepth 20000 in
theorem s_X12_codeword_73 (b i : Int) (h : Hp_) (hT : TY h) (hb : -2147483648 ≤ b ∧ b ≤ 2147483647) (hi : -2147483648 ≤ i ∧ i ≤ 2147483647) (hmi : MIQ (h 90) (h 91)) : Ctr yX12_codeword cX12_codeword 3 (some .int) (rmd 2) ly ly 0 0 [vR 73, vI b, vI i] h (fun r h' => (TY h' ∧ FRM [73] [2] h h') ∧ ∃ z : Int, r = some (vI z) ∧ (-2147483648 ≤ z ∧ z ≤ 2147483647)) := by
  refine Ctr_of (by decide) (Nat.le_of_ble_eq_true rfl) ⟨Nat.le_refl _, Nat.le_refl _⟩ (fun K hK hQ _ => ?_)
  show TT K ly 0 0 0 [(0, vR 73), (1, vI b), (2, vI i)] [] h
  have hF : FRM [73] [2] h h := FRM_rf _ _ _
  refine TT_aload_n hK rfl 0 rfl dX12_codeword_0 ?_
  refine TT_iconst hK dX12_codeword_1 ?_
  refine pf_X12_117 hK (by decide) rfl dX12_codeword_2 ?_
  refine TT_hp (h' := setO h 73 (fup (h 73) 2 0)) (up_can rfl rfl rfl) ?_
  have hT_1 : TY (setO h 73 (fup (h 73) 2 0)) := tu_73_2 hT (show up h 73 2 0 = (setO h 73 (fup (h 73) 2 0)) from up_can rfl rfl rfl) (by omega)
  have hF_1 : FRM [73] [2] h (setO h 73 (fup (h 73) 2 0)) := FRM_f (show up h 73 2 0 = (setO h 73 (fup (h 73) 2 0)) from up_can rfl rfl rfl) hF (by decide) (by decide)
  refine TT_aload_n hK rfl 0 rfl dX12_codeword_5 ?_
  refine TT_iload_n hK rfl 1 rfl dX12_codeword_6 ?_
  refine iv_X12_361 hK (s_X12_isBand_73 b (setO h 73 (fup (h 73) 2 0)) hT_1 (by first | omega | (simp [up, setR] <;> omega))) (by decide) rfl ⟨by decide, by decide⟩ (by decide) rfl rfl (Nat.le_of_ble_eq_true rfl) ⟨by decide, by decide⟩ dX12_codeword_7 ?_
  intro r9 g7_2 hp9
  obtain ⟨⟨hT_2, hG_2⟩, z7_2, hr9, hz_2, p1_2⟩ := hp9
  rw [hr9]
  have hF_2 : FRM [73] [2] h g7_2 := FRM_tr hF_1 hG_2 (by decide) (by decide)
  rw [show (setO h 73 (fup (h 73) 2 0)) 73 18 = (h 73) 18 from rd_ (sOf_eq _ _ _) (fup_ne _ _ (by decide))] at p1_2
  show TT K ly 0 0 10 [(0, vR 73), (1, vI b), (2, vI i)] [vI z7_2] g7_2
  refine TT_if_eq hK (tgt := 45) (irm (by omega) (by omega)) dX12_codeword_10 (by decide) (fun hb10_3 => ?_) (fun hb10_3 => ?_)
  · refine TT_ldc hK lc_X12_128 dX12_codeword_45 ?_
    refine TT_iret hK hQ ?_ dX12_codeword_47
    exact ⟨⟨hT_2, hF_2⟩, (-100000), rfl, (by omega)⟩
  · refine TT_iload_n hK rfl 2 rfl dX12_codeword_13 ?_
    refine TT_iconst hK dX12_codeword_14 ?_
    refine TT_aload_n hK rfl 0 rfl dX12_codeword_15 ?_
    refine gf_X12_69 hK (by decide) rfl (q := 91) rfl rfl dX12_codeword_16 ?_
    refine TT_iload_n hK rfl 1 rfl dX12_codeword_19 ?_
    refine TT_iald hK (o := 91) (n := 10) (by decide) rfl (by first | omega | (simp [up, setR] <;> omega)) (by first | omega | (simp [up, setR] <;> omega)) (v := (h 91) b) (rd_ (((hG_2.1 91 (by decide))).trans (sOf_ne _ _ (by decide))) rfl) dX12_codeword_20 ?_
    have r4 := ty_91 (i := b) (v := (h 91) b) hT_2 (rd_ (((hG_2.1 91 (by decide))).trans (sOf_ne _ _ (by decide))) rfl) (by omega) (by omega)
    refine TT_iconst hK dX12_codeword_21 ?_
    refine TT_isub hK dX12_codeword_22 ?_
    refine iv_X12_120 hK (s_X12_within i 0 (((h 91) b) - 1) g7_2 hT_2 (by first | omega | (simp [up, setR] <;> omega)) (by first | omega | (simp [up, setR] <;> omega)) (by first | omega | (simp [up, setR] <;> omega))) ⟨by decide, by decide⟩ (by decide) rfl rfl (Nat.le_of_ble_eq_true rfl) ⟨by decide, by decide⟩ dX12_codeword_23 ?_
    intro r9 g23_5 hp9
    obtain ⟨⟨hT_5, hG_5⟩, z23_5, hr9, hz_5, p1_5, p2_5⟩ := hp9
    rw [hr9]
    have hF_5 : FRM [73] [2] h g23_5 := FRM_tr hF_2 hG_5 (by decide) (by decide)
    show TT K ly 0 0 26 [(0, vR 73), (1, vI b), (2, vI i)] [vI z23_5] g23_5
    refine TT_if_eq hK (tgt := 45) (irm (by omega) (by omega)) dX12_codeword_26 (by decide) (fun hb26_6 => ?_) (fun hb26_6 => ?_)
    · refine TT_ldc hK lc_X12_128 dX12_codeword_45 ?_
      refine TT_iret hK hQ ?_ dX12_codeword_47
      exact ⟨⟨hT_5, hF_5⟩, (-100000), rfl, (by omega)⟩
    · have mi := hmi b (by omega) (by omega)
      refine TT_aload_n hK rfl 0 rfl dX12_codeword_29 ?_
      refine gf_X12_63 hK (by decide) rfl (q := 89) rfl rfl dX12_codeword_30 ?_
      refine TT_aload_n hK rfl 0 rfl dX12_codeword_33 ?_
      refine gf_X12_66 hK (by decide) rfl (q := 90) rfl rfl dX12_codeword_34 ?_
      refine TT_iload_n hK rfl 1 rfl dX12_codeword_37 ?_
      refine TT_iald hK (o := 90) (n := 10) (by decide) rfl (by first | omega | (simp [up, setR] <;> omega)) (by first | omega | (simp [up, setR] <;> omega)) (v := (h 90) b) (rd_ (((hG_5.1 90 (by decide))).trans (((hG_2.1 90 (by decide))).trans (sOf_ne _ _ (by decide)))) rfl) dX12_codeword_38 ?_
      have r7 := ty_90 (i := b) (v := (h 90) b) hT_5 (rd_ (((hG_5.1 90 (by decide))).trans (((hG_2.1 90 (by decide))).trans (sOf_ne _ _ (by decide)))) rfl) (by omega) (by omega)
      refine TT_iload_n hK rfl 2 rfl dX12_codeword_39 ?_
      refine TT_iadd hK dX12_codeword_40 ?_
      refine TT_iald hK (o := 89) (n := 4400) (by decide) rfl (by first | omega | (simp [up, setR] <;> omega)) (by first | omega | (simp [up, setR] <;> omega)) (v := (h 89) (((h 90) b) + i)) (rd_ (((hG_5.1 89 (by decide))).trans (((hG_2.1 89 (by decide))).trans (sOf_ne _ _ (by decide)))) rfl) dX12_codeword_41 ?_
      have r8 := ty_89 (i := ((h 90) b) + i) (v := (h 89) (((h 90) b) + i)) hT_5 (rd_ (((hG_5.1 89 (by decide))).trans (((hG_2.1 89 (by decide))).trans (sOf_ne _ _ (by decide)))) rfl) (by omega) (by omega)
      refine TT_goto hK (tgt := 47) dX12_codeword_42 (by decide) ?_
      refine TT_iret hK hQ ?_ dX12_codeword_47
      exact ⟨⟨hT_5, hF_5⟩, ((h 89) (((h 90) b) + i)), rfl, (by omega)⟩
set_option maxRecDepth 20000 in
theorem s_X12_least_73 (b p : Int) (h : Hp_) (hT : TY h) (hb : -2147483648 ≤ b ∧ b ≤ 2147483647) (hp : -2147483648 ≤ p ∧ p ≤ 2147483647) : Ctr yX12_least cX12_least 3 (some .int) (rmd 2) ly ly 0 0 [vR 73, vI b, vI p] h (fun r h' => (TY h' ∧ FRM [73] [2] h h') ∧ ∃ z : Int, r = some (vI z) ∧ (-2147483648 ≤ z ∧ z ≤ 2147483647)) := by
  refine Ctr_of (by decide) (Nat.le_of_ble_eq_true rfl) ⟨Nat.le_refl _, Nat.le_refl _⟩ (fun K hK hQ _ => ?_)
  show TT K ly 0 0 0 [(0, vR 73), (1, vI b), (2, vI p)] [] h
  have hF : FRM [73] [2] h h := FRM_rf _ _ _
  refine TT_aload_n hK rfl 0 rfl dX12_least_0 ?_
  refine TT_iconst hK dX12_least_1 ?_
  refine pf_X12_117 hK (by decide) rfl dX12_least_2 ?_
  refine TT_hp (h' := setO h 73 (fup (h 73) 2 0)) (up_can rfl rfl rfl) ?_
  have hT_1 : TY (setO h 73 (fup (h 73) 2 0)) := tu_73_2 hT (show up h 73 2 0 = (setO h 73 (fup (h 73) 2 0)) from up_can rfl rfl rfl) (by omega)
  have hF_1 : FRM [73] [2] h (setO h 73 (fup (h 73) 2 0)) := FRM_f (show up h 73 2 0 = (setO h 73 (fup (h 73) 2 0)) from up_can rfl rfl rfl) hF (by decide) (by decide)
  refine TT_aload_n hK rfl 0 rfl dX12_least_5 ?_
  refine TT_iload_n hK rfl 1 rfl dX12_least_6 ?_
  refine iv_X12_361 hK (s_X12_isBand_73 b (setO h 73 (fup (h 73) 2 0)) hT_1 (by first | omega | (simp [up, setR] <;> omega))) (by decide) rfl ⟨by decide, by decide⟩ (by decide) rfl rfl (Nat.le_of_ble_eq_true rfl) ⟨by decide, by decide⟩ dX12_least_7 ?_
  intro r9 g7_2 hp9
  obtain ⟨⟨hT_2, hG_2⟩, z7_2, hr9, hz_2, p1_2⟩ := hp9
  rw [hr9]
  have hF_2 : FRM [73] [2] h g7_2 := FRM_tr hF_1 hG_2 (by decide) (by decide)
  rw [show (setO h 73 (fup (h 73) 2 0)) 73 18 = (h 73) 18 from rd_ (sOf_eq _ _ _) (fup_ne _ _ (by decide))] at p1_2
  show TT K ly 0 0 10 [(0, vR 73), (1, vI b), (2, vI p)] [vI z7_2] g7_2
  refine TT_if_eq hK (tgt := 40) (irm (by omega) (by omega)) dX12_least_10 (by decide) (fun hb10_3 => ?_) (fun hb10_3 => ?_)
  · refine TT_ldc hK lc_X12_128 dX12_least_40 ?_
    refine TT_iret hK hQ ?_ dX12_least_42
    exact ⟨⟨hT_2, hF_2⟩, (-100000), rfl, (by omega)⟩
  · refine TT_iload_n hK rfl 2 rfl dX12_least_13 ?_
    refine TT_iconst hK dX12_least_14 ?_
    refine TT_aload_n hK rfl 0 rfl dX12_least_15 ?_
    refine TT_iload_n hK rfl 1 rfl dX12_least_16 ?_
    refine iv_X12_296 hK (s_X12_passesOf_73 b g7_2 hT_2 (by first | omega | (simp [up, setR] <;> omega))) (by decide) rfl ⟨by decide, by decide⟩ (by decide) rfl rfl (Nat.le_of_ble_eq_true rfl) ⟨by decide, by decide⟩ dX12_least_17 ?_
    intro r9 g17_4 hp9
    obtain ⟨⟨hT_4, hG_4⟩, z17_4, hr9, hz_4, p1_4⟩ := hp9
    rw [hr9]
    have hF_4 : FRM [73] [2] h g17_4 := FRM_tr hF_2 hG_4 (by decide) (by decide)
    show TT K ly 0 0 20 [(0, vR 73), (1, vI b), (2, vI p)] [vI z17_4, vI 0, vI p] g17_4
    refine iv_X12_120 hK (s_X12_within p 0 z17_4 g17_4 hT_4 (by first | omega | (simp [up, setR] <;> omega)) (by first | omega | (simp [up, setR] <;> omega)) (by first | omega | (simp [up, setR] <;> omega))) ⟨by decide, by decide⟩ (by decide) rfl rfl (Nat.le_of_ble_eq_true rfl) ⟨by decide, by decide⟩ dX12_least_20 ?_
    intro r9 g20_5 hp9
    obtain ⟨⟨hT_5, hG_5⟩, z20_5, hr9, hz_5, p1_5, p2_5⟩ := hp9
    rw [hr9]
    have hF_5 : FRM [73] [2] h g20_5 := FRM_tr hF_4 hG_5 (by decide) (by decide)
    show TT K ly 0 0 23 [(0, vR 73), (1, vI b), (2, vI p)] [vI z20_5] g20_5
    refine TT_if_eq hK (tgt := 40) (irm (by omega) (by omega)) dX12_least_23 (by decide) (fun hb23_6 => ?_) (fun hb23_6 => ?_)
    · refine TT_ldc hK lc_X12_128 dX12_least_40 ?_
      refine TT_iret hK hQ ?_ dX12_least_42
      exact ⟨⟨hT_5, hF_5⟩, (-100000), rfl, (by omega)⟩
    · refine TT_aload_n hK rfl 0 rfl dX12_least_26 ?_
      refine gf_X12_72 hK (by decide) rfl (q := 92) rfl rfl dX12_least_27 ?_
      refine TT_bipush hK (by decide) dX12_least_30 ?_
      refine TT_iload_n hK rfl 1 rfl dX12_least_32 ?_
      refine TT_imul hK dX12_least_33 ?_
      refine TT_iload_n hK rfl 2 rfl dX12_least_34 ?_
      refine TT_iadd hK dX12_least_35 ?_
      refine TT_iald hK (o := 92) (n := 350) (by decide) rfl (by first | omega | (simp [up, setR] <;> omega)) (by first | omega | (simp [up, setR] <;> omega)) (v := (h 92) ((35 * b) + p)) (rd_ (((hG_5.1 92 (by decide))).trans (((hG_4.1 92 (by decide))).trans (((hG_2.1 92 (by decide))).trans (sOf_ne _ _ (by decide))))) rfl) dX12_least_36 ?_
      have r7 := ty_92 (i := (35 * b) + p) (v := (h 92) ((35 * b) + p)) hT_5 (rd_ (((hG_5.1 92 (by decide))).trans (((hG_4.1 92 (by decide))).trans (((hG_2.1 92 (by decide))).trans (sOf_ne _ _ (by decide))))) rfl) (by omega) (by omega)
      refine TT_goto hK (tgt := 42) dX12_least_37 (by decide) ?_
      refine TT_iret hK hQ ?_ dX12_least_42
      exact ⟨⟨hT_5, hF_5⟩, ((h 92) ((35 * b) + p)), rfl, (by omega)⟩
set_option maxRecDepth 20000 in
theorem s_X12_decoded_73 (x y : Int) (h : Hp_) (hT : TY h) (hx : -2147483648 ≤ x ∧ x ≤ 2147483647) (hy : -2147483648 ≤ y ∧ y ≤ 2147483647) : Ctr yX12_decoded cX12_decoded 3 (some .int) (rmd 1) ly ly 0 0 [vR 73, vI x, vI y] h (fun r h' => (TY h' ∧ FRM [73] [2] h h') ∧ ∃ z : Int, r = some (vI z) ∧ (-2147483648 ≤ z ∧ z ≤ 2147483647)) := by
  refine Ctr_of (by decide) (Nat.le_of_ble_eq_true rfl) ⟨Nat.le_refl _, Nat.le_refl _⟩ (fun K hK hQ _ => ?_)
  show TT K ly 0 0 0 [(0, vR 73), (1, vI x), (2, vI y)] [] h
  have hF : FRM [73] [2] h h := FRM_rf _ _ _
  refine TT_aload_n hK rfl 0 rfl dX12_decoded_0 ?_
  refine TT_iconst hK dX12_decoded_1 ?_
  refine pf_X12_117 hK (by decide) rfl dX12_decoded_2 ?_
  refine TT_hp (h' := setO h 73 (fup (h 73) 2 0)) (up_can rfl rfl rfl) ?_
  have hT_1 : TY (setO h 73 (fup (h 73) 2 0)) := tu_73_2 hT (show up h 73 2 0 = (setO h 73 (fup (h 73) 2 0)) from up_can rfl rfl rfl) (by omega)
  have hF_1 : FRM [73] [2] h (setO h 73 (fup (h 73) 2 0)) := FRM_f (show up h 73 2 0 = (setO h 73 (fup (h 73) 2 0)) from up_can rfl rfl rfl) hF (by decide) (by decide)
  refine TT_iload_n hK rfl 1 rfl dX12_decoded_5 ?_
  refine TT_iconst hK dX12_decoded_6 ?_
  refine TT_aload_n hK rfl 0 rfl dX12_decoded_7 ?_
  refine gf_X12_392 hK (by decide) rfl (v := (h 73) 51) (rd_ (sOf_eq _ _ _) (fup_ne _ _ (by decide))) dX12_decoded_8 ?_
  have r2 := ty_73_51 (v := (h 73) 51) hT_1 (rd_ (sOf_eq _ _ _) (fup_ne _ _ (by decide)))
  refine TT_iconst hK dX12_decoded_11 ?_
  refine TT_isub hK dX12_decoded_12 ?_
  refine iv_X12_120 hK (s_X12_within x 0 (((h 73) 51) - 1) (setO h 73 (fup (h 73) 2 0)) hT_1 (by first | omega | (simp [up, setR] <;> omega)) (by first | omega | (simp [up, setR] <;> omega)) (by first | omega | (simp [up, setR] <;> omega))) ⟨by decide, by decide⟩ (by decide) rfl rfl (Nat.le_of_ble_eq_true rfl) ⟨by decide, by decide⟩ dX12_decoded_13 ?_
  intro r9 g13_3 hp9
  obtain ⟨⟨hT_3, hG_3⟩, z13_3, hr9, hz_3, p1_3, p2_3⟩ := hp9
  rw [hr9]
  have hF_3 : FRM [73] [2] h g13_3 := FRM_tr hF_1 hG_3 (by decide) (by decide)
  show TT K ly 0 0 16 [(0, vR 73), (1, vI x), (2, vI y)] [vI z13_3] g13_3
  refine TT_if_eq hK (tgt := 47) (irm (by omega) (by omega)) dX12_decoded_16 (by decide) (fun hb16_4 => ?_) (fun hb16_4 => ?_)
  · refine TT_ldc hK lc_X12_128 dX12_decoded_47 ?_
    refine TT_iret hK hQ ?_ dX12_decoded_49
    exact ⟨⟨hT_3, hF_3⟩, (-100000), rfl, (by omega)⟩
  · refine TT_iload_n hK rfl 2 rfl dX12_decoded_19 ?_
    refine TT_iconst hK dX12_decoded_20 ?_
    refine TT_aload_n hK rfl 0 rfl dX12_decoded_21 ?_
    refine gf_X12_395 hK (by decide) rfl (v := (h 73) 52) ((congrFun (hG_3.1 73 (by decide)) 52).trans (rd_ (sOf_eq _ _ _) (fup_ne _ _ (by decide)))) dX12_decoded_22 ?_
    have r5 := ty_73_52 (v := (h 73) 52) hT_3 ((congrFun (hG_3.1 73 (by decide)) 52).trans (rd_ (sOf_eq _ _ _) (fup_ne _ _ (by decide))))
    refine TT_iconst hK dX12_decoded_25 ?_
    refine TT_isub hK dX12_decoded_26 ?_
    refine iv_X12_120 hK (s_X12_within y 0 (((h 73) 52) - 1) g13_3 hT_3 (by first | omega | (simp [up, setR] <;> omega)) (by first | omega | (simp [up, setR] <;> omega)) (by first | omega | (simp [up, setR] <;> omega))) ⟨by decide, by decide⟩ (by decide) rfl rfl (Nat.le_of_ble_eq_true rfl) ⟨by decide, by decide⟩ dX12_decoded_27 ?_
    intro r9 g27_6 hp9
    obtain ⟨⟨hT_6, hG_6⟩, z27_6, hr9, hz_6, p1_6, p2_6⟩ := hp9
    rw [hr9]
    have hF_6 : FRM [73] [2] h g27_6 := FRM_tr hF_3 hG_6 (by decide) (by decide)
    show TT K ly 0 0 30 [(0, vR 73), (1, vI x), (2, vI y)] [vI z27_6] g27_6
    refine TT_if_eq hK (tgt := 47) (irm (by omega) (by omega)) dX12_decoded_30 (by decide) (fun hb30_7 => ?_) (fun hb30_7 => ?_)
    · refine TT_ldc hK lc_X12_128 dX12_decoded_47 ?_
      refine TT_iret hK hQ ?_ dX12_decoded_49
      exact ⟨⟨hT_6, hF_6⟩, (-100000), rfl, (by omega)⟩
    · refine TT_aload_n hK rfl 0 rfl dX12_decoded_33 ?_
      refine gf_X12_111 hK (by decide) rfl (q := 105) rfl rfl dX12_decoded_34 ?_
      refine TT_bipush hK (by decide) dX12_decoded_37 ?_
      refine TT_iload_n hK rfl 2 rfl dX12_decoded_39 ?_
      refine TT_imul hK dX12_decoded_40 ?_
      refine TT_iload_n hK rfl 1 rfl dX12_decoded_41 ?_
      refine TT_iadd hK dX12_decoded_42 ?_
      refine TT_iald hK (o := 105) (n := 64) (by decide) rfl (by first | omega | (simp [up, setR] <;> omega)) (by first | omega | (simp [up, setR] <;> omega)) (v := (h 105) ((8 * y) + x)) (rd_ (((hG_6.1 105 (by decide))).trans (((hG_3.1 105 (by decide))).trans (sOf_ne _ _ (by decide)))) rfl) dX12_decoded_43 ?_
      have r8 := ty_105 (i := (8 * y) + x) (v := (h 105) ((8 * y) + x)) hT_6 (rd_ (((hG_6.1 105 (by decide))).trans (((hG_3.1 105 (by decide))).trans (sOf_ne _ _ (by decide)))) rfl) (by omega) (by omega)
      refine TT_goto hK (tgt := 49) dX12_decoded_44 (by decide) ?_
      refine TT_iret hK hQ ?_ dX12_decoded_49
      exact ⟨⟨hT_6, hF_6⟩, ((h 105) ((8 * y) + x)), rfl, (by omega)⟩
set_option maxRecDepth 20000 in
theorem s_X12_taken_73 (b : Int) (h : Hp_) (hT : TY h) (hb : -2147483648 ≤ b ∧ b ≤ 2147483647) : Ctr yX12_taken cX12_taken 2 (some .int) (rmd 1) ly ly 0 0 [vR 73, vI b] h (fun r h' => (TY h' ∧ FRM [73] [2] h h') ∧ ∃ z : Int, r = some (vI z) ∧ (-2147483648 ≤ z ∧ z ≤ 2147483647)) := by
  refine Ctr_of (by decide) (Nat.le_of_ble_eq_true rfl) ⟨Nat.le_refl _, Nat.le_refl _⟩ (fun K hK hQ _ => ?_)
  show TT K ly 0 0 0 [(0, vR 73), (1, vI b)] [] h
  have hF : FRM [73] [2] h h := FRM_rf _ _ _
  refine TT_aload_n hK rfl 0 rfl dX12_taken_0 ?_
  refine TT_iconst hK dX12_taken_1 ?_
  refine pf_X12_117 hK (by decide) rfl dX12_taken_2 ?_
  refine TT_hp (h' := setO h 73 (fup (h 73) 2 0)) (up_can rfl rfl rfl) ?_
  have hT_1 : TY (setO h 73 (fup (h 73) 2 0)) := tu_73_2 hT (show up h 73 2 0 = (setO h 73 (fup (h 73) 2 0)) from up_can rfl rfl rfl) (by omega)
  have hF_1 : FRM [73] [2] h (setO h 73 (fup (h 73) 2 0)) := FRM_f (show up h 73 2 0 = (setO h 73 (fup (h 73) 2 0)) from up_can rfl rfl rfl) hF (by decide) (by decide)
  refine TT_iload_n hK rfl 1 rfl dX12_taken_5 ?_
  refine TT_iconst hK dX12_taken_6 ?_
  refine TT_aload_n hK rfl 0 rfl dX12_taken_7 ?_
  refine gf_X12_398 hK (by decide) rfl (v := (h 73) 55) (rd_ (sOf_eq _ _ _) (fup_ne _ _ (by decide))) dX12_taken_8 ?_
  have r2 := ty_73_55 (v := (h 73) 55) hT_1 (rd_ (sOf_eq _ _ _) (fup_ne _ _ (by decide)))
  refine TT_iconst hK dX12_taken_11 ?_
  refine TT_isub hK dX12_taken_12 ?_
  refine iv_X12_120 hK (s_X12_within b 0 (((h 73) 55) - 1) (setO h 73 (fup (h 73) 2 0)) hT_1 (by first | omega | (simp [up, setR] <;> omega)) (by first | omega | (simp [up, setR] <;> omega)) (by first | omega | (simp [up, setR] <;> omega))) ⟨by decide, by decide⟩ (by decide) rfl rfl (Nat.le_of_ble_eq_true rfl) ⟨by decide, by decide⟩ dX12_taken_13 ?_
  intro r9 g13_3 hp9
  obtain ⟨⟨hT_3, hG_3⟩, z13_3, hr9, hz_3, p1_3, p2_3⟩ := hp9
  rw [hr9]
  have hF_3 : FRM [73] [2] h g13_3 := FRM_tr hF_1 hG_3 (by decide) (by decide)
  show TT K ly 0 0 16 [(0, vR 73), (1, vI b)] [vI z13_3] g13_3
  refine TT_if_eq hK (tgt := 28) (irm (by omega) (by omega)) dX12_taken_16 (by decide) (fun hb16_4 => ?_) (fun hb16_4 => ?_)
  · refine TT_ldc hK lc_X12_128 dX12_taken_28 ?_
    refine TT_iret hK hQ ?_ dX12_taken_30
    exact ⟨⟨hT_3, hF_3⟩, (-100000), rfl, (by omega)⟩
  · refine TT_aload_n hK rfl 0 rfl dX12_taken_19 ?_
    refine gf_X12_114 hK (by decide) rfl (q := 106) rfl rfl dX12_taken_20 ?_
    refine TT_iload_n hK rfl 1 rfl dX12_taken_23 ?_
    refine TT_iald hK (o := 106) (n := 10) (by decide) rfl (by first | omega | (simp [up, setR] <;> omega)) (by first | omega | (simp [up, setR] <;> omega)) (v := (h 106) b) (rd_ (((hG_3.1 106 (by decide))).trans (sOf_ne _ _ (by decide))) rfl) dX12_taken_24 ?_
    have r5 := ty_106 (i := b) (v := (h 106) b) hT_3 (rd_ (((hG_3.1 106 (by decide))).trans (sOf_ne _ _ (by decide))) rfl) (by omega) (by omega)
    refine TT_goto hK (tgt := 30) dX12_taken_25 (by decide) ?_
    refine TT_iret hK hQ ?_ dX12_taken_30
    exact ⟨⟨hT_3, hF_3⟩, ((h 106) b), rfl, (by omega)⟩
set_option maxRecDepth 20000 in
theorem s_X12_difference_73 (h : Hp_) (hT : TY h)  : Ctr yX12_difference cX12_difference 5 (some .int) (rmd 0) ly ly 0 0 [vR 73] h (fun r h' => (TY h' ∧ FRM [73] [2] h h') ∧ ∃ z : Int, r = some (vI z) ∧ (-2147483648 ≤ z ∧ z ≤ 2147483647)) := by
  refine Ctr_of (by decide) (Nat.le_of_ble_eq_true rfl) ⟨Nat.le_refl _, Nat.le_refl _⟩ (fun K hK hQ _ => ?_)
  show TT K ly 0 0 0 [(0, vR 73)] [] h
  have hF : FRM [73] [2] h h := FRM_rf _ _ _
  refine TT_aload_n hK rfl 0 rfl dX12_difference_0 ?_
  refine TT_iconst hK dX12_difference_1 ?_
  refine pf_X12_117 hK (by decide) rfl dX12_difference_2 ?_
  refine TT_hp (h' := setO h 73 (fup (h 73) 2 0)) (up_can rfl rfl rfl) ?_
  have hT_1 : TY (setO h 73 (fup (h 73) 2 0)) := tu_73_2 hT (show up h 73 2 0 = (setO h 73 (fup (h 73) 2 0)) from up_can rfl rfl rfl) (by omega)
  have hF_1 : FRM [73] [2] h (setO h 73 (fup (h 73) 2 0)) := FRM_f (show up h 73 2 0 = (setO h 73 (fup (h 73) 2 0)) from up_can rfl rfl rfl) hF (by decide) (by decide)
  refine TT_aload_n hK rfl 0 rfl dX12_difference_5 ?_
  refine gf_X12_16 hK (by decide) rfl (v := (h 73) 3) (rd_ (sOf_eq _ _ _) (fup_ne _ _ (by decide))) dX12_difference_6 ?_
  have r2 := ty_73_3 (v := (h 73) 3) hT_1 (rd_ (sOf_eq _ _ _) (fup_ne _ _ (by decide)))
  refine TT_aload_n hK rfl 0 rfl dX12_difference_9 ?_
  refine gf_X12_392 hK (by decide) rfl (v := (h 73) 51) (rd_ (sOf_eq _ _ _) (fup_ne _ _ (by decide))) dX12_difference_10 ?_
  have r3 := ty_73_51 (v := (h 73) 51) hT_1 (rd_ (sOf_eq _ _ _) (fup_ne _ _ (by decide)))
  refine TT_icmp_ne hK (tgt := 27) (irm (by omega) (by omega)) (irm (by omega) (by omega)) dX12_difference_13 (by decide) (fun hb13_4 => ?_) (fun hb13_4 => ?_)
  · refine TT_ldc hK lc_X12_128 dX12_difference_27 ?_
    refine TT_iret hK hQ ?_ dX12_difference_29
    exact ⟨⟨hT_1, hF_1⟩, (-100000), rfl, (by omega)⟩
  · refine TT_aload_n hK rfl 0 rfl dX12_difference_16 ?_
    refine gf_X12_20 hK (by decide) rfl (v := (h 73) 4) (rd_ (sOf_eq _ _ _) (fup_ne _ _ (by decide))) dX12_difference_17 ?_
    have r5 := ty_73_4 (v := (h 73) 4) hT_1 (rd_ (sOf_eq _ _ _) (fup_ne _ _ (by decide)))
    refine TT_aload_n hK rfl 0 rfl dX12_difference_20 ?_
    refine gf_X12_395 hK (by decide) rfl (v := (h 73) 52) (rd_ (sOf_eq _ _ _) (fup_ne _ _ (by decide))) dX12_difference_21 ?_
    have r6 := ty_73_52 (v := (h 73) 52) hT_1 (rd_ (sOf_eq _ _ _) (fup_ne _ _ (by decide)))
    refine TT_icmp_eq hK (tgt := 30) (irm (by omega) (by omega)) (irm (by omega) (by omega)) dX12_difference_24 (by decide) (fun hb24_7 => ?_) (fun hb24_7 => ?_)
    · refine TT_iconst hK dX12_difference_30 ?_
      refine TT_istore_n hK rfl (lv' := [(1, vI 0), (0, vR 73)]) (by decide) rfl dX12_difference_31 ?_
      refine TT_iconst hK dX12_difference_32 ?_
      refine TT_istore_n hK rfl (lv' := [(2, vI 0), (1, vI 0), (0, vR 73)]) (by decide) rfl dX12_difference_33 ?_
      have L34_8 : ∀ (k8 : Nat) (mo : Int) (y : Int) (w34_8 : Hp_), TY w34_8 → FRM [73] [2] h w34_8 → (0 ≤ mo ∧ mo ≤ 255) → (0 ≤ y ∧ y ≤ 8) → ((8 : Int) - y).toNat < k8 → TT K ly 0 0 34 [(0, vR 73), (1, vI mo), (2, vI y)] [] w34_8 := by
        intro k8
        induction k8 with
        | zero => intro mo y w34_8 hT34_8 hF34_8 hmo hy hk8; exact absurd hk8 (Nat.not_lt_zero _)
        | succ k8 ih8 =>
          intro mo y w34_8 hT34_8 hF34_8 hmo hy hk8
          refine TT_iload_n hK rfl 2 rfl dX12_difference_34 ?_
          refine TT_aload_n hK rfl 0 rfl dX12_difference_35 ?_
          refine gf_X12_20 hK (by decide) rfl (v := (h 73) 4) (hF34_8.2 4 (by decide)) dX12_difference_36 ?_
          have r9 := ty_73_4 (v := (h 73) 4) hT34_8 (hF34_8.2 4 (by decide))
          refine TT_icmp_ge hK (tgt := 117) (irm (by omega) (by omega)) (irm (by omega) (by omega)) dX12_difference_39 (by decide) (fun hb39_10 => ?_) (fun hb39_10 => ?_)
          · refine TT_iload_n hK rfl 1 rfl dX12_difference_117 ?_
            refine TT_iret hK hQ ?_ dX12_difference_118
            exact ⟨⟨hT34_8, hF34_8⟩, mo, rfl, (by omega)⟩
          · refine TT_iconst hK dX12_difference_42 ?_
            refine TT_istore_n hK rfl (lv' := [(3, vI 0), (0, vR 73), (1, vI mo), (2, vI y)]) (by decide) rfl dX12_difference_43 ?_
            have L44_11 : ∀ (k11 : Nat) (mo2 : Int) (x : Int) (w44_11 : Hp_), TY w44_11 → FRM [73] [2] h w44_11 → (0 ≤ mo2 ∧ mo2 ≤ 255) → (0 ≤ x ∧ x ≤ 8) → ((8 : Int) - x).toNat < k11 → TT K ly 0 0 44 [(0, vR 73), (1, vI mo2), (2, vI y), (3, vI x)] [] w44_11 := by
              intro k11
              induction k11 with
              | zero => intro mo2 x w44_11 hT44_11 hF44_11 hmo2 hx hk11; exact absurd hk11 (Nat.not_lt_zero _)
              | succ k11 ih11 =>
                intro mo2 x w44_11 hT44_11 hF44_11 hmo2 hx hk11
                refine TT_iload_n hK rfl 3 rfl dX12_difference_44 ?_
                refine TT_aload_n hK rfl 0 rfl dX12_difference_45 ?_
                refine gf_X12_16 hK (by decide) rfl (v := (h 73) 3) (hF44_11.2 3 (by decide)) dX12_difference_46 ?_
                have r12 := ty_73_3 (v := (h 73) 3) hT44_11 (hF44_11.2 3 (by decide))
                refine TT_icmp_ge hK (tgt := 111) (irm (by omega) (by omega)) (irm (by omega) (by omega)) dX12_difference_49 (by decide) (fun hb49_13 => ?_) (fun hb49_13 => ?_)
                · refine TT_iinc hK (v := y + 1) (lv' := [(2, vI (y + 1)), (0, vR 73), (1, vI mo2), (3, vI x)]) 2 rfl rfl (by decide) rfl dX12_difference_111 ?_
                  refine TT_goto hK (tgt := 34) dX12_difference_114 (by decide) ?_
                  refine TT_sub [1, 2, 0] rfl ?_
                  exact ih8 mo2 (y + 1) w44_11 hT44_11 hF44_11 (by first | omega | (simp [up, setR] <;> omega)) (by first | omega | (simp [up, setR] <;> omega)) (by first | omega | (simp [up, setR] <;> omega))
                · have J92_14 : ∀ (d : Int), (0 ≤ d ∧ d ≤ 255) → TT K ly 0 0 92 [(0, vR 73), (1, vI mo2), (2, vI y), (3, vI x), (4, vI d)] [] w44_11 := by
                    intro d hd
                    refine TT_iload hK 4 rfl dX12_difference_92 ?_
                    refine TT_iload_n hK rfl 1 rfl dX12_difference_94 ?_
                    refine TT_icmp_le hK (tgt := 103) (irm (by omega) (by omega)) (irm (by omega) (by omega)) dX12_difference_95 (by decide) (fun hb95_15 => ?_) (fun hb95_15 => ?_)
                    · refine TT_iload_n hK rfl 1 rfl dX12_difference_103 ?_
                      refine TT_istore_n hK rfl (lv' := [(1, vI mo2), (0, vR 73), (2, vI y), (3, vI x), (4, vI d)]) (by decide) rfl dX12_difference_104 ?_
                      refine TT_iinc hK (v := x + 1) (lv' := [(3, vI (x + 1)), (1, vI mo2), (0, vR 73), (2, vI y), (4, vI d)]) 3 rfl rfl (by decide) rfl dX12_difference_105 ?_
                      refine TT_goto hK (tgt := 44) dX12_difference_108 (by decide) ?_
                      refine TT_sub [2, 1, 3, 0] rfl ?_
                      exact ih11 mo2 (x + 1) w44_11 hT44_11 hF44_11 (by first | omega | (simp [up, setR] <;> omega)) (by first | omega | (simp [up, setR] <;> omega)) (by first | omega | (simp [up, setR] <;> omega))
                    · refine TT_iload hK 4 rfl dX12_difference_98 ?_
                      refine TT_goto hK (tgt := 104) dX12_difference_100 (by decide) ?_
                      refine TT_istore_n hK rfl (lv' := [(1, vI d), (0, vR 73), (2, vI y), (3, vI x), (4, vI d)]) (by decide) rfl dX12_difference_104 ?_
                      refine TT_iinc hK (v := x + 1) (lv' := [(3, vI (x + 1)), (1, vI d), (0, vR 73), (2, vI y), (4, vI d)]) 3 rfl rfl (by decide) rfl dX12_difference_105 ?_
                      refine TT_goto hK (tgt := 44) dX12_difference_108 (by decide) ?_
                      refine TT_sub [2, 1, 3, 0] rfl ?_
                      exact ih11 d (x + 1) w44_11 hT44_11 hF44_11 (by first | omega | (simp [up, setR] <;> omega)) (by first | omega | (simp [up, setR] <;> omega)) (by first | omega | (simp [up, setR] <;> omega))
                  refine TT_aload_n hK rfl 0 rfl dX12_difference_52 ?_
                  refine gf_X12_23 hK (by decide) rfl (q := 76) rfl rfl dX12_difference_53 ?_
                  refine TT_bipush hK (by decide) dX12_difference_56 ?_
                  refine TT_iload_n hK rfl 2 rfl dX12_difference_58 ?_
                  refine TT_imul hK dX12_difference_59 ?_
                  refine TT_iload_n hK rfl 3 rfl dX12_difference_60 ?_
                  refine TT_iadd hK dX12_difference_61 ?_
                  refine TT_iald hK (o := 76) (n := 64) (by decide) rfl (by first | omega | (simp [up, setR] <;> omega)) (by first | omega | (simp [up, setR] <;> omega)) (v := (h 76) ((8 * y) + x)) (rd_ (hF44_11.1 76 (by decide)) rfl) dX12_difference_62 ?_
                  have r16 := ty_76 (i := (8 * y) + x) (v := (h 76) ((8 * y) + x)) hT44_11 (rd_ (hF44_11.1 76 (by decide)) rfl) (by omega) (by omega)
                  refine TT_aload_n hK rfl 0 rfl dX12_difference_63 ?_
                  refine gf_X12_111 hK (by decide) rfl (q := 105) rfl rfl dX12_difference_64 ?_
                  refine TT_bipush hK (by decide) dX12_difference_67 ?_
                  refine TT_iload_n hK rfl 2 rfl dX12_difference_69 ?_
                  refine TT_imul hK dX12_difference_70 ?_
                  refine TT_iload_n hK rfl 3 rfl dX12_difference_71 ?_
                  refine TT_iadd hK dX12_difference_72 ?_
                  refine TT_iald hK (o := 105) (n := 64) (by decide) rfl (by first | omega | (simp [up, setR] <;> omega)) (by first | omega | (simp [up, setR] <;> omega)) (v := (h 105) ((8 * y) + x)) (rd_ (hF44_11.1 105 (by decide)) rfl) dX12_difference_73 ?_
                  have r17 := ty_105 (i := (8 * y) + x) (v := (h 105) ((8 * y) + x)) hT44_11 (rd_ (hF44_11.1 105 (by decide)) rfl) (by omega) (by omega)
                  refine TT_isub hK dX12_difference_74 ?_
                  refine TT_istore hK (lv' := [(4, vI (((h 76) ((8 * y) + x)) - ((h 105) ((8 * y) + x)))), (0, vR 73), (1, vI mo2), (2, vI y), (3, vI x)]) (by decide) rfl dX12_difference_75 ?_
                  refine TT_iload hK 0 rfl dX12_difference_77 ?_
                  refine TT_if_ge hK (tgt := 88) (irm (by omega) (by omega)) dX12_difference_79 (by decide) (fun hb79_18 => ?_) (fun hb79_18 => ?_)
                  · refine TT_iload hK 0 rfl dX12_difference_88 ?_
                    refine TT_istore hK (lv' := [(4, vI (((h 76) ((8 * y) + x)) - ((h 105) ((8 * y) + x)))), (0, vR 73), (1, vI mo2), (2, vI y), (3, vI x)]) (by decide) rfl dX12_difference_90 ?_
                    refine TT_sub [1, 2, 3, 4, 0] rfl ?_
                    exact J92_14 (((h 76) ((8 * y) + x)) - ((h 105) ((8 * y) + x))) (by first | omega | (simp [up, setR] <;> omega))
                  · refine TT_iload hK 0 rfl dX12_difference_82 ?_
                    refine TT_ineg hK dX12_difference_84 ?_
                    refine TT_goto hK (tgt := 90) dX12_difference_85 (by decide) ?_
                    refine TT_istore hK (lv' := [(4, vI (-(((h 76) ((8 * y) + x)) - ((h 105) ((8 * y) + x))))), (0, vR 73), (1, vI mo2), (2, vI y), (3, vI x)]) (by decide) rfl dX12_difference_90 ?_
                    refine TT_sub [1, 2, 3, 4, 0] rfl ?_
                    exact J92_14 (-(((h 76) ((8 * y) + x)) - ((h 105) ((8 * y) + x)))) (by first | omega | (simp [up, setR] <;> omega))
            refine TT_sub [1, 2, 3, 0] rfl ?_
            exact L44_11 ((((8 : Int) - 0).toNat) + 1) mo 0 w34_8 hT34_8 hF34_8 (by first | omega | (simp [up, setR] <;> omega)) (by first | omega | (simp [up, setR] <;> omega)) (Nat.lt_succ_self _)
      refine TT_sub [2, 1, 0] rfl ?_
      exact L34_8 ((((8 : Int) - 0).toNat) + 1) 0 0 (setO h 73 (fup (h 73) 2 0)) hT_1 hF_1 (by first | omega | (simp [up, setR] <;> omega)) (by first | omega | (simp [up, setR] <;> omega)) (Nat.lt_succ_self _)
    · refine TT_ldc hK lc_X12_128 dX12_difference_27 ?_
      refine TT_iret hK hQ ?_ dX12_difference_29
      exact ⟨⟨hT_1, hF_1⟩, (-100000), rfl, (by omega)⟩
set_option maxRecDepth 20000 in
theorem s_X12_picture_73 (w e : Int) (h : Hp_) (hT : TY h) (hw : -2147483648 ≤ w ∧ w ≤ 2147483647) (he : -2147483648 ≤ e ∧ e ≤ 2147483647) : Ctr yX12_picture cX12_picture 4 none (rmd 1) ly ly 0 0 [vR 73, vI w, vI e] h (fun r h' => (TY h' ∧ FRM [73, 76] [2, 3, 4] h h') ∧ r = none ∧ (((h' 73 2) = 0 ∧ (1 ≤ w ∧ w ≤ 8) ∧ (1 ≤ e ∧ e ≤ 8) ∧ (h' 73 3) = w ∧ (h' 73 4) = e) ∨ ((h' 73 2) = 1 ∧ ¬ ((1 ≤ w ∧ w ≤ 8) ∧ (1 ≤ e ∧ e ≤ 8)) ∧ (h' 73 3) = (h 73 3) ∧ (h' 73 4) = (h 73 4)))) := by
  refine Ctr_of (by decide) (Nat.le_of_ble_eq_true rfl) ⟨Nat.le_refl _, Nat.le_refl _⟩ (fun K hK hQ _ => ?_)
  show TT K ly 0 0 0 [(0, vR 73), (1, vI w), (2, vI e)] [] h
  have hF : FRM [73, 76] [2, 3, 4] h h := FRM_rf _ _ _
  refine TT_aload_n hK rfl 0 rfl dX12_picture_0 ?_
  refine TT_iload_n hK rfl 1 rfl dX12_picture_1 ?_
  refine TT_iconst hK dX12_picture_2 ?_
  refine TT_bipush hK (by decide) dX12_picture_3 ?_
  refine iv_X12_120 hK (s_X12_within w 1 8 h hT (by first | omega | (simp [up, setR] <;> omega)) (by first | omega | (simp [up, setR] <;> omega)) (by first | omega | (simp [up, setR] <;> omega))) ⟨by decide, by decide⟩ (by decide) rfl rfl (Nat.le_of_ble_eq_true rfl) ⟨by decide, by decide⟩ dX12_picture_5 ?_
  intro r9 g5_1 hp9
  obtain ⟨⟨hT_1, hG_1⟩, z5_1, hr9, hz_1, p1_1, p2_1⟩ := hp9
  rw [hr9]
  have hF_1 : FRM [73, 76] [2, 3, 4] h g5_1 := FRM_tr hF hG_1 (by decide) (by decide)
  show TT K ly 0 0 8 [(0, vR 73), (1, vI w), (2, vI e)] [vI z5_1, vR 73] g5_1
  refine TT_if_eq hK (tgt := 25) (irm (by omega) (by omega)) dX12_picture_8 (by decide) (fun hb8_2 => ?_) (fun hb8_2 => ?_)
  · refine TT_iconst hK dX12_picture_25 ?_
    refine pf_X12_117 hK (by decide) rfl dX12_picture_26 ?_
    refine TT_hp (h' := setO g5_1 73 (fup (h 73) 2 1)) (up_can (hG_1.1 73 (by decide)) rfl rfl) ?_
    have hT_3 : TY (setO g5_1 73 (fup (h 73) 2 1)) := tu_73_2 hT_1 (show up g5_1 73 2 1 = (setO g5_1 73 (fup (h 73) 2 1)) from up_can (hG_1.1 73 (by decide)) rfl rfl) (by omega)
    have hF_3 : FRM [73, 76] [2, 3, 4] h (setO g5_1 73 (fup (h 73) 2 1)) := FRM_f (show up g5_1 73 2 1 = (setO g5_1 73 (fup (h 73) 2 1)) from up_can (hG_1.1 73 (by decide)) rfl rfl) hF_1 (by decide) (by decide)
    refine TT_aload_n hK rfl 0 rfl dX12_picture_29 ?_
    refine gf_X12_117 hK (by decide) rfl (v := 1) (rd_ (sOf_eq _ _ _) (fup_eq _ _ _)) dX12_picture_30 ?_
    refine TT_if_ne hK (tgt := 67) (by decide) dX12_picture_33 (by decide) (fun hb33_4 => ?_) (fun hb33_4 => ?_)
    · refine TT_vret hK hQ ?_ dX12_picture_67
      have e5_73_2 : (setO g5_1 73 (fup (h 73) 2 1)) 73 2 = 1 := rd_ (sOf_eq _ _ _) (fup_eq _ _ _)
      have e6_73_3 : (setO g5_1 73 (fup (h 73) 2 1)) 73 3 = (h 73) 3 := rd_ (sOf_eq _ _ _) (fup_ne _ _ (by decide))
      have e7_73_4 : (setO g5_1 73 (fup (h 73) 2 1)) 73 4 = (h 73) 4 := rd_ (sOf_eq _ _ _) (fup_ne _ _ (by decide))
      exact ⟨⟨hT_3, hF_3⟩, rfl, (by rewrite [e5_73_2, e6_73_3, e7_73_4]; omega)⟩
    · exact absurd hb33_4 (by decide)
  · refine TT_iload_n hK rfl 2 rfl dX12_picture_11 ?_
    refine TT_iconst hK dX12_picture_12 ?_
    refine TT_bipush hK (by decide) dX12_picture_13 ?_
    refine iv_X12_120 hK (s_X12_within e 1 8 g5_1 hT_1 (by first | omega | (simp [up, setR] <;> omega)) (by first | omega | (simp [up, setR] <;> omega)) (by first | omega | (simp [up, setR] <;> omega))) ⟨by decide, by decide⟩ (by decide) rfl rfl (Nat.le_of_ble_eq_true rfl) ⟨by decide, by decide⟩ dX12_picture_15 ?_
    intro r9 g15_8 hp9
    obtain ⟨⟨hT_8, hG_8⟩, z15_8, hr9, hz_8, p1_8, p2_8⟩ := hp9
    rw [hr9]
    have hF_8 : FRM [73, 76] [2, 3, 4] h g15_8 := FRM_tr hF_1 hG_8 (by decide) (by decide)
    show TT K ly 0 0 18 [(0, vR 73), (1, vI w), (2, vI e)] [vI z15_8, vR 73] g15_8
    refine TT_if_eq hK (tgt := 25) (irm (by omega) (by omega)) dX12_picture_18 (by decide) (fun hb18_9 => ?_) (fun hb18_9 => ?_)
    · refine TT_iconst hK dX12_picture_25 ?_
      refine pf_X12_117 hK (by decide) rfl dX12_picture_26 ?_
      refine TT_hp (h' := setO g15_8 73 (fup (h 73) 2 1)) (up_can (((hG_8.1 73 (by decide))).trans (hG_1.1 73 (by decide))) rfl rfl) ?_
      have hT_10 : TY (setO g15_8 73 (fup (h 73) 2 1)) := tu_73_2 hT_8 (show up g15_8 73 2 1 = (setO g15_8 73 (fup (h 73) 2 1)) from up_can (((hG_8.1 73 (by decide))).trans (hG_1.1 73 (by decide))) rfl rfl) (by omega)
      have hF_10 : FRM [73, 76] [2, 3, 4] h (setO g15_8 73 (fup (h 73) 2 1)) := FRM_f (show up g15_8 73 2 1 = (setO g15_8 73 (fup (h 73) 2 1)) from up_can (((hG_8.1 73 (by decide))).trans (hG_1.1 73 (by decide))) rfl rfl) hF_8 (by decide) (by decide)
      refine TT_aload_n hK rfl 0 rfl dX12_picture_29 ?_
      refine gf_X12_117 hK (by decide) rfl (v := 1) (rd_ (sOf_eq _ _ _) (fup_eq _ _ _)) dX12_picture_30 ?_
      refine TT_if_ne hK (tgt := 67) (by decide) dX12_picture_33 (by decide) (fun hb33_11 => ?_) (fun hb33_11 => ?_)
      · refine TT_vret hK hQ ?_ dX12_picture_67
        have e12_73_2 : (setO g15_8 73 (fup (h 73) 2 1)) 73 2 = 1 := rd_ (sOf_eq _ _ _) (fup_eq _ _ _)
        have e13_73_3 : (setO g15_8 73 (fup (h 73) 2 1)) 73 3 = (h 73) 3 := rd_ (sOf_eq _ _ _) (fup_ne _ _ (by decide))
        have e14_73_4 : (setO g15_8 73 (fup (h 73) 2 1)) 73 4 = (h 73) 4 := rd_ (sOf_eq _ _ _) (fup_ne _ _ (by decide))
        exact ⟨⟨hT_10, hF_10⟩, rfl, (by rewrite [e12_73_2, e13_73_3, e14_73_4]; omega)⟩
      · exact absurd hb33_11 (by decide)
    · refine TT_iconst hK dX12_picture_21 ?_
      refine TT_goto hK (tgt := 26) dX12_picture_22 (by decide) ?_
      refine pf_X12_117 hK (by decide) rfl dX12_picture_26 ?_
      refine TT_hp (h' := setO g15_8 73 (fup (h 73) 2 0)) (up_can (((hG_8.1 73 (by decide))).trans (hG_1.1 73 (by decide))) rfl rfl) ?_
      have hT_15 : TY (setO g15_8 73 (fup (h 73) 2 0)) := tu_73_2 hT_8 (show up g15_8 73 2 0 = (setO g15_8 73 (fup (h 73) 2 0)) from up_can (((hG_8.1 73 (by decide))).trans (hG_1.1 73 (by decide))) rfl rfl) (by omega)
      have hF_15 : FRM [73, 76] [2, 3, 4] h (setO g15_8 73 (fup (h 73) 2 0)) := FRM_f (show up g15_8 73 2 0 = (setO g15_8 73 (fup (h 73) 2 0)) from up_can (((hG_8.1 73 (by decide))).trans (hG_1.1 73 (by decide))) rfl rfl) hF_8 (by decide) (by decide)
      refine TT_aload_n hK rfl 0 rfl dX12_picture_29 ?_
      refine gf_X12_117 hK (by decide) rfl (v := 0) (rd_ (sOf_eq _ _ _) (fup_eq _ _ _)) dX12_picture_30 ?_
      refine TT_if_ne hK (tgt := 67) (by decide) dX12_picture_33 (by decide) (fun hb33_16 => ?_) (fun hb33_16 => ?_)
      · exact absurd hb33_16 (by decide)
      · refine TT_aload_n hK rfl 0 rfl dX12_picture_36 ?_
        refine TT_iload_n hK rfl 1 rfl dX12_picture_37 ?_
        refine pf_X12_16 hK (by decide) rfl dX12_picture_38 ?_
        refine TT_hp (h' := setO g15_8 73 (fup (fup (h 73) 2 0) 3 w)) (up_can (sOf_eq _ _ _) rfl (setO_same _ _ _ _)) ?_
        have hT_17 : TY (setO g15_8 73 (fup (fup (h 73) 2 0) 3 w)) := tu_73_3 hT_15 (show up (setO g15_8 73 (fup (h 73) 2 0)) 73 3 w = (setO g15_8 73 (fup (fup (h 73) 2 0) 3 w)) from up_can (sOf_eq _ _ _) rfl (setO_same _ _ _ _)) (by omega)
        have hF_17 : FRM [73, 76] [2, 3, 4] h (setO g15_8 73 (fup (fup (h 73) 2 0) 3 w)) := FRM_f (show up (setO g15_8 73 (fup (h 73) 2 0)) 73 3 w = (setO g15_8 73 (fup (fup (h 73) 2 0) 3 w)) from up_can (sOf_eq _ _ _) rfl (setO_same _ _ _ _)) hF_15 (by decide) (by decide)
        refine TT_aload_n hK rfl 0 rfl dX12_picture_41 ?_
        refine TT_iload_n hK rfl 2 rfl dX12_picture_42 ?_
        refine pf_X12_20 hK (by decide) rfl dX12_picture_43 ?_
        refine TT_hp (h' := setO g15_8 73 (fup (fup (fup (h 73) 2 0) 3 w) 4 e)) (up_can (sOf_eq _ _ _) rfl (setO_same _ _ _ _)) ?_
        have hT_18 : TY (setO g15_8 73 (fup (fup (fup (h 73) 2 0) 3 w) 4 e)) := tu_73_4 hT_17 (show up (setO g15_8 73 (fup (fup (h 73) 2 0) 3 w)) 73 4 e = (setO g15_8 73 (fup (fup (fup (h 73) 2 0) 3 w) 4 e)) from up_can (sOf_eq _ _ _) rfl (setO_same _ _ _ _)) (by omega)
        have hF_18 : FRM [73, 76] [2, 3, 4] h (setO g15_8 73 (fup (fup (fup (h 73) 2 0) 3 w) 4 e)) := FRM_f (show up (setO g15_8 73 (fup (fup (h 73) 2 0) 3 w)) 73 4 e = (setO g15_8 73 (fup (fup (fup (h 73) 2 0) 3 w) 4 e)) from up_can (sOf_eq _ _ _) rfl (setO_same _ _ _ _)) hF_17 (by decide) (by decide)
        refine TT_iconst hK dX12_picture_46 ?_
        refine TT_istore_n hK rfl (lv' := [(3, vI 0), (0, vR 73), (1, vI w), (2, vI e)]) (by decide) rfl dX12_picture_47 ?_
        have L48_19 : ∀ (k19 : Nat) (k : Int) (w48_19 : Hp_), TY w48_19 → FRM [73, 76] [2, 3, 4] h w48_19 → (0 ≤ k ∧ k ≤ 64) → ((w48_19 73 2) = 0) → ((w48_19 73 3) = w) → ((w48_19 73 4) = e) → ((64 : Int) - k).toNat < k19 → TT K ly 0 0 48 [(0, vR 73), (1, vI w), (2, vI e), (3, vI k)] [] w48_19 := by
          intro k19
          induction k19 with
          | zero => intro k w48_19 hT48_19 hF48_19 hk k2 k3 k4 hk19; exact absurd hk19 (Nat.not_lt_zero _)
          | succ k19 ih19 =>
            intro k w48_19 hT48_19 hF48_19 hk k2 k3 k4 hk19
            refine TT_iload_n hK rfl 3 rfl dX12_picture_48 ?_
            refine TT_bipush hK (by decide) dX12_picture_49 ?_
            refine TT_icmp_ge hK (tgt := 67) (irm (by omega) (by omega)) (by decide) dX12_picture_51 (by decide) (fun hb51_20 => ?_) (fun hb51_20 => ?_)
            · refine TT_vret hK hQ ?_ dX12_picture_67
              have e21_73_2 : w48_19 73 2 = (w48_19 73) 2 := rfl
              have e22_73_3 : w48_19 73 3 = (w48_19 73) 3 := rfl
              have e23_73_4 : w48_19 73 4 = (w48_19 73) 4 := rfl
              exact ⟨⟨hT48_19, hF48_19⟩, rfl, (by rewrite [e21_73_2, e22_73_3, e23_73_4]; omega)⟩
            · refine TT_aload_n hK rfl 0 rfl dX12_picture_54 ?_
              refine gf_X12_23 hK (by decide) rfl (q := 76) rfl rfl dX12_picture_55 ?_
              refine TT_iload_n hK rfl 3 rfl dX12_picture_58 ?_
              refine TT_iconst hK dX12_picture_59 ?_
              refine TT_iast hK (o := 76) (n := 64) (by decide) rfl (by omega) (by omega) dX12_picture_60 ?_
              refine TT_hp (h' := setO w48_19 76 (fup (w48_19 76) k 0)) (up_can rfl rfl rfl) ?_
              have hT_24 : TY (setO w48_19 76 (fup (w48_19 76) k 0)) := tu_76 hT48_19 (show up w48_19 76 k 0 = (setO w48_19 76 (fup (w48_19 76) k 0)) from up_can rfl rfl rfl) (by omega)
              have hF_24 : FRM [73, 76] [2, 3, 4] h (setO w48_19 76 (fup (w48_19 76) k 0)) := FRM_up (show up w48_19 76 k 0 = (setO w48_19 76 (fup (w48_19 76) k 0)) from up_can rfl rfl rfl) hF48_19 (by decide) (by decide)
              refine TT_iinc hK (v := k + 1) (lv' := [(3, vI (k + 1)), (0, vR 73), (1, vI w), (2, vI e)]) 3 rfl rfl (by decide) rfl dX12_picture_61 ?_
              refine TT_goto hK (tgt := 48) dX12_picture_64 (by decide) ?_
              refine TT_sub [1, 2, 3, 0] rfl ?_
              have e25_73_2 : (setO w48_19 76 (fup (w48_19 76) k 0)) 73 2 = (w48_19 73) 2 := rd_ (sOf_ne _ _ (by decide)) rfl
              have e26_73_3 : (setO w48_19 76 (fup (w48_19 76) k 0)) 73 3 = (w48_19 73) 3 := rd_ (sOf_ne _ _ (by decide)) rfl
              have e27_73_4 : (setO w48_19 76 (fup (w48_19 76) k 0)) 73 4 = (w48_19 73) 4 := rd_ (sOf_ne _ _ (by decide)) rfl
              exact ih19 (k + 1) (setO w48_19 76 (fup (w48_19 76) k 0)) hT_24 hF_24 (by first | omega | (simp [up, setR] <;> omega)) (by rewrite [e25_73_2]; first | omega | (simp [up, setR] <;> omega)) (by rewrite [e26_73_3]; first | omega | (simp [up, setR] <;> omega)) (by rewrite [e27_73_4]; first | omega | (simp [up, setR] <;> omega)) (by first | omega | (simp [up, setR] <;> omega))
        refine TT_sub [1, 2, 3, 0] rfl ?_
        have e28_73_2 : (setO g15_8 73 (fup (fup (fup (h 73) 2 0) 3 w) 4 e)) 73 2 = 0 := rd_ (sOf_eq _ _ _) ((fup_ne _ _ (by decide)).trans ((fup_ne _ _ (by decide)).trans (fup_eq _ _ _)))
        have e29_73_3 : (setO g15_8 73 (fup (fup (fup (h 73) 2 0) 3 w) 4 e)) 73 3 = w := rd_ (sOf_eq _ _ _) ((fup_ne _ _ (by decide)).trans (fup_eq _ _ _))
        have e30_73_4 : (setO g15_8 73 (fup (fup (fup (h 73) 2 0) 3 w) 4 e)) 73 4 = e := rd_ (sOf_eq _ _ _) (fup_eq _ _ _)
        exact L48_19 ((((64 : Int) - 0).toNat) + 1) 0 (setO g15_8 73 (fup (fup (fup (h 73) 2 0) 3 w) 4 e)) hT_18 hF_18 (by first | omega | (simp [up, setR] <;> omega)) (by rewrite [e28_73_2]; first | omega | (simp [up, setR] <;> omega)) (by rewrite [e29_73_3]; first | omega | (simp [up, setR] <;> omega)) (by rewrite [e30_73_4]; first | omega | (simp [up, setR] <;> omega)) (Nat.lt_succ_self _)
set_option maxRecDepth 20000 in
theorem s_X12_paint_73 (x y v : Int) (h : Hp_) (hT : TY h) (hx : -2147483648 ≤ x ∧ x ≤ 2147483647) (hy : -2147483648 ≤ y ∧ y ≤ 2147483647) (hv : -2147483648 ≤ v ∧ v ≤ 2147483647) : Ctr yX12_paint cX12_paint 4 none (rmd 2) ly ly 0 0 [vR 73, vI x, vI y, vI v] h (fun r h' => (TY h' ∧ FRM [73, 76] [2] h h') ∧ r = none ∧ ((h' 73 2) = 0 ∨ (h' 73 2) = 1)) := by
  refine Ctr_of (by decide) (Nat.le_of_ble_eq_true rfl) ⟨Nat.le_refl _, Nat.le_refl _⟩ (fun K hK hQ _ => ?_)
  show TT K ly 0 0 0 [(0, vR 73), (1, vI x), (2, vI y), (3, vI v)] [] h
  have hF : FRM [73, 76] [2] h h := FRM_rf _ _ _
  refine TT_aload_n hK rfl 0 rfl dX12_paint_0 ?_
  refine TT_aload_n hK rfl 0 rfl dX12_paint_1 ?_
  refine TT_iload_n hK rfl 1 rfl dX12_paint_2 ?_
  refine TT_iload_n hK rfl 2 rfl dX12_paint_3 ?_
  refine iv_X12_124 hK (s_X12_isPixel_73 x y h hT (by first | omega | (simp [up, setR] <;> omega)) (by first | omega | (simp [up, setR] <;> omega))) (by decide) rfl ⟨by decide, by decide⟩ (by decide) rfl rfl (Nat.le_of_ble_eq_true rfl) ⟨by decide, by decide⟩ dX12_paint_4 ?_
  intro r9 g4_1 hp9
  obtain ⟨⟨hT_1, hG_1⟩, z4_1, hr9, hz_1, p1_1⟩ := hp9
  rw [hr9]
  have hF_1 : FRM [73, 76] [2] h g4_1 := FRM_tr hF hG_1 (by decide) (by decide)
  show TT K ly 0 0 7 [(0, vR 73), (1, vI x), (2, vI y), (3, vI v)] [vI z4_1, vR 73] g4_1
  refine TT_if_eq hK (tgt := 25) (irm (by omega) (by omega)) dX12_paint_7 (by decide) (fun hb7_2 => ?_) (fun hb7_2 => ?_)
  · refine TT_iconst hK dX12_paint_25 ?_
    refine pf_X12_117 hK (by decide) rfl dX12_paint_26 ?_
    refine TT_hp (h' := setO g4_1 73 (fup (h 73) 2 1)) (up_can (hG_1.1 73 (by decide)) rfl rfl) ?_
    have hT_3 : TY (setO g4_1 73 (fup (h 73) 2 1)) := tu_73_2 hT_1 (show up g4_1 73 2 1 = (setO g4_1 73 (fup (h 73) 2 1)) from up_can (hG_1.1 73 (by decide)) rfl rfl) (by omega)
    have hF_3 : FRM [73, 76] [2] h (setO g4_1 73 (fup (h 73) 2 1)) := FRM_f (show up g4_1 73 2 1 = (setO g4_1 73 (fup (h 73) 2 1)) from up_can (hG_1.1 73 (by decide)) rfl rfl) hF_1 (by decide) (by decide)
    refine TT_aload_n hK rfl 0 rfl dX12_paint_29 ?_
    refine gf_X12_117 hK (by decide) rfl (v := 1) (rd_ (sOf_eq _ _ _) (fup_eq _ _ _)) dX12_paint_30 ?_
    refine TT_if_ne hK (tgt := 48) (by decide) dX12_paint_33 (by decide) (fun hb33_4 => ?_) (fun hb33_4 => ?_)
    · refine TT_vret hK hQ ?_ dX12_paint_48
      have e5_73_2 : (setO g4_1 73 (fup (h 73) 2 1)) 73 2 = 1 := rd_ (sOf_eq _ _ _) (fup_eq _ _ _)
      exact ⟨⟨hT_3, hF_3⟩, rfl, (by rewrite [e5_73_2]; omega)⟩
    · exact absurd hb33_4 (by decide)
  · refine TT_iload_n hK rfl 3 rfl dX12_paint_10 ?_
    refine TT_iconst hK dX12_paint_11 ?_
    refine TT_sipush hK (by decide) dX12_paint_12 ?_
    refine iv_X12_120 hK (s_X12_within v 0 255 g4_1 hT_1 (by first | omega | (simp [up, setR] <;> omega)) (by first | omega | (simp [up, setR] <;> omega)) (by first | omega | (simp [up, setR] <;> omega))) ⟨by decide, by decide⟩ (by decide) rfl rfl (Nat.le_of_ble_eq_true rfl) ⟨by decide, by decide⟩ dX12_paint_15 ?_
    intro r9 g15_6 hp9
    obtain ⟨⟨hT_6, hG_6⟩, z15_6, hr9, hz_6, p1_6, p2_6⟩ := hp9
    rw [hr9]
    have hF_6 : FRM [73, 76] [2] h g15_6 := FRM_tr hF_1 hG_6 (by decide) (by decide)
    show TT K ly 0 0 18 [(0, vR 73), (1, vI x), (2, vI y), (3, vI v)] [vI z15_6, vR 73] g15_6
    refine TT_if_eq hK (tgt := 25) (irm (by omega) (by omega)) dX12_paint_18 (by decide) (fun hb18_7 => ?_) (fun hb18_7 => ?_)
    · refine TT_iconst hK dX12_paint_25 ?_
      refine pf_X12_117 hK (by decide) rfl dX12_paint_26 ?_
      refine TT_hp (h' := setO g15_6 73 (fup (h 73) 2 1)) (up_can (((hG_6.1 73 (by decide))).trans (hG_1.1 73 (by decide))) rfl rfl) ?_
      have hT_8 : TY (setO g15_6 73 (fup (h 73) 2 1)) := tu_73_2 hT_6 (show up g15_6 73 2 1 = (setO g15_6 73 (fup (h 73) 2 1)) from up_can (((hG_6.1 73 (by decide))).trans (hG_1.1 73 (by decide))) rfl rfl) (by omega)
      have hF_8 : FRM [73, 76] [2] h (setO g15_6 73 (fup (h 73) 2 1)) := FRM_f (show up g15_6 73 2 1 = (setO g15_6 73 (fup (h 73) 2 1)) from up_can (((hG_6.1 73 (by decide))).trans (hG_1.1 73 (by decide))) rfl rfl) hF_6 (by decide) (by decide)
      refine TT_aload_n hK rfl 0 rfl dX12_paint_29 ?_
      refine gf_X12_117 hK (by decide) rfl (v := 1) (rd_ (sOf_eq _ _ _) (fup_eq _ _ _)) dX12_paint_30 ?_
      refine TT_if_ne hK (tgt := 48) (by decide) dX12_paint_33 (by decide) (fun hb33_9 => ?_) (fun hb33_9 => ?_)
      · refine TT_vret hK hQ ?_ dX12_paint_48
        have e10_73_2 : (setO g15_6 73 (fup (h 73) 2 1)) 73 2 = 1 := rd_ (sOf_eq _ _ _) (fup_eq _ _ _)
        exact ⟨⟨hT_8, hF_8⟩, rfl, (by rewrite [e10_73_2]; omega)⟩
      · exact absurd hb33_9 (by decide)
    · refine TT_iconst hK dX12_paint_21 ?_
      refine TT_goto hK (tgt := 26) dX12_paint_22 (by decide) ?_
      refine pf_X12_117 hK (by decide) rfl dX12_paint_26 ?_
      refine TT_hp (h' := setO g15_6 73 (fup (h 73) 2 0)) (up_can (((hG_6.1 73 (by decide))).trans (hG_1.1 73 (by decide))) rfl rfl) ?_
      have hT_11 : TY (setO g15_6 73 (fup (h 73) 2 0)) := tu_73_2 hT_6 (show up g15_6 73 2 0 = (setO g15_6 73 (fup (h 73) 2 0)) from up_can (((hG_6.1 73 (by decide))).trans (hG_1.1 73 (by decide))) rfl rfl) (by omega)
      have hF_11 : FRM [73, 76] [2] h (setO g15_6 73 (fup (h 73) 2 0)) := FRM_f (show up g15_6 73 2 0 = (setO g15_6 73 (fup (h 73) 2 0)) from up_can (((hG_6.1 73 (by decide))).trans (hG_1.1 73 (by decide))) rfl rfl) hF_6 (by decide) (by decide)
      refine TT_aload_n hK rfl 0 rfl dX12_paint_29 ?_
      refine gf_X12_117 hK (by decide) rfl (v := 0) (rd_ (sOf_eq _ _ _) (fup_eq _ _ _)) dX12_paint_30 ?_
      refine TT_if_ne hK (tgt := 48) (by decide) dX12_paint_33 (by decide) (fun hb33_12 => ?_) (fun hb33_12 => ?_)
      · exact absurd hb33_12 (by decide)
      · refine TT_aload_n hK rfl 0 rfl dX12_paint_36 ?_
        refine gf_X12_23 hK (by decide) rfl (q := 76) rfl rfl dX12_paint_37 ?_
        refine TT_bipush hK (by decide) dX12_paint_40 ?_
        refine TT_iload_n hK rfl 2 rfl dX12_paint_42 ?_
        refine TT_imul hK dX12_paint_43 ?_
        refine TT_iload_n hK rfl 1 rfl dX12_paint_44 ?_
        refine TT_iadd hK dX12_paint_45 ?_
        refine TT_iload_n hK rfl 3 rfl dX12_paint_46 ?_
        refine TT_iast hK (o := 76) (n := 64) (by decide) rfl (by omega) (by omega) dX12_paint_47 ?_
        refine TT_hp (h' := setO (setO g15_6 73 (fup (h 73) 2 0)) 76 (fup (h 76) ((8 * y) + x) v)) (up_can ((sOf_ne _ _ (by decide)).trans (((hG_6.1 76 (by decide))).trans (hG_1.1 76 (by decide)))) rfl rfl) ?_
        have hT_13 : TY (setO (setO g15_6 73 (fup (h 73) 2 0)) 76 (fup (h 76) ((8 * y) + x) v)) := tu_76 hT_11 (show up (setO g15_6 73 (fup (h 73) 2 0)) 76 ((8 * y) + x) v = (setO (setO g15_6 73 (fup (h 73) 2 0)) 76 (fup (h 76) ((8 * y) + x) v)) from up_can ((sOf_ne _ _ (by decide)).trans (((hG_6.1 76 (by decide))).trans (hG_1.1 76 (by decide)))) rfl rfl) (by omega)
        have hF_13 : FRM [73, 76] [2] h (setO (setO g15_6 73 (fup (h 73) 2 0)) 76 (fup (h 76) ((8 * y) + x) v)) := FRM_up (show up (setO g15_6 73 (fup (h 73) 2 0)) 76 ((8 * y) + x) v = (setO (setO g15_6 73 (fup (h 73) 2 0)) 76 (fup (h 76) ((8 * y) + x) v)) from up_can ((sOf_ne _ _ (by decide)).trans (((hG_6.1 76 (by decide))).trans (hG_1.1 76 (by decide)))) rfl rfl) hF_11 (by decide) (by decide)
        refine TT_vret hK hQ ?_ dX12_paint_48
        have e14_73_2 : (setO (setO g15_6 73 (fup (h 73) 2 0)) 76 (fup (h 76) ((8 * y) + x) v)) 73 2 = 0 := rd_ ((sOf_ne _ _ (by decide)).trans (sOf_eq _ _ _)) (fup_eq _ _ _)
        exact ⟨⟨hT_13, hF_13⟩, rfl, (by rewrite [e14_73_2]; omega)⟩
set_option maxRecDepth 20000 in
theorem s_X12_pixel_73 (x y : Int) (h : Hp_) (hT : TY h) (hx : -2147483648 ≤ x ∧ x ≤ 2147483647) (hy : -2147483648 ≤ y ∧ y ≤ 2147483647) : Ctr yX12_pixel cX12_pixel 3 (some .int) (rmd 2) ly ly 0 0 [vR 73, vI x, vI y] h (fun r h' => (TY h' ∧ FRM [73] [2] h h') ∧ ∃ z : Int, r = some (vI z) ∧ (-2147483648 ≤ z ∧ z ≤ 2147483647)) := by
  refine Ctr_of (by decide) (Nat.le_of_ble_eq_true rfl) ⟨Nat.le_refl _, Nat.le_refl _⟩ (fun K hK hQ _ => ?_)
  show TT K ly 0 0 0 [(0, vR 73), (1, vI x), (2, vI y)] [] h
  have hF : FRM [73] [2] h h := FRM_rf _ _ _
  refine TT_aload_n hK rfl 0 rfl dX12_pixel_0 ?_
  refine TT_iconst hK dX12_pixel_1 ?_
  refine pf_X12_117 hK (by decide) rfl dX12_pixel_2 ?_
  refine TT_hp (h' := setO h 73 (fup (h 73) 2 0)) (up_can rfl rfl rfl) ?_
  have hT_1 : TY (setO h 73 (fup (h 73) 2 0)) := tu_73_2 hT (show up h 73 2 0 = (setO h 73 (fup (h 73) 2 0)) from up_can rfl rfl rfl) (by omega)
  have hF_1 : FRM [73] [2] h (setO h 73 (fup (h 73) 2 0)) := FRM_f (show up h 73 2 0 = (setO h 73 (fup (h 73) 2 0)) from up_can rfl rfl rfl) hF (by decide) (by decide)
  refine TT_aload_n hK rfl 0 rfl dX12_pixel_5 ?_
  refine TT_iload_n hK rfl 1 rfl dX12_pixel_6 ?_
  refine TT_iload_n hK rfl 2 rfl dX12_pixel_7 ?_
  refine iv_X12_124 hK (s_X12_isPixel_73 x y (setO h 73 (fup (h 73) 2 0)) hT_1 (by first | omega | (simp [up, setR] <;> omega)) (by first | omega | (simp [up, setR] <;> omega))) (by decide) rfl ⟨by decide, by decide⟩ (by decide) rfl rfl (Nat.le_of_ble_eq_true rfl) ⟨by decide, by decide⟩ dX12_pixel_8 ?_
  intro r9 g8_2 hp9
  obtain ⟨⟨hT_2, hG_2⟩, z8_2, hr9, hz_2, p1_2⟩ := hp9
  rw [hr9]
  have hF_2 : FRM [73] [2] h g8_2 := FRM_tr hF_1 hG_2 (by decide) (by decide)
  show TT K ly 0 0 11 [(0, vR 73), (1, vI x), (2, vI y)] [vI z8_2] g8_2
  refine TT_if_eq hK (tgt := 28) (irm (by omega) (by omega)) dX12_pixel_11 (by decide) (fun hb11_3 => ?_) (fun hb11_3 => ?_)
  · refine TT_ldc hK lc_X12_128 dX12_pixel_28 ?_
    refine TT_iret hK hQ ?_ dX12_pixel_30
    exact ⟨⟨hT_2, hF_2⟩, (-100000), rfl, (by omega)⟩
  · refine TT_aload_n hK rfl 0 rfl dX12_pixel_14 ?_
    refine gf_X12_23 hK (by decide) rfl (q := 76) rfl rfl dX12_pixel_15 ?_
    refine TT_bipush hK (by decide) dX12_pixel_18 ?_
    refine TT_iload_n hK rfl 2 rfl dX12_pixel_20 ?_
    refine TT_imul hK dX12_pixel_21 ?_
    refine TT_iload_n hK rfl 1 rfl dX12_pixel_22 ?_
    refine TT_iadd hK dX12_pixel_23 ?_
    refine TT_iald hK (o := 76) (n := 64) (by decide) rfl (by first | omega | (simp [up, setR] <;> omega)) (by first | omega | (simp [up, setR] <;> omega)) (v := (h 76) ((8 * y) + x)) (rd_ (((hG_2.1 76 (by decide))).trans (sOf_ne _ _ (by decide))) rfl) dX12_pixel_24 ?_
    have r4 := ty_76 (i := (8 * y) + x) (v := (h 76) ((8 * y) + x)) hT_2 (rd_ (((hG_2.1 76 (by decide))).trans (sOf_ne _ _ (by decide))) rfl) (by omega) (by omega)
    refine TT_goto hK (tgt := 30) dX12_pixel_25 (by decide) ?_
    refine TT_iret hK hQ ?_ dX12_pixel_30
    exact ⟨⟨hT_2, hF_2⟩, ((h 76) ((8 * y) + x)), rfl, (by omega)⟩
set_option maxRecDepth 20000 in
theorem s_X12_thrown_73 (h : Hp_) (hT : TY h)  : Ctr yX12_thrown cX12_thrown 1 (some .int) (rmd 0) ly ly 0 0 [vR 73] h (fun r h' => (TY h' ∧ FRM [] [] h h') ∧ ∃ z : Int, r = some (vI z) ∧ (0 ≤ z ∧ z ≤ 1) ∧ (z = (h 73 2))) := by
  refine Ctr_of (by decide) (Nat.le_of_ble_eq_true rfl) ⟨Nat.le_refl _, Nat.le_refl _⟩ (fun K hK hQ _ => ?_)
  show TT K ly 0 0 0 [(0, vR 73)] [] h
  have hF : FRM [] [] h h := FRM_rf _ _ _
  refine TT_aload_n hK rfl 0 rfl dX12_thrown_0 ?_
  refine gf_X12_117 hK (by decide) rfl (v := (h 73) 2) rfl dX12_thrown_1 ?_
  have r1 := ty_73_2 (v := (h 73) 2) hT rfl
  refine TT_iret hK hQ ?_ dX12_thrown_4
  exact ⟨⟨hT, hF⟩, ((h 73) 2), rfl, (by omega), (by omega)⟩

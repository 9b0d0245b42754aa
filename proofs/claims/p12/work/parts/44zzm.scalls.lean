set_option maxRecDepth 20000 in
theorem s_cstream_e (i : Int) (h : Hp_) (hT : TY h) (hi : -2147483648 ≤ i ∧ i ≤ 2147483647) : Ctr yX11_stream cX11_stream 2 (some .int) (rmd 1) ly ly 0 0 [vR 0, vI i] h (fun r h' => (TY h' ∧ FR [] h h') ∧ ∃ z : Int, r = some (vI z) ∧ (-100000 ≤ z ∧ z ≤ 255) ∧ (((0 ≤ i ∧ i < (h 5 1)) → z = (h 6) i) ∧ (¬(0 ≤ i ∧ i < (h 5 1)) → z = -100000))) := by
  refine Ctr_of (by decide) (Nat.le_of_ble_eq_true rfl) ⟨Nat.le_refl _, Nat.le_refl _⟩ (fun K hK hQ _ => ?_)
  show TT K ly 0 0 0 [(0, vR 0), (1, vI i)] [] h
  have hF : FR [] h h := FR_rf _ _
  refine TT_aload_n hK rfl 0 rfl dX11_stream_0 ?_
  refine gf_X11_22 hK (by decide) rfl (q := 5) rfl rfl dX11_stream_1 ?_
  refine TT_iload_n hK rfl 1 rfl dX11_stream_4 ?_
  refine iv_X11_85 hK (s_has5_e i h hT (by first | omega | (simp [up, setR] <;> omega))) (by decide) rfl ⟨by decide, by decide⟩ (by decide) rfl rfl (Nat.le_of_ble_eq_true rfl) ⟨by decide, by decide⟩ dX11_stream_5 ?_
  intro r9 g5_1 hp9
  obtain ⟨⟨hT_1, hG_1⟩, z5_1, hr9, hz_1, p1_1, e_1⟩ := hp9
  rw [hr9]
  have hF_1 : FR [] h g5_1 := FR_tr hF hG_1 (by decide)
  rw [show h 5 1 = (h 5) 1 from rfl] at e_1
  have e_at5 := e_1
  show TT K ly 0 0 8 [(0, vR 0), (1, vI i)] [vI z5_1] g5_1
  refine TT_if_eq hK (tgt := 22) (irm (by omega) (by omega)) dX11_stream_8 (by decide) (fun hb8_2 => ?_) (fun hb8_2 => ?_)
  · refine TT_ldc hK lc_X11_90 dX11_stream_22 ?_
    refine TT_iret hK hQ ?_ dX11_stream_24
    exact ⟨⟨hT_1, hF_1⟩, (-100000), rfl, (by omega), (by first | exact ⟨fun q => by exfalso; omega, fun _ => rfl⟩)⟩
  · refine TT_aload_n hK rfl 0 rfl dX11_stream_11 ?_
    refine gf_X11_22 hK (by decide) rfl (q := 5) rfl rfl dX11_stream_12 ?_
    refine TT_iload_n hK rfl 1 rfl dX11_stream_15 ?_
    refine iv_X11_87 hK (s_X1_at_5 i g5_1 hT_1 (by first | omega | (simp [up, setR] <;> omega))) (by decide) rfl ⟨by decide, by decide⟩ (by decide) rfl rfl (Nat.le_of_ble_eq_true rfl) ⟨by decide, by decide⟩ dX11_stream_16 ?_
    intro r9 g16_3 hp9
    obtain ⟨⟨hT_3, hG_3⟩, z16_3, hr9, hz_3, p1_3⟩ := hp9
    rw [hr9]
    have hF_3 : FR [] h g16_3 := FR_tr hF_1 hG_3 (by decide)
    rw [show g5_1 5 1 = (h 5) 1 from rd_ (hG_1 5 (by decide)) rfl] at p1_3
    rw [show g5_1 6 = h 6 from (hG_1 6 (by decide))] at p1_3
    have p1_at16 := p1_3
    show TT K ly 0 0 19 [(0, vR 0), (1, vI i)] [vI z16_3] g16_3
    refine TT_goto hK (tgt := 24) dX11_stream_19 (by decide) ?_
    refine TT_iret hK hQ ?_ dX11_stream_24
    exact ⟨⟨hT_3, hF_3⟩, z16_3, rfl, (by omega), (by first | exact ⟨fun q => p1_at16.1 q, fun q => absurd (by omega) q⟩ | exact ⟨fun q => by exfalso; omega, fun _ => rfl⟩)⟩
set_option maxRecDepth 20000 in
theorem s_cpoke_e (i b : Int) (h : Hp_) (hT : TY h) (hi : -2147483648 ≤ i ∧ i ≤ 2147483647) (hb : -2147483648 ≤ b ∧ b ≤ 2147483647) : Ctr yX11_poke cX11_poke 3 (some .boolean) (rmd 2) ly ly 0 0 [vR 0, vI i, vI b] h (fun r h' => (TY h' ∧ FR [6] h h') ∧ ∃ z : Int, r = some (vI z) ∧ (0 ≤ z ∧ z ≤ 1) ∧ ((((0 ≤ i ∧ i < (h 5 1)) ∧ (0 ≤ b ∧ b ≤ 255)) → z = 1 ∧ (h' 6) = fup (h 6) i b) ∧ (¬((0 ≤ i ∧ i < (h 5 1)) ∧ (0 ≤ b ∧ b ≤ 255)) → z = 0 ∧ (h' 6) = (h 6)))) := by
  refine Ctr_of (by decide) (Nat.le_of_ble_eq_true rfl) ⟨Nat.le_refl _, Nat.le_refl _⟩ (fun K hK hQ _ => ?_)
  show TT K ly 0 0 0 [(0, vR 0), (1, vI i), (2, vI b)] [] h
  have hF : FR [6] h h := FR_rf _ _
  refine TT_aload_n hK rfl 0 rfl dX11_poke_0 ?_
  refine gf_X11_22 hK (by decide) rfl (q := 5) rfl rfl dX11_poke_1 ?_
  refine TT_iload_n hK rfl 1 rfl dX11_poke_4 ?_
  refine iv_X11_85 hK (s_has5_e i h hT (by first | omega | (simp [up, setR] <;> omega))) (by decide) rfl ⟨by decide, by decide⟩ (by decide) rfl rfl (Nat.le_of_ble_eq_true rfl) ⟨by decide, by decide⟩ dX11_poke_5 ?_
  intro r9 g5_1 hp9
  obtain ⟨⟨hT_1, hG_1⟩, z5_1, hr9, hz_1, p1_1, e_1⟩ := hp9
  rw [hr9]
  have hF_1 : FR [6] h g5_1 := FR_tr hF hG_1 (by decide)
  rw [show h 5 1 = (h 5) 1 from rfl] at e_1
  have e_at5 := e_1
  show TT K ly 0 0 8 [(0, vR 0), (1, vI i), (2, vI b)] [vI z5_1] g5_1
  refine TT_if_eq hK (tgt := 22) (irm (by omega) (by omega)) dX11_poke_8 (by decide) (fun hb8_2 => ?_) (fun hb8_2 => ?_)
  · refine TT_iconst hK dX11_poke_22 ?_
    refine TT_zret hK hQ (by decide) ?_ dX11_poke_23
    have e3_6 : g5_1 6 = h 6 := (hG_1 6 (by decide))
    exact ⟨⟨hT_1, hF_1⟩, 0, rfl, (by omega), (by rewrite [e3_6]; first | exact ⟨fun q => by exfalso; omega, fun _ => ⟨by omega, rfl⟩⟩)⟩
  · refine TT_iload_n hK rfl 2 rfl dX11_poke_11 ?_
    refine TT_if_lt hK (tgt := 22) (irm (by omega) (by omega)) dX11_poke_12 (by decide) (fun hb12_4 => ?_) (fun hb12_4 => ?_)
    · refine TT_iconst hK dX11_poke_22 ?_
      refine TT_zret hK hQ (by decide) ?_ dX11_poke_23
      have e5_6 : g5_1 6 = h 6 := (hG_1 6 (by decide))
      exact ⟨⟨hT_1, hF_1⟩, 0, rfl, (by omega), (by rewrite [e5_6]; first | exact ⟨fun q => by exfalso; omega, fun _ => ⟨by omega, rfl⟩⟩)⟩
    · refine TT_iload_n hK rfl 2 rfl dX11_poke_15 ?_
      refine TT_sipush hK (by decide) dX11_poke_16 ?_
      refine TT_icmp_le hK (tgt := 24) (irm (by omega) (by omega)) (by decide) dX11_poke_19 (by decide) (fun hb19_6 => ?_) (fun hb19_6 => ?_)
      · refine TT_aload_n hK rfl 0 rfl dX11_poke_24 ?_
        refine gf_X11_22 hK (by decide) rfl (q := 5) rfl rfl dX11_poke_25 ?_
        refine TT_iload_n hK rfl 1 rfl dX11_poke_28 ?_
        refine TT_iload_n hK rfl 2 rfl dX11_poke_29 ?_
        refine iv_X11_91 hK (s_set5_e i b g5_1 hT_1 (by first | omega | (simp [up, setR] <;> omega)) (by first | omega | (simp [up, setR] <;> omega))) (by decide) rfl ⟨by decide, by decide⟩ (by decide) rfl rfl (Nat.le_of_ble_eq_true rfl) ⟨by decide, by decide⟩ dX11_poke_30 ?_
        intro r9 g30_7 hp9
        obtain ⟨⟨hT_7, hG_7⟩, hr9, e6_7⟩ := hp9
        rw [hr9]
        have hF_7 : FR [6] h g30_7 := FR_tr hF_1 hG_7 (by decide)
        rw [show g5_1 5 1 = (h 5) 1 from rd_ (hG_1 5 (by decide)) rfl] at e6_7
        rw [show g5_1 6 = h 6 from (hG_1 6 (by decide))] at e6_7
        have e6_at30 := e6_7
        show TT K ly 0 0 33 [(0, vR 0), (1, vI i), (2, vI b)] [] g30_7
        refine TT_iconst hK dX11_poke_33 ?_
        refine TT_zret hK hQ (by decide) ?_ dX11_poke_34
        exact ⟨⟨hT_7, hF_7⟩, 1, rfl, (by omega), (by first | exact ⟨fun _ => ⟨by omega, e6_at30 (by omega)⟩, fun q => absurd (by omega) q⟩ | exact ⟨fun q => by exfalso; omega, fun _ => ⟨by omega, rfl⟩⟩)⟩
      · refine TT_iconst hK dX11_poke_22 ?_
        refine TT_zret hK hQ (by decide) ?_ dX11_poke_23
        have e8_6 : g5_1 6 = h 6 := (hG_1 6 (by decide))
        exact ⟨⟨hT_1, hF_1⟩, 0, rfl, (by omega), (by rewrite [e8_6]; first | exact ⟨fun q => by exfalso; omega, fun _ => ⟨by omega, rfl⟩⟩)⟩
set_option maxRecDepth 20000 in
theorem s_stream_e (i : Int) (h : Hp_) (hT : TY h) (hi : -2147483648 ≤ i ∧ i ≤ 2147483647) : Ctr yX12_stream cX12_stream 2 (some .int) (rmd 1) ly ly 0 0 [vR 73, vI i] h (fun r h' => (TY h' ∧ FRM [73] [2] h h') ∧ ∃ z : Int, r = some (vI z) ∧ (-2147483648 ≤ z ∧ z ≤ 2147483647) ∧ (((0 ≤ i ∧ i < (h 73 41)) → z = (h 100) i) ∧ (¬(0 ≤ i ∧ i < (h 73 41)) → z = -100000))) := by
  refine Ctr_of (by decide) (Nat.le_of_ble_eq_true rfl) ⟨Nat.le_refl _, Nat.le_refl _⟩ (fun K hK hQ _ => ?_)
  show TT K ly 0 0 0 [(0, vR 73), (1, vI i)] [] h
  have hF : FRM [73] [2] h h := FRM_rf _ _ _
  refine TT_aload_n hK rfl 0 rfl dX12_stream_0 ?_
  refine TT_iconst hK dX12_stream_1 ?_
  refine pf_X12_117 hK (by decide) rfl dX12_stream_2 ?_
  refine TT_hp (h' := setO h 73 (fup (h 73) 2 0)) (up_can rfl rfl rfl) ?_
  have hT_1 : TY (setO h 73 (fup (h 73) 2 0)) := tu_73_2 hT (show up h 73 2 0 = (setO h 73 (fup (h 73) 2 0)) from up_can rfl rfl rfl) (by omega)
  have hF_1 : FRM [73] [2] h (setO h 73 (fup (h 73) 2 0)) := FRM_f (show up h 73 2 0 = (setO h 73 (fup (h 73) 2 0)) from up_can rfl rfl rfl) hF (by decide) (by decide)
  refine TT_iload_n hK rfl 1 rfl dX12_stream_5 ?_
  refine TT_iconst hK dX12_stream_6 ?_
  refine TT_aload_n hK rfl 0 rfl dX12_stream_7 ?_
  refine gf_X12_329 hK (by decide) rfl (v := (h 73) 41) (rd_ (sOf_eq _ _ _) (fup_ne _ _ (by decide))) dX12_stream_8 ?_
  have r2 := ty_73_41 (v := (h 73) 41) hT_1 (rd_ (sOf_eq _ _ _) (fup_ne _ _ (by decide)))
  refine TT_iconst hK dX12_stream_11 ?_
  refine TT_isub hK dX12_stream_12 ?_
  refine iv_X12_120 hK (s_X12_within i 0 (((h 73) 41) - 1) (setO h 73 (fup (h 73) 2 0)) hT_1 (by first | omega | (simp [up, setR] <;> omega)) (by first | omega | (simp [up, setR] <;> omega)) (by first | omega | (simp [up, setR] <;> omega))) ⟨by decide, by decide⟩ (by decide) rfl rfl (Nat.le_of_ble_eq_true rfl) ⟨by decide, by decide⟩ dX12_stream_13 ?_
  intro r9 g13_3 hp9
  obtain ⟨⟨hT_3, hG_3⟩, z13_3, hr9, hz_3, p1_3, p2_3⟩ := hp9
  rw [hr9]
  have hF_3 : FRM [73] [2] h g13_3 := FRM_tr hF_1 hG_3 (by decide) (by decide)
  show TT K ly 0 0 16 [(0, vR 73), (1, vI i)] [vI z13_3] g13_3
  refine TT_if_eq hK (tgt := 28) (irm (by omega) (by omega)) dX12_stream_16 (by decide) (fun hb16_4 => ?_) (fun hb16_4 => ?_)
  · refine TT_ldc hK lc_X12_128 dX12_stream_28 ?_
    refine TT_iret hK hQ ?_ dX12_stream_30
    exact ⟨⟨hT_3, hF_3⟩, (-100000), rfl, (by omega), (by first | exact ⟨fun _ => rfl, fun q => absurd (by omega) q⟩ | exact ⟨fun q => by exfalso; omega, fun _ => rfl⟩)⟩
  · refine TT_aload_n hK rfl 0 rfl dX12_stream_19 ?_
    refine gf_X12_96 hK (by decide) rfl (q := 100) rfl rfl dX12_stream_20 ?_
    refine TT_iload_n hK rfl 1 rfl dX12_stream_23 ?_
    refine TT_iald hK (o := 100) (n := 4700) (by decide) rfl (by first | omega | (simp [up, setR] <;> omega)) (by first | omega | (simp [up, setR] <;> omega)) (v := (h 100) i) (rd_ (((hG_3.1 100 (by decide))).trans (sOf_ne _ _ (by decide))) rfl) dX12_stream_24 ?_
    have r5 := ty_100 (i := i) (v := (h 100) i) hT_3 (rd_ (((hG_3.1 100 (by decide))).trans (sOf_ne _ _ (by decide))) rfl) (by omega) (by omega)
    refine TT_goto hK (tgt := 30) dX12_stream_25 (by decide) ?_
    refine TT_iret hK hQ ?_ dX12_stream_30
    exact ⟨⟨hT_3, hF_3⟩, ((h 100) i), rfl, (by omega), (by first | exact ⟨fun _ => rfl, fun q => absurd (by omega) q⟩ | exact ⟨fun q => by exfalso; omega, fun _ => rfl⟩)⟩
set_option maxRecDepth 20000 in
theorem s_poke_e (i b : Int) (h : Hp_) (hT : TY h) (hi : -2147483648 ≤ i ∧ i ≤ 2147483647) (hb : -2147483648 ≤ b ∧ b ≤ 2147483647) : Ctr yX12_poke cX12_poke 3 (some .boolean) (rmd 1) ly ly 0 0 [vR 73, vI i, vI b] h (fun r h' => (TY h' ∧ FRM [73, 100] [2] h h') ∧ ∃ z : Int, r = some (vI z) ∧ (0 ≤ z ∧ z ≤ 1) ∧ ((((0 ≤ i ∧ i < (h 73 41)) ∧ (0 ≤ b ∧ b ≤ 255)) → z = 1 ∧ (h' 100) = fup (h 100) i b) ∧ (¬((0 ≤ i ∧ i < (h 73 41)) ∧ (0 ≤ b ∧ b ≤ 255)) → z = 0 ∧ (h' 100) = (h 100)))) := by
  refine Ctr_of (by decide) (Nat.le_of_ble_eq_true rfl) ⟨Nat.le_refl _, Nat.le_refl _⟩ (fun K hK hQ _ => ?_)
  show TT K ly 0 0 0 [(0, vR 73), (1, vI i), (2, vI b)] [] h
  have hF : FRM [73, 100] [2] h h := FRM_rf _ _ _
  refine TT_aload_n hK rfl 0 rfl dX12_poke_0 ?_
  refine TT_iconst hK dX12_poke_1 ?_
  refine pf_X12_117 hK (by decide) rfl dX12_poke_2 ?_
  refine TT_hp (h' := setO h 73 (fup (h 73) 2 0)) (up_can rfl rfl rfl) ?_
  have hT_1 : TY (setO h 73 (fup (h 73) 2 0)) := tu_73_2 hT (show up h 73 2 0 = (setO h 73 (fup (h 73) 2 0)) from up_can rfl rfl rfl) (by omega)
  have hF_1 : FRM [73, 100] [2] h (setO h 73 (fup (h 73) 2 0)) := FRM_f (show up h 73 2 0 = (setO h 73 (fup (h 73) 2 0)) from up_can rfl rfl rfl) hF (by decide) (by decide)
  refine TT_iload_n hK rfl 1 rfl dX12_poke_5 ?_
  refine TT_iconst hK dX12_poke_6 ?_
  refine TT_aload_n hK rfl 0 rfl dX12_poke_7 ?_
  refine gf_X12_329 hK (by decide) rfl (v := (h 73) 41) (rd_ (sOf_eq _ _ _) (fup_ne _ _ (by decide))) dX12_poke_8 ?_
  have r2 := ty_73_41 (v := (h 73) 41) hT_1 (rd_ (sOf_eq _ _ _) (fup_ne _ _ (by decide)))
  refine TT_iconst hK dX12_poke_11 ?_
  refine TT_isub hK dX12_poke_12 ?_
  refine iv_X12_120 hK (s_X12_within i 0 (((h 73) 41) - 1) (setO h 73 (fup (h 73) 2 0)) hT_1 (by first | omega | (simp [up, setR] <;> omega)) (by first | omega | (simp [up, setR] <;> omega)) (by first | omega | (simp [up, setR] <;> omega))) ⟨by decide, by decide⟩ (by decide) rfl rfl (Nat.le_of_ble_eq_true rfl) ⟨by decide, by decide⟩ dX12_poke_13 ?_
  intro r9 g13_3 hp9
  obtain ⟨⟨hT_3, hG_3⟩, z13_3, hr9, hz_3, p1_3, p2_3⟩ := hp9
  rw [hr9]
  have hF_3 : FRM [73, 100] [2] h g13_3 := FRM_tr hF_1 hG_3 (by decide) (by decide)
  show TT K ly 0 0 16 [(0, vR 73), (1, vI i), (2, vI b)] [vI z13_3] g13_3
  refine TT_if_eq hK (tgt := 30) (irm (by omega) (by omega)) dX12_poke_16 (by decide) (fun hb16_4 => ?_) (fun hb16_4 => ?_)
  · refine TT_iconst hK dX12_poke_30 ?_
    refine TT_zret hK hQ (by decide) ?_ dX12_poke_31
    have e5_100 : g13_3 100 = h 100 := ((hG_3.1 100 (by decide))).trans (sOf_ne _ _ (by decide))
    exact ⟨⟨hT_3, hF_3⟩, 0, rfl, (by omega), (by rewrite [e5_100]; first | exact ⟨fun _ => ⟨by omega, rfl⟩, fun q => absurd (by omega) q⟩ | exact ⟨fun q => by exfalso; omega, fun _ => ⟨by omega, rfl⟩⟩)⟩
  · refine TT_iload_n hK rfl 2 rfl dX12_poke_19 ?_
    refine TT_iconst hK dX12_poke_20 ?_
    refine TT_sipush hK (by decide) dX12_poke_21 ?_
    refine iv_X12_120 hK (s_X12_within b 0 255 g13_3 hT_3 (by first | omega | (simp [up, setR] <;> omega)) (by first | omega | (simp [up, setR] <;> omega)) (by first | omega | (simp [up, setR] <;> omega))) ⟨by decide, by decide⟩ (by decide) rfl rfl (Nat.le_of_ble_eq_true rfl) ⟨by decide, by decide⟩ dX12_poke_24 ?_
    intro r9 g24_6 hp9
    obtain ⟨⟨hT_6, hG_6⟩, z24_6, hr9, hz_6, p1_6, p2_6⟩ := hp9
    rw [hr9]
    have hF_6 : FRM [73, 100] [2] h g24_6 := FRM_tr hF_3 hG_6 (by decide) (by decide)
    show TT K ly 0 0 27 [(0, vR 73), (1, vI i), (2, vI b)] [vI z24_6] g24_6
    refine TT_if_ne hK (tgt := 32) (irm (by omega) (by omega)) dX12_poke_27 (by decide) (fun hb27_7 => ?_) (fun hb27_7 => ?_)
    · refine TT_aload_n hK rfl 0 rfl dX12_poke_32 ?_
      refine gf_X12_96 hK (by decide) rfl (q := 100) rfl rfl dX12_poke_33 ?_
      refine TT_iload_n hK rfl 1 rfl dX12_poke_36 ?_
      refine TT_iload_n hK rfl 2 rfl dX12_poke_37 ?_
      refine TT_iast hK (o := 100) (n := 4700) (by decide) rfl (by omega) (by omega) dX12_poke_38 ?_
      refine TT_hp (h' := setO g24_6 100 (fup (h 100) i b)) (up_can (((hG_6.1 100 (by decide))).trans (((hG_3.1 100 (by decide))).trans (sOf_ne _ _ (by decide)))) rfl rfl) ?_
      have hT_8 : TY (setO g24_6 100 (fup (h 100) i b)) := tu_100 hT_6 (show up g24_6 100 i b = (setO g24_6 100 (fup (h 100) i b)) from up_can (((hG_6.1 100 (by decide))).trans (((hG_3.1 100 (by decide))).trans (sOf_ne _ _ (by decide)))) rfl rfl) (by omega)
      have hF_8 : FRM [73, 100] [2] h (setO g24_6 100 (fup (h 100) i b)) := FRM_up (show up g24_6 100 i b = (setO g24_6 100 (fup (h 100) i b)) from up_can (((hG_6.1 100 (by decide))).trans (((hG_3.1 100 (by decide))).trans (sOf_ne _ _ (by decide)))) rfl rfl) hF_6 (by decide) (by decide)
      refine TT_iconst hK dX12_poke_39 ?_
      refine TT_zret hK hQ (by decide) ?_ dX12_poke_40
      have e9_100 : (setO g24_6 100 (fup (h 100) i b)) 100 = fup (h 100) i b := sOf_eq _ _ _
      exact ⟨⟨hT_8, hF_8⟩, 1, rfl, (by omega), (by rewrite [e9_100]; first | exact ⟨fun _ => ⟨by omega, rfl⟩, fun q => absurd (by omega) q⟩ | exact ⟨fun q => by exfalso; omega, fun _ => ⟨by omega, rfl⟩⟩)⟩
    · refine TT_iconst hK dX12_poke_30 ?_
      refine TT_zret hK hQ (by decide) ?_ dX12_poke_31
      have e10_100 : g24_6 100 = h 100 := ((hG_6.1 100 (by decide))).trans (((hG_3.1 100 (by decide))).trans (sOf_ne _ _ (by decide)))
      exact ⟨⟨hT_6, hF_6⟩, 0, rfl, (by omega), (by rewrite [e10_100]; first | exact ⟨fun _ => ⟨by omega, rfl⟩, fun q => absurd (by omega) q⟩ | exact ⟨fun q => by exfalso; omega, fun _ => ⟨by omega, rfl⟩⟩)⟩

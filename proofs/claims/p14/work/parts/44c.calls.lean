set_option maxRecDepth 20000 in
theorem s_X11_picture_0 (a b : Int) (h : Hp_) (hT : TY h) (ha : -2147483648 ≤ a ∧ a ≤ 2147483647) (hb : -2147483648 ≤ b ∧ b ≤ 2147483647) : CtrB yX11_picture cX11_picture 3 none rmB ly 1 6 [vR 0, vI a, vI b] h (fun r h' => (TY h' ∧ FR [1, 2] h h') ∧ r = none ∧ ((1 ≤ a ∧ a ≤ 8) ∧ (1 ≤ b ∧ b ≤ 8)) ∧ ((h' 1 1) = a) ∧ ((h' 1 2) = b) ∧ (∀ j : Int, 0 ≤ j → j < 64 → (h' 2) j = 0)) (fun h' => (TY h' ∧ FR [1, 2] h h') ∧ (¬((1 ≤ a ∧ a ≤ 8) ∧ (1 ≤ b ∧ b ≤ 8))) ∧ ((h' 1) = (h 1)) ∧ ((h' 2) = (h 2))) := by
  refine CtrB_of (by decide) (Nat.le_of_ble_eq_true rfl) ⟨by decide, by decide⟩ (fun K hK hQ => ?_)
  show TT K ly 0 0 0 [(0, vR 0), (1, vI a), (2, vI b)] [] h
  have hF : FR [1, 2] h h := FR_rf _ _
  refine TT_iload_n hK rfl 1 rfl dX11_picture_0 ?_
  refine iv_X11_44 hK (s_isSide_x a h hT (by first | omega | (simp [up, setR] <;> omega))) ⟨by decide, by decide⟩ (by decide) rfl rfl (Nat.le_of_ble_eq_true rfl) ⟨by decide, by decide⟩ dX11_picture_1 ?_
  intro r9 g1_1 hp9
  obtain ⟨⟨hT_1, hG_1⟩, z1_1, hr9, hz_1, p1_1, p2_1⟩ := hp9
  rw [hr9]
  have hF_1 : FR [1, 2] h g1_1 := FR_tr hF hG_1 (by decide)
  show TT K ly 0 0 4 [(0, vR 0), (1, vI a), (2, vI b)] [vI z1_1] g1_1
  refine TT_if_eq hK (tgt := 14) (irm (by omega) (by omega)) dX11_picture_4 (by decide) (fun hb4_2 => ?_) (fun hb4_2 => ?_)
  · have e3_1 : g1_1 1 = h 1 := (hG_1 1 (by decide))
    have e4_2 : g1_1 2 = h 2 := (hG_1 2 (by decide))
    exact TT_throwB hK hQ 0 (by decide) ⟨⟨hT_1, hF_1⟩, (by omega), (by rewrite [e3_1]; rfl), (by rewrite [e4_2]; rfl)⟩ (Nat.le_of_ble_eq_true rfl) ⟨by decide, by decide⟩ dX11_picture_14 dX11_picture_17 dX11_picture_18 dX11_picture_20 dX11_picture_23
  · refine TT_iload_n hK rfl 2 rfl dX11_picture_7 ?_
    refine iv_X11_44 hK (s_isSide_x b g1_1 hT_1 (by first | omega | (simp [up, setR] <;> omega))) ⟨by decide, by decide⟩ (by decide) rfl rfl (Nat.le_of_ble_eq_true rfl) ⟨by decide, by decide⟩ dX11_picture_8 ?_
    intro r9 g8_5 hp9
    obtain ⟨⟨hT_5, hG_5⟩, z8_5, hr9, hz_5, p1_5, p2_5⟩ := hp9
    rw [hr9]
    have hF_5 : FR [1, 2] h g8_5 := FR_tr hF_1 hG_5 (by decide)
    show TT K ly 0 0 11 [(0, vR 0), (1, vI a), (2, vI b)] [vI z8_5] g8_5
    refine TT_if_ne hK (tgt := 24) (irm (by omega) (by omega)) dX11_picture_11 (by decide) (fun hb11_6 => ?_) (fun hb11_6 => ?_)
    · refine TT_aload_n hK rfl 0 rfl dX11_picture_24 ?_
      refine gf_X11_10 hK (by decide) rfl (q := 1) rfl rfl dX11_picture_25 ?_
      refine TT_iload_n hK rfl 1 rfl dX11_picture_28 ?_
      refine TT_iload_n hK rfl 2 rfl dX11_picture_29 ?_
      refine iv_X11_40 hK (s_begin_1x a b g8_5 hT_5 (by first | omega | (simp [up, setR] <;> omega)) (by first | omega | (simp [up, setR] <;> omega))) (by decide) rfl ⟨by decide, by decide⟩ (by decide) rfl rfl (Nat.le_of_ble_eq_true rfl) ⟨by decide, by decide⟩ dX11_picture_30 ?_
      intro r9 g30_7 hp9
      obtain ⟨⟨hT_7, hG_7⟩, hr9, p1_7, p2_7, p3_7⟩ := hp9
      rw [hr9]
      have hF_7 : FR [1, 2] h g30_7 := FR_tr hF_5 hG_7 (by decide)
      have p3_at30 := p3_7
      show TT K ly 0 0 33 [(0, vR 0), (1, vI a), (2, vI b)] [] g30_7
      refine TT_widen (kc' := 1) (ks' := 6) (by decide) (by decide) ?_
      refine TT_vretB hK hQ ?_ dX11_picture_33
      have e8_1_1 : g30_7 1 1 = (g30_7 1) 1 := rfl
      have e9_1_2 : g30_7 1 2 = (g30_7 1) 2 := rfl
      exact ⟨⟨hT_7, hF_7⟩, rfl, (by omega), (by rewrite [e8_1_1]; omega), (by rewrite [e9_1_2]; omega), (by exact p3_at30)⟩
    · have e10_1 : g8_5 1 = h 1 := ((hG_5 1 (by decide))).trans (hG_1 1 (by decide))
      have e11_2 : g8_5 2 = h 2 := ((hG_5 2 (by decide))).trans (hG_1 2 (by decide))
      exact TT_throwB hK hQ 0 (by decide) ⟨⟨hT_5, hF_5⟩, (by omega), (by rewrite [e10_1]; rfl), (by rewrite [e11_2]; rfl)⟩ (Nat.le_of_ble_eq_true rfl) ⟨by decide, by decide⟩ dX11_picture_14 dX11_picture_17 dX11_picture_18 dX11_picture_20 dX11_picture_23
set_option maxRecDepth 20000 in
theorem s_X11_paint_0 (x y v : Int) (h : Hp_) (hT : TY h) (hx : -2147483648 ≤ x ∧ x ≤ 2147483647) (hy : -2147483648 ≤ y ∧ y ≤ 2147483647) (hv : -2147483648 ≤ v ∧ v ≤ 2147483647) : CtrB yX11_paint cX11_paint 4 none rmB ly 1 6 [vR 0, vI x, vI y, vI v] h (fun r h' => (TY h' ∧ FR [2] h h') ∧ r = none ∧ (((0 ≤ x ∧ x < (h 1 1)) ∧ (0 ≤ y ∧ y < (h 1 2))) ∧ (0 ≤ v ∧ v ≤ 255)) ∧ ((h' 2) = fup (h 2) (y * 8 + x) v)) (fun h' => (TY h' ∧ FR [2] h h') ∧ (¬(((0 ≤ x ∧ x < (h 1 1)) ∧ (0 ≤ y ∧ y < (h 1 2))) ∧ (0 ≤ v ∧ v ≤ 255))) ∧ ((h' 2) = (h 2))) := by
  refine CtrB_of (by decide) (Nat.le_of_ble_eq_true rfl) ⟨by decide, by decide⟩ (fun K hK hQ => ?_)
  show TT K ly 0 0 0 [(0, vR 0), (1, vI x), (2, vI y), (3, vI v)] [] h
  have hF : FR [2] h h := FR_rf _ _
  refine TT_aload_n hK rfl 0 rfl dX11_paint_0 ?_
  refine gf_X11_10 hK (by decide) rfl (q := 1) rfl rfl dX11_paint_1 ?_
  refine TT_iload_n hK rfl 1 rfl dX11_paint_4 ?_
  refine TT_iload_n hK rfl 2 rfl dX11_paint_5 ?_
  refine iv_X11_55 hK (s_has_1x x y h hT (by first | omega | (simp [up, setR] <;> omega)) (by first | omega | (simp [up, setR] <;> omega))) (by decide) rfl ⟨by decide, by decide⟩ (by decide) rfl rfl (Nat.le_of_ble_eq_true rfl) ⟨by decide, by decide⟩ dX11_paint_6 ?_
  intro r9 g6_1 hp9
  obtain ⟨⟨hT_1, hG_1⟩, z6_1, hr9, hz_1, p1_1, p2_1, p3_1⟩ := hp9
  rw [hr9]
  have hF_1 : FR [2] h g6_1 := FR_tr hF hG_1 (by decide)
  rw [show h 1 1 = (h 1) 1 from rfl] at p1_1
  rw [show h 1 2 = (h 1) 2 from rfl] at p1_1
  rw [show h 1 1 = (h 1) 1 from rfl] at p2_1
  rw [show h 1 2 = (h 1) 2 from rfl] at p2_1
  show TT K ly 0 0 9 [(0, vR 0), (1, vI x), (2, vI y), (3, vI v)] [vI z6_1] g6_1
  refine TT_if_eq hK (tgt := 23) (irm (by omega) (by omega)) dX11_paint_9 (by decide) (fun hb9_2 => ?_) (fun hb9_2 => ?_)
  · have e3_2 : g6_1 2 = h 2 := (hG_1 2 (by decide))
    exact TT_throwB hK hQ 1 (by decide) ⟨⟨hT_1, hF_1⟩, (by omega), (by rewrite [e3_2]; rfl)⟩ (Nat.le_of_ble_eq_true rfl) ⟨by decide, by decide⟩ dX11_paint_23 dX11_paint_26 dX11_paint_27 dX11_paint_29 dX11_paint_32
  · refine TT_iload_n hK rfl 3 rfl dX11_paint_12 ?_
    refine TT_if_lt hK (tgt := 23) (irm (by omega) (by omega)) dX11_paint_13 (by decide) (fun hb13_4 => ?_) (fun hb13_4 => ?_)
    · have e5_2 : g6_1 2 = h 2 := (hG_1 2 (by decide))
      exact TT_throwB hK hQ 1 (by decide) ⟨⟨hT_1, hF_1⟩, (by omega), (by rewrite [e5_2]; rfl)⟩ (Nat.le_of_ble_eq_true rfl) ⟨by decide, by decide⟩ dX11_paint_23 dX11_paint_26 dX11_paint_27 dX11_paint_29 dX11_paint_32
    · refine TT_iload_n hK rfl 3 rfl dX11_paint_16 ?_
      refine TT_sipush hK (by decide) dX11_paint_17 ?_
      refine TT_icmp_le hK (tgt := 33) (irm (by omega) (by omega)) (by decide) dX11_paint_20 (by decide) (fun hb20_6 => ?_) (fun hb20_6 => ?_)
      · refine TT_aload_n hK rfl 0 rfl dX11_paint_33 ?_
        refine gf_X11_10 hK (by decide) rfl (q := 1) rfl rfl dX11_paint_34 ?_
        refine TT_iload_n hK rfl 1 rfl dX11_paint_37 ?_
        refine TT_iload_n hK rfl 2 rfl dX11_paint_38 ?_
        refine TT_iload_n hK rfl 3 rfl dX11_paint_39 ?_
        have e7_1_1 : g6_1 1 1 = (h 1) 1 := rd_ (hG_1 1 (by decide)) rfl
        have e8_1_2 : g6_1 1 2 = (h 1) 2 := rd_ (hG_1 1 (by decide)) rfl
        refine iv_X11_61 hK (s_set_1x x y v g6_1 hT_1 (by first | omega | (simp [up, setR] <;> omega)) (by first | omega | (simp [up, setR] <;> omega)) (by first | omega | (simp [up, setR] <;> omega)) (by rewrite [e7_1_1, e8_1_2]; first | omega | (simp [up, setR] <;> omega))) (by decide) rfl ⟨by decide, by decide⟩ (by decide) rfl rfl (Nat.le_of_ble_eq_true rfl) ⟨by decide, by decide⟩ dX11_paint_40 ?_
        intro r9 g40_9 hp9
        obtain ⟨⟨hT_9, hG_9⟩, hr9, p1_9⟩ := hp9
        rw [hr9]
        have hF_9 : FR [2] h g40_9 := FR_tr hF_1 hG_9 (by decide)
        rw [show g6_1 2 = h 2 from (hG_1 2 (by decide))] at p1_9
        have p1_at40 := p1_9
        show TT K ly 0 0 43 [(0, vR 0), (1, vI x), (2, vI y), (3, vI v)] [] g40_9
        refine TT_widen (kc' := 1) (ks' := 6) (by decide) (by decide) ?_
        refine TT_vretB hK hQ ?_ dX11_paint_43
        exact ⟨⟨hT_9, hF_9⟩, rfl, (by omega), (by exact p1_at40)⟩
      · have e10_2 : g6_1 2 = h 2 := (hG_1 2 (by decide))
        exact TT_throwB hK hQ 1 (by decide) ⟨⟨hT_1, hF_1⟩, (by omega), (by rewrite [e10_2]; rfl)⟩ (Nat.le_of_ble_eq_true rfl) ⟨by decide, by decide⟩ dX11_paint_23 dX11_paint_26 dX11_paint_27 dX11_paint_29 dX11_paint_32
set_option maxRecDepth 20000 in
theorem s_X11_pixel_0 (x y : Int) (h : Hp_) (hT : TY h) (hx : -2147483648 ≤ x ∧ x ≤ 2147483647) (hy : -2147483648 ≤ y ∧ y ≤ 2147483647) : Ctr yX11_pixel cX11_pixel 3 (some .int) (rmd 2) ly ly 0 0 [vR 0, vI x, vI y] h (fun r h' => (TY h' ∧ FR [] h h') ∧ ∃ z : Int, r = some (vI z) ∧ (-100000 ≤ z ∧ z ≤ 255) ∧ (((0 ≤ x ∧ x < (h 1 1)) ∧ (0 ≤ y ∧ y < (h 1 2)) → z = (h 2) (y * 8 + x)) ∧ (¬((0 ≤ x ∧ x < (h 1 1)) ∧ (0 ≤ y ∧ y < (h 1 2))) → z = -100000))) := by
  refine Ctr_of (by decide) (Nat.le_of_ble_eq_true rfl) ⟨Nat.le_refl _, Nat.le_refl _⟩ (fun K hK hQ _ => ?_)
  show TT K ly 0 0 0 [(0, vR 0), (1, vI x), (2, vI y)] [] h
  have hF : FR [] h h := FR_rf _ _
  refine TT_aload_n hK rfl 0 rfl dX11_pixel_0 ?_
  refine gf_X11_10 hK (by decide) rfl (q := 1) rfl rfl dX11_pixel_1 ?_
  refine TT_iload_n hK rfl 1 rfl dX11_pixel_4 ?_
  refine TT_iload_n hK rfl 2 rfl dX11_pixel_5 ?_
  refine iv_X11_65 hK (s_at_1x x y h hT (by first | omega | (simp [up, setR] <;> omega)) (by first | omega | (simp [up, setR] <;> omega))) (by decide) rfl ⟨by decide, by decide⟩ (by decide) rfl rfl (Nat.le_of_ble_eq_true rfl) ⟨by decide, by decide⟩ dX11_pixel_6 ?_
  intro r9 g6_1 hp9
  obtain ⟨⟨hT_1, hG_1⟩, z6_1, hr9, hz_1, p1_1⟩ := hp9
  rw [hr9]
  have hF_1 : FR [] h g6_1 := FR_tr hF hG_1 (by decide)
  rw [show h 1 1 = (h 1) 1 from rfl] at p1_1
  rw [show h 1 2 = (h 1) 2 from rfl] at p1_1
  show TT K ly 0 0 9 [(0, vR 0), (1, vI x), (2, vI y)] [vI z6_1] g6_1
  refine TT_iret hK hQ ?_ dX11_pixel_9
  exact ⟨⟨hT_1, hF_1⟩, z6_1, rfl, (by omega), (by assumption)⟩
set_option maxRecDepth 20000 in
theorem s_X11_encode_0 (l n : Int) (h : Hp_) (hT : TY h) (hl : -2147483648 ≤ l ∧ l ≤ 2147483647) (hn : -2147483648 ≤ n ∧ n ≤ 2147483647) (hbd : BDQ (h 10) (h 12) (h 11) (h 13)) : CtrB yX11_encode cX11_encode 3 (some .int) rmB ly 1 6 [vR 0, vI l, vI n] h (fun r h' => (TY h' ∧ FR [5, 6, 8, 9, 10, 11, 12, 13, 14, 15, 16, 17, 18, 19, 20, 21, 22, 23, 24, 25, 26, 27, 28, 29, 30, 31, 32, 33, 34, 36, 37, 38, 39, 41, 42, 43] h h') ∧ ∃ z : Int, r = some (vI z) ∧ (0 ≤ z ∧ z ≤ 1024) ∧ (BDQ (h' 10) (h' 12) (h' 11) (h' 13))) (fun h' => (TY h' ∧ FR [5, 6, 8, 9, 10, 11, 12, 13, 14, 15, 16, 17, 18, 19, 20, 21, 22, 23, 24, 25, 26, 27, 28, 29, 30, 31, 32, 33, 34, 36, 37, 38, 39, 41, 42, 43] h h') ∧ (BDQ (h' 10) (h' 12) (h' 11) (h' 13))) := by
  refine CtrB_of (by decide) (Nat.le_of_ble_eq_true rfl) ⟨by decide, by decide⟩ (fun K hK hQ => ?_)
  show TT K ly 0 0 0 [(0, vR 0), (1, vI l), (2, vI n)] [] h
  have hF : FR [5, 6, 8, 9, 10, 11, 12, 13, 14, 15, 16, 17, 18, 19, 20, 21, 22, 23, 24, 25, 26, 27, 28, 29, 30, 31, 32, 33, 34, 36, 37, 38, 39, 41, 42, 43] h h := FR_rf _ _
  refine TT_iload_n hK rfl 1 rfl dX11_encode_0 ?_
  refine iv_X11_69 hK (s_X11_areLevels l h hT (by first | omega | (simp [up, setR] <;> omega))) ⟨by decide, by decide⟩ (by decide) rfl rfl (Nat.le_of_ble_eq_true rfl) ⟨by decide, by decide⟩ dX11_encode_1 ?_
  intro r9 g1_1 hp9
  obtain ⟨⟨hT_1, hG_1⟩, z1_1, hr9, hz_1, p1_1⟩ := hp9
  rw [hr9]
  have hF_1 : FR [5, 6, 8, 9, 10, 11, 12, 13, 14, 15, 16, 17, 18, 19, 20, 21, 22, 23, 24, 25, 26, 27, 28, 29, 30, 31, 32, 33, 34, 36, 37, 38, 39, 41, 42, 43] h g1_1 := FR_tr hF hG_1 (by decide)
  show TT K ly 0 0 4 [(0, vR 0), (1, vI l), (2, vI n)] [vI z1_1] g1_1
  refine TT_if_eq hK (tgt := 14) (irm (by omega) (by omega)) dX11_encode_4 (by decide) (fun hb4_2 => ?_) (fun hb4_2 => ?_)
  · have e3_10 : g1_1 10 = h 10 := (hG_1 10 (by decide))
    have e4_11 : g1_1 11 = h 11 := (hG_1 11 (by decide))
    have e5_12 : g1_1 12 = h 12 := (hG_1 12 (by decide))
    have e6_13 : g1_1 13 = h 13 := (hG_1 13 (by decide))
    exact TT_throwB hK hQ 2 (by decide) ⟨⟨hT_1, hF_1⟩, (by rewrite [e3_10, e4_11, e5_12, e6_13]; first | assumption | exact hbd)⟩ (Nat.le_of_ble_eq_true rfl) ⟨by decide, by decide⟩ dX11_encode_14 dX11_encode_17 dX11_encode_18 dX11_encode_20 dX11_encode_23
  · refine TT_iload_n hK rfl 2 rfl dX11_encode_7 ?_
    refine iv_X11_72 hK (s_X11_areLayers n g1_1 hT_1 (by first | omega | (simp [up, setR] <;> omega))) ⟨by decide, by decide⟩ (by decide) rfl rfl (Nat.le_of_ble_eq_true rfl) ⟨by decide, by decide⟩ dX11_encode_8 ?_
    intro r9 g8_7 hp9
    obtain ⟨⟨hT_7, hG_7⟩, z8_7, hr9, hz_7, p1_7⟩ := hp9
    rw [hr9]
    have hF_7 : FR [5, 6, 8, 9, 10, 11, 12, 13, 14, 15, 16, 17, 18, 19, 20, 21, 22, 23, 24, 25, 26, 27, 28, 29, 30, 31, 32, 33, 34, 36, 37, 38, 39, 41, 42, 43] h g8_7 := FR_tr hF_1 hG_7 (by decide)
    show TT K ly 0 0 11 [(0, vR 0), (1, vI l), (2, vI n)] [vI z8_7] g8_7
    refine TT_if_ne hK (tgt := 24) (irm (by omega) (by omega)) dX11_encode_11 (by decide) (fun hb11_8 => ?_) (fun hb11_8 => ?_)
    · refine TT_aload_n hK rfl 0 rfl dX11_encode_24 ?_
      refine gf_X11_29 hK (by decide) rfl (q := 7) rfl rfl dX11_encode_25 ?_
      refine TT_aload_n hK rfl 0 rfl dX11_encode_28 ?_
      refine gf_X11_10 hK (by decide) rfl (q := 1) rfl rfl dX11_encode_29 ?_
      refine TT_iload_n hK rfl 1 rfl dX11_encode_32 ?_
      refine TT_iload_n hK rfl 2 rfl dX11_encode_33 ?_
      refine TT_aload_n hK rfl 0 rfl dX11_encode_34 ?_
      refine gf_X11_22 hK (by decide) rfl (q := 5) rfl rfl dX11_encode_35 ?_
      have e9_10 : g8_7 10 = h 10 := ((hG_7 10 (by decide))).trans (hG_1 10 (by decide))
      have e10_11 : g8_7 11 = h 11 := ((hG_7 11 (by decide))).trans (hG_1 11 (by decide))
      have e11_12 : g8_7 12 = h 12 := ((hG_7 12 (by decide))).trans (hG_1 12 (by decide))
      have e12_13 : g8_7 13 = h 13 := ((hG_7 13 (by decide))).trans (hG_1 13 (by decide))
      refine iv_X11_77 hK (s_X3_pack_7 l n g8_7 hT_7 (by first | omega | (simp [up, setR] <;> omega)) (by first | omega | (simp [up, setR] <;> omega)) (by rewrite [e9_10, e10_11, e11_12, e12_13]; first | assumption | exact hbd)) (by decide) rfl ⟨by decide, by decide⟩ (by decide) rfl rfl (Nat.le_of_ble_eq_true rfl) ⟨by decide, by decide⟩ dX11_encode_38 ?_
      intro r9 g38_13 hp9
      obtain ⟨⟨hT_13, hG_13⟩, hr9, p1_13⟩ := hp9
      rw [hr9]
      have hF_13 : FR [5, 6, 8, 9, 10, 11, 12, 13, 14, 15, 16, 17, 18, 19, 20, 21, 22, 23, 24, 25, 26, 27, 28, 29, 30, 31, 32, 33, 34, 36, 37, 38, 39, 41, 42, 43] h g38_13 := FR_tr hF_7 hG_13 (by decide)
      show TT K ly 0 0 41 [(0, vR 0), (1, vI l), (2, vI n)] [] g38_13
      refine TT_aload_n hK rfl 0 rfl dX11_encode_41 ?_
      refine gf_X11_22 hK (by decide) rfl (q := 5) rfl rfl dX11_encode_42 ?_
      refine iv_X11_81 hK (s_X1_length_5 g38_13 hT_13 ) (by decide) rfl ⟨by decide, by decide⟩ (by decide) rfl rfl (Nat.le_of_ble_eq_true rfl) ⟨by decide, by decide⟩ dX11_encode_45 ?_
      intro r9 g45_14 hp9
      obtain ⟨⟨hT_14, hG_14⟩, z45_14, hr9, hz_14⟩ := hp9
      rw [hr9]
      have hF_14 : FR [5, 6, 8, 9, 10, 11, 12, 13, 14, 15, 16, 17, 18, 19, 20, 21, 22, 23, 24, 25, 26, 27, 28, 29, 30, 31, 32, 33, 34, 36, 37, 38, 39, 41, 42, 43] h g45_14 := FR_tr hF_13 hG_14 (by decide)
      show TT K ly 0 0 48 [(0, vR 0), (1, vI l), (2, vI n)] [vI z45_14] g45_14
      refine TT_widen (kc' := 1) (ks' := 6) (by decide) (by decide) ?_
      refine TT_iretB hK hQ ?_ dX11_encode_48
      have e15_10 : g45_14 10 = g38_13 10 := (hG_14 10 (by decide))
      have e16_11 : g45_14 11 = g38_13 11 := (hG_14 11 (by decide))
      have e17_12 : g45_14 12 = g38_13 12 := (hG_14 12 (by decide))
      have e18_13 : g45_14 13 = g38_13 13 := (hG_14 13 (by decide))
      exact ⟨⟨hT_14, hF_14⟩, z45_14, rfl, (by omega), (by rewrite [e15_10, e16_11, e17_12, e18_13]; first | assumption | exact hbd)⟩
    · have e19_10 : g8_7 10 = h 10 := ((hG_7 10 (by decide))).trans (hG_1 10 (by decide))
      have e20_11 : g8_7 11 = h 11 := ((hG_7 11 (by decide))).trans (hG_1 11 (by decide))
      have e21_12 : g8_7 12 = h 12 := ((hG_7 12 (by decide))).trans (hG_1 12 (by decide))
      have e22_13 : g8_7 13 = h 13 := ((hG_7 13 (by decide))).trans (hG_1 13 (by decide))
      exact TT_throwB hK hQ 2 (by decide) ⟨⟨hT_7, hF_7⟩, (by rewrite [e19_10, e20_11, e21_12, e22_13]; first | assumption | exact hbd)⟩ (Nat.le_of_ble_eq_true rfl) ⟨by decide, by decide⟩ dX11_encode_14 dX11_encode_17 dX11_encode_18 dX11_encode_20 dX11_encode_23
set_option maxRecDepth 20000 in
theorem s_X11_stream_0 (i : Int) (h : Hp_) (hT : TY h) (hi : -2147483648 ≤ i ∧ i ≤ 2147483647) : Ctr yX11_stream cX11_stream 2 (some .int) (rmd 1) ly ly 0 0 [vR 0, vI i] h (fun r h' => (TY h' ∧ FR [] h h') ∧ ∃ z : Int, r = some (vI z) ∧ (-100000 ≤ z ∧ z ≤ 255)) := by
  refine Ctr_of (by decide) (Nat.le_of_ble_eq_true rfl) ⟨Nat.le_refl _, Nat.le_refl _⟩ (fun K hK hQ _ => ?_)
  show TT K ly 0 0 0 [(0, vR 0), (1, vI i)] [] h
  have hF : FR [] h h := FR_rf _ _
  refine TT_aload_n hK rfl 0 rfl dX11_stream_0 ?_
  refine gf_X11_22 hK (by decide) rfl (q := 5) rfl rfl dX11_stream_1 ?_
  refine TT_iload_n hK rfl 1 rfl dX11_stream_4 ?_
  refine iv_X11_85 hK (s_X1_has_5 i h hT (by first | omega | (simp [up, setR] <;> omega))) (by decide) rfl ⟨by decide, by decide⟩ (by decide) rfl rfl (Nat.le_of_ble_eq_true rfl) ⟨by decide, by decide⟩ dX11_stream_5 ?_
  intro r9 g5_1 hp9
  obtain ⟨⟨hT_1, hG_1⟩, z5_1, hr9, hz_1, p1_1⟩ := hp9
  rw [hr9]
  have hF_1 : FR [] h g5_1 := FR_tr hF hG_1 (by decide)
  show TT K ly 0 0 8 [(0, vR 0), (1, vI i)] [vI z5_1] g5_1
  refine TT_if_eq hK (tgt := 22) (irm (by omega) (by omega)) dX11_stream_8 (by decide) (fun hb8_2 => ?_) (fun hb8_2 => ?_)
  · refine TT_ldc hK lc_X11_90 dX11_stream_22 ?_
    refine TT_iret hK hQ ?_ dX11_stream_24
    exact ⟨⟨hT_1, hF_1⟩, (-100000), rfl, (by omega)⟩
  · refine TT_aload_n hK rfl 0 rfl dX11_stream_11 ?_
    refine gf_X11_22 hK (by decide) rfl (q := 5) rfl rfl dX11_stream_12 ?_
    refine TT_iload_n hK rfl 1 rfl dX11_stream_15 ?_
    refine iv_X11_87 hK (s_X1_at_5 i g5_1 hT_1 (by first | omega | (simp [up, setR] <;> omega))) (by decide) rfl ⟨by decide, by decide⟩ (by decide) rfl rfl (Nat.le_of_ble_eq_true rfl) ⟨by decide, by decide⟩ dX11_stream_16 ?_
    intro r9 g16_3 hp9
    obtain ⟨⟨hT_3, hG_3⟩, z16_3, hr9, hz_3, p1_3⟩ := hp9
    rw [hr9]
    have hF_3 : FR [] h g16_3 := FR_tr hF_1 hG_3 (by decide)
    rw [show g5_1 5 1 = (h 5) 1 from rd_ (hG_1 5 (by decide)) rfl] at p1_3
    rw [show g5_1 6 = h 6 from (hG_1 6 (by decide))] at p1_3
    show TT K ly 0 0 19 [(0, vR 0), (1, vI i)] [vI z16_3] g16_3
    refine TT_goto hK (tgt := 24) dX11_stream_19 (by decide) ?_
    refine TT_iret hK hQ ?_ dX11_stream_24
    exact ⟨⟨hT_3, hF_3⟩, z16_3, rfl, (by omega)⟩
set_option maxRecDepth 20000 in
theorem s_X11_poke_0 (i b : Int) (h : Hp_) (hT : TY h) (hi : -2147483648 ≤ i ∧ i ≤ 2147483647) (hb : -2147483648 ≤ b ∧ b ≤ 2147483647) : Ctr yX11_poke cX11_poke 3 (some .boolean) (rmd 2) ly ly 0 0 [vR 0, vI i, vI b] h (fun r h' => (TY h' ∧ FR [6] h h') ∧ ∃ z : Int, r = some (vI z) ∧ (0 ≤ z ∧ z ≤ 1)) := by
  refine Ctr_of (by decide) (Nat.le_of_ble_eq_true rfl) ⟨Nat.le_refl _, Nat.le_refl _⟩ (fun K hK hQ _ => ?_)
  show TT K ly 0 0 0 [(0, vR 0), (1, vI i), (2, vI b)] [] h
  have hF : FR [6] h h := FR_rf _ _
  refine TT_aload_n hK rfl 0 rfl dX11_poke_0 ?_
  refine gf_X11_22 hK (by decide) rfl (q := 5) rfl rfl dX11_poke_1 ?_
  refine TT_iload_n hK rfl 1 rfl dX11_poke_4 ?_
  refine iv_X11_85 hK (s_X1_has_5 i h hT (by first | omega | (simp [up, setR] <;> omega))) (by decide) rfl ⟨by decide, by decide⟩ (by decide) rfl rfl (Nat.le_of_ble_eq_true rfl) ⟨by decide, by decide⟩ dX11_poke_5 ?_
  intro r9 g5_1 hp9
  obtain ⟨⟨hT_1, hG_1⟩, z5_1, hr9, hz_1, p1_1⟩ := hp9
  rw [hr9]
  have hF_1 : FR [6] h g5_1 := FR_tr hF hG_1 (by decide)
  show TT K ly 0 0 8 [(0, vR 0), (1, vI i), (2, vI b)] [vI z5_1] g5_1
  refine TT_if_eq hK (tgt := 22) (irm (by omega) (by omega)) dX11_poke_8 (by decide) (fun hb8_2 => ?_) (fun hb8_2 => ?_)
  · refine TT_iconst hK dX11_poke_22 ?_
    refine TT_zret hK hQ (by decide) ?_ dX11_poke_23
    exact ⟨⟨hT_1, hF_1⟩, 0, rfl, (by omega)⟩
  · refine TT_iload_n hK rfl 2 rfl dX11_poke_11 ?_
    refine TT_if_lt hK (tgt := 22) (irm (by omega) (by omega)) dX11_poke_12 (by decide) (fun hb12_3 => ?_) (fun hb12_3 => ?_)
    · refine TT_iconst hK dX11_poke_22 ?_
      refine TT_zret hK hQ (by decide) ?_ dX11_poke_23
      exact ⟨⟨hT_1, hF_1⟩, 0, rfl, (by omega)⟩
    · refine TT_iload_n hK rfl 2 rfl dX11_poke_15 ?_
      refine TT_sipush hK (by decide) dX11_poke_16 ?_
      refine TT_icmp_le hK (tgt := 24) (irm (by omega) (by omega)) (by decide) dX11_poke_19 (by decide) (fun hb19_4 => ?_) (fun hb19_4 => ?_)
      · refine TT_aload_n hK rfl 0 rfl dX11_poke_24 ?_
        refine gf_X11_22 hK (by decide) rfl (q := 5) rfl rfl dX11_poke_25 ?_
        refine TT_iload_n hK rfl 1 rfl dX11_poke_28 ?_
        refine TT_iload_n hK rfl 2 rfl dX11_poke_29 ?_
        refine iv_X11_91 hK (s_X1_set_5 i b g5_1 hT_1 (by first | omega | (simp [up, setR] <;> omega)) (by first | omega | (simp [up, setR] <;> omega))) (by decide) rfl ⟨by decide, by decide⟩ (by decide) rfl rfl (Nat.le_of_ble_eq_true rfl) ⟨by decide, by decide⟩ dX11_poke_30 ?_
        intro r9 g30_5 hp9
        obtain ⟨⟨hT_5, hG_5⟩, hr9⟩ := hp9
        rw [hr9]
        have hF_5 : FR [6] h g30_5 := FR_tr hF_1 hG_5 (by decide)
        show TT K ly 0 0 33 [(0, vR 0), (1, vI i), (2, vI b)] [] g30_5
        refine TT_iconst hK dX11_poke_33 ?_
        refine TT_zret hK hQ (by decide) ?_ dX11_poke_34
        exact ⟨⟨hT_5, hF_5⟩, 1, rfl, (by omega)⟩
      · refine TT_iconst hK dX11_poke_22 ?_
        refine TT_zret hK hQ (by decide) ?_ dX11_poke_23
        exact ⟨⟨hT_1, hF_1⟩, 0, rfl, (by omega)⟩
set_option maxRecDepth 20000 in
theorem s_X11_band_0 (b w : Int) (h : Hp_) (hT : TY h) (hb : -2147483648 ≤ b ∧ b ≤ 2147483647) (hw : -2147483648 ≤ w ∧ w ≤ 2147483647) : Ctr yX11_band cX11_band 3 (some .int) (rmd 2) ly ly 0 0 [vR 0, vI b, vI w] h (fun r h' => (TY h' ∧ FR [] h h') ∧ ∃ z : Int, r = some (vI z) ∧ (-2147483648 ≤ z ∧ z ≤ 2147483647)) := by
  refine Ctr_of (by decide) (Nat.le_of_ble_eq_true rfl) ⟨Nat.le_refl _, Nat.le_refl _⟩ (fun K hK hQ _ => ?_)
  show TT K ly 0 0 0 [(0, vR 0), (1, vI b), (2, vI w)] [] h
  have hF : FR [] h h := FR_rf _ _
  refine TT_aload_n hK rfl 0 rfl dX11_band_0 ?_
  refine gf_X11_29 hK (by decide) rfl (q := 7) rfl rfl dX11_band_1 ?_
  refine TT_iload_n hK rfl 1 rfl dX11_band_4 ?_
  refine TT_iload_n hK rfl 2 rfl dX11_band_5 ?_
  refine iv_X11_93 hK (s_X3_about_7 b w h hT (by first | omega | (simp [up, setR] <;> omega)) (by first | omega | (simp [up, setR] <;> omega))) (by decide) rfl ⟨by decide, by decide⟩ (by decide) rfl rfl (Nat.le_of_ble_eq_true rfl) ⟨by decide, by decide⟩ dX11_band_6 ?_
  intro r9 g6_1 hp9
  obtain ⟨⟨hT_1, hG_1⟩, z6_1, hr9, hz_1⟩ := hp9
  rw [hr9]
  have hF_1 : FR [] h g6_1 := FR_tr hF hG_1 (by decide)
  show TT K ly 0 0 9 [(0, vR 0), (1, vI b), (2, vI w)] [vI z6_1] g6_1
  refine TT_iret hK hQ ?_ dX11_band_9
  exact ⟨⟨hT_1, hF_1⟩, z6_1, rfl, (by omega)⟩
set_option maxRecDepth 20000 in
theorem s_X11_number_0 (b x y : Int) (h : Hp_) (hT : TY h) (hb : -2147483648 ≤ b ∧ b ≤ 2147483647) (hx : -2147483648 ≤ x ∧ x ≤ 2147483647) (hy : -2147483648 ≤ y ∧ y ≤ 2147483647) (hbd : BDQ (h 10) (h 12) (h 11) (h 13)) : Ctr yX11_number cX11_number 4 (some .int) (rmd 4) ly ly 0 0 [vR 0, vI b, vI x, vI y] h (fun r h' => (TY h' ∧ FR [] h h') ∧ ∃ z : Int, r = some (vI z) ∧ (-2147483648 ≤ z ∧ z ≤ 2147483647)) := by
  refine Ctr_of (by decide) (Nat.le_of_ble_eq_true rfl) ⟨Nat.le_refl _, Nat.le_refl _⟩ (fun K hK hQ _ => ?_)
  show TT K ly 0 0 0 [(0, vR 0), (1, vI b), (2, vI x), (3, vI y)] [] h
  have hF : FR [] h h := FR_rf _ _
  refine TT_aload_n hK rfl 0 rfl dX11_number_0 ?_
  refine gf_X11_29 hK (by decide) rfl (q := 7) rfl rfl dX11_number_1 ?_
  refine TT_iload_n hK rfl 1 rfl dX11_number_4 ?_
  refine TT_iload_n hK rfl 2 rfl dX11_number_5 ?_
  refine TT_iload_n hK rfl 3 rfl dX11_number_6 ?_
  refine iv_X11_96 hK (s_X3_numberOf_7 b x y h hT (by first | omega | (simp [up, setR] <;> omega)) (by first | omega | (simp [up, setR] <;> omega)) (by first | omega | (simp [up, setR] <;> omega)) (by first | assumption | exact hbd)) (by decide) rfl ⟨by decide, by decide⟩ (by decide) rfl rfl (Nat.le_of_ble_eq_true rfl) ⟨by decide, by decide⟩ dX11_number_7 ?_
  intro r9 g7_1 hp9
  obtain ⟨⟨hT_1, hG_1⟩, z7_1, hr9, hz_1⟩ := hp9
  rw [hr9]
  have hF_1 : FR [] h g7_1 := FR_tr hF hG_1 (by decide)
  show TT K ly 0 0 10 [(0, vR 0), (1, vI b), (2, vI x), (3, vI y)] [vI z7_1] g7_1
  refine TT_iret hK hQ ?_ dX11_number_10
  exact ⟨⟨hT_1, hF_1⟩, z7_1, rfl, (by omega)⟩
set_option maxRecDepth 20000 in
theorem s_X11_codeword_0 (b i : Int) (h : Hp_) (hT : TY h) (hb : -2147483648 ≤ b ∧ b ≤ 2147483647) (hi : -2147483648 ≤ i ∧ i ≤ 2147483647) : Ctr yX11_codeword cX11_codeword 3 (some .int) (rmd 2) ly ly 0 0 [vR 0, vI b, vI i] h (fun r h' => (TY h' ∧ FR [] h h') ∧ ∃ z : Int, r = some (vI z) ∧ (-2147483648 ≤ z ∧ z ≤ 2147483647)) := by
  refine Ctr_of (by decide) (Nat.le_of_ble_eq_true rfl) ⟨Nat.le_refl _, Nat.le_refl _⟩ (fun K hK hQ _ => ?_)
  show TT K ly 0 0 0 [(0, vR 0), (1, vI b), (2, vI i)] [] h
  have hF : FR [] h h := FR_rf _ _
  refine TT_aload_n hK rfl 0 rfl dX11_codeword_0 ?_
  refine gf_X11_29 hK (by decide) rfl (q := 7) rfl rfl dX11_codeword_1 ?_
  refine TT_iload_n hK rfl 1 rfl dX11_codeword_4 ?_
  refine TT_iload_n hK rfl 2 rfl dX11_codeword_5 ?_
  refine iv_X11_100 hK (s_X3_codeByte_7 b i h hT (by first | omega | (simp [up, setR] <;> omega)) (by first | omega | (simp [up, setR] <;> omega))) (by decide) rfl ⟨by decide, by decide⟩ (by decide) rfl rfl (Nat.le_of_ble_eq_true rfl) ⟨by decide, by decide⟩ dX11_codeword_6 ?_
  intro r9 g6_1 hp9
  obtain ⟨⟨hT_1, hG_1⟩, z6_1, hr9, hz_1⟩ := hp9
  rw [hr9]
  have hF_1 : FR [] h g6_1 := FR_tr hF hG_1 (by decide)
  show TT K ly 0 0 9 [(0, vR 0), (1, vI b), (2, vI i)] [vI z6_1] g6_1
  refine TT_iret hK hQ ?_ dX11_codeword_9
  exact ⟨⟨hT_1, hF_1⟩, z6_1, rfl, (by omega)⟩
set_option maxRecDepth 20000 in
theorem s_X11_least_0 (b p : Int) (h : Hp_) (hT : TY h) (hb : -2147483648 ≤ b ∧ b ≤ 2147483647) (hp : -2147483648 ≤ p ∧ p ≤ 2147483647) : Ctr yX11_least cX11_least 3 (some .int) (rmd 2) ly ly 0 0 [vR 0, vI b, vI p] h (fun r h' => (TY h' ∧ FR [] h h') ∧ ∃ z : Int, r = some (vI z) ∧ (-2147483648 ≤ z ∧ z ≤ 2147483647)) := by
  refine Ctr_of (by decide) (Nat.le_of_ble_eq_true rfl) ⟨Nat.le_refl _, Nat.le_refl _⟩ (fun K hK hQ _ => ?_)
  show TT K ly 0 0 0 [(0, vR 0), (1, vI b), (2, vI p)] [] h
  have hF : FR [] h h := FR_rf _ _
  refine TT_aload_n hK rfl 0 rfl dX11_least_0 ?_
  refine gf_X11_29 hK (by decide) rfl (q := 7) rfl rfl dX11_least_1 ?_
  refine TT_iload_n hK rfl 1 rfl dX11_least_4 ?_
  refine TT_iload_n hK rfl 2 rfl dX11_least_5 ?_
  refine iv_X11_103 hK (s_X3_leastLength_7 b p h hT (by first | omega | (simp [up, setR] <;> omega)) (by first | omega | (simp [up, setR] <;> omega))) (by decide) rfl ⟨by decide, by decide⟩ (by decide) rfl rfl (Nat.le_of_ble_eq_true rfl) ⟨by decide, by decide⟩ dX11_least_6 ?_
  intro r9 g6_1 hp9
  obtain ⟨⟨hT_1, hG_1⟩, z6_1, hr9, hz_1⟩ := hp9
  rw [hr9]
  have hF_1 : FR [] h g6_1 := FR_tr hF hG_1 (by decide)
  show TT K ly 0 0 9 [(0, vR 0), (1, vI b), (2, vI p)] [vI z6_1] g6_1
  refine TT_iret hK hQ ?_ dX11_least_9
  exact ⟨⟨hT_1, hF_1⟩, z6_1, rfl, (by omega)⟩
set_option maxRecDepth 20000 in
theorem s_X11_decode_0 (n : Int) (h : Hp_) (hT : TY h) (hn : -2147483648 ≤ n ∧ n ≤ 2147483647) (hbd : BDQ (h 47) (h 49) (h 48) (h 50)) : CtrB yX11_decode cX11_decode 3 (some .int) rmB ly 1 6 [vR 0, vI n] h (fun r h' => (TY h' ∧ FR [3, 4, 5, 44, 45, 46, 47, 48, 49, 50, 51, 52, 53, 54, 55, 56, 57, 58, 59, 60, 61, 62, 64, 65, 66, 67, 68, 69, 70, 71, 72] h h') ∧ ∃ z : Int, r = some (vI z) ∧ (0 ≤ z ∧ z ≤ 12) ∧ (BDQ (h' 47) (h' 49) (h' 48) (h' 50))) (fun h' => (TY h' ∧ FR [3, 4, 5, 44, 45, 46, 47, 48, 49, 50, 51, 52, 53, 54, 55, 56, 57, 58, 59, 60, 61, 62, 64, 65, 66, 67, 68, 69, 70, 71, 72] h h') ∧ (BDQ (h' 47) (h' 49) (h' 48) (h' 50))) := by
  refine CtrB_of (by decide) (Nat.le_of_ble_eq_true rfl) ⟨by decide, by decide⟩ (fun K hK hQ => ?_)
  show TT K ly 0 0 0 [(0, vR 0), (1, vI n)] [] h
  have hF : FR [3, 4, 5, 44, 45, 46, 47, 48, 49, 50, 51, 52, 53, 54, 55, 56, 57, 58, 59, 60, 61, 62, 64, 65, 66, 67, 68, 69, 70, 71, 72] h h := FR_rf _ _
  refine TT_iload_n hK rfl 1 rfl dX11_decode_0 ?_
  refine TT_iconst hK dX11_decode_1 ?_
  refine TT_icmp_lt hK (tgt := 16) (irm (by omega) (by omega)) (by decide) dX11_decode_2 (by decide) (fun hb2_1 => ?_) (fun hb2_1 => ?_)
  · exact TT_throwB hK hQ 3 (by decide) ⟨⟨hT, hF⟩, (by first | assumption | exact hbd)⟩ (Nat.le_of_ble_eq_true rfl) ⟨by decide, by decide⟩ dX11_decode_16 dX11_decode_19 dX11_decode_20 dX11_decode_22 dX11_decode_25
  · refine TT_iload_n hK rfl 1 rfl dX11_decode_5 ?_
    refine TT_aload_n hK rfl 0 rfl dX11_decode_6 ?_
    refine gf_X11_22 hK (by decide) rfl (q := 5) rfl rfl dX11_decode_7 ?_
    refine iv_X11_81 hK (s_X1_length_5 h hT ) (by decide) rfl ⟨by decide, by decide⟩ (by decide) rfl rfl (Nat.le_of_ble_eq_true rfl) ⟨by decide, by decide⟩ dX11_decode_10 ?_
    intro r9 g10_2 hp9
    obtain ⟨⟨hT_2, hG_2⟩, z10_2, hr9, hz_2⟩ := hp9
    rw [hr9]
    have hF_2 : FR [3, 4, 5, 44, 45, 46, 47, 48, 49, 50, 51, 52, 53, 54, 55, 56, 57, 58, 59, 60, 61, 62, 64, 65, 66, 67, 68, 69, 70, 71, 72] h g10_2 := FR_tr hF hG_2 (by decide)
    show TT K ly 0 0 13 [(0, vR 0), (1, vI n)] [vI z10_2, vI n] g10_2
    refine TT_icmp_le hK (tgt := 26) (irm (by omega) (by omega)) (irm (by omega) (by omega)) dX11_decode_13 (by decide) (fun hb13_3 => ?_) (fun hb13_3 => ?_)
    · refine TT_aload_n hK rfl 0 rfl dX11_decode_26 ?_
      refine gf_X11_36 hK (by decide) rfl (q := 44) rfl rfl dX11_decode_27 ?_
      refine TT_aload_n hK rfl 0 rfl dX11_decode_30 ?_
      refine gf_X11_22 hK (by decide) rfl (q := 5) rfl rfl dX11_decode_31 ?_
      refine TT_iload_n hK rfl 1 rfl dX11_decode_34 ?_
      have e4_47 : g10_2 47 = h 47 := (hG_2 47 (by decide))
      have e5_48 : g10_2 48 = h 48 := (hG_2 48 (by decide))
      have e6_49 : g10_2 49 = h 49 := (hG_2 49 (by decide))
      have e7_50 : g10_2 50 = h 50 := (hG_2 50 (by decide))
      refine iv_X11_108 hK (s_X10_takePackets_44 n g10_2 hT_2 (by first | omega | (simp [up, setR] <;> omega)) (by rewrite [e4_47, e5_48, e6_49, e7_50]; first | assumption | exact hbd)) (by decide) rfl ⟨by decide, by decide⟩ (by decide) rfl rfl (Nat.le_of_ble_eq_true rfl) ⟨by decide, by decide⟩ dX11_decode_35 ?_
      intro r9 g35_8 hp9
      obtain ⟨⟨hT_8, hG_8⟩, z35_8, hr9, hz_8, p1_8⟩ := hp9
      rw [hr9]
      have hF_8 : FR [3, 4, 5, 44, 45, 46, 47, 48, 49, 50, 51, 52, 53, 54, 55, 56, 57, 58, 59, 60, 61, 62, 64, 65, 66, 67, 68, 69, 70, 71, 72] h g35_8 := FR_tr hF_2 hG_8 (by decide)
      show TT K ly 0 0 38 [(0, vR 0), (1, vI n)] [vI z35_8] g35_8
      refine TT_istore_n hK rfl (lv' := [(2, vI z35_8), (0, vR 0), (1, vI n)]) (by decide) rfl dX11_decode_38 ?_
      refine TT_iload_n hK rfl 0 rfl dX11_decode_39 ?_
      refine TT_if_ge hK (tgt := 53) (irm (by omega) (by omega)) dX11_decode_40 (by decide) (fun hb40_9 => ?_) (fun hb40_9 => ?_)
      · refine TT_aload_n hK rfl 1 rfl dX11_decode_53 ?_
        refine gf_X11_36 hK (by decide) rfl (q := 44) rfl rfl dX11_decode_54 ?_
        refine TT_aload_n hK rfl 1 rfl dX11_decode_57 ?_
        refine gf_X11_22 hK (by decide) rfl (q := 5) rfl rfl dX11_decode_58 ?_
        refine TT_aload_n hK rfl 1 rfl dX11_decode_61 ?_
        refine gf_X11_16 hK (by decide) rfl (q := 3) rfl rfl dX11_decode_62 ?_
        refine iv_X11_114 hK (s_X10_restore_44 g35_8 hT_8 (by first | assumption | exact hbd)) (by decide) rfl ⟨by decide, by decide⟩ (by decide) rfl rfl (Nat.le_of_ble_eq_true rfl) ⟨by decide, by decide⟩ dX11_decode_65 ?_
        intro r9 g65_10 hp9
        obtain ⟨⟨hT_10, hG_10⟩, hr9, p1_10⟩ := hp9
        rw [hr9]
        have hF_10 : FR [3, 4, 5, 44, 45, 46, 47, 48, 49, 50, 51, 52, 53, 54, 55, 56, 57, 58, 59, 60, 61, 62, 64, 65, 66, 67, 68, 69, 70, 71, 72] h g65_10 := FR_tr hF_8 hG_10 (by decide)
        show TT K ly 0 0 68 [(2, vI z35_8), (0, vR 0), (1, vI n)] [] g65_10
        refine TT_iload_n hK rfl 0 rfl dX11_decode_68 ?_
        refine TT_widen (kc' := 1) (ks' := 6) (by decide) (by decide) ?_
        refine TT_iretB hK hQ ?_ dX11_decode_69
        have e11_47 : g65_10 47 = g35_8 47 := (hG_10 47 (by decide))
        have e12_48 : g65_10 48 = g35_8 48 := (hG_10 48 (by decide))
        have e13_49 : g65_10 49 = g35_8 49 := (hG_10 49 (by decide))
        have e14_50 : g65_10 50 = g35_8 50 := (hG_10 50 (by decide))
        exact ⟨⟨hT_10, hF_10⟩, z35_8, rfl, (by omega), (by rewrite [e11_47, e12_48, e13_49, e14_50]; first | assumption | exact hbd)⟩
      · exact TT_throwB hK hQ 4 (by decide) ⟨⟨hT_8, hF_8⟩, (by first | assumption | exact hbd)⟩ (Nat.le_of_ble_eq_true rfl) ⟨by decide, by decide⟩ dX11_decode_43 dX11_decode_46 dX11_decode_47 dX11_decode_49 dX11_decode_52
    · have e15_47 : g10_2 47 = h 47 := (hG_2 47 (by decide))
      have e16_48 : g10_2 48 = h 48 := (hG_2 48 (by decide))
      have e17_49 : g10_2 49 = h 49 := (hG_2 49 (by decide))
      have e18_50 : g10_2 50 = h 50 := (hG_2 50 (by decide))
      exact TT_throwB hK hQ 3 (by decide) ⟨⟨hT_2, hF_2⟩, (by rewrite [e15_47, e16_48, e17_49, e18_50]; first | assumption | exact hbd)⟩ (Nat.le_of_ble_eq_true rfl) ⟨by decide, by decide⟩ dX11_decode_16 dX11_decode_19 dX11_decode_20 dX11_decode_22 dX11_decode_25
set_option maxRecDepth 20000 in
theorem s_X11_decoded_0 (x y : Int) (h : Hp_) (hT : TY h) (hx : -2147483648 ≤ x ∧ x ≤ 2147483647) (hy : -2147483648 ≤ y ∧ y ≤ 2147483647) : Ctr yX11_decoded cX11_decoded 3 (some .int) (rmd 2) ly ly 0 0 [vR 0, vI x, vI y] h (fun r h' => (TY h' ∧ FR [] h h') ∧ ∃ z : Int, r = some (vI z) ∧ (-100000 ≤ z ∧ z ≤ 255)) := by
  refine Ctr_of (by decide) (Nat.le_of_ble_eq_true rfl) ⟨Nat.le_refl _, Nat.le_refl _⟩ (fun K hK hQ _ => ?_)
  show TT K ly 0 0 0 [(0, vR 0), (1, vI x), (2, vI y)] [] h
  have hF : FR [] h h := FR_rf _ _
  refine TT_aload_n hK rfl 0 rfl dX11_decoded_0 ?_
  refine gf_X11_16 hK (by decide) rfl (q := 3) rfl rfl dX11_decoded_1 ?_
  refine TT_iload_n hK rfl 1 rfl dX11_decoded_4 ?_
  refine TT_iload_n hK rfl 2 rfl dX11_decoded_5 ?_
  refine iv_X11_65 hK (s_X5_at_3 x y h hT (by first | omega | (simp [up, setR] <;> omega)) (by first | omega | (simp [up, setR] <;> omega))) (by decide) rfl ⟨by decide, by decide⟩ (by decide) rfl rfl (Nat.le_of_ble_eq_true rfl) ⟨by decide, by decide⟩ dX11_decoded_6 ?_
  intro r9 g6_1 hp9
  obtain ⟨⟨hT_1, hG_1⟩, z6_1, hr9, hz_1⟩ := hp9
  rw [hr9]
  have hF_1 : FR [] h g6_1 := FR_tr hF hG_1 (by decide)
  show TT K ly 0 0 9 [(0, vR 0), (1, vI x), (2, vI y)] [vI z6_1] g6_1
  refine TT_iret hK hQ ?_ dX11_decoded_9
  exact ⟨⟨hT_1, hF_1⟩, z6_1, rfl, (by omega)⟩
set_option maxRecDepth 20000 in
theorem s_X11_taken_0 (b : Int) (h : Hp_) (hT : TY h) (hb : -2147483648 ≤ b ∧ b ≤ 2147483647) : Ctr yX11_taken cX11_taken 2 (some .int) (rmd 1) ly ly 0 0 [vR 0, vI b] h (fun r h' => (TY h' ∧ FR [] h h') ∧ ∃ z : Int, r = some (vI z) ∧ (-2147483648 ≤ z ∧ z ≤ 2147483647)) := by
  refine Ctr_of (by decide) (Nat.le_of_ble_eq_true rfl) ⟨Nat.le_refl _, Nat.le_refl _⟩ (fun K hK hQ _ => ?_)
  show TT K ly 0 0 0 [(0, vR 0), (1, vI b)] [] h
  have hF : FR [] h h := FR_rf _ _
  refine TT_aload_n hK rfl 0 rfl dX11_taken_0 ?_
  refine gf_X11_36 hK (by decide) rfl (q := 44) rfl rfl dX11_taken_1 ?_
  refine TT_iload_n hK rfl 1 rfl dX11_taken_4 ?_
  refine iv_X11_118 hK (s_X10_passesTaken_44 b h hT (by first | omega | (simp [up, setR] <;> omega))) (by decide) rfl ⟨by decide, by decide⟩ (by decide) rfl rfl (Nat.le_of_ble_eq_true rfl) ⟨by decide, by decide⟩ dX11_taken_5 ?_
  intro r9 g5_1 hp9
  obtain ⟨⟨hT_1, hG_1⟩, z5_1, hr9, hz_1⟩ := hp9
  rw [hr9]
  have hF_1 : FR [] h g5_1 := FR_tr hF hG_1 (by decide)
  show TT K ly 0 0 8 [(0, vR 0), (1, vI b)] [vI z5_1] g5_1
  refine TT_iret hK hQ ?_ dX11_taken_8
  exact ⟨⟨hT_1, hF_1⟩, z5_1, rfl, (by omega)⟩
set_option maxRecDepth 20000 in
theorem s_X11_difference_0 (h : Hp_) (hT : TY h)  : Ctr yX11_difference cX11_difference 1 (some .int) (rmd 2) ly ly 0 0 [vR 0] h (fun r h' => (TY h' ∧ FR [] h h') ∧ ∃ z : Int, r = some (vI z) ∧ (-100000 ≤ z ∧ z ≤ 255)) := by
  refine Ctr_of (by decide) (Nat.le_of_ble_eq_true rfl) ⟨Nat.le_refl _, Nat.le_refl _⟩ (fun K hK hQ _ => ?_)
  show TT K ly 0 0 0 [(0, vR 0)] [] h
  have hF : FR [] h h := FR_rf _ _
  refine TT_aload_n hK rfl 0 rfl dX11_difference_0 ?_
  refine gf_X11_10 hK (by decide) rfl (q := 1) rfl rfl dX11_difference_1 ?_
  refine TT_aload_n hK rfl 0 rfl dX11_difference_4 ?_
  refine gf_X11_16 hK (by decide) rfl (q := 3) rfl rfl dX11_difference_5 ?_
  refine iv_X11_121 hK (s_X5_greatestDifference_1 h hT ) (by decide) rfl ⟨by decide, by decide⟩ (by decide) rfl rfl (Nat.le_of_ble_eq_true rfl) ⟨by decide, by decide⟩ dX11_difference_8 ?_
  intro r9 g8_1 hp9
  obtain ⟨⟨hT_1, hG_1⟩, z8_1, hr9, hz_1⟩ := hp9
  rw [hr9]
  have hF_1 : FR [] h g8_1 := FR_tr hF hG_1 (by decide)
  show TT K ly 0 0 11 [(0, vR 0)] [vI z8_1] g8_1
  refine TT_iret hK hQ ?_ dX11_difference_11
  exact ⟨⟨hT_1, hF_1⟩, z8_1, rfl, (by omega)⟩
set_option maxRecDepth 20000 in
theorem s_isPixel_x (x y : Int) (h : Hp_) (hT : TY h) (hx : -2147483648 ≤ x ∧ x ≤ 2147483647) (hy : -2147483648 ≤ y ∧ y ≤ 2147483647) : Ctr yX12_isPixel cX12_isPixel 3 (some .boolean) (rmd 1) ly ly 0 0 [vR 73, vI x, vI y] h (fun r h' => (TY h' ∧ FRM [] [] h h') ∧ ∃ z : Int, r = some (vI z) ∧ (0 ≤ z ∧ z ≤ 1) ∧ (z = 1 → (0 ≤ x ∧ x ≤ (h 73 3) - 1) ∧ (0 ≤ y ∧ y ≤ (h 73 4) - 1)) ∧ (z = 0 → ¬((0 ≤ x ∧ x ≤ (h 73 3) - 1) ∧ (0 ≤ y ∧ y ≤ (h 73 4) - 1))) ∧ (z = 1 → x < 8 ∧ y < 8)) := by
  refine Ctr_of (by decide) (Nat.le_of_ble_eq_true rfl) ⟨Nat.le_refl _, Nat.le_refl _⟩ (fun K hK hQ _ => ?_)
  show TT K ly 0 0 0 [(0, vR 73), (1, vI x), (2, vI y)] [] h
  have hF : FRM [] [] h h := FRM_rf _ _ _
  refine TT_iload_n hK rfl 1 rfl dX12_isPixel_0 ?_
  refine TT_iconst hK dX12_isPixel_1 ?_
  refine TT_aload_n hK rfl 0 rfl dX12_isPixel_2 ?_
  refine gf_X12_16 hK (by decide) rfl (v := (h 73) 3) rfl dX12_isPixel_3 ?_
  have r1 := ty_73_3 (v := (h 73) 3) hT rfl
  refine TT_iconst hK dX12_isPixel_6 ?_
  refine TT_isub hK dX12_isPixel_7 ?_
  refine iv_X12_120 hK (s_X12_within x 0 (((h 73) 3) - 1) h hT (by first | omega | (simp [up, setR] <;> omega)) (by first | omega | (simp [up, setR] <;> omega)) (by first | omega | (simp [up, setR] <;> omega))) ⟨by decide, by decide⟩ (by decide) rfl rfl (Nat.le_of_ble_eq_true rfl) ⟨by decide, by decide⟩ dX12_isPixel_8 ?_
  intro r9 g8_2 hp9
  obtain ⟨⟨hT_2, hG_2⟩, z8_2, hr9, hz_2, p1_2, p2_2⟩ := hp9
  rw [hr9]
  have hF_2 : FRM [] [] h g8_2 := FRM_tr hF hG_2 (by decide) (by decide)
  show TT K ly 0 0 11 [(0, vR 73), (1, vI x), (2, vI y)] [vI z8_2] g8_2
  refine TT_if_eq hK (tgt := 32) (irm (by omega) (by omega)) dX12_isPixel_11 (by decide) (fun hb11_3 => ?_) (fun hb11_3 => ?_)
  · refine TT_iconst hK dX12_isPixel_32 ?_
    refine TT_zret hK hQ (by decide) ?_ dX12_isPixel_33
    exact ⟨⟨hT_2, hF_2⟩, 0, rfl, (by omega), (by omega), (by omega), (by omega)⟩
  · refine TT_iload_n hK rfl 2 rfl dX12_isPixel_14 ?_
    refine TT_iconst hK dX12_isPixel_15 ?_
    refine TT_aload_n hK rfl 0 rfl dX12_isPixel_16 ?_
    refine gf_X12_20 hK (by decide) rfl (v := (h 73) 4) (congrFun (hG_2.1 73 (by decide)) 4) dX12_isPixel_17 ?_
    have r4 := ty_73_4 (v := (h 73) 4) hT_2 (congrFun (hG_2.1 73 (by decide)) 4)
    refine TT_iconst hK dX12_isPixel_20 ?_
    refine TT_isub hK dX12_isPixel_21 ?_
    refine iv_X12_120 hK (s_X12_within y 0 (((h 73) 4) - 1) g8_2 hT_2 (by first | omega | (simp [up, setR] <;> omega)) (by first | omega | (simp [up, setR] <;> omega)) (by first | omega | (simp [up, setR] <;> omega))) ⟨by decide, by decide⟩ (by decide) rfl rfl (Nat.le_of_ble_eq_true rfl) ⟨by decide, by decide⟩ dX12_isPixel_22 ?_
    intro r9 g22_5 hp9
    obtain ⟨⟨hT_5, hG_5⟩, z22_5, hr9, hz_5, p1_5, p2_5⟩ := hp9
    rw [hr9]
    have hF_5 : FRM [] [] h g22_5 := FRM_tr hF_2 hG_5 (by decide) (by decide)
    show TT K ly 0 0 25 [(0, vR 73), (1, vI x), (2, vI y)] [vI z22_5] g22_5
    refine TT_if_eq hK (tgt := 32) (irm (by omega) (by omega)) dX12_isPixel_25 (by decide) (fun hb25_6 => ?_) (fun hb25_6 => ?_)
    · refine TT_iconst hK dX12_isPixel_32 ?_
      refine TT_zret hK hQ (by decide) ?_ dX12_isPixel_33
      exact ⟨⟨hT_5, hF_5⟩, 0, rfl, (by omega), (by omega), (by omega), (by omega)⟩
    · refine TT_iconst hK dX12_isPixel_28 ?_
      refine TT_goto hK (tgt := 33) dX12_isPixel_29 (by decide) ?_
      refine TT_zret hK hQ (by decide) ?_ dX12_isPixel_33
      exact ⟨⟨hT_5, hF_5⟩, 1, rfl, (by omega), (by omega), (by omega), (by omega)⟩
set_option maxRecDepth 20000 in
theorem s_rpicture_x (w e : Int) (h : Hp_) (hT : TY h) (hw : -2147483648 ≤ w ∧ w ≤ 2147483647) (he : -2147483648 ≤ e ∧ e ≤ 2147483647) : Ctr yX12_picture cX12_picture 4 none (rmd 1) ly ly 0 0 [vR 73, vI w, vI e] h (fun r h' => (TY h' ∧ FRM [73, 76] [2, 3, 4] h h') ∧ r = none ∧ (((h' 73 2) = 0 ∧ ((1 ≤ w ∧ w ≤ 8) ∧ (1 ≤ e ∧ e ≤ 8)) ∧ (h' 73 3) = w ∧ (h' 73 4) = e ∧ ∀ j : Int, 0 ≤ j → j < 64 → (h' 76) j = 0) ∨ ((h' 73 2) = 1 ∧ ¬((1 ≤ w ∧ w ≤ 8) ∧ (1 ≤ e ∧ e ≤ 8)) ∧ (h' 73 3) = (h 73 3) ∧ (h' 73 4) = (h 73 4) ∧ (h' 76) = (h 76)))) := by
  refine Ctr_of (by decide) (Nat.le_of_ble_eq_true rfl) ⟨Nat.le_refl _, Nat.le_refl _⟩ (fun K hK hQ _ => ?_)
  show TT K ly 0 0 0 [(0, vR 73), (1, vI w), (2, vI e)] [] h
  have hF : FRM [73, 76] [2, 3, 4] h h := FRM_rf _ _ _
  refine TT_aload_n hK rfl 0 rfl dX12_picture_0 ?_
  refine TT_iload_n hK rfl 1 rfl dX12_picture_1 ?_
  refine TT_iconst hK dX12_picture_2 ?_
  refine TT_bipush hK (by decide) dX12_picture_3 ?_
  refine iv_X12_120 hK (s_X12_within w 1 8 h hT (by first | omega | (simp [up, setR] <;> omega)) (by first | omega | (simp [up, setR] <;> omega)) (by first | omega | (simp [up, setR] <;> omega))) ⟨by decide, by decide⟩ (by decide) rfl rfl (Nat.le_of_ble_eq_true rfl) ⟨by decide, by decide⟩ dX12_picture_5 ?_
  intro r9 g5_1 hp9
  obtain ⟨⟨hT_1, hG_1⟩, z5_1, hr9, hz_1, p1_1, p2_1⟩ := hp9
  rw [hr9]
  have hF_1 : FRM [73, 76] [2, 3, 4] h g5_1 := FRM_tr hF hG_1 (by decide) (by decide)
  show TT K ly 0 0 8 [(0, vR 73), (1, vI w), (2, vI e)] [vI z5_1, vR 73] g5_1
  refine TT_if_eq hK (tgt := 25) (irm (by omega) (by omega)) dX12_picture_8 (by decide) (fun hb8_2 => ?_) (fun hb8_2 => ?_)
  · refine TT_iconst hK dX12_picture_25 ?_
    refine pf_X12_117 hK (by decide) rfl dX12_picture_26 ?_
    refine TT_hp (h' := setO g5_1 73 (fup (h 73) 2 1)) (up_can (hG_1.1 73 (by decide)) rfl rfl) ?_
    have hT_3 : TY (setO g5_1 73 (fup (h 73) 2 1)) := tu_73_2 hT_1 (show up g5_1 73 2 1 = (setO g5_1 73 (fup (h 73) 2 1)) from up_can (hG_1.1 73 (by decide)) rfl rfl) (by omega)
    have hF_3 : FRM [73, 76] [2, 3, 4] h (setO g5_1 73 (fup (h 73) 2 1)) := FRM_f (show up g5_1 73 2 1 = (setO g5_1 73 (fup (h 73) 2 1)) from up_can (hG_1.1 73 (by decide)) rfl rfl) hF_1 (by decide) (by decide)
    refine TT_aload_n hK rfl 0 rfl dX12_picture_29 ?_
    refine gf_X12_117 hK (by decide) rfl (v := 1) (rd_ (sOf_eq _ _ _) (fup_eq _ _ _)) dX12_picture_30 ?_
    refine TT_if_ne hK (tgt := 67) (by decide) dX12_picture_33 (by decide) (fun hb33_4 => ?_) (fun hb33_4 => ?_)
    · refine TT_vret hK hQ ?_ dX12_picture_67
      have e5_73_2 : (setO g5_1 73 (fup (h 73) 2 1)) 73 2 = 1 := rd_ (sOf_eq _ _ _) (fup_eq _ _ _)
      have e6_73_3 : (setO g5_1 73 (fup (h 73) 2 1)) 73 3 = (h 73) 3 := rd_ (sOf_eq _ _ _) (fup_ne _ _ (by decide))
      have e7_73_4 : (setO g5_1 73 (fup (h 73) 2 1)) 73 4 = (h 73) 4 := rd_ (sOf_eq _ _ _) (fup_ne _ _ (by decide))
      have e8_76 : (setO g5_1 73 (fup (h 73) 2 1)) 76 = h 76 := (sOf_ne _ _ (by decide)).trans (hG_1.1 76 (by decide))
      exact ⟨⟨hT_3, hF_3⟩, rfl, (by rewrite [e5_73_2, e6_73_3, e7_73_4, e8_76]; first | exact Or.inl ⟨by omega, ⟨by omega, by omega⟩, by omega, by omega, fun j h1 h2 => hz j h1 (by omega)⟩ | exact Or.inr ⟨by omega, by omega, by omega, by omega, rfl⟩)⟩
    · exact absurd hb33_4 (by decide)
  · refine TT_iload_n hK rfl 2 rfl dX12_picture_11 ?_
    refine TT_iconst hK dX12_picture_12 ?_
    refine TT_bipush hK (by decide) dX12_picture_13 ?_
    refine iv_X12_120 hK (s_X12_within e 1 8 g5_1 hT_1 (by first | omega | (simp [up, setR] <;> omega)) (by first | omega | (simp [up, setR] <;> omega)) (by first | omega | (simp [up, setR] <;> omega))) ⟨by decide, by decide⟩ (by decide) rfl rfl (Nat.le_of_ble_eq_true rfl) ⟨by decide, by decide⟩ dX12_picture_15 ?_
    intro r9 g15_9 hp9
    obtain ⟨⟨hT_9, hG_9⟩, z15_9, hr9, hz_9, p1_9, p2_9⟩ := hp9
    rw [hr9]
    have hF_9 : FRM [73, 76] [2, 3, 4] h g15_9 := FRM_tr hF_1 hG_9 (by decide) (by decide)
    show TT K ly 0 0 18 [(0, vR 73), (1, vI w), (2, vI e)] [vI z15_9, vR 73] g15_9
    refine TT_if_eq hK (tgt := 25) (irm (by omega) (by omega)) dX12_picture_18 (by decide) (fun hb18_10 => ?_) (fun hb18_10 => ?_)
    · refine TT_iconst hK dX12_picture_25 ?_
      refine pf_X12_117 hK (by decide) rfl dX12_picture_26 ?_
      refine TT_hp (h' := setO g15_9 73 (fup (h 73) 2 1)) (up_can (((hG_9.1 73 (by decide))).trans (hG_1.1 73 (by decide))) rfl rfl) ?_
      have hT_11 : TY (setO g15_9 73 (fup (h 73) 2 1)) := tu_73_2 hT_9 (show up g15_9 73 2 1 = (setO g15_9 73 (fup (h 73) 2 1)) from up_can (((hG_9.1 73 (by decide))).trans (hG_1.1 73 (by decide))) rfl rfl) (by omega)
      have hF_11 : FRM [73, 76] [2, 3, 4] h (setO g15_9 73 (fup (h 73) 2 1)) := FRM_f (show up g15_9 73 2 1 = (setO g15_9 73 (fup (h 73) 2 1)) from up_can (((hG_9.1 73 (by decide))).trans (hG_1.1 73 (by decide))) rfl rfl) hF_9 (by decide) (by decide)
      refine TT_aload_n hK rfl 0 rfl dX12_picture_29 ?_
      refine gf_X12_117 hK (by decide) rfl (v := 1) (rd_ (sOf_eq _ _ _) (fup_eq _ _ _)) dX12_picture_30 ?_
      refine TT_if_ne hK (tgt := 67) (by decide) dX12_picture_33 (by decide) (fun hb33_12 => ?_) (fun hb33_12 => ?_)
      · refine TT_vret hK hQ ?_ dX12_picture_67
        have e13_73_2 : (setO g15_9 73 (fup (h 73) 2 1)) 73 2 = 1 := rd_ (sOf_eq _ _ _) (fup_eq _ _ _)
        have e14_73_3 : (setO g15_9 73 (fup (h 73) 2 1)) 73 3 = (h 73) 3 := rd_ (sOf_eq _ _ _) (fup_ne _ _ (by decide))
        have e15_73_4 : (setO g15_9 73 (fup (h 73) 2 1)) 73 4 = (h 73) 4 := rd_ (sOf_eq _ _ _) (fup_ne _ _ (by decide))
        have e16_76 : (setO g15_9 73 (fup (h 73) 2 1)) 76 = h 76 := (sOf_ne _ _ (by decide)).trans (((hG_9.1 76 (by decide))).trans (hG_1.1 76 (by decide)))
        exact ⟨⟨hT_11, hF_11⟩, rfl, (by rewrite [e13_73_2, e14_73_3, e15_73_4, e16_76]; first | exact Or.inl ⟨by omega, ⟨by omega, by omega⟩, by omega, by omega, fun j h1 h2 => hz j h1 (by omega)⟩ | exact Or.inr ⟨by omega, by omega, by omega, by omega, rfl⟩)⟩
      · exact absurd hb33_12 (by decide)
    · refine TT_iconst hK dX12_picture_21 ?_
      refine TT_goto hK (tgt := 26) dX12_picture_22 (by decide) ?_
      refine pf_X12_117 hK (by decide) rfl dX12_picture_26 ?_
      refine TT_hp (h' := setO g15_9 73 (fup (h 73) 2 0)) (up_can (((hG_9.1 73 (by decide))).trans (hG_1.1 73 (by decide))) rfl rfl) ?_
      have hT_17 : TY (setO g15_9 73 (fup (h 73) 2 0)) := tu_73_2 hT_9 (show up g15_9 73 2 0 = (setO g15_9 73 (fup (h 73) 2 0)) from up_can (((hG_9.1 73 (by decide))).trans (hG_1.1 73 (by decide))) rfl rfl) (by omega)
      have hF_17 : FRM [73, 76] [2, 3, 4] h (setO g15_9 73 (fup (h 73) 2 0)) := FRM_f (show up g15_9 73 2 0 = (setO g15_9 73 (fup (h 73) 2 0)) from up_can (((hG_9.1 73 (by decide))).trans (hG_1.1 73 (by decide))) rfl rfl) hF_9 (by decide) (by decide)
      refine TT_aload_n hK rfl 0 rfl dX12_picture_29 ?_
      refine gf_X12_117 hK (by decide) rfl (v := 0) (rd_ (sOf_eq _ _ _) (fup_eq _ _ _)) dX12_picture_30 ?_
      refine TT_if_ne hK (tgt := 67) (by decide) dX12_picture_33 (by decide) (fun hb33_18 => ?_) (fun hb33_18 => ?_)
      · exact absurd hb33_18 (by decide)
      · refine TT_aload_n hK rfl 0 rfl dX12_picture_36 ?_
        refine TT_iload_n hK rfl 1 rfl dX12_picture_37 ?_
        refine pf_X12_16 hK (by decide) rfl dX12_picture_38 ?_
        refine TT_hp (h' := setO g15_9 73 (fup (fup (h 73) 2 0) 3 w)) (up_can (sOf_eq _ _ _) rfl (setO_same _ _ _ _)) ?_
        have hT_19 : TY (setO g15_9 73 (fup (fup (h 73) 2 0) 3 w)) := tu_73_3 hT_17 (show up (setO g15_9 73 (fup (h 73) 2 0)) 73 3 w = (setO g15_9 73 (fup (fup (h 73) 2 0) 3 w)) from up_can (sOf_eq _ _ _) rfl (setO_same _ _ _ _)) (by omega)
        have hF_19 : FRM [73, 76] [2, 3, 4] h (setO g15_9 73 (fup (fup (h 73) 2 0) 3 w)) := FRM_f (show up (setO g15_9 73 (fup (h 73) 2 0)) 73 3 w = (setO g15_9 73 (fup (fup (h 73) 2 0) 3 w)) from up_can (sOf_eq _ _ _) rfl (setO_same _ _ _ _)) hF_17 (by decide) (by decide)
        refine TT_aload_n hK rfl 0 rfl dX12_picture_41 ?_
        refine TT_iload_n hK rfl 2 rfl dX12_picture_42 ?_
        refine pf_X12_20 hK (by decide) rfl dX12_picture_43 ?_
        refine TT_hp (h' := setO g15_9 73 (fup (fup (fup (h 73) 2 0) 3 w) 4 e)) (up_can (sOf_eq _ _ _) rfl (setO_same _ _ _ _)) ?_
        have hT_20 : TY (setO g15_9 73 (fup (fup (fup (h 73) 2 0) 3 w) 4 e)) := tu_73_4 hT_19 (show up (setO g15_9 73 (fup (fup (h 73) 2 0) 3 w)) 73 4 e = (setO g15_9 73 (fup (fup (fup (h 73) 2 0) 3 w) 4 e)) from up_can (sOf_eq _ _ _) rfl (setO_same _ _ _ _)) (by omega)
        have hF_20 : FRM [73, 76] [2, 3, 4] h (setO g15_9 73 (fup (fup (fup (h 73) 2 0) 3 w) 4 e)) := FRM_f (show up (setO g15_9 73 (fup (fup (h 73) 2 0) 3 w)) 73 4 e = (setO g15_9 73 (fup (fup (fup (h 73) 2 0) 3 w) 4 e)) from up_can (sOf_eq _ _ _) rfl (setO_same _ _ _ _)) hF_19 (by decide) (by decide)
        refine TT_iconst hK dX12_picture_46 ?_
        refine TT_istore_n hK rfl (lv' := [(3, vI 0), (0, vR 73), (1, vI w), (2, vI e)]) (by decide) rfl dX12_picture_47 ?_
        have L48_21 : ∀ (k21 : Nat) (k : Int) (w48_21 : Hp_), TY w48_21 → FRM [73, 76] [2, 3, 4] h w48_21 → (0 ≤ k ∧ k ≤ 64) → ((w48_21 73 2) = 0) → ((w48_21 73 3) = w) → ((w48_21 73 4) = e) → (∀ j : Int, 0 ≤ j → j < k → (w48_21 76) j = 0) → ((64 : Int) - k).toNat < k21 → TT K ly 0 0 48 [(0, vR 73), (1, vI w), (2, vI e), (3, vI k)] [] w48_21 := by
          intro k21
          induction k21 with
          | zero => intro k w48_21 hT48_21 hF48_21 hk k2 k3 k4 hz hk21; exact absurd hk21 (Nat.not_lt_zero _)
          | succ k21 ih21 =>
            intro k w48_21 hT48_21 hF48_21 hk k2 k3 k4 hz hk21
            refine TT_iload_n hK rfl 3 rfl dX12_picture_48 ?_
            refine TT_bipush hK (by decide) dX12_picture_49 ?_
            refine TT_icmp_ge hK (tgt := 67) (irm (by omega) (by omega)) (by decide) dX12_picture_51 (by decide) (fun hb51_22 => ?_) (fun hb51_22 => ?_)
            · refine TT_vret hK hQ ?_ dX12_picture_67
              have e23_73_2 : w48_21 73 2 = (w48_21 73) 2 := rfl
              have e24_73_3 : w48_21 73 3 = (w48_21 73) 3 := rfl
              have e25_73_4 : w48_21 73 4 = (w48_21 73) 4 := rfl
              exact ⟨⟨hT48_21, hF48_21⟩, rfl, (by rewrite [e23_73_2, e24_73_3, e25_73_4]; first | exact Or.inl ⟨by omega, ⟨by omega, by omega⟩, by omega, by omega, fun j h1 h2 => hz j h1 (by omega)⟩ | exact Or.inr ⟨by omega, by omega, by omega, by omega, rfl⟩)⟩
            · refine TT_aload_n hK rfl 0 rfl dX12_picture_54 ?_
              refine gf_X12_23 hK (by decide) rfl (q := 76) rfl rfl dX12_picture_55 ?_
              refine TT_iload_n hK rfl 3 rfl dX12_picture_58 ?_
              refine TT_iconst hK dX12_picture_59 ?_
              refine TT_iast hK (o := 76) (n := 64) (by decide) rfl (by omega) (by omega) dX12_picture_60 ?_
              refine TT_hp (h' := setO w48_21 76 (fup (w48_21 76) k 0)) (up_can rfl rfl rfl) ?_
              have hT_26 : TY (setO w48_21 76 (fup (w48_21 76) k 0)) := tu_76 hT48_21 (show up w48_21 76 k 0 = (setO w48_21 76 (fup (w48_21 76) k 0)) from up_can rfl rfl rfl) (by omega)
              have hF_26 : FRM [73, 76] [2, 3, 4] h (setO w48_21 76 (fup (w48_21 76) k 0)) := FRM_up (show up w48_21 76 k 0 = (setO w48_21 76 (fup (w48_21 76) k 0)) from up_can rfl rfl rfl) hF48_21 (by decide) (by decide)
              refine TT_iinc hK (v := k + 1) (lv' := [(3, vI (k + 1)), (0, vR 73), (1, vI w), (2, vI e)]) 3 rfl rfl (by decide) rfl dX12_picture_61 ?_
              refine TT_goto hK (tgt := 48) dX12_picture_64 (by decide) ?_
              refine TT_sub [1, 2, 3, 0] rfl ?_
              have e27_73_2 : (setO w48_21 76 (fup (w48_21 76) k 0)) 73 2 = (w48_21 73) 2 := rd_ (sOf_ne _ _ (by decide)) rfl
              have e28_73_3 : (setO w48_21 76 (fup (w48_21 76) k 0)) 73 3 = (w48_21 73) 3 := rd_ (sOf_ne _ _ (by decide)) rfl
              have e29_73_4 : (setO w48_21 76 (fup (w48_21 76) k 0)) 73 4 = (w48_21 73) 4 := rd_ (sOf_ne _ _ (by decide)) rfl
              have e30_76 : (setO w48_21 76 (fup (w48_21 76) k 0)) 76 = fup (w48_21 76) k 0 := sOf_eq _ _ _
              exact ih21 (k + 1) (setO w48_21 76 (fup (w48_21 76) k 0)) hT_26 hF_26 (by first | omega | (simp [up, setR] <;> omega)) (by rewrite [e27_73_2]; first | omega | (simp [up, setR] <;> omega)) (by rewrite [e28_73_3]; first | omega | (simp [up, setR] <;> omega)) (by rewrite [e29_73_4]; first | omega | (simp [up, setR] <;> omega)) (by rewrite [e30_76]; intro j h1 h2; by_cases e : j = k; (rw [e, fup_eq]); (rw [fup_ne _ _ e]; exact hz j h1 (by omega))) (by first | omega | (simp [up, setR] <;> omega))
        refine TT_sub [1, 2, 3, 0] rfl ?_
        have e31_73_2 : (setO g15_9 73 (fup (fup (fup (h 73) 2 0) 3 w) 4 e)) 73 2 = 0 := rd_ (sOf_eq _ _ _) ((fup_ne _ _ (by decide)).trans ((fup_ne _ _ (by decide)).trans (fup_eq _ _ _)))
        have e32_73_3 : (setO g15_9 73 (fup (fup (fup (h 73) 2 0) 3 w) 4 e)) 73 3 = w := rd_ (sOf_eq _ _ _) ((fup_ne _ _ (by decide)).trans (fup_eq _ _ _))
        have e33_73_4 : (setO g15_9 73 (fup (fup (fup (h 73) 2 0) 3 w) 4 e)) 73 4 = e := rd_ (sOf_eq _ _ _) (fup_eq _ _ _)
        have e34_76 : (setO g15_9 73 (fup (fup (fup (h 73) 2 0) 3 w) 4 e)) 76 = h 76 := (sOf_ne _ _ (by decide)).trans (((hG_9.1 76 (by decide))).trans (hG_1.1 76 (by decide)))
        exact L48_21 ((((64 : Int) - 0).toNat) + 1) 0 (setO g15_9 73 (fup (fup (fup (h 73) 2 0) 3 w) 4 e)) hT_20 hF_20 (by first | omega | (simp [up, setR] <;> omega)) (by rewrite [e31_73_2]; first | omega | (simp [up, setR] <;> omega)) (by rewrite [e32_73_3]; first | omega | (simp [up, setR] <;> omega)) (by rewrite [e33_73_4]; first | omega | (simp [up, setR] <;> omega)) (by rewrite [e34_76]; intro j h1 h2; exfalso; omega) (Nat.lt_succ_self _)
set_option maxRecDepth 20000 in
theorem s_rpaint_x (x y v : Int) (h : Hp_) (hT : TY h) (hx : -2147483648 ≤ x ∧ x ≤ 2147483647) (hy : -2147483648 ≤ y ∧ y ≤ 2147483647) (hv : -2147483648 ≤ v ∧ v ≤ 2147483647) : Ctr yX12_paint cX12_paint 4 none (rmd 2) ly ly 0 0 [vR 73, vI x, vI y, vI v] h (fun r h' => (TY h' ∧ FRM [73, 76] [2] h h') ∧ r = none ∧ (((h' 73 2) = 0 ∧ (((0 ≤ x ∧ x ≤ (h 73 3) - 1) ∧ (0 ≤ y ∧ y ≤ (h 73 4) - 1)) ∧ (0 ≤ v ∧ v ≤ 255)) ∧ (h' 76) = fup (h 76) (8 * y + x) v) ∨ ((h' 73 2) = 1 ∧ ¬(((0 ≤ x ∧ x ≤ (h 73 3) - 1) ∧ (0 ≤ y ∧ y ≤ (h 73 4) - 1)) ∧ (0 ≤ v ∧ v ≤ 255)) ∧ (h' 76) = (h 76)))) := by
  refine Ctr_of (by decide) (Nat.le_of_ble_eq_true rfl) ⟨Nat.le_refl _, Nat.le_refl _⟩ (fun K hK hQ _ => ?_)
  show TT K ly 0 0 0 [(0, vR 73), (1, vI x), (2, vI y), (3, vI v)] [] h
  have hF : FRM [73, 76] [2] h h := FRM_rf _ _ _
  refine TT_aload_n hK rfl 0 rfl dX12_paint_0 ?_
  refine TT_aload_n hK rfl 0 rfl dX12_paint_1 ?_
  refine TT_iload_n hK rfl 1 rfl dX12_paint_2 ?_
  refine TT_iload_n hK rfl 2 rfl dX12_paint_3 ?_
  refine iv_X12_124 hK (s_isPixel_x x y h hT (by first | omega | (simp [up, setR] <;> omega)) (by first | omega | (simp [up, setR] <;> omega))) (by decide) rfl ⟨by decide, by decide⟩ (by decide) rfl rfl (Nat.le_of_ble_eq_true rfl) ⟨by decide, by decide⟩ dX12_paint_4 ?_
  intro r9 g4_1 hp9
  obtain ⟨⟨hT_1, hG_1⟩, z4_1, hr9, hz_1, p1_1, p2_1, p3_1⟩ := hp9
  rw [hr9]
  have hF_1 : FRM [73, 76] [2] h g4_1 := FRM_tr hF hG_1 (by decide) (by decide)
  rw [show h 73 3 = (h 73) 3 from rfl] at p1_1
  rw [show h 73 4 = (h 73) 4 from rfl] at p1_1
  rw [show h 73 3 = (h 73) 3 from rfl] at p2_1
  rw [show h 73 4 = (h 73) 4 from rfl] at p2_1
  show TT K ly 0 0 7 [(0, vR 73), (1, vI x), (2, vI y), (3, vI v)] [vI z4_1, vR 73] g4_1
  refine TT_if_eq hK (tgt := 25) (irm (by omega) (by omega)) dX12_paint_7 (by decide) (fun hb7_2 => ?_) (fun hb7_2 => ?_)
  · refine TT_iconst hK dX12_paint_25 ?_
    refine pf_X12_117 hK (by decide) rfl dX12_paint_26 ?_
    refine TT_hp (h' := setO g4_1 73 (fup (h 73) 2 1)) (up_can (hG_1.1 73 (by decide)) rfl rfl) ?_
    have hT_3 : TY (setO g4_1 73 (fup (h 73) 2 1)) := tu_73_2 hT_1 (show up g4_1 73 2 1 = (setO g4_1 73 (fup (h 73) 2 1)) from up_can (hG_1.1 73 (by decide)) rfl rfl) (by omega)
    have hF_3 : FRM [73, 76] [2] h (setO g4_1 73 (fup (h 73) 2 1)) := FRM_f (show up g4_1 73 2 1 = (setO g4_1 73 (fup (h 73) 2 1)) from up_can (hG_1.1 73 (by decide)) rfl rfl) hF_1 (by decide) (by decide)
    refine TT_aload_n hK rfl 0 rfl dX12_paint_29 ?_
    refine gf_X12_117 hK (by decide) rfl (v := 1) (rd_ (sOf_eq _ _ _) (fup_eq _ _ _)) dX12_paint_30 ?_
    refine TT_if_ne hK (tgt := 48) (by decide) dX12_paint_33 (by decide) (fun hb33_4 => ?_) (fun hb33_4 => ?_)
    · refine TT_vret hK hQ ?_ dX12_paint_48
      have e5_73_2 : (setO g4_1 73 (fup (h 73) 2 1)) 73 2 = 1 := rd_ (sOf_eq _ _ _) (fup_eq _ _ _)
      have e6_76 : (setO g4_1 73 (fup (h 73) 2 1)) 76 = h 76 := (sOf_ne _ _ (by decide)).trans (hG_1.1 76 (by decide))
      exact ⟨⟨hT_3, hF_3⟩, rfl, (by rewrite [e5_73_2, e6_76]; first | exact Or.inl ⟨by omega, by omega, rfl⟩ | exact Or.inr ⟨by omega, by omega, rfl⟩)⟩
    · exact absurd hb33_4 (by decide)
  · refine TT_iload_n hK rfl 3 rfl dX12_paint_10 ?_
    refine TT_iconst hK dX12_paint_11 ?_
    refine TT_sipush hK (by decide) dX12_paint_12 ?_
    refine iv_X12_120 hK (s_X12_within v 0 255 g4_1 hT_1 (by first | omega | (simp [up, setR] <;> omega)) (by first | omega | (simp [up, setR] <;> omega)) (by first | omega | (simp [up, setR] <;> omega))) ⟨by decide, by decide⟩ (by decide) rfl rfl (Nat.le_of_ble_eq_true rfl) ⟨by decide, by decide⟩ dX12_paint_15 ?_
    intro r9 g15_7 hp9
    obtain ⟨⟨hT_7, hG_7⟩, z15_7, hr9, hz_7, p1_7, p2_7⟩ := hp9
    rw [hr9]
    have hF_7 : FRM [73, 76] [2] h g15_7 := FRM_tr hF_1 hG_7 (by decide) (by decide)
    show TT K ly 0 0 18 [(0, vR 73), (1, vI x), (2, vI y), (3, vI v)] [vI z15_7, vR 73] g15_7
    refine TT_if_eq hK (tgt := 25) (irm (by omega) (by omega)) dX12_paint_18 (by decide) (fun hb18_8 => ?_) (fun hb18_8 => ?_)
    · refine TT_iconst hK dX12_paint_25 ?_
      refine pf_X12_117 hK (by decide) rfl dX12_paint_26 ?_
      refine TT_hp (h' := setO g15_7 73 (fup (h 73) 2 1)) (up_can (((hG_7.1 73 (by decide))).trans (hG_1.1 73 (by decide))) rfl rfl) ?_
      have hT_9 : TY (setO g15_7 73 (fup (h 73) 2 1)) := tu_73_2 hT_7 (show up g15_7 73 2 1 = (setO g15_7 73 (fup (h 73) 2 1)) from up_can (((hG_7.1 73 (by decide))).trans (hG_1.1 73 (by decide))) rfl rfl) (by omega)
      have hF_9 : FRM [73, 76] [2] h (setO g15_7 73 (fup (h 73) 2 1)) := FRM_f (show up g15_7 73 2 1 = (setO g15_7 73 (fup (h 73) 2 1)) from up_can (((hG_7.1 73 (by decide))).trans (hG_1.1 73 (by decide))) rfl rfl) hF_7 (by decide) (by decide)
      refine TT_aload_n hK rfl 0 rfl dX12_paint_29 ?_
      refine gf_X12_117 hK (by decide) rfl (v := 1) (rd_ (sOf_eq _ _ _) (fup_eq _ _ _)) dX12_paint_30 ?_
      refine TT_if_ne hK (tgt := 48) (by decide) dX12_paint_33 (by decide) (fun hb33_10 => ?_) (fun hb33_10 => ?_)
      · refine TT_vret hK hQ ?_ dX12_paint_48
        have e11_73_2 : (setO g15_7 73 (fup (h 73) 2 1)) 73 2 = 1 := rd_ (sOf_eq _ _ _) (fup_eq _ _ _)
        have e12_76 : (setO g15_7 73 (fup (h 73) 2 1)) 76 = h 76 := (sOf_ne _ _ (by decide)).trans (((hG_7.1 76 (by decide))).trans (hG_1.1 76 (by decide)))
        exact ⟨⟨hT_9, hF_9⟩, rfl, (by rewrite [e11_73_2, e12_76]; first | exact Or.inl ⟨by omega, by omega, rfl⟩ | exact Or.inr ⟨by omega, by omega, rfl⟩)⟩
      · exact absurd hb33_10 (by decide)
    · refine TT_iconst hK dX12_paint_21 ?_
      refine TT_goto hK (tgt := 26) dX12_paint_22 (by decide) ?_
      refine pf_X12_117 hK (by decide) rfl dX12_paint_26 ?_
      refine TT_hp (h' := setO g15_7 73 (fup (h 73) 2 0)) (up_can (((hG_7.1 73 (by decide))).trans (hG_1.1 73 (by decide))) rfl rfl) ?_
      have hT_13 : TY (setO g15_7 73 (fup (h 73) 2 0)) := tu_73_2 hT_7 (show up g15_7 73 2 0 = (setO g15_7 73 (fup (h 73) 2 0)) from up_can (((hG_7.1 73 (by decide))).trans (hG_1.1 73 (by decide))) rfl rfl) (by omega)
      have hF_13 : FRM [73, 76] [2] h (setO g15_7 73 (fup (h 73) 2 0)) := FRM_f (show up g15_7 73 2 0 = (setO g15_7 73 (fup (h 73) 2 0)) from up_can (((hG_7.1 73 (by decide))).trans (hG_1.1 73 (by decide))) rfl rfl) hF_7 (by decide) (by decide)
      refine TT_aload_n hK rfl 0 rfl dX12_paint_29 ?_
      refine gf_X12_117 hK (by decide) rfl (v := 0) (rd_ (sOf_eq _ _ _) (fup_eq _ _ _)) dX12_paint_30 ?_
      refine TT_if_ne hK (tgt := 48) (by decide) dX12_paint_33 (by decide) (fun hb33_14 => ?_) (fun hb33_14 => ?_)
      · exact absurd hb33_14 (by decide)
      · refine TT_aload_n hK rfl 0 rfl dX12_paint_36 ?_
        refine gf_X12_23 hK (by decide) rfl (q := 76) rfl rfl dX12_paint_37 ?_
        refine TT_bipush hK (by decide) dX12_paint_40 ?_
        refine TT_iload_n hK rfl 2 rfl dX12_paint_42 ?_
        refine TT_imul hK dX12_paint_43 ?_
        refine TT_iload_n hK rfl 1 rfl dX12_paint_44 ?_
        refine TT_iadd hK dX12_paint_45 ?_
        refine TT_iload_n hK rfl 3 rfl dX12_paint_46 ?_
        refine TT_iast hK (o := 76) (n := 64) (by decide) rfl (by omega) (by omega) dX12_paint_47 ?_
        refine TT_hp (h' := setO (setO g15_7 73 (fup (h 73) 2 0)) 76 (fup (h 76) ((8 * y) + x) v)) (up_can ((sOf_ne _ _ (by decide)).trans (((hG_7.1 76 (by decide))).trans (hG_1.1 76 (by decide)))) rfl rfl) ?_
        have hT_15 : TY (setO (setO g15_7 73 (fup (h 73) 2 0)) 76 (fup (h 76) ((8 * y) + x) v)) := tu_76 hT_13 (show up (setO g15_7 73 (fup (h 73) 2 0)) 76 ((8 * y) + x) v = (setO (setO g15_7 73 (fup (h 73) 2 0)) 76 (fup (h 76) ((8 * y) + x) v)) from up_can ((sOf_ne _ _ (by decide)).trans (((hG_7.1 76 (by decide))).trans (hG_1.1 76 (by decide)))) rfl rfl) (by omega)
        have hF_15 : FRM [73, 76] [2] h (setO (setO g15_7 73 (fup (h 73) 2 0)) 76 (fup (h 76) ((8 * y) + x) v)) := FRM_up (show up (setO g15_7 73 (fup (h 73) 2 0)) 76 ((8 * y) + x) v = (setO (setO g15_7 73 (fup (h 73) 2 0)) 76 (fup (h 76) ((8 * y) + x) v)) from up_can ((sOf_ne _ _ (by decide)).trans (((hG_7.1 76 (by decide))).trans (hG_1.1 76 (by decide)))) rfl rfl) hF_13 (by decide) (by decide)
        refine TT_vret hK hQ ?_ dX12_paint_48
        have e16_73_2 : (setO (setO g15_7 73 (fup (h 73) 2 0)) 76 (fup (h 76) ((8 * y) + x) v)) 73 2 = 0 := rd_ ((sOf_ne _ _ (by decide)).trans (sOf_eq _ _ _)) (fup_eq _ _ _)
        have e17_76 : (setO (setO g15_7 73 (fup (h 73) 2 0)) 76 (fup (h 76) ((8 * y) + x) v)) 76 = fup (h 76) ((8 * y) + x) v := sOf_eq _ _ _
        exact ⟨⟨hT_15, hF_15⟩, rfl, (by rewrite [e16_73_2, e17_76]; first | exact Or.inl ⟨by omega, by omega, rfl⟩ | exact Or.inr ⟨by omega, by omega, rfl⟩)⟩
set_option maxRecDepth 20000 in
theorem s_rpixel_x (x y : Int) (h : Hp_) (hT : TY h) (hx : -2147483648 ≤ x ∧ x ≤ 2147483647) (hy : -2147483648 ≤ y ∧ y ≤ 2147483647) : Ctr yX12_pixel cX12_pixel 3 (some .int) (rmd 2) ly ly 0 0 [vR 73, vI x, vI y] h (fun r h' => (TY h' ∧ FRM [73] [2] h h') ∧ ∃ z : Int, r = some (vI z) ∧ (-2147483648 ≤ z ∧ z ≤ 2147483647) ∧ (((0 ≤ x ∧ x ≤ (h 73 3) - 1) ∧ (0 ≤ y ∧ y ≤ (h 73 4) - 1) → z = (h 76) (8 * y + x)) ∧ (¬((0 ≤ x ∧ x ≤ (h 73 3) - 1) ∧ (0 ≤ y ∧ y ≤ (h 73 4) - 1)) → z = -100000))) := by
  refine Ctr_of (by decide) (Nat.le_of_ble_eq_true rfl) ⟨Nat.le_refl _, Nat.le_refl _⟩ (fun K hK hQ _ => ?_)
  show TT K ly 0 0 0 [(0, vR 73), (1, vI x), (2, vI y)] [] h
  have hF : FRM [73] [2] h h := FRM_rf _ _ _
  refine TT_aload_n hK rfl 0 rfl dX12_pixel_0 ?_
  refine TT_iconst hK dX12_pixel_1 ?_
  refine pf_X12_117 hK (by decide) rfl dX12_pixel_2 ?_
  refine TT_hp (h' := setO h 73 (fup (h 73) 2 0)) (up_can rfl rfl rfl) ?_
  have hT_1 : TY (setO h 73 (fup (h 73) 2 0)) := tu_73_2 hT (show up h 73 2 0 = (setO h 73 (fup (h 73) 2 0)) from up_can rfl rfl rfl) (by omega)
  have hF_1 : FRM [73] [2] h (setO h 73 (fup (h 73) 2 0)) := FRM_f (show up h 73 2 0 = (setO h 73 (fup (h 73) 2 0)) from up_can rfl rfl rfl) hF (by decide) (by decide)
  refine TT_aload_n hK rfl 0 rfl dX12_pixel_5 ?_
  refine TT_iload_n hK rfl 1 rfl dX12_pixel_6 ?_
  refine TT_iload_n hK rfl 2 rfl dX12_pixel_7 ?_
  refine iv_X12_124 hK (s_isPixel_x x y (setO h 73 (fup (h 73) 2 0)) hT_1 (by first | omega | (simp [up, setR] <;> omega)) (by first | omega | (simp [up, setR] <;> omega))) (by decide) rfl ⟨by decide, by decide⟩ (by decide) rfl rfl (Nat.le_of_ble_eq_true rfl) ⟨by decide, by decide⟩ dX12_pixel_8 ?_
  intro r9 g8_2 hp9
  obtain ⟨⟨hT_2, hG_2⟩, z8_2, hr9, hz_2, p1_2, p2_2, p3_2⟩ := hp9
  rw [hr9]
  have hF_2 : FRM [73] [2] h g8_2 := FRM_tr hF_1 hG_2 (by decide) (by decide)
  rw [show (setO h 73 (fup (h 73) 2 0)) 73 3 = (h 73) 3 from rd_ (sOf_eq _ _ _) (fup_ne _ _ (by decide))] at p1_2
  rw [show (setO h 73 (fup (h 73) 2 0)) 73 4 = (h 73) 4 from rd_ (sOf_eq _ _ _) (fup_ne _ _ (by decide))] at p1_2
  rw [show (setO h 73 (fup (h 73) 2 0)) 73 3 = (h 73) 3 from rd_ (sOf_eq _ _ _) (fup_ne _ _ (by decide))] at p2_2
  rw [show (setO h 73 (fup (h 73) 2 0)) 73 4 = (h 73) 4 from rd_ (sOf_eq _ _ _) (fup_ne _ _ (by decide))] at p2_2
  show TT K ly 0 0 11 [(0, vR 73), (1, vI x), (2, vI y)] [vI z8_2] g8_2
  refine TT_if_eq hK (tgt := 28) (irm (by omega) (by omega)) dX12_pixel_11 (by decide) (fun hb11_3 => ?_) (fun hb11_3 => ?_)
  · refine TT_ldc hK lc_X12_128 dX12_pixel_28 ?_
    refine TT_iret hK hQ ?_ dX12_pixel_30
    exact ⟨⟨hT_2, hF_2⟩, (-100000), rfl, (by omega), (by first | exact ⟨fun _ => rfl, fun q => absurd (by omega) q⟩ | exact ⟨fun q => absurd q (by omega), fun _ => rfl⟩)⟩
  · refine TT_aload_n hK rfl 0 rfl dX12_pixel_14 ?_
    refine gf_X12_23 hK (by decide) rfl (q := 76) rfl rfl dX12_pixel_15 ?_
    refine TT_bipush hK (by decide) dX12_pixel_18 ?_
    refine TT_iload_n hK rfl 2 rfl dX12_pixel_20 ?_
    refine TT_imul hK dX12_pixel_21 ?_
    refine TT_iload_n hK rfl 1 rfl dX12_pixel_22 ?_
    refine TT_iadd hK dX12_pixel_23 ?_
    refine TT_iald hK (o := 76) (n := 64) (by decide) rfl (by first | omega | (simp [up, setR] <;> omega)) (by first | omega | (simp [up, setR] <;> omega)) (v := (h 76) ((8 * y) + x)) (rd_ (((hG_2.1 76 (by decide))).trans (sOf_ne _ _ (by decide))) rfl) dX12_pixel_24 ?_
    have r4 := ty_76 (i := (8 * y) + x) (v := (h 76) ((8 * y) + x)) hT_2 (rd_ (((hG_2.1 76 (by decide))).trans (sOf_ne _ _ (by decide))) rfl) (by omega) (by omega)
    refine TT_goto hK (tgt := 30) dX12_pixel_25 (by decide) ?_
    refine TT_iret hK hQ ?_ dX12_pixel_30
    exact ⟨⟨hT_2, hF_2⟩, ((h 76) ((8 * y) + x)), rfl, (by omega), (by first | exact ⟨fun _ => rfl, fun q => absurd (by omega) q⟩ | exact ⟨fun q => absurd q (by omega), fun _ => rfl⟩)⟩

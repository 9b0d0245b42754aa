set_option maxRecDepth 20000 in
theorem s_X5_has_1 (x y : Int) (h : Hp_) (hT : TY h) (hx : -2147483648 ≤ x ∧ x ≤ 2147483647) (hy : -2147483648 ≤ y ∧ y ≤ 2147483647) : Ctr yX5_has cX5_has 3 (some .boolean) (rmd 0) ly ly 0 0 [vR 1, vI x, vI y] h (fun r h' => (TY h' ∧ FR [] h h') ∧ ∃ z : Int, r = some (vI z) ∧ (0 ≤ z ∧ z ≤ 1) ∧ (z = 1 → (0 ≤ x ∧ x < 8) ∧ (0 ≤ y ∧ y < 8))) := by
  refine Ctr_of (by decide) (Nat.le_of_ble_eq_true rfl) ⟨Nat.le_refl _, Nat.le_refl _⟩ (fun K hK hQ _ => ?_)
  show TT K ly 0 0 0 [(0, vR 1), (1, vI x), (2, vI y)] [] h
  have hF : FR [] h h := FR_rf _ _
  refine TT_iload_n hK rfl 1 rfl dX5_has_0 ?_
  refine TT_if_lt hK (tgt := 28) (irm (by omega) (by omega)) dX5_has_1 (by decide) (fun hb1_1 => ?_) (fun hb1_1 => ?_)
  · refine TT_iconst hK dX5_has_28 ?_
    refine TT_zret hK hQ (by decide) ?_ dX5_has_29
    exact ⟨⟨hT, hF⟩, 0, rfl, (by omega), (by omega)⟩
  · refine TT_iload_n hK rfl 1 rfl dX5_has_4 ?_
    refine TT_aload_n hK rfl 0 rfl dX5_has_5 ?_
    refine gf_X5_15 hK (by decide) rfl (v := (h 1) 1) rfl dX5_has_6 ?_
    have r2 := ty_1_1 (v := (h 1) 1) hT rfl
    refine TT_icmp_ge hK (tgt := 28) (irm (by omega) (by omega)) (irm (by omega) (by omega)) dX5_has_9 (by decide) (fun hb9_3 => ?_) (fun hb9_3 => ?_)
    · refine TT_iconst hK dX5_has_28 ?_
      refine TT_zret hK hQ (by decide) ?_ dX5_has_29
      exact ⟨⟨hT, hF⟩, 0, rfl, (by omega), (by omega)⟩
    · refine TT_iload_n hK rfl 2 rfl dX5_has_12 ?_
      refine TT_if_lt hK (tgt := 28) (irm (by omega) (by omega)) dX5_has_13 (by decide) (fun hb13_4 => ?_) (fun hb13_4 => ?_)
      · refine TT_iconst hK dX5_has_28 ?_
        refine TT_zret hK hQ (by decide) ?_ dX5_has_29
        exact ⟨⟨hT, hF⟩, 0, rfl, (by omega), (by omega)⟩
      · refine TT_iload_n hK rfl 2 rfl dX5_has_16 ?_
        refine TT_aload_n hK rfl 0 rfl dX5_has_17 ?_
        refine gf_X5_19 hK (by decide) rfl (v := (h 1) 2) rfl dX5_has_18 ?_
        have r5 := ty_1_2 (v := (h 1) 2) hT rfl
        refine TT_icmp_ge hK (tgt := 28) (irm (by omega) (by omega)) (irm (by omega) (by omega)) dX5_has_21 (by decide) (fun hb21_6 => ?_) (fun hb21_6 => ?_)
        · refine TT_iconst hK dX5_has_28 ?_
          refine TT_zret hK hQ (by decide) ?_ dX5_has_29
          exact ⟨⟨hT, hF⟩, 0, rfl, (by omega), (by omega)⟩
        · refine TT_iconst hK dX5_has_24 ?_
          refine TT_goto hK (tgt := 29) dX5_has_25 (by decide) ?_
          refine TT_zret hK hQ (by decide) ?_ dX5_has_29
          exact ⟨⟨hT, hF⟩, 1, rfl, (by omega), (by omega)⟩
set_option maxRecDepth 20000 in
theorem s_X5_at_1 (x y : Int) (h : Hp_) (hT : TY h) (hx : -2147483648 ≤ x ∧ x ≤ 2147483647) (hy : -2147483648 ≤ y ∧ y ≤ 2147483647) : Ctr yX5_at cX5_at 3 (some .int) (rmd 1) ly ly 0 0 [vR 1, vI x, vI y] h (fun r h' => (TY h' ∧ FR [] h h') ∧ ∃ z : Int, r = some (vI z) ∧ (-100000 ≤ z ∧ z ≤ 255)) := by
  refine Ctr_of (by decide) (Nat.le_of_ble_eq_true rfl) ⟨Nat.le_refl _, Nat.le_refl _⟩ (fun K hK hQ _ => ?_)
  show TT K ly 0 0 0 [(0, vR 1), (1, vI x), (2, vI y)] [] h
  have hF : FR [] h h := FR_rf _ _
  refine TT_aload_n hK rfl 0 rfl dX5_at_0 ?_
  refine TT_iload_n hK rfl 1 rfl dX5_at_1 ?_
  refine TT_iload_n hK rfl 2 rfl dX5_at_2 ?_
  refine iv_X5_28 hK (s_X5_has_1 x y h hT (by first | omega | (simp [up, setR] <;> omega)) (by first | omega | (simp [up, setR] <;> omega))) (by decide) rfl ⟨by decide, by decide⟩ (by decide) rfl rfl (Nat.le_of_ble_eq_true rfl) ⟨by decide, by decide⟩ dX5_at_3 ?_
  intro r9 g3_1 hp9
  obtain ⟨⟨hT_1, hG_1⟩, z3_1, hr9, hz_1, p1_1⟩ := hp9
  rw [hr9]
  have hF_1 : FR [] h g3_1 := FR_tr hF hG_1 (by decide)
  show TT K ly 0 0 6 [(0, vR 1), (1, vI x), (2, vI y)] [vI z3_1] g3_1
  refine TT_if_eq hK (tgt := 23) (irm (by omega) (by omega)) dX5_at_6 (by decide) (fun hb6_2 => ?_) (fun hb6_2 => ?_)
  · refine TT_ldc hK lc_X5_32 dX5_at_23 ?_
    refine TT_iret hK hQ ?_ dX5_at_25
    exact ⟨⟨hT_1, hF_1⟩, (-100000), rfl, (by omega)⟩
  · refine TT_aload_n hK rfl 0 rfl dX5_at_9 ?_
    refine gf_X5_9 hK (by decide) rfl (q := 2) rfl rfl dX5_at_10 ?_
    refine TT_iload_n hK rfl 2 rfl dX5_at_13 ?_
    refine TT_bipush hK (by decide) dX5_at_14 ?_
    refine TT_imul hK dX5_at_16 ?_
    refine TT_iload_n hK rfl 1 rfl dX5_at_17 ?_
    refine TT_iadd hK dX5_at_18 ?_
    refine TT_iald hK (o := 2) (n := 64) (by decide) rfl (by first | omega | (simp [up, setR] <;> omega)) (by first | omega | (simp [up, setR] <;> omega)) (v := (h 2) ((y * 8) + x)) (rd_ (hG_1 2 (by decide)) rfl) dX5_at_19 ?_
    have r3 := ty_2 (i := (y * 8) + x) (v := (h 2) ((y * 8) + x)) hT_1 (rd_ (hG_1 2 (by decide)) rfl) (by omega) (by omega)
    refine TT_goto hK (tgt := 25) dX5_at_20 (by decide) ?_
    refine TT_iret hK hQ ?_ dX5_at_25
    exact ⟨⟨hT_1, hF_1⟩, ((h 2) ((y * 8) + x)), rfl, (by omega)⟩
set_option maxRecDepth 20000 in
theorem s_X5_set_1 (x y v : Int) (h : Hp_) (hT : TY h) (hx : -2147483648 ≤ x ∧ x ≤ 2147483647) (hy : -2147483648 ≤ y ∧ y ≤ 2147483647) (hv : 0 ≤ v ∧ v ≤ 255) : Ctr yX5_set cX5_set 4 none (rmd 1) ly ly 0 0 [vR 1, vI x, vI y, vI v] h (fun r h' => (TY h' ∧ FR [2] h h') ∧ r = none) := by
  refine Ctr_of (by decide) (Nat.le_of_ble_eq_true rfl) ⟨Nat.le_refl _, Nat.le_refl _⟩ (fun K hK hQ _ => ?_)
  show TT K ly 0 0 0 [(0, vR 1), (1, vI x), (2, vI y), (3, vI v)] [] h
  have hF : FR [2] h h := FR_rf _ _
  refine TT_aload_n hK rfl 0 rfl dX5_set_0 ?_
  refine TT_iload_n hK rfl 1 rfl dX5_set_1 ?_
  refine TT_iload_n hK rfl 2 rfl dX5_set_2 ?_
  refine iv_X5_28 hK (s_X5_has_1 x y h hT (by first | omega | (simp [up, setR] <;> omega)) (by first | omega | (simp [up, setR] <;> omega))) (by decide) rfl ⟨by decide, by decide⟩ (by decide) rfl rfl (Nat.le_of_ble_eq_true rfl) ⟨by decide, by decide⟩ dX5_set_3 ?_
  intro r9 g3_1 hp9
  obtain ⟨⟨hT_1, hG_1⟩, z3_1, hr9, hz_1, p1_1⟩ := hp9
  rw [hr9]
  have hF_1 : FR [2] h g3_1 := FR_tr hF hG_1 (by decide)
  show TT K ly 0 0 6 [(0, vR 1), (1, vI x), (2, vI y), (3, vI v)] [vI z3_1] g3_1
  refine TT_if_eq hK (tgt := 21) (irm (by omega) (by omega)) dX5_set_6 (by decide) (fun hb6_2 => ?_) (fun hb6_2 => ?_)
  · refine TT_vret hK hQ ?_ dX5_set_21
    exact ⟨⟨hT_1, hF_1⟩, rfl⟩
  · refine TT_aload_n hK rfl 0 rfl dX5_set_9 ?_
    refine gf_X5_9 hK (by decide) rfl (q := 2) rfl rfl dX5_set_10 ?_
    refine TT_iload_n hK rfl 2 rfl dX5_set_13 ?_
    refine TT_bipush hK (by decide) dX5_set_14 ?_
    refine TT_imul hK dX5_set_16 ?_
    refine TT_iload_n hK rfl 1 rfl dX5_set_17 ?_
    refine TT_iadd hK dX5_set_18 ?_
    refine TT_iload_n hK rfl 3 rfl dX5_set_19 ?_
    refine TT_iast hK (o := 2) (n := 64) (by decide) rfl (by omega) (by omega) dX5_set_20 ?_
    refine TT_hp (h' := setO g3_1 2 (fup (h 2) ((y * 8) + x) v)) (up_can (hG_1 2 (by decide)) rfl rfl) ?_
    have hT_3 : TY (setO g3_1 2 (fup (h 2) ((y * 8) + x) v)) := tu_2 hT_1 (show up g3_1 2 ((y * 8) + x) v = (setO g3_1 2 (fup (h 2) ((y * 8) + x) v)) from up_can (hG_1 2 (by decide)) rfl rfl) (by omega)
    have hF_3 : FR [2] h (setO g3_1 2 (fup (h 2) ((y * 8) + x) v)) := FR_up (show up g3_1 2 ((y * 8) + x) v = (setO g3_1 2 (fup (h 2) ((y * 8) + x) v)) from up_can (hG_1 2 (by decide)) rfl rfl) hF_1 (by decide)
    refine TT_vret hK hQ ?_ dX5_set_21
    exact ⟨⟨hT_3, hF_3⟩, rfl⟩
set_option maxRecDepth 20000 in
theorem s_X5_begin_1 (nw nh : Int) (h : Hp_) (hT : TY h) (hnw : 0 ≤ nw ∧ nw ≤ 8) (hnh : 0 ≤ nh ∧ nh ≤ 8) : Ctr yX5_begin cX5_begin 3 none (rmd 1) ly ly 0 0 [vR 1, vI nw, vI nh] h (fun r h' => (TY h' ∧ FR [1, 2] h h') ∧ r = none) := by
  refine Ctr_of (by decide) (Nat.le_of_ble_eq_true rfl) ⟨Nat.le_refl _, Nat.le_refl _⟩ (fun K hK hQ _ => ?_)
  show TT K ly 0 0 0 [(0, vR 1), (1, vI nw), (2, vI nh)] [] h
  have hF : FR [1, 2] h h := FR_rf _ _
  refine TT_aload_n hK rfl 0 rfl dX5_begin_0 ?_
  refine TT_iload_n hK rfl 1 rfl dX5_begin_1 ?_
  refine pf_X5_15 hK (by decide) rfl dX5_begin_2 ?_
  refine TT_hp (h' := setO h 1 (fup (h 1) 1 nw)) (up_can rfl rfl rfl) ?_
  have hT_1 : TY (setO h 1 (fup (h 1) 1 nw)) := tu_1_1 hT (show up h 1 1 nw = (setO h 1 (fup (h 1) 1 nw)) from up_can rfl rfl rfl) (by omega)
  have hF_1 : FR [1, 2] h (setO h 1 (fup (h 1) 1 nw)) := FR_up (show up h 1 1 nw = (setO h 1 (fup (h 1) 1 nw)) from up_can rfl rfl rfl) hF (by decide)
  refine TT_aload_n hK rfl 0 rfl dX5_begin_5 ?_
  refine TT_iload_n hK rfl 2 rfl dX5_begin_6 ?_
  refine pf_X5_19 hK (by decide) rfl dX5_begin_7 ?_
  refine TT_hp (h' := setO h 1 (fup (fup (h 1) 1 nw) 2 nh)) (up_can (sOf_eq _ _ _) rfl (setO_same _ _ _ _)) ?_
  have hT_2 : TY (setO h 1 (fup (fup (h 1) 1 nw) 2 nh)) := tu_1_2 hT_1 (show up (setO h 1 (fup (h 1) 1 nw)) 1 2 nh = (setO h 1 (fup (fup (h 1) 1 nw) 2 nh)) from up_can (sOf_eq _ _ _) rfl (setO_same _ _ _ _)) (by omega)
  have hF_2 : FR [1, 2] h (setO h 1 (fup (fup (h 1) 1 nw) 2 nh)) := FR_up (show up (setO h 1 (fup (h 1) 1 nw)) 1 2 nh = (setO h 1 (fup (fup (h 1) 1 nw) 2 nh)) from up_can (sOf_eq _ _ _) rfl (setO_same _ _ _ _)) hF_1 (by decide)
  refine TT_aload_n hK rfl 0 rfl dX5_begin_10 ?_
  refine gf_X5_9 hK (by decide) rfl (q := 2) rfl rfl dX5_begin_11 ?_
  refine TT_iconst hK dX5_begin_14 ?_
  refine iv_X5_22 hK (s_fill_2 0 (setO h 1 (fup (fup (h 1) 1 nw) 2 nh)) hT_2 (by first | omega | (simp [up, setR] <;> omega))) ⟨by decide, by decide⟩ (by decide) rfl rfl (Nat.le_of_ble_eq_true rfl) ⟨by decide, by decide⟩ dX5_begin_15 ?_
  intro r9 g15_3 hp9
  obtain ⟨⟨hT_3, hG_3⟩, hr9⟩ := hp9
  rw [hr9]
  have hF_3 : FR [1, 2] h g15_3 := FR_tr hF_2 hG_3 (by decide)
  show TT K ly 0 0 18 [(0, vR 1), (1, vI nw), (2, vI nh)] [] g15_3
  refine TT_vret hK hQ ?_ dX5_begin_18
  exact ⟨⟨hT_3, hF_3⟩, rfl⟩
set_option maxRecDepth 20000 in
theorem s_X5_has_3 (x y : Int) (h : Hp_) (hT : TY h) (hx : -2147483648 ≤ x ∧ x ≤ 2147483647) (hy : -2147483648 ≤ y ∧ y ≤ 2147483647) : Ctr yX5_has cX5_has 3 (some .boolean) (rmd 0) ly ly 0 0 [vR 3, vI x, vI y] h (fun r h' => (TY h' ∧ FR [] h h') ∧ ∃ z : Int, r = some (vI z) ∧ (0 ≤ z ∧ z ≤ 1) ∧ (z = 1 → (0 ≤ x ∧ x < 8) ∧ (0 ≤ y ∧ y < 8))) := by
  refine Ctr_of (by decide) (Nat.le_of_ble_eq_true rfl) ⟨Nat.le_refl _, Nat.le_refl _⟩ (fun K hK hQ _ => ?_)
  show TT K ly 0 0 0 [(0, vR 3), (1, vI x), (2, vI y)] [] h
  have hF : FR [] h h := FR_rf _ _
  refine TT_iload_n hK rfl 1 rfl dX5_has_0 ?_
  refine TT_if_lt hK (tgt := 28) (irm (by omega) (by omega)) dX5_has_1 (by decide) (fun hb1_1 => ?_) (fun hb1_1 => ?_)
  · refine TT_iconst hK dX5_has_28 ?_
    refine TT_zret hK hQ (by decide) ?_ dX5_has_29
    exact ⟨⟨hT, hF⟩, 0, rfl, (by omega), (by omega)⟩
  · refine TT_iload_n hK rfl 1 rfl dX5_has_4 ?_
    refine TT_aload_n hK rfl 0 rfl dX5_has_5 ?_
    refine gf_X5_15 hK (by decide) rfl (v := (h 3) 1) rfl dX5_has_6 ?_
    have r2 := ty_3_1 (v := (h 3) 1) hT rfl
    refine TT_icmp_ge hK (tgt := 28) (irm (by omega) (by omega)) (irm (by omega) (by omega)) dX5_has_9 (by decide) (fun hb9_3 => ?_) (fun hb9_3 => ?_)
    · refine TT_iconst hK dX5_has_28 ?_
      refine TT_zret hK hQ (by decide) ?_ dX5_has_29
      exact ⟨⟨hT, hF⟩, 0, rfl, (by omega), (by omega)⟩
    · refine TT_iload_n hK rfl 2 rfl dX5_has_12 ?_
      refine TT_if_lt hK (tgt := 28) (irm (by omega) (by omega)) dX5_has_13 (by decide) (fun hb13_4 => ?_) (fun hb13_4 => ?_)
      · refine TT_iconst hK dX5_has_28 ?_
        refine TT_zret hK hQ (by decide) ?_ dX5_has_29
        exact ⟨⟨hT, hF⟩, 0, rfl, (by omega), (by omega)⟩
      · refine TT_iload_n hK rfl 2 rfl dX5_has_16 ?_
        refine TT_aload_n hK rfl 0 rfl dX5_has_17 ?_
        refine gf_X5_19 hK (by decide) rfl (v := (h 3) 2) rfl dX5_has_18 ?_
        have r5 := ty_3_2 (v := (h 3) 2) hT rfl
        refine TT_icmp_ge hK (tgt := 28) (irm (by omega) (by omega)) (irm (by omega) (by omega)) dX5_has_21 (by decide) (fun hb21_6 => ?_) (fun hb21_6 => ?_)
        · refine TT_iconst hK dX5_has_28 ?_
          refine TT_zret hK hQ (by decide) ?_ dX5_has_29
          exact ⟨⟨hT, hF⟩, 0, rfl, (by omega), (by omega)⟩
        · refine TT_iconst hK dX5_has_24 ?_
          refine TT_goto hK (tgt := 29) dX5_has_25 (by decide) ?_
          refine TT_zret hK hQ (by decide) ?_ dX5_has_29
          exact ⟨⟨hT, hF⟩, 1, rfl, (by omega), (by omega)⟩
set_option maxRecDepth 20000 in
theorem s_X5_at_3 (x y : Int) (h : Hp_) (hT : TY h) (hx : -2147483648 ≤ x ∧ x ≤ 2147483647) (hy : -2147483648 ≤ y ∧ y ≤ 2147483647) : Ctr yX5_at cX5_at 3 (some .int) (rmd 1) ly ly 0 0 [vR 3, vI x, vI y] h (fun r h' => (TY h' ∧ FR [] h h') ∧ ∃ z : Int, r = some (vI z) ∧ (-100000 ≤ z ∧ z ≤ 255)) := by
  refine Ctr_of (by decide) (Nat.le_of_ble_eq_true rfl) ⟨Nat.le_refl _, Nat.le_refl _⟩ (fun K hK hQ _ => ?_)
  show TT K ly 0 0 0 [(0, vR 3), (1, vI x), (2, vI y)] [] h
  have hF : FR [] h h := FR_rf _ _
  refine TT_aload_n hK rfl 0 rfl dX5_at_0 ?_
  refine TT_iload_n hK rfl 1 rfl dX5_at_1 ?_
  refine TT_iload_n hK rfl 2 rfl dX5_at_2 ?_
  refine iv_X5_28 hK (s_X5_has_3 x y h hT (by first | omega | (simp [up, setR] <;> omega)) (by first | omega | (simp [up, setR] <;> omega))) (by decide) rfl ⟨by decide, by decide⟩ (by decide) rfl rfl (Nat.le_of_ble_eq_true rfl) ⟨by decide, by decide⟩ dX5_at_3 ?_
  intro r9 g3_1 hp9
  obtain ⟨⟨hT_1, hG_1⟩, z3_1, hr9, hz_1, p1_1⟩ := hp9
  rw [hr9]
  have hF_1 : FR [] h g3_1 := FR_tr hF hG_1 (by decide)
  show TT K ly 0 0 6 [(0, vR 3), (1, vI x), (2, vI y)] [vI z3_1] g3_1
  refine TT_if_eq hK (tgt := 23) (irm (by omega) (by omega)) dX5_at_6 (by decide) (fun hb6_2 => ?_) (fun hb6_2 => ?_)
  · refine TT_ldc hK lc_X5_32 dX5_at_23 ?_
    refine TT_iret hK hQ ?_ dX5_at_25
    exact ⟨⟨hT_1, hF_1⟩, (-100000), rfl, (by omega)⟩
  · refine TT_aload_n hK rfl 0 rfl dX5_at_9 ?_
    refine gf_X5_9 hK (by decide) rfl (q := 4) rfl rfl dX5_at_10 ?_
    refine TT_iload_n hK rfl 2 rfl dX5_at_13 ?_
    refine TT_bipush hK (by decide) dX5_at_14 ?_
    refine TT_imul hK dX5_at_16 ?_
    refine TT_iload_n hK rfl 1 rfl dX5_at_17 ?_
    refine TT_iadd hK dX5_at_18 ?_
    refine TT_iald hK (o := 4) (n := 64) (by decide) rfl (by first | omega | (simp [up, setR] <;> omega)) (by first | omega | (simp [up, setR] <;> omega)) (v := (h 4) ((y * 8) + x)) (rd_ (hG_1 4 (by decide)) rfl) dX5_at_19 ?_
    have r3 := ty_4 (i := (y * 8) + x) (v := (h 4) ((y * 8) + x)) hT_1 (rd_ (hG_1 4 (by decide)) rfl) (by omega) (by omega)
    refine TT_goto hK (tgt := 25) dX5_at_20 (by decide) ?_
    refine TT_iret hK hQ ?_ dX5_at_25
    exact ⟨⟨hT_1, hF_1⟩, ((h 4) ((y * 8) + x)), rfl, (by omega)⟩
set_option maxRecDepth 20000 in
theorem s_X5_set_3 (x y v : Int) (h : Hp_) (hT : TY h) (hx : -2147483648 ≤ x ∧ x ≤ 2147483647) (hy : -2147483648 ≤ y ∧ y ≤ 2147483647) (hv : 0 ≤ v ∧ v ≤ 255) : Ctr yX5_set cX5_set 4 none (rmd 1) ly ly 0 0 [vR 3, vI x, vI y, vI v] h (fun r h' => (TY h' ∧ FR [4] h h') ∧ r = none) := by
  refine Ctr_of (by decide) (Nat.le_of_ble_eq_true rfl) ⟨Nat.le_refl _, Nat.le_refl _⟩ (fun K hK hQ _ => ?_)
  show TT K ly 0 0 0 [(0, vR 3), (1, vI x), (2, vI y), (3, vI v)] [] h
  have hF : FR [4] h h := FR_rf _ _
  refine TT_aload_n hK rfl 0 rfl dX5_set_0 ?_
  refine TT_iload_n hK rfl 1 rfl dX5_set_1 ?_
  refine TT_iload_n hK rfl 2 rfl dX5_set_2 ?_
  refine iv_X5_28 hK (s_X5_has_3 x y h hT (by first | omega | (simp [up, setR] <;> omega)) (by first | omega | (simp [up, setR] <;> omega))) (by decide) rfl ⟨by decide, by decide⟩ (by decide) rfl rfl (Nat.le_of_ble_eq_true rfl) ⟨by decide, by decide⟩ dX5_set_3 ?_
  intro r9 g3_1 hp9
  obtain ⟨⟨hT_1, hG_1⟩, z3_1, hr9, hz_1, p1_1⟩ := hp9
  rw [hr9]
  have hF_1 : FR [4] h g3_1 := FR_tr hF hG_1 (by decide)
  show TT K ly 0 0 6 [(0, vR 3), (1, vI x), (2, vI y), (3, vI v)] [vI z3_1] g3_1
  refine TT_if_eq hK (tgt := 21) (irm (by omega) (by omega)) dX5_set_6 (by decide) (fun hb6_2 => ?_) (fun hb6_2 => ?_)
  · refine TT_vret hK hQ ?_ dX5_set_21
    exact ⟨⟨hT_1, hF_1⟩, rfl⟩
  · refine TT_aload_n hK rfl 0 rfl dX5_set_9 ?_
    refine gf_X5_9 hK (by decide) rfl (q := 4) rfl rfl dX5_set_10 ?_
    refine TT_iload_n hK rfl 2 rfl dX5_set_13 ?_
    refine TT_bipush hK (by decide) dX5_set_14 ?_
    refine TT_imul hK dX5_set_16 ?_
    refine TT_iload_n hK rfl 1 rfl dX5_set_17 ?_
    refine TT_iadd hK dX5_set_18 ?_
    refine TT_iload_n hK rfl 3 rfl dX5_set_19 ?_
    refine TT_iast hK (o := 4) (n := 64) (by decide) rfl (by omega) (by omega) dX5_set_20 ?_
    refine TT_hp (h' := setO g3_1 4 (fup (h 4) ((y * 8) + x) v)) (up_can (hG_1 4 (by decide)) rfl rfl) ?_
    have hT_3 : TY (setO g3_1 4 (fup (h 4) ((y * 8) + x) v)) := tu_4 hT_1 (show up g3_1 4 ((y * 8) + x) v = (setO g3_1 4 (fup (h 4) ((y * 8) + x) v)) from up_can (hG_1 4 (by decide)) rfl rfl) (by omega)
    have hF_3 : FR [4] h (setO g3_1 4 (fup (h 4) ((y * 8) + x) v)) := FR_up (show up g3_1 4 ((y * 8) + x) v = (setO g3_1 4 (fup (h 4) ((y * 8) + x) v)) from up_can (hG_1 4 (by decide)) rfl rfl) hF_1 (by decide)
    refine TT_vret hK hQ ?_ dX5_set_21
    exact ⟨⟨hT_3, hF_3⟩, rfl⟩
set_option maxRecDepth 20000 in
theorem s_X5_begin_3 (nw nh : Int) (h : Hp_) (hT : TY h) (hnw : 0 ≤ nw ∧ nw ≤ 8) (hnh : 0 ≤ nh ∧ nh ≤ 8) : Ctr yX5_begin cX5_begin 3 none (rmd 1) ly ly 0 0 [vR 3, vI nw, vI nh] h (fun r h' => (TY h' ∧ FR [3, 4] h h') ∧ r = none) := by
  refine Ctr_of (by decide) (Nat.le_of_ble_eq_true rfl) ⟨Nat.le_refl _, Nat.le_refl _⟩ (fun K hK hQ _ => ?_)
  show TT K ly 0 0 0 [(0, vR 3), (1, vI nw), (2, vI nh)] [] h
  have hF : FR [3, 4] h h := FR_rf _ _
  refine TT_aload_n hK rfl 0 rfl dX5_begin_0 ?_
  refine TT_iload_n hK rfl 1 rfl dX5_begin_1 ?_
  refine pf_X5_15 hK (by decide) rfl dX5_begin_2 ?_
  refine TT_hp (h' := setO h 3 (fup (h 3) 1 nw)) (up_can rfl rfl rfl) ?_
  have hT_1 : TY (setO h 3 (fup (h 3) 1 nw)) := tu_3_1 hT (show up h 3 1 nw = (setO h 3 (fup (h 3) 1 nw)) from up_can rfl rfl rfl) (by omega)
  have hF_1 : FR [3, 4] h (setO h 3 (fup (h 3) 1 nw)) := FR_up (show up h 3 1 nw = (setO h 3 (fup (h 3) 1 nw)) from up_can rfl rfl rfl) hF (by decide)
  refine TT_aload_n hK rfl 0 rfl dX5_begin_5 ?_
  refine TT_iload_n hK rfl 2 rfl dX5_begin_6 ?_
  refine pf_X5_19 hK (by decide) rfl dX5_begin_7 ?_
  refine TT_hp (h' := setO h 3 (fup (fup (h 3) 1 nw) 2 nh)) (up_can (sOf_eq _ _ _) rfl (setO_same _ _ _ _)) ?_
  have hT_2 : TY (setO h 3 (fup (fup (h 3) 1 nw) 2 nh)) := tu_3_2 hT_1 (show up (setO h 3 (fup (h 3) 1 nw)) 3 2 nh = (setO h 3 (fup (fup (h 3) 1 nw) 2 nh)) from up_can (sOf_eq _ _ _) rfl (setO_same _ _ _ _)) (by omega)
  have hF_2 : FR [3, 4] h (setO h 3 (fup (fup (h 3) 1 nw) 2 nh)) := FR_up (show up (setO h 3 (fup (h 3) 1 nw)) 3 2 nh = (setO h 3 (fup (fup (h 3) 1 nw) 2 nh)) from up_can (sOf_eq _ _ _) rfl (setO_same _ _ _ _)) hF_1 (by decide)
  refine TT_aload_n hK rfl 0 rfl dX5_begin_10 ?_
  refine gf_X5_9 hK (by decide) rfl (q := 4) rfl rfl dX5_begin_11 ?_
  refine TT_iconst hK dX5_begin_14 ?_
  refine iv_X5_22 hK (s_fill_4 0 (setO h 3 (fup (fup (h 3) 1 nw) 2 nh)) hT_2 (by first | omega | (simp [up, setR] <;> omega))) ⟨by decide, by decide⟩ (by decide) rfl rfl (Nat.le_of_ble_eq_true rfl) ⟨by decide, by decide⟩ dX5_begin_15 ?_
  intro r9 g15_3 hp9
  obtain ⟨⟨hT_3, hG_3⟩, hr9⟩ := hp9
  rw [hr9]
  have hF_3 : FR [3, 4] h g15_3 := FR_tr hF_2 hG_3 (by decide)
  show TT K ly 0 0 18 [(0, vR 3), (1, vI nw), (2, vI nh)] [] g15_3
  refine TT_vret hK hQ ?_ dX5_begin_18
  exact ⟨⟨hT_3, hF_3⟩, rfl⟩
set_option maxRecDepth 20000 in
theorem s_X1_clear_5 (h : Hp_) (hT : TY h)  : Ctr yX1_clear cX1_clear 1 none (rmd 0) ly ly 0 0 [vR 5] h (fun r h' => (TY h' ∧ FR [5] h h') ∧ r = none) := by
  refine Ctr_of (by decide) (Nat.le_of_ble_eq_true rfl) ⟨Nat.le_refl _, Nat.le_refl _⟩ (fun K hK hQ _ => ?_)
  show TT K ly 0 0 0 [(0, vR 5)] [] h
  have hF : FR [5] h h := FR_rf _ _
  refine TT_aload_n hK rfl 0 rfl dX1_clear_0 ?_
  refine TT_iconst hK dX1_clear_1 ?_
  refine pf_X1_15 hK (by decide) rfl dX1_clear_2 ?_
  refine TT_hp (h' := setO h 5 (fup (h 5) 1 0)) (up_can rfl rfl rfl) ?_
  have hT_1 : TY (setO h 5 (fup (h 5) 1 0)) := tu_5_1 hT (show up h 5 1 0 = (setO h 5 (fup (h 5) 1 0)) from up_can rfl rfl rfl) (by omega)
  have hF_1 : FR [5] h (setO h 5 (fup (h 5) 1 0)) := FR_up (show up h 5 1 0 = (setO h 5 (fup (h 5) 1 0)) from up_can rfl rfl rfl) hF (by decide)
  refine TT_aload_n hK rfl 0 rfl dX1_clear_5 ?_
  refine TT_iconst hK dX1_clear_6 ?_
  refine pf_X1_19 hK (by decide) rfl dX1_clear_7 ?_
  refine TT_hp (h' := setO h 5 (fup (fup (h 5) 1 0) 2 0)) (up_can (sOf_eq _ _ _) rfl (setO_same _ _ _ _)) ?_
  have hT_2 : TY (setO h 5 (fup (fup (h 5) 1 0) 2 0)) := tu_5_2 hT_1 (show up (setO h 5 (fup (h 5) 1 0)) 5 2 0 = (setO h 5 (fup (fup (h 5) 1 0) 2 0)) from up_can (sOf_eq _ _ _) rfl (setO_same _ _ _ _)) (by omega)
  have hF_2 : FR [5] h (setO h 5 (fup (fup (h 5) 1 0) 2 0)) := FR_up (show up (setO h 5 (fup (h 5) 1 0)) 5 2 0 = (setO h 5 (fup (fup (h 5) 1 0) 2 0)) from up_can (sOf_eq _ _ _) rfl (setO_same _ _ _ _)) hF_1 (by decide)
  refine TT_vret hK hQ ?_ dX1_clear_10
  exact ⟨⟨hT_2, hF_2⟩, rfl⟩
set_option maxRecDepth 20000 in
theorem s_X1_length_5 (h : Hp_) (hT : TY h)  : Ctr yX1_length cX1_length 1 (some .int) (rmd 0) ly ly 0 0 [vR 5] h (fun r h' => (TY h' ∧ FR [] h h') ∧ ∃ z : Int, r = some (vI z) ∧ (0 ≤ z ∧ z ≤ 1024)) := by
  refine Ctr_of (by decide) (Nat.le_of_ble_eq_true rfl) ⟨Nat.le_refl _, Nat.le_refl _⟩ (fun K hK hQ _ => ?_)
  show TT K ly 0 0 0 [(0, vR 5)] [] h
  have hF : FR [] h h := FR_rf _ _
  refine TT_aload_n hK rfl 0 rfl dX1_length_0 ?_
  refine gf_X1_15 hK (by decide) rfl (v := (h 5) 1) rfl dX1_length_1 ?_
  have r1 := ty_5_1 (v := (h 5) 1) hT rfl
  refine TT_iret hK hQ ?_ dX1_length_4
  exact ⟨⟨hT, hF⟩, ((h 5) 1), rfl, (by omega)⟩
set_option maxRecDepth 20000 in
theorem s_X1_endBits_5 (h : Hp_) (hT : TY h)  : Ctr yX1_endBits cX1_endBits 1 none (rmd 0) ly ly 0 0 [vR 5] h (fun r h' => (TY h' ∧ FR [5] h h') ∧ r = none) := by
  refine Ctr_of (by decide) (Nat.le_of_ble_eq_true rfl) ⟨Nat.le_refl _, Nat.le_refl _⟩ (fun K hK hQ _ => ?_)
  show TT K ly 0 0 0 [(0, vR 5)] [] h
  have hF : FR [5] h h := FR_rf _ _
  refine TT_aload_n hK rfl 0 rfl dX1_endBits_0 ?_
  refine TT_iconst hK dX1_endBits_1 ?_
  refine pf_X1_19 hK (by decide) rfl dX1_endBits_2 ?_
  refine TT_hp (h' := setO h 5 (fup (h 5) 2 0)) (up_can rfl rfl rfl) ?_
  have hT_1 : TY (setO h 5 (fup (h 5) 2 0)) := tu_5_2 hT (show up h 5 2 0 = (setO h 5 (fup (h 5) 2 0)) from up_can rfl rfl rfl) (by omega)
  have hF_1 : FR [5] h (setO h 5 (fup (h 5) 2 0)) := FR_up (show up h 5 2 0 = (setO h 5 (fup (h 5) 2 0)) from up_can rfl rfl rfl) hF (by decide)
  refine TT_vret hK hQ ?_ dX1_endBits_5
  exact ⟨⟨hT_1, hF_1⟩, rfl⟩
set_option maxRecDepth 20000 in
theorem s_X1_has_5 (i : Int) (h : Hp_) (hT : TY h) (hi : -2147483648 ≤ i ∧ i ≤ 2147483647) : Ctr yX1_has cX1_has 2 (some .boolean) (rmd 0) ly ly 0 0 [vR 5, vI i] h (fun r h' => (TY h' ∧ FR [] h h') ∧ ∃ z : Int, r = some (vI z) ∧ (0 ≤ z ∧ z ≤ 1) ∧ (z = 1 → 0 ≤ i ∧ i < 1024)) := by
  refine Ctr_of (by decide) (Nat.le_of_ble_eq_true rfl) ⟨Nat.le_refl _, Nat.le_refl _⟩ (fun K hK hQ _ => ?_)
  show TT K ly 0 0 0 [(0, vR 5), (1, vI i)] [] h
  have hF : FR [] h h := FR_rf _ _
  refine TT_iload_n hK rfl 1 rfl dX1_has_0 ?_
  refine TT_if_lt hK (tgt := 16) (irm (by omega) (by omega)) dX1_has_1 (by decide) (fun hb1_1 => ?_) (fun hb1_1 => ?_)
  · refine TT_iconst hK dX1_has_16 ?_
    refine TT_zret hK hQ (by decide) ?_ dX1_has_17
    exact ⟨⟨hT, hF⟩, 0, rfl, (by omega), (by omega)⟩
  · refine TT_iload_n hK rfl 1 rfl dX1_has_4 ?_
    refine TT_aload_n hK rfl 0 rfl dX1_has_5 ?_
    refine gf_X1_15 hK (by decide) rfl (v := (h 5) 1) rfl dX1_has_6 ?_
    have r2 := ty_5_1 (v := (h 5) 1) hT rfl
    refine TT_icmp_ge hK (tgt := 16) (irm (by omega) (by omega)) (irm (by omega) (by omega)) dX1_has_9 (by decide) (fun hb9_3 => ?_) (fun hb9_3 => ?_)
    · refine TT_iconst hK dX1_has_16 ?_
      refine TT_zret hK hQ (by decide) ?_ dX1_has_17
      exact ⟨⟨hT, hF⟩, 0, rfl, (by omega), (by omega)⟩
    · refine TT_iconst hK dX1_has_12 ?_
      refine TT_goto hK (tgt := 17) dX1_has_13 (by decide) ?_
      refine TT_zret hK hQ (by decide) ?_ dX1_has_17
      exact ⟨⟨hT, hF⟩, 1, rfl, (by omega), (by omega)⟩
set_option maxRecDepth 20000 in
theorem s_X1_at_5 (i : Int) (h : Hp_) (hT : TY h) (hi : -2147483648 ≤ i ∧ i ≤ 2147483647) : Ctr yX1_at cX1_at 2 (some .int) (rmd 0) ly ly 0 0 [vR 5, vI i] h (fun r h' => (TY h' ∧ FR [] h h') ∧ ∃ z : Int, r = some (vI z) ∧ (0 ≤ z ∧ z ≤ 255) ∧ ((0 ≤ i ∧ i < (h 5 1) → z = (h 6) i) ∧ (¬ (0 ≤ i ∧ i < (h 5 1)) → z = 255))) := by
  refine Ctr_of (by decide) (Nat.le_of_ble_eq_true rfl) ⟨Nat.le_refl _, Nat.le_refl _⟩ (fun K hK hQ _ => ?_)
  show TT K ly 0 0 0 [(0, vR 5), (1, vI i)] [] h
  have hF : FR [] h h := FR_rf _ _
  refine TT_iload_n hK rfl 1 rfl dX1_at_0 ?_
  refine TT_if_lt hK (tgt := 21) (irm (by omega) (by omega)) dX1_at_1 (by decide) (fun hb1_1 => ?_) (fun hb1_1 => ?_)
  · refine TT_sipush hK (by decide) dX1_at_21 ?_
    refine TT_iret hK hQ ?_ dX1_at_24
    exact ⟨⟨hT, hF⟩, 255, rfl, (by omega), (by omega)⟩
  · refine TT_iload_n hK rfl 1 rfl dX1_at_4 ?_
    refine TT_aload_n hK rfl 0 rfl dX1_at_5 ?_
    refine gf_X1_15 hK (by decide) rfl (v := (h 5) 1) rfl dX1_at_6 ?_
    have r2 := ty_5_1 (v := (h 5) 1) hT rfl
    refine TT_icmp_ge hK (tgt := 21) (irm (by omega) (by omega)) (irm (by omega) (by omega)) dX1_at_9 (by decide) (fun hb9_3 => ?_) (fun hb9_3 => ?_)
    · refine TT_sipush hK (by decide) dX1_at_21 ?_
      refine TT_iret hK hQ ?_ dX1_at_24
      exact ⟨⟨hT, hF⟩, 255, rfl, (by omega), (by omega)⟩
    · refine TT_aload_n hK rfl 0 rfl dX1_at_12 ?_
      refine gf_X1_9 hK (by decide) rfl (q := 6) rfl rfl dX1_at_13 ?_
      refine TT_iload_n hK rfl 1 rfl dX1_at_16 ?_
      refine TT_iald hK (o := 6) (n := 1024) (by decide) rfl (by first | omega | (simp [up, setR] <;> omega)) (by first | omega | (simp [up, setR] <;> omega)) (v := (h 6) i) rfl dX1_at_17 ?_
      have r4 := ty_6 (i := i) (v := (h 6) i) hT rfl (by omega) (by omega)
      refine TT_goto hK (tgt := 24) dX1_at_18 (by decide) ?_
      refine TT_iret hK hQ ?_ dX1_at_24
      exact ⟨⟨hT, hF⟩, ((h 6) i), rfl, (by omega), (by omega)⟩
set_option maxRecDepth 20000 in
theorem s_X1_set_5 (i v : Int) (h : Hp_) (hT : TY h) (hi : -2147483648 ≤ i ∧ i ≤ 2147483647) (hv : 0 ≤ v ∧ v ≤ 255) : Ctr yX1_set cX1_set 3 none (rmd 1) ly ly 0 0 [vR 5, vI i, vI v] h (fun r h' => (TY h' ∧ FR [6] h h') ∧ r = none) := by
  refine Ctr_of (by decide) (Nat.le_of_ble_eq_true rfl) ⟨Nat.le_refl _, Nat.le_refl _⟩ (fun K hK hQ _ => ?_)
  show TT K ly 0 0 0 [(0, vR 5), (1, vI i), (2, vI v)] [] h
  have hF : FR [6] h h := FR_rf _ _
  refine TT_aload_n hK rfl 0 rfl dX1_set_0 ?_
  refine TT_iload_n hK rfl 1 rfl dX1_set_1 ?_
  refine iv_X1_22 hK (s_X1_has_5 i h hT (by first | omega | (simp [up, setR] <;> omega))) (by decide) rfl ⟨by decide, by decide⟩ (by decide) rfl rfl (Nat.le_of_ble_eq_true rfl) ⟨by decide, by decide⟩ dX1_set_2 ?_
  intro r9 g2_1 hp9
  obtain ⟨⟨hT_1, hG_1⟩, z2_1, hr9, hz_1, p1_1⟩ := hp9
  rw [hr9]
  have hF_1 : FR [6] h g2_1 := FR_tr hF hG_1 (by decide)
  show TT K ly 0 0 5 [(0, vR 5), (1, vI i), (2, vI v)] [vI z2_1] g2_1
  refine TT_if_eq hK (tgt := 15) (irm (by omega) (by omega)) dX1_set_5 (by decide) (fun hb5_2 => ?_) (fun hb5_2 => ?_)
  · refine TT_vret hK hQ ?_ dX1_set_15
    exact ⟨⟨hT_1, hF_1⟩, rfl⟩
  · refine TT_aload_n hK rfl 0 rfl dX1_set_8 ?_
    refine gf_X1_9 hK (by decide) rfl (q := 6) rfl rfl dX1_set_9 ?_
    refine TT_iload_n hK rfl 1 rfl dX1_set_12 ?_
    refine TT_iload_n hK rfl 2 rfl dX1_set_13 ?_
    refine TT_iast hK (o := 6) (n := 1024) (by decide) rfl (by omega) (by omega) dX1_set_14 ?_
    refine TT_hp (h' := setO g2_1 6 (fup (h 6) i v)) (up_can (hG_1 6 (by decide)) rfl rfl) ?_
    have hT_3 : TY (setO g2_1 6 (fup (h 6) i v)) := tu_6 hT_1 (show up g2_1 6 i v = (setO g2_1 6 (fup (h 6) i v)) from up_can (hG_1 6 (by decide)) rfl rfl) (by omega)
    have hF_3 : FR [6] h (setO g2_1 6 (fup (h 6) i v)) := FR_up (show up g2_1 6 i v = (setO g2_1 6 (fup (h 6) i v)) from up_can (hG_1 6 (by decide)) rfl rfl) hF_1 (by decide)
    refine TT_vret hK hQ ?_ dX1_set_15
    exact ⟨⟨hT_3, hF_3⟩, rfl⟩
set_option maxRecDepth 20000 in
theorem s_X1_add_5 (v : Int) (h : Hp_) (hT : TY h) (hv : 0 ≤ v ∧ v ≤ 255) : Ctr yX1_add cX1_add 2 none (rmd 0) ly ly 0 0 [vR 5, vI v] h (fun r h' => (TY h' ∧ FR [5, 6] h h') ∧ r = none) := by
  refine Ctr_of (by decide) (Nat.le_of_ble_eq_true rfl) ⟨Nat.le_refl _, Nat.le_refl _⟩ (fun K hK hQ _ => ?_)
  show TT K ly 0 0 0 [(0, vR 5), (1, vI v)] [] h
  have hF : FR [5, 6] h h := FR_rf _ _
  refine TT_aload_n hK rfl 0 rfl dX1_add_0 ?_
  refine gf_X1_15 hK (by decide) rfl (v := (h 5) 1) rfl dX1_add_1 ?_
  have r1 := ty_5_1 (v := (h 5) 1) hT rfl
  refine TT_aload_n hK rfl 0 rfl dX1_add_4 ?_
  refine gf_X1_9 hK (by decide) rfl (q := 6) rfl rfl dX1_add_5 ?_
  refine TT_alen hK (o := 6) (t := 12) (n := 1024) (v := 1024) (by decide) rfl (by decide) rfl dX1_add_8 ?_
  refine TT_icmp_ge hK (tgt := 32) (irm (by omega) (by omega)) (by decide) dX1_add_9 (by decide) (fun hb9_2 => ?_) (fun hb9_2 => ?_)
  · refine TT_aload_n hK rfl 0 rfl dX1_add_32 ?_
    refine TT_iconst hK dX1_add_33 ?_
    refine pf_X1_19 hK (by decide) rfl dX1_add_34 ?_
    refine TT_hp (h' := setO h 5 (fup (h 5) 2 0)) (up_can rfl rfl rfl) ?_
    have hT_3 : TY (setO h 5 (fup (h 5) 2 0)) := tu_5_2 hT (show up h 5 2 0 = (setO h 5 (fup (h 5) 2 0)) from up_can rfl rfl rfl) (by omega)
    have hF_3 : FR [5, 6] h (setO h 5 (fup (h 5) 2 0)) := FR_up (show up h 5 2 0 = (setO h 5 (fup (h 5) 2 0)) from up_can rfl rfl rfl) hF (by decide)
    refine TT_vret hK hQ ?_ dX1_add_37
    exact ⟨⟨hT_3, hF_3⟩, rfl⟩
  · refine TT_aload_n hK rfl 0 rfl dX1_add_12 ?_
    refine gf_X1_9 hK (by decide) rfl (q := 6) rfl rfl dX1_add_13 ?_
    refine TT_aload_n hK rfl 0 rfl dX1_add_16 ?_
    refine gf_X1_15 hK (by decide) rfl (v := (h 5) 1) rfl dX1_add_17 ?_
    refine TT_iload_n hK rfl 1 rfl dX1_add_20 ?_
    refine TT_iast hK (o := 6) (n := 1024) (by decide) rfl (by omega) (by omega) dX1_add_21 ?_
    refine TT_hp (h' := setO h 6 (fup (h 6) ((h 5) 1) v)) (up_can rfl rfl rfl) ?_
    have hT_4 : TY (setO h 6 (fup (h 6) ((h 5) 1) v)) := tu_6 hT (show up h 6 ((h 5) 1) v = (setO h 6 (fup (h 6) ((h 5) 1) v)) from up_can rfl rfl rfl) (by omega)
    have hF_4 : FR [5, 6] h (setO h 6 (fup (h 6) ((h 5) 1) v)) := FR_up (show up h 6 ((h 5) 1) v = (setO h 6 (fup (h 6) ((h 5) 1) v)) from up_can rfl rfl rfl) hF (by decide)
    refine TT_aload_n hK rfl 0 rfl dX1_add_22 ?_
    refine TT_dup hK rfl dX1_add_23 ?_
    refine gf_X1_15 hK (by decide) rfl (v := (h 5) 1) (rd_ (sOf_ne _ _ (by decide)) rfl) dX1_add_24 ?_
    refine TT_iconst hK dX1_add_27 ?_
    refine TT_iadd hK dX1_add_28 ?_
    refine pf_X1_15 hK (by decide) rfl dX1_add_29 ?_
    refine TT_hp (h' := setO (setO h 5 (fup (h 5) 1 (((h 5) 1) + 1))) 6 (fup (h 6) ((h 5) 1) v)) (up_can (sOf_ne _ _ (by decide)) rfl ((setO_comm _ _ _ (by decide)).trans (setO_cg rfl rfl))) ?_
    have hT_5 : TY (setO (setO h 5 (fup (h 5) 1 (((h 5) 1) + 1))) 6 (fup (h 6) ((h 5) 1) v)) := tu_5_1 hT_4 (show up (setO h 6 (fup (h 6) ((h 5) 1) v)) 5 1 (((h 5) 1) + 1) = (setO (setO h 5 (fup (h 5) 1 (((h 5) 1) + 1))) 6 (fup (h 6) ((h 5) 1) v)) from up_can (sOf_ne _ _ (by decide)) rfl ((setO_comm _ _ _ (by decide)).trans (setO_cg rfl rfl))) (by omega)
    have hF_5 : FR [5, 6] h (setO (setO h 5 (fup (h 5) 1 (((h 5) 1) + 1))) 6 (fup (h 6) ((h 5) 1) v)) := FR_up (show up (setO h 6 (fup (h 6) ((h 5) 1) v)) 5 1 (((h 5) 1) + 1) = (setO (setO h 5 (fup (h 5) 1 (((h 5) 1) + 1))) 6 (fup (h 6) ((h 5) 1) v)) from up_can (sOf_ne _ _ (by decide)) rfl ((setO_comm _ _ _ (by decide)).trans (setO_cg rfl rfl))) hF_4 (by decide)
    refine TT_aload_n hK rfl 0 rfl dX1_add_32 ?_
    refine TT_iconst hK dX1_add_33 ?_
    refine pf_X1_19 hK (by decide) rfl dX1_add_34 ?_
    refine TT_hp (h' := setO (setO h 5 (fup (fup (h 5) 1 (((h 5) 1) + 1)) 2 0)) 6 (fup (h 6) ((h 5) 1) v)) (up_can ((sOf_ne _ _ (by decide)).trans (sOf_eq _ _ _)) rfl ((setO_comm _ _ _ (by decide)).trans (setO_cg (setO_same _ _ _ _) rfl))) ?_
    have hT_6 : TY (setO (setO h 5 (fup (fup (h 5) 1 (((h 5) 1) + 1)) 2 0)) 6 (fup (h 6) ((h 5) 1) v)) := tu_5_2 hT_5 (show up (setO (setO h 5 (fup (h 5) 1 (((h 5) 1) + 1))) 6 (fup (h 6) ((h 5) 1) v)) 5 2 0 = (setO (setO h 5 (fup (fup (h 5) 1 (((h 5) 1) + 1)) 2 0)) 6 (fup (h 6) ((h 5) 1) v)) from up_can ((sOf_ne _ _ (by decide)).trans (sOf_eq _ _ _)) rfl ((setO_comm _ _ _ (by decide)).trans (setO_cg (setO_same _ _ _ _) rfl))) (by omega)
    have hF_6 : FR [5, 6] h (setO (setO h 5 (fup (fup (h 5) 1 (((h 5) 1) + 1)) 2 0)) 6 (fup (h 6) ((h 5) 1) v)) := FR_up (show up (setO (setO h 5 (fup (h 5) 1 (((h 5) 1) + 1))) 6 (fup (h 6) ((h 5) 1) v)) 5 2 0 = (setO (setO h 5 (fup (fup (h 5) 1 (((h 5) 1) + 1)) 2 0)) 6 (fup (h 6) ((h 5) 1) v)) from up_can ((sOf_ne _ _ (by decide)).trans (sOf_eq _ _ _)) rfl ((setO_comm _ _ _ (by decide)).trans (setO_cg (setO_same _ _ _ _) rfl))) hF_5 (by decide)
    refine TT_vret hK hQ ?_ dX1_add_37
    exact ⟨⟨hT_6, hF_6⟩, rfl⟩
set_option maxRecDepth 20000 in
theorem s_X1_byteBehindBits_5 (h : Hp_) (hT : TY h)  : Ctr yX1_byteBehindBits cX1_byteBehindBits 1 (some .int) (rmd 0) ly ly 0 0 [vR 5] h (fun r h' => (TY h' ∧ FR [] h h') ∧ ∃ z : Int, r = some (vI z) ∧ (-2147483648 ≤ z ∧ z ≤ 2147483647)) := by
  refine Ctr_of (by decide) (Nat.le_of_ble_eq_true rfl) ⟨Nat.le_refl _, Nat.le_refl _⟩ (fun K hK hQ _ => ?_)
  show TT K ly 0 0 0 [(0, vR 5)] [] h
  have hF : FR [] h h := FR_rf _ _
  refine TT_aload_n hK rfl 0 rfl dX1_byteBehindBits_0 ?_
  refine gf_X1_38 hK (by decide) rfl (v := (h 5) 3) rfl dX1_byteBehindBits_1 ?_
  have r1 := ty_5_3 (v := (h 5) 3) hT rfl
  refine TT_bipush hK (by decide) dX1_byteBehindBits_4 ?_
  refine TT_iadd hK dX1_byteBehindBits_6 ?_
  refine TT_w32 (fun x7_2 hx2 => ?_)
  refine TT_bipush hK (by decide) dX1_byteBehindBits_7 ?_
  refine TT_idiv hK (irm (by omega) (by omega)) (by decide) (by omega) dX1_byteBehindBits_9 ?_
  refine TT_w32 (fun x10_3 hx3 => ?_)
  refine TT_iret hK hQ ?_ dX1_byteBehindBits_10
  exact ⟨⟨hT, hF⟩, x10_3, rfl, (by omega)⟩
set_option maxRecDepth 20000 in
theorem s_X1_takeFrom_5 (s t : Int) (h : Hp_) (hT : TY h) (hs : -2147483648 ≤ s ∧ s ≤ 2147483647) (ht : -2147483648 ≤ t ∧ t ≤ 2147483647) : Ctr yX1_takeFrom cX1_takeFrom 3 none (rmd 0) ly ly 0 0 [vR 5, vI s, vI t] h (fun r h' => (TY h' ∧ FR [5] h h') ∧ r = none) := by
  refine Ctr_of (by decide) (Nat.le_of_ble_eq_true rfl) ⟨Nat.le_refl _, Nat.le_refl _⟩ (fun K hK hQ _ => ?_)
  show TT K ly 0 0 0 [(0, vR 5), (1, vI s), (2, vI t)] [] h
  have hF : FR [5] h h := FR_rf _ _
  refine TT_aload_n hK rfl 0 rfl dX1_takeFrom_0 ?_
  refine TT_bipush hK (by decide) dX1_takeFrom_1 ?_
  refine TT_iload_n hK rfl 1 rfl dX1_takeFrom_3 ?_
  refine TT_w32 (fun x4_1 hx1 => ?_)
  refine TT_imul hK dX1_takeFrom_4 ?_
  refine TT_w32 (fun x5_2 hx2 => ?_)
  refine pf_X1_38 hK (by decide) rfl dX1_takeFrom_5 ?_
  refine TT_hp (h' := setO h 5 (fup (h 5) 3 x5_2)) (up_can rfl rfl rfl) ?_
  have hT_3 : TY (setO h 5 (fup (h 5) 3 x5_2)) := tu_5_3 hT (show up h 5 3 x5_2 = (setO h 5 (fup (h 5) 3 x5_2)) from up_can rfl rfl rfl) (by omega)
  have hF_3 : FR [5] h (setO h 5 (fup (h 5) 3 x5_2)) := FR_up (show up h 5 3 x5_2 = (setO h 5 (fup (h 5) 3 x5_2)) from up_can rfl rfl rfl) hF (by decide)
  refine TT_aload_n hK rfl 0 rfl dX1_takeFrom_8 ?_
  refine TT_bipush hK (by decide) dX1_takeFrom_9 ?_
  refine TT_iload_n hK rfl 2 rfl dX1_takeFrom_11 ?_
  refine TT_w32 (fun x12_4 hx4 => ?_)
  refine TT_imul hK dX1_takeFrom_12 ?_
  refine TT_w32 (fun x13_5 hx5 => ?_)
  refine pf_X1_41 hK (by decide) rfl dX1_takeFrom_13 ?_
  refine TT_hp (h' := setO h 5 (fup (fup (h 5) 3 x5_2) 4 x13_5)) (up_can (sOf_eq _ _ _) rfl (setO_same _ _ _ _)) ?_
  have hT_6 : TY (setO h 5 (fup (fup (h 5) 3 x5_2) 4 x13_5)) := tu_5_4 hT_3 (show up (setO h 5 (fup (h 5) 3 x5_2)) 5 4 x13_5 = (setO h 5 (fup (fup (h 5) 3 x5_2) 4 x13_5)) from up_can (sOf_eq _ _ _) rfl (setO_same _ _ _ _)) (by omega)
  have hF_6 : FR [5] h (setO h 5 (fup (fup (h 5) 3 x5_2) 4 x13_5)) := FR_up (show up (setO h 5 (fup (h 5) 3 x5_2)) 5 4 x13_5 = (setO h 5 (fup (fup (h 5) 3 x5_2) 4 x13_5)) from up_can (sOf_eq _ _ _) rfl (setO_same _ _ _ _)) hF_3 (by decide)
  refine TT_vret hK hQ ?_ dX1_takeFrom_16
  exact ⟨⟨hT_6, hF_6⟩, rfl⟩
set_option maxRecDepth 20000 in
theorem s_X1_takeBits_5 (n : Int) (h : Hp_) (hT : TY h) (hn : -2147483648 ≤ n ∧ n ≤ 2147483647) : Ctr yX1_takeBits cX1_takeBits 5 (some .int) (rmd 1) ly ly 0 0 [vR 5, vI n] h (fun r h' => (TY h' ∧ FR [5] h h') ∧ ∃ z : Int, r = some (vI z) ∧ (-1 ≤ z ∧ z ≤ 1048576)) := by
  refine Ctr_of (by decide) (Nat.le_of_ble_eq_true rfl) ⟨Nat.le_refl _, Nat.le_refl _⟩ (fun K hK hQ _ => ?_)
  show TT K ly 0 0 0 [(0, vR 5), (1, vI n)] [] h
  have hF : FR [5] h h := FR_rf _ _
  refine TT_iload_n hK rfl 1 rfl dX1_takeBits_0 ?_
  refine TT_aload_n hK rfl 0 rfl dX1_takeBits_1 ?_
  refine gf_X1_41 hK (by decide) rfl (v := (h 5) 4) rfl dX1_takeBits_2 ?_
  have r1 := ty_5_4 (v := (h 5) 4) hT rfl
  refine TT_aload_n hK rfl 0 rfl dX1_takeBits_5 ?_
  refine gf_X1_38 hK (by decide) rfl (v := (h 5) 3) rfl dX1_takeBits_6 ?_
  have r2 := ty_5_3 (v := (h 5) 3) hT rfl
  refine TT_isub hK dX1_takeBits_9 ?_
  refine TT_w32 (fun x10_3 hx3 => ?_)
  refine TT_icmp_le hK (tgt := 15) (irm (by omega) (by omega)) (irm (by omega) (by omega)) dX1_takeBits_10 (by decide) (fun hb10_4 => ?_) (fun hb10_4 => ?_)
  · refine TT_iconst hK dX1_takeBits_15 ?_
    refine TT_istore_n hK rfl (lv' := [(2, vI 0), (0, vR 5), (1, vI n)]) (by decide) rfl dX1_takeBits_16 ?_
    refine TT_iconst hK dX1_takeBits_17 ?_
    refine TT_istore_n hK rfl (lv' := [(3, vI 0), (2, vI 0), (0, vR 5), (1, vI n)]) (by decide) rfl dX1_takeBits_18 ?_
    have L19_5 : ∀ (k5 : Nat) (v : Int) (k : Int) (w19_5 : Hp_), TY w19_5 → FR [5] h w19_5 → (0 ≤ v ∧ v ≤ 1048576) → (0 ≤ k ∧ (k ≤ n ∨ k = 0)) → (n - k).toNat < k5 → TT K ly 0 0 19 [(0, vR 5), (1, vI n), (2, vI v), (3, vI k)] [] w19_5 := by
      intro k5
      induction k5 with
      | zero => intro v k w19_5 hT19_5 hF19_5 hv hk hk5; exact absurd hk5 (Nat.not_lt_zero _)
      | succ k5 ih5 =>
        intro v k w19_5 hT19_5 hF19_5 hv hk hk5
        refine TT_iload_n hK rfl 3 rfl dX1_takeBits_19 ?_
        refine TT_iload_n hK rfl 1 rfl dX1_takeBits_20 ?_
        refine TT_icmp_ge hK (tgt := 77) (irm (by omega) (by omega)) (irm (by omega) (by omega)) dX1_takeBits_21 (by decide) (fun hb21_6 => ?_) (fun hb21_6 => ?_)
        · refine TT_iload_n hK rfl 2 rfl dX1_takeBits_77 ?_
          refine TT_iret hK hQ ?_ dX1_takeBits_78
          exact ⟨⟨hT19_5, hF19_5⟩, v, rfl, (by omega)⟩
        · refine TT_aload_n hK rfl 0 rfl dX1_takeBits_24 ?_
          refine TT_aload_n hK rfl 0 rfl dX1_takeBits_25 ?_
          refine gf_X1_38 hK (by decide) rfl (v := (w19_5 5) 3) rfl dX1_takeBits_26 ?_
          have r7 := ty_5_3 (v := (w19_5 5) 3) hT19_5 rfl
          refine TT_iconst hK dX1_takeBits_29 ?_
          refine TT_ishr hK (irm (by omega) (by omega)) (by omega) (by omega) dX1_takeBits_30 ?_
          refine TT_cgI (b := ((w19_5 5) 3) / 8) rfl ?_
          refine iv_X1_26 hK (s_X1_at_5 (((w19_5 5) 3) / 8) w19_5 hT19_5 (by first | omega | (simp [up, setR] <;> omega))) (by decide) rfl ⟨by decide, by decide⟩ (by decide) rfl rfl (Nat.le_of_ble_eq_true rfl) ⟨by decide, by decide⟩ dX1_takeBits_31 ?_
          intro r9 g31_8 hp9
          obtain ⟨⟨hT_8, hG_8⟩, z31_8, hr9, hz_8, p1_8⟩ := hp9
          rw [hr9]
          have hF_8 : FR [5] h g31_8 := FR_tr hF19_5 hG_8 (by decide)
          rw [show w19_5 5 1 = (w19_5 5) 1 from rfl] at p1_8
          rw [show w19_5 6 = h 6 from (hF19_5 6 (by decide))] at p1_8
          show TT K ly 0 0 34 [(0, vR 5), (1, vI n), (2, vI v), (3, vI k)] [vI z31_8] g31_8
          refine TT_bipush hK (by decide) dX1_takeBits_34 ?_
          refine TT_aload_n hK rfl 0 rfl dX1_takeBits_36 ?_
          refine gf_X1_38 hK (by decide) rfl (v := (w19_5 5) 3) (rd_ (hG_8 5 (by decide)) rfl) dX1_takeBits_37 ?_
          refine TT_bipush hK (by decide) dX1_takeBits_40 ?_
          refine TT_iand hK dX1_takeBits_42 ?_
          refine TT_cgI (iand_m ((w19_5 5) 3) 3 (by decide)) ?_
          show TT K ly 0 0 43 [(0, vR 5), (1, vI n), (2, vI v), (3, vI k)] (vI (((w19_5 5) 3) % 8) :: [vI 7, vI z31_8]) g31_8
          refine TT_isub hK dX1_takeBits_43 ?_
          refine TT_ishr hK (irm (by omega) (by omega)) (by omega) (by omega) dX1_takeBits_44 ?_
          refine TT_iconst hK dX1_takeBits_45 ?_
          refine TT_iand hK dX1_takeBits_46 ?_
          refine TT_cgI (iand_m (z31_8 / 2 ^ (7 - (((w19_5 5) 3) % 8)).toNat) 1 (by decide)) ?_
          show TT K ly 0 0 47 [(0, vR 5), (1, vI n), (2, vI v), (3, vI k)] (vI ((z31_8 / 2 ^ (7 - (((w19_5 5) 3) % 8)).toNat) % 2) :: []) g31_8
          refine TT_istore hK (lv' := [(4, vI ((z31_8 / 2 ^ (7 - (((w19_5 5) 3) % 8)).toNat) % 2)), (0, vR 5), (1, vI n), (2, vI v), (3, vI k)]) (by decide) rfl dX1_takeBits_47 ?_
          refine TT_iconst hK dX1_takeBits_49 ?_
          refine TT_iload_n hK rfl 3 rfl dX1_takeBits_50 ?_
          refine TT_imul hK dX1_takeBits_51 ?_
          refine TT_iload hK 0 rfl dX1_takeBits_52 ?_
          refine TT_iadd hK dX1_takeBits_54 ?_
          refine TT_ldc hK lc_X1_44 dX1_takeBits_55 ?_
          refine TT_mmin hK (irm (by omega) (by omega)) (by decide) iw_X1_45 (by decide) (Nat.le_of_ble_eq_true rfl) ⟨by decide, by decide⟩ dX1_takeBits_57 ?_
          refine TT_istore_n hK rfl (lv' := [(2, vI (min ((2 * v) + ((z31_8 / 2 ^ (7 - (((w19_5 5) 3) % 8)).toNat) % 2)) 1048576)), (4, vI ((z31_8 / 2 ^ (7 - (((w19_5 5) 3) % 8)).toNat) % 2)), (0, vR 5), (1, vI n), (3, vI k)]) (by decide) rfl dX1_takeBits_60 ?_
          refine TT_aload_n hK rfl 2 rfl dX1_takeBits_61 ?_
          refine TT_dup hK rfl dX1_takeBits_62 ?_
          refine gf_X1_38 hK (by decide) rfl (v := (w19_5 5) 3) (rd_ (hG_8 5 (by decide)) rfl) dX1_takeBits_63 ?_
          refine TT_iconst hK dX1_takeBits_66 ?_
          refine TT_iadd hK dX1_takeBits_67 ?_
          refine TT_w32 (fun x68_9 hx9 => ?_)
          refine pf_X1_38 hK (by decide) rfl dX1_takeBits_68 ?_
          refine TT_hp (h' := setO g31_8 5 (fup (w19_5 5) 3 x68_9)) (up_can (hG_8 5 (by decide)) rfl rfl) ?_
          have hT_10 : TY (setO g31_8 5 (fup (w19_5 5) 3 x68_9)) := tu_5_3 hT_8 (show up g31_8 5 3 x68_9 = (setO g31_8 5 (fup (w19_5 5) 3 x68_9)) from up_can (hG_8 5 (by decide)) rfl rfl) (by omega)
          have hF_10 : FR [5] h (setO g31_8 5 (fup (w19_5 5) 3 x68_9)) := FR_up (show up g31_8 5 3 x68_9 = (setO g31_8 5 (fup (w19_5 5) 3 x68_9)) from up_can (hG_8 5 (by decide)) rfl rfl) hF_8 (by decide)
          refine TT_iinc hK (v := k + 1) (lv' := [(3, vI (k + 1)), (2, vI (min ((2 * v) + ((z31_8 / 2 ^ (7 - (((w19_5 5) 3) % 8)).toNat) % 2)) 1048576)), (4, vI ((z31_8 / 2 ^ (7 - (((w19_5 5) 3) % 8)).toNat) % 2)), (0, vR 5), (1, vI n)]) 4 rfl rfl (by decide) rfl dX1_takeBits_71 ?_
          refine TT_goto hK (tgt := 19) dX1_takeBits_74 (by decide) ?_
          refine TT_sub [3, 4, 1, 0] rfl ?_
          exact ih5 (min ((2 * v) + ((z31_8 / 2 ^ (7 - (((w19_5 5) 3) % 8)).toNat) % 2)) 1048576) (k + 1) (setO g31_8 5 (fup (w19_5 5) 3 x68_9)) hT_10 hF_10 (by first | omega | (simp [up, setR] <;> omega)) (by first | omega | (simp [up, setR] <;> omega)) (by first | omega | (simp [up, setR] <;> omega))
    refine TT_sub [2, 3, 1, 0] rfl ?_
    exact L19_5 (((n - 0).toNat) + 1) 0 0 h hT hF (by first | omega | (simp [up, setR] <;> omega)) (by first | omega | (simp [up, setR] <;> omega)) (Nat.lt_succ_self _)
  · refine TT_iconst hK dX1_takeBits_13 ?_
    refine TT_iret hK hQ ?_ dX1_takeBits_14
    exact ⟨⟨hT, hF⟩, (-1), rfl, (by omega)⟩
set_option maxRecDepth 20000 in
theorem s_X1_putBits_5 (v n : Int) (h : Hp_) (hT : TY h) (hv : -2147483648 ≤ v ∧ v ≤ 2147483647) (hn : -2147483648 ≤ n ∧ n ≤ 2147483647) : Ctr yX1_putBits cX1_putBits 4 none (rmd 2) ly ly 0 0 [vR 5, vI v, vI n] h (fun r h' => (TY h' ∧ FR [5, 6] h h') ∧ r = none) := by
  refine Ctr_of (by decide) (Nat.le_of_ble_eq_true rfl) ⟨Nat.le_refl _, Nat.le_refl _⟩ (fun K hK hQ _ => ?_)
  show TT K ly 0 0 0 [(0, vR 5), (1, vI v), (2, vI n)] [] h
  have hF : FR [5, 6] h h := FR_rf _ _
  refine TT_iload_n hK rfl 2 rfl dX1_putBits_0 ?_
  refine TT_iconst hK dX1_putBits_1 ?_
  refine TT_isub hK dX1_putBits_2 ?_
  refine TT_w32 (fun x3_1 hx1 => ?_)
  refine TT_istore_n hK rfl (lv' := [(3, vI x3_1), (0, vR 5), (1, vI v), (2, vI n)]) (by decide) rfl dX1_putBits_3 ?_
  have L4_2 : ∀ (k2 : Nat) (k : Int) (w4_2 : Hp_), TY w4_2 → FR [5, 6] h w4_2 → (-2147483648 ≤ k ∧ k ≤ 2147483647) → (k + 1).toNat < k2 → TT K ly 0 0 4 [(0, vR 5), (1, vI v), (2, vI n), (3, vI k)] [] w4_2 := by
    intro k2
    induction k2 with
    | zero => intro k w4_2 hT4_2 hF4_2 hk hk2; exact absurd hk2 (Nat.not_lt_zero _)
    | succ k2 ih2 =>
      intro k w4_2 hT4_2 hF4_2 hk hk2
      refine TT_iload_n hK rfl 3 rfl dX1_putBits_4 ?_
      refine TT_if_lt hK (tgt := 73) (irm (by omega) (by omega)) dX1_putBits_5 (by decide) (fun hb5_3 => ?_) (fun hb5_3 => ?_)
      · refine TT_vret hK hQ ?_ dX1_putBits_73
        exact ⟨⟨hT4_2, hF4_2⟩, rfl⟩
      · refine TT_aload_n hK rfl 0 rfl dX1_putBits_8 ?_
        refine gf_X1_19 hK (by decide) rfl (v := (w4_2 5) 2) rfl dX1_putBits_9 ?_
        have r4 := ty_5_2 (v := (w4_2 5) 2) hT4_2 rfl
        refine TT_if_ne hK (tgt := 26) (irm (by omega) (by omega)) dX1_putBits_12 (by decide) (fun hb12_5 => ?_) (fun hb12_5 => ?_)
        · refine TT_aload_n hK rfl 0 rfl dX1_putBits_26 ?_
          refine TT_dup hK rfl dX1_putBits_27 ?_
          refine gf_X1_19 hK (by decide) rfl (v := (w4_2 5) 2) rfl dX1_putBits_28 ?_
          refine TT_iconst hK dX1_putBits_31 ?_
          refine TT_isub hK dX1_putBits_32 ?_
          refine pf_X1_19 hK (by decide) rfl dX1_putBits_33 ?_
          refine TT_hp (h' := setO w4_2 5 (fup (w4_2 5) 2 (((w4_2 5) 2) - 1))) (up_can rfl rfl rfl) ?_
          have hT_6 : TY (setO w4_2 5 (fup (w4_2 5) 2 (((w4_2 5) 2) - 1))) := tu_5_2 hT4_2 (show up w4_2 5 2 (((w4_2 5) 2) - 1) = (setO w4_2 5 (fup (w4_2 5) 2 (((w4_2 5) 2) - 1))) from up_can rfl rfl rfl) (by omega)
          have hF_6 : FR [5, 6] h (setO w4_2 5 (fup (w4_2 5) 2 (((w4_2 5) 2) - 1))) := FR_up (show up w4_2 5 2 (((w4_2 5) 2) - 1) = (setO w4_2 5 (fup (w4_2 5) 2 (((w4_2 5) 2) - 1))) from up_can rfl rfl rfl) hF4_2 (by decide)
          refine TT_aload_n hK rfl 0 rfl dX1_putBits_36 ?_
          refine TT_aload_n hK rfl 0 rfl dX1_putBits_37 ?_
          refine gf_X1_15 hK (by decide) rfl (v := (w4_2 5) 1) (rd_ (sOf_eq _ _ _) (fup_ne _ _ (by decide))) dX1_putBits_38 ?_
          have r7 := ty_5_1 (v := (w4_2 5) 1) hT_6 (rd_ (sOf_eq _ _ _) (fup_ne _ _ (by decide)))
          refine TT_iconst hK dX1_putBits_41 ?_
          refine TT_isub hK dX1_putBits_42 ?_
          refine TT_aload_n hK rfl 0 rfl dX1_putBits_43 ?_
          refine TT_aload_n hK rfl 0 rfl dX1_putBits_44 ?_
          refine gf_X1_15 hK (by decide) rfl (v := (w4_2 5) 1) (rd_ (sOf_eq _ _ _) (fup_ne _ _ (by decide))) dX1_putBits_45 ?_
          refine TT_iconst hK dX1_putBits_48 ?_
          refine TT_isub hK dX1_putBits_49 ?_
          refine iv_X1_26 hK (s_X1_at_5 (((w4_2 5) 1) - 1) (setO w4_2 5 (fup (w4_2 5) 2 (((w4_2 5) 2) - 1))) hT_6 (by first | omega | (simp [up, setR] <;> omega))) (by decide) rfl ⟨by decide, by decide⟩ (by decide) rfl rfl (Nat.le_of_ble_eq_true rfl) ⟨by decide, by decide⟩ dX1_putBits_50 ?_
          intro r9 g50_8 hp9
          obtain ⟨⟨hT_8, hG_8⟩, z50_8, hr9, hz_8, p1_8⟩ := hp9
          rw [hr9]
          have hF_8 : FR [5, 6] h g50_8 := FR_tr hF_6 hG_8 (by decide)
          rw [show (setO w4_2 5 (fup (w4_2 5) 2 (((w4_2 5) 2) - 1))) 5 1 = (w4_2 5) 1 from rd_ (sOf_eq _ _ _) (fup_ne _ _ (by decide))] at p1_8
          rw [show (setO w4_2 5 (fup (w4_2 5) 2 (((w4_2 5) 2) - 1))) 6 = w4_2 6 from sOf_ne _ _ (by decide)] at p1_8
          show TT K ly 0 0 53 [(0, vR 5), (1, vI v), (2, vI n), (3, vI k)] [vI z50_8, vI (((w4_2 5) 1) - 1), vR 5] g50_8
          refine TT_iload_n hK rfl 1 rfl dX1_putBits_53 ?_
          refine TT_iload_n hK rfl 3 rfl dX1_putBits_54 ?_
          refine TT_ishr_a hK dX1_putBits_55 (fun x55_9 hx9 => ?_)
          refine TT_iconst hK dX1_putBits_56 ?_
          refine TT_iand hK dX1_putBits_57 ?_
          refine TT_cgI (iand_m x55_9 1 (by decide)) ?_
          show TT K ly 0 0 58 [(0, vR 5), (1, vI v), (2, vI n), (3, vI k)] (vI (x55_9 % 2) :: [vI z50_8, vI (((w4_2 5) 1) - 1), vR 5]) g50_8
          refine TT_aload_n hK rfl 0 rfl dX1_putBits_58 ?_
          refine gf_X1_19 hK (by decide) rfl (v := ((w4_2 5) 2) - 1) (rd_ (((hG_8 5 (by decide))).trans (sOf_eq _ _ _)) (fup_eq _ _ _)) dX1_putBits_59 ?_
          have r10 := ty_5_2 (v := ((w4_2 5) 2) - 1) hT_8 (rd_ (((hG_8 5 (by decide))).trans (sOf_eq _ _ _)) (fup_eq _ _ _))
          refine TT_ishl hK (by omega) (by omega) dX1_putBits_62 ?_
          refine TT_nmI (fun y9 hy9 => ?_)
          refine TT_ior hK dX1_putBits_63 ?_
          have hy9b : 0 ≤ y9 ∧ y9 ≤ 128 := by rw [hy9]; exact sh7 (by omega) (by omega)
          refine iv_X1_34 hK (s_X1_set_5 (((w4_2 5) 1) - 1) (ior_ z50_8 y9) g50_8 hT_8 (by first | omega | (simp [up, setR] <;> omega)) (by exact ior_255 (by omega) (by omega))) (by decide) rfl ⟨by decide, by decide⟩ (by decide) rfl rfl (Nat.le_of_ble_eq_true rfl) ⟨by decide, by decide⟩ dX1_putBits_64 ?_
          intro r9 g64_11 hp9
          obtain ⟨⟨hT_11, hG_11⟩, hr9⟩ := hp9
          rw [hr9]
          have hF_11 : FR [5, 6] h g64_11 := FR_tr hF_8 hG_11 (by decide)
          show TT K ly 0 0 67 [(0, vR 5), (1, vI v), (2, vI n), (3, vI k)] [] g64_11
          refine TT_iinc hK (v := k - 1) (lv' := [(3, vI (k - 1)), (0, vR 5), (1, vI v), (2, vI n)]) 3 rfl (by omega) (by decide) rfl dX1_putBits_67 ?_
          refine TT_goto hK (tgt := 4) dX1_putBits_70 (by decide) ?_
          refine TT_sub [1, 2, 3, 0] rfl ?_
          exact ih2 (k - 1) g64_11 hT_11 hF_11 (by first | omega | (simp [up, setR] <;> omega)) (by first | omega | (simp [up, setR] <;> omega))
        · refine TT_aload_n hK rfl 0 rfl dX1_putBits_15 ?_
          refine TT_iconst hK dX1_putBits_16 ?_
          refine iv_X1_30 hK (s_X1_add_5 0 w4_2 hT4_2 (by first | omega | (simp [up, setR] <;> omega))) (by decide) rfl ⟨by decide, by decide⟩ (by decide) rfl rfl (Nat.le_of_ble_eq_true rfl) ⟨by decide, by decide⟩ dX1_putBits_17 ?_
          intro r9 g17_12 hp9
          obtain ⟨⟨hT_12, hG_12⟩, hr9⟩ := hp9
          rw [hr9]
          have hF_12 : FR [5, 6] h g17_12 := FR_tr hF4_2 hG_12 (by decide)
          show TT K ly 0 0 20 [(0, vR 5), (1, vI v), (2, vI n), (3, vI k)] [] g17_12
          refine TT_aload_n hK rfl 0 rfl dX1_putBits_20 ?_
          refine TT_bipush hK (by decide) dX1_putBits_21 ?_
          refine pf_X1_19 hK (by decide) rfl dX1_putBits_23 ?_
          refine TT_hp (h' := setO g17_12 5 (fup (g17_12 5) 2 8)) (up_can rfl rfl rfl) ?_
          have hT_13 : TY (setO g17_12 5 (fup (g17_12 5) 2 8)) := tu_5_2 hT_12 (show up g17_12 5 2 8 = (setO g17_12 5 (fup (g17_12 5) 2 8)) from up_can rfl rfl rfl) (by omega)
          have hF_13 : FR [5, 6] h (setO g17_12 5 (fup (g17_12 5) 2 8)) := FR_up (show up g17_12 5 2 8 = (setO g17_12 5 (fup (g17_12 5) 2 8)) from up_can rfl rfl rfl) hF_12 (by decide)
          refine TT_aload_n hK rfl 0 rfl dX1_putBits_26 ?_
          refine TT_dup hK rfl dX1_putBits_27 ?_
          refine gf_X1_19 hK (by decide) rfl (v := 8) (rd_ (sOf_eq _ _ _) (fup_eq _ _ _)) dX1_putBits_28 ?_
          refine TT_iconst hK dX1_putBits_31 ?_
          refine TT_isub hK dX1_putBits_32 ?_
          refine pf_X1_19 hK (by decide) rfl dX1_putBits_33 ?_
          refine TT_hp (h' := setO g17_12 5 (fup (g17_12 5) 2 (8 - 1))) (up_can (sOf_eq _ _ _) (fup_same _ _ _ _) (setO_same _ _ _ _)) ?_
          have hT_14 : TY (setO g17_12 5 (fup (g17_12 5) 2 (8 - 1))) := tu_5_2 hT_13 (show up (setO g17_12 5 (fup (g17_12 5) 2 8)) 5 2 (8 - 1) = (setO g17_12 5 (fup (g17_12 5) 2 (8 - 1))) from up_can (sOf_eq _ _ _) (fup_same _ _ _ _) (setO_same _ _ _ _)) (by omega)
          have hF_14 : FR [5, 6] h (setO g17_12 5 (fup (g17_12 5) 2 (8 - 1))) := FR_up (show up (setO g17_12 5 (fup (g17_12 5) 2 8)) 5 2 (8 - 1) = (setO g17_12 5 (fup (g17_12 5) 2 (8 - 1))) from up_can (sOf_eq _ _ _) (fup_same _ _ _ _) (setO_same _ _ _ _)) hF_13 (by decide)
          refine TT_aload_n hK rfl 0 rfl dX1_putBits_36 ?_
          refine TT_aload_n hK rfl 0 rfl dX1_putBits_37 ?_
          refine gf_X1_15 hK (by decide) rfl (v := (g17_12 5) 1) (rd_ (sOf_eq _ _ _) (fup_ne _ _ (by decide))) dX1_putBits_38 ?_
          have r15 := ty_5_1 (v := (g17_12 5) 1) hT_14 (rd_ (sOf_eq _ _ _) (fup_ne _ _ (by decide)))
          refine TT_iconst hK dX1_putBits_41 ?_
          refine TT_isub hK dX1_putBits_42 ?_
          refine TT_aload_n hK rfl 0 rfl dX1_putBits_43 ?_
          refine TT_aload_n hK rfl 0 rfl dX1_putBits_44 ?_
          refine gf_X1_15 hK (by decide) rfl (v := (g17_12 5) 1) (rd_ (sOf_eq _ _ _) (fup_ne _ _ (by decide))) dX1_putBits_45 ?_
          refine TT_iconst hK dX1_putBits_48 ?_
          refine TT_isub hK dX1_putBits_49 ?_
          refine iv_X1_26 hK (s_X1_at_5 (((g17_12 5) 1) - 1) (setO g17_12 5 (fup (g17_12 5) 2 (8 - 1))) hT_14 (by first | omega | (simp [up, setR] <;> omega))) (by decide) rfl ⟨by decide, by decide⟩ (by decide) rfl rfl (Nat.le_of_ble_eq_true rfl) ⟨by decide, by decide⟩ dX1_putBits_50 ?_
          intro r9 g50_16 hp9
          obtain ⟨⟨hT_16, hG_16⟩, z50_16, hr9, hz_16, p1_16⟩ := hp9
          rw [hr9]
          have hF_16 : FR [5, 6] h g50_16 := FR_tr hF_14 hG_16 (by decide)
          rw [show (setO g17_12 5 (fup (g17_12 5) 2 (8 - 1))) 5 1 = (g17_12 5) 1 from rd_ (sOf_eq _ _ _) (fup_ne _ _ (by decide))] at p1_16
          rw [show (setO g17_12 5 (fup (g17_12 5) 2 (8 - 1))) 6 = g17_12 6 from sOf_ne _ _ (by decide)] at p1_16
          show TT K ly 0 0 53 [(0, vR 5), (1, vI v), (2, vI n), (3, vI k)] [vI z50_16, vI (((g17_12 5) 1) - 1), vR 5] g50_16
          refine TT_iload_n hK rfl 1 rfl dX1_putBits_53 ?_
          refine TT_iload_n hK rfl 3 rfl dX1_putBits_54 ?_
          refine TT_ishr_a hK dX1_putBits_55 (fun x55_17 hx17 => ?_)
          refine TT_iconst hK dX1_putBits_56 ?_
          refine TT_iand hK dX1_putBits_57 ?_
          refine TT_cgI (iand_m x55_17 1 (by decide)) ?_
          show TT K ly 0 0 58 [(0, vR 5), (1, vI v), (2, vI n), (3, vI k)] (vI (x55_17 % 2) :: [vI z50_16, vI (((g17_12 5) 1) - 1), vR 5]) g50_16
          refine TT_aload_n hK rfl 0 rfl dX1_putBits_58 ?_
          refine gf_X1_19 hK (by decide) rfl (v := 8 - 1) (rd_ (((hG_16 5 (by decide))).trans (sOf_eq _ _ _)) (fup_eq _ _ _)) dX1_putBits_59 ?_
          have r18 := ty_5_2 (v := 8 - 1) hT_16 (rd_ (((hG_16 5 (by decide))).trans (sOf_eq _ _ _)) (fup_eq _ _ _))
          refine TT_ishl hK (by omega) (by omega) dX1_putBits_62 ?_
          refine TT_nmI (fun y9 hy9 => ?_)
          refine TT_ior hK dX1_putBits_63 ?_
          have hy9b : 0 ≤ y9 ∧ y9 ≤ 128 := by rw [hy9]; exact sh7 (by omega) (by omega)
          refine iv_X1_34 hK (s_X1_set_5 (((g17_12 5) 1) - 1) (ior_ z50_16 y9) g50_16 hT_16 (by first | omega | (simp [up, setR] <;> omega)) (by exact ior_255 (by omega) (by omega))) (by decide) rfl ⟨by decide, by decide⟩ (by decide) rfl rfl (Nat.le_of_ble_eq_true rfl) ⟨by decide, by decide⟩ dX1_putBits_64 ?_
          intro r9 g64_19 hp9
          obtain ⟨⟨hT_19, hG_19⟩, hr9⟩ := hp9
          rw [hr9]
          have hF_19 : FR [5, 6] h g64_19 := FR_tr hF_16 hG_19 (by decide)
          show TT K ly 0 0 67 [(0, vR 5), (1, vI v), (2, vI n), (3, vI k)] [] g64_19
          refine TT_iinc hK (v := k - 1) (lv' := [(3, vI (k - 1)), (0, vR 5), (1, vI v), (2, vI n)]) 3 rfl (by omega) (by decide) rfl dX1_putBits_67 ?_
          refine TT_goto hK (tgt := 4) dX1_putBits_70 (by decide) ?_
          refine TT_sub [1, 2, 3, 0] rfl ?_
          exact ih2 (k - 1) g64_19 hT_19 hF_19 (by first | omega | (simp [up, setR] <;> omega)) (by first | omega | (simp [up, setR] <;> omega))
  refine TT_sub [1, 2, 3, 0] rfl ?_
  exact L4_2 (((x3_1 + 1).toNat) + 1) x3_1 h hT hF (by first | omega | (simp [up, setR] <;> omega)) (Nat.lt_succ_self _)
set_option maxRecDepth 20000 in
theorem s_X1_clear_22 (h : Hp_) (hT : TY h)  : Ctr yX1_clear cX1_clear 1 none (rmd 0) ly ly 0 0 [vR 22] h (fun r h' => (TY h' ∧ FR [22] h h') ∧ r = none) := by
  refine Ctr_of (by decide) (Nat.le_of_ble_eq_true rfl) ⟨Nat.le_refl _, Nat.le_refl _⟩ (fun K hK hQ _ => ?_)
  show TT K ly 0 0 0 [(0, vR 22)] [] h
  have hF : FR [22] h h := FR_rf _ _
  refine TT_aload_n hK rfl 0 rfl dX1_clear_0 ?_
  refine TT_iconst hK dX1_clear_1 ?_
  refine pf_X1_15 hK (by decide) rfl dX1_clear_2 ?_
  refine TT_hp (h' := setO h 22 (fup (h 22) 1 0)) (up_can rfl rfl rfl) ?_
  have hT_1 : TY (setO h 22 (fup (h 22) 1 0)) := tu_22_1 hT (show up h 22 1 0 = (setO h 22 (fup (h 22) 1 0)) from up_can rfl rfl rfl) (by omega)
  have hF_1 : FR [22] h (setO h 22 (fup (h 22) 1 0)) := FR_up (show up h 22 1 0 = (setO h 22 (fup (h 22) 1 0)) from up_can rfl rfl rfl) hF (by decide)
  refine TT_aload_n hK rfl 0 rfl dX1_clear_5 ?_
  refine TT_iconst hK dX1_clear_6 ?_
  refine pf_X1_19 hK (by decide) rfl dX1_clear_7 ?_
  refine TT_hp (h' := setO h 22 (fup (fup (h 22) 1 0) 2 0)) (up_can (sOf_eq _ _ _) rfl (setO_same _ _ _ _)) ?_
  have hT_2 : TY (setO h 22 (fup (fup (h 22) 1 0) 2 0)) := tu_22_2 hT_1 (show up (setO h 22 (fup (h 22) 1 0)) 22 2 0 = (setO h 22 (fup (fup (h 22) 1 0) 2 0)) from up_can (sOf_eq _ _ _) rfl (setO_same _ _ _ _)) (by omega)
  have hF_2 : FR [22] h (setO h 22 (fup (fup (h 22) 1 0) 2 0)) := FR_up (show up (setO h 22 (fup (h 22) 1 0)) 22 2 0 = (setO h 22 (fup (fup (h 22) 1 0) 2 0)) from up_can (sOf_eq _ _ _) rfl (setO_same _ _ _ _)) hF_1 (by decide)
  refine TT_vret hK hQ ?_ dX1_clear_10
  exact ⟨⟨hT_2, hF_2⟩, rfl⟩
set_option maxRecDepth 20000 in
theorem s_X1_length_22 (h : Hp_) (hT : TY h)  : Ctr yX1_length cX1_length 1 (some .int) (rmd 0) ly ly 0 0 [vR 22] h (fun r h' => (TY h' ∧ FR [] h h') ∧ ∃ z : Int, r = some (vI z) ∧ (0 ≤ z ∧ z ≤ 1024)) := by
  refine Ctr_of (by decide) (Nat.le_of_ble_eq_true rfl) ⟨Nat.le_refl _, Nat.le_refl _⟩ (fun K hK hQ _ => ?_)
  show TT K ly 0 0 0 [(0, vR 22)] [] h
  have hF : FR [] h h := FR_rf _ _
  refine TT_aload_n hK rfl 0 rfl dX1_length_0 ?_
  refine gf_X1_15 hK (by decide) rfl (v := (h 22) 1) rfl dX1_length_1 ?_
  have r1 := ty_22_1 (v := (h 22) 1) hT rfl
  refine TT_iret hK hQ ?_ dX1_length_4
  exact ⟨⟨hT, hF⟩, ((h 22) 1), rfl, (by omega)⟩
set_option maxRecDepth 20000 in
theorem s_X1_endBits_22 (h : Hp_) (hT : TY h)  : Ctr yX1_endBits cX1_endBits 1 none (rmd 0) ly ly 0 0 [vR 22] h (fun r h' => (TY h' ∧ FR [22] h h') ∧ r = none) := by
  refine Ctr_of (by decide) (Nat.le_of_ble_eq_true rfl) ⟨Nat.le_refl _, Nat.le_refl _⟩ (fun K hK hQ _ => ?_)
  show TT K ly 0 0 0 [(0, vR 22)] [] h
  have hF : FR [22] h h := FR_rf _ _
  refine TT_aload_n hK rfl 0 rfl dX1_endBits_0 ?_
  refine TT_iconst hK dX1_endBits_1 ?_
  refine pf_X1_19 hK (by decide) rfl dX1_endBits_2 ?_
  refine TT_hp (h' := setO h 22 (fup (h 22) 2 0)) (up_can rfl rfl rfl) ?_
  have hT_1 : TY (setO h 22 (fup (h 22) 2 0)) := tu_22_2 hT (show up h 22 2 0 = (setO h 22 (fup (h 22) 2 0)) from up_can rfl rfl rfl) (by omega)
  have hF_1 : FR [22] h (setO h 22 (fup (h 22) 2 0)) := FR_up (show up h 22 2 0 = (setO h 22 (fup (h 22) 2 0)) from up_can rfl rfl rfl) hF (by decide)
  refine TT_vret hK hQ ?_ dX1_endBits_5
  exact ⟨⟨hT_1, hF_1⟩, rfl⟩
set_option maxRecDepth 20000 in
theorem s_X1_has_22 (i : Int) (h : Hp_) (hT : TY h) (hi : -2147483648 ≤ i ∧ i ≤ 2147483647) : Ctr yX1_has cX1_has 2 (some .boolean) (rmd 0) ly ly 0 0 [vR 22, vI i] h (fun r h' => (TY h' ∧ FR [] h h') ∧ ∃ z : Int, r = some (vI z) ∧ (0 ≤ z ∧ z ≤ 1) ∧ (z = 1 → 0 ≤ i ∧ i < 1024)) := by
  refine Ctr_of (by decide) (Nat.le_of_ble_eq_true rfl) ⟨Nat.le_refl _, Nat.le_refl _⟩ (fun K hK hQ _ => ?_)
  show TT K ly 0 0 0 [(0, vR 22), (1, vI i)] [] h
  have hF : FR [] h h := FR_rf _ _
  refine TT_iload_n hK rfl 1 rfl dX1_has_0 ?_
  refine TT_if_lt hK (tgt := 16) (irm (by omega) (by omega)) dX1_has_1 (by decide) (fun hb1_1 => ?_) (fun hb1_1 => ?_)
  · refine TT_iconst hK dX1_has_16 ?_
    refine TT_zret hK hQ (by decide) ?_ dX1_has_17
    exact ⟨⟨hT, hF⟩, 0, rfl, (by omega), (by omega)⟩
  · refine TT_iload_n hK rfl 1 rfl dX1_has_4 ?_
    refine TT_aload_n hK rfl 0 rfl dX1_has_5 ?_
    refine gf_X1_15 hK (by decide) rfl (v := (h 22) 1) rfl dX1_has_6 ?_
    have r2 := ty_22_1 (v := (h 22) 1) hT rfl
    refine TT_icmp_ge hK (tgt := 16) (irm (by omega) (by omega)) (irm (by omega) (by omega)) dX1_has_9 (by decide) (fun hb9_3 => ?_) (fun hb9_3 => ?_)
    · refine TT_iconst hK dX1_has_16 ?_
      refine TT_zret hK hQ (by decide) ?_ dX1_has_17
      exact ⟨⟨hT, hF⟩, 0, rfl, (by omega), (by omega)⟩
    · refine TT_iconst hK dX1_has_12 ?_
      refine TT_goto hK (tgt := 17) dX1_has_13 (by decide) ?_
      refine TT_zret hK hQ (by decide) ?_ dX1_has_17
      exact ⟨⟨hT, hF⟩, 1, rfl, (by omega), (by omega)⟩
set_option maxRecDepth 20000 in
theorem s_X1_at_22 (i : Int) (h : Hp_) (hT : TY h) (hi : -2147483648 ≤ i ∧ i ≤ 2147483647) : Ctr yX1_at cX1_at 2 (some .int) (rmd 0) ly ly 0 0 [vR 22, vI i] h (fun r h' => (TY h' ∧ FR [] h h') ∧ ∃ z : Int, r = some (vI z) ∧ (0 ≤ z ∧ z ≤ 255) ∧ ((0 ≤ i ∧ i < (h 22 1) → z = (h 23) i) ∧ (¬ (0 ≤ i ∧ i < (h 22 1)) → z = 255))) := by
  refine Ctr_of (by decide) (Nat.le_of_ble_eq_true rfl) ⟨Nat.le_refl _, Nat.le_refl _⟩ (fun K hK hQ _ => ?_)
  show TT K ly 0 0 0 [(0, vR 22), (1, vI i)] [] h
  have hF : FR [] h h := FR_rf _ _
  refine TT_iload_n hK rfl 1 rfl dX1_at_0 ?_
  refine TT_if_lt hK (tgt := 21) (irm (by omega) (by omega)) dX1_at_1 (by decide) (fun hb1_1 => ?_) (fun hb1_1 => ?_)
  · refine TT_sipush hK (by decide) dX1_at_21 ?_
    refine TT_iret hK hQ ?_ dX1_at_24
    exact ⟨⟨hT, hF⟩, 255, rfl, (by omega), (by omega)⟩
  · refine TT_iload_n hK rfl 1 rfl dX1_at_4 ?_
    refine TT_aload_n hK rfl 0 rfl dX1_at_5 ?_
    refine gf_X1_15 hK (by decide) rfl (v := (h 22) 1) rfl dX1_at_6 ?_
    have r2 := ty_22_1 (v := (h 22) 1) hT rfl
    refine TT_icmp_ge hK (tgt := 21) (irm (by omega) (by omega)) (irm (by omega) (by omega)) dX1_at_9 (by decide) (fun hb9_3 => ?_) (fun hb9_3 => ?_)
    · refine TT_sipush hK (by decide) dX1_at_21 ?_
      refine TT_iret hK hQ ?_ dX1_at_24
      exact ⟨⟨hT, hF⟩, 255, rfl, (by omega), (by omega)⟩
    · refine TT_aload_n hK rfl 0 rfl dX1_at_12 ?_
      refine gf_X1_9 hK (by decide) rfl (q := 23) rfl rfl dX1_at_13 ?_
      refine TT_iload_n hK rfl 1 rfl dX1_at_16 ?_
      refine TT_iald hK (o := 23) (n := 1024) (by decide) rfl (by first | omega | (simp [up, setR] <;> omega)) (by first | omega | (simp [up, setR] <;> omega)) (v := (h 23) i) rfl dX1_at_17 ?_
      have r4 := ty_23 (i := i) (v := (h 23) i) hT rfl (by omega) (by omega)
      refine TT_goto hK (tgt := 24) dX1_at_18 (by decide) ?_
      refine TT_iret hK hQ ?_ dX1_at_24
      exact ⟨⟨hT, hF⟩, ((h 23) i), rfl, (by omega), (by omega)⟩
set_option maxRecDepth 20000 in
theorem s_X1_set_22 (i v : Int) (h : Hp_) (hT : TY h) (hi : -2147483648 ≤ i ∧ i ≤ 2147483647) (hv : 0 ≤ v ∧ v ≤ 255) : Ctr yX1_set cX1_set 3 none (rmd 1) ly ly 0 0 [vR 22, vI i, vI v] h (fun r h' => (TY h' ∧ FR [23] h h') ∧ r = none) := by
  refine Ctr_of (by decide) (Nat.le_of_ble_eq_true rfl) ⟨Nat.le_refl _, Nat.le_refl _⟩ (fun K hK hQ _ => ?_)
  show TT K ly 0 0 0 [(0, vR 22), (1, vI i), (2, vI v)] [] h
  have hF : FR [23] h h := FR_rf _ _
  refine TT_aload_n hK rfl 0 rfl dX1_set_0 ?_
  refine TT_iload_n hK rfl 1 rfl dX1_set_1 ?_
  refine iv_X1_22 hK (s_X1_has_22 i h hT (by first | omega | (simp [up, setR] <;> omega))) (by decide) rfl ⟨by decide, by decide⟩ (by decide) rfl rfl (Nat.le_of_ble_eq_true rfl) ⟨by decide, by decide⟩ dX1_set_2 ?_
  intro r9 g2_1 hp9
  obtain ⟨⟨hT_1, hG_1⟩, z2_1, hr9, hz_1, p1_1⟩ := hp9
  rw [hr9]
  have hF_1 : FR [23] h g2_1 := FR_tr hF hG_1 (by decide)
  show TT K ly 0 0 5 [(0, vR 22), (1, vI i), (2, vI v)] [vI z2_1] g2_1
  refine TT_if_eq hK (tgt := 15) (irm (by omega) (by omega)) dX1_set_5 (by decide) (fun hb5_2 => ?_) (fun hb5_2 => ?_)
  · refine TT_vret hK hQ ?_ dX1_set_15
    exact ⟨⟨hT_1, hF_1⟩, rfl⟩
  · refine TT_aload_n hK rfl 0 rfl dX1_set_8 ?_
    refine gf_X1_9 hK (by decide) rfl (q := 23) rfl rfl dX1_set_9 ?_
    refine TT_iload_n hK rfl 1 rfl dX1_set_12 ?_
    refine TT_iload_n hK rfl 2 rfl dX1_set_13 ?_
    refine TT_iast hK (o := 23) (n := 1024) (by decide) rfl (by omega) (by omega) dX1_set_14 ?_
    refine TT_hp (h' := setO g2_1 23 (fup (h 23) i v)) (up_can (hG_1 23 (by decide)) rfl rfl) ?_
    have hT_3 : TY (setO g2_1 23 (fup (h 23) i v)) := tu_23 hT_1 (show up g2_1 23 i v = (setO g2_1 23 (fup (h 23) i v)) from up_can (hG_1 23 (by decide)) rfl rfl) (by omega)
    have hF_3 : FR [23] h (setO g2_1 23 (fup (h 23) i v)) := FR_up (show up g2_1 23 i v = (setO g2_1 23 (fup (h 23) i v)) from up_can (hG_1 23 (by decide)) rfl rfl) hF_1 (by decide)
    refine TT_vret hK hQ ?_ dX1_set_15
    exact ⟨⟨hT_3, hF_3⟩, rfl⟩
set_option maxRecDepth 20000 in
theorem s_X1_add_22 (v : Int) (h : Hp_) (hT : TY h) (hv : 0 ≤ v ∧ v ≤ 255) : Ctr yX1_add cX1_add 2 none (rmd 0) ly ly 0 0 [vR 22, vI v] h (fun r h' => (TY h' ∧ FR [22, 23] h h') ∧ r = none) := by
  refine Ctr_of (by decide) (Nat.le_of_ble_eq_true rfl) ⟨Nat.le_refl _, Nat.le_refl _⟩ (fun K hK hQ _ => ?_)
  show TT K ly 0 0 0 [(0, vR 22), (1, vI v)] [] h
  have hF : FR [22, 23] h h := FR_rf _ _
  refine TT_aload_n hK rfl 0 rfl dX1_add_0 ?_
  refine gf_X1_15 hK (by decide) rfl (v := (h 22) 1) rfl dX1_add_1 ?_
  have r1 := ty_22_1 (v := (h 22) 1) hT rfl
  refine TT_aload_n hK rfl 0 rfl dX1_add_4 ?_
  refine gf_X1_9 hK (by decide) rfl (q := 23) rfl rfl dX1_add_5 ?_
  refine TT_alen hK (o := 23) (t := 12) (n := 1024) (v := 1024) (by decide) rfl (by decide) rfl dX1_add_8 ?_
  refine TT_icmp_ge hK (tgt := 32) (irm (by omega) (by omega)) (by decide) dX1_add_9 (by decide) (fun hb9_2 => ?_) (fun hb9_2 => ?_)
  · refine TT_aload_n hK rfl 0 rfl dX1_add_32 ?_
    refine TT_iconst hK dX1_add_33 ?_
    refine pf_X1_19 hK (by decide) rfl dX1_add_34 ?_
    refine TT_hp (h' := setO h 22 (fup (h 22) 2 0)) (up_can rfl rfl rfl) ?_
    have hT_3 : TY (setO h 22 (fup (h 22) 2 0)) := tu_22_2 hT (show up h 22 2 0 = (setO h 22 (fup (h 22) 2 0)) from up_can rfl rfl rfl) (by omega)
    have hF_3 : FR [22, 23] h (setO h 22 (fup (h 22) 2 0)) := FR_up (show up h 22 2 0 = (setO h 22 (fup (h 22) 2 0)) from up_can rfl rfl rfl) hF (by decide)
    refine TT_vret hK hQ ?_ dX1_add_37
    exact ⟨⟨hT_3, hF_3⟩, rfl⟩
  · refine TT_aload_n hK rfl 0 rfl dX1_add_12 ?_
    refine gf_X1_9 hK (by decide) rfl (q := 23) rfl rfl dX1_add_13 ?_
    refine TT_aload_n hK rfl 0 rfl dX1_add_16 ?_
    refine gf_X1_15 hK (by decide) rfl (v := (h 22) 1) rfl dX1_add_17 ?_
    refine TT_iload_n hK rfl 1 rfl dX1_add_20 ?_
    refine TT_iast hK (o := 23) (n := 1024) (by decide) rfl (by omega) (by omega) dX1_add_21 ?_
    refine TT_hp (h' := setO h 23 (fup (h 23) ((h 22) 1) v)) (up_can rfl rfl rfl) ?_
    have hT_4 : TY (setO h 23 (fup (h 23) ((h 22) 1) v)) := tu_23 hT (show up h 23 ((h 22) 1) v = (setO h 23 (fup (h 23) ((h 22) 1) v)) from up_can rfl rfl rfl) (by omega)
    have hF_4 : FR [22, 23] h (setO h 23 (fup (h 23) ((h 22) 1) v)) := FR_up (show up h 23 ((h 22) 1) v = (setO h 23 (fup (h 23) ((h 22) 1) v)) from up_can rfl rfl rfl) hF (by decide)
    refine TT_aload_n hK rfl 0 rfl dX1_add_22 ?_
    refine TT_dup hK rfl dX1_add_23 ?_
    refine gf_X1_15 hK (by decide) rfl (v := (h 22) 1) (rd_ (sOf_ne _ _ (by decide)) rfl) dX1_add_24 ?_
    refine TT_iconst hK dX1_add_27 ?_
    refine TT_iadd hK dX1_add_28 ?_
    refine pf_X1_15 hK (by decide) rfl dX1_add_29 ?_
    refine TT_hp (h' := setO (setO h 22 (fup (h 22) 1 (((h 22) 1) + 1))) 23 (fup (h 23) ((h 22) 1) v)) (up_can (sOf_ne _ _ (by decide)) rfl ((setO_comm _ _ _ (by decide)).trans (setO_cg rfl rfl))) ?_
    have hT_5 : TY (setO (setO h 22 (fup (h 22) 1 (((h 22) 1) + 1))) 23 (fup (h 23) ((h 22) 1) v)) := tu_22_1 hT_4 (show up (setO h 23 (fup (h 23) ((h 22) 1) v)) 22 1 (((h 22) 1) + 1) = (setO (setO h 22 (fup (h 22) 1 (((h 22) 1) + 1))) 23 (fup (h 23) ((h 22) 1) v)) from up_can (sOf_ne _ _ (by decide)) rfl ((setO_comm _ _ _ (by decide)).trans (setO_cg rfl rfl))) (by omega)
    have hF_5 : FR [22, 23] h (setO (setO h 22 (fup (h 22) 1 (((h 22) 1) + 1))) 23 (fup (h 23) ((h 22) 1) v)) := FR_up (show up (setO h 23 (fup (h 23) ((h 22) 1) v)) 22 1 (((h 22) 1) + 1) = (setO (setO h 22 (fup (h 22) 1 (((h 22) 1) + 1))) 23 (fup (h 23) ((h 22) 1) v)) from up_can (sOf_ne _ _ (by decide)) rfl ((setO_comm _ _ _ (by decide)).trans (setO_cg rfl rfl))) hF_4 (by decide)
    refine TT_aload_n hK rfl 0 rfl dX1_add_32 ?_
    refine TT_iconst hK dX1_add_33 ?_
    refine pf_X1_19 hK (by decide) rfl dX1_add_34 ?_
    refine TT_hp (h' := setO (setO h 22 (fup (fup (h 22) 1 (((h 22) 1) + 1)) 2 0)) 23 (fup (h 23) ((h 22) 1) v)) (up_can ((sOf_ne _ _ (by decide)).trans (sOf_eq _ _ _)) rfl ((setO_comm _ _ _ (by decide)).trans (setO_cg (setO_same _ _ _ _) rfl))) ?_
    have hT_6 : TY (setO (setO h 22 (fup (fup (h 22) 1 (((h 22) 1) + 1)) 2 0)) 23 (fup (h 23) ((h 22) 1) v)) := tu_22_2 hT_5 (show up (setO (setO h 22 (fup (h 22) 1 (((h 22) 1) + 1))) 23 (fup (h 23) ((h 22) 1) v)) 22 2 0 = (setO (setO h 22 (fup (fup (h 22) 1 (((h 22) 1) + 1)) 2 0)) 23 (fup (h 23) ((h 22) 1) v)) from up_can ((sOf_ne _ _ (by decide)).trans (sOf_eq _ _ _)) rfl ((setO_comm _ _ _ (by decide)).trans (setO_cg (setO_same _ _ _ _) rfl))) (by omega)
    have hF_6 : FR [22, 23] h (setO (setO h 22 (fup (fup (h 22) 1 (((h 22) 1) + 1)) 2 0)) 23 (fup (h 23) ((h 22) 1) v)) := FR_up (show up (setO (setO h 22 (fup (h 22) 1 (((h 22) 1) + 1))) 23 (fup (h 23) ((h 22) 1) v)) 22 2 0 = (setO (setO h 22 (fup (fup (h 22) 1 (((h 22) 1) + 1)) 2 0)) 23 (fup (h 23) ((h 22) 1) v)) from up_can ((sOf_ne _ _ (by decide)).trans (sOf_eq _ _ _)) rfl ((setO_comm _ _ _ (by decide)).trans (setO_cg (setO_same _ _ _ _) rfl))) hF_5 (by decide)
    refine TT_vret hK hQ ?_ dX1_add_37
    exact ⟨⟨hT_6, hF_6⟩, rfl⟩
set_option maxRecDepth 20000 in
theorem s_X1_byteBehindBits_22 (h : Hp_) (hT : TY h)  : Ctr yX1_byteBehindBits cX1_byteBehindBits 1 (some .int) (rmd 0) ly ly 0 0 [vR 22] h (fun r h' => (TY h' ∧ FR [] h h') ∧ ∃ z : Int, r = some (vI z) ∧ (-2147483648 ≤ z ∧ z ≤ 2147483647)) := by
  refine Ctr_of (by decide) (Nat.le_of_ble_eq_true rfl) ⟨Nat.le_refl _, Nat.le_refl _⟩ (fun K hK hQ _ => ?_)
  show TT K ly 0 0 0 [(0, vR 22)] [] h
  have hF : FR [] h h := FR_rf _ _
  refine TT_aload_n hK rfl 0 rfl dX1_byteBehindBits_0 ?_
  refine gf_X1_38 hK (by decide) rfl (v := (h 22) 3) rfl dX1_byteBehindBits_1 ?_
  have r1 := ty_22_3 (v := (h 22) 3) hT rfl
  refine TT_bipush hK (by decide) dX1_byteBehindBits_4 ?_
  refine TT_iadd hK dX1_byteBehindBits_6 ?_
  refine TT_w32 (fun x7_2 hx2 => ?_)
  refine TT_bipush hK (by decide) dX1_byteBehindBits_7 ?_
  refine TT_idiv hK (irm (by omega) (by omega)) (by decide) (by omega) dX1_byteBehindBits_9 ?_
  refine TT_w32 (fun x10_3 hx3 => ?_)
  refine TT_iret hK hQ ?_ dX1_byteBehindBits_10
  exact ⟨⟨hT, hF⟩, x10_3, rfl, (by omega)⟩
set_option maxRecDepth 20000 in
theorem s_X1_takeFrom_22 (s t : Int) (h : Hp_) (hT : TY h) (hs : -2147483648 ≤ s ∧ s ≤ 2147483647) (ht : -2147483648 ≤ t ∧ t ≤ 2147483647) : Ctr yX1_takeFrom cX1_takeFrom 3 none (rmd 0) ly ly 0 0 [vR 22, vI s, vI t] h (fun r h' => (TY h' ∧ FR [22] h h') ∧ r = none) := by
  refine Ctr_of (by decide) (Nat.le_of_ble_eq_true rfl) ⟨Nat.le_refl _, Nat.le_refl _⟩ (fun K hK hQ _ => ?_)
  show TT K ly 0 0 0 [(0, vR 22), (1, vI s), (2, vI t)] [] h
  have hF : FR [22] h h := FR_rf _ _
  refine TT_aload_n hK rfl 0 rfl dX1_takeFrom_0 ?_
  refine TT_bipush hK (by decide) dX1_takeFrom_1 ?_
  refine TT_iload_n hK rfl 1 rfl dX1_takeFrom_3 ?_
  refine TT_w32 (fun x4_1 hx1 => ?_)
  refine TT_imul hK dX1_takeFrom_4 ?_
  refine TT_w32 (fun x5_2 hx2 => ?_)
  refine pf_X1_38 hK (by decide) rfl dX1_takeFrom_5 ?_
  refine TT_hp (h' := setO h 22 (fup (h 22) 3 x5_2)) (up_can rfl rfl rfl) ?_
  have hT_3 : TY (setO h 22 (fup (h 22) 3 x5_2)) := tu_22_3 hT (show up h 22 3 x5_2 = (setO h 22 (fup (h 22) 3 x5_2)) from up_can rfl rfl rfl) (by omega)
  have hF_3 : FR [22] h (setO h 22 (fup (h 22) 3 x5_2)) := FR_up (show up h 22 3 x5_2 = (setO h 22 (fup (h 22) 3 x5_2)) from up_can rfl rfl rfl) hF (by decide)
  refine TT_aload_n hK rfl 0 rfl dX1_takeFrom_8 ?_
  refine TT_bipush hK (by decide) dX1_takeFrom_9 ?_
  refine TT_iload_n hK rfl 2 rfl dX1_takeFrom_11 ?_
  refine TT_w32 (fun x12_4 hx4 => ?_)
  refine TT_imul hK dX1_takeFrom_12 ?_
  refine TT_w32 (fun x13_5 hx5 => ?_)
  refine pf_X1_41 hK (by decide) rfl dX1_takeFrom_13 ?_
  refine TT_hp (h' := setO h 22 (fup (fup (h 22) 3 x5_2) 4 x13_5)) (up_can (sOf_eq _ _ _) rfl (setO_same _ _ _ _)) ?_
  have hT_6 : TY (setO h 22 (fup (fup (h 22) 3 x5_2) 4 x13_5)) := tu_22_4 hT_3 (show up (setO h 22 (fup (h 22) 3 x5_2)) 22 4 x13_5 = (setO h 22 (fup (fup (h 22) 3 x5_2) 4 x13_5)) from up_can (sOf_eq _ _ _) rfl (setO_same _ _ _ _)) (by omega)
  have hF_6 : FR [22] h (setO h 22 (fup (fup (h 22) 3 x5_2) 4 x13_5)) := FR_up (show up (setO h 22 (fup (h 22) 3 x5_2)) 22 4 x13_5 = (setO h 22 (fup (fup (h 22) 3 x5_2) 4 x13_5)) from up_can (sOf_eq _ _ _) rfl (setO_same _ _ _ _)) hF_3 (by decide)
  refine TT_vret hK hQ ?_ dX1_takeFrom_16
  exact ⟨⟨hT_6, hF_6⟩, rfl⟩
set_option maxRecDepth 20000 in
theorem s_X1_takeBits_22 (n : Int) (h : Hp_) (hT : TY h) (hn : -2147483648 ≤ n ∧ n ≤ 2147483647) : Ctr yX1_takeBits cX1_takeBits 5 (some .int) (rmd 1) ly ly 0 0 [vR 22, vI n] h (fun r h' => (TY h' ∧ FR [22] h h') ∧ ∃ z : Int, r = some (vI z) ∧ (-1 ≤ z ∧ z ≤ 1048576)) := by
  refine Ctr_of (by decide) (Nat.le_of_ble_eq_true rfl) ⟨Nat.le_refl _, Nat.le_refl _⟩ (fun K hK hQ _ => ?_)
  show TT K ly 0 0 0 [(0, vR 22), (1, vI n)] [] h
  have hF : FR [22] h h := FR_rf _ _
  refine TT_iload_n hK rfl 1 rfl dX1_takeBits_0 ?_
  refine TT_aload_n hK rfl 0 rfl dX1_takeBits_1 ?_
  refine gf_X1_41 hK (by decide) rfl (v := (h 22) 4) rfl dX1_takeBits_2 ?_
  have r1 := ty_22_4 (v := (h 22) 4) hT rfl
  refine TT_aload_n hK rfl 0 rfl dX1_takeBits_5 ?_
  refine gf_X1_38 hK (by decide) rfl (v := (h 22) 3) rfl dX1_takeBits_6 ?_
  have r2 := ty_22_3 (v := (h 22) 3) hT rfl
  refine TT_isub hK dX1_takeBits_9 ?_
  refine TT_w32 (fun x10_3 hx3 => ?_)
  refine TT_icmp_le hK (tgt := 15) (irm (by omega) (by omega)) (irm (by omega) (by omega)) dX1_takeBits_10 (by decide) (fun hb10_4 => ?_) (fun hb10_4 => ?_)
  · refine TT_iconst hK dX1_takeBits_15 ?_
    refine TT_istore_n hK rfl (lv' := [(2, vI 0), (0, vR 22), (1, vI n)]) (by decide) rfl dX1_takeBits_16 ?_
    refine TT_iconst hK dX1_takeBits_17 ?_
    refine TT_istore_n hK rfl (lv' := [(3, vI 0), (2, vI 0), (0, vR 22), (1, vI n)]) (by decide) rfl dX1_takeBits_18 ?_
    have L19_5 : ∀ (k5 : Nat) (v : Int) (k : Int) (w19_5 : Hp_), TY w19_5 → FR [22] h w19_5 → (0 ≤ v ∧ v ≤ 1048576) → (0 ≤ k ∧ (k ≤ n ∨ k = 0)) → (n - k).toNat < k5 → TT K ly 0 0 19 [(0, vR 22), (1, vI n), (2, vI v), (3, vI k)] [] w19_5 := by
      intro k5
      induction k5 with
      | zero => intro v k w19_5 hT19_5 hF19_5 hv hk hk5; exact absurd hk5 (Nat.not_lt_zero _)
      | succ k5 ih5 =>
        intro v k w19_5 hT19_5 hF19_5 hv hk hk5
        refine TT_iload_n hK rfl 3 rfl dX1_takeBits_19 ?_
        refine TT_iload_n hK rfl 1 rfl dX1_takeBits_20 ?_
        refine TT_icmp_ge hK (tgt := 77) (irm (by omega) (by omega)) (irm (by omega) (by omega)) dX1_takeBits_21 (by decide) (fun hb21_6 => ?_) (fun hb21_6 => ?_)
        · refine TT_iload_n hK rfl 2 rfl dX1_takeBits_77 ?_
          refine TT_iret hK hQ ?_ dX1_takeBits_78
          exact ⟨⟨hT19_5, hF19_5⟩, v, rfl, (by omega)⟩
        · refine TT_aload_n hK rfl 0 rfl dX1_takeBits_24 ?_
          refine TT_aload_n hK rfl 0 rfl dX1_takeBits_25 ?_
          refine gf_X1_38 hK (by decide) rfl (v := (w19_5 22) 3) rfl dX1_takeBits_26 ?_
          have r7 := ty_22_3 (v := (w19_5 22) 3) hT19_5 rfl
          refine TT_iconst hK dX1_takeBits_29 ?_
          refine TT_ishr hK (irm (by omega) (by omega)) (by omega) (by omega) dX1_takeBits_30 ?_
          refine TT_cgI (b := ((w19_5 22) 3) / 8) rfl ?_
          refine iv_X1_26 hK (s_X1_at_22 (((w19_5 22) 3) / 8) w19_5 hT19_5 (by first | omega | (simp [up, setR] <;> omega))) (by decide) rfl ⟨by decide, by decide⟩ (by decide) rfl rfl (Nat.le_of_ble_eq_true rfl) ⟨by decide, by decide⟩ dX1_takeBits_31 ?_
          intro r9 g31_8 hp9
          obtain ⟨⟨hT_8, hG_8⟩, z31_8, hr9, hz_8, p1_8⟩ := hp9
          rw [hr9]
          have hF_8 : FR [22] h g31_8 := FR_tr hF19_5 hG_8 (by decide)
          rw [show w19_5 22 1 = (w19_5 22) 1 from rfl] at p1_8
          rw [show w19_5 23 = h 23 from (hF19_5 23 (by decide))] at p1_8
          show TT K ly 0 0 34 [(0, vR 22), (1, vI n), (2, vI v), (3, vI k)] [vI z31_8] g31_8
          refine TT_bipush hK (by decide) dX1_takeBits_34 ?_
          refine TT_aload_n hK rfl 0 rfl dX1_takeBits_36 ?_
          refine gf_X1_38 hK (by decide) rfl (v := (w19_5 22) 3) (rd_ (hG_8 22 (by decide)) rfl) dX1_takeBits_37 ?_
          refine TT_bipush hK (by decide) dX1_takeBits_40 ?_
          refine TT_iand hK dX1_takeBits_42 ?_
          refine TT_cgI (iand_m ((w19_5 22) 3) 3 (by decide)) ?_
          show TT K ly 0 0 43 [(0, vR 22), (1, vI n), (2, vI v), (3, vI k)] (vI (((w19_5 22) 3) % 8) :: [vI 7, vI z31_8]) g31_8
          refine TT_isub hK dX1_takeBits_43 ?_
          refine TT_ishr hK (irm (by omega) (by omega)) (by omega) (by omega) dX1_takeBits_44 ?_
          refine TT_iconst hK dX1_takeBits_45 ?_
          refine TT_iand hK dX1_takeBits_46 ?_
          refine TT_cgI (iand_m (z31_8 / 2 ^ (7 - (((w19_5 22) 3) % 8)).toNat) 1 (by decide)) ?_
          show TT K ly 0 0 47 [(0, vR 22), (1, vI n), (2, vI v), (3, vI k)] (vI ((z31_8 / 2 ^ (7 - (((w19_5 22) 3) % 8)).toNat) % 2) :: []) g31_8
          refine TT_istore hK (lv' := [(4, vI ((z31_8 / 2 ^ (7 - (((w19_5 22) 3) % 8)).toNat) % 2)), (0, vR 22), (1, vI n), (2, vI v), (3, vI k)]) (by decide) rfl dX1_takeBits_47 ?_
          refine TT_iconst hK dX1_takeBits_49 ?_
          refine TT_iload_n hK rfl 3 rfl dX1_takeBits_50 ?_
          refine TT_imul hK dX1_takeBits_51 ?_
          refine TT_iload hK 0 rfl dX1_takeBits_52 ?_
          refine TT_iadd hK dX1_takeBits_54 ?_
          refine TT_ldc hK lc_X1_44 dX1_takeBits_55 ?_
          refine TT_mmin hK (irm (by omega) (by omega)) (by decide) iw_X1_45 (by decide) (Nat.le_of_ble_eq_true rfl) ⟨by decide, by decide⟩ dX1_takeBits_57 ?_
          refine TT_istore_n hK rfl (lv' := [(2, vI (min ((2 * v) + ((z31_8 / 2 ^ (7 - (((w19_5 22) 3) % 8)).toNat) % 2)) 1048576)), (4, vI ((z31_8 / 2 ^ (7 - (((w19_5 22) 3) % 8)).toNat) % 2)), (0, vR 22), (1, vI n), (3, vI k)]) (by decide) rfl dX1_takeBits_60 ?_
          refine TT_aload_n hK rfl 2 rfl dX1_takeBits_61 ?_
          refine TT_dup hK rfl dX1_takeBits_62 ?_
          refine gf_X1_38 hK (by decide) rfl (v := (w19_5 22) 3) (rd_ (hG_8 22 (by decide)) rfl) dX1_takeBits_63 ?_
          refine TT_iconst hK dX1_takeBits_66 ?_
          refine TT_iadd hK dX1_takeBits_67 ?_
          refine TT_w32 (fun x68_9 hx9 => ?_)
          refine pf_X1_38 hK (by decide) rfl dX1_takeBits_68 ?_
          refine TT_hp (h' := setO g31_8 22 (fup (w19_5 22) 3 x68_9)) (up_can (hG_8 22 (by decide)) rfl rfl) ?_
          have hT_10 : TY (setO g31_8 22 (fup (w19_5 22) 3 x68_9)) := tu_22_3 hT_8 (show up g31_8 22 3 x68_9 = (setO g31_8 22 (fup (w19_5 22) 3 x68_9)) from up_can (hG_8 22 (by decide)) rfl rfl) (by omega)
          have hF_10 : FR [22] h (setO g31_8 22 (fup (w19_5 22) 3 x68_9)) := FR_up (show up g31_8 22 3 x68_9 = (setO g31_8 22 (fup (w19_5 22) 3 x68_9)) from up_can (hG_8 22 (by decide)) rfl rfl) hF_8 (by decide)
          refine TT_iinc hK (v := k + 1) (lv' := [(3, vI (k + 1)), (2, vI (min ((2 * v) + ((z31_8 / 2 ^ (7 - (((w19_5 22) 3) % 8)).toNat) % 2)) 1048576)), (4, vI ((z31_8 / 2 ^ (7 - (((w19_5 22) 3) % 8)).toNat) % 2)), (0, vR 22), (1, vI n)]) 4 rfl rfl (by decide) rfl dX1_takeBits_71 ?_
          refine TT_goto hK (tgt := 19) dX1_takeBits_74 (by decide) ?_
          refine TT_sub [3, 4, 1, 0] rfl ?_
          exact ih5 (min ((2 * v) + ((z31_8 / 2 ^ (7 - (((w19_5 22) 3) % 8)).toNat) % 2)) 1048576) (k + 1) (setO g31_8 22 (fup (w19_5 22) 3 x68_9)) hT_10 hF_10 (by first | omega | (simp [up, setR] <;> omega)) (by first | omega | (simp [up, setR] <;> omega)) (by first | omega | (simp [up, setR] <;> omega))
    refine TT_sub [2, 3, 1, 0] rfl ?_
    exact L19_5 (((n - 0).toNat) + 1) 0 0 h hT hF (by first | omega | (simp [up, setR] <;> omega)) (by first | omega | (simp [up, setR] <;> omega)) (Nat.lt_succ_self _)
  · refine TT_iconst hK dX1_takeBits_13 ?_
    refine TT_iret hK hQ ?_ dX1_takeBits_14
    exact ⟨⟨hT, hF⟩, (-1), rfl, (by omega)⟩
set_option maxRecDepth 20000 in
theorem s_X1_putBits_22 (v n : Int) (h : Hp_) (hT : TY h) (hv : -2147483648 ≤ v ∧ v ≤ 2147483647) (hn : -2147483648 ≤ n ∧ n ≤ 2147483647) : Ctr yX1_putBits cX1_putBits 4 none (rmd 2) ly ly 0 0 [vR 22, vI v, vI n] h (fun r h' => (TY h' ∧ FR [22, 23] h h') ∧ r = none) := by
  refine Ctr_of (by decide) (Nat.le_of_ble_eq_true rfl) ⟨Nat.le_refl _, Nat.le_refl _⟩ (fun K hK hQ _ => ?_)
  show TT K ly 0 0 0 [(0, vR 22), (1, vI v), (2, vI n)] [] h
  have hF : FR [22, 23] h h := FR_rf _ _
  refine TT_iload_n hK rfl 2 rfl dX1_putBits_0 ?_
  refine TT_iconst hK dX1_putBits_1 ?_
  refine TT_isub hK dX1_putBits_2 ?_
  refine TT_w32 (fun x3_1 hx1 => ?_)
  refine TT_istore_n hK rfl (lv' := [(3, vI x3_1), (0, vR 22), (1, vI v), (2, vI n)]) (by decide) rfl dX1_putBits_3 ?_
  have L4_2 : ∀ (k2 : Nat) (k : Int) (w4_2 : Hp_), TY w4_2 → FR [22, 23] h w4_2 → (-2147483648 ≤ k ∧ k ≤ 2147483647) → (k + 1).toNat < k2 → TT K ly 0 0 4 [(0, vR 22), (1, vI v), (2, vI n), (3, vI k)] [] w4_2 := by
    intro k2
    induction k2 with
    | zero => intro k w4_2 hT4_2 hF4_2 hk hk2; exact absurd hk2 (Nat.not_lt_zero _)
    | succ k2 ih2 =>
      intro k w4_2 hT4_2 hF4_2 hk hk2
      refine TT_iload_n hK rfl 3 rfl dX1_putBits_4 ?_
      refine TT_if_lt hK (tgt := 73) (irm (by omega) (by omega)) dX1_putBits_5 (by decide) (fun hb5_3 => ?_) (fun hb5_3 => ?_)
      · refine TT_vret hK hQ ?_ dX1_putBits_73
        exact ⟨⟨hT4_2, hF4_2⟩, rfl⟩
      · refine TT_aload_n hK rfl 0 rfl dX1_putBits_8 ?_
        refine gf_X1_19 hK (by decide) rfl (v := (w4_2 22) 2) rfl dX1_putBits_9 ?_
        have r4 := ty_22_2 (v := (w4_2 22) 2) hT4_2 rfl
        refine TT_if_ne hK (tgt := 26) (irm (by omega) (by omega)) dX1_putBits_12 (by decide) (fun hb12_5 => ?_) (fun hb12_5 => ?_)
        · refine TT_aload_n hK rfl 0 rfl dX1_putBits_26 ?_
          refine TT_dup hK rfl dX1_putBits_27 ?_
          refine gf_X1_19 hK (by decide) rfl (v := (w4_2 22) 2) rfl dX1_putBits_28 ?_
          refine TT_iconst hK dX1_putBits_31 ?_
          refine TT_isub hK dX1_putBits_32 ?_
          refine pf_X1_19 hK (by decide) rfl dX1_putBits_33 ?_
          refine TT_hp (h' := setO w4_2 22 (fup (w4_2 22) 2 (((w4_2 22) 2) - 1))) (up_can rfl rfl rfl) ?_
          have hT_6 : TY (setO w4_2 22 (fup (w4_2 22) 2 (((w4_2 22) 2) - 1))) := tu_22_2 hT4_2 (show up w4_2 22 2 (((w4_2 22) 2) - 1) = (setO w4_2 22 (fup (w4_2 22) 2 (((w4_2 22) 2) - 1))) from up_can rfl rfl rfl) (by omega)
          have hF_6 : FR [22, 23] h (setO w4_2 22 (fup (w4_2 22) 2 (((w4_2 22) 2) - 1))) := FR_up (show up w4_2 22 2 (((w4_2 22) 2) - 1) = (setO w4_2 22 (fup (w4_2 22) 2 (((w4_2 22) 2) - 1))) from up_can rfl rfl rfl) hF4_2 (by decide)
          refine TT_aload_n hK rfl 0 rfl dX1_putBits_36 ?_
          refine TT_aload_n hK rfl 0 rfl dX1_putBits_37 ?_
          refine gf_X1_15 hK (by decide) rfl (v := (w4_2 22) 1) (rd_ (sOf_eq _ _ _) (fup_ne _ _ (by decide))) dX1_putBits_38 ?_
          have r7 := ty_22_1 (v := (w4_2 22) 1) hT_6 (rd_ (sOf_eq _ _ _) (fup_ne _ _ (by decide)))
          refine TT_iconst hK dX1_putBits_41 ?_
          refine TT_isub hK dX1_putBits_42 ?_
          refine TT_aload_n hK rfl 0 rfl dX1_putBits_43 ?_
          refine TT_aload_n hK rfl 0 rfl dX1_putBits_44 ?_
          refine gf_X1_15 hK (by decide) rfl (v := (w4_2 22) 1) (rd_ (sOf_eq _ _ _) (fup_ne _ _ (by decide))) dX1_putBits_45 ?_
          refine TT_iconst hK dX1_putBits_48 ?_
          refine TT_isub hK dX1_putBits_49 ?_
          refine iv_X1_26 hK (s_X1_at_22 (((w4_2 22) 1) - 1) (setO w4_2 22 (fup (w4_2 22) 2 (((w4_2 22) 2) - 1))) hT_6 (by first | omega | (simp [up, setR] <;> omega))) (by decide) rfl ⟨by decide, by decide⟩ (by decide) rfl rfl (Nat.le_of_ble_eq_true rfl) ⟨by decide, by decide⟩ dX1_putBits_50 ?_
          intro r9 g50_8 hp9
          obtain ⟨⟨hT_8, hG_8⟩, z50_8, hr9, hz_8, p1_8⟩ := hp9
          rw [hr9]
          have hF_8 : FR [22, 23] h g50_8 := FR_tr hF_6 hG_8 (by decide)
          rw [show (setO w4_2 22 (fup (w4_2 22) 2 (((w4_2 22) 2) - 1))) 22 1 = (w4_2 22) 1 from rd_ (sOf_eq _ _ _) (fup_ne _ _ (by decide))] at p1_8
          rw [show (setO w4_2 22 (fup (w4_2 22) 2 (((w4_2 22) 2) - 1))) 23 = w4_2 23 from sOf_ne _ _ (by decide)] at p1_8
          show TT K ly 0 0 53 [(0, vR 22), (1, vI v), (2, vI n), (3, vI k)] [vI z50_8, vI (((w4_2 22) 1) - 1), vR 22] g50_8
          refine TT_iload_n hK rfl 1 rfl dX1_putBits_53 ?_
          refine TT_iload_n hK rfl 3 rfl dX1_putBits_54 ?_
          refine TT_ishr_a hK dX1_putBits_55 (fun x55_9 hx9 => ?_)
          refine TT_iconst hK dX1_putBits_56 ?_
          refine TT_iand hK dX1_putBits_57 ?_
          refine TT_cgI (iand_m x55_9 1 (by decide)) ?_
          show TT K ly 0 0 58 [(0, vR 22), (1, vI v), (2, vI n), (3, vI k)] (vI (x55_9 % 2) :: [vI z50_8, vI (((w4_2 22) 1) - 1), vR 22]) g50_8
          refine TT_aload_n hK rfl 0 rfl dX1_putBits_58 ?_
          refine gf_X1_19 hK (by decide) rfl (v := ((w4_2 22) 2) - 1) (rd_ (((hG_8 22 (by decide))).trans (sOf_eq _ _ _)) (fup_eq _ _ _)) dX1_putBits_59 ?_
          have r10 := ty_22_2 (v := ((w4_2 22) 2) - 1) hT_8 (rd_ (((hG_8 22 (by decide))).trans (sOf_eq _ _ _)) (fup_eq _ _ _))
          refine TT_ishl hK (by omega) (by omega) dX1_putBits_62 ?_
          refine TT_nmI (fun y9 hy9 => ?_)
          refine TT_ior hK dX1_putBits_63 ?_
          have hy9b : 0 ≤ y9 ∧ y9 ≤ 128 := by rw [hy9]; exact sh7 (by omega) (by omega)
          refine iv_X1_34 hK (s_X1_set_22 (((w4_2 22) 1) - 1) (ior_ z50_8 y9) g50_8 hT_8 (by first | omega | (simp [up, setR] <;> omega)) (by exact ior_255 (by omega) (by omega))) (by decide) rfl ⟨by decide, by decide⟩ (by decide) rfl rfl (Nat.le_of_ble_eq_true rfl) ⟨by decide, by decide⟩ dX1_putBits_64 ?_
          intro r9 g64_11 hp9
          obtain ⟨⟨hT_11, hG_11⟩, hr9⟩ := hp9
          rw [hr9]
          have hF_11 : FR [22, 23] h g64_11 := FR_tr hF_8 hG_11 (by decide)
          show TT K ly 0 0 67 [(0, vR 22), (1, vI v), (2, vI n), (3, vI k)] [] g64_11
          refine TT_iinc hK (v := k - 1) (lv' := [(3, vI (k - 1)), (0, vR 22), (1, vI v), (2, vI n)]) 3 rfl (by omega) (by decide) rfl dX1_putBits_67 ?_
          refine TT_goto hK (tgt := 4) dX1_putBits_70 (by decide) ?_
          refine TT_sub [1, 2, 3, 0] rfl ?_
          exact ih2 (k - 1) g64_11 hT_11 hF_11 (by first | omega | (simp [up, setR] <;> omega)) (by first | omega | (simp [up, setR] <;> omega))
        · refine TT_aload_n hK rfl 0 rfl dX1_putBits_15 ?_
          refine TT_iconst hK dX1_putBits_16 ?_
          refine iv_X1_30 hK (s_X1_add_22 0 w4_2 hT4_2 (by first | omega | (simp [up, setR] <;> omega))) (by decide) rfl ⟨by decide, by decide⟩ (by decide) rfl rfl (Nat.le_of_ble_eq_true rfl) ⟨by decide, by decide⟩ dX1_putBits_17 ?_
          intro r9 g17_12 hp9
          obtain ⟨⟨hT_12, hG_12⟩, hr9⟩ := hp9
          rw [hr9]
          have hF_12 : FR [22, 23] h g17_12 := FR_tr hF4_2 hG_12 (by decide)
          show TT K ly 0 0 20 [(0, vR 22), (1, vI v), (2, vI n), (3, vI k)] [] g17_12
          refine TT_aload_n hK rfl 0 rfl dX1_putBits_20 ?_
          refine TT_bipush hK (by decide) dX1_putBits_21 ?_
          refine pf_X1_19 hK (by decide) rfl dX1_putBits_23 ?_
          refine TT_hp (h' := setO g17_12 22 (fup (g17_12 22) 2 8)) (up_can rfl rfl rfl) ?_
          have hT_13 : TY (setO g17_12 22 (fup (g17_12 22) 2 8)) := tu_22_2 hT_12 (show up g17_12 22 2 8 = (setO g17_12 22 (fup (g17_12 22) 2 8)) from up_can rfl rfl rfl) (by omega)
          have hF_13 : FR [22, 23] h (setO g17_12 22 (fup (g17_12 22) 2 8)) := FR_up (show up g17_12 22 2 8 = (setO g17_12 22 (fup (g17_12 22) 2 8)) from up_can rfl rfl rfl) hF_12 (by decide)
          refine TT_aload_n hK rfl 0 rfl dX1_putBits_26 ?_
          refine TT_dup hK rfl dX1_putBits_27 ?_
          refine gf_X1_19 hK (by decide) rfl (v := 8) (rd_ (sOf_eq _ _ _) (fup_eq _ _ _)) dX1_putBits_28 ?_
          refine TT_iconst hK dX1_putBits_31 ?_
          refine TT_isub hK dX1_putBits_32 ?_
          refine pf_X1_19 hK (by decide) rfl dX1_putBits_33 ?_
          refine TT_hp (h' := setO g17_12 22 (fup (g17_12 22) 2 (8 - 1))) (up_can (sOf_eq _ _ _) (fup_same _ _ _ _) (setO_same _ _ _ _)) ?_
          have hT_14 : TY (setO g17_12 22 (fup (g17_12 22) 2 (8 - 1))) := tu_22_2 hT_13 (show up (setO g17_12 22 (fup (g17_12 22) 2 8)) 22 2 (8 - 1) = (setO g17_12 22 (fup (g17_12 22) 2 (8 - 1))) from up_can (sOf_eq _ _ _) (fup_same _ _ _ _) (setO_same _ _ _ _)) (by omega)
          have hF_14 : FR [22, 23] h (setO g17_12 22 (fup (g17_12 22) 2 (8 - 1))) := FR_up (show up (setO g17_12 22 (fup (g17_12 22) 2 8)) 22 2 (8 - 1) = (setO g17_12 22 (fup (g17_12 22) 2 (8 - 1))) from up_can (sOf_eq _ _ _) (fup_same _ _ _ _) (setO_same _ _ _ _)) hF_13 (by decide)
          refine TT_aload_n hK rfl 0 rfl dX1_putBits_36 ?_
          refine TT_aload_n hK rfl 0 rfl dX1_putBits_37 ?_
          refine gf_X1_15 hK (by decide) rfl (v := (g17_12 22) 1) (rd_ (sOf_eq _ _ _) (fup_ne _ _ (by decide))) dX1_putBits_38 ?_
          have r15 := ty_22_1 (v := (g17_12 22) 1) hT_14 (rd_ (sOf_eq _ _ _) (fup_ne _ _ (by decide)))
          refine TT_iconst hK dX1_putBits_41 ?_
          refine TT_isub hK dX1_putBits_42 ?_
          refine TT_aload_n hK rfl 0 rfl dX1_putBits_43 ?_
          refine TT_aload_n hK rfl 0 rfl dX1_putBits_44 ?_
          refine gf_X1_15 hK (by decide) rfl (v := (g17_12 22) 1) (rd_ (sOf_eq _ _ _) (fup_ne _ _ (by decide))) dX1_putBits_45 ?_
          refine TT_iconst hK dX1_putBits_48 ?_
          refine TT_isub hK dX1_putBits_49 ?_
          refine iv_X1_26 hK (s_X1_at_22 (((g17_12 22) 1) - 1) (setO g17_12 22 (fup (g17_12 22) 2 (8 - 1))) hT_14 (by first | omega | (simp [up, setR] <;> omega))) (by decide) rfl ⟨by decide, by decide⟩ (by decide) rfl rfl (Nat.le_of_ble_eq_true rfl) ⟨by decide, by decide⟩ dX1_putBits_50 ?_
          intro r9 g50_16 hp9
          obtain ⟨⟨hT_16, hG_16⟩, z50_16, hr9, hz_16, p1_16⟩ := hp9
          rw [hr9]
          have hF_16 : FR [22, 23] h g50_16 := FR_tr hF_14 hG_16 (by decide)
          rw [show (setO g17_12 22 (fup (g17_12 22) 2 (8 - 1))) 22 1 = (g17_12 22) 1 from rd_ (sOf_eq _ _ _) (fup_ne _ _ (by decide))] at p1_16
          rw [show (setO g17_12 22 (fup (g17_12 22) 2 (8 - 1))) 23 = g17_12 23 from sOf_ne _ _ (by decide)] at p1_16
          show TT K ly 0 0 53 [(0, vR 22), (1, vI v), (2, vI n), (3, vI k)] [vI z50_16, vI (((g17_12 22) 1) - 1), vR 22] g50_16
          refine TT_iload_n hK rfl 1 rfl dX1_putBits_53 ?_
          refine TT_iload_n hK rfl 3 rfl dX1_putBits_54 ?_
          refine TT_ishr_a hK dX1_putBits_55 (fun x55_17 hx17 => ?_)
          refine TT_iconst hK dX1_putBits_56 ?_
          refine TT_iand hK dX1_putBits_57 ?_
          refine TT_cgI (iand_m x55_17 1 (by decide)) ?_
          show TT K ly 0 0 58 [(0, vR 22), (1, vI v), (2, vI n), (3, vI k)] (vI (x55_17 % 2) :: [vI z50_16, vI (((g17_12 22) 1) - 1), vR 22]) g50_16
          refine TT_aload_n hK rfl 0 rfl dX1_putBits_58 ?_
          refine gf_X1_19 hK (by decide) rfl (v := 8 - 1) (rd_ (((hG_16 22 (by decide))).trans (sOf_eq _ _ _)) (fup_eq _ _ _)) dX1_putBits_59 ?_
          have r18 := ty_22_2 (v := 8 - 1) hT_16 (rd_ (((hG_16 22 (by decide))).trans (sOf_eq _ _ _)) (fup_eq _ _ _))
          refine TT_ishl hK (by omega) (by omega) dX1_putBits_62 ?_
          refine TT_nmI (fun y9 hy9 => ?_)
          refine TT_ior hK dX1_putBits_63 ?_
          have hy9b : 0 ≤ y9 ∧ y9 ≤ 128 := by rw [hy9]; exact sh7 (by omega) (by omega)
          refine iv_X1_34 hK (s_X1_set_22 (((g17_12 22) 1) - 1) (ior_ z50_16 y9) g50_16 hT_16 (by first | omega | (simp [up, setR] <;> omega)) (by exact ior_255 (by omega) (by omega))) (by decide) rfl ⟨by decide, by decide⟩ (by decide) rfl rfl (Nat.le_of_ble_eq_true rfl) ⟨by decide, by decide⟩ dX1_putBits_64 ?_
          intro r9 g64_19 hp9
          obtain ⟨⟨hT_19, hG_19⟩, hr9⟩ := hp9
          rw [hr9]
          have hF_19 : FR [22, 23] h g64_19 := FR_tr hF_16 hG_19 (by decide)
          show TT K ly 0 0 67 [(0, vR 22), (1, vI v), (2, vI n), (3, vI k)] [] g64_19
          refine TT_iinc hK (v := k - 1) (lv' := [(3, vI (k - 1)), (0, vR 22), (1, vI v), (2, vI n)]) 3 rfl (by omega) (by decide) rfl dX1_putBits_67 ?_
          refine TT_goto hK (tgt := 4) dX1_putBits_70 (by decide) ?_
          refine TT_sub [1, 2, 3, 0] rfl ?_
          exact ih2 (k - 1) g64_19 hT_19 hF_19 (by first | omega | (simp [up, setR] <;> omega)) (by first | omega | (simp [up, setR] <;> omega))
  refine TT_sub [1, 2, 3, 0] rfl ?_
  exact L4_2 (((x3_1 + 1).toNat) + 1) x3_1 h hT hF (by first | omega | (simp [up, setR] <;> omega)) (Nat.lt_succ_self _)
set_option maxRecDepth 20000 in
theorem s_X1_addFrom_5 (s n : Int) (h : Hp_) (hT : TY h) (hs : -2147483648 ≤ s ∧ s ≤ 2147483647) (hn : -2147483648 ≤ n ∧ n ≤ 2147483647) : Ctr yX1_addFrom cX1_addFrom 5 none (rmd 1) ly ly 0 0 [vR 5, vR 22, vI s, vI n] h (fun r h' => (TY h' ∧ FR [5, 6] h h') ∧ r = none) := by
  refine Ctr_of (by decide) (Nat.le_of_ble_eq_true rfl) ⟨Nat.le_refl _, Nat.le_refl _⟩ (fun K hK hQ _ => ?_)
  show TT K ly 0 0 0 [(0, vR 5), (1, vR 22), (2, vI s), (3, vI n)] [] h
  have hF : FR [5, 6] h h := FR_rf _ _
  refine TT_iconst hK dX1_addFrom_0 ?_
  refine TT_istore hK (lv' := [(4, vI 0), (0, vR 5), (1, vR 22), (2, vI s), (3, vI n)]) (by decide) rfl dX1_addFrom_1 ?_
  have L3_1 : ∀ (k1 : Nat) (i : Int) (w3_1 : Hp_), TY w3_1 → FR [5, 6] h w3_1 → (0 ≤ i ∧ (i ≤ n ∨ i = 0)) → (n - i).toNat < k1 → TT K ly 0 0 3 [(0, vR 5), (1, vR 22), (2, vI s), (3, vI n), (4, vI i)] [] w3_1 := by
    intro k1
    induction k1 with
    | zero => intro i w3_1 hT3_1 hF3_1 hi hk1; exact absurd hk1 (Nat.not_lt_zero _)
    | succ k1 ih1 =>
      intro i w3_1 hT3_1 hF3_1 hi hk1
      refine TT_iload hK 4 rfl dX1_addFrom_3 ?_
      refine TT_iload_n hK rfl 3 rfl dX1_addFrom_5 ?_
      refine TT_icmp_ge hK (tgt := 27) (irm (by omega) (by omega)) (irm (by omega) (by omega)) dX1_addFrom_6 (by decide) (fun hb6_2 => ?_) (fun hb6_2 => ?_)
      · refine TT_vret hK hQ ?_ dX1_addFrom_27
        exact ⟨⟨hT3_1, hF3_1⟩, rfl⟩
      · refine TT_aload_n hK rfl 0 rfl dX1_addFrom_9 ?_
        refine TT_aload_n hK rfl 1 rfl dX1_addFrom_10 ?_
        refine TT_iload_n hK rfl 2 rfl dX1_addFrom_11 ?_
        refine TT_iload hK 4 rfl dX1_addFrom_12 ?_
        refine TT_iadd hK dX1_addFrom_14 ?_
        refine TT_w32 (fun x15_3 hx3 => ?_)
        refine iv_X1_26 hK (s_X1_at_22 x15_3 w3_1 hT3_1 (by first | omega | (simp [up, setR] <;> omega))) (by decide) rfl ⟨by decide, by decide⟩ (by decide) rfl rfl (Nat.le_of_ble_eq_true rfl) ⟨by decide, by decide⟩ dX1_addFrom_15 ?_
        intro r9 g15_4 hp9
        obtain ⟨⟨hT_4, hG_4⟩, z15_4, hr9, hz_4, p1_4⟩ := hp9
        rw [hr9]
        have hF_4 : FR [5, 6] h g15_4 := FR_tr hF3_1 hG_4 (by decide)
        rw [show w3_1 22 1 = (h 22) 1 from rd_ (hF3_1 22 (by decide)) rfl] at p1_4
        rw [show w3_1 23 = h 23 from (hF3_1 23 (by decide))] at p1_4
        show TT K ly 0 0 18 [(0, vR 5), (1, vR 22), (2, vI s), (3, vI n), (4, vI i)] [vI z15_4, vR 5] g15_4
        refine iv_X1_30 hK (s_X1_add_5 z15_4 g15_4 hT_4 (by first | omega | (simp [up, setR] <;> omega))) (by decide) rfl ⟨by decide, by decide⟩ (by decide) rfl rfl (Nat.le_of_ble_eq_true rfl) ⟨by decide, by decide⟩ dX1_addFrom_18 ?_
        intro r9 g18_5 hp9
        obtain ⟨⟨hT_5, hG_5⟩, hr9⟩ := hp9
        rw [hr9]
        have hF_5 : FR [5, 6] h g18_5 := FR_tr hF_4 hG_5 (by decide)
        show TT K ly 0 0 21 [(0, vR 5), (1, vR 22), (2, vI s), (3, vI n), (4, vI i)] [] g18_5
        refine TT_iinc hK (v := i + 1) (lv' := [(4, vI (i + 1)), (0, vR 5), (1, vR 22), (2, vI s), (3, vI n)]) 4 rfl rfl (by decide) rfl dX1_addFrom_21 ?_
        refine TT_goto hK (tgt := 3) dX1_addFrom_24 (by decide) ?_
        refine TT_sub [1, 2, 3, 4, 0] rfl ?_
        exact ih1 (i + 1) g18_5 hT_5 hF_5 (by first | omega | (simp [up, setR] <;> omega)) (by first | omega | (simp [up, setR] <;> omega))
  refine TT_sub [1, 2, 3, 4, 0] rfl ?_
  exact L3_1 (((n - 0).toNat) + 1) 0 h hT hF (by first | omega | (simp [up, setR] <;> omega)) (Nat.lt_succ_self _)

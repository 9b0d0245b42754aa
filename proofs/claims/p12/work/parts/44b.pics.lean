set_option maxRecDepth 20000 in
theorem s_fill_2x (v : Int) (h : Hp_) (hT : TY h) (hv : 0 ≤ v ∧ v ≤ 255) : Ctr yJ7_fill_53178 cJ7_fill_53178 4 none (rmd 0) ly ly 0 0 [vR 2, vI v] h (fun r h' => (TY h' ∧ FR [2] h h') ∧ r = none ∧ (∀ j : Int, 0 ≤ j → j < 64 → (h' 2) j = v)) := by
  refine Ctr_of (by decide) (Nat.le_of_ble_eq_true rfl) ⟨Nat.le_refl _, Nat.le_refl _⟩ (fun K hK hQ _ => ?_)
  show TT K ly 0 0 0 [(0, vR 2), (1, vI v)] [] h
  have hF : FR [2] h h := FR_rf _ _
  refine TT_iconst hK dJ7_fill_53178_0 ?_
  refine TT_istore_n hK rfl (lv' := [(2, vI 0), (0, vR 2), (1, vI v)]) (by decide) rfl dJ7_fill_53178_1 ?_
  refine TT_aload_n hK rfl 1 rfl dJ7_fill_53178_2 ?_
  refine TT_alen hK (o := 2) (t := 12) (n := 64) (v := 64) (by decide) rfl (by decide) rfl dJ7_fill_53178_3 ?_
  refine TT_istore_n hK rfl (lv' := [(3, vI 64), (2, vI 0), (0, vR 2), (1, vI v)]) (by decide) rfl dJ7_fill_53178_4 ?_
  have L5_1 : ∀ (k1 : Nat) (i : Int) (w5_1 : Hp_), TY w5_1 → FR [2] h w5_1 → (0 ≤ i ∧ i ≤ 64) → (∀ j : Int, 0 ≤ j → j < i → (w5_1 2) j = v) → ((64 : Int) - i).toNat < k1 → TT K ly 0 0 5 [(0, vR 2), (1, vI v), (2, vI i), (3, vI 64)] [] w5_1 := by
    intro k1
    induction k1 with
    | zero => intro i w5_1 hT5_1 hF5_1 hi hz hk1; exact absurd hk1 (Nat.not_lt_zero _)
    | succ k1 ih1 =>
      intro i w5_1 hT5_1 hF5_1 hi hz hk1
      refine TT_iload_n hK rfl 2 rfl dJ7_fill_53178_5 ?_
      refine TT_iload_n hK rfl 3 rfl dJ7_fill_53178_6 ?_
      refine TT_icmp_ge hK (tgt := 20) (irm (by omega) (by omega)) (by decide) dJ7_fill_53178_7 (by decide) (fun hb7_2 => ?_) (fun hb7_2 => ?_)
      · refine TT_vret hK hQ ?_ dJ7_fill_53178_20
        exact ⟨⟨hT5_1, hF5_1⟩, rfl, (by intro j h1 h2; exact hz j h1 (by omega))⟩
      · refine TT_aload_n hK rfl 0 rfl dJ7_fill_53178_10 ?_
        refine TT_iload_n hK rfl 2 rfl dJ7_fill_53178_11 ?_
        refine TT_iload_n hK rfl 1 rfl dJ7_fill_53178_12 ?_
        refine TT_iast hK (o := 2) (n := 64) (by decide) rfl (by omega) (by omega) dJ7_fill_53178_13 ?_
        refine TT_hp (h' := setO w5_1 2 (fup (w5_1 2) i v)) (up_can rfl rfl rfl) ?_
        have hT_3 : TY (setO w5_1 2 (fup (w5_1 2) i v)) := tu_2 hT5_1 (show up w5_1 2 i v = (setO w5_1 2 (fup (w5_1 2) i v)) from up_can rfl rfl rfl) (by omega)
        have hF_3 : FR [2] h (setO w5_1 2 (fup (w5_1 2) i v)) := FR_up (show up w5_1 2 i v = (setO w5_1 2 (fup (w5_1 2) i v)) from up_can rfl rfl rfl) hF5_1 (by decide)
        refine TT_iinc hK (v := i + 1) (lv' := [(2, vI (i + 1)), (0, vR 2), (1, vI v), (3, vI 64)]) 2 rfl rfl (by decide) rfl dJ7_fill_53178_14 ?_
        refine TT_goto hK (tgt := 5) dJ7_fill_53178_17 (by decide) ?_
        refine TT_sub [1, 2, 0, 3] rfl ?_
        have e4_2 : (setO w5_1 2 (fup (w5_1 2) i v)) 2 = fup (w5_1 2) i v := sOf_eq _ _ _
        exact ih1 (i + 1) (setO w5_1 2 (fup (w5_1 2) i v)) hT_3 hF_3 (by first | omega | (simp [up, setR] <;> omega)) (by rewrite [e4_2]; intro j h1 h2; by_cases e : j = i; (rw [e, fup_eq]); (rw [fup_ne _ _ e]; exact hz j h1 (by omega))) (by first | omega | (simp [up, setR] <;> omega))
  refine TT_sub [2, 3, 1, 0] rfl ?_
  exact L5_1 ((((64 : Int) - 0).toNat) + 1) 0 h hT hF (by first | omega | (simp [up, setR] <;> omega)) (by intro j h1 h2; exfalso; omega) (Nat.lt_succ_self _)
set_option maxRecDepth 20000 in
theorem s_begin_1x (nw nh : Int) (h : Hp_) (hT : TY h) (hnw : 0 ≤ nw ∧ nw ≤ 8) (hnh : 0 ≤ nh ∧ nh ≤ 8) : Ctr yX5_begin cX5_begin 3 none (rmd 1) ly ly 0 0 [vR 1, vI nw, vI nh] h (fun r h' => (TY h' ∧ FR [1, 2] h h') ∧ r = none ∧ ((h' 1 1) = nw) ∧ ((h' 1 2) = nh) ∧ (∀ j : Int, 0 ≤ j → j < 64 → (h' 2) j = 0)) := by
  refine Ctr_of (by decide) (Nat.le_of_ble_eq_true rfl) ⟨Nat.le_refl _, Nat.le_refl _⟩ (fun K hK hQ _ => ?_)
  show TT K ly 0 0 0 [(0, vR 1), (1, vI nw), (2, vI nh)] [] h
  have hF : FR [1, 2] h h := FR_rf _ _
  refine TT_aload_n hK rfl 0 rfl dX5_begin_0 ?_
  refine TT_iload_n hK rfl 1 rfl dX5_begin_1 ?_
  refine pf_X5_15 hK (by decide) rfl dX5_begin_2 ?_
  refine TT_hp (h' := setO h 1 (fup (h 1) 1 nw)) (up_can rfl rfl rfl) ?_
  have hT_1 : TY (setO h 1 (fup (h 1) 1 nw)) := tu_1_1 hT (show up h 1 1 nw = (setO h 1 (fup (h 1) 1 nw)) from up_can rfl rfl rfl) (by omega)
  have hF_1 : FR [1, 2] h (setO h 1 (fup (h 1) 1 nw)) := FR_up (show up h 1 1 nw = (setO h 1 (fup (h 1) 1 nw)) from up_can rfl rfl rfl) hF (by decide)
  refine TT_aload_n hK rfl 0 rfl dX5_begin_5 ?_
  refine TT_iload_n hK rfl 2 rfl dX5_begin_6 ?_
  refine pf_X5_19 hK (by decide) rfl dX5_begin_7 ?_
  refine TT_hp (h' := setO h 1 (fup (fup (h 1) 1 nw) 2 nh)) (up_can (sOf_eq _ _ _) rfl (setO_same _ _ _ _)) ?_
  have hT_2 : TY (setO h 1 (fup (fup (h 1) 1 nw) 2 nh)) := tu_1_2 hT_1 (show up (setO h 1 (fup (h 1) 1 nw)) 1 2 nh = (setO h 1 (fup (fup (h 1) 1 nw) 2 nh)) from up_can (sOf_eq _ _ _) rfl (setO_same _ _ _ _)) (by omega)
  have hF_2 : FR [1, 2] h (setO h 1 (fup (fup (h 1) 1 nw) 2 nh)) := FR_up (show up (setO h 1 (fup (h 1) 1 nw)) 1 2 nh = (setO h 1 (fup (fup (h 1) 1 nw) 2 nh)) from up_can (sOf_eq _ _ _) rfl (setO_same _ _ _ _)) hF_1 (by decide)
  refine TT_aload_n hK rfl 0 rfl dX5_begin_10 ?_
  refine gf_X5_9 hK (by decide) rfl (q := 2) rfl rfl dX5_begin_11 ?_
  refine TT_iconst hK dX5_begin_14 ?_
  refine iv_X5_22 hK (s_fill_2x 0 (setO h 1 (fup (fup (h 1) 1 nw) 2 nh)) hT_2 (by first | omega | (simp [up, setR] <;> omega))) ⟨by decide, by decide⟩ (by decide) rfl rfl (Nat.le_of_ble_eq_true rfl) ⟨by decide, by decide⟩ dX5_begin_15 ?_
  intro r9 g15_3 hp9
  obtain ⟨⟨hT_3, hG_3⟩, hr9, p1_3⟩ := hp9
  rw [hr9]
  have hF_3 : FR [1, 2] h g15_3 := FR_tr hF_2 hG_3 (by decide)
  have p1_at15 := p1_3
  show TT K ly 0 0 18 [(0, vR 1), (1, vI nw), (2, vI nh)] [] g15_3
  refine TT_vret hK hQ ?_ dX5_begin_18
  have e4_1_1 : g15_3 1 1 = nw := rd_ (((hG_3 1 (by decide))).trans (sOf_eq _ _ _)) ((fup_ne _ _ (by decide)).trans (fup_eq _ _ _))
  have e5_1_2 : g15_3 1 2 = nh := rd_ (((hG_3 1 (by decide))).trans (sOf_eq _ _ _)) (fup_eq _ _ _)
  exact ⟨⟨hT_3, hF_3⟩, rfl, (by rewrite [e4_1_1]; omega), (by rewrite [e5_1_2]; omega), (by exact p1_at15)⟩
set_option maxRecDepth 20000 in
theorem s_has_1x (x y : Int) (h : Hp_) (hT : TY h) (hx : -2147483648 ≤ x ∧ x ≤ 2147483647) (hy : -2147483648 ≤ y ∧ y ≤ 2147483647) : Ctr yX5_has cX5_has 3 (some .boolean) (rmd 0) ly ly 0 0 [vR 1, vI x, vI y] h (fun r h' => (TY h' ∧ FR [] h h') ∧ ∃ z : Int, r = some (vI z) ∧ (0 ≤ z ∧ z ≤ 1) ∧ (z = 1 → (0 ≤ x ∧ x < (h 1 1)) ∧ (0 ≤ y ∧ y < (h 1 2))) ∧ (z = 0 → ¬((0 ≤ x ∧ x < (h 1 1)) ∧ (0 ≤ y ∧ y < (h 1 2)))) ∧ (z = 1 → x < 8 ∧ y < 8)) := by
  refine Ctr_of (by decide) (Nat.le_of_ble_eq_true rfl) ⟨Nat.le_refl _, Nat.le_refl _⟩ (fun K hK hQ _ => ?_)
  show TT K ly 0 0 0 [(0, vR 1), (1, vI x), (2, vI y)] [] h
  have hF : FR [] h h := FR_rf _ _
  refine TT_iload_n hK rfl 1 rfl dX5_has_0 ?_
  refine TT_if_lt hK (tgt := 28) (irm (by omega) (by omega)) dX5_has_1 (by decide) (fun hb1_1 => ?_) (fun hb1_1 => ?_)
  · refine TT_iconst hK dX5_has_28 ?_
    refine TT_zret hK hQ (by decide) ?_ dX5_has_29
    exact ⟨⟨hT, hF⟩, 0, rfl, (by omega), (by omega), (by omega), (by omega)⟩
  · refine TT_iload_n hK rfl 1 rfl dX5_has_4 ?_
    refine TT_aload_n hK rfl 0 rfl dX5_has_5 ?_
    refine gf_X5_15 hK (by decide) rfl (v := (h 1) 1) rfl dX5_has_6 ?_
    have r2 := ty_1_1 (v := (h 1) 1) hT rfl
    refine TT_icmp_ge hK (tgt := 28) (irm (by omega) (by omega)) (irm (by omega) (by omega)) dX5_has_9 (by decide) (fun hb9_3 => ?_) (fun hb9_3 => ?_)
    · refine TT_iconst hK dX5_has_28 ?_
      refine TT_zret hK hQ (by decide) ?_ dX5_has_29
      exact ⟨⟨hT, hF⟩, 0, rfl, (by omega), (by omega), (by omega), (by omega)⟩
    · refine TT_iload_n hK rfl 2 rfl dX5_has_12 ?_
      refine TT_if_lt hK (tgt := 28) (irm (by omega) (by omega)) dX5_has_13 (by decide) (fun hb13_4 => ?_) (fun hb13_4 => ?_)
      · refine TT_iconst hK dX5_has_28 ?_
        refine TT_zret hK hQ (by decide) ?_ dX5_has_29
        exact ⟨⟨hT, hF⟩, 0, rfl, (by omega), (by omega), (by omega), (by omega)⟩
      · refine TT_iload_n hK rfl 2 rfl dX5_has_16 ?_
        refine TT_aload_n hK rfl 0 rfl dX5_has_17 ?_
        refine gf_X5_19 hK (by decide) rfl (v := (h 1) 2) rfl dX5_has_18 ?_
        have r5 := ty_1_2 (v := (h 1) 2) hT rfl
        refine TT_icmp_ge hK (tgt := 28) (irm (by omega) (by omega)) (irm (by omega) (by omega)) dX5_has_21 (by decide) (fun hb21_6 => ?_) (fun hb21_6 => ?_)
        · refine TT_iconst hK dX5_has_28 ?_
          refine TT_zret hK hQ (by decide) ?_ dX5_has_29
          exact ⟨⟨hT, hF⟩, 0, rfl, (by omega), (by omega), (by omega), (by omega)⟩
        · refine TT_iconst hK dX5_has_24 ?_
          refine TT_goto hK (tgt := 29) dX5_has_25 (by decide) ?_
          refine TT_zret hK hQ (by decide) ?_ dX5_has_29
          exact ⟨⟨hT, hF⟩, 1, rfl, (by omega), (by omega), (by omega), (by omega)⟩
set_option maxRecDepth 20000 in
theorem s_at_1x (x y : Int) (h : Hp_) (hT : TY h) (hx : -2147483648 ≤ x ∧ x ≤ 2147483647) (hy : -2147483648 ≤ y ∧ y ≤ 2147483647) : Ctr yX5_at cX5_at 3 (some .int) (rmd 1) ly ly 0 0 [vR 1, vI x, vI y] h (fun r h' => (TY h' ∧ FR [] h h') ∧ ∃ z : Int, r = some (vI z) ∧ (-100000 ≤ z ∧ z ≤ 255) ∧ (((0 ≤ x ∧ x < (h 1 1)) ∧ (0 ≤ y ∧ y < (h 1 2)) → z = (h 2) (y * 8 + x)) ∧ (¬((0 ≤ x ∧ x < (h 1 1)) ∧ (0 ≤ y ∧ y < (h 1 2))) → z = -100000))) := by
  refine Ctr_of (by decide) (Nat.le_of_ble_eq_true rfl) ⟨Nat.le_refl _, Nat.le_refl _⟩ (fun K hK hQ _ => ?_)
  show TT K ly 0 0 0 [(0, vR 1), (1, vI x), (2, vI y)] [] h
  have hF : FR [] h h := FR_rf _ _
  refine TT_aload_n hK rfl 0 rfl dX5_at_0 ?_
  refine TT_iload_n hK rfl 1 rfl dX5_at_1 ?_
  refine TT_iload_n hK rfl 2 rfl dX5_at_2 ?_
  refine iv_X5_28 hK (s_has_1x x y h hT (by first | omega | (simp [up, setR] <;> omega)) (by first | omega | (simp [up, setR] <;> omega))) (by decide) rfl ⟨by decide, by decide⟩ (by decide) rfl rfl (Nat.le_of_ble_eq_true rfl) ⟨by decide, by decide⟩ dX5_at_3 ?_
  intro r9 g3_1 hp9
  obtain ⟨⟨hT_1, hG_1⟩, z3_1, hr9, hz_1, p1_1, p2_1, p3_1⟩ := hp9
  rw [hr9]
  have hF_1 : FR [] h g3_1 := FR_tr hF hG_1 (by decide)
  rw [show h 1 1 = (h 1) 1 from rfl] at p1_1
  rw [show h 1 2 = (h 1) 2 from rfl] at p1_1
  rw [show h 1 1 = (h 1) 1 from rfl] at p2_1
  rw [show h 1 2 = (h 1) 2 from rfl] at p2_1
  show TT K ly 0 0 6 [(0, vR 1), (1, vI x), (2, vI y)] [vI z3_1] g3_1
  refine TT_if_eq hK (tgt := 23) (irm (by omega) (by omega)) dX5_at_6 (by decide) (fun hb6_2 => ?_) (fun hb6_2 => ?_)
  · refine TT_ldc hK lc_X5_32 dX5_at_23 ?_
    refine TT_iret hK hQ ?_ dX5_at_25
    exact ⟨⟨hT_1, hF_1⟩, (-100000), rfl, (by omega), (by first | exact ⟨fun _ => rfl, fun q => absurd (by omega) q⟩ | exact ⟨fun q => absurd q (by omega), fun _ => rfl⟩)⟩
  · refine TT_aload_n hK rfl 0 rfl dX5_at_9 ?_
    refine gf_X5_9 hK (by decide) rfl (q := 2) rfl rfl dX5_at_10 ?_
    refine TT_iload_n hK rfl 2 rfl dX5_at_13 ?_
    refine TT_bipush hK (by decide) dX5_at_14 ?_
    refine TT_imul hK dX5_at_16 ?_
    refine TT_iload_n hK rfl 1 rfl dX5_at_17 ?_
    refine TT_iadd hK dX5_at_18 ?_
    refine TT_iald hK (o := 2) (n := 64) (by decide) rfl (by first | omega | (simp [up, setR] <;> omega)) (by first | omega | (simp [up, setR] <;> omega)) (v := (h 2) ((y * 8) + x)) (rd_ (hG_1 2 (by decide)) rfl) dX5_at_19 ?_
    have r3 := ty_2 (i := (y * 8) + x) (v := (h 2) ((y * 8) + x)) hT_1 (rd_ (hG_1 2 (by decide)) rfl) (by omega) (by omega)
    refine TT_goto hK (tgt := 25) dX5_at_20 (by decide) ?_
    refine TT_iret hK hQ ?_ dX5_at_25
    exact ⟨⟨hT_1, hF_1⟩, ((h 2) ((y * 8) + x)), rfl, (by omega), (by first | exact ⟨fun _ => rfl, fun q => absurd (by omega) q⟩ | exact ⟨fun q => absurd q (by omega), fun _ => rfl⟩)⟩
set_option maxRecDepth 20000 in
theorem s_set_1x (x y v : Int) (h : Hp_) (hT : TY h) (hx : -2147483648 ≤ x ∧ x ≤ 2147483647) (hy : -2147483648 ≤ y ∧ y ≤ 2147483647) (hv : 0 ≤ v ∧ v ≤ 255) (hP : (0 ≤ x ∧ x < (h 1 1)) ∧ (0 ≤ y ∧ y < (h 1 2))) : Ctr yX5_set cX5_set 4 none (rmd 1) ly ly 0 0 [vR 1, vI x, vI y, vI v] h (fun r h' => (TY h' ∧ FR [2] h h') ∧ r = none ∧ ((h' 2) = fup (h 2) (y * 8 + x) v)) := by
  refine Ctr_of (by decide) (Nat.le_of_ble_eq_true rfl) ⟨Nat.le_refl _, Nat.le_refl _⟩ (fun K hK hQ _ => ?_)
  show TT K ly 0 0 0 [(0, vR 1), (1, vI x), (2, vI y), (3, vI v)] [] h
  have hF : FR [2] h h := FR_rf _ _
  refine TT_aload_n hK rfl 0 rfl dX5_set_0 ?_
  refine TT_iload_n hK rfl 1 rfl dX5_set_1 ?_
  refine TT_iload_n hK rfl 2 rfl dX5_set_2 ?_
  refine iv_X5_28 hK (s_has_1x x y h hT (by first | omega | (simp [up, setR] <;> omega)) (by first | omega | (simp [up, setR] <;> omega))) (by decide) rfl ⟨by decide, by decide⟩ (by decide) rfl rfl (Nat.le_of_ble_eq_true rfl) ⟨by decide, by decide⟩ dX5_set_3 ?_
  intro r9 g3_1 hp9
  obtain ⟨⟨hT_1, hG_1⟩, z3_1, hr9, hz_1, p1_1, p2_1, p3_1⟩ := hp9
  rw [hr9]
  have hF_1 : FR [2] h g3_1 := FR_tr hF hG_1 (by decide)
  rw [show h 1 1 = (h 1) 1 from rfl] at p1_1
  rw [show h 1 2 = (h 1) 2 from rfl] at p1_1
  rw [show h 1 1 = (h 1) 1 from rfl] at p2_1
  rw [show h 1 2 = (h 1) 2 from rfl] at p2_1
  show TT K ly 0 0 6 [(0, vR 1), (1, vI x), (2, vI y), (3, vI v)] [vI z3_1] g3_1
  refine TT_if_eq hK (tgt := 21) (irm (by omega) (by omega)) dX5_set_6 (by decide) (fun hb6_2 => ?_) (fun hb6_2 => ?_)
  · refine TT_vret hK hQ ?_ dX5_set_21
    have e3_2 : g3_1 2 = h 2 := (hG_1 2 (by decide))
    exact ⟨⟨hT_1, hF_1⟩, rfl, (by rewrite [e3_2]; first | rfl | (exfalso; omega))⟩
  · refine TT_aload_n hK rfl 0 rfl dX5_set_9 ?_
    refine gf_X5_9 hK (by decide) rfl (q := 2) rfl rfl dX5_set_10 ?_
    refine TT_iload_n hK rfl 2 rfl dX5_set_13 ?_
    refine TT_bipush hK (by decide) dX5_set_14 ?_
    refine TT_imul hK dX5_set_16 ?_
    refine TT_iload_n hK rfl 1 rfl dX5_set_17 ?_
    refine TT_iadd hK dX5_set_18 ?_
    refine TT_iload_n hK rfl 3 rfl dX5_set_19 ?_
    refine TT_iast hK (o := 2) (n := 64) (by decide) rfl (by omega) (by omega) dX5_set_20 ?_
    refine TT_hp (h' := setO g3_1 2 (fup (h 2) ((y * 8) + x) v)) (up_can (hG_1 2 (by decide)) rfl rfl) ?_
    have hT_4 : TY (setO g3_1 2 (fup (h 2) ((y * 8) + x) v)) := tu_2 hT_1 (show up g3_1 2 ((y * 8) + x) v = (setO g3_1 2 (fup (h 2) ((y * 8) + x) v)) from up_can (hG_1 2 (by decide)) rfl rfl) (by omega)
    have hF_4 : FR [2] h (setO g3_1 2 (fup (h 2) ((y * 8) + x) v)) := FR_up (show up g3_1 2 ((y * 8) + x) v = (setO g3_1 2 (fup (h 2) ((y * 8) + x) v)) from up_can (hG_1 2 (by decide)) rfl rfl) hF_1 (by decide)
    refine TT_vret hK hQ ?_ dX5_set_21
    have e5_2 : (setO g3_1 2 (fup (h 2) ((y * 8) + x) v)) 2 = fup (h 2) ((y * 8) + x) v := sOf_eq _ _ _
    exact ⟨⟨hT_4, hF_4⟩, rfl, (by rewrite [e5_2]; first | rfl | (exfalso; omega))⟩
set_option maxRecDepth 20000 in
theorem s_X5_greatestDifference_1 (h : Hp_) (hT : TY h)  : Ctr yX5_greatestDifference cX5_greatestDifference 4 (some .int) (rmd 1) ly ly 0 0 [vR 1, vR 3] h (fun r h' => (TY h' ∧ FR [] h h') ∧ ∃ z : Int, r = some (vI z) ∧ (-100000 ≤ z ∧ z ≤ 255)) := by
  refine Ctr_of (by decide) (Nat.le_of_ble_eq_true rfl) ⟨Nat.le_refl _, Nat.le_refl _⟩ (fun K hK hQ _ => ?_)
  show TT K ly 0 0 0 [(0, vR 1), (1, vR 3)] [] h
  have hF : FR [] h h := FR_rf _ _
  refine TT_aload_n hK rfl 0 rfl dX5_greatestDifference_0 ?_
  refine gf_X5_15 hK (by decide) rfl (v := (h 1) 1) rfl dX5_greatestDifference_1 ?_
  have r1 := ty_1_1 (v := (h 1) 1) hT rfl
  refine TT_aload_n hK rfl 1 rfl dX5_greatestDifference_4 ?_
  refine gf_X5_15 hK (by decide) rfl (v := (h 3) 1) rfl dX5_greatestDifference_5 ?_
  have r2 := ty_3_1 (v := (h 3) 1) hT rfl
  refine TT_icmp_ne hK (tgt := 22) (irm (by omega) (by omega)) (irm (by omega) (by omega)) dX5_greatestDifference_8 (by decide) (fun hb8_3 => ?_) (fun hb8_3 => ?_)
  · refine TT_ldc hK lc_X5_32 dX5_greatestDifference_22 ?_
    refine TT_iret hK hQ ?_ dX5_greatestDifference_24
    exact ⟨⟨hT, hF⟩, (-100000), rfl, (by omega)⟩
  · refine TT_aload_n hK rfl 0 rfl dX5_greatestDifference_11 ?_
    refine gf_X5_19 hK (by decide) rfl (v := (h 1) 2) rfl dX5_greatestDifference_12 ?_
    have r4 := ty_1_2 (v := (h 1) 2) hT rfl
    refine TT_aload_n hK rfl 1 rfl dX5_greatestDifference_15 ?_
    refine gf_X5_19 hK (by decide) rfl (v := (h 3) 2) rfl dX5_greatestDifference_16 ?_
    have r5 := ty_3_2 (v := (h 3) 2) hT rfl
    refine TT_icmp_eq hK (tgt := 25) (irm (by omega) (by omega)) (irm (by omega) (by omega)) dX5_greatestDifference_19 (by decide) (fun hb19_6 => ?_) (fun hb19_6 => ?_)
    · refine TT_iconst hK dX5_greatestDifference_25 ?_
      refine TT_istore_n hK rfl (lv' := [(2, vI 0), (0, vR 1), (1, vR 3)]) (by decide) rfl dX5_greatestDifference_26 ?_
      refine TT_iconst hK dX5_greatestDifference_27 ?_
      refine TT_istore_n hK rfl (lv' := [(3, vI 0), (2, vI 0), (0, vR 1), (1, vR 3)]) (by decide) rfl dX5_greatestDifference_28 ?_
      have L29_7 : ∀ (k7 : Nat) (g : Int) (i : Int) (w29_7 : Hp_), TY w29_7 → FR [] h w29_7 → (0 ≤ g ∧ g ≤ 255) → (0 ≤ i ∧ i ≤ 64) → ((64 : Int) - i).toNat < k7 → TT K ly 0 0 29 [(0, vR 1), (1, vR 3), (2, vI g), (3, vI i)] [] w29_7 := by
        intro k7
        induction k7 with
        | zero => intro g i w29_7 hT29_7 hF29_7 hg hi hk7; exact absurd hk7 (Nat.not_lt_zero _)
        | succ k7 ih7 =>
          intro g i w29_7 hT29_7 hF29_7 hg hi hk7
          refine TT_iload_n hK rfl 3 rfl dX5_greatestDifference_29 ?_
          refine TT_aload_n hK rfl 0 rfl dX5_greatestDifference_30 ?_
          refine gf_X5_9 hK (by decide) rfl (q := 2) rfl rfl dX5_greatestDifference_31 ?_
          refine TT_alen hK (o := 2) (t := 12) (n := 64) (v := 64) (by decide) rfl (by decide) rfl dX5_greatestDifference_34 ?_
          refine TT_icmp_ge hK (tgt := 65) (irm (by omega) (by omega)) (by decide) dX5_greatestDifference_35 (by decide) (fun hb35_8 => ?_) (fun hb35_8 => ?_)
          · refine TT_iload_n hK rfl 2 rfl dX5_greatestDifference_65 ?_
            refine TT_iret hK hQ ?_ dX5_greatestDifference_66
            exact ⟨⟨hT29_7, hF29_7⟩, g, rfl, (by omega)⟩
          · refine TT_iload_n hK rfl 2 rfl dX5_greatestDifference_38 ?_
            refine TT_aload_n hK rfl 0 rfl dX5_greatestDifference_39 ?_
            refine gf_X5_9 hK (by decide) rfl (q := 2) rfl rfl dX5_greatestDifference_40 ?_
            refine TT_iload_n hK rfl 3 rfl dX5_greatestDifference_43 ?_
            refine TT_iald hK (o := 2) (n := 64) (by decide) rfl (by first | omega | (simp [up, setR] <;> omega)) (by first | omega | (simp [up, setR] <;> omega)) (v := (h 2) i) (rd_ (hF29_7 2 (by decide)) rfl) dX5_greatestDifference_44 ?_
            have r9 := ty_2 (i := i) (v := (h 2) i) hT29_7 (rd_ (hF29_7 2 (by decide)) rfl) (by omega) (by omega)
            refine TT_aload_n hK rfl 1 rfl dX5_greatestDifference_45 ?_
            refine gf_X5_9 hK (by decide) rfl (q := 4) rfl rfl dX5_greatestDifference_46 ?_
            refine TT_iload_n hK rfl 3 rfl dX5_greatestDifference_49 ?_
            refine TT_iald hK (o := 4) (n := 64) (by decide) rfl (by first | omega | (simp [up, setR] <;> omega)) (by first | omega | (simp [up, setR] <;> omega)) (v := (h 4) i) (rd_ (hF29_7 4 (by decide)) rfl) dX5_greatestDifference_50 ?_
            have r10 := ty_4 (i := i) (v := (h 4) i) hT29_7 (rd_ (hF29_7 4 (by decide)) rfl) (by omega) (by omega)
            refine TT_isub hK dX5_greatestDifference_51 ?_
            refine TT_mabs hK (irm (by omega) (by omega)) iw_X5_33 (by decide) (Nat.le_of_ble_eq_true rfl) ⟨by decide, by decide⟩ dX5_greatestDifference_52 ?_
            refine TT_mmax hK (irm (by omega) (by omega)) (irm (by omega) (by omega)) iw_X5_39 (by decide) (Nat.le_of_ble_eq_true rfl) ⟨by decide, by decide⟩ dX5_greatestDifference_55 ?_
            refine TT_istore_n hK rfl (lv' := [(2, vI (max g (Int.natAbs (((h 2) i) - ((h 4) i)) : Int))), (0, vR 1), (1, vR 3), (3, vI i)]) (by decide) rfl dX5_greatestDifference_58 ?_
            refine TT_iinc hK (v := i + 1) (lv' := [(3, vI (i + 1)), (2, vI (max g (Int.natAbs (((h 2) i) - ((h 4) i)) : Int))), (0, vR 1), (1, vR 3)]) 3 rfl rfl (by decide) rfl dX5_greatestDifference_59 ?_
            refine TT_goto hK (tgt := 29) dX5_greatestDifference_62 (by decide) ?_
            refine TT_sub [2, 3, 1, 0] rfl ?_
            exact ih7 (max g (Int.natAbs (((h 2) i) - ((h 4) i)) : Int)) (i + 1) w29_7 hT29_7 hF29_7 (by first | omega | (simp [up, setR] <;> omega)) (by first | omega | (simp [up, setR] <;> omega)) (by first | omega | (simp [up, setR] <;> omega))
      refine TT_sub [2, 3, 1, 0] rfl ?_
      exact L29_7 ((((64 : Int) - 0).toNat) + 1) 0 0 h hT hF (by first | omega | (simp [up, setR] <;> omega)) (by first | omega | (simp [up, setR] <;> omega)) (Nat.lt_succ_self _)
    · refine TT_ldc hK lc_X5_32 dX5_greatestDifference_22 ?_
      refine TT_iret hK hQ ?_ dX5_greatestDifference_24
      exact ⟨⟨hT, hF⟩, (-100000), rfl, (by omega)⟩
set_option maxRecDepth 20000 in
theorem s_isSide_x (n : Int) (h : Hp_) (hT : TY h) (hn : -2147483648 ≤ n ∧ n ≤ 2147483647) : Ctr yX11_isSide cX11_isSide 1 (some .boolean) (rmd 0) ly ly 0 0 [vI n] h (fun r h' => (TY h' ∧ FR [] h h') ∧ ∃ z : Int, r = some (vI z) ∧ (0 ≤ z ∧ z ≤ 1) ∧ (z = 1 → 1 ≤ n ∧ n ≤ 8) ∧ (z = 0 → n < 1 ∨ 8 < n)) := by
  refine Ctr_of (by decide) (Nat.le_of_ble_eq_true rfl) ⟨Nat.le_refl _, Nat.le_refl _⟩ (fun K hK hQ _ => ?_)
  show TT K ly 0 0 0 [(0, vI n)] [] h
  have hF : FR [] h h := FR_rf _ _
  refine TT_iload_n hK rfl 0 rfl dX11_isSide_0 ?_
  refine TT_iconst hK dX11_isSide_1 ?_
  refine TT_icmp_lt hK (tgt := 15) (irm (by omega) (by omega)) (by decide) dX11_isSide_2 (by decide) (fun hb2_1 => ?_) (fun hb2_1 => ?_)
  · refine TT_iconst hK dX11_isSide_15 ?_
    refine TT_zret hK hQ (by decide) ?_ dX11_isSide_16
    exact ⟨⟨hT, hF⟩, 0, rfl, (by omega), (by omega), (by omega)⟩
  · refine TT_iload_n hK rfl 0 rfl dX11_isSide_5 ?_
    refine TT_bipush hK (by decide) dX11_isSide_6 ?_
    refine TT_icmp_gt hK (tgt := 15) (irm (by omega) (by omega)) (by decide) dX11_isSide_8 (by decide) (fun hb8_2 => ?_) (fun hb8_2 => ?_)
    · refine TT_iconst hK dX11_isSide_15 ?_
      refine TT_zret hK hQ (by decide) ?_ dX11_isSide_16
      exact ⟨⟨hT, hF⟩, 0, rfl, (by omega), (by omega), (by omega)⟩
    · refine TT_iconst hK dX11_isSide_11 ?_
      refine TT_goto hK (tgt := 16) dX11_isSide_12 (by decide) ?_
      refine TT_zret hK hQ (by decide) ?_ dX11_isSide_16
      exact ⟨⟨hT, hF⟩, 1, rfl, (by omega), (by omega), (by omega)⟩

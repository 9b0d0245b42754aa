set_option maxRecDepth 20000 in
theorem s_X4_clearTold_67 (h : Hp_) (hT : TY h)  : Ctr yX4_clearTold cX4_clearTold 2 none (rmd 0) ly ly 0 0 [vR 67] h (fun r h' => (TY h' ∧ FR [71] h h') ∧ r = none) := by
  refine Ctr_of (by decide) (Nat.le_of_ble_eq_true rfl) ⟨Nat.le_refl _, Nat.le_refl _⟩ (fun K hK hQ _ => ?_)
  show TT K ly 0 0 0 [(0, vR 67)] [] h
  have hF : FR [71] h h := FR_rf _ _
  refine TT_iconst hK dX4_clearTold_0 ?_
  refine TT_istore_n hK rfl (lv' := [(1, vI 0), (0, vR 67)]) (by decide) rfl dX4_clearTold_1 ?_
  have L2_1 : ∀ (k1 : Nat) (i : Int) (w2_1 : Hp_), TY w2_1 → FR [71] h w2_1 → (0 ≤ i ∧ i ≤ 100) → ((100 : Int) - i).toNat < k1 → TT K ly 0 0 2 [(0, vR 67), (1, vI i)] [] w2_1 := by
    intro k1
    induction k1 with
    | zero => intro i w2_1 hT2_1 hF2_1 hi hk1; exact absurd hk1 (Nat.not_lt_zero _)
    | succ k1 ih1 =>
      intro i w2_1 hT2_1 hF2_1 hi hk1
      refine TT_iload_n hK rfl 1 rfl dX4_clearTold_2 ?_
      refine TT_aload_n hK rfl 0 rfl dX4_clearTold_3 ?_
      refine gf_X4_21 hK (by decide) rfl (q := 71) rfl rfl dX4_clearTold_4 ?_
      refine TT_alen hK (o := 71) (t := 13) (n := 100) (v := 100) (by decide) rfl (by decide) rfl dX4_clearTold_7 ?_
      refine TT_icmp_ge hK (tgt := 24) (irm (by omega) (by omega)) (by decide) dX4_clearTold_8 (by decide) (fun hb8_2 => ?_) (fun hb8_2 => ?_)
      · refine TT_vret hK hQ ?_ dX4_clearTold_24
        exact ⟨⟨hT2_1, hF2_1⟩, rfl⟩
      · refine TT_aload_n hK rfl 0 rfl dX4_clearTold_11 ?_
        refine gf_X4_21 hK (by decide) rfl (q := 71) rfl rfl dX4_clearTold_12 ?_
        refine TT_iload_n hK rfl 1 rfl dX4_clearTold_15 ?_
        refine TT_iconst hK dX4_clearTold_16 ?_
        refine TT_zast hK (o := 71) (n := 100) (by decide) rfl (by omega) (by omega) (by first | decide | omega) dX4_clearTold_17 ?_
        refine TT_hp (h' := setO w2_1 71 (fup (w2_1 71) i 0)) (up_can rfl rfl rfl) ?_
        have hT_3 : TY (setO w2_1 71 (fup (w2_1 71) i 0)) := tu_71 hT2_1 (show up w2_1 71 i 0 = (setO w2_1 71 (fup (w2_1 71) i 0)) from up_can rfl rfl rfl) (by omega)
        have hF_3 : FR [71] h (setO w2_1 71 (fup (w2_1 71) i 0)) := FR_up (show up w2_1 71 i 0 = (setO w2_1 71 (fup (w2_1 71) i 0)) from up_can rfl rfl rfl) hF2_1 (by decide)
        refine TT_iinc hK (v := i + 1) (lv' := [(1, vI (i + 1)), (0, vR 67)]) 1 rfl rfl (by decide) rfl dX4_clearTold_18 ?_
        refine TT_goto hK (tgt := 2) dX4_clearTold_21 (by decide) ?_
        refine TT_sub [1, 0] rfl ?_
        exact ih1 (i + 1) (setO w2_1 71 (fup (w2_1 71) i 0)) hT_3 hF_3 (by first | omega | (simp [up, setR] <;> omega)) (by first | omega | (simp [up, setR] <;> omega))
  refine TT_sub [1, 0] rfl ?_
  exact L2_1 ((((100 : Int) - 0).toNat) + 1) 0 h hT hF (by first | omega | (simp [up, setR] <;> omega)) (Nat.lt_succ_self _)
set_option maxRecDepth 20000 in
theorem s_X4_begin_67 (w g k : Int) (h : Hp_) (hT : TY h) (hw : 0 ≤ w ∧ w ≤ 8) (hg : 0 ≤ g ∧ g ≤ 8) (hk : 0 ≤ k ∧ k ≤ 2) : Ctr yX4_begin cX4_begin 5 none (rmd 1) ly ly 0 0 [vR 67, vI w, vI g, vI k] h (fun r h' => (TY h' ∧ FR [67, 68, 69, 70, 71, 72] h h') ∧ r = none) := by
  refine Ctr_of (by decide) (Nat.le_of_ble_eq_true rfl) ⟨Nat.le_refl _, Nat.le_refl _⟩ (fun K hK hQ _ => ?_)
  show TT K ly 0 0 0 [(0, vR 67), (1, vI w), (2, vI g), (3, vI k)] [] h
  have hF : FR [67, 68, 69, 70, 71, 72] h h := FR_rf _ _
  refine TT_aload_n hK rfl 0 rfl dX4_begin_0 ?_
  refine TT_iload_n hK rfl 1 rfl dX4_begin_1 ?_
  refine pf_X4_32 hK (by decide) rfl dX4_begin_2 ?_
  refine TT_hp (h' := setO h 67 (fup (h 67) 6 w)) (up_can rfl rfl rfl) ?_
  have hT_1 : TY (setO h 67 (fup (h 67) 6 w)) := tu_67_6 hT (show up h 67 6 w = (setO h 67 (fup (h 67) 6 w)) from up_can rfl rfl rfl) (by omega)
  have hF_1 : FR [67, 68, 69, 70, 71, 72] h (setO h 67 (fup (h 67) 6 w)) := FR_up (show up h 67 6 w = (setO h 67 (fup (h 67) 6 w)) from up_can rfl rfl rfl) hF (by decide)
  refine TT_aload_n hK rfl 0 rfl dX4_begin_5 ?_
  refine TT_iload_n hK rfl 2 rfl dX4_begin_6 ?_
  refine pf_X4_36 hK (by decide) rfl dX4_begin_7 ?_
  refine TT_hp (h' := setO h 67 (fup (fup (h 67) 6 w) 7 g)) (up_can (sOf_eq _ _ _) rfl (setO_same _ _ _ _)) ?_
  have hT_2 : TY (setO h 67 (fup (fup (h 67) 6 w) 7 g)) := tu_67_7 hT_1 (show up (setO h 67 (fup (h 67) 6 w)) 67 7 g = (setO h 67 (fup (fup (h 67) 6 w) 7 g)) from up_can (sOf_eq _ _ _) rfl (setO_same _ _ _ _)) (by omega)
  have hF_2 : FR [67, 68, 69, 70, 71, 72] h (setO h 67 (fup (fup (h 67) 6 w) 7 g)) := FR_up (show up (setO h 67 (fup (h 67) 6 w)) 67 7 g = (setO h 67 (fup (fup (h 67) 6 w) 7 g)) from up_can (sOf_eq _ _ _) rfl (setO_same _ _ _ _)) hF_1 (by decide)
  refine TT_aload_n hK rfl 0 rfl dX4_begin_10 ?_
  refine TT_iload_n hK rfl 3 rfl dX4_begin_11 ?_
  refine pf_X4_39 hK (by decide) rfl dX4_begin_12 ?_
  refine TT_hp (h' := setO h 67 (fup (fup (fup (h 67) 6 w) 7 g) 8 k)) (up_can (sOf_eq _ _ _) rfl (setO_same _ _ _ _)) ?_
  have hT_3 : TY (setO h 67 (fup (fup (fup (h 67) 6 w) 7 g) 8 k)) := tu_67_8 hT_2 (show up (setO h 67 (fup (fup (h 67) 6 w) 7 g)) 67 8 k = (setO h 67 (fup (fup (fup (h 67) 6 w) 7 g) 8 k)) from up_can (sOf_eq _ _ _) rfl (setO_same _ _ _ _)) (by omega)
  have hF_3 : FR [67, 68, 69, 70, 71, 72] h (setO h 67 (fup (fup (fup (h 67) 6 w) 7 g) 8 k)) := FR_up (show up (setO h 67 (fup (fup (h 67) 6 w) 7 g)) 67 8 k = (setO h 67 (fup (fup (fup (h 67) 6 w) 7 g) 8 k)) from up_can (sOf_eq _ _ _) rfl (setO_same _ _ _ _)) hF_2 (by decide)
  refine TT_aload_n hK rfl 0 rfl dX4_begin_15 ?_
  refine gf_X4_11 hK (by decide) rfl (q := 68) rfl rfl dX4_begin_16 ?_
  refine TT_iconst hK dX4_begin_19 ?_
  refine iv_X4_42 hK (s_fill_68 0 (setO h 67 (fup (fup (fup (h 67) 6 w) 7 g) 8 k)) hT_3 (by first | omega | (simp [up, setR] <;> omega))) ⟨by decide, by decide⟩ (by decide) rfl rfl (Nat.le_of_ble_eq_true rfl) ⟨by decide, by decide⟩ dX4_begin_20 ?_
  intro r9 g20_4 hp9
  obtain ⟨⟨hT_4, hG_4⟩, hr9⟩ := hp9
  rw [hr9]
  have hF_4 : FR [67, 68, 69, 70, 71, 72] h g20_4 := FR_tr hF_3 hG_4 (by decide)
  show TT K ly 0 0 23 [(0, vR 67), (1, vI w), (2, vI g), (3, vI k)] [] g20_4
  refine TT_aload_n hK rfl 0 rfl dX4_begin_23 ?_
  refine gf_X4_15 hK (by decide) rfl (q := 69) rfl rfl dX4_begin_24 ?_
  refine TT_iconst hK dX4_begin_27 ?_
  refine iv_X4_42 hK (s_fill_69 0 g20_4 hT_4 (by first | omega | (simp [up, setR] <;> omega))) ⟨by decide, by decide⟩ (by decide) rfl rfl (Nat.le_of_ble_eq_true rfl) ⟨by decide, by decide⟩ dX4_begin_28 ?_
  intro r9 g28_5 hp9
  obtain ⟨⟨hT_5, hG_5⟩, hr9⟩ := hp9
  rw [hr9]
  have hF_5 : FR [67, 68, 69, 70, 71, 72] h g28_5 := FR_tr hF_4 hG_5 (by decide)
  show TT K ly 0 0 31 [(0, vR 67), (1, vI w), (2, vI g), (3, vI k)] [] g28_5
  refine TT_aload_n hK rfl 0 rfl dX4_begin_31 ?_
  refine gf_X4_18 hK (by decide) rfl (q := 70) rfl rfl dX4_begin_32 ?_
  refine TT_iconst hK dX4_begin_35 ?_
  refine iv_X4_42 hK (s_fill_70 0 g28_5 hT_5 (by first | omega | (simp [up, setR] <;> omega))) ⟨by decide, by decide⟩ (by decide) rfl rfl (Nat.le_of_ble_eq_true rfl) ⟨by decide, by decide⟩ dX4_begin_36 ?_
  intro r9 g36_6 hp9
  obtain ⟨⟨hT_6, hG_6⟩, hr9⟩ := hp9
  rw [hr9]
  have hF_6 : FR [67, 68, 69, 70, 71, 72] h g36_6 := FR_tr hF_5 hG_6 (by decide)
  show TT K ly 0 0 39 [(0, vR 67), (1, vI w), (2, vI g), (3, vI k)] [] g36_6
  refine TT_aload_n hK rfl 0 rfl dX4_begin_39 ?_
  refine iv_X4_48 hK (s_X4_clearTold_67 g36_6 hT_6 ) (by decide) rfl ⟨by decide, by decide⟩ (by decide) rfl rfl (Nat.le_of_ble_eq_true rfl) ⟨by decide, by decide⟩ dX4_begin_40 ?_
  intro r9 g40_7 hp9
  obtain ⟨⟨hT_7, hG_7⟩, hr9⟩ := hp9
  rw [hr9]
  have hF_7 : FR [67, 68, 69, 70, 71, 72] h g40_7 := FR_tr hF_6 hG_7 (by decide)
  show TT K ly 0 0 43 [(0, vR 67), (1, vI w), (2, vI g), (3, vI k)] [] g40_7
  refine TT_iconst hK dX4_begin_43 ?_
  refine TT_istore hK (lv' := [(4, vI 0), (0, vR 67), (1, vI w), (2, vI g), (3, vI k)]) (by decide) rfl dX4_begin_44 ?_
  have L46_8 : ∀ (k8 : Nat) (i : Int) (w46_8 : Hp_), TY w46_8 → FR [67, 68, 69, 70, 71, 72] h w46_8 → (0 ≤ i ∧ i ≤ 100) → ((100 : Int) - i).toNat < k8 → TT K ly 0 0 46 [(0, vR 67), (1, vI w), (2, vI g), (3, vI k), (4, vI i)] [] w46_8 := by
    intro k8
    induction k8 with
    | zero => intro i w46_8 hT46_8 hF46_8 hi hk8; exact absurd hk8 (Nat.not_lt_zero _)
    | succ k8 ih8 =>
      intro i w46_8 hT46_8 hF46_8 hi hk8
      refine TT_iload hK 4 rfl dX4_begin_46 ?_
      refine TT_aload_n hK rfl 0 rfl dX4_begin_48 ?_
      refine gf_X4_25 hK (by decide) rfl (q := 72) rfl rfl dX4_begin_49 ?_
      refine TT_alen hK (o := 72) (t := 13) (n := 100) (v := 100) (by decide) rfl (by decide) rfl dX4_begin_52 ?_
      refine TT_icmp_ge hK (tgt := 70) (irm (by omega) (by omega)) (by decide) dX4_begin_53 (by decide) (fun hb53_9 => ?_) (fun hb53_9 => ?_)
      · refine TT_vret hK hQ ?_ dX4_begin_70
        exact ⟨⟨hT46_8, hF46_8⟩, rfl⟩
      · refine TT_aload_n hK rfl 0 rfl dX4_begin_56 ?_
        refine gf_X4_25 hK (by decide) rfl (q := 72) rfl rfl dX4_begin_57 ?_
        refine TT_iload hK 4 rfl dX4_begin_60 ?_
        refine TT_iconst hK dX4_begin_62 ?_
        refine TT_zast hK (o := 72) (n := 100) (by decide) rfl (by omega) (by omega) (by first | decide | omega) dX4_begin_63 ?_
        refine TT_hp (h' := setO w46_8 72 (fup (w46_8 72) i 0)) (up_can rfl rfl rfl) ?_
        have hT_10 : TY (setO w46_8 72 (fup (w46_8 72) i 0)) := tu_72 hT46_8 (show up w46_8 72 i 0 = (setO w46_8 72 (fup (w46_8 72) i 0)) from up_can rfl rfl rfl) (by omega)
        have hF_10 : FR [67, 68, 69, 70, 71, 72] h (setO w46_8 72 (fup (w46_8 72) i 0)) := FR_up (show up w46_8 72 i 0 = (setO w46_8 72 (fup (w46_8 72) i 0)) from up_can rfl rfl rfl) hF46_8 (by decide)
        refine TT_iinc hK (v := i + 1) (lv' := [(4, vI (i + 1)), (0, vR 67), (1, vI w), (2, vI g), (3, vI k)]) 4 rfl rfl (by decide) rfl dX4_begin_64 ?_
        refine TT_goto hK (tgt := 46) dX4_begin_67 (by decide) ?_
        refine TT_sub [1, 2, 3, 4, 0] rfl ?_
        exact ih8 (i + 1) (setO w46_8 72 (fup (w46_8 72) i 0)) hT_10 hF_10 (by first | omega | (simp [up, setR] <;> omega)) (by first | omega | (simp [up, setR] <;> omega))
  refine TT_sub [1, 2, 3, 4, 0] rfl ?_
  exact L46_8 ((((100 : Int) - 0).toNat) + 1) 0 g40_7 hT_7 hF_7 (by first | omega | (simp [up, setR] <;> omega)) (Nat.lt_succ_self _)
set_option maxRecDepth 20000 in
theorem s_X4_mean_67 (x y v : Int) (h : Hp_) (hT : TY h) (hx : 0 ≤ x ∧ x ≤ 7) (hy : 0 ≤ y ∧ y ≤ 7) (hv : -2147483648 ≤ v ∧ v ≤ 2147483647) : Ctr yX4_mean cX4_mean 4 none (rmd 1) ly ly 0 0 [vR 67, vI x, vI y, vI v] h (fun r h' => (TY h' ∧ FR [68] h h') ∧ r = none) := by
  refine Ctr_of (by decide) (Nat.le_of_ble_eq_true rfl) ⟨Nat.le_refl _, Nat.le_refl _⟩ (fun K hK hQ _ => ?_)
  show TT K ly 0 0 0 [(0, vR 67), (1, vI x), (2, vI y), (3, vI v)] [] h
  have hF : FR [68] h h := FR_rf _ _
  refine TT_aload_n hK rfl 0 rfl dX4_mean_0 ?_
  refine gf_X4_11 hK (by decide) rfl (q := 68) rfl rfl dX4_mean_1 ?_
  refine TT_iload_n hK rfl 1 rfl dX4_mean_4 ?_
  refine TT_iload_n hK rfl 2 rfl dX4_mean_5 ?_
  refine iv_X4_51 hK (s_X4_place x y h hT (by first | omega | (simp [up, setR] <;> omega)) (by first | omega | (simp [up, setR] <;> omega))) ⟨by decide, by decide⟩ (by decide) rfl rfl (Nat.le_of_ble_eq_true rfl) ⟨by decide, by decide⟩ dX4_mean_6 ?_
  intro r9 g6_1 hp9
  obtain ⟨⟨hT_1, hG_1⟩, z6_1, hr9, hz_1, p1_1⟩ := hp9
  rw [hr9]
  have hF_1 : FR [68] h g6_1 := FR_tr hF hG_1 (by decide)
  show TT K ly 0 0 9 [(0, vR 67), (1, vI x), (2, vI y), (3, vI v)] [vI z6_1, vR 68] g6_1
  refine TT_iload_n hK rfl 3 rfl dX4_mean_9 ?_
  refine TT_iast hK (o := 68) (n := 100) (by decide) rfl (by omega) (by omega) dX4_mean_10 ?_
  refine TT_hp (h' := setO g6_1 68 (fup (h 68) z6_1 v)) (up_can (hG_1 68 (by decide)) rfl rfl) ?_
  have hT_2 : TY (setO g6_1 68 (fup (h 68) z6_1 v)) := tu_68 hT_1 (show up g6_1 68 z6_1 v = (setO g6_1 68 (fup (h 68) z6_1 v)) from up_can (hG_1 68 (by decide)) rfl rfl) (by omega)
  have hF_2 : FR [68] h (setO g6_1 68 (fup (h 68) z6_1 v)) := FR_up (show up g6_1 68 z6_1 v = (setO g6_1 68 (fup (h 68) z6_1 v)) from up_can (hG_1 68 (by decide)) rfl rfl) hF_1 (by decide)
  refine TT_vret hK hQ ?_ dX4_mean_11
  exact ⟨⟨hT_2, hF_2⟩, rfl⟩
set_option maxRecDepth 20000 in
theorem s_X4_numberAt_67 (x y : Int) (h : Hp_) (hT : TY h) (hx : 0 ≤ x ∧ x ≤ 7) (hy : 0 ≤ y ∧ y ≤ 7) : Ctr yX4_numberAt cX4_numberAt 4 (some .int) (rmd 1) ly ly 0 0 [vR 67, vI x, vI y] h (fun r h' => (TY h' ∧ FR [] h h') ∧ ∃ z : Int, r = some (vI z) ∧ (-2147483648 ≤ z ∧ z ≤ 2147483647)) := by
  refine Ctr_of (by decide) (Nat.le_of_ble_eq_true rfl) ⟨Nat.le_refl _, Nat.le_refl _⟩ (fun K hK hQ _ => ?_)
  show TT K ly 0 0 0 [(0, vR 67), (1, vI x), (2, vI y)] [] h
  have hF : FR [] h h := FR_rf _ _
  refine TT_iload_n hK rfl 1 rfl dX4_numberAt_0 ?_
  refine TT_iload_n hK rfl 2 rfl dX4_numberAt_1 ?_
  refine iv_X4_51 hK (s_X4_place x y h hT (by first | omega | (simp [up, setR] <;> omega)) (by first | omega | (simp [up, setR] <;> omega))) ⟨by decide, by decide⟩ (by decide) rfl rfl (Nat.le_of_ble_eq_true rfl) ⟨by decide, by decide⟩ dX4_numberAt_2 ?_
  intro r9 g2_1 hp9
  obtain ⟨⟨hT_1, hG_1⟩, z2_1, hr9, hz_1, p1_1⟩ := hp9
  rw [hr9]
  have hF_1 : FR [] h g2_1 := FR_tr hF hG_1 (by decide)
  show TT K ly 0 0 5 [(0, vR 67), (1, vI x), (2, vI y)] [vI z2_1] g2_1
  refine TT_istore_n hK rfl (lv' := [(3, vI z2_1), (0, vR 67), (1, vI x), (2, vI y)]) (by decide) rfl dX4_numberAt_5 ?_
  refine TT_aload_n hK rfl 1 rfl dX4_numberAt_6 ?_
  refine gf_X4_18 hK (by decide) rfl (q := 70) rfl rfl dX4_numberAt_7 ?_
  refine TT_iload_n hK rfl 0 rfl dX4_numberAt_10 ?_
  refine TT_iald hK (o := 70) (n := 100) (by decide) rfl (by first | omega | (simp [up, setR] <;> omega)) (by first | omega | (simp [up, setR] <;> omega)) (v := (h 70) z2_1) (rd_ (hG_1 70 (by decide)) rfl) dX4_numberAt_11 ?_
  have r2 := ty_70 (i := z2_1) (v := (h 70) z2_1) hT_1 (rd_ (hG_1 70 (by decide)) rfl) (by omega) (by omega)
  refine TT_aload_n hK rfl 1 rfl dX4_numberAt_12 ?_
  refine gf_X4_15 hK (by decide) rfl (q := 69) rfl rfl dX4_numberAt_13 ?_
  refine TT_iload_n hK rfl 0 rfl dX4_numberAt_16 ?_
  refine TT_iald hK (o := 69) (n := 100) (by decide) rfl (by first | omega | (simp [up, setR] <;> omega)) (by first | omega | (simp [up, setR] <;> omega)) (v := (h 69) z2_1) (rd_ (hG_1 69 (by decide)) rfl) dX4_numberAt_17 ?_
  have r3 := ty_69 (i := z2_1) (v := (h 69) z2_1) hT_1 (rd_ (hG_1 69 (by decide)) rfl) (by omega) (by omega)
  refine TT_imul hK dX4_numberAt_18 ?_
  refine TT_w32 (fun x19_4 hx4 => ?_)
  refine TT_iret hK hQ ?_ dX4_numberAt_19
  exact ⟨⟨hT_1, hF_1⟩, x19_4, rfl, (by omega)⟩
set_option maxRecDepth 20000 in
theorem s_X4_inRow_67 (p : Int) (h : Hp_) (hT : TY h) (hp : 11 ≤ p ∧ p ≤ 88) : Ctr yX4_inRow cX4_inRow 2 (some .int) (rmd 0) ly ly 0 0 [vR 67, vI p] h (fun r h' => (TY h' ∧ FR [] h h') ∧ ∃ z : Int, r = some (vI z) ∧ (0 ≤ z ∧ z ≤ 2)) := by
  refine Ctr_of (by decide) (Nat.le_of_ble_eq_true rfl) ⟨Nat.le_refl _, Nat.le_refl _⟩ (fun K hK hQ _ => ?_)
  show TT K ly 0 0 0 [(0, vR 67), (1, vI p)] [] h
  have hF : FR [] h h := FR_rf _ _
  refine TT_aload_n hK rfl 0 rfl dX4_inRow_0 ?_
  refine gf_X4_18 hK (by decide) rfl (q := 70) rfl rfl dX4_inRow_1 ?_
  refine TT_iload_n hK rfl 1 rfl dX4_inRow_4 ?_
  refine TT_iconst hK dX4_inRow_5 ?_
  refine TT_isub hK dX4_inRow_6 ?_
  refine TT_iald hK (o := 70) (n := 100) (by decide) rfl (by first | omega | (simp [up, setR] <;> omega)) (by first | omega | (simp [up, setR] <;> omega)) (v := (h 70) (p - 1)) rfl dX4_inRow_7 ?_
  have r1 := ty_70 (i := p - 1) (v := (h 70) (p - 1)) hT rfl (by omega) (by omega)
  refine TT_iconst hK dX4_inRow_8 ?_
  refine TT_iand hK dX4_inRow_9 ?_
  refine TT_cgI (iand_m ((h 70) (p - 1)) 1 (by decide)) ?_
  show TT K ly 0 0 10 [(0, vR 67), (1, vI p)] (vI (((h 70) (p - 1)) % 2) :: []) h
  refine TT_aload_n hK rfl 0 rfl dX4_inRow_10 ?_
  refine gf_X4_18 hK (by decide) rfl (q := 70) rfl rfl dX4_inRow_11 ?_
  refine TT_iload_n hK rfl 1 rfl dX4_inRow_14 ?_
  refine TT_iconst hK dX4_inRow_15 ?_
  refine TT_iadd hK dX4_inRow_16 ?_
  refine TT_iald hK (o := 70) (n := 100) (by decide) rfl (by first | omega | (simp [up, setR] <;> omega)) (by first | omega | (simp [up, setR] <;> omega)) (v := (h 70) (p + 1)) rfl dX4_inRow_17 ?_
  have r2 := ty_70 (i := p + 1) (v := (h 70) (p + 1)) hT rfl (by omega) (by omega)
  refine TT_iconst hK dX4_inRow_18 ?_
  refine TT_iand hK dX4_inRow_19 ?_
  refine TT_cgI (iand_m ((h 70) (p + 1)) 1 (by decide)) ?_
  show TT K ly 0 0 20 [(0, vR 67), (1, vI p)] (vI (((h 70) (p + 1)) % 2) :: [vI (((h 70) (p - 1)) % 2)]) h
  refine TT_iadd hK dX4_inRow_20 ?_
  refine TT_iret hK hQ ?_ dX4_inRow_21
  exact ⟨⟨hT, hF⟩, ((((h 70) (p - 1)) % 2) + (((h 70) (p + 1)) % 2)), rfl, (by omega)⟩
set_option maxRecDepth 20000 in
theorem s_X4_inColumn_67 (p : Int) (h : Hp_) (hT : TY h) (hp : 11 ≤ p ∧ p ≤ 88) : Ctr yX4_inColumn cX4_inColumn 2 (some .int) (rmd 0) ly ly 0 0 [vR 67, vI p] h (fun r h' => (TY h' ∧ FR [] h h') ∧ ∃ z : Int, r = some (vI z) ∧ (0 ≤ z ∧ z ≤ 2)) := by
  refine Ctr_of (by decide) (Nat.le_of_ble_eq_true rfl) ⟨Nat.le_refl _, Nat.le_refl _⟩ (fun K hK hQ _ => ?_)
  show TT K ly 0 0 0 [(0, vR 67), (1, vI p)] [] h
  have hF : FR [] h h := FR_rf _ _
  refine TT_aload_n hK rfl 0 rfl dX4_inColumn_0 ?_
  refine gf_X4_18 hK (by decide) rfl (q := 70) rfl rfl dX4_inColumn_1 ?_
  refine TT_iload_n hK rfl 1 rfl dX4_inColumn_4 ?_
  refine TT_bipush hK (by decide) dX4_inColumn_5 ?_
  refine TT_isub hK dX4_inColumn_7 ?_
  refine TT_iald hK (o := 70) (n := 100) (by decide) rfl (by first | omega | (simp [up, setR] <;> omega)) (by first | omega | (simp [up, setR] <;> omega)) (v := (h 70) (p - 10)) rfl dX4_inColumn_8 ?_
  have r1 := ty_70 (i := p - 10) (v := (h 70) (p - 10)) hT rfl (by omega) (by omega)
  refine TT_iconst hK dX4_inColumn_9 ?_
  refine TT_iand hK dX4_inColumn_10 ?_
  refine TT_cgI (iand_m ((h 70) (p - 10)) 1 (by decide)) ?_
  show TT K ly 0 0 11 [(0, vR 67), (1, vI p)] (vI (((h 70) (p - 10)) % 2) :: []) h
  refine TT_aload_n hK rfl 0 rfl dX4_inColumn_11 ?_
  refine gf_X4_18 hK (by decide) rfl (q := 70) rfl rfl dX4_inColumn_12 ?_
  refine TT_iload_n hK rfl 1 rfl dX4_inColumn_15 ?_
  refine TT_bipush hK (by decide) dX4_inColumn_16 ?_
  refine TT_iadd hK dX4_inColumn_18 ?_
  refine TT_iald hK (o := 70) (n := 100) (by decide) rfl (by first | omega | (simp [up, setR] <;> omega)) (by first | omega | (simp [up, setR] <;> omega)) (v := (h 70) (p + 10)) rfl dX4_inColumn_19 ?_
  have r2 := ty_70 (i := p + 10) (v := (h 70) (p + 10)) hT rfl (by omega) (by omega)
  refine TT_iconst hK dX4_inColumn_20 ?_
  refine TT_iand hK dX4_inColumn_21 ?_
  refine TT_cgI (iand_m ((h 70) (p + 10)) 1 (by decide)) ?_
  show TT K ly 0 0 22 [(0, vR 67), (1, vI p)] (vI (((h 70) (p + 10)) % 2) :: [vI (((h 70) (p - 10)) % 2)]) h
  refine TT_iadd hK dX4_inColumn_22 ?_
  refine TT_iret hK hQ ?_ dX4_inColumn_23
  exact ⟨⟨hT, hF⟩, ((((h 70) (p - 10)) % 2) + (((h 70) (p + 10)) % 2)), rfl, (by omega)⟩
set_option maxRecDepth 20000 in
theorem s_X4_acrossCorners_67 (p : Int) (h : Hp_) (hT : TY h) (hp : 11 ≤ p ∧ p ≤ 88) : Ctr yX4_acrossCorners cX4_acrossCorners 2 (some .int) (rmd 0) ly ly 0 0 [vR 67, vI p] h (fun r h' => (TY h' ∧ FR [] h h') ∧ ∃ z : Int, r = some (vI z) ∧ (0 ≤ z ∧ z ≤ 4)) := by
  refine Ctr_of (by decide) (Nat.le_of_ble_eq_true rfl) ⟨Nat.le_refl _, Nat.le_refl _⟩ (fun K hK hQ _ => ?_)
  show TT K ly 0 0 0 [(0, vR 67), (1, vI p)] [] h
  have hF : FR [] h h := FR_rf _ _
  refine TT_aload_n hK rfl 0 rfl dX4_acrossCorners_0 ?_
  refine gf_X4_18 hK (by decide) rfl (q := 70) rfl rfl dX4_acrossCorners_1 ?_
  refine TT_iload_n hK rfl 1 rfl dX4_acrossCorners_4 ?_
  refine TT_bipush hK (by decide) dX4_acrossCorners_5 ?_
  refine TT_isub hK dX4_acrossCorners_7 ?_
  refine TT_iconst hK dX4_acrossCorners_8 ?_
  refine TT_isub hK dX4_acrossCorners_9 ?_
  refine TT_iald hK (o := 70) (n := 100) (by decide) rfl (by first | omega | (simp [up, setR] <;> omega)) (by first | omega | (simp [up, setR] <;> omega)) (v := (h 70) ((p - 10) - 1)) rfl dX4_acrossCorners_10 ?_
  have r1 := ty_70 (i := (p - 10) - 1) (v := (h 70) ((p - 10) - 1)) hT rfl (by omega) (by omega)
  refine TT_iconst hK dX4_acrossCorners_11 ?_
  refine TT_iand hK dX4_acrossCorners_12 ?_
  refine TT_cgI (iand_m ((h 70) ((p - 10) - 1)) 1 (by decide)) ?_
  show TT K ly 0 0 13 [(0, vR 67), (1, vI p)] (vI (((h 70) ((p - 10) - 1)) % 2) :: []) h
  refine TT_aload_n hK rfl 0 rfl dX4_acrossCorners_13 ?_
  refine gf_X4_18 hK (by decide) rfl (q := 70) rfl rfl dX4_acrossCorners_14 ?_
  refine TT_iload_n hK rfl 1 rfl dX4_acrossCorners_17 ?_
  refine TT_bipush hK (by decide) dX4_acrossCorners_18 ?_
  refine TT_isub hK dX4_acrossCorners_20 ?_
  refine TT_iconst hK dX4_acrossCorners_21 ?_
  refine TT_iadd hK dX4_acrossCorners_22 ?_
  refine TT_iald hK (o := 70) (n := 100) (by decide) rfl (by first | omega | (simp [up, setR] <;> omega)) (by first | omega | (simp [up, setR] <;> omega)) (v := (h 70) ((p - 10) + 1)) rfl dX4_acrossCorners_23 ?_
  have r2 := ty_70 (i := (p - 10) + 1) (v := (h 70) ((p - 10) + 1)) hT rfl (by omega) (by omega)
  refine TT_iconst hK dX4_acrossCorners_24 ?_
  refine TT_iand hK dX4_acrossCorners_25 ?_
  refine TT_cgI (iand_m ((h 70) ((p - 10) + 1)) 1 (by decide)) ?_
  show TT K ly 0 0 26 [(0, vR 67), (1, vI p)] (vI (((h 70) ((p - 10) + 1)) % 2) :: [vI (((h 70) ((p - 10) - 1)) % 2)]) h
  refine TT_iadd hK dX4_acrossCorners_26 ?_
  refine TT_aload_n hK rfl 0 rfl dX4_acrossCorners_27 ?_
  refine gf_X4_18 hK (by decide) rfl (q := 70) rfl rfl dX4_acrossCorners_28 ?_
  refine TT_iload_n hK rfl 1 rfl dX4_acrossCorners_31 ?_
  refine TT_bipush hK (by decide) dX4_acrossCorners_32 ?_
  refine TT_iadd hK dX4_acrossCorners_34 ?_
  refine TT_iconst hK dX4_acrossCorners_35 ?_
  refine TT_isub hK dX4_acrossCorners_36 ?_
  refine TT_iald hK (o := 70) (n := 100) (by decide) rfl (by first | omega | (simp [up, setR] <;> omega)) (by first | omega | (simp [up, setR] <;> omega)) (v := (h 70) ((p + 10) - 1)) rfl dX4_acrossCorners_37 ?_
  have r3 := ty_70 (i := (p + 10) - 1) (v := (h 70) ((p + 10) - 1)) hT rfl (by omega) (by omega)
  refine TT_iconst hK dX4_acrossCorners_38 ?_
  refine TT_iand hK dX4_acrossCorners_39 ?_
  refine TT_cgI (iand_m ((h 70) ((p + 10) - 1)) 1 (by decide)) ?_
  show TT K ly 0 0 40 [(0, vR 67), (1, vI p)] (vI (((h 70) ((p + 10) - 1)) % 2) :: [vI ((((h 70) ((p - 10) - 1)) % 2) + (((h 70) ((p - 10) + 1)) % 2))]) h
  refine TT_iadd hK dX4_acrossCorners_40 ?_
  refine TT_aload_n hK rfl 0 rfl dX4_acrossCorners_41 ?_
  refine gf_X4_18 hK (by decide) rfl (q := 70) rfl rfl dX4_acrossCorners_42 ?_
  refine TT_iload_n hK rfl 1 rfl dX4_acrossCorners_45 ?_
  refine TT_bipush hK (by decide) dX4_acrossCorners_46 ?_
  refine TT_iadd hK dX4_acrossCorners_48 ?_
  refine TT_iconst hK dX4_acrossCorners_49 ?_
  refine TT_iadd hK dX4_acrossCorners_50 ?_
  refine TT_iald hK (o := 70) (n := 100) (by decide) rfl (by first | omega | (simp [up, setR] <;> omega)) (by first | omega | (simp [up, setR] <;> omega)) (v := (h 70) ((p + 10) + 1)) rfl dX4_acrossCorners_51 ?_
  have r4 := ty_70 (i := (p + 10) + 1) (v := (h 70) ((p + 10) + 1)) hT rfl (by omega) (by omega)
  refine TT_iconst hK dX4_acrossCorners_52 ?_
  refine TT_iand hK dX4_acrossCorners_53 ?_
  refine TT_cgI (iand_m ((h 70) ((p + 10) + 1)) 1 (by decide)) ?_
  show TT K ly 0 0 54 [(0, vR 67), (1, vI p)] (vI (((h 70) ((p + 10) + 1)) % 2) :: [vI (((((h 70) ((p - 10) - 1)) % 2) + (((h 70) ((p - 10) + 1)) % 2)) + (((h 70) ((p + 10) - 1)) % 2))]) h
  refine TT_iadd hK dX4_acrossCorners_54 ?_
  refine TT_iret hK hQ ?_ dX4_acrossCorners_55
  exact ⟨⟨hT, hF⟩, ((((((h 70) ((p - 10) - 1)) % 2) + (((h 70) ((p - 10) + 1)) % 2)) + (((h 70) ((p + 10) - 1)) % 2)) + (((h 70) ((p + 10) + 1)) % 2)), rfl, (by omega)⟩
set_option maxRecDepth 20000 in
theorem s_X4_contextOf_67 (p : Int) (h : Hp_) (hT : TY h) (hp : 11 ≤ p ∧ p ≤ 88) : Ctr yX4_contextOf cX4_contextOf 5 (some .int) (rmd 1) ly ly 0 0 [vR 67, vI p] h (fun r h' => (TY h' ∧ FR [] h h') ∧ ∃ z : Int, r = some (vI z) ∧ (0 ≤ z ∧ z ≤ 8)) := by
  refine Ctr_of (by decide) (Nat.le_of_ble_eq_true rfl) ⟨Nat.le_refl _, Nat.le_refl _⟩ (fun K hK hQ _ => ?_)
  show TT K ly 0 0 0 [(0, vR 67), (1, vI p)] [] h
  have hF : FR [] h h := FR_rf _ _
  refine TT_aload_n hK rfl 0 rfl dX4_contextOf_0 ?_
  refine TT_iload_n hK rfl 1 rfl dX4_contextOf_1 ?_
  refine iv_X4_92 hK (s_X4_inRow_67 p h hT (by first | omega | (simp [up, setR] <;> omega))) (by decide) rfl ⟨by decide, by decide⟩ (by decide) rfl rfl (Nat.le_of_ble_eq_true rfl) ⟨by decide, by decide⟩ dX4_contextOf_2 ?_
  intro r9 g2_1 hp9
  obtain ⟨⟨hT_1, hG_1⟩, z2_1, hr9, hz_1⟩ := hp9
  rw [hr9]
  have hF_1 : FR [] h g2_1 := FR_tr hF hG_1 (by decide)
  show TT K ly 0 0 5 [(0, vR 67), (1, vI p)] [vI z2_1] g2_1
  refine TT_istore_n hK rfl (lv' := [(2, vI z2_1), (0, vR 67), (1, vI p)]) (by decide) rfl dX4_contextOf_5 ?_
  refine TT_aload_n hK rfl 1 rfl dX4_contextOf_6 ?_
  refine TT_iload_n hK rfl 2 rfl dX4_contextOf_7 ?_
  refine iv_X4_95 hK (s_X4_inColumn_67 p g2_1 hT_1 (by first | omega | (simp [up, setR] <;> omega))) (by decide) rfl ⟨by decide, by decide⟩ (by decide) rfl rfl (Nat.le_of_ble_eq_true rfl) ⟨by decide, by decide⟩ dX4_contextOf_8 ?_
  intro r9 g8_2 hp9
  obtain ⟨⟨hT_2, hG_2⟩, z8_2, hr9, hz_2⟩ := hp9
  rw [hr9]
  have hF_2 : FR [] h g8_2 := FR_tr hF_1 hG_2 (by decide)
  show TT K ly 0 0 11 [(2, vI z2_1), (0, vR 67), (1, vI p)] [vI z8_2] g8_2
  refine TT_istore_n hK rfl (lv' := [(3, vI z8_2), (2, vI z2_1), (0, vR 67), (1, vI p)]) (by decide) rfl dX4_contextOf_11 ?_
  refine TT_aload_n hK rfl 2 rfl dX4_contextOf_12 ?_
  refine TT_iload_n hK rfl 3 rfl dX4_contextOf_13 ?_
  refine iv_X4_98 hK (s_X4_acrossCorners_67 p g8_2 hT_2 (by first | omega | (simp [up, setR] <;> omega))) (by decide) rfl ⟨by decide, by decide⟩ (by decide) rfl rfl (Nat.le_of_ble_eq_true rfl) ⟨by decide, by decide⟩ dX4_contextOf_14 ?_
  intro r9 g14_3 hp9
  obtain ⟨⟨hT_3, hG_3⟩, z14_3, hr9, hz_3⟩ := hp9
  rw [hr9]
  have hF_3 : FR [] h g14_3 := FR_tr hF_2 hG_3 (by decide)
  show TT K ly 0 0 17 [(3, vI z8_2), (2, vI z2_1), (0, vR 67), (1, vI p)] [vI z14_3] g14_3
  refine TT_istore hK (lv' := [(4, vI z14_3), (3, vI z8_2), (2, vI z2_1), (0, vR 67), (1, vI p)]) (by decide) rfl dX4_contextOf_17 ?_
  refine TT_aload_n hK rfl 3 rfl dX4_contextOf_19 ?_
  refine gf_X4_39 hK (by decide) rfl (v := (h 67) 8) (rd_ (((hG_3 67 (by decide))).trans (((hG_2 67 (by decide))).trans (hG_1 67 (by decide)))) rfl) dX4_contextOf_20 ?_
  have r4 := ty_67_8 (v := (h 67) 8) hT_3 (rd_ (((hG_3 67 (by decide))).trans (((hG_2 67 (by decide))).trans (hG_1 67 (by decide)))) rfl)
  refine TT_iconst hK dX4_contextOf_23 ?_
  refine TT_icmp_ne hK (tgt := 36) (irm (by omega) (by omega)) (by decide) dX4_contextOf_24 (by decide) (fun hb24_5 => ?_) (fun hb24_5 => ?_)
  · refine TT_aload_n hK rfl 3 rfl dX4_contextOf_36 ?_
    refine gf_X4_39 hK (by decide) rfl (v := (h 67) 8) (rd_ (((hG_3 67 (by decide))).trans (((hG_2 67 (by decide))).trans (hG_1 67 (by decide)))) rfl) dX4_contextOf_37 ?_
    refine TT_iconst hK dX4_contextOf_40 ?_
    refine TT_icmp_ne hK (tgt := 54) (irm (by omega) (by omega)) (by decide) dX4_contextOf_41 (by decide) (fun hb41_6 => ?_) (fun hb41_6 => ?_)
    · refine TT_iload_n hK rfl 2 rfl dX4_contextOf_54 ?_
      refine TT_iload_n hK rfl 1 rfl dX4_contextOf_55 ?_
      refine TT_iload hK 0 rfl dX4_contextOf_56 ?_
      refine iv_X4_122 hK (s_X4_rowFirst z2_1 z8_2 z14_3 g14_3 hT_3 (by first | omega | (simp [up, setR] <;> omega)) (by first | omega | (simp [up, setR] <;> omega)) (by first | omega | (simp [up, setR] <;> omega))) ⟨by decide, by decide⟩ (by decide) rfl rfl (Nat.le_of_ble_eq_true rfl) ⟨by decide, by decide⟩ dX4_contextOf_58 ?_
      intro r9 g58_7 hp9
      obtain ⟨⟨hT_7, hG_7⟩, z58_7, hr9, hz_7⟩ := hp9
      rw [hr9]
      have hF_7 : FR [] h g58_7 := FR_tr hF_3 hG_7 (by decide)
      show TT K ly 0 0 61 [(4, vI z14_3), (3, vI z8_2), (2, vI z2_1), (0, vR 67), (1, vI p)] [vI z58_7] g58_7
      refine TT_iret hK hQ ?_ dX4_contextOf_61
      exact ⟨⟨hT_7, hF_7⟩, z58_7, rfl, (by omega)⟩
    · refine TT_iload_n hK rfl 1 rfl dX4_contextOf_44 ?_
      refine TT_iload_n hK rfl 2 rfl dX4_contextOf_45 ?_
      refine TT_iload hK 0 rfl dX4_contextOf_46 ?_
      refine iv_X4_122 hK (s_X4_rowFirst z8_2 z2_1 z14_3 g14_3 hT_3 (by first | omega | (simp [up, setR] <;> omega)) (by first | omega | (simp [up, setR] <;> omega)) (by first | omega | (simp [up, setR] <;> omega))) ⟨by decide, by decide⟩ (by decide) rfl rfl (Nat.le_of_ble_eq_true rfl) ⟨by decide, by decide⟩ dX4_contextOf_48 ?_
      intro r9 g48_8 hp9
      obtain ⟨⟨hT_8, hG_8⟩, z48_8, hr9, hz_8⟩ := hp9
      rw [hr9]
      have hF_8 : FR [] h g48_8 := FR_tr hF_3 hG_8 (by decide)
      show TT K ly 0 0 51 [(4, vI z14_3), (3, vI z8_2), (2, vI z2_1), (0, vR 67), (1, vI p)] [vI z48_8] g48_8
      refine TT_goto hK (tgt := 61) dX4_contextOf_51 (by decide) ?_
      refine TT_iret hK hQ ?_ dX4_contextOf_61
      exact ⟨⟨hT_8, hF_8⟩, z48_8, rfl, (by omega)⟩
  · refine TT_iload_n hK rfl 2 rfl dX4_contextOf_27 ?_
    refine TT_iload_n hK rfl 1 rfl dX4_contextOf_28 ?_
    refine TT_iadd hK dX4_contextOf_29 ?_
    refine TT_iload hK 0 rfl dX4_contextOf_30 ?_
    refine iv_X4_119 hK (s_X4_cornersFirst (z2_1 + z8_2) z14_3 g14_3 hT_3 (by first | omega | (simp [up, setR] <;> omega)) (by first | omega | (simp [up, setR] <;> omega))) ⟨by decide, by decide⟩ (by decide) rfl rfl (Nat.le_of_ble_eq_true rfl) ⟨by decide, by decide⟩ dX4_contextOf_32 ?_
    intro r9 g32_9 hp9
    obtain ⟨⟨hT_9, hG_9⟩, z32_9, hr9, hz_9⟩ := hp9
    rw [hr9]
    have hF_9 : FR [] h g32_9 := FR_tr hF_3 hG_9 (by decide)
    show TT K ly 0 0 35 [(4, vI z14_3), (3, vI z8_2), (2, vI z2_1), (0, vR 67), (1, vI p)] [vI z32_9] g32_9
    refine TT_iret hK hQ ?_ dX4_contextOf_35
    exact ⟨⟨hT_9, hF_9⟩, z32_9, rfl, (by omega)⟩
set_option maxRecDepth 20000 in
theorem s_X4_meantBit_67 (p : Int) (h : Hp_) (hT : TY h) (hp : 11 ≤ p ∧ p ≤ 88) : Ctr yX4_meantBit cX4_meantBit 2 (some .int) (rmd 1) ly ly 0 0 [vR 67, vI p] h (fun r h' => (TY h' ∧ FR [] h h') ∧ ∃ z : Int, r = some (vI z) ∧ (0 ≤ z ∧ z ≤ 1)) := by
  refine Ctr_of (by decide) (Nat.le_of_ble_eq_true rfl) ⟨Nat.le_refl _, Nat.le_refl _⟩ (fun K hK hQ _ => ?_)
  show TT K ly 0 0 0 [(0, vR 67), (1, vI p)] [] h
  have hF : FR [] h h := FR_rf _ _
  refine TT_aload_n hK rfl 0 rfl dX4_meantBit_0 ?_
  refine gf_X4_11 hK (by decide) rfl (q := 68) rfl rfl dX4_meantBit_1 ?_
  refine TT_iload_n hK rfl 1 rfl dX4_meantBit_4 ?_
  refine TT_iald hK (o := 68) (n := 100) (by decide) rfl (by first | omega | (simp [up, setR] <;> omega)) (by first | omega | (simp [up, setR] <;> omega)) (v := (h 68) p) rfl dX4_meantBit_5 ?_
  have r1 := ty_68 (i := p) (v := (h 68) p) hT rfl (by omega) (by omega)
  refine TT_mabs hK (irm (by omega) (by omega)) iw_X4_114 (by decide) (Nat.le_of_ble_eq_true rfl) ⟨by decide, by decide⟩ dX4_meantBit_6 ?_
  refine TT_w32 (fun x9_2 hx2 => ?_)
  refine TT_aload_n hK rfl 0 rfl dX4_meantBit_9 ?_
  refine gf_X4_55 hK (by decide) rfl (v := (h 67) 9) rfl dX4_meantBit_10 ?_
  have r3 := ty_67_9 (v := (h 67) 9) hT rfl
  refine TT_ishr_a hK dX4_meantBit_13 (fun x13_4 hx4 => ?_)
  refine TT_iconst hK dX4_meantBit_14 ?_
  refine TT_iand hK dX4_meantBit_15 ?_
  refine TT_cgI (iand_m x13_4 1 (by decide)) ?_
  show TT K ly 0 0 16 [(0, vR 67), (1, vI p)] (vI (x13_4 % 2) :: []) h
  refine TT_iret hK hQ ?_ dX4_meantBit_16
  exact ⟨⟨hT, hF⟩, (x13_4 % 2), rfl, (by omega)⟩
set_option maxRecDepth 20000 in
theorem s_X4_firstRefiningContext_67 (p : Int) (h : Hp_) (hT : TY h) (hp : 11 ≤ p ∧ p ≤ 88) : Ctr yX4_firstRefiningContext cX4_firstRefiningContext 3 (some .int) (rmd 1) ly ly 0 0 [vR 67, vI p] h (fun r h' => (TY h' ∧ FR [] h h') ∧ ∃ z : Int, r = some (vI z) ∧ (14 ≤ z ∧ z ≤ 15)) := by
  refine Ctr_of (by decide) (Nat.le_of_ble_eq_true rfl) ⟨Nat.le_refl _, Nat.le_refl _⟩ (fun K hK hQ _ => ?_)
  show TT K ly 0 0 0 [(0, vR 67), (1, vI p)] [] h
  have hF : FR [] h h := FR_rf _ _
  refine TT_aload_n hK rfl 0 rfl dX4_firstRefiningContext_0 ?_
  refine TT_iload_n hK rfl 1 rfl dX4_firstRefiningContext_1 ?_
  refine iv_X4_92 hK (s_X4_inRow_67 p h hT (by first | omega | (simp [up, setR] <;> omega))) (by decide) rfl ⟨by decide, by decide⟩ (by decide) rfl rfl (Nat.le_of_ble_eq_true rfl) ⟨by decide, by decide⟩ dX4_firstRefiningContext_2 ?_
  intro r9 g2_1 hp9
  obtain ⟨⟨hT_1, hG_1⟩, z2_1, hr9, hz_1⟩ := hp9
  rw [hr9]
  have hF_1 : FR [] h g2_1 := FR_tr hF hG_1 (by decide)
  show TT K ly 0 0 5 [(0, vR 67), (1, vI p)] [vI z2_1] g2_1
  refine TT_aload_n hK rfl 0 rfl dX4_firstRefiningContext_5 ?_
  refine TT_iload_n hK rfl 1 rfl dX4_firstRefiningContext_6 ?_
  refine iv_X4_95 hK (s_X4_inColumn_67 p g2_1 hT_1 (by first | omega | (simp [up, setR] <;> omega))) (by decide) rfl ⟨by decide, by decide⟩ (by decide) rfl rfl (Nat.le_of_ble_eq_true rfl) ⟨by decide, by decide⟩ dX4_firstRefiningContext_7 ?_
  intro r9 g7_2 hp9
  obtain ⟨⟨hT_2, hG_2⟩, z7_2, hr9, hz_2⟩ := hp9
  rw [hr9]
  have hF_2 : FR [] h g7_2 := FR_tr hF_1 hG_2 (by decide)
  show TT K ly 0 0 10 [(0, vR 67), (1, vI p)] [vI z7_2, vI z2_1] g7_2
  refine TT_iadd hK dX4_firstRefiningContext_10 ?_
  refine TT_aload_n hK rfl 0 rfl dX4_firstRefiningContext_11 ?_
  refine TT_iload_n hK rfl 1 rfl dX4_firstRefiningContext_12 ?_
  refine iv_X4_98 hK (s_X4_acrossCorners_67 p g7_2 hT_2 (by first | omega | (simp [up, setR] <;> omega))) (by decide) rfl ⟨by decide, by decide⟩ (by decide) rfl rfl (Nat.le_of_ble_eq_true rfl) ⟨by decide, by decide⟩ dX4_firstRefiningContext_13 ?_
  intro r9 g13_3 hp9
  obtain ⟨⟨hT_3, hG_3⟩, z13_3, hr9, hz_3⟩ := hp9
  rw [hr9]
  have hF_3 : FR [] h g13_3 := FR_tr hF_2 hG_3 (by decide)
  show TT K ly 0 0 16 [(0, vR 67), (1, vI p)] [vI z13_3, vI (z2_1 + z7_2)] g13_3
  refine TT_iadd hK dX4_firstRefiningContext_16 ?_
  refine TT_if_ne hK (tgt := 24) (irm (by omega) (by omega)) dX4_firstRefiningContext_17 (by decide) (fun hb17_4 => ?_) (fun hb17_4 => ?_)
  · refine TT_iconst hK dX4_firstRefiningContext_24 ?_
    refine TT_istore_n hK rfl (lv' := [(2, vI 0), (0, vR 67), (1, vI p)]) (by decide) rfl dX4_firstRefiningContext_25 ?_
    refine TT_iload_n hK rfl 0 rfl dX4_firstRefiningContext_26 ?_
    refine TT_if_eq hK (tgt := 35) (by decide) dX4_firstRefiningContext_27 (by decide) (fun hb27_5 => ?_) (fun hb27_5 => ?_)
    · refine TT_bipush hK (by decide) dX4_firstRefiningContext_35 ?_
      refine TT_iret hK hQ ?_ dX4_firstRefiningContext_37
      exact ⟨⟨hT_3, hF_3⟩, 15, rfl, (by omega)⟩
    · exact absurd hb27_5 (by decide)
  · refine TT_iconst hK dX4_firstRefiningContext_20 ?_
    refine TT_goto hK (tgt := 25) dX4_firstRefiningContext_21 (by decide) ?_
    refine TT_istore_n hK rfl (lv' := [(2, vI 1), (0, vR 67), (1, vI p)]) (by decide) rfl dX4_firstRefiningContext_25 ?_
    refine TT_iload_n hK rfl 0 rfl dX4_firstRefiningContext_26 ?_
    refine TT_if_eq hK (tgt := 35) (by decide) dX4_firstRefiningContext_27 (by decide) (fun hb27_6 => ?_) (fun hb27_6 => ?_)
    · exact absurd hb27_6 (by decide)
    · refine TT_bipush hK (by decide) dX4_firstRefiningContext_30 ?_
      refine TT_goto hK (tgt := 37) dX4_firstRefiningContext_32 (by decide) ?_
      refine TT_iret hK hQ ?_ dX4_firstRefiningContext_37
      exact ⟨⟨hT_3, hF_3⟩, 14, rfl, (by omega)⟩
set_option maxRecDepth 20000 in
theorem s_X4_wake_67 (p : Int) (h : Hp_) (hT : TY h) (hp : 11 ≤ p ∧ p ≤ 88) : Ctr yX4_wake cX4_wake 7 none (rmd 2) ly ly 0 0 [vR 67, vI p] h (fun r h' => (TY h' ∧ FR [62, 64, 65, 69, 70] h h') ∧ r = none) := by
  refine Ctr_of (by decide) (Nat.le_of_ble_eq_true rfl) ⟨Nat.le_refl _, Nat.le_refl _⟩ (fun K hK hQ _ => ?_)
  show TT K ly 0 0 0 [(0, vR 67), (1, vI p)] [] h
  have hF : FR [62, 64, 65, 69, 70] h h := FR_rf _ _
  refine TT_aload_n hK rfl 0 rfl dX4_wake_0 ?_
  refine gf_X4_18 hK (by decide) rfl (q := 70) rfl rfl dX4_wake_1 ?_
  refine TT_iload_n hK rfl 1 rfl dX4_wake_4 ?_
  refine TT_iconst hK dX4_wake_5 ?_
  refine TT_isub hK dX4_wake_6 ?_
  refine TT_iald hK (o := 70) (n := 100) (by decide) rfl (by first | omega | (simp [up, setR] <;> omega)) (by first | omega | (simp [up, setR] <;> omega)) (v := (h 70) (p - 1)) rfl dX4_wake_7 ?_
  have r1 := ty_70 (i := p - 1) (v := (h 70) (p - 1)) hT rfl (by omega) (by omega)
  refine TT_aload_n hK rfl 0 rfl dX4_wake_8 ?_
  refine gf_X4_18 hK (by decide) rfl (q := 70) rfl rfl dX4_wake_9 ?_
  refine TT_iload_n hK rfl 1 rfl dX4_wake_12 ?_
  refine TT_iconst hK dX4_wake_13 ?_
  refine TT_iadd hK dX4_wake_14 ?_
  refine TT_iald hK (o := 70) (n := 100) (by decide) rfl (by first | omega | (simp [up, setR] <;> omega)) (by first | omega | (simp [up, setR] <;> omega)) (v := (h 70) (p + 1)) rfl dX4_wake_15 ?_
  have r2 := ty_70 (i := p + 1) (v := (h 70) (p + 1)) hT rfl (by omega) (by omega)
  refine TT_iadd hK dX4_wake_16 ?_
  refine iv_X4_108 hK (s_X4_cut (((h 70) (p - 1)) + ((h 70) (p + 1))) h hT (by first | omega | (simp [up, setR] <;> omega))) ⟨by decide, by decide⟩ (by decide) rfl rfl (Nat.le_of_ble_eq_true rfl) ⟨by decide, by decide⟩ dX4_wake_17 ?_
  intro r9 g17_3 hp9
  obtain ⟨⟨hT_3, hG_3⟩, z17_3, hr9, hz_3⟩ := hp9
  rw [hr9]
  have hF_3 : FR [62, 64, 65, 69, 70] h g17_3 := FR_tr hF hG_3 (by decide)
  show TT K ly 0 0 20 [(0, vR 67), (1, vI p)] [vI z17_3] g17_3
  refine TT_istore_n hK rfl (lv' := [(2, vI z17_3), (0, vR 67), (1, vI p)]) (by decide) rfl dX4_wake_20 ?_
  refine TT_aload_n hK rfl 1 rfl dX4_wake_21 ?_
  refine gf_X4_18 hK (by decide) rfl (q := 70) rfl rfl dX4_wake_22 ?_
  refine TT_iload_n hK rfl 2 rfl dX4_wake_25 ?_
  refine TT_bipush hK (by decide) dX4_wake_26 ?_
  refine TT_isub hK dX4_wake_28 ?_
  refine TT_iald hK (o := 70) (n := 100) (by decide) rfl (by first | omega | (simp [up, setR] <;> omega)) (by first | omega | (simp [up, setR] <;> omega)) (v := (h 70) (p - 10)) (rd_ (hG_3 70 (by decide)) rfl) dX4_wake_29 ?_
  have r4 := ty_70 (i := p - 10) (v := (h 70) (p - 10)) hT_3 (rd_ (hG_3 70 (by decide)) rfl) (by omega) (by omega)
  refine TT_aload_n hK rfl 1 rfl dX4_wake_30 ?_
  refine gf_X4_18 hK (by decide) rfl (q := 70) rfl rfl dX4_wake_31 ?_
  refine TT_iload_n hK rfl 2 rfl dX4_wake_34 ?_
  refine TT_bipush hK (by decide) dX4_wake_35 ?_
  refine TT_iadd hK dX4_wake_37 ?_
  refine TT_iald hK (o := 70) (n := 100) (by decide) rfl (by first | omega | (simp [up, setR] <;> omega)) (by first | omega | (simp [up, setR] <;> omega)) (v := (h 70) (p + 10)) (rd_ (hG_3 70 (by decide)) rfl) dX4_wake_38 ?_
  have r5 := ty_70 (i := p + 10) (v := (h 70) (p + 10)) hT_3 (rd_ (hG_3 70 (by decide)) rfl) (by omega) (by omega)
  refine TT_iadd hK dX4_wake_39 ?_
  refine iv_X4_108 hK (s_X4_cut (((h 70) (p - 10)) + ((h 70) (p + 10))) g17_3 hT_3 (by first | omega | (simp [up, setR] <;> omega))) ⟨by decide, by decide⟩ (by decide) rfl rfl (Nat.le_of_ble_eq_true rfl) ⟨by decide, by decide⟩ dX4_wake_40 ?_
  intro r9 g40_6 hp9
  obtain ⟨⟨hT_6, hG_6⟩, z40_6, hr9, hz_6⟩ := hp9
  rw [hr9]
  have hF_6 : FR [62, 64, 65, 69, 70] h g40_6 := FR_tr hF_3 hG_6 (by decide)
  show TT K ly 0 0 43 [(2, vI z17_3), (0, vR 67), (1, vI p)] [vI z40_6] g40_6
  refine TT_istore_n hK rfl (lv' := [(3, vI z40_6), (2, vI z17_3), (0, vR 67), (1, vI p)]) (by decide) rfl dX4_wake_43 ?_
  have J75_7 : ∀ (a : Int) (b : Int) (t : Int) (w75_7 : Hp_), TY w75_7 → FR [62, 64, 65, 69, 70] h w75_7 → (-1 ≤ a ∧ a ≤ 1) → (-1 ≤ b ∧ b ≤ 1) → (0 ≤ t ∧ t ≤ 1) → TT K ly 0 0 75 [(0, vR 67), (1, vI p), (2, vI a), (3, vI b), (4, vI t)] [] w75_7 := by
    intro a b t w75_7 hT75_7 hF75_7 ha hb ht
    have J91_8 : ∀ (sg : Int) (w91_8 : Hp_), TY w91_8 → FR [62, 64, 65, 69, 70] h w91_8 → (0 ≤ sg ∧ sg ≤ 1) → TT K ly 0 0 91 [(0, vR 67), (1, vI p), (2, vI a), (3, vI b), (4, vI t), (5, vI sg)] [] w91_8 := by
      intro sg w91_8 hT91_8 hF91_8 hsg
      refine TT_aload_n hK rfl 0 rfl dX4_wake_91 ?_
      refine gf_X4_28 hK (by decide) rfl (q := 62) rfl rfl dX4_wake_92 ?_
      refine TT_bipush hK (by decide) dX4_wake_95 ?_
      refine TT_iconst hK dX4_wake_97 ?_
      refine TT_iload_n hK rfl 2 rfl dX4_wake_98 ?_
      refine TT_imul hK dX4_wake_99 ?_
      refine TT_iadd hK dX4_wake_100 ?_
      refine TT_iload_n hK rfl 3 rfl dX4_wake_101 ?_
      refine TT_iadd hK dX4_wake_102 ?_
      refine TT_iload hK 5 rfl dX4_wake_103 ?_
      refine TT_iload hK 4 rfl dX4_wake_105 ?_
      refine TT_ixor hK dX4_wake_107 ?_
      have hx9 : 0 ≤ ixor_ sg t ∧ ixor_ sg t ≤ 1 := by rw [ixor_01 hsg ht]; split <;> omega
      refine iv_X4_80_X6 hK (s_X6_tellBit_62 ((9 + (3 * a)) + b) (ixor_ sg t) w91_8 hT91_8 (by first | omega | (simp [up, setR] <;> omega)) (by first | omega | (simp [up, setR] <;> omega))) (by decide) rfl ⟨by decide, by decide⟩ (by decide) rfl rfl (Nat.le_of_ble_eq_true rfl) ⟨by decide, by decide⟩ dX4_wake_108 ?_
      intro r9 g108_9 hp9
      obtain ⟨⟨hT_9, hG_9⟩, z108_9, hr9, hz_9⟩ := hp9
      rw [hr9]
      have hF_9 : FR [62, 64, 65, 69, 70] h g108_9 := FR_tr hF91_8 hG_9 (by decide)
      show TT K ly 0 0 113 [(0, vR 67), (1, vI p), (2, vI a), (3, vI b), (4, vI t), (5, vI sg)] [vI z108_9] g108_9
      refine TT_iload hK 4 rfl dX4_wake_113 ?_
      refine TT_ixor hK dX4_wake_115 ?_
      refine TT_nmI (fun got hgot => ?_)
      refine TT_istore hK (lv' := [(6, vI got), (0, vR 67), (1, vI p), (2, vI a), (3, vI b), (4, vI t), (5, vI sg)]) (by decide) rfl dX4_wake_116 ?_
      have hg9 : 0 ≤ got ∧ got ≤ 1 := by rw [hgot, ixor_01 (by omega) ht]; split <;> omega
      refine TT_aload_n hK rfl 1 rfl dX4_wake_118 ?_
      refine gf_X4_18 hK (by decide) rfl (q := 70) rfl rfl dX4_wake_119 ?_
      refine TT_iload_n hK rfl 2 rfl dX4_wake_122 ?_
      refine TT_iload hK 0 rfl dX4_wake_123 ?_
      refine TT_iconst hK dX4_wake_125 ?_
      refine TT_icmp_ne hK (tgt := 133) (irm (by omega) (by omega)) (by decide) dX4_wake_126 (by decide) (fun hb126_10 => ?_) (fun hb126_10 => ?_)
      · refine TT_iconst hK dX4_wake_133 ?_
        refine TT_iast hK (o := 70) (n := 100) (by decide) rfl (by omega) (by omega) dX4_wake_134 ?_
        refine TT_hp (h' := setO g108_9 70 (fup (w91_8 70) p 1)) (up_can (hG_9 70 (by decide)) rfl rfl) ?_
        have hT_11 : TY (setO g108_9 70 (fup (w91_8 70) p 1)) := tu_70 hT_9 (show up g108_9 70 p 1 = (setO g108_9 70 (fup (w91_8 70) p 1)) from up_can (hG_9 70 (by decide)) rfl rfl) (by omega)
        have hF_11 : FR [62, 64, 65, 69, 70] h (setO g108_9 70 (fup (w91_8 70) p 1)) := FR_up (show up g108_9 70 p 1 = (setO g108_9 70 (fup (w91_8 70) p 1)) from up_can (hG_9 70 (by decide)) rfl rfl) hF_9 (by decide)
        refine TT_aload_n hK rfl 1 rfl dX4_wake_135 ?_
        refine gf_X4_15 hK (by decide) rfl (q := 69) rfl rfl dX4_wake_136 ?_
        refine TT_iload_n hK rfl 2 rfl dX4_wake_139 ?_
        refine TT_dup2 hK rfl rfl dX4_wake_140 ?_
        refine TT_iald hK (o := 69) (n := 100) (by decide) rfl (by first | omega | (simp [up, setR] <;> omega)) (by first | omega | (simp [up, setR] <;> omega)) (v := (w91_8 69) p) (rd_ ((sOf_ne _ _ (by decide)).trans (hG_9 69 (by decide))) rfl) dX4_wake_141 ?_
        have r12 := ty_69 (i := p) (v := (w91_8 69) p) hT_11 (rd_ ((sOf_ne _ _ (by decide)).trans (hG_9 69 (by decide))) rfl) (by omega) (by omega)
        refine TT_iconst hK dX4_wake_142 ?_
        refine TT_aload_n hK rfl 1 rfl dX4_wake_143 ?_
        refine gf_X4_55 hK (by decide) rfl (v := (h 67) 9) (rd_ ((sOf_ne _ _ (by decide)).trans (((hG_9 67 (by decide))).trans (hF91_8 67 (by decide)))) rfl) dX4_wake_144 ?_
        have r13 := ty_67_9 (v := (h 67) 9) hT_11 (rd_ ((sOf_ne _ _ (by decide)).trans (((hG_9 67 (by decide))).trans (hF91_8 67 (by decide)))) rfl)
        refine TT_ishl_a hK dX4_wake_147 (fun x147_14 hx14 => ?_)
        refine TT_ior hK dX4_wake_148 ?_
        refine TT_w32 (fun x149_15 hx15 => ?_)
        refine TT_iast hK (o := 69) (n := 100) (by decide) rfl (by omega) (by omega) dX4_wake_149 ?_
        refine TT_hp (h' := setO (setO g108_9 69 (fup (w91_8 69) p x149_15)) 70 (fup (w91_8 70) p 1)) (up_can ((sOf_ne _ _ (by decide)).trans (hG_9 69 (by decide))) rfl ((setO_comm _ _ _ (by decide)).trans (setO_cg rfl rfl))) ?_
        have hT_16 : TY (setO (setO g108_9 69 (fup (w91_8 69) p x149_15)) 70 (fup (w91_8 70) p 1)) := tu_69 hT_11 (show up (setO g108_9 70 (fup (w91_8 70) p 1)) 69 p x149_15 = (setO (setO g108_9 69 (fup (w91_8 69) p x149_15)) 70 (fup (w91_8 70) p 1)) from up_can ((sOf_ne _ _ (by decide)).trans (hG_9 69 (by decide))) rfl ((setO_comm _ _ _ (by decide)).trans (setO_cg rfl rfl))) (by omega)
        have hF_16 : FR [62, 64, 65, 69, 70] h (setO (setO g108_9 69 (fup (w91_8 69) p x149_15)) 70 (fup (w91_8 70) p 1)) := FR_up (show up (setO g108_9 70 (fup (w91_8 70) p 1)) 69 p x149_15 = (setO (setO g108_9 69 (fup (w91_8 69) p x149_15)) 70 (fup (w91_8 70) p 1)) from up_can ((sOf_ne _ _ (by decide)).trans (hG_9 69 (by decide))) rfl ((setO_comm _ _ _ (by decide)).trans (setO_cg rfl rfl))) hF_11 (by decide)
        refine TT_vret hK hQ ?_ dX4_wake_150
        exact ⟨⟨hT_16, hF_16⟩, rfl⟩
      · refine TT_iconst hK dX4_wake_129 ?_
        refine TT_goto hK (tgt := 134) dX4_wake_130 (by decide) ?_
        refine TT_iast hK (o := 70) (n := 100) (by decide) rfl (by omega) (by omega) dX4_wake_134 ?_
        refine TT_hp (h' := setO g108_9 70 (fup (w91_8 70) p (-1))) (up_can (hG_9 70 (by decide)) rfl rfl) ?_
        have hT_17 : TY (setO g108_9 70 (fup (w91_8 70) p (-1))) := tu_70 hT_9 (show up g108_9 70 p (-1) = (setO g108_9 70 (fup (w91_8 70) p (-1))) from up_can (hG_9 70 (by decide)) rfl rfl) (by omega)
        have hF_17 : FR [62, 64, 65, 69, 70] h (setO g108_9 70 (fup (w91_8 70) p (-1))) := FR_up (show up g108_9 70 p (-1) = (setO g108_9 70 (fup (w91_8 70) p (-1))) from up_can (hG_9 70 (by decide)) rfl rfl) hF_9 (by decide)
        refine TT_aload_n hK rfl 1 rfl dX4_wake_135 ?_
        refine gf_X4_15 hK (by decide) rfl (q := 69) rfl rfl dX4_wake_136 ?_
        refine TT_iload_n hK rfl 2 rfl dX4_wake_139 ?_
        refine TT_dup2 hK rfl rfl dX4_wake_140 ?_
        refine TT_iald hK (o := 69) (n := 100) (by decide) rfl (by first | omega | (simp [up, setR] <;> omega)) (by first | omega | (simp [up, setR] <;> omega)) (v := (w91_8 69) p) (rd_ ((sOf_ne _ _ (by decide)).trans (hG_9 69 (by decide))) rfl) dX4_wake_141 ?_
        have r18 := ty_69 (i := p) (v := (w91_8 69) p) hT_17 (rd_ ((sOf_ne _ _ (by decide)).trans (hG_9 69 (by decide))) rfl) (by omega) (by omega)
        refine TT_iconst hK dX4_wake_142 ?_
        refine TT_aload_n hK rfl 1 rfl dX4_wake_143 ?_
        refine gf_X4_55 hK (by decide) rfl (v := (h 67) 9) (rd_ ((sOf_ne _ _ (by decide)).trans (((hG_9 67 (by decide))).trans (hF91_8 67 (by decide)))) rfl) dX4_wake_144 ?_
        have r19 := ty_67_9 (v := (h 67) 9) hT_17 (rd_ ((sOf_ne _ _ (by decide)).trans (((hG_9 67 (by decide))).trans (hF91_8 67 (by decide)))) rfl)
        refine TT_ishl_a hK dX4_wake_147 (fun x147_20 hx20 => ?_)
        refine TT_ior hK dX4_wake_148 ?_
        refine TT_w32 (fun x149_21 hx21 => ?_)
        refine TT_iast hK (o := 69) (n := 100) (by decide) rfl (by omega) (by omega) dX4_wake_149 ?_
        refine TT_hp (h' := setO (setO g108_9 69 (fup (w91_8 69) p x149_21)) 70 (fup (w91_8 70) p (-1))) (up_can ((sOf_ne _ _ (by decide)).trans (hG_9 69 (by decide))) rfl ((setO_comm _ _ _ (by decide)).trans (setO_cg rfl rfl))) ?_
        have hT_22 : TY (setO (setO g108_9 69 (fup (w91_8 69) p x149_21)) 70 (fup (w91_8 70) p (-1))) := tu_69 hT_17 (show up (setO g108_9 70 (fup (w91_8 70) p (-1))) 69 p x149_21 = (setO (setO g108_9 69 (fup (w91_8 69) p x149_21)) 70 (fup (w91_8 70) p (-1))) from up_can ((sOf_ne _ _ (by decide)).trans (hG_9 69 (by decide))) rfl ((setO_comm _ _ _ (by decide)).trans (setO_cg rfl rfl))) (by omega)
        have hF_22 : FR [62, 64, 65, 69, 70] h (setO (setO g108_9 69 (fup (w91_8 69) p x149_21)) 70 (fup (w91_8 70) p (-1))) := FR_up (show up (setO g108_9 70 (fup (w91_8 70) p (-1))) 69 p x149_21 = (setO (setO g108_9 69 (fup (w91_8 69) p x149_21)) 70 (fup (w91_8 70) p (-1))) from up_can ((sOf_ne _ _ (by decide)).trans (hG_9 69 (by decide))) rfl ((setO_comm _ _ _ (by decide)).trans (setO_cg rfl rfl))) hF_17 (by decide)
        refine TT_vret hK hQ ?_ dX4_wake_150
        exact ⟨⟨hT_22, hF_22⟩, rfl⟩
    refine TT_aload_n hK rfl 0 rfl dX4_wake_75 ?_
    refine gf_X4_11 hK (by decide) rfl (q := 68) rfl rfl dX4_wake_76 ?_
    refine TT_iload_n hK rfl 1 rfl dX4_wake_79 ?_
    refine TT_iald hK (o := 68) (n := 100) (by decide) rfl (by first | omega | (simp [up, setR] <;> omega)) (by first | omega | (simp [up, setR] <;> omega)) (v := (h 68) p) (rd_ (hF75_7 68 (by decide)) rfl) dX4_wake_80 ?_
    have r23 := ty_68 (i := p) (v := (h 68) p) hT75_7 (rd_ (hF75_7 68 (by decide)) rfl) (by omega) (by omega)
    refine TT_if_ge hK (tgt := 88) (irm (by omega) (by omega)) dX4_wake_81 (by decide) (fun hb81_24 => ?_) (fun hb81_24 => ?_)
    · refine TT_iconst hK dX4_wake_88 ?_
      refine TT_istore hK (lv' := [(5, vI 0), (0, vR 67), (1, vI p), (2, vI a), (3, vI b), (4, vI t)]) (by decide) rfl dX4_wake_89 ?_
      refine TT_sub [1, 2, 3, 4, 5, 0] rfl ?_
      exact J91_8 0 w75_7 hT75_7 hF75_7 (by first | omega | (simp [up, setR] <;> omega))
    · refine TT_iconst hK dX4_wake_84 ?_
      refine TT_goto hK (tgt := 89) dX4_wake_85 (by decide) ?_
      refine TT_istore hK (lv' := [(5, vI 1), (0, vR 67), (1, vI p), (2, vI a), (3, vI b), (4, vI t)]) (by decide) rfl dX4_wake_89 ?_
      refine TT_sub [1, 2, 3, 4, 5, 0] rfl ?_
      exact J91_8 1 w75_7 hT75_7 hF75_7 (by first | omega | (simp [up, setR] <;> omega))
  refine TT_iload_n hK rfl 1 rfl dX4_wake_44 ?_
  refine TT_if_lt hK (tgt := 56) (irm (by omega) (by omega)) dX4_wake_45 (by decide) (fun hb45_25 => ?_) (fun hb45_25 => ?_)
  · refine TT_iconst hK dX4_wake_56 ?_
    refine TT_goto hK (tgt := 61) dX4_wake_57 (by decide) ?_
    refine TT_istore hK (lv' := [(4, vI 1), (3, vI z40_6), (2, vI z17_3), (0, vR 67), (1, vI p)]) (by decide) rfl dX4_wake_61 ?_
    refine TT_iload hK 0 rfl dX4_wake_63 ?_
    refine TT_iconst hK dX4_wake_65 ?_
    refine TT_icmp_ne hK (tgt := 75) (by decide) (by decide) dX4_wake_66 (by decide) (fun hb66_26 => ?_) (fun hb66_26 => ?_)
    · exact absurd hb66_26 (by decide)
    · refine TT_iload_n hK rfl 2 rfl dX4_wake_69 ?_
      refine TT_ineg hK dX4_wake_70 ?_
      refine TT_istore_n hK rfl (lv' := [(2, vI (-z17_3)), (4, vI 1), (3, vI z40_6), (0, vR 67), (1, vI p)]) (by decide) rfl dX4_wake_71 ?_
      refine TT_iload_n hK rfl 2 rfl dX4_wake_72 ?_
      refine TT_ineg hK dX4_wake_73 ?_
      refine TT_istore_n hK rfl (lv' := [(3, vI (-z40_6)), (2, vI (-z17_3)), (4, vI 1), (0, vR 67), (1, vI p)]) (by decide) rfl dX4_wake_74 ?_
      refine TT_sub [3, 4, 1, 0, 2] rfl ?_
      exact J75_7 (-z17_3) (-z40_6) 1 g40_6 hT_6 hF_6 (by first | omega | (simp [up, setR] <;> omega)) (by first | omega | (simp [up, setR] <;> omega)) (by first | omega | (simp [up, setR] <;> omega))
  · refine TT_iload_n hK rfl 1 rfl dX4_wake_48 ?_
    refine TT_if_ne hK (tgt := 60) (irm (by omega) (by omega)) dX4_wake_49 (by decide) (fun hb49_27 => ?_) (fun hb49_27 => ?_)
    · refine TT_iconst hK dX4_wake_60 ?_
      refine TT_istore hK (lv' := [(4, vI 0), (3, vI z40_6), (2, vI z17_3), (0, vR 67), (1, vI p)]) (by decide) rfl dX4_wake_61 ?_
      refine TT_iload hK 0 rfl dX4_wake_63 ?_
      refine TT_iconst hK dX4_wake_65 ?_
      refine TT_icmp_ne hK (tgt := 75) (by decide) (by decide) dX4_wake_66 (by decide) (fun hb66_28 => ?_) (fun hb66_28 => ?_)
      · refine TT_sub [3, 4, 2, 1, 0] rfl ?_
        exact J75_7 z17_3 z40_6 0 g40_6 hT_6 hF_6 (by first | omega | (simp [up, setR] <;> omega)) (by first | omega | (simp [up, setR] <;> omega)) (by first | omega | (simp [up, setR] <;> omega))
      · exact absurd hb66_28 (by decide)
    · refine TT_iload_n hK rfl 0 rfl dX4_wake_52 ?_
      refine TT_if_ge hK (tgt := 60) (irm (by omega) (by omega)) dX4_wake_53 (by decide) (fun hb53_29 => ?_) (fun hb53_29 => ?_)
      · refine TT_iconst hK dX4_wake_60 ?_
        refine TT_istore hK (lv' := [(4, vI 0), (3, vI z40_6), (2, vI z17_3), (0, vR 67), (1, vI p)]) (by decide) rfl dX4_wake_61 ?_
        refine TT_iload hK 0 rfl dX4_wake_63 ?_
        refine TT_iconst hK dX4_wake_65 ?_
        refine TT_icmp_ne hK (tgt := 75) (by decide) (by decide) dX4_wake_66 (by decide) (fun hb66_30 => ?_) (fun hb66_30 => ?_)
        · refine TT_sub [3, 4, 2, 1, 0] rfl ?_
          exact J75_7 z17_3 z40_6 0 g40_6 hT_6 hF_6 (by first | omega | (simp [up, setR] <;> omega)) (by first | omega | (simp [up, setR] <;> omega)) (by first | omega | (simp [up, setR] <;> omega))
        · exact absurd hb66_30 (by decide)
      · refine TT_iconst hK dX4_wake_56 ?_
        refine TT_goto hK (tgt := 61) dX4_wake_57 (by decide) ?_
        refine TT_istore hK (lv' := [(4, vI 1), (3, vI z40_6), (2, vI z17_3), (0, vR 67), (1, vI p)]) (by decide) rfl dX4_wake_61 ?_
        refine TT_iload hK 0 rfl dX4_wake_63 ?_
        refine TT_iconst hK dX4_wake_65 ?_
        refine TT_icmp_ne hK (tgt := 75) (by decide) (by decide) dX4_wake_66 (by decide) (fun hb66_31 => ?_) (fun hb66_31 => ?_)
        · exact absurd hb66_31 (by decide)
        · refine TT_iload_n hK rfl 2 rfl dX4_wake_69 ?_
          refine TT_ineg hK dX4_wake_70 ?_
          refine TT_istore_n hK rfl (lv' := [(2, vI (-z17_3)), (4, vI 1), (3, vI z40_6), (0, vR 67), (1, vI p)]) (by decide) rfl dX4_wake_71 ?_
          refine TT_iload_n hK rfl 2 rfl dX4_wake_72 ?_
          refine TT_ineg hK dX4_wake_73 ?_
          refine TT_istore_n hK rfl (lv' := [(3, vI (-z40_6)), (2, vI (-z17_3)), (4, vI 1), (0, vR 67), (1, vI p)]) (by decide) rfl dX4_wake_74 ?_
          refine TT_sub [3, 4, 1, 0, 2] rfl ?_
          exact J75_7 (-z17_3) (-z40_6) 1 g40_6 hT_6 hF_6 (by first | omega | (simp [up, setR] <;> omega)) (by first | omega | (simp [up, setR] <;> omega)) (by first | omega | (simp [up, setR] <;> omega))
set_option maxRecDepth 20000 in
theorem s_X4_spreadColumn_67 (f n : Int) (h : Hp_) (hT : TY h) (hf : 11 ≤ f ∧ f + 10 * (n - 1) ≤ 88) (hn : 0 ≤ n ∧ n ≤ 4) : Ctr yX4_spreadColumn cX4_spreadColumn 6 none (rmd 3) ly ly 0 0 [vR 67, vI f, vI n] h (fun r h' => (TY h' ∧ FR [62, 64, 65, 69, 70, 71] h h') ∧ r = none) := by
  refine Ctr_of (by decide) (Nat.le_of_ble_eq_true rfl) ⟨Nat.le_refl _, Nat.le_refl _⟩ (fun K hK hQ _ => ?_)
  show TT K ly 0 0 0 [(0, vR 67), (1, vI f), (2, vI n)] [] h
  have hF : FR [62, 64, 65, 69, 70, 71] h h := FR_rf _ _
  refine TT_iconst hK dX4_spreadColumn_0 ?_
  refine TT_istore_n hK rfl (lv' := [(3, vI 0), (0, vR 67), (1, vI f), (2, vI n)]) (by decide) rfl dX4_spreadColumn_1 ?_
  have L2_1 : ∀ (k1 : Nat) (i : Int) (w2_1 : Hp_), TY w2_1 → FR [62, 64, 65, 69, 70, 71] h w2_1 → (0 ≤ i ∧ i ≤ 4) → ((4 : Int) - i).toNat < k1 → TT K ly 0 0 2 [(0, vR 67), (1, vI f), (2, vI n), (3, vI i)] [] w2_1 := by
    intro k1
    induction k1 with
    | zero => intro i w2_1 hT2_1 hF2_1 hi hk1; exact absurd hk1 (Nat.not_lt_zero _)
    | succ k1 ih1 =>
      intro i w2_1 hT2_1 hF2_1 hi hk1
      refine TT_iload_n hK rfl 3 rfl dX4_spreadColumn_2 ?_
      refine TT_iload_n hK rfl 2 rfl dX4_spreadColumn_3 ?_
      refine TT_icmp_ge hK (tgt := 83) (irm (by omega) (by omega)) (irm (by omega) (by omega)) dX4_spreadColumn_4 (by decide) (fun hb4_2 => ?_) (fun hb4_2 => ?_)
      · refine TT_vret hK hQ ?_ dX4_spreadColumn_83
        exact ⟨⟨hT2_1, hF2_1⟩, rfl⟩
      · refine TT_iload_n hK rfl 1 rfl dX4_spreadColumn_7 ?_
        refine TT_iload_n hK rfl 3 rfl dX4_spreadColumn_8 ?_
        refine TT_bipush hK (by decide) dX4_spreadColumn_9 ?_
        refine TT_imul hK dX4_spreadColumn_11 ?_
        refine TT_iadd hK dX4_spreadColumn_12 ?_
        refine TT_istore hK (lv' := [(4, vI (f + (i * 10))), (0, vR 67), (1, vI f), (2, vI n), (3, vI i)]) (by decide) rfl dX4_spreadColumn_13 ?_
        have J37_3 : ∀ (cx : Int) (w37_3 : Hp_), TY w37_3 → FR [62, 64, 65, 69, 70, 71] h w37_3 → (0 ≤ cx ∧ cx ≤ 8) → TT K ly 0 0 37 [(0, vR 67), (1, vI f), (2, vI n), (3, vI i), (4, vI (f + (i * 10))), (5, vI cx)] [] w37_3 := by
          intro cx w37_3 hT37_3 hF37_3 hcx
          refine TT_iload hK 5 rfl dX4_spreadColumn_37 ?_
          refine TT_if_le hK (tgt := 77) (irm (by omega) (by omega)) dX4_spreadColumn_39 (by decide) (fun hb39_4 => ?_) (fun hb39_4 => ?_)
          · refine TT_iinc hK (v := i + 1) (lv' := [(3, vI (i + 1)), (0, vR 67), (1, vI f), (2, vI n), (4, vI (f + (i * 10))), (5, vI cx)]) 3 rfl rfl (by decide) rfl dX4_spreadColumn_77 ?_
            refine TT_goto hK (tgt := 2) dX4_spreadColumn_80 (by decide) ?_
            refine TT_sub [1, 2, 3, 0] rfl ?_
            exact ih1 (i + 1) w37_3 hT37_3 hF37_3 (by first | omega | (simp [up, setR] <;> omega)) (by first | omega | (simp [up, setR] <;> omega))
          · refine TT_aload_n hK rfl 0 rfl dX4_spreadColumn_42 ?_
            refine gf_X4_21 hK (by decide) rfl (q := 71) rfl rfl dX4_spreadColumn_43 ?_
            refine TT_iload hK 4 rfl dX4_spreadColumn_46 ?_
            refine TT_iconst hK dX4_spreadColumn_48 ?_
            refine TT_zast hK (o := 71) (n := 100) (by decide) rfl (by omega) (by omega) (by first | decide | omega) dX4_spreadColumn_49 ?_
            refine TT_hp (h' := setO w37_3 71 (fup (w37_3 71) (f + (i * 10)) 1)) (up_can rfl rfl rfl) ?_
            have hT_5 : TY (setO w37_3 71 (fup (w37_3 71) (f + (i * 10)) 1)) := tu_71 hT37_3 (show up w37_3 71 (f + (i * 10)) 1 = (setO w37_3 71 (fup (w37_3 71) (f + (i * 10)) 1)) from up_can rfl rfl rfl) (by omega)
            have hF_5 : FR [62, 64, 65, 69, 70, 71] h (setO w37_3 71 (fup (w37_3 71) (f + (i * 10)) 1)) := FR_up (show up w37_3 71 (f + (i * 10)) 1 = (setO w37_3 71 (fup (w37_3 71) (f + (i * 10)) 1)) from up_can rfl rfl rfl) hF37_3 (by decide)
            refine TT_aload_n hK rfl 0 rfl dX4_spreadColumn_50 ?_
            refine gf_X4_28 hK (by decide) rfl (q := 62) rfl rfl dX4_spreadColumn_51 ?_
            refine TT_iload hK 5 rfl dX4_spreadColumn_54 ?_
            refine TT_aload_n hK rfl 0 rfl dX4_spreadColumn_56 ?_
            refine TT_iload hK 4 rfl dX4_spreadColumn_57 ?_
            refine iv_X4_77 hK (s_X4_meantBit_67 (f + (i * 10)) (setO w37_3 71 (fup (w37_3 71) (f + (i * 10)) 1)) hT_5 (by first | omega | (simp [up, setR] <;> omega))) (by decide) rfl ⟨by decide, by decide⟩ (by decide) rfl rfl (Nat.le_of_ble_eq_true rfl) ⟨by decide, by decide⟩ dX4_spreadColumn_59 ?_
            intro r9 g59_6 hp9
            obtain ⟨⟨hT_6, hG_6⟩, z59_6, hr9, hz_6⟩ := hp9
            rw [hr9]
            have hF_6 : FR [62, 64, 65, 69, 70, 71] h g59_6 := FR_tr hF_5 hG_6 (by decide)
            show TT K ly 0 0 62 [(0, vR 67), (1, vI f), (2, vI n), (3, vI i), (4, vI (f + (i * 10))), (5, vI cx)] [vI z59_6, vI cx, vR 62] g59_6
            refine iv_X4_80_X6 hK (s_X6_tellBit_62 cx z59_6 g59_6 hT_6 (by first | omega | (simp [up, setR] <;> omega)) (by first | omega | (simp [up, setR] <;> omega))) (by decide) rfl ⟨by decide, by decide⟩ (by decide) rfl rfl (Nat.le_of_ble_eq_true rfl) ⟨by decide, by decide⟩ dX4_spreadColumn_62 ?_
            intro r9 g62_7 hp9
            obtain ⟨⟨hT_7, hG_7⟩, z62_7, hr9, hz_7⟩ := hp9
            rw [hr9]
            have hF_7 : FR [62, 64, 65, 69, 70, 71] h g62_7 := FR_tr hF_6 hG_7 (by decide)
            show TT K ly 0 0 67 [(0, vR 67), (1, vI f), (2, vI n), (3, vI i), (4, vI (f + (i * 10))), (5, vI cx)] [vI z62_7] g62_7
            refine TT_iconst hK dX4_spreadColumn_67 ?_
            refine TT_icmp_ne hK (tgt := 77) (irm (by omega) (by omega)) (by decide) dX4_spreadColumn_68 (by decide) (fun hb68_8 => ?_) (fun hb68_8 => ?_)
            · refine TT_iinc hK (v := i + 1) (lv' := [(3, vI (i + 1)), (0, vR 67), (1, vI f), (2, vI n), (4, vI (f + (i * 10))), (5, vI cx)]) 3 rfl rfl (by decide) rfl dX4_spreadColumn_77 ?_
              refine TT_goto hK (tgt := 2) dX4_spreadColumn_80 (by decide) ?_
              refine TT_sub [1, 2, 3, 0] rfl ?_
              exact ih1 (i + 1) g62_7 hT_7 hF_7 (by first | omega | (simp [up, setR] <;> omega)) (by first | omega | (simp [up, setR] <;> omega))
            · refine TT_aload_n hK rfl 0 rfl dX4_spreadColumn_71 ?_
              refine TT_iload hK 4 rfl dX4_spreadColumn_72 ?_
              refine iv_X4_85 hK (s_X4_wake_67 (f + (i * 10)) g62_7 hT_7 (by first | omega | (simp [up, setR] <;> omega))) (by decide) rfl ⟨by decide, by decide⟩ (by decide) rfl rfl (Nat.le_of_ble_eq_true rfl) ⟨by decide, by decide⟩ dX4_spreadColumn_74 ?_
              intro r9 g74_9 hp9
              obtain ⟨⟨hT_9, hG_9⟩, hr9⟩ := hp9
              rw [hr9]
              have hF_9 : FR [62, 64, 65, 69, 70, 71] h g74_9 := FR_tr hF_7 hG_9 (by decide)
              show TT K ly 0 0 77 [(0, vR 67), (1, vI f), (2, vI n), (3, vI i), (4, vI (f + (i * 10))), (5, vI cx)] [] g74_9
              refine TT_iinc hK (v := i + 1) (lv' := [(3, vI (i + 1)), (0, vR 67), (1, vI f), (2, vI n), (4, vI (f + (i * 10))), (5, vI cx)]) 3 rfl rfl (by decide) rfl dX4_spreadColumn_77 ?_
              refine TT_goto hK (tgt := 2) dX4_spreadColumn_80 (by decide) ?_
              refine TT_sub [1, 2, 3, 0] rfl ?_
              exact ih1 (i + 1) g74_9 hT_9 hF_9 (by first | omega | (simp [up, setR] <;> omega)) (by first | omega | (simp [up, setR] <;> omega))
        refine TT_aload_n hK rfl 1 rfl dX4_spreadColumn_15 ?_
        refine gf_X4_18 hK (by decide) rfl (q := 70) rfl rfl dX4_spreadColumn_16 ?_
        refine TT_iload hK 0 rfl dX4_spreadColumn_19 ?_
        refine TT_iald hK (o := 70) (n := 100) (by decide) rfl (by first | omega | (simp [up, setR] <;> omega)) (by first | omega | (simp [up, setR] <;> omega)) (v := (w2_1 70) (f + (i * 10))) rfl dX4_spreadColumn_21 ?_
        have r10 := ty_70 (i := f + (i * 10)) (v := (w2_1 70) (f + (i * 10))) hT2_1 rfl (by omega) (by omega)
        refine TT_if_ne hK (tgt := 34) (irm (by omega) (by omega)) dX4_spreadColumn_22 (by decide) (fun hb22_11 => ?_) (fun hb22_11 => ?_)
        · refine TT_iconst hK dX4_spreadColumn_34 ?_
          refine TT_istore hK (lv' := [(5, vI 0), (4, vI (f + (i * 10))), (0, vR 67), (1, vI f), (2, vI n), (3, vI i)]) (by decide) rfl dX4_spreadColumn_35 ?_
          refine TT_sub [2, 3, 4, 5, 1, 0] rfl ?_
          exact J37_3 0 w2_1 hT2_1 hF2_1 (by first | omega | (simp [up, setR] <;> omega))
        · refine TT_aload_n hK rfl 1 rfl dX4_spreadColumn_25 ?_
          refine TT_iload hK 0 rfl dX4_spreadColumn_26 ?_
          refine iv_X4_73 hK (s_X4_contextOf_67 (f + (i * 10)) w2_1 hT2_1 (by first | omega | (simp [up, setR] <;> omega))) (by decide) rfl ⟨by decide, by decide⟩ (by decide) rfl rfl (Nat.le_of_ble_eq_true rfl) ⟨by decide, by decide⟩ dX4_spreadColumn_28 ?_
          intro r9 g28_12 hp9
          obtain ⟨⟨hT_12, hG_12⟩, z28_12, hr9, hz_12⟩ := hp9
          rw [hr9]
          have hF_12 : FR [62, 64, 65, 69, 70, 71] h g28_12 := FR_tr hF2_1 hG_12 (by decide)
          show TT K ly 0 0 31 [(4, vI (f + (i * 10))), (0, vR 67), (1, vI f), (2, vI n), (3, vI i)] [vI z28_12] g28_12
          refine TT_goto hK (tgt := 35) dX4_spreadColumn_31 (by decide) ?_
          refine TT_istore hK (lv' := [(5, vI z28_12), (4, vI (f + (i * 10))), (0, vR 67), (1, vI f), (2, vI n), (3, vI i)]) (by decide) rfl dX4_spreadColumn_35 ?_
          refine TT_sub [2, 3, 4, 5, 1, 0] rfl ?_
          exact J37_3 z28_12 g28_12 hT_12 hF_12 (by first | omega | (simp [up, setR] <;> omega))
  refine TT_sub [1, 2, 3, 0] rfl ?_
  exact L2_1 ((((4 : Int) - 0).toNat) + 1) 0 h hT hF (by first | omega | (simp [up, setR] <;> omega)) (Nat.lt_succ_self _)
set_option maxRecDepth 20000 in
theorem s_X4_refineColumn_67 (f n : Int) (h : Hp_) (hT : TY h) (hf : 11 ≤ f ∧ f + 10 * (n - 1) ≤ 88) (hn : 0 ≤ n ∧ n ≤ 4) : Ctr yX4_refineColumn cX4_refineColumn 6 none (rmd 2) ly ly 0 0 [vR 67, vI f, vI n] h (fun r h' => (TY h' ∧ FR [62, 64, 65, 69, 72] h h') ∧ r = none) := by
  refine Ctr_of (by decide) (Nat.le_of_ble_eq_true rfl) ⟨Nat.le_refl _, Nat.le_refl _⟩ (fun K hK hQ _ => ?_)
  show TT K ly 0 0 0 [(0, vR 67), (1, vI f), (2, vI n)] [] h
  have hF : FR [62, 64, 65, 69, 72] h h := FR_rf _ _
  refine TT_iconst hK dX4_refineColumn_0 ?_
  refine TT_istore_n hK rfl (lv' := [(3, vI 0), (0, vR 67), (1, vI f), (2, vI n)]) (by decide) rfl dX4_refineColumn_1 ?_
  have L2_1 : ∀ (k1 : Nat) (i : Int) (w2_1 : Hp_), TY w2_1 → FR [62, 64, 65, 69, 72] h w2_1 → (0 ≤ i ∧ i ≤ 4) → ((4 : Int) - i).toNat < k1 → TT K ly 0 0 2 [(0, vR 67), (1, vI f), (2, vI n), (3, vI i)] [] w2_1 := by
    intro k1
    induction k1 with
    | zero => intro i w2_1 hT2_1 hF2_1 hi hk1; exact absurd hk1 (Nat.not_lt_zero _)
    | succ k1 ih1 =>
      intro i w2_1 hT2_1 hF2_1 hi hk1
      refine TT_iload_n hK rfl 3 rfl dX4_refineColumn_2 ?_
      refine TT_iload_n hK rfl 2 rfl dX4_refineColumn_3 ?_
      refine TT_icmp_ge hK (tgt := 104) (irm (by omega) (by omega)) (irm (by omega) (by omega)) dX4_refineColumn_4 (by decide) (fun hb4_2 => ?_) (fun hb4_2 => ?_)
      · refine TT_vret hK hQ ?_ dX4_refineColumn_104
        exact ⟨⟨hT2_1, hF2_1⟩, rfl⟩
      · refine TT_iload_n hK rfl 1 rfl dX4_refineColumn_7 ?_
        refine TT_iload_n hK rfl 3 rfl dX4_refineColumn_8 ?_
        refine TT_bipush hK (by decide) dX4_refineColumn_9 ?_
        refine TT_imul hK dX4_refineColumn_11 ?_
        refine TT_iadd hK dX4_refineColumn_12 ?_
        refine TT_istore hK (lv' := [(4, vI (f + (i * 10))), (0, vR 67), (1, vI f), (2, vI n), (3, vI i)]) (by decide) rfl dX4_refineColumn_13 ?_
        refine TT_aload_n hK rfl 1 rfl dX4_refineColumn_15 ?_
        refine gf_X4_18 hK (by decide) rfl (q := 70) rfl rfl dX4_refineColumn_16 ?_
        refine TT_iload hK 0 rfl dX4_refineColumn_19 ?_
        refine TT_iald hK (o := 70) (n := 100) (by decide) rfl (by first | omega | (simp [up, setR] <;> omega)) (by first | omega | (simp [up, setR] <;> omega)) (v := (h 70) (f + (i * 10))) (rd_ (hF2_1 70 (by decide)) rfl) dX4_refineColumn_21 ?_
        have r3 := ty_70 (i := f + (i * 10)) (v := (h 70) (f + (i * 10))) hT2_1 (rd_ (hF2_1 70 (by decide)) rfl) (by omega) (by omega)
        refine TT_if_eq hK (tgt := 98) (irm (by omega) (by omega)) dX4_refineColumn_22 (by decide) (fun hb22_4 => ?_) (fun hb22_4 => ?_)
        · refine TT_iinc hK (v := i + 1) (lv' := [(3, vI (i + 1)), (4, vI (f + (i * 10))), (0, vR 67), (1, vI f), (2, vI n)]) 4 rfl rfl (by decide) rfl dX4_refineColumn_98 ?_
          refine TT_goto hK (tgt := 2) dX4_refineColumn_101 (by decide) ?_
          refine TT_sub [2, 3, 4, 0] rfl ?_
          exact ih1 (i + 1) w2_1 hT2_1 hF2_1 (by first | omega | (simp [up, setR] <;> omega)) (by first | omega | (simp [up, setR] <;> omega))
        · refine TT_aload_n hK rfl 1 rfl dX4_refineColumn_25 ?_
          refine gf_X4_21 hK (by decide) rfl (q := 71) rfl rfl dX4_refineColumn_26 ?_
          refine TT_iload hK 0 rfl dX4_refineColumn_29 ?_
          refine TT_zald hK (o := 71) (n := 100) (by decide) rfl (by first | omega | (simp [up, setR] <;> omega)) (by first | omega | (simp [up, setR] <;> omega)) (v := (h 71) (f + (i * 10))) (rd_ (hF2_1 71 (by decide)) rfl) dX4_refineColumn_31 ?_
          have r5 := ty_71 (i := f + (i * 10)) (v := (h 71) (f + (i * 10))) hT2_1 (rd_ (hF2_1 71 (by decide)) rfl) (by omega) (by omega)
          refine TT_if_ne hK (tgt := 98) (irm (by omega) (by omega)) dX4_refineColumn_32 (by decide) (fun hb32_6 => ?_) (fun hb32_6 => ?_)
          · refine TT_iinc hK (v := i + 1) (lv' := [(3, vI (i + 1)), (4, vI (f + (i * 10))), (0, vR 67), (1, vI f), (2, vI n)]) 4 rfl rfl (by decide) rfl dX4_refineColumn_98 ?_
            refine TT_goto hK (tgt := 2) dX4_refineColumn_101 (by decide) ?_
            refine TT_sub [2, 3, 4, 0] rfl ?_
            exact ih1 (i + 1) w2_1 hT2_1 hF2_1 (by first | omega | (simp [up, setR] <;> omega)) (by first | omega | (simp [up, setR] <;> omega))
          · have J58_7 : ∀ (cx : Int) (w58_7 : Hp_), TY w58_7 → FR [62, 64, 65, 69, 72] h w58_7 → (0 ≤ cx ∧ cx ≤ 18) → TT K ly 0 0 58 [(0, vR 67), (1, vI f), (2, vI n), (3, vI i), (4, vI (f + (i * 10))), (5, vI cx)] [] w58_7 := by
              intro cx w58_7 hT58_7 hF58_7 hcx
              refine TT_aload_n hK rfl 0 rfl dX4_refineColumn_58 ?_
              refine gf_X4_25 hK (by decide) rfl (q := 72) rfl rfl dX4_refineColumn_59 ?_
              refine TT_iload hK 4 rfl dX4_refineColumn_62 ?_
              refine TT_iconst hK dX4_refineColumn_64 ?_
              refine TT_zast hK (o := 72) (n := 100) (by decide) rfl (by omega) (by omega) (by first | decide | omega) dX4_refineColumn_65 ?_
              refine TT_hp (h' := setO w58_7 72 (fup (w58_7 72) (f + (i * 10)) 1)) (up_can rfl rfl rfl) ?_
              have hT_8 : TY (setO w58_7 72 (fup (w58_7 72) (f + (i * 10)) 1)) := tu_72 hT58_7 (show up w58_7 72 (f + (i * 10)) 1 = (setO w58_7 72 (fup (w58_7 72) (f + (i * 10)) 1)) from up_can rfl rfl rfl) (by omega)
              have hF_8 : FR [62, 64, 65, 69, 72] h (setO w58_7 72 (fup (w58_7 72) (f + (i * 10)) 1)) := FR_up (show up w58_7 72 (f + (i * 10)) 1 = (setO w58_7 72 (fup (w58_7 72) (f + (i * 10)) 1)) from up_can rfl rfl rfl) hF58_7 (by decide)
              refine TT_aload_n hK rfl 0 rfl dX4_refineColumn_66 ?_
              refine gf_X4_15 hK (by decide) rfl (q := 69) rfl rfl dX4_refineColumn_67 ?_
              refine TT_iload hK 4 rfl dX4_refineColumn_70 ?_
              refine TT_dup2 hK rfl rfl dX4_refineColumn_72 ?_
              refine TT_iald hK (o := 69) (n := 100) (by decide) rfl (by first | omega | (simp [up, setR] <;> omega)) (by first | omega | (simp [up, setR] <;> omega)) (v := (w58_7 69) (f + (i * 10))) (rd_ (sOf_ne _ _ (by decide)) rfl) dX4_refineColumn_73 ?_
              have r9 := ty_69 (i := f + (i * 10)) (v := (w58_7 69) (f + (i * 10))) hT_8 (rd_ (sOf_ne _ _ (by decide)) rfl) (by omega) (by omega)
              refine TT_aload_n hK rfl 0 rfl dX4_refineColumn_74 ?_
              refine gf_X4_28 hK (by decide) rfl (q := 62) rfl rfl dX4_refineColumn_75 ?_
              refine TT_iload hK 5 rfl dX4_refineColumn_78 ?_
              refine TT_aload_n hK rfl 0 rfl dX4_refineColumn_80 ?_
              refine TT_iload hK 4 rfl dX4_refineColumn_81 ?_
              refine iv_X4_77 hK (s_X4_meantBit_67 (f + (i * 10)) (setO w58_7 72 (fup (w58_7 72) (f + (i * 10)) 1)) hT_8 (by first | omega | (simp [up, setR] <;> omega))) (by decide) rfl ⟨by decide, by decide⟩ (by decide) rfl rfl (Nat.le_of_ble_eq_true rfl) ⟨by decide, by decide⟩ dX4_refineColumn_83 ?_
              intro r9 g83_10 hp9
              obtain ⟨⟨hT_10, hG_10⟩, z83_10, hr9, hz_10⟩ := hp9
              rw [hr9]
              have hF_10 : FR [62, 64, 65, 69, 72] h g83_10 := FR_tr hF_8 hG_10 (by decide)
              show TT K ly 0 0 86 [(0, vR 67), (1, vI f), (2, vI n), (3, vI i), (4, vI (f + (i * 10))), (5, vI cx)] [vI z83_10, vI cx, vR 62, vI ((w58_7 69) (f + (i * 10))), vI (f + (i * 10)), vR 69] g83_10
              refine iv_X4_80_X6 hK (s_X6_tellBit_62 cx z83_10 g83_10 hT_10 (by first | omega | (simp [up, setR] <;> omega)) (by first | omega | (simp [up, setR] <;> omega))) (by decide) rfl ⟨by decide, by decide⟩ (by decide) rfl rfl (Nat.le_of_ble_eq_true rfl) ⟨by decide, by decide⟩ dX4_refineColumn_86 ?_
              intro r9 g86_11 hp9
              obtain ⟨⟨hT_11, hG_11⟩, z86_11, hr9, hz_11⟩ := hp9
              rw [hr9]
              have hF_11 : FR [62, 64, 65, 69, 72] h g86_11 := FR_tr hF_10 hG_11 (by decide)
              show TT K ly 0 0 91 [(0, vR 67), (1, vI f), (2, vI n), (3, vI i), (4, vI (f + (i * 10))), (5, vI cx)] [vI z86_11, vI ((w58_7 69) (f + (i * 10))), vI (f + (i * 10)), vR 69] g86_11
              refine TT_aload_n hK rfl 0 rfl dX4_refineColumn_91 ?_
              refine gf_X4_55 hK (by decide) rfl (v := (h 67) 9) (rd_ (((hG_11 67 (by decide))).trans (((hG_10 67 (by decide))).trans ((sOf_ne _ _ (by decide)).trans (hF58_7 67 (by decide))))) rfl) dX4_refineColumn_92 ?_
              have r12 := ty_67_9 (v := (h 67) 9) hT_11 (rd_ (((hG_11 67 (by decide))).trans (((hG_10 67 (by decide))).trans ((sOf_ne _ _ (by decide)).trans (hF58_7 67 (by decide))))) rfl)
              refine TT_ishl_a hK dX4_refineColumn_95 (fun x95_13 hx13 => ?_)
              refine TT_ior hK dX4_refineColumn_96 ?_
              refine TT_w32 (fun x97_14 hx14 => ?_)
              refine TT_iast hK (o := 69) (n := 100) (by decide) rfl (by omega) (by omega) dX4_refineColumn_97 ?_
              refine TT_hp (h' := setO g86_11 69 (fup (w58_7 69) (f + (i * 10)) x97_14)) (up_can (((hG_11 69 (by decide))).trans (((hG_10 69 (by decide))).trans (sOf_ne _ _ (by decide)))) rfl rfl) ?_
              have hT_15 : TY (setO g86_11 69 (fup (w58_7 69) (f + (i * 10)) x97_14)) := tu_69 hT_11 (show up g86_11 69 (f + (i * 10)) x97_14 = (setO g86_11 69 (fup (w58_7 69) (f + (i * 10)) x97_14)) from up_can (((hG_11 69 (by decide))).trans (((hG_10 69 (by decide))).trans (sOf_ne _ _ (by decide)))) rfl rfl) (by omega)
              have hF_15 : FR [62, 64, 65, 69, 72] h (setO g86_11 69 (fup (w58_7 69) (f + (i * 10)) x97_14)) := FR_up (show up g86_11 69 (f + (i * 10)) x97_14 = (setO g86_11 69 (fup (w58_7 69) (f + (i * 10)) x97_14)) from up_can (((hG_11 69 (by decide))).trans (((hG_10 69 (by decide))).trans (sOf_ne _ _ (by decide)))) rfl rfl) hF_11 (by decide)
              refine TT_iinc hK (v := i + 1) (lv' := [(3, vI (i + 1)), (0, vR 67), (1, vI f), (2, vI n), (4, vI (f + (i * 10))), (5, vI cx)]) 3 rfl rfl (by decide) rfl dX4_refineColumn_98 ?_
              refine TT_goto hK (tgt := 2) dX4_refineColumn_101 (by decide) ?_
              refine TT_sub [1, 2, 3, 0] rfl ?_
              exact ih1 (i + 1) (setO g86_11 69 (fup (w58_7 69) (f + (i * 10)) x97_14)) hT_15 hF_15 (by first | omega | (simp [up, setR] <;> omega)) (by first | omega | (simp [up, setR] <;> omega))
            refine TT_aload_n hK rfl 1 rfl dX4_refineColumn_35 ?_
            refine gf_X4_25 hK (by decide) rfl (q := 72) rfl rfl dX4_refineColumn_36 ?_
            refine TT_iload hK 0 rfl dX4_refineColumn_39 ?_
            refine TT_zald hK (o := 72) (n := 100) (by decide) rfl (by first | omega | (simp [up, setR] <;> omega)) (by first | omega | (simp [up, setR] <;> omega)) (v := (w2_1 72) (f + (i * 10))) rfl dX4_refineColumn_41 ?_
            have r16 := ty_72 (i := f + (i * 10)) (v := (w2_1 72) (f + (i * 10))) hT2_1 rfl (by omega) (by omega)
            refine TT_if_eq hK (tgt := 50) (irm (by omega) (by omega)) dX4_refineColumn_42 (by decide) (fun hb42_17 => ?_) (fun hb42_17 => ?_)
            · refine TT_aload_n hK rfl 1 rfl dX4_refineColumn_50 ?_
              refine TT_iload hK 0 rfl dX4_refineColumn_51 ?_
              refine iv_X4_89 hK (s_X4_firstRefiningContext_67 (f + (i * 10)) w2_1 hT2_1 (by first | omega | (simp [up, setR] <;> omega))) (by decide) rfl ⟨by decide, by decide⟩ (by decide) rfl rfl (Nat.le_of_ble_eq_true rfl) ⟨by decide, by decide⟩ dX4_refineColumn_53 ?_
              intro r9 g53_18 hp9
              obtain ⟨⟨hT_18, hG_18⟩, z53_18, hr9, hz_18⟩ := hp9
              rw [hr9]
              have hF_18 : FR [62, 64, 65, 69, 72] h g53_18 := FR_tr hF2_1 hG_18 (by decide)
              show TT K ly 0 0 56 [(4, vI (f + (i * 10))), (0, vR 67), (1, vI f), (2, vI n), (3, vI i)] [vI z53_18] g53_18
              refine TT_istore hK (lv' := [(5, vI z53_18), (4, vI (f + (i * 10))), (0, vR 67), (1, vI f), (2, vI n), (3, vI i)]) (by decide) rfl dX4_refineColumn_56 ?_
              refine TT_sub [2, 3, 4, 5, 1, 0] rfl ?_
              exact J58_7 z53_18 g53_18 hT_18 hF_18 (by first | omega | (simp [up, setR] <;> omega))
            · refine TT_bipush hK (by decide) dX4_refineColumn_45 ?_
              refine TT_goto hK (tgt := 56) dX4_refineColumn_47 (by decide) ?_
              refine TT_istore hK (lv' := [(5, vI 16), (4, vI (f + (i * 10))), (0, vR 67), (1, vI f), (2, vI n), (3, vI i)]) (by decide) rfl dX4_refineColumn_56 ?_
              refine TT_sub [2, 3, 4, 5, 1, 0] rfl ?_
              exact J58_7 16 w2_1 hT2_1 hF2_1 (by first | omega | (simp [up, setR] <;> omega))
  refine TT_sub [1, 2, 3, 0] rfl ?_
  exact L2_1 ((((4 : Int) - 0).toNat) + 1) 0 h hT hF (by first | omega | (simp [up, setR] <;> omega)) (Nat.lt_succ_self _)
set_option maxRecDepth 20000 in
theorem s_X4_isQuiet_67 (f : Int) (h : Hp_) (hT : TY h) (hf : 11 ≤ f ∧ f + 30 ≤ 88) : Ctr yX4_isQuiet cX4_isQuiet 4 (some .boolean) (rmd 2) ly ly 0 0 [vR 67, vI f] h (fun r h' => (TY h' ∧ FR [] h h') ∧ ∃ z : Int, r = some (vI z) ∧ (0 ≤ z ∧ z ≤ 1)) := by
  refine Ctr_of (by decide) (Nat.le_of_ble_eq_true rfl) ⟨Nat.le_refl _, Nat.le_refl _⟩ (fun K hK hQ _ => ?_)
  show TT K ly 0 0 0 [(0, vR 67), (1, vI f)] [] h
  have hF : FR [] h h := FR_rf _ _
  refine TT_iconst hK dX4_isQuiet_0 ?_
  refine TT_istore_n hK rfl (lv' := [(2, vI 0), (0, vR 67), (1, vI f)]) (by decide) rfl dX4_isQuiet_1 ?_
  have L2_1 : ∀ (k1 : Nat) (i : Int) (w2_1 : Hp_), TY w2_1 → FR [] h w2_1 → (0 ≤ i ∧ i ≤ 4) → ((4 : Int) - i).toNat < k1 → TT K ly 0 0 2 [(0, vR 67), (1, vI f), (2, vI i)] [] w2_1 := by
    intro k1
    induction k1 with
    | zero => intro i w2_1 hT2_1 hF2_1 hi hk1; exact absurd hk1 (Nat.not_lt_zero _)
    | succ k1 ih1 =>
      intro i w2_1 hT2_1 hF2_1 hi hk1
      refine TT_iload_n hK rfl 2 rfl dX4_isQuiet_2 ?_
      refine TT_iconst hK dX4_isQuiet_3 ?_
      refine TT_icmp_ge hK (tgt := 48) (irm (by omega) (by omega)) (by decide) dX4_isQuiet_4 (by decide) (fun hb4_2 => ?_) (fun hb4_2 => ?_)
      · refine TT_iconst hK dX4_isQuiet_48 ?_
        refine TT_zret hK hQ (by decide) ?_ dX4_isQuiet_49
        exact ⟨⟨hT2_1, hF2_1⟩, 1, rfl, (by omega)⟩
      · refine TT_iload_n hK rfl 1 rfl dX4_isQuiet_7 ?_
        refine TT_iload_n hK rfl 2 rfl dX4_isQuiet_8 ?_
        refine TT_bipush hK (by decide) dX4_isQuiet_9 ?_
        refine TT_imul hK dX4_isQuiet_11 ?_
        refine TT_iadd hK dX4_isQuiet_12 ?_
        refine TT_istore_n hK rfl (lv' := [(3, vI (f + (i * 10))), (0, vR 67), (1, vI f), (2, vI i)]) (by decide) rfl dX4_isQuiet_13 ?_
        refine TT_aload_n hK rfl 1 rfl dX4_isQuiet_14 ?_
        refine gf_X4_18 hK (by decide) rfl (q := 70) rfl rfl dX4_isQuiet_15 ?_
        refine TT_iload_n hK rfl 0 rfl dX4_isQuiet_18 ?_
        refine TT_iald hK (o := 70) (n := 100) (by decide) rfl (by first | omega | (simp [up, setR] <;> omega)) (by first | omega | (simp [up, setR] <;> omega)) (v := (h 70) (f + (i * 10))) (rd_ (hF2_1 70 (by decide)) rfl) dX4_isQuiet_19 ?_
        have r3 := ty_70 (i := f + (i * 10)) (v := (h 70) (f + (i * 10))) hT2_1 (rd_ (hF2_1 70 (by decide)) rfl) (by omega) (by omega)
        refine TT_if_ne hK (tgt := 40) (irm (by omega) (by omega)) dX4_isQuiet_20 (by decide) (fun hb20_4 => ?_) (fun hb20_4 => ?_)
        · refine TT_iconst hK dX4_isQuiet_40 ?_
          refine TT_zret hK hQ (by decide) ?_ dX4_isQuiet_41
          exact ⟨⟨hT2_1, hF2_1⟩, 0, rfl, (by omega)⟩
        · refine TT_aload_n hK rfl 1 rfl dX4_isQuiet_23 ?_
          refine gf_X4_21 hK (by decide) rfl (q := 71) rfl rfl dX4_isQuiet_24 ?_
          refine TT_iload_n hK rfl 0 rfl dX4_isQuiet_27 ?_
          refine TT_zald hK (o := 71) (n := 100) (by decide) rfl (by first | omega | (simp [up, setR] <;> omega)) (by first | omega | (simp [up, setR] <;> omega)) (v := (h 71) (f + (i * 10))) (rd_ (hF2_1 71 (by decide)) rfl) dX4_isQuiet_28 ?_
          have r5 := ty_71 (i := f + (i * 10)) (v := (h 71) (f + (i * 10))) hT2_1 (rd_ (hF2_1 71 (by decide)) rfl) (by omega) (by omega)
          refine TT_if_ne hK (tgt := 40) (irm (by omega) (by omega)) dX4_isQuiet_29 (by decide) (fun hb29_6 => ?_) (fun hb29_6 => ?_)
          · refine TT_iconst hK dX4_isQuiet_40 ?_
            refine TT_zret hK hQ (by decide) ?_ dX4_isQuiet_41
            exact ⟨⟨hT2_1, hF2_1⟩, 0, rfl, (by omega)⟩
          · refine TT_aload_n hK rfl 1 rfl dX4_isQuiet_32 ?_
            refine TT_iload_n hK rfl 0 rfl dX4_isQuiet_33 ?_
            refine iv_X4_73 hK (s_X4_contextOf_67 (f + (i * 10)) w2_1 hT2_1 (by first | omega | (simp [up, setR] <;> omega))) (by decide) rfl ⟨by decide, by decide⟩ (by decide) rfl rfl (Nat.le_of_ble_eq_true rfl) ⟨by decide, by decide⟩ dX4_isQuiet_34 ?_
            intro r9 g34_7 hp9
            obtain ⟨⟨hT_7, hG_7⟩, z34_7, hr9, hz_7⟩ := hp9
            rw [hr9]
            have hF_7 : FR [] h g34_7 := FR_tr hF2_1 hG_7 (by decide)
            show TT K ly 0 0 37 [(3, vI (f + (i * 10))), (0, vR 67), (1, vI f), (2, vI i)] [vI z34_7] g34_7
            refine TT_if_eq hK (tgt := 42) (irm (by omega) (by omega)) dX4_isQuiet_37 (by decide) (fun hb37_8 => ?_) (fun hb37_8 => ?_)
            · refine TT_iinc hK (v := i + 1) (lv' := [(2, vI (i + 1)), (3, vI (f + (i * 10))), (0, vR 67), (1, vI f)]) 3 rfl rfl (by decide) rfl dX4_isQuiet_42 ?_
              refine TT_goto hK (tgt := 2) dX4_isQuiet_45 (by decide) ?_
              refine TT_sub [2, 3, 0] rfl ?_
              exact ih1 (i + 1) g34_7 hT_7 hF_7 (by first | omega | (simp [up, setR] <;> omega)) (by first | omega | (simp [up, setR] <;> omega))
            · refine TT_iconst hK dX4_isQuiet_40 ?_
              refine TT_zret hK hQ (by decide) ?_ dX4_isQuiet_41
              exact ⟨⟨hT_7, hF_7⟩, 0, rfl, (by omega)⟩
  refine TT_sub [1, 2, 0] rfl ?_
  exact L2_1 ((((4 : Int) - 0).toNat) + 1) 0 h hT hF (by first | omega | (simp [up, setR] <;> omega)) (Nat.lt_succ_self _)
set_option maxRecDepth 20000 in
theorem s_X4_tellQuiet_67 (f : Int) (h : Hp_) (hT : TY h) (hf : 11 ≤ f ∧ f + 30 ≤ 88) : Ctr yX4_tellQuiet cX4_tellQuiet 5 (some .int) (rmd 2) ly ly 0 0 [vR 67, vI f] h (fun r h' => (TY h' ∧ FR [62, 64, 65] h h') ∧ ∃ z : Int, r = some (vI z) ∧ (0 ≤ z ∧ z ≤ 4)) := by
  refine Ctr_of (by decide) (Nat.le_of_ble_eq_true rfl) ⟨Nat.le_refl _, Nat.le_refl _⟩ (fun K hK hQ _ => ?_)
  show TT K ly 0 0 0 [(0, vR 67), (1, vI f)] [] h
  have hF : FR [62, 64, 65] h h := FR_rf _ _
  refine TT_iconst hK dX4_tellQuiet_0 ?_
  refine TT_istore_n hK rfl (lv' := [(2, vI 0), (0, vR 67), (1, vI f)]) (by decide) rfl dX4_tellQuiet_1 ?_
  have L2_1 : ∀ (k1 : Nat) (i : Int) (w2_1 : Hp_), TY w2_1 → FR [62, 64, 65] h w2_1 → (0 ≤ i ∧ i ≤ 4) → ((4 : Int) - i).toNat < k1 → TT K ly 0 0 2 [(0, vR 67), (1, vI f), (2, vI i)] [] w2_1 := by
    intro k1
    induction k1 with
    | zero => intro i w2_1 hT2_1 hF2_1 hi hk1; exact absurd hk1 (Nat.not_lt_zero _)
    | succ k1 ih1 =>
      intro i w2_1 hT2_1 hF2_1 hi hk1
      have J26_2 : ∀ (w : Int) (w26_2 : Hp_), TY w26_2 → FR [62, 64, 65] h w26_2 → (0 ≤ w ∧ w ≤ 4) → TT K ly 0 0 26 [(0, vR 67), (1, vI f), (2, vI w)] [] w26_2 := by
        intro w w26_2 hT26_2 hF26_2 hw
        refine TT_aload_n hK rfl 0 rfl dX4_tellQuiet_26 ?_
        refine gf_X4_28 hK (by decide) rfl (q := 62) rfl rfl dX4_tellQuiet_27 ?_
        refine TT_bipush hK (by decide) dX4_tellQuiet_30 ?_
        refine TT_iload_n hK rfl 2 rfl dX4_tellQuiet_32 ?_
        refine TT_iconst hK dX4_tellQuiet_33 ?_
        refine TT_icmp_ge hK (tgt := 41) (irm (by omega) (by omega)) (by decide) dX4_tellQuiet_34 (by decide) (fun hb34_3 => ?_) (fun hb34_3 => ?_)
        · refine TT_iconst hK dX4_tellQuiet_41 ?_
          refine iv_X4_80_X6 hK (s_X6_tellBit_62 17 0 w26_2 hT26_2 (by first | omega | (simp [up, setR] <;> omega)) (by first | omega | (simp [up, setR] <;> omega))) (by decide) rfl ⟨by decide, by decide⟩ (by decide) rfl rfl (Nat.le_of_ble_eq_true rfl) ⟨by decide, by decide⟩ dX4_tellQuiet_42 ?_
          intro r9 g42_4 hp9
          obtain ⟨⟨hT_4, hG_4⟩, z42_4, hr9, hz_4⟩ := hp9
          rw [hr9]
          have hF_4 : FR [62, 64, 65] h g42_4 := FR_tr hF26_2 hG_4 (by decide)
          show TT K ly 0 0 47 [(0, vR 67), (1, vI f), (2, vI w)] [vI z42_4] g42_4
          refine TT_if_ne hK (tgt := 52) (irm (by omega) (by omega)) dX4_tellQuiet_47 (by decide) (fun hb47_5 => ?_) (fun hb47_5 => ?_)
          · refine TT_aload_n hK rfl 0 rfl dX4_tellQuiet_52 ?_
            refine gf_X4_28 hK (by decide) rfl (q := 62) rfl rfl dX4_tellQuiet_53 ?_
            refine TT_bipush hK (by decide) dX4_tellQuiet_56 ?_
            refine TT_iload_n hK rfl 2 rfl dX4_tellQuiet_58 ?_
            refine TT_iconst hK dX4_tellQuiet_59 ?_
            refine TT_ishr hK (irm (by omega) (by omega)) (by omega) (by omega) dX4_tellQuiet_60 ?_
            refine TT_cgI (b := w / 2) rfl ?_
            refine TT_iconst hK dX4_tellQuiet_61 ?_
            refine TT_iand hK dX4_tellQuiet_62 ?_
            refine TT_cgI (iand_m (w / 2) 1 (by decide)) ?_
            show TT K ly 0 0 63 [(0, vR 67), (1, vI f), (2, vI w)] (vI ((w / 2) % 2) :: [vI 18, vR 62]) g42_4
            refine iv_X4_80_X6 hK (s_X6_tellBit_62 18 ((w / 2) % 2) g42_4 hT_4 (by first | omega | (simp [up, setR] <;> omega)) (by first | omega | (simp [up, setR] <;> omega))) (by decide) rfl ⟨by decide, by decide⟩ (by decide) rfl rfl (Nat.le_of_ble_eq_true rfl) ⟨by decide, by decide⟩ dX4_tellQuiet_63 ?_
            intro r9 g63_6 hp9
            obtain ⟨⟨hT_6, hG_6⟩, z63_6, hr9, hz_6⟩ := hp9
            rw [hr9]
            have hF_6 : FR [62, 64, 65] h g63_6 := FR_tr hF_4 hG_6 (by decide)
            show TT K ly 0 0 68 [(0, vR 67), (1, vI f), (2, vI w)] [vI z63_6] g63_6
            refine TT_istore_n hK rfl (lv' := [(3, vI z63_6), (0, vR 67), (1, vI f), (2, vI w)]) (by decide) rfl dX4_tellQuiet_68 ?_
            refine TT_aload_n hK rfl 1 rfl dX4_tellQuiet_69 ?_
            refine gf_X4_28 hK (by decide) rfl (q := 62) rfl rfl dX4_tellQuiet_70 ?_
            refine TT_bipush hK (by decide) dX4_tellQuiet_73 ?_
            refine TT_iload_n hK rfl 3 rfl dX4_tellQuiet_75 ?_
            refine TT_iconst hK dX4_tellQuiet_76 ?_
            refine TT_iand hK dX4_tellQuiet_77 ?_
            refine TT_cgI (iand_m w 1 (by decide)) ?_
            show TT K ly 0 0 78 [(3, vI z63_6), (0, vR 67), (1, vI f), (2, vI w)] (vI (w % 2) :: [vI 18, vR 62]) g63_6
            refine iv_X4_80_X6 hK (s_X6_tellBit_62 18 (w % 2) g63_6 hT_6 (by first | omega | (simp [up, setR] <;> omega)) (by first | omega | (simp [up, setR] <;> omega))) (by decide) rfl ⟨by decide, by decide⟩ (by decide) rfl rfl (Nat.le_of_ble_eq_true rfl) ⟨by decide, by decide⟩ dX4_tellQuiet_78 ?_
            intro r9 g78_7 hp9
            obtain ⟨⟨hT_7, hG_7⟩, z78_7, hr9, hz_7⟩ := hp9
            rw [hr9]
            have hF_7 : FR [62, 64, 65] h g78_7 := FR_tr hF_6 hG_7 (by decide)
            show TT K ly 0 0 83 [(3, vI z63_6), (0, vR 67), (1, vI f), (2, vI w)] [vI z78_7] g78_7
            refine TT_istore hK (lv' := [(4, vI z78_7), (3, vI z63_6), (0, vR 67), (1, vI f), (2, vI w)]) (by decide) rfl dX4_tellQuiet_83 ?_
            refine TT_iconst hK dX4_tellQuiet_85 ?_
            refine TT_iload_n hK rfl 1 rfl dX4_tellQuiet_86 ?_
            refine TT_imul hK dX4_tellQuiet_87 ?_
            refine TT_iload hK 0 rfl dX4_tellQuiet_88 ?_
            refine TT_iadd hK dX4_tellQuiet_90 ?_
            refine TT_iret hK hQ ?_ dX4_tellQuiet_91
            exact ⟨⟨hT_7, hF_7⟩, ((2 * z63_6) + z78_7), rfl, (by omega)⟩
          · refine TT_iconst hK dX4_tellQuiet_50 ?_
            refine TT_iret hK hQ ?_ dX4_tellQuiet_51
            exact ⟨⟨hT_4, hF_4⟩, 4, rfl, (by omega)⟩
        · refine TT_iconst hK dX4_tellQuiet_37 ?_
          refine TT_goto hK (tgt := 42) dX4_tellQuiet_38 (by decide) ?_
          refine iv_X4_80_X6 hK (s_X6_tellBit_62 17 1 w26_2 hT26_2 (by first | omega | (simp [up, setR] <;> omega)) (by first | omega | (simp [up, setR] <;> omega))) (by decide) rfl ⟨by decide, by decide⟩ (by decide) rfl rfl (Nat.le_of_ble_eq_true rfl) ⟨by decide, by decide⟩ dX4_tellQuiet_42 ?_
          intro r9 g42_8 hp9
          obtain ⟨⟨hT_8, hG_8⟩, z42_8, hr9, hz_8⟩ := hp9
          rw [hr9]
          have hF_8 : FR [62, 64, 65] h g42_8 := FR_tr hF26_2 hG_8 (by decide)
          show TT K ly 0 0 47 [(0, vR 67), (1, vI f), (2, vI w)] [vI z42_8] g42_8
          refine TT_if_ne hK (tgt := 52) (irm (by omega) (by omega)) dX4_tellQuiet_47 (by decide) (fun hb47_9 => ?_) (fun hb47_9 => ?_)
          · refine TT_aload_n hK rfl 0 rfl dX4_tellQuiet_52 ?_
            refine gf_X4_28 hK (by decide) rfl (q := 62) rfl rfl dX4_tellQuiet_53 ?_
            refine TT_bipush hK (by decide) dX4_tellQuiet_56 ?_
            refine TT_iload_n hK rfl 2 rfl dX4_tellQuiet_58 ?_
            refine TT_iconst hK dX4_tellQuiet_59 ?_
            refine TT_ishr hK (irm (by omega) (by omega)) (by omega) (by omega) dX4_tellQuiet_60 ?_
            refine TT_cgI (b := w / 2) rfl ?_
            refine TT_iconst hK dX4_tellQuiet_61 ?_
            refine TT_iand hK dX4_tellQuiet_62 ?_
            refine TT_cgI (iand_m (w / 2) 1 (by decide)) ?_
            show TT K ly 0 0 63 [(0, vR 67), (1, vI f), (2, vI w)] (vI ((w / 2) % 2) :: [vI 18, vR 62]) g42_8
            refine iv_X4_80_X6 hK (s_X6_tellBit_62 18 ((w / 2) % 2) g42_8 hT_8 (by first | omega | (simp [up, setR] <;> omega)) (by first | omega | (simp [up, setR] <;> omega))) (by decide) rfl ⟨by decide, by decide⟩ (by decide) rfl rfl (Nat.le_of_ble_eq_true rfl) ⟨by decide, by decide⟩ dX4_tellQuiet_63 ?_
            intro r9 g63_10 hp9
            obtain ⟨⟨hT_10, hG_10⟩, z63_10, hr9, hz_10⟩ := hp9
            rw [hr9]
            have hF_10 : FR [62, 64, 65] h g63_10 := FR_tr hF_8 hG_10 (by decide)
            show TT K ly 0 0 68 [(0, vR 67), (1, vI f), (2, vI w)] [vI z63_10] g63_10
            refine TT_istore_n hK rfl (lv' := [(3, vI z63_10), (0, vR 67), (1, vI f), (2, vI w)]) (by decide) rfl dX4_tellQuiet_68 ?_
            refine TT_aload_n hK rfl 1 rfl dX4_tellQuiet_69 ?_
            refine gf_X4_28 hK (by decide) rfl (q := 62) rfl rfl dX4_tellQuiet_70 ?_
            refine TT_bipush hK (by decide) dX4_tellQuiet_73 ?_
            refine TT_iload_n hK rfl 3 rfl dX4_tellQuiet_75 ?_
            refine TT_iconst hK dX4_tellQuiet_76 ?_
            refine TT_iand hK dX4_tellQuiet_77 ?_
            refine TT_cgI (iand_m w 1 (by decide)) ?_
            show TT K ly 0 0 78 [(3, vI z63_10), (0, vR 67), (1, vI f), (2, vI w)] (vI (w % 2) :: [vI 18, vR 62]) g63_10
            refine iv_X4_80_X6 hK (s_X6_tellBit_62 18 (w % 2) g63_10 hT_10 (by first | omega | (simp [up, setR] <;> omega)) (by first | omega | (simp [up, setR] <;> omega))) (by decide) rfl ⟨by decide, by decide⟩ (by decide) rfl rfl (Nat.le_of_ble_eq_true rfl) ⟨by decide, by decide⟩ dX4_tellQuiet_78 ?_
            intro r9 g78_11 hp9
            obtain ⟨⟨hT_11, hG_11⟩, z78_11, hr9, hz_11⟩ := hp9
            rw [hr9]
            have hF_11 : FR [62, 64, 65] h g78_11 := FR_tr hF_10 hG_11 (by decide)
            show TT K ly 0 0 83 [(3, vI z63_10), (0, vR 67), (1, vI f), (2, vI w)] [vI z78_11] g78_11
            refine TT_istore hK (lv' := [(4, vI z78_11), (3, vI z63_10), (0, vR 67), (1, vI f), (2, vI w)]) (by decide) rfl dX4_tellQuiet_83 ?_
            refine TT_iconst hK dX4_tellQuiet_85 ?_
            refine TT_iload_n hK rfl 1 rfl dX4_tellQuiet_86 ?_
            refine TT_imul hK dX4_tellQuiet_87 ?_
            refine TT_iload hK 0 rfl dX4_tellQuiet_88 ?_
            refine TT_iadd hK dX4_tellQuiet_90 ?_
            refine TT_iret hK hQ ?_ dX4_tellQuiet_91
            exact ⟨⟨hT_11, hF_11⟩, ((2 * z63_10) + z78_11), rfl, (by omega)⟩
          · refine TT_iconst hK dX4_tellQuiet_50 ?_
            refine TT_iret hK hQ ?_ dX4_tellQuiet_51
            exact ⟨⟨hT_8, hF_8⟩, 4, rfl, (by omega)⟩
      refine TT_iload_n hK rfl 2 rfl dX4_tellQuiet_2 ?_
      refine TT_iconst hK dX4_tellQuiet_3 ?_
      refine TT_icmp_ge hK (tgt := 26) (irm (by omega) (by omega)) (by decide) dX4_tellQuiet_4 (by decide) (fun hb4_12 => ?_) (fun hb4_12 => ?_)
      · exact J26_2 i w2_1 hT2_1 hF2_1 (by first | omega | (simp [up, setR] <;> omega))
      · refine TT_aload_n hK rfl 0 rfl dX4_tellQuiet_7 ?_
        refine TT_iload_n hK rfl 1 rfl dX4_tellQuiet_8 ?_
        refine TT_iload_n hK rfl 2 rfl dX4_tellQuiet_9 ?_
        refine TT_bipush hK (by decide) dX4_tellQuiet_10 ?_
        refine TT_imul hK dX4_tellQuiet_12 ?_
        refine TT_iadd hK dX4_tellQuiet_13 ?_
        refine iv_X4_77 hK (s_X4_meantBit_67 (f + (i * 10)) w2_1 hT2_1 (by first | omega | (simp [up, setR] <;> omega))) (by decide) rfl ⟨by decide, by decide⟩ (by decide) rfl rfl (Nat.le_of_ble_eq_true rfl) ⟨by decide, by decide⟩ dX4_tellQuiet_14 ?_
        intro r9 g14_13 hp9
        obtain ⟨⟨hT_13, hG_13⟩, z14_13, hr9, hz_13⟩ := hp9
        rw [hr9]
        have hF_13 : FR [62, 64, 65] h g14_13 := FR_tr hF2_1 hG_13 (by decide)
        show TT K ly 0 0 17 [(0, vR 67), (1, vI f), (2, vI i)] [vI z14_13] g14_13
        refine TT_if_ne hK (tgt := 26) (irm (by omega) (by omega)) dX4_tellQuiet_17 (by decide) (fun hb17_14 => ?_) (fun hb17_14 => ?_)
        · exact J26_2 i g14_13 hT_13 hF_13 (by first | omega | (simp [up, setR] <;> omega))
        · refine TT_iinc hK (v := i + 1) (lv' := [(2, vI (i + 1)), (0, vR 67), (1, vI f)]) 2 rfl rfl (by decide) rfl dX4_tellQuiet_20 ?_
          refine TT_goto hK (tgt := 2) dX4_tellQuiet_23 (by decide) ?_
          refine TT_sub [1, 2, 0] rfl ?_
          exact ih1 (i + 1) g14_13 hT_13 hF_13 (by first | omega | (simp [up, setR] <;> omega)) (by first | omega | (simp [up, setR] <;> omega))
  refine TT_sub [1, 2, 0] rfl ?_
  exact L2_1 ((((4 : Int) - 0).toNat) + 1) 0 h hT hF (by first | omega | (simp [up, setR] <;> omega)) (Nat.lt_succ_self _)
set_option maxRecDepth 20000 in
theorem s_X4_cleanColumn_67 (f n : Int) (h : Hp_) (hT : TY h) (hf : 11 ≤ f ∧ f + 10 * (n - 1) ≤ 88) (hn : 0 ≤ n ∧ n ≤ 4) : Ctr yX4_cleanColumn cX4_cleanColumn 6 none (rmd 3) ly ly 0 0 [vR 67, vI f, vI n] h (fun r h' => (TY h' ∧ FR [62, 64, 65, 69, 70] h h') ∧ r = none) := by
  refine Ctr_of (by decide) (Nat.le_of_ble_eq_true rfl) ⟨Nat.le_refl _, Nat.le_refl _⟩ (fun K hK hQ _ => ?_)
  show TT K ly 0 0 0 [(0, vR 67), (1, vI f), (2, vI n)] [] h
  have hF : FR [62, 64, 65, 69, 70] h h := FR_rf _ _
  refine TT_iconst hK dX4_cleanColumn_0 ?_
  refine TT_istore_n hK rfl (lv' := [(3, vI 0), (0, vR 67), (1, vI f), (2, vI n)]) (by decide) rfl dX4_cleanColumn_1 ?_
  have J44_1 : ∀ (nx : Int) (w44_1 : Hp_), TY w44_1 → FR [62, 64, 65, 69, 70] h w44_1 → (0 ≤ nx ∧ nx ≤ 5) → TT K ly 0 0 44 [(0, vR 67), (1, vI f), (2, vI n), (3, vI nx)] [] w44_1 := by
    intro nx w44_1 hT44_1 hF44_1 hnx
    refine TT_iload_n hK rfl 3 rfl dX4_cleanColumn_44 ?_
    refine TT_istore hK (lv' := [(4, vI nx), (0, vR 67), (1, vI f), (2, vI n), (3, vI nx)]) (by decide) rfl dX4_cleanColumn_45 ?_
    have L47_2 : ∀ (k2 : Nat) (i : Int) (w47_2 : Hp_), TY w47_2 → FR [62, 64, 65, 69, 70] h w47_2 → (0 ≤ i ∧ i ≤ 5) → ((4 : Int) - i).toNat < k2 → TT K ly 0 0 47 [(0, vR 67), (1, vI f), (2, vI n), (3, vI nx), (4, vI i)] [] w47_2 := by
      intro k2
      induction k2 with
      | zero => intro i w47_2 hT47_2 hF47_2 hi hk2; exact absurd hk2 (Nat.not_lt_zero _)
      | succ k2 ih2 =>
        intro i w47_2 hT47_2 hF47_2 hi hk2
        refine TT_iload hK 4 rfl dX4_cleanColumn_47 ?_
        refine TT_iload_n hK rfl 2 rfl dX4_cleanColumn_49 ?_
        refine TT_icmp_ge hK (tgt := 119) (irm (by omega) (by omega)) (irm (by omega) (by omega)) dX4_cleanColumn_50 (by decide) (fun hb50_3 => ?_) (fun hb50_3 => ?_)
        · refine TT_vret hK hQ ?_ dX4_cleanColumn_119
          exact ⟨⟨hT47_2, hF47_2⟩, rfl⟩
        · refine TT_iload_n hK rfl 1 rfl dX4_cleanColumn_53 ?_
          refine TT_iload hK 4 rfl dX4_cleanColumn_54 ?_
          refine TT_bipush hK (by decide) dX4_cleanColumn_56 ?_
          refine TT_imul hK dX4_cleanColumn_58 ?_
          refine TT_iadd hK dX4_cleanColumn_59 ?_
          refine TT_istore hK (lv' := [(5, vI (f + (i * 10))), (0, vR 67), (1, vI f), (2, vI n), (3, vI nx), (4, vI i)]) (by decide) rfl dX4_cleanColumn_60 ?_
          refine TT_aload_n hK rfl 1 rfl dX4_cleanColumn_62 ?_
          refine gf_X4_18 hK (by decide) rfl (q := 70) rfl rfl dX4_cleanColumn_63 ?_
          refine TT_iload hK 0 rfl dX4_cleanColumn_66 ?_
          refine TT_iald hK (o := 70) (n := 100) (by decide) rfl (by first | omega | (simp [up, setR] <;> omega)) (by first | omega | (simp [up, setR] <;> omega)) (v := (w47_2 70) (f + (i * 10))) rfl dX4_cleanColumn_68 ?_
          have r4 := ty_70 (i := f + (i * 10)) (v := (w47_2 70) (f + (i * 10))) hT47_2 rfl (by omega) (by omega)
          refine TT_if_ne hK (tgt := 113) (irm (by omega) (by omega)) dX4_cleanColumn_69 (by decide) (fun hb69_5 => ?_) (fun hb69_5 => ?_)
          · refine TT_iinc hK (v := i + 1) (lv' := [(4, vI (i + 1)), (5, vI (f + (i * 10))), (0, vR 67), (1, vI f), (2, vI n), (3, vI nx)]) 5 rfl rfl (by decide) rfl dX4_cleanColumn_113 ?_
            refine TT_goto hK (tgt := 47) dX4_cleanColumn_116 (by decide) ?_
            refine TT_sub [2, 3, 4, 5, 0] rfl ?_
            exact ih2 (i + 1) w47_2 hT47_2 hF47_2 (by first | omega | (simp [up, setR] <;> omega)) (by first | omega | (simp [up, setR] <;> omega))
          · refine TT_aload_n hK rfl 1 rfl dX4_cleanColumn_72 ?_
            refine gf_X4_21 hK (by decide) rfl (q := 71) rfl rfl dX4_cleanColumn_73 ?_
            refine TT_iload hK 0 rfl dX4_cleanColumn_76 ?_
            refine TT_zald hK (o := 71) (n := 100) (by decide) rfl (by first | omega | (simp [up, setR] <;> omega)) (by first | omega | (simp [up, setR] <;> omega)) (v := (h 71) (f + (i * 10))) (rd_ (hF47_2 71 (by decide)) rfl) dX4_cleanColumn_78 ?_
            have r6 := ty_71 (i := f + (i * 10)) (v := (h 71) (f + (i * 10))) hT47_2 (rd_ (hF47_2 71 (by decide)) rfl) (by omega) (by omega)
            refine TT_if_ne hK (tgt := 113) (irm (by omega) (by omega)) dX4_cleanColumn_79 (by decide) (fun hb79_7 => ?_) (fun hb79_7 => ?_)
            · refine TT_iinc hK (v := i + 1) (lv' := [(4, vI (i + 1)), (5, vI (f + (i * 10))), (0, vR 67), (1, vI f), (2, vI n), (3, vI nx)]) 5 rfl rfl (by decide) rfl dX4_cleanColumn_113 ?_
              refine TT_goto hK (tgt := 47) dX4_cleanColumn_116 (by decide) ?_
              refine TT_sub [2, 3, 4, 5, 0] rfl ?_
              exact ih2 (i + 1) w47_2 hT47_2 hF47_2 (by first | omega | (simp [up, setR] <;> omega)) (by first | omega | (simp [up, setR] <;> omega))
            · refine TT_aload_n hK rfl 1 rfl dX4_cleanColumn_82 ?_
              refine gf_X4_28 hK (by decide) rfl (q := 62) rfl rfl dX4_cleanColumn_83 ?_
              refine TT_aload_n hK rfl 1 rfl dX4_cleanColumn_86 ?_
              refine TT_iload hK 0 rfl dX4_cleanColumn_87 ?_
              refine iv_X4_73 hK (s_X4_contextOf_67 (f + (i * 10)) w47_2 hT47_2 (by first | omega | (simp [up, setR] <;> omega))) (by decide) rfl ⟨by decide, by decide⟩ (by decide) rfl rfl (Nat.le_of_ble_eq_true rfl) ⟨by decide, by decide⟩ dX4_cleanColumn_89 ?_
              intro r9 g89_8 hp9
              obtain ⟨⟨hT_8, hG_8⟩, z89_8, hr9, hz_8⟩ := hp9
              rw [hr9]
              have hF_8 : FR [62, 64, 65, 69, 70] h g89_8 := FR_tr hF47_2 hG_8 (by decide)
              show TT K ly 0 0 92 [(5, vI (f + (i * 10))), (0, vR 67), (1, vI f), (2, vI n), (3, vI nx), (4, vI i)] [vI z89_8, vR 62] g89_8
              refine TT_aload_n hK rfl 1 rfl dX4_cleanColumn_92 ?_
              refine TT_iload hK 0 rfl dX4_cleanColumn_93 ?_
              refine iv_X4_77 hK (s_X4_meantBit_67 (f + (i * 10)) g89_8 hT_8 (by first | omega | (simp [up, setR] <;> omega))) (by decide) rfl ⟨by decide, by decide⟩ (by decide) rfl rfl (Nat.le_of_ble_eq_true rfl) ⟨by decide, by decide⟩ dX4_cleanColumn_95 ?_
              intro r9 g95_9 hp9
              obtain ⟨⟨hT_9, hG_9⟩, z95_9, hr9, hz_9⟩ := hp9
              rw [hr9]
              have hF_9 : FR [62, 64, 65, 69, 70] h g95_9 := FR_tr hF_8 hG_9 (by decide)
              show TT K ly 0 0 98 [(5, vI (f + (i * 10))), (0, vR 67), (1, vI f), (2, vI n), (3, vI nx), (4, vI i)] [vI z95_9, vI z89_8, vR 62] g95_9
              refine iv_X4_80_X6 hK (s_X6_tellBit_62 z89_8 z95_9 g95_9 hT_9 (by first | omega | (simp [up, setR] <;> omega)) (by first | omega | (simp [up, setR] <;> omega))) (by decide) rfl ⟨by decide, by decide⟩ (by decide) rfl rfl (Nat.le_of_ble_eq_true rfl) ⟨by decide, by decide⟩ dX4_cleanColumn_98 ?_
              intro r9 g98_10 hp9
              obtain ⟨⟨hT_10, hG_10⟩, z98_10, hr9, hz_10⟩ := hp9
              rw [hr9]
              have hF_10 : FR [62, 64, 65, 69, 70] h g98_10 := FR_tr hF_9 hG_10 (by decide)
              show TT K ly 0 0 103 [(5, vI (f + (i * 10))), (0, vR 67), (1, vI f), (2, vI n), (3, vI nx), (4, vI i)] [vI z98_10] g98_10
              refine TT_iconst hK dX4_cleanColumn_103 ?_
              refine TT_icmp_ne hK (tgt := 113) (irm (by omega) (by omega)) (by decide) dX4_cleanColumn_104 (by decide) (fun hb104_11 => ?_) (fun hb104_11 => ?_)
              · refine TT_iinc hK (v := i + 1) (lv' := [(4, vI (i + 1)), (5, vI (f + (i * 10))), (0, vR 67), (1, vI f), (2, vI n), (3, vI nx)]) 5 rfl rfl (by decide) rfl dX4_cleanColumn_113 ?_
                refine TT_goto hK (tgt := 47) dX4_cleanColumn_116 (by decide) ?_
                refine TT_sub [2, 3, 4, 5, 0] rfl ?_
                exact ih2 (i + 1) g98_10 hT_10 hF_10 (by first | omega | (simp [up, setR] <;> omega)) (by first | omega | (simp [up, setR] <;> omega))
              · refine TT_aload_n hK rfl 1 rfl dX4_cleanColumn_107 ?_
                refine TT_iload hK 0 rfl dX4_cleanColumn_108 ?_
                refine iv_X4_85 hK (s_X4_wake_67 (f + (i * 10)) g98_10 hT_10 (by first | omega | (simp [up, setR] <;> omega))) (by decide) rfl ⟨by decide, by decide⟩ (by decide) rfl rfl (Nat.le_of_ble_eq_true rfl) ⟨by decide, by decide⟩ dX4_cleanColumn_110 ?_
                intro r9 g110_12 hp9
                obtain ⟨⟨hT_12, hG_12⟩, hr9⟩ := hp9
                rw [hr9]
                have hF_12 : FR [62, 64, 65, 69, 70] h g110_12 := FR_tr hF_10 hG_12 (by decide)
                show TT K ly 0 0 113 [(5, vI (f + (i * 10))), (0, vR 67), (1, vI f), (2, vI n), (3, vI nx), (4, vI i)] [] g110_12
                refine TT_iinc hK (v := i + 1) (lv' := [(4, vI (i + 1)), (5, vI (f + (i * 10))), (0, vR 67), (1, vI f), (2, vI n), (3, vI nx)]) 5 rfl rfl (by decide) rfl dX4_cleanColumn_113 ?_
                refine TT_goto hK (tgt := 47) dX4_cleanColumn_116 (by decide) ?_
                refine TT_sub [2, 3, 4, 5, 0] rfl ?_
                exact ih2 (i + 1) g110_12 hT_12 hF_12 (by first | omega | (simp [up, setR] <;> omega)) (by first | omega | (simp [up, setR] <;> omega))
    refine TT_sub [1, 2, 3, 4, 0] rfl ?_
    exact L47_2 ((((4 : Int) - nx).toNat) + 1) nx w44_1 hT44_1 hF44_1 (by first | omega | (simp [up, setR] <;> omega)) (Nat.lt_succ_self _)
  refine TT_iload_n hK rfl 3 rfl dX4_cleanColumn_2 ?_
  refine TT_iconst hK dX4_cleanColumn_3 ?_
  refine TT_icmp_ne hK (tgt := 44) (irm (by omega) (by omega)) (by decide) dX4_cleanColumn_4 (by decide) (fun hb4_13 => ?_) (fun hb4_13 => ?_)
  · refine TT_sub [1, 2, 3, 0] rfl ?_
    exact J44_1 0 h hT hF (by first | omega | (simp [up, setR] <;> omega))
  · refine TT_aload_n hK rfl 1 rfl dX4_cleanColumn_7 ?_
    refine TT_iload_n hK rfl 2 rfl dX4_cleanColumn_8 ?_
    refine iv_X4_101 hK (s_X4_isQuiet_67 f h hT (by first | omega | (simp [up, setR] <;> omega))) (by decide) rfl ⟨by decide, by decide⟩ (by decide) rfl rfl (Nat.le_of_ble_eq_true rfl) ⟨by decide, by decide⟩ dX4_cleanColumn_9 ?_
    intro r9 g9_14 hp9
    obtain ⟨⟨hT_14, hG_14⟩, z9_14, hr9, hz_14⟩ := hp9
    rw [hr9]
    have hF_14 : FR [62, 64, 65, 69, 70] h g9_14 := FR_tr hF hG_14 (by decide)
    show TT K ly 0 0 12 [(3, vI 0), (0, vR 67), (1, vI f), (2, vI n)] [vI z9_14] g9_14
    refine TT_if_eq hK (tgt := 44) (irm (by omega) (by omega)) dX4_cleanColumn_12 (by decide) (fun hb12_15 => ?_) (fun hb12_15 => ?_)
    · refine TT_sub [1, 2, 3, 0] rfl ?_
      exact J44_1 0 g9_14 hT_14 hF_14 (by first | omega | (simp [up, setR] <;> omega))
    · refine TT_aload_n hK rfl 1 rfl dX4_cleanColumn_15 ?_
      refine TT_iload_n hK rfl 2 rfl dX4_cleanColumn_16 ?_
      refine iv_X4_105 hK (s_X4_tellQuiet_67 f g9_14 hT_14 (by first | omega | (simp [up, setR] <;> omega))) (by decide) rfl ⟨by decide, by decide⟩ (by decide) rfl rfl (Nat.le_of_ble_eq_true rfl) ⟨by decide, by decide⟩ dX4_cleanColumn_17 ?_
      intro r9 g17_16 hp9
      obtain ⟨⟨hT_16, hG_16⟩, z17_16, hr9, hz_16⟩ := hp9
      rw [hr9]
      have hF_16 : FR [62, 64, 65, 69, 70] h g17_16 := FR_tr hF_14 hG_16 (by decide)
      show TT K ly 0 0 20 [(3, vI 0), (0, vR 67), (1, vI f), (2, vI n)] [vI z17_16] g17_16
      refine TT_istore hK (lv' := [(4, vI z17_16), (3, vI 0), (0, vR 67), (1, vI f), (2, vI n)]) (by decide) rfl dX4_cleanColumn_20 ?_
      refine TT_iload hK 0 rfl dX4_cleanColumn_22 ?_
      refine TT_iconst hK dX4_cleanColumn_24 ?_
      refine TT_icmp_ge hK (tgt := 39) (irm (by omega) (by omega)) (by decide) dX4_cleanColumn_25 (by decide) (fun hb25_17 => ?_) (fun hb25_17 => ?_)
      · refine TT_iload hK 0 rfl dX4_cleanColumn_39 ?_
        refine TT_iconst hK dX4_cleanColumn_41 ?_
        refine TT_iadd hK dX4_cleanColumn_42 ?_
        refine TT_istore_n hK rfl (lv' := [(3, vI (z17_16 + 1)), (4, vI z17_16), (0, vR 67), (1, vI f), (2, vI n)]) (by decide) rfl dX4_cleanColumn_43 ?_
        refine TT_sub [2, 3, 4, 0] rfl ?_
        exact J44_1 (z17_16 + 1) g17_16 hT_16 hF_16 (by first | omega | (simp [up, setR] <;> omega))
      · refine TT_aload_n hK rfl 2 rfl dX4_cleanColumn_28 ?_
        refine TT_iload_n hK rfl 3 rfl dX4_cleanColumn_29 ?_
        refine TT_iload hK 0 rfl dX4_cleanColumn_30 ?_
        refine TT_bipush hK (by decide) dX4_cleanColumn_32 ?_
        refine TT_imul hK dX4_cleanColumn_34 ?_
        refine TT_iadd hK dX4_cleanColumn_35 ?_
        refine iv_X4_85 hK (s_X4_wake_67 (f + (z17_16 * 10)) g17_16 hT_16 (by first | omega | (simp [up, setR] <;> omega))) (by decide) rfl ⟨by decide, by decide⟩ (by decide) rfl rfl (Nat.le_of_ble_eq_true rfl) ⟨by decide, by decide⟩ dX4_cleanColumn_36 ?_
        intro r9 g36_18 hp9
        obtain ⟨⟨hT_18, hG_18⟩, hr9⟩ := hp9
        rw [hr9]
        have hF_18 : FR [62, 64, 65, 69, 70] h g36_18 := FR_tr hF_16 hG_18 (by decide)
        show TT K ly 0 0 39 [(4, vI z17_16), (3, vI 0), (0, vR 67), (1, vI f), (2, vI n)] [] g36_18
        refine TT_iload hK 0 rfl dX4_cleanColumn_39 ?_
        refine TT_iconst hK dX4_cleanColumn_41 ?_
        refine TT_iadd hK dX4_cleanColumn_42 ?_
        refine TT_istore_n hK rfl (lv' := [(3, vI (z17_16 + 1)), (4, vI z17_16), (0, vR 67), (1, vI f), (2, vI n)]) (by decide) rfl dX4_cleanColumn_43 ?_
        refine TT_sub [2, 3, 4, 0] rfl ?_
        exact J44_1 (z17_16 + 1) g36_18 hT_18 hF_18 (by first | omega | (simp [up, setR] <;> omega))
set_option maxRecDepth 20000 in
theorem s_X4_runPass_67 (k q : Int) (h : Hp_) (hT : TY h) (hk : -2147483648 ≤ k ∧ k ≤ 2147483647) (hq : 0 ≤ q ∧ q ≤ 12) : Ctr yX4_runPass cX4_runPass 7 none (rmd 4) ly ly 0 0 [vR 67, vI k, vI q] h (fun r h' => (TY h' ∧ FR [62, 64, 65, 67, 69, 70, 71, 72] h h') ∧ r = none) := by
  refine Ctr_of (by decide) (Nat.le_of_ble_eq_true rfl) ⟨Nat.le_refl _, Nat.le_refl _⟩ (fun K hK hQ _ => ?_)
  show TT K ly 0 0 0 [(0, vR 67), (1, vI k), (2, vI q)] [] h
  have hF : FR [62, 64, 65, 67, 69, 70, 71, 72] h h := FR_rf _ _
  refine TT_aload_n hK rfl 0 rfl dX4_runPass_0 ?_
  refine TT_iload_n hK rfl 2 rfl dX4_runPass_1 ?_
  refine TT_iconst hK dX4_runPass_2 ?_
  refine TT_isub hK dX4_runPass_3 ?_
  refine TT_iload_n hK rfl 1 rfl dX4_runPass_4 ?_
  refine TT_iconst hK dX4_runPass_5 ?_
  refine TT_iadd hK dX4_runPass_6 ?_
  refine TT_w32 (fun x7_1 hx1 => ?_)
  refine TT_iconst hK dX4_runPass_7 ?_
  refine TT_idiv hK (irm (by omega) (by omega)) (by decide) (by omega) dX4_runPass_8 ?_
  refine TT_w32 (fun x9_2 hx2 => ?_)
  refine TT_isub hK dX4_runPass_9 ?_
  refine TT_w32 (fun x10_3 hx3 => ?_)
  refine pf_X4_55 hK (by decide) rfl dX4_runPass_10 ?_
  refine TT_hp (h' := setO h 67 (fup (h 67) 9 x10_3)) (up_can rfl rfl rfl) ?_
  have hT_4 : TY (setO h 67 (fup (h 67) 9 x10_3)) := tu_67_9 hT (show up h 67 9 x10_3 = (setO h 67 (fup (h 67) 9 x10_3)) from up_can rfl rfl rfl) (by omega)
  have hF_4 : FR [62, 64, 65, 67, 69, 70, 71, 72] h (setO h 67 (fup (h 67) 9 x10_3)) := FR_up (show up h 67 9 x10_3 = (setO h 67 (fup (h 67) 9 x10_3)) from up_can rfl rfl rfl) hF (by decide)
  refine TT_iload_n hK rfl 1 rfl dX4_runPass_13 ?_
  refine TT_iconst hK dX4_runPass_14 ?_
  refine TT_iadd hK dX4_runPass_15 ?_
  refine TT_w32 (fun x16_5 hx5 => ?_)
  refine TT_iconst hK dX4_runPass_16 ?_
  refine TT_irem hK (irm (by omega) (by omega)) (by decide) (by omega) dX4_runPass_17 ?_
  refine TT_w32 (fun x18_6 hx6 => ?_)
  refine TT_istore_n hK rfl (lv' := [(3, vI x18_6), (0, vR 67), (1, vI k), (2, vI q)]) (by decide) rfl dX4_runPass_18 ?_
  refine TT_iconst hK dX4_runPass_19 ?_
  refine TT_istore hK (lv' := [(4, vI 0), (3, vI x18_6), (0, vR 67), (1, vI k), (2, vI q)]) (by decide) rfl dX4_runPass_20 ?_
  have L22_7 : ∀ (k7 : Nat) (y : Int) (w22_7 : Hp_), TY w22_7 → FR [62, 64, 65, 67, 69, 70, 71, 72] h w22_7 → (0 ≤ y ∧ y ≤ 11) → ((8 : Int) - y).toNat < k7 → TT K ly 0 0 22 [(0, vR 67), (1, vI k), (2, vI q), (3, vI x18_6), (4, vI y)] [] w22_7 := by
    intro k7
    induction k7 with
    | zero => intro y w22_7 hT22_7 hF22_7 hy hk7; exact absurd hk7 (Nat.not_lt_zero _)
    | succ k7 ih7 =>
      intro y w22_7 hT22_7 hF22_7 hy hk7
      refine TT_iload hK 4 rfl dX4_runPass_22 ?_
      refine TT_aload_n hK rfl 0 rfl dX4_runPass_24 ?_
      refine gf_X4_36 hK (by decide) rfl (v := (w22_7 67) 7) rfl dX4_runPass_25 ?_
      have r8 := ty_67_7 (v := (w22_7 67) 7) hT22_7 rfl
      refine TT_icmp_ge hK (tgt := 122) (irm (by omega) (by omega)) (irm (by omega) (by omega)) dX4_runPass_28 (by decide) (fun hb28_9 => ?_) (fun hb28_9 => ?_)
      · refine TT_iload_n hK rfl 3 rfl dX4_runPass_122 ?_
        refine TT_iconst hK dX4_runPass_123 ?_
        refine TT_icmp_ne hK (tgt := 131) (irm (by omega) (by omega)) (by decide) dX4_runPass_124 (by decide) (fun hb124_10 => ?_) (fun hb124_10 => ?_)
        · refine TT_vret hK hQ ?_ dX4_runPass_131
          exact ⟨⟨hT22_7, hF22_7⟩, rfl⟩
        · refine TT_aload_n hK rfl 0 rfl dX4_runPass_127 ?_
          refine iv_X4_48 hK (s_X4_clearTold_67 w22_7 hT22_7 ) (by decide) rfl ⟨by decide, by decide⟩ (by decide) rfl rfl (Nat.le_of_ble_eq_true rfl) ⟨by decide, by decide⟩ dX4_runPass_128 ?_
          intro r9 g128_11 hp9
          obtain ⟨⟨hT_11, hG_11⟩, hr9⟩ := hp9
          rw [hr9]
          have hF_11 : FR [62, 64, 65, 67, 69, 70, 71, 72] h g128_11 := FR_tr hF22_7 hG_11 (by decide)
          show TT K ly 0 0 131 [(0, vR 67), (1, vI k), (2, vI q), (3, vI x18_6), (4, vI y)] [] g128_11
          refine TT_vret hK hQ ?_ dX4_runPass_131
          exact ⟨⟨hT_11, hF_11⟩, rfl⟩
      · refine TT_iconst hK dX4_runPass_31 ?_
        refine TT_aload_n hK rfl 0 rfl dX4_runPass_32 ?_
        refine gf_X4_36 hK (by decide) rfl (v := (w22_7 67) 7) rfl dX4_runPass_33 ?_
        refine TT_iload hK 4 rfl dX4_runPass_36 ?_
        refine TT_isub hK dX4_runPass_38 ?_
        refine TT_mmin hK (by decide) (irm (by omega) (by omega)) iw_X4_58 (by decide) (Nat.le_of_ble_eq_true rfl) ⟨by decide, by decide⟩ dX4_runPass_39 ?_
        refine TT_istore hK (lv' := [(5, vI (min 4 (((w22_7 67) 7) - y))), (0, vR 67), (1, vI k), (2, vI q), (3, vI x18_6), (4, vI y)]) (by decide) rfl dX4_runPass_42 ?_
        refine TT_iconst hK dX4_runPass_44 ?_
        refine TT_istore hK (lv' := [(6, vI 0), (5, vI (min 4 (((w22_7 67) 7) - y))), (0, vR 67), (1, vI k), (2, vI q), (3, vI x18_6), (4, vI y)]) (by decide) rfl dX4_runPass_45 ?_
        have L47_12 : ∀ (k12 : Nat) (x : Int) (w47_12 : Hp_), TY w47_12 → FR [62, 64, 65, 67, 69, 70, 71, 72] h w47_12 → (0 ≤ x ∧ x ≤ 8) → ((8 : Int) - x).toNat < k12 → TT K ly 0 0 47 [(0, vR 67), (1, vI k), (2, vI q), (3, vI x18_6), (4, vI y), (5, vI (min 4 (((w22_7 67) 7) - y))), (6, vI x)] [] w47_12 := by
          intro k12
          induction k12 with
          | zero => intro x w47_12 hT47_12 hF47_12 hx hk12; exact absurd hk12 (Nat.not_lt_zero _)
          | succ k12 ih12 =>
            intro x w47_12 hT47_12 hF47_12 hx hk12
            refine TT_iload hK 6 rfl dX4_runPass_47 ?_
            refine TT_aload_n hK rfl 0 rfl dX4_runPass_49 ?_
            refine gf_X4_32 hK (by decide) rfl (v := (w47_12 67) 6) rfl dX4_runPass_50 ?_
            have r13 := ty_67_6 (v := (w47_12 67) 6) hT47_12 rfl
            refine TT_icmp_ge hK (tgt := 116) (irm (by omega) (by omega)) (irm (by omega) (by omega)) dX4_runPass_53 (by decide) (fun hb53_14 => ?_) (fun hb53_14 => ?_)
            · refine TT_iinc hK (v := y + 4) (lv' := [(4, vI (y + 4)), (0, vR 67), (1, vI k), (2, vI q), (3, vI x18_6), (5, vI (min 4 (((w22_7 67) 7) - y))), (6, vI x)]) 4 rfl rfl (by decide) rfl dX4_runPass_116 ?_
              refine TT_goto hK (tgt := 22) dX4_runPass_119 (by decide) ?_
              refine TT_sub [1, 2, 3, 4, 0] rfl ?_
              exact ih7 (y + 4) w47_12 hT47_12 hF47_12 (by first | omega | (simp [up, setR] <;> omega)) (by first | omega | (simp [up, setR] <;> omega))
            · refine TT_iload_n hK rfl 3 rfl dX4_runPass_56 ?_
              refine TT_if_ne hK (tgt := 76) (irm (by omega) (by omega)) dX4_runPass_57 (by decide) (fun hb57_15 => ?_) (fun hb57_15 => ?_)
              · refine TT_iload_n hK rfl 3 rfl dX4_runPass_76 ?_
                refine TT_iconst hK dX4_runPass_77 ?_
                refine TT_icmp_ne hK (tgt := 97) (irm (by omega) (by omega)) (by decide) dX4_runPass_78 (by decide) (fun hb78_16 => ?_) (fun hb78_16 => ?_)
                · refine TT_aload_n hK rfl 0 rfl dX4_runPass_97 ?_
                  refine TT_iload hK 6 rfl dX4_runPass_98 ?_
                  refine TT_iload hK 4 rfl dX4_runPass_100 ?_
                  refine iv_X4_51 hK (s_X4_place x y w47_12 hT47_12 (by first | omega | (simp [up, setR] <;> omega)) (by first | omega | (simp [up, setR] <;> omega))) ⟨by decide, by decide⟩ (by decide) rfl rfl (Nat.le_of_ble_eq_true rfl) ⟨by decide, by decide⟩ dX4_runPass_102 ?_
                  intro r9 g102_17 hp9
                  obtain ⟨⟨hT_17, hG_17⟩, z102_17, hr9, hz_17, p1_17⟩ := hp9
                  rw [hr9]
                  have hF_17 : FR [62, 64, 65, 67, 69, 70, 71, 72] h g102_17 := FR_tr hF47_12 hG_17 (by decide)
                  show TT K ly 0 0 105 [(0, vR 67), (1, vI k), (2, vI q), (3, vI x18_6), (4, vI y), (5, vI (min 4 (((w22_7 67) 7) - y))), (6, vI x)] [vI z102_17, vR 67] g102_17
                  refine TT_iload hK 5 rfl dX4_runPass_105 ?_
                  refine iv_X4_70 hK (s_X4_cleanColumn_67 z102_17 (min 4 (((w22_7 67) 7) - y)) g102_17 hT_17 (by first | omega | (simp [up, setR] <;> omega)) (by first | omega | (simp [up, setR] <;> omega))) (by decide) rfl ⟨by decide, by decide⟩ (by decide) rfl rfl (Nat.le_of_ble_eq_true rfl) ⟨by decide, by decide⟩ dX4_runPass_107 ?_
                  intro r9 g107_18 hp9
                  obtain ⟨⟨hT_18, hG_18⟩, hr9⟩ := hp9
                  rw [hr9]
                  have hF_18 : FR [62, 64, 65, 67, 69, 70, 71, 72] h g107_18 := FR_tr hF_17 hG_18 (by decide)
                  show TT K ly 0 0 110 [(0, vR 67), (1, vI k), (2, vI q), (3, vI x18_6), (4, vI y), (5, vI (min 4 (((w22_7 67) 7) - y))), (6, vI x)] [] g107_18
                  refine TT_iinc hK (v := x + 1) (lv' := [(6, vI (x + 1)), (0, vR 67), (1, vI k), (2, vI q), (3, vI x18_6), (4, vI y), (5, vI (min 4 (((w22_7 67) 7) - y)))]) 6 rfl rfl (by decide) rfl dX4_runPass_110 ?_
                  refine TT_goto hK (tgt := 47) dX4_runPass_113 (by decide) ?_
                  refine TT_sub [1, 2, 3, 4, 5, 6, 0] rfl ?_
                  exact ih12 (x + 1) g107_18 hT_18 hF_18 (by first | omega | (simp [up, setR] <;> omega)) (by first | omega | (simp [up, setR] <;> omega))
                · refine TT_aload_n hK rfl 0 rfl dX4_runPass_81 ?_
                  refine TT_iload hK 6 rfl dX4_runPass_82 ?_
                  refine TT_iload hK 4 rfl dX4_runPass_84 ?_
                  refine iv_X4_51 hK (s_X4_place x y w47_12 hT47_12 (by first | omega | (simp [up, setR] <;> omega)) (by first | omega | (simp [up, setR] <;> omega))) ⟨by decide, by decide⟩ (by decide) rfl rfl (Nat.le_of_ble_eq_true rfl) ⟨by decide, by decide⟩ dX4_runPass_86 ?_
                  intro r9 g86_19 hp9
                  obtain ⟨⟨hT_19, hG_19⟩, z86_19, hr9, hz_19, p1_19⟩ := hp9
                  rw [hr9]
                  have hF_19 : FR [62, 64, 65, 67, 69, 70, 71, 72] h g86_19 := FR_tr hF47_12 hG_19 (by decide)
                  show TT K ly 0 0 89 [(0, vR 67), (1, vI k), (2, vI q), (3, vI x18_6), (4, vI y), (5, vI (min 4 (((w22_7 67) 7) - y))), (6, vI x)] [vI z86_19, vR 67] g86_19
                  refine TT_iload hK 5 rfl dX4_runPass_89 ?_
                  refine iv_X4_67 hK (s_X4_refineColumn_67 z86_19 (min 4 (((w22_7 67) 7) - y)) g86_19 hT_19 (by first | omega | (simp [up, setR] <;> omega)) (by first | omega | (simp [up, setR] <;> omega))) (by decide) rfl ⟨by decide, by decide⟩ (by decide) rfl rfl (Nat.le_of_ble_eq_true rfl) ⟨by decide, by decide⟩ dX4_runPass_91 ?_
                  intro r9 g91_20 hp9
                  obtain ⟨⟨hT_20, hG_20⟩, hr9⟩ := hp9
                  rw [hr9]
                  have hF_20 : FR [62, 64, 65, 67, 69, 70, 71, 72] h g91_20 := FR_tr hF_19 hG_20 (by decide)
                  show TT K ly 0 0 94 [(0, vR 67), (1, vI k), (2, vI q), (3, vI x18_6), (4, vI y), (5, vI (min 4 (((w22_7 67) 7) - y))), (6, vI x)] [] g91_20
                  refine TT_goto hK (tgt := 110) dX4_runPass_94 (by decide) ?_
                  refine TT_iinc hK (v := x + 1) (lv' := [(6, vI (x + 1)), (0, vR 67), (1, vI k), (2, vI q), (3, vI x18_6), (4, vI y), (5, vI (min 4 (((w22_7 67) 7) - y)))]) 6 rfl rfl (by decide) rfl dX4_runPass_110 ?_
                  refine TT_goto hK (tgt := 47) dX4_runPass_113 (by decide) ?_
                  refine TT_sub [1, 2, 3, 4, 5, 6, 0] rfl ?_
                  exact ih12 (x + 1) g91_20 hT_20 hF_20 (by first | omega | (simp [up, setR] <;> omega)) (by first | omega | (simp [up, setR] <;> omega))
              · refine TT_aload_n hK rfl 0 rfl dX4_runPass_60 ?_
                refine TT_iload hK 6 rfl dX4_runPass_61 ?_
                refine TT_iload hK 4 rfl dX4_runPass_63 ?_
                refine iv_X4_51 hK (s_X4_place x y w47_12 hT47_12 (by first | omega | (simp [up, setR] <;> omega)) (by first | omega | (simp [up, setR] <;> omega))) ⟨by decide, by decide⟩ (by decide) rfl rfl (Nat.le_of_ble_eq_true rfl) ⟨by decide, by decide⟩ dX4_runPass_65 ?_
                intro r9 g65_21 hp9
                obtain ⟨⟨hT_21, hG_21⟩, z65_21, hr9, hz_21, p1_21⟩ := hp9
                rw [hr9]
                have hF_21 : FR [62, 64, 65, 67, 69, 70, 71, 72] h g65_21 := FR_tr hF47_12 hG_21 (by decide)
                show TT K ly 0 0 68 [(0, vR 67), (1, vI k), (2, vI q), (3, vI x18_6), (4, vI y), (5, vI (min 4 (((w22_7 67) 7) - y))), (6, vI x)] [vI z65_21, vR 67] g65_21
                refine TT_iload hK 5 rfl dX4_runPass_68 ?_
                refine iv_X4_63 hK (s_X4_spreadColumn_67 z65_21 (min 4 (((w22_7 67) 7) - y)) g65_21 hT_21 (by first | omega | (simp [up, setR] <;> omega)) (by first | omega | (simp [up, setR] <;> omega))) (by decide) rfl ⟨by decide, by decide⟩ (by decide) rfl rfl (Nat.le_of_ble_eq_true rfl) ⟨by decide, by decide⟩ dX4_runPass_70 ?_
                intro r9 g70_22 hp9
                obtain ⟨⟨hT_22, hG_22⟩, hr9⟩ := hp9
                rw [hr9]
                have hF_22 : FR [62, 64, 65, 67, 69, 70, 71, 72] h g70_22 := FR_tr hF_21 hG_22 (by decide)
                show TT K ly 0 0 73 [(0, vR 67), (1, vI k), (2, vI q), (3, vI x18_6), (4, vI y), (5, vI (min 4 (((w22_7 67) 7) - y))), (6, vI x)] [] g70_22
                refine TT_goto hK (tgt := 110) dX4_runPass_73 (by decide) ?_
                refine TT_iinc hK (v := x + 1) (lv' := [(6, vI (x + 1)), (0, vR 67), (1, vI k), (2, vI q), (3, vI x18_6), (4, vI y), (5, vI (min 4 (((w22_7 67) 7) - y)))]) 6 rfl rfl (by decide) rfl dX4_runPass_110 ?_
                refine TT_goto hK (tgt := 47) dX4_runPass_113 (by decide) ?_
                refine TT_sub [1, 2, 3, 4, 5, 6, 0] rfl ?_
                exact ih12 (x + 1) g70_22 hT_22 hF_22 (by first | omega | (simp [up, setR] <;> omega)) (by first | omega | (simp [up, setR] <;> omega))
        refine TT_sub [2, 3, 4, 5, 6, 1, 0] rfl ?_
        exact L47_12 ((((8 : Int) - 0).toNat) + 1) 0 w22_7 hT22_7 hF22_7 (by first | omega | (simp [up, setR] <;> omega)) (Nat.lt_succ_self _)
  refine TT_sub [2, 3, 4, 1, 0] rfl ?_
  exact L22_7 ((((8 : Int) - 0).toNat) + 1) 0 (setO h 67 (fup (h 67) 9 x10_3)) hT_4 hF_4 (by first | omega | (simp [up, setR] <;> omega)) (Nat.lt_succ_self _)

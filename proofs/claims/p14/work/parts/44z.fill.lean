set_option maxRecDepth 20000 in
theorem s_fill_29_e (v : Int) (h : Hp_) (hT : TY h) (hv : -2147483648 ≤ v ∧ v ≤ 2147483647) : Ctr yJ7_fill_53178 cJ7_fill_53178 4 none (rmd 0) ly ly 0 0 [vR 29, vI v] h (fun r h' => (TY h' ∧ FR [29] h h') ∧ r = none ∧ (∀ j : Int, 0 ≤ j → j < 100 → (h' 29) j = v)) := by
  refine Ctr_of (by decide) (Nat.le_of_ble_eq_true rfl) ⟨Nat.le_refl _, Nat.le_refl _⟩ (fun K hK hQ _ => ?_)
  show TT K ly 0 0 0 [(0, vR 29), (1, vI v)] [] h
  have hF : FR [29] h h := FR_rf _ _
  refine TT_iconst hK dJ7_fill_53178_0 ?_
  refine TT_istore_n hK rfl (lv' := [(2, vI 0), (0, vR 29), (1, vI v)]) (by decide) rfl dJ7_fill_53178_1 ?_
  refine TT_aload_n hK rfl 1 rfl dJ7_fill_53178_2 ?_
  refine TT_alen hK (o := 29) (t := 12) (n := 100) (v := 100) (by decide) rfl (by decide) rfl dJ7_fill_53178_3 ?_
  refine TT_istore_n hK rfl (lv' := [(3, vI 100), (2, vI 0), (0, vR 29), (1, vI v)]) (by decide) rfl dJ7_fill_53178_4 ?_
  have L5_1 : ∀ (k1 : Nat) (i : Int) (w5_1 : Hp_), TY w5_1 → FR [29] h w5_1 → (0 ≤ i ∧ i ≤ 100) → (∀ j : Int, 0 ≤ j → j < i → (w5_1 29) j = v) → ((100 : Int) - i).toNat < k1 → TT K ly 0 0 5 [(0, vR 29), (1, vI v), (2, vI i), (3, vI 100)] [] w5_1 := by
    intro k1
    induction k1 with
    | zero => intro i w5_1 hT5_1 hF5_1 hi hz hk1; exact absurd hk1 (Nat.not_lt_zero _)
    | succ k1 ih1 =>
      intro i w5_1 hT5_1 hF5_1 hi hz hk1
      refine TT_iload_n hK rfl 2 rfl dJ7_fill_53178_5 ?_
      refine TT_iload_n hK rfl 3 rfl dJ7_fill_53178_6 ?_
      refine TT_icmp_ge hK (tgt := 20) (irm (by omega) (by omega)) (by decide) dJ7_fill_53178_7 (by decide) (fun hb7_2 => ?_) (fun hb7_2 => ?_)
      · refine TT_vret hK hQ ?_ dJ7_fill_53178_20
        exact ⟨⟨hT5_1, hF5_1⟩, rfl, (by intro j h1 h2; exact hz j h1 (by omega))⟩
      · refine TT_aload_n hK rfl 0 rfl dJ7_fill_53178_10 ?_
        refine TT_iload_n hK rfl 2 rfl dJ7_fill_53178_11 ?_
        refine TT_iload_n hK rfl 1 rfl dJ7_fill_53178_12 ?_
        refine TT_iast hK (o := 29) (n := 100) (by decide) rfl (by omega) (by omega) dJ7_fill_53178_13 ?_
        refine TT_hp (h' := setO w5_1 29 (fup (w5_1 29) i v)) (up_can rfl rfl rfl) ?_
        have hT_3 : TY (setO w5_1 29 (fup (w5_1 29) i v)) := tu_29 hT5_1 (show up w5_1 29 i v = (setO w5_1 29 (fup (w5_1 29) i v)) from up_can rfl rfl rfl) (by omega)
        have hF_3 : FR [29] h (setO w5_1 29 (fup (w5_1 29) i v)) := FR_up (show up w5_1 29 i v = (setO w5_1 29 (fup (w5_1 29) i v)) from up_can rfl rfl rfl) hF5_1 (by decide)
        refine TT_iinc hK (v := i + 1) (lv' := [(2, vI (i + 1)), (0, vR 29), (1, vI v), (3, vI 100)]) 2 rfl rfl (by decide) rfl dJ7_fill_53178_14 ?_
        refine TT_goto hK (tgt := 5) dJ7_fill_53178_17 (by decide) ?_
        refine TT_sub [1, 2, 0, 3] rfl ?_
        have e4_29 : (setO w5_1 29 (fup (w5_1 29) i v)) 29 = fup (w5_1 29) i v := sOf_eq _ _ _
        exact ih1 (i + 1) (setO w5_1 29 (fup (w5_1 29) i v)) hT_3 hF_3 (by first | omega | (simp [up, setR] <;> omega)) (by rewrite [e4_29]; intro j h1 h2; by_cases e : j = i; (rw [e, fup_eq]); (rw [fup_ne _ _ e]; exact hz j h1 (by omega))) (by first | omega | (simp [up, setR] <;> omega))
  refine TT_sub [2, 3, 1, 0] rfl ?_
  exact L5_1 ((((100 : Int) - 0).toNat) + 1) 0 h hT hF (by first | omega | (simp [up, setR] <;> omega)) (by intro j h1 h2; exfalso; omega) (Nat.lt_succ_self _)
set_option maxRecDepth 20000 in
theorem s_fill_30_e (v : Int) (h : Hp_) (hT : TY h) (hv : -2147483648 ≤ v ∧ v ≤ 2147483647) : Ctr yJ7_fill_53178 cJ7_fill_53178 4 none (rmd 0) ly ly 0 0 [vR 30, vI v] h (fun r h' => (TY h' ∧ FR [30] h h') ∧ r = none ∧ (∀ j : Int, 0 ≤ j → j < 100 → (h' 30) j = v)) := by
  refine Ctr_of (by decide) (Nat.le_of_ble_eq_true rfl) ⟨Nat.le_refl _, Nat.le_refl _⟩ (fun K hK hQ _ => ?_)
  show TT K ly 0 0 0 [(0, vR 30), (1, vI v)] [] h
  have hF : FR [30] h h := FR_rf _ _
  refine TT_iconst hK dJ7_fill_53178_0 ?_
  refine TT_istore_n hK rfl (lv' := [(2, vI 0), (0, vR 30), (1, vI v)]) (by decide) rfl dJ7_fill_53178_1 ?_
  refine TT_aload_n hK rfl 1 rfl dJ7_fill_53178_2 ?_
  refine TT_alen hK (o := 30) (t := 12) (n := 100) (v := 100) (by decide) rfl (by decide) rfl dJ7_fill_53178_3 ?_
  refine TT_istore_n hK rfl (lv' := [(3, vI 100), (2, vI 0), (0, vR 30), (1, vI v)]) (by decide) rfl dJ7_fill_53178_4 ?_
  have L5_1 : ∀ (k1 : Nat) (i : Int) (w5_1 : Hp_), TY w5_1 → FR [30] h w5_1 → (0 ≤ i ∧ i ≤ 100) → (∀ j : Int, 0 ≤ j → j < i → (w5_1 30) j = v) → ((100 : Int) - i).toNat < k1 → TT K ly 0 0 5 [(0, vR 30), (1, vI v), (2, vI i), (3, vI 100)] [] w5_1 := by
    intro k1
    induction k1 with
    | zero => intro i w5_1 hT5_1 hF5_1 hi hz hk1; exact absurd hk1 (Nat.not_lt_zero _)
    | succ k1 ih1 =>
      intro i w5_1 hT5_1 hF5_1 hi hz hk1
      refine TT_iload_n hK rfl 2 rfl dJ7_fill_53178_5 ?_
      refine TT_iload_n hK rfl 3 rfl dJ7_fill_53178_6 ?_
      refine TT_icmp_ge hK (tgt := 20) (irm (by omega) (by omega)) (by decide) dJ7_fill_53178_7 (by decide) (fun hb7_2 => ?_) (fun hb7_2 => ?_)
      · refine TT_vret hK hQ ?_ dJ7_fill_53178_20
        exact ⟨⟨hT5_1, hF5_1⟩, rfl, (by intro j h1 h2; exact hz j h1 (by omega))⟩
      · refine TT_aload_n hK rfl 0 rfl dJ7_fill_53178_10 ?_
        refine TT_iload_n hK rfl 2 rfl dJ7_fill_53178_11 ?_
        refine TT_iload_n hK rfl 1 rfl dJ7_fill_53178_12 ?_
        refine TT_iast hK (o := 30) (n := 100) (by decide) rfl (by omega) (by omega) dJ7_fill_53178_13 ?_
        refine TT_hp (h' := setO w5_1 30 (fup (w5_1 30) i v)) (up_can rfl rfl rfl) ?_
        have hT_3 : TY (setO w5_1 30 (fup (w5_1 30) i v)) := tu_30 hT5_1 (show up w5_1 30 i v = (setO w5_1 30 (fup (w5_1 30) i v)) from up_can rfl rfl rfl) (by omega)
        have hF_3 : FR [30] h (setO w5_1 30 (fup (w5_1 30) i v)) := FR_up (show up w5_1 30 i v = (setO w5_1 30 (fup (w5_1 30) i v)) from up_can rfl rfl rfl) hF5_1 (by decide)
        refine TT_iinc hK (v := i + 1) (lv' := [(2, vI (i + 1)), (0, vR 30), (1, vI v), (3, vI 100)]) 2 rfl rfl (by decide) rfl dJ7_fill_53178_14 ?_
        refine TT_goto hK (tgt := 5) dJ7_fill_53178_17 (by decide) ?_
        refine TT_sub [1, 2, 0, 3] rfl ?_
        have e4_30 : (setO w5_1 30 (fup (w5_1 30) i v)) 30 = fup (w5_1 30) i v := sOf_eq _ _ _
        exact ih1 (i + 1) (setO w5_1 30 (fup (w5_1 30) i v)) hT_3 hF_3 (by first | omega | (simp [up, setR] <;> omega)) (by rewrite [e4_30]; intro j h1 h2; by_cases e : j = i; (rw [e, fup_eq]); (rw [fup_ne _ _ e]; exact hz j h1 (by omega))) (by first | omega | (simp [up, setR] <;> omega))
  refine TT_sub [2, 3, 1, 0] rfl ?_
  exact L5_1 ((((100 : Int) - 0).toNat) + 1) 0 h hT hF (by first | omega | (simp [up, setR] <;> omega)) (by intro j h1 h2; exfalso; omega) (Nat.lt_succ_self _)
set_option maxRecDepth 20000 in
theorem s_fill_31_e (v : Int) (h : Hp_) (hT : TY h) (hv : -1 ≤ v ∧ v ≤ 1) : Ctr yJ7_fill_53178 cJ7_fill_53178 4 none (rmd 0) ly ly 0 0 [vR 31, vI v] h (fun r h' => (TY h' ∧ FR [31] h h') ∧ r = none ∧ (∀ j : Int, 0 ≤ j → j < 100 → (h' 31) j = v)) := by
  refine Ctr_of (by decide) (Nat.le_of_ble_eq_true rfl) ⟨Nat.le_refl _, Nat.le_refl _⟩ (fun K hK hQ _ => ?_)
  show TT K ly 0 0 0 [(0, vR 31), (1, vI v)] [] h
  have hF : FR [31] h h := FR_rf _ _
  refine TT_iconst hK dJ7_fill_53178_0 ?_
  refine TT_istore_n hK rfl (lv' := [(2, vI 0), (0, vR 31), (1, vI v)]) (by decide) rfl dJ7_fill_53178_1 ?_
  refine TT_aload_n hK rfl 1 rfl dJ7_fill_53178_2 ?_
  refine TT_alen hK (o := 31) (t := 12) (n := 100) (v := 100) (by decide) rfl (by decide) rfl dJ7_fill_53178_3 ?_
  refine TT_istore_n hK rfl (lv' := [(3, vI 100), (2, vI 0), (0, vR 31), (1, vI v)]) (by decide) rfl dJ7_fill_53178_4 ?_
  have L5_1 : ∀ (k1 : Nat) (i : Int) (w5_1 : Hp_), TY w5_1 → FR [31] h w5_1 → (0 ≤ i ∧ i ≤ 100) → (∀ j : Int, 0 ≤ j → j < i → (w5_1 31) j = v) → ((100 : Int) - i).toNat < k1 → TT K ly 0 0 5 [(0, vR 31), (1, vI v), (2, vI i), (3, vI 100)] [] w5_1 := by
    intro k1
    induction k1 with
    | zero => intro i w5_1 hT5_1 hF5_1 hi hz hk1; exact absurd hk1 (Nat.not_lt_zero _)
    | succ k1 ih1 =>
      intro i w5_1 hT5_1 hF5_1 hi hz hk1
      refine TT_iload_n hK rfl 2 rfl dJ7_fill_53178_5 ?_
      refine TT_iload_n hK rfl 3 rfl dJ7_fill_53178_6 ?_
      refine TT_icmp_ge hK (tgt := 20) (irm (by omega) (by omega)) (by decide) dJ7_fill_53178_7 (by decide) (fun hb7_2 => ?_) (fun hb7_2 => ?_)
      · refine TT_vret hK hQ ?_ dJ7_fill_53178_20
        exact ⟨⟨hT5_1, hF5_1⟩, rfl, (by intro j h1 h2; exact hz j h1 (by omega))⟩
      · refine TT_aload_n hK rfl 0 rfl dJ7_fill_53178_10 ?_
        refine TT_iload_n hK rfl 2 rfl dJ7_fill_53178_11 ?_
        refine TT_iload_n hK rfl 1 rfl dJ7_fill_53178_12 ?_
        refine TT_iast hK (o := 31) (n := 100) (by decide) rfl (by omega) (by omega) dJ7_fill_53178_13 ?_
        refine TT_hp (h' := setO w5_1 31 (fup (w5_1 31) i v)) (up_can rfl rfl rfl) ?_
        have hT_3 : TY (setO w5_1 31 (fup (w5_1 31) i v)) := tu_31 hT5_1 (show up w5_1 31 i v = (setO w5_1 31 (fup (w5_1 31) i v)) from up_can rfl rfl rfl) (by omega)
        have hF_3 : FR [31] h (setO w5_1 31 (fup (w5_1 31) i v)) := FR_up (show up w5_1 31 i v = (setO w5_1 31 (fup (w5_1 31) i v)) from up_can rfl rfl rfl) hF5_1 (by decide)
        refine TT_iinc hK (v := i + 1) (lv' := [(2, vI (i + 1)), (0, vR 31), (1, vI v), (3, vI 100)]) 2 rfl rfl (by decide) rfl dJ7_fill_53178_14 ?_
        refine TT_goto hK (tgt := 5) dJ7_fill_53178_17 (by decide) ?_
        refine TT_sub [1, 2, 0, 3] rfl ?_
        have e4_31 : (setO w5_1 31 (fup (w5_1 31) i v)) 31 = fup (w5_1 31) i v := sOf_eq _ _ _
        exact ih1 (i + 1) (setO w5_1 31 (fup (w5_1 31) i v)) hT_3 hF_3 (by first | omega | (simp [up, setR] <;> omega)) (by rewrite [e4_31]; intro j h1 h2; by_cases e : j = i; (rw [e, fup_eq]); (rw [fup_ne _ _ e]; exact hz j h1 (by omega))) (by first | omega | (simp [up, setR] <;> omega))
  refine TT_sub [2, 3, 1, 0] rfl ?_
  exact L5_1 ((((100 : Int) - 0).toNat) + 1) 0 h hT hF (by first | omega | (simp [up, setR] <;> omega)) (by intro j h1 h2; exfalso; omega) (Nat.lt_succ_self _)
set_option maxRecDepth 20000 in
theorem s_mean_e (x y v : Int) (h : Hp_) (hT : TY h) (hx : 0 ≤ x ∧ x ≤ 7) (hy : 0 ≤ y ∧ y ≤ 7) (hv : -2147483648 ≤ v ∧ v ≤ 2147483647) : Ctr yX4_mean cX4_mean 4 none (rmd 1) ly ly 0 0 [vR 28, vI x, vI y, vI v] h (fun r h' => (TY h' ∧ FR [29] h h') ∧ r = none ∧ ((h' 29) = fup (h 29) (10 * y + x + 11) v)) := by
  refine Ctr_of (by decide) (Nat.le_of_ble_eq_true rfl) ⟨Nat.le_refl _, Nat.le_refl _⟩ (fun K hK hQ _ => ?_)
  show TT K ly 0 0 0 [(0, vR 28), (1, vI x), (2, vI y), (3, vI v)] [] h
  have hF : FR [29] h h := FR_rf _ _
  refine TT_aload_n hK rfl 0 rfl dX4_mean_0 ?_
  refine gf_X4_11 hK (by decide) rfl (q := 29) rfl rfl dX4_mean_1 ?_
  refine TT_iload_n hK rfl 1 rfl dX4_mean_4 ?_
  refine TT_iload_n hK rfl 2 rfl dX4_mean_5 ?_
  refine iv_X4_51 hK (s_X4_place x y h hT (by first | omega | (simp [up, setR] <;> omega)) (by first | omega | (simp [up, setR] <;> omega))) ⟨by decide, by decide⟩ (by decide) rfl rfl (Nat.le_of_ble_eq_true rfl) ⟨by decide, by decide⟩ dX4_mean_6 ?_
  intro r9 g6_1 hp9
  obtain ⟨⟨hT_1, hG_1⟩, z6_1, hr9, hz_1, p1_1⟩ := hp9
  rw [hr9]
  have hF_1 : FR [29] h g6_1 := FR_tr hF hG_1 (by decide)
  show TT K ly 0 0 9 [(0, vR 28), (1, vI x), (2, vI y), (3, vI v)] [vI z6_1, vR 29] g6_1
  refine TT_iload_n hK rfl 3 rfl dX4_mean_9 ?_
  refine TT_iast hK (o := 29) (n := 100) (by decide) rfl (by omega) (by omega) dX4_mean_10 ?_
  refine TT_hp (h' := setO g6_1 29 (fup (h 29) z6_1 v)) (up_can (hG_1 29 (by decide)) rfl rfl) ?_
  have hT_2 : TY (setO g6_1 29 (fup (h 29) z6_1 v)) := tu_29 hT_1 (show up g6_1 29 z6_1 v = (setO g6_1 29 (fup (h 29) z6_1 v)) from up_can (hG_1 29 (by decide)) rfl rfl) (by omega)
  have hF_2 : FR [29] h (setO g6_1 29 (fup (h 29) z6_1 v)) := FR_up (show up g6_1 29 z6_1 v = (setO g6_1 29 (fup (h 29) z6_1 v)) from up_can (hG_1 29 (by decide)) rfl rfl) hF_1 (by decide)
  refine TT_vret hK hQ ?_ dX4_mean_11
  have e3_29 : (setO g6_1 29 (fup (h 29) z6_1 v)) 29 = fup (h 29) z6_1 v := sOf_eq _ _ _
  exact ⟨⟨hT_2, hF_2⟩, rfl, (by rewrite [e3_29]; first | rfl | congr 1)⟩
set_option maxRecDepth 20000 in
theorem s_pbegin_e (w g k : Int) (h : Hp_) (hT : TY h) (hw : 0 ≤ w ∧ w ≤ 8) (hg : 0 ≤ g ∧ g ≤ 8) (hk : 0 ≤ k ∧ k ≤ 2) : Ctr yX4_begin cX4_begin 5 none (rmd 1) ly ly 0 0 [vR 28, vI w, vI g, vI k] h (fun r h' => (TY h' ∧ FR [28, 29, 30, 31, 32, 33] h h') ∧ r = none ∧ ((h' 28 6) = w ∧ (h' 28 7) = g ∧ (h' 28 8) = k) ∧ (∀ j : Int, 0 ≤ j → j < 100 → (h' 29) j = 0) ∧ (∀ j : Int, 0 ≤ j → j < 100 → (h' 31) j = 0) ∧ (∀ j : Int, 0 ≤ j → j < 100 → (h' 32) j = 0) ∧ (∀ j : Int, 0 ≤ j → j < 100 → (h' 33) j = 0)) := by
  refine Ctr_of (by decide) (Nat.le_of_ble_eq_true rfl) ⟨Nat.le_refl _, Nat.le_refl _⟩ (fun K hK hQ _ => ?_)
  show TT K ly 0 0 0 [(0, vR 28), (1, vI w), (2, vI g), (3, vI k)] [] h
  have hF : FR [28, 29, 30, 31, 32, 33] h h := FR_rf _ _
  refine TT_aload_n hK rfl 0 rfl dX4_begin_0 ?_
  refine TT_iload_n hK rfl 1 rfl dX4_begin_1 ?_
  refine pf_X4_32 hK (by decide) rfl dX4_begin_2 ?_
  refine TT_hp (h' := setO h 28 (fup (h 28) 6 w)) (up_can rfl rfl rfl) ?_
  have hT_1 : TY (setO h 28 (fup (h 28) 6 w)) := tu_28_6 hT (show up h 28 6 w = (setO h 28 (fup (h 28) 6 w)) from up_can rfl rfl rfl) (by omega)
  have hF_1 : FR [28, 29, 30, 31, 32, 33] h (setO h 28 (fup (h 28) 6 w)) := FR_up (show up h 28 6 w = (setO h 28 (fup (h 28) 6 w)) from up_can rfl rfl rfl) hF (by decide)
  refine TT_aload_n hK rfl 0 rfl dX4_begin_5 ?_
  refine TT_iload_n hK rfl 2 rfl dX4_begin_6 ?_
  refine pf_X4_36 hK (by decide) rfl dX4_begin_7 ?_
  refine TT_hp (h' := setO h 28 (fup (fup (h 28) 6 w) 7 g)) (up_can (sOf_eq _ _ _) rfl (setO_same _ _ _ _)) ?_
  have hT_2 : TY (setO h 28 (fup (fup (h 28) 6 w) 7 g)) := tu_28_7 hT_1 (show up (setO h 28 (fup (h 28) 6 w)) 28 7 g = (setO h 28 (fup (fup (h 28) 6 w) 7 g)) from up_can (sOf_eq _ _ _) rfl (setO_same _ _ _ _)) (by omega)
  have hF_2 : FR [28, 29, 30, 31, 32, 33] h (setO h 28 (fup (fup (h 28) 6 w) 7 g)) := FR_up (show up (setO h 28 (fup (h 28) 6 w)) 28 7 g = (setO h 28 (fup (fup (h 28) 6 w) 7 g)) from up_can (sOf_eq _ _ _) rfl (setO_same _ _ _ _)) hF_1 (by decide)
  refine TT_aload_n hK rfl 0 rfl dX4_begin_10 ?_
  refine TT_iload_n hK rfl 3 rfl dX4_begin_11 ?_
  refine pf_X4_39 hK (by decide) rfl dX4_begin_12 ?_
  refine TT_hp (h' := setO h 28 (fup (fup (fup (h 28) 6 w) 7 g) 8 k)) (up_can (sOf_eq _ _ _) rfl (setO_same _ _ _ _)) ?_
  have hT_3 : TY (setO h 28 (fup (fup (fup (h 28) 6 w) 7 g) 8 k)) := tu_28_8 hT_2 (show up (setO h 28 (fup (fup (h 28) 6 w) 7 g)) 28 8 k = (setO h 28 (fup (fup (fup (h 28) 6 w) 7 g) 8 k)) from up_can (sOf_eq _ _ _) rfl (setO_same _ _ _ _)) (by omega)
  have hF_3 : FR [28, 29, 30, 31, 32, 33] h (setO h 28 (fup (fup (fup (h 28) 6 w) 7 g) 8 k)) := FR_up (show up (setO h 28 (fup (fup (h 28) 6 w) 7 g)) 28 8 k = (setO h 28 (fup (fup (fup (h 28) 6 w) 7 g) 8 k)) from up_can (sOf_eq _ _ _) rfl (setO_same _ _ _ _)) hF_2 (by decide)
  refine TT_aload_n hK rfl 0 rfl dX4_begin_15 ?_
  refine gf_X4_11 hK (by decide) rfl (q := 29) rfl rfl dX4_begin_16 ?_
  refine TT_iconst hK dX4_begin_19 ?_
  refine iv_X4_42 hK (s_fill_29_e 0 (setO h 28 (fup (fup (fup (h 28) 6 w) 7 g) 8 k)) hT_3 (by first | omega | (simp [up, setR] <;> omega))) ⟨by decide, by decide⟩ (by decide) rfl rfl (Nat.le_of_ble_eq_true rfl) ⟨by decide, by decide⟩ dX4_begin_20 ?_
  intro r9 g20_4 hp9
  obtain ⟨⟨hT_4, hG_4⟩, hr9, f_4⟩ := hp9
  rw [hr9]
  have hF_4 : FR [28, 29, 30, 31, 32, 33] h g20_4 := FR_tr hF_3 hG_4 (by decide)
  have f_at20 := f_4
  show TT K ly 0 0 23 [(0, vR 28), (1, vI w), (2, vI g), (3, vI k)] [] g20_4
  refine TT_aload_n hK rfl 0 rfl dX4_begin_23 ?_
  refine gf_X4_15 hK (by decide) rfl (q := 30) rfl rfl dX4_begin_24 ?_
  refine TT_iconst hK dX4_begin_27 ?_
  refine iv_X4_42 hK (s_fill_30_e 0 g20_4 hT_4 (by first | omega | (simp [up, setR] <;> omega))) ⟨by decide, by decide⟩ (by decide) rfl rfl (Nat.le_of_ble_eq_true rfl) ⟨by decide, by decide⟩ dX4_begin_28 ?_
  intro r9 g28_5 hp9
  obtain ⟨⟨hT_5, hG_5⟩, hr9, f_5⟩ := hp9
  rw [hr9]
  have hF_5 : FR [28, 29, 30, 31, 32, 33] h g28_5 := FR_tr hF_4 hG_5 (by decide)
  have f_at28 := f_5
  show TT K ly 0 0 31 [(0, vR 28), (1, vI w), (2, vI g), (3, vI k)] [] g28_5
  refine TT_aload_n hK rfl 0 rfl dX4_begin_31 ?_
  refine gf_X4_18 hK (by decide) rfl (q := 31) rfl rfl dX4_begin_32 ?_
  refine TT_iconst hK dX4_begin_35 ?_
  refine iv_X4_42 hK (s_fill_31_e 0 g28_5 hT_5 (by first | omega | (simp [up, setR] <;> omega))) ⟨by decide, by decide⟩ (by decide) rfl rfl (Nat.le_of_ble_eq_true rfl) ⟨by decide, by decide⟩ dX4_begin_36 ?_
  intro r9 g36_6 hp9
  obtain ⟨⟨hT_6, hG_6⟩, hr9, f_6⟩ := hp9
  rw [hr9]
  have hF_6 : FR [28, 29, 30, 31, 32, 33] h g36_6 := FR_tr hF_5 hG_6 (by decide)
  have f_at36 := f_6
  show TT K ly 0 0 39 [(0, vR 28), (1, vI w), (2, vI g), (3, vI k)] [] g36_6
  refine TT_aload_n hK rfl 0 rfl dX4_begin_39 ?_
  refine iv_X4_48 hK (s_clear_e g36_6 hT_6 ) (by decide) rfl ⟨by decide, by decide⟩ (by decide) rfl rfl (Nat.le_of_ble_eq_true rfl) ⟨by decide, by decide⟩ dX4_begin_40 ?_
  intro r9 g40_7 hp9
  obtain ⟨⟨hT_7, hG_7⟩, hr9, cz_7⟩ := hp9
  rw [hr9]
  have hF_7 : FR [28, 29, 30, 31, 32, 33] h g40_7 := FR_tr hF_6 hG_7 (by decide)
  rw [show g36_6 32 = h 32 from ((hG_6 32 (by decide))).trans (((hG_5 32 (by decide))).trans (((hG_4 32 (by decide))).trans (sOf_ne _ _ (by decide))))] at cz_7
  have cz_at40 := cz_7
  show TT K ly 0 0 43 [(0, vR 28), (1, vI w), (2, vI g), (3, vI k)] [] g40_7
  refine TT_iconst hK dX4_begin_43 ?_
  refine TT_istore hK (lv' := [(4, vI 0), (0, vR 28), (1, vI w), (2, vI g), (3, vI k)]) (by decide) rfl dX4_begin_44 ?_
  have L46_8 : ∀ (k8 : Nat) (i : Int) (w46_8 : Hp_), TY w46_8 → FR [28, 29, 30, 31, 32, 33] h w46_8 → (0 ≤ i ∧ i ≤ 100) → (∀ j : Int, 0 ≤ j → j < i → (w46_8 33) j = 0) → ((w46_8 28 6) = w ∧ (w46_8 28 7) = g ∧ (w46_8 28 8) = k) → (∀ j : Int, 0 ≤ j → j < 100 → (w46_8 29) j = 0) → (∀ j : Int, 0 ≤ j → j < 100 → (w46_8 31) j = 0) → (∀ j : Int, 0 ≤ j → j < 100 → (w46_8 32) j = 0) → ((100 : Int) - i).toNat < k8 → TT K ly 0 0 46 [(0, vR 28), (1, vI w), (2, vI g), (3, vI k), (4, vI i)] [] w46_8 := by
    intro k8
    induction k8 with
    | zero => intro i w46_8 hT46_8 hF46_8 hi hz b6 z29 z31 z32 hk8; exact absurd hk8 (Nat.not_lt_zero _)
    | succ k8 ih8 =>
      intro i w46_8 hT46_8 hF46_8 hi hz b6 z29 z31 z32 hk8
      refine TT_iload hK 4 rfl dX4_begin_46 ?_
      refine TT_aload_n hK rfl 0 rfl dX4_begin_48 ?_
      refine gf_X4_25 hK (by decide) rfl (q := 33) rfl rfl dX4_begin_49 ?_
      refine TT_alen hK (o := 33) (t := 13) (n := 100) (v := 100) (by decide) rfl (by decide) rfl dX4_begin_52 ?_
      refine TT_icmp_ge hK (tgt := 70) (irm (by omega) (by omega)) (by decide) dX4_begin_53 (by decide) (fun hb53_9 => ?_) (fun hb53_9 => ?_)
      · refine TT_vret hK hQ ?_ dX4_begin_70
        have e10_28_6 : w46_8 28 6 = (w46_8 28) 6 := rfl
        have e11_28_7 : w46_8 28 7 = (w46_8 28) 7 := rfl
        have e12_28_8 : w46_8 28 8 = (w46_8 28) 8 := rfl
        exact ⟨⟨hT46_8, hF46_8⟩, rfl, (by rewrite [e10_28_6, e11_28_7, e12_28_8]; exact b6), (by exact z29), (by exact z31), (by exact z32), (by intro j h1 h2; exact hz j h1 (by omega))⟩
      · refine TT_aload_n hK rfl 0 rfl dX4_begin_56 ?_
        refine gf_X4_25 hK (by decide) rfl (q := 33) rfl rfl dX4_begin_57 ?_
        refine TT_iload hK 4 rfl dX4_begin_60 ?_
        refine TT_iconst hK dX4_begin_62 ?_
        refine TT_zast hK (o := 33) (n := 100) (by decide) rfl (by omega) (by omega) (by first | decide | omega) dX4_begin_63 ?_
        refine TT_hp (h' := setO w46_8 33 (fup (w46_8 33) i 0)) (up_can rfl rfl rfl) ?_
        have hT_13 : TY (setO w46_8 33 (fup (w46_8 33) i 0)) := tu_33 hT46_8 (show up w46_8 33 i 0 = (setO w46_8 33 (fup (w46_8 33) i 0)) from up_can rfl rfl rfl) (by omega)
        have hF_13 : FR [28, 29, 30, 31, 32, 33] h (setO w46_8 33 (fup (w46_8 33) i 0)) := FR_up (show up w46_8 33 i 0 = (setO w46_8 33 (fup (w46_8 33) i 0)) from up_can rfl rfl rfl) hF46_8 (by decide)
        refine TT_iinc hK (v := i + 1) (lv' := [(4, vI (i + 1)), (0, vR 28), (1, vI w), (2, vI g), (3, vI k)]) 4 rfl rfl (by decide) rfl dX4_begin_64 ?_
        refine TT_goto hK (tgt := 46) dX4_begin_67 (by decide) ?_
        refine TT_sub [1, 2, 3, 4, 0] rfl ?_
        have e14_33 : (setO w46_8 33 (fup (w46_8 33) i 0)) 33 = fup (w46_8 33) i 0 := sOf_eq _ _ _
        have e15_28_6 : (setO w46_8 33 (fup (w46_8 33) i 0)) 28 6 = (w46_8 28) 6 := rd_ (sOf_ne _ _ (by decide)) rfl
        have e16_28_7 : (setO w46_8 33 (fup (w46_8 33) i 0)) 28 7 = (w46_8 28) 7 := rd_ (sOf_ne _ _ (by decide)) rfl
        have e17_28_8 : (setO w46_8 33 (fup (w46_8 33) i 0)) 28 8 = (w46_8 28) 8 := rd_ (sOf_ne _ _ (by decide)) rfl
        have e18_29 : (setO w46_8 33 (fup (w46_8 33) i 0)) 29 = w46_8 29 := sOf_ne _ _ (by decide)
        have e19_31 : (setO w46_8 33 (fup (w46_8 33) i 0)) 31 = w46_8 31 := sOf_ne _ _ (by decide)
        have e20_32 : (setO w46_8 33 (fup (w46_8 33) i 0)) 32 = w46_8 32 := sOf_ne _ _ (by decide)
        exact ih8 (i + 1) (setO w46_8 33 (fup (w46_8 33) i 0)) hT_13 hF_13 (by first | omega | (simp [up, setR] <;> omega)) (by rewrite [e14_33]; intro j h1 h2; by_cases e : j = i; (rw [e, fup_eq]); (rw [fup_ne _ _ e]; exact hz j h1 (by omega))) (by rewrite [e15_28_6, e16_28_7, e17_28_8]; first | omega | (simp [up, setR] <;> omega)) (by rewrite [e18_29]; exact z29) (by rewrite [e19_31]; exact z31) (by rewrite [e20_32]; exact z32) (by first | omega | (simp [up, setR] <;> omega))
  refine TT_sub [1, 2, 3, 4, 0] rfl ?_
  have e21_33 : g40_7 33 = h 33 := ((hG_7 33 (by decide))).trans (((hG_6 33 (by decide))).trans (((hG_5 33 (by decide))).trans (((hG_4 33 (by decide))).trans (sOf_ne _ _ (by decide)))))
  have e22_28_6 : g40_7 28 6 = w := rd_ (((hG_7 28 (by decide))).trans (((hG_6 28 (by decide))).trans (((hG_5 28 (by decide))).trans (((hG_4 28 (by decide))).trans (sOf_eq _ _ _))))) ((fup_ne _ _ (by decide)).trans ((fup_ne _ _ (by decide)).trans (fup_eq _ _ _)))
  have e23_28_7 : g40_7 28 7 = g := rd_ (((hG_7 28 (by decide))).trans (((hG_6 28 (by decide))).trans (((hG_5 28 (by decide))).trans (((hG_4 28 (by decide))).trans (sOf_eq _ _ _))))) ((fup_ne _ _ (by decide)).trans (fup_eq _ _ _))
  have e24_28_8 : g40_7 28 8 = k := rd_ (((hG_7 28 (by decide))).trans (((hG_6 28 (by decide))).trans (((hG_5 28 (by decide))).trans (((hG_4 28 (by decide))).trans (sOf_eq _ _ _))))) (fup_eq _ _ _)
  have e25_29 : g40_7 29 = g20_4 29 := ((hG_7 29 (by decide))).trans (((hG_6 29 (by decide))).trans (hG_5 29 (by decide)))
  have e26_31 : g40_7 31 = g36_6 31 := (hG_7 31 (by decide))
  exact L46_8 ((((100 : Int) - 0).toNat) + 1) 0 g40_7 hT_7 hF_7 (by first | omega | (simp [up, setR] <;> omega)) (by rewrite [e21_33]; intro j h1 h2; exfalso; omega) (by rewrite [e22_28_6, e23_28_7, e24_28_8]; first | omega | (simp [up, setR] <;> omega)) (by rewrite [e25_29]; exact f_at20) (by rewrite [e26_31]; exact f_at36) (by intro j h1 h2; first | (rw [cz_at40]; exact if_pos ⟨h1, h2⟩) | exact (congrFun cz_at40 j).trans (if_pos ⟨h1, h2⟩)) (Nat.lt_succ_self _)

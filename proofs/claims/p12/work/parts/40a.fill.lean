set_option maxRecDepth 20000 in
theorem s_fill_2 (v : Int) (h : Hp_) (hT : TY h) (hv : 0 ≤ v ∧ v ≤ 255) : Ctr yJ7_fill_53178 cJ7_fill_53178 4 none (rmd 0) ly ly 0 0 [vR 2, vI v] h (fun r h' => (TY h' ∧ FR [2] h h') ∧ r = none) := by
  refine Ctr_of (by decide) (Nat.le_of_ble_eq_true rfl) ⟨Nat.le_refl _, Nat.le_refl _⟩ (fun K hK hQ _ => ?_)
  show TT K ly 0 0 0 [(0, vR 2), (1, vI v)] [] h
  have hF : FR [2] h h := FR_rf _ _
  refine TT_iconst hK dJ7_fill_53178_0 ?_
  refine TT_istore_n hK rfl (lv' := [(2, vI 0), (0, vR 2), (1, vI v)]) (by decide) rfl dJ7_fill_53178_1 ?_
  refine TT_aload_n hK rfl 1 rfl dJ7_fill_53178_2 ?_
  refine TT_alen hK (o := 2) (t := 12) (n := 64) (v := 64) (by decide) rfl (by decide) rfl dJ7_fill_53178_3 ?_
  refine TT_istore_n hK rfl (lv' := [(3, vI 64), (2, vI 0), (0, vR 2), (1, vI v)]) (by decide) rfl dJ7_fill_53178_4 ?_
  have L5_1 : ∀ (k1 : Nat) (i : Int) (w5_1 : Hp_), TY w5_1 → FR [2] h w5_1 → (0 ≤ i ∧ i ≤ 64) → ((64 : Int) - i).toNat < k1 → TT K ly 0 0 5 [(0, vR 2), (1, vI v), (2, vI i), (3, vI 64)] [] w5_1 := by
    intro k1
    induction k1 with
    | zero => intro i w5_1 hT5_1 hF5_1 hi hk1; exact absurd hk1 (Nat.not_lt_zero _)
    | succ k1 ih1 =>
      intro i w5_1 hT5_1 hF5_1 hi hk1
      refine TT_iload_n hK rfl 2 rfl dJ7_fill_53178_5 ?_
      refine TT_iload_n hK rfl 3 rfl dJ7_fill_53178_6 ?_
      refine TT_icmp_ge hK (tgt := 20) (irm (by omega) (by omega)) (by decide) dJ7_fill_53178_7 (by decide) (fun hb7_2 => ?_) (fun hb7_2 => ?_)
      · refine TT_vret hK hQ ?_ dJ7_fill_53178_20
        exact ⟨⟨hT5_1, hF5_1⟩, rfl⟩
      · refine TT_aload_n hK rfl 0 rfl dJ7_fill_53178_10 ?_
        refine TT_iload_n hK rfl 2 rfl dJ7_fill_53178_11 ?_
        refine TT_iload_n hK rfl 1 rfl dJ7_fill_53178_12 ?_
        refine TT_iast hK (o := 2) (n := 64) (by decide) rfl (by omega) (by omega) dJ7_fill_53178_13 ?_
        refine TT_hp (h' := setO w5_1 2 (fup (w5_1 2) i v)) (up_can rfl rfl rfl) ?_
        have hT_3 : TY (setO w5_1 2 (fup (w5_1 2) i v)) := tu_2 hT5_1 (show up w5_1 2 i v = (setO w5_1 2 (fup (w5_1 2) i v)) from up_can rfl rfl rfl) (by omega)
        have hF_3 : FR [2] h (setO w5_1 2 (fup (w5_1 2) i v)) := FR_up (show up w5_1 2 i v = (setO w5_1 2 (fup (w5_1 2) i v)) from up_can rfl rfl rfl) hF5_1 (by decide)
        refine TT_iinc hK (v := i + 1) (lv' := [(2, vI (i + 1)), (0, vR 2), (1, vI v), (3, vI 64)]) 2 rfl rfl (by decide) rfl dJ7_fill_53178_14 ?_
        refine TT_goto hK (tgt := 5) dJ7_fill_53178_17 (by decide) ?_
        refine TT_sub [1, 2, 0, 3] rfl ?_
        exact ih1 (i + 1) (setO w5_1 2 (fup (w5_1 2) i v)) hT_3 hF_3 (by first | omega | (simp [up, setR] <;> omega)) (by first | omega | (simp [up, setR] <;> omega))
  refine TT_sub [2, 3, 1, 0] rfl ?_
  exact L5_1 ((((64 : Int) - 0).toNat) + 1) 0 h hT hF (by first | omega | (simp [up, setR] <;> omega)) (Nat.lt_succ_self _)
set_option maxRecDepth 20000 in
theorem s_fill_4 (v : Int) (h : Hp_) (hT : TY h) (hv : 0 ≤ v ∧ v ≤ 255) : Ctr yJ7_fill_53178 cJ7_fill_53178 4 none (rmd 0) ly ly 0 0 [vR 4, vI v] h (fun r h' => (TY h' ∧ FR [4] h h') ∧ r = none) := by
  refine Ctr_of (by decide) (Nat.le_of_ble_eq_true rfl) ⟨Nat.le_refl _, Nat.le_refl _⟩ (fun K hK hQ _ => ?_)
  show TT K ly 0 0 0 [(0, vR 4), (1, vI v)] [] h
  have hF : FR [4] h h := FR_rf _ _
  refine TT_iconst hK dJ7_fill_53178_0 ?_
  refine TT_istore_n hK rfl (lv' := [(2, vI 0), (0, vR 4), (1, vI v)]) (by decide) rfl dJ7_fill_53178_1 ?_
  refine TT_aload_n hK rfl 1 rfl dJ7_fill_53178_2 ?_
  refine TT_alen hK (o := 4) (t := 12) (n := 64) (v := 64) (by decide) rfl (by decide) rfl dJ7_fill_53178_3 ?_
  refine TT_istore_n hK rfl (lv' := [(3, vI 64), (2, vI 0), (0, vR 4), (1, vI v)]) (by decide) rfl dJ7_fill_53178_4 ?_
  have L5_1 : ∀ (k1 : Nat) (i : Int) (w5_1 : Hp_), TY w5_1 → FR [4] h w5_1 → (0 ≤ i ∧ i ≤ 64) → ((64 : Int) - i).toNat < k1 → TT K ly 0 0 5 [(0, vR 4), (1, vI v), (2, vI i), (3, vI 64)] [] w5_1 := by
    intro k1
    induction k1 with
    | zero => intro i w5_1 hT5_1 hF5_1 hi hk1; exact absurd hk1 (Nat.not_lt_zero _)
    | succ k1 ih1 =>
      intro i w5_1 hT5_1 hF5_1 hi hk1
      refine TT_iload_n hK rfl 2 rfl dJ7_fill_53178_5 ?_
      refine TT_iload_n hK rfl 3 rfl dJ7_fill_53178_6 ?_
      refine TT_icmp_ge hK (tgt := 20) (irm (by omega) (by omega)) (by decide) dJ7_fill_53178_7 (by decide) (fun hb7_2 => ?_) (fun hb7_2 => ?_)
      · refine TT_vret hK hQ ?_ dJ7_fill_53178_20
        exact ⟨⟨hT5_1, hF5_1⟩, rfl⟩
      · refine TT_aload_n hK rfl 0 rfl dJ7_fill_53178_10 ?_
        refine TT_iload_n hK rfl 2 rfl dJ7_fill_53178_11 ?_
        refine TT_iload_n hK rfl 1 rfl dJ7_fill_53178_12 ?_
        refine TT_iast hK (o := 4) (n := 64) (by decide) rfl (by omega) (by omega) dJ7_fill_53178_13 ?_
        refine TT_hp (h' := setO w5_1 4 (fup (w5_1 4) i v)) (up_can rfl rfl rfl) ?_
        have hT_3 : TY (setO w5_1 4 (fup (w5_1 4) i v)) := tu_4 hT5_1 (show up w5_1 4 i v = (setO w5_1 4 (fup (w5_1 4) i v)) from up_can rfl rfl rfl) (by omega)
        have hF_3 : FR [4] h (setO w5_1 4 (fup (w5_1 4) i v)) := FR_up (show up w5_1 4 i v = (setO w5_1 4 (fup (w5_1 4) i v)) from up_can rfl rfl rfl) hF5_1 (by decide)
        refine TT_iinc hK (v := i + 1) (lv' := [(2, vI (i + 1)), (0, vR 4), (1, vI v), (3, vI 64)]) 2 rfl rfl (by decide) rfl dJ7_fill_53178_14 ?_
        refine TT_goto hK (tgt := 5) dJ7_fill_53178_17 (by decide) ?_
        refine TT_sub [1, 2, 0, 3] rfl ?_
        exact ih1 (i + 1) (setO w5_1 4 (fup (w5_1 4) i v)) hT_3 hF_3 (by first | omega | (simp [up, setR] <;> omega)) (by first | omega | (simp [up, setR] <;> omega))
  refine TT_sub [2, 3, 1, 0] rfl ?_
  exact L5_1 ((((64 : Int) - 0).toNat) + 1) 0 h hT hF (by first | omega | (simp [up, setR] <;> omega)) (Nat.lt_succ_self _)
set_option maxRecDepth 20000 in
theorem s_fill_9 (v : Int) (h : Hp_) (hT : TY h) (hv : -2147483648 ≤ v ∧ v ≤ 2147483647) : Ctr yJ7_fill_53178 cJ7_fill_53178 4 none (rmd 0) ly ly 0 0 [vR 9, vI v] h (fun r h' => (TY h' ∧ FR [9] h h') ∧ r = none) := by
  refine Ctr_of (by decide) (Nat.le_of_ble_eq_true rfl) ⟨Nat.le_refl _, Nat.le_refl _⟩ (fun K hK hQ _ => ?_)
  show TT K ly 0 0 0 [(0, vR 9), (1, vI v)] [] h
  have hF : FR [9] h h := FR_rf _ _
  refine TT_iconst hK dJ7_fill_53178_0 ?_
  refine TT_istore_n hK rfl (lv' := [(2, vI 0), (0, vR 9), (1, vI v)]) (by decide) rfl dJ7_fill_53178_1 ?_
  refine TT_aload_n hK rfl 1 rfl dJ7_fill_53178_2 ?_
  refine TT_alen hK (o := 9) (t := 12) (n := 64) (v := 64) (by decide) rfl (by decide) rfl dJ7_fill_53178_3 ?_
  refine TT_istore_n hK rfl (lv' := [(3, vI 64), (2, vI 0), (0, vR 9), (1, vI v)]) (by decide) rfl dJ7_fill_53178_4 ?_
  have L5_1 : ∀ (k1 : Nat) (i : Int) (w5_1 : Hp_), TY w5_1 → FR [9] h w5_1 → (0 ≤ i ∧ i ≤ 64) → ((64 : Int) - i).toNat < k1 → TT K ly 0 0 5 [(0, vR 9), (1, vI v), (2, vI i), (3, vI 64)] [] w5_1 := by
    intro k1
    induction k1 with
    | zero => intro i w5_1 hT5_1 hF5_1 hi hk1; exact absurd hk1 (Nat.not_lt_zero _)
    | succ k1 ih1 =>
      intro i w5_1 hT5_1 hF5_1 hi hk1
      refine TT_iload_n hK rfl 2 rfl dJ7_fill_53178_5 ?_
      refine TT_iload_n hK rfl 3 rfl dJ7_fill_53178_6 ?_
      refine TT_icmp_ge hK (tgt := 20) (irm (by omega) (by omega)) (by decide) dJ7_fill_53178_7 (by decide) (fun hb7_2 => ?_) (fun hb7_2 => ?_)
      · refine TT_vret hK hQ ?_ dJ7_fill_53178_20
        exact ⟨⟨hT5_1, hF5_1⟩, rfl⟩
      · refine TT_aload_n hK rfl 0 rfl dJ7_fill_53178_10 ?_
        refine TT_iload_n hK rfl 2 rfl dJ7_fill_53178_11 ?_
        refine TT_iload_n hK rfl 1 rfl dJ7_fill_53178_12 ?_
        refine TT_iast hK (o := 9) (n := 64) (by decide) rfl (by omega) (by omega) dJ7_fill_53178_13 ?_
        refine TT_hp (h' := setO w5_1 9 (fup (w5_1 9) i v)) (up_can rfl rfl rfl) ?_
        have hT_3 : TY (setO w5_1 9 (fup (w5_1 9) i v)) := tu_9 hT5_1 (show up w5_1 9 i v = (setO w5_1 9 (fup (w5_1 9) i v)) from up_can rfl rfl rfl) (by omega)
        have hF_3 : FR [9] h (setO w5_1 9 (fup (w5_1 9) i v)) := FR_up (show up w5_1 9 i v = (setO w5_1 9 (fup (w5_1 9) i v)) from up_can rfl rfl rfl) hF5_1 (by decide)
        refine TT_iinc hK (v := i + 1) (lv' := [(2, vI (i + 1)), (0, vR 9), (1, vI v), (3, vI 64)]) 2 rfl rfl (by decide) rfl dJ7_fill_53178_14 ?_
        refine TT_goto hK (tgt := 5) dJ7_fill_53178_17 (by decide) ?_
        refine TT_sub [1, 2, 0, 3] rfl ?_
        exact ih1 (i + 1) (setO w5_1 9 (fup (w5_1 9) i v)) hT_3 hF_3 (by first | omega | (simp [up, setR] <;> omega)) (by first | omega | (simp [up, setR] <;> omega))
  refine TT_sub [2, 3, 1, 0] rfl ?_
  exact L5_1 ((((64 : Int) - 0).toNat) + 1) 0 h hT hF (by first | omega | (simp [up, setR] <;> omega)) (Nat.lt_succ_self _)
set_option maxRecDepth 20000 in
theorem s_fill_29 (v : Int) (h : Hp_) (hT : TY h) (hv : -2147483648 ≤ v ∧ v ≤ 2147483647) : Ctr yJ7_fill_53178 cJ7_fill_53178 4 none (rmd 0) ly ly 0 0 [vR 29, vI v] h (fun r h' => (TY h' ∧ FR [29] h h') ∧ r = none) := by
  refine Ctr_of (by decide) (Nat.le_of_ble_eq_true rfl) ⟨Nat.le_refl _, Nat.le_refl _⟩ (fun K hK hQ _ => ?_)
  show TT K ly 0 0 0 [(0, vR 29), (1, vI v)] [] h
  have hF : FR [29] h h := FR_rf _ _
  refine TT_iconst hK dJ7_fill_53178_0 ?_
  refine TT_istore_n hK rfl (lv' := [(2, vI 0), (0, vR 29), (1, vI v)]) (by decide) rfl dJ7_fill_53178_1 ?_
  refine TT_aload_n hK rfl 1 rfl dJ7_fill_53178_2 ?_
  refine TT_alen hK (o := 29) (t := 12) (n := 100) (v := 100) (by decide) rfl (by decide) rfl dJ7_fill_53178_3 ?_
  refine TT_istore_n hK rfl (lv' := [(3, vI 100), (2, vI 0), (0, vR 29), (1, vI v)]) (by decide) rfl dJ7_fill_53178_4 ?_
  have L5_1 : ∀ (k1 : Nat) (i : Int) (w5_1 : Hp_), TY w5_1 → FR [29] h w5_1 → (0 ≤ i ∧ i ≤ 100) → ((100 : Int) - i).toNat < k1 → TT K ly 0 0 5 [(0, vR 29), (1, vI v), (2, vI i), (3, vI 100)] [] w5_1 := by
    intro k1
    induction k1 with
    | zero => intro i w5_1 hT5_1 hF5_1 hi hk1; exact absurd hk1 (Nat.not_lt_zero _)
    | succ k1 ih1 =>
      intro i w5_1 hT5_1 hF5_1 hi hk1
      refine TT_iload_n hK rfl 2 rfl dJ7_fill_53178_5 ?_
      refine TT_iload_n hK rfl 3 rfl dJ7_fill_53178_6 ?_
      refine TT_icmp_ge hK (tgt := 20) (irm (by omega) (by omega)) (by decide) dJ7_fill_53178_7 (by decide) (fun hb7_2 => ?_) (fun hb7_2 => ?_)
      · refine TT_vret hK hQ ?_ dJ7_fill_53178_20
        exact ⟨⟨hT5_1, hF5_1⟩, rfl⟩
      · refine TT_aload_n hK rfl 0 rfl dJ7_fill_53178_10 ?_
        refine TT_iload_n hK rfl 2 rfl dJ7_fill_53178_11 ?_
        refine TT_iload_n hK rfl 1 rfl dJ7_fill_53178_12 ?_
        refine TT_iast hK (o := 29) (n := 100) (by decide) rfl (by omega) (by omega) dJ7_fill_53178_13 ?_
        refine TT_hp (h' := setO w5_1 29 (fup (w5_1 29) i v)) (up_can rfl rfl rfl) ?_
        have hT_3 : TY (setO w5_1 29 (fup (w5_1 29) i v)) := tu_29 hT5_1 (show up w5_1 29 i v = (setO w5_1 29 (fup (w5_1 29) i v)) from up_can rfl rfl rfl) (by omega)
        have hF_3 : FR [29] h (setO w5_1 29 (fup (w5_1 29) i v)) := FR_up (show up w5_1 29 i v = (setO w5_1 29 (fup (w5_1 29) i v)) from up_can rfl rfl rfl) hF5_1 (by decide)
        refine TT_iinc hK (v := i + 1) (lv' := [(2, vI (i + 1)), (0, vR 29), (1, vI v), (3, vI 100)]) 2 rfl rfl (by decide) rfl dJ7_fill_53178_14 ?_
        refine TT_goto hK (tgt := 5) dJ7_fill_53178_17 (by decide) ?_
        refine TT_sub [1, 2, 0, 3] rfl ?_
        exact ih1 (i + 1) (setO w5_1 29 (fup (w5_1 29) i v)) hT_3 hF_3 (by first | omega | (simp [up, setR] <;> omega)) (by first | omega | (simp [up, setR] <;> omega))
  refine TT_sub [2, 3, 1, 0] rfl ?_
  exact L5_1 ((((100 : Int) - 0).toNat) + 1) 0 h hT hF (by first | omega | (simp [up, setR] <;> omega)) (Nat.lt_succ_self _)
set_option maxRecDepth 20000 in
theorem s_fill_30 (v : Int) (h : Hp_) (hT : TY h) (hv : -2147483648 ≤ v ∧ v ≤ 2147483647) : Ctr yJ7_fill_53178 cJ7_fill_53178 4 none (rmd 0) ly ly 0 0 [vR 30, vI v] h (fun r h' => (TY h' ∧ FR [30] h h') ∧ r = none) := by
  refine Ctr_of (by decide) (Nat.le_of_ble_eq_true rfl) ⟨Nat.le_refl _, Nat.le_refl _⟩ (fun K hK hQ _ => ?_)
  show TT K ly 0 0 0 [(0, vR 30), (1, vI v)] [] h
  have hF : FR [30] h h := FR_rf _ _
  refine TT_iconst hK dJ7_fill_53178_0 ?_
  refine TT_istore_n hK rfl (lv' := [(2, vI 0), (0, vR 30), (1, vI v)]) (by decide) rfl dJ7_fill_53178_1 ?_
  refine TT_aload_n hK rfl 1 rfl dJ7_fill_53178_2 ?_
  refine TT_alen hK (o := 30) (t := 12) (n := 100) (v := 100) (by decide) rfl (by decide) rfl dJ7_fill_53178_3 ?_
  refine TT_istore_n hK rfl (lv' := [(3, vI 100), (2, vI 0), (0, vR 30), (1, vI v)]) (by decide) rfl dJ7_fill_53178_4 ?_
  have L5_1 : ∀ (k1 : Nat) (i : Int) (w5_1 : Hp_), TY w5_1 → FR [30] h w5_1 → (0 ≤ i ∧ i ≤ 100) → ((100 : Int) - i).toNat < k1 → TT K ly 0 0 5 [(0, vR 30), (1, vI v), (2, vI i), (3, vI 100)] [] w5_1 := by
    intro k1
    induction k1 with
    | zero => intro i w5_1 hT5_1 hF5_1 hi hk1; exact absurd hk1 (Nat.not_lt_zero _)
    | succ k1 ih1 =>
      intro i w5_1 hT5_1 hF5_1 hi hk1
      refine TT_iload_n hK rfl 2 rfl dJ7_fill_53178_5 ?_
      refine TT_iload_n hK rfl 3 rfl dJ7_fill_53178_6 ?_
      refine TT_icmp_ge hK (tgt := 20) (irm (by omega) (by omega)) (by decide) dJ7_fill_53178_7 (by decide) (fun hb7_2 => ?_) (fun hb7_2 => ?_)
      · refine TT_vret hK hQ ?_ dJ7_fill_53178_20
        exact ⟨⟨hT5_1, hF5_1⟩, rfl⟩
      · refine TT_aload_n hK rfl 0 rfl dJ7_fill_53178_10 ?_
        refine TT_iload_n hK rfl 2 rfl dJ7_fill_53178_11 ?_
        refine TT_iload_n hK rfl 1 rfl dJ7_fill_53178_12 ?_
        refine TT_iast hK (o := 30) (n := 100) (by decide) rfl (by omega) (by omega) dJ7_fill_53178_13 ?_
        refine TT_hp (h' := setO w5_1 30 (fup (w5_1 30) i v)) (up_can rfl rfl rfl) ?_
        have hT_3 : TY (setO w5_1 30 (fup (w5_1 30) i v)) := tu_30 hT5_1 (show up w5_1 30 i v = (setO w5_1 30 (fup (w5_1 30) i v)) from up_can rfl rfl rfl) (by omega)
        have hF_3 : FR [30] h (setO w5_1 30 (fup (w5_1 30) i v)) := FR_up (show up w5_1 30 i v = (setO w5_1 30 (fup (w5_1 30) i v)) from up_can rfl rfl rfl) hF5_1 (by decide)
        refine TT_iinc hK (v := i + 1) (lv' := [(2, vI (i + 1)), (0, vR 30), (1, vI v), (3, vI 100)]) 2 rfl rfl (by decide) rfl dJ7_fill_53178_14 ?_
        refine TT_goto hK (tgt := 5) dJ7_fill_53178_17 (by decide) ?_
        refine TT_sub [1, 2, 0, 3] rfl ?_
        exact ih1 (i + 1) (setO w5_1 30 (fup (w5_1 30) i v)) hT_3 hF_3 (by first | omega | (simp [up, setR] <;> omega)) (by first | omega | (simp [up, setR] <;> omega))
  refine TT_sub [2, 3, 1, 0] rfl ?_
  exact L5_1 ((((100 : Int) - 0).toNat) + 1) 0 h hT hF (by first | omega | (simp [up, setR] <;> omega)) (Nat.lt_succ_self _)
set_option maxRecDepth 20000 in
theorem s_fill_31 (v : Int) (h : Hp_) (hT : TY h) (hv : -1 ≤ v ∧ v ≤ 1) : Ctr yJ7_fill_53178 cJ7_fill_53178 4 none (rmd 0) ly ly 0 0 [vR 31, vI v] h (fun r h' => (TY h' ∧ FR [31] h h') ∧ r = none) := by
  refine Ctr_of (by decide) (Nat.le_of_ble_eq_true rfl) ⟨Nat.le_refl _, Nat.le_refl _⟩ (fun K hK hQ _ => ?_)
  show TT K ly 0 0 0 [(0, vR 31), (1, vI v)] [] h
  have hF : FR [31] h h := FR_rf _ _
  refine TT_iconst hK dJ7_fill_53178_0 ?_
  refine TT_istore_n hK rfl (lv' := [(2, vI 0), (0, vR 31), (1, vI v)]) (by decide) rfl dJ7_fill_53178_1 ?_
  refine TT_aload_n hK rfl 1 rfl dJ7_fill_53178_2 ?_
  refine TT_alen hK (o := 31) (t := 12) (n := 100) (v := 100) (by decide) rfl (by decide) rfl dJ7_fill_53178_3 ?_
  refine TT_istore_n hK rfl (lv' := [(3, vI 100), (2, vI 0), (0, vR 31), (1, vI v)]) (by decide) rfl dJ7_fill_53178_4 ?_
  have L5_1 : ∀ (k1 : Nat) (i : Int) (w5_1 : Hp_), TY w5_1 → FR [31] h w5_1 → (0 ≤ i ∧ i ≤ 100) → ((100 : Int) - i).toNat < k1 → TT K ly 0 0 5 [(0, vR 31), (1, vI v), (2, vI i), (3, vI 100)] [] w5_1 := by
    intro k1
    induction k1 with
    | zero => intro i w5_1 hT5_1 hF5_1 hi hk1; exact absurd hk1 (Nat.not_lt_zero _)
    | succ k1 ih1 =>
      intro i w5_1 hT5_1 hF5_1 hi hk1
      refine TT_iload_n hK rfl 2 rfl dJ7_fill_53178_5 ?_
      refine TT_iload_n hK rfl 3 rfl dJ7_fill_53178_6 ?_
      refine TT_icmp_ge hK (tgt := 20) (irm (by omega) (by omega)) (by decide) dJ7_fill_53178_7 (by decide) (fun hb7_2 => ?_) (fun hb7_2 => ?_)
      · refine TT_vret hK hQ ?_ dJ7_fill_53178_20
        exact ⟨⟨hT5_1, hF5_1⟩, rfl⟩
      · refine TT_aload_n hK rfl 0 rfl dJ7_fill_53178_10 ?_
        refine TT_iload_n hK rfl 2 rfl dJ7_fill_53178_11 ?_
        refine TT_iload_n hK rfl 1 rfl dJ7_fill_53178_12 ?_
        refine TT_iast hK (o := 31) (n := 100) (by decide) rfl (by omega) (by omega) dJ7_fill_53178_13 ?_
        refine TT_hp (h' := setO w5_1 31 (fup (w5_1 31) i v)) (up_can rfl rfl rfl) ?_
        have hT_3 : TY (setO w5_1 31 (fup (w5_1 31) i v)) := tu_31 hT5_1 (show up w5_1 31 i v = (setO w5_1 31 (fup (w5_1 31) i v)) from up_can rfl rfl rfl) (by omega)
        have hF_3 : FR [31] h (setO w5_1 31 (fup (w5_1 31) i v)) := FR_up (show up w5_1 31 i v = (setO w5_1 31 (fup (w5_1 31) i v)) from up_can rfl rfl rfl) hF5_1 (by decide)
        refine TT_iinc hK (v := i + 1) (lv' := [(2, vI (i + 1)), (0, vR 31), (1, vI v), (3, vI 100)]) 2 rfl rfl (by decide) rfl dJ7_fill_53178_14 ?_
        refine TT_goto hK (tgt := 5) dJ7_fill_53178_17 (by decide) ?_
        refine TT_sub [1, 2, 0, 3] rfl ?_
        exact ih1 (i + 1) (setO w5_1 31 (fup (w5_1 31) i v)) hT_3 hF_3 (by first | omega | (simp [up, setR] <;> omega)) (by first | omega | (simp [up, setR] <;> omega))
  refine TT_sub [2, 3, 1, 0] rfl ?_
  exact L5_1 ((((100 : Int) - 0).toNat) + 1) 0 h hT hF (by first | omega | (simp [up, setR] <;> omega)) (Nat.lt_succ_self _)
set_option maxRecDepth 20000 in
theorem s_fill_68 (v : Int) (h : Hp_) (hT : TY h) (hv : -2147483648 ≤ v ∧ v ≤ 2147483647) : Ctr yJ7_fill_53178 cJ7_fill_53178 4 none (rmd 0) ly ly 0 0 [vR 68, vI v] h (fun r h' => (TY h' ∧ FR [68] h h') ∧ r = none) := by
  refine Ctr_of (by decide) (Nat.le_of_ble_eq_true rfl) ⟨Nat.le_refl _, Nat.le_refl _⟩ (fun K hK hQ _ => ?_)
  show TT K ly 0 0 0 [(0, vR 68), (1, vI v)] [] h
  have hF : FR [68] h h := FR_rf _ _
  refine TT_iconst hK dJ7_fill_53178_0 ?_
  refine TT_istore_n hK rfl (lv' := [(2, vI 0), (0, vR 68), (1, vI v)]) (by decide) rfl dJ7_fill_53178_1 ?_
  refine TT_aload_n hK rfl 1 rfl dJ7_fill_53178_2 ?_
  refine TT_alen hK (o := 68) (t := 12) (n := 100) (v := 100) (by decide) rfl (by decide) rfl dJ7_fill_53178_3 ?_
  refine TT_istore_n hK rfl (lv' := [(3, vI 100), (2, vI 0), (0, vR 68), (1, vI v)]) (by decide) rfl dJ7_fill_53178_4 ?_
  have L5_1 : ∀ (k1 : Nat) (i : Int) (w5_1 : Hp_), TY w5_1 → FR [68] h w5_1 → (0 ≤ i ∧ i ≤ 100) → ((100 : Int) - i).toNat < k1 → TT K ly 0 0 5 [(0, vR 68), (1, vI v), (2, vI i), (3, vI 100)] [] w5_1 := by
    intro k1
    induction k1 with
    | zero => intro i w5_1 hT5_1 hF5_1 hi hk1; exact absurd hk1 (Nat.not_lt_zero _)
    | succ k1 ih1 =>
      intro i w5_1 hT5_1 hF5_1 hi hk1
      refine TT_iload_n hK rfl 2 rfl dJ7_fill_53178_5 ?_
      refine TT_iload_n hK rfl 3 rfl dJ7_fill_53178_6 ?_
      refine TT_icmp_ge hK (tgt := 20) (irm (by omega) (by omega)) (by decide) dJ7_fill_53178_7 (by decide) (fun hb7_2 => ?_) (fun hb7_2 => ?_)
      · refine TT_vret hK hQ ?_ dJ7_fill_53178_20
        exact ⟨⟨hT5_1, hF5_1⟩, rfl⟩
      · refine TT_aload_n hK rfl 0 rfl dJ7_fill_53178_10 ?_
        refine TT_iload_n hK rfl 2 rfl dJ7_fill_53178_11 ?_
        refine TT_iload_n hK rfl 1 rfl dJ7_fill_53178_12 ?_
        refine TT_iast hK (o := 68) (n := 100) (by decide) rfl (by omega) (by omega) dJ7_fill_53178_13 ?_
        refine TT_hp (h' := setO w5_1 68 (fup (w5_1 68) i v)) (up_can rfl rfl rfl) ?_
        have hT_3 : TY (setO w5_1 68 (fup (w5_1 68) i v)) := tu_68 hT5_1 (show up w5_1 68 i v = (setO w5_1 68 (fup (w5_1 68) i v)) from up_can rfl rfl rfl) (by omega)
        have hF_3 : FR [68] h (setO w5_1 68 (fup (w5_1 68) i v)) := FR_up (show up w5_1 68 i v = (setO w5_1 68 (fup (w5_1 68) i v)) from up_can rfl rfl rfl) hF5_1 (by decide)
        refine TT_iinc hK (v := i + 1) (lv' := [(2, vI (i + 1)), (0, vR 68), (1, vI v), (3, vI 100)]) 2 rfl rfl (by decide) rfl dJ7_fill_53178_14 ?_
        refine TT_goto hK (tgt := 5) dJ7_fill_53178_17 (by decide) ?_
        refine TT_sub [1, 2, 0, 3] rfl ?_
        exact ih1 (i + 1) (setO w5_1 68 (fup (w5_1 68) i v)) hT_3 hF_3 (by first | omega | (simp [up, setR] <;> omega)) (by first | omega | (simp [up, setR] <;> omega))
  refine TT_sub [2, 3, 1, 0] rfl ?_
  exact L5_1 ((((100 : Int) - 0).toNat) + 1) 0 h hT hF (by first | omega | (simp [up, setR] <;> omega)) (Nat.lt_succ_self _)
set_option maxRecDepth 20000 in
theorem s_fill_69 (v : Int) (h : Hp_) (hT : TY h) (hv : -2147483648 ≤ v ∧ v ≤ 2147483647) : Ctr yJ7_fill_53178 cJ7_fill_53178 4 none (rmd 0) ly ly 0 0 [vR 69, vI v] h (fun r h' => (TY h' ∧ FR [69] h h') ∧ r = none) := by
  refine Ctr_of (by decide) (Nat.le_of_ble_eq_true rfl) ⟨Nat.le_refl _, Nat.le_refl _⟩ (fun K hK hQ _ => ?_)
  show TT K ly 0 0 0 [(0, vR 69), (1, vI v)] [] h
  have hF : FR [69] h h := FR_rf _ _
  refine TT_iconst hK dJ7_fill_53178_0 ?_
  refine TT_istore_n hK rfl (lv' := [(2, vI 0), (0, vR 69), (1, vI v)]) (by decide) rfl dJ7_fill_53178_1 ?_
  refine TT_aload_n hK rfl 1 rfl dJ7_fill_53178_2 ?_
  refine TT_alen hK (o := 69) (t := 12) (n := 100) (v := 100) (by decide) rfl (by decide) rfl dJ7_fill_53178_3 ?_
  refine TT_istore_n hK rfl (lv' := [(3, vI 100), (2, vI 0), (0, vR 69), (1, vI v)]) (by decide) rfl dJ7_fill_53178_4 ?_
  have L5_1 : ∀ (k1 : Nat) (i : Int) (w5_1 : Hp_), TY w5_1 → FR [69] h w5_1 → (0 ≤ i ∧ i ≤ 100) → ((100 : Int) - i).toNat < k1 → TT K ly 0 0 5 [(0, vR 69), (1, vI v), (2, vI i), (3, vI 100)] [] w5_1 := by
    intro k1
    induction k1 with
    | zero => intro i w5_1 hT5_1 hF5_1 hi hk1; exact absurd hk1 (Nat.not_lt_zero _)
    | succ k1 ih1 =>
      intro i w5_1 hT5_1 hF5_1 hi hk1
      refine TT_iload_n hK rfl 2 rfl dJ7_fill_53178_5 ?_
      refine TT_iload_n hK rfl 3 rfl dJ7_fill_53178_6 ?_
      refine TT_icmp_ge hK (tgt := 20) (irm (by omega) (by omega)) (by decide) dJ7_fill_53178_7 (by decide) (fun hb7_2 => ?_) (fun hb7_2 => ?_)
      · refine TT_vret hK hQ ?_ dJ7_fill_53178_20
        exact ⟨⟨hT5_1, hF5_1⟩, rfl⟩
      · refine TT_aload_n hK rfl 0 rfl dJ7_fill_53178_10 ?_
        refine TT_iload_n hK rfl 2 rfl dJ7_fill_53178_11 ?_
        refine TT_iload_n hK rfl 1 rfl dJ7_fill_53178_12 ?_
        refine TT_iast hK (o := 69) (n := 100) (by decide) rfl (by omega) (by omega) dJ7_fill_53178_13 ?_
        refine TT_hp (h' := setO w5_1 69 (fup (w5_1 69) i v)) (up_can rfl rfl rfl) ?_
        have hT_3 : TY (setO w5_1 69 (fup (w5_1 69) i v)) := tu_69 hT5_1 (show up w5_1 69 i v = (setO w5_1 69 (fup (w5_1 69) i v)) from up_can rfl rfl rfl) (by omega)
        have hF_3 : FR [69] h (setO w5_1 69 (fup (w5_1 69) i v)) := FR_up (show up w5_1 69 i v = (setO w5_1 69 (fup (w5_1 69) i v)) from up_can rfl rfl rfl) hF5_1 (by decide)
        refine TT_iinc hK (v := i + 1) (lv' := [(2, vI (i + 1)), (0, vR 69), (1, vI v), (3, vI 100)]) 2 rfl rfl (by decide) rfl dJ7_fill_53178_14 ?_
        refine TT_goto hK (tgt := 5) dJ7_fill_53178_17 (by decide) ?_
        refine TT_sub [1, 2, 0, 3] rfl ?_
        exact ih1 (i + 1) (setO w5_1 69 (fup (w5_1 69) i v)) hT_3 hF_3 (by first | omega | (simp [up, setR] <;> omega)) (by first | omega | (simp [up, setR] <;> omega))
  refine TT_sub [2, 3, 1, 0] rfl ?_
  exact L5_1 ((((100 : Int) - 0).toNat) + 1) 0 h hT hF (by first | omega | (simp [up, setR] <;> omega)) (Nat.lt_succ_self _)
set_option maxRecDepth 20000 in
theorem s_fill_70 (v : Int) (h : Hp_) (hT : TY h) (hv : -1 ≤ v ∧ v ≤ 1) : Ctr yJ7_fill_53178 cJ7_fill_53178 4 none (rmd 0) ly ly 0 0 [vR 70, vI v] h (fun r h' => (TY h' ∧ FR [70] h h') ∧ r = none) := by
  refine Ctr_of (by decide) (Nat.le_of_ble_eq_true rfl) ⟨Nat.le_refl _, Nat.le_refl _⟩ (fun K hK hQ _ => ?_)
  show TT K ly 0 0 0 [(0, vR 70), (1, vI v)] [] h
  have hF : FR [70] h h := FR_rf _ _
  refine TT_iconst hK dJ7_fill_53178_0 ?_
  refine TT_istore_n hK rfl (lv' := [(2, vI 0), (0, vR 70), (1, vI v)]) (by decide) rfl dJ7_fill_53178_1 ?_
  refine TT_aload_n hK rfl 1 rfl dJ7_fill_53178_2 ?_
  refine TT_alen hK (o := 70) (t := 12) (n := 100) (v := 100) (by decide) rfl (by decide) rfl dJ7_fill_53178_3 ?_
  refine TT_istore_n hK rfl (lv' := [(3, vI 100), (2, vI 0), (0, vR 70), (1, vI v)]) (by decide) rfl dJ7_fill_53178_4 ?_
  have L5_1 : ∀ (k1 : Nat) (i : Int) (w5_1 : Hp_), TY w5_1 → FR [70] h w5_1 → (0 ≤ i ∧ i ≤ 100) → ((100 : Int) - i).toNat < k1 → TT K ly 0 0 5 [(0, vR 70), (1, vI v), (2, vI i), (3, vI 100)] [] w5_1 := by
    intro k1
    induction k1 with
    | zero => intro i w5_1 hT5_1 hF5_1 hi hk1; exact absurd hk1 (Nat.not_lt_zero _)
    | succ k1 ih1 =>
      intro i w5_1 hT5_1 hF5_1 hi hk1
      refine TT_iload_n hK rfl 2 rfl dJ7_fill_53178_5 ?_
      refine TT_iload_n hK rfl 3 rfl dJ7_fill_53178_6 ?_
      refine TT_icmp_ge hK (tgt := 20) (irm (by omega) (by omega)) (by decide) dJ7_fill_53178_7 (by decide) (fun hb7_2 => ?_) (fun hb7_2 => ?_)
      · refine TT_vret hK hQ ?_ dJ7_fill_53178_20
        exact ⟨⟨hT5_1, hF5_1⟩, rfl⟩
      · refine TT_aload_n hK rfl 0 rfl dJ7_fill_53178_10 ?_
        refine TT_iload_n hK rfl 2 rfl dJ7_fill_53178_11 ?_
        refine TT_iload_n hK rfl 1 rfl dJ7_fill_53178_12 ?_
        refine TT_iast hK (o := 70) (n := 100) (by decide) rfl (by omega) (by omega) dJ7_fill_53178_13 ?_
        refine TT_hp (h' := setO w5_1 70 (fup (w5_1 70) i v)) (up_can rfl rfl rfl) ?_
        have hT_3 : TY (setO w5_1 70 (fup (w5_1 70) i v)) := tu_70 hT5_1 (show up w5_1 70 i v = (setO w5_1 70 (fup (w5_1 70) i v)) from up_can rfl rfl rfl) (by omega)
        have hF_3 : FR [70] h (setO w5_1 70 (fup (w5_1 70) i v)) := FR_up (show up w5_1 70 i v = (setO w5_1 70 (fup (w5_1 70) i v)) from up_can rfl rfl rfl) hF5_1 (by decide)
        refine TT_iinc hK (v := i + 1) (lv' := [(2, vI (i + 1)), (0, vR 70), (1, vI v), (3, vI 100)]) 2 rfl rfl (by decide) rfl dJ7_fill_53178_14 ?_
        refine TT_goto hK (tgt := 5) dJ7_fill_53178_17 (by decide) ?_
        refine TT_sub [1, 2, 0, 3] rfl ?_
        exact ih1 (i + 1) (setO w5_1 70 (fup (w5_1 70) i v)) hT_3 hF_3 (by first | omega | (simp [up, setR] <;> omega)) (by first | omega | (simp [up, setR] <;> omega))
  refine TT_sub [2, 3, 1, 0] rfl ?_
  exact L5_1 ((((100 : Int) - 0).toNat) + 1) 0 h hT hF (by first | omega | (simp [up, setR] <;> omega)) (Nat.lt_succ_self _)
set_option maxRecDepth 20000 in
theorem s_fill_37 (v : Int) (h : Hp_) (hT : TY h) (hv : 0 ≤ v ∧ v ≤ 1) : Ctr yJ7_fill_53178 cJ7_fill_53178 4 none (rmd 0) ly ly 0 0 [vR 37, vI v] h (fun r h' => (TY h' ∧ FR [37] h h') ∧ r = none) := by
  refine Ctr_of (by decide) (Nat.le_of_ble_eq_true rfl) ⟨Nat.le_refl _, Nat.le_refl _⟩ (fun K hK hQ _ => ?_)
  show TT K ly 0 0 0 [(0, vR 37), (1, vI v)] [] h
  have hF : FR [37] h h := FR_rf _ _
  refine TT_iconst hK dJ7_fill_53178_0 ?_
  refine TT_istore_n hK rfl (lv' := [(2, vI 0), (0, vR 37), (1, vI v)]) (by decide) rfl dJ7_fill_53178_1 ?_
  refine TT_aload_n hK rfl 1 rfl dJ7_fill_53178_2 ?_
  refine TT_alen hK (o := 37) (t := 12) (n := 19) (v := 19) (by decide) rfl (by decide) rfl dJ7_fill_53178_3 ?_
  refine TT_istore_n hK rfl (lv' := [(3, vI 19), (2, vI 0), (0, vR 37), (1, vI v)]) (by decide) rfl dJ7_fill_53178_4 ?_
  have L5_1 : ∀ (k1 : Nat) (i : Int) (w5_1 : Hp_), TY w5_1 → FR [37] h w5_1 → (0 ≤ i ∧ i ≤ 19) → ((19 : Int) - i).toNat < k1 → TT K ly 0 0 5 [(0, vR 37), (1, vI v), (2, vI i), (3, vI 19)] [] w5_1 := by
    intro k1
    induction k1 with
    | zero => intro i w5_1 hT5_1 hF5_1 hi hk1; exact absurd hk1 (Nat.not_lt_zero _)
    | succ k1 ih1 =>
      intro i w5_1 hT5_1 hF5_1 hi hk1
      refine TT_iload_n hK rfl 2 rfl dJ7_fill_53178_5 ?_
      refine TT_iload_n hK rfl 3 rfl dJ7_fill_53178_6 ?_
      refine TT_icmp_ge hK (tgt := 20) (irm (by omega) (by omega)) (by decide) dJ7_fill_53178_7 (by decide) (fun hb7_2 => ?_) (fun hb7_2 => ?_)
      · refine TT_vret hK hQ ?_ dJ7_fill_53178_20
        exact ⟨⟨hT5_1, hF5_1⟩, rfl⟩
      · refine TT_aload_n hK rfl 0 rfl dJ7_fill_53178_10 ?_
        refine TT_iload_n hK rfl 2 rfl dJ7_fill_53178_11 ?_
        refine TT_iload_n hK rfl 1 rfl dJ7_fill_53178_12 ?_
        refine TT_iast hK (o := 37) (n := 19) (by decide) rfl (by omega) (by omega) dJ7_fill_53178_13 ?_
        refine TT_hp (h' := setO w5_1 37 (fup (w5_1 37) i v)) (up_can rfl rfl rfl) ?_
        have hT_3 : TY (setO w5_1 37 (fup (w5_1 37) i v)) := tu_37 hT5_1 (show up w5_1 37 i v = (setO w5_1 37 (fup (w5_1 37) i v)) from up_can rfl rfl rfl) (by omega)
        have hF_3 : FR [37] h (setO w5_1 37 (fup (w5_1 37) i v)) := FR_up (show up w5_1 37 i v = (setO w5_1 37 (fup (w5_1 37) i v)) from up_can rfl rfl rfl) hF5_1 (by decide)
        refine TT_iinc hK (v := i + 1) (lv' := [(2, vI (i + 1)), (0, vR 37), (1, vI v), (3, vI 19)]) 2 rfl rfl (by decide) rfl dJ7_fill_53178_14 ?_
        refine TT_goto hK (tgt := 5) dJ7_fill_53178_17 (by decide) ?_
        refine TT_sub [1, 2, 0, 3] rfl ?_
        exact ih1 (i + 1) (setO w5_1 37 (fup (w5_1 37) i v)) hT_3 hF_3 (by first | omega | (simp [up, setR] <;> omega)) (by first | omega | (simp [up, setR] <;> omega))
  refine TT_sub [2, 3, 1, 0] rfl ?_
  exact L5_1 ((((19 : Int) - 0).toNat) + 1) 0 h hT hF (by first | omega | (simp [up, setR] <;> omega)) (Nat.lt_succ_self _)
set_option maxRecDepth 20000 in
theorem s_fill_36 (v : Int) (h : Hp_) (hT : TY h) (hv : 0 ≤ v ∧ v ≤ 46) : Ctr yJ7_fill_53178 cJ7_fill_53178 4 none (rmd 0) ly ly 0 0 [vR 36, vI v] h (fun r h' => (TY h' ∧ FR [36] h h') ∧ r = none) := by
  refine Ctr_of (by decide) (Nat.le_of_ble_eq_true rfl) ⟨Nat.le_refl _, Nat.le_refl _⟩ (fun K hK hQ _ => ?_)
  show TT K ly 0 0 0 [(0, vR 36), (1, vI v)] [] h
  have hF : FR [36] h h := FR_rf _ _
  refine TT_iconst hK dJ7_fill_53178_0 ?_
  refine TT_istore_n hK rfl (lv' := [(2, vI 0), (0, vR 36), (1, vI v)]) (by decide) rfl dJ7_fill_53178_1 ?_
  refine TT_aload_n hK rfl 1 rfl dJ7_fill_53178_2 ?_
  refine TT_alen hK (o := 36) (t := 12) (n := 19) (v := 19) (by decide) rfl (by decide) rfl dJ7_fill_53178_3 ?_
  refine TT_istore_n hK rfl (lv' := [(3, vI 19), (2, vI 0), (0, vR 36), (1, vI v)]) (by decide) rfl dJ7_fill_53178_4 ?_
  have L5_1 : ∀ (k1 : Nat) (i : Int) (w5_1 : Hp_), TY w5_1 → FR [36] h w5_1 → (0 ≤ i ∧ i ≤ 19) → ((19 : Int) - i).toNat < k1 → TT K ly 0 0 5 [(0, vR 36), (1, vI v), (2, vI i), (3, vI 19)] [] w5_1 := by
    intro k1
    induction k1 with
    | zero => intro i w5_1 hT5_1 hF5_1 hi hk1; exact absurd hk1 (Nat.not_lt_zero _)
    | succ k1 ih1 =>
      intro i w5_1 hT5_1 hF5_1 hi hk1
      refine TT_iload_n hK rfl 2 rfl dJ7_fill_53178_5 ?_
      refine TT_iload_n hK rfl 3 rfl dJ7_fill_53178_6 ?_
      refine TT_icmp_ge hK (tgt := 20) (irm (by omega) (by omega)) (by decide) dJ7_fill_53178_7 (by decide) (fun hb7_2 => ?_) (fun hb7_2 => ?_)
      · refine TT_vret hK hQ ?_ dJ7_fill_53178_20
        exact ⟨⟨hT5_1, hF5_1⟩, rfl⟩
      · refine TT_aload_n hK rfl 0 rfl dJ7_fill_53178_10 ?_
        refine TT_iload_n hK rfl 2 rfl dJ7_fill_53178_11 ?_
        refine TT_iload_n hK rfl 1 rfl dJ7_fill_53178_12 ?_
        refine TT_iast hK (o := 36) (n := 19) (by decide) rfl (by omega) (by omega) dJ7_fill_53178_13 ?_
        refine TT_hp (h' := setO w5_1 36 (fup (w5_1 36) i v)) (up_can rfl rfl rfl) ?_
        have hT_3 : TY (setO w5_1 36 (fup (w5_1 36) i v)) := tu_36 hT5_1 (show up w5_1 36 i v = (setO w5_1 36 (fup (w5_1 36) i v)) from up_can rfl rfl rfl) (by omega)
        have hF_3 : FR [36] h (setO w5_1 36 (fup (w5_1 36) i v)) := FR_up (show up w5_1 36 i v = (setO w5_1 36 (fup (w5_1 36) i v)) from up_can rfl rfl rfl) hF5_1 (by decide)
        refine TT_iinc hK (v := i + 1) (lv' := [(2, vI (i + 1)), (0, vR 36), (1, vI v), (3, vI 19)]) 2 rfl rfl (by decide) rfl dJ7_fill_53178_14 ?_
        refine TT_goto hK (tgt := 5) dJ7_fill_53178_17 (by decide) ?_
        refine TT_sub [1, 2, 0, 3] rfl ?_
        exact ih1 (i + 1) (setO w5_1 36 (fup (w5_1 36) i v)) hT_3 hF_3 (by first | omega | (simp [up, setR] <;> omega)) (by first | omega | (simp [up, setR] <;> omega))
  refine TT_sub [2, 3, 1, 0] rfl ?_
  exact L5_1 ((((19 : Int) - 0).toNat) + 1) 0 h hT hF (by first | omega | (simp [up, setR] <;> omega)) (Nat.lt_succ_self _)
set_option maxRecDepth 20000 in
theorem s_fill_42 (v : Int) (h : Hp_) (hT : TY h) (hv : 0 ≤ v ∧ v ≤ 1) : Ctr yJ7_fill_53178 cJ7_fill_53178 4 none (rmd 0) ly ly 0 0 [vR 42, vI v] h (fun r h' => (TY h' ∧ FR [42] h h') ∧ r = none) := by
  refine Ctr_of (by decide) (Nat.le_of_ble_eq_true rfl) ⟨Nat.le_refl _, Nat.le_refl _⟩ (fun K hK hQ _ => ?_)
  show TT K ly 0 0 0 [(0, vR 42), (1, vI v)] [] h
  have hF : FR [42] h h := FR_rf _ _
  refine TT_iconst hK dJ7_fill_53178_0 ?_
  refine TT_istore_n hK rfl (lv' := [(2, vI 0), (0, vR 42), (1, vI v)]) (by decide) rfl dJ7_fill_53178_1 ?_
  refine TT_aload_n hK rfl 1 rfl dJ7_fill_53178_2 ?_
  refine TT_alen hK (o := 42) (t := 12) (n := 19) (v := 19) (by decide) rfl (by decide) rfl dJ7_fill_53178_3 ?_
  refine TT_istore_n hK rfl (lv' := [(3, vI 19), (2, vI 0), (0, vR 42), (1, vI v)]) (by decide) rfl dJ7_fill_53178_4 ?_
  have L5_1 : ∀ (k1 : Nat) (i : Int) (w5_1 : Hp_), TY w5_1 → FR [42] h w5_1 → (0 ≤ i ∧ i ≤ 19) → ((19 : Int) - i).toNat < k1 → TT K ly 0 0 5 [(0, vR 42), (1, vI v), (2, vI i), (3, vI 19)] [] w5_1 := by
    intro k1
    induction k1 with
    | zero => intro i w5_1 hT5_1 hF5_1 hi hk1; exact absurd hk1 (Nat.not_lt_zero _)
    | succ k1 ih1 =>
      intro i w5_1 hT5_1 hF5_1 hi hk1
      refine TT_iload_n hK rfl 2 rfl dJ7_fill_53178_5 ?_
      refine TT_iload_n hK rfl 3 rfl dJ7_fill_53178_6 ?_
      refine TT_icmp_ge hK (tgt := 20) (irm (by omega) (by omega)) (by decide) dJ7_fill_53178_7 (by decide) (fun hb7_2 => ?_) (fun hb7_2 => ?_)
      · refine TT_vret hK hQ ?_ dJ7_fill_53178_20
        exact ⟨⟨hT5_1, hF5_1⟩, rfl⟩
      · refine TT_aload_n hK rfl 0 rfl dJ7_fill_53178_10 ?_
        refine TT_iload_n hK rfl 2 rfl dJ7_fill_53178_11 ?_
        refine TT_iload_n hK rfl 1 rfl dJ7_fill_53178_12 ?_
        refine TT_iast hK (o := 42) (n := 19) (by decide) rfl (by omega) (by omega) dJ7_fill_53178_13 ?_
        refine TT_hp (h' := setO w5_1 42 (fup (w5_1 42) i v)) (up_can rfl rfl rfl) ?_
        have hT_3 : TY (setO w5_1 42 (fup (w5_1 42) i v)) := tu_42 hT5_1 (show up w5_1 42 i v = (setO w5_1 42 (fup (w5_1 42) i v)) from up_can rfl rfl rfl) (by omega)
        have hF_3 : FR [42] h (setO w5_1 42 (fup (w5_1 42) i v)) := FR_up (show up w5_1 42 i v = (setO w5_1 42 (fup (w5_1 42) i v)) from up_can rfl rfl rfl) hF5_1 (by decide)
        refine TT_iinc hK (v := i + 1) (lv' := [(2, vI (i + 1)), (0, vR 42), (1, vI v), (3, vI 19)]) 2 rfl rfl (by decide) rfl dJ7_fill_53178_14 ?_
        refine TT_goto hK (tgt := 5) dJ7_fill_53178_17 (by decide) ?_
        refine TT_sub [1, 2, 0, 3] rfl ?_
        exact ih1 (i + 1) (setO w5_1 42 (fup (w5_1 42) i v)) hT_3 hF_3 (by first | omega | (simp [up, setR] <;> omega)) (by first | omega | (simp [up, setR] <;> omega))
  refine TT_sub [2, 3, 1, 0] rfl ?_
  exact L5_1 ((((19 : Int) - 0).toNat) + 1) 0 h hT hF (by first | omega | (simp [up, setR] <;> omega)) (Nat.lt_succ_self _)
set_option maxRecDepth 20000 in
theorem s_fill_41 (v : Int) (h : Hp_) (hT : TY h) (hv : 0 ≤ v ∧ v ≤ 46) : Ctr yJ7_fill_53178 cJ7_fill_53178 4 none (rmd 0) ly ly 0 0 [vR 41, vI v] h (fun r h' => (TY h' ∧ FR [41] h h') ∧ r = none) := by
  refine Ctr_of (by decide) (Nat.le_of_ble_eq_true rfl) ⟨Nat.le_refl _, Nat.le_refl _⟩ (fun K hK hQ _ => ?_)
  show TT K ly 0 0 0 [(0, vR 41), (1, vI v)] [] h
  have hF : FR [41] h h := FR_rf _ _
  refine TT_iconst hK dJ7_fill_53178_0 ?_
  refine TT_istore_n hK rfl (lv' := [(2, vI 0), (0, vR 41), (1, vI v)]) (by decide) rfl dJ7_fill_53178_1 ?_
  refine TT_aload_n hK rfl 1 rfl dJ7_fill_53178_2 ?_
  refine TT_alen hK (o := 41) (t := 12) (n := 19) (v := 19) (by decide) rfl (by decide) rfl dJ7_fill_53178_3 ?_
  refine TT_istore_n hK rfl (lv' := [(3, vI 19), (2, vI 0), (0, vR 41), (1, vI v)]) (by decide) rfl dJ7_fill_53178_4 ?_
  have L5_1 : ∀ (k1 : Nat) (i : Int) (w5_1 : Hp_), TY w5_1 → FR [41] h w5_1 → (0 ≤ i ∧ i ≤ 19) → ((19 : Int) - i).toNat < k1 → TT K ly 0 0 5 [(0, vR 41), (1, vI v), (2, vI i), (3, vI 19)] [] w5_1 := by
    intro k1
    induction k1 with
    | zero => intro i w5_1 hT5_1 hF5_1 hi hk1; exact absurd hk1 (Nat.not_lt_zero _)
    | succ k1 ih1 =>
      intro i w5_1 hT5_1 hF5_1 hi hk1
      refine TT_iload_n hK rfl 2 rfl dJ7_fill_53178_5 ?_
      refine TT_iload_n hK rfl 3 rfl dJ7_fill_53178_6 ?_
      refine TT_icmp_ge hK (tgt := 20) (irm (by omega) (by omega)) (by decide) dJ7_fill_53178_7 (by decide) (fun hb7_2 => ?_) (fun hb7_2 => ?_)
      · refine TT_vret hK hQ ?_ dJ7_fill_53178_20
        exact ⟨⟨hT5_1, hF5_1⟩, rfl⟩
      · refine TT_aload_n hK rfl 0 rfl dJ7_fill_53178_10 ?_
        refine TT_iload_n hK rfl 2 rfl dJ7_fill_53178_11 ?_
        refine TT_iload_n hK rfl 1 rfl dJ7_fill_53178_12 ?_
        refine TT_iast hK (o := 41) (n := 19) (by decide) rfl (by omega) (by omega) dJ7_fill_53178_13 ?_
        refine TT_hp (h' := setO w5_1 41 (fup (w5_1 41) i v)) (up_can rfl rfl rfl) ?_
        have hT_3 : TY (setO w5_1 41 (fup (w5_1 41) i v)) := tu_41 hT5_1 (show up w5_1 41 i v = (setO w5_1 41 (fup (w5_1 41) i v)) from up_can rfl rfl rfl) (by omega)
        have hF_3 : FR [41] h (setO w5_1 41 (fup (w5_1 41) i v)) := FR_up (show up w5_1 41 i v = (setO w5_1 41 (fup (w5_1 41) i v)) from up_can rfl rfl rfl) hF5_1 (by decide)
        refine TT_iinc hK (v := i + 1) (lv' := [(2, vI (i + 1)), (0, vR 41), (1, vI v), (3, vI 19)]) 2 rfl rfl (by decide) rfl dJ7_fill_53178_14 ?_
        refine TT_goto hK (tgt := 5) dJ7_fill_53178_17 (by decide) ?_
        refine TT_sub [1, 2, 0, 3] rfl ?_
        exact ih1 (i + 1) (setO w5_1 41 (fup (w5_1 41) i v)) hT_3 hF_3 (by first | omega | (simp [up, setR] <;> omega)) (by first | omega | (simp [up, setR] <;> omega))
  refine TT_sub [2, 3, 1, 0] rfl ?_
  exact L5_1 ((((19 : Int) - 0).toNat) + 1) 0 h hT hF (by first | omega | (simp [up, setR] <;> omega)) (Nat.lt_succ_self _)
set_option maxRecDepth 20000 in
theorem s_fill_65 (v : Int) (h : Hp_) (hT : TY h) (hv : 0 ≤ v ∧ v ≤ 1) : Ctr yJ7_fill_53178 cJ7_fill_53178 4 none (rmd 0) ly ly 0 0 [vR 65, vI v] h (fun r h' => (TY h' ∧ FR [65] h h') ∧ r = none) := by
  refine Ctr_of (by decide) (Nat.le_of_ble_eq_true rfl) ⟨Nat.le_refl _, Nat.le_refl _⟩ (fun K hK hQ _ => ?_)
  show TT K ly 0 0 0 [(0, vR 65), (1, vI v)] [] h
  have hF : FR [65] h h := FR_rf _ _
  refine TT_iconst hK dJ7_fill_53178_0 ?_
  refine TT_istore_n hK rfl (lv' := [(2, vI 0), (0, vR 65), (1, vI v)]) (by decide) rfl dJ7_fill_53178_1 ?_
  refine TT_aload_n hK rfl 1 rfl dJ7_fill_53178_2 ?_
  refine TT_alen hK (o := 65) (t := 12) (n := 19) (v := 19) (by decide) rfl (by decide) rfl dJ7_fill_53178_3 ?_
  refine TT_istore_n hK rfl (lv' := [(3, vI 19), (2, vI 0), (0, vR 65), (1, vI v)]) (by decide) rfl dJ7_fill_53178_4 ?_
  have L5_1 : ∀ (k1 : Nat) (i : Int) (w5_1 : Hp_), TY w5_1 → FR [65] h w5_1 → (0 ≤ i ∧ i ≤ 19) → ((19 : Int) - i).toNat < k1 → TT K ly 0 0 5 [(0, vR 65), (1, vI v), (2, vI i), (3, vI 19)] [] w5_1 := by
    intro k1
    induction k1 with
    | zero => intro i w5_1 hT5_1 hF5_1 hi hk1; exact absurd hk1 (Nat.not_lt_zero _)
    | succ k1 ih1 =>
      intro i w5_1 hT5_1 hF5_1 hi hk1
      refine TT_iload_n hK rfl 2 rfl dJ7_fill_53178_5 ?_
      refine TT_iload_n hK rfl 3 rfl dJ7_fill_53178_6 ?_
      refine TT_icmp_ge hK (tgt := 20) (irm (by omega) (by omega)) (by decide) dJ7_fill_53178_7 (by decide) (fun hb7_2 => ?_) (fun hb7_2 => ?_)
      · refine TT_vret hK hQ ?_ dJ7_fill_53178_20
        exact ⟨⟨hT5_1, hF5_1⟩, rfl⟩
      · refine TT_aload_n hK rfl 0 rfl dJ7_fill_53178_10 ?_
        refine TT_iload_n hK rfl 2 rfl dJ7_fill_53178_11 ?_
        refine TT_iload_n hK rfl 1 rfl dJ7_fill_53178_12 ?_
        refine TT_iast hK (o := 65) (n := 19) (by decide) rfl (by omega) (by omega) dJ7_fill_53178_13 ?_
        refine TT_hp (h' := setO w5_1 65 (fup (w5_1 65) i v)) (up_can rfl rfl rfl) ?_
        have hT_3 : TY (setO w5_1 65 (fup (w5_1 65) i v)) := tu_65 hT5_1 (show up w5_1 65 i v = (setO w5_1 65 (fup (w5_1 65) i v)) from up_can rfl rfl rfl) (by omega)
        have hF_3 : FR [65] h (setO w5_1 65 (fup (w5_1 65) i v)) := FR_up (show up w5_1 65 i v = (setO w5_1 65 (fup (w5_1 65) i v)) from up_can rfl rfl rfl) hF5_1 (by decide)
        refine TT_iinc hK (v := i + 1) (lv' := [(2, vI (i + 1)), (0, vR 65), (1, vI v), (3, vI 19)]) 2 rfl rfl (by decide) rfl dJ7_fill_53178_14 ?_
        refine TT_goto hK (tgt := 5) dJ7_fill_53178_17 (by decide) ?_
        refine TT_sub [1, 2, 0, 3] rfl ?_
        exact ih1 (i + 1) (setO w5_1 65 (fup (w5_1 65) i v)) hT_3 hF_3 (by first | omega | (simp [up, setR] <;> omega)) (by first | omega | (simp [up, setR] <;> omega))
  refine TT_sub [2, 3, 1, 0] rfl ?_
  exact L5_1 ((((19 : Int) - 0).toNat) + 1) 0 h hT hF (by first | omega | (simp [up, setR] <;> omega)) (Nat.lt_succ_self _)
set_option maxRecDepth 20000 in
theorem s_fill_64 (v : Int) (h : Hp_) (hT : TY h) (hv : 0 ≤ v ∧ v ≤ 46) : Ctr yJ7_fill_53178 cJ7_fill_53178 4 none (rmd 0) ly ly 0 0 [vR 64, vI v] h (fun r h' => (TY h' ∧ FR [64] h h') ∧ r = none) := by
  refine Ctr_of (by decide) (Nat.le_of_ble_eq_true rfl) ⟨Nat.le_refl _, Nat.le_refl _⟩ (fun K hK hQ _ => ?_)
  show TT K ly 0 0 0 [(0, vR 64), (1, vI v)] [] h
  have hF : FR [64] h h := FR_rf _ _
  refine TT_iconst hK dJ7_fill_53178_0 ?_
  refine TT_istore_n hK rfl (lv' := [(2, vI 0), (0, vR 64), (1, vI v)]) (by decide) rfl dJ7_fill_53178_1 ?_
  refine TT_aload_n hK rfl 1 rfl dJ7_fill_53178_2 ?_
  refine TT_alen hK (o := 64) (t := 12) (n := 19) (v := 19) (by decide) rfl (by decide) rfl dJ7_fill_53178_3 ?_
  refine TT_istore_n hK rfl (lv' := [(3, vI 19), (2, vI 0), (0, vR 64), (1, vI v)]) (by decide) rfl dJ7_fill_53178_4 ?_
  have L5_1 : ∀ (k1 : Nat) (i : Int) (w5_1 : Hp_), TY w5_1 → FR [64] h w5_1 → (0 ≤ i ∧ i ≤ 19) → ((19 : Int) - i).toNat < k1 → TT K ly 0 0 5 [(0, vR 64), (1, vI v), (2, vI i), (3, vI 19)] [] w5_1 := by
    intro k1
    induction k1 with
    | zero => intro i w5_1 hT5_1 hF5_1 hi hk1; exact absurd hk1 (Nat.not_lt_zero _)
    | succ k1 ih1 =>
      intro i w5_1 hT5_1 hF5_1 hi hk1
      refine TT_iload_n hK rfl 2 rfl dJ7_fill_53178_5 ?_
      refine TT_iload_n hK rfl 3 rfl dJ7_fill_53178_6 ?_
      refine TT_icmp_ge hK (tgt := 20) (irm (by omega) (by omega)) (by decide) dJ7_fill_53178_7 (by decide) (fun hb7_2 => ?_) (fun hb7_2 => ?_)
      · refine TT_vret hK hQ ?_ dJ7_fill_53178_20
        exact ⟨⟨hT5_1, hF5_1⟩, rfl⟩
      · refine TT_aload_n hK rfl 0 rfl dJ7_fill_53178_10 ?_
        refine TT_iload_n hK rfl 2 rfl dJ7_fill_53178_11 ?_
        refine TT_iload_n hK rfl 1 rfl dJ7_fill_53178_12 ?_
        refine TT_iast hK (o := 64) (n := 19) (by decide) rfl (by omega) (by omega) dJ7_fill_53178_13 ?_
        refine TT_hp (h' := setO w5_1 64 (fup (w5_1 64) i v)) (up_can rfl rfl rfl) ?_
        have hT_3 : TY (setO w5_1 64 (fup (w5_1 64) i v)) := tu_64 hT5_1 (show up w5_1 64 i v = (setO w5_1 64 (fup (w5_1 64) i v)) from up_can rfl rfl rfl) (by omega)
        have hF_3 : FR [64] h (setO w5_1 64 (fup (w5_1 64) i v)) := FR_up (show up w5_1 64 i v = (setO w5_1 64 (fup (w5_1 64) i v)) from up_can rfl rfl rfl) hF5_1 (by decide)
        refine TT_iinc hK (v := i + 1) (lv' := [(2, vI (i + 1)), (0, vR 64), (1, vI v), (3, vI 19)]) 2 rfl rfl (by decide) rfl dJ7_fill_53178_14 ?_
        refine TT_goto hK (tgt := 5) dJ7_fill_53178_17 (by decide) ?_
        refine TT_sub [1, 2, 0, 3] rfl ?_
        exact ih1 (i + 1) (setO w5_1 64 (fup (w5_1 64) i v)) hT_3 hF_3 (by first | omega | (simp [up, setR] <;> omega)) (by first | omega | (simp [up, setR] <;> omega))
  refine TT_sub [2, 3, 1, 0] rfl ?_
  exact L5_1 ((((19 : Int) - 0).toNat) + 1) 0 h hT hF (by first | omega | (simp [up, setR] <;> omega)) (Nat.lt_succ_self _)
set_option maxRecDepth 20000 in
theorem s_fill_54 (v : Int) (h : Hp_) (hT : TY h) (hv : -2147483648 ≤ v ∧ v ≤ 2147483647) : Ctr yJ7_fill_53178 cJ7_fill_53178 4 none (rmd 0) ly ly 0 0 [vR 54, vI v] h (fun r h' => (TY h' ∧ FR [54] h h') ∧ r = none) := by
  refine Ctr_of (by decide) (Nat.le_of_ble_eq_true rfl) ⟨Nat.le_refl _, Nat.le_refl _⟩ (fun K hK hQ _ => ?_)
  show TT K ly 0 0 0 [(0, vR 54), (1, vI v)] [] h
  have hF : FR [54] h h := FR_rf _ _
  refine TT_iconst hK dJ7_fill_53178_0 ?_
  refine TT_istore_n hK rfl (lv' := [(2, vI 0), (0, vR 54), (1, vI v)]) (by decide) rfl dJ7_fill_53178_1 ?_
  refine TT_aload_n hK rfl 1 rfl dJ7_fill_53178_2 ?_
  refine TT_alen hK (o := 54) (t := 12) (n := 10) (v := 10) (by decide) rfl (by decide) rfl dJ7_fill_53178_3 ?_
  refine TT_istore_n hK rfl (lv' := [(3, vI 10), (2, vI 0), (0, vR 54), (1, vI v)]) (by decide) rfl dJ7_fill_53178_4 ?_
  have L5_1 : ∀ (k1 : Nat) (i : Int) (w5_1 : Hp_), TY w5_1 → FR [54] h w5_1 → (0 ≤ i ∧ i ≤ 10) → ((10 : Int) - i).toNat < k1 → TT K ly 0 0 5 [(0, vR 54), (1, vI v), (2, vI i), (3, vI 10)] [] w5_1 := by
    intro k1
    induction k1 with
    | zero => intro i w5_1 hT5_1 hF5_1 hi hk1; exact absurd hk1 (Nat.not_lt_zero _)
    | succ k1 ih1 =>
      intro i w5_1 hT5_1 hF5_1 hi hk1
      refine TT_iload_n hK rfl 2 rfl dJ7_fill_53178_5 ?_
      refine TT_iload_n hK rfl 3 rfl dJ7_fill_53178_6 ?_
      refine TT_icmp_ge hK (tgt := 20) (irm (by omega) (by omega)) (by decide) dJ7_fill_53178_7 (by decide) (fun hb7_2 => ?_) (fun hb7_2 => ?_)
      · refine TT_vret hK hQ ?_ dJ7_fill_53178_20
        exact ⟨⟨hT5_1, hF5_1⟩, rfl⟩
      · refine TT_aload_n hK rfl 0 rfl dJ7_fill_53178_10 ?_
        refine TT_iload_n hK rfl 2 rfl dJ7_fill_53178_11 ?_
        refine TT_iload_n hK rfl 1 rfl dJ7_fill_53178_12 ?_
        refine TT_iast hK (o := 54) (n := 10) (by decide) rfl (by omega) (by omega) dJ7_fill_53178_13 ?_
        refine TT_hp (h' := setO w5_1 54 (fup (w5_1 54) i v)) (up_can rfl rfl rfl) ?_
        have hT_3 : TY (setO w5_1 54 (fup (w5_1 54) i v)) := tu_54 hT5_1 (show up w5_1 54 i v = (setO w5_1 54 (fup (w5_1 54) i v)) from up_can rfl rfl rfl) (by omega)
        have hF_3 : FR [54] h (setO w5_1 54 (fup (w5_1 54) i v)) := FR_up (show up w5_1 54 i v = (setO w5_1 54 (fup (w5_1 54) i v)) from up_can rfl rfl rfl) hF5_1 (by decide)
        refine TT_iinc hK (v := i + 1) (lv' := [(2, vI (i + 1)), (0, vR 54), (1, vI v), (3, vI 10)]) 2 rfl rfl (by decide) rfl dJ7_fill_53178_14 ?_
        refine TT_goto hK (tgt := 5) dJ7_fill_53178_17 (by decide) ?_
        refine TT_sub [1, 2, 0, 3] rfl ?_
        exact ih1 (i + 1) (setO w5_1 54 (fup (w5_1 54) i v)) hT_3 hF_3 (by first | omega | (simp [up, setR] <;> omega)) (by first | omega | (simp [up, setR] <;> omega))
  refine TT_sub [2, 3, 1, 0] rfl ?_
  exact L5_1 ((((10 : Int) - 0).toNat) + 1) 0 h hT hF (by first | omega | (simp [up, setR] <;> omega)) (Nat.lt_succ_self _)
set_option maxRecDepth 20000 in
theorem s_fill_55 (v : Int) (h : Hp_) (hT : TY h) (hv : -2147483648 ≤ v ∧ v ≤ 2147483647) : Ctr yJ7_fill_53178 cJ7_fill_53178 4 none (rmd 0) ly ly 0 0 [vR 55, vI v] h (fun r h' => (TY h' ∧ FR [55] h h') ∧ r = none) := by
  refine Ctr_of (by decide) (Nat.le_of_ble_eq_true rfl) ⟨Nat.le_refl _, Nat.le_refl _⟩ (fun K hK hQ _ => ?_)
  show TT K ly 0 0 0 [(0, vR 55), (1, vI v)] [] h
  have hF : FR [55] h h := FR_rf _ _
  refine TT_iconst hK dJ7_fill_53178_0 ?_
  refine TT_istore_n hK rfl (lv' := [(2, vI 0), (0, vR 55), (1, vI v)]) (by decide) rfl dJ7_fill_53178_1 ?_
  refine TT_aload_n hK rfl 1 rfl dJ7_fill_53178_2 ?_
  refine TT_alen hK (o := 55) (t := 12) (n := 10) (v := 10) (by decide) rfl (by decide) rfl dJ7_fill_53178_3 ?_
  refine TT_istore_n hK rfl (lv' := [(3, vI 10), (2, vI 0), (0, vR 55), (1, vI v)]) (by decide) rfl dJ7_fill_53178_4 ?_
  have L5_1 : ∀ (k1 : Nat) (i : Int) (w5_1 : Hp_), TY w5_1 → FR [55] h w5_1 → (0 ≤ i ∧ i ≤ 10) → ((10 : Int) - i).toNat < k1 → TT K ly 0 0 5 [(0, vR 55), (1, vI v), (2, vI i), (3, vI 10)] [] w5_1 := by
    intro k1
    induction k1 with
    | zero => intro i w5_1 hT5_1 hF5_1 hi hk1; exact absurd hk1 (Nat.not_lt_zero _)
    | succ k1 ih1 =>
      intro i w5_1 hT5_1 hF5_1 hi hk1
      refine TT_iload_n hK rfl 2 rfl dJ7_fill_53178_5 ?_
      refine TT_iload_n hK rfl 3 rfl dJ7_fill_53178_6 ?_
      refine TT_icmp_ge hK (tgt := 20) (irm (by omega) (by omega)) (by decide) dJ7_fill_53178_7 (by decide) (fun hb7_2 => ?_) (fun hb7_2 => ?_)
      · refine TT_vret hK hQ ?_ dJ7_fill_53178_20
        exact ⟨⟨hT5_1, hF5_1⟩, rfl⟩
      · refine TT_aload_n hK rfl 0 rfl dJ7_fill_53178_10 ?_
        refine TT_iload_n hK rfl 2 rfl dJ7_fill_53178_11 ?_
        refine TT_iload_n hK rfl 1 rfl dJ7_fill_53178_12 ?_
        refine TT_iast hK (o := 55) (n := 10) (by decide) rfl (by omega) (by omega) dJ7_fill_53178_13 ?_
        refine TT_hp (h' := setO w5_1 55 (fup (w5_1 55) i v)) (up_can rfl rfl rfl) ?_
        have hT_3 : TY (setO w5_1 55 (fup (w5_1 55) i v)) := tu_55 hT5_1 (show up w5_1 55 i v = (setO w5_1 55 (fup (w5_1 55) i v)) from up_can rfl rfl rfl) (by omega)
        have hF_3 : FR [55] h (setO w5_1 55 (fup (w5_1 55) i v)) := FR_up (show up w5_1 55 i v = (setO w5_1 55 (fup (w5_1 55) i v)) from up_can rfl rfl rfl) hF5_1 (by decide)
        refine TT_iinc hK (v := i + 1) (lv' := [(2, vI (i + 1)), (0, vR 55), (1, vI v), (3, vI 10)]) 2 rfl rfl (by decide) rfl dJ7_fill_53178_14 ?_
        refine TT_goto hK (tgt := 5) dJ7_fill_53178_17 (by decide) ?_
        refine TT_sub [1, 2, 0, 3] rfl ?_
        exact ih1 (i + 1) (setO w5_1 55 (fup (w5_1 55) i v)) hT_3 hF_3 (by first | omega | (simp [up, setR] <;> omega)) (by first | omega | (simp [up, setR] <;> omega))
  refine TT_sub [2, 3, 1, 0] rfl ?_
  exact L5_1 ((((10 : Int) - 0).toNat) + 1) 0 h hT hF (by first | omega | (simp [up, setR] <;> omega)) (Nat.lt_succ_self _)
set_option maxRecDepth 20000 in
theorem s_fill_58 (v : Int) (h : Hp_) (hT : TY h) (hv : 0 ≤ v ∧ v ≤ 3) : Ctr yJ7_fill_53178 cJ7_fill_53178 4 none (rmd 0) ly ly 0 0 [vR 58, vI v] h (fun r h' => (TY h' ∧ FR [58] h h') ∧ r = none) := by
  refine Ctr_of (by decide) (Nat.le_of_ble_eq_true rfl) ⟨Nat.le_refl _, Nat.le_refl _⟩ (fun K hK hQ _ => ?_)
  show TT K ly 0 0 0 [(0, vR 58), (1, vI v)] [] h
  have hF : FR [58] h h := FR_rf _ _
  refine TT_iconst hK dJ7_fill_53178_0 ?_
  refine TT_istore_n hK rfl (lv' := [(2, vI 0), (0, vR 58), (1, vI v)]) (by decide) rfl dJ7_fill_53178_1 ?_
  refine TT_aload_n hK rfl 1 rfl dJ7_fill_53178_2 ?_
  refine TT_alen hK (o := 58) (t := 12) (n := 10) (v := 10) (by decide) rfl (by decide) rfl dJ7_fill_53178_3 ?_
  refine TT_istore_n hK rfl (lv' := [(3, vI 10), (2, vI 0), (0, vR 58), (1, vI v)]) (by decide) rfl dJ7_fill_53178_4 ?_
  have L5_1 : ∀ (k1 : Nat) (i : Int) (w5_1 : Hp_), TY w5_1 → FR [58] h w5_1 → (0 ≤ i ∧ i ≤ 10) → ((10 : Int) - i).toNat < k1 → TT K ly 0 0 5 [(0, vR 58), (1, vI v), (2, vI i), (3, vI 10)] [] w5_1 := by
    intro k1
    induction k1 with
    | zero => intro i w5_1 hT5_1 hF5_1 hi hk1; exact absurd hk1 (Nat.not_lt_zero _)
    | succ k1 ih1 =>
      intro i w5_1 hT5_1 hF5_1 hi hk1
      refine TT_iload_n hK rfl 2 rfl dJ7_fill_53178_5 ?_
      refine TT_iload_n hK rfl 3 rfl dJ7_fill_53178_6 ?_
      refine TT_icmp_ge hK (tgt := 20) (irm (by omega) (by omega)) (by decide) dJ7_fill_53178_7 (by decide) (fun hb7_2 => ?_) (fun hb7_2 => ?_)
      · refine TT_vret hK hQ ?_ dJ7_fill_53178_20
        exact ⟨⟨hT5_1, hF5_1⟩, rfl⟩
      · refine TT_aload_n hK rfl 0 rfl dJ7_fill_53178_10 ?_
        refine TT_iload_n hK rfl 2 rfl dJ7_fill_53178_11 ?_
        refine TT_iload_n hK rfl 1 rfl dJ7_fill_53178_12 ?_
        refine TT_iast hK (o := 58) (n := 10) (by decide) rfl (by omega) (by omega) dJ7_fill_53178_13 ?_
        refine TT_hp (h' := setO w5_1 58 (fup (w5_1 58) i v)) (up_can rfl rfl rfl) ?_
        have hT_3 : TY (setO w5_1 58 (fup (w5_1 58) i v)) := tu_58 hT5_1 (show up w5_1 58 i v = (setO w5_1 58 (fup (w5_1 58) i v)) from up_can rfl rfl rfl) (by omega)
        have hF_3 : FR [58] h (setO w5_1 58 (fup (w5_1 58) i v)) := FR_up (show up w5_1 58 i v = (setO w5_1 58 (fup (w5_1 58) i v)) from up_can rfl rfl rfl) hF5_1 (by decide)
        refine TT_iinc hK (v := i + 1) (lv' := [(2, vI (i + 1)), (0, vR 58), (1, vI v), (3, vI 10)]) 2 rfl rfl (by decide) rfl dJ7_fill_53178_14 ?_
        refine TT_goto hK (tgt := 5) dJ7_fill_53178_17 (by decide) ?_
        refine TT_sub [1, 2, 0, 3] rfl ?_
        exact ih1 (i + 1) (setO w5_1 58 (fup (w5_1 58) i v)) hT_3 hF_3 (by first | omega | (simp [up, setR] <;> omega)) (by first | omega | (simp [up, setR] <;> omega))
  refine TT_sub [2, 3, 1, 0] rfl ?_
  exact L5_1 ((((10 : Int) - 0).toNat) + 1) 0 h hT hF (by first | omega | (simp [up, setR] <;> omega)) (Nat.lt_succ_self _)

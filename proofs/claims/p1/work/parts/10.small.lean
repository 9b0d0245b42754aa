set_option maxRecDepth 20000 in
theorem c_fill_2 (v : Int) (h : Hp_)  : Ctr yJ7_fill_53178 cJ7_fill_53178 4 none (rmd 0) ly ly 0 0 [vR 2, vI v] h (fun r h' => r = none ∧ h' = setO h 2 (fsr (h 2) 0 64 (fun _ => v))) := by
  refine Ctr_of (by decide) (Nat.le_of_ble_eq_true rfl) ⟨Nat.le_refl _, Nat.le_refl _⟩ (fun K hK hQ _ => ?_)
  show TT K ly 0 0 0 [(0, vR 2), (1, vI v)] [] h
  refine TT_iconst hK dJ7_fill_53178_0 ?_
  refine TT_istore_n hK rfl (lv' := [(2, vI 0), (0, vR 2), (1, vI v)]) (by decide) rfl dJ7_fill_53178_1 ?_
  refine TT_aload_n hK rfl 1 rfl dJ7_fill_53178_2 ?_
  refine TT_alen hK (o := 2) (t := 12) (n := 64) (v := 64) (by decide) rfl (by decide) rfl dJ7_fill_53178_3 ?_
  refine TT_istore_n hK rfl (lv' := [(3, vI 64), (2, vI 0), (0, vR 2), (1, vI v)]) (by decide) rfl dJ7_fill_53178_4 ?_
  have L5_1 : ∀ (k1 : Nat) (i : Int), (0 ≤ i) → (i ≤ 64) → ((64 : Int) - i).toNat < k1 → TT K ly 0 0 5 [(0, vR 2), (1, vI v), (2, vI i), (3, vI 64)] [] (setO h 2 (fsr (h 2) 0 i (fun _ => v))) := by
    intro k1
    induction k1 with
    | zero => intro i hi0 hi1 hk1; exact absurd hk1 (Nat.not_lt_zero _)
    | succ k1 ih1 =>
      intro i hi0 hi1 hk1
      refine TT_iload_n hK rfl 2 rfl dJ7_fill_53178_5 ?_
      refine TT_iload_n hK rfl 3 rfl dJ7_fill_53178_6 ?_
      refine TT_icmp_ge hK (tgt := 20) (irm (by omega) (by omega)) (by decide) dJ7_fill_53178_7 (by decide) (fun hb7 => ?_) (fun hb7 => ?_)
      · refine TT_vret hK hQ ?_ dJ7_fill_53178_20
        exact ⟨rfl, setO_cg rfl (by rw [show i = 64 by omega])⟩
      · refine TT_aload_n hK rfl 0 rfl dJ7_fill_53178_10 ?_
        refine TT_iload_n hK rfl 2 rfl dJ7_fill_53178_11 ?_
        refine TT_iload_n hK rfl 1 rfl dJ7_fill_53178_12 ?_
        refine TT_iast hK (o := 2) (n := 64) (by decide) rfl (by first | omega | (simp [up, setR] <;> omega)) (by first | omega | (simp [up, setR] <;> omega)) dJ7_fill_53178_13 ?_
        refine TT_hp (h' := setO h 2 (fup (fsr (h 2) 0 i (fun _ => v)) i v)) (up_can (sOf_eq _ _ _) rfl (setO_same _ _ _ _)) ?_
        refine TT_iinc hK (v := i + 1) (lv' := [(2, vI (i + 1)), (0, vR 2), (1, vI v), (3, vI 64)]) 2 rfl rfl (by decide) rfl dJ7_fill_53178_14 ?_
        refine TT_goto hK (tgt := 5) dJ7_fill_53178_17 (by decide) ?_
        refine TT_sub [1, 2, 0, 3] rfl ?_
        refine TT_hp (h' := setO h 2 (fsr (h 2) 0 (i + 1) (fun _ => v))) (setO_cg rfl (by first | rfl | exact fsr_step _ (by omega) rfl)) ?_
        exact ih1 (i + 1) (by first | omega | (simp [up, setR] <;> omega)) (by first | omega | (simp [up, setR] <;> omega)) (by first | omega | (simp [up, setR] <;> omega))
  refine TT_sub [2, 3, 1, 0] rfl ?_
  refine TT_hp (h' := setO h 2 (fsr (h 2) 0 0 (fun _ => v))) ((setO_new (by first | rfl | exact fsr_0 _ _ _)).trans (setO_cg rfl rfl)) ?_
  exact L5_1 ((((64 : Int) - 0).toNat) + 1) 0 (by first | omega | (simp [up, setR] <;> omega)) (by first | omega | (simp [up, setR] <;> omega)) (Nat.lt_succ_self _)
set_option maxRecDepth 20000 in
theorem c_fill_4 (v : Int) (h : Hp_)  : Ctr yJ7_fill_53178 cJ7_fill_53178 4 none (rmd 0) ly ly 0 0 [vR 4, vI v] h (fun r h' => r = none ∧ h' = setO h 4 (fsr (h 4) 0 64 (fun _ => v))) := by
  refine Ctr_of (by decide) (Nat.le_of_ble_eq_true rfl) ⟨Nat.le_refl _, Nat.le_refl _⟩ (fun K hK hQ _ => ?_)
  show TT K ly 0 0 0 [(0, vR 4), (1, vI v)] [] h
  refine TT_iconst hK dJ7_fill_53178_0 ?_
  refine TT_istore_n hK rfl (lv' := [(2, vI 0), (0, vR 4), (1, vI v)]) (by decide) rfl dJ7_fill_53178_1 ?_
  refine TT_aload_n hK rfl 1 rfl dJ7_fill_53178_2 ?_
  refine TT_alen hK (o := 4) (t := 12) (n := 64) (v := 64) (by decide) rfl (by decide) rfl dJ7_fill_53178_3 ?_
  refine TT_istore_n hK rfl (lv' := [(3, vI 64), (2, vI 0), (0, vR 4), (1, vI v)]) (by decide) rfl dJ7_fill_53178_4 ?_
  have L5_1 : ∀ (k1 : Nat) (i : Int), (0 ≤ i) → (i ≤ 64) → ((64 : Int) - i).toNat < k1 → TT K ly 0 0 5 [(0, vR 4), (1, vI v), (2, vI i), (3, vI 64)] [] (setO h 4 (fsr (h 4) 0 i (fun _ => v))) := by
    intro k1
    induction k1 with
    | zero => intro i hi0 hi1 hk1; exact absurd hk1 (Nat.not_lt_zero _)
    | succ k1 ih1 =>
      intro i hi0 hi1 hk1
      refine TT_iload_n hK rfl 2 rfl dJ7_fill_53178_5 ?_
      refine TT_iload_n hK rfl 3 rfl dJ7_fill_53178_6 ?_
      refine TT_icmp_ge hK (tgt := 20) (irm (by omega) (by omega)) (by decide) dJ7_fill_53178_7 (by decide) (fun hb7 => ?_) (fun hb7 => ?_)
      · refine TT_vret hK hQ ?_ dJ7_fill_53178_20
        exact ⟨rfl, setO_cg rfl (by rw [show i = 64 by omega])⟩
      · refine TT_aload_n hK rfl 0 rfl dJ7_fill_53178_10 ?_
        refine TT_iload_n hK rfl 2 rfl dJ7_fill_53178_11 ?_
        refine TT_iload_n hK rfl 1 rfl dJ7_fill_53178_12 ?_
        refine TT_iast hK (o := 4) (n := 64) (by decide) rfl (by first | omega | (simp [up, setR] <;> omega)) (by first | omega | (simp [up, setR] <;> omega)) dJ7_fill_53178_13 ?_
        refine TT_hp (h' := setO h 4 (fup (fsr (h 4) 0 i (fun _ => v)) i v)) (up_can (sOf_eq _ _ _) rfl (setO_same _ _ _ _)) ?_
        refine TT_iinc hK (v := i + 1) (lv' := [(2, vI (i + 1)), (0, vR 4), (1, vI v), (3, vI 64)]) 2 rfl rfl (by decide) rfl dJ7_fill_53178_14 ?_
        refine TT_goto hK (tgt := 5) dJ7_fill_53178_17 (by decide) ?_
        refine TT_sub [1, 2, 0, 3] rfl ?_
        refine TT_hp (h' := setO h 4 (fsr (h 4) 0 (i + 1) (fun _ => v))) (setO_cg rfl (by first | rfl | exact fsr_step _ (by omega) rfl)) ?_
        exact ih1 (i + 1) (by first | omega | (simp [up, setR] <;> omega)) (by first | omega | (simp [up, setR] <;> omega)) (by first | omega | (simp [up, setR] <;> omega))
  refine TT_sub [2, 3, 1, 0] rfl ?_
  refine TT_hp (h' := setO h 4 (fsr (h 4) 0 0 (fun _ => v))) ((setO_new (by first | rfl | exact fsr_0 _ _ _)).trans (setO_cg rfl rfl)) ?_
  exact L5_1 ((((64 : Int) - 0).toNat) + 1) 0 (by first | omega | (simp [up, setR] <;> omega)) (by first | omega | (simp [up, setR] <;> omega)) (Nat.lt_succ_self _)
set_option maxRecDepth 20000 in
theorem c_fill_29 (v : Int) (h : Hp_)  : Ctr yJ7_fill_53178 cJ7_fill_53178 4 none (rmd 0) ly ly 0 0 [vR 29, vI v] h (fun r h' => r = none ∧ h' = setO h 29 (fsr (h 29) 0 100 (fun _ => v))) := by
  refine Ctr_of (by decide) (Nat.le_of_ble_eq_true rfl) ⟨Nat.le_refl _, Nat.le_refl _⟩ (fun K hK hQ _ => ?_)
  show TT K ly 0 0 0 [(0, vR 29), (1, vI v)] [] h
  refine TT_iconst hK dJ7_fill_53178_0 ?_
  refine TT_istore_n hK rfl (lv' := [(2, vI 0), (0, vR 29), (1, vI v)]) (by decide) rfl dJ7_fill_53178_1 ?_
  refine TT_aload_n hK rfl 1 rfl dJ7_fill_53178_2 ?_
  refine TT_alen hK (o := 29) (t := 12) (n := 100) (v := 100) (by decide) rfl (by decide) rfl dJ7_fill_53178_3 ?_
  refine TT_istore_n hK rfl (lv' := [(3, vI 100), (2, vI 0), (0, vR 29), (1, vI v)]) (by decide) rfl dJ7_fill_53178_4 ?_
  have L5_1 : ∀ (k1 : Nat) (i : Int), (0 ≤ i) → (i ≤ 100) → ((100 : Int) - i).toNat < k1 → TT K ly 0 0 5 [(0, vR 29), (1, vI v), (2, vI i), (3, vI 100)] [] (setO h 29 (fsr (h 29) 0 i (fun _ => v))) := by
    intro k1
    induction k1 with
    | zero => intro i hi0 hi1 hk1; exact absurd hk1 (Nat.not_lt_zero _)
    | succ k1 ih1 =>
      intro i hi0 hi1 hk1
      refine TT_iload_n hK rfl 2 rfl dJ7_fill_53178_5 ?_
      refine TT_iload_n hK rfl 3 rfl dJ7_fill_53178_6 ?_
      refine TT_icmp_ge hK (tgt := 20) (irm (by omega) (by omega)) (by decide) dJ7_fill_53178_7 (by decide) (fun hb7 => ?_) (fun hb7 => ?_)
      · refine TT_vret hK hQ ?_ dJ7_fill_53178_20
        exact ⟨rfl, setO_cg rfl (by rw [show i = 100 by omega])⟩
      · refine TT_aload_n hK rfl 0 rfl dJ7_fill_53178_10 ?_
        refine TT_iload_n hK rfl 2 rfl dJ7_fill_53178_11 ?_
        refine TT_iload_n hK rfl 1 rfl dJ7_fill_53178_12 ?_
        refine TT_iast hK (o := 29) (n := 100) (by decide) rfl (by first | omega | (simp [up, setR] <;> omega)) (by first | omega | (simp [up, setR] <;> omega)) dJ7_fill_53178_13 ?_
        refine TT_hp (h' := setO h 29 (fup (fsr (h 29) 0 i (fun _ => v)) i v)) (up_can (sOf_eq _ _ _) rfl (setO_same _ _ _ _)) ?_
        refine TT_iinc hK (v := i + 1) (lv' := [(2, vI (i + 1)), (0, vR 29), (1, vI v), (3, vI 100)]) 2 rfl rfl (by decide) rfl dJ7_fill_53178_14 ?_
        refine TT_goto hK (tgt := 5) dJ7_fill_53178_17 (by decide) ?_
        refine TT_sub [1, 2, 0, 3] rfl ?_
        refine TT_hp (h' := setO h 29 (fsr (h 29) 0 (i + 1) (fun _ => v))) (setO_cg rfl (by first | rfl | exact fsr_step _ (by omega) rfl)) ?_
        exact ih1 (i + 1) (by first | omega | (simp [up, setR] <;> omega)) (by first | omega | (simp [up, setR] <;> omega)) (by first | omega | (simp [up, setR] <;> omega))
  refine TT_sub [2, 3, 1, 0] rfl ?_
  refine TT_hp (h' := setO h 29 (fsr (h 29) 0 0 (fun _ => v))) ((setO_new (by first | rfl | exact fsr_0 _ _ _)).trans (setO_cg rfl rfl)) ?_
  exact L5_1 ((((100 : Int) - 0).toNat) + 1) 0 (by first | omega | (simp [up, setR] <;> omega)) (by first | omega | (simp [up, setR] <;> omega)) (Nat.lt_succ_self _)
set_option maxRecDepth 20000 in
theorem c_fill_30 (v : Int) (h : Hp_)  : Ctr yJ7_fill_53178 cJ7_fill_53178 4 none (rmd 0) ly ly 0 0 [vR 30, vI v] h (fun r h' => r = none ∧ h' = setO h 30 (fsr (h 30) 0 100 (fun _ => v))) := by
  refine Ctr_of (by decide) (Nat.le_of_ble_eq_true rfl) ⟨Nat.le_refl _, Nat.le_refl _⟩ (fun K hK hQ _ => ?_)
  show TT K ly 0 0 0 [(0, vR 30), (1, vI v)] [] h
  refine TT_iconst hK dJ7_fill_53178_0 ?_
  refine TT_istore_n hK rfl (lv' := [(2, vI 0), (0, vR 30), (1, vI v)]) (by decide) rfl dJ7_fill_53178_1 ?_
  refine TT_aload_n hK rfl 1 rfl dJ7_fill_53178_2 ?_
  refine TT_alen hK (o := 30) (t := 12) (n := 100) (v := 100) (by decide) rfl (by decide) rfl dJ7_fill_53178_3 ?_
  refine TT_istore_n hK rfl (lv' := [(3, vI 100), (2, vI 0), (0, vR 30), (1, vI v)]) (by decide) rfl dJ7_fill_53178_4 ?_
  have L5_1 : ∀ (k1 : Nat) (i : Int), (0 ≤ i) → (i ≤ 100) → ((100 : Int) - i).toNat < k1 → TT K ly 0 0 5 [(0, vR 30), (1, vI v), (2, vI i), (3, vI 100)] [] (setO h 30 (fsr (h 30) 0 i (fun _ => v))) := by
    intro k1
    induction k1 with
    | zero => intro i hi0 hi1 hk1; exact absurd hk1 (Nat.not_lt_zero _)
    | succ k1 ih1 =>
      intro i hi0 hi1 hk1
      refine TT_iload_n hK rfl 2 rfl dJ7_fill_53178_5 ?_
      refine TT_iload_n hK rfl 3 rfl dJ7_fill_53178_6 ?_
      refine TT_icmp_ge hK (tgt := 20) (irm (by omega) (by omega)) (by decide) dJ7_fill_53178_7 (by decide) (fun hb7 => ?_) (fun hb7 => ?_)
      · refine TT_vret hK hQ ?_ dJ7_fill_53178_20
        exact ⟨rfl, setO_cg rfl (by rw [show i = 100 by omega])⟩
      · refine TT_aload_n hK rfl 0 rfl dJ7_fill_53178_10 ?_
        refine TT_iload_n hK rfl 2 rfl dJ7_fill_53178_11 ?_
        refine TT_iload_n hK rfl 1 rfl dJ7_fill_53178_12 ?_
        refine TT_iast hK (o := 30) (n := 100) (by decide) rfl (by first | omega | (simp [up, setR] <;> omega)) (by first | omega | (simp [up, setR] <;> omega)) dJ7_fill_53178_13 ?_
        refine TT_hp (h' := setO h 30 (fup (fsr (h 30) 0 i (fun _ => v)) i v)) (up_can (sOf_eq _ _ _) rfl (setO_same _ _ _ _)) ?_
        refine TT_iinc hK (v := i + 1) (lv' := [(2, vI (i + 1)), (0, vR 30), (1, vI v), (3, vI 100)]) 2 rfl rfl (by decide) rfl dJ7_fill_53178_14 ?_
        refine TT_goto hK (tgt := 5) dJ7_fill_53178_17 (by decide) ?_
        refine TT_sub [1, 2, 0, 3] rfl ?_
        refine TT_hp (h' := setO h 30 (fsr (h 30) 0 (i + 1) (fun _ => v))) (setO_cg rfl (by first | rfl | exact fsr_step _ (by omega) rfl)) ?_
        exact ih1 (i + 1) (by first | omega | (simp [up, setR] <;> omega)) (by first | omega | (simp [up, setR] <;> omega)) (by first | omega | (simp [up, setR] <;> omega))
  refine TT_sub [2, 3, 1, 0] rfl ?_
  refine TT_hp (h' := setO h 30 (fsr (h 30) 0 0 (fun _ => v))) ((setO_new (by first | rfl | exact fsr_0 _ _ _)).trans (setO_cg rfl rfl)) ?_
  exact L5_1 ((((100 : Int) - 0).toNat) + 1) 0 (by first | omega | (simp [up, setR] <;> omega)) (by first | omega | (simp [up, setR] <;> omega)) (Nat.lt_succ_self _)
set_option maxRecDepth 20000 in
theorem c_fill_31 (v : Int) (h : Hp_)  : Ctr yJ7_fill_53178 cJ7_fill_53178 4 none (rmd 0) ly ly 0 0 [vR 31, vI v] h (fun r h' => r = none ∧ h' = setO h 31 (fsr (h 31) 0 100 (fun _ => v))) := by
  refine Ctr_of (by decide) (Nat.le_of_ble_eq_true rfl) ⟨Nat.le_refl _, Nat.le_refl _⟩ (fun K hK hQ _ => ?_)
  show TT K ly 0 0 0 [(0, vR 31), (1, vI v)] [] h
  refine TT_iconst hK dJ7_fill_53178_0 ?_
  refine TT_istore_n hK rfl (lv' := [(2, vI 0), (0, vR 31), (1, vI v)]) (by decide) rfl dJ7_fill_53178_1 ?_
  refine TT_aload_n hK rfl 1 rfl dJ7_fill_53178_2 ?_
  refine TT_alen hK (o := 31) (t := 12) (n := 100) (v := 100) (by decide) rfl (by decide) rfl dJ7_fill_53178_3 ?_
  refine TT_istore_n hK rfl (lv' := [(3, vI 100), (2, vI 0), (0, vR 31), (1, vI v)]) (by decide) rfl dJ7_fill_53178_4 ?_
  have L5_1 : ∀ (k1 : Nat) (i : Int), (0 ≤ i) → (i ≤ 100) → ((100 : Int) - i).toNat < k1 → TT K ly 0 0 5 [(0, vR 31), (1, vI v), (2, vI i), (3, vI 100)] [] (setO h 31 (fsr (h 31) 0 i (fun _ => v))) := by
    intro k1
    induction k1 with
    | zero => intro i hi0 hi1 hk1; exact absurd hk1 (Nat.not_lt_zero _)
    | succ k1 ih1 =>
      intro i hi0 hi1 hk1
      refine TT_iload_n hK rfl 2 rfl dJ7_fill_53178_5 ?_
      refine TT_iload_n hK rfl 3 rfl dJ7_fill_53178_6 ?_
      refine TT_icmp_ge hK (tgt := 20) (irm (by omega) (by omega)) (by decide) dJ7_fill_53178_7 (by decide) (fun hb7 => ?_) (fun hb7 => ?_)
      · refine TT_vret hK hQ ?_ dJ7_fill_53178_20
        exact ⟨rfl, setO_cg rfl (by rw [show i = 100 by omega])⟩
      · refine TT_aload_n hK rfl 0 rfl dJ7_fill_53178_10 ?_
        refine TT_iload_n hK rfl 2 rfl dJ7_fill_53178_11 ?_
        refine TT_iload_n hK rfl 1 rfl dJ7_fill_53178_12 ?_
        refine TT_iast hK (o := 31) (n := 100) (by decide) rfl (by first | omega | (simp [up, setR] <;> omega)) (by first | omega | (simp [up, setR] <;> omega)) dJ7_fill_53178_13 ?_
        refine TT_hp (h' := setO h 31 (fup (fsr (h 31) 0 i (fun _ => v)) i v)) (up_can (sOf_eq _ _ _) rfl (setO_same _ _ _ _)) ?_
        refine TT_iinc hK (v := i + 1) (lv' := [(2, vI (i + 1)), (0, vR 31), (1, vI v), (3, vI 100)]) 2 rfl rfl (by decide) rfl dJ7_fill_53178_14 ?_
        refine TT_goto hK (tgt := 5) dJ7_fill_53178_17 (by decide) ?_
        refine TT_sub [1, 2, 0, 3] rfl ?_
        refine TT_hp (h' := setO h 31 (fsr (h 31) 0 (i + 1) (fun _ => v))) (setO_cg rfl (by first | rfl | exact fsr_step _ (by omega) rfl)) ?_
        exact ih1 (i + 1) (by first | omega | (simp [up, setR] <;> omega)) (by first | omega | (simp [up, setR] <;> omega)) (by first | omega | (simp [up, setR] <;> omega))
  refine TT_sub [2, 3, 1, 0] rfl ?_
  refine TT_hp (h' := setO h 31 (fsr (h 31) 0 0 (fun _ => v))) ((setO_new (by first | rfl | exact fsr_0 _ _ _)).trans (setO_cg rfl rfl)) ?_
  exact L5_1 ((((100 : Int) - 0).toNat) + 1) 0 (by first | omega | (simp [up, setR] <;> omega)) (by first | omega | (simp [up, setR] <;> omega)) (Nat.lt_succ_self _)
set_option maxRecDepth 20000 in
theorem c_fill_68 (v : Int) (h : Hp_)  : Ctr yJ7_fill_53178 cJ7_fill_53178 4 none (rmd 0) ly ly 0 0 [vR 68, vI v] h (fun r h' => r = none ∧ h' = setO h 68 (fsr (h 68) 0 100 (fun _ => v))) := by
  refine Ctr_of (by decide) (Nat.le_of_ble_eq_true rfl) ⟨Nat.le_refl _, Nat.le_refl _⟩ (fun K hK hQ _ => ?_)
  show TT K ly 0 0 0 [(0, vR 68), (1, vI v)] [] h
  refine TT_iconst hK dJ7_fill_53178_0 ?_
  refine TT_istore_n hK rfl (lv' := [(2, vI 0), (0, vR 68), (1, vI v)]) (by decide) rfl dJ7_fill_53178_1 ?_
  refine TT_aload_n hK rfl 1 rfl dJ7_fill_53178_2 ?_
  refine TT_alen hK (o := 68) (t := 12) (n := 100) (v := 100) (by decide) rfl (by decide) rfl dJ7_fill_53178_3 ?_
  refine TT_istore_n hK rfl (lv' := [(3, vI 100), (2, vI 0), (0, vR 68), (1, vI v)]) (by decide) rfl dJ7_fill_53178_4 ?_
  have L5_1 : ∀ (k1 : Nat) (i : Int), (0 ≤ i) → (i ≤ 100) → ((100 : Int) - i).toNat < k1 → TT K ly 0 0 5 [(0, vR 68), (1, vI v), (2, vI i), (3, vI 100)] [] (setO h 68 (fsr (h 68) 0 i (fun _ => v))) := by
    intro k1
    induction k1 with
    | zero => intro i hi0 hi1 hk1; exact absurd hk1 (Nat.not_lt_zero _)
    | succ k1 ih1 =>
      intro i hi0 hi1 hk1
      refine TT_iload_n hK rfl 2 rfl dJ7_fill_53178_5 ?_
      refine TT_iload_n hK rfl 3 rfl dJ7_fill_53178_6 ?_
      refine TT_icmp_ge hK (tgt := 20) (irm (by omega) (by omega)) (by decide) dJ7_fill_53178_7 (by decide) (fun hb7 => ?_) (fun hb7 => ?_)
      · refine TT_vret hK hQ ?_ dJ7_fill_53178_20
        exact ⟨rfl, setO_cg rfl (by rw [show i = 100 by omega])⟩
      · refine TT_aload_n hK rfl 0 rfl dJ7_fill_53178_10 ?_
        refine TT_iload_n hK rfl 2 rfl dJ7_fill_53178_11 ?_
        refine TT_iload_n hK rfl 1 rfl dJ7_fill_53178_12 ?_
        refine TT_iast hK (o := 68) (n := 100) (by decide) rfl (by first | omega | (simp [up, setR] <;> omega)) (by first | omega | (simp [up, setR] <;> omega)) dJ7_fill_53178_13 ?_
        refine TT_hp (h' := setO h 68 (fup (fsr (h 68) 0 i (fun _ => v)) i v)) (up_can (sOf_eq _ _ _) rfl (setO_same _ _ _ _)) ?_
        refine TT_iinc hK (v := i + 1) (lv' := [(2, vI (i + 1)), (0, vR 68), (1, vI v), (3, vI 100)]) 2 rfl rfl (by decide) rfl dJ7_fill_53178_14 ?_
        refine TT_goto hK (tgt := 5) dJ7_fill_53178_17 (by decide) ?_
        refine TT_sub [1, 2, 0, 3] rfl ?_
        refine TT_hp (h' := setO h 68 (fsr (h 68) 0 (i + 1) (fun _ => v))) (setO_cg rfl (by first | rfl | exact fsr_step _ (by omega) rfl)) ?_
        exact ih1 (i + 1) (by first | omega | (simp [up, setR] <;> omega)) (by first | omega | (simp [up, setR] <;> omega)) (by first | omega | (simp [up, setR] <;> omega))
  refine TT_sub [2, 3, 1, 0] rfl ?_
  refine TT_hp (h' := setO h 68 (fsr (h 68) 0 0 (fun _ => v))) ((setO_new (by first | rfl | exact fsr_0 _ _ _)).trans (setO_cg rfl rfl)) ?_
  exact L5_1 ((((100 : Int) - 0).toNat) + 1) 0 (by first | omega | (simp [up, setR] <;> omega)) (by first | omega | (simp [up, setR] <;> omega)) (Nat.lt_succ_self _)
set_option maxRecDepth 20000 in
theorem c_fill_69 (v : Int) (h : Hp_)  : Ctr yJ7_fill_53178 cJ7_fill_53178 4 none (rmd 0) ly ly 0 0 [vR 69, vI v] h (fun r h' => r = none ∧ h' = setO h 69 (fsr (h 69) 0 100 (fun _ => v))) := by
  refine Ctr_of (by decide) (Nat.le_of_ble_eq_true rfl) ⟨Nat.le_refl _, Nat.le_refl _⟩ (fun K hK hQ _ => ?_)
  show TT K ly 0 0 0 [(0, vR 69), (1, vI v)] [] h
  refine TT_iconst hK dJ7_fill_53178_0 ?_
  refine TT_istore_n hK rfl (lv' := [(2, vI 0), (0, vR 69), (1, vI v)]) (by decide) rfl dJ7_fill_53178_1 ?_
  refine TT_aload_n hK rfl 1 rfl dJ7_fill_53178_2 ?_
  refine TT_alen hK (o := 69) (t := 12) (n := 100) (v := 100) (by decide) rfl (by decide) rfl dJ7_fill_53178_3 ?_
  refine TT_istore_n hK rfl (lv' := [(3, vI 100), (2, vI 0), (0, vR 69), (1, vI v)]) (by decide) rfl dJ7_fill_53178_4 ?_
  have L5_1 : ∀ (k1 : Nat) (i : Int), (0 ≤ i) → (i ≤ 100) → ((100 : Int) - i).toNat < k1 → TT K ly 0 0 5 [(0, vR 69), (1, vI v), (2, vI i), (3, vI 100)] [] (setO h 69 (fsr (h 69) 0 i (fun _ => v))) := by
    intro k1
    induction k1 with
    | zero => intro i hi0 hi1 hk1; exact absurd hk1 (Nat.not_lt_zero _)
    | succ k1 ih1 =>
      intro i hi0 hi1 hk1
      refine TT_iload_n hK rfl 2 rfl dJ7_fill_53178_5 ?_
      refine TT_iload_n hK rfl 3 rfl dJ7_fill_53178_6 ?_
      refine TT_icmp_ge hK (tgt := 20) (irm (by omega) (by omega)) (by decide) dJ7_fill_53178_7 (by decide) (fun hb7 => ?_) (fun hb7 => ?_)
      · refine TT_vret hK hQ ?_ dJ7_fill_53178_20
        exact ⟨rfl, setO_cg rfl (by rw [show i = 100 by omega])⟩
      · refine TT_aload_n hK rfl 0 rfl dJ7_fill_53178_10 ?_
        refine TT_iload_n hK rfl 2 rfl dJ7_fill_53178_11 ?_
        refine TT_iload_n hK rfl 1 rfl dJ7_fill_53178_12 ?_
        refine TT_iast hK (o := 69) (n := 100) (by decide) rfl (by first | omega | (simp [up, setR] <;> omega)) (by first | omega | (simp [up, setR] <;> omega)) dJ7_fill_53178_13 ?_
        refine TT_hp (h' := setO h 69 (fup (fsr (h 69) 0 i (fun _ => v)) i v)) (up_can (sOf_eq _ _ _) rfl (setO_same _ _ _ _)) ?_
        refine TT_iinc hK (v := i + 1) (lv' := [(2, vI (i + 1)), (0, vR 69), (1, vI v), (3, vI 100)]) 2 rfl rfl (by decide) rfl dJ7_fill_53178_14 ?_
        refine TT_goto hK (tgt := 5) dJ7_fill_53178_17 (by decide) ?_
        refine TT_sub [1, 2, 0, 3] rfl ?_
        refine TT_hp (h' := setO h 69 (fsr (h 69) 0 (i + 1) (fun _ => v))) (setO_cg rfl (by first | rfl | exact fsr_step _ (by omega) rfl)) ?_
        exact ih1 (i + 1) (by first | omega | (simp [up, setR] <;> omega)) (by first | omega | (simp [up, setR] <;> omega)) (by first | omega | (simp [up, setR] <;> omega))
  refine TT_sub [2, 3, 1, 0] rfl ?_
  refine TT_hp (h' := setO h 69 (fsr (h 69) 0 0 (fun _ => v))) ((setO_new (by first | rfl | exact fsr_0 _ _ _)).trans (setO_cg rfl rfl)) ?_
  exact L5_1 ((((100 : Int) - 0).toNat) + 1) 0 (by first | omega | (simp [up, setR] <;> omega)) (by first | omega | (simp [up, setR] <;> omega)) (Nat.lt_succ_self _)
set_option maxRecDepth 20000 in
theorem c_fill_70 (v : Int) (h : Hp_)  : Ctr yJ7_fill_53178 cJ7_fill_53178 4 none (rmd 0) ly ly 0 0 [vR 70, vI v] h (fun r h' => r = none ∧ h' = setO h 70 (fsr (h 70) 0 100 (fun _ => v))) := by
  refine Ctr_of (by decide) (Nat.le_of_ble_eq_true rfl) ⟨Nat.le_refl _, Nat.le_refl _⟩ (fun K hK hQ _ => ?_)
  show TT K ly 0 0 0 [(0, vR 70), (1, vI v)] [] h
  refine TT_iconst hK dJ7_fill_53178_0 ?_
  refine TT_istore_n hK rfl (lv' := [(2, vI 0), (0, vR 70), (1, vI v)]) (by decide) rfl dJ7_fill_53178_1 ?_
  refine TT_aload_n hK rfl 1 rfl dJ7_fill_53178_2 ?_
  refine TT_alen hK (o := 70) (t := 12) (n := 100) (v := 100) (by decide) rfl (by decide) rfl dJ7_fill_53178_3 ?_
  refine TT_istore_n hK rfl (lv' := [(3, vI 100), (2, vI 0), (0, vR 70), (1, vI v)]) (by decide) rfl dJ7_fill_53178_4 ?_
  have L5_1 : ∀ (k1 : Nat) (i : Int), (0 ≤ i) → (i ≤ 100) → ((100 : Int) - i).toNat < k1 → TT K ly 0 0 5 [(0, vR 70), (1, vI v), (2, vI i), (3, vI 100)] [] (setO h 70 (fsr (h 70) 0 i (fun _ => v))) := by
    intro k1
    induction k1 with
    | zero => intro i hi0 hi1 hk1; exact absurd hk1 (Nat.not_lt_zero _)
    | succ k1 ih1 =>
      intro i hi0 hi1 hk1
      refine TT_iload_n hK rfl 2 rfl dJ7_fill_53178_5 ?_
      refine TT_iload_n hK rfl 3 rfl dJ7_fill_53178_6 ?_
      refine TT_icmp_ge hK (tgt := 20) (irm (by omega) (by omega)) (by decide) dJ7_fill_53178_7 (by decide) (fun hb7 => ?_) (fun hb7 => ?_)
      · refine TT_vret hK hQ ?_ dJ7_fill_53178_20
        exact ⟨rfl, setO_cg rfl (by rw [show i = 100 by omega])⟩
      · refine TT_aload_n hK rfl 0 rfl dJ7_fill_53178_10 ?_
        refine TT_iload_n hK rfl 2 rfl dJ7_fill_53178_11 ?_
        refine TT_iload_n hK rfl 1 rfl dJ7_fill_53178_12 ?_
        refine TT_iast hK (o := 70) (n := 100) (by decide) rfl (by first | omega | (simp [up, setR] <;> omega)) (by first | omega | (simp [up, setR] <;> omega)) dJ7_fill_53178_13 ?_
        refine TT_hp (h' := setO h 70 (fup (fsr (h 70) 0 i (fun _ => v)) i v)) (up_can (sOf_eq _ _ _) rfl (setO_same _ _ _ _)) ?_
        refine TT_iinc hK (v := i + 1) (lv' := [(2, vI (i + 1)), (0, vR 70), (1, vI v), (3, vI 100)]) 2 rfl rfl (by decide) rfl dJ7_fill_53178_14 ?_
        refine TT_goto hK (tgt := 5) dJ7_fill_53178_17 (by decide) ?_
        refine TT_sub [1, 2, 0, 3] rfl ?_
        refine TT_hp (h' := setO h 70 (fsr (h 70) 0 (i + 1) (fun _ => v))) (setO_cg rfl (by first | rfl | exact fsr_step _ (by omega) rfl)) ?_
        exact ih1 (i + 1) (by first | omega | (simp [up, setR] <;> omega)) (by first | omega | (simp [up, setR] <;> omega)) (by first | omega | (simp [up, setR] <;> omega))
  refine TT_sub [2, 3, 1, 0] rfl ?_
  refine TT_hp (h' := setO h 70 (fsr (h 70) 0 0 (fun _ => v))) ((setO_new (by first | rfl | exact fsr_0 _ _ _)).trans (setO_cg rfl rfl)) ?_
  exact L5_1 ((((100 : Int) - 0).toNat) + 1) 0 (by first | omega | (simp [up, setR] <;> omega)) (by first | omega | (simp [up, setR] <;> omega)) (Nat.lt_succ_self _)
set_option maxRecDepth 20000 in
theorem c_fill_37 (v : Int) (h : Hp_)  : Ctr yJ7_fill_53178 cJ7_fill_53178 4 none (rmd 0) ly ly 0 0 [vR 37, vI v] h (fun r h' => r = none ∧ h' = setO h 37 (fsr (h 37) 0 19 (fun _ => v))) := by
  refine Ctr_of (by decide) (Nat.le_of_ble_eq_true rfl) ⟨Nat.le_refl _, Nat.le_refl _⟩ (fun K hK hQ _ => ?_)
  show TT K ly 0 0 0 [(0, vR 37), (1, vI v)] [] h
  refine TT_iconst hK dJ7_fill_53178_0 ?_
  refine TT_istore_n hK rfl (lv' := [(2, vI 0), (0, vR 37), (1, vI v)]) (by decide) rfl dJ7_fill_53178_1 ?_
  refine TT_aload_n hK rfl 1 rfl dJ7_fill_53178_2 ?_
  refine TT_alen hK (o := 37) (t := 12) (n := 19) (v := 19) (by decide) rfl (by decide) rfl dJ7_fill_53178_3 ?_
  refine TT_istore_n hK rfl (lv' := [(3, vI 19), (2, vI 0), (0, vR 37), (1, vI v)]) (by decide) rfl dJ7_fill_53178_4 ?_
  have L5_1 : ∀ (k1 : Nat) (i : Int), (0 ≤ i) → (i ≤ 19) → ((19 : Int) - i).toNat < k1 → TT K ly 0 0 5 [(0, vR 37), (1, vI v), (2, vI i), (3, vI 19)] [] (setO h 37 (fsr (h 37) 0 i (fun _ => v))) := by
    intro k1
    induction k1 with
    | zero => intro i hi0 hi1 hk1; exact absurd hk1 (Nat.not_lt_zero _)
    | succ k1 ih1 =>
      intro i hi0 hi1 hk1
      refine TT_iload_n hK rfl 2 rfl dJ7_fill_53178_5 ?_
      refine TT_iload_n hK rfl 3 rfl dJ7_fill_53178_6 ?_
      refine TT_icmp_ge hK (tgt := 20) (irm (by omega) (by omega)) (by decide) dJ7_fill_53178_7 (by decide) (fun hb7 => ?_) (fun hb7 => ?_)
      · refine TT_vret hK hQ ?_ dJ7_fill_53178_20
        exact ⟨rfl, setO_cg rfl (by rw [show i = 19 by omega])⟩
      · refine TT_aload_n hK rfl 0 rfl dJ7_fill_53178_10 ?_
        refine TT_iload_n hK rfl 2 rfl dJ7_fill_53178_11 ?_
        refine TT_iload_n hK rfl 1 rfl dJ7_fill_53178_12 ?_
        refine TT_iast hK (o := 37) (n := 19) (by decide) rfl (by first | omega | (simp [up, setR] <;> omega)) (by first | omega | (simp [up, setR] <;> omega)) dJ7_fill_53178_13 ?_
        refine TT_hp (h' := setO h 37 (fup (fsr (h 37) 0 i (fun _ => v)) i v)) (up_can (sOf_eq _ _ _) rfl (setO_same _ _ _ _)) ?_
        refine TT_iinc hK (v := i + 1) (lv' := [(2, vI (i + 1)), (0, vR 37), (1, vI v), (3, vI 19)]) 2 rfl rfl (by decide) rfl dJ7_fill_53178_14 ?_
        refine TT_goto hK (tgt := 5) dJ7_fill_53178_17 (by decide) ?_
        refine TT_sub [1, 2, 0, 3] rfl ?_
        refine TT_hp (h' := setO h 37 (fsr (h 37) 0 (i + 1) (fun _ => v))) (setO_cg rfl (by first | rfl | exact fsr_step _ (by omega) rfl)) ?_
        exact ih1 (i + 1) (by first | omega | (simp [up, setR] <;> omega)) (by first | omega | (simp [up, setR] <;> omega)) (by first | omega | (simp [up, setR] <;> omega))
  refine TT_sub [2, 3, 1, 0] rfl ?_
  refine TT_hp (h' := setO h 37 (fsr (h 37) 0 0 (fun _ => v))) ((setO_new (by first | rfl | exact fsr_0 _ _ _)).trans (setO_cg rfl rfl)) ?_
  exact L5_1 ((((19 : Int) - 0).toNat) + 1) 0 (by first | omega | (simp [up, setR] <;> omega)) (by first | omega | (simp [up, setR] <;> omega)) (Nat.lt_succ_self _)
set_option maxRecDepth 20000 in
theorem c_fill_36 (v : Int) (h : Hp_)  : Ctr yJ7_fill_53178 cJ7_fill_53178 4 none (rmd 0) ly ly 0 0 [vR 36, vI v] h (fun r h' => r = none ∧ h' = setO h 36 (fsr (h 36) 0 19 (fun _ => v))) := by
  refine Ctr_of (by decide) (Nat.le_of_ble_eq_true rfl) ⟨Nat.le_refl _, Nat.le_refl _⟩ (fun K hK hQ _ => ?_)
  show TT K ly 0 0 0 [(0, vR 36), (1, vI v)] [] h
  refine TT_iconst hK dJ7_fill_53178_0 ?_
  refine TT_istore_n hK rfl (lv' := [(2, vI 0), (0, vR 36), (1, vI v)]) (by decide) rfl dJ7_fill_53178_1 ?_
  refine TT_aload_n hK rfl 1 rfl dJ7_fill_53178_2 ?_
  refine TT_alen hK (o := 36) (t := 12) (n := 19) (v := 19) (by decide) rfl (by decide) rfl dJ7_fill_53178_3 ?_
  refine TT_istore_n hK rfl (lv' := [(3, vI 19), (2, vI 0), (0, vR 36), (1, vI v)]) (by decide) rfl dJ7_fill_53178_4 ?_
  have L5_1 : ∀ (k1 : Nat) (i : Int), (0 ≤ i) → (i ≤ 19) → ((19 : Int) - i).toNat < k1 → TT K ly 0 0 5 [(0, vR 36), (1, vI v), (2, vI i), (3, vI 19)] [] (setO h 36 (fsr (h 36) 0 i (fun _ => v))) := by
    intro k1
    induction k1 with
    | zero => intro i hi0 hi1 hk1; exact absurd hk1 (Nat.not_lt_zero _)
    | succ k1 ih1 =>
      intro i hi0 hi1 hk1
      refine TT_iload_n hK rfl 2 rfl dJ7_fill_53178_5 ?_
      refine TT_iload_n hK rfl 3 rfl dJ7_fill_53178_6 ?_
      refine TT_icmp_ge hK (tgt := 20) (irm (by omega) (by omega)) (by decide) dJ7_fill_53178_7 (by decide) (fun hb7 => ?_) (fun hb7 => ?_)
      · refine TT_vret hK hQ ?_ dJ7_fill_53178_20
        exact ⟨rfl, setO_cg rfl (by rw [show i = 19 by omega])⟩
      · refine TT_aload_n hK rfl 0 rfl dJ7_fill_53178_10 ?_
        refine TT_iload_n hK rfl 2 rfl dJ7_fill_53178_11 ?_
        refine TT_iload_n hK rfl 1 rfl dJ7_fill_53178_12 ?_
        refine TT_iast hK (o := 36) (n := 19) (by decide) rfl (by first | omega | (simp [up, setR] <;> omega)) (by first | omega | (simp [up, setR] <;> omega)) dJ7_fill_53178_13 ?_
        refine TT_hp (h' := setO h 36 (fup (fsr (h 36) 0 i (fun _ => v)) i v)) (up_can (sOf_eq _ _ _) rfl (setO_same _ _ _ _)) ?_
        refine TT_iinc hK (v := i + 1) (lv' := [(2, vI (i + 1)), (0, vR 36), (1, vI v), (3, vI 19)]) 2 rfl rfl (by decide) rfl dJ7_fill_53178_14 ?_
        refine TT_goto hK (tgt := 5) dJ7_fill_53178_17 (by decide) ?_
        refine TT_sub [1, 2, 0, 3] rfl ?_
        refine TT_hp (h' := setO h 36 (fsr (h 36) 0 (i + 1) (fun _ => v))) (setO_cg rfl (by first | rfl | exact fsr_step _ (by omega) rfl)) ?_
        exact ih1 (i + 1) (by first | omega | (simp [up, setR] <;> omega)) (by first | omega | (simp [up, setR] <;> omega)) (by first | omega | (simp [up, setR] <;> omega))
  refine TT_sub [2, 3, 1, 0] rfl ?_
  refine TT_hp (h' := setO h 36 (fsr (h 36) 0 0 (fun _ => v))) ((setO_new (by first | rfl | exact fsr_0 _ _ _)).trans (setO_cg rfl rfl)) ?_
  exact L5_1 ((((19 : Int) - 0).toNat) + 1) 0 (by first | omega | (simp [up, setR] <;> omega)) (by first | omega | (simp [up, setR] <;> omega)) (Nat.lt_succ_self _)
set_option maxRecDepth 20000 in
theorem c_fill_42 (v : Int) (h : Hp_)  : Ctr yJ7_fill_53178 cJ7_fill_53178 4 none (rmd 0) ly ly 0 0 [vR 42, vI v] h (fun r h' => r = none ∧ h' = setO h 42 (fsr (h 42) 0 19 (fun _ => v))) := by
  refine Ctr_of (by decide) (Nat.le_of_ble_eq_true rfl) ⟨Nat.le_refl _, Nat.le_refl _⟩ (fun K hK hQ _ => ?_)
  show TT K ly 0 0 0 [(0, vR 42), (1, vI v)] [] h
  refine TT_iconst hK dJ7_fill_53178_0 ?_
  refine TT_istore_n hK rfl (lv' := [(2, vI 0), (0, vR 42), (1, vI v)]) (by decide) rfl dJ7_fill_53178_1 ?_
  refine TT_aload_n hK rfl 1 rfl dJ7_fill_53178_2 ?_
  refine TT_alen hK (o := 42) (t := 12) (n := 19) (v := 19) (by decide) rfl (by decide) rfl dJ7_fill_53178_3 ?_
  refine TT_istore_n hK rfl (lv' := [(3, vI 19), (2, vI 0), (0, vR 42), (1, vI v)]) (by decide) rfl dJ7_fill_53178_4 ?_
  have L5_1 : ∀ (k1 : Nat) (i : Int), (0 ≤ i) → (i ≤ 19) → ((19 : Int) - i).toNat < k1 → TT K ly 0 0 5 [(0, vR 42), (1, vI v), (2, vI i), (3, vI 19)] [] (setO h 42 (fsr (h 42) 0 i (fun _ => v))) := by
    intro k1
    induction k1 with
    | zero => intro i hi0 hi1 hk1; exact absurd hk1 (Nat.not_lt_zero _)
    | succ k1 ih1 =>
      intro i hi0 hi1 hk1
      refine TT_iload_n hK rfl 2 rfl dJ7_fill_53178_5 ?_
      refine TT_iload_n hK rfl 3 rfl dJ7_fill_53178_6 ?_
      refine TT_icmp_ge hK (tgt := 20) (irm (by omega) (by omega)) (by decide) dJ7_fill_53178_7 (by decide) (fun hb7 => ?_) (fun hb7 => ?_)
      · refine TT_vret hK hQ ?_ dJ7_fill_53178_20
        exact ⟨rfl, setO_cg rfl (by rw [show i = 19 by omega])⟩
      · refine TT_aload_n hK rfl 0 rfl dJ7_fill_53178_10 ?_
        refine TT_iload_n hK rfl 2 rfl dJ7_fill_53178_11 ?_
        refine TT_iload_n hK rfl 1 rfl dJ7_fill_53178_12 ?_
        refine TT_iast hK (o := 42) (n := 19) (by decide) rfl (by first | omega | (simp [up, setR] <;> omega)) (by first | omega | (simp [up, setR] <;> omega)) dJ7_fill_53178_13 ?_
        refine TT_hp (h' := setO h 42 (fup (fsr (h 42) 0 i (fun _ => v)) i v)) (up_can (sOf_eq _ _ _) rfl (setO_same _ _ _ _)) ?_
        refine TT_iinc hK (v := i + 1) (lv' := [(2, vI (i + 1)), (0, vR 42), (1, vI v), (3, vI 19)]) 2 rfl rfl (by decide) rfl dJ7_fill_53178_14 ?_
        refine TT_goto hK (tgt := 5) dJ7_fill_53178_17 (by decide) ?_
        refine TT_sub [1, 2, 0, 3] rfl ?_
        refine TT_hp (h' := setO h 42 (fsr (h 42) 0 (i + 1) (fun _ => v))) (setO_cg rfl (by first | rfl | exact fsr_step _ (by omega) rfl)) ?_
        exact ih1 (i + 1) (by first | omega | (simp [up, setR] <;> omega)) (by first | omega | (simp [up, setR] <;> omega)) (by first | omega | (simp [up, setR] <;> omega))
  refine TT_sub [2, 3, 1, 0] rfl ?_
  refine TT_hp (h' := setO h 42 (fsr (h 42) 0 0 (fun _ => v))) ((setO_new (by first | rfl | exact fsr_0 _ _ _)).trans (setO_cg rfl rfl)) ?_
  exact L5_1 ((((19 : Int) - 0).toNat) + 1) 0 (by first | omega | (simp [up, setR] <;> omega)) (by first | omega | (simp [up, setR] <;> omega)) (Nat.lt_succ_self _)
set_option maxRecDepth 20000 in
theorem c_fill_41 (v : Int) (h : Hp_)  : Ctr yJ7_fill_53178 cJ7_fill_53178 4 none (rmd 0) ly ly 0 0 [vR 41, vI v] h (fun r h' => r = none ∧ h' = setO h 41 (fsr (h 41) 0 19 (fun _ => v))) := by
  refine Ctr_of (by decide) (Nat.le_of_ble_eq_true rfl) ⟨Nat.le_refl _, Nat.le_refl _⟩ (fun K hK hQ _ => ?_)
  show TT K ly 0 0 0 [(0, vR 41), (1, vI v)] [] h
  refine TT_iconst hK dJ7_fill_53178_0 ?_
  refine TT_istore_n hK rfl (lv' := [(2, vI 0), (0, vR 41), (1, vI v)]) (by decide) rfl dJ7_fill_53178_1 ?_
  refine TT_aload_n hK rfl 1 rfl dJ7_fill_53178_2 ?_
  refine TT_alen hK (o := 41) (t := 12) (n := 19) (v := 19) (by decide) rfl (by decide) rfl dJ7_fill_53178_3 ?_
  refine TT_istore_n hK rfl (lv' := [(3, vI 19), (2, vI 0), (0, vR 41), (1, vI v)]) (by decide) rfl dJ7_fill_53178_4 ?_
  have L5_1 : ∀ (k1 : Nat) (i : Int), (0 ≤ i) → (i ≤ 19) → ((19 : Int) - i).toNat < k1 → TT K ly 0 0 5 [(0, vR 41), (1, vI v), (2, vI i), (3, vI 19)] [] (setO h 41 (fsr (h 41) 0 i (fun _ => v))) := by
    intro k1
    induction k1 with
    | zero => intro i hi0 hi1 hk1; exact absurd hk1 (Nat.not_lt_zero _)
    | succ k1 ih1 =>
      intro i hi0 hi1 hk1
      refine TT_iload_n hK rfl 2 rfl dJ7_fill_53178_5 ?_
      refine TT_iload_n hK rfl 3 rfl dJ7_fill_53178_6 ?_
      refine TT_icmp_ge hK (tgt := 20) (irm (by omega) (by omega)) (by decide) dJ7_fill_53178_7 (by decide) (fun hb7 => ?_) (fun hb7 => ?_)
      · refine TT_vret hK hQ ?_ dJ7_fill_53178_20
        exact ⟨rfl, setO_cg rfl (by rw [show i = 19 by omega])⟩
      · refine TT_aload_n hK rfl 0 rfl dJ7_fill_53178_10 ?_
        refine TT_iload_n hK rfl 2 rfl dJ7_fill_53178_11 ?_
        refine TT_iload_n hK rfl 1 rfl dJ7_fill_53178_12 ?_
        refine TT_iast hK (o := 41) (n := 19) (by decide) rfl (by first | omega | (simp [up, setR] <;> omega)) (by first | omega | (simp [up, setR] <;> omega)) dJ7_fill_53178_13 ?_
        refine TT_hp (h' := setO h 41 (fup (fsr (h 41) 0 i (fun _ => v)) i v)) (up_can (sOf_eq _ _ _) rfl (setO_same _ _ _ _)) ?_
        refine TT_iinc hK (v := i + 1) (lv' := [(2, vI (i + 1)), (0, vR 41), (1, vI v), (3, vI 19)]) 2 rfl rfl (by decide) rfl dJ7_fill_53178_14 ?_
        refine TT_goto hK (tgt := 5) dJ7_fill_53178_17 (by decide) ?_
        refine TT_sub [1, 2, 0, 3] rfl ?_
        refine TT_hp (h' := setO h 41 (fsr (h 41) 0 (i + 1) (fun _ => v))) (setO_cg rfl (by first | rfl | exact fsr_step _ (by omega) rfl)) ?_
        exact ih1 (i + 1) (by first | omega | (simp [up, setR] <;> omega)) (by first | omega | (simp [up, setR] <;> omega)) (by first | omega | (simp [up, setR] <;> omega))
  refine TT_sub [2, 3, 1, 0] rfl ?_
  refine TT_hp (h' := setO h 41 (fsr (h 41) 0 0 (fun _ => v))) ((setO_new (by first | rfl | exact fsr_0 _ _ _)).trans (setO_cg rfl rfl)) ?_
  exact L5_1 ((((19 : Int) - 0).toNat) + 1) 0 (by first | omega | (simp [up, setR] <;> omega)) (by first | omega | (simp [up, setR] <;> omega)) (Nat.lt_succ_self _)
set_option maxRecDepth 20000 in
theorem c_fill_65 (v : Int) (h : Hp_)  : Ctr yJ7_fill_53178 cJ7_fill_53178 4 none (rmd 0) ly ly 0 0 [vR 65, vI v] h (fun r h' => r = none ∧ h' = setO h 65 (fsr (h 65) 0 19 (fun _ => v))) := by
  refine Ctr_of (by decide) (Nat.le_of_ble_eq_true rfl) ⟨Nat.le_refl _, Nat.le_refl _⟩ (fun K hK hQ _ => ?_)
  show TT K ly 0 0 0 [(0, vR 65), (1, vI v)] [] h
  refine TT_iconst hK dJ7_fill_53178_0 ?_
  refine TT_istore_n hK rfl (lv' := [(2, vI 0), (0, vR 65), (1, vI v)]) (by decide) rfl dJ7_fill_53178_1 ?_
  refine TT_aload_n hK rfl 1 rfl dJ7_fill_53178_2 ?_
  refine TT_alen hK (o := 65) (t := 12) (n := 19) (v := 19) (by decide) rfl (by decide) rfl dJ7_fill_53178_3 ?_
  refine TT_istore_n hK rfl (lv' := [(3, vI 19), (2, vI 0), (0, vR 65), (1, vI v)]) (by decide) rfl dJ7_fill_53178_4 ?_
  have L5_1 : ∀ (k1 : Nat) (i : Int), (0 ≤ i) → (i ≤ 19) → ((19 : Int) - i).toNat < k1 → TT K ly 0 0 5 [(0, vR 65), (1, vI v), (2, vI i), (3, vI 19)] [] (setO h 65 (fsr (h 65) 0 i (fun _ => v))) := by
    intro k1
    induction k1 with
    | zero => intro i hi0 hi1 hk1; exact absurd hk1 (Nat.not_lt_zero _)
    | succ k1 ih1 =>
      intro i hi0 hi1 hk1
      refine TT_iload_n hK rfl 2 rfl dJ7_fill_53178_5 ?_
      refine TT_iload_n hK rfl 3 rfl dJ7_fill_53178_6 ?_
      refine TT_icmp_ge hK (tgt := 20) (irm (by omega) (by omega)) (by decide) dJ7_fill_53178_7 (by decide) (fun hb7 => ?_) (fun hb7 => ?_)
      · refine TT_vret hK hQ ?_ dJ7_fill_53178_20
        exact ⟨rfl, setO_cg rfl (by rw [show i = 19 by omega])⟩
      · refine TT_aload_n hK rfl 0 rfl dJ7_fill_53178_10 ?_
        refine TT_iload_n hK rfl 2 rfl dJ7_fill_53178_11 ?_
        refine TT_iload_n hK rfl 1 rfl dJ7_fill_53178_12 ?_
        refine TT_iast hK (o := 65) (n := 19) (by decide) rfl (by first | omega | (simp [up, setR] <;> omega)) (by first | omega | (simp [up, setR] <;> omega)) dJ7_fill_53178_13 ?_
        refine TT_hp (h' := setO h 65 (fup (fsr (h 65) 0 i (fun _ => v)) i v)) (up_can (sOf_eq _ _ _) rfl (setO_same _ _ _ _)) ?_
        refine TT_iinc hK (v := i + 1) (lv' := [(2, vI (i + 1)), (0, vR 65), (1, vI v), (3, vI 19)]) 2 rfl rfl (by decide) rfl dJ7_fill_53178_14 ?_
        refine TT_goto hK (tgt := 5) dJ7_fill_53178_17 (by decide) ?_
        refine TT_sub [1, 2, 0, 3] rfl ?_
        refine TT_hp (h' := setO h 65 (fsr (h 65) 0 (i + 1) (fun _ => v))) (setO_cg rfl (by first | rfl | exact fsr_step _ (by omega) rfl)) ?_
        exact ih1 (i + 1) (by first | omega | (simp [up, setR] <;> omega)) (by first | omega | (simp [up, setR] <;> omega)) (by first | omega | (simp [up, setR] <;> omega))
  refine TT_sub [2, 3, 1, 0] rfl ?_
  refine TT_hp (h' := setO h 65 (fsr (h 65) 0 0 (fun _ => v))) ((setO_new (by first | rfl | exact fsr_0 _ _ _)).trans (setO_cg rfl rfl)) ?_
  exact L5_1 ((((19 : Int) - 0).toNat) + 1) 0 (by first | omega | (simp [up, setR] <;> omega)) (by first | omega | (simp [up, setR] <;> omega)) (Nat.lt_succ_self _)
set_option maxRecDepth 20000 in
theorem c_fill_64 (v : Int) (h : Hp_)  : Ctr yJ7_fill_53178 cJ7_fill_53178 4 none (rmd 0) ly ly 0 0 [vR 64, vI v] h (fun r h' => r = none ∧ h' = setO h 64 (fsr (h 64) 0 19 (fun _ => v))) := by
  refine Ctr_of (by decide) (Nat.le_of_ble_eq_true rfl) ⟨Nat.le_refl _, Nat.le_refl _⟩ (fun K hK hQ _ => ?_)
  show TT K ly 0 0 0 [(0, vR 64), (1, vI v)] [] h
  refine TT_iconst hK dJ7_fill_53178_0 ?_
  refine TT_istore_n hK rfl (lv' := [(2, vI 0), (0, vR 64), (1, vI v)]) (by decide) rfl dJ7_fill_53178_1 ?_
  refine TT_aload_n hK rfl 1 rfl dJ7_fill_53178_2 ?_
  refine TT_alen hK (o := 64) (t := 12) (n := 19) (v := 19) (by decide) rfl (by decide) rfl dJ7_fill_53178_3 ?_
  refine TT_istore_n hK rfl (lv' := [(3, vI 19), (2, vI 0), (0, vR 64), (1, vI v)]) (by decide) rfl dJ7_fill_53178_4 ?_
  have L5_1 : ∀ (k1 : Nat) (i : Int), (0 ≤ i) → (i ≤ 19) → ((19 : Int) - i).toNat < k1 → TT K ly 0 0 5 [(0, vR 64), (1, vI v), (2, vI i), (3, vI 19)] [] (setO h 64 (fsr (h 64) 0 i (fun _ => v))) := by
    intro k1
    induction k1 with
    | zero => intro i hi0 hi1 hk1; exact absurd hk1 (Nat.not_lt_zero _)
    | succ k1 ih1 =>
      intro i hi0 hi1 hk1
      refine TT_iload_n hK rfl 2 rfl dJ7_fill_53178_5 ?_
      refine TT_iload_n hK rfl 3 rfl dJ7_fill_53178_6 ?_
      refine TT_icmp_ge hK (tgt := 20) (irm (by omega) (by omega)) (by decide) dJ7_fill_53178_7 (by decide) (fun hb7 => ?_) (fun hb7 => ?_)
      · refine TT_vret hK hQ ?_ dJ7_fill_53178_20
        exact ⟨rfl, setO_cg rfl (by rw [show i = 19 by omega])⟩
      · refine TT_aload_n hK rfl 0 rfl dJ7_fill_53178_10 ?_
        refine TT_iload_n hK rfl 2 rfl dJ7_fill_53178_11 ?_
        refine TT_iload_n hK rfl 1 rfl dJ7_fill_53178_12 ?_
        refine TT_iast hK (o := 64) (n := 19) (by decide) rfl (by first | omega | (simp [up, setR] <;> omega)) (by first | omega | (simp [up, setR] <;> omega)) dJ7_fill_53178_13 ?_
        refine TT_hp (h' := setO h 64 (fup (fsr (h 64) 0 i (fun _ => v)) i v)) (up_can (sOf_eq _ _ _) rfl (setO_same _ _ _ _)) ?_
        refine TT_iinc hK (v := i + 1) (lv' := [(2, vI (i + 1)), (0, vR 64), (1, vI v), (3, vI 19)]) 2 rfl rfl (by decide) rfl dJ7_fill_53178_14 ?_
        refine TT_goto hK (tgt := 5) dJ7_fill_53178_17 (by decide) ?_
        refine TT_sub [1, 2, 0, 3] rfl ?_
        refine TT_hp (h' := setO h 64 (fsr (h 64) 0 (i + 1) (fun _ => v))) (setO_cg rfl (by first | rfl | exact fsr_step _ (by omega) rfl)) ?_
        exact ih1 (i + 1) (by first | omega | (simp [up, setR] <;> omega)) (by first | omega | (simp [up, setR] <;> omega)) (by first | omega | (simp [up, setR] <;> omega))
  refine TT_sub [2, 3, 1, 0] rfl ?_
  refine TT_hp (h' := setO h 64 (fsr (h 64) 0 0 (fun _ => v))) ((setO_new (by first | rfl | exact fsr_0 _ _ _)).trans (setO_cg rfl rfl)) ?_
  exact L5_1 ((((19 : Int) - 0).toNat) + 1) 0 (by first | omega | (simp [up, setR] <;> omega)) (by first | omega | (simp [up, setR] <;> omega)) (Nat.lt_succ_self _)
set_option maxRecDepth 20000 in
theorem c_fill_54 (v : Int) (h : Hp_)  : Ctr yJ7_fill_53178 cJ7_fill_53178 4 none (rmd 0) ly ly 0 0 [vR 54, vI v] h (fun r h' => r = none ∧ h' = setO h 54 (fsr (h 54) 0 10 (fun _ => v))) := by
  refine Ctr_of (by decide) (Nat.le_of_ble_eq_true rfl) ⟨Nat.le_refl _, Nat.le_refl _⟩ (fun K hK hQ _ => ?_)
  show TT K ly 0 0 0 [(0, vR 54), (1, vI v)] [] h
  refine TT_iconst hK dJ7_fill_53178_0 ?_
  refine TT_istore_n hK rfl (lv' := [(2, vI 0), (0, vR 54), (1, vI v)]) (by decide) rfl dJ7_fill_53178_1 ?_
  refine TT_aload_n hK rfl 1 rfl dJ7_fill_53178_2 ?_
  refine TT_alen hK (o := 54) (t := 12) (n := 10) (v := 10) (by decide) rfl (by decide) rfl dJ7_fill_53178_3 ?_
  refine TT_istore_n hK rfl (lv' := [(3, vI 10), (2, vI 0), (0, vR 54), (1, vI v)]) (by decide) rfl dJ7_fill_53178_4 ?_
  have L5_1 : ∀ (k1 : Nat) (i : Int), (0 ≤ i) → (i ≤ 10) → ((10 : Int) - i).toNat < k1 → TT K ly 0 0 5 [(0, vR 54), (1, vI v), (2, vI i), (3, vI 10)] [] (setO h 54 (fsr (h 54) 0 i (fun _ => v))) := by
    intro k1
    induction k1 with
    | zero => intro i hi0 hi1 hk1; exact absurd hk1 (Nat.not_lt_zero _)
    | succ k1 ih1 =>
      intro i hi0 hi1 hk1
      refine TT_iload_n hK rfl 2 rfl dJ7_fill_53178_5 ?_
      refine TT_iload_n hK rfl 3 rfl dJ7_fill_53178_6 ?_
      refine TT_icmp_ge hK (tgt := 20) (irm (by omega) (by omega)) (by decide) dJ7_fill_53178_7 (by decide) (fun hb7 => ?_) (fun hb7 => ?_)
      · refine TT_vret hK hQ ?_ dJ7_fill_53178_20
        exact ⟨rfl, setO_cg rfl (by rw [show i = 10 by omega])⟩
      · refine TT_aload_n hK rfl 0 rfl dJ7_fill_53178_10 ?_
        refine TT_iload_n hK rfl 2 rfl dJ7_fill_53178_11 ?_
        refine TT_iload_n hK rfl 1 rfl dJ7_fill_53178_12 ?_
        refine TT_iast hK (o := 54) (n := 10) (by decide) rfl (by first | omega | (simp [up, setR] <;> omega)) (by first | omega | (simp [up, setR] <;> omega)) dJ7_fill_53178_13 ?_
        refine TT_hp (h' := setO h 54 (fup (fsr (h 54) 0 i (fun _ => v)) i v)) (up_can (sOf_eq _ _ _) rfl (setO_same _ _ _ _)) ?_
        refine TT_iinc hK (v := i + 1) (lv' := [(2, vI (i + 1)), (0, vR 54), (1, vI v), (3, vI 10)]) 2 rfl rfl (by decide) rfl dJ7_fill_53178_14 ?_
        refine TT_goto hK (tgt := 5) dJ7_fill_53178_17 (by decide) ?_
        refine TT_sub [1, 2, 0, 3] rfl ?_
        refine TT_hp (h' := setO h 54 (fsr (h 54) 0 (i + 1) (fun _ => v))) (setO_cg rfl (by first | rfl | exact fsr_step _ (by omega) rfl)) ?_
        exact ih1 (i + 1) (by first | omega | (simp [up, setR] <;> omega)) (by first | omega | (simp [up, setR] <;> omega)) (by first | omega | (simp [up, setR] <;> omega))
  refine TT_sub [2, 3, 1, 0] rfl ?_
  refine TT_hp (h' := setO h 54 (fsr (h 54) 0 0 (fun _ => v))) ((setO_new (by first | rfl | exact fsr_0 _ _ _)).trans (setO_cg rfl rfl)) ?_
  exact L5_1 ((((10 : Int) - 0).toNat) + 1) 0 (by first | omega | (simp [up, setR] <;> omega)) (by first | omega | (simp [up, setR] <;> omega)) (Nat.lt_succ_self _)
set_option maxRecDepth 20000 in
theorem c_fill_55 (v : Int) (h : Hp_)  : Ctr yJ7_fill_53178 cJ7_fill_53178 4 none (rmd 0) ly ly 0 0 [vR 55, vI v] h (fun r h' => r = none ∧ h' = setO h 55 (fsr (h 55) 0 10 (fun _ => v))) := by
  refine Ctr_of (by decide) (Nat.le_of_ble_eq_true rfl) ⟨Nat.le_refl _, Nat.le_refl _⟩ (fun K hK hQ _ => ?_)
  show TT K ly 0 0 0 [(0, vR 55), (1, vI v)] [] h
  refine TT_iconst hK dJ7_fill_53178_0 ?_
  refine TT_istore_n hK rfl (lv' := [(2, vI 0), (0, vR 55), (1, vI v)]) (by decide) rfl dJ7_fill_53178_1 ?_
  refine TT_aload_n hK rfl 1 rfl dJ7_fill_53178_2 ?_
  refine TT_alen hK (o := 55) (t := 12) (n := 10) (v := 10) (by decide) rfl (by decide) rfl dJ7_fill_53178_3 ?_
  refine TT_istore_n hK rfl (lv' := [(3, vI 10), (2, vI 0), (0, vR 55), (1, vI v)]) (by decide) rfl dJ7_fill_53178_4 ?_
  have L5_1 : ∀ (k1 : Nat) (i : Int), (0 ≤ i) → (i ≤ 10) → ((10 : Int) - i).toNat < k1 → TT K ly 0 0 5 [(0, vR 55), (1, vI v), (2, vI i), (3, vI 10)] [] (setO h 55 (fsr (h 55) 0 i (fun _ => v))) := by
    intro k1
    induction k1 with
    | zero => intro i hi0 hi1 hk1; exact absurd hk1 (Nat.not_lt_zero _)
    | succ k1 ih1 =>
      intro i hi0 hi1 hk1
      refine TT_iload_n hK rfl 2 rfl dJ7_fill_53178_5 ?_
      refine TT_iload_n hK rfl 3 rfl dJ7_fill_53178_6 ?_
      refine TT_icmp_ge hK (tgt := 20) (irm (by omega) (by omega)) (by decide) dJ7_fill_53178_7 (by decide) (fun hb7 => ?_) (fun hb7 => ?_)
      · refine TT_vret hK hQ ?_ dJ7_fill_53178_20
        exact ⟨rfl, setO_cg rfl (by rw [show i = 10 by omega])⟩
      · refine TT_aload_n hK rfl 0 rfl dJ7_fill_53178_10 ?_
        refine TT_iload_n hK rfl 2 rfl dJ7_fill_53178_11 ?_
        refine TT_iload_n hK rfl 1 rfl dJ7_fill_53178_12 ?_
        refine TT_iast hK (o := 55) (n := 10) (by decide) rfl (by first | omega | (simp [up, setR] <;> omega)) (by first | omega | (simp [up, setR] <;> omega)) dJ7_fill_53178_13 ?_
        refine TT_hp (h' := setO h 55 (fup (fsr (h 55) 0 i (fun _ => v)) i v)) (up_can (sOf_eq _ _ _) rfl (setO_same _ _ _ _)) ?_
        refine TT_iinc hK (v := i + 1) (lv' := [(2, vI (i + 1)), (0, vR 55), (1, vI v), (3, vI 10)]) 2 rfl rfl (by decide) rfl dJ7_fill_53178_14 ?_
        refine TT_goto hK (tgt := 5) dJ7_fill_53178_17 (by decide) ?_
        refine TT_sub [1, 2, 0, 3] rfl ?_
        refine TT_hp (h' := setO h 55 (fsr (h 55) 0 (i + 1) (fun _ => v))) (setO_cg rfl (by first | rfl | exact fsr_step _ (by omega) rfl)) ?_
        exact ih1 (i + 1) (by first | omega | (simp [up, setR] <;> omega)) (by first | omega | (simp [up, setR] <;> omega)) (by first | omega | (simp [up, setR] <;> omega))
  refine TT_sub [2, 3, 1, 0] rfl ?_
  refine TT_hp (h' := setO h 55 (fsr (h 55) 0 0 (fun _ => v))) ((setO_new (by first | rfl | exact fsr_0 _ _ _)).trans (setO_cg rfl rfl)) ?_
  exact L5_1 ((((10 : Int) - 0).toNat) + 1) 0 (by first | omega | (simp [up, setR] <;> omega)) (by first | omega | (simp [up, setR] <;> omega)) (Nat.lt_succ_self _)
set_option maxRecDepth 20000 in
theorem c_fill_58 (v : Int) (h : Hp_)  : Ctr yJ7_fill_53178 cJ7_fill_53178 4 none (rmd 0) ly ly 0 0 [vR 58, vI v] h (fun r h' => r = none ∧ h' = setO h 58 (fsr (h 58) 0 10 (fun _ => v))) := by
  refine Ctr_of (by decide) (Nat.le_of_ble_eq_true rfl) ⟨Nat.le_refl _, Nat.le_refl _⟩ (fun K hK hQ _ => ?_)
  show TT K ly 0 0 0 [(0, vR 58), (1, vI v)] [] h
  refine TT_iconst hK dJ7_fill_53178_0 ?_
  refine TT_istore_n hK rfl (lv' := [(2, vI 0), (0, vR 58), (1, vI v)]) (by decide) rfl dJ7_fill_53178_1 ?_
  refine TT_aload_n hK rfl 1 rfl dJ7_fill_53178_2 ?_
  refine TT_alen hK (o := 58) (t := 12) (n := 10) (v := 10) (by decide) rfl (by decide) rfl dJ7_fill_53178_3 ?_
  refine TT_istore_n hK rfl (lv' := [(3, vI 10), (2, vI 0), (0, vR 58), (1, vI v)]) (by decide) rfl dJ7_fill_53178_4 ?_
  have L5_1 : ∀ (k1 : Nat) (i : Int), (0 ≤ i) → (i ≤ 10) → ((10 : Int) - i).toNat < k1 → TT K ly 0 0 5 [(0, vR 58), (1, vI v), (2, vI i), (3, vI 10)] [] (setO h 58 (fsr (h 58) 0 i (fun _ => v))) := by
    intro k1
    induction k1 with
    | zero => intro i hi0 hi1 hk1; exact absurd hk1 (Nat.not_lt_zero _)
    | succ k1 ih1 =>
      intro i hi0 hi1 hk1
      refine TT_iload_n hK rfl 2 rfl dJ7_fill_53178_5 ?_
      refine TT_iload_n hK rfl 3 rfl dJ7_fill_53178_6 ?_
      refine TT_icmp_ge hK (tgt := 20) (irm (by omega) (by omega)) (by decide) dJ7_fill_53178_7 (by decide) (fun hb7 => ?_) (fun hb7 => ?_)
      · refine TT_vret hK hQ ?_ dJ7_fill_53178_20
        exact ⟨rfl, setO_cg rfl (by rw [show i = 10 by omega])⟩
      · refine TT_aload_n hK rfl 0 rfl dJ7_fill_53178_10 ?_
        refine TT_iload_n hK rfl 2 rfl dJ7_fill_53178_11 ?_
        refine TT_iload_n hK rfl 1 rfl dJ7_fill_53178_12 ?_
        refine TT_iast hK (o := 58) (n := 10) (by decide) rfl (by first | omega | (simp [up, setR] <;> omega)) (by first | omega | (simp [up, setR] <;> omega)) dJ7_fill_53178_13 ?_
        refine TT_hp (h' := setO h 58 (fup (fsr (h 58) 0 i (fun _ => v)) i v)) (up_can (sOf_eq _ _ _) rfl (setO_same _ _ _ _)) ?_
        refine TT_iinc hK (v := i + 1) (lv' := [(2, vI (i + 1)), (0, vR 58), (1, vI v), (3, vI 10)]) 2 rfl rfl (by decide) rfl dJ7_fill_53178_14 ?_
        refine TT_goto hK (tgt := 5) dJ7_fill_53178_17 (by decide) ?_
        refine TT_sub [1, 2, 0, 3] rfl ?_
        refine TT_hp (h' := setO h 58 (fsr (h 58) 0 (i + 1) (fun _ => v))) (setO_cg rfl (by first | rfl | exact fsr_step _ (by omega) rfl)) ?_
        exact ih1 (i + 1) (by first | omega | (simp [up, setR] <;> omega)) (by first | omega | (simp [up, setR] <;> omega)) (by first | omega | (simp [up, setR] <;> omega))
  refine TT_sub [2, 3, 1, 0] rfl ?_
  refine TT_hp (h' := setO h 58 (fsr (h 58) 0 0 (fun _ => v))) ((setO_new (by first | rfl | exact fsr_0 _ _ _)).trans (setO_cg rfl rfl)) ?_
  exact L5_1 ((((10 : Int) - 0).toNat) + 1) 0 (by first | omega | (simp [up, setR] <;> omega)) (by first | omega | (simp [up, setR] <;> omega)) (Nat.lt_succ_self _)
set_option maxRecDepth 20000 in
theorem c_X5_has_1 (x y : Int) (h : Hp_) (hx : ir_ x) (hy : ir_ y) (hw : 0 ≤ (h 1 1) ∧ (h 1 1) ≤ 8) (hh : 0 ≤ (h 1 2) ∧ (h 1 2) ≤ 8) : Ctr yX5_has cX5_has 3 (some .boolean) (rmd 0) ly ly 0 0 [vR 1, vI x, vI y] h (fun r h' => r = some (vI (if (0 ≤ x ∧ x < (h 1 1)) ∧ (0 ≤ y ∧ y < (h 1 2)) then 1 else 0)) ∧ h' = h) := by
  refine Ctr_of (by decide) (Nat.le_of_ble_eq_true rfl) ⟨Nat.le_refl _, Nat.le_refl _⟩ (fun K hK hQ _ => ?_)
  show TT K ly 0 0 0 [(0, vR 1), (1, vI x), (2, vI y)] [] h
  refine TT_iload_n hK rfl 1 rfl dX5_has_0 ?_
  refine TT_if_lt hK (tgt := 28) (irm (by omega) (by omega)) dX5_has_1 (by decide) (fun hb1 => ?_) (fun hb1 => ?_)
  · refine TT_iconst hK dX5_has_28 ?_
    refine TT_zret hK hQ (by decide) ?_ dX5_has_29
    exact ⟨congrArg (fun z => some (vI z)) (by first | exact (if_pos (by omega)).symm | exact (if_neg (by omega)).symm | (split <;> first | rfl | omega)), rfl⟩
  · refine TT_iload_n hK rfl 1 rfl dX5_has_4 ?_
    refine TT_aload_n hK rfl 0 rfl dX5_has_5 ?_
    refine gf_X5_15 hK (by decide) rfl (v := (h 1) 1) rfl dX5_has_6 ?_
    refine TT_icmp_ge hK (tgt := 28) (irm (by omega) (by omega)) (irm (by omega) (by omega)) dX5_has_9 (by decide) (fun hb9 => ?_) (fun hb9 => ?_)
    · refine TT_iconst hK dX5_has_28 ?_
      refine TT_zret hK hQ (by decide) ?_ dX5_has_29
      exact ⟨congrArg (fun z => some (vI z)) (by first | exact (if_pos (by omega)).symm | exact (if_neg (by omega)).symm | (split <;> first | rfl | omega)), rfl⟩
    · refine TT_iload_n hK rfl 2 rfl dX5_has_12 ?_
      refine TT_if_lt hK (tgt := 28) (irm (by omega) (by omega)) dX5_has_13 (by decide) (fun hb13 => ?_) (fun hb13 => ?_)
      · refine TT_iconst hK dX5_has_28 ?_
        refine TT_zret hK hQ (by decide) ?_ dX5_has_29
        exact ⟨congrArg (fun z => some (vI z)) (by first | exact (if_pos (by omega)).symm | exact (if_neg (by omega)).symm | (split <;> first | rfl | omega)), rfl⟩
      · refine TT_iload_n hK rfl 2 rfl dX5_has_16 ?_
        refine TT_aload_n hK rfl 0 rfl dX5_has_17 ?_
        refine gf_X5_19 hK (by decide) rfl (v := (h 1) 2) rfl dX5_has_18 ?_
        refine TT_icmp_ge hK (tgt := 28) (irm (by omega) (by omega)) (irm (by omega) (by omega)) dX5_has_21 (by decide) (fun hb21 => ?_) (fun hb21 => ?_)
        · refine TT_iconst hK dX5_has_28 ?_
          refine TT_zret hK hQ (by decide) ?_ dX5_has_29
          exact ⟨congrArg (fun z => some (vI z)) (by first | exact (if_pos (by omega)).symm | exact (if_neg (by omega)).symm | (split <;> first | rfl | omega)), rfl⟩
        · refine TT_iconst hK dX5_has_24 ?_
          refine TT_goto hK (tgt := 29) dX5_has_25 (by decide) ?_
          refine TT_zret hK hQ (by decide) ?_ dX5_has_29
          exact ⟨congrArg (fun z => some (vI z)) (by first | exact (if_pos (by omega)).symm | exact (if_neg (by omega)).symm | (split <;> first | rfl | omega)), rfl⟩
set_option maxRecDepth 20000 in
theorem c_X5_at_1 (x y : Int) (h : Hp_) (hx : ir_ x) (hy : ir_ y) (hw : 0 ≤ (h 1 1) ∧ (h 1 1) ≤ 8) (hh : 0 ≤ (h 1 2) ∧ (h 1 2) ≤ 8) : Ctr yX5_at cX5_at 3 (some .int) (rmd 1) ly ly 0 0 [vR 1, vI x, vI y] h (fun r h' => r = some (vI (if (0 ≤ x ∧ x < (h 1 1)) ∧ (0 ≤ y ∧ y < (h 1 2)) then (h 2) (y * 8 + x) else -100000)) ∧ h' = h) := by
  refine Ctr_of (by decide) (Nat.le_of_ble_eq_true rfl) ⟨Nat.le_refl _, Nat.le_refl _⟩ (fun K hK hQ _ => ?_)
  show TT K ly 0 0 0 [(0, vR 1), (1, vI x), (2, vI y)] [] h
  refine TT_aload_n hK rfl 0 rfl dX5_at_0 ?_
  refine TT_iload_n hK rfl 1 rfl dX5_at_1 ?_
  refine TT_iload_n hK rfl 2 rfl dX5_at_2 ?_
  refine iv_X5_28 hK (c_X5_has_1 x y h (by first | omega | (simp [up, setR] <;> omega)) (by first | omega | (simp [up, setR] <;> omega)) (by first | omega | (simp [up, setR] <;> omega)) (by first | omega | (simp [up, setR] <;> omega))) (by decide) rfl ⟨by decide, by decide⟩ (by decide) rfl rfl (Nat.le_of_ble_eq_true rfl) ⟨by decide, by decide⟩ dX5_at_3 ?_
  intro r9 h9 hp9
  rw [hp9.1, hp9.2]
  by_cases hz3 : (0 ≤ x ∧ x < ((h 1) 1)) ∧ (0 ≤ y ∧ y < ((h 1) 2))
  · rw [if_pos hz3]
    show TT K ly 0 0 6 [(0, vR 1), (1, vI x), (2, vI y)] [vI 1] h
    refine TT_if_eq hK (tgt := 23) (by decide) dX5_at_6 (by decide) (fun hb6 => ?_) (fun hb6 => ?_)
    · exact absurd hb6 (by decide)
    · refine TT_aload_n hK rfl 0 rfl dX5_at_9 ?_
      refine gf_X5_9 hK (by decide) rfl (q := 2) rfl rfl dX5_at_10 ?_
      refine TT_iload_n hK rfl 2 rfl dX5_at_13 ?_
      refine TT_bipush hK (by decide) dX5_at_14 ?_
      refine TT_imul hK dX5_at_16 ?_
      refine TT_iload_n hK rfl 1 rfl dX5_at_17 ?_
      refine TT_iadd hK dX5_at_18 ?_
      refine TT_iald hK (o := 2) (n := 64) (by decide) rfl (by first | omega | (simp [up, setR] <;> omega)) (by first | omega | (simp [up, setR] <;> omega)) (v := (h 2) ((y * 8) + x)) rfl dX5_at_19 ?_
      refine TT_goto hK (tgt := 25) dX5_at_20 (by decide) ?_
      refine TT_iret hK hQ ?_ dX5_at_25
      exact ⟨congrArg (fun z => some (vI z)) (by first | exact (if_pos (by assumption)).symm | exact (if_neg (by assumption)).symm), rfl⟩
  · rw [if_neg hz3]
    show TT K ly 0 0 6 [(0, vR 1), (1, vI x), (2, vI y)] [vI 0] h
    refine TT_if_eq hK (tgt := 23) (by decide) dX5_at_6 (by decide) (fun hb6 => ?_) (fun hb6 => ?_)
    · refine TT_ldc hK lc_X5_32 dX5_at_23 ?_
      refine TT_iret hK hQ ?_ dX5_at_25
      exact ⟨congrArg (fun z => some (vI z)) (by first | exact (if_pos (by assumption)).symm | exact (if_neg (by assumption)).symm), rfl⟩
    · exact absurd hb6 (by decide)
set_option maxRecDepth 20000 in
theorem c_X5_set_1 (x y v : Int) (h : Hp_) (hx : 0 ≤ x ∧ x < (h 1 1)) (hy : 0 ≤ y ∧ y < (h 1 2)) (hw : 0 ≤ (h 1 1) ∧ (h 1 1) ≤ 8) (hh : 0 ≤ (h 1 2) ∧ (h 1 2) ≤ 8) : Ctr yX5_set cX5_set 4 none (rmd 1) ly ly 0 0 [vR 1, vI x, vI y, vI v] h (fun r h' => r = none ∧ h' = setO h 2 (fup (h 2) ((y * 8) + x) v)) := by
  refine Ctr_of (by decide) (Nat.le_of_ble_eq_true rfl) ⟨Nat.le_refl _, Nat.le_refl _⟩ (fun K hK hQ _ => ?_)
  show TT K ly 0 0 0 [(0, vR 1), (1, vI x), (2, vI y), (3, vI v)] [] h
  refine TT_aload_n hK rfl 0 rfl dX5_set_0 ?_
  refine TT_iload_n hK rfl 1 rfl dX5_set_1 ?_
  refine TT_iload_n hK rfl 2 rfl dX5_set_2 ?_
  refine iv_X5_28 hK (c_X5_has_1 x y h (by first | omega | (simp [up, setR] <;> omega)) (by first | omega | (simp [up, setR] <;> omega)) (by first | omega | (simp [up, setR] <;> omega)) (by first | omega | (simp [up, setR] <;> omega))) (by decide) rfl ⟨by decide, by decide⟩ (by decide) rfl rfl (Nat.le_of_ble_eq_true rfl) ⟨by decide, by decide⟩ dX5_set_3 ?_
  intro r9 h9 hp9
  rw [hp9.1, hp9.2]
  by_cases hz3 : (0 ≤ x ∧ x < ((h 1) 1)) ∧ (0 ≤ y ∧ y < ((h 1) 2))
  · rw [if_pos hz3]
    show TT K ly 0 0 6 [(0, vR 1), (1, vI x), (2, vI y), (3, vI v)] [vI 1] h
    refine TT_if_eq hK (tgt := 21) (by decide) dX5_set_6 (by decide) (fun hb6 => ?_) (fun hb6 => ?_)
    · exact absurd hb6 (by decide)
    · refine TT_aload_n hK rfl 0 rfl dX5_set_9 ?_
      refine gf_X5_9 hK (by decide) rfl (q := 2) rfl rfl dX5_set_10 ?_
      refine TT_iload_n hK rfl 2 rfl dX5_set_13 ?_
      refine TT_bipush hK (by decide) dX5_set_14 ?_
      refine TT_imul hK dX5_set_16 ?_
      refine TT_iload_n hK rfl 1 rfl dX5_set_17 ?_
      refine TT_iadd hK dX5_set_18 ?_
      refine TT_iload_n hK rfl 3 rfl dX5_set_19 ?_
      refine TT_iast hK (o := 2) (n := 64) (by decide) rfl (by first | omega | (simp [up, setR] <;> omega)) (by first | omega | (simp [up, setR] <;> omega)) dX5_set_20 ?_
      refine TT_hp (h' := setO h 2 (fup (h 2) ((y * 8) + x) v)) (up_can rfl rfl rfl) ?_
      refine TT_vret hK hQ ?_ dX5_set_21
      exact ⟨rfl, rfl⟩
  · rw [if_neg hz3]
    exact absurd ⟨hx, hy⟩ hz3
set_option maxRecDepth 20000 in
theorem c_X5_begin_1 (nw nh : Int) (h : Hp_)  : Ctr yX5_begin cX5_begin 3 none (rmd 1) ly ly 0 0 [vR 1, vI nw, vI nh] h (fun r h' => r = none ∧ h' = setO (setO h 1 (fup (fup (h 1) 1 nw) 2 nh)) 2 (fsr (h 2) 0 64 (fun _ => 0))) := by
  refine Ctr_of (by decide) (Nat.le_of_ble_eq_true rfl) ⟨Nat.le_refl _, Nat.le_refl _⟩ (fun K hK hQ _ => ?_)
  show TT K ly 0 0 0 [(0, vR 1), (1, vI nw), (2, vI nh)] [] h
  refine TT_aload_n hK rfl 0 rfl dX5_begin_0 ?_
  refine TT_iload_n hK rfl 1 rfl dX5_begin_1 ?_
  refine pf_X5_15 hK (by decide) rfl dX5_begin_2 ?_
  refine TT_hp (h' := setO h 1 (fup (h 1) 1 nw)) (up_can rfl rfl rfl) ?_
  refine TT_aload_n hK rfl 0 rfl dX5_begin_5 ?_
  refine TT_iload_n hK rfl 2 rfl dX5_begin_6 ?_
  refine pf_X5_19 hK (by decide) rfl dX5_begin_7 ?_
  refine TT_hp (h' := setO h 1 (fup (fup (h 1) 1 nw) 2 nh)) (up_can (sOf_eq _ _ _) rfl (setO_same _ _ _ _)) ?_
  refine TT_aload_n hK rfl 0 rfl dX5_begin_10 ?_
  refine gf_X5_9 hK (by decide) rfl (q := 2) rfl rfl dX5_begin_11 ?_
  refine TT_iconst hK dX5_begin_14 ?_
  have q15_2 : (setO h 1 (fup (fup (h 1) 1 nw) 2 nh)) 2 = h 2 := sOf_ne _ _ (by decide)
  refine iv_X5_22 hK (c_fill_2 0 (setO h 1 (fup (fup (h 1) 1 nw) 2 nh)) ) ⟨by decide, by decide⟩ (by decide) rfl rfl (Nat.le_of_ble_eq_true rfl) ⟨by decide, by decide⟩ dX5_begin_15 ?_
  intro r9 h9 hp9
  rw [q15_2] at hp9
  rw [hp9.1, hp9.2]
  show TT K ly 0 0 18 [(0, vR 1), (1, vI nw), (2, vI nh)] [] (setO (setO h 1 (fup (fup (h 1) 1 nw) 2 nh)) 2 (fsr (h 2) 0 64 (fun _ => 0)))
  refine TT_vret hK hQ ?_ dX5_begin_18
  exact ⟨rfl, rfl⟩
set_option maxRecDepth 20000 in
theorem c_X5_has_3 (x y : Int) (h : Hp_) (hx : ir_ x) (hy : ir_ y) (hw : 0 ≤ (h 3 1) ∧ (h 3 1) ≤ 8) (hh : 0 ≤ (h 3 2) ∧ (h 3 2) ≤ 8) : Ctr yX5_has cX5_has 3 (some .boolean) (rmd 0) ly ly 0 0 [vR 3, vI x, vI y] h (fun r h' => r = some (vI (if (0 ≤ x ∧ x < (h 3 1)) ∧ (0 ≤ y ∧ y < (h 3 2)) then 1 else 0)) ∧ h' = h) := by
  refine Ctr_of (by decide) (Nat.le_of_ble_eq_true rfl) ⟨Nat.le_refl _, Nat.le_refl _⟩ (fun K hK hQ _ => ?_)
  show TT K ly 0 0 0 [(0, vR 3), (1, vI x), (2, vI y)] [] h
  refine TT_iload_n hK rfl 1 rfl dX5_has_0 ?_
  refine TT_if_lt hK (tgt := 28) (irm (by omega) (by omega)) dX5_has_1 (by decide) (fun hb1 => ?_) (fun hb1 => ?_)
  · refine TT_iconst hK dX5_has_28 ?_
    refine TT_zret hK hQ (by decide) ?_ dX5_has_29
    exact ⟨congrArg (fun z => some (vI z)) (by first | exact (if_pos (by omega)).symm | exact (if_neg (by omega)).symm | (split <;> first | rfl | omega)), rfl⟩
  · refine TT_iload_n hK rfl 1 rfl dX5_has_4 ?_
    refine TT_aload_n hK rfl 0 rfl dX5_has_5 ?_
    refine gf_X5_15 hK (by decide) rfl (v := (h 3) 1) rfl dX5_has_6 ?_
    refine TT_icmp_ge hK (tgt := 28) (irm (by omega) (by omega)) (irm (by omega) (by omega)) dX5_has_9 (by decide) (fun hb9 => ?_) (fun hb9 => ?_)
    · refine TT_iconst hK dX5_has_28 ?_
      refine TT_zret hK hQ (by decide) ?_ dX5_has_29
      exact ⟨congrArg (fun z => some (vI z)) (by first | exact (if_pos (by omega)).symm | exact (if_neg (by omega)).symm | (split <;> first | rfl | omega)), rfl⟩
    · refine TT_iload_n hK rfl 2 rfl dX5_has_12 ?_
      refine TT_if_lt hK (tgt := 28) (irm (by omega) (by omega)) dX5_has_13 (by decide) (fun hb13 => ?_) (fun hb13 => ?_)
      · refine TT_iconst hK dX5_has_28 ?_
        refine TT_zret hK hQ (by decide) ?_ dX5_has_29
        exact ⟨congrArg (fun z => some (vI z)) (by first | exact (if_pos (by omega)).symm | exact (if_neg (by omega)).symm | (split <;> first | rfl | omega)), rfl⟩
      · refine TT_iload_n hK rfl 2 rfl dX5_has_16 ?_
        refine TT_aload_n hK rfl 0 rfl dX5_has_17 ?_
        refine gf_X5_19 hK (by decide) rfl (v := (h 3) 2) rfl dX5_has_18 ?_
        refine TT_icmp_ge hK (tgt := 28) (irm (by omega) (by omega)) (irm (by omega) (by omega)) dX5_has_21 (by decide) (fun hb21 => ?_) (fun hb21 => ?_)
        · refine TT_iconst hK dX5_has_28 ?_
          refine TT_zret hK hQ (by decide) ?_ dX5_has_29
          exact ⟨congrArg (fun z => some (vI z)) (by first | exact (if_pos (by omega)).symm | exact (if_neg (by omega)).symm | (split <;> first | rfl | omega)), rfl⟩
        · refine TT_iconst hK dX5_has_24 ?_
          refine TT_goto hK (tgt := 29) dX5_has_25 (by decide) ?_
          refine TT_zret hK hQ (by decide) ?_ dX5_has_29
          exact ⟨congrArg (fun z => some (vI z)) (by first | exact (if_pos (by omega)).symm | exact (if_neg (by omega)).symm | (split <;> first | rfl | omega)), rfl⟩
set_option maxRecDepth 20000 in
theorem c_X5_at_3 (x y : Int) (h : Hp_) (hx : ir_ x) (hy : ir_ y) (hw : 0 ≤ (h 3 1) ∧ (h 3 1) ≤ 8) (hh : 0 ≤ (h 3 2) ∧ (h 3 2) ≤ 8) : Ctr yX5_at cX5_at 3 (some .int) (rmd 1) ly ly 0 0 [vR 3, vI x, vI y] h (fun r h' => r = some (vI (if (0 ≤ x ∧ x < (h 3 1)) ∧ (0 ≤ y ∧ y < (h 3 2)) then (h 4) (y * 8 + x) else -100000)) ∧ h' = h) := by
  refine Ctr_of (by decide) (Nat.le_of_ble_eq_true rfl) ⟨Nat.le_refl _, Nat.le_refl _⟩ (fun K hK hQ _ => ?_)
  show TT K ly 0 0 0 [(0, vR 3), (1, vI x), (2, vI y)] [] h
  refine TT_aload_n hK rfl 0 rfl dX5_at_0 ?_
  refine TT_iload_n hK rfl 1 rfl dX5_at_1 ?_
  refine TT_iload_n hK rfl 2 rfl dX5_at_2 ?_
  refine iv_X5_28 hK (c_X5_has_3 x y h (by first | omega | (simp [up, setR] <;> omega)) (by first | omega | (simp [up, setR] <;> omega)) (by first | omega | (simp [up, setR] <;> omega)) (by first | omega | (simp [up, setR] <;> omega))) (by decide) rfl ⟨by decide, by decide⟩ (by decide) rfl rfl (Nat.le_of_ble_eq_true rfl) ⟨by decide, by decide⟩ dX5_at_3 ?_
  intro r9 h9 hp9
  rw [hp9.1, hp9.2]
  by_cases hz3 : (0 ≤ x ∧ x < ((h 3) 1)) ∧ (0 ≤ y ∧ y < ((h 3) 2))
  · rw [if_pos hz3]
    show TT K ly 0 0 6 [(0, vR 3), (1, vI x), (2, vI y)] [vI 1] h
    refine TT_if_eq hK (tgt := 23) (by decide) dX5_at_6 (by decide) (fun hb6 => ?_) (fun hb6 => ?_)
    · exact absurd hb6 (by decide)
    · refine TT_aload_n hK rfl 0 rfl dX5_at_9 ?_
      refine gf_X5_9 hK (by decide) rfl (q := 4) rfl rfl dX5_at_10 ?_
      refine TT_iload_n hK rfl 2 rfl dX5_at_13 ?_
      refine TT_bipush hK (by decide) dX5_at_14 ?_
      refine TT_imul hK dX5_at_16 ?_
      refine TT_iload_n hK rfl 1 rfl dX5_at_17 ?_
      refine TT_iadd hK dX5_at_18 ?_
      refine TT_iald hK (o := 4) (n := 64) (by decide) rfl (by first | omega | (simp [up, setR] <;> omega)) (by first | omega | (simp [up, setR] <;> omega)) (v := (h 4) ((y * 8) + x)) rfl dX5_at_19 ?_
      refine TT_goto hK (tgt := 25) dX5_at_20 (by decide) ?_
      refine TT_iret hK hQ ?_ dX5_at_25
      exact ⟨congrArg (fun z => some (vI z)) (by first | exact (if_pos (by assumption)).symm | exact (if_neg (by assumption)).symm), rfl⟩
  · rw [if_neg hz3]
    show TT K ly 0 0 6 [(0, vR 3), (1, vI x), (2, vI y)] [vI 0] h
    refine TT_if_eq hK (tgt := 23) (by decide) dX5_at_6 (by decide) (fun hb6 => ?_) (fun hb6 => ?_)
    · refine TT_ldc hK lc_X5_32 dX5_at_23 ?_
      refine TT_iret hK hQ ?_ dX5_at_25
      exact ⟨congrArg (fun z => some (vI z)) (by first | exact (if_pos (by assumption)).symm | exact (if_neg (by assumption)).symm), rfl⟩
    · exact absurd hb6 (by decide)
set_option maxRecDepth 20000 in
theorem c_X5_set_3 (x y v : Int) (h : Hp_) (hx : 0 ≤ x ∧ x < (h 3 1)) (hy : 0 ≤ y ∧ y < (h 3 2)) (hw : 0 ≤ (h 3 1) ∧ (h 3 1) ≤ 8) (hh : 0 ≤ (h 3 2) ∧ (h 3 2) ≤ 8) : Ctr yX5_set cX5_set 4 none (rmd 1) ly ly 0 0 [vR 3, vI x, vI y, vI v] h (fun r h' => r = none ∧ h' = setO h 4 (fup (h 4) ((y * 8) + x) v)) := by
  refine Ctr_of (by decide) (Nat.le_of_ble_eq_true rfl) ⟨Nat.le_refl _, Nat.le_refl _⟩ (fun K hK hQ _ => ?_)
  show TT K ly 0 0 0 [(0, vR 3), (1, vI x), (2, vI y), (3, vI v)] [] h
  refine TT_aload_n hK rfl 0 rfl dX5_set_0 ?_
  refine TT_iload_n hK rfl 1 rfl dX5_set_1 ?_
  refine TT_iload_n hK rfl 2 rfl dX5_set_2 ?_
  refine iv_X5_28 hK (c_X5_has_3 x y h (by first | omega | (simp [up, setR] <;> omega)) (by first | omega | (simp [up, setR] <;> omega)) (by first | omega | (simp [up, setR] <;> omega)) (by first | omega | (simp [up, setR] <;> omega))) (by decide) rfl ⟨by decide, by decide⟩ (by decide) rfl rfl (Nat.le_of_ble_eq_true rfl) ⟨by decide, by decide⟩ dX5_set_3 ?_
  intro r9 h9 hp9
  rw [hp9.1, hp9.2]
  by_cases hz3 : (0 ≤ x ∧ x < ((h 3) 1)) ∧ (0 ≤ y ∧ y < ((h 3) 2))
  · rw [if_pos hz3]
    show TT K ly 0 0 6 [(0, vR 3), (1, vI x), (2, vI y), (3, vI v)] [vI 1] h
    refine TT_if_eq hK (tgt := 21) (by decide) dX5_set_6 (by decide) (fun hb6 => ?_) (fun hb6 => ?_)
    · exact absurd hb6 (by decide)
    · refine TT_aload_n hK rfl 0 rfl dX5_set_9 ?_
      refine gf_X5_9 hK (by decide) rfl (q := 4) rfl rfl dX5_set_10 ?_
      refine TT_iload_n hK rfl 2 rfl dX5_set_13 ?_
      refine TT_bipush hK (by decide) dX5_set_14 ?_
      refine TT_imul hK dX5_set_16 ?_
      refine TT_iload_n hK rfl 1 rfl dX5_set_17 ?_
      refine TT_iadd hK dX5_set_18 ?_
      refine TT_iload_n hK rfl 3 rfl dX5_set_19 ?_
      refine TT_iast hK (o := 4) (n := 64) (by decide) rfl (by first | omega | (simp [up, setR] <;> omega)) (by first | omega | (simp [up, setR] <;> omega)) dX5_set_20 ?_
      refine TT_hp (h' := setO h 4 (fup (h 4) ((y * 8) + x) v)) (up_can rfl rfl rfl) ?_
      refine TT_vret hK hQ ?_ dX5_set_21
      exact ⟨rfl, rfl⟩
  · rw [if_neg hz3]
    exact absurd ⟨hx, hy⟩ hz3
set_option maxRecDepth 20000 in
theorem c_X5_begin_3 (nw nh : Int) (h : Hp_)  : Ctr yX5_begin cX5_begin 3 none (rmd 1) ly ly 0 0 [vR 3, vI nw, vI nh] h (fun r h' => r = none ∧ h' = setO (setO h 3 (fup (fup (h 3) 1 nw) 2 nh)) 4 (fsr (h 4) 0 64 (fun _ => 0))) := by
  refine Ctr_of (by decide) (Nat.le_of_ble_eq_true rfl) ⟨Nat.le_refl _, Nat.le_refl _⟩ (fun K hK hQ _ => ?_)
  show TT K ly 0 0 0 [(0, vR 3), (1, vI nw), (2, vI nh)] [] h
  refine TT_aload_n hK rfl 0 rfl dX5_begin_0 ?_
  refine TT_iload_n hK rfl 1 rfl dX5_begin_1 ?_
  refine pf_X5_15 hK (by decide) rfl dX5_begin_2 ?_
  refine TT_hp (h' := setO h 3 (fup (h 3) 1 nw)) (up_can rfl rfl rfl) ?_
  refine TT_aload_n hK rfl 0 rfl dX5_begin_5 ?_
  refine TT_iload_n hK rfl 2 rfl dX5_begin_6 ?_
  refine pf_X5_19 hK (by decide) rfl dX5_begin_7 ?_
  refine TT_hp (h' := setO h 3 (fup (fup (h 3) 1 nw) 2 nh)) (up_can (sOf_eq _ _ _) rfl (setO_same _ _ _ _)) ?_
  refine TT_aload_n hK rfl 0 rfl dX5_begin_10 ?_
  refine gf_X5_9 hK (by decide) rfl (q := 4) rfl rfl dX5_begin_11 ?_
  refine TT_iconst hK dX5_begin_14 ?_
  have q15_4 : (setO h 3 (fup (fup (h 3) 1 nw) 2 nh)) 4 = h 4 := sOf_ne _ _ (by decide)
  refine iv_X5_22 hK (c_fill_4 0 (setO h 3 (fup (fup (h 3) 1 nw) 2 nh)) ) ⟨by decide, by decide⟩ (by decide) rfl rfl (Nat.le_of_ble_eq_true rfl) ⟨by decide, by decide⟩ dX5_begin_15 ?_
  intro r9 h9 hp9
  rw [q15_4] at hp9
  rw [hp9.1, hp9.2]
  show TT K ly 0 0 18 [(0, vR 3), (1, vI nw), (2, vI nh)] [] (setO (setO h 3 (fup (fup (h 3) 1 nw) 2 nh)) 4 (fsr (h 4) 0 64 (fun _ => 0)))
  refine TT_vret hK hQ ?_ dX5_begin_18
  exact ⟨rfl, rfl⟩
set_option maxRecDepth 20000 in
theorem c_X1_clear_5 (h : Hp_)  : Ctr yX1_clear cX1_clear 1 none (rmd 0) ly ly 0 0 [vR 5] h (fun r h' => r = none ∧ h' = setO h 5 (fup (fup (h 5) 1 0) 2 0)) := by
  refine Ctr_of (by decide) (Nat.le_of_ble_eq_true rfl) ⟨Nat.le_refl _, Nat.le_refl _⟩ (fun K hK hQ _ => ?_)
  show TT K ly 0 0 0 [(0, vR 5)] [] h
  refine TT_aload_n hK rfl 0 rfl dX1_clear_0 ?_
  refine TT_iconst hK dX1_clear_1 ?_
  refine pf_X1_15 hK (by decide) rfl dX1_clear_2 ?_
  refine TT_hp (h' := setO h 5 (fup (h 5) 1 0)) (up_can rfl rfl rfl) ?_
  refine TT_aload_n hK rfl 0 rfl dX1_clear_5 ?_
  refine TT_iconst hK dX1_clear_6 ?_
  refine pf_X1_19 hK (by decide) rfl dX1_clear_7 ?_
  refine TT_hp (h' := setO h 5 (fup (fup (h 5) 1 0) 2 0)) (up_can (sOf_eq _ _ _) rfl (setO_same _ _ _ _)) ?_
  refine TT_vret hK hQ ?_ dX1_clear_10
  exact ⟨rfl, rfl⟩
set_option maxRecDepth 20000 in
theorem c_X1_length_5 (h : Hp_)  : Ctr yX1_length cX1_length 1 (some .int) (rmd 0) ly ly 0 0 [vR 5] h (fun r h' => r = some (vI ((h 5 1))) ∧ h' = h) := by
  refine Ctr_of (by decide) (Nat.le_of_ble_eq_true rfl) ⟨Nat.le_refl _, Nat.le_refl _⟩ (fun K hK hQ _ => ?_)
  show TT K ly 0 0 0 [(0, vR 5)] [] h
  refine TT_aload_n hK rfl 0 rfl dX1_length_0 ?_
  refine gf_X1_15 hK (by decide) rfl (v := (h 5) 1) rfl dX1_length_1 ?_
  refine TT_iret hK hQ ?_ dX1_length_4
  exact ⟨congrArg (fun z => some (vI z)) (by first | rfl | omega | (split <;> first | rfl | omega)), rfl⟩
set_option maxRecDepth 20000 in
theorem c_X1_has_5 (i : Int) (h : Hp_) (hi : ir_ i) (hL : 0 ≤ (h 5 1) ∧ (h 5 1) ≤ 1024) : Ctr yX1_has cX1_has 2 (some .boolean) (rmd 0) ly ly 0 0 [vR 5, vI i] h (fun r h' => r = some (vI (if 0 ≤ i ∧ i < (h 5 1) then 1 else 0)) ∧ h' = h) := by
  refine Ctr_of (by decide) (Nat.le_of_ble_eq_true rfl) ⟨Nat.le_refl _, Nat.le_refl _⟩ (fun K hK hQ _ => ?_)
  show TT K ly 0 0 0 [(0, vR 5), (1, vI i)] [] h
  refine TT_iload_n hK rfl 1 rfl dX1_has_0 ?_
  refine TT_if_lt hK (tgt := 16) (irm (by omega) (by omega)) dX1_has_1 (by decide) (fun hb1 => ?_) (fun hb1 => ?_)
  · refine TT_iconst hK dX1_has_16 ?_
    refine TT_zret hK hQ (by decide) ?_ dX1_has_17
    exact ⟨congrArg (fun z => some (vI z)) (by first | exact (if_pos (by omega)).symm | exact (if_neg (by omega)).symm | (split <;> first | rfl | omega)), rfl⟩
  · refine TT_iload_n hK rfl 1 rfl dX1_has_4 ?_
    refine TT_aload_n hK rfl 0 rfl dX1_has_5 ?_
    refine gf_X1_15 hK (by decide) rfl (v := (h 5) 1) rfl dX1_has_6 ?_
    refine TT_icmp_ge hK (tgt := 16) (irm (by omega) (by omega)) (irm (by omega) (by omega)) dX1_has_9 (by decide) (fun hb9 => ?_) (fun hb9 => ?_)
    · refine TT_iconst hK dX1_has_16 ?_
      refine TT_zret hK hQ (by decide) ?_ dX1_has_17
      exact ⟨congrArg (fun z => some (vI z)) (by first | exact (if_pos (by omega)).symm | exact (if_neg (by omega)).symm | (split <;> first | rfl | omega)), rfl⟩
    · refine TT_iconst hK dX1_has_12 ?_
      refine TT_goto hK (tgt := 17) dX1_has_13 (by decide) ?_
      refine TT_zret hK hQ (by decide) ?_ dX1_has_17
      exact ⟨congrArg (fun z => some (vI z)) (by first | exact (if_pos (by omega)).symm | exact (if_neg (by omega)).symm | (split <;> first | rfl | omega)), rfl⟩
set_option maxRecDepth 20000 in
theorem c_X1_at_5 (i : Int) (h : Hp_) (hi : ir_ i) (hL : 0 ≤ (h 5 1) ∧ (h 5 1) ≤ 1024) : Ctr yX1_at cX1_at 2 (some .int) (rmd 0) ly ly 0 0 [vR 5, vI i] h (fun r h' => r = some (vI (if 0 ≤ i ∧ i < (h 5 1) then (h 6) i else 255)) ∧ h' = h) := by
  refine Ctr_of (by decide) (Nat.le_of_ble_eq_true rfl) ⟨Nat.le_refl _, Nat.le_refl _⟩ (fun K hK hQ _ => ?_)
  show TT K ly 0 0 0 [(0, vR 5), (1, vI i)] [] h
  refine TT_iload_n hK rfl 1 rfl dX1_at_0 ?_
  refine TT_if_lt hK (tgt := 21) (irm (by omega) (by omega)) dX1_at_1 (by decide) (fun hb1 => ?_) (fun hb1 => ?_)
  · refine TT_sipush hK (by decide) dX1_at_21 ?_
    refine TT_iret hK hQ ?_ dX1_at_24
    exact ⟨congrArg (fun z => some (vI z)) (by first | exact (if_pos (by omega)).symm | exact (if_neg (by omega)).symm), rfl⟩
  · refine TT_iload_n hK rfl 1 rfl dX1_at_4 ?_
    refine TT_aload_n hK rfl 0 rfl dX1_at_5 ?_
    refine gf_X1_15 hK (by decide) rfl (v := (h 5) 1) rfl dX1_at_6 ?_
    refine TT_icmp_ge hK (tgt := 21) (irm (by omega) (by omega)) (irm (by omega) (by omega)) dX1_at_9 (by decide) (fun hb9 => ?_) (fun hb9 => ?_)
    · refine TT_sipush hK (by decide) dX1_at_21 ?_
      refine TT_iret hK hQ ?_ dX1_at_24
      exact ⟨congrArg (fun z => some (vI z)) (by first | exact (if_pos (by omega)).symm | exact (if_neg (by omega)).symm), rfl⟩
    · refine TT_aload_n hK rfl 0 rfl dX1_at_12 ?_
      refine gf_X1_9 hK (by decide) rfl (q := 6) rfl rfl dX1_at_13 ?_
      refine TT_iload_n hK rfl 1 rfl dX1_at_16 ?_
      refine TT_iald hK (o := 6) (n := 1024) (by decide) rfl (by first | omega | (simp [up, setR] <;> omega)) (by first | omega | (simp [up, setR] <;> omega)) (v := (h 6) i) rfl dX1_at_17 ?_
      refine TT_goto hK (tgt := 24) dX1_at_18 (by decide) ?_
      refine TT_iret hK hQ ?_ dX1_at_24
      exact ⟨congrArg (fun z => some (vI z)) (by first | exact (if_pos (by omega)).symm | exact (if_neg (by omega)).symm), rfl⟩
set_option maxRecDepth 20000 in
theorem c_X1_set_5 (i v : Int) (h : Hp_) (hi : 0 ≤ i ∧ i < (h 5 1)) (hL : 0 ≤ (h 5 1) ∧ (h 5 1) ≤ 1024) : Ctr yX1_set cX1_set 3 none (rmd 1) ly ly 0 0 [vR 5, vI i, vI v] h (fun r h' => r = none ∧ h' = setO h 6 (fup (h 6) i v)) := by
  refine Ctr_of (by decide) (Nat.le_of_ble_eq_true rfl) ⟨Nat.le_refl _, Nat.le_refl _⟩ (fun K hK hQ _ => ?_)
  show TT K ly 0 0 0 [(0, vR 5), (1, vI i), (2, vI v)] [] h
  refine TT_aload_n hK rfl 0 rfl dX1_set_0 ?_
  refine TT_iload_n hK rfl 1 rfl dX1_set_1 ?_
  refine iv_X1_22 hK (c_X1_has_5 i h (by first | omega | (simp [up, setR] <;> omega)) (by first | omega | (simp [up, setR] <;> omega))) (by decide) rfl ⟨by decide, by decide⟩ (by decide) rfl rfl (Nat.le_of_ble_eq_true rfl) ⟨by decide, by decide⟩ dX1_set_2 ?_
  intro r9 h9 hp9
  rw [hp9.1, hp9.2]
  by_cases hz2 : 0 ≤ i ∧ i < ((h 5) 1)
  · rw [if_pos hz2]
    show TT K ly 0 0 5 [(0, vR 5), (1, vI i), (2, vI v)] [vI 1] h
    refine TT_if_eq hK (tgt := 15) (by decide) dX1_set_5 (by decide) (fun hb5 => ?_) (fun hb5 => ?_)
    · exact absurd hb5 (by decide)
    · refine TT_aload_n hK rfl 0 rfl dX1_set_8 ?_
      refine gf_X1_9 hK (by decide) rfl (q := 6) rfl rfl dX1_set_9 ?_
      refine TT_iload_n hK rfl 1 rfl dX1_set_12 ?_
      refine TT_iload_n hK rfl 2 rfl dX1_set_13 ?_
      refine TT_iast hK (o := 6) (n := 1024) (by decide) rfl (by first | omega | (simp [up, setR] <;> omega)) (by first | omega | (simp [up, setR] <;> omega)) dX1_set_14 ?_
      refine TT_hp (h' := setO h 6 (fup (h 6) i v)) (up_can rfl rfl rfl) ?_
      refine TT_vret hK hQ ?_ dX1_set_15
      exact ⟨rfl, rfl⟩
  · rw [if_neg hz2]
    exact absurd hi hz2
set_option maxRecDepth 20000 in
theorem c_X1_add_5 (v : Int) (h : Hp_) (hL : 0 ≤ (h 5 1) ∧ (h 5 1) < 1024) : Ctr yX1_add cX1_add 2 none (rmd 0) ly ly 0 0 [vR 5, vI v] h (fun r h' => r = none ∧ h' = setO (setO h 5 (fup (fup (h 5) 1 ((h 5 1) + 1)) 2 0)) 6 (fup (h 6) (h 5 1) v)) := by
  refine Ctr_of (by decide) (Nat.le_of_ble_eq_true rfl) ⟨Nat.le_refl _, Nat.le_refl _⟩ (fun K hK hQ _ => ?_)
  show TT K ly 0 0 0 [(0, vR 5), (1, vI v)] [] h
  refine TT_aload_n hK rfl 0 rfl dX1_add_0 ?_
  refine gf_X1_15 hK (by decide) rfl (v := (h 5) 1) rfl dX1_add_1 ?_
  refine TT_aload_n hK rfl 0 rfl dX1_add_4 ?_
  refine gf_X1_9 hK (by decide) rfl (q := 6) rfl rfl dX1_add_5 ?_
  refine TT_alen hK (o := 6) (t := 12) (n := 1024) (v := 1024) (by decide) rfl (by decide) rfl dX1_add_8 ?_
  refine TT_icmp_ge hK (tgt := 32) (irm (by omega) (by omega)) (by decide) dX1_add_9 (by decide) (fun hb9 => ?_) (fun hb9 => ?_)
  · omega
  · refine TT_aload_n hK rfl 0 rfl dX1_add_12 ?_
    refine gf_X1_9 hK (by decide) rfl (q := 6) rfl rfl dX1_add_13 ?_
    refine TT_aload_n hK rfl 0 rfl dX1_add_16 ?_
    refine gf_X1_15 hK (by decide) rfl (v := (h 5) 1) rfl dX1_add_17 ?_
    refine TT_iload_n hK rfl 1 rfl dX1_add_20 ?_
    refine TT_iast hK (o := 6) (n := 1024) (by decide) rfl (by first | omega | (simp [up, setR] <;> omega)) (by first | omega | (simp [up, setR] <;> omega)) dX1_add_21 ?_
    refine TT_hp (h' := setO h 6 (fup (h 6) ((h 5) 1) v)) (up_can rfl rfl rfl) ?_
    refine TT_aload_n hK rfl 0 rfl dX1_add_22 ?_
    refine TT_dup hK rfl dX1_add_23 ?_
    refine gf_X1_15 hK (by decide) rfl (v := (h 5) 1) (rd_ (sOf_ne _ _ (by decide)) rfl) dX1_add_24 ?_
    refine TT_iconst hK dX1_add_27 ?_
    refine TT_iadd hK dX1_add_28 ?_
    refine pf_X1_15 hK (by decide) rfl dX1_add_29 ?_
    refine TT_hp (h' := setO (setO h 5 (fup (h 5) 1 (((h 5) 1) + 1))) 6 (fup (h 6) ((h 5) 1) v)) (up_can (sOf_ne _ _ (by decide)) rfl ((setO_comm _ _ _ (by decide)).trans (setO_cg rfl rfl))) ?_
    refine TT_aload_n hK rfl 0 rfl dX1_add_32 ?_
    refine TT_iconst hK dX1_add_33 ?_
    refine pf_X1_19 hK (by decide) rfl dX1_add_34 ?_
    refine TT_hp (h' := setO (setO h 5 (fup (fup (h 5) 1 (((h 5) 1) + 1)) 2 0)) 6 (fup (h 6) ((h 5) 1) v)) (up_can ((sOf_ne _ _ (by decide)).trans (sOf_eq _ _ _)) rfl ((setO_comm _ _ _ (by decide)).trans (setO_cg (setO_same _ _ _ _) rfl))) ?_
    refine TT_vret hK hQ ?_ dX1_add_37
    exact ⟨rfl, setO_cg (setO_cg rfl (by rfl)) (by rfl)⟩
set_option maxRecDepth 20000 in
theorem c_X1_endBits_5 (h : Hp_)  : Ctr yX1_endBits cX1_endBits 1 none (rmd 0) ly ly 0 0 [vR 5] h (fun r h' => r = none ∧ h' = setO h 5 (fup (h 5) 2 0)) := by
  refine Ctr_of (by decide) (Nat.le_of_ble_eq_true rfl) ⟨Nat.le_refl _, Nat.le_refl _⟩ (fun K hK hQ _ => ?_)
  show TT K ly 0 0 0 [(0, vR 5)] [] h
  refine TT_aload_n hK rfl 0 rfl dX1_endBits_0 ?_
  refine TT_iconst hK dX1_endBits_1 ?_
  refine pf_X1_19 hK (by decide) rfl dX1_endBits_2 ?_
  refine TT_hp (h' := setO h 5 (fup (h 5) 2 0)) (up_can rfl rfl rfl) ?_
  refine TT_vret hK hQ ?_ dX1_endBits_5
  exact ⟨rfl, rfl⟩
set_option maxRecDepth 20000 in
theorem c_X1_clear_22 (h : Hp_)  : Ctr yX1_clear cX1_clear 1 none (rmd 0) ly ly 0 0 [vR 22] h (fun r h' => r = none ∧ h' = setO h 22 (fup (fup (h 22) 1 0) 2 0)) := by
  refine Ctr_of (by decide) (Nat.le_of_ble_eq_true rfl) ⟨Nat.le_refl _, Nat.le_refl _⟩ (fun K hK hQ _ => ?_)
  show TT K ly 0 0 0 [(0, vR 22)] [] h
  refine TT_aload_n hK rfl 0 rfl dX1_clear_0 ?_
  refine TT_iconst hK dX1_clear_1 ?_
  refine pf_X1_15 hK (by decide) rfl dX1_clear_2 ?_
  refine TT_hp (h' := setO h 22 (fup (h 22) 1 0)) (up_can rfl rfl rfl) ?_
  refine TT_aload_n hK rfl 0 rfl dX1_clear_5 ?_
  refine TT_iconst hK dX1_clear_6 ?_
  refine pf_X1_19 hK (by decide) rfl dX1_clear_7 ?_
  refine TT_hp (h' := setO h 22 (fup (fup (h 22) 1 0) 2 0)) (up_can (sOf_eq _ _ _) rfl (setO_same _ _ _ _)) ?_
  refine TT_vret hK hQ ?_ dX1_clear_10
  exact ⟨rfl, rfl⟩
set_option maxRecDepth 20000 in
theorem c_X1_length_22 (h : Hp_)  : Ctr yX1_length cX1_length 1 (some .int) (rmd 0) ly ly 0 0 [vR 22] h (fun r h' => r = some (vI ((h 22 1))) ∧ h' = h) := by
  refine Ctr_of (by decide) (Nat.le_of_ble_eq_true rfl) ⟨Nat.le_refl _, Nat.le_refl _⟩ (fun K hK hQ _ => ?_)
  show TT K ly 0 0 0 [(0, vR 22)] [] h
  refine TT_aload_n hK rfl 0 rfl dX1_length_0 ?_
  refine gf_X1_15 hK (by decide) rfl (v := (h 22) 1) rfl dX1_length_1 ?_
  refine TT_iret hK hQ ?_ dX1_length_4
  exact ⟨congrArg (fun z => some (vI z)) (by first | rfl | omega | (split <;> first | rfl | omega)), rfl⟩
set_option maxRecDepth 20000 in
theorem c_X1_has_22 (i : Int) (h : Hp_) (hi : ir_ i) (hL : 0 ≤ (h 22 1) ∧ (h 22 1) ≤ 1024) : Ctr yX1_has cX1_has 2 (some .boolean) (rmd 0) ly ly 0 0 [vR 22, vI i] h (fun r h' => r = some (vI (if 0 ≤ i ∧ i < (h 22 1) then 1 else 0)) ∧ h' = h) := by
  refine Ctr_of (by decide) (Nat.le_of_ble_eq_true rfl) ⟨Nat.le_refl _, Nat.le_refl _⟩ (fun K hK hQ _ => ?_)
  show TT K ly 0 0 0 [(0, vR 22), (1, vI i)] [] h
  refine TT_iload_n hK rfl 1 rfl dX1_has_0 ?_
  refine TT_if_lt hK (tgt := 16) (irm (by omega) (by omega)) dX1_has_1 (by decide) (fun hb1 => ?_) (fun hb1 => ?_)
  · refine TT_iconst hK dX1_has_16 ?_
    refine TT_zret hK hQ (by decide) ?_ dX1_has_17
    exact ⟨congrArg (fun z => some (vI z)) (by first | exact (if_pos (by omega)).symm | exact (if_neg (by omega)).symm | (split <;> first | rfl | omega)), rfl⟩
  · refine TT_iload_n hK rfl 1 rfl dX1_has_4 ?_
    refine TT_aload_n hK rfl 0 rfl dX1_has_5 ?_
    refine gf_X1_15 hK (by decide) rfl (v := (h 22) 1) rfl dX1_has_6 ?_
    refine TT_icmp_ge hK (tgt := 16) (irm (by omega) (by omega)) (irm (by omega) (by omega)) dX1_has_9 (by decide) (fun hb9 => ?_) (fun hb9 => ?_)
    · refine TT_iconst hK dX1_has_16 ?_
      refine TT_zret hK hQ (by decide) ?_ dX1_has_17
      exact ⟨congrArg (fun z => some (vI z)) (by first | exact (if_pos (by omega)).symm | exact (if_neg (by omega)).symm | (split <;> first | rfl | omega)), rfl⟩
    · refine TT_iconst hK dX1_has_12 ?_
      refine TT_goto hK (tgt := 17) dX1_has_13 (by decide) ?_
      refine TT_zret hK hQ (by decide) ?_ dX1_has_17
      exact ⟨congrArg (fun z => some (vI z)) (by first | exact (if_pos (by omega)).symm | exact (if_neg (by omega)).symm | (split <;> first | rfl | omega)), rfl⟩
set_option maxRecDepth 20000 in
theorem c_X1_at_22 (i : Int) (h : Hp_) (hi : ir_ i) (hL : 0 ≤ (h 22 1) ∧ (h 22 1) ≤ 1024) : Ctr yX1_at cX1_at 2 (some .int) (rmd 0) ly ly 0 0 [vR 22, vI i] h (fun r h' => r = some (vI (if 0 ≤ i ∧ i < (h 22 1) then (h 23) i else 255)) ∧ h' = h) := by
  refine Ctr_of (by decide) (Nat.le_of_ble_eq_true rfl) ⟨Nat.le_refl _, Nat.le_refl _⟩ (fun K hK hQ _ => ?_)
  show TT K ly 0 0 0 [(0, vR 22), (1, vI i)] [] h
  refine TT_iload_n hK rfl 1 rfl dX1_at_0 ?_
  refine TT_if_lt hK (tgt := 21) (irm (by omega) (by omega)) dX1_at_1 (by decide) (fun hb1 => ?_) (fun hb1 => ?_)
  · refine TT_sipush hK (by decide) dX1_at_21 ?_
    refine TT_iret hK hQ ?_ dX1_at_24
    exact ⟨congrArg (fun z => some (vI z)) (by first | exact (if_pos (by omega)).symm | exact (if_neg (by omega)).symm), rfl⟩
  · refine TT_iload_n hK rfl 1 rfl dX1_at_4 ?_
    refine TT_aload_n hK rfl 0 rfl dX1_at_5 ?_
    refine gf_X1_15 hK (by decide) rfl (v := (h 22) 1) rfl dX1_at_6 ?_
    refine TT_icmp_ge hK (tgt := 21) (irm (by omega) (by omega)) (irm (by omega) (by omega)) dX1_at_9 (by decide) (fun hb9 => ?_) (fun hb9 => ?_)
    · refine TT_sipush hK (by decide) dX1_at_21 ?_
      refine TT_iret hK hQ ?_ dX1_at_24
      exact ⟨congrArg (fun z => some (vI z)) (by first | exact (if_pos (by omega)).symm | exact (if_neg (by omega)).symm), rfl⟩
    · refine TT_aload_n hK rfl 0 rfl dX1_at_12 ?_
      refine gf_X1_9 hK (by decide) rfl (q := 23) rfl rfl dX1_at_13 ?_
      refine TT_iload_n hK rfl 1 rfl dX1_at_16 ?_
      refine TT_iald hK (o := 23) (n := 1024) (by decide) rfl (by first | omega | (simp [up, setR] <;> omega)) (by first | omega | (simp [up, setR] <;> omega)) (v := (h 23) i) rfl dX1_at_17 ?_
      refine TT_goto hK (tgt := 24) dX1_at_18 (by decide) ?_
      refine TT_iret hK hQ ?_ dX1_at_24
      exact ⟨congrArg (fun z => some (vI z)) (by first | exact (if_pos (by omega)).symm | exact (if_neg (by omega)).symm), rfl⟩
set_option maxRecDepth 20000 in
theorem c_X1_set_22 (i v : Int) (h : Hp_) (hi : 0 ≤ i ∧ i < (h 22 1)) (hL : 0 ≤ (h 22 1) ∧ (h 22 1) ≤ 1024) : Ctr yX1_set cX1_set 3 none (rmd 1) ly ly 0 0 [vR 22, vI i, vI v] h (fun r h' => r = none ∧ h' = setO h 23 (fup (h 23) i v)) := by
  refine Ctr_of (by decide) (Nat.le_of_ble_eq_true rfl) ⟨Nat.le_refl _, Nat.le_refl _⟩ (fun K hK hQ _ => ?_)
  show TT K ly 0 0 0 [(0, vR 22), (1, vI i), (2, vI v)] [] h
  refine TT_aload_n hK rfl 0 rfl dX1_set_0 ?_
  refine TT_iload_n hK rfl 1 rfl dX1_set_1 ?_
  refine iv_X1_22 hK (c_X1_has_22 i h (by first | omega | (simp [up, setR] <;> omega)) (by first | omega | (simp [up, setR] <;> omega))) (by decide) rfl ⟨by decide, by decide⟩ (by decide) rfl rfl (Nat.le_of_ble_eq_true rfl) ⟨by decide, by decide⟩ dX1_set_2 ?_
  intro r9 h9 hp9
  rw [hp9.1, hp9.2]
  by_cases hz2 : 0 ≤ i ∧ i < ((h 22) 1)
  · rw [if_pos hz2]
    show TT K ly 0 0 5 [(0, vR 22), (1, vI i), (2, vI v)] [vI 1] h
    refine TT_if_eq hK (tgt := 15) (by decide) dX1_set_5 (by decide) (fun hb5 => ?_) (fun hb5 => ?_)
    · exact absurd hb5 (by decide)
    · refine TT_aload_n hK rfl 0 rfl dX1_set_8 ?_
      refine gf_X1_9 hK (by decide) rfl (q := 23) rfl rfl dX1_set_9 ?_
      refine TT_iload_n hK rfl 1 rfl dX1_set_12 ?_
      refine TT_iload_n hK rfl 2 rfl dX1_set_13 ?_
      refine TT_iast hK (o := 23) (n := 1024) (by decide) rfl (by first | omega | (simp [up, setR] <;> omega)) (by first | omega | (simp [up, setR] <;> omega)) dX1_set_14 ?_
      refine TT_hp (h' := setO h 23 (fup (h 23) i v)) (up_can rfl rfl rfl) ?_
      refine TT_vret hK hQ ?_ dX1_set_15
      exact ⟨rfl, rfl⟩
  · rw [if_neg hz2]
    exact absurd hi hz2
set_option maxRecDepth 20000 in
theorem c_X1_add_22 (v : Int) (h : Hp_) (hL : 0 ≤ (h 22 1) ∧ (h 22 1) < 1024) : Ctr yX1_add cX1_add 2 none (rmd 0) ly ly 0 0 [vR 22, vI v] h (fun r h' => r = none ∧ h' = setO (setO h 22 (fup (fup (h 22) 1 ((h 22 1) + 1)) 2 0)) 23 (fup (h 23) (h 22 1) v)) := by
  refine Ctr_of (by decide) (Nat.le_of_ble_eq_true rfl) ⟨Nat.le_refl _, Nat.le_refl _⟩ (fun K hK hQ _ => ?_)
  show TT K ly 0 0 0 [(0, vR 22), (1, vI v)] [] h
  refine TT_aload_n hK rfl 0 rfl dX1_add_0 ?_
  refine gf_X1_15 hK (by decide) rfl (v := (h 22) 1) rfl dX1_add_1 ?_
  refine TT_aload_n hK rfl 0 rfl dX1_add_4 ?_
  refine gf_X1_9 hK (by decide) rfl (q := 23) rfl rfl dX1_add_5 ?_
  refine TT_alen hK (o := 23) (t := 12) (n := 1024) (v := 1024) (by decide) rfl (by decide) rfl dX1_add_8 ?_
  refine TT_icmp_ge hK (tgt := 32) (irm (by omega) (by omega)) (by decide) dX1_add_9 (by decide) (fun hb9 => ?_) (fun hb9 => ?_)
  · omega
  · refine TT_aload_n hK rfl 0 rfl dX1_add_12 ?_
    refine gf_X1_9 hK (by decide) rfl (q := 23) rfl rfl dX1_add_13 ?_
    refine TT_aload_n hK rfl 0 rfl dX1_add_16 ?_
    refine gf_X1_15 hK (by decide) rfl (v := (h 22) 1) rfl dX1_add_17 ?_
    refine TT_iload_n hK rfl 1 rfl dX1_add_20 ?_
    refine TT_iast hK (o := 23) (n := 1024) (by decide) rfl (by first | omega | (simp [up, setR] <;> omega)) (by first | omega | (simp [up, setR] <;> omega)) dX1_add_21 ?_
    refine TT_hp (h' := setO h 23 (fup (h 23) ((h 22) 1) v)) (up_can rfl rfl rfl) ?_
    refine TT_aload_n hK rfl 0 rfl dX1_add_22 ?_
    refine TT_dup hK rfl dX1_add_23 ?_
    refine gf_X1_15 hK (by decide) rfl (v := (h 22) 1) (rd_ (sOf_ne _ _ (by decide)) rfl) dX1_add_24 ?_
    refine TT_iconst hK dX1_add_27 ?_
    refine TT_iadd hK dX1_add_28 ?_
    refine pf_X1_15 hK (by decide) rfl dX1_add_29 ?_
    refine TT_hp (h' := setO (setO h 22 (fup (h 22) 1 (((h 22) 1) + 1))) 23 (fup (h 23) ((h 22) 1) v)) (up_can (sOf_ne _ _ (by decide)) rfl ((setO_comm _ _ _ (by decide)).trans (setO_cg rfl rfl))) ?_
    refine TT_aload_n hK rfl 0 rfl dX1_add_32 ?_
    refine TT_iconst hK dX1_add_33 ?_
    refine pf_X1_19 hK (by decide) rfl dX1_add_34 ?_
    refine TT_hp (h' := setO (setO h 22 (fup (fup (h 22) 1 (((h 22) 1) + 1)) 2 0)) 23 (fup (h 23) ((h 22) 1) v)) (up_can ((sOf_ne _ _ (by decide)).trans (sOf_eq _ _ _)) rfl ((setO_comm _ _ _ (by decide)).trans (setO_cg (setO_same _ _ _ _) rfl))) ?_
    refine TT_vret hK hQ ?_ dX1_add_37
    exact ⟨rfl, setO_cg (setO_cg rfl (by rfl)) (by rfl)⟩
set_option maxRecDepth 20000 in
theorem c_X1_endBits_22 (h : Hp_)  : Ctr yX1_endBits cX1_endBits 1 none (rmd 0) ly ly 0 0 [vR 22] h (fun r h' => r = none ∧ h' = setO h 22 (fup (h 22) 2 0)) := by
  refine Ctr_of (by decide) (Nat.le_of_ble_eq_true rfl) ⟨Nat.le_refl _, Nat.le_refl _⟩ (fun K hK hQ _ => ?_)
  show TT K ly 0 0 0 [(0, vR 22)] [] h
  refine TT_aload_n hK rfl 0 rfl dX1_endBits_0 ?_
  refine TT_iconst hK dX1_endBits_1 ?_
  refine pf_X1_19 hK (by decide) rfl dX1_endBits_2 ?_
  refine TT_hp (h' := setO h 22 (fup (h 22) 2 0)) (up_can rfl rfl rfl) ?_
  refine TT_vret hK hQ ?_ dX1_endBits_5
  exact ⟨rfl, rfl⟩

/-! the small methods on a fresh object; the throws -/
def rmx : Room := { frames := 6, cells := 1, slots := 6, locals := 240 }
set_option maxRecDepth 20000 in
theorem c_fill_2 (v : Int) (h : Hp_)  : Ctr yJ7_fill_53178 cJ7_fill_53178 4 none (rmd 0) ly ly 0 0 [vR 2, vI v] h (fun r h' => r = none ∧ h' = setO h 2 (fsr (h 2) 0 64 (fun _ => v))) := by
  refine Ctr_of (by decide) (Nat.le_of_ble_eq_true rfl) ⟨Nat.le_refl _, Nat.le_refl _⟩ (fun K hK hQ _ => ?_)
  show TT K ly 0 0 0 [(0, vR 2), (1, vI v)] [] h
  refine TT_iconst hK dJ7_fill_53178_0 ?_
  refine TT_istore_n hK rfl (lv' := [(2, vI 0), (0, vR 2), (1, vI v)]) (by decide) rfl dJ7_fill_53178_1 ?_
  refine TT_aload_n hK rfl 1 rfl dJ7_fill_53178_2 ?_
  refine TT_alen hK (o := 2) (t := 12) (n := 64) (v := 64) (by decide) rfl (by decide) rfl dJ7_fill_53178_3 ?_
  refine TT_istore_n hK rfl (lv' := [(3, vI 64), (2, vI 0), (0, vR 2), (1, vI v)]) (by decide) rfl dJ7_fill_53178_4 ?_
  have L5_1 : ∀ (k1 : Nat) (i : Int), (0 ≤ i) → (i ≤ 64) → ((64 : Int) - i).toNat < k1 → TT K ly 0 0 5 [(0, vR 2), (1, vI v), (2, vI i), (3, vI 64)] [] (setO h 2 (fsr (h 2) 0 i (fun _ => v))) := by
    intro k1
    induction k1 with
    | zero => intro i hi0 hi1 hk1; exact absurd hk1 (Nat.not_lt_zero _)
    | succ k1 ih1 =>
      intro i hi0 hi1 hk1
      refine TT_iload_n hK rfl 2 rfl dJ7_fill_53178_5 ?_
      refine TT_iload_n hK rfl 3 rfl dJ7_fill_53178_6 ?_
      refine TT_icmp_ge hK (tgt := 20) (irm (by omega) (by omega)) (by decide) dJ7_fill_53178_7 (by decide) (fun hb7 => ?_) (fun hb7 => ?_)
      · refine TT_vret hK hQ ?_ dJ7_fill_53178_20
        exact ⟨rfl, setO_cg rfl (by rw [show i = 64 by omega])⟩
      · refine TT_aload_n hK rfl 0 rfl dJ7_fill_53178_10 ?_
        refine TT_iload_n hK rfl 2 rfl dJ7_fill_53178_11 ?_
        refine TT_iload_n hK rfl 1 rfl dJ7_fill_53178_12 ?_
        refine TT_iast hK (o := 2) (n := 64) (by decide) rfl (by first | omega | (simp [up, setR] <;> omega)) (by first | omega | (simp [up, setR] <;> omega)) dJ7_fill_53178_13 ?_
        refine TT_hp (h' := setO h 2 (fup (fsr (h 2) 0 i (fun _ => v)) i v)) (up_can (sOf_eq _ _ _) rfl (setO_same _ _ _ _)) ?_
        refine TT_iinc hK (v := i + 1) (lv' := [(2, vI (i + 1)), (0, vR 2), (1, vI v), (3, vI 64)]) 2 rfl rfl (by decide) rfl dJ7_fill_53178_14 ?_
        refine TT_goto hK (tgt := 5) dJ7_fill_53178_17 (by decide) ?_
        refine TT_sub [1, 2, 0, 3] rfl ?_
        refine TT_hp (h' := setO h 2 (fsr (h 2) 0 (i + 1) (fun _ => v))) (setO_cg rfl (by first | rfl | exact fsr_step _ (by omega) rfl)) ?_
        exact ih1 (i + 1) (by first | omega | (simp [up, setR] <;> omega)) (by first | omega | (simp [up, setR] <;> omega)) (by first | omega | (simp [up, setR] <;> omega))
  refine TT_sub [2, 3, 1, 0] rfl ?_
  refine TT_hp (h' := setO h 2 (fsr (h 2) 0 0 (fun _ => v))) ((setO_new (by first | rfl | exact fsr_0 _ _ _)).trans (setO_cg rfl rfl)) ?_
  exact L5_1 ((((64 : Int) - 0).toNat) + 1) 0 (by first | omega | (simp [up, setR] <;> omega)) (by first | omega | (simp [up, setR] <;> omega)) (Nat.lt_succ_self _)
set_option maxRecDepth 20000 in
theorem c_X5_has_1 (x y : Int) (h : Hp_) (hx : ir_ x) (hy : ir_ y) (hw : 0 ≤ (h 1 1) ∧ (h 1 1) ≤ 8) (hh : 0 ≤ (h 1 2) ∧ (h 1 2) ≤ 8) : Ctr yX5_has cX5_has 3 (some .boolean) (rmd 0) ly ly 0 0 [vR 1, vI x, vI y] h (fun r h' => r = some (vI (if (0 ≤ x ∧ x < (h 1 1)) ∧ (0 ≤ y ∧ y < (h 1 2)) then 1 else 0)) ∧ h' = h) := by
  refine Ctr_of (by decide) (Nat.le_of_ble_eq_true rfl) ⟨Nat.le_refl _, Nat.le_refl _⟩ (fun K hK hQ _ => ?_)
  show TT K ly 0 0 0 [(0, vR 1), (1, vI x), (2, vI y)] [] h
  refine TT_iload_n hK rfl 1 rfl dX5_has_0 ?_
  refine TT_if_lt hK (tgt := 28) (irm (by omega) (by omega)) dX5_has_1 (by decide) (fun hb1 => ?_) (fun hb1 => ?_)
  · refine TT_iconst hK dX5_has_28 ?_
    refine TT_zret hK hQ (by decide) ?_ dX5_has_29
    exact ⟨congrArg (fun z => some (vI z)) (by first | exact (if_pos (by omega)).symm | exact (if_neg (by omega)).symm | (split <;> first | rfl | omega)), rfl⟩
  · refine TT_iload_n hK rfl 1 rfl dX5_has_4 ?_
    refine TT_aload_n hK rfl 0 rfl dX5_has_5 ?_
    refine gf_X5_15 hK (by decide) rfl (v := (h 1) 1) rfl dX5_has_6 ?_
    refine TT_icmp_ge hK (tgt := 28) (irm (by omega) (by omega)) (irm (by omega) (by omega)) dX5_has_9 (by decide) (fun hb9 => ?_) (fun hb9 => ?_)
    · refine TT_iconst hK dX5_has_28 ?_
      refine TT_zret hK hQ (by decide) ?_ dX5_has_29
      exact ⟨congrArg (fun z => some (vI z)) (by first | exact (if_pos (by omega)).symm | exact (if_neg (by omega)).symm | (split <;> first | rfl | omega)), rfl⟩
    · refine TT_iload_n hK rfl 2 rfl dX5_has_12 ?_
      refine TT_if_lt hK (tgt := 28) (irm (by omega) (by omega)) dX5_has_13 (by decide) (fun hb13 => ?_) (fun hb13 => ?_)
      · refine TT_iconst hK dX5_has_28 ?_
        refine TT_zret hK hQ (by decide) ?_ dX5_has_29
        exact ⟨congrArg (fun z => some (vI z)) (by first | exact (if_pos (by omega)).symm | exact (if_neg (by omega)).symm | (split <;> first | rfl | omega)), rfl⟩
      · refine TT_iload_n hK rfl 2 rfl dX5_has_16 ?_
        refine TT_aload_n hK rfl 0 rfl dX5_has_17 ?_
        refine gf_X5_19 hK (by decide) rfl (v := (h 1) 2) rfl dX5_has_18 ?_
        refine TT_icmp_ge hK (tgt := 28) (irm (by omega) (by omega)) (irm (by omega) (by omega)) dX5_has_21 (by decide) (fun hb21 => ?_) (fun hb21 => ?_)
        · refine TT_iconst hK dX5_has_28 ?_
          refine TT_zret hK hQ (by decide) ?_ dX5_has_29
          exact ⟨congrArg (fun z => some (vI z)) (by first | exact (if_pos (by omega)).symm | exact (if_neg (by omega)).symm | (split <;> first | rfl | omega)), rfl⟩
        · refine TT_iconst hK dX5_has_24 ?_
          refine TT_goto hK (tgt := 29) dX5_has_25 (by decide) ?_
          refine TT_zret hK hQ (by decide) ?_ dX5_has_29
          exact ⟨congrArg (fun z => some (vI z)) (by first | exact (if_pos (by omega)).symm | exact (if_neg (by omega)).symm | (split <;> first | rfl | omega)), rfl⟩
set_option maxRecDepth 20000 in
theorem c_X5_at_1 (x y : Int) (h : Hp_) (hx : ir_ x) (hy : ir_ y) (hw : 0 ≤ (h 1 1) ∧ (h 1 1) ≤ 8) (hh : 0 ≤ (h 1 2) ∧ (h 1 2) ≤ 8) : Ctr yX5_at cX5_at 3 (some .int) (rmd 1) ly ly 0 0 [vR 1, vI x, vI y] h (fun r h' => r = some (vI (if (0 ≤ x ∧ x < (h 1 1)) ∧ (0 ≤ y ∧ y < (h 1 2)) then (h 2) (y * 8 + x) else -100000)) ∧ h' = h) := by
  refine Ctr_of (by decide) (Nat.le_of_ble_eq_true rfl) ⟨Nat.le_refl _, Nat.le_refl _⟩ (fun K hK hQ _ => ?_)
  show TT K ly 0 0 0 [(0, vR 1), (1, vI x), (2, vI y)] [] h
  refine TT_aload_n hK rfl 0 rfl dX5_at_0 ?_
  refine TT_iload_n hK rfl 1 rfl dX5_at_1 ?_
  refine TT_iload_n hK rfl 2 rfl dX5_at_2 ?_
  refine iv_X5_28 hK (c_X5_has_1 x y h (by first | omega | (simp [up, setR] <;> omega)) (by first | omega | (simp [up, setR] <;> omega)) (by first | omega | (simp [up, setR] <;> omega)) (by first | omega | (simp [up, setR] <;> omega))) (by decide) rfl ⟨by decide, by decide⟩ (by decide) rfl rfl (Nat.le_of_ble_eq_true rfl) ⟨by decide, by decide⟩ dX5_at_3 ?_
  intro r9 h9 hp9
  rw [hp9.1, hp9.2]
  by_cases hz3 : (0 ≤ x ∧ x < ((h 1) 1)) ∧ (0 ≤ y ∧ y < ((h 1) 2))
  · rw [if_pos hz3]
    show TT K ly 0 0 6 [(0, vR 1), (1, vI x), (2, vI y)] [vI 1] h
    refine TT_if_eq hK (tgt := 23) (by decide) dX5_at_6 (by decide) (fun hb6 => ?_) (fun hb6 => ?_)
    · exact absurd hb6 (by decide)
    · refine TT_aload_n hK rfl 0 rfl dX5_at_9 ?_
      refine gf_X5_9 hK (by decide) rfl (q := 2) rfl rfl dX5_at_10 ?_
      refine TT_iload_n hK rfl 2 rfl dX5_at_13 ?_
      refine TT_bipush hK (by decide) dX5_at_14 ?_
      refine TT_imul hK dX5_at_16 ?_
      refine TT_iload_n hK rfl 1 rfl dX5_at_17 ?_
      refine TT_iadd hK dX5_at_18 ?_
      refine TT_iald hK (o := 2) (n := 64) (by decide) rfl (by first | omega | (simp [up, setR] <;> omega)) (by first | omega | (simp [up, setR] <;> omega)) (v := (h 2) ((y * 8) + x)) rfl dX5_at_19 ?_
      refine TT_goto hK (tgt := 25) dX5_at_20 (by decide) ?_
      refine TT_iret hK hQ ?_ dX5_at_25
      exact ⟨congrArg (fun z => some (vI z)) (by first | exact (if_pos (by assumption)).symm | exact (if_neg (by assumption)).symm), rfl⟩
  · rw [if_neg hz3]
    show TT K ly 0 0 6 [(0, vR 1), (1, vI x), (2, vI y)] [vI 0] h
    refine TT_if_eq hK (tgt := 23) (by decide) dX5_at_6 (by decide) (fun hb6 => ?_) (fun hb6 => ?_)
    · refine TT_ldc hK lc_X5_32 dX5_at_23 ?_
      refine TT_iret hK hQ ?_ dX5_at_25
      exact ⟨congrArg (fun z => some (vI z)) (by first | exact (if_pos (by assumption)).symm | exact (if_neg (by assumption)).symm), rfl⟩
    · exact absurd hb6 (by decide)
set_option maxRecDepth 20000 in
theorem c_X5_set_1 (x y v : Int) (h : Hp_) (hx : 0 ≤ x ∧ x < (h 1 1)) (hy : 0 ≤ y ∧ y < (h 1 2)) (hw : 0 ≤ (h 1 1) ∧ (h 1 1) ≤ 8) (hh : 0 ≤ (h 1 2) ∧ (h 1 2) ≤ 8) : Ctr yX5_set cX5_set 4 none (rmd 1) ly ly 0 0 [vR 1, vI x, vI y, vI v] h (fun r h' => r = none ∧ h' = setO h 2 (fup (h 2) ((y * 8) + x) v)) := by
  refine Ctr_of (by decide) (Nat.le_of_ble_eq_true rfl) ⟨Nat.le_refl _, Nat.le_refl _⟩ (fun K hK hQ _ => ?_)
  show TT K ly 0 0 0 [(0, vR 1), (1, vI x), (2, vI y), (3, vI v)] [] h
  refine TT_aload_n hK rfl 0 rfl dX5_set_0 ?_
  refine TT_iload_n hK rfl 1 rfl dX5_set_1 ?_
  refine TT_iload_n hK rfl 2 rfl dX5_set_2 ?_
  refine iv_X5_28 hK (c_X5_has_1 x y h (by first | omega | (simp [up, setR] <;> omega)) (by first | omega | (simp [up, setR] <;> omega)) (by first | omega | (simp [up, setR] <;> omega)) (by first | omega | (simp [up, setR] <;> omega))) (by decide) rfl ⟨by decide, by decide⟩ (by decide) rfl rfl (Nat.le_of_ble_eq_true rfl) ⟨by decide, by decide⟩ dX5_set_3 ?_
  intro r9 h9 hp9
  rw [hp9.1, hp9.2]
  by_cases hz3 : (0 ≤ x ∧ x < ((h 1) 1)) ∧ (0 ≤ y ∧ y < ((h 1) 2))
  · rw [if_pos hz3]
    show TT K ly 0 0 6 [(0, vR 1), (1, vI x), (2, vI y), (3, vI v)] [vI 1] h
    refine TT_if_eq hK (tgt := 21) (by decide) dX5_set_6 (by decide) (fun hb6 => ?_) (fun hb6 => ?_)
    · exact absurd hb6 (by decide)
    · refine TT_aload_n hK rfl 0 rfl dX5_set_9 ?_
      refine gf_X5_9 hK (by decide) rfl (q := 2) rfl rfl dX5_set_10 ?_
      refine TT_iload_n hK rfl 2 rfl dX5_set_13 ?_
      refine TT_bipush hK (by decide) dX5_set_14 ?_
      refine TT_imul hK dX5_set_16 ?_
      refine TT_iload_n hK rfl 1 rfl dX5_set_17 ?_
      refine TT_iadd hK dX5_set_18 ?_
      refine TT_iload_n hK rfl 3 rfl dX5_set_19 ?_
      refine TT_iast hK (o := 2) (n := 64) (by decide) rfl (by first | omega | (simp [up, setR] <;> omega)) (by first | omega | (simp [up, setR] <;> omega)) dX5_set_20 ?_
      refine TT_hp (h' := setO h 2 (fup (h 2) ((y * 8) + x) v)) (up_can rfl rfl rfl) ?_
      refine TT_vret hK hQ ?_ dX5_set_21
      exact ⟨rfl, rfl⟩
  · rw [if_neg hz3]
    exact absurd ⟨hx, hy⟩ hz3
set_option maxRecDepth 20000 in
theorem c_X5_begin_1 (nw nh : Int) (h : Hp_)  : Ctr yX5_begin cX5_begin 3 none (rmd 1) ly ly 0 0 [vR 1, vI nw, vI nh] h (fun r h' => r = none ∧ h' = setO (setO h 1 (fup (fup (h 1) 1 nw) 2 nh)) 2 (fsr (h 2) 0 64 (fun _ => 0))) := by
  refine Ctr_of (by decide) (Nat.le_of_ble_eq_true rfl) ⟨Nat.le_refl _, Nat.le_refl _⟩ (fun K hK hQ _ => ?_)
  show TT K ly 0 0 0 [(0, vR 1), (1, vI nw), (2, vI nh)] [] h
  refine TT_aload_n hK rfl 0 rfl dX5_begin_0 ?_
  refine TT_iload_n hK rfl 1 rfl dX5_begin_1 ?_
  refine pf_X5_15 hK (by decide) rfl dX5_begin_2 ?_
  refine TT_hp (h' := setO h 1 (fup (h 1) 1 nw)) (up_can rfl rfl rfl) ?_
  refine TT_aload_n hK rfl 0 rfl dX5_begin_5 ?_
  refine TT_iload_n hK rfl 2 rfl dX5_begin_6 ?_
  refine pf_X5_19 hK (by decide) rfl dX5_begin_7 ?_
  refine TT_hp (h' := setO h 1 (fup (fup (h 1) 1 nw) 2 nh)) (up_can (sOf_eq _ _ _) rfl (setO_same _ _ _ _)) ?_
  refine TT_aload_n hK rfl 0 rfl dX5_begin_10 ?_
  refine gf_X5_9 hK (by decide) rfl (q := 2) rfl rfl dX5_begin_11 ?_
  refine TT_iconst hK dX5_begin_14 ?_
  have q15_2 : (setO h 1 (fup (fup (h 1) 1 nw) 2 nh)) 2 = h 2 := sOf_ne _ _ (by decide)
  refine iv_X5_22 hK (c_fill_2 0 (setO h 1 (fup (fup (h 1) 1 nw) 2 nh)) ) ⟨by decide, by decide⟩ (by decide) rfl rfl (Nat.le_of_ble_eq_true rfl) ⟨by decide, by decide⟩ dX5_begin_15 ?_
  intro r9 h9 hp9
  rw [q15_2] at hp9
  rw [hp9.1, hp9.2]
  show TT K ly 0 0 18 [(0, vR 1), (1, vI nw), (2, vI nh)] [] (setO (setO h 1 (fup (fup (h 1) 1 nw) 2 nh)) 2 (fsr (h 2) 0 64 (fun _ => 0)))
  refine TT_vret hK hQ ?_ dX5_begin_18
  exact ⟨rfl, rfl⟩
set_option maxRecDepth 20000 in
theorem c_X5_has_3 (x y : Int) (h : Hp_) (hx : ir_ x) (hy : ir_ y) (hw : 0 ≤ (h 3 1) ∧ (h 3 1) ≤ 8) (hh : 0 ≤ (h 3 2) ∧ (h 3 2) ≤ 8) : Ctr yX5_has cX5_has 3 (some .boolean) (rmd 0) ly ly 0 0 [vR 3, vI x, vI y] h (fun r h' => r = some (vI (if (0 ≤ x ∧ x < (h 3 1)) ∧ (0 ≤ y ∧ y < (h 3 2)) then 1 else 0)) ∧ h' = h) := by
  refine Ctr_of (by decide) (Nat.le_of_ble_eq_true rfl) ⟨Nat.le_refl _, Nat.le_refl _⟩ (fun K hK hQ _ => ?_)
  show TT K ly 0 0 0 [(0, vR 3), (1, vI x), (2, vI y)] [] h
  refine TT_iload_n hK rfl 1 rfl dX5_has_0 ?_
  refine TT_if_lt hK (tgt := 28) (irm (by omega) (by omega)) dX5_has_1 (by decide) (fun hb1 => ?_) (fun hb1 => ?_)
  · refine TT_iconst hK dX5_has_28 ?_
    refine TT_zret hK hQ (by decide) ?_ dX5_has_29
    exact ⟨congrArg (fun z => some (vI z)) (by first | exact (if_pos (by omega)).symm | exact (if_neg (by omega)).symm | (split <;> first | rfl | omega)), rfl⟩
  · refine TT_iload_n hK rfl 1 rfl dX5_has_4 ?_
    refine TT_aload_n hK rfl 0 rfl dX5_has_5 ?_
    refine gf_X5_15 hK (by decide) rfl (v := (h 3) 1) rfl dX5_has_6 ?_
    refine TT_icmp_ge hK (tgt := 28) (irm (by omega) (by omega)) (irm (by omega) (by omega)) dX5_has_9 (by decide) (fun hb9 => ?_) (fun hb9 => ?_)
    · refine TT_iconst hK dX5_has_28 ?_
      refine TT_zret hK hQ (by decide) ?_ dX5_has_29
      exact ⟨congrArg (fun z => some (vI z)) (by first | exact (if_pos (by omega)).symm | exact (if_neg (by omega)).symm | (split <;> first | rfl | omega)), rfl⟩
    · refine TT_iload_n hK rfl 2 rfl dX5_has_12 ?_
      refine TT_if_lt hK (tgt := 28) (irm (by omega) (by omega)) dX5_has_13 (by decide) (fun hb13 => ?_) (fun hb13 => ?_)
      · refine TT_iconst hK dX5_has_28 ?_
        refine TT_zret hK hQ (by decide) ?_ dX5_has_29
        exact ⟨congrArg (fun z => some (vI z)) (by first | exact (if_pos (by omega)).symm | exact (if_neg (by omega)).symm | (split <;> first | rfl | omega)), rfl⟩
      · refine TT_iload_n hK rfl 2 rfl dX5_has_16 ?_
        refine TT_aload_n hK rfl 0 rfl dX5_has_17 ?_
        refine gf_X5_19 hK (by decide) rfl (v := (h 3) 2) rfl dX5_has_18 ?_
        refine TT_icmp_ge hK (tgt := 28) (irm (by omega) (by omega)) (irm (by omega) (by omega)) dX5_has_21 (by decide) (fun hb21 => ?_) (fun hb21 => ?_)
        · refine TT_iconst hK dX5_has_28 ?_
          refine TT_zret hK hQ (by decide) ?_ dX5_has_29
          exact ⟨congrArg (fun z => some (vI z)) (by first | exact (if_pos (by omega)).symm | exact (if_neg (by omega)).symm | (split <;> first | rfl | omega)), rfl⟩
        · refine TT_iconst hK dX5_has_24 ?_
          refine TT_goto hK (tgt := 29) dX5_has_25 (by decide) ?_
          refine TT_zret hK hQ (by decide) ?_ dX5_has_29
          exact ⟨congrArg (fun z => some (vI z)) (by first | exact (if_pos (by omega)).symm | exact (if_neg (by omega)).symm | (split <;> first | rfl | omega)), rfl⟩
set_option maxRecDepth 20000 in
theorem c_X5_at_3 (x y : Int) (h : Hp_) (hx : ir_ x) (hy : ir_ y) (hw : 0 ≤ (h 3 1) ∧ (h 3 1) ≤ 8) (hh : 0 ≤ (h 3 2) ∧ (h 3 2) ≤ 8) : Ctr yX5_at cX5_at 3 (some .int) (rmd 1) ly ly 0 0 [vR 3, vI x, vI y] h (fun r h' => r = some (vI (if (0 ≤ x ∧ x < (h 3 1)) ∧ (0 ≤ y ∧ y < (h 3 2)) then (h 4) (y * 8 + x) else -100000)) ∧ h' = h) := by
  refine Ctr_of (by decide) (Nat.le_of_ble_eq_true rfl) ⟨Nat.le_refl _, Nat.le_refl _⟩ (fun K hK hQ _ => ?_)
  show TT K ly 0 0 0 [(0, vR 3), (1, vI x), (2, vI y)] [] h
  refine TT_aload_n hK rfl 0 rfl dX5_at_0 ?_
  refine TT_iload_n hK rfl 1 rfl dX5_at_1 ?_
  refine TT_iload_n hK rfl 2 rfl dX5_at_2 ?_
  refine iv_X5_28 hK (c_X5_has_3 x y h (by first | omega | (simp [up, setR] <;> omega)) (by first | omega | (simp [up, setR] <;> omega)) (by first | omega | (simp [up, setR] <;> omega)) (by first | omega | (simp [up, setR] <;> omega))) (by decide) rfl ⟨by decide, by decide⟩ (by decide) rfl rfl (Nat.le_of_ble_eq_true rfl) ⟨by decide, by decide⟩ dX5_at_3 ?_
  intro r9 h9 hp9
  rw [hp9.1, hp9.2]
  by_cases hz3 : (0 ≤ x ∧ x < ((h 3) 1)) ∧ (0 ≤ y ∧ y < ((h 3) 2))
  · rw [if_pos hz3]
    show TT K ly 0 0 6 [(0, vR 3), (1, vI x), (2, vI y)] [vI 1] h
    refine TT_if_eq hK (tgt := 23) (by decide) dX5_at_6 (by decide) (fun hb6 => ?_) (fun hb6 => ?_)
    · exact absurd hb6 (by decide)
    · refine TT_aload_n hK rfl 0 rfl dX5_at_9 ?_
      refine gf_X5_9 hK (by decide) rfl (q := 4) rfl rfl dX5_at_10 ?_
      refine TT_iload_n hK rfl 2 rfl dX5_at_13 ?_
      refine TT_bipush hK (by decide) dX5_at_14 ?_
      refine TT_imul hK dX5_at_16 ?_
      refine TT_iload_n hK rfl 1 rfl dX5_at_17 ?_
      refine TT_iadd hK dX5_at_18 ?_
      refine TT_iald hK (o := 4) (n := 64) (by decide) rfl (by first | omega | (simp [up, setR] <;> omega)) (by first | omega | (simp [up, setR] <;> omega)) (v := (h 4) ((y * 8) + x)) rfl dX5_at_19 ?_
      refine TT_goto hK (tgt := 25) dX5_at_20 (by decide) ?_
      refine TT_iret hK hQ ?_ dX5_at_25
      exact ⟨congrArg (fun z => some (vI z)) (by first | exact (if_pos (by assumption)).symm | exact (if_neg (by assumption)).symm), rfl⟩
  · rw [if_neg hz3]
    show TT K ly 0 0 6 [(0, vR 3), (1, vI x), (2, vI y)] [vI 0] h
    refine TT_if_eq hK (tgt := 23) (by decide) dX5_at_6 (by decide) (fun hb6 => ?_) (fun hb6 => ?_)
    · refine TT_ldc hK lc_X5_32 dX5_at_23 ?_
      refine TT_iret hK hQ ?_ dX5_at_25
      exact ⟨congrArg (fun z => some (vI z)) (by first | exact (if_pos (by assumption)).symm | exact (if_neg (by assumption)).symm), rfl⟩
    · exact absurd hb6 (by decide)
set_option maxRecDepth 20000 in
theorem c_X1_length_5 (h : Hp_)  : Ctr yX1_length cX1_length 1 (some .int) (rmd 0) ly ly 0 0 [vR 5] h (fun r h' => r = some (vI ((h 5 1))) ∧ h' = h) := by
  refine Ctr_of (by decide) (Nat.le_of_ble_eq_true rfl) ⟨Nat.le_refl _, Nat.le_refl _⟩ (fun K hK hQ _ => ?_)
  show TT K ly 0 0 0 [(0, vR 5)] [] h
  refine TT_aload_n hK rfl 0 rfl dX1_length_0 ?_
  refine gf_X1_15 hK (by decide) rfl (v := (h 5) 1) rfl dX1_length_1 ?_
  refine TT_iret hK hQ ?_ dX1_length_4
  exact ⟨congrArg (fun z => some (vI z)) (by first | rfl | omega | (split <;> first | rfl | omega)), rfl⟩
set_option maxRecDepth 20000 in
theorem c_X1_has_5 (i : Int) (h : Hp_) (hi : ir_ i) (hL : 0 ≤ (h 5 1) ∧ (h 5 1) ≤ 1024) : Ctr yX1_has cX1_has 2 (some .boolean) (rmd 0) ly ly 0 0 [vR 5, vI i] h (fun r h' => r = some (vI (if 0 ≤ i ∧ i < (h 5 1) then 1 else 0)) ∧ h' = h) := by
  refine Ctr_of (by decide) (Nat.le_of_ble_eq_true rfl) ⟨Nat.le_refl _, Nat.le_refl _⟩ (fun K hK hQ _ => ?_)
  show TT K ly 0 0 0 [(0, vR 5), (1, vI i)] [] h
  refine TT_iload_n hK rfl 1 rfl dX1_has_0 ?_
  refine TT_if_lt hK (tgt := 16) (irm (by omega) (by omega)) dX1_has_1 (by decide) (fun hb1 => ?_) (fun hb1 => ?_)
  · refine TT_iconst hK dX1_has_16 ?_
    refine TT_zret hK hQ (by decide) ?_ dX1_has_17
    exact ⟨congrArg (fun z => some (vI z)) (by first | exact (if_pos (by omega)).symm | exact (if_neg (by omega)).symm | (split <;> first | rfl | omega)), rfl⟩
  · refine TT_iload_n hK rfl 1 rfl dX1_has_4 ?_
    refine TT_aload_n hK rfl 0 rfl dX1_has_5 ?_
    refine gf_X1_15 hK (by decide) rfl (v := (h 5) 1) rfl dX1_has_6 ?_
    refine TT_icmp_ge hK (tgt := 16) (irm (by omega) (by omega)) (irm (by omega) (by omega)) dX1_has_9 (by decide) (fun hb9 => ?_) (fun hb9 => ?_)
    · refine TT_iconst hK dX1_has_16 ?_
      refine TT_zret hK hQ (by decide) ?_ dX1_has_17
      exact ⟨congrArg (fun z => some (vI z)) (by first | exact (if_pos (by omega)).symm | exact (if_neg (by omega)).symm | (split <;> first | rfl | omega)), rfl⟩
    · refine TT_iconst hK dX1_has_12 ?_
      refine TT_goto hK (tgt := 17) dX1_has_13 (by decide) ?_
      refine TT_zret hK hQ (by decide) ?_ dX1_has_17
      exact ⟨congrArg (fun z => some (vI z)) (by first | exact (if_pos (by omega)).symm | exact (if_neg (by omega)).symm | (split <;> first | rfl | omega)), rfl⟩
set_option maxRecDepth 20000 in
theorem c_X1_at_5 (i : Int) (h : Hp_) (hi : ir_ i) (hL : 0 ≤ (h 5 1) ∧ (h 5 1) ≤ 1024) : Ctr yX1_at cX1_at 2 (some .int) (rmd 0) ly ly 0 0 [vR 5, vI i] h (fun r h' => r = some (vI (if 0 ≤ i ∧ i < (h 5 1) then (h 6) i else 255)) ∧ h' = h) := by
  refine Ctr_of (by decide) (Nat.le_of_ble_eq_true rfl) ⟨Nat.le_refl _, Nat.le_refl _⟩ (fun K hK hQ _ => ?_)
  show TT K ly 0 0 0 [(0, vR 5), (1, vI i)] [] h
  refine TT_iload_n hK rfl 1 rfl dX1_at_0 ?_
  refine TT_if_lt hK (tgt := 21) (irm (by omega) (by omega)) dX1_at_1 (by decide) (fun hb1 => ?_) (fun hb1 => ?_)
  · refine TT_sipush hK (by decide) dX1_at_21 ?_
    refine TT_iret hK hQ ?_ dX1_at_24
    exact ⟨congrArg (fun z => some (vI z)) (by first | exact (if_pos (by omega)).symm | exact (if_neg (by omega)).symm), rfl⟩
  · refine TT_iload_n hK rfl 1 rfl dX1_at_4 ?_
    refine TT_aload_n hK rfl 0 rfl dX1_at_5 ?_
    refine gf_X1_15 hK (by decide) rfl (v := (h 5) 1) rfl dX1_at_6 ?_
    refine TT_icmp_ge hK (tgt := 21) (irm (by omega) (by omega)) (irm (by omega) (by omega)) dX1_at_9 (by decide) (fun hb9 => ?_) (fun hb9 => ?_)
    · refine TT_sipush hK (by decide) dX1_at_21 ?_
      refine TT_iret hK hQ ?_ dX1_at_24
      exact ⟨congrArg (fun z => some (vI z)) (by first | exact (if_pos (by omega)).symm | exact (if_neg (by omega)).symm), rfl⟩
    · refine TT_aload_n hK rfl 0 rfl dX1_at_12 ?_
      refine gf_X1_9 hK (by decide) rfl (q := 6) rfl rfl dX1_at_13 ?_
      refine TT_iload_n hK rfl 1 rfl dX1_at_16 ?_
      refine TT_iald hK (o := 6) (n := 1024) (by decide) rfl (by first | omega | (simp [up, setR] <;> omega)) (by first | omega | (simp [up, setR] <;> omega)) (v := (h 6) i) rfl dX1_at_17 ?_
      refine TT_goto hK (tgt := 24) dX1_at_18 (by decide) ?_
      refine TT_iret hK hQ ?_ dX1_at_24
      exact ⟨congrArg (fun z => some (vI z)) (by first | exact (if_pos (by omega)).symm | exact (if_neg (by omega)).symm), rfl⟩
set_option maxRecDepth 20000 in
theorem c_X1_set_5 (i v : Int) (h : Hp_) (hi : 0 ≤ i ∧ i < (h 5 1)) (hL : 0 ≤ (h 5 1) ∧ (h 5 1) ≤ 1024) : Ctr yX1_set cX1_set 3 none (rmd 1) ly ly 0 0 [vR 5, vI i, vI v] h (fun r h' => r = none ∧ h' = setO h 6 (fup (h 6) i v)) := by
  refine Ctr_of (by decide) (Nat.le_of_ble_eq_true rfl) ⟨Nat.le_refl _, Nat.le_refl _⟩ (fun K hK hQ _ => ?_)
  show TT K ly 0 0 0 [(0, vR 5), (1, vI i), (2, vI v)] [] h
  refine TT_aload_n hK rfl 0 rfl dX1_set_0 ?_
  refine TT_iload_n hK rfl 1 rfl dX1_set_1 ?_
  refine iv_X1_22 hK (c_X1_has_5 i h (by first | omega | (simp [up, setR] <;> omega)) (by first | omega | (simp [up, setR] <;> omega))) (by decide) rfl ⟨by decide, by decide⟩ (by decide) rfl rfl (Nat.le_of_ble_eq_true rfl) ⟨by decide, by decide⟩ dX1_set_2 ?_
  intro r9 h9 hp9
  rw [hp9.1, hp9.2]
  by_cases hz2 : 0 ≤ i ∧ i < ((h 5) 1)
  · rw [if_pos hz2]
    show TT K ly 0 0 5 [(0, vR 5), (1, vI i), (2, vI v)] [vI 1] h
    refine TT_if_eq hK (tgt := 15) (by decide) dX1_set_5 (by decide) (fun hb5 => ?_) (fun hb5 => ?_)
    · exact absurd hb5 (by decide)
    · refine TT_aload_n hK rfl 0 rfl dX1_set_8 ?_
      refine gf_X1_9 hK (by decide) rfl (q := 6) rfl rfl dX1_set_9 ?_
      refine TT_iload_n hK rfl 1 rfl dX1_set_12 ?_
      refine TT_iload_n hK rfl 2 rfl dX1_set_13 ?_
      refine TT_iast hK (o := 6) (n := 1024) (by decide) rfl (by first | omega | (simp [up, setR] <;> omega)) (by first | omega | (simp [up, setR] <;> omega)) dX1_set_14 ?_
      refine TT_hp (h' := setO h 6 (fup (h 6) i v)) (up_can rfl rfl rfl) ?_
      refine TT_vret hK hQ ?_ dX1_set_15
      exact ⟨rfl, rfl⟩
  · rw [if_neg hz2]
    exact absurd hi hz2
set_option maxRecDepth 20000 in
theorem c_X11_isSide (n : Int) (h : Hp_) (irn : ir_ n) : Ctr yX11_isSide cX11_isSide 1 (some .boolean) (rmd 0) ly ly 0 0 [vI n] h (fun r h' => r = some (vI (if 1 ≤ n ∧ n ≤ 8 then 1 else 0)) ∧ h' = h) := by
  refine Ctr_of (by decide) (Nat.le_of_ble_eq_true rfl) ⟨Nat.le_refl _, Nat.le_refl _⟩ (fun K hK hQ _ => ?_)
  show TT K ly 0 0 0 [(0, vI n)] [] h
  refine TT_iload_n hK rfl 0 rfl dX11_isSide_0 ?_
  refine TT_iconst hK dX11_isSide_1 ?_
  refine TT_icmp_lt hK (tgt := 15) (irm (by omega) (by omega)) (by decide) dX11_isSide_2 (by decide) (fun hb2 => ?_) (fun hb2 => ?_)
  · refine TT_iconst hK dX11_isSide_15 ?_
    refine TT_zret hK hQ (by decide) ?_ dX11_isSide_16
    exact ⟨congrArg (fun z => some (vI z)) (by first | exact (if_pos (by omega)).symm | exact (if_neg (by omega)).symm | (split <;> first | rfl | omega)), rfl⟩
  · refine TT_iload_n hK rfl 0 rfl dX11_isSide_5 ?_
    refine TT_bipush hK (by decide) dX11_isSide_6 ?_
    refine TT_icmp_gt hK (tgt := 15) (irm (by omega) (by omega)) (by decide) dX11_isSide_8 (by decide) (fun hb8 => ?_) (fun hb8 => ?_)
    · refine TT_iconst hK dX11_isSide_15 ?_
      refine TT_zret hK hQ (by decide) ?_ dX11_isSide_16
      exact ⟨congrArg (fun z => some (vI z)) (by first | exact (if_pos (by omega)).symm | exact (if_neg (by omega)).symm | (split <;> first | rfl | omega)), rfl⟩
    · refine TT_iconst hK dX11_isSide_11 ?_
      refine TT_goto hK (tgt := 16) dX11_isSide_12 (by decide) ?_
      refine TT_zret hK hQ (by decide) ?_ dX11_isSide_16
      exact ⟨congrArg (fun z => some (vI z)) (by first | exact (if_pos (by omega)).symm | exact (if_neg (by omega)).symm | (split <;> first | rfl | omega)), rfl⟩
set_option maxRecDepth 20000 in
theorem c_X11_areLevels (n : Int) (h : Hp_) (irn : ir_ n) : Ctr yX11_areLevels cX11_areLevels 1 (some .boolean) (rmd 0) ly ly 0 0 [vI n] h (fun r h' => r = some (vI (if 0 ≤ n ∧ n ≤ 3 then 1 else 0)) ∧ h' = h) := by
  refine Ctr_of (by decide) (Nat.le_of_ble_eq_true rfl) ⟨Nat.le_refl _, Nat.le_refl _⟩ (fun K hK hQ _ => ?_)
  show TT K ly 0 0 0 [(0, vI n)] [] h
  refine TT_iload_n hK rfl 0 rfl dX11_areLevels_0 ?_
  refine TT_if_lt hK (tgt := 13) (irm (by omega) (by omega)) dX11_areLevels_1 (by decide) (fun hb1 => ?_) (fun hb1 => ?_)
  · refine TT_iconst hK dX11_areLevels_13 ?_
    refine TT_zret hK hQ (by decide) ?_ dX11_areLevels_14
    exact ⟨congrArg (fun z => some (vI z)) (by first | exact (if_pos (by omega)).symm | exact (if_neg (by omega)).symm | (split <;> first | rfl | omega)), rfl⟩
  · refine TT_iload_n hK rfl 0 rfl dX11_areLevels_4 ?_
    refine TT_iconst hK dX11_areLevels_5 ?_
    refine TT_icmp_gt hK (tgt := 13) (irm (by omega) (by omega)) (by decide) dX11_areLevels_6 (by decide) (fun hb6 => ?_) (fun hb6 => ?_)
    · refine TT_iconst hK dX11_areLevels_13 ?_
      refine TT_zret hK hQ (by decide) ?_ dX11_areLevels_14
      exact ⟨congrArg (fun z => some (vI z)) (by first | exact (if_pos (by omega)).symm | exact (if_neg (by omega)).symm | (split <;> first | rfl | omega)), rfl⟩
    · refine TT_iconst hK dX11_areLevels_9 ?_
      refine TT_goto hK (tgt := 14) dX11_areLevels_10 (by decide) ?_
      refine TT_zret hK hQ (by decide) ?_ dX11_areLevels_14
      exact ⟨congrArg (fun z => some (vI z)) (by first | exact (if_pos (by omega)).symm | exact (if_neg (by omega)).symm | (split <;> first | rfl | omega)), rfl⟩
set_option maxRecDepth 20000 in
theorem c_X11_areLayers (n : Int) (h : Hp_) (irn : ir_ n) : Ctr yX11_areLayers cX11_areLayers 1 (some .boolean) (rmd 0) ly ly 0 0 [vI n] h (fun r h' => r = some (vI (if 1 ≤ n ∧ n ≤ 3 then 1 else 0)) ∧ h' = h) := by
  refine Ctr_of (by decide) (Nat.le_of_ble_eq_true rfl) ⟨Nat.le_refl _, Nat.le_refl _⟩ (fun K hK hQ _ => ?_)
  show TT K ly 0 0 0 [(0, vI n)] [] h
  refine TT_iload_n hK rfl 0 rfl dX11_areLayers_0 ?_
  refine TT_iconst hK dX11_areLayers_1 ?_
  refine TT_icmp_lt hK (tgt := 14) (irm (by omega) (by omega)) (by decide) dX11_areLayers_2 (by decide) (fun hb2 => ?_) (fun hb2 => ?_)
  · refine TT_iconst hK dX11_areLayers_14 ?_
    refine TT_zret hK hQ (by decide) ?_ dX11_areLayers_15
    exact ⟨congrArg (fun z => some (vI z)) (by first | exact (if_pos (by omega)).symm | exact (if_neg (by omega)).symm | (split <;> first | rfl | omega)), rfl⟩
  · refine TT_iload_n hK rfl 0 rfl dX11_areLayers_5 ?_
    refine TT_iconst hK dX11_areLayers_6 ?_
    refine TT_icmp_gt hK (tgt := 14) (irm (by omega) (by omega)) (by decide) dX11_areLayers_7 (by decide) (fun hb7 => ?_) (fun hb7 => ?_)
    · refine TT_iconst hK dX11_areLayers_14 ?_
      refine TT_zret hK hQ (by decide) ?_ dX11_areLayers_15
      exact ⟨congrArg (fun z => some (vI z)) (by first | exact (if_pos (by omega)).symm | exact (if_neg (by omega)).symm | (split <;> first | rfl | omega)), rfl⟩
    · refine TT_iconst hK dX11_areLayers_10 ?_
      refine TT_goto hK (tgt := 15) dX11_areLayers_11 (by decide) ?_
      refine TT_zret hK hQ (by decide) ?_ dX11_areLayers_15
      exact ⟨congrArg (fun z => some (vI z)) (by first | exact (if_pos (by omega)).symm | exact (if_neg (by omega)).symm | (split <;> first | rfl | omega)), rfl⟩
set_option maxRecDepth 20000 in
theorem c_X11_picture_v (a b : Int) (h : Hp_) (ira : ir_ a) (irb : ir_ b) (hV : (1 ≤ a ∧ a ≤ 8) ∧ (1 ≤ b ∧ b ≤ 8)) : Ctr yX11_picture cX11_picture 3 none (rmd 3) ly ly 0 0 [vR 0, vI a, vI b] h (fun r h' => r = none ∧ h' = setO (setO h 1 (fup (fup (h 1) 1 a) 2 b)) 2 (fsr (h 2) 0 64 (fun _ => 0))) := by
  refine Ctr_of (by decide) (Nat.le_of_ble_eq_true rfl) ⟨Nat.le_refl _, Nat.le_refl _⟩ (fun K hK hQ _ => ?_)
  show TT K ly 0 0 0 [(0, vR 0), (1, vI a), (2, vI b)] [] h
  refine TT_iload_n hK rfl 1 rfl dX11_picture_0 ?_
  refine iv_X11_44 hK (c_X11_isSide a h (by first | omega | (simp [up, setR] <;> omega))) ⟨by decide, by decide⟩ (by decide) rfl rfl (Nat.le_of_ble_eq_true rfl) ⟨by decide, by decide⟩ dX11_picture_1 ?_
  intro r9 h9 hp9
  rw [hp9.1, hp9.2]
  by_cases hz1 : 1 ≤ a ∧ a ≤ 8
  · rw [if_pos hz1]
    show TT K ly 0 0 4 [(0, vR 0), (1, vI a), (2, vI b)] [vI 1] h
    refine TT_if_eq hK (tgt := 14) (by decide) dX11_picture_4 (by decide) (fun hb4 => ?_) (fun hb4 => ?_)
    · exact absurd hb4 (by decide)
    · refine TT_iload_n hK rfl 2 rfl dX11_picture_7 ?_
      refine iv_X11_44 hK (c_X11_isSide b h (by first | omega | (simp [up, setR] <;> omega))) ⟨by decide, by decide⟩ (by decide) rfl rfl (Nat.le_of_ble_eq_true rfl) ⟨by decide, by decide⟩ dX11_picture_8 ?_
      intro r9 h9 hp9
      rw [hp9.1, hp9.2]
      by_cases hz8 : 1 ≤ b ∧ b ≤ 8
      · rw [if_pos hz8]
        show TT K ly 0 0 11 [(0, vR 0), (1, vI a), (2, vI b)] [vI 1] h
        refine TT_if_ne hK (tgt := 24) (by decide) dX11_picture_11 (by decide) (fun hb11 => ?_) (fun hb11 => ?_)
        · refine TT_aload_n hK rfl 0 rfl dX11_picture_24 ?_
          refine gf_X11_10 hK (by decide) rfl (q := 1) rfl rfl dX11_picture_25 ?_
          refine TT_iload_n hK rfl 1 rfl dX11_picture_28 ?_
          refine TT_iload_n hK rfl 2 rfl dX11_picture_29 ?_
          refine iv_X11_40 hK (c_X5_begin_1 a b h ) (by decide) rfl ⟨by decide, by decide⟩ (by decide) rfl rfl (Nat.le_of_ble_eq_true rfl) ⟨by decide, by decide⟩ dX11_picture_30 ?_
          intro r9 h9 hp9
          rw [hp9.1, hp9.2]
          show TT K ly 0 0 33 [(0, vR 0), (1, vI a), (2, vI b)] [] (setO (setO h 1 (fup (fup (h 1) 1 a) 2 b)) 2 (fsr (h 2) 0 64 (fun _ => 0)))
          refine TT_vret hK hQ ?_ dX11_picture_33
          exact ⟨rfl, rfl⟩
        · exact absurd hb11 (by decide)
      · rw [if_neg hz8]
        show TT K ly 0 0 11 [(0, vR 0), (1, vI a), (2, vI b)] [vI 0] h
        refine TT_if_ne hK (tgt := 24) (by decide) dX11_picture_11 (by decide) (fun hb11 => ?_) (fun hb11 => ?_)
        · exact absurd hb11 (by decide)
        · exfalso; omega
  · rw [if_neg hz1]
    show TT K ly 0 0 4 [(0, vR 0), (1, vI a), (2, vI b)] [vI 0] h
    refine TT_if_eq hK (tgt := 14) (by decide) dX11_picture_4 (by decide) (fun hb4 => ?_) (fun hb4 => ?_)
    · exfalso; omega
    · exact absurd hb4 (by decide)
set_option maxRecDepth 20000 in
theorem c_X11_picture_t (a b : Int) (h : Hp_) (ira : ir_ a) (irb : ir_ b) (hV : ¬((1 ≤ a ∧ a ≤ 8) ∧ (1 ≤ b ∧ b ≤ 8))) : CtrX yX11_picture cX11_picture 3 none rmx ly 1 6 [vR 0, vI a, vI b] h (fun h' => h' = h) := by
  refine CtrX_of (by decide) (Nat.le_of_ble_eq_true rfl) ⟨by decide, by decide⟩ (fun K hK hX => ?_)
  show TT K ly 0 0 0 [(0, vR 0), (1, vI a), (2, vI b)] [] h
  refine TT_iload_n hK rfl 1 rfl dX11_picture_0 ?_
  refine iv_X11_44 hK (c_X11_isSide a h (by first | omega | (simp [up, setR] <;> omega))) ⟨by decide, by decide⟩ (by decide) rfl rfl (Nat.le_of_ble_eq_true rfl) ⟨by decide, by decide⟩ dX11_picture_1 ?_
  intro r9 h9 hp9
  rw [hp9.1, hp9.2]
  by_cases hz1 : 1 ≤ a ∧ a ≤ 8
  · rw [if_pos hz1]
    show TT K ly 0 0 4 [(0, vR 0), (1, vI a), (2, vI b)] [vI 1] h
    refine TT_if_eq hK (tgt := 14) (by decide) dX11_picture_4 (by decide) (fun hb4 => ?_) (fun hb4 => ?_)
    · exact absurd hb4 (by decide)
    · refine TT_iload_n hK rfl 2 rfl dX11_picture_7 ?_
      refine iv_X11_44 hK (c_X11_isSide b h (by first | omega | (simp [up, setR] <;> omega))) ⟨by decide, by decide⟩ (by decide) rfl rfl (Nat.le_of_ble_eq_true rfl) ⟨by decide, by decide⟩ dX11_picture_8 ?_
      intro r9 h9 hp9
      rw [hp9.1, hp9.2]
      by_cases hz8 : 1 ≤ b ∧ b ≤ 8
      · rw [if_pos hz8]
        show TT K ly 0 0 11 [(0, vR 0), (1, vI a), (2, vI b)] [vI 1] h
        refine TT_if_ne hK (tgt := 24) (by decide) dX11_picture_11 (by decide) (fun hb11 => ?_) (fun hb11 => ?_)
        · exfalso; omega
        · exact absurd hb11 (by decide)
      · rw [if_neg hz8]
        show TT K ly 0 0 11 [(0, vR 0), (1, vI a), (2, vI b)] [vI 0] h
        refine TT_if_ne hK (tgt := 24) (by decide) dX11_picture_11 (by decide) (fun hb11 => ?_) (fun hb11 => ?_)
        · exact absurd hb11 (by decide)
        · exact TT_throw hK hX 0 (by decide) rfl (Nat.le_of_ble_eq_true rfl) ⟨by decide, by decide⟩ dX11_picture_14 dX11_picture_17 dX11_picture_18 dX11_picture_20 dX11_picture_23
  · rw [if_neg hz1]
    show TT K ly 0 0 4 [(0, vR 0), (1, vI a), (2, vI b)] [vI 0] h
    refine TT_if_eq hK (tgt := 14) (by decide) dX11_picture_4 (by decide) (fun hb4 => ?_) (fun hb4 => ?_)
    · exact TT_throw hK hX 0 (by decide) rfl (Nat.le_of_ble_eq_true rfl) ⟨by decide, by decide⟩ dX11_picture_14 dX11_picture_17 dX11_picture_18 dX11_picture_20 dX11_picture_23
    · exact absurd hb4 (by decide)
set_option maxRecDepth 20000 in
theorem c_X11_paint_v (x y v : Int) (h : Hp_) (irx : ir_ x) (iry : ir_ y) (irv : ir_ v) (hw1 : 0 ≤ (h 1 1) ∧ (h 1 1) ≤ 8) (hw2 : 0 ≤ (h 1 2) ∧ (h 1 2) ≤ 8) (hP : ((0 ≤ x ∧ x < (h 1 1)) ∧ (0 ≤ y ∧ y < (h 1 2)))) (hv : 0 ≤ v ∧ v ≤ 255) : Ctr yX11_paint cX11_paint 4 none (rmd 3) ly ly 0 0 [vR 0, vI x, vI y, vI v] h (fun r h' => r = none ∧ h' = setO h 2 (fup (h 2) ((y * 8) + x) v)) := by
  refine Ctr_of (by decide) (Nat.le_of_ble_eq_true rfl) ⟨Nat.le_refl _, Nat.le_refl _⟩ (fun K hK hQ _ => ?_)
  show TT K ly 0 0 0 [(0, vR 0), (1, vI x), (2, vI y), (3, vI v)] [] h
  refine TT_aload_n hK rfl 0 rfl dX11_paint_0 ?_
  refine gf_X11_10 hK (by decide) rfl (q := 1) rfl rfl dX11_paint_1 ?_
  refine TT_iload_n hK rfl 1 rfl dX11_paint_4 ?_
  refine TT_iload_n hK rfl 2 rfl dX11_paint_5 ?_
  refine iv_X11_55 hK (c_X5_has_1 x y h (by first | omega | (simp [up, setR] <;> omega)) (by first | omega | (simp [up, setR] <;> omega)) (by first | omega | (simp [up, setR] <;> omega)) (by first | omega | (simp [up, setR] <;> omega))) (by decide) rfl ⟨by decide, by decide⟩ (by decide) rfl rfl (Nat.le_of_ble_eq_true rfl) ⟨by decide, by decide⟩ dX11_paint_6 ?_
  intro r9 h9 hp9
  rw [hp9.1, hp9.2]
  by_cases hz6 : (0 ≤ x ∧ x < ((h 1) 1)) ∧ (0 ≤ y ∧ y < ((h 1) 2))
  · rw [if_pos hz6]
    show TT K ly 0 0 9 [(0, vR 0), (1, vI x), (2, vI y), (3, vI v)] [vI 1] h
    refine TT_if_eq hK (tgt := 23) (by decide) dX11_paint_9 (by decide) (fun hb9 => ?_) (fun hb9 => ?_)
    · exact absurd hb9 (by decide)
    · refine TT_iload_n hK rfl 3 rfl dX11_paint_12 ?_
      refine TT_if_lt hK (tgt := 23) (irm (by omega) (by omega)) dX11_paint_13 (by decide) (fun hb13 => ?_) (fun hb13 => ?_)
      · exfalso; omega
      · refine TT_iload_n hK rfl 3 rfl dX11_paint_16 ?_
        refine TT_sipush hK (by decide) dX11_paint_17 ?_
        refine TT_icmp_le hK (tgt := 33) (irm (by omega) (by omega)) (by decide) dX11_paint_20 (by decide) (fun hb20 => ?_) (fun hb20 => ?_)
        · refine TT_aload_n hK rfl 0 rfl dX11_paint_33 ?_
          refine gf_X11_10 hK (by decide) rfl (q := 1) rfl rfl dX11_paint_34 ?_
          refine TT_iload_n hK rfl 1 rfl dX11_paint_37 ?_
          refine TT_iload_n hK rfl 2 rfl dX11_paint_38 ?_
          refine TT_iload_n hK rfl 3 rfl dX11_paint_39 ?_
          refine iv_X11_61 hK (c_X5_set_1 x y v h (by exact hP.1) (by exact hP.2) (by first | omega | (simp [up, setR] <;> omega)) (by first | omega | (simp [up, setR] <;> omega))) (by decide) rfl ⟨by decide, by decide⟩ (by decide) rfl rfl (Nat.le_of_ble_eq_true rfl) ⟨by decide, by decide⟩ dX11_paint_40 ?_
          intro r9 h9 hp9
          rw [hp9.1, hp9.2]
          show TT K ly 0 0 43 [(0, vR 0), (1, vI x), (2, vI y), (3, vI v)] [] (setO h 2 (fup (h 2) ((y * 8) + x) v))
          refine TT_vret hK hQ ?_ dX11_paint_43
          exact ⟨rfl, rfl⟩
        · exfalso; omega
  · rw [if_neg hz6]
    exact absurd hP hz6
set_option maxRecDepth 20000 in
theorem c_X11_paint_t (x y v : Int) (h : Hp_) (irx : ir_ x) (iry : ir_ y) (irv : ir_ v) (hw1 : 0 ≤ (h 1 1) ∧ (h 1 1) ≤ 8) (hw2 : 0 ≤ (h 1 2) ∧ (h 1 2) ≤ 8) (hV : ¬(((0 ≤ x ∧ x < (h 1 1)) ∧ (0 ≤ y ∧ y < (h 1 2))) ∧ (0 ≤ v ∧ v ≤ 255))) : CtrX yX11_paint cX11_paint 4 none rmx ly 1 6 [vR 0, vI x, vI y, vI v] h (fun h' => h' = h) := by
  refine CtrX_of (by decide) (Nat.le_of_ble_eq_true rfl) ⟨by decide, by decide⟩ (fun K hK hX => ?_)
  show TT K ly 0 0 0 [(0, vR 0), (1, vI x), (2, vI y), (3, vI v)] [] h
  refine TT_aload_n hK rfl 0 rfl dX11_paint_0 ?_
  refine gf_X11_10 hK (by decide) rfl (q := 1) rfl rfl dX11_paint_1 ?_
  refine TT_iload_n hK rfl 1 rfl dX11_paint_4 ?_
  refine TT_iload_n hK rfl 2 rfl dX11_paint_5 ?_
  refine iv_X11_55 hK (c_X5_has_1 x y h (by first | omega | (simp [up, setR] <;> omega)) (by first | omega | (simp [up, setR] <;> omega)) (by first | omega | (simp [up, setR] <;> omega)) (by first | omega | (simp [up, setR] <;> omega))) (by decide) rfl ⟨by decide, by decide⟩ (by decide) rfl rfl (Nat.le_of_ble_eq_true rfl) ⟨by decide, by decide⟩ dX11_paint_6 ?_
  intro r9 h9 hp9
  rw [hp9.1, hp9.2]
  by_cases hz6 : (0 ≤ x ∧ x < ((h 1) 1)) ∧ (0 ≤ y ∧ y < ((h 1) 2))
  · rw [if_pos hz6]
    show TT K ly 0 0 9 [(0, vR 0), (1, vI x), (2, vI y), (3, vI v)] [vI 1] h
    refine TT_if_eq hK (tgt := 23) (by decide) dX11_paint_9 (by decide) (fun hb9 => ?_) (fun hb9 => ?_)
    · exact absurd hb9 (by decide)
    · refine TT_iload_n hK rfl 3 rfl dX11_paint_12 ?_
      refine TT_if_lt hK (tgt := 23) (irm (by omega) (by omega)) dX11_paint_13 (by decide) (fun hb13 => ?_) (fun hb13 => ?_)
      · exact TT_throw hK hX 1 (by decide) rfl (Nat.le_of_ble_eq_true rfl) ⟨by decide, by decide⟩ dX11_paint_23 dX11_paint_26 dX11_paint_27 dX11_paint_29 dX11_paint_32
      · refine TT_iload_n hK rfl 3 rfl dX11_paint_16 ?_
        refine TT_sipush hK (by decide) dX11_paint_17 ?_
        refine TT_icmp_le hK (tgt := 33) (irm (by omega) (by omega)) (by decide) dX11_paint_20 (by decide) (fun hb20 => ?_) (fun hb20 => ?_)
        · exfalso; omega
        · exact TT_throw hK hX 1 (by decide) rfl (Nat.le_of_ble_eq_true rfl) ⟨by decide, by decide⟩ dX11_paint_23 dX11_paint_26 dX11_paint_27 dX11_paint_29 dX11_paint_32
  · rw [if_neg hz6]
    show TT K ly 0 0 9 [(0, vR 0), (1, vI x), (2, vI y), (3, vI v)] [vI 0] h
    refine TT_if_eq hK (tgt := 23) (by decide) dX11_paint_9 (by decide) (fun hb9 => ?_) (fun hb9 => ?_)
    · exact TT_throw hK hX 1 (by decide) rfl (Nat.le_of_ble_eq_true rfl) ⟨by decide, by decide⟩ dX11_paint_23 dX11_paint_26 dX11_paint_27 dX11_paint_29 dX11_paint_32
    · exact absurd hb9 (by decide)
set_option maxRecDepth 20000 in
theorem c_X11_encode_t (a b : Int) (h : Hp_) (ira : ir_ a) (irb : ir_ b) (hV : ¬((0 ≤ a ∧ a ≤ 3) ∧ (1 ≤ b ∧ b ≤ 3))) : CtrX yX11_encode cX11_encode 3 (some .int) rmx ly 1 6 [vR 0, vI a, vI b] h (fun h' => h' = h) := by
  refine CtrX_of (by decide) (Nat.le_of_ble_eq_true rfl) ⟨by decide, by decide⟩ (fun K hK hX => ?_)
  show TT K ly 0 0 0 [(0, vR 0), (1, vI a), (2, vI b)] [] h
  refine TT_iload_n hK rfl 1 rfl dX11_encode_0 ?_
  refine iv_X11_69 hK (c_X11_areLevels a h (by first | omega | (simp [up, setR] <;> omega))) ⟨by decide, by decide⟩ (by decide) rfl rfl (Nat.le_of_ble_eq_true rfl) ⟨by decide, by decide⟩ dX11_encode_1 ?_
  intro r9 h9 hp9
  rw [hp9.1, hp9.2]
  by_cases hz1 : 0 ≤ a ∧ a ≤ 3
  · rw [if_pos hz1]
    show TT K ly 0 0 4 [(0, vR 0), (1, vI a), (2, vI b)] [vI 1] h
    refine TT_if_eq hK (tgt := 14) (by decide) dX11_encode_4 (by decide) (fun hb4 => ?_) (fun hb4 => ?_)
    · exact absurd hb4 (by decide)
    · refine TT_iload_n hK rfl 2 rfl dX11_encode_7 ?_
      refine iv_X11_72 hK (c_X11_areLayers b h (by first | omega | (simp [up, setR] <;> omega))) ⟨by decide, by decide⟩ (by decide) rfl rfl (Nat.le_of_ble_eq_true rfl) ⟨by decide, by decide⟩ dX11_encode_8 ?_
      intro r9 h9 hp9
      rw [hp9.1, hp9.2]
      by_cases hz8 : 1 ≤ b ∧ b ≤ 3
      · rw [if_pos hz8]
        show TT K ly 0 0 11 [(0, vR 0), (1, vI a), (2, vI b)] [vI 1] h
        refine TT_if_ne hK (tgt := 24) (by decide) dX11_encode_11 (by decide) (fun hb11 => ?_) (fun hb11 => ?_)
        · exfalso; omega
        · exact absurd hb11 (by decide)
      · rw [if_neg hz8]
        show TT K ly 0 0 11 [(0, vR 0), (1, vI a), (2, vI b)] [vI 0] h
        refine TT_if_ne hK (tgt := 24) (by decide) dX11_encode_11 (by decide) (fun hb11 => ?_) (fun hb11 => ?_)
        · exact absurd hb11 (by decide)
        · exact TT_throw hK hX 2 (by decide) rfl (Nat.le_of_ble_eq_true rfl) ⟨by decide, by decide⟩ dX11_encode_14 dX11_encode_17 dX11_encode_18 dX11_encode_20 dX11_encode_23
  · rw [if_neg hz1]
    show TT K ly 0 0 4 [(0, vR 0), (1, vI a), (2, vI b)] [vI 0] h
    refine TT_if_eq hK (tgt := 14) (by decide) dX11_encode_4 (by decide) (fun hb4 => ?_) (fun hb4 => ?_)
    · exact TT_throw hK hX 2 (by decide) rfl (Nat.le_of_ble_eq_true rfl) ⟨by decide, by decide⟩ dX11_encode_14 dX11_encode_17 dX11_encode_18 dX11_encode_20 dX11_encode_23
    · exact absurd hb4 (by decide)
set_option maxRecDepth 20000 in
theorem c_X11_decode_t (n : Int) (h : Hp_) (irn : ir_ n) (hl : (h 5 1) = 0) : CtrX yX11_decode cX11_decode 3 (some .int) rmx ly 1 6 [vR 0, vI n] h (fun h' => h' = h) := by
  refine CtrX_of (by decide) (Nat.le_of_ble_eq_true rfl) ⟨by decide, by decide⟩ (fun K hK hX => ?_)
  show TT K ly 0 0 0 [(0, vR 0), (1, vI n)] [] h
  refine TT_iload_n hK rfl 1 rfl dX11_decode_0 ?_
  refine TT_iconst hK dX11_decode_1 ?_
  refine TT_icmp_lt hK (tgt := 16) (irm (by omega) (by omega)) (by decide) dX11_decode_2 (by decide) (fun hb2 => ?_) (fun hb2 => ?_)
  · exact TT_throw hK hX 3 (by decide) rfl (Nat.le_of_ble_eq_true rfl) ⟨by decide, by decide⟩ dX11_decode_16 dX11_decode_19 dX11_decode_20 dX11_decode_22 dX11_decode_25
  · refine TT_iload_n hK rfl 1 rfl dX11_decode_5 ?_
    refine TT_aload_n hK rfl 0 rfl dX11_decode_6 ?_
    refine gf_X11_22 hK (by decide) rfl (q := 5) rfl rfl dX11_decode_7 ?_
    refine iv_X11_81 hK (c_X1_length_5 h ) (by decide) rfl ⟨by decide, by decide⟩ (by decide) rfl rfl (Nat.le_of_ble_eq_true rfl) ⟨by decide, by decide⟩ dX11_decode_10 ?_
    intro r9 h9 hp9
    rw [hp9.1, hp9.2]
    show TT K ly 0 0 13 [(0, vR 0), (1, vI n)] [vI ((h 5) 1), vI n] h
    refine TT_icmp_le hK (tgt := 26) (irm (by omega) (by omega)) (irm (by omega) (by omega)) dX11_decode_13 (by decide) (fun hb13 => ?_) (fun hb13 => ?_)
    · exfalso; omega
    · exact TT_throw hK hX 3 (by decide) rfl (Nat.le_of_ble_eq_true rfl) ⟨by decide, by decide⟩ dX11_decode_16 dX11_decode_19 dX11_decode_20 dX11_decode_22 dX11_decode_25
set_option maxRecDepth 20000 in
theorem c_X11_pixel_0 (x y : Int) (h : Hp_) (irx : ir_ x) (iry : ir_ y) (hw1 : 0 ≤ (h 1 1) ∧ (h 1 1) ≤ 8) (hw2 : 0 ≤ (h 1 2) ∧ (h 1 2) ≤ 8) : Ctr yX11_pixel cX11_pixel 3 (some .int) (rmd 2) ly ly 0 0 [vR 0, vI x, vI y] h (fun r h' => r = some (vI (if (0 ≤ x ∧ x < (h 1 1)) ∧ (0 ≤ y ∧ y < (h 1 2)) then (h 2) (y * 8 + x) else -100000)) ∧ h' = h) := by
  refine Ctr_of (by decide) (Nat.le_of_ble_eq_true rfl) ⟨Nat.le_refl _, Nat.le_refl _⟩ (fun K hK hQ _ => ?_)
  show TT K ly 0 0 0 [(0, vR 0), (1, vI x), (2, vI y)] [] h
  refine TT_aload_n hK rfl 0 rfl dX11_pixel_0 ?_
  refine gf_X11_10 hK (by decide) rfl (q := 1) rfl rfl dX11_pixel_1 ?_
  refine TT_iload_n hK rfl 1 rfl dX11_pixel_4 ?_
  refine TT_iload_n hK rfl 2 rfl dX11_pixel_5 ?_
  refine iv_X11_65 hK (c_X5_at_1 x y h (by first | omega | (simp [up, setR] <;> omega)) (by first | omega | (simp [up, setR] <;> omega)) (by first | omega | (simp [up, setR] <;> omega)) (by first | omega | (simp [up, setR] <;> omega))) (by decide) rfl ⟨by decide, by decide⟩ (by decide) rfl rfl (Nat.le_of_ble_eq_true rfl) ⟨by decide, by decide⟩ dX11_pixel_6 ?_
  intro r9 h9 hp9
  rw [hp9.1, hp9.2]
  show TT K ly 0 0 9 [(0, vR 0), (1, vI x), (2, vI y)] [vI (if (0 ≤ x ∧ x < ((h 1) 1)) ∧ (0 ≤ y ∧ y < ((h 1) 2)) then (h 2) (y * 8 + x) else -100000)] h
  refine TT_iret hK hQ ?_ dX11_pixel_9
  exact ⟨congrArg (fun z => some (vI z)) (by first | rfl | omega | (split <;> first | rfl | omega)), rfl⟩
set_option maxRecDepth 20000 in
theorem c_X11_decoded_0 (x y : Int) (h : Hp_) (irx : ir_ x) (iry : ir_ y) (hw1 : (h 3 1) = 0) (hw2 : (h 3 2) = 0) : Ctr yX11_decoded cX11_decoded 3 (some .int) (rmd 2) ly ly 0 0 [vR 0, vI x, vI y] h (fun r h' => r = some (vI (-100000)) ∧ h' = h) := by
  refine Ctr_of (by decide) (Nat.le_of_ble_eq_true rfl) ⟨Nat.le_refl _, Nat.le_refl _⟩ (fun K hK hQ _ => ?_)
  show TT K ly 0 0 0 [(0, vR 0), (1, vI x), (2, vI y)] [] h
  refine TT_aload_n hK rfl 0 rfl dX11_decoded_0 ?_
  refine gf_X11_16 hK (by decide) rfl (q := 3) rfl rfl dX11_decoded_1 ?_
  refine TT_iload_n hK rfl 1 rfl dX11_decoded_4 ?_
  refine TT_iload_n hK rfl 2 rfl dX11_decoded_5 ?_
  refine iv_X11_65 hK (c_X5_at_3 x y h (by first | omega | (simp [up, setR] <;> omega)) (by first | omega | (simp [up, setR] <;> omega)) (by first | omega | (simp [up, setR] <;> omega)) (by first | omega | (simp [up, setR] <;> omega))) (by decide) rfl ⟨by decide, by decide⟩ (by decide) rfl rfl (Nat.le_of_ble_eq_true rfl) ⟨by decide, by decide⟩ dX11_decoded_6 ?_
  intro r9 h9 hp9
  rw [hp9.1, hp9.2]
  show TT K ly 0 0 9 [(0, vR 0), (1, vI x), (2, vI y)] [vI (if (0 ≤ x ∧ x < ((h 3) 1)) ∧ (0 ≤ y ∧ y < ((h 3) 2)) then (h 4) (y * 8 + x) else -100000)] h
  refine TT_iret hK hQ ?_ dX11_decoded_9
  exact ⟨congrArg (fun z => some (vI z)) (by exact if_neg (by omega)), rfl⟩
set_option maxRecDepth 20000 in
theorem c_X11_stream_0 (i : Int) (h : Hp_) (iri : ir_ i) (hl : (h 5 1) = 0) : Ctr yX11_stream cX11_stream 2 (some .int) (rmd 1) ly ly 0 0 [vR 0, vI i] h (fun r h' => r = some (vI (-100000)) ∧ h' = h) := by
  refine Ctr_of (by decide) (Nat.le_of_ble_eq_true rfl) ⟨Nat.le_refl _, Nat.le_refl _⟩ (fun K hK hQ _ => ?_)
  show TT K ly 0 0 0 [(0, vR 0), (1, vI i)] [] h
  refine TT_aload_n hK rfl 0 rfl dX11_stream_0 ?_
  refine gf_X11_22 hK (by decide) rfl (q := 5) rfl rfl dX11_stream_1 ?_
  refine TT_iload_n hK rfl 1 rfl dX11_stream_4 ?_
  refine iv_X11_85 hK (c_X1_has_5 i h (by first | omega | (simp [up, setR] <;> omega)) (by first | omega | (simp [up, setR] <;> omega))) (by decide) rfl ⟨by decide, by decide⟩ (by decide) rfl rfl (Nat.le_of_ble_eq_true rfl) ⟨by decide, by decide⟩ dX11_stream_5 ?_
  intro r9 h9 hp9
  rw [hp9.1, hp9.2]
  by_cases hz5 : 0 ≤ i ∧ i < ((h 5) 1)
  · rw [if_pos hz5]
    exfalso; omega
  · rw [if_neg hz5]
    show TT K ly 0 0 8 [(0, vR 0), (1, vI i)] [vI 0] h
    refine TT_if_eq hK (tgt := 22) (by decide) dX11_stream_8 (by decide) (fun hb8 => ?_) (fun hb8 => ?_)
    · refine TT_ldc hK lc_X11_90 dX11_stream_22 ?_
      refine TT_iret hK hQ ?_ dX11_stream_24
      exact ⟨congrArg (fun z => some (vI z)) (by rfl), rfl⟩
    · exact absurd hb8 (by decide)
set_option maxRecDepth 20000 in
theorem c_X11_poke_0 (i b : Int) (h : Hp_) (iri : ir_ i) (irb : ir_ b) (hl : (h 5 1) = 0) : Ctr yX11_poke cX11_poke 3 (some .boolean) (rmd 1) ly ly 0 0 [vR 0, vI i, vI b] h (fun r h' => r = some (vI (0)) ∧ h' = h) := by
  refine Ctr_of (by decide) (Nat.le_of_ble_eq_true rfl) ⟨Nat.le_refl _, Nat.le_refl _⟩ (fun K hK hQ _ => ?_)
  show TT K ly 0 0 0 [(0, vR 0), (1, vI i), (2, vI b)] [] h
  refine TT_aload_n hK rfl 0 rfl dX11_poke_0 ?_
  refine gf_X11_22 hK (by decide) rfl (q := 5) rfl rfl dX11_poke_1 ?_
  refine TT_iload_n hK rfl 1 rfl dX11_poke_4 ?_
  refine iv_X11_85 hK (c_X1_has_5 i h (by first | omega | (simp [up, setR] <;> omega)) (by first | omega | (simp [up, setR] <;> omega))) (by decide) rfl ⟨by decide, by decide⟩ (by decide) rfl rfl (Nat.le_of_ble_eq_true rfl) ⟨by decide, by decide⟩ dX11_poke_5 ?_
  intro r9 h9 hp9
  rw [hp9.1, hp9.2]
  by_cases hz5 : 0 ≤ i ∧ i < ((h 5) 1)
  · rw [if_pos hz5]
    exfalso; omega
  · rw [if_neg hz5]
    show TT K ly 0 0 8 [(0, vR 0), (1, vI i), (2, vI b)] [vI 0] h
    refine TT_if_eq hK (tgt := 22) (by decide) dX11_poke_8 (by decide) (fun hb8 => ?_) (fun hb8 => ?_)
    · refine TT_iconst hK dX11_poke_22 ?_
      refine TT_zret hK hQ (by decide) ?_ dX11_poke_23
      exact ⟨congrArg (fun z => some (vI z)) (by rfl), rfl⟩
    · exact absurd hb8 (by decide)
set_option maxRecDepth 20000 in
theorem c_X0_hasBand_8 (b : Int) (h : Hp_) (irb : ir_ b) (hc : (h 8 10) = 0) : Ctr yX0_hasBand cX0_hasBand 2 (some .boolean) (rmd 0) ly ly 0 0 [vR 8, vI b] h (fun r h' => r = some (vI (0)) ∧ h' = h) := by
  refine Ctr_of (by decide) (Nat.le_of_ble_eq_true rfl) ⟨Nat.le_refl _, Nat.le_refl _⟩ (fun K hK hQ _ => ?_)
  show TT K ly 0 0 0 [(0, vR 8), (1, vI b)] [] h
  refine TT_iload_n hK rfl 1 rfl dX0_hasBand_0 ?_
  refine TT_if_lt hK (tgt := 16) (irm (by omega) (by omega)) dX0_hasBand_1 (by decide) (fun hb1 => ?_) (fun hb1 => ?_)
  · refine TT_iconst hK dX0_hasBand_16 ?_
    refine TT_zret hK hQ (by decide) ?_ dX0_hasBand_17
    exact ⟨congrArg (fun z => some (vI z)) (by rfl), rfl⟩
  · refine TT_iload_n hK rfl 1 rfl dX0_hasBand_4 ?_
    refine TT_aload_n hK rfl 0 rfl dX0_hasBand_5 ?_
    refine gf_X0_43 hK (by decide) rfl (v := (h 8) 10) rfl dX0_hasBand_6 ?_
    refine TT_icmp_ge hK (tgt := 16) (irm (by omega) (by omega)) (irm (by omega) (by omega)) dX0_hasBand_9 (by decide) (fun hb9 => ?_) (fun hb9 => ?_)
    · refine TT_iconst hK dX0_hasBand_16 ?_
      refine TT_zret hK hQ (by decide) ?_ dX0_hasBand_17
      exact ⟨congrArg (fun z => some (vI z)) (by rfl), rfl⟩
    · refine TT_iconst hK dX0_hasBand_12 ?_
      refine TT_goto hK (tgt := 17) dX0_hasBand_13 (by decide) ?_
      refine TT_zret hK hQ (by decide) ?_ dX0_hasBand_17
      exact ⟨congrArg (fun z => some (vI z)) (by first | rfl | omega | (split <;> first | rfl | omega)), rfl⟩
set_option maxRecDepth 20000 in
theorem c_X0_hasNumber_8 (b x y : Int) (h : Hp_) (irb : ir_ b) (hc : (h 8 10) = 0) : Ctr yX0_hasNumber cX0_hasNumber 4 (some .boolean) (rmd 1) ly ly 0 0 [vR 8, vI b, vI x, vI y] h (fun r h' => r = some (vI (0)) ∧ h' = h) := by
  refine Ctr_of (by decide) (Nat.le_of_ble_eq_true rfl) ⟨Nat.le_refl _, Nat.le_refl _⟩ (fun K hK hQ _ => ?_)
  show TT K ly 0 0 0 [(0, vR 8), (1, vI b), (2, vI x), (3, vI y)] [] h
  refine TT_aload_n hK rfl 0 rfl dX0_hasNumber_0 ?_
  refine TT_iload_n hK rfl 1 rfl dX0_hasNumber_1 ?_
  refine iv_X0_54 hK (c_X0_hasBand_8 b h (by first | omega | (simp [up, setR] <;> omega)) (by first | omega | (simp [up, setR] <;> omega))) (by decide) rfl ⟨by decide, by decide⟩ (by decide) rfl rfl (Nat.le_of_ble_eq_true rfl) ⟨by decide, by decide⟩ dX0_hasNumber_2 ?_
  intro r9 h9 hp9
  rw [hp9.1, hp9.2]
  show TT K ly 0 0 5 [(0, vR 8), (1, vI b), (2, vI x), (3, vI y)] [vI 0] h
  refine TT_if_eq hK (tgt := 40) (by decide) dX0_hasNumber_5 (by decide) (fun hb5 => ?_) (fun hb5 => ?_)
  · refine TT_iconst hK dX0_hasNumber_40 ?_
    refine TT_zret hK hQ (by decide) ?_ dX0_hasNumber_41
    exact ⟨congrArg (fun z => some (vI z)) (by rfl), rfl⟩
  · exact absurd hb5 (by decide)
set_option maxRecDepth 20000 in
theorem c_X0_at_8 (b x y : Int) (h : Hp_) (irb : ir_ b) (hc : (h 8 10) = 0) : Ctr yX0_at cX0_at 4 (some .int) (rmd 2) ly ly 0 0 [vR 8, vI b, vI x, vI y] h (fun r h' => r = some (vI (-100000)) ∧ h' = h) := by
  refine Ctr_of (by decide) (Nat.le_of_ble_eq_true rfl) ⟨Nat.le_refl _, Nat.le_refl _⟩ (fun K hK hQ _ => ?_)
  show TT K ly 0 0 0 [(0, vR 8), (1, vI b), (2, vI x), (3, vI y)] [] h
  refine TT_aload_n hK rfl 0 rfl dX0_at_0 ?_
  refine TT_iload_n hK rfl 1 rfl dX0_at_1 ?_
  refine TT_iload_n hK rfl 2 rfl dX0_at_2 ?_
  refine TT_iload_n hK rfl 3 rfl dX0_at_3 ?_
  refine iv_X0_58 hK (c_X0_hasNumber_8 b x y h (by first | omega | (simp [up, setR] <;> omega)) (by first | omega | (simp [up, setR] <;> omega))) (by decide) rfl ⟨by decide, by decide⟩ (by decide) rfl rfl (Nat.le_of_ble_eq_true rfl) ⟨by decide, by decide⟩ dX0_at_4 ?_
  intro r9 h9 hp9
  rw [hp9.1, hp9.2]
  show TT K ly 0 0 7 [(0, vR 8), (1, vI b), (2, vI x), (3, vI y)] [vI 0] h
  refine TT_if_eq hK (tgt := 38) (by decide) dX0_at_7 (by decide) (fun hb7 => ?_) (fun hb7 => ?_)
  · refine TT_ldc hK lc_X0_62 dX0_at_38 ?_
    refine TT_iret hK hQ ?_ dX0_at_40
    exact ⟨congrArg (fun z => some (vI z)) (by rfl), rfl⟩
  · exact absurd hb7 (by decide)
set_option maxRecDepth 20000 in
theorem c_X3_about_7 (b x : Int) (h : Hp_) (irb : ir_ b) (hc : (h 8 10) = 0) : Ctr yX3_about cX3_about 3 (some .int) (rmd 1) ly ly 0 0 [vR 7, vI b, vI x] h (fun r h' => r = some (vI (-100000)) ∧ h' = h) := by
  refine Ctr_of (by decide) (Nat.le_of_ble_eq_true rfl) ⟨Nat.le_refl _, Nat.le_refl _⟩ (fun K hK hQ _ => ?_)
  show TT K ly 0 0 0 [(0, vR 7), (1, vI b), (2, vI x)] [] h
  refine TT_aload_n hK rfl 0 rfl dX3_about_0 ?_
  refine gf_X3_12 hK (by decide) rfl (q := 8) rfl rfl dX3_about_1 ?_
  refine TT_iload_n hK rfl 1 rfl dX3_about_4 ?_
  refine iv_X3_74 hK (c_X0_hasBand_8 b h (by first | omega | (simp [up, setR] <;> omega)) (by first | omega | (simp [up, setR] <;> omega))) (by decide) rfl ⟨by decide, by decide⟩ (by decide) rfl rfl (Nat.le_of_ble_eq_true rfl) ⟨by decide, by decide⟩ dX3_about_5 ?_
  intro r9 h9 hp9
  rw [hp9.1, hp9.2]
  show TT K ly 0 0 8 [(0, vR 7), (1, vI b), (2, vI x)] [vI 0] h
  refine TT_if_ne hK (tgt := 14) (by decide) dX3_about_8 (by decide) (fun hb8 => ?_) (fun hb8 => ?_)
  · exact absurd hb8 (by decide)
  · refine TT_ldc hK lc_X3_78 dX3_about_11 ?_
    refine TT_iret hK hQ ?_ dX3_about_13
    exact ⟨congrArg (fun z => some (vI z)) (by rfl), rfl⟩
set_option maxRecDepth 20000 in
theorem c_X3_numberOf_7 (b x y : Int) (h : Hp_) (irb : ir_ b) (hc : (h 8 10) = 0) : Ctr yX3_numberOf cX3_numberOf 4 (some .int) (rmd 3) ly ly 0 0 [vR 7, vI b, vI x, vI y] h (fun r h' => r = some (vI (-100000)) ∧ h' = h) := by
  refine Ctr_of (by decide) (Nat.le_of_ble_eq_true rfl) ⟨Nat.le_refl _, Nat.le_refl _⟩ (fun K hK hQ _ => ?_)
  show TT K ly 0 0 0 [(0, vR 7), (1, vI b), (2, vI x), (3, vI y)] [] h
  refine TT_aload_n hK rfl 0 rfl dX3_numberOf_0 ?_
  refine gf_X3_12 hK (by decide) rfl (q := 8) rfl rfl dX3_numberOf_1 ?_
  refine TT_iload_n hK rfl 1 rfl dX3_numberOf_4 ?_
  refine TT_iload_n hK rfl 2 rfl dX3_numberOf_5 ?_
  refine TT_iload_n hK rfl 3 rfl dX3_numberOf_6 ?_
  refine iv_X3_89 hK (c_X0_at_8 b x y h (by first | omega | (simp [up, setR] <;> omega)) (by first | omega | (simp [up, setR] <;> omega))) (by decide) rfl ⟨by decide, by decide⟩ (by decide) rfl rfl (Nat.le_of_ble_eq_true rfl) ⟨by decide, by decide⟩ dX3_numberOf_7 ?_
  intro r9 h9 hp9
  rw [hp9.1, hp9.2]
  show TT K ly 0 0 10 [(0, vR 7), (1, vI b), (2, vI x), (3, vI y)] [vI (-100000)] h
  refine TT_iret hK hQ ?_ dX3_numberOf_10
  exact ⟨congrArg (fun z => some (vI z)) (by rfl), rfl⟩
set_option maxRecDepth 20000 in
theorem c_X3_codeByte_7 (b i : Int) (h : Hp_) (irb : ir_ b) (hc : (h 8 10) = 0) : Ctr yX3_codeByte cX3_codeByte 3 (some .int) (rmd 1) ly ly 0 0 [vR 7, vI b, vI i] h (fun r h' => r = some (vI (-100000)) ∧ h' = h) := by
  refine Ctr_of (by decide) (Nat.le_of_ble_eq_true rfl) ⟨Nat.le_refl _, Nat.le_refl _⟩ (fun K hK hQ _ => ?_)
  show TT K ly 0 0 0 [(0, vR 7), (1, vI b), (2, vI i)] [] h
  refine TT_aload_n hK rfl 0 rfl dX3_codeByte_0 ?_
  refine gf_X3_12 hK (by decide) rfl (q := 8) rfl rfl dX3_codeByte_1 ?_
  refine TT_iload_n hK rfl 1 rfl dX3_codeByte_4 ?_
  refine iv_X3_74 hK (c_X0_hasBand_8 b h (by first | omega | (simp [up, setR] <;> omega)) (by first | omega | (simp [up, setR] <;> omega))) (by decide) rfl ⟨by decide, by decide⟩ (by decide) rfl rfl (Nat.le_of_ble_eq_true rfl) ⟨by decide, by decide⟩ dX3_codeByte_5 ?_
  intro r9 h9 hp9
  rw [hp9.1, hp9.2]
  show TT K ly 0 0 8 [(0, vR 7), (1, vI b), (2, vI i)] [vI 0] h
  refine TT_if_eq hK (tgt := 25) (by decide) dX3_codeByte_8 (by decide) (fun hb8 => ?_) (fun hb8 => ?_)
  · refine TT_ldc hK lc_X3_78 dX3_codeByte_25 ?_
    refine TT_iret hK hQ ?_ dX3_codeByte_27
    exact ⟨congrArg (fun z => some (vI z)) (by rfl), rfl⟩
  · exact absurd hb8 (by decide)
set_option maxRecDepth 20000 in
theorem c_X3_leastLength_7 (b i : Int) (h : Hp_) (irb : ir_ b) (hc : (h 8 10) = 0) : Ctr yX3_leastLength cX3_leastLength 3 (some .int) (rmd 1) ly ly 0 0 [vR 7, vI b, vI i] h (fun r h' => r = some (vI (-100000)) ∧ h' = h) := by
  refine Ctr_of (by decide) (Nat.le_of_ble_eq_true rfl) ⟨Nat.le_refl _, Nat.le_refl _⟩ (fun K hK hQ _ => ?_)
  show TT K ly 0 0 0 [(0, vR 7), (1, vI b), (2, vI i)] [] h
  refine TT_aload_n hK rfl 0 rfl dX3_leastLength_0 ?_
  refine gf_X3_12 hK (by decide) rfl (q := 8) rfl rfl dX3_leastLength_1 ?_
  refine TT_iload_n hK rfl 1 rfl dX3_leastLength_4 ?_
  refine iv_X3_74 hK (c_X0_hasBand_8 b h (by first | omega | (simp [up, setR] <;> omega)) (by first | omega | (simp [up, setR] <;> omega))) (by decide) rfl ⟨by decide, by decide⟩ (by decide) rfl rfl (Nat.le_of_ble_eq_true rfl) ⟨by decide, by decide⟩ dX3_leastLength_5 ?_
  intro r9 h9 hp9
  rw [hp9.1, hp9.2]
  show TT K ly 0 0 8 [(0, vR 7), (1, vI b), (2, vI i)] [vI 0] h
  refine TT_if_eq hK (tgt := 28) (by decide) dX3_leastLength_8 (by decide) (fun hb8 => ?_) (fun hb8 => ?_)
  · refine TT_ldc hK lc_X3_78 dX3_leastLength_28 ?_
    refine TT_iret hK hQ ?_ dX3_leastLength_30
    exact ⟨congrArg (fun z => some (vI z)) (by rfl), rfl⟩
  · exact absurd hb8 (by decide)
set_option maxRecDepth 20000 in
theorem c_X11_band_0 (b x : Int) (h : Hp_) (irb : ir_ b) (hc : (h 8 10) = 0) : Ctr yX11_band cX11_band 3 (some .int) (rmd 2) ly ly 0 0 [vR 0, vI b, vI x] h (fun r h' => r = some (vI (-100000)) ∧ h' = h) := by
  refine Ctr_of (by decide) (Nat.le_of_ble_eq_true rfl) ⟨Nat.le_refl _, Nat.le_refl _⟩ (fun K hK hQ _ => ?_)
  show TT K ly 0 0 0 [(0, vR 0), (1, vI b), (2, vI x)] [] h
  refine TT_aload_n hK rfl 0 rfl dX11_band_0 ?_
  refine gf_X11_29 hK (by decide) rfl (q := 7) rfl rfl dX11_band_1 ?_
  refine TT_iload_n hK rfl 1 rfl dX11_band_4 ?_
  refine TT_iload_n hK rfl 2 rfl dX11_band_5 ?_
  refine iv_X11_93 hK (c_X3_about_7 b x h (by first | omega | (simp [up, setR] <;> omega)) (by first | omega | (simp [up, setR] <;> omega))) (by decide) rfl ⟨by decide, by decide⟩ (by decide) rfl rfl (Nat.le_of_ble_eq_true rfl) ⟨by decide, by decide⟩ dX11_band_6 ?_
  intro r9 h9 hp9
  rw [hp9.1, hp9.2]
  show TT K ly 0 0 9 [(0, vR 0), (1, vI b), (2, vI x)] [vI (-100000)] h
  refine TT_iret hK hQ ?_ dX11_band_9
  exact ⟨congrArg (fun z => some (vI z)) (by rfl), rfl⟩
set_option maxRecDepth 20000 in
theorem c_X11_number_0 (b x y : Int) (h : Hp_) (irb : ir_ b) (hc : (h 8 10) = 0) : Ctr yX11_number cX11_number 4 (some .int) (rmd 4) ly ly 0 0 [vR 0, vI b, vI x, vI y] h (fun r h' => r = some (vI (-100000)) ∧ h' = h) := by
  refine Ctr_of (by decide) (Nat.le_of_ble_eq_true rfl) ⟨Nat.le_refl _, Nat.le_refl _⟩ (fun K hK hQ _ => ?_)
  show TT K ly 0 0 0 [(0, vR 0), (1, vI b), (2, vI x), (3, vI y)] [] h
  refine TT_aload_n hK rfl 0 rfl dX11_number_0 ?_
  refine gf_X11_29 hK (by decide) rfl (q := 7) rfl rfl dX11_number_1 ?_
  refine TT_iload_n hK rfl 1 rfl dX11_number_4 ?_
  refine TT_iload_n hK rfl 2 rfl dX11_number_5 ?_
  refine TT_iload_n hK rfl 3 rfl dX11_number_6 ?_
  refine iv_X11_96 hK (c_X3_numberOf_7 b x y h (by first | omega | (simp [up, setR] <;> omega)) (by first | omega | (simp [up, setR] <;> omega))) (by decide) rfl ⟨by decide, by decide⟩ (by decide) rfl rfl (Nat.le_of_ble_eq_true rfl) ⟨by decide, by decide⟩ dX11_number_7 ?_
  intro r9 h9 hp9
  rw [hp9.1, hp9.2]
  show TT K ly 0 0 10 [(0, vR 0), (1, vI b), (2, vI x), (3, vI y)] [vI (-100000)] h
  refine TT_iret hK hQ ?_ dX11_number_10
  exact ⟨congrArg (fun z => some (vI z)) (by rfl), rfl⟩
set_option maxRecDepth 20000 in
theorem c_X11_codeword_0 (b i : Int) (h : Hp_) (irb : ir_ b) (hc : (h 8 10) = 0) : Ctr yX11_codeword cX11_codeword 3 (some .int) (rmd 2) ly ly 0 0 [vR 0, vI b, vI i] h (fun r h' => r = some (vI (-100000)) ∧ h' = h) := by
  refine Ctr_of (by decide) (Nat.le_of_ble_eq_true rfl) ⟨Nat.le_refl _, Nat.le_refl _⟩ (fun K hK hQ _ => ?_)
  show TT K ly 0 0 0 [(0, vR 0), (1, vI b), (2, vI i)] [] h
  refine TT_aload_n hK rfl 0 rfl dX11_codeword_0 ?_
  refine gf_X11_29 hK (by decide) rfl (q := 7) rfl rfl dX11_codeword_1 ?_
  refine TT_iload_n hK rfl 1 rfl dX11_codeword_4 ?_
  refine TT_iload_n hK rfl 2 rfl dX11_codeword_5 ?_
  refine iv_X11_100 hK (c_X3_codeByte_7 b i h (by first | omega | (simp [up, setR] <;> omega)) (by first | omega | (simp [up, setR] <;> omega))) (by decide) rfl ⟨by decide, by decide⟩ (by decide) rfl rfl (Nat.le_of_ble_eq_true rfl) ⟨by decide, by decide⟩ dX11_codeword_6 ?_
  intro r9 h9 hp9
  rw [hp9.1, hp9.2]
  show TT K ly 0 0 9 [(0, vR 0), (1, vI b), (2, vI i)] [vI (-100000)] h
  refine TT_iret hK hQ ?_ dX11_codeword_9
  exact ⟨congrArg (fun z => some (vI z)) (by rfl), rfl⟩
set_option maxRecDepth 20000 in
theorem c_X11_least_0 (b i : Int) (h : Hp_) (irb : ir_ b) (hc : (h 8 10) = 0) : Ctr yX11_least cX11_least 3 (some .int) (rmd 2) ly ly 0 0 [vR 0, vI b, vI i] h (fun r h' => r = some (vI (-100000)) ∧ h' = h) := by
  refine Ctr_of (by decide) (Nat.le_of_ble_eq_true rfl) ⟨Nat.le_refl _, Nat.le_refl _⟩ (fun K hK hQ _ => ?_)
  show TT K ly 0 0 0 [(0, vR 0), (1, vI b), (2, vI i)] [] h
  refine TT_aload_n hK rfl 0 rfl dX11_least_0 ?_
  refine gf_X11_29 hK (by decide) rfl (q := 7) rfl rfl dX11_least_1 ?_
  refine TT_iload_n hK rfl 1 rfl dX11_least_4 ?_
  refine TT_iload_n hK rfl 2 rfl dX11_least_5 ?_
  refine iv_X11_103 hK (c_X3_leastLength_7 b i h (by first | omega | (simp [up, setR] <;> omega)) (by first | omega | (simp [up, setR] <;> omega))) (by decide) rfl ⟨by decide, by decide⟩ (by decide) rfl rfl (Nat.le_of_ble_eq_true rfl) ⟨by decide, by decide⟩ dX11_least_6 ?_
  intro r9 h9 hp9
  rw [hp9.1, hp9.2]
  show TT K ly 0 0 9 [(0, vR 0), (1, vI b), (2, vI i)] [vI (-100000)] h
  refine TT_iret hK hQ ?_ dX11_least_9
  exact ⟨congrArg (fun z => some (vI z)) (by rfl), rfl⟩
set_option maxRecDepth 20000 in
theorem c_X10_passesTaken_44 (b : Int) (h : Hp_) (irb : ir_ b) (hc : (h 44 12) = 0) : Ctr yX10_passesTaken cX10_passesTaken 2 (some .int) (rmd 0) ly ly 0 0 [vR 44, vI b] h (fun r h' => r = some (vI (-100000)) ∧ h' = h) := by
  refine Ctr_of (by decide) (Nat.le_of_ble_eq_true rfl) ⟨Nat.le_refl _, Nat.le_refl _⟩ (fun K hK hQ _ => ?_)
  show TT K ly 0 0 0 [(0, vR 44), (1, vI b)] [] h
  refine TT_iload_n hK rfl 1 rfl dX10_passesTaken_0 ?_
  refine TT_if_lt hK (tgt := 21) (irm (by omega) (by omega)) dX10_passesTaken_1 (by decide) (fun hb1 => ?_) (fun hb1 => ?_)
  · refine TT_ldc hK lc_X10_66 dX10_passesTaken_21 ?_
    refine TT_iret hK hQ ?_ dX10_passesTaken_23
    exact ⟨congrArg (fun z => some (vI z)) (by rfl), rfl⟩
  · refine TT_iload_n hK rfl 1 rfl dX10_passesTaken_4 ?_
    refine TT_aload_n hK rfl 0 rfl dX10_passesTaken_5 ?_
    refine gf_X10_62 hK (by decide) rfl (v := (h 44) 12) rfl dX10_passesTaken_6 ?_
    refine TT_icmp_ge hK (tgt := 21) (irm (by omega) (by omega)) (irm (by omega) (by omega)) dX10_passesTaken_9 (by decide) (fun hb9 => ?_) (fun hb9 => ?_)
    · refine TT_ldc hK lc_X10_66 dX10_passesTaken_21 ?_
      refine TT_iret hK hQ ?_ dX10_passesTaken_23
      exact ⟨congrArg (fun z => some (vI z)) (by rfl), rfl⟩
    · omega
set_option maxRecDepth 20000 in
theorem c_X11_taken_0 (b : Int) (h : Hp_) (irb : ir_ b) (hc : (h 44 12) = 0) : Ctr yX11_taken cX11_taken 2 (some .int) (rmd 1) ly ly 0 0 [vR 0, vI b] h (fun r h' => r = some (vI (-100000)) ∧ h' = h) := by
  refine Ctr_of (by decide) (Nat.le_of_ble_eq_true rfl) ⟨Nat.le_refl _, Nat.le_refl _⟩ (fun K hK hQ _ => ?_)
  show TT K ly 0 0 0 [(0, vR 0), (1, vI b)] [] h
  refine TT_aload_n hK rfl 0 rfl dX11_taken_0 ?_
  refine gf_X11_36 hK (by decide) rfl (q := 44) rfl rfl dX11_taken_1 ?_
  refine TT_iload_n hK rfl 1 rfl dX11_taken_4 ?_
  refine iv_X11_118 hK (c_X10_passesTaken_44 b h (by first | omega | (simp [up, setR] <;> omega)) (by first | omega | (simp [up, setR] <;> omega))) (by decide) rfl ⟨by decide, by decide⟩ (by decide) rfl rfl (Nat.le_of_ble_eq_true rfl) ⟨by decide, by decide⟩ dX11_taken_5 ?_
  intro r9 h9 hp9
  rw [hp9.1, hp9.2]
  show TT K ly 0 0 8 [(0, vR 0), (1, vI b)] [vI (-100000)] h
  refine TT_iret hK hQ ?_ dX11_taken_8
  exact ⟨congrArg (fun z => some (vI z)) (by rfl), rfl⟩
set_option maxRecDepth 20000 in
theorem c_X5_greatestDifference_1 (h : Hp_) (h1 : (h 1 1) = 1) (h3 : (h 3 1) = 0) : Ctr yX5_greatestDifference cX5_greatestDifference 4 (some .int) (rmd 0) ly ly 0 0 [vR 1, vR 3] h (fun r h' => r = some (vI (-100000)) ∧ h' = h) := by
  refine Ctr_of (by decide) (Nat.le_of_ble_eq_true rfl) ⟨Nat.le_refl _, Nat.le_refl _⟩ (fun K hK hQ _ => ?_)
  show TT K ly 0 0 0 [(0, vR 1), (1, vR 3)] [] h
  refine TT_aload_n hK rfl 0 rfl dX5_greatestDifference_0 ?_
  refine gf_X5_15 hK (by decide) rfl (v := (h 1) 1) rfl dX5_greatestDifference_1 ?_
  refine TT_aload_n hK rfl 1 rfl dX5_greatestDifference_4 ?_
  refine gf_X5_15 hK (by decide) rfl (v := (h 3) 1) rfl dX5_greatestDifference_5 ?_
  refine TT_icmp_ne hK (tgt := 22) (irm (by omega) (by omega)) (irm (by omega) (by omega)) dX5_greatestDifference_8 (by decide) (fun hb8 => ?_) (fun hb8 => ?_)
  · refine TT_ldc hK lc_X5_32 dX5_greatestDifference_22 ?_
    refine TT_iret hK hQ ?_ dX5_greatestDifference_24
    exact ⟨congrArg (fun z => some (vI z)) (by rfl), rfl⟩
  · omega
set_option maxRecDepth 20000 in
theorem c_X11_difference_0 (h : Hp_) (h1 : (h 1 1) = 1) (h3 : (h 3 1) = 0) : Ctr yX11_difference cX11_difference 1 (some .int) (rmd 1) ly ly 0 0 [vR 0] h (fun r h' => r = some (vI (-100000)) ∧ h' = h) := by
  refine Ctr_of (by decide) (Nat.le_of_ble_eq_true rfl) ⟨Nat.le_refl _, Nat.le_refl _⟩ (fun K hK hQ _ => ?_)
  show TT K ly 0 0 0 [(0, vR 0)] [] h
  refine TT_aload_n hK rfl 0 rfl dX11_difference_0 ?_
  refine gf_X11_10 hK (by decide) rfl (q := 1) rfl rfl dX11_difference_1 ?_
  refine TT_aload_n hK rfl 0 rfl dX11_difference_4 ?_
  refine gf_X11_16 hK (by decide) rfl (q := 3) rfl rfl dX11_difference_5 ?_
  refine iv_X11_121 hK (c_X5_greatestDifference_1 h (by first | omega | (simp [up, setR] <;> omega)) (by first | omega | (simp [up, setR] <;> omega))) (by decide) rfl ⟨by decide, by decide⟩ (by decide) rfl rfl (Nat.le_of_ble_eq_true rfl) ⟨by decide, by decide⟩ dX11_difference_8 ?_
  intro r9 h9 hp9
  rw [hp9.1, hp9.2]
  show TT K ly 0 0 11 [(0, vR 0)] [vI (-100000)] h
  refine TT_iret hK hQ ?_ dX11_difference_11
  exact ⟨congrArg (fun z => some (vI z)) (by rfl), rfl⟩
set_option maxRecDepth 20000 in
theorem c_X12_within (v a b : Int) (h : Hp_) (irv : ir_ v) (ira : ir_ a) (irb : ir_ b) : Ctr yX12_within cX12_within 3 (some .boolean) (rmd 0) ly ly 0 0 [vI v, vI a, vI b] h (fun r h' => r = some (vI (if a ≤ v ∧ v ≤ b then 1 else 0)) ∧ h' = h) := by
  refine Ctr_of (by decide) (Nat.le_of_ble_eq_true rfl) ⟨Nat.le_refl _, Nat.le_refl _⟩ (fun K hK hQ _ => ?_)
  show TT K ly 0 0 0 [(0, vI v), (1, vI a), (2, vI b)] [] h
  refine TT_iload_n hK rfl 0 rfl dX12_within_0 ?_
  refine TT_iload_n hK rfl 1 rfl dX12_within_1 ?_
  refine TT_icmp_lt hK (tgt := 14) (irm (by omega) (by omega)) (irm (by omega) (by omega)) dX12_within_2 (by decide) (fun hb2 => ?_) (fun hb2 => ?_)
  · refine TT_iconst hK dX12_within_14 ?_
    refine TT_zret hK hQ (by decide) ?_ dX12_within_15
    exact ⟨congrArg (fun z => some (vI z)) (by first | exact (if_pos (by omega)).symm | exact (if_neg (by omega)).symm | (split <;> first | rfl | omega)), rfl⟩
  · refine TT_iload_n hK rfl 0 rfl dX12_within_5 ?_
    refine TT_iload_n hK rfl 2 rfl dX12_within_6 ?_
    refine TT_icmp_gt hK (tgt := 14) (irm (by omega) (by omega)) (irm (by omega) (by omega)) dX12_within_7 (by decide) (fun hb7 => ?_) (fun hb7 => ?_)
    · refine TT_iconst hK dX12_within_14 ?_
      refine TT_zret hK hQ (by decide) ?_ dX12_within_15
      exact ⟨congrArg (fun z => some (vI z)) (by first | exact (if_pos (by omega)).symm | exact (if_neg (by omega)).symm | (split <;> first | rfl | omega)), rfl⟩
    · refine TT_iconst hK dX12_within_10 ?_
      refine TT_goto hK (tgt := 15) dX12_within_11 (by decide) ?_
      refine TT_zret hK hQ (by decide) ?_ dX12_within_15
      exact ⟨congrArg (fun z => some (vI z)) (by first | exact (if_pos (by omega)).symm | exact (if_neg (by omega)).symm | (split <;> first | rfl | omega)), rfl⟩
set_option maxRecDepth 20000 in
theorem c_X12_thrown_73 (h : Hp_)  : Ctr yX12_thrown cX12_thrown 1 (some .int) (rmd 0) ly ly 0 0 [vR 73] h (fun r h' => r = some (vI ((h 73 2))) ∧ h' = h) := by
  refine Ctr_of (by decide) (Nat.le_of_ble_eq_true rfl) ⟨Nat.le_refl _, Nat.le_refl _⟩ (fun K hK hQ _ => ?_)
  show TT K ly 0 0 0 [(0, vR 73)] [] h
  refine TT_aload_n hK rfl 0 rfl dX12_thrown_0 ?_
  refine gf_X12_117 hK (by decide) rfl (v := (h 73) 2) rfl dX12_thrown_1 ?_
  refine TT_iret hK hQ ?_ dX12_thrown_4
  exact ⟨congrArg (fun z => some (vI z)) (by first | rfl | omega | (split <;> first | rfl | omega)), rfl⟩
set_option maxRecDepth 20000 in
theorem c_X12_refuse_73 (c : Int) (h : Hp_)  : Ctr yX12_refuse cX12_refuse 2 (some .int) (rmd 0) ly ly 0 0 [vR 73, vI c] h (fun r h' => r = some (vI (0)) ∧ h' = setO h 73 (fup (h 73) 2 c)) := by
  refine Ctr_of (by decide) (Nat.le_of_ble_eq_true rfl) ⟨Nat.le_refl _, Nat.le_refl _⟩ (fun K hK hQ _ => ?_)
  show TT K ly 0 0 0 [(0, vR 73), (1, vI c)] [] h
  refine TT_aload_n hK rfl 0 rfl dX12_refuse_0 ?_
  refine TT_iload_n hK rfl 1 rfl dX12_refuse_1 ?_
  refine pf_X12_117 hK (by decide) rfl dX12_refuse_2 ?_
  refine TT_hp (h' := setO h 73 (fup (h 73) 2 c)) (up_can rfl rfl rfl) ?_
  refine TT_iconst hK dX12_refuse_5 ?_
  refine TT_iret hK hQ ?_ dX12_refuse_6
  exact ⟨congrArg (fun z => some (vI z)) (by rfl), rfl⟩
set_option maxRecDepth 20000 in
theorem c_X12_picture_v (a b : Int) (h : Hp_) (ira : ir_ a) (irb : ir_ b) (hV : (1 ≤ a ∧ a ≤ 8) ∧ (1 ≤ b ∧ b ≤ 8)) : Ctr yX12_picture cX12_picture 4 none (rmd 1) ly ly 0 0 [vR 73, vI a, vI b] h (fun r h' => r = none ∧ h' = setO (setO h 73 (fup (fup (fup (h 73) 2 0) 3 a) 4 b)) 76 (fsr (h 76) 0 64 (fun _ => 0))) := by
  refine Ctr_of (by decide) (Nat.le_of_ble_eq_true rfl) ⟨Nat.le_refl _, Nat.le_refl _⟩ (fun K hK hQ _ => ?_)
  show TT K ly 0 0 0 [(0, vR 73), (1, vI a), (2, vI b)] [] h
  refine TT_aload_n hK rfl 0 rfl dX12_picture_0 ?_
  refine TT_iload_n hK rfl 1 rfl dX12_picture_1 ?_
  refine TT_iconst hK dX12_picture_2 ?_
  refine TT_bipush hK (by decide) dX12_picture_3 ?_
  refine iv_X12_120 hK (c_X12_within a 1 8 h (by first | omega | (simp [up, setR] <;> omega)) (by first | omega | (simp [up, setR] <;> omega)) (by first | omega | (simp [up, setR] <;> omega))) ⟨by decide, by decide⟩ (by decide) rfl rfl (Nat.le_of_ble_eq_true rfl) ⟨by decide, by decide⟩ dX12_picture_5 ?_
  intro r9 h9 hp9
  rw [hp9.1, hp9.2]
  by_cases hz5 : 1 ≤ a ∧ a ≤ 8
  · rw [if_pos hz5]
    show TT K ly 0 0 8 [(0, vR 73), (1, vI a), (2, vI b)] [vI 1, vR 73] h
    refine TT_if_eq hK (tgt := 25) (by decide) dX12_picture_8 (by decide) (fun hb8 => ?_) (fun hb8 => ?_)
    · exact absurd hb8 (by decide)
    · refine TT_iload_n hK rfl 2 rfl dX12_picture_11 ?_
      refine TT_iconst hK dX12_picture_12 ?_
      refine TT_bipush hK (by decide) dX12_picture_13 ?_
      refine iv_X12_120 hK (c_X12_within b 1 8 h (by first | omega | (simp [up, setR] <;> omega)) (by first | omega | (simp [up, setR] <;> omega)) (by first | omega | (simp [up, setR] <;> omega))) ⟨by decide, by decide⟩ (by decide) rfl rfl (Nat.le_of_ble_eq_true rfl) ⟨by decide, by decide⟩ dX12_picture_15 ?_
      intro r9 h9 hp9
      rw [hp9.1, hp9.2]
      by_cases hz15 : 1 ≤ b ∧ b ≤ 8
      · rw [if_pos hz15]
        show TT K ly 0 0 18 [(0, vR 73), (1, vI a), (2, vI b)] [vI 1, vR 73] h
        refine TT_if_eq hK (tgt := 25) (by decide) dX12_picture_18 (by decide) (fun hb18 => ?_) (fun hb18 => ?_)
        · exact absurd hb18 (by decide)
        · refine TT_iconst hK dX12_picture_21 ?_
          refine TT_goto hK (tgt := 26) dX12_picture_22 (by decide) ?_
          refine pf_X12_117 hK (by decide) rfl dX12_picture_26 ?_
          refine TT_hp (h' := setO h 73 (fup (h 73) 2 0)) (up_can rfl rfl rfl) ?_
          refine TT_aload_n hK rfl 0 rfl dX12_picture_29 ?_
          refine gf_X12_117 hK (by decide) rfl (v := 0) (rd_ (sOf_eq _ _ _) (fup_eq _ _ _)) dX12_picture_30 ?_
          refine TT_if_ne hK (tgt := 67) (by decide) dX12_picture_33 (by decide) (fun hb33 => ?_) (fun hb33 => ?_)
          · exact absurd hb33 (by decide)
          · refine TT_aload_n hK rfl 0 rfl dX12_picture_36 ?_
            refine TT_iload_n hK rfl 1 rfl dX12_picture_37 ?_
            refine pf_X12_16 hK (by decide) rfl dX12_picture_38 ?_
            refine TT_hp (h' := setO h 73 (fup (fup (h 73) 2 0) 3 a)) (up_can (sOf_eq _ _ _) rfl (setO_same _ _ _ _)) ?_
            refine TT_aload_n hK rfl 0 rfl dX12_picture_41 ?_
            refine TT_iload_n hK rfl 2 rfl dX12_picture_42 ?_
            refine pf_X12_20 hK (by decide) rfl dX12_picture_43 ?_
            refine TT_hp (h' := setO h 73 (fup (fup (fup (h 73) 2 0) 3 a) 4 b)) (up_can (sOf_eq _ _ _) rfl (setO_same _ _ _ _)) ?_
            refine TT_iconst hK dX12_picture_46 ?_
            refine TT_istore_n hK rfl (lv' := [(3, vI 0), (0, vR 73), (1, vI a), (2, vI b)]) (by decide) rfl dX12_picture_47 ?_
            have L48_4 : ∀ (k4 : Nat) (i : Int), (0 ≤ i) → (i ≤ 64) → ((64 : Int) - i).toNat < k4 → TT K ly 0 0 48 [(0, vR 73), (1, vI a), (2, vI b), (3, vI i)] [] (setO (setO h 73 (fup (fup (fup (h 73) 2 0) 3 a) 4 b)) 76 (fsr (h 76) 0 i (fun _ => 0))) := by
              intro k4
              induction k4 with
              | zero => intro i hi0 hi1 hk4; exact absurd hk4 (Nat.not_lt_zero _)
              | succ k4 ih4 =>
                intro i hi0 hi1 hk4
                refine TT_iload_n hK rfl 3 rfl dX12_picture_48 ?_
                refine TT_bipush hK (by decide) dX12_picture_49 ?_
                refine TT_icmp_ge hK (tgt := 67) (irm (by omega) (by omega)) (by decide) dX12_picture_51 (by decide) (fun hb51 => ?_) (fun hb51 => ?_)
                · refine TT_vret hK hQ ?_ dX12_picture_67
                  exact ⟨rfl, setO_cg rfl (by rw [show i = 64 by omega])⟩
                · refine TT_aload_n hK rfl 0 rfl dX12_picture_54 ?_
                  refine gf_X12_23 hK (by decide) rfl (q := 76) rfl rfl dX12_picture_55 ?_
                  refine TT_iload_n hK rfl 3 rfl dX12_picture_58 ?_
                  refine TT_iconst hK dX12_picture_59 ?_
                  refine TT_iast hK (o := 76) (n := 64) (by decide) rfl (by first | omega | (simp [up, setR] <;> omega)) (by first | omega | (simp [up, setR] <;> omega)) dX12_picture_60 ?_
                  refine TT_hp (h' := setO (setO h 73 (fup (fup (fup (h 73) 2 0) 3 a) 4 b)) 76 (fup (fsr (h 76) 0 i (fun _ => 0)) i 0)) (up_can (sOf_eq _ _ _) rfl (setO_same _ _ _ _)) ?_
                  refine TT_iinc hK (v := i + 1) (lv' := [(3, vI (i + 1)), (0, vR 73), (1, vI a), (2, vI b)]) 3 rfl rfl (by decide) rfl dX12_picture_61 ?_
                  refine TT_goto hK (tgt := 48) dX12_picture_64 (by decide) ?_
                  refine TT_sub [1, 2, 3, 0] rfl ?_
                  refine TT_hp (h' := setO (setO h 73 (fup (fup (fup (h 73) 2 0) 3 a) 4 b)) 76 (fsr (h 76) 0 (i + 1) (fun _ => 0))) (setO_cg rfl (by first | rfl | exact fsr_step _ (by omega) rfl)) ?_
                  exact ih4 (i + 1) (by first | omega | (simp [up, setR] <;> omega)) (by first | omega | (simp [up, setR] <;> omega)) (by first | omega | (simp [up, setR] <;> omega))
            refine TT_sub [1, 2, 3, 0] rfl ?_
            refine TT_hp (h' := setO (setO h 73 (fup (fup (fup (h 73) 2 0) 3 a) 4 b)) 76 (fsr (h 76) 0 0 (fun _ => 0))) ((setO_new ((sOf_ne _ _ (by decide)).trans (by first | rfl | exact fsr_0 _ _ _))).trans (setO_cg rfl rfl)) ?_
            exact L48_4 ((((64 : Int) - 0).toNat) + 1) 0 (by first | omega | (simp [up, setR] <;> omega)) (by first | omega | (simp [up, setR] <;> omega)) (Nat.lt_succ_self _)
      · rw [if_neg hz15]
        exfalso; omega
  · rw [if_neg hz5]
    exfalso; omega
set_option maxRecDepth 20000 in
theorem c_X12_picture_x (a b : Int) (h : Hp_) (ira : ir_ a) (irb : ir_ b) (hV : ¬((1 ≤ a ∧ a ≤ 8) ∧ (1 ≤ b ∧ b ≤ 8))) : Ctr yX12_picture cX12_picture 4 none (rmd 1) ly ly 0 0 [vR 73, vI a, vI b] h (fun r h' => r = none ∧ h' = setO h 73 (fup (h 73) 2 1)) := by
  refine Ctr_of (by decide) (Nat.le_of_ble_eq_true rfl) ⟨Nat.le_refl _, Nat.le_refl _⟩ (fun K hK hQ _ => ?_)
  show TT K ly 0 0 0 [(0, vR 73), (1, vI a), (2, vI b)] [] h
  refine TT_aload_n hK rfl 0 rfl dX12_picture_0 ?_
  refine TT_iload_n hK rfl 1 rfl dX12_picture_1 ?_
  refine TT_iconst hK dX12_picture_2 ?_
  refine TT_bipush hK (by decide) dX12_picture_3 ?_
  refine iv_X12_120 hK (c_X12_within a 1 8 h (by first | omega | (simp [up, setR] <;> omega)) (by first | omega | (simp [up, setR] <;> omega)) (by first | omega | (simp [up, setR] <;> omega))) ⟨by decide, by decide⟩ (by decide) rfl rfl (Nat.le_of_ble_eq_true rfl) ⟨by decide, by decide⟩ dX12_picture_5 ?_
  intro r9 h9 hp9
  rw [hp9.1, hp9.2]
  by_cases hz5 : 1 ≤ a ∧ a ≤ 8
  · rw [if_pos hz5]
    show TT K ly 0 0 8 [(0, vR 73), (1, vI a), (2, vI b)] [vI 1, vR 73] h
    refine TT_if_eq hK (tgt := 25) (by decide) dX12_picture_8 (by decide) (fun hb8 => ?_) (fun hb8 => ?_)
    · exact absurd hb8 (by decide)
    · refine TT_iload_n hK rfl 2 rfl dX12_picture_11 ?_
      refine TT_iconst hK dX12_picture_12 ?_
      refine TT_bipush hK (by decide) dX12_picture_13 ?_
      refine iv_X12_120 hK (c_X12_within b 1 8 h (by first | omega | (simp [up, setR] <;> omega)) (by first | omega | (simp [up, setR] <;> omega)) (by first | omega | (simp [up, setR] <;> omega))) ⟨by decide, by decide⟩ (by decide) rfl rfl (Nat.le_of_ble_eq_true rfl) ⟨by decide, by decide⟩ dX12_picture_15 ?_
      intro r9 h9 hp9
      rw [hp9.1, hp9.2]
      by_cases hz15 : 1 ≤ b ∧ b ≤ 8
      · rw [if_pos hz15]
        exfalso; omega
      · rw [if_neg hz15]
        show TT K ly 0 0 18 [(0, vR 73), (1, vI a), (2, vI b)] [vI 0, vR 73] h
        refine TT_if_eq hK (tgt := 25) (by decide) dX12_picture_18 (by decide) (fun hb18 => ?_) (fun hb18 => ?_)
        · refine TT_iconst hK dX12_picture_25 ?_
          refine pf_X12_117 hK (by decide) rfl dX12_picture_26 ?_
          refine TT_hp (h' := setO h 73 (fup (h 73) 2 1)) (up_can rfl rfl rfl) ?_
          refine TT_aload_n hK rfl 0 rfl dX12_picture_29 ?_
          refine gf_X12_117 hK (by decide) rfl (v := 1) (rd_ (sOf_eq _ _ _) (fup_eq _ _ _)) dX12_picture_30 ?_
          refine TT_if_ne hK (tgt := 67) (by decide) dX12_picture_33 (by decide) (fun hb33 => ?_) (fun hb33 => ?_)
          · refine TT_vret hK hQ ?_ dX12_picture_67
            exact ⟨rfl, rfl⟩
          · exact absurd hb33 (by decide)
        · exact absurd hb18 (by decide)
  · rw [if_neg hz5]
    show TT K ly 0 0 8 [(0, vR 73), (1, vI a), (2, vI b)] [vI 0, vR 73] h
    refine TT_if_eq hK (tgt := 25) (by decide) dX12_picture_8 (by decide) (fun hb8 => ?_) (fun hb8 => ?_)
    · refine TT_iconst hK dX12_picture_25 ?_
      refine pf_X12_117 hK (by decide) rfl dX12_picture_26 ?_
      refine TT_hp (h' := setO h 73 (fup (h 73) 2 1)) (up_can rfl rfl rfl) ?_
      refine TT_aload_n hK rfl 0 rfl dX12_picture_29 ?_
      refine gf_X12_117 hK (by decide) rfl (v := 1) (rd_ (sOf_eq _ _ _) (fup_eq _ _ _)) dX12_picture_30 ?_
      refine TT_if_ne hK (tgt := 67) (by decide) dX12_picture_33 (by decide) (fun hb33 => ?_) (fun hb33 => ?_)
      · refine TT_vret hK hQ ?_ dX12_picture_67
        exact ⟨rfl, rfl⟩
      · exact absurd hb33 (by decide)
    · exact absurd hb8 (by decide)
set_option maxRecDepth 20000 in
theorem c_X12_isPixel_73 (x y : Int) (h : Hp_) (irx : ir_ x) (iry : ir_ y) (hw1 : 0 ≤ (h 73 3) ∧ (h 73 3) ≤ 8) (hw2 : 0 ≤ (h 73 4) ∧ (h 73 4) ≤ 8) : Ctr yX12_isPixel cX12_isPixel 3 (some .boolean) (rmd 1) ly ly 0 0 [vR 73, vI x, vI y] h (fun r h' => r = some (vI (if ((0 ≤ x ∧ x ≤ (h 73 3) - 1) ∧ (0 ≤ y ∧ y ≤ (h 73 4) - 1)) then 1 else 0)) ∧ h' = h) := by
  refine Ctr_of (by decide) (Nat.le_of_ble_eq_true rfl) ⟨Nat.le_refl _, Nat.le_refl _⟩ (fun K hK hQ _ => ?_)
  show TT K ly 0 0 0 [(0, vR 73), (1, vI x), (2, vI y)] [] h
  refine TT_iload_n hK rfl 1 rfl dX12_isPixel_0 ?_
  refine TT_iconst hK dX12_isPixel_1 ?_
  refine TT_aload_n hK rfl 0 rfl dX12_isPixel_2 ?_
  refine gf_X12_16 hK (by decide) rfl (v := (h 73) 3) rfl dX12_isPixel_3 ?_
  refine TT_iconst hK dX12_isPixel_6 ?_
  refine TT_isub hK dX12_isPixel_7 ?_
  refine iv_X12_120 hK (c_X12_within x 0 (((h 73) 3) - 1) h (by first | omega | (simp [up, setR] <;> omega)) (by first | omega | (simp [up, setR] <;> omega)) (by first | omega | (simp [up, setR] <;> omega))) ⟨by decide, by decide⟩ (by decide) rfl rfl (Nat.le_of_ble_eq_true rfl) ⟨by decide, by decide⟩ dX12_isPixel_8 ?_
  intro r9 h9 hp9
  rw [hp9.1, hp9.2]
  by_cases hz8 : 0 ≤ x ∧ x ≤ (((h 73) 3) - 1)
  · rw [if_pos hz8]
    show TT K ly 0 0 11 [(0, vR 73), (1, vI x), (2, vI y)] [vI 1] h
    refine TT_if_eq hK (tgt := 32) (by decide) dX12_isPixel_11 (by decide) (fun hb11 => ?_) (fun hb11 => ?_)
    · exact absurd hb11 (by decide)
    · refine TT_iload_n hK rfl 2 rfl dX12_isPixel_14 ?_
      refine TT_iconst hK dX12_isPixel_15 ?_
      refine TT_aload_n hK rfl 0 rfl dX12_isPixel_16 ?_
      refine gf_X12_20 hK (by decide) rfl (v := (h 73) 4) rfl dX12_isPixel_17 ?_
      refine TT_iconst hK dX12_isPixel_20 ?_
      refine TT_isub hK dX12_isPixel_21 ?_
      refine iv_X12_120 hK (c_X12_within y 0 (((h 73) 4) - 1) h (by first | omega | (simp [up, setR] <;> omega)) (by first | omega | (simp [up, setR] <;> omega)) (by first | omega | (simp [up, setR] <;> omega))) ⟨by decide, by decide⟩ (by decide) rfl rfl (Nat.le_of_ble_eq_true rfl) ⟨by decide, by decide⟩ dX12_isPixel_22 ?_
      intro r9 h9 hp9
      rw [hp9.1, hp9.2]
      by_cases hz22 : 0 ≤ y ∧ y ≤ (((h 73) 4) - 1)
      · rw [if_pos hz22]
        show TT K ly 0 0 25 [(0, vR 73), (1, vI x), (2, vI y)] [vI 1] h
        refine TT_if_eq hK (tgt := 32) (by decide) dX12_isPixel_25 (by decide) (fun hb25 => ?_) (fun hb25 => ?_)
        · exact absurd hb25 (by decide)
        · refine TT_iconst hK dX12_isPixel_28 ?_
          refine TT_goto hK (tgt := 33) dX12_isPixel_29 (by decide) ?_
          refine TT_zret hK hQ (by decide) ?_ dX12_isPixel_33
          exact ⟨congrArg (fun z => some (vI z)) (by first | exact (if_pos (by omega)).symm | exact (if_neg (by omega)).symm | (split <;> first | rfl | omega)), rfl⟩
      · rw [if_neg hz22]
        show TT K ly 0 0 25 [(0, vR 73), (1, vI x), (2, vI y)] [vI 0] h
        refine TT_if_eq hK (tgt := 32) (by decide) dX12_isPixel_25 (by decide) (fun hb25 => ?_) (fun hb25 => ?_)
        · refine TT_iconst hK dX12_isPixel_32 ?_
          refine TT_zret hK hQ (by decide) ?_ dX12_isPixel_33
          exact ⟨congrArg (fun z => some (vI z)) (by first | exact (if_pos (by omega)).symm | exact (if_neg (by omega)).symm | (split <;> first | rfl | omega)), rfl⟩
        · exact absurd hb25 (by decide)
  · rw [if_neg hz8]
    show TT K ly 0 0 11 [(0, vR 73), (1, vI x), (2, vI y)] [vI 0] h
    refine TT_if_eq hK (tgt := 32) (by decide) dX12_isPixel_11 (by decide) (fun hb11 => ?_) (fun hb11 => ?_)
    · refine TT_iconst hK dX12_isPixel_32 ?_
      refine TT_zret hK hQ (by decide) ?_ dX12_isPixel_33
      exact ⟨congrArg (fun z => some (vI z)) (by first | exact (if_pos (by omega)).symm | exact (if_neg (by omega)).symm | (split <;> first | rfl | omega)), rfl⟩
    · exact absurd hb11 (by decide)
set_option maxRecDepth 20000 in
theorem c_X12_paint_v (x y v : Int) (h : Hp_) (irx : ir_ x) (iry : ir_ y) (irv : ir_ v) (hw1 : 0 ≤ (h 73 3) ∧ (h 73 3) ≤ 8) (hw2 : 0 ≤ (h 73 4) ∧ (h 73 4) ≤ 8) (hP : ((0 ≤ x ∧ x ≤ (h 73 3) - 1) ∧ (0 ≤ y ∧ y ≤ (h 73 4) - 1))) (hv : 0 ≤ v ∧ v ≤ 255) : Ctr yX12_paint cX12_paint 4 none (rmd 2) ly ly 0 0 [vR 73, vI x, vI y, vI v] h (fun r h' => r = none ∧ h' = setO (setO h 73 (fup (h 73) 2 0)) 76 (fup (h 76) ((8 * y) + x) v)) := by
  refine Ctr_of (by decide) (Nat.le_of_ble_eq_true rfl) ⟨Nat.le_refl _, Nat.le_refl _⟩ (fun K hK hQ _ => ?_)
  show TT K ly 0 0 0 [(0, vR 73), (1, vI x), (2, vI y), (3, vI v)] [] h
  refine TT_aload_n hK rfl 0 rfl dX12_paint_0 ?_
  refine TT_aload_n hK rfl 0 rfl dX12_paint_1 ?_
  refine TT_iload_n hK rfl 1 rfl dX12_paint_2 ?_
  refine TT_iload_n hK rfl 2 rfl dX12_paint_3 ?_
  refine iv_X12_124 hK (c_X12_isPixel_73 x y h (by first | omega | (simp [up, setR] <;> omega)) (by first | omega | (simp [up, setR] <;> omega)) (by first | omega | (simp [up, setR] <;> omega)) (by first | omega | (simp [up, setR] <;> omega))) (by decide) rfl ⟨by decide, by decide⟩ (by decide) rfl rfl (Nat.le_of_ble_eq_true rfl) ⟨by decide, by decide⟩ dX12_paint_4 ?_
  intro r9 h9 hp9
  rw [hp9.1, hp9.2]
  by_cases hz4 : ((0 ≤ x ∧ x ≤ ((h 73) 3) - 1) ∧ (0 ≤ y ∧ y ≤ ((h 73) 4) - 1))
  · rw [if_pos hz4]
    show TT K ly 0 0 7 [(0, vR 73), (1, vI x), (2, vI y), (3, vI v)] [vI 1, vR 73] h
    refine TT_if_eq hK (tgt := 25) (by decide) dX12_paint_7 (by decide) (fun hb7 => ?_) (fun hb7 => ?_)
    · exact absurd hb7 (by decide)
    · refine TT_iload_n hK rfl 3 rfl dX12_paint_10 ?_
      refine TT_iconst hK dX12_paint_11 ?_
      refine TT_sipush hK (by decide) dX12_paint_12 ?_
      refine iv_X12_120 hK (c_X12_within v 0 255 h (by first | omega | (simp [up, setR] <;> omega)) (by first | omega | (simp [up, setR] <;> omega)) (by first | omega | (simp [up, setR] <;> omega))) ⟨by decide, by decide⟩ (by decide) rfl rfl (Nat.le_of_ble_eq_true rfl) ⟨by decide, by decide⟩ dX12_paint_15 ?_
      intro r9 h9 hp9
      rw [hp9.1, hp9.2]
      by_cases hz15 : 0 ≤ v ∧ v ≤ 255
      · rw [if_pos hz15]
        show TT K ly 0 0 18 [(0, vR 73), (1, vI x), (2, vI y), (3, vI v)] [vI 1, vR 73] h
        refine TT_if_eq hK (tgt := 25) (by decide) dX12_paint_18 (by decide) (fun hb18 => ?_) (fun hb18 => ?_)
        · exact absurd hb18 (by decide)
        · refine TT_iconst hK dX12_paint_21 ?_
          refine TT_goto hK (tgt := 26) dX12_paint_22 (by decide) ?_
          refine pf_X12_117 hK (by decide) rfl dX12_paint_26 ?_
          refine TT_hp (h' := setO h 73 (fup (h 73) 2 0)) (up_can rfl rfl rfl) ?_
          refine TT_aload_n hK rfl 0 rfl dX12_paint_29 ?_
          refine gf_X12_117 hK (by decide) rfl (v := 0) (rd_ (sOf_eq _ _ _) (fup_eq _ _ _)) dX12_paint_30 ?_
          refine TT_if_ne hK (tgt := 48) (by decide) dX12_paint_33 (by decide) (fun hb33 => ?_) (fun hb33 => ?_)
          · exact absurd hb33 (by decide)
          · refine TT_aload_n hK rfl 0 rfl dX12_paint_36 ?_
            refine gf_X12_23 hK (by decide) rfl (q := 76) rfl rfl dX12_paint_37 ?_
            refine TT_bipush hK (by decide) dX12_paint_40 ?_
            refine TT_iload_n hK rfl 2 rfl dX12_paint_42 ?_
            refine TT_imul hK dX12_paint_43 ?_
            refine TT_iload_n hK rfl 1 rfl dX12_paint_44 ?_
            refine TT_iadd hK dX12_paint_45 ?_
            refine TT_iload_n hK rfl 3 rfl dX12_paint_46 ?_
            refine TT_iast hK (o := 76) (n := 64) (by decide) rfl (by first | omega | (simp [up, setR] <;> omega)) (by first | omega | (simp [up, setR] <;> omega)) dX12_paint_47 ?_
            refine TT_hp (h' := setO (setO h 73 (fup (h 73) 2 0)) 76 (fup (h 76) ((8 * y) + x) v)) (up_can (sOf_ne _ _ (by decide)) rfl rfl) ?_
            refine TT_vret hK hQ ?_ dX12_paint_48
            exact ⟨rfl, rfl⟩
      · rw [if_neg hz15]
        exfalso; omega
  · rw [if_neg hz4]
    exact absurd hP hz4
set_option maxRecDepth 20000 in
theorem c_X12_paint_x (x y v : Int) (h : Hp_) (irx : ir_ x) (iry : ir_ y) (irv : ir_ v) (hw1 : 0 ≤ (h 73 3) ∧ (h 73 3) ≤ 8) (hw2 : 0 ≤ (h 73 4) ∧ (h 73 4) ≤ 8) (hV : ¬(((0 ≤ x ∧ x ≤ (h 73 3) - 1) ∧ (0 ≤ y ∧ y ≤ (h 73 4) - 1)) ∧ (0 ≤ v ∧ v ≤ 255))) : Ctr yX12_paint cX12_paint 4 none (rmd 2) ly ly 0 0 [vR 73, vI x, vI y, vI v] h (fun r h' => r = none ∧ h' = setO h 73 (fup (h 73) 2 1)) := by
  refine Ctr_of (by decide) (Nat.le_of_ble_eq_true rfl) ⟨Nat.le_refl _, Nat.le_refl _⟩ (fun K hK hQ _ => ?_)
  show TT K ly 0 0 0 [(0, vR 73), (1, vI x), (2, vI y), (3, vI v)] [] h
  refine TT_aload_n hK rfl 0 rfl dX12_paint_0 ?_
  refine TT_aload_n hK rfl 0 rfl dX12_paint_1 ?_
  refine TT_iload_n hK rfl 1 rfl dX12_paint_2 ?_
  refine TT_iload_n hK rfl 2 rfl dX12_paint_3 ?_
  refine iv_X12_124 hK (c_X12_isPixel_73 x y h (by first | omega | (simp [up, setR] <;> omega)) (by first | omega | (simp [up, setR] <;> omega)) (by first | omega | (simp [up, setR] <;> omega)) (by first | omega | (simp [up, setR] <;> omega))) (by decide) rfl ⟨by decide, by decide⟩ (by decide) rfl rfl (Nat.le_of_ble_eq_true rfl) ⟨by decide, by decide⟩ dX12_paint_4 ?_
  intro r9 h9 hp9
  rw [hp9.1, hp9.2]
  by_cases hz4 : ((0 ≤ x ∧ x ≤ ((h 73) 3) - 1) ∧ (0 ≤ y ∧ y ≤ ((h 73) 4) - 1))
  · rw [if_pos hz4]
    show TT K ly 0 0 7 [(0, vR 73), (1, vI x), (2, vI y), (3, vI v)] [vI 1, vR 73] h
    refine TT_if_eq hK (tgt := 25) (by decide) dX12_paint_7 (by decide) (fun hb7 => ?_) (fun hb7 => ?_)
    · exact absurd hb7 (by decide)
    · refine TT_iload_n hK rfl 3 rfl dX12_paint_10 ?_
      refine TT_iconst hK dX12_paint_11 ?_
      refine TT_sipush hK (by decide) dX12_paint_12 ?_
      refine iv_X12_120 hK (c_X12_within v 0 255 h (by first | omega | (simp [up, setR] <;> omega)) (by first | omega | (simp [up, setR] <;> omega)) (by first | omega | (simp [up, setR] <;> omega))) ⟨by decide, by decide⟩ (by decide) rfl rfl (Nat.le_of_ble_eq_true rfl) ⟨by decide, by decide⟩ dX12_paint_15 ?_
      intro r9 h9 hp9
      rw [hp9.1, hp9.2]
      by_cases hz15 : 0 ≤ v ∧ v ≤ 255
      · rw [if_pos hz15]
        exact absurd ⟨hz4, hz15⟩ hV
      · rw [if_neg hz15]
        show TT K ly 0 0 18 [(0, vR 73), (1, vI x), (2, vI y), (3, vI v)] [vI 0, vR 73] h
        refine TT_if_eq hK (tgt := 25) (by decide) dX12_paint_18 (by decide) (fun hb18 => ?_) (fun hb18 => ?_)
        · refine TT_iconst hK dX12_paint_25 ?_
          refine pf_X12_117 hK (by decide) rfl dX12_paint_26 ?_
          refine TT_hp (h' := setO h 73 (fup (h 73) 2 1)) (up_can rfl rfl rfl) ?_
          refine TT_aload_n hK rfl 0 rfl dX12_paint_29 ?_
          refine gf_X12_117 hK (by decide) rfl (v := 1) (rd_ (sOf_eq _ _ _) (fup_eq _ _ _)) dX12_paint_30 ?_
          refine TT_if_ne hK (tgt := 48) (by decide) dX12_paint_33 (by decide) (fun hb33 => ?_) (fun hb33 => ?_)
          · refine TT_vret hK hQ ?_ dX12_paint_48
            exact ⟨rfl, rfl⟩
          · exact absurd hb33 (by decide)
        · exact absurd hb18 (by decide)
  · rw [if_neg hz4]
    show TT K ly 0 0 7 [(0, vR 73), (1, vI x), (2, vI y), (3, vI v)] [vI 0, vR 73] h
    refine TT_if_eq hK (tgt := 25) (by decide) dX12_paint_7 (by decide) (fun hb7 => ?_) (fun hb7 => ?_)
    · refine TT_iconst hK dX12_paint_25 ?_
      refine pf_X12_117 hK (by decide) rfl dX12_paint_26 ?_
      refine TT_hp (h' := setO h 73 (fup (h 73) 2 1)) (up_can rfl rfl rfl) ?_
      refine TT_aload_n hK rfl 0 rfl dX12_paint_29 ?_
      refine gf_X12_117 hK (by decide) rfl (v := 1) (rd_ (sOf_eq _ _ _) (fup_eq _ _ _)) dX12_paint_30 ?_
      refine TT_if_ne hK (tgt := 48) (by decide) dX12_paint_33 (by decide) (fun hb33 => ?_) (fun hb33 => ?_)
      · refine TT_vret hK hQ ?_ dX12_paint_48
        exact ⟨rfl, rfl⟩
      · exact absurd hb33 (by decide)
    · exact absurd hb7 (by decide)
set_option maxRecDepth 20000 in
theorem c_X12_pixel_73 (x y : Int) (h : Hp_) (irx : ir_ x) (iry : ir_ y) (hw1 : 0 ≤ (h 73 3) ∧ (h 73 3) ≤ 8) (hw2 : 0 ≤ (h 73 4) ∧ (h 73 4) ≤ 8) : Ctr yX12_pixel cX12_pixel 3 (some .int) (rmd 2) ly ly 0 0 [vR 73, vI x, vI y] h (fun r h' => r = some (vI (if ((0 ≤ x ∧ x ≤ (h 73 3) - 1) ∧ (0 ≤ y ∧ y ≤ (h 73 4) - 1)) then (h 76) ((8 * y) + x) else -100000)) ∧ h' = setO h 73 (fup (h 73) 2 0)) := by
  refine Ctr_of (by decide) (Nat.le_of_ble_eq_true rfl) ⟨Nat.le_refl _, Nat.le_refl _⟩ (fun K hK hQ _ => ?_)
  show TT K ly 0 0 0 [(0, vR 73), (1, vI x), (2, vI y)] [] h
  refine TT_aload_n hK rfl 0 rfl dX12_pixel_0 ?_
  refine TT_iconst hK dX12_pixel_1 ?_
  refine pf_X12_117 hK (by decide) rfl dX12_pixel_2 ?_
  refine TT_hp (h' := setO h 73 (fup (h 73) 2 0)) (up_can rfl rfl rfl) ?_
  refine TT_aload_n hK rfl 0 rfl dX12_pixel_5 ?_
  refine TT_iload_n hK rfl 1 rfl dX12_pixel_6 ?_
  refine TT_iload_n hK rfl 2 rfl dX12_pixel_7 ?_
  have q8_73_3 : (setO h 73 (fup (h 73) 2 0)) 73 3 = (h 73) 3 := rd_ (sOf_eq _ _ _) (fup_ne _ _ (by decide))
  have q8_73_4 : (setO h 73 (fup (h 73) 2 0)) 73 4 = (h 73) 4 := rd_ (sOf_eq _ _ _) (fup_ne _ _ (by decide))
  refine iv_X12_124 hK (c_X12_isPixel_73 x y (setO h 73 (fup (h 73) 2 0)) (by first | omega | (simp [up, setR] <;> omega)) (by first | omega | (simp [up, setR] <;> omega)) (by rw [q8_73_3]; first | omega | (simp [up, setR] <;> omega)) (by rw [q8_73_4]; first | omega | (simp [up, setR] <;> omega))) (by decide) rfl ⟨by decide, by decide⟩ (by decide) rfl rfl (Nat.le_of_ble_eq_true rfl) ⟨by decide, by decide⟩ dX12_pixel_8 ?_
  intro r9 h9 hp9
  rw [q8_73_3, q8_73_4] at hp9
  rw [hp9.1, hp9.2]
  by_cases hz8 : ((0 ≤ x ∧ x ≤ ((h 73) 3) - 1) ∧ (0 ≤ y ∧ y ≤ ((h 73) 4) - 1))
  · rw [if_pos hz8]
    show TT K ly 0 0 11 [(0, vR 73), (1, vI x), (2, vI y)] [vI 1] (setO h 73 (fup (h 73) 2 0))
    refine TT_if_eq hK (tgt := 28) (by decide) dX12_pixel_11 (by decide) (fun hb11 => ?_) (fun hb11 => ?_)
    · exact absurd hb11 (by decide)
    · refine TT_aload_n hK rfl 0 rfl dX12_pixel_14 ?_
      refine gf_X12_23 hK (by decide) rfl (q := 76) rfl rfl dX12_pixel_15 ?_
      refine TT_bipush hK (by decide) dX12_pixel_18 ?_
      refine TT_iload_n hK rfl 2 rfl dX12_pixel_20 ?_
      refine TT_imul hK dX12_pixel_21 ?_
      refine TT_iload_n hK rfl 1 rfl dX12_pixel_22 ?_
      refine TT_iadd hK dX12_pixel_23 ?_
      refine TT_iald hK (o := 76) (n := 64) (by decide) rfl (by first | omega | (simp [up, setR] <;> omega)) (by first | omega | (simp [up, setR] <;> omega)) (v := (h 76) ((8 * y) + x)) (rd_ (sOf_ne _ _ (by decide)) rfl) dX12_pixel_24 ?_
      refine TT_goto hK (tgt := 30) dX12_pixel_25 (by decide) ?_
      refine TT_iret hK hQ ?_ dX12_pixel_30
      exact ⟨congrArg (fun z => some (vI z)) (by first | exact (if_pos (by assumption)).symm | exact (if_neg (by assumption)).symm), rfl⟩
  · rw [if_neg hz8]
    show TT K ly 0 0 11 [(0, vR 73), (1, vI x), (2, vI y)] [vI 0] (setO h 73 (fup (h 73) 2 0))
    refine TT_if_eq hK (tgt := 28) (by decide) dX12_pixel_11 (by decide) (fun hb11 => ?_) (fun hb11 => ?_)
    · refine TT_ldc hK lc_X12_128 dX12_pixel_28 ?_
      refine TT_iret hK hQ ?_ dX12_pixel_30
      exact ⟨congrArg (fun z => some (vI z)) (by first | exact (if_pos (by assumption)).symm | exact (if_neg (by assumption)).symm), rfl⟩
    · exact absurd hb11 (by decide)
set_option maxRecDepth 20000 in
theorem c_X12_encode_x (a b : Int) (h : Hp_) (ira : ir_ a) (irb : ir_ b) (hV : ¬((0 ≤ a ∧ a ≤ 3) ∧ (1 ≤ b ∧ b ≤ 3))) : Ctr yX12_encode cX12_encode 6 (some .int) (rmd 1) ly ly 0 0 [vR 73, vI a, vI b] h (fun r h' => r = some (vI (0)) ∧ h' = setO h 73 (fup (h 73) 2 1)) := by
  refine Ctr_of (by decide) (Nat.le_of_ble_eq_true rfl) ⟨Nat.le_refl _, Nat.le_refl _⟩ (fun K hK hQ _ => ?_)
  show TT K ly 0 0 0 [(0, vR 73), (1, vI a), (2, vI b)] [] h
  refine TT_aload_n hK rfl 0 rfl dX12_encode_0 ?_
  refine TT_iload_n hK rfl 1 rfl dX12_encode_1 ?_
  refine TT_iconst hK dX12_encode_2 ?_
  refine TT_iconst hK dX12_encode_3 ?_
  refine iv_X12_120 hK (c_X12_within a 0 3 h (by first | omega | (simp [up, setR] <;> omega)) (by first | omega | (simp [up, setR] <;> omega)) (by first | omega | (simp [up, setR] <;> omega))) ⟨by decide, by decide⟩ (by decide) rfl rfl (Nat.le_of_ble_eq_true rfl) ⟨by decide, by decide⟩ dX12_encode_4 ?_
  intro r9 h9 hp9
  rw [hp9.1, hp9.2]
  by_cases hz4 : 0 ≤ a ∧ a ≤ 3
  · rw [if_pos hz4]
    show TT K ly 0 0 7 [(0, vR 73), (1, vI a), (2, vI b)] [vI 1, vR 73] h
    refine TT_if_eq hK (tgt := 23) (by decide) dX12_encode_7 (by decide) (fun hb7 => ?_) (fun hb7 => ?_)
    · exact absurd hb7 (by decide)
    · refine TT_iload_n hK rfl 2 rfl dX12_encode_10 ?_
      refine TT_iconst hK dX12_encode_11 ?_
      refine TT_iconst hK dX12_encode_12 ?_
      refine iv_X12_120 hK (c_X12_within b 1 3 h (by first | omega | (simp [up, setR] <;> omega)) (by first | omega | (simp [up, setR] <;> omega)) (by first | omega | (simp [up, setR] <;> omega))) ⟨by decide, by decide⟩ (by decide) rfl rfl (Nat.le_of_ble_eq_true rfl) ⟨by decide, by decide⟩ dX12_encode_13 ?_
      intro r9 h9 hp9
      rw [hp9.1, hp9.2]
      by_cases hz13 : 1 ≤ b ∧ b ≤ 3
      · rw [if_pos hz13]
        exfalso; omega
      · rw [if_neg hz13]
        show TT K ly 0 0 16 [(0, vR 73), (1, vI a), (2, vI b)] [vI 0, vR 73] h
        refine TT_if_eq hK (tgt := 23) (by decide) dX12_encode_16 (by decide) (fun hb16 => ?_) (fun hb16 => ?_)
        · refine TT_iconst hK dX12_encode_23 ?_
          refine pf_X12_117 hK (by decide) rfl dX12_encode_24 ?_
          refine TT_hp (h' := setO h 73 (fup (h 73) 2 1)) (up_can rfl rfl rfl) ?_
          refine TT_aload_n hK rfl 0 rfl dX12_encode_27 ?_
          refine gf_X12_117 hK (by decide) rfl (v := 1) (rd_ (sOf_eq _ _ _) (fup_eq _ _ _)) dX12_encode_28 ?_
          refine TT_if_le hK (tgt := 36) (by decide) dX12_encode_31 (by decide) (fun hb31 => ?_) (fun hb31 => ?_)
          · exact absurd hb31 (by decide)
          · refine TT_iconst hK dX12_encode_34 ?_
            refine TT_iret hK hQ ?_ dX12_encode_35
            exact ⟨congrArg (fun z => some (vI z)) (by rfl), rfl⟩
        · exact absurd hb16 (by decide)
  · rw [if_neg hz4]
    show TT K ly 0 0 7 [(0, vR 73), (1, vI a), (2, vI b)] [vI 0, vR 73] h
    refine TT_if_eq hK (tgt := 23) (by decide) dX12_encode_7 (by decide) (fun hb7 => ?_) (fun hb7 => ?_)
    · refine TT_iconst hK dX12_encode_23 ?_
      refine pf_X12_117 hK (by decide) rfl dX12_encode_24 ?_
      refine TT_hp (h' := setO h 73 (fup (h 73) 2 1)) (up_can rfl rfl rfl) ?_
      refine TT_aload_n hK rfl 0 rfl dX12_encode_27 ?_
      refine gf_X12_117 hK (by decide) rfl (v := 1) (rd_ (sOf_eq _ _ _) (fup_eq _ _ _)) dX12_encode_28 ?_
      refine TT_if_le hK (tgt := 36) (by decide) dX12_encode_31 (by decide) (fun hb31 => ?_) (fun hb31 => ?_)
      · exact absurd hb31 (by decide)
      · refine TT_iconst hK dX12_encode_34 ?_
        refine TT_iret hK hQ ?_ dX12_encode_35
        exact ⟨congrArg (fun z => some (vI z)) (by rfl), rfl⟩
    · exact absurd hb7 (by decide)
set_option maxRecDepth 20000 in
theorem c_X12_stream_0 (i : Int) (h : Hp_) (iri : ir_ i) (hl : (h 73 41) = 0) : Ctr yX12_stream cX12_stream 2 (some .int) (rmd 1) ly ly 0 0 [vR 73, vI i] h (fun r h' => r = some (vI (-100000)) ∧ h' = setO h 73 (fup (h 73) 2 0)) := by
  refine Ctr_of (by decide) (Nat.le_of_ble_eq_true rfl) ⟨Nat.le_refl _, Nat.le_refl _⟩ (fun K hK hQ _ => ?_)
  show TT K ly 0 0 0 [(0, vR 73), (1, vI i)] [] h
  refine TT_aload_n hK rfl 0 rfl dX12_stream_0 ?_
  refine TT_iconst hK dX12_stream_1 ?_
  refine pf_X12_117 hK (by decide) rfl dX12_stream_2 ?_
  refine TT_hp (h' := setO h 73 (fup (h 73) 2 0)) (up_can rfl rfl rfl) ?_
  refine TT_iload_n hK rfl 1 rfl dX12_stream_5 ?_
  refine TT_iconst hK dX12_stream_6 ?_
  refine TT_aload_n hK rfl 0 rfl dX12_stream_7 ?_
  refine gf_X12_329 hK (by decide) rfl (v := (h 73) 41) (rd_ (sOf_eq _ _ _) (fup_ne _ _ (by decide))) dX12_stream_8 ?_
  refine TT_iconst hK dX12_stream_11 ?_
  refine TT_isub hK dX12_stream_12 ?_
  refine iv_X12_120 hK (c_X12_within i 0 (((h 73) 41) - 1) (setO h 73 (fup (h 73) 2 0)) (by first | omega | (simp [up, setR] <;> omega)) (by first | omega | (simp [up, setR] <;> omega)) (by first | omega | (simp [up, setR] <;> omega))) ⟨by decide, by decide⟩ (by decide) rfl rfl (Nat.le_of_ble_eq_true rfl) ⟨by decide, by decide⟩ dX12_stream_13 ?_
  intro r9 h9 hp9
  rw [hp9.1, hp9.2]
  by_cases hz13 : 0 ≤ i ∧ i ≤ (((h 73) 41) - 1)
  · rw [if_pos hz13]
    exfalso; omega
  · rw [if_neg hz13]
    show TT K ly 0 0 16 [(0, vR 73), (1, vI i)] [vI 0] (setO h 73 (fup (h 73) 2 0))
    refine TT_if_eq hK (tgt := 28) (by decide) dX12_stream_16 (by decide) (fun hb16 => ?_) (fun hb16 => ?_)
    · refine TT_ldc hK lc_X12_128 dX12_stream_28 ?_
      refine TT_iret hK hQ ?_ dX12_stream_30
      exact ⟨congrArg (fun z => some (vI z)) (by rfl), rfl⟩
    · exact absurd hb16 (by decide)
set_option maxRecDepth 20000 in
theorem c_X12_poke_0 (i b : Int) (h : Hp_) (iri : ir_ i) (irb : ir_ b) (hl : (h 73 41) = 0) : Ctr yX12_poke cX12_poke 3 (some .boolean) (rmd 1) ly ly 0 0 [vR 73, vI i, vI b] h (fun r h' => r = some (vI (0)) ∧ h' = setO h 73 (fup (h 73) 2 0)) := by
  refine Ctr_of (by decide) (Nat.le_of_ble_eq_true rfl) ⟨Nat.le_refl _, Nat.le_refl _⟩ (fun K hK hQ _ => ?_)
  show TT K ly 0 0 0 [(0, vR 73), (1, vI i), (2, vI b)] [] h
  refine TT_aload_n hK rfl 0 rfl dX12_poke_0 ?_
  refine TT_iconst hK dX12_poke_1 ?_
  refine pf_X12_117 hK (by decide) rfl dX12_poke_2 ?_
  refine TT_hp (h' := setO h 73 (fup (h 73) 2 0)) (up_can rfl rfl rfl) ?_
  refine TT_iload_n hK rfl 1 rfl dX12_poke_5 ?_
  refine TT_iconst hK dX12_poke_6 ?_
  refine TT_aload_n hK rfl 0 rfl dX12_poke_7 ?_
  refine gf_X12_329 hK (by decide) rfl (v := (h 73) 41) (rd_ (sOf_eq _ _ _) (fup_ne _ _ (by decide))) dX12_poke_8 ?_
  refine TT_iconst hK dX12_poke_11 ?_
  refine TT_isub hK dX12_poke_12 ?_
  refine iv_X12_120 hK (c_X12_within i 0 (((h 73) 41) - 1) (setO h 73 (fup (h 73) 2 0)) (by first | omega | (simp [up, setR] <;> omega)) (by first | omega | (simp [up, setR] <;> omega)) (by first | omega | (simp [up, setR] <;> omega))) ⟨by decide, by decide⟩ (by decide) rfl rfl (Nat.le_of_ble_eq_true rfl) ⟨by decide, by decide⟩ dX12_poke_13 ?_
  intro r9 h9 hp9
  rw [hp9.1, hp9.2]
  by_cases hz13 : 0 ≤ i ∧ i ≤ (((h 73) 41) - 1)
  · rw [if_pos hz13]
    exfalso; omega
  · rw [if_neg hz13]
    show TT K ly 0 0 16 [(0, vR 73), (1, vI i), (2, vI b)] [vI 0] (setO h 73 (fup (h 73) 2 0))
    refine TT_if_eq hK (tgt := 30) (by decide) dX12_poke_16 (by decide) (fun hb16 => ?_) (fun hb16 => ?_)
    · refine TT_iconst hK dX12_poke_30 ?_
      refine TT_zret hK hQ (by decide) ?_ dX12_poke_31
      exact ⟨congrArg (fun z => some (vI z)) (by rfl), rfl⟩
    · exact absurd hb16 (by decide)
set_option maxRecDepth 20000 in
theorem c_X12_isBand_73 (b : Int) (h : Hp_) (irb : ir_ b) (hc : (h 73 18) = 0) : Ctr yX12_isBand cX12_isBand 2 (some .boolean) (rmd 1) ly ly 0 0 [vR 73, vI b] h (fun r h' => r = some (vI (0)) ∧ h' = h) := by
  refine Ctr_of (by decide) (Nat.le_of_ble_eq_true rfl) ⟨Nat.le_refl _, Nat.le_refl _⟩ (fun K hK hQ _ => ?_)
  show TT K ly 0 0 0 [(0, vR 73), (1, vI b)] [] h
  refine TT_iload_n hK rfl 1 rfl dX12_isBand_0 ?_
  refine TT_iconst hK dX12_isBand_1 ?_
  refine TT_aload_n hK rfl 0 rfl dX12_isBand_2 ?_
  refine gf_X12_345 hK (by decide) rfl (v := (h 73) 18) rfl dX12_isBand_3 ?_
  refine TT_iconst hK dX12_isBand_6 ?_
  refine TT_isub hK dX12_isBand_7 ?_
  refine iv_X12_120 hK (c_X12_within b 0 (((h 73) 18) - 1) h (by first | omega | (simp [up, setR] <;> omega)) (by first | omega | (simp [up, setR] <;> omega)) (by first | omega | (simp [up, setR] <;> omega))) ⟨by decide, by decide⟩ (by decide) rfl rfl (Nat.le_of_ble_eq_true rfl) ⟨by decide, by decide⟩ dX12_isBand_8 ?_
  intro r9 h9 hp9
  rw [hp9.1, hp9.2]
  by_cases hz8 : 0 ≤ b ∧ b ≤ (((h 73) 18) - 1)
  · rw [if_pos hz8]
    exfalso; omega
  · rw [if_neg hz8]
    show TT K ly 0 0 11 [(0, vR 73), (1, vI b)] [vI 0] h
    refine TT_zret hK hQ (by decide) ?_ dX12_isBand_11
    exact ⟨congrArg (fun z => some (vI z)) (by rfl), rfl⟩
set_option maxRecDepth 20000 in
theorem c_X12_band_0 (b x : Int) (h : Hp_) (irb : ir_ b) (hc : (h 73 18) = 0) : Ctr yX12_band cX12_band 3 (some .int) (rmd 2) ly ly 0 0 [vR 73, vI b, vI x] h (fun r h' => r = some (vI (-100000)) ∧ h' = setO h 73 (fup (h 73) 2 0)) := by
  refine Ctr_of (by decide) (Nat.le_of_ble_eq_true rfl) ⟨Nat.le_refl _, Nat.le_refl _⟩ (fun K hK hQ _ => ?_)
  show TT K ly 0 0 0 [(0, vR 73), (1, vI b), (2, vI x)] [] h
  refine TT_aload_n hK rfl 0 rfl dX12_band_0 ?_
  refine TT_iconst hK dX12_band_1 ?_
  refine pf_X12_117 hK (by decide) rfl dX12_band_2 ?_
  refine TT_hp (h' := setO h 73 (fup (h 73) 2 0)) (up_can rfl rfl rfl) ?_
  refine TT_aload_n hK rfl 0 rfl dX12_band_5 ?_
  refine TT_iload_n hK rfl 1 rfl dX12_band_6 ?_
  have q7_73_18 : (setO h 73 (fup (h 73) 2 0)) 73 18 = (h 73) 18 := rd_ (sOf_eq _ _ _) (fup_ne _ _ (by decide))
  refine iv_X12_361 hK (c_X12_isBand_73 b (setO h 73 (fup (h 73) 2 0)) (by first | omega | (simp [up, setR] <;> omega)) (by rw [q7_73_18]; first | omega | (simp [up, setR] <;> omega))) (by decide) rfl ⟨by decide, by decide⟩ (by decide) rfl rfl (Nat.le_of_ble_eq_true rfl) ⟨by decide, by decide⟩ dX12_band_7 ?_
  intro r9 h9 hp9
  rw [hp9.1, hp9.2]
  show TT K ly 0 0 10 [(0, vR 73), (1, vI b), (2, vI x)] [vI 0] (setO h 73 (fup (h 73) 2 0))
  refine TT_if_ne hK (tgt := 16) (by decide) dX12_band_10 (by decide) (fun hb10 => ?_) (fun hb10 => ?_)
  · exact absurd hb10 (by decide)
  · refine TT_ldc hK lc_X12_128 dX12_band_13 ?_
    refine TT_iret hK hQ ?_ dX12_band_15
    exact ⟨congrArg (fun z => some (vI z)) (by rfl), rfl⟩
set_option maxRecDepth 20000 in
theorem c_X12_number_0 (b x y : Int) (h : Hp_) (irb : ir_ b) (hc : (h 73 18) = 0) : Ctr yX12_number cX12_number 5 (some .int) (rmd 2) ly ly 0 0 [vR 73, vI b, vI x, vI y] h (fun r h' => r = some (vI (-100000)) ∧ h' = setO h 73 (fup (h 73) 2 0)) := by
  refine Ctr_of (by decide) (Nat.le_of_ble_eq_true rfl) ⟨Nat.le_refl _, Nat.le_refl _⟩ (fun K hK hQ _ => ?_)
  show TT K ly 0 0 0 [(0, vR 73), (1, vI b), (2, vI x), (3, vI y)] [] h
  refine TT_aload_n hK rfl 0 rfl dX12_number_0 ?_
  refine TT_iconst hK dX12_number_1 ?_
  refine pf_X12_117 hK (by decide) rfl dX12_number_2 ?_
  refine TT_hp (h' := setO h 73 (fup (h 73) 2 0)) (up_can rfl rfl rfl) ?_
  refine TT_aload_n hK rfl 0 rfl dX12_number_5 ?_
  refine TT_iload_n hK rfl 1 rfl dX12_number_6 ?_
  have q7_73_18 : (setO h 73 (fup (h 73) 2 0)) 73 18 = (h 73) 18 := rd_ (sOf_eq _ _ _) (fup_ne _ _ (by decide))
  refine iv_X12_361 hK (c_X12_isBand_73 b (setO h 73 (fup (h 73) 2 0)) (by first | omega | (simp [up, setR] <;> omega)) (by rw [q7_73_18]; first | omega | (simp [up, setR] <;> omega))) (by decide) rfl ⟨by decide, by decide⟩ (by decide) rfl rfl (Nat.le_of_ble_eq_true rfl) ⟨by decide, by decide⟩ dX12_number_7 ?_
  intro r9 h9 hp9
  rw [hp9.1, hp9.2]
  show TT K ly 0 0 10 [(0, vR 73), (1, vI b), (2, vI x), (3, vI y)] [vI 0] (setO h 73 (fup (h 73) 2 0))
  refine TT_if_eq hK (tgt := 45) (by decide) dX12_number_10 (by decide) (fun hb10 => ?_) (fun hb10 => ?_)
  · refine TT_ldc hK lc_X12_128 dX12_number_45 ?_
    refine TT_iret hK hQ ?_ dX12_number_47
    exact ⟨congrArg (fun z => some (vI z)) (by rfl), rfl⟩
  · exact absurd hb10 (by decide)
set_option maxRecDepth 20000 in
theorem c_X12_codeword_0 (b i : Int) (h : Hp_) (irb : ir_ b) (hc : (h 73 18) = 0) : Ctr yX12_codeword cX12_codeword 3 (some .int) (rmd 2) ly ly 0 0 [vR 73, vI b, vI i] h (fun r h' => r = some (vI (-100000)) ∧ h' = setO h 73 (fup (h 73) 2 0)) := by
  refine Ctr_of (by decide) (Nat.le_of_ble_eq_true rfl) ⟨Nat.le_refl _, Nat.le_refl _⟩ (fun K hK hQ _ => ?_)
  show TT K ly 0 0 0 [(0, vR 73), (1, vI b), (2, vI i)] [] h
  refine TT_aload_n hK rfl 0 rfl dX12_codeword_0 ?_
  refine TT_iconst hK dX12_codeword_1 ?_
  refine pf_X12_117 hK (by decide) rfl dX12_codeword_2 ?_
  refine TT_hp (h' := setO h 73 (fup (h 73) 2 0)) (up_can rfl rfl rfl) ?_
  refine TT_aload_n hK rfl 0 rfl dX12_codeword_5 ?_
  refine TT_iload_n hK rfl 1 rfl dX12_codeword_6 ?_
  have q7_73_18 : (setO h 73 (fup (h 73) 2 0)) 73 18 = (h 73) 18 := rd_ (sOf_eq _ _ _) (fup_ne _ _ (by decide))
  refine iv_X12_361 hK (c_X12_isBand_73 b (setO h 73 (fup (h 73) 2 0)) (by first | omega | (simp [up, setR] <;> omega)) (by rw [q7_73_18]; first | omega | (simp [up, setR] <;> omega))) (by decide) rfl ⟨by decide, by decide⟩ (by decide) rfl rfl (Nat.le_of_ble_eq_true rfl) ⟨by decide, by decide⟩ dX12_codeword_7 ?_
  intro r9 h9 hp9
  rw [hp9.1, hp9.2]
  show TT K ly 0 0 10 [(0, vR 73), (1, vI b), (2, vI i)] [vI 0] (setO h 73 (fup (h 73) 2 0))
  refine TT_if_eq hK (tgt := 45) (by decide) dX12_codeword_10 (by decide) (fun hb10 => ?_) (fun hb10 => ?_)
  · refine TT_ldc hK lc_X12_128 dX12_codeword_45 ?_
    refine TT_iret hK hQ ?_ dX12_codeword_47
    exact ⟨congrArg (fun z => some (vI z)) (by rfl), rfl⟩
  · exact absurd hb10 (by decide)
set_option maxRecDepth 20000 in
theorem c_X12_least_0 (b i : Int) (h : Hp_) (irb : ir_ b) (hc : (h 73 18) = 0) : Ctr yX12_least cX12_least 3 (some .int) (rmd 2) ly ly 0 0 [vR 73, vI b, vI i] h (fun r h' => r = some (vI (-100000)) ∧ h' = setO h 73 (fup (h 73) 2 0)) := by
  refine Ctr_of (by decide) (Nat.le_of_ble_eq_true rfl) ⟨Nat.le_refl _, Nat.le_refl _⟩ (fun K hK hQ _ => ?_)
  show TT K ly 0 0 0 [(0, vR 73), (1, vI b), (2, vI i)] [] h
  refine TT_aload_n hK rfl 0 rfl dX12_least_0 ?_
  refine TT_iconst hK dX12_least_1 ?_
  refine pf_X12_117 hK (by decide) rfl dX12_least_2 ?_
  refine TT_hp (h' := setO h 73 (fup (h 73) 2 0)) (up_can rfl rfl rfl) ?_
  refine TT_aload_n hK rfl 0 rfl dX12_least_5 ?_
  refine TT_iload_n hK rfl 1 rfl dX12_least_6 ?_
  have q7_73_18 : (setO h 73 (fup (h 73) 2 0)) 73 18 = (h 73) 18 := rd_ (sOf_eq _ _ _) (fup_ne _ _ (by decide))
  refine iv_X12_361 hK (c_X12_isBand_73 b (setO h 73 (fup (h 73) 2 0)) (by first | omega | (simp [up, setR] <;> omega)) (by rw [q7_73_18]; first | omega | (simp [up, setR] <;> omega))) (by decide) rfl ⟨by decide, by decide⟩ (by decide) rfl rfl (Nat.le_of_ble_eq_true rfl) ⟨by decide, by decide⟩ dX12_least_7 ?_
  intro r9 h9 hp9
  rw [hp9.1, hp9.2]
  show TT K ly 0 0 10 [(0, vR 73), (1, vI b), (2, vI i)] [vI 0] (setO h 73 (fup (h 73) 2 0))
  refine TT_if_eq hK (tgt := 40) (by decide) dX12_least_10 (by decide) (fun hb10 => ?_) (fun hb10 => ?_)
  · refine TT_ldc hK lc_X12_128 dX12_least_40 ?_
    refine TT_iret hK hQ ?_ dX12_least_42
    exact ⟨congrArg (fun z => some (vI z)) (by rfl), rfl⟩
  · exact absurd hb10 (by decide)
set_option maxRecDepth 20000 in
theorem c_X12_decode_0 (n : Int) (h : Hp_) (irn : ir_ n) (hl : (h 73 41) = 0) : Ctr yX12_decode cX12_decode 10 (some .int) (rmd 1) ly ly 0 0 [vR 73, vI n] h (fun r h' => r = some (vI (0)) ∧ h' = setO h 73 (fup (h 73) 2 1)) := by
  refine Ctr_of (by decide) (Nat.le_of_ble_eq_true rfl) ⟨Nat.le_refl _, Nat.le_refl _⟩ (fun K hK hQ _ => ?_)
  show TT K ly 0 0 0 [(0, vR 73), (1, vI n)] [] h
  refine TT_aload_n hK rfl 0 rfl dX12_decode_0 ?_
  refine TT_iconst hK dX12_decode_1 ?_
  refine pf_X12_117 hK (by decide) rfl dX12_decode_2 ?_
  refine TT_hp (h' := setO h 73 (fup (h 73) 2 0)) (up_can rfl rfl rfl) ?_
  refine TT_iload_n hK rfl 1 rfl dX12_decode_5 ?_
  refine TT_iconst hK dX12_decode_6 ?_
  refine TT_icmp_lt hK (tgt := 76) (irm (by omega) (by omega)) (by decide) dX12_decode_7 (by decide) (fun hb7 => ?_) (fun hb7 => ?_)
  · refine TT_aload_n hK rfl 0 rfl dX12_decode_76 ?_
    refine TT_iconst hK dX12_decode_77 ?_
    have q78_73 : (setO h 73 (fup (h 73) 2 0)) 73 = fup (h 73) 2 0 := sOf_eq _ _ _
    refine iv_X12_385 hK (c_X12_refuse_73 1 (setO h 73 (fup (h 73) 2 0)) ) (by decide) rfl ⟨by decide, by decide⟩ (by decide) rfl rfl (Nat.le_of_ble_eq_true rfl) ⟨by decide, by decide⟩ dX12_decode_78 ?_
    intro r9 h9 hp9
    rw [q78_73] at hp9
    rw [hp9.1, hp9.2]
    refine TT_hp (h' := setO h 73 (fup (h 73) 2 1)) ((setO_cg rfl (fup_same _ _ _ _)).trans (setO_same _ _ _ _)) ?_
    show TT K ly 0 0 81 [(0, vR 73), (1, vI n)] [vI 0] (setO h 73 (fup (h 73) 2 1))
    refine TT_iret hK hQ ?_ dX12_decode_81
    exact ⟨congrArg (fun z => some (vI z)) (by rfl), rfl⟩
  · refine TT_iload_n hK rfl 1 rfl dX12_decode_10 ?_
    refine TT_aload_n hK rfl 0 rfl dX12_decode_11 ?_
    refine gf_X12_329 hK (by decide) rfl (v := (h 73) 41) (rd_ (sOf_eq _ _ _) (fup_ne _ _ (by decide))) dX12_decode_12 ?_
    refine TT_icmp_gt hK (tgt := 76) (irm (by omega) (by omega)) (irm (by omega) (by omega)) dX12_decode_15 (by decide) (fun hb15 => ?_) (fun hb15 => ?_)
    · refine TT_aload_n hK rfl 0 rfl dX12_decode_76 ?_
      refine TT_iconst hK dX12_decode_77 ?_
      have q78_73 : (setO h 73 (fup (h 73) 2 0)) 73 = fup (h 73) 2 0 := sOf_eq _ _ _
      refine iv_X12_385 hK (c_X12_refuse_73 1 (setO h 73 (fup (h 73) 2 0)) ) (by decide) rfl ⟨by decide, by decide⟩ (by decide) rfl rfl (Nat.le_of_ble_eq_true rfl) ⟨by decide, by decide⟩ dX12_decode_78 ?_
      intro r9 h9 hp9
      rw [q78_73] at hp9
      rw [hp9.1, hp9.2]
      refine TT_hp (h' := setO h 73 (fup (h 73) 2 1)) ((setO_cg rfl (fup_same _ _ _ _)).trans (setO_same _ _ _ _)) ?_
      show TT K ly 0 0 81 [(0, vR 73), (1, vI n)] [vI 0] (setO h 73 (fup (h 73) 2 1))
      refine TT_iret hK hQ ?_ dX12_decode_81
      exact ⟨congrArg (fun z => some (vI z)) (by rfl), rfl⟩
    · omega
set_option maxRecDepth 20000 in
theorem c_X12_decoded_0 (x y : Int) (h : Hp_) (irx : ir_ x) (iry : ir_ y) (h1 : (h 73 51) = 0) : Ctr yX12_decoded cX12_decoded 3 (some .int) (rmd 1) ly ly 0 0 [vR 73, vI x, vI y] h (fun r h' => r = some (vI (-100000)) ∧ h' = setO h 73 (fup (h 73) 2 0)) := by
  refine Ctr_of (by decide) (Nat.le_of_ble_eq_true rfl) ⟨Nat.le_refl _, Nat.le_refl _⟩ (fun K hK hQ _ => ?_)
  show TT K ly 0 0 0 [(0, vR 73), (1, vI x), (2, vI y)] [] h
  refine TT_aload_n hK rfl 0 rfl dX12_decoded_0 ?_
  refine TT_iconst hK dX12_decoded_1 ?_
  refine pf_X12_117 hK (by decide) rfl dX12_decoded_2 ?_
  refine TT_hp (h' := setO h 73 (fup (h 73) 2 0)) (up_can rfl rfl rfl) ?_
  refine TT_iload_n hK rfl 1 rfl dX12_decoded_5 ?_
  refine TT_iconst hK dX12_decoded_6 ?_
  refine TT_aload_n hK rfl 0 rfl dX12_decoded_7 ?_
  refine gf_X12_392 hK (by decide) rfl (v := (h 73) 51) (rd_ (sOf_eq _ _ _) (fup_ne _ _ (by decide))) dX12_decoded_8 ?_
  refine TT_iconst hK dX12_decoded_11 ?_
  refine TT_isub hK dX12_decoded_12 ?_
  refine iv_X12_120 hK (c_X12_within x 0 (((h 73) 51) - 1) (setO h 73 (fup (h 73) 2 0)) (by first | omega | (simp [up, setR] <;> omega)) (by first | omega | (simp [up, setR] <;> omega)) (by first | omega | (simp [up, setR] <;> omega))) ⟨by decide, by decide⟩ (by decide) rfl rfl (Nat.le_of_ble_eq_true rfl) ⟨by decide, by decide⟩ dX12_decoded_13 ?_
  intro r9 h9 hp9
  rw [hp9.1, hp9.2]
  by_cases hz13 : 0 ≤ x ∧ x ≤ (((h 73) 51) - 1)
  · rw [if_pos hz13]
    show TT K ly 0 0 16 [(0, vR 73), (1, vI x), (2, vI y)] [vI 1] (setO h 73 (fup (h 73) 2 0))
    refine TT_if_eq hK (tgt := 47) (by decide) dX12_decoded_16 (by decide) (fun hb16 => ?_) (fun hb16 => ?_)
    · exact absurd hb16 (by decide)
    · refine TT_iload_n hK rfl 2 rfl dX12_decoded_19 ?_
      refine TT_iconst hK dX12_decoded_20 ?_
      refine TT_aload_n hK rfl 0 rfl dX12_decoded_21 ?_
      refine gf_X12_395 hK (by decide) rfl (v := (h 73) 52) (rd_ (sOf_eq _ _ _) (fup_ne _ _ (by decide))) dX12_decoded_22 ?_
      refine TT_iconst hK dX12_decoded_25 ?_
      refine TT_isub hK dX12_decoded_26 ?_
      refine iv_X12_120 hK (c_X12_within y 0 (((h 73) 52) - 1) (setO h 73 (fup (h 73) 2 0)) (by first | omega | (simp [up, setR] <;> omega)) (by first | omega | (simp [up, setR] <;> omega)) (by first | omega | (simp [up, setR] <;> omega))) ⟨by decide, by decide⟩ (by decide) rfl rfl (Nat.le_of_ble_eq_true rfl) ⟨by decide, by decide⟩ dX12_decoded_27 ?_
      intro r9 h9 hp9
      rw [hp9.1, hp9.2]
      by_cases hz27 : 0 ≤ y ∧ y ≤ (((h 73) 52) - 1)
      · rw [if_pos hz27]
        show TT K ly 0 0 30 [(0, vR 73), (1, vI x), (2, vI y)] [vI 1] (setO h 73 (fup (h 73) 2 0))
        refine TT_if_eq hK (tgt := 47) (by decide) dX12_decoded_30 (by decide) (fun hb30 => ?_) (fun hb30 => ?_)
        · exact absurd hb30 (by decide)
        · refine TT_aload_n hK rfl 0 rfl dX12_decoded_33 ?_
          refine gf_X12_111 hK (by decide) rfl (q := 105) rfl rfl dX12_decoded_34 ?_
          refine TT_bipush hK (by decide) dX12_decoded_37 ?_
          refine TT_iload_n hK rfl 2 rfl dX12_decoded_39 ?_
          refine TT_imul hK dX12_decoded_40 ?_
          refine TT_iload_n hK rfl 1 rfl dX12_decoded_41 ?_
          refine TT_iadd hK dX12_decoded_42 ?_
          refine TT_iald hK (o := 105) (n := 64) (by decide) rfl (by first | omega | (simp [up, setR] <;> omega)) (by first | omega | (simp [up, setR] <;> omega)) (v := (h 105) ((8 * y) + x)) (rd_ (sOf_ne _ _ (by decide)) rfl) dX12_decoded_43 ?_
          refine TT_goto hK (tgt := 49) dX12_decoded_44 (by decide) ?_
          refine TT_iret hK hQ ?_ dX12_decoded_49
          exact ⟨congrArg (fun z => some (vI z)) (by first | rfl | omega | (split <;> first | rfl | omega)), rfl⟩
      · rw [if_neg hz27]
        show TT K ly 0 0 30 [(0, vR 73), (1, vI x), (2, vI y)] [vI 0] (setO h 73 (fup (h 73) 2 0))
        refine TT_if_eq hK (tgt := 47) (by decide) dX12_decoded_30 (by decide) (fun hb30 => ?_) (fun hb30 => ?_)
        · refine TT_ldc hK lc_X12_128 dX12_decoded_47 ?_
          refine TT_iret hK hQ ?_ dX12_decoded_49
          exact ⟨congrArg (fun z => some (vI z)) (by rfl), rfl⟩
        · exact absurd hb30 (by decide)
  · rw [if_neg hz13]
    show TT K ly 0 0 16 [(0, vR 73), (1, vI x), (2, vI y)] [vI 0] (setO h 73 (fup (h 73) 2 0))
    refine TT_if_eq hK (tgt := 47) (by decide) dX12_decoded_16 (by decide) (fun hb16 => ?_) (fun hb16 => ?_)
    · refine TT_ldc hK lc_X12_128 dX12_decoded_47 ?_
      refine TT_iret hK hQ ?_ dX12_decoded_49
      exact ⟨congrArg (fun z => some (vI z)) (by rfl), rfl⟩
    · exact absurd hb16 (by decide)
set_option maxRecDepth 20000 in
theorem c_X12_taken_0 (b : Int) (h : Hp_) (irb : ir_ b) (h1 : (h 73 55) = 0) : Ctr yX12_taken cX12_taken 2 (some .int) (rmd 1) ly ly 0 0 [vR 73, vI b] h (fun r h' => r = some (vI (-100000)) ∧ h' = setO h 73 (fup (h 73) 2 0)) := by
  refine Ctr_of (by decide) (Nat.le_of_ble_eq_true rfl) ⟨Nat.le_refl _, Nat.le_refl _⟩ (fun K hK hQ _ => ?_)
  show TT K ly 0 0 0 [(0, vR 73), (1, vI b)] [] h
  refine TT_aload_n hK rfl 0 rfl dX12_taken_0 ?_
  refine TT_iconst hK dX12_taken_1 ?_
  refine pf_X12_117 hK (by decide) rfl dX12_taken_2 ?_
  refine TT_hp (h' := setO h 73 (fup (h 73) 2 0)) (up_can rfl rfl rfl) ?_
  refine TT_iload_n hK rfl 1 rfl dX12_taken_5 ?_
  refine TT_iconst hK dX12_taken_6 ?_
  refine TT_aload_n hK rfl 0 rfl dX12_taken_7 ?_
  refine gf_X12_398 hK (by decide) rfl (v := (h 73) 55) (rd_ (sOf_eq _ _ _) (fup_ne _ _ (by decide))) dX12_taken_8 ?_
  refine TT_iconst hK dX12_taken_11 ?_
  refine TT_isub hK dX12_taken_12 ?_
  refine iv_X12_120 hK (c_X12_within b 0 (((h 73) 55) - 1) (setO h 73 (fup (h 73) 2 0)) (by first | omega | (simp [up, setR] <;> omega)) (by first | omega | (simp [up, setR] <;> omega)) (by first | omega | (simp [up, setR] <;> omega))) ⟨by decide, by decide⟩ (by decide) rfl rfl (Nat.le_of_ble_eq_true rfl) ⟨by decide, by decide⟩ dX12_taken_13 ?_
  intro r9 h9 hp9
  rw [hp9.1, hp9.2]
  by_cases hz13 : 0 ≤ b ∧ b ≤ (((h 73) 55) - 1)
  · rw [if_pos hz13]
    show TT K ly 0 0 16 [(0, vR 73), (1, vI b)] [vI 1] (setO h 73 (fup (h 73) 2 0))
    refine TT_if_eq hK (tgt := 28) (by decide) dX12_taken_16 (by decide) (fun hb16 => ?_) (fun hb16 => ?_)
    · exact absurd hb16 (by decide)
    · refine TT_aload_n hK rfl 0 rfl dX12_taken_19 ?_
      refine gf_X12_114 hK (by decide) rfl (q := 106) rfl rfl dX12_taken_20 ?_
      refine TT_iload_n hK rfl 1 rfl dX12_taken_23 ?_
      refine TT_iald hK (o := 106) (n := 10) (by decide) rfl (by first | omega | (simp [up, setR] <;> omega)) (by first | omega | (simp [up, setR] <;> omega)) (v := (h 106) b) (rd_ (sOf_ne _ _ (by decide)) rfl) dX12_taken_24 ?_
      refine TT_goto hK (tgt := 30) dX12_taken_25 (by decide) ?_
      refine TT_iret hK hQ ?_ dX12_taken_30
      exact ⟨congrArg (fun z => some (vI z)) (by first | rfl | omega | (split <;> first | rfl | omega)), rfl⟩
  · rw [if_neg hz13]
    show TT K ly 0 0 16 [(0, vR 73), (1, vI b)] [vI 0] (setO h 73 (fup (h 73) 2 0))
    refine TT_if_eq hK (tgt := 28) (by decide) dX12_taken_16 (by decide) (fun hb16 => ?_) (fun hb16 => ?_)
    · refine TT_ldc hK lc_X12_128 dX12_taken_28 ?_
      refine TT_iret hK hQ ?_ dX12_taken_30
      exact ⟨congrArg (fun z => some (vI z)) (by rfl), rfl⟩
    · exact absurd hb16 (by decide)
set_option maxRecDepth 20000 in
theorem c_X12_difference_0 (h : Hp_) (h1 : (h 73 3) = 1) (h2 : (h 73 51) = 0) : Ctr yX12_difference cX12_difference 5 (some .int) (rmd 0) ly ly 0 0 [vR 73] h (fun r h' => r = some (vI (-100000)) ∧ h' = setO h 73 (fup (h 73) 2 0)) := by
  refine Ctr_of (by decide) (Nat.le_of_ble_eq_true rfl) ⟨Nat.le_refl _, Nat.le_refl _⟩ (fun K hK hQ _ => ?_)
  show TT K ly 0 0 0 [(0, vR 73)] [] h
  refine TT_aload_n hK rfl 0 rfl dX12_difference_0 ?_
  refine TT_iconst hK dX12_difference_1 ?_
  refine pf_X12_117 hK (by decide) rfl dX12_difference_2 ?_
  refine TT_hp (h' := setO h 73 (fup (h 73) 2 0)) (up_can rfl rfl rfl) ?_
  refine TT_aload_n hK rfl 0 rfl dX12_difference_5 ?_
  refine gf_X12_16 hK (by decide) rfl (v := (h 73) 3) (rd_ (sOf_eq _ _ _) (fup_ne _ _ (by decide))) dX12_difference_6 ?_
  refine TT_aload_n hK rfl 0 rfl dX12_difference_9 ?_
  refine gf_X12_392 hK (by decide) rfl (v := (h 73) 51) (rd_ (sOf_eq _ _ _) (fup_ne _ _ (by decide))) dX12_difference_10 ?_
  refine TT_icmp_ne hK (tgt := 27) (irm (by omega) (by omega)) (irm (by omega) (by omega)) dX12_difference_13 (by decide) (fun hb13 => ?_) (fun hb13 => ?_)
  · refine TT_ldc hK lc_X12_128 dX12_difference_27 ?_
    refine TT_iret hK hQ ?_ dX12_difference_29
    exact ⟨congrArg (fun z => some (vI z)) (by rfl), rfl⟩
  · omega

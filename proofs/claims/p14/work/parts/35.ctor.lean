/-! the constructors, one object after another, in the order in which the law makes them -/
def rmk (d c s : Nat) : Room := { frames := d, cells := c, slots := s, locals := 40 * d }
abbrev HZ : Hp_ := fun _ _ => 0
def lz_0 : List (Nat × Nat) := []
def lz_1 : List (Nat × Nat) := (1, 0) :: lz_0
set_option maxRecDepth 20000 in
theorem ci_1 : Ctr yX5_init cX5_init 1 none (rmk 1 1 64) (2, rL lz_0) (3, rL lz_1) 1 64 [vR 1] HZ (fun r h' => r = none ∧ h' = HZ) := by
  refine Ctr_of (by decide) (by decide) ⟨Nat.le_refl _, Nat.le_refl _⟩ (fun K hK hQ hN => ?_)
  show TT K (2, rL lz_0) 0 0 0 [(0, vR 1)] [] HZ
  refine TT_aload_n hK rfl 0 rfl dX5_init_0 ?_
  refine TT_objInit hK (gd_ (tb_1 33 rfl) rfl) (gd_ (tb_1 26 rfl) rfl) (gd_ (tb_1 27 rfl) rfl) (by decide) (by decide) dX5_init_1 ?_
  show TT K (2, rL lz_0) 0 0 4 [(0, vR 1)] [] HZ
  refine TT_aload_n hK rfl 0 rfl dX5_init_4 ?_
  refine TT_bipush hK (by decide) dX5_init_5 ?_
  refine TT_newa hK (t := 12) (N := 64) (ty := .int) rfl (gd_ (tb_1 46 rfl) rfl) (by decide) rfl (fun _ => rfl) (by decide +kernel) (by decide) (by decide) (by decide) (by decide) (by decide) rfl rfl (by decide) (Nat.le_of_ble_eq_true rfl) dX5_init_7 ?_
  show TT K (3, rL lz_0) 1 64 9 [(0, vR 1)] [vR 2, vR 1] HZ
  refine TT_putR hK hN (ci := 5) (k := 0) (q := 2) (T := TX5) (N := 3) rfl uin_5 (by decide) rfl (gd_ (tb_1 34 rfl) rfl) (by decide) rfl (by decide) tyX5_ok nmX5 rfl rfl (fun _ => ⟨rfl, rfl⟩) (by decide) rfl rfl dX5_init_9 ?_
  show TT K (3, rL lz_1) 1 64 12 [(0, vR 1)] [] HZ
  exact TT_vret hK hQ ⟨rfl, rfl⟩ dX5_init_12
def lz_2 : List (Nat × Nat) := (0, 0) :: lz_1
def lz_3 : List (Nat × Nat) := (3, 0) :: lz_2
set_option maxRecDepth 20000 in
theorem ci_3 : Ctr yX5_init cX5_init 1 none (rmk 1 1 64) (4, rL lz_2) (5, rL lz_3) 1 64 [vR 3] HZ (fun r h' => r = none ∧ h' = HZ) := by
  refine Ctr_of (by decide) (by decide) ⟨Nat.le_refl _, Nat.le_refl _⟩ (fun K hK hQ hN => ?_)
  show TT K (4, rL lz_2) 0 0 0 [(0, vR 3)] [] HZ
  refine TT_aload_n hK rfl 0 rfl dX5_init_0 ?_
  refine TT_objInit hK (gd_ (tb_1 33 rfl) rfl) (gd_ (tb_1 26 rfl) rfl) (gd_ (tb_1 27 rfl) rfl) (by decide) (by decide) dX5_init_1 ?_
  show TT K (4, rL lz_2) 0 0 4 [(0, vR 3)] [] HZ
  refine TT_aload_n hK rfl 0 rfl dX5_init_4 ?_
  refine TT_bipush hK (by decide) dX5_init_5 ?_
  refine TT_newa hK (t := 12) (N := 64) (ty := .int) rfl (gd_ (tb_1 46 rfl) rfl) (by decide) rfl (fun _ => rfl) (by decide +kernel) (by decide) (by decide) (by decide) (by decide) (by decide) rfl rfl (by decide) (Nat.le_of_ble_eq_true rfl) dX5_init_7 ?_
  show TT K (5, rL lz_2) 1 64 9 [(0, vR 3)] [vR 4, vR 3] HZ
  refine TT_putR hK hN (ci := 5) (k := 0) (q := 4) (T := TX5) (N := 3) rfl uin_5 (by decide) rfl (gd_ (tb_1 34 rfl) rfl) (by decide) rfl (by decide) tyX5_ok nmX5 rfl rfl (fun _ => ⟨rfl, rfl⟩) (by decide) rfl rfl dX5_init_9 ?_
  show TT K (5, rL lz_3) 1 64 12 [(0, vR 3)] [] HZ
  exact TT_vret hK hQ ⟨rfl, rfl⟩ dX5_init_12
def lz_4 : List (Nat × Nat) := (0, 1) :: lz_3
def lz_5 : List (Nat × Nat) := (5, 0) :: lz_4
set_option maxRecDepth 20000 in
theorem ci_5 : Ctr yX1_init cX1_init 1 none (rmk 1 1 1024) (6, rL lz_4) (7, rL lz_5) 1 1024 [vR 5] HZ (fun r h' => r = none ∧ h' = HZ) := by
  refine Ctr_of (by decide) (by decide) ⟨Nat.le_refl _, Nat.le_refl _⟩ (fun K hK hQ hN => ?_)
  show TT K (6, rL lz_4) 0 0 0 [(0, vR 5)] [] HZ
  refine TT_aload_n hK rfl 0 rfl dX1_init_0 ?_
  refine TT_objInit hK (gd_ (tb_1 52 rfl) rfl) (gd_ (tb_1 26 rfl) rfl) (gd_ (tb_1 27 rfl) rfl) (by decide) (by decide) dX1_init_1 ?_
  show TT K (6, rL lz_4) 0 0 4 [(0, vR 5)] [] HZ
  refine TT_aload_n hK rfl 0 rfl dX1_init_4 ?_
  refine TT_sipush hK (by decide) dX1_init_5 ?_
  refine TT_newa hK (t := 12) (N := 1024) (ty := .int) rfl (gd_ (tb_1 46 rfl) rfl) (by decide) rfl (fun _ => rfl) (by decide +kernel) (by decide) (by decide) (by decide) (by decide) (by decide) rfl rfl (by decide) (Nat.le_of_ble_eq_true rfl) dX1_init_8 ?_
  show TT K (7, rL lz_4) 1 1024 10 [(0, vR 5)] [vR 6, vR 5] HZ
  refine TT_putR hK hN (ci := 1) (k := 0) (q := 6) (T := TX1) (N := 5) rfl uin_1 (by decide) rfl (gd_ (tb_1 53 rfl) rfl) (by decide) rfl (by decide) tyX1_ok nmX1 rfl rfl (fun _ => ⟨rfl, rfl⟩) (by decide) rfl rfl dX1_init_10 ?_
  show TT K (7, rL lz_5) 1 1024 13 [(0, vR 5)] [] HZ
  exact TT_vret hK hQ ⟨rfl, rfl⟩ dX1_init_13
def lz_6 : List (Nat × Nat) := (0, 2) :: lz_5
def lz_7 : List (Nat × Nat) := (8, 0) :: lz_6
def lz_8 : List (Nat × Nat) := (8, 1) :: lz_7
def lz_9 : List (Nat × Nat) := (8, 2) :: lz_8
def lz_10 : List (Nat × Nat) := (8, 3) :: lz_9
def lz_11 : List (Nat × Nat) := (8, 4) :: lz_10
def lz_12 : List (Nat × Nat) := (8, 5) :: lz_11
def lz_13 : List (Nat × Nat) := (8, 6) :: lz_12
set_option maxRecDepth 20000 in
theorem ci_8 : Ctr yX0_init cX0_init 1 none (rmk 1 7 120) (9, rL lz_6) (16, rL lz_13) 7 120 [vR 8] HZ (fun r h' => r = none ∧ h' = HZ) := by
  refine Ctr_of (by decide) (by decide) ⟨Nat.le_refl _, Nat.le_refl _⟩ (fun K hK hQ hN => ?_)
  show TT K (9, rL lz_6) 0 0 0 [(0, vR 8)] [] HZ
  refine TT_aload_n hK rfl 0 rfl dX0_init_0 ?_
  refine TT_objInit hK (gd_ (tb_1 80 rfl) rfl) (gd_ (tb_1 26 rfl) rfl) (gd_ (tb_1 27 rfl) rfl) (by decide) (by decide) dX0_init_1 ?_
  show TT K (9, rL lz_6) 0 0 4 [(0, vR 8)] [] HZ
  refine TT_aload_n hK rfl 0 rfl dX0_init_4 ?_
  refine TT_bipush hK (by decide) dX0_init_5 ?_
  refine TT_newa hK (t := 12) (N := 64) (ty := .int) rfl (gd_ (tb_1 46 rfl) rfl) (by decide) rfl (fun _ => rfl) (by decide +kernel) (by decide) (by decide) (by decide) (by decide) (by decide) rfl rfl (by decide) (Nat.le_of_ble_eq_true rfl) dX0_init_7 ?_
  show TT K (10, rL lz_6) 1 64 9 [(0, vR 8)] [vR 9, vR 8] HZ
  refine TT_putR hK hN (ci := 0) (k := 0) (q := 9) (T := TX0) (N := 11) rfl uin_0 (by decide) rfl (gd_ (tb_1 81 rfl) rfl) (by decide) rfl (by decide) tyX0_ok nmX0 rfl rfl (fun _ => ⟨rfl, rfl⟩) (by decide) rfl rfl dX0_init_9 ?_
  show TT K (10, rL lz_7) 1 64 12 [(0, vR 8)] [] HZ
  refine TT_aload_n hK rfl 0 rfl dX0_init_12 ?_
  refine TT_bipush hK (by decide) dX0_init_13 ?_
  refine TT_newa hK (t := 12) (N := 10) (ty := .int) rfl (gd_ (tb_1 46 rfl) rfl) (by decide) rfl (fun _ => rfl) (by decide +kernel) (by decide) (by decide) (by decide) (by decide) (by decide) rfl rfl (by decide) (Nat.le_of_ble_eq_true rfl) dX0_init_15 ?_
  show TT K (11, rL lz_7) 2 74 17 [(0, vR 8)] [vR 10, vR 8] HZ
  refine TT_putR hK hN (ci := 0) (k := 1) (q := 10) (T := TX0) (N := 11) rfl uin_0 (by decide) rfl (gd_ (tb_1 82 rfl) rfl) (by decide) rfl (by decide) tyX0_ok nmX0 rfl rfl (fun _ => ⟨rfl, rfl⟩) (by decide) rfl rfl dX0_init_17 ?_
  show TT K (11, rL lz_8) 2 74 20 [(0, vR 8)] [] HZ
  refine TT_aload_n hK rfl 0 rfl dX0_init_20 ?_
  refine TT_bipush hK (by decide) dX0_init_21 ?_
  refine TT_newa hK (t := 12) (N := 10) (ty := .int) rfl (gd_ (tb_1 46 rfl) rfl) (by decide) rfl (fun _ => rfl) (by decide +kernel) (by decide) (by decide) (by decide) (by decide) (by decide) rfl rfl (by decide) (Nat.le_of_ble_eq_true rfl) dX0_init_23 ?_
  show TT K (12, rL lz_8) 3 84 25 [(0, vR 8)] [vR 11, vR 8] HZ
  refine TT_putR hK hN (ci := 0) (k := 2) (q := 11) (T := TX0) (N := 11) rfl uin_0 (by decide) rfl (gd_ (tb_1 83 rfl) rfl) (by decide) rfl (by decide) tyX0_ok nmX0 rfl rfl (fun _ => ⟨rfl, rfl⟩) (by decide) rfl rfl dX0_init_25 ?_
  show TT K (12, rL lz_9) 3 84 28 [(0, vR 8)] [] HZ
  refine TT_aload_n hK rfl 0 rfl dX0_init_28 ?_
  refine TT_bipush hK (by decide) dX0_init_29 ?_
  refine TT_newa hK (t := 12) (N := 10) (ty := .int) rfl (gd_ (tb_1 46 rfl) rfl) (by decide) rfl (fun _ => rfl) (by decide +kernel) (by decide) (by decide) (by decide) (by decide) (by decide) rfl rfl (by decide) (Nat.le_of_ble_eq_true rfl) dX0_init_31 ?_
  show TT K (13, rL lz_9) 4 94 33 [(0, vR 8)] [vR 12, vR 8] HZ
  refine TT_putR hK hN (ci := 0) (k := 3) (q := 12) (T := TX0) (N := 11) rfl uin_0 (by decide) rfl (gd_ (tb_1 84 rfl) rfl) (by decide) rfl (by decide) tyX0_ok nmX0 rfl rfl (fun _ => ⟨rfl, rfl⟩) (by decide) rfl rfl dX0_init_33 ?_
  show TT K (13, rL lz_10) 4 94 36 [(0, vR 8)] [] HZ
  refine TT_aload_n hK rfl 0 rfl dX0_init_36 ?_
  refine TT_bipush hK (by decide) dX0_init_37 ?_
  refine TT_newa hK (t := 12) (N := 10) (ty := .int) rfl (gd_ (tb_1 46 rfl) rfl) (by decide) rfl (fun _ => rfl) (by decide +kernel) (by decide) (by decide) (by decide) (by decide) (by decide) rfl rfl (by decide) (Nat.le_of_ble_eq_true rfl) dX0_init_39 ?_
  show TT K (14, rL lz_10) 5 104 41 [(0, vR 8)] [vR 13, vR 8] HZ
  refine TT_putR hK hN (ci := 0) (k := 4) (q := 13) (T := TX0) (N := 11) rfl uin_0 (by decide) rfl (gd_ (tb_1 87 rfl) rfl) (by decide) rfl (by decide) tyX0_ok nmX0 rfl rfl (fun _ => ⟨rfl, rfl⟩) (by decide) rfl rfl dX0_init_41 ?_
  show TT K (14, rL lz_11) 5 104 44 [(0, vR 8)] [] HZ
  refine TT_aload_n hK rfl 0 rfl dX0_init_44 ?_
  refine TT_bipush hK (by decide) dX0_init_45 ?_
  refine TT_newa hK (t := 12) (N := 8) (ty := .int) rfl (gd_ (tb_1 46 rfl) rfl) (by decide) rfl (fun _ => rfl) (by decide +kernel) (by decide) (by decide) (by decide) (by decide) (by decide) rfl rfl (by decide) (Nat.le_of_ble_eq_true rfl) dX0_init_47 ?_
  show TT K (15, rL lz_11) 6 112 49 [(0, vR 8)] [vR 14, vR 8] HZ
  refine TT_putR hK hN (ci := 0) (k := 5) (q := 14) (T := TX0) (N := 11) rfl uin_0 (by decide) rfl (gd_ (tb_1 90 rfl) rfl) (by decide) rfl (by decide) tyX0_ok nmX0 rfl rfl (fun _ => ⟨rfl, rfl⟩) (by decide) rfl rfl dX0_init_49 ?_
  show TT K (15, rL lz_12) 6 112 52 [(0, vR 8)] [] HZ
  refine TT_aload_n hK rfl 0 rfl dX0_init_52 ?_
  refine TT_bipush hK (by decide) dX0_init_53 ?_
  refine TT_newa hK (t := 12) (N := 8) (ty := .int) rfl (gd_ (tb_1 46 rfl) rfl) (by decide) rfl (fun _ => rfl) (by decide +kernel) (by decide) (by decide) (by decide) (by decide) (by decide) rfl rfl (by decide) (Nat.le_of_ble_eq_true rfl) dX0_init_55 ?_
  show TT K (16, rL lz_12) 7 120 57 [(0, vR 8)] [vR 15, vR 8] HZ
  refine TT_putR hK hN (ci := 0) (k := 6) (q := 15) (T := TX0) (N := 11) rfl uin_0 (by decide) rfl (gd_ (tb_1 91 rfl) rfl) (by decide) rfl (by decide) tyX0_ok nmX0 rfl rfl (fun _ => ⟨rfl, rfl⟩) (by decide) rfl rfl dX0_init_57 ?_
  show TT K (16, rL lz_13) 7 120 60 [(0, vR 8)] [] HZ
  exact TT_vret hK hQ ⟨rfl, rfl⟩ dX0_init_60
def lz_14 : List (Nat × Nat) := (7, 0) :: lz_13
def lz_15 : List (Nat × Nat) := (7, 1) :: lz_14
def lz_16 : List (Nat × Nat) := (7, 2) :: lz_15
def lz_17 : List (Nat × Nat) := (7, 3) :: lz_16
def lz_18 : List (Nat × Nat) := (7, 4) :: lz_17
def lz_19 : List (Nat × Nat) := (7, 5) :: lz_18
def lz_20 : List (Nat × Nat) := (7, 6) :: lz_19
def lz_21 : List (Nat × Nat) := (22, 0) :: lz_20
set_option maxRecDepth 20000 in
theorem ci_22 : Ctr yX1_init cX1_init 1 none (rmk 1 1 1024) (23, rL lz_20) (24, rL lz_21) 1 1024 [vR 22] HZ (fun r h' => r = none ∧ h' = HZ) := by
  refine Ctr_of (by decide) (by decide) ⟨Nat.le_refl _, Nat.le_refl _⟩ (fun K hK hQ hN => ?_)
  show TT K (23, rL lz_20) 0 0 0 [(0, vR 22)] [] HZ
  refine TT_aload_n hK rfl 0 rfl dX1_init_0 ?_
  refine TT_objInit hK (gd_ (tb_1 52 rfl) rfl) (gd_ (tb_1 26 rfl) rfl) (gd_ (tb_1 27 rfl) rfl) (by decide) (by decide) dX1_init_1 ?_
  show TT K (23, rL lz_20) 0 0 4 [(0, vR 22)] [] HZ
  refine TT_aload_n hK rfl 0 rfl dX1_init_4 ?_
  refine TT_sipush hK (by decide) dX1_init_5 ?_
  refine TT_newa hK (t := 12) (N := 1024) (ty := .int) rfl (gd_ (tb_1 46 rfl) rfl) (by decide) rfl (fun _ => rfl) (by decide +kernel) (by decide) (by decide) (by decide) (by decide) (by decide) rfl rfl (by decide) (Nat.le_of_ble_eq_true rfl) dX1_init_8 ?_
  show TT K (24, rL lz_20) 1 1024 10 [(0, vR 22)] [vR 23, vR 22] HZ
  refine TT_putR hK hN (ci := 1) (k := 0) (q := 23) (T := TX1) (N := 5) rfl uin_1 (by decide) rfl (gd_ (tb_1 53 rfl) rfl) (by decide) rfl (by decide) tyX1_ok nmX1 rfl rfl (fun _ => ⟨rfl, rfl⟩) (by decide) rfl rfl dX1_init_10 ?_
  show TT K (24, rL lz_21) 1 1024 13 [(0, vR 22)] [] HZ
  exact TT_vret hK hQ ⟨rfl, rfl⟩ dX1_init_13
def lz_22 : List (Nat × Nat) := (7, 7) :: lz_21
def lz_23 : List (Nat × Nat) := (24, 0) :: lz_22
def lz_24 : List (Nat × Nat) := (24, 1) :: lz_23
def lz_25 : List (Nat × Nat) := (24, 2) :: lz_24
set_option maxRecDepth 20000 in
theorem ci_24 : Ctr yX7_init cX7_init 1 none (rmk 1 3 2082) (25, rL lz_22) (28, rL lz_25) 3 2082 [vR 24] HZ (fun r h' => r = none ∧ h' = HZ) := by
  refine Ctr_of (by decide) (by decide) ⟨Nat.le_refl _, Nat.le_refl _⟩ (fun K hK hQ hN => ?_)
  show TT K (25, rL lz_22) 0 0 0 [(0, vR 24)] [] HZ
  refine TT_aload_n hK rfl 0 rfl dX7_init_0 ?_
  refine TT_objInit hK (gd_ (tb_1 128 rfl) rfl) (gd_ (tb_1 26 rfl) rfl) (gd_ (tb_1 27 rfl) rfl) (by decide) (by decide) dX7_init_1 ?_
  show TT K (25, rL lz_22) 0 0 4 [(0, vR 24)] [] HZ
  refine TT_aload_n hK rfl 0 rfl dX7_init_4 ?_
  refine TT_sipush hK (by decide) dX7_init_5 ?_
  refine TT_newa hK (t := 12) (N := 1024) (ty := .int) rfl (gd_ (tb_1 46 rfl) rfl) (by decide) rfl (fun _ => rfl) (by decide +kernel) (by decide) (by decide) (by decide) (by decide) (by decide) rfl rfl (by decide) (Nat.le_of_ble_eq_true rfl) dX7_init_8 ?_
  show TT K (26, rL lz_22) 1 1024 10 [(0, vR 24)] [vR 25, vR 24] HZ
  refine TT_putR hK hN (ci := 7) (k := 0) (q := 25) (T := TX7) (N := 5) rfl uin_7 (by decide) rfl (gd_ (tb_1 129 rfl) rfl) (by decide) rfl (by decide) tyX7_ok nmX7 rfl rfl (fun _ => ⟨rfl, rfl⟩) (by decide) rfl rfl dX7_init_10 ?_
  show TT K (26, rL lz_23) 1 1024 13 [(0, vR 24)] [] HZ
  refine TT_aload_n hK rfl 0 rfl dX7_init_13 ?_
  refine TT_sipush hK (by decide) dX7_init_14 ?_
  refine TT_newa hK (t := 12) (N := 1024) (ty := .int) rfl (gd_ (tb_1 46 rfl) rfl) (by decide) rfl (fun _ => rfl) (by decide +kernel) (by decide) (by decide) (by decide) (by decide) (by decide) rfl rfl (by decide) (Nat.le_of_ble_eq_true rfl) dX7_init_17 ?_
  show TT K (27, rL lz_23) 2 2048 19 [(0, vR 24)] [vR 26, vR 24] HZ
  refine TT_putR hK hN (ci := 7) (k := 1) (q := 26) (T := TX7) (N := 5) rfl uin_7 (by decide) rfl (gd_ (tb_1 130 rfl) rfl) (by decide) rfl (by decide) tyX7_ok nmX7 rfl rfl (fun _ => ⟨rfl, rfl⟩) (by decide) rfl rfl dX7_init_19 ?_
  show TT K (27, rL lz_24) 2 2048 22 [(0, vR 24)] [] HZ
  refine TT_aload_n hK rfl 0 rfl dX7_init_22 ?_
  refine TT_bipush hK (by decide) dX7_init_23 ?_
  refine TT_newa hK (t := 12) (N := 34) (ty := .int) rfl (gd_ (tb_1 46 rfl) rfl) (by decide) rfl (fun _ => rfl) (by decide +kernel) (by decide) (by decide) (by decide) (by decide) (by decide) rfl rfl (by decide) (Nat.le_of_ble_eq_true rfl) dX7_init_25 ?_
  show TT K (28, rL lz_24) 3 2082 27 [(0, vR 24)] [vR 27, vR 24] HZ
  refine TT_putR hK hN (ci := 7) (k := 2) (q := 27) (T := TX7) (N := 5) rfl uin_7 (by decide) rfl (gd_ (tb_1 131 rfl) rfl) (by decide) rfl (by decide) tyX7_ok nmX7 rfl rfl (fun _ => ⟨rfl, rfl⟩) (by decide) rfl rfl dX7_init_27 ?_
  show TT K (28, rL lz_25) 3 2082 30 [(0, vR 24)] [] HZ
  exact TT_vret hK hQ ⟨rfl, rfl⟩ dX7_init_30
def lz_26 : List (Nat × Nat) := (7, 8) :: lz_25
def lz_27 : List (Nat × Nat) := (28, 1) :: lz_26
def lz_28 : List (Nat × Nat) := (28, 2) :: lz_27
def lz_29 : List (Nat × Nat) := (28, 3) :: lz_28
def lz_30 : List (Nat × Nat) := (28, 4) :: lz_29
def lz_31 : List (Nat × Nat) := (28, 5) :: lz_30
def lz_32 : List (Nat × Nat) := (28, 0) :: lz_31
set_option maxRecDepth 20000 in
theorem ci_28 : Ctr yX4_init cX4_init 2 none (rmk 1 5 500) (29, rL lz_26) (34, rL lz_32) 5 500 [vR 28, vR 24] HZ (fun r h' => r = none ∧ h' = HZ) := by
  refine Ctr_of (by decide) (by decide) ⟨Nat.le_refl _, Nat.le_refl _⟩ (fun K hK hQ hN => ?_)
  show TT K (29, rL lz_26) 0 0 0 [(0, vR 28), (1, vR 24)] [] HZ
  refine TT_aload_n hK rfl 0 rfl dX4_init_0 ?_
  refine TT_objInit hK (gd_ (tb_1 150 rfl) rfl) (gd_ (tb_1 26 rfl) rfl) (gd_ (tb_1 27 rfl) rfl) (by decide) (by decide) dX4_init_1 ?_
  show TT K (29, rL lz_26) 0 0 4 [(0, vR 28), (1, vR 24)] [] HZ
  refine TT_aload_n hK rfl 0 rfl dX4_init_4 ?_
  refine TT_bipush hK (by decide) dX4_init_5 ?_
  refine TT_newa hK (t := 12) (N := 100) (ty := .int) rfl (gd_ (tb_1 46 rfl) rfl) (by decide) rfl (fun _ => rfl) (by decide +kernel) (by decide) (by decide) (by decide) (by decide) (by decide) rfl rfl (by decide) (Nat.le_of_ble_eq_true rfl) dX4_init_7 ?_
  show TT K (30, rL lz_26) 1 100 9 [(0, vR 28), (1, vR 24)] [vR 29, vR 28] HZ
  refine TT_putR hK hN (ci := 4) (k := 1) (q := 29) (T := TX4) (N := 10) rfl uin_4 (by decide) rfl (gd_ (tb_1 152 rfl) rfl) (by decide) rfl (by decide) tyX4_ok nmX4 rfl rfl (fun _ => ⟨rfl, rfl⟩) (by decide) rfl rfl dX4_init_9 ?_
  show TT K (30, rL lz_27) 1 100 12 [(0, vR 28), (1, vR 24)] [] HZ
  refine TT_aload_n hK rfl 0 rfl dX4_init_12 ?_
  refine TT_bipush hK (by decide) dX4_init_13 ?_
  refine TT_newa hK (t := 12) (N := 100) (ty := .int) rfl (gd_ (tb_1 46 rfl) rfl) (by decide) rfl (fun _ => rfl) (by decide +kernel) (by decide) (by decide) (by decide) (by decide) (by decide) rfl rfl (by decide) (Nat.le_of_ble_eq_true rfl) dX4_init_15 ?_
  show TT K (31, rL lz_27) 2 200 17 [(0, vR 28), (1, vR 24)] [vR 30, vR 28] HZ
  refine TT_putR hK hN (ci := 4) (k := 2) (q := 30) (T := TX4) (N := 10) rfl uin_4 (by decide) rfl (gd_ (tb_1 153 rfl) rfl) (by decide) rfl (by decide) tyX4_ok nmX4 rfl rfl (fun _ => ⟨rfl, rfl⟩) (by decide) rfl rfl dX4_init_17 ?_
  show TT K (31, rL lz_28) 2 200 20 [(0, vR 28), (1, vR 24)] [] HZ
  refine TT_aload_n hK rfl 0 rfl dX4_init_20 ?_
  refine TT_bipush hK (by decide) dX4_init_21 ?_
  refine TT_newa hK (t := 12) (N := 100) (ty := .int) rfl (gd_ (tb_1 46 rfl) rfl) (by decide) rfl (fun _ => rfl) (by decide +kernel) (by decide) (by decide) (by decide) (by decide) (by decide) rfl rfl (by decide) (Nat.le_of_ble_eq_true rfl) dX4_init_23 ?_
  show TT K (32, rL lz_28) 3 300 25 [(0, vR 28), (1, vR 24)] [vR 31, vR 28] HZ
  refine TT_putR hK hN (ci := 4) (k := 3) (q := 31) (T := TX4) (N := 10) rfl uin_4 (by decide) rfl (gd_ (tb_1 154 rfl) rfl) (by decide) rfl (by decide) tyX4_ok nmX4 rfl rfl (fun _ => ⟨rfl, rfl⟩) (by decide) rfl rfl dX4_init_25 ?_
  show TT K (32, rL lz_29) 3 300 28 [(0, vR 28), (1, vR 24)] [] HZ
  refine TT_aload_n hK rfl 0 rfl dX4_init_28 ?_
  refine TT_bipush hK (by decide) dX4_init_29 ?_
  refine TT_newa hK (t := 13) (N := 100) (ty := .boolean) rfl (gd_ (tb_1 182 rfl) rfl) (by decide) rfl (fun _ => rfl) (by decide +kernel) (by decide) (by decide) (by decide) (by decide) (by decide) rfl rfl (by decide) (Nat.le_of_ble_eq_true rfl) dX4_init_31 ?_
  show TT K (33, rL lz_29) 4 400 33 [(0, vR 28), (1, vR 24)] [vR 32, vR 28] HZ
  refine TT_putR hK hN (ci := 4) (k := 4) (q := 32) (T := TX4) (N := 10) rfl uin_4 (by decide) rfl (gd_ (tb_1 155 rfl) rfl) (by decide) rfl (by decide) tyX4_ok nmX4 rfl rfl (fun _ => ⟨rfl, rfl⟩) (by decide) rfl rfl dX4_init_33 ?_
  show TT K (33, rL lz_30) 4 400 36 [(0, vR 28), (1, vR 24)] [] HZ
  refine TT_aload_n hK rfl 0 rfl dX4_init_36 ?_
  refine TT_bipush hK (by decide) dX4_init_37 ?_
  refine TT_newa hK (t := 13) (N := 100) (ty := .boolean) rfl (gd_ (tb_1 182 rfl) rfl) (by decide) rfl (fun _ => rfl) (by decide +kernel) (by decide) (by decide) (by decide) (by decide) (by decide) rfl rfl (by decide) (Nat.le_of_ble_eq_true rfl) dX4_init_39 ?_
  show TT K (34, rL lz_30) 5 500 41 [(0, vR 28), (1, vR 24)] [vR 33, vR 28] HZ
  refine TT_putR hK hN (ci := 4) (k := 5) (q := 33) (T := TX4) (N := 10) rfl uin_4 (by decide) rfl (gd_ (tb_1 156 rfl) rfl) (by decide) rfl (by decide) tyX4_ok nmX4 rfl rfl (fun _ => ⟨rfl, rfl⟩) (by decide) rfl rfl dX4_init_41 ?_
  show TT K (34, rL lz_31) 5 500 44 [(0, vR 28), (1, vR 24)] [] HZ
  refine TT_aload_n hK rfl 0 rfl dX4_init_44 ?_
  refine TT_aload_n hK rfl 1 rfl dX4_init_45 ?_
  refine TT_putR hK hN (ci := 4) (k := 0) (q := 24) (T := TX4) (N := 10) rfl uin_4 (by decide) rfl (gd_ (tb_1 151 rfl) rfl) (by decide) rfl (by decide) tyX4_ok nmX4 rfl rfl (fun _ => ⟨rfl, rfl⟩) (by decide) rfl rfl dX4_init_46 ?_
  show TT K (34, rL lz_32) 5 500 49 [(0, vR 28), (1, vR 24)] [] HZ
  exact TT_vret hK hQ ⟨rfl, rfl⟩ dX4_init_49
def lz_33 : List (Nat × Nat) := (7, 9) :: lz_32
def lz_34 : List (Nat × Nat) := (35, 0) :: lz_33
def lz_35 : List (Nat × Nat) := (35, 1) :: lz_34
set_option maxRecDepth 20000 in
theorem ci_35 : Ctr yX2_init cX2_init 1 none (rmk 1 2 38) (36, rL lz_33) (38, rL lz_35) 2 38 [vR 35] HZ (fun r h' => r = none ∧ h' = HZ) := by
  refine Ctr_of (by decide) (by decide) ⟨Nat.le_refl _, Nat.le_refl _⟩ (fun K hK hQ hN => ?_)
  show TT K (36, rL lz_33) 0 0 0 [(0, vR 35)] [] HZ
  refine TT_aload_n hK rfl 0 rfl dX2_init_0 ?_
  refine TT_objInit hK (gd_ (tb_1 194 rfl) rfl) (gd_ (tb_1 26 rfl) rfl) (gd_ (tb_1 27 rfl) rfl) (by decide) (by decide) dX2_init_1 ?_
  show TT K (36, rL lz_33) 0 0 4 [(0, vR 35)] [] HZ
  refine TT_aload_n hK rfl 0 rfl dX2_init_4 ?_
  refine TT_bipush hK (by decide) dX2_init_5 ?_
  refine TT_newa hK (t := 12) (N := 19) (ty := .int) rfl (gd_ (tb_1 46 rfl) rfl) (by decide) rfl (fun _ => rfl) (by decide +kernel) (by decide) (by decide) (by decide) (by decide) (by decide) rfl rfl (by decide) (Nat.le_of_ble_eq_true rfl) dX2_init_7 ?_
  show TT K (37, rL lz_33) 1 19 9 [(0, vR 35)] [vR 36, vR 35] HZ
  refine TT_putR hK hN (ci := 2) (k := 0) (q := 36) (T := TX2) (N := 2) rfl uin_2 (by decide) rfl (gd_ (tb_1 195 rfl) rfl) (by decide) rfl (by decide) tyX2_ok nmX2 rfl rfl (fun _ => ⟨rfl, rfl⟩) (by decide) rfl rfl dX2_init_9 ?_
  show TT K (37, rL lz_34) 1 19 12 [(0, vR 35)] [] HZ
  refine TT_aload_n hK rfl 0 rfl dX2_init_12 ?_
  refine TT_bipush hK (by decide) dX2_init_13 ?_
  refine TT_newa hK (t := 12) (N := 19) (ty := .int) rfl (gd_ (tb_1 46 rfl) rfl) (by decide) rfl (fun _ => rfl) (by decide +kernel) (by decide) (by decide) (by decide) (by decide) (by decide) rfl rfl (by decide) (Nat.le_of_ble_eq_true rfl) dX2_init_15 ?_
  show TT K (38, rL lz_34) 2 38 17 [(0, vR 35)] [vR 37, vR 35] HZ
  refine TT_putR hK hN (ci := 2) (k := 1) (q := 37) (T := TX2) (N := 2) rfl uin_2 (by decide) rfl (gd_ (tb_1 196 rfl) rfl) (by decide) rfl (by decide) tyX2_ok nmX2 rfl rfl (fun _ => ⟨rfl, rfl⟩) (by decide) rfl rfl dX2_init_17 ?_
  show TT K (38, rL lz_35) 2 38 20 [(0, vR 35)] [] HZ
  exact TT_vret hK hQ ⟨rfl, rfl⟩ dX2_init_20
def lz_36 : List (Nat × Nat) := (34, 0) :: lz_35
def lz_37 : List (Nat × Nat) := (34, 1) :: lz_36
set_option maxRecDepth 20000 in
theorem ci_34 : Ctr yX8_init cX8_init 1 none (rmk 2 4 1064) (35, rL lz_33) (39, rL lz_37) 4 1064 [vR 34] HZ (fun r h' => r = none ∧ h' = HZ) := by
  refine Ctr_of (by decide) (by decide) ⟨Nat.le_refl _, Nat.le_refl _⟩ (fun K hK hQ hN => ?_)
  show TT K (35, rL lz_33) 0 0 0 [(0, vR 34)] [] HZ
  refine TT_aload_n hK rfl 0 rfl dX8_init_0 ?_
  refine TT_objInit hK (gd_ (tb_1 188 rfl) rfl) (gd_ (tb_1 26 rfl) rfl) (gd_ (tb_1 27 rfl) rfl) (by decide) (by decide) dX8_init_1 ?_
  show TT K (35, rL lz_33) 0 0 4 [(0, vR 34)] [] HZ
  refine TT_aload_n hK rfl 0 rfl dX8_init_4 ?_
  refine TT_new hK (ci := 2) (N := 2) (C := RX2) (T := TX2) rfl uin_2 tyX2_ok (gd_ (tb_1 189 rfl) rfl) (gd_ (tb_1 190 rfl) rfl) (gd_ (tb_1 9 rfl) rfl) (by decide) rfl rfl (by decide +kernel) (fun _ => rfl) (by decide +kernel) (by decide) (by decide) rfl rfl (by decide) (Nat.le_of_ble_eq_true rfl) dX8_init_5 ?_
  show TT K (36, rL lz_33) 1 2 8 [(0, vR 34)] [vR 35, vR 34] HZ
  refine TT_dup hK rfl dX8_init_8 ?_
  refine TT_callIN hK ci_35 (As := []) (n := 0) (w1 := (38, rL lz_35)) (mc := 2) (ms := 38) (host := "WaveletStream") ⟨rfl, rfl⟩ ⟨by decide, by decide⟩ (gd_ (tb_1 193 rfl) rfl) ⟨by decide, by decide, by decide +kernel⟩ rfl (nd_ (tb_1 191 rfl) rfl) (List.forall_mem_cons.mpr ⟨(gd_ (tb_1 192 rfl) rfl), (List.forall_mem_cons.mpr ⟨(gd_ (tb_1 9 rfl) rfl), (fun _ z => absurd z List.not_mem_nil)⟩)⟩) rfl (by decide) rfl rfl (Nat.le_of_ble_eq_true rfl) ⟨by decide, Nat.le_of_ble_eq_true rfl⟩ dX8_init_9 ?_
  intro r9 h9 hp9
  rw [hp9.1, hp9.2]
  show TT K (38, rL lz_35) 3 40 12 [(0, vR 34)] [vR 35, vR 34] HZ
  refine TT_putR hK hN (ci := 8) (k := 0) (q := 35) (T := TX8) (N := 6) rfl uin_8 (by decide) rfl (gd_ (tb_1 202 rfl) rfl) (by decide) rfl (by decide) tyX8_ok nmX8 rfl rfl (fun _ => ⟨rfl, rfl⟩) (by decide) rfl rfl dX8_init_12 ?_
  show TT K (38, rL lz_36) 3 40 15 [(0, vR 34)] [] HZ
  refine TT_aload_n hK rfl 0 rfl dX8_init_15 ?_
  refine TT_sipush hK (by decide) dX8_init_16 ?_
  refine TT_newa hK (t := 12) (N := 1024) (ty := .int) rfl (gd_ (tb_1 46 rfl) rfl) (by decide) rfl (fun _ => rfl) (by decide +kernel) (by decide) (by decide) (by decide) (by decide) (by decide) rfl rfl (by decide) (Nat.le_of_ble_eq_true rfl) dX8_init_19 ?_
  show TT K (39, rL lz_36) 4 1064 21 [(0, vR 34)] [vR 38, vR 34] HZ
  refine TT_putR hK hN (ci := 8) (k := 1) (q := 38) (T := TX8) (N := 6) rfl uin_8 (by decide) rfl (gd_ (tb_1 203 rfl) rfl) (by decide) rfl (by decide) tyX8_ok nmX8 rfl rfl (fun _ => ⟨rfl, rfl⟩) (by decide) rfl rfl dX8_init_21 ?_
  show TT K (39, rL lz_37) 4 1064 24 [(0, vR 34)] [] HZ
  exact TT_vret hK hQ ⟨rfl, rfl⟩ dX8_init_24
def lz_38 : List (Nat × Nat) := (7, 10) :: lz_37
def lz_39 : List (Nat × Nat) := (40, 0) :: lz_38
def lz_40 : List (Nat × Nat) := (40, 1) :: lz_39
set_option maxRecDepth 20000 in
theorem ci_40 : Ctr yX2_init cX2_init 1 none (rmk 1 2 38) (41, rL lz_38) (43, rL lz_40) 2 38 [vR 40] HZ (fun r h' => r = none ∧ h' = HZ) := by
  refine Ctr_of (by decide) (by decide) ⟨Nat.le_refl _, Nat.le_refl _⟩ (fun K hK hQ hN => ?_)
  show TT K (41, rL lz_38) 0 0 0 [(0, vR 40)] [] HZ
  refine TT_aload_n hK rfl 0 rfl dX2_init_0 ?_
  refine TT_objInit hK (gd_ (tb_1 194 rfl) rfl) (gd_ (tb_1 26 rfl) rfl) (gd_ (tb_1 27 rfl) rfl) (by decide) (by decide) dX2_init_1 ?_
  show TT K (41, rL lz_38) 0 0 4 [(0, vR 40)] [] HZ
  refine TT_aload_n hK rfl 0 rfl dX2_init_4 ?_
  refine TT_bipush hK (by decide) dX2_init_5 ?_
  refine TT_newa hK (t := 12) (N := 19) (ty := .int) rfl (gd_ (tb_1 46 rfl) rfl) (by decide) rfl (fun _ => rfl) (by decide +kernel) (by decide) (by decide) (by decide) (by decide) (by decide) rfl rfl (by decide) (Nat.le_of_ble_eq_true rfl) dX2_init_7 ?_
  show TT K (42, rL lz_38) 1 19 9 [(0, vR 40)] [vR 41, vR 40] HZ
  refine TT_putR hK hN (ci := 2) (k := 0) (q := 41) (T := TX2) (N := 2) rfl uin_2 (by decide) rfl (gd_ (tb_1 195 rfl) rfl) (by decide) rfl (by decide) tyX2_ok nmX2 rfl rfl (fun _ => ⟨rfl, rfl⟩) (by decide) rfl rfl dX2_init_9 ?_
  show TT K (42, rL lz_39) 1 19 12 [(0, vR 40)] [] HZ
  refine TT_aload_n hK rfl 0 rfl dX2_init_12 ?_
  refine TT_bipush hK (by decide) dX2_init_13 ?_
  refine TT_newa hK (t := 12) (N := 19) (ty := .int) rfl (gd_ (tb_1 46 rfl) rfl) (by decide) rfl (fun _ => rfl) (by decide +kernel) (by decide) (by decide) (by decide) (by decide) (by decide) rfl rfl (by decide) (Nat.le_of_ble_eq_true rfl) dX2_init_15 ?_
  show TT K (43, rL lz_39) 2 38 17 [(0, vR 40)] [vR 42, vR 40] HZ
  refine TT_putR hK hN (ci := 2) (k := 1) (q := 42) (T := TX2) (N := 2) rfl uin_2 (by decide) rfl (gd_ (tb_1 196 rfl) rfl) (by decide) rfl (by decide) tyX2_ok nmX2 rfl rfl (fun _ => ⟨rfl, rfl⟩) (by decide) rfl rfl dX2_init_17 ?_
  show TT K (43, rL lz_40) 2 38 20 [(0, vR 40)] [] HZ
  exact TT_vret hK hQ ⟨rfl, rfl⟩ dX2_init_20
def lz_41 : List (Nat × Nat) := (39, 0) :: lz_40
def lz_42 : List (Nat × Nat) := (39, 1) :: lz_41
set_option maxRecDepth 20000 in
theorem ci_39 : Ctr yX6_init cX6_init 1 none (rmk 2 4 1064) (40, rL lz_38) (44, rL lz_42) 4 1064 [vR 39] HZ (fun r h' => r = none ∧ h' = HZ) := by
  refine Ctr_of (by decide) (by decide) ⟨Nat.le_refl _, Nat.le_refl _⟩ (fun K hK hQ hN => ?_)
  show TT K (40, rL lz_38) 0 0 0 [(0, vR 39)] [] HZ
  refine TT_aload_n hK rfl 0 rfl dX6_init_0 ?_
  refine TT_objInit hK (gd_ (tb_1 226 rfl) rfl) (gd_ (tb_1 26 rfl) rfl) (gd_ (tb_1 27 rfl) rfl) (by decide) (by decide) dX6_init_1 ?_
  show TT K (40, rL lz_38) 0 0 4 [(0, vR 39)] [] HZ
  refine TT_aload_n hK rfl 0 rfl dX6_init_4 ?_
  refine TT_new hK (ci := 2) (N := 2) (C := RX2) (T := TX2) rfl uin_2 tyX2_ok (gd_ (tb_1 227 rfl) rfl) (gd_ (tb_1 190 rfl) rfl) (gd_ (tb_1 9 rfl) rfl) (by decide) rfl rfl (by decide +kernel) (fun _ => rfl) (by decide +kernel) (by decide) (by decide) rfl rfl (by decide) (Nat.le_of_ble_eq_true rfl) dX6_init_5 ?_
  show TT K (41, rL lz_38) 1 2 8 [(0, vR 39)] [vR 40, vR 39] HZ
  refine TT_dup hK rfl dX6_init_8 ?_
  refine TT_callIN hK ci_40 (As := []) (n := 0) (w1 := (43, rL lz_40)) (mc := 2) (ms := 38) (host := "WaveletStream") ⟨rfl, rfl⟩ ⟨by decide, by decide⟩ (gd_ (tb_1 193 rfl) rfl) ⟨by decide, by decide, by decide +kernel⟩ rfl (nd_ (tb_1 228 rfl) rfl) (List.forall_mem_cons.mpr ⟨(gd_ (tb_1 192 rfl) rfl), (List.forall_mem_cons.mpr ⟨(gd_ (tb_1 9 rfl) rfl), (fun _ z => absurd z List.not_mem_nil)⟩)⟩) rfl (by decide) rfl rfl (Nat.le_of_ble_eq_true rfl) ⟨by decide, Nat.le_of_ble_eq_true rfl⟩ dX6_init_9 ?_
  intro r9 h9 hp9
  rw [hp9.1, hp9.2]
  show TT K (43, rL lz_40) 3 40 12 [(0, vR 39)] [vR 40, vR 39] HZ
  refine TT_putR hK hN (ci := 6) (k := 0) (q := 40) (T := TX6) (N := 8) rfl uin_6 (by decide) rfl (gd_ (tb_1 229 rfl) rfl) (by decide) rfl (by decide) tyX6_ok nmX6 rfl rfl (fun _ => ⟨rfl, rfl⟩) (by decide) rfl rfl dX6_init_12 ?_
  show TT K (43, rL lz_41) 3 40 15 [(0, vR 39)] [] HZ
  refine TT_aload_n hK rfl 0 rfl dX6_init_15 ?_
  refine TT_sipush hK (by decide) dX6_init_16 ?_
  refine TT_newa hK (t := 12) (N := 1024) (ty := .int) rfl (gd_ (tb_1 46 rfl) rfl) (by decide) rfl (fun _ => rfl) (by decide +kernel) (by decide) (by decide) (by decide) (by decide) (by decide) rfl rfl (by decide) (Nat.le_of_ble_eq_true rfl) dX6_init_19 ?_
  show TT K (44, rL lz_41) 4 1064 21 [(0, vR 39)] [vR 43, vR 39] HZ
  refine TT_putR hK hN (ci := 6) (k := 1) (q := 43) (T := TX6) (N := 8) rfl uin_6 (by decide) rfl (gd_ (tb_1 230 rfl) rfl) (by decide) rfl (by decide) tyX6_ok nmX6 rfl rfl (fun _ => ⟨rfl, rfl⟩) (by decide) rfl rfl dX6_init_21 ?_
  show TT K (44, rL lz_42) 4 1064 24 [(0, vR 39)] [] HZ
  exact TT_vret hK hQ ⟨rfl, rfl⟩ dX6_init_24
def lz_43 : List (Nat × Nat) := (7, 11) :: lz_42
set_option maxRecDepth 20000 in
theorem ci_7 : Ctr yX3_init cX3_init 1 none (rmk 3 36 6299) (8, rL lz_6) (44, rL lz_43) 36 6299 [vR 7] HZ (fun r h' => r = none ∧ h' = HZ) := by
  refine Ctr_of (by decide) (by decide) ⟨Nat.le_refl _, Nat.le_refl _⟩ (fun K hK hQ hN => ?_)
  show TT K (8, rL lz_6) 0 0 0 [(0, vR 7)] [] HZ
  refine TT_aload_n hK rfl 0 rfl dX3_init_0 ?_
  refine TT_objInit hK (gd_ (tb_1 74 rfl) rfl) (gd_ (tb_1 26 rfl) rfl) (gd_ (tb_1 27 rfl) rfl) (by decide) (by decide) dX3_init_1 ?_
  show TT K (8, rL lz_6) 0 0 4 [(0, vR 7)] [] HZ
  refine TT_aload_n hK rfl 0 rfl dX3_init_4 ?_
  refine TT_new hK (ci := 0) (N := 11) (C := RX0) (T := TX0) rfl uin_0 tyX0_ok (gd_ (tb_1 75 rfl) rfl) (gd_ (tb_1 76 rfl) rfl) (gd_ (tb_1 5 rfl) rfl) (by decide) rfl rfl (by decide +kernel) (fun _ => rfl) (by decide +kernel) (by decide) (by decide) rfl rfl (by decide) (Nat.le_of_ble_eq_true rfl) dX3_init_5 ?_
  show TT K (9, rL lz_6) 1 11 8 [(0, vR 7)] [vR 8, vR 7] HZ
  refine TT_dup hK rfl dX3_init_8 ?_
  refine TT_callIN hK ci_8 (As := []) (n := 0) (w1 := (16, rL lz_13)) (mc := 7) (ms := 120) (host := "WaveletStream") ⟨rfl, rfl⟩ ⟨by decide, by decide⟩ (gd_ (tb_1 79 rfl) rfl) ⟨by decide, by decide, by decide +kernel⟩ rfl (nd_ (tb_1 77 rfl) rfl) (List.forall_mem_cons.mpr ⟨(gd_ (tb_1 78 rfl) rfl), (List.forall_mem_cons.mpr ⟨(gd_ (tb_1 5 rfl) rfl), (fun _ z => absurd z List.not_mem_nil)⟩)⟩) rfl (by decide) rfl rfl (Nat.le_of_ble_eq_true rfl) ⟨by decide, Nat.le_of_ble_eq_true rfl⟩ dX3_init_9 ?_
  intro r9 h9 hp9
  rw [hp9.1, hp9.2]
  show TT K (16, rL lz_13) 8 131 12 [(0, vR 7)] [vR 8, vR 7] HZ
  refine TT_putR hK hN (ci := 3) (k := 0) (q := 8) (T := TX3) (N := 12) rfl uin_3 (by decide) rfl (gd_ (tb_2 14 rfl) rfl) (by decide) rfl (by decide) tyX3_ok nmX3 rfl rfl (fun _ => ⟨rfl, rfl⟩) (by decide) rfl rfl dX3_init_12 ?_
  show TT K (16, rL lz_14) 8 131 15 [(0, vR 7)] [] HZ
  refine TT_aload_n hK rfl 0 rfl dX3_init_15 ?_
  refine TT_bipush hK (by decide) dX3_init_16 ?_
  refine TT_newa hK (t := 12) (N := 10) (ty := .int) rfl (gd_ (tb_1 46 rfl) rfl) (by decide) rfl (fun _ => rfl) (by decide +kernel) (by decide) (by decide) (by decide) (by decide) (by decide) rfl rfl (by decide) (Nat.le_of_ble_eq_true rfl) dX3_init_18 ?_
  show TT K (17, rL lz_14) 9 141 20 [(0, vR 7)] [vR 16, vR 7] HZ
  refine TT_putR hK hN (ci := 3) (k := 1) (q := 16) (T := TX3) (N := 12) rfl uin_3 (by decide) rfl (gd_ (tb_2 15 rfl) rfl) (by decide) rfl (by decide) tyX3_ok nmX3 rfl rfl (fun _ => ⟨rfl, rfl⟩) (by decide) rfl rfl dX3_init_20 ?_
  show TT K (17, rL lz_15) 9 141 23 [(0, vR 7)] [] HZ
  refine TT_aload_n hK rfl 0 rfl dX3_init_23 ?_
  refine TT_bipush hK (by decide) dX3_init_24 ?_
  refine TT_newa hK (t := 12) (N := 10) (ty := .int) rfl (gd_ (tb_1 46 rfl) rfl) (by decide) rfl (fun _ => rfl) (by decide +kernel) (by decide) (by decide) (by decide) (by decide) (by decide) rfl rfl (by decide) (Nat.le_of_ble_eq_true rfl) dX3_init_26 ?_
  show TT K (18, rL lz_15) 10 151 28 [(0, vR 7)] [vR 17, vR 7] HZ
  refine TT_putR hK hN (ci := 3) (k := 2) (q := 17) (T := TX3) (N := 12) rfl uin_3 (by decide) rfl (gd_ (tb_2 16 rfl) rfl) (by decide) rfl (by decide) tyX3_ok nmX3 rfl rfl (fun _ => ⟨rfl, rfl⟩) (by decide) rfl rfl dX3_init_28 ?_
  show TT K (18, rL lz_16) 10 151 31 [(0, vR 7)] [] HZ
  refine TT_aload_n hK rfl 0 rfl dX3_init_31 ?_
  refine TT_bipush hK (by decide) dX3_init_32 ?_
  refine TT_newa hK (t := 12) (N := 10) (ty := .int) rfl (gd_ (tb_1 46 rfl) rfl) (by decide) rfl (fun _ => rfl) (by decide +kernel) (by decide) (by decide) (by decide) (by decide) (by decide) rfl rfl (by decide) (Nat.le_of_ble_eq_true rfl) dX3_init_34 ?_
  show TT K (19, rL lz_16) 11 161 36 [(0, vR 7)] [vR 18, vR 7] HZ
  refine TT_putR hK hN (ci := 3) (k := 3) (q := 18) (T := TX3) (N := 12) rfl uin_3 (by decide) rfl (gd_ (tb_2 17 rfl) rfl) (by decide) rfl (by decide) tyX3_ok nmX3 rfl rfl (fun _ => ⟨rfl, rfl⟩) (by decide) rfl rfl dX3_init_36 ?_
  show TT K (19, rL lz_17) 11 161 39 [(0, vR 7)] [] HZ
  refine TT_aload_n hK rfl 0 rfl dX3_init_39 ?_
  refine TT_sipush hK (by decide) dX3_init_40 ?_
  refine TT_newa hK (t := 12) (N := 350) (ty := .int) rfl (gd_ (tb_1 46 rfl) rfl) (by decide) rfl (fun _ => rfl) (by decide +kernel) (by decide) (by decide) (by decide) (by decide) (by decide) rfl rfl (by decide) (Nat.le_of_ble_eq_true rfl) dX3_init_43 ?_
  show TT K (20, rL lz_17) 12 511 45 [(0, vR 7)] [vR 19, vR 7] HZ
  refine TT_putR hK hN (ci := 3) (k := 4) (q := 19) (T := TX3) (N := 12) rfl uin_3 (by decide) rfl (gd_ (tb_2 18 rfl) rfl) (by decide) rfl (by decide) tyX3_ok nmX3 rfl rfl (fun _ => ⟨rfl, rfl⟩) (by decide) rfl rfl dX3_init_45 ?_
  show TT K (20, rL lz_18) 12 511 48 [(0, vR 7)] [] HZ
  refine TT_aload_n hK rfl 0 rfl dX3_init_48 ?_
  refine TT_bipush hK (by decide) dX3_init_49 ?_
  refine TT_newa hK (t := 12) (N := 10) (ty := .int) rfl (gd_ (tb_1 46 rfl) rfl) (by decide) rfl (fun _ => rfl) (by decide +kernel) (by decide) (by decide) (by decide) (by decide) (by decide) rfl rfl (by decide) (Nat.le_of_ble_eq_true rfl) dX3_init_51 ?_
  show TT K (21, rL lz_18) 13 521 53 [(0, vR 7)] [vR 20, vR 7] HZ
  refine TT_putR hK hN (ci := 3) (k := 5) (q := 20) (T := TX3) (N := 12) rfl uin_3 (by decide) rfl (gd_ (tb_2 19 rfl) rfl) (by decide) rfl (by decide) tyX3_ok nmX3 rfl rfl (fun _ => ⟨rfl, rfl⟩) (by decide) rfl rfl dX3_init_53 ?_
  show TT K (21, rL lz_19) 13 521 56 [(0, vR 7)] [] HZ
  refine TT_aload_n hK rfl 0 rfl dX3_init_56 ?_
  refine TT_bipush hK (by decide) dX3_init_57 ?_
  refine TT_newa hK (t := 12) (N := 10) (ty := .int) rfl (gd_ (tb_1 46 rfl) rfl) (by decide) rfl (fun _ => rfl) (by decide +kernel) (by decide) (by decide) (by decide) (by decide) (by decide) rfl rfl (by decide) (Nat.le_of_ble_eq_true rfl) dX3_init_59 ?_
  show TT K (22, rL lz_19) 14 531 61 [(0, vR 7)] [vR 21, vR 7] HZ
  refine TT_putR hK hN (ci := 3) (k := 6) (q := 21) (T := TX3) (N := 12) rfl uin_3 (by decide) rfl (gd_ (tb_2 20 rfl) rfl) (by decide) rfl (by decide) tyX3_ok nmX3 rfl rfl (fun _ => ⟨rfl, rfl⟩) (by decide) rfl rfl dX3_init_61 ?_
  show TT K (22, rL lz_20) 14 531 64 [(0, vR 7)] [] HZ
  refine TT_aload_n hK rfl 0 rfl dX3_init_64 ?_
  refine TT_new hK (ci := 1) (N := 5) (C := RX1) (T := TX1) rfl uin_1 tyX1_ok (gd_ (tb_1 121 rfl) rfl) (gd_ (tb_1 48 rfl) rfl) (gd_ (tb_1 3 rfl) rfl) (by decide) rfl rfl (by decide +kernel) (fun _ => rfl) (by decide +kernel) (by decide) (by decide) rfl rfl (by decide) (Nat.le_of_ble_eq_true rfl) dX3_init_65 ?_
  show TT K (23, rL lz_20) 15 536 68 [(0, vR 7)] [vR 22, vR 7] HZ
  refine TT_dup hK rfl dX3_init_68 ?_
  refine TT_callIN hK ci_22 (As := []) (n := 0) (w1 := (24, rL lz_21)) (mc := 1) (ms := 1024) (host := "WaveletStream") ⟨rfl, rfl⟩ ⟨by decide, by decide⟩ (gd_ (tb_1 51 rfl) rfl) ⟨by decide, by decide, by decide +kernel⟩ rfl (nd_ (tb_1 122 rfl) rfl) (List.forall_mem_cons.mpr ⟨(gd_ (tb_1 50 rfl) rfl), (List.forall_mem_cons.mpr ⟨(gd_ (tb_1 3 rfl) rfl), (fun _ z => absurd z List.not_mem_nil)⟩)⟩) rfl (by decide) rfl rfl (Nat.le_of_ble_eq_true rfl) ⟨by decide, Nat.le_of_ble_eq_true rfl⟩ dX3_init_69 ?_
  intro r9 h9 hp9
  rw [hp9.1, hp9.2]
  show TT K (24, rL lz_21) 16 1560 72 [(0, vR 7)] [vR 22, vR 7] HZ
  refine TT_putR hK hN (ci := 3) (k := 7) (q := 22) (T := TX3) (N := 12) rfl uin_3 (by decide) rfl (gd_ (tb_2 21 rfl) rfl) (by decide) rfl (by decide) tyX3_ok nmX3 rfl rfl (fun _ => ⟨rfl, rfl⟩) (by decide) rfl rfl dX3_init_72 ?_
  show TT K (24, rL lz_22) 16 1560 75 [(0, vR 7)] [] HZ
  refine TT_aload_n hK rfl 0 rfl dX3_init_75 ?_
  refine TT_new hK (ci := 7) (N := 5) (C := RX7) (T := TX7) rfl uin_7 tyX7_ok (gd_ (tb_1 123 rfl) rfl) (gd_ (tb_1 124 rfl) rfl) (gd_ (tb_1 6 rfl) rfl) (by decide) rfl rfl (by decide +kernel) (fun _ => rfl) (by decide +kernel) (by decide) (by decide) rfl rfl (by decide) (Nat.le_of_ble_eq_true rfl) dX3_init_76 ?_
  show TT K (25, rL lz_22) 17 1565 79 [(0, vR 7)] [vR 24, vR 7] HZ
  refine TT_dup hK rfl dX3_init_79 ?_
  refine TT_callIN hK ci_24 (As := []) (n := 0) (w1 := (28, rL lz_25)) (mc := 3) (ms := 2082) (host := "WaveletStream") ⟨rfl, rfl⟩ ⟨by decide, by decide⟩ (gd_ (tb_1 127 rfl) rfl) ⟨by decide, by decide, by decide +kernel⟩ rfl (nd_ (tb_1 125 rfl) rfl) (List.forall_mem_cons.mpr ⟨(gd_ (tb_1 126 rfl) rfl), (List.forall_mem_cons.mpr ⟨(gd_ (tb_1 6 rfl) rfl), (fun _ z => absurd z List.not_mem_nil)⟩)⟩) rfl (by decide) rfl rfl (Nat.le_of_ble_eq_true rfl) ⟨by decide, Nat.le_of_ble_eq_true rfl⟩ dX3_init_80 ?_
  intro r9 h9 hp9
  rw [hp9.1, hp9.2]
  show TT K (28, rL lz_25) 20 3647 83 [(0, vR 7)] [vR 24, vR 7] HZ
  refine TT_putR hK hN (ci := 3) (k := 8) (q := 24) (T := TX3) (N := 12) rfl uin_3 (by decide) rfl (gd_ (tb_2 22 rfl) rfl) (by decide) rfl (by decide) tyX3_ok nmX3 rfl rfl (fun _ => ⟨rfl, rfl⟩) (by decide) rfl rfl dX3_init_83 ?_
  show TT K (28, rL lz_26) 20 3647 86 [(0, vR 7)] [] HZ
  refine TT_aload_n hK rfl 0 rfl dX3_init_86 ?_
  refine TT_new hK (ci := 4) (N := 10) (C := RX4) (T := TX4) rfl uin_4 tyX4_ok (gd_ (tb_1 145 rfl) rfl) (gd_ (tb_1 146 rfl) rfl) (gd_ (tb_1 7 rfl) rfl) (by decide) rfl rfl (by decide +kernel) (fun _ => rfl) (by decide +kernel) (by decide) (by decide) rfl rfl (by decide) (Nat.le_of_ble_eq_true rfl) dX3_init_87 ?_
  show TT K (29, rL lz_26) 21 3657 90 [(0, vR 7)] [vR 28, vR 7] HZ
  refine TT_dup hK rfl dX3_init_90 ?_
  refine TT_aload_n hK rfl 0 rfl dX3_init_91 ?_
  refine gf_X3_47 hK (by decide) rfl (q := 24) rfl (by decide +kernel) dX3_init_92 ?_
  refine TT_callI hK ci_28 (As := [vR 24]) (n := 1) (w1 := (34, rL lz_32)) (mc := 5) (ms := 500)  ⟨rfl, rfl⟩ ⟨by decide, by decide⟩ (gd_ (tb_1 149 rfl) rfl) ⟨by decide, by decide, by decide +kernel⟩ rfl (List.forall_mem_cons.mpr ⟨(gd_ (tb_1 147 rfl) rfl), (List.forall_mem_cons.mpr ⟨(gd_ (tb_1 148 rfl) rfl), (List.forall_mem_cons.mpr ⟨(gd_ (tb_1 7 rfl) rfl), (fun _ z => absurd z List.not_mem_nil)⟩)⟩)⟩) rfl (by decide) rfl rfl (Nat.le_of_ble_eq_true rfl) ⟨by decide, Nat.le_of_ble_eq_true rfl⟩ dX3_init_95 ?_
  intro r9 h9 hp9
  rw [hp9.1, hp9.2]
  show TT K (34, rL lz_32) 26 4157 98 [(0, vR 7)] [vR 28, vR 7] HZ
  refine TT_putR hK hN (ci := 3) (k := 9) (q := 28) (T := TX3) (N := 12) rfl uin_3 (by decide) rfl (gd_ (tb_2 23 rfl) rfl) (by decide) rfl (by decide) tyX3_ok nmX3 rfl rfl (fun _ => ⟨rfl, rfl⟩) (by decide) rfl rfl dX3_init_98 ?_
  show TT K (34, rL lz_33) 26 4157 101 [(0, vR 7)] [] HZ
  refine TT_aload_n hK rfl 0 rfl dX3_init_101 ?_
  refine TT_new hK (ci := 8) (N := 6) (C := RX8) (T := TX8) rfl uin_8 tyX8_ok (gd_ (tb_1 183 rfl) rfl) (gd_ (tb_1 184 rfl) rfl) (gd_ (tb_1 8 rfl) rfl) (by decide) rfl rfl (by decide +kernel) (fun _ => rfl) (by decide +kernel) (by decide) (by decide) rfl rfl (by decide) (Nat.le_of_ble_eq_true rfl) dX3_init_102 ?_
  show TT K (35, rL lz_33) 27 4163 105 [(0, vR 7)] [vR 34, vR 7] HZ
  refine TT_dup hK rfl dX3_init_105 ?_
  refine TT_callIN hK ci_34 (As := []) (n := 0) (w1 := (39, rL lz_37)) (mc := 4) (ms := 1064) (host := "WaveletStream") ⟨rfl, rfl⟩ ⟨by decide, by decide⟩ (gd_ (tb_1 187 rfl) rfl) ⟨by decide, by decide, by decide +kernel⟩ rfl (nd_ (tb_1 185 rfl) rfl) (List.forall_mem_cons.mpr ⟨(gd_ (tb_1 186 rfl) rfl), (List.forall_mem_cons.mpr ⟨(gd_ (tb_1 8 rfl) rfl), (fun _ z => absurd z List.not_mem_nil)⟩)⟩) rfl (by decide) rfl rfl (Nat.le_of_ble_eq_true rfl) ⟨by decide, Nat.le_of_ble_eq_true rfl⟩ dX3_init_106 ?_
  intro r9 h9 hp9
  rw [hp9.1, hp9.2]
  show TT K (39, rL lz_37) 31 5227 109 [(0, vR 7)] [vR 34, vR 7] HZ
  refine TT_putR hK hN (ci := 3) (k := 10) (q := 34) (T := TX3) (N := 12) rfl uin_3 (by decide) rfl (gd_ (tb_2 24 rfl) rfl) (by decide) rfl (by decide) tyX3_ok nmX3 rfl rfl (fun _ => ⟨rfl, rfl⟩) (by decide) rfl rfl dX3_init_109 ?_
  show TT K (39, rL lz_38) 31 5227 112 [(0, vR 7)] [] HZ
  refine TT_aload_n hK rfl 0 rfl dX3_init_112 ?_
  refine TT_new hK (ci := 6) (N := 8) (C := RX6) (T := TX6) rfl uin_6 tyX6_ok (gd_ (tb_1 221 rfl) rfl) (gd_ (tb_1 222 rfl) rfl) (gd_ (tb_1 10 rfl) rfl) (by decide) rfl rfl (by decide +kernel) (fun _ => rfl) (by decide +kernel) (by decide) (by decide) rfl rfl (by decide) (Nat.le_of_ble_eq_true rfl) dX3_init_113 ?_
  show TT K (40, rL lz_38) 32 5235 116 [(0, vR 7)] [vR 39, vR 7] HZ
  refine TT_dup hK rfl dX3_init_116 ?_
  refine TT_callIN hK ci_39 (As := []) (n := 0) (w1 := (44, rL lz_42)) (mc := 4) (ms := 1064) (host := "WaveletStream") ⟨rfl, rfl⟩ ⟨by decide, by decide⟩ (gd_ (tb_1 225 rfl) rfl) ⟨by decide, by decide, by decide +kernel⟩ rfl (nd_ (tb_1 223 rfl) rfl) (List.forall_mem_cons.mpr ⟨(gd_ (tb_1 224 rfl) rfl), (List.forall_mem_cons.mpr ⟨(gd_ (tb_1 10 rfl) rfl), (fun _ z => absurd z List.not_mem_nil)⟩)⟩) rfl (by decide) rfl rfl (Nat.le_of_ble_eq_true rfl) ⟨by decide, Nat.le_of_ble_eq_true rfl⟩ dX3_init_117 ?_
  intro r9 h9 hp9
  rw [hp9.1, hp9.2]
  show TT K (44, rL lz_42) 36 6299 120 [(0, vR 7)] [vR 39, vR 7] HZ
  refine TT_putR hK hN (ci := 3) (k := 11) (q := 39) (T := TX3) (N := 12) rfl uin_3 (by decide) rfl (gd_ (tb_2 25 rfl) rfl) (by decide) rfl (by decide) tyX3_ok nmX3 rfl rfl (fun _ => ⟨rfl, rfl⟩) (by decide) rfl rfl dX3_init_120 ?_
  show TT K (44, rL lz_43) 36 6299 123 [(0, vR 7)] [] HZ
  exact TT_vret hK hQ ⟨rfl, rfl⟩ dX3_init_123
def lz_44 : List (Nat × Nat) := (0, 3) :: lz_43
def lz_45 : List (Nat × Nat) := (45, 0) :: lz_44
def lz_46 : List (Nat × Nat) := (45, 1) :: lz_45
def lz_47 : List (Nat × Nat) := (45, 2) :: lz_46
def lz_48 : List (Nat × Nat) := (45, 3) :: lz_47
def lz_49 : List (Nat × Nat) := (45, 4) :: lz_48
def lz_50 : List (Nat × Nat) := (45, 5) :: lz_49
def lz_51 : List (Nat × Nat) := (45, 6) :: lz_50
set_option maxRecDepth 20000 in
theorem ci_45 : Ctr yX0_init cX0_init 1 none (rmk 1 7 120) (46, rL lz_44) (53, rL lz_51) 7 120 [vR 45] HZ (fun r h' => r = none ∧ h' = HZ) := by
  refine Ctr_of (by decide) (by decide) ⟨Nat.le_refl _, Nat.le_refl _⟩ (fun K hK hQ hN => ?_)
  show TT K (46, rL lz_44) 0 0 0 [(0, vR 45)] [] HZ
  refine TT_aload_n hK rfl 0 rfl dX0_init_0 ?_
  refine TT_objInit hK (gd_ (tb_1 80 rfl) rfl) (gd_ (tb_1 26 rfl) rfl) (gd_ (tb_1 27 rfl) rfl) (by decide) (by decide) dX0_init_1 ?_
  show TT K (46, rL lz_44) 0 0 4 [(0, vR 45)] [] HZ
  refine TT_aload_n hK rfl 0 rfl dX0_init_4 ?_
  refine TT_bipush hK (by decide) dX0_init_5 ?_
  refine TT_newa hK (t := 12) (N := 64) (ty := .int) rfl (gd_ (tb_1 46 rfl) rfl) (by decide) rfl (fun _ => rfl) (by decide +kernel) (by decide) (by decide) (by decide) (by decide) (by decide) rfl rfl (by decide) (Nat.le_of_ble_eq_true rfl) dX0_init_7 ?_
  show TT K (47, rL lz_44) 1 64 9 [(0, vR 45)] [vR 46, vR 45] HZ
  refine TT_putR hK hN (ci := 0) (k := 0) (q := 46) (T := TX0) (N := 11) rfl uin_0 (by decide) rfl (gd_ (tb_1 81 rfl) rfl) (by decide) rfl (by decide) tyX0_ok nmX0 rfl rfl (fun _ => ⟨rfl, rfl⟩) (by decide) rfl rfl dX0_init_9 ?_
  show TT K (47, rL lz_45) 1 64 12 [(0, vR 45)] [] HZ
  refine TT_aload_n hK rfl 0 rfl dX0_init_12 ?_
  refine TT_bipush hK (by decide) dX0_init_13 ?_
  refine TT_newa hK (t := 12) (N := 10) (ty := .int) rfl (gd_ (tb_1 46 rfl) rfl) (by decide) rfl (fun _ => rfl) (by decide +kernel) (by decide) (by decide) (by decide) (by decide) (by decide) rfl rfl (by decide) (Nat.le_of_ble_eq_true rfl) dX0_init_15 ?_
  show TT K (48, rL lz_45) 2 74 17 [(0, vR 45)] [vR 47, vR 45] HZ
  refine TT_putR hK hN (ci := 0) (k := 1) (q := 47) (T := TX0) (N := 11) rfl uin_0 (by decide) rfl (gd_ (tb_1 82 rfl) rfl) (by decide) rfl (by decide) tyX0_ok nmX0 rfl rfl (fun _ => ⟨rfl, rfl⟩) (by decide) rfl rfl dX0_init_17 ?_
  show TT K (48, rL lz_46) 2 74 20 [(0, vR 45)] [] HZ
  refine TT_aload_n hK rfl 0 rfl dX0_init_20 ?_
  refine TT_bipush hK (by decide) dX0_init_21 ?_
  refine TT_newa hK (t := 12) (N := 10) (ty := .int) rfl (gd_ (tb_1 46 rfl) rfl) (by decide) rfl (fun _ => rfl) (by decide +kernel) (by decide) (by decide) (by decide) (by decide) (by decide) rfl rfl (by decide) (Nat.le_of_ble_eq_true rfl) dX0_init_23 ?_
  show TT K (49, rL lz_46) 3 84 25 [(0, vR 45)] [vR 48, vR 45] HZ
  refine TT_putR hK hN (ci := 0) (k := 2) (q := 48) (T := TX0) (N := 11) rfl uin_0 (by decide) rfl (gd_ (tb_1 83 rfl) rfl) (by decide) rfl (by decide) tyX0_ok nmX0 rfl rfl (fun _ => ⟨rfl, rfl⟩) (by decide) rfl rfl dX0_init_25 ?_
  show TT K (49, rL lz_47) 3 84 28 [(0, vR 45)] [] HZ
  refine TT_aload_n hK rfl 0 rfl dX0_init_28 ?_
  refine TT_bipush hK (by decide) dX0_init_29 ?_
  refine TT_newa hK (t := 12) (N := 10) (ty := .int) rfl (gd_ (tb_1 46 rfl) rfl) (by decide) rfl (fun _ => rfl) (by decide +kernel) (by decide) (by decide) (by decide) (by decide) (by decide) rfl rfl (by decide) (Nat.le_of_ble_eq_true rfl) dX0_init_31 ?_
  show TT K (50, rL lz_47) 4 94 33 [(0, vR 45)] [vR 49, vR 45] HZ
  refine TT_putR hK hN (ci := 0) (k := 3) (q := 49) (T := TX0) (N := 11) rfl uin_0 (by decide) rfl (gd_ (tb_1 84 rfl) rfl) (by decide) rfl (by decide) tyX0_ok nmX0 rfl rfl (fun _ => ⟨rfl, rfl⟩) (by decide) rfl rfl dX0_init_33 ?_
  show TT K (50, rL lz_48) 4 94 36 [(0, vR 45)] [] HZ
  refine TT_aload_n hK rfl 0 rfl dX0_init_36 ?_
  refine TT_bipush hK (by decide) dX0_init_37 ?_
  refine TT_newa hK (t := 12) (N := 10) (ty := .int) rfl (gd_ (tb_1 46 rfl) rfl) (by decide) rfl (fun _ => rfl) (by decide +kernel) (by decide) (by decide) (by decide) (by decide) (by decide) rfl rfl (by decide) (Nat.le_of_ble_eq_true rfl) dX0_init_39 ?_
  show TT K (51, rL lz_48) 5 104 41 [(0, vR 45)] [vR 50, vR 45] HZ
  refine TT_putR hK hN (ci := 0) (k := 4) (q := 50) (T := TX0) (N := 11) rfl uin_0 (by decide) rfl (gd_ (tb_1 87 rfl) rfl) (by decide) rfl (by decide) tyX0_ok nmX0 rfl rfl (fun _ => ⟨rfl, rfl⟩) (by decide) rfl rfl dX0_init_41 ?_
  show TT K (51, rL lz_49) 5 104 44 [(0, vR 45)] [] HZ
  refine TT_aload_n hK rfl 0 rfl dX0_init_44 ?_
  refine TT_bipush hK (by decide) dX0_init_45 ?_
  refine TT_newa hK (t := 12) (N := 8) (ty := .int) rfl (gd_ (tb_1 46 rfl) rfl) (by decide) rfl (fun _ => rfl) (by decide +kernel) (by decide) (by decide) (by decide) (by decide) (by decide) rfl rfl (by decide) (Nat.le_of_ble_eq_true rfl) dX0_init_47 ?_
  show TT K (52, rL lz_49) 6 112 49 [(0, vR 45)] [vR 51, vR 45] HZ
  refine TT_putR hK hN (ci := 0) (k := 5) (q := 51) (T := TX0) (N := 11) rfl uin_0 (by decide) rfl (gd_ (tb_1 90 rfl) rfl) (by decide) rfl (by decide) tyX0_ok nmX0 rfl rfl (fun _ => ⟨rfl, rfl⟩) (by decide) rfl rfl dX0_init_49 ?_
  show TT K (52, rL lz_50) 6 112 52 [(0, vR 45)] [] HZ
  refine TT_aload_n hK rfl 0 rfl dX0_init_52 ?_
  refine TT_bipush hK (by decide) dX0_init_53 ?_
  refine TT_newa hK (t := 12) (N := 8) (ty := .int) rfl (gd_ (tb_1 46 rfl) rfl) (by decide) rfl (fun _ => rfl) (by decide +kernel) (by decide) (by decide) (by decide) (by decide) (by decide) rfl rfl (by decide) (Nat.le_of_ble_eq_true rfl) dX0_init_55 ?_
  show TT K (53, rL lz_50) 7 120 57 [(0, vR 45)] [vR 52, vR 45] HZ
  refine TT_putR hK hN (ci := 0) (k := 6) (q := 52) (T := TX0) (N := 11) rfl uin_0 (by decide) rfl (gd_ (tb_1 91 rfl) rfl) (by decide) rfl (by decide) tyX0_ok nmX0 rfl rfl (fun _ => ⟨rfl, rfl⟩) (by decide) rfl rfl dX0_init_57 ?_
  show TT K (53, rL lz_51) 7 120 60 [(0, vR 45)] [] HZ
  exact TT_vret hK hQ ⟨rfl, rfl⟩ dX0_init_60
def lz_52 : List (Nat × Nat) := (44, 0) :: lz_51
def lz_53 : List (Nat × Nat) := (44, 1) :: lz_52
def lz_54 : List (Nat × Nat) := (44, 2) :: lz_53
def lz_55 : List (Nat × Nat) := (44, 3) :: lz_54
def lz_56 : List (Nat × Nat) := (44, 4) :: lz_55
def lz_57 : List (Nat × Nat) := (44, 5) :: lz_56
def lz_58 : List (Nat × Nat) := (44, 6) :: lz_57
def lz_59 : List (Nat × Nat) := (44, 7) :: lz_58
def lz_60 : List (Nat × Nat) := (44, 8) :: lz_59
def lz_61 : List (Nat × Nat) := (44, 9) :: lz_60
def lz_62 : List (Nat × Nat) := (63, 0) :: lz_61
def lz_63 : List (Nat × Nat) := (63, 1) :: lz_62
set_option maxRecDepth 20000 in
theorem ci_63 : Ctr yX2_init cX2_init 1 none (rmk 1 2 38) (64, rL lz_61) (66, rL lz_63) 2 38 [vR 63] HZ (fun r h' => r = none ∧ h' = HZ) := by
  refine Ctr_of (by decide) (by decide) ⟨Nat.le_refl _, Nat.le_refl _⟩ (fun K hK hQ hN => ?_)
  show TT K (64, rL lz_61) 0 0 0 [(0, vR 63)] [] HZ
  refine TT_aload_n hK rfl 0 rfl dX2_init_0 ?_
  refine TT_objInit hK (gd_ (tb_1 194 rfl) rfl) (gd_ (tb_1 26 rfl) rfl) (gd_ (tb_1 27 rfl) rfl) (by decide) (by decide) dX2_init_1 ?_
  show TT K (64, rL lz_61) 0 0 4 [(0, vR 63)] [] HZ
  refine TT_aload_n hK rfl 0 rfl dX2_init_4 ?_
  refine TT_bipush hK (by decide) dX2_init_5 ?_
  refine TT_newa hK (t := 12) (N := 19) (ty := .int) rfl (gd_ (tb_1 46 rfl) rfl) (by decide) rfl (fun _ => rfl) (by decide +kernel) (by decide) (by decide) (by decide) (by decide) (by decide) rfl rfl (by decide) (Nat.le_of_ble_eq_true rfl) dX2_init_7 ?_
  show TT K (65, rL lz_61) 1 19 9 [(0, vR 63)] [vR 64, vR 63] HZ
  refine TT_putR hK hN (ci := 2) (k := 0) (q := 64) (T := TX2) (N := 2) rfl uin_2 (by decide) rfl (gd_ (tb_1 195 rfl) rfl) (by decide) rfl (by decide) tyX2_ok nmX2 rfl rfl (fun _ => ⟨rfl, rfl⟩) (by decide) rfl rfl dX2_init_9 ?_
  show TT K (65, rL lz_62) 1 19 12 [(0, vR 63)] [] HZ
  refine TT_aload_n hK rfl 0 rfl dX2_init_12 ?_
  refine TT_bipush hK (by decide) dX2_init_13 ?_
  refine TT_newa hK (t := 12) (N := 19) (ty := .int) rfl (gd_ (tb_1 46 rfl) rfl) (by decide) rfl (fun _ => rfl) (by decide +kernel) (by decide) (by decide) (by decide) (by decide) (by decide) rfl rfl (by decide) (Nat.le_of_ble_eq_true rfl) dX2_init_15 ?_
  show TT K (66, rL lz_62) 2 38 17 [(0, vR 63)] [vR 65, vR 63] HZ
  refine TT_putR hK hN (ci := 2) (k := 1) (q := 65) (T := TX2) (N := 2) rfl uin_2 (by decide) rfl (gd_ (tb_1 196 rfl) rfl) (by decide) rfl (by decide) tyX2_ok nmX2 rfl rfl (fun _ => ⟨rfl, rfl⟩) (by decide) rfl rfl dX2_init_17 ?_
  show TT K (66, rL lz_63) 2 38 20 [(0, vR 63)] [] HZ
  exact TT_vret hK hQ ⟨rfl, rfl⟩ dX2_init_20
def lz_64 : List (Nat × Nat) := (62, 0) :: lz_63
def lz_65 : List (Nat × Nat) := (62, 1) :: lz_64
set_option maxRecDepth 20000 in
theorem ci_62 : Ctr yX6_init cX6_init 1 none (rmk 2 4 1064) (63, rL lz_61) (67, rL lz_65) 4 1064 [vR 62] HZ (fun r h' => r = none ∧ h' = HZ) := by
  refine Ctr_of (by decide) (by decide) ⟨Nat.le_refl _, Nat.le_refl _⟩ (fun K hK hQ hN => ?_)
  show TT K (63, rL lz_61) 0 0 0 [(0, vR 62)] [] HZ
  refine TT_aload_n hK rfl 0 rfl dX6_init_0 ?_
  refine TT_objInit hK (gd_ (tb_1 226 rfl) rfl) (gd_ (tb_1 26 rfl) rfl) (gd_ (tb_1 27 rfl) rfl) (by decide) (by decide) dX6_init_1 ?_
  show TT K (63, rL lz_61) 0 0 4 [(0, vR 62)] [] HZ
  refine TT_aload_n hK rfl 0 rfl dX6_init_4 ?_
  refine TT_new hK (ci := 2) (N := 2) (C := RX2) (T := TX2) rfl uin_2 tyX2_ok (gd_ (tb_1 227 rfl) rfl) (gd_ (tb_1 190 rfl) rfl) (gd_ (tb_1 9 rfl) rfl) (by decide) rfl rfl (by decide +kernel) (fun _ => rfl) (by decide +kernel) (by decide) (by decide) rfl rfl (by decide) (Nat.le_of_ble_eq_true rfl) dX6_init_5 ?_
  show TT K (64, rL lz_61) 1 2 8 [(0, vR 62)] [vR 63, vR 62] HZ
  refine TT_dup hK rfl dX6_init_8 ?_
  refine TT_callIN hK ci_63 (As := []) (n := 0) (w1 := (66, rL lz_63)) (mc := 2) (ms := 38) (host := "WaveletStream") ⟨rfl, rfl⟩ ⟨by decide, by decide⟩ (gd_ (tb_1 193 rfl) rfl) ⟨by decide, by decide, by decide +kernel⟩ rfl (nd_ (tb_1 228 rfl) rfl) (List.forall_mem_cons.mpr ⟨(gd_ (tb_1 192 rfl) rfl), (List.forall_mem_cons.mpr ⟨(gd_ (tb_1 9 rfl) rfl), (fun _ z => absurd z List.not_mem_nil)⟩)⟩) rfl (by decide) rfl rfl (Nat.le_of_ble_eq_true rfl) ⟨by decide, Nat.le_of_ble_eq_true rfl⟩ dX6_init_9 ?_
  intro r9 h9 hp9
  rw [hp9.1, hp9.2]
  show TT K (66, rL lz_63) 3 40 12 [(0, vR 62)] [vR 63, vR 62] HZ
  refine TT_putR hK hN (ci := 6) (k := 0) (q := 63) (T := TX6) (N := 8) rfl uin_6 (by decide) rfl (gd_ (tb_1 229 rfl) rfl) (by decide) rfl (by decide) tyX6_ok nmX6 rfl rfl (fun _ => ⟨rfl, rfl⟩) (by decide) rfl rfl dX6_init_12 ?_
  show TT K (66, rL lz_64) 3 40 15 [(0, vR 62)] [] HZ
  refine TT_aload_n hK rfl 0 rfl dX6_init_15 ?_
  refine TT_sipush hK (by decide) dX6_init_16 ?_
  refine TT_newa hK (t := 12) (N := 1024) (ty := .int) rfl (gd_ (tb_1 46 rfl) rfl) (by decide) rfl (fun _ => rfl) (by decide +kernel) (by decide) (by decide) (by decide) (by decide) (by decide) rfl rfl (by decide) (Nat.le_of_ble_eq_true rfl) dX6_init_19 ?_
  show TT K (67, rL lz_64) 4 1064 21 [(0, vR 62)] [vR 66, vR 62] HZ
  refine TT_putR hK hN (ci := 6) (k := 1) (q := 66) (T := TX6) (N := 8) rfl uin_6 (by decide) rfl (gd_ (tb_1 230 rfl) rfl) (by decide) rfl (by decide) tyX6_ok nmX6 rfl rfl (fun _ => ⟨rfl, rfl⟩) (by decide) rfl rfl dX6_init_21 ?_
  show TT K (67, rL lz_65) 4 1064 24 [(0, vR 62)] [] HZ
  exact TT_vret hK hQ ⟨rfl, rfl⟩ dX6_init_24
def lz_66 : List (Nat × Nat) := (44, 10) :: lz_65
def lz_67 : List (Nat × Nat) := (67, 1) :: lz_66
def lz_68 : List (Nat × Nat) := (67, 2) :: lz_67
def lz_69 : List (Nat × Nat) := (67, 3) :: lz_68
def lz_70 : List (Nat × Nat) := (67, 4) :: lz_69
def lz_71 : List (Nat × Nat) := (67, 5) :: lz_70
def lz_72 : List (Nat × Nat) := (67, 0) :: lz_71
set_option maxRecDepth 20000 in
theorem ci_67 : Ctr yX4_init cX4_init 2 none (rmk 1 5 500) (68, rL lz_66) (73, rL lz_72) 5 500 [vR 67, vR 62] HZ (fun r h' => r = none ∧ h' = HZ) := by
  refine Ctr_of (by decide) (by decide) ⟨Nat.le_refl _, Nat.le_refl _⟩ (fun K hK hQ hN => ?_)
  show TT K (68, rL lz_66) 0 0 0 [(0, vR 67), (1, vR 62)] [] HZ
  refine TT_aload_n hK rfl 0 rfl dX4_init_0 ?_
  refine TT_objInit hK (gd_ (tb_1 150 rfl) rfl) (gd_ (tb_1 26 rfl) rfl) (gd_ (tb_1 27 rfl) rfl) (by decide) (by decide) dX4_init_1 ?_
  show TT K (68, rL lz_66) 0 0 4 [(0, vR 67), (1, vR 62)] [] HZ
  refine TT_aload_n hK rfl 0 rfl dX4_init_4 ?_
  refine TT_bipush hK (by decide) dX4_init_5 ?_
  refine TT_newa hK (t := 12) (N := 100) (ty := .int) rfl (gd_ (tb_1 46 rfl) rfl) (by decide) rfl (fun _ => rfl) (by decide +kernel) (by decide) (by decide) (by decide) (by decide) (by decide) rfl rfl (by decide) (Nat.le_of_ble_eq_true rfl) dX4_init_7 ?_
  show TT K (69, rL lz_66) 1 100 9 [(0, vR 67), (1, vR 62)] [vR 68, vR 67] HZ
  refine TT_putR hK hN (ci := 4) (k := 1) (q := 68) (T := TX4) (N := 10) rfl uin_4 (by decide) rfl (gd_ (tb_1 152 rfl) rfl) (by decide) rfl (by decide) tyX4_ok nmX4 rfl rfl (fun _ => ⟨rfl, rfl⟩) (by decide) rfl rfl dX4_init_9 ?_
  show TT K (69, rL lz_67) 1 100 12 [(0, vR 67), (1, vR 62)] [] HZ
  refine TT_aload_n hK rfl 0 rfl dX4_init_12 ?_
  refine TT_bipush hK (by decide) dX4_init_13 ?_
  refine TT_newa hK (t := 12) (N := 100) (ty := .int) rfl (gd_ (tb_1 46 rfl) rfl) (by decide) rfl (fun _ => rfl) (by decide +kernel) (by decide) (by decide) (by decide) (by decide) (by decide) rfl rfl (by decide) (Nat.le_of_ble_eq_true rfl) dX4_init_15 ?_
  show TT K (70, rL lz_67) 2 200 17 [(0, vR 67), (1, vR 62)] [vR 69, vR 67] HZ
  refine TT_putR hK hN (ci := 4) (k := 2) (q := 69) (T := TX4) (N := 10) rfl uin_4 (by decide) rfl (gd_ (tb_1 153 rfl) rfl) (by decide) rfl (by decide) tyX4_ok nmX4 rfl rfl (fun _ => ⟨rfl, rfl⟩) (by decide) rfl rfl dX4_init_17 ?_
  show TT K (70, rL lz_68) 2 200 20 [(0, vR 67), (1, vR 62)] [] HZ
  refine TT_aload_n hK rfl 0 rfl dX4_init_20 ?_
  refine TT_bipush hK (by decide) dX4_init_21 ?_
  refine TT_newa hK (t := 12) (N := 100) (ty := .int) rfl (gd_ (tb_1 46 rfl) rfl) (by decide) rfl (fun _ => rfl) (by decide +kernel) (by decide) (by decide) (by decide) (by decide) (by decide) rfl rfl (by decide) (Nat.le_of_ble_eq_true rfl) dX4_init_23 ?_
  show TT K (71, rL lz_68) 3 300 25 [(0, vR 67), (1, vR 62)] [vR 70, vR 67] HZ
  refine TT_putR hK hN (ci := 4) (k := 3) (q := 70) (T := TX4) (N := 10) rfl uin_4 (by decide) rfl (gd_ (tb_1 154 rfl) rfl) (by decide) rfl (by decide) tyX4_ok nmX4 rfl rfl (fun _ => ⟨rfl, rfl⟩) (by decide) rfl rfl dX4_init_25 ?_
  show TT K (71, rL lz_69) 3 300 28 [(0, vR 67), (1, vR 62)] [] HZ
  refine TT_aload_n hK rfl 0 rfl dX4_init_28 ?_
  refine TT_bipush hK (by decide) dX4_init_29 ?_
  refine TT_newa hK (t := 13) (N := 100) (ty := .boolean) rfl (gd_ (tb_1 182 rfl) rfl) (by decide) rfl (fun _ => rfl) (by decide +kernel) (by decide) (by decide) (by decide) (by decide) (by decide) rfl rfl (by decide) (Nat.le_of_ble_eq_true rfl) dX4_init_31 ?_
  show TT K (72, rL lz_69) 4 400 33 [(0, vR 67), (1, vR 62)] [vR 71, vR 67] HZ
  refine TT_putR hK hN (ci := 4) (k := 4) (q := 71) (T := TX4) (N := 10) rfl uin_4 (by decide) rfl (gd_ (tb_1 155 rfl) rfl) (by decide) rfl (by decide) tyX4_ok nmX4 rfl rfl (fun _ => ⟨rfl, rfl⟩) (by decide) rfl rfl dX4_init_33 ?_
  show TT K (72, rL lz_70) 4 400 36 [(0, vR 67), (1, vR 62)] [] HZ
  refine TT_aload_n hK rfl 0 rfl dX4_init_36 ?_
  refine TT_bipush hK (by decide) dX4_init_37 ?_
  refine TT_newa hK (t := 13) (N := 100) (ty := .boolean) rfl (gd_ (tb_1 182 rfl) rfl) (by decide) rfl (fun _ => rfl) (by decide +kernel) (by decide) (by decide) (by decide) (by decide) (by decide) rfl rfl (by decide) (Nat.le_of_ble_eq_true rfl) dX4_init_39 ?_
  show TT K (73, rL lz_70) 5 500 41 [(0, vR 67), (1, vR 62)] [vR 72, vR 67] HZ
  refine TT_putR hK hN (ci := 4) (k := 5) (q := 72) (T := TX4) (N := 10) rfl uin_4 (by decide) rfl (gd_ (tb_1 156 rfl) rfl) (by decide) rfl (by decide) tyX4_ok nmX4 rfl rfl (fun _ => ⟨rfl, rfl⟩) (by decide) rfl rfl dX4_init_41 ?_
  show TT K (73, rL lz_71) 5 500 44 [(0, vR 67), (1, vR 62)] [] HZ
  refine TT_aload_n hK rfl 0 rfl dX4_init_44 ?_
  refine TT_aload_n hK rfl 1 rfl dX4_init_45 ?_
  refine TT_putR hK hN (ci := 4) (k := 0) (q := 62) (T := TX4) (N := 10) rfl uin_4 (by decide) rfl (gd_ (tb_1 151 rfl) rfl) (by decide) rfl (by decide) tyX4_ok nmX4 rfl rfl (fun _ => ⟨rfl, rfl⟩) (by decide) rfl rfl dX4_init_46 ?_
  show TT K (73, rL lz_72) 5 500 49 [(0, vR 67), (1, vR 62)] [] HZ
  exact TT_vret hK hQ ⟨rfl, rfl⟩ dX4_init_49
def lz_73 : List (Nat × Nat) := (44, 11) :: lz_72
set_option maxRecDepth 20000 in
theorem ci_44 : Ctr yX10_init cX10_init 1 none (rmk 3 28 1843) (45, rL lz_44) (73, rL lz_73) 28 1843 [vR 44] HZ (fun r h' => r = none ∧ h' = HZ) := by
  refine Ctr_of (by decide) (by decide) ⟨Nat.le_refl _, Nat.le_refl _⟩ (fun K hK hQ hN => ?_)
  show TT K (45, rL lz_44) 0 0 0 [(0, vR 44)] [] HZ
  refine TT_aload_n hK rfl 0 rfl dX10_init_0 ?_
  refine TT_objInit hK (gd_ (tb_2 56 rfl) rfl) (gd_ (tb_1 26 rfl) rfl) (gd_ (tb_1 27 rfl) rfl) (by decide) (by decide) dX10_init_1 ?_
  show TT K (45, rL lz_44) 0 0 4 [(0, vR 44)] [] HZ
  refine TT_aload_n hK rfl 0 rfl dX10_init_4 ?_
  refine TT_new hK (ci := 0) (N := 11) (C := RX0) (T := TX0) rfl uin_0 tyX0_ok (gd_ (tb_2 57 rfl) rfl) (gd_ (tb_1 76 rfl) rfl) (gd_ (tb_1 5 rfl) rfl) (by decide) rfl rfl (by decide +kernel) (fun _ => rfl) (by decide +kernel) (by decide) (by decide) rfl rfl (by decide) (Nat.le_of_ble_eq_true rfl) dX10_init_5 ?_
  show TT K (46, rL lz_44) 1 11 8 [(0, vR 44)] [vR 45, vR 44] HZ
  refine TT_dup hK rfl dX10_init_8 ?_
  refine TT_callIN hK ci_45 (As := []) (n := 0) (w1 := (53, rL lz_51)) (mc := 7) (ms := 120) (host := "WaveletStream") ⟨rfl, rfl⟩ ⟨by decide, by decide⟩ (gd_ (tb_1 79 rfl) rfl) ⟨by decide, by decide, by decide +kernel⟩ rfl (nd_ (tb_2 58 rfl) rfl) (List.forall_mem_cons.mpr ⟨(gd_ (tb_1 78 rfl) rfl), (List.forall_mem_cons.mpr ⟨(gd_ (tb_1 5 rfl) rfl), (fun _ z => absurd z List.not_mem_nil)⟩)⟩) rfl (by decide) rfl rfl (Nat.le_of_ble_eq_true rfl) ⟨by decide, Nat.le_of_ble_eq_true rfl⟩ dX10_init_9 ?_
  intro r9 h9 hp9
  rw [hp9.1, hp9.2]
  show TT K (53, rL lz_51) 8 131 12 [(0, vR 44)] [vR 45, vR 44] HZ
  refine TT_putR hK hN (ci := 9) (k := 0) (q := 45) (T := TX10) (N := 13) rfl uin_10 (by decide) rfl (gd_ (tb_2 63 rfl) rfl) (by decide) rfl (by decide) tyX10_ok nmX10 rfl rfl (fun _ => ⟨rfl, rfl⟩) (by decide) rfl rfl dX10_init_12 ?_
  show TT K (53, rL lz_52) 8 131 15 [(0, vR 44)] [] HZ
  refine TT_aload_n hK rfl 0 rfl dX10_init_15 ?_
  refine TT_bipush hK (by decide) dX10_init_16 ?_
  refine TT_newa hK (t := 12) (N := 10) (ty := .int) rfl (gd_ (tb_1 46 rfl) rfl) (by decide) rfl (fun _ => rfl) (by decide +kernel) (by decide) (by decide) (by decide) (by decide) (by decide) rfl rfl (by decide) (Nat.le_of_ble_eq_true rfl) dX10_init_18 ?_
  show TT K (54, rL lz_52) 9 141 20 [(0, vR 44)] [vR 53, vR 44] HZ
  refine TT_putR hK hN (ci := 9) (k := 1) (q := 53) (T := TX10) (N := 13) rfl uin_10 (by decide) rfl (gd_ (tb_2 64 rfl) rfl) (by decide) rfl (by decide) tyX10_ok nmX10 rfl rfl (fun _ => ⟨rfl, rfl⟩) (by decide) rfl rfl dX10_init_20 ?_
  show TT K (54, rL lz_53) 9 141 23 [(0, vR 44)] [] HZ
  refine TT_aload_n hK rfl 0 rfl dX10_init_23 ?_
  refine TT_bipush hK (by decide) dX10_init_24 ?_
  refine TT_newa hK (t := 12) (N := 10) (ty := .int) rfl (gd_ (tb_1 46 rfl) rfl) (by decide) rfl (fun _ => rfl) (by decide +kernel) (by decide) (by decide) (by decide) (by decide) (by decide) rfl rfl (by decide) (Nat.le_of_ble_eq_true rfl) dX10_init_26 ?_
  show TT K (55, rL lz_53) 10 151 28 [(0, vR 44)] [vR 54, vR 44] HZ
  refine TT_putR hK hN (ci := 9) (k := 2) (q := 54) (T := TX10) (N := 13) rfl uin_10 (by decide) rfl (gd_ (tb_2 65 rfl) rfl) (by decide) rfl (by decide) tyX10_ok nmX10 rfl rfl (fun _ => ⟨rfl, rfl⟩) (by decide) rfl rfl dX10_init_28 ?_
  show TT K (55, rL lz_54) 10 151 31 [(0, vR 44)] [] HZ
  refine TT_aload_n hK rfl 0 rfl dX10_init_31 ?_
  refine TT_bipush hK (by decide) dX10_init_32 ?_
  refine TT_newa hK (t := 12) (N := 10) (ty := .int) rfl (gd_ (tb_1 46 rfl) rfl) (by decide) rfl (fun _ => rfl) (by decide +kernel) (by decide) (by decide) (by decide) (by decide) (by decide) rfl rfl (by decide) (Nat.le_of_ble_eq_true rfl) dX10_init_34 ?_
  show TT K (56, rL lz_54) 11 161 36 [(0, vR 44)] [vR 55, vR 44] HZ
  refine TT_putR hK hN (ci := 9) (k := 3) (q := 55) (T := TX10) (N := 13) rfl uin_10 (by decide) rfl (gd_ (tb_2 66 rfl) rfl) (by decide) rfl (by decide) tyX10_ok nmX10 rfl rfl (fun _ => ⟨rfl, rfl⟩) (by decide) rfl rfl dX10_init_36 ?_
  show TT K (56, rL lz_55) 11 161 39 [(0, vR 44)] [] HZ
  refine TT_aload_n hK rfl 0 rfl dX10_init_39 ?_
  refine TT_bipush hK (by decide) dX10_init_40 ?_
  refine TT_newa hK (t := 12) (N := 10) (ty := .int) rfl (gd_ (tb_1 46 rfl) rfl) (by decide) rfl (fun _ => rfl) (by decide +kernel) (by decide) (by decide) (by decide) (by decide) (by decide) rfl rfl (by decide) (Nat.le_of_ble_eq_true rfl) dX10_init_42 ?_
  show TT K (57, rL lz_55) 12 171 44 [(0, vR 44)] [vR 56, vR 44] HZ
  refine TT_putR hK hN (ci := 9) (k := 4) (q := 56) (T := TX10) (N := 13) rfl uin_10 (by decide) rfl (gd_ (tb_2 67 rfl) rfl) (by decide) rfl (by decide) tyX10_ok nmX10 rfl rfl (fun _ => ⟨rfl, rfl⟩) (by decide) rfl rfl dX10_init_44 ?_
  show TT K (57, rL lz_56) 12 171 47 [(0, vR 44)] [] HZ
  refine TT_aload_n hK rfl 0 rfl dX10_init_47 ?_
  refine TT_bipush hK (by decide) dX10_init_48 ?_
  refine TT_newa hK (t := 12) (N := 10) (ty := .int) rfl (gd_ (tb_1 46 rfl) rfl) (by decide) rfl (fun _ => rfl) (by decide +kernel) (by decide) (by decide) (by decide) (by decide) (by decide) rfl rfl (by decide) (Nat.le_of_ble_eq_true rfl) dX10_init_50 ?_
  show TT K (58, rL lz_56) 13 181 52 [(0, vR 44)] [vR 57, vR 44] HZ
  refine TT_putR hK hN (ci := 9) (k := 5) (q := 57) (T := TX10) (N := 13) rfl uin_10 (by decide) rfl (gd_ (tb_2 68 rfl) rfl) (by decide) rfl (by decide) tyX10_ok nmX10 rfl rfl (fun _ => ⟨rfl, rfl⟩) (by decide) rfl rfl dX10_init_52 ?_
  show TT K (58, rL lz_57) 13 181 55 [(0, vR 44)] [] HZ
  refine TT_aload_n hK rfl 0 rfl dX10_init_55 ?_
  refine TT_bipush hK (by decide) dX10_init_56 ?_
  refine TT_newa hK (t := 12) (N := 10) (ty := .int) rfl (gd_ (tb_1 46 rfl) rfl) (by decide) rfl (fun _ => rfl) (by decide +kernel) (by decide) (by decide) (by decide) (by decide) (by decide) rfl rfl (by decide) (Nat.le_of_ble_eq_true rfl) dX10_init_58 ?_
  show TT K (59, rL lz_57) 14 191 60 [(0, vR 44)] [vR 58, vR 44] HZ
  refine TT_putR hK hN (ci := 9) (k := 6) (q := 58) (T := TX10) (N := 13) rfl uin_10 (by decide) rfl (gd_ (tb_2 69 rfl) rfl) (by decide) rfl (by decide) tyX10_ok nmX10 rfl rfl (fun _ => ⟨rfl, rfl⟩) (by decide) rfl rfl dX10_init_60 ?_
  show TT K (59, rL lz_58) 14 191 63 [(0, vR 44)] [] HZ
  refine TT_aload_n hK rfl 0 rfl dX10_init_63 ?_
  refine TT_bipush hK (by decide) dX10_init_64 ?_
  refine TT_newa hK (t := 12) (N := 30) (ty := .int) rfl (gd_ (tb_1 46 rfl) rfl) (by decide) rfl (fun _ => rfl) (by decide +kernel) (by decide) (by decide) (by decide) (by decide) (by decide) rfl rfl (by decide) (Nat.le_of_ble_eq_true rfl) dX10_init_66 ?_
  show TT K (60, rL lz_58) 15 221 68 [(0, vR 44)] [vR 59, vR 44] HZ
  refine TT_putR hK hN (ci := 9) (k := 7) (q := 59) (T := TX10) (N := 13) rfl uin_10 (by decide) rfl (gd_ (tb_2 70 rfl) rfl) (by decide) rfl (by decide) tyX10_ok nmX10 rfl rfl (fun _ => ⟨rfl, rfl⟩) (by decide) rfl rfl dX10_init_68 ?_
  show TT K (60, rL lz_59) 15 221 71 [(0, vR 44)] [] HZ
  refine TT_aload_n hK rfl 0 rfl dX10_init_71 ?_
  refine TT_bipush hK (by decide) dX10_init_72 ?_
  refine TT_newa hK (t := 12) (N := 30) (ty := .int) rfl (gd_ (tb_1 46 rfl) rfl) (by decide) rfl (fun _ => rfl) (by decide +kernel) (by decide) (by decide) (by decide) (by decide) (by decide) rfl rfl (by decide) (Nat.le_of_ble_eq_true rfl) dX10_init_74 ?_
  show TT K (61, rL lz_59) 16 251 76 [(0, vR 44)] [vR 60, vR 44] HZ
  refine TT_putR hK hN (ci := 9) (k := 8) (q := 60) (T := TX10) (N := 13) rfl uin_10 (by decide) rfl (gd_ (tb_2 71 rfl) rfl) (by decide) rfl (by decide) tyX10_ok nmX10 rfl rfl (fun _ => ⟨rfl, rfl⟩) (by decide) rfl rfl dX10_init_76 ?_
  show TT K (61, rL lz_60) 16 251 79 [(0, vR 44)] [] HZ
  refine TT_aload_n hK rfl 0 rfl dX10_init_79 ?_
  refine TT_bipush hK (by decide) dX10_init_80 ?_
  refine TT_newa hK (t := 12) (N := 10) (ty := .int) rfl (gd_ (tb_1 46 rfl) rfl) (by decide) rfl (fun _ => rfl) (by decide +kernel) (by decide) (by decide) (by decide) (by decide) (by decide) rfl rfl (by decide) (Nat.le_of_ble_eq_true rfl) dX10_init_82 ?_
  show TT K (62, rL lz_60) 17 261 84 [(0, vR 44)] [vR 61, vR 44] HZ
  refine TT_putR hK hN (ci := 9) (k := 9) (q := 61) (T := TX10) (N := 13) rfl uin_10 (by decide) rfl (gd_ (tb_2 72 rfl) rfl) (by decide) rfl (by decide) tyX10_ok nmX10 rfl rfl (fun _ => ⟨rfl, rfl⟩) (by decide) rfl rfl dX10_init_84 ?_
  show TT K (62, rL lz_61) 17 261 87 [(0, vR 44)] [] HZ
  refine TT_aload_n hK rfl 0 rfl dX10_init_87 ?_
  refine TT_new hK (ci := 6) (N := 8) (C := RX6) (T := TX6) rfl uin_6 tyX6_ok (gd_ (tb_2 59 rfl) rfl) (gd_ (tb_1 222 rfl) rfl) (gd_ (tb_1 10 rfl) rfl) (by decide) rfl rfl (by decide +kernel) (fun _ => rfl) (by decide +kernel) (by decide) (by decide) rfl rfl (by decide) (Nat.le_of_ble_eq_true rfl) dX10_init_88 ?_
  show TT K (63, rL lz_61) 18 269 91 [(0, vR 44)] [vR 62, vR 44] HZ
  refine TT_dup hK rfl dX10_init_91 ?_
  refine TT_callIN hK ci_62 (As := []) (n := 0) (w1 := (67, rL lz_65)) (mc := 4) (ms := 1064) (host := "WaveletStream") ⟨rfl, rfl⟩ ⟨by decide, by decide⟩ (gd_ (tb_1 225 rfl) rfl) ⟨by decide, by decide, by decide +kernel⟩ rfl (nd_ (tb_2 60 rfl) rfl) (List.forall_mem_cons.mpr ⟨(gd_ (tb_1 224 rfl) rfl), (List.forall_mem_cons.mpr ⟨(gd_ (tb_1 10 rfl) rfl), (fun _ z => absurd z List.not_mem_nil)⟩)⟩) rfl (by decide) rfl rfl (Nat.le_of_ble_eq_true rfl) ⟨by decide, Nat.le_of_ble_eq_true rfl⟩ dX10_init_92 ?_
  intro r9 h9 hp9
  rw [hp9.1, hp9.2]
  show TT K (67, rL lz_65) 22 1333 95 [(0, vR 44)] [vR 62, vR 44] HZ
  refine TT_putR hK hN (ci := 9) (k := 10) (q := 62) (T := TX10) (N := 13) rfl uin_10 (by decide) rfl (gd_ (tb_2 73 rfl) rfl) (by decide) rfl (by decide) tyX10_ok nmX10 rfl rfl (fun _ => ⟨rfl, rfl⟩) (by decide) rfl rfl dX10_init_95 ?_
  show TT K (67, rL lz_66) 22 1333 98 [(0, vR 44)] [] HZ
  refine TT_aload_n hK rfl 0 rfl dX10_init_98 ?_
  refine TT_new hK (ci := 4) (N := 10) (C := RX4) (T := TX4) rfl uin_4 tyX4_ok (gd_ (tb_2 61 rfl) rfl) (gd_ (tb_1 146 rfl) rfl) (gd_ (tb_1 7 rfl) rfl) (by decide) rfl rfl (by decide +kernel) (fun _ => rfl) (by decide +kernel) (by decide) (by decide) rfl rfl (by decide) (Nat.le_of_ble_eq_true rfl) dX10_init_99 ?_
  show TT K (68, rL lz_66) 23 1343 102 [(0, vR 44)] [vR 67, vR 44] HZ
  refine TT_dup hK rfl dX10_init_102 ?_
  refine TT_aload_n hK rfl 0 rfl dX10_init_103 ?_
  refine gf_X10_49 hK (by decide) rfl (q := 62) rfl (by decide +kernel) dX10_init_104 ?_
  refine TT_callI hK ci_67 (As := [vR 62]) (n := 1) (w1 := (73, rL lz_72)) (mc := 5) (ms := 500)  ⟨rfl, rfl⟩ ⟨by decide, by decide⟩ (gd_ (tb_1 149 rfl) rfl) ⟨by decide, by decide, by decide +kernel⟩ rfl (List.forall_mem_cons.mpr ⟨(gd_ (tb_2 62 rfl) rfl), (List.forall_mem_cons.mpr ⟨(gd_ (tb_1 148 rfl) rfl), (List.forall_mem_cons.mpr ⟨(gd_ (tb_1 7 rfl) rfl), (fun _ z => absurd z List.not_mem_nil)⟩)⟩)⟩) rfl (by decide) rfl rfl (Nat.le_of_ble_eq_true rfl) ⟨by decide, Nat.le_of_ble_eq_true rfl⟩ dX10_init_107 ?_
  intro r9 h9 hp9
  rw [hp9.1, hp9.2]
  show TT K (73, rL lz_72) 28 1843 110 [(0, vR 44)] [vR 67, vR 44] HZ
  refine TT_putR hK hN (ci := 9) (k := 11) (q := 67) (T := TX10) (N := 13) rfl uin_10 (by decide) rfl (gd_ (tb_2 74 rfl) rfl) (by decide) rfl (by decide) tyX10_ok nmX10 rfl rfl (fun _ => ⟨rfl, rfl⟩) (by decide) rfl rfl dX10_init_110 ?_
  show TT K (73, rL lz_73) 28 1843 113 [(0, vR 44)] [] HZ
  exact TT_vret hK hQ ⟨rfl, rfl⟩ dX10_init_113
def lz_74 : List (Nat × Nat) := (0, 4) :: lz_73
set_option maxRecDepth 20000 in
theorem ci_fill (v : Int) (h : Hp_)  : Ctr yJ7_fill_53178 cJ7_fill_53178 4 none (rmd 0) (73, rL lz_74) (73, rL lz_74) 0 0 [vR 2, vI v] h (fun r h' => r = none ∧ h' = setO h 2 (fsr (h 2) 0 64 (fun _ => v))) := by
  refine Ctr_of (by decide) (Nat.le_of_ble_eq_true rfl) ⟨Nat.le_refl _, Nat.le_refl _⟩ (fun K hK hQ _ => ?_)
  show TT K (73, rL lz_74) 0 0 0 [(0, vR 2), (1, vI v)] [] h
  refine TT_iconst hK dJ7_fill_53178_0 ?_
  refine TT_istore_n hK rfl (lv' := [(2, vI 0), (0, vR 2), (1, vI v)]) (by decide) rfl dJ7_fill_53178_1 ?_
  refine TT_aload_n hK rfl 1 rfl dJ7_fill_53178_2 ?_
  refine TT_alen hK (o := 2) (t := 12) (n := 64) (v := 64) (by decide) rfl (by decide) rfl dJ7_fill_53178_3 ?_
  refine TT_istore_n hK rfl (lv' := [(3, vI 64), (2, vI 0), (0, vR 2), (1, vI v)]) (by decide) rfl dJ7_fill_53178_4 ?_
  have L5_1 : ∀ (k1 : Nat) (i : Int), (0 ≤ i) → (i ≤ 64) → ((64 : Int) - i).toNat < k1 → TT K (73, rL lz_74) 0 0 5 [(0, vR 2), (1, vI v), (2, vI i), (3, vI 64)] [] (setO h 2 (fsr (h 2) 0 i (fun _ => v))) := by
    intro k1
    induction k1 with
    | zero => intro i hi0 hi1 hk1; exact absurd hk1 (Nat.not_lt_zero _)
    | succ k1 ih1 =>
      intro i hi0 hi1 hk1
      refine TT_iload_n hK rfl 2 rfl dJ7_fill_53178_5 ?_
      refine TT_iload_n hK rfl 3 rfl dJ7_fill_53178_6 ?_
      refine TT_icmp_ge hK (tgt := 20) (irm (by omega) (by omega)) (by decide) dJ7_fill_53178_7 (by decide) (fun hb7 => ?_) (fun hb7 => ?_)
      · refine TT_vret hK hQ ?_ dJ7_fill_53178_20
        exact ⟨rfl, setO_cg rfl (by rw [show i = 64 by omega])⟩
      · refine TT_aload_n hK rfl 0 rfl dJ7_fill_53178_10 ?_
        refine TT_iload_n hK rfl 2 rfl dJ7_fill_53178_11 ?_
        refine TT_iload_n hK rfl 1 rfl dJ7_fill_53178_12 ?_
        refine TT_iast hK (o := 2) (n := 64) (by decide) rfl (by first | omega | (simp [up, setR] <;> omega)) (by first | omega | (simp [up, setR] <;> omega)) dJ7_fill_53178_13 ?_
        refine TT_hp (h' := setO h 2 (fup (fsr (h 2) 0 i (fun _ => v)) i v)) (up_can (sOf_eq _ _ _) rfl (setO_same _ _ _ _)) ?_
        refine TT_iinc hK (v := i + 1) (lv' := [(2, vI (i + 1)), (0, vR 2), (1, vI v), (3, vI 64)]) 2 rfl rfl (by decide) rfl dJ7_fill_53178_14 ?_
        refine TT_goto hK (tgt := 5) dJ7_fill_53178_17 (by decide) ?_
        refine TT_sub [1, 2, 0, 3] rfl ?_
        refine TT_hp (h' := setO h 2 (fsr (h 2) 0 (i + 1) (fun _ => v))) (setO_cg rfl (by first | rfl | exact fsr_step _ (by omega) rfl)) ?_
        exact ih1 (i + 1) (by first | omega | (simp [up, setR] <;> omega)) (by first | omega | (simp [up, setR] <;> omega)) (by first | omega | (simp [up, setR] <;> omega))
  refine TT_sub [2, 3, 1, 0] rfl ?_
  refine TT_hp (h' := setO h 2 (fsr (h 2) 0 0 (fun _ => v))) ((setO_new (by first | rfl | exact fsr_0 _ _ _)).trans (setO_cg rfl rfl)) ?_
  exact L5_1 ((((64 : Int) - 0).toNat) + 1) 0 (by first | omega | (simp [up, setR] <;> omega)) (by first | omega | (simp [up, setR] <;> omega)) (Nat.lt_succ_self _)
set_option maxRecDepth 20000 in
theorem ci_begin (nw nh : Int) (h : Hp_)  : Ctr yX5_begin cX5_begin 3 none (rmd 1) (73, rL lz_74) (73, rL lz_74) 0 0 [vR 1, vI nw, vI nh] h (fun r h' => r = none ∧ h' = setO (setO h 1 (fup (fup (h 1) 1 nw) 2 nh)) 2 (fsr (h 2) 0 64 (fun _ => 0))) := by
  refine Ctr_of (by decide) (Nat.le_of_ble_eq_true rfl) ⟨Nat.le_refl _, Nat.le_refl _⟩ (fun K hK hQ _ => ?_)
  show TT K (73, rL lz_74) 0 0 0 [(0, vR 1), (1, vI nw), (2, vI nh)] [] h
  refine TT_aload_n hK rfl 0 rfl dX5_begin_0 ?_
  refine TT_iload_n hK rfl 1 rfl dX5_begin_1 ?_
  refine pf_X5_15 hK (by decide) rfl dX5_begin_2 ?_
  refine TT_hp (h' := setO h 1 (fup (h 1) 1 nw)) (up_can rfl rfl rfl) ?_
  refine TT_aload_n hK rfl 0 rfl dX5_begin_5 ?_
  refine TT_iload_n hK rfl 2 rfl dX5_begin_6 ?_
  refine pf_X5_19 hK (by decide) rfl dX5_begin_7 ?_
  refine TT_hp (h' := setO h 1 (fup (fup (h 1) 1 nw) 2 nh)) (up_can (sOf_eq _ _ _) rfl (setO_same _ _ _ _)) ?_
  refine TT_aload_n hK rfl 0 rfl dX5_begin_10 ?_
  refine gf_X5_9 hK (by decide) rfl (q := 2) rfl rfl dX5_begin_11 ?_
  refine TT_iconst hK dX5_begin_14 ?_
  have q15_2 : (setO h 1 (fup (fup (h 1) 1 nw) 2 nh)) 2 = h 2 := sOf_ne _ _ (by decide)
  refine iv_X5_22 hK (ci_fill 0 (setO h 1 (fup (fup (h 1) 1 nw) 2 nh)) ) ⟨by decide, by decide⟩ (by decide) rfl rfl (Nat.le_of_ble_eq_true rfl) ⟨by decide, by decide⟩ dX5_begin_15 ?_
  intro r9 h9 hp9
  rw [q15_2] at hp9
  rw [hp9.1, hp9.2]
  show TT K (73, rL lz_74) 0 0 18 [(0, vR 1), (1, vI nw), (2, vI nh)] [] (setO (setO h 1 (fup (fup (h 1) 1 nw) 2 nh)) 2 (fsr (h 2) 0 64 (fun _ => 0)))
  refine TT_vret hK hQ ?_ dX5_begin_18
  exact ⟨rfl, rfl⟩
noncomputable def Nm_a : Nat := hput 0 1 1 (encZ 1)
noncomputable def Nm_0 : Nat := hput Nm_a 1 2 (encZ 1)
theorem tH_0 : (HZ : Hp_) = tH 0 := by
  funext o i
  unfold tH
  split
  · unfold hget
    have h0 : ∀ s, dgt 0 s = 0 := fun s => by
      show (0 >>> s) % _ = 0
      rw [Nat.zero_shiftRight, Nat.zero_mod]
    rw [h0]
    rfl
  · rfl
theorem ci_hN1 : setO (setO HZ 1 (fup (fup (HZ 1) 1 1) 2 1)) 2 (fsr (HZ 2) 0 64 (fun _ => 0)) = tH Nm_0 := by
  have e1 : up (tH 0) 1 ((1 : Nat) : Int) 1 = tH Nm_a := tH_put (by decide) (by decide)
  have e2 : up (tH Nm_a) 1 ((2 : Nat) : Int) 1 = tH Nm_0 := tH_put (by decide) (by decide)
  rw [← e2, ← e1, ← tH_0]
  funext o i
  unfold setO fup fsr up
  by_cases h2 : o = 2
  · subst h2; simp
  · by_cases h1 : o = 1
    · subst h1
      by_cases q1 : i = 2
      · subst q1; simp
      · by_cases q2 : i = 1
        · subst q2; simp
        · simp [q1, q2]
    · simp [h1, h2]
theorem tH_gz {N o : Nat} {b : Nat} (hN : N < 2 ^ (48 * b)) (hb : ∀ i, b ≤ adr o i) : ∀ i : Int, tH N o i = 0 := by
  intro i
  unfold tH
  split
  · unfold hget
    have h1 : dgt N (Nat.mul 48 (adr o i.toNat)) = 0 := by
      show (N >>> (48 * adr o i.toNat)) % _ = 0
      rw [Nat.shiftRight_eq_div_pow, Nat.div_eq_of_lt, Nat.zero_mod]
      exact Nat.lt_of_lt_of_le hN (Nat.pow_le_pow_right (by decide) (Nat.mul_le_mul_left 48 (hb _)))
    rw [h1]
    rfl
  · rfl
theorem adr_ge {o b : Nat} (hb : b ≤ capT.get o / 8192) (hb2 : b ≤ 4096) : ∀ i, b ≤ adr o i := fun i => by
  rcases adr_spec o i with ⟨-, h⟩ | ⟨-, h⟩ <;> rw [h] <;> omega
set_option maxRecDepth 20000 in
theorem ci_0 : Ctr yX11_init cX11_init 1 none (rmk 4 72 9330) (1, rL lz_0) (73, rL lz_74) 72 9330 [vR 0] HZ (fun r h' => r = none ∧ h' = (tH Nm_0)) := by
  refine Ctr_of (by decide) (by decide) ⟨Nat.le_refl _, Nat.le_refl _⟩ (fun K hK hQ hN => ?_)
  show TT K (1, rL lz_0) 0 0 0 [(0, vR 0)] [] HZ
  refine TT_aload_n hK rfl 0 rfl dX11_init_0 ?_
  refine TT_objInit hK (gd_ (tb_1 25 rfl) rfl) (gd_ (tb_1 26 rfl) rfl) (gd_ (tb_1 27 rfl) rfl) (by decide) (by decide) dX11_init_1 ?_
  show TT K (1, rL lz_0) 0 0 4 [(0, vR 0)] [] HZ
  refine TT_aload_n hK rfl 0 rfl dX11_init_4 ?_
  refine TT_new hK (ci := 5) (N := 3) (C := RX5) (T := TX5) rfl uin_5 tyX5_ok (gd_ (tb_1 28 rfl) rfl) (gd_ (tb_1 29 rfl) rfl) (gd_ (tb_1 2 rfl) rfl) (by decide) rfl rfl (by decide +kernel) (fun _ => rfl) (by decide +kernel) (by decide) (by decide) rfl rfl (by decide) (Nat.le_of_ble_eq_true rfl) dX11_init_5 ?_
  show TT K (2, rL lz_0) 1 3 8 [(0, vR 0)] [vR 1, vR 0] HZ
  refine TT_dup hK rfl dX11_init_8 ?_
  refine TT_callIN hK ci_1 (As := []) (n := 0) (w1 := (3, rL lz_1)) (mc := 1) (ms := 64) (host := "WaveletStream") ⟨rfl, rfl⟩ ⟨by decide, by decide⟩ (gd_ (tb_1 32 rfl) rfl) ⟨by decide, by decide, by decide +kernel⟩ rfl (nd_ (tb_1 30 rfl) rfl) (List.forall_mem_cons.mpr ⟨(gd_ (tb_1 31 rfl) rfl), (List.forall_mem_cons.mpr ⟨(gd_ (tb_1 2 rfl) rfl), (fun _ z => absurd z List.not_mem_nil)⟩)⟩) rfl (by decide) rfl rfl (Nat.le_of_ble_eq_true rfl) ⟨by decide, Nat.le_of_ble_eq_true rfl⟩ dX11_init_9 ?_
  intro r9 h9 hp9
  rw [hp9.1, hp9.2]
  show TT K (3, rL lz_1) 2 67 12 [(0, vR 0)] [vR 1, vR 0] HZ
  refine TT_putR hK hN (ci := 10) (k := 0) (q := 1) (T := TX11) (N := 5) rfl uin_11 (by decide) rfl (gd_ (tb_2 110 rfl) rfl) (by decide) rfl (by decide) tyX11_ok nmX11 rfl rfl (fun _ => ⟨rfl, rfl⟩) (by decide) rfl rfl dX11_init_12 ?_
  show TT K (3, rL lz_2) 2 67 15 [(0, vR 0)] [] HZ
  refine TT_aload_n hK rfl 0 rfl dX11_init_15 ?_
  refine TT_new hK (ci := 5) (N := 3) (C := RX5) (T := TX5) rfl uin_5 tyX5_ok (gd_ (tb_1 28 rfl) rfl) (gd_ (tb_1 29 rfl) rfl) (gd_ (tb_1 2 rfl) rfl) (by decide) rfl rfl (by decide +kernel) (fun _ => rfl) (by decide +kernel) (by decide) (by decide) rfl rfl (by decide) (Nat.le_of_ble_eq_true rfl) dX11_init_16 ?_
  show TT K (4, rL lz_2) 3 70 19 [(0, vR 0)] [vR 3, vR 0] HZ
  refine TT_dup hK rfl dX11_init_19 ?_
  refine TT_callIN hK ci_3 (As := []) (n := 0) (w1 := (5, rL lz_3)) (mc := 1) (ms := 64) (host := "WaveletStream") ⟨rfl, rfl⟩ ⟨by decide, by decide⟩ (gd_ (tb_1 32 rfl) rfl) ⟨by decide, by decide, by decide +kernel⟩ rfl (nd_ (tb_1 30 rfl) rfl) (List.forall_mem_cons.mpr ⟨(gd_ (tb_1 31 rfl) rfl), (List.forall_mem_cons.mpr ⟨(gd_ (tb_1 2 rfl) rfl), (fun _ z => absurd z List.not_mem_nil)⟩)⟩) rfl (by decide) rfl rfl (Nat.le_of_ble_eq_true rfl) ⟨by decide, Nat.le_of_ble_eq_true rfl⟩ dX11_init_20 ?_
  intro r9 h9 hp9
  rw [hp9.1, hp9.2]
  show TT K (5, rL lz_3) 4 134 23 [(0, vR 0)] [vR 3, vR 0] HZ
  refine TT_putR hK hN (ci := 10) (k := 1) (q := 3) (T := TX11) (N := 5) rfl uin_11 (by decide) rfl (gd_ (tb_2 111 rfl) rfl) (by decide) rfl (by decide) tyX11_ok nmX11 rfl rfl (fun _ => ⟨rfl, rfl⟩) (by decide) rfl rfl dX11_init_23 ?_
  show TT K (5, rL lz_4) 4 134 26 [(0, vR 0)] [] HZ
  refine TT_aload_n hK rfl 0 rfl dX11_init_26 ?_
  refine TT_new hK (ci := 1) (N := 5) (C := RX1) (T := TX1) rfl uin_1 tyX1_ok (gd_ (tb_1 47 rfl) rfl) (gd_ (tb_1 48 rfl) rfl) (gd_ (tb_1 3 rfl) rfl) (by decide) rfl rfl (by decide +kernel) (fun _ => rfl) (by decide +kernel) (by decide) (by decide) rfl rfl (by decide) (Nat.le_of_ble_eq_true rfl) dX11_init_27 ?_
  show TT K (6, rL lz_4) 5 139 30 [(0, vR 0)] [vR 5, vR 0] HZ
  refine TT_dup hK rfl dX11_init_30 ?_
  refine TT_callIN hK ci_5 (As := []) (n := 0) (w1 := (7, rL lz_5)) (mc := 1) (ms := 1024) (host := "WaveletStream") ⟨rfl, rfl⟩ ⟨by decide, by decide⟩ (gd_ (tb_1 51 rfl) rfl) ⟨by decide, by decide, by decide +kernel⟩ rfl (nd_ (tb_1 49 rfl) rfl) (List.forall_mem_cons.mpr ⟨(gd_ (tb_1 50 rfl) rfl), (List.forall_mem_cons.mpr ⟨(gd_ (tb_1 3 rfl) rfl), (fun _ z => absurd z List.not_mem_nil)⟩)⟩) rfl (by decide) rfl rfl (Nat.le_of_ble_eq_true rfl) ⟨by decide, Nat.le_of_ble_eq_true rfl⟩ dX11_init_31 ?_
  intro r9 h9 hp9
  rw [hp9.1, hp9.2]
  show TT K (7, rL lz_5) 6 1163 34 [(0, vR 0)] [vR 5, vR 0] HZ
  refine TT_putR hK hN (ci := 10) (k := 2) (q := 5) (T := TX11) (N := 5) rfl uin_11 (by decide) rfl (gd_ (tb_2 112 rfl) rfl) (by decide) rfl (by decide) tyX11_ok nmX11 rfl rfl (fun _ => ⟨rfl, rfl⟩) (by decide) rfl rfl dX11_init_34 ?_
  show TT K (7, rL lz_6) 6 1163 37 [(0, vR 0)] [] HZ
  refine TT_aload_n hK rfl 0 rfl dX11_init_37 ?_
  refine TT_new hK (ci := 3) (N := 12) (C := RX3) (T := TX3) rfl uin_3 tyX3_ok (gd_ (tb_1 69 rfl) rfl) (gd_ (tb_1 70 rfl) rfl) (gd_ (tb_1 4 rfl) rfl) (by decide) rfl rfl (by decide +kernel) (fun _ => rfl) (by decide +kernel) (by decide) (by decide) rfl rfl (by decide) (Nat.le_of_ble_eq_true rfl) dX11_init_38 ?_
  show TT K (8, rL lz_6) 7 1175 41 [(0, vR 0)] [vR 7, vR 0] HZ
  refine TT_dup hK rfl dX11_init_41 ?_
  refine TT_callIN hK ci_7 (As := []) (n := 0) (w1 := (44, rL lz_43)) (mc := 36) (ms := 6299) (host := "WaveletStream") ⟨rfl, rfl⟩ ⟨by decide, by decide⟩ (gd_ (tb_1 73 rfl) rfl) ⟨by decide, by decide, by decide +kernel⟩ rfl (nd_ (tb_1 71 rfl) rfl) (List.forall_mem_cons.mpr ⟨(gd_ (tb_1 72 rfl) rfl), (List.forall_mem_cons.mpr ⟨(gd_ (tb_1 4 rfl) rfl), (fun _ z => absurd z List.not_mem_nil)⟩)⟩) rfl (by decide) rfl rfl (Nat.le_of_ble_eq_true rfl) ⟨by decide, Nat.le_of_ble_eq_true rfl⟩ dX11_init_42 ?_
  intro r9 h9 hp9
  rw [hp9.1, hp9.2]
  show TT K (44, rL lz_43) 43 7474 45 [(0, vR 0)] [vR 7, vR 0] HZ
  refine TT_putR hK hN (ci := 10) (k := 3) (q := 7) (T := TX11) (N := 5) rfl uin_11 (by decide) rfl (gd_ (tb_2 113 rfl) rfl) (by decide) rfl (by decide) tyX11_ok nmX11 rfl rfl (fun _ => ⟨rfl, rfl⟩) (by decide) rfl rfl dX11_init_45 ?_
  show TT K (44, rL lz_44) 43 7474 48 [(0, vR 0)] [] HZ
  refine TT_aload_n hK rfl 0 rfl dX11_init_48 ?_
  refine TT_new hK (ci := 9) (N := 13) (C := RX10) (T := TX10) rfl uin_10 tyX10_ok (gd_ (tb_2 51 rfl) rfl) (gd_ (tb_2 52 rfl) rfl) (gd_ (tb_1 11 rfl) rfl) (by decide) rfl rfl (by decide +kernel) (fun _ => rfl) (by decide +kernel) (by decide) (by decide) rfl rfl (by decide) (Nat.le_of_ble_eq_true rfl) dX11_init_49 ?_
  show TT K (45, rL lz_44) 44 7487 52 [(0, vR 0)] [vR 44, vR 0] HZ
  refine TT_dup hK rfl dX11_init_52 ?_
  refine TT_callIN hK ci_44 (As := []) (n := 0) (w1 := (73, rL lz_73)) (mc := 28) (ms := 1843) (host := "WaveletStream") ⟨rfl, rfl⟩ ⟨by decide, by decide⟩ (gd_ (tb_2 55 rfl) rfl) ⟨by decide, by decide, by decide +kernel⟩ rfl (nd_ (tb_2 53 rfl) rfl) (List.forall_mem_cons.mpr ⟨(gd_ (tb_2 54 rfl) rfl), (List.forall_mem_cons.mpr ⟨(gd_ (tb_1 11 rfl) rfl), (fun _ z => absurd z List.not_mem_nil)⟩)⟩) rfl (by decide) rfl rfl (Nat.le_of_ble_eq_true rfl) ⟨by decide, Nat.le_of_ble_eq_true rfl⟩ dX11_init_53 ?_
  intro r9 h9 hp9
  rw [hp9.1, hp9.2]
  show TT K (73, rL lz_73) 72 9330 56 [(0, vR 0)] [vR 44, vR 0] HZ
  refine TT_putR hK hN (ci := 10) (k := 4) (q := 44) (T := TX11) (N := 5) rfl uin_11 (by decide) rfl (gd_ (tb_2 114 rfl) rfl) (by decide) rfl (by decide) tyX11_ok nmX11 rfl rfl (fun _ => ⟨rfl, rfl⟩) (by decide) rfl rfl dX11_init_56 ?_
  show TT K (73, rL lz_74) 72 9330 59 [(0, vR 0)] [] HZ
  refine TT_aload_n hK rfl 0 rfl dX11_init_59 ?_
  refine gf_X11_10 hK (by decide) rfl (q := 1) rfl (by decide +kernel) dX11_init_60 ?_
  refine TT_iconst hK dX11_init_63 ?_
  refine TT_iconst hK dX11_init_64 ?_
  refine iv_X11_40 hK (ci_begin 1 1 HZ) (by decide) rfl ⟨by decide, by decide⟩ (by decide) rfl rfl (Nat.le_of_ble_eq_true rfl) ⟨by decide, Nat.le_of_ble_eq_true rfl⟩ dX11_init_65 ?_
  intro r9 h9 hp9
  rw [hp9.1, hp9.2]
  refine TT_hp ci_hN1 ?_
  show TT K (73, rL lz_74) 72 9330 68 [(0, vR 0)] [] (tH Nm_0)
  exact TT_vret hK hQ ⟨rfl, rfl⟩ dX11_init_68

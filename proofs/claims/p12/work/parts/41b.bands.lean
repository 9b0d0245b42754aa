set_option maxRecDepth 20000 in
theorem s_X0_hasBand_45 (b : Int) (h : Hp_) (hT : TY h) (hb : -2147483648 ≤ b ∧ b ≤ 2147483647) : Ctr yX0_hasBand cX0_hasBand 2 (some .boolean) (rmd 0) ly ly 0 0 [vR 45, vI b] h (fun r h' => (TY h' ∧ FR [] h h') ∧ ∃ z : Int, r = some (vI z) ∧ (0 ≤ z ∧ z ≤ 1) ∧ (z = 1 → 0 ≤ b ∧ b < 10)) := by
  refine Ctr_of (by decide) (Nat.le_of_ble_eq_true rfl) ⟨Nat.le_refl _, Nat.le_refl _⟩ (fun K hK hQ _ => ?_)
  show TT K ly 0 0 0 [(0, vR 45), (1, vI b)] [] h
  have hF : FR [] h h := FR_rf _ _
  refine TT_iload_n hK rfl 1 rfl dX0_hasBand_0 ?_
  refine TT_if_lt hK (tgt := 16) (irm (by omega) (by omega)) dX0_hasBand_1 (by decide) (fun hb1_1 => ?_) (fun hb1_1 => ?_)
  · refine TT_iconst hK dX0_hasBand_16 ?_
    refine TT_zret hK hQ (by decide) ?_ dX0_hasBand_17
    exact ⟨⟨hT, hF⟩, 0, rfl, (by omega), (by omega)⟩
  · refine TT_iload_n hK rfl 1 rfl dX0_hasBand_4 ?_
    refine TT_aload_n hK rfl 0 rfl dX0_hasBand_5 ?_
    refine gf_X0_43 hK (by decide) rfl (v := (h 45) 10) rfl dX0_hasBand_6 ?_
    have r2 := ty_45_10 (v := (h 45) 10) hT rfl
    refine TT_icmp_ge hK (tgt := 16) (irm (by omega) (by omega)) (irm (by omega) (by omega)) dX0_hasBand_9 (by decide) (fun hb9_3 => ?_) (fun hb9_3 => ?_)
    · refine TT_iconst hK dX0_hasBand_16 ?_
      refine TT_zret hK hQ (by decide) ?_ dX0_hasBand_17
      exact ⟨⟨hT, hF⟩, 0, rfl, (by omega), (by omega)⟩
    · refine TT_iconst hK dX0_hasBand_12 ?_
      refine TT_goto hK (tgt := 17) dX0_hasBand_13 (by decide) ?_
      refine TT_zret hK hQ (by decide) ?_ dX0_hasBand_17
      exact ⟨⟨hT, hF⟩, 1, rfl, (by omega), (by omega)⟩
set_option maxRecDepth 20000 in
theorem s_X0_isEmpty_45 (b : Int) (h : Hp_) (hT : TY h) (hb : 0 ≤ b ∧ b ≤ 9) : Ctr yX0_isEmpty cX0_isEmpty 2 (some .boolean) (rmd 0) ly ly 0 0 [vR 45, vI b] h (fun r h' => (TY h' ∧ FR [] h h') ∧ ∃ z : Int, r = some (vI z) ∧ (0 ≤ z ∧ z ≤ 1)) := by
  refine Ctr_of (by decide) (Nat.le_of_ble_eq_true rfl) ⟨Nat.le_refl _, Nat.le_refl _⟩ (fun K hK hQ _ => ?_)
  show TT K ly 0 0 0 [(0, vR 45), (1, vI b)] [] h
  have hF : FR [] h h := FR_rf _ _
  refine TT_aload_n hK rfl 0 rfl dX0_isEmpty_0 ?_
  refine gf_X0_21 hK (by decide) rfl (q := 49) rfl rfl dX0_isEmpty_1 ?_
  refine TT_iload_n hK rfl 1 rfl dX0_isEmpty_4 ?_
  refine TT_iald hK (o := 49) (n := 10) (by decide) rfl (by first | omega | (simp [up, setR] <;> omega)) (by first | omega | (simp [up, setR] <;> omega)) (v := (h 49) b) rfl dX0_isEmpty_5 ?_
  have r1 := ty_49 (i := b) (v := (h 49) b) hT rfl (by omega) (by omega)
  refine TT_if_eq hK (tgt := 18) (irm (by omega) (by omega)) dX0_isEmpty_6 (by decide) (fun hb6_2 => ?_) (fun hb6_2 => ?_)
  · refine TT_iconst hK dX0_isEmpty_18 ?_
    refine TT_goto hK (tgt := 23) dX0_isEmpty_19 (by decide) ?_
    refine TT_zret hK hQ (by decide) ?_ dX0_isEmpty_23
    exact ⟨⟨hT, hF⟩, 1, rfl, (by omega)⟩
  · refine TT_aload_n hK rfl 0 rfl dX0_isEmpty_9 ?_
    refine gf_X0_24 hK (by decide) rfl (q := 50) rfl rfl dX0_isEmpty_10 ?_
    refine TT_iload_n hK rfl 1 rfl dX0_isEmpty_13 ?_
    refine TT_iald hK (o := 50) (n := 10) (by decide) rfl (by first | omega | (simp [up, setR] <;> omega)) (by first | omega | (simp [up, setR] <;> omega)) (v := (h 50) b) rfl dX0_isEmpty_14 ?_
    have r3 := ty_50 (i := b) (v := (h 50) b) hT rfl (by omega) (by omega)
    refine TT_if_ne hK (tgt := 22) (irm (by omega) (by omega)) dX0_isEmpty_15 (by decide) (fun hb15_4 => ?_) (fun hb15_4 => ?_)
    · refine TT_iconst hK dX0_isEmpty_22 ?_
      refine TT_zret hK hQ (by decide) ?_ dX0_isEmpty_23
      exact ⟨⟨hT, hF⟩, 0, rfl, (by omega)⟩
    · refine TT_iconst hK dX0_isEmpty_18 ?_
      refine TT_goto hK (tgt := 23) dX0_isEmpty_19 (by decide) ?_
      refine TT_zret hK hQ (by decide) ?_ dX0_isEmpty_23
      exact ⟨⟨hT, hF⟩, 1, rfl, (by omega)⟩
set_option maxRecDepth 20000 in
theorem s_X0_kindOf_45 (b : Int) (h : Hp_) (hT : TY h) (hb : 0 ≤ b ∧ b ≤ 9) : Ctr yX0_kindOf cX0_kindOf 3 (some .int) (rmd 0) ly ly 0 0 [vR 45, vI b] h (fun r h' => (TY h' ∧ FR [] h h') ∧ ∃ z : Int, r = some (vI z) ∧ (0 ≤ z ∧ z ≤ 2)) := by
  refine Ctr_of (by decide) (Nat.le_of_ble_eq_true rfl) ⟨Nat.le_refl _, Nat.le_refl _⟩ (fun K hK hQ _ => ?_)
  show TT K ly 0 0 0 [(0, vR 45), (1, vI b)] [] h
  have hF : FR [] h h := FR_rf _ _
  refine TT_iload_n hK rfl 1 rfl dX0_kindOf_0 ?_
  refine TT_if_ne hK (tgt := 6) (irm (by omega) (by omega)) dX0_kindOf_1 (by decide) (fun hb1_1 => ?_) (fun hb1_1 => ?_)
  · refine TT_iload_n hK rfl 1 rfl dX0_kindOf_6 ?_
    refine TT_iconst hK dX0_kindOf_7 ?_
    refine TT_isub hK dX0_kindOf_8 ?_
    refine TT_iconst hK dX0_kindOf_9 ?_
    refine TT_iremn hK (irm (by omega) (by omega)) (by decide) (by first | omega | (simp [up, setR] <;> omega)) (by first | omega | (simp [up, setR] <;> omega)) dX0_kindOf_10 ?_
    refine TT_istore_n hK rfl (lv' := [(2, vI ((b - 1) % 3)), (0, vR 45), (1, vI b)]) (by decide) rfl dX0_kindOf_11 ?_
    refine TT_iload_n hK rfl 0 rfl dX0_kindOf_12 ?_
    refine TT_if_ne hK (tgt := 20) (irm (by omega) (by omega)) dX0_kindOf_13 (by decide) (fun hb13_2 => ?_) (fun hb13_2 => ?_)
    · refine TT_iload_n hK rfl 0 rfl dX0_kindOf_20 ?_
      refine TT_iconst hK dX0_kindOf_21 ?_
      refine TT_icmp_ne hK (tgt := 29) (irm (by omega) (by omega)) (by decide) dX0_kindOf_22 (by decide) (fun hb22_3 => ?_) (fun hb22_3 => ?_)
      · refine TT_iconst hK dX0_kindOf_29 ?_
        refine TT_iret hK hQ ?_ dX0_kindOf_30
        exact ⟨⟨hT, hF⟩, 2, rfl, (by omega)⟩
      · refine TT_iconst hK dX0_kindOf_25 ?_
        refine TT_goto hK (tgt := 30) dX0_kindOf_26 (by decide) ?_
        refine TT_iret hK hQ ?_ dX0_kindOf_30
        exact ⟨⟨hT, hF⟩, 0, rfl, (by omega)⟩
    · refine TT_iconst hK dX0_kindOf_16 ?_
      refine TT_goto hK (tgt := 30) dX0_kindOf_17 (by decide) ?_
      refine TT_iret hK hQ ?_ dX0_kindOf_30
      exact ⟨⟨hT, hF⟩, 1, rfl, (by omega)⟩
  · refine TT_iconst hK dX0_kindOf_4 ?_
    refine TT_iret hK hQ ?_ dX0_kindOf_5
    exact ⟨⟨hT, hF⟩, 0, rfl, (by omega)⟩
set_option maxRecDepth 20000 in
theorem s_X0_hasNumber_45 (b x y : Int) (h : Hp_) (hT : TY h) (hb : -2147483648 ≤ b ∧ b ≤ 2147483647) (hx : -2147483648 ≤ x ∧ x ≤ 2147483647) (hy : -2147483648 ≤ y ∧ y ≤ 2147483647) : Ctr yX0_hasNumber cX0_hasNumber 4 (some .boolean) (rmd 1) ly ly 0 0 [vR 45, vI b, vI x, vI y] h (fun r h' => (TY h' ∧ FR [] h h') ∧ ∃ z : Int, r = some (vI z) ∧ (0 ≤ z ∧ z ≤ 1) ∧ (z = 1 → (0 ≤ b ∧ b < 10) ∧ (0 ≤ x ∧ x < (h 49) b) ∧ (0 ≤ y ∧ y < (h 50) b))) := by
  refine Ctr_of (by decide) (Nat.le_of_ble_eq_true rfl) ⟨Nat.le_refl _, Nat.le_refl _⟩ (fun K hK hQ _ => ?_)
  show TT K ly 0 0 0 [(0, vR 45), (1, vI b), (2, vI x), (3, vI y)] [] h
  have hF : FR [] h h := FR_rf _ _
  refine TT_aload_n hK rfl 0 rfl dX0_hasNumber_0 ?_
  refine TT_iload_n hK rfl 1 rfl dX0_hasNumber_1 ?_
  refine iv_X0_54 hK (s_X0_hasBand_45 b h hT (by first | omega | (simp [up, setR] <;> omega))) (by decide) rfl ⟨by decide, by decide⟩ (by decide) rfl rfl (Nat.le_of_ble_eq_true rfl) ⟨by decide, by decide⟩ dX0_hasNumber_2 ?_
  intro r9 g2_1 hp9
  obtain ⟨⟨hT_1, hG_1⟩, z2_1, hr9, hz_1, p1_1⟩ := hp9
  rw [hr9]
  have hF_1 : FR [] h g2_1 := FR_tr hF hG_1 (by decide)
  show TT K ly 0 0 5 [(0, vR 45), (1, vI b), (2, vI x), (3, vI y)] [vI z2_1] g2_1
  refine TT_if_eq hK (tgt := 40) (irm (by omega) (by omega)) dX0_hasNumber_5 (by decide) (fun hb5_2 => ?_) (fun hb5_2 => ?_)
  · refine TT_iconst hK dX0_hasNumber_40 ?_
    refine TT_zret hK hQ (by decide) ?_ dX0_hasNumber_41
    exact ⟨⟨hT_1, hF_1⟩, 0, rfl, (by omega), (by omega)⟩
  · refine TT_iload_n hK rfl 2 rfl dX0_hasNumber_8 ?_
    refine TT_if_lt hK (tgt := 40) (irm (by omega) (by omega)) dX0_hasNumber_9 (by decide) (fun hb9_3 => ?_) (fun hb9_3 => ?_)
    · refine TT_iconst hK dX0_hasNumber_40 ?_
      refine TT_zret hK hQ (by decide) ?_ dX0_hasNumber_41
      exact ⟨⟨hT_1, hF_1⟩, 0, rfl, (by omega), (by omega)⟩
    · refine TT_iload_n hK rfl 2 rfl dX0_hasNumber_12 ?_
      refine TT_aload_n hK rfl 0 rfl dX0_hasNumber_13 ?_
      refine gf_X0_21 hK (by decide) rfl (q := 49) rfl rfl dX0_hasNumber_14 ?_
      refine TT_iload_n hK rfl 1 rfl dX0_hasNumber_17 ?_
      refine TT_iald hK (o := 49) (n := 10) (by decide) rfl (by first | omega | (simp [up, setR] <;> omega)) (by first | omega | (simp [up, setR] <;> omega)) (v := (h 49) b) (rd_ (hG_1 49 (by decide)) rfl) dX0_hasNumber_18 ?_
      have r4 := ty_49 (i := b) (v := (h 49) b) hT_1 (rd_ (hG_1 49 (by decide)) rfl) (by omega) (by omega)
      refine TT_icmp_ge hK (tgt := 40) (irm (by omega) (by omega)) (irm (by omega) (by omega)) dX0_hasNumber_19 (by decide) (fun hb19_5 => ?_) (fun hb19_5 => ?_)
      · refine TT_iconst hK dX0_hasNumber_40 ?_
        refine TT_zret hK hQ (by decide) ?_ dX0_hasNumber_41
        exact ⟨⟨hT_1, hF_1⟩, 0, rfl, (by omega), (by omega)⟩
      · refine TT_iload_n hK rfl 3 rfl dX0_hasNumber_22 ?_
        refine TT_if_lt hK (tgt := 40) (irm (by omega) (by omega)) dX0_hasNumber_23 (by decide) (fun hb23_6 => ?_) (fun hb23_6 => ?_)
        · refine TT_iconst hK dX0_hasNumber_40 ?_
          refine TT_zret hK hQ (by decide) ?_ dX0_hasNumber_41
          exact ⟨⟨hT_1, hF_1⟩, 0, rfl, (by omega), (by omega)⟩
        · refine TT_iload_n hK rfl 3 rfl dX0_hasNumber_26 ?_
          refine TT_aload_n hK rfl 0 rfl dX0_hasNumber_27 ?_
          refine gf_X0_24 hK (by decide) rfl (q := 50) rfl rfl dX0_hasNumber_28 ?_
          refine TT_iload_n hK rfl 1 rfl dX0_hasNumber_31 ?_
          refine TT_iald hK (o := 50) (n := 10) (by decide) rfl (by first | omega | (simp [up, setR] <;> omega)) (by first | omega | (simp [up, setR] <;> omega)) (v := (h 50) b) (rd_ (hG_1 50 (by decide)) rfl) dX0_hasNumber_32 ?_
          have r7 := ty_50 (i := b) (v := (h 50) b) hT_1 (rd_ (hG_1 50 (by decide)) rfl) (by omega) (by omega)
          refine TT_icmp_ge hK (tgt := 40) (irm (by omega) (by omega)) (irm (by omega) (by omega)) dX0_hasNumber_33 (by decide) (fun hb33_8 => ?_) (fun hb33_8 => ?_)
          · refine TT_iconst hK dX0_hasNumber_40 ?_
            refine TT_zret hK hQ (by decide) ?_ dX0_hasNumber_41
            exact ⟨⟨hT_1, hF_1⟩, 0, rfl, (by omega), (by omega)⟩
          · refine TT_iconst hK dX0_hasNumber_36 ?_
            refine TT_goto hK (tgt := 41) dX0_hasNumber_37 (by decide) ?_
            refine TT_zret hK hQ (by decide) ?_ dX0_hasNumber_41
            exact ⟨⟨hT_1, hF_1⟩, 1, rfl, (by omega), (by omega)⟩
set_option maxRecDepth 20000 in
theorem s_X0_at_45 (b x y : Int) (h : Hp_) (hT : TY h) (hb : -2147483648 ≤ b ∧ b ≤ 2147483647) (hx : -2147483648 ≤ x ∧ x ≤ 2147483647) (hy : -2147483648 ≤ y ∧ y ≤ 2147483647) (hbd : BDQ (h 47) (h 49) (h 48) (h 50)) : Ctr yX0_at cX0_at 4 (some .int) (rmd 2) ly ly 0 0 [vR 45, vI b, vI x, vI y] h (fun r h' => (TY h' ∧ FR [] h h') ∧ ∃ z : Int, r = some (vI z) ∧ (-2147483648 ≤ z ∧ z ≤ 2147483647)) := by
  refine Ctr_of (by decide) (Nat.le_of_ble_eq_true rfl) ⟨Nat.le_refl _, Nat.le_refl _⟩ (fun K hK hQ _ => ?_)
  show TT K ly 0 0 0 [(0, vR 45), (1, vI b), (2, vI x), (3, vI y)] [] h
  have hF : FR [] h h := FR_rf _ _
  refine TT_aload_n hK rfl 0 rfl dX0_at_0 ?_
  refine TT_iload_n hK rfl 1 rfl dX0_at_1 ?_
  refine TT_iload_n hK rfl 2 rfl dX0_at_2 ?_
  refine TT_iload_n hK rfl 3 rfl dX0_at_3 ?_
  refine iv_X0_58 hK (s_X0_hasNumber_45 b x y h hT (by first | omega | (simp [up, setR] <;> omega)) (by first | omega | (simp [up, setR] <;> omega)) (by first | omega | (simp [up, setR] <;> omega))) (by decide) rfl ⟨by decide, by decide⟩ (by decide) rfl rfl (Nat.le_of_ble_eq_true rfl) ⟨by decide, by decide⟩ dX0_at_4 ?_
  intro r9 g4_1 hp9
  obtain ⟨⟨hT_1, hG_1⟩, z4_1, hr9, hz_1, p1_1⟩ := hp9
  rw [hr9]
  have hF_1 : FR [] h g4_1 := FR_tr hF hG_1 (by decide)
  show TT K ly 0 0 7 [(0, vR 45), (1, vI b), (2, vI x), (3, vI y)] [vI z4_1] g4_1
  refine TT_if_eq hK (tgt := 38) (irm (by omega) (by omega)) dX0_at_7 (by decide) (fun hb7_2 => ?_) (fun hb7_2 => ?_)
  · refine TT_ldc hK lc_X0_62 dX0_at_38 ?_
    refine TT_iret hK hQ ?_ dX0_at_40
    exact ⟨⟨hT_1, hF_1⟩, (-100000), rfl, (by omega)⟩
  · have bq := hbd b (by omega) (by omega)
    refine TT_aload_n hK rfl 0 rfl dX0_at_10 ?_
    refine gf_X0_9 hK (by decide) rfl (q := 46) rfl rfl dX0_at_11 ?_
    refine TT_aload_n hK rfl 0 rfl dX0_at_14 ?_
    refine gf_X0_18 hK (by decide) rfl (q := 48) rfl rfl dX0_at_15 ?_
    refine TT_iload_n hK rfl 1 rfl dX0_at_18 ?_
    refine TT_iald hK (o := 48) (n := 10) (by decide) rfl (by first | omega | (simp [up, setR] <;> omega)) (by first | omega | (simp [up, setR] <;> omega)) (v := (h 48) b) (rd_ (hG_1 48 (by decide)) rfl) dX0_at_19 ?_
    have r3 := ty_48 (i := b) (v := (h 48) b) hT_1 (rd_ (hG_1 48 (by decide)) rfl) (by omega) (by omega)
    refine TT_iload_n hK rfl 3 rfl dX0_at_20 ?_
    refine TT_iadd hK dX0_at_21 ?_
    refine TT_bipush hK (by decide) dX0_at_22 ?_
    refine TT_imul hK dX0_at_24 ?_
    refine TT_aload_n hK rfl 0 rfl dX0_at_25 ?_
    refine gf_X0_15 hK (by decide) rfl (q := 47) rfl rfl dX0_at_26 ?_
    refine TT_iload_n hK rfl 1 rfl dX0_at_29 ?_
    refine TT_iald hK (o := 47) (n := 10) (by decide) rfl (by first | omega | (simp [up, setR] <;> omega)) (by first | omega | (simp [up, setR] <;> omega)) (v := (h 47) b) (rd_ (hG_1 47 (by decide)) rfl) dX0_at_30 ?_
    have r4 := ty_47 (i := b) (v := (h 47) b) hT_1 (rd_ (hG_1 47 (by decide)) rfl) (by omega) (by omega)
    refine TT_iadd hK dX0_at_31 ?_
    refine TT_iload_n hK rfl 2 rfl dX0_at_32 ?_
    refine TT_iadd hK dX0_at_33 ?_
    refine TT_iald hK (o := 46) (n := 64) (by decide) rfl (by first | omega | (simp [up, setR] <;> omega)) (by first | omega | (simp [up, setR] <;> omega)) (v := (h 46) ((((((h 48) b) + y) * 8) + ((h 47) b)) + x)) (rd_ (hG_1 46 (by decide)) rfl) dX0_at_34 ?_
    have r5 := ty_46 (i := (((((h 48) b) + y) * 8) + ((h 47) b)) + x) (v := (h 46) ((((((h 48) b) + y) * 8) + ((h 47) b)) + x)) hT_1 (rd_ (hG_1 46 (by decide)) rfl) (by omega) (by omega)
    refine TT_goto hK (tgt := 40) dX0_at_35 (by decide) ?_
    refine TT_iret hK hQ ?_ dX0_at_40
    exact ⟨⟨hT_1, hF_1⟩, ((h 46) ((((((h 48) b) + y) * 8) + ((h 47) b)) + x)), rfl, (by omega)⟩
set_option maxRecDepth 20000 in
theorem s_X0_set_45 (b x y v : Int) (h : Hp_) (hT : TY h) (hb : -2147483648 ≤ b ∧ b ≤ 2147483647) (hx : -2147483648 ≤ x ∧ x ≤ 2147483647) (hy : -2147483648 ≤ y ∧ y ≤ 2147483647) (hv : -2147483648 ≤ v ∧ v ≤ 2147483647) (hbd : BDQ (h 47) (h 49) (h 48) (h 50)) : Ctr yX0_set cX0_set 5 none (rmd 2) ly ly 0 0 [vR 45, vI b, vI x, vI y, vI v] h (fun r h' => (TY h' ∧ FR [46] h h') ∧ r = none) := by
  refine Ctr_of (by decide) (Nat.le_of_ble_eq_true rfl) ⟨Nat.le_refl _, Nat.le_refl _⟩ (fun K hK hQ _ => ?_)
  show TT K ly 0 0 0 [(0, vR 45), (1, vI b), (2, vI x), (3, vI y), (4, vI v)] [] h
  have hF : FR [46] h h := FR_rf _ _
  refine TT_aload_n hK rfl 0 rfl dX0_set_0 ?_
  refine TT_iload_n hK rfl 1 rfl dX0_set_1 ?_
  refine TT_iload_n hK rfl 2 rfl dX0_set_2 ?_
  refine TT_iload_n hK rfl 3 rfl dX0_set_3 ?_
  refine iv_X0_58 hK (s_X0_hasNumber_45 b x y h hT (by first | omega | (simp [up, setR] <;> omega)) (by first | omega | (simp [up, setR] <;> omega)) (by first | omega | (simp [up, setR] <;> omega))) (by decide) rfl ⟨by decide, by decide⟩ (by decide) rfl rfl (Nat.le_of_ble_eq_true rfl) ⟨by decide, by decide⟩ dX0_set_4 ?_
  intro r9 g4_1 hp9
  obtain ⟨⟨hT_1, hG_1⟩, z4_1, hr9, hz_1, p1_1⟩ := hp9
  rw [hr9]
  have hF_1 : FR [46] h g4_1 := FR_tr hF hG_1 (by decide)
  show TT K ly 0 0 7 [(0, vR 45), (1, vI b), (2, vI x), (3, vI y), (4, vI v)] [vI z4_1] g4_1
  refine TT_if_eq hK (tgt := 37) (irm (by omega) (by omega)) dX0_set_7 (by decide) (fun hb7_2 => ?_) (fun hb7_2 => ?_)
  · refine TT_vret hK hQ ?_ dX0_set_37
    exact ⟨⟨hT_1, hF_1⟩, rfl⟩
  · have bq := hbd b (by omega) (by omega)
    refine TT_aload_n hK rfl 0 rfl dX0_set_10 ?_
    refine gf_X0_9 hK (by decide) rfl (q := 46) rfl rfl dX0_set_11 ?_
    refine TT_aload_n hK rfl 0 rfl dX0_set_14 ?_
    refine gf_X0_18 hK (by decide) rfl (q := 48) rfl rfl dX0_set_15 ?_
    refine TT_iload_n hK rfl 1 rfl dX0_set_18 ?_
    refine TT_iald hK (o := 48) (n := 10) (by decide) rfl (by first | omega | (simp [up, setR] <;> omega)) (by first | omega | (simp [up, setR] <;> omega)) (v := (h 48) b) (rd_ (hG_1 48 (by decide)) rfl) dX0_set_19 ?_
    have r3 := ty_48 (i := b) (v := (h 48) b) hT_1 (rd_ (hG_1 48 (by decide)) rfl) (by omega) (by omega)
    refine TT_iload_n hK rfl 3 rfl dX0_set_20 ?_
    refine TT_iadd hK dX0_set_21 ?_
    refine TT_bipush hK (by decide) dX0_set_22 ?_
    refine TT_imul hK dX0_set_24 ?_
    refine TT_aload_n hK rfl 0 rfl dX0_set_25 ?_
    refine gf_X0_15 hK (by decide) rfl (q := 47) rfl rfl dX0_set_26 ?_
    refine TT_iload_n hK rfl 1 rfl dX0_set_29 ?_
    refine TT_iald hK (o := 47) (n := 10) (by decide) rfl (by first | omega | (simp [up, setR] <;> omega)) (by first | omega | (simp [up, setR] <;> omega)) (v := (h 47) b) (rd_ (hG_1 47 (by decide)) rfl) dX0_set_30 ?_
    have r4 := ty_47 (i := b) (v := (h 47) b) hT_1 (rd_ (hG_1 47 (by decide)) rfl) (by omega) (by omega)
    refine TT_iadd hK dX0_set_31 ?_
    refine TT_iload_n hK rfl 2 rfl dX0_set_32 ?_
    refine TT_iadd hK dX0_set_33 ?_
    refine TT_iload hK 4 rfl dX0_set_34 ?_
    refine TT_iast hK (o := 46) (n := 64) (by decide) rfl (by omega) (by omega) dX0_set_36 ?_
    refine TT_hp (h' := setO g4_1 46 (fup (h 46) ((((((h 48) b) + y) * 8) + ((h 47) b)) + x) v)) (up_can (hG_1 46 (by decide)) rfl rfl) ?_
    have hT_5 : TY (setO g4_1 46 (fup (h 46) ((((((h 48) b) + y) * 8) + ((h 47) b)) + x) v)) := tu_46 hT_1 (show up g4_1 46 ((((((h 48) b) + y) * 8) + ((h 47) b)) + x) v = (setO g4_1 46 (fup (h 46) ((((((h 48) b) + y) * 8) + ((h 47) b)) + x) v)) from up_can (hG_1 46 (by decide)) rfl rfl) (by omega)
    have hF_5 : FR [46] h (setO g4_1 46 (fup (h 46) ((((((h 48) b) + y) * 8) + ((h 47) b)) + x) v)) := FR_up (show up g4_1 46 ((((((h 48) b) + y) * 8) + ((h 47) b)) + x) v = (setO g4_1 46 (fup (h 46) ((((((h 48) b) + y) * 8) + ((h 47) b)) + x) v)) from up_can (hG_1 46 (by decide)) rfl rfl) hF_1 (by decide)
    refine TT_vret hK hQ ?_ dX0_set_37
    exact ⟨⟨hT_5, hF_5⟩, rfl⟩
set_option maxRecDepth 20000 in
theorem s_X0_layBand_45 (b x y p q : Int) (h : Hp_) (hT : TY h) (hb : 0 ≤ b ∧ b ≤ 9) (hx : 0 ≤ x ∧ x ≤ 8) (hy : 0 ≤ y ∧ y ≤ 8) (hp : 0 ≤ p ∧ p ≤ 8) (hq : 0 ≤ q ∧ q ≤ 8) (h1 : x + p ≤ 8) (h2 : y + q ≤ 8) (hbd : BDQ (h 47) (h 49) (h 48) (h 50)) : Ctr yX0_layBand cX0_layBand 6 none (rmd 0) ly ly 0 0 [vR 45, vI b, vI x, vI y, vI p, vI q] h (fun r h' => (TY h' ∧ FR [47, 48, 49, 50] h h') ∧ r = none ∧ (BDQ (h' 47) (h' 49) (h' 48) (h' 50))) := by
  refine Ctr_of (by decide) (Nat.le_of_ble_eq_true rfl) ⟨Nat.le_refl _, Nat.le_refl _⟩ (fun K hK hQ _ => ?_)
  show TT K ly 0 0 0 [(0, vR 45), (1, vI b), (2, vI x), (3, vI y), (4, vI p), (5, vI q)] [] h
  have hF : FR [47, 48, 49, 50] h h := FR_rf _ _
  refine TT_aload_n hK rfl 0 rfl dX0_layBand_0 ?_
  refine gf_X0_15 hK (by decide) rfl (q := 47) rfl rfl dX0_layBand_1 ?_
  refine TT_iload_n hK rfl 1 rfl dX0_layBand_4 ?_
  refine TT_iload_n hK rfl 2 rfl dX0_layBand_5 ?_
  refine TT_iast hK (o := 47) (n := 10) (by decide) rfl (by omega) (by omega) dX0_layBand_6 ?_
  refine TT_hp (h' := setO h 47 (fup (h 47) b x)) (up_can rfl rfl rfl) ?_
  have hT_1 : TY (setO h 47 (fup (h 47) b x)) := tu_47 hT (show up h 47 b x = (setO h 47 (fup (h 47) b x)) from up_can rfl rfl rfl) (by omega)
  have hF_1 : FR [47, 48, 49, 50] h (setO h 47 (fup (h 47) b x)) := FR_up (show up h 47 b x = (setO h 47 (fup (h 47) b x)) from up_can rfl rfl rfl) hF (by decide)
  refine TT_aload_n hK rfl 0 rfl dX0_layBand_7 ?_
  refine gf_X0_18 hK (by decide) rfl (q := 48) rfl rfl dX0_layBand_8 ?_
  refine TT_iload_n hK rfl 1 rfl dX0_layBand_11 ?_
  refine TT_iload_n hK rfl 3 rfl dX0_layBand_12 ?_
  refine TT_iast hK (o := 48) (n := 10) (by decide) rfl (by omega) (by omega) dX0_layBand_13 ?_
  refine TT_hp (h' := setO (setO h 47 (fup (h 47) b x)) 48 (fup (h 48) b y)) (up_can (sOf_ne _ _ (by decide)) rfl rfl) ?_
  have hT_2 : TY (setO (setO h 47 (fup (h 47) b x)) 48 (fup (h 48) b y)) := tu_48 hT_1 (show up (setO h 47 (fup (h 47) b x)) 48 b y = (setO (setO h 47 (fup (h 47) b x)) 48 (fup (h 48) b y)) from up_can (sOf_ne _ _ (by decide)) rfl rfl) (by omega)
  have hF_2 : FR [47, 48, 49, 50] h (setO (setO h 47 (fup (h 47) b x)) 48 (fup (h 48) b y)) := FR_up (show up (setO h 47 (fup (h 47) b x)) 48 b y = (setO (setO h 47 (fup (h 47) b x)) 48 (fup (h 48) b y)) from up_can (sOf_ne _ _ (by decide)) rfl rfl) hF_1 (by decide)
  refine TT_aload_n hK rfl 0 rfl dX0_layBand_14 ?_
  refine gf_X0_21 hK (by decide) rfl (q := 49) rfl rfl dX0_layBand_15 ?_
  refine TT_iload_n hK rfl 1 rfl dX0_layBand_18 ?_
  refine TT_iload hK 4 rfl dX0_layBand_19 ?_
  refine TT_iast hK (o := 49) (n := 10) (by decide) rfl (by omega) (by omega) dX0_layBand_21 ?_
  refine TT_hp (h' := setO (setO (setO h 47 (fup (h 47) b x)) 48 (fup (h 48) b y)) 49 (fup (h 49) b p)) (up_can ((sOf_ne _ _ (by decide)).trans (sOf_ne _ _ (by decide))) rfl rfl) ?_
  have hT_3 : TY (setO (setO (setO h 47 (fup (h 47) b x)) 48 (fup (h 48) b y)) 49 (fup (h 49) b p)) := tu_49 hT_2 (show up (setO (setO h 47 (fup (h 47) b x)) 48 (fup (h 48) b y)) 49 b p = (setO (setO (setO h 47 (fup (h 47) b x)) 48 (fup (h 48) b y)) 49 (fup (h 49) b p)) from up_can ((sOf_ne _ _ (by decide)).trans (sOf_ne _ _ (by decide))) rfl rfl) (by omega)
  have hF_3 : FR [47, 48, 49, 50] h (setO (setO (setO h 47 (fup (h 47) b x)) 48 (fup (h 48) b y)) 49 (fup (h 49) b p)) := FR_up (show up (setO (setO h 47 (fup (h 47) b x)) 48 (fup (h 48) b y)) 49 b p = (setO (setO (setO h 47 (fup (h 47) b x)) 48 (fup (h 48) b y)) 49 (fup (h 49) b p)) from up_can ((sOf_ne _ _ (by decide)).trans (sOf_ne _ _ (by decide))) rfl rfl) hF_2 (by decide)
  refine TT_aload_n hK rfl 0 rfl dX0_layBand_22 ?_
  refine gf_X0_24 hK (by decide) rfl (q := 50) rfl rfl dX0_layBand_23 ?_
  refine TT_iload_n hK rfl 1 rfl dX0_layBand_26 ?_
  refine TT_iload hK 5 rfl dX0_layBand_27 ?_
  refine TT_iast hK (o := 50) (n := 10) (by decide) rfl (by omega) (by omega) dX0_layBand_29 ?_
  refine TT_hp (h' := setO (setO (setO (setO h 47 (fup (h 47) b x)) 48 (fup (h 48) b y)) 49 (fup (h 49) b p)) 50 (fup (h 50) b q)) (up_can ((sOf_ne _ _ (by decide)).trans ((sOf_ne _ _ (by decide)).trans (sOf_ne _ _ (by decide)))) rfl rfl) ?_
  have hT_4 : TY (setO (setO (setO (setO h 47 (fup (h 47) b x)) 48 (fup (h 48) b y)) 49 (fup (h 49) b p)) 50 (fup (h 50) b q)) := tu_50 hT_3 (show up (setO (setO (setO h 47 (fup (h 47) b x)) 48 (fup (h 48) b y)) 49 (fup (h 49) b p)) 50 b q = (setO (setO (setO (setO h 47 (fup (h 47) b x)) 48 (fup (h 48) b y)) 49 (fup (h 49) b p)) 50 (fup (h 50) b q)) from up_can ((sOf_ne _ _ (by decide)).trans ((sOf_ne _ _ (by decide)).trans (sOf_ne _ _ (by decide)))) rfl rfl) (by omega)
  have hF_4 : FR [47, 48, 49, 50] h (setO (setO (setO (setO h 47 (fup (h 47) b x)) 48 (fup (h 48) b y)) 49 (fup (h 49) b p)) 50 (fup (h 50) b q)) := FR_up (show up (setO (setO (setO h 47 (fup (h 47) b x)) 48 (fup (h 48) b y)) 49 (fup (h 49) b p)) 50 b q = (setO (setO (setO (setO h 47 (fup (h 47) b x)) 48 (fup (h 48) b y)) 49 (fup (h 49) b p)) 50 (fup (h 50) b q)) from up_can ((sOf_ne _ _ (by decide)).trans ((sOf_ne _ _ (by decide)).trans (sOf_ne _ _ (by decide)))) rfl rfl) hF_3 (by decide)
  refine TT_vret hK hQ ?_ dX0_layBand_30
  have e5_47 : (setO (setO (setO (setO h 47 (fup (h 47) b x)) 48 (fup (h 48) b y)) 49 (fup (h 49) b p)) 50 (fup (h 50) b q)) 47 = fup (h 47) b x := (sOf_ne _ _ (by decide)).trans ((sOf_ne _ _ (by decide)).trans ((sOf_ne _ _ (by decide)).trans (sOf_eq _ _ _)))
  have e6_48 : (setO (setO (setO (setO h 47 (fup (h 47) b x)) 48 (fup (h 48) b y)) 49 (fup (h 49) b p)) 50 (fup (h 50) b q)) 48 = fup (h 48) b y := (sOf_ne _ _ (by decide)).trans ((sOf_ne _ _ (by decide)).trans (sOf_eq _ _ _))
  have e7_49 : (setO (setO (setO (setO h 47 (fup (h 47) b x)) 48 (fup (h 48) b y)) 49 (fup (h 49) b p)) 50 (fup (h 50) b q)) 49 = fup (h 49) b p := (sOf_ne _ _ (by decide)).trans (sOf_eq _ _ _)
  have e8_50 : (setO (setO (setO (setO h 47 (fup (h 47) b x)) 48 (fup (h 48) b y)) 49 (fup (h 49) b p)) 50 (fup (h 50) b q)) 50 = fup (h 50) b q := sOf_eq _ _ _
  exact ⟨⟨hT_4, hF_4⟩, rfl, (by rw [e5_47, e6_48, e7_49, e8_50]; exact BDQ_up hbd h1 h2)⟩
set_option maxRecDepth 20000 in
theorem s_X0_lay_45 (wq eq lq : Int) (h : Hp_) (hT : TY h) (hwq : 0 ≤ wq ∧ wq ≤ 8) (heq : 0 ≤ eq ∧ eq ≤ 8) (hlq : 0 ≤ lq ∧ lq ≤ 3) (hbd : BDQ (h 47) (h 49) (h 48) (h 50)) : Ctr yX0_lay cX0_lay 10 none (rmd 1) ly ly 0 0 [vR 45, vI wq, vI eq, vI lq] h (fun r h' => (TY h' ∧ FR [45, 47, 48, 49, 50] h h') ∧ r = none ∧ (BDQ (h' 47) (h' 49) (h' 48) (h' 50))) := by
  refine Ctr_of (by decide) (Nat.le_of_ble_eq_true rfl) ⟨Nat.le_refl _, Nat.le_refl _⟩ (fun K hK hQ _ => ?_)
  show TT K ly 0 0 0 [(0, vR 45), (1, vI wq), (2, vI eq), (3, vI lq)] [] h
  have hF : FR [45, 47, 48, 49, 50] h h := FR_rf _ _
  refine TT_aload_n hK rfl 0 rfl dX0_lay_0 ?_
  refine TT_iload_n hK rfl 1 rfl dX0_lay_1 ?_
  refine pf_X0_33 hK (by decide) rfl dX0_lay_2 ?_
  refine TT_hp (h' := setO h 45 (fup (h 45) 7 wq)) (up_can rfl rfl rfl) ?_
  have hT_1 : TY (setO h 45 (fup (h 45) 7 wq)) := tu_45_7 hT (show up h 45 7 wq = (setO h 45 (fup (h 45) 7 wq)) from up_can rfl rfl rfl) (by omega)
  have hF_1 : FR [45, 47, 48, 49, 50] h (setO h 45 (fup (h 45) 7 wq)) := FR_up (show up h 45 7 wq = (setO h 45 (fup (h 45) 7 wq)) from up_can rfl rfl rfl) hF (by decide)
  refine TT_aload_n hK rfl 0 rfl dX0_lay_5 ?_
  refine TT_iload_n hK rfl 2 rfl dX0_lay_6 ?_
  refine pf_X0_37 hK (by decide) rfl dX0_lay_7 ?_
  refine TT_hp (h' := setO h 45 (fup (fup (h 45) 7 wq) 8 eq)) (up_can (sOf_eq _ _ _) rfl (setO_same _ _ _ _)) ?_
  have hT_2 : TY (setO h 45 (fup (fup (h 45) 7 wq) 8 eq)) := tu_45_8 hT_1 (show up (setO h 45 (fup (h 45) 7 wq)) 45 8 eq = (setO h 45 (fup (fup (h 45) 7 wq) 8 eq)) from up_can (sOf_eq _ _ _) rfl (setO_same _ _ _ _)) (by omega)
  have hF_2 : FR [45, 47, 48, 49, 50] h (setO h 45 (fup (fup (h 45) 7 wq) 8 eq)) := FR_up (show up (setO h 45 (fup (h 45) 7 wq)) 45 8 eq = (setO h 45 (fup (fup (h 45) 7 wq) 8 eq)) from up_can (sOf_eq _ _ _) rfl (setO_same _ _ _ _)) hF_1 (by decide)
  refine TT_aload_n hK rfl 0 rfl dX0_lay_10 ?_
  refine TT_iload_n hK rfl 3 rfl dX0_lay_11 ?_
  refine pf_X0_40 hK (by decide) rfl dX0_lay_12 ?_
  refine TT_hp (h' := setO h 45 (fup (fup (fup (h 45) 7 wq) 8 eq) 9 lq)) (up_can (sOf_eq _ _ _) rfl (setO_same _ _ _ _)) ?_
  have hT_3 : TY (setO h 45 (fup (fup (fup (h 45) 7 wq) 8 eq) 9 lq)) := tu_45_9 hT_2 (show up (setO h 45 (fup (fup (h 45) 7 wq) 8 eq)) 45 9 lq = (setO h 45 (fup (fup (fup (h 45) 7 wq) 8 eq) 9 lq)) from up_can (sOf_eq _ _ _) rfl (setO_same _ _ _ _)) (by omega)
  have hF_3 : FR [45, 47, 48, 49, 50] h (setO h 45 (fup (fup (fup (h 45) 7 wq) 8 eq) 9 lq)) := FR_up (show up (setO h 45 (fup (fup (h 45) 7 wq) 8 eq)) 45 9 lq = (setO h 45 (fup (fup (fup (h 45) 7 wq) 8 eq) 9 lq)) from up_can (sOf_eq _ _ _) rfl (setO_same _ _ _ _)) hF_2 (by decide)
  refine TT_aload_n hK rfl 0 rfl dX0_lay_15 ?_
  refine TT_iconst hK dX0_lay_16 ?_
  refine TT_aload_n hK rfl 0 rfl dX0_lay_17 ?_
  refine gf_X0_40 hK (by decide) rfl (v := lq) (rd_ (sOf_eq _ _ _) (fup_eq _ _ _)) dX0_lay_18 ?_
  have r4 := ty_45_9 (v := lq) hT_3 (rd_ (sOf_eq _ _ _) (fup_eq _ _ _))
  refine TT_imul hK dX0_lay_21 ?_
  refine TT_iconst hK dX0_lay_22 ?_
  refine TT_iadd hK dX0_lay_23 ?_
  refine pf_X0_43 hK (by decide) rfl dX0_lay_24 ?_
  refine TT_hp (h' := setO h 45 (fup (fup (fup (fup (h 45) 7 wq) 8 eq) 9 lq) 10 ((3 * lq) + 1))) (up_can (sOf_eq _ _ _) rfl (setO_same _ _ _ _)) ?_
  have hT_5 : TY (setO h 45 (fup (fup (fup (fup (h 45) 7 wq) 8 eq) 9 lq) 10 ((3 * lq) + 1))) := tu_45_10 hT_3 (show up (setO h 45 (fup (fup (fup (h 45) 7 wq) 8 eq) 9 lq)) 45 10 ((3 * lq) + 1) = (setO h 45 (fup (fup (fup (fup (h 45) 7 wq) 8 eq) 9 lq) 10 ((3 * lq) + 1))) from up_can (sOf_eq _ _ _) rfl (setO_same _ _ _ _)) (by omega)
  have hF_5 : FR [45, 47, 48, 49, 50] h (setO h 45 (fup (fup (fup (fup (h 45) 7 wq) 8 eq) 9 lq) 10 ((3 * lq) + 1))) := FR_up (show up (setO h 45 (fup (fup (fup (h 45) 7 wq) 8 eq) 9 lq)) 45 10 ((3 * lq) + 1) = (setO h 45 (fup (fup (fup (fup (h 45) 7 wq) 8 eq) 9 lq) 10 ((3 * lq) + 1))) from up_can (sOf_eq _ _ _) rfl (setO_same _ _ _ _)) hF_3 (by decide)
  refine TT_iconst hK dX0_lay_27 ?_
  refine TT_istore hK (lv' := [(4, vI 1), (0, vR 45), (1, vI wq), (2, vI eq), (3, vI lq)]) (by decide) rfl dX0_lay_28 ?_
  have L30_6 : ∀ (k6 : Nat) (lv9 : Int) (w30_6 : Hp_), TY w30_6 → FR [45, 47, 48, 49, 50] h w30_6 → (1 ≤ lv9 ∧ lv9 ≤ 4) → (BDQ (w30_6 47) (w30_6 49) (w30_6 48) (w30_6 50)) → ((4 : Int) - lv9).toNat < k6 → TT K ly 0 0 30 [(0, vR 45), (4, vI lv9)] [] w30_6 := by
    intro k6
    induction k6 with
    | zero => intro lv9 w30_6 hT30_6 hF30_6 hlv hb9 hk6; exact absurd hk6 (Nat.not_lt_zero _)
    | succ k6 ih6 =>
      intro lv9 w30_6 hT30_6 hF30_6 hlv hb9 hk6
      refine TT_iload hK 1 rfl dX0_lay_30 ?_
      refine TT_aload_n hK rfl 0 rfl dX0_lay_32 ?_
      refine gf_X0_40 hK (by decide) rfl (v := (w30_6 45) 9) rfl dX0_lay_33 ?_
      have r7 := ty_45_9 (v := (w30_6 45) 9) hT30_6 rfl
      refine TT_icmp_gt hK (tgt := 162) (irm (by omega) (by omega)) (irm (by omega) (by omega)) dX0_lay_36 (by decide) (fun hb36_8 => ?_) (fun hb36_8 => ?_)
      · refine TT_aload_n hK rfl 0 rfl dX0_lay_162 ?_
        refine TT_iconst hK dX0_lay_163 ?_
        refine TT_iconst hK dX0_lay_164 ?_
        refine TT_iconst hK dX0_lay_165 ?_
        refine TT_aload_n hK rfl 0 rfl dX0_lay_166 ?_
        refine gf_X0_33 hK (by decide) rfl (v := (w30_6 45) 7) rfl dX0_lay_167 ?_
        have r9 := ty_45_7 (v := (w30_6 45) 7) hT30_6 rfl
        refine TT_aload_n hK rfl 0 rfl dX0_lay_170 ?_
        refine gf_X0_40 hK (by decide) rfl (v := (w30_6 45) 9) rfl dX0_lay_171 ?_
        refine iv_X0_46 hK (s_X0_sideAfter ((w30_6 45) 7) ((w30_6 45) 9) w30_6 hT30_6 (by first | omega | (simp [up, setR] <;> omega)) (by first | omega | (simp [up, setR] <;> omega))) ⟨by decide, by decide⟩ (by decide) rfl rfl (Nat.le_of_ble_eq_true rfl) ⟨by decide, by decide⟩ dX0_lay_174 ?_
        intro r9 g174_10 hp9
        obtain ⟨⟨hT_10, hG_10⟩, z174_10, hr9, hz_10, p1_10⟩ := hp9
        rw [hr9]
        have hF_10 : FR [45, 47, 48, 49, 50] h g174_10 := FR_tr hF30_6 hG_10 (by decide)
        show TT K ly 0 0 177 [(0, vR 45), (4, vI lv9)] [vI z174_10, vI 0, vI 0, vI 0, vR 45] g174_10
        refine TT_aload_n hK rfl 0 rfl dX0_lay_177 ?_
        refine gf_X0_37 hK (by decide) rfl (v := (w30_6 45) 8) (rd_ (hG_10 45 (by decide)) rfl) dX0_lay_178 ?_
        have r11 := ty_45_8 (v := (w30_6 45) 8) hT_10 (rd_ (hG_10 45 (by decide)) rfl)
        refine TT_aload_n hK rfl 0 rfl dX0_lay_181 ?_
        refine gf_X0_40 hK (by decide) rfl (v := (w30_6 45) 9) (rd_ (hG_10 45 (by decide)) rfl) dX0_lay_182 ?_
        refine iv_X0_46 hK (s_X0_sideAfter ((w30_6 45) 8) ((w30_6 45) 9) g174_10 hT_10 (by first | omega | (simp [up, setR] <;> omega)) (by first | omega | (simp [up, setR] <;> omega))) ⟨by decide, by decide⟩ (by decide) rfl rfl (Nat.le_of_ble_eq_true rfl) ⟨by decide, by decide⟩ dX0_lay_185 ?_
        intro r9 g185_12 hp9
        obtain ⟨⟨hT_12, hG_12⟩, z185_12, hr9, hz_12, p1_12⟩ := hp9
        rw [hr9]
        have hF_12 : FR [45, 47, 48, 49, 50] h g185_12 := FR_tr hF_10 hG_12 (by decide)
        show TT K ly 0 0 188 [(0, vR 45), (4, vI lv9)] [vI z185_12, vI z174_10, vI 0, vI 0, vI 0, vR 45] g185_12
        have e13_47 : g185_12 47 = w30_6 47 := ((hG_12 47 (by decide))).trans (hG_10 47 (by decide))
        have e14_48 : g185_12 48 = w30_6 48 := ((hG_12 48 (by decide))).trans (hG_10 48 (by decide))
        have e15_49 : g185_12 49 = w30_6 49 := ((hG_12 49 (by decide))).trans (hG_10 49 (by decide))
        have e16_50 : g185_12 50 = w30_6 50 := ((hG_12 50 (by decide))).trans (hG_10 50 (by decide))
        refine iv_X0_50 hK (s_X0_layBand_45 0 0 0 z174_10 z185_12 g185_12 hT_12 (by first | omega | (simp [up, setR] <;> omega)) (by first | omega | (simp [up, setR] <;> omega)) (by first | omega | (simp [up, setR] <;> omega)) (by first | omega | (simp [up, setR] <;> omega)) (by first | omega | (simp [up, setR] <;> omega)) (by first | omega | (simp [up, setR] <;> omega)) (by first | omega | (simp [up, setR] <;> omega)) (by rw [e13_47, e14_48, e15_49, e16_50]; assumption)) (by decide) rfl ⟨by decide, by decide⟩ (by decide) rfl rfl (Nat.le_of_ble_eq_true rfl) ⟨by decide, by decide⟩ dX0_lay_188 ?_
        intro r9 g188_17 hp9
        obtain ⟨⟨hT_17, hG_17⟩, hr9, p1_17⟩ := hp9
        rw [hr9]
        have hF_17 : FR [45, 47, 48, 49, 50] h g188_17 := FR_tr hF_12 hG_17 (by decide)
        show TT K ly 0 0 191 [(0, vR 45), (4, vI lv9)] [] g188_17
        refine TT_vret hK hQ ?_ dX0_lay_191
        exact ⟨⟨hT_17, hF_17⟩, rfl, (by assumption)⟩
      · refine TT_iconst hK dX0_lay_39 ?_
        refine TT_aload_n hK rfl 0 rfl dX0_lay_40 ?_
        refine gf_X0_40 hK (by decide) rfl (v := (w30_6 45) 9) rfl dX0_lay_41 ?_
        refine TT_iload hK 1 rfl dX0_lay_44 ?_
        refine TT_isub hK dX0_lay_46 ?_
        refine TT_imul hK dX0_lay_47 ?_
        refine TT_iconst hK dX0_lay_48 ?_
        refine TT_iadd hK dX0_lay_49 ?_
        refine TT_istore hK (lv' := [(5, vI ((3 * (((w30_6 45) 9) - lv9)) + 1)), (0, vR 45), (4, vI lv9)]) (by decide) rfl dX0_lay_50 ?_
        refine TT_aload_n hK rfl 1 rfl dX0_lay_52 ?_
        refine gf_X0_33 hK (by decide) rfl (v := (w30_6 45) 7) rfl dX0_lay_53 ?_
        have r18 := ty_45_7 (v := (w30_6 45) 7) hT30_6 rfl
        refine TT_iload hK 2 rfl dX0_lay_56 ?_
        refine TT_iconst hK dX0_lay_58 ?_
        refine TT_isub hK dX0_lay_59 ?_
        refine iv_X0_46 hK (s_X0_sideAfter ((w30_6 45) 7) (lv9 - 1) w30_6 hT30_6 (by first | omega | (simp [up, setR] <;> omega)) (by first | omega | (simp [up, setR] <;> omega))) ⟨by decide, by decide⟩ (by decide) rfl rfl (Nat.le_of_ble_eq_true rfl) ⟨by decide, by decide⟩ dX0_lay_60 ?_
        intro r9 g60_19 hp9
        obtain ⟨⟨hT_19, hG_19⟩, z60_19, hr9, hz_19, p1_19⟩ := hp9
        rw [hr9]
        have hF_19 : FR [45, 47, 48, 49, 50] h g60_19 := FR_tr hF30_6 hG_19 (by decide)
        show TT K ly 0 0 63 [(5, vI ((3 * (((w30_6 45) 9) - lv9)) + 1)), (0, vR 45), (4, vI lv9)] [vI z60_19] g60_19
        refine TT_istore hK (lv' := [(6, vI z60_19), (5, vI ((3 * (((w30_6 45) 9) - lv9)) + 1)), (0, vR 45), (4, vI lv9)]) (by decide) rfl dX0_lay_63 ?_
        refine TT_aload_n hK rfl 2 rfl dX0_lay_65 ?_
        refine gf_X0_37 hK (by decide) rfl (v := (w30_6 45) 8) (rd_ (hG_19 45 (by decide)) rfl) dX0_lay_66 ?_
        have r20 := ty_45_8 (v := (w30_6 45) 8) hT_19 (rd_ (hG_19 45 (by decide)) rfl)
        refine TT_iload hK 3 rfl dX0_lay_69 ?_
        refine TT_iconst hK dX0_lay_71 ?_
        refine TT_isub hK dX0_lay_72 ?_
        refine iv_X0_46 hK (s_X0_sideAfter ((w30_6 45) 8) (lv9 - 1) g60_19 hT_19 (by first | omega | (simp [up, setR] <;> omega)) (by first | omega | (simp [up, setR] <;> omega))) ⟨by decide, by decide⟩ (by decide) rfl rfl (Nat.le_of_ble_eq_true rfl) ⟨by decide, by decide⟩ dX0_lay_73 ?_
        intro r9 g73_21 hp9
        obtain ⟨⟨hT_21, hG_21⟩, z73_21, hr9, hz_21, p1_21⟩ := hp9
        rw [hr9]
        have hF_21 : FR [45, 47, 48, 49, 50] h g73_21 := FR_tr hF_19 hG_21 (by decide)
        show TT K ly 0 0 76 [(6, vI z60_19), (5, vI ((3 * (((w30_6 45) 9) - lv9)) + 1)), (0, vR 45), (4, vI lv9)] [vI z73_21] g73_21
        refine TT_istore hK (lv' := [(7, vI z73_21), (6, vI z60_19), (5, vI ((3 * (((w30_6 45) 9) - lv9)) + 1)), (0, vR 45), (4, vI lv9)]) (by decide) rfl dX0_lay_76 ?_
        refine TT_aload_n hK rfl 3 rfl dX0_lay_78 ?_
        refine gf_X0_33 hK (by decide) rfl (v := (w30_6 45) 7) (rd_ (((hG_21 45 (by decide))).trans (hG_19 45 (by decide))) rfl) dX0_lay_79 ?_
        refine TT_iload hK 4 rfl dX0_lay_82 ?_
        refine iv_X0_46 hK (s_X0_sideAfter ((w30_6 45) 7) lv9 g73_21 hT_21 (by first | omega | (simp [up, setR] <;> omega)) (by first | omega | (simp [up, setR] <;> omega))) ⟨by decide, by decide⟩ (by decide) rfl rfl (Nat.le_of_ble_eq_true rfl) ⟨by decide, by decide⟩ dX0_lay_84 ?_
        intro r9 g84_22 hp9
        obtain ⟨⟨hT_22, hG_22⟩, z84_22, hr9, hz_22, p1_22⟩ := hp9
        rw [hr9]
        have hF_22 : FR [45, 47, 48, 49, 50] h g84_22 := FR_tr hF_21 hG_22 (by decide)
        show TT K ly 0 0 87 [(7, vI z73_21), (6, vI z60_19), (5, vI ((3 * (((w30_6 45) 9) - lv9)) + 1)), (0, vR 45), (4, vI lv9)] [vI z84_22] g84_22
        refine TT_istore hK (lv' := [(8, vI z84_22), (7, vI z73_21), (6, vI z60_19), (5, vI ((3 * (((w30_6 45) 9) - lv9)) + 1)), (0, vR 45), (4, vI lv9)]) (by decide) rfl dX0_lay_87 ?_
        refine TT_aload_n hK rfl 4 rfl dX0_lay_89 ?_
        refine gf_X0_37 hK (by decide) rfl (v := (w30_6 45) 8) (rd_ (((hG_22 45 (by decide))).trans (((hG_21 45 (by decide))).trans (hG_19 45 (by decide)))) rfl) dX0_lay_90 ?_
        refine TT_iload hK 5 rfl dX0_lay_93 ?_
        refine iv_X0_46 hK (s_X0_sideAfter ((w30_6 45) 8) lv9 g84_22 hT_22 (by first | omega | (simp [up, setR] <;> omega)) (by first | omega | (simp [up, setR] <;> omega))) ⟨by decide, by decide⟩ (by decide) rfl rfl (Nat.le_of_ble_eq_true rfl) ⟨by decide, by decide⟩ dX0_lay_95 ?_
        intro r9 g95_23 hp9
        obtain ⟨⟨hT_23, hG_23⟩, z95_23, hr9, hz_23, p1_23⟩ := hp9
        rw [hr9]
        have hF_23 : FR [45, 47, 48, 49, 50] h g95_23 := FR_tr hF_22 hG_23 (by decide)
        show TT K ly 0 0 98 [(8, vI z84_22), (7, vI z73_21), (6, vI z60_19), (5, vI ((3 * (((w30_6 45) 9) - lv9)) + 1)), (0, vR 45), (4, vI lv9)] [vI z95_23] g95_23
        refine TT_istore hK (lv' := [(9, vI z95_23), (8, vI z84_22), (7, vI z73_21), (6, vI z60_19), (5, vI ((3 * (((w30_6 45) 9) - lv9)) + 1)), (0, vR 45), (4, vI lv9)]) (by decide) rfl dX0_lay_98 ?_
        have ow : z84_22 ≤ z60_19 := SDA_le (n := (w30_6 45) 7) (l := lv9) (by omega) (by omega) (by assumption) (by assumption)
        have oh : z95_23 ≤ z73_21 := SDA_le (n := (w30_6 45) 8) (l := lv9) (by omega) (by omega) (by assumption) (by assumption)
        refine TT_aload_n hK rfl 5 rfl dX0_lay_100 ?_
        refine TT_iload hK 4 rfl dX0_lay_101 ?_
        refine TT_iload hK 1 rfl dX0_lay_103 ?_
        refine TT_iconst hK dX0_lay_105 ?_
        refine TT_iload hK 3 rfl dX0_lay_106 ?_
        refine TT_iload hK 1 rfl dX0_lay_108 ?_
        refine TT_isub hK dX0_lay_110 ?_
        refine TT_iload hK 0 rfl dX0_lay_111 ?_
        have e24_47 : g95_23 47 = w30_6 47 := ((hG_23 47 (by decide))).trans (((hG_22 47 (by decide))).trans (((hG_21 47 (by decide))).trans (hG_19 47 (by decide))))
        have e25_48 : g95_23 48 = w30_6 48 := ((hG_23 48 (by decide))).trans (((hG_22 48 (by decide))).trans (((hG_21 48 (by decide))).trans (hG_19 48 (by decide))))
        have e26_49 : g95_23 49 = w30_6 49 := ((hG_23 49 (by decide))).trans (((hG_22 49 (by decide))).trans (((hG_21 49 (by decide))).trans (hG_19 49 (by decide))))
        have e27_50 : g95_23 50 = w30_6 50 := ((hG_23 50 (by decide))).trans (((hG_22 50 (by decide))).trans (((hG_21 50 (by decide))).trans (hG_19 50 (by decide))))
        refine iv_X0_50 hK (s_X0_layBand_45 ((3 * (((w30_6 45) 9) - lv9)) + 1) z84_22 0 (z60_19 - z84_22) z95_23 g95_23 hT_23 (by first | omega | (simp [up, setR] <;> omega)) (by first | omega | (simp [up, setR] <;> omega)) (by first | omega | (simp [up, setR] <;> omega)) (by first | omega | (simp [up, setR] <;> omega)) (by first | omega | (simp [up, setR] <;> omega)) (by first | omega | (simp [up, setR] <;> omega)) (by first | omega | (simp [up, setR] <;> omega)) (by rw [e24_47, e25_48, e26_49, e27_50]; assumption)) (by decide) rfl ⟨by decide, by decide⟩ (by decide) rfl rfl (Nat.le_of_ble_eq_true rfl) ⟨by decide, by decide⟩ dX0_lay_113 ?_
        intro r9 g113_28 hp9
        obtain ⟨⟨hT_28, hG_28⟩, hr9, p1_28⟩ := hp9
        rw [hr9]
        have hF_28 : FR [45, 47, 48, 49, 50] h g113_28 := FR_tr hF_23 hG_28 (by decide)
        show TT K ly 0 0 116 [(9, vI z95_23), (8, vI z84_22), (7, vI z73_21), (6, vI z60_19), (5, vI ((3 * (((w30_6 45) 9) - lv9)) + 1)), (0, vR 45), (4, vI lv9)] [] g113_28
        refine TT_aload_n hK rfl 5 rfl dX0_lay_116 ?_
        refine TT_iload hK 4 rfl dX0_lay_117 ?_
        refine TT_iconst hK dX0_lay_119 ?_
        refine TT_iadd hK dX0_lay_120 ?_
        refine TT_iconst hK dX0_lay_121 ?_
        refine TT_iload hK 0 rfl dX0_lay_122 ?_
        refine TT_iload hK 1 rfl dX0_lay_124 ?_
        refine TT_iload hK 2 rfl dX0_lay_126 ?_
        refine TT_iload hK 0 rfl dX0_lay_128 ?_
        refine TT_isub hK dX0_lay_130 ?_
        refine iv_X0_50 hK (s_X0_layBand_45 (((3 * (((w30_6 45) 9) - lv9)) + 1) + 1) 0 z95_23 z84_22 (z73_21 - z95_23) g113_28 hT_28 (by first | omega | (simp [up, setR] <;> omega)) (by first | omega | (simp [up, setR] <;> omega)) (by first | omega | (simp [up, setR] <;> omega)) (by first | omega | (simp [up, setR] <;> omega)) (by first | omega | (simp [up, setR] <;> omega)) (by first | omega | (simp [up, setR] <;> omega)) (by first | omega | (simp [up, setR] <;> omega)) (by assumption)) (by decide) rfl ⟨by decide, by decide⟩ (by decide) rfl rfl (Nat.le_of_ble_eq_true rfl) ⟨by decide, by decide⟩ dX0_lay_131 ?_
        intro r9 g131_29 hp9
        obtain ⟨⟨hT_29, hG_29⟩, hr9, p1_29⟩ := hp9
        rw [hr9]
        have hF_29 : FR [45, 47, 48, 49, 50] h g131_29 := FR_tr hF_28 hG_29 (by decide)
        show TT K ly 0 0 134 [(9, vI z95_23), (8, vI z84_22), (7, vI z73_21), (6, vI z60_19), (5, vI ((3 * (((w30_6 45) 9) - lv9)) + 1)), (0, vR 45), (4, vI lv9)] [] g131_29
        refine TT_aload_n hK rfl 5 rfl dX0_lay_134 ?_
        refine TT_iload hK 4 rfl dX0_lay_135 ?_
        refine TT_iconst hK dX0_lay_137 ?_
        refine TT_iadd hK dX0_lay_138 ?_
        refine TT_iload hK 1 rfl dX0_lay_139 ?_
        refine TT_iload hK 0 rfl dX0_lay_141 ?_
        refine TT_iload hK 3 rfl dX0_lay_143 ?_
        refine TT_iload hK 1 rfl dX0_lay_145 ?_
        refine TT_isub hK dX0_lay_147 ?_
        refine TT_iload hK 2 rfl dX0_lay_148 ?_
        refine TT_iload hK 0 rfl dX0_lay_150 ?_
        refine TT_isub hK dX0_lay_152 ?_
        refine iv_X0_50 hK (s_X0_layBand_45 (((3 * (((w30_6 45) 9) - lv9)) + 1) + 2) z84_22 z95_23 (z60_19 - z84_22) (z73_21 - z95_23) g131_29 hT_29 (by first | omega | (simp [up, setR] <;> omega)) (by first | omega | (simp [up, setR] <;> omega)) (by first | omega | (simp [up, setR] <;> omega)) (by first | omega | (simp [up, setR] <;> omega)) (by first | omega | (simp [up, setR] <;> omega)) (by first | omega | (simp [up, setR] <;> omega)) (by first | omega | (simp [up, setR] <;> omega)) (by assumption)) (by decide) rfl ⟨by decide, by decide⟩ (by decide) rfl rfl (Nat.le_of_ble_eq_true rfl) ⟨by decide, by decide⟩ dX0_lay_153 ?_
        intro r9 g153_30 hp9
        obtain ⟨⟨hT_30, hG_30⟩, hr9, p1_30⟩ := hp9
        rw [hr9]
        have hF_30 : FR [45, 47, 48, 49, 50] h g153_30 := FR_tr hF_29 hG_30 (by decide)
        show TT K ly 0 0 156 [(9, vI z95_23), (8, vI z84_22), (7, vI z73_21), (6, vI z60_19), (5, vI ((3 * (((w30_6 45) 9) - lv9)) + 1)), (0, vR 45), (4, vI lv9)] [] g153_30
        refine TT_iinc hK (v := lv9 + 1) (lv' := [(4, vI (lv9 + 1)), (9, vI z95_23), (8, vI z84_22), (7, vI z73_21), (6, vI z60_19), (5, vI ((3 * (((w30_6 45) 9) - lv9)) + 1)), (0, vR 45)]) 6 rfl rfl (by decide) rfl dX0_lay_156 ?_
        refine TT_goto hK (tgt := 30) dX0_lay_159 (by decide) ?_
        refine TT_sub [6, 0] rfl ?_
        exact ih6 (lv9 + 1) g153_30 hT_30 hF_30 (by first | omega | (simp [up, setR] <;> omega)) (by assumption) (by first | omega | (simp [up, setR] <;> omega))
  refine TT_sub [1, 0] rfl ?_
  have e31_47 : (setO h 45 (fup (fup (fup (fup (h 45) 7 wq) 8 eq) 9 lq) 10 ((3 * lq) + 1))) 47 = h 47 := sOf_ne _ _ (by decide)
  have e32_48 : (setO h 45 (fup (fup (fup (fup (h 45) 7 wq) 8 eq) 9 lq) 10 ((3 * lq) + 1))) 48 = h 48 := sOf_ne _ _ (by decide)
  have e33_49 : (setO h 45 (fup (fup (fup (fup (h 45) 7 wq) 8 eq) 9 lq) 10 ((3 * lq) + 1))) 49 = h 49 := sOf_ne _ _ (by decide)
  have e34_50 : (setO h 45 (fup (fup (fup (fup (h 45) 7 wq) 8 eq) 9 lq) 10 ((3 * lq) + 1))) 50 = h 50 := sOf_ne _ _ (by decide)
  exact L30_6 ((((4 : Int) - 1).toNat) + 1) 1 (setO h 45 (fup (fup (fup (fup (h 45) 7 wq) 8 eq) 9 lq) 10 ((3 * lq) + 1))) hT_5 hF_5 (by first | omega | (simp [up, setR] <;> omega)) (by rw [e31_47, e32_48, e33_49, e34_50]; exact hbd) (Nat.lt_succ_self _)
set_option maxRecDepth 20000 in
theorem s_X0_readPicture_45 (h : Hp_) (hT : TY h)  : Ctr yX0_readPicture cX0_readPicture 4 none (rmd 2) ly ly 0 0 [vR 45, vR 3] h (fun r h' => (TY h' ∧ FR [46] h h') ∧ r = none) := by
  refine Ctr_of (by decide) (Nat.le_of_ble_eq_true rfl) ⟨Nat.le_refl _, Nat.le_refl _⟩ (fun K hK hQ _ => ?_)
  show TT K ly 0 0 0 [(0, vR 45), (1, vR 3)] [] h
  have hF : FR [46] h h := FR_rf _ _
  refine TT_iconst hK dX0_readPicture_0 ?_
  refine TT_istore_n hK rfl (lv' := [(2, vI 0), (0, vR 45), (1, vR 3)]) (by decide) rfl dX0_readPicture_1 ?_
  have L2_1 : ∀ (k1 : Nat) (y : Int) (w2_1 : Hp_), TY w2_1 → FR [46] h w2_1 → (0 ≤ y ∧ y ≤ 8) → ((8 : Int) - y).toNat < k1 → TT K ly 0 0 2 [(0, vR 45), (1, vR 3), (2, vI y)] [] w2_1 := by
    intro k1
    induction k1 with
    | zero => intro y w2_1 hT2_1 hF2_1 hy hk1; exact absurd hk1 (Nat.not_lt_zero _)
    | succ k1 ih1 =>
      intro y w2_1 hT2_1 hF2_1 hy hk1
      refine TT_iload_n hK rfl 2 rfl dX0_readPicture_2 ?_
      refine TT_aload_n hK rfl 0 rfl dX0_readPicture_3 ?_
      refine gf_X0_37 hK (by decide) rfl (v := (h 45) 8) (rd_ (hF2_1 45 (by decide)) rfl) dX0_readPicture_4 ?_
      have r2 := ty_45_8 (v := (h 45) 8) hT2_1 (rd_ (hF2_1 45 (by decide)) rfl)
      refine TT_icmp_ge hK (tgt := 53) (irm (by omega) (by omega)) (irm (by omega) (by omega)) dX0_readPicture_7 (by decide) (fun hb7_3 => ?_) (fun hb7_3 => ?_)
      · refine TT_vret hK hQ ?_ dX0_readPicture_53
        exact ⟨⟨hT2_1, hF2_1⟩, rfl⟩
      · refine TT_iconst hK dX0_readPicture_10 ?_
        refine TT_istore_n hK rfl (lv' := [(3, vI 0), (0, vR 45), (1, vR 3), (2, vI y)]) (by decide) rfl dX0_readPicture_11 ?_
        have L12_4 : ∀ (k4 : Nat) (x : Int) (w12_4 : Hp_), TY w12_4 → FR [46] h w12_4 → (0 ≤ x ∧ x ≤ 8) → ((8 : Int) - x).toNat < k4 → TT K ly 0 0 12 [(0, vR 45), (1, vR 3), (2, vI y), (3, vI x)] [] w12_4 := by
          intro k4
          induction k4 with
          | zero => intro x w12_4 hT12_4 hF12_4 hx hk4; exact absurd hk4 (Nat.not_lt_zero _)
          | succ k4 ih4 =>
            intro x w12_4 hT12_4 hF12_4 hx hk4
            refine TT_iload_n hK rfl 3 rfl dX0_readPicture_12 ?_
            refine TT_aload_n hK rfl 0 rfl dX0_readPicture_13 ?_
            refine gf_X0_33 hK (by decide) rfl (v := (h 45) 7) (rd_ (hF12_4 45 (by decide)) rfl) dX0_readPicture_14 ?_
            have r5 := ty_45_7 (v := (h 45) 7) hT12_4 (rd_ (hF12_4 45 (by decide)) rfl)
            refine TT_icmp_ge hK (tgt := 47) (irm (by omega) (by omega)) (irm (by omega) (by omega)) dX0_readPicture_17 (by decide) (fun hb17_6 => ?_) (fun hb17_6 => ?_)
            · refine TT_iinc hK (v := y + 1) (lv' := [(2, vI (y + 1)), (0, vR 45), (1, vR 3), (3, vI x)]) 2 rfl rfl (by decide) rfl dX0_readPicture_47 ?_
              refine TT_goto hK (tgt := 2) dX0_readPicture_50 (by decide) ?_
              refine TT_sub [1, 2, 0] rfl ?_
              exact ih1 (y + 1) w12_4 hT12_4 hF12_4 (by first | omega | (simp [up, setR] <;> omega)) (by first | omega | (simp [up, setR] <;> omega))
            · refine TT_aload_n hK rfl 0 rfl dX0_readPicture_20 ?_
              refine gf_X0_9 hK (by decide) rfl (q := 46) rfl rfl dX0_readPicture_21 ?_
              refine TT_iload_n hK rfl 2 rfl dX0_readPicture_24 ?_
              refine TT_bipush hK (by decide) dX0_readPicture_25 ?_
              refine TT_imul hK dX0_readPicture_27 ?_
              refine TT_iload_n hK rfl 3 rfl dX0_readPicture_28 ?_
              refine TT_iadd hK dX0_readPicture_29 ?_
              refine TT_aload_n hK rfl 1 rfl dX0_readPicture_30 ?_
              refine TT_iload_n hK rfl 3 rfl dX0_readPicture_31 ?_
              refine TT_iload_n hK rfl 2 rfl dX0_readPicture_32 ?_
              refine iv_X0_63 hK (s_X5_at_3 x y w12_4 hT12_4 (by first | omega | (simp [up, setR] <;> omega)) (by first | omega | (simp [up, setR] <;> omega))) (by decide) rfl ⟨by decide, by decide⟩ (by decide) rfl rfl (Nat.le_of_ble_eq_true rfl) ⟨by decide, by decide⟩ dX0_readPicture_33 ?_
              intro r9 g33_7 hp9
              obtain ⟨⟨hT_7, hG_7⟩, z33_7, hr9, hz_7⟩ := hp9
              rw [hr9]
              have hF_7 : FR [46] h g33_7 := FR_tr hF12_4 hG_7 (by decide)
              show TT K ly 0 0 36 [(0, vR 45), (1, vR 3), (2, vI y), (3, vI x)] [vI z33_7, vI ((y * 8) + x), vR 46] g33_7
              refine TT_sipush hK (by decide) dX0_readPicture_36 ?_
              refine TT_isub hK dX0_readPicture_39 ?_
              refine TT_iast hK (o := 46) (n := 64) (by decide) rfl (by omega) (by omega) dX0_readPicture_40 ?_
              refine TT_hp (h' := setO g33_7 46 (fup (w12_4 46) ((y * 8) + x) (z33_7 - 128))) (up_can (hG_7 46 (by decide)) rfl rfl) ?_
              have hT_8 : TY (setO g33_7 46 (fup (w12_4 46) ((y * 8) + x) (z33_7 - 128))) := tu_46 hT_7 (show up g33_7 46 ((y * 8) + x) (z33_7 - 128) = (setO g33_7 46 (fup (w12_4 46) ((y * 8) + x) (z33_7 - 128))) from up_can (hG_7 46 (by decide)) rfl rfl) (by omega)
              have hF_8 : FR [46] h (setO g33_7 46 (fup (w12_4 46) ((y * 8) + x) (z33_7 - 128))) := FR_up (show up g33_7 46 ((y * 8) + x) (z33_7 - 128) = (setO g33_7 46 (fup (w12_4 46) ((y * 8) + x) (z33_7 - 128))) from up_can (hG_7 46 (by decide)) rfl rfl) hF_7 (by decide)
              refine TT_iinc hK (v := x + 1) (lv' := [(3, vI (x + 1)), (0, vR 45), (1, vR 3), (2, vI y)]) 3 rfl rfl (by decide) rfl dX0_readPicture_41 ?_
              refine TT_goto hK (tgt := 12) dX0_readPicture_44 (by decide) ?_
              refine TT_sub [1, 2, 3, 0] rfl ?_
              exact ih4 (x + 1) (setO g33_7 46 (fup (w12_4 46) ((y * 8) + x) (z33_7 - 128))) hT_8 hF_8 (by first | omega | (simp [up, setR] <;> omega)) (by first | omega | (simp [up, setR] <;> omega))
        refine TT_sub [1, 2, 3, 0] rfl ?_
        exact L12_4 ((((8 : Int) - 0).toNat) + 1) 0 w2_1 hT2_1 hF2_1 (by first | omega | (simp [up, setR] <;> omega)) (Nat.lt_succ_self _)
  refine TT_sub [1, 2, 0] rfl ?_
  exact L2_1 ((((8 : Int) - 0).toNat) + 1) 0 h hT hF (by first | omega | (simp [up, setR] <;> omega)) (Nat.lt_succ_self _)
set_option maxRecDepth 20000 in
theorem s_X0_writePicture_45 (h : Hp_) (hT : TY h)  : Ctr yX0_writePicture cX0_writePicture 5 none (rmd 2) ly ly 0 0 [vR 45, vR 3] h (fun r h' => (TY h' ∧ FR [3, 4] h h') ∧ r = none) := by
  refine Ctr_of (by decide) (Nat.le_of_ble_eq_true rfl) ⟨Nat.le_refl _, Nat.le_refl _⟩ (fun K hK hQ _ => ?_)
  show TT K ly 0 0 0 [(0, vR 45), (1, vR 3)] [] h
  have hF : FR [3, 4] h h := FR_rf _ _
  refine TT_aload_n hK rfl 1 rfl dX0_writePicture_0 ?_
  refine TT_aload_n hK rfl 0 rfl dX0_writePicture_1 ?_
  refine gf_X0_33 hK (by decide) rfl (v := (h 45) 7) rfl dX0_writePicture_2 ?_
  have r1 := ty_45_7 (v := (h 45) 7) hT rfl
  refine TT_aload_n hK rfl 0 rfl dX0_writePicture_5 ?_
  refine gf_X0_37 hK (by decide) rfl (v := (h 45) 8) rfl dX0_writePicture_6 ?_
  have r2 := ty_45_8 (v := (h 45) 8) hT rfl
  refine iv_X0_68 hK (s_X5_begin_3 ((h 45) 7) ((h 45) 8) h hT (by first | omega | (simp [up, setR] <;> omega)) (by first | omega | (simp [up, setR] <;> omega))) (by decide) rfl ⟨by decide, by decide⟩ (by decide) rfl rfl (Nat.le_of_ble_eq_true rfl) ⟨by decide, by decide⟩ dX0_writePicture_9 ?_
  intro r9 g9_3 hp9
  obtain ⟨⟨hT_3, hG_3⟩, hr9⟩ := hp9
  rw [hr9]
  have hF_3 : FR [3, 4] h g9_3 := FR_tr hF hG_3 (by decide)
  show TT K ly 0 0 12 [(0, vR 45), (1, vR 3)] [] g9_3
  refine TT_iconst hK dX0_writePicture_12 ?_
  refine TT_istore_n hK rfl (lv' := [(2, vI 0), (0, vR 45), (1, vR 3)]) (by decide) rfl dX0_writePicture_13 ?_
  have L14_4 : ∀ (k4 : Nat) (y : Int) (w14_4 : Hp_), TY w14_4 → FR [3, 4] h w14_4 → (0 ≤ y ∧ y ≤ 8) → ((8 : Int) - y).toNat < k4 → TT K ly 0 0 14 [(0, vR 45), (1, vR 3), (2, vI y)] [] w14_4 := by
    intro k4
    induction k4 with
    | zero => intro y w14_4 hT14_4 hF14_4 hy hk4; exact absurd hk4 (Nat.not_lt_zero _)
    | succ k4 ih4 =>
      intro y w14_4 hT14_4 hF14_4 hy hk4
      refine TT_iload_n hK rfl 2 rfl dX0_writePicture_14 ?_
      refine TT_aload_n hK rfl 0 rfl dX0_writePicture_15 ?_
      refine gf_X0_37 hK (by decide) rfl (v := (h 45) 8) (rd_ (hF14_4 45 (by decide)) rfl) dX0_writePicture_16 ?_
      have r5 := ty_45_8 (v := (h 45) 8) hT14_4 (rd_ (hF14_4 45 (by decide)) rfl)
      refine TT_icmp_ge hK (tgt := 79) (irm (by omega) (by omega)) (irm (by omega) (by omega)) dX0_writePicture_19 (by decide) (fun hb19_6 => ?_) (fun hb19_6 => ?_)
      · refine TT_vret hK hQ ?_ dX0_writePicture_79
        exact ⟨⟨hT14_4, hF14_4⟩, rfl⟩
      · refine TT_iconst hK dX0_writePicture_22 ?_
        refine TT_istore_n hK rfl (lv' := [(3, vI 0), (0, vR 45), (1, vR 3), (2, vI y)]) (by decide) rfl dX0_writePicture_23 ?_
        have L24_7 : ∀ (k7 : Nat) (x : Int) (w24_7 : Hp_), TY w24_7 → FR [3, 4] h w24_7 → (0 ≤ x ∧ x ≤ 8) → ((8 : Int) - x).toNat < k7 → TT K ly 0 0 24 [(0, vR 45), (1, vR 3), (2, vI y), (3, vI x)] [] w24_7 := by
          intro k7
          induction k7 with
          | zero => intro x w24_7 hT24_7 hF24_7 hx hk7; exact absurd hk7 (Nat.not_lt_zero _)
          | succ k7 ih7 =>
            intro x w24_7 hT24_7 hF24_7 hx hk7
            refine TT_iload_n hK rfl 3 rfl dX0_writePicture_24 ?_
            refine TT_aload_n hK rfl 0 rfl dX0_writePicture_25 ?_
            refine gf_X0_33 hK (by decide) rfl (v := (h 45) 7) (rd_ (hF24_7 45 (by decide)) rfl) dX0_writePicture_26 ?_
            have r8 := ty_45_7 (v := (h 45) 7) hT24_7 (rd_ (hF24_7 45 (by decide)) rfl)
            refine TT_icmp_ge hK (tgt := 73) (irm (by omega) (by omega)) (irm (by omega) (by omega)) dX0_writePicture_29 (by decide) (fun hb29_9 => ?_) (fun hb29_9 => ?_)
            · refine TT_iinc hK (v := y + 1) (lv' := [(2, vI (y + 1)), (0, vR 45), (1, vR 3), (3, vI x)]) 2 rfl rfl (by decide) rfl dX0_writePicture_73 ?_
              refine TT_goto hK (tgt := 14) dX0_writePicture_76 (by decide) ?_
              refine TT_sub [1, 2, 0] rfl ?_
              exact ih4 (y + 1) w24_7 hT24_7 hF24_7 (by first | omega | (simp [up, setR] <;> omega)) (by first | omega | (simp [up, setR] <;> omega))
            · refine TT_aload_n hK rfl 0 rfl dX0_writePicture_32 ?_
              refine gf_X0_9 hK (by decide) rfl (q := 46) rfl rfl dX0_writePicture_33 ?_
              refine TT_iload_n hK rfl 2 rfl dX0_writePicture_36 ?_
              refine TT_bipush hK (by decide) dX0_writePicture_37 ?_
              refine TT_imul hK dX0_writePicture_39 ?_
              refine TT_iload_n hK rfl 3 rfl dX0_writePicture_40 ?_
              refine TT_iadd hK dX0_writePicture_41 ?_
              refine TT_iald hK (o := 46) (n := 64) (by decide) rfl (by first | omega | (simp [up, setR] <;> omega)) (by first | omega | (simp [up, setR] <;> omega)) (v := (h 46) ((y * 8) + x)) (rd_ (hF24_7 46 (by decide)) rfl) dX0_writePicture_42 ?_
              have r10 := ty_46 (i := (y * 8) + x) (v := (h 46) ((y * 8) + x)) hT24_7 (rd_ (hF24_7 46 (by decide)) rfl) (by omega) (by omega)
              refine TT_sipush hK (by decide) dX0_writePicture_43 ?_
              refine TT_iadd hK dX0_writePicture_46 ?_
              refine TT_w32 (fun x47_11 hx11 => ?_)
              refine TT_istore hK (lv' := [(4, vI x47_11), (0, vR 45), (1, vR 3), (2, vI y), (3, vI x)]) (by decide) rfl dX0_writePicture_47 ?_
              refine TT_aload_n hK rfl 2 rfl dX0_writePicture_49 ?_
              refine TT_iload_n hK rfl 4 rfl dX0_writePicture_50 ?_
              refine TT_iload_n hK rfl 3 rfl dX0_writePicture_51 ?_
              refine TT_iconst hK dX0_writePicture_52 ?_
              refine TT_sipush hK (by decide) dX0_writePicture_53 ?_
              refine TT_iload hK 0 rfl dX0_writePicture_56 ?_
              refine TT_mmin hK (by decide) (irm (by omega) (by omega)) iw_X0_72 (by decide) (Nat.le_of_ble_eq_true rfl) ⟨by decide, by decide⟩ dX0_writePicture_58 ?_
              refine TT_mmax hK (by decide) (irm (by omega) (by omega)) iw_X0_77 (by decide) (Nat.le_of_ble_eq_true rfl) ⟨by decide, by decide⟩ dX0_writePicture_61 ?_
              refine iv_X0_80 hK (s_X5_set_3 x y (max 0 (min 255 x47_11)) w24_7 hT24_7 (by first | omega | (simp [up, setR] <;> omega)) (by first | omega | (simp [up, setR] <;> omega)) (by first | omega | (simp [up, setR] <;> omega))) (by decide) rfl ⟨by decide, by decide⟩ (by decide) rfl rfl (Nat.le_of_ble_eq_true rfl) ⟨by decide, by decide⟩ dX0_writePicture_64 ?_
              intro r9 g64_12 hp9
              obtain ⟨⟨hT_12, hG_12⟩, hr9⟩ := hp9
              rw [hr9]
              have hF_12 : FR [3, 4] h g64_12 := FR_tr hF24_7 hG_12 (by decide)
              show TT K ly 0 0 67 [(4, vI x47_11), (0, vR 45), (1, vR 3), (2, vI y), (3, vI x)] [] g64_12
              refine TT_iinc hK (v := x + 1) (lv' := [(3, vI (x + 1)), (4, vI x47_11), (0, vR 45), (1, vR 3), (2, vI y)]) 4 rfl rfl (by decide) rfl dX0_writePicture_67 ?_
              refine TT_goto hK (tgt := 24) dX0_writePicture_70 (by decide) ?_
              refine TT_sub [2, 3, 4, 0] rfl ?_
              exact ih7 (x + 1) g64_12 hT_12 hF_12 (by first | omega | (simp [up, setR] <;> omega)) (by first | omega | (simp [up, setR] <;> omega))
        refine TT_sub [1, 2, 3, 0] rfl ?_
        exact L24_7 ((((8 : Int) - 0).toNat) + 1) 0 w14_4 hT14_4 hF14_4 (by first | omega | (simp [up, setR] <;> omega)) (Nat.lt_succ_self _)
  refine TT_sub [1, 2, 0] rfl ?_
  exact L14_4 ((((8 : Int) - 0).toNat) + 1) 0 g9_3 hT_3 hF_3 (by first | omega | (simp [up, setR] <;> omega)) (Nat.lt_succ_self _)
set_option maxRecDepth 20000 in
theorem s_readLine_45_8 (a n : Int) (h : Hp_) (hT : TY h) (ha : 0 ≤ a ∧ a ≤ 7) (hn : 0 ≤ n ∧ n ≤ 8) : Ctr yX0_readLine cX0_readLine 5 none (rmd 0) ly ly 0 0 [vR 45, vI a, vI 8, vI n] h (fun r h' => (TY h' ∧ FR [51] h h') ∧ r = none) := by
  refine Ctr_of (by decide) (Nat.le_of_ble_eq_true rfl) ⟨Nat.le_refl _, Nat.le_refl _⟩ (fun K hK hQ _ => ?_)
  show TT K ly 0 0 0 [(0, vR 45), (1, vI a), (2, vI 8), (3, vI n)] [] h
  have hF : FR [51] h h := FR_rf _ _
  refine TT_iconst hK dX0_readLine_0 ?_
  refine TT_istore hK (lv' := [(4, vI 0), (0, vR 45), (1, vI a), (2, vI 8), (3, vI n)]) (by decide) rfl dX0_readLine_1 ?_
  have L3_1 : ∀ (k1 : Nat) (i : Int) (w3_1 : Hp_), TY w3_1 → FR [51] h w3_1 → (0 ≤ i ∧ i ≤ 8) → ((8 : Int) - i).toNat < k1 → TT K ly 0 0 3 [(0, vR 45), (1, vI a), (2, vI 8), (3, vI n), (4, vI i)] [] w3_1 := by
    intro k1
    induction k1 with
    | zero => intro i w3_1 hT3_1 hF3_1 hi hk1; exact absurd hk1 (Nat.not_lt_zero _)
    | succ k1 ih1 =>
      intro i w3_1 hT3_1 hF3_1 hi hk1
      refine TT_iload hK 4 rfl dX0_readLine_3 ?_
      refine TT_iload_n hK rfl 3 rfl dX0_readLine_5 ?_
      refine TT_icmp_ge hK (tgt := 33) (irm (by omega) (by omega)) (irm (by omega) (by omega)) dX0_readLine_6 (by decide) (fun hb6_2 => ?_) (fun hb6_2 => ?_)
      · refine TT_vret hK hQ ?_ dX0_readLine_33
        exact ⟨⟨hT3_1, hF3_1⟩, rfl⟩
      · refine TT_aload_n hK rfl 0 rfl dX0_readLine_9 ?_
        refine gf_X0_27 hK (by decide) rfl (q := 51) rfl rfl dX0_readLine_10 ?_
        refine TT_iload hK 4 rfl dX0_readLine_13 ?_
        refine TT_aload_n hK rfl 0 rfl dX0_readLine_15 ?_
        refine gf_X0_9 hK (by decide) rfl (q := 46) rfl rfl dX0_readLine_16 ?_
        refine TT_iload_n hK rfl 1 rfl dX0_readLine_19 ?_
        refine TT_iload hK 4 rfl dX0_readLine_20 ?_
        refine TT_iload_n hK rfl 2 rfl dX0_readLine_22 ?_
        refine TT_imul hK dX0_readLine_23 ?_
        refine TT_iadd hK dX0_readLine_24 ?_
        refine TT_iald hK (o := 46) (n := 64) (by decide) rfl (by first | omega | (simp [up, setR] <;> omega)) (by first | omega | (simp [up, setR] <;> omega)) (v := (h 46) (a + (i * 8))) (rd_ (hF3_1 46 (by decide)) rfl) dX0_readLine_25 ?_
        have r3 := ty_46 (i := a + (i * 8)) (v := (h 46) (a + (i * 8))) hT3_1 (rd_ (hF3_1 46 (by decide)) rfl) (by omega) (by omega)
        refine TT_iast hK (o := 51) (n := 8) (by decide) rfl (by omega) (by omega) dX0_readLine_26 ?_
        refine TT_hp (h' := setO w3_1 51 (fup (w3_1 51) i ((h 46) (a + (i * 8))))) (up_can rfl rfl rfl) ?_
        have hT_4 : TY (setO w3_1 51 (fup (w3_1 51) i ((h 46) (a + (i * 8))))) := tu_51 hT3_1 (show up w3_1 51 i ((h 46) (a + (i * 8))) = (setO w3_1 51 (fup (w3_1 51) i ((h 46) (a + (i * 8))))) from up_can rfl rfl rfl) (by omega)
        have hF_4 : FR [51] h (setO w3_1 51 (fup (w3_1 51) i ((h 46) (a + (i * 8))))) := FR_up (show up w3_1 51 i ((h 46) (a + (i * 8))) = (setO w3_1 51 (fup (w3_1 51) i ((h 46) (a + (i * 8))))) from up_can rfl rfl rfl) hF3_1 (by decide)
        refine TT_iinc hK (v := i + 1) (lv' := [(4, vI (i + 1)), (0, vR 45), (1, vI a), (2, vI 8), (3, vI n)]) 4 rfl rfl (by decide) rfl dX0_readLine_27 ?_
        refine TT_goto hK (tgt := 3) dX0_readLine_30 (by decide) ?_
        refine TT_sub [1, 2, 3, 4, 0] rfl ?_
        exact ih1 (i + 1) (setO w3_1 51 (fup (w3_1 51) i ((h 46) (a + (i * 8))))) hT_4 hF_4 (by first | omega | (simp [up, setR] <;> omega)) (by first | omega | (simp [up, setR] <;> omega))
  refine TT_sub [1, 2, 3, 4, 0] rfl ?_
  exact L3_1 ((((8 : Int) - 0).toNat) + 1) 0 h hT hF (by first | omega | (simp [up, setR] <;> omega)) (Nat.lt_succ_self _)
set_option maxRecDepth 20000 in
theorem s_writeLine_45_8 (a n : Int) (h : Hp_) (hT : TY h) (ha : 0 ≤ a ∧ a ≤ 7) (hn : 0 ≤ n ∧ n ≤ 8) : Ctr yX0_writeLine cX0_writeLine 5 none (rmd 0) ly ly 0 0 [vR 45, vI a, vI 8, vI n] h (fun r h' => (TY h' ∧ FR [46] h h') ∧ r = none) := by
  refine Ctr_of (by decide) (Nat.le_of_ble_eq_true rfl) ⟨Nat.le_refl _, Nat.le_refl _⟩ (fun K hK hQ _ => ?_)
  show TT K ly 0 0 0 [(0, vR 45), (1, vI a), (2, vI 8), (3, vI n)] [] h
  have hF : FR [46] h h := FR_rf _ _
  refine TT_iconst hK dX0_writeLine_0 ?_
  refine TT_istore hK (lv' := [(4, vI 0), (0, vR 45), (1, vI a), (2, vI 8), (3, vI n)]) (by decide) rfl dX0_writeLine_1 ?_
  have L3_1 : ∀ (k1 : Nat) (i : Int) (w3_1 : Hp_), TY w3_1 → FR [46] h w3_1 → (0 ≤ i ∧ i ≤ 8) → ((8 : Int) - i).toNat < k1 → TT K ly 0 0 3 [(0, vR 45), (1, vI a), (2, vI 8), (3, vI n), (4, vI i)] [] w3_1 := by
    intro k1
    induction k1 with
    | zero => intro i w3_1 hT3_1 hF3_1 hi hk1; exact absurd hk1 (Nat.not_lt_zero _)
    | succ k1 ih1 =>
      intro i w3_1 hT3_1 hF3_1 hi hk1
      refine TT_iload hK 4 rfl dX0_writeLine_3 ?_
      refine TT_iload_n hK rfl 3 rfl dX0_writeLine_5 ?_
      refine TT_icmp_ge hK (tgt := 33) (irm (by omega) (by omega)) (irm (by omega) (by omega)) dX0_writeLine_6 (by decide) (fun hb6_2 => ?_) (fun hb6_2 => ?_)
      · refine TT_vret hK hQ ?_ dX0_writeLine_33
        exact ⟨⟨hT3_1, hF3_1⟩, rfl⟩
      · refine TT_aload_n hK rfl 0 rfl dX0_writeLine_9 ?_
        refine gf_X0_9 hK (by decide) rfl (q := 46) rfl rfl dX0_writeLine_10 ?_
        refine TT_iload_n hK rfl 1 rfl dX0_writeLine_13 ?_
        refine TT_iload hK 4 rfl dX0_writeLine_14 ?_
        refine TT_iload_n hK rfl 2 rfl dX0_writeLine_16 ?_
        refine TT_imul hK dX0_writeLine_17 ?_
        refine TT_iadd hK dX0_writeLine_18 ?_
        refine TT_aload_n hK rfl 0 rfl dX0_writeLine_19 ?_
        refine gf_X0_30 hK (by decide) rfl (q := 52) rfl rfl dX0_writeLine_20 ?_
        refine TT_iload hK 4 rfl dX0_writeLine_23 ?_
        refine TT_iald hK (o := 52) (n := 8) (by decide) rfl (by first | omega | (simp [up, setR] <;> omega)) (by first | omega | (simp [up, setR] <;> omega)) (v := (h 52) i) (rd_ (hF3_1 52 (by decide)) rfl) dX0_writeLine_25 ?_
        have r3 := ty_52 (i := i) (v := (h 52) i) hT3_1 (rd_ (hF3_1 52 (by decide)) rfl) (by omega) (by omega)
        refine TT_iast hK (o := 46) (n := 64) (by decide) rfl (by omega) (by omega) dX0_writeLine_26 ?_
        refine TT_hp (h' := setO w3_1 46 (fup (w3_1 46) (a + (i * 8)) ((h 52) i))) (up_can rfl rfl rfl) ?_
        have hT_4 : TY (setO w3_1 46 (fup (w3_1 46) (a + (i * 8)) ((h 52) i))) := tu_46 hT3_1 (show up w3_1 46 (a + (i * 8)) ((h 52) i) = (setO w3_1 46 (fup (w3_1 46) (a + (i * 8)) ((h 52) i))) from up_can rfl rfl rfl) (by omega)
        have hF_4 : FR [46] h (setO w3_1 46 (fup (w3_1 46) (a + (i * 8)) ((h 52) i))) := FR_up (show up w3_1 46 (a + (i * 8)) ((h 52) i) = (setO w3_1 46 (fup (w3_1 46) (a + (i * 8)) ((h 52) i))) from up_can rfl rfl rfl) hF3_1 (by decide)
        refine TT_iinc hK (v := i + 1) (lv' := [(4, vI (i + 1)), (0, vR 45), (1, vI a), (2, vI 8), (3, vI n)]) 4 rfl rfl (by decide) rfl dX0_writeLine_27 ?_
        refine TT_goto hK (tgt := 3) dX0_writeLine_30 (by decide) ?_
        refine TT_sub [1, 2, 3, 4, 0] rfl ?_
        exact ih1 (i + 1) (setO w3_1 46 (fup (w3_1 46) (a + (i * 8)) ((h 52) i))) hT_4 hF_4 (by first | omega | (simp [up, setR] <;> omega)) (by first | omega | (simp [up, setR] <;> omega))
  refine TT_sub [1, 2, 3, 4, 0] rfl ?_
  exact L3_1 ((((8 : Int) - 0).toNat) + 1) 0 h hT hF (by first | omega | (simp [up, setR] <;> omega)) (Nat.lt_succ_self _)
set_option maxRecDepth 20000 in
theorem s_readLine_45_1 (a n : Int) (h : Hp_) (hT : TY h) (ha : 0 ≤ a ∧ a ≤ 56) (hn : 0 ≤ n ∧ n ≤ 8) : Ctr yX0_readLine cX0_readLine 5 none (rmd 0) ly ly 0 0 [vR 45, vI a, vI 1, vI n] h (fun r h' => (TY h' ∧ FR [51] h h') ∧ r = none) := by
  refine Ctr_of (by decide) (Nat.le_of_ble_eq_true rfl) ⟨Nat.le_refl _, Nat.le_refl _⟩ (fun K hK hQ _ => ?_)
  show TT K ly 0 0 0 [(0, vR 45), (1, vI a), (2, vI 1), (3, vI n)] [] h
  have hF : FR [51] h h := FR_rf _ _
  refine TT_iconst hK dX0_readLine_0 ?_
  refine TT_istore hK (lv' := [(4, vI 0), (0, vR 45), (1, vI a), (2, vI 1), (3, vI n)]) (by decide) rfl dX0_readLine_1 ?_
  have L3_1 : ∀ (k1 : Nat) (i : Int) (w3_1 : Hp_), TY w3_1 → FR [51] h w3_1 → (0 ≤ i ∧ i ≤ 8) → ((8 : Int) - i).toNat < k1 → TT K ly 0 0 3 [(0, vR 45), (1, vI a), (2, vI 1), (3, vI n), (4, vI i)] [] w3_1 := by
    intro k1
    induction k1 with
    | zero => intro i w3_1 hT3_1 hF3_1 hi hk1; exact absurd hk1 (Nat.not_lt_zero _)
    | succ k1 ih1 =>
      intro i w3_1 hT3_1 hF3_1 hi hk1
      refine TT_iload hK 4 rfl dX0_readLine_3 ?_
      refine TT_iload_n hK rfl 3 rfl dX0_readLine_5 ?_
      refine TT_icmp_ge hK (tgt := 33) (irm (by omega) (by omega)) (irm (by omega) (by omega)) dX0_readLine_6 (by decide) (fun hb6_2 => ?_) (fun hb6_2 => ?_)
      · refine TT_vret hK hQ ?_ dX0_readLine_33
        exact ⟨⟨hT3_1, hF3_1⟩, rfl⟩
      · refine TT_aload_n hK rfl 0 rfl dX0_readLine_9 ?_
        refine gf_X0_27 hK (by decide) rfl (q := 51) rfl rfl dX0_readLine_10 ?_
        refine TT_iload hK 4 rfl dX0_readLine_13 ?_
        refine TT_aload_n hK rfl 0 rfl dX0_readLine_15 ?_
        refine gf_X0_9 hK (by decide) rfl (q := 46) rfl rfl dX0_readLine_16 ?_
        refine TT_iload_n hK rfl 1 rfl dX0_readLine_19 ?_
        refine TT_iload hK 4 rfl dX0_readLine_20 ?_
        refine TT_iload_n hK rfl 2 rfl dX0_readLine_22 ?_
        refine TT_imul hK dX0_readLine_23 ?_
        refine TT_iadd hK dX0_readLine_24 ?_
        refine TT_iald hK (o := 46) (n := 64) (by decide) rfl (by first | omega | (simp [up, setR] <;> omega)) (by first | omega | (simp [up, setR] <;> omega)) (v := (h 46) (a + (i * 1))) (rd_ (hF3_1 46 (by decide)) rfl) dX0_readLine_25 ?_
        have r3 := ty_46 (i := a + (i * 1)) (v := (h 46) (a + (i * 1))) hT3_1 (rd_ (hF3_1 46 (by decide)) rfl) (by omega) (by omega)
        refine TT_iast hK (o := 51) (n := 8) (by decide) rfl (by omega) (by omega) dX0_readLine_26 ?_
        refine TT_hp (h' := setO w3_1 51 (fup (w3_1 51) i ((h 46) (a + (i * 1))))) (up_can rfl rfl rfl) ?_
        have hT_4 : TY (setO w3_1 51 (fup (w3_1 51) i ((h 46) (a + (i * 1))))) := tu_51 hT3_1 (show up w3_1 51 i ((h 46) (a + (i * 1))) = (setO w3_1 51 (fup (w3_1 51) i ((h 46) (a + (i * 1))))) from up_can rfl rfl rfl) (by omega)
        have hF_4 : FR [51] h (setO w3_1 51 (fup (w3_1 51) i ((h 46) (a + (i * 1))))) := FR_up (show up w3_1 51 i ((h 46) (a + (i * 1))) = (setO w3_1 51 (fup (w3_1 51) i ((h 46) (a + (i * 1))))) from up_can rfl rfl rfl) hF3_1 (by decide)
        refine TT_iinc hK (v := i + 1) (lv' := [(4, vI (i + 1)), (0, vR 45), (1, vI a), (2, vI 1), (3, vI n)]) 4 rfl rfl (by decide) rfl dX0_readLine_27 ?_
        refine TT_goto hK (tgt := 3) dX0_readLine_30 (by decide) ?_
        refine TT_sub [1, 2, 3, 4, 0] rfl ?_
        exact ih1 (i + 1) (setO w3_1 51 (fup (w3_1 51) i ((h 46) (a + (i * 1))))) hT_4 hF_4 (by first | omega | (simp [up, setR] <;> omega)) (by first | omega | (simp [up, setR] <;> omega))
  refine TT_sub [1, 2, 3, 4, 0] rfl ?_
  exact L3_1 ((((8 : Int) - 0).toNat) + 1) 0 h hT hF (by first | omega | (simp [up, setR] <;> omega)) (Nat.lt_succ_self _)
set_option maxRecDepth 20000 in
theorem s_writeLine_45_1 (a n : Int) (h : Hp_) (hT : TY h) (ha : 0 ≤ a ∧ a ≤ 56) (hn : 0 ≤ n ∧ n ≤ 8) : Ctr yX0_writeLine cX0_writeLine 5 none (rmd 0) ly ly 0 0 [vR 45, vI a, vI 1, vI n] h (fun r h' => (TY h' ∧ FR [46] h h') ∧ r = none) := by
  refine Ctr_of (by decide) (Nat.le_of_ble_eq_true rfl) ⟨Nat.le_refl _, Nat.le_refl _⟩ (fun K hK hQ _ => ?_)
  show TT K ly 0 0 0 [(0, vR 45), (1, vI a), (2, vI 1), (3, vI n)] [] h
  have hF : FR [46] h h := FR_rf _ _
  refine TT_iconst hK dX0_writeLine_0 ?_
  refine TT_istore hK (lv' := [(4, vI 0), (0, vR 45), (1, vI a), (2, vI 1), (3, vI n)]) (by decide) rfl dX0_writeLine_1 ?_
  have L3_1 : ∀ (k1 : Nat) (i : Int) (w3_1 : Hp_), TY w3_1 → FR [46] h w3_1 → (0 ≤ i ∧ i ≤ 8) → ((8 : Int) - i).toNat < k1 → TT K ly 0 0 3 [(0, vR 45), (1, vI a), (2, vI 1), (3, vI n), (4, vI i)] [] w3_1 := by
    intro k1
    induction k1 with
    | zero => intro i w3_1 hT3_1 hF3_1 hi hk1; exact absurd hk1 (Nat.not_lt_zero _)
    | succ k1 ih1 =>
      intro i w3_1 hT3_1 hF3_1 hi hk1
      refine TT_iload hK 4 rfl dX0_writeLine_3 ?_
      refine TT_iload_n hK rfl 3 rfl dX0_writeLine_5 ?_
      refine TT_icmp_ge hK (tgt := 33) (irm (by omega) (by omega)) (irm (by omega) (by omega)) dX0_writeLine_6 (by decide) (fun hb6_2 => ?_) (fun hb6_2 => ?_)
      · refine TT_vret hK hQ ?_ dX0_writeLine_33
        exact ⟨⟨hT3_1, hF3_1⟩, rfl⟩
      · refine TT_aload_n hK rfl 0 rfl dX0_writeLine_9 ?_
        refine gf_X0_9 hK (by decide) rfl (q := 46) rfl rfl dX0_writeLine_10 ?_
        refine TT_iload_n hK rfl 1 rfl dX0_writeLine_13 ?_
        refine TT_iload hK 4 rfl dX0_writeLine_14 ?_
        refine TT_iload_n hK rfl 2 rfl dX0_writeLine_16 ?_
        refine TT_imul hK dX0_writeLine_17 ?_
        refine TT_iadd hK dX0_writeLine_18 ?_
        refine TT_aload_n hK rfl 0 rfl dX0_writeLine_19 ?_
        refine gf_X0_30 hK (by decide) rfl (q := 52) rfl rfl dX0_writeLine_20 ?_
        refine TT_iload hK 4 rfl dX0_writeLine_23 ?_
        refine TT_iald hK (o := 52) (n := 8) (by decide) rfl (by first | omega | (simp [up, setR] <;> omega)) (by first | omega | (simp [up, setR] <;> omega)) (v := (h 52) i) (rd_ (hF3_1 52 (by decide)) rfl) dX0_writeLine_25 ?_
        have r3 := ty_52 (i := i) (v := (h 52) i) hT3_1 (rd_ (hF3_1 52 (by decide)) rfl) (by omega) (by omega)
        refine TT_iast hK (o := 46) (n := 64) (by decide) rfl (by omega) (by omega) dX0_writeLine_26 ?_
        refine TT_hp (h' := setO w3_1 46 (fup (w3_1 46) (a + (i * 1)) ((h 52) i))) (up_can rfl rfl rfl) ?_
        have hT_4 : TY (setO w3_1 46 (fup (w3_1 46) (a + (i * 1)) ((h 52) i))) := tu_46 hT3_1 (show up w3_1 46 (a + (i * 1)) ((h 52) i) = (setO w3_1 46 (fup (w3_1 46) (a + (i * 1)) ((h 52) i))) from up_can rfl rfl rfl) (by omega)
        have hF_4 : FR [46] h (setO w3_1 46 (fup (w3_1 46) (a + (i * 1)) ((h 52) i))) := FR_up (show up w3_1 46 (a + (i * 1)) ((h 52) i) = (setO w3_1 46 (fup (w3_1 46) (a + (i * 1)) ((h 52) i))) from up_can rfl rfl rfl) hF3_1 (by decide)
        refine TT_iinc hK (v := i + 1) (lv' := [(4, vI (i + 1)), (0, vR 45), (1, vI a), (2, vI 1), (3, vI n)]) 4 rfl rfl (by decide) rfl dX0_writeLine_27 ?_
        refine TT_goto hK (tgt := 3) dX0_writeLine_30 (by decide) ?_
        refine TT_sub [1, 2, 3, 4, 0] rfl ?_
        exact ih1 (i + 1) (setO w3_1 46 (fup (w3_1 46) (a + (i * 1)) ((h 52) i))) hT_4 hF_4 (by first | omega | (simp [up, setR] <;> omega)) (by first | omega | (simp [up, setR] <;> omega))
  refine TT_sub [1, 2, 3, 4, 0] rfl ?_
  exact L3_1 ((((8 : Int) - 0).toNat) + 1) 0 h hT hF (by first | omega | (simp [up, setR] <;> omega)) (Nat.lt_succ_self _)
set_option maxRecDepth 20000 in
theorem s_fourth_51 (k n : Int) (h : Hp_) (hT : TY h) (hn : 2 ≤ n ∧ n ≤ 8) (hk : 0 ≤ k ∧ k < (n + 1) / 2) : Ctr yX0_fourth cX0_fourth 6 (some .int) (rmd 1) ly ly 0 0 [vR 51, vI k, vI n] h (fun r h' => (TY h' ∧ FR [] h h') ∧ ∃ z : Int, r = some (vI z) ∧ (-2147483648 ≤ z ∧ z ≤ 2147483647)) := by
  refine Ctr_of (by decide) (Nat.le_of_ble_eq_true rfl) ⟨Nat.le_refl _, Nat.le_refl _⟩ (fun K hK hQ _ => ?_)
  show TT K ly 0 0 0 [(0, vR 51), (1, vI k), (2, vI n)] [] h
  have hF : FR [] h h := FR_rf _ _
  refine TT_iload_n hK rfl 2 rfl dX0_fourth_0 ?_
  refine TT_iconst hK dX0_fourth_1 ?_
  refine TT_iadd hK dX0_fourth_2 ?_
  refine TT_iconst hK dX0_fourth_3 ?_
  refine TT_idivn hK (irm (by omega) (by omega)) (by decide) (by first | omega | (simp [up, setR] <;> omega)) (by first | omega | (simp [up, setR] <;> omega)) dX0_fourth_4 ?_
  refine TT_istore_n hK rfl (lv' := [(3, vI ((n + 1) / 2)), (0, vR 51), (1, vI k), (2, vI n)]) (by decide) rfl dX0_fourth_5 ?_
  refine TT_aload_n hK rfl 1 rfl dX0_fourth_6 ?_
  refine TT_iload_n hK rfl 0 rfl dX0_fourth_7 ?_
  refine TT_iload_n hK rfl 2 rfl dX0_fourth_8 ?_
  refine TT_iconst hK dX0_fourth_9 ?_
  refine TT_isub hK dX0_fourth_10 ?_
  refine TT_iconst hK dX0_fourth_11 ?_
  refine TT_mmax hK (irm (by omega) (by omega)) (by decide) iw_X0_77 (by decide) (Nat.le_of_ble_eq_true rfl) ⟨by decide, by decide⟩ dX0_fourth_12 ?_
  refine TT_iadd hK dX0_fourth_15 ?_
  refine TT_iald hK (o := 51) (n := 8) (by decide) rfl (by first | omega | (simp [up, setR] <;> omega)) (by first | omega | (simp [up, setR] <;> omega)) (v := (h 51) (((n + 1) / 2) + (max (k - 1) 0))) rfl dX0_fourth_16 ?_
  have r1 := ty_51 (i := ((n + 1) / 2) + (max (k - 1) 0)) (v := (h 51) (((n + 1) / 2) + (max (k - 1) 0))) hT rfl (by omega) (by omega)
  refine TT_istore hK (lv' := [(4, vI ((h 51) (((n + 1) / 2) + (max (k - 1) 0)))), (3, vI ((n + 1) / 2)), (0, vR 51), (1, vI k), (2, vI n)]) (by decide) rfl dX0_fourth_17 ?_
  refine TT_aload_n hK rfl 2 rfl dX0_fourth_19 ?_
  refine TT_iload_n hK rfl 1 rfl dX0_fourth_20 ?_
  refine TT_iload_n hK rfl 3 rfl dX0_fourth_21 ?_
  refine TT_iload_n hK rfl 4 rfl dX0_fourth_22 ?_
  refine TT_iconst hK dX0_fourth_23 ?_
  refine TT_idivn hK (irm (by omega) (by omega)) (by decide) (by first | omega | (simp [up, setR] <;> omega)) (by first | omega | (simp [up, setR] <;> omega)) dX0_fourth_24 ?_
  refine TT_iconst hK dX0_fourth_25 ?_
  refine TT_isub hK dX0_fourth_26 ?_
  refine TT_mmin hK (irm (by omega) (by omega)) (irm (by omega) (by omega)) iw_X0_72 (by decide) (Nat.le_of_ble_eq_true rfl) ⟨by decide, by decide⟩ dX0_fourth_27 ?_
  refine TT_iadd hK dX0_fourth_30 ?_
  refine TT_iald hK (o := 51) (n := 8) (by decide) rfl (by first | omega | (simp [up, setR] <;> omega)) (by first | omega | (simp [up, setR] <;> omega)) (v := (h 51) (((n + 1) / 2) + (min k ((n / 2) - 1)))) rfl dX0_fourth_31 ?_
  have r2 := ty_51 (i := ((n + 1) / 2) + (min k ((n / 2) - 1))) (v := (h 51) (((n + 1) / 2) + (min k ((n / 2) - 1)))) hT rfl (by omega) (by omega)
  refine TT_istore hK (lv' := [(5, vI ((h 51) (((n + 1) / 2) + (min k ((n / 2) - 1))))), (4, vI ((h 51) (((n + 1) / 2) + (max (k - 1) 0)))), (3, vI ((n + 1) / 2)), (0, vR 51), (1, vI k), (2, vI n)]) (by decide) rfl dX0_fourth_32 ?_
  refine TT_iload hK 1 rfl dX0_fourth_34 ?_
  refine TT_iload hK 0 rfl dX0_fourth_36 ?_
  refine TT_iadd hK dX0_fourth_38 ?_
  refine TT_iconst hK dX0_fourth_39 ?_
  refine TT_iadd hK dX0_fourth_40 ?_
  refine TT_w32 (fun x41_3 hx3 => ?_)
  refine TT_iconst hK dX0_fourth_41 ?_
  refine TT_ishr hK (irm (by omega) (by omega)) (by omega) (by omega) dX0_fourth_42 ?_
  refine TT_cgI (b := x41_3 / 4) rfl ?_
  refine TT_iret hK hQ ?_ dX0_fourth_43
  exact ⟨⟨hT, hF⟩, (x41_3 / 4), rfl, (by omega)⟩
set_option maxRecDepth 20000 in
theorem s_joinLine_45_8 (a n : Int) (h : Hp_) (hT : TY h) (ha : 0 ≤ a ∧ a ≤ 7) (hn : 0 ≤ n ∧ n ≤ 8) : Ctr yX0_joinLine cX0_joinLine 7 none (rmd 2) ly ly 0 0 [vR 45, vI a, vI 8, vI n] h (fun r h' => (TY h' ∧ FR [46, 51, 52] h h') ∧ r = none) := by
  refine Ctr_of (by decide) (Nat.le_of_ble_eq_true rfl) ⟨Nat.le_refl _, Nat.le_refl _⟩ (fun K hK hQ _ => ?_)
  show TT K ly 0 0 0 [(0, vR 45), (1, vI a), (2, vI 8), (3, vI n)] [] h
  have hF : FR [46, 51, 52] h h := FR_rf _ _
  refine TT_iload_n hK rfl 3 rfl dX0_joinLine_0 ?_
  refine TT_iconst hK dX0_joinLine_1 ?_
  refine TT_icmp_ge hK (tgt := 6) (irm (by omega) (by omega)) (by decide) dX0_joinLine_2 (by decide) (fun hb2_1 => ?_) (fun hb2_1 => ?_)
  · refine TT_aload_n hK rfl 0 rfl dX0_joinLine_6 ?_
    refine TT_iload_n hK rfl 1 rfl dX0_joinLine_7 ?_
    refine TT_iload_n hK rfl 2 rfl dX0_joinLine_8 ?_
    refine TT_iload_n hK rfl 3 rfl dX0_joinLine_9 ?_
    refine iv_X0_90 hK (s_readLine_45_8 a n h hT (by first | omega | (simp [up, setR] <;> omega)) (by first | omega | (simp [up, setR] <;> omega))) (by decide) rfl ⟨by decide, by decide⟩ (by decide) rfl rfl (Nat.le_of_ble_eq_true rfl) ⟨by decide, by decide⟩ dX0_joinLine_10 ?_
    intro r9 g10_2 hp9
    obtain ⟨⟨hT_2, hG_2⟩, hr9⟩ := hp9
    rw [hr9]
    have hF_2 : FR [46, 51, 52] h g10_2 := FR_tr hF hG_2 (by decide)
    show TT K ly 0 0 13 [(0, vR 45), (1, vI a), (2, vI 8), (3, vI n)] [] g10_2
    refine TT_iload_n hK rfl 3 rfl dX0_joinLine_13 ?_
    refine TT_iconst hK dX0_joinLine_14 ?_
    refine TT_iadd hK dX0_joinLine_15 ?_
    refine TT_iconst hK dX0_joinLine_16 ?_
    refine TT_idivn hK (irm (by omega) (by omega)) (by decide) (by first | omega | (simp [up, setR] <;> omega)) (by first | omega | (simp [up, setR] <;> omega)) dX0_joinLine_17 ?_
    refine TT_istore hK (lv' := [(4, vI ((n + 1) / 2)), (0, vR 45), (1, vI a), (2, vI 8), (3, vI n)]) (by decide) rfl dX0_joinLine_18 ?_
    refine TT_iconst hK dX0_joinLine_20 ?_
    refine TT_istore hK (lv' := [(5, vI 0), (4, vI ((n + 1) / 2)), (0, vR 45), (1, vI a), (2, vI 8), (3, vI n)]) (by decide) rfl dX0_joinLine_21 ?_
    have L23_3 : ∀ (k3 : Nat) (k : Int) (w23_3 : Hp_), TY w23_3 → FR [46, 51, 52] h w23_3 → (0 ≤ k ∧ k ≤ 8) → ((8 : Int) - k).toNat < k3 → TT K ly 0 0 23 [(0, vR 45), (1, vI a), (2, vI 8), (3, vI n), (4, vI ((n + 1) / 2)), (5, vI k)] [] w23_3 := by
      intro k3
      induction k3 with
      | zero => intro k w23_3 hT23_3 hF23_3 hk hk3; exact absurd hk3 (Nat.not_lt_zero _)
      | succ k3 ih3 =>
        intro k w23_3 hT23_3 hF23_3 hk hk3
        refine TT_iload hK 5 rfl dX0_joinLine_23 ?_
        refine TT_iload hK 4 rfl dX0_joinLine_25 ?_
        refine TT_icmp_ge hK (tgt := 63) (irm (by omega) (by omega)) (irm (by omega) (by omega)) dX0_joinLine_27 (by decide) (fun hb27_4 => ?_) (fun hb27_4 => ?_)
        · refine TT_iconst hK dX0_joinLine_63 ?_
          refine TT_istore hK (lv' := [(5, vI 0), (0, vR 45), (1, vI a), (2, vI 8), (3, vI n), (4, vI ((n + 1) / 2))]) (by decide) rfl dX0_joinLine_64 ?_
          have L66_5 : ∀ (k5 : Nat) (k : Int) (w66_5 : Hp_), TY w66_5 → FR [46, 51, 52] h w66_5 → (0 ≤ k ∧ k ≤ 8) → ((8 : Int) - k).toNat < k5 → TT K ly 0 0 66 [(0, vR 45), (1, vI a), (2, vI 8), (3, vI n), (4, vI ((n + 1) / 2)), (5, vI k)] [] w66_5 := by
            intro k5
            induction k5 with
            | zero => intro k w66_5 hT66_5 hF66_5 hk hk5; exact absurd hk5 (Nat.not_lt_zero _)
            | succ k5 ih5 =>
              intro k w66_5 hT66_5 hF66_5 hk hk5
              refine TT_iload hK 5 rfl dX0_joinLine_66 ?_
              refine TT_iload_n hK rfl 3 rfl dX0_joinLine_68 ?_
              refine TT_iconst hK dX0_joinLine_69 ?_
              refine TT_idivn hK (irm (by omega) (by omega)) (by decide) (by first | omega | (simp [up, setR] <;> omega)) (by first | omega | (simp [up, setR] <;> omega)) dX0_joinLine_70 ?_
              refine TT_icmp_ge hK (tgt := 151) (irm (by omega) (by omega)) (irm (by omega) (by omega)) dX0_joinLine_71 (by decide) (fun hb71_6 => ?_) (fun hb71_6 => ?_)
              · refine TT_aload_n hK rfl 0 rfl dX0_joinLine_151 ?_
                refine TT_iload_n hK rfl 1 rfl dX0_joinLine_152 ?_
                refine TT_iload_n hK rfl 2 rfl dX0_joinLine_153 ?_
                refine TT_iload_n hK rfl 3 rfl dX0_joinLine_154 ?_
                refine iv_X0_97 hK (s_writeLine_45_8 a n w66_5 hT66_5 (by first | omega | (simp [up, setR] <;> omega)) (by first | omega | (simp [up, setR] <;> omega))) (by decide) rfl ⟨by decide, by decide⟩ (by decide) rfl rfl (Nat.le_of_ble_eq_true rfl) ⟨by decide, by decide⟩ dX0_joinLine_155 ?_
                intro r9 g155_7 hp9
                obtain ⟨⟨hT_7, hG_7⟩, hr9⟩ := hp9
                rw [hr9]
                have hF_7 : FR [46, 51, 52] h g155_7 := FR_tr hF66_5 hG_7 (by decide)
                show TT K ly 0 0 158 [(0, vR 45), (1, vI a), (2, vI 8), (3, vI n), (4, vI ((n + 1) / 2)), (5, vI k)] [] g155_7
                refine TT_vret hK hQ ?_ dX0_joinLine_158
                exact ⟨⟨hT_7, hF_7⟩, rfl⟩
              · refine TT_iconst hK dX0_joinLine_74 ?_
                refine TT_iload hK 5 rfl dX0_joinLine_75 ?_
                refine TT_imul hK dX0_joinLine_77 ?_
                refine TT_iconst hK dX0_joinLine_78 ?_
                refine TT_iadd hK dX0_joinLine_79 ?_
                refine TT_iload_n hK rfl 3 rfl dX0_joinLine_80 ?_
                refine TT_icmp_ge hK (tgt := 98) (irm (by omega) (by omega)) (irm (by omega) (by omega)) dX0_joinLine_81 (by decide) (fun hb81_8 => ?_) (fun hb81_8 => ?_)
                · refine TT_aload_n hK rfl 0 rfl dX0_joinLine_98 ?_
                  refine gf_X0_30 hK (by decide) rfl (q := 52) rfl rfl dX0_joinLine_99 ?_
                  refine TT_iconst hK dX0_joinLine_102 ?_
                  refine TT_iload hK 5 rfl dX0_joinLine_103 ?_
                  refine TT_imul hK dX0_joinLine_105 ?_
                  refine TT_iald hK (o := 52) (n := 8) (by decide) rfl (by first | omega | (simp [up, setR] <;> omega)) (by first | omega | (simp [up, setR] <;> omega)) (v := (w66_5 52) (2 * k)) rfl dX0_joinLine_106 ?_
                  have r9 := ty_52 (i := 2 * k) (v := (w66_5 52) (2 * k)) hT66_5 rfl (by omega) (by omega)
                  refine TT_istore hK (lv' := [(6, vI ((w66_5 52) (2 * k))), (0, vR 45), (1, vI a), (2, vI 8), (3, vI n), (4, vI ((n + 1) / 2)), (5, vI k)]) (by decide) rfl dX0_joinLine_107 ?_
                  refine TT_aload_n hK rfl 1 rfl dX0_joinLine_109 ?_
                  refine gf_X0_30 hK (by decide) rfl (q := 52) rfl rfl dX0_joinLine_110 ?_
                  refine TT_iconst hK dX0_joinLine_113 ?_
                  refine TT_iload hK 6 rfl dX0_joinLine_114 ?_
                  refine TT_imul hK dX0_joinLine_116 ?_
                  refine TT_iconst hK dX0_joinLine_117 ?_
                  refine TT_iadd hK dX0_joinLine_118 ?_
                  refine TT_aload_n hK rfl 1 rfl dX0_joinLine_119 ?_
                  refine gf_X0_27 hK (by decide) rfl (q := 51) rfl rfl dX0_joinLine_120 ?_
                  refine TT_iload hK 5 rfl dX0_joinLine_123 ?_
                  refine TT_iload hK 6 rfl dX0_joinLine_125 ?_
                  refine TT_iadd hK dX0_joinLine_127 ?_
                  refine TT_iald hK (o := 51) (n := 8) (by decide) rfl (by first | omega | (simp [up, setR] <;> omega)) (by first | omega | (simp [up, setR] <;> omega)) (v := (w66_5 51) (((n + 1) / 2) + k)) rfl dX0_joinLine_128 ?_
                  have r10 := ty_51 (i := ((n + 1) / 2) + k) (v := (w66_5 51) (((n + 1) / 2) + k)) hT66_5 rfl (by omega) (by omega)
                  refine TT_aload_n hK rfl 1 rfl dX0_joinLine_129 ?_
                  refine gf_X0_30 hK (by decide) rfl (q := 52) rfl rfl dX0_joinLine_130 ?_
                  refine TT_iconst hK dX0_joinLine_133 ?_
                  refine TT_iload hK 6 rfl dX0_joinLine_134 ?_
                  refine TT_imul hK dX0_joinLine_136 ?_
                  refine TT_iald hK (o := 52) (n := 8) (by decide) rfl (by first | omega | (simp [up, setR] <;> omega)) (by first | omega | (simp [up, setR] <;> omega)) (v := (w66_5 52) (2 * k)) rfl dX0_joinLine_137 ?_
                  refine TT_iload hK 0 rfl dX0_joinLine_138 ?_
                  refine TT_iadd hK dX0_joinLine_140 ?_
                  refine TT_w32 (fun x141_11 hx11 => ?_)
                  refine TT_iconst hK dX0_joinLine_141 ?_
                  refine TT_ishr hK (irm (by omega) (by omega)) (by omega) (by omega) dX0_joinLine_142 ?_
                  refine TT_cgI (b := x141_11 / 2) rfl ?_
                  refine TT_iadd hK dX0_joinLine_143 ?_
                  refine TT_w32 (fun x144_12 hx12 => ?_)
                  refine TT_iast hK (o := 52) (n := 8) (by decide) rfl (by omega) (by omega) dX0_joinLine_144 ?_
                  refine TT_hp (h' := setO w66_5 52 (fup (w66_5 52) ((2 * k) + 1) x144_12)) (up_can rfl rfl rfl) ?_
                  have hT_13 : TY (setO w66_5 52 (fup (w66_5 52) ((2 * k) + 1) x144_12)) := tu_52 hT66_5 (show up w66_5 52 ((2 * k) + 1) x144_12 = (setO w66_5 52 (fup (w66_5 52) ((2 * k) + 1) x144_12)) from up_can rfl rfl rfl) (by omega)
                  have hF_13 : FR [46, 51, 52] h (setO w66_5 52 (fup (w66_5 52) ((2 * k) + 1) x144_12)) := FR_up (show up w66_5 52 ((2 * k) + 1) x144_12 = (setO w66_5 52 (fup (w66_5 52) ((2 * k) + 1) x144_12)) from up_can rfl rfl rfl) hF66_5 (by decide)
                  refine TT_iinc hK (v := k + 1) (lv' := [(5, vI (k + 1)), (6, vI ((w66_5 52) (2 * k))), (0, vR 45), (1, vI a), (2, vI 8), (3, vI n), (4, vI ((n + 1) / 2))]) 6 rfl rfl (by decide) rfl dX0_joinLine_145 ?_
                  refine TT_goto hK (tgt := 66) dX0_joinLine_148 (by decide) ?_
                  refine TT_sub [2, 3, 4, 5, 6, 0] rfl ?_
                  exact ih5 (k + 1) (setO w66_5 52 (fup (w66_5 52) ((2 * k) + 1) x144_12)) hT_13 hF_13 (by first | omega | (simp [up, setR] <;> omega)) (by first | omega | (simp [up, setR] <;> omega))
                · refine TT_aload_n hK rfl 0 rfl dX0_joinLine_84 ?_
                  refine gf_X0_30 hK (by decide) rfl (q := 52) rfl rfl dX0_joinLine_85 ?_
                  refine TT_iconst hK dX0_joinLine_88 ?_
                  refine TT_iload hK 5 rfl dX0_joinLine_89 ?_
                  refine TT_imul hK dX0_joinLine_91 ?_
                  refine TT_iconst hK dX0_joinLine_92 ?_
                  refine TT_iadd hK dX0_joinLine_93 ?_
                  refine TT_iald hK (o := 52) (n := 8) (by decide) rfl (by first | omega | (simp [up, setR] <;> omega)) (by first | omega | (simp [up, setR] <;> omega)) (v := (w66_5 52) ((2 * k) + 2)) rfl dX0_joinLine_94 ?_
                  have r14 := ty_52 (i := (2 * k) + 2) (v := (w66_5 52) ((2 * k) + 2)) hT66_5 rfl (by omega) (by omega)
                  refine TT_goto hK (tgt := 107) dX0_joinLine_95 (by decide) ?_
                  refine TT_istore hK (lv' := [(6, vI ((w66_5 52) ((2 * k) + 2))), (0, vR 45), (1, vI a), (2, vI 8), (3, vI n), (4, vI ((n + 1) / 2)), (5, vI k)]) (by decide) rfl dX0_joinLine_107 ?_
                  refine TT_aload_n hK rfl 1 rfl dX0_joinLine_109 ?_
                  refine gf_X0_30 hK (by decide) rfl (q := 52) rfl rfl dX0_joinLine_110 ?_
                  refine TT_iconst hK dX0_joinLine_113 ?_
                  refine TT_iload hK 6 rfl dX0_joinLine_114 ?_
                  refine TT_imul hK dX0_joinLine_116 ?_
                  refine TT_iconst hK dX0_joinLine_117 ?_
                  refine TT_iadd hK dX0_joinLine_118 ?_
                  refine TT_aload_n hK rfl 1 rfl dX0_joinLine_119 ?_
                  refine gf_X0_27 hK (by decide) rfl (q := 51) rfl rfl dX0_joinLine_120 ?_
                  refine TT_iload hK 5 rfl dX0_joinLine_123 ?_
                  refine TT_iload hK 6 rfl dX0_joinLine_125 ?_
                  refine TT_iadd hK dX0_joinLine_127 ?_
                  refine TT_iald hK (o := 51) (n := 8) (by decide) rfl (by first | omega | (simp [up, setR] <;> omega)) (by first | omega | (simp [up, setR] <;> omega)) (v := (w66_5 51) (((n + 1) / 2) + k)) rfl dX0_joinLine_128 ?_
                  have r15 := ty_51 (i := ((n + 1) / 2) + k) (v := (w66_5 51) (((n + 1) / 2) + k)) hT66_5 rfl (by omega) (by omega)
                  refine TT_aload_n hK rfl 1 rfl dX0_joinLine_129 ?_
                  refine gf_X0_30 hK (by decide) rfl (q := 52) rfl rfl dX0_joinLine_130 ?_
                  refine TT_iconst hK dX0_joinLine_133 ?_
                  refine TT_iload hK 6 rfl dX0_joinLine_134 ?_
                  refine TT_imul hK dX0_joinLine_136 ?_
                  refine TT_iald hK (o := 52) (n := 8) (by decide) rfl (by first | omega | (simp [up, setR] <;> omega)) (by first | omega | (simp [up, setR] <;> omega)) (v := (w66_5 52) (2 * k)) rfl dX0_joinLine_137 ?_
                  have r16 := ty_52 (i := 2 * k) (v := (w66_5 52) (2 * k)) hT66_5 rfl (by omega) (by omega)
                  refine TT_iload hK 0 rfl dX0_joinLine_138 ?_
                  refine TT_iadd hK dX0_joinLine_140 ?_
                  refine TT_w32 (fun x141_17 hx17 => ?_)
                  refine TT_iconst hK dX0_joinLine_141 ?_
                  refine TT_ishr hK (irm (by omega) (by omega)) (by omega) (by omega) dX0_joinLine_142 ?_
                  refine TT_cgI (b := x141_17 / 2) rfl ?_
                  refine TT_iadd hK dX0_joinLine_143 ?_
                  refine TT_w32 (fun x144_18 hx18 => ?_)
                  refine TT_iast hK (o := 52) (n := 8) (by decide) rfl (by omega) (by omega) dX0_joinLine_144 ?_
                  refine TT_hp (h' := setO w66_5 52 (fup (w66_5 52) ((2 * k) + 1) x144_18)) (up_can rfl rfl rfl) ?_
                  have hT_19 : TY (setO w66_5 52 (fup (w66_5 52) ((2 * k) + 1) x144_18)) := tu_52 hT66_5 (show up w66_5 52 ((2 * k) + 1) x144_18 = (setO w66_5 52 (fup (w66_5 52) ((2 * k) + 1) x144_18)) from up_can rfl rfl rfl) (by omega)
                  have hF_19 : FR [46, 51, 52] h (setO w66_5 52 (fup (w66_5 52) ((2 * k) + 1) x144_18)) := FR_up (show up w66_5 52 ((2 * k) + 1) x144_18 = (setO w66_5 52 (fup (w66_5 52) ((2 * k) + 1) x144_18)) from up_can rfl rfl rfl) hF66_5 (by decide)
                  refine TT_iinc hK (v := k + 1) (lv' := [(5, vI (k + 1)), (6, vI ((w66_5 52) ((2 * k) + 2))), (0, vR 45), (1, vI a), (2, vI 8), (3, vI n), (4, vI ((n + 1) / 2))]) 6 rfl rfl (by decide) rfl dX0_joinLine_145 ?_
                  refine TT_goto hK (tgt := 66) dX0_joinLine_148 (by decide) ?_
                  refine TT_sub [2, 3, 4, 5, 6, 0] rfl ?_
                  exact ih5 (k + 1) (setO w66_5 52 (fup (w66_5 52) ((2 * k) + 1) x144_18)) hT_19 hF_19 (by first | omega | (simp [up, setR] <;> omega)) (by first | omega | (simp [up, setR] <;> omega))
          refine TT_sub [1, 2, 3, 4, 5, 0] rfl ?_
          exact L66_5 ((((8 : Int) - 0).toNat) + 1) 0 w23_3 hT23_3 hF23_3 (by first | omega | (simp [up, setR] <;> omega)) (Nat.lt_succ_self _)
        · refine TT_aload_n hK rfl 0 rfl dX0_joinLine_30 ?_
          refine gf_X0_30 hK (by decide) rfl (q := 52) rfl rfl dX0_joinLine_31 ?_
          refine TT_iconst hK dX0_joinLine_34 ?_
          refine TT_iload hK 5 rfl dX0_joinLine_35 ?_
          refine TT_imul hK dX0_joinLine_37 ?_
          refine TT_aload_n hK rfl 0 rfl dX0_joinLine_38 ?_
          refine gf_X0_27 hK (by decide) rfl (q := 51) rfl rfl dX0_joinLine_39 ?_
          refine TT_iload hK 5 rfl dX0_joinLine_42 ?_
          refine TT_iald hK (o := 51) (n := 8) (by decide) rfl (by first | omega | (simp [up, setR] <;> omega)) (by first | omega | (simp [up, setR] <;> omega)) (v := (w23_3 51) k) rfl dX0_joinLine_44 ?_
          have r20 := ty_51 (i := k) (v := (w23_3 51) k) hT23_3 rfl (by omega) (by omega)
          refine TT_aload_n hK rfl 0 rfl dX0_joinLine_45 ?_
          refine gf_X0_27 hK (by decide) rfl (q := 51) rfl rfl dX0_joinLine_46 ?_
          refine TT_iload hK 5 rfl dX0_joinLine_49 ?_
          refine TT_iload_n hK rfl 3 rfl dX0_joinLine_51 ?_
          refine iv_X0_93 hK (s_fourth_51 k n w23_3 hT23_3 (by first | omega | (simp [up, setR] <;> omega)) (by first | omega | (simp [up, setR] <;> omega))) ⟨by decide, by decide⟩ (by decide) rfl rfl (Nat.le_of_ble_eq_true rfl) ⟨by decide, by decide⟩ dX0_joinLine_52 ?_
          intro r9 g52_21 hp9
          obtain ⟨⟨hT_21, hG_21⟩, z52_21, hr9, hz_21⟩ := hp9
          rw [hr9]
          have hF_21 : FR [46, 51, 52] h g52_21 := FR_tr hF23_3 hG_21 (by decide)
          show TT K ly 0 0 55 [(0, vR 45), (1, vI a), (2, vI 8), (3, vI n), (4, vI ((n + 1) / 2)), (5, vI k)] [vI z52_21, vI ((w23_3 51) k), vI (2 * k), vR 52] g52_21
          refine TT_isub hK dX0_joinLine_55 ?_
          refine TT_w32 (fun x56_22 hx22 => ?_)
          refine TT_iast hK (o := 52) (n := 8) (by decide) rfl (by omega) (by omega) dX0_joinLine_56 ?_
          refine TT_hp (h' := setO g52_21 52 (fup (w23_3 52) (2 * k) x56_22)) (up_can (hG_21 52 (by decide)) rfl rfl) ?_
          have hT_23 : TY (setO g52_21 52 (fup (w23_3 52) (2 * k) x56_22)) := tu_52 hT_21 (show up g52_21 52 (2 * k) x56_22 = (setO g52_21 52 (fup (w23_3 52) (2 * k) x56_22)) from up_can (hG_21 52 (by decide)) rfl rfl) (by omega)
          have hF_23 : FR [46, 51, 52] h (setO g52_21 52 (fup (w23_3 52) (2 * k) x56_22)) := FR_up (show up g52_21 52 (2 * k) x56_22 = (setO g52_21 52 (fup (w23_3 52) (2 * k) x56_22)) from up_can (hG_21 52 (by decide)) rfl rfl) hF_21 (by decide)
          refine TT_iinc hK (v := k + 1) (lv' := [(5, vI (k + 1)), (0, vR 45), (1, vI a), (2, vI 8), (3, vI n), (4, vI ((n + 1) / 2))]) 5 rfl rfl (by decide) rfl dX0_joinLine_57 ?_
          refine TT_goto hK (tgt := 23) dX0_joinLine_60 (by decide) ?_
          refine TT_sub [1, 2, 3, 4, 5, 0] rfl ?_
          exact ih3 (k + 1) (setO g52_21 52 (fup (w23_3 52) (2 * k) x56_22)) hT_23 hF_23 (by first | omega | (simp [up, setR] <;> omega)) (by first | omega | (simp [up, setR] <;> omega))
    refine TT_sub [2, 3, 4, 5, 1, 0] rfl ?_
    exact L23_3 ((((8 : Int) - 0).toNat) + 1) 0 g10_2 hT_2 hF_2 (by first | omega | (simp [up, setR] <;> omega)) (Nat.lt_succ_self _)
  · refine TT_vret hK hQ ?_ dX0_joinLine_5
    exact ⟨⟨hT, hF⟩, rfl⟩
set_option maxRecDepth 20000 in
theorem s_joinLine_45_1 (a n : Int) (h : Hp_) (hT : TY h) (ha : 0 ≤ a ∧ a ≤ 56) (hn : 0 ≤ n ∧ n ≤ 8) : Ctr yX0_joinLine cX0_joinLine 7 none (rmd 2) ly ly 0 0 [vR 45, vI a, vI 1, vI n] h (fun r h' => (TY h' ∧ FR [46, 51, 52] h h') ∧ r = none) := by
  refine Ctr_of (by decide) (Nat.le_of_ble_eq_true rfl) ⟨Nat.le_refl _, Nat.le_refl _⟩ (fun K hK hQ _ => ?_)
  show TT K ly 0 0 0 [(0, vR 45), (1, vI a), (2, vI 1), (3, vI n)] [] h
  have hF : FR [46, 51, 52] h h := FR_rf _ _
  refine TT_iload_n hK rfl 3 rfl dX0_joinLine_0 ?_
  refine TT_iconst hK dX0_joinLine_1 ?_
  refine TT_icmp_ge hK (tgt := 6) (irm (by omega) (by omega)) (by decide) dX0_joinLine_2 (by decide) (fun hb2_1 => ?_) (fun hb2_1 => ?_)
  · refine TT_aload_n hK rfl 0 rfl dX0_joinLine_6 ?_
    refine TT_iload_n hK rfl 1 rfl dX0_joinLine_7 ?_
    refine TT_iload_n hK rfl 2 rfl dX0_joinLine_8 ?_
    refine TT_iload_n hK rfl 3 rfl dX0_joinLine_9 ?_
    refine iv_X0_90 hK (s_readLine_45_1 a n h hT (by first | omega | (simp [up, setR] <;> omega)) (by first | omega | (simp [up, setR] <;> omega))) (by decide) rfl ⟨by decide, by decide⟩ (by decide) rfl rfl (Nat.le_of_ble_eq_true rfl) ⟨by decide, by decide⟩ dX0_joinLine_10 ?_
    intro r9 g10_2 hp9
    obtain ⟨⟨hT_2, hG_2⟩, hr9⟩ := hp9
    rw [hr9]
    have hF_2 : FR [46, 51, 52] h g10_2 := FR_tr hF hG_2 (by decide)
    show TT K ly 0 0 13 [(0, vR 45), (1, vI a), (2, vI 1), (3, vI n)] [] g10_2
    refine TT_iload_n hK rfl 3 rfl dX0_joinLine_13 ?_
    refine TT_iconst hK dX0_joinLine_14 ?_
    refine TT_iadd hK dX0_joinLine_15 ?_
    refine TT_iconst hK dX0_joinLine_16 ?_
    refine TT_idivn hK (irm (by omega) (by omega)) (by decide) (by first | omega | (simp [up, setR] <;> omega)) (by first | omega | (simp [up, setR] <;> omega)) dX0_joinLine_17 ?_
    refine TT_istore hK (lv' := [(4, vI ((n + 1) / 2)), (0, vR 45), (1, vI a), (2, vI 1), (3, vI n)]) (by decide) rfl dX0_joinLine_18 ?_
    refine TT_iconst hK dX0_joinLine_20 ?_
    refine TT_istore hK (lv' := [(5, vI 0), (4, vI ((n + 1) / 2)), (0, vR 45), (1, vI a), (2, vI 1), (3, vI n)]) (by decide) rfl dX0_joinLine_21 ?_
    have L23_3 : ∀ (k3 : Nat) (k : Int) (w23_3 : Hp_), TY w23_3 → FR [46, 51, 52] h w23_3 → (0 ≤ k ∧ k ≤ 8) → ((8 : Int) - k).toNat < k3 → TT K ly 0 0 23 [(0, vR 45), (1, vI a), (2, vI 1), (3, vI n), (4, vI ((n + 1) / 2)), (5, vI k)] [] w23_3 := by
      intro k3
      induction k3 with
      | zero => intro k w23_3 hT23_3 hF23_3 hk hk3; exact absurd hk3 (Nat.not_lt_zero _)
      | succ k3 ih3 =>
        intro k w23_3 hT23_3 hF23_3 hk hk3
        refine TT_iload hK 5 rfl dX0_joinLine_23 ?_
        refine TT_iload hK 4 rfl dX0_joinLine_25 ?_
        refine TT_icmp_ge hK (tgt := 63) (irm (by omega) (by omega)) (irm (by omega) (by omega)) dX0_joinLine_27 (by decide) (fun hb27_4 => ?_) (fun hb27_4 => ?_)
        · refine TT_iconst hK dX0_joinLine_63 ?_
          refine TT_istore hK (lv' := [(5, vI 0), (0, vR 45), (1, vI a), (2, vI 1), (3, vI n), (4, vI ((n + 1) / 2))]) (by decide) rfl dX0_joinLine_64 ?_
          have L66_5 : ∀ (k5 : Nat) (k : Int) (w66_5 : Hp_), TY w66_5 → FR [46, 51, 52] h w66_5 → (0 ≤ k ∧ k ≤ 8) → ((8 : Int) - k).toNat < k5 → TT K ly 0 0 66 [(0, vR 45), (1, vI a), (2, vI 1), (3, vI n), (4, vI ((n + 1) / 2)), (5, vI k)] [] w66_5 := by
            intro k5
            induction k5 with
            | zero => intro k w66_5 hT66_5 hF66_5 hk hk5; exact absurd hk5 (Nat.not_lt_zero _)
            | succ k5 ih5 =>
              intro k w66_5 hT66_5 hF66_5 hk hk5
              refine TT_iload hK 5 rfl dX0_joinLine_66 ?_
              refine TT_iload_n hK rfl 3 rfl dX0_joinLine_68 ?_
              refine TT_iconst hK dX0_joinLine_69 ?_
              refine TT_idivn hK (irm (by omega) (by omega)) (by decide) (by first | omega | (simp [up, setR] <;> omega)) (by first | omega | (simp [up, setR] <;> omega)) dX0_joinLine_70 ?_
              refine TT_icmp_ge hK (tgt := 151) (irm (by omega) (by omega)) (irm (by omega) (by omega)) dX0_joinLine_71 (by decide) (fun hb71_6 => ?_) (fun hb71_6 => ?_)
              · refine TT_aload_n hK rfl 0 rfl dX0_joinLine_151 ?_
                refine TT_iload_n hK rfl 1 rfl dX0_joinLine_152 ?_
                refine TT_iload_n hK rfl 2 rfl dX0_joinLine_153 ?_
                refine TT_iload_n hK rfl 3 rfl dX0_joinLine_154 ?_
                refine iv_X0_97 hK (s_writeLine_45_1 a n w66_5 hT66_5 (by first | omega | (simp [up, setR] <;> omega)) (by first | omega | (simp [up, setR] <;> omega))) (by decide) rfl ⟨by decide, by decide⟩ (by decide) rfl rfl (Nat.le_of_ble_eq_true rfl) ⟨by decide, by decide⟩ dX0_joinLine_155 ?_
                intro r9 g155_7 hp9
                obtain ⟨⟨hT_7, hG_7⟩, hr9⟩ := hp9
                rw [hr9]
                have hF_7 : FR [46, 51, 52] h g155_7 := FR_tr hF66_5 hG_7 (by decide)
                show TT K ly 0 0 158 [(0, vR 45), (1, vI a), (2, vI 1), (3, vI n), (4, vI ((n + 1) / 2)), (5, vI k)] [] g155_7
                refine TT_vret hK hQ ?_ dX0_joinLine_158
                exact ⟨⟨hT_7, hF_7⟩, rfl⟩
              · refine TT_iconst hK dX0_joinLine_74 ?_
                refine TT_iload hK 5 rfl dX0_joinLine_75 ?_
                refine TT_imul hK dX0_joinLine_77 ?_
                refine TT_iconst hK dX0_joinLine_78 ?_
                refine TT_iadd hK dX0_joinLine_79 ?_
                refine TT_iload_n hK rfl 3 rfl dX0_joinLine_80 ?_
                refine TT_icmp_ge hK (tgt := 98) (irm (by omega) (by omega)) (irm (by omega) (by omega)) dX0_joinLine_81 (by decide) (fun hb81_8 => ?_) (fun hb81_8 => ?_)
                · refine TT_aload_n hK rfl 0 rfl dX0_joinLine_98 ?_
                  refine gf_X0_30 hK (by decide) rfl (q := 52) rfl rfl dX0_joinLine_99 ?_
                  refine TT_iconst hK dX0_joinLine_102 ?_
                  refine TT_iload hK 5 rfl dX0_joinLine_103 ?_
                  refine TT_imul hK dX0_joinLine_105 ?_
                  refine TT_iald hK (o := 52) (n := 8) (by decide) rfl (by first | omega | (simp [up, setR] <;> omega)) (by first | omega | (simp [up, setR] <;> omega)) (v := (w66_5 52) (2 * k)) rfl dX0_joinLine_106 ?_
                  have r9 := ty_52 (i := 2 * k) (v := (w66_5 52) (2 * k)) hT66_5 rfl (by omega) (by omega)
                  refine TT_istore hK (lv' := [(6, vI ((w66_5 52) (2 * k))), (0, vR 45), (1, vI a), (2, vI 1), (3, vI n), (4, vI ((n + 1) / 2)), (5, vI k)]) (by decide) rfl dX0_joinLine_107 ?_
                  refine TT_aload_n hK rfl 1 rfl dX0_joinLine_109 ?_
                  refine gf_X0_30 hK (by decide) rfl (q := 52) rfl rfl dX0_joinLine_110 ?_
                  refine TT_iconst hK dX0_joinLine_113 ?_
                  refine TT_iload hK 6 rfl dX0_joinLine_114 ?_
                  refine TT_imul hK dX0_joinLine_116 ?_
                  refine TT_iconst hK dX0_joinLine_117 ?_
                  refine TT_iadd hK dX0_joinLine_118 ?_
                  refine TT_aload_n hK rfl 1 rfl dX0_joinLine_119 ?_
                  refine gf_X0_27 hK (by decide) rfl (q := 51) rfl rfl dX0_joinLine_120 ?_
                  refine TT_iload hK 5 rfl dX0_joinLine_123 ?_
                  refine TT_iload hK 6 rfl dX0_joinLine_125 ?_
                  refine TT_iadd hK dX0_joinLine_127 ?_
                  refine TT_iald hK (o := 51) (n := 8) (by decide) rfl (by first | omega | (simp [up, setR] <;> omega)) (by first | omega | (simp [up, setR] <;> omega)) (v := (w66_5 51) (((n + 1) / 2) + k)) rfl dX0_joinLine_128 ?_
                  have r10 := ty_51 (i := ((n + 1) / 2) + k) (v := (w66_5 51) (((n + 1) / 2) + k)) hT66_5 rfl (by omega) (by omega)
                  refine TT_aload_n hK rfl 1 rfl dX0_joinLine_129 ?_
                  refine gf_X0_30 hK (by decide) rfl (q := 52) rfl rfl dX0_joinLine_130 ?_
                  refine TT_iconst hK dX0_joinLine_133 ?_
                  refine TT_iload hK 6 rfl dX0_joinLine_134 ?_
                  refine TT_imul hK dX0_joinLine_136 ?_
                  refine TT_iald hK (o := 52) (n := 8) (by decide) rfl (by first | omega | (simp [up, setR] <;> omega)) (by first | omega | (simp [up, setR] <;> omega)) (v := (w66_5 52) (2 * k)) rfl dX0_joinLine_137 ?_
                  refine TT_iload hK 0 rfl dX0_joinLine_138 ?_
                  refine TT_iadd hK dX0_joinLine_140 ?_
                  refine TT_w32 (fun x141_11 hx11 => ?_)
                  refine TT_iconst hK dX0_joinLine_141 ?_
                  refine TT_ishr hK (irm (by omega) (by omega)) (by omega) (by omega) dX0_joinLine_142 ?_
                  refine TT_cgI (b := x141_11 / 2) rfl ?_
                  refine TT_iadd hK dX0_joinLine_143 ?_
                  refine TT_w32 (fun x144_12 hx12 => ?_)
                  refine TT_iast hK (o := 52) (n := 8) (by decide) rfl (by omega) (by omega) dX0_joinLine_144 ?_
                  refine TT_hp (h' := setO w66_5 52 (fup (w66_5 52) ((2 * k) + 1) x144_12)) (up_can rfl rfl rfl) ?_
                  have hT_13 : TY (setO w66_5 52 (fup (w66_5 52) ((2 * k) + 1) x144_12)) := tu_52 hT66_5 (show up w66_5 52 ((2 * k) + 1) x144_12 = (setO w66_5 52 (fup (w66_5 52) ((2 * k) + 1) x144_12)) from up_can rfl rfl rfl) (by omega)
                  have hF_13 : FR [46, 51, 52] h (setO w66_5 52 (fup (w66_5 52) ((2 * k) + 1) x144_12)) := FR_up (show up w66_5 52 ((2 * k) + 1) x144_12 = (setO w66_5 52 (fup (w66_5 52) ((2 * k) + 1) x144_12)) from up_can rfl rfl rfl) hF66_5 (by decide)
                  refine TT_iinc hK (v := k + 1) (lv' := [(5, vI (k + 1)), (6, vI ((w66_5 52) (2 * k))), (0, vR 45), (1, vI a), (2, vI 1), (3, vI n), (4, vI ((n + 1) / 2))]) 6 rfl rfl (by decide) rfl dX0_joinLine_145 ?_
                  refine TT_goto hK (tgt := 66) dX0_joinLine_148 (by decide) ?_
                  refine TT_sub [2, 3, 4, 5, 6, 0] rfl ?_
                  exact ih5 (k + 1) (setO w66_5 52 (fup (w66_5 52) ((2 * k) + 1) x144_12)) hT_13 hF_13 (by first | omega | (simp [up, setR] <;> omega)) (by first | omega | (simp [up, setR] <;> omega))
                · refine TT_aload_n hK rfl 0 rfl dX0_joinLine_84 ?_
                  refine gf_X0_30 hK (by decide) rfl (q := 52) rfl rfl dX0_joinLine_85 ?_
                  refine TT_iconst hK dX0_joinLine_88 ?_
                  refine TT_iload hK 5 rfl dX0_joinLine_89 ?_
                  refine TT_imul hK dX0_joinLine_91 ?_
                  refine TT_iconst hK dX0_joinLine_92 ?_
                  refine TT_iadd hK dX0_joinLine_93 ?_
                  refine TT_iald hK (o := 52) (n := 8) (by decide) rfl (by first | omega | (simp [up, setR] <;> omega)) (by first | omega | (simp [up, setR] <;> omega)) (v := (w66_5 52) ((2 * k) + 2)) rfl dX0_joinLine_94 ?_
                  have r14 := ty_52 (i := (2 * k) + 2) (v := (w66_5 52) ((2 * k) + 2)) hT66_5 rfl (by omega) (by omega)
                  refine TT_goto hK (tgt := 107) dX0_joinLine_95 (by decide) ?_
                  refine TT_istore hK (lv' := [(6, vI ((w66_5 52) ((2 * k) + 2))), (0, vR 45), (1, vI a), (2, vI 1), (3, vI n), (4, vI ((n + 1) / 2)), (5, vI k)]) (by decide) rfl dX0_joinLine_107 ?_
                  refine TT_aload_n hK rfl 1 rfl dX0_joinLine_109 ?_
                  refine gf_X0_30 hK (by decide) rfl (q := 52) rfl rfl dX0_joinLine_110 ?_
                  refine TT_iconst hK dX0_joinLine_113 ?_
                  refine TT_iload hK 6 rfl dX0_joinLine_114 ?_
                  refine TT_imul hK dX0_joinLine_116 ?_
                  refine TT_iconst hK dX0_joinLine_117 ?_
                  refine TT_iadd hK dX0_joinLine_118 ?_
                  refine TT_aload_n hK rfl 1 rfl dX0_joinLine_119 ?_
                  refine gf_X0_27 hK (by decide) rfl (q := 51) rfl rfl dX0_joinLine_120 ?_
                  refine TT_iload hK 5 rfl dX0_joinLine_123 ?_
                  refine TT_iload hK 6 rfl dX0_joinLine_125 ?_
                  refine TT_iadd hK dX0_joinLine_127 ?_
                  refine TT_iald hK (o := 51) (n := 8) (by decide) rfl (by first | omega | (simp [up, setR] <;> omega)) (by first | omega | (simp [up, setR] <;> omega)) (v := (w66_5 51) (((n + 1) / 2) + k)) rfl dX0_joinLine_128 ?_
                  have r15 := ty_51 (i := ((n + 1) / 2) + k) (v := (w66_5 51) (((n + 1) / 2) + k)) hT66_5 rfl (by omega) (by omega)
                  refine TT_aload_n hK rfl 1 rfl dX0_joinLine_129 ?_
                  refine gf_X0_30 hK (by decide) rfl (q := 52) rfl rfl dX0_joinLine_130 ?_
                  refine TT_iconst hK dX0_joinLine_133 ?_
                  refine TT_iload hK 6 rfl dX0_joinLine_134 ?_
                  refine TT_imul hK dX0_joinLine_136 ?_
                  refine TT_iald hK (o := 52) (n := 8) (by decide) rfl (by first | omega | (simp [up, setR] <;> omega)) (by first | omega | (simp [up, setR] <;> omega)) (v := (w66_5 52) (2 * k)) rfl dX0_joinLine_137 ?_
                  have r16 := ty_52 (i := 2 * k) (v := (w66_5 52) (2 * k)) hT66_5 rfl (by omega) (by omega)
                  refine TT_iload hK 0 rfl dX0_joinLine_138 ?_
                  refine TT_iadd hK dX0_joinLine_140 ?_
                  refine TT_w32 (fun x141_17 hx17 => ?_)
                  refine TT_iconst hK dX0_joinLine_141 ?_
                  refine TT_ishr hK (irm (by omega) (by omega)) (by omega) (by omega) dX0_joinLine_142 ?_
                  refine TT_cgI (b := x141_17 / 2) rfl ?_
                  refine TT_iadd hK dX0_joinLine_143 ?_
                  refine TT_w32 (fun x144_18 hx18 => ?_)
                  refine TT_iast hK (o := 52) (n := 8) (by decide) rfl (by omega) (by omega) dX0_joinLine_144 ?_
                  refine TT_hp (h' := setO w66_5 52 (fup (w66_5 52) ((2 * k) + 1) x144_18)) (up_can rfl rfl rfl) ?_
                  have hT_19 : TY (setO w66_5 52 (fup (w66_5 52) ((2 * k) + 1) x144_18)) := tu_52 hT66_5 (show up w66_5 52 ((2 * k) + 1) x144_18 = (setO w66_5 52 (fup (w66_5 52) ((2 * k) + 1) x144_18)) from up_can rfl rfl rfl) (by omega)
                  have hF_19 : FR [46, 51, 52] h (setO w66_5 52 (fup (w66_5 52) ((2 * k) + 1) x144_18)) := FR_up (show up w66_5 52 ((2 * k) + 1) x144_18 = (setO w66_5 52 (fup (w66_5 52) ((2 * k) + 1) x144_18)) from up_can rfl rfl rfl) hF66_5 (by decide)
                  refine TT_iinc hK (v := k + 1) (lv' := [(5, vI (k + 1)), (6, vI ((w66_5 52) ((2 * k) + 2))), (0, vR 45), (1, vI a), (2, vI 1), (3, vI n), (4, vI ((n + 1) / 2))]) 6 rfl rfl (by decide) rfl dX0_joinLine_145 ?_
                  refine TT_goto hK (tgt := 66) dX0_joinLine_148 (by decide) ?_
                  refine TT_sub [2, 3, 4, 5, 6, 0] rfl ?_
                  exact ih5 (k + 1) (setO w66_5 52 (fup (w66_5 52) ((2 * k) + 1) x144_18)) hT_19 hF_19 (by first | omega | (simp [up, setR] <;> omega)) (by first | omega | (simp [up, setR] <;> omega))
          refine TT_sub [1, 2, 3, 4, 5, 0] rfl ?_
          exact L66_5 ((((8 : Int) - 0).toNat) + 1) 0 w23_3 hT23_3 hF23_3 (by first | omega | (simp [up, setR] <;> omega)) (Nat.lt_succ_self _)
        · refine TT_aload_n hK rfl 0 rfl dX0_joinLine_30 ?_
          refine gf_X0_30 hK (by decide) rfl (q := 52) rfl rfl dX0_joinLine_31 ?_
          refine TT_iconst hK dX0_joinLine_34 ?_
          refine TT_iload hK 5 rfl dX0_joinLine_35 ?_
          refine TT_imul hK dX0_joinLine_37 ?_
          refine TT_aload_n hK rfl 0 rfl dX0_joinLine_38 ?_
          refine gf_X0_27 hK (by decide) rfl (q := 51) rfl rfl dX0_joinLine_39 ?_
          refine TT_iload hK 5 rfl dX0_joinLine_42 ?_
          refine TT_iald hK (o := 51) (n := 8) (by decide) rfl (by first | omega | (simp [up, setR] <;> omega)) (by first | omega | (simp [up, setR] <;> omega)) (v := (w23_3 51) k) rfl dX0_joinLine_44 ?_
          have r20 := ty_51 (i := k) (v := (w23_3 51) k) hT23_3 rfl (by omega) (by omega)
          refine TT_aload_n hK rfl 0 rfl dX0_joinLine_45 ?_
          refine gf_X0_27 hK (by decide) rfl (q := 51) rfl rfl dX0_joinLine_46 ?_
          refine TT_iload hK 5 rfl dX0_joinLine_49 ?_
          refine TT_iload_n hK rfl 3 rfl dX0_joinLine_51 ?_
          refine iv_X0_93 hK (s_fourth_51 k n w23_3 hT23_3 (by first | omega | (simp [up, setR] <;> omega)) (by first | omega | (simp [up, setR] <;> omega))) ⟨by decide, by decide⟩ (by decide) rfl rfl (Nat.le_of_ble_eq_true rfl) ⟨by decide, by decide⟩ dX0_joinLine_52 ?_
          intro r9 g52_21 hp9
          obtain ⟨⟨hT_21, hG_21⟩, z52_21, hr9, hz_21⟩ := hp9
          rw [hr9]
          have hF_21 : FR [46, 51, 52] h g52_21 := FR_tr hF23_3 hG_21 (by decide)
          show TT K ly 0 0 55 [(0, vR 45), (1, vI a), (2, vI 1), (3, vI n), (4, vI ((n + 1) / 2)), (5, vI k)] [vI z52_21, vI ((w23_3 51) k), vI (2 * k), vR 52] g52_21
          refine TT_isub hK dX0_joinLine_55 ?_
          refine TT_w32 (fun x56_22 hx22 => ?_)
          refine TT_iast hK (o := 52) (n := 8) (by decide) rfl (by omega) (by omega) dX0_joinLine_56 ?_
          refine TT_hp (h' := setO g52_21 52 (fup (w23_3 52) (2 * k) x56_22)) (up_can (hG_21 52 (by decide)) rfl rfl) ?_
          have hT_23 : TY (setO g52_21 52 (fup (w23_3 52) (2 * k) x56_22)) := tu_52 hT_21 (show up g52_21 52 (2 * k) x56_22 = (setO g52_21 52 (fup (w23_3 52) (2 * k) x56_22)) from up_can (hG_21 52 (by decide)) rfl rfl) (by omega)
          have hF_23 : FR [46, 51, 52] h (setO g52_21 52 (fup (w23_3 52) (2 * k) x56_22)) := FR_up (show up g52_21 52 (2 * k) x56_22 = (setO g52_21 52 (fup (w23_3 52) (2 * k) x56_22)) from up_can (hG_21 52 (by decide)) rfl rfl) hF_21 (by decide)
          refine TT_iinc hK (v := k + 1) (lv' := [(5, vI (k + 1)), (0, vR 45), (1, vI a), (2, vI 1), (3, vI n), (4, vI ((n + 1) / 2))]) 5 rfl rfl (by decide) rfl dX0_joinLine_57 ?_
          refine TT_goto hK (tgt := 23) dX0_joinLine_60 (by decide) ?_
          refine TT_sub [1, 2, 3, 4, 5, 0] rfl ?_
          exact ih3 (k + 1) (setO g52_21 52 (fup (w23_3 52) (2 * k) x56_22)) hT_23 hF_23 (by first | omega | (simp [up, setR] <;> omega)) (by first | omega | (simp [up, setR] <;> omega))
    refine TT_sub [2, 3, 4, 5, 1, 0] rfl ?_
    exact L23_3 ((((8 : Int) - 0).toNat) + 1) 0 g10_2 hT_2 hF_2 (by first | omega | (simp [up, setR] <;> omega)) (Nat.lt_succ_self _)
  · refine TT_vret hK hQ ?_ dX0_joinLine_5
    exact ⟨⟨hT, hF⟩, rfl⟩
set_option maxRecDepth 20000 in
theorem s_X0_goBack_45 (h : Hp_) (hT : TY h)  : Ctr yX0_goBack cX0_goBack 5 none (rmd 3) ly ly 0 0 [vR 45] h (fun r h' => (TY h' ∧ FR [46, 51, 52] h h') ∧ r = none) := by
  refine Ctr_of (by decide) (Nat.le_of_ble_eq_true rfl) ⟨Nat.le_refl _, Nat.le_refl _⟩ (fun K hK hQ _ => ?_)
  show TT K ly 0 0 0 [(0, vR 45)] [] h
  have hF : FR [46, 51, 52] h h := FR_rf _ _
  refine TT_aload_n hK rfl 0 rfl dX0_goBack_0 ?_
  refine gf_X0_40 hK (by decide) rfl (v := (h 45) 9) rfl dX0_goBack_1 ?_
  have r1 := ty_45_9 (v := (h 45) 9) hT rfl
  refine TT_iconst hK dX0_goBack_4 ?_
  refine TT_isub hK dX0_goBack_5 ?_
  refine TT_istore_n hK rfl (lv' := [(1, vI (((h 45) 9) - 1)), (0, vR 45)]) (by decide) rfl dX0_goBack_6 ?_
  have L7_2 : ∀ (k2 : Nat) (l : Int) (w7_2 : Hp_), TY w7_2 → FR [46, 51, 52] h w7_2 → (-1 ≤ l ∧ l ≤ 2) → (l + 1).toNat < k2 → TT K ly 0 0 7 [(0, vR 45), (1, vI l)] [] w7_2 := by
    intro k2
    induction k2 with
    | zero => intro l w7_2 hT7_2 hF7_2 hl hk2; exact absurd hk2 (Nat.not_lt_zero _)
    | succ k2 ih2 =>
      intro l w7_2 hT7_2 hF7_2 hl hk2
      refine TT_iload_n hK rfl 1 rfl dX0_goBack_7 ?_
      refine TT_if_lt hK (tgt := 85) (irm (by omega) (by omega)) dX0_goBack_8 (by decide) (fun hb8_3 => ?_) (fun hb8_3 => ?_)
      · refine TT_vret hK hQ ?_ dX0_goBack_85
        exact ⟨⟨hT7_2, hF7_2⟩, rfl⟩
      · refine TT_aload_n hK rfl 0 rfl dX0_goBack_11 ?_
        refine gf_X0_33 hK (by decide) rfl (v := (h 45) 7) (rd_ (hF7_2 45 (by decide)) rfl) dX0_goBack_12 ?_
        have r4 := ty_45_7 (v := (h 45) 7) hT7_2 (rd_ (hF7_2 45 (by decide)) rfl)
        refine TT_iload_n hK rfl 1 rfl dX0_goBack_15 ?_
        refine iv_X0_46 hK (s_X0_sideAfter ((h 45) 7) l w7_2 hT7_2 (by first | omega | (simp [up, setR] <;> omega)) (by first | omega | (simp [up, setR] <;> omega))) ⟨by decide, by decide⟩ (by decide) rfl rfl (Nat.le_of_ble_eq_true rfl) ⟨by decide, by decide⟩ dX0_goBack_16 ?_
        intro r9 g16_5 hp9
        obtain ⟨⟨hT_5, hG_5⟩, z16_5, hr9, hz_5, p1_5⟩ := hp9
        rw [hr9]
        have hF_5 : FR [46, 51, 52] h g16_5 := FR_tr hF7_2 hG_5 (by decide)
        show TT K ly 0 0 19 [(0, vR 45), (1, vI l)] [vI z16_5] g16_5
        refine TT_istore_n hK rfl (lv' := [(2, vI z16_5), (0, vR 45), (1, vI l)]) (by decide) rfl dX0_goBack_19 ?_
        refine TT_aload_n hK rfl 1 rfl dX0_goBack_20 ?_
        refine gf_X0_37 hK (by decide) rfl (v := (h 45) 8) (rd_ (((hG_5 45 (by decide))).trans (hF7_2 45 (by decide))) rfl) dX0_goBack_21 ?_
        have r6 := ty_45_8 (v := (h 45) 8) hT_5 (rd_ (((hG_5 45 (by decide))).trans (hF7_2 45 (by decide))) rfl)
        refine TT_iload_n hK rfl 2 rfl dX0_goBack_24 ?_
        refine iv_X0_46 hK (s_X0_sideAfter ((h 45) 8) l g16_5 hT_5 (by first | omega | (simp [up, setR] <;> omega)) (by first | omega | (simp [up, setR] <;> omega))) ⟨by decide, by decide⟩ (by decide) rfl rfl (Nat.le_of_ble_eq_true rfl) ⟨by decide, by decide⟩ dX0_goBack_25 ?_
        intro r9 g25_7 hp9
        obtain ⟨⟨hT_7, hG_7⟩, z25_7, hr9, hz_7, p1_7⟩ := hp9
        rw [hr9]
        have hF_7 : FR [46, 51, 52] h g25_7 := FR_tr hF_5 hG_7 (by decide)
        show TT K ly 0 0 28 [(2, vI z16_5), (0, vR 45), (1, vI l)] [vI z25_7] g25_7
        refine TT_istore_n hK rfl (lv' := [(3, vI z25_7), (2, vI z16_5), (0, vR 45), (1, vI l)]) (by decide) rfl dX0_goBack_28 ?_
        refine TT_iconst hK dX0_goBack_29 ?_
        refine TT_istore hK (lv' := [(4, vI 0), (3, vI z25_7), (2, vI z16_5), (0, vR 45), (1, vI l)]) (by decide) rfl dX0_goBack_30 ?_
        have L32_8 : ∀ (k8 : Nat) (y : Int) (w32_8 : Hp_), TY w32_8 → FR [46, 51, 52] h w32_8 → (0 ≤ y ∧ y ≤ 8) → ((8 : Int) - y).toNat < k8 → TT K ly 0 0 32 [(0, vR 45), (1, vI l), (2, vI z16_5), (3, vI z25_7), (4, vI y)] [] w32_8 := by
          intro k8
          induction k8 with
          | zero => intro y w32_8 hT32_8 hF32_8 hy hk8; exact absurd hk8 (Nat.not_lt_zero _)
          | succ k8 ih8 =>
            intro y w32_8 hT32_8 hF32_8 hy hk8
            refine TT_iload hK 4 rfl dX0_goBack_32 ?_
            refine TT_iload_n hK rfl 3 rfl dX0_goBack_34 ?_
            refine TT_icmp_ge hK (tgt := 55) (irm (by omega) (by omega)) (irm (by omega) (by omega)) dX0_goBack_35 (by decide) (fun hb35_9 => ?_) (fun hb35_9 => ?_)
            · refine TT_iconst hK dX0_goBack_55 ?_
              refine TT_istore hK (lv' := [(4, vI 0), (0, vR 45), (1, vI l), (2, vI z16_5), (3, vI z25_7)]) (by decide) rfl dX0_goBack_56 ?_
              have L58_10 : ∀ (k10 : Nat) (x : Int) (w58_10 : Hp_), TY w58_10 → FR [46, 51, 52] h w58_10 → (0 ≤ x ∧ x ≤ 8) → ((8 : Int) - x).toNat < k10 → TT K ly 0 0 58 [(0, vR 45), (1, vI l), (2, vI z16_5), (3, vI z25_7), (4, vI x)] [] w58_10 := by
                intro k10
                induction k10 with
                | zero => intro x w58_10 hT58_10 hF58_10 hx hk10; exact absurd hk10 (Nat.not_lt_zero _)
                | succ k10 ih10 =>
                  intro x w58_10 hT58_10 hF58_10 hx hk10
                  refine TT_iload hK 4 rfl dX0_goBack_58 ?_
                  refine TT_iload_n hK rfl 2 rfl dX0_goBack_60 ?_
                  refine TT_icmp_ge hK (tgt := 79) (irm (by omega) (by omega)) (irm (by omega) (by omega)) dX0_goBack_61 (by decide) (fun hb61_11 => ?_) (fun hb61_11 => ?_)
                  · refine TT_iinc hK (v := l - 1) (lv' := [(1, vI (l - 1)), (0, vR 45), (2, vI z16_5), (3, vI z25_7), (4, vI x)]) 1 rfl (by omega) (by decide) rfl dX0_goBack_79 ?_
                    refine TT_goto hK (tgt := 7) dX0_goBack_82 (by decide) ?_
                    refine TT_sub [1, 0] rfl ?_
                    exact ih2 (l - 1) w58_10 hT58_10 hF58_10 (by first | omega | (simp [up, setR] <;> omega)) (by first | omega | (simp [up, setR] <;> omega))
                  · refine TT_aload_n hK rfl 0 rfl dX0_goBack_64 ?_
                    refine TT_iload hK 4 rfl dX0_goBack_65 ?_
                    refine TT_bipush hK (by decide) dX0_goBack_67 ?_
                    refine TT_iload_n hK rfl 3 rfl dX0_goBack_69 ?_
                    refine iv_X0_87 hK (s_joinLine_45_8 x z25_7 w58_10 hT58_10 (by first | omega | (simp [up, setR] <;> omega)) (by first | omega | (simp [up, setR] <;> omega))) (by decide) rfl ⟨by decide, by decide⟩ (by decide) rfl rfl (Nat.le_of_ble_eq_true rfl) ⟨by decide, by decide⟩ dX0_goBack_70 ?_
                    intro r9 g70_12 hp9
                    obtain ⟨⟨hT_12, hG_12⟩, hr9⟩ := hp9
                    rw [hr9]
                    have hF_12 : FR [46, 51, 52] h g70_12 := FR_tr hF58_10 hG_12 (by decide)
                    show TT K ly 0 0 73 [(0, vR 45), (1, vI l), (2, vI z16_5), (3, vI z25_7), (4, vI x)] [] g70_12
                    refine TT_iinc hK (v := x + 1) (lv' := [(4, vI (x + 1)), (0, vR 45), (1, vI l), (2, vI z16_5), (3, vI z25_7)]) 4 rfl rfl (by decide) rfl dX0_goBack_73 ?_
                    refine TT_goto hK (tgt := 58) dX0_goBack_76 (by decide) ?_
                    refine TT_sub [1, 2, 3, 4, 0] rfl ?_
                    exact ih10 (x + 1) g70_12 hT_12 hF_12 (by first | omega | (simp [up, setR] <;> omega)) (by first | omega | (simp [up, setR] <;> omega))
              refine TT_sub [1, 2, 3, 4, 0] rfl ?_
              exact L58_10 ((((8 : Int) - 0).toNat) + 1) 0 w32_8 hT32_8 hF32_8 (by first | omega | (simp [up, setR] <;> omega)) (Nat.lt_succ_self _)
            · refine TT_aload_n hK rfl 0 rfl dX0_goBack_38 ?_
              refine TT_iload hK 4 rfl dX0_goBack_39 ?_
              refine TT_bipush hK (by decide) dX0_goBack_41 ?_
              refine TT_imul hK dX0_goBack_43 ?_
              refine TT_iconst hK dX0_goBack_44 ?_
              refine TT_iload_n hK rfl 2 rfl dX0_goBack_45 ?_
              refine iv_X0_87 hK (s_joinLine_45_1 (y * 8) z16_5 w32_8 hT32_8 (by first | omega | (simp [up, setR] <;> omega)) (by first | omega | (simp [up, setR] <;> omega))) (by decide) rfl ⟨by decide, by decide⟩ (by decide) rfl rfl (Nat.le_of_ble_eq_true rfl) ⟨by decide, by decide⟩ dX0_goBack_46 ?_
              intro r9 g46_13 hp9
              obtain ⟨⟨hT_13, hG_13⟩, hr9⟩ := hp9
              rw [hr9]
              have hF_13 : FR [46, 51, 52] h g46_13 := FR_tr hF32_8 hG_13 (by decide)
              show TT K ly 0 0 49 [(0, vR 45), (1, vI l), (2, vI z16_5), (3, vI z25_7), (4, vI y)] [] g46_13
              refine TT_iinc hK (v := y + 1) (lv' := [(4, vI (y + 1)), (0, vR 45), (1, vI l), (2, vI z16_5), (3, vI z25_7)]) 4 rfl rfl (by decide) rfl dX0_goBack_49 ?_
              refine TT_goto hK (tgt := 32) dX0_goBack_52 (by decide) ?_
              refine TT_sub [1, 2, 3, 4, 0] rfl ?_
              exact ih8 (y + 1) g46_13 hT_13 hF_13 (by first | omega | (simp [up, setR] <;> omega)) (by first | omega | (simp [up, setR] <;> omega))
        refine TT_sub [3, 4, 2, 1, 0] rfl ?_
        exact L32_8 ((((8 : Int) - 0).toNat) + 1) 0 g25_7 hT_7 hF_7 (by first | omega | (simp [up, setR] <;> omega)) (Nat.lt_succ_self _)
  refine TT_sub [1, 0] rfl ?_
  exact L7_2 ((((((h 45) 9) - 1) + 1).toNat) + 1) (((h 45) 9) - 1) h hT hF (by first | omega | (simp [up, setR] <;> omega)) (Nat.lt_succ_self _)

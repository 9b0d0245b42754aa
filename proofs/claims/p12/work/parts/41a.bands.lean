set_option maxRecDepth 20000 in
theorem s_X0_sideAfter (n l : Int) (h : Hp_) (hT : TY h) (hn : 0 ≤ n ∧ n ≤ 8) (hl : 0 ≤ l ∧ l ≤ 3) : Ctr yX0_sideAfter cX0_sideAfter 2 (some .int) (rmd 0) ly ly 0 0 [vI n, vI l] h (fun r h' => (TY h' ∧ FR [] h h') ∧ ∃ z : Int, r = some (vI z) ∧ (0 ≤ z ∧ z ≤ 8) ∧ (SDA n l z)) := by
  refine Ctr_of (by decide) (Nat.le_of_ble_eq_true rfl) ⟨Nat.le_refl _, Nat.le_refl _⟩ (fun K hK hQ _ => ?_)
  show TT K ly 0 0 0 [(0, vI n), (1, vI l)] [] h
  have hF : FR [] h h := FR_rf _ _
  refine TT_iload_n hK rfl 0 rfl dX0_sideAfter_0 ?_
  refine TT_iconst hK dX0_sideAfter_1 ?_
  refine TT_iload_n hK rfl 1 rfl dX0_sideAfter_2 ?_
  refine TT_ishl hK (by omega) (by omega) dX0_sideAfter_3 ?_
  refine TT_nmI (fun p9 hp9 => ?_)
  refine TT_iadd hK dX0_sideAfter_4 ?_
  have k8 := sdP hl hp9
  refine TT_iconst hK dX0_sideAfter_5 ?_
  refine TT_isub hK dX0_sideAfter_6 ?_
  refine TT_iload_n hK rfl 1 rfl dX0_sideAfter_7 ?_
  refine TT_ishr hK (irm (by omega) (by omega)) (by omega) (by omega) dX0_sideAfter_8 ?_
  refine TT_nmI (fun z9 hz9 => ?_)
  refine TT_iret hK hQ ?_ dX0_sideAfter_9
  exact ⟨⟨hT, hF⟩, z9, rfl, (by have k9 := sdA hl hp9 hz9; omega), (by exact sdA hl hp9 hz9)⟩
set_option maxRecDepth 20000 in
theorem s_X0_hasBand_8 (b : Int) (h : Hp_) (hT : TY h) (hb : -2147483648 ≤ b ∧ b ≤ 2147483647) : Ctr yX0_hasBand cX0_hasBand 2 (some .boolean) (rmd 0) ly ly 0 0 [vR 8, vI b] h (fun r h' => (TY h' ∧ FR [] h h') ∧ ∃ z : Int, r = some (vI z) ∧ (0 ≤ z ∧ z ≤ 1) ∧ (z = 1 → 0 ≤ b ∧ b < 10)) := by
  refine Ctr_of (by decide) (Nat.le_of_ble_eq_true rfl) ⟨Nat.le_refl _, Nat.le_refl _⟩ (fun K hK hQ _ => ?_)
  show TT K ly 0 0 0 [(0, vR 8), (1, vI b)] [] h
  have hF : FR [] h h := FR_rf _ _
  refine TT_iload_n hK rfl 1 rfl dX0_hasBand_0 ?_
  refine TT_if_lt hK (tgt := 16) (irm (by omega) (by omega)) dX0_hasBand_1 (by decide) (fun hb1_1 => ?_) (fun hb1_1 => ?_)
  · refine TT_iconst hK dX0_hasBand_16 ?_
    refine TT_zret hK hQ (by decide) ?_ dX0_hasBand_17
    exact ⟨⟨hT, hF⟩, 0, rfl, (by omega), (by omega)⟩
  · refine TT_iload_n hK rfl 1 rfl dX0_hasBand_4 ?_
    refine TT_aload_n hK rfl 0 rfl dX0_hasBand_5 ?_
    refine gf_X0_43 hK (by decide) rfl (v := (h 8) 10) rfl dX0_hasBand_6 ?_
    have r2 := ty_8_10 (v := (h 8) 10) hT rfl
    refine TT_icmp_ge hK (tgt := 16) (irm (by omega) (by omega)) (irm (by omega) (by omega)) dX0_hasBand_9 (by decide) (fun hb9_3 => ?_) (fun hb9_3 => ?_)
    · refine TT_iconst hK dX0_hasBand_16 ?_
      refine TT_zret hK hQ (by decide) ?_ dX0_hasBand_17
      exact ⟨⟨hT, hF⟩, 0, rfl, (by omega), (by omega)⟩
    · refine TT_iconst hK dX0_hasBand_12 ?_
      refine TT_goto hK (tgt := 17) dX0_hasBand_13 (by decide) ?_
      refine TT_zret hK hQ (by decide) ?_ dX0_hasBand_17
      exact ⟨⟨hT, hF⟩, 1, rfl, (by omega), (by omega)⟩
set_option maxRecDepth 20000 in
theorem s_X0_isEmpty_8 (b : Int) (h : Hp_) (hT : TY h) (hb : 0 ≤ b ∧ b ≤ 9) : Ctr yX0_isEmpty cX0_isEmpty 2 (some .boolean) (rmd 0) ly ly 0 0 [vR 8, vI b] h (fun r h' => (TY h' ∧ FR [] h h') ∧ ∃ z : Int, r = some (vI z) ∧ (0 ≤ z ∧ z ≤ 1)) := by
  refine Ctr_of (by decide) (Nat.le_of_ble_eq_true rfl) ⟨Nat.le_refl _, Nat.le_refl _⟩ (fun K hK hQ _ => ?_)
  show TT K ly 0 0 0 [(0, vR 8), (1, vI b)] [] h
  have hF : FR [] h h := FR_rf _ _
  refine TT_aload_n hK rfl 0 rfl dX0_isEmpty_0 ?_
  refine gf_X0_21 hK (by decide) rfl (q := 12) rfl rfl dX0_isEmpty_1 ?_
  refine TT_iload_n hK rfl 1 rfl dX0_isEmpty_4 ?_
  refine TT_iald hK (o := 12) (n := 10) (by decide) rfl (by first | omega | (simp [up, setR] <;> omega)) (by first | omega | (simp [up, setR] <;> omega)) (v := (h 12) b) rfl dX0_isEmpty_5 ?_
  have r1 := ty_12 (i := b) (v := (h 12) b) hT rfl (by omega) (by omega)
  refine TT_if_eq hK (tgt := 18) (irm (by omega) (by omega)) dX0_isEmpty_6 (by decide) (fun hb6_2 => ?_) (fun hb6_2 => ?_)
  · refine TT_iconst hK dX0_isEmpty_18 ?_
    refine TT_goto hK (tgt := 23) dX0_isEmpty_19 (by decide) ?_
    refine TT_zret hK hQ (by decide) ?_ dX0_isEmpty_23
    exact ⟨⟨hT, hF⟩, 1, rfl, (by omega)⟩
  · refine TT_aload_n hK rfl 0 rfl dX0_isEmpty_9 ?_
    refine gf_X0_24 hK (by decide) rfl (q := 13) rfl rfl dX0_isEmpty_10 ?_
    refine TT_iload_n hK rfl 1 rfl dX0_isEmpty_13 ?_
    refine TT_iald hK (o := 13) (n := 10) (by decide) rfl (by first | omega | (simp [up, setR] <;> omega)) (by first | omega | (simp [up, setR] <;> omega)) (v := (h 13) b) rfl dX0_isEmpty_14 ?_
    have r3 := ty_13 (i := b) (v := (h 13) b) hT rfl (by omega) (by omega)
    refine TT_if_ne hK (tgt := 22) (irm (by omega) (by omega)) dX0_isEmpty_15 (by decide) (fun hb15_4 => ?_) (fun hb15_4 => ?_)
    · refine TT_iconst hK dX0_isEmpty_22 ?_
      refine TT_zret hK hQ (by decide) ?_ dX0_isEmpty_23
      exact ⟨⟨hT, hF⟩, 0, rfl, (by omega)⟩
    · refine TT_iconst hK dX0_isEmpty_18 ?_
      refine TT_goto hK (tgt := 23) dX0_isEmpty_19 (by decide) ?_
      refine TT_zret hK hQ (by decide) ?_ dX0_isEmpty_23
      exact ⟨⟨hT, hF⟩, 1, rfl, (by omega)⟩
set_option maxRecDepth 20000 in
theorem s_X0_kindOf_8 (b : Int) (h : Hp_) (hT : TY h) (hb : 0 ≤ b ∧ b ≤ 9) : Ctr yX0_kindOf cX0_kindOf 3 (some .int) (rmd 0) ly ly 0 0 [vR 8, vI b] h (fun r h' => (TY h' ∧ FR [] h h') ∧ ∃ z : Int, r = some (vI z) ∧ (0 ≤ z ∧ z ≤ 2)) := by
  refine Ctr_of (by decide) (Nat.le_of_ble_eq_true rfl) ⟨Nat.le_refl _, Nat.le_refl _⟩ (fun K hK hQ _ => ?_)
  show TT K ly 0 0 0 [(0, vR 8), (1, vI b)] [] h
  have hF : FR [] h h := FR_rf _ _
  refine TT_iload_n hK rfl 1 rfl dX0_kindOf_0 ?_
  refine TT_if_ne hK (tgt := 6) (irm (by omega) (by omega)) dX0_kindOf_1 (by decide) (fun hb1_1 => ?_) (fun hb1_1 => ?_)
  · refine TT_iload_n hK rfl 1 rfl dX0_kindOf_6 ?_
    refine TT_iconst hK dX0_kindOf_7 ?_
    refine TT_isub hK dX0_kindOf_8 ?_
    refine TT_iconst hK dX0_kindOf_9 ?_
    refine TT_iremn hK (irm (by omega) (by omega)) (by decide) (by first | omega | (simp [up, setR] <;> omega)) (by first | omega | (simp [up, setR] <;> omega)) dX0_kindOf_10 ?_
    refine TT_istore_n hK rfl (lv' := [(2, vI ((b - 1) % 3)), (0, vR 8), (1, vI b)]) (by decide) rfl dX0_kindOf_11 ?_
    refine TT_iload_n hK rfl 0 rfl dX0_kindOf_12 ?_
    refine TT_if_ne hK (tgt := 20) (irm (by omega) (by omega)) dX0_kindOf_13 (by decide) (fun hb13_2 => ?_) (fun hb13_2 => ?_)
    · refine TT_iload_n hK rfl 0 rfl dX0_kindOf_20 ?_
      refine TT_iconst hK dX0_kindOf_21 ?_
      refine TT_icmp_ne hK (tgt := 29) (irm (by omega) (by omega)) (by decide) dX0_kindOf_22 (by decide) (fun hb22_3 => ?_) (fun hb22_3 => ?_)
      · refine TT_iconst hK dX0_kindOf_29 ?_
        refine TT_iret hK hQ ?_ dX0_kindOf_30
        exact ⟨⟨hT, hF⟩, 2, rfl, (by omega)⟩
      · refine TT_iconst hK dX0_kindOf_25 ?_
        refine TT_goto hK (tgt := 30) dX0_kindOf_26 (by decide) ?_
        refine TT_iret hK hQ ?_ dX0_kindOf_30
        exact ⟨⟨hT, hF⟩, 0, rfl, (by omega)⟩
    · refine TT_iconst hK dX0_kindOf_16 ?_
      refine TT_goto hK (tgt := 30) dX0_kindOf_17 (by decide) ?_
      refine TT_iret hK hQ ?_ dX0_kindOf_30
      exact ⟨⟨hT, hF⟩, 1, rfl, (by omega)⟩
  · refine TT_iconst hK dX0_kindOf_4 ?_
    refine TT_iret hK hQ ?_ dX0_kindOf_5
    exact ⟨⟨hT, hF⟩, 0, rfl, (by omega)⟩
set_option maxRecDepth 20000 in
theorem s_X0_hasNumber_8 (b x y : Int) (h : Hp_) (hT : TY h) (hb : -2147483648 ≤ b ∧ b ≤ 2147483647) (hx : -2147483648 ≤ x ∧ x ≤ 2147483647) (hy : -2147483648 ≤ y ∧ y ≤ 2147483647) : Ctr yX0_hasNumber cX0_hasNumber 4 (some .boolean) (rmd 1) ly ly 0 0 [vR 8, vI b, vI x, vI y] h (fun r h' => (TY h' ∧ FR [] h h') ∧ ∃ z : Int, r = some (vI z) ∧ (0 ≤ z ∧ z ≤ 1) ∧ (z = 1 → (0 ≤ b ∧ b < 10) ∧ (0 ≤ x ∧ x < (h 12) b) ∧ (0 ≤ y ∧ y < (h 13) b))) := by
  refine Ctr_of (by decide) (Nat.le_of_ble_eq_true rfl) ⟨Nat.le_refl _, Nat.le_refl _⟩ (fun K hK hQ _ => ?_)
  show TT K ly 0 0 0 [(0, vR 8), (1, vI b), (2, vI x), (3, vI y)] [] h
  have hF : FR [] h h := FR_rf _ _
  refine TT_aload_n hK rfl 0 rfl dX0_hasNumber_0 ?_
  refine TT_iload_n hK rfl 1 rfl dX0_hasNumber_1 ?_
  refine iv_X0_54 hK (s_X0_hasBand_8 b h hT (by first | omega | (simp [up, setR] <;> omega))) (by decide) rfl ⟨by decide, by decide⟩ (by decide) rfl rfl (Nat.le_of_ble_eq_true rfl) ⟨by decide, by decide⟩ dX0_hasNumber_2 ?_
  intro r9 g2_1 hp9
  obtain ⟨⟨hT_1, hG_1⟩, z2_1, hr9, hz_1, p1_1⟩ := hp9
  rw [hr9]
  have hF_1 : FR [] h g2_1 := FR_tr hF hG_1 (by decide)
  show TT K ly 0 0 5 [(0, vR 8), (1, vI b), (2, vI x), (3, vI y)] [vI z2_1] g2_1
  refine TT_if_eq hK (tgt := 40) (irm (by omega) (by omega)) dX0_hasNumber_5 (by decide) (fun hb5_2 => ?_) (fun hb5_2 => ?_)
  · refine TT_iconst hK dX0_hasNumber_40 ?_
    refine TT_zret hK hQ (by decide) ?_ dX0_hasNumber_41
    exact ⟨⟨hT_1, hF_1⟩, 0, rfl, (by omega), (by omega)⟩
  · refine TT_iload_n hK rfl 2 rfl dX0_hasNumber_8 ?_
    refine TT_if_lt hK (tgt := 40) (irm (by omega) (by omega)) dX0_hasNumber_9 (by decide) (fun hb9_3 => ?_) (fun hb9_3 => ?_)
    · refine TT_iconst hK dX0_hasNumber_40 ?_
      refine TT_zret hK hQ (by decide) ?_ dX0_hasNumber_41
      exact ⟨⟨hT_1, hF_1⟩, 0, rfl, (by omega), (by omega)⟩
    · refine TT_iload_n hK rfl 2 rfl dX0_hasNumber_12 ?_
      refine TT_aload_n hK rfl 0 rfl dX0_hasNumber_13 ?_
      refine gf_X0_21 hK (by decide) rfl (q := 12) rfl rfl dX0_hasNumber_14 ?_
      refine TT_iload_n hK rfl 1 rfl dX0_hasNumber_17 ?_
      refine TT_iald hK (o := 12) (n := 10) (by decide) rfl (by first | omega | (simp [up, setR] <;> omega)) (by first | omega | (simp [up, setR] <;> omega)) (v := (h 12) b) (rd_ (hG_1 12 (by decide)) rfl) dX0_hasNumber_18 ?_
      have r4 := ty_12 (i := b) (v := (h 12) b) hT_1 (rd_ (hG_1 12 (by decide)) rfl) (by omega) (by omega)
      refine TT_icmp_ge hK (tgt := 40) (irm (by omega) (by omega)) (irm (by omega) (by omega)) dX0_hasNumber_19 (by decide) (fun hb19_5 => ?_) (fun hb19_5 => ?_)
      · refine TT_iconst hK dX0_hasNumber_40 ?_
        refine TT_zret hK hQ (by decide) ?_ dX0_hasNumber_41
        exact ⟨⟨hT_1, hF_1⟩, 0, rfl, (by omega), (by omega)⟩
      · refine TT_iload_n hK rfl 3 rfl dX0_hasNumber_22 ?_
        refine TT_if_lt hK (tgt := 40) (irm (by omega) (by omega)) dX0_hasNumber_23 (by decide) (fun hb23_6 => ?_) (fun hb23_6 => ?_)
        · refine TT_iconst hK dX0_hasNumber_40 ?_
          refine TT_zret hK hQ (by decide) ?_ dX0_hasNumber_41
          exact ⟨⟨hT_1, hF_1⟩, 0, rfl, (by omega), (by omega)⟩
        · refine TT_iload_n hK rfl 3 rfl dX0_hasNumber_26 ?_
          refine TT_aload_n hK rfl 0 rfl dX0_hasNumber_27 ?_
          refine gf_X0_24 hK (by decide) rfl (q := 13) rfl rfl dX0_hasNumber_28 ?_
          refine TT_iload_n hK rfl 1 rfl dX0_hasNumber_31 ?_
          refine TT_iald hK (o := 13) (n := 10) (by decide) rfl (by first | omega | (simp [up, setR] <;> omega)) (by first | omega | (simp [up, setR] <;> omega)) (v := (h 13) b) (rd_ (hG_1 13 (by decide)) rfl) dX0_hasNumber_32 ?_
          have r7 := ty_13 (i := b) (v := (h 13) b) hT_1 (rd_ (hG_1 13 (by decide)) rfl) (by omega) (by omega)
          refine TT_icmp_ge hK (tgt := 40) (irm (by omega) (by omega)) (irm (by omega) (by omega)) dX0_hasNumber_33 (by decide) (fun hb33_8 => ?_) (fun hb33_8 => ?_)
          · refine TT_iconst hK dX0_hasNumber_40 ?_
            refine TT_zret hK hQ (by decide) ?_ dX0_hasNumber_41
            exact ⟨⟨hT_1, hF_1⟩, 0, rfl, (by omega), (by omega)⟩
          · refine TT_iconst hK dX0_hasNumber_36 ?_
            refine TT_goto hK (tgt := 41) dX0_hasNumber_37 (by decide) ?_
            refine TT_zret hK hQ (by decide) ?_ dX0_hasNumber_41
            exact ⟨⟨hT_1, hF_1⟩, 1, rfl, (by omega), (by omega)⟩
set_option maxRecDepth 20000 in
theorem s_X0_at_8 (b x y : Int) (h : Hp_) (hT : TY h) (hb : -2147483648 ≤ b ∧ b ≤ 2147483647) (hx : -2147483648 ≤ x ∧ x ≤ 2147483647) (hy : -2147483648 ≤ y ∧ y ≤ 2147483647) (hbd : BDQ (h 10) (h 12) (h 11) (h 13)) : Ctr yX0_at cX0_at 4 (some .int) (rmd 2) ly ly 0 0 [vR 8, vI b, vI x, vI y] h (fun r h' => (TY h' ∧ FR [] h h') ∧ ∃ z : Int, r = some (vI z) ∧ (-2147483648 ≤ z ∧ z ≤ 2147483647)) := by
  refine Ctr_of (by decide) (Nat.le_of_ble_eq_true rfl) ⟨Nat.le_refl _, Nat.le_refl _⟩ (fun K hK hQ _ => ?_)
  show TT K ly 0 0 0 [(0, vR 8), (1, vI b), (2, vI x), (3, vI y)] [] h
  have hF : FR [] h h := FR_rf _ _
  refine TT_aload_n hK rfl 0 rfl dX0_at_0 ?_
  refine TT_iload_n hK rfl 1 rfl dX0_at_1 ?_
  refine TT_iload_n hK rfl 2 rfl dX0_at_2 ?_
  refine TT_iload_n hK rfl 3 rfl dX0_at_3 ?_
  refine iv_X0_58 hK (s_X0_hasNumber_8 b x y h hT (by first | omega | (simp [up, setR] <;> omega)) (by first | omega | (simp [up, setR] <;> omega)) (by first | omega | (simp [up, setR] <;> omega))) (by decide) rfl ⟨by decide, by decide⟩ (by decide) rfl rfl (Nat.le_of_ble_eq_true rfl) ⟨by decide, by decide⟩ dX0_at_4 ?_
  intro r9 g4_1 hp9
  obtain ⟨⟨hT_1, hG_1⟩, z4_1, hr9, hz_1, p1_1⟩ := hp9
  rw [hr9]
  have hF_1 : FR [] h g4_1 := FR_tr hF hG_1 (by decide)
  show TT K ly 0 0 7 [(0, vR 8), (1, vI b), (2, vI x), (3, vI y)] [vI z4_1] g4_1
  refine TT_if_eq hK (tgt := 38) (irm (by omega) (by omega)) dX0_at_7 (by decide) (fun hb7_2 => ?_) (fun hb7_2 => ?_)
  · refine TT_ldc hK lc_X0_62 dX0_at_38 ?_
    refine TT_iret hK hQ ?_ dX0_at_40
    exact ⟨⟨hT_1, hF_1⟩, (-100000), rfl, (by omega)⟩
  · have bq := hbd b (by omega) (by omega)
    refine TT_aload_n hK rfl 0 rfl dX0_at_10 ?_
    refine gf_X0_9 hK (by decide) rfl (q := 9) rfl rfl dX0_at_11 ?_
    refine TT_aload_n hK rfl 0 rfl dX0_at_14 ?_
    refine gf_X0_18 hK (by decide) rfl (q := 11) rfl rfl dX0_at_15 ?_
    refine TT_iload_n hK rfl 1 rfl dX0_at_18 ?_
    refine TT_iald hK (o := 11) (n := 10) (by decide) rfl (by first | omega | (simp [up, setR] <;> omega)) (by first | omega | (simp [up, setR] <;> omega)) (v := (h 11) b) (rd_ (hG_1 11 (by decide)) rfl) dX0_at_19 ?_
    have r3 := ty_11 (i := b) (v := (h 11) b) hT_1 (rd_ (hG_1 11 (by decide)) rfl) (by omega) (by omega)
    refine TT_iload_n hK rfl 3 rfl dX0_at_20 ?_
    refine TT_iadd hK dX0_at_21 ?_
    refine TT_bipush hK (by decide) dX0_at_22 ?_
    refine TT_imul hK dX0_at_24 ?_
    refine TT_aload_n hK rfl 0 rfl dX0_at_25 ?_
    refine gf_X0_15 hK (by decide) rfl (q := 10) rfl rfl dX0_at_26 ?_
    refine TT_iload_n hK rfl 1 rfl dX0_at_29 ?_
    refine TT_iald hK (o := 10) (n := 10) (by decide) rfl (by first | omega | (simp [up, setR] <;> omega)) (by first | omega | (simp [up, setR] <;> omega)) (v := (h 10) b) (rd_ (hG_1 10 (by decide)) rfl) dX0_at_30 ?_
    have r4 := ty_10 (i := b) (v := (h 10) b) hT_1 (rd_ (hG_1 10 (by decide)) rfl) (by omega) (by omega)
    refine TT_iadd hK dX0_at_31 ?_
    refine TT_iload_n hK rfl 2 rfl dX0_at_32 ?_
    refine TT_iadd hK dX0_at_33 ?_
    refine TT_iald hK (o := 9) (n := 64) (by decide) rfl (by first | omega | (simp [up, setR] <;> omega)) (by first | omega | (simp [up, setR] <;> omega)) (v := (h 9) ((((((h 11) b) + y) * 8) + ((h 10) b)) + x)) (rd_ (hG_1 9 (by decide)) rfl) dX0_at_34 ?_
    have r5 := ty_9 (i := (((((h 11) b) + y) * 8) + ((h 10) b)) + x) (v := (h 9) ((((((h 11) b) + y) * 8) + ((h 10) b)) + x)) hT_1 (rd_ (hG_1 9 (by decide)) rfl) (by omega) (by omega)
    refine TT_goto hK (tgt := 40) dX0_at_35 (by decide) ?_
    refine TT_iret hK hQ ?_ dX0_at_40
    exact ⟨⟨hT_1, hF_1⟩, ((h 9) ((((((h 11) b) + y) * 8) + ((h 10) b)) + x)), rfl, (by omega)⟩
set_option maxRecDepth 20000 in
theorem s_X0_set_8 (b x y v : Int) (h : Hp_) (hT : TY h) (hb : -2147483648 ≤ b ∧ b ≤ 2147483647) (hx : -2147483648 ≤ x ∧ x ≤ 2147483647) (hy : -2147483648 ≤ y ∧ y ≤ 2147483647) (hv : -2147483648 ≤ v ∧ v ≤ 2147483647) (hbd : BDQ (h 10) (h 12) (h 11) (h 13)) : Ctr yX0_set cX0_set 5 none (rmd 2) ly ly 0 0 [vR 8, vI b, vI x, vI y, vI v] h (fun r h' => (TY h' ∧ FR [9] h h') ∧ r = none) := by
  refine Ctr_of (by decide) (Nat.le_of_ble_eq_true rfl) ⟨Nat.le_refl _, Nat.le_refl _⟩ (fun K hK hQ _ => ?_)
  show TT K ly 0 0 0 [(0, vR 8), (1, vI b), (2, vI x), (3, vI y), (4, vI v)] [] h
  have hF : FR [9] h h := FR_rf _ _
  refine TT_aload_n hK rfl 0 rfl dX0_set_0 ?_
  refine TT_iload_n hK rfl 1 rfl dX0_set_1 ?_
  refine TT_iload_n hK rfl 2 rfl dX0_set_2 ?_
  refine TT_iload_n hK rfl 3 rfl dX0_set_3 ?_
  refine iv_X0_58 hK (s_X0_hasNumber_8 b x y h hT (by first | omega | (simp [up, setR] <;> omega)) (by first | omega | (simp [up, setR] <;> omega)) (by first | omega | (simp [up, setR] <;> omega))) (by decide) rfl ⟨by decide, by decide⟩ (by decide) rfl rfl (Nat.le_of_ble_eq_true rfl) ⟨by decide, by decide⟩ dX0_set_4 ?_
  intro r9 g4_1 hp9
  obtain ⟨⟨hT_1, hG_1⟩, z4_1, hr9, hz_1, p1_1⟩ := hp9
  rw [hr9]
  have hF_1 : FR [9] h g4_1 := FR_tr hF hG_1 (by decide)
  show TT K ly 0 0 7 [(0, vR 8), (1, vI b), (2, vI x), (3, vI y), (4, vI v)] [vI z4_1] g4_1
  refine TT_if_eq hK (tgt := 37) (irm (by omega) (by omega)) dX0_set_7 (by decide) (fun hb7_2 => ?_) (fun hb7_2 => ?_)
  · refine TT_vret hK hQ ?_ dX0_set_37
    exact ⟨⟨hT_1, hF_1⟩, rfl⟩
  · have bq := hbd b (by omega) (by omega)
    refine TT_aload_n hK rfl 0 rfl dX0_set_10 ?_
    refine gf_X0_9 hK (by decide) rfl (q := 9) rfl rfl dX0_set_11 ?_
    refine TT_aload_n hK rfl 0 rfl dX0_set_14 ?_
    refine gf_X0_18 hK (by decide) rfl (q := 11) rfl rfl dX0_set_15 ?_
    refine TT_iload_n hK rfl 1 rfl dX0_set_18 ?_
    refine TT_iald hK (o := 11) (n := 10) (by decide) rfl (by first | omega | (simp [up, setR] <;> omega)) (by first | omega | (simp [up, setR] <;> omega)) (v := (h 11) b) (rd_ (hG_1 11 (by decide)) rfl) dX0_set_19 ?_
    have r3 := ty_11 (i := b) (v := (h 11) b) hT_1 (rd_ (hG_1 11 (by decide)) rfl) (by omega) (by omega)
    refine TT_iload_n hK rfl 3 rfl dX0_set_20 ?_
    refine TT_iadd hK dX0_set_21 ?_
    refine TT_bipush hK (by decide) dX0_set_22 ?_
    refine TT_imul hK dX0_set_24 ?_
    refine TT_aload_n hK rfl 0 rfl dX0_set_25 ?_
    refine gf_X0_15 hK (by decide) rfl (q := 10) rfl rfl dX0_set_26 ?_
    refine TT_iload_n hK rfl 1 rfl dX0_set_29 ?_
    refine TT_iald hK (o := 10) (n := 10) (by decide) rfl (by first | omega | (simp [up, setR] <;> omega)) (by first | omega | (simp [up, setR] <;> omega)) (v := (h 10) b) (rd_ (hG_1 10 (by decide)) rfl) dX0_set_30 ?_
    have r4 := ty_10 (i := b) (v := (h 10) b) hT_1 (rd_ (hG_1 10 (by decide)) rfl) (by omega) (by omega)
    refine TT_iadd hK dX0_set_31 ?_
    refine TT_iload_n hK rfl 2 rfl dX0_set_32 ?_
    refine TT_iadd hK dX0_set_33 ?_
    refine TT_iload hK 4 rfl dX0_set_34 ?_
    refine TT_iast hK (o := 9) (n := 64) (by decide) rfl (by omega) (by omega) dX0_set_36 ?_
    refine TT_hp (h' := setO g4_1 9 (fup (h 9) ((((((h 11) b) + y) * 8) + ((h 10) b)) + x) v)) (up_can (hG_1 9 (by decide)) rfl rfl) ?_
    have hT_5 : TY (setO g4_1 9 (fup (h 9) ((((((h 11) b) + y) * 8) + ((h 10) b)) + x) v)) := tu_9 hT_1 (show up g4_1 9 ((((((h 11) b) + y) * 8) + ((h 10) b)) + x) v = (setO g4_1 9 (fup (h 9) ((((((h 11) b) + y) * 8) + ((h 10) b)) + x) v)) from up_can (hG_1 9 (by decide)) rfl rfl) (by omega)
    have hF_5 : FR [9] h (setO g4_1 9 (fup (h 9) ((((((h 11) b) + y) * 8) + ((h 10) b)) + x) v)) := FR_up (show up g4_1 9 ((((((h 11) b) + y) * 8) + ((h 10) b)) + x) v = (setO g4_1 9 (fup (h 9) ((((((h 11) b) + y) * 8) + ((h 10) b)) + x) v)) from up_can (hG_1 9 (by decide)) rfl rfl) hF_1 (by decide)
    refine TT_vret hK hQ ?_ dX0_set_37
    exact ⟨⟨hT_5, hF_5⟩, rfl⟩
set_option maxRecDepth 20000 in
theorem s_X0_layBand_8 (b x y p q : Int) (h : Hp_) (hT : TY h) (hb : 0 ≤ b ∧ b ≤ 9) (hx : 0 ≤ x ∧ x ≤ 8) (hy : 0 ≤ y ∧ y ≤ 8) (hp : 0 ≤ p ∧ p ≤ 8) (hq : 0 ≤ q ∧ q ≤ 8) (h1 : x + p ≤ 8) (h2 : y + q ≤ 8) (hbd : BDQ (h 10) (h 12) (h 11) (h 13)) : Ctr yX0_layBand cX0_layBand 6 none (rmd 0) ly ly 0 0 [vR 8, vI b, vI x, vI y, vI p, vI q] h (fun r h' => (TY h' ∧ FR [10, 11, 12, 13] h h') ∧ r = none ∧ (BDQ (h' 10) (h' 12) (h' 11) (h' 13))) := by
  refine Ctr_of (by decide) (Nat.le_of_ble_eq_true rfl) ⟨Nat.le_refl _, Nat.le_refl _⟩ (fun K hK hQ _ => ?_)
  show TT K ly 0 0 0 [(0, vR 8), (1, vI b), (2, vI x), (3, vI y), (4, vI p), (5, vI q)] [] h
  have hF : FR [10, 11, 12, 13] h h := FR_rf _ _
  refine TT_aload_n hK rfl 0 rfl dX0_layBand_0 ?_
  refine gf_X0_15 hK (by decide) rfl (q := 10) rfl rfl dX0_layBand_1 ?_
  refine TT_iload_n hK rfl 1 rfl dX0_layBand_4 ?_
  refine TT_iload_n hK rfl 2 rfl dX0_layBand_5 ?_
  refine TT_iast hK (o := 10) (n := 10) (by decide) rfl (by omega) (by omega) dX0_layBand_6 ?_
  refine TT_hp (h' := setO h 10 (fup (h 10) b x)) (up_can rfl rfl rfl) ?_
  have hT_1 : TY (setO h 10 (fup (h 10) b x)) := tu_10 hT (show up h 10 b x = (setO h 10 (fup (h 10) b x)) from up_can rfl rfl rfl) (by omega)
  have hF_1 : FR [10, 11, 12, 13] h (setO h 10 (fup (h 10) b x)) := FR_up (show up h 10 b x = (setO h 10 (fup (h 10) b x)) from up_can rfl rfl rfl) hF (by decide)
  refine TT_aload_n hK rfl 0 rfl dX0_layBand_7 ?_
  refine gf_X0_18 hK (by decide) rfl (q := 11) rfl rfl dX0_layBand_8 ?_
  refine TT_iload_n hK rfl 1 rfl dX0_layBand_11 ?_
  refine TT_iload_n hK rfl 3 rfl dX0_layBand_12 ?_
  refine TT_iast hK (o := 11) (n := 10) (by decide) rfl (by omega) (by omega) dX0_layBand_13 ?_
  refine TT_hp (h' := setO (setO h 10 (fup (h 10) b x)) 11 (fup (h 11) b y)) (up_can (sOf_ne _ _ (by decide)) rfl rfl) ?_
  have hT_2 : TY (setO (setO h 10 (fup (h 10) b x)) 11 (fup (h 11) b y)) := tu_11 hT_1 (show up (setO h 10 (fup (h 10) b x)) 11 b y = (setO (setO h 10 (fup (h 10) b x)) 11 (fup (h 11) b y)) from up_can (sOf_ne _ _ (by decide)) rfl rfl) (by omega)
  have hF_2 : FR [10, 11, 12, 13] h (setO (setO h 10 (fup (h 10) b x)) 11 (fup (h 11) b y)) := FR_up (show up (setO h 10 (fup (h 10) b x)) 11 b y = (setO (setO h 10 (fup (h 10) b x)) 11 (fup (h 11) b y)) from up_can (sOf_ne _ _ (by decide)) rfl rfl) hF_1 (by decide)
  refine TT_aload_n hK rfl 0 rfl dX0_layBand_14 ?_
  refine gf_X0_21 hK (by decide) rfl (q := 12) rfl rfl dX0_layBand_15 ?_
  refine TT_iload_n hK rfl 1 rfl dX0_layBand_18 ?_
  refine TT_iload hK 4 rfl dX0_layBand_19 ?_
  refine TT_iast hK (o := 12) (n := 10) (by decide) rfl (by omega) (by omega) dX0_layBand_21 ?_
  refine TT_hp (h' := setO (setO (setO h 10 (fup (h 10) b x)) 11 (fup (h 11) b y)) 12 (fup (h 12) b p)) (up_can ((sOf_ne _ _ (by decide)).trans (sOf_ne _ _ (by decide))) rfl rfl) ?_
  have hT_3 : TY (setO (setO (setO h 10 (fup (h 10) b x)) 11 (fup (h 11) b y)) 12 (fup (h 12) b p)) := tu_12 hT_2 (show up (setO (setO h 10 (fup (h 10) b x)) 11 (fup (h 11) b y)) 12 b p = (setO (setO (setO h 10 (fup (h 10) b x)) 11 (fup (h 11) b y)) 12 (fup (h 12) b p)) from up_can ((sOf_ne _ _ (by decide)).trans (sOf_ne _ _ (by decide))) rfl rfl) (by omega)
  have hF_3 : FR [10, 11, 12, 13] h (setO (setO (setO h 10 (fup (h 10) b x)) 11 (fup (h 11) b y)) 12 (fup (h 12) b p)) := FR_up (show up (setO (setO h 10 (fup (h 10) b x)) 11 (fup (h 11) b y)) 12 b p = (setO (setO (setO h 10 (fup (h 10) b x)) 11 (fup (h 11) b y)) 12 (fup (h 12) b p)) from up_can ((sOf_ne _ _ (by decide)).trans (sOf_ne _ _ (by decide))) rfl rfl) hF_2 (by decide)
  refine TT_aload_n hK rfl 0 rfl dX0_layBand_22 ?_
  refine gf_X0_24 hK (by decide) rfl (q := 13) rfl rfl dX0_layBand_23 ?_
  refine TT_iload_n hK rfl 1 rfl dX0_layBand_26 ?_
  refine TT_iload hK 5 rfl dX0_layBand_27 ?_
  refine TT_iast hK (o := 13) (n := 10) (by decide) rfl (by omega) (by omega) dX0_layBand_29 ?_
  refine TT_hp (h' := setO (setO (setO (setO h 10 (fup (h 10) b x)) 11 (fup (h 11) b y)) 12 (fup (h 12) b p)) 13 (fup (h 13) b q)) (up_can ((sOf_ne _ _ (by decide)).trans ((sOf_ne _ _ (by decide)).trans (sOf_ne _ _ (by decide)))) rfl rfl) ?_
  have hT_4 : TY (setO (setO (setO (setO h 10 (fup (h 10) b x)) 11 (fup (h 11) b y)) 12 (fup (h 12) b p)) 13 (fup (h 13) b q)) := tu_13 hT_3 (show up (setO (setO (setO h 10 (fup (h 10) b x)) 11 (fup (h 11) b y)) 12 (fup (h 12) b p)) 13 b q = (setO (setO (setO (setO h 10 (fup (h 10) b x)) 11 (fup (h 11) b y)) 12 (fup (h 12) b p)) 13 (fup (h 13) b q)) from up_can ((sOf_ne _ _ (by decide)).trans ((sOf_ne _ _ (by decide)).trans (sOf_ne _ _ (by decide)))) rfl rfl) (by omega)
  have hF_4 : FR [10, 11, 12, 13] h (setO (setO (setO (setO h 10 (fup (h 10) b x)) 11 (fup (h 11) b y)) 12 (fup (h 12) b p)) 13 (fup (h 13) b q)) := FR_up (show up (setO (setO (setO h 10 (fup (h 10) b x)) 11 (fup (h 11) b y)) 12 (fup (h 12) b p)) 13 b q = (setO (setO (setO (setO h 10 (fup (h 10) b x)) 11 (fup (h 11) b y)) 12 (fup (h 12) b p)) 13 (fup (h 13) b q)) from up_can ((sOf_ne _ _ (by decide)).trans ((sOf_ne _ _ (by decide)).trans (sOf_ne _ _ (by decide)))) rfl rfl) hF_3 (by decide)
  refine TT_vret hK hQ ?_ dX0_layBand_30
  have e5_10 : (setO (setO (setO (setO h 10 (fup (h 10) b x)) 11 (fup (h 11) b y)) 12 (fup (h 12) b p)) 13 (fup (h 13) b q)) 10 = fup (h 10) b x := (sOf_ne _ _ (by decide)).trans ((sOf_ne _ _ (by decide)).trans ((sOf_ne _ _ (by decide)).trans (sOf_eq _ _ _)))
  have e6_11 : (setO (setO (setO (setO h 10 (fup (h 10) b x)) 11 (fup (h 11) b y)) 12 (fup (h 12) b p)) 13 (fup (h 13) b q)) 11 = fup (h 11) b y := (sOf_ne _ _ (by decide)).trans ((sOf_ne _ _ (by decide)).trans (sOf_eq _ _ _))
  have e7_12 : (setO (setO (setO (setO h 10 (fup (h 10) b x)) 11 (fup (h 11) b y)) 12 (fup (h 12) b p)) 13 (fup (h 13) b q)) 12 = fup (h 12) b p := (sOf_ne _ _ (by decide)).trans (sOf_eq _ _ _)
  have e8_13 : (setO (setO (setO (setO h 10 (fup (h 10) b x)) 11 (fup (h 11) b y)) 12 (fup (h 12) b p)) 13 (fup (h 13) b q)) 13 = fup (h 13) b q := sOf_eq _ _ _
  exact ⟨⟨hT_4, hF_4⟩, rfl, (by rw [e5_10, e6_11, e7_12, e8_13]; exact BDQ_up hbd h1 h2)⟩
set_option maxRecDepth 20000 in
theorem s_X0_lay_8 (wq eq lq : Int) (h : Hp_) (hT : TY h) (hwq : 0 ≤ wq ∧ wq ≤ 8) (heq : 0 ≤ eq ∧ eq ≤ 8) (hlq : 0 ≤ lq ∧ lq ≤ 3) (hbd : BDQ (h 10) (h 12) (h 11) (h 13)) : Ctr yX0_lay cX0_lay 10 none (rmd 1) ly ly 0 0 [vR 8, vI wq, vI eq, vI lq] h (fun r h' => (TY h' ∧ FR [8, 10, 11, 12, 13] h h') ∧ r = none ∧ (BDQ (h' 10) (h' 12) (h' 11) (h' 13))) := by
  refine Ctr_of (by decide) (Nat.le_of_ble_eq_true rfl) ⟨Nat.le_refl _, Nat.le_refl _⟩ (fun K hK hQ _ => ?_)
  show TT K ly 0 0 0 [(0, vR 8), (1, vI wq), (2, vI eq), (3, vI lq)] [] h
  have hF : FR [8, 10, 11, 12, 13] h h := FR_rf _ _
  refine TT_aload_n hK rfl 0 rfl dX0_lay_0 ?_
  refine TT_iload_n hK rfl 1 rfl dX0_lay_1 ?_
  refine pf_X0_33 hK (by decide) rfl dX0_lay_2 ?_
  refine TT_hp (h' := setO h 8 (fup (h 8) 7 wq)) (up_can rfl rfl rfl) ?_
  have hT_1 : TY (setO h 8 (fup (h 8) 7 wq)) := tu_8_7 hT (show up h 8 7 wq = (setO h 8 (fup (h 8) 7 wq)) from up_can rfl rfl rfl) (by omega)
  have hF_1 : FR [8, 10, 11, 12, 13] h (setO h 8 (fup (h 8) 7 wq)) := FR_up (show up h 8 7 wq = (setO h 8 (fup (h 8) 7 wq)) from up_can rfl rfl rfl) hF (by decide)
  refine TT_aload_n hK rfl 0 rfl dX0_lay_5 ?_
  refine TT_iload_n hK rfl 2 rfl dX0_lay_6 ?_
  refine pf_X0_37 hK (by decide) rfl dX0_lay_7 ?_
  refine TT_hp (h' := setO h 8 (fup (fup (h 8) 7 wq) 8 eq)) (up_can (sOf_eq _ _ _) rfl (setO_same _ _ _ _)) ?_
  have hT_2 : TY (setO h 8 (fup (fup (h 8) 7 wq) 8 eq)) := tu_8_8 hT_1 (show up (setO h 8 (fup (h 8) 7 wq)) 8 8 eq = (setO h 8 (fup (fup (h 8) 7 wq) 8 eq)) from up_can (sOf_eq _ _ _) rfl (setO_same _ _ _ _)) (by omega)
  have hF_2 : FR [8, 10, 11, 12, 13] h (setO h 8 (fup (fup (h 8) 7 wq) 8 eq)) := FR_up (show up (setO h 8 (fup (h 8) 7 wq)) 8 8 eq = (setO h 8 (fup (fup (h 8) 7 wq) 8 eq)) from up_can (sOf_eq _ _ _) rfl (setO_same _ _ _ _)) hF_1 (by decide)
  refine TT_aload_n hK rfl 0 rfl dX0_lay_10 ?_
  refine TT_iload_n hK rfl 3 rfl dX0_lay_11 ?_
  refine pf_X0_40 hK (by decide) rfl dX0_lay_12 ?_
  refine TT_hp (h' := setO h 8 (fup (fup (fup (h 8) 7 wq) 8 eq) 9 lq)) (up_can (sOf_eq _ _ _) rfl (setO_same _ _ _ _)) ?_
  have hT_3 : TY (setO h 8 (fup (fup (fup (h 8) 7 wq) 8 eq) 9 lq)) := tu_8_9 hT_2 (show up (setO h 8 (fup (fup (h 8) 7 wq) 8 eq)) 8 9 lq = (setO h 8 (fup (fup (fup (h 8) 7 wq) 8 eq) 9 lq)) from up_can (sOf_eq _ _ _) rfl (setO_same _ _ _ _)) (by omega)
  have hF_3 : FR [8, 10, 11, 12, 13] h (setO h 8 (fup (fup (fup (h 8) 7 wq) 8 eq) 9 lq)) := FR_up (show up (setO h 8 (fup (fup (h 8) 7 wq) 8 eq)) 8 9 lq = (setO h 8 (fup (fup (fup (h 8) 7 wq) 8 eq) 9 lq)) from up_can (sOf_eq _ _ _) rfl (setO_same _ _ _ _)) hF_2 (by decide)
  refine TT_aload_n hK rfl 0 rfl dX0_lay_15 ?_
  refine TT_iconst hK dX0_lay_16 ?_
  refine TT_aload_n hK rfl 0 rfl dX0_lay_17 ?_
  refine gf_X0_40 hK (by decide) rfl (v := lq) (rd_ (sOf_eq _ _ _) (fup_eq _ _ _)) dX0_lay_18 ?_
  have r4 := ty_8_9 (v := lq) hT_3 (rd_ (sOf_eq _ _ _) (fup_eq _ _ _))
  refine TT_imul hK dX0_lay_21 ?_
  refine TT_iconst hK dX0_lay_22 ?_
  refine TT_iadd hK dX0_lay_23 ?_
  refine pf_X0_43 hK (by decide) rfl dX0_lay_24 ?_
  refine TT_hp (h' := setO h 8 (fup (fup (fup (fup (h 8) 7 wq) 8 eq) 9 lq) 10 ((3 * lq) + 1))) (up_can (sOf_eq _ _ _) rfl (setO_same _ _ _ _)) ?_
  have hT_5 : TY (setO h 8 (fup (fup (fup (fup (h 8) 7 wq) 8 eq) 9 lq) 10 ((3 * lq) + 1))) := tu_8_10 hT_3 (show up (setO h 8 (fup (fup (fup (h 8) 7 wq) 8 eq) 9 lq)) 8 10 ((3 * lq) + 1) = (setO h 8 (fup (fup (fup (fup (h 8) 7 wq) 8 eq) 9 lq) 10 ((3 * lq) + 1))) from up_can (sOf_eq _ _ _) rfl (setO_same _ _ _ _)) (by omega)
  have hF_5 : FR [8, 10, 11, 12, 13] h (setO h 8 (fup (fup (fup (fup (h 8) 7 wq) 8 eq) 9 lq) 10 ((3 * lq) + 1))) := FR_up (show up (setO h 8 (fup (fup (fup (h 8) 7 wq) 8 eq) 9 lq)) 8 10 ((3 * lq) + 1) = (setO h 8 (fup (fup (fup (fup (h 8) 7 wq) 8 eq) 9 lq) 10 ((3 * lq) + 1))) from up_can (sOf_eq _ _ _) rfl (setO_same _ _ _ _)) hF_3 (by decide)
  refine TT_iconst hK dX0_lay_27 ?_
  refine TT_istore hK (lv' := [(4, vI 1), (0, vR 8), (1, vI wq), (2, vI eq), (3, vI lq)]) (by decide) rfl dX0_lay_28 ?_
  have L30_6 : ∀ (k6 : Nat) (lv9 : Int) (w30_6 : Hp_), TY w30_6 → FR [8, 10, 11, 12, 13] h w30_6 → (1 ≤ lv9 ∧ lv9 ≤ 4) → (BDQ (w30_6 10) (w30_6 12) (w30_6 11) (w30_6 13)) → ((4 : Int) - lv9).toNat < k6 → TT K ly 0 0 30 [(0, vR 8), (4, vI lv9)] [] w30_6 := by
    intro k6
    induction k6 with
    | zero => intro lv9 w30_6 hT30_6 hF30_6 hlv hb9 hk6; exact absurd hk6 (Nat.not_lt_zero _)
    | succ k6 ih6 =>
      intro lv9 w30_6 hT30_6 hF30_6 hlv hb9 hk6
      refine TT_iload hK 1 rfl dX0_lay_30 ?_
      refine TT_aload_n hK rfl 0 rfl dX0_lay_32 ?_
      refine gf_X0_40 hK (by decide) rfl (v := (w30_6 8) 9) rfl dX0_lay_33 ?_
      have r7 := ty_8_9 (v := (w30_6 8) 9) hT30_6 rfl
      refine TT_icmp_gt hK (tgt := 162) (irm (by omega) (by omega)) (irm (by omega) (by omega)) dX0_lay_36 (by decide) (fun hb36_8 => ?_) (fun hb36_8 => ?_)
      · refine TT_aload_n hK rfl 0 rfl dX0_lay_162 ?_
        refine TT_iconst hK dX0_lay_163 ?_
        refine TT_iconst hK dX0_lay_164 ?_
        refine TT_iconst hK dX0_lay_165 ?_
        refine TT_aload_n hK rfl 0 rfl dX0_lay_166 ?_
        refine gf_X0_33 hK (by decide) rfl (v := (w30_6 8) 7) rfl dX0_lay_167 ?_
        have r9 := ty_8_7 (v := (w30_6 8) 7) hT30_6 rfl
        refine TT_aload_n hK rfl 0 rfl dX0_lay_170 ?_
        refine gf_X0_40 hK (by decide) rfl (v := (w30_6 8) 9) rfl dX0_lay_171 ?_
        refine iv_X0_46 hK (s_X0_sideAfter ((w30_6 8) 7) ((w30_6 8) 9) w30_6 hT30_6 (by first | omega | (simp [up, setR] <;> omega)) (by first | omega | (simp [up, setR] <;> omega))) ⟨by decide, by decide⟩ (by decide) rfl rfl (Nat.le_of_ble_eq_true rfl) ⟨by decide, by decide⟩ dX0_lay_174 ?_
        intro r9 g174_10 hp9
        obtain ⟨⟨hT_10, hG_10⟩, z174_10, hr9, hz_10, p1_10⟩ := hp9
        rw [hr9]
        have hF_10 : FR [8, 10, 11, 12, 13] h g174_10 := FR_tr hF30_6 hG_10 (by decide)
        show TT K ly 0 0 177 [(0, vR 8), (4, vI lv9)] [vI z174_10, vI 0, vI 0, vI 0, vR 8] g174_10
        refine TT_aload_n hK rfl 0 rfl dX0_lay_177 ?_
        refine gf_X0_37 hK (by decide) rfl (v := (w30_6 8) 8) (rd_ (hG_10 8 (by decide)) rfl) dX0_lay_178 ?_
        have r11 := ty_8_8 (v := (w30_6 8) 8) hT_10 (rd_ (hG_10 8 (by decide)) rfl)
        refine TT_aload_n hK rfl 0 rfl dX0_lay_181 ?_
        refine gf_X0_40 hK (by decide) rfl (v := (w30_6 8) 9) (rd_ (hG_10 8 (by decide)) rfl) dX0_lay_182 ?_
        refine iv_X0_46 hK (s_X0_sideAfter ((w30_6 8) 8) ((w30_6 8) 9) g174_10 hT_10 (by first | omega | (simp [up, setR] <;> omega)) (by first | omega | (simp [up, setR] <;> omega))) ⟨by decide, by decide⟩ (by decide) rfl rfl (Nat.le_of_ble_eq_true rfl) ⟨by decide, by decide⟩ dX0_lay_185 ?_
        intro r9 g185_12 hp9
        obtain ⟨⟨hT_12, hG_12⟩, z185_12, hr9, hz_12, p1_12⟩ := hp9
        rw [hr9]
        have hF_12 : FR [8, 10, 11, 12, 13] h g185_12 := FR_tr hF_10 hG_12 (by decide)
        show TT K ly 0 0 188 [(0, vR 8), (4, vI lv9)] [vI z185_12, vI z174_10, vI 0, vI 0, vI 0, vR 8] g185_12
        have e13_10 : g185_12 10 = w30_6 10 := ((hG_12 10 (by decide))).trans (hG_10 10 (by decide))
        have e14_11 : g185_12 11 = w30_6 11 := ((hG_12 11 (by decide))).trans (hG_10 11 (by decide))
        have e15_12 : g185_12 12 = w30_6 12 := ((hG_12 12 (by decide))).trans (hG_10 12 (by decide))
        have e16_13 : g185_12 13 = w30_6 13 := ((hG_12 13 (by decide))).trans (hG_10 13 (by decide))
        refine iv_X0_50 hK (s_X0_layBand_8 0 0 0 z174_10 z185_12 g185_12 hT_12 (by first | omega | (simp [up, setR] <;> omega)) (by first | omega | (simp [up, setR] <;> omega)) (by first | omega | (simp [up, setR] <;> omega)) (by first | omega | (simp [up, setR] <;> omega)) (by first | omega | (simp [up, setR] <;> omega)) (by first | omega | (simp [up, setR] <;> omega)) (by first | omega | (simp [up, setR] <;> omega)) (by rw [e13_10, e14_11, e15_12, e16_13]; assumption)) (by decide) rfl ⟨by decide, by decide⟩ (by decide) rfl rfl (Nat.le_of_ble_eq_true rfl) ⟨by decide, by decide⟩ dX0_lay_188 ?_
        intro r9 g188_17 hp9
        obtain ⟨⟨hT_17, hG_17⟩, hr9, p1_17⟩ := hp9
        rw [hr9]
        have hF_17 : FR [8, 10, 11, 12, 13] h g188_17 := FR_tr hF_12 hG_17 (by decide)
        show TT K ly 0 0 191 [(0, vR 8), (4, vI lv9)] [] g188_17
        refine TT_vret hK hQ ?_ dX0_lay_191
        exact ⟨⟨hT_17, hF_17⟩, rfl, (by assumption)⟩
      · refine TT_iconst hK dX0_lay_39 ?_
        refine TT_aload_n hK rfl 0 rfl dX0_lay_40 ?_
        refine gf_X0_40 hK (by decide) rfl (v := (w30_6 8) 9) rfl dX0_lay_41 ?_
        refine TT_iload hK 1 rfl dX0_lay_44 ?_
        refine TT_isub hK dX0_lay_46 ?_
        refine TT_imul hK dX0_lay_47 ?_
        refine TT_iconst hK dX0_lay_48 ?_
        refine TT_iadd hK dX0_lay_49 ?_
        refine TT_istore hK (lv' := [(5, vI ((3 * (((w30_6 8) 9) - lv9)) + 1)), (0, vR 8), (4, vI lv9)]) (by decide) rfl dX0_lay_50 ?_
        refine TT_aload_n hK rfl 1 rfl dX0_lay_52 ?_
        refine gf_X0_33 hK (by decide) rfl (v := (w30_6 8) 7) rfl dX0_lay_53 ?_
        have r18 := ty_8_7 (v := (w30_6 8) 7) hT30_6 rfl
        refine TT_iload hK 2 rfl dX0_lay_56 ?_
        refine TT_iconst hK dX0_lay_58 ?_
        refine TT_isub hK dX0_lay_59 ?_
        refine iv_X0_46 hK (s_X0_sideAfter ((w30_6 8) 7) (lv9 - 1) w30_6 hT30_6 (by first | omega | (simp [up, setR] <;> omega)) (by first | omega | (simp [up, setR] <;> omega))) ⟨by decide, by decide⟩ (by decide) rfl rfl (Nat.le_of_ble_eq_true rfl) ⟨by decide, by decide⟩ dX0_lay_60 ?_
        intro r9 g60_19 hp9
        obtain ⟨⟨hT_19, hG_19⟩, z60_19, hr9, hz_19, p1_19⟩ := hp9
        rw [hr9]
        have hF_19 : FR [8, 10, 11, 12, 13] h g60_19 := FR_tr hF30_6 hG_19 (by decide)
        show TT K ly 0 0 63 [(5, vI ((3 * (((w30_6 8) 9) - lv9)) + 1)), (0, vR 8), (4, vI lv9)] [vI z60_19] g60_19
        refine TT_istore hK (lv' := [(6, vI z60_19), (5, vI ((3 * (((w30_6 8) 9) - lv9)) + 1)), (0, vR 8), (4, vI lv9)]) (by decide) rfl dX0_lay_63 ?_
        refine TT_aload_n hK rfl 2 rfl dX0_lay_65 ?_
        refine gf_X0_37 hK (by decide) rfl (v := (w30_6 8) 8) (rd_ (hG_19 8 (by decide)) rfl) dX0_lay_66 ?_
        have r20 := ty_8_8 (v := (w30_6 8) 8) hT_19 (rd_ (hG_19 8 (by decide)) rfl)
        refine TT_iload hK 3 rfl dX0_lay_69 ?_
        refine TT_iconst hK dX0_lay_71 ?_
        refine TT_isub hK dX0_lay_72 ?_
        refine iv_X0_46 hK (s_X0_sideAfter ((w30_6 8) 8) (lv9 - 1) g60_19 hT_19 (by first | omega | (simp [up, setR] <;> omega)) (by first | omega | (simp [up, setR] <;> omega))) ⟨by decide, by decide⟩ (by decide) rfl rfl (Nat.le_of_ble_eq_true rfl) ⟨by decide, by decide⟩ dX0_lay_73 ?_
        intro r9 g73_21 hp9
        obtain ⟨⟨hT_21, hG_21⟩, z73_21, hr9, hz_21, p1_21⟩ := hp9
        rw [hr9]
        have hF_21 : FR [8, 10, 11, 12, 13] h g73_21 := FR_tr hF_19 hG_21 (by decide)
        show TT K ly 0 0 76 [(6, vI z60_19), (5, vI ((3 * (((w30_6 8) 9) - lv9)) + 1)), (0, vR 8), (4, vI lv9)] [vI z73_21] g73_21
        refine TT_istore hK (lv' := [(7, vI z73_21), (6, vI z60_19), (5, vI ((3 * (((w30_6 8) 9) - lv9)) + 1)), (0, vR 8), (4, vI lv9)]) (by decide) rfl dX0_lay_76 ?_
        refine TT_aload_n hK rfl 3 rfl dX0_lay_78 ?_
        refine gf_X0_33 hK (by decide) rfl (v := (w30_6 8) 7) (rd_ (((hG_21 8 (by decide))).trans (hG_19 8 (by decide))) rfl) dX0_lay_79 ?_
        refine TT_iload hK 4 rfl dX0_lay_82 ?_
        refine iv_X0_46 hK (s_X0_sideAfter ((w30_6 8) 7) lv9 g73_21 hT_21 (by first | omega | (simp [up, setR] <;> omega)) (by first | omega | (simp [up, setR] <;> omega))) ⟨by decide, by decide⟩ (by decide) rfl rfl (Nat.le_of_ble_eq_true rfl) ⟨by decide, by decide⟩ dX0_lay_84 ?_
        intro r9 g84_22 hp9
        obtain ⟨⟨hT_22, hG_22⟩, z84_22, hr9, hz_22, p1_22⟩ := hp9
        rw [hr9]
        have hF_22 : FR [8, 10, 11, 12, 13] h g84_22 := FR_tr hF_21 hG_22 (by decide)
        show TT K ly 0 0 87 [(7, vI z73_21), (6, vI z60_19), (5, vI ((3 * (((w30_6 8) 9) - lv9)) + 1)), (0, vR 8), (4, vI lv9)] [vI z84_22] g84_22
        refine TT_istore hK (lv' := [(8, vI z84_22), (7, vI z73_21), (6, vI z60_19), (5, vI ((3 * (((w30_6 8) 9) - lv9)) + 1)), (0, vR 8), (4, vI lv9)]) (by decide) rfl dX0_lay_87 ?_
        refine TT_aload_n hK rfl 4 rfl dX0_lay_89 ?_
        refine gf_X0_37 hK (by decide) rfl (v := (w30_6 8) 8) (rd_ (((hG_22 8 (by decide))).trans (((hG_21 8 (by decide))).trans (hG_19 8 (by decide)))) rfl) dX0_lay_90 ?_
        refine TT_iload hK 5 rfl dX0_lay_93 ?_
        refine iv_X0_46 hK (s_X0_sideAfter ((w30_6 8) 8) lv9 g84_22 hT_22 (by first | omega | (simp [up, setR] <;> omega)) (by first | omega | (simp [up, setR] <;> omega))) ⟨by decide, by decide⟩ (by decide) rfl rfl (Nat.le_of_ble_eq_true rfl) ⟨by decide, by decide⟩ dX0_lay_95 ?_
        intro r9 g95_23 hp9
        obtain ⟨⟨hT_23, hG_23⟩, z95_23, hr9, hz_23, p1_23⟩ := hp9
        rw [hr9]
        have hF_23 : FR [8, 10, 11, 12, 13] h g95_23 := FR_tr hF_22 hG_23 (by decide)
        show TT K ly 0 0 98 [(8, vI z84_22), (7, vI z73_21), (6, vI z60_19), (5, vI ((3 * (((w30_6 8) 9) - lv9)) + 1)), (0, vR 8), (4, vI lv9)] [vI z95_23] g95_23
        refine TT_istore hK (lv' := [(9, vI z95_23), (8, vI z84_22), (7, vI z73_21), (6, vI z60_19), (5, vI ((3 * (((w30_6 8) 9) - lv9)) + 1)), (0, vR 8), (4, vI lv9)]) (by decide) rfl dX0_lay_98 ?_
        have ow : z84_22 ≤ z60_19 := SDA_le (n := (w30_6 8) 7) (l := lv9) (by omega) (by omega) (by assumption) (by assumption)
        have oh : z95_23 ≤ z73_21 := SDA_le (n := (w30_6 8) 8) (l := lv9) (by omega) (by omega) (by assumption) (by assumption)
        refine TT_aload_n hK rfl 5 rfl dX0_lay_100 ?_
        refine TT_iload hK 4 rfl dX0_lay_101 ?_
        refine TT_iload hK 1 rfl dX0_lay_103 ?_
        refine TT_iconst hK dX0_lay_105 ?_
        refine TT_iload hK 3 rfl dX0_lay_106 ?_
        refine TT_iload hK 1 rfl dX0_lay_108 ?_
        refine TT_isub hK dX0_lay_110 ?_
        refine TT_iload hK 0 rfl dX0_lay_111 ?_
        have e24_10 : g95_23 10 = w30_6 10 := ((hG_23 10 (by decide))).trans (((hG_22 10 (by decide))).trans (((hG_21 10 (by decide))).trans (hG_19 10 (by decide))))
        have e25_11 : g95_23 11 = w30_6 11 := ((hG_23 11 (by decide))).trans (((hG_22 11 (by decide))).trans (((hG_21 11 (by decide))).trans (hG_19 11 (by decide))))
        have e26_12 : g95_23 12 = w30_6 12 := ((hG_23 12 (by decide))).trans (((hG_22 12 (by decide))).trans (((hG_21 12 (by decide))).trans (hG_19 12 (by decide))))
        have e27_13 : g95_23 13 = w30_6 13 := ((hG_23 13 (by decide))).trans (((hG_22 13 (by decide))).trans (((hG_21 13 (by decide))).trans (hG_19 13 (by decide))))
        refine iv_X0_50 hK (s_X0_layBand_8 ((3 * (((w30_6 8) 9) - lv9)) + 1) z84_22 0 (z60_19 - z84_22) z95_23 g95_23 hT_23 (by first | omega | (simp [up, setR] <;> omega)) (by first | omega | (simp [up, setR] <;> omega)) (by first | omega | (simp [up, setR] <;> omega)) (by first | omega | (simp [up, setR] <;> omega)) (by first | omega | (simp [up, setR] <;> omega)) (by first | omega | (simp [up, setR] <;> omega)) (by first | omega | (simp [up, setR] <;> omega)) (by rw [e24_10, e25_11, e26_12, e27_13]; assumption)) (by decide) rfl ⟨by decide, by decide⟩ (by decide) rfl rfl (Nat.le_of_ble_eq_true rfl) ⟨by decide, by decide⟩ dX0_lay_113 ?_
        intro r9 g113_28 hp9
        obtain ⟨⟨hT_28, hG_28⟩, hr9, p1_28⟩ := hp9
        rw [hr9]
        have hF_28 : FR [8, 10, 11, 12, 13] h g113_28 := FR_tr hF_23 hG_28 (by decide)
        show TT K ly 0 0 116 [(9, vI z95_23), (8, vI z84_22), (7, vI z73_21), (6, vI z60_19), (5, vI ((3 * (((w30_6 8) 9) - lv9)) + 1)), (0, vR 8), (4, vI lv9)] [] g113_28
        refine TT_aload_n hK rfl 5 rfl dX0_lay_116 ?_
        refine TT_iload hK 4 rfl dX0_lay_117 ?_
        refine TT_iconst hK dX0_lay_119 ?_
        refine TT_iadd hK dX0_lay_120 ?_
        refine TT_iconst hK dX0_lay_121 ?_
        refine TT_iload hK 0 rfl dX0_lay_122 ?_
        refine TT_iload hK 1 rfl dX0_lay_124 ?_
        refine TT_iload hK 2 rfl dX0_lay_126 ?_
        refine TT_iload hK 0 rfl dX0_lay_128 ?_
        refine TT_isub hK dX0_lay_130 ?_
        refine iv_X0_50 hK (s_X0_layBand_8 (((3 * (((w30_6 8) 9) - lv9)) + 1) + 1) 0 z95_23 z84_22 (z73_21 - z95_23) g113_28 hT_28 (by first | omega | (simp [up, setR] <;> omega)) (by first | omega | (simp [up, setR] <;> omega)) (by first | omega | (simp [up, setR] <;> omega)) (by first | omega | (simp [up, setR] <;> omega)) (by first | omega | (simp [up, setR] <;> omega)) (by first | omega | (simp [up, setR] <;> omega)) (by first | omega | (simp [up, setR] <;> omega)) (by assumption)) (by decide) rfl ⟨by decide, by decide⟩ (by decide) rfl rfl (Nat.le_of_ble_eq_true rfl) ⟨by decide, by decide⟩ dX0_lay_131 ?_
        intro r9 g131_29 hp9
        obtain ⟨⟨hT_29, hG_29⟩, hr9, p1_29⟩ := hp9
        rw [hr9]
        have hF_29 : FR [8, 10, 11, 12, 13] h g131_29 := FR_tr hF_28 hG_29 (by decide)
        show TT K ly 0 0 134 [(9, vI z95_23), (8, vI z84_22), (7, vI z73_21), (6, vI z60_19), (5, vI ((3 * (((w30_6 8) 9) - lv9)) + 1)), (0, vR 8), (4, vI lv9)] [] g131_29
        refine TT_aload_n hK rfl 5 rfl dX0_lay_134 ?_
        refine TT_iload hK 4 rfl dX0_lay_135 ?_
        refine TT_iconst hK dX0_lay_137 ?_
        refine TT_iadd hK dX0_lay_138 ?_
        refine TT_iload hK 1 rfl dX0_lay_139 ?_
        refine TT_iload hK 0 rfl dX0_lay_141 ?_
        refine TT_iload hK 3 rfl dX0_lay_143 ?_
        refine TT_iload hK 1 rfl dX0_lay_145 ?_
        refine TT_isub hK dX0_lay_147 ?_
        refine TT_iload hK 2 rfl dX0_lay_148 ?_
        refine TT_iload hK 0 rfl dX0_lay_150 ?_
        refine TT_isub hK dX0_lay_152 ?_
        refine iv_X0_50 hK (s_X0_layBand_8 (((3 * (((w30_6 8) 9) - lv9)) + 1) + 2) z84_22 z95_23 (z60_19 - z84_22) (z73_21 - z95_23) g131_29 hT_29 (by first | omega | (simp [up, setR] <;> omega)) (by first | omega | (simp [up, setR] <;> omega)) (by first | omega | (simp [up, setR] <;> omega)) (by first | omega | (simp [up, setR] <;> omega)) (by first | omega | (simp [up, setR] <;> omega)) (by first | omega | (simp [up, setR] <;> omega)) (by first | omega | (simp [up, setR] <;> omega)) (by assumption)) (by decide) rfl ⟨by decide, by decide⟩ (by decide) rfl rfl (Nat.le_of_ble_eq_true rfl) ⟨by decide, by decide⟩ dX0_lay_153 ?_
        intro r9 g153_30 hp9
        obtain ⟨⟨hT_30, hG_30⟩, hr9, p1_30⟩ := hp9
        rw [hr9]
        have hF_30 : FR [8, 10, 11, 12, 13] h g153_30 := FR_tr hF_29 hG_30 (by decide)
        show TT K ly 0 0 156 [(9, vI z95_23), (8, vI z84_22), (7, vI z73_21), (6, vI z60_19), (5, vI ((3 * (((w30_6 8) 9) - lv9)) + 1)), (0, vR 8), (4, vI lv9)] [] g153_30
        refine TT_iinc hK (v := lv9 + 1) (lv' := [(4, vI (lv9 + 1)), (9, vI z95_23), (8, vI z84_22), (7, vI z73_21), (6, vI z60_19), (5, vI ((3 * (((w30_6 8) 9) - lv9)) + 1)), (0, vR 8)]) 6 rfl rfl (by decide) rfl dX0_lay_156 ?_
        refine TT_goto hK (tgt := 30) dX0_lay_159 (by decide) ?_
        refine TT_sub [6, 0] rfl ?_
        exact ih6 (lv9 + 1) g153_30 hT_30 hF_30 (by first | omega | (simp [up, setR] <;> omega)) (by assumption) (by first | omega | (simp [up, setR] <;> omega))
  refine TT_sub [1, 0] rfl ?_
  have e31_10 : (setO h 8 (fup (fup (fup (fup (h 8) 7 wq) 8 eq) 9 lq) 10 ((3 * lq) + 1))) 10 = h 10 := sOf_ne _ _ (by decide)
  have e32_11 : (setO h 8 (fup (fup (fup (fup (h 8) 7 wq) 8 eq) 9 lq) 10 ((3 * lq) + 1))) 11 = h 11 := sOf_ne _ _ (by decide)
  have e33_12 : (setO h 8 (fup (fup (fup (fup (h 8) 7 wq) 8 eq) 9 lq) 10 ((3 * lq) + 1))) 12 = h 12 := sOf_ne _ _ (by decide)
  have e34_13 : (setO h 8 (fup (fup (fup (fup (h 8) 7 wq) 8 eq) 9 lq) 10 ((3 * lq) + 1))) 13 = h 13 := sOf_ne _ _ (by decide)
  exact L30_6 ((((4 : Int) - 1).toNat) + 1) 1 (setO h 8 (fup (fup (fup (fup (h 8) 7 wq) 8 eq) 9 lq) 10 ((3 * lq) + 1))) hT_5 hF_5 (by first | omega | (simp [up, setR] <;> omega)) (by rw [e31_10, e32_11, e33_12, e34_13]; exact hbd) (Nat.lt_succ_self _)
set_option maxRecDepth 20000 in
theorem s_X0_readPicture_8 (h : Hp_) (hT : TY h)  : Ctr yX0_readPicture cX0_readPicture 4 none (rmd 2) ly ly 0 0 [vR 8, vR 1] h (fun r h' => (TY h' ∧ FR [9] h h') ∧ r = none) := by
  refine Ctr_of (by decide) (Nat.le_of_ble_eq_true rfl) ⟨Nat.le_refl _, Nat.le_refl _⟩ (fun K hK hQ _ => ?_)
  show TT K ly 0 0 0 [(0, vR 8), (1, vR 1)] [] h
  have hF : FR [9] h h := FR_rf _ _
  refine TT_iconst hK dX0_readPicture_0 ?_
  refine TT_istore_n hK rfl (lv' := [(2, vI 0), (0, vR 8), (1, vR 1)]) (by decide) rfl dX0_readPicture_1 ?_
  have L2_1 : ∀ (k1 : Nat) (y : Int) (w2_1 : Hp_), TY w2_1 → FR [9] h w2_1 → (0 ≤ y ∧ y ≤ 8) → ((8 : Int) - y).toNat < k1 → TT K ly 0 0 2 [(0, vR 8), (1, vR 1), (2, vI y)] [] w2_1 := by
    intro k1
    induction k1 with
    | zero => intro y w2_1 hT2_1 hF2_1 hy hk1; exact absurd hk1 (Nat.not_lt_zero _)
    | succ k1 ih1 =>
      intro y w2_1 hT2_1 hF2_1 hy hk1
      refine TT_iload_n hK rfl 2 rfl dX0_readPicture_2 ?_
      refine TT_aload_n hK rfl 0 rfl dX0_readPicture_3 ?_
      refine gf_X0_37 hK (by decide) rfl (v := (h 8) 8) (rd_ (hF2_1 8 (by decide)) rfl) dX0_readPicture_4 ?_
      have r2 := ty_8_8 (v := (h 8) 8) hT2_1 (rd_ (hF2_1 8 (by decide)) rfl)
      refine TT_icmp_ge hK (tgt := 53) (irm (by omega) (by omega)) (irm (by omega) (by omega)) dX0_readPicture_7 (by decide) (fun hb7_3 => ?_) (fun hb7_3 => ?_)
      · refine TT_vret hK hQ ?_ dX0_readPicture_53
        exact ⟨⟨hT2_1, hF2_1⟩, rfl⟩
      · refine TT_iconst hK dX0_readPicture_10 ?_
        refine TT_istore_n hK rfl (lv' := [(3, vI 0), (0, vR 8), (1, vR 1), (2, vI y)]) (by decide) rfl dX0_readPicture_11 ?_
        have L12_4 : ∀ (k4 : Nat) (x : Int) (w12_4 : Hp_), TY w12_4 → FR [9] h w12_4 → (0 ≤ x ∧ x ≤ 8) → ((8 : Int) - x).toNat < k4 → TT K ly 0 0 12 [(0, vR 8), (1, vR 1), (2, vI y), (3, vI x)] [] w12_4 := by
          intro k4
          induction k4 with
          | zero => intro x w12_4 hT12_4 hF12_4 hx hk4; exact absurd hk4 (Nat.not_lt_zero _)
          | succ k4 ih4 =>
            intro x w12_4 hT12_4 hF12_4 hx hk4
            refine TT_iload_n hK rfl 3 rfl dX0_readPicture_12 ?_
            refine TT_aload_n hK rfl 0 rfl dX0_readPicture_13 ?_
            refine gf_X0_33 hK (by decide) rfl (v := (h 8) 7) (rd_ (hF12_4 8 (by decide)) rfl) dX0_readPicture_14 ?_
            have r5 := ty_8_7 (v := (h 8) 7) hT12_4 (rd_ (hF12_4 8 (by decide)) rfl)
            refine TT_icmp_ge hK (tgt := 47) (irm (by omega) (by omega)) (irm (by omega) (by omega)) dX0_readPicture_17 (by decide) (fun hb17_6 => ?_) (fun hb17_6 => ?_)
            · refine TT_iinc hK (v := y + 1) (lv' := [(2, vI (y + 1)), (0, vR 8), (1, vR 1), (3, vI x)]) 2 rfl rfl (by decide) rfl dX0_readPicture_47 ?_
              refine TT_goto hK (tgt := 2) dX0_readPicture_50 (by decide) ?_
              refine TT_sub [1, 2, 0] rfl ?_
              exact ih1 (y + 1) w12_4 hT12_4 hF12_4 (by first | omega | (simp [up, setR] <;> omega)) (by first | omega | (simp [up, setR] <;> omega))
            · refine TT_aload_n hK rfl 0 rfl dX0_readPicture_20 ?_
              refine gf_X0_9 hK (by decide) rfl (q := 9) rfl rfl dX0_readPicture_21 ?_
              refine TT_iload_n hK rfl 2 rfl dX0_readPicture_24 ?_
              refine TT_bipush hK (by decide) dX0_readPicture_25 ?_
              refine TT_imul hK dX0_readPicture_27 ?_
              refine TT_iload_n hK rfl 3 rfl dX0_readPicture_28 ?_
              refine TT_iadd hK dX0_readPicture_29 ?_
              refine TT_aload_n hK rfl 1 rfl dX0_readPicture_30 ?_
              refine TT_iload_n hK rfl 3 rfl dX0_readPicture_31 ?_
              refine TT_iload_n hK rfl 2 rfl dX0_readPicture_32 ?_
              refine iv_X0_63 hK (s_X5_at_1 x y w12_4 hT12_4 (by first | omega | (simp [up, setR] <;> omega)) (by first | omega | (simp [up, setR] <;> omega))) (by decide) rfl ⟨by decide, by decide⟩ (by decide) rfl rfl (Nat.le_of_ble_eq_true rfl) ⟨by decide, by decide⟩ dX0_readPicture_33 ?_
              intro r9 g33_7 hp9
              obtain ⟨⟨hT_7, hG_7⟩, z33_7, hr9, hz_7⟩ := hp9
              rw [hr9]
              have hF_7 : FR [9] h g33_7 := FR_tr hF12_4 hG_7 (by decide)
              show TT K ly 0 0 36 [(0, vR 8), (1, vR 1), (2, vI y), (3, vI x)] [vI z33_7, vI ((y * 8) + x), vR 9] g33_7
              refine TT_sipush hK (by decide) dX0_readPicture_36 ?_
              refine TT_isub hK dX0_readPicture_39 ?_
              refine TT_iast hK (o := 9) (n := 64) (by decide) rfl (by omega) (by omega) dX0_readPicture_40 ?_
              refine TT_hp (h' := setO g33_7 9 (fup (w12_4 9) ((y * 8) + x) (z33_7 - 128))) (up_can (hG_7 9 (by decide)) rfl rfl) ?_
              have hT_8 : TY (setO g33_7 9 (fup (w12_4 9) ((y * 8) + x) (z33_7 - 128))) := tu_9 hT_7 (show up g33_7 9 ((y * 8) + x) (z33_7 - 128) = (setO g33_7 9 (fup (w12_4 9) ((y * 8) + x) (z33_7 - 128))) from up_can (hG_7 9 (by decide)) rfl rfl) (by omega)
              have hF_8 : FR [9] h (setO g33_7 9 (fup (w12_4 9) ((y * 8) + x) (z33_7 - 128))) := FR_up (show up g33_7 9 ((y * 8) + x) (z33_7 - 128) = (setO g33_7 9 (fup (w12_4 9) ((y * 8) + x) (z33_7 - 128))) from up_can (hG_7 9 (by decide)) rfl rfl) hF_7 (by decide)
              refine TT_iinc hK (v := x + 1) (lv' := [(3, vI (x + 1)), (0, vR 8), (1, vR 1), (2, vI y)]) 3 rfl rfl (by decide) rfl dX0_readPicture_41 ?_
              refine TT_goto hK (tgt := 12) dX0_readPicture_44 (by decide) ?_
              refine TT_sub [1, 2, 3, 0] rfl ?_
              exact ih4 (x + 1) (setO g33_7 9 (fup (w12_4 9) ((y * 8) + x) (z33_7 - 128))) hT_8 hF_8 (by first | omega | (simp [up, setR] <;> omega)) (by first | omega | (simp [up, setR] <;> omega))
        refine TT_sub [1, 2, 3, 0] rfl ?_
        exact L12_4 ((((8 : Int) - 0).toNat) + 1) 0 w2_1 hT2_1 hF2_1 (by first | omega | (simp [up, setR] <;> omega)) (Nat.lt_succ_self _)
  refine TT_sub [1, 2, 0] rfl ?_
  exact L2_1 ((((8 : Int) - 0).toNat) + 1) 0 h hT hF (by first | omega | (simp [up, setR] <;> omega)) (Nat.lt_succ_self _)
set_option maxRecDepth 20000 in
theorem s_X0_writePicture_8 (h : Hp_) (hT : TY h)  : Ctr yX0_writePicture cX0_writePicture 5 none (rmd 2) ly ly 0 0 [vR 8, vR 1] h (fun r h' => (TY h' ∧ FR [1, 2] h h') ∧ r = none) := by
  refine Ctr_of (by decide) (Nat.le_of_ble_eq_true rfl) ⟨Nat.le_refl _, Nat.le_refl _⟩ (fun K hK hQ _ => ?_)
  show TT K ly 0 0 0 [(0, vR 8), (1, vR 1)] [] h
  have hF : FR [1, 2] h h := FR_rf _ _
  refine TT_aload_n hK rfl 1 rfl dX0_writePicture_0 ?_
  refine TT_aload_n hK rfl 0 rfl dX0_writePicture_1 ?_
  refine gf_X0_33 hK (by decide) rfl (v := (h 8) 7) rfl dX0_writePicture_2 ?_
  have r1 := ty_8_7 (v := (h 8) 7) hT rfl
  refine TT_aload_n hK rfl 0 rfl dX0_writePicture_5 ?_
  refine gf_X0_37 hK (by decide) rfl (v := (h 8) 8) rfl dX0_writePicture_6 ?_
  have r2 := ty_8_8 (v := (h 8) 8) hT rfl
  refine iv_X0_68 hK (s_X5_begin_1 ((h 8) 7) ((h 8) 8) h hT (by first | omega | (simp [up, setR] <;> omega)) (by first | omega | (simp [up, setR] <;> omega))) (by decide) rfl ⟨by decide, by decide⟩ (by decide) rfl rfl (Nat.le_of_ble_eq_true rfl) ⟨by decide, by decide⟩ dX0_writePicture_9 ?_
  intro r9 g9_3 hp9
  obtain ⟨⟨hT_3, hG_3⟩, hr9⟩ := hp9
  rw [hr9]
  have hF_3 : FR [1, 2] h g9_3 := FR_tr hF hG_3 (by decide)
  show TT K ly 0 0 12 [(0, vR 8), (1, vR 1)] [] g9_3
  refine TT_iconst hK dX0_writePicture_12 ?_
  refine TT_istore_n hK rfl (lv' := [(2, vI 0), (0, vR 8), (1, vR 1)]) (by decide) rfl dX0_writePicture_13 ?_
  have L14_4 : ∀ (k4 : Nat) (y : Int) (w14_4 : Hp_), TY w14_4 → FR [1, 2] h w14_4 → (0 ≤ y ∧ y ≤ 8) → ((8 : Int) - y).toNat < k4 → TT K ly 0 0 14 [(0, vR 8), (1, vR 1), (2, vI y)] [] w14_4 := by
    intro k4
    induction k4 with
    | zero => intro y w14_4 hT14_4 hF14_4 hy hk4; exact absurd hk4 (Nat.not_lt_zero _)
    | succ k4 ih4 =>
      intro y w14_4 hT14_4 hF14_4 hy hk4
      refine TT_iload_n hK rfl 2 rfl dX0_writePicture_14 ?_
      refine TT_aload_n hK rfl 0 rfl dX0_writePicture_15 ?_
      refine gf_X0_37 hK (by decide) rfl (v := (h 8) 8) (rd_ (hF14_4 8 (by decide)) rfl) dX0_writePicture_16 ?_
      have r5 := ty_8_8 (v := (h 8) 8) hT14_4 (rd_ (hF14_4 8 (by decide)) rfl)
      refine TT_icmp_ge hK (tgt := 79) (irm (by omega) (by omega)) (irm (by omega) (by omega)) dX0_writePicture_19 (by decide) (fun hb19_6 => ?_) (fun hb19_6 => ?_)
      · refine TT_vret hK hQ ?_ dX0_writePicture_79
        exact ⟨⟨hT14_4, hF14_4⟩, rfl⟩
      · refine TT_iconst hK dX0_writePicture_22 ?_
        refine TT_istore_n hK rfl (lv' := [(3, vI 0), (0, vR 8), (1, vR 1), (2, vI y)]) (by decide) rfl dX0_writePicture_23 ?_
        have L24_7 : ∀ (k7 : Nat) (x : Int) (w24_7 : Hp_), TY w24_7 → FR [1, 2] h w24_7 → (0 ≤ x ∧ x ≤ 8) → ((8 : Int) - x).toNat < k7 → TT K ly 0 0 24 [(0, vR 8), (1, vR 1), (2, vI y), (3, vI x)] [] w24_7 := by
          intro k7
          induction k7 with
          | zero => intro x w24_7 hT24_7 hF24_7 hx hk7; exact absurd hk7 (Nat.not_lt_zero _)
          | succ k7 ih7 =>
            intro x w24_7 hT24_7 hF24_7 hx hk7
            refine TT_iload_n hK rfl 3 rfl dX0_writePicture_24 ?_
            refine TT_aload_n hK rfl 0 rfl dX0_writePicture_25 ?_
            refine gf_X0_33 hK (by decide) rfl (v := (h 8) 7) (rd_ (hF24_7 8 (by decide)) rfl) dX0_writePicture_26 ?_
            have r8 := ty_8_7 (v := (h 8) 7) hT24_7 (rd_ (hF24_7 8 (by decide)) rfl)
            refine TT_icmp_ge hK (tgt := 73) (irm (by omega) (by omega)) (irm (by omega) (by omega)) dX0_writePicture_29 (by decide) (fun hb29_9 => ?_) (fun hb29_9 => ?_)
            · refine TT_iinc hK (v := y + 1) (lv' := [(2, vI (y + 1)), (0, vR 8), (1, vR 1), (3, vI x)]) 2 rfl rfl (by decide) rfl dX0_writePicture_73 ?_
              refine TT_goto hK (tgt := 14) dX0_writePicture_76 (by decide) ?_
              refine TT_sub [1, 2, 0] rfl ?_
              exact ih4 (y + 1) w24_7 hT24_7 hF24_7 (by first | omega | (simp [up, setR] <;> omega)) (by first | omega | (simp [up, setR] <;> omega))
            · refine TT_aload_n hK rfl 0 rfl dX0_writePicture_32 ?_
              refine gf_X0_9 hK (by decide) rfl (q := 9) rfl rfl dX0_writePicture_33 ?_
              refine TT_iload_n hK rfl 2 rfl dX0_writePicture_36 ?_
              refine TT_bipush hK (by decide) dX0_writePicture_37 ?_
              refine TT_imul hK dX0_writePicture_39 ?_
              refine TT_iload_n hK rfl 3 rfl dX0_writePicture_40 ?_
              refine TT_iadd hK dX0_writePicture_41 ?_
              refine TT_iald hK (o := 9) (n := 64) (by decide) rfl (by first | omega | (simp [up, setR] <;> omega)) (by first | omega | (simp [up, setR] <;> omega)) (v := (h 9) ((y * 8) + x)) (rd_ (hF24_7 9 (by decide)) rfl) dX0_writePicture_42 ?_
              have r10 := ty_9 (i := (y * 8) + x) (v := (h 9) ((y * 8) + x)) hT24_7 (rd_ (hF24_7 9 (by decide)) rfl) (by omega) (by omega)
              refine TT_sipush hK (by decide) dX0_writePicture_43 ?_
              refine TT_iadd hK dX0_writePicture_46 ?_
              refine TT_w32 (fun x47_11 hx11 => ?_)
              refine TT_istore hK (lv' := [(4, vI x47_11), (0, vR 8), (1, vR 1), (2, vI y), (3, vI x)]) (by decide) rfl dX0_writePicture_47 ?_
              refine TT_aload_n hK rfl 2 rfl dX0_writePicture_49 ?_
              refine TT_iload_n hK rfl 4 rfl dX0_writePicture_50 ?_
              refine TT_iload_n hK rfl 3 rfl dX0_writePicture_51 ?_
              refine TT_iconst hK dX0_writePicture_52 ?_
              refine TT_sipush hK (by decide) dX0_writePicture_53 ?_
              refine TT_iload hK 0 rfl dX0_writePicture_56 ?_
              refine TT_mmin hK (by decide) (irm (by omega) (by omega)) iw_X0_72 (by decide) (Nat.le_of_ble_eq_true rfl) ⟨by decide, by decide⟩ dX0_writePicture_58 ?_
              refine TT_mmax hK (by decide) (irm (by omega) (by omega)) iw_X0_77 (by decide) (Nat.le_of_ble_eq_true rfl) ⟨by decide, by decide⟩ dX0_writePicture_61 ?_
              refine iv_X0_80 hK (s_X5_set_1 x y (max 0 (min 255 x47_11)) w24_7 hT24_7 (by first | omega | (simp [up, setR] <;> omega)) (by first | omega | (simp [up, setR] <;> omega)) (by first | omega | (simp [up, setR] <;> omega))) (by decide) rfl ⟨by decide, by decide⟩ (by decide) rfl rfl (Nat.le_of_ble_eq_true rfl) ⟨by decide, by decide⟩ dX0_writePicture_64 ?_
              intro r9 g64_12 hp9
              obtain ⟨⟨hT_12, hG_12⟩, hr9⟩ := hp9
              rw [hr9]
              have hF_12 : FR [1, 2] h g64_12 := FR_tr hF24_7 hG_12 (by decide)
              show TT K ly 0 0 67 [(4, vI x47_11), (0, vR 8), (1, vR 1), (2, vI y), (3, vI x)] [] g64_12
              refine TT_iinc hK (v := x + 1) (lv' := [(3, vI (x + 1)), (4, vI x47_11), (0, vR 8), (1, vR 1), (2, vI y)]) 4 rfl rfl (by decide) rfl dX0_writePicture_67 ?_
              refine TT_goto hK (tgt := 24) dX0_writePicture_70 (by decide) ?_
              refine TT_sub [2, 3, 4, 0] rfl ?_
              exact ih7 (x + 1) g64_12 hT_12 hF_12 (by first | omega | (simp [up, setR] <;> omega)) (by first | omega | (simp [up, setR] <;> omega))
        refine TT_sub [1, 2, 3, 0] rfl ?_
        exact L24_7 ((((8 : Int) - 0).toNat) + 1) 0 w14_4 hT14_4 hF14_4 (by first | omega | (simp [up, setR] <;> omega)) (Nat.lt_succ_self _)
  refine TT_sub [1, 2, 0] rfl ?_
  exact L14_4 ((((8 : Int) - 0).toNat) + 1) 0 g9_3 hT_3 hF_3 (by first | omega | (simp [up, setR] <;> omega)) (Nat.lt_succ_self _)
set_option maxRecDepth 20000 in
theorem s_readLine_8_8 (a n : Int) (h : Hp_) (hT : TY h) (ha : 0 ≤ a ∧ a ≤ 7) (hn : 0 ≤ n ∧ n ≤ 8) : Ctr yX0_readLine cX0_readLine 5 none (rmd 0) ly ly 0 0 [vR 8, vI a, vI 8, vI n] h (fun r h' => (TY h' ∧ FR [14] h h') ∧ r = none) := by
  refine Ctr_of (by decide) (Nat.le_of_ble_eq_true rfl) ⟨Nat.le_refl _, Nat.le_refl _⟩ (fun K hK hQ _ => ?_)
  show TT K ly 0 0 0 [(0, vR 8), (1, vI a), (2, vI 8), (3, vI n)] [] h
  have hF : FR [14] h h := FR_rf _ _
  refine TT_iconst hK dX0_readLine_0 ?_
  refine TT_istore hK (lv' := [(4, vI 0), (0, vR 8), (1, vI a), (2, vI 8), (3, vI n)]) (by decide) rfl dX0_readLine_1 ?_
  have L3_1 : ∀ (k1 : Nat) (i : Int) (w3_1 : Hp_), TY w3_1 → FR [14] h w3_1 → (0 ≤ i ∧ i ≤ 8) → ((8 : Int) - i).toNat < k1 → TT K ly 0 0 3 [(0, vR 8), (1, vI a), (2, vI 8), (3, vI n), (4, vI i)] [] w3_1 := by
    intro k1
    induction k1 with
    | zero => intro i w3_1 hT3_1 hF3_1 hi hk1; exact absurd hk1 (Nat.not_lt_zero _)
    | succ k1 ih1 =>
      intro i w3_1 hT3_1 hF3_1 hi hk1
      refine TT_iload hK 4 rfl dX0_readLine_3 ?_
      refine TT_iload_n hK rfl 3 rfl dX0_readLine_5 ?_
      refine TT_icmp_ge hK (tgt := 33) (irm (by omega) (by omega)) (irm (by omega) (by omega)) dX0_readLine_6 (by decide) (fun hb6_2 => ?_) (fun hb6_2 => ?_)
      · refine TT_vret hK hQ ?_ dX0_readLine_33
        exact ⟨⟨hT3_1, hF3_1⟩, rfl⟩
      · refine TT_aload_n hK rfl 0 rfl dX0_readLine_9 ?_
        refine gf_X0_27 hK (by decide) rfl (q := 14) rfl rfl dX0_readLine_10 ?_
        refine TT_iload hK 4 rfl dX0_readLine_13 ?_
        refine TT_aload_n hK rfl 0 rfl dX0_readLine_15 ?_
        refine gf_X0_9 hK (by decide) rfl (q := 9) rfl rfl dX0_readLine_16 ?_
        refine TT_iload_n hK rfl 1 rfl dX0_readLine_19 ?_
        refine TT_iload hK 4 rfl dX0_readLine_20 ?_
        refine TT_iload_n hK rfl 2 rfl dX0_readLine_22 ?_
        refine TT_imul hK dX0_readLine_23 ?_
        refine TT_iadd hK dX0_readLine_24 ?_
        refine TT_iald hK (o := 9) (n := 64) (by decide) rfl (by first | omega | (simp [up, setR] <;> omega)) (by first | omega | (simp [up, setR] <;> omega)) (v := (h 9) (a + (i * 8))) (rd_ (hF3_1 9 (by decide)) rfl) dX0_readLine_25 ?_
        have r3 := ty_9 (i := a + (i * 8)) (v := (h 9) (a + (i * 8))) hT3_1 (rd_ (hF3_1 9 (by decide)) rfl) (by omega) (by omega)
        refine TT_iast hK (o := 14) (n := 8) (by decide) rfl (by omega) (by omega) dX0_readLine_26 ?_
        refine TT_hp (h' := setO w3_1 14 (fup (w3_1 14) i ((h 9) (a + (i * 8))))) (up_can rfl rfl rfl) ?_
        have hT_4 : TY (setO w3_1 14 (fup (w3_1 14) i ((h 9) (a + (i * 8))))) := tu_14 hT3_1 (show up w3_1 14 i ((h 9) (a + (i * 8))) = (setO w3_1 14 (fup (w3_1 14) i ((h 9) (a + (i * 8))))) from up_can rfl rfl rfl) (by omega)
        have hF_4 : FR [14] h (setO w3_1 14 (fup (w3_1 14) i ((h 9) (a + (i * 8))))) := FR_up (show up w3_1 14 i ((h 9) (a + (i * 8))) = (setO w3_1 14 (fup (w3_1 14) i ((h 9) (a + (i * 8))))) from up_can rfl rfl rfl) hF3_1 (by decide)
        refine TT_iinc hK (v := i + 1) (lv' := [(4, vI (i + 1)), (0, vR 8), (1, vI a), (2, vI 8), (3, vI n)]) 4 rfl rfl (by decide) rfl dX0_readLine_27 ?_
        refine TT_goto hK (tgt := 3) dX0_readLine_30 (by decide) ?_
        refine TT_sub [1, 2, 3, 4, 0] rfl ?_
        exact ih1 (i + 1) (setO w3_1 14 (fup (w3_1 14) i ((h 9) (a + (i * 8))))) hT_4 hF_4 (by first | omega | (simp [up, setR] <;> omega)) (by first | omega | (simp [up, setR] <;> omega))
  refine TT_sub [1, 2, 3, 4, 0] rfl ?_
  exact L3_1 ((((8 : Int) - 0).toNat) + 1) 0 h hT hF (by first | omega | (simp [up, setR] <;> omega)) (Nat.lt_succ_self _)
set_option maxRecDepth 20000 in
theorem s_writeLine_8_8 (a n : Int) (h : Hp_) (hT : TY h) (ha : 0 ≤ a ∧ a ≤ 7) (hn : 0 ≤ n ∧ n ≤ 8) : Ctr yX0_writeLine cX0_writeLine 5 none (rmd 0) ly ly 0 0 [vR 8, vI a, vI 8, vI n] h (fun r h' => (TY h' ∧ FR [9] h h') ∧ r = none) := by
  refine Ctr_of (by decide) (Nat.le_of_ble_eq_true rfl) ⟨Nat.le_refl _, Nat.le_refl _⟩ (fun K hK hQ _ => ?_)
  show TT K ly 0 0 0 [(0, vR 8), (1, vI a), (2, vI 8), (3, vI n)] [] h
  have hF : FR [9] h h := FR_rf _ _
  refine TT_iconst hK dX0_writeLine_0 ?_
  refine TT_istore hK (lv' := [(4, vI 0), (0, vR 8), (1, vI a), (2, vI 8), (3, vI n)]) (by decide) rfl dX0_writeLine_1 ?_
  have L3_1 : ∀ (k1 : Nat) (i : Int) (w3_1 : Hp_), TY w3_1 → FR [9] h w3_1 → (0 ≤ i ∧ i ≤ 8) → ((8 : Int) - i).toNat < k1 → TT K ly 0 0 3 [(0, vR 8), (1, vI a), (2, vI 8), (3, vI n), (4, vI i)] [] w3_1 := by
    intro k1
    induction k1 with
    | zero => intro i w3_1 hT3_1 hF3_1 hi hk1; exact absurd hk1 (Nat.not_lt_zero _)
    | succ k1 ih1 =>
      intro i w3_1 hT3_1 hF3_1 hi hk1
      refine TT_iload hK 4 rfl dX0_writeLine_3 ?_
      refine TT_iload_n hK rfl 3 rfl dX0_writeLine_5 ?_
      refine TT_icmp_ge hK (tgt := 33) (irm (by omega) (by omega)) (irm (by omega) (by omega)) dX0_writeLine_6 (by decide) (fun hb6_2 => ?_) (fun hb6_2 => ?_)
      · refine TT_vret hK hQ ?_ dX0_writeLine_33
        exact ⟨⟨hT3_1, hF3_1⟩, rfl⟩
      · refine TT_aload_n hK rfl 0 rfl dX0_writeLine_9 ?_
        refine gf_X0_9 hK (by decide) rfl (q := 9) rfl rfl dX0_writeLine_10 ?_
        refine TT_iload_n hK rfl 1 rfl dX0_writeLine_13 ?_
        refine TT_iload hK 4 rfl dX0_writeLine_14 ?_
        refine TT_iload_n hK rfl 2 rfl dX0_writeLine_16 ?_
        refine TT_imul hK dX0_writeLine_17 ?_
        refine TT_iadd hK dX0_writeLine_18 ?_
        refine TT_aload_n hK rfl 0 rfl dX0_writeLine_19 ?_
        refine gf_X0_30 hK (by decide) rfl (q := 15) rfl rfl dX0_writeLine_20 ?_
        refine TT_iload hK 4 rfl dX0_writeLine_23 ?_
        refine TT_iald hK (o := 15) (n := 8) (by decide) rfl (by first | omega | (simp [up, setR] <;> omega)) (by first | omega | (simp [up, setR] <;> omega)) (v := (h 15) i) (rd_ (hF3_1 15 (by decide)) rfl) dX0_writeLine_25 ?_
        have r3 := ty_15 (i := i) (v := (h 15) i) hT3_1 (rd_ (hF3_1 15 (by decide)) rfl) (by omega) (by omega)
        refine TT_iast hK (o := 9) (n := 64) (by decide) rfl (by omega) (by omega) dX0_writeLine_26 ?_
        refine TT_hp (h' := setO w3_1 9 (fup (w3_1 9) (a + (i * 8)) ((h 15) i))) (up_can rfl rfl rfl) ?_
        have hT_4 : TY (setO w3_1 9 (fup (w3_1 9) (a + (i * 8)) ((h 15) i))) := tu_9 hT3_1 (show up w3_1 9 (a + (i * 8)) ((h 15) i) = (setO w3_1 9 (fup (w3_1 9) (a + (i * 8)) ((h 15) i))) from up_can rfl rfl rfl) (by omega)
        have hF_4 : FR [9] h (setO w3_1 9 (fup (w3_1 9) (a + (i * 8)) ((h 15) i))) := FR_up (show up w3_1 9 (a + (i * 8)) ((h 15) i) = (setO w3_1 9 (fup (w3_1 9) (a + (i * 8)) ((h 15) i))) from up_can rfl rfl rfl) hF3_1 (by decide)
        refine TT_iinc hK (v := i + 1) (lv' := [(4, vI (i + 1)), (0, vR 8), (1, vI a), (2, vI 8), (3, vI n)]) 4 rfl rfl (by decide) rfl dX0_writeLine_27 ?_
        refine TT_goto hK (tgt := 3) dX0_writeLine_30 (by decide) ?_
        refine TT_sub [1, 2, 3, 4, 0] rfl ?_
        exact ih1 (i + 1) (setO w3_1 9 (fup (w3_1 9) (a + (i * 8)) ((h 15) i))) hT_4 hF_4 (by first | omega | (simp [up, setR] <;> omega)) (by first | omega | (simp [up, setR] <;> omega))
  refine TT_sub [1, 2, 3, 4, 0] rfl ?_
  exact L3_1 ((((8 : Int) - 0).toNat) + 1) 0 h hT hF (by first | omega | (simp [up, setR] <;> omega)) (Nat.lt_succ_self _)
set_option maxRecDepth 20000 in
theorem s_readLine_8_1 (a n : Int) (h : Hp_) (hT : TY h) (ha : 0 ≤ a ∧ a ≤ 56) (hn : 0 ≤ n ∧ n ≤ 8) : Ctr yX0_readLine cX0_readLine 5 none (rmd 0) ly ly 0 0 [vR 8, vI a, vI 1, vI n] h (fun r h' => (TY h' ∧ FR [14] h h') ∧ r = none) := by
  refine Ctr_of (by decide) (Nat.le_of_ble_eq_true rfl) ⟨Nat.le_refl _, Nat.le_refl _⟩ (fun K hK hQ _ => ?_)
  show TT K ly 0 0 0 [(0, vR 8), (1, vI a), (2, vI 1), (3, vI n)] [] h
  have hF : FR [14] h h := FR_rf _ _
  refine TT_iconst hK dX0_readLine_0 ?_
  refine TT_istore hK (lv' := [(4, vI 0), (0, vR 8), (1, vI a), (2, vI 1), (3, vI n)]) (by decide) rfl dX0_readLine_1 ?_
  have L3_1 : ∀ (k1 : Nat) (i : Int) (w3_1 : Hp_), TY w3_1 → FR [14] h w3_1 → (0 ≤ i ∧ i ≤ 8) → ((8 : Int) - i).toNat < k1 → TT K ly 0 0 3 [(0, vR 8), (1, vI a), (2, vI 1), (3, vI n), (4, vI i)] [] w3_1 := by
    intro k1
    induction k1 with
    | zero => intro i w3_1 hT3_1 hF3_1 hi hk1; exact absurd hk1 (Nat.not_lt_zero _)
    | succ k1 ih1 =>
      intro i w3_1 hT3_1 hF3_1 hi hk1
      refine TT_iload hK 4 rfl dX0_readLine_3 ?_
      refine TT_iload_n hK rfl 3 rfl dX0_readLine_5 ?_
      refine TT_icmp_ge hK (tgt := 33) (irm (by omega) (by omega)) (irm (by omega) (by omega)) dX0_readLine_6 (by decide) (fun hb6_2 => ?_) (fun hb6_2 => ?_)
      · refine TT_vret hK hQ ?_ dX0_readLine_33
        exact ⟨⟨hT3_1, hF3_1⟩, rfl⟩
      · refine TT_aload_n hK rfl 0 rfl dX0_readLine_9 ?_
        refine gf_X0_27 hK (by decide) rfl (q := 14) rfl rfl dX0_readLine_10 ?_
        refine TT_iload hK 4 rfl dX0_readLine_13 ?_
        refine TT_aload_n hK rfl 0 rfl dX0_readLine_15 ?_
        refine gf_X0_9 hK (by decide) rfl (q := 9) rfl rfl dX0_readLine_16 ?_
        refine TT_iload_n hK rfl 1 rfl dX0_readLine_19 ?_
        refine TT_iload hK 4 rfl dX0_readLine_20 ?_
        refine TT_iload_n hK rfl 2 rfl dX0_readLine_22 ?_
        refine TT_imul hK dX0_readLine_23 ?_
        refine TT_iadd hK dX0_readLine_24 ?_
        refine TT_iald hK (o := 9) (n := 64) (by decide) rfl (by first | omega | (simp [up, setR] <;> omega)) (by first | omega | (simp [up, setR] <;> omega)) (v := (h 9) (a + (i * 1))) (rd_ (hF3_1 9 (by decide)) rfl) dX0_readLine_25 ?_
        have r3 := ty_9 (i := a + (i * 1)) (v := (h 9) (a + (i * 1))) hT3_1 (rd_ (hF3_1 9 (by decide)) rfl) (by omega) (by omega)
        refine TT_iast hK (o := 14) (n := 8) (by decide) rfl (by omega) (by omega) dX0_readLine_26 ?_
        refine TT_hp (h' := setO w3_1 14 (fup (w3_1 14) i ((h 9) (a + (i * 1))))) (up_can rfl rfl rfl) ?_
        have hT_4 : TY (setO w3_1 14 (fup (w3_1 14) i ((h 9) (a + (i * 1))))) := tu_14 hT3_1 (show up w3_1 14 i ((h 9) (a + (i * 1))) = (setO w3_1 14 (fup (w3_1 14) i ((h 9) (a + (i * 1))))) from up_can rfl rfl rfl) (by omega)
        have hF_4 : FR [14] h (setO w3_1 14 (fup (w3_1 14) i ((h 9) (a + (i * 1))))) := FR_up (show up w3_1 14 i ((h 9) (a + (i * 1))) = (setO w3_1 14 (fup (w3_1 14) i ((h 9) (a + (i * 1))))) from up_can rfl rfl rfl) hF3_1 (by decide)
        refine TT_iinc hK (v := i + 1) (lv' := [(4, vI (i + 1)), (0, vR 8), (1, vI a), (2, vI 1), (3, vI n)]) 4 rfl rfl (by decide) rfl dX0_readLine_27 ?_
        refine TT_goto hK (tgt := 3) dX0_readLine_30 (by decide) ?_
        refine TT_sub [1, 2, 3, 4, 0] rfl ?_
        exact ih1 (i + 1) (setO w3_1 14 (fup (w3_1 14) i ((h 9) (a + (i * 1))))) hT_4 hF_4 (by first | omega | (simp [up, setR] <;> omega)) (by first | omega | (simp [up, setR] <;> omega))
  refine TT_sub [1, 2, 3, 4, 0] rfl ?_
  exact L3_1 ((((8 : Int) - 0).toNat) + 1) 0 h hT hF (by first | omega | (simp [up, setR] <;> omega)) (Nat.lt_succ_self _)
set_option maxRecDepth 20000 in
theorem s_writeLine_8_1 (a n : Int) (h : Hp_) (hT : TY h) (ha : 0 ≤ a ∧ a ≤ 56) (hn : 0 ≤ n ∧ n ≤ 8) : Ctr yX0_writeLine cX0_writeLine 5 none (rmd 0) ly ly 0 0 [vR 8, vI a, vI 1, vI n] h (fun r h' => (TY h' ∧ FR [9] h h') ∧ r = none) := by
  refine Ctr_of (by decide) (Nat.le_of_ble_eq_true rfl) ⟨Nat.le_refl _, Nat.le_refl _⟩ (fun K hK hQ _ => ?_)
  show TT K ly 0 0 0 [(0, vR 8), (1, vI a), (2, vI 1), (3, vI n)] [] h
  have hF : FR [9] h h := FR_rf _ _
  refine TT_iconst hK dX0_writeLine_0 ?_
  refine TT_istore hK (lv' := [(4, vI 0), (0, vR 8), (1, vI a), (2, vI 1), (3, vI n)]) (by decide) rfl dX0_writeLine_1 ?_
  have L3_1 : ∀ (k1 : Nat) (i : Int) (w3_1 : Hp_), TY w3_1 → FR [9] h w3_1 → (0 ≤ i ∧ i ≤ 8) → ((8 : Int) - i).toNat < k1 → TT K ly 0 0 3 [(0, vR 8), (1, vI a), (2, vI 1), (3, vI n), (4, vI i)] [] w3_1 := by
    intro k1
    induction k1 with
    | zero => intro i w3_1 hT3_1 hF3_1 hi hk1; exact absurd hk1 (Nat.not_lt_zero _)
    | succ k1 ih1 =>
      intro i w3_1 hT3_1 hF3_1 hi hk1
      refine TT_iload hK 4 rfl dX0_writeLine_3 ?_
      refine TT_iload_n hK rfl 3 rfl dX0_writeLine_5 ?_
      refine TT_icmp_ge hK (tgt := 33) (irm (by omega) (by omega)) (irm (by omega) (by omega)) dX0_writeLine_6 (by decide) (fun hb6_2 => ?_) (fun hb6_2 => ?_)
      · refine TT_vret hK hQ ?_ dX0_writeLine_33
        exact ⟨⟨hT3_1, hF3_1⟩, rfl⟩
      · refine TT_aload_n hK rfl 0 rfl dX0_writeLine_9 ?_
        refine gf_X0_9 hK (by decide) rfl (q := 9) rfl rfl dX0_writeLine_10 ?_
        refine TT_iload_n hK rfl 1 rfl dX0_writeLine_13 ?_
        refine TT_iload hK 4 rfl dX0_writeLine_14 ?_
        refine TT_iload_n hK rfl 2 rfl dX0_writeLine_16 ?_
        refine TT_imul hK dX0_writeLine_17 ?_
        refine TT_iadd hK dX0_writeLine_18 ?_
        refine TT_aload_n hK rfl 0 rfl dX0_writeLine_19 ?_
        refine gf_X0_30 hK (by decide) rfl (q := 15) rfl rfl dX0_writeLine_20 ?_
        refine TT_iload hK 4 rfl dX0_writeLine_23 ?_
        refine TT_iald hK (o := 15) (n := 8) (by decide) rfl (by first | omega | (simp [up, setR] <;> omega)) (by first | omega | (simp [up, setR] <;> omega)) (v := (h 15) i) (rd_ (hF3_1 15 (by decide)) rfl) dX0_writeLine_25 ?_
        have r3 := ty_15 (i := i) (v := (h 15) i) hT3_1 (rd_ (hF3_1 15 (by decide)) rfl) (by omega) (by omega)
        refine TT_iast hK (o := 9) (n := 64) (by decide) rfl (by omega) (by omega) dX0_writeLine_26 ?_
        refine TT_hp (h' := setO w3_1 9 (fup (w3_1 9) (a + (i * 1)) ((h 15) i))) (up_can rfl rfl rfl) ?_
        have hT_4 : TY (setO w3_1 9 (fup (w3_1 9) (a + (i * 1)) ((h 15) i))) := tu_9 hT3_1 (show up w3_1 9 (a + (i * 1)) ((h 15) i) = (setO w3_1 9 (fup (w3_1 9) (a + (i * 1)) ((h 15) i))) from up_can rfl rfl rfl) (by omega)
        have hF_4 : FR [9] h (setO w3_1 9 (fup (w3_1 9) (a + (i * 1)) ((h 15) i))) := FR_up (show up w3_1 9 (a + (i * 1)) ((h 15) i) = (setO w3_1 9 (fup (w3_1 9) (a + (i * 1)) ((h 15) i))) from up_can rfl rfl rfl) hF3_1 (by decide)
        refine TT_iinc hK (v := i + 1) (lv' := [(4, vI (i + 1)), (0, vR 8), (1, vI a), (2, vI 1), (3, vI n)]) 4 rfl rfl (by decide) rfl dX0_writeLine_27 ?_
        refine TT_goto hK (tgt := 3) dX0_writeLine_30 (by decide) ?_
        refine TT_sub [1, 2, 3, 4, 0] rfl ?_
        exact ih1 (i + 1) (setO w3_1 9 (fup (w3_1 9) (a + (i * 1)) ((h 15) i))) hT_4 hF_4 (by first | omega | (simp [up, setR] <;> omega)) (by first | omega | (simp [up, setR] <;> omega))
  refine TT_sub [1, 2, 3, 4, 0] rfl ?_
  exact L3_1 ((((8 : Int) - 0).toNat) + 1) 0 h hT hF (by first | omega | (simp [up, setR] <;> omega)) (Nat.lt_succ_self _)
set_option maxRecDepth 20000 in
theorem s_fourth_15 (k n : Int) (h : Hp_) (hT : TY h) (hn : 2 ≤ n ∧ n ≤ 8) (hk : 0 ≤ k ∧ k < (n + 1) / 2) : Ctr yX0_fourth cX0_fourth 6 (some .int) (rmd 1) ly ly 0 0 [vR 15, vI k, vI n] h (fun r h' => (TY h' ∧ FR [] h h') ∧ ∃ z : Int, r = some (vI z) ∧ (-2147483648 ≤ z ∧ z ≤ 2147483647)) := by
  refine Ctr_of (by decide) (Nat.le_of_ble_eq_true rfl) ⟨Nat.le_refl _, Nat.le_refl _⟩ (fun K hK hQ _ => ?_)
  show TT K ly 0 0 0 [(0, vR 15), (1, vI k), (2, vI n)] [] h
  have hF : FR [] h h := FR_rf _ _
  refine TT_iload_n hK rfl 2 rfl dX0_fourth_0 ?_
  refine TT_iconst hK dX0_fourth_1 ?_
  refine TT_iadd hK dX0_fourth_2 ?_
  refine TT_iconst hK dX0_fourth_3 ?_
  refine TT_idivn hK (irm (by omega) (by omega)) (by decide) (by first | omega | (simp [up, setR] <;> omega)) (by first | omega | (simp [up, setR] <;> omega)) dX0_fourth_4 ?_
  refine TT_istore_n hK rfl (lv' := [(3, vI ((n + 1) / 2)), (0, vR 15), (1, vI k), (2, vI n)]) (by decide) rfl dX0_fourth_5 ?_
  refine TT_aload_n hK rfl 1 rfl dX0_fourth_6 ?_
  refine TT_iload_n hK rfl 0 rfl dX0_fourth_7 ?_
  refine TT_iload_n hK rfl 2 rfl dX0_fourth_8 ?_
  refine TT_iconst hK dX0_fourth_9 ?_
  refine TT_isub hK dX0_fourth_10 ?_
  refine TT_iconst hK dX0_fourth_11 ?_
  refine TT_mmax hK (irm (by omega) (by omega)) (by decide) iw_X0_77 (by decide) (Nat.le_of_ble_eq_true rfl) ⟨by decide, by decide⟩ dX0_fourth_12 ?_
  refine TT_iadd hK dX0_fourth_15 ?_
  refine TT_iald hK (o := 15) (n := 8) (by decide) rfl (by first | omega | (simp [up, setR] <;> omega)) (by first | omega | (simp [up, setR] <;> omega)) (v := (h 15) (((n + 1) / 2) + (max (k - 1) 0))) rfl dX0_fourth_16 ?_
  have r1 := ty_15 (i := ((n + 1) / 2) + (max (k - 1) 0)) (v := (h 15) (((n + 1) / 2) + (max (k - 1) 0))) hT rfl (by omega) (by omega)
  refine TT_istore hK (lv' := [(4, vI ((h 15) (((n + 1) / 2) + (max (k - 1) 0)))), (3, vI ((n + 1) / 2)), (0, vR 15), (1, vI k), (2, vI n)]) (by decide) rfl dX0_fourth_17 ?_
  refine TT_aload_n hK rfl 2 rfl dX0_fourth_19 ?_
  refine TT_iload_n hK rfl 1 rfl dX0_fourth_20 ?_
  refine TT_iload_n hK rfl 3 rfl dX0_fourth_21 ?_
  refine TT_iload_n hK rfl 4 rfl dX0_fourth_22 ?_
  refine TT_iconst hK dX0_fourth_23 ?_
  refine TT_idivn hK (irm (by omega) (by omega)) (by decide) (by first | omega | (simp [up, setR] <;> omega)) (by first | omega | (simp [up, setR] <;> omega)) dX0_fourth_24 ?_
  refine TT_iconst hK dX0_fourth_25 ?_
  refine TT_isub hK dX0_fourth_26 ?_
  refine TT_mmin hK (irm (by omega) (by omega)) (irm (by omega) (by omega)) iw_X0_72 (by decide) (Nat.le_of_ble_eq_true rfl) ⟨by decide, by decide⟩ dX0_fourth_27 ?_
  refine TT_iadd hK dX0_fourth_30 ?_
  refine TT_iald hK (o := 15) (n := 8) (by decide) rfl (by first | omega | (simp [up, setR] <;> omega)) (by first | omega | (simp [up, setR] <;> omega)) (v := (h 15) (((n + 1) / 2) + (min k ((n / 2) - 1)))) rfl dX0_fourth_31 ?_
  have r2 := ty_15 (i := ((n + 1) / 2) + (min k ((n / 2) - 1))) (v := (h 15) (((n + 1) / 2) + (min k ((n / 2) - 1)))) hT rfl (by omega) (by omega)
  refine TT_istore hK (lv' := [(5, vI ((h 15) (((n + 1) / 2) + (min k ((n / 2) - 1))))), (4, vI ((h 15) (((n + 1) / 2) + (max (k - 1) 0)))), (3, vI ((n + 1) / 2)), (0, vR 15), (1, vI k), (2, vI n)]) (by decide) rfl dX0_fourth_32 ?_
  refine TT_iload hK 1 rfl dX0_fourth_34 ?_
  refine TT_iload hK 0 rfl dX0_fourth_36 ?_
  refine TT_iadd hK dX0_fourth_38 ?_
  refine TT_iconst hK dX0_fourth_39 ?_
  refine TT_iadd hK dX0_fourth_40 ?_
  refine TT_w32 (fun x41_3 hx3 => ?_)
  refine TT_iconst hK dX0_fourth_41 ?_
  refine TT_ishr hK (irm (by omega) (by omega)) (by omega) (by omega) dX0_fourth_42 ?_
  refine TT_cgI (b := x41_3 / 4) rfl ?_
  refine TT_iret hK hQ ?_ dX0_fourth_43
  exact ⟨⟨hT, hF⟩, (x41_3 / 4), rfl, (by omega)⟩
set_option maxRecDepth 20000 in
theorem s_splitLine_8_8 (a n : Int) (h : Hp_) (hT : TY h) (ha : 0 ≤ a ∧ a ≤ 7) (hn : 0 ≤ n ∧ n ≤ 8) : Ctr yX0_splitLine cX0_splitLine 7 none (rmd 2) ly ly 0 0 [vR 8, vI a, vI 8, vI n] h (fun r h' => (TY h' ∧ FR [9, 14, 15] h h') ∧ r = none) := by
  refine Ctr_of (by decide) (Nat.le_of_ble_eq_true rfl) ⟨Nat.le_refl _, Nat.le_refl _⟩ (fun K hK hQ _ => ?_)
  show TT K ly 0 0 0 [(0, vR 8), (1, vI a), (2, vI 8), (3, vI n)] [] h
  have hF : FR [9, 14, 15] h h := FR_rf _ _
  refine TT_iload_n hK rfl 3 rfl dX0_splitLine_0 ?_
  refine TT_iconst hK dX0_splitLine_1 ?_
  refine TT_icmp_ge hK (tgt := 6) (irm (by omega) (by omega)) (by decide) dX0_splitLine_2 (by decide) (fun hb2_1 => ?_) (fun hb2_1 => ?_)
  · refine TT_aload_n hK rfl 0 rfl dX0_splitLine_6 ?_
    refine TT_iload_n hK rfl 1 rfl dX0_splitLine_7 ?_
    refine TT_iload_n hK rfl 2 rfl dX0_splitLine_8 ?_
    refine TT_iload_n hK rfl 3 rfl dX0_splitLine_9 ?_
    refine iv_X0_90 hK (s_readLine_8_8 a n h hT (by first | omega | (simp [up, setR] <;> omega)) (by first | omega | (simp [up, setR] <;> omega))) (by decide) rfl ⟨by decide, by decide⟩ (by decide) rfl rfl (Nat.le_of_ble_eq_true rfl) ⟨by decide, by decide⟩ dX0_splitLine_10 ?_
    intro r9 g10_2 hp9
    obtain ⟨⟨hT_2, hG_2⟩, hr9⟩ := hp9
    rw [hr9]
    have hF_2 : FR [9, 14, 15] h g10_2 := FR_tr hF hG_2 (by decide)
    show TT K ly 0 0 13 [(0, vR 8), (1, vI a), (2, vI 8), (3, vI n)] [] g10_2
    refine TT_iload_n hK rfl 3 rfl dX0_splitLine_13 ?_
    refine TT_iconst hK dX0_splitLine_14 ?_
    refine TT_iadd hK dX0_splitLine_15 ?_
    refine TT_iconst hK dX0_splitLine_16 ?_
    refine TT_idivn hK (irm (by omega) (by omega)) (by decide) (by first | omega | (simp [up, setR] <;> omega)) (by first | omega | (simp [up, setR] <;> omega)) dX0_splitLine_17 ?_
    refine TT_istore hK (lv' := [(4, vI ((n + 1) / 2)), (0, vR 8), (1, vI a), (2, vI 8), (3, vI n)]) (by decide) rfl dX0_splitLine_18 ?_
    refine TT_iconst hK dX0_splitLine_20 ?_
    refine TT_istore hK (lv' := [(5, vI 0), (4, vI ((n + 1) / 2)), (0, vR 8), (1, vI a), (2, vI 8), (3, vI n)]) (by decide) rfl dX0_splitLine_21 ?_
    have L23_3 : ∀ (k3 : Nat) (k : Int) (w23_3 : Hp_), TY w23_3 → FR [9, 14, 15] h w23_3 → (0 ≤ k ∧ k ≤ 8) → ((8 : Int) - k).toNat < k3 → TT K ly 0 0 23 [(0, vR 8), (1, vI a), (2, vI 8), (3, vI n), (4, vI ((n + 1) / 2)), (5, vI k)] [] w23_3 := by
      intro k3
      induction k3 with
      | zero => intro k w23_3 hT23_3 hF23_3 hk hk3; exact absurd hk3 (Nat.not_lt_zero _)
      | succ k3 ih3 =>
        intro k w23_3 hT23_3 hF23_3 hk hk3
        refine TT_iload hK 5 rfl dX0_splitLine_23 ?_
        refine TT_iload_n hK rfl 3 rfl dX0_splitLine_25 ?_
        refine TT_iconst hK dX0_splitLine_26 ?_
        refine TT_idivn hK (irm (by omega) (by omega)) (by decide) (by first | omega | (simp [up, setR] <;> omega)) (by first | omega | (simp [up, setR] <;> omega)) dX0_splitLine_27 ?_
        refine TT_icmp_ge hK (tgt := 108) (irm (by omega) (by omega)) (irm (by omega) (by omega)) dX0_splitLine_28 (by decide) (fun hb28_4 => ?_) (fun hb28_4 => ?_)
        · refine TT_iconst hK dX0_splitLine_108 ?_
          refine TT_istore hK (lv' := [(5, vI 0), (0, vR 8), (1, vI a), (2, vI 8), (3, vI n), (4, vI ((n + 1) / 2))]) (by decide) rfl dX0_splitLine_109 ?_
          have L111_5 : ∀ (k5 : Nat) (k : Int) (w111_5 : Hp_), TY w111_5 → FR [9, 14, 15] h w111_5 → (0 ≤ k ∧ k ≤ 8) → ((8 : Int) - k).toNat < k5 → TT K ly 0 0 111 [(0, vR 8), (1, vI a), (2, vI 8), (3, vI n), (4, vI ((n + 1) / 2)), (5, vI k)] [] w111_5 := by
            intro k5
            induction k5 with
            | zero => intro k w111_5 hT111_5 hF111_5 hk hk5; exact absurd hk5 (Nat.not_lt_zero _)
            | succ k5 ih5 =>
              intro k w111_5 hT111_5 hF111_5 hk hk5
              refine TT_iload hK 5 rfl dX0_splitLine_111 ?_
              refine TT_iload hK 4 rfl dX0_splitLine_113 ?_
              refine TT_icmp_ge hK (tgt := 151) (irm (by omega) (by omega)) (irm (by omega) (by omega)) dX0_splitLine_115 (by decide) (fun hb115_6 => ?_) (fun hb115_6 => ?_)
              · refine TT_aload_n hK rfl 0 rfl dX0_splitLine_151 ?_
                refine TT_iload_n hK rfl 1 rfl dX0_splitLine_152 ?_
                refine TT_iload_n hK rfl 2 rfl dX0_splitLine_153 ?_
                refine TT_iload_n hK rfl 3 rfl dX0_splitLine_154 ?_
                refine iv_X0_97 hK (s_writeLine_8_8 a n w111_5 hT111_5 (by first | omega | (simp [up, setR] <;> omega)) (by first | omega | (simp [up, setR] <;> omega))) (by decide) rfl ⟨by decide, by decide⟩ (by decide) rfl rfl (Nat.le_of_ble_eq_true rfl) ⟨by decide, by decide⟩ dX0_splitLine_155 ?_
                intro r9 g155_7 hp9
                obtain ⟨⟨hT_7, hG_7⟩, hr9⟩ := hp9
                rw [hr9]
                have hF_7 : FR [9, 14, 15] h g155_7 := FR_tr hF111_5 hG_7 (by decide)
                show TT K ly 0 0 158 [(0, vR 8), (1, vI a), (2, vI 8), (3, vI n), (4, vI ((n + 1) / 2)), (5, vI k)] [] g155_7
                refine TT_vret hK hQ ?_ dX0_splitLine_158
                exact ⟨⟨hT_7, hF_7⟩, rfl⟩
              · refine TT_aload_n hK rfl 0 rfl dX0_splitLine_118 ?_
                refine gf_X0_30 hK (by decide) rfl (q := 15) rfl rfl dX0_splitLine_119 ?_
                refine TT_iload hK 5 rfl dX0_splitLine_122 ?_
                refine TT_aload_n hK rfl 0 rfl dX0_splitLine_124 ?_
                refine gf_X0_27 hK (by decide) rfl (q := 14) rfl rfl dX0_splitLine_125 ?_
                refine TT_iconst hK dX0_splitLine_128 ?_
                refine TT_iload hK 5 rfl dX0_splitLine_129 ?_
                refine TT_imul hK dX0_splitLine_131 ?_
                refine TT_iald hK (o := 14) (n := 8) (by decide) rfl (by first | omega | (simp [up, setR] <;> omega)) (by first | omega | (simp [up, setR] <;> omega)) (v := (w111_5 14) (2 * k)) rfl dX0_splitLine_132 ?_
                have r8 := ty_14 (i := 2 * k) (v := (w111_5 14) (2 * k)) hT111_5 rfl (by omega) (by omega)
                refine TT_aload_n hK rfl 0 rfl dX0_splitLine_133 ?_
                refine gf_X0_30 hK (by decide) rfl (q := 15) rfl rfl dX0_splitLine_134 ?_
                refine TT_iload hK 5 rfl dX0_splitLine_137 ?_
                refine TT_iload_n hK rfl 3 rfl dX0_splitLine_139 ?_
                refine iv_X0_93 hK (s_fourth_15 k n w111_5 hT111_5 (by first | omega | (simp [up, setR] <;> omega)) (by first | omega | (simp [up, setR] <;> omega))) ⟨by decide, by decide⟩ (by decide) rfl rfl (Nat.le_of_ble_eq_true rfl) ⟨by decide, by decide⟩ dX0_splitLine_140 ?_
                intro r9 g140_9 hp9
                obtain ⟨⟨hT_9, hG_9⟩, z140_9, hr9, hz_9⟩ := hp9
                rw [hr9]
                have hF_9 : FR [9, 14, 15] h g140_9 := FR_tr hF111_5 hG_9 (by decide)
                show TT K ly 0 0 143 [(0, vR 8), (1, vI a), (2, vI 8), (3, vI n), (4, vI ((n + 1) / 2)), (5, vI k)] [vI z140_9, vI ((w111_5 14) (2 * k)), vI k, vR 15] g140_9
                refine TT_iadd hK dX0_splitLine_143 ?_
                refine TT_w32 (fun x144_10 hx10 => ?_)
                refine TT_iast hK (o := 15) (n := 8) (by decide) rfl (by omega) (by omega) dX0_splitLine_144 ?_
                refine TT_hp (h' := setO g140_9 15 (fup (w111_5 15) k x144_10)) (up_can (hG_9 15 (by decide)) rfl rfl) ?_
                have hT_11 : TY (setO g140_9 15 (fup (w111_5 15) k x144_10)) := tu_15 hT_9 (show up g140_9 15 k x144_10 = (setO g140_9 15 (fup (w111_5 15) k x144_10)) from up_can (hG_9 15 (by decide)) rfl rfl) (by omega)
                have hF_11 : FR [9, 14, 15] h (setO g140_9 15 (fup (w111_5 15) k x144_10)) := FR_up (show up g140_9 15 k x144_10 = (setO g140_9 15 (fup (w111_5 15) k x144_10)) from up_can (hG_9 15 (by decide)) rfl rfl) hF_9 (by decide)
                refine TT_iinc hK (v := k + 1) (lv' := [(5, vI (k + 1)), (0, vR 8), (1, vI a), (2, vI 8), (3, vI n), (4, vI ((n + 1) / 2))]) 5 rfl rfl (by decide) rfl dX0_splitLine_145 ?_
                refine TT_goto hK (tgt := 111) dX0_splitLine_148 (by decide) ?_
                refine TT_sub [1, 2, 3, 4, 5, 0] rfl ?_
                exact ih5 (k + 1) (setO g140_9 15 (fup (w111_5 15) k x144_10)) hT_11 hF_11 (by first | omega | (simp [up, setR] <;> omega)) (by first | omega | (simp [up, setR] <;> omega))
          refine TT_sub [1, 2, 3, 4, 5, 0] rfl ?_
          exact L111_5 ((((8 : Int) - 0).toNat) + 1) 0 w23_3 hT23_3 hF23_3 (by first | omega | (simp [up, setR] <;> omega)) (Nat.lt_succ_self _)
        · refine TT_iconst hK dX0_splitLine_31 ?_
          refine TT_iload hK 5 rfl dX0_splitLine_32 ?_
          refine TT_imul hK dX0_splitLine_34 ?_
          refine TT_iconst hK dX0_splitLine_35 ?_
          refine TT_iadd hK dX0_splitLine_36 ?_
          refine TT_iload_n hK rfl 3 rfl dX0_splitLine_37 ?_
          refine TT_icmp_ge hK (tgt := 55) (irm (by omega) (by omega)) (irm (by omega) (by omega)) dX0_splitLine_38 (by decide) (fun hb38_12 => ?_) (fun hb38_12 => ?_)
          · refine TT_aload_n hK rfl 0 rfl dX0_splitLine_55 ?_
            refine gf_X0_27 hK (by decide) rfl (q := 14) rfl rfl dX0_splitLine_56 ?_
            refine TT_iconst hK dX0_splitLine_59 ?_
            refine TT_iload hK 5 rfl dX0_splitLine_60 ?_
            refine TT_imul hK dX0_splitLine_62 ?_
            refine TT_iald hK (o := 14) (n := 8) (by decide) rfl (by first | omega | (simp [up, setR] <;> omega)) (by first | omega | (simp [up, setR] <;> omega)) (v := (w23_3 14) (2 * k)) rfl dX0_splitLine_63 ?_
            have r13 := ty_14 (i := 2 * k) (v := (w23_3 14) (2 * k)) hT23_3 rfl (by omega) (by omega)
            refine TT_istore hK (lv' := [(6, vI ((w23_3 14) (2 * k))), (0, vR 8), (1, vI a), (2, vI 8), (3, vI n), (4, vI ((n + 1) / 2)), (5, vI k)]) (by decide) rfl dX0_splitLine_64 ?_
            refine TT_aload_n hK rfl 1 rfl dX0_splitLine_66 ?_
            refine gf_X0_30 hK (by decide) rfl (q := 15) rfl rfl dX0_splitLine_67 ?_
            refine TT_iload hK 5 rfl dX0_splitLine_70 ?_
            refine TT_iload hK 6 rfl dX0_splitLine_72 ?_
            refine TT_iadd hK dX0_splitLine_74 ?_
            refine TT_aload_n hK rfl 1 rfl dX0_splitLine_75 ?_
            refine gf_X0_27 hK (by decide) rfl (q := 14) rfl rfl dX0_splitLine_76 ?_
            refine TT_iconst hK dX0_splitLine_79 ?_
            refine TT_iload hK 6 rfl dX0_splitLine_80 ?_
            refine TT_imul hK dX0_splitLine_82 ?_
            refine TT_iconst hK dX0_splitLine_83 ?_
            refine TT_iadd hK dX0_splitLine_84 ?_
            refine TT_iald hK (o := 14) (n := 8) (by decide) rfl (by first | omega | (simp [up, setR] <;> omega)) (by first | omega | (simp [up, setR] <;> omega)) (v := (w23_3 14) ((2 * k) + 1)) rfl dX0_splitLine_85 ?_
            have r14 := ty_14 (i := (2 * k) + 1) (v := (w23_3 14) ((2 * k) + 1)) hT23_3 rfl (by omega) (by omega)
            refine TT_aload_n hK rfl 1 rfl dX0_splitLine_86 ?_
            refine gf_X0_27 hK (by decide) rfl (q := 14) rfl rfl dX0_splitLine_87 ?_
            refine TT_iconst hK dX0_splitLine_90 ?_
            refine TT_iload hK 6 rfl dX0_splitLine_91 ?_
            refine TT_imul hK dX0_splitLine_93 ?_
            refine TT_iald hK (o := 14) (n := 8) (by decide) rfl (by first | omega | (simp [up, setR] <;> omega)) (by first | omega | (simp [up, setR] <;> omega)) (v := (w23_3 14) (2 * k)) rfl dX0_splitLine_94 ?_
            refine TT_iload hK 0 rfl dX0_splitLine_95 ?_
            refine TT_iadd hK dX0_splitLine_97 ?_
            refine TT_w32 (fun x98_15 hx15 => ?_)
            refine TT_iconst hK dX0_splitLine_98 ?_
            refine TT_ishr hK (irm (by omega) (by omega)) (by omega) (by omega) dX0_splitLine_99 ?_
            refine TT_cgI (b := x98_15 / 2) rfl ?_
            refine TT_isub hK dX0_splitLine_100 ?_
            refine TT_w32 (fun x101_16 hx16 => ?_)
            refine TT_iast hK (o := 15) (n := 8) (by decide) rfl (by omega) (by omega) dX0_splitLine_101 ?_
            refine TT_hp (h' := setO w23_3 15 (fup (w23_3 15) (((n + 1) / 2) + k) x101_16)) (up_can rfl rfl rfl) ?_
            have hT_17 : TY (setO w23_3 15 (fup (w23_3 15) (((n + 1) / 2) + k) x101_16)) := tu_15 hT23_3 (show up w23_3 15 (((n + 1) / 2) + k) x101_16 = (setO w23_3 15 (fup (w23_3 15) (((n + 1) / 2) + k) x101_16)) from up_can rfl rfl rfl) (by omega)
            have hF_17 : FR [9, 14, 15] h (setO w23_3 15 (fup (w23_3 15) (((n + 1) / 2) + k) x101_16)) := FR_up (show up w23_3 15 (((n + 1) / 2) + k) x101_16 = (setO w23_3 15 (fup (w23_3 15) (((n + 1) / 2) + k) x101_16)) from up_can rfl rfl rfl) hF23_3 (by decide)
            refine TT_iinc hK (v := k + 1) (lv' := [(5, vI (k + 1)), (6, vI ((w23_3 14) (2 * k))), (0, vR 8), (1, vI a), (2, vI 8), (3, vI n), (4, vI ((n + 1) / 2))]) 6 rfl rfl (by decide) rfl dX0_splitLine_102 ?_
            refine TT_goto hK (tgt := 23) dX0_splitLine_105 (by decide) ?_
            refine TT_sub [2, 3, 4, 5, 6, 0] rfl ?_
            exact ih3 (k + 1) (setO w23_3 15 (fup (w23_3 15) (((n + 1) / 2) + k) x101_16)) hT_17 hF_17 (by first | omega | (simp [up, setR] <;> omega)) (by first | omega | (simp [up, setR] <;> omega))
          · refine TT_aload_n hK rfl 0 rfl dX0_splitLine_41 ?_
            refine gf_X0_27 hK (by decide) rfl (q := 14) rfl rfl dX0_splitLine_42 ?_
            refine TT_iconst hK dX0_splitLine_45 ?_
            refine TT_iload hK 5 rfl dX0_splitLine_46 ?_
            refine TT_imul hK dX0_splitLine_48 ?_
            refine TT_iconst hK dX0_splitLine_49 ?_
            refine TT_iadd hK dX0_splitLine_50 ?_
            refine TT_iald hK (o := 14) (n := 8) (by decide) rfl (by first | omega | (simp [up, setR] <;> omega)) (by first | omega | (simp [up, setR] <;> omega)) (v := (w23_3 14) ((2 * k) + 2)) rfl dX0_splitLine_51 ?_
            have r18 := ty_14 (i := (2 * k) + 2) (v := (w23_3 14) ((2 * k) + 2)) hT23_3 rfl (by omega) (by omega)
            refine TT_goto hK (tgt := 64) dX0_splitLine_52 (by decide) ?_
            refine TT_istore hK (lv' := [(6, vI ((w23_3 14) ((2 * k) + 2))), (0, vR 8), (1, vI a), (2, vI 8), (3, vI n), (4, vI ((n + 1) / 2)), (5, vI k)]) (by decide) rfl dX0_splitLine_64 ?_
            refine TT_aload_n hK rfl 1 rfl dX0_splitLine_66 ?_
            refine gf_X0_30 hK (by decide) rfl (q := 15) rfl rfl dX0_splitLine_67 ?_
            refine TT_iload hK 5 rfl dX0_splitLine_70 ?_
            refine TT_iload hK 6 rfl dX0_splitLine_72 ?_
            refine TT_iadd hK dX0_splitLine_74 ?_
            refine TT_aload_n hK rfl 1 rfl dX0_splitLine_75 ?_
            refine gf_X0_27 hK (by decide) rfl (q := 14) rfl rfl dX0_splitLine_76 ?_
            refine TT_iconst hK dX0_splitLine_79 ?_
            refine TT_iload hK 6 rfl dX0_splitLine_80 ?_
            refine TT_imul hK dX0_splitLine_82 ?_
            refine TT_iconst hK dX0_splitLine_83 ?_
            refine TT_iadd hK dX0_splitLine_84 ?_
            refine TT_iald hK (o := 14) (n := 8) (by decide) rfl (by first | omega | (simp [up, setR] <;> omega)) (by first | omega | (simp [up, setR] <;> omega)) (v := (w23_3 14) ((2 * k) + 1)) rfl dX0_splitLine_85 ?_
            have r19 := ty_14 (i := (2 * k) + 1) (v := (w23_3 14) ((2 * k) + 1)) hT23_3 rfl (by omega) (by omega)
            refine TT_aload_n hK rfl 1 rfl dX0_splitLine_86 ?_
            refine gf_X0_27 hK (by decide) rfl (q := 14) rfl rfl dX0_splitLine_87 ?_
            refine TT_iconst hK dX0_splitLine_90 ?_
            refine TT_iload hK 6 rfl dX0_splitLine_91 ?_
            refine TT_imul hK dX0_splitLine_93 ?_
            refine TT_iald hK (o := 14) (n := 8) (by decide) rfl (by first | omega | (simp [up, setR] <;> omega)) (by first | omega | (simp [up, setR] <;> omega)) (v := (w23_3 14) (2 * k)) rfl dX0_splitLine_94 ?_
            have r20 := ty_14 (i := 2 * k) (v := (w23_3 14) (2 * k)) hT23_3 rfl (by omega) (by omega)
            refine TT_iload hK 0 rfl dX0_splitLine_95 ?_
            refine TT_iadd hK dX0_splitLine_97 ?_
            refine TT_w32 (fun x98_21 hx21 => ?_)
            refine TT_iconst hK dX0_splitLine_98 ?_
            refine TT_ishr hK (irm (by omega) (by omega)) (by omega) (by omega) dX0_splitLine_99 ?_
            refine TT_cgI (b := x98_21 / 2) rfl ?_
            refine TT_isub hK dX0_splitLine_100 ?_
            refine TT_w32 (fun x101_22 hx22 => ?_)
            refine TT_iast hK (o := 15) (n := 8) (by decide) rfl (by omega) (by omega) dX0_splitLine_101 ?_
            refine TT_hp (h' := setO w23_3 15 (fup (w23_3 15) (((n + 1) / 2) + k) x101_22)) (up_can rfl rfl rfl) ?_
            have hT_23 : TY (setO w23_3 15 (fup (w23_3 15) (((n + 1) / 2) + k) x101_22)) := tu_15 hT23_3 (show up w23_3 15 (((n + 1) / 2) + k) x101_22 = (setO w23_3 15 (fup (w23_3 15) (((n + 1) / 2) + k) x101_22)) from up_can rfl rfl rfl) (by omega)
            have hF_23 : FR [9, 14, 15] h (setO w23_3 15 (fup (w23_3 15) (((n + 1) / 2) + k) x101_22)) := FR_up (show up w23_3 15 (((n + 1) / 2) + k) x101_22 = (setO w23_3 15 (fup (w23_3 15) (((n + 1) / 2) + k) x101_22)) from up_can rfl rfl rfl) hF23_3 (by decide)
            refine TT_iinc hK (v := k + 1) (lv' := [(5, vI (k + 1)), (6, vI ((w23_3 14) ((2 * k) + 2))), (0, vR 8), (1, vI a), (2, vI 8), (3, vI n), (4, vI ((n + 1) / 2))]) 6 rfl rfl (by decide) rfl dX0_splitLine_102 ?_
            refine TT_goto hK (tgt := 23) dX0_splitLine_105 (by decide) ?_
            refine TT_sub [2, 3, 4, 5, 6, 0] rfl ?_
            exact ih3 (k + 1) (setO w23_3 15 (fup (w23_3 15) (((n + 1) / 2) + k) x101_22)) hT_23 hF_23 (by first | omega | (simp [up, setR] <;> omega)) (by first | omega | (simp [up, setR] <;> omega))
    refine TT_sub [2, 3, 4, 5, 1, 0] rfl ?_
    exact L23_3 ((((8 : Int) - 0).toNat) + 1) 0 g10_2 hT_2 hF_2 (by first | omega | (simp [up, setR] <;> omega)) (Nat.lt_succ_self _)
  · refine TT_vret hK hQ ?_ dX0_splitLine_5
    exact ⟨⟨hT, hF⟩, rfl⟩
set_option maxRecDepth 20000 in
theorem s_splitLine_8_1 (a n : Int) (h : Hp_) (hT : TY h) (ha : 0 ≤ a ∧ a ≤ 56) (hn : 0 ≤ n ∧ n ≤ 8) : Ctr yX0_splitLine cX0_splitLine 7 none (rmd 2) ly ly 0 0 [vR 8, vI a, vI 1, vI n] h (fun r h' => (TY h' ∧ FR [9, 14, 15] h h') ∧ r = none) := by
  refine Ctr_of (by decide) (Nat.le_of_ble_eq_true rfl) ⟨Nat.le_refl _, Nat.le_refl _⟩ (fun K hK hQ _ => ?_)
  show TT K ly 0 0 0 [(0, vR 8), (1, vI a), (2, vI 1), (3, vI n)] [] h
  have hF : FR [9, 14, 15] h h := FR_rf _ _
  refine TT_iload_n hK rfl 3 rfl dX0_splitLine_0 ?_
  refine TT_iconst hK dX0_splitLine_1 ?_
  refine TT_icmp_ge hK (tgt := 6) (irm (by omega) (by omega)) (by decide) dX0_splitLine_2 (by decide) (fun hb2_1 => ?_) (fun hb2_1 => ?_)
  · refine TT_aload_n hK rfl 0 rfl dX0_splitLine_6 ?_
    refine TT_iload_n hK rfl 1 rfl dX0_splitLine_7 ?_
    refine TT_iload_n hK rfl 2 rfl dX0_splitLine_8 ?_
    refine TT_iload_n hK rfl 3 rfl dX0_splitLine_9 ?_
    refine iv_X0_90 hK (s_readLine_8_1 a n h hT (by first | omega | (simp [up, setR] <;> omega)) (by first | omega | (simp [up, setR] <;> omega))) (by decide) rfl ⟨by decide, by decide⟩ (by decide) rfl rfl (Nat.le_of_ble_eq_true rfl) ⟨by decide, by decide⟩ dX0_splitLine_10 ?_
    intro r9 g10_2 hp9
    obtain ⟨⟨hT_2, hG_2⟩, hr9⟩ := hp9
    rw [hr9]
    have hF_2 : FR [9, 14, 15] h g10_2 := FR_tr hF hG_2 (by decide)
    show TT K ly 0 0 13 [(0, vR 8), (1, vI a), (2, vI 1), (3, vI n)] [] g10_2
    refine TT_iload_n hK rfl 3 rfl dX0_splitLine_13 ?_
    refine TT_iconst hK dX0_splitLine_14 ?_
    refine TT_iadd hK dX0_splitLine_15 ?_
    refine TT_iconst hK dX0_splitLine_16 ?_
    refine TT_idivn hK (irm (by omega) (by omega)) (by decide) (by first | omega | (simp [up, setR] <;> omega)) (by first | omega | (simp [up, setR] <;> omega)) dX0_splitLine_17 ?_
    refine TT_istore hK (lv' := [(4, vI ((n + 1) / 2)), (0, vR 8), (1, vI a), (2, vI 1), (3, vI n)]) (by decide) rfl dX0_splitLine_18 ?_
    refine TT_iconst hK dX0_splitLine_20 ?_
    refine TT_istore hK (lv' := [(5, vI 0), (4, vI ((n + 1) / 2)), (0, vR 8), (1, vI a), (2, vI 1), (3, vI n)]) (by decide) rfl dX0_splitLine_21 ?_
    have L23_3 : ∀ (k3 : Nat) (k : Int) (w23_3 : Hp_), TY w23_3 → FR [9, 14, 15] h w23_3 → (0 ≤ k ∧ k ≤ 8) → ((8 : Int) - k).toNat < k3 → TT K ly 0 0 23 [(0, vR 8), (1, vI a), (2, vI 1), (3, vI n), (4, vI ((n + 1) / 2)), (5, vI k)] [] w23_3 := by
      intro k3
      induction k3 with
      | zero => intro k w23_3 hT23_3 hF23_3 hk hk3; exact absurd hk3 (Nat.not_lt_zero _)
      | succ k3 ih3 =>
        intro k w23_3 hT23_3 hF23_3 hk hk3
        refine TT_iload hK 5 rfl dX0_splitLine_23 ?_
        refine TT_iload_n hK rfl 3 rfl dX0_splitLine_25 ?_
        refine TT_iconst hK dX0_splitLine_26 ?_
        refine TT_idivn hK (irm (by omega) (by omega)) (by decide) (by first | omega | (simp [up, setR] <;> omega)) (by first | omega | (simp [up, setR] <;> omega)) dX0_splitLine_27 ?_
        refine TT_icmp_ge hK (tgt := 108) (irm (by omega) (by omega)) (irm (by omega) (by omega)) dX0_splitLine_28 (by decide) (fun hb28_4 => ?_) (fun hb28_4 => ?_)
        · refine TT_iconst hK dX0_splitLine_108 ?_
          refine TT_istore hK (lv' := [(5, vI 0), (0, vR 8), (1, vI a), (2, vI 1), (3, vI n), (4, vI ((n + 1) / 2))]) (by decide) rfl dX0_splitLine_109 ?_
          have L111_5 : ∀ (k5 : Nat) (k : Int) (w111_5 : Hp_), TY w111_5 → FR [9, 14, 15] h w111_5 → (0 ≤ k ∧ k ≤ 8) → ((8 : Int) - k).toNat < k5 → TT K ly 0 0 111 [(0, vR 8), (1, vI a), (2, vI 1), (3, vI n), (4, vI ((n + 1) / 2)), (5, vI k)] [] w111_5 := by
            intro k5
            induction k5 with
            | zero => intro k w111_5 hT111_5 hF111_5 hk hk5; exact absurd hk5 (Nat.not_lt_zero _)
            | succ k5 ih5 =>
              intro k w111_5 hT111_5 hF111_5 hk hk5
              refine TT_iload hK 5 rfl dX0_splitLine_111 ?_
              refine TT_iload hK 4 rfl dX0_splitLine_113 ?_
              refine TT_icmp_ge hK (tgt := 151) (irm (by omega) (by omega)) (irm (by omega) (by omega)) dX0_splitLine_115 (by decide) (fun hb115_6 => ?_) (fun hb115_6 => ?_)
              · refine TT_aload_n hK rfl 0 rfl dX0_splitLine_151 ?_
                refine TT_iload_n hK rfl 1 rfl dX0_splitLine_152 ?_
                refine TT_iload_n hK rfl 2 rfl dX0_splitLine_153 ?_
                refine TT_iload_n hK rfl 3 rfl dX0_splitLine_154 ?_
                refine iv_X0_97 hK (s_writeLine_8_1 a n w111_5 hT111_5 (by first | omega | (simp [up, setR] <;> omega)) (by first | omega | (simp [up, setR] <;> omega))) (by decide) rfl ⟨by decide, by decide⟩ (by decide) rfl rfl (Nat.le_of_ble_eq_true rfl) ⟨by decide, by decide⟩ dX0_splitLine_155 ?_
                intro r9 g155_7 hp9
                obtain ⟨⟨hT_7, hG_7⟩, hr9⟩ := hp9
                rw [hr9]
                have hF_7 : FR [9, 14, 15] h g155_7 := FR_tr hF111_5 hG_7 (by decide)
                show TT K ly 0 0 158 [(0, vR 8), (1, vI a), (2, vI 1), (3, vI n), (4, vI ((n + 1) / 2)), (5, vI k)] [] g155_7
                refine TT_vret hK hQ ?_ dX0_splitLine_158
                exact ⟨⟨hT_7, hF_7⟩, rfl⟩
              · refine TT_aload_n hK rfl 0 rfl dX0_splitLine_118 ?_
                refine gf_X0_30 hK (by decide) rfl (q := 15) rfl rfl dX0_splitLine_119 ?_
                refine TT_iload hK 5 rfl dX0_splitLine_122 ?_
                refine TT_aload_n hK rfl 0 rfl dX0_splitLine_124 ?_
                refine gf_X0_27 hK (by decide) rfl (q := 14) rfl rfl dX0_splitLine_125 ?_
                refine TT_iconst hK dX0_splitLine_128 ?_
                refine TT_iload hK 5 rfl dX0_splitLine_129 ?_
                refine TT_imul hK dX0_splitLine_131 ?_
                refine TT_iald hK (o := 14) (n := 8) (by decide) rfl (by first | omega | (simp [up, setR] <;> omega)) (by first | omega | (simp [up, setR] <;> omega)) (v := (w111_5 14) (2 * k)) rfl dX0_splitLine_132 ?_
                have r8 := ty_14 (i := 2 * k) (v := (w111_5 14) (2 * k)) hT111_5 rfl (by omega) (by omega)
                refine TT_aload_n hK rfl 0 rfl dX0_splitLine_133 ?_
                refine gf_X0_30 hK (by decide) rfl (q := 15) rfl rfl dX0_splitLine_134 ?_
                refine TT_iload hK 5 rfl dX0_splitLine_137 ?_
                refine TT_iload_n hK rfl 3 rfl dX0_splitLine_139 ?_
                refine iv_X0_93 hK (s_fourth_15 k n w111_5 hT111_5 (by first | omega | (simp [up, setR] <;> omega)) (by first | omega | (simp [up, setR] <;> omega))) ⟨by decide, by decide⟩ (by decide) rfl rfl (Nat.le_of_ble_eq_true rfl) ⟨by decide, by decide⟩ dX0_splitLine_140 ?_
                intro r9 g140_9 hp9
                obtain ⟨⟨hT_9, hG_9⟩, z140_9, hr9, hz_9⟩ := hp9
                rw [hr9]
                have hF_9 : FR [9, 14, 15] h g140_9 := FR_tr hF111_5 hG_9 (by decide)
                show TT K ly 0 0 143 [(0, vR 8), (1, vI a), (2, vI 1), (3, vI n), (4, vI ((n + 1) / 2)), (5, vI k)] [vI z140_9, vI ((w111_5 14) (2 * k)), vI k, vR 15] g140_9
                refine TT_iadd hK dX0_splitLine_143 ?_
                refine TT_w32 (fun x144_10 hx10 => ?_)
                refine TT_iast hK (o := 15) (n := 8) (by decide) rfl (by omega) (by omega) dX0_splitLine_144 ?_
                refine TT_hp (h' := setO g140_9 15 (fup (w111_5 15) k x144_10)) (up_can (hG_9 15 (by decide)) rfl rfl) ?_
                have hT_11 : TY (setO g140_9 15 (fup (w111_5 15) k x144_10)) := tu_15 hT_9 (show up g140_9 15 k x144_10 = (setO g140_9 15 (fup (w111_5 15) k x144_10)) from up_can (hG_9 15 (by decide)) rfl rfl) (by omega)
                have hF_11 : FR [9, 14, 15] h (setO g140_9 15 (fup (w111_5 15) k x144_10)) := FR_up (show up g140_9 15 k x144_10 = (setO g140_9 15 (fup (w111_5 15) k x144_10)) from up_can (hG_9 15 (by decide)) rfl rfl) hF_9 (by decide)
                refine TT_iinc hK (v := k + 1) (lv' := [(5, vI (k + 1)), (0, vR 8), (1, vI a), (2, vI 1), (3, vI n), (4, vI ((n + 1) / 2))]) 5 rfl rfl (by decide) rfl dX0_splitLine_145 ?_
                refine TT_goto hK (tgt := 111) dX0_splitLine_148 (by decide) ?_
                refine TT_sub [1, 2, 3, 4, 5, 0] rfl ?_
                exact ih5 (k + 1) (setO g140_9 15 (fup (w111_5 15) k x144_10)) hT_11 hF_11 (by first | omega | (simp [up, setR] <;> omega)) (by first | omega | (simp [up, setR] <;> omega))
          refine TT_sub [1, 2, 3, 4, 5, 0] rfl ?_
          exact L111_5 ((((8 : Int) - 0).toNat) + 1) 0 w23_3 hT23_3 hF23_3 (by first | omega | (simp [up, setR] <;> omega)) (Nat.lt_succ_self _)
        · refine TT_iconst hK dX0_splitLine_31 ?_
          refine TT_iload hK 5 rfl dX0_splitLine_32 ?_
          refine TT_imul hK dX0_splitLine_34 ?_
          refine TT_iconst hK dX0_splitLine_35 ?_
          refine TT_iadd hK dX0_splitLine_36 ?_
          refine TT_iload_n hK rfl 3 rfl dX0_splitLine_37 ?_
          refine TT_icmp_ge hK (tgt := 55) (irm (by omega) (by omega)) (irm (by omega) (by omega)) dX0_splitLine_38 (by decide) (fun hb38_12 => ?_) (fun hb38_12 => ?_)
          · refine TT_aload_n hK rfl 0 rfl dX0_splitLine_55 ?_
            refine gf_X0_27 hK (by decide) rfl (q := 14) rfl rfl dX0_splitLine_56 ?_
            refine TT_iconst hK dX0_splitLine_59 ?_
            refine TT_iload hK 5 rfl dX0_splitLine_60 ?_
            refine TT_imul hK dX0_splitLine_62 ?_
            refine TT_iald hK (o := 14) (n := 8) (by decide) rfl (by first | omega | (simp [up, setR] <;> omega)) (by first | omega | (simp [up, setR] <;> omega)) (v := (w23_3 14) (2 * k)) rfl dX0_splitLine_63 ?_
            have r13 := ty_14 (i := 2 * k) (v := (w23_3 14) (2 * k)) hT23_3 rfl (by omega) (by omega)
            refine TT_istore hK (lv' := [(6, vI ((w23_3 14) (2 * k))), (0, vR 8), (1, vI a), (2, vI 1), (3, vI n), (4, vI ((n + 1) / 2)), (5, vI k)]) (by decide) rfl dX0_splitLine_64 ?_
            refine TT_aload_n hK rfl 1 rfl dX0_splitLine_66 ?_
            refine gf_X0_30 hK (by decide) rfl (q := 15) rfl rfl dX0_splitLine_67 ?_
            refine TT_iload hK 5 rfl dX0_splitLine_70 ?_
            refine TT_iload hK 6 rfl dX0_splitLine_72 ?_
            refine TT_iadd hK dX0_splitLine_74 ?_
            refine TT_aload_n hK rfl 1 rfl dX0_splitLine_75 ?_
            refine gf_X0_27 hK (by decide) rfl (q := 14) rfl rfl dX0_splitLine_76 ?_
            refine TT_iconst hK dX0_splitLine_79 ?_
            refine TT_iload hK 6 rfl dX0_splitLine_80 ?_
            refine TT_imul hK dX0_splitLine_82 ?_
            refine TT_iconst hK dX0_splitLine_83 ?_
            refine TT_iadd hK dX0_splitLine_84 ?_
            refine TT_iald hK (o := 14) (n := 8) (by decide) rfl (by first | omega | (simp [up, setR] <;> omega)) (by first | omega | (simp [up, setR] <;> omega)) (v := (w23_3 14) ((2 * k) + 1)) rfl dX0_splitLine_85 ?_
            have r14 := ty_14 (i := (2 * k) + 1) (v := (w23_3 14) ((2 * k) + 1)) hT23_3 rfl (by omega) (by omega)
            refine TT_aload_n hK rfl 1 rfl dX0_splitLine_86 ?_
            refine gf_X0_27 hK (by decide) rfl (q := 14) rfl rfl dX0_splitLine_87 ?_
            refine TT_iconst hK dX0_splitLine_90 ?_
            refine TT_iload hK 6 rfl dX0_splitLine_91 ?_
            refine TT_imul hK dX0_splitLine_93 ?_
            refine TT_iald hK (o := 14) (n := 8) (by decide) rfl (by first | omega | (simp [up, setR] <;> omega)) (by first | omega | (simp [up, setR] <;> omega)) (v := (w23_3 14) (2 * k)) rfl dX0_splitLine_94 ?_
            refine TT_iload hK 0 rfl dX0_splitLine_95 ?_
            refine TT_iadd hK dX0_splitLine_97 ?_
            refine TT_w32 (fun x98_15 hx15 => ?_)
            refine TT_iconst hK dX0_splitLine_98 ?_
            refine TT_ishr hK (irm (by omega) (by omega)) (by omega) (by omega) dX0_splitLine_99 ?_
            refine TT_cgI (b := x98_15 / 2) rfl ?_
            refine TT_isub hK dX0_splitLine_100 ?_
            refine TT_w32 (fun x101_16 hx16 => ?_)
            refine TT_iast hK (o := 15) (n := 8) (by decide) rfl (by omega) (by omega) dX0_splitLine_101 ?_
            refine TT_hp (h' := setO w23_3 15 (fup (w23_3 15) (((n + 1) / 2) + k) x101_16)) (up_can rfl rfl rfl) ?_
            have hT_17 : TY (setO w23_3 15 (fup (w23_3 15) (((n + 1) / 2) + k) x101_16)) := tu_15 hT23_3 (show up w23_3 15 (((n + 1) / 2) + k) x101_16 = (setO w23_3 15 (fup (w23_3 15) (((n + 1) / 2) + k) x101_16)) from up_can rfl rfl rfl) (by omega)
            have hF_17 : FR [9, 14, 15] h (setO w23_3 15 (fup (w23_3 15) (((n + 1) / 2) + k) x101_16)) := FR_up (show up w23_3 15 (((n + 1) / 2) + k) x101_16 = (setO w23_3 15 (fup (w23_3 15) (((n + 1) / 2) + k) x101_16)) from up_can rfl rfl rfl) hF23_3 (by decide)
            refine TT_iinc hK (v := k + 1) (lv' := [(5, vI (k + 1)), (6, vI ((w23_3 14) (2 * k))), (0, vR 8), (1, vI a), (2, vI 1), (3, vI n), (4, vI ((n + 1) / 2))]) 6 rfl rfl (by decide) rfl dX0_splitLine_102 ?_
            refine TT_goto hK (tgt := 23) dX0_splitLine_105 (by decide) ?_
            refine TT_sub [2, 3, 4, 5, 6, 0] rfl ?_
            exact ih3 (k + 1) (setO w23_3 15 (fup (w23_3 15) (((n + 1) / 2) + k) x101_16)) hT_17 hF_17 (by first | omega | (simp [up, setR] <;> omega)) (by first | omega | (simp [up, setR] <;> omega))
          · refine TT_aload_n hK rfl 0 rfl dX0_splitLine_41 ?_
            refine gf_X0_27 hK (by decide) rfl (q := 14) rfl rfl dX0_splitLine_42 ?_
            refine TT_iconst hK dX0_splitLine_45 ?_
            refine TT_iload hK 5 rfl dX0_splitLine_46 ?_
            refine TT_imul hK dX0_splitLine_48 ?_
            refine TT_iconst hK dX0_splitLine_49 ?_
            refine TT_iadd hK dX0_splitLine_50 ?_
            refine TT_iald hK (o := 14) (n := 8) (by decide) rfl (by first | omega | (simp [up, setR] <;> omega)) (by first | omega | (simp [up, setR] <;> omega)) (v := (w23_3 14) ((2 * k) + 2)) rfl dX0_splitLine_51 ?_
            have r18 := ty_14 (i := (2 * k) + 2) (v := (w23_3 14) ((2 * k) + 2)) hT23_3 rfl (by omega) (by omega)
            refine TT_goto hK (tgt := 64) dX0_splitLine_52 (by decide) ?_
            refine TT_istore hK (lv' := [(6, vI ((w23_3 14) ((2 * k) + 2))), (0, vR 8), (1, vI a), (2, vI 1), (3, vI n), (4, vI ((n + 1) / 2)), (5, vI k)]) (by decide) rfl dX0_splitLine_64 ?_
            refine TT_aload_n hK rfl 1 rfl dX0_splitLine_66 ?_
            refine gf_X0_30 hK (by decide) rfl (q := 15) rfl rfl dX0_splitLine_67 ?_
            refine TT_iload hK 5 rfl dX0_splitLine_70 ?_
            refine TT_iload hK 6 rfl dX0_splitLine_72 ?_
            refine TT_iadd hK dX0_splitLine_74 ?_
            refine TT_aload_n hK rfl 1 rfl dX0_splitLine_75 ?_
            refine gf_X0_27 hK (by decide) rfl (q := 14) rfl rfl dX0_splitLine_76 ?_
            refine TT_iconst hK dX0_splitLine_79 ?_
            refine TT_iload hK 6 rfl dX0_splitLine_80 ?_
            refine TT_imul hK dX0_splitLine_82 ?_
            refine TT_iconst hK dX0_splitLine_83 ?_
            refine TT_iadd hK dX0_splitLine_84 ?_
            refine TT_iald hK (o := 14) (n := 8) (by decide) rfl (by first | omega | (simp [up, setR] <;> omega)) (by first | omega | (simp [up, setR] <;> omega)) (v := (w23_3 14) ((2 * k) + 1)) rfl dX0_splitLine_85 ?_
            have r19 := ty_14 (i := (2 * k) + 1) (v := (w23_3 14) ((2 * k) + 1)) hT23_3 rfl (by omega) (by omega)
            refine TT_aload_n hK rfl 1 rfl dX0_splitLine_86 ?_
            refine gf_X0_27 hK (by decide) rfl (q := 14) rfl rfl dX0_splitLine_87 ?_
            refine TT_iconst hK dX0_splitLine_90 ?_
            refine TT_iload hK 6 rfl dX0_splitLine_91 ?_
            refine TT_imul hK dX0_splitLine_93 ?_
            refine TT_iald hK (o := 14) (n := 8) (by decide) rfl (by first | omega | (simp [up, setR] <;> omega)) (by first | omega | (simp [up, setR] <;> omega)) (v := (w23_3 14) (2 * k)) rfl dX0_splitLine_94 ?_
            have r20 := ty_14 (i := 2 * k) (v := (w23_3 14) (2 * k)) hT23_3 rfl (by omega) (by omega)
            refine TT_iload hK 0 rfl dX0_splitLine_95 ?_
            refine TT_iadd hK dX0_splitLine_97 ?_
            refine TT_w32 (fun x98_21 hx21 => ?_)
            refine TT_iconst hK dX0_splitLine_98 ?_
            refine TT_ishr hK (irm (by omega) (by omega)) (by omega) (by omega) dX0_splitLine_99 ?_
            refine TT_cgI (b := x98_21 / 2) rfl ?_
            refine TT_isub hK dX0_splitLine_100 ?_
            refine TT_w32 (fun x101_22 hx22 => ?_)
            refine TT_iast hK (o := 15) (n := 8) (by decide) rfl (by omega) (by omega) dX0_splitLine_101 ?_
            refine TT_hp (h' := setO w23_3 15 (fup (w23_3 15) (((n + 1) / 2) + k) x101_22)) (up_can rfl rfl rfl) ?_
            have hT_23 : TY (setO w23_3 15 (fup (w23_3 15) (((n + 1) / 2) + k) x101_22)) := tu_15 hT23_3 (show up w23_3 15 (((n + 1) / 2) + k) x101_22 = (setO w23_3 15 (fup (w23_3 15) (((n + 1) / 2) + k) x101_22)) from up_can rfl rfl rfl) (by omega)
            have hF_23 : FR [9, 14, 15] h (setO w23_3 15 (fup (w23_3 15) (((n + 1) / 2) + k) x101_22)) := FR_up (show up w23_3 15 (((n + 1) / 2) + k) x101_22 = (setO w23_3 15 (fup (w23_3 15) (((n + 1) / 2) + k) x101_22)) from up_can rfl rfl rfl) hF23_3 (by decide)
            refine TT_iinc hK (v := k + 1) (lv' := [(5, vI (k + 1)), (6, vI ((w23_3 14) ((2 * k) + 2))), (0, vR 8), (1, vI a), (2, vI 1), (3, vI n), (4, vI ((n + 1) / 2))]) 6 rfl rfl (by decide) rfl dX0_splitLine_102 ?_
            refine TT_goto hK (tgt := 23) dX0_splitLine_105 (by decide) ?_
            refine TT_sub [2, 3, 4, 5, 6, 0] rfl ?_
            exact ih3 (k + 1) (setO w23_3 15 (fup (w23_3 15) (((n + 1) / 2) + k) x101_22)) hT_23 hF_23 (by first | omega | (simp [up, setR] <;> omega)) (by first | omega | (simp [up, setR] <;> omega))
    refine TT_sub [2, 3, 4, 5, 1, 0] rfl ?_
    exact L23_3 ((((8 : Int) - 0).toNat) + 1) 0 g10_2 hT_2 hF_2 (by first | omega | (simp [up, setR] <;> omega)) (Nat.lt_succ_self _)
  · refine TT_vret hK hQ ?_ dX0_splitLine_5
    exact ⟨⟨hT, hF⟩, rfl⟩
set_option maxRecDepth 20000 in
theorem s_X0_goForth_8 (h : Hp_) (hT : TY h)  : Ctr yX0_goForth cX0_goForth 5 none (rmd 3) ly ly 0 0 [vR 8] h (fun r h' => (TY h' ∧ FR [9, 14, 15] h h') ∧ r = none) := by
  refine Ctr_of (by decide) (Nat.le_of_ble_eq_true rfl) ⟨Nat.le_refl _, Nat.le_refl _⟩ (fun K hK hQ _ => ?_)
  show TT K ly 0 0 0 [(0, vR 8)] [] h
  have hF : FR [9, 14, 15] h h := FR_rf _ _
  refine TT_iconst hK dX0_goForth_0 ?_
  refine TT_istore_n hK rfl (lv' := [(1, vI 0), (0, vR 8)]) (by decide) rfl dX0_goForth_1 ?_
  have L2_1 : ∀ (k1 : Nat) (l : Int) (w2_1 : Hp_), TY w2_1 → FR [9, 14, 15] h w2_1 → (0 ≤ l ∧ l ≤ 3) → ((3 : Int) - l).toNat < k1 → TT K ly 0 0 2 [(0, vR 8), (1, vI l)] [] w2_1 := by
    intro k1
    induction k1 with
    | zero => intro l w2_1 hT2_1 hF2_1 hl hk1; exact absurd hk1 (Nat.not_lt_zero _)
    | succ k1 ih1 =>
      intro l w2_1 hT2_1 hF2_1 hl hk1
      refine TT_iload_n hK rfl 1 rfl dX0_goForth_2 ?_
      refine TT_aload_n hK rfl 0 rfl dX0_goForth_3 ?_
      refine gf_X0_40 hK (by decide) rfl (v := (h 8) 9) (rd_ (hF2_1 8 (by decide)) rfl) dX0_goForth_4 ?_
      have r2 := ty_8_9 (v := (h 8) 9) hT2_1 (rd_ (hF2_1 8 (by decide)) rfl)
      refine TT_icmp_ge hK (tgt := 84) (irm (by omega) (by omega)) (irm (by omega) (by omega)) dX0_goForth_7 (by decide) (fun hb7_3 => ?_) (fun hb7_3 => ?_)
      · refine TT_vret hK hQ ?_ dX0_goForth_84
        exact ⟨⟨hT2_1, hF2_1⟩, rfl⟩
      · refine TT_aload_n hK rfl 0 rfl dX0_goForth_10 ?_
        refine gf_X0_33 hK (by decide) rfl (v := (h 8) 7) (rd_ (hF2_1 8 (by decide)) rfl) dX0_goForth_11 ?_
        have r4 := ty_8_7 (v := (h 8) 7) hT2_1 (rd_ (hF2_1 8 (by decide)) rfl)
        refine TT_iload_n hK rfl 1 rfl dX0_goForth_14 ?_
        refine iv_X0_46 hK (s_X0_sideAfter ((h 8) 7) l w2_1 hT2_1 (by first | omega | (simp [up, setR] <;> omega)) (by first | omega | (simp [up, setR] <;> omega))) ⟨by decide, by decide⟩ (by decide) rfl rfl (Nat.le_of_ble_eq_true rfl) ⟨by decide, by decide⟩ dX0_goForth_15 ?_
        intro r9 g15_5 hp9
        obtain ⟨⟨hT_5, hG_5⟩, z15_5, hr9, hz_5, p1_5⟩ := hp9
        rw [hr9]
        have hF_5 : FR [9, 14, 15] h g15_5 := FR_tr hF2_1 hG_5 (by decide)
        show TT K ly 0 0 18 [(0, vR 8), (1, vI l)] [vI z15_5] g15_5
        refine TT_istore_n hK rfl (lv' := [(2, vI z15_5), (0, vR 8), (1, vI l)]) (by decide) rfl dX0_goForth_18 ?_
        refine TT_aload_n hK rfl 1 rfl dX0_goForth_19 ?_
        refine gf_X0_37 hK (by decide) rfl (v := (h 8) 8) (rd_ (((hG_5 8 (by decide))).trans (hF2_1 8 (by decide))) rfl) dX0_goForth_20 ?_
        have r6 := ty_8_8 (v := (h 8) 8) hT_5 (rd_ (((hG_5 8 (by decide))).trans (hF2_1 8 (by decide))) rfl)
        refine TT_iload_n hK rfl 2 rfl dX0_goForth_23 ?_
        refine iv_X0_46 hK (s_X0_sideAfter ((h 8) 8) l g15_5 hT_5 (by first | omega | (simp [up, setR] <;> omega)) (by first | omega | (simp [up, setR] <;> omega))) ⟨by decide, by decide⟩ (by decide) rfl rfl (Nat.le_of_ble_eq_true rfl) ⟨by decide, by decide⟩ dX0_goForth_24 ?_
        intro r9 g24_7 hp9
        obtain ⟨⟨hT_7, hG_7⟩, z24_7, hr9, hz_7, p1_7⟩ := hp9
        rw [hr9]
        have hF_7 : FR [9, 14, 15] h g24_7 := FR_tr hF_5 hG_7 (by decide)
        show TT K ly 0 0 27 [(2, vI z15_5), (0, vR 8), (1, vI l)] [vI z24_7] g24_7
        refine TT_istore_n hK rfl (lv' := [(3, vI z24_7), (2, vI z15_5), (0, vR 8), (1, vI l)]) (by decide) rfl dX0_goForth_27 ?_
        refine TT_iconst hK dX0_goForth_28 ?_
        refine TT_istore hK (lv' := [(4, vI 0), (3, vI z24_7), (2, vI z15_5), (0, vR 8), (1, vI l)]) (by decide) rfl dX0_goForth_29 ?_
        have L31_8 : ∀ (k8 : Nat) (x : Int) (w31_8 : Hp_), TY w31_8 → FR [9, 14, 15] h w31_8 → (0 ≤ x ∧ x ≤ 8) → ((8 : Int) - x).toNat < k8 → TT K ly 0 0 31 [(0, vR 8), (1, vI l), (2, vI z15_5), (3, vI z24_7), (4, vI x)] [] w31_8 := by
          intro k8
          induction k8 with
          | zero => intro x w31_8 hT31_8 hF31_8 hx hk8; exact absurd hk8 (Nat.not_lt_zero _)
          | succ k8 ih8 =>
            intro x w31_8 hT31_8 hF31_8 hx hk8
            refine TT_iload hK 4 rfl dX0_goForth_31 ?_
            refine TT_iload_n hK rfl 2 rfl dX0_goForth_33 ?_
            refine TT_icmp_ge hK (tgt := 52) (irm (by omega) (by omega)) (irm (by omega) (by omega)) dX0_goForth_34 (by decide) (fun hb34_9 => ?_) (fun hb34_9 => ?_)
            · refine TT_iconst hK dX0_goForth_52 ?_
              refine TT_istore hK (lv' := [(4, vI 0), (0, vR 8), (1, vI l), (2, vI z15_5), (3, vI z24_7)]) (by decide) rfl dX0_goForth_53 ?_
              have L55_10 : ∀ (k10 : Nat) (y : Int) (w55_10 : Hp_), TY w55_10 → FR [9, 14, 15] h w55_10 → (0 ≤ y ∧ y ≤ 8) → ((8 : Int) - y).toNat < k10 → TT K ly 0 0 55 [(0, vR 8), (1, vI l), (2, vI z15_5), (3, vI z24_7), (4, vI y)] [] w55_10 := by
                intro k10
                induction k10 with
                | zero => intro y w55_10 hT55_10 hF55_10 hy hk10; exact absurd hk10 (Nat.not_lt_zero _)
                | succ k10 ih10 =>
                  intro y w55_10 hT55_10 hF55_10 hy hk10
                  refine TT_iload hK 4 rfl dX0_goForth_55 ?_
                  refine TT_iload_n hK rfl 3 rfl dX0_goForth_57 ?_
                  refine TT_icmp_ge hK (tgt := 78) (irm (by omega) (by omega)) (irm (by omega) (by omega)) dX0_goForth_58 (by decide) (fun hb58_11 => ?_) (fun hb58_11 => ?_)
                  · refine TT_iinc hK (v := l + 1) (lv' := [(1, vI (l + 1)), (0, vR 8), (2, vI z15_5), (3, vI z24_7), (4, vI y)]) 1 rfl rfl (by decide) rfl dX0_goForth_78 ?_
                    refine TT_goto hK (tgt := 2) dX0_goForth_81 (by decide) ?_
                    refine TT_sub [1, 0] rfl ?_
                    exact ih1 (l + 1) w55_10 hT55_10 hF55_10 (by first | omega | (simp [up, setR] <;> omega)) (by first | omega | (simp [up, setR] <;> omega))
                  · refine TT_aload_n hK rfl 0 rfl dX0_goForth_61 ?_
                    refine TT_iload hK 4 rfl dX0_goForth_62 ?_
                    refine TT_bipush hK (by decide) dX0_goForth_64 ?_
                    refine TT_imul hK dX0_goForth_66 ?_
                    refine TT_iconst hK dX0_goForth_67 ?_
                    refine TT_iload_n hK rfl 2 rfl dX0_goForth_68 ?_
                    refine iv_X0_84 hK (s_splitLine_8_1 (y * 8) z15_5 w55_10 hT55_10 (by first | omega | (simp [up, setR] <;> omega)) (by first | omega | (simp [up, setR] <;> omega))) (by decide) rfl ⟨by decide, by decide⟩ (by decide) rfl rfl (Nat.le_of_ble_eq_true rfl) ⟨by decide, by decide⟩ dX0_goForth_69 ?_
                    intro r9 g69_12 hp9
                    obtain ⟨⟨hT_12, hG_12⟩, hr9⟩ := hp9
                    rw [hr9]
                    have hF_12 : FR [9, 14, 15] h g69_12 := FR_tr hF55_10 hG_12 (by decide)
                    show TT K ly 0 0 72 [(0, vR 8), (1, vI l), (2, vI z15_5), (3, vI z24_7), (4, vI y)] [] g69_12
                    refine TT_iinc hK (v := y + 1) (lv' := [(4, vI (y + 1)), (0, vR 8), (1, vI l), (2, vI z15_5), (3, vI z24_7)]) 4 rfl rfl (by decide) rfl dX0_goForth_72 ?_
                    refine TT_goto hK (tgt := 55) dX0_goForth_75 (by decide) ?_
                    refine TT_sub [1, 2, 3, 4, 0] rfl ?_
                    exact ih10 (y + 1) g69_12 hT_12 hF_12 (by first | omega | (simp [up, setR] <;> omega)) (by first | omega | (simp [up, setR] <;> omega))
              refine TT_sub [1, 2, 3, 4, 0] rfl ?_
              exact L55_10 ((((8 : Int) - 0).toNat) + 1) 0 w31_8 hT31_8 hF31_8 (by first | omega | (simp [up, setR] <;> omega)) (Nat.lt_succ_self _)
            · refine TT_aload_n hK rfl 0 rfl dX0_goForth_37 ?_
              refine TT_iload hK 4 rfl dX0_goForth_38 ?_
              refine TT_bipush hK (by decide) dX0_goForth_40 ?_
              refine TT_iload_n hK rfl 3 rfl dX0_goForth_42 ?_
              refine iv_X0_84 hK (s_splitLine_8_8 x z24_7 w31_8 hT31_8 (by first | omega | (simp [up, setR] <;> omega)) (by first | omega | (simp [up, setR] <;> omega))) (by decide) rfl ⟨by decide, by decide⟩ (by decide) rfl rfl (Nat.le_of_ble_eq_true rfl) ⟨by decide, by decide⟩ dX0_goForth_43 ?_
              intro r9 g43_13 hp9
              obtain ⟨⟨hT_13, hG_13⟩, hr9⟩ := hp9
              rw [hr9]
              have hF_13 : FR [9, 14, 15] h g43_13 := FR_tr hF31_8 hG_13 (by decide)
              show TT K ly 0 0 46 [(0, vR 8), (1, vI l), (2, vI z15_5), (3, vI z24_7), (4, vI x)] [] g43_13
              refine TT_iinc hK (v := x + 1) (lv' := [(4, vI (x + 1)), (0, vR 8), (1, vI l), (2, vI z15_5), (3, vI z24_7)]) 4 rfl rfl (by decide) rfl dX0_goForth_46 ?_
              refine TT_goto hK (tgt := 31) dX0_goForth_49 (by decide) ?_
              refine TT_sub [1, 2, 3, 4, 0] rfl ?_
              exact ih8 (x + 1) g43_13 hT_13 hF_13 (by first | omega | (simp [up, setR] <;> omega)) (by first | omega | (simp [up, setR] <;> omega))
        refine TT_sub [3, 4, 2, 1, 0] rfl ?_
        exact L31_8 ((((8 : Int) - 0).toNat) + 1) 0 g24_7 hT_7 hF_7 (by first | omega | (simp [up, setR] <;> omega)) (Nat.lt_succ_self _)
  refine TT_sub [1, 0] rfl ?_
  exact L2_1 ((((3 : Int) - 0).toNat) + 1) 0 h hT hF (by first | omega | (simp [up, setR] <;> omega)) (Nat.lt_succ_self _)

set_option maxRecDepth 20000 in
theorem s_X2_begin_35 (h : Hp_) (hT : TY h)  : Ctr yX2_begin cX2_begin 1 none (rmd 1) ly ly 0 0 [vR 35] h (fun r h' => (TY h' ∧ FR [36, 37] h h') ∧ r = none) := by
  refine Ctr_of (by decide) (Nat.le_of_ble_eq_true rfl) ⟨Nat.le_refl _, Nat.le_refl _⟩ (fun K hK hQ _ => ?_)
  show TT K ly 0 0 0 [(0, vR 35)] [] h
  have hF : FR [36, 37] h h := FR_rf _ _
  refine TT_aload_n hK rfl 0 rfl dX2_begin_0 ?_
  refine gf_X2_13 hK (by decide) rfl (q := 37) rfl rfl dX2_begin_1 ?_
  refine TT_iconst hK dX2_begin_4 ?_
  refine iv_X2_16 hK (s_fill_37 0 h hT (by first | omega | (simp [up, setR] <;> omega))) ⟨by decide, by decide⟩ (by decide) rfl rfl (Nat.le_of_ble_eq_true rfl) ⟨by decide, by decide⟩ dX2_begin_5 ?_
  intro r9 g5_1 hp9
  obtain ⟨⟨hT_1, hG_1⟩, hr9⟩ := hp9
  rw [hr9]
  have hF_1 : FR [36, 37] h g5_1 := FR_tr hF hG_1 (by decide)
  show TT K ly 0 0 8 [(0, vR 35)] [] g5_1
  refine TT_aload_n hK rfl 0 rfl dX2_begin_8 ?_
  refine gf_X2_9 hK (by decide) rfl (q := 36) rfl rfl dX2_begin_9 ?_
  refine TT_iconst hK dX2_begin_12 ?_
  refine iv_X2_16 hK (s_fill_36 0 g5_1 hT_1 (by first | omega | (simp [up, setR] <;> omega))) ⟨by decide, by decide⟩ (by decide) rfl rfl (Nat.le_of_ble_eq_true rfl) ⟨by decide, by decide⟩ dX2_begin_13 ?_
  intro r9 g13_2 hp9
  obtain ⟨⟨hT_2, hG_2⟩, hr9⟩ := hp9
  rw [hr9]
  have hF_2 : FR [36, 37] h g13_2 := FR_tr hF_1 hG_2 (by decide)
  show TT K ly 0 0 16 [(0, vR 35)] [] g13_2
  refine TT_aload_n hK rfl 0 rfl dX2_begin_16 ?_
  refine gf_X2_9 hK (by decide) rfl (q := 36) rfl rfl dX2_begin_17 ?_
  refine TT_iconst hK dX2_begin_20 ?_
  refine TT_iconst hK dX2_begin_21 ?_
  refine TT_iast hK (o := 36) (n := 19) (by decide) rfl (by omega) (by omega) dX2_begin_22 ?_
  refine TT_hp (h' := setO g13_2 36 (fup (g13_2 36) 0 4)) (up_can rfl rfl rfl) ?_
  have hT_3 : TY (setO g13_2 36 (fup (g13_2 36) 0 4)) := tu_36 hT_2 (show up g13_2 36 0 4 = (setO g13_2 36 (fup (g13_2 36) 0 4)) from up_can rfl rfl rfl) (by omega)
  have hF_3 : FR [36, 37] h (setO g13_2 36 (fup (g13_2 36) 0 4)) := FR_up (show up g13_2 36 0 4 = (setO g13_2 36 (fup (g13_2 36) 0 4)) from up_can rfl rfl rfl) hF_2 (by decide)
  refine TT_aload_n hK rfl 0 rfl dX2_begin_23 ?_
  refine gf_X2_9 hK (by decide) rfl (q := 36) rfl rfl dX2_begin_24 ?_
  refine TT_bipush hK (by decide) dX2_begin_27 ?_
  refine TT_iconst hK dX2_begin_29 ?_
  refine TT_iast hK (o := 36) (n := 19) (by decide) rfl (by omega) (by omega) dX2_begin_30 ?_
  refine TT_hp (h' := setO g13_2 36 (fup (fup (g13_2 36) 0 4) 17 3)) (up_can (sOf_eq _ _ _) rfl (setO_same _ _ _ _)) ?_
  have hT_4 : TY (setO g13_2 36 (fup (fup (g13_2 36) 0 4) 17 3)) := tu_36 hT_3 (show up (setO g13_2 36 (fup (g13_2 36) 0 4)) 36 17 3 = (setO g13_2 36 (fup (fup (g13_2 36) 0 4) 17 3)) from up_can (sOf_eq _ _ _) rfl (setO_same _ _ _ _)) (by omega)
  have hF_4 : FR [36, 37] h (setO g13_2 36 (fup (fup (g13_2 36) 0 4) 17 3)) := FR_up (show up (setO g13_2 36 (fup (g13_2 36) 0 4)) 36 17 3 = (setO g13_2 36 (fup (fup (g13_2 36) 0 4) 17 3)) from up_can (sOf_eq _ _ _) rfl (setO_same _ _ _ _)) hF_3 (by decide)
  refine TT_aload_n hK rfl 0 rfl dX2_begin_31 ?_
  refine gf_X2_9 hK (by decide) rfl (q := 36) rfl rfl dX2_begin_32 ?_
  refine TT_bipush hK (by decide) dX2_begin_35 ?_
  refine TT_bipush hK (by decide) dX2_begin_37 ?_
  refine TT_iast hK (o := 36) (n := 19) (by decide) rfl (by omega) (by omega) dX2_begin_39 ?_
  refine TT_hp (h' := setO g13_2 36 (fup (fup (fup (g13_2 36) 0 4) 17 3) 18 46)) (up_can (sOf_eq _ _ _) rfl (setO_same _ _ _ _)) ?_
  have hT_5 : TY (setO g13_2 36 (fup (fup (fup (g13_2 36) 0 4) 17 3) 18 46)) := tu_36 hT_4 (show up (setO g13_2 36 (fup (fup (g13_2 36) 0 4) 17 3)) 36 18 46 = (setO g13_2 36 (fup (fup (fup (g13_2 36) 0 4) 17 3) 18 46)) from up_can (sOf_eq _ _ _) rfl (setO_same _ _ _ _)) (by omega)
  have hF_5 : FR [36, 37] h (setO g13_2 36 (fup (fup (fup (g13_2 36) 0 4) 17 3) 18 46)) := FR_up (show up (setO g13_2 36 (fup (fup (g13_2 36) 0 4) 17 3)) 36 18 46 = (setO g13_2 36 (fup (fup (fup (g13_2 36) 0 4) 17 3) 18 46)) from up_can (sOf_eq _ _ _) rfl (setO_same _ _ _ _)) hF_4 (by decide)
  refine TT_vret hK hQ ?_ dX2_begin_40
  exact ⟨⟨hT_5, hF_5⟩, rfl⟩
set_option maxRecDepth 20000 in
theorem s_X2_sizeOf_35 (x : Int) (h : Hp_) (hT : TY h) (hx : 0 ≤ x ∧ x ≤ 18) : Ctr yX2_sizeOf cX2_sizeOf 2 (some .int) (rmd 0) ly ly 0 0 [vR 35, vI x] h (fun r h' => (TY h' ∧ FR [] h h') ∧ ∃ z : Int, r = some (vI z) ∧ (0 ≤ z ∧ z ≤ 22017)) := by
  refine Ctr_of (by decide) (Nat.le_of_ble_eq_true rfl) ⟨Nat.le_refl _, Nat.le_refl _⟩ (fun K hK hQ _ => ?_)
  show TT K ly 0 0 0 [(0, vR 35), (1, vI x)] [] h
  have hF : FR [] h h := FR_rf _ _
  refine TT_gets hK (i := 0) (q := 1000) (by decide) rfl gs_X2_22 dX2_sizeOf_0 ?_
  refine TT_aload_n hK rfl 0 rfl dX2_sizeOf_3 ?_
  refine gf_X2_9 hK (by decide) rfl (q := 36) rfl rfl dX2_sizeOf_4 ?_
  refine TT_iload_n hK rfl 1 rfl dX2_sizeOf_7 ?_
  refine TT_iald hK (o := 36) (n := 19) (by decide) rfl (by first | omega | (simp [up, setR] <;> omega)) (by first | omega | (simp [up, setR] <;> omega)) (v := (h 36) x) rfl dX2_sizeOf_8 ?_
  have r1 := ty_36 (i := x) (v := (h 36) x) hT rfl (by omega) (by omega)
  refine TT_tald hK (i := 0) (by decide) rfl (by first | omega | (simp [up, setR] <;> omega)) (by first | omega | (simp [up, setR] <;> omega)) rfl dX2_sizeOf_9 ?_
  obtain ⟨c9_2, hc2⟩ : ∃ c : Int, c = (stT 0).getD ((h 36) x).toNat 0 := ⟨_, rfl⟩
  have r2 : (0 : Int) ≤ c9_2 ∧ c9_2 ≤ 22017 := by rw [hc2]; exact tab_any 0 _ (by decide) (by omega) (by omega)
  rw [← hc2]
  refine TT_iret hK hQ ?_ dX2_sizeOf_10
  exact ⟨⟨hT, hF⟩, c9_2, rfl, (by omega)⟩
set_option maxRecDepth 20000 in
theorem s_X2_likelyBit_35 (x : Int) (h : Hp_) (hT : TY h) (hx : 0 ≤ x ∧ x ≤ 18) : Ctr yX2_likelyBit cX2_likelyBit 2 (some .int) (rmd 0) ly ly 0 0 [vR 35, vI x] h (fun r h' => (TY h' ∧ FR [] h h') ∧ ∃ z : Int, r = some (vI z) ∧ (0 ≤ z ∧ z ≤ 1)) := by
  refine Ctr_of (by decide) (Nat.le_of_ble_eq_true rfl) ⟨Nat.le_refl _, Nat.le_refl _⟩ (fun K hK hQ _ => ?_)
  show TT K ly 0 0 0 [(0, vR 35), (1, vI x)] [] h
  have hF : FR [] h h := FR_rf _ _
  refine TT_aload_n hK rfl 0 rfl dX2_likelyBit_0 ?_
  refine gf_X2_13 hK (by decide) rfl (q := 37) rfl rfl dX2_likelyBit_1 ?_
  refine TT_iload_n hK rfl 1 rfl dX2_likelyBit_4 ?_
  refine TT_iald hK (o := 37) (n := 19) (by decide) rfl (by first | omega | (simp [up, setR] <;> omega)) (by first | omega | (simp [up, setR] <;> omega)) (v := (h 37) x) rfl dX2_likelyBit_5 ?_
  have r1 := ty_37 (i := x) (v := (h 37) x) hT rfl (by omega) (by omega)
  refine TT_iret hK hQ ?_ dX2_likelyBit_6
  exact ⟨⟨hT, hF⟩, ((h 37) x), rfl, (by omega)⟩
set_option maxRecDepth 20000 in
theorem s_X2_learn_35 (x b : Int) (h : Hp_) (hT : TY h) (hx : 0 ≤ x ∧ x ≤ 18) (hb : 0 ≤ b ∧ b ≤ 1) : Ctr yX2_learn cX2_learn 4 none (rmd 0) ly ly 0 0 [vR 35, vI x, vI b] h (fun r h' => (TY h' ∧ FR [36, 37] h h') ∧ r = none) := by
  refine Ctr_of (by decide) (Nat.le_of_ble_eq_true rfl) ⟨Nat.le_refl _, Nat.le_refl _⟩ (fun K hK hQ _ => ?_)
  show TT K ly 0 0 0 [(0, vR 35), (1, vI x), (2, vI b)] [] h
  have hF : FR [36, 37] h h := FR_rf _ _
  refine TT_aload_n hK rfl 0 rfl dX2_learn_0 ?_
  refine gf_X2_9 hK (by decide) rfl (q := 36) rfl rfl dX2_learn_1 ?_
  refine TT_iload_n hK rfl 1 rfl dX2_learn_4 ?_
  refine TT_iald hK (o := 36) (n := 19) (by decide) rfl (by first | omega | (simp [up, setR] <;> omega)) (by first | omega | (simp [up, setR] <;> omega)) (v := (h 36) x) rfl dX2_learn_5 ?_
  have r1 := ty_36 (i := x) (v := (h 36) x) hT rfl (by omega) (by omega)
  refine TT_istore_n hK rfl (lv' := [(3, vI ((h 36) x)), (0, vR 35), (1, vI x), (2, vI b)]) (by decide) rfl dX2_learn_6 ?_
  refine TT_iload_n hK rfl 3 rfl dX2_learn_7 ?_
  refine TT_aload_n hK rfl 1 rfl dX2_learn_8 ?_
  refine gf_X2_13 hK (by decide) rfl (q := 37) rfl rfl dX2_learn_9 ?_
  refine TT_iload_n hK rfl 2 rfl dX2_learn_12 ?_
  refine TT_iald hK (o := 37) (n := 19) (by decide) rfl (by first | omega | (simp [up, setR] <;> omega)) (by first | omega | (simp [up, setR] <;> omega)) (v := (h 37) x) rfl dX2_learn_13 ?_
  have r2 := ty_37 (i := x) (v := (h 37) x) hT rfl (by omega) (by omega)
  refine TT_icmp_ne hK (tgt := 29) (irm (by omega) (by omega)) (irm (by omega) (by omega)) dX2_learn_14 (by decide) (fun hb14_3 => ?_) (fun hb14_3 => ?_)
  · refine TT_aload_n hK rfl 1 rfl dX2_learn_29 ?_
    refine gf_X2_9 hK (by decide) rfl (q := 36) rfl rfl dX2_learn_30 ?_
    refine TT_iload_n hK rfl 2 rfl dX2_learn_33 ?_
    refine TT_gets hK (i := 2) (q := 1002) (by decide) rfl gs_X2_28 dX2_learn_34 ?_
    refine TT_iload_n hK rfl 0 rfl dX2_learn_37 ?_
    refine TT_tald hK (i := 2) (by decide) rfl (by first | omega | (simp [up, setR] <;> omega)) (by first | omega | (simp [up, setR] <;> omega)) rfl dX2_learn_38 ?_
    obtain ⟨c38_4, hc4⟩ : ∃ c : Int, c = (stT 2).getD ((h 36) x).toNat 0 := ⟨_, rfl⟩
    have r4 : (0 : Int) ≤ c38_4 ∧ c38_4 ≤ 46 := by rw [hc4]; exact tab_46 2 _ (by decide) (by omega) (by omega)
    rw [← hc4]
    refine TT_iast hK (o := 36) (n := 19) (by decide) rfl (by omega) (by omega) dX2_learn_39 ?_
    refine TT_hp (h' := setO h 36 (fup (h 36) x c38_4)) (up_can rfl rfl rfl) ?_
    have hT_5 : TY (setO h 36 (fup (h 36) x c38_4)) := tu_36 hT (show up h 36 x c38_4 = (setO h 36 (fup (h 36) x c38_4)) from up_can rfl rfl rfl) (by omega)
    have hF_5 : FR [36, 37] h (setO h 36 (fup (h 36) x c38_4)) := FR_up (show up h 36 x c38_4 = (setO h 36 (fup (h 36) x c38_4)) from up_can rfl rfl rfl) hF (by decide)
    refine TT_iload_n hK rfl 0 rfl dX2_learn_40 ?_
    refine TT_if_eq hK (tgt := 56) (irm (by omega) (by omega)) dX2_learn_41 (by decide) (fun hb41_6 => ?_) (fun hb41_6 => ?_)
    · refine TT_aload_n hK rfl 1 rfl dX2_learn_56 ?_
      refine gf_X2_13 hK (by decide) rfl (q := 37) rfl rfl dX2_learn_57 ?_
      refine TT_iload_n hK rfl 2 rfl dX2_learn_60 ?_
      refine TT_iload_n hK rfl 3 rfl dX2_learn_61 ?_
      refine TT_iast hK (o := 37) (n := 19) (by decide) rfl (by omega) (by omega) dX2_learn_62 ?_
      refine TT_hp (h' := setO (setO h 36 (fup (h 36) x c38_4)) 37 (fup (h 37) x b)) (up_can (sOf_ne _ _ (by decide)) rfl rfl) ?_
      have hT_7 : TY (setO (setO h 36 (fup (h 36) x c38_4)) 37 (fup (h 37) x b)) := tu_37 hT_5 (show up (setO h 36 (fup (h 36) x c38_4)) 37 x b = (setO (setO h 36 (fup (h 36) x c38_4)) 37 (fup (h 37) x b)) from up_can (sOf_ne _ _ (by decide)) rfl rfl) (by omega)
      have hF_7 : FR [36, 37] h (setO (setO h 36 (fup (h 36) x c38_4)) 37 (fup (h 37) x b)) := FR_up (show up (setO h 36 (fup (h 36) x c38_4)) 37 x b = (setO (setO h 36 (fup (h 36) x c38_4)) 37 (fup (h 37) x b)) from up_can (sOf_ne _ _ (by decide)) rfl rfl) hF_5 (by decide)
      refine TT_vret hK hQ ?_ dX2_learn_63
      exact ⟨⟨hT_7, hF_7⟩, rfl⟩
    · refine TT_iload_n hK rfl 0 rfl dX2_learn_44 ?_
      refine TT_bipush hK (by decide) dX2_learn_45 ?_
      refine TT_icmp_eq hK (tgt := 56) (irm (by omega) (by omega)) (by decide) dX2_learn_47 (by decide) (fun hb47_8 => ?_) (fun hb47_8 => ?_)
      · refine TT_aload_n hK rfl 1 rfl dX2_learn_56 ?_
        refine gf_X2_13 hK (by decide) rfl (q := 37) rfl rfl dX2_learn_57 ?_
        refine TT_iload_n hK rfl 2 rfl dX2_learn_60 ?_
        refine TT_iload_n hK rfl 3 rfl dX2_learn_61 ?_
        refine TT_iast hK (o := 37) (n := 19) (by decide) rfl (by omega) (by omega) dX2_learn_62 ?_
        refine TT_hp (h' := setO (setO h 36 (fup (h 36) x c38_4)) 37 (fup (h 37) x b)) (up_can (sOf_ne _ _ (by decide)) rfl rfl) ?_
        have hT_9 : TY (setO (setO h 36 (fup (h 36) x c38_4)) 37 (fup (h 37) x b)) := tu_37 hT_5 (show up (setO h 36 (fup (h 36) x c38_4)) 37 x b = (setO (setO h 36 (fup (h 36) x c38_4)) 37 (fup (h 37) x b)) from up_can (sOf_ne _ _ (by decide)) rfl rfl) (by omega)
        have hF_9 : FR [36, 37] h (setO (setO h 36 (fup (h 36) x c38_4)) 37 (fup (h 37) x b)) := FR_up (show up (setO h 36 (fup (h 36) x c38_4)) 37 x b = (setO (setO h 36 (fup (h 36) x c38_4)) 37 (fup (h 37) x b)) from up_can (sOf_ne _ _ (by decide)) rfl rfl) hF_5 (by decide)
        refine TT_vret hK hQ ?_ dX2_learn_63
        exact ⟨⟨hT_9, hF_9⟩, rfl⟩
      · refine TT_iload_n hK rfl 0 rfl dX2_learn_50 ?_
        refine TT_bipush hK (by decide) dX2_learn_51 ?_
        refine TT_icmp_ne hK (tgt := 63) (irm (by omega) (by omega)) (by decide) dX2_learn_53 (by decide) (fun hb53_10 => ?_) (fun hb53_10 => ?_)
        · refine TT_vret hK hQ ?_ dX2_learn_63
          exact ⟨⟨hT_5, hF_5⟩, rfl⟩
        · refine TT_aload_n hK rfl 1 rfl dX2_learn_56 ?_
          refine gf_X2_13 hK (by decide) rfl (q := 37) rfl rfl dX2_learn_57 ?_
          refine TT_iload_n hK rfl 2 rfl dX2_learn_60 ?_
          refine TT_iload_n hK rfl 3 rfl dX2_learn_61 ?_
          refine TT_iast hK (o := 37) (n := 19) (by decide) rfl (by omega) (by omega) dX2_learn_62 ?_
          refine TT_hp (h' := setO (setO h 36 (fup (h 36) x c38_4)) 37 (fup (h 37) x b)) (up_can (sOf_ne _ _ (by decide)) rfl rfl) ?_
          have hT_11 : TY (setO (setO h 36 (fup (h 36) x c38_4)) 37 (fup (h 37) x b)) := tu_37 hT_5 (show up (setO h 36 (fup (h 36) x c38_4)) 37 x b = (setO (setO h 36 (fup (h 36) x c38_4)) 37 (fup (h 37) x b)) from up_can (sOf_ne _ _ (by decide)) rfl rfl) (by omega)
          have hF_11 : FR [36, 37] h (setO (setO h 36 (fup (h 36) x c38_4)) 37 (fup (h 37) x b)) := FR_up (show up (setO h 36 (fup (h 36) x c38_4)) 37 x b = (setO (setO h 36 (fup (h 36) x c38_4)) 37 (fup (h 37) x b)) from up_can (sOf_ne _ _ (by decide)) rfl rfl) hF_5 (by decide)
          refine TT_vret hK hQ ?_ dX2_learn_63
          exact ⟨⟨hT_11, hF_11⟩, rfl⟩
  · refine TT_aload_n hK rfl 1 rfl dX2_learn_17 ?_
    refine gf_X2_9 hK (by decide) rfl (q := 36) rfl rfl dX2_learn_18 ?_
    refine TT_iload_n hK rfl 2 rfl dX2_learn_21 ?_
    refine TT_gets hK (i := 1) (q := 1001) (by decide) rfl gs_X2_25 dX2_learn_22 ?_
    refine TT_iload_n hK rfl 0 rfl dX2_learn_25 ?_
    refine TT_tald hK (i := 1) (by decide) rfl (by first | omega | (simp [up, setR] <;> omega)) (by first | omega | (simp [up, setR] <;> omega)) rfl dX2_learn_26 ?_
    obtain ⟨c26_12, hc12⟩ : ∃ c : Int, c = (stT 1).getD ((h 36) x).toNat 0 := ⟨_, rfl⟩
    have r12 : (0 : Int) ≤ c26_12 ∧ c26_12 ≤ 46 := by rw [hc12]; exact tab_46 1 _ (by decide) (by omega) (by omega)
    rw [← hc12]
    refine TT_iast hK (o := 36) (n := 19) (by decide) rfl (by omega) (by omega) dX2_learn_27 ?_
    refine TT_hp (h' := setO h 36 (fup (h 36) x c26_12)) (up_can rfl rfl rfl) ?_
    have hT_13 : TY (setO h 36 (fup (h 36) x c26_12)) := tu_36 hT (show up h 36 x c26_12 = (setO h 36 (fup (h 36) x c26_12)) from up_can rfl rfl rfl) (by omega)
    have hF_13 : FR [36, 37] h (setO h 36 (fup (h 36) x c26_12)) := FR_up (show up h 36 x c26_12 = (setO h 36 (fup (h 36) x c26_12)) from up_can rfl rfl rfl) hF (by decide)
    refine TT_vret hK hQ ?_ dX2_learn_28
    exact ⟨⟨hT_13, hF_13⟩, rfl⟩
set_option maxRecDepth 20000 in
theorem s_X2_begin_40 (h : Hp_) (hT : TY h)  : Ctr yX2_begin cX2_begin 1 none (rmd 1) ly ly 0 0 [vR 40] h (fun r h' => (TY h' ∧ FR [41, 42] h h') ∧ r = none) := by
  refine Ctr_of (by decide) (Nat.le_of_ble_eq_true rfl) ⟨Nat.le_refl _, Nat.le_refl _⟩ (fun K hK hQ _ => ?_)
  show TT K ly 0 0 0 [(0, vR 40)] [] h
  have hF : FR [41, 42] h h := FR_rf _ _
  refine TT_aload_n hK rfl 0 rfl dX2_begin_0 ?_
  refine gf_X2_13 hK (by decide) rfl (q := 42) rfl rfl dX2_begin_1 ?_
  refine TT_iconst hK dX2_begin_4 ?_
  refine iv_X2_16 hK (s_fill_42 0 h hT (by first | omega | (simp [up, setR] <;> omega))) ⟨by decide, by decide⟩ (by decide) rfl rfl (Nat.le_of_ble_eq_true rfl) ⟨by decide, by decide⟩ dX2_begin_5 ?_
  intro r9 g5_1 hp9
  obtain ⟨⟨hT_1, hG_1⟩, hr9⟩ := hp9
  rw [hr9]
  have hF_1 : FR [41, 42] h g5_1 := FR_tr hF hG_1 (by decide)
  show TT K ly 0 0 8 [(0, vR 40)] [] g5_1
  refine TT_aload_n hK rfl 0 rfl dX2_begin_8 ?_
  refine gf_X2_9 hK (by decide) rfl (q := 41) rfl rfl dX2_begin_9 ?_
  refine TT_iconst hK dX2_begin_12 ?_
  refine iv_X2_16 hK (s_fill_41 0 g5_1 hT_1 (by first | omega | (simp [up, setR] <;> omega))) ⟨by decide, by decide⟩ (by decide) rfl rfl (Nat.le_of_ble_eq_true rfl) ⟨by decide, by decide⟩ dX2_begin_13 ?_
  intro r9 g13_2 hp9
  obtain ⟨⟨hT_2, hG_2⟩, hr9⟩ := hp9
  rw [hr9]
  have hF_2 : FR [41, 42] h g13_2 := FR_tr hF_1 hG_2 (by decide)
  show TT K ly 0 0 16 [(0, vR 40)] [] g13_2
  refine TT_aload_n hK rfl 0 rfl dX2_begin_16 ?_
  refine gf_X2_9 hK (by decide) rfl (q := 41) rfl rfl dX2_begin_17 ?_
  refine TT_iconst hK dX2_begin_20 ?_
  refine TT_iconst hK dX2_begin_21 ?_
  refine TT_iast hK (o := 41) (n := 19) (by decide) rfl (by omega) (by omega) dX2_begin_22 ?_
  refine TT_hp (h' := setO g13_2 41 (fup (g13_2 41) 0 4)) (up_can rfl rfl rfl) ?_
  have hT_3 : TY (setO g13_2 41 (fup (g13_2 41) 0 4)) := tu_41 hT_2 (show up g13_2 41 0 4 = (setO g13_2 41 (fup (g13_2 41) 0 4)) from up_can rfl rfl rfl) (by omega)
  have hF_3 : FR [41, 42] h (setO g13_2 41 (fup (g13_2 41) 0 4)) := FR_up (show up g13_2 41 0 4 = (setO g13_2 41 (fup (g13_2 41) 0 4)) from up_can rfl rfl rfl) hF_2 (by decide)
  refine TT_aload_n hK rfl 0 rfl dX2_begin_23 ?_
  refine gf_X2_9 hK (by decide) rfl (q := 41) rfl rfl dX2_begin_24 ?_
  refine TT_bipush hK (by decide) dX2_begin_27 ?_
  refine TT_iconst hK dX2_begin_29 ?_
  refine TT_iast hK (o := 41) (n := 19) (by decide) rfl (by omega) (by omega) dX2_begin_30 ?_
  refine TT_hp (h' := setO g13_2 41 (fup (fup (g13_2 41) 0 4) 17 3)) (up_can (sOf_eq _ _ _) rfl (setO_same _ _ _ _)) ?_
  have hT_4 : TY (setO g13_2 41 (fup (fup (g13_2 41) 0 4) 17 3)) := tu_41 hT_3 (show up (setO g13_2 41 (fup (g13_2 41) 0 4)) 41 17 3 = (setO g13_2 41 (fup (fup (g13_2 41) 0 4) 17 3)) from up_can (sOf_eq _ _ _) rfl (setO_same _ _ _ _)) (by omega)
  have hF_4 : FR [41, 42] h (setO g13_2 41 (fup (fup (g13_2 41) 0 4) 17 3)) := FR_up (show up (setO g13_2 41 (fup (g13_2 41) 0 4)) 41 17 3 = (setO g13_2 41 (fup (fup (g13_2 41) 0 4) 17 3)) from up_can (sOf_eq _ _ _) rfl (setO_same _ _ _ _)) hF_3 (by decide)
  refine TT_aload_n hK rfl 0 rfl dX2_begin_31 ?_
  refine gf_X2_9 hK (by decide) rfl (q := 41) rfl rfl dX2_begin_32 ?_
  refine TT_bipush hK (by decide) dX2_begin_35 ?_
  refine TT_bipush hK (by decide) dX2_begin_37 ?_
  refine TT_iast hK (o := 41) (n := 19) (by decide) rfl (by omega) (by omega) dX2_begin_39 ?_
  refine TT_hp (h' := setO g13_2 41 (fup (fup (fup (g13_2 41) 0 4) 17 3) 18 46)) (up_can (sOf_eq _ _ _) rfl (setO_same _ _ _ _)) ?_
  have hT_5 : TY (setO g13_2 41 (fup (fup (fup (g13_2 41) 0 4) 17 3) 18 46)) := tu_41 hT_4 (show up (setO g13_2 41 (fup (fup (g13_2 41) 0 4) 17 3)) 41 18 46 = (setO g13_2 41 (fup (fup (fup (g13_2 41) 0 4) 17 3) 18 46)) from up_can (sOf_eq _ _ _) rfl (setO_same _ _ _ _)) (by omega)
  have hF_5 : FR [41, 42] h (setO g13_2 41 (fup (fup (fup (g13_2 41) 0 4) 17 3) 18 46)) := FR_up (show up (setO g13_2 41 (fup (fup (g13_2 41) 0 4) 17 3)) 41 18 46 = (setO g13_2 41 (fup (fup (fup (g13_2 41) 0 4) 17 3) 18 46)) from up_can (sOf_eq _ _ _) rfl (setO_same _ _ _ _)) hF_4 (by decide)
  refine TT_vret hK hQ ?_ dX2_begin_40
  exact ⟨⟨hT_5, hF_5⟩, rfl⟩
set_option maxRecDepth 20000 in
theorem s_X2_sizeOf_40 (x : Int) (h : Hp_) (hT : TY h) (hx : 0 ≤ x ∧ x ≤ 18) : Ctr yX2_sizeOf cX2_sizeOf 2 (some .int) (rmd 0) ly ly 0 0 [vR 40, vI x] h (fun r h' => (TY h' ∧ FR [] h h') ∧ ∃ z : Int, r = some (vI z) ∧ (0 ≤ z ∧ z ≤ 22017)) := by
  refine Ctr_of (by decide) (Nat.le_of_ble_eq_true rfl) ⟨Nat.le_refl _, Nat.le_refl _⟩ (fun K hK hQ _ => ?_)
  show TT K ly 0 0 0 [(0, vR 40), (1, vI x)] [] h
  have hF : FR [] h h := FR_rf _ _
  refine TT_gets hK (i := 0) (q := 1000) (by decide) rfl gs_X2_22 dX2_sizeOf_0 ?_
  refine TT_aload_n hK rfl 0 rfl dX2_sizeOf_3 ?_
  refine gf_X2_9 hK (by decide) rfl (q := 41) rfl rfl dX2_sizeOf_4 ?_
  refine TT_iload_n hK rfl 1 rfl dX2_sizeOf_7 ?_
  refine TT_iald hK (o := 41) (n := 19) (by decide) rfl (by first | omega | (simp [up, setR] <;> omega)) (by first | omega | (simp [up, setR] <;> omega)) (v := (h 41) x) rfl dX2_sizeOf_8 ?_
  have r1 := ty_41 (i := x) (v := (h 41) x) hT rfl (by omega) (by omega)
  refine TT_tald hK (i := 0) (by decide) rfl (by first | omega | (simp [up, setR] <;> omega)) (by first | omega | (simp [up, setR] <;> omega)) rfl dX2_sizeOf_9 ?_
  obtain ⟨c9_2, hc2⟩ : ∃ c : Int, c = (stT 0).getD ((h 41) x).toNat 0 := ⟨_, rfl⟩
  have r2 : (0 : Int) ≤ c9_2 ∧ c9_2 ≤ 22017 := by rw [hc2]; exact tab_any 0 _ (by decide) (by omega) (by omega)
  rw [← hc2]
  refine TT_iret hK hQ ?_ dX2_sizeOf_10
  exact ⟨⟨hT, hF⟩, c9_2, rfl, (by omega)⟩
set_option maxRecDepth 20000 in
theorem s_X2_likelyBit_40 (x : Int) (h : Hp_) (hT : TY h) (hx : 0 ≤ x ∧ x ≤ 18) : Ctr yX2_likelyBit cX2_likelyBit 2 (some .int) (rmd 0) ly ly 0 0 [vR 40, vI x] h (fun r h' => (TY h' ∧ FR [] h h') ∧ ∃ z : Int, r = some (vI z) ∧ (0 ≤ z ∧ z ≤ 1)) := by
  refine Ctr_of (by decide) (Nat.le_of_ble_eq_true rfl) ⟨Nat.le_refl _, Nat.le_refl _⟩ (fun K hK hQ _ => ?_)
  show TT K ly 0 0 0 [(0, vR 40), (1, vI x)] [] h
  have hF : FR [] h h := FR_rf _ _
  refine TT_aload_n hK rfl 0 rfl dX2_likelyBit_0 ?_
  refine gf_X2_13 hK (by decide) rfl (q := 42) rfl rfl dX2_likelyBit_1 ?_
  refine TT_iload_n hK rfl 1 rfl dX2_likelyBit_4 ?_
  refine TT_iald hK (o := 42) (n := 19) (by decide) rfl (by first | omega | (simp [up, setR] <;> omega)) (by first | omega | (simp [up, setR] <;> omega)) (v := (h 42) x) rfl dX2_likelyBit_5 ?_
  have r1 := ty_42 (i := x) (v := (h 42) x) hT rfl (by omega) (by omega)
  refine TT_iret hK hQ ?_ dX2_likelyBit_6
  exact ⟨⟨hT, hF⟩, ((h 42) x), rfl, (by omega)⟩
set_option maxRecDepth 20000 in
theorem s_X2_learn_40 (x b : Int) (h : Hp_) (hT : TY h) (hx : 0 ≤ x ∧ x ≤ 18) (hb : 0 ≤ b ∧ b ≤ 1) : Ctr yX2_learn cX2_learn 4 none (rmd 0) ly ly 0 0 [vR 40, vI x, vI b] h (fun r h' => (TY h' ∧ FR [41, 42] h h') ∧ r = none) := by
  refine Ctr_of (by decide) (Nat.le_of_ble_eq_true rfl) ⟨Nat.le_refl _, Nat.le_refl _⟩ (fun K hK hQ _ => ?_)
  show TT K ly 0 0 0 [(0, vR 40), (1, vI x), (2, vI b)] [] h
  have hF : FR [41, 42] h h := FR_rf _ _
  refine TT_aload_n hK rfl 0 rfl dX2_learn_0 ?_
  refine gf_X2_9 hK (by decide) rfl (q := 41) rfl rfl dX2_learn_1 ?_
  refine TT_iload_n hK rfl 1 rfl dX2_learn_4 ?_
  refine TT_iald hK (o := 41) (n := 19) (by decide) rfl (by first | omega | (simp [up, setR] <;> omega)) (by first | omega | (simp [up, setR] <;> omega)) (v := (h 41) x) rfl dX2_learn_5 ?_
  have r1 := ty_41 (i := x) (v := (h 41) x) hT rfl (by omega) (by omega)
  refine TT_istore_n hK rfl (lv' := [(3, vI ((h 41) x)), (0, vR 40), (1, vI x), (2, vI b)]) (by decide) rfl dX2_learn_6 ?_
  refine TT_iload_n hK rfl 3 rfl dX2_learn_7 ?_
  refine TT_aload_n hK rfl 1 rfl dX2_learn_8 ?_
  refine gf_X2_13 hK (by decide) rfl (q := 42) rfl rfl dX2_learn_9 ?_
  refine TT_iload_n hK rfl 2 rfl dX2_learn_12 ?_
  refine TT_iald hK (o := 42) (n := 19) (by decide) rfl (by first | omega | (simp [up, setR] <;> omega)) (by first | omega | (simp [up, setR] <;> omega)) (v := (h 42) x) rfl dX2_learn_13 ?_
  have r2 := ty_42 (i := x) (v := (h 42) x) hT rfl (by omega) (by omega)
  refine TT_icmp_ne hK (tgt := 29) (irm (by omega) (by omega)) (irm (by omega) (by omega)) dX2_learn_14 (by decide) (fun hb14_3 => ?_) (fun hb14_3 => ?_)
  · refine TT_aload_n hK rfl 1 rfl dX2_learn_29 ?_
    refine gf_X2_9 hK (by decide) rfl (q := 41) rfl rfl dX2_learn_30 ?_
    refine TT_iload_n hK rfl 2 rfl dX2_learn_33 ?_
    refine TT_gets hK (i := 2) (q := 1002) (by decide) rfl gs_X2_28 dX2_learn_34 ?_
    refine TT_iload_n hK rfl 0 rfl dX2_learn_37 ?_
    refine TT_tald hK (i := 2) (by decide) rfl (by first | omega | (simp [up, setR] <;> omega)) (by first | omega | (simp [up, setR] <;> omega)) rfl dX2_learn_38 ?_
    obtain ⟨c38_4, hc4⟩ : ∃ c : Int, c = (stT 2).getD ((h 41) x).toNat 0 := ⟨_, rfl⟩
    have r4 : (0 : Int) ≤ c38_4 ∧ c38_4 ≤ 46 := by rw [hc4]; exact tab_46 2 _ (by decide) (by omega) (by omega)
    rw [← hc4]
    refine TT_iast hK (o := 41) (n := 19) (by decide) rfl (by omega) (by omega) dX2_learn_39 ?_
    refine TT_hp (h' := setO h 41 (fup (h 41) x c38_4)) (up_can rfl rfl rfl) ?_
    have hT_5 : TY (setO h 41 (fup (h 41) x c38_4)) := tu_41 hT (show up h 41 x c38_4 = (setO h 41 (fup (h 41) x c38_4)) from up_can rfl rfl rfl) (by omega)
    have hF_5 : FR [41, 42] h (setO h 41 (fup (h 41) x c38_4)) := FR_up (show up h 41 x c38_4 = (setO h 41 (fup (h 41) x c38_4)) from up_can rfl rfl rfl) hF (by decide)
    refine TT_iload_n hK rfl 0 rfl dX2_learn_40 ?_
    refine TT_if_eq hK (tgt := 56) (irm (by omega) (by omega)) dX2_learn_41 (by decide) (fun hb41_6 => ?_) (fun hb41_6 => ?_)
    · refine TT_aload_n hK rfl 1 rfl dX2_learn_56 ?_
      refine gf_X2_13 hK (by decide) rfl (q := 42) rfl rfl dX2_learn_57 ?_
      refine TT_iload_n hK rfl 2 rfl dX2_learn_60 ?_
      refine TT_iload_n hK rfl 3 rfl dX2_learn_61 ?_
      refine TT_iast hK (o := 42) (n := 19) (by decide) rfl (by omega) (by omega) dX2_learn_62 ?_
      refine TT_hp (h' := setO (setO h 41 (fup (h 41) x c38_4)) 42 (fup (h 42) x b)) (up_can (sOf_ne _ _ (by decide)) rfl rfl) ?_
      have hT_7 : TY (setO (setO h 41 (fup (h 41) x c38_4)) 42 (fup (h 42) x b)) := tu_42 hT_5 (show up (setO h 41 (fup (h 41) x c38_4)) 42 x b = (setO (setO h 41 (fup (h 41) x c38_4)) 42 (fup (h 42) x b)) from up_can (sOf_ne _ _ (by decide)) rfl rfl) (by omega)
      have hF_7 : FR [41, 42] h (setO (setO h 41 (fup (h 41) x c38_4)) 42 (fup (h 42) x b)) := FR_up (show up (setO h 41 (fup (h 41) x c38_4)) 42 x b = (setO (setO h 41 (fup (h 41) x c38_4)) 42 (fup (h 42) x b)) from up_can (sOf_ne _ _ (by decide)) rfl rfl) hF_5 (by decide)
      refine TT_vret hK hQ ?_ dX2_learn_63
      exact ⟨⟨hT_7, hF_7⟩, rfl⟩
    · refine TT_iload_n hK rfl 0 rfl dX2_learn_44 ?_
      refine TT_bipush hK (by decide) dX2_learn_45 ?_
      refine TT_icmp_eq hK (tgt := 56) (irm (by omega) (by omega)) (by decide) dX2_learn_47 (by decide) (fun hb47_8 => ?_) (fun hb47_8 => ?_)
      · refine TT_aload_n hK rfl 1 rfl dX2_learn_56 ?_
        refine gf_X2_13 hK (by decide) rfl (q := 42) rfl rfl dX2_learn_57 ?_
        refine TT_iload_n hK rfl 2 rfl dX2_learn_60 ?_
        refine TT_iload_n hK rfl 3 rfl dX2_learn_61 ?_
        refine TT_iast hK (o := 42) (n := 19) (by decide) rfl (by omega) (by omega) dX2_learn_62 ?_
        refine TT_hp (h' := setO (setO h 41 (fup (h 41) x c38_4)) 42 (fup (h 42) x b)) (up_can (sOf_ne _ _ (by decide)) rfl rfl) ?_
        have hT_9 : TY (setO (setO h 41 (fup (h 41) x c38_4)) 42 (fup (h 42) x b)) := tu_42 hT_5 (show up (setO h 41 (fup (h 41) x c38_4)) 42 x b = (setO (setO h 41 (fup (h 41) x c38_4)) 42 (fup (h 42) x b)) from up_can (sOf_ne _ _ (by decide)) rfl rfl) (by omega)
        have hF_9 : FR [41, 42] h (setO (setO h 41 (fup (h 41) x c38_4)) 42 (fup (h 42) x b)) := FR_up (show up (setO h 41 (fup (h 41) x c38_4)) 42 x b = (setO (setO h 41 (fup (h 41) x c38_4)) 42 (fup (h 42) x b)) from up_can (sOf_ne _ _ (by decide)) rfl rfl) hF_5 (by decide)
        refine TT_vret hK hQ ?_ dX2_learn_63
        exact ⟨⟨hT_9, hF_9⟩, rfl⟩
      · refine TT_iload_n hK rfl 0 rfl dX2_learn_50 ?_
        refine TT_bipush hK (by decide) dX2_learn_51 ?_
        refine TT_icmp_ne hK (tgt := 63) (irm (by omega) (by omega)) (by decide) dX2_learn_53 (by decide) (fun hb53_10 => ?_) (fun hb53_10 => ?_)
        · refine TT_vret hK hQ ?_ dX2_learn_63
          exact ⟨⟨hT_5, hF_5⟩, rfl⟩
        · refine TT_aload_n hK rfl 1 rfl dX2_learn_56 ?_
          refine gf_X2_13 hK (by decide) rfl (q := 42) rfl rfl dX2_learn_57 ?_
          refine TT_iload_n hK rfl 2 rfl dX2_learn_60 ?_
          refine TT_iload_n hK rfl 3 rfl dX2_learn_61 ?_
          refine TT_iast hK (o := 42) (n := 19) (by decide) rfl (by omega) (by omega) dX2_learn_62 ?_
          refine TT_hp (h' := setO (setO h 41 (fup (h 41) x c38_4)) 42 (fup (h 42) x b)) (up_can (sOf_ne _ _ (by decide)) rfl rfl) ?_
          have hT_11 : TY (setO (setO h 41 (fup (h 41) x c38_4)) 42 (fup (h 42) x b)) := tu_42 hT_5 (show up (setO h 41 (fup (h 41) x c38_4)) 42 x b = (setO (setO h 41 (fup (h 41) x c38_4)) 42 (fup (h 42) x b)) from up_can (sOf_ne _ _ (by decide)) rfl rfl) (by omega)
          have hF_11 : FR [41, 42] h (setO (setO h 41 (fup (h 41) x c38_4)) 42 (fup (h 42) x b)) := FR_up (show up (setO h 41 (fup (h 41) x c38_4)) 42 x b = (setO (setO h 41 (fup (h 41) x c38_4)) 42 (fup (h 42) x b)) from up_can (sOf_ne _ _ (by decide)) rfl rfl) hF_5 (by decide)
          refine TT_vret hK hQ ?_ dX2_learn_63
          exact ⟨⟨hT_11, hF_11⟩, rfl⟩
  · refine TT_aload_n hK rfl 1 rfl dX2_learn_17 ?_
    refine gf_X2_9 hK (by decide) rfl (q := 41) rfl rfl dX2_learn_18 ?_
    refine TT_iload_n hK rfl 2 rfl dX2_learn_21 ?_
    refine TT_gets hK (i := 1) (q := 1001) (by decide) rfl gs_X2_25 dX2_learn_22 ?_
    refine TT_iload_n hK rfl 0 rfl dX2_learn_25 ?_
    refine TT_tald hK (i := 1) (by decide) rfl (by first | omega | (simp [up, setR] <;> omega)) (by first | omega | (simp [up, setR] <;> omega)) rfl dX2_learn_26 ?_
    obtain ⟨c26_12, hc12⟩ : ∃ c : Int, c = (stT 1).getD ((h 41) x).toNat 0 := ⟨_, rfl⟩
    have r12 : (0 : Int) ≤ c26_12 ∧ c26_12 ≤ 46 := by rw [hc12]; exact tab_46 1 _ (by decide) (by omega) (by omega)
    rw [← hc12]
    refine TT_iast hK (o := 41) (n := 19) (by decide) rfl (by omega) (by omega) dX2_learn_27 ?_
    refine TT_hp (h' := setO h 41 (fup (h 41) x c26_12)) (up_can rfl rfl rfl) ?_
    have hT_13 : TY (setO h 41 (fup (h 41) x c26_12)) := tu_41 hT (show up h 41 x c26_12 = (setO h 41 (fup (h 41) x c26_12)) from up_can rfl rfl rfl) (by omega)
    have hF_13 : FR [41, 42] h (setO h 41 (fup (h 41) x c26_12)) := FR_up (show up h 41 x c26_12 = (setO h 41 (fup (h 41) x c26_12)) from up_can rfl rfl rfl) hF (by decide)
    refine TT_vret hK hQ ?_ dX2_learn_28
    exact ⟨⟨hT_13, hF_13⟩, rfl⟩
set_option maxRecDepth 20000 in
theorem s_X2_begin_63 (h : Hp_) (hT : TY h)  : Ctr yX2_begin cX2_begin 1 none (rmd 1) ly ly 0 0 [vR 63] h (fun r h' => (TY h' ∧ FR [64, 65] h h') ∧ r = none) := by
  refine Ctr_of (by decide) (Nat.le_of_ble_eq_true rfl) ⟨Nat.le_refl _, Nat.le_refl _⟩ (fun K hK hQ _ => ?_)
  show TT K ly 0 0 0 [(0, vR 63)] [] h
  have hF : FR [64, 65] h h := FR_rf _ _
  refine TT_aload_n hK rfl 0 rfl dX2_begin_0 ?_
  refine gf_X2_13 hK (by decide) rfl (q := 65) rfl rfl dX2_begin_1 ?_
  refine TT_iconst hK dX2_begin_4 ?_
  refine iv_X2_16 hK (s_fill_65 0 h hT (by first | omega | (simp [up, setR] <;> omega))) ⟨by decide, by decide⟩ (by decide) rfl rfl (Nat.le_of_ble_eq_true rfl) ⟨by decide, by decide⟩ dX2_begin_5 ?_
  intro r9 g5_1 hp9
  obtain ⟨⟨hT_1, hG_1⟩, hr9⟩ := hp9
  rw [hr9]
  have hF_1 : FR [64, 65] h g5_1 := FR_tr hF hG_1 (by decide)
  show TT K ly 0 0 8 [(0, vR 63)] [] g5_1
  refine TT_aload_n hK rfl 0 rfl dX2_begin_8 ?_
  refine gf_X2_9 hK (by decide) rfl (q := 64) rfl rfl dX2_begin_9 ?_
  refine TT_iconst hK dX2_begin_12 ?_
  refine iv_X2_16 hK (s_fill_64 0 g5_1 hT_1 (by first | omega | (simp [up, setR] <;> omega))) ⟨by decide, by decide⟩ (by decide) rfl rfl (Nat.le_of_ble_eq_true rfl) ⟨by decide, by decide⟩ dX2_begin_13 ?_
  intro r9 g13_2 hp9
  obtain ⟨⟨hT_2, hG_2⟩, hr9⟩ := hp9
  rw [hr9]
  have hF_2 : FR [64, 65] h g13_2 := FR_tr hF_1 hG_2 (by decide)
  show TT K ly 0 0 16 [(0, vR 63)] [] g13_2
  refine TT_aload_n hK rfl 0 rfl dX2_begin_16 ?_
  refine gf_X2_9 hK (by decide) rfl (q := 64) rfl rfl dX2_begin_17 ?_
  refine TT_iconst hK dX2_begin_20 ?_
  refine TT_iconst hK dX2_begin_21 ?_
  refine TT_iast hK (o := 64) (n := 19) (by decide) rfl (by omega) (by omega) dX2_begin_22 ?_
  refine TT_hp (h' := setO g13_2 64 (fup (g13_2 64) 0 4)) (up_can rfl rfl rfl) ?_
  have hT_3 : TY (setO g13_2 64 (fup (g13_2 64) 0 4)) := tu_64 hT_2 (show up g13_2 64 0 4 = (setO g13_2 64 (fup (g13_2 64) 0 4)) from up_can rfl rfl rfl) (by omega)
  have hF_3 : FR [64, 65] h (setO g13_2 64 (fup (g13_2 64) 0 4)) := FR_up (show up g13_2 64 0 4 = (setO g13_2 64 (fup (g13_2 64) 0 4)) from up_can rfl rfl rfl) hF_2 (by decide)
  refine TT_aload_n hK rfl 0 rfl dX2_begin_23 ?_
  refine gf_X2_9 hK (by decide) rfl (q := 64) rfl rfl dX2_begin_24 ?_
  refine TT_bipush hK (by decide) dX2_begin_27 ?_
  refine TT_iconst hK dX2_begin_29 ?_
  refine TT_iast hK (o := 64) (n := 19) (by decide) rfl (by omega) (by omega) dX2_begin_30 ?_
  refine TT_hp (h' := setO g13_2 64 (fup (fup (g13_2 64) 0 4) 17 3)) (up_can (sOf_eq _ _ _) rfl (setO_same _ _ _ _)) ?_
  have hT_4 : TY (setO g13_2 64 (fup (fup (g13_2 64) 0 4) 17 3)) := tu_64 hT_3 (show up (setO g13_2 64 (fup (g13_2 64) 0 4)) 64 17 3 = (setO g13_2 64 (fup (fup (g13_2 64) 0 4) 17 3)) from up_can (sOf_eq _ _ _) rfl (setO_same _ _ _ _)) (by omega)
  have hF_4 : FR [64, 65] h (setO g13_2 64 (fup (fup (g13_2 64) 0 4) 17 3)) := FR_up (show up (setO g13_2 64 (fup (g13_2 64) 0 4)) 64 17 3 = (setO g13_2 64 (fup (fup (g13_2 64) 0 4) 17 3)) from up_can (sOf_eq _ _ _) rfl (setO_same _ _ _ _)) hF_3 (by decide)
  refine TT_aload_n hK rfl 0 rfl dX2_begin_31 ?_
  refine gf_X2_9 hK (by decide) rfl (q := 64) rfl rfl dX2_begin_32 ?_
  refine TT_bipush hK (by decide) dX2_begin_35 ?_
  refine TT_bipush hK (by decide) dX2_begin_37 ?_
  refine TT_iast hK (o := 64) (n := 19) (by decide) rfl (by omega) (by omega) dX2_begin_39 ?_
  refine TT_hp (h' := setO g13_2 64 (fup (fup (fup (g13_2 64) 0 4) 17 3) 18 46)) (up_can (sOf_eq _ _ _) rfl (setO_same _ _ _ _)) ?_
  have hT_5 : TY (setO g13_2 64 (fup (fup (fup (g13_2 64) 0 4) 17 3) 18 46)) := tu_64 hT_4 (show up (setO g13_2 64 (fup (fup (g13_2 64) 0 4) 17 3)) 64 18 46 = (setO g13_2 64 (fup (fup (fup (g13_2 64) 0 4) 17 3) 18 46)) from up_can (sOf_eq _ _ _) rfl (setO_same _ _ _ _)) (by omega)
  have hF_5 : FR [64, 65] h (setO g13_2 64 (fup (fup (fup (g13_2 64) 0 4) 17 3) 18 46)) := FR_up (show up (setO g13_2 64 (fup (fup (g13_2 64) 0 4) 17 3)) 64 18 46 = (setO g13_2 64 (fup (fup (fup (g13_2 64) 0 4) 17 3) 18 46)) from up_can (sOf_eq _ _ _) rfl (setO_same _ _ _ _)) hF_4 (by decide)
  refine TT_vret hK hQ ?_ dX2_begin_40
  exact ⟨⟨hT_5, hF_5⟩, rfl⟩
set_option maxRecDepth 20000 in
theorem s_X2_sizeOf_63 (x : Int) (h : Hp_) (hT : TY h) (hx : 0 ≤ x ∧ x ≤ 18) : Ctr yX2_sizeOf cX2_sizeOf 2 (some .int) (rmd 0) ly ly 0 0 [vR 63, vI x] h (fun r h' => (TY h' ∧ FR [] h h') ∧ ∃ z : Int, r = some (vI z) ∧ (0 ≤ z ∧ z ≤ 22017)) := by
  refine Ctr_of (by decide) (Nat.le_of_ble_eq_true rfl) ⟨Nat.le_refl _, Nat.le_refl _⟩ (fun K hK hQ _ => ?_)
  show TT K ly 0 0 0 [(0, vR 63), (1, vI x)] [] h
  have hF : FR [] h h := FR_rf _ _
  refine TT_gets hK (i := 0) (q := 1000) (by decide) rfl gs_X2_22 dX2_sizeOf_0 ?_
  refine TT_aload_n hK rfl 0 rfl dX2_sizeOf_3 ?_
  refine gf_X2_9 hK (by decide) rfl (q := 64) rfl rfl dX2_sizeOf_4 ?_
  refine TT_iload_n hK rfl 1 rfl dX2_sizeOf_7 ?_
  refine TT_iald hK (o := 64) (n := 19) (by decide) rfl (by first | omega | (simp [up, setR] <;> omega)) (by first | omega | (simp [up, setR] <;> omega)) (v := (h 64) x) rfl dX2_sizeOf_8 ?_
  have r1 := ty_64 (i := x) (v := (h 64) x) hT rfl (by omega) (by omega)
  refine TT_tald hK (i := 0) (by decide) rfl (by first | omega | (simp [up, setR] <;> omega)) (by first | omega | (simp [up, setR] <;> omega)) rfl dX2_sizeOf_9 ?_
  obtain ⟨c9_2, hc2⟩ : ∃ c : Int, c = (stT 0).getD ((h 64) x).toNat 0 := ⟨_, rfl⟩
  have r2 : (0 : Int) ≤ c9_2 ∧ c9_2 ≤ 22017 := by rw [hc2]; exact tab_any 0 _ (by decide) (by omega) (by omega)
  rw [← hc2]
  refine TT_iret hK hQ ?_ dX2_sizeOf_10
  exact ⟨⟨hT, hF⟩, c9_2, rfl, (by omega)⟩
set_option maxRecDepth 20000 in
theorem s_X2_likelyBit_63 (x : Int) (h : Hp_) (hT : TY h) (hx : 0 ≤ x ∧ x ≤ 18) : Ctr yX2_likelyBit cX2_likelyBit 2 (some .int) (rmd 0) ly ly 0 0 [vR 63, vI x] h (fun r h' => (TY h' ∧ FR [] h h') ∧ ∃ z : Int, r = some (vI z) ∧ (0 ≤ z ∧ z ≤ 1)) := by
  refine Ctr_of (by decide) (Nat.le_of_ble_eq_true rfl) ⟨Nat.le_refl _, Nat.le_refl _⟩ (fun K hK hQ _ => ?_)
  show TT K ly 0 0 0 [(0, vR 63), (1, vI x)] [] h
  have hF : FR [] h h := FR_rf _ _
  refine TT_aload_n hK rfl 0 rfl dX2_likelyBit_0 ?_
  refine gf_X2_13 hK (by decide) rfl (q := 65) rfl rfl dX2_likelyBit_1 ?_
  refine TT_iload_n hK rfl 1 rfl dX2_likelyBit_4 ?_
  refine TT_iald hK (o := 65) (n := 19) (by decide) rfl (by first | omega | (simp [up, setR] <;> omega)) (by first | omega | (simp [up, setR] <;> omega)) (v := (h 65) x) rfl dX2_likelyBit_5 ?_
  have r1 := ty_65 (i := x) (v := (h 65) x) hT rfl (by omega) (by omega)
  refine TT_iret hK hQ ?_ dX2_likelyBit_6
  exact ⟨⟨hT, hF⟩, ((h 65) x), rfl, (by omega)⟩
set_option maxRecDepth 20000 in
theorem s_X2_learn_63 (x b : Int) (h : Hp_) (hT : TY h) (hx : 0 ≤ x ∧ x ≤ 18) (hb : 0 ≤ b ∧ b ≤ 1) : Ctr yX2_learn cX2_learn 4 none (rmd 0) ly ly 0 0 [vR 63, vI x, vI b] h (fun r h' => (TY h' ∧ FR [64, 65] h h') ∧ r = none) := by
  refine Ctr_of (by decide) (Nat.le_of_ble_eq_true rfl) ⟨Nat.le_refl _, Nat.le_refl _⟩ (fun K hK hQ _ => ?_)
  show TT K ly 0 0 0 [(0, vR 63), (1, vI x), (2, vI b)] [] h
  have hF : FR [64, 65] h h := FR_rf _ _
  refine TT_aload_n hK rfl 0 rfl dX2_learn_0 ?_
  refine gf_X2_9 hK (by decide) rfl (q := 64) rfl rfl dX2_learn_1 ?_
  refine TT_iload_n hK rfl 1 rfl dX2_learn_4 ?_
  refine TT_iald hK (o := 64) (n := 19) (by decide) rfl (by first | omega | (simp [up, setR] <;> omega)) (by first | omega | (simp [up, setR] <;> omega)) (v := (h 64) x) rfl dX2_learn_5 ?_
  have r1 := ty_64 (i := x) (v := (h 64) x) hT rfl (by omega) (by omega)
  refine TT_istore_n hK rfl (lv' := [(3, vI ((h 64) x)), (0, vR 63), (1, vI x), (2, vI b)]) (by decide) rfl dX2_learn_6 ?_
  refine TT_iload_n hK rfl 3 rfl dX2_learn_7 ?_
  refine TT_aload_n hK rfl 1 rfl dX2_learn_8 ?_
  refine gf_X2_13 hK (by decide) rfl (q := 65) rfl rfl dX2_learn_9 ?_
  refine TT_iload_n hK rfl 2 rfl dX2_learn_12 ?_
  refine TT_iald hK (o := 65) (n := 19) (by decide) rfl (by first | omega | (simp [up, setR] <;> omega)) (by first | omega | (simp [up, setR] <;> omega)) (v := (h 65) x) rfl dX2_learn_13 ?_
  have r2 := ty_65 (i := x) (v := (h 65) x) hT rfl (by omega) (by omega)
  refine TT_icmp_ne hK (tgt := 29) (irm (by omega) (by omega)) (irm (by omega) (by omega)) dX2_learn_14 (by decide) (fun hb14_3 => ?_) (fun hb14_3 => ?_)
  · refine TT_aload_n hK rfl 1 rfl dX2_learn_29 ?_
    refine gf_X2_9 hK (by decide) rfl (q := 64) rfl rfl dX2_learn_30 ?_
    refine TT_iload_n hK rfl 2 rfl dX2_learn_33 ?_
    refine TT_gets hK (i := 2) (q := 1002) (by decide) rfl gs_X2_28 dX2_learn_34 ?_
    refine TT_iload_n hK rfl 0 rfl dX2_learn_37 ?_
    refine TT_tald hK (i := 2) (by decide) rfl (by first | omega | (simp [up, setR] <;> omega)) (by first | omega | (simp [up, setR] <;> omega)) rfl dX2_learn_38 ?_
    obtain ⟨c38_4, hc4⟩ : ∃ c : Int, c = (stT 2).getD ((h 64) x).toNat 0 := ⟨_, rfl⟩
    have r4 : (0 : Int) ≤ c38_4 ∧ c38_4 ≤ 46 := by rw [hc4]; exact tab_46 2 _ (by decide) (by omega) (by omega)
    rw [← hc4]
    refine TT_iast hK (o := 64) (n := 19) (by decide) rfl (by omega) (by omega) dX2_learn_39 ?_
    refine TT_hp (h' := setO h 64 (fup (h 64) x c38_4)) (up_can rfl rfl rfl) ?_
    have hT_5 : TY (setO h 64 (fup (h 64) x c38_4)) := tu_64 hT (show up h 64 x c38_4 = (setO h 64 (fup (h 64) x c38_4)) from up_can rfl rfl rfl) (by omega)
    have hF_5 : FR [64, 65] h (setO h 64 (fup (h 64) x c38_4)) := FR_up (show up h 64 x c38_4 = (setO h 64 (fup (h 64) x c38_4)) from up_can rfl rfl rfl) hF (by decide)
    refine TT_iload_n hK rfl 0 rfl dX2_learn_40 ?_
    refine TT_if_eq hK (tgt := 56) (irm (by omega) (by omega)) dX2_learn_41 (by decide) (fun hb41_6 => ?_) (fun hb41_6 => ?_)
    · refine TT_aload_n hK rfl 1 rfl dX2_learn_56 ?_
      refine gf_X2_13 hK (by decide) rfl (q := 65) rfl rfl dX2_learn_57 ?_
      refine TT_iload_n hK rfl 2 rfl dX2_learn_60 ?_
      refine TT_iload_n hK rfl 3 rfl dX2_learn_61 ?_
      refine TT_iast hK (o := 65) (n := 19) (by decide) rfl (by omega) (by omega) dX2_learn_62 ?_
      refine TT_hp (h' := setO (setO h 64 (fup (h 64) x c38_4)) 65 (fup (h 65) x b)) (up_can (sOf_ne _ _ (by decide)) rfl rfl) ?_
      have hT_7 : TY (setO (setO h 64 (fup (h 64) x c38_4)) 65 (fup (h 65) x b)) := tu_65 hT_5 (show up (setO h 64 (fup (h 64) x c38_4)) 65 x b = (setO (setO h 64 (fup (h 64) x c38_4)) 65 (fup (h 65) x b)) from up_can (sOf_ne _ _ (by decide)) rfl rfl) (by omega)
      have hF_7 : FR [64, 65] h (setO (setO h 64 (fup (h 64) x c38_4)) 65 (fup (h 65) x b)) := FR_up (show up (setO h 64 (fup (h 64) x c38_4)) 65 x b = (setO (setO h 64 (fup (h 64) x c38_4)) 65 (fup (h 65) x b)) from up_can (sOf_ne _ _ (by decide)) rfl rfl) hF_5 (by decide)
      refine TT_vret hK hQ ?_ dX2_learn_63
      exact ⟨⟨hT_7, hF_7⟩, rfl⟩
    · refine TT_iload_n hK rfl 0 rfl dX2_learn_44 ?_
      refine TT_bipush hK (by decide) dX2_learn_45 ?_
      refine TT_icmp_eq hK (tgt := 56) (irm (by omega) (by omega)) (by decide) dX2_learn_47 (by decide) (fun hb47_8 => ?_) (fun hb47_8 => ?_)
      · refine TT_aload_n hK rfl 1 rfl dX2_learn_56 ?_
        refine gf_X2_13 hK (by decide) rfl (q := 65) rfl rfl dX2_learn_57 ?_
        refine TT_iload_n hK rfl 2 rfl dX2_learn_60 ?_
        refine TT_iload_n hK rfl 3 rfl dX2_learn_61 ?_
        refine TT_iast hK (o := 65) (n := 19) (by decide) rfl (by omega) (by omega) dX2_learn_62 ?_
        refine TT_hp (h' := setO (setO h 64 (fup (h 64) x c38_4)) 65 (fup (h 65) x b)) (up_can (sOf_ne _ _ (by decide)) rfl rfl) ?_
        have hT_9 : TY (setO (setO h 64 (fup (h 64) x c38_4)) 65 (fup (h 65) x b)) := tu_65 hT_5 (show up (setO h 64 (fup (h 64) x c38_4)) 65 x b = (setO (setO h 64 (fup (h 64) x c38_4)) 65 (fup (h 65) x b)) from up_can (sOf_ne _ _ (by decide)) rfl rfl) (by omega)
        have hF_9 : FR [64, 65] h (setO (setO h 64 (fup (h 64) x c38_4)) 65 (fup (h 65) x b)) := FR_up (show up (setO h 64 (fup (h 64) x c38_4)) 65 x b = (setO (setO h 64 (fup (h 64) x c38_4)) 65 (fup (h 65) x b)) from up_can (sOf_ne _ _ (by decide)) rfl rfl) hF_5 (by decide)
        refine TT_vret hK hQ ?_ dX2_learn_63
        exact ⟨⟨hT_9, hF_9⟩, rfl⟩
      · refine TT_iload_n hK rfl 0 rfl dX2_learn_50 ?_
        refine TT_bipush hK (by decide) dX2_learn_51 ?_
        refine TT_icmp_ne hK (tgt := 63) (irm (by omega) (by omega)) (by decide) dX2_learn_53 (by decide) (fun hb53_10 => ?_) (fun hb53_10 => ?_)
        · refine TT_vret hK hQ ?_ dX2_learn_63
          exact ⟨⟨hT_5, hF_5⟩, rfl⟩
        · refine TT_aload_n hK rfl 1 rfl dX2_learn_56 ?_
          refine gf_X2_13 hK (by decide) rfl (q := 65) rfl rfl dX2_learn_57 ?_
          refine TT_iload_n hK rfl 2 rfl dX2_learn_60 ?_
          refine TT_iload_n hK rfl 3 rfl dX2_learn_61 ?_
          refine TT_iast hK (o := 65) (n := 19) (by decide) rfl (by omega) (by omega) dX2_learn_62 ?_
          refine TT_hp (h' := setO (setO h 64 (fup (h 64) x c38_4)) 65 (fup (h 65) x b)) (up_can (sOf_ne _ _ (by decide)) rfl rfl) ?_
          have hT_11 : TY (setO (setO h 64 (fup (h 64) x c38_4)) 65 (fup (h 65) x b)) := tu_65 hT_5 (show up (setO h 64 (fup (h 64) x c38_4)) 65 x b = (setO (setO h 64 (fup (h 64) x c38_4)) 65 (fup (h 65) x b)) from up_can (sOf_ne _ _ (by decide)) rfl rfl) (by omega)
          have hF_11 : FR [64, 65] h (setO (setO h 64 (fup (h 64) x c38_4)) 65 (fup (h 65) x b)) := FR_up (show up (setO h 64 (fup (h 64) x c38_4)) 65 x b = (setO (setO h 64 (fup (h 64) x c38_4)) 65 (fup (h 65) x b)) from up_can (sOf_ne _ _ (by decide)) rfl rfl) hF_5 (by decide)
          refine TT_vret hK hQ ?_ dX2_learn_63
          exact ⟨⟨hT_11, hF_11⟩, rfl⟩
  · refine TT_aload_n hK rfl 1 rfl dX2_learn_17 ?_
    refine gf_X2_9 hK (by decide) rfl (q := 64) rfl rfl dX2_learn_18 ?_
    refine TT_iload_n hK rfl 2 rfl dX2_learn_21 ?_
    refine TT_gets hK (i := 1) (q := 1001) (by decide) rfl gs_X2_25 dX2_learn_22 ?_
    refine TT_iload_n hK rfl 0 rfl dX2_learn_25 ?_
    refine TT_tald hK (i := 1) (by decide) rfl (by first | omega | (simp [up, setR] <;> omega)) (by first | omega | (simp [up, setR] <;> omega)) rfl dX2_learn_26 ?_
    obtain ⟨c26_12, hc12⟩ : ∃ c : Int, c = (stT 1).getD ((h 64) x).toNat 0 := ⟨_, rfl⟩
    have r12 : (0 : Int) ≤ c26_12 ∧ c26_12 ≤ 46 := by rw [hc12]; exact tab_46 1 _ (by decide) (by omega) (by omega)
    rw [← hc12]
    refine TT_iast hK (o := 64) (n := 19) (by decide) rfl (by omega) (by omega) dX2_learn_27 ?_
    refine TT_hp (h' := setO h 64 (fup (h 64) x c26_12)) (up_can rfl rfl rfl) ?_
    have hT_13 : TY (setO h 64 (fup (h 64) x c26_12)) := tu_64 hT (show up h 64 x c26_12 = (setO h 64 (fup (h 64) x c26_12)) from up_can rfl rfl rfl) (by omega)
    have hF_13 : FR [64, 65] h (setO h 64 (fup (h 64) x c26_12)) := FR_up (show up h 64 x c26_12 = (setO h 64 (fup (h 64) x c26_12)) from up_can rfl rfl rfl) hF (by decide)
    refine TT_vret hK hQ ?_ dX2_learn_28
    exact ⟨⟨hT_13, hF_13⟩, rfl⟩
set_option maxRecDepth 20000 in
theorem s_X7_clear_24 (h : Hp_) (hT : TY h)  : Ctr yX7_clear cX7_clear 1 none (rmd 0) ly ly 0 0 [vR 24] h (fun r h' => (TY h' ∧ FR [24] h h') ∧ r = none) := by
  refine Ctr_of (by decide) (Nat.le_of_ble_eq_true rfl) ⟨Nat.le_refl _, Nat.le_refl _⟩ (fun K hK hQ _ => ?_)
  show TT K ly 0 0 0 [(0, vR 24)] [] h
  have hF : FR [24] h h := FR_rf _ _
  refine TT_aload_n hK rfl 0 rfl dX7_clear_0 ?_
  refine TT_iconst hK dX7_clear_1 ?_
  refine pf_X7_21 hK (by decide) rfl dX7_clear_2 ?_
  refine TT_hp (h' := setO h 24 (fup (h 24) 3 0)) (up_can rfl rfl rfl) ?_
  have hT_1 : TY (setO h 24 (fup (h 24) 3 0)) := tu_24_3 hT (show up h 24 3 0 = (setO h 24 (fup (h 24) 3 0)) from up_can rfl rfl rfl) (by omega)
  have hF_1 : FR [24] h (setO h 24 (fup (h 24) 3 0)) := FR_up (show up h 24 3 0 = (setO h 24 (fup (h 24) 3 0)) from up_can rfl rfl rfl) hF (by decide)
  refine TT_aload_n hK rfl 0 rfl dX7_clear_5 ?_
  refine TT_iconst hK dX7_clear_6 ?_
  refine pf_X7_25 hK (by decide) rfl dX7_clear_7 ?_
  refine TT_hp (h' := setO h 24 (fup (fup (h 24) 3 0) 4 0)) (up_can (sOf_eq _ _ _) rfl (setO_same _ _ _ _)) ?_
  have hT_2 : TY (setO h 24 (fup (fup (h 24) 3 0) 4 0)) := tu_24_4 hT_1 (show up (setO h 24 (fup (h 24) 3 0)) 24 4 0 = (setO h 24 (fup (fup (h 24) 3 0) 4 0)) from up_can (sOf_eq _ _ _) rfl (setO_same _ _ _ _)) (by omega)
  have hF_2 : FR [24] h (setO h 24 (fup (fup (h 24) 3 0) 4 0)) := FR_up (show up (setO h 24 (fup (h 24) 3 0)) 24 4 0 = (setO h 24 (fup (fup (h 24) 3 0) 4 0)) from up_can (sOf_eq _ _ _) rfl (setO_same _ _ _ _)) hF_1 (by decide)
  refine TT_vret hK hQ ?_ dX7_clear_10
  exact ⟨⟨hT_2, hF_2⟩, rfl⟩
set_option maxRecDepth 20000 in
theorem s_X7_endPass_24 (h : Hp_) (hT : TY h)  : Ctr yX7_endPass cX7_endPass 1 none (rmd 0) ly ly 0 0 [vR 24] h (fun r h' => (TY h' ∧ FR [24, 27] h h') ∧ r = none) := by
  refine Ctr_of (by decide) (Nat.le_of_ble_eq_true rfl) ⟨Nat.le_refl _, Nat.le_refl _⟩ (fun K hK hQ _ => ?_)
  show TT K ly 0 0 0 [(0, vR 24)] [] h
  have hF : FR [24, 27] h h := FR_rf _ _
  refine TT_aload_n hK rfl 0 rfl dX7_endPass_0 ?_
  refine gf_X7_25 hK (by decide) rfl (v := (h 24) 4) rfl dX7_endPass_1 ?_
  have r1 := ty_24_4 (v := (h 24) 4) hT rfl
  refine TT_bipush hK (by decide) dX7_endPass_4 ?_
  refine TT_icmp_ge hK (tgt := 32) (irm (by omega) (by omega)) (by decide) dX7_endPass_6 (by decide) (fun hb6_2 => ?_) (fun hb6_2 => ?_)
  · refine TT_vret hK hQ ?_ dX7_endPass_32
    exact ⟨⟨hT, hF⟩, rfl⟩
  · refine TT_aload_n hK rfl 0 rfl dX7_endPass_9 ?_
    refine gf_X7_18 hK (by decide) rfl (q := 27) rfl rfl dX7_endPass_10 ?_
    refine TT_aload_n hK rfl 0 rfl dX7_endPass_13 ?_
    refine gf_X7_25 hK (by decide) rfl (v := (h 24) 4) rfl dX7_endPass_14 ?_
    refine TT_aload_n hK rfl 0 rfl dX7_endPass_17 ?_
    refine gf_X7_21 hK (by decide) rfl (v := (h 24) 3) rfl dX7_endPass_18 ?_
    have r3 := ty_24_3 (v := (h 24) 3) hT rfl
    refine TT_iast hK (o := 27) (n := 34) (by decide) rfl (by omega) (by omega) dX7_endPass_21 ?_
    refine TT_hp (h' := setO h 27 (fup (h 27) ((h 24) 4) ((h 24) 3))) (up_can rfl rfl rfl) ?_
    have hT_4 : TY (setO h 27 (fup (h 27) ((h 24) 4) ((h 24) 3))) := tu_27 hT (show up h 27 ((h 24) 4) ((h 24) 3) = (setO h 27 (fup (h 27) ((h 24) 4) ((h 24) 3))) from up_can rfl rfl rfl) (by omega)
    have hF_4 : FR [24, 27] h (setO h 27 (fup (h 27) ((h 24) 4) ((h 24) 3))) := FR_up (show up h 27 ((h 24) 4) ((h 24) 3) = (setO h 27 (fup (h 27) ((h 24) 4) ((h 24) 3))) from up_can rfl rfl rfl) hF (by decide)
    refine TT_aload_n hK rfl 0 rfl dX7_endPass_22 ?_
    refine TT_dup hK rfl dX7_endPass_23 ?_
    refine gf_X7_25 hK (by decide) rfl (v := (h 24) 4) (rd_ (sOf_ne _ _ (by decide)) rfl) dX7_endPass_24 ?_
    refine TT_iconst hK dX7_endPass_27 ?_
    refine TT_iadd hK dX7_endPass_28 ?_
    refine pf_X7_25 hK (by decide) rfl dX7_endPass_29 ?_
    refine TT_hp (h' := setO (setO h 24 (fup (h 24) 4 (((h 24) 4) + 1))) 27 (fup (h 27) ((h 24) 4) ((h 24) 3))) (up_can (sOf_ne _ _ (by decide)) rfl ((setO_comm _ _ _ (by decide)).trans (setO_cg rfl rfl))) ?_
    have hT_5 : TY (setO (setO h 24 (fup (h 24) 4 (((h 24) 4) + 1))) 27 (fup (h 27) ((h 24) 4) ((h 24) 3))) := tu_24_4 hT_4 (show up (setO h 27 (fup (h 27) ((h 24) 4) ((h 24) 3))) 24 4 (((h 24) 4) + 1) = (setO (setO h 24 (fup (h 24) 4 (((h 24) 4) + 1))) 27 (fup (h 27) ((h 24) 4) ((h 24) 3))) from up_can (sOf_ne _ _ (by decide)) rfl ((setO_comm _ _ _ (by decide)).trans (setO_cg rfl rfl))) (by omega)
    have hF_5 : FR [24, 27] h (setO (setO h 24 (fup (h 24) 4 (((h 24) 4) + 1))) 27 (fup (h 27) ((h 24) 4) ((h 24) 3))) := FR_up (show up (setO h 27 (fup (h 27) ((h 24) 4) ((h 24) 3))) 24 4 (((h 24) 4) + 1) = (setO (setO h 24 (fup (h 24) 4 (((h 24) 4) + 1))) 27 (fup (h 27) ((h 24) 4) ((h 24) 3))) from up_can (sOf_ne _ _ (by decide)) rfl ((setO_comm _ _ _ (by decide)).trans (setO_cg rfl rfl))) hF_4 (by decide)
    refine TT_vret hK hQ ?_ dX7_endPass_32
    exact ⟨⟨hT_5, hF_5⟩, rfl⟩
set_option maxRecDepth 20000 in
theorem s_X7_tellBit_24 (x b : Int) (h : Hp_) (hT : TY h) (hx : 0 ≤ x ∧ x ≤ 18) (hb : 0 ≤ b ∧ b ≤ 1) : Ctr yX7_tellBit cX7_tellBit 3 (some .int) (rmd 0) ly ly 0 0 [vR 24, vI x, vI b] h (fun r h' => (TY h' ∧ FR [24, 25, 26] h h') ∧ ∃ z : Int, r = some (vI z) ∧ (0 ≤ z ∧ z ≤ 1)) := by
  refine Ctr_of (by decide) (Nat.le_of_ble_eq_true rfl) ⟨Nat.le_refl _, Nat.le_refl _⟩ (fun K hK hQ _ => ?_)
  show TT K ly 0 0 0 [(0, vR 24), (1, vI x), (2, vI b)] [] h
  have hF : FR [24, 25, 26] h h := FR_rf _ _
  refine TT_aload_n hK rfl 0 rfl dX7_tellBit_0 ?_
  refine gf_X7_21 hK (by decide) rfl (v := (h 24) 3) rfl dX7_tellBit_1 ?_
  have r1 := ty_24_3 (v := (h 24) 3) hT rfl
  refine TT_sipush hK (by decide) dX7_tellBit_4 ?_
  refine TT_icmp_ge hK (tgt := 40) (irm (by omega) (by omega)) (by decide) dX7_tellBit_7 (by decide) (fun hb7_2 => ?_) (fun hb7_2 => ?_)
  · refine TT_iload_n hK rfl 2 rfl dX7_tellBit_40 ?_
    refine TT_iret hK hQ ?_ dX7_tellBit_41
    exact ⟨⟨hT, hF⟩, b, rfl, (by omega)⟩
  · refine TT_aload_n hK rfl 0 rfl dX7_tellBit_10 ?_
    refine gf_X7_9 hK (by decide) rfl (q := 25) rfl rfl dX7_tellBit_11 ?_
    refine TT_aload_n hK rfl 0 rfl dX7_tellBit_14 ?_
    refine gf_X7_21 hK (by decide) rfl (v := (h 24) 3) rfl dX7_tellBit_15 ?_
    refine TT_iload_n hK rfl 1 rfl dX7_tellBit_18 ?_
    refine TT_iast hK (o := 25) (n := 1024) (by decide) rfl (by omega) (by omega) dX7_tellBit_19 ?_
    refine TT_hp (h' := setO h 25 (fup (h 25) ((h 24) 3) x)) (up_can rfl rfl rfl) ?_
    have hT_3 : TY (setO h 25 (fup (h 25) ((h 24) 3) x)) := tu_25 hT (show up h 25 ((h 24) 3) x = (setO h 25 (fup (h 25) ((h 24) 3) x)) from up_can rfl rfl rfl) (by omega)
    have hF_3 : FR [24, 25, 26] h (setO h 25 (fup (h 25) ((h 24) 3) x)) := FR_up (show up h 25 ((h 24) 3) x = (setO h 25 (fup (h 25) ((h 24) 3) x)) from up_can rfl rfl rfl) hF (by decide)
    refine TT_aload_n hK rfl 0 rfl dX7_tellBit_20 ?_
    refine gf_X7_15 hK (by decide) rfl (q := 26) rfl rfl dX7_tellBit_21 ?_
    refine TT_aload_n hK rfl 0 rfl dX7_tellBit_24 ?_
    refine gf_X7_21 hK (by decide) rfl (v := (h 24) 3) (rd_ (sOf_ne _ _ (by decide)) rfl) dX7_tellBit_25 ?_
    refine TT_iload_n hK rfl 2 rfl dX7_tellBit_28 ?_
    refine TT_iast hK (o := 26) (n := 1024) (by decide) rfl (by omega) (by omega) dX7_tellBit_29 ?_
    refine TT_hp (h' := setO (setO h 25 (fup (h 25) ((h 24) 3) x)) 26 (fup (h 26) ((h 24) 3) b)) (up_can (sOf_ne _ _ (by decide)) rfl rfl) ?_
    have hT_4 : TY (setO (setO h 25 (fup (h 25) ((h 24) 3) x)) 26 (fup (h 26) ((h 24) 3) b)) := tu_26 hT_3 (show up (setO h 25 (fup (h 25) ((h 24) 3) x)) 26 ((h 24) 3) b = (setO (setO h 25 (fup (h 25) ((h 24) 3) x)) 26 (fup (h 26) ((h 24) 3) b)) from up_can (sOf_ne _ _ (by decide)) rfl rfl) (by omega)
    have hF_4 : FR [24, 25, 26] h (setO (setO h 25 (fup (h 25) ((h 24) 3) x)) 26 (fup (h 26) ((h 24) 3) b)) := FR_up (show up (setO h 25 (fup (h 25) ((h 24) 3) x)) 26 ((h 24) 3) b = (setO (setO h 25 (fup (h 25) ((h 24) 3) x)) 26 (fup (h 26) ((h 24) 3) b)) from up_can (sOf_ne _ _ (by decide)) rfl rfl) hF_3 (by decide)
    refine TT_aload_n hK rfl 0 rfl dX7_tellBit_30 ?_
    refine TT_dup hK rfl dX7_tellBit_31 ?_
    refine gf_X7_21 hK (by decide) rfl (v := (h 24) 3) (rd_ ((sOf_ne _ _ (by decide)).trans (sOf_ne _ _ (by decide))) rfl) dX7_tellBit_32 ?_
    refine TT_iconst hK dX7_tellBit_35 ?_
    refine TT_iadd hK dX7_tellBit_36 ?_
    refine pf_X7_21 hK (by decide) rfl dX7_tellBit_37 ?_
    refine TT_hp (h' := setO (setO (setO h 24 (fup (h 24) 3 (((h 24) 3) + 1))) 25 (fup (h 25) ((h 24) 3) x)) 26 (fup (h 26) ((h 24) 3) b)) (up_can ((sOf_ne _ _ (by decide)).trans (sOf_ne _ _ (by decide))) rfl ((setO_comm _ _ _ (by decide)).trans (setO_cg ((setO_comm _ _ _ (by decide)).trans (setO_cg rfl rfl)) rfl))) ?_
    have hT_5 : TY (setO (setO (setO h 24 (fup (h 24) 3 (((h 24) 3) + 1))) 25 (fup (h 25) ((h 24) 3) x)) 26 (fup (h 26) ((h 24) 3) b)) := tu_24_3 hT_4 (show up (setO (setO h 25 (fup (h 25) ((h 24) 3) x)) 26 (fup (h 26) ((h 24) 3) b)) 24 3 (((h 24) 3) + 1) = (setO (setO (setO h 24 (fup (h 24) 3 (((h 24) 3) + 1))) 25 (fup (h 25) ((h 24) 3) x)) 26 (fup (h 26) ((h 24) 3) b)) from up_can ((sOf_ne _ _ (by decide)).trans (sOf_ne _ _ (by decide))) rfl ((setO_comm _ _ _ (by decide)).trans (setO_cg ((setO_comm _ _ _ (by decide)).trans (setO_cg rfl rfl)) rfl))) (by omega)
    have hF_5 : FR [24, 25, 26] h (setO (setO (setO h 24 (fup (h 24) 3 (((h 24) 3) + 1))) 25 (fup (h 25) ((h 24) 3) x)) 26 (fup (h 26) ((h 24) 3) b)) := FR_up (show up (setO (setO h 25 (fup (h 25) ((h 24) 3) x)) 26 (fup (h 26) ((h 24) 3) b)) 24 3 (((h 24) 3) + 1) = (setO (setO (setO h 24 (fup (h 24) 3 (((h 24) 3) + 1))) 25 (fup (h 25) ((h 24) 3) x)) 26 (fup (h 26) ((h 24) 3) b)) from up_can ((sOf_ne _ _ (by decide)).trans (sOf_ne _ _ (by decide))) rfl ((setO_comm _ _ _ (by decide)).trans (setO_cg ((setO_comm _ _ _ (by decide)).trans (setO_cg rfl rfl)) rfl))) hF_4 (by decide)
    refine TT_iload_n hK rfl 2 rfl dX7_tellBit_40 ?_
    refine TT_iret hK hQ ?_ dX7_tellBit_41
    exact ⟨⟨hT_5, hF_5⟩, b, rfl, (by omega)⟩
set_option maxRecDepth 20000 in
theorem s_X8_begin_34 (h : Hp_) (hT : TY h)  : Ctr yX8_begin cX8_begin 1 none (rmd 2) ly ly 0 0 [vR 34] h (fun r h' => (TY h' ∧ FR [34, 36, 37, 38] h h') ∧ r = none ∧ (1 ≤ (h' 34 5)) ∧ (1 ≤ (h' 34 2))) := by
  refine Ctr_of (by decide) (Nat.le_of_ble_eq_true rfl) ⟨Nat.le_refl _, Nat.le_refl _⟩ (fun K hK hQ _ => ?_)
  show TT K ly 0 0 0 [(0, vR 34)] [] h
  have hF : FR [34, 36, 37, 38] h h := FR_rf _ _
  refine TT_aload_n hK rfl 0 rfl dX8_begin_0 ?_
  refine gf_X8_12 hK (by decide) rfl (q := 35) rfl rfl dX8_begin_1 ?_
  refine iv_X8_22 hK (s_X2_begin_35 h hT ) (by decide) rfl ⟨by decide, by decide⟩ (by decide) rfl rfl (Nat.le_of_ble_eq_true rfl) ⟨by decide, by decide⟩ dX8_begin_4 ?_
  intro r9 g4_1 hp9
  obtain ⟨⟨hT_1, hG_1⟩, hr9⟩ := hp9
  rw [hr9]
  have hF_1 : FR [34, 36, 37, 38] h g4_1 := FR_tr hF hG_1 (by decide)
  show TT K ly 0 0 7 [(0, vR 34)] [] g4_1
  refine TT_aload_n hK rfl 0 rfl dX8_begin_7 ?_
  refine gf_X8_18 hK (by decide) rfl (q := 38) rfl rfl dX8_begin_8 ?_
  refine TT_iconst hK dX8_begin_11 ?_
  refine TT_iconst hK dX8_begin_12 ?_
  refine TT_iast hK (o := 38) (n := 1024) (by decide) rfl (by omega) (by omega) dX8_begin_13 ?_
  refine TT_hp (h' := setO g4_1 38 (fup (h 38) 0 0)) (up_can (hG_1 38 (by decide)) rfl rfl) ?_
  have hT_2 : TY (setO g4_1 38 (fup (h 38) 0 0)) := tu_38 hT_1 (show up g4_1 38 0 0 = (setO g4_1 38 (fup (h 38) 0 0)) from up_can (hG_1 38 (by decide)) rfl rfl) (by omega)
  have hF_2 : FR [34, 36, 37, 38] h (setO g4_1 38 (fup (h 38) 0 0)) := FR_up (show up g4_1 38 0 0 = (setO g4_1 38 (fup (h 38) 0 0)) from up_can (hG_1 38 (by decide)) rfl rfl) hF_1 (by decide)
  refine TT_aload_n hK rfl 0 rfl dX8_begin_14 ?_
  refine TT_iconst hK dX8_begin_15 ?_
  refine pf_X8_25 hK (by decide) rfl dX8_begin_16 ?_
  refine TT_hp (h' := setO (setO g4_1 34 (fup (h 34) 2 1)) 38 (fup (h 38) 0 0)) (up_can ((sOf_ne _ _ (by decide)).trans (hG_1 34 (by decide))) rfl ((setO_comm _ _ _ (by decide)).trans (setO_cg rfl rfl))) ?_
  have hT_3 : TY (setO (setO g4_1 34 (fup (h 34) 2 1)) 38 (fup (h 38) 0 0)) := tu_34_2 hT_2 (show up (setO g4_1 38 (fup (h 38) 0 0)) 34 2 1 = (setO (setO g4_1 34 (fup (h 34) 2 1)) 38 (fup (h 38) 0 0)) from up_can ((sOf_ne _ _ (by decide)).trans (hG_1 34 (by decide))) rfl ((setO_comm _ _ _ (by decide)).trans (setO_cg rfl rfl))) (by omega)
  have hF_3 : FR [34, 36, 37, 38] h (setO (setO g4_1 34 (fup (h 34) 2 1)) 38 (fup (h 38) 0 0)) := FR_up (show up (setO g4_1 38 (fup (h 38) 0 0)) 34 2 1 = (setO (setO g4_1 34 (fup (h 34) 2 1)) 38 (fup (h 38) 0 0)) from up_can ((sOf_ne _ _ (by decide)).trans (hG_1 34 (by decide))) rfl ((setO_comm _ _ _ (by decide)).trans (setO_cg rfl rfl))) hF_2 (by decide)
  refine TT_aload_n hK rfl 0 rfl dX8_begin_19 ?_
  refine TT_ldc hK lc_X8_29 dX8_begin_20 ?_
  refine pf_X8_30 hK (by decide) rfl dX8_begin_22 ?_
  refine TT_hp (h' := setO (setO g4_1 34 (fup (fup (h 34) 2 1) 3 32768)) 38 (fup (h 38) 0 0)) (up_can ((sOf_ne _ _ (by decide)).trans (sOf_eq _ _ _)) rfl ((setO_comm _ _ _ (by decide)).trans (setO_cg (setO_same _ _ _ _) rfl))) ?_
  have hT_4 : TY (setO (setO g4_1 34 (fup (fup (h 34) 2 1) 3 32768)) 38 (fup (h 38) 0 0)) := tu_34_3 hT_3 (show up (setO (setO g4_1 34 (fup (h 34) 2 1)) 38 (fup (h 38) 0 0)) 34 3 32768 = (setO (setO g4_1 34 (fup (fup (h 34) 2 1) 3 32768)) 38 (fup (h 38) 0 0)) from up_can ((sOf_ne _ _ (by decide)).trans (sOf_eq _ _ _)) rfl ((setO_comm _ _ _ (by decide)).trans (setO_cg (setO_same _ _ _ _) rfl))) (by omega)
  have hF_4 : FR [34, 36, 37, 38] h (setO (setO g4_1 34 (fup (fup (h 34) 2 1) 3 32768)) 38 (fup (h 38) 0 0)) := FR_up (show up (setO (setO g4_1 34 (fup (h 34) 2 1)) 38 (fup (h 38) 0 0)) 34 3 32768 = (setO (setO g4_1 34 (fup (fup (h 34) 2 1) 3 32768)) 38 (fup (h 38) 0 0)) from up_can ((sOf_ne _ _ (by decide)).trans (sOf_eq _ _ _)) rfl ((setO_comm _ _ _ (by decide)).trans (setO_cg (setO_same _ _ _ _) rfl))) hF_3 (by decide)
  refine TT_aload_n hK rfl 0 rfl dX8_begin_25 ?_
  refine TT_iconst hK dX8_begin_26 ?_
  refine pf_X8_33 hK (by decide) rfl dX8_begin_27 ?_
  refine TT_hp (h' := setO (setO g4_1 34 (fup (fup (fup (h 34) 2 1) 3 32768) 4 0)) 38 (fup (h 38) 0 0)) (up_can ((sOf_ne _ _ (by decide)).trans (sOf_eq _ _ _)) rfl ((setO_comm _ _ _ (by decide)).trans (setO_cg (setO_same _ _ _ _) rfl))) ?_
  have hT_5 : TY (setO (setO g4_1 34 (fup (fup (fup (h 34) 2 1) 3 32768) 4 0)) 38 (fup (h 38) 0 0)) := tu_34_4 hT_4 (show up (setO (setO g4_1 34 (fup (fup (h 34) 2 1) 3 32768)) 38 (fup (h 38) 0 0)) 34 4 0 = (setO (setO g4_1 34 (fup (fup (fup (h 34) 2 1) 3 32768) 4 0)) 38 (fup (h 38) 0 0)) from up_can ((sOf_ne _ _ (by decide)).trans (sOf_eq _ _ _)) rfl ((setO_comm _ _ _ (by decide)).trans (setO_cg (setO_same _ _ _ _) rfl))) (by omega)
  have hF_5 : FR [34, 36, 37, 38] h (setO (setO g4_1 34 (fup (fup (fup (h 34) 2 1) 3 32768) 4 0)) 38 (fup (h 38) 0 0)) := FR_up (show up (setO (setO g4_1 34 (fup (fup (h 34) 2 1) 3 32768)) 38 (fup (h 38) 0 0)) 34 4 0 = (setO (setO g4_1 34 (fup (fup (fup (h 34) 2 1) 3 32768) 4 0)) 38 (fup (h 38) 0 0)) from up_can ((sOf_ne _ _ (by decide)).trans (sOf_eq _ _ _)) rfl ((setO_comm _ _ _ (by decide)).trans (setO_cg (setO_same _ _ _ _) rfl))) hF_4 (by decide)
  refine TT_aload_n hK rfl 0 rfl dX8_begin_30 ?_
  refine TT_bipush hK (by decide) dX8_begin_31 ?_
  refine pf_X8_36 hK (by decide) rfl dX8_begin_33 ?_
  refine TT_hp (h' := setO (setO g4_1 34 (fup (fup (fup (fup (h 34) 2 1) 3 32768) 4 0) 5 12)) 38 (fup (h 38) 0 0)) (up_can ((sOf_ne _ _ (by decide)).trans (sOf_eq _ _ _)) rfl ((setO_comm _ _ _ (by decide)).trans (setO_cg (setO_same _ _ _ _) rfl))) ?_
  have hT_6 : TY (setO (setO g4_1 34 (fup (fup (fup (fup (h 34) 2 1) 3 32768) 4 0) 5 12)) 38 (fup (h 38) 0 0)) := tu_34_5 hT_5 (show up (setO (setO g4_1 34 (fup (fup (fup (h 34) 2 1) 3 32768) 4 0)) 38 (fup (h 38) 0 0)) 34 5 12 = (setO (setO g4_1 34 (fup (fup (fup (fup (h 34) 2 1) 3 32768) 4 0) 5 12)) 38 (fup (h 38) 0 0)) from up_can ((sOf_ne _ _ (by decide)).trans (sOf_eq _ _ _)) rfl ((setO_comm _ _ _ (by decide)).trans (setO_cg (setO_same _ _ _ _) rfl))) (by omega)
  have hF_6 : FR [34, 36, 37, 38] h (setO (setO g4_1 34 (fup (fup (fup (fup (h 34) 2 1) 3 32768) 4 0) 5 12)) 38 (fup (h 38) 0 0)) := FR_up (show up (setO (setO g4_1 34 (fup (fup (fup (h 34) 2 1) 3 32768) 4 0)) 38 (fup (h 38) 0 0)) 34 5 12 = (setO (setO g4_1 34 (fup (fup (fup (fup (h 34) 2 1) 3 32768) 4 0) 5 12)) 38 (fup (h 38) 0 0)) from up_can ((sOf_ne _ _ (by decide)).trans (sOf_eq _ _ _)) rfl ((setO_comm _ _ _ (by decide)).trans (setO_cg (setO_same _ _ _ _) rfl))) hF_5 (by decide)
  refine TT_vret hK hQ ?_ dX8_begin_36
  have e7_34_5 : (setO (setO g4_1 34 (fup (fup (fup (fup (h 34) 2 1) 3 32768) 4 0) 5 12)) 38 (fup (h 38) 0 0)) 34 5 = 12 := rd_ ((sOf_ne _ _ (by decide)).trans (sOf_eq _ _ _)) (fup_eq _ _ _)
  have e8_34_2 : (setO (setO g4_1 34 (fup (fup (fup (fup (h 34) 2 1) 3 32768) 4 0) 5 12)) 38 (fup (h 38) 0 0)) 34 2 = 1 := rd_ ((sOf_ne _ _ (by decide)).trans (sOf_eq _ _ _)) ((fup_ne _ _ (by decide)).trans ((fup_ne _ _ (by decide)).trans ((fup_ne _ _ (by decide)).trans (fup_eq _ _ _))))
  exact ⟨⟨hT_6, hF_6⟩, rfl, (by rw [e7_34_5]; omega), (by rw [e8_34_2]; omega)⟩
set_option maxRecDepth 20000 in
theorem s_X8_goOut_34 (h : Hp_) (hT : TY h) (hl : 1 ≤ (h 34 2)) : Ctr yX8_goOut cX8_goOut 3 none (rmd 0) ly ly 0 0 [vR 34] h (fun r h' => (TY h' ∧ FR [34, 38] h h') ∧ r = none ∧ (7 ≤ (h' 34 5)) ∧ (1 ≤ (h' 34 2))) := by
  refine Ctr_of (by decide) (Nat.le_of_ble_eq_true rfl) ⟨Nat.le_refl _, Nat.le_refl _⟩ (fun K hK hQ _ => ?_)
  show TT K ly 0 0 0 [(0, vR 34)] [] h
  have hF : FR [34, 38] h h := FR_rf _ _
  refine TT_aload_n hK rfl 0 rfl dX8_goOut_0 ?_
  refine gf_X8_18 hK (by decide) rfl (q := 38) rfl rfl dX8_goOut_1 ?_
  refine TT_aload_n hK rfl 0 rfl dX8_goOut_4 ?_
  refine gf_X8_25 hK (by decide) rfl (v := (h 34) 2) rfl dX8_goOut_5 ?_
  have r1 := ty_34_2 (v := (h 34) 2) hT rfl
  refine TT_iconst hK dX8_goOut_8 ?_
  refine TT_isub hK dX8_goOut_9 ?_
  refine TT_iald hK (o := 38) (n := 1024) (by decide) rfl (by first | omega | (simp [up, setR] <;> omega)) (by first | omega | (simp [up, setR] <;> omega)) (v := (h 38) (((h 34) 2) - 1)) rfl dX8_goOut_10 ?_
  have r2 := ty_38 (i := ((h 34) 2) - 1) (v := (h 38) (((h 34) 2) - 1)) hT rfl (by omega) (by omega)
  refine TT_istore_n hK rfl (lv' := [(1, vI ((h 38) (((h 34) 2) - 1))), (0, vR 34)]) (by decide) rfl dX8_goOut_11 ?_
  have J61_3 : ∀ (l : Int) (w61_3 : Hp_), TY w61_3 → FR [34, 38] h w61_3 → (0 ≤ l ∧ l ≤ 255) → (1 ≤ (w61_3 34 2)) → TT K ly 0 0 61 [(0, vR 34), (1, vI l)] [] w61_3 := by
    intro l w61_3 hT61_3 hF61_3 hl2 hl3
    refine TT_iload_n hK rfl 1 rfl dX8_goOut_61 ?_
    refine TT_sipush hK (by decide) dX8_goOut_62 ?_
    refine TT_icmp_ne hK (tgt := 73) (irm (by omega) (by omega)) (by decide) dX8_goOut_65 (by decide) (fun hb65_4 => ?_) (fun hb65_4 => ?_)
    · refine TT_ldc hK lc_X8_59 dX8_goOut_73 ?_
      refine TT_istore_n hK rfl (lv' := [(2, vI 524288), (0, vR 34), (1, vI l)]) (by decide) rfl dX8_goOut_75 ?_
      refine TT_aload_n hK rfl 1 rfl dX8_goOut_76 ?_
      refine gf_X8_25 hK (by decide) rfl (v := (w61_3 34) 2) rfl dX8_goOut_77 ?_
      have r5 := ty_34_2 (v := (w61_3 34) 2) hT61_3 rfl
      refine TT_sipush hK (by decide) dX8_goOut_80 ?_
      refine TT_icmp_ge hK (tgt := 115) (irm (by omega) (by omega)) (by decide) dX8_goOut_83 (by decide) (fun hb83_6 => ?_) (fun hb83_6 => ?_)
      · refine TT_aload_n hK rfl 1 rfl dX8_goOut_115 ?_
        refine TT_dup hK rfl dX8_goOut_116 ?_
        refine gf_X8_33 hK (by decide) rfl (v := (w61_3 34) 4) rfl dX8_goOut_117 ?_
        have r7 := ty_34_4 (v := (w61_3 34) 4) hT61_3 rfl
        refine TT_iload_n hK rfl 0 rfl dX8_goOut_120 ?_
        refine TT_irem hK (irm (by omega) (by omega)) (by decide) (by omega) dX8_goOut_121 ?_
        refine TT_w32 (fun x122_8 hx8 => ?_)
        refine pf_X8_33 hK (by decide) rfl dX8_goOut_122 ?_
        refine TT_hp (h' := setO w61_3 34 (fup (w61_3 34) 4 x122_8)) (up_can rfl rfl rfl) ?_
        have hT_9 : TY (setO w61_3 34 (fup (w61_3 34) 4 x122_8)) := tu_34_4 hT61_3 (show up w61_3 34 4 x122_8 = (setO w61_3 34 (fup (w61_3 34) 4 x122_8)) from up_can rfl rfl rfl) (by omega)
        have hF_9 : FR [34, 38] h (setO w61_3 34 (fup (w61_3 34) 4 x122_8)) := FR_up (show up w61_3 34 4 x122_8 = (setO w61_3 34 (fup (w61_3 34) 4 x122_8)) from up_can rfl rfl rfl) hF61_3 (by decide)
        refine TT_aload_n hK rfl 1 rfl dX8_goOut_125 ?_
        refine TT_iload_n hK rfl 2 rfl dX8_goOut_126 ?_
        refine TT_sipush hK (by decide) dX8_goOut_127 ?_
        refine TT_icmp_ne hK (tgt := 138) (irm (by omega) (by omega)) (by decide) dX8_goOut_130 (by decide) (fun hb130_10 => ?_) (fun hb130_10 => ?_)
        · refine TT_bipush hK (by decide) dX8_goOut_138 ?_
          refine pf_X8_36 hK (by decide) rfl dX8_goOut_140 ?_
          refine TT_hp (h' := setO w61_3 34 (fup (fup (w61_3 34) 4 x122_8) 5 8)) (up_can (sOf_eq _ _ _) rfl (setO_same _ _ _ _)) ?_
          have hT_11 : TY (setO w61_3 34 (fup (fup (w61_3 34) 4 x122_8) 5 8)) := tu_34_5 hT_9 (show up (setO w61_3 34 (fup (w61_3 34) 4 x122_8)) 34 5 8 = (setO w61_3 34 (fup (fup (w61_3 34) 4 x122_8) 5 8)) from up_can (sOf_eq _ _ _) rfl (setO_same _ _ _ _)) (by omega)
          have hF_11 : FR [34, 38] h (setO w61_3 34 (fup (fup (w61_3 34) 4 x122_8) 5 8)) := FR_up (show up (setO w61_3 34 (fup (w61_3 34) 4 x122_8)) 34 5 8 = (setO w61_3 34 (fup (fup (w61_3 34) 4 x122_8) 5 8)) from up_can (sOf_eq _ _ _) rfl (setO_same _ _ _ _)) hF_9 (by decide)
          refine TT_vret hK hQ ?_ dX8_goOut_143
          have e12_34_5 : (setO w61_3 34 (fup (fup (w61_3 34) 4 x122_8) 5 8)) 34 5 = 8 := rd_ (sOf_eq _ _ _) (fup_eq _ _ _)
          have e13_34_2 : (setO w61_3 34 (fup (fup (w61_3 34) 4 x122_8) 5 8)) 34 2 = (w61_3 34) 2 := rd_ (sOf_eq _ _ _) ((fup_ne _ _ (by decide)).trans (fup_ne _ _ (by decide)))
          exact ⟨⟨hT_11, hF_11⟩, rfl, (by rw [e12_34_5]; omega), (by rw [e13_34_2]; omega)⟩
        · exfalso; omega
      · refine TT_aload_n hK rfl 1 rfl dX8_goOut_86 ?_
        refine gf_X8_18 hK (by decide) rfl (q := 38) rfl rfl dX8_goOut_87 ?_
        refine TT_aload_n hK rfl 1 rfl dX8_goOut_90 ?_
        refine gf_X8_25 hK (by decide) rfl (v := (w61_3 34) 2) rfl dX8_goOut_91 ?_
        refine TT_aload_n hK rfl 1 rfl dX8_goOut_94 ?_
        refine gf_X8_33 hK (by decide) rfl (v := (w61_3 34) 4) rfl dX8_goOut_95 ?_
        have r14 := ty_34_4 (v := (w61_3 34) 4) hT61_3 rfl
        refine TT_iload_n hK rfl 0 rfl dX8_goOut_98 ?_
        refine TT_idiv hK (irm (by omega) (by omega)) (by decide) (by omega) dX8_goOut_99 ?_
        refine TT_sipush hK (by decide) dX8_goOut_100 ?_
        refine TT_iand hK dX8_goOut_103 ?_
        refine TT_cgI (iand_m (Int.tdiv ((w61_3 34) 4) 524288) 8 (by decide)) ?_
        show TT K ly 0 0 104 [(2, vI 524288), (0, vR 34), (1, vI l)] (vI ((Int.tdiv ((w61_3 34) 4) 524288) % 256) :: [vI ((w61_3 34) 2), vR 38]) w61_3
        refine TT_iast hK (o := 38) (n := 1024) (by decide) rfl (by omega) (by omega) dX8_goOut_104 ?_
        refine TT_hp (h' := setO w61_3 38 (fup (w61_3 38) ((w61_3 34) 2) ((Int.tdiv ((w61_3 34) 4) 524288) % 256))) (up_can rfl rfl rfl) ?_
        have hT_15 : TY (setO w61_3 38 (fup (w61_3 38) ((w61_3 34) 2) ((Int.tdiv ((w61_3 34) 4) 524288) % 256))) := tu_38 hT61_3 (show up w61_3 38 ((w61_3 34) 2) ((Int.tdiv ((w61_3 34) 4) 524288) % 256) = (setO w61_3 38 (fup (w61_3 38) ((w61_3 34) 2) ((Int.tdiv ((w61_3 34) 4) 524288) % 256))) from up_can rfl rfl rfl) (by omega)
        have hF_15 : FR [34, 38] h (setO w61_3 38 (fup (w61_3 38) ((w61_3 34) 2) ((Int.tdiv ((w61_3 34) 4) 524288) % 256))) := FR_up (show up w61_3 38 ((w61_3 34) 2) ((Int.tdiv ((w61_3 34) 4) 524288) % 256) = (setO w61_3 38 (fup (w61_3 38) ((w61_3 34) 2) ((Int.tdiv ((w61_3 34) 4) 524288) % 256))) from up_can rfl rfl rfl) hF61_3 (by decide)
        refine TT_aload_n hK rfl 1 rfl dX8_goOut_105 ?_
        refine TT_dup hK rfl dX8_goOut_106 ?_
        refine gf_X8_25 hK (by decide) rfl (v := (w61_3 34) 2) (rd_ (sOf_ne _ _ (by decide)) rfl) dX8_goOut_107 ?_
        refine TT_iconst hK dX8_goOut_110 ?_
        refine TT_iadd hK dX8_goOut_111 ?_
        refine pf_X8_25 hK (by decide) rfl dX8_goOut_112 ?_
        refine TT_hp (h' := setO (setO w61_3 34 (fup (w61_3 34) 2 (((w61_3 34) 2) + 1))) 38 (fup (w61_3 38) ((w61_3 34) 2) ((Int.tdiv ((w61_3 34) 4) 524288) % 256))) (up_can (sOf_ne _ _ (by decide)) rfl ((setO_comm _ _ _ (by decide)).trans (setO_cg rfl rfl))) ?_
        have hT_16 : TY (setO (setO w61_3 34 (fup (w61_3 34) 2 (((w61_3 34) 2) + 1))) 38 (fup (w61_3 38) ((w61_3 34) 2) ((Int.tdiv ((w61_3 34) 4) 524288) % 256))) := tu_34_2 hT_15 (show up (setO w61_3 38 (fup (w61_3 38) ((w61_3 34) 2) ((Int.tdiv ((w61_3 34) 4) 524288) % 256))) 34 2 (((w61_3 34) 2) + 1) = (setO (setO w61_3 34 (fup (w61_3 34) 2 (((w61_3 34) 2) + 1))) 38 (fup (w61_3 38) ((w61_3 34) 2) ((Int.tdiv ((w61_3 34) 4) 524288) % 256))) from up_can (sOf_ne _ _ (by decide)) rfl ((setO_comm _ _ _ (by decide)).trans (setO_cg rfl rfl))) (by omega)
        have hF_16 : FR [34, 38] h (setO (setO w61_3 34 (fup (w61_3 34) 2 (((w61_3 34) 2) + 1))) 38 (fup (w61_3 38) ((w61_3 34) 2) ((Int.tdiv ((w61_3 34) 4) 524288) % 256))) := FR_up (show up (setO w61_3 38 (fup (w61_3 38) ((w61_3 34) 2) ((Int.tdiv ((w61_3 34) 4) 524288) % 256))) 34 2 (((w61_3 34) 2) + 1) = (setO (setO w61_3 34 (fup (w61_3 34) 2 (((w61_3 34) 2) + 1))) 38 (fup (w61_3 38) ((w61_3 34) 2) ((Int.tdiv ((w61_3 34) 4) 524288) % 256))) from up_can (sOf_ne _ _ (by decide)) rfl ((setO_comm _ _ _ (by decide)).trans (setO_cg rfl rfl))) hF_15 (by decide)
        refine TT_aload_n hK rfl 1 rfl dX8_goOut_115 ?_
        refine TT_dup hK rfl dX8_goOut_116 ?_
        refine gf_X8_33 hK (by decide) rfl (v := (w61_3 34) 4) (rd_ ((sOf_ne _ _ (by decide)).trans (sOf_eq _ _ _)) (fup_ne _ _ (by decide))) dX8_goOut_117 ?_
        refine TT_iload_n hK rfl 0 rfl dX8_goOut_120 ?_
        refine TT_irem hK (irm (by omega) (by omega)) (by decide) (by omega) dX8_goOut_121 ?_
        refine TT_w32 (fun x122_17 hx17 => ?_)
        refine pf_X8_33 hK (by decide) rfl dX8_goOut_122 ?_
        refine TT_hp (h' := setO (setO w61_3 34 (fup (fup (w61_3 34) 2 (((w61_3 34) 2) + 1)) 4 x122_17)) 38 (fup (w61_3 38) ((w61_3 34) 2) ((Int.tdiv ((w61_3 34) 4) 524288) % 256))) (up_can ((sOf_ne _ _ (by decide)).trans (sOf_eq _ _ _)) rfl ((setO_comm _ _ _ (by decide)).trans (setO_cg (setO_same _ _ _ _) rfl))) ?_
        have hT_18 : TY (setO (setO w61_3 34 (fup (fup (w61_3 34) 2 (((w61_3 34) 2) + 1)) 4 x122_17)) 38 (fup (w61_3 38) ((w61_3 34) 2) ((Int.tdiv ((w61_3 34) 4) 524288) % 256))) := tu_34_4 hT_16 (show up (setO (setO w61_3 34 (fup (w61_3 34) 2 (((w61_3 34) 2) + 1))) 38 (fup (w61_3 38) ((w61_3 34) 2) ((Int.tdiv ((w61_3 34) 4) 524288) % 256))) 34 4 x122_17 = (setO (setO w61_3 34 (fup (fup (w61_3 34) 2 (((w61_3 34) 2) + 1)) 4 x122_17)) 38 (fup (w61_3 38) ((w61_3 34) 2) ((Int.tdiv ((w61_3 34) 4) 524288) % 256))) from up_can ((sOf_ne _ _ (by decide)).trans (sOf_eq _ _ _)) rfl ((setO_comm _ _ _ (by decide)).trans (setO_cg (setO_same _ _ _ _) rfl))) (by omega)
        have hF_18 : FR [34, 38] h (setO (setO w61_3 34 (fup (fup (w61_3 34) 2 (((w61_3 34) 2) + 1)) 4 x122_17)) 38 (fup (w61_3 38) ((w61_3 34) 2) ((Int.tdiv ((w61_3 34) 4) 524288) % 256))) := FR_up (show up (setO (setO w61_3 34 (fup (w61_3 34) 2 (((w61_3 34) 2) + 1))) 38 (fup (w61_3 38) ((w61_3 34) 2) ((Int.tdiv ((w61_3 34) 4) 524288) % 256))) 34 4 x122_17 = (setO (setO w61_3 34 (fup (fup (w61_3 34) 2 (((w61_3 34) 2) + 1)) 4 x122_17)) 38 (fup (w61_3 38) ((w61_3 34) 2) ((Int.tdiv ((w61_3 34) 4) 524288) % 256))) from up_can ((sOf_ne _ _ (by decide)).trans (sOf_eq _ _ _)) rfl ((setO_comm _ _ _ (by decide)).trans (setO_cg (setO_same _ _ _ _) rfl))) hF_16 (by decide)
        refine TT_aload_n hK rfl 1 rfl dX8_goOut_125 ?_
        refine TT_iload_n hK rfl 2 rfl dX8_goOut_126 ?_
        refine TT_sipush hK (by decide) dX8_goOut_127 ?_
        refine TT_icmp_ne hK (tgt := 138) (irm (by omega) (by omega)) (by decide) dX8_goOut_130 (by decide) (fun hb130_19 => ?_) (fun hb130_19 => ?_)
        · refine TT_bipush hK (by decide) dX8_goOut_138 ?_
          refine pf_X8_36 hK (by decide) rfl dX8_goOut_140 ?_
          refine TT_hp (h' := setO (setO w61_3 34 (fup (fup (fup (w61_3 34) 2 (((w61_3 34) 2) + 1)) 4 x122_17) 5 8)) 38 (fup (w61_3 38) ((w61_3 34) 2) ((Int.tdiv ((w61_3 34) 4) 524288) % 256))) (up_can ((sOf_ne _ _ (by decide)).trans (sOf_eq _ _ _)) rfl ((setO_comm _ _ _ (by decide)).trans (setO_cg (setO_same _ _ _ _) rfl))) ?_
          have hT_20 : TY (setO (setO w61_3 34 (fup (fup (fup (w61_3 34) 2 (((w61_3 34) 2) + 1)) 4 x122_17) 5 8)) 38 (fup (w61_3 38) ((w61_3 34) 2) ((Int.tdiv ((w61_3 34) 4) 524288) % 256))) := tu_34_5 hT_18 (show up (setO (setO w61_3 34 (fup (fup (w61_3 34) 2 (((w61_3 34) 2) + 1)) 4 x122_17)) 38 (fup (w61_3 38) ((w61_3 34) 2) ((Int.tdiv ((w61_3 34) 4) 524288) % 256))) 34 5 8 = (setO (setO w61_3 34 (fup (fup (fup (w61_3 34) 2 (((w61_3 34) 2) + 1)) 4 x122_17) 5 8)) 38 (fup (w61_3 38) ((w61_3 34) 2) ((Int.tdiv ((w61_3 34) 4) 524288) % 256))) from up_can ((sOf_ne _ _ (by decide)).trans (sOf_eq _ _ _)) rfl ((setO_comm _ _ _ (by decide)).trans (setO_cg (setO_same _ _ _ _) rfl))) (by omega)
          have hF_20 : FR [34, 38] h (setO (setO w61_3 34 (fup (fup (fup (w61_3 34) 2 (((w61_3 34) 2) + 1)) 4 x122_17) 5 8)) 38 (fup (w61_3 38) ((w61_3 34) 2) ((Int.tdiv ((w61_3 34) 4) 524288) % 256))) := FR_up (show up (setO (setO w61_3 34 (fup (fup (w61_3 34) 2 (((w61_3 34) 2) + 1)) 4 x122_17)) 38 (fup (w61_3 38) ((w61_3 34) 2) ((Int.tdiv ((w61_3 34) 4) 524288) % 256))) 34 5 8 = (setO (setO w61_3 34 (fup (fup (fup (w61_3 34) 2 (((w61_3 34) 2) + 1)) 4 x122_17) 5 8)) 38 (fup (w61_3 38) ((w61_3 34) 2) ((Int.tdiv ((w61_3 34) 4) 524288) % 256))) from up_can ((sOf_ne _ _ (by decide)).trans (sOf_eq _ _ _)) rfl ((setO_comm _ _ _ (by decide)).trans (setO_cg (setO_same _ _ _ _) rfl))) hF_18 (by decide)
          refine TT_vret hK hQ ?_ dX8_goOut_143
          have e21_34_5 : (setO (setO w61_3 34 (fup (fup (fup (w61_3 34) 2 (((w61_3 34) 2) + 1)) 4 x122_17) 5 8)) 38 (fup (w61_3 38) ((w61_3 34) 2) ((Int.tdiv ((w61_3 34) 4) 524288) % 256))) 34 5 = 8 := rd_ ((sOf_ne _ _ (by decide)).trans (sOf_eq _ _ _)) (fup_eq _ _ _)
          have e22_34_2 : (setO (setO w61_3 34 (fup (fup (fup (w61_3 34) 2 (((w61_3 34) 2) + 1)) 4 x122_17) 5 8)) 38 (fup (w61_3 38) ((w61_3 34) 2) ((Int.tdiv ((w61_3 34) 4) 524288) % 256))) 34 2 = ((w61_3 34) 2) + 1 := rd_ ((sOf_ne _ _ (by decide)).trans (sOf_eq _ _ _)) ((fup_ne _ _ (by decide)).trans ((fup_ne _ _ (by decide)).trans (fup_eq _ _ _)))
          exact ⟨⟨hT_20, hF_20⟩, rfl, (by rw [e21_34_5]; omega), (by rw [e22_34_2]; omega)⟩
        · exfalso; omega
    · refine TT_ldc hK lc_X8_58 dX8_goOut_68 ?_
      refine TT_goto hK (tgt := 75) dX8_goOut_70 (by decide) ?_
      refine TT_istore_n hK rfl (lv' := [(2, vI 1048576), (0, vR 34), (1, vI l)]) (by decide) rfl dX8_goOut_75 ?_
      refine TT_aload_n hK rfl 1 rfl dX8_goOut_76 ?_
      refine gf_X8_25 hK (by decide) rfl (v := (w61_3 34) 2) rfl dX8_goOut_77 ?_
      have r23 := ty_34_2 (v := (w61_3 34) 2) hT61_3 rfl
      refine TT_sipush hK (by decide) dX8_goOut_80 ?_
      refine TT_icmp_ge hK (tgt := 115) (irm (by omega) (by omega)) (by decide) dX8_goOut_83 (by decide) (fun hb83_24 => ?_) (fun hb83_24 => ?_)
      · refine TT_aload_n hK rfl 1 rfl dX8_goOut_115 ?_
        refine TT_dup hK rfl dX8_goOut_116 ?_
        refine gf_X8_33 hK (by decide) rfl (v := (w61_3 34) 4) rfl dX8_goOut_117 ?_
        have r25 := ty_34_4 (v := (w61_3 34) 4) hT61_3 rfl
        refine TT_iload_n hK rfl 0 rfl dX8_goOut_120 ?_
        refine TT_irem hK (irm (by omega) (by omega)) (by decide) (by omega) dX8_goOut_121 ?_
        refine TT_w32 (fun x122_26 hx26 => ?_)
        refine pf_X8_33 hK (by decide) rfl dX8_goOut_122 ?_
        refine TT_hp (h' := setO w61_3 34 (fup (w61_3 34) 4 x122_26)) (up_can rfl rfl rfl) ?_
        have hT_27 : TY (setO w61_3 34 (fup (w61_3 34) 4 x122_26)) := tu_34_4 hT61_3 (show up w61_3 34 4 x122_26 = (setO w61_3 34 (fup (w61_3 34) 4 x122_26)) from up_can rfl rfl rfl) (by omega)
        have hF_27 : FR [34, 38] h (setO w61_3 34 (fup (w61_3 34) 4 x122_26)) := FR_up (show up w61_3 34 4 x122_26 = (setO w61_3 34 (fup (w61_3 34) 4 x122_26)) from up_can rfl rfl rfl) hF61_3 (by decide)
        refine TT_aload_n hK rfl 1 rfl dX8_goOut_125 ?_
        refine TT_iload_n hK rfl 2 rfl dX8_goOut_126 ?_
        refine TT_sipush hK (by decide) dX8_goOut_127 ?_
        refine TT_icmp_ne hK (tgt := 138) (irm (by omega) (by omega)) (by decide) dX8_goOut_130 (by decide) (fun hb130_28 => ?_) (fun hb130_28 => ?_)
        · exfalso; omega
        · refine TT_bipush hK (by decide) dX8_goOut_133 ?_
          refine TT_goto hK (tgt := 140) dX8_goOut_135 (by decide) ?_
          refine pf_X8_36 hK (by decide) rfl dX8_goOut_140 ?_
          refine TT_hp (h' := setO w61_3 34 (fup (fup (w61_3 34) 4 x122_26) 5 7)) (up_can (sOf_eq _ _ _) rfl (setO_same _ _ _ _)) ?_
          have hT_29 : TY (setO w61_3 34 (fup (fup (w61_3 34) 4 x122_26) 5 7)) := tu_34_5 hT_27 (show up (setO w61_3 34 (fup (w61_3 34) 4 x122_26)) 34 5 7 = (setO w61_3 34 (fup (fup (w61_3 34) 4 x122_26) 5 7)) from up_can (sOf_eq _ _ _) rfl (setO_same _ _ _ _)) (by omega)
          have hF_29 : FR [34, 38] h (setO w61_3 34 (fup (fup (w61_3 34) 4 x122_26) 5 7)) := FR_up (show up (setO w61_3 34 (fup (w61_3 34) 4 x122_26)) 34 5 7 = (setO w61_3 34 (fup (fup (w61_3 34) 4 x122_26) 5 7)) from up_can (sOf_eq _ _ _) rfl (setO_same _ _ _ _)) hF_27 (by decide)
          refine TT_vret hK hQ ?_ dX8_goOut_143
          have e30_34_5 : (setO w61_3 34 (fup (fup (w61_3 34) 4 x122_26) 5 7)) 34 5 = 7 := rd_ (sOf_eq _ _ _) (fup_eq _ _ _)
          have e31_34_2 : (setO w61_3 34 (fup (fup (w61_3 34) 4 x122_26) 5 7)) 34 2 = (w61_3 34) 2 := rd_ (sOf_eq _ _ _) ((fup_ne _ _ (by decide)).trans (fup_ne _ _ (by decide)))
          exact ⟨⟨hT_29, hF_29⟩, rfl, (by rw [e30_34_5]; omega), (by rw [e31_34_2]; omega)⟩
      · refine TT_aload_n hK rfl 1 rfl dX8_goOut_86 ?_
        refine gf_X8_18 hK (by decide) rfl (q := 38) rfl rfl dX8_goOut_87 ?_
        refine TT_aload_n hK rfl 1 rfl dX8_goOut_90 ?_
        refine gf_X8_25 hK (by decide) rfl (v := (w61_3 34) 2) rfl dX8_goOut_91 ?_
        refine TT_aload_n hK rfl 1 rfl dX8_goOut_94 ?_
        refine gf_X8_33 hK (by decide) rfl (v := (w61_3 34) 4) rfl dX8_goOut_95 ?_
        have r32 := ty_34_4 (v := (w61_3 34) 4) hT61_3 rfl
        refine TT_iload_n hK rfl 0 rfl dX8_goOut_98 ?_
        refine TT_idiv hK (irm (by omega) (by omega)) (by decide) (by omega) dX8_goOut_99 ?_
        refine TT_sipush hK (by decide) dX8_goOut_100 ?_
        refine TT_iand hK dX8_goOut_103 ?_
        refine TT_cgI (iand_m (Int.tdiv ((w61_3 34) 4) 1048576) 8 (by decide)) ?_
        show TT K ly 0 0 104 [(2, vI 1048576), (0, vR 34), (1, vI l)] (vI ((Int.tdiv ((w61_3 34) 4) 1048576) % 256) :: [vI ((w61_3 34) 2), vR 38]) w61_3
        refine TT_iast hK (o := 38) (n := 1024) (by decide) rfl (by omega) (by omega) dX8_goOut_104 ?_
        refine TT_hp (h' := setO w61_3 38 (fup (w61_3 38) ((w61_3 34) 2) ((Int.tdiv ((w61_3 34) 4) 1048576) % 256))) (up_can rfl rfl rfl) ?_
        have hT_33 : TY (setO w61_3 38 (fup (w61_3 38) ((w61_3 34) 2) ((Int.tdiv ((w61_3 34) 4) 1048576) % 256))) := tu_38 hT61_3 (show up w61_3 38 ((w61_3 34) 2) ((Int.tdiv ((w61_3 34) 4) 1048576) % 256) = (setO w61_3 38 (fup (w61_3 38) ((w61_3 34) 2) ((Int.tdiv ((w61_3 34) 4) 1048576) % 256))) from up_can rfl rfl rfl) (by omega)
        have hF_33 : FR [34, 38] h (setO w61_3 38 (fup (w61_3 38) ((w61_3 34) 2) ((Int.tdiv ((w61_3 34) 4) 1048576) % 256))) := FR_up (show up w61_3 38 ((w61_3 34) 2) ((Int.tdiv ((w61_3 34) 4) 1048576) % 256) = (setO w61_3 38 (fup (w61_3 38) ((w61_3 34) 2) ((Int.tdiv ((w61_3 34) 4) 1048576) % 256))) from up_can rfl rfl rfl) hF61_3 (by decide)
        refine TT_aload_n hK rfl 1 rfl dX8_goOut_105 ?_
        refine TT_dup hK rfl dX8_goOut_106 ?_
        refine gf_X8_25 hK (by decide) rfl (v := (w61_3 34) 2) (rd_ (sOf_ne _ _ (by decide)) rfl) dX8_goOut_107 ?_
        refine TT_iconst hK dX8_goOut_110 ?_
        refine TT_iadd hK dX8_goOut_111 ?_
        refine pf_X8_25 hK (by decide) rfl dX8_goOut_112 ?_
        refine TT_hp (h' := setO (setO w61_3 34 (fup (w61_3 34) 2 (((w61_3 34) 2) + 1))) 38 (fup (w61_3 38) ((w61_3 34) 2) ((Int.tdiv ((w61_3 34) 4) 1048576) % 256))) (up_can (sOf_ne _ _ (by decide)) rfl ((setO_comm _ _ _ (by decide)).trans (setO_cg rfl rfl))) ?_
        have hT_34 : TY (setO (setO w61_3 34 (fup (w61_3 34) 2 (((w61_3 34) 2) + 1))) 38 (fup (w61_3 38) ((w61_3 34) 2) ((Int.tdiv ((w61_3 34) 4) 1048576) % 256))) := tu_34_2 hT_33 (show up (setO w61_3 38 (fup (w61_3 38) ((w61_3 34) 2) ((Int.tdiv ((w61_3 34) 4) 1048576) % 256))) 34 2 (((w61_3 34) 2) + 1) = (setO (setO w61_3 34 (fup (w61_3 34) 2 (((w61_3 34) 2) + 1))) 38 (fup (w61_3 38) ((w61_3 34) 2) ((Int.tdiv ((w61_3 34) 4) 1048576) % 256))) from up_can (sOf_ne _ _ (by decide)) rfl ((setO_comm _ _ _ (by decide)).trans (setO_cg rfl rfl))) (by omega)
        have hF_34 : FR [34, 38] h (setO (setO w61_3 34 (fup (w61_3 34) 2 (((w61_3 34) 2) + 1))) 38 (fup (w61_3 38) ((w61_3 34) 2) ((Int.tdiv ((w61_3 34) 4) 1048576) % 256))) := FR_up (show up (setO w61_3 38 (fup (w61_3 38) ((w61_3 34) 2) ((Int.tdiv ((w61_3 34) 4) 1048576) % 256))) 34 2 (((w61_3 34) 2) + 1) = (setO (setO w61_3 34 (fup (w61_3 34) 2 (((w61_3 34) 2) + 1))) 38 (fup (w61_3 38) ((w61_3 34) 2) ((Int.tdiv ((w61_3 34) 4) 1048576) % 256))) from up_can (sOf_ne _ _ (by decide)) rfl ((setO_comm _ _ _ (by decide)).trans (setO_cg rfl rfl))) hF_33 (by decide)
        refine TT_aload_n hK rfl 1 rfl dX8_goOut_115 ?_
        refine TT_dup hK rfl dX8_goOut_116 ?_
        refine gf_X8_33 hK (by decide) rfl (v := (w61_3 34) 4) (rd_ ((sOf_ne _ _ (by decide)).trans (sOf_eq _ _ _)) (fup_ne _ _ (by decide))) dX8_goOut_117 ?_
        refine TT_iload_n hK rfl 0 rfl dX8_goOut_120 ?_
        refine TT_irem hK (irm (by omega) (by omega)) (by decide) (by omega) dX8_goOut_121 ?_
        refine TT_w32 (fun x122_35 hx35 => ?_)
        refine pf_X8_33 hK (by decide) rfl dX8_goOut_122 ?_
        refine TT_hp (h' := setO (setO w61_3 34 (fup (fup (w61_3 34) 2 (((w61_3 34) 2) + 1)) 4 x122_35)) 38 (fup (w61_3 38) ((w61_3 34) 2) ((Int.tdiv ((w61_3 34) 4) 1048576) % 256))) (up_can ((sOf_ne _ _ (by decide)).trans (sOf_eq _ _ _)) rfl ((setO_comm _ _ _ (by decide)).trans (setO_cg (setO_same _ _ _ _) rfl))) ?_
        have hT_36 : TY (setO (setO w61_3 34 (fup (fup (w61_3 34) 2 (((w61_3 34) 2) + 1)) 4 x122_35)) 38 (fup (w61_3 38) ((w61_3 34) 2) ((Int.tdiv ((w61_3 34) 4) 1048576) % 256))) := tu_34_4 hT_34 (show up (setO (setO w61_3 34 (fup (w61_3 34) 2 (((w61_3 34) 2) + 1))) 38 (fup (w61_3 38) ((w61_3 34) 2) ((Int.tdiv ((w61_3 34) 4) 1048576) % 256))) 34 4 x122_35 = (setO (setO w61_3 34 (fup (fup (w61_3 34) 2 (((w61_3 34) 2) + 1)) 4 x122_35)) 38 (fup (w61_3 38) ((w61_3 34) 2) ((Int.tdiv ((w61_3 34) 4) 1048576) % 256))) from up_can ((sOf_ne _ _ (by decide)).trans (sOf_eq _ _ _)) rfl ((setO_comm _ _ _ (by decide)).trans (setO_cg (setO_same _ _ _ _) rfl))) (by omega)
        have hF_36 : FR [34, 38] h (setO (setO w61_3 34 (fup (fup (w61_3 34) 2 (((w61_3 34) 2) + 1)) 4 x122_35)) 38 (fup (w61_3 38) ((w61_3 34) 2) ((Int.tdiv ((w61_3 34) 4) 1048576) % 256))) := FR_up (show up (setO (setO w61_3 34 (fup (w61_3 34) 2 (((w61_3 34) 2) + 1))) 38 (fup (w61_3 38) ((w61_3 34) 2) ((Int.tdiv ((w61_3 34) 4) 1048576) % 256))) 34 4 x122_35 = (setO (setO w61_3 34 (fup (fup (w61_3 34) 2 (((w61_3 34) 2) + 1)) 4 x122_35)) 38 (fup (w61_3 38) ((w61_3 34) 2) ((Int.tdiv ((w61_3 34) 4) 1048576) % 256))) from up_can ((sOf_ne _ _ (by decide)).trans (sOf_eq _ _ _)) rfl ((setO_comm _ _ _ (by decide)).trans (setO_cg (setO_same _ _ _ _) rfl))) hF_34 (by decide)
        refine TT_aload_n hK rfl 1 rfl dX8_goOut_125 ?_
        refine TT_iload_n hK rfl 2 rfl dX8_goOut_126 ?_
        refine TT_sipush hK (by decide) dX8_goOut_127 ?_
        refine TT_icmp_ne hK (tgt := 138) (irm (by omega) (by omega)) (by decide) dX8_goOut_130 (by decide) (fun hb130_37 => ?_) (fun hb130_37 => ?_)
        · exfalso; omega
        · refine TT_bipush hK (by decide) dX8_goOut_133 ?_
          refine TT_goto hK (tgt := 140) dX8_goOut_135 (by decide) ?_
          refine pf_X8_36 hK (by decide) rfl dX8_goOut_140 ?_
          refine TT_hp (h' := setO (setO w61_3 34 (fup (fup (fup (w61_3 34) 2 (((w61_3 34) 2) + 1)) 4 x122_35) 5 7)) 38 (fup (w61_3 38) ((w61_3 34) 2) ((Int.tdiv ((w61_3 34) 4) 1048576) % 256))) (up_can ((sOf_ne _ _ (by decide)).trans (sOf_eq _ _ _)) rfl ((setO_comm _ _ _ (by decide)).trans (setO_cg (setO_same _ _ _ _) rfl))) ?_
          have hT_38 : TY (setO (setO w61_3 34 (fup (fup (fup (w61_3 34) 2 (((w61_3 34) 2) + 1)) 4 x122_35) 5 7)) 38 (fup (w61_3 38) ((w61_3 34) 2) ((Int.tdiv ((w61_3 34) 4) 1048576) % 256))) := tu_34_5 hT_36 (show up (setO (setO w61_3 34 (fup (fup (w61_3 34) 2 (((w61_3 34) 2) + 1)) 4 x122_35)) 38 (fup (w61_3 38) ((w61_3 34) 2) ((Int.tdiv ((w61_3 34) 4) 1048576) % 256))) 34 5 7 = (setO (setO w61_3 34 (fup (fup (fup (w61_3 34) 2 (((w61_3 34) 2) + 1)) 4 x122_35) 5 7)) 38 (fup (w61_3 38) ((w61_3 34) 2) ((Int.tdiv ((w61_3 34) 4) 1048576) % 256))) from up_can ((sOf_ne _ _ (by decide)).trans (sOf_eq _ _ _)) rfl ((setO_comm _ _ _ (by decide)).trans (setO_cg (setO_same _ _ _ _) rfl))) (by omega)
          have hF_38 : FR [34, 38] h (setO (setO w61_3 34 (fup (fup (fup (w61_3 34) 2 (((w61_3 34) 2) + 1)) 4 x122_35) 5 7)) 38 (fup (w61_3 38) ((w61_3 34) 2) ((Int.tdiv ((w61_3 34) 4) 1048576) % 256))) := FR_up (show up (setO (setO w61_3 34 (fup (fup (w61_3 34) 2 (((w61_3 34) 2) + 1)) 4 x122_35)) 38 (fup (w61_3 38) ((w61_3 34) 2) ((Int.tdiv ((w61_3 34) 4) 1048576) % 256))) 34 5 7 = (setO (setO w61_3 34 (fup (fup (fup (w61_3 34) 2 (((w61_3 34) 2) + 1)) 4 x122_35) 5 7)) 38 (fup (w61_3 38) ((w61_3 34) 2) ((Int.tdiv ((w61_3 34) 4) 1048576) % 256))) from up_can ((sOf_ne _ _ (by decide)).trans (sOf_eq _ _ _)) rfl ((setO_comm _ _ _ (by decide)).trans (setO_cg (setO_same _ _ _ _) rfl))) hF_36 (by decide)
          refine TT_vret hK hQ ?_ dX8_goOut_143
          have e39_34_5 : (setO (setO w61_3 34 (fup (fup (fup (w61_3 34) 2 (((w61_3 34) 2) + 1)) 4 x122_35) 5 7)) 38 (fup (w61_3 38) ((w61_3 34) 2) ((Int.tdiv ((w61_3 34) 4) 1048576) % 256))) 34 5 = 7 := rd_ ((sOf_ne _ _ (by decide)).trans (sOf_eq _ _ _)) (fup_eq _ _ _)
          have e40_34_2 : (setO (setO w61_3 34 (fup (fup (fup (w61_3 34) 2 (((w61_3 34) 2) + 1)) 4 x122_35) 5 7)) 38 (fup (w61_3 38) ((w61_3 34) 2) ((Int.tdiv ((w61_3 34) 4) 1048576) % 256))) 34 2 = ((w61_3 34) 2) + 1 := rd_ ((sOf_ne _ _ (by decide)).trans (sOf_eq _ _ _)) ((fup_ne _ _ (by decide)).trans ((fup_ne _ _ (by decide)).trans (fup_eq _ _ _)))
          exact ⟨⟨hT_38, hF_38⟩, rfl, (by rw [e39_34_5]; omega), (by rw [e40_34_2]; omega)⟩
  refine TT_iload_n hK rfl 0 rfl dX8_goOut_12 ?_
  refine TT_sipush hK (by decide) dX8_goOut_13 ?_
  refine TT_icmp_eq hK (tgt := 61) (irm (by omega) (by omega)) (by decide) dX8_goOut_16 (by decide) (fun hb16_41 => ?_) (fun hb16_41 => ?_)
  · refine TT_sub [1, 0] rfl ?_
    have e42_34_2 : h 34 2 = (h 34) 2 := rfl
    exact J61_3 ((h 38) (((h 34) 2) - 1)) h hT hF (by first | omega | (simp [up, setR] <;> omega)) (by rw [e42_34_2]; first | omega | (simp [up, setR] <;> omega))
  · refine TT_aload_n hK rfl 1 rfl dX8_goOut_19 ?_
    refine gf_X8_33 hK (by decide) rfl (v := (h 34) 4) rfl dX8_goOut_20 ?_
    have r43 := ty_34_4 (v := (h 34) 4) hT rfl
    refine TT_ldc hK lc_X8_56 dX8_goOut_23 ?_
    refine TT_icmp_lt hK (tgt := 61) (irm (by omega) (by omega)) (by decide) dX8_goOut_25 (by decide) (fun hb25_44 => ?_) (fun hb25_44 => ?_)
    · refine TT_sub [1, 0] rfl ?_
      have e45_34_2 : h 34 2 = (h 34) 2 := rfl
      exact J61_3 ((h 38) (((h 34) 2) - 1)) h hT hF (by first | omega | (simp [up, setR] <;> omega)) (by rw [e45_34_2]; first | omega | (simp [up, setR] <;> omega))
    · refine TT_iinc hK (v := ((h 38) (((h 34) 2) - 1)) + 1) (lv' := [(1, vI (((h 38) (((h 34) 2) - 1)) + 1)), (0, vR 34)]) 0 rfl rfl (by decide) rfl dX8_goOut_28 ?_
      refine TT_aload_n hK rfl 1 rfl dX8_goOut_31 ?_
      refine gf_X8_18 hK (by decide) rfl (q := 38) rfl rfl dX8_goOut_32 ?_
      refine TT_aload_n hK rfl 1 rfl dX8_goOut_35 ?_
      refine gf_X8_25 hK (by decide) rfl (v := (h 34) 2) rfl dX8_goOut_36 ?_
      refine TT_iconst hK dX8_goOut_39 ?_
      refine TT_isub hK dX8_goOut_40 ?_
      refine TT_iload_n hK rfl 0 rfl dX8_goOut_41 ?_
      refine TT_iast hK (o := 38) (n := 1024) (by decide) rfl (by omega) (by omega) dX8_goOut_42 ?_
      refine TT_hp (h' := setO h 38 (fup (h 38) (((h 34) 2) - 1) (((h 38) (((h 34) 2) - 1)) + 1))) (up_can rfl rfl rfl) ?_
      have hT_46 : TY (setO h 38 (fup (h 38) (((h 34) 2) - 1) (((h 38) (((h 34) 2) - 1)) + 1))) := tu_38 hT (show up h 38 (((h 34) 2) - 1) (((h 38) (((h 34) 2) - 1)) + 1) = (setO h 38 (fup (h 38) (((h 34) 2) - 1) (((h 38) (((h 34) 2) - 1)) + 1))) from up_can rfl rfl rfl) (by omega)
      have hF_46 : FR [34, 38] h (setO h 38 (fup (h 38) (((h 34) 2) - 1) (((h 38) (((h 34) 2) - 1)) + 1))) := FR_up (show up h 38 (((h 34) 2) - 1) (((h 38) (((h 34) 2) - 1)) + 1) = (setO h 38 (fup (h 38) (((h 34) 2) - 1) (((h 38) (((h 34) 2) - 1)) + 1))) from up_can rfl rfl rfl) hF (by decide)
      refine TT_iload_n hK rfl 0 rfl dX8_goOut_43 ?_
      refine TT_sipush hK (by decide) dX8_goOut_44 ?_
      refine TT_icmp_ne hK (tgt := 61) (irm (by omega) (by omega)) (by decide) dX8_goOut_47 (by decide) (fun hb47_47 => ?_) (fun hb47_47 => ?_)
      · refine TT_sub [1, 0] rfl ?_
        have e48_34_2 : (setO h 38 (fup (h 38) (((h 34) 2) - 1) (((h 38) (((h 34) 2) - 1)) + 1))) 34 2 = (h 34) 2 := rd_ (sOf_ne _ _ (by decide)) rfl
        exact J61_3 (((h 38) (((h 34) 2) - 1)) + 1) (setO h 38 (fup (h 38) (((h 34) 2) - 1) (((h 38) (((h 34) 2) - 1)) + 1))) hT_46 hF_46 (by first | omega | (simp [up, setR] <;> omega)) (by rw [e48_34_2]; first | omega | (simp [up, setR] <;> omega))
      · refine TT_aload_n hK rfl 1 rfl dX8_goOut_50 ?_
        refine TT_dup hK rfl dX8_goOut_51 ?_
        refine gf_X8_33 hK (by decide) rfl (v := (h 34) 4) (rd_ (sOf_ne _ _ (by decide)) rfl) dX8_goOut_52 ?_
        refine TT_ldc hK lc_X8_57 dX8_goOut_55 ?_
        refine TT_iand hK dX8_goOut_57 ?_
        refine TT_cgI (iand_m ((h 34) 4) 27 (by decide)) ?_
        show TT K ly 0 0 58 [(1, vI (((h 38) (((h 34) 2) - 1)) + 1)), (0, vR 34)] (vI (((h 34) 4) % 134217728) :: [vR 34]) (setO h 38 (fup (h 38) (((h 34) 2) - 1) (((h 38) (((h 34) 2) - 1)) + 1)))
        refine pf_X8_33 hK (by decide) rfl dX8_goOut_58 ?_
        refine TT_hp (h' := setO (setO h 34 (fup (h 34) 4 (((h 34) 4) % 134217728))) 38 (fup (h 38) (((h 34) 2) - 1) (((h 38) (((h 34) 2) - 1)) + 1))) (up_can (sOf_ne _ _ (by decide)) rfl ((setO_comm _ _ _ (by decide)).trans (setO_cg rfl rfl))) ?_
        have hT_49 : TY (setO (setO h 34 (fup (h 34) 4 (((h 34) 4) % 134217728))) 38 (fup (h 38) (((h 34) 2) - 1) (((h 38) (((h 34) 2) - 1)) + 1))) := tu_34_4 hT_46 (show up (setO h 38 (fup (h 38) (((h 34) 2) - 1) (((h 38) (((h 34) 2) - 1)) + 1))) 34 4 (((h 34) 4) % 134217728) = (setO (setO h 34 (fup (h 34) 4 (((h 34) 4) % 134217728))) 38 (fup (h 38) (((h 34) 2) - 1) (((h 38) (((h 34) 2) - 1)) + 1))) from up_can (sOf_ne _ _ (by decide)) rfl ((setO_comm _ _ _ (by decide)).trans (setO_cg rfl rfl))) (by omega)
        have hF_49 : FR [34, 38] h (setO (setO h 34 (fup (h 34) 4 (((h 34) 4) % 134217728))) 38 (fup (h 38) (((h 34) 2) - 1) (((h 38) (((h 34) 2) - 1)) + 1))) := FR_up (show up (setO h 38 (fup (h 38) (((h 34) 2) - 1) (((h 38) (((h 34) 2) - 1)) + 1))) 34 4 (((h 34) 4) % 134217728) = (setO (setO h 34 (fup (h 34) 4 (((h 34) 4) % 134217728))) 38 (fup (h 38) (((h 34) 2) - 1) (((h 38) (((h 34) 2) - 1)) + 1))) from up_can (sOf_ne _ _ (by decide)) rfl ((setO_comm _ _ _ (by decide)).trans (setO_cg rfl rfl))) hF_46 (by decide)
        refine TT_sub [1, 0] rfl ?_
        have e50_34_2 : (setO (setO h 34 (fup (h 34) 4 (((h 34) 4) % 134217728))) 38 (fup (h 38) (((h 34) 2) - 1) (((h 38) (((h 34) 2) - 1)) + 1))) 34 2 = (h 34) 2 := rd_ ((sOf_ne _ _ (by decide)).trans (sOf_eq _ _ _)) (fup_ne _ _ (by decide))
        exact J61_3 (((h 38) (((h 34) 2) - 1)) + 1) (setO (setO h 34 (fup (h 34) 4 (((h 34) 4) % 134217728))) 38 (fup (h 38) (((h 34) 2) - 1) (((h 38) (((h 34) 2) - 1)) + 1))) hT_49 hF_49 (by first | omega | (simp [up, setR] <;> omega)) (by rw [e50_34_2]; first | omega | (simp [up, setR] <;> omega))
set_option maxRecDepth 20000 in
theorem s_X8_mend_34 (h : Hp_) (hT : TY h) (ht : 1 ≤ (h 34 5)) (hl : 1 ≤ (h 34 2)) : Ctr yX8_mend cX8_mend 2 none (rmd 1) ly ly 0 0 [vR 34] h (fun r h' => (TY h' ∧ FR [34, 38] h h') ∧ r = none ∧ (1 ≤ (h' 34 5)) ∧ (1 ≤ (h' 34 2))) := by
  refine Ctr_of (by decide) (Nat.le_of_ble_eq_true rfl) ⟨Nat.le_refl _, Nat.le_refl _⟩ (fun K hK hQ _ => ?_)
  show TT K ly 0 0 0 [(0, vR 34)] [] h
  have hF : FR [34, 38] h h := FR_rf _ _
  refine TT_iconst hK dX8_mend_0 ?_
  refine TT_istore_n hK rfl (lv' := [(1, vI 0), (0, vR 34)]) (by decide) rfl dX8_mend_1 ?_
  have L2_1 : ∀ (k1 : Nat) (k : Int) (w2_1 : Hp_), TY w2_1 → FR [34, 38] h w2_1 → (0 ≤ k ∧ k ≤ 15) → (1 ≤ (w2_1 34 5)) → (1 ≤ (w2_1 34 2)) → ((15 : Int) - k).toNat < k1 → TT K ly 0 0 2 [(0, vR 34), (1, vI k)] [] w2_1 := by
    intro k1
    induction k1 with
    | zero => intro k w2_1 hT2_1 hF2_1 hk hv1 hv2 hk1; exact absurd hk1 (Nat.not_lt_zero _)
    | succ k1 ih1 =>
      intro k w2_1 hT2_1 hF2_1 hk hv1 hv2 hk1
      refine TT_iload_n hK rfl 1 rfl dX8_mend_2 ?_
      refine TT_bipush hK (by decide) dX8_mend_3 ?_
      refine TT_icmp_ge hK (tgt := 64) (irm (by omega) (by omega)) (by decide) dX8_mend_5 (by decide) (fun hb5_2 => ?_) (fun hb5_2 => ?_)
      · refine TT_vret hK hQ ?_ dX8_mend_64
        have e3_34_5 : w2_1 34 5 = (w2_1 34) 5 := rfl
        have e4_34_2 : w2_1 34 2 = (w2_1 34) 2 := rfl
        exact ⟨⟨hT2_1, hF2_1⟩, rfl, (by rw [e3_34_5]; omega), (by rw [e4_34_2]; omega)⟩
      · refine TT_aload_n hK rfl 0 rfl dX8_mend_8 ?_
        refine gf_X8_30 hK (by decide) rfl (v := (w2_1 34) 3) rfl dX8_mend_9 ?_
        have r5 := ty_34_3 (v := (w2_1 34) 3) hT2_1 rfl
        refine TT_ldc hK lc_X8_29 dX8_mend_12 ?_
        refine TT_icmp_ge hK (tgt := 64) (irm (by omega) (by omega)) (by decide) dX8_mend_14 (by decide) (fun hb14_6 => ?_) (fun hb14_6 => ?_)
        · refine TT_vret hK hQ ?_ dX8_mend_64
          have e7_34_5 : w2_1 34 5 = (w2_1 34) 5 := rfl
          have e8_34_2 : w2_1 34 2 = (w2_1 34) 2 := rfl
          exact ⟨⟨hT2_1, hF2_1⟩, rfl, (by rw [e7_34_5]; omega), (by rw [e8_34_2]; omega)⟩
        · refine TT_aload_n hK rfl 0 rfl dX8_mend_17 ?_
          refine TT_dup hK rfl dX8_mend_18 ?_
          refine gf_X8_30 hK (by decide) rfl (v := (w2_1 34) 3) rfl dX8_mend_19 ?_
          refine TT_iconst hK dX8_mend_22 ?_
          refine TT_ishl hK (by omega) (by omega) dX8_mend_23 ?_
          refine TT_cgI (b := ((w2_1 34) 3) * 2) rfl ?_
          refine TT_w32 (fun x24_9 hx9 => ?_)
          refine pf_X8_30 hK (by decide) rfl dX8_mend_24 ?_
          refine TT_hp (h' := setO w2_1 34 (fup (w2_1 34) 3 x24_9)) (up_can rfl rfl rfl) ?_
          have hT_10 : TY (setO w2_1 34 (fup (w2_1 34) 3 x24_9)) := tu_34_3 hT2_1 (show up w2_1 34 3 x24_9 = (setO w2_1 34 (fup (w2_1 34) 3 x24_9)) from up_can rfl rfl rfl) (by omega)
          have hF_10 : FR [34, 38] h (setO w2_1 34 (fup (w2_1 34) 3 x24_9)) := FR_up (show up w2_1 34 3 x24_9 = (setO w2_1 34 (fup (w2_1 34) 3 x24_9)) from up_can rfl rfl rfl) hF2_1 (by decide)
          refine TT_aload_n hK rfl 0 rfl dX8_mend_27 ?_
          refine TT_dup hK rfl dX8_mend_28 ?_
          refine gf_X8_33 hK (by decide) rfl (v := (w2_1 34) 4) (rd_ (sOf_eq _ _ _) (fup_ne _ _ (by decide))) dX8_mend_29 ?_
          have r11 := ty_34_4 (v := (w2_1 34) 4) hT_10 (rd_ (sOf_eq _ _ _) (fup_ne _ _ (by decide)))
          refine TT_iconst hK dX8_mend_32 ?_
          refine TT_ishl hK (by omega) (by omega) dX8_mend_33 ?_
          refine TT_cgI (b := ((w2_1 34) 4) * 2) rfl ?_
          refine TT_w32 (fun x34_12 hx12 => ?_)
          refine pf_X8_33 hK (by decide) rfl dX8_mend_34 ?_
          refine TT_hp (h' := setO w2_1 34 (fup (fup (w2_1 34) 3 x24_9) 4 x34_12)) (up_can (sOf_eq _ _ _) rfl (setO_same _ _ _ _)) ?_
          have hT_13 : TY (setO w2_1 34 (fup (fup (w2_1 34) 3 x24_9) 4 x34_12)) := tu_34_4 hT_10 (show up (setO w2_1 34 (fup (w2_1 34) 3 x24_9)) 34 4 x34_12 = (setO w2_1 34 (fup (fup (w2_1 34) 3 x24_9) 4 x34_12)) from up_can (sOf_eq _ _ _) rfl (setO_same _ _ _ _)) (by omega)
          have hF_13 : FR [34, 38] h (setO w2_1 34 (fup (fup (w2_1 34) 3 x24_9) 4 x34_12)) := FR_up (show up (setO w2_1 34 (fup (w2_1 34) 3 x24_9)) 34 4 x34_12 = (setO w2_1 34 (fup (fup (w2_1 34) 3 x24_9) 4 x34_12)) from up_can (sOf_eq _ _ _) rfl (setO_same _ _ _ _)) hF_10 (by decide)
          refine TT_aload_n hK rfl 0 rfl dX8_mend_37 ?_
          refine TT_dup hK rfl dX8_mend_38 ?_
          refine gf_X8_36 hK (by decide) rfl (v := (w2_1 34) 5) (rd_ (sOf_eq _ _ _) ((fup_ne _ _ (by decide)).trans (fup_ne _ _ (by decide)))) dX8_mend_39 ?_
          have r14 := ty_34_5 (v := (w2_1 34) 5) hT_13 (rd_ (sOf_eq _ _ _) ((fup_ne _ _ (by decide)).trans (fup_ne _ _ (by decide))))
          refine TT_iconst hK dX8_mend_42 ?_
          refine TT_isub hK dX8_mend_43 ?_
          refine pf_X8_36 hK (by decide) rfl dX8_mend_44 ?_
          refine TT_hp (h' := setO w2_1 34 (fup (fup (fup (w2_1 34) 3 x24_9) 4 x34_12) 5 (((w2_1 34) 5) - 1))) (up_can (sOf_eq _ _ _) rfl (setO_same _ _ _ _)) ?_
          have hT_15 : TY (setO w2_1 34 (fup (fup (fup (w2_1 34) 3 x24_9) 4 x34_12) 5 (((w2_1 34) 5) - 1))) := tu_34_5 hT_13 (show up (setO w2_1 34 (fup (fup (w2_1 34) 3 x24_9) 4 x34_12)) 34 5 (((w2_1 34) 5) - 1) = (setO w2_1 34 (fup (fup (fup (w2_1 34) 3 x24_9) 4 x34_12) 5 (((w2_1 34) 5) - 1))) from up_can (sOf_eq _ _ _) rfl (setO_same _ _ _ _)) (by omega)
          have hF_15 : FR [34, 38] h (setO w2_1 34 (fup (fup (fup (w2_1 34) 3 x24_9) 4 x34_12) 5 (((w2_1 34) 5) - 1))) := FR_up (show up (setO w2_1 34 (fup (fup (w2_1 34) 3 x24_9) 4 x34_12)) 34 5 (((w2_1 34) 5) - 1) = (setO w2_1 34 (fup (fup (fup (w2_1 34) 3 x24_9) 4 x34_12) 5 (((w2_1 34) 5) - 1))) from up_can (sOf_eq _ _ _) rfl (setO_same _ _ _ _)) hF_13 (by decide)
          refine TT_aload_n hK rfl 0 rfl dX8_mend_47 ?_
          refine gf_X8_36 hK (by decide) rfl (v := ((w2_1 34) 5) - 1) (rd_ (sOf_eq _ _ _) (fup_eq _ _ _)) dX8_mend_48 ?_
          have r16 := ty_34_5 (v := ((w2_1 34) 5) - 1) hT_15 (rd_ (sOf_eq _ _ _) (fup_eq _ _ _))
          refine TT_if_ne hK (tgt := 58) (irm (by omega) (by omega)) dX8_mend_51 (by decide) (fun hb51_17 => ?_) (fun hb51_17 => ?_)
          · refine TT_iinc hK (v := k + 1) (lv' := [(1, vI (k + 1)), (0, vR 34)]) 1 rfl rfl (by decide) rfl dX8_mend_58 ?_
            refine TT_goto hK (tgt := 2) dX8_mend_61 (by decide) ?_
            refine TT_sub [1, 0] rfl ?_
            have e18_34_5 : (setO w2_1 34 (fup (fup (fup (w2_1 34) 3 x24_9) 4 x34_12) 5 (((w2_1 34) 5) - 1))) 34 5 = ((w2_1 34) 5) - 1 := rd_ (sOf_eq _ _ _) (fup_eq _ _ _)
            have e19_34_2 : (setO w2_1 34 (fup (fup (fup (w2_1 34) 3 x24_9) 4 x34_12) 5 (((w2_1 34) 5) - 1))) 34 2 = (w2_1 34) 2 := rd_ (sOf_eq _ _ _) ((fup_ne _ _ (by decide)).trans ((fup_ne _ _ (by decide)).trans (fup_ne _ _ (by decide))))
            exact ih1 (k + 1) (setO w2_1 34 (fup (fup (fup (w2_1 34) 3 x24_9) 4 x34_12) 5 (((w2_1 34) 5) - 1))) hT_15 hF_15 (by first | omega | (simp [up, setR] <;> omega)) (by rw [e18_34_5]; first | omega | (simp [up, setR] <;> omega)) (by rw [e19_34_2]; first | omega | (simp [up, setR] <;> omega)) (by first | omega | (simp [up, setR] <;> omega))
          · refine TT_aload_n hK rfl 0 rfl dX8_mend_54 ?_
            have e20_34_2 : (setO w2_1 34 (fup (fup (fup (w2_1 34) 3 x24_9) 4 x34_12) 5 (((w2_1 34) 5) - 1))) 34 2 = (w2_1 34) 2 := rd_ (sOf_eq _ _ _) ((fup_ne _ _ (by decide)).trans ((fup_ne _ _ (by decide)).trans (fup_ne _ _ (by decide))))
            refine iv_X8_53 hK (s_X8_goOut_34 (setO w2_1 34 (fup (fup (fup (w2_1 34) 3 x24_9) 4 x34_12) 5 (((w2_1 34) 5) - 1))) hT_15 (by rw [e20_34_2]; first | omega | (simp [up, setR] <;> omega))) (by decide) rfl ⟨by decide, by decide⟩ (by decide) rfl rfl (Nat.le_of_ble_eq_true rfl) ⟨by decide, by decide⟩ dX8_mend_55 ?_
            intro r9 g55_21 hp9
            obtain ⟨⟨hT_21, hG_21⟩, hr9, p1_21, p2_21⟩ := hp9
            rw [hr9]
            have hF_21 : FR [34, 38] h g55_21 := FR_tr hF_15 hG_21 (by decide)
            show TT K ly 0 0 58 [(0, vR 34), (1, vI k)] [] g55_21
            refine TT_iinc hK (v := k + 1) (lv' := [(1, vI (k + 1)), (0, vR 34)]) 1 rfl rfl (by decide) rfl dX8_mend_58 ?_
            refine TT_goto hK (tgt := 2) dX8_mend_61 (by decide) ?_
            refine TT_sub [1, 0] rfl ?_
            have e22_34_5 : g55_21 34 5 = (g55_21 34) 5 := rfl
            have e23_34_2 : g55_21 34 2 = (g55_21 34) 2 := rfl
            exact ih1 (k + 1) g55_21 hT_21 hF_21 (by first | omega | (simp [up, setR] <;> omega)) (by rw [e22_34_5]; first | omega | (simp [up, setR] <;> omega)) (by rw [e23_34_2]; first | omega | (simp [up, setR] <;> omega)) (by first | omega | (simp [up, setR] <;> omega))
  refine TT_sub [1, 0] rfl ?_
  have e24_34_5 : h 34 5 = (h 34) 5 := rfl
  have e25_34_2 : h 34 2 = (h 34) 2 := rfl
  exact L2_1 ((((15 : Int) - 0).toNat) + 1) 0 h hT hF (by first | omega | (simp [up, setR] <;> omega)) (by rw [e24_34_5]; first | omega | (simp [up, setR] <;> omega)) (by rw [e25_34_2]; first | omega | (simp [up, setR] <;> omega)) (Nat.lt_succ_self _)
set_option maxRecDepth 20000 in
theorem s_X8_tell_34 (x b : Int) (h : Hp_) (hT : TY h) (hx : 0 ≤ x ∧ x ≤ 18) (hb : 0 ≤ b ∧ b ≤ 1) (ht : 1 ≤ (h 34 5)) (hl : 1 ≤ (h 34 2)) : Ctr yX8_tell cX8_tell 5 none (rmd 2) ly ly 0 0 [vR 34, vI x, vI b] h (fun r h' => (TY h' ∧ FR [34, 36, 37, 38] h h') ∧ r = none ∧ (1 ≤ (h' 34 5)) ∧ (1 ≤ (h' 34 2))) := by
  refine Ctr_of (by decide) (Nat.le_of_ble_eq_true rfl) ⟨Nat.le_refl _, Nat.le_refl _⟩ (fun K hK hQ _ => ?_)
  show TT K ly 0 0 0 [(0, vR 34), (1, vI x), (2, vI b)] [] h
  have hF : FR [34, 36, 37, 38] h h := FR_rf _ _
  refine TT_aload_n hK rfl 0 rfl dX8_tell_0 ?_
  refine gf_X8_12 hK (by decide) rfl (q := 35) rfl rfl dX8_tell_1 ?_
  refine TT_iload_n hK rfl 1 rfl dX8_tell_4 ?_
  refine iv_X8_39 hK (s_X2_sizeOf_35 x h hT (by first | omega | (simp [up, setR] <;> omega))) (by decide) rfl ⟨by decide, by decide⟩ (by decide) rfl rfl (Nat.le_of_ble_eq_true rfl) ⟨by decide, by decide⟩ dX8_tell_5 ?_
  intro r9 g5_1 hp9
  obtain ⟨⟨hT_1, hG_1⟩, z5_1, hr9, hz_1⟩ := hp9
  rw [hr9]
  have hF_1 : FR [34, 36, 37, 38] h g5_1 := FR_tr hF hG_1 (by decide)
  show TT K ly 0 0 8 [(0, vR 34), (1, vI x), (2, vI b)] [vI z5_1] g5_1
  refine TT_istore_n hK rfl (lv' := [(3, vI z5_1), (0, vR 34), (1, vI x), (2, vI b)]) (by decide) rfl dX8_tell_8 ?_
  refine TT_iload_n hK rfl 3 rfl dX8_tell_9 ?_
  refine TT_aload_n hK rfl 1 rfl dX8_tell_10 ?_
  refine gf_X8_12 hK (by decide) rfl (q := 35) rfl rfl dX8_tell_11 ?_
  refine TT_iload_n hK rfl 2 rfl dX8_tell_14 ?_
  refine iv_X8_43 hK (s_X2_likelyBit_35 x g5_1 hT_1 (by first | omega | (simp [up, setR] <;> omega))) (by decide) rfl ⟨by decide, by decide⟩ (by decide) rfl rfl (Nat.le_of_ble_eq_true rfl) ⟨by decide, by decide⟩ dX8_tell_15 ?_
  intro r9 g15_2 hp9
  obtain ⟨⟨hT_2, hG_2⟩, z15_2, hr9, hz_2⟩ := hp9
  rw [hr9]
  have hF_2 : FR [34, 36, 37, 38] h g15_2 := FR_tr hF_1 hG_2 (by decide)
  show TT K ly 0 0 18 [(3, vI z5_1), (0, vR 34), (1, vI x), (2, vI b)] [vI z15_2, vI b] g15_2
  refine TT_icmp_ne hK (tgt := 25) (irm (by omega) (by omega)) (irm (by omega) (by omega)) dX8_tell_18 (by decide) (fun hb18_3 => ?_) (fun hb18_3 => ?_)
  · refine TT_iconst hK dX8_tell_25 ?_
    refine TT_istore hK (lv' := [(4, vI 0), (3, vI z5_1), (0, vR 34), (1, vI x), (2, vI b)]) (by decide) rfl dX8_tell_26 ?_
    refine TT_aload_n hK rfl 2 rfl dX8_tell_28 ?_
    refine TT_dup hK rfl dX8_tell_29 ?_
    refine gf_X8_30 hK (by decide) rfl (v := (h 34) 3) (rd_ (((hG_2 34 (by decide))).trans (hG_1 34 (by decide))) rfl) dX8_tell_30 ?_
    have r4 := ty_34_3 (v := (h 34) 3) hT_2 (rd_ (((hG_2 34 (by decide))).trans (hG_1 34 (by decide))) rfl)
    refine TT_iload_n hK rfl 1 rfl dX8_tell_33 ?_
    refine TT_isub hK dX8_tell_34 ?_
    refine TT_w32 (fun x35_5 hx5 => ?_)
    refine pf_X8_30 hK (by decide) rfl dX8_tell_35 ?_
    refine TT_hp (h' := setO g15_2 34 (fup (h 34) 3 x35_5)) (up_can (((hG_2 34 (by decide))).trans (hG_1 34 (by decide))) rfl rfl) ?_
    have hT_6 : TY (setO g15_2 34 (fup (h 34) 3 x35_5)) := tu_34_3 hT_2 (show up g15_2 34 3 x35_5 = (setO g15_2 34 (fup (h 34) 3 x35_5)) from up_can (((hG_2 34 (by decide))).trans (hG_1 34 (by decide))) rfl rfl) (by omega)
    have hF_6 : FR [34, 36, 37, 38] h (setO g15_2 34 (fup (h 34) 3 x35_5)) := FR_up (show up g15_2 34 3 x35_5 = (setO g15_2 34 (fup (h 34) 3 x35_5)) from up_can (((hG_2 34 (by decide))).trans (hG_1 34 (by decide))) rfl rfl) hF_2 (by decide)
    refine TT_iload hK 0 rfl dX8_tell_38 ?_
    refine TT_if_eq hK (tgt := 63) (by decide) dX8_tell_40 (by decide) (fun hb40_7 => ?_) (fun hb40_7 => ?_)
    · refine TT_iload hK 0 rfl dX8_tell_63 ?_
      refine TT_aload_n hK rfl 2 rfl dX8_tell_65 ?_
      refine gf_X8_30 hK (by decide) rfl (v := x35_5) (rd_ (sOf_eq _ _ _) (fup_eq _ _ _)) dX8_tell_66 ?_
      have r8 := ty_34_3 (v := x35_5) hT_6 (rd_ (sOf_eq _ _ _) (fup_eq _ _ _))
      refine TT_iload_n hK rfl 1 rfl dX8_tell_69 ?_
      refine TT_icmp_ge hK (tgt := 77) (irm (by omega) (by omega)) (irm (by omega) (by omega)) dX8_tell_70 (by decide) (fun hb70_9 => ?_) (fun hb70_9 => ?_)
      · refine TT_iconst hK dX8_tell_77 ?_
        refine TT_icmp_ne hK (tgt := 89) (by decide) (by decide) dX8_tell_78 (by decide) (fun hb78_10 => ?_) (fun hb78_10 => ?_)
        · exact absurd hb78_10 (by decide)
        · refine TT_aload_n hK rfl 2 rfl dX8_tell_81 ?_
          refine TT_iload_n hK rfl 1 rfl dX8_tell_82 ?_
          refine pf_X8_30 hK (by decide) rfl dX8_tell_83 ?_
          refine TT_hp (h' := setO g15_2 34 (fup (h 34) 3 z5_1)) (up_can (sOf_eq _ _ _) (fup_same _ _ _ _) (setO_same _ _ _ _)) ?_
          have hT_11 : TY (setO g15_2 34 (fup (h 34) 3 z5_1)) := tu_34_3 hT_6 (show up (setO g15_2 34 (fup (h 34) 3 x35_5)) 34 3 z5_1 = (setO g15_2 34 (fup (h 34) 3 z5_1)) from up_can (sOf_eq _ _ _) (fup_same _ _ _ _) (setO_same _ _ _ _)) (by omega)
          have hF_11 : FR [34, 36, 37, 38] h (setO g15_2 34 (fup (h 34) 3 z5_1)) := FR_up (show up (setO g15_2 34 (fup (h 34) 3 x35_5)) 34 3 z5_1 = (setO g15_2 34 (fup (h 34) 3 z5_1)) from up_can (sOf_eq _ _ _) (fup_same _ _ _ _) (setO_same _ _ _ _)) hF_6 (by decide)
          refine TT_goto hK (tgt := 99) dX8_tell_86 (by decide) ?_
          refine TT_aload_n hK rfl 2 rfl dX8_tell_99 ?_
          refine gf_X8_12 hK (by decide) rfl (q := 35) rfl rfl dX8_tell_100 ?_
          refine TT_iload_n hK rfl 3 rfl dX8_tell_103 ?_
          refine TT_iload_n hK rfl 4 rfl dX8_tell_104 ?_
          refine iv_X8_46 hK (s_X2_learn_35 x b (setO g15_2 34 (fup (h 34) 3 z5_1)) hT_11 (by first | omega | (simp [up, setR] <;> omega)) (by first | omega | (simp [up, setR] <;> omega))) (by decide) rfl ⟨by decide, by decide⟩ (by decide) rfl rfl (Nat.le_of_ble_eq_true rfl) ⟨by decide, by decide⟩ dX8_tell_105 ?_
          intro r9 g105_12 hp9
          obtain ⟨⟨hT_12, hG_12⟩, hr9⟩ := hp9
          rw [hr9]
          have hF_12 : FR [34, 36, 37, 38] h g105_12 := FR_tr hF_11 hG_12 (by decide)
          show TT K ly 0 0 108 [(4, vI 0), (3, vI z5_1), (0, vR 34), (1, vI x), (2, vI b)] [] g105_12
          refine TT_aload_n hK rfl 2 rfl dX8_tell_108 ?_
          have e13_34_5 : g105_12 34 5 = (h 34) 5 := rd_ (((hG_12 34 (by decide))).trans (sOf_eq _ _ _)) (fup_ne _ _ (by decide))
          have e14_34_2 : g105_12 34 2 = (h 34) 2 := rd_ (((hG_12 34 (by decide))).trans (sOf_eq _ _ _)) (fup_ne _ _ (by decide))
          refine iv_X8_50 hK (s_X8_mend_34 g105_12 hT_12 (by rw [e13_34_5]; first | omega | (simp [up, setR] <;> omega)) (by rw [e14_34_2]; first | omega | (simp [up, setR] <;> omega))) (by decide) rfl ⟨by decide, by decide⟩ (by decide) rfl rfl (Nat.le_of_ble_eq_true rfl) ⟨by decide, by decide⟩ dX8_tell_109 ?_
          intro r9 g109_15 hp9
          obtain ⟨⟨hT_15, hG_15⟩, hr9, p1_15, p2_15⟩ := hp9
          rw [hr9]
          have hF_15 : FR [34, 36, 37, 38] h g109_15 := FR_tr hF_12 hG_15 (by decide)
          show TT K ly 0 0 112 [(4, vI 0), (3, vI z5_1), (0, vR 34), (1, vI x), (2, vI b)] [] g109_15
          refine TT_vret hK hQ ?_ dX8_tell_112
          have e16_34_5 : g109_15 34 5 = (g109_15 34) 5 := rfl
          have e17_34_2 : g109_15 34 2 = (g109_15 34) 2 := rfl
          exact ⟨⟨hT_15, hF_15⟩, rfl, (by rw [e16_34_5]; omega), (by rw [e17_34_2]; omega)⟩
      · refine TT_iconst hK dX8_tell_73 ?_
        refine TT_goto hK (tgt := 78) dX8_tell_74 (by decide) ?_
        refine TT_icmp_ne hK (tgt := 89) (by decide) (by decide) dX8_tell_78 (by decide) (fun hb78_18 => ?_) (fun hb78_18 => ?_)
        · refine TT_aload_n hK rfl 2 rfl dX8_tell_89 ?_
          refine TT_dup hK rfl dX8_tell_90 ?_
          refine gf_X8_33 hK (by decide) rfl (v := (h 34) 4) (rd_ (sOf_eq _ _ _) (fup_ne _ _ (by decide))) dX8_tell_91 ?_
          have r19 := ty_34_4 (v := (h 34) 4) hT_6 (rd_ (sOf_eq _ _ _) (fup_ne _ _ (by decide)))
          refine TT_iload_n hK rfl 1 rfl dX8_tell_94 ?_
          refine TT_iadd hK dX8_tell_95 ?_
          refine TT_w32 (fun x96_20 hx20 => ?_)
          refine pf_X8_33 hK (by decide) rfl dX8_tell_96 ?_
          refine TT_hp (h' := setO g15_2 34 (fup (fup (h 34) 3 x35_5) 4 x96_20)) (up_can (sOf_eq _ _ _) rfl (setO_same _ _ _ _)) ?_
          have hT_21 : TY (setO g15_2 34 (fup (fup (h 34) 3 x35_5) 4 x96_20)) := tu_34_4 hT_6 (show up (setO g15_2 34 (fup (h 34) 3 x35_5)) 34 4 x96_20 = (setO g15_2 34 (fup (fup (h 34) 3 x35_5) 4 x96_20)) from up_can (sOf_eq _ _ _) rfl (setO_same _ _ _ _)) (by omega)
          have hF_21 : FR [34, 36, 37, 38] h (setO g15_2 34 (fup (fup (h 34) 3 x35_5) 4 x96_20)) := FR_up (show up (setO g15_2 34 (fup (h 34) 3 x35_5)) 34 4 x96_20 = (setO g15_2 34 (fup (fup (h 34) 3 x35_5) 4 x96_20)) from up_can (sOf_eq _ _ _) rfl (setO_same _ _ _ _)) hF_6 (by decide)
          refine TT_aload_n hK rfl 2 rfl dX8_tell_99 ?_
          refine gf_X8_12 hK (by decide) rfl (q := 35) rfl rfl dX8_tell_100 ?_
          refine TT_iload_n hK rfl 3 rfl dX8_tell_103 ?_
          refine TT_iload_n hK rfl 4 rfl dX8_tell_104 ?_
          refine iv_X8_46 hK (s_X2_learn_35 x b (setO g15_2 34 (fup (fup (h 34) 3 x35_5) 4 x96_20)) hT_21 (by first | omega | (simp [up, setR] <;> omega)) (by first | omega | (simp [up, setR] <;> omega))) (by decide) rfl ⟨by decide, by decide⟩ (by decide) rfl rfl (Nat.le_of_ble_eq_true rfl) ⟨by decide, by decide⟩ dX8_tell_105 ?_
          intro r9 g105_22 hp9
          obtain ⟨⟨hT_22, hG_22⟩, hr9⟩ := hp9
          rw [hr9]
          have hF_22 : FR [34, 36, 37, 38] h g105_22 := FR_tr hF_21 hG_22 (by decide)
          show TT K ly 0 0 108 [(4, vI 0), (3, vI z5_1), (0, vR 34), (1, vI x), (2, vI b)] [] g105_22
          refine TT_aload_n hK rfl 2 rfl dX8_tell_108 ?_
          have e23_34_5 : g105_22 34 5 = (h 34) 5 := rd_ (((hG_22 34 (by decide))).trans (sOf_eq _ _ _)) ((fup_ne _ _ (by decide)).trans (fup_ne _ _ (by decide)))
          have e24_34_2 : g105_22 34 2 = (h 34) 2 := rd_ (((hG_22 34 (by decide))).trans (sOf_eq _ _ _)) ((fup_ne _ _ (by decide)).trans (fup_ne _ _ (by decide)))
          refine iv_X8_50 hK (s_X8_mend_34 g105_22 hT_22 (by rw [e23_34_5]; first | omega | (simp [up, setR] <;> omega)) (by rw [e24_34_2]; first | omega | (simp [up, setR] <;> omega))) (by decide) rfl ⟨by decide, by decide⟩ (by decide) rfl rfl (Nat.le_of_ble_eq_true rfl) ⟨by decide, by decide⟩ dX8_tell_109 ?_
          intro r9 g109_25 hp9
          obtain ⟨⟨hT_25, hG_25⟩, hr9, p1_25, p2_25⟩ := hp9
          rw [hr9]
          have hF_25 : FR [34, 36, 37, 38] h g109_25 := FR_tr hF_22 hG_25 (by decide)
          show TT K ly 0 0 112 [(4, vI 0), (3, vI z5_1), (0, vR 34), (1, vI x), (2, vI b)] [] g109_25
          refine TT_vret hK hQ ?_ dX8_tell_112
          have e26_34_5 : g109_25 34 5 = (g109_25 34) 5 := rfl
          have e27_34_2 : g109_25 34 2 = (g109_25 34) 2 := rfl
          exact ⟨⟨hT_25, hF_25⟩, rfl, (by rw [e26_34_5]; omega), (by rw [e27_34_2]; omega)⟩
        · exact absurd hb78_18 (by decide)
    · exact absurd hb40_7 (by decide)
  · refine TT_iconst hK dX8_tell_21 ?_
    refine TT_goto hK (tgt := 26) dX8_tell_22 (by decide) ?_
    refine TT_istore hK (lv' := [(4, vI 1), (3, vI z5_1), (0, vR 34), (1, vI x), (2, vI b)]) (by decide) rfl dX8_tell_26 ?_
    refine TT_aload_n hK rfl 2 rfl dX8_tell_28 ?_
    refine TT_dup hK rfl dX8_tell_29 ?_
    refine gf_X8_30 hK (by decide) rfl (v := (h 34) 3) (rd_ (((hG_2 34 (by decide))).trans (hG_1 34 (by decide))) rfl) dX8_tell_30 ?_
    have r28 := ty_34_3 (v := (h 34) 3) hT_2 (rd_ (((hG_2 34 (by decide))).trans (hG_1 34 (by decide))) rfl)
    refine TT_iload_n hK rfl 1 rfl dX8_tell_33 ?_
    refine TT_isub hK dX8_tell_34 ?_
    refine TT_w32 (fun x35_29 hx29 => ?_)
    refine pf_X8_30 hK (by decide) rfl dX8_tell_35 ?_
    refine TT_hp (h' := setO g15_2 34 (fup (h 34) 3 x35_29)) (up_can (((hG_2 34 (by decide))).trans (hG_1 34 (by decide))) rfl rfl) ?_
    have hT_30 : TY (setO g15_2 34 (fup (h 34) 3 x35_29)) := tu_34_3 hT_2 (show up g15_2 34 3 x35_29 = (setO g15_2 34 (fup (h 34) 3 x35_29)) from up_can (((hG_2 34 (by decide))).trans (hG_1 34 (by decide))) rfl rfl) (by omega)
    have hF_30 : FR [34, 36, 37, 38] h (setO g15_2 34 (fup (h 34) 3 x35_29)) := FR_up (show up g15_2 34 3 x35_29 = (setO g15_2 34 (fup (h 34) 3 x35_29)) from up_can (((hG_2 34 (by decide))).trans (hG_1 34 (by decide))) rfl rfl) hF_2 (by decide)
    refine TT_iload hK 0 rfl dX8_tell_38 ?_
    refine TT_if_eq hK (tgt := 63) (by decide) dX8_tell_40 (by decide) (fun hb40_31 => ?_) (fun hb40_31 => ?_)
    · exact absurd hb40_31 (by decide)
    · refine TT_aload_n hK rfl 2 rfl dX8_tell_43 ?_
      refine gf_X8_30 hK (by decide) rfl (v := x35_29) (rd_ (sOf_eq _ _ _) (fup_eq _ _ _)) dX8_tell_44 ?_
      have r32 := ty_34_3 (v := x35_29) hT_30 (rd_ (sOf_eq _ _ _) (fup_eq _ _ _))
      refine TT_ldc hK lc_X8_29 dX8_tell_47 ?_
      refine TT_icmp_lt hK (tgt := 63) (irm (by omega) (by omega)) (by decide) dX8_tell_49 (by decide) (fun hb49_33 => ?_) (fun hb49_33 => ?_)
      · refine TT_iload hK 0 rfl dX8_tell_63 ?_
        refine TT_aload_n hK rfl 2 rfl dX8_tell_65 ?_
        refine gf_X8_30 hK (by decide) rfl (v := x35_29) (rd_ (sOf_eq _ _ _) (fup_eq _ _ _)) dX8_tell_66 ?_
        refine TT_iload_n hK rfl 1 rfl dX8_tell_69 ?_
        refine TT_icmp_ge hK (tgt := 77) (irm (by omega) (by omega)) (irm (by omega) (by omega)) dX8_tell_70 (by decide) (fun hb70_34 => ?_) (fun hb70_34 => ?_)
        · refine TT_iconst hK dX8_tell_77 ?_
          refine TT_icmp_ne hK (tgt := 89) (by decide) (by decide) dX8_tell_78 (by decide) (fun hb78_35 => ?_) (fun hb78_35 => ?_)
          · refine TT_aload_n hK rfl 2 rfl dX8_tell_89 ?_
            refine TT_dup hK rfl dX8_tell_90 ?_
            refine gf_X8_33 hK (by decide) rfl (v := (h 34) 4) (rd_ (sOf_eq _ _ _) (fup_ne _ _ (by decide))) dX8_tell_91 ?_
            have r36 := ty_34_4 (v := (h 34) 4) hT_30 (rd_ (sOf_eq _ _ _) (fup_ne _ _ (by decide)))
            refine TT_iload_n hK rfl 1 rfl dX8_tell_94 ?_
            refine TT_iadd hK dX8_tell_95 ?_
            refine TT_w32 (fun x96_37 hx37 => ?_)
            refine pf_X8_33 hK (by decide) rfl dX8_tell_96 ?_
            refine TT_hp (h' := setO g15_2 34 (fup (fup (h 34) 3 x35_29) 4 x96_37)) (up_can (sOf_eq _ _ _) rfl (setO_same _ _ _ _)) ?_
            have hT_38 : TY (setO g15_2 34 (fup (fup (h 34) 3 x35_29) 4 x96_37)) := tu_34_4 hT_30 (show up (setO g15_2 34 (fup (h 34) 3 x35_29)) 34 4 x96_37 = (setO g15_2 34 (fup (fup (h 34) 3 x35_29) 4 x96_37)) from up_can (sOf_eq _ _ _) rfl (setO_same _ _ _ _)) (by omega)
            have hF_38 : FR [34, 36, 37, 38] h (setO g15_2 34 (fup (fup (h 34) 3 x35_29) 4 x96_37)) := FR_up (show up (setO g15_2 34 (fup (h 34) 3 x35_29)) 34 4 x96_37 = (setO g15_2 34 (fup (fup (h 34) 3 x35_29) 4 x96_37)) from up_can (sOf_eq _ _ _) rfl (setO_same _ _ _ _)) hF_30 (by decide)
            refine TT_aload_n hK rfl 2 rfl dX8_tell_99 ?_
            refine gf_X8_12 hK (by decide) rfl (q := 35) rfl rfl dX8_tell_100 ?_
            refine TT_iload_n hK rfl 3 rfl dX8_tell_103 ?_
            refine TT_iload_n hK rfl 4 rfl dX8_tell_104 ?_
            refine iv_X8_46 hK (s_X2_learn_35 x b (setO g15_2 34 (fup (fup (h 34) 3 x35_29) 4 x96_37)) hT_38 (by first | omega | (simp [up, setR] <;> omega)) (by first | omega | (simp [up, setR] <;> omega))) (by decide) rfl ⟨by decide, by decide⟩ (by decide) rfl rfl (Nat.le_of_ble_eq_true rfl) ⟨by decide, by decide⟩ dX8_tell_105 ?_
            intro r9 g105_39 hp9
            obtain ⟨⟨hT_39, hG_39⟩, hr9⟩ := hp9
            rw [hr9]
            have hF_39 : FR [34, 36, 37, 38] h g105_39 := FR_tr hF_38 hG_39 (by decide)
            show TT K ly 0 0 108 [(4, vI 1), (3, vI z5_1), (0, vR 34), (1, vI x), (2, vI b)] [] g105_39
            refine TT_aload_n hK rfl 2 rfl dX8_tell_108 ?_
            have e40_34_5 : g105_39 34 5 = (h 34) 5 := rd_ (((hG_39 34 (by decide))).trans (sOf_eq _ _ _)) ((fup_ne _ _ (by decide)).trans (fup_ne _ _ (by decide)))
            have e41_34_2 : g105_39 34 2 = (h 34) 2 := rd_ (((hG_39 34 (by decide))).trans (sOf_eq _ _ _)) ((fup_ne _ _ (by decide)).trans (fup_ne _ _ (by decide)))
            refine iv_X8_50 hK (s_X8_mend_34 g105_39 hT_39 (by rw [e40_34_5]; first | omega | (simp [up, setR] <;> omega)) (by rw [e41_34_2]; first | omega | (simp [up, setR] <;> omega))) (by decide) rfl ⟨by decide, by decide⟩ (by decide) rfl rfl (Nat.le_of_ble_eq_true rfl) ⟨by decide, by decide⟩ dX8_tell_109 ?_
            intro r9 g109_42 hp9
            obtain ⟨⟨hT_42, hG_42⟩, hr9, p1_42, p2_42⟩ := hp9
            rw [hr9]
            have hF_42 : FR [34, 36, 37, 38] h g109_42 := FR_tr hF_39 hG_42 (by decide)
            show TT K ly 0 0 112 [(4, vI 1), (3, vI z5_1), (0, vR 34), (1, vI x), (2, vI b)] [] g109_42
            refine TT_vret hK hQ ?_ dX8_tell_112
            have e43_34_5 : g109_42 34 5 = (g109_42 34) 5 := rfl
            have e44_34_2 : g109_42 34 2 = (g109_42 34) 2 := rfl
            exact ⟨⟨hT_42, hF_42⟩, rfl, (by rw [e43_34_5]; omega), (by rw [e44_34_2]; omega)⟩
          · exact absurd hb78_35 (by decide)
        · refine TT_iconst hK dX8_tell_73 ?_
          refine TT_goto hK (tgt := 78) dX8_tell_74 (by decide) ?_
          refine TT_icmp_ne hK (tgt := 89) (by decide) (by decide) dX8_tell_78 (by decide) (fun hb78_45 => ?_) (fun hb78_45 => ?_)
          · exact absurd hb78_45 (by decide)
          · refine TT_aload_n hK rfl 2 rfl dX8_tell_81 ?_
            refine TT_iload_n hK rfl 1 rfl dX8_tell_82 ?_
            refine pf_X8_30 hK (by decide) rfl dX8_tell_83 ?_
            refine TT_hp (h' := setO g15_2 34 (fup (h 34) 3 z5_1)) (up_can (sOf_eq _ _ _) (fup_same _ _ _ _) (setO_same _ _ _ _)) ?_
            have hT_46 : TY (setO g15_2 34 (fup (h 34) 3 z5_1)) := tu_34_3 hT_30 (show up (setO g15_2 34 (fup (h 34) 3 x35_29)) 34 3 z5_1 = (setO g15_2 34 (fup (h 34) 3 z5_1)) from up_can (sOf_eq _ _ _) (fup_same _ _ _ _) (setO_same _ _ _ _)) (by omega)
            have hF_46 : FR [34, 36, 37, 38] h (setO g15_2 34 (fup (h 34) 3 z5_1)) := FR_up (show up (setO g15_2 34 (fup (h 34) 3 x35_29)) 34 3 z5_1 = (setO g15_2 34 (fup (h 34) 3 z5_1)) from up_can (sOf_eq _ _ _) (fup_same _ _ _ _) (setO_same _ _ _ _)) hF_30 (by decide)
            refine TT_goto hK (tgt := 99) dX8_tell_86 (by decide) ?_
            refine TT_aload_n hK rfl 2 rfl dX8_tell_99 ?_
            refine gf_X8_12 hK (by decide) rfl (q := 35) rfl rfl dX8_tell_100 ?_
            refine TT_iload_n hK rfl 3 rfl dX8_tell_103 ?_
            refine TT_iload_n hK rfl 4 rfl dX8_tell_104 ?_
            refine iv_X8_46 hK (s_X2_learn_35 x b (setO g15_2 34 (fup (h 34) 3 z5_1)) hT_46 (by first | omega | (simp [up, setR] <;> omega)) (by first | omega | (simp [up, setR] <;> omega))) (by decide) rfl ⟨by decide, by decide⟩ (by decide) rfl rfl (Nat.le_of_ble_eq_true rfl) ⟨by decide, by decide⟩ dX8_tell_105 ?_
            intro r9 g105_47 hp9
            obtain ⟨⟨hT_47, hG_47⟩, hr9⟩ := hp9
            rw [hr9]
            have hF_47 : FR [34, 36, 37, 38] h g105_47 := FR_tr hF_46 hG_47 (by decide)
            show TT K ly 0 0 108 [(4, vI 1), (3, vI z5_1), (0, vR 34), (1, vI x), (2, vI b)] [] g105_47
            refine TT_aload_n hK rfl 2 rfl dX8_tell_108 ?_
            have e48_34_5 : g105_47 34 5 = (h 34) 5 := rd_ (((hG_47 34 (by decide))).trans (sOf_eq _ _ _)) (fup_ne _ _ (by decide))
            have e49_34_2 : g105_47 34 2 = (h 34) 2 := rd_ (((hG_47 34 (by decide))).trans (sOf_eq _ _ _)) (fup_ne _ _ (by decide))
            refine iv_X8_50 hK (s_X8_mend_34 g105_47 hT_47 (by rw [e48_34_5]; first | omega | (simp [up, setR] <;> omega)) (by rw [e49_34_2]; first | omega | (simp [up, setR] <;> omega))) (by decide) rfl ⟨by decide, by decide⟩ (by decide) rfl rfl (Nat.le_of_ble_eq_true rfl) ⟨by decide, by decide⟩ dX8_tell_109 ?_
            intro r9 g109_50 hp9
            obtain ⟨⟨hT_50, hG_50⟩, hr9, p1_50, p2_50⟩ := hp9
            rw [hr9]
            have hF_50 : FR [34, 36, 37, 38] h g109_50 := FR_tr hF_47 hG_50 (by decide)
            show TT K ly 0 0 112 [(4, vI 1), (3, vI z5_1), (0, vR 34), (1, vI x), (2, vI b)] [] g109_50
            refine TT_vret hK hQ ?_ dX8_tell_112
            have e51_34_5 : g109_50 34 5 = (g109_50 34) 5 := rfl
            have e52_34_2 : g109_50 34 2 = (g109_50 34) 2 := rfl
            exact ⟨⟨hT_50, hF_50⟩, rfl, (by rw [e51_34_5]; omega), (by rw [e52_34_2]; omega)⟩
      · refine TT_aload_n hK rfl 2 rfl dX8_tell_52 ?_
        refine TT_dup hK rfl dX8_tell_53 ?_
        refine gf_X8_33 hK (by decide) rfl (v := (h 34) 4) (rd_ (sOf_eq _ _ _) (fup_ne _ _ (by decide))) dX8_tell_54 ?_
        have r53 := ty_34_4 (v := (h 34) 4) hT_30 (rd_ (sOf_eq _ _ _) (fup_ne _ _ (by decide)))
        refine TT_iload_n hK rfl 1 rfl dX8_tell_57 ?_
        refine TT_iadd hK dX8_tell_58 ?_
        refine TT_w32 (fun x59_54 hx54 => ?_)
        refine pf_X8_33 hK (by decide) rfl dX8_tell_59 ?_
        refine TT_hp (h' := setO g15_2 34 (fup (fup (h 34) 3 x35_29) 4 x59_54)) (up_can (sOf_eq _ _ _) rfl (setO_same _ _ _ _)) ?_
        have hT_55 : TY (setO g15_2 34 (fup (fup (h 34) 3 x35_29) 4 x59_54)) := tu_34_4 hT_30 (show up (setO g15_2 34 (fup (h 34) 3 x35_29)) 34 4 x59_54 = (setO g15_2 34 (fup (fup (h 34) 3 x35_29) 4 x59_54)) from up_can (sOf_eq _ _ _) rfl (setO_same _ _ _ _)) (by omega)
        have hF_55 : FR [34, 36, 37, 38] h (setO g15_2 34 (fup (fup (h 34) 3 x35_29) 4 x59_54)) := FR_up (show up (setO g15_2 34 (fup (h 34) 3 x35_29)) 34 4 x59_54 = (setO g15_2 34 (fup (fup (h 34) 3 x35_29) 4 x59_54)) from up_can (sOf_eq _ _ _) rfl (setO_same _ _ _ _)) hF_30 (by decide)
        refine TT_vret hK hQ ?_ dX8_tell_62
        have e56_34_5 : (setO g15_2 34 (fup (fup (h 34) 3 x35_29) 4 x59_54)) 34 5 = (h 34) 5 := rd_ (sOf_eq _ _ _) ((fup_ne _ _ (by decide)).trans (fup_ne _ _ (by decide)))
        have e57_34_2 : (setO g15_2 34 (fup (fup (h 34) 3 x35_29) 4 x59_54)) 34 2 = (h 34) 2 := rd_ (sOf_eq _ _ _) ((fup_ne _ _ (by decide)).trans (fup_ne _ _ (by decide)))
        exact ⟨⟨hT_55, hF_55⟩, rfl, (by rw [e56_34_5]; omega), (by rw [e57_34_2]; omega)⟩
set_option maxRecDepth 20000 in
theorem s_X8_end_34 (h : Hp_) (hT : TY h) (ht : 1 ≤ (h 34 5)) (hl : 1 ≤ (h 34 2)) : Ctr yX8_end cX8_end 2 none (rmd 1) ly ly 0 0 [vR 34] h (fun r h' => (TY h' ∧ FR [34, 38] h h') ∧ r = none ∧ (1 ≤ (h' 34 5)) ∧ (1 ≤ (h' 34 2))) := by
  refine Ctr_of (by decide) (Nat.le_of_ble_eq_true rfl) ⟨Nat.le_refl _, Nat.le_refl _⟩ (fun K hK hQ _ => ?_)
  show TT K ly 0 0 0 [(0, vR 34)] [] h
  have hF : FR [34, 38] h h := FR_rf _ _
  refine TT_aload_n hK rfl 0 rfl dX8_end_0 ?_
  refine gf_X8_33 hK (by decide) rfl (v := (h 34) 4) rfl dX8_end_1 ?_
  have r1 := ty_34_4 (v := (h 34) 4) hT rfl
  refine TT_aload_n hK rfl 0 rfl dX8_end_4 ?_
  refine gf_X8_30 hK (by decide) rfl (v := (h 34) 3) rfl dX8_end_5 ?_
  have r2 := ty_34_3 (v := (h 34) 3) hT rfl
  refine TT_iadd hK dX8_end_8 ?_
  refine TT_w32 (fun x9_3 hx3 => ?_)
  refine TT_istore_n hK rfl (lv' := [(1, vI x9_3), (0, vR 34)]) (by decide) rfl dX8_end_9 ?_
  refine TT_aload_n hK rfl 1 rfl dX8_end_10 ?_
  refine TT_dup hK rfl dX8_end_11 ?_
  refine gf_X8_33 hK (by decide) rfl (v := (h 34) 4) rfl dX8_end_12 ?_
  refine TT_ldc hK lc_X8_60 dX8_end_15 ?_
  refine TT_ior hK dX8_end_17 ?_
  refine TT_w32 (fun x18_4 hx4 => ?_)
  refine pf_X8_33 hK (by decide) rfl dX8_end_18 ?_
  refine TT_hp (h' := setO h 34 (fup (h 34) 4 x18_4)) (up_can rfl rfl rfl) ?_
  have hT_5 : TY (setO h 34 (fup (h 34) 4 x18_4)) := tu_34_4 hT (show up h 34 4 x18_4 = (setO h 34 (fup (h 34) 4 x18_4)) from up_can rfl rfl rfl) (by omega)
  have hF_5 : FR [34, 38] h (setO h 34 (fup (h 34) 4 x18_4)) := FR_up (show up h 34 4 x18_4 = (setO h 34 (fup (h 34) 4 x18_4)) from up_can rfl rfl rfl) hF (by decide)
  refine TT_aload_n hK rfl 1 rfl dX8_end_21 ?_
  refine gf_X8_33 hK (by decide) rfl (v := x18_4) (rd_ (sOf_eq _ _ _) (fup_eq _ _ _)) dX8_end_22 ?_
  have r6 := ty_34_4 (v := x18_4) hT_5 (rd_ (sOf_eq _ _ _) (fup_eq _ _ _))
  refine TT_iload_n hK rfl 0 rfl dX8_end_25 ?_
  refine TT_icmp_lt hK (tgt := 40) (irm (by omega) (by omega)) (irm (by omega) (by omega)) dX8_end_26 (by decide) (fun hb26_7 => ?_) (fun hb26_7 => ?_)
  · refine TT_aload_n hK rfl 1 rfl dX8_end_40 ?_
    refine TT_dup hK rfl dX8_end_41 ?_
    refine gf_X8_33 hK (by decide) rfl (v := x18_4) (rd_ (sOf_eq _ _ _) (fup_eq _ _ _)) dX8_end_42 ?_
    refine TT_aload_n hK rfl 1 rfl dX8_end_45 ?_
    refine gf_X8_36 hK (by decide) rfl (v := (h 34) 5) (rd_ (sOf_eq _ _ _) (fup_ne _ _ (by decide))) dX8_end_46 ?_
    have r8 := ty_34_5 (v := (h 34) 5) hT_5 (rd_ (sOf_eq _ _ _) (fup_ne _ _ (by decide)))
    refine TT_ishl hK (by omega) (by omega) dX8_end_49 ?_
    refine TT_w32 (fun x50_9 hx9 => ?_)
    refine pf_X8_33 hK (by decide) rfl dX8_end_50 ?_
    refine TT_hp (h' := setO h 34 (fup (h 34) 4 x50_9)) (up_can (sOf_eq _ _ _) (fup_same _ _ _ _) (setO_same _ _ _ _)) ?_
    have hT_10 : TY (setO h 34 (fup (h 34) 4 x50_9)) := tu_34_4 hT_5 (show up (setO h 34 (fup (h 34) 4 x18_4)) 34 4 x50_9 = (setO h 34 (fup (h 34) 4 x50_9)) from up_can (sOf_eq _ _ _) (fup_same _ _ _ _) (setO_same _ _ _ _)) (by omega)
    have hF_10 : FR [34, 38] h (setO h 34 (fup (h 34) 4 x50_9)) := FR_up (show up (setO h 34 (fup (h 34) 4 x18_4)) 34 4 x50_9 = (setO h 34 (fup (h 34) 4 x50_9)) from up_can (sOf_eq _ _ _) (fup_same _ _ _ _) (setO_same _ _ _ _)) hF_5 (by decide)
    refine TT_aload_n hK rfl 1 rfl dX8_end_53 ?_
    have e11_34_2 : (setO h 34 (fup (h 34) 4 x50_9)) 34 2 = (h 34) 2 := rd_ (sOf_eq _ _ _) (fup_ne _ _ (by decide))
    refine iv_X8_53 hK (s_X8_goOut_34 (setO h 34 (fup (h 34) 4 x50_9)) hT_10 (by rw [e11_34_2]; first | omega | (simp [up, setR] <;> omega))) (by decide) rfl ⟨by decide, by decide⟩ (by decide) rfl rfl (Nat.le_of_ble_eq_true rfl) ⟨by decide, by decide⟩ dX8_end_54 ?_
    intro r9 g54_12 hp9
    obtain ⟨⟨hT_12, hG_12⟩, hr9, p1_12, p2_12⟩ := hp9
    rw [hr9]
    have hF_12 : FR [34, 38] h g54_12 := FR_tr hF_10 hG_12 (by decide)
    show TT K ly 0 0 57 [(1, vI x9_3), (0, vR 34)] [] g54_12
    refine TT_aload_n hK rfl 1 rfl dX8_end_57 ?_
    refine TT_dup hK rfl dX8_end_58 ?_
    refine gf_X8_33 hK (by decide) rfl (v := (g54_12 34) 4) rfl dX8_end_59 ?_
    have r13 := ty_34_4 (v := (g54_12 34) 4) hT_12 rfl
    refine TT_aload_n hK rfl 1 rfl dX8_end_62 ?_
    refine gf_X8_36 hK (by decide) rfl (v := (g54_12 34) 5) rfl dX8_end_63 ?_
    have r14 := ty_34_5 (v := (g54_12 34) 5) hT_12 rfl
    refine TT_ishl hK (by omega) (by omega) dX8_end_66 ?_
    refine TT_w32 (fun x67_15 hx15 => ?_)
    refine pf_X8_33 hK (by decide) rfl dX8_end_67 ?_
    refine TT_hp (h' := setO g54_12 34 (fup (g54_12 34) 4 x67_15)) (up_can rfl rfl rfl) ?_
    have hT_16 : TY (setO g54_12 34 (fup (g54_12 34) 4 x67_15)) := tu_34_4 hT_12 (show up g54_12 34 4 x67_15 = (setO g54_12 34 (fup (g54_12 34) 4 x67_15)) from up_can rfl rfl rfl) (by omega)
    have hF_16 : FR [34, 38] h (setO g54_12 34 (fup (g54_12 34) 4 x67_15)) := FR_up (show up g54_12 34 4 x67_15 = (setO g54_12 34 (fup (g54_12 34) 4 x67_15)) from up_can rfl rfl rfl) hF_12 (by decide)
    refine TT_aload_n hK rfl 1 rfl dX8_end_70 ?_
    have e17_34_2 : (setO g54_12 34 (fup (g54_12 34) 4 x67_15)) 34 2 = (g54_12 34) 2 := rd_ (sOf_eq _ _ _) (fup_ne _ _ (by decide))
    refine iv_X8_53 hK (s_X8_goOut_34 (setO g54_12 34 (fup (g54_12 34) 4 x67_15)) hT_16 (by rw [e17_34_2]; first | omega | (simp [up, setR] <;> omega))) (by decide) rfl ⟨by decide, by decide⟩ (by decide) rfl rfl (Nat.le_of_ble_eq_true rfl) ⟨by decide, by decide⟩ dX8_end_71 ?_
    intro r9 g71_18 hp9
    obtain ⟨⟨hT_18, hG_18⟩, hr9, p1_18, p2_18⟩ := hp9
    rw [hr9]
    have hF_18 : FR [34, 38] h g71_18 := FR_tr hF_16 hG_18 (by decide)
    show TT K ly 0 0 74 [(1, vI x9_3), (0, vR 34)] [] g71_18
    refine TT_vret hK hQ ?_ dX8_end_74
    have e19_34_5 : g71_18 34 5 = (g71_18 34) 5 := rfl
    have e20_34_2 : g71_18 34 2 = (g71_18 34) 2 := rfl
    exact ⟨⟨hT_18, hF_18⟩, rfl, (by rw [e19_34_5]; omega), (by rw [e20_34_2]; omega)⟩
  · refine TT_aload_n hK rfl 1 rfl dX8_end_29 ?_
    refine TT_dup hK rfl dX8_end_30 ?_
    refine gf_X8_33 hK (by decide) rfl (v := x18_4) (rd_ (sOf_eq _ _ _) (fup_eq _ _ _)) dX8_end_31 ?_
    refine TT_ldc hK lc_X8_29 dX8_end_34 ?_
    refine TT_isub hK dX8_end_36 ?_
    refine TT_w32 (fun x37_21 hx21 => ?_)
    refine pf_X8_33 hK (by decide) rfl dX8_end_37 ?_
    refine TT_hp (h' := setO h 34 (fup (h 34) 4 x37_21)) (up_can (sOf_eq _ _ _) (fup_same _ _ _ _) (setO_same _ _ _ _)) ?_
    have hT_22 : TY (setO h 34 (fup (h 34) 4 x37_21)) := tu_34_4 hT_5 (show up (setO h 34 (fup (h 34) 4 x18_4)) 34 4 x37_21 = (setO h 34 (fup (h 34) 4 x37_21)) from up_can (sOf_eq _ _ _) (fup_same _ _ _ _) (setO_same _ _ _ _)) (by omega)
    have hF_22 : FR [34, 38] h (setO h 34 (fup (h 34) 4 x37_21)) := FR_up (show up (setO h 34 (fup (h 34) 4 x18_4)) 34 4 x37_21 = (setO h 34 (fup (h 34) 4 x37_21)) from up_can (sOf_eq _ _ _) (fup_same _ _ _ _) (setO_same _ _ _ _)) hF_5 (by decide)
    refine TT_aload_n hK rfl 1 rfl dX8_end_40 ?_
    refine TT_dup hK rfl dX8_end_41 ?_
    refine gf_X8_33 hK (by decide) rfl (v := x37_21) (rd_ (sOf_eq _ _ _) (fup_eq _ _ _)) dX8_end_42 ?_
    have r23 := ty_34_4 (v := x37_21) hT_22 (rd_ (sOf_eq _ _ _) (fup_eq _ _ _))
    refine TT_aload_n hK rfl 1 rfl dX8_end_45 ?_
    refine gf_X8_36 hK (by decide) rfl (v := (h 34) 5) (rd_ (sOf_eq _ _ _) (fup_ne _ _ (by decide))) dX8_end_46 ?_
    have r24 := ty_34_5 (v := (h 34) 5) hT_22 (rd_ (sOf_eq _ _ _) (fup_ne _ _ (by decide)))
    refine TT_ishl hK (by omega) (by omega) dX8_end_49 ?_
    refine TT_w32 (fun x50_25 hx25 => ?_)
    refine pf_X8_33 hK (by decide) rfl dX8_end_50 ?_
    refine TT_hp (h' := setO h 34 (fup (h 34) 4 x50_25)) (up_can (sOf_eq _ _ _) (fup_same _ _ _ _) (setO_same _ _ _ _)) ?_
    have hT_26 : TY (setO h 34 (fup (h 34) 4 x50_25)) := tu_34_4 hT_22 (show up (setO h 34 (fup (h 34) 4 x37_21)) 34 4 x50_25 = (setO h 34 (fup (h 34) 4 x50_25)) from up_can (sOf_eq _ _ _) (fup_same _ _ _ _) (setO_same _ _ _ _)) (by omega)
    have hF_26 : FR [34, 38] h (setO h 34 (fup (h 34) 4 x50_25)) := FR_up (show up (setO h 34 (fup (h 34) 4 x37_21)) 34 4 x50_25 = (setO h 34 (fup (h 34) 4 x50_25)) from up_can (sOf_eq _ _ _) (fup_same _ _ _ _) (setO_same _ _ _ _)) hF_22 (by decide)
    refine TT_aload_n hK rfl 1 rfl dX8_end_53 ?_
    have e27_34_2 : (setO h 34 (fup (h 34) 4 x50_25)) 34 2 = (h 34) 2 := rd_ (sOf_eq _ _ _) (fup_ne _ _ (by decide))
    refine iv_X8_53 hK (s_X8_goOut_34 (setO h 34 (fup (h 34) 4 x50_25)) hT_26 (by rw [e27_34_2]; first | omega | (simp [up, setR] <;> omega))) (by decide) rfl ⟨by decide, by decide⟩ (by decide) rfl rfl (Nat.le_of_ble_eq_true rfl) ⟨by decide, by decide⟩ dX8_end_54 ?_
    intro r9 g54_28 hp9
    obtain ⟨⟨hT_28, hG_28⟩, hr9, p1_28, p2_28⟩ := hp9
    rw [hr9]
    have hF_28 : FR [34, 38] h g54_28 := FR_tr hF_26 hG_28 (by decide)
    show TT K ly 0 0 57 [(1, vI x9_3), (0, vR 34)] [] g54_28
    refine TT_aload_n hK rfl 1 rfl dX8_end_57 ?_
    refine TT_dup hK rfl dX8_end_58 ?_
    refine gf_X8_33 hK (by decide) rfl (v := (g54_28 34) 4) rfl dX8_end_59 ?_
    have r29 := ty_34_4 (v := (g54_28 34) 4) hT_28 rfl
    refine TT_aload_n hK rfl 1 rfl dX8_end_62 ?_
    refine gf_X8_36 hK (by decide) rfl (v := (g54_28 34) 5) rfl dX8_end_63 ?_
    have r30 := ty_34_5 (v := (g54_28 34) 5) hT_28 rfl
    refine TT_ishl hK (by omega) (by omega) dX8_end_66 ?_
    refine TT_w32 (fun x67_31 hx31 => ?_)
    refine pf_X8_33 hK (by decide) rfl dX8_end_67 ?_
    refine TT_hp (h' := setO g54_28 34 (fup (g54_28 34) 4 x67_31)) (up_can rfl rfl rfl) ?_
    have hT_32 : TY (setO g54_28 34 (fup (g54_28 34) 4 x67_31)) := tu_34_4 hT_28 (show up g54_28 34 4 x67_31 = (setO g54_28 34 (fup (g54_28 34) 4 x67_31)) from up_can rfl rfl rfl) (by omega)
    have hF_32 : FR [34, 38] h (setO g54_28 34 (fup (g54_28 34) 4 x67_31)) := FR_up (show up g54_28 34 4 x67_31 = (setO g54_28 34 (fup (g54_28 34) 4 x67_31)) from up_can rfl rfl rfl) hF_28 (by decide)
    refine TT_aload_n hK rfl 1 rfl dX8_end_70 ?_
    have e33_34_2 : (setO g54_28 34 (fup (g54_28 34) 4 x67_31)) 34 2 = (g54_28 34) 2 := rd_ (sOf_eq _ _ _) (fup_ne _ _ (by decide))
    refine iv_X8_53 hK (s_X8_goOut_34 (setO g54_28 34 (fup (g54_28 34) 4 x67_31)) hT_32 (by rw [e33_34_2]; first | omega | (simp [up, setR] <;> omega))) (by decide) rfl ⟨by decide, by decide⟩ (by decide) rfl rfl (Nat.le_of_ble_eq_true rfl) ⟨by decide, by decide⟩ dX8_end_71 ?_
    intro r9 g71_34 hp9
    obtain ⟨⟨hT_34, hG_34⟩, hr9, p1_34, p2_34⟩ := hp9
    rw [hr9]
    have hF_34 : FR [34, 38] h g71_34 := FR_tr hF_32 hG_34 (by decide)
    show TT K ly 0 0 74 [(1, vI x9_3), (0, vR 34)] [] g71_34
    refine TT_vret hK hQ ?_ dX8_end_74
    have e35_34_5 : g71_34 34 5 = (g71_34 34) 5 := rfl
    have e36_34_2 : g71_34 34 2 = (g71_34 34) 2 := rfl
    exact ⟨⟨hT_34, hF_34⟩, rfl, (by rw [e35_34_5]; omega), (by rw [e36_34_2]; omega)⟩
set_option maxRecDepth 20000 in
theorem s_X8_addBytesTo_34 (h : Hp_) (hT : TY h) (hl : 1 ≤ (h 34 2)) : Ctr yX8_addBytesTo cX8_addBytesTo 4 (some .int) (rmd 1) ly ly 0 0 [vR 34, vR 22] h (fun r h' => (TY h' ∧ FR [22, 23] h h') ∧ ∃ z : Int, r = some (vI z) ∧ (-1 ≤ z ∧ z ≤ 1023)) := by
  refine Ctr_of (by decide) (Nat.le_of_ble_eq_true rfl) ⟨Nat.le_refl _, Nat.le_refl _⟩ (fun K hK hQ _ => ?_)
  show TT K ly 0 0 0 [(0, vR 34), (1, vR 22)] [] h
  have hF : FR [22, 23] h h := FR_rf _ _
  refine TT_aload_n hK rfl 0 rfl dX8_addBytesTo_0 ?_
  refine gf_X8_18 hK (by decide) rfl (q := 38) rfl rfl dX8_addBytesTo_1 ?_
  refine TT_aload_n hK rfl 0 rfl dX8_addBytesTo_4 ?_
  refine gf_X8_25 hK (by decide) rfl (v := (h 34) 2) rfl dX8_addBytesTo_5 ?_
  have r1 := ty_34_2 (v := (h 34) 2) hT rfl
  refine TT_iconst hK dX8_addBytesTo_8 ?_
  refine TT_isub hK dX8_addBytesTo_9 ?_
  refine TT_iald hK (o := 38) (n := 1024) (by decide) rfl (by first | omega | (simp [up, setR] <;> omega)) (by first | omega | (simp [up, setR] <;> omega)) (v := (h 38) (((h 34) 2) - 1)) rfl dX8_addBytesTo_10 ?_
  have r2 := ty_38 (i := ((h 34) 2) - 1) (v := (h 38) (((h 34) 2) - 1)) hT rfl (by omega) (by omega)
  refine TT_sipush hK (by decide) dX8_addBytesTo_11 ?_
  refine TT_icmp_ne hK (tgt := 26) (irm (by omega) (by omega)) (by decide) dX8_addBytesTo_14 (by decide) (fun hb14_3 => ?_) (fun hb14_3 => ?_)
  · refine TT_aload_n hK rfl 0 rfl dX8_addBytesTo_26 ?_
    refine gf_X8_25 hK (by decide) rfl (v := (h 34) 2) rfl dX8_addBytesTo_27 ?_
    refine TT_istore_n hK rfl (lv' := [(2, vI ((h 34) 2)), (0, vR 34), (1, vR 22)]) (by decide) rfl dX8_addBytesTo_30 ?_
    refine TT_iconst hK dX8_addBytesTo_31 ?_
    refine TT_istore_n hK rfl (lv' := [(3, vI 1), (2, vI ((h 34) 2)), (0, vR 34), (1, vR 22)]) (by decide) rfl dX8_addBytesTo_32 ?_
    have L33_4 : ∀ (k4 : Nat) (i : Int) (w33_4 : Hp_), TY w33_4 → FR [22, 23] h w33_4 → (1 ≤ i ∧ i ≤ 1024) → ((1024 : Int) - i).toNat < k4 → TT K ly 0 0 33 [(0, vR 34), (1, vR 22), (2, vI ((h 34) 2)), (3, vI i)] [] w33_4 := by
      intro k4
      induction k4 with
      | zero => intro i w33_4 hT33_4 hF33_4 hi hk4; exact absurd hk4 (Nat.not_lt_zero _)
      | succ k4 ih4 =>
        intro i w33_4 hT33_4 hF33_4 hi hk4
        refine TT_iload_n hK rfl 3 rfl dX8_addBytesTo_33 ?_
        refine TT_iload_n hK rfl 2 rfl dX8_addBytesTo_34 ?_
        refine TT_icmp_ge hK (tgt := 54) (irm (by omega) (by omega)) (irm (by omega) (by omega)) dX8_addBytesTo_35 (by decide) (fun hb35_5 => ?_) (fun hb35_5 => ?_)
        · refine TT_iload_n hK rfl 2 rfl dX8_addBytesTo_54 ?_
          refine TT_iconst hK dX8_addBytesTo_55 ?_
          refine TT_isub hK dX8_addBytesTo_56 ?_
          refine TT_iret hK hQ ?_ dX8_addBytesTo_57
          exact ⟨⟨hT33_4, hF33_4⟩, (((h 34) 2) - 1), rfl, (by omega)⟩
        · refine TT_aload_n hK rfl 1 rfl dX8_addBytesTo_38 ?_
          refine TT_aload_n hK rfl 0 rfl dX8_addBytesTo_39 ?_
          refine gf_X8_18 hK (by decide) rfl (q := 38) rfl rfl dX8_addBytesTo_40 ?_
          refine TT_iload_n hK rfl 3 rfl dX8_addBytesTo_43 ?_
          refine TT_iald hK (o := 38) (n := 1024) (by decide) rfl (by first | omega | (simp [up, setR] <;> omega)) (by first | omega | (simp [up, setR] <;> omega)) (v := (h 38) i) (rd_ (hF33_4 38 (by decide)) rfl) dX8_addBytesTo_44 ?_
          have r6 := ty_38 (i := i) (v := (h 38) i) hT33_4 (rd_ (hF33_4 38 (by decide)) rfl) (by omega) (by omega)
          refine iv_X8_61 hK (s_X1_add_22 ((h 38) i) w33_4 hT33_4 (by first | omega | (simp [up, setR] <;> omega))) (by decide) rfl ⟨by decide, by decide⟩ (by decide) rfl rfl (Nat.le_of_ble_eq_true rfl) ⟨by decide, by decide⟩ dX8_addBytesTo_45 ?_
          intro r9 g45_7 hp9
          obtain ⟨⟨hT_7, hG_7⟩, hr9⟩ := hp9
          rw [hr9]
          have hF_7 : FR [22, 23] h g45_7 := FR_tr hF33_4 hG_7 (by decide)
          show TT K ly 0 0 48 [(0, vR 34), (1, vR 22), (2, vI ((h 34) 2)), (3, vI i)] [] g45_7
          refine TT_iinc hK (v := i + 1) (lv' := [(3, vI (i + 1)), (0, vR 34), (1, vR 22), (2, vI ((h 34) 2))]) 3 rfl rfl (by decide) rfl dX8_addBytesTo_48 ?_
          refine TT_goto hK (tgt := 33) dX8_addBytesTo_51 (by decide) ?_
          refine TT_sub [1, 2, 3, 0] rfl ?_
          exact ih4 (i + 1) g45_7 hT_7 hF_7 (by first | omega | (simp [up, setR] <;> omega)) (by first | omega | (simp [up, setR] <;> omega))
    refine TT_sub [2, 3, 1, 0] rfl ?_
    exact L33_4 ((((1024 : Int) - 1).toNat) + 1) 1 h hT hF (by first | omega | (simp [up, setR] <;> omega)) (Nat.lt_succ_self _)
  · refine TT_aload_n hK rfl 0 rfl dX8_addBytesTo_17 ?_
    refine gf_X8_25 hK (by decide) rfl (v := (h 34) 2) rfl dX8_addBytesTo_18 ?_
    refine TT_iconst hK dX8_addBytesTo_21 ?_
    refine TT_isub hK dX8_addBytesTo_22 ?_
    refine TT_goto hK (tgt := 30) dX8_addBytesTo_23 (by decide) ?_
    refine TT_istore_n hK rfl (lv' := [(2, vI (((h 34) 2) - 1)), (0, vR 34), (1, vR 22)]) (by decide) rfl dX8_addBytesTo_30 ?_
    refine TT_iconst hK dX8_addBytesTo_31 ?_
    refine TT_istore_n hK rfl (lv' := [(3, vI 1), (2, vI (((h 34) 2) - 1)), (0, vR 34), (1, vR 22)]) (by decide) rfl dX8_addBytesTo_32 ?_
    have L33_8 : ∀ (k8 : Nat) (i : Int) (w33_8 : Hp_), TY w33_8 → FR [22, 23] h w33_8 → (1 ≤ i ∧ i ≤ 1024) → ((1024 : Int) - i).toNat < k8 → TT K ly 0 0 33 [(0, vR 34), (1, vR 22), (2, vI (((h 34) 2) - 1)), (3, vI i)] [] w33_8 := by
      intro k8
      induction k8 with
      | zero => intro i w33_8 hT33_8 hF33_8 hi hk8; exact absurd hk8 (Nat.not_lt_zero _)
      | succ k8 ih8 =>
        intro i w33_8 hT33_8 hF33_8 hi hk8
        refine TT_iload_n hK rfl 3 rfl dX8_addBytesTo_33 ?_
        refine TT_iload_n hK rfl 2 rfl dX8_addBytesTo_34 ?_
        refine TT_icmp_ge hK (tgt := 54) (irm (by omega) (by omega)) (irm (by omega) (by omega)) dX8_addBytesTo_35 (by decide) (fun hb35_9 => ?_) (fun hb35_9 => ?_)
        · refine TT_iload_n hK rfl 2 rfl dX8_addBytesTo_54 ?_
          refine TT_iconst hK dX8_addBytesTo_55 ?_
          refine TT_isub hK dX8_addBytesTo_56 ?_
          refine TT_iret hK hQ ?_ dX8_addBytesTo_57
          exact ⟨⟨hT33_8, hF33_8⟩, ((((h 34) 2) - 1) - 1), rfl, (by omega)⟩
        · refine TT_aload_n hK rfl 1 rfl dX8_addBytesTo_38 ?_
          refine TT_aload_n hK rfl 0 rfl dX8_addBytesTo_39 ?_
          refine gf_X8_18 hK (by decide) rfl (q := 38) rfl rfl dX8_addBytesTo_40 ?_
          refine TT_iload_n hK rfl 3 rfl dX8_addBytesTo_43 ?_
          refine TT_iald hK (o := 38) (n := 1024) (by decide) rfl (by first | omega | (simp [up, setR] <;> omega)) (by first | omega | (simp [up, setR] <;> omega)) (v := (h 38) i) (rd_ (hF33_8 38 (by decide)) rfl) dX8_addBytesTo_44 ?_
          have r10 := ty_38 (i := i) (v := (h 38) i) hT33_8 (rd_ (hF33_8 38 (by decide)) rfl) (by omega) (by omega)
          refine iv_X8_61 hK (s_X1_add_22 ((h 38) i) w33_8 hT33_8 (by first | omega | (simp [up, setR] <;> omega))) (by decide) rfl ⟨by decide, by decide⟩ (by decide) rfl rfl (Nat.le_of_ble_eq_true rfl) ⟨by decide, by decide⟩ dX8_addBytesTo_45 ?_
          intro r9 g45_11 hp9
          obtain ⟨⟨hT_11, hG_11⟩, hr9⟩ := hp9
          rw [hr9]
          have hF_11 : FR [22, 23] h g45_11 := FR_tr hF33_8 hG_11 (by decide)
          show TT K ly 0 0 48 [(0, vR 34), (1, vR 22), (2, vI (((h 34) 2) - 1)), (3, vI i)] [] g45_11
          refine TT_iinc hK (v := i + 1) (lv' := [(3, vI (i + 1)), (0, vR 34), (1, vR 22), (2, vI (((h 34) 2) - 1))]) 3 rfl rfl (by decide) rfl dX8_addBytesTo_48 ?_
          refine TT_goto hK (tgt := 33) dX8_addBytesTo_51 (by decide) ?_
          refine TT_sub [1, 2, 3, 0] rfl ?_
          exact ih8 (i + 1) g45_11 hT_11 hF_11 (by first | omega | (simp [up, setR] <;> omega)) (by first | omega | (simp [up, setR] <;> omega))
    refine TT_sub [2, 3, 1, 0] rfl ?_
    exact L33_8 ((((1024 : Int) - 1).toNat) + 1) 1 h hT hF (by first | omega | (simp [up, setR] <;> omega)) (Nat.lt_succ_self _)

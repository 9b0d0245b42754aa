set_option maxRecDepth 20000 in
theorem s_sizeOf_e (x : Int) (h : Hp_) (hT : TY h) (hx : 0 ≤ x ∧ x ≤ 18) : Ctr yX2_sizeOf cX2_sizeOf 2 (some .int) (rmd 0) ly ly 0 0 [vR 35, vI x] h (fun r h' => (TY h' ∧ FR [] h h') ∧ ∃ z : Int, r = some (vI z) ∧ (0 ≤ z ∧ z ≤ 22017) ∧ (z = qS ((h 36) x))) := by
  refine Ctr_of (by decide) (Nat.le_of_ble_eq_true rfl) ⟨Nat.le_refl _, Nat.le_refl _⟩ (fun K hK hQ _ => ?_)
  show TT K ly 0 0 0 [(0, vR 35), (1, vI x)] [] h
  have hF : FR [] h h := FR_rf _ _
  refine TT_gets hK (i := 0) (q := 1000) (by decide) rfl gs_X2_22 dX2_sizeOf_0 ?_
  refine TT_aload_n hK rfl 0 rfl dX2_sizeOf_3 ?_
  refine gf_X2_9 hK (by decide) rfl (q := 36) rfl rfl dX2_sizeOf_4 ?_
  refine TT_iload_n hK rfl 1 rfl dX2_sizeOf_7 ?_
  refine TT_iald hK (o := 36) (n := 19) (by decide) rfl (by first | omega | (simp [up, setR] <;> omega)) (by first | omega | (simp [up, setR] <;> omega)) (v := (h 36) x) rfl dX2_sizeOf_8 ?_
  have r1 := ty_36 (i := x) (v := (h 36) x) hT rfl (by omega) (by omega)
  refine TT_tald hK (i := 0) (by decide) rfl (by first | omega | (simp [up, setR] <;> omega)) (by first | omega | (simp [up, setR] <;> omega)) rfl dX2_sizeOf_9 ?_
  obtain ⟨c9_2, hc2⟩ : ∃ c : Int, c = (stT 0).getD ((h 36) x).toNat 0 := ⟨_, rfl⟩
  have r2 : (0 : Int) ≤ c9_2 ∧ c9_2 ≤ 22017 := by rw [hc2]; exact tab_any 0 _ (by decide) (by omega) (by omega)
  rw [← hc2]
  refine TT_iret hK hQ ?_ dX2_sizeOf_10
  exact ⟨⟨hT, hF⟩, c9_2, rfl, (by omega), (by unfold qS; assumption)⟩
set_option maxRecDepth 20000 in
theorem s_likelyBit_e (x : Int) (h : Hp_) (hT : TY h) (hx : 0 ≤ x ∧ x ≤ 18) : Ctr yX2_likelyBit cX2_likelyBit 2 (some .int) (rmd 0) ly ly 0 0 [vR 35, vI x] h (fun r h' => (TY h' ∧ FR [] h h') ∧ ∃ z : Int, r = some (vI z) ∧ (0 ≤ z ∧ z ≤ 1) ∧ (z = (h 37) x)) := by
  refine Ctr_of (by decide) (Nat.le_of_ble_eq_true rfl) ⟨Nat.le_refl _, Nat.le_refl _⟩ (fun K hK hQ _ => ?_)
  show TT K ly 0 0 0 [(0, vR 35), (1, vI x)] [] h
  have hF : FR [] h h := FR_rf _ _
  refine TT_aload_n hK rfl 0 rfl dX2_likelyBit_0 ?_
  refine gf_X2_13 hK (by decide) rfl (q := 37) rfl rfl dX2_likelyBit_1 ?_
  refine TT_iload_n hK rfl 1 rfl dX2_likelyBit_4 ?_
  refine TT_iald hK (o := 37) (n := 19) (by decide) rfl (by first | omega | (simp [up, setR] <;> omega)) (by first | omega | (simp [up, setR] <;> omega)) (v := (h 37) x) rfl dX2_likelyBit_5 ?_
  have r1 := ty_37 (i := x) (v := (h 37) x) hT rfl (by omega) (by omega)
  refine TT_iret hK hQ ?_ dX2_likelyBit_6
  exact ⟨⟨hT, hF⟩, ((h 37) x), rfl, (by omega), (by rfl)⟩
set_option maxRecDepth 20000 in
theorem s_clearn_e (x b : Int) (h : Hp_) (hT : TY h) (hx : 0 ≤ x ∧ x ≤ 18) (hb : 0 ≤ b ∧ b ≤ 1) : Ctr yX2_learn cX2_learn 4 none (rmd 0) ly ly 0 0 [vR 35, vI x, vI b] h (fun r h' => (TY h' ∧ FR [36, 37] h h') ∧ r = none ∧ ((h' 36) = lrS (h 36) x (b ≠ (h 37) x)) ∧ ((h' 37) = lrL (h 36) (h 37) x (b ≠ (h 37) x))) := by
  refine Ctr_of (by decide) (Nat.le_of_ble_eq_true rfl) ⟨Nat.le_refl _, Nat.le_refl _⟩ (fun K hK hQ _ => ?_)
  show TT K ly 0 0 0 [(0, vR 35), (1, vI x), (2, vI b)] [] h
  have hF : FR [36, 37] h h := FR_rf _ _
  have hs0 := ty_36 (i := x) (v := h 36 x) hT rfl (by omega) (by omega)
  have hl0 := ty_37 (i := x) (v := h 37 x) hT rfl (by omega) (by omega)
  refine TT_aload_n hK rfl 0 rfl dX2_learn_0 ?_
  refine gf_X2_9 hK (by decide) rfl (q := 36) rfl rfl dX2_learn_1 ?_
  refine TT_iload_n hK rfl 1 rfl dX2_learn_4 ?_
  refine TT_iald hK (o := 36) (n := 19) (by decide) rfl (by first | omega | (simp [up, setR] <;> omega)) (by first | omega | (simp [up, setR] <;> omega)) (v := (h 36) x) rfl dX2_learn_5 ?_
  have r1 := ty_36 (i := x) (v := (h 36) x) hT rfl (by omega) (by omega)
  refine TT_istore_n hK rfl (lv' := [(3, vI ((h 36) x)), (0, vR 35), (1, vI x), (2, vI b)]) (by decide) rfl dX2_learn_6 ?_
  refine TT_iload_n hK rfl 3 rfl dX2_learn_7 ?_
  refine TT_aload_n hK rfl 1 rfl dX2_learn_8 ?_
  refine gf_X2_13 hK (by decide) rfl (q := 37) rfl rfl dX2_learn_9 ?_
  refine TT_iload_n hK rfl 2 rfl dX2_learn_12 ?_
  refine TT_iald hK (o := 37) (n := 19) (by decide) rfl (by first | omega | (simp [up, setR] <;> omega)) (by first | omega | (simp [up, setR] <;> omega)) (v := (h 37) x) rfl dX2_learn_13 ?_
  have r2 := ty_37 (i := x) (v := (h 37) x) hT rfl (by omega) (by omega)
  refine TT_icmp_ne hK (tgt := 29) (irm (by omega) (by omega)) (irm (by omega) (by omega)) dX2_learn_14 (by decide) (fun hb14_3 => ?_) (fun hb14_3 => ?_)
  · refine TT_aload_n hK rfl 1 rfl dX2_learn_29 ?_
    refine gf_X2_9 hK (by decide) rfl (q := 36) rfl rfl dX2_learn_30 ?_
    refine TT_iload_n hK rfl 2 rfl dX2_learn_33 ?_
    refine TT_gets hK (i := 2) (q := 1002) (by decide) rfl gs_X2_28 dX2_learn_34 ?_
    refine TT_iload_n hK rfl 0 rfl dX2_learn_37 ?_
    refine TT_tald hK (i := 2) (by decide) rfl (by first | omega | (simp [up, setR] <;> omega)) (by first | omega | (simp [up, setR] <;> omega)) rfl dX2_learn_38 ?_
    obtain ⟨c38_4, hc4⟩ : ∃ c : Int, c = (stT 2).getD ((h 36) x).toNat 0 := ⟨_, rfl⟩
    have r4 : (0 : Int) ≤ c38_4 ∧ c38_4 ≤ 46 := by rw [hc4]; exact tab_46 2 _ (by decide) (by omega) (by omega)
    rw [← hc4]
    refine TT_iast hK (o := 36) (n := 19) (by decide) rfl (by omega) (by omega) dX2_learn_39 ?_
    refine TT_hp (h' := setO h 36 (fup (h 36) x c38_4)) (up_can rfl rfl rfl) ?_
    have hT_5 : TY (setO h 36 (fup (h 36) x c38_4)) := tu_36 hT (show up h 36 x c38_4 = (setO h 36 (fup (h 36) x c38_4)) from up_can rfl rfl rfl) (by omega)
    have hF_5 : FR [36, 37] h (setO h 36 (fup (h 36) x c38_4)) := FR_up (show up h 36 x c38_4 = (setO h 36 (fup (h 36) x c38_4)) from up_can rfl rfl rfl) hF (by decide)
    refine TT_iload_n hK rfl 0 rfl dX2_learn_40 ?_
    refine TT_if_eq hK (tgt := 56) (irm (by omega) (by omega)) dX2_learn_41 (by decide) (fun hb41_6 => ?_) (fun hb41_6 => ?_)
    · refine TT_aload_n hK rfl 1 rfl dX2_learn_56 ?_
      refine gf_X2_13 hK (by decide) rfl (q := 37) rfl rfl dX2_learn_57 ?_
      refine TT_iload_n hK rfl 2 rfl dX2_learn_60 ?_
      refine TT_iload_n hK rfl 3 rfl dX2_learn_61 ?_
      refine TT_iast hK (o := 37) (n := 19) (by decide) rfl (by omega) (by omega) dX2_learn_62 ?_
      refine TT_hp (h' := setO (setO h 36 (fup (h 36) x c38_4)) 37 (fup (h 37) x b)) (up_can (sOf_ne _ _ (by decide)) rfl rfl) ?_
      have hT_7 : TY (setO (setO h 36 (fup (h 36) x c38_4)) 37 (fup (h 37) x b)) := tu_37 hT_5 (show up (setO h 36 (fup (h 36) x c38_4)) 37 x b = (setO (setO h 36 (fup (h 36) x c38_4)) 37 (fup (h 37) x b)) from up_can (sOf_ne _ _ (by decide)) rfl rfl) (by omega)
      have hF_7 : FR [36, 37] h (setO (setO h 36 (fup (h 36) x c38_4)) 37 (fup (h 37) x b)) := FR_up (show up (setO h 36 (fup (h 36) x c38_4)) 37 x b = (setO (setO h 36 (fup (h 36) x c38_4)) 37 (fup (h 37) x b)) from up_can (sOf_ne _ _ (by decide)) rfl rfl) hF_5 (by decide)
      refine TT_vret hK hQ ?_ dX2_learn_63
      have e8_36 : (setO (setO h 36 (fup (h 36) x c38_4)) 37 (fup (h 37) x b)) 36 = fup (h 36) x c38_4 := (sOf_ne _ _ (by decide)).trans (sOf_eq _ _ _)
      have e9_37 : (setO (setO h 36 (fup (h 36) x c38_4)) 37 (fup (h 37) x b)) 37 = fup (h 37) x b := sOf_eq _ _ _
      exact ⟨⟨hT_7, hF_7⟩, rfl, (by rewrite [e8_36]; unfold lrS nlS nmS; first | (rw [if_pos (by omega)]; congr 1) | (rw [if_neg (by omega)]; congr 1)), (by rewrite [e9_37]; unfold lrL; first | (rw [if_pos (by omega)]; congr 1; omega) | rw [if_neg (by omega)])⟩
    · refine TT_iload_n hK rfl 0 rfl dX2_learn_44 ?_
      refine TT_bipush hK (by decide) dX2_learn_45 ?_
      refine TT_icmp_eq hK (tgt := 56) (irm (by omega) (by omega)) (by decide) dX2_learn_47 (by decide) (fun hb47_10 => ?_) (fun hb47_10 => ?_)
      · refine TT_aload_n hK rfl 1 rfl dX2_learn_56 ?_
        refine gf_X2_13 hK (by decide) rfl (q := 37) rfl rfl dX2_learn_57 ?_
        refine TT_iload_n hK rfl 2 rfl dX2_learn_60 ?_
        refine TT_iload_n hK rfl 3 rfl dX2_learn_61 ?_
        refine TT_iast hK (o := 37) (n := 19) (by decide) rfl (by omega) (by omega) dX2_learn_62 ?_
        refine TT_hp (h' := setO (setO h 36 (fup (h 36) x c38_4)) 37 (fup (h 37) x b)) (up_can (sOf_ne _ _ (by decide)) rfl rfl) ?_
        have hT_11 : TY (setO (setO h 36 (fup (h 36) x c38_4)) 37 (fup (h 37) x b)) := tu_37 hT_5 (show up (setO h 36 (fup (h 36) x c38_4)) 37 x b = (setO (setO h 36 (fup (h 36) x c38_4)) 37 (fup (h 37) x b)) from up_can (sOf_ne _ _ (by decide)) rfl rfl) (by omega)
        have hF_11 : FR [36, 37] h (setO (setO h 36 (fup (h 36) x c38_4)) 37 (fup (h 37) x b)) := FR_up (show up (setO h 36 (fup (h 36) x c38_4)) 37 x b = (setO (setO h 36 (fup (h 36) x c38_4)) 37 (fup (h 37) x b)) from up_can (sOf_ne _ _ (by decide)) rfl rfl) hF_5 (by decide)
        refine TT_vret hK hQ ?_ dX2_learn_63
        have e12_36 : (setO (setO h 36 (fup (h 36) x c38_4)) 37 (fup (h 37) x b)) 36 = fup (h 36) x c38_4 := (sOf_ne _ _ (by decide)).trans (sOf_eq _ _ _)
        have e13_37 : (setO (setO h 36 (fup (h 36) x c38_4)) 37 (fup (h 37) x b)) 37 = fup (h 37) x b := sOf_eq _ _ _
        exact ⟨⟨hT_11, hF_11⟩, rfl, (by rewrite [e12_36]; unfold lrS nlS nmS; first | (rw [if_pos (by omega)]; congr 1) | (rw [if_neg (by omega)]; congr 1)), (by rewrite [e13_37]; unfold lrL; first | (rw [if_pos (by omega)]; congr 1; omega) | rw [if_neg (by omega)])⟩
      · refine TT_iload_n hK rfl 0 rfl dX2_learn_50 ?_
        refine TT_bipush hK (by decide) dX2_learn_51 ?_
        refine TT_icmp_ne hK (tgt := 63) (irm (by omega) (by omega)) (by decide) dX2_learn_53 (by decide) (fun hb53_14 => ?_) (fun hb53_14 => ?_)
        · refine TT_vret hK hQ ?_ dX2_learn_63
          have e15_36 : (setO h 36 (fup (h 36) x c38_4)) 36 = fup (h 36) x c38_4 := sOf_eq _ _ _
          have e16_37 : (setO h 36 (fup (h 36) x c38_4)) 37 = h 37 := sOf_ne _ _ (by decide)
          exact ⟨⟨hT_5, hF_5⟩, rfl, (by rewrite [e15_36]; unfold lrS nlS nmS; first | (rw [if_pos (by omega)]; congr 1) | (rw [if_neg (by omega)]; congr 1)), (by rewrite [e16_37]; unfold lrL; first | (rw [if_pos (by omega)]; congr 1; omega) | rw [if_neg (by omega)])⟩
        · refine TT_aload_n hK rfl 1 rfl dX2_learn_56 ?_
          refine gf_X2_13 hK (by decide) rfl (q := 37) rfl rfl dX2_learn_57 ?_
          refine TT_iload_n hK rfl 2 rfl dX2_learn_60 ?_
          refine TT_iload_n hK rfl 3 rfl dX2_learn_61 ?_
          refine TT_iast hK (o := 37) (n := 19) (by decide) rfl (by omega) (by omega) dX2_learn_62 ?_
          refine TT_hp (h' := setO (setO h 36 (fup (h 36) x c38_4)) 37 (fup (h 37) x b)) (up_can (sOf_ne _ _ (by decide)) rfl rfl) ?_
          have hT_17 : TY (setO (setO h 36 (fup (h 36) x c38_4)) 37 (fup (h 37) x b)) := tu_37 hT_5 (show up (setO h 36 (fup (h 36) x c38_4)) 37 x b = (setO (setO h 36 (fup (h 36) x c38_4)) 37 (fup (h 37) x b)) from up_can (sOf_ne _ _ (by decide)) rfl rfl) (by omega)
          have hF_17 : FR [36, 37] h (setO (setO h 36 (fup (h 36) x c38_4)) 37 (fup (h 37) x b)) := FR_up (show up (setO h 36 (fup (h 36) x c38_4)) 37 x b = (setO (setO h 36 (fup (h 36) x c38_4)) 37 (fup (h 37) x b)) from up_can (sOf_ne _ _ (by decide)) rfl rfl) hF_5 (by decide)
          refine TT_vret hK hQ ?_ dX2_learn_63
          have e18_36 : (setO (setO h 36 (fup (h 36) x c38_4)) 37 (fup (h 37) x b)) 36 = fup (h 36) x c38_4 := (sOf_ne _ _ (by decide)).trans (sOf_eq _ _ _)
          have e19_37 : (setO (setO h 36 (fup (h 36) x c38_4)) 37 (fup (h 37) x b)) 37 = fup (h 37) x b := sOf_eq _ _ _
          exact ⟨⟨hT_17, hF_17⟩, rfl, (by rewrite [e18_36]; unfold lrS nlS nmS; first | (rw [if_pos (by omega)]; congr 1) | (rw [if_neg (by omega)]; congr 1)), (by rewrite [e19_37]; unfold lrL; first | (rw [if_pos (by omega)]; congr 1; omega) | rw [if_neg (by omega)])⟩
  · refine TT_aload_n hK rfl 1 rfl dX2_learn_17 ?_
    refine gf_X2_9 hK (by decide) rfl (q := 36) rfl rfl dX2_learn_18 ?_
    refine TT_iload_n hK rfl 2 rfl dX2_learn_21 ?_
    refine TT_gets hK (i := 1) (q := 1001) (by decide) rfl gs_X2_25 dX2_learn_22 ?_
    refine TT_iload_n hK rfl 0 rfl dX2_learn_25 ?_
    refine TT_tald hK (i := 1) (by decide) rfl (by first | omega | (simp [up, setR] <;> omega)) (by first | omega | (simp [up, setR] <;> omega)) rfl dX2_learn_26 ?_
    obtain ⟨c26_20, hc20⟩ : ∃ c : Int, c = (stT 1).getD ((h 36) x).toNat 0 := ⟨_, rfl⟩
    have r20 : (0 : Int) ≤ c26_20 ∧ c26_20 ≤ 46 := by rw [hc20]; exact tab_46 1 _ (by decide) (by omega) (by omega)
    rw [← hc20]
    refine TT_iast hK (o := 36) (n := 19) (by decide) rfl (by omega) (by omega) dX2_learn_27 ?_
    refine TT_hp (h' := setO h 36 (fup (h 36) x c26_20)) (up_can rfl rfl rfl) ?_
    have hT_21 : TY (setO h 36 (fup (h 36) x c26_20)) := tu_36 hT (show up h 36 x c26_20 = (setO h 36 (fup (h 36) x c26_20)) from up_can rfl rfl rfl) (by omega)
    have hF_21 : FR [36, 37] h (setO h 36 (fup (h 36) x c26_20)) := FR_up (show up h 36 x c26_20 = (setO h 36 (fup (h 36) x c26_20)) from up_can rfl rfl rfl) hF (by decide)
    refine TT_vret hK hQ ?_ dX2_learn_28
    have e22_36 : (setO h 36 (fup (h 36) x c26_20)) 36 = fup (h 36) x c26_20 := sOf_eq _ _ _
    have e23_37 : (setO h 36 (fup (h 36) x c26_20)) 37 = h 37 := sOf_ne _ _ (by decide)
    exact ⟨⟨hT_21, hF_21⟩, rfl, (by rewrite [e22_36]; unfold lrS nlS nmS; first | (rw [if_pos (by omega)]; congr 1) | (rw [if_neg (by omega)]; congr 1)), (by rewrite [e23_37]; unfold lrL; first | (rw [if_pos (by omega)]; congr 1; omega) | rw [if_neg (by omega)])⟩
set_option maxRecDepth 20000 in
theorem s_goOut_e (h : Hp_) (hT : TY h) (hl : 1 ≤ (h 34 2)) (hn : (h 34 2) ≤ 1023) (hc : 0 ≤ (h 34 4) ∧ (h 34 4) < 150994944) (hlb : 0 ≤ (h 38) ((h 34 2) - 1) ∧ (h 38) ((h 34 2) - 1) ≤ 255) : Ctr yX8_goOut cX8_goOut 3 none (rmd 0) ly ly 0 0 [vR 34] h (fun r h' => (TY h' ∧ FR [34, 38] h h') ∧ r = none ∧ (7 ≤ (h' 34 5)) ∧ (1 ≤ (h' 34 2)) ∧ ((h' 34 3) = (h 34 3)) ∧ ((h' 34 4) = (outS (h 34 4) (h 34 2) (h 38)).1) ∧ ((h' 34 5) = (outS (h 34 4) (h 34 2) (h 38)).2.1) ∧ ((h' 34 2) = (outS (h 34 4) (h 34 2) (h 38)).2.2.1) ∧ ((h' 38) = (outS (h 34 4) (h 34 2) (h 38)).2.2.2)) := by
  refine Ctr_of (by decide) (Nat.le_of_ble_eq_true rfl) ⟨Nat.le_refl _, Nat.le_refl _⟩ (fun K hK hQ _ => ?_)
  show TT K ly 0 0 0 [(0, vR 34)] [] h
  have hF : FR [34, 38] h h := FR_rf _ _
  refine TT_aload_n hK rfl 0 rfl dX8_goOut_0 ?_
  refine gf_X8_18 hK (by decide) rfl (q := 38) rfl rfl dX8_goOut_1 ?_
  refine TT_aload_n hK rfl 0 rfl dX8_goOut_4 ?_
  refine gf_X8_25 hK (by decide) rfl (v := (h 34) 2) rfl dX8_goOut_5 ?_
  have r1 := ty_34_2 (v := (h 34) 2) hT rfl
  refine TT_iconst hK dX8_goOut_8 ?_
  refine TT_isub hK dX8_goOut_9 ?_
  refine TT_iald hK (o := 38) (n := 1024) (by decide) rfl (by first | omega | (simp [up, setR] <;> omega)) (by first | omega | (simp [up, setR] <;> omega)) (v := (h 38) (((h 34) 2) - 1)) rfl dX8_goOut_10 ?_
  have r2 := ty_38 (i := ((h 34) 2) - 1) (v := (h 38) (((h 34) 2) - 1)) hT rfl (by omega) (by omega)
  refine TT_istore_n hK rfl (lv' := [(1, vI ((h 38) (((h 34) 2) - 1))), (0, vR 34)]) (by decide) rfl dX8_goOut_11 ?_
  refine TT_iload_n hK rfl 0 rfl dX8_goOut_12 ?_
  refine TT_sipush hK (by decide) dX8_goOut_13 ?_
  refine TT_icmp_eq hK (tgt := 61) (irm (by omega) (by omega)) (by decide) dX8_goOut_16 (by decide) (fun hb16_3 => ?_) (fun hb16_3 => ?_)
  · refine TT_iload_n hK rfl 0 rfl dX8_goOut_61 ?_
    refine TT_sipush hK (by decide) dX8_goOut_62 ?_
    refine TT_icmp_ne hK (tgt := 73) (irm (by omega) (by omega)) (by decide) dX8_goOut_65 (by decide) (fun hb65_4 => ?_) (fun hb65_4 => ?_)
    · exfalso; omega
    · refine TT_ldc hK lc_X8_58 dX8_goOut_68 ?_
      refine TT_goto hK (tgt := 75) dX8_goOut_70 (by decide) ?_
      refine TT_istore_n hK rfl (lv' := [(2, vI 1048576), (1, vI ((h 38) (((h 34) 2) - 1))), (0, vR 34)]) (by decide) rfl dX8_goOut_75 ?_
      refine TT_aload_n hK rfl 2 rfl dX8_goOut_76 ?_
      refine gf_X8_25 hK (by decide) rfl (v := (h 34) 2) rfl dX8_goOut_77 ?_
      refine TT_sipush hK (by decide) dX8_goOut_80 ?_
      refine TT_icmp_ge hK (tgt := 115) (irm (by omega) (by omega)) (by decide) dX8_goOut_83 (by decide) (fun hb83_5 => ?_) (fun hb83_5 => ?_)
      · omega
      · refine TT_aload_n hK rfl 2 rfl dX8_goOut_86 ?_
        refine gf_X8_18 hK (by decide) rfl (q := 38) rfl rfl dX8_goOut_87 ?_
        refine TT_aload_n hK rfl 2 rfl dX8_goOut_90 ?_
        refine gf_X8_25 hK (by decide) rfl (v := (h 34) 2) rfl dX8_goOut_91 ?_
        refine TT_aload_n hK rfl 2 rfl dX8_goOut_94 ?_
        refine gf_X8_33 hK (by decide) rfl (v := (h 34) 4) rfl dX8_goOut_95 ?_
        have r6 := ty_34_4 (v := (h 34) 4) hT rfl
        refine TT_iload_n hK rfl 0 rfl dX8_goOut_98 ?_
        refine TT_idivn hK (irm (by omega) (by omega)) (by decide) (by first | omega | (simp [up, setR] <;> omega)) (by first | omega | (simp [up, setR] <;> omega)) dX8_goOut_99 ?_
        refine TT_sipush hK (by decide) dX8_goOut_100 ?_
        refine TT_iand hK dX8_goOut_103 ?_
        refine TT_cgI (iand_m (((h 34) 4) / 1048576) 8 (by decide)) ?_
        show TT K ly 0 0 104 [(2, vI 1048576), (1, vI ((h 38) (((h 34) 2) - 1))), (0, vR 34)] (vI ((((h 34) 4) / 1048576) % 256) :: [vI ((h 34) 2), vR 38]) h
        refine TT_iast hK (o := 38) (n := 1024) (by decide) rfl (by omega) (by omega) dX8_goOut_104 ?_
        refine TT_hp (h' := setO h 38 (fup (h 38) ((h 34) 2) ((((h 34) 4) / 1048576) % 256))) (up_can rfl rfl rfl) ?_
        have hT_7 : TY (setO h 38 (fup (h 38) ((h 34) 2) ((((h 34) 4) / 1048576) % 256))) := tu_38 hT (show up h 38 ((h 34) 2) ((((h 34) 4) / 1048576) % 256) = (setO h 38 (fup (h 38) ((h 34) 2) ((((h 34) 4) / 1048576) % 256))) from up_can rfl rfl rfl) (by omega)
        have hF_7 : FR [34, 38] h (setO h 38 (fup (h 38) ((h 34) 2) ((((h 34) 4) / 1048576) % 256))) := FR_up (show up h 38 ((h 34) 2) ((((h 34) 4) / 1048576) % 256) = (setO h 38 (fup (h 38) ((h 34) 2) ((((h 34) 4) / 1048576) % 256))) from up_can rfl rfl rfl) hF (by decide)
        refine TT_aload_n hK rfl 2 rfl dX8_goOut_105 ?_
        refine TT_dup hK rfl dX8_goOut_106 ?_
        refine gf_X8_25 hK (by decide) rfl (v := (h 34) 2) (rd_ (sOf_ne _ _ (by decide)) rfl) dX8_goOut_107 ?_
        refine TT_iconst hK dX8_goOut_110 ?_
        refine TT_iadd hK dX8_goOut_111 ?_
        refine pf_X8_25 hK (by decide) rfl dX8_goOut_112 ?_
        refine TT_hp (h' := setO (setO h 34 (fup (h 34) 2 (((h 34) 2) + 1))) 38 (fup (h 38) ((h 34) 2) ((((h 34) 4) / 1048576) % 256))) (up_can (sOf_ne _ _ (by decide)) rfl ((setO_comm _ _ _ (by decide)).trans (setO_cg rfl rfl))) ?_
        have hT_8 : TY (setO (setO h 34 (fup (h 34) 2 (((h 34) 2) + 1))) 38 (fup (h 38) ((h 34) 2) ((((h 34) 4) / 1048576) % 256))) := tu_34_2 hT_7 (show up (setO h 38 (fup (h 38) ((h 34) 2) ((((h 34) 4) / 1048576) % 256))) 34 2 (((h 34) 2) + 1) = (setO (setO h 34 (fup (h 34) 2 (((h 34) 2) + 1))) 38 (fup (h 38) ((h 34) 2) ((((h 34) 4) / 1048576) % 256))) from up_can (sOf_ne _ _ (by decide)) rfl ((setO_comm _ _ _ (by decide)).trans (setO_cg rfl rfl))) (by omega)
        have hF_8 : FR [34, 38] h (setO (setO h 34 (fup (h 34) 2 (((h 34) 2) + 1))) 38 (fup (h 38) ((h 34) 2) ((((h 34) 4) / 1048576) % 256))) := FR_up (show up (setO h 38 (fup (h 38) ((h 34) 2) ((((h 34) 4) / 1048576) % 256))) 34 2 (((h 34) 2) + 1) = (setO (setO h 34 (fup (h 34) 2 (((h 34) 2) + 1))) 38 (fup (h 38) ((h 34) 2) ((((h 34) 4) / 1048576) % 256))) from up_can (sOf_ne _ _ (by decide)) rfl ((setO_comm _ _ _ (by decide)).trans (setO_cg rfl rfl))) hF_7 (by decide)
        refine TT_aload_n hK rfl 2 rfl dX8_goOut_115 ?_
        refine TT_dup hK rfl dX8_goOut_116 ?_
        refine gf_X8_33 hK (by decide) rfl (v := (h 34) 4) (rd_ ((sOf_ne _ _ (by decide)).trans (sOf_eq _ _ _)) (fup_ne _ _ (by decide))) dX8_goOut_117 ?_
        refine TT_iload_n hK rfl 0 rfl dX8_goOut_120 ?_
        refine TT_iremn hK (irm (by omega) (by omega)) (by decide) (by first | omega | (simp [up, setR] <;> omega)) (by first | omega | (simp [up, setR] <;> omega)) dX8_goOut_121 ?_
        refine pf_X8_33 hK (by decide) rfl dX8_goOut_122 ?_
        refine TT_hp (h' := setO (setO h 34 (fup (fup (h 34) 2 (((h 34) 2) + 1)) 4 (((h 34) 4) % 1048576))) 38 (fup (h 38) ((h 34) 2) ((((h 34) 4) / 1048576) % 256))) (up_can ((sOf_ne _ _ (by decide)).trans (sOf_eq _ _ _)) rfl ((setO_comm _ _ _ (by decide)).trans (setO_cg (setO_same _ _ _ _) rfl))) ?_
        have hT_9 : TY (setO (setO h 34 (fup (fup (h 34) 2 (((h 34) 2) + 1)) 4 (((h 34) 4) % 1048576))) 38 (fup (h 38) ((h 34) 2) ((((h 34) 4) / 1048576) % 256))) := tu_34_4 hT_8 (show up (setO (setO h 34 (fup (h 34) 2 (((h 34) 2) + 1))) 38 (fup (h 38) ((h 34) 2) ((((h 34) 4) / 1048576) % 256))) 34 4 (((h 34) 4) % 1048576) = (setO (setO h 34 (fup (fup (h 34) 2 (((h 34) 2) + 1)) 4 (((h 34) 4) % 1048576))) 38 (fup (h 38) ((h 34) 2) ((((h 34) 4) / 1048576) % 256))) from up_can ((sOf_ne _ _ (by decide)).trans (sOf_eq _ _ _)) rfl ((setO_comm _ _ _ (by decide)).trans (setO_cg (setO_same _ _ _ _) rfl))) (by omega)
        have hF_9 : FR [34, 38] h (setO (setO h 34 (fup (fup (h 34) 2 (((h 34) 2) + 1)) 4 (((h 34) 4) % 1048576))) 38 (fup (h 38) ((h 34) 2) ((((h 34) 4) / 1048576) % 256))) := FR_up (show up (setO (setO h 34 (fup (h 34) 2 (((h 34) 2) + 1))) 38 (fup (h 38) ((h 34) 2) ((((h 34) 4) / 1048576) % 256))) 34 4 (((h 34) 4) % 1048576) = (setO (setO h 34 (fup (fup (h 34) 2 (((h 34) 2) + 1)) 4 (((h 34) 4) % 1048576))) 38 (fup (h 38) ((h 34) 2) ((((h 34) 4) / 1048576) % 256))) from up_can ((sOf_ne _ _ (by decide)).trans (sOf_eq _ _ _)) rfl ((setO_comm _ _ _ (by decide)).trans (setO_cg (setO_same _ _ _ _) rfl))) hF_8 (by decide)
        refine TT_aload_n hK rfl 2 rfl dX8_goOut_125 ?_
        refine TT_iload_n hK rfl 1 rfl dX8_goOut_126 ?_
        refine TT_sipush hK (by decide) dX8_goOut_127 ?_
        refine TT_icmp_ne hK (tgt := 138) (irm (by omega) (by omega)) (by decide) dX8_goOut_130 (by decide) (fun hb130_10 => ?_) (fun hb130_10 => ?_)
        · exfalso; omega
        · refine TT_bipush hK (by decide) dX8_goOut_133 ?_
          refine TT_goto hK (tgt := 140) dX8_goOut_135 (by decide) ?_
          refine pf_X8_36 hK (by decide) rfl dX8_goOut_140 ?_
          refine TT_hp (h' := setO (setO h 34 (fup (fup (fup (h 34) 2 (((h 34) 2) + 1)) 4 (((h 34) 4) % 1048576)) 5 7)) 38 (fup (h 38) ((h 34) 2) ((((h 34) 4) / 1048576) % 256))) (up_can ((sOf_ne _ _ (by decide)).trans (sOf_eq _ _ _)) rfl ((setO_comm _ _ _ (by decide)).trans (setO_cg (setO_same _ _ _ _) rfl))) ?_
          have hT_11 : TY (setO (setO h 34 (fup (fup (fup (h 34) 2 (((h 34) 2) + 1)) 4 (((h 34) 4) % 1048576)) 5 7)) 38 (fup (h 38) ((h 34) 2) ((((h 34) 4) / 1048576) % 256))) := tu_34_5 hT_9 (show up (setO (setO h 34 (fup (fup (h 34) 2 (((h 34) 2) + 1)) 4 (((h 34) 4) % 1048576))) 38 (fup (h 38) ((h 34) 2) ((((h 34) 4) / 1048576) % 256))) 34 5 7 = (setO (setO h 34 (fup (fup (fup (h 34) 2 (((h 34) 2) + 1)) 4 (((h 34) 4) % 1048576)) 5 7)) 38 (fup (h 38) ((h 34) 2) ((((h 34) 4) / 1048576) % 256))) from up_can ((sOf_ne _ _ (by decide)).trans (sOf_eq _ _ _)) rfl ((setO_comm _ _ _ (by decide)).trans (setO_cg (setO_same _ _ _ _) rfl))) (by omega)
          have hF_11 : FR [34, 38] h (setO (setO h 34 (fup (fup (fup (h 34) 2 (((h 34) 2) + 1)) 4 (((h 34) 4) % 1048576)) 5 7)) 38 (fup (h 38) ((h 34) 2) ((((h 34) 4) / 1048576) % 256))) := FR_up (show up (setO (setO h 34 (fup (fup (h 34) 2 (((h 34) 2) + 1)) 4 (((h 34) 4) % 1048576))) 38 (fup (h 38) ((h 34) 2) ((((h 34) 4) / 1048576) % 256))) 34 5 7 = (setO (setO h 34 (fup (fup (fup (h 34) 2 (((h 34) 2) + 1)) 4 (((h 34) 4) % 1048576)) 5 7)) 38 (fup (h 38) ((h 34) 2) ((((h 34) 4) / 1048576) % 256))) from up_can ((sOf_ne _ _ (by decide)).trans (sOf_eq _ _ _)) rfl ((setO_comm _ _ _ (by decide)).trans (setO_cg (setO_same _ _ _ _) rfl))) hF_9 (by decide)
          refine TT_vret hK hQ ?_ dX8_goOut_143
          have e12_34_5 : (setO (setO h 34 (fup (fup (fup (h 34) 2 (((h 34) 2) + 1)) 4 (((h 34) 4) % 1048576)) 5 7)) 38 (fup (h 38) ((h 34) 2) ((((h 34) 4) / 1048576) % 256))) 34 5 = 7 := rd_ ((sOf_ne _ _ (by decide)).trans (sOf_eq _ _ _)) (fup_eq _ _ _)
          have e13_34_2 : (setO (setO h 34 (fup (fup (fup (h 34) 2 (((h 34) 2) + 1)) 4 (((h 34) 4) % 1048576)) 5 7)) 38 (fup (h 38) ((h 34) 2) ((((h 34) 4) / 1048576) % 256))) 34 2 = ((h 34) 2) + 1 := rd_ ((sOf_ne _ _ (by decide)).trans (sOf_eq _ _ _)) ((fup_ne _ _ (by decide)).trans ((fup_ne _ _ (by decide)).trans (fup_eq _ _ _)))
          have e14_34_3 : (setO (setO h 34 (fup (fup (fup (h 34) 2 (((h 34) 2) + 1)) 4 (((h 34) 4) % 1048576)) 5 7)) 38 (fup (h 38) ((h 34) 2) ((((h 34) 4) / 1048576) % 256))) 34 3 = (h 34) 3 := rd_ ((sOf_ne _ _ (by decide)).trans (sOf_eq _ _ _)) ((fup_ne _ _ (by decide)).trans ((fup_ne _ _ (by decide)).trans (fup_ne _ _ (by decide))))
          have e15_34_4 : (setO (setO h 34 (fup (fup (fup (h 34) 2 (((h 34) 2) + 1)) 4 (((h 34) 4) % 1048576)) 5 7)) 38 (fup (h 38) ((h 34) 2) ((((h 34) 4) / 1048576) % 256))) 34 4 = ((h 34) 4) % 1048576 := rd_ ((sOf_ne _ _ (by decide)).trans (sOf_eq _ _ _)) ((fup_ne _ _ (by decide)).trans (fup_eq _ _ _))
          have e16_34_5 : (setO (setO h 34 (fup (fup (fup (h 34) 2 (((h 34) 2) + 1)) 4 (((h 34) 4) % 1048576)) 5 7)) 38 (fup (h 38) ((h 34) 2) ((((h 34) 4) / 1048576) % 256))) 34 5 = 7 := rd_ ((sOf_ne _ _ (by decide)).trans (sOf_eq _ _ _)) (fup_eq _ _ _)
          have e17_34_2 : (setO (setO h 34 (fup (fup (fup (h 34) 2 (((h 34) 2) + 1)) 4 (((h 34) 4) % 1048576)) 5 7)) 38 (fup (h 38) ((h 34) 2) ((((h 34) 4) / 1048576) % 256))) 34 2 = ((h 34) 2) + 1 := rd_ ((sOf_ne _ _ (by decide)).trans (sOf_eq _ _ _)) ((fup_ne _ _ (by decide)).trans ((fup_ne _ _ (by decide)).trans (fup_eq _ _ _)))
          have e18_38 : (setO (setO h 34 (fup (fup (fup (h 34) 2 (((h 34) 2) + 1)) 4 (((h 34) 4) % 1048576)) 5 7)) 38 (fup (h 38) ((h 34) 2) ((((h 34) 4) / 1048576) % 256))) 38 = fup (h 38) ((h 34) 2) ((((h 34) 4) / 1048576) % 256) := sOf_eq _ _ _
          exact ⟨⟨hT_11, hF_11⟩, rfl, (by rewrite [e12_34_5]; omega), (by rewrite [e13_34_2]; omega), (by rewrite [e14_34_3]; omega), (by rewrite [e15_34_4]; first | rw [outS_1 (by omega)] | rw [outS_2 (by omega) (by omega)] | rw [outS_3 (by omega) (by omega) (by omega)] | rw [outS_4 (by omega) (by omega) (by omega)]), (by rewrite [e16_34_5]; first | rw [outS_1 (by omega)] | rw [outS_2 (by omega) (by omega)] | rw [outS_3 (by omega) (by omega) (by omega)] | rw [outS_4 (by omega) (by omega) (by omega)]), (by rewrite [e17_34_2]; first | rw [outS_1 (by omega)] | rw [outS_2 (by omega) (by omega)] | rw [outS_3 (by omega) (by omega) (by omega)] | rw [outS_4 (by omega) (by omega) (by omega)]), (by rewrite [e18_38]; first | rw [outS_1 (by omega)] | rw [outS_2 (by omega) (by omega)] | rw [outS_3 (by omega) (by omega) (by omega)] | rw [outS_4 (by omega) (by omega) (by omega)])⟩
  · refine TT_aload_n hK rfl 1 rfl dX8_goOut_19 ?_
    refine gf_X8_33 hK (by decide) rfl (v := (h 34) 4) rfl dX8_goOut_20 ?_
    have r19 := ty_34_4 (v := (h 34) 4) hT rfl
    refine TT_ldc hK lc_X8_56 dX8_goOut_23 ?_
    refine TT_icmp_lt hK (tgt := 61) (irm (by omega) (by omega)) (by decide) dX8_goOut_25 (by decide) (fun hb25_20 => ?_) (fun hb25_20 => ?_)
    · refine TT_iload_n hK rfl 0 rfl dX8_goOut_61 ?_
      refine TT_sipush hK (by decide) dX8_goOut_62 ?_
      refine TT_icmp_ne hK (tgt := 73) (irm (by omega) (by omega)) (by decide) dX8_goOut_65 (by decide) (fun hb65_21 => ?_) (fun hb65_21 => ?_)
      · refine TT_ldc hK lc_X8_59 dX8_goOut_73 ?_
        refine TT_istore_n hK rfl (lv' := [(2, vI 524288), (1, vI ((h 38) (((h 34) 2) - 1))), (0, vR 34)]) (by decide) rfl dX8_goOut_75 ?_
        refine TT_aload_n hK rfl 2 rfl dX8_goOut_76 ?_
        refine gf_X8_25 hK (by decide) rfl (v := (h 34) 2) rfl dX8_goOut_77 ?_
        refine TT_sipush hK (by decide) dX8_goOut_80 ?_
        refine TT_icmp_ge hK (tgt := 115) (irm (by omega) (by omega)) (by decide) dX8_goOut_83 (by decide) (fun hb83_22 => ?_) (fun hb83_22 => ?_)
        · omega
        · refine TT_aload_n hK rfl 2 rfl dX8_goOut_86 ?_
          refine gf_X8_18 hK (by decide) rfl (q := 38) rfl rfl dX8_goOut_87 ?_
          refine TT_aload_n hK rfl 2 rfl dX8_goOut_90 ?_
          refine gf_X8_25 hK (by decide) rfl (v := (h 34) 2) rfl dX8_goOut_91 ?_
          refine TT_aload_n hK rfl 2 rfl dX8_goOut_94 ?_
          refine gf_X8_33 hK (by decide) rfl (v := (h 34) 4) rfl dX8_goOut_95 ?_
          refine TT_iload_n hK rfl 0 rfl dX8_goOut_98 ?_
          refine TT_idivn hK (irm (by omega) (by omega)) (by decide) (by first | omega | (simp [up, setR] <;> omega)) (by first | omega | (simp [up, setR] <;> omega)) dX8_goOut_99 ?_
          refine TT_sipush hK (by decide) dX8_goOut_100 ?_
          refine TT_iand hK dX8_goOut_103 ?_
          refine TT_cgI (iand_m (((h 34) 4) / 524288) 8 (by decide)) ?_
          show TT K ly 0 0 104 [(2, vI 524288), (1, vI ((h 38) (((h 34) 2) - 1))), (0, vR 34)] (vI ((((h 34) 4) / 524288) % 256) :: [vI ((h 34) 2), vR 38]) h
          refine TT_iast hK (o := 38) (n := 1024) (by decide) rfl (by omega) (by omega) dX8_goOut_104 ?_
          refine TT_hp (h' := setO h 38 (fup (h 38) ((h 34) 2) ((((h 34) 4) / 524288) % 256))) (up_can rfl rfl rfl) ?_
          have hT_23 : TY (setO h 38 (fup (h 38) ((h 34) 2) ((((h 34) 4) / 524288) % 256))) := tu_38 hT (show up h 38 ((h 34) 2) ((((h 34) 4) / 524288) % 256) = (setO h 38 (fup (h 38) ((h 34) 2) ((((h 34) 4) / 524288) % 256))) from up_can rfl rfl rfl) (by omega)
          have hF_23 : FR [34, 38] h (setO h 38 (fup (h 38) ((h 34) 2) ((((h 34) 4) / 524288) % 256))) := FR_up (show up h 38 ((h 34) 2) ((((h 34) 4) / 524288) % 256) = (setO h 38 (fup (h 38) ((h 34) 2) ((((h 34) 4) / 524288) % 256))) from up_can rfl rfl rfl) hF (by decide)
          refine TT_aload_n hK rfl 2 rfl dX8_goOut_105 ?_
          refine TT_dup hK rfl dX8_goOut_106 ?_
          refine gf_X8_25 hK (by decide) rfl (v := (h 34) 2) (rd_ (sOf_ne _ _ (by decide)) rfl) dX8_goOut_107 ?_
          refine TT_iconst hK dX8_goOut_110 ?_
          refine TT_iadd hK dX8_goOut_111 ?_
          refine pf_X8_25 hK (by decide) rfl dX8_goOut_112 ?_
          refine TT_hp (h' := setO (setO h 34 (fup (h 34) 2 (((h 34) 2) + 1))) 38 (fup (h 38) ((h 34) 2) ((((h 34) 4) / 524288) % 256))) (up_can (sOf_ne _ _ (by decide)) rfl ((setO_comm _ _ _ (by decide)).trans (setO_cg rfl rfl))) ?_
          have hT_24 : TY (setO (setO h 34 (fup (h 34) 2 (((h 34) 2) + 1))) 38 (fup (h 38) ((h 34) 2) ((((h 34) 4) / 524288) % 256))) := tu_34_2 hT_23 (show up (setO h 38 (fup (h 38) ((h 34) 2) ((((h 34) 4) / 524288) % 256))) 34 2 (((h 34) 2) + 1) = (setO (setO h 34 (fup (h 34) 2 (((h 34) 2) + 1))) 38 (fup (h 38) ((h 34) 2) ((((h 34) 4) / 524288) % 256))) from up_can (sOf_ne _ _ (by decide)) rfl ((setO_comm _ _ _ (by decide)).trans (setO_cg rfl rfl))) (by omega)
          have hF_24 : FR [34, 38] h (setO (setO h 34 (fup (h 34) 2 (((h 34) 2) + 1))) 38 (fup (h 38) ((h 34) 2) ((((h 34) 4) / 524288) % 256))) := FR_up (show up (setO h 38 (fup (h 38) ((h 34) 2) ((((h 34) 4) / 524288) % 256))) 34 2 (((h 34) 2) + 1) = (setO (setO h 34 (fup (h 34) 2 (((h 34) 2) + 1))) 38 (fup (h 38) ((h 34) 2) ((((h 34) 4) / 524288) % 256))) from up_can (sOf_ne _ _ (by decide)) rfl ((setO_comm _ _ _ (by decide)).trans (setO_cg rfl rfl))) hF_23 (by decide)
          refine TT_aload_n hK rfl 2 rfl dX8_goOut_115 ?_
          refine TT_dup hK rfl dX8_goOut_116 ?_
          refine gf_X8_33 hK (by decide) rfl (v := (h 34) 4) (rd_ ((sOf_ne _ _ (by decide)).trans (sOf_eq _ _ _)) (fup_ne _ _ (by decide))) dX8_goOut_117 ?_
          refine TT_iload_n hK rfl 0 rfl dX8_goOut_120 ?_
          refine TT_iremn hK (irm (by omega) (by omega)) (by decide) (by first | omega | (simp [up, setR] <;> omega)) (by first | omega | (simp [up, setR] <;> omega)) dX8_goOut_121 ?_
          refine pf_X8_33 hK (by decide) rfl dX8_goOut_122 ?_
          refine TT_hp (h' := setO (setO h 34 (fup (fup (h 34) 2 (((h 34) 2) + 1)) 4 (((h 34) 4) % 524288))) 38 (fup (h 38) ((h 34) 2) ((((h 34) 4) / 524288) % 256))) (up_can ((sOf_ne _ _ (by decide)).trans (sOf_eq _ _ _)) rfl ((setO_comm _ _ _ (by decide)).trans (setO_cg (setO_same _ _ _ _) rfl))) ?_
          have hT_25 : TY (setO (setO h 34 (fup (fup (h 34) 2 (((h 34) 2) + 1)) 4 (((h 34) 4) % 524288))) 38 (fup (h 38) ((h 34) 2) ((((h 34) 4) / 524288) % 256))) := tu_34_4 hT_24 (show up (setO (setO h 34 (fup (h 34) 2 (((h 34) 2) + 1))) 38 (fup (h 38) ((h 34) 2) ((((h 34) 4) / 524288) % 256))) 34 4 (((h 34) 4) % 524288) = (setO (setO h 34 (fup (fup (h 34) 2 (((h 34) 2) + 1)) 4 (((h 34) 4) % 524288))) 38 (fup (h 38) ((h 34) 2) ((((h 34) 4) / 524288) % 256))) from up_can ((sOf_ne _ _ (by decide)).trans (sOf_eq _ _ _)) rfl ((setO_comm _ _ _ (by decide)).trans (setO_cg (setO_same _ _ _ _) rfl))) (by omega)
          have hF_25 : FR [34, 38] h (setO (setO h 34 (fup (fup (h 34) 2 (((h 34) 2) + 1)) 4 (((h 34) 4) % 524288))) 38 (fup (h 38) ((h 34) 2) ((((h 34) 4) / 524288) % 256))) := FR_up (show up (setO (setO h 34 (fup (h 34) 2 (((h 34) 2) + 1))) 38 (fup (h 38) ((h 34) 2) ((((h 34) 4) / 524288) % 256))) 34 4 (((h 34) 4) % 524288) = (setO (setO h 34 (fup (fup (h 34) 2 (((h 34) 2) + 1)) 4 (((h 34) 4) % 524288))) 38 (fup (h 38) ((h 34) 2) ((((h 34) 4) / 524288) % 256))) from up_can ((sOf_ne _ _ (by decide)).trans (sOf_eq _ _ _)) rfl ((setO_comm _ _ _ (by decide)).trans (setO_cg (setO_same _ _ _ _) rfl))) hF_24 (by decide)
          refine TT_aload_n hK rfl 2 rfl dX8_goOut_125 ?_
          refine TT_iload_n hK rfl 1 rfl dX8_goOut_126 ?_
          refine TT_sipush hK (by decide) dX8_goOut_127 ?_
          refine TT_icmp_ne hK (tgt := 138) (irm (by omega) (by omega)) (by decide) dX8_goOut_130 (by decide) (fun hb130_26 => ?_) (fun hb130_26 => ?_)
          · refine TT_bipush hK (by decide) dX8_goOut_138 ?_
            refine pf_X8_36 hK (by decide) rfl dX8_goOut_140 ?_
            refine TT_hp (h' := setO (setO h 34 (fup (fup (fup (h 34) 2 (((h 34) 2) + 1)) 4 (((h 34) 4) % 524288)) 5 8)) 38 (fup (h 38) ((h 34) 2) ((((h 34) 4) / 524288) % 256))) (up_can ((sOf_ne _ _ (by decide)).trans (sOf_eq _ _ _)) rfl ((setO_comm _ _ _ (by decide)).trans (setO_cg (setO_same _ _ _ _) rfl))) ?_
            have hT_27 : TY (setO (setO h 34 (fup (fup (fup (h 34) 2 (((h 34) 2) + 1)) 4 (((h 34) 4) % 524288)) 5 8)) 38 (fup (h 38) ((h 34) 2) ((((h 34) 4) / 524288) % 256))) := tu_34_5 hT_25 (show up (setO (setO h 34 (fup (fup (h 34) 2 (((h 34) 2) + 1)) 4 (((h 34) 4) % 524288))) 38 (fup (h 38) ((h 34) 2) ((((h 34) 4) / 524288) % 256))) 34 5 8 = (setO (setO h 34 (fup (fup (fup (h 34) 2 (((h 34) 2) + 1)) 4 (((h 34) 4) % 524288)) 5 8)) 38 (fup (h 38) ((h 34) 2) ((((h 34) 4) / 524288) % 256))) from up_can ((sOf_ne _ _ (by decide)).trans (sOf_eq _ _ _)) rfl ((setO_comm _ _ _ (by decide)).trans (setO_cg (setO_same _ _ _ _) rfl))) (by omega)
            have hF_27 : FR [34, 38] h (setO (setO h 34 (fup (fup (fup (h 34) 2 (((h 34) 2) + 1)) 4 (((h 34) 4) % 524288)) 5 8)) 38 (fup (h 38) ((h 34) 2) ((((h 34) 4) / 524288) % 256))) := FR_up (show up (setO (setO h 34 (fup (fup (h 34) 2 (((h 34) 2) + 1)) 4 (((h 34) 4) % 524288))) 38 (fup (h 38) ((h 34) 2) ((((h 34) 4) / 524288) % 256))) 34 5 8 = (setO (setO h 34 (fup (fup (fup (h 34) 2 (((h 34) 2) + 1)) 4 (((h 34) 4) % 524288)) 5 8)) 38 (fup (h 38) ((h 34) 2) ((((h 34) 4) / 524288) % 256))) from up_can ((sOf_ne _ _ (by decide)).trans (sOf_eq _ _ _)) rfl ((setO_comm _ _ _ (by decide)).trans (setO_cg (setO_same _ _ _ _) rfl))) hF_25 (by decide)
            refine TT_vret hK hQ ?_ dX8_goOut_143
            have e28_34_5 : (setO (setO h 34 (fup (fup (fup (h 34) 2 (((h 34) 2) + 1)) 4 (((h 34) 4) % 524288)) 5 8)) 38 (fup (h 38) ((h 34) 2) ((((h 34) 4) / 524288) % 256))) 34 5 = 8 := rd_ ((sOf_ne _ _ (by decide)).trans (sOf_eq _ _ _)) (fup_eq _ _ _)
            have e29_34_2 : (setO (setO h 34 (fup (fup (fup (h 34) 2 (((h 34) 2) + 1)) 4 (((h 34) 4) % 524288)) 5 8)) 38 (fup (h 38) ((h 34) 2) ((((h 34) 4) / 524288) % 256))) 34 2 = ((h 34) 2) + 1 := rd_ ((sOf_ne _ _ (by decide)).trans (sOf_eq _ _ _)) ((fup_ne _ _ (by decide)).trans ((fup_ne _ _ (by decide)).trans (fup_eq _ _ _)))
            have e30_34_3 : (setO (setO h 34 (fup (fup (fup (h 34) 2 (((h 34) 2) + 1)) 4 (((h 34) 4) % 524288)) 5 8)) 38 (fup (h 38) ((h 34) 2) ((((h 34) 4) / 524288) % 256))) 34 3 = (h 34) 3 := rd_ ((sOf_ne _ _ (by decide)).trans (sOf_eq _ _ _)) ((fup_ne _ _ (by decide)).trans ((fup_ne _ _ (by decide)).trans (fup_ne _ _ (by decide))))
            have e31_34_4 : (setO (setO h 34 (fup (fup (fup (h 34) 2 (((h 34) 2) + 1)) 4 (((h 34) 4) % 524288)) 5 8)) 38 (fup (h 38) ((h 34) 2) ((((h 34) 4) / 524288) % 256))) 34 4 = ((h 34) 4) % 524288 := rd_ ((sOf_ne _ _ (by decide)).trans (sOf_eq _ _ _)) ((fup_ne _ _ (by decide)).trans (fup_eq _ _ _))
            have e32_34_5 : (setO (setO h 34 (fup (fup (fup (h 34) 2 (((h 34) 2) + 1)) 4 (((h 34) 4) % 524288)) 5 8)) 38 (fup (h 38) ((h 34) 2) ((((h 34) 4) / 524288) % 256))) 34 5 = 8 := rd_ ((sOf_ne _ _ (by decide)).trans (sOf_eq _ _ _)) (fup_eq _ _ _)
            have e33_34_2 : (setO (setO h 34 (fup (fup (fup (h 34) 2 (((h 34) 2) + 1)) 4 (((h 34) 4) % 524288)) 5 8)) 38 (fup (h 38) ((h 34) 2) ((((h 34) 4) / 524288) % 256))) 34 2 = ((h 34) 2) + 1 := rd_ ((sOf_ne _ _ (by decide)).trans (sOf_eq _ _ _)) ((fup_ne _ _ (by decide)).trans ((fup_ne _ _ (by decide)).trans (fup_eq _ _ _)))
            have e34_38 : (setO (setO h 34 (fup (fup (fup (h 34) 2 (((h 34) 2) + 1)) 4 (((h 34) 4) % 524288)) 5 8)) 38 (fup (h 38) ((h 34) 2) ((((h 34) 4) / 524288) % 256))) 38 = fup (h 38) ((h 34) 2) ((((h 34) 4) / 524288) % 256) := sOf_eq _ _ _
            exact ⟨⟨hT_27, hF_27⟩, rfl, (by rewrite [e28_34_5]; omega), (by rewrite [e29_34_2]; omega), (by rewrite [e30_34_3]; omega), (by rewrite [e31_34_4]; first | rw [outS_1 (by omega)] | rw [outS_2 (by omega) (by omega)] | rw [outS_3 (by omega) (by omega) (by omega)] | rw [outS_4 (by omega) (by omega) (by omega)]), (by rewrite [e32_34_5]; first | rw [outS_1 (by omega)] | rw [outS_2 (by omega) (by omega)] | rw [outS_3 (by omega) (by omega) (by omega)] | rw [outS_4 (by omega) (by omega) (by omega)]), (by rewrite [e33_34_2]; first | rw [outS_1 (by omega)] | rw [outS_2 (by omega) (by omega)] | rw [outS_3 (by omega) (by omega) (by omega)] | rw [outS_4 (by omega) (by omega) (by omega)]), (by rewrite [e34_38]; first | rw [outS_1 (by omega)] | rw [outS_2 (by omega) (by omega)] | rw [outS_3 (by omega) (by omega) (by omega)] | rw [outS_4 (by omega) (by omega) (by omega)])⟩
          · exfalso; omega
      · exfalso; omega
    · refine TT_iinc hK (v := ((h 38) (((h 34) 2) - 1)) + 1) (lv' := [(1, vI (((h 38) (((h 34) 2) - 1)) + 1)), (0, vR 34)]) 0 rfl rfl (by decide) rfl dX8_goOut_28 ?_
      refine TT_aload_n hK rfl 1 rfl dX8_goOut_31 ?_
      refine gf_X8_18 hK (by decide) rfl (q := 38) rfl rfl dX8_goOut_32 ?_
      refine TT_aload_n hK rfl 1 rfl dX8_goOut_35 ?_
      refine gf_X8_25 hK (by decide) rfl (v := (h 34) 2) rfl dX8_goOut_36 ?_
      refine TT_iconst hK dX8_goOut_39 ?_
      refine TT_isub hK dX8_goOut_40 ?_
      refine TT_iload_n hK rfl 0 rfl dX8_goOut_41 ?_
      refine TT_iast hK (o := 38) (n := 1024) (by decide) rfl (by omega) (by omega) dX8_goOut_42 ?_
      refine TT_hp (h' := setO h 38 (fup (h 38) (((h 34) 2) - 1) (((h 38) (((h 34) 2) - 1)) + 1))) (up_can rfl rfl rfl) ?_
      have hT_35 : TY (setO h 38 (fup (h 38) (((h 34) 2) - 1) (((h 38) (((h 34) 2) - 1)) + 1))) := tu_38 hT (show up h 38 (((h 34) 2) - 1) (((h 38) (((h 34) 2) - 1)) + 1) = (setO h 38 (fup (h 38) (((h 34) 2) - 1) (((h 38) (((h 34) 2) - 1)) + 1))) from up_can rfl rfl rfl) (by omega)
      have hF_35 : FR [34, 38] h (setO h 38 (fup (h 38) (((h 34) 2) - 1) (((h 38) (((h 34) 2) - 1)) + 1))) := FR_up (show up h 38 (((h 34) 2) - 1) (((h 38) (((h 34) 2) - 1)) + 1) = (setO h 38 (fup (h 38) (((h 34) 2) - 1) (((h 38) (((h 34) 2) - 1)) + 1))) from up_can rfl rfl rfl) hF (by decide)
      refine TT_iload_n hK rfl 0 rfl dX8_goOut_43 ?_
      refine TT_sipush hK (by decide) dX8_goOut_44 ?_
      refine TT_icmp_ne hK (tgt := 61) (irm (by omega) (by omega)) (by decide) dX8_goOut_47 (by decide) (fun hb47_36 => ?_) (fun hb47_36 => ?_)
      · refine TT_iload_n hK rfl 0 rfl dX8_goOut_61 ?_
        refine TT_sipush hK (by decide) dX8_goOut_62 ?_
        refine TT_icmp_ne hK (tgt := 73) (irm (by omega) (by omega)) (by decide) dX8_goOut_65 (by decide) (fun hb65_37 => ?_) (fun hb65_37 => ?_)
        · refine TT_ldc hK lc_X8_59 dX8_goOut_73 ?_
          refine TT_istore_n hK rfl (lv' := [(2, vI 524288), (1, vI (((h 38) (((h 34) 2) - 1)) + 1)), (0, vR 34)]) (by decide) rfl dX8_goOut_75 ?_
          refine TT_aload_n hK rfl 2 rfl dX8_goOut_76 ?_
          refine gf_X8_25 hK (by decide) rfl (v := (h 34) 2) (rd_ (sOf_ne _ _ (by decide)) rfl) dX8_goOut_77 ?_
          refine TT_sipush hK (by decide) dX8_goOut_80 ?_
          refine TT_icmp_ge hK (tgt := 115) (irm (by omega) (by omega)) (by decide) dX8_goOut_83 (by decide) (fun hb83_38 => ?_) (fun hb83_38 => ?_)
          · omega
          · refine TT_aload_n hK rfl 2 rfl dX8_goOut_86 ?_
            refine gf_X8_18 hK (by decide) rfl (q := 38) rfl rfl dX8_goOut_87 ?_
            refine TT_aload_n hK rfl 2 rfl dX8_goOut_90 ?_
            refine gf_X8_25 hK (by decide) rfl (v := (h 34) 2) (rd_ (sOf_ne _ _ (by decide)) rfl) dX8_goOut_91 ?_
            refine TT_aload_n hK rfl 2 rfl dX8_goOut_94 ?_
            refine gf_X8_33 hK (by decide) rfl (v := (h 34) 4) (rd_ (sOf_ne _ _ (by decide)) rfl) dX8_goOut_95 ?_
            refine TT_iload_n hK rfl 0 rfl dX8_goOut_98 ?_
            refine TT_idivn hK (irm (by omega) (by omega)) (by decide) (by first | omega | (simp [up, setR] <;> omega)) (by first | omega | (simp [up, setR] <;> omega)) dX8_goOut_99 ?_
            refine TT_sipush hK (by decide) dX8_goOut_100 ?_
            refine TT_iand hK dX8_goOut_103 ?_
            refine TT_cgI (iand_m (((h 34) 4) / 524288) 8 (by decide)) ?_
            show TT K ly 0 0 104 [(2, vI 524288), (1, vI (((h 38) (((h 34) 2) - 1)) + 1)), (0, vR 34)] (vI ((((h 34) 4) / 524288) % 256) :: [vI ((h 34) 2), vR 38]) (setO h 38 (fup (h 38) (((h 34) 2) - 1) (((h 38) (((h 34) 2) - 1)) + 1)))
            refine TT_iast hK (o := 38) (n := 1024) (by decide) rfl (by omega) (by omega) dX8_goOut_104 ?_
            refine TT_hp (h' := setO h 38 (fup (fup (h 38) (((h 34) 2) - 1) (((h 38) (((h 34) 2) - 1)) + 1)) ((h 34) 2) ((((h 34) 4) / 524288) % 256))) (up_can (sOf_eq _ _ _) rfl (setO_same _ _ _ _)) ?_
            have hT_39 : TY (setO h 38 (fup (fup (h 38) (((h 34) 2) - 1) (((h 38) (((h 34) 2) - 1)) + 1)) ((h 34) 2) ((((h 34) 4) / 524288) % 256))) := tu_38 hT_35 (show up (setO h 38 (fup (h 38) (((h 34) 2) - 1) (((h 38) (((h 34) 2) - 1)) + 1))) 38 ((h 34) 2) ((((h 34) 4) / 524288) % 256) = (setO h 38 (fup (fup (h 38) (((h 34) 2) - 1) (((h 38) (((h 34) 2) - 1)) + 1)) ((h 34) 2) ((((h 34) 4) / 524288) % 256))) from up_can (sOf_eq _ _ _) rfl (setO_same _ _ _ _)) (by omega)
            have hF_39 : FR [34, 38] h (setO h 38 (fup (fup (h 38) (((h 34) 2) - 1) (((h 38) (((h 34) 2) - 1)) + 1)) ((h 34) 2) ((((h 34) 4) / 524288) % 256))) := FR_up (show up (setO h 38 (fup (h 38) (((h 34) 2) - 1) (((h 38) (((h 34) 2) - 1)) + 1))) 38 ((h 34) 2) ((((h 34) 4) / 524288) % 256) = (setO h 38 (fup (fup (h 38) (((h 34) 2) - 1) (((h 38) (((h 34) 2) - 1)) + 1)) ((h 34) 2) ((((h 34) 4) / 524288) % 256))) from up_can (sOf_eq _ _ _) rfl (setO_same _ _ _ _)) hF_35 (by decide)
            refine TT_aload_n hK rfl 2 rfl dX8_goOut_105 ?_
            refine TT_dup hK rfl dX8_goOut_106 ?_
            refine gf_X8_25 hK (by decide) rfl (v := (h 34) 2) (rd_ (sOf_ne _ _ (by decide)) rfl) dX8_goOut_107 ?_
            refine TT_iconst hK dX8_goOut_110 ?_
            refine TT_iadd hK dX8_goOut_111 ?_
            refine pf_X8_25 hK (by decide) rfl dX8_goOut_112 ?_
            refine TT_hp (h' := setO (setO h 34 (fup (h 34) 2 (((h 34) 2) + 1))) 38 (fup (fup (h 38) (((h 34) 2) - 1) (((h 38) (((h 34) 2) - 1)) + 1)) ((h 34) 2) ((((h 34) 4) / 524288) % 256))) (up_can (sOf_ne _ _ (by decide)) rfl ((setO_comm _ _ _ (by decide)).trans (setO_cg rfl rfl))) ?_
            have hT_40 : TY (setO (setO h 34 (fup (h 34) 2 (((h 34) 2) + 1))) 38 (fup (fup (h 38) (((h 34) 2) - 1) (((h 38) (((h 34) 2) - 1)) + 1)) ((h 34) 2) ((((h 34) 4) / 524288) % 256))) := tu_34_2 hT_39 (show up (setO h 38 (fup (fup (h 38) (((h 34) 2) - 1) (((h 38) (((h 34) 2) - 1)) + 1)) ((h 34) 2) ((((h 34) 4) / 524288) % 256))) 34 2 (((h 34) 2) + 1) = (setO (setO h 34 (fup (h 34) 2 (((h 34) 2) + 1))) 38 (fup (fup (h 38) (((h 34) 2) - 1) (((h 38) (((h 34) 2) - 1)) + 1)) ((h 34) 2) ((((h 34) 4) / 524288) % 256))) from up_can (sOf_ne _ _ (by decide)) rfl ((setO_comm _ _ _ (by decide)).trans (setO_cg rfl rfl))) (by omega)
            have hF_40 : FR [34, 38] h (setO (setO h 34 (fup (h 34) 2 (((h 34) 2) + 1))) 38 (fup (fup (h 38) (((h 34) 2) - 1) (((h 38) (((h 34) 2) - 1)) + 1)) ((h 34) 2) ((((h 34) 4) / 524288) % 256))) := FR_up (show up (setO h 38 (fup (fup (h 38) (((h 34) 2) - 1) (((h 38) (((h 34) 2) - 1)) + 1)) ((h 34) 2) ((((h 34) 4) / 524288) % 256))) 34 2 (((h 34) 2) + 1) = (setO (setO h 34 (fup (h 34) 2 (((h 34) 2) + 1))) 38 (fup (fup (h 38) (((h 34) 2) - 1) (((h 38) (((h 34) 2) - 1)) + 1)) ((h 34) 2) ((((h 34) 4) / 524288) % 256))) from up_can (sOf_ne _ _ (by decide)) rfl ((setO_comm _ _ _ (by decide)).trans (setO_cg rfl rfl))) hF_39 (by decide)
            refine TT_aload_n hK rfl 2 rfl dX8_goOut_115 ?_
            refine TT_dup hK rfl dX8_goOut_116 ?_
            refine gf_X8_33 hK (by decide) rfl (v := (h 34) 4) (rd_ ((sOf_ne _ _ (by decide)).trans (sOf_eq _ _ _)) (fup_ne _ _ (by decide))) dX8_goOut_117 ?_
            refine TT_iload_n hK rfl 0 rfl dX8_goOut_120 ?_
            refine TT_iremn hK (irm (by omega) (by omega)) (by decide) (by first | omega | (simp [up, setR] <;> omega)) (by first | omega | (simp [up, setR] <;> omega)) dX8_goOut_121 ?_
            refine pf_X8_33 hK (by decide) rfl dX8_goOut_122 ?_
            refine TT_hp (h' := setO (setO h 34 (fup (fup (h 34) 2 (((h 34) 2) + 1)) 4 (((h 34) 4) % 524288))) 38 (fup (fup (h 38) (((h 34) 2) - 1) (((h 38) (((h 34) 2) - 1)) + 1)) ((h 34) 2) ((((h 34) 4) / 524288) % 256))) (up_can ((sOf_ne _ _ (by decide)).trans (sOf_eq _ _ _)) rfl ((setO_comm _ _ _ (by decide)).trans (setO_cg (setO_same _ _ _ _) rfl))) ?_
            have hT_41 : TY (setO (setO h 34 (fup (fup (h 34) 2 (((h 34) 2) + 1)) 4 (((h 34) 4) % 524288))) 38 (fup (fup (h 38) (((h 34) 2) - 1) (((h 38) (((h 34) 2) - 1)) + 1)) ((h 34) 2) ((((h 34) 4) / 524288) % 256))) := tu_34_4 hT_40 (show up (setO (setO h 34 (fup (h 34) 2 (((h 34) 2) + 1))) 38 (fup (fup (h 38) (((h 34) 2) - 1) (((h 38) (((h 34) 2) - 1)) + 1)) ((h 34) 2) ((((h 34) 4) / 524288) % 256))) 34 4 (((h 34) 4) % 524288) = (setO (setO h 34 (fup (fup (h 34) 2 (((h 34) 2) + 1)) 4 (((h 34) 4) % 524288))) 38 (fup (fup (h 38) (((h 34) 2) - 1) (((h 38) (((h 34) 2) - 1)) + 1)) ((h 34) 2) ((((h 34) 4) / 524288) % 256))) from up_can ((sOf_ne _ _ (by decide)).trans (sOf_eq _ _ _)) rfl ((setO_comm _ _ _ (by decide)).trans (setO_cg (setO_same _ _ _ _) rfl))) (by omega)
            have hF_41 : FR [34, 38] h (setO (setO h 34 (fup (fup (h 34) 2 (((h 34) 2) + 1)) 4 (((h 34) 4) % 524288))) 38 (fup (fup (h 38) (((h 34) 2) - 1) (((h 38) (((h 34) 2) - 1)) + 1)) ((h 34) 2) ((((h 34) 4) / 524288) % 256))) := FR_up (show up (setO (setO h 34 (fup (h 34) 2 (((h 34) 2) + 1))) 38 (fup (fup (h 38) (((h 34) 2) - 1) (((h 38) (((h 34) 2) - 1)) + 1)) ((h 34) 2) ((((h 34) 4) / 524288) % 256))) 34 4 (((h 34) 4) % 524288) = (setO (setO h 34 (fup (fup (h 34) 2 (((h 34) 2) + 1)) 4 (((h 34) 4) % 524288))) 38 (fup (fup (h 38) (((h 34) 2) - 1) (((h 38) (((h 34) 2) - 1)) + 1)) ((h 34) 2) ((((h 34) 4) / 524288) % 256))) from up_can ((sOf_ne _ _ (by decide)).trans (sOf_eq _ _ _)) rfl ((setO_comm _ _ _ (by decide)).trans (setO_cg (setO_same _ _ _ _) rfl))) hF_40 (by decide)
            refine TT_aload_n hK rfl 2 rfl dX8_goOut_125 ?_
            refine TT_iload_n hK rfl 1 rfl dX8_goOut_126 ?_
            refine TT_sipush hK (by decide) dX8_goOut_127 ?_
            refine TT_icmp_ne hK (tgt := 138) (irm (by omega) (by omega)) (by decide) dX8_goOut_130 (by decide) (fun hb130_42 => ?_) (fun hb130_42 => ?_)
            · refine TT_bipush hK (by decide) dX8_goOut_138 ?_
              refine pf_X8_36 hK (by decide) rfl dX8_goOut_140 ?_
              refine TT_hp (h' := setO (setO h 34 (fup (fup (fup (h 34) 2 (((h 34) 2) + 1)) 4 (((h 34) 4) % 524288)) 5 8)) 38 (fup (fup (h 38) (((h 34) 2) - 1) (((h 38) (((h 34) 2) - 1)) + 1)) ((h 34) 2) ((((h 34) 4) / 524288) % 256))) (up_can ((sOf_ne _ _ (by decide)).trans (sOf_eq _ _ _)) rfl ((setO_comm _ _ _ (by decide)).trans (setO_cg (setO_same _ _ _ _) rfl))) ?_
              have hT_43 : TY (setO (setO h 34 (fup (fup (fup (h 34) 2 (((h 34) 2) + 1)) 4 (((h 34) 4) % 524288)) 5 8)) 38 (fup (fup (h 38) (((h 34) 2) - 1) (((h 38) (((h 34) 2) - 1)) + 1)) ((h 34) 2) ((((h 34) 4) / 524288) % 256))) := tu_34_5 hT_41 (show up (setO (setO h 34 (fup (fup (h 34) 2 (((h 34) 2) + 1)) 4 (((h 34) 4) % 524288))) 38 (fup (fup (h 38) (((h 34) 2) - 1) (((h 38) (((h 34) 2) - 1)) + 1)) ((h 34) 2) ((((h 34) 4) / 524288) % 256))) 34 5 8 = (setO (setO h 34 (fup (fup (fup (h 34) 2 (((h 34) 2) + 1)) 4 (((h 34) 4) % 524288)) 5 8)) 38 (fup (fup (h 38) (((h 34) 2) - 1) (((h 38) (((h 34) 2) - 1)) + 1)) ((h 34) 2) ((((h 34) 4) / 524288) % 256))) from up_can ((sOf_ne _ _ (by decide)).trans (sOf_eq _ _ _)) rfl ((setO_comm _ _ _ (by decide)).trans (setO_cg (setO_same _ _ _ _) rfl))) (by omega)
              have hF_43 : FR [34, 38] h (setO (setO h 34 (fup (fup (fup (h 34) 2 (((h 34) 2) + 1)) 4 (((h 34) 4) % 524288)) 5 8)) 38 (fup (fup (h 38) (((h 34) 2) - 1) (((h 38) (((h 34) 2) - 1)) + 1)) ((h 34) 2) ((((h 34) 4) / 524288) % 256))) := FR_up (show up (setO (setO h 34 (fup (fup (h 34) 2 (((h 34) 2) + 1)) 4 (((h 34) 4) % 524288))) 38 (fup (fup (h 38) (((h 34) 2) - 1) (((h 38) (((h 34) 2) - 1)) + 1)) ((h 34) 2) ((((h 34) 4) / 524288) % 256))) 34 5 8 = (setO (setO h 34 (fup (fup (fup (h 34) 2 (((h 34) 2) + 1)) 4 (((h 34) 4) % 524288)) 5 8)) 38 (fup (fup (h 38) (((h 34) 2) - 1) (((h 38) (((h 34) 2) - 1)) + 1)) ((h 34) 2) ((((h 34) 4) / 524288) % 256))) from up_can ((sOf_ne _ _ (by decide)).trans (sOf_eq _ _ _)) rfl ((setO_comm _ _ _ (by decide)).trans (setO_cg (setO_same _ _ _ _) rfl))) hF_41 (by decide)
              refine TT_vret hK hQ ?_ dX8_goOut_143
              have e44_34_5 : (setO (setO h 34 (fup (fup (fup (h 34) 2 (((h 34) 2) + 1)) 4 (((h 34) 4) % 524288)) 5 8)) 38 (fup (fup (h 38) (((h 34) 2) - 1) (((h 38) (((h 34) 2) - 1)) + 1)) ((h 34) 2) ((((h 34) 4) / 524288) % 256))) 34 5 = 8 := rd_ ((sOf_ne _ _ (by decide)).trans (sOf_eq _ _ _)) (fup_eq _ _ _)
              have e45_34_2 : (setO (setO h 34 (fup (fup (fup (h 34) 2 (((h 34) 2) + 1)) 4 (((h 34) 4) % 524288)) 5 8)) 38 (fup (fup (h 38) (((h 34) 2) - 1) (((h 38) (((h 34) 2) - 1)) + 1)) ((h 34) 2) ((((h 34) 4) / 524288) % 256))) 34 2 = ((h 34) 2) + 1 := rd_ ((sOf_ne _ _ (by decide)).trans (sOf_eq _ _ _)) ((fup_ne _ _ (by decide)).trans ((fup_ne _ _ (by decide)).trans (fup_eq _ _ _)))
              have e46_34_3 : (setO (setO h 34 (fup (fup (fup (h 34) 2 (((h 34) 2) + 1)) 4 (((h 34) 4) % 524288)) 5 8)) 38 (fup (fup (h 38) (((h 34) 2) - 1) (((h 38) (((h 34) 2) - 1)) + 1)) ((h 34) 2) ((((h 34) 4) / 524288) % 256))) 34 3 = (h 34) 3 := rd_ ((sOf_ne _ _ (by decide)).trans (sOf_eq _ _ _)) ((fup_ne _ _ (by decide)).trans ((fup_ne _ _ (by decide)).trans (fup_ne _ _ (by decide))))
              have e47_34_4 : (setO (setO h 34 (fup (fup (fup (h 34) 2 (((h 34) 2) + 1)) 4 (((h 34) 4) % 524288)) 5 8)) 38 (fup (fup (h 38) (((h 34) 2) - 1) (((h 38) (((h 34) 2) - 1)) + 1)) ((h 34) 2) ((((h 34) 4) / 524288) % 256))) 34 4 = ((h 34) 4) % 524288 := rd_ ((sOf_ne _ _ (by decide)).trans (sOf_eq _ _ _)) ((fup_ne _ _ (by decide)).trans (fup_eq _ _ _))
              have e48_34_5 : (setO (setO h 34 (fup (fup (fup (h 34) 2 (((h 34) 2) + 1)) 4 (((h 34) 4) % 524288)) 5 8)) 38 (fup (fup (h 38) (((h 34) 2) - 1) (((h 38) (((h 34) 2) - 1)) + 1)) ((h 34) 2) ((((h 34) 4) / 524288) % 256))) 34 5 = 8 := rd_ ((sOf_ne _ _ (by decide)).trans (sOf_eq _ _ _)) (fup_eq _ _ _)
              have e49_34_2 : (setO (setO h 34 (fup (fup (fup (h 34) 2 (((h 34) 2) + 1)) 4 (((h 34) 4) % 524288)) 5 8)) 38 (fup (fup (h 38) (((h 34) 2) - 1) (((h 38) (((h 34) 2) - 1)) + 1)) ((h 34) 2) ((((h 34) 4) / 524288) % 256))) 34 2 = ((h 34) 2) + 1 := rd_ ((sOf_ne _ _ (by decide)).trans (sOf_eq _ _ _)) ((fup_ne _ _ (by decide)).trans ((fup_ne _ _ (by decide)).trans (fup_eq _ _ _)))
              have e50_38 : (setO (setO h 34 (fup (fup (fup (h 34) 2 (((h 34) 2) + 1)) 4 (((h 34) 4) % 524288)) 5 8)) 38 (fup (fup (h 38) (((h 34) 2) - 1) (((h 38) (((h 34) 2) - 1)) + 1)) ((h 34) 2) ((((h 34) 4) / 524288) % 256))) 38 = fup (fup (h 38) (((h 34) 2) - 1) (((h 38) (((h 34) 2) - 1)) + 1)) ((h 34) 2) ((((h 34) 4) / 524288) % 256) := sOf_eq _ _ _
              exact ⟨⟨hT_43, hF_43⟩, rfl, (by rewrite [e44_34_5]; omega), (by rewrite [e45_34_2]; omega), (by rewrite [e46_34_3]; omega), (by rewrite [e47_34_4]; first | rw [outS_1 (by omega)] | rw [outS_2 (by omega) (by omega)] | rw [outS_3 (by omega) (by omega) (by omega)] | rw [outS_4 (by omega) (by omega) (by omega)]), (by rewrite [e48_34_5]; first | rw [outS_1 (by omega)] | rw [outS_2 (by omega) (by omega)] | rw [outS_3 (by omega) (by omega) (by omega)] | rw [outS_4 (by omega) (by omega) (by omega)]), (by rewrite [e49_34_2]; first | rw [outS_1 (by omega)] | rw [outS_2 (by omega) (by omega)] | rw [outS_3 (by omega) (by omega) (by omega)] | rw [outS_4 (by omega) (by omega) (by omega)]), (by rewrite [e50_38]; first | rw [outS_1 (by omega)] | rw [outS_2 (by omega) (by omega)] | rw [outS_3 (by omega) (by omega) (by omega)] | rw [outS_4 (by omega) (by omega) (by omega)])⟩
            · exfalso; omega
        · exfalso; omega
      · refine TT_aload_n hK rfl 1 rfl dX8_goOut_50 ?_
        refine TT_dup hK rfl dX8_goOut_51 ?_
        refine gf_X8_33 hK (by decide) rfl (v := (h 34) 4) (rd_ (sOf_ne _ _ (by decide)) rfl) dX8_goOut_52 ?_
        refine TT_ldc hK lc_X8_57 dX8_goOut_55 ?_
        refine TT_iand hK dX8_goOut_57 ?_
        refine TT_cgI (iand_m ((h 34) 4) 27 (by decide)) ?_
        show TT K ly 0 0 58 [(1, vI (((h 38) (((h 34) 2) - 1)) + 1)), (0, vR 34)] (vI (((h 34) 4) % 134217728) :: [vR 34]) (setO h 38 (fup (h 38) (((h 34) 2) - 1) (((h 38) (((h 34) 2) - 1)) + 1)))
        refine TT_cgI (b := h 34 4 - 134217728) (by omega) ?_
        refine pf_X8_33 hK (by decide) rfl dX8_goOut_58 ?_
        refine TT_hp (h' := setO (setO h 34 (fup (h 34) 4 (h 34 4 - 134217728))) 38 (fup (h 38) (((h 34) 2) - 1) (((h 38) (((h 34) 2) - 1)) + 1))) (up_can (sOf_ne _ _ (by decide)) rfl ((setO_comm _ _ _ (by decide)).trans (setO_cg rfl rfl))) ?_
        have hT_51 : TY (setO (setO h 34 (fup (h 34) 4 (h 34 4 - 134217728))) 38 (fup (h 38) (((h 34) 2) - 1) (((h 38) (((h 34) 2) - 1)) + 1))) := tu_34_4 hT_35 (show up (setO h 38 (fup (h 38) (((h 34) 2) - 1) (((h 38) (((h 34) 2) - 1)) + 1))) 34 4 (h 34 4 - 134217728) = (setO (setO h 34 (fup (h 34) 4 (h 34 4 - 134217728))) 38 (fup (h 38) (((h 34) 2) - 1) (((h 38) (((h 34) 2) - 1)) + 1))) from up_can (sOf_ne _ _ (by decide)) rfl ((setO_comm _ _ _ (by decide)).trans (setO_cg rfl rfl))) (by omega)
        have hF_51 : FR [34, 38] h (setO (setO h 34 (fup (h 34) 4 (h 34 4 - 134217728))) 38 (fup (h 38) (((h 34) 2) - 1) (((h 38) (((h 34) 2) - 1)) + 1))) := FR_up (show up (setO h 38 (fup (h 38) (((h 34) 2) - 1) (((h 38) (((h 34) 2) - 1)) + 1))) 34 4 (h 34 4 - 134217728) = (setO (setO h 34 (fup (h 34) 4 (h 34 4 - 134217728))) 38 (fup (h 38) (((h 34) 2) - 1) (((h 38) (((h 34) 2) - 1)) + 1))) from up_can (sOf_ne _ _ (by decide)) rfl ((setO_comm _ _ _ (by decide)).trans (setO_cg rfl rfl))) hF_35 (by decide)
        refine TT_iload_n hK rfl 0 rfl dX8_goOut_61 ?_
        refine TT_sipush hK (by decide) dX8_goOut_62 ?_
        refine TT_icmp_ne hK (tgt := 73) (irm (by omega) (by omega)) (by decide) dX8_goOut_65 (by decide) (fun hb65_52 => ?_) (fun hb65_52 => ?_)
        · exfalso; omega
        · refine TT_ldc hK lc_X8_58 dX8_goOut_68 ?_
          refine TT_goto hK (tgt := 75) dX8_goOut_70 (by decide) ?_
          refine TT_istore_n hK rfl (lv' := [(2, vI 1048576), (1, vI (((h 38) (((h 34) 2) - 1)) + 1)), (0, vR 34)]) (by decide) rfl dX8_goOut_75 ?_
          refine TT_aload_n hK rfl 2 rfl dX8_goOut_76 ?_
          refine gf_X8_25 hK (by decide) rfl (v := (h 34) 2) (rd_ ((sOf_ne _ _ (by decide)).trans (sOf_eq _ _ _)) (fup_ne _ _ (by decide))) dX8_goOut_77 ?_
          refine TT_sipush hK (by decide) dX8_goOut_80 ?_
          refine TT_icmp_ge hK (tgt := 115) (irm (by omega) (by omega)) (by decide) dX8_goOut_83 (by decide) (fun hb83_53 => ?_) (fun hb83_53 => ?_)
          · omega
          · refine TT_aload_n hK rfl 2 rfl dX8_goOut_86 ?_
            refine gf_X8_18 hK (by decide) rfl (q := 38) rfl rfl dX8_goOut_87 ?_
            refine TT_aload_n hK rfl 2 rfl dX8_goOut_90 ?_
            refine gf_X8_25 hK (by decide) rfl (v := (h 34) 2) (rd_ ((sOf_ne _ _ (by decide)).trans (sOf_eq _ _ _)) (fup_ne _ _ (by decide))) dX8_goOut_91 ?_
            refine TT_aload_n hK rfl 2 rfl dX8_goOut_94 ?_
            refine gf_X8_33 hK (by decide) rfl (v := h 34 4 - 134217728) (rd_ ((sOf_ne _ _ (by decide)).trans (sOf_eq _ _ _)) (fup_eq _ _ _)) dX8_goOut_95 ?_
            have r54 := ty_34_4 (v := h 34 4 - 134217728) hT_51 (rd_ ((sOf_ne _ _ (by decide)).trans (sOf_eq _ _ _)) (fup_eq _ _ _))
            refine TT_iload_n hK rfl 0 rfl dX8_goOut_98 ?_
            refine TT_idivn hK (irm (by omega) (by omega)) (by decide) (by first | omega | (simp [up, setR] <;> omega)) (by first | omega | (simp [up, setR] <;> omega)) dX8_goOut_99 ?_
            refine TT_sipush hK (by decide) dX8_goOut_100 ?_
            refine TT_iand hK dX8_goOut_103 ?_
            refine TT_cgI (iand_m ((h 34 4 - 134217728) / 1048576) 8 (by decide)) ?_
            show TT K ly 0 0 104 [(2, vI 1048576), (1, vI (((h 38) (((h 34) 2) - 1)) + 1)), (0, vR 34)] (vI (((h 34 4 - 134217728) / 1048576) % 256) :: [vI ((h 34) 2), vR 38]) (setO (setO h 34 (fup (h 34) 4 (h 34 4 - 134217728))) 38 (fup (h 38) (((h 34) 2) - 1) (((h 38) (((h 34) 2) - 1)) + 1)))
            refine TT_iast hK (o := 38) (n := 1024) (by decide) rfl (by omega) (by omega) dX8_goOut_104 ?_
            refine TT_hp (h' := setO (setO h 34 (fup (h 34) 4 (h 34 4 - 134217728))) 38 (fup (fup (h 38) (((h 34) 2) - 1) (((h 38) (((h 34) 2) - 1)) + 1)) ((h 34) 2) (((h 34 4 - 134217728) / 1048576) % 256))) (up_can (sOf_eq _ _ _) rfl (setO_same _ _ _ _)) ?_
            have hT_55 : TY (setO (setO h 34 (fup (h 34) 4 (h 34 4 - 134217728))) 38 (fup (fup (h 38) (((h 34) 2) - 1) (((h 38) (((h 34) 2) - 1)) + 1)) ((h 34) 2) (((h 34 4 - 134217728) / 1048576) % 256))) := tu_38 hT_51 (show up (setO (setO h 34 (fup (h 34) 4 (h 34 4 - 134217728))) 38 (fup (h 38) (((h 34) 2) - 1) (((h 38) (((h 34) 2) - 1)) + 1))) 38 ((h 34) 2) (((h 34 4 - 134217728) / 1048576) % 256) = (setO (setO h 34 (fup (h 34) 4 (h 34 4 - 134217728))) 38 (fup (fup (h 38) (((h 34) 2) - 1) (((h 38) (((h 34) 2) - 1)) + 1)) ((h 34) 2) (((h 34 4 - 134217728) / 1048576) % 256))) from up_can (sOf_eq _ _ _) rfl (setO_same _ _ _ _)) (by omega)
            have hF_55 : FR [34, 38] h (setO (setO h 34 (fup (h 34) 4 (h 34 4 - 134217728))) 38 (fup (fup (h 38) (((h 34) 2) - 1) (((h 38) (((h 34) 2) - 1)) + 1)) ((h 34) 2) (((h 34 4 - 134217728) / 1048576) % 256))) := FR_up (show up (setO (setO h 34 (fup (h 34) 4 (h 34 4 - 134217728))) 38 (fup (h 38) (((h 34) 2) - 1) (((h 38) (((h 34) 2) - 1)) + 1))) 38 ((h 34) 2) (((h 34 4 - 134217728) / 1048576) % 256) = (setO (setO h 34 (fup (h 34) 4 (h 34 4 - 134217728))) 38 (fup (fup (h 38) (((h 34) 2) - 1) (((h 38) (((h 34) 2) - 1)) + 1)) ((h 34) 2) (((h 34 4 - 134217728) / 1048576) % 256))) from up_can (sOf_eq _ _ _) rfl (setO_same _ _ _ _)) hF_51 (by decide)
            refine TT_aload_n hK rfl 2 rfl dX8_goOut_105 ?_
            refine TT_dup hK rfl dX8_goOut_106 ?_
            refine gf_X8_25 hK (by decide) rfl (v := (h 34) 2) (rd_ ((sOf_ne _ _ (by decide)).trans (sOf_eq _ _ _)) (fup_ne _ _ (by decide))) dX8_goOut_107 ?_
            refine TT_iconst hK dX8_goOut_110 ?_
            refine TT_iadd hK dX8_goOut_111 ?_
            refine pf_X8_25 hK (by decide) rfl dX8_goOut_112 ?_
            refine TT_hp (h' := setO (setO h 34 (fup (fup (h 34) 2 (((h 34) 2) + 1)) 4 (h 34 4 - 134217728))) 38 (fup (fup (h 38) (((h 34) 2) - 1) (((h 38) (((h 34) 2) - 1)) + 1)) ((h 34) 2) (((h 34 4 - 134217728) / 1048576) % 256))) (up_can ((sOf_ne _ _ (by decide)).trans (sOf_eq _ _ _)) (fup_comm _ _ _ (by decide)) ((setO_comm _ _ _ (by decide)).trans (setO_cg (setO_same _ _ _ _) rfl))) ?_
            have hT_56 : TY (setO (setO h 34 (fup (fup (h 34) 2 (((h 34) 2) + 1)) 4 (h 34 4 - 134217728))) 38 (fup (fup (h 38) (((h 34) 2) - 1) (((h 38) (((h 34) 2) - 1)) + 1)) ((h 34) 2) (((h 34 4 - 134217728) / 1048576) % 256))) := tu_34_2 hT_55 (show up (setO (setO h 34 (fup (h 34) 4 (h 34 4 - 134217728))) 38 (fup (fup (h 38) (((h 34) 2) - 1) (((h 38) (((h 34) 2) - 1)) + 1)) ((h 34) 2) (((h 34 4 - 134217728) / 1048576) % 256))) 34 2 (((h 34) 2) + 1) = (setO (setO h 34 (fup (fup (h 34) 2 (((h 34) 2) + 1)) 4 (h 34 4 - 134217728))) 38 (fup (fup (h 38) (((h 34) 2) - 1) (((h 38) (((h 34) 2) - 1)) + 1)) ((h 34) 2) (((h 34 4 - 134217728) / 1048576) % 256))) from up_can ((sOf_ne _ _ (by decide)).trans (sOf_eq _ _ _)) (fup_comm _ _ _ (by decide)) ((setO_comm _ _ _ (by decide)).trans (setO_cg (setO_same _ _ _ _) rfl))) (by omega)
            have hF_56 : FR [34, 38] h (setO (setO h 34 (fup (fup (h 34) 2 (((h 34) 2) + 1)) 4 (h 34 4 - 134217728))) 38 (fup (fup (h 38) (((h 34) 2) - 1) (((h 38) (((h 34) 2) - 1)) + 1)) ((h 34) 2) (((h 34 4 - 134217728) / 1048576) % 256))) := FR_up (show up (setO (setO h 34 (fup (h 34) 4 (h 34 4 - 134217728))) 38 (fup (fup (h 38) (((h 34) 2) - 1) (((h 38) (((h 34) 2) - 1)) + 1)) ((h 34) 2) (((h 34 4 - 134217728) / 1048576) % 256))) 34 2 (((h 34) 2) + 1) = (setO (setO h 34 (fup (fup (h 34) 2 (((h 34) 2) + 1)) 4 (h 34 4 - 134217728))) 38 (fup (fup (h 38) (((h 34) 2) - 1) (((h 38) (((h 34) 2) - 1)) + 1)) ((h 34) 2) (((h 34 4 - 134217728) / 1048576) % 256))) from up_can ((sOf_ne _ _ (by decide)).trans (sOf_eq _ _ _)) (fup_comm _ _ _ (by decide)) ((setO_comm _ _ _ (by decide)).trans (setO_cg (setO_same _ _ _ _) rfl))) hF_55 (by decide)
            refine TT_aload_n hK rfl 2 rfl dX8_goOut_115 ?_
            refine TT_dup hK rfl dX8_goOut_116 ?_
            refine gf_X8_33 hK (by decide) rfl (v := h 34 4 - 134217728) (rd_ ((sOf_ne _ _ (by decide)).trans (sOf_eq _ _ _)) (fup_eq _ _ _)) dX8_goOut_117 ?_
            refine TT_iload_n hK rfl 0 rfl dX8_goOut_120 ?_
            refine TT_iremn hK (irm (by omega) (by omega)) (by decide) (by first | omega | (simp [up, setR] <;> omega)) (by first | omega | (simp [up, setR] <;> omega)) dX8_goOut_121 ?_
            refine pf_X8_33 hK (by decide) rfl dX8_goOut_122 ?_
            refine TT_hp (h' := setO (setO h 34 (fup (fup (h 34) 2 (((h 34) 2) + 1)) 4 ((h 34 4 - 134217728) % 1048576))) 38 (fup (fup (h 38) (((h 34) 2) - 1) (((h 38) (((h 34) 2) - 1)) + 1)) ((h 34) 2) (((h 34 4 - 134217728) / 1048576) % 256))) (up_can ((sOf_ne _ _ (by decide)).trans (sOf_eq _ _ _)) (fup_same _ _ _ _) ((setO_comm _ _ _ (by decide)).trans (setO_cg (setO_same _ _ _ _) rfl))) ?_
            have hT_57 : TY (setO (setO h 34 (fup (fup (h 34) 2 (((h 34) 2) + 1)) 4 ((h 34 4 - 134217728) % 1048576))) 38 (fup (fup (h 38) (((h 34) 2) - 1) (((h 38) (((h 34) 2) - 1)) + 1)) ((h 34) 2) (((h 34 4 - 134217728) / 1048576) % 256))) := tu_34_4 hT_56 (show up (setO (setO h 34 (fup (fup (h 34) 2 (((h 34) 2) + 1)) 4 (h 34 4 - 134217728))) 38 (fup (fup (h 38) (((h 34) 2) - 1) (((h 38) (((h 34) 2) - 1)) + 1)) ((h 34) 2) (((h 34 4 - 134217728) / 1048576) % 256))) 34 4 ((h 34 4 - 134217728) % 1048576) = (setO (setO h 34 (fup (fup (h 34) 2 (((h 34) 2) + 1)) 4 ((h 34 4 - 134217728) % 1048576))) 38 (fup (fup (h 38) (((h 34) 2) - 1) (((h 38) (((h 34) 2) - 1)) + 1)) ((h 34) 2) (((h 34 4 - 134217728) / 1048576) % 256))) from up_can ((sOf_ne _ _ (by decide)).trans (sOf_eq _ _ _)) (fup_same _ _ _ _) ((setO_comm _ _ _ (by decide)).trans (setO_cg (setO_same _ _ _ _) rfl))) (by omega)
            have hF_57 : FR [34, 38] h (setO (setO h 34 (fup (fup (h 34) 2 (((h 34) 2) + 1)) 4 ((h 34 4 - 134217728) % 1048576))) 38 (fup (fup (h 38) (((h 34) 2) - 1) (((h 38) (((h 34) 2) - 1)) + 1)) ((h 34) 2) (((h 34 4 - 134217728) / 1048576) % 256))) := FR_up (show up (setO (setO h 34 (fup (fup (h 34) 2 (((h 34) 2) + 1)) 4 (h 34 4 - 134217728))) 38 (fup (fup (h 38) (((h 34) 2) - 1) (((h 38) (((h 34) 2) - 1)) + 1)) ((h 34) 2) (((h 34 4 - 134217728) / 1048576) % 256))) 34 4 ((h 34 4 - 134217728) % 1048576) = (setO (setO h 34 (fup (fup (h 34) 2 (((h 34) 2) + 1)) 4 ((h 34 4 - 134217728) % 1048576))) 38 (fup (fup (h 38) (((h 34) 2) - 1) (((h 38) (((h 34) 2) - 1)) + 1)) ((h 34) 2) (((h 34 4 - 134217728) / 1048576) % 256))) from up_can ((sOf_ne _ _ (by decide)).trans (sOf_eq _ _ _)) (fup_same _ _ _ _) ((setO_comm _ _ _ (by decide)).trans (setO_cg (setO_same _ _ _ _) rfl))) hF_56 (by decide)
            refine TT_aload_n hK rfl 2 rfl dX8_goOut_125 ?_
            refine TT_iload_n hK rfl 1 rfl dX8_goOut_126 ?_
            refine TT_sipush hK (by decide) dX8_goOut_127 ?_
            refine TT_icmp_ne hK (tgt := 138) (irm (by omega) (by omega)) (by decide) dX8_goOut_130 (by decide) (fun hb130_58 => ?_) (fun hb130_58 => ?_)
            · exfalso; omega
            · refine TT_bipush hK (by decide) dX8_goOut_133 ?_
              refine TT_goto hK (tgt := 140) dX8_goOut_135 (by decide) ?_
              refine pf_X8_36 hK (by decide) rfl dX8_goOut_140 ?_
              refine TT_hp (h' := setO (setO h 34 (fup (fup (fup (h 34) 2 (((h 34) 2) + 1)) 4 ((h 34 4 - 134217728) % 1048576)) 5 7)) 38 (fup (fup (h 38) (((h 34) 2) - 1) (((h 38) (((h 34) 2) - 1)) + 1)) ((h 34) 2) (((h 34 4 - 134217728) / 1048576) % 256))) (up_can ((sOf_ne _ _ (by decide)).trans (sOf_eq _ _ _)) rfl ((setO_comm _ _ _ (by decide)).trans (setO_cg (setO_same _ _ _ _) rfl))) ?_
              have hT_59 : TY (setO (setO h 34 (fup (fup (fup (h 34) 2 (((h 34) 2) + 1)) 4 ((h 34 4 - 134217728) % 1048576)) 5 7)) 38 (fup (fup (h 38) (((h 34) 2) - 1) (((h 38) (((h 34) 2) - 1)) + 1)) ((h 34) 2) (((h 34 4 - 134217728) / 1048576) % 256))) := tu_34_5 hT_57 (show up (setO (setO h 34 (fup (fup (h 34) 2 (((h 34) 2) + 1)) 4 ((h 34 4 - 134217728) % 1048576))) 38 (fup (fup (h 38) (((h 34) 2) - 1) (((h 38) (((h 34) 2) - 1)) + 1)) ((h 34) 2) (((h 34 4 - 134217728) / 1048576) % 256))) 34 5 7 = (setO (setO h 34 (fup (fup (fup (h 34) 2 (((h 34) 2) + 1)) 4 ((h 34 4 - 134217728) % 1048576)) 5 7)) 38 (fup (fup (h 38) (((h 34) 2) - 1) (((h 38) (((h 34) 2) - 1)) + 1)) ((h 34) 2) (((h 34 4 - 134217728) / 1048576) % 256))) from up_can ((sOf_ne _ _ (by decide)).trans (sOf_eq _ _ _)) rfl ((setO_comm _ _ _ (by decide)).trans (setO_cg (setO_same _ _ _ _) rfl))) (by omega)
              have hF_59 : FR [34, 38] h (setO (setO h 34 (fup (fup (fup (h 34) 2 (((h 34) 2) + 1)) 4 ((h 34 4 - 134217728) % 1048576)) 5 7)) 38 (fup (fup (h 38) (((h 34) 2) - 1) (((h 38) (((h 34) 2) - 1)) + 1)) ((h 34) 2) (((h 34 4 - 134217728) / 1048576) % 256))) := FR_up (show up (setO (setO h 34 (fup (fup (h 34) 2 (((h 34) 2) + 1)) 4 ((h 34 4 - 134217728) % 1048576))) 38 (fup (fup (h 38) (((h 34) 2) - 1) (((h 38) (((h 34) 2) - 1)) + 1)) ((h 34) 2) (((h 34 4 - 134217728) / 1048576) % 256))) 34 5 7 = (setO (setO h 34 (fup (fup (fup (h 34) 2 (((h 34) 2) + 1)) 4 ((h 34 4 - 134217728) % 1048576)) 5 7)) 38 (fup (fup (h 38) (((h 34) 2) - 1) (((h 38) (((h 34) 2) - 1)) + 1)) ((h 34) 2) (((h 34 4 - 134217728) / 1048576) % 256))) from up_can ((sOf_ne _ _ (by decide)).trans (sOf_eq _ _ _)) rfl ((setO_comm _ _ _ (by decide)).trans (setO_cg (setO_same _ _ _ _) rfl))) hF_57 (by decide)
              refine TT_vret hK hQ ?_ dX8_goOut_143
              have e60_34_5 : (setO (setO h 34 (fup (fup (fup (h 34) 2 (((h 34) 2) + 1)) 4 ((h 34 4 - 134217728) % 1048576)) 5 7)) 38 (fup (fup (h 38) (((h 34) 2) - 1) (((h 38) (((h 34) 2) - 1)) + 1)) ((h 34) 2) (((h 34 4 - 134217728) / 1048576) % 256))) 34 5 = 7 := rd_ ((sOf_ne _ _ (by decide)).trans (sOf_eq _ _ _)) (fup_eq _ _ _)
              have e61_34_2 : (setO (setO h 34 (fup (fup (fup (h 34) 2 (((h 34) 2) + 1)) 4 ((h 34 4 - 134217728) % 1048576)) 5 7)) 38 (fup (fup (h 38) (((h 34) 2) - 1) (((h 38) (((h 34) 2) - 1)) + 1)) ((h 34) 2) (((h 34 4 - 134217728) / 1048576) % 256))) 34 2 = ((h 34) 2) + 1 := rd_ ((sOf_ne _ _ (by decide)).trans (sOf_eq _ _ _)) ((fup_ne _ _ (by decide)).trans ((fup_ne _ _ (by decide)).trans (fup_eq _ _ _)))
              have e62_34_3 : (setO (setO h 34 (fup (fup (fup (h 34) 2 (((h 34) 2) + 1)) 4 ((h 34 4 - 134217728) % 1048576)) 5 7)) 38 (fup (fup (h 38) (((h 34) 2) - 1) (((h 38) (((h 34) 2) - 1)) + 1)) ((h 34) 2) (((h 34 4 - 134217728) / 1048576) % 256))) 34 3 = (h 34) 3 := rd_ ((sOf_ne _ _ (by decide)).trans (sOf_eq _ _ _)) ((fup_ne _ _ (by decide)).trans ((fup_ne _ _ (by decide)).trans (fup_ne _ _ (by decide))))
              have e63_34_4 : (setO (setO h 34 (fup (fup (fup (h 34) 2 (((h 34) 2) + 1)) 4 ((h 34 4 - 134217728) % 1048576)) 5 7)) 38 (fup (fup (h 38) (((h 34) 2) - 1) (((h 38) (((h 34) 2) - 1)) + 1)) ((h 34) 2) (((h 34 4 - 134217728) / 1048576) % 256))) 34 4 = (h 34 4 - 134217728) % 1048576 := rd_ ((sOf_ne _ _ (by decide)).trans (sOf_eq _ _ _)) ((fup_ne _ _ (by decide)).trans (fup_eq _ _ _))
              have e64_34_5 : (setO (setO h 34 (fup (fup (fup (h 34) 2 (((h 34) 2) + 1)) 4 ((h 34 4 - 134217728) % 1048576)) 5 7)) 38 (fup (fup (h 38) (((h 34) 2) - 1) (((h 38) (((h 34) 2) - 1)) + 1)) ((h 34) 2) (((h 34 4 - 134217728) / 1048576) % 256))) 34 5 = 7 := rd_ ((sOf_ne _ _ (by decide)).trans (sOf_eq _ _ _)) (fup_eq _ _ _)
              have e65_34_2 : (setO (setO h 34 (fup (fup (fup (h 34) 2 (((h 34) 2) + 1)) 4 ((h 34 4 - 134217728) % 1048576)) 5 7)) 38 (fup (fup (h 38) (((h 34) 2) - 1) (((h 38) (((h 34) 2) - 1)) + 1)) ((h 34) 2) (((h 34 4 - 134217728) / 1048576) % 256))) 34 2 = ((h 34) 2) + 1 := rd_ ((sOf_ne _ _ (by decide)).trans (sOf_eq _ _ _)) ((fup_ne _ _ (by decide)).trans ((fup_ne _ _ (by decide)).trans (fup_eq _ _ _)))
              have e66_38 : (setO (setO h 34 (fup (fup (fup (h 34) 2 (((h 34) 2) + 1)) 4 ((h 34 4 - 134217728) % 1048576)) 5 7)) 38 (fup (fup (h 38) (((h 34) 2) - 1) (((h 38) (((h 34) 2) - 1)) + 1)) ((h 34) 2) (((h 34 4 - 134217728) / 1048576) % 256))) 38 = fup (fup (h 38) (((h 34) 2) - 1) (((h 38) (((h 34) 2) - 1)) + 1)) ((h 34) 2) (((h 34 4 - 134217728) / 1048576) % 256) := sOf_eq _ _ _
              exact ⟨⟨hT_59, hF_59⟩, rfl, (by rewrite [e60_34_5]; omega), (by rewrite [e61_34_2]; omega), (by rewrite [e62_34_3]; omega), (by rewrite [e63_34_4]; first | rw [outS_1 (by omega)] | rw [outS_2 (by omega) (by omega)] | rw [outS_3 (by omega) (by omega) (by omega)] | rw [outS_4 (by omega) (by omega) (by omega)]), (by rewrite [e64_34_5]; first | rw [outS_1 (by omega)] | rw [outS_2 (by omega) (by omega)] | rw [outS_3 (by omega) (by omega) (by omega)] | rw [outS_4 (by omega) (by omega) (by omega)]), (by rewrite [e65_34_2]; first | rw [outS_1 (by omega)] | rw [outS_2 (by omega) (by omega)] | rw [outS_3 (by omega) (by omega) (by omega)] | rw [outS_4 (by omega) (by omega) (by omega)]), (by rewrite [e66_38]; first | rw [outS_1 (by omega)] | rw [outS_2 (by omega) (by omega)] | rw [outS_3 (by omega) (by omega) (by omega)] | rw [outS_4 (by omega) (by omega) (by omega)])⟩
set_option maxRecDepth 20000 in
theorem s_mend_e (h : Hp_) (hT : TY h) (ht : 1 ≤ (h 34 5)) (hl : 1 ≤ (h 34 2)) (hq : MQ_ (h 34 3) (h 34 4) (h 34 5) (h 34 2) (h 38)) (hn : (h 34 2) ≤ 1019) : Ctr yX8_mend cX8_mend 2 none (rmd 1) ly ly 0 0 [vR 34] h (fun r h' => (TY h' ∧ FR [34, 38] h h') ∧ r = none ∧ (1 ≤ (h' 34 5)) ∧ (1 ≤ (h' 34 2)) ∧ (((h' 34 3), (h' 34 4), (h' 34 5), (h' 34 2), (h' 38)) = mendS 15 (h 34 3) (h 34 4) (h 34 5) (h 34 2) (h 38))) := by
  refine Ctr_of (by decide) (Nat.le_of_ble_eq_true rfl) ⟨Nat.le_refl _, Nat.le_refl _⟩ (fun K hK hQ _ => ?_)
  show TT K ly 0 0 0 [(0, vR 34)] [] h
  have hF : FR [34, 38] h h := FR_rf _ _
  refine TT_iconst hK dX8_mend_0 ?_
  refine TT_istore_n hK rfl (lv' := [(1, vI 0), (0, vR 34)]) (by decide) rfl dX8_mend_1 ?_
  have L2_1 : ∀ (k1 : Nat) (k : Int) (w2_1 : Hp_), TY w2_1 → FR [34, 38] h w2_1 → (0 ≤ k ∧ k ≤ 15) → (1 ≤ (w2_1 34 5)) → (1 ≤ (w2_1 34 2)) → (k ≤ 15) → (MIE_ (15 - k).toNat (w2_1 34 3) (w2_1 34 4) (w2_1 34 5) (w2_1 34 2) (w2_1 38) (mendS 15 (h 34 3) (h 34 4) (h 34 5) (h 34 2) (h 38)) (7 * h 34 2 - h 34 5 + 15)) → ((15 : Int) - k).toNat < k1 → TT K ly 0 0 2 [(0, vR 34), (1, vI k)] [] w2_1 := by
    intro k1
    induction k1 with
    | zero => intro k w2_1 hT2_1 hF2_1 hk hv1 hv2 hk15 hM hk1; exact absurd hk1 (Nat.not_lt_zero _)
    | succ k1 ih1 =>
      intro k w2_1 hT2_1 hF2_1 hk hv1 hv2 hk15 hM hk1
      have hcr := hM.2.2.2.c_r
      obtain ⟨m1, m2, m3, m4, m5, m6, m7, m8, m9⟩ := hM.2.2.2
      have hX2 := hM.2.2.1
      have hq5 := hq.2.2.2.2.1
      have hq4 := hq.2.2.2.1
      refine TT_iload_n hK rfl 1 rfl dX8_mend_2 ?_
      refine TT_bipush hK (by decide) dX8_mend_3 ?_
      refine TT_icmp_ge hK (tgt := 64) (irm (by omega) (by omega)) (by decide) dX8_mend_5 (by decide) (fun hb5_2 => ?_) (fun hb5_2 => ?_)
      · refine TT_vret hK hQ ?_ dX8_mend_64
        have e3_34_5 : w2_1 34 5 = (w2_1 34) 5 := rfl
        have e4_34_2 : w2_1 34 2 = (w2_1 34) 2 := rfl
        have e5_34_2 : w2_1 34 2 = (w2_1 34) 2 := rfl
        have e6_34_3 : w2_1 34 3 = (w2_1 34) 3 := rfl
        have e7_34_4 : w2_1 34 4 = (w2_1 34) 4 := rfl
        have e8_34_5 : w2_1 34 5 = (w2_1 34) 5 := rfl
        exact ⟨⟨hT2_1, hF2_1⟩, rfl, (by rewrite [e3_34_5]; omega), (by rewrite [e4_34_2]; omega), (by rewrite [e5_34_2, e6_34_3, e7_34_4, e8_34_5]; exact MI_done hM (by first | omega | (have h0 : (15 - k).toNat = 0 := (by omega); rw [h0] at hM; exact MI_z hM)))⟩
      · refine TT_aload_n hK rfl 0 rfl dX8_mend_8 ?_
        refine gf_X8_30 hK (by decide) rfl (v := (w2_1 34) 3) rfl dX8_mend_9 ?_
        have r9 := ty_34_3 (v := (w2_1 34) 3) hT2_1 rfl
        refine TT_ldc hK lc_X8_29 dX8_mend_12 ?_
        refine TT_icmp_ge hK (tgt := 64) (irm (by omega) (by omega)) (by decide) dX8_mend_14 (by decide) (fun hb14_10 => ?_) (fun hb14_10 => ?_)
        · refine TT_vret hK hQ ?_ dX8_mend_64
          have e11_34_5 : w2_1 34 5 = (w2_1 34) 5 := rfl
          have e12_34_2 : w2_1 34 2 = (w2_1 34) 2 := rfl
          have e13_34_2 : w2_1 34 2 = (w2_1 34) 2 := rfl
          have e14_34_3 : w2_1 34 3 = (w2_1 34) 3 := rfl
          have e15_34_4 : w2_1 34 4 = (w2_1 34) 4 := rfl
          have e16_34_5 : w2_1 34 5 = (w2_1 34) 5 := rfl
          exact ⟨⟨hT2_1, hF2_1⟩, rfl, (by rewrite [e11_34_5]; omega), (by rewrite [e12_34_2]; omega), (by rewrite [e13_34_2, e14_34_3, e15_34_4, e16_34_5]; exact MI_done hM (by first | omega | (have h0 : (15 - k).toNat = 0 := (by omega); rw [h0] at hM; exact MI_z hM)))⟩
        · refine TT_aload_n hK rfl 0 rfl dX8_mend_17 ?_
          refine TT_dup hK rfl dX8_mend_18 ?_
          refine gf_X8_30 hK (by decide) rfl (v := (w2_1 34) 3) rfl dX8_mend_19 ?_
          refine TT_iconst hK dX8_mend_22 ?_
          refine TT_ishl hK (by omega) (by omega) dX8_mend_23 ?_
          refine TT_cgI (b := ((w2_1 34) 3) * 2) rfl ?_
          refine TT_cgI (b := 2 * ((w2_1 34) 3)) (by omega) ?_
          refine pf_X8_30 hK (by decide) rfl dX8_mend_24 ?_
          refine TT_hp (h' := setO w2_1 34 (fup (w2_1 34) 3 (2 * ((w2_1 34) 3)))) (up_can rfl rfl rfl) ?_
          have hT_17 : TY (setO w2_1 34 (fup (w2_1 34) 3 (2 * ((w2_1 34) 3)))) := tu_34_3 hT2_1 (show up w2_1 34 3 (2 * ((w2_1 34) 3)) = (setO w2_1 34 (fup (w2_1 34) 3 (2 * ((w2_1 34) 3)))) from up_can rfl rfl rfl) (by omega)
          have hF_17 : FR [34, 38] h (setO w2_1 34 (fup (w2_1 34) 3 (2 * ((w2_1 34) 3)))) := FR_up (show up w2_1 34 3 (2 * ((w2_1 34) 3)) = (setO w2_1 34 (fup (w2_1 34) 3 (2 * ((w2_1 34) 3)))) from up_can rfl rfl rfl) hF2_1 (by decide)
          refine TT_aload_n hK rfl 0 rfl dX8_mend_27 ?_
          refine TT_dup hK rfl dX8_mend_28 ?_
          refine gf_X8_33 hK (by decide) rfl (v := (w2_1 34) 4) (rd_ (sOf_eq _ _ _) (fup_ne _ _ (by decide))) dX8_mend_29 ?_
          have r18 := ty_34_4 (v := (w2_1 34) 4) hT_17 (rd_ (sOf_eq _ _ _) (fup_ne _ _ (by decide)))
          refine TT_iconst hK dX8_mend_32 ?_
          refine TT_ishl hK (by omega) (by omega) dX8_mend_33 ?_
          refine TT_cgI (b := ((w2_1 34) 4) * 2) rfl ?_
          refine TT_cgI (b := 2 * ((w2_1 34) 4)) (by omega) ?_
          refine pf_X8_33 hK (by decide) rfl dX8_mend_34 ?_
          refine TT_hp (h' := setO w2_1 34 (fup (fup (w2_1 34) 3 (2 * ((w2_1 34) 3))) 4 (2 * ((w2_1 34) 4)))) (up_can (sOf_eq _ _ _) rfl (setO_same _ _ _ _)) ?_
          have hT_19 : TY (setO w2_1 34 (fup (fup (w2_1 34) 3 (2 * ((w2_1 34) 3))) 4 (2 * ((w2_1 34) 4)))) := tu_34_4 hT_17 (show up (setO w2_1 34 (fup (w2_1 34) 3 (2 * ((w2_1 34) 3)))) 34 4 (2 * ((w2_1 34) 4)) = (setO w2_1 34 (fup (fup (w2_1 34) 3 (2 * ((w2_1 34) 3))) 4 (2 * ((w2_1 34) 4)))) from up_can (sOf_eq _ _ _) rfl (setO_same _ _ _ _)) (by omega)
          have hF_19 : FR [34, 38] h (setO w2_1 34 (fup (fup (w2_1 34) 3 (2 * ((w2_1 34) 3))) 4 (2 * ((w2_1 34) 4)))) := FR_up (show up (setO w2_1 34 (fup (w2_1 34) 3 (2 * ((w2_1 34) 3)))) 34 4 (2 * ((w2_1 34) 4)) = (setO w2_1 34 (fup (fup (w2_1 34) 3 (2 * ((w2_1 34) 3))) 4 (2 * ((w2_1 34) 4)))) from up_can (sOf_eq _ _ _) rfl (setO_same _ _ _ _)) hF_17 (by decide)
          refine TT_aload_n hK rfl 0 rfl dX8_mend_37 ?_
          refine TT_dup hK rfl dX8_mend_38 ?_
          refine gf_X8_36 hK (by decide) rfl (v := (w2_1 34) 5) (rd_ (sOf_eq _ _ _) ((fup_ne _ _ (by decide)).trans (fup_ne _ _ (by decide)))) dX8_mend_39 ?_
          have r20 := ty_34_5 (v := (w2_1 34) 5) hT_19 (rd_ (sOf_eq _ _ _) ((fup_ne _ _ (by decide)).trans (fup_ne _ _ (by decide))))
          refine TT_iconst hK dX8_mend_42 ?_
          refine TT_isub hK dX8_mend_43 ?_
          refine pf_X8_36 hK (by decide) rfl dX8_mend_44 ?_
          refine TT_hp (h' := setO w2_1 34 (fup (fup (fup (w2_1 34) 3 (2 * ((w2_1 34) 3))) 4 (2 * ((w2_1 34) 4))) 5 (((w2_1 34) 5) - 1))) (up_can (sOf_eq _ _ _) rfl (setO_same _ _ _ _)) ?_
          have hT_21 : TY (setO w2_1 34 (fup (fup (fup (w2_1 34) 3 (2 * ((w2_1 34) 3))) 4 (2 * ((w2_1 34) 4))) 5 (((w2_1 34) 5) - 1))) := tu_34_5 hT_19 (show up (setO w2_1 34 (fup (fup (w2_1 34) 3 (2 * ((w2_1 34) 3))) 4 (2 * ((w2_1 34) 4)))) 34 5 (((w2_1 34) 5) - 1) = (setO w2_1 34 (fup (fup (fup (w2_1 34) 3 (2 * ((w2_1 34) 3))) 4 (2 * ((w2_1 34) 4))) 5 (((w2_1 34) 5) - 1))) from up_can (sOf_eq _ _ _) rfl (setO_same _ _ _ _)) (by omega)
          have hF_21 : FR [34, 38] h (setO w2_1 34 (fup (fup (fup (w2_1 34) 3 (2 * ((w2_1 34) 3))) 4 (2 * ((w2_1 34) 4))) 5 (((w2_1 34) 5) - 1))) := FR_up (show up (setO w2_1 34 (fup (fup (w2_1 34) 3 (2 * ((w2_1 34) 3))) 4 (2 * ((w2_1 34) 4)))) 34 5 (((w2_1 34) 5) - 1) = (setO w2_1 34 (fup (fup (fup (w2_1 34) 3 (2 * ((w2_1 34) 3))) 4 (2 * ((w2_1 34) 4))) 5 (((w2_1 34) 5) - 1))) from up_can (sOf_eq _ _ _) rfl (setO_same _ _ _ _)) hF_19 (by decide)
          refine TT_aload_n hK rfl 0 rfl dX8_mend_47 ?_
          refine gf_X8_36 hK (by decide) rfl (v := ((w2_1 34) 5) - 1) (rd_ (sOf_eq _ _ _) (fup_eq _ _ _)) dX8_mend_48 ?_
          have r22 := ty_34_5 (v := ((w2_1 34) 5) - 1) hT_21 (rd_ (sOf_eq _ _ _) (fup_eq _ _ _))
          refine TT_if_ne hK (tgt := 58) (irm (by omega) (by omega)) dX8_mend_51 (by decide) (fun hb51_23 => ?_) (fun hb51_23 => ?_)
          · refine TT_iinc hK (v := k + 1) (lv' := [(1, vI (k + 1)), (0, vR 34)]) 1 rfl rfl (by decide) rfl dX8_mend_58 ?_
            refine TT_goto hK (tgt := 2) dX8_mend_61 (by decide) ?_
            refine TT_sub [1, 0] rfl ?_
            have e24_34_5 : (setO w2_1 34 (fup (fup (fup (w2_1 34) 3 (2 * ((w2_1 34) 3))) 4 (2 * ((w2_1 34) 4))) 5 (((w2_1 34) 5) - 1))) 34 5 = ((w2_1 34) 5) - 1 := rd_ (sOf_eq _ _ _) (fup_eq _ _ _)
            have e25_34_2 : (setO w2_1 34 (fup (fup (fup (w2_1 34) 3 (2 * ((w2_1 34) 3))) 4 (2 * ((w2_1 34) 4))) 5 (((w2_1 34) 5) - 1))) 34 2 = (w2_1 34) 2 := rd_ (sOf_eq _ _ _) ((fup_ne _ _ (by decide)).trans ((fup_ne _ _ (by decide)).trans (fup_ne _ _ (by decide))))
            have e26_34_2 : (setO w2_1 34 (fup (fup (fup (w2_1 34) 3 (2 * ((w2_1 34) 3))) 4 (2 * ((w2_1 34) 4))) 5 (((w2_1 34) 5) - 1))) 34 2 = (w2_1 34) 2 := rd_ (sOf_eq _ _ _) ((fup_ne _ _ (by decide)).trans ((fup_ne _ _ (by decide)).trans (fup_ne _ _ (by decide))))
            have e27_34_3 : (setO w2_1 34 (fup (fup (fup (w2_1 34) 3 (2 * ((w2_1 34) 3))) 4 (2 * ((w2_1 34) 4))) 5 (((w2_1 34) 5) - 1))) 34 3 = 2 * ((w2_1 34) 3) := rd_ (sOf_eq _ _ _) ((fup_ne _ _ (by decide)).trans ((fup_ne _ _ (by decide)).trans (fup_eq _ _ _)))
            have e28_34_4 : (setO w2_1 34 (fup (fup (fup (w2_1 34) 3 (2 * ((w2_1 34) 3))) 4 (2 * ((w2_1 34) 4))) 5 (((w2_1 34) 5) - 1))) 34 4 = 2 * ((w2_1 34) 4) := rd_ (sOf_eq _ _ _) ((fup_ne _ _ (by decide)).trans (fup_eq _ _ _))
            have e29_34_5 : (setO w2_1 34 (fup (fup (fup (w2_1 34) 3 (2 * ((w2_1 34) 3))) 4 (2 * ((w2_1 34) 4))) 5 (((w2_1 34) 5) - 1))) 34 5 = ((w2_1 34) 5) - 1 := rd_ (sOf_eq _ _ _) (fup_eq _ _ _)
            have e30_38 : (setO w2_1 34 (fup (fup (fup (w2_1 34) 3 (2 * ((w2_1 34) 3))) 4 (2 * ((w2_1 34) 4))) 5 (((w2_1 34) 5) - 1))) 38 = w2_1 38 := sOf_ne _ _ (by decide)
            exact ih1 (k + 1) (setO w2_1 34 (fup (fup (fup (w2_1 34) 3 (2 * ((w2_1 34) 3))) 4 (2 * ((w2_1 34) 4))) 5 (((w2_1 34) 5) - 1))) hT_21 hF_21 (by first | omega | (simp [up, setR] <;> omega)) (by rewrite [e24_34_5]; first | omega | (simp [up, setR] <;> omega)) (by rewrite [e25_34_2]; first | omega | (simp [up, setR] <;> omega)) (by first | omega | (simp [up, setR] <;> omega)) (by rewrite [e26_34_2, e27_34_3, e28_34_4, e29_34_5, e30_38]; have h1 : (15 - k).toNat = (15 - (k + 1)).toNat + 1 := (by omega); rw [h1] at hM; first | exact MI_next hM (by omega) (by omega) | (rw [o0_at55, o1_at55, o2_at55, o3_at55, o4_at55]; exact MI_out hM (by omega) (by omega))) (by first | omega | (simp [up, setR] <;> omega))
          · refine TT_aload_n hK rfl 0 rfl dX8_mend_54 ?_
            have e31_34_2 : (setO w2_1 34 (fup (fup (fup (w2_1 34) 3 (2 * ((w2_1 34) 3))) 4 (2 * ((w2_1 34) 4))) 5 (((w2_1 34) 5) - 1))) 34 2 = (w2_1 34) 2 := rd_ (sOf_eq _ _ _) ((fup_ne _ _ (by decide)).trans ((fup_ne _ _ (by decide)).trans (fup_ne _ _ (by decide))))
            have e32_34_2 : (setO w2_1 34 (fup (fup (fup (w2_1 34) 3 (2 * ((w2_1 34) 3))) 4 (2 * ((w2_1 34) 4))) 5 (((w2_1 34) 5) - 1))) 34 2 = (w2_1 34) 2 := rd_ (sOf_eq _ _ _) ((fup_ne _ _ (by decide)).trans ((fup_ne _ _ (by decide)).trans (fup_ne _ _ (by decide))))
            have e33_34_4 : (setO w2_1 34 (fup (fup (fup (w2_1 34) 3 (2 * ((w2_1 34) 3))) 4 (2 * ((w2_1 34) 4))) 5 (((w2_1 34) 5) - 1))) 34 4 = 2 * ((w2_1 34) 4) := rd_ (sOf_eq _ _ _) ((fup_ne _ _ (by decide)).trans (fup_eq _ _ _))
            have e34_34_2 : (setO w2_1 34 (fup (fup (fup (w2_1 34) 3 (2 * ((w2_1 34) 3))) 4 (2 * ((w2_1 34) 4))) 5 (((w2_1 34) 5) - 1))) 34 2 = (w2_1 34) 2 := rd_ (sOf_eq _ _ _) ((fup_ne _ _ (by decide)).trans ((fup_ne _ _ (by decide)).trans (fup_ne _ _ (by decide))))
            have e35_38 : (setO w2_1 34 (fup (fup (fup (w2_1 34) 3 (2 * ((w2_1 34) 3))) 4 (2 * ((w2_1 34) 4))) 5 (((w2_1 34) 5) - 1))) 38 = w2_1 38 := sOf_ne _ _ (by decide)
            refine iv_X8_53 hK (s_goOut_e (setO w2_1 34 (fup (fup (fup (w2_1 34) 3 (2 * ((w2_1 34) 3))) 4 (2 * ((w2_1 34) 4))) 5 (((w2_1 34) 5) - 1))) hT_21 (by rewrite [e31_34_2]; first | omega | (simp [up, setR] <;> omega)) (by rewrite [e32_34_2]; first | omega | (simp [up, setR] <;> omega)) (by rewrite [e33_34_4]; first | omega | (simp [up, setR] <;> omega)) (by rewrite [e34_34_2, e35_38]; first | omega | (simp [up, setR] <;> omega))) (by decide) rfl ⟨by decide, by decide⟩ (by decide) rfl rfl (Nat.le_of_ble_eq_true rfl) ⟨by decide, by decide⟩ dX8_mend_55 ?_
            intro r9 g55_36 hp9
            obtain ⟨⟨hT_36, hG_36⟩, hr9, p1_36, p2_36, o0_36, o1_36, o2_36, o3_36, o4_36⟩ := hp9
            rw [hr9]
            have hF_36 : FR [34, 38] h g55_36 := FR_tr hF_21 hG_36 (by decide)
            rw [show (setO w2_1 34 (fup (fup (fup (w2_1 34) 3 (2 * ((w2_1 34) 3))) 4 (2 * ((w2_1 34) 4))) 5 (((w2_1 34) 5) - 1))) 34 3 = 2 * ((w2_1 34) 3) from rd_ (sOf_eq _ _ _) ((fup_ne _ _ (by decide)).trans ((fup_ne _ _ (by decide)).trans (fup_eq _ _ _)))] at o0_36
            rw [show (setO w2_1 34 (fup (fup (fup (w2_1 34) 3 (2 * ((w2_1 34) 3))) 4 (2 * ((w2_1 34) 4))) 5 (((w2_1 34) 5) - 1))) 34 2 = (w2_1 34) 2 from rd_ (sOf_eq _ _ _) ((fup_ne _ _ (by decide)).trans ((fup_ne _ _ (by decide)).trans (fup_ne _ _ (by decide))))] at o1_36
            rw [show (setO w2_1 34 (fup (fup (fup (w2_1 34) 3 (2 * ((w2_1 34) 3))) 4 (2 * ((w2_1 34) 4))) 5 (((w2_1 34) 5) - 1))) 34 4 = 2 * ((w2_1 34) 4) from rd_ (sOf_eq _ _ _) ((fup_ne _ _ (by decide)).trans (fup_eq _ _ _))] at o1_36
            rw [show (setO w2_1 34 (fup (fup (fup (w2_1 34) 3 (2 * ((w2_1 34) 3))) 4 (2 * ((w2_1 34) 4))) 5 (((w2_1 34) 5) - 1))) 38 = w2_1 38 from sOf_ne _ _ (by decide)] at o1_36
            rw [show (setO w2_1 34 (fup (fup (fup (w2_1 34) 3 (2 * ((w2_1 34) 3))) 4 (2 * ((w2_1 34) 4))) 5 (((w2_1 34) 5) - 1))) 34 2 = (w2_1 34) 2 from rd_ (sOf_eq _ _ _) ((fup_ne _ _ (by decide)).trans ((fup_ne _ _ (by decide)).trans (fup_ne _ _ (by decide))))] at o2_36
            rw [show (setO w2_1 34 (fup (fup (fup (w2_1 34) 3 (2 * ((w2_1 34) 3))) 4 (2 * ((w2_1 34) 4))) 5 (((w2_1 34) 5) - 1))) 34 4 = 2 * ((w2_1 34) 4) from rd_ (sOf_eq _ _ _) ((fup_ne _ _ (by decide)).trans (fup_eq _ _ _))] at o2_36
            rw [show (setO w2_1 34 (fup (fup (fup (w2_1 34) 3 (2 * ((w2_1 34) 3))) 4 (2 * ((w2_1 34) 4))) 5 (((w2_1 34) 5) - 1))) 38 = w2_1 38 from sOf_ne _ _ (by decide)] at o2_36
            rw [show (setO w2_1 34 (fup (fup (fup (w2_1 34) 3 (2 * ((w2_1 34) 3))) 4 (2 * ((w2_1 34) 4))) 5 (((w2_1 34) 5) - 1))) 34 2 = (w2_1 34) 2 from rd_ (sOf_eq _ _ _) ((fup_ne _ _ (by decide)).trans ((fup_ne _ _ (by decide)).trans (fup_ne _ _ (by decide))))] at o3_36
            rw [show (setO w2_1 34 (fup (fup (fup (w2_1 34) 3 (2 * ((w2_1 34) 3))) 4 (2 * ((w2_1 34) 4))) 5 (((w2_1 34) 5) - 1))) 34 4 = 2 * ((w2_1 34) 4) from rd_ (sOf_eq _ _ _) ((fup_ne _ _ (by decide)).trans (fup_eq _ _ _))] at o3_36
            rw [show (setO w2_1 34 (fup (fup (fup (w2_1 34) 3 (2 * ((w2_1 34) 3))) 4 (2 * ((w2_1 34) 4))) 5 (((w2_1 34) 5) - 1))) 38 = w2_1 38 from sOf_ne _ _ (by decide)] at o3_36
            rw [show (setO w2_1 34 (fup (fup (fup (w2_1 34) 3 (2 * ((w2_1 34) 3))) 4 (2 * ((w2_1 34) 4))) 5 (((w2_1 34) 5) - 1))) 34 2 = (w2_1 34) 2 from rd_ (sOf_eq _ _ _) ((fup_ne _ _ (by decide)).trans ((fup_ne _ _ (by decide)).trans (fup_ne _ _ (by decide))))] at o4_36
            rw [show (setO w2_1 34 (fup (fup (fup (w2_1 34) 3 (2 * ((w2_1 34) 3))) 4 (2 * ((w2_1 34) 4))) 5 (((w2_1 34) 5) - 1))) 34 4 = 2 * ((w2_1 34) 4) from rd_ (sOf_eq _ _ _) ((fup_ne _ _ (by decide)).trans (fup_eq _ _ _))] at o4_36
            rw [show (setO w2_1 34 (fup (fup (fup (w2_1 34) 3 (2 * ((w2_1 34) 3))) 4 (2 * ((w2_1 34) 4))) 5 (((w2_1 34) 5) - 1))) 38 = w2_1 38 from sOf_ne _ _ (by decide)] at o4_36
            have o0_at55 := o0_36
            have o1_at55 := o1_36
            have o2_at55 := o2_36
            have o3_at55 := o3_36
            have o4_at55 := o4_36
            show TT K ly 0 0 58 [(0, vR 34), (1, vI k)] [] g55_36
            refine TT_iinc hK (v := k + 1) (lv' := [(1, vI (k + 1)), (0, vR 34)]) 1 rfl rfl (by decide) rfl dX8_mend_58 ?_
            refine TT_goto hK (tgt := 2) dX8_mend_61 (by decide) ?_
            refine TT_sub [1, 0] rfl ?_
            have e37_34_5 : g55_36 34 5 = (g55_36 34) 5 := rfl
            have e38_34_2 : g55_36 34 2 = (g55_36 34) 2 := rfl
            have e39_34_2 : g55_36 34 2 = (g55_36 34) 2 := rfl
            have e40_34_3 : g55_36 34 3 = (g55_36 34) 3 := rfl
            have e41_34_4 : g55_36 34 4 = (g55_36 34) 4 := rfl
            have e42_34_5 : g55_36 34 5 = (g55_36 34) 5 := rfl
            exact ih1 (k + 1) g55_36 hT_36 hF_36 (by first | omega | (simp [up, setR] <;> omega)) (by rewrite [e37_34_5]; first | omega | (simp [up, setR] <;> omega)) (by rewrite [e38_34_2]; first | omega | (simp [up, setR] <;> omega)) (by first | omega | (simp [up, setR] <;> omega)) (by rewrite [e39_34_2, e40_34_3, e41_34_4, e42_34_5]; have h1 : (15 - k).toNat = (15 - (k + 1)).toNat + 1 := (by omega); rw [h1] at hM; first | exact MI_next hM (by omega) (by omega) | (rw [o0_at55, o1_at55, o2_at55, o3_at55, o4_at55]; exact MI_out hM (by omega) (by omega))) (by first | omega | (simp [up, setR] <;> omega))
  refine TT_sub [1, 0] rfl ?_
  have e43_34_5 : h 34 5 = (h 34) 5 := rfl
  have e44_34_2 : h 34 2 = (h 34) 2 := rfl
  have e45_34_2 : h 34 2 = (h 34) 2 := rfl
  have e46_34_3 : h 34 3 = (h 34) 3 := rfl
  have e47_34_4 : h 34 4 = (h 34) 4 := rfl
  have e48_34_5 : h 34 5 = (h 34) 5 := rfl
  exact L2_1 ((((15 : Int) - 0).toNat) + 1) 0 h hT hF (by first | omega | (simp [up, setR] <;> omega)) (by rewrite [e43_34_5]; first | omega | (simp [up, setR] <;> omega)) (by rewrite [e44_34_2]; first | omega | (simp [up, setR] <;> omega)) (by first | omega | (simp [up, setR] <;> omega)) (by rewrite [e45_34_2, e46_34_3, e47_34_4, e48_34_5]; exact MI_0 hq) (Nat.lt_succ_self _)
set_option maxRecDepth 20000 in
theorem s_tell_e (x b : Int) (h : Hp_) (hT : TY h) (hx : 0 ≤ x ∧ x ≤ 18) (hb : 0 ≤ b ∧ b ≤ 1) (ht : 1 ≤ (h 34 5)) (hl : 1 ≤ (h 34 2)) (hq : MQ_ (h 34 3) (h 34 4) (h 34 5) (h 34 2) (h 38)) (ha : 32768 ≤ (h 34 3)) (hn : (h 34 2) ≤ 1019) : Ctr yX8_tell cX8_tell 5 none (rmd 2) ly ly 0 0 [vR 34, vI x, vI b] h (fun r h' => (TY h' ∧ FR [34, 36, 37, 38] h h') ∧ r = none ∧ (1 ≤ (h' 34 5)) ∧ (1 ≤ (h' 34 2)) ∧ (((h' 34 3), (h' 34 4), (h' 34 5), (h' 34 2), (h' 36), (h' 37), (h' 38)) = tellS ((h 34 3), (h 34 4), (h 34 5), (h 34 2), (h 36), (h 37), (h 38)) x b)) := by
  refine Ctr_of (by decide) (Nat.le_of_ble_eq_true rfl) ⟨Nat.le_refl _, Nat.le_refl _⟩ (fun K hK hQ _ => ?_)
  show TT K ly 0 0 0 [(0, vR 34), (1, vI x), (2, vI b)] [] h
  have hF : FR [34, 36, 37, 38] h h := FR_rf _ _
  have hs0 := ty_36 (i := x) (v := h 36 x) hT rfl (by omega) (by omega)
  have hs : 0 ≤ h 36 x ∧ h 36 x < 47 := by omega
  have ht := (tab_r hs).1
  have hl := ty_37 (i := x) (v := h 37 x) hT rfl (by omega) (by omega)
  have hc := hq.c_r
  have hq2 := hq.2.1
  have hq4 := hq.2.2.2.1
  have hq5 := hq.2.2.2.2.1
  refine TT_aload_n hK rfl 0 rfl dX8_tell_0 ?_
  refine gf_X8_12 hK (by decide) rfl (q := 35) rfl rfl dX8_tell_1 ?_
  refine TT_iload_n hK rfl 1 rfl dX8_tell_4 ?_
  refine iv_X8_39 hK (s_sizeOf_e x h hT (by first | omega | (simp [up, setR] <;> omega))) (by decide) rfl ⟨by decide, by decide⟩ (by decide) rfl rfl (Nat.le_of_ble_eq_true rfl) ⟨by decide, by decide⟩ dX8_tell_5 ?_
  intro r9 g5_1 hp9
  obtain ⟨⟨hT_1, hG_1⟩, z5_1, hr9, hz_1, e_1⟩ := hp9
  rw [hr9]
  have hF_1 : FR [34, 36, 37, 38] h g5_1 := FR_tr hF hG_1 (by decide)
  have e_at5 := e_1
  show TT K ly 0 0 8 [(0, vR 34), (1, vI x), (2, vI b)] [vI z5_1] g5_1
  refine TT_cgI (b := qS (h 36 x)) (by exact e_at5) ?_
  refine TT_istore_n hK rfl (lv' := [(3, vI (qS (h 36 x))), (0, vR 34), (1, vI x), (2, vI b)]) (by decide) rfl dX8_tell_8 ?_
  refine TT_iload_n hK rfl 3 rfl dX8_tell_9 ?_
  refine TT_aload_n hK rfl 1 rfl dX8_tell_10 ?_
  refine gf_X8_12 hK (by decide) rfl (q := 35) rfl rfl dX8_tell_11 ?_
  refine TT_iload_n hK rfl 2 rfl dX8_tell_14 ?_
  refine iv_X8_43 hK (s_likelyBit_e x g5_1 hT_1 (by first | omega | (simp [up, setR] <;> omega))) (by decide) rfl ⟨by decide, by decide⟩ (by decide) rfl rfl (Nat.le_of_ble_eq_true rfl) ⟨by decide, by decide⟩ dX8_tell_15 ?_
  intro r9 g15_2 hp9
  obtain ⟨⟨hT_2, hG_2⟩, z15_2, hr9, hz_2, e_2⟩ := hp9
  rw [hr9]
  have hF_2 : FR [34, 36, 37, 38] h g15_2 := FR_tr hF_1 hG_2 (by decide)
  rw [show g5_1 37 = h 37 from (hG_1 37 (by decide))] at e_2
  have e_at15 := e_2
  show TT K ly 0 0 18 [(3, vI (qS (h 36 x))), (0, vR 34), (1, vI x), (2, vI b)] [vI z15_2, vI b] g15_2
  refine TT_cgI (b := h 37 x) (by exact e_at15) ?_
  refine TT_icmp_ne hK (tgt := 25) (irm (by omega) (by omega)) (irm (by omega) (by omega)) dX8_tell_18 (by decide) (fun hb18_3 => ?_) (fun hb18_3 => ?_)
  · refine TT_iconst hK dX8_tell_25 ?_
    refine TT_istore hK (lv' := [(4, vI 0), (3, vI (qS (h 36 x))), (0, vR 34), (1, vI x), (2, vI b)]) (by decide) rfl dX8_tell_26 ?_
    refine TT_aload_n hK rfl 2 rfl dX8_tell_28 ?_
    refine TT_dup hK rfl dX8_tell_29 ?_
    refine gf_X8_30 hK (by decide) rfl (v := (h 34) 3) (rd_ (((hG_2 34 (by decide))).trans (hG_1 34 (by decide))) rfl) dX8_tell_30 ?_
    have r4 := ty_34_3 (v := (h 34) 3) hT_2 (rd_ (((hG_2 34 (by decide))).trans (hG_1 34 (by decide))) rfl)
    refine TT_iload_n hK rfl 1 rfl dX8_tell_33 ?_
    refine TT_isub hK dX8_tell_34 ?_
    refine pf_X8_30 hK (by decide) rfl dX8_tell_35 ?_
    refine TT_hp (h' := setO g15_2 34 (fup (h 34) 3 (((h 34) 3) - (qS (h 36 x))))) (up_can (((hG_2 34 (by decide))).trans (hG_1 34 (by decide))) rfl rfl) ?_
    have hT_5 : TY (setO g15_2 34 (fup (h 34) 3 (((h 34) 3) - (qS (h 36 x))))) := tu_34_3 hT_2 (show up g15_2 34 3 (((h 34) 3) - (qS (h 36 x))) = (setO g15_2 34 (fup (h 34) 3 (((h 34) 3) - (qS (h 36 x))))) from up_can (((hG_2 34 (by decide))).trans (hG_1 34 (by decide))) rfl rfl) (by omega)
    have hF_5 : FR [34, 36, 37, 38] h (setO g15_2 34 (fup (h 34) 3 (((h 34) 3) - (qS (h 36 x))))) := FR_up (show up g15_2 34 3 (((h 34) 3) - (qS (h 36 x))) = (setO g15_2 34 (fup (h 34) 3 (((h 34) 3) - (qS (h 36 x))))) from up_can (((hG_2 34 (by decide))).trans (hG_1 34 (by decide))) rfl rfl) hF_2 (by decide)
    refine TT_iload hK 0 rfl dX8_tell_38 ?_
    refine TT_if_eq hK (tgt := 63) (by decide) dX8_tell_40 (by decide) (fun hb40_6 => ?_) (fun hb40_6 => ?_)
    · refine TT_iload hK 0 rfl dX8_tell_63 ?_
      refine TT_aload_n hK rfl 2 rfl dX8_tell_65 ?_
      refine gf_X8_30 hK (by decide) rfl (v := ((h 34) 3) - (qS (h 36 x))) (rd_ (sOf_eq _ _ _) (fup_eq _ _ _)) dX8_tell_66 ?_
      have r7 := ty_34_3 (v := ((h 34) 3) - (qS (h 36 x))) hT_5 (rd_ (sOf_eq _ _ _) (fup_eq _ _ _))
      refine TT_iload_n hK rfl 1 rfl dX8_tell_69 ?_
      refine TT_icmp_ge hK (tgt := 77) (irm (by omega) (by omega)) (irm (by omega) (by omega)) dX8_tell_70 (by decide) (fun hb70_8 => ?_) (fun hb70_8 => ?_)
      · refine TT_iconst hK dX8_tell_77 ?_
        refine TT_icmp_ne hK (tgt := 89) (by decide) (by decide) dX8_tell_78 (by decide) (fun hb78_9 => ?_) (fun hb78_9 => ?_)
        · exact absurd hb78_9 (by decide)
        · refine TT_aload_n hK rfl 2 rfl dX8_tell_81 ?_
          refine TT_iload_n hK rfl 1 rfl dX8_tell_82 ?_
          refine pf_X8_30 hK (by decide) rfl dX8_tell_83 ?_
          refine TT_hp (h' := setO g15_2 34 (fup (h 34) 3 (qS (h 36 x)))) (up_can (sOf_eq _ _ _) (fup_same _ _ _ _) (setO_same _ _ _ _)) ?_
          have hT_10 : TY (setO g15_2 34 (fup (h 34) 3 (qS (h 36 x)))) := tu_34_3 hT_5 (show up (setO g15_2 34 (fup (h 34) 3 (((h 34) 3) - (qS (h 36 x))))) 34 3 (qS (h 36 x)) = (setO g15_2 34 (fup (h 34) 3 (qS (h 36 x)))) from up_can (sOf_eq _ _ _) (fup_same _ _ _ _) (setO_same _ _ _ _)) (by omega)
          have hF_10 : FR [34, 36, 37, 38] h (setO g15_2 34 (fup (h 34) 3 (qS (h 36 x)))) := FR_up (show up (setO g15_2 34 (fup (h 34) 3 (((h 34) 3) - (qS (h 36 x))))) 34 3 (qS (h 36 x)) = (setO g15_2 34 (fup (h 34) 3 (qS (h 36 x)))) from up_can (sOf_eq _ _ _) (fup_same _ _ _ _) (setO_same _ _ _ _)) hF_5 (by decide)
          refine TT_goto hK (tgt := 99) dX8_tell_86 (by decide) ?_
          refine TT_aload_n hK rfl 2 rfl dX8_tell_99 ?_
          refine gf_X8_12 hK (by decide) rfl (q := 35) rfl rfl dX8_tell_100 ?_
          refine TT_iload_n hK rfl 3 rfl dX8_tell_103 ?_
          refine TT_iload_n hK rfl 4 rfl dX8_tell_104 ?_
          refine iv_X8_46 hK (s_clearn_e x b (setO g15_2 34 (fup (h 34) 3 (qS (h 36 x)))) hT_10 (by first | omega | (simp [up, setR] <;> omega)) (by first | omega | (simp [up, setR] <;> omega))) (by decide) rfl ⟨by decide, by decide⟩ (by decide) rfl rfl (Nat.le_of_ble_eq_true rfl) ⟨by decide, by decide⟩ dX8_tell_105 ?_
          intro r9 g105_11 hp9
          obtain ⟨⟨hT_11, hG_11⟩, hr9, l1_11, l2_11⟩ := hp9
          rw [hr9]
          have hF_11 : FR [34, 36, 37, 38] h g105_11 := FR_tr hF_10 hG_11 (by decide)
          rw [show (setO g15_2 34 (fup (h 34) 3 (qS (h 36 x)))) 36 = h 36 from (sOf_ne _ _ (by decide)).trans (((hG_2 36 (by decide))).trans (hG_1 36 (by decide)))] at l1_11
          rw [show (setO g15_2 34 (fup (h 34) 3 (qS (h 36 x)))) 37 = h 37 from (sOf_ne _ _ (by decide)).trans (((hG_2 37 (by decide))).trans (hG_1 37 (by decide)))] at l1_11
          rw [show (setO g15_2 34 (fup (h 34) 3 (qS (h 36 x)))) 36 = h 36 from (sOf_ne _ _ (by decide)).trans (((hG_2 36 (by decide))).trans (hG_1 36 (by decide)))] at l2_11
          rw [show (setO g15_2 34 (fup (h 34) 3 (qS (h 36 x)))) 37 = h 37 from (sOf_ne _ _ (by decide)).trans (((hG_2 37 (by decide))).trans (hG_1 37 (by decide)))] at l2_11
          have l1_at105 := l1_11
          have l2_at105 := l2_11
          show TT K ly 0 0 108 [(4, vI 0), (3, vI (qS (h 36 x))), (0, vR 34), (1, vI x), (2, vI b)] [] g105_11
          have hq9 : MQ_ (qS (h 36 x)) ((h 34) 4) (h 34 5) (h 34 2) (h 38) := MQ_tell (x := x) (st := h 36) (P := (b = h 37 x ↔ h 34 3 - qS (h 36 x) < qS (h 36 x))) hq ha hs (by first | exact (if_pos (by omega)).symm | exact (if_neg (by omega)).symm) (by first | exact (if_pos (by omega)).symm | exact (if_neg (by omega)).symm)
          have eT := tellS_m (a := h 34 3) (c := h 34 4) (t := h 34 5) (n := h 34 2) (o := h 38) (st := h 36) (lk := h 37) (x := x) (b := b) (P := (b ≠ h 37 x)) (a2 := (qS (h 36 x))) (c2 := ((h 34) 4)) (by omega) (by first | exact (if_pos (by omega)).symm | exact (if_neg (by omega)).symm) (by first | exact (if_pos (by omega)).symm | exact (if_neg (by omega)).symm) Iff.rfl
          refine TT_aload_n hK rfl 2 rfl dX8_tell_108 ?_
          have e12_34_5 : g105_11 34 5 = (h 34) 5 := rd_ (((hG_11 34 (by decide))).trans (sOf_eq _ _ _)) (fup_ne _ _ (by decide))
          have e13_34_2 : g105_11 34 2 = (h 34) 2 := rd_ (((hG_11 34 (by decide))).trans (sOf_eq _ _ _)) (fup_ne _ _ (by decide))
          have e14_34_2 : g105_11 34 2 = (h 34) 2 := rd_ (((hG_11 34 (by decide))).trans (sOf_eq _ _ _)) (fup_ne _ _ (by decide))
          have e15_34_3 : g105_11 34 3 = qS (h 36 x) := rd_ (((hG_11 34 (by decide))).trans (sOf_eq _ _ _)) (fup_eq _ _ _)
          have e16_34_4 : g105_11 34 4 = (h 34) 4 := rd_ (((hG_11 34 (by decide))).trans (sOf_eq _ _ _)) (fup_ne _ _ (by decide))
          have e17_34_5 : g105_11 34 5 = (h 34) 5 := rd_ (((hG_11 34 (by decide))).trans (sOf_eq _ _ _)) (fup_ne _ _ (by decide))
          have e18_38 : g105_11 38 = h 38 := ((hG_11 38 (by decide))).trans ((sOf_ne _ _ (by decide)).trans (((hG_2 38 (by decide))).trans (hG_1 38 (by decide))))
          have e19_34_2 : g105_11 34 2 = (h 34) 2 := rd_ (((hG_11 34 (by decide))).trans (sOf_eq _ _ _)) (fup_ne _ _ (by decide))
          refine iv_X8_50 hK (s_mend_e g105_11 hT_11 (by rewrite [e12_34_5]; first | omega | (simp [up, setR] <;> omega)) (by rewrite [e13_34_2]; first | omega | (simp [up, setR] <;> omega)) (by rewrite [e14_34_2, e15_34_3, e16_34_4, e17_34_5, e18_38]; exact hq9) (by rewrite [e19_34_2]; first | omega | (simp [up, setR] <;> omega))) (by decide) rfl ⟨by decide, by decide⟩ (by decide) rfl rfl (Nat.le_of_ble_eq_true rfl) ⟨by decide, by decide⟩ dX8_tell_109 ?_
          intro r9 g109_20 hp9
          obtain ⟨⟨hT_20, hG_20⟩, hr9, p1_20, p2_20, m_20⟩ := hp9
          rw [hr9]
          have hF_20 : FR [34, 36, 37, 38] h g109_20 := FR_tr hF_11 hG_20 (by decide)
          rw [show g105_11 34 2 = (h 34) 2 from rd_ (((hG_11 34 (by decide))).trans (sOf_eq _ _ _)) (fup_ne _ _ (by decide))] at m_20
          rw [show g105_11 34 3 = qS (h 36 x) from rd_ (((hG_11 34 (by decide))).trans (sOf_eq _ _ _)) (fup_eq _ _ _)] at m_20
          rw [show g105_11 34 4 = (h 34) 4 from rd_ (((hG_11 34 (by decide))).trans (sOf_eq _ _ _)) (fup_ne _ _ (by decide))] at m_20
          rw [show g105_11 34 5 = (h 34) 5 from rd_ (((hG_11 34 (by decide))).trans (sOf_eq _ _ _)) (fup_ne _ _ (by decide))] at m_20
          rw [show g105_11 38 = h 38 from ((hG_11 38 (by decide))).trans ((sOf_ne _ _ (by decide)).trans (((hG_2 38 (by decide))).trans (hG_1 38 (by decide))))] at m_20
          have m_at109 := m_20
          show TT K ly 0 0 112 [(4, vI 0), (3, vI (qS (h 36 x))), (0, vR 34), (1, vI x), (2, vI b)] [] g109_20
          refine TT_vret hK hQ ?_ dX8_tell_112
          have e21_34_5 : g109_20 34 5 = (g109_20 34) 5 := rfl
          have e22_34_2 : g109_20 34 2 = (g109_20 34) 2 := rfl
          have e23_34_2 : g109_20 34 2 = (g109_20 34) 2 := rfl
          have e24_34_3 : g109_20 34 3 = (g109_20 34) 3 := rfl
          have e25_34_4 : g109_20 34 4 = (g109_20 34) 4 := rfl
          have e26_34_5 : g109_20 34 5 = (g109_20 34) 5 := rfl
          have e27_36 : g109_20 36 = g105_11 36 := (hG_20 36 (by decide))
          have e28_37 : g109_20 37 = g105_11 37 := (hG_20 37 (by decide))
          exact ⟨⟨hT_20, hF_20⟩, rfl, (by rewrite [e21_34_5]; omega), (by rewrite [e22_34_2]; omega), (by rewrite [e23_34_2, e24_34_3, e25_34_4, e26_34_5, e27_36, e28_37]; first | exact (tellS_1 (by omega)).symm | (rw [eT, l1_at105, l2_at105]; have m3 := congrArg (fun q => q.1) m_at109; have m4 := congrArg (fun q => q.2.1) m_at109; have m5 := congrArg (fun q => q.2.2.1) m_at109; have m2 := congrArg (fun q => q.2.2.2.1) m_at109; have m8 := congrArg (fun q => q.2.2.2.2) m_at109; dsimp only at m3 m4 m5 m2 m8; rw [← m3, ← m4, ← m5, ← m2, ← m8]))⟩
      · refine TT_iconst hK dX8_tell_73 ?_
        refine TT_goto hK (tgt := 78) dX8_tell_74 (by decide) ?_
        refine TT_icmp_ne hK (tgt := 89) (by decide) (by decide) dX8_tell_78 (by decide) (fun hb78_29 => ?_) (fun hb78_29 => ?_)
        · refine TT_aload_n hK rfl 2 rfl dX8_tell_89 ?_
          refine TT_dup hK rfl dX8_tell_90 ?_
          refine gf_X8_33 hK (by decide) rfl (v := (h 34) 4) (rd_ (sOf_eq _ _ _) (fup_ne _ _ (by decide))) dX8_tell_91 ?_
          have r30 := ty_34_4 (v := (h 34) 4) hT_5 (rd_ (sOf_eq _ _ _) (fup_ne _ _ (by decide)))
          refine TT_iload_n hK rfl 1 rfl dX8_tell_94 ?_
          refine TT_iadd hK dX8_tell_95 ?_
          refine pf_X8_33 hK (by decide) rfl dX8_tell_96 ?_
          refine TT_hp (h' := setO g15_2 34 (fup (fup (h 34) 3 (((h 34) 3) - (qS (h 36 x)))) 4 (((h 34) 4) + (qS (h 36 x))))) (up_can (sOf_eq _ _ _) rfl (setO_same _ _ _ _)) ?_
          have hT_31 : TY (setO g15_2 34 (fup (fup (h 34) 3 (((h 34) 3) - (qS (h 36 x)))) 4 (((h 34) 4) + (qS (h 36 x))))) := tu_34_4 hT_5 (show up (setO g15_2 34 (fup (h 34) 3 (((h 34) 3) - (qS (h 36 x))))) 34 4 (((h 34) 4) + (qS (h 36 x))) = (setO g15_2 34 (fup (fup (h 34) 3 (((h 34) 3) - (qS (h 36 x)))) 4 (((h 34) 4) + (qS (h 36 x))))) from up_can (sOf_eq _ _ _) rfl (setO_same _ _ _ _)) (by omega)
          have hF_31 : FR [34, 36, 37, 38] h (setO g15_2 34 (fup (fup (h 34) 3 (((h 34) 3) - (qS (h 36 x)))) 4 (((h 34) 4) + (qS (h 36 x))))) := FR_up (show up (setO g15_2 34 (fup (h 34) 3 (((h 34) 3) - (qS (h 36 x))))) 34 4 (((h 34) 4) + (qS (h 36 x))) = (setO g15_2 34 (fup (fup (h 34) 3 (((h 34) 3) - (qS (h 36 x)))) 4 (((h 34) 4) + (qS (h 36 x))))) from up_can (sOf_eq _ _ _) rfl (setO_same _ _ _ _)) hF_5 (by decide)
          refine TT_aload_n hK rfl 2 rfl dX8_tell_99 ?_
          refine gf_X8_12 hK (by decide) rfl (q := 35) rfl rfl dX8_tell_100 ?_
          refine TT_iload_n hK rfl 3 rfl dX8_tell_103 ?_
          refine TT_iload_n hK rfl 4 rfl dX8_tell_104 ?_
          refine iv_X8_46 hK (s_clearn_e x b (setO g15_2 34 (fup (fup (h 34) 3 (((h 34) 3) - (qS (h 36 x)))) 4 (((h 34) 4) + (qS (h 36 x))))) hT_31 (by first | omega | (simp [up, setR] <;> omega)) (by first | omega | (simp [up, setR] <;> omega))) (by decide) rfl ⟨by decide, by decide⟩ (by decide) rfl rfl (Nat.le_of_ble_eq_true rfl) ⟨by decide, by decide⟩ dX8_tell_105 ?_
          intro r9 g105_32 hp9
          obtain ⟨⟨hT_32, hG_32⟩, hr9, l1_32, l2_32⟩ := hp9
          rw [hr9]
          have hF_32 : FR [34, 36, 37, 38] h g105_32 := FR_tr hF_31 hG_32 (by decide)
          rw [show (setO g15_2 34 (fup (fup (h 34) 3 (((h 34) 3) - (qS (h 36 x)))) 4 (((h 34) 4) + (qS (h 36 x))))) 36 = h 36 from (sOf_ne _ _ (by decide)).trans (((hG_2 36 (by decide))).trans (hG_1 36 (by decide)))] at l1_32
          rw [show (setO g15_2 34 (fup (fup (h 34) 3 (((h 34) 3) - (qS (h 36 x)))) 4 (((h 34) 4) + (qS (h 36 x))))) 37 = h 37 from (sOf_ne _ _ (by decide)).trans (((hG_2 37 (by decide))).trans (hG_1 37 (by decide)))] at l1_32
          rw [show (setO g15_2 34 (fup (fup (h 34) 3 (((h 34) 3) - (qS (h 36 x)))) 4 (((h 34) 4) + (qS (h 36 x))))) 36 = h 36 from (sOf_ne _ _ (by decide)).trans (((hG_2 36 (by decide))).trans (hG_1 36 (by decide)))] at l2_32
          rw [show (setO g15_2 34 (fup (fup (h 34) 3 (((h 34) 3) - (qS (h 36 x)))) 4 (((h 34) 4) + (qS (h 36 x))))) 37 = h 37 from (sOf_ne _ _ (by decide)).trans (((hG_2 37 (by decide))).trans (hG_1 37 (by decide)))] at l2_32
          have l1_at105 := l1_32
          have l2_at105 := l2_32
          show TT K ly 0 0 108 [(4, vI 0), (3, vI (qS (h 36 x))), (0, vR 34), (1, vI x), (2, vI b)] [] g105_32
          have hq9 : MQ_ (((h 34) 3) - (qS (h 36 x))) (((h 34) 4) + (qS (h 36 x))) (h 34 5) (h 34 2) (h 38) := MQ_tell (x := x) (st := h 36) (P := (b = h 37 x ↔ h 34 3 - qS (h 36 x) < qS (h 36 x))) hq ha hs (by first | exact (if_pos (by omega)).symm | exact (if_neg (by omega)).symm) (by first | exact (if_pos (by omega)).symm | exact (if_neg (by omega)).symm)
          have eT := tellS_m (a := h 34 3) (c := h 34 4) (t := h 34 5) (n := h 34 2) (o := h 38) (st := h 36) (lk := h 37) (x := x) (b := b) (P := (b ≠ h 37 x)) (a2 := (((h 34) 3) - (qS (h 36 x)))) (c2 := (((h 34) 4) + (qS (h 36 x)))) (by omega) (by first | exact (if_pos (by omega)).symm | exact (if_neg (by omega)).symm) (by first | exact (if_pos (by omega)).symm | exact (if_neg (by omega)).symm) Iff.rfl
          refine TT_aload_n hK rfl 2 rfl dX8_tell_108 ?_
          have e33_34_5 : g105_32 34 5 = (h 34) 5 := rd_ (((hG_32 34 (by decide))).trans (sOf_eq _ _ _)) ((fup_ne _ _ (by decide)).trans (fup_ne _ _ (by decide)))
          have e34_34_2 : g105_32 34 2 = (h 34) 2 := rd_ (((hG_32 34 (by decide))).trans (sOf_eq _ _ _)) ((fup_ne _ _ (by decide)).trans (fup_ne _ _ (by decide)))
          have e35_34_2 : g105_32 34 2 = (h 34) 2 := rd_ (((hG_32 34 (by decide))).trans (sOf_eq _ _ _)) ((fup_ne _ _ (by decide)).trans (fup_ne _ _ (by decide)))
          have e36_34_3 : g105_32 34 3 = ((h 34) 3) - (qS (h 36 x)) := rd_ (((hG_32 34 (by decide))).trans (sOf_eq _ _ _)) ((fup_ne _ _ (by decide)).trans (fup_eq _ _ _))
          have e37_34_4 : g105_32 34 4 = ((h 34) 4) + (qS (h 36 x)) := rd_ (((hG_32 34 (by decide))).trans (sOf_eq _ _ _)) (fup_eq _ _ _)
          have e38_34_5 : g105_32 34 5 = (h 34) 5 := rd_ (((hG_32 34 (by decide))).trans (sOf_eq _ _ _)) ((fup_ne _ _ (by decide)).trans (fup_ne _ _ (by decide)))
          have e39_38 : g105_32 38 = h 38 := ((hG_32 38 (by decide))).trans ((sOf_ne _ _ (by decide)).trans (((hG_2 38 (by decide))).trans (hG_1 38 (by decide))))
          have e40_34_2 : g105_32 34 2 = (h 34) 2 := rd_ (((hG_32 34 (by decide))).trans (sOf_eq _ _ _)) ((fup_ne _ _ (by decide)).trans (fup_ne _ _ (by decide)))
          refine iv_X8_50 hK (s_mend_e g105_32 hT_32 (by rewrite [e33_34_5]; first | omega | (simp [up, setR] <;> omega)) (by rewrite [e34_34_2]; first | omega | (simp [up, setR] <;> omega)) (by rewrite [e35_34_2, e36_34_3, e37_34_4, e38_34_5, e39_38]; exact hq9) (by rewrite [e40_34_2]; first | omega | (simp [up, setR] <;> omega))) (by decide) rfl ⟨by decide, by decide⟩ (by decide) rfl rfl (Nat.le_of_ble_eq_true rfl) ⟨by decide, by decide⟩ dX8_tell_109 ?_
          intro r9 g109_41 hp9
          obtain ⟨⟨hT_41, hG_41⟩, hr9, p1_41, p2_41, m_41⟩ := hp9
          rw [hr9]
          have hF_41 : FR [34, 36, 37, 38] h g109_41 := FR_tr hF_32 hG_41 (by decide)
          rw [show g105_32 34 2 = (h 34) 2 from rd_ (((hG_32 34 (by decide))).trans (sOf_eq _ _ _)) ((fup_ne _ _ (by decide)).trans (fup_ne _ _ (by decide)))] at m_41
          rw [show g105_32 34 3 = ((h 34) 3) - (qS (h 36 x)) from rd_ (((hG_32 34 (by decide))).trans (sOf_eq _ _ _)) ((fup_ne _ _ (by decide)).trans (fup_eq _ _ _))] at m_41
          rw [show g105_32 34 4 = ((h 34) 4) + (qS (h 36 x)) from rd_ (((hG_32 34 (by decide))).trans (sOf_eq _ _ _)) (fup_eq _ _ _)] at m_41
          rw [show g105_32 34 5 = (h 34) 5 from rd_ (((hG_32 34 (by decide))).trans (sOf_eq _ _ _)) ((fup_ne _ _ (by decide)).trans (fup_ne _ _ (by decide)))] at m_41
          rw [show g105_32 38 = h 38 from ((hG_32 38 (by decide))).trans ((sOf_ne _ _ (by decide)).trans (((hG_2 38 (by decide))).trans (hG_1 38 (by decide))))] at m_41
          have m_at109 := m_41
          show TT K ly 0 0 112 [(4, vI 0), (3, vI (qS (h 36 x))), (0, vR 34), (1, vI x), (2, vI b)] [] g109_41
          refine TT_vret hK hQ ?_ dX8_tell_112
          have e42_34_5 : g109_41 34 5 = (g109_41 34) 5 := rfl
          have e43_34_2 : g109_41 34 2 = (g109_41 34) 2 := rfl
          have e44_34_2 : g109_41 34 2 = (g109_41 34) 2 := rfl
          have e45_34_3 : g109_41 34 3 = (g109_41 34) 3 := rfl
          have e46_34_4 : g109_41 34 4 = (g109_41 34) 4 := rfl
          have e47_34_5 : g109_41 34 5 = (g109_41 34) 5 := rfl
          have e48_36 : g109_41 36 = g105_32 36 := (hG_41 36 (by decide))
          have e49_37 : g109_41 37 = g105_32 37 := (hG_41 37 (by decide))
          exact ⟨⟨hT_41, hF_41⟩, rfl, (by rewrite [e42_34_5]; omega), (by rewrite [e43_34_2]; omega), (by rewrite [e44_34_2, e45_34_3, e46_34_4, e47_34_5, e48_36, e49_37]; first | exact (tellS_1 (by omega)).symm | (rw [eT, l1_at105, l2_at105]; have m3 := congrArg (fun q => q.1) m_at109; have m4 := congrArg (fun q => q.2.1) m_at109; have m5 := congrArg (fun q => q.2.2.1) m_at109; have m2 := congrArg (fun q => q.2.2.2.1) m_at109; have m8 := congrArg (fun q => q.2.2.2.2) m_at109; dsimp only at m3 m4 m5 m2 m8; rw [← m3, ← m4, ← m5, ← m2, ← m8]))⟩
        · exact absurd hb78_29 (by decide)
    · exact absurd hb40_6 (by decide)
  · refine TT_iconst hK dX8_tell_21 ?_
    refine TT_goto hK (tgt := 26) dX8_tell_22 (by decide) ?_
    refine TT_istore hK (lv' := [(4, vI 1), (3, vI (qS (h 36 x))), (0, vR 34), (1, vI x), (2, vI b)]) (by decide) rfl dX8_tell_26 ?_
    refine TT_aload_n hK rfl 2 rfl dX8_tell_28 ?_
    refine TT_dup hK rfl dX8_tell_29 ?_
    refine gf_X8_30 hK (by decide) rfl (v := (h 34) 3) (rd_ (((hG_2 34 (by decide))).trans (hG_1 34 (by decide))) rfl) dX8_tell_30 ?_
    have r50 := ty_34_3 (v := (h 34) 3) hT_2 (rd_ (((hG_2 34 (by decide))).trans (hG_1 34 (by decide))) rfl)
    refine TT_iload_n hK rfl 1 rfl dX8_tell_33 ?_
    refine TT_isub hK dX8_tell_34 ?_
    refine pf_X8_30 hK (by decide) rfl dX8_tell_35 ?_
    refine TT_hp (h' := setO g15_2 34 (fup (h 34) 3 (((h 34) 3) - (qS (h 36 x))))) (up_can (((hG_2 34 (by decide))).trans (hG_1 34 (by decide))) rfl rfl) ?_
    have hT_51 : TY (setO g15_2 34 (fup (h 34) 3 (((h 34) 3) - (qS (h 36 x))))) := tu_34_3 hT_2 (show up g15_2 34 3 (((h 34) 3) - (qS (h 36 x))) = (setO g15_2 34 (fup (h 34) 3 (((h 34) 3) - (qS (h 36 x))))) from up_can (((hG_2 34 (by decide))).trans (hG_1 34 (by decide))) rfl rfl) (by omega)
    have hF_51 : FR [34, 36, 37, 38] h (setO g15_2 34 (fup (h 34) 3 (((h 34) 3) - (qS (h 36 x))))) := FR_up (show up g15_2 34 3 (((h 34) 3) - (qS (h 36 x))) = (setO g15_2 34 (fup (h 34) 3 (((h 34) 3) - (qS (h 36 x))))) from up_can (((hG_2 34 (by decide))).trans (hG_1 34 (by decide))) rfl rfl) hF_2 (by decide)
    refine TT_iload hK 0 rfl dX8_tell_38 ?_
    refine TT_if_eq hK (tgt := 63) (by decide) dX8_tell_40 (by decide) (fun hb40_52 => ?_) (fun hb40_52 => ?_)
    · exact absurd hb40_52 (by decide)
    · refine TT_aload_n hK rfl 2 rfl dX8_tell_43 ?_
      refine gf_X8_30 hK (by decide) rfl (v := ((h 34) 3) - (qS (h 36 x))) (rd_ (sOf_eq _ _ _) (fup_eq _ _ _)) dX8_tell_44 ?_
      have r53 := ty_34_3 (v := ((h 34) 3) - (qS (h 36 x))) hT_51 (rd_ (sOf_eq _ _ _) (fup_eq _ _ _))
      refine TT_ldc hK lc_X8_29 dX8_tell_47 ?_
      refine TT_icmp_lt hK (tgt := 63) (irm (by omega) (by omega)) (by decide) dX8_tell_49 (by decide) (fun hb49_54 => ?_) (fun hb49_54 => ?_)
      · refine TT_iload hK 0 rfl dX8_tell_63 ?_
        refine TT_aload_n hK rfl 2 rfl dX8_tell_65 ?_
        refine gf_X8_30 hK (by decide) rfl (v := ((h 34) 3) - (qS (h 36 x))) (rd_ (sOf_eq _ _ _) (fup_eq _ _ _)) dX8_tell_66 ?_
        refine TT_iload_n hK rfl 1 rfl dX8_tell_69 ?_
        refine TT_icmp_ge hK (tgt := 77) (irm (by omega) (by omega)) (irm (by omega) (by omega)) dX8_tell_70 (by decide) (fun hb70_55 => ?_) (fun hb70_55 => ?_)
        · refine TT_iconst hK dX8_tell_77 ?_
          refine TT_icmp_ne hK (tgt := 89) (by decide) (by decide) dX8_tell_78 (by decide) (fun hb78_56 => ?_) (fun hb78_56 => ?_)
          · refine TT_aload_n hK rfl 2 rfl dX8_tell_89 ?_
            refine TT_dup hK rfl dX8_tell_90 ?_
            refine gf_X8_33 hK (by decide) rfl (v := (h 34) 4) (rd_ (sOf_eq _ _ _) (fup_ne _ _ (by decide))) dX8_tell_91 ?_
            have r57 := ty_34_4 (v := (h 34) 4) hT_51 (rd_ (sOf_eq _ _ _) (fup_ne _ _ (by decide)))
            refine TT_iload_n hK rfl 1 rfl dX8_tell_94 ?_
            refine TT_iadd hK dX8_tell_95 ?_
            refine pf_X8_33 hK (by decide) rfl dX8_tell_96 ?_
            refine TT_hp (h' := setO g15_2 34 (fup (fup (h 34) 3 (((h 34) 3) - (qS (h 36 x)))) 4 (((h 34) 4) + (qS (h 36 x))))) (up_can (sOf_eq _ _ _) rfl (setO_same _ _ _ _)) ?_
            have hT_58 : TY (setO g15_2 34 (fup (fup (h 34) 3 (((h 34) 3) - (qS (h 36 x)))) 4 (((h 34) 4) + (qS (h 36 x))))) := tu_34_4 hT_51 (show up (setO g15_2 34 (fup (h 34) 3 (((h 34) 3) - (qS (h 36 x))))) 34 4 (((h 34) 4) + (qS (h 36 x))) = (setO g15_2 34 (fup (fup (h 34) 3 (((h 34) 3) - (qS (h 36 x)))) 4 (((h 34) 4) + (qS (h 36 x))))) from up_can (sOf_eq _ _ _) rfl (setO_same _ _ _ _)) (by omega)
            have hF_58 : FR [34, 36, 37, 38] h (setO g15_2 34 (fup (fup (h 34) 3 (((h 34) 3) - (qS (h 36 x)))) 4 (((h 34) 4) + (qS (h 36 x))))) := FR_up (show up (setO g15_2 34 (fup (h 34) 3 (((h 34) 3) - (qS (h 36 x))))) 34 4 (((h 34) 4) + (qS (h 36 x))) = (setO g15_2 34 (fup (fup (h 34) 3 (((h 34) 3) - (qS (h 36 x)))) 4 (((h 34) 4) + (qS (h 36 x))))) from up_can (sOf_eq _ _ _) rfl (setO_same _ _ _ _)) hF_51 (by decide)
            refine TT_aload_n hK rfl 2 rfl dX8_tell_99 ?_
            refine gf_X8_12 hK (by decide) rfl (q := 35) rfl rfl dX8_tell_100 ?_
            refine TT_iload_n hK rfl 3 rfl dX8_tell_103 ?_
            refine TT_iload_n hK rfl 4 rfl dX8_tell_104 ?_
            refine iv_X8_46 hK (s_clearn_e x b (setO g15_2 34 (fup (fup (h 34) 3 (((h 34) 3) - (qS (h 36 x)))) 4 (((h 34) 4) + (qS (h 36 x))))) hT_58 (by first | omega | (simp [up, setR] <;> omega)) (by first | omega | (simp [up, setR] <;> omega))) (by decide) rfl ⟨by decide, by decide⟩ (by decide) rfl rfl (Nat.le_of_ble_eq_true rfl) ⟨by decide, by decide⟩ dX8_tell_105 ?_
            intro r9 g105_59 hp9
            obtain ⟨⟨hT_59, hG_59⟩, hr9, l1_59, l2_59⟩ := hp9
            rw [hr9]
            have hF_59 : FR [34, 36, 37, 38] h g105_59 := FR_tr hF_58 hG_59 (by decide)
            rw [show (setO g15_2 34 (fup (fup (h 34) 3 (((h 34) 3) - (qS (h 36 x)))) 4 (((h 34) 4) + (qS (h 36 x))))) 36 = h 36 from (sOf_ne _ _ (by decide)).trans (((hG_2 36 (by decide))).trans (hG_1 36 (by decide)))] at l1_59
            rw [show (setO g15_2 34 (fup (fup (h 34) 3 (((h 34) 3) - (qS (h 36 x)))) 4 (((h 34) 4) + (qS (h 36 x))))) 37 = h 37 from (sOf_ne _ _ (by decide)).trans (((hG_2 37 (by decide))).trans (hG_1 37 (by decide)))] at l1_59
            rw [show (setO g15_2 34 (fup (fup (h 34) 3 (((h 34) 3) - (qS (h 36 x)))) 4 (((h 34) 4) + (qS (h 36 x))))) 36 = h 36 from (sOf_ne _ _ (by decide)).trans (((hG_2 36 (by decide))).trans (hG_1 36 (by decide)))] at l2_59
            rw [show (setO g15_2 34 (fup (fup (h 34) 3 (((h 34) 3) - (qS (h 36 x)))) 4 (((h 34) 4) + (qS (h 36 x))))) 37 = h 37 from (sOf_ne _ _ (by decide)).trans (((hG_2 37 (by decide))).trans (hG_1 37 (by decide)))] at l2_59
            have l1_at105 := l1_59
            have l2_at105 := l2_59
            show TT K ly 0 0 108 [(4, vI 1), (3, vI (qS (h 36 x))), (0, vR 34), (1, vI x), (2, vI b)] [] g105_59
            have hq9 : MQ_ (((h 34) 3) - (qS (h 36 x))) (((h 34) 4) + (qS (h 36 x))) (h 34 5) (h 34 2) (h 38) := MQ_tell (x := x) (st := h 36) (P := (b = h 37 x ↔ h 34 3 - qS (h 36 x) < qS (h 36 x))) hq ha hs (by first | exact (if_pos (by omega)).symm | exact (if_neg (by omega)).symm) (by first | exact (if_pos (by omega)).symm | exact (if_neg (by omega)).symm)
            have eT := tellS_m (a := h 34 3) (c := h 34 4) (t := h 34 5) (n := h 34 2) (o := h 38) (st := h 36) (lk := h 37) (x := x) (b := b) (P := (b ≠ h 37 x)) (a2 := (((h 34) 3) - (qS (h 36 x)))) (c2 := (((h 34) 4) + (qS (h 36 x)))) (by omega) (by first | exact (if_pos (by omega)).symm | exact (if_neg (by omega)).symm) (by first | exact (if_pos (by omega)).symm | exact (if_neg (by omega)).symm) Iff.rfl
            refine TT_aload_n hK rfl 2 rfl dX8_tell_108 ?_
            have e60_34_5 : g105_59 34 5 = (h 34) 5 := rd_ (((hG_59 34 (by decide))).trans (sOf_eq _ _ _)) ((fup_ne _ _ (by decide)).trans (fup_ne _ _ (by decide)))
            have e61_34_2 : g105_59 34 2 = (h 34) 2 := rd_ (((hG_59 34 (by decide))).trans (sOf_eq _ _ _)) ((fup_ne _ _ (by decide)).trans (fup_ne _ _ (by decide)))
            have e62_34_2 : g105_59 34 2 = (h 34) 2 := rd_ (((hG_59 34 (by decide))).trans (sOf_eq _ _ _)) ((fup_ne _ _ (by decide)).trans (fup_ne _ _ (by decide)))
            have e63_34_3 : g105_59 34 3 = ((h 34) 3) - (qS (h 36 x)) := rd_ (((hG_59 34 (by decide))).trans (sOf_eq _ _ _)) ((fup_ne _ _ (by decide)).trans (fup_eq _ _ _))
            have e64_34_4 : g105_59 34 4 = ((h 34) 4) + (qS (h 36 x)) := rd_ (((hG_59 34 (by decide))).trans (sOf_eq _ _ _)) (fup_eq _ _ _)
            have e65_34_5 : g105_59 34 5 = (h 34) 5 := rd_ (((hG_59 34 (by decide))).trans (sOf_eq _ _ _)) ((fup_ne _ _ (by decide)).trans (fup_ne _ _ (by decide)))
            have e66_38 : g105_59 38 = h 38 := ((hG_59 38 (by decide))).trans ((sOf_ne _ _ (by decide)).trans (((hG_2 38 (by decide))).trans (hG_1 38 (by decide))))
            have e67_34_2 : g105_59 34 2 = (h 34) 2 := rd_ (((hG_59 34 (by decide))).trans (sOf_eq _ _ _)) ((fup_ne _ _ (by decide)).trans (fup_ne _ _ (by decide)))
            refine iv_X8_50 hK (s_mend_e g105_59 hT_59 (by rewrite [e60_34_5]; first | omega | (simp [up, setR] <;> omega)) (by rewrite [e61_34_2]; first | omega | (simp [up, setR] <;> omega)) (by rewrite [e62_34_2, e63_34_3, e64_34_4, e65_34_5, e66_38]; exact hq9) (by rewrite [e67_34_2]; first | omega | (simp [up, setR] <;> omega))) (by decide) rfl ⟨by decide, by decide⟩ (by decide) rfl rfl (Nat.le_of_ble_eq_true rfl) ⟨by decide, by decide⟩ dX8_tell_109 ?_
            intro r9 g109_68 hp9
            obtain ⟨⟨hT_68, hG_68⟩, hr9, p1_68, p2_68, m_68⟩ := hp9
            rw [hr9]
            have hF_68 : FR [34, 36, 37, 38] h g109_68 := FR_tr hF_59 hG_68 (by decide)
            rw [show g105_59 34 2 = (h 34) 2 from rd_ (((hG_59 34 (by decide))).trans (sOf_eq _ _ _)) ((fup_ne _ _ (by decide)).trans (fup_ne _ _ (by decide)))] at m_68
            rw [show g105_59 34 3 = ((h 34) 3) - (qS (h 36 x)) from rd_ (((hG_59 34 (by decide))).trans (sOf_eq _ _ _)) ((fup_ne _ _ (by decide)).trans (fup_eq _ _ _))] at m_68
            rw [show g105_59 34 4 = ((h 34) 4) + (qS (h 36 x)) from rd_ (((hG_59 34 (by decide))).trans (sOf_eq _ _ _)) (fup_eq _ _ _)] at m_68
            rw [show g105_59 34 5 = (h 34) 5 from rd_ (((hG_59 34 (by decide))).trans (sOf_eq _ _ _)) ((fup_ne _ _ (by decide)).trans (fup_ne _ _ (by decide)))] at m_68
            rw [show g105_59 38 = h 38 from ((hG_59 38 (by decide))).trans ((sOf_ne _ _ (by decide)).trans (((hG_2 38 (by decide))).trans (hG_1 38 (by decide))))] at m_68
            have m_at109 := m_68
            show TT K ly 0 0 112 [(4, vI 1), (3, vI (qS (h 36 x))), (0, vR 34), (1, vI x), (2, vI b)] [] g109_68
            refine TT_vret hK hQ ?_ dX8_tell_112
            have e69_34_5 : g109_68 34 5 = (g109_68 34) 5 := rfl
            have e70_34_2 : g109_68 34 2 = (g109_68 34) 2 := rfl
            have e71_34_2 : g109_68 34 2 = (g109_68 34) 2 := rfl
            have e72_34_3 : g109_68 34 3 = (g109_68 34) 3 := rfl
            have e73_34_4 : g109_68 34 4 = (g109_68 34) 4 := rfl
            have e74_34_5 : g109_68 34 5 = (g109_68 34) 5 := rfl
            have e75_36 : g109_68 36 = g105_59 36 := (hG_68 36 (by decide))
            have e76_37 : g109_68 37 = g105_59 37 := (hG_68 37 (by decide))
            exact ⟨⟨hT_68, hF_68⟩, rfl, (by rewrite [e69_34_5]; omega), (by rewrite [e70_34_2]; omega), (by rewrite [e71_34_2, e72_34_3, e73_34_4, e74_34_5, e75_36, e76_37]; first | exact (tellS_1 (by omega)).symm | (rw [eT, l1_at105, l2_at105]; have m3 := congrArg (fun q => q.1) m_at109; have m4 := congrArg (fun q => q.2.1) m_at109; have m5 := congrArg (fun q => q.2.2.1) m_at109; have m2 := congrArg (fun q => q.2.2.2.1) m_at109; have m8 := congrArg (fun q => q.2.2.2.2) m_at109; dsimp only at m3 m4 m5 m2 m8; rw [← m3, ← m4, ← m5, ← m2, ← m8]))⟩
          · exact absurd hb78_56 (by decide)
        · refine TT_iconst hK dX8_tell_73 ?_
          refine TT_goto hK (tgt := 78) dX8_tell_74 (by decide) ?_
          refine TT_icmp_ne hK (tgt := 89) (by decide) (by decide) dX8_tell_78 (by decide) (fun hb78_77 => ?_) (fun hb78_77 => ?_)
          · exact absurd hb78_77 (by decide)
          · refine TT_aload_n hK rfl 2 rfl dX8_tell_81 ?_
            refine TT_iload_n hK rfl 1 rfl dX8_tell_82 ?_
            refine pf_X8_30 hK (by decide) rfl dX8_tell_83 ?_
            refine TT_hp (h' := setO g15_2 34 (fup (h 34) 3 (qS (h 36 x)))) (up_can (sOf_eq _ _ _) (fup_same _ _ _ _) (setO_same _ _ _ _)) ?_
            have hT_78 : TY (setO g15_2 34 (fup (h 34) 3 (qS (h 36 x)))) := tu_34_3 hT_51 (show up (setO g15_2 34 (fup (h 34) 3 (((h 34) 3) - (qS (h 36 x))))) 34 3 (qS (h 36 x)) = (setO g15_2 34 (fup (h 34) 3 (qS (h 36 x)))) from up_can (sOf_eq _ _ _) (fup_same _ _ _ _) (setO_same _ _ _ _)) (by omega)
            have hF_78 : FR [34, 36, 37, 38] h (setO g15_2 34 (fup (h 34) 3 (qS (h 36 x)))) := FR_up (show up (setO g15_2 34 (fup (h 34) 3 (((h 34) 3) - (qS (h 36 x))))) 34 3 (qS (h 36 x)) = (setO g15_2 34 (fup (h 34) 3 (qS (h 36 x)))) from up_can (sOf_eq _ _ _) (fup_same _ _ _ _) (setO_same _ _ _ _)) hF_51 (by decide)
            refine TT_goto hK (tgt := 99) dX8_tell_86 (by decide) ?_
            refine TT_aload_n hK rfl 2 rfl dX8_tell_99 ?_
            refine gf_X8_12 hK (by decide) rfl (q := 35) rfl rfl dX8_tell_100 ?_
            refine TT_iload_n hK rfl 3 rfl dX8_tell_103 ?_
            refine TT_iload_n hK rfl 4 rfl dX8_tell_104 ?_
            refine iv_X8_46 hK (s_clearn_e x b (setO g15_2 34 (fup (h 34) 3 (qS (h 36 x)))) hT_78 (by first | omega | (simp [up, setR] <;> omega)) (by first | omega | (simp [up, setR] <;> omega))) (by decide) rfl ⟨by decide, by decide⟩ (by decide) rfl rfl (Nat.le_of_ble_eq_true rfl) ⟨by decide, by decide⟩ dX8_tell_105 ?_
            intro r9 g105_79 hp9
            obtain ⟨⟨hT_79, hG_79⟩, hr9, l1_79, l2_79⟩ := hp9
            rw [hr9]
            have hF_79 : FR [34, 36, 37, 38] h g105_79 := FR_tr hF_78 hG_79 (by decide)
            rw [show (setO g15_2 34 (fup (h 34) 3 (qS (h 36 x)))) 36 = h 36 from (sOf_ne _ _ (by decide)).trans (((hG_2 36 (by decide))).trans (hG_1 36 (by decide)))] at l1_79
            rw [show (setO g15_2 34 (fup (h 34) 3 (qS (h 36 x)))) 37 = h 37 from (sOf_ne _ _ (by decide)).trans (((hG_2 37 (by decide))).trans (hG_1 37 (by decide)))] at l1_79
            rw [show (setO g15_2 34 (fup (h 34) 3 (qS (h 36 x)))) 36 = h 36 from (sOf_ne _ _ (by decide)).trans (((hG_2 36 (by decide))).trans (hG_1 36 (by decide)))] at l2_79
            rw [show (setO g15_2 34 (fup (h 34) 3 (qS (h 36 x)))) 37 = h 37 from (sOf_ne _ _ (by decide)).trans (((hG_2 37 (by decide))).trans (hG_1 37 (by decide)))] at l2_79
            have l1_at105 := l1_79
            have l2_at105 := l2_79
            show TT K ly 0 0 108 [(4, vI 1), (3, vI (qS (h 36 x))), (0, vR 34), (1, vI x), (2, vI b)] [] g105_79
            have hq9 : MQ_ (qS (h 36 x)) ((h 34) 4) (h 34 5) (h 34 2) (h 38) := MQ_tell (x := x) (st := h 36) (P := (b = h 37 x ↔ h 34 3 - qS (h 36 x) < qS (h 36 x))) hq ha hs (by first | exact (if_pos (by omega)).symm | exact (if_neg (by omega)).symm) (by first | exact (if_pos (by omega)).symm | exact (if_neg (by omega)).symm)
            have eT := tellS_m (a := h 34 3) (c := h 34 4) (t := h 34 5) (n := h 34 2) (o := h 38) (st := h 36) (lk := h 37) (x := x) (b := b) (P := (b ≠ h 37 x)) (a2 := (qS (h 36 x))) (c2 := ((h 34) 4)) (by omega) (by first | exact (if_pos (by omega)).symm | exact (if_neg (by omega)).symm) (by first | exact (if_pos (by omega)).symm | exact (if_neg (by omega)).symm) Iff.rfl
            refine TT_aload_n hK rfl 2 rfl dX8_tell_108 ?_
            have e80_34_5 : g105_79 34 5 = (h 34) 5 := rd_ (((hG_79 34 (by decide))).trans (sOf_eq _ _ _)) (fup_ne _ _ (by decide))
            have e81_34_2 : g105_79 34 2 = (h 34) 2 := rd_ (((hG_79 34 (by decide))).trans (sOf_eq _ _ _)) (fup_ne _ _ (by decide))
            have e82_34_2 : g105_79 34 2 = (h 34) 2 := rd_ (((hG_79 34 (by decide))).trans (sOf_eq _ _ _)) (fup_ne _ _ (by decide))
            have e83_34_3 : g105_79 34 3 = qS (h 36 x) := rd_ (((hG_79 34 (by decide))).trans (sOf_eq _ _ _)) (fup_eq _ _ _)
            have e84_34_4 : g105_79 34 4 = (h 34) 4 := rd_ (((hG_79 34 (by decide))).trans (sOf_eq _ _ _)) (fup_ne _ _ (by decide))
            have e85_34_5 : g105_79 34 5 = (h 34) 5 := rd_ (((hG_79 34 (by decide))).trans (sOf_eq _ _ _)) (fup_ne _ _ (by decide))
            have e86_38 : g105_79 38 = h 38 := ((hG_79 38 (by decide))).trans ((sOf_ne _ _ (by decide)).trans (((hG_2 38 (by decide))).trans (hG_1 38 (by decide))))
            have e87_34_2 : g105_79 34 2 = (h 34) 2 := rd_ (((hG_79 34 (by decide))).trans (sOf_eq _ _ _)) (fup_ne _ _ (by decide))
            refine iv_X8_50 hK (s_mend_e g105_79 hT_79 (by rewrite [e80_34_5]; first | omega | (simp [up, setR] <;> omega)) (by rewrite [e81_34_2]; first | omega | (simp [up, setR] <;> omega)) (by rewrite [e82_34_2, e83_34_3, e84_34_4, e85_34_5, e86_38]; exact hq9) (by rewrite [e87_34_2]; first | omega | (simp [up, setR] <;> omega))) (by decide) rfl ⟨by decide, by decide⟩ (by decide) rfl rfl (Nat.le_of_ble_eq_true rfl) ⟨by decide, by decide⟩ dX8_tell_109 ?_
            intro r9 g109_88 hp9
            obtain ⟨⟨hT_88, hG_88⟩, hr9, p1_88, p2_88, m_88⟩ := hp9
            rw [hr9]
            have hF_88 : FR [34, 36, 37, 38] h g109_88 := FR_tr hF_79 hG_88 (by decide)
            rw [show g105_79 34 2 = (h 34) 2 from rd_ (((hG_79 34 (by decide))).trans (sOf_eq _ _ _)) (fup_ne _ _ (by decide))] at m_88
            rw [show g105_79 34 3 = qS (h 36 x) from rd_ (((hG_79 34 (by decide))).trans (sOf_eq _ _ _)) (fup_eq _ _ _)] at m_88
            rw [show g105_79 34 4 = (h 34) 4 from rd_ (((hG_79 34 (by decide))).trans (sOf_eq _ _ _)) (fup_ne _ _ (by decide))] at m_88
            rw [show g105_79 34 5 = (h 34) 5 from rd_ (((hG_79 34 (by decide))).trans (sOf_eq _ _ _)) (fup_ne _ _ (by decide))] at m_88
            rw [show g105_79 38 = h 38 from ((hG_79 38 (by decide))).trans ((sOf_ne _ _ (by decide)).trans (((hG_2 38 (by decide))).trans (hG_1 38 (by decide))))] at m_88
            have m_at109 := m_88
            show TT K ly 0 0 112 [(4, vI 1), (3, vI (qS (h 36 x))), (0, vR 34), (1, vI x), (2, vI b)] [] g109_88
            refine TT_vret hK hQ ?_ dX8_tell_112
            have e89_34_5 : g109_88 34 5 = (g109_88 34) 5 := rfl
            have e90_34_2 : g109_88 34 2 = (g109_88 34) 2 := rfl
            have e91_34_2 : g109_88 34 2 = (g109_88 34) 2 := rfl
            have e92_34_3 : g109_88 34 3 = (g109_88 34) 3 := rfl
            have e93_34_4 : g109_88 34 4 = (g109_88 34) 4 := rfl
            have e94_34_5 : g109_88 34 5 = (g109_88 34) 5 := rfl
            have e95_36 : g109_88 36 = g105_79 36 := (hG_88 36 (by decide))
            have e96_37 : g109_88 37 = g105_79 37 := (hG_88 37 (by decide))
            exact ⟨⟨hT_88, hF_88⟩, rfl, (by rewrite [e89_34_5]; omega), (by rewrite [e90_34_2]; omega), (by rewrite [e91_34_2, e92_34_3, e93_34_4, e94_34_5, e95_36, e96_37]; first | exact (tellS_1 (by omega)).symm | (rw [eT, l1_at105, l2_at105]; have m3 := congrArg (fun q => q.1) m_at109; have m4 := congrArg (fun q => q.2.1) m_at109; have m5 := congrArg (fun q => q.2.2.1) m_at109; have m2 := congrArg (fun q => q.2.2.2.1) m_at109; have m8 := congrArg (fun q => q.2.2.2.2) m_at109; dsimp only at m3 m4 m5 m2 m8; rw [← m3, ← m4, ← m5, ← m2, ← m8]))⟩
      · refine TT_aload_n hK rfl 2 rfl dX8_tell_52 ?_
        refine TT_dup hK rfl dX8_tell_53 ?_
        refine gf_X8_33 hK (by decide) rfl (v := (h 34) 4) (rd_ (sOf_eq _ _ _) (fup_ne _ _ (by decide))) dX8_tell_54 ?_
        have r97 := ty_34_4 (v := (h 34) 4) hT_51 (rd_ (sOf_eq _ _ _) (fup_ne _ _ (by decide)))
        refine TT_iload_n hK rfl 1 rfl dX8_tell_57 ?_
        refine TT_iadd hK dX8_tell_58 ?_
        refine pf_X8_33 hK (by decide) rfl dX8_tell_59 ?_
        refine TT_hp (h' := setO g15_2 34 (fup (fup (h 34) 3 (((h 34) 3) - (qS (h 36 x)))) 4 (((h 34) 4) + (qS (h 36 x))))) (up_can (sOf_eq _ _ _) rfl (setO_same _ _ _ _)) ?_
        have hT_98 : TY (setO g15_2 34 (fup (fup (h 34) 3 (((h 34) 3) - (qS (h 36 x)))) 4 (((h 34) 4) + (qS (h 36 x))))) := tu_34_4 hT_51 (show up (setO g15_2 34 (fup (h 34) 3 (((h 34) 3) - (qS (h 36 x))))) 34 4 (((h 34) 4) + (qS (h 36 x))) = (setO g15_2 34 (fup (fup (h 34) 3 (((h 34) 3) - (qS (h 36 x)))) 4 (((h 34) 4) + (qS (h 36 x))))) from up_can (sOf_eq _ _ _) rfl (setO_same _ _ _ _)) (by omega)
        have hF_98 : FR [34, 36, 37, 38] h (setO g15_2 34 (fup (fup (h 34) 3 (((h 34) 3) - (qS (h 36 x)))) 4 (((h 34) 4) + (qS (h 36 x))))) := FR_up (show up (setO g15_2 34 (fup (h 34) 3 (((h 34) 3) - (qS (h 36 x))))) 34 4 (((h 34) 4) + (qS (h 36 x))) = (setO g15_2 34 (fup (fup (h 34) 3 (((h 34) 3) - (qS (h 36 x)))) 4 (((h 34) 4) + (qS (h 36 x))))) from up_can (sOf_eq _ _ _) rfl (setO_same _ _ _ _)) hF_51 (by decide)
        refine TT_vret hK hQ ?_ dX8_tell_62
        have e99_34_5 : (setO g15_2 34 (fup (fup (h 34) 3 (((h 34) 3) - (qS (h 36 x)))) 4 (((h 34) 4) + (qS (h 36 x))))) 34 5 = (h 34) 5 := rd_ (sOf_eq _ _ _) ((fup_ne _ _ (by decide)).trans (fup_ne _ _ (by decide)))
        have e100_34_2 : (setO g15_2 34 (fup (fup (h 34) 3 (((h 34) 3) - (qS (h 36 x)))) 4 (((h 34) 4) + (qS (h 36 x))))) 34 2 = (h 34) 2 := rd_ (sOf_eq _ _ _) ((fup_ne _ _ (by decide)).trans (fup_ne _ _ (by decide)))
        have e101_34_2 : (setO g15_2 34 (fup (fup (h 34) 3 (((h 34) 3) - (qS (h 36 x)))) 4 (((h 34) 4) + (qS (h 36 x))))) 34 2 = (h 34) 2 := rd_ (sOf_eq _ _ _) ((fup_ne _ _ (by decide)).trans (fup_ne _ _ (by decide)))
        have e102_34_3 : (setO g15_2 34 (fup (fup (h 34) 3 (((h 34) 3) - (qS (h 36 x)))) 4 (((h 34) 4) + (qS (h 36 x))))) 34 3 = ((h 34) 3) - (qS (h 36 x)) := rd_ (sOf_eq _ _ _) ((fup_ne _ _ (by decide)).trans (fup_eq _ _ _))
        have e103_34_4 : (setO g15_2 34 (fup (fup (h 34) 3 (((h 34) 3) - (qS (h 36 x)))) 4 (((h 34) 4) + (qS (h 36 x))))) 34 4 = ((h 34) 4) + (qS (h 36 x)) := rd_ (sOf_eq _ _ _) (fup_eq _ _ _)
        have e104_34_5 : (setO g15_2 34 (fup (fup (h 34) 3 (((h 34) 3) - (qS (h 36 x)))) 4 (((h 34) 4) + (qS (h 36 x))))) 34 5 = (h 34) 5 := rd_ (sOf_eq _ _ _) ((fup_ne _ _ (by decide)).trans (fup_ne _ _ (by decide)))
        have e105_36 : (setO g15_2 34 (fup (fup (h 34) 3 (((h 34) 3) - (qS (h 36 x)))) 4 (((h 34) 4) + (qS (h 36 x))))) 36 = h 36 := (sOf_ne _ _ (by decide)).trans (((hG_2 36 (by decide))).trans (hG_1 36 (by decide)))
        have e106_37 : (setO g15_2 34 (fup (fup (h 34) 3 (((h 34) 3) - (qS (h 36 x)))) 4 (((h 34) 4) + (qS (h 36 x))))) 37 = h 37 := (sOf_ne _ _ (by decide)).trans (((hG_2 37 (by decide))).trans (hG_1 37 (by decide)))
        have e107_38 : (setO g15_2 34 (fup (fup (h 34) 3 (((h 34) 3) - (qS (h 36 x)))) 4 (((h 34) 4) + (qS (h 36 x))))) 38 = h 38 := (sOf_ne _ _ (by decide)).trans (((hG_2 38 (by decide))).trans (hG_1 38 (by decide)))
        exact ⟨⟨hT_98, hF_98⟩, rfl, (by rewrite [e99_34_5]; omega), (by rewrite [e100_34_2]; omega), (by rewrite [e101_34_2, e102_34_3, e103_34_4, e104_34_5, e105_36, e106_37, e107_38]; first | exact (tellS_1 (by omega)).symm | (rw [eT, l1_at105, l2_at105]; have m3 := congrArg (fun q => q.1) m_at109; have m4 := congrArg (fun q => q.2.1) m_at109; have m5 := congrArg (fun q => q.2.2.1) m_at109; have m2 := congrArg (fun q => q.2.2.2.1) m_at109; have m8 := congrArg (fun q => q.2.2.2.2) m_at109; dsimp only at m3 m4 m5 m2 m8; rw [← m3, ← m4, ← m5, ← m2, ← m8]))⟩

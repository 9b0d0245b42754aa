set_option maxRecDepth 20000 in
theorem s_fill_36_e (v : Int) (h : Hp_) (hT : TY h) (hv : 0 ≤ v ∧ v ≤ 46) : Ctr yJ7_fill_53178 cJ7_fill_53178 4 none (rmd 0) ly ly 0 0 [vR 36, vI v] h (fun r h' => (TY h' ∧ FR [36] h h') ∧ r = none ∧ (∀ j : Int, 0 ≤ j → j < 19 → (h' 36) j = v)) := by
  refine Ctr_of (by decide) (Nat.le_of_ble_eq_true rfl) ⟨Nat.le_refl _, Nat.le_refl _⟩ (fun K hK hQ _ => ?_)
  show TT K ly 0 0 0 [(0, vR 36), (1, vI v)] [] h
  have hF : FR [36] h h := FR_rf _ _
  refine TT_iconst hK dJ7_fill_53178_0 ?_
  refine TT_istore_n hK rfl (lv' := [(2, vI 0), (0, vR 36), (1, vI v)]) (by decide) rfl dJ7_fill_53178_1 ?_
  refine TT_aload_n hK rfl 1 rfl dJ7_fill_53178_2 ?_
  refine TT_alen hK (o := 36) (t := 12) (n := 19) (v := 19) (by decide) rfl (by decide) rfl dJ7_fill_53178_3 ?_
  refine TT_istore_n hK rfl (lv' := [(3, vI 19), (2, vI 0), (0, vR 36), (1, vI v)]) (by decide) rfl dJ7_fill_53178_4 ?_
  have L5_1 : ∀ (k1 : Nat) (i : Int) (w5_1 : Hp_), TY w5_1 → FR [36] h w5_1 → (0 ≤ i ∧ i ≤ 19) → (∀ j : Int, 0 ≤ j → j < i → (w5_1 36) j = v) → ((19 : Int) - i).toNat < k1 → TT K ly 0 0 5 [(0, vR 36), (1, vI v), (2, vI i), (3, vI 19)] [] w5_1 := by
    intro k1
    induction k1 with
    | zero => intro i w5_1 hT5_1 hF5_1 hi hz hk1; exact absurd hk1 (Nat.not_lt_zero _)
    | succ k1 ih1 =>
      intro i w5_1 hT5_1 hF5_1 hi hz hk1
      refine TT_iload_n hK rfl 2 rfl dJ7_fill_53178_5 ?_
      refine TT_iload_n hK rfl 3 rfl dJ7_fill_53178_6 ?_
      refine TT_icmp_ge hK (tgt := 20) (irm (by omega) (by omega)) (by decide) dJ7_fill_53178_7 (by decide) (fun hb7_2 => ?_) (fun hb7_2 => ?_)
      · refine TT_vret hK hQ ?_ dJ7_fill_53178_20
        exact ⟨⟨hT5_1, hF5_1⟩, rfl, (by intro j h1 h2; exact hz j h1 (by omega))⟩
      · refine TT_aload_n hK rfl 0 rfl dJ7_fill_53178_10 ?_
        refine TT_iload_n hK rfl 2 rfl dJ7_fill_53178_11 ?_
        refine TT_iload_n hK rfl 1 rfl dJ7_fill_53178_12 ?_
        refine TT_iast hK (o := 36) (n := 19) (by decide) rfl (by omega) (by omega) dJ7_fill_53178_13 ?_
        refine TT_hp (h' := setO w5_1 36 (fup (w5_1 36) i v)) (up_can rfl rfl rfl) ?_
        have hT_3 : TY (setO w5_1 36 (fup (w5_1 36) i v)) := tu_36 hT5_1 (show up w5_1 36 i v = (setO w5_1 36 (fup (w5_1 36) i v)) from up_can rfl rfl rfl) (by omega)
        have hF_3 : FR [36] h (setO w5_1 36 (fup (w5_1 36) i v)) := FR_up (show up w5_1 36 i v = (setO w5_1 36 (fup (w5_1 36) i v)) from up_can rfl rfl rfl) hF5_1 (by decide)
        refine TT_iinc hK (v := i + 1) (lv' := [(2, vI (i + 1)), (0, vR 36), (1, vI v), (3, vI 19)]) 2 rfl rfl (by decide) rfl dJ7_fill_53178_14 ?_
        refine TT_goto hK (tgt := 5) dJ7_fill_53178_17 (by decide) ?_
        refine TT_sub [1, 2, 0, 3] rfl ?_
        have e4_36 : (setO w5_1 36 (fup (w5_1 36) i v)) 36 = fup (w5_1 36) i v := sOf_eq _ _ _
        exact ih1 (i + 1) (setO w5_1 36 (fup (w5_1 36) i v)) hT_3 hF_3 (by first | omega | (simp [up, setR] <;> omega)) (by rewrite [e4_36]; intro j h1 h2; by_cases e : j = i; (rw [e, fup_eq]); (rw [fup_ne _ _ e]; exact hz j h1 (by omega))) (by first | omega | (simp [up, setR] <;> omega))
  refine TT_sub [2, 3, 1, 0] rfl ?_
  exact L5_1 ((((19 : Int) - 0).toNat) + 1) 0 h hT hF (by first | omega | (simp [up, setR] <;> omega)) (by intro j h1 h2; exfalso; omega) (Nat.lt_succ_self _)
set_option maxRecDepth 20000 in
theorem s_fill_37_e (v : Int) (h : Hp_) (hT : TY h) (hv : 0 ≤ v ∧ v ≤ 1) : Ctr yJ7_fill_53178 cJ7_fill_53178 4 none (rmd 0) ly ly 0 0 [vR 37, vI v] h (fun r h' => (TY h' ∧ FR [37] h h') ∧ r = none ∧ (∀ j : Int, 0 ≤ j → j < 19 → (h' 37) j = v)) := by
  refine Ctr_of (by decide) (Nat.le_of_ble_eq_true rfl) ⟨Nat.le_refl _, Nat.le_refl _⟩ (fun K hK hQ _ => ?_)
  show TT K ly 0 0 0 [(0, vR 37), (1, vI v)] [] h
  have hF : FR [37] h h := FR_rf _ _
  refine TT_iconst hK dJ7_fill_53178_0 ?_
  refine TT_istore_n hK rfl (lv' := [(2, vI 0), (0, vR 37), (1, vI v)]) (by decide) rfl dJ7_fill_53178_1 ?_
  refine TT_aload_n hK rfl 1 rfl dJ7_fill_53178_2 ?_
  refine TT_alen hK (o := 37) (t := 12) (n := 19) (v := 19) (by decide) rfl (by decide) rfl dJ7_fill_53178_3 ?_
  refine TT_istore_n hK rfl (lv' := [(3, vI 19), (2, vI 0), (0, vR 37), (1, vI v)]) (by decide) rfl dJ7_fill_53178_4 ?_
  have L5_1 : ∀ (k1 : Nat) (i : Int) (w5_1 : Hp_), TY w5_1 → FR [37] h w5_1 → (0 ≤ i ∧ i ≤ 19) → (∀ j : Int, 0 ≤ j → j < i → (w5_1 37) j = v) → ((19 : Int) - i).toNat < k1 → TT K ly 0 0 5 [(0, vR 37), (1, vI v), (2, vI i), (3, vI 19)] [] w5_1 := by
    intro k1
    induction k1 with
    | zero => intro i w5_1 hT5_1 hF5_1 hi hz hk1; exact absurd hk1 (Nat.not_lt_zero _)
    | succ k1 ih1 =>
      intro i w5_1 hT5_1 hF5_1 hi hz hk1
      refine TT_iload_n hK rfl 2 rfl dJ7_fill_53178_5 ?_
      refine TT_iload_n hK rfl 3 rfl dJ7_fill_53178_6 ?_
      refine TT_icmp_ge hK (tgt := 20) (irm (by omega) (by omega)) (by decide) dJ7_fill_53178_7 (by decide) (fun hb7_2 => ?_) (fun hb7_2 => ?_)
      · refine TT_vret hK hQ ?_ dJ7_fill_53178_20
        exact ⟨⟨hT5_1, hF5_1⟩, rfl, (by intro j h1 h2; exact hz j h1 (by omega))⟩
      · refine TT_aload_n hK rfl 0 rfl dJ7_fill_53178_10 ?_
        refine TT_iload_n hK rfl 2 rfl dJ7_fill_53178_11 ?_
        refine TT_iload_n hK rfl 1 rfl dJ7_fill_53178_12 ?_
        refine TT_iast hK (o := 37) (n := 19) (by decide) rfl (by omega) (by omega) dJ7_fill_53178_13 ?_
        refine TT_hp (h' := setO w5_1 37 (fup (w5_1 37) i v)) (up_can rfl rfl rfl) ?_
        have hT_3 : TY (setO w5_1 37 (fup (w5_1 37) i v)) := tu_37 hT5_1 (show up w5_1 37 i v = (setO w5_1 37 (fup (w5_1 37) i v)) from up_can rfl rfl rfl) (by omega)
        have hF_3 : FR [37] h (setO w5_1 37 (fup (w5_1 37) i v)) := FR_up (show up w5_1 37 i v = (setO w5_1 37 (fup (w5_1 37) i v)) from up_can rfl rfl rfl) hF5_1 (by decide)
        refine TT_iinc hK (v := i + 1) (lv' := [(2, vI (i + 1)), (0, vR 37), (1, vI v), (3, vI 19)]) 2 rfl rfl (by decide) rfl dJ7_fill_53178_14 ?_
        refine TT_goto hK (tgt := 5) dJ7_fill_53178_17 (by decide) ?_
        refine TT_sub [1, 2, 0, 3] rfl ?_
        have e4_37 : (setO w5_1 37 (fup (w5_1 37) i v)) 37 = fup (w5_1 37) i v := sOf_eq _ _ _
        exact ih1 (i + 1) (setO w5_1 37 (fup (w5_1 37) i v)) hT_3 hF_3 (by first | omega | (simp [up, setR] <;> omega)) (by rewrite [e4_37]; intro j h1 h2; by_cases e : j = i; (rw [e, fup_eq]); (rw [fup_ne _ _ e]; exact hz j h1 (by omega))) (by first | omega | (simp [up, setR] <;> omega))
  refine TT_sub [2, 3, 1, 0] rfl ?_
  exact L5_1 ((((19 : Int) - 0).toNat) + 1) 0 h hT hF (by first | omega | (simp [up, setR] <;> omega)) (by intro j h1 h2; exfalso; omega) (Nat.lt_succ_self _)
set_option maxRecDepth 20000 in
theorem s_obegin_e (h : Hp_) (hT : TY h)  : Ctr yX2_begin cX2_begin 1 none (rmd 1) ly ly 0 0 [vR 35] h (fun r h' => (TY h' ∧ FR [36, 37] h h') ∧ r = none ∧ (∀ j : Int, 0 ≤ j → j < 19 → (h' 36) j = st0 j) ∧ (∀ j : Int, 0 ≤ j → j < 19 → (h' 37) j = 0)) := by
  refine Ctr_of (by decide) (Nat.le_of_ble_eq_true rfl) ⟨Nat.le_refl _, Nat.le_refl _⟩ (fun K hK hQ _ => ?_)
  show TT K ly 0 0 0 [(0, vR 35)] [] h
  have hF : FR [36, 37] h h := FR_rf _ _
  refine TT_aload_n hK rfl 0 rfl dX2_begin_0 ?_
  refine gf_X2_13 hK (by decide) rfl (q := 37) rfl rfl dX2_begin_1 ?_
  refine TT_iconst hK dX2_begin_4 ?_
  refine iv_X2_16 hK (s_fill_37_e 0 h hT (by first | omega | (simp [up, setR] <;> omega))) ⟨by decide, by decide⟩ (by decide) rfl rfl (Nat.le_of_ble_eq_true rfl) ⟨by decide, by decide⟩ dX2_begin_5 ?_
  intro r9 g5_1 hp9
  obtain ⟨⟨hT_1, hG_1⟩, hr9, f_1⟩ := hp9
  rw [hr9]
  have hF_1 : FR [36, 37] h g5_1 := FR_tr hF hG_1 (by decide)
  have f_at5 := f_1
  show TT K ly 0 0 8 [(0, vR 35)] [] g5_1
  refine TT_aload_n hK rfl 0 rfl dX2_begin_8 ?_
  refine gf_X2_9 hK (by decide) rfl (q := 36) rfl rfl dX2_begin_9 ?_
  refine TT_iconst hK dX2_begin_12 ?_
  refine iv_X2_16 hK (s_fill_36_e 0 g5_1 hT_1 (by first | omega | (simp [up, setR] <;> omega))) ⟨by decide, by decide⟩ (by decide) rfl rfl (Nat.le_of_ble_eq_true rfl) ⟨by decide, by decide⟩ dX2_begin_13 ?_
  intro r9 g13_2 hp9
  obtain ⟨⟨hT_2, hG_2⟩, hr9, f_2⟩ := hp9
  rw [hr9]
  have hF_2 : FR [36, 37] h g13_2 := FR_tr hF_1 hG_2 (by decide)
  have f_at13 := f_2
  show TT K ly 0 0 16 [(0, vR 35)] [] g13_2
  refine TT_aload_n hK rfl 0 rfl dX2_begin_16 ?_
  refine gf_X2_9 hK (by decide) rfl (q := 36) rfl rfl dX2_begin_17 ?_
  refine TT_iconst hK dX2_begin_20 ?_
  refine TT_iconst hK dX2_begin_21 ?_
  refine TT_iast hK (o := 36) (n := 19) (by decide) rfl (by omega) (by omega) dX2_begin_22 ?_
  refine TT_hp (h' := setO g13_2 36 (fup (g13_2 36) 0 4)) (up_can rfl rfl rfl) ?_
  have hT_3 : TY (setO g13_2 36 (fup (g13_2 36) 0 4)) := tu_36 hT_2 (show up g13_2 36 0 4 = (setO g13_2 36 (fup (g13_2 36) 0 4)) from up_can rfl rfl rfl) (by omega)
  have hF_3 : FR [36, 37] h (setO g13_2 36 (fup (g13_2 36) 0 4)) := FR_up (show up g13_2 36 0 4 = (setO g13_2 36 (fup (g13_2 36) 0 4)) from up_can rfl rfl rfl) hF_2 (by decide)
  refine TT_aload_n hK rfl 0 rfl dX2_begin_23 ?_
  refine gf_X2_9 hK (by decide) rfl (q := 36) rfl rfl dX2_begin_24 ?_
  refine TT_bipush hK (by decide) dX2_begin_27 ?_
  refine TT_iconst hK dX2_begin_29 ?_
  refine TT_iast hK (o := 36) (n := 19) (by decide) rfl (by omega) (by omega) dX2_begin_30 ?_
  refine TT_hp (h' := setO g13_2 36 (fup (fup (g13_2 36) 0 4) 17 3)) (up_can (sOf_eq _ _ _) rfl (setO_same _ _ _ _)) ?_
  have hT_4 : TY (setO g13_2 36 (fup (fup (g13_2 36) 0 4) 17 3)) := tu_36 hT_3 (show up (setO g13_2 36 (fup (g13_2 36) 0 4)) 36 17 3 = (setO g13_2 36 (fup (fup (g13_2 36) 0 4) 17 3)) from up_can (sOf_eq _ _ _) rfl (setO_same _ _ _ _)) (by omega)
  have hF_4 : FR [36, 37] h (setO g13_2 36 (fup (fup (g13_2 36) 0 4) 17 3)) := FR_up (show up (setO g13_2 36 (fup (g13_2 36) 0 4)) 36 17 3 = (setO g13_2 36 (fup (fup (g13_2 36) 0 4) 17 3)) from up_can (sOf_eq _ _ _) rfl (setO_same _ _ _ _)) hF_3 (by decide)
  refine TT_aload_n hK rfl 0 rfl dX2_begin_31 ?_
  refine gf_X2_9 hK (by decide) rfl (q := 36) rfl rfl dX2_begin_32 ?_
  refine TT_bipush hK (by decide) dX2_begin_35 ?_
  refine TT_bipush hK (by decide) dX2_begin_37 ?_
  refine TT_iast hK (o := 36) (n := 19) (by decide) rfl (by omega) (by omega) dX2_begin_39 ?_
  refine TT_hp (h' := setO g13_2 36 (fup (fup (fup (g13_2 36) 0 4) 17 3) 18 46)) (up_can (sOf_eq _ _ _) rfl (setO_same _ _ _ _)) ?_
  have hT_5 : TY (setO g13_2 36 (fup (fup (fup (g13_2 36) 0 4) 17 3) 18 46)) := tu_36 hT_4 (show up (setO g13_2 36 (fup (fup (g13_2 36) 0 4) 17 3)) 36 18 46 = (setO g13_2 36 (fup (fup (fup (g13_2 36) 0 4) 17 3) 18 46)) from up_can (sOf_eq _ _ _) rfl (setO_same _ _ _ _)) (by omega)
  have hF_5 : FR [36, 37] h (setO g13_2 36 (fup (fup (fup (g13_2 36) 0 4) 17 3) 18 46)) := FR_up (show up (setO g13_2 36 (fup (fup (g13_2 36) 0 4) 17 3)) 36 18 46 = (setO g13_2 36 (fup (fup (fup (g13_2 36) 0 4) 17 3) 18 46)) from up_can (sOf_eq _ _ _) rfl (setO_same _ _ _ _)) hF_4 (by decide)
  refine TT_vret hK hQ ?_ dX2_begin_40
  have e6_36 : (setO g13_2 36 (fup (fup (fup (g13_2 36) 0 4) 17 3) 18 46)) 36 = fup (fup (fup (g13_2 36) 0 4) 17 3) 18 46 := sOf_eq _ _ _
  have e7_37 : (setO g13_2 36 (fup (fup (fup (g13_2 36) 0 4) 17 3) 18 46)) 37 = g5_1 37 := (sOf_ne _ _ (by decide)).trans (hG_2 37 (by decide))
  exact ⟨⟨hT_5, hF_5⟩, rfl, (by rewrite [e6_36]; intro j h1 h2; unfold st0; by_cases q18 : j = 18; (rw [if_pos q18, q18, fup_eq]); rw [if_neg q18, fup_ne _ _ q18]; by_cases q17 : j = 17; (rw [if_pos q17, q17, fup_eq]); rw [if_neg q17, fup_ne _ _ q17]; by_cases q0 : j = 0; (rw [if_pos q0, q0, fup_eq]); rw [if_neg q0, fup_ne _ _ q0]; exact f_at13 j h1 h2), (by rewrite [e7_37]; exact f_at5)⟩
set_option maxRecDepth 20000 in
theorem s_tbegin_e (h : Hp_) (hT : TY h)  : Ctr yX8_begin cX8_begin 1 none (rmd 2) ly ly 0 0 [vR 34] h (fun r h' => (TY h' ∧ FR [34, 36, 37, 38] h h') ∧ r = none ∧ (1 ≤ (h' 34 5)) ∧ (1 ≤ (h' 34 2)) ∧ ((h' 34 3) = 32768) ∧ ((h' 34 4) = 0) ∧ ((h' 34 5) = 12) ∧ ((h' 34 2) = 1) ∧ ((h' 38) = fup (h 38) 0 0) ∧ (∀ j : Int, 0 ≤ j → j < 19 → (h' 36) j = st0 j) ∧ (∀ j : Int, 0 ≤ j → j < 19 → (h' 37) j = 0)) := by
  refine Ctr_of (by decide) (Nat.le_of_ble_eq_true rfl) ⟨Nat.le_refl _, Nat.le_refl _⟩ (fun K hK hQ _ => ?_)
  show TT K ly 0 0 0 [(0, vR 34)] [] h
  have hF : FR [34, 36, 37, 38] h h := FR_rf _ _
  refine TT_aload_n hK rfl 0 rfl dX8_begin_0 ?_
  refine gf_X8_12 hK (by decide) rfl (q := 35) rfl rfl dX8_begin_1 ?_
  refine iv_X8_22 hK (s_obegin_e h hT ) (by decide) rfl ⟨by decide, by decide⟩ (by decide) rfl rfl (Nat.le_of_ble_eq_true rfl) ⟨by decide, by decide⟩ dX8_begin_4 ?_
  intro r9 g4_1 hp9
  obtain ⟨⟨hT_1, hG_1⟩, hr9, st_1, lk_1⟩ := hp9
  rw [hr9]
  have hF_1 : FR [34, 36, 37, 38] h g4_1 := FR_tr hF hG_1 (by decide)
  have st_at4 := st_1
  have lk_at4 := lk_1
  show TT K ly 0 0 7 [(0, vR 34)] [] g4_1
  refine TT_aload_n hK rfl 0 rfl dX8_begin_7 ?_
  refine gf_X8_18 hK (by decide) rfl (q := 38) rfl rfl dX8_begin_8 ?_
  refine TT_iconst hK dX8_begin_11 ?_
  refine TT_iconst hK dX8_begin_12 ?_
  refine TT_iast hK (o := 38) (n := 1024) (by decide) rfl (by omega) (by omega) dX8_begin_13 ?_
  refine TT_hp (h' := setO g4_1 38 (fup (h 38) 0 0)) (up_can (hG_1 38 (by decide)) rfl rfl) ?_
  have hT_2 : TY (setO g4_1 38 (fup (h 38) 0 0)) := tu_38 hT_1 (show up g4_1 38 0 0 = (setO g4_1 38 (fup (h 38) 0 0)) from up_can (hG_1 38 (by decide)) rfl rfl) (by omega)
  have hF_2 : FR [34, 36, 37, 38] h (setO g4_1 38 (fup (h 38) 0 0)) := FR_up (show up g4_1 38 0 0 = (setO g4_1 38 (fup (h 38) 0 0)) from up_can (hG_1 38 (by decide)) rfl rfl) hF_1 (by decide)
  refine TT_aload_n hK rfl 0 rfl dX8_begin_14 ?_
  refine TT_iconst hK dX8_begin_15 ?_
  refine pf_X8_25 hK (by decide) rfl dX8_begin_16 ?_
  refine TT_hp (h' := setO (setO g4_1 34 (fup (h 34) 2 1)) 38 (fup (h 38) 0 0)) (up_can ((sOf_ne _ _ (by decide)).trans (hG_1 34 (by decide))) rfl ((setO_comm _ _ _ (by decide)).trans (setO_cg rfl rfl))) ?_
  have hT_3 : TY (setO (setO g4_1 34 (fup (h 34) 2 1)) 38 (fup (h 38) 0 0)) := tu_34_2 hT_2 (show up (setO g4_1 38 (fup (h 38) 0 0)) 34 2 1 = (setO (setO g4_1 34 (fup (h 34) 2 1)) 38 (fup (h 38) 0 0)) from up_can ((sOf_ne _ _ (by decide)).trans (hG_1 34 (by decide))) rfl ((setO_comm _ _ _ (by decide)).trans (setO_cg rfl rfl))) (by omega)
  have hF_3 : FR [34, 36, 37, 38] h (setO (setO g4_1 34 (fup (h 34) 2 1)) 38 (fup (h 38) 0 0)) := FR_up (show up (setO g4_1 38 (fup (h 38) 0 0)) 34 2 1 = (setO (setO g4_1 34 (fup (h 34) 2 1)) 38 (fup (h 38) 0 0)) from up_can ((sOf_ne _ _ (by decide)).trans (hG_1 34 (by decide))) rfl ((setO_comm _ _ _ (by decide)).trans (setO_cg rfl rfl))) hF_2 (by decide)
  refine TT_aload_n hK rfl 0 rfl dX8_begin_19 ?_
  refine TT_ldc hK lc_X8_29 dX8_begin_20 ?_
  refine pf_X8_30 hK (by decide) rfl dX8_begin_22 ?_
  refine TT_hp (h' := setO (setO g4_1 34 (fup (fup (h 34) 2 1) 3 32768)) 38 (fup (h 38) 0 0)) (up_can ((sOf_ne _ _ (by decide)).trans (sOf_eq _ _ _)) rfl ((setO_comm _ _ _ (by decide)).trans (setO_cg (setO_same _ _ _ _) rfl))) ?_
  have hT_4 : TY (setO (setO g4_1 34 (fup (fup (h 34) 2 1) 3 32768)) 38 (fup (h 38) 0 0)) := tu_34_3 hT_3 (show up (setO (setO g4_1 34 (fup (h 34) 2 1)) 38 (fup (h 38) 0 0)) 34 3 32768 = (setO (setO g4_1 34 (fup (fup (h 34) 2 1) 3 32768)) 38 (fup (h 38) 0 0)) from up_can ((sOf_ne _ _ (by decide)).trans (sOf_eq _ _ _)) rfl ((setO_comm _ _ _ (by decide)).trans (setO_cg (setO_same _ _ _ _) rfl))) (by omega)
  have hF_4 : FR [34, 36, 37, 38] h (setO (setO g4_1 34 (fup (fup (h 34) 2 1) 3 32768)) 38 (fup (h 38) 0 0)) := FR_up (show up (setO (setO g4_1 34 (fup (h 34) 2 1)) 38 (fup (h 38) 0 0)) 34 3 32768 = (setO (setO g4_1 34 (fup (fup (h 34) 2 1) 3 32768)) 38 (fup (h 38) 0 0)) from up_can ((sOf_ne _ _ (by decide)).trans (sOf_eq _ _ _)) rfl ((setO_comm _ _ _ (by decide)).trans (setO_cg (setO_same _ _ _ _) rfl))) hF_3 (by decide)
  refine TT_aload_n hK rfl 0 rfl dX8_begin_25 ?_
  refine TT_iconst hK dX8_begin_26 ?_
  refine pf_X8_33 hK (by decide) rfl dX8_begin_27 ?_
  refine TT_hp (h' := setO (setO g4_1 34 (fup (fup (fup (h 34) 2 1) 3 32768) 4 0)) 38 (fup (h 38) 0 0)) (up_can ((sOf_ne _ _ (by decide)).trans (sOf_eq _ _ _)) rfl ((setO_comm _ _ _ (by decide)).trans (setO_cg (setO_same _ _ _ _) rfl))) ?_
  have hT_5 : TY (setO (setO g4_1 34 (fup (fup (fup (h 34) 2 1) 3 32768) 4 0)) 38 (fup (h 38) 0 0)) := tu_34_4 hT_4 (show up (setO (setO g4_1 34 (fup (fup (h 34) 2 1) 3 32768)) 38 (fup (h 38) 0 0)) 34 4 0 = (setO (setO g4_1 34 (fup (fup (fup (h 34) 2 1) 3 32768) 4 0)) 38 (fup (h 38) 0 0)) from up_can ((sOf_ne _ _ (by decide)).trans (sOf_eq _ _ _)) rfl ((setO_comm _ _ _ (by decide)).trans (setO_cg (setO_same _ _ _ _) rfl))) (by omega)
  have hF_5 : FR [34, 36, 37, 38] h (setO (setO g4_1 34 (fup (fup (fup (h 34) 2 1) 3 32768) 4 0)) 38 (fup (h 38) 0 0)) := FR_up (show up (setO (setO g4_1 34 (fup (fup (h 34) 2 1) 3 32768)) 38 (fup (h 38) 0 0)) 34 4 0 = (setO (setO g4_1 34 (fup (fup (fup (h 34) 2 1) 3 32768) 4 0)) 38 (fup (h 38) 0 0)) from up_can ((sOf_ne _ _ (by decide)).trans (sOf_eq _ _ _)) rfl ((setO_comm _ _ _ (by decide)).trans (setO_cg (setO_same _ _ _ _) rfl))) hF_4 (by decide)
  refine TT_aload_n hK rfl 0 rfl dX8_begin_30 ?_
  refine TT_bipush hK (by decide) dX8_begin_31 ?_
  refine pf_X8_36 hK (by decide) rfl dX8_begin_33 ?_
  refine TT_hp (h' := setO (setO g4_1 34 (fup (fup (fup (fup (h 34) 2 1) 3 32768) 4 0) 5 12)) 38 (fup (h 38) 0 0)) (up_can ((sOf_ne _ _ (by decide)).trans (sOf_eq _ _ _)) rfl ((setO_comm _ _ _ (by decide)).trans (setO_cg (setO_same _ _ _ _) rfl))) ?_
  have hT_6 : TY (setO (setO g4_1 34 (fup (fup (fup (fup (h 34) 2 1) 3 32768) 4 0) 5 12)) 38 (fup (h 38) 0 0)) := tu_34_5 hT_5 (show up (setO (setO g4_1 34 (fup (fup (fup (h 34) 2 1) 3 32768) 4 0)) 38 (fup (h 38) 0 0)) 34 5 12 = (setO (setO g4_1 34 (fup (fup (fup (fup (h 34) 2 1) 3 32768) 4 0) 5 12)) 38 (fup (h 38) 0 0)) from up_can ((sOf_ne _ _ (by decide)).trans (sOf_eq _ _ _)) rfl ((setO_comm _ _ _ (by decide)).trans (setO_cg (setO_same _ _ _ _) rfl))) (by omega)
  have hF_6 : FR [34, 36, 37, 38] h (setO (setO g4_1 34 (fup (fup (fup (fup (h 34) 2 1) 3 32768) 4 0) 5 12)) 38 (fup (h 38) 0 0)) := FR_up (show up (setO (setO g4_1 34 (fup (fup (fup (h 34) 2 1) 3 32768) 4 0)) 38 (fup (h 38) 0 0)) 34 5 12 = (setO (setO g4_1 34 (fup (fup (fup (fup (h 34) 2 1) 3 32768) 4 0) 5 12)) 38 (fup (h 38) 0 0)) from up_can ((sOf_ne _ _ (by decide)).trans (sOf_eq _ _ _)) rfl ((setO_comm _ _ _ (by decide)).trans (setO_cg (setO_same _ _ _ _) rfl))) hF_5 (by decide)
  refine TT_vret hK hQ ?_ dX8_begin_36
  have e7_34_5 : (setO (setO g4_1 34 (fup (fup (fup (fup (h 34) 2 1) 3 32768) 4 0) 5 12)) 38 (fup (h 38) 0 0)) 34 5 = 12 := rd_ ((sOf_ne _ _ (by decide)).trans (sOf_eq _ _ _)) (fup_eq _ _ _)
  have e8_34_2 : (setO (setO g4_1 34 (fup (fup (fup (fup (h 34) 2 1) 3 32768) 4 0) 5 12)) 38 (fup (h 38) 0 0)) 34 2 = 1 := rd_ ((sOf_ne _ _ (by decide)).trans (sOf_eq _ _ _)) ((fup_ne _ _ (by decide)).trans ((fup_ne _ _ (by decide)).trans ((fup_ne _ _ (by decide)).trans (fup_eq _ _ _))))
  have e9_34_3 : (setO (setO g4_1 34 (fup (fup (fup (fup (h 34) 2 1) 3 32768) 4 0) 5 12)) 38 (fup (h 38) 0 0)) 34 3 = 32768 := rd_ ((sOf_ne _ _ (by decide)).trans (sOf_eq _ _ _)) ((fup_ne _ _ (by decide)).trans ((fup_ne _ _ (by decide)).trans (fup_eq _ _ _)))
  have e10_34_4 : (setO (setO g4_1 34 (fup (fup (fup (fup (h 34) 2 1) 3 32768) 4 0) 5 12)) 38 (fup (h 38) 0 0)) 34 4 = 0 := rd_ ((sOf_ne _ _ (by decide)).trans (sOf_eq _ _ _)) ((fup_ne _ _ (by decide)).trans (fup_eq _ _ _))
  have e11_34_5 : (setO (setO g4_1 34 (fup (fup (fup (fup (h 34) 2 1) 3 32768) 4 0) 5 12)) 38 (fup (h 38) 0 0)) 34 5 = 12 := rd_ ((sOf_ne _ _ (by decide)).trans (sOf_eq _ _ _)) (fup_eq _ _ _)
  have e12_34_2 : (setO (setO g4_1 34 (fup (fup (fup (fup (h 34) 2 1) 3 32768) 4 0) 5 12)) 38 (fup (h 38) 0 0)) 34 2 = 1 := rd_ ((sOf_ne _ _ (by decide)).trans (sOf_eq _ _ _)) ((fup_ne _ _ (by decide)).trans ((fup_ne _ _ (by decide)).trans ((fup_ne _ _ (by decide)).trans (fup_eq _ _ _))))
  have e13_38 : (setO (setO g4_1 34 (fup (fup (fup (fup (h 34) 2 1) 3 32768) 4 0) 5 12)) 38 (fup (h 38) 0 0)) 38 = fup (h 38) 0 0 := sOf_eq _ _ _
  have e14_36 : (setO (setO g4_1 34 (fup (fup (fup (fup (h 34) 2 1) 3 32768) 4 0) 5 12)) 38 (fup (h 38) 0 0)) 36 = g4_1 36 := (sOf_ne _ _ (by decide)).trans (sOf_ne _ _ (by decide))
  have e15_37 : (setO (setO g4_1 34 (fup (fup (fup (fup (h 34) 2 1) 3 32768) 4 0) 5 12)) 38 (fup (h 38) 0 0)) 37 = g4_1 37 := (sOf_ne _ _ (by decide)).trans (sOf_ne _ _ (by decide))
  exact ⟨⟨hT_6, hF_6⟩, rfl, (by rewrite [e7_34_5]; omega), (by rewrite [e8_34_2]; omega), (by rewrite [e9_34_3]; omega), (by rewrite [e10_34_4]; omega), (by rewrite [e11_34_5]; omega), (by rewrite [e12_34_2]; omega), (by rewrite [e13_38]; rfl), (by rewrite [e14_36]; exact st_at4), (by rewrite [e15_37]; exact lk_at4)⟩
set_option maxRecDepth 20000 in
theorem s_add_e (v : Int) (h : Hp_) (hT : TY h) (hv : 0 ≤ v ∧ v ≤ 255) (hL : 0 ≤ (h 22 1) ∧ (h 22 1) < 1024) : Ctr yX1_add cX1_add 2 none (rmd 0) ly ly 0 0 [vR 22, vI v] h (fun r h' => (TY h' ∧ FR [22, 23] h h') ∧ r = none ∧ ((h' 22 1) = (h 22 1) + 1) ∧ ((h' 23) = fup (h 23) (h 22 1) v)) := by
  refine Ctr_of (by decide) (Nat.le_of_ble_eq_true rfl) ⟨Nat.le_refl _, Nat.le_refl _⟩ (fun K hK hQ _ => ?_)
  show TT K ly 0 0 0 [(0, vR 22), (1, vI v)] [] h
  have hF : FR [22, 23] h h := FR_rf _ _
  refine TT_aload_n hK rfl 0 rfl dX1_add_0 ?_
  refine gf_X1_15 hK (by decide) rfl (v := (h 22) 1) rfl dX1_add_1 ?_
  have r1 := ty_22_1 (v := (h 22) 1) hT rfl
  refine TT_aload_n hK rfl 0 rfl dX1_add_4 ?_
  refine gf_X1_9 hK (by decide) rfl (q := 23) rfl rfl dX1_add_5 ?_
  refine TT_alen hK (o := 23) (t := 12) (n := 1024) (v := 1024) (by decide) rfl (by decide) rfl dX1_add_8 ?_
  refine TT_icmp_ge hK (tgt := 32) (irm (by omega) (by omega)) (by decide) dX1_add_9 (by decide) (fun hb9_2 => ?_) (fun hb9_2 => ?_)
  · refine TT_aload_n hK rfl 0 rfl dX1_add_32 ?_
    refine TT_iconst hK dX1_add_33 ?_
    refine pf_X1_19 hK (by decide) rfl dX1_add_34 ?_
    refine TT_hp (h' := setO h 22 (fup (h 22) 2 0)) (up_can rfl rfl rfl) ?_
    have hT_3 : TY (setO h 22 (fup (h 22) 2 0)) := tu_22_2 hT (show up h 22 2 0 = (setO h 22 (fup (h 22) 2 0)) from up_can rfl rfl rfl) (by omega)
    have hF_3 : FR [22, 23] h (setO h 22 (fup (h 22) 2 0)) := FR_up (show up h 22 2 0 = (setO h 22 (fup (h 22) 2 0)) from up_can rfl rfl rfl) hF (by decide)
    refine TT_vret hK hQ ?_ dX1_add_37
    have e4_22_1 : (setO h 22 (fup (h 22) 2 0)) 22 1 = (h 22) 1 := rd_ (sOf_eq _ _ _) (fup_ne _ _ (by decide))
    have e5_23 : (setO h 22 (fup (h 22) 2 0)) 23 = h 23 := sOf_ne _ _ (by decide)
    exact ⟨⟨hT_3, hF_3⟩, rfl, (by rewrite [e4_22_1]; first | rfl | omega), (by rewrite [e5_23]; first | rfl | (exfalso; omega))⟩
  · refine TT_aload_n hK rfl 0 rfl dX1_add_12 ?_
    refine gf_X1_9 hK (by decide) rfl (q := 23) rfl rfl dX1_add_13 ?_
    refine TT_aload_n hK rfl 0 rfl dX1_add_16 ?_
    refine gf_X1_15 hK (by decide) rfl (v := (h 22) 1) rfl dX1_add_17 ?_
    refine TT_iload_n hK rfl 1 rfl dX1_add_20 ?_
    refine TT_iast hK (o := 23) (n := 1024) (by decide) rfl (by omega) (by omega) dX1_add_21 ?_
    refine TT_hp (h' := setO h 23 (fup (h 23) ((h 22) 1) v)) (up_can rfl rfl rfl) ?_
    have hT_6 : TY (setO h 23 (fup (h 23) ((h 22) 1) v)) := tu_23 hT (show up h 23 ((h 22) 1) v = (setO h 23 (fup (h 23) ((h 22) 1) v)) from up_can rfl rfl rfl) (by omega)
    have hF_6 : FR [22, 23] h (setO h 23 (fup (h 23) ((h 22) 1) v)) := FR_up (show up h 23 ((h 22) 1) v = (setO h 23 (fup (h 23) ((h 22) 1) v)) from up_can rfl rfl rfl) hF (by decide)
    refine TT_aload_n hK rfl 0 rfl dX1_add_22 ?_
    refine TT_dup hK rfl dX1_add_23 ?_
    refine gf_X1_15 hK (by decide) rfl (v := (h 22) 1) (rd_ (sOf_ne _ _ (by decide)) rfl) dX1_add_24 ?_
    refine TT_iconst hK dX1_add_27 ?_
    refine TT_iadd hK dX1_add_28 ?_
    refine pf_X1_15 hK (by decide) rfl dX1_add_29 ?_
    refine TT_hp (h' := setO (setO h 22 (fup (h 22) 1 (((h 22) 1) + 1))) 23 (fup (h 23) ((h 22) 1) v)) (up_can (sOf_ne _ _ (by decide)) rfl ((setO_comm _ _ _ (by decide)).trans (setO_cg rfl rfl))) ?_
    have hT_7 : TY (setO (setO h 22 (fup (h 22) 1 (((h 22) 1) + 1))) 23 (fup (h 23) ((h 22) 1) v)) := tu_22_1 hT_6 (show up (setO h 23 (fup (h 23) ((h 22) 1) v)) 22 1 (((h 22) 1) + 1) = (setO (setO h 22 (fup (h 22) 1 (((h 22) 1) + 1))) 23 (fup (h 23) ((h 22) 1) v)) from up_can (sOf_ne _ _ (by decide)) rfl ((setO_comm _ _ _ (by decide)).trans (setO_cg rfl rfl))) (by omega)
    have hF_7 : FR [22, 23] h (setO (setO h 22 (fup (h 22) 1 (((h 22) 1) + 1))) 23 (fup (h 23) ((h 22) 1) v)) := FR_up (show up (setO h 23 (fup (h 23) ((h 22) 1) v)) 22 1 (((h 22) 1) + 1) = (setO (setO h 22 (fup (h 22) 1 (((h 22) 1) + 1))) 23 (fup (h 23) ((h 22) 1) v)) from up_can (sOf_ne _ _ (by decide)) rfl ((setO_comm _ _ _ (by decide)).trans (setO_cg rfl rfl))) hF_6 (by decide)
    refine TT_aload_n hK rfl 0 rfl dX1_add_32 ?_
    refine TT_iconst hK dX1_add_33 ?_
    refine pf_X1_19 hK (by decide) rfl dX1_add_34 ?_
    refine TT_hp (h' := setO (setO h 22 (fup (fup (h 22) 1 (((h 22) 1) + 1)) 2 0)) 23 (fup (h 23) ((h 22) 1) v)) (up_can ((sOf_ne _ _ (by decide)).trans (sOf_eq _ _ _)) rfl ((setO_comm _ _ _ (by decide)).trans (setO_cg (setO_same _ _ _ _) rfl))) ?_
    have hT_8 : TY (setO (setO h 22 (fup (fup (h 22) 1 (((h 22) 1) + 1)) 2 0)) 23 (fup (h 23) ((h 22) 1) v)) := tu_22_2 hT_7 (show up (setO (setO h 22 (fup (h 22) 1 (((h 22) 1) + 1))) 23 (fup (h 23) ((h 22) 1) v)) 22 2 0 = (setO (setO h 22 (fup (fup (h 22) 1 (((h 22) 1) + 1)) 2 0)) 23 (fup (h 23) ((h 22) 1) v)) from up_can ((sOf_ne _ _ (by decide)).trans (sOf_eq _ _ _)) rfl ((setO_comm _ _ _ (by decide)).trans (setO_cg (setO_same _ _ _ _) rfl))) (by omega)
    have hF_8 : FR [22, 23] h (setO (setO h 22 (fup (fup (h 22) 1 (((h 22) 1) + 1)) 2 0)) 23 (fup (h 23) ((h 22) 1) v)) := FR_up (show up (setO (setO h 22 (fup (h 22) 1 (((h 22) 1) + 1))) 23 (fup (h 23) ((h 22) 1) v)) 22 2 0 = (setO (setO h 22 (fup (fup (h 22) 1 (((h 22) 1) + 1)) 2 0)) 23 (fup (h 23) ((h 22) 1) v)) from up_can ((sOf_ne _ _ (by decide)).trans (sOf_eq _ _ _)) rfl ((setO_comm _ _ _ (by decide)).trans (setO_cg (setO_same _ _ _ _) rfl))) hF_7 (by decide)
    refine TT_vret hK hQ ?_ dX1_add_37
    have e9_22_1 : (setO (setO h 22 (fup (fup (h 22) 1 (((h 22) 1) + 1)) 2 0)) 23 (fup (h 23) ((h 22) 1) v)) 22 1 = ((h 22) 1) + 1 := rd_ ((sOf_ne _ _ (by decide)).trans (sOf_eq _ _ _)) ((fup_ne _ _ (by decide)).trans (fup_eq _ _ _))
    have e10_23 : (setO (setO h 22 (fup (fup (h 22) 1 (((h 22) 1) + 1)) 2 0)) 23 (fup (h 23) ((h 22) 1) v)) 23 = fup (h 23) ((h 22) 1) v := sOf_eq _ _ _
    exact ⟨⟨hT_8, hF_8⟩, rfl, (by rewrite [e9_22_1]; first | rfl | omega), (by rewrite [e10_23]; first | rfl | (exfalso; omega))⟩
set_option maxRecDepth 20000 in
theorem s_addBytes_e (h : Hp_) (hT : TY h) (hl : 1 ≤ (h 34 2)) (hL : 0 ≤ (h 22 1) ∧ (h 22 1) + (h 34 2) ≤ 1025) (hn : (h 34 2) ≤ 1024) : Ctr yX8_addBytesTo cX8_addBytesTo 4 (some .int) (rmd 1) ly ly 0 0 [vR 34, vR 22] h (fun r h' => (TY h' ∧ FR [22, 23] h h') ∧ ∃ z : Int, r = some (vI z) ∧ (-1 ≤ z ∧ z ≤ 1023) ∧ (z = (if (h 38) ((h 34 2) - 1) = 255 then (h 34 2) - 1 else (h 34 2)) - 1) ∧ (0 ≤ z → (h' 22 1) = (h 22 1) + z) ∧ (∀ j : Int, 1 ≤ j → j ≤ z → (h' 23) ((h 22 1) + j - 1) = (h 38) j) ∧ (∀ j : Int, j < (h 22 1) → (h' 23) j = (h 23) j)) := by
  refine Ctr_of (by decide) (Nat.le_of_ble_eq_true rfl) ⟨Nat.le_refl _, Nat.le_refl _⟩ (fun K hK hQ _ => ?_)
  show TT K ly 0 0 0 [(0, vR 34), (1, vR 22)] [] h
  have hF : FR [22, 23] h h := FR_rf _ _
  refine TT_aload_n hK rfl 0 rfl dX8_addBytesTo_0 ?_
  refine gf_X8_18 hK (by decide) rfl (q := 38) rfl rfl dX8_addBytesTo_1 ?_
  refine TT_aload_n hK rfl 0 rfl dX8_addBytesTo_4 ?_
  refine gf_X8_25 hK (by decide) rfl (v := (h 34) 2) rfl dX8_addBytesTo_5 ?_
  have r1 := ty_34_2 (v := (h 34) 2) hT rfl
  refine TT_iconst hK dX8_addBytesTo_8 ?_
  refine TT_isub hK dX8_addBytesTo_9 ?_
  refine TT_iald hK (o := 38) (n := 1024) (by decide) rfl (by first | omega | (simp [up, setR] <;> omega)) (by first | omega | (simp [up, setR] <;> omega)) (v := (h 38) (((h 34) 2) - 1)) rfl dX8_addBytesTo_10 ?_
  have r2 := ty_38 (i := ((h 34) 2) - 1) (v := (h 38) (((h 34) 2) - 1)) hT rfl (by omega) (by omega)
  refine TT_sipush hK (by decide) dX8_addBytesTo_11 ?_
  refine TT_icmp_ne hK (tgt := 26) (irm (by omega) (by omega)) (by decide) dX8_addBytesTo_14 (by decide) (fun hb14_3 => ?_) (fun hb14_3 => ?_)
  · refine TT_aload_n hK rfl 0 rfl dX8_addBytesTo_26 ?_
    refine gf_X8_25 hK (by decide) rfl (v := (h 34) 2) rfl dX8_addBytesTo_27 ?_
    refine TT_istore_n hK rfl (lv' := [(2, vI ((h 34) 2)), (0, vR 34), (1, vR 22)]) (by decide) rfl dX8_addBytesTo_30 ?_
    refine TT_iconst hK dX8_addBytesTo_31 ?_
    refine TT_istore_n hK rfl (lv' := [(3, vI 1), (2, vI ((h 34) 2)), (0, vR 34), (1, vR 22)]) (by decide) rfl dX8_addBytesTo_32 ?_
    have L33_4 : ∀ (k4 : Nat) (e : Int) (i : Int) (w33_4 : Hp_), TY w33_4 → FR [22, 23] h w33_4 → (1 ≤ i ∧ i ≤ 1024 ∧ (i ≤ e ∨ i = 1)) → (0 ≤ e ∧ e ≤ h 34 2) → (e = if h 38 (h 34 2 - 1) = 255 then h 34 2 - 1 else h 34 2) → ((w33_4 22 1) = h 22 1 + (i - 1)) → (∀ j : Int, 1 ≤ j → j < i → (w33_4 23) (h 22 1 + j - 1) = h 38 j) → (∀ j : Int, j < h 22 1 → (w33_4 23) j = h 23 j) → ((1024 : Int) - i).toNat < k4 → TT K ly 0 0 33 [(0, vR 34), (1, vR 22), (2, vI e), (3, vI i)] [] w33_4 := by
      intro k4
      induction k4 with
      | zero => intro e i w33_4 hT33_4 hF33_4 hi he he9 hl1 hz hk hk4; exact absurd hk4 (Nat.not_lt_zero _)
      | succ k4 ih4 =>
        intro e i w33_4 hT33_4 hF33_4 hi he he9 hl1 hz hk hk4
        refine TT_iload_n hK rfl 3 rfl dX8_addBytesTo_33 ?_
        refine TT_iload_n hK rfl 2 rfl dX8_addBytesTo_34 ?_
        refine TT_icmp_ge hK (tgt := 54) (irm (by omega) (by omega)) (irm (by omega) (by omega)) dX8_addBytesTo_35 (by decide) (fun hb35_5 => ?_) (fun hb35_5 => ?_)
        · refine TT_iload_n hK rfl 2 rfl dX8_addBytesTo_54 ?_
          refine TT_iconst hK dX8_addBytesTo_55 ?_
          refine TT_isub hK dX8_addBytesTo_56 ?_
          refine TT_iret hK hQ ?_ dX8_addBytesTo_57
          have e6_22_1 : w33_4 22 1 = (w33_4 22) 1 := rfl
          exact ⟨⟨hT33_4, hF33_4⟩, (e - 1), rfl, (by omega), (by rw [← he9]), (by rewrite [e6_22_1]; intro q; omega), (by intro j h1 h2; exact hz j h1 (by omega)), (by exact hk)⟩
        · refine TT_aload_n hK rfl 1 rfl dX8_addBytesTo_38 ?_
          refine TT_aload_n hK rfl 0 rfl dX8_addBytesTo_39 ?_
          refine gf_X8_18 hK (by decide) rfl (q := 38) rfl rfl dX8_addBytesTo_40 ?_
          refine TT_iload_n hK rfl 3 rfl dX8_addBytesTo_43 ?_
          refine TT_iald hK (o := 38) (n := 1024) (by decide) rfl (by first | omega | (simp [up, setR] <;> omega)) (by first | omega | (simp [up, setR] <;> omega)) (v := (h 38) i) (rd_ (hF33_4 38 (by decide)) rfl) dX8_addBytesTo_44 ?_
          have r7 := ty_38 (i := i) (v := (h 38) i) hT33_4 (rd_ (hF33_4 38 (by decide)) rfl) (by omega) (by omega)
          have e8_22_1 : w33_4 22 1 = (w33_4 22) 1 := rfl
          refine iv_X8_61 hK (s_add_e ((h 38) i) w33_4 hT33_4 (by first | omega | (simp [up, setR] <;> omega)) (by rewrite [e8_22_1]; first | omega | (simp [up, setR] <;> omega))) (by decide) rfl ⟨by decide, by decide⟩ (by decide) rfl rfl (Nat.le_of_ble_eq_true rfl) ⟨by decide, by decide⟩ dX8_addBytesTo_45 ?_
          intro r9 g45_9 hp9
          obtain ⟨⟨hT_9, hG_9⟩, hr9, a1_9, a2_9⟩ := hp9
          rw [hr9]
          have hF_9 : FR [22, 23] h g45_9 := FR_tr hF33_4 hG_9 (by decide)
          rw [show w33_4 22 1 = (w33_4 22) 1 from rfl] at a1_9
          rw [show w33_4 22 1 = (w33_4 22) 1 from rfl] at a2_9
          have a1_at45 := a1_9
          have a2_at45 := a2_9
          show TT K ly 0 0 48 [(0, vR 34), (1, vR 22), (2, vI e), (3, vI i)] [] g45_9
          refine TT_iinc hK (v := i + 1) (lv' := [(3, vI (i + 1)), (0, vR 34), (1, vR 22), (2, vI e)]) 3 rfl rfl (by decide) rfl dX8_addBytesTo_48 ?_
          refine TT_goto hK (tgt := 33) dX8_addBytesTo_51 (by decide) ?_
          refine TT_sub [1, 2, 3, 0] rfl ?_
          have e10_22_1 : g45_9 22 1 = (g45_9 22) 1 := rfl
          exact ih4 e (i + 1) g45_9 hT_9 hF_9 (by first | omega | (simp [up, setR] <;> omega)) (by first | omega | (simp [up, setR] <;> omega)) (by exact he9) (by rewrite [e10_22_1]; rw [a1_at45]; omega) (by intro j h1 h2; rw [a2_at45]; by_cases q : j = i; (rw [q, show h 22 1 + i - 1 = h 22 1 + (i - 1) by omega, ← hl1, fup_eq]); (rw [fup_ne _ _ (by omega)]; exact hz j h1 (by omega))) (by intro j h1; rw [a2_at45, fup_ne _ _ (by omega)]; exact hk j h1) (by first | omega | (simp [up, setR] <;> omega))
    refine TT_sub [2, 3, 1, 0] rfl ?_
    have e11_22_1 : h 22 1 = (h 22) 1 := rfl
    exact L33_4 ((((1024 : Int) - 1).toNat) + 1) ((h 34) 2) 1 h hT hF (by first | omega | (simp [up, setR] <;> omega)) (by first | omega | (simp [up, setR] <;> omega)) (by first | rw [if_pos (by omega)] | rw [if_neg (by omega)]) (by rewrite [e11_22_1]; omega) (by intro j h1 h2; exfalso; omega) (by intro j _; rfl) (Nat.lt_succ_self _)
  · refine TT_aload_n hK rfl 0 rfl dX8_addBytesTo_17 ?_
    refine gf_X8_25 hK (by decide) rfl (v := (h 34) 2) rfl dX8_addBytesTo_18 ?_
    refine TT_iconst hK dX8_addBytesTo_21 ?_
    refine TT_isub hK dX8_addBytesTo_22 ?_
    refine TT_goto hK (tgt := 30) dX8_addBytesTo_23 (by decide) ?_
    refine TT_istore_n hK rfl (lv' := [(2, vI (((h 34) 2) - 1)), (0, vR 34), (1, vR 22)]) (by decide) rfl dX8_addBytesTo_30 ?_
    refine TT_iconst hK dX8_addBytesTo_31 ?_
    refine TT_istore_n hK rfl (lv' := [(3, vI 1), (2, vI (((h 34) 2) - 1)), (0, vR 34), (1, vR 22)]) (by decide) rfl dX8_addBytesTo_32 ?_
    have L33_12 : ∀ (k12 : Nat) (e : Int) (i : Int) (w33_12 : Hp_), TY w33_12 → FR [22, 23] h w33_12 → (1 ≤ i ∧ i ≤ 1024 ∧ (i ≤ e ∨ i = 1)) → (0 ≤ e ∧ e ≤ h 34 2) → (e = if h 38 (h 34 2 - 1) = 255 then h 34 2 - 1 else h 34 2) → ((w33_12 22 1) = h 22 1 + (i - 1)) → (∀ j : Int, 1 ≤ j → j < i → (w33_12 23) (h 22 1 + j - 1) = h 38 j) → (∀ j : Int, j < h 22 1 → (w33_12 23) j = h 23 j) → ((1024 : Int) - i).toNat < k12 → TT K ly 0 0 33 [(0, vR 34), (1, vR 22), (2, vI e), (3, vI i)] [] w33_12 := by
      intro k12
      induction k12 with
      | zero => intro e i w33_12 hT33_12 hF33_12 hi he he9 hl1 hz hk hk12; exact absurd hk12 (Nat.not_lt_zero _)
      | succ k12 ih12 =>
        intro e i w33_12 hT33_12 hF33_12 hi he he9 hl1 hz hk hk12
        refine TT_iload_n hK rfl 3 rfl dX8_addBytesTo_33 ?_
        refine TT_iload_n hK rfl 2 rfl dX8_addBytesTo_34 ?_
        refine TT_icmp_ge hK (tgt := 54) (irm (by omega) (by omega)) (irm (by omega) (by omega)) dX8_addBytesTo_35 (by decide) (fun hb35_13 => ?_) (fun hb35_13 => ?_)
        · refine TT_iload_n hK rfl 2 rfl dX8_addBytesTo_54 ?_
          refine TT_iconst hK dX8_addBytesTo_55 ?_
          refine TT_isub hK dX8_addBytesTo_56 ?_
          refine TT_iret hK hQ ?_ dX8_addBytesTo_57
          have e14_22_1 : w33_12 22 1 = (w33_12 22) 1 := rfl
          exact ⟨⟨hT33_12, hF33_12⟩, (e - 1), rfl, (by omega), (by rw [← he9]), (by rewrite [e14_22_1]; intro q; omega), (by intro j h1 h2; exact hz j h1 (by omega)), (by exact hk)⟩
        · refine TT_aload_n hK rfl 1 rfl dX8_addBytesTo_38 ?_
          refine TT_aload_n hK rfl 0 rfl dX8_addBytesTo_39 ?_
          refine gf_X8_18 hK (by decide) rfl (q := 38) rfl rfl dX8_addBytesTo_40 ?_
          refine TT_iload_n hK rfl 3 rfl dX8_addBytesTo_43 ?_
          refine TT_iald hK (o := 38) (n := 1024) (by decide) rfl (by first | omega | (simp [up, setR] <;> omega)) (by first | omega | (simp [up, setR] <;> omega)) (v := (h 38) i) (rd_ (hF33_12 38 (by decide)) rfl) dX8_addBytesTo_44 ?_
          have r15 := ty_38 (i := i) (v := (h 38) i) hT33_12 (rd_ (hF33_12 38 (by decide)) rfl) (by omega) (by omega)
          have e16_22_1 : w33_12 22 1 = (w33_12 22) 1 := rfl
          refine iv_X8_61 hK (s_add_e ((h 38) i) w33_12 hT33_12 (by first | omega | (simp [up, setR] <;> omega)) (by rewrite [e16_22_1]; first | omega | (simp [up, setR] <;> omega))) (by decide) rfl ⟨by decide, by decide⟩ (by decide) rfl rfl (Nat.le_of_ble_eq_true rfl) ⟨by decide, by decide⟩ dX8_addBytesTo_45 ?_
          intro r9 g45_17 hp9
          obtain ⟨⟨hT_17, hG_17⟩, hr9, a1_17, a2_17⟩ := hp9
          rw [hr9]
          have hF_17 : FR [22, 23] h g45_17 := FR_tr hF33_12 hG_17 (by decide)
          rw [show w33_12 22 1 = (w33_12 22) 1 from rfl] at a1_17
          rw [show w33_12 22 1 = (w33_12 22) 1 from rfl] at a2_17
          have a1_at45 := a1_17
          have a2_at45 := a2_17
          show TT K ly 0 0 48 [(0, vR 34), (1, vR 22), (2, vI e), (3, vI i)] [] g45_17
          refine TT_iinc hK (v := i + 1) (lv' := [(3, vI (i + 1)), (0, vR 34), (1, vR 22), (2, vI e)]) 3 rfl rfl (by decide) rfl dX8_addBytesTo_48 ?_
          refine TT_goto hK (tgt := 33) dX8_addBytesTo_51 (by decide) ?_
          refine TT_sub [1, 2, 3, 0] rfl ?_
          have e18_22_1 : g45_17 22 1 = (g45_17 22) 1 := rfl
          exact ih12 e (i + 1) g45_17 hT_17 hF_17 (by first | omega | (simp [up, setR] <;> omega)) (by first | omega | (simp [up, setR] <;> omega)) (by exact he9) (by rewrite [e18_22_1]; rw [a1_at45]; omega) (by intro j h1 h2; rw [a2_at45]; by_cases q : j = i; (rw [q, show h 22 1 + i - 1 = h 22 1 + (i - 1) by omega, ← hl1, fup_eq]); (rw [fup_ne _ _ (by omega)]; exact hz j h1 (by omega))) (by intro j h1; rw [a2_at45, fup_ne _ _ (by omega)]; exact hk j h1) (by first | omega | (simp [up, setR] <;> omega))
    refine TT_sub [2, 3, 1, 0] rfl ?_
    have e19_22_1 : h 22 1 = (h 22) 1 := rfl
    exact L33_12 ((((1024 : Int) - 1).toNat) + 1) (((h 34) 2) - 1) 1 h hT hF (by first | omega | (simp [up, setR] <;> omega)) (by first | omega | (simp [up, setR] <;> omega)) (by first | rw [if_pos (by omega)] | rw [if_neg (by omega)]) (by rewrite [e19_22_1]; omega) (by intro j h1 h2; exfalso; omega) (by intro j _; rfl) (Nat.lt_succ_self _)
set_option maxRecDepth 20000 in
theorem s_tclear_e (h : Hp_) (hT : TY h)  : Ctr yX7_clear cX7_clear 1 none (rmd 0) ly ly 0 0 [vR 24] h (fun r h' => (TY h' ∧ FR [24] h h') ∧ r = none ∧ ((h' 24 3) = 0) ∧ ((h' 24 4) = 0)) := by
  refine Ctr_of (by decide) (Nat.le_of_ble_eq_true rfl) ⟨Nat.le_refl _, Nat.le_refl _⟩ (fun K hK hQ _ => ?_)
  show TT K ly 0 0 0 [(0, vR 24)] [] h
  have hF : FR [24] h h := FR_rf _ _
  refine TT_aload_n hK rfl 0 rfl dX7_clear_0 ?_
  refine TT_iconst hK dX7_clear_1 ?_
  refine pf_X7_21 hK (by decide) rfl dX7_clear_2 ?_
  refine TT_hp (h' := setO h 24 (fup (h 24) 3 0)) (up_can rfl rfl rfl) ?_
  have hT_1 : TY (setO h 24 (fup (h 24) 3 0)) := tu_24_3 hT (show up h 24 3 0 = (setO h 24 (fup (h 24) 3 0)) from up_can rfl rfl rfl) (by omega)
  have hF_1 : FR [24] h (setO h 24 (fup (h 24) 3 0)) := FR_up (show up h 24 3 0 = (setO h 24 (fup (h 24) 3 0)) from up_can rfl rfl rfl) hF (by decide)
  refine TT_aload_n hK rfl 0 rfl dX7_clear_5 ?_
  refine TT_iconst hK dX7_clear_6 ?_
  refine pf_X7_25 hK (by decide) rfl dX7_clear_7 ?_
  refine TT_hp (h' := setO h 24 (fup (fup (h 24) 3 0) 4 0)) (up_can (sOf_eq _ _ _) rfl (setO_same _ _ _ _)) ?_
  have hT_2 : TY (setO h 24 (fup (fup (h 24) 3 0) 4 0)) := tu_24_4 hT_1 (show up (setO h 24 (fup (h 24) 3 0)) 24 4 0 = (setO h 24 (fup (fup (h 24) 3 0) 4 0)) from up_can (sOf_eq _ _ _) rfl (setO_same _ _ _ _)) (by omega)
  have hF_2 : FR [24] h (setO h 24 (fup (fup (h 24) 3 0) 4 0)) := FR_up (show up (setO h 24 (fup (h 24) 3 0)) 24 4 0 = (setO h 24 (fup (fup (h 24) 3 0) 4 0)) from up_can (sOf_eq _ _ _) rfl (setO_same _ _ _ _)) hF_1 (by decide)
  refine TT_vret hK hQ ?_ dX7_clear_10
  have e3_24_3 : (setO h 24 (fup (fup (h 24) 3 0) 4 0)) 24 3 = 0 := rd_ (sOf_eq _ _ _) ((fup_ne _ _ (by decide)).trans (fup_eq _ _ _))
  have e4_24_4 : (setO h 24 (fup (fup (h 24) 3 0) 4 0)) 24 4 = 0 := rd_ (sOf_eq _ _ _) (fup_eq _ _ _)
  exact ⟨⟨hT_2, hF_2⟩, rfl, (by rewrite [e3_24_3]; omega), (by rewrite [e4_24_4]; omega)⟩
set_option maxRecDepth 20000 in
theorem s_endPass_e (h : Hp_) (hT : TY h)  : Ctr yX7_endPass cX7_endPass 1 none (rmd 0) ly ly 0 0 [vR 24] h (fun r h' => (TY h' ∧ FR [24, 27] h h') ∧ r = none ∧ ((h' 24 3) = (h 24 3))) := by
  refine Ctr_of (by decide) (Nat.le_of_ble_eq_true rfl) ⟨Nat.le_refl _, Nat.le_refl _⟩ (fun K hK hQ _ => ?_)
  show TT K ly 0 0 0 [(0, vR 24)] [] h
  have hF : FR [24, 27] h h := FR_rf _ _
  refine TT_aload_n hK rfl 0 rfl dX7_endPass_0 ?_
  refine gf_X7_25 hK (by decide) rfl (v := (h 24) 4) rfl dX7_endPass_1 ?_
  have r1 := ty_24_4 (v := (h 24) 4) hT rfl
  refine TT_bipush hK (by decide) dX7_endPass_4 ?_
  refine TT_icmp_ge hK (tgt := 32) (irm (by omega) (by omega)) (by decide) dX7_endPass_6 (by decide) (fun hb6_2 => ?_) (fun hb6_2 => ?_)
  · refine TT_vret hK hQ ?_ dX7_endPass_32
    have e3_24_3 : h 24 3 = (h 24) 3 := rfl
    exact ⟨⟨hT, hF⟩, rfl, (by rewrite [e3_24_3]; omega)⟩
  · refine TT_aload_n hK rfl 0 rfl dX7_endPass_9 ?_
    refine gf_X7_18 hK (by decide) rfl (q := 27) rfl rfl dX7_endPass_10 ?_
    refine TT_aload_n hK rfl 0 rfl dX7_endPass_13 ?_
    refine gf_X7_25 hK (by decide) rfl (v := (h 24) 4) rfl dX7_endPass_14 ?_
    refine TT_aload_n hK rfl 0 rfl dX7_endPass_17 ?_
    refine gf_X7_21 hK (by decide) rfl (v := (h 24) 3) rfl dX7_endPass_18 ?_
    have r4 := ty_24_3 (v := (h 24) 3) hT rfl
    refine TT_iast hK (o := 27) (n := 34) (by decide) rfl (by omega) (by omega) dX7_endPass_21 ?_
    refine TT_hp (h' := setO h 27 (fup (h 27) ((h 24) 4) ((h 24) 3))) (up_can rfl rfl rfl) ?_
    have hT_5 : TY (setO h 27 (fup (h 27) ((h 24) 4) ((h 24) 3))) := tu_27 hT (show up h 27 ((h 24) 4) ((h 24) 3) = (setO h 27 (fup (h 27) ((h 24) 4) ((h 24) 3))) from up_can rfl rfl rfl) (by omega)
    have hF_5 : FR [24, 27] h (setO h 27 (fup (h 27) ((h 24) 4) ((h 24) 3))) := FR_up (show up h 27 ((h 24) 4) ((h 24) 3) = (setO h 27 (fup (h 27) ((h 24) 4) ((h 24) 3))) from up_can rfl rfl rfl) hF (by decide)
    refine TT_aload_n hK rfl 0 rfl dX7_endPass_22 ?_
    refine TT_dup hK rfl dX7_endPass_23 ?_
    refine gf_X7_25 hK (by decide) rfl (v := (h 24) 4) (rd_ (sOf_ne _ _ (by decide)) rfl) dX7_endPass_24 ?_
    refine TT_iconst hK dX7_endPass_27 ?_
    refine TT_iadd hK dX7_endPass_28 ?_
    refine pf_X7_25 hK (by decide) rfl dX7_endPass_29 ?_
    refine TT_hp (h' := setO (setO h 24 (fup (h 24) 4 (((h 24) 4) + 1))) 27 (fup (h 27) ((h 24) 4) ((h 24) 3))) (up_can (sOf_ne _ _ (by decide)) rfl ((setO_comm _ _ _ (by decide)).trans (setO_cg rfl rfl))) ?_
    have hT_6 : TY (setO (setO h 24 (fup (h 24) 4 (((h 24) 4) + 1))) 27 (fup (h 27) ((h 24) 4) ((h 24) 3))) := tu_24_4 hT_5 (show up (setO h 27 (fup (h 27) ((h 24) 4) ((h 24) 3))) 24 4 (((h 24) 4) + 1) = (setO (setO h 24 (fup (h 24) 4 (((h 24) 4) + 1))) 27 (fup (h 27) ((h 24) 4) ((h 24) 3))) from up_can (sOf_ne _ _ (by decide)) rfl ((setO_comm _ _ _ (by decide)).trans (setO_cg rfl rfl))) (by omega)
    have hF_6 : FR [24, 27] h (setO (setO h 24 (fup (h 24) 4 (((h 24) 4) + 1))) 27 (fup (h 27) ((h 24) 4) ((h 24) 3))) := FR_up (show up (setO h 27 (fup (h 27) ((h 24) 4) ((h 24) 3))) 24 4 (((h 24) 4) + 1) = (setO (setO h 24 (fup (h 24) 4 (((h 24) 4) + 1))) 27 (fup (h 27) ((h 24) 4) ((h 24) 3))) from up_can (sOf_ne _ _ (by decide)) rfl ((setO_comm _ _ _ (by decide)).trans (setO_cg rfl rfl))) hF_5 (by decide)
    refine TT_vret hK hQ ?_ dX7_endPass_32
    have e7_24_3 : (setO (setO h 24 (fup (h 24) 4 (((h 24) 4) + 1))) 27 (fup (h 27) ((h 24) 4) ((h 24) 3))) 24 3 = (h 24) 3 := rd_ ((sOf_ne _ _ (by decide)).trans (sOf_eq _ _ _)) (fup_ne _ _ (by decide))
    exact ⟨⟨hT_6, hF_6⟩, rfl, (by rewrite [e7_24_3]; omega)⟩

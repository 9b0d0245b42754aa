set_option maxRecDepth 20000 in
theorem c_X2_begin_35 (h : Hp_)  : Ctr yX2_begin cX2_begin 1 none (rmd 1) ly ly 0 0 [vR 35] h (fun r h' => r = none ∧ h' = setO (setO h 36 (fup (fup (fup (fsr (h 36) 0 19 (fun _ => 0)) 0 4) 17 3) 18 46)) 37 (fsr (h 37) 0 19 (fun _ => 0))) := by
  refine Ctr_of (by decide) (Nat.le_of_ble_eq_true rfl) ⟨Nat.le_refl _, Nat.le_refl _⟩ (fun K hK hQ _ => ?_)
  show TT K ly 0 0 0 [(0, vR 35)] [] h
  refine TT_aload_n hK rfl 0 rfl dX2_begin_0 ?_
  refine gf_X2_13 hK (by decide) rfl (q := 37) rfl rfl dX2_begin_1 ?_
  refine TT_iconst hK dX2_begin_4 ?_
  refine iv_X2_16 hK (c_fill_37 0 h ) ⟨by decide, by decide⟩ (by decide) rfl rfl (Nat.le_of_ble_eq_true rfl) ⟨by decide, by decide⟩ dX2_begin_5 ?_
  intro r9 h9 hp9
  rw [hp9.1, hp9.2]
  show TT K ly 0 0 8 [(0, vR 35)] [] (setO h 37 (fsr (h 37) 0 19 (fun _ => 0)))
  refine TT_aload_n hK rfl 0 rfl dX2_begin_8 ?_
  refine gf_X2_9 hK (by decide) rfl (q := 36) rfl rfl dX2_begin_9 ?_
  refine TT_iconst hK dX2_begin_12 ?_
  have q13_36 : (setO h 37 (fsr (h 37) 0 19 (fun _ => 0))) 36 = h 36 := sOf_ne _ _ (by decide)
  refine iv_X2_16 hK (c_fill_36 0 (setO h 37 (fsr (h 37) 0 19 (fun _ => 0))) ) ⟨by decide, by decide⟩ (by decide) rfl rfl (Nat.le_of_ble_eq_true rfl) ⟨by decide, by decide⟩ dX2_begin_13 ?_
  intro r9 h9 hp9
  rw [q13_36] at hp9
  rw [hp9.1, hp9.2]
  refine TT_hp (h' := setO (setO h 36 (fsr (h 36) 0 19 (fun _ => 0))) 37 (fsr (h 37) 0 19 (fun _ => 0))) ((setO_comm _ _ _ (by decide)).trans (setO_cg rfl rfl)) ?_
  show TT K ly 0 0 16 [(0, vR 35)] [] (setO (setO h 36 (fsr (h 36) 0 19 (fun _ => 0))) 37 (fsr (h 37) 0 19 (fun _ => 0)))
  refine TT_aload_n hK rfl 0 rfl dX2_begin_16 ?_
  refine gf_X2_9 hK (by decide) rfl (q := 36) rfl rfl dX2_begin_17 ?_
  refine TT_iconst hK dX2_begin_20 ?_
  refine TT_iconst hK dX2_begin_21 ?_
  refine TT_iast hK (o := 36) (n := 19) (by decide) rfl (by first | omega | (simp [up, setR] <;> omega)) (by first | omega | (simp [up, setR] <;> omega)) dX2_begin_22 ?_
  refine TT_hp (h' := setO (setO h 36 (fup (fsr (h 36) 0 19 (fun _ => 0)) 0 4)) 37 (fsr (h 37) 0 19 (fun _ => 0))) (up_can ((sOf_ne _ _ (by decide)).trans (sOf_eq _ _ _)) rfl ((setO_comm _ _ _ (by decide)).trans (setO_cg (setO_same _ _ _ _) rfl))) ?_
  refine TT_aload_n hK rfl 0 rfl dX2_begin_23 ?_
  refine gf_X2_9 hK (by decide) rfl (q := 36) rfl rfl dX2_begin_24 ?_
  refine TT_bipush hK (by decide) dX2_begin_27 ?_
  refine TT_iconst hK dX2_begin_29 ?_
  refine TT_iast hK (o := 36) (n := 19) (by decide) rfl (by first | omega | (simp [up, setR] <;> omega)) (by first | omega | (simp [up, setR] <;> omega)) dX2_begin_30 ?_
  refine TT_hp (h' := setO (setO h 36 (fup (fup (fsr (h 36) 0 19 (fun _ => 0)) 0 4) 17 3)) 37 (fsr (h 37) 0 19 (fun _ => 0))) (up_can ((sOf_ne _ _ (by decide)).trans (sOf_eq _ _ _)) rfl ((setO_comm _ _ _ (by decide)).trans (setO_cg (setO_same _ _ _ _) rfl))) ?_
  refine TT_aload_n hK rfl 0 rfl dX2_begin_31 ?_
  refine gf_X2_9 hK (by decide) rfl (q := 36) rfl rfl dX2_begin_32 ?_
  refine TT_bipush hK (by decide) dX2_begin_35 ?_
  refine TT_bipush hK (by decide) dX2_begin_37 ?_
  refine TT_iast hK (o := 36) (n := 19) (by decide) rfl (by first | omega | (simp [up, setR] <;> omega)) (by first | omega | (simp [up, setR] <;> omega)) dX2_begin_39 ?_
  refine TT_hp (h' := setO (setO h 36 (fup (fup (fup (fsr (h 36) 0 19 (fun _ => 0)) 0 4) 17 3) 18 46)) 37 (fsr (h 37) 0 19 (fun _ => 0))) (up_can ((sOf_ne _ _ (by decide)).trans (sOf_eq _ _ _)) rfl ((setO_comm _ _ _ (by decide)).trans (setO_cg (setO_same _ _ _ _) rfl))) ?_
  refine TT_vret hK hQ ?_ dX2_begin_40
  exact ⟨rfl, rfl⟩
set_option maxRecDepth 20000 in
theorem c_X2_sizeOf_35 (x : Int) (h : Hp_) (hx : 0 ≤ x ∧ x < 19) (hst : ∀ j, 0 ≤ j → j < 19 → 0 ≤ (h 36) j ∧ (h 36) j < 47) : Ctr yX2_sizeOf cX2_sizeOf 2 (some .int) (rmd 0) ly ly 0 0 [vR 35, vI x] h (fun r h' => r = some (vI (qS ((h 36) x))) ∧ h' = h) := by
  refine Ctr_of (by decide) (Nat.le_of_ble_eq_true rfl) ⟨Nat.le_refl _, Nat.le_refl _⟩ (fun K hK hQ _ => ?_)
  show TT K ly 0 0 0 [(0, vR 35), (1, vI x)] [] h
  have hs := hst x hx.1 hx.2
  refine TT_gets hK (i := 0) (q := 1000) (by decide) rfl gs_X2_22 dX2_sizeOf_0 ?_
  refine TT_aload_n hK rfl 0 rfl dX2_sizeOf_3 ?_
  refine gf_X2_9 hK (by decide) rfl (q := 36) rfl rfl dX2_sizeOf_4 ?_
  refine TT_iload_n hK rfl 1 rfl dX2_sizeOf_7 ?_
  refine TT_iald hK (o := 36) (n := 19) (by decide) rfl (by first | omega | (simp [up, setR] <;> omega)) (by first | omega | (simp [up, setR] <;> omega)) (v := (h 36) x) rfl dX2_sizeOf_8 ?_
  refine TT_tald hK (i := 0) (by decide) rfl (by first | omega | (simp [up, setR] <;> omega)) (by first | omega | (simp [up, setR] <;> omega)) rfl dX2_sizeOf_9 ?_
  refine TT_iret hK hQ ?_ dX2_sizeOf_10
  exact ⟨congrArg (fun z => some (vI z)) (by rfl), rfl⟩
set_option maxRecDepth 20000 in
theorem c_X2_likelyBit_35 (x : Int) (h : Hp_) (hx : 0 ≤ x ∧ x < 19) : Ctr yX2_likelyBit cX2_likelyBit 2 (some .int) (rmd 0) ly ly 0 0 [vR 35, vI x] h (fun r h' => r = some (vI ((h 37) x)) ∧ h' = h) := by
  refine Ctr_of (by decide) (Nat.le_of_ble_eq_true rfl) ⟨Nat.le_refl _, Nat.le_refl _⟩ (fun K hK hQ _ => ?_)
  show TT K ly 0 0 0 [(0, vR 35), (1, vI x)] [] h
  refine TT_aload_n hK rfl 0 rfl dX2_likelyBit_0 ?_
  refine gf_X2_13 hK (by decide) rfl (q := 37) rfl rfl dX2_likelyBit_1 ?_
  refine TT_iload_n hK rfl 1 rfl dX2_likelyBit_4 ?_
  refine TT_iald hK (o := 37) (n := 19) (by decide) rfl (by first | omega | (simp [up, setR] <;> omega)) (by first | omega | (simp [up, setR] <;> omega)) (v := (h 37) x) rfl dX2_likelyBit_5 ?_
  refine TT_iret hK hQ ?_ dX2_likelyBit_6
  exact ⟨congrArg (fun z => some (vI z)) (by rfl), rfl⟩
set_option maxRecDepth 20000 in
theorem c_X2_learn_35 (x b : Int) (h : Hp_) (hx : 0 ≤ x ∧ x < 19) (hb : b = 0 ∨ b = 1) (hst : ∀ j, 0 ≤ j → j < 19 → 0 ≤ (h 36) j ∧ (h 36) j < 47) (hlk : ∀ j, 0 ≤ j → j < 19 → (h 37) j = 0 ∨ (h 37) j = 1) : Ctr yX2_learn cX2_learn 4 none (rmd 0) ly ly 0 0 [vR 35, vI x, vI b] h (fun r h' => r = none ∧ h' = setO (setO h 36 (lrS (h 36) x (b ≠ (h 37) x))) 37 (lrL (h 36) (h 37) x (b ≠ (h 37) x))) := by
  refine Ctr_of (by decide) (Nat.le_of_ble_eq_true rfl) ⟨Nat.le_refl _, Nat.le_refl _⟩ (fun K hK hQ _ => ?_)
  show TT K ly 0 0 0 [(0, vR 35), (1, vI x), (2, vI b)] [] h
  have hs := hst x hx.1 hx.2
  have hl := hlk x hx.1 hx.2
  refine TT_aload_n hK rfl 0 rfl dX2_learn_0 ?_
  refine gf_X2_9 hK (by decide) rfl (q := 36) rfl rfl dX2_learn_1 ?_
  refine TT_iload_n hK rfl 1 rfl dX2_learn_4 ?_
  refine TT_iald hK (o := 36) (n := 19) (by decide) rfl (by first | omega | (simp [up, setR] <;> omega)) (by first | omega | (simp [up, setR] <;> omega)) (v := (h 36) x) rfl dX2_learn_5 ?_
  refine TT_istore_n hK rfl (lv' := [(3, vI ((h 36) x)), (0, vR 35), (1, vI x), (2, vI b)]) (by decide) rfl dX2_learn_6 ?_
  refine TT_iload_n hK rfl 3 rfl dX2_learn_7 ?_
  refine TT_aload_n hK rfl 1 rfl dX2_learn_8 ?_
  refine gf_X2_13 hK (by decide) rfl (q := 37) rfl rfl dX2_learn_9 ?_
  refine TT_iload_n hK rfl 2 rfl dX2_learn_12 ?_
  refine TT_iald hK (o := 37) (n := 19) (by decide) rfl (by first | omega | (simp [up, setR] <;> omega)) (by first | omega | (simp [up, setR] <;> omega)) (v := (h 37) x) rfl dX2_learn_13 ?_
  refine TT_icmp_ne hK (tgt := 29) (irm (by omega) (by omega)) (irm (by omega) (by omega)) dX2_learn_14 (by decide) (fun hb14 => ?_) (fun hb14 => ?_)
  · refine TT_aload_n hK rfl 1 rfl dX2_learn_29 ?_
    refine gf_X2_9 hK (by decide) rfl (q := 36) rfl rfl dX2_learn_30 ?_
    refine TT_iload_n hK rfl 2 rfl dX2_learn_33 ?_
    refine TT_gets hK (i := 2) (q := 1002) (by decide) rfl gs_X2_28 dX2_learn_34 ?_
    refine TT_iload_n hK rfl 0 rfl dX2_learn_37 ?_
    refine TT_tald hK (i := 2) (by decide) rfl (by first | omega | (simp [up, setR] <;> omega)) (by first | omega | (simp [up, setR] <;> omega)) rfl dX2_learn_38 ?_
    refine TT_iast hK (o := 36) (n := 19) (by decide) rfl (by first | omega | (simp [up, setR] <;> omega)) (by first | omega | (simp [up, setR] <;> omega)) dX2_learn_39 ?_
    refine TT_hp (h' := setO h 36 (fup (h 36) x ((stT 2).getD ((h 36) x).toNat 0))) (up_can rfl rfl rfl) ?_
    refine TT_iload_n hK rfl 0 rfl dX2_learn_40 ?_
    refine TT_if_eq hK (tgt := 56) (irm (by omega) (by omega)) dX2_learn_41 (by decide) (fun hb41 => ?_) (fun hb41 => ?_)
    · refine TT_aload_n hK rfl 1 rfl dX2_learn_56 ?_
      refine gf_X2_13 hK (by decide) rfl (q := 37) rfl rfl dX2_learn_57 ?_
      refine TT_iload_n hK rfl 2 rfl dX2_learn_60 ?_
      refine TT_iload_n hK rfl 3 rfl dX2_learn_61 ?_
      refine TT_iast hK (o := 37) (n := 19) (by decide) rfl (by first | omega | (simp [up, setR] <;> omega)) (by first | omega | (simp [up, setR] <;> omega)) dX2_learn_62 ?_
      refine TT_hp (h' := setO (setO h 36 (fup (h 36) x ((stT 2).getD ((h 36) x).toNat 0))) 37 (fup (h 37) x b)) (up_can (sOf_ne _ _ (by decide)) rfl rfl) ?_
      refine TT_vret hK hQ ?_ dX2_learn_63
      exact ⟨rfl, setO_cg (setO_cg rfl (by unfold lrS; first | (rw [if_pos (by omega)]; rfl) | (rw [if_neg (by omega)]; rfl))) (by unfold lrL; first | (rw [if_pos (by omega)]; congr 1; omega) | rw [if_neg (by omega)])⟩
    · refine TT_iload_n hK rfl 0 rfl dX2_learn_44 ?_
      refine TT_bipush hK (by decide) dX2_learn_45 ?_
      refine TT_icmp_eq hK (tgt := 56) (irm (by omega) (by omega)) (by decide) dX2_learn_47 (by decide) (fun hb47 => ?_) (fun hb47 => ?_)
      · refine TT_aload_n hK rfl 1 rfl dX2_learn_56 ?_
        refine gf_X2_13 hK (by decide) rfl (q := 37) rfl rfl dX2_learn_57 ?_
        refine TT_iload_n hK rfl 2 rfl dX2_learn_60 ?_
        refine TT_iload_n hK rfl 3 rfl dX2_learn_61 ?_
        refine TT_iast hK (o := 37) (n := 19) (by decide) rfl (by first | omega | (simp [up, setR] <;> omega)) (by first | omega | (simp [up, setR] <;> omega)) dX2_learn_62 ?_
        refine TT_hp (h' := setO (setO h 36 (fup (h 36) x ((stT 2).getD ((h 36) x).toNat 0))) 37 (fup (h 37) x b)) (up_can (sOf_ne _ _ (by decide)) rfl rfl) ?_
        refine TT_vret hK hQ ?_ dX2_learn_63
        exact ⟨rfl, setO_cg (setO_cg rfl (by unfold lrS; first | (rw [if_pos (by omega)]; rfl) | (rw [if_neg (by omega)]; rfl))) (by unfold lrL; first | (rw [if_pos (by omega)]; congr 1; omega) | rw [if_neg (by omega)])⟩
      · refine TT_iload_n hK rfl 0 rfl dX2_learn_50 ?_
        refine TT_bipush hK (by decide) dX2_learn_51 ?_
        refine TT_icmp_ne hK (tgt := 63) (irm (by omega) (by omega)) (by decide) dX2_learn_53 (by decide) (fun hb53 => ?_) (fun hb53 => ?_)
        · refine TT_vret hK hQ ?_ dX2_learn_63
          exact ⟨rfl, (setO_new ((sOf_ne _ _ (by decide)).trans (by unfold lrL; first | (rw [if_pos (by omega)]; congr 1; omega) | rw [if_neg (by omega)]))).trans (setO_cg (setO_cg rfl (by unfold lrS; first | (rw [if_pos (by omega)]; rfl) | (rw [if_neg (by omega)]; rfl))) rfl)⟩
        · refine TT_aload_n hK rfl 1 rfl dX2_learn_56 ?_
          refine gf_X2_13 hK (by decide) rfl (q := 37) rfl rfl dX2_learn_57 ?_
          refine TT_iload_n hK rfl 2 rfl dX2_learn_60 ?_
          refine TT_iload_n hK rfl 3 rfl dX2_learn_61 ?_
          refine TT_iast hK (o := 37) (n := 19) (by decide) rfl (by first | omega | (simp [up, setR] <;> omega)) (by first | omega | (simp [up, setR] <;> omega)) dX2_learn_62 ?_
          refine TT_hp (h' := setO (setO h 36 (fup (h 36) x ((stT 2).getD ((h 36) x).toNat 0))) 37 (fup (h 37) x b)) (up_can (sOf_ne _ _ (by decide)) rfl rfl) ?_
          refine TT_vret hK hQ ?_ dX2_learn_63
          exact ⟨rfl, setO_cg (setO_cg rfl (by unfold lrS; first | (rw [if_pos (by omega)]; rfl) | (rw [if_neg (by omega)]; rfl))) (by unfold lrL; first | (rw [if_pos (by omega)]; congr 1; omega) | rw [if_neg (by omega)])⟩
  · refine TT_aload_n hK rfl 1 rfl dX2_learn_17 ?_
    refine gf_X2_9 hK (by decide) rfl (q := 36) rfl rfl dX2_learn_18 ?_
    refine TT_iload_n hK rfl 2 rfl dX2_learn_21 ?_
    refine TT_gets hK (i := 1) (q := 1001) (by decide) rfl gs_X2_25 dX2_learn_22 ?_
    refine TT_iload_n hK rfl 0 rfl dX2_learn_25 ?_
    refine TT_tald hK (i := 1) (by decide) rfl (by first | omega | (simp [up, setR] <;> omega)) (by first | omega | (simp [up, setR] <;> omega)) rfl dX2_learn_26 ?_
    refine TT_iast hK (o := 36) (n := 19) (by decide) rfl (by first | omega | (simp [up, setR] <;> omega)) (by first | omega | (simp [up, setR] <;> omega)) dX2_learn_27 ?_
    refine TT_hp (h' := setO h 36 (fup (h 36) x ((stT 1).getD ((h 36) x).toNat 0))) (up_can rfl rfl rfl) ?_
    refine TT_vret hK hQ ?_ dX2_learn_28
    exact ⟨rfl, (setO_new ((sOf_ne _ _ (by decide)).trans (by unfold lrL; first | (rw [if_pos (by omega)]; congr 1; omega) | rw [if_neg (by omega)]))).trans (setO_cg (setO_cg rfl (by unfold lrS; first | (rw [if_pos (by omega)]; rfl) | (rw [if_neg (by omega)]; rfl))) rfl)⟩
set_option maxRecDepth 20000 in
theorem c_X2_begin_40 (h : Hp_)  : Ctr yX2_begin cX2_begin 1 none (rmd 1) ly ly 0 0 [vR 40] h (fun r h' => r = none ∧ h' = setO (setO h 41 (fup (fup (fup (fsr (h 41) 0 19 (fun _ => 0)) 0 4) 17 3) 18 46)) 42 (fsr (h 42) 0 19 (fun _ => 0))) := by
  refine Ctr_of (by decide) (Nat.le_of_ble_eq_true rfl) ⟨Nat.le_refl _, Nat.le_refl _⟩ (fun K hK hQ _ => ?_)
  show TT K ly 0 0 0 [(0, vR 40)] [] h
  refine TT_aload_n hK rfl 0 rfl dX2_begin_0 ?_
  refine gf_X2_13 hK (by decide) rfl (q := 42) rfl rfl dX2_begin_1 ?_
  refine TT_iconst hK dX2_begin_4 ?_
  refine iv_X2_16 hK (c_fill_42 0 h ) ⟨by decide, by decide⟩ (by decide) rfl rfl (Nat.le_of_ble_eq_true rfl) ⟨by decide, by decide⟩ dX2_begin_5 ?_
  intro r9 h9 hp9
  rw [hp9.1, hp9.2]
  show TT K ly 0 0 8 [(0, vR 40)] [] (setO h 42 (fsr (h 42) 0 19 (fun _ => 0)))
  refine TT_aload_n hK rfl 0 rfl dX2_begin_8 ?_
  refine gf_X2_9 hK (by decide) rfl (q := 41) rfl rfl dX2_begin_9 ?_
  refine TT_iconst hK dX2_begin_12 ?_
  have q13_41 : (setO h 42 (fsr (h 42) 0 19 (fun _ => 0))) 41 = h 41 := sOf_ne _ _ (by decide)
  refine iv_X2_16 hK (c_fill_41 0 (setO h 42 (fsr (h 42) 0 19 (fun _ => 0))) ) ⟨by decide, by decide⟩ (by decide) rfl rfl (Nat.le_of_ble_eq_true rfl) ⟨by decide, by decide⟩ dX2_begin_13 ?_
  intro r9 h9 hp9
  rw [q13_41] at hp9
  rw [hp9.1, hp9.2]
  refine TT_hp (h' := setO (setO h 41 (fsr (h 41) 0 19 (fun _ => 0))) 42 (fsr (h 42) 0 19 (fun _ => 0))) ((setO_comm _ _ _ (by decide)).trans (setO_cg rfl rfl)) ?_
  show TT K ly 0 0 16 [(0, vR 40)] [] (setO (setO h 41 (fsr (h 41) 0 19 (fun _ => 0))) 42 (fsr (h 42) 0 19 (fun _ => 0)))
  refine TT_aload_n hK rfl 0 rfl dX2_begin_16 ?_
  refine gf_X2_9 hK (by decide) rfl (q := 41) rfl rfl dX2_begin_17 ?_
  refine TT_iconst hK dX2_begin_20 ?_
  refine TT_iconst hK dX2_begin_21 ?_
  refine TT_iast hK (o := 41) (n := 19) (by decide) rfl (by first | omega | (simp [up, setR] <;> omega)) (by first | omega | (simp [up, setR] <;> omega)) dX2_begin_22 ?_
  refine TT_hp (h' := setO (setO h 41 (fup (fsr (h 41) 0 19 (fun _ => 0)) 0 4)) 42 (fsr (h 42) 0 19 (fun _ => 0))) (up_can ((sOf_ne _ _ (by decide)).trans (sOf_eq _ _ _)) rfl ((setO_comm _ _ _ (by decide)).trans (setO_cg (setO_same _ _ _ _) rfl))) ?_
  refine TT_aload_n hK rfl 0 rfl dX2_begin_23 ?_
  refine gf_X2_9 hK (by decide) rfl (q := 41) rfl rfl dX2_begin_24 ?_
  refine TT_bipush hK (by decide) dX2_begin_27 ?_
  refine TT_iconst hK dX2_begin_29 ?_
  refine TT_iast hK (o := 41) (n := 19) (by decide) rfl (by first | omega | (simp [up, setR] <;> omega)) (by first | omega | (simp [up, setR] <;> omega)) dX2_begin_30 ?_
  refine TT_hp (h' := setO (setO h 41 (fup (fup (fsr (h 41) 0 19 (fun _ => 0)) 0 4) 17 3)) 42 (fsr (h 42) 0 19 (fun _ => 0))) (up_can ((sOf_ne _ _ (by decide)).trans (sOf_eq _ _ _)) rfl ((setO_comm _ _ _ (by decide)).trans (setO_cg (setO_same _ _ _ _) rfl))) ?_
  refine TT_aload_n hK rfl 0 rfl dX2_begin_31 ?_
  refine gf_X2_9 hK (by decide) rfl (q := 41) rfl rfl dX2_begin_32 ?_
  refine TT_bipush hK (by decide) dX2_begin_35 ?_
  refine TT_bipush hK (by decide) dX2_begin_37 ?_
  refine TT_iast hK (o := 41) (n := 19) (by decide) rfl (by first | omega | (simp [up, setR] <;> omega)) (by first | omega | (simp [up, setR] <;> omega)) dX2_begin_39 ?_
  refine TT_hp (h' := setO (setO h 41 (fup (fup (fup (fsr (h 41) 0 19 (fun _ => 0)) 0 4) 17 3) 18 46)) 42 (fsr (h 42) 0 19 (fun _ => 0))) (up_can ((sOf_ne _ _ (by decide)).trans (sOf_eq _ _ _)) rfl ((setO_comm _ _ _ (by decide)).trans (setO_cg (setO_same _ _ _ _) rfl))) ?_
  refine TT_vret hK hQ ?_ dX2_begin_40
  exact ⟨rfl, rfl⟩
set_option maxRecDepth 20000 in
theorem c_X2_sizeOf_40 (x : Int) (h : Hp_) (hx : 0 ≤ x ∧ x < 19) (hst : ∀ j, 0 ≤ j → j < 19 → 0 ≤ (h 41) j ∧ (h 41) j < 47) : Ctr yX2_sizeOf cX2_sizeOf 2 (some .int) (rmd 0) ly ly 0 0 [vR 40, vI x] h (fun r h' => r = some (vI (qS ((h 41) x))) ∧ h' = h) := by
  refine Ctr_of (by decide) (Nat.le_of_ble_eq_true rfl) ⟨Nat.le_refl _, Nat.le_refl _⟩ (fun K hK hQ _ => ?_)
  show TT K ly 0 0 0 [(0, vR 40), (1, vI x)] [] h
  have hs := hst x hx.1 hx.2
  refine TT_gets hK (i := 0) (q := 1000) (by decide) rfl gs_X2_22 dX2_sizeOf_0 ?_
  refine TT_aload_n hK rfl 0 rfl dX2_sizeOf_3 ?_
  refine gf_X2_9 hK (by decide) rfl (q := 41) rfl rfl dX2_sizeOf_4 ?_
  refine TT_iload_n hK rfl 1 rfl dX2_sizeOf_7 ?_
  refine TT_iald hK (o := 41) (n := 19) (by decide) rfl (by first | omega | (simp [up, setR] <;> omega)) (by first | omega | (simp [up, setR] <;> omega)) (v := (h 41) x) rfl dX2_sizeOf_8 ?_
  refine TT_tald hK (i := 0) (by decide) rfl (by first | omega | (simp [up, setR] <;> omega)) (by first | omega | (simp [up, setR] <;> omega)) rfl dX2_sizeOf_9 ?_
  refine TT_iret hK hQ ?_ dX2_sizeOf_10
  exact ⟨congrArg (fun z => some (vI z)) (by rfl), rfl⟩
set_option maxRecDepth 20000 in
theorem c_X2_likelyBit_40 (x : Int) (h : Hp_) (hx : 0 ≤ x ∧ x < 19) : Ctr yX2_likelyBit cX2_likelyBit 2 (some .int) (rmd 0) ly ly 0 0 [vR 40, vI x] h (fun r h' => r = some (vI ((h 42) x)) ∧ h' = h) := by
  refine Ctr_of (by decide) (Nat.le_of_ble_eq_true rfl) ⟨Nat.le_refl _, Nat.le_refl _⟩ (fun K hK hQ _ => ?_)
  show TT K ly 0 0 0 [(0, vR 40), (1, vI x)] [] h
  refine TT_aload_n hK rfl 0 rfl dX2_likelyBit_0 ?_
  refine gf_X2_13 hK (by decide) rfl (q := 42) rfl rfl dX2_likelyBit_1 ?_
  refine TT_iload_n hK rfl 1 rfl dX2_likelyBit_4 ?_
  refine TT_iald hK (o := 42) (n := 19) (by decide) rfl (by first | omega | (simp [up, setR] <;> omega)) (by first | omega | (simp [up, setR] <;> omega)) (v := (h 42) x) rfl dX2_likelyBit_5 ?_
  refine TT_iret hK hQ ?_ dX2_likelyBit_6
  exact ⟨congrArg (fun z => some (vI z)) (by rfl), rfl⟩
set_option maxRecDepth 20000 in
theorem c_X2_learn_40 (x b : Int) (h : Hp_) (hx : 0 ≤ x ∧ x < 19) (hb : b = 0 ∨ b = 1) (hst : ∀ j, 0 ≤ j → j < 19 → 0 ≤ (h 41) j ∧ (h 41) j < 47) (hlk : ∀ j, 0 ≤ j → j < 19 → (h 42) j = 0 ∨ (h 42) j = 1) : Ctr yX2_learn cX2_learn 4 none (rmd 0) ly ly 0 0 [vR 40, vI x, vI b] h (fun r h' => r = none ∧ h' = setO (setO h 41 (lrS (h 41) x (b ≠ (h 42) x))) 42 (lrL (h 41) (h 42) x (b ≠ (h 42) x))) := by
  refine Ctr_of (by decide) (Nat.le_of_ble_eq_true rfl) ⟨Nat.le_refl _, Nat.le_refl _⟩ (fun K hK hQ _ => ?_)
  show TT K ly 0 0 0 [(0, vR 40), (1, vI x), (2, vI b)] [] h
  have hs := hst x hx.1 hx.2
  have hl := hlk x hx.1 hx.2
  refine TT_aload_n hK rfl 0 rfl dX2_learn_0 ?_
  refine gf_X2_9 hK (by decide) rfl (q := 41) rfl rfl dX2_learn_1 ?_
  refine TT_iload_n hK rfl 1 rfl dX2_learn_4 ?_
  refine TT_iald hK (o := 41) (n := 19) (by decide) rfl (by first | omega | (simp [up, setR] <;> omega)) (by first | omega | (simp [up, setR] <;> omega)) (v := (h 41) x) rfl dX2_learn_5 ?_
  refine TT_istore_n hK rfl (lv' := [(3, vI ((h 41) x)), (0, vR 40), (1, vI x), (2, vI b)]) (by decide) rfl dX2_learn_6 ?_
  refine TT_iload_n hK rfl 3 rfl dX2_learn_7 ?_
  refine TT_aload_n hK rfl 1 rfl dX2_learn_8 ?_
  refine gf_X2_13 hK (by decide) rfl (q := 42) rfl rfl dX2_learn_9 ?_
  refine TT_iload_n hK rfl 2 rfl dX2_learn_12 ?_
  refine TT_iald hK (o := 42) (n := 19) (by decide) rfl (by first | omega | (simp [up, setR] <;> omega)) (by first | omega | (simp [up, setR] <;> omega)) (v := (h 42) x) rfl dX2_learn_13 ?_
  refine TT_icmp_ne hK (tgt := 29) (irm (by omega) (by omega)) (irm (by omega) (by omega)) dX2_learn_14 (by decide) (fun hb14 => ?_) (fun hb14 => ?_)
  · refine TT_aload_n hK rfl 1 rfl dX2_learn_29 ?_
    refine gf_X2_9 hK (by decide) rfl (q := 41) rfl rfl dX2_learn_30 ?_
    refine TT_iload_n hK rfl 2 rfl dX2_learn_33 ?_
    refine TT_gets hK (i := 2) (q := 1002) (by decide) rfl gs_X2_28 dX2_learn_34 ?_
    refine TT_iload_n hK rfl 0 rfl dX2_learn_37 ?_
    refine TT_tald hK (i := 2) (by decide) rfl (by first | omega | (simp [up, setR] <;> omega)) (by first | omega | (simp [up, setR] <;> omega)) rfl dX2_learn_38 ?_
    refine TT_iast hK (o := 41) (n := 19) (by decide) rfl (by first | omega | (simp [up, setR] <;> omega)) (by first | omega | (simp [up, setR] <;> omega)) dX2_learn_39 ?_
    refine TT_hp (h' := setO h 41 (fup (h 41) x ((stT 2).getD ((h 41) x).toNat 0))) (up_can rfl rfl rfl) ?_
    refine TT_iload_n hK rfl 0 rfl dX2_learn_40 ?_
    refine TT_if_eq hK (tgt := 56) (irm (by omega) (by omega)) dX2_learn_41 (by decide) (fun hb41 => ?_) (fun hb41 => ?_)
    · refine TT_aload_n hK rfl 1 rfl dX2_learn_56 ?_
      refine gf_X2_13 hK (by decide) rfl (q := 42) rfl rfl dX2_learn_57 ?_
      refine TT_iload_n hK rfl 2 rfl dX2_learn_60 ?_
      refine TT_iload_n hK rfl 3 rfl dX2_learn_61 ?_
      refine TT_iast hK (o := 42) (n := 19) (by decide) rfl (by first | omega | (simp [up, setR] <;> omega)) (by first | omega | (simp [up, setR] <;> omega)) dX2_learn_62 ?_
      refine TT_hp (h' := setO (setO h 41 (fup (h 41) x ((stT 2).getD ((h 41) x).toNat 0))) 42 (fup (h 42) x b)) (up_can (sOf_ne _ _ (by decide)) rfl rfl) ?_
      refine TT_vret hK hQ ?_ dX2_learn_63
      exact ⟨rfl, setO_cg (setO_cg rfl (by unfold lrS; first | (rw [if_pos (by omega)]; rfl) | (rw [if_neg (by omega)]; rfl))) (by unfold lrL; first | (rw [if_pos (by omega)]; congr 1; omega) | rw [if_neg (by omega)])⟩
    · refine TT_iload_n hK rfl 0 rfl dX2_learn_44 ?_
      refine TT_bipush hK (by decide) dX2_learn_45 ?_
      refine TT_icmp_eq hK (tgt := 56) (irm (by omega) (by omega)) (by decide) dX2_learn_47 (by decide) (fun hb47 => ?_) (fun hb47 => ?_)
      · refine TT_aload_n hK rfl 1 rfl dX2_learn_56 ?_
        refine gf_X2_13 hK (by decide) rfl (q := 42) rfl rfl dX2_learn_57 ?_
        refine TT_iload_n hK rfl 2 rfl dX2_learn_60 ?_
        refine TT_iload_n hK rfl 3 rfl dX2_learn_61 ?_
        refine TT_iast hK (o := 42) (n := 19) (by decide) rfl (by first | omega | (simp [up, setR] <;> omega)) (by first | omega | (simp [up, setR] <;> omega)) dX2_learn_62 ?_
        refine TT_hp (h' := setO (setO h 41 (fup (h 41) x ((stT 2).getD ((h 41) x).toNat 0))) 42 (fup (h 42) x b)) (up_can (sOf_ne _ _ (by decide)) rfl rfl) ?_
        refine TT_vret hK hQ ?_ dX2_learn_63
        exact ⟨rfl, setO_cg (setO_cg rfl (by unfold lrS; first | (rw [if_pos (by omega)]; rfl) | (rw [if_neg (by omega)]; rfl))) (by unfold lrL; first | (rw [if_pos (by omega)]; congr 1; omega) | rw [if_neg (by omega)])⟩
      · refine TT_iload_n hK rfl 0 rfl dX2_learn_50 ?_
        refine TT_bipush hK (by decide) dX2_learn_51 ?_
        refine TT_icmp_ne hK (tgt := 63) (irm (by omega) (by omega)) (by decide) dX2_learn_53 (by decide) (fun hb53 => ?_) (fun hb53 => ?_)
        · refine TT_vret hK hQ ?_ dX2_learn_63
          exact ⟨rfl, (setO_new ((sOf_ne _ _ (by decide)).trans (by unfold lrL; first | (rw [if_pos (by omega)]; congr 1; omega) | rw [if_neg (by omega)]))).trans (setO_cg (setO_cg rfl (by unfold lrS; first | (rw [if_pos (by omega)]; rfl) | (rw [if_neg (by omega)]; rfl))) rfl)⟩
        · refine TT_aload_n hK rfl 1 rfl dX2_learn_56 ?_
          refine gf_X2_13 hK (by decide) rfl (q := 42) rfl rfl dX2_learn_57 ?_
          refine TT_iload_n hK rfl 2 rfl dX2_learn_60 ?_
          refine TT_iload_n hK rfl 3 rfl dX2_learn_61 ?_
          refine TT_iast hK (o := 42) (n := 19) (by decide) rfl (by first | omega | (simp [up, setR] <;> omega)) (by first | omega | (simp [up, setR] <;> omega)) dX2_learn_62 ?_
          refine TT_hp (h' := setO (setO h 41 (fup (h 41) x ((stT 2).getD ((h 41) x).toNat 0))) 42 (fup (h 42) x b)) (up_can (sOf_ne _ _ (by decide)) rfl rfl) ?_
          refine TT_vret hK hQ ?_ dX2_learn_63
          exact ⟨rfl, setO_cg (setO_cg rfl (by unfold lrS; first | (rw [if_pos (by omega)]; rfl) | (rw [if_neg (by omega)]; rfl))) (by unfold lrL; first | (rw [if_pos (by omega)]; congr 1; omega) | rw [if_neg (by omega)])⟩
  · refine TT_aload_n hK rfl 1 rfl dX2_learn_17 ?_
    refine gf_X2_9 hK (by decide) rfl (q := 41) rfl rfl dX2_learn_18 ?_
    refine TT_iload_n hK rfl 2 rfl dX2_learn_21 ?_
    refine TT_gets hK (i := 1) (q := 1001) (by decide) rfl gs_X2_25 dX2_learn_22 ?_
    refine TT_iload_n hK rfl 0 rfl dX2_learn_25 ?_
    refine TT_tald hK (i := 1) (by decide) rfl (by first | omega | (simp [up, setR] <;> omega)) (by first | omega | (simp [up, setR] <;> omega)) rfl dX2_learn_26 ?_
    refine TT_iast hK (o := 41) (n := 19) (by decide) rfl (by first | omega | (simp [up, setR] <;> omega)) (by first | omega | (simp [up, setR] <;> omega)) dX2_learn_27 ?_
    refine TT_hp (h' := setO h 41 (fup (h 41) x ((stT 1).getD ((h 41) x).toNat 0))) (up_can rfl rfl rfl) ?_
    refine TT_vret hK hQ ?_ dX2_learn_28
    exact ⟨rfl, (setO_new ((sOf_ne _ _ (by decide)).trans (by unfold lrL; first | (rw [if_pos (by omega)]; congr 1; omega) | rw [if_neg (by omega)]))).trans (setO_cg (setO_cg rfl (by unfold lrS; first | (rw [if_pos (by omega)]; rfl) | (rw [if_neg (by omega)]; rfl))) rfl)⟩
set_option maxRecDepth 20000 in
theorem c_X2_begin_63 (h : Hp_)  : Ctr yX2_begin cX2_begin 1 none (rmd 1) ly ly 0 0 [vR 63] h (fun r h' => r = none ∧ h' = setO (setO h 64 (fup (fup (fup (fsr (h 64) 0 19 (fun _ => 0)) 0 4) 17 3) 18 46)) 65 (fsr (h 65) 0 19 (fun _ => 0))) := by
  refine Ctr_of (by decide) (Nat.le_of_ble_eq_true rfl) ⟨Nat.le_refl _, Nat.le_refl _⟩ (fun K hK hQ _ => ?_)
  show TT K ly 0 0 0 [(0, vR 63)] [] h
  refine TT_aload_n hK rfl 0 rfl dX2_begin_0 ?_
  refine gf_X2_13 hK (by decide) rfl (q := 65) rfl rfl dX2_begin_1 ?_
  refine TT_iconst hK dX2_begin_4 ?_
  refine iv_X2_16 hK (c_fill_65 0 h ) ⟨by decide, by decide⟩ (by decide) rfl rfl (Nat.le_of_ble_eq_true rfl) ⟨by decide, by decide⟩ dX2_begin_5 ?_
  intro r9 h9 hp9
  rw [hp9.1, hp9.2]
  show TT K ly 0 0 8 [(0, vR 63)] [] (setO h 65 (fsr (h 65) 0 19 (fun _ => 0)))
  refine TT_aload_n hK rfl 0 rfl dX2_begin_8 ?_
  refine gf_X2_9 hK (by decide) rfl (q := 64) rfl rfl dX2_begin_9 ?_
  refine TT_iconst hK dX2_begin_12 ?_
  have q13_64 : (setO h 65 (fsr (h 65) 0 19 (fun _ => 0))) 64 = h 64 := sOf_ne _ _ (by decide)
  refine iv_X2_16 hK (c_fill_64 0 (setO h 65 (fsr (h 65) 0 19 (fun _ => 0))) ) ⟨by decide, by decide⟩ (by decide) rfl rfl (Nat.le_of_ble_eq_true rfl) ⟨by decide, by decide⟩ dX2_begin_13 ?_
  intro r9 h9 hp9
  rw [q13_64] at hp9
  rw [hp9.1, hp9.2]
  refine TT_hp (h' := setO (setO h 64 (fsr (h 64) 0 19 (fun _ => 0))) 65 (fsr (h 65) 0 19 (fun _ => 0))) ((setO_comm _ _ _ (by decide)).trans (setO_cg rfl rfl)) ?_
  show TT K ly 0 0 16 [(0, vR 63)] [] (setO (setO h 64 (fsr (h 64) 0 19 (fun _ => 0))) 65 (fsr (h 65) 0 19 (fun _ => 0)))
  refine TT_aload_n hK rfl 0 rfl dX2_begin_16 ?_
  refine gf_X2_9 hK (by decide) rfl (q := 64) rfl rfl dX2_begin_17 ?_
  refine TT_iconst hK dX2_begin_20 ?_
  refine TT_iconst hK dX2_begin_21 ?_
  refine TT_iast hK (o := 64) (n := 19) (by decide) rfl (by first | omega | (simp [up, setR] <;> omega)) (by first | omega | (simp [up, setR] <;> omega)) dX2_begin_22 ?_
  refine TT_hp (h' := setO (setO h 64 (fup (fsr (h 64) 0 19 (fun _ => 0)) 0 4)) 65 (fsr (h 65) 0 19 (fun _ => 0))) (up_can ((sOf_ne _ _ (by decide)).trans (sOf_eq _ _ _)) rfl ((setO_comm _ _ _ (by decide)).trans (setO_cg (setO_same _ _ _ _) rfl))) ?_
  refine TT_aload_n hK rfl 0 rfl dX2_begin_23 ?_
  refine gf_X2_9 hK (by decide) rfl (q := 64) rfl rfl dX2_begin_24 ?_
  refine TT_bipush hK (by decide) dX2_begin_27 ?_
  refine TT_iconst hK dX2_begin_29 ?_
  refine TT_iast hK (o := 64) (n := 19) (by decide) rfl (by first | omega | (simp [up, setR] <;> omega)) (by first | omega | (simp [up, setR] <;> omega)) dX2_begin_30 ?_
  refine TT_hp (h' := setO (setO h 64 (fup (fup (fsr (h 64) 0 19 (fun _ => 0)) 0 4) 17 3)) 65 (fsr (h 65) 0 19 (fun _ => 0))) (up_can ((sOf_ne _ _ (by decide)).trans (sOf_eq _ _ _)) rfl ((setO_comm _ _ _ (by decide)).trans (setO_cg (setO_same _ _ _ _) rfl))) ?_
  refine TT_aload_n hK rfl 0 rfl dX2_begin_31 ?_
  refine gf_X2_9 hK (by decide) rfl (q := 64) rfl rfl dX2_begin_32 ?_
  refine TT_bipush hK (by decide) dX2_begin_35 ?_
  refine TT_bipush hK (by decide) dX2_begin_37 ?_
  refine TT_iast hK (o := 64) (n := 19) (by decide) rfl (by first | omega | (simp [up, setR] <;> omega)) (by first | omega | (simp [up, setR] <;> omega)) dX2_begin_39 ?_
  refine TT_hp (h' := setO (setO h 64 (fup (fup (fup (fsr (h 64) 0 19 (fun _ => 0)) 0 4) 17 3) 18 46)) 65 (fsr (h 65) 0 19 (fun _ => 0))) (up_can ((sOf_ne _ _ (by decide)).trans (sOf_eq _ _ _)) rfl ((setO_comm _ _ _ (by decide)).trans (setO_cg (setO_same _ _ _ _) rfl))) ?_
  refine TT_vret hK hQ ?_ dX2_begin_40
  exact ⟨rfl, rfl⟩
set_option maxRecDepth 20000 in
theorem c_X2_sizeOf_63 (x : Int) (h : Hp_) (hx : 0 ≤ x ∧ x < 19) (hst : ∀ j, 0 ≤ j → j < 19 → 0 ≤ (h 64) j ∧ (h 64) j < 47) : Ctr yX2_sizeOf cX2_sizeOf 2 (some .int) (rmd 0) ly ly 0 0 [vR 63, vI x] h (fun r h' => r = some (vI (qS ((h 64) x))) ∧ h' = h) := by
  refine Ctr_of (by decide) (Nat.le_of_ble_eq_true rfl) ⟨Nat.le_refl _, Nat.le_refl _⟩ (fun K hK hQ _ => ?_)
  show TT K ly 0 0 0 [(0, vR 63), (1, vI x)] [] h
  have hs := hst x hx.1 hx.2
  refine TT_gets hK (i := 0) (q := 1000) (by decide) rfl gs_X2_22 dX2_sizeOf_0 ?_
  refine TT_aload_n hK rfl 0 rfl dX2_sizeOf_3 ?_
  refine gf_X2_9 hK (by decide) rfl (q := 64) rfl rfl dX2_sizeOf_4 ?_
  refine TT_iload_n hK rfl 1 rfl dX2_sizeOf_7 ?_
  refine TT_iald hK (o := 64) (n := 19) (by decide) rfl (by first | omega | (simp [up, setR] <;> omega)) (by first | omega | (simp [up, setR] <;> omega)) (v := (h 64) x) rfl dX2_sizeOf_8 ?_
  refine TT_tald hK (i := 0) (by decide) rfl (by first | omega | (simp [up, setR] <;> omega)) (by first | omega | (simp [up, setR] <;> omega)) rfl dX2_sizeOf_9 ?_
  refine TT_iret hK hQ ?_ dX2_sizeOf_10
  exact ⟨congrArg (fun z => some (vI z)) (by rfl), rfl⟩
set_option maxRecDepth 20000 in
theorem c_X2_likelyBit_63 (x : Int) (h : Hp_) (hx : 0 ≤ x ∧ x < 19) : Ctr yX2_likelyBit cX2_likelyBit 2 (some .int) (rmd 0) ly ly 0 0 [vR 63, vI x] h (fun r h' => r = some (vI ((h 65) x)) ∧ h' = h) := by
  refine Ctr_of (by decide) (Nat.le_of_ble_eq_true rfl) ⟨Nat.le_refl _, Nat.le_refl _⟩ (fun K hK hQ _ => ?_)
  show TT K ly 0 0 0 [(0, vR 63), (1, vI x)] [] h
  refine TT_aload_n hK rfl 0 rfl dX2_likelyBit_0 ?_
  refine gf_X2_13 hK (by decide) rfl (q := 65) rfl rfl dX2_likelyBit_1 ?_
  refine TT_iload_n hK rfl 1 rfl dX2_likelyBit_4 ?_
  refine TT_iald hK (o := 65) (n := 19) (by decide) rfl (by first | omega | (simp [up, setR] <;> omega)) (by first | omega | (simp [up, setR] <;> omega)) (v := (h 65) x) rfl dX2_likelyBit_5 ?_
  refine TT_iret hK hQ ?_ dX2_likelyBit_6
  exact ⟨congrArg (fun z => some (vI z)) (by rfl), rfl⟩
set_option maxRecDepth 20000 in
theorem c_X2_learn_63 (x b : Int) (h : Hp_) (hx : 0 ≤ x ∧ x < 19) (hb : b = 0 ∨ b = 1) (hst : ∀ j, 0 ≤ j → j < 19 → 0 ≤ (h 64) j ∧ (h 64) j < 47) (hlk : ∀ j, 0 ≤ j → j < 19 → (h 65) j = 0 ∨ (h 65) j = 1) : Ctr yX2_learn cX2_learn 4 none (rmd 0) ly ly 0 0 [vR 63, vI x, vI b] h (fun r h' => r = none ∧ h' = setO (setO h 64 (lrS (h 64) x (b ≠ (h 65) x))) 65 (lrL (h 64) (h 65) x (b ≠ (h 65) x))) := by
  refine Ctr_of (by decide) (Nat.le_of_ble_eq_true rfl) ⟨Nat.le_refl _, Nat.le_refl _⟩ (fun K hK hQ _ => ?_)
  show TT K ly 0 0 0 [(0, vR 63), (1, vI x), (2, vI b)] [] h
  have hs := hst x hx.1 hx.2
  have hl := hlk x hx.1 hx.2
  refine TT_aload_n hK rfl 0 rfl dX2_learn_0 ?_
  refine gf_X2_9 hK (by decide) rfl (q := 64) rfl rfl dX2_learn_1 ?_
  refine TT_iload_n hK rfl 1 rfl dX2_learn_4 ?_
  refine TT_iald hK (o := 64) (n := 19) (by decide) rfl (by first | omega | (simp [up, setR] <;> omega)) (by first | omega | (simp [up, setR] <;> omega)) (v := (h 64) x) rfl dX2_learn_5 ?_
  refine TT_istore_n hK rfl (lv' := [(3, vI ((h 64) x)), (0, vR 63), (1, vI x), (2, vI b)]) (by decide) rfl dX2_learn_6 ?_
  refine TT_iload_n hK rfl 3 rfl dX2_learn_7 ?_
  refine TT_aload_n hK rfl 1 rfl dX2_learn_8 ?_
  refine gf_X2_13 hK (by decide) rfl (q := 65) rfl rfl dX2_learn_9 ?_
  refine TT_iload_n hK rfl 2 rfl dX2_learn_12 ?_
  refine TT_iald hK (o := 65) (n := 19) (by decide) rfl (by first | omega | (simp [up, setR] <;> omega)) (by first | omega | (simp [up, setR] <;> omega)) (v := (h 65) x) rfl dX2_learn_13 ?_
  refine TT_icmp_ne hK (tgt := 29) (irm (by omega) (by omega)) (irm (by omega) (by omega)) dX2_learn_14 (by decide) (fun hb14 => ?_) (fun hb14 => ?_)
  · refine TT_aload_n hK rfl 1 rfl dX2_learn_29 ?_
    refine gf_X2_9 hK (by decide) rfl (q := 64) rfl rfl dX2_learn_30 ?_
    refine TT_iload_n hK rfl 2 rfl dX2_learn_33 ?_
    refine TT_gets hK (i := 2) (q := 1002) (by decide) rfl gs_X2_28 dX2_learn_34 ?_
    refine TT_iload_n hK rfl 0 rfl dX2_learn_37 ?_
    refine TT_tald hK (i := 2) (by decide) rfl (by first | omega | (simp [up, setR] <;> omega)) (by first | omega | (simp [up, setR] <;> omega)) rfl dX2_learn_38 ?_
    refine TT_iast hK (o := 64) (n := 19) (by decide) rfl (by first | omega | (simp [up, setR] <;> omega)) (by first | omega | (simp [up, setR] <;> omega)) dX2_learn_39 ?_
    refine TT_hp (h' := setO h 64 (fup (h 64) x ((stT 2).getD ((h 64) x).toNat 0))) (up_can rfl rfl rfl) ?_
    refine TT_iload_n hK rfl 0 rfl dX2_learn_40 ?_
    refine TT_if_eq hK (tgt := 56) (irm (by omega) (by omega)) dX2_learn_41 (by decide) (fun hb41 => ?_) (fun hb41 => ?_)
    · refine TT_aload_n hK rfl 1 rfl dX2_learn_56 ?_
      refine gf_X2_13 hK (by decide) rfl (q := 65) rfl rfl dX2_learn_57 ?_
      refine TT_iload_n hK rfl 2 rfl dX2_learn_60 ?_
      refine TT_iload_n hK rfl 3 rfl dX2_learn_61 ?_
      refine TT_iast hK (o := 65) (n := 19) (by decide) rfl (by first | omega | (simp [up, setR] <;> omega)) (by first | omega | (simp [up, setR] <;> omega)) dX2_learn_62 ?_
      refine TT_hp (h' := setO (setO h 64 (fup (h 64) x ((stT 2).getD ((h 64) x).toNat 0))) 65 (fup (h 65) x b)) (up_can (sOf_ne _ _ (by decide)) rfl rfl) ?_
      refine TT_vret hK hQ ?_ dX2_learn_63
      exact ⟨rfl, setO_cg (setO_cg rfl (by unfold lrS; first | (rw [if_pos (by omega)]; rfl) | (rw [if_neg (by omega)]; rfl))) (by unfold lrL; first | (rw [if_pos (by omega)]; congr 1; omega) | rw [if_neg (by omega)])⟩
    · refine TT_iload_n hK rfl 0 rfl dX2_learn_44 ?_
      refine TT_bipush hK (by decide) dX2_learn_45 ?_
      refine TT_icmp_eq hK (tgt := 56) (irm (by omega) (by omega)) (by decide) dX2_learn_47 (by decide) (fun hb47 => ?_) (fun hb47 => ?_)
      · refine TT_aload_n hK rfl 1 rfl dX2_learn_56 ?_
        refine gf_X2_13 hK (by decide) rfl (q := 65) rfl rfl dX2_learn_57 ?_
        refine TT_iload_n hK rfl 2 rfl dX2_learn_60 ?_
        refine TT_iload_n hK rfl 3 rfl dX2_learn_61 ?_
        refine TT_iast hK (o := 65) (n := 19) (by decide) rfl (by first | omega | (simp [up, setR] <;> omega)) (by first | omega | (simp [up, setR] <;> omega)) dX2_learn_62 ?_
        refine TT_hp (h' := setO (setO h 64 (fup (h 64) x ((stT 2).getD ((h 64) x).toNat 0))) 65 (fup (h 65) x b)) (up_can (sOf_ne _ _ (by decide)) rfl rfl) ?_
        refine TT_vret hK hQ ?_ dX2_learn_63
        exact ⟨rfl, setO_cg (setO_cg rfl (by unfold lrS; first | (rw [if_pos (by omega)]; rfl) | (rw [if_neg (by omega)]; rfl))) (by unfold lrL; first | (rw [if_pos (by omega)]; congr 1; omega) | rw [if_neg (by omega)])⟩
      · refine TT_iload_n hK rfl 0 rfl dX2_learn_50 ?_
        refine TT_bipush hK (by decide) dX2_learn_51 ?_
        refine TT_icmp_ne hK (tgt := 63) (irm (by omega) (by omega)) (by decide) dX2_learn_53 (by decide) (fun hb53 => ?_) (fun hb53 => ?_)
        · refine TT_vret hK hQ ?_ dX2_learn_63
          exact ⟨rfl, (setO_new ((sOf_ne _ _ (by decide)).trans (by unfold lrL; first | (rw [if_pos (by omega)]; congr 1; omega) | rw [if_neg (by omega)]))).trans (setO_cg (setO_cg rfl (by unfold lrS; first | (rw [if_pos (by omega)]; rfl) | (rw [if_neg (by omega)]; rfl))) rfl)⟩
        · refine TT_aload_n hK rfl 1 rfl dX2_learn_56 ?_
          refine gf_X2_13 hK (by decide) rfl (q := 65) rfl rfl dX2_learn_57 ?_
          refine TT_iload_n hK rfl 2 rfl dX2_learn_60 ?_
          refine TT_iload_n hK rfl 3 rfl dX2_learn_61 ?_
          refine TT_iast hK (o := 65) (n := 19) (by decide) rfl (by first | omega | (simp [up, setR] <;> omega)) (by first | omega | (simp [up, setR] <;> omega)) dX2_learn_62 ?_
          refine TT_hp (h' := setO (setO h 64 (fup (h 64) x ((stT 2).getD ((h 64) x).toNat 0))) 65 (fup (h 65) x b)) (up_can (sOf_ne _ _ (by decide)) rfl rfl) ?_
          refine TT_vret hK hQ ?_ dX2_learn_63
          exact ⟨rfl, setO_cg (setO_cg rfl (by unfold lrS; first | (rw [if_pos (by omega)]; rfl) | (rw [if_neg (by omega)]; rfl))) (by unfold lrL; first | (rw [if_pos (by omega)]; congr 1; omega) | rw [if_neg (by omega)])⟩
  · refine TT_aload_n hK rfl 1 rfl dX2_learn_17 ?_
    refine gf_X2_9 hK (by decide) rfl (q := 64) rfl rfl dX2_learn_18 ?_
    refine TT_iload_n hK rfl 2 rfl dX2_learn_21 ?_
    refine TT_gets hK (i := 1) (q := 1001) (by decide) rfl gs_X2_25 dX2_learn_22 ?_
    refine TT_iload_n hK rfl 0 rfl dX2_learn_25 ?_
    refine TT_tald hK (i := 1) (by decide) rfl (by first | omega | (simp [up, setR] <;> omega)) (by first | omega | (simp [up, setR] <;> omega)) rfl dX2_learn_26 ?_
    refine TT_iast hK (o := 64) (n := 19) (by decide) rfl (by first | omega | (simp [up, setR] <;> omega)) (by first | omega | (simp [up, setR] <;> omega)) dX2_learn_27 ?_
    refine TT_hp (h' := setO h 64 (fup (h 64) x ((stT 1).getD ((h 64) x).toNat 0))) (up_can rfl rfl rfl) ?_
    refine TT_vret hK hQ ?_ dX2_learn_28
    exact ⟨rfl, (setO_new ((sOf_ne _ _ (by decide)).trans (by unfold lrL; first | (rw [if_pos (by omega)]; congr 1; omega) | rw [if_neg (by omega)]))).trans (setO_cg (setO_cg rfl (by unfold lrS; first | (rw [if_pos (by omega)]; rfl) | (rw [if_neg (by omega)]; rfl))) rfl)⟩
set_option maxRecDepth 20000 in
theorem c_X8_goOut_34 (h : Hp_) (hn : 1 ≤ (h 34 2) ∧ (h 34 2) ≤ 1023) (hc : 0 ≤ (h 34 4) ∧ (h 34 4) < 150994944) (hl : 0 ≤ (h 38) ((h 34 2) - 1) ∧ (h 38) ((h 34 2) - 1) ≤ 255) : Ctr yX8_goOut cX8_goOut 3 none (rmd 0) ly ly 0 0 [vR 34] h (fun r h' => r = none ∧ h' = setO (setO h 34 (fup (fup (fup (h 34) 2 ((outS (h 34 4) (h 34 2) (h 38)).2.2.1)) 4 ((outS (h 34 4) (h 34 2) (h 38)).1)) 5 ((outS (h 34 4) (h 34 2) (h 38)).2.1))) 38 ((outS (h 34 4) (h 34 2) (h 38)).2.2.2)) := by
  refine Ctr_of (by decide) (Nat.le_of_ble_eq_true rfl) ⟨Nat.le_refl _, Nat.le_refl _⟩ (fun K hK hQ _ => ?_)
  show TT K ly 0 0 0 [(0, vR 34)] [] h
  refine TT_aload_n hK rfl 0 rfl dX8_goOut_0 ?_
  refine gf_X8_18 hK (by decide) rfl (q := 38) rfl rfl dX8_goOut_1 ?_
  refine TT_aload_n hK rfl 0 rfl dX8_goOut_4 ?_
  refine gf_X8_25 hK (by decide) rfl (v := (h 34) 2) rfl dX8_goOut_5 ?_
  refine TT_iconst hK dX8_goOut_8 ?_
  refine TT_isub hK dX8_goOut_9 ?_
  refine TT_iald hK (o := 38) (n := 1024) (by decide) rfl (by first | omega | (simp [up, setR] <;> omega)) (by first | omega | (simp [up, setR] <;> omega)) (v := (h 38) (((h 34) 2) - 1)) rfl dX8_goOut_10 ?_
  refine TT_istore_n hK rfl (lv' := [(1, vI ((h 38) (((h 34) 2) - 1))), (0, vR 34)]) (by decide) rfl dX8_goOut_11 ?_
  refine TT_iload_n hK rfl 0 rfl dX8_goOut_12 ?_
  refine TT_sipush hK (by decide) dX8_goOut_13 ?_
  refine TT_icmp_eq hK (tgt := 61) (irm (by omega) (by omega)) (by decide) dX8_goOut_16 (by decide) (fun hb16 => ?_) (fun hb16 => ?_)
  · refine TT_iload_n hK rfl 0 rfl dX8_goOut_61 ?_
    refine TT_sipush hK (by decide) dX8_goOut_62 ?_
    refine TT_icmp_ne hK (tgt := 73) (irm (by omega) (by omega)) (by decide) dX8_goOut_65 (by decide) (fun hb65 => ?_) (fun hb65 => ?_)
    · exfalso; omega
    · refine TT_ldc hK lc_X8_58 dX8_goOut_68 ?_
      refine TT_goto hK (tgt := 75) dX8_goOut_70 (by decide) ?_
      refine TT_istore_n hK rfl (lv' := [(2, vI 1048576), (1, vI ((h 38) (((h 34) 2) - 1))), (0, vR 34)]) (by decide) rfl dX8_goOut_75 ?_
      refine TT_aload_n hK rfl 2 rfl dX8_goOut_76 ?_
      refine gf_X8_25 hK (by decide) rfl (v := (h 34) 2) rfl dX8_goOut_77 ?_
      refine TT_sipush hK (by decide) dX8_goOut_80 ?_
      refine TT_icmp_ge hK (tgt := 115) (irm (by omega) (by omega)) (by decide) dX8_goOut_83 (by decide) (fun hb83 => ?_) (fun hb83 => ?_)
      · omega
      · refine TT_aload_n hK rfl 2 rfl dX8_goOut_86 ?_
        refine gf_X8_18 hK (by decide) rfl (q := 38) rfl rfl dX8_goOut_87 ?_
        refine TT_aload_n hK rfl 2 rfl dX8_goOut_90 ?_
        refine gf_X8_25 hK (by decide) rfl (v := (h 34) 2) rfl dX8_goOut_91 ?_
        refine TT_aload_n hK rfl 2 rfl dX8_goOut_94 ?_
        refine gf_X8_33 hK (by decide) rfl (v := (h 34) 4) rfl dX8_goOut_95 ?_
        refine TT_iload_n hK rfl 0 rfl dX8_goOut_98 ?_
        refine TT_idivn hK (irm (by omega) (by omega)) (by decide) (by first | omega | (simp [up, setR] <;> omega)) (by first | omega | (simp [up, setR] <;> omega)) dX8_goOut_99 ?_
        refine TT_sipush hK (by decide) dX8_goOut_100 ?_
        refine TT_iand hK dX8_goOut_103 ?_
        refine TT_cgI (iand_m (((h 34) 4) / 1048576) 8 (by decide)) ?_
        show TT K ly 0 0 104 [(2, vI 1048576), (1, vI ((h 38) (((h 34) 2) - 1))), (0, vR 34)] (vI ((((h 34) 4) / 1048576) % 256) :: [vI ((h 34) 2), vR 38]) h
        refine TT_iast hK (o := 38) (n := 1024) (by decide) rfl (by first | omega | (simp [up, setR] <;> omega)) (by first | omega | (simp [up, setR] <;> omega)) dX8_goOut_104 ?_
        refine TT_hp (h' := setO h 38 (fup (h 38) ((h 34) 2) ((((h 34) 4) / 1048576) % 256))) (up_can rfl rfl rfl) ?_
        refine TT_aload_n hK rfl 2 rfl dX8_goOut_105 ?_
        refine TT_dup hK rfl dX8_goOut_106 ?_
        refine gf_X8_25 hK (by decide) rfl (v := (h 34) 2) (rd_ (sOf_ne _ _ (by decide)) rfl) dX8_goOut_107 ?_
        refine TT_iconst hK dX8_goOut_110 ?_
        refine TT_iadd hK dX8_goOut_111 ?_
        refine pf_X8_25 hK (by decide) rfl dX8_goOut_112 ?_
        refine TT_hp (h' := setO (setO h 34 (fup (h 34) 2 (((h 34) 2) + 1))) 38 (fup (h 38) ((h 34) 2) ((((h 34) 4) / 1048576) % 256))) (up_can (sOf_ne _ _ (by decide)) rfl ((setO_comm _ _ _ (by decide)).trans (setO_cg rfl rfl))) ?_
        refine TT_aload_n hK rfl 2 rfl dX8_goOut_115 ?_
        refine TT_dup hK rfl dX8_goOut_116 ?_
        refine gf_X8_33 hK (by decide) rfl (v := (h 34) 4) (rd_ ((sOf_ne _ _ (by decide)).trans (sOf_eq _ _ _)) (fup_ne _ _ (by decide))) dX8_goOut_117 ?_
        refine TT_iload_n hK rfl 0 rfl dX8_goOut_120 ?_
        refine TT_iremn hK (irm (by omega) (by omega)) (by decide) (by first | omega | (simp [up, setR] <;> omega)) (by first | omega | (simp [up, setR] <;> omega)) dX8_goOut_121 ?_
        refine pf_X8_33 hK (by decide) rfl dX8_goOut_122 ?_
        refine TT_hp (h' := setO (setO h 34 (fup (fup (h 34) 2 (((h 34) 2) + 1)) 4 (((h 34) 4) % 1048576))) 38 (fup (h 38) ((h 34) 2) ((((h 34) 4) / 1048576) % 256))) (up_can ((sOf_ne _ _ (by decide)).trans (sOf_eq _ _ _)) rfl ((setO_comm _ _ _ (by decide)).trans (setO_cg (setO_same _ _ _ _) rfl))) ?_
        refine TT_aload_n hK rfl 2 rfl dX8_goOut_125 ?_
        refine TT_iload_n hK rfl 1 rfl dX8_goOut_126 ?_
        refine TT_sipush hK (by decide) dX8_goOut_127 ?_
        refine TT_icmp_ne hK (tgt := 138) (irm (by omega) (by omega)) (by decide) dX8_goOut_130 (by decide) (fun hb130 => ?_) (fun hb130 => ?_)
        · exfalso; omega
        · refine TT_bipush hK (by decide) dX8_goOut_133 ?_
          refine TT_goto hK (tgt := 140) dX8_goOut_135 (by decide) ?_
          refine pf_X8_36 hK (by decide) rfl dX8_goOut_140 ?_
          refine TT_hp (h' := setO (setO h 34 (fup (fup (fup (h 34) 2 (((h 34) 2) + 1)) 4 (((h 34) 4) % 1048576)) 5 7)) 38 (fup (h 38) ((h 34) 2) ((((h 34) 4) / 1048576) % 256))) (up_can ((sOf_ne _ _ (by decide)).trans (sOf_eq _ _ _)) rfl ((setO_comm _ _ _ (by decide)).trans (setO_cg (setO_same _ _ _ _) rfl))) ?_
          refine TT_vret hK hQ ?_ dX8_goOut_143
          exact ⟨rfl, setO_cg (setO_cg rfl (by first | rw [outS_1 (by omega)] | rw [outS_2 (by omega) (by omega)] | rw [outS_3 (by omega) (by omega) (by omega)] | rw [outS_4 (by omega) (by omega) (by omega)])) (by first | rw [outS_1 (by omega)] | rw [outS_2 (by omega) (by omega)] | rw [outS_3 (by omega) (by omega) (by omega)] | rw [outS_4 (by omega) (by omega) (by omega)])⟩
  · refine TT_aload_n hK rfl 1 rfl dX8_goOut_19 ?_
    refine gf_X8_33 hK (by decide) rfl (v := (h 34) 4) rfl dX8_goOut_20 ?_
    refine TT_ldc hK lc_X8_56 dX8_goOut_23 ?_
    refine TT_icmp_lt hK (tgt := 61) (irm (by omega) (by omega)) (by decide) dX8_goOut_25 (by decide) (fun hb25 => ?_) (fun hb25 => ?_)
    · refine TT_iload_n hK rfl 0 rfl dX8_goOut_61 ?_
      refine TT_sipush hK (by decide) dX8_goOut_62 ?_
      refine TT_icmp_ne hK (tgt := 73) (irm (by omega) (by omega)) (by decide) dX8_goOut_65 (by decide) (fun hb65 => ?_) (fun hb65 => ?_)
      · refine TT_ldc hK lc_X8_59 dX8_goOut_73 ?_
        refine TT_istore_n hK rfl (lv' := [(2, vI 524288), (1, vI ((h 38) (((h 34) 2) - 1))), (0, vR 34)]) (by decide) rfl dX8_goOut_75 ?_
        refine TT_aload_n hK rfl 2 rfl dX8_goOut_76 ?_
        refine gf_X8_25 hK (by decide) rfl (v := (h 34) 2) rfl dX8_goOut_77 ?_
        refine TT_sipush hK (by decide) dX8_goOut_80 ?_
        refine TT_icmp_ge hK (tgt := 115) (irm (by omega) (by omega)) (by decide) dX8_goOut_83 (by decide) (fun hb83 => ?_) (fun hb83 => ?_)
        · omega
        · refine TT_aload_n hK rfl 2 rfl dX8_goOut_86 ?_
          refine gf_X8_18 hK (by decide) rfl (q := 38) rfl rfl dX8_goOut_87 ?_
          refine TT_aload_n hK rfl 2 rfl dX8_goOut_90 ?_
          refine gf_X8_25 hK (by decide) rfl (v := (h 34) 2) rfl dX8_goOut_91 ?_
          refine TT_aload_n hK rfl 2 rfl dX8_goOut_94 ?_
          refine gf_X8_33 hK (by decide) rfl (v := (h 34) 4) rfl dX8_goOut_95 ?_
          refine TT_iload_n hK rfl 0 rfl dX8_goOut_98 ?_
          refine TT_idivn hK (irm (by omega) (by omega)) (by decide) (by first | omega | (simp [up, setR] <;> omega)) (by first | omega | (simp [up, setR] <;> omega)) dX8_goOut_99 ?_
          refine TT_sipush hK (by decide) dX8_goOut_100 ?_
          refine TT_iand hK dX8_goOut_103 ?_
          refine TT_cgI (iand_m (((h 34) 4) / 524288) 8 (by decide)) ?_
          show TT K ly 0 0 104 [(2, vI 524288), (1, vI ((h 38) (((h 34) 2) - 1))), (0, vR 34)] (vI ((((h 34) 4) / 524288) % 256) :: [vI ((h 34) 2), vR 38]) h
          refine TT_iast hK (o := 38) (n := 1024) (by decide) rfl (by first | omega | (simp [up, setR] <;> omega)) (by first | omega | (simp [up, setR] <;> omega)) dX8_goOut_104 ?_
          refine TT_hp (h' := setO h 38 (fup (h 38) ((h 34) 2) ((((h 34) 4) / 524288) % 256))) (up_can rfl rfl rfl) ?_
          refine TT_aload_n hK rfl 2 rfl dX8_goOut_105 ?_
          refine TT_dup hK rfl dX8_goOut_106 ?_
          refine gf_X8_25 hK (by decide) rfl (v := (h 34) 2) (rd_ (sOf_ne _ _ (by decide)) rfl) dX8_goOut_107 ?_
          refine TT_iconst hK dX8_goOut_110 ?_
          refine TT_iadd hK dX8_goOut_111 ?_
          refine pf_X8_25 hK (by decide) rfl dX8_goOut_112 ?_
          refine TT_hp (h' := setO (setO h 34 (fup (h 34) 2 (((h 34) 2) + 1))) 38 (fup (h 38) ((h 34) 2) ((((h 34) 4) / 524288) % 256))) (up_can (sOf_ne _ _ (by decide)) rfl ((setO_comm _ _ _ (by decide)).trans (setO_cg rfl rfl))) ?_
          refine TT_aload_n hK rfl 2 rfl dX8_goOut_115 ?_
          refine TT_dup hK rfl dX8_goOut_116 ?_
          refine gf_X8_33 hK (by decide) rfl (v := (h 34) 4) (rd_ ((sOf_ne _ _ (by decide)).trans (sOf_eq _ _ _)) (fup_ne _ _ (by decide))) dX8_goOut_117 ?_
          refine TT_iload_n hK rfl 0 rfl dX8_goOut_120 ?_
          refine TT_iremn hK (irm (by omega) (by omega)) (by decide) (by first | omega | (simp [up, setR] <;> omega)) (by first | omega | (simp [up, setR] <;> omega)) dX8_goOut_121 ?_
          refine pf_X8_33 hK (by decide) rfl dX8_goOut_122 ?_
          refine TT_hp (h' := setO (setO h 34 (fup (fup (h 34) 2 (((h 34) 2) + 1)) 4 (((h 34) 4) % 524288))) 38 (fup (h 38) ((h 34) 2) ((((h 34) 4) / 524288) % 256))) (up_can ((sOf_ne _ _ (by decide)).trans (sOf_eq _ _ _)) rfl ((setO_comm _ _ _ (by decide)).trans (setO_cg (setO_same _ _ _ _) rfl))) ?_
          refine TT_aload_n hK rfl 2 rfl dX8_goOut_125 ?_
          refine TT_iload_n hK rfl 1 rfl dX8_goOut_126 ?_
          refine TT_sipush hK (by decide) dX8_goOut_127 ?_
          refine TT_icmp_ne hK (tgt := 138) (irm (by omega) (by omega)) (by decide) dX8_goOut_130 (by decide) (fun hb130 => ?_) (fun hb130 => ?_)
          · refine TT_bipush hK (by decide) dX8_goOut_138 ?_
            refine pf_X8_36 hK (by decide) rfl dX8_goOut_140 ?_
            refine TT_hp (h' := setO (setO h 34 (fup (fup (fup (h 34) 2 (((h 34) 2) + 1)) 4 (((h 34) 4) % 524288)) 5 8)) 38 (fup (h 38) ((h 34) 2) ((((h 34) 4) / 524288) % 256))) (up_can ((sOf_ne _ _ (by decide)).trans (sOf_eq _ _ _)) rfl ((setO_comm _ _ _ (by decide)).trans (setO_cg (setO_same _ _ _ _) rfl))) ?_
            refine TT_vret hK hQ ?_ dX8_goOut_143
            exact ⟨rfl, setO_cg (setO_cg rfl (by first | rw [outS_1 (by omega)] | rw [outS_2 (by omega) (by omega)] | rw [outS_3 (by omega) (by omega) (by omega)] | rw [outS_4 (by omega) (by omega) (by omega)])) (by first | rw [outS_1 (by omega)] | rw [outS_2 (by omega) (by omega)] | rw [outS_3 (by omega) (by omega) (by omega)] | rw [outS_4 (by omega) (by omega) (by omega)])⟩
          · exfalso; omega
      · exfalso; omega
    · refine TT_iinc hK (v := ((h 38) (((h 34) 2) - 1)) + 1) (lv' := [(1, vI (((h 38) (((h 34) 2) - 1)) + 1)), (0, vR 34)]) 0 rfl rfl (by decide) rfl dX8_goOut_28 ?_
      refine TT_aload_n hK rfl 1 rfl dX8_goOut_31 ?_
      refine gf_X8_18 hK (by decide) rfl (q := 38) rfl rfl dX8_goOut_32 ?_
      refine TT_aload_n hK rfl 1 rfl dX8_goOut_35 ?_
      refine gf_X8_25 hK (by decide) rfl (v := (h 34) 2) rfl dX8_goOut_36 ?_
      refine TT_iconst hK dX8_goOut_39 ?_
      refine TT_isub hK dX8_goOut_40 ?_
      refine TT_iload_n hK rfl 0 rfl dX8_goOut_41 ?_
      refine TT_iast hK (o := 38) (n := 1024) (by decide) rfl (by first | omega | (simp [up, setR] <;> omega)) (by first | omega | (simp [up, setR] <;> omega)) dX8_goOut_42 ?_
      refine TT_hp (h' := setO h 38 (fup (h 38) (((h 34) 2) - 1) (((h 38) (((h 34) 2) - 1)) + 1))) (up_can rfl rfl rfl) ?_
      refine TT_iload_n hK rfl 0 rfl dX8_goOut_43 ?_
      refine TT_sipush hK (by decide) dX8_goOut_44 ?_
      refine TT_icmp_ne hK (tgt := 61) (irm (by omega) (by omega)) (by decide) dX8_goOut_47 (by decide) (fun hb47 => ?_) (fun hb47 => ?_)
      · refine TT_iload_n hK rfl 0 rfl dX8_goOut_61 ?_
        refine TT_sipush hK (by decide) dX8_goOut_62 ?_
        refine TT_icmp_ne hK (tgt := 73) (irm (by omega) (by omega)) (by decide) dX8_goOut_65 (by decide) (fun hb65 => ?_) (fun hb65 => ?_)
        · refine TT_ldc hK lc_X8_59 dX8_goOut_73 ?_
          refine TT_istore_n hK rfl (lv' := [(2, vI 524288), (1, vI (((h 38) (((h 34) 2) - 1)) + 1)), (0, vR 34)]) (by decide) rfl dX8_goOut_75 ?_
          refine TT_aload_n hK rfl 2 rfl dX8_goOut_76 ?_
          refine gf_X8_25 hK (by decide) rfl (v := (h 34) 2) (rd_ (sOf_ne _ _ (by decide)) rfl) dX8_goOut_77 ?_
          refine TT_sipush hK (by decide) dX8_goOut_80 ?_
          refine TT_icmp_ge hK (tgt := 115) (irm (by omega) (by omega)) (by decide) dX8_goOut_83 (by decide) (fun hb83 => ?_) (fun hb83 => ?_)
          · omega
          · refine TT_aload_n hK rfl 2 rfl dX8_goOut_86 ?_
            refine gf_X8_18 hK (by decide) rfl (q := 38) rfl rfl dX8_goOut_87 ?_
            refine TT_aload_n hK rfl 2 rfl dX8_goOut_90 ?_
            refine gf_X8_25 hK (by decide) rfl (v := (h 34) 2) (rd_ (sOf_ne _ _ (by decide)) rfl) dX8_goOut_91 ?_
            refine TT_aload_n hK rfl 2 rfl dX8_goOut_94 ?_
            refine gf_X8_33 hK (by decide) rfl (v := (h 34) 4) (rd_ (sOf_ne _ _ (by decide)) rfl) dX8_goOut_95 ?_
            refine TT_iload_n hK rfl 0 rfl dX8_goOut_98 ?_
            refine TT_idivn hK (irm (by omega) (by omega)) (by decide) (by first | omega | (simp [up, setR] <;> omega)) (by first | omega | (simp [up, setR] <;> omega)) dX8_goOut_99 ?_
            refine TT_sipush hK (by decide) dX8_goOut_100 ?_
            refine TT_iand hK dX8_goOut_103 ?_
            refine TT_cgI (iand_m (((h 34) 4) / 524288) 8 (by decide)) ?_
            show TT K ly 0 0 104 [(2, vI 524288), (1, vI (((h 38) (((h 34) 2) - 1)) + 1)), (0, vR 34)] (vI ((((h 34) 4) / 524288) % 256) :: [vI ((h 34) 2), vR 38]) (setO h 38 (fup (h 38) (((h 34) 2) - 1) (((h 38) (((h 34) 2) - 1)) + 1)))
            refine TT_iast hK (o := 38) (n := 1024) (by decide) rfl (by first | omega | (simp [up, setR] <;> omega)) (by first | omega | (simp [up, setR] <;> omega)) dX8_goOut_104 ?_
            refine TT_hp (h' := setO h 38 (fup (fup (h 38) (((h 34) 2) - 1) (((h 38) (((h 34) 2) - 1)) + 1)) ((h 34) 2) ((((h 34) 4) / 524288) % 256))) (up_can (sOf_eq _ _ _) rfl (setO_same _ _ _ _)) ?_
            refine TT_aload_n hK rfl 2 rfl dX8_goOut_105 ?_
            refine TT_dup hK rfl dX8_goOut_106 ?_
            refine gf_X8_25 hK (by decide) rfl (v := (h 34) 2) (rd_ (sOf_ne _ _ (by decide)) rfl) dX8_goOut_107 ?_
            refine TT_iconst hK dX8_goOut_110 ?_
            refine TT_iadd hK dX8_goOut_111 ?_
            refine pf_X8_25 hK (by decide) rfl dX8_goOut_112 ?_
            refine TT_hp (h' := setO (setO h 34 (fup (h 34) 2 (((h 34) 2) + 1))) 38 (fup (fup (h 38) (((h 34) 2) - 1) (((h 38) (((h 34) 2) - 1)) + 1)) ((h 34) 2) ((((h 34) 4) / 524288) % 256))) (up_can (sOf_ne _ _ (by decide)) rfl ((setO_comm _ _ _ (by decide)).trans (setO_cg rfl rfl))) ?_
            refine TT_aload_n hK rfl 2 rfl dX8_goOut_115 ?_
            refine TT_dup hK rfl dX8_goOut_116 ?_
            refine gf_X8_33 hK (by decide) rfl (v := (h 34) 4) (rd_ ((sOf_ne _ _ (by decide)).trans (sOf_eq _ _ _)) (fup_ne _ _ (by decide))) dX8_goOut_117 ?_
            refine TT_iload_n hK rfl 0 rfl dX8_goOut_120 ?_
            refine TT_iremn hK (irm (by omega) (by omega)) (by decide) (by first | omega | (simp [up, setR] <;> omega)) (by first | omega | (simp [up, setR] <;> omega)) dX8_goOut_121 ?_
            refine pf_X8_33 hK (by decide) rfl dX8_goOut_122 ?_
            refine TT_hp (h' := setO (setO h 34 (fup (fup (h 34) 2 (((h 34) 2) + 1)) 4 (((h 34) 4) % 524288))) 38 (fup (fup (h 38) (((h 34) 2) - 1) (((h 38) (((h 34) 2) - 1)) + 1)) ((h 34) 2) ((((h 34) 4) / 524288) % 256))) (up_can ((sOf_ne _ _ (by decide)).trans (sOf_eq _ _ _)) rfl ((setO_comm _ _ _ (by decide)).trans (setO_cg (setO_same _ _ _ _) rfl))) ?_
            refine TT_aload_n hK rfl 2 rfl dX8_goOut_125 ?_
            refine TT_iload_n hK rfl 1 rfl dX8_goOut_126 ?_
            refine TT_sipush hK (by decide) dX8_goOut_127 ?_
            refine TT_icmp_ne hK (tgt := 138) (irm (by omega) (by omega)) (by decide) dX8_goOut_130 (by decide) (fun hb130 => ?_) (fun hb130 => ?_)
            · refine TT_bipush hK (by decide) dX8_goOut_138 ?_
              refine pf_X8_36 hK (by decide) rfl dX8_goOut_140 ?_
              refine TT_hp (h' := setO (setO h 34 (fup (fup (fup (h 34) 2 (((h 34) 2) + 1)) 4 (((h 34) 4) % 524288)) 5 8)) 38 (fup (fup (h 38) (((h 34) 2) - 1) (((h 38) (((h 34) 2) - 1)) + 1)) ((h 34) 2) ((((h 34) 4) / 524288) % 256))) (up_can ((sOf_ne _ _ (by decide)).trans (sOf_eq _ _ _)) rfl ((setO_comm _ _ _ (by decide)).trans (setO_cg (setO_same _ _ _ _) rfl))) ?_
              refine TT_vret hK hQ ?_ dX8_goOut_143
              exact ⟨rfl, setO_cg (setO_cg rfl (by first | rw [outS_1 (by omega)] | rw [outS_2 (by omega) (by omega)] | rw [outS_3 (by omega) (by omega) (by omega)] | rw [outS_4 (by omega) (by omega) (by omega)])) (by first | rw [outS_1 (by omega)] | rw [outS_2 (by omega) (by omega)] | rw [outS_3 (by omega) (by omega) (by omega)] | rw [outS_4 (by omega) (by omega) (by omega)])⟩
            · exfalso; omega
        · exfalso; omega
      · refine TT_aload_n hK rfl 1 rfl dX8_goOut_50 ?_
        refine TT_dup hK rfl dX8_goOut_51 ?_
        refine gf_X8_33 hK (by decide) rfl (v := (h 34) 4) (rd_ (sOf_ne _ _ (by decide)) rfl) dX8_goOut_52 ?_
        refine TT_ldc hK lc_X8_57 dX8_goOut_55 ?_
        refine TT_iand hK dX8_goOut_57 ?_
        refine TT_cgI (iand_m ((h 34) 4) 27 (by decide)) ?_
        show TT K ly 0 0 58 [(1, vI (((h 38) (((h 34) 2) - 1)) + 1)), (0, vR 34)] (vI (((h 34) 4) % 134217728) :: [vR 34]) (setO h 38 (fup (h 38) (((h 34) 2) - 1) (((h 38) (((h 34) 2) - 1)) + 1)))
        refine TT_cgI (b := h 34 4 - 134217728) (by omega) ?_
        refine pf_X8_33 hK (by decide) rfl dX8_goOut_58 ?_
        refine TT_hp (h' := setO (setO h 34 (fup (h 34) 4 (h 34 4 - 134217728))) 38 (fup (h 38) (((h 34) 2) - 1) (((h 38) (((h 34) 2) - 1)) + 1))) (up_can (sOf_ne _ _ (by decide)) rfl ((setO_comm _ _ _ (by decide)).trans (setO_cg rfl rfl))) ?_
        refine TT_iload_n hK rfl 0 rfl dX8_goOut_61 ?_
        refine TT_sipush hK (by decide) dX8_goOut_62 ?_
        refine TT_icmp_ne hK (tgt := 73) (irm (by omega) (by omega)) (by decide) dX8_goOut_65 (by decide) (fun hb65 => ?_) (fun hb65 => ?_)
        · exfalso; omega
        · refine TT_ldc hK lc_X8_58 dX8_goOut_68 ?_
          refine TT_goto hK (tgt := 75) dX8_goOut_70 (by decide) ?_
          refine TT_istore_n hK rfl (lv' := [(2, vI 1048576), (1, vI (((h 38) (((h 34) 2) - 1)) + 1)), (0, vR 34)]) (by decide) rfl dX8_goOut_75 ?_
          refine TT_aload_n hK rfl 2 rfl dX8_goOut_76 ?_
          refine gf_X8_25 hK (by decide) rfl (v := (h 34) 2) (rd_ ((sOf_ne _ _ (by decide)).trans (sOf_eq _ _ _)) (fup_ne _ _ (by decide))) dX8_goOut_77 ?_
          refine TT_sipush hK (by decide) dX8_goOut_80 ?_
          refine TT_icmp_ge hK (tgt := 115) (irm (by omega) (by omega)) (by decide) dX8_goOut_83 (by decide) (fun hb83 => ?_) (fun hb83 => ?_)
          · omega
          · refine TT_aload_n hK rfl 2 rfl dX8_goOut_86 ?_
            refine gf_X8_18 hK (by decide) rfl (q := 38) rfl rfl dX8_goOut_87 ?_
            refine TT_aload_n hK rfl 2 rfl dX8_goOut_90 ?_
            refine gf_X8_25 hK (by decide) rfl (v := (h 34) 2) (rd_ ((sOf_ne _ _ (by decide)).trans (sOf_eq _ _ _)) (fup_ne _ _ (by decide))) dX8_goOut_91 ?_
            refine TT_aload_n hK rfl 2 rfl dX8_goOut_94 ?_
            refine gf_X8_33 hK (by decide) rfl (v := h 34 4 - 134217728) (rd_ ((sOf_ne _ _ (by decide)).trans (sOf_eq _ _ _)) (fup_eq _ _ _)) dX8_goOut_95 ?_
            refine TT_iload_n hK rfl 0 rfl dX8_goOut_98 ?_
            refine TT_idivn hK (irm (by omega) (by omega)) (by decide) (by first | omega | (simp [up, setR] <;> omega)) (by first | omega | (simp [up, setR] <;> omega)) dX8_goOut_99 ?_
            refine TT_sipush hK (by decide) dX8_goOut_100 ?_
            refine TT_iand hK dX8_goOut_103 ?_
            refine TT_cgI (iand_m ((h 34 4 - 134217728) / 1048576) 8 (by decide)) ?_
            show TT K ly 0 0 104 [(2, vI 1048576), (1, vI (((h 38) (((h 34) 2) - 1)) + 1)), (0, vR 34)] (vI (((h 34 4 - 134217728) / 1048576) % 256) :: [vI ((h 34) 2), vR 38]) (setO (setO h 34 (fup (h 34) 4 (h 34 4 - 134217728))) 38 (fup (h 38) (((h 34) 2) - 1) (((h 38) (((h 34) 2) - 1)) + 1)))
            refine TT_iast hK (o := 38) (n := 1024) (by decide) rfl (by first | omega | (simp [up, setR] <;> omega)) (by first | omega | (simp [up, setR] <;> omega)) dX8_goOut_104 ?_
            refine TT_hp (h' := setO (setO h 34 (fup (h 34) 4 (h 34 4 - 134217728))) 38 (fup (fup (h 38) (((h 34) 2) - 1) (((h 38) (((h 34) 2) - 1)) + 1)) ((h 34) 2) (((h 34 4 - 134217728) / 1048576) % 256))) (up_can (sOf_eq _ _ _) rfl (setO_same _ _ _ _)) ?_
            refine TT_aload_n hK rfl 2 rfl dX8_goOut_105 ?_
            refine TT_dup hK rfl dX8_goOut_106 ?_
            refine gf_X8_25 hK (by decide) rfl (v := (h 34) 2) (rd_ ((sOf_ne _ _ (by decide)).trans (sOf_eq _ _ _)) (fup_ne _ _ (by decide))) dX8_goOut_107 ?_
            refine TT_iconst hK dX8_goOut_110 ?_
            refine TT_iadd hK dX8_goOut_111 ?_
            refine pf_X8_25 hK (by decide) rfl dX8_goOut_112 ?_
            refine TT_hp (h' := setO (setO h 34 (fup (fup (h 34) 2 (((h 34) 2) + 1)) 4 (h 34 4 - 134217728))) 38 (fup (fup (h 38) (((h 34) 2) - 1) (((h 38) (((h 34) 2) - 1)) + 1)) ((h 34) 2) (((h 34 4 - 134217728) / 1048576) % 256))) (up_can ((sOf_ne _ _ (by decide)).trans (sOf_eq _ _ _)) (fup_comm _ _ _ (by decide)) ((setO_comm _ _ _ (by decide)).trans (setO_cg (setO_same _ _ _ _) rfl))) ?_
            refine TT_aload_n hK rfl 2 rfl dX8_goOut_115 ?_
            refine TT_dup hK rfl dX8_goOut_116 ?_
            refine gf_X8_33 hK (by decide) rfl (v := h 34 4 - 134217728) (rd_ ((sOf_ne _ _ (by decide)).trans (sOf_eq _ _ _)) (fup_eq _ _ _)) dX8_goOut_117 ?_
            refine TT_iload_n hK rfl 0 rfl dX8_goOut_120 ?_
            refine TT_iremn hK (irm (by omega) (by omega)) (by decide) (by first | omega | (simp [up, setR] <;> omega)) (by first | omega | (simp [up, setR] <;> omega)) dX8_goOut_121 ?_
            refine pf_X8_33 hK (by decide) rfl dX8_goOut_122 ?_
            refine TT_hp (h' := setO (setO h 34 (fup (fup (h 34) 2 (((h 34) 2) + 1)) 4 ((h 34 4 - 134217728) % 1048576))) 38 (fup (fup (h 38) (((h 34) 2) - 1) (((h 38) (((h 34) 2) - 1)) + 1)) ((h 34) 2) (((h 34 4 - 134217728) / 1048576) % 256))) (up_can ((sOf_ne _ _ (by decide)).trans (sOf_eq _ _ _)) (fup_same _ _ _ _) ((setO_comm _ _ _ (by decide)).trans (setO_cg (setO_same _ _ _ _) rfl))) ?_
            refine TT_aload_n hK rfl 2 rfl dX8_goOut_125 ?_
            refine TT_iload_n hK rfl 1 rfl dX8_goOut_126 ?_
            refine TT_sipush hK (by decide) dX8_goOut_127 ?_
            refine TT_icmp_ne hK (tgt := 138) (irm (by omega) (by omega)) (by decide) dX8_goOut_130 (by decide) (fun hb130 => ?_) (fun hb130 => ?_)
            · exfalso; omega
            · refine TT_bipush hK (by decide) dX8_goOut_133 ?_
              refine TT_goto hK (tgt := 140) dX8_goOut_135 (by decide) ?_
              refine pf_X8_36 hK (by decide) rfl dX8_goOut_140 ?_
              refine TT_hp (h' := setO (setO h 34 (fup (fup (fup (h 34) 2 (((h 34) 2) + 1)) 4 ((h 34 4 - 134217728) % 1048576)) 5 7)) 38 (fup (fup (h 38) (((h 34) 2) - 1) (((h 38) (((h 34) 2) - 1)) + 1)) ((h 34) 2) (((h 34 4 - 134217728) / 1048576) % 256))) (up_can ((sOf_ne _ _ (by decide)).trans (sOf_eq _ _ _)) rfl ((setO_comm _ _ _ (by decide)).trans (setO_cg (setO_same _ _ _ _) rfl))) ?_
              refine TT_vret hK hQ ?_ dX8_goOut_143
              exact ⟨rfl, setO_cg (setO_cg rfl (by first | rw [outS_1 (by omega)] | rw [outS_2 (by omega) (by omega)] | rw [outS_3 (by omega) (by omega) (by omega)] | rw [outS_4 (by omega) (by omega) (by omega)])) (by first | rw [outS_1 (by omega)] | rw [outS_2 (by omega) (by omega)] | rw [outS_3 (by omega) (by omega) (by omega)] | rw [outS_4 (by omega) (by omega) (by omega)])⟩
set_option maxRecDepth 20000 in
theorem c_X8_mend_34 (h : Hp_) (hq : MQ_ (h 34 3) (h 34 4) (h 34 5) (h 34 2) (h 38)) (hn : (h 34 2) ≤ 1019) : Ctr yX8_mend cX8_mend 2 none (rmd 1) ly ly 0 0 [vR 34] h (fun r h' => r = none ∧ h' = setO (setO h 34 (fup (fup (fup (fup (h 34) 2 ((mendS 15 (h 34 3) (h 34 4) (h 34 5) (h 34 2) (h 38)).2.2.2.1)) 3 ((mendS 15 (h 34 3) (h 34 4) (h 34 5) (h 34 2) (h 38)).1)) 4 ((mendS 15 (h 34 3) (h 34 4) (h 34 5) (h 34 2) (h 38)).2.1)) 5 ((mendS 15 (h 34 3) (h 34 4) (h 34 5) (h 34 2) (h 38)).2.2.1))) 38 ((mendS 15 (h 34 3) (h 34 4) (h 34 5) (h 34 2) (h 38)).2.2.2.2)) := by
  refine Ctr_of (by decide) (Nat.le_of_ble_eq_true rfl) ⟨Nat.le_refl _, Nat.le_refl _⟩ (fun K hK hQ _ => ?_)
  show TT K ly 0 0 0 [(0, vR 34)] [] h
  have hq4 := hq.2.2.2.1
  refine TT_iconst hK dX8_mend_0 ?_
  refine TT_istore_n hK rfl (lv' := [(1, vI 0), (0, vR 34)]) (by decide) rfl dX8_mend_1 ?_
  have L2_1 : ∀ (k1 : Nat) (k : Int) (a1 : Int) (c1 : Int) (t1 : Int) (n1 : Int) (o1 : Int → Int) (R9 : Int × Int × Int × Int × (Int → Int)) (X9 : Int), (0 ≤ k) → (k ≤ 15) → (MI_ (15 - k).toNat a1 c1 t1 n1 o1 R9 X9) → (X9 ≤ 7 * 1019 + 15) → ((mendS 15 (h 34 3) (h 34 4) (h 34 5) (h 34 2) (h 38)) = R9) → ((15 : Int) - k).toNat < k1 → TT K ly 0 0 2 [(0, vR 34), (1, vI k)] [] (setO (setO h 34 (fup (fup (fup (fup (h 34) 2 n1) 3 a1) 4 c1) 5 t1)) 38 o1) := by
    intro k1
    induction k1 with
    | zero => intro k a1 c1 t1 n1 o1 R9 X9 hkk0 hkk1 hM hX hR hk1; exact absurd hk1 (Nat.not_lt_zero _)
    | succ k1 ih1 =>
      intro k a1 c1 t1 n1 o1 R9 X9 hkk0 hkk1 hM hX hR hk1
      have hcr := hM.2.2.2.c_r
      obtain ⟨m1, m2, m3, m4, m5, m6, m7, m8, m9⟩ := hM.2.2.2
      have hX2 := hM.2.2.1
      refine TT_iload_n hK rfl 1 rfl dX8_mend_2 ?_
      refine TT_bipush hK (by decide) dX8_mend_3 ?_
      refine TT_icmp_ge hK (tgt := 64) (irm (by omega) (by omega)) (by decide) dX8_mend_5 (by decide) (fun hb5 => ?_) (fun hb5 => ?_)
      · refine TT_vret hK hQ ?_ dX8_mend_64
        have hE := MI_done hM (by first | omega | (have h0 : (15 - k).toNat = 0 := (by omega); rw [h0] at hM; exact MI_z hM))
        exact ⟨rfl, setO_cg (setO_cg rfl (by rw [hR, ← hE])) (by rw [hR, ← hE])⟩
      · refine TT_aload_n hK rfl 0 rfl dX8_mend_8 ?_
        refine gf_X8_30 hK (by decide) rfl (v := a1) (rd_ ((sOf_ne _ _ (by decide)).trans (sOf_eq _ _ _)) ((fup_ne _ _ (by decide)).trans ((fup_ne _ _ (by decide)).trans (fup_eq _ _ _)))) dX8_mend_9 ?_
        refine TT_ldc hK lc_X8_29 dX8_mend_12 ?_
        refine TT_icmp_ge hK (tgt := 64) (irm (by omega) (by omega)) (by decide) dX8_mend_14 (by decide) (fun hb14 => ?_) (fun hb14 => ?_)
        · refine TT_vret hK hQ ?_ dX8_mend_64
          have hE := MI_done hM (by first | omega | (have h0 : (15 - k).toNat = 0 := (by omega); rw [h0] at hM; exact MI_z hM))
          exact ⟨rfl, setO_cg (setO_cg rfl (by rw [hR, ← hE])) (by rw [hR, ← hE])⟩
        · refine TT_aload_n hK rfl 0 rfl dX8_mend_17 ?_
          refine TT_dup hK rfl dX8_mend_18 ?_
          refine gf_X8_30 hK (by decide) rfl (v := a1) (rd_ ((sOf_ne _ _ (by decide)).trans (sOf_eq _ _ _)) ((fup_ne _ _ (by decide)).trans ((fup_ne _ _ (by decide)).trans (fup_eq _ _ _)))) dX8_mend_19 ?_
          refine TT_iconst hK dX8_mend_22 ?_
          refine TT_ishl hK (by omega) (by omega) dX8_mend_23 ?_
          refine TT_cgI (b := a1 * 2) rfl ?_
          refine TT_cgI (b := 2 * a1) (by omega) ?_
          refine pf_X8_30 hK (by decide) rfl dX8_mend_24 ?_
          refine TT_hp (h' := setO (setO h 34 (fup (fup (fup (fup (h 34) 2 n1) 3 (2 * a1)) 4 c1) 5 t1)) 38 o1) (up_can ((sOf_ne _ _ (by decide)).trans (sOf_eq _ _ _)) ((fup_comm _ _ _ (by decide)).trans (fup_cg ((fup_comm _ _ _ (by decide)).trans (fup_cg (fup_same _ _ _ _))))) ((setO_comm _ _ _ (by decide)).trans (setO_cg (setO_same _ _ _ _) rfl))) ?_
          refine TT_aload_n hK rfl 0 rfl dX8_mend_27 ?_
          refine TT_dup hK rfl dX8_mend_28 ?_
          refine gf_X8_33 hK (by decide) rfl (v := c1) (rd_ ((sOf_ne _ _ (by decide)).trans (sOf_eq _ _ _)) ((fup_ne _ _ (by decide)).trans (fup_eq _ _ _))) dX8_mend_29 ?_
          refine TT_iconst hK dX8_mend_32 ?_
          refine TT_ishl hK (by omega) (by omega) dX8_mend_33 ?_
          refine TT_cgI (b := c1 * 2) rfl ?_
          refine TT_cgI (b := 2 * c1) (by omega) ?_
          refine pf_X8_33 hK (by decide) rfl dX8_mend_34 ?_
          refine TT_hp (h' := setO (setO h 34 (fup (fup (fup (fup (h 34) 2 n1) 3 (2 * a1)) 4 (2 * c1)) 5 t1)) 38 o1) (up_can ((sOf_ne _ _ (by decide)).trans (sOf_eq _ _ _)) ((fup_comm _ _ _ (by decide)).trans (fup_cg (fup_same _ _ _ _))) ((setO_comm _ _ _ (by decide)).trans (setO_cg (setO_same _ _ _ _) rfl))) ?_
          refine TT_aload_n hK rfl 0 rfl dX8_mend_37 ?_
          refine TT_dup hK rfl dX8_mend_38 ?_
          refine gf_X8_36 hK (by decide) rfl (v := t1) (rd_ ((sOf_ne _ _ (by decide)).trans (sOf_eq _ _ _)) (fup_eq _ _ _)) dX8_mend_39 ?_
          refine TT_iconst hK dX8_mend_42 ?_
          refine TT_isub hK dX8_mend_43 ?_
          refine pf_X8_36 hK (by decide) rfl dX8_mend_44 ?_
          refine TT_hp (h' := setO (setO h 34 (fup (fup (fup (fup (h 34) 2 n1) 3 (2 * a1)) 4 (2 * c1)) 5 (t1 - 1))) 38 o1) (up_can ((sOf_ne _ _ (by decide)).trans (sOf_eq _ _ _)) (fup_same _ _ _ _) ((setO_comm _ _ _ (by decide)).trans (setO_cg (setO_same _ _ _ _) rfl))) ?_
          refine TT_aload_n hK rfl 0 rfl dX8_mend_47 ?_
          refine gf_X8_36 hK (by decide) rfl (v := t1 - 1) (rd_ ((sOf_ne _ _ (by decide)).trans (sOf_eq _ _ _)) (fup_eq _ _ _)) dX8_mend_48 ?_
          refine TT_if_ne hK (tgt := 58) (irm (by omega) (by omega)) dX8_mend_51 (by decide) (fun hb51 => ?_) (fun hb51 => ?_)
          · refine TT_iinc hK (v := k + 1) (lv' := [(1, vI (k + 1)), (0, vR 34)]) 1 rfl rfl (by decide) rfl dX8_mend_58 ?_
            refine TT_goto hK (tgt := 2) dX8_mend_61 (by decide) ?_
            refine TT_sub [1, 0] rfl ?_
            exact ih1 (k + 1) (2 * a1) (2 * c1) (t1 - 1) n1 o1 R9 X9 (by first | omega | (simp [up, setR] <;> omega)) (by first | omega | (simp [up, setR] <;> omega)) (by have h1 : (15 - k).toNat = (15 - (k + 1)).toNat + 1 := (by omega); rw [h1] at hM; first | exact MI_next hM (by omega) (by omega) | exact MI_out hM (by omega) (by omega)) (by exact hX) (by exact hR) (by first | omega | (simp [up, setR] <;> omega))
          · refine TT_aload_n hK rfl 0 rfl dX8_mend_54 ?_
            have q55_34_2 : (setO (setO h 34 (fup (fup (fup (fup (h 34) 2 n1) 3 (2 * a1)) 4 (2 * c1)) 5 (t1 - 1))) 38 o1) 34 2 = n1 := rd_ ((sOf_ne _ _ (by decide)).trans (sOf_eq _ _ _)) ((fup_ne _ _ (by decide)).trans ((fup_ne _ _ (by decide)).trans ((fup_ne _ _ (by decide)).trans (fup_eq _ _ _))))
            have q55_34_4 : (setO (setO h 34 (fup (fup (fup (fup (h 34) 2 n1) 3 (2 * a1)) 4 (2 * c1)) 5 (t1 - 1))) 38 o1) 34 4 = 2 * c1 := rd_ ((sOf_ne _ _ (by decide)).trans (sOf_eq _ _ _)) ((fup_ne _ _ (by decide)).trans (fup_eq _ _ _))
            have q55_34 : (setO (setO h 34 (fup (fup (fup (fup (h 34) 2 n1) 3 (2 * a1)) 4 (2 * c1)) 5 (t1 - 1))) 38 o1) 34 = fup (fup (fup (fup (h 34) 2 n1) 3 (2 * a1)) 4 (2 * c1)) 5 (t1 - 1) := (sOf_ne _ _ (by decide)).trans (sOf_eq _ _ _)
            have q55_38 : (setO (setO h 34 (fup (fup (fup (fup (h 34) 2 n1) 3 (2 * a1)) 4 (2 * c1)) 5 (t1 - 1))) 38 o1) 38 = o1 := sOf_eq _ _ _
            refine iv_X8_53 hK (c_X8_goOut_34 (setO (setO h 34 (fup (fup (fup (fup (h 34) 2 n1) 3 (2 * a1)) 4 (2 * c1)) 5 (t1 - 1))) 38 o1) (by rw [q55_34_2]; first | omega | (simp [up, setR] <;> omega)) (by rw [q55_34_4]; first | omega | (simp [up, setR] <;> omega)) (by rw [q55_34_2, q55_38]; first | omega | (simp [up, setR] <;> omega))) (by decide) rfl ⟨by decide, by decide⟩ (by decide) rfl rfl (Nat.le_of_ble_eq_true rfl) ⟨by decide, by decide⟩ dX8_mend_55 ?_
            intro r9 h9 hp9
            rw [q55_34_2, q55_34_4, q55_34, q55_38] at hp9
            rw [hp9.1, hp9.2]
            refine TT_hp (h' := setO (setO h 34 (fup (fup (fup (fup (h 34) 2 ((outS (2 * c1) n1 o1).2.2.1)) 3 (2 * a1)) 4 ((outS (2 * c1) n1 o1).1)) 5 ((outS (2 * c1) n1 o1).2.1))) 38 ((outS (2 * c1) n1 o1).2.2.2)) ((setO_cg ((setO_cg rfl ((fup_cg ((fup_cg ((fup_comm _ _ _ (by decide)).trans (fup_cg ((fup_comm _ _ _ (by decide)).trans (fup_cg ((fup_comm _ _ _ (by decide)).trans (fup_cg (fup_same _ _ _ _)))))))).trans ((fup_comm _ _ _ (by decide)).trans (fup_cg (fup_same _ _ _ _))))).trans (fup_same _ _ _ _))).trans ((setO_comm _ _ _ (by decide)).trans (setO_cg (setO_same _ _ _ _) rfl))) rfl).trans (setO_same _ _ _ _)) ?_
            show TT K ly 0 0 58 [(0, vR 34), (1, vI k)] [] (setO (setO h 34 (fup (fup (fup (fup (h 34) 2 ((outS (2 * c1) n1 o1).2.2.1)) 3 (2 * a1)) 4 ((outS (2 * c1) n1 o1).1)) 5 ((outS (2 * c1) n1 o1).2.1))) 38 ((outS (2 * c1) n1 o1).2.2.2))
            refine TT_iinc hK (v := k + 1) (lv' := [(1, vI (k + 1)), (0, vR 34)]) 1 rfl rfl (by decide) rfl dX8_mend_58 ?_
            refine TT_goto hK (tgt := 2) dX8_mend_61 (by decide) ?_
            refine TT_sub [1, 0] rfl ?_
            exact ih1 (k + 1) (2 * a1) ((outS (2 * c1) n1 o1).1) ((outS (2 * c1) n1 o1).2.1) ((outS (2 * c1) n1 o1).2.2.1) ((outS (2 * c1) n1 o1).2.2.2) R9 X9 (by first | omega | (simp [up, setR] <;> omega)) (by first | omega | (simp [up, setR] <;> omega)) (by have h1 : (15 - k).toNat = (15 - (k + 1)).toNat + 1 := (by omega); rw [h1] at hM; first | exact MI_next hM (by omega) (by omega) | exact MI_out hM (by omega) (by omega)) (by exact hX) (by exact hR) (by first | omega | (simp [up, setR] <;> omega))
  refine TT_sub [1, 0] rfl ?_
  refine TT_hp (h' := setO (setO h 34 (fup (fup (fup (fup (h 34) 2 ((h 34) 2)) 3 ((h 34) 3)) 4 ((h 34) 4)) 5 ((h 34) 5))) 38 (h 38)) ((setO_new (by rfl)).trans (setO_cg ((setO_new (by exact fup_self4 (by decide) (by decide) (by decide) (by decide) (by decide) (by decide) rfl rfl rfl rfl)).trans (setO_cg rfl rfl)) rfl)) ?_
  exact L2_1 ((((15 : Int) - 0).toNat) + 1) 0 ((h 34) 3) ((h 34) 4) ((h 34) 5) ((h 34) 2) (h 38) (mendS 15 ((h 34) 3) ((h 34) 4) ((h 34) 5) ((h 34) 2) (h 38)) (7 * h 34 2 - h 34 5 + 15) (by first | omega | (simp [up, setR] <;> omega)) (by first | omega | (simp [up, setR] <;> omega)) (by exact MI_0 hq) (by omega) (by rfl) (Nat.lt_succ_self _)
set_option maxRecDepth 20000 in
theorem c_X8_tell_34 (x b : Int) (h : Hp_) (hx : 0 ≤ x ∧ x < 19) (hb : b = 0 ∨ b = 1) (hst : ∀ j, 0 ≤ j → j < 19 → 0 ≤ (h 36) j ∧ (h 36) j < 47) (hlk : ∀ j, 0 ≤ j → j < 19 → (h 37) j = 0 ∨ (h 37) j = 1) (hq : MQ_ (h 34 3) (h 34 4) (h 34 5) (h 34 2) (h 38)) (ha : 32768 ≤ (h 34 3)) (hn : (h 34 2) ≤ 1019) : Ctr yX8_tell cX8_tell 5 none (rmd 2) ly ly 0 0 [vR 34, vI x, vI b] h (fun r h' => r = none ∧ h' = setO (setO (setO (setO h 34 (fup (fup (fup (fup (h 34) 2 ((tellS ((h 34 3), (h 34 4), (h 34 5), (h 34 2), (h 36), (h 37), (h 38)) x b).2.2.2.1)) 3 ((tellS ((h 34 3), (h 34 4), (h 34 5), (h 34 2), (h 36), (h 37), (h 38)) x b).1)) 4 ((tellS ((h 34 3), (h 34 4), (h 34 5), (h 34 2), (h 36), (h 37), (h 38)) x b).2.1)) 5 ((tellS ((h 34 3), (h 34 4), (h 34 5), (h 34 2), (h 36), (h 37), (h 38)) x b).2.2.1))) 36 ((tellS ((h 34 3), (h 34 4), (h 34 5), (h 34 2), (h 36), (h 37), (h 38)) x b).2.2.2.2.1)) 37 ((tellS ((h 34 3), (h 34 4), (h 34 5), (h 34 2), (h 36), (h 37), (h 38)) x b).2.2.2.2.2.1)) 38 ((tellS ((h 34 3), (h 34 4), (h 34 5), (h 34 2), (h 36), (h 37), (h 38)) x b).2.2.2.2.2.2)) := by
  refine Ctr_of (by decide) (Nat.le_of_ble_eq_true rfl) ⟨Nat.le_refl _, Nat.le_refl _⟩ (fun K hK hQ _ => ?_)
  show TT K ly 0 0 0 [(0, vR 34), (1, vI x), (2, vI b)] [] h
  have hs := hst x hx.1 hx.2
  have ht := (tab_r hs).1
  have hl := hlk x hx.1 hx.2
  have hc := hq.c_r
  have hq2 := hq.2.1
  have hq4 := hq.2.2.2.1
  refine TT_aload_n hK rfl 0 rfl dX8_tell_0 ?_
  refine gf_X8_12 hK (by decide) rfl (q := 35) rfl rfl dX8_tell_1 ?_
  refine TT_iload_n hK rfl 1 rfl dX8_tell_4 ?_
  refine iv_X8_39 hK (c_X2_sizeOf_35 x h (by first | omega | (simp [up, setR] <;> omega)) (by exact hst)) (by decide) rfl ⟨by decide, by decide⟩ (by decide) rfl rfl (Nat.le_of_ble_eq_true rfl) ⟨by decide, by decide⟩ dX8_tell_5 ?_
  intro r9 h9 hp9
  rw [hp9.1, hp9.2]
  show TT K ly 0 0 8 [(0, vR 34), (1, vI x), (2, vI b)] [vI (qS ((h 36) x))] h
  refine TT_istore_n hK rfl (lv' := [(3, vI (qS ((h 36) x))), (0, vR 34), (1, vI x), (2, vI b)]) (by decide) rfl dX8_tell_8 ?_
  refine TT_iload_n hK rfl 3 rfl dX8_tell_9 ?_
  refine TT_aload_n hK rfl 1 rfl dX8_tell_10 ?_
  refine gf_X8_12 hK (by decide) rfl (q := 35) rfl rfl dX8_tell_11 ?_
  refine TT_iload_n hK rfl 2 rfl dX8_tell_14 ?_
  refine iv_X8_43 hK (c_X2_likelyBit_35 x h (by first | omega | (simp [up, setR] <;> omega))) (by decide) rfl ⟨by decide, by decide⟩ (by decide) rfl rfl (Nat.le_of_ble_eq_true rfl) ⟨by decide, by decide⟩ dX8_tell_15 ?_
  intro r9 h9 hp9
  rw [hp9.1, hp9.2]
  show TT K ly 0 0 18 [(3, vI (qS ((h 36) x))), (0, vR 34), (1, vI x), (2, vI b)] [vI ((h 37) x), vI b] h
  refine TT_icmp_ne hK (tgt := 25) (irm (by omega) (by omega)) (irm (by omega) (by omega)) dX8_tell_18 (by decide) (fun hb18 => ?_) (fun hb18 => ?_)
  · refine TT_iconst hK dX8_tell_25 ?_
    refine TT_istore hK (lv' := [(4, vI 0), (3, vI (qS ((h 36) x))), (0, vR 34), (1, vI x), (2, vI b)]) (by decide) rfl dX8_tell_26 ?_
    refine TT_aload_n hK rfl 2 rfl dX8_tell_28 ?_
    refine TT_dup hK rfl dX8_tell_29 ?_
    refine gf_X8_30 hK (by decide) rfl (v := (h 34) 3) rfl dX8_tell_30 ?_
    refine TT_iload_n hK rfl 1 rfl dX8_tell_33 ?_
    refine TT_isub hK dX8_tell_34 ?_
    refine pf_X8_30 hK (by decide) rfl dX8_tell_35 ?_
    refine TT_hp (h' := setO h 34 (fup (h 34) 3 (((h 34) 3) - (qS ((h 36) x))))) (up_can rfl rfl rfl) ?_
    refine TT_iload hK 0 rfl dX8_tell_38 ?_
    refine TT_if_eq hK (tgt := 63) (by decide) dX8_tell_40 (by decide) (fun hb40 => ?_) (fun hb40 => ?_)
    · refine TT_iload hK 0 rfl dX8_tell_63 ?_
      refine TT_aload_n hK rfl 2 rfl dX8_tell_65 ?_
      refine gf_X8_30 hK (by decide) rfl (v := ((h 34) 3) - (qS ((h 36) x))) (rd_ (sOf_eq _ _ _) (fup_eq _ _ _)) dX8_tell_66 ?_
      refine TT_iload_n hK rfl 1 rfl dX8_tell_69 ?_
      refine TT_icmp_ge hK (tgt := 77) (irm (by omega) (by omega)) (irm (by omega) (by omega)) dX8_tell_70 (by decide) (fun hb70 => ?_) (fun hb70 => ?_)
      · refine TT_iconst hK dX8_tell_77 ?_
        refine TT_icmp_ne hK (tgt := 89) (by decide) (by decide) dX8_tell_78 (by decide) (fun hb78 => ?_) (fun hb78 => ?_)
        · exact absurd hb78 (by decide)
        · refine TT_aload_n hK rfl 2 rfl dX8_tell_81 ?_
          refine TT_iload_n hK rfl 1 rfl dX8_tell_82 ?_
          refine pf_X8_30 hK (by decide) rfl dX8_tell_83 ?_
          refine TT_hp (h' := setO h 34 (fup (h 34) 3 (qS ((h 36) x)))) (up_can (sOf_eq _ _ _) (fup_same _ _ _ _) (setO_same _ _ _ _)) ?_
          refine TT_goto hK (tgt := 99) dX8_tell_86 (by decide) ?_
          refine TT_aload_n hK rfl 2 rfl dX8_tell_99 ?_
          refine gf_X8_12 hK (by decide) rfl (q := 35) rfl rfl dX8_tell_100 ?_
          refine TT_iload_n hK rfl 3 rfl dX8_tell_103 ?_
          refine TT_iload_n hK rfl 4 rfl dX8_tell_104 ?_
          have q105_36 : (setO h 34 (fup (h 34) 3 (qS ((h 36) x)))) 36 = h 36 := sOf_ne _ _ (by decide)
          have q105_37 : (setO h 34 (fup (h 34) 3 (qS ((h 36) x)))) 37 = h 37 := sOf_ne _ _ (by decide)
          refine iv_X8_46 hK (c_X2_learn_35 x b (setO h 34 (fup (h 34) 3 (qS ((h 36) x)))) (by first | omega | (simp [up, setR] <;> omega)) (by first | omega | (simp [up, setR] <;> omega)) (by rw [q105_36]; exact hst) (by rw [q105_37]; exact hlk)) (by decide) rfl ⟨by decide, by decide⟩ (by decide) rfl rfl (Nat.le_of_ble_eq_true rfl) ⟨by decide, by decide⟩ dX8_tell_105 ?_
          intro r9 h9 hp9
          rw [q105_36, q105_37] at hp9
          rw [hp9.1, hp9.2]
          show TT K ly 0 0 108 [(4, vI 0), (3, vI (qS ((h 36) x))), (0, vR 34), (1, vI x), (2, vI b)] [] (setO (setO (setO h 34 (fup (h 34) 3 (qS ((h 36) x)))) 36 (lrS (h 36) x (b ≠ (h 37) x))) 37 (lrL (h 36) (h 37) x (b ≠ (h 37) x)))
          have hq9 : MQ_ (qS ((h 36) x)) ((h 34) 4) (h 34 5) (h 34 2) (h 38) := MQ_tell (x := x) (st := h 36) (P := (b = h 37 x ↔ h 34 3 - qS (h 36 x) < qS (h 36 x))) hq ha hs (by first | exact (if_pos (by omega)).symm | exact (if_neg (by omega)).symm) (by first | exact (if_pos (by omega)).symm | exact (if_neg (by omega)).symm)
          have eT := tellS_m (a := h 34 3) (c := h 34 4) (t := h 34 5) (n := h 34 2) (o := h 38) (st := h 36) (lk := h 37) (x := x) (b := b) (P := (b ≠ h 37 x)) (a2 := qS ((h 36) x)) (c2 := (h 34) 4) (by omega) (by first | exact (if_pos (by omega)).symm | exact (if_neg (by omega)).symm) (by first | exact (if_pos (by omega)).symm | exact (if_neg (by omega)).symm) Iff.rfl
          refine TT_aload_n hK rfl 2 rfl dX8_tell_108 ?_
          have q109_34_2 : (setO (setO (setO h 34 (fup (h 34) 3 (qS ((h 36) x)))) 36 (lrS (h 36) x (b ≠ (h 37) x))) 37 (lrL (h 36) (h 37) x (b ≠ (h 37) x))) 34 2 = (h 34) 2 := rd_ ((sOf_ne _ _ (by decide)).trans ((sOf_ne _ _ (by decide)).trans (sOf_eq _ _ _))) (fup_ne _ _ (by decide))
          have q109_34_3 : (setO (setO (setO h 34 (fup (h 34) 3 (qS ((h 36) x)))) 36 (lrS (h 36) x (b ≠ (h 37) x))) 37 (lrL (h 36) (h 37) x (b ≠ (h 37) x))) 34 3 = qS ((h 36) x) := rd_ ((sOf_ne _ _ (by decide)).trans ((sOf_ne _ _ (by decide)).trans (sOf_eq _ _ _))) (fup_eq _ _ _)
          have q109_34_4 : (setO (setO (setO h 34 (fup (h 34) 3 (qS ((h 36) x)))) 36 (lrS (h 36) x (b ≠ (h 37) x))) 37 (lrL (h 36) (h 37) x (b ≠ (h 37) x))) 34 4 = (h 34) 4 := rd_ ((sOf_ne _ _ (by decide)).trans ((sOf_ne _ _ (by decide)).trans (sOf_eq _ _ _))) (fup_ne _ _ (by decide))
          have q109_34_5 : (setO (setO (setO h 34 (fup (h 34) 3 (qS ((h 36) x)))) 36 (lrS (h 36) x (b ≠ (h 37) x))) 37 (lrL (h 36) (h 37) x (b ≠ (h 37) x))) 34 5 = (h 34) 5 := rd_ ((sOf_ne _ _ (by decide)).trans ((sOf_ne _ _ (by decide)).trans (sOf_eq _ _ _))) (fup_ne _ _ (by decide))
          have q109_34 : (setO (setO (setO h 34 (fup (h 34) 3 (qS ((h 36) x)))) 36 (lrS (h 36) x (b ≠ (h 37) x))) 37 (lrL (h 36) (h 37) x (b ≠ (h 37) x))) 34 = fup (h 34) 3 (qS ((h 36) x)) := (sOf_ne _ _ (by decide)).trans ((sOf_ne _ _ (by decide)).trans (sOf_eq _ _ _))
          have q109_38 : (setO (setO (setO h 34 (fup (h 34) 3 (qS ((h 36) x)))) 36 (lrS (h 36) x (b ≠ (h 37) x))) 37 (lrL (h 36) (h 37) x (b ≠ (h 37) x))) 38 = h 38 := (sOf_ne _ _ (by decide)).trans ((sOf_ne _ _ (by decide)).trans (sOf_ne _ _ (by decide)))
          refine iv_X8_50 hK (c_X8_mend_34 (setO (setO (setO h 34 (fup (h 34) 3 (qS ((h 36) x)))) 36 (lrS (h 36) x (b ≠ (h 37) x))) 37 (lrL (h 36) (h 37) x (b ≠ (h 37) x))) (by rw [q109_34_2, q109_34_3, q109_34_4, q109_34_5, q109_38]; first | omega | (simp [up, setR] <;> omega)) (by rw [q109_34_2]; first | omega | (simp [up, setR] <;> omega))) (by decide) rfl ⟨by decide, by decide⟩ (by decide) rfl rfl (Nat.le_of_ble_eq_true rfl) ⟨by decide, by decide⟩ dX8_tell_109 ?_
          intro r9 h9 hp9
          rw [q109_34_2, q109_34_3, q109_34_4, q109_34_5, q109_34, q109_38] at hp9
          rw [hp9.1, hp9.2]
          refine TT_hp (h' := setO (setO (setO (setO h 34 (fup (fup (fup (fup (h 34) 2 ((mendS 15 (qS ((h 36) x)) ((h 34) 4) ((h 34) 5) ((h 34) 2) (h 38)).2.2.2.1)) 3 ((mendS 15 (qS ((h 36) x)) ((h 34) 4) ((h 34) 5) ((h 34) 2) (h 38)).1)) 4 ((mendS 15 (qS ((h 36) x)) ((h 34) 4) ((h 34) 5) ((h 34) 2) (h 38)).2.1)) 5 ((mendS 15 (qS ((h 36) x)) ((h 34) 4) ((h 34) 5) ((h 34) 2) (h 38)).2.2.1))) 36 (lrS (h 36) x (b ≠ (h 37) x))) 37 (lrL (h 36) (h 37) x (b ≠ (h 37) x))) 38 ((mendS 15 (qS ((h 36) x)) ((h 34) 4) ((h 34) 5) ((h 34) 2) (h 38)).2.2.2.2)) ((setO_cg ((setO_cg rfl (fup_cg (fup_cg ((fup_cg (fup_comm _ _ _ (by decide))).trans (fup_same _ _ _ _))))).trans ((setO_comm _ _ _ (by decide)).trans (setO_cg ((setO_comm _ _ _ (by decide)).trans (setO_cg (setO_same _ _ _ _) rfl)) rfl))) rfl)) ?_
          show TT K ly 0 0 112 [(4, vI 0), (3, vI (qS ((h 36) x))), (0, vR 34), (1, vI x), (2, vI b)] [] (setO (setO (setO (setO h 34 (fup (fup (fup (fup (h 34) 2 ((mendS 15 (qS ((h 36) x)) ((h 34) 4) ((h 34) 5) ((h 34) 2) (h 38)).2.2.2.1)) 3 ((mendS 15 (qS ((h 36) x)) ((h 34) 4) ((h 34) 5) ((h 34) 2) (h 38)).1)) 4 ((mendS 15 (qS ((h 36) x)) ((h 34) 4) ((h 34) 5) ((h 34) 2) (h 38)).2.1)) 5 ((mendS 15 (qS ((h 36) x)) ((h 34) 4) ((h 34) 5) ((h 34) 2) (h 38)).2.2.1))) 36 (lrS (h 36) x (b ≠ (h 37) x))) 37 (lrL (h 36) (h 37) x (b ≠ (h 37) x))) 38 ((mendS 15 (qS ((h 36) x)) ((h 34) 4) ((h 34) 5) ((h 34) 2) (h 38)).2.2.2.2))
          refine TT_vret hK hQ ?_ dX8_tell_112
          exact ⟨rfl, setO_cg (setO_cg (setO_cg (setO_cg rfl (by rw [eT])) (by rw [eT])) (by rw [eT])) (by rw [eT])⟩
      · refine TT_iconst hK dX8_tell_73 ?_
        refine TT_goto hK (tgt := 78) dX8_tell_74 (by decide) ?_
        refine TT_icmp_ne hK (tgt := 89) (by decide) (by decide) dX8_tell_78 (by decide) (fun hb78 => ?_) (fun hb78 => ?_)
        · refine TT_aload_n hK rfl 2 rfl dX8_tell_89 ?_
          refine TT_dup hK rfl dX8_tell_90 ?_
          refine gf_X8_33 hK (by decide) rfl (v := (h 34) 4) (rd_ (sOf_eq _ _ _) (fup_ne _ _ (by decide))) dX8_tell_91 ?_
          refine TT_iload_n hK rfl 1 rfl dX8_tell_94 ?_
          refine TT_iadd hK dX8_tell_95 ?_
          refine pf_X8_33 hK (by decide) rfl dX8_tell_96 ?_
          refine TT_hp (h' := setO h 34 (fup (fup (h 34) 3 (((h 34) 3) - (qS ((h 36) x)))) 4 (((h 34) 4) + (qS ((h 36) x))))) (up_can (sOf_eq _ _ _) rfl (setO_same _ _ _ _)) ?_
          refine TT_aload_n hK rfl 2 rfl dX8_tell_99 ?_
          refine gf_X8_12 hK (by decide) rfl (q := 35) rfl rfl dX8_tell_100 ?_
          refine TT_iload_n hK rfl 3 rfl dX8_tell_103 ?_
          refine TT_iload_n hK rfl 4 rfl dX8_tell_104 ?_
          have q105_36 : (setO h 34 (fup (fup (h 34) 3 (((h 34) 3) - (qS ((h 36) x)))) 4 (((h 34) 4) + (qS ((h 36) x))))) 36 = h 36 := sOf_ne _ _ (by decide)
          have q105_37 : (setO h 34 (fup (fup (h 34) 3 (((h 34) 3) - (qS ((h 36) x)))) 4 (((h 34) 4) + (qS ((h 36) x))))) 37 = h 37 := sOf_ne _ _ (by decide)
          refine iv_X8_46 hK (c_X2_learn_35 x b (setO h 34 (fup (fup (h 34) 3 (((h 34) 3) - (qS ((h 36) x)))) 4 (((h 34) 4) + (qS ((h 36) x))))) (by first | omega | (simp [up, setR] <;> omega)) (by first | omega | (simp [up, setR] <;> omega)) (by rw [q105_36]; exact hst) (by rw [q105_37]; exact hlk)) (by decide) rfl ⟨by decide, by decide⟩ (by decide) rfl rfl (Nat.le_of_ble_eq_true rfl) ⟨by decide, by decide⟩ dX8_tell_105 ?_
          intro r9 h9 hp9
          rw [q105_36, q105_37] at hp9
          rw [hp9.1, hp9.2]
          show TT K ly 0 0 108 [(4, vI 0), (3, vI (qS ((h 36) x))), (0, vR 34), (1, vI x), (2, vI b)] [] (setO (setO (setO h 34 (fup (fup (h 34) 3 (((h 34) 3) - (qS ((h 36) x)))) 4 (((h 34) 4) + (qS ((h 36) x))))) 36 (lrS (h 36) x (b ≠ (h 37) x))) 37 (lrL (h 36) (h 37) x (b ≠ (h 37) x)))
          have hq9 : MQ_ (((h 34) 3) - (qS ((h 36) x))) (((h 34) 4) + (qS ((h 36) x))) (h 34 5) (h 34 2) (h 38) := MQ_tell (x := x) (st := h 36) (P := (b = h 37 x ↔ h 34 3 - qS (h 36 x) < qS (h 36 x))) hq ha hs (by first | exact (if_pos (by omega)).symm | exact (if_neg (by omega)).symm) (by first | exact (if_pos (by omega)).symm | exact (if_neg (by omega)).symm)
          have eT := tellS_m (a := h 34 3) (c := h 34 4) (t := h 34 5) (n := h 34 2) (o := h 38) (st := h 36) (lk := h 37) (x := x) (b := b) (P := (b ≠ h 37 x)) (a2 := ((h 34) 3) - (qS ((h 36) x))) (c2 := ((h 34) 4) + (qS ((h 36) x))) (by omega) (by first | exact (if_pos (by omega)).symm | exact (if_neg (by omega)).symm) (by first | exact (if_pos (by omega)).symm | exact (if_neg (by omega)).symm) Iff.rfl
          refine TT_aload_n hK rfl 2 rfl dX8_tell_108 ?_
          have q109_34_2 : (setO (setO (setO h 34 (fup (fup (h 34) 3 (((h 34) 3) - (qS ((h 36) x)))) 4 (((h 34) 4) + (qS ((h 36) x))))) 36 (lrS (h 36) x (b ≠ (h 37) x))) 37 (lrL (h 36) (h 37) x (b ≠ (h 37) x))) 34 2 = (h 34) 2 := rd_ ((sOf_ne _ _ (by decide)).trans ((sOf_ne _ _ (by decide)).trans (sOf_eq _ _ _))) ((fup_ne _ _ (by decide)).trans (fup_ne _ _ (by decide)))
          have q109_34_3 : (setO (setO (setO h 34 (fup (fup (h 34) 3 (((h 34) 3) - (qS ((h 36) x)))) 4 (((h 34) 4) + (qS ((h 36) x))))) 36 (lrS (h 36) x (b ≠ (h 37) x))) 37 (lrL (h 36) (h 37) x (b ≠ (h 37) x))) 34 3 = ((h 34) 3) - (qS ((h 36) x)) := rd_ ((sOf_ne _ _ (by decide)).trans ((sOf_ne _ _ (by decide)).trans (sOf_eq _ _ _))) ((fup_ne _ _ (by decide)).trans (fup_eq _ _ _))
          have q109_34_4 : (setO (setO (setO h 34 (fup (fup (h 34) 3 (((h 34) 3) - (qS ((h 36) x)))) 4 (((h 34) 4) + (qS ((h 36) x))))) 36 (lrS (h 36) x (b ≠ (h 37) x))) 37 (lrL (h 36) (h 37) x (b ≠ (h 37) x))) 34 4 = ((h 34) 4) + (qS ((h 36) x)) := rd_ ((sOf_ne _ _ (by decide)).trans ((sOf_ne _ _ (by decide)).trans (sOf_eq _ _ _))) (fup_eq _ _ _)
          have q109_34_5 : (setO (setO (setO h 34 (fup (fup (h 34) 3 (((h 34) 3) - (qS ((h 36) x)))) 4 (((h 34) 4) + (qS ((h 36) x))))) 36 (lrS (h 36) x (b ≠ (h 37) x))) 37 (lrL (h 36) (h 37) x (b ≠ (h 37) x))) 34 5 = (h 34) 5 := rd_ ((sOf_ne _ _ (by decide)).trans ((sOf_ne _ _ (by decide)).trans (sOf_eq _ _ _))) ((fup_ne _ _ (by decide)).trans (fup_ne _ _ (by decide)))
          have q109_34 : (setO (setO (setO h 34 (fup (fup (h 34) 3 (((h 34) 3) - (qS ((h 36) x)))) 4 (((h 34) 4) + (qS ((h 36) x))))) 36 (lrS (h 36) x (b ≠ (h 37) x))) 37 (lrL (h 36) (h 37) x (b ≠ (h 37) x))) 34 = fup (fup (h 34) 3 (((h 34) 3) - (qS ((h 36) x)))) 4 (((h 34) 4) + (qS ((h 36) x))) := (sOf_ne _ _ (by decide)).trans ((sOf_ne _ _ (by decide)).trans (sOf_eq _ _ _))
          have q109_38 : (setO (setO (setO h 34 (fup (fup (h 34) 3 (((h 34) 3) - (qS ((h 36) x)))) 4 (((h 34) 4) + (qS ((h 36) x))))) 36 (lrS (h 36) x (b ≠ (h 37) x))) 37 (lrL (h 36) (h 37) x (b ≠ (h 37) x))) 38 = h 38 := (sOf_ne _ _ (by decide)).trans ((sOf_ne _ _ (by decide)).trans (sOf_ne _ _ (by decide)))
          refine iv_X8_50 hK (c_X8_mend_34 (setO (setO (setO h 34 (fup (fup (h 34) 3 (((h 34) 3) - (qS ((h 36) x)))) 4 (((h 34) 4) + (qS ((h 36) x))))) 36 (lrS (h 36) x (b ≠ (h 37) x))) 37 (lrL (h 36) (h 37) x (b ≠ (h 37) x))) (by rw [q109_34_2, q109_34_3, q109_34_4, q109_34_5, q109_38]; first | omega | (simp [up, setR] <;> omega)) (by rw [q109_34_2]; first | omega | (simp [up, setR] <;> omega))) (by decide) rfl ⟨by decide, by decide⟩ (by decide) rfl rfl (Nat.le_of_ble_eq_true rfl) ⟨by decide, by decide⟩ dX8_tell_109 ?_
          intro r9 h9 hp9
          rw [q109_34_2, q109_34_3, q109_34_4, q109_34_5, q109_34, q109_38] at hp9
          rw [hp9.1, hp9.2]
          refine TT_hp (h' := setO (setO (setO (setO h 34 (fup (fup (fup (fup (h 34) 2 ((mendS 15 (((h 34) 3) - (qS ((h 36) x))) (((h 34) 4) + (qS ((h 36) x))) ((h 34) 5) ((h 34) 2) (h 38)).2.2.2.1)) 3 ((mendS 15 (((h 34) 3) - (qS ((h 36) x))) (((h 34) 4) + (qS ((h 36) x))) ((h 34) 5) ((h 34) 2) (h 38)).1)) 4 ((mendS 15 (((h 34) 3) - (qS ((h 36) x))) (((h 34) 4) + (qS ((h 36) x))) ((h 34) 5) ((h 34) 2) (h 38)).2.1)) 5 ((mendS 15 (((h 34) 3) - (qS ((h 36) x))) (((h 34) 4) + (qS ((h 36) x))) ((h 34) 5) ((h 34) 2) (h 38)).2.2.1))) 36 (lrS (h 36) x (b ≠ (h 37) x))) 37 (lrL (h 36) (h 37) x (b ≠ (h 37) x))) 38 ((mendS 15 (((h 34) 3) - (qS ((h 36) x))) (((h 34) 4) + (qS ((h 36) x))) ((h 34) 5) ((h 34) 2) (h 38)).2.2.2.2)) ((setO_cg ((setO_cg rfl (fup_cg ((fup_cg ((fup_cg ((fup_comm _ _ _ (by decide)).trans (fup_cg (fup_comm _ _ _ (by decide))))).trans ((fup_comm _ _ _ (by decide)).trans (fup_cg (fup_same _ _ _ _))))).trans (fup_same _ _ _ _)))).trans ((setO_comm _ _ _ (by decide)).trans (setO_cg ((setO_comm _ _ _ (by decide)).trans (setO_cg (setO_same _ _ _ _) rfl)) rfl))) rfl)) ?_
          show TT K ly 0 0 112 [(4, vI 0), (3, vI (qS ((h 36) x))), (0, vR 34), (1, vI x), (2, vI b)] [] (setO (setO (setO (setO h 34 (fup (fup (fup (fup (h 34) 2 ((mendS 15 (((h 34) 3) - (qS ((h 36) x))) (((h 34) 4) + (qS ((h 36) x))) ((h 34) 5) ((h 34) 2) (h 38)).2.2.2.1)) 3 ((mendS 15 (((h 34) 3) - (qS ((h 36) x))) (((h 34) 4) + (qS ((h 36) x))) ((h 34) 5) ((h 34) 2) (h 38)).1)) 4 ((mendS 15 (((h 34) 3) - (qS ((h 36) x))) (((h 34) 4) + (qS ((h 36) x))) ((h 34) 5) ((h 34) 2) (h 38)).2.1)) 5 ((mendS 15 (((h 34) 3) - (qS ((h 36) x))) (((h 34) 4) + (qS ((h 36) x))) ((h 34) 5) ((h 34) 2) (h 38)).2.2.1))) 36 (lrS (h 36) x (b ≠ (h 37) x))) 37 (lrL (h 36) (h 37) x (b ≠ (h 37) x))) 38 ((mendS 15 (((h 34) 3) - (qS ((h 36) x))) (((h 34) 4) + (qS ((h 36) x))) ((h 34) 5) ((h 34) 2) (h 38)).2.2.2.2))
          refine TT_vret hK hQ ?_ dX8_tell_112
          exact ⟨rfl, setO_cg (setO_cg (setO_cg (setO_cg rfl (by rw [eT])) (by rw [eT])) (by rw [eT])) (by rw [eT])⟩
        · exact absurd hb78 (by decide)
    · exact absurd hb40 (by decide)
  · refine TT_iconst hK dX8_tell_21 ?_
    refine TT_goto hK (tgt := 26) dX8_tell_22 (by decide) ?_
    refine TT_istore hK (lv' := [(4, vI 1), (3, vI (qS ((h 36) x))), (0, vR 34), (1, vI x), (2, vI b)]) (by decide) rfl dX8_tell_26 ?_
    refine TT_aload_n hK rfl 2 rfl dX8_tell_28 ?_
    refine TT_dup hK rfl dX8_tell_29 ?_
    refine gf_X8_30 hK (by decide) rfl (v := (h 34) 3) rfl dX8_tell_30 ?_
    refine TT_iload_n hK rfl 1 rfl dX8_tell_33 ?_
    refine TT_isub hK dX8_tell_34 ?_
    refine pf_X8_30 hK (by decide) rfl dX8_tell_35 ?_
    refine TT_hp (h' := setO h 34 (fup (h 34) 3 (((h 34) 3) - (qS ((h 36) x))))) (up_can rfl rfl rfl) ?_
    refine TT_iload hK 0 rfl dX8_tell_38 ?_
    refine TT_if_eq hK (tgt := 63) (by decide) dX8_tell_40 (by decide) (fun hb40 => ?_) (fun hb40 => ?_)
    · exact absurd hb40 (by decide)
    · refine TT_aload_n hK rfl 2 rfl dX8_tell_43 ?_
      refine gf_X8_30 hK (by decide) rfl (v := ((h 34) 3) - (qS ((h 36) x))) (rd_ (sOf_eq _ _ _) (fup_eq _ _ _)) dX8_tell_44 ?_
      refine TT_ldc hK lc_X8_29 dX8_tell_47 ?_
      refine TT_icmp_lt hK (tgt := 63) (irm (by omega) (by omega)) (by decide) dX8_tell_49 (by decide) (fun hb49 => ?_) (fun hb49 => ?_)
      · refine TT_iload hK 0 rfl dX8_tell_63 ?_
        refine TT_aload_n hK rfl 2 rfl dX8_tell_65 ?_
        refine gf_X8_30 hK (by decide) rfl (v := ((h 34) 3) - (qS ((h 36) x))) (rd_ (sOf_eq _ _ _) (fup_eq _ _ _)) dX8_tell_66 ?_
        refine TT_iload_n hK rfl 1 rfl dX8_tell_69 ?_
        refine TT_icmp_ge hK (tgt := 77) (irm (by omega) (by omega)) (irm (by omega) (by omega)) dX8_tell_70 (by decide) (fun hb70 => ?_) (fun hb70 => ?_)
        · refine TT_iconst hK dX8_tell_77 ?_
          refine TT_icmp_ne hK (tgt := 89) (by decide) (by decide) dX8_tell_78 (by decide) (fun hb78 => ?_) (fun hb78 => ?_)
          · refine TT_aload_n hK rfl 2 rfl dX8_tell_89 ?_
            refine TT_dup hK rfl dX8_tell_90 ?_
            refine gf_X8_33 hK (by decide) rfl (v := (h 34) 4) (rd_ (sOf_eq _ _ _) (fup_ne _ _ (by decide))) dX8_tell_91 ?_
            refine TT_iload_n hK rfl 1 rfl dX8_tell_94 ?_
            refine TT_iadd hK dX8_tell_95 ?_
            refine pf_X8_33 hK (by decide) rfl dX8_tell_96 ?_
            refine TT_hp (h' := setO h 34 (fup (fup (h 34) 3 (((h 34) 3) - (qS ((h 36) x)))) 4 (((h 34) 4) + (qS ((h 36) x))))) (up_can (sOf_eq _ _ _) rfl (setO_same _ _ _ _)) ?_
            refine TT_aload_n hK rfl 2 rfl dX8_tell_99 ?_
            refine gf_X8_12 hK (by decide) rfl (q := 35) rfl rfl dX8_tell_100 ?_
            refine TT_iload_n hK rfl 3 rfl dX8_tell_103 ?_
            refine TT_iload_n hK rfl 4 rfl dX8_tell_104 ?_
            have q105_36 : (setO h 34 (fup (fup (h 34) 3 (((h 34) 3) - (qS ((h 36) x)))) 4 (((h 34) 4) + (qS ((h 36) x))))) 36 = h 36 := sOf_ne _ _ (by decide)
            have q105_37 : (setO h 34 (fup (fup (h 34) 3 (((h 34) 3) - (qS ((h 36) x)))) 4 (((h 34) 4) + (qS ((h 36) x))))) 37 = h 37 := sOf_ne _ _ (by decide)
            refine iv_X8_46 hK (c_X2_learn_35 x b (setO h 34 (fup (fup (h 34) 3 (((h 34) 3) - (qS ((h 36) x)))) 4 (((h 34) 4) + (qS ((h 36) x))))) (by first | omega | (simp [up, setR] <;> omega)) (by first | omega | (simp [up, setR] <;> omega)) (by rw [q105_36]; exact hst) (by rw [q105_37]; exact hlk)) (by decide) rfl ⟨by decide, by decide⟩ (by decide) rfl rfl (Nat.le_of_ble_eq_true rfl) ⟨by decide, by decide⟩ dX8_tell_105 ?_
            intro r9 h9 hp9
            rw [q105_36, q105_37] at hp9
            rw [hp9.1, hp9.2]
            show TT K ly 0 0 108 [(4, vI 1), (3, vI (qS ((h 36) x))), (0, vR 34), (1, vI x), (2, vI b)] [] (setO (setO (setO h 34 (fup (fup (h 34) 3 (((h 34) 3) - (qS ((h 36) x)))) 4 (((h 34) 4) + (qS ((h 36) x))))) 36 (lrS (h 36) x (b ≠ (h 37) x))) 37 (lrL (h 36) (h 37) x (b ≠ (h 37) x)))
            have hq9 : MQ_ (((h 34) 3) - (qS ((h 36) x))) (((h 34) 4) + (qS ((h 36) x))) (h 34 5) (h 34 2) (h 38) := MQ_tell (x := x) (st := h 36) (P := (b = h 37 x ↔ h 34 3 - qS (h 36 x) < qS (h 36 x))) hq ha hs (by first | exact (if_pos (by omega)).symm | exact (if_neg (by omega)).symm) (by first | exact (if_pos (by omega)).symm | exact (if_neg (by omega)).symm)
            have eT := tellS_m (a := h 34 3) (c := h 34 4) (t := h 34 5) (n := h 34 2) (o := h 38) (st := h 36) (lk := h 37) (x := x) (b := b) (P := (b ≠ h 37 x)) (a2 := ((h 34) 3) - (qS ((h 36) x))) (c2 := ((h 34) 4) + (qS ((h 36) x))) (by omega) (by first | exact (if_pos (by omega)).symm | exact (if_neg (by omega)).symm) (by first | exact (if_pos (by omega)).symm | exact (if_neg (by omega)).symm) Iff.rfl
            refine TT_aload_n hK rfl 2 rfl dX8_tell_108 ?_
            have q109_34_2 : (setO (setO (setO h 34 (fup (fup (h 34) 3 (((h 34) 3) - (qS ((h 36) x)))) 4 (((h 34) 4) + (qS ((h 36) x))))) 36 (lrS (h 36) x (b ≠ (h 37) x))) 37 (lrL (h 36) (h 37) x (b ≠ (h 37) x))) 34 2 = (h 34) 2 := rd_ ((sOf_ne _ _ (by decide)).trans ((sOf_ne _ _ (by decide)).trans (sOf_eq _ _ _))) ((fup_ne _ _ (by decide)).trans (fup_ne _ _ (by decide)))
            have q109_34_3 : (setO (setO (setO h 34 (fup (fup (h 34) 3 (((h 34) 3) - (qS ((h 36) x)))) 4 (((h 34) 4) + (qS ((h 36) x))))) 36 (lrS (h 36) x (b ≠ (h 37) x))) 37 (lrL (h 36) (h 37) x (b ≠ (h 37) x))) 34 3 = ((h 34) 3) - (qS ((h 36) x)) := rd_ ((sOf_ne _ _ (by decide)).trans ((sOf_ne _ _ (by decide)).trans (sOf_eq _ _ _))) ((fup_ne _ _ (by decide)).trans (fup_eq _ _ _))
            have q109_34_4 : (setO (setO (setO h 34 (fup (fup (h 34) 3 (((h 34) 3) - (qS ((h 36) x)))) 4 (((h 34) 4) + (qS ((h 36) x))))) 36 (lrS (h 36) x (b ≠ (h 37) x))) 37 (lrL (h 36) (h 37) x (b ≠ (h 37) x))) 34 4 = ((h 34) 4) + (qS ((h 36) x)) := rd_ ((sOf_ne _ _ (by decide)).trans ((sOf_ne _ _ (by decide)).trans (sOf_eq _ _ _))) (fup_eq _ _ _)
            have q109_34_5 : (setO (setO (setO h 34 (fup (fup (h 34) 3 (((h 34) 3) - (qS ((h 36) x)))) 4 (((h 34) 4) + (qS ((h 36) x))))) 36 (lrS (h 36) x (b ≠ (h 37) x))) 37 (lrL (h 36) (h 37) x (b ≠ (h 37) x))) 34 5 = (h 34) 5 := rd_ ((sOf_ne _ _ (by decide)).trans ((sOf_ne _ _ (by decide)).trans (sOf_eq _ _ _))) ((fup_ne _ _ (by decide)).trans (fup_ne _ _ (by decide)))
            have q109_34 : (setO (setO (setO h 34 (fup (fup (h 34) 3 (((h 34) 3) - (qS ((h 36) x)))) 4 (((h 34) 4) + (qS ((h 36) x))))) 36 (lrS (h 36) x (b ≠ (h 37) x))) 37 (lrL (h 36) (h 37) x (b ≠ (h 37) x))) 34 = fup (fup (h 34) 3 (((h 34) 3) - (qS ((h 36) x)))) 4 (((h 34) 4) + (qS ((h 36) x))) := (sOf_ne _ _ (by decide)).trans ((sOf_ne _ _ (by decide)).trans (sOf_eq _ _ _))
            have q109_38 : (setO (setO (setO h 34 (fup (fup (h 34) 3 (((h 34) 3) - (qS ((h 36) x)))) 4 (((h 34) 4) + (qS ((h 36) x))))) 36 (lrS (h 36) x (b ≠ (h 37) x))) 37 (lrL (h 36) (h 37) x (b ≠ (h 37) x))) 38 = h 38 := (sOf_ne _ _ (by decide)).trans ((sOf_ne _ _ (by decide)).trans (sOf_ne _ _ (by decide)))
            refine iv_X8_50 hK (c_X8_mend_34 (setO (setO (setO h 34 (fup (fup (h 34) 3 (((h 34) 3) - (qS ((h 36) x)))) 4 (((h 34) 4) + (qS ((h 36) x))))) 36 (lrS (h 36) x (b ≠ (h 37) x))) 37 (lrL (h 36) (h 37) x (b ≠ (h 37) x))) (by rw [q109_34_2, q109_34_3, q109_34_4, q109_34_5, q109_38]; first | omega | (simp [up, setR] <;> omega)) (by rw [q109_34_2]; first | omega | (simp [up, setR] <;> omega))) (by decide) rfl ⟨by decide, by decide⟩ (by decide) rfl rfl (Nat.le_of_ble_eq_true rfl) ⟨by decide, by decide⟩ dX8_tell_109 ?_
            intro r9 h9 hp9
            rw [q109_34_2, q109_34_3, q109_34_4, q109_34_5, q109_34, q109_38] at hp9
            rw [hp9.1, hp9.2]
            refine TT_hp (h' := setO (setO (setO (setO h 34 (fup (fup (fup (fup (h 34) 2 ((mendS 15 (((h 34) 3) - (qS ((h 36) x))) (((h 34) 4) + (qS ((h 36) x))) ((h 34) 5) ((h 34) 2) (h 38)).2.2.2.1)) 3 ((mendS 15 (((h 34) 3) - (qS ((h 36) x))) (((h 34) 4) + (qS ((h 36) x))) ((h 34) 5) ((h 34) 2) (h 38)).1)) 4 ((mendS 15 (((h 34) 3) - (qS ((h 36) x))) (((h 34) 4) + (qS ((h 36) x))) ((h 34) 5) ((h 34) 2) (h 38)).2.1)) 5 ((mendS 15 (((h 34) 3) - (qS ((h 36) x))) (((h 34) 4) + (qS ((h 36) x))) ((h 34) 5) ((h 34) 2) (h 38)).2.2.1))) 36 (lrS (h 36) x (b ≠ (h 37) x))) 37 (lrL (h 36) (h 37) x (b ≠ (h 37) x))) 38 ((mendS 15 (((h 34) 3) - (qS ((h 36) x))) (((h 34) 4) + (qS ((h 36) x))) ((h 34) 5) ((h 34) 2) (h 38)).2.2.2.2)) ((setO_cg ((setO_cg rfl (fup_cg ((fup_cg ((fup_cg ((fup_comm _ _ _ (by decide)).trans (fup_cg (fup_comm _ _ _ (by decide))))).trans ((fup_comm _ _ _ (by decide)).trans (fup_cg (fup_same _ _ _ _))))).trans (fup_same _ _ _ _)))).trans ((setO_comm _ _ _ (by decide)).trans (setO_cg ((setO_comm _ _ _ (by decide)).trans (setO_cg (setO_same _ _ _ _) rfl)) rfl))) rfl)) ?_
            show TT K ly 0 0 112 [(4, vI 1), (3, vI (qS ((h 36) x))), (0, vR 34), (1, vI x), (2, vI b)] [] (setO (setO (setO (setO h 34 (fup (fup (fup (fup (h 34) 2 ((mendS 15 (((h 34) 3) - (qS ((h 36) x))) (((h 34) 4) + (qS ((h 36) x))) ((h 34) 5) ((h 34) 2) (h 38)).2.2.2.1)) 3 ((mendS 15 (((h 34) 3) - (qS ((h 36) x))) (((h 34) 4) + (qS ((h 36) x))) ((h 34) 5) ((h 34) 2) (h 38)).1)) 4 ((mendS 15 (((h 34) 3) - (qS ((h 36) x))) (((h 34) 4) + (qS ((h 36) x))) ((h 34) 5) ((h 34) 2) (h 38)).2.1)) 5 ((mendS 15 (((h 34) 3) - (qS ((h 36) x))) (((h 34) 4) + (qS ((h 36) x))) ((h 34) 5) ((h 34) 2) (h 38)).2.2.1))) 36 (lrS (h 36) x (b ≠ (h 37) x))) 37 (lrL (h 36) (h 37) x (b ≠ (h 37) x))) 38 ((mendS 15 (((h 34) 3) - (qS ((h 36) x))) (((h 34) 4) + (qS ((h 36) x))) ((h 34) 5) ((h 34) 2) (h 38)).2.2.2.2))
            refine TT_vret hK hQ ?_ dX8_tell_112
            exact ⟨rfl, setO_cg (setO_cg (setO_cg (setO_cg rfl (by rw [eT])) (by rw [eT])) (by rw [eT])) (by rw [eT])⟩
          · exact absurd hb78 (by decide)
        · refine TT_iconst hK dX8_tell_73 ?_
          refine TT_goto hK (tgt := 78) dX8_tell_74 (by decide) ?_
          refine TT_icmp_ne hK (tgt := 89) (by decide) (by decide) dX8_tell_78 (by decide) (fun hb78 => ?_) (fun hb78 => ?_)
          · exact absurd hb78 (by decide)
          · refine TT_aload_n hK rfl 2 rfl dX8_tell_81 ?_
            refine TT_iload_n hK rfl 1 rfl dX8_tell_82 ?_
            refine pf_X8_30 hK (by decide) rfl dX8_tell_83 ?_
            refine TT_hp (h' := setO h 34 (fup (h 34) 3 (qS ((h 36) x)))) (up_can (sOf_eq _ _ _) (fup_same _ _ _ _) (setO_same _ _ _ _)) ?_
            refine TT_goto hK (tgt := 99) dX8_tell_86 (by decide) ?_
            refine TT_aload_n hK rfl 2 rfl dX8_tell_99 ?_
            refine gf_X8_12 hK (by decide) rfl (q := 35) rfl rfl dX8_tell_100 ?_
            refine TT_iload_n hK rfl 3 rfl dX8_tell_103 ?_
            refine TT_iload_n hK rfl 4 rfl dX8_tell_104 ?_
            have q105_36 : (setO h 34 (fup (h 34) 3 (qS ((h 36) x)))) 36 = h 36 := sOf_ne _ _ (by decide)
            have q105_37 : (setO h 34 (fup (h 34) 3 (qS ((h 36) x)))) 37 = h 37 := sOf_ne _ _ (by decide)
            refine iv_X8_46 hK (c_X2_learn_35 x b (setO h 34 (fup (h 34) 3 (qS ((h 36) x)))) (by first | omega | (simp [up, setR] <;> omega)) (by first | omega | (simp [up, setR] <;> omega)) (by rw [q105_36]; exact hst) (by rw [q105_37]; exact hlk)) (by decide) rfl ⟨by decide, by decide⟩ (by decide) rfl rfl (Nat.le_of_ble_eq_true rfl) ⟨by decide, by decide⟩ dX8_tell_105 ?_
            intro r9 h9 hp9
            rw [q105_36, q105_37] at hp9
            rw [hp9.1, hp9.2]
            show TT K ly 0 0 108 [(4, vI 1), (3, vI (qS ((h 36) x))), (0, vR 34), (1, vI x), (2, vI b)] [] (setO (setO (setO h 34 (fup (h 34) 3 (qS ((h 36) x)))) 36 (lrS (h 36) x (b ≠ (h 37) x))) 37 (lrL (h 36) (h 37) x (b ≠ (h 37) x)))
            have hq9 : MQ_ (qS ((h 36) x)) ((h 34) 4) (h 34 5) (h 34 2) (h 38) := MQ_tell (x := x) (st := h 36) (P := (b = h 37 x ↔ h 34 3 - qS (h 36 x) < qS (h 36 x))) hq ha hs (by first | exact (if_pos (by omega)).symm | exact (if_neg (by omega)).symm) (by first | exact (if_pos (by omega)).symm | exact (if_neg (by omega)).symm)
            have eT := tellS_m (a := h 34 3) (c := h 34 4) (t := h 34 5) (n := h 34 2) (o := h 38) (st := h 36) (lk := h 37) (x := x) (b := b) (P := (b ≠ h 37 x)) (a2 := qS ((h 36) x)) (c2 := (h 34) 4) (by omega) (by first | exact (if_pos (by omega)).symm | exact (if_neg (by omega)).symm) (by first | exact (if_pos (by omega)).symm | exact (if_neg (by omega)).symm) Iff.rfl
            refine TT_aload_n hK rfl 2 rfl dX8_tell_108 ?_
            have q109_34_2 : (setO (setO (setO h 34 (fup (h 34) 3 (qS ((h 36) x)))) 36 (lrS (h 36) x (b ≠ (h 37) x))) 37 (lrL (h 36) (h 37) x (b ≠ (h 37) x))) 34 2 = (h 34) 2 := rd_ ((sOf_ne _ _ (by decide)).trans ((sOf_ne _ _ (by decide)).trans (sOf_eq _ _ _))) (fup_ne _ _ (by decide))
            have q109_34_3 : (setO (setO (setO h 34 (fup (h 34) 3 (qS ((h 36) x)))) 36 (lrS (h 36) x (b ≠ (h 37) x))) 37 (lrL (h 36) (h 37) x (b ≠ (h 37) x))) 34 3 = qS ((h 36) x) := rd_ ((sOf_ne _ _ (by decide)).trans ((sOf_ne _ _ (by decide)).trans (sOf_eq _ _ _))) (fup_eq _ _ _)
            have q109_34_4 : (setO (setO (setO h 34 (fup (h 34) 3 (qS ((h 36) x)))) 36 (lrS (h 36) x (b ≠ (h 37) x))) 37 (lrL (h 36) (h 37) x (b ≠ (h 37) x))) 34 4 = (h 34) 4 := rd_ ((sOf_ne _ _ (by decide)).trans ((sOf_ne _ _ (by decide)).trans (sOf_eq _ _ _))) (fup_ne _ _ (by decide))
            have q109_34_5 : (setO (setO (setO h 34 (fup (h 34) 3 (qS ((h 36) x)))) 36 (lrS (h 36) x (b ≠ (h 37) x))) 37 (lrL (h 36) (h 37) x (b ≠ (h 37) x))) 34 5 = (h 34) 5 := rd_ ((sOf_ne _ _ (by decide)).trans ((sOf_ne _ _ (by decide)).trans (sOf_eq _ _ _))) (fup_ne _ _ (by decide))
            have q109_34 : (setO (setO (setO h 34 (fup (h 34) 3 (qS ((h 36) x)))) 36 (lrS (h 36) x (b ≠ (h 37) x))) 37 (lrL (h 36) (h 37) x (b ≠ (h 37) x))) 34 = fup (h 34) 3 (qS ((h 36) x)) := (sOf_ne _ _ (by decide)).trans ((sOf_ne _ _ (by decide)).trans (sOf_eq _ _ _))
            have q109_38 : (setO (setO (setO h 34 (fup (h 34) 3 (qS ((h 36) x)))) 36 (lrS (h 36) x (b ≠ (h 37) x))) 37 (lrL (h 36) (h 37) x (b ≠ (h 37) x))) 38 = h 38 := (sOf_ne _ _ (by decide)).trans ((sOf_ne _ _ (by decide)).trans (sOf_ne _ _ (by decide)))
            refine iv_X8_50 hK (c_X8_mend_34 (setO (setO (setO h 34 (fup (h 34) 3 (qS ((h 36) x)))) 36 (lrS (h 36) x (b ≠ (h 37) x))) 37 (lrL (h 36) (h 37) x (b ≠ (h 37) x))) (by rw [q109_34_2, q109_34_3, q109_34_4, q109_34_5, q109_38]; first | omega | (simp [up, setR] <;> omega)) (by rw [q109_34_2]; first | omega | (simp [up, setR] <;> omega))) (by decide) rfl ⟨by decide, by decide⟩ (by decide) rfl rfl (Nat.le_of_ble_eq_true rfl) ⟨by decide, by decide⟩ dX8_tell_109 ?_
            intro r9 h9 hp9
            rw [q109_34_2, q109_34_3, q109_34_4, q109_34_5, q109_34, q109_38] at hp9
            rw [hp9.1, hp9.2]
            refine TT_hp (h' := setO (setO (setO (setO h 34 (fup (fup (fup (fup (h 34) 2 ((mendS 15 (qS ((h 36) x)) ((h 34) 4) ((h 34) 5) ((h 34) 2) (h 38)).2.2.2.1)) 3 ((mendS 15 (qS ((h 36) x)) ((h 34) 4) ((h 34) 5) ((h 34) 2) (h 38)).1)) 4 ((mendS 15 (qS ((h 36) x)) ((h 34) 4) ((h 34) 5) ((h 34) 2) (h 38)).2.1)) 5 ((mendS 15 (qS ((h 36) x)) ((h 34) 4) ((h 34) 5) ((h 34) 2) (h 38)).2.2.1))) 36 (lrS (h 36) x (b ≠ (h 37) x))) 37 (lrL (h 36) (h 37) x (b ≠ (h 37) x))) 38 ((mendS 15 (qS ((h 36) x)) ((h 34) 4) ((h 34) 5) ((h 34) 2) (h 38)).2.2.2.2)) ((setO_cg ((setO_cg rfl (fup_cg (fup_cg ((fup_cg (fup_comm _ _ _ (by decide))).trans (fup_same _ _ _ _))))).trans ((setO_comm _ _ _ (by decide)).trans (setO_cg ((setO_comm _ _ _ (by decide)).trans (setO_cg (setO_same _ _ _ _) rfl)) rfl))) rfl)) ?_
            show TT K ly 0 0 112 [(4, vI 1), (3, vI (qS ((h 36) x))), (0, vR 34), (1, vI x), (2, vI b)] [] (setO (setO (setO (setO h 34 (fup (fup (fup (fup (h 34) 2 ((mendS 15 (qS ((h 36) x)) ((h 34) 4) ((h 34) 5) ((h 34) 2) (h 38)).2.2.2.1)) 3 ((mendS 15 (qS ((h 36) x)) ((h 34) 4) ((h 34) 5) ((h 34) 2) (h 38)).1)) 4 ((mendS 15 (qS ((h 36) x)) ((h 34) 4) ((h 34) 5) ((h 34) 2) (h 38)).2.1)) 5 ((mendS 15 (qS ((h 36) x)) ((h 34) 4) ((h 34) 5) ((h 34) 2) (h 38)).2.2.1))) 36 (lrS (h 36) x (b ≠ (h 37) x))) 37 (lrL (h 36) (h 37) x (b ≠ (h 37) x))) 38 ((mendS 15 (qS ((h 36) x)) ((h 34) 4) ((h 34) 5) ((h 34) 2) (h 38)).2.2.2.2))
            refine TT_vret hK hQ ?_ dX8_tell_112
            exact ⟨rfl, setO_cg (setO_cg (setO_cg (setO_cg rfl (by rw [eT])) (by rw [eT])) (by rw [eT])) (by rw [eT])⟩
      · refine TT_aload_n hK rfl 2 rfl dX8_tell_52 ?_
        refine TT_dup hK rfl dX8_tell_53 ?_
        refine gf_X8_33 hK (by decide) rfl (v := (h 34) 4) (rd_ (sOf_eq _ _ _) (fup_ne _ _ (by decide))) dX8_tell_54 ?_
        refine TT_iload_n hK rfl 1 rfl dX8_tell_57 ?_
        refine TT_iadd hK dX8_tell_58 ?_
        refine pf_X8_33 hK (by decide) rfl dX8_tell_59 ?_
        refine TT_hp (h' := setO h 34 (fup (fup (h 34) 3 (((h 34) 3) - (qS ((h 36) x)))) 4 (((h 34) 4) + (qS ((h 36) x))))) (up_can (sOf_eq _ _ _) rfl (setO_same _ _ _ _)) ?_
        refine TT_vret hK hQ ?_ dX8_tell_62
        have eT := tellS_1 (a := h 34 3) (c := h 34 4) (t := h 34 5) (n := h 34 2) (o := h 38) (st := h 36) (lk := h 37) (x := x) (b := b) (by omega)
        exact ⟨rfl, (setO_new ((sOf_ne _ _ (by decide)).trans (by rw [eT]))).trans (setO_cg ((setO_new ((sOf_ne _ _ (by decide)).trans (by rw [eT]))).trans (setO_cg ((setO_new ((sOf_ne _ _ (by decide)).trans (by rw [eT]))).trans (setO_cg (setO_cg rfl (by rw [eT]; exact fup_24 _ _ _)) rfl)) rfl)) rfl)⟩
set_option maxRecDepth 20000 in
theorem c_X8_end_34 (h : Hp_) (hq : MQ_ (h 34 3) (h 34 4) (h 34 5) (h 34 2) (h 38)) (ha : 32768 ≤ (h 34 3)) (hn : (h 34 2) ≤ 1019) : Ctr yX8_end cX8_end 2 none (rmd 1) ly ly 0 0 [vR 34] h (fun r h' => r = none ∧ h' = setO (setO h 34 (fup (fup (fup (h 34) 2 ((endS (h 34 3) (h 34 4) (h 34 5) (h 34 2) (h 38)).2.2.1)) 4 ((endS (h 34 3) (h 34 4) (h 34 5) (h 34 2) (h 38)).1)) 5 ((endS (h 34 3) (h 34 4) (h 34 5) (h 34 2) (h 38)).2.1))) 38 ((endS (h 34 3) (h 34 4) (h 34 5) (h 34 2) (h 38)).2.2.2)) := by
  refine Ctr_of (by decide) (Nat.le_of_ble_eq_true rfl) ⟨Nat.le_refl _, Nat.le_refl _⟩ (fun K hK hQ _ => ?_)
  show TT K ly 0 0 0 [(0, vR 34)] [] h
  have hc := hq.c_r
  have hr := endC_r hq ha
  obtain ⟨m1, m2, m3, m4, m5, m6, m7, m8, m9⟩ := hq
  obtain ⟨r1, r2, r3⟩ := outS_r (c := endC (h 34 3) (h 34 4) * 2 ^ (h 34 5).toNat) (n := h 34 2) (o := h 38) hr.2.2 ⟨m8, m9⟩
  refine TT_aload_n hK rfl 0 rfl dX8_end_0 ?_
  refine gf_X8_33 hK (by decide) rfl (v := (h 34) 4) rfl dX8_end_1 ?_
  refine TT_aload_n hK rfl 0 rfl dX8_end_4 ?_
  refine gf_X8_30 hK (by decide) rfl (v := (h 34) 3) rfl dX8_end_5 ?_
  refine TT_iadd hK dX8_end_8 ?_
  refine TT_istore_n hK rfl (lv' := [(1, vI (((h 34) 4) + ((h 34) 3))), (0, vR 34)]) (by decide) rfl dX8_end_9 ?_
  refine TT_aload_n hK rfl 1 rfl dX8_end_10 ?_
  refine TT_dup hK rfl dX8_end_11 ?_
  refine gf_X8_33 hK (by decide) rfl (v := (h 34) 4) rfl dX8_end_12 ?_
  refine TT_ldc hK lc_X8_60 dX8_end_15 ?_
  refine TT_ior hK dX8_end_17 ?_
  refine TT_cgI (b := h 34 4 / 65536 * 65536 + 65535) (by exact ior_m hc.1 (by omega)) ?_
  refine pf_X8_33 hK (by decide) rfl dX8_end_18 ?_
  refine TT_hp (h' := setO h 34 (fup (h 34) 4 (h 34 4 / 65536 * 65536 + 65535))) (up_can rfl rfl rfl) ?_
  refine TT_aload_n hK rfl 1 rfl dX8_end_21 ?_
  refine gf_X8_33 hK (by decide) rfl (v := h 34 4 / 65536 * 65536 + 65535) (rd_ (sOf_eq _ _ _) (fup_eq _ _ _)) dX8_end_22 ?_
  refine TT_iload_n hK rfl 0 rfl dX8_end_25 ?_
  refine TT_icmp_lt hK (tgt := 40) (irm (by omega) (by omega)) (irm (by omega) (by omega)) dX8_end_26 (by decide) (fun hb26 => ?_) (fun hb26 => ?_)
  · refine TT_aload_n hK rfl 1 rfl dX8_end_40 ?_
    refine TT_dup hK rfl dX8_end_41 ?_
    refine gf_X8_33 hK (by decide) rfl (v := h 34 4 / 65536 * 65536 + 65535) (rd_ (sOf_eq _ _ _) (fup_eq _ _ _)) dX8_end_42 ?_
    refine TT_cgI (b := endC (h 34 3) (h 34 4)) (by unfold endC; first | rw [if_pos (by omega)] | rw [if_neg (by omega)]) ?_
    refine TT_aload_n hK rfl 1 rfl dX8_end_45 ?_
    refine gf_X8_36 hK (by decide) rfl (v := (h 34) 5) (rd_ (sOf_eq _ _ _) (fup_ne _ _ (by decide))) dX8_end_46 ?_
    refine TT_ishl hK (by omega) (by omega) dX8_end_49 ?_
    refine pf_X8_33 hK (by decide) rfl dX8_end_50 ?_
    refine TT_hp (h' := setO h 34 (fup (h 34) 4 ((endC (h 34 3) (h 34 4)) * 2 ^ ((h 34) 5).toNat))) (up_can (sOf_eq _ _ _) (fup_same _ _ _ _) (setO_same _ _ _ _)) ?_
    refine TT_aload_n hK rfl 1 rfl dX8_end_53 ?_
    have q54_34_2 : (setO h 34 (fup (h 34) 4 ((endC (h 34 3) (h 34 4)) * 2 ^ ((h 34) 5).toNat))) 34 2 = (h 34) 2 := rd_ (sOf_eq _ _ _) (fup_ne _ _ (by decide))
    have q54_34_4 : (setO h 34 (fup (h 34) 4 ((endC (h 34 3) (h 34 4)) * 2 ^ ((h 34) 5).toNat))) 34 4 = (endC (h 34 3) (h 34 4)) * 2 ^ ((h 34) 5).toNat := rd_ (sOf_eq _ _ _) (fup_eq _ _ _)
    have q54_34 : (setO h 34 (fup (h 34) 4 ((endC (h 34 3) (h 34 4)) * 2 ^ ((h 34) 5).toNat))) 34 = fup (h 34) 4 ((endC (h 34 3) (h 34 4)) * 2 ^ ((h 34) 5).toNat) := sOf_eq _ _ _
    have q54_38 : (setO h 34 (fup (h 34) 4 ((endC (h 34 3) (h 34 4)) * 2 ^ ((h 34) 5).toNat))) 38 = h 38 := sOf_ne _ _ (by decide)
    refine iv_X8_53 hK (c_X8_goOut_34 (setO h 34 (fup (h 34) 4 ((endC (h 34 3) (h 34 4)) * 2 ^ ((h 34) 5).toNat))) (by rw [q54_34_2]; first | omega | (simp [up, setR] <;> omega)) (by rw [q54_34_4]; first | omega | (simp [up, setR] <;> omega)) (by rw [q54_34_2, q54_38]; first | omega | (simp [up, setR] <;> omega))) (by decide) rfl ⟨by decide, by decide⟩ (by decide) rfl rfl (Nat.le_of_ble_eq_true rfl) ⟨by decide, by decide⟩ dX8_end_54 ?_
    intro r9 h9 hp9
    rw [q54_34_2, q54_34_4, q54_34, q54_38] at hp9
    rw [hp9.1, hp9.2]
    refine TT_hp (h' := setO (setO h 34 (fup (fup (fup (h 34) 2 ((outS ((endC (h 34 3) (h 34 4)) * 2 ^ ((h 34) 5).toNat) ((h 34) 2) (h 38)).2.2.1)) 4 ((outS ((endC (h 34 3) (h 34 4)) * 2 ^ ((h 34) 5).toNat) ((h 34) 2) (h 38)).1)) 5 ((outS ((endC (h 34 3) (h 34 4)) * 2 ^ ((h 34) 5).toNat) ((h 34) 2) (h 38)).2.1))) 38 ((outS ((endC (h 34 3) (h 34 4)) * 2 ^ ((h 34) 5).toNat) ((h 34) 2) (h 38)).2.2.2)) ((setO_cg ((setO_cg rfl (fup_cg ((fup_cg (fup_comm _ _ _ (by decide))).trans (fup_same _ _ _ _)))).trans (setO_same _ _ _ _)) rfl)) ?_
    show TT K ly 0 0 57 [(1, vI (((h 34) 4) + ((h 34) 3))), (0, vR 34)] [] (setO (setO h 34 (fup (fup (fup (h 34) 2 ((outS ((endC (h 34 3) (h 34 4)) * 2 ^ ((h 34) 5).toNat) ((h 34) 2) (h 38)).2.2.1)) 4 ((outS ((endC (h 34 3) (h 34 4)) * 2 ^ ((h 34) 5).toNat) ((h 34) 2) (h 38)).1)) 5 ((outS ((endC (h 34 3) (h 34 4)) * 2 ^ ((h 34) 5).toNat) ((h 34) 2) (h 38)).2.1))) 38 ((outS ((endC (h 34 3) (h 34 4)) * 2 ^ ((h 34) 5).toNat) ((h 34) 2) (h 38)).2.2.2))
    refine TT_aload_n hK rfl 1 rfl dX8_end_57 ?_
    refine TT_dup hK rfl dX8_end_58 ?_
    refine gf_X8_33 hK (by decide) rfl (v := (outS ((endC (h 34 3) (h 34 4)) * 2 ^ ((h 34) 5).toNat) ((h 34) 2) (h 38)).1) (rd_ ((sOf_ne _ _ (by decide)).trans (sOf_eq _ _ _)) ((fup_ne _ _ (by decide)).trans (fup_eq _ _ _))) dX8_end_59 ?_
    refine TT_aload_n hK rfl 1 rfl dX8_end_62 ?_
    refine gf_X8_36 hK (by decide) rfl (v := (outS ((endC (h 34 3) (h 34 4)) * 2 ^ ((h 34) 5).toNat) ((h 34) 2) (h 38)).2.1) (rd_ ((sOf_ne _ _ (by decide)).trans (sOf_eq _ _ _)) (fup_eq _ _ _)) dX8_end_63 ?_
    refine TT_ishl hK (by omega) (by omega) dX8_end_66 ?_
    have hz : 0 ≤ (outS (endC (h 34 3) (h 34 4) * 2 ^ (h 34 5).toNat) (h 34 2) (h 38)).1 * 2 ^ (outS (endC (h 34 3) (h 34 4) * 2 ^ (h 34 5).toNat) (h 34 2) (h 38)).2.1.toNat ∧ (outS (endC (h 34 3) (h 34 4) * 2 ^ (h 34 5).toNat) (h 34 2) (h 38)).1 * 2 ^ (outS (endC (h 34 3) (h 34 4) * 2 ^ (h 34 5).toNat) (h 34 2) (h 38)).2.1.toNat < 150994944 := by
      rcases r2 with ⟨u1, u2, u3⟩ | ⟨u1, u2, u3⟩ <;> rw [u1]
      · rw [show (2 : Int) ^ (7 : Int).toNat = 128 by decide]; omega
      · rw [show (2 : Int) ^ (8 : Int).toNat = 256 by decide]; omega
    refine pf_X8_33 hK (by decide) rfl dX8_end_67 ?_
    refine TT_hp (h' := setO (setO h 34 (fup (fup (fup (h 34) 2 ((outS ((endC (h 34 3) (h 34 4)) * 2 ^ ((h 34) 5).toNat) ((h 34) 2) (h 38)).2.2.1)) 4 (((outS ((endC (h 34 3) (h 34 4)) * 2 ^ ((h 34) 5).toNat) ((h 34) 2) (h 38)).1) * 2 ^ ((outS ((endC (h 34 3) (h 34 4)) * 2 ^ ((h 34) 5).toNat) ((h 34) 2) (h 38)).2.1).toNat)) 5 ((outS ((endC (h 34 3) (h 34 4)) * 2 ^ ((h 34) 5).toNat) ((h 34) 2) (h 38)).2.1))) 38 ((outS ((endC (h 34 3) (h 34 4)) * 2 ^ ((h 34) 5).toNat) ((h 34) 2) (h 38)).2.2.2)) (up_can ((sOf_ne _ _ (by decide)).trans (sOf_eq _ _ _)) ((fup_comm _ _ _ (by decide)).trans (fup_cg (fup_same _ _ _ _))) ((setO_comm _ _ _ (by decide)).trans (setO_cg (setO_same _ _ _ _) rfl))) ?_
    refine TT_aload_n hK rfl 1 rfl dX8_end_70 ?_
    have q71_34_2 : (setO (setO h 34 (fup (fup (fup (h 34) 2 ((outS ((endC (h 34 3) (h 34 4)) * 2 ^ ((h 34) 5).toNat) ((h 34) 2) (h 38)).2.2.1)) 4 (((outS ((endC (h 34 3) (h 34 4)) * 2 ^ ((h 34) 5).toNat) ((h 34) 2) (h 38)).1) * 2 ^ ((outS ((endC (h 34 3) (h 34 4)) * 2 ^ ((h 34) 5).toNat) ((h 34) 2) (h 38)).2.1).toNat)) 5 ((outS ((endC (h 34 3) (h 34 4)) * 2 ^ ((h 34) 5).toNat) ((h 34) 2) (h 38)).2.1))) 38 ((outS ((endC (h 34 3) (h 34 4)) * 2 ^ ((h 34) 5).toNat) ((h 34) 2) (h 38)).2.2.2)) 34 2 = (outS ((endC (h 34 3) (h 34 4)) * 2 ^ ((h 34) 5).toNat) ((h 34) 2) (h 38)).2.2.1 := rd_ ((sOf_ne _ _ (by decide)).trans (sOf_eq _ _ _)) ((fup_ne _ _ (by decide)).trans ((fup_ne _ _ (by decide)).trans (fup_eq _ _ _)))
    have q71_34_4 : (setO (setO h 34 (fup (fup (fup (h 34) 2 ((outS ((endC (h 34 3) (h 34 4)) * 2 ^ ((h 34) 5).toNat) ((h 34) 2) (h 38)).2.2.1)) 4 (((outS ((endC (h 34 3) (h 34 4)) * 2 ^ ((h 34) 5).toNat) ((h 34) 2) (h 38)).1) * 2 ^ ((outS ((endC (h 34 3) (h 34 4)) * 2 ^ ((h 34) 5).toNat) ((h 34) 2) (h 38)).2.1).toNat)) 5 ((outS ((endC (h 34 3) (h 34 4)) * 2 ^ ((h 34) 5).toNat) ((h 34) 2) (h 38)).2.1))) 38 ((outS ((endC (h 34 3) (h 34 4)) * 2 ^ ((h 34) 5).toNat) ((h 34) 2) (h 38)).2.2.2)) 34 4 = ((outS ((endC (h 34 3) (h 34 4)) * 2 ^ ((h 34) 5).toNat) ((h 34) 2) (h 38)).1) * 2 ^ ((outS ((endC (h 34 3) (h 34 4)) * 2 ^ ((h 34) 5).toNat) ((h 34) 2) (h 38)).2.1).toNat := rd_ ((sOf_ne _ _ (by decide)).trans (sOf_eq _ _ _)) ((fup_ne _ _ (by decide)).trans (fup_eq _ _ _))
    have q71_34 : (setO (setO h 34 (fup (fup (fup (h 34) 2 ((outS ((endC (h 34 3) (h 34 4)) * 2 ^ ((h 34) 5).toNat) ((h 34) 2) (h 38)).2.2.1)) 4 (((outS ((endC (h 34 3) (h 34 4)) * 2 ^ ((h 34) 5).toNat) ((h 34) 2) (h 38)).1) * 2 ^ ((outS ((endC (h 34 3) (h 34 4)) * 2 ^ ((h 34) 5).toNat) ((h 34) 2) (h 38)).2.1).toNat)) 5 ((outS ((endC (h 34 3) (h 34 4)) * 2 ^ ((h 34) 5).toNat) ((h 34) 2) (h 38)).2.1))) 38 ((outS ((endC (h 34 3) (h 34 4)) * 2 ^ ((h 34) 5).toNat) ((h 34) 2) (h 38)).2.2.2)) 34 = fup (fup (fup (h 34) 2 ((outS ((endC (h 34 3) (h 34 4)) * 2 ^ ((h 34) 5).toNat) ((h 34) 2) (h 38)).2.2.1)) 4 (((outS ((endC (h 34 3) (h 34 4)) * 2 ^ ((h 34) 5).toNat) ((h 34) 2) (h 38)).1) * 2 ^ ((outS ((endC (h 34 3) (h 34 4)) * 2 ^ ((h 34) 5).toNat) ((h 34) 2) (h 38)).2.1).toNat)) 5 ((outS ((endC (h 34 3) (h 34 4)) * 2 ^ ((h 34) 5).toNat) ((h 34) 2) (h 38)).2.1) := (sOf_ne _ _ (by decide)).trans (sOf_eq _ _ _)
    have q71_38 : (setO (setO h 34 (fup (fup (fup (h 34) 2 ((outS ((endC (h 34 3) (h 34 4)) * 2 ^ ((h 34) 5).toNat) ((h 34) 2) (h 38)).2.2.1)) 4 (((outS ((endC (h 34 3) (h 34 4)) * 2 ^ ((h 34) 5).toNat) ((h 34) 2) (h 38)).1) * 2 ^ ((outS ((endC (h 34 3) (h 34 4)) * 2 ^ ((h 34) 5).toNat) ((h 34) 2) (h 38)).2.1).toNat)) 5 ((outS ((endC (h 34 3) (h 34 4)) * 2 ^ ((h 34) 5).toNat) ((h 34) 2) (h 38)).2.1))) 38 ((outS ((endC (h 34 3) (h 34 4)) * 2 ^ ((h 34) 5).toNat) ((h 34) 2) (h 38)).2.2.2)) 38 = (outS ((endC (h 34 3) (h 34 4)) * 2 ^ ((h 34) 5).toNat) ((h 34) 2) (h 38)).2.2.2 := sOf_eq _ _ _
    refine iv_X8_53 hK (c_X8_goOut_34 (setO (setO h 34 (fup (fup (fup (h 34) 2 ((outS ((endC (h 34 3) (h 34 4)) * 2 ^ ((h 34) 5).toNat) ((h 34) 2) (h 38)).2.2.1)) 4 (((outS ((endC (h 34 3) (h 34 4)) * 2 ^ ((h 34) 5).toNat) ((h 34) 2) (h 38)).1) * 2 ^ ((outS ((endC (h 34 3) (h 34 4)) * 2 ^ ((h 34) 5).toNat) ((h 34) 2) (h 38)).2.1).toNat)) 5 ((outS ((endC (h 34 3) (h 34 4)) * 2 ^ ((h 34) 5).toNat) ((h 34) 2) (h 38)).2.1))) 38 ((outS ((endC (h 34 3) (h 34 4)) * 2 ^ ((h 34) 5).toNat) ((h 34) 2) (h 38)).2.2.2)) (by rw [q71_34_2]; first | omega | (simp [up, setR] <;> omega)) (by rw [q71_34_4]; first | omega | (simp [up, setR] <;> omega)) (by rw [q71_34_2, q71_38]; rw [r1, show h 34 2 + 1 - 1 = h 34 2 by omega]; exact r3)) (by decide) rfl ⟨by decide, by decide⟩ (by decide) rfl rfl (Nat.le_of_ble_eq_true rfl) ⟨by decide, by decide⟩ dX8_end_71 ?_
    intro r9 h9 hp9
    rw [q71_34_2, q71_34_4, q71_34, q71_38] at hp9
    rw [hp9.1, hp9.2]
    refine TT_hp (h' := setO (setO h 34 (fup (fup (fup (h 34) 2 ((outS (((outS ((endC (h 34 3) (h 34 4)) * 2 ^ ((h 34) 5).toNat) ((h 34) 2) (h 38)).1) * 2 ^ ((outS ((endC (h 34 3) (h 34 4)) * 2 ^ ((h 34) 5).toNat) ((h 34) 2) (h 38)).2.1).toNat) ((outS ((endC (h 34 3) (h 34 4)) * 2 ^ ((h 34) 5).toNat) ((h 34) 2) (h 38)).2.2.1) ((outS ((endC (h 34 3) (h 34 4)) * 2 ^ ((h 34) 5).toNat) ((h 34) 2) (h 38)).2.2.2)).2.2.1)) 4 ((outS (((outS ((endC (h 34 3) (h 34 4)) * 2 ^ ((h 34) 5).toNat) ((h 34) 2) (h 38)).1) * 2 ^ ((outS ((endC (h 34 3) (h 34 4)) * 2 ^ ((h 34) 5).toNat) ((h 34) 2) (h 38)).2.1).toNat) ((outS ((endC (h 34 3) (h 34 4)) * 2 ^ ((h 34) 5).toNat) ((h 34) 2) (h 38)).2.2.1) ((outS ((endC (h 34 3) (h 34 4)) * 2 ^ ((h 34) 5).toNat) ((h 34) 2) (h 38)).2.2.2)).1)) 5 ((outS (((outS ((endC (h 34 3) (h 34 4)) * 2 ^ ((h 34) 5).toNat) ((h 34) 2) (h 38)).1) * 2 ^ ((outS ((endC (h 34 3) (h 34 4)) * 2 ^ ((h 34) 5).toNat) ((h 34) 2) (h 38)).2.1).toNat) ((outS ((endC (h 34 3) (h 34 4)) * 2 ^ ((h 34) 5).toNat) ((h 34) 2) (h 38)).2.2.1) ((outS ((endC (h 34 3) (h 34 4)) * 2 ^ ((h 34) 5).toNat) ((h 34) 2) (h 38)).2.2.2)).2.1))) 38 ((outS (((outS ((endC (h 34 3) (h 34 4)) * 2 ^ ((h 34) 5).toNat) ((h 34) 2) (h 38)).1) * 2 ^ ((outS ((endC (h 34 3) (h 34 4)) * 2 ^ ((h 34) 5).toNat) ((h 34) 2) (h 38)).2.1).toNat) ((outS ((endC (h 34 3) (h 34 4)) * 2 ^ ((h 34) 5).toNat) ((h 34) 2) (h 38)).2.2.1) ((outS ((endC (h 34 3) (h 34 4)) * 2 ^ ((h 34) 5).toNat) ((h 34) 2) (h 38)).2.2.2)).2.2.2)) ((setO_cg ((setO_cg rfl ((fup_cg ((fup_cg ((fup_comm _ _ _ (by decide)).trans (fup_cg ((fup_comm _ _ _ (by decide)).trans (fup_cg (fup_same _ _ _ _)))))).trans ((fup_comm _ _ _ (by decide)).trans (fup_cg (fup_same _ _ _ _))))).trans (fup_same _ _ _ _))).trans ((setO_comm _ _ _ (by decide)).trans (setO_cg (setO_same _ _ _ _) rfl))) rfl).trans (setO_same _ _ _ _)) ?_
    show TT K ly 0 0 74 [(1, vI (((h 34) 4) + ((h 34) 3))), (0, vR 34)] [] (setO (setO h 34 (fup (fup (fup (h 34) 2 ((outS (((outS ((endC (h 34 3) (h 34 4)) * 2 ^ ((h 34) 5).toNat) ((h 34) 2) (h 38)).1) * 2 ^ ((outS ((endC (h 34 3) (h 34 4)) * 2 ^ ((h 34) 5).toNat) ((h 34) 2) (h 38)).2.1).toNat) ((outS ((endC (h 34 3) (h 34 4)) * 2 ^ ((h 34) 5).toNat) ((h 34) 2) (h 38)).2.2.1) ((outS ((endC (h 34 3) (h 34 4)) * 2 ^ ((h 34) 5).toNat) ((h 34) 2) (h 38)).2.2.2)).2.2.1)) 4 ((outS (((outS ((endC (h 34 3) (h 34 4)) * 2 ^ ((h 34) 5).toNat) ((h 34) 2) (h 38)).1) * 2 ^ ((outS ((endC (h 34 3) (h 34 4)) * 2 ^ ((h 34) 5).toNat) ((h 34) 2) (h 38)).2.1).toNat) ((outS ((endC (h 34 3) (h 34 4)) * 2 ^ ((h 34) 5).toNat) ((h 34) 2) (h 38)).2.2.1) ((outS ((endC (h 34 3) (h 34 4)) * 2 ^ ((h 34) 5).toNat) ((h 34) 2) (h 38)).2.2.2)).1)) 5 ((outS (((outS ((endC (h 34 3) (h 34 4)) * 2 ^ ((h 34) 5).toNat) ((h 34) 2) (h 38)).1) * 2 ^ ((outS ((endC (h 34 3) (h 34 4)) * 2 ^ ((h 34) 5).toNat) ((h 34) 2) (h 38)).2.1).toNat) ((outS ((endC (h 34 3) (h 34 4)) * 2 ^ ((h 34) 5).toNat) ((h 34) 2) (h 38)).2.2.1) ((outS ((endC (h 34 3) (h 34 4)) * 2 ^ ((h 34) 5).toNat) ((h 34) 2) (h 38)).2.2.2)).2.1))) 38 ((outS (((outS ((endC (h 34 3) (h 34 4)) * 2 ^ ((h 34) 5).toNat) ((h 34) 2) (h 38)).1) * 2 ^ ((outS ((endC (h 34 3) (h 34 4)) * 2 ^ ((h 34) 5).toNat) ((h 34) 2) (h 38)).2.1).toNat) ((outS ((endC (h 34 3) (h 34 4)) * 2 ^ ((h 34) 5).toNat) ((h 34) 2) (h 38)).2.2.1) ((outS ((endC (h 34 3) (h 34 4)) * 2 ^ ((h 34) 5).toNat) ((h 34) 2) (h 38)).2.2.2)).2.2.2))
    refine TT_vret hK hQ ?_ dX8_end_74
    exact ⟨rfl, setO_cg (setO_cg rfl (by rfl)) (by rfl)⟩
  · refine TT_aload_n hK rfl 1 rfl dX8_end_29 ?_
    refine TT_dup hK rfl dX8_end_30 ?_
    refine gf_X8_33 hK (by decide) rfl (v := h 34 4 / 65536 * 65536 + 65535) (rd_ (sOf_eq _ _ _) (fup_eq _ _ _)) dX8_end_31 ?_
    refine TT_ldc hK lc_X8_29 dX8_end_34 ?_
    refine TT_isub hK dX8_end_36 ?_
    refine pf_X8_33 hK (by decide) rfl dX8_end_37 ?_
    refine TT_hp (h' := setO h 34 (fup (h 34) 4 ((h 34 4 / 65536 * 65536 + 65535) - 32768))) (up_can (sOf_eq _ _ _) (fup_same _ _ _ _) (setO_same _ _ _ _)) ?_
    refine TT_aload_n hK rfl 1 rfl dX8_end_40 ?_
    refine TT_dup hK rfl dX8_end_41 ?_
    refine gf_X8_33 hK (by decide) rfl (v := (h 34 4 / 65536 * 65536 + 65535) - 32768) (rd_ (sOf_eq _ _ _) (fup_eq _ _ _)) dX8_end_42 ?_
    refine TT_cgI (b := endC (h 34 3) (h 34 4)) (by unfold endC; first | rw [if_pos (by omega)] | rw [if_neg (by omega)]) ?_
    refine TT_aload_n hK rfl 1 rfl dX8_end_45 ?_
    refine gf_X8_36 hK (by decide) rfl (v := (h 34) 5) (rd_ (sOf_eq _ _ _) (fup_ne _ _ (by decide))) dX8_end_46 ?_
    refine TT_ishl hK (by omega) (by omega) dX8_end_49 ?_
    refine pf_X8_33 hK (by decide) rfl dX8_end_50 ?_
    refine TT_hp (h' := setO h 34 (fup (h 34) 4 ((endC (h 34 3) (h 34 4)) * 2 ^ ((h 34) 5).toNat))) (up_can (sOf_eq _ _ _) (fup_same _ _ _ _) (setO_same _ _ _ _)) ?_
    refine TT_aload_n hK rfl 1 rfl dX8_end_53 ?_
    have q54_34_2 : (setO h 34 (fup (h 34) 4 ((endC (h 34 3) (h 34 4)) * 2 ^ ((h 34) 5).toNat))) 34 2 = (h 34) 2 := rd_ (sOf_eq _ _ _) (fup_ne _ _ (by decide))
    have q54_34_4 : (setO h 34 (fup (h 34) 4 ((endC (h 34 3) (h 34 4)) * 2 ^ ((h 34) 5).toNat))) 34 4 = (endC (h 34 3) (h 34 4)) * 2 ^ ((h 34) 5).toNat := rd_ (sOf_eq _ _ _) (fup_eq _ _ _)
    have q54_34 : (setO h 34 (fup (h 34) 4 ((endC (h 34 3) (h 34 4)) * 2 ^ ((h 34) 5).toNat))) 34 = fup (h 34) 4 ((endC (h 34 3) (h 34 4)) * 2 ^ ((h 34) 5).toNat) := sOf_eq _ _ _
    have q54_38 : (setO h 34 (fup (h 34) 4 ((endC (h 34 3) (h 34 4)) * 2 ^ ((h 34) 5).toNat))) 38 = h 38 := sOf_ne _ _ (by decide)
    refine iv_X8_53 hK (c_X8_goOut_34 (setO h 34 (fup (h 34) 4 ((endC (h 34 3) (h 34 4)) * 2 ^ ((h 34) 5).toNat))) (by rw [q54_34_2]; first | omega | (simp [up, setR] <;> omega)) (by rw [q54_34_4]; first | omega | (simp [up, setR] <;> omega)) (by rw [q54_34_2, q54_38]; first | omega | (simp [up, setR] <;> omega))) (by decide) rfl ⟨by decide, by decide⟩ (by decide) rfl rfl (Nat.le_of_ble_eq_true rfl) ⟨by decide, by decide⟩ dX8_end_54 ?_
    intro r9 h9 hp9
    rw [q54_34_2, q54_34_4, q54_34, q54_38] at hp9
    rw [hp9.1, hp9.2]
    refine TT_hp (h' := setO (setO h 34 (fup (fup (fup (h 34) 2 ((outS ((endC (h 34 3) (h 34 4)) * 2 ^ ((h 34) 5).toNat) ((h 34) 2) (h 38)).2.2.1)) 4 ((outS ((endC (h 34 3) (h 34 4)) * 2 ^ ((h 34) 5).toNat) ((h 34) 2) (h 38)).1)) 5 ((outS ((endC (h 34 3) (h 34 4)) * 2 ^ ((h 34) 5).toNat) ((h 34) 2) (h 38)).2.1))) 38 ((outS ((endC (h 34 3) (h 34 4)) * 2 ^ ((h 34) 5).toNat) ((h 34) 2) (h 38)).2.2.2)) ((setO_cg ((setO_cg rfl (fup_cg ((fup_cg (fup_comm _ _ _ (by decide))).trans (fup_same _ _ _ _)))).trans (setO_same _ _ _ _)) rfl)) ?_
    show TT K ly 0 0 57 [(1, vI (((h 34) 4) + ((h 34) 3))), (0, vR 34)] [] (setO (setO h 34 (fup (fup (fup (h 34) 2 ((outS ((endC (h 34 3) (h 34 4)) * 2 ^ ((h 34) 5).toNat) ((h 34) 2) (h 38)).2.2.1)) 4 ((outS ((endC (h 34 3) (h 34 4)) * 2 ^ ((h 34) 5).toNat) ((h 34) 2) (h 38)).1)) 5 ((outS ((endC (h 34 3) (h 34 4)) * 2 ^ ((h 34) 5).toNat) ((h 34) 2) (h 38)).2.1))) 38 ((outS ((endC (h 34 3) (h 34 4)) * 2 ^ ((h 34) 5).toNat) ((h 34) 2) (h 38)).2.2.2))
    refine TT_aload_n hK rfl 1 rfl dX8_end_57 ?_
    refine TT_dup hK rfl dX8_end_58 ?_
    refine gf_X8_33 hK (by decide) rfl (v := (outS ((endC (h 34 3) (h 34 4)) * 2 ^ ((h 34) 5).toNat) ((h 34) 2) (h 38)).1) (rd_ ((sOf_ne _ _ (by decide)).trans (sOf_eq _ _ _)) ((fup_ne _ _ (by decide)).trans (fup_eq _ _ _))) dX8_end_59 ?_
    refine TT_aload_n hK rfl 1 rfl dX8_end_62 ?_
    refine gf_X8_36 hK (by decide) rfl (v := (outS ((endC (h 34 3) (h 34 4)) * 2 ^ ((h 34) 5).toNat) ((h 34) 2) (h 38)).2.1) (rd_ ((sOf_ne _ _ (by decide)).trans (sOf_eq _ _ _)) (fup_eq _ _ _)) dX8_end_63 ?_
    refine TT_ishl hK (by omega) (by omega) dX8_end_66 ?_
    have hz : 0 ≤ (outS (endC (h 34 3) (h 34 4) * 2 ^ (h 34 5).toNat) (h 34 2) (h 38)).1 * 2 ^ (outS (endC (h 34 3) (h 34 4) * 2 ^ (h 34 5).toNat) (h 34 2) (h 38)).2.1.toNat ∧ (outS (endC (h 34 3) (h 34 4) * 2 ^ (h 34 5).toNat) (h 34 2) (h 38)).1 * 2 ^ (outS (endC (h 34 3) (h 34 4) * 2 ^ (h 34 5).toNat) (h 34 2) (h 38)).2.1.toNat < 150994944 := by
      rcases r2 with ⟨u1, u2, u3⟩ | ⟨u1, u2, u3⟩ <;> rw [u1]
      · rw [show (2 : Int) ^ (7 : Int).toNat = 128 by decide]; omega
      · rw [show (2 : Int) ^ (8 : Int).toNat = 256 by decide]; omega
    refine pf_X8_33 hK (by decide) rfl dX8_end_67 ?_
    refine TT_hp (h' := setO (setO h 34 (fup (fup (fup (h 34) 2 ((outS ((endC (h 34 3) (h 34 4)) * 2 ^ ((h 34) 5).toNat) ((h 34) 2) (h 38)).2.2.1)) 4 (((outS ((endC (h 34 3) (h 34 4)) * 2 ^ ((h 34) 5).toNat) ((h 34) 2) (h 38)).1) * 2 ^ ((outS ((endC (h 34 3) (h 34 4)) * 2 ^ ((h 34) 5).toNat) ((h 34) 2) (h 38)).2.1).toNat)) 5 ((outS ((endC (h 34 3) (h 34 4)) * 2 ^ ((h 34) 5).toNat) ((h 34) 2) (h 38)).2.1))) 38 ((outS ((endC (h 34 3) (h 34 4)) * 2 ^ ((h 34) 5).toNat) ((h 34) 2) (h 38)).2.2.2)) (up_can ((sOf_ne _ _ (by decide)).trans (sOf_eq _ _ _)) ((fup_comm _ _ _ (by decide)).trans (fup_cg (fup_same _ _ _ _))) ((setO_comm _ _ _ (by decide)).trans (setO_cg (setO_same _ _ _ _) rfl))) ?_
    refine TT_aload_n hK rfl 1 rfl dX8_end_70 ?_
    have q71_34_2 : (setO (setO h 34 (fup (fup (fup (h 34) 2 ((outS ((endC (h 34 3) (h 34 4)) * 2 ^ ((h 34) 5).toNat) ((h 34) 2) (h 38)).2.2.1)) 4 (((outS ((endC (h 34 3) (h 34 4)) * 2 ^ ((h 34) 5).toNat) ((h 34) 2) (h 38)).1) * 2 ^ ((outS ((endC (h 34 3) (h 34 4)) * 2 ^ ((h 34) 5).toNat) ((h 34) 2) (h 38)).2.1).toNat)) 5 ((outS ((endC (h 34 3) (h 34 4)) * 2 ^ ((h 34) 5).toNat) ((h 34) 2) (h 38)).2.1))) 38 ((outS ((endC (h 34 3) (h 34 4)) * 2 ^ ((h 34) 5).toNat) ((h 34) 2) (h 38)).2.2.2)) 34 2 = (outS ((endC (h 34 3) (h 34 4)) * 2 ^ ((h 34) 5).toNat) ((h 34) 2) (h 38)).2.2.1 := rd_ ((sOf_ne _ _ (by decide)).trans (sOf_eq _ _ _)) ((fup_ne _ _ (by decide)).trans ((fup_ne _ _ (by decide)).trans (fup_eq _ _ _)))
    have q71_34_4 : (setO (setO h 34 (fup (fup (fup (h 34) 2 ((outS ((endC (h 34 3) (h 34 4)) * 2 ^ ((h 34) 5).toNat) ((h 34) 2) (h 38)).2.2.1)) 4 (((outS ((endC (h 34 3) (h 34 4)) * 2 ^ ((h 34) 5).toNat) ((h 34) 2) (h 38)).1) * 2 ^ ((outS ((endC (h 34 3) (h 34 4)) * 2 ^ ((h 34) 5).toNat) ((h 34) 2) (h 38)).2.1).toNat)) 5 ((outS ((endC (h 34 3) (h 34 4)) * 2 ^ ((h 34) 5).toNat) ((h 34) 2) (h 38)).2.1))) 38 ((outS ((endC (h 34 3) (h 34 4)) * 2 ^ ((h 34) 5).toNat) ((h 34) 2) (h 38)).2.2.2)) 34 4 = ((outS ((endC (h 34 3) (h 34 4)) * 2 ^ ((h 34) 5).toNat) ((h 34) 2) (h 38)).1) * 2 ^ ((outS ((endC (h 34 3) (h 34 4)) * 2 ^ ((h 34) 5).toNat) ((h 34) 2) (h 38)).2.1).toNat := rd_ ((sOf_ne _ _ (by decide)).trans (sOf_eq _ _ _)) ((fup_ne _ _ (by decide)).trans (fup_eq _ _ _))
    have q71_34 : (setO (setO h 34 (fup (fup (fup (h 34) 2 ((outS ((endC (h 34 3) (h 34 4)) * 2 ^ ((h 34) 5).toNat) ((h 34) 2) (h 38)).2.2.1)) 4 (((outS ((endC (h 34 3) (h 34 4)) * 2 ^ ((h 34) 5).toNat) ((h 34) 2) (h 38)).1) * 2 ^ ((outS ((endC (h 34 3) (h 34 4)) * 2 ^ ((h 34) 5).toNat) ((h 34) 2) (h 38)).2.1).toNat)) 5 ((outS ((endC (h 34 3) (h 34 4)) * 2 ^ ((h 34) 5).toNat) ((h 34) 2) (h 38)).2.1))) 38 ((outS ((endC (h 34 3) (h 34 4)) * 2 ^ ((h 34) 5).toNat) ((h 34) 2) (h 38)).2.2.2)) 34 = fup (fup (fup (h 34) 2 ((outS ((endC (h 34 3) (h 34 4)) * 2 ^ ((h 34) 5).toNat) ((h 34) 2) (h 38)).2.2.1)) 4 (((outS ((endC (h 34 3) (h 34 4)) * 2 ^ ((h 34) 5).toNat) ((h 34) 2) (h 38)).1) * 2 ^ ((outS ((endC (h 34 3) (h 34 4)) * 2 ^ ((h 34) 5).toNat) ((h 34) 2) (h 38)).2.1).toNat)) 5 ((outS ((endC (h 34 3) (h 34 4)) * 2 ^ ((h 34) 5).toNat) ((h 34) 2) (h 38)).2.1) := (sOf_ne _ _ (by decide)).trans (sOf_eq _ _ _)
    have q71_38 : (setO (setO h 34 (fup (fup (fup (h 34) 2 ((outS ((endC (h 34 3) (h 34 4)) * 2 ^ ((h 34) 5).toNat) ((h 34) 2) (h 38)).2.2.1)) 4 (((outS ((endC (h 34 3) (h 34 4)) * 2 ^ ((h 34) 5).toNat) ((h 34) 2) (h 38)).1) * 2 ^ ((outS ((endC (h 34 3) (h 34 4)) * 2 ^ ((h 34) 5).toNat) ((h 34) 2) (h 38)).2.1).toNat)) 5 ((outS ((endC (h 34 3) (h 34 4)) * 2 ^ ((h 34) 5).toNat) ((h 34) 2) (h 38)).2.1))) 38 ((outS ((endC (h 34 3) (h 34 4)) * 2 ^ ((h 34) 5).toNat) ((h 34) 2) (h 38)).2.2.2)) 38 = (outS ((endC (h 34 3) (h 34 4)) * 2 ^ ((h 34) 5).toNat) ((h 34) 2) (h 38)).2.2.2 := sOf_eq _ _ _
    refine iv_X8_53 hK (c_X8_goOut_34 (setO (setO h 34 (fup (fup (fup (h 34) 2 ((outS ((endC (h 34 3) (h 34 4)) * 2 ^ ((h 34) 5).toNat) ((h 34) 2) (h 38)).2.2.1)) 4 (((outS ((endC (h 34 3) (h 34 4)) * 2 ^ ((h 34) 5).toNat) ((h 34) 2) (h 38)).1) * 2 ^ ((outS ((endC (h 34 3) (h 34 4)) * 2 ^ ((h 34) 5).toNat) ((h 34) 2) (h 38)).2.1).toNat)) 5 ((outS ((endC (h 34 3) (h 34 4)) * 2 ^ ((h 34) 5).toNat) ((h 34) 2) (h 38)).2.1))) 38 ((outS ((endC (h 34 3) (h 34 4)) * 2 ^ ((h 34) 5).toNat) ((h 34) 2) (h 38)).2.2.2)) (by rw [q71_34_2]; first | omega | (simp [up, setR] <;> omega)) (by rw [q71_34_4]; first | omega | (simp [up, setR] <;> omega)) (by rw [q71_34_2, q71_38]; rw [r1, show h 34 2 + 1 - 1 = h 34 2 by omega]; exact r3)) (by decide) rfl ⟨by decide, by decide⟩ (by decide) rfl rfl (Nat.le_of_ble_eq_true rfl) ⟨by decide, by decide⟩ dX8_end_71 ?_
    intro r9 h9 hp9
    rw [q71_34_2, q71_34_4, q71_34, q71_38] at hp9
    rw [hp9.1, hp9.2]
    refine TT_hp (h' := setO (setO h 34 (fup (fup (fup (h 34) 2 ((outS (((outS ((endC (h 34 3) (h 34 4)) * 2 ^ ((h 34) 5).toNat) ((h 34) 2) (h 38)).1) * 2 ^ ((outS ((endC (h 34 3) (h 34 4)) * 2 ^ ((h 34) 5).toNat) ((h 34) 2) (h 38)).2.1).toNat) ((outS ((endC (h 34 3) (h 34 4)) * 2 ^ ((h 34) 5).toNat) ((h 34) 2) (h 38)).2.2.1) ((outS ((endC (h 34 3) (h 34 4)) * 2 ^ ((h 34) 5).toNat) ((h 34) 2) (h 38)).2.2.2)).2.2.1)) 4 ((outS (((outS ((endC (h 34 3) (h 34 4)) * 2 ^ ((h 34) 5).toNat) ((h 34) 2) (h 38)).1) * 2 ^ ((outS ((endC (h 34 3) (h 34 4)) * 2 ^ ((h 34) 5).toNat) ((h 34) 2) (h 38)).2.1).toNat) ((outS ((endC (h 34 3) (h 34 4)) * 2 ^ ((h 34) 5).toNat) ((h 34) 2) (h 38)).2.2.1) ((outS ((endC (h 34 3) (h 34 4)) * 2 ^ ((h 34) 5).toNat) ((h 34) 2) (h 38)).2.2.2)).1)) 5 ((outS (((outS ((endC (h 34 3) (h 34 4)) * 2 ^ ((h 34) 5).toNat) ((h 34) 2) (h 38)).1) * 2 ^ ((outS ((endC (h 34 3) (h 34 4)) * 2 ^ ((h 34) 5).toNat) ((h 34) 2) (h 38)).2.1).toNat) ((outS ((endC (h 34 3) (h 34 4)) * 2 ^ ((h 34) 5).toNat) ((h 34) 2) (h 38)).2.2.1) ((outS ((endC (h 34 3) (h 34 4)) * 2 ^ ((h 34) 5).toNat) ((h 34) 2) (h 38)).2.2.2)).2.1))) 38 ((outS (((outS ((endC (h 34 3) (h 34 4)) * 2 ^ ((h 34) 5).toNat) ((h 34) 2) (h 38)).1) * 2 ^ ((outS ((endC (h 34 3) (h 34 4)) * 2 ^ ((h 34) 5).toNat) ((h 34) 2) (h 38)).2.1).toNat) ((outS ((endC (h 34 3) (h 34 4)) * 2 ^ ((h 34) 5).toNat) ((h 34) 2) (h 38)).2.2.1) ((outS ((endC (h 34 3) (h 34 4)) * 2 ^ ((h 34) 5).toNat) ((h 34) 2) (h 38)).2.2.2)).2.2.2)) ((setO_cg ((setO_cg rfl ((fup_cg ((fup_cg ((fup_comm _ _ _ (by decide)).trans (fup_cg ((fup_comm _ _ _ (by decide)).trans (fup_cg (fup_same _ _ _ _)))))).trans ((fup_comm _ _ _ (by decide)).trans (fup_cg (fup_same _ _ _ _))))).trans (fup_same _ _ _ _))).trans ((setO_comm _ _ _ (by decide)).trans (setO_cg (setO_same _ _ _ _) rfl))) rfl).trans (setO_same _ _ _ _)) ?_
    show TT K ly 0 0 74 [(1, vI (((h 34) 4) + ((h 34) 3))), (0, vR 34)] [] (setO (setO h 34 (fup (fup (fup (h 34) 2 ((outS (((outS ((endC (h 34 3) (h 34 4)) * 2 ^ ((h 34) 5).toNat) ((h 34) 2) (h 38)).1) * 2 ^ ((outS ((endC (h 34 3) (h 34 4)) * 2 ^ ((h 34) 5).toNat) ((h 34) 2) (h 38)).2.1).toNat) ((outS ((endC (h 34 3) (h 34 4)) * 2 ^ ((h 34) 5).toNat) ((h 34) 2) (h 38)).2.2.1) ((outS ((endC (h 34 3) (h 34 4)) * 2 ^ ((h 34) 5).toNat) ((h 34) 2) (h 38)).2.2.2)).2.2.1)) 4 ((outS (((outS ((endC (h 34 3) (h 34 4)) * 2 ^ ((h 34) 5).toNat) ((h 34) 2) (h 38)).1) * 2 ^ ((outS ((endC (h 34 3) (h 34 4)) * 2 ^ ((h 34) 5).toNat) ((h 34) 2) (h 38)).2.1).toNat) ((outS ((endC (h 34 3) (h 34 4)) * 2 ^ ((h 34) 5).toNat) ((h 34) 2) (h 38)).2.2.1) ((outS ((endC (h 34 3) (h 34 4)) * 2 ^ ((h 34) 5).toNat) ((h 34) 2) (h 38)).2.2.2)).1)) 5 ((outS (((outS ((endC (h 34 3) (h 34 4)) * 2 ^ ((h 34) 5).toNat) ((h 34) 2) (h 38)).1) * 2 ^ ((outS ((endC (h 34 3) (h 34 4)) * 2 ^ ((h 34) 5).toNat) ((h 34) 2) (h 38)).2.1).toNat) ((outS ((endC (h 34 3) (h 34 4)) * 2 ^ ((h 34) 5).toNat) ((h 34) 2) (h 38)).2.2.1) ((outS ((endC (h 34 3) (h 34 4)) * 2 ^ ((h 34) 5).toNat) ((h 34) 2) (h 38)).2.2.2)).2.1))) 38 ((outS (((outS ((endC (h 34 3) (h 34 4)) * 2 ^ ((h 34) 5).toNat) ((h 34) 2) (h 38)).1) * 2 ^ ((outS ((endC (h 34 3) (h 34 4)) * 2 ^ ((h 34) 5).toNat) ((h 34) 2) (h 38)).2.1).toNat) ((outS ((endC (h 34 3) (h 34 4)) * 2 ^ ((h 34) 5).toNat) ((h 34) 2) (h 38)).2.2.1) ((outS ((endC (h 34 3) (h 34 4)) * 2 ^ ((h 34) 5).toNat) ((h 34) 2) (h 38)).2.2.2)).2.2.2))
    refine TT_vret hK hQ ?_ dX8_end_74
    exact ⟨rfl, setO_cg (setO_cg rfl (by rfl)) (by rfl)⟩
set_option maxRecDepth 20000 in
theorem c_X8_begin_34 (h : Hp_)  : Ctr yX8_begin cX8_begin 1 none (rmd 2) ly ly 0 0 [vR 34] h (fun r h' => r = none ∧ h' = setO (setO (setO (setO h 34 (fup (fup (fup (fup (h 34) 2 1) 3 32768) 4 0) 5 12)) 36 (fup (fup (fup (fsr (h 36) 0 19 (fun _ => 0)) 0 4) 17 3) 18 46)) 37 (fsr (h 37) 0 19 (fun _ => 0))) 38 (fup (h 38) 0 0)) := by
  refine Ctr_of (by decide) (Nat.le_of_ble_eq_true rfl) ⟨Nat.le_refl _, Nat.le_refl _⟩ (fun K hK hQ _ => ?_)
  show TT K ly 0 0 0 [(0, vR 34)] [] h
  refine TT_aload_n hK rfl 0 rfl dX8_begin_0 ?_
  refine gf_X8_12 hK (by decide) rfl (q := 35) rfl rfl dX8_begin_1 ?_
  refine iv_X8_22 hK (c_X2_begin_35 h ) (by decide) rfl ⟨by decide, by decide⟩ (by decide) rfl rfl (Nat.le_of_ble_eq_true rfl) ⟨by decide, by decide⟩ dX8_begin_4 ?_
  intro r9 h9 hp9
  rw [hp9.1, hp9.2]
  show TT K ly 0 0 7 [(0, vR 34)] [] (setO (setO h 36 (fup (fup (fup (fsr (h 36) 0 19 (fun _ => 0)) 0 4) 17 3) 18 46)) 37 (fsr (h 37) 0 19 (fun _ => 0)))
  refine TT_aload_n hK rfl 0 rfl dX8_begin_7 ?_
  refine gf_X8_18 hK (by decide) rfl (q := 38) rfl rfl dX8_begin_8 ?_
  refine TT_iconst hK dX8_begin_11 ?_
  refine TT_iconst hK dX8_begin_12 ?_
  refine TT_iast hK (o := 38) (n := 1024) (by decide) rfl (by first | omega | (simp [up, setR] <;> omega)) (by first | omega | (simp [up, setR] <;> omega)) dX8_begin_13 ?_
  refine TT_hp (h' := setO (setO (setO h 36 (fup (fup (fup (fsr (h 36) 0 19 (fun _ => 0)) 0 4) 17 3) 18 46)) 37 (fsr (h 37) 0 19 (fun _ => 0))) 38 (fup (h 38) 0 0)) (up_can ((sOf_ne _ _ (by decide)).trans (sOf_ne _ _ (by decide))) rfl rfl) ?_
  refine TT_aload_n hK rfl 0 rfl dX8_begin_14 ?_
  refine TT_iconst hK dX8_begin_15 ?_
  refine pf_X8_25 hK (by decide) rfl dX8_begin_16 ?_
  refine TT_hp (h' := setO (setO (setO (setO h 34 (fup (h 34) 2 1)) 36 (fup (fup (fup (fsr (h 36) 0 19 (fun _ => 0)) 0 4) 17 3) 18 46)) 37 (fsr (h 37) 0 19 (fun _ => 0))) 38 (fup (h 38) 0 0)) (up_can ((sOf_ne _ _ (by decide)).trans ((sOf_ne _ _ (by decide)).trans (sOf_ne _ _ (by decide)))) rfl ((setO_comm _ _ _ (by decide)).trans (setO_cg ((setO_comm _ _ _ (by decide)).trans (setO_cg ((setO_comm _ _ _ (by decide)).trans (setO_cg rfl rfl)) rfl)) rfl))) ?_
  refine TT_aload_n hK rfl 0 rfl dX8_begin_19 ?_
  refine TT_ldc hK lc_X8_29 dX8_begin_20 ?_
  refine pf_X8_30 hK (by decide) rfl dX8_begin_22 ?_
  refine TT_hp (h' := setO (setO (setO (setO h 34 (fup (fup (h 34) 2 1) 3 32768)) 36 (fup (fup (fup (fsr (h 36) 0 19 (fun _ => 0)) 0 4) 17 3) 18 46)) 37 (fsr (h 37) 0 19 (fun _ => 0))) 38 (fup (h 38) 0 0)) (up_can ((sOf_ne _ _ (by decide)).trans ((sOf_ne _ _ (by decide)).trans ((sOf_ne _ _ (by decide)).trans (sOf_eq _ _ _)))) rfl ((setO_comm _ _ _ (by decide)).trans (setO_cg ((setO_comm _ _ _ (by decide)).trans (setO_cg ((setO_comm _ _ _ (by decide)).trans (setO_cg (setO_same _ _ _ _) rfl)) rfl)) rfl))) ?_
  refine TT_aload_n hK rfl 0 rfl dX8_begin_25 ?_
  refine TT_iconst hK dX8_begin_26 ?_
  refine pf_X8_33 hK (by decide) rfl dX8_begin_27 ?_
  refine TT_hp (h' := setO (setO (setO (setO h 34 (fup (fup (fup (h 34) 2 1) 3 32768) 4 0)) 36 (fup (fup (fup (fsr (h 36) 0 19 (fun _ => 0)) 0 4) 17 3) 18 46)) 37 (fsr (h 37) 0 19 (fun _ => 0))) 38 (fup (h 38) 0 0)) (up_can ((sOf_ne _ _ (by decide)).trans ((sOf_ne _ _ (by decide)).trans ((sOf_ne _ _ (by decide)).trans (sOf_eq _ _ _)))) rfl ((setO_comm _ _ _ (by decide)).trans (setO_cg ((setO_comm _ _ _ (by decide)).trans (setO_cg ((setO_comm _ _ _ (by decide)).trans (setO_cg (setO_same _ _ _ _) rfl)) rfl)) rfl))) ?_
  refine TT_aload_n hK rfl 0 rfl dX8_begin_30 ?_
  refine TT_bipush hK (by decide) dX8_begin_31 ?_
  refine pf_X8_36 hK (by decide) rfl dX8_begin_33 ?_
  refine TT_hp (h' := setO (setO (setO (setO h 34 (fup (fup (fup (fup (h 34) 2 1) 3 32768) 4 0) 5 12)) 36 (fup (fup (fup (fsr (h 36) 0 19 (fun _ => 0)) 0 4) 17 3) 18 46)) 37 (fsr (h 37) 0 19 (fun _ => 0))) 38 (fup (h 38) 0 0)) (up_can ((sOf_ne _ _ (by decide)).trans ((sOf_ne _ _ (by decide)).trans ((sOf_ne _ _ (by decide)).trans (sOf_eq _ _ _)))) rfl ((setO_comm _ _ _ (by decide)).trans (setO_cg ((setO_comm _ _ _ (by decide)).trans (setO_cg ((setO_comm _ _ _ (by decide)).trans (setO_cg (setO_same _ _ _ _) rfl)) rfl)) rfl))) ?_
  refine TT_vret hK hQ ?_ dX8_begin_36
  exact ⟨rfl, rfl⟩

set_option maxRecDepth 20000 in
theorem c_X12_forget_73 (h : Hp_)  : Ctr yX12_forget cX12_forget 2 none (rmd 0) ly ly 0 0 [vR 73] h (fun r h' => r = none ∧ h' = setO (setO h 96 (fsr (h 96) 0 19 st0)) 97 (fsr (h 97) 0 19 (fun _ => 0))) := by
  refine Ctr_of (by decide) (Nat.le_of_ble_eq_true rfl) ⟨Nat.le_refl _, Nat.le_refl _⟩ (fun K hK hQ _ => ?_)
  show TT K ly 0 0 0 [(0, vR 73)] [] h
  refine TT_iconst hK dX12_forget_0 ?_
  refine TT_istore_n hK rfl (lv' := [(1, vI 0), (0, vR 73)]) (by decide) rfl dX12_forget_1 ?_
  have L2_1 : ∀ (k1 : Nat) (i : Int), (0 ≤ i) → (i ≤ 19) → ((19 : Int) - i).toNat < k1 → TT K ly 0 0 2 [(0, vR 73), (1, vI i)] [] (setO (setO h 96 (fsr (h 96) 0 i st0)) 97 (fsr (h 97) 0 i (fun _ => 0))) := by
    intro k1
    induction k1 with
    | zero => intro i hi0 hi1 hk1; exact absurd hk1 (Nat.not_lt_zero _)
    | succ k1 ih1 =>
      intro i hi0 hi1 hk1
      refine TT_iload_n hK rfl 1 rfl dX12_forget_2 ?_
      refine TT_bipush hK (by decide) dX12_forget_3 ?_
      refine TT_icmp_ge hK (tgt := 57) (irm (by omega) (by omega)) (by decide) dX12_forget_5 (by decide) (fun hb5 => ?_) (fun hb5 => ?_)
      · refine TT_vret hK hQ ?_ dX12_forget_57
        exact ⟨rfl, setO_cg (setO_cg rfl (by rw [show i = 19 by omega])) (by rw [show i = 19 by omega])⟩
      · refine TT_aload_n hK rfl 0 rfl dX12_forget_8 ?_
        refine gf_X12_84 hK (by decide) rfl (q := 96) rfl rfl dX12_forget_9 ?_
        refine TT_iload_n hK rfl 1 rfl dX12_forget_12 ?_
        refine TT_iload_n hK rfl 1 rfl dX12_forget_13 ?_
        refine TT_bipush hK (by decide) dX12_forget_14 ?_
        refine TT_icmp_ne hK (tgt := 24) (irm (by omega) (by omega)) (by decide) dX12_forget_16 (by decide) (fun hb16 => ?_) (fun hb16 => ?_)
        · refine TT_iload_n hK rfl 1 rfl dX12_forget_24 ?_
          refine TT_bipush hK (by decide) dX12_forget_25 ?_
          refine TT_icmp_ne hK (tgt := 34) (irm (by omega) (by omega)) (by decide) dX12_forget_27 (by decide) (fun hb27 => ?_) (fun hb27 => ?_)
          · refine TT_iload_n hK rfl 1 rfl dX12_forget_34 ?_
            refine TT_if_ne hK (tgt := 42) (irm (by omega) (by omega)) dX12_forget_35 (by decide) (fun hb35 => ?_) (fun hb35 => ?_)
            · refine TT_iconst hK dX12_forget_42 ?_
              refine TT_iast hK (o := 96) (n := 19) (by decide) rfl (by first | omega | (simp [up, setR] <;> omega)) (by first | omega | (simp [up, setR] <;> omega)) dX12_forget_43 ?_
              refine TT_hp (h' := setO (setO h 96 (fup (fsr (h 96) 0 i st0) i 0)) 97 (fsr (h 97) 0 i (fun _ => 0))) (up_can ((sOf_ne _ _ (by decide)).trans (sOf_eq _ _ _)) rfl ((setO_comm _ _ _ (by decide)).trans (setO_cg (setO_same _ _ _ _) rfl))) ?_
              refine TT_aload_n hK rfl 0 rfl dX12_forget_44 ?_
              refine gf_X12_87 hK (by decide) rfl (q := 97) rfl rfl dX12_forget_45 ?_
              refine TT_iload_n hK rfl 1 rfl dX12_forget_48 ?_
              refine TT_iconst hK dX12_forget_49 ?_
              refine TT_iast hK (o := 97) (n := 19) (by decide) rfl (by first | omega | (simp [up, setR] <;> omega)) (by first | omega | (simp [up, setR] <;> omega)) dX12_forget_50 ?_
              refine TT_hp (h' := setO (setO h 96 (fup (fsr (h 96) 0 i st0) i 0)) 97 (fup (fsr (h 97) 0 i (fun _ => 0)) i 0)) (up_can (sOf_eq _ _ _) rfl (setO_same _ _ _ _)) ?_
              refine TT_iinc hK (v := i + 1) (lv' := [(1, vI (i + 1)), (0, vR 73)]) 1 rfl rfl (by decide) rfl dX12_forget_51 ?_
              refine TT_goto hK (tgt := 2) dX12_forget_54 (by decide) ?_
              refine TT_sub [1, 0] rfl ?_
              refine TT_hp (h' := setO (setO h 96 (fsr (h 96) 0 (i + 1) st0)) 97 (fsr (h 97) 0 (i + 1) (fun _ => 0))) (setO_cg (setO_cg rfl (by refine fsr_step _ (by omega) ?_; unfold st0; (repeat' split) <;> omega)) (by first | rfl | exact fsr_step _ (by omega) rfl)) ?_
              exact ih1 (i + 1) (by first | omega | (simp [up, setR] <;> omega)) (by first | omega | (simp [up, setR] <;> omega)) (by first | omega | (simp [up, setR] <;> omega))
            · refine TT_iconst hK dX12_forget_38 ?_
              refine TT_goto hK (tgt := 43) dX12_forget_39 (by decide) ?_
              refine TT_iast hK (o := 96) (n := 19) (by decide) rfl (by first | omega | (simp [up, setR] <;> omega)) (by first | omega | (simp [up, setR] <;> omega)) dX12_forget_43 ?_
              refine TT_hp (h' := setO (setO h 96 (fup (fsr (h 96) 0 i st0) i 4)) 97 (fsr (h 97) 0 i (fun _ => 0))) (up_can ((sOf_ne _ _ (by decide)).trans (sOf_eq _ _ _)) rfl ((setO_comm _ _ _ (by decide)).trans (setO_cg (setO_same _ _ _ _) rfl))) ?_
              refine TT_aload_n hK rfl 0 rfl dX12_forget_44 ?_
              refine gf_X12_87 hK (by decide) rfl (q := 97) rfl rfl dX12_forget_45 ?_
              refine TT_iload_n hK rfl 1 rfl dX12_forget_48 ?_
              refine TT_iconst hK dX12_forget_49 ?_
              refine TT_iast hK (o := 97) (n := 19) (by decide) rfl (by first | omega | (simp [up, setR] <;> omega)) (by first | omega | (simp [up, setR] <;> omega)) dX12_forget_50 ?_
              refine TT_hp (h' := setO (setO h 96 (fup (fsr (h 96) 0 i st0) i 4)) 97 (fup (fsr (h 97) 0 i (fun _ => 0)) i 0)) (up_can (sOf_eq _ _ _) rfl (setO_same _ _ _ _)) ?_
              refine TT_iinc hK (v := i + 1) (lv' := [(1, vI (i + 1)), (0, vR 73)]) 1 rfl rfl (by decide) rfl dX12_forget_51 ?_
              refine TT_goto hK (tgt := 2) dX12_forget_54 (by decide) ?_
              refine TT_sub [1, 0] rfl ?_
              refine TT_hp (h' := setO (setO h 96 (fsr (h 96) 0 (i + 1) st0)) 97 (fsr (h 97) 0 (i + 1) (fun _ => 0))) (setO_cg (setO_cg rfl (by refine fsr_step _ (by omega) ?_; unfold st0; (repeat' split) <;> omega)) (by first | rfl | exact fsr_step _ (by omega) rfl)) ?_
              exact ih1 (i + 1) (by first | omega | (simp [up, setR] <;> omega)) (by first | omega | (simp [up, setR] <;> omega)) (by first | omega | (simp [up, setR] <;> omega))
          · refine TT_iconst hK dX12_forget_30 ?_
            refine TT_goto hK (tgt := 43) dX12_forget_31 (by decide) ?_
            refine TT_iast hK (o := 96) (n := 19) (by decide) rfl (by first | omega | (simp [up, setR] <;> omega)) (by first | omega | (simp [up, setR] <;> omega)) dX12_forget_43 ?_
            refine TT_hp (h' := setO (setO h 96 (fup (fsr (h 96) 0 i st0) i 3)) 97 (fsr (h 97) 0 i (fun _ => 0))) (up_can ((sOf_ne _ _ (by decide)).trans (sOf_eq _ _ _)) rfl ((setO_comm _ _ _ (by decide)).trans (setO_cg (setO_same _ _ _ _) rfl))) ?_
            refine TT_aload_n hK rfl 0 rfl dX12_forget_44 ?_
            refine gf_X12_87 hK (by decide) rfl (q := 97) rfl rfl dX12_forget_45 ?_
            refine TT_iload_n hK rfl 1 rfl dX12_forget_48 ?_
            refine TT_iconst hK dX12_forget_49 ?_
            refine TT_iast hK (o := 97) (n := 19) (by decide) rfl (by first | omega | (simp [up, setR] <;> omega)) (by first | omega | (simp [up, setR] <;> omega)) dX12_forget_50 ?_
            refine TT_hp (h' := setO (setO h 96 (fup (fsr (h 96) 0 i st0) i 3)) 97 (fup (fsr (h 97) 0 i (fun _ => 0)) i 0)) (up_can (sOf_eq _ _ _) rfl (setO_same _ _ _ _)) ?_
            refine TT_iinc hK (v := i + 1) (lv' := [(1, vI (i + 1)), (0, vR 73)]) 1 rfl rfl (by decide) rfl dX12_forget_51 ?_
            refine TT_goto hK (tgt := 2) dX12_forget_54 (by decide) ?_
            refine TT_sub [1, 0] rfl ?_
            refine TT_hp (h' := setO (setO h 96 (fsr (h 96) 0 (i + 1) st0)) 97 (fsr (h 97) 0 (i + 1) (fun _ => 0))) (setO_cg (setO_cg rfl (by refine fsr_step _ (by omega) ?_; unfold st0; (repeat' split) <;> omega)) (by first | rfl | exact fsr_step _ (by omega) rfl)) ?_
            exact ih1 (i + 1) (by first | omega | (simp [up, setR] <;> omega)) (by first | omega | (simp [up, setR] <;> omega)) (by first | omega | (simp [up, setR] <;> omega))
        · refine TT_bipush hK (by decide) dX12_forget_19 ?_
          refine TT_goto hK (tgt := 43) dX12_forget_21 (by decide) ?_
          refine TT_iast hK (o := 96) (n := 19) (by decide) rfl (by first | omega | (simp [up, setR] <;> omega)) (by first | omega | (simp [up, setR] <;> omega)) dX12_forget_43 ?_
          refine TT_hp (h' := setO (setO h 96 (fup (fsr (h 96) 0 i st0) i 46)) 97 (fsr (h 97) 0 i (fun _ => 0))) (up_can ((sOf_ne _ _ (by decide)).trans (sOf_eq _ _ _)) rfl ((setO_comm _ _ _ (by decide)).trans (setO_cg (setO_same _ _ _ _) rfl))) ?_
          refine TT_aload_n hK rfl 0 rfl dX12_forget_44 ?_
          refine gf_X12_87 hK (by decide) rfl (q := 97) rfl rfl dX12_forget_45 ?_
          refine TT_iload_n hK rfl 1 rfl dX12_forget_48 ?_
          refine TT_iconst hK dX12_forget_49 ?_
          refine TT_iast hK (o := 97) (n := 19) (by decide) rfl (by first | omega | (simp [up, setR] <;> omega)) (by first | omega | (simp [up, setR] <;> omega)) dX12_forget_50 ?_
          refine TT_hp (h' := setO (setO h 96 (fup (fsr (h 96) 0 i st0) i 46)) 97 (fup (fsr (h 97) 0 i (fun _ => 0)) i 0)) (up_can (sOf_eq _ _ _) rfl (setO_same _ _ _ _)) ?_
          refine TT_iinc hK (v := i + 1) (lv' := [(1, vI (i + 1)), (0, vR 73)]) 1 rfl rfl (by decide) rfl dX12_forget_51 ?_
          refine TT_goto hK (tgt := 2) dX12_forget_54 (by decide) ?_
          refine TT_sub [1, 0] rfl ?_
          refine TT_hp (h' := setO (setO h 96 (fsr (h 96) 0 (i + 1) st0)) 97 (fsr (h 97) 0 (i + 1) (fun _ => 0))) (setO_cg (setO_cg rfl (by refine fsr_step _ (by omega) ?_; unfold st0; (repeat' split) <;> omega)) (by first | rfl | exact fsr_step _ (by omega) rfl)) ?_
          exact ih1 (i + 1) (by first | omega | (simp [up, setR] <;> omega)) (by first | omega | (simp [up, setR] <;> omega)) (by first | omega | (simp [up, setR] <;> omega))
  refine TT_sub [1, 0] rfl ?_
  refine TT_hp (h' := setO (setO h 96 (fsr (h 96) 0 0 st0)) 97 (fsr (h 97) 0 0 (fun _ => 0))) ((setO_new (by first | rfl | exact fsr_0 _ _ _)).trans (setO_cg ((setO_new (by first | rfl | exact fsr_0 _ _ _)).trans (setO_cg rfl rfl)) rfl)) ?_
  exact L2_1 ((((19 : Int) - 0).toNat) + 1) 0 (by first | omega | (simp [up, setR] <;> omega)) (by first | omega | (simp [up, setR] <;> omega)) (Nat.lt_succ_self _)
set_option maxRecDepth 20000 in
theorem c_X12_learn_73 (x oth : Int) (h : Hp_) (hx : 0 ≤ x ∧ x < 19) (ho : oth = 0 ∨ oth = 1) (tb2 : ∀ j, 0 ≤ j → j < 47 → (h 75) j = nmS j * 100 + nlS j) (hst : ∀ j, 0 ≤ j → j < 19 → 0 ≤ (h 96) j ∧ (h 96) j < 47) (hlk : ∀ j, 0 ≤ j → j < 19 → (h 97) j = 0 ∨ (h 97) j = 1) : Ctr yX12_learn cX12_learn 4 none (rmd 0) ly ly 0 0 [vR 73, vI x, vI oth] h (fun r h' => r = none ∧ h' = setO (setO h 96 (lrS (h 96) x (oth = (1 : Int)))) 97 (lrL (h 96) (h 97) x (oth = (1 : Int)))) := by
  refine Ctr_of (by decide) (Nat.le_of_ble_eq_true rfl) ⟨Nat.le_refl _, Nat.le_refl _⟩ (fun K hK hQ _ => ?_)
  show TT K ly 0 0 0 [(0, vR 73), (1, vI x), (2, vI oth)] [] h
  have hs := hst x hx.1 hx.2
  have ht := tab_r hs
  have hl := hlk x hx.1 hx.2
  have tx := tb2 (h 96 x) hs.1 hs.2
  refine TT_aload_n hK rfl 0 rfl dX12_learn_0 ?_
  refine gf_X12_84 hK (by decide) rfl (q := 96) rfl rfl dX12_learn_1 ?_
  refine TT_iload_n hK rfl 1 rfl dX12_learn_4 ?_
  refine TT_iald hK (o := 96) (n := 19) (by decide) rfl (by first | omega | (simp [up, setR] <;> omega)) (by first | omega | (simp [up, setR] <;> omega)) (v := (h 96) x) rfl dX12_learn_5 ?_
  refine TT_istore_n hK rfl (lv' := [(3, vI ((h 96) x)), (0, vR 73), (1, vI x), (2, vI oth)]) (by decide) rfl dX12_learn_6 ?_
  refine TT_iload_n hK rfl 3 rfl dX12_learn_7 ?_
  refine TT_if_eq hK (tgt := 41) (irm (by omega) (by omega)) dX12_learn_8 (by decide) (fun hb8 => ?_) (fun hb8 => ?_)
  · refine TT_aload_n hK rfl 1 rfl dX12_learn_41 ?_
    refine gf_X12_84 hK (by decide) rfl (q := 96) rfl rfl dX12_learn_42 ?_
    refine TT_iload_n hK rfl 2 rfl dX12_learn_45 ?_
    refine TT_iload_n hK rfl 3 rfl dX12_learn_46 ?_
    refine TT_if_eq hK (tgt := 62) (irm (by omega) (by omega)) dX12_learn_47 (by decide) (fun hb47 => ?_) (fun hb47 => ?_)
    · refine TT_aload_n hK rfl 1 rfl dX12_learn_62 ?_
      refine gf_X12_13 hK (by decide) rfl (q := 75) rfl rfl dX12_learn_63 ?_
      refine TT_iload_n hK rfl 0 rfl dX12_learn_66 ?_
      refine TT_iald hK (o := 75) (n := 47) (by decide) rfl (by first | omega | (simp [up, setR] <;> omega)) (by first | omega | (simp [up, setR] <;> omega)) (v := (h 75) ((h 96) x)) rfl dX12_learn_67 ?_
      refine TT_bipush hK (by decide) dX12_learn_68 ?_
      refine TT_idivn hK (irm (by omega) (by omega)) (by decide) (by first | omega | (simp [up, setR] <;> omega)) (by first | omega | (simp [up, setR] <;> omega)) dX12_learn_70 ?_
      refine TT_cgI (b := nmS (h 96 x)) (by rw [tx]; omega) ?_
      refine TT_iast hK (o := 96) (n := 19) (by decide) rfl (by first | omega | (simp [up, setR] <;> omega)) (by first | omega | (simp [up, setR] <;> omega)) dX12_learn_71 ?_
      refine TT_hp (h' := setO h 96 (fup (h 96) x (nmS (h 96 x)))) (up_can rfl rfl rfl) ?_
      refine TT_vret hK hQ ?_ dX12_learn_72
      exact ⟨rfl, (setO_new ((sOf_ne _ _ (by decide)).trans (by unfold lrL; first | rw [if_pos (by omega)] | rw [if_neg (by omega)]))).trans (setO_cg (setO_cg rfl (by unfold lrS; first | rw [if_pos (by omega)] | rw [if_neg (by omega)])) rfl)⟩
    · exfalso; omega
  · refine TT_iload_n hK rfl 0 rfl dX12_learn_11 ?_
    refine TT_if_eq hK (tgt := 27) (irm (by omega) (by omega)) dX12_learn_12 (by decide) (fun hb12 => ?_) (fun hb12 => ?_)
    · refine TT_aload_n hK rfl 1 rfl dX12_learn_27 ?_
      refine gf_X12_87 hK (by decide) rfl (q := 97) rfl rfl dX12_learn_28 ?_
      refine TT_iload_n hK rfl 2 rfl dX12_learn_31 ?_
      refine TT_iconst hK dX12_learn_32 ?_
      refine TT_aload_n hK rfl 1 rfl dX12_learn_33 ?_
      refine gf_X12_87 hK (by decide) rfl (q := 97) rfl rfl dX12_learn_34 ?_
      refine TT_iload_n hK rfl 2 rfl dX12_learn_37 ?_
      refine TT_iald hK (o := 97) (n := 19) (by decide) rfl (by first | omega | (simp [up, setR] <;> omega)) (by first | omega | (simp [up, setR] <;> omega)) (v := (h 97) x) rfl dX12_learn_38 ?_
      refine TT_isub hK dX12_learn_39 ?_
      refine TT_iast hK (o := 97) (n := 19) (by decide) rfl (by first | omega | (simp [up, setR] <;> omega)) (by first | omega | (simp [up, setR] <;> omega)) dX12_learn_40 ?_
      refine TT_hp (h' := setO h 97 (fup (h 97) x (1 - ((h 97) x)))) (up_can rfl rfl rfl) ?_
      refine TT_aload_n hK rfl 1 rfl dX12_learn_41 ?_
      refine gf_X12_84 hK (by decide) rfl (q := 96) rfl rfl dX12_learn_42 ?_
      refine TT_iload_n hK rfl 2 rfl dX12_learn_45 ?_
      refine TT_iload_n hK rfl 3 rfl dX12_learn_46 ?_
      refine TT_if_eq hK (tgt := 62) (irm (by omega) (by omega)) dX12_learn_47 (by decide) (fun hb47 => ?_) (fun hb47 => ?_)
      · exfalso; omega
      · refine TT_aload_n hK rfl 1 rfl dX12_learn_50 ?_
        refine gf_X12_13 hK (by decide) rfl (q := 75) rfl rfl dX12_learn_51 ?_
        refine TT_iload_n hK rfl 0 rfl dX12_learn_54 ?_
        refine TT_iald hK (o := 75) (n := 47) (by decide) rfl (by first | omega | (simp [up, setR] <;> omega)) (by first | omega | (simp [up, setR] <;> omega)) (v := (h 75) ((h 96) x)) (rd_ (sOf_ne _ _ (by decide)) rfl) dX12_learn_55 ?_
        refine TT_bipush hK (by decide) dX12_learn_56 ?_
        refine TT_iremn hK (irm (by omega) (by omega)) (by decide) (by first | omega | (simp [up, setR] <;> omega)) (by first | omega | (simp [up, setR] <;> omega)) dX12_learn_58 ?_
        refine TT_cgI (b := nlS (h 96 x)) (by rw [tx]; omega) ?_
        refine TT_goto hK (tgt := 71) dX12_learn_59 (by decide) ?_
        refine TT_iast hK (o := 96) (n := 19) (by decide) rfl (by first | omega | (simp [up, setR] <;> omega)) (by first | omega | (simp [up, setR] <;> omega)) dX12_learn_71 ?_
        refine TT_hp (h' := setO (setO h 96 (fup (h 96) x (nlS (h 96 x)))) 97 (fup (h 97) x (1 - ((h 97) x)))) (up_can (sOf_ne _ _ (by decide)) rfl ((setO_comm _ _ _ (by decide)).trans (setO_cg rfl rfl))) ?_
        refine TT_vret hK hQ ?_ dX12_learn_72
        exact ⟨rfl, setO_cg (setO_cg rfl (by unfold lrS; first | rw [if_pos (by omega)] | rw [if_neg (by omega)])) (by unfold lrL; first | rw [if_pos (by omega)] | rw [if_neg (by omega)])⟩
    · refine TT_iload_n hK rfl 0 rfl dX12_learn_15 ?_
      refine TT_bipush hK (by decide) dX12_learn_16 ?_
      refine TT_icmp_eq hK (tgt := 27) (irm (by omega) (by omega)) (by decide) dX12_learn_18 (by decide) (fun hb18 => ?_) (fun hb18 => ?_)
      · refine TT_aload_n hK rfl 1 rfl dX12_learn_27 ?_
        refine gf_X12_87 hK (by decide) rfl (q := 97) rfl rfl dX12_learn_28 ?_
        refine TT_iload_n hK rfl 2 rfl dX12_learn_31 ?_
        refine TT_iconst hK dX12_learn_32 ?_
        refine TT_aload_n hK rfl 1 rfl dX12_learn_33 ?_
        refine gf_X12_87 hK (by decide) rfl (q := 97) rfl rfl dX12_learn_34 ?_
        refine TT_iload_n hK rfl 2 rfl dX12_learn_37 ?_
        refine TT_iald hK (o := 97) (n := 19) (by decide) rfl (by first | omega | (simp [up, setR] <;> omega)) (by first | omega | (simp [up, setR] <;> omega)) (v := (h 97) x) rfl dX12_learn_38 ?_
        refine TT_isub hK dX12_learn_39 ?_
        refine TT_iast hK (o := 97) (n := 19) (by decide) rfl (by first | omega | (simp [up, setR] <;> omega)) (by first | omega | (simp [up, setR] <;> omega)) dX12_learn_40 ?_
        refine TT_hp (h' := setO h 97 (fup (h 97) x (1 - ((h 97) x)))) (up_can rfl rfl rfl) ?_
        refine TT_aload_n hK rfl 1 rfl dX12_learn_41 ?_
        refine gf_X12_84 hK (by decide) rfl (q := 96) rfl rfl dX12_learn_42 ?_
        refine TT_iload_n hK rfl 2 rfl dX12_learn_45 ?_
        refine TT_iload_n hK rfl 3 rfl dX12_learn_46 ?_
        refine TT_if_eq hK (tgt := 62) (irm (by omega) (by omega)) dX12_learn_47 (by decide) (fun hb47 => ?_) (fun hb47 => ?_)
        · exfalso; omega
        · refine TT_aload_n hK rfl 1 rfl dX12_learn_50 ?_
          refine gf_X12_13 hK (by decide) rfl (q := 75) rfl rfl dX12_learn_51 ?_
          refine TT_iload_n hK rfl 0 rfl dX12_learn_54 ?_
          refine TT_iald hK (o := 75) (n := 47) (by decide) rfl (by first | omega | (simp [up, setR] <;> omega)) (by first | omega | (simp [up, setR] <;> omega)) (v := (h 75) ((h 96) x)) (rd_ (sOf_ne _ _ (by decide)) rfl) dX12_learn_55 ?_
          refine TT_bipush hK (by decide) dX12_learn_56 ?_
          refine TT_iremn hK (irm (by omega) (by omega)) (by decide) (by first | omega | (simp [up, setR] <;> omega)) (by first | omega | (simp [up, setR] <;> omega)) dX12_learn_58 ?_
          refine TT_cgI (b := nlS (h 96 x)) (by rw [tx]; omega) ?_
          refine TT_goto hK (tgt := 71) dX12_learn_59 (by decide) ?_
          refine TT_iast hK (o := 96) (n := 19) (by decide) rfl (by first | omega | (simp [up, setR] <;> omega)) (by first | omega | (simp [up, setR] <;> omega)) dX12_learn_71 ?_
          refine TT_hp (h' := setO (setO h 96 (fup (h 96) x (nlS (h 96 x)))) 97 (fup (h 97) x (1 - ((h 97) x)))) (up_can (sOf_ne _ _ (by decide)) rfl ((setO_comm _ _ _ (by decide)).trans (setO_cg rfl rfl))) ?_
          refine TT_vret hK hQ ?_ dX12_learn_72
          exact ⟨rfl, setO_cg (setO_cg rfl (by unfold lrS; first | rw [if_pos (by omega)] | rw [if_neg (by omega)])) (by unfold lrL; first | rw [if_pos (by omega)] | rw [if_neg (by omega)])⟩
      · refine TT_iload_n hK rfl 0 rfl dX12_learn_21 ?_
        refine TT_bipush hK (by decide) dX12_learn_22 ?_
        refine TT_icmp_ne hK (tgt := 41) (irm (by omega) (by omega)) (by decide) dX12_learn_24 (by decide) (fun hb24 => ?_) (fun hb24 => ?_)
        · refine TT_aload_n hK rfl 1 rfl dX12_learn_41 ?_
          refine gf_X12_84 hK (by decide) rfl (q := 96) rfl rfl dX12_learn_42 ?_
          refine TT_iload_n hK rfl 2 rfl dX12_learn_45 ?_
          refine TT_iload_n hK rfl 3 rfl dX12_learn_46 ?_
          refine TT_if_eq hK (tgt := 62) (irm (by omega) (by omega)) dX12_learn_47 (by decide) (fun hb47 => ?_) (fun hb47 => ?_)
          · exfalso; omega
          · refine TT_aload_n hK rfl 1 rfl dX12_learn_50 ?_
            refine gf_X12_13 hK (by decide) rfl (q := 75) rfl rfl dX12_learn_51 ?_
            refine TT_iload_n hK rfl 0 rfl dX12_learn_54 ?_
            refine TT_iald hK (o := 75) (n := 47) (by decide) rfl (by first | omega | (simp [up, setR] <;> omega)) (by first | omega | (simp [up, setR] <;> omega)) (v := (h 75) ((h 96) x)) rfl dX12_learn_55 ?_
            refine TT_bipush hK (by decide) dX12_learn_56 ?_
            refine TT_iremn hK (irm (by omega) (by omega)) (by decide) (by first | omega | (simp [up, setR] <;> omega)) (by first | omega | (simp [up, setR] <;> omega)) dX12_learn_58 ?_
            refine TT_cgI (b := nlS (h 96 x)) (by rw [tx]; omega) ?_
            refine TT_goto hK (tgt := 71) dX12_learn_59 (by decide) ?_
            refine TT_iast hK (o := 96) (n := 19) (by decide) rfl (by first | omega | (simp [up, setR] <;> omega)) (by first | omega | (simp [up, setR] <;> omega)) dX12_learn_71 ?_
            refine TT_hp (h' := setO h 96 (fup (h 96) x (nlS (h 96 x)))) (up_can rfl rfl rfl) ?_
            refine TT_vret hK hQ ?_ dX12_learn_72
            exact ⟨rfl, (setO_new ((sOf_ne _ _ (by decide)).trans (by unfold lrL; first | rw [if_pos (by omega)] | rw [if_neg (by omega)]))).trans (setO_cg (setO_cg rfl (by unfold lrS; first | rw [if_pos (by omega)] | rw [if_neg (by omega)])) rfl)⟩
        · refine TT_aload_n hK rfl 1 rfl dX12_learn_27 ?_
          refine gf_X12_87 hK (by decide) rfl (q := 97) rfl rfl dX12_learn_28 ?_
          refine TT_iload_n hK rfl 2 rfl dX12_learn_31 ?_
          refine TT_iconst hK dX12_learn_32 ?_
          refine TT_aload_n hK rfl 1 rfl dX12_learn_33 ?_
          refine gf_X12_87 hK (by decide) rfl (q := 97) rfl rfl dX12_learn_34 ?_
          refine TT_iload_n hK rfl 2 rfl dX12_learn_37 ?_
          refine TT_iald hK (o := 97) (n := 19) (by decide) rfl (by first | omega | (simp [up, setR] <;> omega)) (by first | omega | (simp [up, setR] <;> omega)) (v := (h 97) x) rfl dX12_learn_38 ?_
          refine TT_isub hK dX12_learn_39 ?_
          refine TT_iast hK (o := 97) (n := 19) (by decide) rfl (by first | omega | (simp [up, setR] <;> omega)) (by first | omega | (simp [up, setR] <;> omega)) dX12_learn_40 ?_
          refine TT_hp (h' := setO h 97 (fup (h 97) x (1 - ((h 97) x)))) (up_can rfl rfl rfl) ?_
          refine TT_aload_n hK rfl 1 rfl dX12_learn_41 ?_
          refine gf_X12_84 hK (by decide) rfl (q := 96) rfl rfl dX12_learn_42 ?_
          refine TT_iload_n hK rfl 2 rfl dX12_learn_45 ?_
          refine TT_iload_n hK rfl 3 rfl dX12_learn_46 ?_
          refine TT_if_eq hK (tgt := 62) (irm (by omega) (by omega)) dX12_learn_47 (by decide) (fun hb47 => ?_) (fun hb47 => ?_)
          · exfalso; omega
          · refine TT_aload_n hK rfl 1 rfl dX12_learn_50 ?_
            refine gf_X12_13 hK (by decide) rfl (q := 75) rfl rfl dX12_learn_51 ?_
            refine TT_iload_n hK rfl 0 rfl dX12_learn_54 ?_
            refine TT_iald hK (o := 75) (n := 47) (by decide) rfl (by first | omega | (simp [up, setR] <;> omega)) (by first | omega | (simp [up, setR] <;> omega)) (v := (h 75) ((h 96) x)) (rd_ (sOf_ne _ _ (by decide)) rfl) dX12_learn_55 ?_
            refine TT_bipush hK (by decide) dX12_learn_56 ?_
            refine TT_iremn hK (irm (by omega) (by omega)) (by decide) (by first | omega | (simp [up, setR] <;> omega)) (by first | omega | (simp [up, setR] <;> omega)) dX12_learn_58 ?_
            refine TT_cgI (b := nlS (h 96 x)) (by rw [tx]; omega) ?_
            refine TT_goto hK (tgt := 71) dX12_learn_59 (by decide) ?_
            refine TT_iast hK (o := 96) (n := 19) (by decide) rfl (by first | omega | (simp [up, setR] <;> omega)) (by first | omega | (simp [up, setR] <;> omega)) dX12_learn_71 ?_
            refine TT_hp (h' := setO (setO h 96 (fup (h 96) x (nlS (h 96 x)))) 97 (fup (h 97) x (1 - ((h 97) x)))) (up_can (sOf_ne _ _ (by decide)) rfl ((setO_comm _ _ _ (by decide)).trans (setO_cg rfl rfl))) ?_
            refine TT_vret hK hQ ?_ dX12_learn_72
            exact ⟨rfl, setO_cg (setO_cg rfl (by unfold lrS; first | rw [if_pos (by omega)] | rw [if_neg (by omega)])) (by unfold lrL; first | rw [if_pos (by omega)] | rw [if_neg (by omega)])⟩
set_option maxRecDepth 20000 in
theorem c_X12_putOut_73 (h : Hp_) (hn : 1 ≤ (h 73 36) ∧ (h 73 36) ≤ 3199) (hc : 0 ≤ (h 73 33) ∧ (h 73 33) < 150994944) (hl : 0 ≤ (h 98) ((h 73 36) - 1) ∧ (h 98) ((h 73 36) - 1) ≤ 255) : Ctr yX12_putOut cX12_putOut 4 none (rmd 0) ly ly 0 0 [vR 73] h (fun r h' => r = none ∧ h' = setO (setO h 73 (fup (fup (fup (h 73) 33 ((outS (h 73 33) (h 73 36) (h 98)).1)) 34 ((outS (h 73 33) (h 73 36) (h 98)).2.1)) 36 ((outS (h 73 33) (h 73 36) (h 98)).2.2.1))) 98 ((outS (h 73 33) (h 73 36) (h 98)).2.2.2)) := by
  refine Ctr_of (by decide) (Nat.le_of_ble_eq_true rfl) ⟨Nat.le_refl _, Nat.le_refl _⟩ (fun K hK hQ _ => ?_)
  show TT K ly 0 0 0 [(0, vR 73)] [] h
  refine TT_aload_n hK rfl 0 rfl dX12_putOut_0 ?_
  refine gf_X12_90 hK (by decide) rfl (q := 98) rfl rfl dX12_putOut_1 ?_
  refine TT_aload_n hK rfl 0 rfl dX12_putOut_4 ?_
  refine gf_X12_166 hK (by decide) rfl (v := (h 73) 36) rfl dX12_putOut_5 ?_
  refine TT_iconst hK dX12_putOut_8 ?_
  refine TT_isub hK dX12_putOut_9 ?_
  refine TT_iald hK (o := 98) (n := 3200) (by decide) rfl (by first | omega | (simp [up, setR] <;> omega)) (by first | omega | (simp [up, setR] <;> omega)) (v := (h 98) (((h 73) 36) - 1)) rfl dX12_putOut_10 ?_
  refine TT_sipush hK (by decide) dX12_putOut_11 ?_
  refine TT_icmp_eq hK (tgt := 79) (irm (by omega) (by omega)) (by decide) dX12_putOut_14 (by decide) (fun hb14 => ?_) (fun hb14 => ?_)
  · refine TT_aload_n hK rfl 0 rfl dX12_putOut_79 ?_
    refine gf_X12_90 hK (by decide) rfl (q := 98) rfl rfl dX12_putOut_80 ?_
    refine TT_aload_n hK rfl 0 rfl dX12_putOut_83 ?_
    refine gf_X12_166 hK (by decide) rfl (v := (h 73) 36) rfl dX12_putOut_84 ?_
    refine TT_iconst hK dX12_putOut_87 ?_
    refine TT_isub hK dX12_putOut_88 ?_
    refine TT_iald hK (o := 98) (n := 3200) (by decide) rfl (by first | omega | (simp [up, setR] <;> omega)) (by first | omega | (simp [up, setR] <;> omega)) (v := (h 98) (((h 73) 36) - 1)) rfl dX12_putOut_89 ?_
    refine TT_sipush hK (by decide) dX12_putOut_90 ?_
    refine TT_icmp_ne hK (tgt := 100) (irm (by omega) (by omega)) (by decide) dX12_putOut_93 (by decide) (fun hb93 => ?_) (fun hb93 => ?_)
    · exfalso; omega
    · refine TT_iconst hK dX12_putOut_96 ?_
      refine TT_goto hK (tgt := 101) dX12_putOut_97 (by decide) ?_
      refine TT_istore_n hK rfl (lv' := [(1, vI 1), (0, vR 73)]) (by decide) rfl dX12_putOut_101 ?_
      refine TT_iload_n hK rfl 0 rfl dX12_putOut_102 ?_
      refine TT_if_eq hK (tgt := 112) (by decide) dX12_putOut_103 (by decide) (fun hb103 => ?_) (fun hb103 => ?_)
      · exact absurd hb103 (by decide)
      · refine TT_ldc2 hK lc_X12_183 dX12_putOut_106 ?_
        refine TT_goto hK (tgt := 115) dX12_putOut_109 (by decide) ?_
        refine TT_lstore_n hK rfl (lv' := [(2, vJ 1048576), (1, vI 1), (0, vR 73)]) (by decide) rfl dX12_putOut_115 ?_
        refine TT_aload_n hK rfl 2 rfl dX12_putOut_116 ?_
        refine gf_X12_90 hK (by decide) rfl (q := 98) rfl rfl dX12_putOut_117 ?_
        refine TT_aload_n hK rfl 2 rfl dX12_putOut_120 ?_
        refine gf_X12_166 hK (by decide) rfl (v := (h 73) 36) rfl dX12_putOut_121 ?_
        refine TT_aload_n hK rfl 2 rfl dX12_putOut_124 ?_
        refine gf_X12_175 hK (by decide) rfl (v := (h 73) 33) rfl dX12_putOut_125 ?_
        refine TT_lload_n hK rfl 0 rfl dX12_putOut_128 ?_
        refine TT_ldivn hK (lrm (by omega) (by omega)) (by decide) (by first | omega | (simp [up, setR] <;> omega)) (by first | omega | (simp [up, setR] <;> omega)) dX12_putOut_129 ?_
        refine TT_ldc2 hK lc_X12_187 dX12_putOut_130 ?_
        refine TT_lremn hK (lrm (by omega) (by omega)) (by decide) (by first | omega | (simp [up, setR] <;> omega)) (by first | omega | (simp [up, setR] <;> omega)) dX12_putOut_133 ?_
        refine TT_l2i hK dX12_putOut_134 ?_
        refine TT_iast hK (o := 98) (n := 3200) (by decide) rfl (by first | omega | (simp [up, setR] <;> omega)) (by first | omega | (simp [up, setR] <;> omega)) dX12_putOut_135 ?_
        refine TT_hp (h' := setO h 98 (fup (h 98) ((h 73) 36) ((((h 73) 33) / 1048576) % 256))) (up_can rfl rfl rfl) ?_
        refine TT_aload_n hK rfl 2 rfl dX12_putOut_136 ?_
        refine TT_dup hK rfl dX12_putOut_137 ?_
        refine gf_X12_166 hK (by decide) rfl (v := (h 73) 36) (rd_ (sOf_ne _ _ (by decide)) rfl) dX12_putOut_138 ?_
        refine TT_iconst hK dX12_putOut_141 ?_
        refine TT_iadd hK dX12_putOut_142 ?_
        refine pf_X12_166 hK (by decide) rfl dX12_putOut_143 ?_
        refine TT_hp (h' := setO (setO h 73 (fup (h 73) 36 (((h 73) 36) + 1))) 98 (fup (h 98) ((h 73) 36) ((((h 73) 33) / 1048576) % 256))) (up_can (sOf_ne _ _ (by decide)) rfl ((setO_comm _ _ _ (by decide)).trans (setO_cg rfl rfl))) ?_
        refine TT_aload_n hK rfl 2 rfl dX12_putOut_146 ?_
        refine TT_aload_n hK rfl 2 rfl dX12_putOut_147 ?_
        refine gf_X12_175 hK (by decide) rfl (v := (h 73) 33) (rd_ ((sOf_ne _ _ (by decide)).trans (sOf_eq _ _ _)) (fup_ne _ _ (by decide))) dX12_putOut_148 ?_
        refine TT_lload_n hK rfl 0 rfl dX12_putOut_151 ?_
        refine TT_lremn hK (lrm (by omega) (by omega)) (by decide) (by first | omega | (simp [up, setR] <;> omega)) (by first | omega | (simp [up, setR] <;> omega)) dX12_putOut_152 ?_
        refine pf_X12_175 hK (by decide) rfl dX12_putOut_153 ?_
        refine TT_hp (h' := setO (setO h 73 (fup (fup (h 73) 33 (((h 73) 33) % 1048576)) 36 (((h 73) 36) + 1))) 98 (fup (h 98) ((h 73) 36) ((((h 73) 33) / 1048576) % 256))) (up_can ((sOf_ne _ _ (by decide)).trans (sOf_eq _ _ _)) (fup_comm _ _ _ (by decide)) ((setO_comm _ _ _ (by decide)).trans (setO_cg (setO_same _ _ _ _) rfl))) ?_
        refine TT_aload_n hK rfl 2 rfl dX12_putOut_156 ?_
        refine TT_iload_n hK rfl 1 rfl dX12_putOut_157 ?_
        refine TT_if_eq hK (tgt := 166) (by decide) dX12_putOut_158 (by decide) (fun hb158 => ?_) (fun hb158 => ?_)
        · exact absurd hb158 (by decide)
        · refine TT_bipush hK (by decide) dX12_putOut_161 ?_
          refine TT_goto hK (tgt := 168) dX12_putOut_163 (by decide) ?_
          refine pf_X12_178 hK (by decide) rfl dX12_putOut_168 ?_
          refine TT_hp (h' := setO (setO h 73 (fup (fup (fup (h 73) 33 (((h 73) 33) % 1048576)) 34 7) 36 (((h 73) 36) + 1))) 98 (fup (h 98) ((h 73) 36) ((((h 73) 33) / 1048576) % 256))) (up_can ((sOf_ne _ _ (by decide)).trans (sOf_eq _ _ _)) (fup_comm _ _ _ (by decide)) ((setO_comm _ _ _ (by decide)).trans (setO_cg (setO_same _ _ _ _) rfl))) ?_
          refine TT_vret hK hQ ?_ dX12_putOut_171
          exact ⟨rfl, setO_cg (setO_cg rfl (by first | rw [outS_1 (by omega)] | rw [outS_2 (by omega) (by omega)] | rw [outS_3 (by omega) (by omega) (by omega)] | rw [outS_4 (by omega) (by omega) (by omega)])) (by first | rw [outS_1 (by omega)] | rw [outS_2 (by omega) (by omega)] | rw [outS_3 (by omega) (by omega) (by omega)] | rw [outS_4 (by omega) (by omega) (by omega)])⟩
  · refine TT_aload_n hK rfl 0 rfl dX12_putOut_17 ?_
    refine gf_X12_175 hK (by decide) rfl (v := (h 73) 33) rfl dX12_putOut_18 ?_
    refine TT_ldc2 hK lc_X12_181 dX12_putOut_21 ?_
    refine TT_lcmp hK (lrm (by omega) (by omega)) (by decide) dX12_putOut_24 ?_
    refine TT_if_lt hK (tgt := 79) (lcmp_ir _ _) dX12_putOut_25 (by decide) (fun hb25 => ?_) (fun hb25 => ?_)
    · have hb25 := lcmp_lt hb25
      refine TT_aload_n hK rfl 0 rfl dX12_putOut_79 ?_
      refine gf_X12_90 hK (by decide) rfl (q := 98) rfl rfl dX12_putOut_80 ?_
      refine TT_aload_n hK rfl 0 rfl dX12_putOut_83 ?_
      refine gf_X12_166 hK (by decide) rfl (v := (h 73) 36) rfl dX12_putOut_84 ?_
      refine TT_iconst hK dX12_putOut_87 ?_
      refine TT_isub hK dX12_putOut_88 ?_
      refine TT_iald hK (o := 98) (n := 3200) (by decide) rfl (by first | omega | (simp [up, setR] <;> omega)) (by first | omega | (simp [up, setR] <;> omega)) (v := (h 98) (((h 73) 36) - 1)) rfl dX12_putOut_89 ?_
      refine TT_sipush hK (by decide) dX12_putOut_90 ?_
      refine TT_icmp_ne hK (tgt := 100) (irm (by omega) (by omega)) (by decide) dX12_putOut_93 (by decide) (fun hb93 => ?_) (fun hb93 => ?_)
      · refine TT_iconst hK dX12_putOut_100 ?_
        refine TT_istore_n hK rfl (lv' := [(1, vI 0), (0, vR 73)]) (by decide) rfl dX12_putOut_101 ?_
        refine TT_iload_n hK rfl 0 rfl dX12_putOut_102 ?_
        refine TT_if_eq hK (tgt := 112) (by decide) dX12_putOut_103 (by decide) (fun hb103 => ?_) (fun hb103 => ?_)
        · refine TT_ldc2 hK lc_X12_185 dX12_putOut_112 ?_
          refine TT_lstore_n hK rfl (lv' := [(2, vJ 524288), (1, vI 0), (0, vR 73)]) (by decide) rfl dX12_putOut_115 ?_
          refine TT_aload_n hK rfl 2 rfl dX12_putOut_116 ?_
          refine gf_X12_90 hK (by decide) rfl (q := 98) rfl rfl dX12_putOut_117 ?_
          refine TT_aload_n hK rfl 2 rfl dX12_putOut_120 ?_
          refine gf_X12_166 hK (by decide) rfl (v := (h 73) 36) rfl dX12_putOut_121 ?_
          refine TT_aload_n hK rfl 2 rfl dX12_putOut_124 ?_
          refine gf_X12_175 hK (by decide) rfl (v := (h 73) 33) rfl dX12_putOut_125 ?_
          refine TT_lload_n hK rfl 0 rfl dX12_putOut_128 ?_
          refine TT_ldivn hK (lrm (by omega) (by omega)) (by decide) (by first | omega | (simp [up, setR] <;> omega)) (by first | omega | (simp [up, setR] <;> omega)) dX12_putOut_129 ?_
          refine TT_ldc2 hK lc_X12_187 dX12_putOut_130 ?_
          refine TT_lremn hK (lrm (by omega) (by omega)) (by decide) (by first | omega | (simp [up, setR] <;> omega)) (by first | omega | (simp [up, setR] <;> omega)) dX12_putOut_133 ?_
          refine TT_l2i hK dX12_putOut_134 ?_
          refine TT_iast hK (o := 98) (n := 3200) (by decide) rfl (by first | omega | (simp [up, setR] <;> omega)) (by first | omega | (simp [up, setR] <;> omega)) dX12_putOut_135 ?_
          refine TT_hp (h' := setO h 98 (fup (h 98) ((h 73) 36) ((((h 73) 33) / 524288) % 256))) (up_can rfl rfl rfl) ?_
          refine TT_aload_n hK rfl 2 rfl dX12_putOut_136 ?_
          refine TT_dup hK rfl dX12_putOut_137 ?_
          refine gf_X12_166 hK (by decide) rfl (v := (h 73) 36) (rd_ (sOf_ne _ _ (by decide)) rfl) dX12_putOut_138 ?_
          refine TT_iconst hK dX12_putOut_141 ?_
          refine TT_iadd hK dX12_putOut_142 ?_
          refine pf_X12_166 hK (by decide) rfl dX12_putOut_143 ?_
          refine TT_hp (h' := setO (setO h 73 (fup (h 73) 36 (((h 73) 36) + 1))) 98 (fup (h 98) ((h 73) 36) ((((h 73) 33) / 524288) % 256))) (up_can (sOf_ne _ _ (by decide)) rfl ((setO_comm _ _ _ (by decide)).trans (setO_cg rfl rfl))) ?_
          refine TT_aload_n hK rfl 2 rfl dX12_putOut_146 ?_
          refine TT_aload_n hK rfl 2 rfl dX12_putOut_147 ?_
          refine gf_X12_175 hK (by decide) rfl (v := (h 73) 33) (rd_ ((sOf_ne _ _ (by decide)).trans (sOf_eq _ _ _)) (fup_ne _ _ (by decide))) dX12_putOut_148 ?_
          refine TT_lload_n hK rfl 0 rfl dX12_putOut_151 ?_
          refine TT_lremn hK (lrm (by omega) (by omega)) (by decide) (by first | omega | (simp [up, setR] <;> omega)) (by first | omega | (simp [up, setR] <;> omega)) dX12_putOut_152 ?_
          refine pf_X12_175 hK (by decide) rfl dX12_putOut_153 ?_
          refine TT_hp (h' := setO (setO h 73 (fup (fup (h 73) 33 (((h 73) 33) % 524288)) 36 (((h 73) 36) + 1))) 98 (fup (h 98) ((h 73) 36) ((((h 73) 33) / 524288) % 256))) (up_can ((sOf_ne _ _ (by decide)).trans (sOf_eq _ _ _)) (fup_comm _ _ _ (by decide)) ((setO_comm _ _ _ (by decide)).trans (setO_cg (setO_same _ _ _ _) rfl))) ?_
          refine TT_aload_n hK rfl 2 rfl dX12_putOut_156 ?_
          refine TT_iload_n hK rfl 1 rfl dX12_putOut_157 ?_
          refine TT_if_eq hK (tgt := 166) (by decide) dX12_putOut_158 (by decide) (fun hb158 => ?_) (fun hb158 => ?_)
          · refine TT_bipush hK (by decide) dX12_putOut_166 ?_
            refine pf_X12_178 hK (by decide) rfl dX12_putOut_168 ?_
            refine TT_hp (h' := setO (setO h 73 (fup (fup (fup (h 73) 33 (((h 73) 33) % 524288)) 34 8) 36 (((h 73) 36) + 1))) 98 (fup (h 98) ((h 73) 36) ((((h 73) 33) / 524288) % 256))) (up_can ((sOf_ne _ _ (by decide)).trans (sOf_eq _ _ _)) (fup_comm _ _ _ (by decide)) ((setO_comm _ _ _ (by decide)).trans (setO_cg (setO_same _ _ _ _) rfl))) ?_
            refine TT_vret hK hQ ?_ dX12_putOut_171
            exact ⟨rfl, setO_cg (setO_cg rfl (by first | rw [outS_1 (by omega)] | rw [outS_2 (by omega) (by omega)] | rw [outS_3 (by omega) (by omega) (by omega)] | rw [outS_4 (by omega) (by omega) (by omega)])) (by first | rw [outS_1 (by omega)] | rw [outS_2 (by omega) (by omega)] | rw [outS_3 (by omega) (by omega) (by omega)] | rw [outS_4 (by omega) (by omega) (by omega)])⟩
          · exact absurd hb158 (by decide)
        · exact absurd hb103 (by decide)
      · exfalso; omega
    · have hb25 := lcmp_ge hb25
      refine TT_aload_n hK rfl 0 rfl dX12_putOut_28 ?_
      refine gf_X12_90 hK (by decide) rfl (q := 98) rfl rfl dX12_putOut_29 ?_
      refine TT_aload_n hK rfl 0 rfl dX12_putOut_32 ?_
      refine gf_X12_166 hK (by decide) rfl (v := (h 73) 36) rfl dX12_putOut_33 ?_
      refine TT_iconst hK dX12_putOut_36 ?_
      refine TT_isub hK dX12_putOut_37 ?_
      refine TT_dup2 hK rfl rfl dX12_putOut_38 ?_
      refine TT_iald hK (o := 98) (n := 3200) (by decide) rfl (by first | omega | (simp [up, setR] <;> omega)) (by first | omega | (simp [up, setR] <;> omega)) (v := (h 98) (((h 73) 36) - 1)) rfl dX12_putOut_39 ?_
      refine TT_iconst hK dX12_putOut_40 ?_
      refine TT_iadd hK dX12_putOut_41 ?_
      refine TT_iast hK (o := 98) (n := 3200) (by decide) rfl (by first | omega | (simp [up, setR] <;> omega)) (by first | omega | (simp [up, setR] <;> omega)) dX12_putOut_42 ?_
      refine TT_hp (h' := setO h 98 (fup (h 98) (((h 73) 36) - 1) (((h 98) (((h 73) 36) - 1)) + 1))) (up_can rfl rfl rfl) ?_
      refine TT_aload_n hK rfl 0 rfl dX12_putOut_43 ?_
      refine TT_aload_n hK rfl 0 rfl dX12_putOut_44 ?_
      refine gf_X12_90 hK (by decide) rfl (q := 98) rfl rfl dX12_putOut_45 ?_
      refine TT_aload_n hK rfl 0 rfl dX12_putOut_48 ?_
      refine gf_X12_166 hK (by decide) rfl (v := (h 73) 36) (rd_ (sOf_ne _ _ (by decide)) rfl) dX12_putOut_49 ?_
      refine TT_iconst hK dX12_putOut_52 ?_
      refine TT_isub hK dX12_putOut_53 ?_
      refine TT_iald hK (o := 98) (n := 3200) (by decide) rfl (by first | omega | (simp [up, setR] <;> omega)) (by first | omega | (simp [up, setR] <;> omega)) (v := ((h 98) (((h 73) 36) - 1)) + 1) (rd_ (sOf_eq _ _ _) (fup_eq _ _ _)) dX12_putOut_54 ?_
      refine TT_sipush hK (by decide) dX12_putOut_55 ?_
      refine TT_icmp_ne hK (tgt := 72) (irm (by omega) (by omega)) (by decide) dX12_putOut_58 (by decide) (fun hb58 => ?_) (fun hb58 => ?_)
      · refine TT_aload_n hK rfl 0 rfl dX12_putOut_72 ?_
        refine gf_X12_175 hK (by decide) rfl (v := (h 73) 33) (rd_ (sOf_ne _ _ (by decide)) rfl) dX12_putOut_73 ?_
        refine pf_X12_175 hK (by decide) rfl dX12_putOut_76 ?_
        refine TT_hp (h' := setO (setO h 73 (fup (h 73) 33 ((h 73) 33))) 98 (fup (h 98) (((h 73) 36) - 1) (((h 98) (((h 73) 36) - 1)) + 1))) (up_can (sOf_ne _ _ (by decide)) rfl ((setO_comm _ _ _ (by decide)).trans (setO_cg rfl rfl))) ?_
        refine TT_aload_n hK rfl 0 rfl dX12_putOut_79 ?_
        refine gf_X12_90 hK (by decide) rfl (q := 98) rfl rfl dX12_putOut_80 ?_
        refine TT_aload_n hK rfl 0 rfl dX12_putOut_83 ?_
        refine gf_X12_166 hK (by decide) rfl (v := (h 73) 36) (rd_ ((sOf_ne _ _ (by decide)).trans (sOf_eq _ _ _)) (fup_ne _ _ (by decide))) dX12_putOut_84 ?_
        refine TT_iconst hK dX12_putOut_87 ?_
        refine TT_isub hK dX12_putOut_88 ?_
        refine TT_iald hK (o := 98) (n := 3200) (by decide) rfl (by first | omega | (simp [up, setR] <;> omega)) (by first | omega | (simp [up, setR] <;> omega)) (v := ((h 98) (((h 73) 36) - 1)) + 1) (rd_ (sOf_eq _ _ _) (fup_eq _ _ _)) dX12_putOut_89 ?_
        refine TT_sipush hK (by decide) dX12_putOut_90 ?_
        refine TT_icmp_ne hK (tgt := 100) (irm (by omega) (by omega)) (by decide) dX12_putOut_93 (by decide) (fun hb93 => ?_) (fun hb93 => ?_)
        · refine TT_iconst hK dX12_putOut_100 ?_
          refine TT_istore_n hK rfl (lv' := [(1, vI 0), (0, vR 73)]) (by decide) rfl dX12_putOut_101 ?_
          refine TT_iload_n hK rfl 0 rfl dX12_putOut_102 ?_
          refine TT_if_eq hK (tgt := 112) (by decide) dX12_putOut_103 (by decide) (fun hb103 => ?_) (fun hb103 => ?_)
          · refine TT_ldc2 hK lc_X12_185 dX12_putOut_112 ?_
            refine TT_lstore_n hK rfl (lv' := [(2, vJ 524288), (1, vI 0), (0, vR 73)]) (by decide) rfl dX12_putOut_115 ?_
            refine TT_aload_n hK rfl 2 rfl dX12_putOut_116 ?_
            refine gf_X12_90 hK (by decide) rfl (q := 98) rfl rfl dX12_putOut_117 ?_
            refine TT_aload_n hK rfl 2 rfl dX12_putOut_120 ?_
            refine gf_X12_166 hK (by decide) rfl (v := (h 73) 36) (rd_ ((sOf_ne _ _ (by decide)).trans (sOf_eq _ _ _)) (fup_ne _ _ (by decide))) dX12_putOut_121 ?_
            refine TT_aload_n hK rfl 2 rfl dX12_putOut_124 ?_
            refine gf_X12_175 hK (by decide) rfl (v := (h 73) 33) (rd_ ((sOf_ne _ _ (by decide)).trans (sOf_eq _ _ _)) (fup_eq _ _ _)) dX12_putOut_125 ?_
            refine TT_lload_n hK rfl 0 rfl dX12_putOut_128 ?_
            refine TT_ldivn hK (lrm (by omega) (by omega)) (by decide) (by first | omega | (simp [up, setR] <;> omega)) (by first | omega | (simp [up, setR] <;> omega)) dX12_putOut_129 ?_
            refine TT_ldc2 hK lc_X12_187 dX12_putOut_130 ?_
            refine TT_lremn hK (lrm (by omega) (by omega)) (by decide) (by first | omega | (simp [up, setR] <;> omega)) (by first | omega | (simp [up, setR] <;> omega)) dX12_putOut_133 ?_
            refine TT_l2i hK dX12_putOut_134 ?_
            refine TT_iast hK (o := 98) (n := 3200) (by decide) rfl (by first | omega | (simp [up, setR] <;> omega)) (by first | omega | (simp [up, setR] <;> omega)) dX12_putOut_135 ?_
            refine TT_hp (h' := setO (setO h 73 (fup (h 73) 33 ((h 73) 33))) 98 (fup (fup (h 98) (((h 73) 36) - 1) (((h 98) (((h 73) 36) - 1)) + 1)) ((h 73) 36) ((((h 73) 33) / 524288) % 256))) (up_can (sOf_eq _ _ _) rfl (setO_same _ _ _ _)) ?_
            refine TT_aload_n hK rfl 2 rfl dX12_putOut_136 ?_
            refine TT_dup hK rfl dX12_putOut_137 ?_
            refine gf_X12_166 hK (by decide) rfl (v := (h 73) 36) (rd_ ((sOf_ne _ _ (by decide)).trans (sOf_eq _ _ _)) (fup_ne _ _ (by decide))) dX12_putOut_138 ?_
            refine TT_iconst hK dX12_putOut_141 ?_
            refine TT_iadd hK dX12_putOut_142 ?_
            refine pf_X12_166 hK (by decide) rfl dX12_putOut_143 ?_
            refine TT_hp (h' := setO (setO h 73 (fup (fup (h 73) 33 ((h 73) 33)) 36 (((h 73) 36) + 1))) 98 (fup (fup (h 98) (((h 73) 36) - 1) (((h 98) (((h 73) 36) - 1)) + 1)) ((h 73) 36) ((((h 73) 33) / 524288) % 256))) (up_can ((sOf_ne _ _ (by decide)).trans (sOf_eq _ _ _)) rfl ((setO_comm _ _ _ (by decide)).trans (setO_cg (setO_same _ _ _ _) rfl))) ?_
            refine TT_aload_n hK rfl 2 rfl dX12_putOut_146 ?_
            refine TT_aload_n hK rfl 2 rfl dX12_putOut_147 ?_
            refine gf_X12_175 hK (by decide) rfl (v := (h 73) 33) (rd_ ((sOf_ne _ _ (by decide)).trans (sOf_eq _ _ _)) ((fup_ne _ _ (by decide)).trans (fup_eq _ _ _))) dX12_putOut_148 ?_
            refine TT_lload_n hK rfl 0 rfl dX12_putOut_151 ?_
            refine TT_lremn hK (lrm (by omega) (by omega)) (by decide) (by first | omega | (simp [up, setR] <;> omega)) (by first | omega | (simp [up, setR] <;> omega)) dX12_putOut_152 ?_
            refine pf_X12_175 hK (by decide) rfl dX12_putOut_153 ?_
            refine TT_hp (h' := setO (setO h 73 (fup (fup (h 73) 33 (((h 73) 33) % 524288)) 36 (((h 73) 36) + 1))) 98 (fup (fup (h 98) (((h 73) 36) - 1) (((h 98) (((h 73) 36) - 1)) + 1)) ((h 73) 36) ((((h 73) 33) / 524288) % 256))) (up_can ((sOf_ne _ _ (by decide)).trans (sOf_eq _ _ _)) ((fup_comm _ _ _ (by decide)).trans (fup_cg (fup_same _ _ _ _))) ((setO_comm _ _ _ (by decide)).trans (setO_cg (setO_same _ _ _ _) rfl))) ?_
            refine TT_aload_n hK rfl 2 rfl dX12_putOut_156 ?_
            refine TT_iload_n hK rfl 1 rfl dX12_putOut_157 ?_
            refine TT_if_eq hK (tgt := 166) (by decide) dX12_putOut_158 (by decide) (fun hb158 => ?_) (fun hb158 => ?_)
            · refine TT_bipush hK (by decide) dX12_putOut_166 ?_
              refine pf_X12_178 hK (by decide) rfl dX12_putOut_168 ?_
              refine TT_hp (h' := setO (setO h 73 (fup (fup (fup (h 73) 33 (((h 73) 33) % 524288)) 34 8) 36 (((h 73) 36) + 1))) 98 (fup (fup (h 98) (((h 73) 36) - 1) (((h 98) (((h 73) 36) - 1)) + 1)) ((h 73) 36) ((((h 73) 33) / 524288) % 256))) (up_can ((sOf_ne _ _ (by decide)).trans (sOf_eq _ _ _)) (fup_comm _ _ _ (by decide)) ((setO_comm _ _ _ (by decide)).trans (setO_cg (setO_same _ _ _ _) rfl))) ?_
              refine TT_vret hK hQ ?_ dX12_putOut_171
              exact ⟨rfl, setO_cg (setO_cg rfl (by first | rw [outS_1 (by omega)] | rw [outS_2 (by omega) (by omega)] | rw [outS_3 (by omega) (by omega) (by omega)] | rw [outS_4 (by omega) (by omega) (by omega)])) (by first | rw [outS_1 (by omega)] | rw [outS_2 (by omega) (by omega)] | rw [outS_3 (by omega) (by omega) (by omega)] | rw [outS_4 (by omega) (by omega) (by omega)])⟩
            · exact absurd hb158 (by decide)
          · exact absurd hb103 (by decide)
        · exfalso; omega
      · refine TT_aload_n hK rfl 0 rfl dX12_putOut_61 ?_
        refine gf_X12_175 hK (by decide) rfl (v := (h 73) 33) (rd_ (sOf_ne _ _ (by decide)) rfl) dX12_putOut_62 ?_
        refine TT_ldc2 hK lc_X12_181 dX12_putOut_65 ?_
        refine TT_lsub hK dX12_putOut_68 ?_
        refine TT_goto hK (tgt := 76) dX12_putOut_69 (by decide) ?_
        refine pf_X12_175 hK (by decide) rfl dX12_putOut_76 ?_
        refine TT_hp (h' := setO (setO h 73 (fup (h 73) 33 (((h 73) 33) - 134217728))) 98 (fup (h 98) (((h 73) 36) - 1) (((h 98) (((h 73) 36) - 1)) + 1))) (up_can (sOf_ne _ _ (by decide)) rfl ((setO_comm _ _ _ (by decide)).trans (setO_cg rfl rfl))) ?_
        refine TT_aload_n hK rfl 0 rfl dX12_putOut_79 ?_
        refine gf_X12_90 hK (by decide) rfl (q := 98) rfl rfl dX12_putOut_80 ?_
        refine TT_aload_n hK rfl 0 rfl dX12_putOut_83 ?_
        refine gf_X12_166 hK (by decide) rfl (v := (h 73) 36) (rd_ ((sOf_ne _ _ (by decide)).trans (sOf_eq _ _ _)) (fup_ne _ _ (by decide))) dX12_putOut_84 ?_
        refine TT_iconst hK dX12_putOut_87 ?_
        refine TT_isub hK dX12_putOut_88 ?_
        refine TT_iald hK (o := 98) (n := 3200) (by decide) rfl (by first | omega | (simp [up, setR] <;> omega)) (by first | omega | (simp [up, setR] <;> omega)) (v := ((h 98) (((h 73) 36) - 1)) + 1) (rd_ (sOf_eq _ _ _) (fup_eq _ _ _)) dX12_putOut_89 ?_
        refine TT_sipush hK (by decide) dX12_putOut_90 ?_
        refine TT_icmp_ne hK (tgt := 100) (irm (by omega) (by omega)) (by decide) dX12_putOut_93 (by decide) (fun hb93 => ?_) (fun hb93 => ?_)
        · exfalso; omega
        · refine TT_iconst hK dX12_putOut_96 ?_
          refine TT_goto hK (tgt := 101) dX12_putOut_97 (by decide) ?_
          refine TT_istore_n hK rfl (lv' := [(1, vI 1), (0, vR 73)]) (by decide) rfl dX12_putOut_101 ?_
          refine TT_iload_n hK rfl 0 rfl dX12_putOut_102 ?_
          refine TT_if_eq hK (tgt := 112) (by decide) dX12_putOut_103 (by decide) (fun hb103 => ?_) (fun hb103 => ?_)
          · exact absurd hb103 (by decide)
          · refine TT_ldc2 hK lc_X12_183 dX12_putOut_106 ?_
            refine TT_goto hK (tgt := 115) dX12_putOut_109 (by decide) ?_
            refine TT_lstore_n hK rfl (lv' := [(2, vJ 1048576), (1, vI 1), (0, vR 73)]) (by decide) rfl dX12_putOut_115 ?_
            refine TT_aload_n hK rfl 2 rfl dX12_putOut_116 ?_
            refine gf_X12_90 hK (by decide) rfl (q := 98) rfl rfl dX12_putOut_117 ?_
            refine TT_aload_n hK rfl 2 rfl dX12_putOut_120 ?_
            refine gf_X12_166 hK (by decide) rfl (v := (h 73) 36) (rd_ ((sOf_ne _ _ (by decide)).trans (sOf_eq _ _ _)) (fup_ne _ _ (by decide))) dX12_putOut_121 ?_
            refine TT_aload_n hK rfl 2 rfl dX12_putOut_124 ?_
            refine gf_X12_175 hK (by decide) rfl (v := ((h 73) 33) - 134217728) (rd_ ((sOf_ne _ _ (by decide)).trans (sOf_eq _ _ _)) (fup_eq _ _ _)) dX12_putOut_125 ?_
            refine TT_lload_n hK rfl 0 rfl dX12_putOut_128 ?_
            refine TT_ldivn hK (lrm (by omega) (by omega)) (by decide) (by first | omega | (simp [up, setR] <;> omega)) (by first | omega | (simp [up, setR] <;> omega)) dX12_putOut_129 ?_
            refine TT_ldc2 hK lc_X12_187 dX12_putOut_130 ?_
            refine TT_lremn hK (lrm (by omega) (by omega)) (by decide) (by first | omega | (simp [up, setR] <;> omega)) (by first | omega | (simp [up, setR] <;> omega)) dX12_putOut_133 ?_
            refine TT_l2i hK dX12_putOut_134 ?_
            refine TT_iast hK (o := 98) (n := 3200) (by decide) rfl (by first | omega | (simp [up, setR] <;> omega)) (by first | omega | (simp [up, setR] <;> omega)) dX12_putOut_135 ?_
            refine TT_hp (h' := setO (setO h 73 (fup (h 73) 33 (((h 73) 33) - 134217728))) 98 (fup (fup (h 98) (((h 73) 36) - 1) (((h 98) (((h 73) 36) - 1)) + 1)) ((h 73) 36) (((((h 73) 33) - 134217728) / 1048576) % 256))) (up_can (sOf_eq _ _ _) rfl (setO_same _ _ _ _)) ?_
            refine TT_aload_n hK rfl 2 rfl dX12_putOut_136 ?_
            refine TT_dup hK rfl dX12_putOut_137 ?_
            refine gf_X12_166 hK (by decide) rfl (v := (h 73) 36) (rd_ ((sOf_ne _ _ (by decide)).trans (sOf_eq _ _ _)) (fup_ne _ _ (by decide))) dX12_putOut_138 ?_
            refine TT_iconst hK dX12_putOut_141 ?_
            refine TT_iadd hK dX12_putOut_142 ?_
            refine pf_X12_166 hK (by decide) rfl dX12_putOut_143 ?_
            refine TT_hp (h' := setO (setO h 73 (fup (fup (h 73) 33 (((h 73) 33) - 134217728)) 36 (((h 73) 36) + 1))) 98 (fup (fup (h 98) (((h 73) 36) - 1) (((h 98) (((h 73) 36) - 1)) + 1)) ((h 73) 36) (((((h 73) 33) - 134217728) / 1048576) % 256))) (up_can ((sOf_ne _ _ (by decide)).trans (sOf_eq _ _ _)) rfl ((setO_comm _ _ _ (by decide)).trans (setO_cg (setO_same _ _ _ _) rfl))) ?_
            refine TT_aload_n hK rfl 2 rfl dX12_putOut_146 ?_
            refine TT_aload_n hK rfl 2 rfl dX12_putOut_147 ?_
            refine gf_X12_175 hK (by decide) rfl (v := ((h 73) 33) - 134217728) (rd_ ((sOf_ne _ _ (by decide)).trans (sOf_eq _ _ _)) ((fup_ne _ _ (by decide)).trans (fup_eq _ _ _))) dX12_putOut_148 ?_
            refine TT_lload_n hK rfl 0 rfl dX12_putOut_151 ?_
            refine TT_lremn hK (lrm (by omega) (by omega)) (by decide) (by first | omega | (simp [up, setR] <;> omega)) (by first | omega | (simp [up, setR] <;> omega)) dX12_putOut_152 ?_
            refine pf_X12_175 hK (by decide) rfl dX12_putOut_153 ?_
            refine TT_hp (h' := setO (setO h 73 (fup (fup (h 73) 33 ((((h 73) 33) - 134217728) % 1048576)) 36 (((h 73) 36) + 1))) 98 (fup (fup (h 98) (((h 73) 36) - 1) (((h 98) (((h 73) 36) - 1)) + 1)) ((h 73) 36) (((((h 73) 33) - 134217728) / 1048576) % 256))) (up_can ((sOf_ne _ _ (by decide)).trans (sOf_eq _ _ _)) ((fup_comm _ _ _ (by decide)).trans (fup_cg (fup_same _ _ _ _))) ((setO_comm _ _ _ (by decide)).trans (setO_cg (setO_same _ _ _ _) rfl))) ?_
            refine TT_aload_n hK rfl 2 rfl dX12_putOut_156 ?_
            refine TT_iload_n hK rfl 1 rfl dX12_putOut_157 ?_
            refine TT_if_eq hK (tgt := 166) (by decide) dX12_putOut_158 (by decide) (fun hb158 => ?_) (fun hb158 => ?_)
            · exact absurd hb158 (by decide)
            · refine TT_bipush hK (by decide) dX12_putOut_161 ?_
              refine TT_goto hK (tgt := 168) dX12_putOut_163 (by decide) ?_
              refine pf_X12_178 hK (by decide) rfl dX12_putOut_168 ?_
              refine TT_hp (h' := setO (setO h 73 (fup (fup (fup (h 73) 33 ((((h 73) 33) - 134217728) % 1048576)) 34 7) 36 (((h 73) 36) + 1))) 98 (fup (fup (h 98) (((h 73) 36) - 1) (((h 98) (((h 73) 36) - 1)) + 1)) ((h 73) 36) (((((h 73) 33) - 134217728) / 1048576) % 256))) (up_can ((sOf_ne _ _ (by decide)).trans (sOf_eq _ _ _)) (fup_comm _ _ _ (by decide)) ((setO_comm _ _ _ (by decide)).trans (setO_cg (setO_same _ _ _ _) rfl))) ?_
              refine TT_vret hK hQ ?_ dX12_putOut_171
              exact ⟨rfl, setO_cg (setO_cg rfl (by first | rw [outS_1 (by omega)] | rw [outS_2 (by omega) (by omega)] | rw [outS_3 (by omega) (by omega) (by omega)] | rw [outS_4 (by omega) (by omega) (by omega)])) (by first | rw [outS_1 (by omega)] | rw [outS_2 (by omega) (by omega)] | rw [outS_3 (by omega) (by omega) (by omega)] | rw [outS_4 (by omega) (by omega) (by omega)])⟩
set_option maxRecDepth 20000 in
theorem c_X12_tellBit_73 (x b : Int) (h : Hp_) (hx : 0 ≤ x ∧ x < 19) (hb : b = 0 ∨ b = 1) (tb1 : ∀ j, 0 ≤ j → j < 47 → (h 74) j = qS j) (tb2 : ∀ j, 0 ≤ j → j < 47 → (h 75) j = nmS j * 100 + nlS j) (hst : ∀ j, 0 ≤ j → j < 19 → 0 ≤ (h 96) j ∧ (h 96) j < 47) (hlk : ∀ j, 0 ≤ j → j < 19 → (h 97) j = 0 ∨ (h 97) j = 1) (hq : MQ_ (h 73 32) (h 73 33) (h 73 34) (h 73 36) (h 98)) (ha : 32768 ≤ (h 73 32)) (hn : (h 73 36) ≤ 3190) : Ctr yX12_tellBit cX12_tellBit 7 (some .int) (rmd 1) ly ly 0 0 [vR 73, vI x, vI b] h (fun r h' => r = some (vI (b)) ∧ h' = setO (setO (setO (setO h 73 (fup (fup (fup (fup (h 73) 32 ((tellS ((h 73 32), (h 73 33), (h 73 34), (h 73 36), (h 96), (h 97), (h 98)) x b).1)) 33 ((tellS ((h 73 32), (h 73 33), (h 73 34), (h 73 36), (h 96), (h 97), (h 98)) x b).2.1)) 34 ((tellS ((h 73 32), (h 73 33), (h 73 34), (h 73 36), (h 96), (h 97), (h 98)) x b).2.2.1)) 36 ((tellS ((h 73 32), (h 73 33), (h 73 34), (h 73 36), (h 96), (h 97), (h 98)) x b).2.2.2.1))) 96 ((tellS ((h 73 32), (h 73 33), (h 73 34), (h 73 36), (h 96), (h 97), (h 98)) x b).2.2.2.2.1)) 97 ((tellS ((h 73 32), (h 73 33), (h 73 34), (h 73 36), (h 96), (h 97), (h 98)) x b).2.2.2.2.2.1)) 98 ((tellS ((h 73 32), (h 73 33), (h 73 34), (h 73 36), (h 96), (h 97), (h 98)) x b).2.2.2.2.2.2)) := by
  refine Ctr_of (by decide) (Nat.le_of_ble_eq_true rfl) ⟨Nat.le_refl _, Nat.le_refl _⟩ (fun K hK hQ _ => ?_)
  show TT K ly 0 0 0 [(0, vR 73), (1, vI x), (2, vI b)] [] h
  have hs := hst x hx.1 hx.2
  have ht := (tab_r hs).1
  have hl := hlk x hx.1 hx.2
  have hc := hq.c_r
  have tq := tb1 (h 96 x) hs.1 hs.2
  have hq2 := hq.2.1
  have hq4 := hq.2.2.2.1
  refine TT_aload_n hK rfl 0 rfl dX12_tellBit_0 ?_
  refine gf_X12_7 hK (by decide) rfl (q := 74) rfl rfl dX12_tellBit_1 ?_
  refine TT_aload_n hK rfl 0 rfl dX12_tellBit_4 ?_
  refine gf_X12_84 hK (by decide) rfl (q := 96) rfl rfl dX12_tellBit_5 ?_
  refine TT_iload_n hK rfl 1 rfl dX12_tellBit_8 ?_
  refine TT_iald hK (o := 96) (n := 19) (by decide) rfl (by first | omega | (simp [up, setR] <;> omega)) (by first | omega | (simp [up, setR] <;> omega)) (v := (h 96) x) rfl dX12_tellBit_9 ?_
  refine TT_iald hK (o := 74) (n := 47) (by decide) rfl (by first | omega | (simp [up, setR] <;> omega)) (by first | omega | (simp [up, setR] <;> omega)) (v := (h 74) ((h 96) x)) rfl dX12_tellBit_10 ?_
  refine TT_cgI (b := qS (h 96 x)) (by exact tq) ?_
  refine TT_istore_n hK rfl (lv' := [(3, vI (qS (h 96 x))), (0, vR 73), (1, vI x), (2, vI b)]) (by decide) rfl dX12_tellBit_11 ?_
  refine TT_iload_n hK rfl 3 rfl dX12_tellBit_12 ?_
  refine TT_aload_n hK rfl 1 rfl dX12_tellBit_13 ?_
  refine gf_X12_87 hK (by decide) rfl (q := 97) rfl rfl dX12_tellBit_14 ?_
  refine TT_iload_n hK rfl 2 rfl dX12_tellBit_17 ?_
  refine TT_iald hK (o := 97) (n := 19) (by decide) rfl (by first | omega | (simp [up, setR] <;> omega)) (by first | omega | (simp [up, setR] <;> omega)) (v := (h 97) x) rfl dX12_tellBit_18 ?_
  refine TT_icmp_eq hK (tgt := 26) (irm (by omega) (by omega)) (irm (by omega) (by omega)) dX12_tellBit_19 (by decide) (fun hb19 => ?_) (fun hb19 => ?_)
  · refine TT_iconst hK dX12_tellBit_26 ?_
    refine TT_istore hK (lv' := [(4, vI 0), (3, vI (qS (h 96 x))), (0, vR 73), (1, vI x), (2, vI b)]) (by decide) rfl dX12_tellBit_27 ?_
    refine TT_aload_n hK rfl 2 rfl dX12_tellBit_29 ?_
    refine TT_aload_n hK rfl 2 rfl dX12_tellBit_30 ?_
    refine gf_X12_171 hK (by decide) rfl (v := (h 73) 32) rfl dX12_tellBit_31 ?_
    refine TT_iload_n hK rfl 1 rfl dX12_tellBit_34 ?_
    refine TT_i2l hK (irm (by omega) (by omega)) dX12_tellBit_35 ?_
    refine TT_lsub hK dX12_tellBit_36 ?_
    refine pf_X12_171 hK (by decide) rfl dX12_tellBit_37 ?_
    refine TT_hp (h' := setO h 73 (fup (h 73) 32 (((h 73) 32) - (qS (h 96 x))))) (up_can rfl rfl rfl) ?_
    refine TT_iload hK 0 rfl dX12_tellBit_40 ?_
    refine TT_if_ne hK (tgt := 69) (by decide) dX12_tellBit_42 (by decide) (fun hb42 => ?_) (fun hb42 => ?_)
    · exact absurd hb42 (by decide)
    · refine TT_aload_n hK rfl 2 rfl dX12_tellBit_45 ?_
      refine gf_X12_171 hK (by decide) rfl (v := ((h 73) 32) - (qS (h 96 x))) (rd_ (sOf_eq _ _ _) (fup_eq _ _ _)) dX12_tellBit_46 ?_
      refine TT_ldc2 hK lc_X12_169 dX12_tellBit_49 ?_
      refine TT_lcmp hK (lrm (by omega) (by omega)) (by decide) dX12_tellBit_52 ?_
      refine TT_if_lt hK (tgt := 69) (lcmp_ir _ _) dX12_tellBit_53 (by decide) (fun hb53 => ?_) (fun hb53 => ?_)
      · have hb53 := lcmp_lt hb53
        refine TT_aload_n hK rfl 2 rfl dX12_tellBit_69 ?_
        refine gf_X12_171 hK (by decide) rfl (v := ((h 73) 32) - (qS (h 96 x))) (rd_ (sOf_eq _ _ _) (fup_eq _ _ _)) dX12_tellBit_70 ?_
        refine TT_iload_n hK rfl 1 rfl dX12_tellBit_73 ?_
        refine TT_i2l hK (irm (by omega) (by omega)) dX12_tellBit_74 ?_
        refine TT_lcmp hK (lrm (by omega) (by omega)) (lrm (by omega) (by omega)) dX12_tellBit_75 ?_
        refine TT_if_ge hK (tgt := 83) (lcmp_ir _ _) dX12_tellBit_76 (by decide) (fun hb76 => ?_) (fun hb76 => ?_)
        · have hb76 := lcmp_ge hb76
          refine TT_iconst hK dX12_tellBit_83 ?_
          refine TT_istore hK (lv' := [(5, vI 0), (4, vI 0), (3, vI (qS (h 96 x))), (0, vR 73), (1, vI x), (2, vI b)]) (by decide) rfl dX12_tellBit_84 ?_
          refine TT_iload hK 1 rfl dX12_tellBit_86 ?_
          refine TT_iload hK 0 rfl dX12_tellBit_88 ?_
          refine TT_icmp_eq hK (tgt := 97) (by decide) (by decide) dX12_tellBit_90 (by decide) (fun hb90 => ?_) (fun hb90 => ?_)
          · refine TT_iconst hK dX12_tellBit_97 ?_
            refine TT_istore hK (lv' := [(6, vI 0), (5, vI 0), (4, vI 0), (3, vI (qS (h 96 x))), (0, vR 73), (1, vI x), (2, vI b)]) (by decide) rfl dX12_tellBit_98 ?_
            refine TT_aload_n hK rfl 4 rfl dX12_tellBit_100 ?_
            refine TT_iload hK 0 rfl dX12_tellBit_101 ?_
            refine TT_if_eq hK (tgt := 113) (by decide) dX12_tellBit_103 (by decide) (fun hb103 => ?_) (fun hb103 => ?_)
            · refine TT_aload_n hK rfl 4 rfl dX12_tellBit_113 ?_
              refine gf_X12_175 hK (by decide) rfl (v := (h 73) 33) (rd_ (sOf_eq _ _ _) (fup_ne _ _ (by decide))) dX12_tellBit_114 ?_
              refine TT_iload_n hK rfl 3 rfl dX12_tellBit_117 ?_
              refine TT_i2l hK (irm (by omega) (by omega)) dX12_tellBit_118 ?_
              refine TT_ladd hK dX12_tellBit_119 ?_
              refine pf_X12_175 hK (by decide) rfl dX12_tellBit_120 ?_
              refine TT_hp (h' := setO h 73 (fup (fup (h 73) 32 (((h 73) 32) - (qS (h 96 x)))) 33 (((h 73) 33) + (qS (h 96 x))))) (up_can (sOf_eq _ _ _) rfl (setO_same _ _ _ _)) ?_
              refine TT_aload_n hK rfl 4 rfl dX12_tellBit_123 ?_
              refine TT_iload hK 0 rfl dX12_tellBit_124 ?_
              refine TT_if_eq hK (tgt := 134) (by decide) dX12_tellBit_126 (by decide) (fun hb126 => ?_) (fun hb126 => ?_)
              · refine TT_aload_n hK rfl 4 rfl dX12_tellBit_134 ?_
                refine gf_X12_171 hK (by decide) rfl (v := ((h 73) 32) - (qS (h 96 x))) (rd_ (sOf_eq _ _ _) ((fup_ne _ _ (by decide)).trans (fup_eq _ _ _))) dX12_tellBit_135 ?_
                refine pf_X12_171 hK (by decide) rfl dX12_tellBit_138 ?_
                refine TT_hp (h' := setO h 73 (fup (fup (h 73) 32 (((h 73) 32) - (qS (h 96 x)))) 33 (((h 73) 33) + (qS (h 96 x))))) (up_can (sOf_eq _ _ _) ((fup_comm _ _ _ (by decide)).trans (fup_cg (fup_same _ _ _ _))) (setO_same _ _ _ _)) ?_
                refine TT_aload_n hK rfl 4 rfl dX12_tellBit_141 ?_
                refine TT_iload_n hK rfl 5 rfl dX12_tellBit_142 ?_
                refine TT_iload hK 2 rfl dX12_tellBit_143 ?_
                have q145_75 : (setO h 73 (fup (fup (h 73) 32 (((h 73) 32) - (qS (h 96 x)))) 33 (((h 73) 33) + (qS (h 96 x))))) 75 = h 75 := sOf_ne _ _ (by decide)
                have q145_96 : (setO h 73 (fup (fup (h 73) 32 (((h 73) 32) - (qS (h 96 x)))) 33 (((h 73) 33) + (qS (h 96 x))))) 96 = h 96 := sOf_ne _ _ (by decide)
                have q145_97 : (setO h 73 (fup (fup (h 73) 32 (((h 73) 32) - (qS (h 96 x)))) 33 (((h 73) 33) + (qS (h 96 x))))) 97 = h 97 := sOf_ne _ _ (by decide)
                refine iv_X12_189 hK (c_X12_learn_73 x 0 (setO h 73 (fup (fup (h 73) 32 (((h 73) 32) - (qS (h 96 x)))) 33 (((h 73) 33) + (qS (h 96 x))))) (by first | omega | (simp [up, setR] <;> omega)) (by decide) (by rw [q145_75]; exact tb2) (by rw [q145_96]; exact hst) (by rw [q145_97]; exact hlk)) (by decide) rfl ⟨by decide, by decide⟩ (by decide) rfl rfl (Nat.le_of_ble_eq_true rfl) ⟨by decide, by decide⟩ dX12_tellBit_145 ?_
                intro r9 h9 hp9
                rw [q145_96, q145_97] at hp9
                rw [hp9.1, hp9.2]
                show TT K ly 0 0 148 [(6, vI 0), (5, vI 0), (4, vI 0), (3, vI (qS (h 96 x))), (0, vR 73), (1, vI x), (2, vI b)] [] (setO (setO (setO h 73 (fup (fup (h 73) 32 (((h 73) 32) - (qS (h 96 x)))) 33 (((h 73) 33) + (qS (h 96 x))))) 96 (lrS (h 96) x (0 = (1 : Int)))) 97 (lrL (h 96) (h 97) x (0 = (1 : Int))))
                have L148_8 : ∀ (k8 : Nat) (a1 : Int) (c1 : Int) (t1 : Int) (n1 : Int) (o1 : Int → Int) (s1 : Int → Int) (l1 : Int → Int) (R9 : Int × Int × Int × Int × (Int → Int)) (X9 : Int), (∃ f, MI_ f a1 c1 t1 n1 o1 R9 X9) → (X9 ≤ 7 * 3190 + 15) → ((tellS (h 73 32, h 73 33, h 73 34, h 73 36, h 96, h 97, h 98) x b) = (R9.1, R9.2.1, R9.2.2.1, R9.2.2.2.1, s1, l1, R9.2.2.2.2)) → ((65536 : Int) - a1).toNat < k8 → TT K ly 0 0 148 [(0, vR 73), (1, vI x), (2, vI b)] [] (setO (setO (setO (setO h 73 (fup (fup (fup (fup (h 73) 32 a1) 33 c1) 34 t1) 36 n1)) 96 s1) 97 l1) 98 o1) := by
                  intro k8
                  induction k8 with
                  | zero => intro a1 c1 t1 n1 o1 s1 l1 R9 X9 hM hX hR hk8; exact absurd hk8 (Nat.not_lt_zero _)
                  | succ k8 ih8 =>
                    intro a1 c1 t1 n1 o1 s1 l1 R9 X9 hM hX hR hk8
                    obtain ⟨f, hf⟩ := hM
                    have hcr := hf.2.2.2.c_r
                    obtain ⟨m1, m2, m3, m4, m5, m6, m7, m8, m9⟩ := hf.2.2.2
                    have hM : ∃ f, MI_ f a1 c1 t1 n1 o1 R9 X9 := ⟨f, hf⟩
                    have hX2 := hf.2.2.1
                    refine TT_aload_n hK rfl 0 rfl dX12_tellBit_148 ?_
                    refine gf_X12_171 hK (by decide) rfl (v := a1) (rd_ ((sOf_ne _ _ (by decide)).trans ((sOf_ne _ _ (by decide)).trans ((sOf_ne _ _ (by decide)).trans (sOf_eq _ _ _)))) ((fup_ne _ _ (by decide)).trans ((fup_ne _ _ (by decide)).trans ((fup_ne _ _ (by decide)).trans (fup_eq _ _ _))))) dX12_tellBit_149 ?_
                    refine TT_ldc2 hK lc_X12_169 dX12_tellBit_152 ?_
                    refine TT_lcmp hK (lrm (by omega) (by omega)) (by decide) dX12_tellBit_155 ?_
                    refine TT_if_ge hK (tgt := 207) (lcmp_ir _ _) dX12_tellBit_156 (by decide) (fun hb156 => ?_) (fun hb156 => ?_)
                    · have hb156 := lcmp_ge hb156
                      refine TT_iload_n hK rfl 2 rfl dX12_tellBit_207 ?_
                      refine TT_iret hK hQ ?_ dX12_tellBit_208
                      have hE := MI_done hM.choose_spec (by omega)
                      exact ⟨congrArg (fun z => some (vI z)) (by rfl), setO_cg (setO_cg (setO_cg (setO_cg rfl (by rw [hR, ← hE])) (by rw [hR])) (by rw [hR])) (by rw [hR, ← hE])⟩
                    · have hb156 := lcmp_lt hb156
                      refine TT_aload_n hK rfl 0 rfl dX12_tellBit_159 ?_
                      refine TT_ldc2 hK lc_X12_193 dX12_tellBit_160 ?_
                      refine TT_aload_n hK rfl 0 rfl dX12_tellBit_163 ?_
                      refine gf_X12_171 hK (by decide) rfl (v := a1) (rd_ ((sOf_ne _ _ (by decide)).trans ((sOf_ne _ _ (by decide)).trans ((sOf_ne _ _ (by decide)).trans (sOf_eq _ _ _)))) ((fup_ne _ _ (by decide)).trans ((fup_ne _ _ (by decide)).trans ((fup_ne _ _ (by decide)).trans (fup_eq _ _ _))))) dX12_tellBit_164 ?_
                      refine TT_lmul hK dX12_tellBit_167 ?_
                      refine pf_X12_171 hK (by decide) rfl dX12_tellBit_168 ?_
                      refine TT_hp (h' := setO (setO (setO (setO h 73 (fup (fup (fup (fup (h 73) 32 (2 * a1)) 33 c1) 34 t1) 36 n1)) 96 s1) 97 l1) 98 o1) (up_can ((sOf_ne _ _ (by decide)).trans ((sOf_ne _ _ (by decide)).trans ((sOf_ne _ _ (by decide)).trans (sOf_eq _ _ _)))) ((fup_comm _ _ _ (by decide)).trans (fup_cg ((fup_comm _ _ _ (by decide)).trans (fup_cg ((fup_comm _ _ _ (by decide)).trans (fup_cg (fup_same _ _ _ _))))))) ((setO_comm _ _ _ (by decide)).trans (setO_cg ((setO_comm _ _ _ (by decide)).trans (setO_cg ((setO_comm _ _ _ (by decide)).trans (setO_cg (setO_same _ _ _ _) rfl)) rfl)) rfl))) ?_
                      refine TT_aload_n hK rfl 0 rfl dX12_tellBit_171 ?_
                      refine TT_ldc2 hK lc_X12_193 dX12_tellBit_172 ?_
                      refine TT_aload_n hK rfl 0 rfl dX12_tellBit_175 ?_
                      refine gf_X12_175 hK (by decide) rfl (v := c1) (rd_ ((sOf_ne _ _ (by decide)).trans ((sOf_ne _ _ (by decide)).trans ((sOf_ne _ _ (by decide)).trans (sOf_eq _ _ _)))) ((fup_ne _ _ (by decide)).trans ((fup_ne _ _ (by decide)).trans (fup_eq _ _ _)))) dX12_tellBit_176 ?_
                      refine TT_lmul hK dX12_tellBit_179 ?_
                      refine pf_X12_175 hK (by decide) rfl dX12_tellBit_180 ?_
                      refine TT_hp (h' := setO (setO (setO (setO h 73 (fup (fup (fup (fup (h 73) 32 (2 * a1)) 33 (2 * c1)) 34 t1) 36 n1)) 96 s1) 97 l1) 98 o1) (up_can ((sOf_ne _ _ (by decide)).trans ((sOf_ne _ _ (by decide)).trans ((sOf_ne _ _ (by decide)).trans (sOf_eq _ _ _)))) ((fup_comm _ _ _ (by decide)).trans (fup_cg ((fup_comm _ _ _ (by decide)).trans (fup_cg (fup_same _ _ _ _))))) ((setO_comm _ _ _ (by decide)).trans (setO_cg ((setO_comm _ _ _ (by decide)).trans (setO_cg ((setO_comm _ _ _ (by decide)).trans (setO_cg (setO_same _ _ _ _) rfl)) rfl)) rfl))) ?_
                      refine TT_aload_n hK rfl 0 rfl dX12_tellBit_183 ?_
                      refine TT_dup hK rfl dX12_tellBit_184 ?_
                      refine gf_X12_178 hK (by decide) rfl (v := t1) (rd_ ((sOf_ne _ _ (by decide)).trans ((sOf_ne _ _ (by decide)).trans ((sOf_ne _ _ (by decide)).trans (sOf_eq _ _ _)))) ((fup_ne _ _ (by decide)).trans (fup_eq _ _ _))) dX12_tellBit_185 ?_
                      refine TT_iconst hK dX12_tellBit_188 ?_
                      refine TT_isub hK dX12_tellBit_189 ?_
                      refine pf_X12_178 hK (by decide) rfl dX12_tellBit_190 ?_
                      refine TT_hp (h' := setO (setO (setO (setO h 73 (fup (fup (fup (fup (h 73) 32 (2 * a1)) 33 (2 * c1)) 34 (t1 - 1)) 36 n1)) 96 s1) 97 l1) 98 o1) (up_can ((sOf_ne _ _ (by decide)).trans ((sOf_ne _ _ (by decide)).trans ((sOf_ne _ _ (by decide)).trans (sOf_eq _ _ _)))) ((fup_comm _ _ _ (by decide)).trans (fup_cg (fup_same _ _ _ _))) ((setO_comm _ _ _ (by decide)).trans (setO_cg ((setO_comm _ _ _ (by decide)).trans (setO_cg ((setO_comm _ _ _ (by decide)).trans (setO_cg (setO_same _ _ _ _) rfl)) rfl)) rfl))) ?_
                      refine TT_aload_n hK rfl 0 rfl dX12_tellBit_193 ?_
                      refine gf_X12_178 hK (by decide) rfl (v := t1 - 1) (rd_ ((sOf_ne _ _ (by decide)).trans ((sOf_ne _ _ (by decide)).trans ((sOf_ne _ _ (by decide)).trans (sOf_eq _ _ _)))) ((fup_ne _ _ (by decide)).trans (fup_eq _ _ _))) dX12_tellBit_194 ?_
                      refine TT_if_ne hK (tgt := 148) (irm (by omega) (by omega)) dX12_tellBit_197 (by decide) (fun hb197 => ?_) (fun hb197 => ?_)
                      · exact ih8 (2 * a1) (2 * c1) (t1 - 1) n1 o1 s1 l1 R9 X9 (by cases f with | zero => exact absurd (MI_z hf) (by omega) | succ f => first | exact ⟨f, MI_next hf (by omega) (by omega)⟩ | exact ⟨f, MI_out hf (by omega) (by omega)⟩) (by exact hX) (by exact hR) (by first | omega | (simp [up, setR] <;> omega))
                      · refine TT_aload_n hK rfl 0 rfl dX12_tellBit_200 ?_
                        have q201_73_33 : (setO (setO (setO (setO h 73 (fup (fup (fup (fup (h 73) 32 (2 * a1)) 33 (2 * c1)) 34 (t1 - 1)) 36 n1)) 96 s1) 97 l1) 98 o1) 73 33 = 2 * c1 := rd_ ((sOf_ne _ _ (by decide)).trans ((sOf_ne _ _ (by decide)).trans ((sOf_ne _ _ (by decide)).trans (sOf_eq _ _ _)))) ((fup_ne _ _ (by decide)).trans ((fup_ne _ _ (by decide)).trans (fup_eq _ _ _)))
                        have q201_73_36 : (setO (setO (setO (setO h 73 (fup (fup (fup (fup (h 73) 32 (2 * a1)) 33 (2 * c1)) 34 (t1 - 1)) 36 n1)) 96 s1) 97 l1) 98 o1) 73 36 = n1 := rd_ ((sOf_ne _ _ (by decide)).trans ((sOf_ne _ _ (by decide)).trans ((sOf_ne _ _ (by decide)).trans (sOf_eq _ _ _)))) (fup_eq _ _ _)
                        have q201_73 : (setO (setO (setO (setO h 73 (fup (fup (fup (fup (h 73) 32 (2 * a1)) 33 (2 * c1)) 34 (t1 - 1)) 36 n1)) 96 s1) 97 l1) 98 o1) 73 = fup (fup (fup (fup (h 73) 32 (2 * a1)) 33 (2 * c1)) 34 (t1 - 1)) 36 n1 := (sOf_ne _ _ (by decide)).trans ((sOf_ne _ _ (by decide)).trans ((sOf_ne _ _ (by decide)).trans (sOf_eq _ _ _)))
                        have q201_98 : (setO (setO (setO (setO h 73 (fup (fup (fup (fup (h 73) 32 (2 * a1)) 33 (2 * c1)) 34 (t1 - 1)) 36 n1)) 96 s1) 97 l1) 98 o1) 98 = o1 := sOf_eq _ _ _
                        refine iv_X12_195 hK (c_X12_putOut_73 (setO (setO (setO (setO h 73 (fup (fup (fup (fup (h 73) 32 (2 * a1)) 33 (2 * c1)) 34 (t1 - 1)) 36 n1)) 96 s1) 97 l1) 98 o1) (by rw [q201_73_36]; first | omega | (simp [up, setR] <;> omega)) (by rw [q201_73_33]; first | omega | (simp [up, setR] <;> omega)) (by rw [q201_73_36, q201_98]; first | omega | (simp [up, setR] <;> omega))) (by decide) rfl ⟨by decide, by decide⟩ (by decide) rfl rfl (Nat.le_of_ble_eq_true rfl) ⟨by decide, by decide⟩ dX12_tellBit_201 ?_
                        intro r9 h9 hp9
                        rw [q201_73_33, q201_73_36, q201_73, q201_98] at hp9
                        rw [hp9.1, hp9.2]
                        refine TT_hp (h' := setO (setO (setO (setO h 73 (fup (fup (fup (fup (h 73) 32 (2 * a1)) 33 ((outS (2 * c1) n1 o1).1)) 34 ((outS (2 * c1) n1 o1).2.1)) 36 ((outS (2 * c1) n1 o1).2.2.1))) 96 s1) 97 l1) 98 ((outS (2 * c1) n1 o1).2.2.2)) ((setO_cg ((setO_cg rfl ((fup_cg ((fup_cg ((fup_comm _ _ _ (by decide)).trans (fup_cg ((fup_comm _ _ _ (by decide)).trans (fup_cg (fup_same _ _ _ _)))))).trans ((fup_comm _ _ _ (by decide)).trans (fup_cg (fup_same _ _ _ _))))).trans (fup_same _ _ _ _))).trans ((setO_comm _ _ _ (by decide)).trans (setO_cg ((setO_comm _ _ _ (by decide)).trans (setO_cg ((setO_comm _ _ _ (by decide)).trans (setO_cg (setO_same _ _ _ _) rfl)) rfl)) rfl))) rfl).trans (setO_same _ _ _ _)) ?_
                        show TT K ly 0 0 204 [(0, vR 73), (1, vI x), (2, vI b)] [] (setO (setO (setO (setO h 73 (fup (fup (fup (fup (h 73) 32 (2 * a1)) 33 ((outS (2 * c1) n1 o1).1)) 34 ((outS (2 * c1) n1 o1).2.1)) 36 ((outS (2 * c1) n1 o1).2.2.1))) 96 s1) 97 l1) 98 ((outS (2 * c1) n1 o1).2.2.2))
                        refine TT_goto hK (tgt := 148) dX12_tellBit_204 (by decide) ?_
                        exact ih8 (2 * a1) ((outS (2 * c1) n1 o1).1) ((outS (2 * c1) n1 o1).2.1) ((outS (2 * c1) n1 o1).2.2.1) ((outS (2 * c1) n1 o1).2.2.2) s1 l1 R9 X9 (by cases f with | zero => exact absurd (MI_z hf) (by omega) | succ f => first | exact ⟨f, MI_next hf (by omega) (by omega)⟩ | exact ⟨f, MI_out hf (by omega) (by omega)⟩) (by exact hX) (by exact hR) (by first | omega | (simp [up, setR] <;> omega))
                refine TT_sub [4, 5, 6] rfl ?_
                refine TT_hp (h' := setO (setO (setO (setO h 73 (fup (fup (fup (fup (h 73) 32 (((h 73) 32) - (qS (h 96 x)))) 33 (((h 73) 33) + (qS (h 96 x)))) 34 ((h 73) 34)) 36 ((h 73) 36))) 96 (lrS (h 96) x (0 = (1 : Int)))) 97 (lrL (h 96) (h 97) x (0 = (1 : Int)))) 98 (h 98)) ((setO_new (((sOf_ne _ _ (by decide)).trans ((sOf_ne _ _ (by decide)).trans (sOf_ne _ _ (by decide)))).trans (by rfl))).trans (setO_cg (setO_cg (setO_cg (setO_cg rfl (by exact fup_self2 (by decide) rfl rfl)) (by first | rfl | exact fsr_0 _ _ _)) (by first | rfl | exact fsr_0 _ _ _)) rfl)) ?_
                exact L148_8 ((((65536 : Int) - (((h 73) 32) - (qS (h 96 x)))).toNat) + 1) (((h 73) 32) - (qS (h 96 x))) (((h 73) 33) + (qS (h 96 x))) ((h 73) 34) ((h 73) 36) (h 98) (lrS (h 96) x (0 = (1 : Int))) (lrL (h 96) (h 97) x (0 = (1 : Int))) (mendS 15 (((h 73) 32) - (qS (h 96 x))) (((h 73) 33) + (qS (h 96 x))) ((h 73) 34) ((h 73) 36) (h 98)) (7 * h 73 36 - h 73 34 + 15) (by exact ⟨15, MI_0 (MQ_tell (x := x) (st := h 96) (P := (b = h 97 x ↔ h 73 32 - qS (h 96 x) < qS (h 96 x))) hq ha hs (by first | exact (if_pos (by omega)).symm | exact (if_neg (by omega)).symm) (by first | exact (if_pos (by omega)).symm | exact (if_neg (by omega)).symm))⟩) (by omega) (by exact tellS_m (by omega) (by first | exact (if_pos (by omega)).symm | exact (if_neg (by omega)).symm) (by first | exact (if_pos (by omega)).symm | exact (if_neg (by omega)).symm) (by omega)) (Nat.lt_succ_self _)
              · exact absurd hb126 (by decide)
            · exact absurd hb103 (by decide)
          · exact absurd hb90 (by decide)
        · have hb76 := lcmp_lt hb76
          refine TT_iconst hK dX12_tellBit_79 ?_
          refine TT_goto hK (tgt := 84) dX12_tellBit_80 (by decide) ?_
          refine TT_istore hK (lv' := [(5, vI 1), (4, vI 0), (3, vI (qS (h 96 x))), (0, vR 73), (1, vI x), (2, vI b)]) (by decide) rfl dX12_tellBit_84 ?_
          refine TT_iload hK 1 rfl dX12_tellBit_86 ?_
          refine TT_iload hK 0 rfl dX12_tellBit_88 ?_
          refine TT_icmp_eq hK (tgt := 97) (by decide) (by decide) dX12_tellBit_90 (by decide) (fun hb90 => ?_) (fun hb90 => ?_)
          · exact absurd hb90 (by decide)
          · refine TT_iconst hK dX12_tellBit_93 ?_
            refine TT_goto hK (tgt := 98) dX12_tellBit_94 (by decide) ?_
            refine TT_istore hK (lv' := [(6, vI 1), (5, vI 1), (4, vI 0), (3, vI (qS (h 96 x))), (0, vR 73), (1, vI x), (2, vI b)]) (by decide) rfl dX12_tellBit_98 ?_
            refine TT_aload_n hK rfl 4 rfl dX12_tellBit_100 ?_
            refine TT_iload hK 0 rfl dX12_tellBit_101 ?_
            refine TT_if_eq hK (tgt := 113) (by decide) dX12_tellBit_103 (by decide) (fun hb103 => ?_) (fun hb103 => ?_)
            · exact absurd hb103 (by decide)
            · refine TT_aload_n hK rfl 4 rfl dX12_tellBit_106 ?_
              refine gf_X12_175 hK (by decide) rfl (v := (h 73) 33) (rd_ (sOf_eq _ _ _) (fup_ne _ _ (by decide))) dX12_tellBit_107 ?_
              refine TT_goto hK (tgt := 120) dX12_tellBit_110 (by decide) ?_
              refine pf_X12_175 hK (by decide) rfl dX12_tellBit_120 ?_
              refine TT_hp (h' := setO h 73 (fup (fup (h 73) 32 (((h 73) 32) - (qS (h 96 x)))) 33 ((h 73) 33))) (up_can (sOf_eq _ _ _) rfl (setO_same _ _ _ _)) ?_
              refine TT_aload_n hK rfl 4 rfl dX12_tellBit_123 ?_
              refine TT_iload hK 0 rfl dX12_tellBit_124 ?_
              refine TT_if_eq hK (tgt := 134) (by decide) dX12_tellBit_126 (by decide) (fun hb126 => ?_) (fun hb126 => ?_)
              · exact absurd hb126 (by decide)
              · refine TT_iload_n hK rfl 3 rfl dX12_tellBit_129 ?_
                refine TT_i2l hK (irm (by omega) (by omega)) dX12_tellBit_130 ?_
                refine TT_goto hK (tgt := 138) dX12_tellBit_131 (by decide) ?_
                refine pf_X12_171 hK (by decide) rfl dX12_tellBit_138 ?_
                refine TT_hp (h' := setO h 73 (fup (fup (h 73) 32 (qS (h 96 x))) 33 ((h 73) 33))) (up_can (sOf_eq _ _ _) ((fup_comm _ _ _ (by decide)).trans (fup_cg (fup_same _ _ _ _))) (setO_same _ _ _ _)) ?_
                refine TT_aload_n hK rfl 4 rfl dX12_tellBit_141 ?_
                refine TT_iload_n hK rfl 5 rfl dX12_tellBit_142 ?_
                refine TT_iload hK 2 rfl dX12_tellBit_143 ?_
                have q145_75 : (setO h 73 (fup (fup (h 73) 32 (qS (h 96 x))) 33 ((h 73) 33))) 75 = h 75 := sOf_ne _ _ (by decide)
                have q145_96 : (setO h 73 (fup (fup (h 73) 32 (qS (h 96 x))) 33 ((h 73) 33))) 96 = h 96 := sOf_ne _ _ (by decide)
                have q145_97 : (setO h 73 (fup (fup (h 73) 32 (qS (h 96 x))) 33 ((h 73) 33))) 97 = h 97 := sOf_ne _ _ (by decide)
                refine iv_X12_189 hK (c_X12_learn_73 x 0 (setO h 73 (fup (fup (h 73) 32 (qS (h 96 x))) 33 ((h 73) 33))) (by first | omega | (simp [up, setR] <;> omega)) (by decide) (by rw [q145_75]; exact tb2) (by rw [q145_96]; exact hst) (by rw [q145_97]; exact hlk)) (by decide) rfl ⟨by decide, by decide⟩ (by decide) rfl rfl (Nat.le_of_ble_eq_true rfl) ⟨by decide, by decide⟩ dX12_tellBit_145 ?_
                intro r9 h9 hp9
                rw [q145_96, q145_97] at hp9
                rw [hp9.1, hp9.2]
                show TT K ly 0 0 148 [(6, vI 1), (5, vI 1), (4, vI 0), (3, vI (qS (h 96 x))), (0, vR 73), (1, vI x), (2, vI b)] [] (setO (setO (setO h 73 (fup (fup (h 73) 32 (qS (h 96 x))) 33 ((h 73) 33))) 96 (lrS (h 96) x (0 = (1 : Int)))) 97 (lrL (h 96) (h 97) x (0 = (1 : Int))))
                have L148_14 : ∀ (k14 : Nat) (a1 : Int) (c1 : Int) (t1 : Int) (n1 : Int) (o1 : Int → Int) (s1 : Int → Int) (l1 : Int → Int) (R9 : Int × Int × Int × Int × (Int → Int)) (X9 : Int), (∃ f, MI_ f a1 c1 t1 n1 o1 R9 X9) → (X9 ≤ 7 * 3190 + 15) → ((tellS (h 73 32, h 73 33, h 73 34, h 73 36, h 96, h 97, h 98) x b) = (R9.1, R9.2.1, R9.2.2.1, R9.2.2.2.1, s1, l1, R9.2.2.2.2)) → ((65536 : Int) - a1).toNat < k14 → TT K ly 0 0 148 [(0, vR 73), (1, vI x), (2, vI b)] [] (setO (setO (setO (setO h 73 (fup (fup (fup (fup (h 73) 32 a1) 33 c1) 34 t1) 36 n1)) 96 s1) 97 l1) 98 o1) := by
                  intro k14
                  induction k14 with
                  | zero => intro a1 c1 t1 n1 o1 s1 l1 R9 X9 hM hX hR hk14; exact absurd hk14 (Nat.not_lt_zero _)
                  | succ k14 ih14 =>
                    intro a1 c1 t1 n1 o1 s1 l1 R9 X9 hM hX hR hk14
                    obtain ⟨f, hf⟩ := hM
                    have hcr := hf.2.2.2.c_r
                    obtain ⟨m1, m2, m3, m4, m5, m6, m7, m8, m9⟩ := hf.2.2.2
                    have hM : ∃ f, MI_ f a1 c1 t1 n1 o1 R9 X9 := ⟨f, hf⟩
                    have hX2 := hf.2.2.1
                    refine TT_aload_n hK rfl 0 rfl dX12_tellBit_148 ?_
                    refine gf_X12_171 hK (by decide) rfl (v := a1) (rd_ ((sOf_ne _ _ (by decide)).trans ((sOf_ne _ _ (by decide)).trans ((sOf_ne _ _ (by decide)).trans (sOf_eq _ _ _)))) ((fup_ne _ _ (by decide)).trans ((fup_ne _ _ (by decide)).trans ((fup_ne _ _ (by decide)).trans (fup_eq _ _ _))))) dX12_tellBit_149 ?_
                    refine TT_ldc2 hK lc_X12_169 dX12_tellBit_152 ?_
                    refine TT_lcmp hK (lrm (by omega) (by omega)) (by decide) dX12_tellBit_155 ?_
                    refine TT_if_ge hK (tgt := 207) (lcmp_ir _ _) dX12_tellBit_156 (by decide) (fun hb156 => ?_) (fun hb156 => ?_)
                    · have hb156 := lcmp_ge hb156
                      refine TT_iload_n hK rfl 2 rfl dX12_tellBit_207 ?_
                      refine TT_iret hK hQ ?_ dX12_tellBit_208
                      have hE := MI_done hM.choose_spec (by omega)
                      exact ⟨congrArg (fun z => some (vI z)) (by rfl), setO_cg (setO_cg (setO_cg (setO_cg rfl (by rw [hR, ← hE])) (by rw [hR])) (by rw [hR])) (by rw [hR, ← hE])⟩
                    · have hb156 := lcmp_lt hb156
                      refine TT_aload_n hK rfl 0 rfl dX12_tellBit_159 ?_
                      refine TT_ldc2 hK lc_X12_193 dX12_tellBit_160 ?_
                      refine TT_aload_n hK rfl 0 rfl dX12_tellBit_163 ?_
                      refine gf_X12_171 hK (by decide) rfl (v := a1) (rd_ ((sOf_ne _ _ (by decide)).trans ((sOf_ne _ _ (by decide)).trans ((sOf_ne _ _ (by decide)).trans (sOf_eq _ _ _)))) ((fup_ne _ _ (by decide)).trans ((fup_ne _ _ (by decide)).trans ((fup_ne _ _ (by decide)).trans (fup_eq _ _ _))))) dX12_tellBit_164 ?_
                      refine TT_lmul hK dX12_tellBit_167 ?_
                      refine pf_X12_171 hK (by decide) rfl dX12_tellBit_168 ?_
                      refine TT_hp (h' := setO (setO (setO (setO h 73 (fup (fup (fup (fup (h 73) 32 (2 * a1)) 33 c1) 34 t1) 36 n1)) 96 s1) 97 l1) 98 o1) (up_can ((sOf_ne _ _ (by decide)).trans ((sOf_ne _ _ (by decide)).trans ((sOf_ne _ _ (by decide)).trans (sOf_eq _ _ _)))) ((fup_comm _ _ _ (by decide)).trans (fup_cg ((fup_comm _ _ _ (by decide)).trans (fup_cg ((fup_comm _ _ _ (by decide)).trans (fup_cg (fup_same _ _ _ _))))))) ((setO_comm _ _ _ (by decide)).trans (setO_cg ((setO_comm _ _ _ (by decide)).trans (setO_cg ((setO_comm _ _ _ (by decide)).trans (setO_cg (setO_same _ _ _ _) rfl)) rfl)) rfl))) ?_
                      refine TT_aload_n hK rfl 0 rfl dX12_tellBit_171 ?_
                      refine TT_ldc2 hK lc_X12_193 dX12_tellBit_172 ?_
                      refine TT_aload_n hK rfl 0 rfl dX12_tellBit_175 ?_
                      refine gf_X12_175 hK (by decide) rfl (v := c1) (rd_ ((sOf_ne _ _ (by decide)).trans ((sOf_ne _ _ (by decide)).trans ((sOf_ne _ _ (by decide)).trans (sOf_eq _ _ _)))) ((fup_ne _ _ (by decide)).trans ((fup_ne _ _ (by decide)).trans (fup_eq _ _ _)))) dX12_tellBit_176 ?_
                      refine TT_lmul hK dX12_tellBit_179 ?_
                      refine pf_X12_175 hK (by decide) rfl dX12_tellBit_180 ?_
                      refine TT_hp (h' := setO (setO (setO (setO h 73 (fup (fup (fup (fup (h 73) 32 (2 * a1)) 33 (2 * c1)) 34 t1) 36 n1)) 96 s1) 97 l1) 98 o1) (up_can ((sOf_ne _ _ (by decide)).trans ((sOf_ne _ _ (by decide)).trans ((sOf_ne _ _ (by decide)).trans (sOf_eq _ _ _)))) ((fup_comm _ _ _ (by decide)).trans (fup_cg ((fup_comm _ _ _ (by decide)).trans (fup_cg (fup_same _ _ _ _))))) ((setO_comm _ _ _ (by decide)).trans (setO_cg ((setO_comm _ _ _ (by decide)).trans (setO_cg ((setO_comm _ _ _ (by decide)).trans (setO_cg (setO_same _ _ _ _) rfl)) rfl)) rfl))) ?_
                      refine TT_aload_n hK rfl 0 rfl dX12_tellBit_183 ?_
                      refine TT_dup hK rfl dX12_tellBit_184 ?_
                      refine gf_X12_178 hK (by decide) rfl (v := t1) (rd_ ((sOf_ne _ _ (by decide)).trans ((sOf_ne _ _ (by decide)).trans ((sOf_ne _ _ (by decide)).trans (sOf_eq _ _ _)))) ((fup_ne _ _ (by decide)).trans (fup_eq _ _ _))) dX12_tellBit_185 ?_
                      refine TT_iconst hK dX12_tellBit_188 ?_
                      refine TT_isub hK dX12_tellBit_189 ?_
                      refine pf_X12_178 hK (by decide) rfl dX12_tellBit_190 ?_
                      refine TT_hp (h' := setO (setO (setO (setO h 73 (fup (fup (fup (fup (h 73) 32 (2 * a1)) 33 (2 * c1)) 34 (t1 - 1)) 36 n1)) 96 s1) 97 l1) 98 o1) (up_can ((sOf_ne _ _ (by decide)).trans ((sOf_ne _ _ (by decide)).trans ((sOf_ne _ _ (by decide)).trans (sOf_eq _ _ _)))) ((fup_comm _ _ _ (by decide)).trans (fup_cg (fup_same _ _ _ _))) ((setO_comm _ _ _ (by decide)).trans (setO_cg ((setO_comm _ _ _ (by decide)).trans (setO_cg ((setO_comm _ _ _ (by decide)).trans (setO_cg (setO_same _ _ _ _) rfl)) rfl)) rfl))) ?_
                      refine TT_aload_n hK rfl 0 rfl dX12_tellBit_193 ?_
                      refine gf_X12_178 hK (by decide) rfl (v := t1 - 1) (rd_ ((sOf_ne _ _ (by decide)).trans ((sOf_ne _ _ (by decide)).trans ((sOf_ne _ _ (by decide)).trans (sOf_eq _ _ _)))) ((fup_ne _ _ (by decide)).trans (fup_eq _ _ _))) dX12_tellBit_194 ?_
                      refine TT_if_ne hK (tgt := 148) (irm (by omega) (by omega)) dX12_tellBit_197 (by decide) (fun hb197 => ?_) (fun hb197 => ?_)
                      · exact ih14 (2 * a1) (2 * c1) (t1 - 1) n1 o1 s1 l1 R9 X9 (by cases f with | zero => exact absurd (MI_z hf) (by omega) | succ f => first | exact ⟨f, MI_next hf (by omega) (by omega)⟩ | exact ⟨f, MI_out hf (by omega) (by omega)⟩) (by exact hX) (by exact hR) (by first | omega | (simp [up, setR] <;> omega))
                      · refine TT_aload_n hK rfl 0 rfl dX12_tellBit_200 ?_
                        have q201_73_33 : (setO (setO (setO (setO h 73 (fup (fup (fup (fup (h 73) 32 (2 * a1)) 33 (2 * c1)) 34 (t1 - 1)) 36 n1)) 96 s1) 97 l1) 98 o1) 73 33 = 2 * c1 := rd_ ((sOf_ne _ _ (by decide)).trans ((sOf_ne _ _ (by decide)).trans ((sOf_ne _ _ (by decide)).trans (sOf_eq _ _ _)))) ((fup_ne _ _ (by decide)).trans ((fup_ne _ _ (by decide)).trans (fup_eq _ _ _)))
                        have q201_73_36 : (setO (setO (setO (setO h 73 (fup (fup (fup (fup (h 73) 32 (2 * a1)) 33 (2 * c1)) 34 (t1 - 1)) 36 n1)) 96 s1) 97 l1) 98 o1) 73 36 = n1 := rd_ ((sOf_ne _ _ (by decide)).trans ((sOf_ne _ _ (by decide)).trans ((sOf_ne _ _ (by decide)).trans (sOf_eq _ _ _)))) (fup_eq _ _ _)
                        have q201_73 : (setO (setO (setO (setO h 73 (fup (fup (fup (fup (h 73) 32 (2 * a1)) 33 (2 * c1)) 34 (t1 - 1)) 36 n1)) 96 s1) 97 l1) 98 o1) 73 = fup (fup (fup (fup (h 73) 32 (2 * a1)) 33 (2 * c1)) 34 (t1 - 1)) 36 n1 := (sOf_ne _ _ (by decide)).trans ((sOf_ne _ _ (by decide)).trans ((sOf_ne _ _ (by decide)).trans (sOf_eq _ _ _)))
                        have q201_98 : (setO (setO (setO (setO h 73 (fup (fup (fup (fup (h 73) 32 (2 * a1)) 33 (2 * c1)) 34 (t1 - 1)) 36 n1)) 96 s1) 97 l1) 98 o1) 98 = o1 := sOf_eq _ _ _
                        refine iv_X12_195 hK (c_X12_putOut_73 (setO (setO (setO (setO h 73 (fup (fup (fup (fup (h 73) 32 (2 * a1)) 33 (2 * c1)) 34 (t1 - 1)) 36 n1)) 96 s1) 97 l1) 98 o1) (by rw [q201_73_36]; first | omega | (simp [up, setR] <;> omega)) (by rw [q201_73_33]; first | omega | (simp [up, setR] <;> omega)) (by rw [q201_73_36, q201_98]; first | omega | (simp [up, setR] <;> omega))) (by decide) rfl ⟨by decide, by decide⟩ (by decide) rfl rfl (Nat.le_of_ble_eq_true rfl) ⟨by decide, by decide⟩ dX12_tellBit_201 ?_
                        intro r9 h9 hp9
                        rw [q201_73_33, q201_73_36, q201_73, q201_98] at hp9
                        rw [hp9.1, hp9.2]
                        refine TT_hp (h' := setO (setO (setO (setO h 73 (fup (fup (fup (fup (h 73) 32 (2 * a1)) 33 ((outS (2 * c1) n1 o1).1)) 34 ((outS (2 * c1) n1 o1).2.1)) 36 ((outS (2 * c1) n1 o1).2.2.1))) 96 s1) 97 l1) 98 ((outS (2 * c1) n1 o1).2.2.2)) ((setO_cg ((setO_cg rfl ((fup_cg ((fup_cg ((fup_comm _ _ _ (by decide)).trans (fup_cg ((fup_comm _ _ _ (by decide)).trans (fup_cg (fup_same _ _ _ _)))))).trans ((fup_comm _ _ _ (by decide)).trans (fup_cg (fup_same _ _ _ _))))).trans (fup_same _ _ _ _))).trans ((setO_comm _ _ _ (by decide)).trans (setO_cg ((setO_comm _ _ _ (by decide)).trans (setO_cg ((setO_comm _ _ _ (by decide)).trans (setO_cg (setO_same _ _ _ _) rfl)) rfl)) rfl))) rfl).trans (setO_same _ _ _ _)) ?_
                        show TT K ly 0 0 204 [(0, vR 73), (1, vI x), (2, vI b)] [] (setO (setO (setO (setO h 73 (fup (fup (fup (fup (h 73) 32 (2 * a1)) 33 ((outS (2 * c1) n1 o1).1)) 34 ((outS (2 * c1) n1 o1).2.1)) 36 ((outS (2 * c1) n1 o1).2.2.1))) 96 s1) 97 l1) 98 ((outS (2 * c1) n1 o1).2.2.2))
                        refine TT_goto hK (tgt := 148) dX12_tellBit_204 (by decide) ?_
                        exact ih14 (2 * a1) ((outS (2 * c1) n1 o1).1) ((outS (2 * c1) n1 o1).2.1) ((outS (2 * c1) n1 o1).2.2.1) ((outS (2 * c1) n1 o1).2.2.2) s1 l1 R9 X9 (by cases f with | zero => exact absurd (MI_z hf) (by omega) | succ f => first | exact ⟨f, MI_next hf (by omega) (by omega)⟩ | exact ⟨f, MI_out hf (by omega) (by omega)⟩) (by exact hX) (by exact hR) (by first | omega | (simp [up, setR] <;> omega))
                refine TT_sub [4, 5, 6] rfl ?_
                refine TT_hp (h' := setO (setO (setO (setO h 73 (fup (fup (fup (fup (h 73) 32 (qS (h 96 x))) 33 ((h 73) 33)) 34 ((h 73) 34)) 36 ((h 73) 36))) 96 (lrS (h 96) x (0 = (1 : Int)))) 97 (lrL (h 96) (h 97) x (0 = (1 : Int)))) 98 (h 98)) ((setO_new (((sOf_ne _ _ (by decide)).trans ((sOf_ne _ _ (by decide)).trans (sOf_ne _ _ (by decide)))).trans (by rfl))).trans (setO_cg (setO_cg (setO_cg (setO_cg rfl (by exact fup_self2 (by decide) rfl rfl)) (by first | rfl | exact fsr_0 _ _ _)) (by first | rfl | exact fsr_0 _ _ _)) rfl)) ?_
                exact L148_14 ((((65536 : Int) - (qS (h 96 x))).toNat) + 1) (qS (h 96 x)) ((h 73) 33) ((h 73) 34) ((h 73) 36) (h 98) (lrS (h 96) x (0 = (1 : Int))) (lrL (h 96) (h 97) x (0 = (1 : Int))) (mendS 15 (qS (h 96 x)) ((h 73) 33) ((h 73) 34) ((h 73) 36) (h 98)) (7 * h 73 36 - h 73 34 + 15) (by exact ⟨15, MI_0 (MQ_tell (x := x) (st := h 96) (P := (b = h 97 x ↔ h 73 32 - qS (h 96 x) < qS (h 96 x))) hq ha hs (by first | exact (if_pos (by omega)).symm | exact (if_neg (by omega)).symm) (by first | exact (if_pos (by omega)).symm | exact (if_neg (by omega)).symm))⟩) (by omega) (by exact tellS_m (by omega) (by first | exact (if_pos (by omega)).symm | exact (if_neg (by omega)).symm) (by first | exact (if_pos (by omega)).symm | exact (if_neg (by omega)).symm) (by omega)) (Nat.lt_succ_self _)
      · have hb53 := lcmp_ge hb53
        refine TT_aload_n hK rfl 2 rfl dX12_tellBit_56 ?_
        refine TT_aload_n hK rfl 2 rfl dX12_tellBit_57 ?_
        refine gf_X12_175 hK (by decide) rfl (v := (h 73) 33) (rd_ (sOf_eq _ _ _) (fup_ne _ _ (by decide))) dX12_tellBit_58 ?_
        refine TT_iload_n hK rfl 1 rfl dX12_tellBit_61 ?_
        refine TT_i2l hK (irm (by omega) (by omega)) dX12_tellBit_62 ?_
        refine TT_ladd hK dX12_tellBit_63 ?_
        refine pf_X12_175 hK (by decide) rfl dX12_tellBit_64 ?_
        refine TT_hp (h' := setO h 73 (fup (fup (h 73) 32 (((h 73) 32) - (qS (h 96 x)))) 33 (((h 73) 33) + (qS (h 96 x))))) (up_can (sOf_eq _ _ _) rfl (setO_same _ _ _ _)) ?_
        refine TT_iload_n hK rfl 4 rfl dX12_tellBit_67 ?_
        refine TT_iret hK hQ ?_ dX12_tellBit_68
        have eT := tellS_1 (a := h 73 32) (c := h 73 33) (t := h 73 34) (n := h 73 36) (o := h 98) (st := h 96) (lk := h 97) (x := x) (b := b) (by omega)
        exact ⟨congrArg (fun z => some (vI z)) (by rfl), (setO_new ((sOf_ne _ _ (by decide)).trans (by rw [eT]))).trans (setO_cg ((setO_new ((sOf_ne _ _ (by decide)).trans (by rw [eT]))).trans (setO_cg ((setO_new ((sOf_ne _ _ (by decide)).trans (by rw [eT]))).trans (setO_cg (setO_cg rfl (by rw [eT]; exact fup_self2 (by decide) rfl rfl)) rfl)) rfl)) rfl)⟩
  · refine TT_iconst hK dX12_tellBit_22 ?_
    refine TT_goto hK (tgt := 27) dX12_tellBit_23 (by decide) ?_
    refine TT_istore hK (lv' := [(4, vI 1), (3, vI (qS (h 96 x))), (0, vR 73), (1, vI x), (2, vI b)]) (by decide) rfl dX12_tellBit_27 ?_
    refine TT_aload_n hK rfl 2 rfl dX12_tellBit_29 ?_
    refine TT_aload_n hK rfl 2 rfl dX12_tellBit_30 ?_
    refine gf_X12_171 hK (by decide) rfl (v := (h 73) 32) rfl dX12_tellBit_31 ?_
    refine TT_iload_n hK rfl 1 rfl dX12_tellBit_34 ?_
    refine TT_i2l hK (irm (by omega) (by omega)) dX12_tellBit_35 ?_
    refine TT_lsub hK dX12_tellBit_36 ?_
    refine pf_X12_171 hK (by decide) rfl dX12_tellBit_37 ?_
    refine TT_hp (h' := setO h 73 (fup (h 73) 32 (((h 73) 32) - (qS (h 96 x))))) (up_can rfl rfl rfl) ?_
    refine TT_iload hK 0 rfl dX12_tellBit_40 ?_
    refine TT_if_ne hK (tgt := 69) (by decide) dX12_tellBit_42 (by decide) (fun hb42 => ?_) (fun hb42 => ?_)
    · refine TT_aload_n hK rfl 2 rfl dX12_tellBit_69 ?_
      refine gf_X12_171 hK (by decide) rfl (v := ((h 73) 32) - (qS (h 96 x))) (rd_ (sOf_eq _ _ _) (fup_eq _ _ _)) dX12_tellBit_70 ?_
      refine TT_iload_n hK rfl 1 rfl dX12_tellBit_73 ?_
      refine TT_i2l hK (irm (by omega) (by omega)) dX12_tellBit_74 ?_
      refine TT_lcmp hK (lrm (by omega) (by omega)) (lrm (by omega) (by omega)) dX12_tellBit_75 ?_
      refine TT_if_ge hK (tgt := 83) (lcmp_ir _ _) dX12_tellBit_76 (by decide) (fun hb76 => ?_) (fun hb76 => ?_)
      · have hb76 := lcmp_ge hb76
        refine TT_iconst hK dX12_tellBit_83 ?_
        refine TT_istore hK (lv' := [(5, vI 0), (4, vI 1), (3, vI (qS (h 96 x))), (0, vR 73), (1, vI x), (2, vI b)]) (by decide) rfl dX12_tellBit_84 ?_
        refine TT_iload hK 1 rfl dX12_tellBit_86 ?_
        refine TT_iload hK 0 rfl dX12_tellBit_88 ?_
        refine TT_icmp_eq hK (tgt := 97) (by decide) (by decide) dX12_tellBit_90 (by decide) (fun hb90 => ?_) (fun hb90 => ?_)
        · exact absurd hb90 (by decide)
        · refine TT_iconst hK dX12_tellBit_93 ?_
          refine TT_goto hK (tgt := 98) dX12_tellBit_94 (by decide) ?_
          refine TT_istore hK (lv' := [(6, vI 1), (5, vI 0), (4, vI 1), (3, vI (qS (h 96 x))), (0, vR 73), (1, vI x), (2, vI b)]) (by decide) rfl dX12_tellBit_98 ?_
          refine TT_aload_n hK rfl 4 rfl dX12_tellBit_100 ?_
          refine TT_iload hK 0 rfl dX12_tellBit_101 ?_
          refine TT_if_eq hK (tgt := 113) (by decide) dX12_tellBit_103 (by decide) (fun hb103 => ?_) (fun hb103 => ?_)
          · exact absurd hb103 (by decide)
          · refine TT_aload_n hK rfl 4 rfl dX12_tellBit_106 ?_
            refine gf_X12_175 hK (by decide) rfl (v := (h 73) 33) (rd_ (sOf_eq _ _ _) (fup_ne _ _ (by decide))) dX12_tellBit_107 ?_
            refine TT_goto hK (tgt := 120) dX12_tellBit_110 (by decide) ?_
            refine pf_X12_175 hK (by decide) rfl dX12_tellBit_120 ?_
            refine TT_hp (h' := setO h 73 (fup (fup (h 73) 32 (((h 73) 32) - (qS (h 96 x)))) 33 ((h 73) 33))) (up_can (sOf_eq _ _ _) rfl (setO_same _ _ _ _)) ?_
            refine TT_aload_n hK rfl 4 rfl dX12_tellBit_123 ?_
            refine TT_iload hK 0 rfl dX12_tellBit_124 ?_
            refine TT_if_eq hK (tgt := 134) (by decide) dX12_tellBit_126 (by decide) (fun hb126 => ?_) (fun hb126 => ?_)
            · exact absurd hb126 (by decide)
            · refine TT_iload_n hK rfl 3 rfl dX12_tellBit_129 ?_
              refine TT_i2l hK (irm (by omega) (by omega)) dX12_tellBit_130 ?_
              refine TT_goto hK (tgt := 138) dX12_tellBit_131 (by decide) ?_
              refine pf_X12_171 hK (by decide) rfl dX12_tellBit_138 ?_
              refine TT_hp (h' := setO h 73 (fup (fup (h 73) 32 (qS (h 96 x))) 33 ((h 73) 33))) (up_can (sOf_eq _ _ _) ((fup_comm _ _ _ (by decide)).trans (fup_cg (fup_same _ _ _ _))) (setO_same _ _ _ _)) ?_
              refine TT_aload_n hK rfl 4 rfl dX12_tellBit_141 ?_
              refine TT_iload_n hK rfl 5 rfl dX12_tellBit_142 ?_
              refine TT_iload hK 2 rfl dX12_tellBit_143 ?_
              have q145_75 : (setO h 73 (fup (fup (h 73) 32 (qS (h 96 x))) 33 ((h 73) 33))) 75 = h 75 := sOf_ne _ _ (by decide)
              have q145_96 : (setO h 73 (fup (fup (h 73) 32 (qS (h 96 x))) 33 ((h 73) 33))) 96 = h 96 := sOf_ne _ _ (by decide)
              have q145_97 : (setO h 73 (fup (fup (h 73) 32 (qS (h 96 x))) 33 ((h 73) 33))) 97 = h 97 := sOf_ne _ _ (by decide)
              refine iv_X12_189 hK (c_X12_learn_73 x 1 (setO h 73 (fup (fup (h 73) 32 (qS (h 96 x))) 33 ((h 73) 33))) (by first | omega | (simp [up, setR] <;> omega)) (by decide) (by rw [q145_75]; exact tb2) (by rw [q145_96]; exact hst) (by rw [q145_97]; exact hlk)) (by decide) rfl ⟨by decide, by decide⟩ (by decide) rfl rfl (Nat.le_of_ble_eq_true rfl) ⟨by decide, by decide⟩ dX12_tellBit_145 ?_
              intro r9 h9 hp9
              rw [q145_96, q145_97] at hp9
              rw [hp9.1, hp9.2]
              show TT K ly 0 0 148 [(6, vI 1), (5, vI 0), (4, vI 1), (3, vI (qS (h 96 x))), (0, vR 73), (1, vI x), (2, vI b)] [] (setO (setO (setO h 73 (fup (fup (h 73) 32 (qS (h 96 x))) 33 ((h 73) 33))) 96 (lrS (h 96) x (1 = (1 : Int)))) 97 (lrL (h 96) (h 97) x (1 = (1 : Int))))
              have L148_22 : ∀ (k22 : Nat) (a1 : Int) (c1 : Int) (t1 : Int) (n1 : Int) (o1 : Int → Int) (s1 : Int → Int) (l1 : Int → Int) (R9 : Int × Int × Int × Int × (Int → Int)) (X9 : Int), (∃ f, MI_ f a1 c1 t1 n1 o1 R9 X9) → (X9 ≤ 7 * 3190 + 15) → ((tellS (h 73 32, h 73 33, h 73 34, h 73 36, h 96, h 97, h 98) x b) = (R9.1, R9.2.1, R9.2.2.1, R9.2.2.2.1, s1, l1, R9.2.2.2.2)) → ((65536 : Int) - a1).toNat < k22 → TT K ly 0 0 148 [(0, vR 73), (1, vI x), (2, vI b)] [] (setO (setO (setO (setO h 73 (fup (fup (fup (fup (h 73) 32 a1) 33 c1) 34 t1) 36 n1)) 96 s1) 97 l1) 98 o1) := by
                intro k22
                induction k22 with
                | zero => intro a1 c1 t1 n1 o1 s1 l1 R9 X9 hM hX hR hk22; exact absurd hk22 (Nat.not_lt_zero _)
                | succ k22 ih22 =>
                  intro a1 c1 t1 n1 o1 s1 l1 R9 X9 hM hX hR hk22
                  obtain ⟨f, hf⟩ := hM
                  have hcr := hf.2.2.2.c_r
                  obtain ⟨m1, m2, m3, m4, m5, m6, m7, m8, m9⟩ := hf.2.2.2
                  have hM : ∃ f, MI_ f a1 c1 t1 n1 o1 R9 X9 := ⟨f, hf⟩
                  have hX2 := hf.2.2.1
                  refine TT_aload_n hK rfl 0 rfl dX12_tellBit_148 ?_
                  refine gf_X12_171 hK (by decide) rfl (v := a1) (rd_ ((sOf_ne _ _ (by decide)).trans ((sOf_ne _ _ (by decide)).trans ((sOf_ne _ _ (by decide)).trans (sOf_eq _ _ _)))) ((fup_ne _ _ (by decide)).trans ((fup_ne _ _ (by decide)).trans ((fup_ne _ _ (by decide)).trans (fup_eq _ _ _))))) dX12_tellBit_149 ?_
                  refine TT_ldc2 hK lc_X12_169 dX12_tellBit_152 ?_
                  refine TT_lcmp hK (lrm (by omega) (by omega)) (by decide) dX12_tellBit_155 ?_
                  refine TT_if_ge hK (tgt := 207) (lcmp_ir _ _) dX12_tellBit_156 (by decide) (fun hb156 => ?_) (fun hb156 => ?_)
                  · have hb156 := lcmp_ge hb156
                    refine TT_iload_n hK rfl 2 rfl dX12_tellBit_207 ?_
                    refine TT_iret hK hQ ?_ dX12_tellBit_208
                    have hE := MI_done hM.choose_spec (by omega)
                    exact ⟨congrArg (fun z => some (vI z)) (by rfl), setO_cg (setO_cg (setO_cg (setO_cg rfl (by rw [hR, ← hE])) (by rw [hR])) (by rw [hR])) (by rw [hR, ← hE])⟩
                  · have hb156 := lcmp_lt hb156
                    refine TT_aload_n hK rfl 0 rfl dX12_tellBit_159 ?_
                    refine TT_ldc2 hK lc_X12_193 dX12_tellBit_160 ?_
                    refine TT_aload_n hK rfl 0 rfl dX12_tellBit_163 ?_
                    refine gf_X12_171 hK (by decide) rfl (v := a1) (rd_ ((sOf_ne _ _ (by decide)).trans ((sOf_ne _ _ (by decide)).trans ((sOf_ne _ _ (by decide)).trans (sOf_eq _ _ _)))) ((fup_ne _ _ (by decide)).trans ((fup_ne _ _ (by decide)).trans ((fup_ne _ _ (by decide)).trans (fup_eq _ _ _))))) dX12_tellBit_164 ?_
                    refine TT_lmul hK dX12_tellBit_167 ?_
                    refine pf_X12_171 hK (by decide) rfl dX12_tellBit_168 ?_
                    refine TT_hp (h' := setO (setO (setO (setO h 73 (fup (fup (fup (fup (h 73) 32 (2 * a1)) 33 c1) 34 t1) 36 n1)) 96 s1) 97 l1) 98 o1) (up_can ((sOf_ne _ _ (by decide)).trans ((sOf_ne _ _ (by decide)).trans ((sOf_ne _ _ (by decide)).trans (sOf_eq _ _ _)))) ((fup_comm _ _ _ (by decide)).trans (fup_cg ((fup_comm _ _ _ (by decide)).trans (fup_cg ((fup_comm _ _ _ (by decide)).trans (fup_cg (fup_same _ _ _ _))))))) ((setO_comm _ _ _ (by decide)).trans (setO_cg ((setO_comm _ _ _ (by decide)).trans (setO_cg ((setO_comm _ _ _ (by decide)).trans (setO_cg (setO_same _ _ _ _) rfl)) rfl)) rfl))) ?_
                    refine TT_aload_n hK rfl 0 rfl dX12_tellBit_171 ?_
                    refine TT_ldc2 hK lc_X12_193 dX12_tellBit_172 ?_
                    refine TT_aload_n hK rfl 0 rfl dX12_tellBit_175 ?_
                    refine gf_X12_175 hK (by decide) rfl (v := c1) (rd_ ((sOf_ne _ _ (by decide)).trans ((sOf_ne _ _ (by decide)).trans ((sOf_ne _ _ (by decide)).trans (sOf_eq _ _ _)))) ((fup_ne _ _ (by decide)).trans ((fup_ne _ _ (by decide)).trans (fup_eq _ _ _)))) dX12_tellBit_176 ?_
                    refine TT_lmul hK dX12_tellBit_179 ?_
                    refine pf_X12_175 hK (by decide) rfl dX12_tellBit_180 ?_
                    refine TT_hp (h' := setO (setO (setO (setO h 73 (fup (fup (fup (fup (h 73) 32 (2 * a1)) 33 (2 * c1)) 34 t1) 36 n1)) 96 s1) 97 l1) 98 o1) (up_can ((sOf_ne _ _ (by decide)).trans ((sOf_ne _ _ (by decide)).trans ((sOf_ne _ _ (by decide)).trans (sOf_eq _ _ _)))) ((fup_comm _ _ _ (by decide)).trans (fup_cg ((fup_comm _ _ _ (by decide)).trans (fup_cg (fup_same _ _ _ _))))) ((setO_comm _ _ _ (by decide)).trans (setO_cg ((setO_comm _ _ _ (by decide)).trans (setO_cg ((setO_comm _ _ _ (by decide)).trans (setO_cg (setO_same _ _ _ _) rfl)) rfl)) rfl))) ?_
                    refine TT_aload_n hK rfl 0 rfl dX12_tellBit_183 ?_
                    refine TT_dup hK rfl dX12_tellBit_184 ?_
                    refine gf_X12_178 hK (by decide) rfl (v := t1) (rd_ ((sOf_ne _ _ (by decide)).trans ((sOf_ne _ _ (by decide)).trans ((sOf_ne _ _ (by decide)).trans (sOf_eq _ _ _)))) ((fup_ne _ _ (by decide)).trans (fup_eq _ _ _))) dX12_tellBit_185 ?_
                    refine TT_iconst hK dX12_tellBit_188 ?_
                    refine TT_isub hK dX12_tellBit_189 ?_
                    refine pf_X12_178 hK (by decide) rfl dX12_tellBit_190 ?_
                    refine TT_hp (h' := setO (setO (setO (setO h 73 (fup (fup (fup (fup (h 73) 32 (2 * a1)) 33 (2 * c1)) 34 (t1 - 1)) 36 n1)) 96 s1) 97 l1) 98 o1) (up_can ((sOf_ne _ _ (by decide)).trans ((sOf_ne _ _ (by decide)).trans ((sOf_ne _ _ (by decide)).trans (sOf_eq _ _ _)))) ((fup_comm _ _ _ (by decide)).trans (fup_cg (fup_same _ _ _ _))) ((setO_comm _ _ _ (by decide)).trans (setO_cg ((setO_comm _ _ _ (by decide)).trans (setO_cg ((setO_comm _ _ _ (by decide)).trans (setO_cg (setO_same _ _ _ _) rfl)) rfl)) rfl))) ?_
                    refine TT_aload_n hK rfl 0 rfl dX12_tellBit_193 ?_
                    refine gf_X12_178 hK (by decide) rfl (v := t1 - 1) (rd_ ((sOf_ne _ _ (by decide)).trans ((sOf_ne _ _ (by decide)).trans ((sOf_ne _ _ (by decide)).trans (sOf_eq _ _ _)))) ((fup_ne _ _ (by decide)).trans (fup_eq _ _ _))) dX12_tellBit_194 ?_
                    refine TT_if_ne hK (tgt := 148) (irm (by omega) (by omega)) dX12_tellBit_197 (by decide) (fun hb197 => ?_) (fun hb197 => ?_)
                    · exact ih22 (2 * a1) (2 * c1) (t1 - 1) n1 o1 s1 l1 R9 X9 (by cases f with | zero => exact absurd (MI_z hf) (by omega) | succ f => first | exact ⟨f, MI_next hf (by omega) (by omega)⟩ | exact ⟨f, MI_out hf (by omega) (by omega)⟩) (by exact hX) (by exact hR) (by first | omega | (simp [up, setR] <;> omega))
                    · refine TT_aload_n hK rfl 0 rfl dX12_tellBit_200 ?_
                      have q201_73_33 : (setO (setO (setO (setO h 73 (fup (fup (fup (fup (h 73) 32 (2 * a1)) 33 (2 * c1)) 34 (t1 - 1)) 36 n1)) 96 s1) 97 l1) 98 o1) 73 33 = 2 * c1 := rd_ ((sOf_ne _ _ (by decide)).trans ((sOf_ne _ _ (by decide)).trans ((sOf_ne _ _ (by decide)).trans (sOf_eq _ _ _)))) ((fup_ne _ _ (by decide)).trans ((fup_ne _ _ (by decide)).trans (fup_eq _ _ _)))
                      have q201_73_36 : (setO (setO (setO (setO h 73 (fup (fup (fup (fup (h 73) 32 (2 * a1)) 33 (2 * c1)) 34 (t1 - 1)) 36 n1)) 96 s1) 97 l1) 98 o1) 73 36 = n1 := rd_ ((sOf_ne _ _ (by decide)).trans ((sOf_ne _ _ (by decide)).trans ((sOf_ne _ _ (by decide)).trans (sOf_eq _ _ _)))) (fup_eq _ _ _)
                      have q201_73 : (setO (setO (setO (setO h 73 (fup (fup (fup (fup (h 73) 32 (2 * a1)) 33 (2 * c1)) 34 (t1 - 1)) 36 n1)) 96 s1) 97 l1) 98 o1) 73 = fup (fup (fup (fup (h 73) 32 (2 * a1)) 33 (2 * c1)) 34 (t1 - 1)) 36 n1 := (sOf_ne _ _ (by decide)).trans ((sOf_ne _ _ (by decide)).trans ((sOf_ne _ _ (by decide)).trans (sOf_eq _ _ _)))
                      have q201_98 : (setO (setO (setO (setO h 73 (fup (fup (fup (fup (h 73) 32 (2 * a1)) 33 (2 * c1)) 34 (t1 - 1)) 36 n1)) 96 s1) 97 l1) 98 o1) 98 = o1 := sOf_eq _ _ _
                      refine iv_X12_195 hK (c_X12_putOut_73 (setO (setO (setO (setO h 73 (fup (fup (fup (fup (h 73) 32 (2 * a1)) 33 (2 * c1)) 34 (t1 - 1)) 36 n1)) 96 s1) 97 l1) 98 o1) (by rw [q201_73_36]; first | omega | (simp [up, setR] <;> omega)) (by rw [q201_73_33]; first | omega | (simp [up, setR] <;> omega)) (by rw [q201_73_36, q201_98]; first | omega | (simp [up, setR] <;> omega))) (by decide) rfl ⟨by decide, by decide⟩ (by decide) rfl rfl (Nat.le_of_ble_eq_true rfl) ⟨by decide, by decide⟩ dX12_tellBit_201 ?_
                      intro r9 h9 hp9
                      rw [q201_73_33, q201_73_36, q201_73, q201_98] at hp9
                      rw [hp9.1, hp9.2]
                      refine TT_hp (h' := setO (setO (setO (setO h 73 (fup (fup (fup (fup (h 73) 32 (2 * a1)) 33 ((outS (2 * c1) n1 o1).1)) 34 ((outS (2 * c1) n1 o1).2.1)) 36 ((outS (2 * c1) n1 o1).2.2.1))) 96 s1) 97 l1) 98 ((outS (2 * c1) n1 o1).2.2.2)) ((setO_cg ((setO_cg rfl ((fup_cg ((fup_cg ((fup_comm _ _ _ (by decide)).trans (fup_cg ((fup_comm _ _ _ (by decide)).trans (fup_cg (fup_same _ _ _ _)))))).trans ((fup_comm _ _ _ (by decide)).trans (fup_cg (fup_same _ _ _ _))))).trans (fup_same _ _ _ _))).trans ((setO_comm _ _ _ (by decide)).trans (setO_cg ((setO_comm _ _ _ (by decide)).trans (setO_cg ((setO_comm _ _ _ (by decide)).trans (setO_cg (setO_same _ _ _ _) rfl)) rfl)) rfl))) rfl).trans (setO_same _ _ _ _)) ?_
                      show TT K ly 0 0 204 [(0, vR 73), (1, vI x), (2, vI b)] [] (setO (setO (setO (setO h 73 (fup (fup (fup (fup (h 73) 32 (2 * a1)) 33 ((outS (2 * c1) n1 o1).1)) 34 ((outS (2 * c1) n1 o1).2.1)) 36 ((outS (2 * c1) n1 o1).2.2.1))) 96 s1) 97 l1) 98 ((outS (2 * c1) n1 o1).2.2.2))
                      refine TT_goto hK (tgt := 148) dX12_tellBit_204 (by decide) ?_
                      exact ih22 (2 * a1) ((outS (2 * c1) n1 o1).1) ((outS (2 * c1) n1 o1).2.1) ((outS (2 * c1) n1 o1).2.2.1) ((outS (2 * c1) n1 o1).2.2.2) s1 l1 R9 X9 (by cases f with | zero => exact absurd (MI_z hf) (by omega) | succ f => first | exact ⟨f, MI_next hf (by omega) (by omega)⟩ | exact ⟨f, MI_out hf (by omega) (by omega)⟩) (by exact hX) (by exact hR) (by first | omega | (simp [up, setR] <;> omega))
              refine TT_sub [4, 5, 6] rfl ?_
              refine TT_hp (h' := setO (setO (setO (setO h 73 (fup (fup (fup (fup (h 73) 32 (qS (h 96 x))) 33 ((h 73) 33)) 34 ((h 73) 34)) 36 ((h 73) 36))) 96 (lrS (h 96) x (1 = (1 : Int)))) 97 (lrL (h 96) (h 97) x (1 = (1 : Int)))) 98 (h 98)) ((setO_new (((sOf_ne _ _ (by decide)).trans ((sOf_ne _ _ (by decide)).trans (sOf_ne _ _ (by decide)))).trans (by rfl))).trans (setO_cg (setO_cg (setO_cg (setO_cg rfl (by exact fup_self2 (by decide) rfl rfl)) (by first | rfl | exact fsr_0 _ _ _)) (by first | rfl | exact fsr_0 _ _ _)) rfl)) ?_
              exact L148_22 ((((65536 : Int) - (qS (h 96 x))).toNat) + 1) (qS (h 96 x)) ((h 73) 33) ((h 73) 34) ((h 73) 36) (h 98) (lrS (h 96) x (1 = (1 : Int))) (lrL (h 96) (h 97) x (1 = (1 : Int))) (mendS 15 (qS (h 96 x)) ((h 73) 33) ((h 73) 34) ((h 73) 36) (h 98)) (7 * h 73 36 - h 73 34 + 15) (by exact ⟨15, MI_0 (MQ_tell (x := x) (st := h 96) (P := (b = h 97 x ↔ h 73 32 - qS (h 96 x) < qS (h 96 x))) hq ha hs (by first | exact (if_pos (by omega)).symm | exact (if_neg (by omega)).symm) (by first | exact (if_pos (by omega)).symm | exact (if_neg (by omega)).symm))⟩) (by omega) (by exact tellS_m (by omega) (by first | exact (if_pos (by omega)).symm | exact (if_neg (by omega)).symm) (by first | exact (if_pos (by omega)).symm | exact (if_neg (by omega)).symm) (by omega)) (Nat.lt_succ_self _)
      · have hb76 := lcmp_lt hb76
        refine TT_iconst hK dX12_tellBit_79 ?_
        refine TT_goto hK (tgt := 84) dX12_tellBit_80 (by decide) ?_
        refine TT_istore hK (lv' := [(5, vI 1), (4, vI 1), (3, vI (qS (h 96 x))), (0, vR 73), (1, vI x), (2, vI b)]) (by decide) rfl dX12_tellBit_84 ?_
        refine TT_iload hK 1 rfl dX12_tellBit_86 ?_
        refine TT_iload hK 0 rfl dX12_tellBit_88 ?_
        refine TT_icmp_eq hK (tgt := 97) (by decide) (by decide) dX12_tellBit_90 (by decide) (fun hb90 => ?_) (fun hb90 => ?_)
        · refine TT_iconst hK dX12_tellBit_97 ?_
          refine TT_istore hK (lv' := [(6, vI 0), (5, vI 1), (4, vI 1), (3, vI (qS (h 96 x))), (0, vR 73), (1, vI x), (2, vI b)]) (by decide) rfl dX12_tellBit_98 ?_
          refine TT_aload_n hK rfl 4 rfl dX12_tellBit_100 ?_
          refine TT_iload hK 0 rfl dX12_tellBit_101 ?_
          refine TT_if_eq hK (tgt := 113) (by decide) dX12_tellBit_103 (by decide) (fun hb103 => ?_) (fun hb103 => ?_)
          · refine TT_aload_n hK rfl 4 rfl dX12_tellBit_113 ?_
            refine gf_X12_175 hK (by decide) rfl (v := (h 73) 33) (rd_ (sOf_eq _ _ _) (fup_ne _ _ (by decide))) dX12_tellBit_114 ?_
            refine TT_iload_n hK rfl 3 rfl dX12_tellBit_117 ?_
            refine TT_i2l hK (irm (by omega) (by omega)) dX12_tellBit_118 ?_
            refine TT_ladd hK dX12_tellBit_119 ?_
            refine pf_X12_175 hK (by decide) rfl dX12_tellBit_120 ?_
            refine TT_hp (h' := setO h 73 (fup (fup (h 73) 32 (((h 73) 32) - (qS (h 96 x)))) 33 (((h 73) 33) + (qS (h 96 x))))) (up_can (sOf_eq _ _ _) rfl (setO_same _ _ _ _)) ?_
            refine TT_aload_n hK rfl 4 rfl dX12_tellBit_123 ?_
            refine TT_iload hK 0 rfl dX12_tellBit_124 ?_
            refine TT_if_eq hK (tgt := 134) (by decide) dX12_tellBit_126 (by decide) (fun hb126 => ?_) (fun hb126 => ?_)
            · refine TT_aload_n hK rfl 4 rfl dX12_tellBit_134 ?_
              refine gf_X12_171 hK (by decide) rfl (v := ((h 73) 32) - (qS (h 96 x))) (rd_ (sOf_eq _ _ _) ((fup_ne _ _ (by decide)).trans (fup_eq _ _ _))) dX12_tellBit_135 ?_
              refine pf_X12_171 hK (by decide) rfl dX12_tellBit_138 ?_
              refine TT_hp (h' := setO h 73 (fup (fup (h 73) 32 (((h 73) 32) - (qS (h 96 x)))) 33 (((h 73) 33) + (qS (h 96 x))))) (up_can (sOf_eq _ _ _) ((fup_comm _ _ _ (by decide)).trans (fup_cg (fup_same _ _ _ _))) (setO_same _ _ _ _)) ?_
              refine TT_aload_n hK rfl 4 rfl dX12_tellBit_141 ?_
              refine TT_iload_n hK rfl 5 rfl dX12_tellBit_142 ?_
              refine TT_iload hK 2 rfl dX12_tellBit_143 ?_
              have q145_75 : (setO h 73 (fup (fup (h 73) 32 (((h 73) 32) - (qS (h 96 x)))) 33 (((h 73) 33) + (qS (h 96 x))))) 75 = h 75 := sOf_ne _ _ (by decide)
              have q145_96 : (setO h 73 (fup (fup (h 73) 32 (((h 73) 32) - (qS (h 96 x)))) 33 (((h 73) 33) + (qS (h 96 x))))) 96 = h 96 := sOf_ne _ _ (by decide)
              have q145_97 : (setO h 73 (fup (fup (h 73) 32 (((h 73) 32) - (qS (h 96 x)))) 33 (((h 73) 33) + (qS (h 96 x))))) 97 = h 97 := sOf_ne _ _ (by decide)
              refine iv_X12_189 hK (c_X12_learn_73 x 1 (setO h 73 (fup (fup (h 73) 32 (((h 73) 32) - (qS (h 96 x)))) 33 (((h 73) 33) + (qS (h 96 x))))) (by first | omega | (simp [up, setR] <;> omega)) (by decide) (by rw [q145_75]; exact tb2) (by rw [q145_96]; exact hst) (by rw [q145_97]; exact hlk)) (by decide) rfl ⟨by decide, by decide⟩ (by decide) rfl rfl (Nat.le_of_ble_eq_true rfl) ⟨by decide, by decide⟩ dX12_tellBit_145 ?_
              intro r9 h9 hp9
              rw [q145_96, q145_97] at hp9
              rw [hp9.1, hp9.2]
              show TT K ly 0 0 148 [(6, vI 0), (5, vI 1), (4, vI 1), (3, vI (qS (h 96 x))), (0, vR 73), (1, vI x), (2, vI b)] [] (setO (setO (setO h 73 (fup (fup (h 73) 32 (((h 73) 32) - (qS (h 96 x)))) 33 (((h 73) 33) + (qS (h 96 x))))) 96 (lrS (h 96) x (1 = (1 : Int)))) 97 (lrL (h 96) (h 97) x (1 = (1 : Int))))
              have L148_28 : ∀ (k28 : Nat) (a1 : Int) (c1 : Int) (t1 : Int) (n1 : Int) (o1 : Int → Int) (s1 : Int → Int) (l1 : Int → Int) (R9 : Int × Int × Int × Int × (Int → Int)) (X9 : Int), (∃ f, MI_ f a1 c1 t1 n1 o1 R9 X9) → (X9 ≤ 7 * 3190 + 15) → ((tellS (h 73 32, h 73 33, h 73 34, h 73 36, h 96, h 97, h 98) x b) = (R9.1, R9.2.1, R9.2.2.1, R9.2.2.2.1, s1, l1, R9.2.2.2.2)) → ((65536 : Int) - a1).toNat < k28 → TT K ly 0 0 148 [(0, vR 73), (1, vI x), (2, vI b)] [] (setO (setO (setO (setO h 73 (fup (fup (fup (fup (h 73) 32 a1) 33 c1) 34 t1) 36 n1)) 96 s1) 97 l1) 98 o1) := by
                intro k28
                induction k28 with
                | zero => intro a1 c1 t1 n1 o1 s1 l1 R9 X9 hM hX hR hk28; exact absurd hk28 (Nat.not_lt_zero _)
                | succ k28 ih28 =>
                  intro a1 c1 t1 n1 o1 s1 l1 R9 X9 hM hX hR hk28
                  obtain ⟨f, hf⟩ := hM
                  have hcr := hf.2.2.2.c_r
                  obtain ⟨m1, m2, m3, m4, m5, m6, m7, m8, m9⟩ := hf.2.2.2
                  have hM : ∃ f, MI_ f a1 c1 t1 n1 o1 R9 X9 := ⟨f, hf⟩
                  have hX2 := hf.2.2.1
                  refine TT_aload_n hK rfl 0 rfl dX12_tellBit_148 ?_
                  refine gf_X12_171 hK (by decide) rfl (v := a1) (rd_ ((sOf_ne _ _ (by decide)).trans ((sOf_ne _ _ (by decide)).trans ((sOf_ne _ _ (by decide)).trans (sOf_eq _ _ _)))) ((fup_ne _ _ (by decide)).trans ((fup_ne _ _ (by decide)).trans ((fup_ne _ _ (by decide)).trans (fup_eq _ _ _))))) dX12_tellBit_149 ?_
                  refine TT_ldc2 hK lc_X12_169 dX12_tellBit_152 ?_
                  refine TT_lcmp hK (lrm (by omega) (by omega)) (by decide) dX12_tellBit_155 ?_
                  refine TT_if_ge hK (tgt := 207) (lcmp_ir _ _) dX12_tellBit_156 (by decide) (fun hb156 => ?_) (fun hb156 => ?_)
                  · have hb156 := lcmp_ge hb156
                    refine TT_iload_n hK rfl 2 rfl dX12_tellBit_207 ?_
                    refine TT_iret hK hQ ?_ dX12_tellBit_208
                    have hE := MI_done hM.choose_spec (by omega)
                    exact ⟨congrArg (fun z => some (vI z)) (by rfl), setO_cg (setO_cg (setO_cg (setO_cg rfl (by rw [hR, ← hE])) (by rw [hR])) (by rw [hR])) (by rw [hR, ← hE])⟩
                  · have hb156 := lcmp_lt hb156
                    refine TT_aload_n hK rfl 0 rfl dX12_tellBit_159 ?_
                    refine TT_ldc2 hK lc_X12_193 dX12_tellBit_160 ?_
                    refine TT_aload_n hK rfl 0 rfl dX12_tellBit_163 ?_
                    refine gf_X12_171 hK (by decide) rfl (v := a1) (rd_ ((sOf_ne _ _ (by decide)).trans ((sOf_ne _ _ (by decide)).trans ((sOf_ne _ _ (by decide)).trans (sOf_eq _ _ _)))) ((fup_ne _ _ (by decide)).trans ((fup_ne _ _ (by decide)).trans ((fup_ne _ _ (by decide)).trans (fup_eq _ _ _))))) dX12_tellBit_164 ?_
                    refine TT_lmul hK dX12_tellBit_167 ?_
                    refine pf_X12_171 hK (by decide) rfl dX12_tellBit_168 ?_
                    refine TT_hp (h' := setO (setO (setO (setO h 73 (fup (fup (fup (fup (h 73) 32 (2 * a1)) 33 c1) 34 t1) 36 n1)) 96 s1) 97 l1) 98 o1) (up_can ((sOf_ne _ _ (by decide)).trans ((sOf_ne _ _ (by decide)).trans ((sOf_ne _ _ (by decide)).trans (sOf_eq _ _ _)))) ((fup_comm _ _ _ (by decide)).trans (fup_cg ((fup_comm _ _ _ (by decide)).trans (fup_cg ((fup_comm _ _ _ (by decide)).trans (fup_cg (fup_same _ _ _ _))))))) ((setO_comm _ _ _ (by decide)).trans (setO_cg ((setO_comm _ _ _ (by decide)).trans (setO_cg ((setO_comm _ _ _ (by decide)).trans (setO_cg (setO_same _ _ _ _) rfl)) rfl)) rfl))) ?_
                    refine TT_aload_n hK rfl 0 rfl dX12_tellBit_171 ?_
                    refine TT_ldc2 hK lc_X12_193 dX12_tellBit_172 ?_
                    refine TT_aload_n hK rfl 0 rfl dX12_tellBit_175 ?_
                    refine gf_X12_175 hK (by decide) rfl (v := c1) (rd_ ((sOf_ne _ _ (by decide)).trans ((sOf_ne _ _ (by decide)).trans ((sOf_ne _ _ (by decide)).trans (sOf_eq _ _ _)))) ((fup_ne _ _ (by decide)).trans ((fup_ne _ _ (by decide)).trans (fup_eq _ _ _)))) dX12_tellBit_176 ?_
                    refine TT_lmul hK dX12_tellBit_179 ?_
                    refine pf_X12_175 hK (by decide) rfl dX12_tellBit_180 ?_
                    refine TT_hp (h' := setO (setO (setO (setO h 73 (fup (fup (fup (fup (h 73) 32 (2 * a1)) 33 (2 * c1)) 34 t1) 36 n1)) 96 s1) 97 l1) 98 o1) (up_can ((sOf_ne _ _ (by decide)).trans ((sOf_ne _ _ (by decide)).trans ((sOf_ne _ _ (by decide)).trans (sOf_eq _ _ _)))) ((fup_comm _ _ _ (by decide)).trans (fup_cg ((fup_comm _ _ _ (by decide)).trans (fup_cg (fup_same _ _ _ _))))) ((setO_comm _ _ _ (by decide)).trans (setO_cg ((setO_comm _ _ _ (by decide)).trans (setO_cg ((setO_comm _ _ _ (by decide)).trans (setO_cg (setO_same _ _ _ _) rfl)) rfl)) rfl))) ?_
                    refine TT_aload_n hK rfl 0 rfl dX12_tellBit_183 ?_
                    refine TT_dup hK rfl dX12_tellBit_184 ?_
                    refine gf_X12_178 hK (by decide) rfl (v := t1) (rd_ ((sOf_ne _ _ (by decide)).trans ((sOf_ne _ _ (by decide)).trans ((sOf_ne _ _ (by decide)).trans (sOf_eq _ _ _)))) ((fup_ne _ _ (by decide)).trans (fup_eq _ _ _))) dX12_tellBit_185 ?_
                    refine TT_iconst hK dX12_tellBit_188 ?_
                    refine TT_isub hK dX12_tellBit_189 ?_
                    refine pf_X12_178 hK (by decide) rfl dX12_tellBit_190 ?_
                    refine TT_hp (h' := setO (setO (setO (setO h 73 (fup (fup (fup (fup (h 73) 32 (2 * a1)) 33 (2 * c1)) 34 (t1 - 1)) 36 n1)) 96 s1) 97 l1) 98 o1) (up_can ((sOf_ne _ _ (by decide)).trans ((sOf_ne _ _ (by decide)).trans ((sOf_ne _ _ (by decide)).trans (sOf_eq _ _ _)))) ((fup_comm _ _ _ (by decide)).trans (fup_cg (fup_same _ _ _ _))) ((setO_comm _ _ _ (by decide)).trans (setO_cg ((setO_comm _ _ _ (by decide)).trans (setO_cg ((setO_comm _ _ _ (by decide)).trans (setO_cg (setO_same _ _ _ _) rfl)) rfl)) rfl))) ?_
                    refine TT_aload_n hK rfl 0 rfl dX12_tellBit_193 ?_
                    refine gf_X12_178 hK (by decide) rfl (v := t1 - 1) (rd_ ((sOf_ne _ _ (by decide)).trans ((sOf_ne _ _ (by decide)).trans ((sOf_ne _ _ (by decide)).trans (sOf_eq _ _ _)))) ((fup_ne _ _ (by decide)).trans (fup_eq _ _ _))) dX12_tellBit_194 ?_
                    refine TT_if_ne hK (tgt := 148) (irm (by omega) (by omega)) dX12_tellBit_197 (by decide) (fun hb197 => ?_) (fun hb197 => ?_)
                    · exact ih28 (2 * a1) (2 * c1) (t1 - 1) n1 o1 s1 l1 R9 X9 (by cases f with | zero => exact absurd (MI_z hf) (by omega) | succ f => first | exact ⟨f, MI_next hf (by omega) (by omega)⟩ | exact ⟨f, MI_out hf (by omega) (by omega)⟩) (by exact hX) (by exact hR) (by first | omega | (simp [up, setR] <;> omega))
                    · refine TT_aload_n hK rfl 0 rfl dX12_tellBit_200 ?_
                      have q201_73_33 : (setO (setO (setO (setO h 73 (fup (fup (fup (fup (h 73) 32 (2 * a1)) 33 (2 * c1)) 34 (t1 - 1)) 36 n1)) 96 s1) 97 l1) 98 o1) 73 33 = 2 * c1 := rd_ ((sOf_ne _ _ (by decide)).trans ((sOf_ne _ _ (by decide)).trans ((sOf_ne _ _ (by decide)).trans (sOf_eq _ _ _)))) ((fup_ne _ _ (by decide)).trans ((fup_ne _ _ (by decide)).trans (fup_eq _ _ _)))
                      have q201_73_36 : (setO (setO (setO (setO h 73 (fup (fup (fup (fup (h 73) 32 (2 * a1)) 33 (2 * c1)) 34 (t1 - 1)) 36 n1)) 96 s1) 97 l1) 98 o1) 73 36 = n1 := rd_ ((sOf_ne _ _ (by decide)).trans ((sOf_ne _ _ (by decide)).trans ((sOf_ne _ _ (by decide)).trans (sOf_eq _ _ _)))) (fup_eq _ _ _)
                      have q201_73 : (setO (setO (setO (setO h 73 (fup (fup (fup (fup (h 73) 32 (2 * a1)) 33 (2 * c1)) 34 (t1 - 1)) 36 n1)) 96 s1) 97 l1) 98 o1) 73 = fup (fup (fup (fup (h 73) 32 (2 * a1)) 33 (2 * c1)) 34 (t1 - 1)) 36 n1 := (sOf_ne _ _ (by decide)).trans ((sOf_ne _ _ (by decide)).trans ((sOf_ne _ _ (by decide)).trans (sOf_eq _ _ _)))
                      have q201_98 : (setO (setO (setO (setO h 73 (fup (fup (fup (fup (h 73) 32 (2 * a1)) 33 (2 * c1)) 34 (t1 - 1)) 36 n1)) 96 s1) 97 l1) 98 o1) 98 = o1 := sOf_eq _ _ _
                      refine iv_X12_195 hK (c_X12_putOut_73 (setO (setO (setO (setO h 73 (fup (fup (fup (fup (h 73) 32 (2 * a1)) 33 (2 * c1)) 34 (t1 - 1)) 36 n1)) 96 s1) 97 l1) 98 o1) (by rw [q201_73_36]; first | omega | (simp [up, setR] <;> omega)) (by rw [q201_73_33]; first | omega | (simp [up, setR] <;> omega)) (by rw [q201_73_36, q201_98]; first | omega | (simp [up, setR] <;> omega))) (by decide) rfl ⟨by decide, by decide⟩ (by decide) rfl rfl (Nat.le_of_ble_eq_true rfl) ⟨by decide, by decide⟩ dX12_tellBit_201 ?_
                      intro r9 h9 hp9
                      rw [q201_73_33, q201_73_36, q201_73, q201_98] at hp9
                      rw [hp9.1, hp9.2]
                      refine TT_hp (h' := setO (setO (setO (setO h 73 (fup (fup (fup (fup (h 73) 32 (2 * a1)) 33 ((outS (2 * c1) n1 o1).1)) 34 ((outS (2 * c1) n1 o1).2.1)) 36 ((outS (2 * c1) n1 o1).2.2.1))) 96 s1) 97 l1) 98 ((outS (2 * c1) n1 o1).2.2.2)) ((setO_cg ((setO_cg rfl ((fup_cg ((fup_cg ((fup_comm _ _ _ (by decide)).trans (fup_cg ((fup_comm _ _ _ (by decide)).trans (fup_cg (fup_same _ _ _ _)))))).trans ((fup_comm _ _ _ (by decide)).trans (fup_cg (fup_same _ _ _ _))))).trans (fup_same _ _ _ _))).trans ((setO_comm _ _ _ (by decide)).trans (setO_cg ((setO_comm _ _ _ (by decide)).trans (setO_cg ((setO_comm _ _ _ (by decide)).trans (setO_cg (setO_same _ _ _ _) rfl)) rfl)) rfl))) rfl).trans (setO_same _ _ _ _)) ?_
                      show TT K ly 0 0 204 [(0, vR 73), (1, vI x), (2, vI b)] [] (setO (setO (setO (setO h 73 (fup (fup (fup (fup (h 73) 32 (2 * a1)) 33 ((outS (2 * c1) n1 o1).1)) 34 ((outS (2 * c1) n1 o1).2.1)) 36 ((outS (2 * c1) n1 o1).2.2.1))) 96 s1) 97 l1) 98 ((outS (2 * c1) n1 o1).2.2.2))
                      refine TT_goto hK (tgt := 148) dX12_tellBit_204 (by decide) ?_
                      exact ih28 (2 * a1) ((outS (2 * c1) n1 o1).1) ((outS (2 * c1) n1 o1).2.1) ((outS (2 * c1) n1 o1).2.2.1) ((outS (2 * c1) n1 o1).2.2.2) s1 l1 R9 X9 (by cases f with | zero => exact absurd (MI_z hf) (by omega) | succ f => first | exact ⟨f, MI_next hf (by omega) (by omega)⟩ | exact ⟨f, MI_out hf (by omega) (by omega)⟩) (by exact hX) (by exact hR) (by first | omega | (simp [up, setR] <;> omega))
              refine TT_sub [4, 5, 6] rfl ?_
              refine TT_hp (h' := setO (setO (setO (setO h 73 (fup (fup (fup (fup (h 73) 32 (((h 73) 32) - (qS (h 96 x)))) 33 (((h 73) 33) + (qS (h 96 x)))) 34 ((h 73) 34)) 36 ((h 73) 36))) 96 (lrS (h 96) x (1 = (1 : Int)))) 97 (lrL (h 96) (h 97) x (1 = (1 : Int)))) 98 (h 98)) ((setO_new (((sOf_ne _ _ (by decide)).trans ((sOf_ne _ _ (by decide)).trans (sOf_ne _ _ (by decide)))).trans (by rfl))).trans (setO_cg (setO_cg (setO_cg (setO_cg rfl (by exact fup_self2 (by decide) rfl rfl)) (by first | rfl | exact fsr_0 _ _ _)) (by first | rfl | exact fsr_0 _ _ _)) rfl)) ?_
              exact L148_28 ((((65536 : Int) - (((h 73) 32) - (qS (h 96 x)))).toNat) + 1) (((h 73) 32) - (qS (h 96 x))) (((h 73) 33) + (qS (h 96 x))) ((h 73) 34) ((h 73) 36) (h 98) (lrS (h 96) x (1 = (1 : Int))) (lrL (h 96) (h 97) x (1 = (1 : Int))) (mendS 15 (((h 73) 32) - (qS (h 96 x))) (((h 73) 33) + (qS (h 96 x))) ((h 73) 34) ((h 73) 36) (h 98)) (7 * h 73 36 - h 73 34 + 15) (by exact ⟨15, MI_0 (MQ_tell (x := x) (st := h 96) (P := (b = h 97 x ↔ h 73 32 - qS (h 96 x) < qS (h 96 x))) hq ha hs (by first | exact (if_pos (by omega)).symm | exact (if_neg (by omega)).symm) (by first | exact (if_pos (by omega)).symm | exact (if_neg (by omega)).symm))⟩) (by omega) (by exact tellS_m (by omega) (by first | exact (if_pos (by omega)).symm | exact (if_neg (by omega)).symm) (by first | exact (if_pos (by omega)).symm | exact (if_neg (by omega)).symm) (by omega)) (Nat.lt_succ_self _)
            · exact absurd hb126 (by decide)
          · exact absurd hb103 (by decide)
        · exact absurd hb90 (by decide)
    · exact absurd hb42 (by decide)

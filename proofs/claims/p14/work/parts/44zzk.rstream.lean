theorem B3s {f r : Int} {g : Int → Int} (hr : 1 ≤ r) (hg : ∀ j : Int, 0 ≤ j → j < 3 * (r - 1) + 1 → g (f + j) = 3) : ∀ j : Int, 0 ≤ j → j < 3 * (r + 1 - 1) + 1 → fup (fup (fup g (f + 3 * r - 2) 3) (f + 3 * r - 1) 3) (f + 3 * r) 3 (f + j) = 3 := by
  intro j h1 h2
  by_cases c1 : f + j = f + 3 * r
  · rw [c1, fup_eq]
  rw [fup_ne _ _ c1]
  by_cases c2 : f + j = f + 3 * r - 1
  · rw [c2, fup_eq]
  rw [fup_ne _ _ c2]
  by_cases c3 : f + j = f + 3 * r - 2
  · rw [c3, fup_eq]
  rw [fup_ne _ _ c3]
  exact hg j h1 (by omega)
set_option maxRecDepth 20000 in
theorem s_beBand_s (b w e k : Int) (h : Hp_) (hT : TY h) (hb : 0 ≤ b ∧ b ≤ 19) (hw : 0 ≤ w ∧ w ≤ 8) (he : 0 ≤ e ∧ e ≤ 8) (hk : 0 ≤ k ∧ k ≤ 2) : Ctr yX12_beBand cX12_beBand 6 none (rmd 0) ly ly 0 0 [vR 73, vI b, vI w, vI e, vI k] h (fun r h' => (TY h' ∧ FRM [80, 81, 82, 83, 84, 85, 86, 87, 88] [] h h') ∧ r = none ∧ ((h' 80) = fup (h 80) b w) ∧ ((h' 81) = fup (h 81) b e) ∧ ((h' 86) = fup (h 86) b 0) ∧ (∀ j : Int, j < 64 * b ∨ 64 * b + 64 ≤ j → (h' 84) j = (h 84) j ∧ (h' 85) j = (h 85) j) ∧ ((h' 82) = fup (h 82) b k) ∧ (∀ q : Int, 64 * b ≤ q → q < 64 * b + 64 → (h' 84) q = 0) ∧ ((h' 83) = fup (h 83) b 0) ∧ ((h' 88) = fup (h 88) b 3)) := by
  refine Ctr_of (by decide) (Nat.le_of_ble_eq_true rfl) ⟨Nat.le_refl _, Nat.le_refl _⟩ (fun K hK hQ _ => ?_)
  show TT K ly 0 0 0 [(0, vR 73), (1, vI b), (2, vI w), (3, vI e), (4, vI k)] [] h
  have hF : FRM [80, 81, 82, 83, 84, 85, 86, 87, 88] [] h h := FRM_rf _ _ _
  refine TT_aload_n hK rfl 0 rfl dX12_beBand_0 ?_
  refine gf_X12_35 hK (by decide) rfl (q := 80) rfl rfl dX12_beBand_1 ?_
  refine TT_iload_n hK rfl 1 rfl dX12_beBand_4 ?_
  refine TT_iload_n hK rfl 2 rfl dX12_beBand_5 ?_
  refine TT_iast hK (o := 80) (n := 20) (by decide) rfl (by omega) (by omega) dX12_beBand_6 ?_
  refine TT_hp (h' := setO h 80 (fup (h 80) b w)) (up_can rfl rfl rfl) ?_
  have hT_1 : TY (setO h 80 (fup (h 80) b w)) := tu_80 hT (show up h 80 b w = (setO h 80 (fup (h 80) b w)) from up_can rfl rfl rfl) (by omega)
  have hF_1 : FRM [80, 81, 82, 83, 84, 85, 86, 87, 88] [] h (setO h 80 (fup (h 80) b w)) := FRM_up (show up h 80 b w = (setO h 80 (fup (h 80) b w)) from up_can rfl rfl rfl) hF (by decide) (by decide)
  refine TT_aload_n hK rfl 0 rfl dX12_beBand_7 ?_
  refine gf_X12_38 hK (by decide) rfl (q := 81) rfl rfl dX12_beBand_8 ?_
  refine TT_iload_n hK rfl 1 rfl dX12_beBand_11 ?_
  refine TT_iload_n hK rfl 3 rfl dX12_beBand_12 ?_
  refine TT_iast hK (o := 81) (n := 20) (by decide) rfl (by omega) (by omega) dX12_beBand_13 ?_
  refine TT_hp (h' := setO (setO h 80 (fup (h 80) b w)) 81 (fup (h 81) b e)) (up_can (sOf_ne _ _ (by decide)) rfl rfl) ?_
  have hT_2 : TY (setO (setO h 80 (fup (h 80) b w)) 81 (fup (h 81) b e)) := tu_81 hT_1 (show up (setO h 80 (fup (h 80) b w)) 81 b e = (setO (setO h 80 (fup (h 80) b w)) 81 (fup (h 81) b e)) from up_can (sOf_ne _ _ (by decide)) rfl rfl) (by omega)
  have hF_2 : FRM [80, 81, 82, 83, 84, 85, 86, 87, 88] [] h (setO (setO h 80 (fup (h 80) b w)) 81 (fup (h 81) b e)) := FRM_up (show up (setO h 80 (fup (h 80) b w)) 81 b e = (setO (setO h 80 (fup (h 80) b w)) 81 (fup (h 81) b e)) from up_can (sOf_ne _ _ (by decide)) rfl rfl) hF_1 (by decide) (by decide)
  refine TT_aload_n hK rfl 0 rfl dX12_beBand_14 ?_
  refine gf_X12_41 hK (by decide) rfl (q := 82) rfl rfl dX12_beBand_15 ?_
  refine TT_iload_n hK rfl 1 rfl dX12_beBand_18 ?_
  refine TT_iload hK 4 rfl dX12_beBand_19 ?_
  refine TT_iast hK (o := 82) (n := 20) (by decide) rfl (by omega) (by omega) dX12_beBand_21 ?_
  refine TT_hp (h' := setO (setO (setO h 80 (fup (h 80) b w)) 81 (fup (h 81) b e)) 82 (fup (h 82) b k)) (up_can ((sOf_ne _ _ (by decide)).trans (sOf_ne _ _ (by decide))) rfl rfl) ?_
  have hT_3 : TY (setO (setO (setO h 80 (fup (h 80) b w)) 81 (fup (h 81) b e)) 82 (fup (h 82) b k)) := tu_82 hT_2 (show up (setO (setO h 80 (fup (h 80) b w)) 81 (fup (h 81) b e)) 82 b k = (setO (setO (setO h 80 (fup (h 80) b w)) 81 (fup (h 81) b e)) 82 (fup (h 82) b k)) from up_can ((sOf_ne _ _ (by decide)).trans (sOf_ne _ _ (by decide))) rfl rfl) (by omega)
  have hF_3 : FRM [80, 81, 82, 83, 84, 85, 86, 87, 88] [] h (setO (setO (setO h 80 (fup (h 80) b w)) 81 (fup (h 81) b e)) 82 (fup (h 82) b k)) := FRM_up (show up (setO (setO h 80 (fup (h 80) b w)) 81 (fup (h 81) b e)) 82 b k = (setO (setO (setO h 80 (fup (h 80) b w)) 81 (fup (h 81) b e)) 82 (fup (h 82) b k)) from up_can ((sOf_ne _ _ (by decide)).trans (sOf_ne _ _ (by decide))) rfl rfl) hF_2 (by decide) (by decide)
  refine TT_aload_n hK rfl 0 rfl dX12_beBand_22 ?_
  refine gf_X12_44 hK (by decide) rfl (q := 83) rfl rfl dX12_beBand_23 ?_
  refine TT_iload_n hK rfl 1 rfl dX12_beBand_26 ?_
  refine TT_iconst hK dX12_beBand_27 ?_
  refine TT_iast hK (o := 83) (n := 20) (by decide) rfl (by omega) (by omega) dX12_beBand_28 ?_
  refine TT_hp (h' := setO (setO (setO (setO h 80 (fup (h 80) b w)) 81 (fup (h 81) b e)) 82 (fup (h 82) b k)) 83 (fup (h 83) b 0)) (up_can ((sOf_ne _ _ (by decide)).trans ((sOf_ne _ _ (by decide)).trans (sOf_ne _ _ (by decide)))) rfl rfl) ?_
  have hT_4 : TY (setO (setO (setO (setO h 80 (fup (h 80) b w)) 81 (fup (h 81) b e)) 82 (fup (h 82) b k)) 83 (fup (h 83) b 0)) := tu_83 hT_3 (show up (setO (setO (setO h 80 (fup (h 80) b w)) 81 (fup (h 81) b e)) 82 (fup (h 82) b k)) 83 b 0 = (setO (setO (setO (setO h 80 (fup (h 80) b w)) 81 (fup (h 81) b e)) 82 (fup (h 82) b k)) 83 (fup (h 83) b 0)) from up_can ((sOf_ne _ _ (by decide)).trans ((sOf_ne _ _ (by decide)).trans (sOf_ne _ _ (by decide)))) rfl rfl) (by omega)
  have hF_4 : FRM [80, 81, 82, 83, 84, 85, 86, 87, 88] [] h (setO (setO (setO (setO h 80 (fup (h 80) b w)) 81 (fup (h 81) b e)) 82 (fup (h 82) b k)) 83 (fup (h 83) b 0)) := FRM_up (show up (setO (setO (setO h 80 (fup (h 80) b w)) 81 (fup (h 81) b e)) 82 (fup (h 82) b k)) 83 b 0 = (setO (setO (setO (setO h 80 (fup (h 80) b w)) 81 (fup (h 81) b e)) 82 (fup (h 82) b k)) 83 (fup (h 83) b 0)) from up_can ((sOf_ne _ _ (by decide)).trans ((sOf_ne _ _ (by decide)).trans (sOf_ne _ _ (by decide)))) rfl rfl) hF_3 (by decide) (by decide)
  refine TT_aload_n hK rfl 0 rfl dX12_beBand_29 ?_
  refine gf_X12_54 hK (by decide) rfl (q := 86) rfl rfl dX12_beBand_30 ?_
  refine TT_iload_n hK rfl 1 rfl dX12_beBand_33 ?_
  refine TT_iconst hK dX12_beBand_34 ?_
  refine TT_iast hK (o := 86) (n := 20) (by decide) rfl (by omega) (by omega) dX12_beBand_35 ?_
  refine TT_hp (h' := setO (setO (setO (setO (setO h 80 (fup (h 80) b w)) 81 (fup (h 81) b e)) 82 (fup (h 82) b k)) 83 (fup (h 83) b 0)) 86 (fup (h 86) b 0)) (up_can ((sOf_ne _ _ (by decide)).trans ((sOf_ne _ _ (by decide)).trans ((sOf_ne _ _ (by decide)).trans (sOf_ne _ _ (by decide))))) rfl rfl) ?_
  have hT_5 : TY (setO (setO (setO (setO (setO h 80 (fup (h 80) b w)) 81 (fup (h 81) b e)) 82 (fup (h 82) b k)) 83 (fup (h 83) b 0)) 86 (fup (h 86) b 0)) := tu_86 hT_4 (show up (setO (setO (setO (setO h 80 (fup (h 80) b w)) 81 (fup (h 81) b e)) 82 (fup (h 82) b k)) 83 (fup (h 83) b 0)) 86 b 0 = (setO (setO (setO (setO (setO h 80 (fup (h 80) b w)) 81 (fup (h 81) b e)) 82 (fup (h 82) b k)) 83 (fup (h 83) b 0)) 86 (fup (h 86) b 0)) from up_can ((sOf_ne _ _ (by decide)).trans ((sOf_ne _ _ (by decide)).trans ((sOf_ne _ _ (by decide)).trans (sOf_ne _ _ (by decide))))) rfl rfl) (by omega)
  have hF_5 : FRM [80, 81, 82, 83, 84, 85, 86, 87, 88] [] h (setO (setO (setO (setO (setO h 80 (fup (h 80) b w)) 81 (fup (h 81) b e)) 82 (fup (h 82) b k)) 83 (fup (h 83) b 0)) 86 (fup (h 86) b 0)) := FRM_up (show up (setO (setO (setO (setO h 80 (fup (h 80) b w)) 81 (fup (h 81) b e)) 82 (fup (h 82) b k)) 83 (fup (h 83) b 0)) 86 b 0 = (setO (setO (setO (setO (setO h 80 (fup (h 80) b w)) 81 (fup (h 81) b e)) 82 (fup (h 82) b k)) 83 (fup (h 83) b 0)) 86 (fup (h 86) b 0)) from up_can ((sOf_ne _ _ (by decide)).trans ((sOf_ne _ _ (by decide)).trans ((sOf_ne _ _ (by decide)).trans (sOf_ne _ _ (by decide))))) rfl rfl) hF_4 (by decide) (by decide)
  refine TT_aload_n hK rfl 0 rfl dX12_beBand_36 ?_
  refine gf_X12_57 hK (by decide) rfl (q := 87) rfl rfl dX12_beBand_37 ?_
  refine TT_iload_n hK rfl 1 rfl dX12_beBand_40 ?_
  refine TT_iconst hK dX12_beBand_41 ?_
  refine TT_iast hK (o := 87) (n := 20) (by decide) rfl (by omega) (by omega) dX12_beBand_42 ?_
  refine TT_hp (h' := setO (setO (setO (setO (setO (setO h 80 (fup (h 80) b w)) 81 (fup (h 81) b e)) 82 (fup (h 82) b k)) 83 (fup (h 83) b 0)) 86 (fup (h 86) b 0)) 87 (fup (h 87) b 0)) (up_can ((sOf_ne _ _ (by decide)).trans ((sOf_ne _ _ (by decide)).trans ((sOf_ne _ _ (by decide)).trans ((sOf_ne _ _ (by decide)).trans (sOf_ne _ _ (by decide)))))) rfl rfl) ?_
  have hT_6 : TY (setO (setO (setO (setO (setO (setO h 80 (fup (h 80) b w)) 81 (fup (h 81) b e)) 82 (fup (h 82) b k)) 83 (fup (h 83) b 0)) 86 (fup (h 86) b 0)) 87 (fup (h 87) b 0)) := tu_87 hT_5 (show up (setO (setO (setO (setO (setO h 80 (fup (h 80) b w)) 81 (fup (h 81) b e)) 82 (fup (h 82) b k)) 83 (fup (h 83) b 0)) 86 (fup (h 86) b 0)) 87 b 0 = (setO (setO (setO (setO (setO (setO h 80 (fup (h 80) b w)) 81 (fup (h 81) b e)) 82 (fup (h 82) b k)) 83 (fup (h 83) b 0)) 86 (fup (h 86) b 0)) 87 (fup (h 87) b 0)) from up_can ((sOf_ne _ _ (by decide)).trans ((sOf_ne _ _ (by decide)).trans ((sOf_ne _ _ (by decide)).trans ((sOf_ne _ _ (by decide)).trans (sOf_ne _ _ (by decide)))))) rfl rfl) (by omega)
  have hF_6 : FRM [80, 81, 82, 83, 84, 85, 86, 87, 88] [] h (setO (setO (setO (setO (setO (setO h 80 (fup (h 80) b w)) 81 (fup (h 81) b e)) 82 (fup (h 82) b k)) 83 (fup (h 83) b 0)) 86 (fup (h 86) b 0)) 87 (fup (h 87) b 0)) := FRM_up (show up (setO (setO (setO (setO (setO h 80 (fup (h 80) b w)) 81 (fup (h 81) b e)) 82 (fup (h 82) b k)) 83 (fup (h 83) b 0)) 86 (fup (h 86) b 0)) 87 b 0 = (setO (setO (setO (setO (setO (setO h 80 (fup (h 80) b w)) 81 (fup (h 81) b e)) 82 (fup (h 82) b k)) 83 (fup (h 83) b 0)) 86 (fup (h 86) b 0)) 87 (fup (h 87) b 0)) from up_can ((sOf_ne _ _ (by decide)).trans ((sOf_ne _ _ (by decide)).trans ((sOf_ne _ _ (by decide)).trans ((sOf_ne _ _ (by decide)).trans (sOf_ne _ _ (by decide)))))) rfl rfl) hF_5 (by decide) (by decide)
  refine TT_aload_n hK rfl 0 rfl dX12_beBand_43 ?_
  refine gf_X12_60 hK (by decide) rfl (q := 88) rfl rfl dX12_beBand_44 ?_
  refine TT_iload_n hK rfl 1 rfl dX12_beBand_47 ?_
  refine TT_iconst hK dX12_beBand_48 ?_
  refine TT_iast hK (o := 88) (n := 20) (by decide) rfl (by omega) (by omega) dX12_beBand_49 ?_
  refine TT_hp (h' := setO (setO (setO (setO (setO (setO (setO h 80 (fup (h 80) b w)) 81 (fup (h 81) b e)) 82 (fup (h 82) b k)) 83 (fup (h 83) b 0)) 86 (fup (h 86) b 0)) 87 (fup (h 87) b 0)) 88 (fup (h 88) b 3)) (up_can ((sOf_ne _ _ (by decide)).trans ((sOf_ne _ _ (by decide)).trans ((sOf_ne _ _ (by decide)).trans ((sOf_ne _ _ (by decide)).trans ((sOf_ne _ _ (by decide)).trans (sOf_ne _ _ (by decide))))))) rfl rfl) ?_
  have hT_7 : TY (setO (setO (setO (setO (setO (setO (setO h 80 (fup (h 80) b w)) 81 (fup (h 81) b e)) 82 (fup (h 82) b k)) 83 (fup (h 83) b 0)) 86 (fup (h 86) b 0)) 87 (fup (h 87) b 0)) 88 (fup (h 88) b 3)) := tu_88 hT_6 (show up (setO (setO (setO (setO (setO (setO h 80 (fup (h 80) b w)) 81 (fup (h 81) b e)) 82 (fup (h 82) b k)) 83 (fup (h 83) b 0)) 86 (fup (h 86) b 0)) 87 (fup (h 87) b 0)) 88 b 3 = (setO (setO (setO (setO (setO (setO (setO h 80 (fup (h 80) b w)) 81 (fup (h 81) b e)) 82 (fup (h 82) b k)) 83 (fup (h 83) b 0)) 86 (fup (h 86) b 0)) 87 (fup (h 87) b 0)) 88 (fup (h 88) b 3)) from up_can ((sOf_ne _ _ (by decide)).trans ((sOf_ne _ _ (by decide)).trans ((sOf_ne _ _ (by decide)).trans ((sOf_ne _ _ (by decide)).trans ((sOf_ne _ _ (by decide)).trans (sOf_ne _ _ (by decide))))))) rfl rfl) (by omega)
  have hF_7 : FRM [80, 81, 82, 83, 84, 85, 86, 87, 88] [] h (setO (setO (setO (setO (setO (setO (setO h 80 (fup (h 80) b w)) 81 (fup (h 81) b e)) 82 (fup (h 82) b k)) 83 (fup (h 83) b 0)) 86 (fup (h 86) b 0)) 87 (fup (h 87) b 0)) 88 (fup (h 88) b 3)) := FRM_up (show up (setO (setO (setO (setO (setO (setO h 80 (fup (h 80) b w)) 81 (fup (h 81) b e)) 82 (fup (h 82) b k)) 83 (fup (h 83) b 0)) 86 (fup (h 86) b 0)) 87 (fup (h 87) b 0)) 88 b 3 = (setO (setO (setO (setO (setO (setO (setO h 80 (fup (h 80) b w)) 81 (fup (h 81) b e)) 82 (fup (h 82) b k)) 83 (fup (h 83) b 0)) 86 (fup (h 86) b 0)) 87 (fup (h 87) b 0)) 88 (fup (h 88) b 3)) from up_can ((sOf_ne _ _ (by decide)).trans ((sOf_ne _ _ (by decide)).trans ((sOf_ne _ _ (by decide)).trans ((sOf_ne _ _ (by decide)).trans ((sOf_ne _ _ (by decide)).trans (sOf_ne _ _ (by decide))))))) rfl rfl) hF_6 (by decide) (by decide)
  refine TT_bipush hK (by decide) dX12_beBand_50 ?_
  refine TT_iload_n hK rfl 1 rfl dX12_beBand_52 ?_
  refine TT_imul hK dX12_beBand_53 ?_
  refine TT_istore hK (lv' := [(5, vI (64 * b)), (0, vR 73), (1, vI b), (2, vI w), (3, vI e), (4, vI k)]) (by decide) rfl dX12_beBand_54 ?_
  have L56_8 : ∀ (k8 : Nat) (j : Int) (w56_8 : Hp_), TY w56_8 → FRM [80, 81, 82, 83, 84, 85, 86, 87, 88] [] h w56_8 → (64 * b ≤ j ∧ j ≤ 64 * b + 64) → ((w56_8 80) = fup (h 80) b w) → ((w56_8 81) = fup (h 81) b e) → ((w56_8 86) = fup (h 86) b 0) → (∀ j : Int, j < 64 * b ∨ 64 * b + 64 ≤ j → (w56_8 84) j = h 84 j ∧ (w56_8 85) j = h 85 j) → ((w56_8 82) = fup (h 82) b k) → ((w56_8 83) = fup (h 83) b 0) → (∀ q : Int, 64 * b ≤ q → q < j → (w56_8 84) q = 0) → ((w56_8 88) = fup (h 88) b 3) → (64 * b + 64 - j).toNat < k8 → TT K ly 0 0 56 [(0, vR 73), (1, vI b), (2, vI w), (3, vI e), (4, vI k), (5, vI j)] [] w56_8 := by
    intro k8
    induction k8 with
    | zero => intro j w56_8 hT56_8 hF56_8 hj h80 h81 h86 ho h82 h83 hz4 h88 hk8; exact absurd hk8 (Nat.not_lt_zero _)
    | succ k8 ih8 =>
      intro j w56_8 hT56_8 hF56_8 hj h80 h81 h86 ho h82 h83 hz4 h88 hk8
      refine TT_iload hK 5 rfl dX12_beBand_56 ?_
      refine TT_bipush hK (by decide) dX12_beBand_58 ?_
      refine TT_iload_n hK rfl 1 rfl dX12_beBand_60 ?_
      refine TT_imul hK dX12_beBand_61 ?_
      refine TT_bipush hK (by decide) dX12_beBand_62 ?_
      refine TT_iadd hK dX12_beBand_64 ?_
      refine TT_icmp_ge hK (tgt := 90) (irm (by omega) (by omega)) (irm (by omega) (by omega)) dX12_beBand_65 (by decide) (fun hb65_9 => ?_) (fun hb65_9 => ?_)
      · refine TT_vret hK hQ ?_ dX12_beBand_90
        exact ⟨⟨hT56_8, hF56_8⟩, rfl, (by exact h80), (by exact h81), (by exact h86), (by exact ho), (by exact h82), (by intro q g1 g2; exact hz4 q g1 (by omega)), (by exact h83), (by exact h88)⟩
      · refine TT_aload_n hK rfl 0 rfl dX12_beBand_68 ?_
        refine gf_X12_47 hK (by decide) rfl (q := 84) rfl rfl dX12_beBand_69 ?_
        refine TT_iload hK 5 rfl dX12_beBand_72 ?_
        refine TT_iconst hK dX12_beBand_74 ?_
        refine TT_iast hK (o := 84) (n := 1280) (by decide) rfl (by omega) (by omega) dX12_beBand_75 ?_
        refine TT_hp (h' := setO w56_8 84 (fup (w56_8 84) j 0)) (up_can rfl rfl rfl) ?_
        have hT_10 : TY (setO w56_8 84 (fup (w56_8 84) j 0)) := tu_84 hT56_8 (show up w56_8 84 j 0 = (setO w56_8 84 (fup (w56_8 84) j 0)) from up_can rfl rfl rfl) (by omega)
        have hF_10 : FRM [80, 81, 82, 83, 84, 85, 86, 87, 88] [] h (setO w56_8 84 (fup (w56_8 84) j 0)) := FRM_up (show up w56_8 84 j 0 = (setO w56_8 84 (fup (w56_8 84) j 0)) from up_can rfl rfl rfl) hF56_8 (by decide) (by decide)
        refine TT_aload_n hK rfl 0 rfl dX12_beBand_76 ?_
        refine gf_X12_50 hK (by decide) rfl (q := 85) rfl rfl dX12_beBand_77 ?_
        refine TT_iload hK 5 rfl dX12_beBand_80 ?_
        refine TT_iconst hK dX12_beBand_82 ?_
        refine TT_zast hK (o := 85) (n := 1280) (by decide) rfl (by omega) (by omega) (by first | decide | omega) dX12_beBand_83 ?_
        refine TT_hp (h' := setO (setO w56_8 84 (fup (w56_8 84) j 0)) 85 (fup (w56_8 85) j 0)) (up_can (sOf_ne _ _ (by decide)) rfl rfl) ?_
        have hT_11 : TY (setO (setO w56_8 84 (fup (w56_8 84) j 0)) 85 (fup (w56_8 85) j 0)) := tu_85 hT_10 (show up (setO w56_8 84 (fup (w56_8 84) j 0)) 85 j 0 = (setO (setO w56_8 84 (fup (w56_8 84) j 0)) 85 (fup (w56_8 85) j 0)) from up_can (sOf_ne _ _ (by decide)) rfl rfl) (by omega)
        have hF_11 : FRM [80, 81, 82, 83, 84, 85, 86, 87, 88] [] h (setO (setO w56_8 84 (fup (w56_8 84) j 0)) 85 (fup (w56_8 85) j 0)) := FRM_up (show up (setO w56_8 84 (fup (w56_8 84) j 0)) 85 j 0 = (setO (setO w56_8 84 (fup (w56_8 84) j 0)) 85 (fup (w56_8 85) j 0)) from up_can (sOf_ne _ _ (by decide)) rfl rfl) hF_10 (by decide) (by decide)
        refine TT_iinc hK (v := j + 1) (lv' := [(5, vI (j + 1)), (0, vR 73), (1, vI b), (2, vI w), (3, vI e), (4, vI k)]) 5 rfl rfl (by decide) rfl dX12_beBand_84 ?_
        refine TT_goto hK (tgt := 56) dX12_beBand_87 (by decide) ?_
        refine TT_sub [1, 2, 3, 4, 5, 0] rfl ?_
        have e12_80 : (setO (setO w56_8 84 (fup (w56_8 84) j 0)) 85 (fup (w56_8 85) j 0)) 80 = w56_8 80 := (sOf_ne _ _ (by decide)).trans (sOf_ne _ _ (by decide))
        have e13_81 : (setO (setO w56_8 84 (fup (w56_8 84) j 0)) 85 (fup (w56_8 85) j 0)) 81 = w56_8 81 := (sOf_ne _ _ (by decide)).trans (sOf_ne _ _ (by decide))
        have e14_86 : (setO (setO w56_8 84 (fup (w56_8 84) j 0)) 85 (fup (w56_8 85) j 0)) 86 = w56_8 86 := (sOf_ne _ _ (by decide)).trans (sOf_ne _ _ (by decide))
        have e15_84 : (setO (setO w56_8 84 (fup (w56_8 84) j 0)) 85 (fup (w56_8 85) j 0)) 84 = fup (w56_8 84) j 0 := (sOf_ne _ _ (by decide)).trans (sOf_eq _ _ _)
        have e16_85 : (setO (setO w56_8 84 (fup (w56_8 84) j 0)) 85 (fup (w56_8 85) j 0)) 85 = fup (w56_8 85) j 0 := sOf_eq _ _ _
        have e17_82 : (setO (setO w56_8 84 (fup (w56_8 84) j 0)) 85 (fup (w56_8 85) j 0)) 82 = w56_8 82 := (sOf_ne _ _ (by decide)).trans (sOf_ne _ _ (by decide))
        have e18_83 : (setO (setO w56_8 84 (fup (w56_8 84) j 0)) 85 (fup (w56_8 85) j 0)) 83 = w56_8 83 := (sOf_ne _ _ (by decide)).trans (sOf_ne _ _ (by decide))
        have e19_84 : (setO (setO w56_8 84 (fup (w56_8 84) j 0)) 85 (fup (w56_8 85) j 0)) 84 = fup (w56_8 84) j 0 := (sOf_ne _ _ (by decide)).trans (sOf_eq _ _ _)
        have e20_88 : (setO (setO w56_8 84 (fup (w56_8 84) j 0)) 85 (fup (w56_8 85) j 0)) 88 = w56_8 88 := (sOf_ne _ _ (by decide)).trans (sOf_ne _ _ (by decide))
        exact ih8 (j + 1) (setO (setO w56_8 84 (fup (w56_8 84) j 0)) 85 (fup (w56_8 85) j 0)) hT_11 hF_11 (by first | omega | (simp [up, setR] <;> omega)) (by rewrite [e12_80]; first | assumption | exact h80) (by rewrite [e13_81]; first | assumption | exact h81) (by rewrite [e14_86]; first | assumption | exact h86) (by rewrite [e15_84, e16_85]; intro q hq; rw [fup_ne _ _ (by omega), fup_ne _ _ (by omega)]; exact ho q hq) (by rewrite [e17_82]; first | assumption | exact h82) (by rewrite [e18_83]; first | assumption | exact h83) (by rewrite [e19_84]; intro q g1 g2; by_cases e : q = j; (rw [e, fup_eq]); (rw [fup_ne _ _ e]; exact hz4 q g1 (by omega))) (by rewrite [e20_88]; first | assumption | exact h88) (by first | omega | (simp [up, setR] <;> omega))
  refine TT_sub [1, 2, 3, 4, 5, 0] rfl ?_
  have e21_80 : (setO (setO (setO (setO (setO (setO (setO h 80 (fup (h 80) b w)) 81 (fup (h 81) b e)) 82 (fup (h 82) b k)) 83 (fup (h 83) b 0)) 86 (fup (h 86) b 0)) 87 (fup (h 87) b 0)) 88 (fup (h 88) b 3)) 80 = fup (h 80) b w := (sOf_ne _ _ (by decide)).trans ((sOf_ne _ _ (by decide)).trans ((sOf_ne _ _ (by decide)).trans ((sOf_ne _ _ (by decide)).trans ((sOf_ne _ _ (by decide)).trans ((sOf_ne _ _ (by decide)).trans (sOf_eq _ _ _))))))
  have e22_81 : (setO (setO (setO (setO (setO (setO (setO h 80 (fup (h 80) b w)) 81 (fup (h 81) b e)) 82 (fup (h 82) b k)) 83 (fup (h 83) b 0)) 86 (fup (h 86) b 0)) 87 (fup (h 87) b 0)) 88 (fup (h 88) b 3)) 81 = fup (h 81) b e := (sOf_ne _ _ (by decide)).trans ((sOf_ne _ _ (by decide)).trans ((sOf_ne _ _ (by decide)).trans ((sOf_ne _ _ (by decide)).trans ((sOf_ne _ _ (by decide)).trans (sOf_eq _ _ _)))))
  have e23_86 : (setO (setO (setO (setO (setO (setO (setO h 80 (fup (h 80) b w)) 81 (fup (h 81) b e)) 82 (fup (h 82) b k)) 83 (fup (h 83) b 0)) 86 (fup (h 86) b 0)) 87 (fup (h 87) b 0)) 88 (fup (h 88) b 3)) 86 = fup (h 86) b 0 := (sOf_ne _ _ (by decide)).trans ((sOf_ne _ _ (by decide)).trans (sOf_eq _ _ _))
  have e24_84 : (setO (setO (setO (setO (setO (setO (setO h 80 (fup (h 80) b w)) 81 (fup (h 81) b e)) 82 (fup (h 82) b k)) 83 (fup (h 83) b 0)) 86 (fup (h 86) b 0)) 87 (fup (h 87) b 0)) 88 (fup (h 88) b 3)) 84 = h 84 := (sOf_ne _ _ (by decide)).trans ((sOf_ne _ _ (by decide)).trans ((sOf_ne _ _ (by decide)).trans ((sOf_ne _ _ (by decide)).trans ((sOf_ne _ _ (by decide)).trans ((sOf_ne _ _ (by decide)).trans (sOf_ne _ _ (by decide)))))))
  have e25_85 : (setO (setO (setO (setO (setO (setO (setO h 80 (fup (h 80) b w)) 81 (fup (h 81) b e)) 82 (fup (h 82) b k)) 83 (fup (h 83) b 0)) 86 (fup (h 86) b 0)) 87 (fup (h 87) b 0)) 88 (fup (h 88) b 3)) 85 = h 85 := (sOf_ne _ _ (by decide)).trans ((sOf_ne _ _ (by decide)).trans ((sOf_ne _ _ (by decide)).trans ((sOf_ne _ _ (by decide)).trans ((sOf_ne _ _ (by decide)).trans ((sOf_ne _ _ (by decide)).trans (sOf_ne _ _ (by decide)))))))
  have e26_82 : (setO (setO (setO (setO (setO (setO (setO h 80 (fup (h 80) b w)) 81 (fup (h 81) b e)) 82 (fup (h 82) b k)) 83 (fup (h 83) b 0)) 86 (fup (h 86) b 0)) 87 (fup (h 87) b 0)) 88 (fup (h 88) b 3)) 82 = fup (h 82) b k := (sOf_ne _ _ (by decide)).trans ((sOf_ne _ _ (by decide)).trans ((sOf_ne _ _ (by decide)).trans ((sOf_ne _ _ (by decide)).trans (sOf_eq _ _ _))))
  have e27_83 : (setO (setO (setO (setO (setO (setO (setO h 80 (fup (h 80) b w)) 81 (fup (h 81) b e)) 82 (fup (h 82) b k)) 83 (fup (h 83) b 0)) 86 (fup (h 86) b 0)) 87 (fup (h 87) b 0)) 88 (fup (h 88) b 3)) 83 = fup (h 83) b 0 := (sOf_ne _ _ (by decide)).trans ((sOf_ne _ _ (by decide)).trans ((sOf_ne _ _ (by decide)).trans (sOf_eq _ _ _)))
  have e28_84 : (setO (setO (setO (setO (setO (setO (setO h 80 (fup (h 80) b w)) 81 (fup (h 81) b e)) 82 (fup (h 82) b k)) 83 (fup (h 83) b 0)) 86 (fup (h 86) b 0)) 87 (fup (h 87) b 0)) 88 (fup (h 88) b 3)) 84 = h 84 := (sOf_ne _ _ (by decide)).trans ((sOf_ne _ _ (by decide)).trans ((sOf_ne _ _ (by decide)).trans ((sOf_ne _ _ (by decide)).trans ((sOf_ne _ _ (by decide)).trans ((sOf_ne _ _ (by decide)).trans (sOf_ne _ _ (by decide)))))))
  have e29_88 : (setO (setO (setO (setO (setO (setO (setO h 80 (fup (h 80) b w)) 81 (fup (h 81) b e)) 82 (fup (h 82) b k)) 83 (fup (h 83) b 0)) 86 (fup (h 86) b 0)) 87 (fup (h 87) b 0)) 88 (fup (h 88) b 3)) 88 = fup (h 88) b 3 := sOf_eq _ _ _
  exact L56_8 (((64 * b + 64 - (64 * b)).toNat) + 1) (64 * b) (setO (setO (setO (setO (setO (setO (setO h 80 (fup (h 80) b w)) 81 (fup (h 81) b e)) 82 (fup (h 82) b k)) 83 (fup (h 83) b 0)) 86 (fup (h 86) b 0)) 87 (fup (h 87) b 0)) 88 (fup (h 88) b 3)) hT_7 hF_7 (by first | omega | (simp [up, setR] <;> omega)) (by rewrite [e21_80]; rfl) (by rewrite [e22_81]; rfl) (by rewrite [e23_86]; rfl) (by rewrite [e24_84, e25_85]; (intro j hj; exact ⟨rfl, rfl⟩)) (by rewrite [e26_82]; rfl) (by rewrite [e27_83]; rfl) (by rewrite [e28_84]; intro q g1 g2; exfalso; omega) (by rewrite [e29_88]; rfl) (Nat.lt_succ_self _)
set_option maxRecDepth 20000 in
theorem s_beBands_s (f w e l : Int) (h : Hp_) (hT : TY h) (hf : f = 0 ∨ f = 10) (hw : 0 ≤ w ∧ w ≤ 8) (he : 0 ≤ e ∧ e ≤ 8) (hl : 0 ≤ l ∧ l ≤ 3) : Ctr yX12_beBands cX12_beBands 11 none (rmd 1) ly ly 0 0 [vR 73, vI f, vI w, vI e, vI l] h (fun r h' => (TY h' ∧ FRM [80, 81, 82, 83, 84, 85, 86, 87, 88] [] h h') ∧ r = none ∧ (∀ j : Int, 0 ≤ j → j < 3 * l + 1 → (h' 80) (f + j) = BW w l j) ∧ (∀ j : Int, 0 ≤ j → j < 3 * l + 1 → (h' 81) (f + j) = BH e l j) ∧ (∀ j : Int, 0 ≤ j → j < 3 * l + 1 → (h' 86) (f + j) = 0) ∧ (f = 10 → (∀ q : Int, q < 10 → (h' 80) q = (h 80) q ∧ (h' 81) q = (h 81) q) ∧ (∀ j : Int, j < 640 → (h' 84) j = (h 84) j ∧ (h' 85) j = (h 85) j)) ∧ (∀ j : Int, 0 ≤ j → j < 3 * l + 1 → (h' 82) (f + j) = kdB j) ∧ (f = 0 → ∀ j : Int, 0 ≤ j → j < 64 * (3 * l + 1) → (h' 84) j = 0) ∧ (f = 10 → ∀ q : Int, q < 10 → (h' 83) q = (h 83) q) ∧ (∀ j : Int, 0 ≤ j → j < 3 * l + 1 → (h' 88) (f + j) = 3)) := by
  refine Ctr_of (by decide) (Nat.le_of_ble_eq_true rfl) ⟨Nat.le_refl _, Nat.le_refl _⟩ (fun K hK hQ _ => ?_)
  show TT K ly 0 0 0 [(0, vR 73), (1, vI f), (2, vI w), (3, vI e), (4, vI l)] [] h
  have hF : FRM [80, 81, 82, 83, 84, 85, 86, 87, 88] [] h h := FRM_rf _ _ _
  refine TT_aload_n hK rfl 0 rfl dX12_beBands_0 ?_
  refine TT_iload_n hK rfl 1 rfl dX12_beBands_1 ?_
  refine TT_iload_n hK rfl 2 rfl dX12_beBands_2 ?_
  refine TT_iload hK 4 rfl dX12_beBands_3 ?_
  refine iv_X12_153 hK (s_left_x w l h hT (by first | omega | (simp [up, setR] <;> omega)) (by first | omega | (simp [up, setR] <;> omega))) ⟨by decide, by decide⟩ (by decide) rfl rfl (Nat.le_of_ble_eq_true rfl) ⟨by decide, by decide⟩ dX12_beBands_5 ?_
  intro r9 g5_1 hp9
  obtain ⟨⟨hT_1, hG_1⟩, z5_1, hr9, hz_1, p1_1⟩ := hp9
  rw [hr9]
  have hF_1 : FRM [80, 81, 82, 83, 84, 85, 86, 87, 88] [] h g5_1 := FRM_tr hF hG_1 (by decide) (by decide)
  show TT K ly 0 0 8 [(0, vR 73), (1, vI f), (2, vI w), (3, vI e), (4, vI l)] [vI z5_1, vI f, vR 73] g5_1
  refine TT_iload_n hK rfl 3 rfl dX12_beBands_8 ?_
  refine TT_iload hK 4 rfl dX12_beBands_9 ?_
  refine iv_X12_153 hK (s_left_x e l g5_1 hT_1 (by first | omega | (simp [up, setR] <;> omega)) (by first | omega | (simp [up, setR] <;> omega))) ⟨by decide, by decide⟩ (by decide) rfl rfl (Nat.le_of_ble_eq_true rfl) ⟨by decide, by decide⟩ dX12_beBands_11 ?_
  intro r9 g11_2 hp9
  obtain ⟨⟨hT_2, hG_2⟩, z11_2, hr9, hz_2, p1_2⟩ := hp9
  rw [hr9]
  have hF_2 : FRM [80, 81, 82, 83, 84, 85, 86, 87, 88] [] h g11_2 := FRM_tr hF_1 hG_2 (by decide) (by decide)
  show TT K ly 0 0 14 [(0, vR 73), (1, vI f), (2, vI w), (3, vI e), (4, vI l)] [vI z11_2, vI z5_1, vI f, vR 73] g11_2
  refine TT_iconst hK dX12_beBands_14 ?_
  refine iv_X12_156 hK (s_beBand_s f z5_1 z11_2 0 g11_2 hT_2 (by first | omega | (simp [up, setR] <;> omega)) (by first | omega | (simp [up, setR] <;> omega)) (by first | omega | (simp [up, setR] <;> omega)) (by first | omega | (simp [up, setR] <;> omega))) (by decide) rfl ⟨by decide, by decide⟩ (by decide) rfl rfl (Nat.le_of_ble_eq_true rfl) ⟨by decide, by decide⟩ dX12_beBands_15 ?_
  intro r9 g15_3 hp9
  obtain ⟨⟨hT_3, hG_3⟩, hr9, q1_3, q2_3, q3_3, q5_3, q4_3, q6_3, q9_3, q11_3⟩ := hp9
  rw [hr9]
  have hF_3 : FRM [80, 81, 82, 83, 84, 85, 86, 87, 88] [] h g15_3 := FRM_tr hF_2 hG_3 (by decide) (by decide)
  rw [show g11_2 80 = h 80 from ((hG_2.1 80 (by decide))).trans (hG_1.1 80 (by decide))] at q1_3
  rw [show g11_2 81 = h 81 from ((hG_2.1 81 (by decide))).trans (hG_1.1 81 (by decide))] at q2_3
  rw [show g11_2 86 = h 86 from ((hG_2.1 86 (by decide))).trans (hG_1.1 86 (by decide))] at q3_3
  rw [show g11_2 84 = h 84 from ((hG_2.1 84 (by decide))).trans (hG_1.1 84 (by decide))] at q5_3
  rw [show g11_2 85 = h 85 from ((hG_2.1 85 (by decide))).trans (hG_1.1 85 (by decide))] at q5_3
  rw [show g11_2 82 = h 82 from ((hG_2.1 82 (by decide))).trans (hG_1.1 82 (by decide))] at q4_3
  rw [show g11_2 83 = h 83 from ((hG_2.1 83 (by decide))).trans (hG_1.1 83 (by decide))] at q9_3
  rw [show g11_2 88 = h 88 from ((hG_2.1 88 (by decide))).trans (hG_1.1 88 (by decide))] at q11_3
  have q1_at15 := q1_3
  have q2_at15 := q2_3
  have q3_at15 := q3_3
  have q5_at15 := q5_3
  have q4_at15 := q4_3
  have q6_at15 := q6_3
  have q9_at15 := q9_3
  have q11_at15 := q11_3
  show TT K ly 0 0 18 [(0, vR 73), (1, vI f), (2, vI w), (3, vI e), (4, vI l)] [] g15_3
  refine TT_iconst hK dX12_beBands_18 ?_
  refine TT_istore hK (lv' := [(5, vI 1), (0, vR 73), (1, vI f), (2, vI w), (3, vI e), (4, vI l)]) (by decide) rfl dX12_beBands_19 ?_
  have L21_4 : ∀ (k4 : Nat) (r : Int) (w21_4 : Hp_), TY w21_4 → FRM [80, 81, 82, 83, 84, 85, 86, 87, 88] [] h w21_4 → (1 ≤ r ∧ r ≤ l + 1) → (∀ j : Int, 0 ≤ j → j < 3 * (r - 1) + 1 → (w21_4 80) (f + j) = BW w l j) → (∀ j : Int, 0 ≤ j → j < 3 * (r - 1) + 1 → (w21_4 81) (f + j) = BH e l j) → (∀ j : Int, 0 ≤ j → j < 3 * (r - 1) + 1 → (w21_4 86) (f + j) = 0) → (f = 10 → (∀ q : Int, q < 10 → (w21_4 80) q = h 80 q ∧ (w21_4 81) q = h 81 q) ∧ (∀ j : Int, j < 640 → (w21_4 84) j = h 84 j ∧ (w21_4 85) j = h 85 j)) → (f = 10 → ∀ q : Int, q < 10 → (w21_4 83) q = h 83 q) → (∀ j : Int, 0 ≤ j → j < 3 * (r - 1) + 1 → (w21_4 82) (f + j) = kdB j) → (f = 0 → ∀ j : Int, 0 ≤ j → j < 64 * (3 * (r - 1) + 1) → (w21_4 84) j = 0) → (∀ j : Int, 0 ≤ j → j < 3 * (r - 1) + 1 → (w21_4 88) (f + j) = 3) → ((4 : Int) - r).toNat < k4 → TT K ly 0 0 21 [(0, vR 73), (1, vI f), (2, vI w), (3, vI e), (4, vI l), (5, vI r)] [] w21_4 := by
    intro k4
    induction k4 with
    | zero => intro r w21_4 hT21_4 hF21_4 hr hbw hbh hbt hkk hk8 hbk hbz h88 hk4; exact absurd hk4 (Nat.not_lt_zero _)
    | succ k4 ih4 =>
      intro r w21_4 hT21_4 hF21_4 hr hbw hbh hbt hkk hk8 hbk hbz h88 hk4
      refine TT_iload hK 5 rfl dX12_beBands_21 ?_
      refine TT_iload hK 4 rfl dX12_beBands_23 ?_
      refine TT_icmp_gt hK (tgt := 132) (irm (by omega) (by omega)) (irm (by omega) (by omega)) dX12_beBands_25 (by decide) (fun hb25_5 => ?_) (fun hb25_5 => ?_)
      · refine TT_vret hK hQ ?_ dX12_beBands_132
        exact ⟨⟨hT21_4, hF21_4⟩, rfl, (by intro j h1 h2; exact hbw j h1 (by omega)), (by intro j h1 h2; exact hbh j h1 (by omega)), (by intro j h1 h2; exact hbt j h1 (by omega)), (by exact hkk), (by intro j h1 h2; exact hbk j h1 (by omega)), (by intro ef j h1 h2; exact hbz ef j h1 (by omega)), (by exact hk8), (by intro j h1 h2; exact h88 j h1 (by omega))⟩
      · refine TT_iload hK 4 rfl dX12_beBands_28 ?_
        refine TT_iload hK 5 rfl dX12_beBands_30 ?_
        refine TT_isub hK dX12_beBands_32 ?_
        refine TT_istore hK (lv' := [(6, vI (l - r)), (0, vR 73), (1, vI f), (2, vI w), (3, vI e), (4, vI l), (5, vI r)]) (by decide) rfl dX12_beBands_33 ?_
        refine TT_iload_n hK rfl 3 rfl dX12_beBands_35 ?_
        refine TT_iload hK 0 rfl dX12_beBands_36 ?_
        refine TT_iconst hK dX12_beBands_38 ?_
        refine TT_iadd hK dX12_beBands_39 ?_
        refine iv_X12_153 hK (s_left_x w ((l - r) + 1) w21_4 hT21_4 (by first | omega | (simp [up, setR] <;> omega)) (by first | omega | (simp [up, setR] <;> omega))) ⟨by decide, by decide⟩ (by decide) rfl rfl (Nat.le_of_ble_eq_true rfl) ⟨by decide, by decide⟩ dX12_beBands_40 ?_
        intro r9 g40_6 hp9
        obtain ⟨⟨hT_6, hG_6⟩, z40_6, hr9, hz_6, p1_6⟩ := hp9
        rw [hr9]
        have hF_6 : FRM [80, 81, 82, 83, 84, 85, 86, 87, 88] [] h g40_6 := FRM_tr hF21_4 hG_6 (by decide) (by decide)
        show TT K ly 0 0 43 [(6, vI (l - r)), (0, vR 73), (1, vI f), (2, vI w), (3, vI e), (4, vI l), (5, vI r)] [vI z40_6] g40_6
        refine TT_istore hK (lv' := [(7, vI z40_6), (6, vI (l - r)), (0, vR 73), (1, vI f), (2, vI w), (3, vI e), (4, vI l), (5, vI r)]) (by decide) rfl dX12_beBands_43 ?_
        refine TT_iload_n hK rfl 5 rfl dX12_beBands_45 ?_
        refine TT_iload hK 1 rfl dX12_beBands_46 ?_
        refine TT_iconst hK dX12_beBands_48 ?_
        refine TT_iadd hK dX12_beBands_49 ?_
        refine iv_X12_153 hK (s_left_x e ((l - r) + 1) g40_6 hT_6 (by first | omega | (simp [up, setR] <;> omega)) (by first | omega | (simp [up, setR] <;> omega))) ⟨by decide, by decide⟩ (by decide) rfl rfl (Nat.le_of_ble_eq_true rfl) ⟨by decide, by decide⟩ dX12_beBands_50 ?_
        intro r9 g50_7 hp9
        obtain ⟨⟨hT_7, hG_7⟩, z50_7, hr9, hz_7, p1_7⟩ := hp9
        rw [hr9]
        have hF_7 : FRM [80, 81, 82, 83, 84, 85, 86, 87, 88] [] h g50_7 := FRM_tr hF_6 hG_7 (by decide) (by decide)
        show TT K ly 0 0 53 [(7, vI z40_6), (6, vI (l - r)), (0, vR 73), (1, vI f), (2, vI w), (3, vI e), (4, vI l), (5, vI r)] [vI z50_7] g50_7
        refine TT_istore hK (lv' := [(8, vI z50_7), (7, vI z40_6), (6, vI (l - r)), (0, vR 73), (1, vI f), (2, vI w), (3, vI e), (4, vI l), (5, vI r)]) (by decide) rfl dX12_beBands_53 ?_
        refine TT_iload_n hK rfl 5 rfl dX12_beBands_55 ?_
        refine TT_iload hK 2 rfl dX12_beBands_56 ?_
        refine iv_X12_153 hK (s_left_x w (l - r) g50_7 hT_7 (by first | omega | (simp [up, setR] <;> omega)) (by first | omega | (simp [up, setR] <;> omega))) ⟨by decide, by decide⟩ (by decide) rfl rfl (Nat.le_of_ble_eq_true rfl) ⟨by decide, by decide⟩ dX12_beBands_58 ?_
        intro r9 g58_8 hp9
        obtain ⟨⟨hT_8, hG_8⟩, z58_8, hr9, hz_8, p1_8⟩ := hp9
        rw [hr9]
        have hF_8 : FRM [80, 81, 82, 83, 84, 85, 86, 87, 88] [] h g58_8 := FRM_tr hF_7 hG_8 (by decide) (by decide)
        show TT K ly 0 0 61 [(8, vI z50_7), (7, vI z40_6), (6, vI (l - r)), (0, vR 73), (1, vI f), (2, vI w), (3, vI e), (4, vI l), (5, vI r)] [vI z58_8] g58_8
        refine TT_iload hK 1 rfl dX12_beBands_61 ?_
        have ow1 : z40_6 ≤ z58_8 := by have k9 := lf_le (n := w) (l := l - r) (by omega) (by omega); omega
        refine TT_isub hK dX12_beBands_63 ?_
        refine TT_istore hK (lv' := [(9, vI (z58_8 - z40_6)), (8, vI z50_7), (7, vI z40_6), (6, vI (l - r)), (0, vR 73), (1, vI f), (2, vI w), (3, vI e), (4, vI l), (5, vI r)]) (by decide) rfl dX12_beBands_64 ?_
        refine TT_iload_n hK rfl 7 rfl dX12_beBands_66 ?_
        refine TT_iload hK 3 rfl dX12_beBands_67 ?_
        refine iv_X12_153 hK (s_left_x e (l - r) g58_8 hT_8 (by first | omega | (simp [up, setR] <;> omega)) (by first | omega | (simp [up, setR] <;> omega))) ⟨by decide, by decide⟩ (by decide) rfl rfl (Nat.le_of_ble_eq_true rfl) ⟨by decide, by decide⟩ dX12_beBands_69 ?_
        intro r9 g69_9 hp9
        obtain ⟨⟨hT_9, hG_9⟩, z69_9, hr9, hz_9, p1_9⟩ := hp9
        rw [hr9]
        have hF_9 : FRM [80, 81, 82, 83, 84, 85, 86, 87, 88] [] h g69_9 := FRM_tr hF_8 hG_9 (by decide) (by decide)
        show TT K ly 0 0 72 [(9, vI (z58_8 - z40_6)), (8, vI z50_7), (7, vI z40_6), (6, vI (l - r)), (0, vR 73), (1, vI f), (2, vI w), (3, vI e), (4, vI l), (5, vI r)] [vI z69_9] g69_9
        refine TT_iload hK 1 rfl dX12_beBands_72 ?_
        have ow2 : z50_7 ≤ z69_9 := by have k9 := lf_le (n := e) (l := l - r) (by omega) (by omega); omega
        refine TT_isub hK dX12_beBands_74 ?_
        refine TT_istore hK (lv' := [(10, vI (z69_9 - z50_7)), (9, vI (z58_8 - z40_6)), (8, vI z50_7), (7, vI z40_6), (6, vI (l - r)), (0, vR 73), (1, vI f), (2, vI w), (3, vI e), (4, vI l), (5, vI r)]) (by decide) rfl dX12_beBands_75 ?_
        refine TT_aload_n hK rfl 5 rfl dX12_beBands_77 ?_
        refine TT_iload_n hK rfl 6 rfl dX12_beBands_78 ?_
        refine TT_iconst hK dX12_beBands_79 ?_
        refine TT_iload hK 10 rfl dX12_beBands_80 ?_
        refine TT_imul hK dX12_beBands_82 ?_
        refine TT_iadd hK dX12_beBands_83 ?_
        refine TT_iconst hK dX12_beBands_84 ?_
        refine TT_isub hK dX12_beBands_85 ?_
        refine TT_iload hK 1 rfl dX12_beBands_86 ?_
        refine TT_iload hK 2 rfl dX12_beBands_88 ?_
        refine TT_iconst hK dX12_beBands_90 ?_
        refine iv_X12_156 hK (s_beBand_s ((f + (3 * r)) - 2) (z58_8 - z40_6) z50_7 1 g69_9 hT_9 (by first | omega | (simp [up, setR] <;> omega)) (by first | omega | (simp [up, setR] <;> omega)) (by first | omega | (simp [up, setR] <;> omega)) (by first | omega | (simp [up, setR] <;> omega))) (by decide) rfl ⟨by decide, by decide⟩ (by decide) rfl rfl (Nat.le_of_ble_eq_true rfl) ⟨by decide, by decide⟩ dX12_beBands_91 ?_
        intro r9 g91_10 hp9
        obtain ⟨⟨hT_10, hG_10⟩, hr9, q1_10, q2_10, q3_10, q5_10, q4_10, q6_10, q9_10, q11_10⟩ := hp9
        rw [hr9]
        have hF_10 : FRM [80, 81, 82, 83, 84, 85, 86, 87, 88] [] h g91_10 := FRM_tr hF_9 hG_10 (by decide) (by decide)
        rw [show g69_9 80 = w21_4 80 from ((hG_9.1 80 (by decide))).trans (((hG_8.1 80 (by decide))).trans (((hG_7.1 80 (by decide))).trans (hG_6.1 80 (by decide))))] at q1_10
        rw [show g69_9 81 = w21_4 81 from ((hG_9.1 81 (by decide))).trans (((hG_8.1 81 (by decide))).trans (((hG_7.1 81 (by decide))).trans (hG_6.1 81 (by decide))))] at q2_10
        rw [show g69_9 86 = w21_4 86 from ((hG_9.1 86 (by decide))).trans (((hG_8.1 86 (by decide))).trans (((hG_7.1 86 (by decide))).trans (hG_6.1 86 (by decide))))] at q3_10
        rw [show g69_9 84 = w21_4 84 from ((hG_9.1 84 (by decide))).trans (((hG_8.1 84 (by decide))).trans (((hG_7.1 84 (by decide))).trans (hG_6.1 84 (by decide))))] at q5_10
        rw [show g69_9 85 = w21_4 85 from ((hG_9.1 85 (by decide))).trans (((hG_8.1 85 (by decide))).trans (((hG_7.1 85 (by decide))).trans (hG_6.1 85 (by decide))))] at q5_10
        rw [show g69_9 82 = w21_4 82 from ((hG_9.1 82 (by decide))).trans (((hG_8.1 82 (by decide))).trans (((hG_7.1 82 (by decide))).trans (hG_6.1 82 (by decide))))] at q4_10
        rw [show g69_9 83 = w21_4 83 from ((hG_9.1 83 (by decide))).trans (((hG_8.1 83 (by decide))).trans (((hG_7.1 83 (by decide))).trans (hG_6.1 83 (by decide))))] at q9_10
        rw [show g69_9 88 = w21_4 88 from ((hG_9.1 88 (by decide))).trans (((hG_8.1 88 (by decide))).trans (((hG_7.1 88 (by decide))).trans (hG_6.1 88 (by decide))))] at q11_10
        have q1_at91 := q1_10
        have q2_at91 := q2_10
        have q3_at91 := q3_10
        have q5_at91 := q5_10
        have q4_at91 := q4_10
        have q6_at91 := q6_10
        have q9_at91 := q9_10
        have q11_at91 := q11_10
        show TT K ly 0 0 94 [(10, vI (z69_9 - z50_7)), (9, vI (z58_8 - z40_6)), (8, vI z50_7), (7, vI z40_6), (6, vI (l - r)), (0, vR 73), (1, vI f), (2, vI w), (3, vI e), (4, vI l), (5, vI r)] [] g91_10
        refine TT_aload_n hK rfl 5 rfl dX12_beBands_94 ?_
        refine TT_iload_n hK rfl 6 rfl dX12_beBands_95 ?_
        refine TT_iconst hK dX12_beBands_96 ?_
        refine TT_iload hK 10 rfl dX12_beBands_97 ?_
        refine TT_imul hK dX12_beBands_99 ?_
        refine TT_iadd hK dX12_beBands_100 ?_
        refine TT_iconst hK dX12_beBands_101 ?_
        refine TT_isub hK dX12_beBands_102 ?_
        refine TT_iload hK 3 rfl dX12_beBands_103 ?_
        refine TT_iload hK 0 rfl dX12_beBands_105 ?_
        refine TT_iconst hK dX12_beBands_107 ?_
        refine iv_X12_156 hK (s_beBand_s ((f + (3 * r)) - 1) z40_6 (z69_9 - z50_7) 0 g91_10 hT_10 (by first | omega | (simp [up, setR] <;> omega)) (by first | omega | (simp [up, setR] <;> omega)) (by first | omega | (simp [up, setR] <;> omega)) (by first | omega | (simp [up, setR] <;> omega))) (by decide) rfl ⟨by decide, by decide⟩ (by decide) rfl rfl (Nat.le_of_ble_eq_true rfl) ⟨by decide, by decide⟩ dX12_beBands_108 ?_
        intro r9 g108_11 hp9
        obtain ⟨⟨hT_11, hG_11⟩, hr9, q1_11, q2_11, q3_11, q5_11, q4_11, q6_11, q9_11, q11_11⟩ := hp9
        rw [hr9]
        have hF_11 : FRM [80, 81, 82, 83, 84, 85, 86, 87, 88] [] h g108_11 := FRM_tr hF_10 hG_11 (by decide) (by decide)
        have q1_at108 := q1_11
        have q2_at108 := q2_11
        have q3_at108 := q3_11
        have q5_at108 := q5_11
        have q4_at108 := q4_11
        have q6_at108 := q6_11
        have q9_at108 := q9_11
        have q11_at108 := q11_11
        show TT K ly 0 0 111 [(10, vI (z69_9 - z50_7)), (9, vI (z58_8 - z40_6)), (8, vI z50_7), (7, vI z40_6), (6, vI (l - r)), (0, vR 73), (1, vI f), (2, vI w), (3, vI e), (4, vI l), (5, vI r)] [] g108_11
        refine TT_aload_n hK rfl 5 rfl dX12_beBands_111 ?_
        refine TT_iload_n hK rfl 6 rfl dX12_beBands_112 ?_
        refine TT_iconst hK dX12_beBands_113 ?_
        refine TT_iload hK 10 rfl dX12_beBands_114 ?_
        refine TT_imul hK dX12_beBands_116 ?_
        refine TT_iadd hK dX12_beBands_117 ?_
        refine TT_iload hK 1 rfl dX12_beBands_118 ?_
        refine TT_iload hK 0 rfl dX12_beBands_120 ?_
        refine TT_iconst hK dX12_beBands_122 ?_
        refine iv_X12_156 hK (s_beBand_s (f + (3 * r)) (z58_8 - z40_6) (z69_9 - z50_7) 2 g108_11 hT_11 (by first | omega | (simp [up, setR] <;> omega)) (by first | omega | (simp [up, setR] <;> omega)) (by first | omega | (simp [up, setR] <;> omega)) (by first | omega | (simp [up, setR] <;> omega))) (by decide) rfl ⟨by decide, by decide⟩ (by decide) rfl rfl (Nat.le_of_ble_eq_true rfl) ⟨by decide, by decide⟩ dX12_beBands_123 ?_
        intro r9 g123_12 hp9
        obtain ⟨⟨hT_12, hG_12⟩, hr9, q1_12, q2_12, q3_12, q5_12, q4_12, q6_12, q9_12, q11_12⟩ := hp9
        rw [hr9]
        have hF_12 : FRM [80, 81, 82, 83, 84, 85, 86, 87, 88] [] h g123_12 := FRM_tr hF_11 hG_12 (by decide) (by decide)
        have q1_at123 := q1_12
        have q2_at123 := q2_12
        have q3_at123 := q3_12
        have q5_at123 := q5_12
        have q4_at123 := q4_12
        have q6_at123 := q6_12
        have q9_at123 := q9_12
        have q11_at123 := q11_12
        show TT K ly 0 0 126 [(10, vI (z69_9 - z50_7)), (9, vI (z58_8 - z40_6)), (8, vI z50_7), (7, vI z40_6), (6, vI (l - r)), (0, vR 73), (1, vI f), (2, vI w), (3, vI e), (4, vI l), (5, vI r)] [] g123_12
        refine TT_iinc hK (v := r + 1) (lv' := [(5, vI (r + 1)), (10, vI (z69_9 - z50_7)), (9, vI (z58_8 - z40_6)), (8, vI z50_7), (7, vI z40_6), (6, vI (l - r)), (0, vR 73), (1, vI f), (2, vI w), (3, vI e), (4, vI l)]) 10 rfl rfl (by decide) rfl dX12_beBands_126 ?_
        refine TT_goto hK (tgt := 21) dX12_beBands_129 (by decide) ?_
        refine TT_sub [6, 7, 8, 9, 10, 0] rfl ?_
        exact ih4 (r + 1) g123_12 hT_12 hF_12 (by first | omega | (simp [up, setR] <;> omega)) (by rw [q1_at123, q1_at108, q1_at91]; exact BWs (by omega) hbw (by omega) (by omega)) (by rw [q2_at123, q2_at108, q2_at91]; exact BHs (by omega) hbh (by omega) (by omega)) (by rw [q3_at123, q3_at108, q3_at91]; exact B0s (by omega) hbt) (by intro ef; have k10 := (hkk ef).1; have kpk := (hkk ef).2; exact ⟨(by intro q hq; rw [q1_at123, q1_at108, q1_at91, q2_at123, q2_at108, q2_at91, fup_ne _ _ (by omega), fup_ne _ _ (by omega), fup_ne _ _ (by omega), fup_ne _ _ (by omega), fup_ne _ _ (by omega), fup_ne _ _ (by omega)]; exact k10 q hq), fun j hj => by have u1 := q5_at123 j (by omega); have u2 := q5_at108 j (by omega); have u3 := q5_at91 j (by omega); have u4 := kpk j hj; exact ⟨u1.1.trans (u2.1.trans (u3.1.trans u4.1)), u1.2.trans (u2.2.trans (u3.2.trans u4.2))⟩⟩) (by intro ef q hq; rw [q9_at123, q9_at108, q9_at91, fup_ne _ _ (by omega), fup_ne _ _ (by omega), fup_ne _ _ (by omega)]; exact hk8 ef q hq) (by rw [q4_at123, q4_at108, q4_at91]; exact KDs (by omega) hbk) (by intro ef j h1 h2; by_cases c3 : 64 * (f + 3 * r) ≤ j; exact q6_at123 j (by omega) (by omega); rw [(q5_at123 j (by omega)).1]; by_cases c2 : 64 * (f + 3 * r - 1) ≤ j; exact q6_at108 j (by omega) (by omega); rw [(q5_at108 j (by omega)).1]; by_cases c1 : 64 * (f + 3 * r - 2) ≤ j; exact q6_at91 j (by omega) (by omega); rw [(q5_at91 j (by omega)).1]; exact hbz ef j h1 (by omega)) (by rw [q11_at123, q11_at108, q11_at91]; exact B3s (by omega) h88) (by first | omega | (simp [up, setR] <;> omega))
  refine TT_sub [1, 2, 3, 4, 5, 0] rfl ?_
  exact L21_4 ((((4 : Int) - 1).toNat) + 1) 1 g15_3 hT_3 hF_3 (by first | omega | (simp [up, setR] <;> omega)) (by intro j h1 h2; rw [q1_at15, show j = 0 by omega, Int.add_zero, fup_eq]; unfold BW; rw [if_pos rfl]; omega) (by intro j h1 h2; rw [q2_at15, show j = 0 by omega, Int.add_zero, fup_eq]; unfold BH; rw [if_pos rfl]; omega) (by intro j h1 h2; rw [q3_at15, show j = 0 by omega, Int.add_zero, fup_eq]) (by intro ef; exact ⟨fun q hq => by rw [q1_at15, q2_at15, fup_ne _ _ (by omega), fup_ne _ _ (by omega)]; exact ⟨rfl, rfl⟩, fun j hj => q5_at15 j (by omega)⟩) (by intro ef q hq; rw [q9_at15, fup_ne _ _ (by omega)]) (by intro j h1 h2; rw [q4_at15, show j = 0 by omega, Int.add_zero, fup_eq]; rfl) (by intro ef j h1 h2; exact q6_at15 j (by omega) (by omega)) (by intro j h1 h2; rw [q11_at15, show j = 0 by omega, Int.add_zero, fup_eq]) (Nat.lt_succ_self _)
set_option maxRecDepth 20000 in
theorem s_encode_s (Mf : Int → Int → Int) (sf : Int → TS_) (l n : Int) (h : Hp_) (hT : TY h) (hl : -2147483648 ≤ l ∧ l ≤ 2147483647) (hn : -2147483648 ≤ n ∧ n ≤ 2147483647) (htb : TBL (h 74) (h 75)) (hmi : MIQ (h 90) (h 91)) (hsf : ∀ c : Int, TS0 (sf c)) (hmf : ((0 ≤ l ∧ l ≤ 3) ∧ (1 ≤ n ∧ n ≤ 3)) → ∀ c : Int, 0 ≤ c → c < 3 * l + 1 → MRN (NBE (h 73 3) (h 73 4) (fun i => (h 76) i - 128) l c) (BW (h 73 3) l c) (BH (h 73 4) l c) (Mf c)) : Ctr yX12_encode cX12_encode 6 (some .int) (rmd 10) ly ly 0 0 [vR 73, vI l, vI n] h (fun r h' => (TY h' ∧ FRM [73, 77, 78, 79, 80, 81, 82, 83, 84, 85, 86, 87, 88, 89, 90, 91, 92, 93, 94, 95, 96, 97, 98, 99, 100] [2, 18, 26, 27, 28, 29, 32, 33, 34, 36, 38, 39, 41, 42, 43] h h') ∧ ∃ z : Int, r = some (vI z) ∧ (0 ≤ z ∧ z ≤ 4400) ∧ (MIQ (h' 90) (h' 91)) ∧ ((0 ≤ l ∧ l ≤ 3) ∧ (1 ≤ n ∧ n ≤ 3) → (h' 73 18) = 3 * l + 1 ∧ (∀ j : Int, 0 ≤ j → j < 3 * l + 1 → (h' 80) j = BW (h 73 3) l j ∧ (h' 81) j = BH (h 73 4) l j) ∧ (∀ b2 x2 y2 : Int, 0 ≤ b2 → b2 < 3 * l + 1 → 0 ≤ x2 → x2 < BW (h 73 3) l b2 → 0 ≤ y2 → y2 < BH (h 73 4) l b2 → sgn ((h' 85) (64 * b2 + 8 * y2 + x2)) ((h' 84) (64 * b2 + 8 * y2 + x2)) = LE (h 73 3) (h 73 4) (fun i => (h 76) i - 128) l (8 * CY (h 73 4) l b2 + CX (h 73 3) l b2 + 8 * y2 + x2))) ∧ (¬((0 ≤ l ∧ l ≤ 3) ∧ (1 ≤ n ∧ n ≤ 3)) → (h' 73 18) = (h 73 18) ∧ (h' 80) = (h 80) ∧ (h' 81) = (h 81) ∧ (h' 84) = (h 84) ∧ (h' 85) = (h 85)) ∧ (((0 ≤ l ∧ l ≤ 3) ∧ (1 ≤ n ∧ n ≤ 3)) → CWQ Mf sf (h 73 3) (h 73 4) (fun i => (h 76) i - 128) l (3 * l + 1) (h' 83) (h' 89) (h' 90) (h' 91)) ∧ (¬((0 ≤ l ∧ l ≤ 3) ∧ (1 ≤ n ∧ n ≤ 3)) → (h' 83) = (h 83) ∧ (h' 89) = (h 89) ∧ (h' 90) = (h 90) ∧ (h' 91) = (h 91)) ∧ (((0 ≤ l ∧ l ≤ 3) ∧ (1 ≤ n ∧ n ≤ 3)) → LXQ Mf sf (h 73 3) (h 73 4) l (3 * l + 1) (h' 83) (h' 89) (h' 90) (h' 92)) ∧ (¬((0 ≤ l ∧ l ≤ 3) ∧ (1 ≤ n ∧ n ≤ 3)) → (h' 92) = (h 92)) ∧ (((0 ≤ l ∧ l ≤ 3) ∧ (1 ≤ n ∧ n ≤ 3)) → (RBR (h' 73 41) 0 (h' 100) (stS ((h' 83), (h' 92), (h' 80), (h' 81), fun c i => (h' 89) ((h' 90) c + i)) n l n.toNat (y0S (h 73 3) (h 73 4) l n)).1 ∧ (0 ≤ (stS ((h' 83), (h' 92), (h' 80), (h' 81), fun c i => (h' 89) ((h' 90) c + i)) n l n.toNat (y0S (h 73 3) (h 73 4) l n)).1.1 ∧ (stS ((h' 83), (h' 92), (h' 80), (h' 81), fun c i => (h' 89) ((h' 90) c + i)) n l n.toNat (y0S (h 73 3) (h 73 4) l n)).1.2.1 = 0))) ∧ (((0 ≤ l ∧ l ≤ 3) ∧ (1 ≤ n ∧ n ≤ 3)) → LQ (h' 83) (h' 91) (h' 92) (3 * l + 1) ∧ ∀ j : Int, 0 ≤ j → j < 3 * l + 1 → (h' 91) j ≤ 1000) ∧ (((0 ≤ l ∧ l ≤ 3) ∧ (1 ≤ n ∧ n ≤ 3)) → z = (h' 73 41)) ∧ (¬((0 ≤ l ∧ l ≤ 3) ∧ (1 ≤ n ∧ n ≤ 3)) → (h' 73 41) = (h 73 41) ∧ (h' 100) = (h 100)) ∧ (((h' 73 2) = 0 ∧ ((0 ≤ l ∧ l ≤ 3) ∧ (1 ≤ n ∧ n ≤ 3))) ∨ ((h' 73 2) = 1 ∧ ¬((0 ≤ l ∧ l ≤ 3) ∧ (1 ≤ n ∧ n ≤ 3))))) := by
  refine Ctr_of (by decide) (Nat.le_of_ble_eq_true rfl) ⟨Nat.le_refl _, Nat.le_refl _⟩ (fun K hK hQ _ => ?_)
  show TT K ly 0 0 0 [(0, vR 73), (1, vI l), (2, vI n)] [] h
  have hF : FRM [73, 77, 78, 79, 80, 81, 82, 83, 84, 85, 86, 87, 88, 89, 90, 91, 92, 93, 94, 95, 96, 97, 98, 99, 100] [2, 18, 26, 27, 28, 29, 32, 33, 34, 36, 38, 39, 41, 42, 43] h h := FRM_rf _ _ _
  have rW := ty_73_3 (v := h 73 3) hT rfl
  have rH := ty_73_4 (v := h 73 4) hT rfl
  refine TT_aload_n hK rfl 0 rfl dX12_encode_0 ?_
  refine TT_iload_n hK rfl 1 rfl dX12_encode_1 ?_
  refine TT_iconst hK dX12_encode_2 ?_
  refine TT_iconst hK dX12_encode_3 ?_
  refine iv_X12_120 hK (s_X12_within l 0 3 h hT (by first | omega | (simp [up, setR] <;> omega)) (by first | omega | (simp [up, setR] <;> omega)) (by first | omega | (simp [up, setR] <;> omega))) ⟨by decide, by decide⟩ (by decide) rfl rfl (Nat.le_of_ble_eq_true rfl) ⟨by decide, by decide⟩ dX12_encode_4 ?_
  intro r9 g4_1 hp9
  obtain ⟨⟨hT_1, hG_1⟩, z4_1, hr9, hz_1, p1_1, p2_1⟩ := hp9
  rw [hr9]
  have hF_1 : FRM [73, 77, 78, 79, 80, 81, 82, 83, 84, 85, 86, 87, 88, 89, 90, 91, 92, 93, 94, 95, 96, 97, 98, 99, 100] [2, 18, 26, 27, 28, 29, 32, 33, 34, 36, 38, 39, 41, 42, 43] h g4_1 := FRM_tr hF hG_1 (by decide) (by decide)
  show TT K ly 0 0 7 [(0, vR 73), (1, vI l), (2, vI n)] [vI z4_1, vR 73] g4_1
  refine TT_if_eq hK (tgt := 23) (irm (by omega) (by omega)) dX12_encode_7 (by decide) (fun hb7_2 => ?_) (fun hb7_2 => ?_)
  · refine TT_iconst hK dX12_encode_23 ?_
    refine pf_X12_117 hK (by decide) rfl dX12_encode_24 ?_
    refine TT_hp (h' := setO g4_1 73 (fup (h 73) 2 1)) (up_can (hG_1.1 73 (by decide)) rfl rfl) ?_
    have hT_3 : TY (setO g4_1 73 (fup (h 73) 2 1)) := tu_73_2 hT_1 (show up g4_1 73 2 1 = (setO g4_1 73 (fup (h 73) 2 1)) from up_can (hG_1.1 73 (by decide)) rfl rfl) (by omega)
    have hF_3 : FRM [73, 77, 78, 79, 80, 81, 82, 83, 84, 85, 86, 87, 88, 89, 90, 91, 92, 93, 94, 95, 96, 97, 98, 99, 100] [2, 18, 26, 27, 28, 29, 32, 33, 34, 36, 38, 39, 41, 42, 43] h (setO g4_1 73 (fup (h 73) 2 1)) := FRM_f (show up g4_1 73 2 1 = (setO g4_1 73 (fup (h 73) 2 1)) from up_can (hG_1.1 73 (by decide)) rfl rfl) hF_1 (by decide) (by decide)
    refine TT_aload_n hK rfl 0 rfl dX12_encode_27 ?_
    refine gf_X12_117 hK (by decide) rfl (v := 1) (rd_ (sOf_eq _ _ _) (fup_eq _ _ _)) dX12_encode_28 ?_
    refine TT_if_le hK (tgt := 36) (by decide) dX12_encode_31 (by decide) (fun hb31_4 => ?_) (fun hb31_4 => ?_)
    · exact absurd hb31_4 (by decide)
    · refine TT_iconst hK dX12_encode_34 ?_
      refine TT_iret hK hQ ?_ dX12_encode_35
      have e5_90 : (setO g4_1 73 (fup (h 73) 2 1)) 90 = h 90 := (sOf_ne _ _ (by decide)).trans (hG_1.1 90 (by decide))
      have e6_91 : (setO g4_1 73 (fup (h 73) 2 1)) 91 = h 91 := (sOf_ne _ _ (by decide)).trans (hG_1.1 91 (by decide))
      have e7_73_18 : (setO g4_1 73 (fup (h 73) 2 1)) 73 18 = (h 73) 18 := rd_ (sOf_eq _ _ _) (fup_ne _ _ (by decide))
      have e8_80 : (setO g4_1 73 (fup (h 73) 2 1)) 80 = h 80 := (sOf_ne _ _ (by decide)).trans (hG_1.1 80 (by decide))
      have e9_81 : (setO g4_1 73 (fup (h 73) 2 1)) 81 = h 81 := (sOf_ne _ _ (by decide)).trans (hG_1.1 81 (by decide))
      have e10_84 : (setO g4_1 73 (fup (h 73) 2 1)) 84 = h 84 := (sOf_ne _ _ (by decide)).trans (hG_1.1 84 (by decide))
      have e11_85 : (setO g4_1 73 (fup (h 73) 2 1)) 85 = h 85 := (sOf_ne _ _ (by decide)).trans (hG_1.1 85 (by decide))
      have e12_73_18 : (setO g4_1 73 (fup (h 73) 2 1)) 73 18 = (h 73) 18 := rd_ (sOf_eq _ _ _) (fup_ne _ _ (by decide))
      have e13_80 : (setO g4_1 73 (fup (h 73) 2 1)) 80 = h 80 := (sOf_ne _ _ (by decide)).trans (hG_1.1 80 (by decide))
      have e14_81 : (setO g4_1 73 (fup (h 73) 2 1)) 81 = h 81 := (sOf_ne _ _ (by decide)).trans (hG_1.1 81 (by decide))
      have e15_84 : (setO g4_1 73 (fup (h 73) 2 1)) 84 = h 84 := (sOf_ne _ _ (by decide)).trans (hG_1.1 84 (by decide))
      have e16_85 : (setO g4_1 73 (fup (h 73) 2 1)) 85 = h 85 := (sOf_ne _ _ (by decide)).trans (hG_1.1 85 (by decide))
      have e17_83 : (setO g4_1 73 (fup (h 73) 2 1)) 83 = h 83 := (sOf_ne _ _ (by decide)).trans (hG_1.1 83 (by decide))
      have e18_89 : (setO g4_1 73 (fup (h 73) 2 1)) 89 = h 89 := (sOf_ne _ _ (by decide)).trans (hG_1.1 89 (by decide))
      have e19_90 : (setO g4_1 73 (fup (h 73) 2 1)) 90 = h 90 := (sOf_ne _ _ (by decide)).trans (hG_1.1 90 (by decide))
      have e20_91 : (setO g4_1 73 (fup (h 73) 2 1)) 91 = h 91 := (sOf_ne _ _ (by decide)).trans (hG_1.1 91 (by decide))
      have e21_83 : (setO g4_1 73 (fup (h 73) 2 1)) 83 = h 83 := (sOf_ne _ _ (by decide)).trans (hG_1.1 83 (by decide))
      have e22_89 : (setO g4_1 73 (fup (h 73) 2 1)) 89 = h 89 := (sOf_ne _ _ (by decide)).trans (hG_1.1 89 (by decide))
      have e23_90 : (setO g4_1 73 (fup (h 73) 2 1)) 90 = h 90 := (sOf_ne _ _ (by decide)).trans (hG_1.1 90 (by decide))
      have e24_91 : (setO g4_1 73 (fup (h 73) 2 1)) 91 = h 91 := (sOf_ne _ _ (by decide)).trans (hG_1.1 91 (by decide))
      have e25_83 : (setO g4_1 73 (fup (h 73) 2 1)) 83 = h 83 := (sOf_ne _ _ (by decide)).trans (hG_1.1 83 (by decide))
      have e26_89 : (setO g4_1 73 (fup (h 73) 2 1)) 89 = h 89 := (sOf_ne _ _ (by decide)).trans (hG_1.1 89 (by decide))
      have e27_90 : (setO g4_1 73 (fup (h 73) 2 1)) 90 = h 90 := (sOf_ne _ _ (by decide)).trans (hG_1.1 90 (by decide))
      have e28_92 : (setO g4_1 73 (fup (h 73) 2 1)) 92 = h 92 := (sOf_ne _ _ (by decide)).trans (hG_1.1 92 (by decide))
      have e29_92 : (setO g4_1 73 (fup (h 73) 2 1)) 92 = h 92 := (sOf_ne _ _ (by decide)).trans (hG_1.1 92 (by decide))
      have e30_100 : (setO g4_1 73 (fup (h 73) 2 1)) 100 = h 100 := (sOf_ne _ _ (by decide)).trans (hG_1.1 100 (by decide))
      have e31_73_41 : (setO g4_1 73 (fup (h 73) 2 1)) 73 41 = (h 73) 41 := rd_ (sOf_eq _ _ _) (fup_ne _ _ (by decide))
      have e32_80 : (setO g4_1 73 (fup (h 73) 2 1)) 80 = h 80 := (sOf_ne _ _ (by decide)).trans (hG_1.1 80 (by decide))
      have e33_81 : (setO g4_1 73 (fup (h 73) 2 1)) 81 = h 81 := (sOf_ne _ _ (by decide)).trans (hG_1.1 81 (by decide))
      have e34_83 : (setO g4_1 73 (fup (h 73) 2 1)) 83 = h 83 := (sOf_ne _ _ (by decide)).trans (hG_1.1 83 (by decide))
      have e35_89 : (setO g4_1 73 (fup (h 73) 2 1)) 89 = h 89 := (sOf_ne _ _ (by decide)).trans (hG_1.1 89 (by decide))
      have e36_90 : (setO g4_1 73 (fup (h 73) 2 1)) 90 = h 90 := (sOf_ne _ _ (by decide)).trans (hG_1.1 90 (by decide))
      have e37_92 : (setO g4_1 73 (fup (h 73) 2 1)) 92 = h 92 := (sOf_ne _ _ (by decide)).trans (hG_1.1 92 (by decide))
      have e38_83 : (setO g4_1 73 (fup (h 73) 2 1)) 83 = h 83 := (sOf_ne _ _ (by decide)).trans (hG_1.1 83 (by decide))
      have e39_91 : (setO g4_1 73 (fup (h 73) 2 1)) 91 = h 91 := (sOf_ne _ _ (by decide)).trans (hG_1.1 91 (by decide))
      have e40_92 : (setO g4_1 73 (fup (h 73) 2 1)) 92 = h 92 := (sOf_ne _ _ (by decide)).trans (hG_1.1 92 (by decide))
      have e41_73_41 : (setO g4_1 73 (fup (h 73) 2 1)) 73 41 = (h 73) 41 := rd_ (sOf_eq _ _ _) (fup_ne _ _ (by decide))
      have e42_100 : (setO g4_1 73 (fup (h 73) 2 1)) 100 = h 100 := (sOf_ne _ _ (by decide)).trans (hG_1.1 100 (by decide))
      have e43_73_41 : (setO g4_1 73 (fup (h 73) 2 1)) 73 41 = (h 73) 41 := rd_ (sOf_eq _ _ _) (fup_ne _ _ (by decide))
      have e44_73_2 : (setO g4_1 73 (fup (h 73) 2 1)) 73 2 = 1 := rd_ (sOf_eq _ _ _) (fup_eq _ _ _)
      exact ⟨⟨hT_3, hF_3⟩, 0, rfl, (by omega), (by rewrite [e5_90, e6_91]; exact hmi), (by rewrite [e7_73_18, e8_80, e9_81, e10_84, e11_85]; first | (intro q; exfalso; omega)), (by rewrite [e12_73_18, e13_80, e14_81, e15_84, e16_85]; first | exact (fun _ => ⟨rfl, rfl, rfl, rfl, rfl⟩) | (intro q; exfalso; omega)), (by rewrite [e17_83, e18_89, e19_90, e20_91]; first | (intro q; exfalso; omega)), (by rewrite [e21_83, e22_89, e23_90, e24_91]; first | exact (fun _ => ⟨rfl, rfl, rfl, rfl⟩) | (intro q; exfalso; omega)), (by rewrite [e25_83, e26_89, e27_90, e28_92]; first | (intro q; exfalso; omega)), (by rewrite [e29_92]; first | exact (fun _ => rfl) | (intro q; exfalso; omega)), (by rewrite [e30_100, e31_73_41, e32_80, e33_81, e34_83, e35_89, e36_90, e37_92]; first | (intro q; exfalso; omega)), (by rewrite [e38_83, e39_91, e40_92]; first | (intro q; exfalso; omega)), (by rewrite [e41_73_41]; first | (intro q; exfalso; omega) | (intro _; rfl)), (by rewrite [e42_100, e43_73_41]; first | exact (fun _ => ⟨rfl, rfl⟩) | (intro q; exfalso; omega)), (by rewrite [e44_73_2]; first | exact Or.inl ⟨by omega, by omega⟩ | exact Or.inr ⟨by omega, by omega⟩)⟩
  · refine TT_iload_n hK rfl 2 rfl dX12_encode_10 ?_
    refine TT_iconst hK dX12_encode_11 ?_
    refine TT_iconst hK dX12_encode_12 ?_
    refine iv_X12_120 hK (s_X12_within n 1 3 g4_1 hT_1 (by first | omega | (simp [up, setR] <;> omega)) (by first | omega | (simp [up, setR] <;> omega)) (by first | omega | (simp [up, setR] <;> omega))) ⟨by decide, by decide⟩ (by decide) rfl rfl (Nat.le_of_ble_eq_true rfl) ⟨by decide, by decide⟩ dX12_encode_13 ?_
    intro r9 g13_45 hp9
    obtain ⟨⟨hT_45, hG_45⟩, z13_45, hr9, hz_45, p1_45, p2_45⟩ := hp9
    rw [hr9]
    have hF_45 : FRM [73, 77, 78, 79, 80, 81, 82, 83, 84, 85, 86, 87, 88, 89, 90, 91, 92, 93, 94, 95, 96, 97, 98, 99, 100] [2, 18, 26, 27, 28, 29, 32, 33, 34, 36, 38, 39, 41, 42, 43] h g13_45 := FRM_tr hF_1 hG_45 (by decide) (by decide)
    show TT K ly 0 0 16 [(0, vR 73), (1, vI l), (2, vI n)] [vI z13_45, vR 73] g13_45
    refine TT_if_eq hK (tgt := 23) (irm (by omega) (by omega)) dX12_encode_16 (by decide) (fun hb16_46 => ?_) (fun hb16_46 => ?_)
    · refine TT_iconst hK dX12_encode_23 ?_
      refine pf_X12_117 hK (by decide) rfl dX12_encode_24 ?_
      refine TT_hp (h' := setO g13_45 73 (fup (h 73) 2 1)) (up_can (((hG_45.1 73 (by decide))).trans (hG_1.1 73 (by decide))) rfl rfl) ?_
      have hT_47 : TY (setO g13_45 73 (fup (h 73) 2 1)) := tu_73_2 hT_45 (show up g13_45 73 2 1 = (setO g13_45 73 (fup (h 73) 2 1)) from up_can (((hG_45.1 73 (by decide))).trans (hG_1.1 73 (by decide))) rfl rfl) (by omega)
      have hF_47 : FRM [73, 77, 78, 79, 80, 81, 82, 83, 84, 85, 86, 87, 88, 89, 90, 91, 92, 93, 94, 95, 96, 97, 98, 99, 100] [2, 18, 26, 27, 28, 29, 32, 33, 34, 36, 38, 39, 41, 42, 43] h (setO g13_45 73 (fup (h 73) 2 1)) := FRM_f (show up g13_45 73 2 1 = (setO g13_45 73 (fup (h 73) 2 1)) from up_can (((hG_45.1 73 (by decide))).trans (hG_1.1 73 (by decide))) rfl rfl) hF_45 (by decide) (by decide)
      refine TT_aload_n hK rfl 0 rfl dX12_encode_27 ?_
      refine gf_X12_117 hK (by decide) rfl (v := 1) (rd_ (sOf_eq _ _ _) (fup_eq _ _ _)) dX12_encode_28 ?_
      refine TT_if_le hK (tgt := 36) (by decide) dX12_encode_31 (by decide) (fun hb31_48 => ?_) (fun hb31_48 => ?_)
      · exact absurd hb31_48 (by decide)
      · refine TT_iconst hK dX12_encode_34 ?_
        refine TT_iret hK hQ ?_ dX12_encode_35
        have e49_90 : (setO g13_45 73 (fup (h 73) 2 1)) 90 = h 90 := (sOf_ne _ _ (by decide)).trans (((hG_45.1 90 (by decide))).trans (hG_1.1 90 (by decide)))
        have e50_91 : (setO g13_45 73 (fup (h 73) 2 1)) 91 = h 91 := (sOf_ne _ _ (by decide)).trans (((hG_45.1 91 (by decide))).trans (hG_1.1 91 (by decide)))
        have e51_73_18 : (setO g13_45 73 (fup (h 73) 2 1)) 73 18 = (h 73) 18 := rd_ (sOf_eq _ _ _) (fup_ne _ _ (by decide))
        have e52_80 : (setO g13_45 73 (fup (h 73) 2 1)) 80 = h 80 := (sOf_ne _ _ (by decide)).trans (((hG_45.1 80 (by decide))).trans (hG_1.1 80 (by decide)))
        have e53_81 : (setO g13_45 73 (fup (h 73) 2 1)) 81 = h 81 := (sOf_ne _ _ (by decide)).trans (((hG_45.1 81 (by decide))).trans (hG_1.1 81 (by decide)))
        have e54_84 : (setO g13_45 73 (fup (h 73) 2 1)) 84 = h 84 := (sOf_ne _ _ (by decide)).trans (((hG_45.1 84 (by decide))).trans (hG_1.1 84 (by decide)))
        have e55_85 : (setO g13_45 73 (fup (h 73) 2 1)) 85 = h 85 := (sOf_ne _ _ (by decide)).trans (((hG_45.1 85 (by decide))).trans (hG_1.1 85 (by decide)))
        have e56_73_18 : (setO g13_45 73 (fup (h 73) 2 1)) 73 18 = (h 73) 18 := rd_ (sOf_eq _ _ _) (fup_ne _ _ (by decide))
        have e57_80 : (setO g13_45 73 (fup (h 73) 2 1)) 80 = h 80 := (sOf_ne _ _ (by decide)).trans (((hG_45.1 80 (by decide))).trans (hG_1.1 80 (by decide)))
        have e58_81 : (setO g13_45 73 (fup (h 73) 2 1)) 81 = h 81 := (sOf_ne _ _ (by decide)).trans (((hG_45.1 81 (by decide))).trans (hG_1.1 81 (by decide)))
        have e59_84 : (setO g13_45 73 (fup (h 73) 2 1)) 84 = h 84 := (sOf_ne _ _ (by decide)).trans (((hG_45.1 84 (by decide))).trans (hG_1.1 84 (by decide)))
        have e60_85 : (setO g13_45 73 (fup (h 73) 2 1)) 85 = h 85 := (sOf_ne _ _ (by decide)).trans (((hG_45.1 85 (by decide))).trans (hG_1.1 85 (by decide)))
        have e61_83 : (setO g13_45 73 (fup (h 73) 2 1)) 83 = h 83 := (sOf_ne _ _ (by decide)).trans (((hG_45.1 83 (by decide))).trans (hG_1.1 83 (by decide)))
        have e62_89 : (setO g13_45 73 (fup (h 73) 2 1)) 89 = h 89 := (sOf_ne _ _ (by decide)).trans (((hG_45.1 89 (by decide))).trans (hG_1.1 89 (by decide)))
        have e63_90 : (setO g13_45 73 (fup (h 73) 2 1)) 90 = h 90 := (sOf_ne _ _ (by decide)).trans (((hG_45.1 90 (by decide))).trans (hG_1.1 90 (by decide)))
        have e64_91 : (setO g13_45 73 (fup (h 73) 2 1)) 91 = h 91 := (sOf_ne _ _ (by decide)).trans (((hG_45.1 91 (by decide))).trans (hG_1.1 91 (by decide)))
        have e65_83 : (setO g13_45 73 (fup (h 73) 2 1)) 83 = h 83 := (sOf_ne _ _ (by decide)).trans (((hG_45.1 83 (by decide))).trans (hG_1.1 83 (by decide)))
        have e66_89 : (setO g13_45 73 (fup (h 73) 2 1)) 89 = h 89 := (sOf_ne _ _ (by decide)).trans (((hG_45.1 89 (by decide))).trans (hG_1.1 89 (by decide)))
        have e67_90 : (setO g13_45 73 (fup (h 73) 2 1)) 90 = h 90 := (sOf_ne _ _ (by decide)).trans (((hG_45.1 90 (by decide))).trans (hG_1.1 90 (by decide)))
        have e68_91 : (setO g13_45 73 (fup (h 73) 2 1)) 91 = h 91 := (sOf_ne _ _ (by decide)).trans (((hG_45.1 91 (by decide))).trans (hG_1.1 91 (by decide)))
        have e69_83 : (setO g13_45 73 (fup (h 73) 2 1)) 83 = h 83 := (sOf_ne _ _ (by decide)).trans (((hG_45.1 83 (by decide))).trans (hG_1.1 83 (by decide)))
        have e70_89 : (setO g13_45 73 (fup (h 73) 2 1)) 89 = h 89 := (sOf_ne _ _ (by decide)).trans (((hG_45.1 89 (by decide))).trans (hG_1.1 89 (by decide)))
        have e71_90 : (setO g13_45 73 (fup (h 73) 2 1)) 90 = h 90 := (sOf_ne _ _ (by decide)).trans (((hG_45.1 90 (by decide))).trans (hG_1.1 90 (by decide)))
        have e72_92 : (setO g13_45 73 (fup (h 73) 2 1)) 92 = h 92 := (sOf_ne _ _ (by decide)).trans (((hG_45.1 92 (by decide))).trans (hG_1.1 92 (by decide)))
        have e73_92 : (setO g13_45 73 (fup (h 73) 2 1)) 92 = h 92 := (sOf_ne _ _ (by decide)).trans (((hG_45.1 92 (by decide))).trans (hG_1.1 92 (by decide)))
        have e74_100 : (setO g13_45 73 (fup (h 73) 2 1)) 100 = h 100 := (sOf_ne _ _ (by decide)).trans (((hG_45.1 100 (by decide))).trans (hG_1.1 100 (by decide)))
        have e75_73_41 : (setO g13_45 73 (fup (h 73) 2 1)) 73 41 = (h 73) 41 := rd_ (sOf_eq _ _ _) (fup_ne _ _ (by decide))
        have e76_80 : (setO g13_45 73 (fup (h 73) 2 1)) 80 = h 80 := (sOf_ne _ _ (by decide)).trans (((hG_45.1 80 (by decide))).trans (hG_1.1 80 (by decide)))
        have e77_81 : (setO g13_45 73 (fup (h 73) 2 1)) 81 = h 81 := (sOf_ne _ _ (by decide)).trans (((hG_45.1 81 (by decide))).trans (hG_1.1 81 (by decide)))
        have e78_83 : (setO g13_45 73 (fup (h 73) 2 1)) 83 = h 83 := (sOf_ne _ _ (by decide)).trans (((hG_45.1 83 (by decide))).trans (hG_1.1 83 (by decide)))
        have e79_89 : (setO g13_45 73 (fup (h 73) 2 1)) 89 = h 89 := (sOf_ne _ _ (by decide)).trans (((hG_45.1 89 (by decide))).trans (hG_1.1 89 (by decide)))
        have e80_90 : (setO g13_45 73 (fup (h 73) 2 1)) 90 = h 90 := (sOf_ne _ _ (by decide)).trans (((hG_45.1 90 (by decide))).trans (hG_1.1 90 (by decide)))
        have e81_92 : (setO g13_45 73 (fup (h 73) 2 1)) 92 = h 92 := (sOf_ne _ _ (by decide)).trans (((hG_45.1 92 (by decide))).trans (hG_1.1 92 (by decide)))
        have e82_83 : (setO g13_45 73 (fup (h 73) 2 1)) 83 = h 83 := (sOf_ne _ _ (by decide)).trans (((hG_45.1 83 (by decide))).trans (hG_1.1 83 (by decide)))
        have e83_91 : (setO g13_45 73 (fup (h 73) 2 1)) 91 = h 91 := (sOf_ne _ _ (by decide)).trans (((hG_45.1 91 (by decide))).trans (hG_1.1 91 (by decide)))
        have e84_92 : (setO g13_45 73 (fup (h 73) 2 1)) 92 = h 92 := (sOf_ne _ _ (by decide)).trans (((hG_45.1 92 (by decide))).trans (hG_1.1 92 (by decide)))
        have e85_73_41 : (setO g13_45 73 (fup (h 73) 2 1)) 73 41 = (h 73) 41 := rd_ (sOf_eq _ _ _) (fup_ne _ _ (by decide))
        have e86_100 : (setO g13_45 73 (fup (h 73) 2 1)) 100 = h 100 := (sOf_ne _ _ (by decide)).trans (((hG_45.1 100 (by decide))).trans (hG_1.1 100 (by decide)))
        have e87_73_41 : (setO g13_45 73 (fup (h 73) 2 1)) 73 41 = (h 73) 41 := rd_ (sOf_eq _ _ _) (fup_ne _ _ (by decide))
        have e88_73_2 : (setO g13_45 73 (fup (h 73) 2 1)) 73 2 = 1 := rd_ (sOf_eq _ _ _) (fup_eq _ _ _)
        exact ⟨⟨hT_47, hF_47⟩, 0, rfl, (by omega), (by rewrite [e49_90, e50_91]; exact hmi), (by rewrite [e51_73_18, e52_80, e53_81, e54_84, e55_85]; first | (intro q; exfalso; omega)), (by rewrite [e56_73_18, e57_80, e58_81, e59_84, e60_85]; first | exact (fun _ => ⟨rfl, rfl, rfl, rfl, rfl⟩) | (intro q; exfalso; omega)), (by rewrite [e61_83, e62_89, e63_90, e64_91]; first | (intro q; exfalso; omega)), (by rewrite [e65_83, e66_89, e67_90, e68_91]; first | exact (fun _ => ⟨rfl, rfl, rfl, rfl⟩) | (intro q; exfalso; omega)), (by rewrite [e69_83, e70_89, e71_90, e72_92]; first | (intro q; exfalso; omega)), (by rewrite [e73_92]; first | exact (fun _ => rfl) | (intro q; exfalso; omega)), (by rewrite [e74_100, e75_73_41, e76_80, e77_81, e78_83, e79_89, e80_90, e81_92]; first | (intro q; exfalso; omega)), (by rewrite [e82_83, e83_91, e84_92]; first | (intro q; exfalso; omega)), (by rewrite [e85_73_41]; first | (intro q; exfalso; omega) | (intro _; rfl)), (by rewrite [e86_100, e87_73_41]; first | exact (fun _ => ⟨rfl, rfl⟩) | (intro q; exfalso; omega)), (by rewrite [e88_73_2]; first | exact Or.inl ⟨by omega, by omega⟩ | exact Or.inr ⟨by omega, by omega⟩)⟩
    · refine TT_iconst hK dX12_encode_19 ?_
      refine TT_goto hK (tgt := 24) dX12_encode_20 (by decide) ?_
      refine pf_X12_117 hK (by decide) rfl dX12_encode_24 ?_
      refine TT_hp (h' := setO g13_45 73 (fup (h 73) 2 0)) (up_can (((hG_45.1 73 (by decide))).trans (hG_1.1 73 (by decide))) rfl rfl) ?_
      have hT_89 : TY (setO g13_45 73 (fup (h 73) 2 0)) := tu_73_2 hT_45 (show up g13_45 73 2 0 = (setO g13_45 73 (fup (h 73) 2 0)) from up_can (((hG_45.1 73 (by decide))).trans (hG_1.1 73 (by decide))) rfl rfl) (by omega)
      have hF_89 : FRM [73, 77, 78, 79, 80, 81, 82, 83, 84, 85, 86, 87, 88, 89, 90, 91, 92, 93, 94, 95, 96, 97, 98, 99, 100] [2, 18, 26, 27, 28, 29, 32, 33, 34, 36, 38, 39, 41, 42, 43] h (setO g13_45 73 (fup (h 73) 2 0)) := FRM_f (show up g13_45 73 2 0 = (setO g13_45 73 (fup (h 73) 2 0)) from up_can (((hG_45.1 73 (by decide))).trans (hG_1.1 73 (by decide))) rfl rfl) hF_45 (by decide) (by decide)
      refine TT_aload_n hK rfl 0 rfl dX12_encode_27 ?_
      refine gf_X12_117 hK (by decide) rfl (v := 0) (rd_ (sOf_eq _ _ _) (fup_eq _ _ _)) dX12_encode_28 ?_
      refine TT_if_le hK (tgt := 36) (by decide) dX12_encode_31 (by decide) (fun hb31_90 => ?_) (fun hb31_90 => ?_)
      · refine TT_iconst hK dX12_encode_36 ?_
        refine TT_istore_n hK rfl (lv' := [(3, vI 0), (0, vR 73), (1, vI l), (2, vI n)]) (by decide) rfl dX12_encode_37 ?_
        have L38_91 : ∀ (k91 : Nat) (k : Int) (w38_91 : Hp_), TY w38_91 → FRM [73, 77, 78, 79, 80, 81, 82, 83, 84, 85, 86, 87, 88, 89, 90, 91, 92, 93, 94, 95, 96, 97, 98, 99, 100] [2, 18, 26, 27, 28, 29, 32, 33, 34, 36, 38, 39, 41, 42, 43] h w38_91 → (MIQ (w38_91 90) (w38_91 91)) → (0 ≤ k ∧ k ≤ 64) → (∀ j : Int, 0 ≤ j → j < k → -128 ≤ (w38_91 77) j ∧ (w38_91 77) j ≤ 128) → (∀ j : Int, 0 ≤ j → j < k → (w38_91 77) j = h 76 j - 128) → ((w38_91 73 2) = 0) → ((64 : Int) - k).toNat < k91 → TT K ly 0 0 38 [(0, vR 73), (1, vI l), (2, vI n), (3, vI k)] [] w38_91 := by
          intro k91
          induction k91 with
          | zero => intro k w38_91 hT38_91 hF38_91 hmi hk hs0 hs1 k2t hk91; exact absurd hk91 (Nat.not_lt_zero _)
          | succ k91 ih91 =>
            intro k w38_91 hT38_91 hF38_91 hmi hk hs0 hs1 k2t hk91
            refine TT_iload_n hK rfl 3 rfl dX12_encode_38 ?_
            refine TT_bipush hK (by decide) dX12_encode_39 ?_
            refine TT_icmp_ge hK (tgt := 66) (irm (by omega) (by omega)) (by decide) dX12_encode_41 (by decide) (fun hb41_92 => ?_) (fun hb41_92 => ?_)
            · refine TT_iconst hK dX12_encode_66 ?_
              refine TT_istore_n hK rfl (lv' := [(3, vI 0), (0, vR 73), (1, vI l), (2, vI n)]) (by decide) rfl dX12_encode_67 ?_
              have L68_93 : ∀ (k93 : Nat) (lv : Int) (w68_93 : Hp_), TY w68_93 → FRM [73, 77, 78, 79, 80, 81, 82, 83, 84, 85, 86, 87, 88, 89, 90, 91, 92, 93, 94, 95, 96, 97, 98, 99, 100] [2, 18, 26, 27, 28, 29, 32, 33, 34, 36, 38, 39, 41, 42, 43] h w68_93 → (MIQ (w68_93 90) (w68_93 91)) → (0 ≤ lv ∧ lv ≤ l) → (LV (lf (h 73 3) lv) (lf (h 73 4) lv) (BL lv) (w68_93 77)) → (∀ i : Int, 0 ≤ i → i < 64 → (w68_93 77) i = LE (h 73 3) (h 73 4) (fun i => h 76 i - 128) lv i) → ((w68_93 73 2) = 0) → ((3 : Int) - lv).toNat < k93 → TT K ly 0 0 68 [(0, vR 73), (1, vI l), (2, vI n), (3, vI lv)] [] w68_93 := by
                intro k93
                induction k93 with
                | zero => intro lv w68_93 hT68_93 hF68_93 hmi hlv hLV hxq k2t hk93; exact absurd hk93 (Nat.not_lt_zero _)
                | succ k93 ih93 =>
                  intro lv w68_93 hT68_93 hF68_93 hmi hlv hLV hxq k2t hk93
                  have l1 := lf_1 (n := h 73 3) (l := lv) rW (by omega)
                  have l2 := lf_1 (n := h 73 4) (l := lv) rH (by omega)
                  have hll : 0 ≤ l ∧ l ≤ 3 := by omega
                  refine TT_iload_n hK rfl 3 rfl dX12_encode_68 ?_
                  refine TT_iload_n hK rfl 1 rfl dX12_encode_69 ?_
                  refine TT_icmp_ge hK (tgt := 121) (irm (by omega) (by omega)) (irm (by omega) (by omega)) dX12_encode_70 (by decide) (fun hb70_94 => ?_) (fun hb70_94 => ?_)
                  · refine TT_aload_n hK rfl 0 rfl dX12_encode_121 ?_
                    refine TT_iconst hK dX12_encode_122 ?_
                    refine TT_aload_n hK rfl 0 rfl dX12_encode_123 ?_
                    refine gf_X12_16 hK (by decide) rfl (v := (h 73) 3) (hF68_93.2 3 (by decide)) dX12_encode_124 ?_
                    have r95 := ty_73_3 (v := (h 73) 3) hT68_93 (hF68_93.2 3 (by decide))
                    refine TT_aload_n hK rfl 0 rfl dX12_encode_127 ?_
                    refine gf_X12_20 hK (by decide) rfl (v := (h 73) 4) (hF68_93.2 4 (by decide)) dX12_encode_128 ?_
                    have r96 := ty_73_4 (v := (h 73) 4) hT68_93 (hF68_93.2 4 (by decide))
                    refine TT_iload_n hK rfl 1 rfl dX12_encode_131 ?_
                    refine iv_X12_342 hK (s_beBands_s 0 ((h 73) 3) ((h 73) 4) l w68_93 hT68_93 (by first | omega | (simp [up, setR] <;> omega)) (by first | omega | (simp [up, setR] <;> omega)) (by first | omega | (simp [up, setR] <;> omega)) (by first | omega | (simp [up, setR] <;> omega))) (by decide) rfl ⟨by decide, by decide⟩ (by decide) rfl rfl (Nat.le_of_ble_eq_true rfl) ⟨by decide, by decide⟩ dX12_encode_132 ?_
                    intro r9 g132_97 hp9
                    obtain ⟨⟨hT_97, hG_97⟩, hr9, q1_97, q2_97, q3_97, q6_97, q7_97, q8_97, q10_97, q11_97⟩ := hp9
                    rw [hr9]
                    have hF_97 : FRM [73, 77, 78, 79, 80, 81, 82, 83, 84, 85, 86, 87, 88, 89, 90, 91, 92, 93, 94, 95, 96, 97, 98, 99, 100] [2, 18, 26, 27, 28, 29, 32, 33, 34, 36, 38, 39, 41, 42, 43] h g132_97 := FRM_tr hF68_93 hG_97 (by decide) (by decide)
                    have q1_at132 := q1_97
                    have q2_at132 := q2_97
                    have q3_at132 := q3_97
                    have q7_at132 := q7_97
                    have q8_at132 := q8_97
                    have q11_at132 := q11_97
                    show TT K ly 0 0 135 [(0, vR 73), (1, vI l), (2, vI n), (3, vI lv)] [] g132_97
                    refine TT_aload_n hK rfl 0 rfl dX12_encode_135 ?_
                    refine TT_iconst hK dX12_encode_136 ?_
                    refine TT_iload_n hK rfl 1 rfl dX12_encode_137 ?_
                    refine TT_imul hK dX12_encode_138 ?_
                    refine TT_iconst hK dX12_encode_139 ?_
                    refine TT_iadd hK dX12_encode_140 ?_
                    refine pf_X12_345 hK (by decide) rfl dX12_encode_141 ?_
                    refine TT_hp (h' := setO g132_97 73 (fup (w68_93 73) 18 ((3 * l) + 1))) (up_can (hG_97.1 73 (by decide)) rfl rfl) ?_
                    have hT_98 : TY (setO g132_97 73 (fup (w68_93 73) 18 ((3 * l) + 1))) := tu_73_18 hT_97 (show up g132_97 73 18 ((3 * l) + 1) = (setO g132_97 73 (fup (w68_93 73) 18 ((3 * l) + 1))) from up_can (hG_97.1 73 (by decide)) rfl rfl) (by omega)
                    have hF_98 : FRM [73, 77, 78, 79, 80, 81, 82, 83, 84, 85, 86, 87, 88, 89, 90, 91, 92, 93, 94, 95, 96, 97, 98, 99, 100] [2, 18, 26, 27, 28, 29, 32, 33, 34, 36, 38, 39, 41, 42, 43] h (setO g132_97 73 (fup (w68_93 73) 18 ((3 * l) + 1))) := FRM_f (show up g132_97 73 18 ((3 * l) + 1) = (setO g132_97 73 (fup (w68_93 73) 18 ((3 * l) + 1))) from up_can (hG_97.1 73 (by decide)) rfl rfl) hF_97 (by decide) (by decide)
                    refine TT_iconst hK dX12_encode_144 ?_
                    refine TT_istore_n hK rfl (lv' := [(3, vI 0), (0, vR 73), (1, vI l), (2, vI n)]) (by decide) rfl dX12_encode_145 ?_
                    refine TT_iconst hK dX12_encode_146 ?_
                    refine TT_istore hK (lv' := [(4, vI 0), (3, vI 0), (0, vR 73), (1, vI l), (2, vI n)]) (by decide) rfl dX12_encode_147 ?_
                    have L149_99 : ∀ (k99 : Nat) (f : Int) (b : Int) (w149_99 : Hp_), TY w149_99 → FRM [73, 77, 78, 79, 80, 81, 82, 83, 84, 85, 86, 87, 88, 89, 90, 91, 92, 93, 94, 95, 96, 97, 98, 99, 100] [2, 18, 26, 27, 28, 29, 32, 33, 34, 36, 38, 39, 41, 42, 43] h w149_99 → (0 ≤ b ∧ b ≤ 3 * l + 1) → ((w149_99 73 18) = 3 * l + 1) → (∀ i : Int, 0 ≤ i → i < 64 → -4095 ≤ (w149_99 77) i ∧ (w149_99 77) i ≤ 4095) → (∀ j : Int, 0 ≤ j → j < 3 * l + 1 → (w149_99 80) j = BW (h 73 3) l j) → (∀ j : Int, 0 ≤ j → j < 3 * l + 1 → (w149_99 81) j = BH (h 73 4) l j) → (∀ j : Int, 0 ≤ j → j < 3 * l + 1 → (w149_99 86) j = 0) → (MIQ (w149_99 90) (w149_99 91)) → (LQ (w149_99 83) (w149_99 91) (w149_99 92) b) → (0 ≤ f ∧ f ≤ 48 * IS (AR (h 73 3) (h 73 4) l) b + 30 * b) → (f = IS (w149_99 91) b) → (∀ i : Int, 0 ≤ i → i < 64 → (w149_99 77) i = LE (h 73 3) (h 73 4) (fun i => h 76 i - 128) l i) → (∀ b2 x2 y2 : Int, 0 ≤ b2 → b2 < b → 0 ≤ x2 → x2 < BW (h 73 3) l b2 → 0 ≤ y2 → y2 < BH (h 73 4) l b2 → sgn ((w149_99 85) (64 * b2 + 8 * y2 + x2)) ((w149_99 84) (64 * b2 + 8 * y2 + x2)) = LE (h 73 3) (h 73 4) (fun i => h 76 i - 128) l (8 * CY (h 73 4) l b2 + CX (h 73 3) l b2 + 8 * y2 + x2)) → (∀ j : Int, 0 ≤ j → j < 3 * l + 1 → (w149_99 82) j = kdB j) → (∀ j : Int, 64 * b ≤ j → j < 64 * (3 * l + 1) → (w149_99 84) j = 0) → (CWQ Mf sf (h 73 3) (h 73 4) (fun i => h 76 i - 128) l b (w149_99 83) (w149_99 89) (w149_99 90) (w149_99 91)) → (∀ c : Int, 0 ≤ c → c < b → (w149_99 90) c + (w149_99 91) c ≤ f) → (LXQ Mf sf (h 73 3) (h 73 4) l b (w149_99 83) (w149_99 89) (w149_99 90) (w149_99 92)) → (∀ j : Int, 0 ≤ j → j < 3 * l + 1 → (w149_99 88) j = 3) → ((w149_99 73 2) = 0) → ((10 : Int) - b).toNat < k99 → TT K ly 0 0 149 [(0, vR 73), (1, vI l), (2, vI n), (3, vI f), (4, vI b)] [] w149_99 := by
                      intro k99
                      induction k99 with
                      | zero => intro f b w149_99 hT149_99 hF149_99 hb k18 hsq hbw hbh hbt hmi hlq hf hfs hx3 hnq hbk hzz hcw hca hlx h88 k2t hk99; exact absurd hk99 (Nat.not_lt_zero _)
                      | succ k99 ih99 =>
                        intro f b w149_99 hT149_99 hF149_99 hb k18 hsq hbw hbh hbt hmi hlq hf hfs hx3 hnq hbk hzz hcw hca hlx h88 k2t hk99
                        refine TT_iload hK 4 rfl dX12_encode_149 ?_
                        refine TT_aload_n hK rfl 0 rfl dX12_encode_151 ?_
                        refine gf_X12_345 hK (by decide) rfl (v := (w149_99 73) 18) rfl dX12_encode_152 ?_
                        have r100 := ty_73_18 (v := (w149_99 73) 18) hT149_99 rfl
                        refine TT_icmp_ge hK (tgt := 201) (irm (by omega) (by omega)) (irm (by omega) (by omega)) dX12_encode_155 (by decide) (fun hb155_101 => ?_) (fun hb155_101 => ?_)
                        · have gn := GT_nn (c := 3 * l + 1) hT149_99 (by omega)
                          have iaR := ARb (w := (h 73 3)) (e := (h 73 4)) (l := l) (c := b) (by omega) (by omega) (by omega) (by omega)
                          have h910 : ∀ j : Int, 0 ≤ j → j < 3 * l + 1 → (w149_99 91) j ≤ 1000 := fun j j0 j1 => by
                              have hl9 : 0 ≤ l ∧ l ≤ 3 := by omega
                              have k9 := hcw j j0 (by omega)
                              exact CWR_b (BWr rW hl9 j ⟨j0, j1⟩) (BHr rH hl9 j ⟨j0, j1⟩) k9.2.1 (hsf j) k9.1
                          refine TT_aload_n hK rfl 0 rfl dX12_encode_201 ?_
                          refine gf_X12_96 hK (by decide) rfl (q := 100) rfl rfl dX12_encode_202 ?_
                          refine TT_iconst hK dX12_encode_205 ?_
                          refine TT_aload_n hK rfl 0 rfl dX12_encode_206 ?_
                          refine gf_X12_16 hK (by decide) rfl (v := (h 73) 3) (hF149_99.2 3 (by decide)) dX12_encode_207 ?_
                          have r102 := ty_73_3 (v := (h 73) 3) hT149_99 (hF149_99.2 3 (by decide))
                          refine TT_iast hK (o := 100) (n := 4700) (by decide) rfl (by omega) (by omega) dX12_encode_210 ?_
                          refine TT_hp (h' := setO w149_99 100 (fup (w149_99 100) 0 ((h 73) 3))) (up_can rfl rfl rfl) ?_
                          have hT_103 : TY (setO w149_99 100 (fup (w149_99 100) 0 ((h 73) 3))) := tu_100 hT149_99 (show up w149_99 100 0 ((h 73) 3) = (setO w149_99 100 (fup (w149_99 100) 0 ((h 73) 3))) from up_can rfl rfl rfl) (by omega)
                          have hF_103 : FRM [73, 77, 78, 79, 80, 81, 82, 83, 84, 85, 86, 87, 88, 89, 90, 91, 92, 93, 94, 95, 96, 97, 98, 99, 100] [2, 18, 26, 27, 28, 29, 32, 33, 34, 36, 38, 39, 41, 42, 43] h (setO w149_99 100 (fup (w149_99 100) 0 ((h 73) 3))) := FRM_up (show up w149_99 100 0 ((h 73) 3) = (setO w149_99 100 (fup (w149_99 100) 0 ((h 73) 3))) from up_can rfl rfl rfl) hF149_99 (by decide) (by decide)
                          refine TT_aload_n hK rfl 0 rfl dX12_encode_211 ?_
                          refine gf_X12_96 hK (by decide) rfl (q := 100) rfl rfl dX12_encode_212 ?_
                          refine TT_iconst hK dX12_encode_215 ?_
                          refine TT_aload_n hK rfl 0 rfl dX12_encode_216 ?_
                          refine gf_X12_20 hK (by decide) rfl (v := (h 73) 4) ((rd_ (sOf_ne _ _ (by decide)) rfl).trans (hF149_99.2 4 (by decide))) dX12_encode_217 ?_
                          have r104 := ty_73_4 (v := (h 73) 4) hT_103 ((rd_ (sOf_ne _ _ (by decide)) rfl).trans (hF149_99.2 4 (by decide)))
                          refine TT_iast hK (o := 100) (n := 4700) (by decide) rfl (by omega) (by omega) dX12_encode_220 ?_
                          refine TT_hp (h' := setO w149_99 100 (fup (fup (w149_99 100) 0 ((h 73) 3)) 1 ((h 73) 4))) (up_can (sOf_eq _ _ _) rfl (setO_same _ _ _ _)) ?_
                          have hT_105 : TY (setO w149_99 100 (fup (fup (w149_99 100) 0 ((h 73) 3)) 1 ((h 73) 4))) := tu_100 hT_103 (show up (setO w149_99 100 (fup (w149_99 100) 0 ((h 73) 3))) 100 1 ((h 73) 4) = (setO w149_99 100 (fup (fup (w149_99 100) 0 ((h 73) 3)) 1 ((h 73) 4))) from up_can (sOf_eq _ _ _) rfl (setO_same _ _ _ _)) (by omega)
                          have hF_105 : FRM [73, 77, 78, 79, 80, 81, 82, 83, 84, 85, 86, 87, 88, 89, 90, 91, 92, 93, 94, 95, 96, 97, 98, 99, 100] [2, 18, 26, 27, 28, 29, 32, 33, 34, 36, 38, 39, 41, 42, 43] h (setO w149_99 100 (fup (fup (w149_99 100) 0 ((h 73) 3)) 1 ((h 73) 4))) := FRM_up (show up (setO w149_99 100 (fup (w149_99 100) 0 ((h 73) 3))) 100 1 ((h 73) 4) = (setO w149_99 100 (fup (fup (w149_99 100) 0 ((h 73) 3)) 1 ((h 73) 4))) from up_can (sOf_eq _ _ _) rfl (setO_same _ _ _ _)) hF_103 (by decide) (by decide)
                          refine TT_aload_n hK rfl 0 rfl dX12_encode_221 ?_
                          refine gf_X12_96 hK (by decide) rfl (q := 100) rfl rfl dX12_encode_222 ?_
                          refine TT_iconst hK dX12_encode_225 ?_
                          refine TT_iload_n hK rfl 1 rfl dX12_encode_226 ?_
                          refine TT_iast hK (o := 100) (n := 4700) (by decide) rfl (by omega) (by omega) dX12_encode_227 ?_
                          refine TT_hp (h' := setO w149_99 100 (fup (fup (fup (w149_99 100) 0 ((h 73) 3)) 1 ((h 73) 4)) 2 l)) (up_can (sOf_eq _ _ _) rfl (setO_same _ _ _ _)) ?_
                          have hT_106 : TY (setO w149_99 100 (fup (fup (fup (w149_99 100) 0 ((h 73) 3)) 1 ((h 73) 4)) 2 l)) := tu_100 hT_105 (show up (setO w149_99 100 (fup (fup (w149_99 100) 0 ((h 73) 3)) 1 ((h 73) 4))) 100 2 l = (setO w149_99 100 (fup (fup (fup (w149_99 100) 0 ((h 73) 3)) 1 ((h 73) 4)) 2 l)) from up_can (sOf_eq _ _ _) rfl (setO_same _ _ _ _)) (by omega)
                          have hF_106 : FRM [73, 77, 78, 79, 80, 81, 82, 83, 84, 85, 86, 87, 88, 89, 90, 91, 92, 93, 94, 95, 96, 97, 98, 99, 100] [2, 18, 26, 27, 28, 29, 32, 33, 34, 36, 38, 39, 41, 42, 43] h (setO w149_99 100 (fup (fup (fup (w149_99 100) 0 ((h 73) 3)) 1 ((h 73) 4)) 2 l)) := FRM_up (show up (setO w149_99 100 (fup (fup (w149_99 100) 0 ((h 73) 3)) 1 ((h 73) 4))) 100 2 l = (setO w149_99 100 (fup (fup (fup (w149_99 100) 0 ((h 73) 3)) 1 ((h 73) 4)) 2 l)) from up_can (sOf_eq _ _ _) rfl (setO_same _ _ _ _)) hF_105 (by decide) (by decide)
                          refine TT_aload_n hK rfl 0 rfl dX12_encode_228 ?_
                          refine gf_X12_96 hK (by decide) rfl (q := 100) rfl rfl dX12_encode_229 ?_
                          refine TT_iconst hK dX12_encode_232 ?_
                          refine TT_iload_n hK rfl 2 rfl dX12_encode_233 ?_
                          refine TT_iast hK (o := 100) (n := 4700) (by decide) rfl (by omega) (by omega) dX12_encode_234 ?_
                          refine TT_hp (h' := setO w149_99 100 (fup (fup (fup (fup (w149_99 100) 0 ((h 73) 3)) 1 ((h 73) 4)) 2 l) 3 n)) (up_can (sOf_eq _ _ _) rfl (setO_same _ _ _ _)) ?_
                          have hT_107 : TY (setO w149_99 100 (fup (fup (fup (fup (w149_99 100) 0 ((h 73) 3)) 1 ((h 73) 4)) 2 l) 3 n)) := tu_100 hT_106 (show up (setO w149_99 100 (fup (fup (fup (w149_99 100) 0 ((h 73) 3)) 1 ((h 73) 4)) 2 l)) 100 3 n = (setO w149_99 100 (fup (fup (fup (fup (w149_99 100) 0 ((h 73) 3)) 1 ((h 73) 4)) 2 l) 3 n)) from up_can (sOf_eq _ _ _) rfl (setO_same _ _ _ _)) (by omega)
                          have hF_107 : FRM [73, 77, 78, 79, 80, 81, 82, 83, 84, 85, 86, 87, 88, 89, 90, 91, 92, 93, 94, 95, 96, 97, 98, 99, 100] [2, 18, 26, 27, 28, 29, 32, 33, 34, 36, 38, 39, 41, 42, 43] h (setO w149_99 100 (fup (fup (fup (fup (w149_99 100) 0 ((h 73) 3)) 1 ((h 73) 4)) 2 l) 3 n)) := FRM_up (show up (setO w149_99 100 (fup (fup (fup (w149_99 100) 0 ((h 73) 3)) 1 ((h 73) 4)) 2 l)) 100 3 n = (setO w149_99 100 (fup (fup (fup (fup (w149_99 100) 0 ((h 73) 3)) 1 ((h 73) 4)) 2 l) 3 n)) from up_can (sOf_eq _ _ _) rfl (setO_same _ _ _ _)) hF_106 (by decide) (by decide)
                          refine TT_aload_n hK rfl 0 rfl dX12_encode_235 ?_
                          refine TT_iconst hK dX12_encode_236 ?_
                          refine pf_X12_329 hK (by decide) rfl dX12_encode_237 ?_
                          refine TT_hp (h' := setO (setO w149_99 73 (fup (w149_99 73) 41 4)) 100 (fup (fup (fup (fup (w149_99 100) 0 ((h 73) 3)) 1 ((h 73) 4)) 2 l) 3 n)) (up_can (sOf_ne _ _ (by decide)) rfl ((setO_comm _ _ _ (by decide)).trans (setO_cg rfl rfl))) ?_
                          have hT_108 : TY (setO (setO w149_99 73 (fup (w149_99 73) 41 4)) 100 (fup (fup (fup (fup (w149_99 100) 0 ((h 73) 3)) 1 ((h 73) 4)) 2 l) 3 n)) := tu_73_41 hT_107 (show up (setO w149_99 100 (fup (fup (fup (fup (w149_99 100) 0 ((h 73) 3)) 1 ((h 73) 4)) 2 l) 3 n)) 73 41 4 = (setO (setO w149_99 73 (fup (w149_99 73) 41 4)) 100 (fup (fup (fup (fup (w149_99 100) 0 ((h 73) 3)) 1 ((h 73) 4)) 2 l) 3 n)) from up_can (sOf_ne _ _ (by decide)) rfl ((setO_comm _ _ _ (by decide)).trans (setO_cg rfl rfl))) (by omega)
                          have hF_108 : FRM [73, 77, 78, 79, 80, 81, 82, 83, 84, 85, 86, 87, 88, 89, 90, 91, 92, 93, 94, 95, 96, 97, 98, 99, 100] [2, 18, 26, 27, 28, 29, 32, 33, 34, 36, 38, 39, 41, 42, 43] h (setO (setO w149_99 73 (fup (w149_99 73) 41 4)) 100 (fup (fup (fup (fup (w149_99 100) 0 ((h 73) 3)) 1 ((h 73) 4)) 2 l) 3 n)) := FRM_f (show up (setO w149_99 100 (fup (fup (fup (fup (w149_99 100) 0 ((h 73) 3)) 1 ((h 73) 4)) 2 l) 3 n)) 73 41 4 = (setO (setO w149_99 73 (fup (w149_99 73) 41 4)) 100 (fup (fup (fup (fup (w149_99 100) 0 ((h 73) 3)) 1 ((h 73) 4)) 2 l) 3 n)) from up_can (sOf_ne _ _ (by decide)) rfl ((setO_comm _ _ _ (by decide)).trans (setO_cg rfl rfl))) hF_107 (by decide) (by decide)
                          refine TT_iconst hK dX12_encode_240 ?_
                          refine TT_istore hK (lv' := [(4, vI 1), (0, vR 73), (1, vI l), (2, vI n), (3, vI f)]) (by decide) rfl dX12_encode_241 ?_
                          have L243_109 : ∀ (k109 : Nat) (i : Int) (D9 : DT_) (w243_109 : Hp_), TY w243_109 → FRM [73, 77, 78, 79, 80, 81, 82, 83, 84, 85, 86, 87, 88, 89, 90, 91, 92, 93, 94, 95, 96, 97, 98, 99, 100] [2, 18, 26, 27, 28, 29, 32, 33, 34, 36, 38, 39, 41, 42, 43] h w243_109 → (1 ≤ i ∧ i ≤ n + 1) → ((w243_109 73 18) = 3 * l + 1) → (MIQ (w243_109 90) (w243_109 91)) → (LQ (w243_109 83) (w243_109 91) (w243_109 92) (3 * l + 1)) → (IS (w243_109 91) (3 * l + 1) ≤ 3372) → (i ≤ n → TKQ (w243_109 86) (w243_109 83) i n (3 * l + 1)) → ((w243_109 73 41) ≤ 4 + 19 * (4 * (i - 1)) + IS (GT (w243_109 92) (w243_109 86)) (3 * l + 1)) → (∀ j : Int, 0 ≤ j → j < 3 * l + 1 → (w243_109 80) j = BW (h 73 3) l j) → (∀ j : Int, 0 ≤ j → j < 3 * l + 1 → (w243_109 81) j = BH (h 73 4) l j) → (∀ b2 x2 y2 : Int, 0 ≤ b2 → b2 < 3 * l + 1 → 0 ≤ x2 → x2 < BW (h 73 3) l b2 → 0 ≤ y2 → y2 < BH (h 73 4) l b2 → sgn ((w243_109 85) (64 * b2 + 8 * y2 + x2)) ((w243_109 84) (64 * b2 + 8 * y2 + x2)) = LE (h 73 3) (h 73 4) (fun i => h 76 i - 128) l (8 * CY (h 73 4) l b2 + CX (h 73 3) l b2 + 8 * y2 + x2)) → (CWQ Mf sf (h 73 3) (h 73 4) (fun i => h 76 i - 128) l (3 * l + 1) (w243_109 83) (w243_109 89) (w243_109 90) (w243_109 91)) → (LXQ Mf sf (h 73 3) (h 73 4) l (3 * l + 1) (w243_109 83) (w243_109 89) (w243_109 90) (w243_109 92)) → ((((w243_109 83), (w243_109 92), (w243_109 80), (w243_109 81), fun c i => (w243_109 89) ((w243_109 90) c + i)) : DT_) = D9) → (∀ j : Int, 0 ≤ j → j < 3 * l + 1 → (w243_109 91) j ≤ 1000) → (RBR (w243_109 73 41) 0 (w243_109 100) (stS D9 n l (i - 1).toNat (y0S (h 73 3) (h 73 4) l n)).1 ∧ (0 ≤ (stS D9 n l (i - 1).toNat (y0S (h 73 3) (h 73 4) l n)).1.1 ∧ (stS D9 n l (i - 1).toNat (y0S (h 73 3) (h 73 4) l n)).1.2.1 = 0)) → (PKW (3 * l + 1) (w243_109 88) (stS D9 n l (i - 1).toNat (y0S (h 73 3) (h 73 4) l n))) → (∀ j : Int, 0 ≤ j → j < 3 * l + 1 → (w243_109 86) j = tkF D9 n (i - 1) j) → ((w243_109 73 2) = 0) → ((4 : Int) - i).toNat < k109 → TT K ly 0 0 243 [(0, vR 73), (1, vI l), (2, vI n), (4, vI i)] [] w243_109 := by
                            intro k109
                            induction k109 with
                            | zero => intro i D9 w243_109 hT243_109 hF243_109 hi k18 hmi hlq hws htk hln hbw hbh hnf hcw hlx kD h91 hC hW9 h86 k2t hk109; exact absurd hk109 (Nat.not_lt_zero _)
                            | succ k109 ih109 =>
                              intro i D9 w243_109 hT243_109 hF243_109 hi k18 hmi hlq hws htk hln hbw hbh hnf hcw hlx kD h91 hC hW9 h86 k2t hk109
                              refine TT_iload hK 3 rfl dX12_encode_243 ?_
                              refine TT_iload_n hK rfl 2 rfl dX12_encode_245 ?_
                              refine TT_icmp_gt hK (tgt := 279) (irm (by omega) (by omega)) (irm (by omega) (by omega)) dX12_encode_246 (by decide) (fun hb246_110 => ?_) (fun hb246_110 => ?_)
                              · refine TT_aload_n hK rfl 0 rfl dX12_encode_279 ?_
                                refine gf_X12_329 hK (by decide) rfl (v := (w243_109 73) 41) rfl dX12_encode_280 ?_
                                have r111 := ty_73_41 (v := (w243_109 73) 41) hT243_109 rfl
                                refine TT_iret hK hQ ?_ dX12_encode_283
                                have e112_73_18 : w243_109 73 18 = (w243_109 73) 18 := rfl
                                have e113_73_18 : w243_109 73 18 = (w243_109 73) 18 := rfl
                                have e114_73_41 : w243_109 73 41 = (w243_109 73) 41 := rfl
                                have e115_73_41 : w243_109 73 41 = (w243_109 73) 41 := rfl
                                have e116_73_41 : w243_109 73 41 = (w243_109 73) 41 := rfl
                                have e117_73_2 : w243_109 73 2 = (w243_109 73) 2 := rfl
                                exact ⟨⟨hT243_109, hF243_109⟩, ((w243_109 73) 41), rfl, (by omega), (by exact hmi), (by rewrite [e112_73_18]; first | (intro q; exfalso; omega) | exact (fun _ => ⟨k18, fun j h1 h2 => ⟨hbw j h1 h2, hbh j h1 h2⟩, hnf⟩)), (by rewrite [e113_73_18]; first | exact (fun _ => ⟨rfl, rfl, rfl, rfl, rfl⟩) | (intro q; exfalso; omega)), (by first | (intro q; exfalso; omega) | exact (fun _ => hcw)), (by first | exact (fun _ => ⟨rfl, rfl, rfl, rfl⟩) | (intro q; exfalso; omega)), (by first | (intro q; exfalso; omega) | exact (fun _ => hlx)), (by first | exact (fun _ => rfl) | (intro q; exfalso; omega)), (by rewrite [e114_73_41]; first | (intro q; exfalso; omega) | (intro _; rw [kD]; rw [show i - 1 = n by omega] at hC; exact hC)), (by first | (intro q; exfalso; omega) | (intro _; exact ⟨hlq, h91⟩)), (by rewrite [e115_73_41]; first | (intro q; exfalso; omega) | (intro _; rfl)), (by rewrite [e116_73_41]; first | exact (fun _ => ⟨rfl, rfl⟩) | (intro q; exfalso; omega)), (by rewrite [e117_73_2]; first | exact Or.inl ⟨by omega, by omega⟩ | exact Or.inr ⟨by omega, by omega⟩)⟩
                              · refine TT_iconst hK dX12_encode_249 ?_
                                refine TT_istore hK (lv' := [(5, vI 0), (0, vR 73), (1, vI l), (2, vI n), (4, vI i)]) (by decide) rfl dX12_encode_250 ?_
                                have L252_118 : ∀ (k118 : Nat) (r : Int) (w252_118 : Hp_), TY w252_118 → FRM [73, 77, 78, 79, 80, 81, 82, 83, 84, 85, 86, 87, 88, 89, 90, 91, 92, 93, 94, 95, 96, 97, 98, 99, 100] [2, 18, 26, 27, 28, 29, 32, 33, 34, 36, 38, 39, 41, 42, 43] h w252_118 → (0 ≤ r ∧ r ≤ l + 1) → ((w252_118 73 18) = 3 * l + 1) → (MIQ (w252_118 90) (w252_118 91)) → (LQ (w252_118 83) (w252_118 91) (w252_118 92) (3 * l + 1)) → (IS (w252_118 91) (3 * l + 1) ≤ 3372) → (TKQ (w252_118 86) (w252_118 83) i n (3 * l + 1)) → ((w252_118 73 41) ≤ 4 + 19 * (4 * (i - 1) + r) + IS (GT (w252_118 92) (w252_118 86)) (3 * l + 1)) → (∀ j : Int, 0 ≤ j → j < 3 * l + 1 → (w252_118 80) j = BW (h 73 3) l j) → (∀ j : Int, 0 ≤ j → j < 3 * l + 1 → (w252_118 81) j = BH (h 73 4) l j) → (∀ b2 x2 y2 : Int, 0 ≤ b2 → b2 < 3 * l + 1 → 0 ≤ x2 → x2 < BW (h 73 3) l b2 → 0 ≤ y2 → y2 < BH (h 73 4) l b2 → sgn ((w252_118 85) (64 * b2 + 8 * y2 + x2)) ((w252_118 84) (64 * b2 + 8 * y2 + x2)) = LE (h 73 3) (h 73 4) (fun i => h 76 i - 128) l (8 * CY (h 73 4) l b2 + CX (h 73 3) l b2 + 8 * y2 + x2)) → (CWQ Mf sf (h 73 3) (h 73 4) (fun i => h 76 i - 128) l (3 * l + 1) (w252_118 83) (w252_118 89) (w252_118 90) (w252_118 91)) → (LXQ Mf sf (h 73 3) (h 73 4) l (3 * l + 1) (w252_118 83) (w252_118 89) (w252_118 90) (w252_118 92)) → ((((w252_118 83), (w252_118 92), (w252_118 80), (w252_118 81), fun c i => (w252_118 89) ((w252_118 90) c + i)) : DT_) = D9) → (∀ j : Int, 0 ≤ j → j < 3 * l + 1 → (w252_118 91) j ≤ 1000) → (RBR (w252_118 73 41) 0 (w252_118 100) (laS D9 n i r.toNat (stS D9 n l (i - 1).toNat (y0S (h 73 3) (h 73 4) l n))).1 ∧ (0 ≤ (laS D9 n i r.toNat (stS D9 n l (i - 1).toNat (y0S (h 73 3) (h 73 4) l n))).1.1 ∧ (laS D9 n i r.toNat (stS D9 n l (i - 1).toNat (y0S (h 73 3) (h 73 4) l n))).1.2.1 = 0)) → (PKW (3 * l + 1) (w252_118 88) (laS D9 n i r.toNat (stS D9 n l (i - 1).toNat (y0S (h 73 3) (h 73 4) l n)))) → ((∀ j : Int, 0 ≤ j → j < FS r → (w252_118 86) j = tkF D9 n i j) ∧ ∀ j : Int, FS r ≤ j → j < 3 * l + 1 → (w252_118 86) j = tkF D9 n (i - 1) j) → ((w252_118 73 2) = 0) → ((4 : Int) - r).toNat < k118 → TT K ly 0 0 252 [(0, vR 73), (1, vI l), (2, vI n), (4, vI i), (5, vI r)] [] w252_118 := by
                                  intro k118
                                  induction k118 with
                                  | zero => intro r w252_118 hT252_118 hF252_118 hr k18 hmi hlq hws htk2 hln hbw hbh hnf hcw hlx kD h91 hC hW9 h86 k2t hk118; exact absurd hk118 (Nat.not_lt_zero _)
                                  | succ k118 ih118 =>
                                    intro r w252_118 hT252_118 hF252_118 hr k18 hmi hlq hws htk2 hln hbw hbh hnf hcw hlx kD h91 hC hW9 h86 k2t hk118
                                    refine TT_iload hK 4 rfl dX12_encode_252 ?_
                                    refine TT_iload_n hK rfl 1 rfl dX12_encode_254 ?_
                                    refine TT_icmp_gt hK (tgt := 273) (irm (by omega) (by omega)) (irm (by omega) (by omega)) dX12_encode_255 (by decide) (fun hb255_119 => ?_) (fun hb255_119 => ?_)
                                    · refine TT_iinc hK (v := i + 1) (lv' := [(4, vI (i + 1)), (0, vR 73), (1, vI l), (2, vI n), (5, vI r)]) 3 rfl rfl (by decide) rfl dX12_encode_273 ?_
                                      refine TT_goto hK (tgt := 243) dX12_encode_276 (by decide) ?_
                                      refine TT_sub [1, 2, 3, 0] rfl ?_
                                      have e120_73_18 : w252_118 73 18 = (w252_118 73) 18 := rfl
                                      have e121_73_41 : w252_118 73 41 = (w252_118 73) 41 := rfl
                                      have e122_73_41 : w252_118 73 41 = (w252_118 73) 41 := rfl
                                      have e123_73_2 : w252_118 73 2 = (w252_118 73) 2 := rfl
                                      exact ih109 (i + 1) D9 w252_118 hT252_118 hF252_118 (by first | omega | (simp [up, setR] <;> omega)) (by rewrite [e120_73_18]; first | omega | (simp [up, setR] <;> omega)) (by exact hmi) (by exact hlq) (by exact hws) (by intro h1; exact TKQ_m htk2 (fun j h2 h3 => (ty_83 (i := j) (v := w252_118 83 j) hT252_118 rfl h2 (by omega)).1.1) (by omega) (by omega)) (by rewrite [e121_73_41]; first | omega | (simp [up, setR] <;> omega)) (by exact hbw) (by exact hbh) (by exact hnf) (by exact hcw) (by exact hlx) (by exact kD) (by exact h91) (by rewrite [e122_73_41]; rw [show i + 1 - 1 = i by omega, stS_s (by omega), show l + 1 = r by omega]; exact hC) (by rw [show i + 1 - 1 = i by omega, stS_s (by omega), show l + 1 = r by omega]; exact hW9) (by intro j j0 j1; rw [show i + 1 - 1 = i by omega]; exact h86.1 j j0 (by rw [show r = l + 1 by omega, FS_s (by omega)]; exact j1)) (by rewrite [e123_73_2]; first | omega | (simp [up, setR] <;> omega)) (by first | omega | (simp [up, setR] <;> omega))
                                    · have hfr := FS_r (r := r) (by omega)
                                      refine TT_aload_n hK rfl 0 rfl dX12_encode_258 ?_
                                      refine TT_iload hK 4 rfl dX12_encode_259 ?_
                                      refine TT_iload hK 3 rfl dX12_encode_261 ?_
                                      refine TT_iload_n hK rfl 2 rfl dX12_encode_263 ?_
                                      have e124_73_18 : w252_118 73 18 = (w252_118 73) 18 := rfl
                                      have e125_73_18 : w252_118 73 18 = (w252_118 73) 18 := rfl
                                      have e126_73_18 : w252_118 73 18 = (w252_118 73) 18 := rfl
                                      have e127_73_18 : w252_118 73 18 = (w252_118 73) 18 := rfl
                                      have e128_73_41 : w252_118 73 41 = (w252_118 73) 41 := rfl
                                      have e129_73_41 : w252_118 73 41 = (w252_118 73) 41 := rfl
                                      have e130_73_18 : w252_118 73 18 = (w252_118 73) 18 := rfl
                                      have e131_73_18 : w252_118 73 18 = (w252_118 73) 18 := rfl
                                      refine iv_X12_358 hK (s_putPacket_e ((laS D9 n i r.toNat (stS D9 n l (i - 1).toNat (y0S (h 73 3) (h 73 4) l n))).1) ((laS D9 n i r.toNat (stS D9 n l (i - 1).toNat (y0S (h 73 3) (h 73 4) l n))).2) r i n w252_118 hT252_118 (by first | omega | (simp [up, setR] <;> omega)) (by rewrite [e124_73_18]; rw [k18]; omega) (by first | omega | (simp [up, setR] <;> omega)) (by first | omega | (simp [up, setR] <;> omega)) (by rewrite [e125_73_18]; rw [k18]; exact hlq) (by first | assumption | exact hmi) (by rewrite [e126_73_18]; rw [k18]; exact htk2) (by rewrite [e127_73_18, e128_73_41]; rw [k18]; omega) (by rewrite [e129_73_41]; exact hC.1) (by exact hC.2) (by rewrite [e130_73_18]; rw [k18]; exact hW9) (by rw [kD]; exact fun j j0 j1 => h86.2 j j0 (by omega)) (by rewrite [e131_73_18]; rw [k18]; exact h91)) (by decide) rfl ⟨by decide, by decide⟩ (by decide) rfl rfl (Nat.le_of_ble_eq_true rfl) ⟨by decide, by decide⟩ dX12_encode_264 ?_
                                      intro r9 g264_132 hp9
                                      obtain ⟨⟨hT_132, hG_132⟩, hr9, q1_132, q2_132, pk_132, w2_132, h2_132⟩ := hp9
                                      rw [hr9]
                                      have hF_132 : FRM [73, 77, 78, 79, 80, 81, 82, 83, 84, 85, 86, 87, 88, 89, 90, 91, 92, 93, 94, 95, 96, 97, 98, 99, 100] [2, 18, 26, 27, 28, 29, 32, 33, 34, 36, 38, 39, 41, 42, 43] h g264_132 := FRM_tr hF252_118 hG_132 (by decide) (by decide)
                                      rw [show w252_118 73 18 = (w252_118 73) 18 from rfl] at q1_132
                                      rw [show w252_118 73 41 = (w252_118 73) 41 from rfl] at q1_132
                                      rw [show w252_118 73 18 = (w252_118 73) 18 from rfl] at q2_132
                                      rw [show w252_118 73 18 = (w252_118 73) 18 from rfl] at w2_132
                                      have q1_at264 := q1_132
                                      have q2_at264 := q2_132
                                      have pk_at264 := pk_132
                                      have w2_at264 := w2_132
                                      have h2_at264 := h2_132
                                      show TT K ly 0 0 267 [(0, vR 73), (1, vI l), (2, vI n), (4, vI i), (5, vI r)] [] g264_132
                                      have pk9 : RBR ((g264_132 73) 41) 0 (g264_132 100) (pkS D9 n i r (laS D9 n i r.toNat (stS D9 n l (i - 1).toNat (y0S (h 73 3) (h 73 4) l n)))).1 ∧ (0 ≤ (pkS D9 n i r (laS D9 n i r.toNat (stS D9 n l (i - 1).toNat (y0S (h 73 3) (h 73 4) l n)))).1.1 ∧ (pkS D9 n i r (laS D9 n i r.toNat (stS D9 n l (i - 1).toNat (y0S (h 73 3) (h 73 4) l n)))).1.2.1 = 0) := by
                                          have k9 := pk_at264
                                          rw [kD] at k9
                                          exact k9
                                      have pw9 : PKW (3 * l + 1) (g264_132 88) (pkS D9 n i r (laS D9 n i r.toNat (stS D9 n l (i - 1).toNat (y0S (h 73 3) (h 73 4) l n)))) := by
                                          have k9 := w2_at264
                                          rw [kD, k18] at k9
                                          exact k9
                                      have ph9 := h2_at264
                                      rw [kD] at ph9
                                      refine TT_iinc hK (v := r + 1) (lv' := [(5, vI (r + 1)), (0, vR 73), (1, vI l), (2, vI n), (4, vI i)]) 4 rfl rfl (by decide) rfl dX12_encode_267 ?_
                                      refine TT_goto hK (tgt := 252) dX12_encode_270 (by decide) ?_
                                      refine TT_sub [1, 2, 3, 4, 0] rfl ?_
                                      have e133_73_18 : g264_132 73 18 = (w252_118 73) 18 := (hG_132.2 18 (by decide))
                                      have e134_90 : g264_132 90 = w252_118 90 := (hG_132.1 90 (by decide))
                                      have e135_91 : g264_132 91 = w252_118 91 := (hG_132.1 91 (by decide))
                                      have e136_83 : g264_132 83 = w252_118 83 := (hG_132.1 83 (by decide))
                                      have e137_91 : g264_132 91 = w252_118 91 := (hG_132.1 91 (by decide))
                                      have e138_92 : g264_132 92 = w252_118 92 := (hG_132.1 92 (by decide))
                                      have e139_91 : g264_132 91 = w252_118 91 := (hG_132.1 91 (by decide))
                                      have e140_83 : g264_132 83 = w252_118 83 := (hG_132.1 83 (by decide))
                                      have e141_73_41 : g264_132 73 41 = (g264_132 73) 41 := rfl
                                      have e142_92 : g264_132 92 = w252_118 92 := (hG_132.1 92 (by decide))
                                      have e143_80 : g264_132 80 = w252_118 80 := (hG_132.1 80 (by decide))
                                      have e144_81 : g264_132 81 = w252_118 81 := (hG_132.1 81 (by decide))
                                      have e145_84 : g264_132 84 = w252_118 84 := (hG_132.1 84 (by decide))
                                      have e146_85 : g264_132 85 = w252_118 85 := (hG_132.1 85 (by decide))
                                      have e147_83 : g264_132 83 = w252_118 83 := (hG_132.1 83 (by decide))
                                      have e148_89 : g264_132 89 = w252_118 89 := (hG_132.1 89 (by decide))
                                      have e149_90 : g264_132 90 = w252_118 90 := (hG_132.1 90 (by decide))
                                      have e150_91 : g264_132 91 = w252_118 91 := (hG_132.1 91 (by decide))
                                      have e151_83 : g264_132 83 = w252_118 83 := (hG_132.1 83 (by decide))
                                      have e152_89 : g264_132 89 = w252_118 89 := (hG_132.1 89 (by decide))
                                      have e153_90 : g264_132 90 = w252_118 90 := (hG_132.1 90 (by decide))
                                      have e154_92 : g264_132 92 = w252_118 92 := (hG_132.1 92 (by decide))
                                      have e155_80 : g264_132 80 = w252_118 80 := (hG_132.1 80 (by decide))
                                      have e156_81 : g264_132 81 = w252_118 81 := (hG_132.1 81 (by decide))
                                      have e157_83 : g264_132 83 = w252_118 83 := (hG_132.1 83 (by decide))
                                      have e158_89 : g264_132 89 = w252_118 89 := (hG_132.1 89 (by decide))
                                      have e159_90 : g264_132 90 = w252_118 90 := (hG_132.1 90 (by decide))
                                      have e160_92 : g264_132 92 = w252_118 92 := (hG_132.1 92 (by decide))
                                      have e161_91 : g264_132 91 = w252_118 91 := (hG_132.1 91 (by decide))
                                      have e162_73_41 : g264_132 73 41 = (g264_132 73) 41 := rfl
                                      have e163_73_2 : g264_132 73 2 = (w252_118 73) 2 := (hG_132.2 2 (by decide))
                                      rw [k18] at q1_at264 q2_at264
                                      exact ih118 (r + 1) g264_132 hT_132 hF_132 (by first | omega | (simp [up, setR] <;> omega)) (by rewrite [e133_73_18]; first | omega | (simp [up, setR] <;> omega)) (by rewrite [e134_90, e135_91]; exact hmi) (by rewrite [e136_83, e137_91, e138_92]; exact hlq) (by rewrite [e139_91]; exact hws) (by rewrite [e140_83]; exact q2_at264) (by rewrite [e141_73_41, e142_92]; first | omega | (simp [up, setR] <;> omega)) (by rewrite [e143_80]; exact hbw) (by rewrite [e144_81]; exact hbh) (by rewrite [e145_84, e146_85]; exact hnf) (by rewrite [e147_83, e148_89, e149_90, e150_91]; exact hcw) (by rewrite [e151_83, e152_89, e153_90, e154_92]; exact hlx) (by rewrite [e155_80, e156_81, e157_83, e158_89, e159_90, e160_92]; exact kD) (by rewrite [e161_91]; exact h91) (by rewrite [e162_73_41]; rw [laS_s (by omega)]; exact pk9) (by rw [laS_s (by omega)]; exact pw9) (by rw [FS_s (by omega)]; exact ⟨fun j j0 j1 => by by_cases e : FS r ≤ j; exact ph9.1 j e j1; exact (ph9.2 j (Or.inl (by omega))).trans (h86.1 j j0 (by omega)), fun j j0 j1 => (ph9.2 j (Or.inr j0)).trans (h86.2 j (by omega) j1)⟩) (by rewrite [e163_73_2]; first | omega | (simp [up, setR] <;> omega)) (by first | omega | (simp [up, setR] <;> omega))
                                refine TT_sub [1, 2, 3, 4, 0] rfl ?_
                                have e164_73_18 : w243_109 73 18 = (w243_109 73) 18 := rfl
                                have e165_73_41 : w243_109 73 41 = (w243_109 73) 41 := rfl
                                have e166_73_41 : w243_109 73 41 = (w243_109 73) 41 := rfl
                                have e167_73_2 : w243_109 73 2 = (w243_109 73) 2 := rfl
                                exact L252_118 ((((4 : Int) - 0).toNat) + 1) 0 w243_109 hT243_109 hF243_109 (by first | omega | (simp [up, setR] <;> omega)) (by rewrite [e164_73_18]; first | omega | (simp [up, setR] <;> omega)) (by exact hmi) (by exact hlq) (by exact hws) (by exact htk (by omega)) (by rewrite [e165_73_41]; first | omega | (simp [up, setR] <;> omega)) (by exact hbw) (by exact hbh) (by exact hnf) (by first | exact hcw | (rw [show 3 * l + 1 = b by omega]; exact hcw)) (by first | exact hlx | (rw [show 3 * l + 1 = b by omega]; exact hlx)) (by exact kD) (by exact h91) (by rewrite [e166_73_41]; exact hC) (by exact hW9) (by exact ⟨fun j j0 j1 => by have f0 : FS 0 = 0 := rfl; omega, fun j j0 j1 => h86 j (by have f0 : FS 0 = 0 := rfl; omega) j1⟩) (by rewrite [e167_73_2]; first | omega | (simp [up, setR] <;> omega)) (Nat.lt_succ_self _)
                          refine TT_sub [1, 2, 3, 0] rfl ?_
                          have e168_73_18 : (setO (setO w149_99 73 (fup (w149_99 73) 41 4)) 100 (fup (fup (fup (fup (w149_99 100) 0 ((h 73) 3)) 1 ((h 73) 4)) 2 l) 3 n)) 73 18 = (w149_99 73) 18 := rd_ ((sOf_ne _ _ (by decide)).trans (sOf_eq _ _ _)) (fup_ne _ _ (by decide))
                          have e169_90 : (setO (setO w149_99 73 (fup (w149_99 73) 41 4)) 100 (fup (fup (fup (fup (w149_99 100) 0 ((h 73) 3)) 1 ((h 73) 4)) 2 l) 3 n)) 90 = w149_99 90 := (sOf_ne _ _ (by decide)).trans (sOf_ne _ _ (by decide))
                          have e170_91 : (setO (setO w149_99 73 (fup (w149_99 73) 41 4)) 100 (fup (fup (fup (fup (w149_99 100) 0 ((h 73) 3)) 1 ((h 73) 4)) 2 l) 3 n)) 91 = w149_99 91 := (sOf_ne _ _ (by decide)).trans (sOf_ne _ _ (by decide))
                          have e171_83 : (setO (setO w149_99 73 (fup (w149_99 73) 41 4)) 100 (fup (fup (fup (fup (w149_99 100) 0 ((h 73) 3)) 1 ((h 73) 4)) 2 l) 3 n)) 83 = w149_99 83 := (sOf_ne _ _ (by decide)).trans (sOf_ne _ _ (by decide))
                          have e172_91 : (setO (setO w149_99 73 (fup (w149_99 73) 41 4)) 100 (fup (fup (fup (fup (w149_99 100) 0 ((h 73) 3)) 1 ((h 73) 4)) 2 l) 3 n)) 91 = w149_99 91 := (sOf_ne _ _ (by decide)).trans (sOf_ne _ _ (by decide))
                          have e173_92 : (setO (setO w149_99 73 (fup (w149_99 73) 41 4)) 100 (fup (fup (fup (fup (w149_99 100) 0 ((h 73) 3)) 1 ((h 73) 4)) 2 l) 3 n)) 92 = w149_99 92 := (sOf_ne _ _ (by decide)).trans (sOf_ne _ _ (by decide))
                          have e174_91 : (setO (setO w149_99 73 (fup (w149_99 73) 41 4)) 100 (fup (fup (fup (fup (w149_99 100) 0 ((h 73) 3)) 1 ((h 73) 4)) 2 l) 3 n)) 91 = w149_99 91 := (sOf_ne _ _ (by decide)).trans (sOf_ne _ _ (by decide))
                          have e175_83 : (setO (setO w149_99 73 (fup (w149_99 73) 41 4)) 100 (fup (fup (fup (fup (w149_99 100) 0 ((h 73) 3)) 1 ((h 73) 4)) 2 l) 3 n)) 83 = w149_99 83 := (sOf_ne _ _ (by decide)).trans (sOf_ne _ _ (by decide))
                          have e176_86 : (setO (setO w149_99 73 (fup (w149_99 73) 41 4)) 100 (fup (fup (fup (fup (w149_99 100) 0 ((h 73) 3)) 1 ((h 73) 4)) 2 l) 3 n)) 86 = w149_99 86 := (sOf_ne _ _ (by decide)).trans (sOf_ne _ _ (by decide))
                          have e177_73_41 : (setO (setO w149_99 73 (fup (w149_99 73) 41 4)) 100 (fup (fup (fup (fup (w149_99 100) 0 ((h 73) 3)) 1 ((h 73) 4)) 2 l) 3 n)) 73 41 = 4 := rd_ ((sOf_ne _ _ (by decide)).trans (sOf_eq _ _ _)) (fup_eq _ _ _)
                          have e178_86 : (setO (setO w149_99 73 (fup (w149_99 73) 41 4)) 100 (fup (fup (fup (fup (w149_99 100) 0 ((h 73) 3)) 1 ((h 73) 4)) 2 l) 3 n)) 86 = w149_99 86 := (sOf_ne _ _ (by decide)).trans (sOf_ne _ _ (by decide))
                          have e179_92 : (setO (setO w149_99 73 (fup (w149_99 73) 41 4)) 100 (fup (fup (fup (fup (w149_99 100) 0 ((h 73) 3)) 1 ((h 73) 4)) 2 l) 3 n)) 92 = w149_99 92 := (sOf_ne _ _ (by decide)).trans (sOf_ne _ _ (by decide))
                          have e180_80 : (setO (setO w149_99 73 (fup (w149_99 73) 41 4)) 100 (fup (fup (fup (fup (w149_99 100) 0 ((h 73) 3)) 1 ((h 73) 4)) 2 l) 3 n)) 80 = w149_99 80 := (sOf_ne _ _ (by decide)).trans (sOf_ne _ _ (by decide))
                          have e181_81 : (setO (setO w149_99 73 (fup (w149_99 73) 41 4)) 100 (fup (fup (fup (fup (w149_99 100) 0 ((h 73) 3)) 1 ((h 73) 4)) 2 l) 3 n)) 81 = w149_99 81 := (sOf_ne _ _ (by decide)).trans (sOf_ne _ _ (by decide))
                          have e182_84 : (setO (setO w149_99 73 (fup (w149_99 73) 41 4)) 100 (fup (fup (fup (fup (w149_99 100) 0 ((h 73) 3)) 1 ((h 73) 4)) 2 l) 3 n)) 84 = w149_99 84 := (sOf_ne _ _ (by decide)).trans (sOf_ne _ _ (by decide))
                          have e183_85 : (setO (setO w149_99 73 (fup (w149_99 73) 41 4)) 100 (fup (fup (fup (fup (w149_99 100) 0 ((h 73) 3)) 1 ((h 73) 4)) 2 l) 3 n)) 85 = w149_99 85 := (sOf_ne _ _ (by decide)).trans (sOf_ne _ _ (by decide))
                          have e184_83 : (setO (setO w149_99 73 (fup (w149_99 73) 41 4)) 100 (fup (fup (fup (fup (w149_99 100) 0 ((h 73) 3)) 1 ((h 73) 4)) 2 l) 3 n)) 83 = w149_99 83 := (sOf_ne _ _ (by decide)).trans (sOf_ne _ _ (by decide))
                          have e185_89 : (setO (setO w149_99 73 (fup (w149_99 73) 41 4)) 100 (fup (fup (fup (fup (w149_99 100) 0 ((h 73) 3)) 1 ((h 73) 4)) 2 l) 3 n)) 89 = w149_99 89 := (sOf_ne _ _ (by decide)).trans (sOf_ne _ _ (by decide))
                          have e186_90 : (setO (setO w149_99 73 (fup (w149_99 73) 41 4)) 100 (fup (fup (fup (fup (w149_99 100) 0 ((h 73) 3)) 1 ((h 73) 4)) 2 l) 3 n)) 90 = w149_99 90 := (sOf_ne _ _ (by decide)).trans (sOf_ne _ _ (by decide))
                          have e187_91 : (setO (setO w149_99 73 (fup (w149_99 73) 41 4)) 100 (fup (fup (fup (fup (w149_99 100) 0 ((h 73) 3)) 1 ((h 73) 4)) 2 l) 3 n)) 91 = w149_99 91 := (sOf_ne _ _ (by decide)).trans (sOf_ne _ _ (by decide))
                          have e188_83 : (setO (setO w149_99 73 (fup (w149_99 73) 41 4)) 100 (fup (fup (fup (fup (w149_99 100) 0 ((h 73) 3)) 1 ((h 73) 4)) 2 l) 3 n)) 83 = w149_99 83 := (sOf_ne _ _ (by decide)).trans (sOf_ne _ _ (by decide))
                          have e189_89 : (setO (setO w149_99 73 (fup (w149_99 73) 41 4)) 100 (fup (fup (fup (fup (w149_99 100) 0 ((h 73) 3)) 1 ((h 73) 4)) 2 l) 3 n)) 89 = w149_99 89 := (sOf_ne _ _ (by decide)).trans (sOf_ne _ _ (by decide))
                          have e190_90 : (setO (setO w149_99 73 (fup (w149_99 73) 41 4)) 100 (fup (fup (fup (fup (w149_99 100) 0 ((h 73) 3)) 1 ((h 73) 4)) 2 l) 3 n)) 90 = w149_99 90 := (sOf_ne _ _ (by decide)).trans (sOf_ne _ _ (by decide))
                          have e191_92 : (setO (setO w149_99 73 (fup (w149_99 73) 41 4)) 100 (fup (fup (fup (fup (w149_99 100) 0 ((h 73) 3)) 1 ((h 73) 4)) 2 l) 3 n)) 92 = w149_99 92 := (sOf_ne _ _ (by decide)).trans (sOf_ne _ _ (by decide))
                          have e192_80 : (setO (setO w149_99 73 (fup (w149_99 73) 41 4)) 100 (fup (fup (fup (fup (w149_99 100) 0 ((h 73) 3)) 1 ((h 73) 4)) 2 l) 3 n)) 80 = w149_99 80 := (sOf_ne _ _ (by decide)).trans (sOf_ne _ _ (by decide))
                          have e193_81 : (setO (setO w149_99 73 (fup (w149_99 73) 41 4)) 100 (fup (fup (fup (fup (w149_99 100) 0 ((h 73) 3)) 1 ((h 73) 4)) 2 l) 3 n)) 81 = w149_99 81 := (sOf_ne _ _ (by decide)).trans (sOf_ne _ _ (by decide))
                          have e194_83 : (setO (setO w149_99 73 (fup (w149_99 73) 41 4)) 100 (fup (fup (fup (fup (w149_99 100) 0 ((h 73) 3)) 1 ((h 73) 4)) 2 l) 3 n)) 83 = w149_99 83 := (sOf_ne _ _ (by decide)).trans (sOf_ne _ _ (by decide))
                          have e195_89 : (setO (setO w149_99 73 (fup (w149_99 73) 41 4)) 100 (fup (fup (fup (fup (w149_99 100) 0 ((h 73) 3)) 1 ((h 73) 4)) 2 l) 3 n)) 89 = w149_99 89 := (sOf_ne _ _ (by decide)).trans (sOf_ne _ _ (by decide))
                          have e196_90 : (setO (setO w149_99 73 (fup (w149_99 73) 41 4)) 100 (fup (fup (fup (fup (w149_99 100) 0 ((h 73) 3)) 1 ((h 73) 4)) 2 l) 3 n)) 90 = w149_99 90 := (sOf_ne _ _ (by decide)).trans (sOf_ne _ _ (by decide))
                          have e197_92 : (setO (setO w149_99 73 (fup (w149_99 73) 41 4)) 100 (fup (fup (fup (fup (w149_99 100) 0 ((h 73) 3)) 1 ((h 73) 4)) 2 l) 3 n)) 92 = w149_99 92 := (sOf_ne _ _ (by decide)).trans (sOf_ne _ _ (by decide))
                          have e198_91 : (setO (setO w149_99 73 (fup (w149_99 73) 41 4)) 100 (fup (fup (fup (fup (w149_99 100) 0 ((h 73) 3)) 1 ((h 73) 4)) 2 l) 3 n)) 91 = w149_99 91 := (sOf_ne _ _ (by decide)).trans (sOf_ne _ _ (by decide))
                          have e199_100 : (setO (setO w149_99 73 (fup (w149_99 73) 41 4)) 100 (fup (fup (fup (fup (w149_99 100) 0 ((h 73) 3)) 1 ((h 73) 4)) 2 l) 3 n)) 100 = fup (fup (fup (fup (w149_99 100) 0 ((h 73) 3)) 1 ((h 73) 4)) 2 l) 3 n := sOf_eq _ _ _
                          have e200_73_41 : (setO (setO w149_99 73 (fup (w149_99 73) 41 4)) 100 (fup (fup (fup (fup (w149_99 100) 0 ((h 73) 3)) 1 ((h 73) 4)) 2 l) 3 n)) 73 41 = 4 := rd_ ((sOf_ne _ _ (by decide)).trans (sOf_eq _ _ _)) (fup_eq _ _ _)
                          have e201_88 : (setO (setO w149_99 73 (fup (w149_99 73) 41 4)) 100 (fup (fup (fup (fup (w149_99 100) 0 ((h 73) 3)) 1 ((h 73) 4)) 2 l) 3 n)) 88 = w149_99 88 := (sOf_ne _ _ (by decide)).trans (sOf_ne _ _ (by decide))
                          have e202_86 : (setO (setO w149_99 73 (fup (w149_99 73) 41 4)) 100 (fup (fup (fup (fup (w149_99 100) 0 ((h 73) 3)) 1 ((h 73) 4)) 2 l) 3 n)) 86 = w149_99 86 := (sOf_ne _ _ (by decide)).trans (sOf_ne _ _ (by decide))
                          have e203_73_2 : (setO (setO w149_99 73 (fup (w149_99 73) 41 4)) 100 (fup (fup (fup (fup (w149_99 100) 0 ((h 73) 3)) 1 ((h 73) 4)) 2 l) 3 n)) 73 2 = (w149_99 73) 2 := rd_ ((sOf_ne _ _ (by decide)).trans (sOf_eq _ _ _)) (fup_ne _ _ (by decide))
                          exact L243_109 ((((4 : Int) - 1).toNat) + 1) 1 (((w149_99 83), (w149_99 92), (w149_99 80), (w149_99 81), fun c i => (w149_99 89) ((w149_99 90) c + i)) : DT_) (setO (setO w149_99 73 (fup (w149_99 73) 41 4)) 100 (fup (fup (fup (fup (w149_99 100) 0 ((h 73) 3)) 1 ((h 73) 4)) 2 l) 3 n)) hT_108 hF_108 (by first | omega | (simp [up, setR] <;> omega)) (by rewrite [e168_73_18]; first | omega | (simp [up, setR] <;> omega)) (by rewrite [e169_90, e170_91]; exact hmi) (by rewrite [e171_83, e172_91, e173_92]; rw [show 3 * l + 1 = b by omega]; exact hlq) (by rewrite [e174_91]; rw [show 3 * l + 1 = b by omega]; omega) (by rewrite [e175_83, e176_86]; intro h1; exact TKQ_0 (fun j h2 h3 => hbt j h2 h3) (fun j h2 h3 => (ty_83 (i := j) (v := w149_99 83 j) hT_108 rfl h2 (by omega)).1.1) (by omega)) (by rewrite [e177_73_41, e178_86, e179_92]; first | omega | (simp [up, setR] <;> omega)) (by rewrite [e180_80]; exact hbw) (by rewrite [e181_81]; exact hbh) (by rewrite [e182_84, e183_85]; first | exact (fun b2 x2 y2 g1 g2 => hnq b2 x2 y2 g1 (by omega))) (by rewrite [e184_83, e185_89, e186_90, e187_91]; first | exact hcw | (rw [show 3 * l + 1 = b by omega]; exact hcw)) (by rewrite [e188_83, e189_89, e190_90, e191_92]; first | exact hlx | (rw [show 3 * l + 1 = b by omega]; exact hlx)) (by rewrite [e192_80, e193_81, e194_83, e195_89, e196_90, e197_92]; rfl) (by rewrite [e198_91]; exact h910) (by rewrite [e199_100, e200_73_41]; exact ⟨RBR_h rfl ⟨_, rfl⟩, (y0S_q _ _ _ _).1⟩) (by rewrite [e201_88]; exact PKW_0 h88) (by rewrite [e202_86]; intro j j0 j1; rw [hbt j j0 j1, show (1 : Int) - 1 = 0 from rfl, tkF_0]) (by rewrite [e203_73_2]; first | omega | (simp [up, setR] <;> omega)) (Nat.lt_succ_self _)
                        · have ia : IS (AR (h 73 3) (h 73 4) l) (b + 1) = IS (AR (h 73 3) (h 73 4) l) b + BW (h 73 3) l b * BH (h 73 4) l b := IS_s (by omega)
                          have iaR := ARb (w := (h 73 3)) (e := (h 73 4)) (l := l) (c := b + 1) (by omega) (by omega) (by omega) (by omega)
                          refine TT_aload_n hK rfl 0 rfl dX12_encode_158 ?_
                          refine TT_iload hK 4 rfl dX12_encode_159 ?_
                          refine TT_iload hK 4 rfl dX12_encode_161 ?_
                          refine TT_aload_n hK rfl 0 rfl dX12_encode_163 ?_
                          refine gf_X12_16 hK (by decide) rfl (v := (h 73) 3) (hF149_99.2 3 (by decide)) dX12_encode_164 ?_
                          have r204 := ty_73_3 (v := (h 73) 3) hT149_99 (hF149_99.2 3 (by decide))
                          refine TT_aload_n hK rfl 0 rfl dX12_encode_167 ?_
                          refine gf_X12_20 hK (by decide) rfl (v := (h 73) 4) (hF149_99.2 4 (by decide)) dX12_encode_168 ?_
                          have r205 := ty_73_4 (v := (h 73) 4) hT149_99 (hF149_99.2 4 (by decide))
                          refine TT_iload_n hK rfl 1 rfl dX12_encode_171 ?_
                          refine iv_X12_348 hK (s_corner_z b ((h 73) 3) ((h 73) 4) l w149_99 hT149_99 (by first | omega | (simp [up, setR] <;> omega)) (by first | omega | (simp [up, setR] <;> omega)) (by first | omega | (simp [up, setR] <;> omega)) (by first | omega | (simp [up, setR] <;> omega))) ⟨by decide, by decide⟩ (by decide) rfl rfl (Nat.le_of_ble_eq_true rfl) ⟨by decide, by decide⟩ dX12_encode_172 ?_
                          intro r9 g172_206 hp9
                          obtain ⟨⟨hT_206, hG_206⟩, z172_206, hr9, hz_206, p1_206, p2_206⟩ := hp9
                          rw [hr9]
                          have hF_206 : FRM [73, 77, 78, 79, 80, 81, 82, 83, 84, 85, 86, 87, 88, 89, 90, 91, 92, 93, 94, 95, 96, 97, 98, 99, 100] [2, 18, 26, 27, 28, 29, 32, 33, 34, 36, 38, 39, 41, 42, 43] h g172_206 := FRM_tr hF149_99 hG_206 (by decide) (by decide)
                          have p1_at172 := p1_206
                          have p2_at172 := p2_206
                          show TT K ly 0 0 175 [(0, vR 73), (1, vI l), (2, vI n), (3, vI f), (4, vI b)] [vI z172_206, vI b, vR 73] g172_206
                          have e207_80 : g172_206 80 = w149_99 80 := (hG_206.1 80 (by decide))
                          have e208_81 : g172_206 81 = w149_99 81 := (hG_206.1 81 (by decide))
                          have e209_77 : g172_206 77 = w149_99 77 := (hG_206.1 77 (by decide))
                          refine iv_X12_352 hK (s_loadBand_z b z172_206 g172_206 hT_206 (by first | omega | (simp [up, setR] <;> omega)) (by rewrite [e207_80, e208_81]; rw [hbw b (by omega) (by omega), hbh b (by omega) (by omega)]; exact p1_at172) (by rewrite [e209_77]; exact hsq)) (by decide) rfl ⟨by decide, by decide⟩ (by decide) rfl rfl (Nat.le_of_ble_eq_true rfl) ⟨by decide, by decide⟩ dX12_encode_175 ?_
                          intro r9 g175_210 hp9
                          obtain ⟨⟨hT_210, hG_210⟩, hr9, lx_210, lo_210, ly_210, lz_210⟩ := hp9
                          rw [hr9]
                          have hF_210 : FRM [73, 77, 78, 79, 80, 81, 82, 83, 84, 85, 86, 87, 88, 89, 90, 91, 92, 93, 94, 95, 96, 97, 98, 99, 100] [2, 18, 26, 27, 28, 29, 32, 33, 34, 36, 38, 39, 41, 42, 43] h g175_210 := FRM_tr hF_206 hG_210 (by decide) (by decide)
                          rw [show g172_206 77 = w149_99 77 from (hG_206.1 77 (by decide))] at lx_210
                          rw [show g172_206 80 = w149_99 80 from (hG_206.1 80 (by decide))] at lx_210
                          rw [show g172_206 81 = w149_99 81 from (hG_206.1 81 (by decide))] at lx_210
                          rw [show g172_206 84 = w149_99 84 from (hG_206.1 84 (by decide))] at lo_210
                          rw [show g172_206 85 = w149_99 85 from (hG_206.1 85 (by decide))] at lo_210
                          rw [show g172_206 77 = w149_99 77 from (hG_206.1 77 (by decide))] at ly_210
                          rw [show g172_206 80 = w149_99 80 from (hG_206.1 80 (by decide))] at ly_210
                          rw [show g172_206 81 = w149_99 81 from (hG_206.1 81 (by decide))] at ly_210
                          rw [show g172_206 80 = w149_99 80 from (hG_206.1 80 (by decide))] at lz_210
                          rw [show g172_206 81 = w149_99 81 from (hG_206.1 81 (by decide))] at lz_210
                          rw [show g172_206 84 = w149_99 84 from (hG_206.1 84 (by decide))] at lz_210
                          have lx_at175 := lx_210
                          have lo_at175 := lo_210
                          have ly_at175 := ly_210
                          have lz_at175 := lz_210
                          show TT K ly 0 0 178 [(0, vR 73), (1, vI l), (2, vI n), (3, vI f), (4, vI b)] [] g175_210
                          refine TT_aload_n hK rfl 0 rfl dX12_encode_178 ?_
                          refine TT_iload hK 4 rfl dX12_encode_179 ?_
                          refine TT_iload_n hK rfl 3 rfl dX12_encode_181 ?_
                          have hwr := BWr rW hll b ⟨by omega, by omega⟩
                          have hhr := BHr rH hll b ⟨by omega, by omega⟩
                          have hci := CXr rW rH hll b ⟨by omega, by omega⟩
                          have hva : (0 ≤ l ∧ l ≤ 3) ∧ (1 ≤ n ∧ n ≤ 3) := by omega
                          have e211_80 : g175_210 80 = w149_99 80 := ((hG_210.1 80 (by decide))).trans (hG_206.1 80 (by decide))
                          have e212_81 : g175_210 81 = w149_99 81 := ((hG_210.1 81 (by decide))).trans (hG_206.1 81 (by decide))
                          have e213_74 : g175_210 74 = h 74 := ((hG_210.1 74 (by decide))).trans (((hG_206.1 74 (by decide))).trans (hF149_99.1 74 (by decide)))
                          have e214_75 : g175_210 75 = h 75 := ((hG_210.1 75 (by decide))).trans (((hG_206.1 75 (by decide))).trans (hF149_99.1 75 (by decide)))
                          have e215_90 : g175_210 90 = w149_99 90 := ((hG_210.1 90 (by decide))).trans (hG_206.1 90 (by decide))
                          have e216_91 : g175_210 91 = w149_99 91 := ((hG_210.1 91 (by decide))).trans (hG_206.1 91 (by decide))
                          have e217_83 : g175_210 83 = w149_99 83 := ((hG_210.1 83 (by decide))).trans (hG_206.1 83 (by decide))
                          have e218_91 : g175_210 91 = w149_99 91 := ((hG_210.1 91 (by decide))).trans (hG_206.1 91 (by decide))
                          have e219_92 : g175_210 92 = w149_99 92 := ((hG_210.1 92 (by decide))).trans (hG_206.1 92 (by decide))
                          have e220_80 : g175_210 80 = w149_99 80 := ((hG_210.1 80 (by decide))).trans (hG_206.1 80 (by decide))
                          have e221_81 : g175_210 81 = w149_99 81 := ((hG_210.1 81 (by decide))).trans (hG_206.1 81 (by decide))
                          refine iv_X12_355 hK (s_tellBand_y (Mf b) (sf b) b f g175_210 hT_210 (by first | omega | (simp [up, setR] <;> omega)) (by rewrite [e211_80, e212_81]; rw [hbw b (by omega) (by omega), hbh b (by omega) (by omega)]; omega) (by rewrite [e213_74, e214_75]; first | assumption | exact htb) (by rewrite [e215_90, e216_91]; first | assumption | exact hmi) (by rewrite [e217_83, e218_91, e219_92]; first | assumption | exact hlq) (by exact hsf b) (by rewrite [e220_80, e221_81]; exact ENC_ms hwr hhr hci hx3 p2_at172 ly_at175 (hbw b (by omega) (by omega)) (hbh b (by omega) (by omega)) (hmf hva b (by omega) (by omega)))) (by decide) rfl ⟨by decide, by decide⟩ (by decide) rfl rfl (Nat.le_of_ble_eq_true rfl) ⟨by decide, by decide⟩ dX12_encode_182 ?_
                          intro r9 g182_222 hp9
                          obtain ⟨⟨hT_222, hG_222⟩, hr9, q1_222, q2_222, q3_222, q4_222, pk_222, c1_222, c2_222, c3_222, c4_222, c5_222, c6_222, c7_222, c8_222⟩ := hp9
                          rw [hr9]
                          have hF_222 : FRM [73, 77, 78, 79, 80, 81, 82, 83, 84, 85, 86, 87, 88, 89, 90, 91, 92, 93, 94, 95, 96, 97, 98, 99, 100] [2, 18, 26, 27, 28, 29, 32, 33, 34, 36, 38, 39, 41, 42, 43] h g182_222 := FRM_tr hF_210 hG_222 (by decide) (by decide)
                          rw [show g175_210 80 = w149_99 80 from ((hG_210.1 80 (by decide))).trans (hG_206.1 80 (by decide))] at q1_222
                          rw [show g175_210 81 = w149_99 81 from ((hG_210.1 81 (by decide))).trans (hG_206.1 81 (by decide))] at q1_222
                          rw [show g175_210 91 = w149_99 91 from ((hG_210.1 91 (by decide))).trans (hG_206.1 91 (by decide))] at q4_222
                          rw [show g175_210 80 = w149_99 80 from ((hG_210.1 80 (by decide))).trans (hG_206.1 80 (by decide))] at c1_222
                          rw [show g175_210 81 = w149_99 81 from ((hG_210.1 81 (by decide))).trans (hG_206.1 81 (by decide))] at c1_222
                          rw [show g175_210 82 = w149_99 82 from ((hG_210.1 82 (by decide))).trans (hG_206.1 82 (by decide))] at c1_222
                          rw [show g175_210 89 = w149_99 89 from ((hG_210.1 89 (by decide))).trans (hG_206.1 89 (by decide))] at c3_222
                          rw [show g175_210 90 = w149_99 90 from ((hG_210.1 90 (by decide))).trans (hG_206.1 90 (by decide))] at c4_222
                          rw [show g175_210 83 = w149_99 83 from ((hG_210.1 83 (by decide))).trans (hG_206.1 83 (by decide))] at c5_222
                          rw [show g175_210 80 = w149_99 80 from ((hG_210.1 80 (by decide))).trans (hG_206.1 80 (by decide))] at c6_222
                          rw [show g175_210 81 = w149_99 81 from ((hG_210.1 81 (by decide))).trans (hG_206.1 81 (by decide))] at c6_222
                          rw [show g175_210 82 = w149_99 82 from ((hG_210.1 82 (by decide))).trans (hG_206.1 82 (by decide))] at c6_222
                          rw [show g175_210 92 = w149_99 92 from ((hG_210.1 92 (by decide))).trans (hG_206.1 92 (by decide))] at c7_222
                          have q1_at182 := q1_222
                          have q2_at182 := q2_222
                          have q3_at182 := q3_222
                          have q4_at182 := q4_222
                          have pk_at182 := pk_222
                          have c1_at182 := c1_222
                          have c2_at182 := c2_222
                          have c3_at182 := c3_222
                          have c4_at182 := c4_222
                          have c5_at182 := c5_222
                          have c6_at182 := c6_222
                          have c7_at182 := c7_222
                          have c8_at182 := c8_222
                          show TT K ly 0 0 185 [(0, vR 73), (1, vI l), (2, vI n), (3, vI f), (4, vI b)] [] g182_222
                          refine TT_iload_n hK rfl 3 rfl dX12_encode_185 ?_
                          refine TT_aload_n hK rfl 0 rfl dX12_encode_186 ?_
                          refine gf_X12_69 hK (by decide) rfl (q := 91) rfl rfl dX12_encode_187 ?_
                          refine TT_iload hK 4 rfl dX12_encode_190 ?_
                          refine TT_iald hK (o := 91) (n := 10) (by decide) rfl (by first | omega | (simp [up, setR] <;> omega)) (by first | omega | (simp [up, setR] <;> omega)) (v := (g182_222 91) b) rfl dX12_encode_192 ?_
                          have r223 := ty_91 (i := b) (v := (g182_222 91) b) hT_222 rfl (by omega) (by omega)
                          refine TT_iadd hK dX12_encode_193 ?_
                          refine TT_istore_n hK rfl (lv' := [(3, vI (f + ((g182_222 91) b))), (0, vR 73), (1, vI l), (2, vI n), (4, vI b)]) (by decide) rfl dX12_encode_194 ?_
                          refine TT_iinc hK (v := b + 1) (lv' := [(4, vI (b + 1)), (3, vI (f + ((g182_222 91) b))), (0, vR 73), (1, vI l), (2, vI n)]) 4 rfl rfl (by decide) rfl dX12_encode_195 ?_
                          refine TT_goto hK (tgt := 149) dX12_encode_198 (by decide) ?_
                          refine TT_sub [2, 3, 4, 1, 0] rfl ?_
                          have e224_73_18 : g182_222 73 18 = (w149_99 73) 18 := ((hG_222.2 18 (by decide))).trans ((congrFun (hG_210.1 73 (by decide)) 18).trans (congrFun (hG_206.1 73 (by decide)) 18))
                          have e225_77 : g182_222 77 = w149_99 77 := ((hG_222.1 77 (by decide))).trans (((hG_210.1 77 (by decide))).trans (hG_206.1 77 (by decide)))
                          have e226_80 : g182_222 80 = w149_99 80 := ((hG_222.1 80 (by decide))).trans (((hG_210.1 80 (by decide))).trans (hG_206.1 80 (by decide)))
                          have e227_81 : g182_222 81 = w149_99 81 := ((hG_222.1 81 (by decide))).trans (((hG_210.1 81 (by decide))).trans (hG_206.1 81 (by decide)))
                          have e228_86 : g182_222 86 = w149_99 86 := ((hG_222.1 86 (by decide))).trans (((hG_210.1 86 (by decide))).trans (hG_206.1 86 (by decide)))
                          have e229_77 : g182_222 77 = w149_99 77 := ((hG_222.1 77 (by decide))).trans (((hG_210.1 77 (by decide))).trans (hG_206.1 77 (by decide)))
                          have e230_84 : g182_222 84 = g175_210 84 := (hG_222.1 84 (by decide))
                          have e231_82 : g182_222 82 = w149_99 82 := ((hG_222.1 82 (by decide))).trans (((hG_210.1 82 (by decide))).trans (hG_206.1 82 (by decide)))
                          have e232_84 : g182_222 84 = g175_210 84 := (hG_222.1 84 (by decide))
                          have e233_88 : g182_222 88 = w149_99 88 := ((hG_222.1 88 (by decide))).trans (((hG_210.1 88 (by decide))).trans (hG_206.1 88 (by decide)))
                          have e234_73_2 : g182_222 73 2 = (w149_99 73) 2 := ((hG_222.2 2 (by decide))).trans ((congrFun (hG_210.1 73 (by decide)) 2).trans (congrFun (hG_206.1 73 (by decide)) 2))
                          have ib : IS (g182_222 91) (b + 1) = IS (g182_222 91) b + (g182_222 91) b := IS_s (by omega)
                          have ic := IS_eq (f := g182_222 91) (c := b) (fun k h1 h2 => q4_at182 k (by omega))
                          rw [hbw b (by omega) (by omega), hbh b (by omega) (by omega)] at q1_at182
                          exact ih99 (f + ((g182_222 91) b)) (b + 1) g182_222 hT_222 hF_222 (by first | omega | (simp [up, setR] <;> omega)) (by rewrite [e224_73_18]; first | omega | (simp [up, setR] <;> omega)) (by rewrite [e225_77]; exact hsq) (by rewrite [e226_80]; exact hbw) (by rewrite [e227_81]; exact hbh) (by rewrite [e228_86]; exact hbt) (by exact q2_at182) (by exact q3_at182) (by first | omega | (simp [up, setR] <;> omega)) (by omega) (by rewrite [e229_77]; exact hx3) (by rewrite [e230_84]; intro b2 x2 y2 g1 g2 g3 g4 g5 g6; have fx := BWr rW hll b2 ⟨g1, by omega⟩; have fy := BHr rH hll b2 ⟨g1, by omega⟩; have fc := CXr rW rH hll b2 ⟨g1, by omega⟩; have pk := pk_at182 (64 * b2 + 8 * y2 + x2) (by omega); rw [pk.2]; by_cases e : b2 = b; (rw [e] at g4 g6 fc ⊢; rw [lx_at175 x2 y2 g3 (by rw [hbw _ (by omega) (by omega)]; exact g4) g5 (by rw [hbh _ (by omega) (by omega)]; exact g6), p2_at172]; exact hx3 _ (by omega) (by omega)); (have lo := lo_at175 (64 * b2 + 8 * y2 + x2) (by omega); rw [lo.1, lo.2]; exact hnq b2 x2 y2 g1 (by omega) g3 g4 g5 g6)) (by rewrite [e231_82]; exact hbk) (by rewrite [e232_84]; intro j h1 h2; rw [(lo_at175 j (by omega)).1]; exact hzz j (by omega) h2) (by rw [c4_at182]; exact CWQ_s hcw c5_at182 q4_at182 c3_at182 hca (ENC_c1 c1_at182 (hbw b (by omega) (by omega)) (hbh b (by omega) (by omega)) (hbk b (by omega) (by omega))) (ENC_pl c2_at182 ly_at175 lz_at175 (fun x y g1 g2 g3 g4 => hzz _ (by omega) (by omega)) hwr hhr hci hx3 p2_at172 (hbw b (by omega) (by omega)) (hbh b (by omega) (by omega)))) (by intro c c1 c2; rw [c4_at182]; by_cases e : c = b; (rw [e, fup_eq]; omega); (rw [fup_ne _ _ e, q4_at182 c e]; have k9 := hca c c1 (by omega); omega)) (by rw [c4_at182]; exact LXQ_s hlx hcw hsf c5_at182 c3_at182 hca c7_at182 (ENC_lx c6_at182 (hbw b (by omega) (by omega)) (hbh b (by omega) (by omega)) (hbk b (by omega) (by omega))) c8_at182) (by rewrite [e233_88]; exact h88) (by rewrite [e234_73_2]; first | omega | (simp [up, setR] <;> omega)) (by first | omega | (simp [up, setR] <;> omega))
                    refine TT_sub [2, 3, 4, 1, 0] rfl ?_
                    have e235_73_18 : (setO g132_97 73 (fup (w68_93 73) 18 ((3 * l) + 1))) 73 18 = (3 * l) + 1 := rd_ (sOf_eq _ _ _) (fup_eq _ _ _)
                    have e236_77 : (setO g132_97 73 (fup (w68_93 73) 18 ((3 * l) + 1))) 77 = w68_93 77 := (sOf_ne _ _ (by decide)).trans (hG_97.1 77 (by decide))
                    have e237_80 : (setO g132_97 73 (fup (w68_93 73) 18 ((3 * l) + 1))) 80 = g132_97 80 := sOf_ne _ _ (by decide)
                    have e238_81 : (setO g132_97 73 (fup (w68_93 73) 18 ((3 * l) + 1))) 81 = g132_97 81 := sOf_ne _ _ (by decide)
                    have e239_86 : (setO g132_97 73 (fup (w68_93 73) 18 ((3 * l) + 1))) 86 = g132_97 86 := sOf_ne _ _ (by decide)
                    have e240_90 : (setO g132_97 73 (fup (w68_93 73) 18 ((3 * l) + 1))) 90 = w68_93 90 := (sOf_ne _ _ (by decide)).trans (hG_97.1 90 (by decide))
                    have e241_91 : (setO g132_97 73 (fup (w68_93 73) 18 ((3 * l) + 1))) 91 = w68_93 91 := (sOf_ne _ _ (by decide)).trans (hG_97.1 91 (by decide))
                    have e242_83 : (setO g132_97 73 (fup (w68_93 73) 18 ((3 * l) + 1))) 83 = g132_97 83 := sOf_ne _ _ (by decide)
                    have e243_91 : (setO g132_97 73 (fup (w68_93 73) 18 ((3 * l) + 1))) 91 = w68_93 91 := (sOf_ne _ _ (by decide)).trans (hG_97.1 91 (by decide))
                    have e244_92 : (setO g132_97 73 (fup (w68_93 73) 18 ((3 * l) + 1))) 92 = w68_93 92 := (sOf_ne _ _ (by decide)).trans (hG_97.1 92 (by decide))
                    have e245_91 : (setO g132_97 73 (fup (w68_93 73) 18 ((3 * l) + 1))) 91 = w68_93 91 := (sOf_ne _ _ (by decide)).trans (hG_97.1 91 (by decide))
                    have e246_77 : (setO g132_97 73 (fup (w68_93 73) 18 ((3 * l) + 1))) 77 = w68_93 77 := (sOf_ne _ _ (by decide)).trans (hG_97.1 77 (by decide))
                    have e247_84 : (setO g132_97 73 (fup (w68_93 73) 18 ((3 * l) + 1))) 84 = g132_97 84 := sOf_ne _ _ (by decide)
                    have e248_85 : (setO g132_97 73 (fup (w68_93 73) 18 ((3 * l) + 1))) 85 = g132_97 85 := sOf_ne _ _ (by decide)
                    have e249_82 : (setO g132_97 73 (fup (w68_93 73) 18 ((3 * l) + 1))) 82 = g132_97 82 := sOf_ne _ _ (by decide)
                    have e250_84 : (setO g132_97 73 (fup (w68_93 73) 18 ((3 * l) + 1))) 84 = g132_97 84 := sOf_ne _ _ (by decide)
                    have e251_83 : (setO g132_97 73 (fup (w68_93 73) 18 ((3 * l) + 1))) 83 = g132_97 83 := sOf_ne _ _ (by decide)
                    have e252_89 : (setO g132_97 73 (fup (w68_93 73) 18 ((3 * l) + 1))) 89 = w68_93 89 := (sOf_ne _ _ (by decide)).trans (hG_97.1 89 (by decide))
                    have e253_90 : (setO g132_97 73 (fup (w68_93 73) 18 ((3 * l) + 1))) 90 = w68_93 90 := (sOf_ne _ _ (by decide)).trans (hG_97.1 90 (by decide))
                    have e254_91 : (setO g132_97 73 (fup (w68_93 73) 18 ((3 * l) + 1))) 91 = w68_93 91 := (sOf_ne _ _ (by decide)).trans (hG_97.1 91 (by decide))
                    have e255_90 : (setO g132_97 73 (fup (w68_93 73) 18 ((3 * l) + 1))) 90 = w68_93 90 := (sOf_ne _ _ (by decide)).trans (hG_97.1 90 (by decide))
                    have e256_91 : (setO g132_97 73 (fup (w68_93 73) 18 ((3 * l) + 1))) 91 = w68_93 91 := (sOf_ne _ _ (by decide)).trans (hG_97.1 91 (by decide))
                    have e257_83 : (setO g132_97 73 (fup (w68_93 73) 18 ((3 * l) + 1))) 83 = g132_97 83 := sOf_ne _ _ (by decide)
                    have e258_89 : (setO g132_97 73 (fup (w68_93 73) 18 ((3 * l) + 1))) 89 = w68_93 89 := (sOf_ne _ _ (by decide)).trans (hG_97.1 89 (by decide))
                    have e259_90 : (setO g132_97 73 (fup (w68_93 73) 18 ((3 * l) + 1))) 90 = w68_93 90 := (sOf_ne _ _ (by decide)).trans (hG_97.1 90 (by decide))
                    have e260_92 : (setO g132_97 73 (fup (w68_93 73) 18 ((3 * l) + 1))) 92 = w68_93 92 := (sOf_ne _ _ (by decide)).trans (hG_97.1 92 (by decide))
                    have e261_88 : (setO g132_97 73 (fup (w68_93 73) 18 ((3 * l) + 1))) 88 = g132_97 88 := sOf_ne _ _ (by decide)
                    have e262_73_2 : (setO g132_97 73 (fup (w68_93 73) 18 ((3 * l) + 1))) 73 2 = (w68_93 73) 2 := rd_ (sOf_eq _ _ _) (fup_ne _ _ (by decide))
                    have i0 : IS (AR (h 73 3) (h 73 4) l) 0 = 0 := rfl
                    exact L149_99 ((((10 : Int) - 0).toNat) + 1) 0 0 (setO g132_97 73 (fup (w68_93 73) 18 ((3 * l) + 1))) hT_98 hF_98 (by first | omega | (simp [up, setR] <;> omega)) (by rewrite [e235_73_18]; first | omega | (simp [up, setR] <;> omega)) (by rewrite [e236_77]; intro i h1 h2; exact (hLV i h1 h2).1) (by rewrite [e237_80]; intro j h1 h2; have k9 := q1_at132 j h1 h2; rw [Int.zero_add] at k9; exact k9) (by rewrite [e238_81]; intro j h1 h2; have k9 := q2_at132 j h1 h2; rw [Int.zero_add] at k9; exact k9) (by rewrite [e239_86]; intro j h1 h2; have k9 := q3_at132 j h1 h2; rw [Int.zero_add] at k9; exact k9) (by rewrite [e240_90, e241_91]; exact hmi) (by rewrite [e242_83, e243_91, e244_92]; intro j h1 h2; exfalso; omega) (by first | omega | (simp [up, setR] <;> omega)) (by rewrite [e245_91]; exact rfl) (by rewrite [e246_77]; intro i h1 h2; rw [hxq i h1 h2, show lv = l by omega]) (by rewrite [e247_84, e248_85]; intro b2 x2 y2 g1 g2; exfalso; omega) (by rewrite [e249_82]; intro j h1 h2; have k9 := q7_at132 j h1 h2; rw [Int.zero_add] at k9; exact k9) (by rewrite [e250_84]; intro j h1 h2; exact q8_at132 rfl j (by omega) h2) (by rewrite [e251_83, e252_89, e253_90, e254_91]; intro c c1 c2; exfalso; omega) (by rewrite [e255_90, e256_91]; intro c c1 c2; exfalso; omega) (by rewrite [e257_83, e258_89, e259_90, e260_92]; intro c c1 c2; exfalso; omega) (by rewrite [e261_88]; intro j h1 h2; have k9 := q11_at132 j h1 h2; rw [Int.zero_add] at k9; exact k9) (by rewrite [e262_73_2]; first | omega | (simp [up, setR] <;> omega)) (Nat.lt_succ_self _)
                  · refine TT_aload_n hK rfl 0 rfl dX12_encode_73 ?_
                    refine TT_aload_n hK rfl 0 rfl dX12_encode_74 ?_
                    refine gf_X12_16 hK (by decide) rfl (v := (h 73) 3) (hF68_93.2 3 (by decide)) dX12_encode_75 ?_
                    have r263 := ty_73_3 (v := (h 73) 3) hT68_93 (hF68_93.2 3 (by decide))
                    refine TT_iload_n hK rfl 3 rfl dX12_encode_78 ?_
                    refine iv_X12_153 hK (s_left_x ((h 73) 3) lv w68_93 hT68_93 (by first | omega | (simp [up, setR] <;> omega)) (by first | omega | (simp [up, setR] <;> omega))) ⟨by decide, by decide⟩ (by decide) rfl rfl (Nat.le_of_ble_eq_true rfl) ⟨by decide, by decide⟩ dX12_encode_79 ?_
                    intro r9 g79_264 hp9
                    obtain ⟨⟨hT_264, hG_264⟩, z79_264, hr9, hz_264, p1_264⟩ := hp9
                    rw [hr9]
                    have hF_264 : FRM [73, 77, 78, 79, 80, 81, 82, 83, 84, 85, 86, 87, 88, 89, 90, 91, 92, 93, 94, 95, 96, 97, 98, 99, 100] [2, 18, 26, 27, 28, 29, 32, 33, 34, 36, 38, 39, 41, 42, 43] h g79_264 := FRM_tr hF68_93 hG_264 (by decide) (by decide)
                    have p1_at79 := p1_264
                    show TT K ly 0 0 82 [(0, vR 73), (1, vI l), (2, vI n), (3, vI lv)] [vI z79_264, vR 73] g79_264
                    refine TT_aload_n hK rfl 0 rfl dX12_encode_82 ?_
                    refine gf_X12_20 hK (by decide) rfl (v := (h 73) 4) ((congrFun (hG_264.1 73 (by decide)) 4).trans (hF68_93.2 4 (by decide))) dX12_encode_83 ?_
                    have r265 := ty_73_4 (v := (h 73) 4) hT_264 ((congrFun (hG_264.1 73 (by decide)) 4).trans (hF68_93.2 4 (by decide)))
                    refine TT_iload_n hK rfl 3 rfl dX12_encode_86 ?_
                    refine iv_X12_153 hK (s_left_x ((h 73) 4) lv g79_264 hT_264 (by first | omega | (simp [up, setR] <;> omega)) (by first | omega | (simp [up, setR] <;> omega))) ⟨by decide, by decide⟩ (by decide) rfl rfl (Nat.le_of_ble_eq_true rfl) ⟨by decide, by decide⟩ dX12_encode_87 ?_
                    intro r9 g87_266 hp9
                    obtain ⟨⟨hT_266, hG_266⟩, z87_266, hr9, hz_266, p1_266⟩ := hp9
                    rw [hr9]
                    have hF_266 : FRM [73, 77, 78, 79, 80, 81, 82, 83, 84, 85, 86, 87, 88, 89, 90, 91, 92, 93, 94, 95, 96, 97, 98, 99, 100] [2, 18, 26, 27, 28, 29, 32, 33, 34, 36, 38, 39, 41, 42, 43] h g87_266 := FRM_tr hF_264 hG_266 (by decide) (by decide)
                    have p1_at87 := p1_266
                    show TT K ly 0 0 90 [(0, vR 73), (1, vI l), (2, vI n), (3, vI lv)] [vI z87_266, vI z79_264, vR 73] g87_266
                    refine TT_iconst hK dX12_encode_90 ?_
                    have e267_77 : g87_266 77 = w68_93 77 := ((hG_266.1 77 (by decide))).trans (hG_264.1 77 (by decide))
                    refine iv_X12_335 hK (s_columnsx z79_264 z87_266 g87_266 hT_266 (by first | omega | (simp [up, setR] <;> omega)) (by first | omega | (simp [up, setR] <;> omega)) (by rewrite [e267_77]; intro i h1 h2; exact (hLV i h1 h2).1)) (by decide) rfl ⟨by decide, by decide⟩ (by decide) rfl rfl (Nat.le_of_ble_eq_true rfl) ⟨by decide, by decide⟩ dX12_encode_91 ?_
                    intro r9 g91_268 hp9
                    obtain ⟨⟨hT_268, hG_268⟩, hr9, p1_268⟩ := hp9
                    rw [hr9]
                    have hF_268 : FRM [73, 77, 78, 79, 80, 81, 82, 83, 84, 85, 86, 87, 88, 89, 90, 91, 92, 93, 94, 95, 96, 97, 98, 99, 100] [2, 18, 26, 27, 28, 29, 32, 33, 34, 36, 38, 39, 41, 42, 43] h g91_268 := FRM_tr hF_266 hG_268 (by decide) (by decide)
                    rw [show g87_266 77 = w68_93 77 from ((hG_266.1 77 (by decide))).trans (hG_264.1 77 (by decide))] at p1_268
                    have p1_at91 := p1_268
                    show TT K ly 0 0 94 [(0, vR 73), (1, vI l), (2, vI n), (3, vI lv)] [] g91_268
                    refine TT_aload_n hK rfl 0 rfl dX12_encode_94 ?_
                    refine TT_aload_n hK rfl 0 rfl dX12_encode_95 ?_
                    refine gf_X12_16 hK (by decide) rfl (v := (h 73) 3) ((congrFun (hG_268.1 73 (by decide)) 3).trans ((congrFun (hG_266.1 73 (by decide)) 3).trans ((congrFun (hG_264.1 73 (by decide)) 3).trans (hF68_93.2 3 (by decide))))) dX12_encode_96 ?_
                    refine TT_iload_n hK rfl 3 rfl dX12_encode_99 ?_
                    refine iv_X12_153 hK (s_left_x ((h 73) 3) lv g91_268 hT_268 (by first | omega | (simp [up, setR] <;> omega)) (by first | omega | (simp [up, setR] <;> omega))) ⟨by decide, by decide⟩ (by decide) rfl rfl (Nat.le_of_ble_eq_true rfl) ⟨by decide, by decide⟩ dX12_encode_100 ?_
                    intro r9 g100_269 hp9
                    obtain ⟨⟨hT_269, hG_269⟩, z100_269, hr9, hz_269, p1_269⟩ := hp9
                    rw [hr9]
                    have hF_269 : FRM [73, 77, 78, 79, 80, 81, 82, 83, 84, 85, 86, 87, 88, 89, 90, 91, 92, 93, 94, 95, 96, 97, 98, 99, 100] [2, 18, 26, 27, 28, 29, 32, 33, 34, 36, 38, 39, 41, 42, 43] h g100_269 := FRM_tr hF_268 hG_269 (by decide) (by decide)
                    have p1_at100 := p1_269
                    show TT K ly 0 0 103 [(0, vR 73), (1, vI l), (2, vI n), (3, vI lv)] [vI z100_269, vR 73] g100_269
                    refine TT_aload_n hK rfl 0 rfl dX12_encode_103 ?_
                    refine gf_X12_20 hK (by decide) rfl (v := (h 73) 4) ((congrFun (hG_269.1 73 (by decide)) 4).trans ((congrFun (hG_268.1 73 (by decide)) 4).trans ((congrFun (hG_266.1 73 (by decide)) 4).trans ((congrFun (hG_264.1 73 (by decide)) 4).trans (hF68_93.2 4 (by decide)))))) dX12_encode_104 ?_
                    refine TT_iload_n hK rfl 3 rfl dX12_encode_107 ?_
                    refine iv_X12_153 hK (s_left_x ((h 73) 4) lv g100_269 hT_269 (by first | omega | (simp [up, setR] <;> omega)) (by first | omega | (simp [up, setR] <;> omega))) ⟨by decide, by decide⟩ (by decide) rfl rfl (Nat.le_of_ble_eq_true rfl) ⟨by decide, by decide⟩ dX12_encode_108 ?_
                    intro r9 g108_270 hp9
                    obtain ⟨⟨hT_270, hG_270⟩, z108_270, hr9, hz_270, p1_270⟩ := hp9
                    rw [hr9]
                    have hF_270 : FRM [73, 77, 78, 79, 80, 81, 82, 83, 84, 85, 86, 87, 88, 89, 90, 91, 92, 93, 94, 95, 96, 97, 98, 99, 100] [2, 18, 26, 27, 28, 29, 32, 33, 34, 36, 38, 39, 41, 42, 43] h g108_270 := FRM_tr hF_269 hG_270 (by decide) (by decide)
                    have p1_at108 := p1_270
                    show TT K ly 0 0 111 [(0, vR 73), (1, vI l), (2, vI n), (3, vI lv)] [vI z108_270, vI z100_269, vR 73] g108_270
                    refine TT_iconst hK dX12_encode_111 ?_
                    have e271_77 : g108_270 77 = g91_268 77 := ((hG_270.1 77 (by decide))).trans (hG_269.1 77 (by decide))
                    refine iv_X12_339 hK (s_rowsx z100_269 z108_270 g108_270 hT_270 (by first | omega | (simp [up, setR] <;> omega)) (by first | omega | (simp [up, setR] <;> omega)) (by rewrite [e271_77]; intro i h1 h2; rw [p1_at91 i h1 h2, p1_at79, p1_at87]; exact (cEb l1 l2 (BL_r (by omega)) hLV h1 h2).1)) (by decide) rfl ⟨by decide, by decide⟩ (by decide) rfl rfl (Nat.le_of_ble_eq_true rfl) ⟨by decide, by decide⟩ dX12_encode_112 ?_
                    intro r9 g112_272 hp9
                    obtain ⟨⟨hT_272, hG_272⟩, hr9, p1_272⟩ := hp9
                    rw [hr9]
                    have hF_272 : FRM [73, 77, 78, 79, 80, 81, 82, 83, 84, 85, 86, 87, 88, 89, 90, 91, 92, 93, 94, 95, 96, 97, 98, 99, 100] [2, 18, 26, 27, 28, 29, 32, 33, 34, 36, 38, 39, 41, 42, 43] h g112_272 := FRM_tr hF_270 hG_272 (by decide) (by decide)
                    rw [show g108_270 77 = g91_268 77 from ((hG_270.1 77 (by decide))).trans (hG_269.1 77 (by decide))] at p1_272
                    have p1_at112 := p1_272
                    show TT K ly 0 0 115 [(0, vR 73), (1, vI l), (2, vI n), (3, vI lv)] [] g112_272
                    refine TT_iinc hK (v := lv + 1) (lv' := [(3, vI (lv + 1)), (0, vR 73), (1, vI l), (2, vI n)]) 3 rfl rfl (by decide) rfl dX12_encode_115 ?_
                    refine TT_goto hK (tgt := 68) dX12_encode_118 (by decide) ?_
                    refine TT_sub [1, 2, 3, 0] rfl ?_
                    have e273_90 : g112_272 90 = w68_93 90 := ((hG_272.1 90 (by decide))).trans (((hG_270.1 90 (by decide))).trans (((hG_269.1 90 (by decide))).trans (((hG_268.1 90 (by decide))).trans (((hG_266.1 90 (by decide))).trans (hG_264.1 90 (by decide))))))
                    have e274_91 : g112_272 91 = w68_93 91 := ((hG_272.1 91 (by decide))).trans (((hG_270.1 91 (by decide))).trans (((hG_269.1 91 (by decide))).trans (((hG_268.1 91 (by decide))).trans (((hG_266.1 91 (by decide))).trans (hG_264.1 91 (by decide))))))
                    have e275_73_2 : g112_272 73 2 = (w68_93 73) 2 := (congrFun (hG_272.1 73 (by decide)) 2).trans ((congrFun (hG_270.1 73 (by decide)) 2).trans ((congrFun (hG_269.1 73 (by decide)) 2).trans ((congrFun (hG_268.1 73 (by decide)) 2).trans ((congrFun (hG_266.1 73 (by decide)) 2).trans (congrFun (hG_264.1 73 (by decide)) 2)))))
                    exact ih93 (lv + 1) g112_272 hT_272 hF_272 (by rewrite [e273_90, e274_91]; exact hmi) (by first | omega | (simp [up, setR] <;> omega)) (by exact LV_n (by omega) rW rH hLV (fun t h1 h2 => (p1_at91 t h1 h2).trans (by rw [p1_at79, p1_at87])) (fun t h1 h2 => (p1_at112 t h1 h2).trans (by rw [p1_at100, p1_at108]))) (by exact LE_s (by omega) rW rH hxq (fun t h1 h2 => (p1_at91 t h1 h2).trans (by rw [p1_at79, p1_at87])) (fun t h1 h2 => (p1_at112 t h1 h2).trans (by rw [p1_at100, p1_at108]))) (by rewrite [e275_73_2]; first | omega | (simp [up, setR] <;> omega)) (by first | omega | (simp [up, setR] <;> omega))
              refine TT_sub [1, 2, 3, 0] rfl ?_
              have e276_73_2 : w38_91 73 2 = (w38_91 73) 2 := rfl
              exact L68_93 ((((3 : Int) - 0).toNat) + 1) 0 w38_91 hT38_91 hF38_91 (by exact hmi) (by first | omega | (simp [up, setR] <;> omega)) (by exact LV_0 (fun j h1 h2 => hs0 j h1 (by omega))) (by intro i h1 h2; exact hs1 i h1 (by omega)) (by rewrite [e276_73_2]; first | omega | (simp [up, setR] <;> omega)) (Nat.lt_succ_self _)
            · refine TT_aload_n hK rfl 0 rfl dX12_encode_44 ?_
              refine gf_X12_26 hK (by decide) rfl (q := 77) rfl rfl dX12_encode_45 ?_
              refine TT_iload_n hK rfl 3 rfl dX12_encode_48 ?_
              refine TT_aload_n hK rfl 0 rfl dX12_encode_49 ?_
              refine gf_X12_23 hK (by decide) rfl (q := 76) rfl rfl dX12_encode_50 ?_
              refine TT_iload_n hK rfl 3 rfl dX12_encode_53 ?_
              refine TT_iald hK (o := 76) (n := 64) (by decide) rfl (by first | omega | (simp [up, setR] <;> omega)) (by first | omega | (simp [up, setR] <;> omega)) (v := (h 76) k) (rd_ (hF38_91.1 76 (by decide)) rfl) dX12_encode_54 ?_
              have r277 := ty_76 (i := k) (v := (h 76) k) hT38_91 (rd_ (hF38_91.1 76 (by decide)) rfl) (by omega) (by omega)
              refine TT_sipush hK (by decide) dX12_encode_55 ?_
              refine TT_isub hK dX12_encode_58 ?_
              refine TT_iast hK (o := 77) (n := 64) (by decide) rfl (by omega) (by omega) dX12_encode_59 ?_
              refine TT_hp (h' := setO w38_91 77 (fup (w38_91 77) k (((h 76) k) - 128))) (up_can rfl rfl rfl) ?_
              have hT_278 : TY (setO w38_91 77 (fup (w38_91 77) k (((h 76) k) - 128))) := tu_77 hT38_91 (show up w38_91 77 k (((h 76) k) - 128) = (setO w38_91 77 (fup (w38_91 77) k (((h 76) k) - 128))) from up_can rfl rfl rfl) (by omega)
              have hF_278 : FRM [73, 77, 78, 79, 80, 81, 82, 83, 84, 85, 86, 87, 88, 89, 90, 91, 92, 93, 94, 95, 96, 97, 98, 99, 100] [2, 18, 26, 27, 28, 29, 32, 33, 34, 36, 38, 39, 41, 42, 43] h (setO w38_91 77 (fup (w38_91 77) k (((h 76) k) - 128))) := FRM_up (show up w38_91 77 k (((h 76) k) - 128) = (setO w38_91 77 (fup (w38_91 77) k (((h 76) k) - 128))) from up_can rfl rfl rfl) hF38_91 (by decide) (by decide)
              refine TT_iinc hK (v := k + 1) (lv' := [(3, vI (k + 1)), (0, vR 73), (1, vI l), (2, vI n)]) 3 rfl rfl (by decide) rfl dX12_encode_60 ?_
              refine TT_goto hK (tgt := 38) dX12_encode_63 (by decide) ?_
              refine TT_sub [1, 2, 3, 0] rfl ?_
              have e279_90 : (setO w38_91 77 (fup (w38_91 77) k (((h 76) k) - 128))) 90 = w38_91 90 := sOf_ne _ _ (by decide)
              have e280_91 : (setO w38_91 77 (fup (w38_91 77) k (((h 76) k) - 128))) 91 = w38_91 91 := sOf_ne _ _ (by decide)
              have e281_77 : (setO w38_91 77 (fup (w38_91 77) k (((h 76) k) - 128))) 77 = fup (w38_91 77) k (((h 76) k) - 128) := sOf_eq _ _ _
              have e282_77 : (setO w38_91 77 (fup (w38_91 77) k (((h 76) k) - 128))) 77 = fup (w38_91 77) k (((h 76) k) - 128) := sOf_eq _ _ _
              have e283_73_2 : (setO w38_91 77 (fup (w38_91 77) k (((h 76) k) - 128))) 73 2 = (w38_91 73) 2 := rd_ (sOf_ne _ _ (by decide)) rfl
              exact ih91 (k + 1) (setO w38_91 77 (fup (w38_91 77) k (((h 76) k) - 128))) hT_278 hF_278 (by rewrite [e279_90, e280_91]; exact hmi) (by first | omega | (simp [up, setR] <;> omega)) (by rewrite [e281_77]; intro j h1 h2; by_cases e : j = k; (rw [e, fup_eq]; omega); (rw [fup_ne _ _ e]; exact hs0 j h1 (by omega))) (by rewrite [e282_77]; intro j h1 h2; by_cases e : j = k; (rw [e, fup_eq]); (rw [fup_ne _ _ e]; exact hs1 j h1 (by omega))) (by rewrite [e283_73_2]; first | omega | (simp [up, setR] <;> omega)) (by first | omega | (simp [up, setR] <;> omega))
        refine TT_sub [1, 2, 3, 0] rfl ?_
        have e284_90 : (setO g13_45 73 (fup (h 73) 2 0)) 90 = h 90 := (sOf_ne _ _ (by decide)).trans (((hG_45.1 90 (by decide))).trans (hG_1.1 90 (by decide)))
        have e285_91 : (setO g13_45 73 (fup (h 73) 2 0)) 91 = h 91 := (sOf_ne _ _ (by decide)).trans (((hG_45.1 91 (by decide))).trans (hG_1.1 91 (by decide)))
        have e286_77 : (setO g13_45 73 (fup (h 73) 2 0)) 77 = h 77 := (sOf_ne _ _ (by decide)).trans (((hG_45.1 77 (by decide))).trans (hG_1.1 77 (by decide)))
        have e287_77 : (setO g13_45 73 (fup (h 73) 2 0)) 77 = h 77 := (sOf_ne _ _ (by decide)).trans (((hG_45.1 77 (by decide))).trans (hG_1.1 77 (by decide)))
        have e288_73_2 : (setO g13_45 73 (fup (h 73) 2 0)) 73 2 = 0 := rd_ (sOf_eq _ _ _) (fup_eq _ _ _)
        exact L38_91 ((((64 : Int) - 0).toNat) + 1) 0 (setO g13_45 73 (fup (h 73) 2 0)) hT_89 hF_89 (by rewrite [e284_90, e285_91]; exact hmi) (by first | omega | (simp [up, setR] <;> omega)) (by rewrite [e286_77]; intro j h1 h2; exfalso; omega) (by rewrite [e287_77]; intro j h1 h2; exfalso; omega) (by rewrite [e288_73_2]; first | omega | (simp [up, setR] <;> omega)) (Nat.lt_succ_self _)
      · exact absurd hb31_90 (by decide)

set_option maxRecDepth 20000 in
theorem s_beBand_y (b w e k : Int) (h : Hp_) (hT : TY h) (hb : 0 ≤ b ∧ b ≤ 19) (hw : 0 ≤ w ∧ w ≤ 8) (he : 0 ≤ e ∧ e ≤ 8) (hk : 0 ≤ k ∧ k ≤ 2) : Ctr yX12_beBand cX12_beBand 6 none (rmd 0) ly ly 0 0 [vR 73, vI b, vI w, vI e, vI k] h (fun r h' => (TY h' ∧ FRM [80, 81, 82, 83, 84, 85, 86, 87, 88] [] h h') ∧ r = none ∧ ((h' 80) = fup (h 80) b w) ∧ ((h' 81) = fup (h 81) b e) ∧ ((h' 86) = fup (h 86) b 0) ∧ (∀ j : Int, j < 64 * b ∨ 64 * b + 64 ≤ j → (h' 84) j = (h 84) j ∧ (h' 85) j = (h 85) j)) := by
  refine Ctr_of (by decide) (Nat.le_of_ble_eq_true rfl) ⟨Nat.le_refl _, Nat.le_refl _⟩ (fun K hK hQ _ => ?_)
  show TT K ly 0 0 0 [(0, vR 73), (1, vI b), (2, vI w), (3, vI e), (4, vI k)] [] h
  have hF : FRM [80, 81, 82, 83, 84, 85, 86, 87, 88] [] h h := FRM_rf _ _ _
  refine TT_aload_n hK rfl 0 rfl dX12_beBand_0 ?_
  refine gf_X12_35 hK (by decide) rfl (q := 80) rfl rfl dX12_beBand_1 ?_
  refine TT_iload_n hK rfl 1 rfl dX12_beBand_4 ?_
  refine TT_iload_n hK rfl 2 rfl dX12_beBand_5 ?_
  refine TT_iast hK (o := 80) (n := 20) (by decide) rfl (by omega) (by omega) dX12_beBand_6 ?_
  refine TT_hp (h' := setO h 80 (fup (h 80) b w)) (up_can rfl rfl rfl) ?_
  have hT_1 : TY (setO h 80 (fup (h 80) b w)) := tu_80 hT (show up h 80 b w = (setO h 80 (fup (h 80) b w)) from up_can rfl rfl rfl) (by omega)
  have hF_1 : FRM [80, 81, 82, 83, 84, 85, 86, 87, 88] [] h (setO h 80 (fup (h 80) b w)) := FRM_up (show up h 80 b w = (setO h 80 (fup (h 80) b w)) from up_can rfl rfl rfl) hF (by decide) (by decide)
  refine TT_aload_n hK rfl 0 rfl dX12_beBand_7 ?_
  refine gf_X12_38 hK (by decide) rfl (q := 81) rfl rfl dX12_beBand_8 ?_
  refine TT_iload_n hK rfl 1 rfl dX12_beBand_11 ?_
  refine TT_iload_n hK rfl 3 rfl dX12_beBand_12 ?_
  refine TT_iast hK (o := 81) (n := 20) (by decide) rfl (by omega) (by omega) dX12_beBand_13 ?_
  refine TT_hp (h' := setO (setO h 80 (fup (h 80) b w)) 81 (fup (h 81) b e)) (up_can (sOf_ne _ _ (by decide)) rfl rfl) ?_
  have hT_2 : TY (setO (setO h 80 (fup (h 80) b w)) 81 (fup (h 81) b e)) := tu_81 hT_1 (show up (setO h 80 (fup (h 80) b w)) 81 b e = (setO (setO h 80 (fup (h 80) b w)) 81 (fup (h 81) b e)) from up_can (sOf_ne _ _ (by decide)) rfl rfl) (by omega)
  have hF_2 : FRM [80, 81, 82, 83, 84, 85, 86, 87, 88] [] h (setO (setO h 80 (fup (h 80) b w)) 81 (fup (h 81) b e)) := FRM_up (show up (setO h 80 (fup (h 80) b w)) 81 b e = (setO (setO h 80 (fup (h 80) b w)) 81 (fup (h 81) b e)) from up_can (sOf_ne _ _ (by decide)) rfl rfl) hF_1 (by decide) (by decide)
  refine TT_aload_n hK rfl 0 rfl dX12_beBand_14 ?_
  refine gf_X12_41 hK (by decide) rfl (q := 82) rfl rfl dX12_beBand_15 ?_
  refine TT_iload_n hK rfl 1 rfl dX12_beBand_18 ?_
  refine TT_iload hK 4 rfl dX12_beBand_19 ?_
  refine TT_iast hK (o := 82) (n := 20) (by decide) rfl (by omega) (by omega) dX12_beBand_21 ?_
  refine TT_hp (h' := setO (setO (setO h 80 (fup (h 80) b w)) 81 (fup (h 81) b e)) 82 (fup (h 82) b k)) (up_can ((sOf_ne _ _ (by decide)).trans (sOf_ne _ _ (by decide))) rfl rfl) ?_
  have hT_3 : TY (setO (setO (setO h 80 (fup (h 80) b w)) 81 (fup (h 81) b e)) 82 (fup (h 82) b k)) := tu_82 hT_2 (show up (setO (setO h 80 (fup (h 80) b w)) 81 (fup (h 81) b e)) 82 b k = (setO (setO (setO h 80 (fup (h 80) b w)) 81 (fup (h 81) b e)) 82 (fup (h 82) b k)) from up_can ((sOf_ne _ _ (by decide)).trans (sOf_ne _ _ (by decide))) rfl rfl) (by omega)
  have hF_3 : FRM [80, 81, 82, 83, 84, 85, 86, 87, 88] [] h (setO (setO (setO h 80 (fup (h 80) b w)) 81 (fup (h 81) b e)) 82 (fup (h 82) b k)) := FRM_up (show up (setO (setO h 80 (fup (h 80) b w)) 81 (fup (h 81) b e)) 82 b k = (setO (setO (setO h 80 (fup (h 80) b w)) 81 (fup (h 81) b e)) 82 (fup (h 82) b k)) from up_can ((sOf_ne _ _ (by decide)).trans (sOf_ne _ _ (by decide))) rfl rfl) hF_2 (by decide) (by decide)
  refine TT_aload_n hK rfl 0 rfl dX12_beBand_22 ?_
  refine gf_X12_44 hK (by decide) rfl (q := 83) rfl rfl dX12_beBand_23 ?_
  refine TT_iload_n hK rfl 1 rfl dX12_beBand_26 ?_
  refine TT_iconst hK dX12_beBand_27 ?_
  refine TT_iast hK (o := 83) (n := 20) (by decide) rfl (by omega) (by omega) dX12_beBand_28 ?_
  refine TT_hp (h' := setO (setO (setO (setO h 80 (fup (h 80) b w)) 81 (fup (h 81) b e)) 82 (fup (h 82) b k)) 83 (fup (h 83) b 0)) (up_can ((sOf_ne _ _ (by decide)).trans ((sOf_ne _ _ (by decide)).trans (sOf_ne _ _ (by decide)))) rfl rfl) ?_
  have hT_4 : TY (setO (setO (setO (setO h 80 (fup (h 80) b w)) 81 (fup (h 81) b e)) 82 (fup (h 82) b k)) 83 (fup (h 83) b 0)) := tu_83 hT_3 (show up (setO (setO (setO h 80 (fup (h 80) b w)) 81 (fup (h 81) b e)) 82 (fup (h 82) b k)) 83 b 0 = (setO (setO (setO (setO h 80 (fup (h 80) b w)) 81 (fup (h 81) b e)) 82 (fup (h 82) b k)) 83 (fup (h 83) b 0)) from up_can ((sOf_ne _ _ (by decide)).trans ((sOf_ne _ _ (by decide)).trans (sOf_ne _ _ (by decide)))) rfl rfl) (by omega)
  have hF_4 : FRM [80, 81, 82, 83, 84, 85, 86, 87, 88] [] h (setO (setO (setO (setO h 80 (fup (h 80) b w)) 81 (fup (h 81) b e)) 82 (fup (h 82) b k)) 83 (fup (h 83) b 0)) := FRM_up (show up (setO (setO (setO h 80 (fup (h 80) b w)) 81 (fup (h 81) b e)) 82 (fup (h 82) b k)) 83 b 0 = (setO (setO (setO (setO h 80 (fup (h 80) b w)) 81 (fup (h 81) b e)) 82 (fup (h 82) b k)) 83 (fup (h 83) b 0)) from up_can ((sOf_ne _ _ (by decide)).trans ((sOf_ne _ _ (by decide)).trans (sOf_ne _ _ (by decide)))) rfl rfl) hF_3 (by decide) (by decide)
  refine TT_aload_n hK rfl 0 rfl dX12_beBand_29 ?_
  refine gf_X12_54 hK (by decide) rfl (q := 86) rfl rfl dX12_beBand_30 ?_
  refine TT_iload_n hK rfl 1 rfl dX12_beBand_33 ?_
  refine TT_iconst hK dX12_beBand_34 ?_
  refine TT_iast hK (o := 86) (n := 20) (by decide) rfl (by omega) (by omega) dX12_beBand_35 ?_
  refine TT_hp (h' := setO (setO (setO (setO (setO h 80 (fup (h 80) b w)) 81 (fup (h 81) b e)) 82 (fup (h 82) b k)) 83 (fup (h 83) b 0)) 86 (fup (h 86) b 0)) (up_can ((sOf_ne _ _ (by decide)).trans ((sOf_ne _ _ (by decide)).trans ((sOf_ne _ _ (by decide)).trans (sOf_ne _ _ (by decide))))) rfl rfl) ?_
  have hT_5 : TY (setO (setO (setO (setO (setO h 80 (fup (h 80) b w)) 81 (fup (h 81) b e)) 82 (fup (h 82) b k)) 83 (fup (h 83) b 0)) 86 (fup (h 86) b 0)) := tu_86 hT_4 (show up (setO (setO (setO (setO h 80 (fup (h 80) b w)) 81 (fup (h 81) b e)) 82 (fup (h 82) b k)) 83 (fup (h 83) b 0)) 86 b 0 = (setO (setO (setO (setO (setO h 80 (fup (h 80) b w)) 81 (fup (h 81) b e)) 82 (fup (h 82) b k)) 83 (fup (h 83) b 0)) 86 (fup (h 86) b 0)) from up_can ((sOf_ne _ _ (by decide)).trans ((sOf_ne _ _ (by decide)).trans ((sOf_ne _ _ (by decide)).trans (sOf_ne _ _ (by decide))))) rfl rfl) (by omega)
  have hF_5 : FRM [80, 81, 82, 83, 84, 85, 86, 87, 88] [] h (setO (setO (setO (setO (setO h 80 (fup (h 80) b w)) 81 (fup (h 81) b e)) 82 (fup (h 82) b k)) 83 (fup (h 83) b 0)) 86 (fup (h 86) b 0)) := FRM_up (show up (setO (setO (setO (setO h 80 (fup (h 80) b w)) 81 (fup (h 81) b e)) 82 (fup (h 82) b k)) 83 (fup (h 83) b 0)) 86 b 0 = (setO (setO (setO (setO (setO h 80 (fup (h 80) b w)) 81 (fup (h 81) b e)) 82 (fup (h 82) b k)) 83 (fup (h 83) b 0)) 86 (fup (h 86) b 0)) from up_can ((sOf_ne _ _ (by decide)).trans ((sOf_ne _ _ (by decide)).trans ((sOf_ne _ _ (by decide)).trans (sOf_ne _ _ (by decide))))) rfl rfl) hF_4 (by decide) (by decide)
  refine TT_aload_n hK rfl 0 rfl dX12_beBand_36 ?_
  refine gf_X12_57 hK (by decide) rfl (q := 87) rfl rfl dX12_beBand_37 ?_
  refine TT_iload_n hK rfl 1 rfl dX12_beBand_40 ?_
  refine TT_iconst hK dX12_beBand_41 ?_
  refine TT_iast hK (o := 87) (n := 20) (by decide) rfl (by omega) (by omega) dX12_beBand_42 ?_
  refine TT_hp (h' := setO (setO (setO (setO (setO (setO h 80 (fup (h 80) b w)) 81 (fup (h 81) b e)) 82 (fup (h 82) b k)) 83 (fup (h 83) b 0)) 86 (fup (h 86) b 0)) 87 (fup (h 87) b 0)) (up_can ((sOf_ne _ _ (by decide)).trans ((sOf_ne _ _ (by decide)).trans ((sOf_ne _ _ (by decide)).trans ((sOf_ne _ _ (by decide)).trans (sOf_ne _ _ (by decide)))))) rfl rfl) ?_
  have hT_6 : TY (setO (setO (setO (setO (setO (setO h 80 (fup (h 80) b w)) 81 (fup (h 81) b e)) 82 (fup (h 82) b k)) 83 (fup (h 83) b 0)) 86 (fup (h 86) b 0)) 87 (fup (h 87) b 0)) := tu_87 hT_5 (show up (setO (setO (setO (setO (setO h 80 (fup (h 80) b w)) 81 (fup (h 81) b e)) 82 (fup (h 82) b k)) 83 (fup (h 83) b 0)) 86 (fup (h 86) b 0)) 87 b 0 = (setO (setO (setO (setO (setO (setO h 80 (fup (h 80) b w)) 81 (fup (h 81) b e)) 82 (fup (h 82) b k)) 83 (fup (h 83) b 0)) 86 (fup (h 86) b 0)) 87 (fup (h 87) b 0)) from up_can ((sOf_ne _ _ (by decide)).trans ((sOf_ne _ _ (by decide)).trans ((sOf_ne _ _ (by decide)).trans ((sOf_ne _ _ (by decide)).trans (sOf_ne _ _ (by decide)))))) rfl rfl) (by omega)
  have hF_6 : FRM [80, 81, 82, 83, 84, 85, 86, 87, 88] [] h (setO (setO (setO (setO (setO (setO h 80 (fup (h 80) b w)) 81 (fup (h 81) b e)) 82 (fup (h 82) b k)) 83 (fup (h 83) b 0)) 86 (fup (h 86) b 0)) 87 (fup (h 87) b 0)) := FRM_up (show up (setO (setO (setO (setO (setO h 80 (fup (h 80) b w)) 81 (fup (h 81) b e)) 82 (fup (h 82) b k)) 83 (fup (h 83) b 0)) 86 (fup (h 86) b 0)) 87 b 0 = (setO (setO (setO (setO (setO (setO h 80 (fup (h 80) b w)) 81 (fup (h 81) b e)) 82 (fup (h 82) b k)) 83 (fup (h 83) b 0)) 86 (fup (h 86) b 0)) 87 (fup (h 87) b 0)) from up_can ((sOf_ne _ _ (by decide)).trans ((sOf_ne _ _ (by decide)).trans ((sOf_ne _ _ (by decide)).trans ((sOf_ne _ _ (by decide)).trans (sOf_ne _ _ (by decide)))))) rfl rfl) hF_5 (by decide) (by decide)
  refine TT_aload_n hK rfl 0 rfl dX12_beBand_43 ?_
  refine gf_X12_60 hK (by decide) rfl (q := 88) rfl rfl dX12_beBand_44 ?_
  refine TT_iload_n hK rfl 1 rfl dX12_beBand_47 ?_
  refine TT_iconst hK dX12_beBand_48 ?_
  refine TT_iast hK (o := 88) (n := 20) (by decide) rfl (by omega) (by omega) dX12_beBand_49 ?_
  refine TT_hp (h' := setO (setO (setO (setO (setO (setO (setO h 80 (fup (h 80) b w)) 81 (fup (h 81) b e)) 82 (fup (h 82) b k)) 83 (fup (h 83) b 0)) 86 (fup (h 86) b 0)) 87 (fup (h 87) b 0)) 88 (fup (h 88) b 3)) (up_can ((sOf_ne _ _ (by decide)).trans ((sOf_ne _ _ (by decide)).trans ((sOf_ne _ _ (by decide)).trans ((sOf_ne _ _ (by decide)).trans ((sOf_ne _ _ (by decide)).trans (sOf_ne _ _ (by decide))))))) rfl rfl) ?_
  have hT_7 : TY (setO (setO (setO (setO (setO (setO (setO h 80 (fup (h 80) b w)) 81 (fup (h 81) b e)) 82 (fup (h 82) b k)) 83 (fup (h 83) b 0)) 86 (fup (h 86) b 0)) 87 (fup (h 87) b 0)) 88 (fup (h 88) b 3)) := tu_88 hT_6 (show up (setO (setO (setO (setO (setO (setO h 80 (fup (h 80) b w)) 81 (fup (h 81) b e)) 82 (fup (h 82) b k)) 83 (fup (h 83) b 0)) 86 (fup (h 86) b 0)) 87 (fup (h 87) b 0)) 88 b 3 = (setO (setO (setO (setO (setO (setO (setO h 80 (fup (h 80) b w)) 81 (fup (h 81) b e)) 82 (fup (h 82) b k)) 83 (fup (h 83) b 0)) 86 (fup (h 86) b 0)) 87 (fup (h 87) b 0)) 88 (fup (h 88) b 3)) from up_can ((sOf_ne _ _ (by decide)).trans ((sOf_ne _ _ (by decide)).trans ((sOf_ne _ _ (by decide)).trans ((sOf_ne _ _ (by decide)).trans ((sOf_ne _ _ (by decide)).trans (sOf_ne _ _ (by decide))))))) rfl rfl) (by omega)
  have hF_7 : FRM [80, 81, 82, 83, 84, 85, 86, 87, 88] [] h (setO (setO (setO (setO (setO (setO (setO h 80 (fup (h 80) b w)) 81 (fup (h 81) b e)) 82 (fup (h 82) b k)) 83 (fup (h 83) b 0)) 86 (fup (h 86) b 0)) 87 (fup (h 87) b 0)) 88 (fup (h 88) b 3)) := FRM_up (show up (setO (setO (setO (setO (setO (setO h 80 (fup (h 80) b w)) 81 (fup (h 81) b e)) 82 (fup (h 82) b k)) 83 (fup (h 83) b 0)) 86 (fup (h 86) b 0)) 87 (fup (h 87) b 0)) 88 b 3 = (setO (setO (setO (setO (setO (setO (setO h 80 (fup (h 80) b w)) 81 (fup (h 81) b e)) 82 (fup (h 82) b k)) 83 (fup (h 83) b 0)) 86 (fup (h 86) b 0)) 87 (fup (h 87) b 0)) 88 (fup (h 88) b 3)) from up_can ((sOf_ne _ _ (by decide)).trans ((sOf_ne _ _ (by decide)).trans ((sOf_ne _ _ (by decide)).trans ((sOf_ne _ _ (by decide)).trans ((sOf_ne _ _ (by decide)).trans (sOf_ne _ _ (by decide))))))) rfl rfl) hF_6 (by decide) (by decide)
  refine TT_bipush hK (by decide) dX12_beBand_50 ?_
  refine TT_iload_n hK rfl 1 rfl dX12_beBand_52 ?_
  refine TT_imul hK dX12_beBand_53 ?_
  refine TT_istore hK (lv' := [(5, vI (64 * b)), (0, vR 73), (1, vI b), (2, vI w), (3, vI e), (4, vI k)]) (by decide) rfl dX12_beBand_54 ?_
  have L56_8 : ∀ (k8 : Nat) (j : Int) (w56_8 : Hp_), TY w56_8 → FRM [80, 81, 82, 83, 84, 85, 86, 87, 88] [] h w56_8 → (64 * b ≤ j ∧ j ≤ 64 * b + 64) → ((w56_8 80) = fup (h 80) b w) → ((w56_8 81) = fup (h 81) b e) → ((w56_8 86) = fup (h 86) b 0) → (∀ j : Int, j < 64 * b ∨ 64 * b + 64 ≤ j → (w56_8 84) j = h 84 j ∧ (w56_8 85) j = h 85 j) → (64 * b + 64 - j).toNat < k8 → TT K ly 0 0 56 [(0, vR 73), (1, vI b), (2, vI w), (3, vI e), (4, vI k), (5, vI j)] [] w56_8 := by
    intro k8
    induction k8 with
    | zero => intro j w56_8 hT56_8 hF56_8 hj h80 h81 h86 ho hk8; exact absurd hk8 (Nat.not_lt_zero _)
    | succ k8 ih8 =>
      intro j w56_8 hT56_8 hF56_8 hj h80 h81 h86 ho hk8
      refine TT_iload hK 5 rfl dX12_beBand_56 ?_
      refine TT_bipush hK (by decide) dX12_beBand_58 ?_
      refine TT_iload_n hK rfl 1 rfl dX12_beBand_60 ?_
      refine TT_imul hK dX12_beBand_61 ?_
      refine TT_bipush hK (by decide) dX12_beBand_62 ?_
      refine TT_iadd hK dX12_beBand_64 ?_
      refine TT_icmp_ge hK (tgt := 90) (irm (by omega) (by omega)) (irm (by omega) (by omega)) dX12_beBand_65 (by decide) (fun hb65_9 => ?_) (fun hb65_9 => ?_)
      · refine TT_vret hK hQ ?_ dX12_beBand_90
        exact ⟨⟨hT56_8, hF56_8⟩, rfl, (by exact h80), (by exact h81), (by exact h86), (by exact ho)⟩
      · refine TT_aload_n hK rfl 0 rfl dX12_beBand_68 ?_
        refine gf_X12_47 hK (by decide) rfl (q := 84) rfl rfl dX12_beBand_69 ?_
        refine TT_iload hK 5 rfl dX12_beBand_72 ?_
        refine TT_iconst hK dX12_beBand_74 ?_
        refine TT_iast hK (o := 84) (n := 1280) (by decide) rfl (by omega) (by omega) dX12_beBand_75 ?_
        refine TT_hp (h' := setO w56_8 84 (fup (w56_8 84) j 0)) (up_can rfl rfl rfl) ?_
        have hT_10 : TY (setO w56_8 84 (fup (w56_8 84) j 0)) := tu_84 hT56_8 (show up w56_8 84 j 0 = (setO w56_8 84 (fup (w56_8 84) j 0)) from up_can rfl rfl rfl) (by omega)
        have hF_10 : FRM [80, 81, 82, 83, 84, 85, 86, 87, 88] [] h (setO w56_8 84 (fup (w56_8 84) j 0)) := FRM_up (show up w56_8 84 j 0 = (setO w56_8 84 (fup (w56_8 84) j 0)) from up_can rfl rfl rfl) hF56_8 (by decide) (by decide)
        refine TT_aload_n hK rfl 0 rfl dX12_beBand_76 ?_
        refine gf_X12_50 hK (by decide) rfl (q := 85) rfl rfl dX12_beBand_77 ?_
        refine TT_iload hK 5 rfl dX12_beBand_80 ?_
        refine TT_iconst hK dX12_beBand_82 ?_
        refine TT_zast hK (o := 85) (n := 1280) (by decide) rfl (by omega) (by omega) (by first | decide | omega) dX12_beBand_83 ?_
        refine TT_hp (h' := setO (setO w56_8 84 (fup (w56_8 84) j 0)) 85 (fup (w56_8 85) j 0)) (up_can (sOf_ne _ _ (by decide)) rfl rfl) ?_
        have hT_11 : TY (setO (setO w56_8 84 (fup (w56_8 84) j 0)) 85 (fup (w56_8 85) j 0)) := tu_85 hT_10 (show up (setO w56_8 84 (fup (w56_8 84) j 0)) 85 j 0 = (setO (setO w56_8 84 (fup (w56_8 84) j 0)) 85 (fup (w56_8 85) j 0)) from up_can (sOf_ne _ _ (by decide)) rfl rfl) (by omega)
        have hF_11 : FRM [80, 81, 82, 83, 84, 85, 86, 87, 88] [] h (setO (setO w56_8 84 (fup (w56_8 84) j 0)) 85 (fup (w56_8 85) j 0)) := FRM_up (show up (setO w56_8 84 (fup (w56_8 84) j 0)) 85 j 0 = (setO (setO w56_8 84 (fup (w56_8 84) j 0)) 85 (fup (w56_8 85) j 0)) from up_can (sOf_ne _ _ (by decide)) rfl rfl) hF_10 (by decide) (by decide)
        refine TT_iinc hK (v := j + 1) (lv' := [(5, vI (j + 1)), (0, vR 73), (1, vI b), (2, vI w), (3, vI e), (4, vI k)]) 5 rfl rfl (by decide) rfl dX12_beBand_84 ?_
        refine TT_goto hK (tgt := 56) dX12_beBand_87 (by decide) ?_
        refine TT_sub [1, 2, 3, 4, 5, 0] rfl ?_
        have e12_80 : (setO (setO w56_8 84 (fup (w56_8 84) j 0)) 85 (fup (w56_8 85) j 0)) 80 = w56_8 80 := (sOf_ne _ _ (by decide)).trans (sOf_ne _ _ (by decide))
        have e13_81 : (setO (setO w56_8 84 (fup (w56_8 84) j 0)) 85 (fup (w56_8 85) j 0)) 81 = w56_8 81 := (sOf_ne _ _ (by decide)).trans (sOf_ne _ _ (by decide))
        have e14_86 : (setO (setO w56_8 84 (fup (w56_8 84) j 0)) 85 (fup (w56_8 85) j 0)) 86 = w56_8 86 := (sOf_ne _ _ (by decide)).trans (sOf_ne _ _ (by decide))
        have e15_84 : (setO (setO w56_8 84 (fup (w56_8 84) j 0)) 85 (fup (w56_8 85) j 0)) 84 = fup (w56_8 84) j 0 := (sOf_ne _ _ (by decide)).trans (sOf_eq _ _ _)
        have e16_85 : (setO (setO w56_8 84 (fup (w56_8 84) j 0)) 85 (fup (w56_8 85) j 0)) 85 = fup (w56_8 85) j 0 := sOf_eq _ _ _
        exact ih8 (j + 1) (setO (setO w56_8 84 (fup (w56_8 84) j 0)) 85 (fup (w56_8 85) j 0)) hT_11 hF_11 (by first | omega | (simp [up, setR] <;> omega)) (by rewrite [e12_80]; first | assumption | exact h80) (by rewrite [e13_81]; first | assumption | exact h81) (by rewrite [e14_86]; first | assumption | exact h86) (by rewrite [e15_84, e16_85]; intro q hq; rw [fup_ne _ _ (by omega), fup_ne _ _ (by omega)]; exact ho q hq) (by first | omega | (simp [up, setR] <;> omega))
  refine TT_sub [1, 2, 3, 4, 5, 0] rfl ?_
  have e17_80 : (setO (setO (setO (setO (setO (setO (setO h 80 (fup (h 80) b w)) 81 (fup (h 81) b e)) 82 (fup (h 82) b k)) 83 (fup (h 83) b 0)) 86 (fup (h 86) b 0)) 87 (fup (h 87) b 0)) 88 (fup (h 88) b 3)) 80 = fup (h 80) b w := (sOf_ne _ _ (by decide)).trans ((sOf_ne _ _ (by decide)).trans ((sOf_ne _ _ (by decide)).trans ((sOf_ne _ _ (by decide)).trans ((sOf_ne _ _ (by decide)).trans ((sOf_ne _ _ (by decide)).trans (sOf_eq _ _ _))))))
  have e18_81 : (setO (setO (setO (setO (setO (setO (setO h 80 (fup (h 80) b w)) 81 (fup (h 81) b e)) 82 (fup (h 82) b k)) 83 (fup (h 83) b 0)) 86 (fup (h 86) b 0)) 87 (fup (h 87) b 0)) 88 (fup (h 88) b 3)) 81 = fup (h 81) b e := (sOf_ne _ _ (by decide)).trans ((sOf_ne _ _ (by decide)).trans ((sOf_ne _ _ (by decide)).trans ((sOf_ne _ _ (by decide)).trans ((sOf_ne _ _ (by decide)).trans (sOf_eq _ _ _)))))
  have e19_86 : (setO (setO (setO (setO (setO (setO (setO h 80 (fup (h 80) b w)) 81 (fup (h 81) b e)) 82 (fup (h 82) b k)) 83 (fup (h 83) b 0)) 86 (fup (h 86) b 0)) 87 (fup (h 87) b 0)) 88 (fup (h 88) b 3)) 86 = fup (h 86) b 0 := (sOf_ne _ _ (by decide)).trans ((sOf_ne _ _ (by decide)).trans (sOf_eq _ _ _))
  have e20_84 : (setO (setO (setO (setO (setO (setO (setO h 80 (fup (h 80) b w)) 81 (fup (h 81) b e)) 82 (fup (h 82) b k)) 83 (fup (h 83) b 0)) 86 (fup (h 86) b 0)) 87 (fup (h 87) b 0)) 88 (fup (h 88) b 3)) 84 = h 84 := (sOf_ne _ _ (by decide)).trans ((sOf_ne _ _ (by decide)).trans ((sOf_ne _ _ (by decide)).trans ((sOf_ne _ _ (by decide)).trans ((sOf_ne _ _ (by decide)).trans ((sOf_ne _ _ (by decide)).trans (sOf_ne _ _ (by decide)))))))
  have e21_85 : (setO (setO (setO (setO (setO (setO (setO h 80 (fup (h 80) b w)) 81 (fup (h 81) b e)) 82 (fup (h 82) b k)) 83 (fup (h 83) b 0)) 86 (fup (h 86) b 0)) 87 (fup (h 87) b 0)) 88 (fup (h 88) b 3)) 85 = h 85 := (sOf_ne _ _ (by decide)).trans ((sOf_ne _ _ (by decide)).trans ((sOf_ne _ _ (by decide)).trans ((sOf_ne _ _ (by decide)).trans ((sOf_ne _ _ (by decide)).trans ((sOf_ne _ _ (by decide)).trans (sOf_ne _ _ (by decide)))))))
  exact L56_8 (((64 * b + 64 - (64 * b)).toNat) + 1) (64 * b) (setO (setO (setO (setO (setO (setO (setO h 80 (fup (h 80) b w)) 81 (fup (h 81) b e)) 82 (fup (h 82) b k)) 83 (fup (h 83) b 0)) 86 (fup (h 86) b 0)) 87 (fup (h 87) b 0)) 88 (fup (h 88) b 3)) hT_7 hF_7 (by first | omega | (simp [up, setR] <;> omega)) (by rewrite [e17_80]; rfl) (by rewrite [e18_81]; rfl) (by rewrite [e19_86]; rfl) (by rewrite [e20_84, e21_85]; (intro j hj; exact ⟨rfl, rfl⟩)) (Nat.lt_succ_self _)
set_option maxRecDepth 20000 in
theorem s_beBands_y (f w e l : Int) (h : Hp_) (hT : TY h) (hf : f = 0 ∨ f = 10) (hw : 0 ≤ w ∧ w ≤ 8) (he : 0 ≤ e ∧ e ≤ 8) (hl : 0 ≤ l ∧ l ≤ 3) : Ctr yX12_beBands cX12_beBands 11 none (rmd 1) ly ly 0 0 [vR 73, vI f, vI w, vI e, vI l] h (fun r h' => (TY h' ∧ FRM [80, 81, 82, 83, 84, 85, 86, 87, 88] [] h h') ∧ r = none ∧ (∀ j : Int, 0 ≤ j → j < 3 * l + 1 → (h' 80) (f + j) = BW w l j) ∧ (∀ j : Int, 0 ≤ j → j < 3 * l + 1 → (h' 81) (f + j) = BH e l j) ∧ (∀ j : Int, 0 ≤ j → j < 3 * l + 1 → (h' 86) (f + j) = 0) ∧ (f = 10 → (∀ q : Int, q < 10 → (h' 80) q = (h 80) q ∧ (h' 81) q = (h 81) q) ∧ (∀ j : Int, j < 640 → (h' 84) j = (h 84) j ∧ (h' 85) j = (h 85) j))) := by
  refine Ctr_of (by decide) (Nat.le_of_ble_eq_true rfl) ⟨Nat.le_refl _, Nat.le_refl _⟩ (fun K hK hQ _ => ?_)
  show TT K ly 0 0 0 [(0, vR 73), (1, vI f), (2, vI w), (3, vI e), (4, vI l)] [] h
  have hF : FRM [80, 81, 82, 83, 84, 85, 86, 87, 88] [] h h := FRM_rf _ _ _
  refine TT_aload_n hK rfl 0 rfl dX12_beBands_0 ?_
  refine TT_iload_n hK rfl 1 rfl dX12_beBands_1 ?_
  refine TT_iload_n hK rfl 2 rfl dX12_beBands_2 ?_
  refine TT_iload hK 4 rfl dX12_beBands_3 ?_
  refine iv_X12_153 hK (s_left_x w l h hT (by first | omega | (simp [up, setR] <;> omega)) (by first | omega | (simp [up, setR] <;> omega))) ⟨by decide, by decide⟩ (by decide) rfl rfl (Nat.le_of_ble_eq_true rfl) ⟨by decide, by decide⟩ dX12_beBands_5 ?_
  intro r9 g5_1 hp9
  obtain ⟨⟨hT_1, hG_1⟩, z5_1, hr9, hz_1, p1_1⟩ := hp9
  rw [hr9]
  have hF_1 : FRM [80, 81, 82, 83, 84, 85, 86, 87, 88] [] h g5_1 := FRM_tr hF hG_1 (by decide) (by decide)
  show TT K ly 0 0 8 [(0, vR 73), (1, vI f), (2, vI w), (3, vI e), (4, vI l)] [vI z5_1, vI f, vR 73] g5_1
  refine TT_iload_n hK rfl 3 rfl dX12_beBands_8 ?_
  refine TT_iload hK 4 rfl dX12_beBands_9 ?_
  refine iv_X12_153 hK (s_left_x e l g5_1 hT_1 (by first | omega | (simp [up, setR] <;> omega)) (by first | omega | (simp [up, setR] <;> omega))) ⟨by decide, by decide⟩ (by decide) rfl rfl (Nat.le_of_ble_eq_true rfl) ⟨by decide, by decide⟩ dX12_beBands_11 ?_
  intro r9 g11_2 hp9
  obtain ⟨⟨hT_2, hG_2⟩, z11_2, hr9, hz_2, p1_2⟩ := hp9
  rw [hr9]
  have hF_2 : FRM [80, 81, 82, 83, 84, 85, 86, 87, 88] [] h g11_2 := FRM_tr hF_1 hG_2 (by decide) (by decide)
  show TT K ly 0 0 14 [(0, vR 73), (1, vI f), (2, vI w), (3, vI e), (4, vI l)] [vI z11_2, vI z5_1, vI f, vR 73] g11_2
  refine TT_iconst hK dX12_beBands_14 ?_
  refine iv_X12_156 hK (s_beBand_y f z5_1 z11_2 0 g11_2 hT_2 (by first | omega | (simp [up, setR] <;> omega)) (by first | omega | (simp [up, setR] <;> omega)) (by first | omega | (simp [up, setR] <;> omega)) (by first | omega | (simp [up, setR] <;> omega))) (by decide) rfl ⟨by decide, by decide⟩ (by decide) rfl rfl (Nat.le_of_ble_eq_true rfl) ⟨by decide, by decide⟩ dX12_beBands_15 ?_
  intro r9 g15_3 hp9
  obtain ⟨⟨hT_3, hG_3⟩, hr9, q1_3, q2_3, q3_3, q5_3⟩ := hp9
  rw [hr9]
  have hF_3 : FRM [80, 81, 82, 83, 84, 85, 86, 87, 88] [] h g15_3 := FRM_tr hF_2 hG_3 (by decide) (by decide)
  rw [show g11_2 80 = h 80 from ((hG_2.1 80 (by decide))).trans (hG_1.1 80 (by decide))] at q1_3
  rw [show g11_2 81 = h 81 from ((hG_2.1 81 (by decide))).trans (hG_1.1 81 (by decide))] at q2_3
  rw [show g11_2 86 = h 86 from ((hG_2.1 86 (by decide))).trans (hG_1.1 86 (by decide))] at q3_3
  rw [show g11_2 84 = h 84 from ((hG_2.1 84 (by decide))).trans (hG_1.1 84 (by decide))] at q5_3
  rw [show g11_2 85 = h 85 from ((hG_2.1 85 (by decide))).trans (hG_1.1 85 (by decide))] at q5_3
  have q1_at15 := q1_3
  have q2_at15 := q2_3
  have q3_at15 := q3_3
  have q5_at15 := q5_3
  show TT K ly 0 0 18 [(0, vR 73), (1, vI f), (2, vI w), (3, vI e), (4, vI l)] [] g15_3
  refine TT_iconst hK dX12_beBands_18 ?_
  refine TT_istore hK (lv' := [(5, vI 1), (0, vR 73), (1, vI f), (2, vI w), (3, vI e), (4, vI l)]) (by decide) rfl dX12_beBands_19 ?_
  have L21_4 : ∀ (k4 : Nat) (r : Int) (w21_4 : Hp_), TY w21_4 → FRM [80, 81, 82, 83, 84, 85, 86, 87, 88] [] h w21_4 → (1 ≤ r ∧ r ≤ l + 1) → (∀ j : Int, 0 ≤ j → j < 3 * (r - 1) + 1 → (w21_4 80) (f + j) = BW w l j) → (∀ j : Int, 0 ≤ j → j < 3 * (r - 1) + 1 → (w21_4 81) (f + j) = BH e l j) → (∀ j : Int, 0 ≤ j → j < 3 * (r - 1) + 1 → (w21_4 86) (f + j) = 0) → (f = 10 → (∀ q : Int, q < 10 → (w21_4 80) q = h 80 q ∧ (w21_4 81) q = h 81 q) ∧ (∀ j : Int, j < 640 → (w21_4 84) j = h 84 j ∧ (w21_4 85) j = h 85 j)) → ((4 : Int) - r).toNat < k4 → TT K ly 0 0 21 [(0, vR 73), (1, vI f), (2, vI w), (3, vI e), (4, vI l), (5, vI r)] [] w21_4 := by
    intro k4
    induction k4 with
    | zero => intro r w21_4 hT21_4 hF21_4 hr hbw hbh hbt hkk hk4; exact absurd hk4 (Nat.not_lt_zero _)
    | succ k4 ih4 =>
      intro r w21_4 hT21_4 hF21_4 hr hbw hbh hbt hkk hk4
      refine TT_iload hK 5 rfl dX12_beBands_21 ?_
      refine TT_iload hK 4 rfl dX12_beBands_23 ?_
      refine TT_icmp_gt hK (tgt := 132) (irm (by omega) (by omega)) (irm (by omega) (by omega)) dX12_beBands_25 (by decide) (fun hb25_5 => ?_) (fun hb25_5 => ?_)
      · refine TT_vret hK hQ ?_ dX12_beBands_132
        exact ⟨⟨hT21_4, hF21_4⟩, rfl, (by intro j h1 h2; exact hbw j h1 (by omega)), (by intro j h1 h2; exact hbh j h1 (by omega)), (by intro j h1 h2; exact hbt j h1 (by omega)), (by exact hkk)⟩
      · refine TT_iload hK 4 rfl dX12_beBands_28 ?_
        refine TT_iload hK 5 rfl dX12_beBands_30 ?_
        refine TT_isub hK dX12_beBands_32 ?_
        refine TT_istore hK (lv' := [(6, vI (l - r)), (0, vR 73), (1, vI f), (2, vI w), (3, vI e), (4, vI l), (5, vI r)]) (by decide) rfl dX12_beBands_33 ?_
        refine TT_iload_n hK rfl 3 rfl dX12_beBands_35 ?_
        refine TT_iload hK 0 rfl dX12_beBands_36 ?_
        refine TT_iconst hK dX12_beBands_38 ?_
        refine TT_iadd hK dX12_beBands_39 ?_
        refine iv_X12_153 hK (s_left_x w ((l - r) + 1) w21_4 hT21_4 (by first | omega | (simp [up, setR] <;> omega)) (by first | omega | (simp [up, setR] <;> omega))) ⟨by decide, by decide⟩ (by decide) rfl rfl (Nat.le_of_ble_eq_true rfl) ⟨by decide, by decide⟩ dX12_beBands_40 ?_
        intro r9 g40_6 hp9
        obtain ⟨⟨hT_6, hG_6⟩, z40_6, hr9, hz_6, p1_6⟩ := hp9
        rw [hr9]
        have hF_6 : FRM [80, 81, 82, 83, 84, 85, 86, 87, 88] [] h g40_6 := FRM_tr hF21_4 hG_6 (by decide) (by decide)
        show TT K ly 0 0 43 [(6, vI (l - r)), (0, vR 73), (1, vI f), (2, vI w), (3, vI e), (4, vI l), (5, vI r)] [vI z40_6] g40_6
        refine TT_istore hK (lv' := [(7, vI z40_6), (6, vI (l - r)), (0, vR 73), (1, vI f), (2, vI w), (3, vI e), (4, vI l), (5, vI r)]) (by decide) rfl dX12_beBands_43 ?_
        refine TT_iload_n hK rfl 5 rfl dX12_beBands_45 ?_
        refine TT_iload hK 1 rfl dX12_beBands_46 ?_
        refine TT_iconst hK dX12_beBands_48 ?_
        refine TT_iadd hK dX12_beBands_49 ?_
        refine iv_X12_153 hK (s_left_x e ((l - r) + 1) g40_6 hT_6 (by first | omega | (simp [up, setR] <;> omega)) (by first | omega | (simp [up, setR] <;> omega))) ⟨by decide, by decide⟩ (by decide) rfl rfl (Nat.le_of_ble_eq_true rfl) ⟨by decide, by decide⟩ dX12_beBands_50 ?_
        intro r9 g50_7 hp9
        obtain ⟨⟨hT_7, hG_7⟩, z50_7, hr9, hz_7, p1_7⟩ := hp9
        rw [hr9]
        have hF_7 : FRM [80, 81, 82, 83, 84, 85, 86, 87, 88] [] h g50_7 := FRM_tr hF_6 hG_7 (by decide) (by decide)
        show TT K ly 0 0 53 [(7, vI z40_6), (6, vI (l - r)), (0, vR 73), (1, vI f), (2, vI w), (3, vI e), (4, vI l), (5, vI r)] [vI z50_7] g50_7
        refine TT_istore hK (lv' := [(8, vI z50_7), (7, vI z40_6), (6, vI (l - r)), (0, vR 73), (1, vI f), (2, vI w), (3, vI e), (4, vI l), (5, vI r)]) (by decide) rfl dX12_beBands_53 ?_
        refine TT_iload_n hK rfl 5 rfl dX12_beBands_55 ?_
        refine TT_iload hK 2 rfl dX12_beBands_56 ?_
        refine iv_X12_153 hK (s_left_x w (l - r) g50_7 hT_7 (by first | omega | (simp [up, setR] <;> omega)) (by first | omega | (simp [up, setR] <;> omega))) ⟨by decide, by decide⟩ (by decide) rfl rfl (Nat.le_of_ble_eq_true rfl) ⟨by decide, by decide⟩ dX12_beBands_58 ?_
        intro r9 g58_8 hp9
        obtain ⟨⟨hT_8, hG_8⟩, z58_8, hr9, hz_8, p1_8⟩ := hp9
        rw [hr9]
        have hF_8 : FRM [80, 81, 82, 83, 84, 85, 86, 87, 88] [] h g58_8 := FRM_tr hF_7 hG_8 (by decide) (by decide)
        show TT K ly 0 0 61 [(8, vI z50_7), (7, vI z40_6), (6, vI (l - r)), (0, vR 73), (1, vI f), (2, vI w), (3, vI e), (4, vI l), (5, vI r)] [vI z58_8] g58_8
        refine TT_iload hK 1 rfl dX12_beBands_61 ?_
        have ow1 : z40_6 ≤ z58_8 := by have k9 := lf_le (n := w) (l := l - r) (by omega) (by omega); omega
        refine TT_isub hK dX12_beBands_63 ?_
        refine TT_istore hK (lv' := [(9, vI (z58_8 - z40_6)), (8, vI z50_7), (7, vI z40_6), (6, vI (l - r)), (0, vR 73), (1, vI f), (2, vI w), (3, vI e), (4, vI l), (5, vI r)]) (by decide) rfl dX12_beBands_64 ?_
        refine TT_iload_n hK rfl 7 rfl dX12_beBands_66 ?_
        refine TT_iload hK 3 rfl dX12_beBands_67 ?_
        refine iv_X12_153 hK (s_left_x e (l - r) g58_8 hT_8 (by first | omega | (simp [up, setR] <;> omega)) (by first | omega | (simp [up, setR] <;> omega))) ⟨by decide, by decide⟩ (by decide) rfl rfl (Nat.le_of_ble_eq_true rfl) ⟨by decide, by decide⟩ dX12_beBands_69 ?_
        intro r9 g69_9 hp9
        obtain ⟨⟨hT_9, hG_9⟩, z69_9, hr9, hz_9, p1_9⟩ := hp9
        rw [hr9]
        have hF_9 : FRM [80, 81, 82, 83, 84, 85, 86, 87, 88] [] h g69_9 := FRM_tr hF_8 hG_9 (by decide) (by decide)
        show TT K ly 0 0 72 [(9, vI (z58_8 - z40_6)), (8, vI z50_7), (7, vI z40_6), (6, vI (l - r)), (0, vR 73), (1, vI f), (2, vI w), (3, vI e), (4, vI l), (5, vI r)] [vI z69_9] g69_9
        refine TT_iload hK 1 rfl dX12_beBands_72 ?_
        have ow2 : z50_7 ≤ z69_9 := by have k9 := lf_le (n := e) (l := l - r) (by omega) (by omega); omega
        refine TT_isub hK dX12_beBands_74 ?_
        refine TT_istore hK (lv' := [(10, vI (z69_9 - z50_7)), (9, vI (z58_8 - z40_6)), (8, vI z50_7), (7, vI z40_6), (6, vI (l - r)), (0, vR 73), (1, vI f), (2, vI w), (3, vI e), (4, vI l), (5, vI r)]) (by decide) rfl dX12_beBands_75 ?_
        refine TT_aload_n hK rfl 5 rfl dX12_beBands_77 ?_
        refine TT_iload_n hK rfl 6 rfl dX12_beBands_78 ?_
        refine TT_iconst hK dX12_beBands_79 ?_
        refine TT_iload hK 10 rfl dX12_beBands_80 ?_
        refine TT_imul hK dX12_beBands_82 ?_
        refine TT_iadd hK dX12_beBands_83 ?_
        refine TT_iconst hK dX12_beBands_84 ?_
        refine TT_isub hK dX12_beBands_85 ?_
        refine TT_iload hK 1 rfl dX12_beBands_86 ?_
        refine TT_iload hK 2 rfl dX12_beBands_88 ?_
        refine TT_iconst hK dX12_beBands_90 ?_
        refine iv_X12_156 hK (s_beBand_y ((f + (3 * r)) - 2) (z58_8 - z40_6) z50_7 1 g69_9 hT_9 (by first | omega | (simp [up, setR] <;> omega)) (by first | omega | (simp [up, setR] <;> omega)) (by first | omega | (simp [up, setR] <;> omega)) (by first | omega | (simp [up, setR] <;> omega))) (by decide) rfl ⟨by decide, by decide⟩ (by decide) rfl rfl (Nat.le_of_ble_eq_true rfl) ⟨by decide, by decide⟩ dX12_beBands_91 ?_
        intro r9 g91_10 hp9
        obtain ⟨⟨hT_10, hG_10⟩, hr9, q1_10, q2_10, q3_10, q5_10⟩ := hp9
        rw [hr9]
        have hF_10 : FRM [80, 81, 82, 83, 84, 85, 86, 87, 88] [] h g91_10 := FRM_tr hF_9 hG_10 (by decide) (by decide)
        rw [show g69_9 80 = w21_4 80 from ((hG_9.1 80 (by decide))).trans (((hG_8.1 80 (by decide))).trans (((hG_7.1 80 (by decide))).trans (hG_6.1 80 (by decide))))] at q1_10
        rw [show g69_9 81 = w21_4 81 from ((hG_9.1 81 (by decide))).trans (((hG_8.1 81 (by decide))).trans (((hG_7.1 81 (by decide))).trans (hG_6.1 81 (by decide))))] at q2_10
        rw [show g69_9 86 = w21_4 86 from ((hG_9.1 86 (by decide))).trans (((hG_8.1 86 (by decide))).trans (((hG_7.1 86 (by decide))).trans (hG_6.1 86 (by decide))))] at q3_10
        rw [show g69_9 84 = w21_4 84 from ((hG_9.1 84 (by decide))).trans (((hG_8.1 84 (by decide))).trans (((hG_7.1 84 (by decide))).trans (hG_6.1 84 (by decide))))] at q5_10
        rw [show g69_9 85 = w21_4 85 from ((hG_9.1 85 (by decide))).trans (((hG_8.1 85 (by decide))).trans (((hG_7.1 85 (by decide))).trans (hG_6.1 85 (by decide))))] at q5_10
        have q1_at91 := q1_10
        have q2_at91 := q2_10
        have q3_at91 := q3_10
        have q5_at91 := q5_10
        show TT K ly 0 0 94 [(10, vI (z69_9 - z50_7)), (9, vI (z58_8 - z40_6)), (8, vI z50_7), (7, vI z40_6), (6, vI (l - r)), (0, vR 73), (1, vI f), (2, vI w), (3, vI e), (4, vI l), (5, vI r)] [] g91_10
        refine TT_aload_n hK rfl 5 rfl dX12_beBands_94 ?_
        refine TT_iload_n hK rfl 6 rfl dX12_beBands_95 ?_
        refine TT_iconst hK dX12_beBands_96 ?_
        refine TT_iload hK 10 rfl dX12_beBands_97 ?_
        refine TT_imul hK dX12_beBands_99 ?_
        refine TT_iadd hK dX12_beBands_100 ?_
        refine TT_iconst hK dX12_beBands_101 ?_
        refine TT_isub hK dX12_beBands_102 ?_
        refine TT_iload hK 3 rfl dX12_beBands_103 ?_
        refine TT_iload hK 0 rfl dX12_beBands_105 ?_
        refine TT_iconst hK dX12_beBands_107 ?_
        refine iv_X12_156 hK (s_beBand_y ((f + (3 * r)) - 1) z40_6 (z69_9 - z50_7) 0 g91_10 hT_10 (by first | omega | (simp [up, setR] <;> omega)) (by first | omega | (simp [up, setR] <;> omega)) (by first | omega | (simp [up, setR] <;> omega)) (by first | omega | (simp [up, setR] <;> omega))) (by decide) rfl ⟨by decide, by decide⟩ (by decide) rfl rfl (Nat.le_of_ble_eq_true rfl) ⟨by decide, by decide⟩ dX12_beBands_108 ?_
        intro r9 g108_11 hp9
        obtain ⟨⟨hT_11, hG_11⟩, hr9, q1_11, q2_11, q3_11, q5_11⟩ := hp9
        rw [hr9]
        have hF_11 : FRM [80, 81, 82, 83, 84, 85, 86, 87, 88] [] h g108_11 := FRM_tr hF_10 hG_11 (by decide) (by decide)
        have q1_at108 := q1_11
        have q2_at108 := q2_11
        have q3_at108 := q3_11
        have q5_at108 := q5_11
        show TT K ly 0 0 111 [(10, vI (z69_9 - z50_7)), (9, vI (z58_8 - z40_6)), (8, vI z50_7), (7, vI z40_6), (6, vI (l - r)), (0, vR 73), (1, vI f), (2, vI w), (3, vI e), (4, vI l), (5, vI r)] [] g108_11
        refine TT_aload_n hK rfl 5 rfl dX12_beBands_111 ?_
        refine TT_iload_n hK rfl 6 rfl dX12_beBands_112 ?_
        refine TT_iconst hK dX12_beBands_113 ?_
        refine TT_iload hK 10 rfl dX12_beBands_114 ?_
        refine TT_imul hK dX12_beBands_116 ?_
        refine TT_iadd hK dX12_beBands_117 ?_
        refine TT_iload hK 1 rfl dX12_beBands_118 ?_
        refine TT_iload hK 0 rfl dX12_beBands_120 ?_
        refine TT_iconst hK dX12_beBands_122 ?_
        refine iv_X12_156 hK (s_beBand_y (f + (3 * r)) (z58_8 - z40_6) (z69_9 - z50_7) 2 g108_11 hT_11 (by first | omega | (simp [up, setR] <;> omega)) (by first | omega | (simp [up, setR] <;> omega)) (by first | omega | (simp [up, setR] <;> omega)) (by first | omega | (simp [up, setR] <;> omega))) (by decide) rfl ⟨by decide, by decide⟩ (by decide) rfl rfl (Nat.le_of_ble_eq_true rfl) ⟨by decide, by decide⟩ dX12_beBands_123 ?_
        intro r9 g123_12 hp9
        obtain ⟨⟨hT_12, hG_12⟩, hr9, q1_12, q2_12, q3_12, q5_12⟩ := hp9
        rw [hr9]
        have hF_12 : FRM [80, 81, 82, 83, 84, 85, 86, 87, 88] [] h g123_12 := FRM_tr hF_11 hG_12 (by decide) (by decide)
        have q1_at123 := q1_12
        have q2_at123 := q2_12
        have q3_at123 := q3_12
        have q5_at123 := q5_12
        show TT K ly 0 0 126 [(10, vI (z69_9 - z50_7)), (9, vI (z58_8 - z40_6)), (8, vI z50_7), (7, vI z40_6), (6, vI (l - r)), (0, vR 73), (1, vI f), (2, vI w), (3, vI e), (4, vI l), (5, vI r)] [] g123_12
        refine TT_iinc hK (v := r + 1) (lv' := [(5, vI (r + 1)), (10, vI (z69_9 - z50_7)), (9, vI (z58_8 - z40_6)), (8, vI z50_7), (7, vI z40_6), (6, vI (l - r)), (0, vR 73), (1, vI f), (2, vI w), (3, vI e), (4, vI l)]) 10 rfl rfl (by decide) rfl dX12_beBands_126 ?_
        refine TT_goto hK (tgt := 21) dX12_beBands_129 (by decide) ?_
        refine TT_sub [6, 7, 8, 9, 10, 0] rfl ?_
        exact ih4 (r + 1) g123_12 hT_12 hF_12 (by first | omega | (simp [up, setR] <;> omega)) (by rw [q1_at123, q1_at108, q1_at91]; exact BWs (by omega) hbw (by omega) (by omega)) (by rw [q2_at123, q2_at108, q2_at91]; exact BHs (by omega) hbh (by omega) (by omega)) (by rw [q3_at123, q3_at108, q3_at91]; exact B0s (by omega) hbt) (by intro ef; have k10 := (hkk ef).1; have kpk := (hkk ef).2; exact ⟨(by intro q hq; rw [q1_at123, q1_at108, q1_at91, q2_at123, q2_at108, q2_at91, fup_ne _ _ (by omega), fup_ne _ _ (by omega), fup_ne _ _ (by omega), fup_ne _ _ (by omega), fup_ne _ _ (by omega), fup_ne _ _ (by omega)]; exact k10 q hq), fun j hj => by have u1 := q5_at123 j (by omega); have u2 := q5_at108 j (by omega); have u3 := q5_at91 j (by omega); have u4 := kpk j hj; exact ⟨u1.1.trans (u2.1.trans (u3.1.trans u4.1)), u1.2.trans (u2.2.trans (u3.2.trans u4.2))⟩⟩) (by first | omega | (simp [up, setR] <;> omega))
  refine TT_sub [1, 2, 3, 4, 5, 0] rfl ?_
  exact L21_4 ((((4 : Int) - 1).toNat) + 1) 1 g15_3 hT_3 hF_3 (by first | omega | (simp [up, setR] <;> omega)) (by intro j h1 h2; rw [q1_at15, show j = 0 by omega, Int.add_zero, fup_eq]; unfold BW; rw [if_pos rfl]; omega) (by intro j h1 h2; rw [q2_at15, show j = 0 by omega, Int.add_zero, fup_eq]; unfold BH; rw [if_pos rfl]; omega) (by intro j h1 h2; rw [q3_at15, show j = 0 by omega, Int.add_zero, fup_eq]) (by intro ef; exact ⟨fun q hq => by rw [q1_at15, q2_at15, fup_ne _ _ (by omega), fup_ne _ _ (by omega)]; exact ⟨rfl, rfl⟩, fun j hj => q5_at15 j (by omega)⟩) (Nat.lt_succ_self _)
set_option maxRecDepth 20000 in
theorem s_decode_k (n : Int) (h : Hp_) (hT : TY h) (hn : -2147483648 ≤ n ∧ n ≤ 2147483647) (htb : TBL (h 74) (h 75)) : Ctr yX12_decode cX12_decode 10 (some .int) (rmd 10) ly ly 0 0 [vR 73, vI n] h (fun r h' => (TY h' ∧ FRM [73, 77, 78, 79, 80, 81, 82, 83, 84, 85, 86, 87, 88, 93, 94, 95, 96, 97, 98, 99, 101, 102, 103, 104, 105, 106] [2, 26, 27, 28, 29, 32, 33, 34, 36, 38, 39, 42, 43, 44, 45, 50, 51, 52, 55] h h') ∧ ∃ z : Int, r = some (vI z) ∧ (0 ≤ z ∧ z ≤ 12) ∧ ((∀ q : Int, q < 10 → (h' 80) q = (h 80) q ∧ (h' 81) q = (h 81) q) ∧ (∀ j : Int, j < 640 → (h' 84) j = (h 84) j ∧ (h' 85) j = (h 85) j))) := by
  refine Ctr_of (by decide) (Nat.le_of_ble_eq_true rfl) ⟨Nat.le_refl _, Nat.le_refl _⟩ (fun K hK hQ _ => ?_)
  show TT K ly 0 0 0 [(0, vR 73), (1, vI n)] [] h
  have hF : FRM [73, 77, 78, 79, 80, 81, 82, 83, 84, 85, 86, 87, 88, 93, 94, 95, 96, 97, 98, 99, 101, 102, 103, 104, 105, 106] [2, 26, 27, 28, 29, 32, 33, 34, 36, 38, 39, 42, 43, 44, 45, 50, 51, 52, 55] h h := FRM_rf _ _ _
  refine TT_aload_n hK rfl 0 rfl dX12_decode_0 ?_
  refine TT_iconst hK dX12_decode_1 ?_
  refine pf_X12_117 hK (by decide) rfl dX12_decode_2 ?_
  refine TT_hp (h' := setO h 73 (fup (h 73) 2 0)) (up_can rfl rfl rfl) ?_
  have hT_1 : TY (setO h 73 (fup (h 73) 2 0)) := tu_73_2 hT (show up h 73 2 0 = (setO h 73 (fup (h 73) 2 0)) from up_can rfl rfl rfl) (by omega)
  have hF_1 : FRM [73, 77, 78, 79, 80, 81, 82, 83, 84, 85, 86, 87, 88, 93, 94, 95, 96, 97, 98, 99, 101, 102, 103, 104, 105, 106] [2, 26, 27, 28, 29, 32, 33, 34, 36, 38, 39, 42, 43, 44, 45, 50, 51, 52, 55] h (setO h 73 (fup (h 73) 2 0)) := FRM_f (show up h 73 2 0 = (setO h 73 (fup (h 73) 2 0)) from up_can rfl rfl rfl) hF (by decide) (by decide)
  have J76_2 : ∀ (w76_2 : Hp_), TY w76_2 → FRM [73, 77, 78, 79, 80, 81, 82, 83, 84, 85, 86, 87, 88, 93, 94, 95, 96, 97, 98, 99, 101, 102, 103, 104, 105, 106] [2, 26, 27, 28, 29, 32, 33, 34, 36, 38, 39, 42, 43, 44, 45, 50, 51, 52, 55] h w76_2 → ((∀ q : Int, q < 10 → (w76_2 80) q = h 80 q ∧ (w76_2 81) q = h 81 q) ∧ (∀ j : Int, j < 640 → (w76_2 84) j = h 84 j ∧ (w76_2 85) j = h 85 j)) → TT K ly 0 0 76 [(0, vR 73), (1, vI n)] [] w76_2 := by
    intro w76_2 hT76_2 hF76_2 kq
    refine TT_aload_n hK rfl 0 rfl dX12_decode_76 ?_
    refine TT_iconst hK dX12_decode_77 ?_
    refine iv_X12_385 hK (s_X12_refuse_73 1 w76_2 hT76_2 (by first | omega | (simp [up, setR] <;> omega))) (by decide) rfl ⟨by decide, by decide⟩ (by decide) rfl rfl (Nat.le_of_ble_eq_true rfl) ⟨by decide, by decide⟩ dX12_decode_78 ?_
    intro r9 g78_3 hp9
    obtain ⟨⟨hT_3, hG_3⟩, z78_3, hr9, hz_3⟩ := hp9
    rw [hr9]
    have hF_3 : FRM [73, 77, 78, 79, 80, 81, 82, 83, 84, 85, 86, 87, 88, 93, 94, 95, 96, 97, 98, 99, 101, 102, 103, 104, 105, 106] [2, 26, 27, 28, 29, 32, 33, 34, 36, 38, 39, 42, 43, 44, 45, 50, 51, 52, 55] h g78_3 := FRM_tr hF76_2 hG_3 (by decide) (by decide)
    show TT K ly 0 0 81 [(0, vR 73), (1, vI n)] [vI z78_3] g78_3
    refine TT_iret hK hQ ?_ dX12_decode_81
    have e4_80 : g78_3 80 = w76_2 80 := (hG_3.1 80 (by decide))
    have e5_81 : g78_3 81 = w76_2 81 := (hG_3.1 81 (by decide))
    have e6_84 : g78_3 84 = w76_2 84 := (hG_3.1 84 (by decide))
    have e7_85 : g78_3 85 = w76_2 85 := (hG_3.1 85 (by decide))
    exact ⟨⟨hT_3, hF_3⟩, z78_3, rfl, (by omega), (by rewrite [e4_80, e5_81, e6_84, e7_85]; exact kq)⟩
  refine TT_iload_n hK rfl 1 rfl dX12_decode_5 ?_
  refine TT_iconst hK dX12_decode_6 ?_
  refine TT_icmp_lt hK (tgt := 76) (irm (by omega) (by omega)) (by decide) dX12_decode_7 (by decide) (fun hb7_8 => ?_) (fun hb7_8 => ?_)
  · have e9_80 : (setO h 73 (fup (h 73) 2 0)) 80 = h 80 := sOf_ne _ _ (by decide)
    have e10_81 : (setO h 73 (fup (h 73) 2 0)) 81 = h 81 := sOf_ne _ _ (by decide)
    have e11_84 : (setO h 73 (fup (h 73) 2 0)) 84 = h 84 := sOf_ne _ _ (by decide)
    have e12_85 : (setO h 73 (fup (h 73) 2 0)) 85 = h 85 := sOf_ne _ _ (by decide)
    exact J76_2 (setO h 73 (fup (h 73) 2 0)) hT_1 hF_1 (by rewrite [e9_80, e10_81, e11_84, e12_85]; exact ⟨fun q hq => ⟨rfl, rfl⟩, fun j hj => ⟨rfl, rfl⟩⟩)
  · refine TT_iload_n hK rfl 1 rfl dX12_decode_10 ?_
    refine TT_aload_n hK rfl 0 rfl dX12_decode_11 ?_
    refine gf_X12_329 hK (by decide) rfl (v := (h 73) 41) (rd_ (sOf_eq _ _ _) (fup_ne _ _ (by decide))) dX12_decode_12 ?_
    have r13 := ty_73_41 (v := (h 73) 41) hT_1 (rd_ (sOf_eq _ _ _) (fup_ne _ _ (by decide)))
    refine TT_icmp_gt hK (tgt := 76) (irm (by omega) (by omega)) (irm (by omega) (by omega)) dX12_decode_15 (by decide) (fun hb15_14 => ?_) (fun hb15_14 => ?_)
    · have e15_80 : (setO h 73 (fup (h 73) 2 0)) 80 = h 80 := sOf_ne _ _ (by decide)
      have e16_81 : (setO h 73 (fup (h 73) 2 0)) 81 = h 81 := sOf_ne _ _ (by decide)
      have e17_84 : (setO h 73 (fup (h 73) 2 0)) 84 = h 84 := sOf_ne _ _ (by decide)
      have e18_85 : (setO h 73 (fup (h 73) 2 0)) 85 = h 85 := sOf_ne _ _ (by decide)
      exact J76_2 (setO h 73 (fup (h 73) 2 0)) hT_1 hF_1 (by rewrite [e15_80, e16_81, e17_84, e18_85]; exact ⟨fun q hq => ⟨rfl, rfl⟩, fun j hj => ⟨rfl, rfl⟩⟩)
    · refine TT_aload_n hK rfl 0 rfl dX12_decode_18 ?_
      refine gf_X12_96 hK (by decide) rfl (q := 100) rfl rfl dX12_decode_19 ?_
      refine TT_iconst hK dX12_decode_22 ?_
      refine TT_iald hK (o := 100) (n := 4700) (by decide) rfl (by first | omega | (simp [up, setR] <;> omega)) (by first | omega | (simp [up, setR] <;> omega)) (v := (h 100) 0) (rd_ (sOf_ne _ _ (by decide)) rfl) dX12_decode_23 ?_
      have r19 := ty_100 (i := 0) (v := (h 100) 0) hT_1 (rd_ (sOf_ne _ _ (by decide)) rfl) (by omega) (by omega)
      refine TT_iconst hK dX12_decode_24 ?_
      refine TT_bipush hK (by decide) dX12_decode_25 ?_
      refine iv_X12_120 hK (s_X12_within ((h 100) 0) 1 8 (setO h 73 (fup (h 73) 2 0)) hT_1 (by first | omega | (simp [up, setR] <;> omega)) (by first | omega | (simp [up, setR] <;> omega)) (by first | omega | (simp [up, setR] <;> omega))) ⟨by decide, by decide⟩ (by decide) rfl rfl (Nat.le_of_ble_eq_true rfl) ⟨by decide, by decide⟩ dX12_decode_27 ?_
      intro r9 g27_20 hp9
      obtain ⟨⟨hT_20, hG_20⟩, z27_20, hr9, hz_20, p1_20, p2_20⟩ := hp9
      rw [hr9]
      have hF_20 : FRM [73, 77, 78, 79, 80, 81, 82, 83, 84, 85, 86, 87, 88, 93, 94, 95, 96, 97, 98, 99, 101, 102, 103, 104, 105, 106] [2, 26, 27, 28, 29, 32, 33, 34, 36, 38, 39, 42, 43, 44, 45, 50, 51, 52, 55] h g27_20 := FRM_tr hF_1 hG_20 (by decide) (by decide)
      show TT K ly 0 0 30 [(0, vR 73), (1, vI n)] [vI z27_20] g27_20
      refine TT_if_eq hK (tgt := 76) (irm (by omega) (by omega)) dX12_decode_30 (by decide) (fun hb30_21 => ?_) (fun hb30_21 => ?_)
      · have e22_80 : g27_20 80 = h 80 := ((hG_20.1 80 (by decide))).trans (sOf_ne _ _ (by decide))
        have e23_81 : g27_20 81 = h 81 := ((hG_20.1 81 (by decide))).trans (sOf_ne _ _ (by decide))
        have e24_84 : g27_20 84 = h 84 := ((hG_20.1 84 (by decide))).trans (sOf_ne _ _ (by decide))
        have e25_85 : g27_20 85 = h 85 := ((hG_20.1 85 (by decide))).trans (sOf_ne _ _ (by decide))
        exact J76_2 g27_20 hT_20 hF_20 (by rewrite [e22_80, e23_81, e24_84, e25_85]; exact ⟨fun q hq => ⟨rfl, rfl⟩, fun j hj => ⟨rfl, rfl⟩⟩)
      · refine TT_aload_n hK rfl 0 rfl dX12_decode_33 ?_
        refine gf_X12_96 hK (by decide) rfl (q := 100) rfl rfl dX12_decode_34 ?_
        refine TT_iconst hK dX12_decode_37 ?_
        refine TT_iald hK (o := 100) (n := 4700) (by decide) rfl (by first | omega | (simp [up, setR] <;> omega)) (by first | omega | (simp [up, setR] <;> omega)) (v := (h 100) 1) (rd_ (((hG_20.1 100 (by decide))).trans (sOf_ne _ _ (by decide))) rfl) dX12_decode_38 ?_
        have r26 := ty_100 (i := 1) (v := (h 100) 1) hT_20 (rd_ (((hG_20.1 100 (by decide))).trans (sOf_ne _ _ (by decide))) rfl) (by omega) (by omega)
        refine TT_iconst hK dX12_decode_39 ?_
        refine TT_bipush hK (by decide) dX12_decode_40 ?_
        refine iv_X12_120 hK (s_X12_within ((h 100) 1) 1 8 g27_20 hT_20 (by first | omega | (simp [up, setR] <;> omega)) (by first | omega | (simp [up, setR] <;> omega)) (by first | omega | (simp [up, setR] <;> omega))) ⟨by decide, by decide⟩ (by decide) rfl rfl (Nat.le_of_ble_eq_true rfl) ⟨by decide, by decide⟩ dX12_decode_42 ?_
        intro r9 g42_27 hp9
        obtain ⟨⟨hT_27, hG_27⟩, z42_27, hr9, hz_27, p1_27, p2_27⟩ := hp9
        rw [hr9]
        have hF_27 : FRM [73, 77, 78, 79, 80, 81, 82, 83, 84, 85, 86, 87, 88, 93, 94, 95, 96, 97, 98, 99, 101, 102, 103, 104, 105, 106] [2, 26, 27, 28, 29, 32, 33, 34, 36, 38, 39, 42, 43, 44, 45, 50, 51, 52, 55] h g42_27 := FRM_tr hF_20 hG_27 (by decide) (by decide)
        show TT K ly 0 0 45 [(0, vR 73), (1, vI n)] [vI z42_27] g42_27
        refine TT_if_eq hK (tgt := 76) (irm (by omega) (by omega)) dX12_decode_45 (by decide) (fun hb45_28 => ?_) (fun hb45_28 => ?_)
        · have e29_80 : g42_27 80 = h 80 := ((hG_27.1 80 (by decide))).trans (((hG_20.1 80 (by decide))).trans (sOf_ne _ _ (by decide)))
          have e30_81 : g42_27 81 = h 81 := ((hG_27.1 81 (by decide))).trans (((hG_20.1 81 (by decide))).trans (sOf_ne _ _ (by decide)))
          have e31_84 : g42_27 84 = h 84 := ((hG_27.1 84 (by decide))).trans (((hG_20.1 84 (by decide))).trans (sOf_ne _ _ (by decide)))
          have e32_85 : g42_27 85 = h 85 := ((hG_27.1 85 (by decide))).trans (((hG_20.1 85 (by decide))).trans (sOf_ne _ _ (by decide)))
          exact J76_2 g42_27 hT_27 hF_27 (by rewrite [e29_80, e30_81, e31_84, e32_85]; exact ⟨fun q hq => ⟨rfl, rfl⟩, fun j hj => ⟨rfl, rfl⟩⟩)
        · refine TT_aload_n hK rfl 0 rfl dX12_decode_48 ?_
          refine gf_X12_96 hK (by decide) rfl (q := 100) rfl rfl dX12_decode_49 ?_
          refine TT_iconst hK dX12_decode_52 ?_
          refine TT_iald hK (o := 100) (n := 4700) (by decide) rfl (by first | omega | (simp [up, setR] <;> omega)) (by first | omega | (simp [up, setR] <;> omega)) (v := (h 100) 2) (rd_ (((hG_27.1 100 (by decide))).trans (((hG_20.1 100 (by decide))).trans (sOf_ne _ _ (by decide)))) rfl) dX12_decode_53 ?_
          have r33 := ty_100 (i := 2) (v := (h 100) 2) hT_27 (rd_ (((hG_27.1 100 (by decide))).trans (((hG_20.1 100 (by decide))).trans (sOf_ne _ _ (by decide)))) rfl) (by omega) (by omega)
          refine TT_iconst hK dX12_decode_54 ?_
          refine TT_iconst hK dX12_decode_55 ?_
          refine iv_X12_120 hK (s_X12_within ((h 100) 2) 0 3 g42_27 hT_27 (by first | omega | (simp [up, setR] <;> omega)) (by first | omega | (simp [up, setR] <;> omega)) (by first | omega | (simp [up, setR] <;> omega))) ⟨by decide, by decide⟩ (by decide) rfl rfl (Nat.le_of_ble_eq_true rfl) ⟨by decide, by decide⟩ dX12_decode_56 ?_
          intro r9 g56_34 hp9
          obtain ⟨⟨hT_34, hG_34⟩, z56_34, hr9, hz_34, p1_34, p2_34⟩ := hp9
          rw [hr9]
          have hF_34 : FRM [73, 77, 78, 79, 80, 81, 82, 83, 84, 85, 86, 87, 88, 93, 94, 95, 96, 97, 98, 99, 101, 102, 103, 104, 105, 106] [2, 26, 27, 28, 29, 32, 33, 34, 36, 38, 39, 42, 43, 44, 45, 50, 51, 52, 55] h g56_34 := FRM_tr hF_27 hG_34 (by decide) (by decide)
          show TT K ly 0 0 59 [(0, vR 73), (1, vI n)] [vI z56_34] g56_34
          refine TT_if_eq hK (tgt := 76) (irm (by omega) (by omega)) dX12_decode_59 (by decide) (fun hb59_35 => ?_) (fun hb59_35 => ?_)
          · have e36_80 : g56_34 80 = h 80 := ((hG_34.1 80 (by decide))).trans (((hG_27.1 80 (by decide))).trans (((hG_20.1 80 (by decide))).trans (sOf_ne _ _ (by decide))))
            have e37_81 : g56_34 81 = h 81 := ((hG_34.1 81 (by decide))).trans (((hG_27.1 81 (by decide))).trans (((hG_20.1 81 (by decide))).trans (sOf_ne _ _ (by decide))))
            have e38_84 : g56_34 84 = h 84 := ((hG_34.1 84 (by decide))).trans (((hG_27.1 84 (by decide))).trans (((hG_20.1 84 (by decide))).trans (sOf_ne _ _ (by decide))))
            have e39_85 : g56_34 85 = h 85 := ((hG_34.1 85 (by decide))).trans (((hG_27.1 85 (by decide))).trans (((hG_20.1 85 (by decide))).trans (sOf_ne _ _ (by decide))))
            exact J76_2 g56_34 hT_34 hF_34 (by rewrite [e36_80, e37_81, e38_84, e39_85]; exact ⟨fun q hq => ⟨rfl, rfl⟩, fun j hj => ⟨rfl, rfl⟩⟩)
          · refine TT_aload_n hK rfl 0 rfl dX12_decode_62 ?_
            refine gf_X12_96 hK (by decide) rfl (q := 100) rfl rfl dX12_decode_63 ?_
            refine TT_iconst hK dX12_decode_66 ?_
            refine TT_iald hK (o := 100) (n := 4700) (by decide) rfl (by first | omega | (simp [up, setR] <;> omega)) (by first | omega | (simp [up, setR] <;> omega)) (v := (h 100) 3) (rd_ (((hG_34.1 100 (by decide))).trans (((hG_27.1 100 (by decide))).trans (((hG_20.1 100 (by decide))).trans (sOf_ne _ _ (by decide))))) rfl) dX12_decode_67 ?_
            have r40 := ty_100 (i := 3) (v := (h 100) 3) hT_34 (rd_ (((hG_34.1 100 (by decide))).trans (((hG_27.1 100 (by decide))).trans (((hG_20.1 100 (by decide))).trans (sOf_ne _ _ (by decide))))) rfl) (by omega) (by omega)
            refine TT_iconst hK dX12_decode_68 ?_
            refine TT_iconst hK dX12_decode_69 ?_
            refine iv_X12_120 hK (s_X12_within ((h 100) 3) 1 3 g56_34 hT_34 (by first | omega | (simp [up, setR] <;> omega)) (by first | omega | (simp [up, setR] <;> omega)) (by first | omega | (simp [up, setR] <;> omega))) ⟨by decide, by decide⟩ (by decide) rfl rfl (Nat.le_of_ble_eq_true rfl) ⟨by decide, by decide⟩ dX12_decode_70 ?_
            intro r9 g70_41 hp9
            obtain ⟨⟨hT_41, hG_41⟩, z70_41, hr9, hz_41, p1_41, p2_41⟩ := hp9
            rw [hr9]
            have hF_41 : FRM [73, 77, 78, 79, 80, 81, 82, 83, 84, 85, 86, 87, 88, 93, 94, 95, 96, 97, 98, 99, 101, 102, 103, 104, 105, 106] [2, 26, 27, 28, 29, 32, 33, 34, 36, 38, 39, 42, 43, 44, 45, 50, 51, 52, 55] h g70_41 := FRM_tr hF_34 hG_41 (by decide) (by decide)
            show TT K ly 0 0 73 [(0, vR 73), (1, vI n)] [vI z70_41] g70_41
            refine TT_if_ne hK (tgt := 82) (irm (by omega) (by omega)) dX12_decode_73 (by decide) (fun hb73_42 => ?_) (fun hb73_42 => ?_)
            · refine TT_aload_n hK rfl 0 rfl dX12_decode_82 ?_
              refine gf_X12_96 hK (by decide) rfl (q := 100) rfl rfl dX12_decode_83 ?_
              refine TT_iconst hK dX12_decode_86 ?_
              refine TT_iald hK (o := 100) (n := 4700) (by decide) rfl (by first | omega | (simp [up, setR] <;> omega)) (by first | omega | (simp [up, setR] <;> omega)) (v := (h 100) 0) (rd_ (((hG_41.1 100 (by decide))).trans (((hG_34.1 100 (by decide))).trans (((hG_27.1 100 (by decide))).trans (((hG_20.1 100 (by decide))).trans (sOf_ne _ _ (by decide)))))) rfl) dX12_decode_87 ?_
              refine TT_nmI (fun wq hwq => ?_)
              refine TT_istore_n hK rfl (lv' := [(2, vI wq), (0, vR 73), (1, vI n)]) (by decide) rfl dX12_decode_88 ?_
              refine TT_aload_n hK rfl 1 rfl dX12_decode_89 ?_
              refine gf_X12_96 hK (by decide) rfl (q := 100) rfl rfl dX12_decode_90 ?_
              refine TT_iconst hK dX12_decode_93 ?_
              refine TT_iald hK (o := 100) (n := 4700) (by decide) rfl (by first | omega | (simp [up, setR] <;> omega)) (by first | omega | (simp [up, setR] <;> omega)) (v := (h 100) 1) (rd_ (((hG_41.1 100 (by decide))).trans (((hG_34.1 100 (by decide))).trans (((hG_27.1 100 (by decide))).trans (((hG_20.1 100 (by decide))).trans (sOf_ne _ _ (by decide)))))) rfl) dX12_decode_94 ?_
              refine TT_nmI (fun eq heq => ?_)
              refine TT_istore_n hK rfl (lv' := [(3, vI eq), (2, vI wq), (0, vR 73), (1, vI n)]) (by decide) rfl dX12_decode_95 ?_
              refine TT_aload_n hK rfl 2 rfl dX12_decode_96 ?_
              refine gf_X12_96 hK (by decide) rfl (q := 100) rfl rfl dX12_decode_97 ?_
              refine TT_iconst hK dX12_decode_100 ?_
              refine TT_iald hK (o := 100) (n := 4700) (by decide) rfl (by first | omega | (simp [up, setR] <;> omega)) (by first | omega | (simp [up, setR] <;> omega)) (v := (h 100) 2) (rd_ (((hG_41.1 100 (by decide))).trans (((hG_34.1 100 (by decide))).trans (((hG_27.1 100 (by decide))).trans (((hG_20.1 100 (by decide))).trans (sOf_ne _ _ (by decide)))))) rfl) dX12_decode_101 ?_
              refine TT_nmI (fun lq hlq => ?_)
              refine TT_istore hK (lv' := [(4, vI lq), (3, vI eq), (2, vI wq), (0, vR 73), (1, vI n)]) (by decide) rfl dX12_decode_102 ?_
              refine TT_aload_n hK rfl 3 rfl dX12_decode_104 ?_
              refine TT_bipush hK (by decide) dX12_decode_105 ?_
              refine TT_iload_n hK rfl 2 rfl dX12_decode_107 ?_
              refine TT_iload_n hK rfl 1 rfl dX12_decode_108 ?_
              refine TT_iload hK 0 rfl dX12_decode_109 ?_
              refine iv_X12_342 hK (s_beBands_y 10 wq eq lq g70_41 hT_41 (by first | omega | (simp [up, setR] <;> omega)) (by first | omega | (simp [up, setR] <;> omega)) (by first | omega | (simp [up, setR] <;> omega)) (by first | omega | (simp [up, setR] <;> omega))) (by decide) rfl ⟨by decide, by decide⟩ (by decide) rfl rfl (Nat.le_of_ble_eq_true rfl) ⟨by decide, by decide⟩ dX12_decode_111 ?_
              intro r9 g111_43 hp9
              obtain ⟨⟨hT_43, hG_43⟩, hr9, q1_43, q2_43, q3_43, q6_43⟩ := hp9
              rw [hr9]
              have hF_43 : FRM [73, 77, 78, 79, 80, 81, 82, 83, 84, 85, 86, 87, 88, 93, 94, 95, 96, 97, 98, 99, 101, 102, 103, 104, 105, 106] [2, 26, 27, 28, 29, 32, 33, 34, 36, 38, 39, 42, 43, 44, 45, 50, 51, 52, 55] h g111_43 := FRM_tr hF_41 hG_43 (by decide) (by decide)
              rw [show g70_41 80 = h 80 from ((hG_41.1 80 (by decide))).trans (((hG_34.1 80 (by decide))).trans (((hG_27.1 80 (by decide))).trans (((hG_20.1 80 (by decide))).trans (sOf_ne _ _ (by decide)))))] at q6_43
              rw [show g70_41 81 = h 81 from ((hG_41.1 81 (by decide))).trans (((hG_34.1 81 (by decide))).trans (((hG_27.1 81 (by decide))).trans (((hG_20.1 81 (by decide))).trans (sOf_ne _ _ (by decide)))))] at q6_43
              rw [show g70_41 84 = h 84 from ((hG_41.1 84 (by decide))).trans (((hG_34.1 84 (by decide))).trans (((hG_27.1 84 (by decide))).trans (((hG_20.1 84 (by decide))).trans (sOf_ne _ _ (by decide)))))] at q6_43
              rw [show g70_41 85 = h 85 from ((hG_41.1 85 (by decide))).trans (((hG_34.1 85 (by decide))).trans (((hG_27.1 85 (by decide))).trans (((hG_20.1 85 (by decide))).trans (sOf_ne _ _ (by decide)))))] at q6_43
              have q1_at111 := q1_43
              have q2_at111 := q2_43
              have q6_at111 := q6_43
              show TT K ly 0 0 114 [(4, vI lq), (3, vI eq), (2, vI wq), (0, vR 73), (1, vI n)] [] g111_43
              refine TT_iconst hK dX12_decode_114 ?_
              refine TT_istore hK (lv' := [(5, vI 0), (4, vI lq), (3, vI eq), (2, vI wq), (0, vR 73), (1, vI n)]) (by decide) rfl dX12_decode_115 ?_
              have L117_44 : ∀ (k44 : Nat) (j9 : Int) (w117_44 : Hp_), TY w117_44 → FRM [73, 77, 78, 79, 80, 81, 82, 83, 84, 85, 86, 87, 88, 93, 94, 95, 96, 97, 98, 99, 101, 102, 103, 104, 105, 106] [2, 26, 27, 28, 29, 32, 33, 34, 36, 38, 39, 42, 43, 44, 45, 50, 51, 52, 55] h w117_44 → (0 ≤ j9 ∧ j9 ≤ 10) → (∀ t : Int, 0 ≤ t → t < j9 → (w117_44 103) t = 0) → (∀ j : Int, 0 ≤ j → j < 3 * lq + 1 → (w117_44 80) (10 + j) = BW wq lq j) → (∀ j : Int, 0 ≤ j → j < 3 * lq + 1 → (w117_44 81) (10 + j) = BH eq lq j) → ((∀ q : Int, q < 10 → (w117_44 80) q = h 80 q ∧ (w117_44 81) q = h 81 q) ∧ (∀ j : Int, j < 640 → (w117_44 84) j = h 84 j ∧ (w117_44 85) j = h 85 j)) → ((10 : Int) - j9).toNat < k44 → TT K ly 0 0 117 [(0, vR 73), (1, vI n), (2, vI wq), (3, vI eq), (4, vI lq), (5, vI j9)] [] w117_44 := by
                intro k44
                induction k44 with
                | zero => intro j9 w117_44 hT117_44 hF117_44 hj9 hpz hbw hbh kq hk44; exact absurd hk44 (Nat.not_lt_zero _)
                | succ k44 ih44 =>
                  intro j9 w117_44 hT117_44 hF117_44 hj9 hpz hbw hbh kq hk44
                  refine TT_iload hK 5 rfl dX12_decode_117 ?_
                  refine TT_bipush hK (by decide) dX12_decode_119 ?_
                  refine TT_icmp_ge hK (tgt := 138) (irm (by omega) (by omega)) (by decide) dX12_decode_121 (by decide) (fun hb121_45 => ?_) (fun hb121_45 => ?_)
                  · refine TT_aload_n hK rfl 0 rfl dX12_decode_138 ?_
                    refine TT_iconst hK dX12_decode_139 ?_
                    refine pf_X12_375 hK (by decide) rfl (by first | decide | omega) dX12_decode_140 ?_
                    refine TT_hp (h' := setO w117_44 73 (fup (w117_44 73) 50 0)) (up_can rfl rfl rfl) ?_
                    have hT_46 : TY (setO w117_44 73 (fup (w117_44 73) 50 0)) := tu_73_50 hT117_44 (show up w117_44 73 50 0 = (setO w117_44 73 (fup (w117_44 73) 50 0)) from up_can rfl rfl rfl) (by omega)
                    have hF_46 : FRM [73, 77, 78, 79, 80, 81, 82, 83, 84, 85, 86, 87, 88, 93, 94, 95, 96, 97, 98, 99, 101, 102, 103, 104, 105, 106] [2, 26, 27, 28, 29, 32, 33, 34, 36, 38, 39, 42, 43, 44, 45, 50, 51, 52, 55] h (setO w117_44 73 (fup (w117_44 73) 50 0)) := FRM_f (show up w117_44 73 50 0 = (setO w117_44 73 (fup (w117_44 73) 50 0)) from up_can rfl rfl rfl) hF117_44 (by decide) (by decide)
                    refine TT_iconst hK dX12_decode_143 ?_
                    refine TT_istore hK (lv' := [(5, vI 0), (0, vR 73), (1, vI n), (2, vI wq), (3, vI eq), (4, vI lq)]) (by decide) rfl dX12_decode_144 ?_
                    refine TT_iconst hK dX12_decode_146 ?_
                    refine TT_istore hK (lv' := [(6, vI 4), (5, vI 0), (0, vR 73), (1, vI n), (2, vI wq), (3, vI eq), (4, vI lq)]) (by decide) rfl dX12_decode_147 ?_
                    refine TT_aload_n hK rfl 2 rfl dX12_decode_149 ?_
                    refine gf_X12_96 hK (by decide) rfl (q := 100) rfl rfl dX12_decode_150 ?_
                    refine TT_iconst hK dX12_decode_153 ?_
                    refine TT_iald hK (o := 100) (n := 4700) (by decide) rfl (by first | omega | (simp [up, setR] <;> omega)) (by first | omega | (simp [up, setR] <;> omega)) (v := (h 100) 3) (rd_ ((sOf_ne _ _ (by decide)).trans (hF117_44.1 100 (by decide))) rfl) dX12_decode_154 ?_
                    have r47 := ty_100 (i := 3) (v := (h 100) 3) hT_46 (rd_ ((sOf_ne _ _ (by decide)).trans (hF117_44.1 100 (by decide))) rfl) (by omega) (by omega)
                    refine TT_iload hK 6 rfl dX12_decode_155 ?_
                    refine TT_iconst hK dX12_decode_157 ?_
                    refine TT_iadd hK dX12_decode_158 ?_
                    refine TT_imul hK dX12_decode_159 ?_
                    refine TT_nmI (fun al hal => ?_)
                    refine TT_istore hK (lv' := [(7, vI al), (6, vI 4), (5, vI 0), (0, vR 73), (1, vI n), (2, vI wq), (3, vI eq), (4, vI lq)]) (by decide) rfl dX12_decode_160 ?_
                    have L162_48 : ∀ (k48 : Nat) (k : Int) (f : Int) (w162_48 : Hp_), TY w162_48 → FRM [73, 77, 78, 79, 80, 81, 82, 83, 84, 85, 86, 87, 88, 93, 94, 95, 96, 97, 98, 99, 101, 102, 103, 104, 105, 106] [2, 26, 27, 28, 29, 32, 33, 34, 36, 38, 39, 42, 43, 44, 45, 50, 51, 52, 55] h w162_48 → (0 ≤ k ∧ k ≤ al) → (-1 ≤ f ∧ f ≤ n) → (PQ (w162_48 103) lq k) → ((0 ≤ f → PSQ (w162_48 103) (w162_48 102) f) ∧ PSQ (w162_48 103) (w162_48 102) n) → (PAQ (w162_48 103) (w162_48 101) (w162_48 102)) → (∀ j : Int, 0 ≤ j → j < 3 * lq + 1 → (w162_48 80) (10 + j) = BW wq lq j) → (∀ j : Int, 0 ≤ j → j < 3 * lq + 1 → (w162_48 81) (10 + j) = BH eq lq j) → ((∀ q : Int, q < 10 → (w162_48 80) q = h 80 q ∧ (w162_48 81) q = h 81 q) ∧ (∀ j : Int, j < 640 → (w162_48 84) j = h 84 j ∧ (w162_48 85) j = h 85 j)) → (2 * (al - k) + min 1 (f + 1)).toNat < k48 → TT K ly 0 0 162 [(0, vR 73), (1, vI n), (2, vI wq), (3, vI eq), (4, vI lq), (5, vI k), (6, vI f), (7, vI al)] [] w162_48 := by
                      intro k48
                      induction k48 with
                      | zero => intro k f w162_48 hT162_48 hF162_48 hk hf hpq hps hpa hbw hbh kq hk48; exact absurd hk48 (Nat.not_lt_zero _)
                      | succ k48 ih48 =>
                        intro k f w162_48 hT162_48 hF162_48 hk hf hpq hps hpa hbw hbh kq hk48
                        have ha := pu2 hal (by omega) (by omega)
                        have ha3 := pu2b hal (by omega) (by omega)
                        have J209_49 : TT K ly 0 0 209 [(0, vR 73), (1, vI n), (2, vI wq), (3, vI eq), (4, vI lq), (5, vI k)] [] w162_48 := by
                          refine TT_aload_n hK rfl 0 rfl dX12_decode_209 ?_
                          refine gf_X12_375 hK (by decide) rfl (v := (w162_48 73) 50) rfl dX12_decode_210 ?_
                          have r50 := ty_73_50 (v := (w162_48 73) 50) hT162_48 rfl
                          refine TT_if_eq hK (tgt := 222) (irm (by omega) (by omega)) dX12_decode_213 (by decide) (fun hb213_51 => ?_) (fun hb213_51 => ?_)
                          · refine TT_aload_n hK rfl 0 rfl dX12_decode_222 ?_
                            refine TT_iload_n hK rfl 2 rfl dX12_decode_223 ?_
                            refine pf_X12_392 hK (by decide) rfl dX12_decode_224 ?_
                            refine TT_hp (h' := setO w162_48 73 (fup (w162_48 73) 51 wq)) (up_can rfl rfl rfl) ?_
                            have hT_52 : TY (setO w162_48 73 (fup (w162_48 73) 51 wq)) := tu_73_51 hT162_48 (show up w162_48 73 51 wq = (setO w162_48 73 (fup (w162_48 73) 51 wq)) from up_can rfl rfl rfl) (by omega)
                            have hF_52 : FRM [73, 77, 78, 79, 80, 81, 82, 83, 84, 85, 86, 87, 88, 93, 94, 95, 96, 97, 98, 99, 101, 102, 103, 104, 105, 106] [2, 26, 27, 28, 29, 32, 33, 34, 36, 38, 39, 42, 43, 44, 45, 50, 51, 52, 55] h (setO w162_48 73 (fup (w162_48 73) 51 wq)) := FRM_f (show up w162_48 73 51 wq = (setO w162_48 73 (fup (w162_48 73) 51 wq)) from up_can rfl rfl rfl) hF162_48 (by decide) (by decide)
                            refine TT_aload_n hK rfl 0 rfl dX12_decode_227 ?_
                            refine TT_iload_n hK rfl 3 rfl dX12_decode_228 ?_
                            refine pf_X12_395 hK (by decide) rfl dX12_decode_229 ?_
                            refine TT_hp (h' := setO w162_48 73 (fup (fup (w162_48 73) 51 wq) 52 eq)) (up_can (sOf_eq _ _ _) rfl (setO_same _ _ _ _)) ?_
                            have hT_53 : TY (setO w162_48 73 (fup (fup (w162_48 73) 51 wq) 52 eq)) := tu_73_52 hT_52 (show up (setO w162_48 73 (fup (w162_48 73) 51 wq)) 73 52 eq = (setO w162_48 73 (fup (fup (w162_48 73) 51 wq) 52 eq)) from up_can (sOf_eq _ _ _) rfl (setO_same _ _ _ _)) (by omega)
                            have hF_53 : FRM [73, 77, 78, 79, 80, 81, 82, 83, 84, 85, 86, 87, 88, 93, 94, 95, 96, 97, 98, 99, 101, 102, 103, 104, 105, 106] [2, 26, 27, 28, 29, 32, 33, 34, 36, 38, 39, 42, 43, 44, 45, 50, 51, 52, 55] h (setO w162_48 73 (fup (fup (w162_48 73) 51 wq) 52 eq)) := FRM_f (show up (setO w162_48 73 (fup (w162_48 73) 51 wq)) 73 52 eq = (setO w162_48 73 (fup (fup (w162_48 73) 51 wq) 52 eq)) from up_can (sOf_eq _ _ _) rfl (setO_same _ _ _ _)) hF_52 (by decide) (by decide)
                            refine TT_aload_n hK rfl 0 rfl dX12_decode_232 ?_
                            refine TT_iconst hK dX12_decode_233 ?_
                            refine TT_iload hK 4 rfl dX12_decode_234 ?_
                            refine TT_imul hK dX12_decode_236 ?_
                            refine TT_iconst hK dX12_decode_237 ?_
                            refine TT_iadd hK dX12_decode_238 ?_
                            refine pf_X12_398 hK (by decide) rfl dX12_decode_239 ?_
                            refine TT_hp (h' := setO w162_48 73 (fup (fup (fup (w162_48 73) 51 wq) 52 eq) 55 ((3 * lq) + 1))) (up_can (sOf_eq _ _ _) rfl (setO_same _ _ _ _)) ?_
                            have hT_54 : TY (setO w162_48 73 (fup (fup (fup (w162_48 73) 51 wq) 52 eq) 55 ((3 * lq) + 1))) := tu_73_55 hT_53 (show up (setO w162_48 73 (fup (fup (w162_48 73) 51 wq) 52 eq)) 73 55 ((3 * lq) + 1) = (setO w162_48 73 (fup (fup (fup (w162_48 73) 51 wq) 52 eq) 55 ((3 * lq) + 1))) from up_can (sOf_eq _ _ _) rfl (setO_same _ _ _ _)) (by omega)
                            have hF_54 : FRM [73, 77, 78, 79, 80, 81, 82, 83, 84, 85, 86, 87, 88, 93, 94, 95, 96, 97, 98, 99, 101, 102, 103, 104, 105, 106] [2, 26, 27, 28, 29, 32, 33, 34, 36, 38, 39, 42, 43, 44, 45, 50, 51, 52, 55] h (setO w162_48 73 (fup (fup (fup (w162_48 73) 51 wq) 52 eq) 55 ((3 * lq) + 1))) := FRM_f (show up (setO w162_48 73 (fup (fup (w162_48 73) 51 wq) 52 eq)) 73 55 ((3 * lq) + 1) = (setO w162_48 73 (fup (fup (fup (w162_48 73) 51 wq) 52 eq) 55 ((3 * lq) + 1))) from up_can (sOf_eq _ _ _) rfl (setO_same _ _ _ _)) hF_53 (by decide) (by decide)
                            refine TT_iconst hK dX12_decode_242 ?_
                            refine TT_istore hK (lv' := [(8, vI 0), (0, vR 73), (1, vI n), (2, vI wq), (3, vI eq), (4, vI lq), (5, vI k)]) (by decide) rfl dX12_decode_243 ?_
                            have L245_55 : ∀ (k55 : Nat) (b : Int) (w245_55 : Hp_), TY w245_55 → FRM [73, 77, 78, 79, 80, 81, 82, 83, 84, 85, 86, 87, 88, 93, 94, 95, 96, 97, 98, 99, 101, 102, 103, 104, 105, 106] [2, 26, 27, 28, 29, 32, 33, 34, 36, 38, 39, 42, 43, 44, 45, 50, 51, 52, 55] h w245_55 → (0 ≤ b ∧ b ≤ 3 * lq + 1) → ((w245_55 73 55) = 3 * lq + 1) → (PSQ (w245_55 103) (w245_55 102) n) → (PAQ (w245_55 103) (w245_55 101) (w245_55 102)) → (∀ j : Int, 0 ≤ j → j < 3 * lq + 1 → (w245_55 80) (10 + j) = BW wq lq j) → (∀ j : Int, 0 ≤ j → j < 3 * lq + 1 → (w245_55 81) (10 + j) = BH eq lq j) → ((∀ q : Int, q < 10 → (w245_55 80) q = h 80 q ∧ (w245_55 81) q = h 81 q) ∧ (∀ j : Int, j < 640 → (w245_55 84) j = h 84 j ∧ (w245_55 85) j = h 85 j)) → ((10 : Int) - b).toNat < k55 → TT K ly 0 0 245 [(0, vR 73), (1, vI n), (2, vI wq), (3, vI eq), (4, vI lq), (5, vI k), (8, vI b)] [] w245_55 := by
                              intro k55
                              induction k55 with
                              | zero => intro b w245_55 hT245_55 hF245_55 hb k55 hps2 hpa hbw hbh kq hk55; exact absurd hk55 (Nat.not_lt_zero _)
                              | succ k55 ih55 =>
                                intro b w245_55 hT245_55 hF245_55 hb k55 hps2 hpa hbw hbh kq hk55
                                refine TT_iload hK 6 rfl dX12_decode_245 ?_
                                refine TT_aload_n hK rfl 0 rfl dX12_decode_247 ?_
                                refine gf_X12_398 hK (by decide) rfl (v := (w245_55 73) 55) rfl dX12_decode_248 ?_
                                have r56 := ty_73_55 (v := (w245_55 73) 55) hT245_55 rfl
                                refine TT_icmp_ge hK (tgt := 298) (irm (by omega) (by omega)) (irm (by omega) (by omega)) dX12_decode_251 (by decide) (fun hb251_57 => ?_) (fun hb251_57 => ?_)
                                · refine TT_iload hK 4 rfl dX12_decode_298 ?_
                                  refine TT_iconst hK dX12_decode_300 ?_
                                  refine TT_isub hK dX12_decode_301 ?_
                                  refine TT_istore hK (lv' := [(8, vI (lq - 1)), (0, vR 73), (1, vI n), (2, vI wq), (3, vI eq), (4, vI lq), (5, vI k)]) (by decide) rfl dX12_decode_302 ?_
                                  have L304_58 : ∀ (k58 : Nat) (l2 : Int) (w304_58 : Hp_), TY w304_58 → FRM [73, 77, 78, 79, 80, 81, 82, 83, 84, 85, 86, 87, 88, 93, 94, 95, 96, 97, 98, 99, 101, 102, 103, 104, 105, 106] [2, 26, 27, 28, 29, 32, 33, 34, 36, 38, 39, 42, 43, 44, 45, 50, 51, 52, 55] h w304_58 → (-1 ≤ l2 ∧ l2 ≤ lq - 1) → ((∀ q : Int, q < 10 → (w304_58 80) q = h 80 q ∧ (w304_58 81) q = h 81 q) ∧ (∀ j : Int, j < 640 → (w304_58 84) j = h 84 j ∧ (w304_58 85) j = h 85 j)) → (l2 + 1).toNat < k58 → TT K ly 0 0 304 [(0, vR 73), (1, vI n), (2, vI wq), (3, vI eq), (4, vI lq), (5, vI k), (8, vI l2)] [] w304_58 := by
                                    intro k58
                                    induction k58 with
                                    | zero => intro l2 w304_58 hT304_58 hF304_58 hl2 kq hk58; exact absurd hk58 (Nat.not_lt_zero _)
                                    | succ k58 ih58 =>
                                      intro l2 w304_58 hT304_58 hF304_58 hl2 kq hk58
                                      refine TT_iload hK 6 rfl dX12_decode_304 ?_
                                      refine TT_if_lt hK (tgt := 349) (irm (by omega) (by omega)) dX12_decode_306 (by decide) (fun hb306_59 => ?_) (fun hb306_59 => ?_)
                                      · refine TT_iconst hK dX12_decode_349 ?_
                                        refine TT_istore hK (lv' := [(8, vI 0), (0, vR 73), (1, vI n), (2, vI wq), (3, vI eq), (4, vI lq), (5, vI k)]) (by decide) rfl dX12_decode_350 ?_
                                        have L352_60 : ∀ (k60 : Nat) (k2 : Int) (w352_60 : Hp_), TY w352_60 → FRM [73, 77, 78, 79, 80, 81, 82, 83, 84, 85, 86, 87, 88, 93, 94, 95, 96, 97, 98, 99, 101, 102, 103, 104, 105, 106] [2, 26, 27, 28, 29, 32, 33, 34, 36, 38, 39, 42, 43, 44, 45, 50, 51, 52, 55] h w352_60 → (0 ≤ k2 ∧ k2 ≤ 64) → ((∀ q : Int, q < 10 → (w352_60 80) q = h 80 q ∧ (w352_60 81) q = h 81 q) ∧ (∀ j : Int, j < 640 → (w352_60 84) j = h 84 j ∧ (w352_60 85) j = h 85 j)) → ((64 : Int) - k2).toNat < k60 → TT K ly 0 0 352 [(0, vR 73), (1, vI n), (2, vI wq), (3, vI eq), (4, vI lq), (5, vI k), (8, vI k2)] [] w352_60 := by
                                          intro k60
                                          induction k60 with
                                          | zero => intro k2 w352_60 hT352_60 hF352_60 hk2 kq hk60; exact absurd hk60 (Nat.not_lt_zero _)
                                          | succ k60 ih60 =>
                                            intro k2 w352_60 hT352_60 hF352_60 hk2 kq hk60
                                            refine TT_iload hK 6 rfl dX12_decode_352 ?_
                                            refine TT_bipush hK (by decide) dX12_decode_354 ?_
                                            refine TT_icmp_ge hK (tgt := 410) (irm (by omega) (by omega)) (by decide) dX12_decode_356 (by decide) (fun hb356_61 => ?_) (fun hb356_61 => ?_)
                                            · refine TT_iload hK 5 rfl dX12_decode_410 ?_
                                              refine TT_iret hK hQ ?_ dX12_decode_412
                                              exact ⟨⟨hT352_60, hF352_60⟩, k, rfl, (by omega), (by exact kq)⟩
                                            · refine TT_aload_n hK rfl 0 rfl dX12_decode_359 ?_
                                              refine gf_X12_26 hK (by decide) rfl (q := 77) rfl rfl dX12_decode_360 ?_
                                              refine TT_iload hK 6 rfl dX12_decode_363 ?_
                                              refine TT_iald hK (o := 77) (n := 64) (by decide) rfl (by first | omega | (simp [up, setR] <;> omega)) (by first | omega | (simp [up, setR] <;> omega)) (v := (w352_60 77) k2) rfl dX12_decode_365 ?_
                                              have r62 := ty_77 (i := k2) (v := (w352_60 77) k2) hT352_60 rfl (by omega) (by omega)
                                              refine TT_sipush hK (by decide) dX12_decode_366 ?_
                                              refine TT_iadd hK dX12_decode_369 ?_
                                              refine TT_w32 (fun x370_63 hx63 => ?_)
                                              refine TT_istore hK (lv' := [(9, vI x370_63), (0, vR 73), (1, vI n), (2, vI wq), (3, vI eq), (4, vI lq), (5, vI k), (8, vI k2)]) (by decide) rfl dX12_decode_370 ?_
                                              refine TT_aload_n hK rfl 1 rfl dX12_decode_372 ?_
                                              refine gf_X12_111 hK (by decide) rfl (q := 105) rfl rfl dX12_decode_373 ?_
                                              refine TT_iload hK 7 rfl dX12_decode_376 ?_
                                              refine TT_iload hK 0 rfl dX12_decode_378 ?_
                                              refine TT_if_ge hK (tgt := 387) (irm (by omega) (by omega)) dX12_decode_380 (by decide) (fun hb380_64 => ?_) (fun hb380_64 => ?_)
                                              · refine TT_iload hK 0 rfl dX12_decode_387 ?_
                                                refine TT_sipush hK (by decide) dX12_decode_389 ?_
                                                refine TT_icmp_le hK (tgt := 401) (irm (by omega) (by omega)) (by decide) dX12_decode_392 (by decide) (fun hb392_65 => ?_) (fun hb392_65 => ?_)
                                                · refine TT_iload hK 0 rfl dX12_decode_401 ?_
                                                  refine TT_iast hK (o := 105) (n := 64) (by decide) rfl (by omega) (by omega) dX12_decode_403 ?_
                                                  refine TT_hp (h' := setO w352_60 105 (fup (w352_60 105) k2 x370_63)) (up_can rfl rfl rfl) ?_
                                                  have hT_66 : TY (setO w352_60 105 (fup (w352_60 105) k2 x370_63)) := tu_105 hT352_60 (show up w352_60 105 k2 x370_63 = (setO w352_60 105 (fup (w352_60 105) k2 x370_63)) from up_can rfl rfl rfl) (by omega)
                                                  have hF_66 : FRM [73, 77, 78, 79, 80, 81, 82, 83, 84, 85, 86, 87, 88, 93, 94, 95, 96, 97, 98, 99, 101, 102, 103, 104, 105, 106] [2, 26, 27, 28, 29, 32, 33, 34, 36, 38, 39, 42, 43, 44, 45, 50, 51, 52, 55] h (setO w352_60 105 (fup (w352_60 105) k2 x370_63)) := FRM_up (show up w352_60 105 k2 x370_63 = (setO w352_60 105 (fup (w352_60 105) k2 x370_63)) from up_can rfl rfl rfl) hF352_60 (by decide) (by decide)
                                                  refine TT_iinc hK (v := k2 + 1) (lv' := [(8, vI (k2 + 1)), (9, vI x370_63), (0, vR 73), (1, vI n), (2, vI wq), (3, vI eq), (4, vI lq), (5, vI k)]) 7 rfl rfl (by decide) rfl dX12_decode_404 ?_
                                                  refine TT_goto hK (tgt := 352) dX12_decode_407 (by decide) ?_
                                                  refine TT_sub [2, 3, 4, 5, 6, 7, 0] rfl ?_
                                                  have e67_80 : (setO w352_60 105 (fup (w352_60 105) k2 x370_63)) 80 = w352_60 80 := sOf_ne _ _ (by decide)
                                                  have e68_81 : (setO w352_60 105 (fup (w352_60 105) k2 x370_63)) 81 = w352_60 81 := sOf_ne _ _ (by decide)
                                                  have e69_84 : (setO w352_60 105 (fup (w352_60 105) k2 x370_63)) 84 = w352_60 84 := sOf_ne _ _ (by decide)
                                                  have e70_85 : (setO w352_60 105 (fup (w352_60 105) k2 x370_63)) 85 = w352_60 85 := sOf_ne _ _ (by decide)
                                                  exact ih60 (k2 + 1) (setO w352_60 105 (fup (w352_60 105) k2 x370_63)) hT_66 hF_66 (by first | omega | (simp [up, setR] <;> omega)) (by rewrite [e67_80, e68_81, e69_84, e70_85]; exact kq) (by first | omega | (simp [up, setR] <;> omega))
                                                · refine TT_sipush hK (by decide) dX12_decode_395 ?_
                                                  refine TT_goto hK (tgt := 403) dX12_decode_398 (by decide) ?_
                                                  refine TT_iast hK (o := 105) (n := 64) (by decide) rfl (by omega) (by omega) dX12_decode_403 ?_
                                                  refine TT_hp (h' := setO w352_60 105 (fup (w352_60 105) k2 255)) (up_can rfl rfl rfl) ?_
                                                  have hT_71 : TY (setO w352_60 105 (fup (w352_60 105) k2 255)) := tu_105 hT352_60 (show up w352_60 105 k2 255 = (setO w352_60 105 (fup (w352_60 105) k2 255)) from up_can rfl rfl rfl) (by omega)
                                                  have hF_71 : FRM [73, 77, 78, 79, 80, 81, 82, 83, 84, 85, 86, 87, 88, 93, 94, 95, 96, 97, 98, 99, 101, 102, 103, 104, 105, 106] [2, 26, 27, 28, 29, 32, 33, 34, 36, 38, 39, 42, 43, 44, 45, 50, 51, 52, 55] h (setO w352_60 105 (fup (w352_60 105) k2 255)) := FRM_up (show up w352_60 105 k2 255 = (setO w352_60 105 (fup (w352_60 105) k2 255)) from up_can rfl rfl rfl) hF352_60 (by decide) (by decide)
                                                  refine TT_iinc hK (v := k2 + 1) (lv' := [(8, vI (k2 + 1)), (9, vI x370_63), (0, vR 73), (1, vI n), (2, vI wq), (3, vI eq), (4, vI lq), (5, vI k)]) 7 rfl rfl (by decide) rfl dX12_decode_404 ?_
                                                  refine TT_goto hK (tgt := 352) dX12_decode_407 (by decide) ?_
                                                  refine TT_sub [2, 3, 4, 5, 6, 7, 0] rfl ?_
                                                  have e72_80 : (setO w352_60 105 (fup (w352_60 105) k2 255)) 80 = w352_60 80 := sOf_ne _ _ (by decide)
                                                  have e73_81 : (setO w352_60 105 (fup (w352_60 105) k2 255)) 81 = w352_60 81 := sOf_ne _ _ (by decide)
                                                  have e74_84 : (setO w352_60 105 (fup (w352_60 105) k2 255)) 84 = w352_60 84 := sOf_ne _ _ (by decide)
                                                  have e75_85 : (setO w352_60 105 (fup (w352_60 105) k2 255)) 85 = w352_60 85 := sOf_ne _ _ (by decide)
                                                  exact ih60 (k2 + 1) (setO w352_60 105 (fup (w352_60 105) k2 255)) hT_71 hF_71 (by first | omega | (simp [up, setR] <;> omega)) (by rewrite [e72_80, e73_81, e74_84, e75_85]; exact kq) (by first | omega | (simp [up, setR] <;> omega))
                                              · refine TT_iconst hK dX12_decode_383 ?_
                                                refine TT_goto hK (tgt := 403) dX12_decode_384 (by decide) ?_
                                                refine TT_iast hK (o := 105) (n := 64) (by decide) rfl (by omega) (by omega) dX12_decode_403 ?_
                                                refine TT_hp (h' := setO w352_60 105 (fup (w352_60 105) k2 0)) (up_can rfl rfl rfl) ?_
                                                have hT_76 : TY (setO w352_60 105 (fup (w352_60 105) k2 0)) := tu_105 hT352_60 (show up w352_60 105 k2 0 = (setO w352_60 105 (fup (w352_60 105) k2 0)) from up_can rfl rfl rfl) (by omega)
                                                have hF_76 : FRM [73, 77, 78, 79, 80, 81, 82, 83, 84, 85, 86, 87, 88, 93, 94, 95, 96, 97, 98, 99, 101, 102, 103, 104, 105, 106] [2, 26, 27, 28, 29, 32, 33, 34, 36, 38, 39, 42, 43, 44, 45, 50, 51, 52, 55] h (setO w352_60 105 (fup (w352_60 105) k2 0)) := FRM_up (show up w352_60 105 k2 0 = (setO w352_60 105 (fup (w352_60 105) k2 0)) from up_can rfl rfl rfl) hF352_60 (by decide) (by decide)
                                                refine TT_iinc hK (v := k2 + 1) (lv' := [(8, vI (k2 + 1)), (9, vI x370_63), (0, vR 73), (1, vI n), (2, vI wq), (3, vI eq), (4, vI lq), (5, vI k)]) 7 rfl rfl (by decide) rfl dX12_decode_404 ?_
                                                refine TT_goto hK (tgt := 352) dX12_decode_407 (by decide) ?_
                                                refine TT_sub [2, 3, 4, 5, 6, 7, 0] rfl ?_
                                                have e77_80 : (setO w352_60 105 (fup (w352_60 105) k2 0)) 80 = w352_60 80 := sOf_ne _ _ (by decide)
                                                have e78_81 : (setO w352_60 105 (fup (w352_60 105) k2 0)) 81 = w352_60 81 := sOf_ne _ _ (by decide)
                                                have e79_84 : (setO w352_60 105 (fup (w352_60 105) k2 0)) 84 = w352_60 84 := sOf_ne _ _ (by decide)
                                                have e80_85 : (setO w352_60 105 (fup (w352_60 105) k2 0)) 85 = w352_60 85 := sOf_ne _ _ (by decide)
                                                exact ih60 (k2 + 1) (setO w352_60 105 (fup (w352_60 105) k2 0)) hT_76 hF_76 (by first | omega | (simp [up, setR] <;> omega)) (by rewrite [e77_80, e78_81, e79_84, e80_85]; exact kq) (by first | omega | (simp [up, setR] <;> omega))
                                        refine TT_sub [1, 2, 3, 4, 5, 6, 0] rfl ?_
                                        exact L352_60 ((((64 : Int) - 0).toNat) + 1) 0 w304_58 hT304_58 hF304_58 (by first | omega | (simp [up, setR] <;> omega)) (by exact kq) (Nat.lt_succ_self _)
                                      · refine TT_aload_n hK rfl 0 rfl dX12_decode_309 ?_
                                        refine TT_iload_n hK rfl 2 rfl dX12_decode_310 ?_
                                        refine TT_iload hK 6 rfl dX12_decode_311 ?_
                                        refine iv_X12_153 hK (s_X12_left wq l2 w304_58 hT304_58 (by first | omega | (simp [up, setR] <;> omega)) (by first | omega | (simp [up, setR] <;> omega))) ⟨by decide, by decide⟩ (by decide) rfl rfl (Nat.le_of_ble_eq_true rfl) ⟨by decide, by decide⟩ dX12_decode_313 ?_
                                        intro r9 g313_81 hp9
                                        obtain ⟨⟨hT_81, hG_81⟩, z313_81, hr9, hz_81, p1_81⟩ := hp9
                                        rw [hr9]
                                        have hF_81 : FRM [73, 77, 78, 79, 80, 81, 82, 83, 84, 85, 86, 87, 88, 93, 94, 95, 96, 97, 98, 99, 101, 102, 103, 104, 105, 106] [2, 26, 27, 28, 29, 32, 33, 34, 36, 38, 39, 42, 43, 44, 45, 50, 51, 52, 55] h g313_81 := FRM_tr hF304_58 hG_81 (by decide) (by decide)
                                        show TT K ly 0 0 316 [(0, vR 73), (1, vI n), (2, vI wq), (3, vI eq), (4, vI lq), (5, vI k), (8, vI l2)] [vI z313_81, vR 73] g313_81
                                        refine TT_iload_n hK rfl 3 rfl dX12_decode_316 ?_
                                        refine TT_iload hK 6 rfl dX12_decode_317 ?_
                                        refine iv_X12_153 hK (s_X12_left eq l2 g313_81 hT_81 (by first | omega | (simp [up, setR] <;> omega)) (by first | omega | (simp [up, setR] <;> omega))) ⟨by decide, by decide⟩ (by decide) rfl rfl (Nat.le_of_ble_eq_true rfl) ⟨by decide, by decide⟩ dX12_decode_319 ?_
                                        intro r9 g319_82 hp9
                                        obtain ⟨⟨hT_82, hG_82⟩, z319_82, hr9, hz_82, p1_82⟩ := hp9
                                        rw [hr9]
                                        have hF_82 : FRM [73, 77, 78, 79, 80, 81, 82, 83, 84, 85, 86, 87, 88, 93, 94, 95, 96, 97, 98, 99, 101, 102, 103, 104, 105, 106] [2, 26, 27, 28, 29, 32, 33, 34, 36, 38, 39, 42, 43, 44, 45, 50, 51, 52, 55] h g319_82 := FRM_tr hF_81 hG_82 (by decide) (by decide)
                                        show TT K ly 0 0 322 [(0, vR 73), (1, vI n), (2, vI wq), (3, vI eq), (4, vI lq), (5, vI k), (8, vI l2)] [vI z319_82, vI z313_81, vR 73] g319_82
                                        refine TT_iconst hK dX12_decode_322 ?_
                                        refine iv_X12_339 hK (s_rows_1 z313_81 z319_82 g319_82 hT_82 (by first | omega | (simp [up, setR] <;> omega)) (by first | omega | (simp [up, setR] <;> omega))) (by decide) rfl ⟨by decide, by decide⟩ (by decide) rfl rfl (Nat.le_of_ble_eq_true rfl) ⟨by decide, by decide⟩ dX12_decode_323 ?_
                                        intro r9 g323_83 hp9
                                        obtain ⟨⟨hT_83, hG_83⟩, hr9⟩ := hp9
                                        rw [hr9]
                                        have hF_83 : FRM [73, 77, 78, 79, 80, 81, 82, 83, 84, 85, 86, 87, 88, 93, 94, 95, 96, 97, 98, 99, 101, 102, 103, 104, 105, 106] [2, 26, 27, 28, 29, 32, 33, 34, 36, 38, 39, 42, 43, 44, 45, 50, 51, 52, 55] h g323_83 := FRM_tr hF_82 hG_83 (by decide) (by decide)
                                        show TT K ly 0 0 326 [(0, vR 73), (1, vI n), (2, vI wq), (3, vI eq), (4, vI lq), (5, vI k), (8, vI l2)] [] g323_83
                                        refine TT_aload_n hK rfl 0 rfl dX12_decode_326 ?_
                                        refine TT_iload_n hK rfl 2 rfl dX12_decode_327 ?_
                                        refine TT_iload hK 6 rfl dX12_decode_328 ?_
                                        refine iv_X12_153 hK (s_X12_left wq l2 g323_83 hT_83 (by first | omega | (simp [up, setR] <;> omega)) (by first | omega | (simp [up, setR] <;> omega))) ⟨by decide, by decide⟩ (by decide) rfl rfl (Nat.le_of_ble_eq_true rfl) ⟨by decide, by decide⟩ dX12_decode_330 ?_
                                        intro r9 g330_84 hp9
                                        obtain ⟨⟨hT_84, hG_84⟩, z330_84, hr9, hz_84, p1_84⟩ := hp9
                                        rw [hr9]
                                        have hF_84 : FRM [73, 77, 78, 79, 80, 81, 82, 83, 84, 85, 86, 87, 88, 93, 94, 95, 96, 97, 98, 99, 101, 102, 103, 104, 105, 106] [2, 26, 27, 28, 29, 32, 33, 34, 36, 38, 39, 42, 43, 44, 45, 50, 51, 52, 55] h g330_84 := FRM_tr hF_83 hG_84 (by decide) (by decide)
                                        show TT K ly 0 0 333 [(0, vR 73), (1, vI n), (2, vI wq), (3, vI eq), (4, vI lq), (5, vI k), (8, vI l2)] [vI z330_84, vR 73] g330_84
                                        refine TT_iload_n hK rfl 3 rfl dX12_decode_333 ?_
                                        refine TT_iload hK 6 rfl dX12_decode_334 ?_
                                        refine iv_X12_153 hK (s_X12_left eq l2 g330_84 hT_84 (by first | omega | (simp [up, setR] <;> omega)) (by first | omega | (simp [up, setR] <;> omega))) ⟨by decide, by decide⟩ (by decide) rfl rfl (Nat.le_of_ble_eq_true rfl) ⟨by decide, by decide⟩ dX12_decode_336 ?_
                                        intro r9 g336_85 hp9
                                        obtain ⟨⟨hT_85, hG_85⟩, z336_85, hr9, hz_85, p1_85⟩ := hp9
                                        rw [hr9]
                                        have hF_85 : FRM [73, 77, 78, 79, 80, 81, 82, 83, 84, 85, 86, 87, 88, 93, 94, 95, 96, 97, 98, 99, 101, 102, 103, 104, 105, 106] [2, 26, 27, 28, 29, 32, 33, 34, 36, 38, 39, 42, 43, 44, 45, 50, 51, 52, 55] h g336_85 := FRM_tr hF_84 hG_85 (by decide) (by decide)
                                        show TT K ly 0 0 339 [(0, vR 73), (1, vI n), (2, vI wq), (3, vI eq), (4, vI lq), (5, vI k), (8, vI l2)] [vI z336_85, vI z330_84, vR 73] g336_85
                                        refine TT_iconst hK dX12_decode_339 ?_
                                        refine iv_X12_335 hK (s_columns_1 z330_84 z336_85 g336_85 hT_85 (by first | omega | (simp [up, setR] <;> omega)) (by first | omega | (simp [up, setR] <;> omega))) (by decide) rfl ⟨by decide, by decide⟩ (by decide) rfl rfl (Nat.le_of_ble_eq_true rfl) ⟨by decide, by decide⟩ dX12_decode_340 ?_
                                        intro r9 g340_86 hp9
                                        obtain ⟨⟨hT_86, hG_86⟩, hr9⟩ := hp9
                                        rw [hr9]
                                        have hF_86 : FRM [73, 77, 78, 79, 80, 81, 82, 83, 84, 85, 86, 87, 88, 93, 94, 95, 96, 97, 98, 99, 101, 102, 103, 104, 105, 106] [2, 26, 27, 28, 29, 32, 33, 34, 36, 38, 39, 42, 43, 44, 45, 50, 51, 52, 55] h g340_86 := FRM_tr hF_85 hG_86 (by decide) (by decide)
                                        show TT K ly 0 0 343 [(0, vR 73), (1, vI n), (2, vI wq), (3, vI eq), (4, vI lq), (5, vI k), (8, vI l2)] [] g340_86
                                        refine TT_iinc hK (v := l2 - 1) (lv' := [(8, vI (l2 - 1)), (0, vR 73), (1, vI n), (2, vI wq), (3, vI eq), (4, vI lq), (5, vI k)]) 6 rfl (by omega) (by decide) rfl dX12_decode_343 ?_
                                        refine TT_goto hK (tgt := 304) dX12_decode_346 (by decide) ?_
                                        refine TT_sub [1, 2, 3, 4, 5, 6, 0] rfl ?_
                                        have e87_80 : g340_86 80 = w304_58 80 := ((hG_86.1 80 (by decide))).trans (((hG_85.1 80 (by decide))).trans (((hG_84.1 80 (by decide))).trans (((hG_83.1 80 (by decide))).trans (((hG_82.1 80 (by decide))).trans (hG_81.1 80 (by decide))))))
                                        have e88_81 : g340_86 81 = w304_58 81 := ((hG_86.1 81 (by decide))).trans (((hG_85.1 81 (by decide))).trans (((hG_84.1 81 (by decide))).trans (((hG_83.1 81 (by decide))).trans (((hG_82.1 81 (by decide))).trans (hG_81.1 81 (by decide))))))
                                        have e89_84 : g340_86 84 = w304_58 84 := ((hG_86.1 84 (by decide))).trans (((hG_85.1 84 (by decide))).trans (((hG_84.1 84 (by decide))).trans (((hG_83.1 84 (by decide))).trans (((hG_82.1 84 (by decide))).trans (hG_81.1 84 (by decide))))))
                                        have e90_85 : g340_86 85 = w304_58 85 := ((hG_86.1 85 (by decide))).trans (((hG_85.1 85 (by decide))).trans (((hG_84.1 85 (by decide))).trans (((hG_83.1 85 (by decide))).trans (((hG_82.1 85 (by decide))).trans (hG_81.1 85 (by decide))))))
                                        exact ih58 (l2 - 1) g340_86 hT_86 hF_86 (by first | omega | (simp [up, setR] <;> omega)) (by rewrite [e87_80, e88_81, e89_84, e90_85]; exact kq) (by first | omega | (simp [up, setR] <;> omega))
                                  refine TT_sub [1, 2, 3, 4, 5, 6, 0] rfl ?_
                                  exact L304_58 ((((lq - 1) + 1).toNat) + 1) (lq - 1) w245_55 hT245_55 hF245_55 (by first | omega | (simp [up, setR] <;> omega)) (by exact kq) (Nat.lt_succ_self _)
                                · have k103 := ty_103 (i := b) (v := (w245_55 103) b) hT245_55 rfl (by omega) (by omega)
                                  have p103 := hps2 b (by omega) (by omega) k103.2
                                  refine TT_aload_n hK rfl 0 rfl dX12_decode_254 ?_
                                  refine gf_X12_114 hK (by decide) rfl (q := 106) rfl rfl dX12_decode_255 ?_
                                  refine TT_iload hK 6 rfl dX12_decode_258 ?_
                                  refine TT_aload_n hK rfl 0 rfl dX12_decode_260 ?_
                                  refine gf_X12_57 hK (by decide) rfl (q := 87) rfl rfl dX12_decode_261 ?_
                                  refine TT_bipush hK (by decide) dX12_decode_264 ?_
                                  refine TT_iload hK 6 rfl dX12_decode_266 ?_
                                  refine TT_iadd hK dX12_decode_268 ?_
                                  refine TT_iald hK (o := 87) (n := 20) (by decide) rfl (by first | omega | (simp [up, setR] <;> omega)) (by first | omega | (simp [up, setR] <;> omega)) (v := (w245_55 87) (10 + b)) rfl dX12_decode_269 ?_
                                  have r91 := ty_87 (i := 10 + b) (v := (w245_55 87) (10 + b)) hT245_55 rfl (by omega) (by omega)
                                  refine TT_iast hK (o := 106) (n := 10) (by decide) rfl (by omega) (by omega) dX12_decode_270 ?_
                                  refine TT_hp (h' := setO w245_55 106 (fup (w245_55 106) b ((w245_55 87) (10 + b)))) (up_can rfl rfl rfl) ?_
                                  have hT_92 : TY (setO w245_55 106 (fup (w245_55 106) b ((w245_55 87) (10 + b)))) := tu_106 hT245_55 (show up w245_55 106 b ((w245_55 87) (10 + b)) = (setO w245_55 106 (fup (w245_55 106) b ((w245_55 87) (10 + b)))) from up_can rfl rfl rfl) (by omega)
                                  have hF_92 : FRM [73, 77, 78, 79, 80, 81, 82, 83, 84, 85, 86, 87, 88, 93, 94, 95, 96, 97, 98, 99, 101, 102, 103, 104, 105, 106] [2, 26, 27, 28, 29, 32, 33, 34, 36, 38, 39, 42, 43, 44, 45, 50, 51, 52, 55] h (setO w245_55 106 (fup (w245_55 106) b ((w245_55 87) (10 + b)))) := FRM_up (show up w245_55 106 b ((w245_55 87) (10 + b)) = (setO w245_55 106 (fup (w245_55 106) b ((w245_55 87) (10 + b)))) from up_can rfl rfl rfl) hF245_55 (by decide) (by decide)
                                  refine TT_aload_n hK rfl 0 rfl dX12_decode_271 ?_
                                  refine TT_iload hK 6 rfl dX12_decode_272 ?_
                                  have e93_74 : (setO w245_55 106 (fup (w245_55 106) b ((w245_55 87) (10 + b)))) 74 = h 74 := (sOf_ne _ _ (by decide)).trans (hF245_55.1 74 (by decide))
                                  have e94_75 : (setO w245_55 106 (fup (w245_55 106) b ((w245_55 87) (10 + b)))) 75 = h 75 := (sOf_ne _ _ (by decide)).trans (hF245_55.1 75 (by decide))
                                  have e95_102 : (setO w245_55 106 (fup (w245_55 106) b ((w245_55 87) (10 + b)))) 102 = w245_55 102 := sOf_ne _ _ (by decide)
                                  have e96_103 : (setO w245_55 106 (fup (w245_55 106) b ((w245_55 87) (10 + b)))) 103 = w245_55 103 := sOf_ne _ _ (by decide)
                                  have e97_101 : (setO w245_55 106 (fup (w245_55 106) b ((w245_55 87) (10 + b)))) 101 = w245_55 101 := sOf_ne _ _ (by decide)
                                  have e98_102 : (setO w245_55 106 (fup (w245_55 106) b ((w245_55 87) (10 + b)))) 102 = w245_55 102 := sOf_ne _ _ (by decide)
                                  have e99_103 : (setO w245_55 106 (fup (w245_55 106) b ((w245_55 87) (10 + b)))) 103 = w245_55 103 := sOf_ne _ _ (by decide)
                                  refine iv_X12_401 hK (s_readBand_k b (setO w245_55 106 (fup (w245_55 106) b ((w245_55 87) (10 + b)))) hT_92 (by first | omega | (simp [up, setR] <;> omega)) (by rewrite [e93_74, e94_75]; first | assumption | exact htb) (by rewrite [e95_102, e96_103]; omega) (by rewrite [e97_101, e98_102, e99_103]; intro k h1 h2; exact hpa b k (by omega) (by omega) h1 h2 (by omega))) (by decide) rfl ⟨by decide, by decide⟩ (by decide) rfl rfl (Nat.le_of_ble_eq_true rfl) ⟨by decide, by decide⟩ dX12_decode_274 ?_
                                  intro r9 g274_100 hp9
                                  obtain ⟨⟨hT_100, hG_100⟩, hr9, pk_100⟩ := hp9
                                  rw [hr9]
                                  have hF_100 : FRM [73, 77, 78, 79, 80, 81, 82, 83, 84, 85, 86, 87, 88, 93, 94, 95, 96, 97, 98, 99, 101, 102, 103, 104, 105, 106] [2, 26, 27, 28, 29, 32, 33, 34, 36, 38, 39, 42, 43, 44, 45, 50, 51, 52, 55] h g274_100 := FRM_tr hF_92 hG_100 (by decide) (by decide)
                                  rw [show (setO w245_55 106 (fup (w245_55 106) b ((w245_55 87) (10 + b)))) 84 = w245_55 84 from sOf_ne _ _ (by decide)] at pk_100
                                  rw [show (setO w245_55 106 (fup (w245_55 106) b ((w245_55 87) (10 + b)))) 85 = w245_55 85 from sOf_ne _ _ (by decide)] at pk_100
                                  have pk_at274 := pk_100
                                  show TT K ly 0 0 277 [(0, vR 73), (1, vI n), (2, vI wq), (3, vI eq), (4, vI lq), (5, vI k), (8, vI b)] [] g274_100
                                  refine TT_aload_n hK rfl 0 rfl dX12_decode_277 ?_
                                  refine TT_iload hK 6 rfl dX12_decode_278 ?_
                                  refine TT_iload hK 6 rfl dX12_decode_280 ?_
                                  refine TT_iload_n hK rfl 2 rfl dX12_decode_282 ?_
                                  refine TT_iload_n hK rfl 3 rfl dX12_decode_283 ?_
                                  refine TT_iload hK 4 rfl dX12_decode_284 ?_
                                  refine iv_X12_348 hK (s_corner_x b wq eq lq g274_100 hT_100 (by first | omega | (simp [up, setR] <;> omega)) (by first | omega | (simp [up, setR] <;> omega)) (by first | omega | (simp [up, setR] <;> omega)) (by first | omega | (simp [up, setR] <;> omega))) ⟨by decide, by decide⟩ (by decide) rfl rfl (Nat.le_of_ble_eq_true rfl) ⟨by decide, by decide⟩ dX12_decode_286 ?_
                                  intro r9 g286_101 hp9
                                  obtain ⟨⟨hT_101, hG_101⟩, z286_101, hr9, hz_101, p1_101⟩ := hp9
                                  rw [hr9]
                                  have hF_101 : FRM [73, 77, 78, 79, 80, 81, 82, 83, 84, 85, 86, 87, 88, 93, 94, 95, 96, 97, 98, 99, 101, 102, 103, 104, 105, 106] [2, 26, 27, 28, 29, 32, 33, 34, 36, 38, 39, 42, 43, 44, 45, 50, 51, 52, 55] h g286_101 := FRM_tr hF_100 hG_101 (by decide) (by decide)
                                  have p1_at286 := p1_101
                                  show TT K ly 0 0 289 [(0, vR 73), (1, vI n), (2, vI wq), (3, vI eq), (4, vI lq), (5, vI k), (8, vI b)] [vI z286_101, vI b, vR 73] g286_101
                                  have e102_80 : g286_101 80 = w245_55 80 := ((hG_101.1 80 (by decide))).trans (((hG_100.1 80 (by decide))).trans (sOf_ne _ _ (by decide)))
                                  have e103_81 : g286_101 81 = w245_55 81 := ((hG_101.1 81 (by decide))).trans (((hG_100.1 81 (by decide))).trans (sOf_ne _ _ (by decide)))
                                  refine iv_X12_404 hK (s_X12_unloadBand_73 b z286_101 g286_101 hT_101 (by first | omega | (simp [up, setR] <;> omega)) (by rewrite [e102_80, e103_81]; rw [hbw b (by omega) (by omega), hbh b (by omega) (by omega)]; exact p1_at286)) (by decide) rfl ⟨by decide, by decide⟩ (by decide) rfl rfl (Nat.le_of_ble_eq_true rfl) ⟨by decide, by decide⟩ dX12_decode_289 ?_
                                  intro r9 g289_104 hp9
                                  obtain ⟨⟨hT_104, hG_104⟩, hr9⟩ := hp9
                                  rw [hr9]
                                  have hF_104 : FRM [73, 77, 78, 79, 80, 81, 82, 83, 84, 85, 86, 87, 88, 93, 94, 95, 96, 97, 98, 99, 101, 102, 103, 104, 105, 106] [2, 26, 27, 28, 29, 32, 33, 34, 36, 38, 39, 42, 43, 44, 45, 50, 51, 52, 55] h g289_104 := FRM_tr hF_101 hG_104 (by decide) (by decide)
                                  show TT K ly 0 0 292 [(0, vR 73), (1, vI n), (2, vI wq), (3, vI eq), (4, vI lq), (5, vI k), (8, vI b)] [] g289_104
                                  refine TT_iinc hK (v := b + 1) (lv' := [(8, vI (b + 1)), (0, vR 73), (1, vI n), (2, vI wq), (3, vI eq), (4, vI lq), (5, vI k)]) 6 rfl rfl (by decide) rfl dX12_decode_292 ?_
                                  refine TT_goto hK (tgt := 245) dX12_decode_295 (by decide) ?_
                                  refine TT_sub [1, 2, 3, 4, 5, 6, 0] rfl ?_
                                  have e105_73_55 : g289_104 73 55 = (w245_55 73) 55 := (congrFun (hG_104.1 73 (by decide)) 55).trans ((congrFun (hG_101.1 73 (by decide)) 55).trans (((hG_100.2 55 (by decide))).trans (rd_ (sOf_ne _ _ (by decide)) rfl)))
                                  have e106_102 : g289_104 102 = w245_55 102 := ((hG_104.1 102 (by decide))).trans (((hG_101.1 102 (by decide))).trans (((hG_100.1 102 (by decide))).trans (sOf_ne _ _ (by decide))))
                                  have e107_103 : g289_104 103 = w245_55 103 := ((hG_104.1 103 (by decide))).trans (((hG_101.1 103 (by decide))).trans (((hG_100.1 103 (by decide))).trans (sOf_ne _ _ (by decide))))
                                  have e108_101 : g289_104 101 = w245_55 101 := ((hG_104.1 101 (by decide))).trans (((hG_101.1 101 (by decide))).trans (((hG_100.1 101 (by decide))).trans (sOf_ne _ _ (by decide))))
                                  have e109_102 : g289_104 102 = w245_55 102 := ((hG_104.1 102 (by decide))).trans (((hG_101.1 102 (by decide))).trans (((hG_100.1 102 (by decide))).trans (sOf_ne _ _ (by decide))))
                                  have e110_103 : g289_104 103 = w245_55 103 := ((hG_104.1 103 (by decide))).trans (((hG_101.1 103 (by decide))).trans (((hG_100.1 103 (by decide))).trans (sOf_ne _ _ (by decide))))
                                  have e111_80 : g289_104 80 = w245_55 80 := ((hG_104.1 80 (by decide))).trans (((hG_101.1 80 (by decide))).trans (((hG_100.1 80 (by decide))).trans (sOf_ne _ _ (by decide))))
                                  have e112_81 : g289_104 81 = w245_55 81 := ((hG_104.1 81 (by decide))).trans (((hG_101.1 81 (by decide))).trans (((hG_100.1 81 (by decide))).trans (sOf_ne _ _ (by decide))))
                                  have e113_80 : g289_104 80 = w245_55 80 := ((hG_104.1 80 (by decide))).trans (((hG_101.1 80 (by decide))).trans (((hG_100.1 80 (by decide))).trans (sOf_ne _ _ (by decide))))
                                  have e114_81 : g289_104 81 = w245_55 81 := ((hG_104.1 81 (by decide))).trans (((hG_101.1 81 (by decide))).trans (((hG_100.1 81 (by decide))).trans (sOf_ne _ _ (by decide))))
                                  have e115_84 : g289_104 84 = g274_100 84 := ((hG_104.1 84 (by decide))).trans (hG_101.1 84 (by decide))
                                  have e116_85 : g289_104 85 = g274_100 85 := ((hG_104.1 85 (by decide))).trans (hG_101.1 85 (by decide))
                                  exact ih55 (b + 1) g289_104 hT_104 hF_104 (by first | omega | (simp [up, setR] <;> omega)) (by rewrite [e105_73_55]; first | omega | (simp [up, setR] <;> omega)) (by rewrite [e106_102, e107_103]; exact hps2) (by rewrite [e108_101, e109_102, e110_103]; exact hpa) (by rewrite [e111_80]; exact hbw) (by rewrite [e112_81]; exact hbh) (by rewrite [e113_80, e114_81, e115_84, e116_85]; exact ⟨kq.1, fun j hj => ⟨(pk_at274 j hj).1.trans (kq.2 j hj).1, (pk_at274 j hj).2.trans (kq.2 j hj).2⟩⟩) (by first | omega | (simp [up, setR] <;> omega))
                            refine TT_sub [1, 2, 3, 4, 5, 6, 0] rfl ?_
                            have e117_73_55 : (setO w162_48 73 (fup (fup (fup (w162_48 73) 51 wq) 52 eq) 55 ((3 * lq) + 1))) 73 55 = (3 * lq) + 1 := rd_ (sOf_eq _ _ _) (fup_eq _ _ _)
                            have e118_102 : (setO w162_48 73 (fup (fup (fup (w162_48 73) 51 wq) 52 eq) 55 ((3 * lq) + 1))) 102 = w162_48 102 := sOf_ne _ _ (by decide)
                            have e119_103 : (setO w162_48 73 (fup (fup (fup (w162_48 73) 51 wq) 52 eq) 55 ((3 * lq) + 1))) 103 = w162_48 103 := sOf_ne _ _ (by decide)
                            have e120_101 : (setO w162_48 73 (fup (fup (fup (w162_48 73) 51 wq) 52 eq) 55 ((3 * lq) + 1))) 101 = w162_48 101 := sOf_ne _ _ (by decide)
                            have e121_102 : (setO w162_48 73 (fup (fup (fup (w162_48 73) 51 wq) 52 eq) 55 ((3 * lq) + 1))) 102 = w162_48 102 := sOf_ne _ _ (by decide)
                            have e122_103 : (setO w162_48 73 (fup (fup (fup (w162_48 73) 51 wq) 52 eq) 55 ((3 * lq) + 1))) 103 = w162_48 103 := sOf_ne _ _ (by decide)
                            have e123_80 : (setO w162_48 73 (fup (fup (fup (w162_48 73) 51 wq) 52 eq) 55 ((3 * lq) + 1))) 80 = w162_48 80 := sOf_ne _ _ (by decide)
                            have e124_81 : (setO w162_48 73 (fup (fup (fup (w162_48 73) 51 wq) 52 eq) 55 ((3 * lq) + 1))) 81 = w162_48 81 := sOf_ne _ _ (by decide)
                            have e125_80 : (setO w162_48 73 (fup (fup (fup (w162_48 73) 51 wq) 52 eq) 55 ((3 * lq) + 1))) 80 = w162_48 80 := sOf_ne _ _ (by decide)
                            have e126_81 : (setO w162_48 73 (fup (fup (fup (w162_48 73) 51 wq) 52 eq) 55 ((3 * lq) + 1))) 81 = w162_48 81 := sOf_ne _ _ (by decide)
                            have e127_84 : (setO w162_48 73 (fup (fup (fup (w162_48 73) 51 wq) 52 eq) 55 ((3 * lq) + 1))) 84 = w162_48 84 := sOf_ne _ _ (by decide)
                            have e128_85 : (setO w162_48 73 (fup (fup (fup (w162_48 73) 51 wq) 52 eq) 55 ((3 * lq) + 1))) 85 = w162_48 85 := sOf_ne _ _ (by decide)
                            exact L245_55 ((((10 : Int) - 0).toNat) + 1) 0 (setO w162_48 73 (fup (fup (fup (w162_48 73) 51 wq) 52 eq) 55 ((3 * lq) + 1))) hT_54 hF_54 (by first | omega | (simp [up, setR] <;> omega)) (by rewrite [e117_73_55]; first | omega | (simp [up, setR] <;> omega)) (by rewrite [e118_102, e119_103]; exact hps.2) (by rewrite [e120_101, e121_102, e122_103]; exact hpa) (by rewrite [e123_80]; exact hbw) (by rewrite [e124_81]; exact hbh) (by rewrite [e125_80, e126_81, e127_84, e128_85]; exact kq) (Nat.lt_succ_self _)
                          · refine TT_aload_n hK rfl 0 rfl dX12_decode_216 ?_
                            refine TT_iconst hK dX12_decode_217 ?_
                            refine iv_X12_385 hK (s_X12_refuse_73 1 w162_48 hT162_48 (by first | omega | (simp [up, setR] <;> omega))) (by decide) rfl ⟨by decide, by decide⟩ (by decide) rfl rfl (Nat.le_of_ble_eq_true rfl) ⟨by decide, by decide⟩ dX12_decode_218 ?_
                            intro r9 g218_129 hp9
                            obtain ⟨⟨hT_129, hG_129⟩, z218_129, hr9, hz_129⟩ := hp9
                            rw [hr9]
                            have hF_129 : FRM [73, 77, 78, 79, 80, 81, 82, 83, 84, 85, 86, 87, 88, 93, 94, 95, 96, 97, 98, 99, 101, 102, 103, 104, 105, 106] [2, 26, 27, 28, 29, 32, 33, 34, 36, 38, 39, 42, 43, 44, 45, 50, 51, 52, 55] h g218_129 := FRM_tr hF162_48 hG_129 (by decide) (by decide)
                            show TT K ly 0 0 221 [(0, vR 73), (1, vI n), (2, vI wq), (3, vI eq), (4, vI lq), (5, vI k)] [vI z218_129] g218_129
                            refine TT_iret hK hQ ?_ dX12_decode_221
                            have e130_80 : g218_129 80 = w162_48 80 := (hG_129.1 80 (by decide))
                            have e131_81 : g218_129 81 = w162_48 81 := (hG_129.1 81 (by decide))
                            have e132_84 : g218_129 84 = w162_48 84 := (hG_129.1 84 (by decide))
                            have e133_85 : g218_129 85 = w162_48 85 := (hG_129.1 85 (by decide))
                            exact ⟨⟨hT_129, hF_129⟩, z218_129, rfl, (by omega), (by rewrite [e130_80, e131_81, e132_84, e133_85]; exact kq)⟩
                        refine TT_iload hK 6 rfl dX12_decode_162 ?_
                        refine TT_if_lt hK (tgt := 209) (irm (by omega) (by omega)) dX12_decode_164 (by decide) (fun hb164_134 => ?_) (fun hb164_134 => ?_)
                        · refine TT_sub [0, 1, 2, 3, 4, 5] rfl ?_
                          exact J209_49  
                        · refine TT_iload hK 5 rfl dX12_decode_167 ?_
                          refine TT_iload hK 7 rfl dX12_decode_169 ?_
                          refine TT_icmp_ge hK (tgt := 209) (irm (by omega) (by omega)) (irm (by omega) (by omega)) dX12_decode_171 (by decide) (fun hb171_135 => ?_) (fun hb171_135 => ?_)
                          · refine TT_sub [0, 1, 2, 3, 4, 5] rfl ?_
                            exact J209_49  
                          · refine TT_aload_n hK rfl 0 rfl dX12_decode_174 ?_
                            refine TT_iload hK 5 rfl dX12_decode_175 ?_
                            refine TT_iload hK 4 rfl dX12_decode_177 ?_
                            refine TT_iconst hK dX12_decode_179 ?_
                            refine TT_iadd hK dX12_decode_180 ?_
                            refine TT_iremn hK (irm (by omega) (by omega)) (irm (by omega) (by omega)) (by first | omega | (simp [up, setR] <;> omega)) (by first | omega | (simp [up, setR] <;> omega)) dX12_decode_181 ?_
                            refine TT_nmI (fun u9 hu9 => ?_)
                            refine TT_iload hK 6 rfl dX12_decode_182 ?_
                            have hu := pu3 k (l := lq) (by omega)
                            rw [← hu9] at hu
                            refine TT_iload_n hK rfl 1 rfl dX12_decode_184 ?_
                            refine iv_X12_388 hK (s_X12_getPacket_73 u9 f n w162_48 hT162_48 (by first | omega | (simp [up, setR] <;> omega)) (by first | omega | (simp [up, setR] <;> omega)) (by first | omega | (simp [up, setR] <;> omega)) (by exact PQ_2 hpq (by omega) (by omega) (by omega) hu9) (by exact hps.1 (by omega)) (by exact hpa)) (by decide) rfl ⟨by decide, by decide⟩ (by decide) rfl rfl (Nat.le_of_ble_eq_true rfl) ⟨by decide, by decide⟩ dX12_decode_185 ?_
                            intro r9 g185_136 hp9
                            obtain ⟨⟨hT_136, hG_136⟩, z185_136, hr9, hz_136, q0_136, q1_136, q2_136⟩ := hp9
                            rw [hr9]
                            have hF_136 : FRM [73, 77, 78, 79, 80, 81, 82, 83, 84, 85, 86, 87, 88, 93, 94, 95, 96, 97, 98, 99, 101, 102, 103, 104, 105, 106] [2, 26, 27, 28, 29, 32, 33, 34, 36, 38, 39, 42, 43, 44, 45, 50, 51, 52, 55] h g185_136 := FRM_tr hF162_48 hG_136 (by decide) (by decide)
                            have q0_at185 := q0_136
                            have q1_at185 := q1_136
                            have q2_at185 := q2_136
                            show TT K ly 0 0 188 [(0, vR 73), (1, vI n), (2, vI wq), (3, vI eq), (4, vI lq), (5, vI k), (6, vI f), (7, vI al)] [vI z185_136] g185_136
                            refine TT_istore hK (lv' := [(6, vI z185_136), (0, vR 73), (1, vI n), (2, vI wq), (3, vI eq), (4, vI lq), (5, vI k), (7, vI al)]) (by decide) rfl dX12_decode_188 ?_
                            refine TT_iload hK 0 rfl dX12_decode_190 ?_
                            refine TT_if_ge hK (tgt := 200) (irm (by omega) (by omega)) dX12_decode_192 (by decide) (fun hb192_137 => ?_) (fun hb192_137 => ?_)
                            · refine TT_iload hK 6 rfl dX12_decode_200 ?_
                              refine TT_iconst hK dX12_decode_202 ?_
                              refine TT_iadd hK dX12_decode_203 ?_
                              refine TT_istore hK (lv' := [(5, vI (k + 1)), (6, vI z185_136), (0, vR 73), (1, vI n), (2, vI wq), (3, vI eq), (4, vI lq), (7, vI al)]) (by decide) rfl dX12_decode_204 ?_
                              refine TT_goto hK (tgt := 162) dX12_decode_206 (by decide) ?_
                              refine TT_sub [2, 3, 4, 5, 6, 0, 1, 7] rfl ?_
                              have e138_80 : g185_136 80 = w162_48 80 := (hG_136.1 80 (by decide))
                              have e139_81 : g185_136 81 = w162_48 81 := (hG_136.1 81 (by decide))
                              have e140_80 : g185_136 80 = w162_48 80 := (hG_136.1 80 (by decide))
                              have e141_81 : g185_136 81 = w162_48 81 := (hG_136.1 81 (by decide))
                              have e142_84 : g185_136 84 = w162_48 84 := (hG_136.1 84 (by decide))
                              have e143_85 : g185_136 85 = w162_48 85 := (hG_136.1 85 (by decide))
                              exact ih48 (k + 1) z185_136 g185_136 hT_136 hF_136 (by first | omega | (simp [up, setR] <;> omega)) (by first | omega | (simp [up, setR] <;> omega)) (by first | exact PQ_s hpq (by omega) hu9 (q2_at185 (by omega)).1 | (rw [(q1_at185 (by omega)).1]; exact hpq)) (by first | exact ⟨fun _ => (q2_at185 (by omega)).2.1, PSQ_m (q2_at185 (by omega)).2.1 q0_at185⟩ | (rw [(q1_at185 (by omega)).1, (q1_at185 (by omega)).2.1]; exact ⟨fun h1 => by exfalso; omega, hps.2⟩)) (by first | exact (q2_at185 (by omega)).2.2 | (rw [(q1_at185 (by omega)).1, (q1_at185 (by omega)).2.1, (q1_at185 (by omega)).2.2]; exact hpa)) (by rewrite [e138_80]; exact hbw) (by rewrite [e139_81]; exact hbh) (by rewrite [e140_80, e141_81, e142_84, e143_85]; exact kq) (by first | omega | (simp [up, setR] <;> omega))
                            · refine TT_iload hK 6 rfl dX12_decode_195 ?_
                              refine TT_goto hK (tgt := 204) dX12_decode_197 (by decide) ?_
                              refine TT_istore hK (lv' := [(5, vI k), (6, vI z185_136), (0, vR 73), (1, vI n), (2, vI wq), (3, vI eq), (4, vI lq), (7, vI al)]) (by decide) rfl dX12_decode_204 ?_
                              refine TT_goto hK (tgt := 162) dX12_decode_206 (by decide) ?_
                              refine TT_sub [2, 3, 4, 5, 6, 0, 1, 7] rfl ?_
                              have e144_80 : g185_136 80 = w162_48 80 := (hG_136.1 80 (by decide))
                              have e145_81 : g185_136 81 = w162_48 81 := (hG_136.1 81 (by decide))
                              have e146_80 : g185_136 80 = w162_48 80 := (hG_136.1 80 (by decide))
                              have e147_81 : g185_136 81 = w162_48 81 := (hG_136.1 81 (by decide))
                              have e148_84 : g185_136 84 = w162_48 84 := (hG_136.1 84 (by decide))
                              have e149_85 : g185_136 85 = w162_48 85 := (hG_136.1 85 (by decide))
                              exact ih48 k z185_136 g185_136 hT_136 hF_136 (by first | omega | (simp [up, setR] <;> omega)) (by first | omega | (simp [up, setR] <;> omega)) (by first | exact PQ_s hpq (by omega) hu9 (q2_at185 (by omega)).1 | (rw [(q1_at185 (by omega)).1]; exact hpq)) (by first | exact ⟨fun _ => (q2_at185 (by omega)).2.1, PSQ_m (q2_at185 (by omega)).2.1 q0_at185⟩ | (rw [(q1_at185 (by omega)).1, (q1_at185 (by omega)).2.1]; exact ⟨fun h1 => by exfalso; omega, hps.2⟩)) (by first | exact (q2_at185 (by omega)).2.2 | (rw [(q1_at185 (by omega)).1, (q1_at185 (by omega)).2.1, (q1_at185 (by omega)).2.2]; exact hpa)) (by rewrite [e144_80]; exact hbw) (by rewrite [e145_81]; exact hbh) (by rewrite [e146_80, e147_81, e148_84, e149_85]; exact kq) (by first | omega | (simp [up, setR] <;> omega))
                    refine TT_sub [3, 4, 5, 6, 7, 2, 1, 0] rfl ?_
                    have e150_103 : (setO w117_44 73 (fup (w117_44 73) 50 0)) 103 = w117_44 103 := sOf_ne _ _ (by decide)
                    have e151_102 : (setO w117_44 73 (fup (w117_44 73) 50 0)) 102 = w117_44 102 := sOf_ne _ _ (by decide)
                    have e152_103 : (setO w117_44 73 (fup (w117_44 73) 50 0)) 103 = w117_44 103 := sOf_ne _ _ (by decide)
                    have e153_101 : (setO w117_44 73 (fup (w117_44 73) 50 0)) 101 = w117_44 101 := sOf_ne _ _ (by decide)
                    have e154_102 : (setO w117_44 73 (fup (w117_44 73) 50 0)) 102 = w117_44 102 := sOf_ne _ _ (by decide)
                    have e155_103 : (setO w117_44 73 (fup (w117_44 73) 50 0)) 103 = w117_44 103 := sOf_ne _ _ (by decide)
                    have e156_80 : (setO w117_44 73 (fup (w117_44 73) 50 0)) 80 = w117_44 80 := sOf_ne _ _ (by decide)
                    have e157_81 : (setO w117_44 73 (fup (w117_44 73) 50 0)) 81 = w117_44 81 := sOf_ne _ _ (by decide)
                    have e158_80 : (setO w117_44 73 (fup (w117_44 73) 50 0)) 80 = w117_44 80 := sOf_ne _ _ (by decide)
                    have e159_81 : (setO w117_44 73 (fup (w117_44 73) 50 0)) 81 = w117_44 81 := sOf_ne _ _ (by decide)
                    have e160_84 : (setO w117_44 73 (fup (w117_44 73) 50 0)) 84 = w117_44 84 := sOf_ne _ _ (by decide)
                    have e161_85 : (setO w117_44 73 (fup (w117_44 73) 50 0)) 85 = w117_44 85 := sOf_ne _ _ (by decide)
                    have ha := pu2 hal (by omega) (by omega)
                    exact L162_48 (((2 * (al - 0) + min 1 (4 + 1)).toNat) + 1) 0 4 (setO w117_44 73 (fup (w117_44 73) 50 0)) hT_46 hF_46 (by first | omega | (simp [up, setR] <;> omega)) (by first | omega | (simp [up, setR] <;> omega)) (by rewrite [e150_103]; exact PQ_0 (fun t h1 h2 => hpz t h1 (by omega)) (by omega)) (by rewrite [e151_102, e152_103]; exact ⟨fun _ => PSQ_0 (fun t h1 h2 => hpz t h1 (by omega)) (by omega), PSQ_0 (fun t h1 h2 => hpz t h1 (by omega)) (by omega)⟩) (by rewrite [e153_101, e154_102, e155_103]; intro j k h0 h1 h2 h3 h4; rw [hpz j h0 (by omega)] at h3; exfalso; omega) (by rewrite [e156_80]; exact hbw) (by rewrite [e157_81]; exact hbh) (by rewrite [e158_80, e159_81, e160_84, e161_85]; exact kq) (Nat.lt_succ_self _)
                  · refine TT_aload_n hK rfl 0 rfl dX12_decode_124 ?_
                    refine gf_X12_105 hK (by decide) rfl (q := 103) rfl rfl dX12_decode_125 ?_
                    refine TT_iload hK 5 rfl dX12_decode_128 ?_
                    refine TT_iconst hK dX12_decode_130 ?_
                    refine TT_iast hK (o := 103) (n := 10) (by decide) rfl (by omega) (by omega) dX12_decode_131 ?_
                    refine TT_hp (h' := setO w117_44 103 (fup (w117_44 103) j9 0)) (up_can rfl rfl rfl) ?_
                    have hT_162 : TY (setO w117_44 103 (fup (w117_44 103) j9 0)) := tu_103 hT117_44 (show up w117_44 103 j9 0 = (setO w117_44 103 (fup (w117_44 103) j9 0)) from up_can rfl rfl rfl) (by omega)
                    have hF_162 : FRM [73, 77, 78, 79, 80, 81, 82, 83, 84, 85, 86, 87, 88, 93, 94, 95, 96, 97, 98, 99, 101, 102, 103, 104, 105, 106] [2, 26, 27, 28, 29, 32, 33, 34, 36, 38, 39, 42, 43, 44, 45, 50, 51, 52, 55] h (setO w117_44 103 (fup (w117_44 103) j9 0)) := FRM_up (show up w117_44 103 j9 0 = (setO w117_44 103 (fup (w117_44 103) j9 0)) from up_can rfl rfl rfl) hF117_44 (by decide) (by decide)
                    refine TT_iinc hK (v := j9 + 1) (lv' := [(5, vI (j9 + 1)), (0, vR 73), (1, vI n), (2, vI wq), (3, vI eq), (4, vI lq)]) 5 rfl rfl (by decide) rfl dX12_decode_132 ?_
                    refine TT_goto hK (tgt := 117) dX12_decode_135 (by decide) ?_
                    refine TT_sub [1, 2, 3, 4, 5, 0] rfl ?_
                    have e163_103 : (setO w117_44 103 (fup (w117_44 103) j9 0)) 103 = fup (w117_44 103) j9 0 := sOf_eq _ _ _
                    have e164_80 : (setO w117_44 103 (fup (w117_44 103) j9 0)) 80 = w117_44 80 := sOf_ne _ _ (by decide)
                    have e165_81 : (setO w117_44 103 (fup (w117_44 103) j9 0)) 81 = w117_44 81 := sOf_ne _ _ (by decide)
                    have e166_80 : (setO w117_44 103 (fup (w117_44 103) j9 0)) 80 = w117_44 80 := sOf_ne _ _ (by decide)
                    have e167_81 : (setO w117_44 103 (fup (w117_44 103) j9 0)) 81 = w117_44 81 := sOf_ne _ _ (by decide)
                    have e168_84 : (setO w117_44 103 (fup (w117_44 103) j9 0)) 84 = w117_44 84 := sOf_ne _ _ (by decide)
                    have e169_85 : (setO w117_44 103 (fup (w117_44 103) j9 0)) 85 = w117_44 85 := sOf_ne _ _ (by decide)
                    exact ih44 (j9 + 1) (setO w117_44 103 (fup (w117_44 103) j9 0)) hT_162 hF_162 (by first | omega | (simp [up, setR] <;> omega)) (by rewrite [e163_103]; intro t h1 h2; by_cases e : t = j9; (rw [e, fup_eq]); (rw [fup_ne _ _ e]; exact hpz t h1 (by omega))) (by rewrite [e164_80]; exact hbw) (by rewrite [e165_81]; exact hbh) (by rewrite [e166_80, e167_81, e168_84, e169_85]; exact kq) (by first | omega | (simp [up, setR] <;> omega))
              refine TT_sub [4, 5, 3, 2, 1, 0] rfl ?_
              have e170_103 : g111_43 103 = h 103 := ((hG_43.1 103 (by decide))).trans (((hG_41.1 103 (by decide))).trans (((hG_34.1 103 (by decide))).trans (((hG_27.1 103 (by decide))).trans (((hG_20.1 103 (by decide))).trans (sOf_ne _ _ (by decide))))))
              exact L117_44 ((((10 : Int) - 0).toNat) + 1) 0 g111_43 hT_43 hF_43 (by first | omega | (simp [up, setR] <;> omega)) (by rewrite [e170_103]; intro t h1 h2; exfalso; omega) (by exact q1_at111) (by exact q2_at111) (by exact q6_at111 rfl) (Nat.lt_succ_self _)
            · have e171_80 : g70_41 80 = h 80 := ((hG_41.1 80 (by decide))).trans (((hG_34.1 80 (by decide))).trans (((hG_27.1 80 (by decide))).trans (((hG_20.1 80 (by decide))).trans (sOf_ne _ _ (by decide)))))
              have e172_81 : g70_41 81 = h 81 := ((hG_41.1 81 (by decide))).trans (((hG_34.1 81 (by decide))).trans (((hG_27.1 81 (by decide))).trans (((hG_20.1 81 (by decide))).trans (sOf_ne _ _ (by decide)))))
              have e173_84 : g70_41 84 = h 84 := ((hG_41.1 84 (by decide))).trans (((hG_34.1 84 (by decide))).trans (((hG_27.1 84 (by decide))).trans (((hG_20.1 84 (by decide))).trans (sOf_ne _ _ (by decide)))))
              have e174_85 : g70_41 85 = h 85 := ((hG_41.1 85 (by decide))).trans (((hG_34.1 85 (by decide))).trans (((hG_27.1 85 (by decide))).trans (((hG_20.1 85 (by decide))).trans (sOf_ne _ _ (by decide)))))
              exact J76_2 g70_41 hT_41 hF_41 (by rewrite [e171_80, e172_81, e173_84, e174_85]; exact ⟨fun q hq => ⟨rfl, rfl⟩, fun j hj => ⟨rfl, rfl⟩⟩)
set_option maxRecDepth 20000 in
theorem s_isBand_y (b : Int) (h : Hp_) (hT : TY h) (hb : -2147483648 ≤ b ∧ b ≤ 2147483647) : Ctr yX12_isBand cX12_isBand 2 (some .boolean) (rmd 1) ly ly 0 0 [vR 73, vI b] h (fun r h' => (TY h' ∧ FRM [] [] h h') ∧ ∃ z : Int, r = some (vI z) ∧ (0 ≤ z ∧ z ≤ 1) ∧ (z = 1 → (0 ≤ b ∧ b < (h 73 18)) ∧ b < 10) ∧ (z = 0 → ¬(0 ≤ b ∧ b < (h 73 18)))) := by
  refine Ctr_of (by decide) (Nat.le_of_ble_eq_true rfl) ⟨Nat.le_refl _, Nat.le_refl _⟩ (fun K hK hQ _ => ?_)
  show TT K ly 0 0 0 [(0, vR 73), (1, vI b)] [] h
  have hF : FRM [] [] h h := FRM_rf _ _ _
  refine TT_iload_n hK rfl 1 rfl dX12_isBand_0 ?_
  refine TT_iconst hK dX12_isBand_1 ?_
  refine TT_aload_n hK rfl 0 rfl dX12_isBand_2 ?_
  refine gf_X12_345 hK (by decide) rfl (v := (h 73) 18) rfl dX12_isBand_3 ?_
  have r1 := ty_73_18 (v := (h 73) 18) hT rfl
  refine TT_iconst hK dX12_isBand_6 ?_
  refine TT_isub hK dX12_isBand_7 ?_
  refine iv_X12_120 hK (s_X12_within b 0 (((h 73) 18) - 1) h hT (by first | omega | (simp [up, setR] <;> omega)) (by first | omega | (simp [up, setR] <;> omega)) (by first | omega | (simp [up, setR] <;> omega))) ⟨by decide, by decide⟩ (by decide) rfl rfl (Nat.le_of_ble_eq_true rfl) ⟨by decide, by decide⟩ dX12_isBand_8 ?_
  intro r9 g8_2 hp9
  obtain ⟨⟨hT_2, hG_2⟩, z8_2, hr9, hz_2, p1_2, p2_2⟩ := hp9
  rw [hr9]
  have hF_2 : FRM [] [] h g8_2 := FRM_tr hF hG_2 (by decide) (by decide)
  show TT K ly 0 0 11 [(0, vR 73), (1, vI b)] [vI z8_2] g8_2
  refine TT_zret hK hQ (by omega) ?_ dX12_isBand_11
  exact ⟨⟨hT_2, hF_2⟩, z8_2, rfl, (by omega), (by omega), (by omega)⟩
set_option maxRecDepth 20000 in
theorem s_number_x (b x y : Int) (h : Hp_) (hT : TY h) (hb : -2147483648 ≤ b ∧ b ≤ 2147483647) (hx : -2147483648 ≤ x ∧ x ≤ 2147483647) (hy : -2147483648 ≤ y ∧ y ≤ 2147483647) : Ctr yX12_number cX12_number 5 (some .int) (rmd 2) ly ly 0 0 [vR 73, vI b, vI x, vI y] h (fun r h' => (TY h' ∧ FRM [73] [2] h h') ∧ ∃ z : Int, r = some (vI z) ∧ (-2147483648 ≤ z ∧ z ≤ 2147483647) ∧ (((0 ≤ b ∧ b < (h 73 18)) ∧ (0 ≤ x ∧ x < (h 80) b) ∧ (0 ≤ y ∧ y < (h 81) b) → z = sgn ((h 85) (64 * b + 8 * y + x)) ((h 84) (64 * b + 8 * y + x))) ∧ (¬((0 ≤ b ∧ b < (h 73 18)) ∧ (0 ≤ x ∧ x < (h 80) b) ∧ (0 ≤ y ∧ y < (h 81) b)) → z = -100000))) := by
  refine Ctr_of (by decide) (Nat.le_of_ble_eq_true rfl) ⟨Nat.le_refl _, Nat.le_refl _⟩ (fun K hK hQ _ => ?_)
  show TT K ly 0 0 0 [(0, vR 73), (1, vI b), (2, vI x), (3, vI y)] [] h
  have hF : FRM [73] [2] h h := FRM_rf _ _ _
  refine TT_aload_n hK rfl 0 rfl dX12_number_0 ?_
  refine TT_iconst hK dX12_number_1 ?_
  refine pf_X12_117 hK (by decide) rfl dX12_number_2 ?_
  refine TT_hp (h' := setO h 73 (fup (h 73) 2 0)) (up_can rfl rfl rfl) ?_
  have hT_1 : TY (setO h 73 (fup (h 73) 2 0)) := tu_73_2 hT (show up h 73 2 0 = (setO h 73 (fup (h 73) 2 0)) from up_can rfl rfl rfl) (by omega)
  have hF_1 : FRM [73] [2] h (setO h 73 (fup (h 73) 2 0)) := FRM_f (show up h 73 2 0 = (setO h 73 (fup (h 73) 2 0)) from up_can rfl rfl rfl) hF (by decide) (by decide)
  refine TT_aload_n hK rfl 0 rfl dX12_number_5 ?_
  refine TT_iload_n hK rfl 1 rfl dX12_number_6 ?_
  refine iv_X12_361 hK (s_isBand_y b (setO h 73 (fup (h 73) 2 0)) hT_1 (by first | omega | (simp [up, setR] <;> omega))) (by decide) rfl ⟨by decide, by decide⟩ (by decide) rfl rfl (Nat.le_of_ble_eq_true rfl) ⟨by decide, by decide⟩ dX12_number_7 ?_
  intro r9 g7_2 hp9
  obtain ⟨⟨hT_2, hG_2⟩, z7_2, hr9, hz_2, p1_2, p2_2⟩ := hp9
  rw [hr9]
  have hF_2 : FRM [73] [2] h g7_2 := FRM_tr hF_1 hG_2 (by decide) (by decide)
  rw [show (setO h 73 (fup (h 73) 2 0)) 73 18 = (h 73) 18 from rd_ (sOf_eq _ _ _) (fup_ne _ _ (by decide))] at p1_2
  rw [show (setO h 73 (fup (h 73) 2 0)) 73 18 = (h 73) 18 from rd_ (sOf_eq _ _ _) (fup_ne _ _ (by decide))] at p2_2
  show TT K ly 0 0 10 [(0, vR 73), (1, vI b), (2, vI x), (3, vI y)] [vI z7_2] g7_2
  refine TT_if_eq hK (tgt := 45) (irm (by omega) (by omega)) dX12_number_10 (by decide) (fun hb10_3 => ?_) (fun hb10_3 => ?_)
  · refine TT_ldc hK lc_X12_128 dX12_number_45 ?_
    refine TT_iret hK hQ ?_ dX12_number_47
    exact ⟨⟨hT_2, hF_2⟩, (-100000), rfl, (by omega), (by first | exact ⟨fun q => by exfalso; omega, fun _ => rfl⟩ | exact ⟨fun _ => by unfold sgn; first | rw [if_pos (by omega)] | rw [if_neg (by omega)], fun q => absurd (by omega) q⟩)⟩
  · refine TT_iload_n hK rfl 2 rfl dX12_number_13 ?_
    refine TT_iconst hK dX12_number_14 ?_
    refine TT_aload_n hK rfl 0 rfl dX12_number_15 ?_
    refine gf_X12_35 hK (by decide) rfl (q := 80) rfl rfl dX12_number_16 ?_
    refine TT_iload_n hK rfl 1 rfl dX12_number_19 ?_
    refine TT_iald hK (o := 80) (n := 20) (by decide) rfl (by first | omega | (simp [up, setR] <;> omega)) (by first | omega | (simp [up, setR] <;> omega)) (v := (h 80) b) (rd_ (((hG_2.1 80 (by decide))).trans (sOf_ne _ _ (by decide))) rfl) dX12_number_20 ?_
    have r4 := ty_80 (i := b) (v := (h 80) b) hT_2 (rd_ (((hG_2.1 80 (by decide))).trans (sOf_ne _ _ (by decide))) rfl) (by omega) (by omega)
    refine TT_iconst hK dX12_number_21 ?_
    refine TT_isub hK dX12_number_22 ?_
    refine iv_X12_120 hK (s_X12_within x 0 (((h 80) b) - 1) g7_2 hT_2 (by first | omega | (simp [up, setR] <;> omega)) (by first | omega | (simp [up, setR] <;> omega)) (by first | omega | (simp [up, setR] <;> omega))) ⟨by decide, by decide⟩ (by decide) rfl rfl (Nat.le_of_ble_eq_true rfl) ⟨by decide, by decide⟩ dX12_number_23 ?_
    intro r9 g23_5 hp9
    obtain ⟨⟨hT_5, hG_5⟩, z23_5, hr9, hz_5, p1_5, p2_5⟩ := hp9
    rw [hr9]
    have hF_5 : FRM [73] [2] h g23_5 := FRM_tr hF_2 hG_5 (by decide) (by decide)
    show TT K ly 0 0 26 [(0, vR 73), (1, vI b), (2, vI x), (3, vI y)] [vI z23_5] g23_5
    refine TT_if_eq hK (tgt := 45) (irm (by omega) (by omega)) dX12_number_26 (by decide) (fun hb26_6 => ?_) (fun hb26_6 => ?_)
    · refine TT_ldc hK lc_X12_128 dX12_number_45 ?_
      refine TT_iret hK hQ ?_ dX12_number_47
      exact ⟨⟨hT_5, hF_5⟩, (-100000), rfl, (by omega), (by first | exact ⟨fun q => by exfalso; omega, fun _ => rfl⟩ | exact ⟨fun _ => by unfold sgn; first | rw [if_pos (by omega)] | rw [if_neg (by omega)], fun q => absurd (by omega) q⟩)⟩
    · refine TT_iload_n hK rfl 3 rfl dX12_number_29 ?_
      refine TT_iconst hK dX12_number_30 ?_
      refine TT_aload_n hK rfl 0 rfl dX12_number_31 ?_
      refine gf_X12_38 hK (by decide) rfl (q := 81) rfl rfl dX12_number_32 ?_
      refine TT_iload_n hK rfl 1 rfl dX12_number_35 ?_
      refine TT_iald hK (o := 81) (n := 20) (by decide) rfl (by first | omega | (simp [up, setR] <;> omega)) (by first | omega | (simp [up, setR] <;> omega)) (v := (h 81) b) (rd_ (((hG_5.1 81 (by decide))).trans (((hG_2.1 81 (by decide))).trans (sOf_ne _ _ (by decide)))) rfl) dX12_number_36 ?_
      have r7 := ty_81 (i := b) (v := (h 81) b) hT_5 (rd_ (((hG_5.1 81 (by decide))).trans (((hG_2.1 81 (by decide))).trans (sOf_ne _ _ (by decide)))) rfl) (by omega) (by omega)
      refine TT_iconst hK dX12_number_37 ?_
      refine TT_isub hK dX12_number_38 ?_
      refine iv_X12_120 hK (s_X12_within y 0 (((h 81) b) - 1) g23_5 hT_5 (by first | omega | (simp [up, setR] <;> omega)) (by first | omega | (simp [up, setR] <;> omega)) (by first | omega | (simp [up, setR] <;> omega))) ⟨by decide, by decide⟩ (by decide) rfl rfl (Nat.le_of_ble_eq_true rfl) ⟨by decide, by decide⟩ dX12_number_39 ?_
      intro r9 g39_8 hp9
      obtain ⟨⟨hT_8, hG_8⟩, z39_8, hr9, hz_8, p1_8, p2_8⟩ := hp9
      rw [hr9]
      have hF_8 : FRM [73] [2] h g39_8 := FRM_tr hF_5 hG_8 (by decide) (by decide)
      show TT K ly 0 0 42 [(0, vR 73), (1, vI b), (2, vI x), (3, vI y)] [vI z39_8] g39_8
      refine TT_if_ne hK (tgt := 48) (irm (by omega) (by omega)) dX12_number_42 (by decide) (fun hb42_9 => ?_) (fun hb42_9 => ?_)
      · refine TT_bipush hK (by decide) dX12_number_48 ?_
        refine TT_iload_n hK rfl 1 rfl dX12_number_50 ?_
        refine TT_imul hK dX12_number_51 ?_
        refine TT_bipush hK (by decide) dX12_number_52 ?_
        refine TT_iload_n hK rfl 3 rfl dX12_number_54 ?_
        refine TT_imul hK dX12_number_55 ?_
        refine TT_iadd hK dX12_number_56 ?_
        refine TT_iload_n hK rfl 2 rfl dX12_number_57 ?_
        refine TT_iadd hK dX12_number_58 ?_
        refine TT_istore hK (lv' := [(4, vI (((64 * b) + (8 * y)) + x)), (0, vR 73), (1, vI b), (2, vI x), (3, vI y)]) (by decide) rfl dX12_number_59 ?_
        refine TT_aload_n hK rfl 1 rfl dX12_number_61 ?_
        refine gf_X12_50 hK (by decide) rfl (q := 85) rfl rfl dX12_number_62 ?_
        refine TT_iload hK 0 rfl dX12_number_65 ?_
        refine TT_zald hK (o := 85) (n := 1280) (by decide) rfl (by first | omega | (simp [up, setR] <;> omega)) (by first | omega | (simp [up, setR] <;> omega)) (v := (h 85) (((64 * b) + (8 * y)) + x)) (rd_ (((hG_8.1 85 (by decide))).trans (((hG_5.1 85 (by decide))).trans (((hG_2.1 85 (by decide))).trans (sOf_ne _ _ (by decide))))) rfl) dX12_number_67 ?_
        have r10 := ty_85 (i := ((64 * b) + (8 * y)) + x) (v := (h 85) (((64 * b) + (8 * y)) + x)) hT_8 (rd_ (((hG_8.1 85 (by decide))).trans (((hG_5.1 85 (by decide))).trans (((hG_2.1 85 (by decide))).trans (sOf_ne _ _ (by decide))))) rfl) (by omega) (by omega)
        refine TT_if_eq hK (tgt := 82) (irm (by omega) (by omega)) dX12_number_68 (by decide) (fun hb68_11 => ?_) (fun hb68_11 => ?_)
        · refine TT_aload_n hK rfl 1 rfl dX12_number_82 ?_
          refine gf_X12_47 hK (by decide) rfl (q := 84) rfl rfl dX12_number_83 ?_
          refine TT_iload hK 0 rfl dX12_number_86 ?_
          refine TT_iald hK (o := 84) (n := 1280) (by decide) rfl (by first | omega | (simp [up, setR] <;> omega)) (by first | omega | (simp [up, setR] <;> omega)) (v := (h 84) (((64 * b) + (8 * y)) + x)) (rd_ (((hG_8.1 84 (by decide))).trans (((hG_5.1 84 (by decide))).trans (((hG_2.1 84 (by decide))).trans (sOf_ne _ _ (by decide))))) rfl) dX12_number_88 ?_
          have r12 := ty_84 (i := ((64 * b) + (8 * y)) + x) (v := (h 84) (((64 * b) + (8 * y)) + x)) hT_8 (rd_ (((hG_8.1 84 (by decide))).trans (((hG_5.1 84 (by decide))).trans (((hG_2.1 84 (by decide))).trans (sOf_ne _ _ (by decide))))) rfl) (by omega) (by omega)
          refine TT_iret hK hQ ?_ dX12_number_89
          exact ⟨⟨hT_8, hF_8⟩, ((h 84) (((64 * b) + (8 * y)) + x)), rfl, (by omega), (by first | exact ⟨fun q => by exfalso; omega, fun _ => rfl⟩ | exact ⟨fun _ => by unfold sgn; first | rw [if_pos (by omega)] | rw [if_neg (by omega)], fun q => absurd (by omega) q⟩)⟩
        · refine TT_aload_n hK rfl 1 rfl dX12_number_71 ?_
          refine gf_X12_47 hK (by decide) rfl (q := 84) rfl rfl dX12_number_72 ?_
          refine TT_iload hK 0 rfl dX12_number_75 ?_
          refine TT_iald hK (o := 84) (n := 1280) (by decide) rfl (by first | omega | (simp [up, setR] <;> omega)) (by first | omega | (simp [up, setR] <;> omega)) (v := (h 84) (((64 * b) + (8 * y)) + x)) (rd_ (((hG_8.1 84 (by decide))).trans (((hG_5.1 84 (by decide))).trans (((hG_2.1 84 (by decide))).trans (sOf_ne _ _ (by decide))))) rfl) dX12_number_77 ?_
          have r13 := ty_84 (i := ((64 * b) + (8 * y)) + x) (v := (h 84) (((64 * b) + (8 * y)) + x)) hT_8 (rd_ (((hG_8.1 84 (by decide))).trans (((hG_5.1 84 (by decide))).trans (((hG_2.1 84 (by decide))).trans (sOf_ne _ _ (by decide))))) rfl) (by omega) (by omega)
          have b1 := ty_84 (i := 64 * b + 8 * y + x) (v := h 84 (64 * b + 8 * y + x)) hT rfl (by omega) (by omega)
          refine TT_ineg hK dX12_number_78 ?_
          refine TT_goto hK (tgt := 89) dX12_number_79 (by decide) ?_
          refine TT_iret hK hQ ?_ dX12_number_89
          exact ⟨⟨hT_8, hF_8⟩, (-((h 84) (((64 * b) + (8 * y)) + x))), rfl, (by omega), (by first | exact ⟨fun q => by exfalso; omega, fun _ => rfl⟩ | exact ⟨fun _ => by unfold sgn; first | rw [if_pos (by omega)] | rw [if_neg (by omega)], fun q => absurd (by omega) q⟩)⟩
      · refine TT_ldc hK lc_X12_128 dX12_number_45 ?_
        refine TT_iret hK hQ ?_ dX12_number_47
        exact ⟨⟨hT_8, hF_8⟩, (-100000), rfl, (by omega), (by first | exact ⟨fun q => by exfalso; omega, fun _ => rfl⟩ | exact ⟨fun _ => by unfold sgn; first | rw [if_pos (by omega)] | rw [if_neg (by omega)], fun q => absurd (by omega) q⟩)⟩

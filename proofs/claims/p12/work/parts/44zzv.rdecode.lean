theorem PS_eta {s : PS_} {p : Int} (h0 : s.1 = 0) (hp : p = s.2.1) : ((0, p, s.2.2.1, s.2.2.2.1, s.2.2.2.2) : PS_) = s := by
  obtain ⟨a, b, c, d, e⟩ := s
  dsimp only at h0 hp
  rw [hp, h0]
theorem paS_t {o : Int → Int} {n : Int} {wd hd : Int → Int} {f : Int} {m : Nat} {s : PS_} {b : Int} (h : b < f ∨ f + (m : Int) ≤ b) : (paS o n wd hd f m s).2.2.2.1 b = s.2.2.2.1 b := by
  show (paX n f m (hdP o (8 * n) wd hd s.2.2.2.1 f m s.2.1 s.2.2.1 s.2.2.2.2) s).2.2.2.1 b = _
  unfold paX
  split
  · rfl
  · split
    · rfl
    · show (if f ≤ b ∧ b < f + (m : Int) then _ else s.2.2.2.1 b) = _
      rw [if_neg (by omega)]
set_option maxRecDepth 20000 in
theorem s_refuse_e (v : Int) (h : Hp_) (hT : TY h) (hv : 0 ≤ v ∧ v ≤ 1) : Ctr yX12_refuse cX12_refuse 2 (some .int) (rmd 0) ly ly 0 0 [vR 73, vI v] h (fun r h' => (TY h' ∧ FRM [73] [2] h h') ∧ ∃ z : Int, r = some (vI z) ∧ (0 ≤ z ∧ z ≤ 0) ∧ ((h' 73 2) = v)) := by
  refine Ctr_of (by decide) (Nat.le_of_ble_eq_true rfl) ⟨Nat.le_refl _, Nat.le_refl _⟩ (fun K hK hQ _ => ?_)
  show TT K ly 0 0 0 [(0, vR 73), (1, vI v)] [] h
  have hF : FRM [73] [2] h h := FRM_rf _ _ _
  refine TT_aload_n hK rfl 0 rfl dX12_refuse_0 ?_
  refine TT_iload_n hK rfl 1 rfl dX12_refuse_1 ?_
  refine pf_X12_117 hK (by decide) rfl dX12_refuse_2 ?_
  refine TT_hp (h' := setO h 73 (fup (h 73) 2 v)) (up_can rfl rfl rfl) ?_
  have hT_1 : TY (setO h 73 (fup (h 73) 2 v)) := tu_73_2 hT (show up h 73 2 v = (setO h 73 (fup (h 73) 2 v)) from up_can rfl rfl rfl) (by omega)
  have hF_1 : FRM [73] [2] h (setO h 73 (fup (h 73) 2 v)) := FRM_f (show up h 73 2 v = (setO h 73 (fup (h 73) 2 v)) from up_can rfl rfl rfl) hF (by decide) (by decide)
  refine TT_iconst hK dX12_refuse_5 ?_
  refine TT_iret hK hQ ?_ dX12_refuse_6
  have e2_73_2 : (setO h 73 (fup (h 73) 2 v)) 73 2 = v := rd_ (sOf_eq _ _ _) (fup_eq _ _ _)
  exact ⟨⟨hT_1, hF_1⟩, 0, rfl, (by omega), (by rewrite [e2_73_2]; omega)⟩
set_option maxRecDepth 20000 in
theorem s_beBand_t (b w e k : Int) (h : Hp_) (hT : TY h) (hb : 0 ≤ b ∧ b ≤ 19) (hw : 0 ≤ w ∧ w ≤ 8) (he : 0 ≤ e ∧ e ≤ 8) (hk : 0 ≤ k ∧ k ≤ 2) : Ctr yX12_beBand cX12_beBand 6 none (rmd 0) ly ly 0 0 [vR 73, vI b, vI w, vI e, vI k] h (fun r h' => (TY h' ∧ FRM [80, 81, 82, 83, 84, 85, 86, 87, 88] [] h h') ∧ r = none ∧ ((h' 80) = fup (h 80) b w) ∧ ((h' 81) = fup (h 81) b e) ∧ ((h' 86) = fup (h 86) b 0) ∧ (∀ j : Int, j < 64 * b ∨ 64 * b + 64 ≤ j → (h' 84) j = (h 84) j ∧ (h' 85) j = (h 85) j) ∧ ((h' 82) = fup (h 82) b k) ∧ (∀ q : Int, 64 * b ≤ q → q < 64 * b + 64 → (h' 84) q = 0) ∧ ((h' 83) = fup (h 83) b 0) ∧ ((h' 88) = fup (h 88) b 3) ∧ ((h' 87) = fup (h 87) b 0)) := by
  refine Ctr_of (by decide) (Nat.le_of_ble_eq_true rfl) ⟨Nat.le_refl _, Nat.le_refl _⟩ (fun K hK hQ _ => ?_)
  show TT K ly 0 0 0 [(0, vR 73), (1, vI b), (2, vI w), (3, vI e), (4, vI k)] [] h
  have hF : FRM [80, 81, 82, 83, 84, 85, 86, 87, 88] [] h h := FRM_rf _ _ _
  refine TT_aload_n hK rfl 0 rfl dX12_beBand_0 ?_
  refine gf_X12_35 hK (by decide) rfl (q := 80) rfl rfl dX12_beBand_1 ?_
  refine TT_iload_n hK rfl 1 rfl dX12_beBand_4 ?_
  refine TT_iload_n hK rfl 2 rfl dX12_beBand_5 ?_
  refine TT_iast hK (o := 80) (n := 20) (by decide) rfl (by omega) (by omega) dX12_beBand_6 ?_
  refine TT_hp (h' := setO h 80 (fup (h 80) b w)) (up_can rfl rfl rfl) ?_
  have hT_1 : TY (setO h 80 (fup (h 80) b w)) := tu_80 hT (show up h 80 b w = (setO h 80 (fup (h 80) b w)) from up_can rfl rfl rfl) (by omega)
  have hF_1 : FRM [80, 81, 82, 83, 84, 85, 86, 87, 88] [] h (setO h 80 (fup (h 80) b w)) := FRM_up (show up h 80 b w = (setO h 80 (fup (h 80) b w)) from up_can rfl rfl rfl) hF (by decide) (by decide)
  refine TT_aload_n hK rfl 0 rfl dX12_beBand_7 ?_
  refine gf_X12_38 hK (by decide) rfl (q := 81) rfl rfl dX12_beBand_8 ?_
  refine TT_iload_n hK rfl 1 rfl dX12_beBand_11 ?_
  refine TT_iload_n hK rfl 3 rfl dX12_beBand_12 ?_
  refine TT_iast hK (o := 81) (n := 20) (by decide) rfl (by omega) (by omega) dX12_beBand_13 ?_
  refine TT_hp (h' := setO (setO h 80 (fup (h 80) b w)) 81 (fup (h 81) b e)) (up_can (sOf_ne _ _ (by decide)) rfl rfl) ?_
  have hT_2 : TY (setO (setO h 80 (fup (h 80) b w)) 81 (fup (h 81) b e)) := tu_81 hT_1 (show up (setO h 80 (fup (h 80) b w)) 81 b e = (setO (setO h 80 (fup (h 80) b w)) 81 (fup (h 81) b e)) from up_can (sOf_ne _ _ (by decide)) rfl rfl) (by omega)
  have hF_2 : FRM [80, 81, 82, 83, 84, 85, 86, 87, 88] [] h (setO (setO h 80 (fup (h 80) b w)) 81 (fup (h 81) b e)) := FRM_up (show up (setO h 80 (fup (h 80) b w)) 81 b e = (setO (setO h 80 (fup (h 80) b w)) 81 (fup (h 81) b e)) from up_can (sOf_ne _ _ (by decide)) rfl rfl) hF_1 (by decide) (by decide)
  refine TT_aload_n hK rfl 0 rfl dX12_beBand_14 ?_
  refine gf_X12_41 hK (by decide) rfl (q := 82) rfl rfl dX12_beBand_15 ?_
  refine TT_iload_n hK rfl 1 rfl dX12_beBand_18 ?_
  refine TT_iload hK 4 rfl dX12_beBand_19 ?_
  refine TT_iast hK (o := 82) (n := 20) (by decide) rfl (by omega) (by omega) dX12_beBand_21 ?_
  refine TT_hp (h' := setO (setO (setO h 80 (fup (h 80) b w)) 81 (fup (h 81) b e)) 82 (fup (h 82) b k)) (up_can ((sOf_ne _ _ (by decide)).trans (sOf_ne _ _ (by decide))) rfl rfl) ?_
  have hT_3 : TY (setO (setO (setO h 80 (fup (h 80) b w)) 81 (fup (h 81) b e)) 82 (fup (h 82) b k)) := tu_82 hT_2 (show up (setO (setO h 80 (fup (h 80) b w)) 81 (fup (h 81) b e)) 82 b k = (setO (setO (setO h 80 (fup (h 80) b w)) 81 (fup (h 81) b e)) 82 (fup (h 82) b k)) from up_can ((sOf_ne _ _ (by decide)).trans (sOf_ne _ _ (by decide))) rfl rfl) (by omega)
  have hF_3 : FRM [80, 81, 82, 83, 84, 85, 86, 87, 88] [] h (setO (setO (setO h 80 (fup (h 80) b w)) 81 (fup (h 81) b e)) 82 (fup (h 82) b k)) := FRM_up (show up (setO (setO h 80 (fup (h 80) b w)) 81 (fup (h 81) b e)) 82 b k = (setO (setO (setO h 80 (fup (h 80) b w)) 81 (fup (h 81) b e)) 82 (fup (h 82) b k)) from up_can ((sOf_ne _ _ (by decide)).trans (sOf_ne _ _ (by decide))) rfl rfl) hF_2 (by decide) (by decide)
  refine TT_aload_n hK rfl 0 rfl dX12_beBand_22 ?_
  refine gf_X12_44 hK (by decide) rfl (q := 83) rfl rfl dX12_beBand_23 ?_
  refine TT_iload_n hK rfl 1 rfl dX12_beBand_26 ?_
  refine TT_iconst hK dX12_beBand_27 ?_
  refine TT_iast hK (o := 83) (n := 20) (by decide) rfl (by omega) (by omega) dX12_beBand_28 ?_
  refine TT_hp (h' := setO (setO (setO (setO h 80 (fup (h 80) b w)) 81 (fup (h 81) b e)) 82 (fup (h 82) b k)) 83 (fup (h 83) b 0)) (up_can ((sOf_ne _ _ (by decide)).trans ((sOf_ne _ _ (by decide)).trans (sOf_ne _ _ (by decide)))) rfl rfl) ?_
  have hT_4 : TY (setO (setO (setO (setO h 80 (fup (h 80) b w)) 81 (fup (h 81) b e)) 82 (fup (h 82) b k)) 83 (fup (h 83) b 0)) := tu_83 hT_3 (show up (setO (setO (setO h 80 (fup (h 80) b w)) 81 (fup (h 81) b e)) 82 (fup (h 82) b k)) 83 b 0 = (setO (setO (setO (setO h 80 (fup (h 80) b w)) 81 (fup (h 81) b e)) 82 (fup (h 82) b k)) 83 (fup (h 83) b 0)) from up_can ((sOf_ne _ _ (by decide)).trans ((sOf_ne _ _ (by decide)).trans (sOf_ne _ _ (by decide)))) rfl rfl) (by omega)
  have hF_4 : FRM [80, 81, 82, 83, 84, 85, 86, 87, 88] [] h (setO (setO (setO (setO h 80 (fup (h 80) b w)) 81 (fup (h 81) b e)) 82 (fup (h 82) b k)) 83 (fup (h 83) b 0)) := FRM_up (show up (setO (setO (setO h 80 (fup (h 80) b w)) 81 (fup (h 81) b e)) 82 (fup (h 82) b k)) 83 b 0 = (setO (setO (setO (setO h 80 (fup (h 80) b w)) 81 (fup (h 81) b e)) 82 (fup (h 82) b k)) 83 (fup (h 83) b 0)) from up_can ((sOf_ne _ _ (by decide)).trans ((sOf_ne _ _ (by decide)).trans (sOf_ne _ _ (by decide)))) rfl rfl) hF_3 (by decide) (by decide)
  refine TT_aload_n hK rfl 0 rfl dX12_beBand_29 ?_
  refine gf_X12_54 hK (by decide) rfl (q := 86) rfl rfl dX12_beBand_30 ?_
  refine TT_iload_n hK rfl 1 rfl dX12_beBand_33 ?_
  refine TT_iconst hK dX12_beBand_34 ?_
  refine TT_iast hK (o := 86) (n := 20) (by decide) rfl (by omega) (by omega) dX12_beBand_35 ?_
  refine TT_hp (h' := setO (setO (setO (setO (setO h 80 (fup (h 80) b w)) 81 (fup (h 81) b e)) 82 (fup (h 82) b k)) 83 (fup (h 83) b 0)) 86 (fup (h 86) b 0)) (up_can ((sOf_ne _ _ (by decide)).trans ((sOf_ne _ _ (by decide)).trans ((sOf_ne _ _ (by decide)).trans (sOf_ne _ _ (by decide))))) rfl rfl) ?_
  have hT_5 : TY (setO (setO (setO (setO (setO h 80 (fup (h 80) b w)) 81 (fup (h 81) b e)) 82 (fup (h 82) b k)) 83 (fup (h 83) b 0)) 86 (fup (h 86) b 0)) := tu_86 hT_4 (show up (setO (setO (setO (setO h 80 (fup (h 80) b w)) 81 (fup (h 81) b e)) 82 (fup (h 82) b k)) 83 (fup (h 83) b 0)) 86 b 0 = (setO (setO (setO (setO (setO h 80 (fup (h 80) b w)) 81 (fup (h 81) b e)) 82 (fup (h 82) b k)) 83 (fup (h 83) b 0)) 86 (fup (h 86) b 0)) from up_can ((sOf_ne _ _ (by decide)).trans ((sOf_ne _ _ (by decide)).trans ((sOf_ne _ _ (by decide)).trans (sOf_ne _ _ (by decide))))) rfl rfl) (by omega)
  have hF_5 : FRM [80, 81, 82, 83, 84, 85, 86, 87, 88] [] h (setO (setO (setO (setO (setO h 80 (fup (h 80) b w)) 81 (fup (h 81) b e)) 82 (fup (h 82) b k)) 83 (fup (h 83) b 0)) 86 (fup (h 86) b 0)) := FRM_up (show up (setO (setO (setO (setO h 80 (fup (h 80) b w)) 81 (fup (h 81) b e)) 82 (fup (h 82) b k)) 83 (fup (h 83) b 0)) 86 b 0 = (setO (setO (setO (setO (setO h 80 (fup (h 80) b w)) 81 (fup (h 81) b e)) 82 (fup (h 82) b k)) 83 (fup (h 83) b 0)) 86 (fup (h 86) b 0)) from up_can ((sOf_ne _ _ (by decide)).trans ((sOf_ne _ _ (by decide)).trans ((sOf_ne _ _ (by decide)).trans (sOf_ne _ _ (by decide))))) rfl rfl) hF_4 (by decide) (by decide)
  refine TT_aload_n hK rfl 0 rfl dX12_beBand_36 ?_
  refine gf_X12_57 hK (by decide) rfl (q := 87) rfl rfl dX12_beBand_37 ?_
  refine TT_iload_n hK rfl 1 rfl dX12_beBand_40 ?_
  refine TT_iconst hK dX12_beBand_41 ?_
  refine TT_iast hK (o := 87) (n := 20) (by decide) rfl (by omega) (by omega) dX12_beBand_42 ?_
  refine TT_hp (h' := setO (setO (setO (setO (setO (setO h 80 (fup (h 80) b w)) 81 (fup (h 81) b e)) 82 (fup (h 82) b k)) 83 (fup (h 83) b 0)) 86 (fup (h 86) b 0)) 87 (fup (h 87) b 0)) (up_can ((sOf_ne _ _ (by decide)).trans ((sOf_ne _ _ (by decide)).trans ((sOf_ne _ _ (by decide)).trans ((sOf_ne _ _ (by decide)).trans (sOf_ne _ _ (by decide)))))) rfl rfl) ?_
  have hT_6 : TY (setO (setO (setO (setO (setO (setO h 80 (fup (h 80) b w)) 81 (fup (h 81) b e)) 82 (fup (h 82) b k)) 83 (fup (h 83) b 0)) 86 (fup (h 86) b 0)) 87 (fup (h 87) b 0)) := tu_87 hT_5 (show up (setO (setO (setO (setO (setO h 80 (fup (h 80) b w)) 81 (fup (h 81) b e)) 82 (fup (h 82) b k)) 83 (fup (h 83) b 0)) 86 (fup (h 86) b 0)) 87 b 0 = (setO (setO (setO (setO (setO (setO h 80 (fup (h 80) b w)) 81 (fup (h 81) b e)) 82 (fup (h 82) b k)) 83 (fup (h 83) b 0)) 86 (fup (h 86) b 0)) 87 (fup (h 87) b 0)) from up_can ((sOf_ne _ _ (by decide)).trans ((sOf_ne _ _ (by decide)).trans ((sOf_ne _ _ (by decide)).trans ((sOf_ne _ _ (by decide)).trans (sOf_ne _ _ (by decide)))))) rfl rfl) (by omega)
  have hF_6 : FRM [80, 81, 82, 83, 84, 85, 86, 87, 88] [] h (setO (setO (setO (setO (setO (setO h 80 (fup (h 80) b w)) 81 (fup (h 81) b e)) 82 (fup (h 82) b k)) 83 (fup (h 83) b 0)) 86 (fup (h 86) b 0)) 87 (fup (h 87) b 0)) := FRM_up (show up (setO (setO (setO (setO (setO h 80 (fup (h 80) b w)) 81 (fup (h 81) b e)) 82 (fup (h 82) b k)) 83 (fup (h 83) b 0)) 86 (fup (h 86) b 0)) 87 b 0 = (setO (setO (setO (setO (setO (setO h 80 (fup (h 80) b w)) 81 (fup (h 81) b e)) 82 (fup (h 82) b k)) 83 (fup (h 83) b 0)) 86 (fup (h 86) b 0)) 87 (fup (h 87) b 0)) from up_can ((sOf_ne _ _ (by decide)).trans ((sOf_ne _ _ (by decide)).trans ((sOf_ne _ _ (by decide)).trans ((sOf_ne _ _ (by decide)).trans (sOf_ne _ _ (by decide)))))) rfl rfl) hF_5 (by decide) (by decide)
  refine TT_aload_n hK rfl 0 rfl dX12_beBand_43 ?_
  refine gf_X12_60 hK (by decide) rfl (q := 88) rfl rfl dX12_beBand_44 ?_
  refine TT_iload_n hK rfl 1 rfl dX12_beBand_47 ?_
  refine TT_iconst hK dX12_beBand_48 ?_
  refine TT_iast hK (o := 88) (n := 20) (by decide) rfl (by omega) (by omega) dX12_beBand_49 ?_
  refine TT_hp (h' := setO (setO (setO (setO (setO (setO (setO h 80 (fup (h 80) b w)) 81 (fup (h 81) b e)) 82 (fup (h 82) b k)) 83 (fup (h 83) b 0)) 86 (fup (h 86) b 0)) 87 (fup (h 87) b 0)) 88 (fup (h 88) b 3)) (up_can ((sOf_ne _ _ (by decide)).trans ((sOf_ne _ _ (by decide)).trans ((sOf_ne _ _ (by decide)).trans ((sOf_ne _ _ (by decide)).trans ((sOf_ne _ _ (by decide)).trans (sOf_ne _ _ (by decide))))))) rfl rfl) ?_
  have hT_7 : TY (setO (setO (setO (setO (setO (setO (setO h 80 (fup (h 80) b w)) 81 (fup (h 81) b e)) 82 (fup (h 82) b k)) 83 (fup (h 83) b 0)) 86 (fup (h 86) b 0)) 87 (fup (h 87) b 0)) 88 (fup (h 88) b 3)) := tu_88 hT_6 (show up (setO (setO (setO (setO (setO (setO h 80 (fup (h 80) b w)) 81 (fup (h 81) b e)) 82 (fup (h 82) b k)) 83 (fup (h 83) b 0)) 86 (fup (h 86) b 0)) 87 (fup (h 87) b 0)) 88 b 3 = (setO (setO (setO (setO (setO (setO (setO h 80 (fup (h 80) b w)) 81 (fup (h 81) b e)) 82 (fup (h 82) b k)) 83 (fup (h 83) b 0)) 86 (fup (h 86) b 0)) 87 (fup (h 87) b 0)) 88 (fup (h 88) b 3)) from up_can ((sOf_ne _ _ (by decide)).trans ((sOf_ne _ _ (by decide)).trans ((sOf_ne _ _ (by decide)).trans ((sOf_ne _ _ (by decide)).trans ((sOf_ne _ _ (by decide)).trans (sOf_ne _ _ (by decide))))))) rfl rfl) (by omega)
  have hF_7 : FRM [80, 81, 82, 83, 84, 85, 86, 87, 88] [] h (setO (setO (setO (setO (setO (setO (setO h 80 (fup (h 80) b w)) 81 (fup (h 81) b e)) 82 (fup (h 82) b k)) 83 (fup (h 83) b 0)) 86 (fup (h 86) b 0)) 87 (fup (h 87) b 0)) 88 (fup (h 88) b 3)) := FRM_up (show up (setO (setO (setO (setO (setO (setO h 80 (fup (h 80) b w)) 81 (fup (h 81) b e)) 82 (fup (h 82) b k)) 83 (fup (h 83) b 0)) 86 (fup (h 86) b 0)) 87 (fup (h 87) b 0)) 88 b 3 = (setO (setO (setO (setO (setO (setO (setO h 80 (fup (h 80) b w)) 81 (fup (h 81) b e)) 82 (fup (h 82) b k)) 83 (fup (h 83) b 0)) 86 (fup (h 86) b 0)) 87 (fup (h 87) b 0)) 88 (fup (h 88) b 3)) from up_can ((sOf_ne _ _ (by decide)).trans ((sOf_ne _ _ (by decide)).trans ((sOf_ne _ _ (by decide)).trans ((sOf_ne _ _ (by decide)).trans ((sOf_ne _ _ (by decide)).trans (sOf_ne _ _ (by decide))))))) rfl rfl) hF_6 (by decide) (by decide)
  refine TT_bipush hK (by decide) dX12_beBand_50 ?_
  refine TT_iload_n hK rfl 1 rfl dX12_beBand_52 ?_
  refine TT_imul hK dX12_beBand_53 ?_
  refine TT_istore hK (lv' := [(5, vI (64 * b)), (0, vR 73), (1, vI b), (2, vI w), (3, vI e), (4, vI k)]) (by decide) rfl dX12_beBand_54 ?_
  have L56_8 : ∀ (k8 : Nat) (j : Int) (w56_8 : Hp_), TY w56_8 → FRM [80, 81, 82, 83, 84, 85, 86, 87, 88] [] h w56_8 → (64 * b ≤ j ∧ j ≤ 64 * b + 64) → ((w56_8 80) = fup (h 80) b w) → ((w56_8 81) = fup (h 81) b e) → ((w56_8 86) = fup (h 86) b 0) → (∀ j : Int, j < 64 * b ∨ 64 * b + 64 ≤ j → (w56_8 84) j = h 84 j ∧ (w56_8 85) j = h 85 j) → ((w56_8 82) = fup (h 82) b k) → ((w56_8 83) = fup (h 83) b 0) → (∀ q : Int, 64 * b ≤ q → q < j → (w56_8 84) q = 0) → ((w56_8 88) = fup (h 88) b 3) → ((w56_8 87) = fup (h 87) b 0) → (64 * b + 64 - j).toNat < k8 → TT K ly 0 0 56 [(0, vR 73), (1, vI b), (2, vI w), (3, vI e), (4, vI k), (5, vI j)] [] w56_8 := by
    intro k8
    induction k8 with
    | zero => intro j w56_8 hT56_8 hF56_8 hj h80 h81 h86 ho h82 h83 hz4 h88 h87 hk8; exact absurd hk8 (Nat.not_lt_zero _)
    | succ k8 ih8 =>
      intro j w56_8 hT56_8 hF56_8 hj h80 h81 h86 ho h82 h83 hz4 h88 h87 hk8
      refine TT_iload hK 5 rfl dX12_beBand_56 ?_
      refine TT_bipush hK (by decide) dX12_beBand_58 ?_
      refine TT_iload_n hK rfl 1 rfl dX12_beBand_60 ?_
      refine TT_imul hK dX12_beBand_61 ?_
      refine TT_bipush hK (by decide) dX12_beBand_62 ?_
      refine TT_iadd hK dX12_beBand_64 ?_
      refine TT_icmp_ge hK (tgt := 90) (irm (by omega) (by omega)) (irm (by omega) (by omega)) dX12_beBand_65 (by decide) (fun hb65_9 => ?_) (fun hb65_9 => ?_)
      · refine TT_vret hK hQ ?_ dX12_beBand_90
        exact ⟨⟨hT56_8, hF56_8⟩, rfl, (by exact h80), (by exact h81), (by exact h86), (by exact ho), (by exact h82), (by intro q g1 g2; exact hz4 q g1 (by omega)), (by exact h83), (by exact h88), (by exact h87)⟩
      · refine TT_aload_n hK rfl 0 rfl dX12_beBand_68 ?_
        refine gf_X12_47 hK (by decide) rfl (q := 84) rfl rfl dX12_beBand_69 ?_
        refine TT_iload hK 5 rfl dX12_beBand_72 ?_
        refine TT_iconst hK dX12_beBand_74 ?_
        refine TT_iast hK (o := 84) (n := 1280) (by decide) rfl (by omega) (by omega) dX12_beBand_75 ?_
        refine TT_hp (h' := setO w56_8 84 (fup (w56_8 84) j 0)) (up_can rfl rfl rfl) ?_
        have hT_10 : TY (setO w56_8 84 (fup (w56_8 84) j 0)) := tu_84 hT56_8 (show up w56_8 84 j 0 = (setO w56_8 84 (fup (w56_8 84) j 0)) from up_can rfl rfl rfl) (by omega)
        have hF_10 : FRM [80, 81, 82, 83, 84, 85, 86, 87, 88] [] h (setO w56_8 84 (fup (w56_8 84) j 0)) := FRM_up (show up w56_8 84 j 0 = (setO w56_8 84 (fup (w56_8 84) j 0)) from up_can rfl rfl rfl) hF56_8 (by decide) (by decide)
        refine TT_aload_n hK rfl 0 rfl dX12_beBand_76 ?_
        refine gf_X12_50 hK (by decide) rfl (q := 85) rfl rfl dX12_beBand_77 ?_
        refine TT_iload hK 5 rfl dX12_beBand_80 ?_
        refine TT_iconst hK dX12_beBand_82 ?_
        refine TT_zast hK (o := 85) (n := 1280) (by decide) rfl (by omega) (by omega) (by first | decide | omega) dX12_beBand_83 ?_
        refine TT_hp (h' := setO (setO w56_8 84 (fup (w56_8 84) j 0)) 85 (fup (w56_8 85) j 0)) (up_can (sOf_ne _ _ (by decide)) rfl rfl) ?_
        have hT_11 : TY (setO (setO w56_8 84 (fup (w56_8 84) j 0)) 85 (fup (w56_8 85) j 0)) := tu_85 hT_10 (show up (setO w56_8 84 (fup (w56_8 84) j 0)) 85 j 0 = (setO (setO w56_8 84 (fup (w56_8 84) j 0)) 85 (fup (w56_8 85) j 0)) from up_can (sOf_ne _ _ (by decide)) rfl rfl) (by omega)
        have hF_11 : FRM [80, 81, 82, 83, 84, 85, 86, 87, 88] [] h (setO (setO w56_8 84 (fup (w56_8 84) j 0)) 85 (fup (w56_8 85) j 0)) := FRM_up (show up (setO w56_8 84 (fup (w56_8 84) j 0)) 85 j 0 = (setO (setO w56_8 84 (fup (w56_8 84) j 0)) 85 (fup (w56_8 85) j 0)) from up_can (sOf_ne _ _ (by decide)) rfl rfl) hF_10 (by decide) (by decide)
        refine TT_iinc hK (v := j + 1) (lv' := [(5, vI (j + 1)), (0, vR 73), (1, vI b), (2, vI w), (3, vI e), (4, vI k)]) 5 rfl rfl (by decide) rfl dX12_beBand_84 ?_
        refine TT_goto hK (tgt := 56) dX12_beBand_87 (by decide) ?_
        refine TT_sub [1, 2, 3, 4, 5, 0] rfl ?_
        have e12_80 : (setO (setO w56_8 84 (fup (w56_8 84) j 0)) 85 (fup (w56_8 85) j 0)) 80 = w56_8 80 := (sOf_ne _ _ (by decide)).trans (sOf_ne _ _ (by decide))
        have e13_81 : (setO (setO w56_8 84 (fup (w56_8 84) j 0)) 85 (fup (w56_8 85) j 0)) 81 = w56_8 81 := (sOf_ne _ _ (by decide)).trans (sOf_ne _ _ (by decide))
        have e14_86 : (setO (setO w56_8 84 (fup (w56_8 84) j 0)) 85 (fup (w56_8 85) j 0)) 86 = w56_8 86 := (sOf_ne _ _ (by decide)).trans (sOf_ne _ _ (by decide))
        have e15_84 : (setO (setO w56_8 84 (fup (w56_8 84) j 0)) 85 (fup (w56_8 85) j 0)) 84 = fup (w56_8 84) j 0 := (sOf_ne _ _ (by decide)).trans (sOf_eq _ _ _)
        have e16_85 : (setO (setO w56_8 84 (fup (w56_8 84) j 0)) 85 (fup (w56_8 85) j 0)) 85 = fup (w56_8 85) j 0 := sOf_eq _ _ _
        have e17_82 : (setO (setO w56_8 84 (fup (w56_8 84) j 0)) 85 (fup (w56_8 85) j 0)) 82 = w56_8 82 := (sOf_ne _ _ (by decide)).trans (sOf_ne _ _ (by decide))
        have e18_83 : (setO (setO w56_8 84 (fup (w56_8 84) j 0)) 85 (fup (w56_8 85) j 0)) 83 = w56_8 83 := (sOf_ne _ _ (by decide)).trans (sOf_ne _ _ (by decide))
        have e19_84 : (setO (setO w56_8 84 (fup (w56_8 84) j 0)) 85 (fup (w56_8 85) j 0)) 84 = fup (w56_8 84) j 0 := (sOf_ne _ _ (by decide)).trans (sOf_eq _ _ _)
        have e20_88 : (setO (setO w56_8 84 (fup (w56_8 84) j 0)) 85 (fup (w56_8 85) j 0)) 88 = w56_8 88 := (sOf_ne _ _ (by decide)).trans (sOf_ne _ _ (by decide))
        have e21_87 : (setO (setO w56_8 84 (fup (w56_8 84) j 0)) 85 (fup (w56_8 85) j 0)) 87 = w56_8 87 := (sOf_ne _ _ (by decide)).trans (sOf_ne _ _ (by decide))
        exact ih8 (j + 1) (setO (setO w56_8 84 (fup (w56_8 84) j 0)) 85 (fup (w56_8 85) j 0)) hT_11 hF_11 (by first | omega | (simp [up, setR] <;> omega)) (by rewrite [e12_80]; first | assumption | exact h80) (by rewrite [e13_81]; first | assumption | exact h81) (by rewrite [e14_86]; first | assumption | exact h86) (by rewrite [e15_84, e16_85]; intro q hq; rw [fup_ne _ _ (by omega), fup_ne _ _ (by omega)]; exact ho q hq) (by rewrite [e17_82]; first | assumption | exact h82) (by rewrite [e18_83]; first | assumption | exact h83) (by rewrite [e19_84]; intro q g1 g2; by_cases e : q = j; (rw [e, fup_eq]); (rw [fup_ne _ _ e]; exact hz4 q g1 (by omega))) (by rewrite [e20_88]; first | assumption | exact h88) (by rewrite [e21_87]; first | assumption | exact h87) (by first | omega | (simp [up, setR] <;> omega))
  refine TT_sub [1, 2, 3, 4, 5, 0] rfl ?_
  have e22_80 : (setO (setO (setO (setO (setO (setO (setO h 80 (fup (h 80) b w)) 81 (fup (h 81) b e)) 82 (fup (h 82) b k)) 83 (fup (h 83) b 0)) 86 (fup (h 86) b 0)) 87 (fup (h 87) b 0)) 88 (fup (h 88) b 3)) 80 = fup (h 80) b w := (sOf_ne _ _ (by decide)).trans ((sOf_ne _ _ (by decide)).trans ((sOf_ne _ _ (by decide)).trans ((sOf_ne _ _ (by decide)).trans ((sOf_ne _ _ (by decide)).trans ((sOf_ne _ _ (by decide)).trans (sOf_eq _ _ _))))))
  have e23_81 : (setO (setO (setO (setO (setO (setO (setO h 80 (fup (h 80) b w)) 81 (fup (h 81) b e)) 82 (fup (h 82) b k)) 83 (fup (h 83) b 0)) 86 (fup (h 86) b 0)) 87 (fup (h 87) b 0)) 88 (fup (h 88) b 3)) 81 = fup (h 81) b e := (sOf_ne _ _ (by decide)).trans ((sOf_ne _ _ (by decide)).trans ((sOf_ne _ _ (by decide)).trans ((sOf_ne _ _ (by decide)).trans ((sOf_ne _ _ (by decide)).trans (sOf_eq _ _ _)))))
  have e24_86 : (setO (setO (setO (setO (setO (setO (setO h 80 (fup (h 80) b w)) 81 (fup (h 81) b e)) 82 (fup (h 82) b k)) 83 (fup (h 83) b 0)) 86 (fup (h 86) b 0)) 87 (fup (h 87) b 0)) 88 (fup (h 88) b 3)) 86 = fup (h 86) b 0 := (sOf_ne _ _ (by decide)).trans ((sOf_ne _ _ (by decide)).trans (sOf_eq _ _ _))
  have e25_84 : (setO (setO (setO (setO (setO (setO (setO h 80 (fup (h 80) b w)) 81 (fup (h 81) b e)) 82 (fup (h 82) b k)) 83 (fup (h 83) b 0)) 86 (fup (h 86) b 0)) 87 (fup (h 87) b 0)) 88 (fup (h 88) b 3)) 84 = h 84 := (sOf_ne _ _ (by decide)).trans ((sOf_ne _ _ (by decide)).trans ((sOf_ne _ _ (by decide)).trans ((sOf_ne _ _ (by decide)).trans ((sOf_ne _ _ (by decide)).trans ((sOf_ne _ _ (by decide)).trans (sOf_ne _ _ (by decide)))))))
  have e26_85 : (setO (setO (setO (setO (setO (setO (setO h 80 (fup (h 80) b w)) 81 (fup (h 81) b e)) 82 (fup (h 82) b k)) 83 (fup (h 83) b 0)) 86 (fup (h 86) b 0)) 87 (fup (h 87) b 0)) 88 (fup (h 88) b 3)) 85 = h 85 := (sOf_ne _ _ (by decide)).trans ((sOf_ne _ _ (by decide)).trans ((sOf_ne _ _ (by decide)).trans ((sOf_ne _ _ (by decide)).trans ((sOf_ne _ _ (by decide)).trans ((sOf_ne _ _ (by decide)).trans (sOf_ne _ _ (by decide)))))))
  have e27_82 : (setO (setO (setO (setO (setO (setO (setO h 80 (fup (h 80) b w)) 81 (fup (h 81) b e)) 82 (fup (h 82) b k)) 83 (fup (h 83) b 0)) 86 (fup (h 86) b 0)) 87 (fup (h 87) b 0)) 88 (fup (h 88) b 3)) 82 = fup (h 82) b k := (sOf_ne _ _ (by decide)).trans ((sOf_ne _ _ (by decide)).trans ((sOf_ne _ _ (by decide)).trans ((sOf_ne _ _ (by decide)).trans (sOf_eq _ _ _))))
  have e28_83 : (setO (setO (setO (setO (setO (setO (setO h 80 (fup (h 80) b w)) 81 (fup (h 81) b e)) 82 (fup (h 82) b k)) 83 (fup (h 83) b 0)) 86 (fup (h 86) b 0)) 87 (fup (h 87) b 0)) 88 (fup (h 88) b 3)) 83 = fup (h 83) b 0 := (sOf_ne _ _ (by decide)).trans ((sOf_ne _ _ (by decide)).trans ((sOf_ne _ _ (by decide)).trans (sOf_eq _ _ _)))
  have e29_84 : (setO (setO (setO (setO (setO (setO (setO h 80 (fup (h 80) b w)) 81 (fup (h 81) b e)) 82 (fup (h 82) b k)) 83 (fup (h 83) b 0)) 86 (fup (h 86) b 0)) 87 (fup (h 87) b 0)) 88 (fup (h 88) b 3)) 84 = h 84 := (sOf_ne _ _ (by decide)).trans ((sOf_ne _ _ (by decide)).trans ((sOf_ne _ _ (by decide)).trans ((sOf_ne _ _ (by decide)).trans ((sOf_ne _ _ (by decide)).trans ((sOf_ne _ _ (by decide)).trans (sOf_ne _ _ (by decide)))))))
  have e30_88 : (setO (setO (setO (setO (setO (setO (setO h 80 (fup (h 80) b w)) 81 (fup (h 81) b e)) 82 (fup (h 82) b k)) 83 (fup (h 83) b 0)) 86 (fup (h 86) b 0)) 87 (fup (h 87) b 0)) 88 (fup (h 88) b 3)) 88 = fup (h 88) b 3 := sOf_eq _ _ _
  have e31_87 : (setO (setO (setO (setO (setO (setO (setO h 80 (fup (h 80) b w)) 81 (fup (h 81) b e)) 82 (fup (h 82) b k)) 83 (fup (h 83) b 0)) 86 (fup (h 86) b 0)) 87 (fup (h 87) b 0)) 88 (fup (h 88) b 3)) 87 = fup (h 87) b 0 := (sOf_ne _ _ (by decide)).trans (sOf_eq _ _ _)
  exact L56_8 (((64 * b + 64 - (64 * b)).toNat) + 1) (64 * b) (setO (setO (setO (setO (setO (setO (setO h 80 (fup (h 80) b w)) 81 (fup (h 81) b e)) 82 (fup (h 82) b k)) 83 (fup (h 83) b 0)) 86 (fup (h 86) b 0)) 87 (fup (h 87) b 0)) 88 (fup (h 88) b 3)) hT_7 hF_7 (by first | omega | (simp [up, setR] <;> omega)) (by rewrite [e22_80]; rfl) (by rewrite [e23_81]; rfl) (by rewrite [e24_86]; rfl) (by rewrite [e25_84, e26_85]; (intro j hj; exact ⟨rfl, rfl⟩)) (by rewrite [e27_82]; rfl) (by rewrite [e28_83]; rfl) (by rewrite [e29_84]; intro q g1 g2; exfalso; omega) (by rewrite [e30_88]; rfl) (by rewrite [e31_87]; rfl) (Nat.lt_succ_self _)
set_option maxRecDepth 20000 in
theorem s_beBands_t (f w e l : Int) (h : Hp_) (hT : TY h) (hf : f = 0 ∨ f = 10) (hw : 0 ≤ w ∧ w ≤ 8) (he : 0 ≤ e ∧ e ≤ 8) (hl : 0 ≤ l ∧ l ≤ 3) : Ctr yX12_beBands cX12_beBands 11 none (rmd 1) ly ly 0 0 [vR 73, vI f, vI w, vI e, vI l] h (fun r h' => (TY h' ∧ FRM [80, 81, 82, 83, 84, 85, 86, 87, 88] [] h h') ∧ r = none ∧ (∀ j : Int, 0 ≤ j → j < 3 * l + 1 → (h' 80) (f + j) = BW w l j) ∧ (∀ j : Int, 0 ≤ j → j < 3 * l + 1 → (h' 81) (f + j) = BH e l j) ∧ (∀ j : Int, 0 ≤ j → j < 3 * l + 1 → (h' 86) (f + j) = 0) ∧ (f = 10 → (∀ q : Int, q < 10 → (h' 80) q = (h 80) q ∧ (h' 81) q = (h 81) q) ∧ (∀ j : Int, j < 640 → (h' 84) j = (h 84) j ∧ (h' 85) j = (h 85) j)) ∧ (∀ j : Int, 0 ≤ j → j < 3 * l + 1 → (h' 82) (f + j) = kdB j) ∧ (f = 0 → ∀ j : Int, 0 ≤ j → j < 64 * (3 * l + 1) → (h' 84) j = 0) ∧ (f = 10 → ∀ q : Int, q < 10 → (h' 83) q = (h 83) q) ∧ (∀ j : Int, 0 ≤ j → j < 3 * l + 1 → (h' 88) (f + j) = 3) ∧ (∀ j : Int, 0 ≤ j → j < 3 * l + 1 → (h' 83) (f + j) = 0 ∧ (h' 87) (f + j) = 0)) := by
  refine Ctr_of (by decide) (Nat.le_of_ble_eq_true rfl) ⟨Nat.le_refl _, Nat.le_refl _⟩ (fun K hK hQ _ => ?_)
  show TT K ly 0 0 0 [(0, vR 73), (1, vI f), (2, vI w), (3, vI e), (4, vI l)] [] h
  have hF : FRM [80, 81, 82, 83, 84, 85, 86, 87, 88] [] h h := FRM_rf _ _ _
  refine TT_aload_n hK rfl 0 rfl dX12_beBands_0 ?_
  refine TT_iload_n hK rfl 1 rfl dX12_beBands_1 ?_
  refine TT_iload_n hK rfl 2 rfl dX12_beBands_2 ?_
  refine TT_iload hK 4 rfl dX12_beBands_3 ?_
  refine iv_X12_153 hK (s_left_x w l h hT (by first | omega | (simp [up, setR] <;> omega)) (by first | omega | (simp [up, setR] <;> omega))) ⟨by decide, by decide⟩ (by decide) rfl rfl (Nat.le_of_ble_eq_true rfl) ⟨by decide, by decide⟩ dX12_beBands_5 ?_
  intro r9 g5_1 hp9
  obtain ⟨⟨hT_1, hG_1⟩, z5_1, hr9, hz_1, p1_1⟩ := hp9
  rw [hr9]
  have hF_1 : FRM [80, 81, 82, 83, 84, 85, 86, 87, 88] [] h g5_1 := FRM_tr hF hG_1 (by decide) (by decide)
  show TT K ly 0 0 8 [(0, vR 73), (1, vI f), (2, vI w), (3, vI e), (4, vI l)] [vI z5_1, vI f, vR 73] g5_1
  refine TT_iload_n hK rfl 3 rfl dX12_beBands_8 ?_
  refine TT_iload hK 4 rfl dX12_beBands_9 ?_
  refine iv_X12_153 hK (s_left_x e l g5_1 hT_1 (by first | omega | (simp [up, setR] <;> omega)) (by first | omega | (simp [up, setR] <;> omega))) ⟨by decide, by decide⟩ (by decide) rfl rfl (Nat.le_of_ble_eq_true rfl) ⟨by decide, by decide⟩ dX12_beBands_11 ?_
  intro r9 g11_2 hp9
  obtain ⟨⟨hT_2, hG_2⟩, z11_2, hr9, hz_2, p1_2⟩ := hp9
  rw [hr9]
  have hF_2 : FRM [80, 81, 82, 83, 84, 85, 86, 87, 88] [] h g11_2 := FRM_tr hF_1 hG_2 (by decide) (by decide)
  show TT K ly 0 0 14 [(0, vR 73), (1, vI f), (2, vI w), (3, vI e), (4, vI l)] [vI z11_2, vI z5_1, vI f, vR 73] g11_2
  refine TT_iconst hK dX12_beBands_14 ?_
  refine iv_X12_156 hK (s_beBand_t f z5_1 z11_2 0 g11_2 hT_2 (by first | omega | (simp [up, setR] <;> omega)) (by first | omega | (simp [up, setR] <;> omega)) (by first | omega | (simp [up, setR] <;> omega)) (by first | omega | (simp [up, setR] <;> omega))) (by decide) rfl ⟨by decide, by decide⟩ (by decide) rfl rfl (Nat.le_of_ble_eq_true rfl) ⟨by decide, by decide⟩ dX12_beBands_15 ?_
  intro r9 g15_3 hp9
  obtain ⟨⟨hT_3, hG_3⟩, hr9, q1_3, q2_3, q3_3, q5_3, q4_3, q6_3, q9_3, q11_3, q12_3⟩ := hp9
  rw [hr9]
  have hF_3 : FRM [80, 81, 82, 83, 84, 85, 86, 87, 88] [] h g15_3 := FRM_tr hF_2 hG_3 (by decide) (by decide)
  rw [show g11_2 80 = h 80 from ((hG_2.1 80 (by decide))).trans (hG_1.1 80 (by decide))] at q1_3
  rw [show g11_2 81 = h 81 from ((hG_2.1 81 (by decide))).trans (hG_1.1 81 (by decide))] at q2_3
  rw [show g11_2 86 = h 86 from ((hG_2.1 86 (by decide))).trans (hG_1.1 86 (by decide))] at q3_3
  rw [show g11_2 84 = h 84 from ((hG_2.1 84 (by decide))).trans (hG_1.1 84 (by decide))] at q5_3
  rw [show g11_2 85 = h 85 from ((hG_2.1 85 (by decide))).trans (hG_1.1 85 (by decide))] at q5_3
  rw [show g11_2 82 = h 82 from ((hG_2.1 82 (by decide))).trans (hG_1.1 82 (by decide))] at q4_3
  rw [show g11_2 83 = h 83 from ((hG_2.1 83 (by decide))).trans (hG_1.1 83 (by decide))] at q9_3
  rw [show g11_2 88 = h 88 from ((hG_2.1 88 (by decide))).trans (hG_1.1 88 (by decide))] at q11_3
  rw [show g11_2 87 = h 87 from ((hG_2.1 87 (by decide))).trans (hG_1.1 87 (by decide))] at q12_3
  have q1_at15 := q1_3
  have q2_at15 := q2_3
  have q3_at15 := q3_3
  have q5_at15 := q5_3
  have q4_at15 := q4_3
  have q6_at15 := q6_3
  have q9_at15 := q9_3
  have q11_at15 := q11_3
  have q12_at15 := q12_3
  show TT K ly 0 0 18 [(0, vR 73), (1, vI f), (2, vI w), (3, vI e), (4, vI l)] [] g15_3
  refine TT_iconst hK dX12_beBands_18 ?_
  refine TT_istore hK (lv' := [(5, vI 1), (0, vR 73), (1, vI f), (2, vI w), (3, vI e), (4, vI l)]) (by decide) rfl dX12_beBands_19 ?_
  have L21_4 : ∀ (k4 : Nat) (r : Int) (w21_4 : Hp_), TY w21_4 → FRM [80, 81, 82, 83, 84, 85, 86, 87, 88] [] h w21_4 → (1 ≤ r ∧ r ≤ l + 1) → (∀ j : Int, 0 ≤ j → j < 3 * (r - 1) + 1 → (w21_4 80) (f + j) = BW w l j) → (∀ j : Int, 0 ≤ j → j < 3 * (r - 1) + 1 → (w21_4 81) (f + j) = BH e l j) → (∀ j : Int, 0 ≤ j → j < 3 * (r - 1) + 1 → (w21_4 86) (f + j) = 0) → (f = 10 → (∀ q : Int, q < 10 → (w21_4 80) q = h 80 q ∧ (w21_4 81) q = h 81 q) ∧ (∀ j : Int, j < 640 → (w21_4 84) j = h 84 j ∧ (w21_4 85) j = h 85 j)) → (f = 10 → ∀ q : Int, q < 10 → (w21_4 83) q = h 83 q) → (∀ j : Int, 0 ≤ j → j < 3 * (r - 1) + 1 → (w21_4 82) (f + j) = kdB j) → (f = 0 → ∀ j : Int, 0 ≤ j → j < 64 * (3 * (r - 1) + 1) → (w21_4 84) j = 0) → (∀ j : Int, 0 ≤ j → j < 3 * (r - 1) + 1 → (w21_4 88) (f + j) = 3) → (∀ j : Int, 0 ≤ j → j < 3 * (r - 1) + 1 → (w21_4 83) (f + j) = 0) → (∀ j : Int, 0 ≤ j → j < 3 * (r - 1) + 1 → (w21_4 87) (f + j) = 0) → ((4 : Int) - r).toNat < k4 → TT K ly 0 0 21 [(0, vR 73), (1, vI f), (2, vI w), (3, vI e), (4, vI l), (5, vI r)] [] w21_4 := by
    intro k4
    induction k4 with
    | zero => intro r w21_4 hT21_4 hF21_4 hr hbw hbh hbt hkk hk8 hbk hbz h88 h83t h87t hk4; exact absurd hk4 (Nat.not_lt_zero _)
    | succ k4 ih4 =>
      intro r w21_4 hT21_4 hF21_4 hr hbw hbh hbt hkk hk8 hbk hbz h88 h83t h87t hk4
      refine TT_iload hK 5 rfl dX12_beBands_21 ?_
      refine TT_iload hK 4 rfl dX12_beBands_23 ?_
      refine TT_icmp_gt hK (tgt := 132) (irm (by omega) (by omega)) (irm (by omega) (by omega)) dX12_beBands_25 (by decide) (fun hb25_5 => ?_) (fun hb25_5 => ?_)
      · refine TT_vret hK hQ ?_ dX12_beBands_132
        exact ⟨⟨hT21_4, hF21_4⟩, rfl, (by intro j h1 h2; exact hbw j h1 (by omega)), (by intro j h1 h2; exact hbh j h1 (by omega)), (by intro j h1 h2; exact hbt j h1 (by omega)), (by exact hkk), (by intro j h1 h2; exact hbk j h1 (by omega)), (by intro ef j h1 h2; exact hbz ef j h1 (by omega)), (by exact hk8), (by intro j h1 h2; exact h88 j h1 (by omega)), (by intro j h1 h2; exact ⟨h83t j h1 (by omega), h87t j h1 (by omega)⟩)⟩
      · refine TT_iload hK 4 rfl dX12_beBands_28 ?_
        refine TT_iload hK 5 rfl dX12_beBands_30 ?_
        refine TT_isub hK dX12_beBands_32 ?_
        refine TT_istore hK (lv' := [(6, vI (l - r)), (0, vR 73), (1, vI f), (2, vI w), (3, vI e), (4, vI l), (5, vI r)]) (by decide) rfl dX12_beBands_33 ?_
        refine TT_iload_n hK rfl 3 rfl dX12_beBands_35 ?_
        refine TT_iload hK 0 rfl dX12_beBands_36 ?_
        refine TT_iconst hK dX12_beBands_38 ?_
        refine TT_iadd hK dX12_beBands_39 ?_
        refine iv_X12_153 hK (s_left_x w ((l - r) + 1) w21_4 hT21_4 (by first | omega | (simp [up, setR] <;> omega)) (by first | omega | (simp [up, setR] <;> omega))) ⟨by decide, by decide⟩ (by decide) rfl rfl (Nat.le_of_ble_eq_true rfl) ⟨by decide, by decide⟩ dX12_beBands_40 ?_
        intro r9 g40_6 hp9
        obtain ⟨⟨hT_6, hG_6⟩, z40_6, hr9, hz_6, p1_6⟩ := hp9
        rw [hr9]
        have hF_6 : FRM [80, 81, 82, 83, 84, 85, 86, 87, 88] [] h g40_6 := FRM_tr hF21_4 hG_6 (by decide) (by decide)
        show TT K ly 0 0 43 [(6, vI (l - r)), (0, vR 73), (1, vI f), (2, vI w), (3, vI e), (4, vI l), (5, vI r)] [vI z40_6] g40_6
        refine TT_istore hK (lv' := [(7, vI z40_6), (6, vI (l - r)), (0, vR 73), (1, vI f), (2, vI w), (3, vI e), (4, vI l), (5, vI r)]) (by decide) rfl dX12_beBands_43 ?_
        refine TT_iload_n hK rfl 5 rfl dX12_beBands_45 ?_
        refine TT_iload hK 1 rfl dX12_beBands_46 ?_
        refine TT_iconst hK dX12_beBands_48 ?_
        refine TT_iadd hK dX12_beBands_49 ?_
        refine iv_X12_153 hK (s_left_x e ((l - r) + 1) g40_6 hT_6 (by first | omega | (simp [up, setR] <;> omega)) (by first | omega | (simp [up, setR] <;> omega))) ⟨by decide, by decide⟩ (by decide) rfl rfl (Nat.le_of_ble_eq_true rfl) ⟨by decide, by decide⟩ dX12_beBands_50 ?_
        intro r9 g50_7 hp9
        obtain ⟨⟨hT_7, hG_7⟩, z50_7, hr9, hz_7, p1_7⟩ := hp9
        rw [hr9]
        have hF_7 : FRM [80, 81, 82, 83, 84, 85, 86, 87, 88] [] h g50_7 := FRM_tr hF_6 hG_7 (by decide) (by decide)
        show TT K ly 0 0 53 [(7, vI z40_6), (6, vI (l - r)), (0, vR 73), (1, vI f), (2, vI w), (3, vI e), (4, vI l), (5, vI r)] [vI z50_7] g50_7
        refine TT_istore hK (lv' := [(8, vI z50_7), (7, vI z40_6), (6, vI (l - r)), (0, vR 73), (1, vI f), (2, vI w), (3, vI e), (4, vI l), (5, vI r)]) (by decide) rfl dX12_beBands_53 ?_
        refine TT_iload_n hK rfl 5 rfl dX12_beBands_55 ?_
        refine TT_iload hK 2 rfl dX12_beBands_56 ?_
        refine iv_X12_153 hK (s_left_x w (l - r) g50_7 hT_7 (by first | omega | (simp [up, setR] <;> omega)) (by first | omega | (simp [up, setR] <;> omega))) ⟨by decide, by decide⟩ (by decide) rfl rfl (Nat.le_of_ble_eq_true rfl) ⟨by decide, by decide⟩ dX12_beBands_58 ?_
        intro r9 g58_8 hp9
        obtain ⟨⟨hT_8, hG_8⟩, z58_8, hr9, hz_8, p1_8⟩ := hp9
        rw [hr9]
        have hF_8 : FRM [80, 81, 82, 83, 84, 85, 86, 87, 88] [] h g58_8 := FRM_tr hF_7 hG_8 (by decide) (by decide)
        show TT K ly 0 0 61 [(8, vI z50_7), (7, vI z40_6), (6, vI (l - r)), (0, vR 73), (1, vI f), (2, vI w), (3, vI e), (4, vI l), (5, vI r)] [vI z58_8] g58_8
        refine TT_iload hK 1 rfl dX12_beBands_61 ?_
        have ow1 : z40_6 ≤ z58_8 := by have k9 := lf_le (n := w) (l := l - r) (by omega) (by omega); omega
        refine TT_isub hK dX12_beBands_63 ?_
        refine TT_istore hK (lv' := [(9, vI (z58_8 - z40_6)), (8, vI z50_7), (7, vI z40_6), (6, vI (l - r)), (0, vR 73), (1, vI f), (2, vI w), (3, vI e), (4, vI l), (5, vI r)]) (by decide) rfl dX12_beBands_64 ?_
        refine TT_iload_n hK rfl 7 rfl dX12_beBands_66 ?_
        refine TT_iload hK 3 rfl dX12_beBands_67 ?_
        refine iv_X12_153 hK (s_left_x e (l - r) g58_8 hT_8 (by first | omega | (simp [up, setR] <;> omega)) (by first | omega | (simp [up, setR] <;> omega))) ⟨by decide, by decide⟩ (by decide) rfl rfl (Nat.le_of_ble_eq_true rfl) ⟨by decide, by decide⟩ dX12_beBands_69 ?_
        intro r9 g69_9 hp9
        obtain ⟨⟨hT_9, hG_9⟩, z69_9, hr9, hz_9, p1_9⟩ := hp9
        rw [hr9]
        have hF_9 : FRM [80, 81, 82, 83, 84, 85, 86, 87, 88] [] h g69_9 := FRM_tr hF_8 hG_9 (by decide) (by decide)
        show TT K ly 0 0 72 [(9, vI (z58_8 - z40_6)), (8, vI z50_7), (7, vI z40_6), (6, vI (l - r)), (0, vR 73), (1, vI f), (2, vI w), (3, vI e), (4, vI l), (5, vI r)] [vI z69_9] g69_9
        refine TT_iload hK 1 rfl dX12_beBands_72 ?_
        have ow2 : z50_7 ≤ z69_9 := by have k9 := lf_le (n := e) (l := l - r) (by omega) (by omega); omega
        refine TT_isub hK dX12_beBands_74 ?_
        refine TT_istore hK (lv' := [(10, vI (z69_9 - z50_7)), (9, vI (z58_8 - z40_6)), (8, vI z50_7), (7, vI z40_6), (6, vI (l - r)), (0, vR 73), (1, vI f), (2, vI w), (3, vI e), (4, vI l), (5, vI r)]) (by decide) rfl dX12_beBands_75 ?_
        refine TT_aload_n hK rfl 5 rfl dX12_beBands_77 ?_
        refine TT_iload_n hK rfl 6 rfl dX12_beBands_78 ?_
        refine TT_iconst hK dX12_beBands_79 ?_
        refine TT_iload hK 10 rfl dX12_beBands_80 ?_
        refine TT_imul hK dX12_beBands_82 ?_
        refine TT_iadd hK dX12_beBands_83 ?_
        refine TT_iconst hK dX12_beBands_84 ?_
        refine TT_isub hK dX12_beBands_85 ?_
        refine TT_iload hK 1 rfl dX12_beBands_86 ?_
        refine TT_iload hK 2 rfl dX12_beBands_88 ?_
        refine TT_iconst hK dX12_beBands_90 ?_
        refine iv_X12_156 hK (s_beBand_t ((f + (3 * r)) - 2) (z58_8 - z40_6) z50_7 1 g69_9 hT_9 (by first | omega | (simp [up, setR] <;> omega)) (by first | omega | (simp [up, setR] <;> omega)) (by first | omega | (simp [up, setR] <;> omega)) (by first | omega | (simp [up, setR] <;> omega))) (by decide) rfl ⟨by decide, by decide⟩ (by decide) rfl rfl (Nat.le_of_ble_eq_true rfl) ⟨by decide, by decide⟩ dX12_beBands_91 ?_
        intro r9 g91_10 hp9
        obtain ⟨⟨hT_10, hG_10⟩, hr9, q1_10, q2_10, q3_10, q5_10, q4_10, q6_10, q9_10, q11_10, q12_10⟩ := hp9
        rw [hr9]
        have hF_10 : FRM [80, 81, 82, 83, 84, 85, 86, 87, 88] [] h g91_10 := FRM_tr hF_9 hG_10 (by decide) (by decide)
        rw [show g69_9 80 = w21_4 80 from ((hG_9.1 80 (by decide))).trans (((hG_8.1 80 (by decide))).trans (((hG_7.1 80 (by decide))).trans (hG_6.1 80 (by decide))))] at q1_10
        rw [show g69_9 81 = w21_4 81 from ((hG_9.1 81 (by decide))).trans (((hG_8.1 81 (by decide))).trans (((hG_7.1 81 (by decide))).trans (hG_6.1 81 (by decide))))] at q2_10
        rw [show g69_9 86 = w21_4 86 from ((hG_9.1 86 (by decide))).trans (((hG_8.1 86 (by decide))).trans (((hG_7.1 86 (by decide))).trans (hG_6.1 86 (by decide))))] at q3_10
        rw [show g69_9 84 = w21_4 84 from ((hG_9.1 84 (by decide))).trans (((hG_8.1 84 (by decide))).trans (((hG_7.1 84 (by decide))).trans (hG_6.1 84 (by decide))))] at q5_10
        rw [show g69_9 85 = w21_4 85 from ((hG_9.1 85 (by decide))).trans (((hG_8.1 85 (by decide))).trans (((hG_7.1 85 (by decide))).trans (hG_6.1 85 (by decide))))] at q5_10
        rw [show g69_9 82 = w21_4 82 from ((hG_9.1 82 (by decide))).trans (((hG_8.1 82 (by decide))).trans (((hG_7.1 82 (by decide))).trans (hG_6.1 82 (by decide))))] at q4_10
        rw [show g69_9 83 = w21_4 83 from ((hG_9.1 83 (by decide))).trans (((hG_8.1 83 (by decide))).trans (((hG_7.1 83 (by decide))).trans (hG_6.1 83 (by decide))))] at q9_10
        rw [show g69_9 88 = w21_4 88 from ((hG_9.1 88 (by decide))).trans (((hG_8.1 88 (by decide))).trans (((hG_7.1 88 (by decide))).trans (hG_6.1 88 (by decide))))] at q11_10
        rw [show g69_9 87 = w21_4 87 from ((hG_9.1 87 (by decide))).trans (((hG_8.1 87 (by decide))).trans (((hG_7.1 87 (by decide))).trans (hG_6.1 87 (by decide))))] at q12_10
        have q1_at91 := q1_10
        have q2_at91 := q2_10
        have q3_at91 := q3_10
        have q5_at91 := q5_10
        have q4_at91 := q4_10
        have q6_at91 := q6_10
        have q9_at91 := q9_10
        have q11_at91 := q11_10
        have q12_at91 := q12_10
        show TT K ly 0 0 94 [(10, vI (z69_9 - z50_7)), (9, vI (z58_8 - z40_6)), (8, vI z50_7), (7, vI z40_6), (6, vI (l - r)), (0, vR 73), (1, vI f), (2, vI w), (3, vI e), (4, vI l), (5, vI r)] [] g91_10
        refine TT_aload_n hK rfl 5 rfl dX12_beBands_94 ?_
        refine TT_iload_n hK rfl 6 rfl dX12_beBands_95 ?_
        refine TT_iconst hK dX12_beBands_96 ?_
        refine TT_iload hK 10 rfl dX12_beBands_97 ?_
        refine TT_imul hK dX12_beBands_99 ?_
        refine TT_iadd hK dX12_beBands_100 ?_
        refine TT_iconst hK dX12_beBands_101 ?_
        refine TT_isub hK dX12_beBands_102 ?_
        refine TT_iload hK 3 rfl dX12_beBands_103 ?_
        refine TT_iload hK 0 rfl dX12_beBands_105 ?_
        refine TT_iconst hK dX12_beBands_107 ?_
        refine iv_X12_156 hK (s_beBand_t ((f + (3 * r)) - 1) z40_6 (z69_9 - z50_7) 0 g91_10 hT_10 (by first | omega | (simp [up, setR] <;> omega)) (by first | omega | (simp [up, setR] <;> omega)) (by first | omega | (simp [up, setR] <;> omega)) (by first | omega | (simp [up, setR] <;> omega))) (by decide) rfl ⟨by decide, by decide⟩ (by decide) rfl rfl (Nat.le_of_ble_eq_true rfl) ⟨by decide, by decide⟩ dX12_beBands_108 ?_
        intro r9 g108_11 hp9
        obtain ⟨⟨hT_11, hG_11⟩, hr9, q1_11, q2_11, q3_11, q5_11, q4_11, q6_11, q9_11, q11_11, q12_11⟩ := hp9
        rw [hr9]
        have hF_11 : FRM [80, 81, 82, 83, 84, 85, 86, 87, 88] [] h g108_11 := FRM_tr hF_10 hG_11 (by decide) (by decide)
        have q1_at108 := q1_11
        have q2_at108 := q2_11
        have q3_at108 := q3_11
        have q5_at108 := q5_11
        have q4_at108 := q4_11
        have q6_at108 := q6_11
        have q9_at108 := q9_11
        have q11_at108 := q11_11
        have q12_at108 := q12_11
        show TT K ly 0 0 111 [(10, vI (z69_9 - z50_7)), (9, vI (z58_8 - z40_6)), (8, vI z50_7), (7, vI z40_6), (6, vI (l - r)), (0, vR 73), (1, vI f), (2, vI w), (3, vI e), (4, vI l), (5, vI r)] [] g108_11
        refine TT_aload_n hK rfl 5 rfl dX12_beBands_111 ?_
        refine TT_iload_n hK rfl 6 rfl dX12_beBands_112 ?_
        refine TT_iconst hK dX12_beBands_113 ?_
        refine TT_iload hK 10 rfl dX12_beBands_114 ?_
        refine TT_imul hK dX12_beBands_116 ?_
        refine TT_iadd hK dX12_beBands_117 ?_
        refine TT_iload hK 1 rfl dX12_beBands_118 ?_
        refine TT_iload hK 0 rfl dX12_beBands_120 ?_
        refine TT_iconst hK dX12_beBands_122 ?_
        refine iv_X12_156 hK (s_beBand_t (f + (3 * r)) (z58_8 - z40_6) (z69_9 - z50_7) 2 g108_11 hT_11 (by first | omega | (simp [up, setR] <;> omega)) (by first | omega | (simp [up, setR] <;> omega)) (by first | omega | (simp [up, setR] <;> omega)) (by first | omega | (simp [up, setR] <;> omega))) (by decide) rfl ⟨by decide, by decide⟩ (by decide) rfl rfl (Nat.le_of_ble_eq_true rfl) ⟨by decide, by decide⟩ dX12_beBands_123 ?_
        intro r9 g123_12 hp9
        obtain ⟨⟨hT_12, hG_12⟩, hr9, q1_12, q2_12, q3_12, q5_12, q4_12, q6_12, q9_12, q11_12, q12_12⟩ := hp9
        rw [hr9]
        have hF_12 : FRM [80, 81, 82, 83, 84, 85, 86, 87, 88] [] h g123_12 := FRM_tr hF_11 hG_12 (by decide) (by decide)
        have q1_at123 := q1_12
        have q2_at123 := q2_12
        have q3_at123 := q3_12
        have q5_at123 := q5_12
        have q4_at123 := q4_12
        have q6_at123 := q6_12
        have q9_at123 := q9_12
        have q11_at123 := q11_12
        have q12_at123 := q12_12
        show TT K ly 0 0 126 [(10, vI (z69_9 - z50_7)), (9, vI (z58_8 - z40_6)), (8, vI z50_7), (7, vI z40_6), (6, vI (l - r)), (0, vR 73), (1, vI f), (2, vI w), (3, vI e), (4, vI l), (5, vI r)] [] g123_12
        refine TT_iinc hK (v := r + 1) (lv' := [(5, vI (r + 1)), (10, vI (z69_9 - z50_7)), (9, vI (z58_8 - z40_6)), (8, vI z50_7), (7, vI z40_6), (6, vI (l - r)), (0, vR 73), (1, vI f), (2, vI w), (3, vI e), (4, vI l)]) 10 rfl rfl (by decide) rfl dX12_beBands_126 ?_
        refine TT_goto hK (tgt := 21) dX12_beBands_129 (by decide) ?_
        refine TT_sub [6, 7, 8, 9, 10, 0] rfl ?_
        exact ih4 (r + 1) g123_12 hT_12 hF_12 (by first | omega | (simp [up, setR] <;> omega)) (by rw [q1_at123, q1_at108, q1_at91]; exact BWs (by omega) hbw (by omega) (by omega)) (by rw [q2_at123, q2_at108, q2_at91]; exact BHs (by omega) hbh (by omega) (by omega)) (by rw [q3_at123, q3_at108, q3_at91]; exact B0s (by omega) hbt) (by intro ef; have k10 := (hkk ef).1; have kpk := (hkk ef).2; exact ⟨(by intro q hq; rw [q1_at123, q1_at108, q1_at91, q2_at123, q2_at108, q2_at91, fup_ne _ _ (by omega), fup_ne _ _ (by omega), fup_ne _ _ (by omega), fup_ne _ _ (by omega), fup_ne _ _ (by omega), fup_ne _ _ (by omega)]; exact k10 q hq), fun j hj => by have u1 := q5_at123 j (by omega); have u2 := q5_at108 j (by omega); have u3 := q5_at91 j (by omega); have u4 := kpk j hj; exact ⟨u1.1.trans (u2.1.trans (u3.1.trans u4.1)), u1.2.trans (u2.2.trans (u3.2.trans u4.2))⟩⟩) (by intro ef q hq; rw [q9_at123, q9_at108, q9_at91, fup_ne _ _ (by omega), fup_ne _ _ (by omega), fup_ne _ _ (by omega)]; exact hk8 ef q hq) (by rw [q4_at123, q4_at108, q4_at91]; exact KDs (by omega) hbk) (by intro ef j h1 h2; by_cases c3 : 64 * (f + 3 * r) ≤ j; exact q6_at123 j (by omega) (by omega); rw [(q5_at123 j (by omega)).1]; by_cases c2 : 64 * (f + 3 * r - 1) ≤ j; exact q6_at108 j (by omega) (by omega); rw [(q5_at108 j (by omega)).1]; by_cases c1 : 64 * (f + 3 * r - 2) ≤ j; exact q6_at91 j (by omega) (by omega); rw [(q5_at91 j (by omega)).1]; exact hbz ef j h1 (by omega)) (by rw [q11_at123, q11_at108, q11_at91]; exact B3s (by omega) h88) (by rw [q9_at123, q9_at108, q9_at91]; exact B0s (by omega) h83t) (by rw [q12_at123, q12_at108, q12_at91]; exact B0s (by omega) h87t) (by first | omega | (simp [up, setR] <;> omega))
  refine TT_sub [1, 2, 3, 4, 5, 0] rfl ?_
  exact L21_4 ((((4 : Int) - 1).toNat) + 1) 1 g15_3 hT_3 hF_3 (by first | omega | (simp [up, setR] <;> omega)) (by intro j h1 h2; rw [q1_at15, show j = 0 by omega, Int.add_zero, fup_eq]; unfold BW; rw [if_pos rfl]; omega) (by intro j h1 h2; rw [q2_at15, show j = 0 by omega, Int.add_zero, fup_eq]; unfold BH; rw [if_pos rfl]; omega) (by intro j h1 h2; rw [q3_at15, show j = 0 by omega, Int.add_zero, fup_eq]) (by intro ef; exact ⟨fun q hq => by rw [q1_at15, q2_at15, fup_ne _ _ (by omega), fup_ne _ _ (by omega)]; exact ⟨rfl, rfl⟩, fun j hj => q5_at15 j (by omega)⟩) (by intro ef q hq; rw [q9_at15, fup_ne _ _ (by omega)]) (by intro j h1 h2; rw [q4_at15, show j = 0 by omega, Int.add_zero, fup_eq]; rfl) (by intro ef j h1 h2; exact q6_at15 j (by omega) (by omega)) (by intro j h1 h2; rw [q11_at15, show j = 0 by omega, Int.add_zero, fup_eq]) (by intro j h1 h2; rw [q9_at15, show j = 0 by omega, Int.add_zero, fup_eq]) (by intro j h1 h2; rw [q12_at15, show j = 0 by omega, Int.add_zero, fup_eq]) (Nat.lt_succ_self _)
set_option maxRecDepth 20000 in
theorem s_decode_t (n : Int) (h : Hp_) (hT : TY h) (hn : -2147483648 ≤ n ∧ n ≤ 2147483647) (htb : TBL (h 74) (h 75)) : Ctr yX12_decode cX12_decode 10 (some .int) (rmd 10) ly ly 0 0 [vR 73, vI n] h (fun r h' => (TY h' ∧ FRM [73, 77, 78, 79, 80, 81, 82, 83, 84, 85, 86, 87, 88, 93, 94, 95, 96, 97, 98, 99, 101, 102, 103, 104, 105, 106] [2, 26, 27, 28, 29, 32, 33, 34, 36, 38, 39, 42, 43, 44, 45, 50, 51, 52, 55] h h') ∧ ∃ z : Int, r = some (vI z) ∧ (0 ≤ z ∧ z ≤ 12) ∧ ((∀ q : Int, q < 10 → (h' 80) q = (h 80) q ∧ (h' 81) q = (h 81) q) ∧ (∀ j : Int, j < 640 → (h' 84) j = (h 84) j ∧ (h' 85) j = (h 85) j)) ∧ (∀ q : Int, q < 10 → (h' 83) q = (h 83) q) ∧ (((h' 73 2) = 0 ∧ ((4 ≤ n ∧ n ≤ (h 73 41)) ∧ 0 ≤ (tpZ (h 100) n)) ∧ z = (tpZ (h 100) n)) ∨ ((h' 73 2) = 1 ∧ ¬((4 ≤ n ∧ n ≤ (h 73 41)) ∧ 0 ≤ (tpZ (h 100) n)))) ∧ (IMQ ((h' 73 2) = 0) ((∀ j : Int, 0 ≤ j → j < 3 * (h 100) 2 + 1 → (h' 106) j = (tpS (h 100) n).2 j) ∧ (h' 73 55) = 3 * (h 100) 2 + 1)) ∧ (IMQ ((h' 73 2) ≠ 0) ((h' 106) = (h 106) ∧ (h' 73 55) = (h 73 55)))) := by
  refine Ctr_of (by decide) (Nat.le_of_ble_eq_true rfl) ⟨Nat.le_refl _, Nat.le_refl _⟩ (fun K hK hQ _ => ?_)
  show TT K ly 0 0 0 [(0, vR 73), (1, vI n)] [] h
  have hF : FRM [73, 77, 78, 79, 80, 81, 82, 83, 84, 85, 86, 87, 88, 93, 94, 95, 96, 97, 98, 99, 101, 102, 103, 104, 105, 106] [2, 26, 27, 28, 29, 32, 33, 34, 36, 38, 39, 42, 43, 44, 45, 50, 51, 52, 55] h h := FRM_rf _ _ _
  refine TT_aload_n hK rfl 0 rfl dX12_decode_0 ?_
  refine TT_iconst hK dX12_decode_1 ?_
  refine pf_X12_117 hK (by decide) rfl dX12_decode_2 ?_
  refine TT_hp (h' := setO h 73 (fup (h 73) 2 0)) (up_can rfl rfl rfl) ?_
  have hT_1 : TY (setO h 73 (fup (h 73) 2 0)) := tu_73_2 hT (show up h 73 2 0 = (setO h 73 (fup (h 73) 2 0)) from up_can rfl rfl rfl) (by omega)
  have hF_1 : FRM [73, 77, 78, 79, 80, 81, 82, 83, 84, 85, 86, 87, 88, 93, 94, 95, 96, 97, 98, 99, 101, 102, 103, 104, 105, 106] [2, 26, 27, 28, 29, 32, 33, 34, 36, 38, 39, 42, 43, 44, 45, 50, 51, 52, 55] h (setO h 73 (fup (h 73) 2 0)) := FRM_f (show up h 73 2 0 = (setO h 73 (fup (h 73) 2 0)) from up_can rfl rfl rfl) hF (by decide) (by decide)
  have J76_2 : ∀ (w76_2 : Hp_), TY w76_2 → FRM [73, 77, 78, 79, 80, 81, 82, 83, 84, 85, 86, 87, 88, 93, 94, 95, 96, 97, 98, 99, 101, 102, 103, 104, 105, 106] [2, 26, 27, 28, 29, 32, 33, 34, 36, 38, 39, 42, 43, 44, 45, 50, 51, 52, 55] h w76_2 → ((∀ q : Int, q < 10 → (w76_2 80) q = h 80 q ∧ (w76_2 81) q = h 81 q) ∧ (∀ j : Int, j < 640 → (w76_2 84) j = h 84 j ∧ (w76_2 85) j = h 85 j)) → (∀ q : Int, q < 10 → (w76_2 83) q = h 83 q) → (¬((4 ≤ n ∧ n ≤ h 73 41) ∧ (((1 ≤ h 100 0 ∧ h 100 0 ≤ 8) ∧ (1 ≤ h 100 1 ∧ h 100 1 ≤ 8)) ∧ (0 ≤ h 100 2 ∧ h 100 2 ≤ 3) ∧ (1 ≤ h 100 3 ∧ h 100 3 ≤ 3)))) → ((w76_2 106) = h 106) → ((w76_2 73 55) = h 73 55) → TT K ly 0 0 76 [(0, vR 73), (1, vI n)] [] w76_2 := by
    intro w76_2 hT76_2 hF76_2 kq k83i hx k106 k55t
    refine TT_aload_n hK rfl 0 rfl dX12_decode_76 ?_
    refine TT_iconst hK dX12_decode_77 ?_
    refine iv_X12_385 hK (s_refuse_e 1 w76_2 hT76_2 (by first | omega | (simp [up, setR] <;> omega))) (by decide) rfl ⟨by decide, by decide⟩ (by decide) rfl rfl (Nat.le_of_ble_eq_true rfl) ⟨by decide, by decide⟩ dX12_decode_78 ?_
    intro r9 g78_3 hp9
    obtain ⟨⟨hT_3, hG_3⟩, z78_3, hr9, hz_3, rf_3⟩ := hp9
    rw [hr9]
    have hF_3 : FRM [73, 77, 78, 79, 80, 81, 82, 83, 84, 85, 86, 87, 88, 93, 94, 95, 96, 97, 98, 99, 101, 102, 103, 104, 105, 106] [2, 26, 27, 28, 29, 32, 33, 34, 36, 38, 39, 42, 43, 44, 45, 50, 51, 52, 55] h g78_3 := FRM_tr hF76_2 hG_3 (by decide) (by decide)
    have rf_at78 := rf_3
    show TT K ly 0 0 81 [(0, vR 73), (1, vI n)] [vI z78_3] g78_3
    refine TT_iret hK hQ ?_ dX12_decode_81
    have e4_80 : g78_3 80 = w76_2 80 := (hG_3.1 80 (by decide))
    have e5_81 : g78_3 81 = w76_2 81 := (hG_3.1 81 (by decide))
    have e6_84 : g78_3 84 = w76_2 84 := (hG_3.1 84 (by decide))
    have e7_85 : g78_3 85 = w76_2 85 := (hG_3.1 85 (by decide))
    have e8_83 : g78_3 83 = w76_2 83 := (hG_3.1 83 (by decide))
    have e9_73_2 : g78_3 73 2 = (g78_3 73) 2 := rfl
    have e10_106 : g78_3 106 = w76_2 106 := (hG_3.1 106 (by decide))
    have e11_73_2 : g78_3 73 2 = (g78_3 73) 2 := rfl
    have e12_73_55 : g78_3 73 55 = (w76_2 73) 55 := (hG_3.2 55 (by decide))
    have e13_106 : g78_3 106 = w76_2 106 := (hG_3.1 106 (by decide))
    have e14_73_2 : g78_3 73 2 = (g78_3 73) 2 := rfl
    have e15_73_55 : g78_3 73 55 = (w76_2 73) 55 := (hG_3.2 55 (by decide))
    exact ⟨⟨hT_3, hF_3⟩, z78_3, rfl, (by omega), (by rewrite [e4_80, e5_81, e6_84, e7_85]; exact kq), (by rewrite [e8_83]; first | exact k83i | (intro q hq; rfl) | (intro q hq; exact fup_ne _ _ (by omega)) | (intro q hq; rw [fup_ne _ _ (by omega)]; exact k83i q hq)), (by rewrite [e9_73_2]; exact Or.inr ⟨by omega, fun q => hx ⟨q.1, by by_cases y : (((1 ≤ h 100 0 ∧ h 100 0 ≤ 8) ∧ (1 ≤ h 100 1 ∧ h 100 1 ≤ 8)) ∧ (0 ≤ h 100 2 ∧ h 100 2 ≤ 3) ∧ (1 ≤ h 100 3 ∧ h 100 3 ≤ 3)); exact y; (have k9 := tpS_n (n := n) y; rw [tpZ_e, k9] at q; exact absurd q.2 (by decide))⟩⟩), (by rewrite [e10_106, e11_73_2, e12_73_55]; intro q; exfalso; omega), (by rewrite [e13_106, e14_73_2, e15_73_55]; exact fun _ => ⟨k106, k55t⟩)⟩
  refine TT_iload_n hK rfl 1 rfl dX12_decode_5 ?_
  refine TT_iconst hK dX12_decode_6 ?_
  refine TT_icmp_lt hK (tgt := 76) (irm (by omega) (by omega)) (by decide) dX12_decode_7 (by decide) (fun hb7_16 => ?_) (fun hb7_16 => ?_)
  · have e17_80 : (setO h 73 (fup (h 73) 2 0)) 80 = h 80 := sOf_ne _ _ (by decide)
    have e18_81 : (setO h 73 (fup (h 73) 2 0)) 81 = h 81 := sOf_ne _ _ (by decide)
    have e19_84 : (setO h 73 (fup (h 73) 2 0)) 84 = h 84 := sOf_ne _ _ (by decide)
    have e20_85 : (setO h 73 (fup (h 73) 2 0)) 85 = h 85 := sOf_ne _ _ (by decide)
    have e21_83 : (setO h 73 (fup (h 73) 2 0)) 83 = h 83 := sOf_ne _ _ (by decide)
    have e22_106 : (setO h 73 (fup (h 73) 2 0)) 106 = h 106 := sOf_ne _ _ (by decide)
    have e23_73_55 : (setO h 73 (fup (h 73) 2 0)) 73 55 = (h 73) 55 := rd_ (sOf_eq _ _ _) (fup_ne _ _ (by decide))
    exact J76_2 (setO h 73 (fup (h 73) 2 0)) hT_1 hF_1 (by rewrite [e17_80, e18_81, e19_84, e20_85]; exact ⟨fun q hq => ⟨rfl, rfl⟩, fun j hj => ⟨rfl, rfl⟩⟩) (by rewrite [e21_83]; first | (intro q hq; rfl) | (intro q hq; exact fup_ne _ _ (by omega))) (by intro q; omega) (by rewrite [e22_106]; first | rfl) (by rewrite [e23_73_55]; first | omega | (simp [up, setR] <;> omega))
  · refine TT_iload_n hK rfl 1 rfl dX12_decode_10 ?_
    refine TT_aload_n hK rfl 0 rfl dX12_decode_11 ?_
    refine gf_X12_329 hK (by decide) rfl (v := (h 73) 41) (rd_ (sOf_eq _ _ _) (fup_ne _ _ (by decide))) dX12_decode_12 ?_
    have r24 := ty_73_41 (v := (h 73) 41) hT_1 (rd_ (sOf_eq _ _ _) (fup_ne _ _ (by decide)))
    refine TT_icmp_gt hK (tgt := 76) (irm (by omega) (by omega)) (irm (by omega) (by omega)) dX12_decode_15 (by decide) (fun hb15_25 => ?_) (fun hb15_25 => ?_)
    · have e26_80 : (setO h 73 (fup (h 73) 2 0)) 80 = h 80 := sOf_ne _ _ (by decide)
      have e27_81 : (setO h 73 (fup (h 73) 2 0)) 81 = h 81 := sOf_ne _ _ (by decide)
      have e28_84 : (setO h 73 (fup (h 73) 2 0)) 84 = h 84 := sOf_ne _ _ (by decide)
      have e29_85 : (setO h 73 (fup (h 73) 2 0)) 85 = h 85 := sOf_ne _ _ (by decide)
      have e30_83 : (setO h 73 (fup (h 73) 2 0)) 83 = h 83 := sOf_ne _ _ (by decide)
      have e31_106 : (setO h 73 (fup (h 73) 2 0)) 106 = h 106 := sOf_ne _ _ (by decide)
      have e32_73_55 : (setO h 73 (fup (h 73) 2 0)) 73 55 = (h 73) 55 := rd_ (sOf_eq _ _ _) (fup_ne _ _ (by decide))
      exact J76_2 (setO h 73 (fup (h 73) 2 0)) hT_1 hF_1 (by rewrite [e26_80, e27_81, e28_84, e29_85]; exact ⟨fun q hq => ⟨rfl, rfl⟩, fun j hj => ⟨rfl, rfl⟩⟩) (by rewrite [e30_83]; first | (intro q hq; rfl) | (intro q hq; exact fup_ne _ _ (by omega))) (by intro q; omega) (by rewrite [e31_106]; first | rfl) (by rewrite [e32_73_55]; first | omega | (simp [up, setR] <;> omega))
    · refine TT_aload_n hK rfl 0 rfl dX12_decode_18 ?_
      refine gf_X12_96 hK (by decide) rfl (q := 100) rfl rfl dX12_decode_19 ?_
      refine TT_iconst hK dX12_decode_22 ?_
      refine TT_iald hK (o := 100) (n := 4700) (by decide) rfl (by first | omega | (simp [up, setR] <;> omega)) (by first | omega | (simp [up, setR] <;> omega)) (v := (h 100) 0) (rd_ (sOf_ne _ _ (by decide)) rfl) dX12_decode_23 ?_
      have r33 := ty_100 (i := 0) (v := (h 100) 0) hT_1 (rd_ (sOf_ne _ _ (by decide)) rfl) (by omega) (by omega)
      refine TT_iconst hK dX12_decode_24 ?_
      refine TT_bipush hK (by decide) dX12_decode_25 ?_
      refine iv_X12_120 hK (s_X12_within ((h 100) 0) 1 8 (setO h 73 (fup (h 73) 2 0)) hT_1 (by first | omega | (simp [up, setR] <;> omega)) (by first | omega | (simp [up, setR] <;> omega)) (by first | omega | (simp [up, setR] <;> omega))) ⟨by decide, by decide⟩ (by decide) rfl rfl (Nat.le_of_ble_eq_true rfl) ⟨by decide, by decide⟩ dX12_decode_27 ?_
      intro r9 g27_34 hp9
      obtain ⟨⟨hT_34, hG_34⟩, z27_34, hr9, hz_34, p1_34, p2_34⟩ := hp9
      rw [hr9]
      have hF_34 : FRM [73, 77, 78, 79, 80, 81, 82, 83, 84, 85, 86, 87, 88, 93, 94, 95, 96, 97, 98, 99, 101, 102, 103, 104, 105, 106] [2, 26, 27, 28, 29, 32, 33, 34, 36, 38, 39, 42, 43, 44, 45, 50, 51, 52, 55] h g27_34 := FRM_tr hF_1 hG_34 (by decide) (by decide)
      show TT K ly 0 0 30 [(0, vR 73), (1, vI n)] [vI z27_34] g27_34
      refine TT_if_eq hK (tgt := 76) (irm (by omega) (by omega)) dX12_decode_30 (by decide) (fun hb30_35 => ?_) (fun hb30_35 => ?_)
      · have e36_80 : g27_34 80 = h 80 := ((hG_34.1 80 (by decide))).trans (sOf_ne _ _ (by decide))
        have e37_81 : g27_34 81 = h 81 := ((hG_34.1 81 (by decide))).trans (sOf_ne _ _ (by decide))
        have e38_84 : g27_34 84 = h 84 := ((hG_34.1 84 (by decide))).trans (sOf_ne _ _ (by decide))
        have e39_85 : g27_34 85 = h 85 := ((hG_34.1 85 (by decide))).trans (sOf_ne _ _ (by decide))
        have e40_83 : g27_34 83 = h 83 := ((hG_34.1 83 (by decide))).trans (sOf_ne _ _ (by decide))
        have e41_106 : g27_34 106 = h 106 := ((hG_34.1 106 (by decide))).trans (sOf_ne _ _ (by decide))
        have e42_73_55 : g27_34 73 55 = (h 73) 55 := (congrFun (hG_34.1 73 (by decide)) 55).trans (rd_ (sOf_eq _ _ _) (fup_ne _ _ (by decide)))
        exact J76_2 g27_34 hT_34 hF_34 (by rewrite [e36_80, e37_81, e38_84, e39_85]; exact ⟨fun q hq => ⟨rfl, rfl⟩, fun j hj => ⟨rfl, rfl⟩⟩) (by rewrite [e40_83]; first | (intro q hq; rfl) | (intro q hq; exact fup_ne _ _ (by omega))) (by intro q; omega) (by rewrite [e41_106]; first | rfl) (by rewrite [e42_73_55]; first | omega | (simp [up, setR] <;> omega))
      · refine TT_aload_n hK rfl 0 rfl dX12_decode_33 ?_
        refine gf_X12_96 hK (by decide) rfl (q := 100) rfl rfl dX12_decode_34 ?_
        refine TT_iconst hK dX12_decode_37 ?_
        refine TT_iald hK (o := 100) (n := 4700) (by decide) rfl (by first | omega | (simp [up, setR] <;> omega)) (by first | omega | (simp [up, setR] <;> omega)) (v := (h 100) 1) (rd_ (((hG_34.1 100 (by decide))).trans (sOf_ne _ _ (by decide))) rfl) dX12_decode_38 ?_
        have r43 := ty_100 (i := 1) (v := (h 100) 1) hT_34 (rd_ (((hG_34.1 100 (by decide))).trans (sOf_ne _ _ (by decide))) rfl) (by omega) (by omega)
        refine TT_iconst hK dX12_decode_39 ?_
        refine TT_bipush hK (by decide) dX12_decode_40 ?_
        refine iv_X12_120 hK (s_X12_within ((h 100) 1) 1 8 g27_34 hT_34 (by first | omega | (simp [up, setR] <;> omega)) (by first | omega | (simp [up, setR] <;> omega)) (by first | omega | (simp [up, setR] <;> omega))) ⟨by decide, by decide⟩ (by decide) rfl rfl (Nat.le_of_ble_eq_true rfl) ⟨by decide, by decide⟩ dX12_decode_42 ?_
        intro r9 g42_44 hp9
        obtain ⟨⟨hT_44, hG_44⟩, z42_44, hr9, hz_44, p1_44, p2_44⟩ := hp9
        rw [hr9]
        have hF_44 : FRM [73, 77, 78, 79, 80, 81, 82, 83, 84, 85, 86, 87, 88, 93, 94, 95, 96, 97, 98, 99, 101, 102, 103, 104, 105, 106] [2, 26, 27, 28, 29, 32, 33, 34, 36, 38, 39, 42, 43, 44, 45, 50, 51, 52, 55] h g42_44 := FRM_tr hF_34 hG_44 (by decide) (by decide)
        show TT K ly 0 0 45 [(0, vR 73), (1, vI n)] [vI z42_44] g42_44
        refine TT_if_eq hK (tgt := 76) (irm (by omega) (by omega)) dX12_decode_45 (by decide) (fun hb45_45 => ?_) (fun hb45_45 => ?_)
        · have e46_80 : g42_44 80 = h 80 := ((hG_44.1 80 (by decide))).trans (((hG_34.1 80 (by decide))).trans (sOf_ne _ _ (by decide)))
          have e47_81 : g42_44 81 = h 81 := ((hG_44.1 81 (by decide))).trans (((hG_34.1 81 (by decide))).trans (sOf_ne _ _ (by decide)))
          have e48_84 : g42_44 84 = h 84 := ((hG_44.1 84 (by decide))).trans (((hG_34.1 84 (by decide))).trans (sOf_ne _ _ (by decide)))
          have e49_85 : g42_44 85 = h 85 := ((hG_44.1 85 (by decide))).trans (((hG_34.1 85 (by decide))).trans (sOf_ne _ _ (by decide)))
          have e50_83 : g42_44 83 = h 83 := ((hG_44.1 83 (by decide))).trans (((hG_34.1 83 (by decide))).trans (sOf_ne _ _ (by decide)))
          have e51_106 : g42_44 106 = h 106 := ((hG_44.1 106 (by decide))).trans (((hG_34.1 106 (by decide))).trans (sOf_ne _ _ (by decide)))
          have e52_73_55 : g42_44 73 55 = (h 73) 55 := (congrFun (hG_44.1 73 (by decide)) 55).trans ((congrFun (hG_34.1 73 (by decide)) 55).trans (rd_ (sOf_eq _ _ _) (fup_ne _ _ (by decide))))
          exact J76_2 g42_44 hT_44 hF_44 (by rewrite [e46_80, e47_81, e48_84, e49_85]; exact ⟨fun q hq => ⟨rfl, rfl⟩, fun j hj => ⟨rfl, rfl⟩⟩) (by rewrite [e50_83]; first | (intro q hq; rfl) | (intro q hq; exact fup_ne _ _ (by omega))) (by intro q; omega) (by rewrite [e51_106]; first | rfl) (by rewrite [e52_73_55]; first | omega | (simp [up, setR] <;> omega))
        · refine TT_aload_n hK rfl 0 rfl dX12_decode_48 ?_
          refine gf_X12_96 hK (by decide) rfl (q := 100) rfl rfl dX12_decode_49 ?_
          refine TT_iconst hK dX12_decode_52 ?_
          refine TT_iald hK (o := 100) (n := 4700) (by decide) rfl (by first | omega | (simp [up, setR] <;> omega)) (by first | omega | (simp [up, setR] <;> omega)) (v := (h 100) 2) (rd_ (((hG_44.1 100 (by decide))).trans (((hG_34.1 100 (by decide))).trans (sOf_ne _ _ (by decide)))) rfl) dX12_decode_53 ?_
          have r53 := ty_100 (i := 2) (v := (h 100) 2) hT_44 (rd_ (((hG_44.1 100 (by decide))).trans (((hG_34.1 100 (by decide))).trans (sOf_ne _ _ (by decide)))) rfl) (by omega) (by omega)
          refine TT_iconst hK dX12_decode_54 ?_
          refine TT_iconst hK dX12_decode_55 ?_
          refine iv_X12_120 hK (s_X12_within ((h 100) 2) 0 3 g42_44 hT_44 (by first | omega | (simp [up, setR] <;> omega)) (by first | omega | (simp [up, setR] <;> omega)) (by first | omega | (simp [up, setR] <;> omega))) ⟨by decide, by decide⟩ (by decide) rfl rfl (Nat.le_of_ble_eq_true rfl) ⟨by decide, by decide⟩ dX12_decode_56 ?_
          intro r9 g56_54 hp9
          obtain ⟨⟨hT_54, hG_54⟩, z56_54, hr9, hz_54, p1_54, p2_54⟩ := hp9
          rw [hr9]
          have hF_54 : FRM [73, 77, 78, 79, 80, 81, 82, 83, 84, 85, 86, 87, 88, 93, 94, 95, 96, 97, 98, 99, 101, 102, 103, 104, 105, 106] [2, 26, 27, 28, 29, 32, 33, 34, 36, 38, 39, 42, 43, 44, 45, 50, 51, 52, 55] h g56_54 := FRM_tr hF_44 hG_54 (by decide) (by decide)
          show TT K ly 0 0 59 [(0, vR 73), (1, vI n)] [vI z56_54] g56_54
          refine TT_if_eq hK (tgt := 76) (irm (by omega) (by omega)) dX12_decode_59 (by decide) (fun hb59_55 => ?_) (fun hb59_55 => ?_)
          · have e56_80 : g56_54 80 = h 80 := ((hG_54.1 80 (by decide))).trans (((hG_44.1 80 (by decide))).trans (((hG_34.1 80 (by decide))).trans (sOf_ne _ _ (by decide))))
            have e57_81 : g56_54 81 = h 81 := ((hG_54.1 81 (by decide))).trans (((hG_44.1 81 (by decide))).trans (((hG_34.1 81 (by decide))).trans (sOf_ne _ _ (by decide))))
            have e58_84 : g56_54 84 = h 84 := ((hG_54.1 84 (by decide))).trans (((hG_44.1 84 (by decide))).trans (((hG_34.1 84 (by decide))).trans (sOf_ne _ _ (by decide))))
            have e59_85 : g56_54 85 = h 85 := ((hG_54.1 85 (by decide))).trans (((hG_44.1 85 (by decide))).trans (((hG_34.1 85 (by decide))).trans (sOf_ne _ _ (by decide))))
            have e60_83 : g56_54 83 = h 83 := ((hG_54.1 83 (by decide))).trans (((hG_44.1 83 (by decide))).trans (((hG_34.1 83 (by decide))).trans (sOf_ne _ _ (by decide))))
            have e61_106 : g56_54 106 = h 106 := ((hG_54.1 106 (by decide))).trans (((hG_44.1 106 (by decide))).trans (((hG_34.1 106 (by decide))).trans (sOf_ne _ _ (by decide))))
            have e62_73_55 : g56_54 73 55 = (h 73) 55 := (congrFun (hG_54.1 73 (by decide)) 55).trans ((congrFun (hG_44.1 73 (by decide)) 55).trans ((congrFun (hG_34.1 73 (by decide)) 55).trans (rd_ (sOf_eq _ _ _) (fup_ne _ _ (by decide)))))
            exact J76_2 g56_54 hT_54 hF_54 (by rewrite [e56_80, e57_81, e58_84, e59_85]; exact ⟨fun q hq => ⟨rfl, rfl⟩, fun j hj => ⟨rfl, rfl⟩⟩) (by rewrite [e60_83]; first | (intro q hq; rfl) | (intro q hq; exact fup_ne _ _ (by omega))) (by intro q; omega) (by rewrite [e61_106]; first | rfl) (by rewrite [e62_73_55]; first | omega | (simp [up, setR] <;> omega))
          · refine TT_aload_n hK rfl 0 rfl dX12_decode_62 ?_
            refine gf_X12_96 hK (by decide) rfl (q := 100) rfl rfl dX12_decode_63 ?_
            refine TT_iconst hK dX12_decode_66 ?_
            refine TT_iald hK (o := 100) (n := 4700) (by decide) rfl (by first | omega | (simp [up, setR] <;> omega)) (by first | omega | (simp [up, setR] <;> omega)) (v := (h 100) 3) (rd_ (((hG_54.1 100 (by decide))).trans (((hG_44.1 100 (by decide))).trans (((hG_34.1 100 (by decide))).trans (sOf_ne _ _ (by decide))))) rfl) dX12_decode_67 ?_
            have r63 := ty_100 (i := 3) (v := (h 100) 3) hT_54 (rd_ (((hG_54.1 100 (by decide))).trans (((hG_44.1 100 (by decide))).trans (((hG_34.1 100 (by decide))).trans (sOf_ne _ _ (by decide))))) rfl) (by omega) (by omega)
            refine TT_iconst hK dX12_decode_68 ?_
            refine TT_iconst hK dX12_decode_69 ?_
            refine iv_X12_120 hK (s_X12_within ((h 100) 3) 1 3 g56_54 hT_54 (by first | omega | (simp [up, setR] <;> omega)) (by first | omega | (simp [up, setR] <;> omega)) (by first | omega | (simp [up, setR] <;> omega))) ⟨by decide, by decide⟩ (by decide) rfl rfl (Nat.le_of_ble_eq_true rfl) ⟨by decide, by decide⟩ dX12_decode_70 ?_
            intro r9 g70_64 hp9
            obtain ⟨⟨hT_64, hG_64⟩, z70_64, hr9, hz_64, p1_64, p2_64⟩ := hp9
            rw [hr9]
            have hF_64 : FRM [73, 77, 78, 79, 80, 81, 82, 83, 84, 85, 86, 87, 88, 93, 94, 95, 96, 97, 98, 99, 101, 102, 103, 104, 105, 106] [2, 26, 27, 28, 29, 32, 33, 34, 36, 38, 39, 42, 43, 44, 45, 50, 51, 52, 55] h g70_64 := FRM_tr hF_54 hG_64 (by decide) (by decide)
            show TT K ly 0 0 73 [(0, vR 73), (1, vI n)] [vI z70_64] g70_64
            refine TT_if_ne hK (tgt := 82) (irm (by omega) (by omega)) dX12_decode_73 (by decide) (fun hb73_65 => ?_) (fun hb73_65 => ?_)
            · refine TT_aload_n hK rfl 0 rfl dX12_decode_82 ?_
              refine gf_X12_96 hK (by decide) rfl (q := 100) rfl rfl dX12_decode_83 ?_
              refine TT_iconst hK dX12_decode_86 ?_
              refine TT_iald hK (o := 100) (n := 4700) (by decide) rfl (by first | omega | (simp [up, setR] <;> omega)) (by first | omega | (simp [up, setR] <;> omega)) (v := (h 100) 0) (rd_ (((hG_64.1 100 (by decide))).trans (((hG_54.1 100 (by decide))).trans (((hG_44.1 100 (by decide))).trans (((hG_34.1 100 (by decide))).trans (sOf_ne _ _ (by decide)))))) rfl) dX12_decode_87 ?_
              refine TT_nmI (fun wq hwq => ?_)
              refine TT_istore_n hK rfl (lv' := [(2, vI wq), (0, vR 73), (1, vI n)]) (by decide) rfl dX12_decode_88 ?_
              refine TT_aload_n hK rfl 1 rfl dX12_decode_89 ?_
              refine gf_X12_96 hK (by decide) rfl (q := 100) rfl rfl dX12_decode_90 ?_
              refine TT_iconst hK dX12_decode_93 ?_
              refine TT_iald hK (o := 100) (n := 4700) (by decide) rfl (by first | omega | (simp [up, setR] <;> omega)) (by first | omega | (simp [up, setR] <;> omega)) (v := (h 100) 1) (rd_ (((hG_64.1 100 (by decide))).trans (((hG_54.1 100 (by decide))).trans (((hG_44.1 100 (by decide))).trans (((hG_34.1 100 (by decide))).trans (sOf_ne _ _ (by decide)))))) rfl) dX12_decode_94 ?_
              refine TT_nmI (fun eq heq => ?_)
              refine TT_istore_n hK rfl (lv' := [(3, vI eq), (2, vI wq), (0, vR 73), (1, vI n)]) (by decide) rfl dX12_decode_95 ?_
              refine TT_aload_n hK rfl 2 rfl dX12_decode_96 ?_
              refine gf_X12_96 hK (by decide) rfl (q := 100) rfl rfl dX12_decode_97 ?_
              refine TT_iconst hK dX12_decode_100 ?_
              refine TT_iald hK (o := 100) (n := 4700) (by decide) rfl (by first | omega | (simp [up, setR] <;> omega)) (by first | omega | (simp [up, setR] <;> omega)) (v := (h 100) 2) (rd_ (((hG_64.1 100 (by decide))).trans (((hG_54.1 100 (by decide))).trans (((hG_44.1 100 (by decide))).trans (((hG_34.1 100 (by decide))).trans (sOf_ne _ _ (by decide)))))) rfl) dX12_decode_101 ?_
              refine TT_nmI (fun lq hlq => ?_)
              refine TT_istore hK (lv' := [(4, vI lq), (3, vI eq), (2, vI wq), (0, vR 73), (1, vI n)]) (by decide) rfl dX12_decode_102 ?_
              have hh9 : (4 ≤ n ∧ n ≤ h 73 41) ∧ (((1 ≤ h 100 0 ∧ h 100 0 ≤ 8) ∧ (1 ≤ h 100 1 ∧ h 100 1 ≤ 8)) ∧ (0 ≤ h 100 2 ∧ h 100 2 ≤ 3) ∧ (1 ≤ h 100 3 ∧ h 100 3 ≤ 3)) := by omega
              have tp9 : (tpS (h 100) n) = fpS (h 100) n (h 100 0) (h 100 1) (h 100 2) (h 100 3 * (h 100 2 + 1) - 0).toNat 0 s0S := tpS_p hh9.2
              refine TT_aload_n hK rfl 3 rfl dX12_decode_104 ?_
              refine TT_bipush hK (by decide) dX12_decode_105 ?_
              refine TT_iload_n hK rfl 2 rfl dX12_decode_107 ?_
              refine TT_iload_n hK rfl 1 rfl dX12_decode_108 ?_
              refine TT_iload hK 0 rfl dX12_decode_109 ?_
              refine iv_X12_342 hK (s_beBands_t 10 wq eq lq g70_64 hT_64 (by first | omega | (simp [up, setR] <;> omega)) (by first | omega | (simp [up, setR] <;> omega)) (by first | omega | (simp [up, setR] <;> omega)) (by first | omega | (simp [up, setR] <;> omega))) (by decide) rfl ⟨by decide, by decide⟩ (by decide) rfl rfl (Nat.le_of_ble_eq_true rfl) ⟨by decide, by decide⟩ dX12_decode_111 ?_
              intro r9 g111_66 hp9
              obtain ⟨⟨hT_66, hG_66⟩, hr9, q1_66, q2_66, q3_66, q6_66, q7_66, q8_66, q10_66, q11_66, q13_66⟩ := hp9
              rw [hr9]
              have hF_66 : FRM [73, 77, 78, 79, 80, 81, 82, 83, 84, 85, 86, 87, 88, 93, 94, 95, 96, 97, 98, 99, 101, 102, 103, 104, 105, 106] [2, 26, 27, 28, 29, 32, 33, 34, 36, 38, 39, 42, 43, 44, 45, 50, 51, 52, 55] h g111_66 := FRM_tr hF_64 hG_66 (by decide) (by decide)
              rw [show g70_64 80 = h 80 from ((hG_64.1 80 (by decide))).trans (((hG_54.1 80 (by decide))).trans (((hG_44.1 80 (by decide))).trans (((hG_34.1 80 (by decide))).trans (sOf_ne _ _ (by decide)))))] at q6_66
              rw [show g70_64 81 = h 81 from ((hG_64.1 81 (by decide))).trans (((hG_54.1 81 (by decide))).trans (((hG_44.1 81 (by decide))).trans (((hG_34.1 81 (by decide))).trans (sOf_ne _ _ (by decide)))))] at q6_66
              rw [show g70_64 84 = h 84 from ((hG_64.1 84 (by decide))).trans (((hG_54.1 84 (by decide))).trans (((hG_44.1 84 (by decide))).trans (((hG_34.1 84 (by decide))).trans (sOf_ne _ _ (by decide)))))] at q6_66
              rw [show g70_64 85 = h 85 from ((hG_64.1 85 (by decide))).trans (((hG_54.1 85 (by decide))).trans (((hG_44.1 85 (by decide))).trans (((hG_34.1 85 (by decide))).trans (sOf_ne _ _ (by decide)))))] at q6_66
              rw [show g70_64 83 = h 83 from ((hG_64.1 83 (by decide))).trans (((hG_54.1 83 (by decide))).trans (((hG_44.1 83 (by decide))).trans (((hG_34.1 83 (by decide))).trans (sOf_ne _ _ (by decide)))))] at q10_66
              have q1_at111 := q1_66
              have q2_at111 := q2_66
              have q3_at111 := q3_66
              have q6_at111 := q6_66
              have q10_at111 := q10_66
              have q11_at111 := q11_66
              have q13_at111 := q13_66
              show TT K ly 0 0 114 [(4, vI lq), (3, vI eq), (2, vI wq), (0, vR 73), (1, vI n)] [] g111_66
              refine TT_iconst hK dX12_decode_114 ?_
              refine TT_istore hK (lv' := [(5, vI 0), (4, vI lq), (3, vI eq), (2, vI wq), (0, vR 73), (1, vI n)]) (by decide) rfl dX12_decode_115 ?_
              have L117_67 : ∀ (k67 : Nat) (j9 : Int) (w117_67 : Hp_), TY w117_67 → FRM [73, 77, 78, 79, 80, 81, 82, 83, 84, 85, 86, 87, 88, 93, 94, 95, 96, 97, 98, 99, 101, 102, 103, 104, 105, 106] [2, 26, 27, 28, 29, 32, 33, 34, 36, 38, 39, 42, 43, 44, 45, 50, 51, 52, 55] h w117_67 → (0 ≤ j9 ∧ j9 ≤ 10) → (∀ t : Int, 0 ≤ t → t < j9 → (w117_67 103) t = 0) → (∀ j : Int, 0 ≤ j → j < 3 * lq + 1 → (w117_67 80) (10 + j) = BW wq lq j) → (∀ j : Int, 0 ≤ j → j < 3 * lq + 1 → (w117_67 81) (10 + j) = BH eq lq j) → ((∀ q : Int, q < 10 → (w117_67 80) q = h 80 q ∧ (w117_67 81) q = h 81 q) ∧ (∀ j : Int, j < 640 → (w117_67 84) j = h 84 j ∧ (w117_67 85) j = h 85 j)) → (∀ q : Int, q < 10 → (w117_67 83) q = h 83 q) → ((w117_67 73 2) = 0) → (∀ j : Int, 0 ≤ j → j < 3 * lq + 1 → ((w117_67 83) (10 + j) = 0 ∧ (w117_67 86) (10 + j) = 0) ∧ (w117_67 87) (10 + j) = 0 ∧ (w117_67 88) (10 + j) = 3) → ((w117_67 106) = h 106) → ((w117_67 73 55) = h 73 55) → ((10 : Int) - j9).toNat < k67 → TT K ly 0 0 117 [(0, vR 73), (1, vI n), (2, vI wq), (3, vI eq), (4, vI lq), (5, vI j9)] [] w117_67 := by
                intro k67
                induction k67 with
                | zero => intro j9 w117_67 hT117_67 hF117_67 hj9 hpz hbw hbh kq k83i k2t hz4 k106 k55t hk67; exact absurd hk67 (Nat.not_lt_zero _)
                | succ k67 ih67 =>
                  intro j9 w117_67 hT117_67 hF117_67 hj9 hpz hbw hbh kq k83i k2t hz4 k106 k55t hk67
                  refine TT_iload hK 5 rfl dX12_decode_117 ?_
                  refine TT_bipush hK (by decide) dX12_decode_119 ?_
                  refine TT_icmp_ge hK (tgt := 138) (irm (by omega) (by omega)) (by decide) dX12_decode_121 (by decide) (fun hb121_68 => ?_) (fun hb121_68 => ?_)
                  · refine TT_aload_n hK rfl 0 rfl dX12_decode_138 ?_
                    refine TT_iconst hK dX12_decode_139 ?_
                    refine pf_X12_375 hK (by decide) rfl (by first | decide | omega) dX12_decode_140 ?_
                    refine TT_hp (h' := setO w117_67 73 (fup (w117_67 73) 50 0)) (up_can rfl rfl rfl) ?_
                    have hT_69 : TY (setO w117_67 73 (fup (w117_67 73) 50 0)) := tu_73_50 hT117_67 (show up w117_67 73 50 0 = (setO w117_67 73 (fup (w117_67 73) 50 0)) from up_can rfl rfl rfl) (by omega)
                    have hF_69 : FRM [73, 77, 78, 79, 80, 81, 82, 83, 84, 85, 86, 87, 88, 93, 94, 95, 96, 97, 98, 99, 101, 102, 103, 104, 105, 106] [2, 26, 27, 28, 29, 32, 33, 34, 36, 38, 39, 42, 43, 44, 45, 50, 51, 52, 55] h (setO w117_67 73 (fup (w117_67 73) 50 0)) := FRM_f (show up w117_67 73 50 0 = (setO w117_67 73 (fup (w117_67 73) 50 0)) from up_can rfl rfl rfl) hF117_67 (by decide) (by decide)
                    refine TT_iconst hK dX12_decode_143 ?_
                    refine TT_istore hK (lv' := [(5, vI 0), (0, vR 73), (1, vI n), (2, vI wq), (3, vI eq), (4, vI lq)]) (by decide) rfl dX12_decode_144 ?_
                    refine TT_iconst hK dX12_decode_146 ?_
                    refine TT_istore hK (lv' := [(6, vI 4), (5, vI 0), (0, vR 73), (1, vI n), (2, vI wq), (3, vI eq), (4, vI lq)]) (by decide) rfl dX12_decode_147 ?_
                    refine TT_aload_n hK rfl 2 rfl dX12_decode_149 ?_
                    refine gf_X12_96 hK (by decide) rfl (q := 100) rfl rfl dX12_decode_150 ?_
                    refine TT_iconst hK dX12_decode_153 ?_
                    refine TT_iald hK (o := 100) (n := 4700) (by decide) rfl (by first | omega | (simp [up, setR] <;> omega)) (by first | omega | (simp [up, setR] <;> omega)) (v := (h 100) 3) (rd_ ((sOf_ne _ _ (by decide)).trans (hF117_67.1 100 (by decide))) rfl) dX12_decode_154 ?_
                    have r70 := ty_100 (i := 3) (v := (h 100) 3) hT_69 (rd_ ((sOf_ne _ _ (by decide)).trans (hF117_67.1 100 (by decide))) rfl) (by omega) (by omega)
                    refine TT_iload hK 6 rfl dX12_decode_155 ?_
                    refine TT_iconst hK dX12_decode_157 ?_
                    refine TT_iadd hK dX12_decode_158 ?_
                    refine TT_imul hK dX12_decode_159 ?_
                    refine TT_nmI (fun al hal => ?_)
                    refine TT_istore hK (lv' := [(7, vI al), (6, vI 4), (5, vI 0), (0, vR 73), (1, vI n), (2, vI wq), (3, vI eq), (4, vI lq)]) (by decide) rfl dX12_decode_160 ?_
                    have L162_71 : ∀ (k71 : Nat) (k : Int) (f : Int) (S9 : PS_) (w162_71 : Hp_), TY w162_71 → FRM [73, 77, 78, 79, 80, 81, 82, 83, 84, 85, 86, 87, 88, 93, 94, 95, 96, 97, 98, 99, 101, 102, 103, 104, 105, 106] [2, 26, 27, 28, 29, 32, 33, 34, 36, 38, 39, 42, 43, 44, 45, 50, 51, 52, 55] h w162_71 → (0 ≤ k ∧ k ≤ al) → (-1 ≤ f ∧ f ≤ n) → (PQ (w162_71 103) lq k) → ((0 ≤ f → PSQ (w162_71 103) (w162_71 102) f) ∧ PSQ (w162_71 103) (w162_71 102) n) → (PAQ (w162_71 103) (w162_71 101) (w162_71 102)) → (∀ j : Int, 0 ≤ j → j < 3 * lq + 1 → (w162_71 80) (10 + j) = BW wq lq j) → (∀ j : Int, 0 ≤ j → j < 3 * lq + 1 → (w162_71 81) (10 + j) = BH eq lq j) → ((∀ q : Int, q < 10 → (w162_71 80) q = h 80 q ∧ (w162_71 81) q = h 81 q) ∧ (∀ j : Int, j < 640 → (w162_71 84) j = h 84 j ∧ (w162_71 85) j = h 85 j)) → (∀ q : Int, q < 10 → (w162_71 83) q = h 83 q) → ((w162_71 73 2) = 0) → (IMQ (0 ≤ f) (S9.1 = 0)) → (IMQ (0 ≤ f) (8 * f = S9.2.1 ∧ (w162_71 73 50) = 0)) → (IMQ (0 ≤ f) (∀ j : Int, 0 ≤ j → j < 3 * lq + 1 → ((w162_71 83) (10 + j) = S9.2.2.1 j ∧ (w162_71 86) (10 + j) = S9.2.2.2.1 j) ∧ (w162_71 88) (10 + j) = S9.2.2.2.2 j ∧ (3 ≤ (w162_71 88) (10 + j) ∧ (w162_71 88) (10 + j) ≤ 3 + 8 * f) ∧ (0 ≤ (w162_71 86) (10 + j) ∧ (w162_71 86) (10 + j) ≤ 34) ∧ (0 ≤ (w162_71 83) (10 + j) ∧ (w162_71 83) (10 + j) ≤ 12))) → (IMQ (0 ≤ f) (fpS (h 100) n wq eq lq (al - k).toNat k S9 = (tpS (h 100) n))) → (IMQ (f < 0) (IMQ ((w162_71 73 50) = 0) ((tpZ (h 100) n) = k ∧ ∀ j : Int, 0 ≤ j → j < 3 * lq + 1 → (tpS (h 100) n).2 j = S9.2.2.2.1 j) ∧ IMQ ((w162_71 73 50) = 1) ((tpZ (h 100) n) = -1))) → (∀ j : Int, 0 ≤ j → j < 3 * lq + 1 → (w162_71 87) (10 + j) = S9.2.2.2.1 j) → (0 ≤ (w162_71 73 50) ∧ (w162_71 73 50) ≤ 1) → ((w162_71 106) = h 106) → ((w162_71 73 55) = h 73 55) → (2 * (al - k) + min 1 (f + 1)).toNat < k71 → TT K ly 0 0 162 [(0, vR 73), (1, vI n), (2, vI wq), (3, vI eq), (4, vI lq), (5, vI k), (6, vI f), (7, vI al)] [] w162_71 := by
                      intro k71
                      induction k71 with
                      | zero => intro k f S9 w162_71 hT162_71 hF162_71 hk hf hpq hps hpa hbw hbh kq k83i k2t i0 i1 i2 i3 i4 i5 i6 k106 k55t hk71; exact absurd hk71 (Nat.not_lt_zero _)
                      | succ k71 ih71 =>
                        intro k f S9 w162_71 hT162_71 hF162_71 hk hf hpq hps hpa hbw hbh kq k83i k2t i0 i1 i2 i3 i4 i5 i6 k106 k55t hk71
                        have ha := pu2 hal (by omega) (by omega)
                        have ha3 := pu2b hal (by omega) (by omega)
                        have J209_72 : (IMQ ((w162_71 73 50) = 0) ((tpZ (h 100) n) = k ∧ ∀ j : Int, 0 ≤ j → j < 3 * lq + 1 → (w162_71 87) (10 + j) = (tpS (h 100) n).2 j) ∧ IMQ ((w162_71 73 50) = 1) ((tpZ (h 100) n) = -1)) → TT K ly 0 0 209 [(0, vR 73), (1, vI n), (2, vI wq), (3, vI eq), (4, vI lq), (5, vI k)] [] w162_71 := by
                          intro hfi
                          refine TT_aload_n hK rfl 0 rfl dX12_decode_209 ?_
                          refine gf_X12_375 hK (by decide) rfl (v := (w162_71 73) 50) rfl dX12_decode_210 ?_
                          have r73 := ty_73_50 (v := (w162_71 73) 50) hT162_71 rfl
                          refine TT_if_eq hK (tgt := 222) (irm (by omega) (by omega)) dX12_decode_213 (by decide) (fun hb213_74 => ?_) (fun hb213_74 => ?_)
                          · refine TT_aload_n hK rfl 0 rfl dX12_decode_222 ?_
                            refine TT_iload_n hK rfl 2 rfl dX12_decode_223 ?_
                            refine pf_X12_392 hK (by decide) rfl dX12_decode_224 ?_
                            refine TT_hp (h' := setO w162_71 73 (fup (w162_71 73) 51 wq)) (up_can rfl rfl rfl) ?_
                            have hT_75 : TY (setO w162_71 73 (fup (w162_71 73) 51 wq)) := tu_73_51 hT162_71 (show up w162_71 73 51 wq = (setO w162_71 73 (fup (w162_71 73) 51 wq)) from up_can rfl rfl rfl) (by omega)
                            have hF_75 : FRM [73, 77, 78, 79, 80, 81, 82, 83, 84, 85, 86, 87, 88, 93, 94, 95, 96, 97, 98, 99, 101, 102, 103, 104, 105, 106] [2, 26, 27, 28, 29, 32, 33, 34, 36, 38, 39, 42, 43, 44, 45, 50, 51, 52, 55] h (setO w162_71 73 (fup (w162_71 73) 51 wq)) := FRM_f (show up w162_71 73 51 wq = (setO w162_71 73 (fup (w162_71 73) 51 wq)) from up_can rfl rfl rfl) hF162_71 (by decide) (by decide)
                            refine TT_aload_n hK rfl 0 rfl dX12_decode_227 ?_
                            refine TT_iload_n hK rfl 3 rfl dX12_decode_228 ?_
                            refine pf_X12_395 hK (by decide) rfl dX12_decode_229 ?_
                            refine TT_hp (h' := setO w162_71 73 (fup (fup (w162_71 73) 51 wq) 52 eq)) (up_can (sOf_eq _ _ _) rfl (setO_same _ _ _ _)) ?_
                            have hT_76 : TY (setO w162_71 73 (fup (fup (w162_71 73) 51 wq) 52 eq)) := tu_73_52 hT_75 (show up (setO w162_71 73 (fup (w162_71 73) 51 wq)) 73 52 eq = (setO w162_71 73 (fup (fup (w162_71 73) 51 wq) 52 eq)) from up_can (sOf_eq _ _ _) rfl (setO_same _ _ _ _)) (by omega)
                            have hF_76 : FRM [73, 77, 78, 79, 80, 81, 82, 83, 84, 85, 86, 87, 88, 93, 94, 95, 96, 97, 98, 99, 101, 102, 103, 104, 105, 106] [2, 26, 27, 28, 29, 32, 33, 34, 36, 38, 39, 42, 43, 44, 45, 50, 51, 52, 55] h (setO w162_71 73 (fup (fup (w162_71 73) 51 wq) 52 eq)) := FRM_f (show up (setO w162_71 73 (fup (w162_71 73) 51 wq)) 73 52 eq = (setO w162_71 73 (fup (fup (w162_71 73) 51 wq) 52 eq)) from up_can (sOf_eq _ _ _) rfl (setO_same _ _ _ _)) hF_75 (by decide) (by decide)
                            refine TT_aload_n hK rfl 0 rfl dX12_decode_232 ?_
                            refine TT_iconst hK dX12_decode_233 ?_
                            refine TT_iload hK 4 rfl dX12_decode_234 ?_
                            refine TT_imul hK dX12_decode_236 ?_
                            refine TT_iconst hK dX12_decode_237 ?_
                            refine TT_iadd hK dX12_decode_238 ?_
                            refine pf_X12_398 hK (by decide) rfl dX12_decode_239 ?_
                            refine TT_hp (h' := setO w162_71 73 (fup (fup (fup (w162_71 73) 51 wq) 52 eq) 55 ((3 * lq) + 1))) (up_can (sOf_eq _ _ _) rfl (setO_same _ _ _ _)) ?_
                            have hT_77 : TY (setO w162_71 73 (fup (fup (fup (w162_71 73) 51 wq) 52 eq) 55 ((3 * lq) + 1))) := tu_73_55 hT_76 (show up (setO w162_71 73 (fup (fup (w162_71 73) 51 wq) 52 eq)) 73 55 ((3 * lq) + 1) = (setO w162_71 73 (fup (fup (fup (w162_71 73) 51 wq) 52 eq) 55 ((3 * lq) + 1))) from up_can (sOf_eq _ _ _) rfl (setO_same _ _ _ _)) (by omega)
                            have hF_77 : FRM [73, 77, 78, 79, 80, 81, 82, 83, 84, 85, 86, 87, 88, 93, 94, 95, 96, 97, 98, 99, 101, 102, 103, 104, 105, 106] [2, 26, 27, 28, 29, 32, 33, 34, 36, 38, 39, 42, 43, 44, 45, 50, 51, 52, 55] h (setO w162_71 73 (fup (fup (fup (w162_71 73) 51 wq) 52 eq) 55 ((3 * lq) + 1))) := FRM_f (show up (setO w162_71 73 (fup (fup (w162_71 73) 51 wq) 52 eq)) 73 55 ((3 * lq) + 1) = (setO w162_71 73 (fup (fup (fup (w162_71 73) 51 wq) 52 eq) 55 ((3 * lq) + 1))) from up_can (sOf_eq _ _ _) rfl (setO_same _ _ _ _)) hF_76 (by decide) (by decide)
                            refine TT_iconst hK dX12_decode_242 ?_
                            refine TT_istore hK (lv' := [(8, vI 0), (0, vR 73), (1, vI n), (2, vI wq), (3, vI eq), (4, vI lq), (5, vI k)]) (by decide) rfl dX12_decode_243 ?_
                            have L245_78 : ∀ (k78 : Nat) (b : Int) (w245_78 : Hp_), TY w245_78 → FRM [73, 77, 78, 79, 80, 81, 82, 83, 84, 85, 86, 87, 88, 93, 94, 95, 96, 97, 98, 99, 101, 102, 103, 104, 105, 106] [2, 26, 27, 28, 29, 32, 33, 34, 36, 38, 39, 42, 43, 44, 45, 50, 51, 52, 55] h w245_78 → (0 ≤ b ∧ b ≤ 3 * lq + 1) → ((w245_78 73 55) = 3 * lq + 1) → (PSQ (w245_78 103) (w245_78 102) n) → (PAQ (w245_78 103) (w245_78 101) (w245_78 102)) → (∀ j : Int, 0 ≤ j → j < 3 * lq + 1 → (w245_78 80) (10 + j) = BW wq lq j) → (∀ j : Int, 0 ≤ j → j < 3 * lq + 1 → (w245_78 81) (10 + j) = BH eq lq j) → ((∀ q : Int, q < 10 → (w245_78 80) q = h 80 q ∧ (w245_78 81) q = h 81 q) ∧ (∀ j : Int, j < 640 → (w245_78 84) j = h 84 j ∧ (w245_78 85) j = h 85 j)) → (∀ q : Int, q < 10 → (w245_78 83) q = h 83 q) → ((w245_78 73 2) = 0) → (∀ j : Int, 0 ≤ j → j < 3 * lq + 1 → (w245_78 87) (10 + j) = (tpS (h 100) n).2 j) → (∀ j : Int, 0 ≤ j → j < b → (w245_78 106) j = (tpS (h 100) n).2 j) → ((tpZ (h 100) n) = k) → ((10 : Int) - b).toNat < k78 → TT K ly 0 0 245 [(0, vR 73), (1, vI n), (2, vI wq), (3, vI eq), (4, vI lq), (5, vI k), (8, vI b)] [] w245_78 := by
                              intro k78
                              induction k78 with
                              | zero => intro b w245_78 hT245_78 hF245_78 hb k55 hps2 hpa hbw hbh kq k83i k2t h87t2 hst hz1 hk78; exact absurd hk78 (Nat.not_lt_zero _)
                              | succ k78 ih78 =>
                                intro b w245_78 hT245_78 hF245_78 hb k55 hps2 hpa hbw hbh kq k83i k2t h87t2 hst hz1 hk78
                                refine TT_iload hK 6 rfl dX12_decode_245 ?_
                                refine TT_aload_n hK rfl 0 rfl dX12_decode_247 ?_
                                refine gf_X12_398 hK (by decide) rfl (v := (w245_78 73) 55) rfl dX12_decode_248 ?_
                                have r79 := ty_73_55 (v := (w245_78 73) 55) hT245_78 rfl
                                refine TT_icmp_ge hK (tgt := 298) (irm (by omega) (by omega)) (irm (by omega) (by omega)) dX12_decode_251 (by decide) (fun hb251_80 => ?_) (fun hb251_80 => ?_)
                                · refine TT_iload hK 4 rfl dX12_decode_298 ?_
                                  refine TT_iconst hK dX12_decode_300 ?_
                                  refine TT_isub hK dX12_decode_301 ?_
                                  refine TT_istore hK (lv' := [(8, vI (lq - 1)), (0, vR 73), (1, vI n), (2, vI wq), (3, vI eq), (4, vI lq), (5, vI k)]) (by decide) rfl dX12_decode_302 ?_
                                  have L304_81 : ∀ (k81 : Nat) (l2 : Int) (w304_81 : Hp_), TY w304_81 → FRM [73, 77, 78, 79, 80, 81, 82, 83, 84, 85, 86, 87, 88, 93, 94, 95, 96, 97, 98, 99, 101, 102, 103, 104, 105, 106] [2, 26, 27, 28, 29, 32, 33, 34, 36, 38, 39, 42, 43, 44, 45, 50, 51, 52, 55] h w304_81 → (-1 ≤ l2 ∧ l2 ≤ lq - 1) → ((∀ q : Int, q < 10 → (w304_81 80) q = h 80 q ∧ (w304_81 81) q = h 81 q) ∧ (∀ j : Int, j < 640 → (w304_81 84) j = h 84 j ∧ (w304_81 85) j = h 85 j)) → (∀ q : Int, q < 10 → (w304_81 83) q = h 83 q) → ((w304_81 73 2) = 0) → ((∀ j : Int, 0 ≤ j → j < 3 * lq + 1 → (w304_81 106) j = (tpS (h 100) n).2 j) ∧ (w304_81 73 55) = 3 * lq + 1) → (l2 + 1).toNat < k81 → TT K ly 0 0 304 [(0, vR 73), (1, vI n), (2, vI wq), (3, vI eq), (4, vI lq), (5, vI k), (8, vI l2)] [] w304_81 := by
                                    intro k81
                                    induction k81 with
                                    | zero => intro l2 w304_81 hT304_81 hF304_81 hl2 kq k83i k2t hst2 hk81; exact absurd hk81 (Nat.not_lt_zero _)
                                    | succ k81 ih81 =>
                                      intro l2 w304_81 hT304_81 hF304_81 hl2 kq k83i k2t hst2 hk81
                                      refine TT_iload hK 6 rfl dX12_decode_304 ?_
                                      refine TT_if_lt hK (tgt := 349) (irm (by omega) (by omega)) dX12_decode_306 (by decide) (fun hb306_82 => ?_) (fun hb306_82 => ?_)
                                      · refine TT_iconst hK dX12_decode_349 ?_
                                        refine TT_istore hK (lv' := [(8, vI 0), (0, vR 73), (1, vI n), (2, vI wq), (3, vI eq), (4, vI lq), (5, vI k)]) (by decide) rfl dX12_decode_350 ?_
                                        have L352_83 : ∀ (k83 : Nat) (k2 : Int) (w352_83 : Hp_), TY w352_83 → FRM [73, 77, 78, 79, 80, 81, 82, 83, 84, 85, 86, 87, 88, 93, 94, 95, 96, 97, 98, 99, 101, 102, 103, 104, 105, 106] [2, 26, 27, 28, 29, 32, 33, 34, 36, 38, 39, 42, 43, 44, 45, 50, 51, 52, 55] h w352_83 → (0 ≤ k2 ∧ k2 ≤ 64) → ((∀ q : Int, q < 10 → (w352_83 80) q = h 80 q ∧ (w352_83 81) q = h 81 q) ∧ (∀ j : Int, j < 640 → (w352_83 84) j = h 84 j ∧ (w352_83 85) j = h 85 j)) → (∀ q : Int, q < 10 → (w352_83 83) q = h 83 q) → ((w352_83 73 2) = 0) → ((∀ j : Int, 0 ≤ j → j < 3 * lq + 1 → (w352_83 106) j = (tpS (h 100) n).2 j) ∧ (w352_83 73 55) = 3 * lq + 1) → ((64 : Int) - k2).toNat < k83 → TT K ly 0 0 352 [(0, vR 73), (1, vI n), (2, vI wq), (3, vI eq), (4, vI lq), (5, vI k), (8, vI k2)] [] w352_83 := by
                                          intro k83
                                          induction k83 with
                                          | zero => intro k2 w352_83 hT352_83 hF352_83 hk2 kq k83i k2t hst2 hk83; exact absurd hk83 (Nat.not_lt_zero _)
                                          | succ k83 ih83 =>
                                            intro k2 w352_83 hT352_83 hF352_83 hk2 kq k83i k2t hst2 hk83
                                            refine TT_iload hK 6 rfl dX12_decode_352 ?_
                                            refine TT_bipush hK (by decide) dX12_decode_354 ?_
                                            refine TT_icmp_ge hK (tgt := 410) (irm (by omega) (by omega)) (by decide) dX12_decode_356 (by decide) (fun hb356_84 => ?_) (fun hb356_84 => ?_)
                                            · refine TT_iload hK 5 rfl dX12_decode_410 ?_
                                              refine TT_iret hK hQ ?_ dX12_decode_412
                                              have e85_73_2 : w352_83 73 2 = (w352_83 73) 2 := rfl
                                              have e86_73_2 : w352_83 73 2 = (w352_83 73) 2 := rfl
                                              have e87_73_55 : w352_83 73 55 = (w352_83 73) 55 := rfl
                                              have e88_73_2 : w352_83 73 2 = (w352_83 73) 2 := rfl
                                              have e89_73_55 : w352_83 73 55 = (w352_83 73) 55 := rfl
                                              exact ⟨⟨hT352_83, hF352_83⟩, k, rfl, (by omega), (by exact kq), (by first | exact k83i | (intro q hq; rfl) | (intro q hq; exact fup_ne _ _ (by omega)) | (intro q hq; rw [fup_ne _ _ (by omega)]; exact k83i q hq)), (by rewrite [e85_73_2]; have k9 := hfi.1 (by omega); exact Or.inl ⟨by omega, ⟨⟨by omega, by omega⟩, by omega⟩, by omega⟩), (by rewrite [e86_73_2, e87_73_55]; intro _; rw [← hlq]; exact hst2), (by rewrite [e88_73_2, e89_73_55]; intro q; exact absurd k2t q)⟩
                                            · refine TT_aload_n hK rfl 0 rfl dX12_decode_359 ?_
                                              refine gf_X12_26 hK (by decide) rfl (q := 77) rfl rfl dX12_decode_360 ?_
                                              refine TT_iload hK 6 rfl dX12_decode_363 ?_
                                              refine TT_iald hK (o := 77) (n := 64) (by decide) rfl (by first | omega | (simp [up, setR] <;> omega)) (by first | omega | (simp [up, setR] <;> omega)) (v := (w352_83 77) k2) rfl dX12_decode_365 ?_
                                              have r90 := ty_77 (i := k2) (v := (w352_83 77) k2) hT352_83 rfl (by omega) (by omega)
                                              refine TT_sipush hK (by decide) dX12_decode_366 ?_
                                              refine TT_iadd hK dX12_decode_369 ?_
                                              refine TT_w32 (fun x370_91 hx91 => ?_)
                                              refine TT_istore hK (lv' := [(9, vI x370_91), (0, vR 73), (1, vI n), (2, vI wq), (3, vI eq), (4, vI lq), (5, vI k), (8, vI k2)]) (by decide) rfl dX12_decode_370 ?_
                                              refine TT_aload_n hK rfl 1 rfl dX12_decode_372 ?_
                                              refine gf_X12_111 hK (by decide) rfl (q := 105) rfl rfl dX12_decode_373 ?_
                                              refine TT_iload hK 7 rfl dX12_decode_376 ?_
                                              refine TT_iload hK 0 rfl dX12_decode_378 ?_
                                              refine TT_if_ge hK (tgt := 387) (irm (by omega) (by omega)) dX12_decode_380 (by decide) (fun hb380_92 => ?_) (fun hb380_92 => ?_)
                                              · refine TT_iload hK 0 rfl dX12_decode_387 ?_
                                                refine TT_sipush hK (by decide) dX12_decode_389 ?_
                                                refine TT_icmp_le hK (tgt := 401) (irm (by omega) (by omega)) (by decide) dX12_decode_392 (by decide) (fun hb392_93 => ?_) (fun hb392_93 => ?_)
                                                · refine TT_iload hK 0 rfl dX12_decode_401 ?_
                                                  refine TT_iast hK (o := 105) (n := 64) (by decide) rfl (by omega) (by omega) dX12_decode_403 ?_
                                                  refine TT_hp (h' := setO w352_83 105 (fup (w352_83 105) k2 x370_91)) (up_can rfl rfl rfl) ?_
                                                  have hT_94 : TY (setO w352_83 105 (fup (w352_83 105) k2 x370_91)) := tu_105 hT352_83 (show up w352_83 105 k2 x370_91 = (setO w352_83 105 (fup (w352_83 105) k2 x370_91)) from up_can rfl rfl rfl) (by omega)
                                                  have hF_94 : FRM [73, 77, 78, 79, 80, 81, 82, 83, 84, 85, 86, 87, 88, 93, 94, 95, 96, 97, 98, 99, 101, 102, 103, 104, 105, 106] [2, 26, 27, 28, 29, 32, 33, 34, 36, 38, 39, 42, 43, 44, 45, 50, 51, 52, 55] h (setO w352_83 105 (fup (w352_83 105) k2 x370_91)) := FRM_up (show up w352_83 105 k2 x370_91 = (setO w352_83 105 (fup (w352_83 105) k2 x370_91)) from up_can rfl rfl rfl) hF352_83 (by decide) (by decide)
                                                  refine TT_iinc hK (v := k2 + 1) (lv' := [(8, vI (k2 + 1)), (9, vI x370_91), (0, vR 73), (1, vI n), (2, vI wq), (3, vI eq), (4, vI lq), (5, vI k)]) 7 rfl rfl (by decide) rfl dX12_decode_404 ?_
                                                  refine TT_goto hK (tgt := 352) dX12_decode_407 (by decide) ?_
                                                  refine TT_sub [2, 3, 4, 5, 6, 7, 0] rfl ?_
                                                  have e95_80 : (setO w352_83 105 (fup (w352_83 105) k2 x370_91)) 80 = w352_83 80 := sOf_ne _ _ (by decide)
                                                  have e96_81 : (setO w352_83 105 (fup (w352_83 105) k2 x370_91)) 81 = w352_83 81 := sOf_ne _ _ (by decide)
                                                  have e97_84 : (setO w352_83 105 (fup (w352_83 105) k2 x370_91)) 84 = w352_83 84 := sOf_ne _ _ (by decide)
                                                  have e98_85 : (setO w352_83 105 (fup (w352_83 105) k2 x370_91)) 85 = w352_83 85 := sOf_ne _ _ (by decide)
                                                  have e99_83 : (setO w352_83 105 (fup (w352_83 105) k2 x370_91)) 83 = w352_83 83 := sOf_ne _ _ (by decide)
                                                  have e100_73_2 : (setO w352_83 105 (fup (w352_83 105) k2 x370_91)) 73 2 = (w352_83 73) 2 := rd_ (sOf_ne _ _ (by decide)) rfl
                                                  have e101_106 : (setO w352_83 105 (fup (w352_83 105) k2 x370_91)) 106 = w352_83 106 := sOf_ne _ _ (by decide)
                                                  have e102_73_55 : (setO w352_83 105 (fup (w352_83 105) k2 x370_91)) 73 55 = (w352_83 73) 55 := rd_ (sOf_ne _ _ (by decide)) rfl
                                                  exact ih83 (k2 + 1) (setO w352_83 105 (fup (w352_83 105) k2 x370_91)) hT_94 hF_94 (by first | omega | (simp [up, setR] <;> omega)) (by rewrite [e95_80, e96_81, e97_84, e98_85]; exact kq) (by rewrite [e99_83]; first | exact k83i | (intro q hq; rfl) | (intro q hq; exact fup_ne _ _ (by omega)) | (intro q hq; rw [fup_ne _ _ (by omega)]; exact k83i q hq)) (by rewrite [e100_73_2]; first | omega | (simp [up, setR] <;> omega)) (by rewrite [e101_106, e102_73_55]; exact hst2) (by first | omega | (simp [up, setR] <;> omega))
                                                · refine TT_sipush hK (by decide) dX12_decode_395 ?_
                                                  refine TT_goto hK (tgt := 403) dX12_decode_398 (by decide) ?_
                                                  refine TT_iast hK (o := 105) (n := 64) (by decide) rfl (by omega) (by omega) dX12_decode_403 ?_
                                                  refine TT_hp (h' := setO w352_83 105 (fup (w352_83 105) k2 255)) (up_can rfl rfl rfl) ?_
                                                  have hT_103 : TY (setO w352_83 105 (fup (w352_83 105) k2 255)) := tu_105 hT352_83 (show up w352_83 105 k2 255 = (setO w352_83 105 (fup (w352_83 105) k2 255)) from up_can rfl rfl rfl) (by omega)
                                                  have hF_103 : FRM [73, 77, 78, 79, 80, 81, 82, 83, 84, 85, 86, 87, 88, 93, 94, 95, 96, 97, 98, 99, 101, 102, 103, 104, 105, 106] [2, 26, 27, 28, 29, 32, 33, 34, 36, 38, 39, 42, 43, 44, 45, 50, 51, 52, 55] h (setO w352_83 105 (fup (w352_83 105) k2 255)) := FRM_up (show up w352_83 105 k2 255 = (setO w352_83 105 (fup (w352_83 105) k2 255)) from up_can rfl rfl rfl) hF352_83 (by decide) (by decide)
                                                  refine TT_iinc hK (v := k2 + 1) (lv' := [(8, vI (k2 + 1)), (9, vI x370_91), (0, vR 73), (1, vI n), (2, vI wq), (3, vI eq), (4, vI lq), (5, vI k)]) 7 rfl rfl (by decide) rfl dX12_decode_404 ?_
                                                  refine TT_goto hK (tgt := 352) dX12_decode_407 (by decide) ?_
                                                  refine TT_sub [2, 3, 4, 5, 6, 7, 0] rfl ?_
                                                  have e104_80 : (setO w352_83 105 (fup (w352_83 105) k2 255)) 80 = w352_83 80 := sOf_ne _ _ (by decide)
                                                  have e105_81 : (setO w352_83 105 (fup (w352_83 105) k2 255)) 81 = w352_83 81 := sOf_ne _ _ (by decide)
                                                  have e106_84 : (setO w352_83 105 (fup (w352_83 105) k2 255)) 84 = w352_83 84 := sOf_ne _ _ (by decide)
                                                  have e107_85 : (setO w352_83 105 (fup (w352_83 105) k2 255)) 85 = w352_83 85 := sOf_ne _ _ (by decide)
                                                  have e108_83 : (setO w352_83 105 (fup (w352_83 105) k2 255)) 83 = w352_83 83 := sOf_ne _ _ (by decide)
                                                  have e109_73_2 : (setO w352_83 105 (fup (w352_83 105) k2 255)) 73 2 = (w352_83 73) 2 := rd_ (sOf_ne _ _ (by decide)) rfl
                                                  have e110_106 : (setO w352_83 105 (fup (w352_83 105) k2 255)) 106 = w352_83 106 := sOf_ne _ _ (by decide)
                                                  have e111_73_55 : (setO w352_83 105 (fup (w352_83 105) k2 255)) 73 55 = (w352_83 73) 55 := rd_ (sOf_ne _ _ (by decide)) rfl
                                                  exact ih83 (k2 + 1) (setO w352_83 105 (fup (w352_83 105) k2 255)) hT_103 hF_103 (by first | omega | (simp [up, setR] <;> omega)) (by rewrite [e104_80, e105_81, e106_84, e107_85]; exact kq) (by rewrite [e108_83]; first | exact k83i | (intro q hq; rfl) | (intro q hq; exact fup_ne _ _ (by omega)) | (intro q hq; rw [fup_ne _ _ (by omega)]; exact k83i q hq)) (by rewrite [e109_73_2]; first | omega | (simp [up, setR] <;> omega)) (by rewrite [e110_106, e111_73_55]; exact hst2) (by first | omega | (simp [up, setR] <;> omega))
                                              · refine TT_iconst hK dX12_decode_383 ?_
                                                refine TT_goto hK (tgt := 403) dX12_decode_384 (by decide) ?_
                                                refine TT_iast hK (o := 105) (n := 64) (by decide) rfl (by omega) (by omega) dX12_decode_403 ?_
                                                refine TT_hp (h' := setO w352_83 105 (fup (w352_83 105) k2 0)) (up_can rfl rfl rfl) ?_
                                                have hT_112 : TY (setO w352_83 105 (fup (w352_83 105) k2 0)) := tu_105 hT352_83 (show up w352_83 105 k2 0 = (setO w352_83 105 (fup (w352_83 105) k2 0)) from up_can rfl rfl rfl) (by omega)
                                                have hF_112 : FRM [73, 77, 78, 79, 80, 81, 82, 83, 84, 85, 86, 87, 88, 93, 94, 95, 96, 97, 98, 99, 101, 102, 103, 104, 105, 106] [2, 26, 27, 28, 29, 32, 33, 34, 36, 38, 39, 42, 43, 44, 45, 50, 51, 52, 55] h (setO w352_83 105 (fup (w352_83 105) k2 0)) := FRM_up (show up w352_83 105 k2 0 = (setO w352_83 105 (fup (w352_83 105) k2 0)) from up_can rfl rfl rfl) hF352_83 (by decide) (by decide)
                                                refine TT_iinc hK (v := k2 + 1) (lv' := [(8, vI (k2 + 1)), (9, vI x370_91), (0, vR 73), (1, vI n), (2, vI wq), (3, vI eq), (4, vI lq), (5, vI k)]) 7 rfl rfl (by decide) rfl dX12_decode_404 ?_
                                                refine TT_goto hK (tgt := 352) dX12_decode_407 (by decide) ?_
                                                refine TT_sub [2, 3, 4, 5, 6, 7, 0] rfl ?_
                                                have e113_80 : (setO w352_83 105 (fup (w352_83 105) k2 0)) 80 = w352_83 80 := sOf_ne _ _ (by decide)
                                                have e114_81 : (setO w352_83 105 (fup (w352_83 105) k2 0)) 81 = w352_83 81 := sOf_ne _ _ (by decide)
                                                have e115_84 : (setO w352_83 105 (fup (w352_83 105) k2 0)) 84 = w352_83 84 := sOf_ne _ _ (by decide)
                                                have e116_85 : (setO w352_83 105 (fup (w352_83 105) k2 0)) 85 = w352_83 85 := sOf_ne _ _ (by decide)
                                                have e117_83 : (setO w352_83 105 (fup (w352_83 105) k2 0)) 83 = w352_83 83 := sOf_ne _ _ (by decide)
                                                have e118_73_2 : (setO w352_83 105 (fup (w352_83 105) k2 0)) 73 2 = (w352_83 73) 2 := rd_ (sOf_ne _ _ (by decide)) rfl
                                                have e119_106 : (setO w352_83 105 (fup (w352_83 105) k2 0)) 106 = w352_83 106 := sOf_ne _ _ (by decide)
                                                have e120_73_55 : (setO w352_83 105 (fup (w352_83 105) k2 0)) 73 55 = (w352_83 73) 55 := rd_ (sOf_ne _ _ (by decide)) rfl
                                                exact ih83 (k2 + 1) (setO w352_83 105 (fup (w352_83 105) k2 0)) hT_112 hF_112 (by first | omega | (simp [up, setR] <;> omega)) (by rewrite [e113_80, e114_81, e115_84, e116_85]; exact kq) (by rewrite [e117_83]; first | exact k83i | (intro q hq; rfl) | (intro q hq; exact fup_ne _ _ (by omega)) | (intro q hq; rw [fup_ne _ _ (by omega)]; exact k83i q hq)) (by rewrite [e118_73_2]; first | omega | (simp [up, setR] <;> omega)) (by rewrite [e119_106, e120_73_55]; exact hst2) (by first | omega | (simp [up, setR] <;> omega))
                                        refine TT_sub [1, 2, 3, 4, 5, 6, 0] rfl ?_
                                        have e121_73_2 : w304_81 73 2 = (w304_81 73) 2 := rfl
                                        have e122_73_55 : w304_81 73 55 = (w304_81 73) 55 := rfl
                                        exact L352_83 ((((64 : Int) - 0).toNat) + 1) 0 w304_81 hT304_81 hF304_81 (by first | omega | (simp [up, setR] <;> omega)) (by exact kq) (by first | exact k83i | (intro q hq; rfl) | (intro q hq; exact fup_ne _ _ (by omega)) | (intro q hq; rw [fup_ne _ _ (by omega)]; exact k83i q hq)) (by rewrite [e121_73_2]; first | omega | (simp [up, setR] <;> omega)) (by rewrite [e122_73_55]; exact hst2) (Nat.lt_succ_self _)
                                      · refine TT_aload_n hK rfl 0 rfl dX12_decode_309 ?_
                                        refine TT_iload_n hK rfl 2 rfl dX12_decode_310 ?_
                                        refine TT_iload hK 6 rfl dX12_decode_311 ?_
                                        refine iv_X12_153 hK (s_X12_left wq l2 w304_81 hT304_81 (by first | omega | (simp [up, setR] <;> omega)) (by first | omega | (simp [up, setR] <;> omega))) ⟨by decide, by decide⟩ (by decide) rfl rfl (Nat.le_of_ble_eq_true rfl) ⟨by decide, by decide⟩ dX12_decode_313 ?_
                                        intro r9 g313_123 hp9
                                        obtain ⟨⟨hT_123, hG_123⟩, z313_123, hr9, hz_123, p1_123⟩ := hp9
                                        rw [hr9]
                                        have hF_123 : FRM [73, 77, 78, 79, 80, 81, 82, 83, 84, 85, 86, 87, 88, 93, 94, 95, 96, 97, 98, 99, 101, 102, 103, 104, 105, 106] [2, 26, 27, 28, 29, 32, 33, 34, 36, 38, 39, 42, 43, 44, 45, 50, 51, 52, 55] h g313_123 := FRM_tr hF304_81 hG_123 (by decide) (by decide)
                                        show TT K ly 0 0 316 [(0, vR 73), (1, vI n), (2, vI wq), (3, vI eq), (4, vI lq), (5, vI k), (8, vI l2)] [vI z313_123, vR 73] g313_123
                                        refine TT_iload_n hK rfl 3 rfl dX12_decode_316 ?_
                                        refine TT_iload hK 6 rfl dX12_decode_317 ?_
                                        refine iv_X12_153 hK (s_X12_left eq l2 g313_123 hT_123 (by first | omega | (simp [up, setR] <;> omega)) (by first | omega | (simp [up, setR] <;> omega))) ⟨by decide, by decide⟩ (by decide) rfl rfl (Nat.le_of_ble_eq_true rfl) ⟨by decide, by decide⟩ dX12_decode_319 ?_
                                        intro r9 g319_124 hp9
                                        obtain ⟨⟨hT_124, hG_124⟩, z319_124, hr9, hz_124, p1_124⟩ := hp9
                                        rw [hr9]
                                        have hF_124 : FRM [73, 77, 78, 79, 80, 81, 82, 83, 84, 85, 86, 87, 88, 93, 94, 95, 96, 97, 98, 99, 101, 102, 103, 104, 105, 106] [2, 26, 27, 28, 29, 32, 33, 34, 36, 38, 39, 42, 43, 44, 45, 50, 51, 52, 55] h g319_124 := FRM_tr hF_123 hG_124 (by decide) (by decide)
                                        show TT K ly 0 0 322 [(0, vR 73), (1, vI n), (2, vI wq), (3, vI eq), (4, vI lq), (5, vI k), (8, vI l2)] [vI z319_124, vI z313_123, vR 73] g319_124
                                        refine TT_iconst hK dX12_decode_322 ?_
                                        refine iv_X12_339 hK (s_rows_1 z313_123 z319_124 g319_124 hT_124 (by first | omega | (simp [up, setR] <;> omega)) (by first | omega | (simp [up, setR] <;> omega))) (by decide) rfl ⟨by decide, by decide⟩ (by decide) rfl rfl (Nat.le_of_ble_eq_true rfl) ⟨by decide, by decide⟩ dX12_decode_323 ?_
                                        intro r9 g323_125 hp9
                                        obtain ⟨⟨hT_125, hG_125⟩, hr9⟩ := hp9
                                        rw [hr9]
                                        have hF_125 : FRM [73, 77, 78, 79, 80, 81, 82, 83, 84, 85, 86, 87, 88, 93, 94, 95, 96, 97, 98, 99, 101, 102, 103, 104, 105, 106] [2, 26, 27, 28, 29, 32, 33, 34, 36, 38, 39, 42, 43, 44, 45, 50, 51, 52, 55] h g323_125 := FRM_tr hF_124 hG_125 (by decide) (by decide)
                                        show TT K ly 0 0 326 [(0, vR 73), (1, vI n), (2, vI wq), (3, vI eq), (4, vI lq), (5, vI k), (8, vI l2)] [] g323_125
                                        refine TT_aload_n hK rfl 0 rfl dX12_decode_326 ?_
                                        refine TT_iload_n hK rfl 2 rfl dX12_decode_327 ?_
                                        refine TT_iload hK 6 rfl dX12_decode_328 ?_
                                        refine iv_X12_153 hK (s_X12_left wq l2 g323_125 hT_125 (by first | omega | (simp [up, setR] <;> omega)) (by first | omega | (simp [up, setR] <;> omega))) ⟨by decide, by decide⟩ (by decide) rfl rfl (Nat.le_of_ble_eq_true rfl) ⟨by decide, by decide⟩ dX12_decode_330 ?_
                                        intro r9 g330_126 hp9
                                        obtain ⟨⟨hT_126, hG_126⟩, z330_126, hr9, hz_126, p1_126⟩ := hp9
                                        rw [hr9]
                                        have hF_126 : FRM [73, 77, 78, 79, 80, 81, 82, 83, 84, 85, 86, 87, 88, 93, 94, 95, 96, 97, 98, 99, 101, 102, 103, 104, 105, 106] [2, 26, 27, 28, 29, 32, 33, 34, 36, 38, 39, 42, 43, 44, 45, 50, 51, 52, 55] h g330_126 := FRM_tr hF_125 hG_126 (by decide) (by decide)
                                        show TT K ly 0 0 333 [(0, vR 73), (1, vI n), (2, vI wq), (3, vI eq), (4, vI lq), (5, vI k), (8, vI l2)] [vI z330_126, vR 73] g330_126
                                        refine TT_iload_n hK rfl 3 rfl dX12_decode_333 ?_
                                        refine TT_iload hK 6 rfl dX12_decode_334 ?_
                                        refine iv_X12_153 hK (s_X12_left eq l2 g330_126 hT_126 (by first | omega | (simp [up, setR] <;> omega)) (by first | omega | (simp [up, setR] <;> omega))) ⟨by decide, by decide⟩ (by decide) rfl rfl (Nat.le_of_ble_eq_true rfl) ⟨by decide, by decide⟩ dX12_decode_336 ?_
                                        intro r9 g336_127 hp9
                                        obtain ⟨⟨hT_127, hG_127⟩, z336_127, hr9, hz_127, p1_127⟩ := hp9
                                        rw [hr9]
                                        have hF_127 : FRM [73, 77, 78, 79, 80, 81, 82, 83, 84, 85, 86, 87, 88, 93, 94, 95, 96, 97, 98, 99, 101, 102, 103, 104, 105, 106] [2, 26, 27, 28, 29, 32, 33, 34, 36, 38, 39, 42, 43, 44, 45, 50, 51, 52, 55] h g336_127 := FRM_tr hF_126 hG_127 (by decide) (by decide)
                                        show TT K ly 0 0 339 [(0, vR 73), (1, vI n), (2, vI wq), (3, vI eq), (4, vI lq), (5, vI k), (8, vI l2)] [vI z336_127, vI z330_126, vR 73] g336_127
                                        refine TT_iconst hK dX12_decode_339 ?_
                                        refine iv_X12_335 hK (s_columns_1 z330_126 z336_127 g336_127 hT_127 (by first | omega | (simp [up, setR] <;> omega)) (by first | omega | (simp [up, setR] <;> omega))) (by decide) rfl ⟨by decide, by decide⟩ (by decide) rfl rfl (Nat.le_of_ble_eq_true rfl) ⟨by decide, by decide⟩ dX12_decode_340 ?_
                                        intro r9 g340_128 hp9
                                        obtain ⟨⟨hT_128, hG_128⟩, hr9⟩ := hp9
                                        rw [hr9]
                                        have hF_128 : FRM [73, 77, 78, 79, 80, 81, 82, 83, 84, 85, 86, 87, 88, 93, 94, 95, 96, 97, 98, 99, 101, 102, 103, 104, 105, 106] [2, 26, 27, 28, 29, 32, 33, 34, 36, 38, 39, 42, 43, 44, 45, 50, 51, 52, 55] h g340_128 := FRM_tr hF_127 hG_128 (by decide) (by decide)
                                        show TT K ly 0 0 343 [(0, vR 73), (1, vI n), (2, vI wq), (3, vI eq), (4, vI lq), (5, vI k), (8, vI l2)] [] g340_128
                                        refine TT_iinc hK (v := l2 - 1) (lv' := [(8, vI (l2 - 1)), (0, vR 73), (1, vI n), (2, vI wq), (3, vI eq), (4, vI lq), (5, vI k)]) 6 rfl (by omega) (by decide) rfl dX12_decode_343 ?_
                                        refine TT_goto hK (tgt := 304) dX12_decode_346 (by decide) ?_
                                        refine TT_sub [1, 2, 3, 4, 5, 6, 0] rfl ?_
                                        have e129_80 : g340_128 80 = w304_81 80 := ((hG_128.1 80 (by decide))).trans (((hG_127.1 80 (by decide))).trans (((hG_126.1 80 (by decide))).trans (((hG_125.1 80 (by decide))).trans (((hG_124.1 80 (by decide))).trans (hG_123.1 80 (by decide))))))
                                        have e130_81 : g340_128 81 = w304_81 81 := ((hG_128.1 81 (by decide))).trans (((hG_127.1 81 (by decide))).trans (((hG_126.1 81 (by decide))).trans (((hG_125.1 81 (by decide))).trans (((hG_124.1 81 (by decide))).trans (hG_123.1 81 (by decide))))))
                                        have e131_84 : g340_128 84 = w304_81 84 := ((hG_128.1 84 (by decide))).trans (((hG_127.1 84 (by decide))).trans (((hG_126.1 84 (by decide))).trans (((hG_125.1 84 (by decide))).trans (((hG_124.1 84 (by decide))).trans (hG_123.1 84 (by decide))))))
                                        have e132_85 : g340_128 85 = w304_81 85 := ((hG_128.1 85 (by decide))).trans (((hG_127.1 85 (by decide))).trans (((hG_126.1 85 (by decide))).trans (((hG_125.1 85 (by decide))).trans (((hG_124.1 85 (by decide))).trans (hG_123.1 85 (by decide))))))
                                        have e133_83 : g340_128 83 = w304_81 83 := ((hG_128.1 83 (by decide))).trans (((hG_127.1 83 (by decide))).trans (((hG_126.1 83 (by decide))).trans (((hG_125.1 83 (by decide))).trans (((hG_124.1 83 (by decide))).trans (hG_123.1 83 (by decide))))))
                                        have e134_73_2 : g340_128 73 2 = (w304_81 73) 2 := (congrFun (hG_128.1 73 (by decide)) 2).trans ((congrFun (hG_127.1 73 (by decide)) 2).trans ((congrFun (hG_126.1 73 (by decide)) 2).trans ((congrFun (hG_125.1 73 (by decide)) 2).trans ((congrFun (hG_124.1 73 (by decide)) 2).trans (congrFun (hG_123.1 73 (by decide)) 2)))))
                                        have e135_106 : g340_128 106 = w304_81 106 := ((hG_128.1 106 (by decide))).trans (((hG_127.1 106 (by decide))).trans (((hG_126.1 106 (by decide))).trans (((hG_125.1 106 (by decide))).trans (((hG_124.1 106 (by decide))).trans (hG_123.1 106 (by decide))))))
                                        have e136_73_55 : g340_128 73 55 = (w304_81 73) 55 := (congrFun (hG_128.1 73 (by decide)) 55).trans ((congrFun (hG_127.1 73 (by decide)) 55).trans ((congrFun (hG_126.1 73 (by decide)) 55).trans ((congrFun (hG_125.1 73 (by decide)) 55).trans ((congrFun (hG_124.1 73 (by decide)) 55).trans (congrFun (hG_123.1 73 (by decide)) 55)))))
                                        exact ih81 (l2 - 1) g340_128 hT_128 hF_128 (by first | omega | (simp [up, setR] <;> omega)) (by rewrite [e129_80, e130_81, e131_84, e132_85]; exact kq) (by rewrite [e133_83]; first | exact k83i | (intro q hq; rfl) | (intro q hq; exact fup_ne _ _ (by omega)) | (intro q hq; rw [fup_ne _ _ (by omega)]; exact k83i q hq)) (by rewrite [e134_73_2]; first | omega | (simp [up, setR] <;> omega)) (by rewrite [e135_106, e136_73_55]; exact hst2) (by first | omega | (simp [up, setR] <;> omega))
                                  refine TT_sub [1, 2, 3, 4, 5, 6, 0] rfl ?_
                                  have e137_73_2 : w245_78 73 2 = (w245_78 73) 2 := rfl
                                  have e138_73_55 : w245_78 73 55 = (w245_78 73) 55 := rfl
                                  exact L304_81 ((((lq - 1) + 1).toNat) + 1) (lq - 1) w245_78 hT245_78 hF245_78 (by first | omega | (simp [up, setR] <;> omega)) (by exact kq) (by first | exact k83i | (intro q hq; rfl) | (intro q hq; exact fup_ne _ _ (by omega)) | (intro q hq; rw [fup_ne _ _ (by omega)]; exact k83i q hq)) (by rewrite [e137_73_2]; first | omega | (simp [up, setR] <;> omega)) (by rewrite [e138_73_55]; exact ⟨fun j j0 j1 => hst j j0 (by omega), k55⟩) (Nat.lt_succ_self _)
                                · have k103 := ty_103 (i := b) (v := (w245_78 103) b) hT245_78 rfl (by omega) (by omega)
                                  have p103 := hps2 b (by omega) (by omega) k103.2
                                  refine TT_aload_n hK rfl 0 rfl dX12_decode_254 ?_
                                  refine gf_X12_114 hK (by decide) rfl (q := 106) rfl rfl dX12_decode_255 ?_
                                  refine TT_iload hK 6 rfl dX12_decode_258 ?_
                                  refine TT_aload_n hK rfl 0 rfl dX12_decode_260 ?_
                                  refine gf_X12_57 hK (by decide) rfl (q := 87) rfl rfl dX12_decode_261 ?_
                                  refine TT_bipush hK (by decide) dX12_decode_264 ?_
                                  refine TT_iload hK 6 rfl dX12_decode_266 ?_
                                  refine TT_iadd hK dX12_decode_268 ?_
                                  refine TT_iald hK (o := 87) (n := 20) (by decide) rfl (by first | omega | (simp [up, setR] <;> omega)) (by first | omega | (simp [up, setR] <;> omega)) (v := (w245_78 87) (10 + b)) rfl dX12_decode_269 ?_
                                  have r139 := ty_87 (i := 10 + b) (v := (w245_78 87) (10 + b)) hT245_78 rfl (by omega) (by omega)
                                  refine TT_iast hK (o := 106) (n := 10) (by decide) rfl (by omega) (by omega) dX12_decode_270 ?_
                                  refine TT_hp (h' := setO w245_78 106 (fup (w245_78 106) b ((w245_78 87) (10 + b)))) (up_can rfl rfl rfl) ?_
                                  have hT_140 : TY (setO w245_78 106 (fup (w245_78 106) b ((w245_78 87) (10 + b)))) := tu_106 hT245_78 (show up w245_78 106 b ((w245_78 87) (10 + b)) = (setO w245_78 106 (fup (w245_78 106) b ((w245_78 87) (10 + b)))) from up_can rfl rfl rfl) (by omega)
                                  have hF_140 : FRM [73, 77, 78, 79, 80, 81, 82, 83, 84, 85, 86, 87, 88, 93, 94, 95, 96, 97, 98, 99, 101, 102, 103, 104, 105, 106] [2, 26, 27, 28, 29, 32, 33, 34, 36, 38, 39, 42, 43, 44, 45, 50, 51, 52, 55] h (setO w245_78 106 (fup (w245_78 106) b ((w245_78 87) (10 + b)))) := FRM_up (show up w245_78 106 b ((w245_78 87) (10 + b)) = (setO w245_78 106 (fup (w245_78 106) b ((w245_78 87) (10 + b)))) from up_can rfl rfl rfl) hF245_78 (by decide) (by decide)
                                  refine TT_aload_n hK rfl 0 rfl dX12_decode_271 ?_
                                  refine TT_iload hK 6 rfl dX12_decode_272 ?_
                                  have e141_74 : (setO w245_78 106 (fup (w245_78 106) b ((w245_78 87) (10 + b)))) 74 = h 74 := (sOf_ne _ _ (by decide)).trans (hF245_78.1 74 (by decide))
                                  have e142_75 : (setO w245_78 106 (fup (w245_78 106) b ((w245_78 87) (10 + b)))) 75 = h 75 := (sOf_ne _ _ (by decide)).trans (hF245_78.1 75 (by decide))
                                  have e143_102 : (setO w245_78 106 (fup (w245_78 106) b ((w245_78 87) (10 + b)))) 102 = w245_78 102 := sOf_ne _ _ (by decide)
                                  have e144_103 : (setO w245_78 106 (fup (w245_78 106) b ((w245_78 87) (10 + b)))) 103 = w245_78 103 := sOf_ne _ _ (by decide)
                                  have e145_101 : (setO w245_78 106 (fup (w245_78 106) b ((w245_78 87) (10 + b)))) 101 = w245_78 101 := sOf_ne _ _ (by decide)
                                  have e146_102 : (setO w245_78 106 (fup (w245_78 106) b ((w245_78 87) (10 + b)))) 102 = w245_78 102 := sOf_ne _ _ (by decide)
                                  have e147_103 : (setO w245_78 106 (fup (w245_78 106) b ((w245_78 87) (10 + b)))) 103 = w245_78 103 := sOf_ne _ _ (by decide)
                                  refine iv_X12_401 hK (s_readBand_k b (setO w245_78 106 (fup (w245_78 106) b ((w245_78 87) (10 + b)))) hT_140 (by first | omega | (simp [up, setR] <;> omega)) (by rewrite [e141_74, e142_75]; first | assumption | exact htb) (by rewrite [e143_102, e144_103]; omega) (by rewrite [e145_101, e146_102, e147_103]; intro k h1 h2; exact hpa b k (by omega) (by omega) h1 h2 (by omega))) (by decide) rfl ⟨by decide, by decide⟩ (by decide) rfl rfl (Nat.le_of_ble_eq_true rfl) ⟨by decide, by decide⟩ dX12_decode_274 ?_
                                  intro r9 g274_148 hp9
                                  obtain ⟨⟨hT_148, hG_148⟩, hr9, pk_148⟩ := hp9
                                  rw [hr9]
                                  have hF_148 : FRM [73, 77, 78, 79, 80, 81, 82, 83, 84, 85, 86, 87, 88, 93, 94, 95, 96, 97, 98, 99, 101, 102, 103, 104, 105, 106] [2, 26, 27, 28, 29, 32, 33, 34, 36, 38, 39, 42, 43, 44, 45, 50, 51, 52, 55] h g274_148 := FRM_tr hF_140 hG_148 (by decide) (by decide)
                                  rw [show (setO w245_78 106 (fup (w245_78 106) b ((w245_78 87) (10 + b)))) 84 = w245_78 84 from sOf_ne _ _ (by decide)] at pk_148
                                  rw [show (setO w245_78 106 (fup (w245_78 106) b ((w245_78 87) (10 + b)))) 85 = w245_78 85 from sOf_ne _ _ (by decide)] at pk_148
                                  have pk_at274 := pk_148
                                  show TT K ly 0 0 277 [(0, vR 73), (1, vI n), (2, vI wq), (3, vI eq), (4, vI lq), (5, vI k), (8, vI b)] [] g274_148
                                  refine TT_aload_n hK rfl 0 rfl dX12_decode_277 ?_
                                  refine TT_iload hK 6 rfl dX12_decode_278 ?_
                                  refine TT_iload hK 6 rfl dX12_decode_280 ?_
                                  refine TT_iload_n hK rfl 2 rfl dX12_decode_282 ?_
                                  refine TT_iload_n hK rfl 3 rfl dX12_decode_283 ?_
                                  refine TT_iload hK 4 rfl dX12_decode_284 ?_
                                  refine iv_X12_348 hK (s_corner_x b wq eq lq g274_148 hT_148 (by first | omega | (simp [up, setR] <;> omega)) (by first | omega | (simp [up, setR] <;> omega)) (by first | omega | (simp [up, setR] <;> omega)) (by first | omega | (simp [up, setR] <;> omega))) ⟨by decide, by decide⟩ (by decide) rfl rfl (Nat.le_of_ble_eq_true rfl) ⟨by decide, by decide⟩ dX12_decode_286 ?_
                                  intro r9 g286_149 hp9
                                  obtain ⟨⟨hT_149, hG_149⟩, z286_149, hr9, hz_149, p1_149⟩ := hp9
                                  rw [hr9]
                                  have hF_149 : FRM [73, 77, 78, 79, 80, 81, 82, 83, 84, 85, 86, 87, 88, 93, 94, 95, 96, 97, 98, 99, 101, 102, 103, 104, 105, 106] [2, 26, 27, 28, 29, 32, 33, 34, 36, 38, 39, 42, 43, 44, 45, 50, 51, 52, 55] h g286_149 := FRM_tr hF_148 hG_149 (by decide) (by decide)
                                  have p1_at286 := p1_149
                                  show TT K ly 0 0 289 [(0, vR 73), (1, vI n), (2, vI wq), (3, vI eq), (4, vI lq), (5, vI k), (8, vI b)] [vI z286_149, vI b, vR 73] g286_149
                                  have e150_80 : g286_149 80 = w245_78 80 := ((hG_149.1 80 (by decide))).trans (((hG_148.1 80 (by decide))).trans (sOf_ne _ _ (by decide)))
                                  have e151_81 : g286_149 81 = w245_78 81 := ((hG_149.1 81 (by decide))).trans (((hG_148.1 81 (by decide))).trans (sOf_ne _ _ (by decide)))
                                  refine iv_X12_404 hK (s_X12_unloadBand_73 b z286_149 g286_149 hT_149 (by first | omega | (simp [up, setR] <;> omega)) (by rewrite [e150_80, e151_81]; rw [hbw b (by omega) (by omega), hbh b (by omega) (by omega)]; exact p1_at286)) (by decide) rfl ⟨by decide, by decide⟩ (by decide) rfl rfl (Nat.le_of_ble_eq_true rfl) ⟨by decide, by decide⟩ dX12_decode_289 ?_
                                  intro r9 g289_152 hp9
                                  obtain ⟨⟨hT_152, hG_152⟩, hr9⟩ := hp9
                                  rw [hr9]
                                  have hF_152 : FRM [73, 77, 78, 79, 80, 81, 82, 83, 84, 85, 86, 87, 88, 93, 94, 95, 96, 97, 98, 99, 101, 102, 103, 104, 105, 106] [2, 26, 27, 28, 29, 32, 33, 34, 36, 38, 39, 42, 43, 44, 45, 50, 51, 52, 55] h g289_152 := FRM_tr hF_149 hG_152 (by decide) (by decide)
                                  show TT K ly 0 0 292 [(0, vR 73), (1, vI n), (2, vI wq), (3, vI eq), (4, vI lq), (5, vI k), (8, vI b)] [] g289_152
                                  refine TT_iinc hK (v := b + 1) (lv' := [(8, vI (b + 1)), (0, vR 73), (1, vI n), (2, vI wq), (3, vI eq), (4, vI lq), (5, vI k)]) 6 rfl rfl (by decide) rfl dX12_decode_292 ?_
                                  refine TT_goto hK (tgt := 245) dX12_decode_295 (by decide) ?_
                                  refine TT_sub [1, 2, 3, 4, 5, 6, 0] rfl ?_
                                  have e153_73_55 : g289_152 73 55 = (w245_78 73) 55 := (congrFun (hG_152.1 73 (by decide)) 55).trans ((congrFun (hG_149.1 73 (by decide)) 55).trans (((hG_148.2 55 (by decide))).trans (rd_ (sOf_ne _ _ (by decide)) rfl)))
                                  have e154_102 : g289_152 102 = w245_78 102 := ((hG_152.1 102 (by decide))).trans (((hG_149.1 102 (by decide))).trans (((hG_148.1 102 (by decide))).trans (sOf_ne _ _ (by decide))))
                                  have e155_103 : g289_152 103 = w245_78 103 := ((hG_152.1 103 (by decide))).trans (((hG_149.1 103 (by decide))).trans (((hG_148.1 103 (by decide))).trans (sOf_ne _ _ (by decide))))
                                  have e156_101 : g289_152 101 = w245_78 101 := ((hG_152.1 101 (by decide))).trans (((hG_149.1 101 (by decide))).trans (((hG_148.1 101 (by decide))).trans (sOf_ne _ _ (by decide))))
                                  have e157_102 : g289_152 102 = w245_78 102 := ((hG_152.1 102 (by decide))).trans (((hG_149.1 102 (by decide))).trans (((hG_148.1 102 (by decide))).trans (sOf_ne _ _ (by decide))))
                                  have e158_103 : g289_152 103 = w245_78 103 := ((hG_152.1 103 (by decide))).trans (((hG_149.1 103 (by decide))).trans (((hG_148.1 103 (by decide))).trans (sOf_ne _ _ (by decide))))
                                  have e159_80 : g289_152 80 = w245_78 80 := ((hG_152.1 80 (by decide))).trans (((hG_149.1 80 (by decide))).trans (((hG_148.1 80 (by decide))).trans (sOf_ne _ _ (by decide))))
                                  have e160_81 : g289_152 81 = w245_78 81 := ((hG_152.1 81 (by decide))).trans (((hG_149.1 81 (by decide))).trans (((hG_148.1 81 (by decide))).trans (sOf_ne _ _ (by decide))))
                                  have e161_80 : g289_152 80 = w245_78 80 := ((hG_152.1 80 (by decide))).trans (((hG_149.1 80 (by decide))).trans (((hG_148.1 80 (by decide))).trans (sOf_ne _ _ (by decide))))
                                  have e162_81 : g289_152 81 = w245_78 81 := ((hG_152.1 81 (by decide))).trans (((hG_149.1 81 (by decide))).trans (((hG_148.1 81 (by decide))).trans (sOf_ne _ _ (by decide))))
                                  have e163_84 : g289_152 84 = g274_148 84 := ((hG_152.1 84 (by decide))).trans (hG_149.1 84 (by decide))
                                  have e164_85 : g289_152 85 = g274_148 85 := ((hG_152.1 85 (by decide))).trans (hG_149.1 85 (by decide))
                                  have e165_83 : g289_152 83 = w245_78 83 := ((hG_152.1 83 (by decide))).trans (((hG_149.1 83 (by decide))).trans (((hG_148.1 83 (by decide))).trans (sOf_ne _ _ (by decide))))
                                  have e166_73_2 : g289_152 73 2 = (w245_78 73) 2 := (congrFun (hG_152.1 73 (by decide)) 2).trans ((congrFun (hG_149.1 73 (by decide)) 2).trans (((hG_148.2 2 (by decide))).trans (rd_ (sOf_ne _ _ (by decide)) rfl)))
                                  have e167_87 : g289_152 87 = w245_78 87 := ((hG_152.1 87 (by decide))).trans (((hG_149.1 87 (by decide))).trans (((hG_148.1 87 (by decide))).trans (sOf_ne _ _ (by decide))))
                                  have e168_106 : g289_152 106 = fup (w245_78 106) b ((w245_78 87) (10 + b)) := ((hG_152.1 106 (by decide))).trans (((hG_149.1 106 (by decide))).trans (((hG_148.1 106 (by decide))).trans (sOf_eq _ _ _)))
                                  exact ih78 (b + 1) g289_152 hT_152 hF_152 (by first | omega | (simp [up, setR] <;> omega)) (by rewrite [e153_73_55]; first | omega | (simp [up, setR] <;> omega)) (by rewrite [e154_102, e155_103]; exact hps2) (by rewrite [e156_101, e157_102, e158_103]; exact hpa) (by rewrite [e159_80]; exact hbw) (by rewrite [e160_81]; exact hbh) (by rewrite [e161_80, e162_81, e163_84, e164_85]; exact ⟨kq.1, fun j hj => ⟨(pk_at274 j hj).1.trans (kq.2 j hj).1, (pk_at274 j hj).2.trans (kq.2 j hj).2⟩⟩) (by rewrite [e165_83]; first | exact k83i | (intro q hq; rfl) | (intro q hq; exact fup_ne _ _ (by omega)) | (intro q hq; rw [fup_ne _ _ (by omega)]; exact k83i q hq)) (by rewrite [e166_73_2]; first | omega | (simp [up, setR] <;> omega)) (by rewrite [e167_87]; exact h87t2) (by rewrite [e168_106]; intro j j0 j1; by_cases e : j = b; (rw [e, fup_eq]; exact h87t2 b (by omega) (by omega)); (rw [fup_ne _ _ e]; exact hst j j0 (by omega))) (by exact hz1) (by first | omega | (simp [up, setR] <;> omega))
                            refine TT_sub [1, 2, 3, 4, 5, 6, 0] rfl ?_
                            have e169_73_55 : (setO w162_71 73 (fup (fup (fup (w162_71 73) 51 wq) 52 eq) 55 ((3 * lq) + 1))) 73 55 = (3 * lq) + 1 := rd_ (sOf_eq _ _ _) (fup_eq _ _ _)
                            have e170_102 : (setO w162_71 73 (fup (fup (fup (w162_71 73) 51 wq) 52 eq) 55 ((3 * lq) + 1))) 102 = w162_71 102 := sOf_ne _ _ (by decide)
                            have e171_103 : (setO w162_71 73 (fup (fup (fup (w162_71 73) 51 wq) 52 eq) 55 ((3 * lq) + 1))) 103 = w162_71 103 := sOf_ne _ _ (by decide)
                            have e172_101 : (setO w162_71 73 (fup (fup (fup (w162_71 73) 51 wq) 52 eq) 55 ((3 * lq) + 1))) 101 = w162_71 101 := sOf_ne _ _ (by decide)
                            have e173_102 : (setO w162_71 73 (fup (fup (fup (w162_71 73) 51 wq) 52 eq) 55 ((3 * lq) + 1))) 102 = w162_71 102 := sOf_ne _ _ (by decide)
                            have e174_103 : (setO w162_71 73 (fup (fup (fup (w162_71 73) 51 wq) 52 eq) 55 ((3 * lq) + 1))) 103 = w162_71 103 := sOf_ne _ _ (by decide)
                            have e175_80 : (setO w162_71 73 (fup (fup (fup (w162_71 73) 51 wq) 52 eq) 55 ((3 * lq) + 1))) 80 = w162_71 80 := sOf_ne _ _ (by decide)
                            have e176_81 : (setO w162_71 73 (fup (fup (fup (w162_71 73) 51 wq) 52 eq) 55 ((3 * lq) + 1))) 81 = w162_71 81 := sOf_ne _ _ (by decide)
                            have e177_80 : (setO w162_71 73 (fup (fup (fup (w162_71 73) 51 wq) 52 eq) 55 ((3 * lq) + 1))) 80 = w162_71 80 := sOf_ne _ _ (by decide)
                            have e178_81 : (setO w162_71 73 (fup (fup (fup (w162_71 73) 51 wq) 52 eq) 55 ((3 * lq) + 1))) 81 = w162_71 81 := sOf_ne _ _ (by decide)
                            have e179_84 : (setO w162_71 73 (fup (fup (fup (w162_71 73) 51 wq) 52 eq) 55 ((3 * lq) + 1))) 84 = w162_71 84 := sOf_ne _ _ (by decide)
                            have e180_85 : (setO w162_71 73 (fup (fup (fup (w162_71 73) 51 wq) 52 eq) 55 ((3 * lq) + 1))) 85 = w162_71 85 := sOf_ne _ _ (by decide)
                            have e181_83 : (setO w162_71 73 (fup (fup (fup (w162_71 73) 51 wq) 52 eq) 55 ((3 * lq) + 1))) 83 = w162_71 83 := sOf_ne _ _ (by decide)
                            have e182_73_2 : (setO w162_71 73 (fup (fup (fup (w162_71 73) 51 wq) 52 eq) 55 ((3 * lq) + 1))) 73 2 = (w162_71 73) 2 := rd_ (sOf_eq _ _ _) ((fup_ne _ _ (by decide)).trans ((fup_ne _ _ (by decide)).trans (fup_ne _ _ (by decide))))
                            have e183_87 : (setO w162_71 73 (fup (fup (fup (w162_71 73) 51 wq) 52 eq) 55 ((3 * lq) + 1))) 87 = w162_71 87 := sOf_ne _ _ (by decide)
                            have e184_106 : (setO w162_71 73 (fup (fup (fup (w162_71 73) 51 wq) 52 eq) 55 ((3 * lq) + 1))) 106 = w162_71 106 := sOf_ne _ _ (by decide)
                            exact L245_78 ((((10 : Int) - 0).toNat) + 1) 0 (setO w162_71 73 (fup (fup (fup (w162_71 73) 51 wq) 52 eq) 55 ((3 * lq) + 1))) hT_77 hF_77 (by first | omega | (simp [up, setR] <;> omega)) (by rewrite [e169_73_55]; first | omega | (simp [up, setR] <;> omega)) (by rewrite [e170_102, e171_103]; exact hps.2) (by rewrite [e172_101, e173_102, e174_103]; exact hpa) (by rewrite [e175_80]; exact hbw) (by rewrite [e176_81]; exact hbh) (by rewrite [e177_80, e178_81, e179_84, e180_85]; exact kq) (by rewrite [e181_83]; first | exact k83i | (intro q hq; rfl) | (intro q hq; exact fup_ne _ _ (by omega)) | (intro q hq; rw [fup_ne _ _ (by omega)]; exact k83i q hq)) (by rewrite [e182_73_2]; first | omega | (simp [up, setR] <;> omega)) (by rewrite [e183_87]; exact (hfi.1 (by omega)).2) (by rewrite [e184_106]; intro j j0 j1; exfalso; omega) (by exact (hfi.1 (by omega)).1) (Nat.lt_succ_self _)
                          · refine TT_aload_n hK rfl 0 rfl dX12_decode_216 ?_
                            refine TT_iconst hK dX12_decode_217 ?_
                            refine iv_X12_385 hK (s_refuse_e 1 w162_71 hT162_71 (by first | omega | (simp [up, setR] <;> omega))) (by decide) rfl ⟨by decide, by decide⟩ (by decide) rfl rfl (Nat.le_of_ble_eq_true rfl) ⟨by decide, by decide⟩ dX12_decode_218 ?_
                            intro r9 g218_185 hp9
                            obtain ⟨⟨hT_185, hG_185⟩, z218_185, hr9, hz_185, rf_185⟩ := hp9
                            rw [hr9]
                            have hF_185 : FRM [73, 77, 78, 79, 80, 81, 82, 83, 84, 85, 86, 87, 88, 93, 94, 95, 96, 97, 98, 99, 101, 102, 103, 104, 105, 106] [2, 26, 27, 28, 29, 32, 33, 34, 36, 38, 39, 42, 43, 44, 45, 50, 51, 52, 55] h g218_185 := FRM_tr hF162_71 hG_185 (by decide) (by decide)
                            have rf_at218 := rf_185
                            show TT K ly 0 0 221 [(0, vR 73), (1, vI n), (2, vI wq), (3, vI eq), (4, vI lq), (5, vI k)] [vI z218_185] g218_185
                            refine TT_iret hK hQ ?_ dX12_decode_221
                            have e186_80 : g218_185 80 = w162_71 80 := (hG_185.1 80 (by decide))
                            have e187_81 : g218_185 81 = w162_71 81 := (hG_185.1 81 (by decide))
                            have e188_84 : g218_185 84 = w162_71 84 := (hG_185.1 84 (by decide))
                            have e189_85 : g218_185 85 = w162_71 85 := (hG_185.1 85 (by decide))
                            have e190_83 : g218_185 83 = w162_71 83 := (hG_185.1 83 (by decide))
                            have e191_73_2 : g218_185 73 2 = (g218_185 73) 2 := rfl
                            have e192_106 : g218_185 106 = w162_71 106 := (hG_185.1 106 (by decide))
                            have e193_73_2 : g218_185 73 2 = (g218_185 73) 2 := rfl
                            have e194_73_55 : g218_185 73 55 = (w162_71 73) 55 := (hG_185.2 55 (by decide))
                            have e195_106 : g218_185 106 = w162_71 106 := (hG_185.1 106 (by decide))
                            have e196_73_2 : g218_185 73 2 = (g218_185 73) 2 := rfl
                            have e197_73_55 : g218_185 73 55 = (w162_71 73) 55 := (hG_185.2 55 (by decide))
                            exact ⟨⟨hT_185, hF_185⟩, z218_185, rfl, (by omega), (by rewrite [e186_80, e187_81, e188_84, e189_85]; exact kq), (by rewrite [e190_83]; first | exact k83i | (intro q hq; rfl) | (intro q hq; exact fup_ne _ _ (by omega)) | (intro q hq; rw [fup_ne _ _ (by omega)]; exact k83i q hq)), (by rewrite [e191_73_2]; have k9 := hfi.2 (by omega); exact Or.inr ⟨by omega, fun q => by omega⟩), (by rewrite [e192_106, e193_73_2, e194_73_55]; intro q; exfalso; omega), (by rewrite [e195_106, e196_73_2, e197_73_55]; exact fun _ => ⟨k106, k55t⟩)⟩
                        refine TT_iload hK 6 rfl dX12_decode_162 ?_
                        refine TT_if_lt hK (tgt := 209) (irm (by omega) (by omega)) dX12_decode_164 (by decide) (fun hb164_198 => ?_) (fun hb164_198 => ?_)
                        · refine TT_sub [0, 1, 2, 3, 4, 5] rfl ?_
                          have e199_73_50 : w162_71 73 50 = (w162_71 73) 50 := rfl
                          exact J209_72  (by rewrite [e199_73_50]; first | exact ⟨fun q => ⟨((i4 (by omega)).1 q).1, fun j j0 j1 => (i5 j j0 j1).trans (((i4 (by omega)).1 q).2 j j0 j1).symm⟩, fun q => (i4 (by omega)).2 q⟩ | (have k9 := i3 (by omega); rw [fpS_0 (by omega)] at k9; rw [tpZ_e, ← k9]; exact ⟨fun q => ⟨rfl, fun j j0 j1 => i5 j j0 j1⟩, fun q => by have k8 := (i1 (by omega)).2; exfalso; omega⟩))
                        · refine TT_iload hK 5 rfl dX12_decode_167 ?_
                          refine TT_iload hK 7 rfl dX12_decode_169 ?_
                          refine TT_icmp_ge hK (tgt := 209) (irm (by omega) (by omega)) (irm (by omega) (by omega)) dX12_decode_171 (by decide) (fun hb171_200 => ?_) (fun hb171_200 => ?_)
                          · refine TT_sub [0, 1, 2, 3, 4, 5] rfl ?_
                            have e201_73_50 : w162_71 73 50 = (w162_71 73) 50 := rfl
                            exact J209_72  (by rewrite [e201_73_50]; first | exact ⟨fun q => ⟨((i4 (by omega)).1 q).1, fun j j0 j1 => (i5 j j0 j1).trans (((i4 (by omega)).1 q).2 j j0 j1).symm⟩, fun q => (i4 (by omega)).2 q⟩ | (have k9 := i3 (by omega); rw [fpS_0 (by omega)] at k9; rw [tpZ_e, ← k9]; exact ⟨fun q => ⟨rfl, fun j j0 j1 => i5 j j0 j1⟩, fun q => by have k8 := (i1 (by omega)).2; exfalso; omega⟩))
                          · refine TT_aload_n hK rfl 0 rfl dX12_decode_174 ?_
                            refine TT_iload hK 5 rfl dX12_decode_175 ?_
                            refine TT_iload hK 4 rfl dX12_decode_177 ?_
                            refine TT_iconst hK dX12_decode_179 ?_
                            refine TT_iadd hK dX12_decode_180 ?_
                            refine TT_iremn hK (irm (by omega) (by omega)) (irm (by omega) (by omega)) (by first | omega | (simp [up, setR] <;> omega)) (by first | omega | (simp [up, setR] <;> omega)) dX12_decode_181 ?_
                            refine TT_nmI (fun u9 hu9 => ?_)
                            refine TT_iload hK 6 rfl dX12_decode_182 ?_
                            have hu := pu3 k (l := lq) (by omega)
                            rw [← hu9] at hu
                            have u9l : u9 < lq + 1 := by rw [hu9]; exact Int.emod_lt_of_pos _ (by omega)
                            have hfu := FS_r (r := u9) (by omega)
                            have i1b := i1 (by omega)
                            have eta9 := PS_eta (s := S9) (p := 8 * f) (i0 (by omega)) i1b.1
                            refine TT_iload_n hK rfl 1 rfl dX12_decode_184 ?_
                            have e202_73_50 : w162_71 73 50 = (w162_71 73) 50 := rfl
                            refine iv_X12_388 hK (s_getPacket_e (BW wq lq) (BH eq lq) S9.2.2.1 S9.2.2.2.1 S9.2.2.2.2 u9 f n w162_71 hT162_71 (by first | omega | (simp [up, setR] <;> omega)) (by first | omega | (simp [up, setR] <;> omega)) (by first | omega | (simp [up, setR] <;> omega)) (by exact PQ_2 hpq (by omega) (by omega) (by omega) hu9) (by exact hps.1 (by omega)) (by exact hpa) (by rewrite [e202_73_50]; exact (i1 (by omega)).2) (by intro j j0 j1; have k9 := i2 (by omega) j (by omega) (by omega); exact ⟨⟨hbw j (by omega) (by omega), hbh j (by omega) (by omega)⟩, k9.1.1, k9.1.2, k9.2.1⟩) (by intro j j0 j1; have k9 := i2 (by omega) j (by omega) (by omega); exact k9.2.2)) (by decide) rfl ⟨by decide, by decide⟩ (by decide) rfl rfl (Nat.le_of_ble_eq_true rfl) ⟨by decide, by decide⟩ dX12_decode_185 ?_
                            intro r9 g185_203 hp9
                            obtain ⟨⟨hT_203, hG_203⟩, z185_203, hr9, hz_203, q0_203, q1_203, q2_203, k83_203, pa_203, pr_203, po_203, pf_203, pw_203, pz_203⟩ := hp9
                            rw [hr9]
                            have hF_203 : FRM [73, 77, 78, 79, 80, 81, 82, 83, 84, 85, 86, 87, 88, 93, 94, 95, 96, 97, 98, 99, 101, 102, 103, 104, 105, 106] [2, 26, 27, 28, 29, 32, 33, 34, 36, 38, 39, 42, 43, 44, 45, 50, 51, 52, 55] h g185_203 := FRM_tr hF162_71 hG_203 (by decide) (by decide)
                            rw [show w162_71 100 = h 100 from (hF162_71.1 100 (by decide))] at pa_203
                            rw [show w162_71 100 = h 100 from (hF162_71.1 100 (by decide))] at pr_203
                            rw [show w162_71 100 = h 100 from (hF162_71.1 100 (by decide))] at pf_203
                            rw [show w162_71 100 = h 100 from (hF162_71.1 100 (by decide))] at pw_203
                            have q0_at185 := q0_203
                            have q1_at185 := q1_203
                            have q2_at185 := q2_203
                            have k83_at185 := k83_203
                            have pa_at185 := pa_203
                            have pr_at185 := pr_203
                            have po_at185 := po_203
                            have pf_at185 := pf_203
                            have pw_at185 := pw_203
                            have pz_at185 := pz_203
                            show TT K ly 0 0 188 [(0, vR 73), (1, vI n), (2, vI wq), (3, vI eq), (4, vI lq), (5, vI k), (6, vI f), (7, vI al)] [vI z185_203] g185_203
                            have u50 := ty_73_50 (v := ((g185_203 73) 50)) hT_203 rfl
                            have pa9 := pa_at185
                            have pr9 := pr_at185
                            have pf9 := pf_at185
                            have pw9 := pw_at185
                            rw [eta9] at pa9 pr9 pf9 pw9
                            have pe8 : paS (h 100) n (BW wq lq) (BH eq lq) (FS u9) (3 * u9 + 1 - FS u9).toNat S9 = (ppS (h 100) n wq eq lq k S9) := by
                                unfold ppS
                                rw [hu9]
                            rw [pe8] at pa9 pr9 pf9 pw9
                            refine TT_istore hK (lv' := [(6, vI z185_203), (0, vR 73), (1, vI n), (2, vI wq), (3, vI eq), (4, vI lq), (5, vI k), (7, vI al)]) (by decide) rfl dX12_decode_188 ?_
                            refine TT_iload hK 0 rfl dX12_decode_190 ?_
                            
                            refine TT_if_ge hK (tgt := 200) (irm (by omega) (by omega)) dX12_decode_192 (by decide) (fun hb192_204 => ?_) (fun hb192_204 => ?_)
                            · have pk9 : HID _ := PKQ_z pa9 (by omega)
                              have pml9 := pk9.2.2
                              have oo9 : ∀ j : Int, (j < FS u9 ∨ 3 * u9 + 1 ≤ j) → 0 ≤ j → (ppS (h 100) n wq eq lq k S9).2.2.1 j = S9.2.2.1 j ∧ (ppS (h 100) n wq eq lq k S9).2.2.2.2 j = S9.2.2.2.2 j ∧ (ppS (h 100) n wq eq lq k S9).2.2.2.1 j = S9.2.2.2.1 j := fun j j0 j1 => by
                                  rw [← pe8]
                                  have k9 := paS_o (o := h 100) (n := n) (wd := BW wq lq) (hd := BH eq lq) (f := FS u9) (m := (3 * u9 + 1 - FS u9).toNat) (s := S9) (b := j) (by omega)
                                  exact ⟨k9.1, k9.2, paS_t (by omega)⟩
                              have nh9 : ∀ j : Int, 0 ≤ j → j < 3 * lq + 1 → (g185_203 87) (10 + j) = (ppS (h 100) n wq eq lq k S9).2.2.2.1 j := fun j j0 j1 => by
                                  by_cases y : FS u9 ≤ j ∧ j < 3 * u9 + 1
                                  · exact (pr9 pk9.1 j y.1 y.2).2.1.2
                                  · rw [(po_at185 j (by omega) j0).2.2.1, (oo9 j (by omega) j0).2.2]
                                    exact i5 j j0 j1
                              have nq9 : ∀ j : Int, 0 ≤ j → j < 3 * lq + 1 → ((g185_203 83) (10 + j) = (ppS (h 100) n wq eq lq k S9).2.2.1 j ∧ (g185_203 86) (10 + j) = (ppS (h 100) n wq eq lq k S9).2.2.2.1 j) ∧ (g185_203 88) (10 + j) = (ppS (h 100) n wq eq lq k S9).2.2.2.2 j ∧ (3 ≤ (g185_203 88) (10 + j) ∧ (g185_203 88) (10 + j) ≤ 3 + 8 * z185_203) ∧ (0 ≤ (g185_203 86) (10 + j) ∧ (g185_203 86) (10 + j) ≤ 34) ∧ (0 ≤ (g185_203 83) (10 + j) ∧ (g185_203 83) (10 + j) ≤ 12) := fun j j0 j1 => by
                                  by_cases y : FS u9 ≤ j ∧ j < 3 * u9 + 1
                                  · have k9 := pr9 pk9.1 j y.1 y.2
                                    have k8 := pw9 pk9.1 j y.1 y.2
                                    exact ⟨⟨k9.1, k9.2.1.1⟩, k9.2.2, k8.1, k8.2.1, k8.2.2⟩
                                  · have k9 := po_at185 j (by omega) j0
                                    have k8 := oo9 j (by omega) j0
                                    have k7 := i2 (by omega) j j0 j1
                                    rw [k9.1, k9.2.1, k9.2.2.2, k8.1, k8.2.1, k8.2.2]
                                    refine ⟨k7.1, k7.2.1, ?_, k7.2.2.2⟩
                                    have k6 := k7.2.2.1
                                    have k5 := pz_at185 (by omega)
                                    omega
                              refine TT_iload hK 6 rfl dX12_decode_200 ?_
                              refine TT_iconst hK dX12_decode_202 ?_
                              refine TT_iadd hK dX12_decode_203 ?_
                              refine TT_istore hK (lv' := [(5, vI (k + 1)), (6, vI z185_203), (0, vR 73), (1, vI n), (2, vI wq), (3, vI eq), (4, vI lq), (7, vI al)]) (by decide) rfl dX12_decode_204 ?_
                              refine TT_goto hK (tgt := 162) dX12_decode_206 (by decide) ?_
                              refine TT_sub [2, 3, 4, 5, 6, 0, 1, 7] rfl ?_
                              have e205_80 : g185_203 80 = w162_71 80 := (hG_203.1 80 (by decide))
                              have e206_81 : g185_203 81 = w162_71 81 := (hG_203.1 81 (by decide))
                              have e207_80 : g185_203 80 = w162_71 80 := (hG_203.1 80 (by decide))
                              have e208_81 : g185_203 81 = w162_71 81 := (hG_203.1 81 (by decide))
                              have e209_84 : g185_203 84 = w162_71 84 := (hG_203.1 84 (by decide))
                              have e210_85 : g185_203 85 = w162_71 85 := (hG_203.1 85 (by decide))
                              have e211_73_2 : g185_203 73 2 = (w162_71 73) 2 := (hG_203.2 2 (by decide))
                              have e212_73_50 : g185_203 73 50 = (g185_203 73) 50 := rfl
                              have e213_73_50 : g185_203 73 50 = (g185_203 73) 50 := rfl
                              have e214_73_50 : g185_203 73 50 = (g185_203 73) 50 := rfl
                              have e215_106 : g185_203 106 = w162_71 106 := (hG_203.1 106 (by decide))
                              have e216_73_55 : g185_203 73 55 = (w162_71 73) 55 := (hG_203.2 55 (by decide))
                              exact ih71 (k + 1) z185_203 (ppS (h 100) n wq eq lq k S9) g185_203 hT_203 hF_203 (by first | omega | (simp [up, setR] <;> omega)) (by first | omega | (simp [up, setR] <;> omega)) (by first | exact PQ_s hpq (by omega) hu9 (q2_at185 (by omega)).1 | (rw [(q1_at185 (by omega)).1]; exact hpq)) (by first | exact ⟨fun _ => (q2_at185 (by omega)).2.1, PSQ_m (q2_at185 (by omega)).2.1 q0_at185⟩ | (rw [(q1_at185 (by omega)).1, (q1_at185 (by omega)).2.1]; exact ⟨fun h1 => by exfalso; omega, hps.2⟩)) (by first | exact (q2_at185 (by omega)).2.2 | (rw [(q1_at185 (by omega)).1, (q1_at185 (by omega)).2.1, (q1_at185 (by omega)).2.2]; exact hpa)) (by rewrite [e205_80]; exact hbw) (by rewrite [e206_81]; exact hbh) (by rewrite [e207_80, e208_81, e209_84, e210_85]; exact kq) (by first | exact k83i | (intro q hq; rfl) | (intro q hq; exact (k83_at185 q hq).trans (k83i q hq)) | exact k83_at185 | (intro q hq; exact fup_ne _ _ (by omega)) | (intro q hq; rw [fup_ne _ _ (by omega)]; exact k83i q hq)) (by rewrite [e211_73_2]; first | omega | (simp [up, setR] <;> omega)) (by intro q; exact pk9.1) (by rewrite [e212_73_50]; intro q; exact ⟨pk9.2.1.symm, pml9⟩) (by intro q j j0 j1; exact nq9 j j0 j1) (by intro q; rw [← fpS_n (by omega) pk9.1]; exact i3 (by omega)) (by rewrite [e213_73_50]; intro q; exfalso; omega) (by intro j j0 j1; exact nh9 j j0 j1) (by rewrite [e214_73_50]; first | omega | (simp [up, setR] <;> omega)) (by rewrite [e215_106]; first | rfl | exact k106) (by rewrite [e216_73_55]; first | omega | (simp [up, setR] <;> omega)) (by first | omega | (simp [up, setR] <;> omega))
                            · have nzz : HID _ := PKQ_n pa9 (by omega)
                              refine TT_iload hK 6 rfl dX12_decode_195 ?_
                              refine TT_goto hK (tgt := 204) dX12_decode_197 (by decide) ?_
                              refine TT_istore hK (lv' := [(5, vI k), (6, vI z185_203), (0, vR 73), (1, vI n), (2, vI wq), (3, vI eq), (4, vI lq), (7, vI al)]) (by decide) rfl dX12_decode_204 ?_
                              refine TT_goto hK (tgt := 162) dX12_decode_206 (by decide) ?_
                              refine TT_sub [2, 3, 4, 5, 6, 0, 1, 7] rfl ?_
                              have e217_80 : g185_203 80 = w162_71 80 := (hG_203.1 80 (by decide))
                              have e218_81 : g185_203 81 = w162_71 81 := (hG_203.1 81 (by decide))
                              have e219_80 : g185_203 80 = w162_71 80 := (hG_203.1 80 (by decide))
                              have e220_81 : g185_203 81 = w162_71 81 := (hG_203.1 81 (by decide))
                              have e221_84 : g185_203 84 = w162_71 84 := (hG_203.1 84 (by decide))
                              have e222_85 : g185_203 85 = w162_71 85 := (hG_203.1 85 (by decide))
                              have e223_73_2 : g185_203 73 2 = (w162_71 73) 2 := (hG_203.2 2 (by decide))
                              have e224_73_50 : g185_203 73 50 = (g185_203 73) 50 := rfl
                              have e225_73_50 : g185_203 73 50 = (g185_203 73) 50 := rfl
                              have e226_73_50 : g185_203 73 50 = (g185_203 73) 50 := rfl
                              have e227_106 : g185_203 106 = w162_71 106 := (hG_203.1 106 (by decide))
                              have e228_73_55 : g185_203 73 55 = (w162_71 73) 55 := (hG_203.2 55 (by decide))
                              exact ih71 k z185_203 S9 g185_203 hT_203 hF_203 (by first | omega | (simp [up, setR] <;> omega)) (by first | omega | (simp [up, setR] <;> omega)) (by first | exact PQ_s hpq (by omega) hu9 (q2_at185 (by omega)).1 | (rw [(q1_at185 (by omega)).1]; exact hpq)) (by first | exact ⟨fun _ => (q2_at185 (by omega)).2.1, PSQ_m (q2_at185 (by omega)).2.1 q0_at185⟩ | (rw [(q1_at185 (by omega)).1, (q1_at185 (by omega)).2.1]; exact ⟨fun h1 => by exfalso; omega, hps.2⟩)) (by first | exact (q2_at185 (by omega)).2.2 | (rw [(q1_at185 (by omega)).1, (q1_at185 (by omega)).2.1, (q1_at185 (by omega)).2.2]; exact hpa)) (by rewrite [e217_80]; exact hbw) (by rewrite [e218_81]; exact hbh) (by rewrite [e219_80, e220_81, e221_84, e222_85]; exact kq) (by first | exact k83i | (intro q hq; rfl) | (intro q hq; exact (k83_at185 q hq).trans (k83i q hq)) | exact k83_at185 | (intro q hq; exact fup_ne _ _ (by omega)) | (intro q hq; rw [fup_ne _ _ (by omega)]; exact k83i q hq)) (by rewrite [e223_73_2]; first | omega | (simp [up, setR] <;> omega)) (by intro q; exfalso; omega) (by rewrite [e224_73_50]; intro q; exfalso; omega) (by intro q; exfalso; omega) (by intro q; exfalso; omega) (by rewrite [e225_73_50]; intro q; have k9 := fpS_x (o := h 100) (n := n) (W := wq) (H := eq) (l := lq) (t := al) (k := k) (s := S9) (by omega) nzz.1; rw [i3 (by omega)] at k9; rw [tpZ_e, k9]; exact ⟨fun q1 => ⟨by show (if (ppS (h 100) n wq eq lq k S9).1 = 1 then k else -1) = k; rw [if_pos (nzz.2.1 q1)], fun j j0 j1 => rfl⟩, fun q1 => by show (if (ppS (h 100) n wq eq lq k S9).1 = 1 then k else -1) = -1; rw [if_neg (nzz.2.2 q1)]⟩) (by rw [pf9 nzz.1]; exact i5) (by rewrite [e226_73_50]; first | omega | (simp [up, setR] <;> omega)) (by rewrite [e227_106]; first | rfl | exact k106) (by rewrite [e228_73_55]; first | omega | (simp [up, setR] <;> omega)) (by first | omega | (simp [up, setR] <;> omega))
                    refine TT_sub [3, 4, 5, 6, 7, 2, 1, 0] rfl ?_
                    have e229_103 : (setO w117_67 73 (fup (w117_67 73) 50 0)) 103 = w117_67 103 := sOf_ne _ _ (by decide)
                    have e230_102 : (setO w117_67 73 (fup (w117_67 73) 50 0)) 102 = w117_67 102 := sOf_ne _ _ (by decide)
                    have e231_103 : (setO w117_67 73 (fup (w117_67 73) 50 0)) 103 = w117_67 103 := sOf_ne _ _ (by decide)
                    have e232_101 : (setO w117_67 73 (fup (w117_67 73) 50 0)) 101 = w117_67 101 := sOf_ne _ _ (by decide)
                    have e233_102 : (setO w117_67 73 (fup (w117_67 73) 50 0)) 102 = w117_67 102 := sOf_ne _ _ (by decide)
                    have e234_103 : (setO w117_67 73 (fup (w117_67 73) 50 0)) 103 = w117_67 103 := sOf_ne _ _ (by decide)
                    have e235_80 : (setO w117_67 73 (fup (w117_67 73) 50 0)) 80 = w117_67 80 := sOf_ne _ _ (by decide)
                    have e236_81 : (setO w117_67 73 (fup (w117_67 73) 50 0)) 81 = w117_67 81 := sOf_ne _ _ (by decide)
                    have e237_80 : (setO w117_67 73 (fup (w117_67 73) 50 0)) 80 = w117_67 80 := sOf_ne _ _ (by decide)
                    have e238_81 : (setO w117_67 73 (fup (w117_67 73) 50 0)) 81 = w117_67 81 := sOf_ne _ _ (by decide)
                    have e239_84 : (setO w117_67 73 (fup (w117_67 73) 50 0)) 84 = w117_67 84 := sOf_ne _ _ (by decide)
                    have e240_85 : (setO w117_67 73 (fup (w117_67 73) 50 0)) 85 = w117_67 85 := sOf_ne _ _ (by decide)
                    have e241_83 : (setO w117_67 73 (fup (w117_67 73) 50 0)) 83 = w117_67 83 := sOf_ne _ _ (by decide)
                    have e242_73_2 : (setO w117_67 73 (fup (w117_67 73) 50 0)) 73 2 = (w117_67 73) 2 := rd_ (sOf_eq _ _ _) (fup_ne _ _ (by decide))
                    have e243_73_50 : (setO w117_67 73 (fup (w117_67 73) 50 0)) 73 50 = 0 := rd_ (sOf_eq _ _ _) (fup_eq _ _ _)
                    have e244_83 : (setO w117_67 73 (fup (w117_67 73) 50 0)) 83 = w117_67 83 := sOf_ne _ _ (by decide)
                    have e245_86 : (setO w117_67 73 (fup (w117_67 73) 50 0)) 86 = w117_67 86 := sOf_ne _ _ (by decide)
                    have e246_88 : (setO w117_67 73 (fup (w117_67 73) 50 0)) 88 = w117_67 88 := sOf_ne _ _ (by decide)
                    have e247_73_50 : (setO w117_67 73 (fup (w117_67 73) 50 0)) 73 50 = 0 := rd_ (sOf_eq _ _ _) (fup_eq _ _ _)
                    have e248_87 : (setO w117_67 73 (fup (w117_67 73) 50 0)) 87 = w117_67 87 := sOf_ne _ _ (by decide)
                    have e249_73_50 : (setO w117_67 73 (fup (w117_67 73) 50 0)) 73 50 = 0 := rd_ (sOf_eq _ _ _) (fup_eq _ _ _)
                    have e250_106 : (setO w117_67 73 (fup (w117_67 73) 50 0)) 106 = w117_67 106 := sOf_ne _ _ (by decide)
                    have e251_73_55 : (setO w117_67 73 (fup (w117_67 73) 50 0)) 73 55 = (w117_67 73) 55 := rd_ (sOf_eq _ _ _) (fup_ne _ _ (by decide))
                    have ha := pu2 hal (by omega) (by omega)
                    exact L162_71 (((2 * (al - 0) + min 1 (4 + 1)).toNat) + 1) 0 4 s0S (setO w117_67 73 (fup (w117_67 73) 50 0)) hT_69 hF_69 (by first | omega | (simp [up, setR] <;> omega)) (by first | omega | (simp [up, setR] <;> omega)) (by rewrite [e229_103]; exact PQ_0 (fun t h1 h2 => hpz t h1 (by omega)) (by omega)) (by rewrite [e230_102, e231_103]; exact ⟨fun _ => PSQ_0 (fun t h1 h2 => hpz t h1 (by omega)) (by omega), PSQ_0 (fun t h1 h2 => hpz t h1 (by omega)) (by omega)⟩) (by rewrite [e232_101, e233_102, e234_103]; intro j k h0 h1 h2 h3 h4; rw [hpz j h0 (by omega)] at h3; exfalso; omega) (by rewrite [e235_80]; exact hbw) (by rewrite [e236_81]; exact hbh) (by rewrite [e237_80, e238_81, e239_84, e240_85]; exact kq) (by rewrite [e241_83]; first | exact k83i | (intro q hq; rfl) | (intro q hq; exact fup_ne _ _ (by omega)) | (intro q hq; rw [fup_ne _ _ (by omega)]; exact k83i q hq)) (by rewrite [e242_73_2]; first | omega | (simp [up, setR] <;> omega)) (by intro q; rfl) (by rewrite [e243_73_50]; intro q; exact ⟨by show 8 * 4 = (32 : Int); omega, by omega⟩) (by rewrite [e244_83, e245_86, e246_88]; intro q j j0 j1; have k9 := hz4 j j0 j1; exact ⟨⟨k9.1.1, k9.1.2⟩, k9.2.2, by omega, by omega, by omega⟩) (by intro q; rw [tp9, ← hwq, ← heq, ← hlq, ← hal]) (by rewrite [e247_73_50]; intro q; exfalso; omega) (by rewrite [e248_87]; intro j j0 j1; exact (hz4 j j0 j1).2.1) (by rewrite [e249_73_50]; first | omega | (simp [up, setR] <;> omega)) (by rewrite [e250_106]; first | rfl | exact k106) (by rewrite [e251_73_55]; first | omega | (simp [up, setR] <;> omega)) (Nat.lt_succ_self _)
                  · refine TT_aload_n hK rfl 0 rfl dX12_decode_124 ?_
                    refine gf_X12_105 hK (by decide) rfl (q := 103) rfl rfl dX12_decode_125 ?_
                    refine TT_iload hK 5 rfl dX12_decode_128 ?_
                    refine TT_iconst hK dX12_decode_130 ?_
                    refine TT_iast hK (o := 103) (n := 10) (by decide) rfl (by omega) (by omega) dX12_decode_131 ?_
                    refine TT_hp (h' := setO w117_67 103 (fup (w117_67 103) j9 0)) (up_can rfl rfl rfl) ?_
                    have hT_252 : TY (setO w117_67 103 (fup (w117_67 103) j9 0)) := tu_103 hT117_67 (show up w117_67 103 j9 0 = (setO w117_67 103 (fup (w117_67 103) j9 0)) from up_can rfl rfl rfl) (by omega)
                    have hF_252 : FRM [73, 77, 78, 79, 80, 81, 82, 83, 84, 85, 86, 87, 88, 93, 94, 95, 96, 97, 98, 99, 101, 102, 103, 104, 105, 106] [2, 26, 27, 28, 29, 32, 33, 34, 36, 38, 39, 42, 43, 44, 45, 50, 51, 52, 55] h (setO w117_67 103 (fup (w117_67 103) j9 0)) := FRM_up (show up w117_67 103 j9 0 = (setO w117_67 103 (fup (w117_67 103) j9 0)) from up_can rfl rfl rfl) hF117_67 (by decide) (by decide)
                    refine TT_iinc hK (v := j9 + 1) (lv' := [(5, vI (j9 + 1)), (0, vR 73), (1, vI n), (2, vI wq), (3, vI eq), (4, vI lq)]) 5 rfl rfl (by decide) rfl dX12_decode_132 ?_
                    refine TT_goto hK (tgt := 117) dX12_decode_135 (by decide) ?_
                    refine TT_sub [1, 2, 3, 4, 5, 0] rfl ?_
                    have e253_103 : (setO w117_67 103 (fup (w117_67 103) j9 0)) 103 = fup (w117_67 103) j9 0 := sOf_eq _ _ _
                    have e254_80 : (setO w117_67 103 (fup (w117_67 103) j9 0)) 80 = w117_67 80 := sOf_ne _ _ (by decide)
                    have e255_81 : (setO w117_67 103 (fup (w117_67 103) j9 0)) 81 = w117_67 81 := sOf_ne _ _ (by decide)
                    have e256_80 : (setO w117_67 103 (fup (w117_67 103) j9 0)) 80 = w117_67 80 := sOf_ne _ _ (by decide)
                    have e257_81 : (setO w117_67 103 (fup (w117_67 103) j9 0)) 81 = w117_67 81 := sOf_ne _ _ (by decide)
                    have e258_84 : (setO w117_67 103 (fup (w117_67 103) j9 0)) 84 = w117_67 84 := sOf_ne _ _ (by decide)
                    have e259_85 : (setO w117_67 103 (fup (w117_67 103) j9 0)) 85 = w117_67 85 := sOf_ne _ _ (by decide)
                    have e260_83 : (setO w117_67 103 (fup (w117_67 103) j9 0)) 83 = w117_67 83 := sOf_ne _ _ (by decide)
                    have e261_73_2 : (setO w117_67 103 (fup (w117_67 103) j9 0)) 73 2 = (w117_67 73) 2 := rd_ (sOf_ne _ _ (by decide)) rfl
                    have e262_83 : (setO w117_67 103 (fup (w117_67 103) j9 0)) 83 = w117_67 83 := sOf_ne _ _ (by decide)
                    have e263_86 : (setO w117_67 103 (fup (w117_67 103) j9 0)) 86 = w117_67 86 := sOf_ne _ _ (by decide)
                    have e264_87 : (setO w117_67 103 (fup (w117_67 103) j9 0)) 87 = w117_67 87 := sOf_ne _ _ (by decide)
                    have e265_88 : (setO w117_67 103 (fup (w117_67 103) j9 0)) 88 = w117_67 88 := sOf_ne _ _ (by decide)
                    have e266_106 : (setO w117_67 103 (fup (w117_67 103) j9 0)) 106 = w117_67 106 := sOf_ne _ _ (by decide)
                    have e267_73_55 : (setO w117_67 103 (fup (w117_67 103) j9 0)) 73 55 = (w117_67 73) 55 := rd_ (sOf_ne _ _ (by decide)) rfl
                    exact ih67 (j9 + 1) (setO w117_67 103 (fup (w117_67 103) j9 0)) hT_252 hF_252 (by first | omega | (simp [up, setR] <;> omega)) (by rewrite [e253_103]; intro t h1 h2; by_cases e : t = j9; (rw [e, fup_eq]); (rw [fup_ne _ _ e]; exact hpz t h1 (by omega))) (by rewrite [e254_80]; exact hbw) (by rewrite [e255_81]; exact hbh) (by rewrite [e256_80, e257_81, e258_84, e259_85]; exact kq) (by rewrite [e260_83]; first | exact k83i | (intro q hq; rfl) | (intro q hq; exact fup_ne _ _ (by omega)) | (intro q hq; rw [fup_ne _ _ (by omega)]; exact k83i q hq)) (by rewrite [e261_73_2]; first | omega | (simp [up, setR] <;> omega)) (by rewrite [e262_83, e263_86, e264_87, e265_88]; exact hz4) (by rewrite [e266_106]; first | rfl | exact k106) (by rewrite [e267_73_55]; first | omega | (simp [up, setR] <;> omega)) (by first | omega | (simp [up, setR] <;> omega))
              refine TT_sub [4, 5, 3, 2, 1, 0] rfl ?_
              have e268_103 : g111_66 103 = h 103 := ((hG_66.1 103 (by decide))).trans (((hG_64.1 103 (by decide))).trans (((hG_54.1 103 (by decide))).trans (((hG_44.1 103 (by decide))).trans (((hG_34.1 103 (by decide))).trans (sOf_ne _ _ (by decide))))))
              have e269_73_2 : g111_66 73 2 = 0 := (congrFun (hG_66.1 73 (by decide)) 2).trans ((congrFun (hG_64.1 73 (by decide)) 2).trans ((congrFun (hG_54.1 73 (by decide)) 2).trans ((congrFun (hG_44.1 73 (by decide)) 2).trans ((congrFun (hG_34.1 73 (by decide)) 2).trans (rd_ (sOf_eq _ _ _) (fup_eq _ _ _))))))
              have e270_106 : g111_66 106 = h 106 := ((hG_66.1 106 (by decide))).trans (((hG_64.1 106 (by decide))).trans (((hG_54.1 106 (by decide))).trans (((hG_44.1 106 (by decide))).trans (((hG_34.1 106 (by decide))).trans (sOf_ne _ _ (by decide))))))
              have e271_73_55 : g111_66 73 55 = (h 73) 55 := (congrFun (hG_66.1 73 (by decide)) 55).trans ((congrFun (hG_64.1 73 (by decide)) 55).trans ((congrFun (hG_54.1 73 (by decide)) 55).trans ((congrFun (hG_44.1 73 (by decide)) 55).trans ((congrFun (hG_34.1 73 (by decide)) 55).trans (rd_ (sOf_eq _ _ _) (fup_ne _ _ (by decide)))))))
              exact L117_67 ((((10 : Int) - 0).toNat) + 1) 0 g111_66 hT_66 hF_66 (by first | omega | (simp [up, setR] <;> omega)) (by rewrite [e268_103]; intro t h1 h2; exfalso; omega) (by exact q1_at111) (by exact q2_at111) (by exact q6_at111 rfl) (by exact q10_at111 rfl) (by rewrite [e269_73_2]; first | omega | (simp [up, setR] <;> omega)) (by intro j j0 j1; exact ⟨⟨(q13_at111 j j0 j1).1, q3_at111 j j0 j1⟩, (q13_at111 j j0 j1).2, q11_at111 j j0 j1⟩) (by rewrite [e270_106]; first | rfl) (by rewrite [e271_73_55]; first | omega | (simp [up, setR] <;> omega)) (Nat.lt_succ_self _)
            · have e272_80 : g70_64 80 = h 80 := ((hG_64.1 80 (by decide))).trans (((hG_54.1 80 (by decide))).trans (((hG_44.1 80 (by decide))).trans (((hG_34.1 80 (by decide))).trans (sOf_ne _ _ (by decide)))))
              have e273_81 : g70_64 81 = h 81 := ((hG_64.1 81 (by decide))).trans (((hG_54.1 81 (by decide))).trans (((hG_44.1 81 (by decide))).trans (((hG_34.1 81 (by decide))).trans (sOf_ne _ _ (by decide)))))
              have e274_84 : g70_64 84 = h 84 := ((hG_64.1 84 (by decide))).trans (((hG_54.1 84 (by decide))).trans (((hG_44.1 84 (by decide))).trans (((hG_34.1 84 (by decide))).trans (sOf_ne _ _ (by decide)))))
              have e275_85 : g70_64 85 = h 85 := ((hG_64.1 85 (by decide))).trans (((hG_54.1 85 (by decide))).trans (((hG_44.1 85 (by decide))).trans (((hG_34.1 85 (by decide))).trans (sOf_ne _ _ (by decide)))))
              have e276_83 : g70_64 83 = h 83 := ((hG_64.1 83 (by decide))).trans (((hG_54.1 83 (by decide))).trans (((hG_44.1 83 (by decide))).trans (((hG_34.1 83 (by decide))).trans (sOf_ne _ _ (by decide)))))
              have e277_106 : g70_64 106 = h 106 := ((hG_64.1 106 (by decide))).trans (((hG_54.1 106 (by decide))).trans (((hG_44.1 106 (by decide))).trans (((hG_34.1 106 (by decide))).trans (sOf_ne _ _ (by decide)))))
              have e278_73_55 : g70_64 73 55 = (h 73) 55 := (congrFun (hG_64.1 73 (by decide)) 55).trans ((congrFun (hG_54.1 73 (by decide)) 55).trans ((congrFun (hG_44.1 73 (by decide)) 55).trans ((congrFun (hG_34.1 73 (by decide)) 55).trans (rd_ (sOf_eq _ _ _) (fup_ne _ _ (by decide))))))
              exact J76_2 g70_64 hT_64 hF_64 (by rewrite [e272_80, e273_81, e274_84, e275_85]; exact ⟨fun q hq => ⟨rfl, rfl⟩, fun j hj => ⟨rfl, rfl⟩⟩) (by rewrite [e276_83]; first | (intro q hq; rfl) | (intro q hq; exact fup_ne _ _ (by omega))) (by intro q; omega) (by rewrite [e277_106]; first | rfl) (by rewrite [e278_73_55]; first | omega | (simp [up, setR] <;> omega))

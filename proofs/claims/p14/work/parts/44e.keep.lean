set_option maxRecDepth 20000 in
theorem s_tellBand_k (b f : Int) (h : Hp_) (hT : TY h) (hb : 0 ≤ b ∧ b ≤ 9) (hf : 0 ≤ f ∧ f + 48 * ((h 80) b * (h 81) b) + 30 ≤ 4400) (htb : TBL (h 74) (h 75)) (hmi : MIQ (h 90) (h 91)) (hlq : LQ (h 83) (h 91) (h 92) b) : Ctr yX12_tellBand cX12_tellBand 5 none (rmd 9) ly ly 0 0 [vR 73, vI b, vI f] h (fun r h' => (TY h' ∧ FRM [73, 83, 84, 85, 89, 90, 91, 92, 93, 94, 95, 96, 97, 98, 99] [26, 27, 28, 29, 32, 33, 34, 36, 38, 39] h h') ∧ r = none ∧ ((h' 91) b ≤ 48 * ((h 80) b * (h 81) b) + 30) ∧ (MIQ (h' 90) (h' 91)) ∧ (LQ (h' 83) (h' 91) (h' 92) (b + 1)) ∧ (∀ j : Int, j ≠ b → (h' 91) j = (h 91) j) ∧ (∀ j : Int, j < 640 → (h' 84) j = (h 84) j ∧ (h' 85) j = (h 85) j)) := by
  refine Ctr_of (by decide) (Nat.le_of_ble_eq_true rfl) ⟨Nat.le_refl _, Nat.le_refl _⟩ (fun K hK hQ _ => ?_)
  show TT K ly 0 0 0 [(0, vR 73), (1, vI b), (2, vI f)] [] h
  have hF : FRM [73, 83, 84, 85, 89, 90, 91, 92, 93, 94, 95, 96, 97, 98, 99] [26, 27, 28, 29, 32, 33, 34, 36, 38, 39] h h := FRM_rf _ _ _
  have rw0 := ty_80 (i := b) (v := h 80 b) hT rfl (by omega) (by omega)
  have re0 := ty_81 (i := b) (v := h 81 b) hT rfl (by omega) (by omega)
  have ra0 : 0 ≤ h 80 b * h 81 b := Int.mul_nonneg rw0.1 re0.1
  have ra1 := A64 rw0 re0
  refine TT_aload_n hK rfl 0 rfl dX12_tellBand_0 ?_
  refine TT_iload_n hK rfl 1 rfl dX12_tellBand_1 ?_
  refine iv_X12_290 hK (s_X12_findPlanes_73 b h hT (by first | omega | (simp [up, setR] <;> omega))) (by decide) rfl ⟨by decide, by decide⟩ (by decide) rfl rfl (Nat.le_of_ble_eq_true rfl) ⟨by decide, by decide⟩ dX12_tellBand_2 ?_
  intro r9 g2_1 hp9
  obtain ⟨⟨hT_1, hG_1⟩, hr9, q1_1⟩ := hp9
  rw [hr9]
  have hF_1 : FRM [73, 83, 84, 85, 89, 90, 91, 92, 93, 94, 95, 96, 97, 98, 99] [26, 27, 28, 29, 32, 33, 34, 36, 38, 39] h g2_1 := FRM_tr hF hG_1 (by decide) (by decide)
  have q1_at2 := q1_1
  show TT K ly 0 0 5 [(0, vR 73), (1, vI b), (2, vI f)] [] g2_1
  refine TT_aload_n hK rfl 0 rfl dX12_tellBand_5 ?_
  refine gf_X12_66 hK (by decide) rfl (q := 90) rfl rfl dX12_tellBand_6 ?_
  refine TT_iload_n hK rfl 1 rfl dX12_tellBand_9 ?_
  refine TT_iload_n hK rfl 2 rfl dX12_tellBand_10 ?_
  refine TT_iast hK (o := 90) (n := 10) (by decide) rfl (by omega) (by omega) dX12_tellBand_11 ?_
  refine TT_hp (h' := setO g2_1 90 (fup (h 90) b f)) (up_can (hG_1.1 90 (by decide)) rfl rfl) ?_
  have hT_2 : TY (setO g2_1 90 (fup (h 90) b f)) := tu_90 hT_1 (show up g2_1 90 b f = (setO g2_1 90 (fup (h 90) b f)) from up_can (hG_1.1 90 (by decide)) rfl rfl) (by omega)
  have hF_2 : FRM [73, 83, 84, 85, 89, 90, 91, 92, 93, 94, 95, 96, 97, 98, 99] [26, 27, 28, 29, 32, 33, 34, 36, 38, 39] h (setO g2_1 90 (fup (h 90) b f)) := FRM_up (show up g2_1 90 b f = (setO g2_1 90 (fup (h 90) b f)) from up_can (hG_1.1 90 (by decide)) rfl rfl) hF_1 (by decide) (by decide)
  refine TT_aload_n hK rfl 0 rfl dX12_tellBand_12 ?_
  refine gf_X12_69 hK (by decide) rfl (q := 91) rfl rfl dX12_tellBand_13 ?_
  refine TT_iload_n hK rfl 1 rfl dX12_tellBand_16 ?_
  refine TT_iconst hK dX12_tellBand_17 ?_
  refine TT_iast hK (o := 91) (n := 10) (by decide) rfl (by omega) (by omega) dX12_tellBand_18 ?_
  refine TT_hp (h' := setO (setO g2_1 90 (fup (h 90) b f)) 91 (fup (h 91) b 0)) (up_can ((sOf_ne _ _ (by decide)).trans (hG_1.1 91 (by decide))) rfl rfl) ?_
  have hT_3 : TY (setO (setO g2_1 90 (fup (h 90) b f)) 91 (fup (h 91) b 0)) := tu_91 hT_2 (show up (setO g2_1 90 (fup (h 90) b f)) 91 b 0 = (setO (setO g2_1 90 (fup (h 90) b f)) 91 (fup (h 91) b 0)) from up_can ((sOf_ne _ _ (by decide)).trans (hG_1.1 91 (by decide))) rfl rfl) (by omega)
  have hF_3 : FRM [73, 83, 84, 85, 89, 90, 91, 92, 93, 94, 95, 96, 97, 98, 99] [26, 27, 28, 29, 32, 33, 34, 36, 38, 39] h (setO (setO g2_1 90 (fup (h 90) b f)) 91 (fup (h 91) b 0)) := FRM_up (show up (setO g2_1 90 (fup (h 90) b f)) 91 b 0 = (setO (setO g2_1 90 (fup (h 90) b f)) 91 (fup (h 91) b 0)) from up_can ((sOf_ne _ _ (by decide)).trans (hG_1.1 91 (by decide))) rfl rfl) hF_2 (by decide) (by decide)
  refine TT_aload_n hK rfl 0 rfl dX12_tellBand_19 ?_
  refine gf_X12_72 hK (by decide) rfl (q := 92) rfl rfl dX12_tellBand_20 ?_
  refine TT_bipush hK (by decide) dX12_tellBand_23 ?_
  refine TT_iload_n hK rfl 1 rfl dX12_tellBand_25 ?_
  refine TT_imul hK dX12_tellBand_26 ?_
  refine TT_iconst hK dX12_tellBand_27 ?_
  refine TT_iast hK (o := 92) (n := 350) (by decide) rfl (by omega) (by omega) dX12_tellBand_28 ?_
  refine TT_hp (h' := setO (setO (setO g2_1 90 (fup (h 90) b f)) 91 (fup (h 91) b 0)) 92 (fup (h 92) (35 * b) 0)) (up_can ((sOf_ne _ _ (by decide)).trans ((sOf_ne _ _ (by decide)).trans (hG_1.1 92 (by decide)))) rfl rfl) ?_
  have hT_4 : TY (setO (setO (setO g2_1 90 (fup (h 90) b f)) 91 (fup (h 91) b 0)) 92 (fup (h 92) (35 * b) 0)) := tu_92 hT_3 (show up (setO (setO g2_1 90 (fup (h 90) b f)) 91 (fup (h 91) b 0)) 92 (35 * b) 0 = (setO (setO (setO g2_1 90 (fup (h 90) b f)) 91 (fup (h 91) b 0)) 92 (fup (h 92) (35 * b) 0)) from up_can ((sOf_ne _ _ (by decide)).trans ((sOf_ne _ _ (by decide)).trans (hG_1.1 92 (by decide)))) rfl rfl) (by omega)
  have hF_4 : FRM [73, 83, 84, 85, 89, 90, 91, 92, 93, 94, 95, 96, 97, 98, 99] [26, 27, 28, 29, 32, 33, 34, 36, 38, 39] h (setO (setO (setO g2_1 90 (fup (h 90) b f)) 91 (fup (h 91) b 0)) 92 (fup (h 92) (35 * b) 0)) := FRM_up (show up (setO (setO g2_1 90 (fup (h 90) b f)) 91 (fup (h 91) b 0)) 92 (35 * b) 0 = (setO (setO (setO g2_1 90 (fup (h 90) b f)) 91 (fup (h 91) b 0)) 92 (fup (h 92) (35 * b) 0)) from up_can ((sOf_ne _ _ (by decide)).trans ((sOf_ne _ _ (by decide)).trans (hG_1.1 92 (by decide)))) rfl rfl) hF_3 (by decide) (by decide)
  refine TT_aload_n hK rfl 0 rfl dX12_tellBand_29 ?_
  refine gf_X12_44 hK (by decide) rfl (q := 83) rfl rfl dX12_tellBand_30 ?_
  refine TT_iload_n hK rfl 1 rfl dX12_tellBand_33 ?_
  refine TT_iald hK (o := 83) (n := 20) (by decide) rfl (by first | omega | (simp [up, setR] <;> omega)) (by first | omega | (simp [up, setR] <;> omega)) (v := (g2_1 83) b) (rd_ ((sOf_ne _ _ (by decide)).trans ((sOf_ne _ _ (by decide)).trans (sOf_ne _ _ (by decide)))) rfl) dX12_tellBand_34 ?_
  have r5 := ty_83 (i := b) (v := (g2_1 83) b) hT_4 (rd_ ((sOf_ne _ _ (by decide)).trans ((sOf_ne _ _ (by decide)).trans (sOf_ne _ _ (by decide)))) rfl) (by omega) (by omega)
  refine TT_if_ne hK (tgt := 39) (irm (by omega) (by omega)) dX12_tellBand_35 (by decide) (fun hb35_6 => ?_) (fun hb35_6 => ?_)
  · refine TT_aload_n hK rfl 0 rfl dX12_tellBand_39 ?_
    refine iv_X12_293 hK (s_X12_beginTelling_73 (setO (setO (setO g2_1 90 (fup (h 90) b f)) 91 (fup (h 91) b 0)) 92 (fup (h 92) (35 * b) 0)) hT_4 ) (by decide) rfl ⟨by decide, by decide⟩ (by decide) rfl rfl (Nat.le_of_ble_eq_true rfl) ⟨by decide, by decide⟩ dX12_tellBand_40 ?_
    intro r9 g40_7 hp9
    obtain ⟨⟨hT_7, hG_7⟩, hr9, p1_7, p2_7, p3_7, p4_7⟩ := hp9
    rw [hr9]
    have hF_7 : FRM [73, 83, 84, 85, 89, 90, 91, 92, 93, 94, 95, 96, 97, 98, 99] [26, 27, 28, 29, 32, 33, 34, 36, 38, 39] h g40_7 := FRM_tr hF_4 hG_7 (by decide) (by decide)
    show TT K ly 0 0 43 [(0, vR 73), (1, vI b), (2, vI f)] [] g40_7
    refine TT_aload_n hK rfl 0 rfl dX12_tellBand_43 ?_
    refine TT_iload_n hK rfl 1 rfl dX12_tellBand_44 ?_
    refine TT_aload_n hK rfl 0 rfl dX12_tellBand_45 ?_
    refine TT_iload_n hK rfl 1 rfl dX12_tellBand_46 ?_
    refine iv_X12_296 hK (s_passesOf_x b g40_7 hT_7 (by first | omega | (simp [up, setR] <;> omega))) (by decide) rfl ⟨by decide, by decide⟩ (by decide) rfl rfl (Nat.le_of_ble_eq_true rfl) ⟨by decide, by decide⟩ dX12_tellBand_47 ?_
    intro r9 g47_8 hp9
    obtain ⟨⟨hT_8, hG_8⟩, z47_8, hr9, hz_8, p1_8, p2_8⟩ := hp9
    rw [hr9]
    have hF_8 : FRM [73, 83, 84, 85, 89, 90, 91, 92, 93, 94, 95, 96, 97, 98, 99] [26, 27, 28, 29, 32, 33, 34, 36, 38, 39] h g47_8 := FRM_tr hF_7 hG_8 (by decide) (by decide)
    rw [show g40_7 83 = g2_1 83 from ((hG_7.1 83 (by decide))).trans ((sOf_ne _ _ (by decide)).trans ((sOf_ne _ _ (by decide)).trans (sOf_ne _ _ (by decide))))] at p2_8
    show TT K ly 0 0 50 [(0, vR 73), (1, vI b), (2, vI f)] [vI z47_8, vI b, vR 73] g47_8
    have z1 := PhS_r (g40_7 96)
    have v1 : z47_8 * (h 80 b * h 81 b) ≤ 34 * (h 80 b * h 81 b) := Int.mul_le_mul_of_nonneg_right (by omega) ra0
    have e9_74 : g47_8 74 = h 74 := ((hG_8.1 74 (by decide))).trans (((hG_7.1 74 (by decide))).trans ((sOf_ne _ _ (by decide)).trans ((sOf_ne _ _ (by decide)).trans ((sOf_ne _ _ (by decide)).trans (hG_1.1 74 (by decide))))))
    have e10_75 : g47_8 75 = h 75 := ((hG_8.1 75 (by decide))).trans (((hG_7.1 75 (by decide))).trans ((sOf_ne _ _ (by decide)).trans ((sOf_ne _ _ (by decide)).trans ((sOf_ne _ _ (by decide)).trans (hG_1.1 75 (by decide))))))
    have e11_73_32 : g47_8 73 32 = (g40_7 73) 32 := congrFun (hG_8.1 73 (by decide)) 32
    have e12_73_29 : g47_8 73 29 = (g40_7 73) 29 := congrFun (hG_8.1 73 (by decide)) 29
    have e13_73_29 : g47_8 73 29 = (g40_7 73) 29 := congrFun (hG_8.1 73 (by decide)) 29
    have e14_73_34 : g47_8 73 34 = (g40_7 73) 34 := congrFun (hG_8.1 73 (by decide)) 34
    have e15_73_36 : g47_8 73 36 = (g40_7 73) 36 := congrFun (hG_8.1 73 (by decide)) 36
    have e16_80 : g47_8 80 = h 80 := ((hG_8.1 80 (by decide))).trans (((hG_7.1 80 (by decide))).trans ((sOf_ne _ _ (by decide)).trans ((sOf_ne _ _ (by decide)).trans ((sOf_ne _ _ (by decide)).trans (hG_1.1 80 (by decide))))))
    have e17_81 : g47_8 81 = h 81 := ((hG_8.1 81 (by decide))).trans (((hG_7.1 81 (by decide))).trans ((sOf_ne _ _ (by decide)).trans ((sOf_ne _ _ (by decide)).trans ((sOf_ne _ _ (by decide)).trans (hG_1.1 81 (by decide))))))
    have e18_96 : g47_8 96 = g40_7 96 := (hG_8.1 96 (by decide))
    refine iv_X12_299 hK (s_walk_k b z47_8 g47_8 hT_8 (by first | omega | (simp [up, setR] <;> omega)) (by first | omega | (simp [up, setR] <;> omega)) (by rewrite [e9_74, e10_75]; first | assumption | exact htb) (by rewrite [e11_73_32]; first | omega | (simp [up, setR] <;> omega)) (by rewrite [e12_73_29]; first | omega | (simp [up, setR] <;> omega)) (by rewrite [e13_73_29, e14_73_34, e15_73_36, e16_80, e17_81, e18_96]; first | omega | (simp [up, setR] <;> omega))) (by decide) rfl ⟨by decide, by decide⟩ (by decide) rfl rfl (Nat.le_of_ble_eq_true rfl) ⟨by decide, by decide⟩ dX12_tellBand_50 ?_
    intro r9 g50_19 hp9
    obtain ⟨⟨hT_19, hG_19⟩, hr9, pa_19, pm_19, pk_19⟩ := hp9
    rw [hr9]
    have hF_19 : FRM [73, 83, 84, 85, 89, 90, 91, 92, 93, 94, 95, 96, 97, 98, 99] [26, 27, 28, 29, 32, 33, 34, 36, 38, 39] h g50_19 := FRM_tr hF_8 hG_19 (by decide) (by decide)
    rw [show g47_8 73 29 = (g40_7 73) 29 from congrFun (hG_8.1 73 (by decide)) 29] at pm_19
    rw [show g47_8 73 34 = (g40_7 73) 34 from congrFun (hG_8.1 73 (by decide)) 34] at pm_19
    rw [show g47_8 73 36 = (g40_7 73) 36 from congrFun (hG_8.1 73 (by decide)) 36] at pm_19
    rw [show g47_8 80 = h 80 from ((hG_8.1 80 (by decide))).trans (((hG_7.1 80 (by decide))).trans ((sOf_ne _ _ (by decide)).trans ((sOf_ne _ _ (by decide)).trans ((sOf_ne _ _ (by decide)).trans (hG_1.1 80 (by decide))))))] at pm_19
    rw [show g47_8 81 = h 81 from ((hG_8.1 81 (by decide))).trans (((hG_7.1 81 (by decide))).trans ((sOf_ne _ _ (by decide)).trans ((sOf_ne _ _ (by decide)).trans ((sOf_ne _ _ (by decide)).trans (hG_1.1 81 (by decide))))))] at pm_19
    rw [show g47_8 96 = g40_7 96 from (hG_8.1 96 (by decide))] at pm_19
    rw [show g47_8 84 = h 84 from ((hG_8.1 84 (by decide))).trans (((hG_7.1 84 (by decide))).trans ((sOf_ne _ _ (by decide)).trans ((sOf_ne _ _ (by decide)).trans ((sOf_ne _ _ (by decide)).trans (hG_1.1 84 (by decide))))))] at pk_19
    rw [show g47_8 85 = h 85 from ((hG_8.1 85 (by decide))).trans (((hG_7.1 85 (by decide))).trans ((sOf_ne _ _ (by decide)).trans ((sOf_ne _ _ (by decide)).trans ((sOf_ne _ _ (by decide)).trans (hG_1.1 85 (by decide))))))] at pk_19
    have pk_at50 := pk_19
    show TT K ly 0 0 53 [(0, vR 73), (1, vI b), (2, vI f)] [] g50_19
    refine TT_aload_n hK rfl 0 rfl dX12_tellBand_53 ?_
    have z2 := PhS_r (g50_19 96)
    have q34 := ty_73_34 (v := g50_19 73 34) hT_19 rfl
    have e20_73_36 : g50_19 73 36 = (g50_19 73) 36 := rfl
    refine iv_X12_302 hK (s_X12_endTelling_73 g50_19 hT_19 (by rewrite [e20_73_36]; first | omega | (simp [up, setR] <;> omega))) (by decide) rfl ⟨by decide, by decide⟩ (by decide) rfl rfl (Nat.le_of_ble_eq_true rfl) ⟨by decide, by decide⟩ dX12_tellBand_54 ?_
    intro r9 g54_21 hp9
    obtain ⟨⟨hT_21, hG_21⟩, hr9, p1_21⟩ := hp9
    rw [hr9]
    have hF_21 : FRM [73, 83, 84, 85, 89, 90, 91, 92, 93, 94, 95, 96, 97, 98, 99] [26, 27, 28, 29, 32, 33, 34, 36, 38, 39] h g54_21 := FRM_tr hF_19 hG_21 (by decide) (by decide)
    rw [show g50_19 73 36 = (g50_19 73) 36 from rfl] at p1_21
    show TT K ly 0 0 57 [(0, vR 73), (1, vI b), (2, vI f)] [] g54_21
    refine TT_aload_n hK rfl 0 rfl dX12_tellBand_57 ?_
    refine gf_X12_69 hK (by decide) rfl (q := 91) rfl rfl dX12_tellBand_58 ?_
    refine TT_iload_n hK rfl 1 rfl dX12_tellBand_61 ?_
    refine TT_aload_n hK rfl 0 rfl dX12_tellBand_62 ?_
    refine gf_X12_166 hK (by decide) rfl (v := (g54_21 73) 36) rfl dX12_tellBand_63 ?_
    have r22 := ty_73_36 (v := (g54_21 73) 36) hT_21 rfl
    refine TT_iconst hK dX12_tellBand_66 ?_
    refine TT_isub hK dX12_tellBand_67 ?_
    refine TT_iast hK (o := 91) (n := 10) (by decide) rfl (by omega) (by omega) dX12_tellBand_68 ?_
    refine TT_hp (h' := setO g54_21 91 (fup (h 91) b (((g54_21 73) 36) - 1))) (up_can (((hG_21.1 91 (by decide))).trans (((hG_19.1 91 (by decide))).trans (((hG_8.1 91 (by decide))).trans (((hG_7.1 91 (by decide))).trans ((sOf_ne _ _ (by decide)).trans (sOf_eq _ _ _)))))) (fup_same _ _ _ _) rfl) ?_
    have hT_23 : TY (setO g54_21 91 (fup (h 91) b (((g54_21 73) 36) - 1))) := tu_91 hT_21 (show up g54_21 91 b (((g54_21 73) 36) - 1) = (setO g54_21 91 (fup (h 91) b (((g54_21 73) 36) - 1))) from up_can (((hG_21.1 91 (by decide))).trans (((hG_19.1 91 (by decide))).trans (((hG_8.1 91 (by decide))).trans (((hG_7.1 91 (by decide))).trans ((sOf_ne _ _ (by decide)).trans (sOf_eq _ _ _)))))) (fup_same _ _ _ _) rfl) (by omega)
    have hF_23 : FRM [73, 83, 84, 85, 89, 90, 91, 92, 93, 94, 95, 96, 97, 98, 99] [26, 27, 28, 29, 32, 33, 34, 36, 38, 39] h (setO g54_21 91 (fup (h 91) b (((g54_21 73) 36) - 1))) := FRM_up (show up g54_21 91 b (((g54_21 73) 36) - 1) = (setO g54_21 91 (fup (h 91) b (((g54_21 73) 36) - 1))) from up_can (((hG_21.1 91 (by decide))).trans (((hG_19.1 91 (by decide))).trans (((hG_8.1 91 (by decide))).trans (((hG_7.1 91 (by decide))).trans ((sOf_ne _ _ (by decide)).trans (sOf_eq _ _ _)))))) (fup_same _ _ _ _) rfl) hF_21 (by decide) (by decide)
    refine TT_iconst hK dX12_tellBand_69 ?_
    refine TT_istore_n hK rfl (lv' := [(3, vI 1), (0, vR 73), (1, vI b), (2, vI f)]) (by decide) rfl dX12_tellBand_70 ?_
    have L71_24 : ∀ (k24 : Nat) (k : Int) (w71_24 : Hp_), TY w71_24 → FRM [73, 83, 84, 85, 89, 90, 91, 92, 93, 94, 95, 96, 97, 98, 99] [26, 27, 28, 29, 32, 33, 34, 36, 38, 39] h w71_24 → (1 ≤ k ∧ k ≤ (w71_24 73 36)) → ((w71_24 73 36) ≤ 48 * (h 80 b * h 81 b) + 31) → ((w71_24 91) b + 1 = (w71_24 73 36)) → ((w71_24 90) b = f) → (MIQ (w71_24 90) (w71_24 91)) → (LQ (w71_24 83) (w71_24 91) (w71_24 92) b) → ((w71_24 92) (35 * b) = 0) → (∀ j : Int, j ≠ b → (w71_24 91) j = h 91 j) → (∀ j : Int, j < 640 → (w71_24 84) j = h 84 j ∧ (w71_24 85) j = h 85 j) → ((3200 : Int) - k).toNat < k24 → TT K ly 0 0 71 [(0, vR 73), (1, vI b), (2, vI f), (3, vI k)] [] w71_24 := by
      intro k24
      induction k24 with
      | zero => intro k w71_24 hT71_24 hF71_24 hk ho hwb hwf hmi hlq hl0 h91f pki hk24; exact absurd hk24 (Nat.not_lt_zero _)
      | succ k24 ih24 =>
        intro k w71_24 hT71_24 hF71_24 hk ho hwb hwf hmi hlq hl0 h91f pki hk24
        refine TT_iload_n hK rfl 3 rfl dX12_tellBand_71 ?_
        refine TT_aload_n hK rfl 0 rfl dX12_tellBand_72 ?_
        refine gf_X12_166 hK (by decide) rfl (v := (w71_24 73) 36) rfl dX12_tellBand_73 ?_
        have r25 := ty_73_36 (v := (w71_24 73) 36) hT71_24 rfl
        refine TT_icmp_ge hK (tgt := 101) (irm (by omega) (by omega)) (irm (by omega) (by omega)) dX12_tellBand_76 (by decide) (fun hb76_26 => ?_) (fun hb76_26 => ?_)
        · refine TT_aload_n hK rfl 0 rfl dX12_tellBand_101 ?_
          refine TT_iload_n hK rfl 1 rfl dX12_tellBand_102 ?_
          refine iv_X12_305 hK (s_X12_useWord_73 b w71_24 hT71_24 (by first | omega | (simp [up, setR] <;> omega)) (by have := hmi b (by omega) (by omega); omega)) (by decide) rfl ⟨by decide, by decide⟩ (by decide) rfl rfl (Nat.le_of_ble_eq_true rfl) ⟨by decide, by decide⟩ dX12_tellBand_103 ?_
          intro r9 g103_27 hp9
          obtain ⟨⟨hT_27, hG_27⟩, hr9⟩ := hp9
          rw [hr9]
          have hF_27 : FRM [73, 83, 84, 85, 89, 90, 91, 92, 93, 94, 95, 96, 97, 98, 99] [26, 27, 28, 29, 32, 33, 34, 36, 38, 39] h g103_27 := FRM_tr hF71_24 hG_27 (by decide) (by decide)
          show TT K ly 0 0 106 [(0, vR 73), (1, vI b), (2, vI f), (3, vI k)] [] g103_27
          refine TT_iconst hK dX12_tellBand_106 ?_
          refine TT_istore_n hK rfl (lv' := [(3, vI 0), (0, vR 73), (1, vI b), (2, vI f)]) (by decide) rfl dX12_tellBand_107 ?_
          refine TT_iconst hK dX12_tellBand_108 ?_
          refine TT_istore hK (lv' := [(4, vI 1), (3, vI 0), (0, vR 73), (1, vI b), (2, vI f)]) (by decide) rfl dX12_tellBand_109 ?_
          have L111_28 : ∀ (k28 : Nat) (n : Int) (p : Int) (w111_28 : Hp_), TY w111_28 → FRM [73, 83, 84, 85, 89, 90, 91, 92, 93, 94, 95, 96, 97, 98, 99] [26, 27, 28, 29, 32, 33, 34, 36, 38, 39] h w111_28 → (1 ≤ p ∧ p ≤ 40) → (0 ≤ n ∧ n ≤ (w111_28 91) b) → ((w111_28 91) b ≤ 48 * (h 80 b * h 81 b) + 30) → (MIQ (w111_28 90) (w111_28 91)) → (LQ (w111_28 83) (w111_28 91) (w111_28 92) b) → (∀ j : Int, j ≠ b → (w111_28 91) j = h 91 j) → (∀ i j : Int, 0 ≤ i → i ≤ j → j < p → (w111_28 92) (35 * b + i) ≤ (w111_28 92) (35 * b + j) ∧ (w111_28 92) (35 * b + j) ≤ n) → (∀ j : Int, j < 640 → (w111_28 84) j = h 84 j ∧ (w111_28 85) j = h 85 j) → ((40 : Int) - p).toNat < k28 → TT K ly 0 0 111 [(0, vR 73), (1, vI b), (2, vI f), (3, vI n), (4, vI p)] [] w111_28 := by
            intro k28
            induction k28 with
            | zero => intro n p w111_28 hT111_28 hF111_28 hp hn hws hmi hlq h91f hlb pki hk28; exact absurd hk28 (Nat.not_lt_zero _)
            | succ k28 ih28 =>
              intro n p w111_28 hT111_28 hF111_28 hp hn hws hmi hlq h91f hlb pki hk28
              refine TT_iload hK 4 rfl dX12_tellBand_111 ?_
              refine TT_aload_n hK rfl 0 rfl dX12_tellBand_113 ?_
              refine TT_iload_n hK rfl 1 rfl dX12_tellBand_114 ?_
              refine iv_X12_296 hK (s_passesOf_x b w111_28 hT111_28 (by first | omega | (simp [up, setR] <;> omega))) (by decide) rfl ⟨by decide, by decide⟩ (by decide) rfl rfl (Nat.le_of_ble_eq_true rfl) ⟨by decide, by decide⟩ dX12_tellBand_115 ?_
              intro r9 g115_29 hp9
              obtain ⟨⟨hT_29, hG_29⟩, z115_29, hr9, hz_29, p1_29, p2_29⟩ := hp9
              rw [hr9]
              have hF_29 : FRM [73, 83, 84, 85, 89, 90, 91, 92, 93, 94, 95, 96, 97, 98, 99] [26, 27, 28, 29, 32, 33, 34, 36, 38, 39] h g115_29 := FRM_tr hF111_28 hG_29 (by decide) (by decide)
              show TT K ly 0 0 118 [(0, vR 73), (1, vI b), (2, vI f), (3, vI n), (4, vI p)] [vI z115_29, vI p] g115_29
              refine TT_icmp_gt hK (tgt := 216) (irm (by omega) (by omega)) (irm (by omega) (by omega)) dX12_tellBand_118 (by decide) (fun hb118_30 => ?_) (fun hb118_30 => ?_)
              · refine TT_vret hK hQ ?_ dX12_tellBand_216
                have e31_91 : g115_29 91 = w111_28 91 := (hG_29.1 91 (by decide))
                have e32_90 : g115_29 90 = w111_28 90 := (hG_29.1 90 (by decide))
                have e33_91 : g115_29 91 = w111_28 91 := (hG_29.1 91 (by decide))
                have e34_83 : g115_29 83 = w111_28 83 := (hG_29.1 83 (by decide))
                have e35_91 : g115_29 91 = w111_28 91 := (hG_29.1 91 (by decide))
                have e36_92 : g115_29 92 = w111_28 92 := (hG_29.1 92 (by decide))
                have e37_91 : g115_29 91 = w111_28 91 := (hG_29.1 91 (by decide))
                have e38_84 : g115_29 84 = w111_28 84 := (hG_29.1 84 (by decide))
                have e39_85 : g115_29 85 = w111_28 85 := (hG_29.1 85 (by decide))
                exact ⟨⟨hT_29, hF_29⟩, rfl, (by rewrite [e31_91]; first | omega | (rw [fup_eq]; omega)), (by rewrite [e32_90, e33_91]; first | assumption | exact MIQ_up hmi (by omega)), (by rewrite [e34_83, e35_91, e36_92]; first | exact LQ_0 hlq (by assumption) (by assumption) | exact LQ_s hlq (fun i j h1 h2 h3 => by have k9 := hlb i j h1 h2 (by omega); omega)), (by rewrite [e37_91]; first | exact h91f | (intro j hj; exact fup_ne _ _ hj)), (by rewrite [e38_84, e39_85]; first | exact pki | (intro j hj; exact ⟨rfl, rfl⟩))⟩
              · refine TT_aload_n hK rfl 0 rfl dX12_tellBand_121 ?_
                refine TT_iconst hK dX12_tellBand_122 ?_
                refine pf_X12_227 hK (by decide) rfl (by first | decide | omega) dX12_tellBand_123 ?_
                refine TT_hp (h' := setO g115_29 73 (fup (w111_28 73) 28 1)) (up_can (hG_29.1 73 (by decide)) rfl rfl) ?_
                have hT_40 : TY (setO g115_29 73 (fup (w111_28 73) 28 1)) := tu_73_28 hT_29 (show up g115_29 73 28 1 = (setO g115_29 73 (fup (w111_28 73) 28 1)) from up_can (hG_29.1 73 (by decide)) rfl rfl) (by omega)
                have hF_40 : FRM [73, 83, 84, 85, 89, 90, 91, 92, 93, 94, 95, 96, 97, 98, 99] [26, 27, 28, 29, 32, 33, 34, 36, 38, 39] h (setO g115_29 73 (fup (w111_28 73) 28 1)) := FRM_f (show up g115_29 73 28 1 = (setO g115_29 73 (fup (w111_28 73) 28 1)) from up_can (hG_29.1 73 (by decide)) rfl rfl) hF_29 (by decide) (by decide)
                refine TT_iload_n hK rfl 3 rfl dX12_tellBand_126 ?_
                refine TT_iconst hK dX12_tellBand_127 ?_
                refine TT_isub hK dX12_tellBand_128 ?_
                refine TT_istore_n hK rfl (lv' := [(3, vI (n - 1)), (0, vR 73), (1, vI b), (2, vI f), (4, vI p)]) (by decide) rfl dX12_tellBand_129 ?_
                have L130_41 : ∀ (k41 : Nat) (n2 : Int) (w130_41 : Hp_), TY w130_41 → FRM [73, 83, 84, 85, 89, 90, 91, 92, 93, 94, 95, 96, 97, 98, 99] [26, 27, 28, 29, 32, 33, 34, 36, 38, 39] h w130_41 → (-1 ≤ n2 ∧ n2 ≤ (w130_41 91) b) → ((w130_41 73 28) = 1 → n2 < (w130_41 91) b) → (n - 1 ≤ n2) → ((w130_41 73 28) = 0 → n ≤ n2) → ((w130_41 91) b ≤ 48 * (h 80 b * h 81 b) + 30) → (MIQ (w130_41 90) (w130_41 91)) → (LQ (w130_41 83) (w130_41 91) (w130_41 92) b) → (∀ j : Int, j ≠ b → (w130_41 91) j = h 91 j) → (∀ i j : Int, 0 ≤ i → i ≤ j → j < p → (w130_41 92) (35 * b + i) ≤ (w130_41 92) (35 * b + j) ∧ (w130_41 92) (35 * b + j) ≤ n) → (∀ j : Int, j < 640 → (w130_41 84) j = h 84 j ∧ (w130_41 85) j = h 85 j) → ((4401 : Int) - n2).toNat < k41 → TT K ly 0 0 130 [(0, vR 73), (1, vI b), (2, vI f), (3, vI n2), (4, vI p)] [] w130_41 := by
                  intro k41
                  induction k41 with
                  | zero => intro n2 w130_41 hT130_41 hF130_41 hn2 hn3 hn5 hn4 hws hmi hlq h91f hlb pki hk41; exact absurd hk41 (Nat.not_lt_zero _)
                  | succ k41 ih41 =>
                    intro n2 w130_41 hT130_41 hF130_41 hn2 hn3 hn5 hn4 hws hmi hlq h91f hlb pki hk41
                    refine TT_aload_n hK rfl 0 rfl dX12_tellBand_130 ?_
                    refine gf_X12_227 hK (by decide) rfl (v := (w130_41 73) 28) rfl dX12_tellBand_131 ?_
                    have r42 := ty_73_28 (v := (w130_41 73) 28) hT130_41 rfl
                    refine TT_if_eq hK (tgt := 197) (irm (by omega) (by omega)) dX12_tellBand_134 (by decide) (fun hb134_43 => ?_) (fun hb134_43 => ?_)
                    · refine TT_aload_n hK rfl 0 rfl dX12_tellBand_197 ?_
                      refine gf_X12_72 hK (by decide) rfl (q := 92) rfl rfl dX12_tellBand_198 ?_
                      refine TT_bipush hK (by decide) dX12_tellBand_201 ?_
                      refine TT_iload_n hK rfl 1 rfl dX12_tellBand_203 ?_
                      refine TT_imul hK dX12_tellBand_204 ?_
                      refine TT_iload hK 4 rfl dX12_tellBand_205 ?_
                      refine TT_iadd hK dX12_tellBand_207 ?_
                      refine TT_iload_n hK rfl 3 rfl dX12_tellBand_208 ?_
                      refine TT_iast hK (o := 92) (n := 350) (by decide) rfl (by omega) (by omega) dX12_tellBand_209 ?_
                      refine TT_hp (h' := setO w130_41 92 (fup (w130_41 92) ((35 * b) + p) n2)) (up_can rfl rfl rfl) ?_
                      have hT_44 : TY (setO w130_41 92 (fup (w130_41 92) ((35 * b) + p) n2)) := tu_92 hT130_41 (show up w130_41 92 ((35 * b) + p) n2 = (setO w130_41 92 (fup (w130_41 92) ((35 * b) + p) n2)) from up_can rfl rfl rfl) (by omega)
                      have hF_44 : FRM [73, 83, 84, 85, 89, 90, 91, 92, 93, 94, 95, 96, 97, 98, 99] [26, 27, 28, 29, 32, 33, 34, 36, 38, 39] h (setO w130_41 92 (fup (w130_41 92) ((35 * b) + p) n2)) := FRM_up (show up w130_41 92 ((35 * b) + p) n2 = (setO w130_41 92 (fup (w130_41 92) ((35 * b) + p) n2)) from up_can rfl rfl rfl) hF130_41 (by decide) (by decide)
                      refine TT_iinc hK (v := p + 1) (lv' := [(4, vI (p + 1)), (0, vR 73), (1, vI b), (2, vI f), (3, vI n2)]) 4 rfl rfl (by decide) rfl dX12_tellBand_210 ?_
                      refine TT_goto hK (tgt := 111) dX12_tellBand_213 (by decide) ?_
                      refine TT_sub [1, 2, 3, 4, 0] rfl ?_
                      have e45_91 : (setO w130_41 92 (fup (w130_41 92) ((35 * b) + p) n2)) 91 = w130_41 91 := sOf_ne _ _ (by decide)
                      have e46_91 : (setO w130_41 92 (fup (w130_41 92) ((35 * b) + p) n2)) 91 = w130_41 91 := sOf_ne _ _ (by decide)
                      have e47_90 : (setO w130_41 92 (fup (w130_41 92) ((35 * b) + p) n2)) 90 = w130_41 90 := sOf_ne _ _ (by decide)
                      have e48_91 : (setO w130_41 92 (fup (w130_41 92) ((35 * b) + p) n2)) 91 = w130_41 91 := sOf_ne _ _ (by decide)
                      have e49_83 : (setO w130_41 92 (fup (w130_41 92) ((35 * b) + p) n2)) 83 = w130_41 83 := sOf_ne _ _ (by decide)
                      have e50_91 : (setO w130_41 92 (fup (w130_41 92) ((35 * b) + p) n2)) 91 = w130_41 91 := sOf_ne _ _ (by decide)
                      have e51_92 : (setO w130_41 92 (fup (w130_41 92) ((35 * b) + p) n2)) 92 = fup (w130_41 92) ((35 * b) + p) n2 := sOf_eq _ _ _
                      have e52_91 : (setO w130_41 92 (fup (w130_41 92) ((35 * b) + p) n2)) 91 = w130_41 91 := sOf_ne _ _ (by decide)
                      have e53_92 : (setO w130_41 92 (fup (w130_41 92) ((35 * b) + p) n2)) 92 = fup (w130_41 92) ((35 * b) + p) n2 := sOf_eq _ _ _
                      have e54_84 : (setO w130_41 92 (fup (w130_41 92) ((35 * b) + p) n2)) 84 = w130_41 84 := sOf_ne _ _ (by decide)
                      have e55_85 : (setO w130_41 92 (fup (w130_41 92) ((35 * b) + p) n2)) 85 = w130_41 85 := sOf_ne _ _ (by decide)
                      exact ih28 n2 (p + 1) (setO w130_41 92 (fup (w130_41 92) ((35 * b) + p) n2)) hT_44 hF_44 (by first | omega | (simp [up, setR] <;> omega)) (by rewrite [e45_91]; first | omega | (simp [up, setR] <;> omega)) (by rewrite [e46_91]; first | omega | (simp [up, setR] <;> omega)) (by rewrite [e47_90, e48_91]; first | assumption | exact hmi) (by rewrite [e49_83, e50_91, e51_92]; exact LQ_2 hlq (by omega)) (by rewrite [e52_91]; exact h91f) (by rewrite [e53_92]; intro i j h1 h2 h3; by_cases e2 : j = p; (rw [e2, fup_eq]; by_cases e1 : i = p; (rw [e1, fup_eq]; omega); (rw [fup_ne _ _ (show 35 * b + i ≠ 35 * b + p by omega)]; have k9 := hlb i i h1 (by omega) (by omega); omega)); (rw [fup_ne _ _ (show 35 * b + i ≠ 35 * b + p by omega), fup_ne _ _ (show 35 * b + j ≠ 35 * b + p by omega)]; have k9 := hlb i j h1 h2 (by omega); omega)) (by rewrite [e54_84, e55_85]; exact pki) (by first | omega | (simp [up, setR] <;> omega))
                    · refine TT_iinc hK (v := n2 + 1) (lv' := [(3, vI (n2 + 1)), (0, vR 73), (1, vI b), (2, vI f), (4, vI p)]) 3 rfl rfl (by decide) rfl dX12_tellBand_137 ?_
                      refine TT_iload_n hK rfl 0 rfl dX12_tellBand_140 ?_
                      refine TT_if_ge hK (tgt := 148) (irm (by omega) (by omega)) dX12_tellBand_141 (by decide) (fun hb141_56 => ?_) (fun hb141_56 => ?_)
                      · refine TT_iload_n hK rfl 0 rfl dX12_tellBand_148 ?_
                        refine TT_istore_n hK rfl (lv' := [(3, vI (n2 + 1)), (0, vR 73), (1, vI b), (2, vI f), (4, vI p)]) (by decide) rfl dX12_tellBand_149 ?_
                        refine TT_aload_n hK rfl 1 rfl dX12_tellBand_150 ?_
                        refine TT_iload_n hK rfl 0 rfl dX12_tellBand_151 ?_
                        refine TT_iconst hK dX12_tellBand_152 ?_
                        refine iv_X12_308 hK (s_X12_beginReading_73 (n2 + 1) 2 w130_41 hT130_41 (by first | omega | (simp [up, setR] <;> omega)) (by first | omega | (simp [up, setR] <;> omega))) (by decide) rfl ⟨by decide, by decide⟩ (by decide) rfl rfl (Nat.le_of_ble_eq_true rfl) ⟨by decide, by decide⟩ dX12_tellBand_153 ?_
                        intro r9 g153_57 hp9
                        obtain ⟨⟨hT_57, hG_57⟩, hr9, p1_57, p2_57⟩ := hp9
                        rw [hr9]
                        have hF_57 : FRM [73, 83, 84, 85, 89, 90, 91, 92, 93, 94, 95, 96, 97, 98, 99] [26, 27, 28, 29, 32, 33, 34, 36, 38, 39] h g153_57 := FRM_tr hF130_41 hG_57 (by decide) (by decide)
                        show TT K ly 0 0 156 [(3, vI (n2 + 1)), (0, vR 73), (1, vI b), (2, vI f), (4, vI p)] [] g153_57
                        refine TT_aload_n hK rfl 1 rfl dX12_tellBand_156 ?_
                        refine TT_iconst hK dX12_tellBand_157 ?_
                        refine pf_X12_227 hK (by decide) rfl (by first | decide | omega) dX12_tellBand_158 ?_
                        refine TT_hp (h' := setO g153_57 73 (fup (g153_57 73) 28 0)) (up_can rfl rfl rfl) ?_
                        have hT_58 : TY (setO g153_57 73 (fup (g153_57 73) 28 0)) := tu_73_28 hT_57 (show up g153_57 73 28 0 = (setO g153_57 73 (fup (g153_57 73) 28 0)) from up_can rfl rfl rfl) (by omega)
                        have hF_58 : FRM [73, 83, 84, 85, 89, 90, 91, 92, 93, 94, 95, 96, 97, 98, 99] [26, 27, 28, 29, 32, 33, 34, 36, 38, 39] h (setO g153_57 73 (fup (g153_57 73) 28 0)) := FRM_f (show up g153_57 73 28 0 = (setO g153_57 73 (fup (g153_57 73) 28 0)) from up_can rfl rfl rfl) hF_57 (by decide) (by decide)
                        refine TT_aload_n hK rfl 1 rfl dX12_tellBand_161 ?_
                        refine TT_iload_n hK rfl 2 rfl dX12_tellBand_162 ?_
                        refine TT_iload hK 4 rfl dX12_tellBand_163 ?_
                        have e59_74 : (setO g153_57 73 (fup (g153_57 73) 28 0)) 74 = h 74 := (sOf_ne _ _ (by decide)).trans (((hG_57.1 74 (by decide))).trans (hF130_41.1 74 (by decide)))
                        have e60_75 : (setO g153_57 73 (fup (g153_57 73) 28 0)) 75 = h 75 := (sOf_ne _ _ (by decide)).trans (((hG_57.1 75 (by decide))).trans (hF130_41.1 75 (by decide)))
                        have e61_73_32 : (setO g153_57 73 (fup (g153_57 73) 28 0)) 73 32 = (g153_57 73) 32 := rd_ (sOf_eq _ _ _) (fup_ne _ _ (by decide))
                        have e62_73_29 : (setO g153_57 73 (fup (g153_57 73) 28 0)) 73 29 = (g153_57 73) 29 := rd_ (sOf_eq _ _ _) (fup_ne _ _ (by decide))
                        have e63_73_29 : (setO g153_57 73 (fup (g153_57 73) 28 0)) 73 29 = (g153_57 73) 29 := rd_ (sOf_eq _ _ _) (fup_ne _ _ (by decide))
                        have e64_73_34 : (setO g153_57 73 (fup (g153_57 73) 28 0)) 73 34 = (g153_57 73) 34 := rd_ (sOf_eq _ _ _) (fup_ne _ _ (by decide))
                        have e65_73_36 : (setO g153_57 73 (fup (g153_57 73) 28 0)) 73 36 = (w130_41 73) 36 := (rd_ (sOf_eq _ _ _) (fup_ne _ _ (by decide))).trans (hG_57.2 36 (by decide))
                        have e66_80 : (setO g153_57 73 (fup (g153_57 73) 28 0)) 80 = h 80 := (sOf_ne _ _ (by decide)).trans (((hG_57.1 80 (by decide))).trans (hF130_41.1 80 (by decide)))
                        have e67_81 : (setO g153_57 73 (fup (g153_57 73) 28 0)) 81 = h 81 := (sOf_ne _ _ (by decide)).trans (((hG_57.1 81 (by decide))).trans (hF130_41.1 81 (by decide)))
                        have e68_96 : (setO g153_57 73 (fup (g153_57 73) 28 0)) 96 = g153_57 96 := sOf_ne _ _ (by decide)
                        refine iv_X12_299 hK (s_walk_k b p (setO g153_57 73 (fup (g153_57 73) 28 0)) hT_58 (by first | omega | (simp [up, setR] <;> omega)) (by first | omega | (simp [up, setR] <;> omega)) (by rewrite [e59_74, e60_75]; first | assumption | exact htb) (by rewrite [e61_73_32]; first | omega | (simp [up, setR] <;> omega)) (by rewrite [e62_73_29]; first | omega | (simp [up, setR] <;> omega)) (by rewrite [e63_73_29, e64_73_34, e65_73_36, e66_80, e67_81, e68_96]; first | omega | (simp [up, setR] <;> omega))) (by decide) rfl ⟨by decide, by decide⟩ (by decide) rfl rfl (Nat.le_of_ble_eq_true rfl) ⟨by decide, by decide⟩ dX12_tellBand_165 ?_
                        intro r9 g165_69 hp9
                        obtain ⟨⟨hT_69, hG_69⟩, hr9, pa_69, pm_69, pk_69⟩ := hp9
                        rw [hr9]
                        have hF_69 : FRM [73, 83, 84, 85, 89, 90, 91, 92, 93, 94, 95, 96, 97, 98, 99] [26, 27, 28, 29, 32, 33, 34, 36, 38, 39] h g165_69 := FRM_tr hF_58 hG_69 (by decide) (by decide)
                        rw [show (setO g153_57 73 (fup (g153_57 73) 28 0)) 73 29 = (g153_57 73) 29 from rd_ (sOf_eq _ _ _) (fup_ne _ _ (by decide))] at pm_69
                        rw [show (setO g153_57 73 (fup (g153_57 73) 28 0)) 73 34 = (g153_57 73) 34 from rd_ (sOf_eq _ _ _) (fup_ne _ _ (by decide))] at pm_69
                        rw [show (setO g153_57 73 (fup (g153_57 73) 28 0)) 73 36 = (w130_41 73) 36 from (rd_ (sOf_eq _ _ _) (fup_ne _ _ (by decide))).trans (hG_57.2 36 (by decide))] at pm_69
                        rw [show (setO g153_57 73 (fup (g153_57 73) 28 0)) 80 = h 80 from (sOf_ne _ _ (by decide)).trans (((hG_57.1 80 (by decide))).trans (hF130_41.1 80 (by decide)))] at pm_69
                        rw [show (setO g153_57 73 (fup (g153_57 73) 28 0)) 81 = h 81 from (sOf_ne _ _ (by decide)).trans (((hG_57.1 81 (by decide))).trans (hF130_41.1 81 (by decide)))] at pm_69
                        rw [show (setO g153_57 73 (fup (g153_57 73) 28 0)) 96 = g153_57 96 from sOf_ne _ _ (by decide)] at pm_69
                        rw [show (setO g153_57 73 (fup (g153_57 73) 28 0)) 84 = w130_41 84 from (sOf_ne _ _ (by decide)).trans (hG_57.1 84 (by decide))] at pk_69
                        rw [show (setO g153_57 73 (fup (g153_57 73) 28 0)) 85 = w130_41 85 from (sOf_ne _ _ (by decide)).trans (hG_57.1 85 (by decide))] at pk_69
                        have pk_at165 := pk_69
                        show TT K ly 0 0 168 [(3, vI (n2 + 1)), (0, vR 73), (1, vI b), (2, vI f), (4, vI p)] [] g165_69
                        refine TT_aload_n hK rfl 1 rfl dX12_tellBand_168 ?_
                        refine TT_aload_n hK rfl 1 rfl dX12_tellBand_169 ?_
                        refine gf_X12_227 hK (by decide) rfl (v := (g165_69 73) 28) rfl dX12_tellBand_170 ?_
                        have r70 := ty_73_28 (v := (g165_69 73) 28) hT_69 rfl
                        refine TT_if_eq hK (tgt := 190) (irm (by omega) (by omega)) dX12_tellBand_173 (by decide) (fun hb173_71 => ?_) (fun hb173_71 => ?_)
                        · refine TT_iconst hK dX12_tellBand_190 ?_
                          refine pf_X12_227 hK (by decide) rfl (by first | decide | omega) dX12_tellBand_191 ?_
                          refine TT_hp (h' := setO g165_69 73 (fup (g165_69 73) 28 0)) (up_can rfl rfl rfl) ?_
                          have hT_72 : TY (setO g165_69 73 (fup (g165_69 73) 28 0)) := tu_73_28 hT_69 (show up g165_69 73 28 0 = (setO g165_69 73 (fup (g165_69 73) 28 0)) from up_can rfl rfl rfl) (by omega)
                          have hF_72 : FRM [73, 83, 84, 85, 89, 90, 91, 92, 93, 94, 95, 96, 97, 98, 99] [26, 27, 28, 29, 32, 33, 34, 36, 38, 39] h (setO g165_69 73 (fup (g165_69 73) 28 0)) := FRM_f (show up g165_69 73 28 0 = (setO g165_69 73 (fup (g165_69 73) 28 0)) from up_can rfl rfl rfl) hF_69 (by decide) (by decide)
                          refine TT_goto hK (tgt := 130) dX12_tellBand_194 (by decide) ?_
                          refine TT_sub [1, 2, 3, 0, 4] rfl ?_
                          have e73_91 : (setO g165_69 73 (fup (g165_69 73) 28 0)) 91 = w130_41 91 := (sOf_ne _ _ (by decide)).trans (((hG_69.1 91 (by decide))).trans ((sOf_ne _ _ (by decide)).trans (hG_57.1 91 (by decide))))
                          have e74_73_28 : (setO g165_69 73 (fup (g165_69 73) 28 0)) 73 28 = 0 := rd_ (sOf_eq _ _ _) (fup_eq _ _ _)
                          have e75_91 : (setO g165_69 73 (fup (g165_69 73) 28 0)) 91 = w130_41 91 := (sOf_ne _ _ (by decide)).trans (((hG_69.1 91 (by decide))).trans ((sOf_ne _ _ (by decide)).trans (hG_57.1 91 (by decide))))
                          have e76_73_28 : (setO g165_69 73 (fup (g165_69 73) 28 0)) 73 28 = 0 := rd_ (sOf_eq _ _ _) (fup_eq _ _ _)
                          have e77_91 : (setO g165_69 73 (fup (g165_69 73) 28 0)) 91 = w130_41 91 := (sOf_ne _ _ (by decide)).trans (((hG_69.1 91 (by decide))).trans ((sOf_ne _ _ (by decide)).trans (hG_57.1 91 (by decide))))
                          have e78_90 : (setO g165_69 73 (fup (g165_69 73) 28 0)) 90 = w130_41 90 := (sOf_ne _ _ (by decide)).trans (((hG_69.1 90 (by decide))).trans ((sOf_ne _ _ (by decide)).trans (hG_57.1 90 (by decide))))
                          have e79_91 : (setO g165_69 73 (fup (g165_69 73) 28 0)) 91 = w130_41 91 := (sOf_ne _ _ (by decide)).trans (((hG_69.1 91 (by decide))).trans ((sOf_ne _ _ (by decide)).trans (hG_57.1 91 (by decide))))
                          have e80_83 : (setO g165_69 73 (fup (g165_69 73) 28 0)) 83 = w130_41 83 := (sOf_ne _ _ (by decide)).trans (((hG_69.1 83 (by decide))).trans ((sOf_ne _ _ (by decide)).trans (hG_57.1 83 (by decide))))
                          have e81_91 : (setO g165_69 73 (fup (g165_69 73) 28 0)) 91 = w130_41 91 := (sOf_ne _ _ (by decide)).trans (((hG_69.1 91 (by decide))).trans ((sOf_ne _ _ (by decide)).trans (hG_57.1 91 (by decide))))
                          have e82_92 : (setO g165_69 73 (fup (g165_69 73) 28 0)) 92 = w130_41 92 := (sOf_ne _ _ (by decide)).trans (((hG_69.1 92 (by decide))).trans ((sOf_ne _ _ (by decide)).trans (hG_57.1 92 (by decide))))
                          have e83_91 : (setO g165_69 73 (fup (g165_69 73) 28 0)) 91 = w130_41 91 := (sOf_ne _ _ (by decide)).trans (((hG_69.1 91 (by decide))).trans ((sOf_ne _ _ (by decide)).trans (hG_57.1 91 (by decide))))
                          have e84_92 : (setO g165_69 73 (fup (g165_69 73) 28 0)) 92 = w130_41 92 := (sOf_ne _ _ (by decide)).trans (((hG_69.1 92 (by decide))).trans ((sOf_ne _ _ (by decide)).trans (hG_57.1 92 (by decide))))
                          have e85_84 : (setO g165_69 73 (fup (g165_69 73) 28 0)) 84 = g165_69 84 := sOf_ne _ _ (by decide)
                          have e86_85 : (setO g165_69 73 (fup (g165_69 73) 28 0)) 85 = g165_69 85 := sOf_ne _ _ (by decide)
                          exact ih41 (n2 + 1) (setO g165_69 73 (fup (g165_69 73) 28 0)) hT_72 hF_72 (by rewrite [e73_91]; first | omega | (simp [up, setR] <;> omega)) (by rewrite [e74_73_28, e75_91]; first | omega | (simp [up, setR] <;> omega)) (by first | omega | (simp [up, setR] <;> omega)) (by rewrite [e76_73_28]; first | omega | (simp [up, setR] <;> omega)) (by rewrite [e77_91]; first | omega | (simp [up, setR] <;> omega)) (by rewrite [e78_90, e79_91]; first | assumption | exact hmi) (by rewrite [e80_83, e81_91, e82_92]; first | assumption | exact hlq) (by rewrite [e83_91]; exact h91f) (by rewrite [e84_92]; exact hlb) (by rewrite [e85_84, e86_85]; (intro j hj; have k1 := pk_at165 j hj; have k2 := pki j hj; exact ⟨k1.1.trans k2.1, k1.2.trans k2.2⟩)) (by first | omega | (simp [up, setR] <;> omega))
                        · refine TT_iload_n hK rfl 0 rfl dX12_tellBand_176 ?_
                          refine TT_aload_n hK rfl 1 rfl dX12_tellBand_177 ?_
                          refine gf_X12_69 hK (by decide) rfl (q := 91) rfl rfl dX12_tellBand_178 ?_
                          refine TT_iload_n hK rfl 2 rfl dX12_tellBand_181 ?_
                          refine TT_iald hK (o := 91) (n := 10) (by decide) rfl (by first | omega | (simp [up, setR] <;> omega)) (by first | omega | (simp [up, setR] <;> omega)) (v := (w130_41 91) b) (rd_ (((hG_69.1 91 (by decide))).trans ((sOf_ne _ _ (by decide)).trans (hG_57.1 91 (by decide)))) rfl) dX12_tellBand_182 ?_
                          have r87 := ty_91 (i := b) (v := (w130_41 91) b) hT_69 (rd_ (((hG_69.1 91 (by decide))).trans ((sOf_ne _ _ (by decide)).trans (hG_57.1 91 (by decide)))) rfl) (by omega) (by omega)
                          refine TT_icmp_ge hK (tgt := 190) (irm (by omega) (by omega)) (irm (by omega) (by omega)) dX12_tellBand_183 (by decide) (fun hb183_88 => ?_) (fun hb183_88 => ?_)
                          · refine TT_iconst hK dX12_tellBand_190 ?_
                            refine pf_X12_227 hK (by decide) rfl (by first | decide | omega) dX12_tellBand_191 ?_
                            refine TT_hp (h' := setO g165_69 73 (fup (g165_69 73) 28 0)) (up_can rfl rfl rfl) ?_
                            have hT_89 : TY (setO g165_69 73 (fup (g165_69 73) 28 0)) := tu_73_28 hT_69 (show up g165_69 73 28 0 = (setO g165_69 73 (fup (g165_69 73) 28 0)) from up_can rfl rfl rfl) (by omega)
                            have hF_89 : FRM [73, 83, 84, 85, 89, 90, 91, 92, 93, 94, 95, 96, 97, 98, 99] [26, 27, 28, 29, 32, 33, 34, 36, 38, 39] h (setO g165_69 73 (fup (g165_69 73) 28 0)) := FRM_f (show up g165_69 73 28 0 = (setO g165_69 73 (fup (g165_69 73) 28 0)) from up_can rfl rfl rfl) hF_69 (by decide) (by decide)
                            refine TT_goto hK (tgt := 130) dX12_tellBand_194 (by decide) ?_
                            refine TT_sub [1, 2, 3, 0, 4] rfl ?_
                            have e90_91 : (setO g165_69 73 (fup (g165_69 73) 28 0)) 91 = w130_41 91 := (sOf_ne _ _ (by decide)).trans (((hG_69.1 91 (by decide))).trans ((sOf_ne _ _ (by decide)).trans (hG_57.1 91 (by decide))))
                            have e91_73_28 : (setO g165_69 73 (fup (g165_69 73) 28 0)) 73 28 = 0 := rd_ (sOf_eq _ _ _) (fup_eq _ _ _)
                            have e92_91 : (setO g165_69 73 (fup (g165_69 73) 28 0)) 91 = w130_41 91 := (sOf_ne _ _ (by decide)).trans (((hG_69.1 91 (by decide))).trans ((sOf_ne _ _ (by decide)).trans (hG_57.1 91 (by decide))))
                            have e93_73_28 : (setO g165_69 73 (fup (g165_69 73) 28 0)) 73 28 = 0 := rd_ (sOf_eq _ _ _) (fup_eq _ _ _)
                            have e94_91 : (setO g165_69 73 (fup (g165_69 73) 28 0)) 91 = w130_41 91 := (sOf_ne _ _ (by decide)).trans (((hG_69.1 91 (by decide))).trans ((sOf_ne _ _ (by decide)).trans (hG_57.1 91 (by decide))))
                            have e95_90 : (setO g165_69 73 (fup (g165_69 73) 28 0)) 90 = w130_41 90 := (sOf_ne _ _ (by decide)).trans (((hG_69.1 90 (by decide))).trans ((sOf_ne _ _ (by decide)).trans (hG_57.1 90 (by decide))))
                            have e96_91 : (setO g165_69 73 (fup (g165_69 73) 28 0)) 91 = w130_41 91 := (sOf_ne _ _ (by decide)).trans (((hG_69.1 91 (by decide))).trans ((sOf_ne _ _ (by decide)).trans (hG_57.1 91 (by decide))))
                            have e97_83 : (setO g165_69 73 (fup (g165_69 73) 28 0)) 83 = w130_41 83 := (sOf_ne _ _ (by decide)).trans (((hG_69.1 83 (by decide))).trans ((sOf_ne _ _ (by decide)).trans (hG_57.1 83 (by decide))))
                            have e98_91 : (setO g165_69 73 (fup (g165_69 73) 28 0)) 91 = w130_41 91 := (sOf_ne _ _ (by decide)).trans (((hG_69.1 91 (by decide))).trans ((sOf_ne _ _ (by decide)).trans (hG_57.1 91 (by decide))))
                            have e99_92 : (setO g165_69 73 (fup (g165_69 73) 28 0)) 92 = w130_41 92 := (sOf_ne _ _ (by decide)).trans (((hG_69.1 92 (by decide))).trans ((sOf_ne _ _ (by decide)).trans (hG_57.1 92 (by decide))))
                            have e100_91 : (setO g165_69 73 (fup (g165_69 73) 28 0)) 91 = w130_41 91 := (sOf_ne _ _ (by decide)).trans (((hG_69.1 91 (by decide))).trans ((sOf_ne _ _ (by decide)).trans (hG_57.1 91 (by decide))))
                            have e101_92 : (setO g165_69 73 (fup (g165_69 73) 28 0)) 92 = w130_41 92 := (sOf_ne _ _ (by decide)).trans (((hG_69.1 92 (by decide))).trans ((sOf_ne _ _ (by decide)).trans (hG_57.1 92 (by decide))))
                            have e102_84 : (setO g165_69 73 (fup (g165_69 73) 28 0)) 84 = g165_69 84 := sOf_ne _ _ (by decide)
                            have e103_85 : (setO g165_69 73 (fup (g165_69 73) 28 0)) 85 = g165_69 85 := sOf_ne _ _ (by decide)
                            exact ih41 (n2 + 1) (setO g165_69 73 (fup (g165_69 73) 28 0)) hT_89 hF_89 (by rewrite [e90_91]; first | omega | (simp [up, setR] <;> omega)) (by rewrite [e91_73_28, e92_91]; first | omega | (simp [up, setR] <;> omega)) (by first | omega | (simp [up, setR] <;> omega)) (by rewrite [e93_73_28]; first | omega | (simp [up, setR] <;> omega)) (by rewrite [e94_91]; first | omega | (simp [up, setR] <;> omega)) (by rewrite [e95_90, e96_91]; first | assumption | exact hmi) (by rewrite [e97_83, e98_91, e99_92]; first | assumption | exact hlq) (by rewrite [e100_91]; exact h91f) (by rewrite [e101_92]; exact hlb) (by rewrite [e102_84, e103_85]; (intro j hj; have k1 := pk_at165 j hj; have k2 := pki j hj; exact ⟨k1.1.trans k2.1, k1.2.trans k2.2⟩)) (by first | omega | (simp [up, setR] <;> omega))
                          · refine TT_iconst hK dX12_tellBand_186 ?_
                            refine TT_goto hK (tgt := 191) dX12_tellBand_187 (by decide) ?_
                            refine pf_X12_227 hK (by decide) rfl (by first | decide | omega) dX12_tellBand_191 ?_
                            refine TT_hp (h' := setO g165_69 73 (fup (g165_69 73) 28 1)) (up_can rfl rfl rfl) ?_
                            have hT_104 : TY (setO g165_69 73 (fup (g165_69 73) 28 1)) := tu_73_28 hT_69 (show up g165_69 73 28 1 = (setO g165_69 73 (fup (g165_69 73) 28 1)) from up_can rfl rfl rfl) (by omega)
                            have hF_104 : FRM [73, 83, 84, 85, 89, 90, 91, 92, 93, 94, 95, 96, 97, 98, 99] [26, 27, 28, 29, 32, 33, 34, 36, 38, 39] h (setO g165_69 73 (fup (g165_69 73) 28 1)) := FRM_f (show up g165_69 73 28 1 = (setO g165_69 73 (fup (g165_69 73) 28 1)) from up_can rfl rfl rfl) hF_69 (by decide) (by decide)
                            refine TT_goto hK (tgt := 130) dX12_tellBand_194 (by decide) ?_
                            refine TT_sub [1, 2, 3, 0, 4] rfl ?_
                            have e105_91 : (setO g165_69 73 (fup (g165_69 73) 28 1)) 91 = w130_41 91 := (sOf_ne _ _ (by decide)).trans (((hG_69.1 91 (by decide))).trans ((sOf_ne _ _ (by decide)).trans (hG_57.1 91 (by decide))))
                            have e106_73_28 : (setO g165_69 73 (fup (g165_69 73) 28 1)) 73 28 = 1 := rd_ (sOf_eq _ _ _) (fup_eq _ _ _)
                            have e107_91 : (setO g165_69 73 (fup (g165_69 73) 28 1)) 91 = w130_41 91 := (sOf_ne _ _ (by decide)).trans (((hG_69.1 91 (by decide))).trans ((sOf_ne _ _ (by decide)).trans (hG_57.1 91 (by decide))))
                            have e108_73_28 : (setO g165_69 73 (fup (g165_69 73) 28 1)) 73 28 = 1 := rd_ (sOf_eq _ _ _) (fup_eq _ _ _)
                            have e109_91 : (setO g165_69 73 (fup (g165_69 73) 28 1)) 91 = w130_41 91 := (sOf_ne _ _ (by decide)).trans (((hG_69.1 91 (by decide))).trans ((sOf_ne _ _ (by decide)).trans (hG_57.1 91 (by decide))))
                            have e110_90 : (setO g165_69 73 (fup (g165_69 73) 28 1)) 90 = w130_41 90 := (sOf_ne _ _ (by decide)).trans (((hG_69.1 90 (by decide))).trans ((sOf_ne _ _ (by decide)).trans (hG_57.1 90 (by decide))))
                            have e111_91 : (setO g165_69 73 (fup (g165_69 73) 28 1)) 91 = w130_41 91 := (sOf_ne _ _ (by decide)).trans (((hG_69.1 91 (by decide))).trans ((sOf_ne _ _ (by decide)).trans (hG_57.1 91 (by decide))))
                            have e112_83 : (setO g165_69 73 (fup (g165_69 73) 28 1)) 83 = w130_41 83 := (sOf_ne _ _ (by decide)).trans (((hG_69.1 83 (by decide))).trans ((sOf_ne _ _ (by decide)).trans (hG_57.1 83 (by decide))))
                            have e113_91 : (setO g165_69 73 (fup (g165_69 73) 28 1)) 91 = w130_41 91 := (sOf_ne _ _ (by decide)).trans (((hG_69.1 91 (by decide))).trans ((sOf_ne _ _ (by decide)).trans (hG_57.1 91 (by decide))))
                            have e114_92 : (setO g165_69 73 (fup (g165_69 73) 28 1)) 92 = w130_41 92 := (sOf_ne _ _ (by decide)).trans (((hG_69.1 92 (by decide))).trans ((sOf_ne _ _ (by decide)).trans (hG_57.1 92 (by decide))))
                            have e115_91 : (setO g165_69 73 (fup (g165_69 73) 28 1)) 91 = w130_41 91 := (sOf_ne _ _ (by decide)).trans (((hG_69.1 91 (by decide))).trans ((sOf_ne _ _ (by decide)).trans (hG_57.1 91 (by decide))))
                            have e116_92 : (setO g165_69 73 (fup (g165_69 73) 28 1)) 92 = w130_41 92 := (sOf_ne _ _ (by decide)).trans (((hG_69.1 92 (by decide))).trans ((sOf_ne _ _ (by decide)).trans (hG_57.1 92 (by decide))))
                            have e117_84 : (setO g165_69 73 (fup (g165_69 73) 28 1)) 84 = g165_69 84 := sOf_ne _ _ (by decide)
                            have e118_85 : (setO g165_69 73 (fup (g165_69 73) 28 1)) 85 = g165_69 85 := sOf_ne _ _ (by decide)
                            exact ih41 (n2 + 1) (setO g165_69 73 (fup (g165_69 73) 28 1)) hT_104 hF_104 (by rewrite [e105_91]; first | omega | (simp [up, setR] <;> omega)) (by rewrite [e106_73_28, e107_91]; first | omega | (simp [up, setR] <;> omega)) (by first | omega | (simp [up, setR] <;> omega)) (by rewrite [e108_73_28]; first | omega | (simp [up, setR] <;> omega)) (by rewrite [e109_91]; first | omega | (simp [up, setR] <;> omega)) (by rewrite [e110_90, e111_91]; first | assumption | exact hmi) (by rewrite [e112_83, e113_91, e114_92]; first | assumption | exact hlq) (by rewrite [e115_91]; exact h91f) (by rewrite [e116_92]; exact hlb) (by rewrite [e117_84, e118_85]; (intro j hj; have k1 := pk_at165 j hj; have k2 := pki j hj; exact ⟨k1.1.trans k2.1, k1.2.trans k2.2⟩)) (by first | omega | (simp [up, setR] <;> omega))
                      · exfalso; omega
                refine TT_sub [1, 2, 3, 0, 4] rfl ?_
                have e119_91 : (setO g115_29 73 (fup (w111_28 73) 28 1)) 91 = w111_28 91 := (sOf_ne _ _ (by decide)).trans (hG_29.1 91 (by decide))
                have e120_73_28 : (setO g115_29 73 (fup (w111_28 73) 28 1)) 73 28 = 1 := rd_ (sOf_eq _ _ _) (fup_eq _ _ _)
                have e121_91 : (setO g115_29 73 (fup (w111_28 73) 28 1)) 91 = w111_28 91 := (sOf_ne _ _ (by decide)).trans (hG_29.1 91 (by decide))
                have e122_73_28 : (setO g115_29 73 (fup (w111_28 73) 28 1)) 73 28 = 1 := rd_ (sOf_eq _ _ _) (fup_eq _ _ _)
                have e123_91 : (setO g115_29 73 (fup (w111_28 73) 28 1)) 91 = w111_28 91 := (sOf_ne _ _ (by decide)).trans (hG_29.1 91 (by decide))
                have e124_90 : (setO g115_29 73 (fup (w111_28 73) 28 1)) 90 = w111_28 90 := (sOf_ne _ _ (by decide)).trans (hG_29.1 90 (by decide))
                have e125_91 : (setO g115_29 73 (fup (w111_28 73) 28 1)) 91 = w111_28 91 := (sOf_ne _ _ (by decide)).trans (hG_29.1 91 (by decide))
                have e126_83 : (setO g115_29 73 (fup (w111_28 73) 28 1)) 83 = w111_28 83 := (sOf_ne _ _ (by decide)).trans (hG_29.1 83 (by decide))
                have e127_91 : (setO g115_29 73 (fup (w111_28 73) 28 1)) 91 = w111_28 91 := (sOf_ne _ _ (by decide)).trans (hG_29.1 91 (by decide))
                have e128_92 : (setO g115_29 73 (fup (w111_28 73) 28 1)) 92 = w111_28 92 := (sOf_ne _ _ (by decide)).trans (hG_29.1 92 (by decide))
                have e129_91 : (setO g115_29 73 (fup (w111_28 73) 28 1)) 91 = w111_28 91 := (sOf_ne _ _ (by decide)).trans (hG_29.1 91 (by decide))
                have e130_92 : (setO g115_29 73 (fup (w111_28 73) 28 1)) 92 = w111_28 92 := (sOf_ne _ _ (by decide)).trans (hG_29.1 92 (by decide))
                have e131_84 : (setO g115_29 73 (fup (w111_28 73) 28 1)) 84 = w111_28 84 := (sOf_ne _ _ (by decide)).trans (hG_29.1 84 (by decide))
                have e132_85 : (setO g115_29 73 (fup (w111_28 73) 28 1)) 85 = w111_28 85 := (sOf_ne _ _ (by decide)).trans (hG_29.1 85 (by decide))
                exact L130_41 ((((4401 : Int) - (n - 1)).toNat) + 1) (n - 1) (setO g115_29 73 (fup (w111_28 73) 28 1)) hT_40 hF_40 (by rewrite [e119_91]; first | omega | (simp [up, setR] <;> omega)) (by rewrite [e120_73_28, e121_91]; first | omega | (simp [up, setR] <;> omega)) (by first | omega | (simp [up, setR] <;> omega)) (by rewrite [e122_73_28]; first | omega | (simp [up, setR] <;> omega)) (by rewrite [e123_91]; first | omega | (simp [up, setR] <;> omega)) (by rewrite [e124_90, e125_91]; first | assumption | exact hmi) (by rewrite [e126_83, e127_91, e128_92]; first | assumption | exact hlq) (by rewrite [e129_91]; first | exact h91f | (intro j hj; exact fup_ne _ _ hj)) (by rewrite [e130_92]; exact hlb) (by rewrite [e131_84, e132_85]; exact pki) (Nat.lt_succ_self _)
          refine TT_sub [2, 3, 4, 1, 0] rfl ?_
          have e133_91 : g103_27 91 = w71_24 91 := (hG_27.1 91 (by decide))
          have e134_91 : g103_27 91 = w71_24 91 := (hG_27.1 91 (by decide))
          have e135_90 : g103_27 90 = w71_24 90 := (hG_27.1 90 (by decide))
          have e136_91 : g103_27 91 = w71_24 91 := (hG_27.1 91 (by decide))
          have e137_83 : g103_27 83 = w71_24 83 := (hG_27.1 83 (by decide))
          have e138_91 : g103_27 91 = w71_24 91 := (hG_27.1 91 (by decide))
          have e139_92 : g103_27 92 = w71_24 92 := (hG_27.1 92 (by decide))
          have e140_91 : g103_27 91 = w71_24 91 := (hG_27.1 91 (by decide))
          have e141_92 : g103_27 92 = w71_24 92 := (hG_27.1 92 (by decide))
          have e142_84 : g103_27 84 = w71_24 84 := (hG_27.1 84 (by decide))
          have e143_85 : g103_27 85 = w71_24 85 := (hG_27.1 85 (by decide))
          exact L111_28 ((((40 : Int) - 1).toNat) + 1) 0 1 g103_27 hT_27 hF_27 (by first | omega | (simp [up, setR] <;> omega)) (by rewrite [e133_91]; first | omega | (simp [up, setR] <;> omega)) (by rewrite [e134_91]; first | omega | (simp [up, setR] <;> omega)) (by rewrite [e135_90, e136_91]; first | assumption | exact hmi) (by rewrite [e137_83, e138_91, e139_92]; exact hlq) (by rewrite [e140_91]; first | exact h91f | (intro j hj; exact fup_ne _ _ hj)) (by rewrite [e141_92]; intro i j h1 h2 h3; rw [show i = 0 by omega, show j = 0 by omega, Int.add_zero, hl0]; omega) (by rewrite [e142_84, e143_85]; exact pki) (Nat.lt_succ_self _)
        · refine TT_aload_n hK rfl 0 rfl dX12_tellBand_79 ?_
          refine gf_X12_63 hK (by decide) rfl (q := 89) rfl rfl dX12_tellBand_80 ?_
          refine TT_iload_n hK rfl 2 rfl dX12_tellBand_83 ?_
          refine TT_iload_n hK rfl 3 rfl dX12_tellBand_84 ?_
          refine TT_iadd hK dX12_tellBand_85 ?_
          refine TT_iconst hK dX12_tellBand_86 ?_
          refine TT_isub hK dX12_tellBand_87 ?_
          refine TT_aload_n hK rfl 0 rfl dX12_tellBand_88 ?_
          refine gf_X12_90 hK (by decide) rfl (q := 98) rfl rfl dX12_tellBand_89 ?_
          refine TT_iload_n hK rfl 3 rfl dX12_tellBand_92 ?_
          refine TT_iald hK (o := 98) (n := 3200) (by decide) rfl (by first | omega | (simp [up, setR] <;> omega)) (by first | omega | (simp [up, setR] <;> omega)) (v := (w71_24 98) k) rfl dX12_tellBand_93 ?_
          have r144 := ty_98 (i := k) (v := (w71_24 98) k) hT71_24 rfl (by omega) (by omega)
          refine TT_iast hK (o := 89) (n := 4400) (by decide) rfl (by omega) (by omega) dX12_tellBand_94 ?_
          refine TT_hp (h' := setO w71_24 89 (fup (w71_24 89) ((f + k) - 1) ((w71_24 98) k))) (up_can rfl rfl rfl) ?_
          have hT_145 : TY (setO w71_24 89 (fup (w71_24 89) ((f + k) - 1) ((w71_24 98) k))) := tu_89 hT71_24 (show up w71_24 89 ((f + k) - 1) ((w71_24 98) k) = (setO w71_24 89 (fup (w71_24 89) ((f + k) - 1) ((w71_24 98) k))) from up_can rfl rfl rfl) (by omega)
          have hF_145 : FRM [73, 83, 84, 85, 89, 90, 91, 92, 93, 94, 95, 96, 97, 98, 99] [26, 27, 28, 29, 32, 33, 34, 36, 38, 39] h (setO w71_24 89 (fup (w71_24 89) ((f + k) - 1) ((w71_24 98) k))) := FRM_up (show up w71_24 89 ((f + k) - 1) ((w71_24 98) k) = (setO w71_24 89 (fup (w71_24 89) ((f + k) - 1) ((w71_24 98) k))) from up_can rfl rfl rfl) hF71_24 (by decide) (by decide)
          refine TT_iinc hK (v := k + 1) (lv' := [(3, vI (k + 1)), (0, vR 73), (1, vI b), (2, vI f)]) 3 rfl rfl (by decide) rfl dX12_tellBand_95 ?_
          refine TT_goto hK (tgt := 71) dX12_tellBand_98 (by decide) ?_
          refine TT_sub [1, 2, 3, 0] rfl ?_
          have e146_73_36 : (setO w71_24 89 (fup (w71_24 89) ((f + k) - 1) ((w71_24 98) k))) 73 36 = (w71_24 73) 36 := rd_ (sOf_ne _ _ (by decide)) rfl
          have e147_73_36 : (setO w71_24 89 (fup (w71_24 89) ((f + k) - 1) ((w71_24 98) k))) 73 36 = (w71_24 73) 36 := rd_ (sOf_ne _ _ (by decide)) rfl
          have e148_73_36 : (setO w71_24 89 (fup (w71_24 89) ((f + k) - 1) ((w71_24 98) k))) 73 36 = (w71_24 73) 36 := rd_ (sOf_ne _ _ (by decide)) rfl
          have e149_91 : (setO w71_24 89 (fup (w71_24 89) ((f + k) - 1) ((w71_24 98) k))) 91 = w71_24 91 := sOf_ne _ _ (by decide)
          have e150_90 : (setO w71_24 89 (fup (w71_24 89) ((f + k) - 1) ((w71_24 98) k))) 90 = w71_24 90 := sOf_ne _ _ (by decide)
          have e151_90 : (setO w71_24 89 (fup (w71_24 89) ((f + k) - 1) ((w71_24 98) k))) 90 = w71_24 90 := sOf_ne _ _ (by decide)
          have e152_91 : (setO w71_24 89 (fup (w71_24 89) ((f + k) - 1) ((w71_24 98) k))) 91 = w71_24 91 := sOf_ne _ _ (by decide)
          have e153_83 : (setO w71_24 89 (fup (w71_24 89) ((f + k) - 1) ((w71_24 98) k))) 83 = w71_24 83 := sOf_ne _ _ (by decide)
          have e154_91 : (setO w71_24 89 (fup (w71_24 89) ((f + k) - 1) ((w71_24 98) k))) 91 = w71_24 91 := sOf_ne _ _ (by decide)
          have e155_92 : (setO w71_24 89 (fup (w71_24 89) ((f + k) - 1) ((w71_24 98) k))) 92 = w71_24 92 := sOf_ne _ _ (by decide)
          have e156_92 : (setO w71_24 89 (fup (w71_24 89) ((f + k) - 1) ((w71_24 98) k))) 92 = w71_24 92 := sOf_ne _ _ (by decide)
          have e157_91 : (setO w71_24 89 (fup (w71_24 89) ((f + k) - 1) ((w71_24 98) k))) 91 = w71_24 91 := sOf_ne _ _ (by decide)
          have e158_84 : (setO w71_24 89 (fup (w71_24 89) ((f + k) - 1) ((w71_24 98) k))) 84 = w71_24 84 := sOf_ne _ _ (by decide)
          have e159_85 : (setO w71_24 89 (fup (w71_24 89) ((f + k) - 1) ((w71_24 98) k))) 85 = w71_24 85 := sOf_ne _ _ (by decide)
          exact ih24 (k + 1) (setO w71_24 89 (fup (w71_24 89) ((f + k) - 1) ((w71_24 98) k))) hT_145 hF_145 (by rewrite [e146_73_36]; first | omega | (simp [up, setR] <;> omega)) (by rewrite [e147_73_36]; first | omega | (simp [up, setR] <;> omega)) (by rewrite [e148_73_36, e149_91]; omega) (by rewrite [e150_90]; omega) (by rewrite [e151_90, e152_91]; exact hmi) (by rewrite [e153_83, e154_91, e155_92]; exact hlq) (by rewrite [e156_92]; omega) (by rewrite [e157_91]; exact h91f) (by rewrite [e158_84, e159_85]; exact pki) (by first | omega | (simp [up, setR] <;> omega))
    refine TT_sub [1, 2, 3, 0] rfl ?_
    have e160_73_36 : (setO g54_21 91 (fup (h 91) b (((g54_21 73) 36) - 1))) 73 36 = (g54_21 73) 36 := rd_ (sOf_ne _ _ (by decide)) rfl
    have e161_73_36 : (setO g54_21 91 (fup (h 91) b (((g54_21 73) 36) - 1))) 73 36 = (g54_21 73) 36 := rd_ (sOf_ne _ _ (by decide)) rfl
    have e162_73_36 : (setO g54_21 91 (fup (h 91) b (((g54_21 73) 36) - 1))) 73 36 = (g54_21 73) 36 := rd_ (sOf_ne _ _ (by decide)) rfl
    have e163_91 : (setO g54_21 91 (fup (h 91) b (((g54_21 73) 36) - 1))) 91 = fup (h 91) b (((g54_21 73) 36) - 1) := sOf_eq _ _ _
    have e164_90 : (setO g54_21 91 (fup (h 91) b (((g54_21 73) 36) - 1))) 90 = fup (h 90) b f := (sOf_ne _ _ (by decide)).trans (((hG_21.1 90 (by decide))).trans (((hG_19.1 90 (by decide))).trans (((hG_8.1 90 (by decide))).trans (((hG_7.1 90 (by decide))).trans ((sOf_ne _ _ (by decide)).trans ((sOf_ne _ _ (by decide)).trans (sOf_eq _ _ _)))))))
    have e165_90 : (setO g54_21 91 (fup (h 91) b (((g54_21 73) 36) - 1))) 90 = fup (h 90) b f := (sOf_ne _ _ (by decide)).trans (((hG_21.1 90 (by decide))).trans (((hG_19.1 90 (by decide))).trans (((hG_8.1 90 (by decide))).trans (((hG_7.1 90 (by decide))).trans ((sOf_ne _ _ (by decide)).trans ((sOf_ne _ _ (by decide)).trans (sOf_eq _ _ _)))))))
    have e166_91 : (setO g54_21 91 (fup (h 91) b (((g54_21 73) 36) - 1))) 91 = fup (h 91) b (((g54_21 73) 36) - 1) := sOf_eq _ _ _
    have e167_83 : (setO g54_21 91 (fup (h 91) b (((g54_21 73) 36) - 1))) 83 = g2_1 83 := (sOf_ne _ _ (by decide)).trans (((hG_21.1 83 (by decide))).trans (((hG_19.1 83 (by decide))).trans (((hG_8.1 83 (by decide))).trans (((hG_7.1 83 (by decide))).trans ((sOf_ne _ _ (by decide)).trans ((sOf_ne _ _ (by decide)).trans (sOf_ne _ _ (by decide))))))))
    have e168_91 : (setO g54_21 91 (fup (h 91) b (((g54_21 73) 36) - 1))) 91 = fup (h 91) b (((g54_21 73) 36) - 1) := sOf_eq _ _ _
    have e169_92 : (setO g54_21 91 (fup (h 91) b (((g54_21 73) 36) - 1))) 92 = fup (h 92) (35 * b) 0 := (sOf_ne _ _ (by decide)).trans (((hG_21.1 92 (by decide))).trans (((hG_19.1 92 (by decide))).trans (((hG_8.1 92 (by decide))).trans (((hG_7.1 92 (by decide))).trans (sOf_eq _ _ _)))))
    have e170_92 : (setO g54_21 91 (fup (h 91) b (((g54_21 73) 36) - 1))) 92 = fup (h 92) (35 * b) 0 := (sOf_ne _ _ (by decide)).trans (((hG_21.1 92 (by decide))).trans (((hG_19.1 92 (by decide))).trans (((hG_8.1 92 (by decide))).trans (((hG_7.1 92 (by decide))).trans (sOf_eq _ _ _)))))
    have e171_91 : (setO g54_21 91 (fup (h 91) b (((g54_21 73) 36) - 1))) 91 = fup (h 91) b (((g54_21 73) 36) - 1) := sOf_eq _ _ _
    have e172_84 : (setO g54_21 91 (fup (h 91) b (((g54_21 73) 36) - 1))) 84 = g50_19 84 := (sOf_ne _ _ (by decide)).trans (hG_21.1 84 (by decide))
    have e173_85 : (setO g54_21 91 (fup (h 91) b (((g54_21 73) 36) - 1))) 85 = g50_19 85 := (sOf_ne _ _ (by decide)).trans (hG_21.1 85 (by decide))
    exact L71_24 ((((3200 : Int) - 1).toNat) + 1) 1 (setO g54_21 91 (fup (h 91) b (((g54_21 73) 36) - 1))) hT_23 hF_23 (by rewrite [e160_73_36]; first | omega | (simp [up, setR] <;> omega)) (by rewrite [e161_73_36]; first | omega | (simp [up, setR] <;> omega)) (by rewrite [e162_73_36, e163_91]; rw [fup_eq]; omega) (by rewrite [e164_90]; exact fup_eq _ _ _) (by rewrite [e165_90, e166_91]; exact MIQ_up hmi (by omega)) (by rewrite [e167_83, e168_91, e169_92]; exact LQ_1 hlq q1_at2) (by rewrite [e170_92]; exact fup_eq _ _ _) (by rewrite [e171_91]; first | exact h91f | (intro j hj; exact fup_ne _ _ hj)) (by rewrite [e172_84, e173_85]; exact pk_at50) (Nat.lt_succ_self _)
  · refine TT_vret hK hQ ?_ dX12_tellBand_38
    have e174_91 : (setO (setO (setO g2_1 90 (fup (h 90) b f)) 91 (fup (h 91) b 0)) 92 (fup (h 92) (35 * b) 0)) 91 = fup (h 91) b 0 := (sOf_ne _ _ (by decide)).trans (sOf_eq _ _ _)
    have e175_90 : (setO (setO (setO g2_1 90 (fup (h 90) b f)) 91 (fup (h 91) b 0)) 92 (fup (h 92) (35 * b) 0)) 90 = fup (h 90) b f := (sOf_ne _ _ (by decide)).trans ((sOf_ne _ _ (by decide)).trans (sOf_eq _ _ _))
    have e176_91 : (setO (setO (setO g2_1 90 (fup (h 90) b f)) 91 (fup (h 91) b 0)) 92 (fup (h 92) (35 * b) 0)) 91 = fup (h 91) b 0 := (sOf_ne _ _ (by decide)).trans (sOf_eq _ _ _)
    have e177_83 : (setO (setO (setO g2_1 90 (fup (h 90) b f)) 91 (fup (h 91) b 0)) 92 (fup (h 92) (35 * b) 0)) 83 = g2_1 83 := (sOf_ne _ _ (by decide)).trans ((sOf_ne _ _ (by decide)).trans (sOf_ne _ _ (by decide)))
    have e178_91 : (setO (setO (setO g2_1 90 (fup (h 90) b f)) 91 (fup (h 91) b 0)) 92 (fup (h 92) (35 * b) 0)) 91 = fup (h 91) b 0 := (sOf_ne _ _ (by decide)).trans (sOf_eq _ _ _)
    have e179_92 : (setO (setO (setO g2_1 90 (fup (h 90) b f)) 91 (fup (h 91) b 0)) 92 (fup (h 92) (35 * b) 0)) 92 = fup (h 92) (35 * b) 0 := sOf_eq _ _ _
    have e180_91 : (setO (setO (setO g2_1 90 (fup (h 90) b f)) 91 (fup (h 91) b 0)) 92 (fup (h 92) (35 * b) 0)) 91 = fup (h 91) b 0 := (sOf_ne _ _ (by decide)).trans (sOf_eq _ _ _)
    have e181_84 : (setO (setO (setO g2_1 90 (fup (h 90) b f)) 91 (fup (h 91) b 0)) 92 (fup (h 92) (35 * b) 0)) 84 = h 84 := (sOf_ne _ _ (by decide)).trans ((sOf_ne _ _ (by decide)).trans ((sOf_ne _ _ (by decide)).trans (hG_1.1 84 (by decide))))
    have e182_85 : (setO (setO (setO g2_1 90 (fup (h 90) b f)) 91 (fup (h 91) b 0)) 92 (fup (h 92) (35 * b) 0)) 85 = h 85 := (sOf_ne _ _ (by decide)).trans ((sOf_ne _ _ (by decide)).trans ((sOf_ne _ _ (by decide)).trans (hG_1.1 85 (by decide))))
    exact ⟨⟨hT_4, hF_4⟩, rfl, (by rewrite [e174_91]; first | omega | (rw [fup_eq]; omega)), (by rewrite [e175_90, e176_91]; first | assumption | exact MIQ_up hmi (by omega)), (by rewrite [e177_83, e178_91, e179_92]; first | exact LQ_0 hlq (by assumption) (by assumption) | exact LQ_s hlq (fun i j h1 h2 h3 => by have k9 := hlb i j h1 h2 (by omega); omega)), (by rewrite [e180_91]; first | exact h91f | (intro j hj; exact fup_ne _ _ hj)), (by rewrite [e181_84, e182_85]; first | exact pki | (intro j hj; exact ⟨rfl, rfl⟩))⟩
set_option maxRecDepth 20000 in
theorem s_readBand_k (b : Int) (h : Hp_) (hT : TY h) (hb : 0 ≤ b ∧ b ≤ 9) (htb : TBL (h 74) (h 75)) (hps : IS (fun q => (h 102) (3 * b + q)) ((h 103) b) ≤ 4400) (hpa : ∀ k : Int, 0 ≤ k → k < (h 103) b → (h 101) (3 * b + k) + (h 102) (3 * b + k) ≤ 4400) : Ctr yX12_readBand cX12_readBand 5 none (rmd 9) ly ly 0 0 [vR 73, vI b] h (fun r h' => (TY h' ∧ FRM [73, 84, 85, 93, 94, 95, 96, 97, 98, 99] [26, 27, 28, 29, 32, 33, 34, 36, 38, 39] h h') ∧ r = none ∧ (∀ j : Int, j < 640 → (h' 84) j = (h 84) j ∧ (h' 85) j = (h 85) j)) := by
  refine Ctr_of (by decide) (Nat.le_of_ble_eq_true rfl) ⟨Nat.le_refl _, Nat.le_refl _⟩ (fun K hK hQ _ => ?_)
  show TT K ly 0 0 0 [(0, vR 73), (1, vI b)] [] h
  have hF : FRM [73, 84, 85, 93, 94, 95, 96, 97, 98, 99] [26, 27, 28, 29, 32, 33, 34, 36, 38, 39] h h := FRM_rf _ _ _
  have r3 := ty_103 (i := b) (v := h 103 b) hT rfl (by omega) (by omega)
  have szn : ∀ k : Int, 0 ≤ k → k < h 103 b → 0 ≤ h 102 (3 * b + k) := fun k h1 h2 => (ty_102 (i := 3 * b + k) hT rfl (by omega) (by omega)).1
  refine TT_iconst hK dX12_readBand_0 ?_
  refine TT_istore_n hK rfl (lv' := [(2, vI 0), (0, vR 73), (1, vI b)]) (by decide) rfl dX12_readBand_1 ?_
  refine TT_iconst hK dX12_readBand_2 ?_
  refine TT_iload_n hK rfl 2 rfl dX12_readBand_3 ?_
  refine TT_imul hK dX12_readBand_4 ?_
  refine TT_istore_n hK rfl (lv' := [(3, vI (3 * b)), (2, vI 0), (0, vR 73), (1, vI b)]) (by decide) rfl dX12_readBand_5 ?_
  have L6_1 : ∀ (k1 : Nat) (n : Int) (k : Int) (w6_1 : Hp_), TY w6_1 → FRM [73, 84, 85, 93, 94, 95, 96, 97, 98, 99] [26, 27, 28, 29, 32, 33, 34, 36, 38, 39] h w6_1 → (3 * b ≤ k ∧ k ≤ 3 * b + h 103 b) → (0 ≤ n ∧ n ≤ 4400) → (n = IS (fun q => h 102 (3 * b + q)) (k - 3 * b)) → (∀ j : Int, j < 640 → (w6_1 84) j = h 84 j ∧ (w6_1 85) j = h 85 j) → (3 * b + h 103 b - k).toNat < k1 → TT K ly 0 0 6 [(0, vR 73), (1, vI b), (2, vI n), (3, vI k)] [] w6_1 := by
    intro k1
    induction k1 with
    | zero => intro n k w6_1 hT6_1 hF6_1 hk hn hns pki hk1; exact absurd hk1 (Nat.not_lt_zero _)
    | succ k1 ih1 =>
      intro n k w6_1 hT6_1 hF6_1 hk hn hns pki hk1
      refine TT_iload_n hK rfl 3 rfl dX12_readBand_6 ?_
      refine TT_iconst hK dX12_readBand_7 ?_
      refine TT_iload_n hK rfl 1 rfl dX12_readBand_8 ?_
      refine TT_imul hK dX12_readBand_9 ?_
      refine TT_aload_n hK rfl 0 rfl dX12_readBand_10 ?_
      refine gf_X12_105 hK (by decide) rfl (q := 103) rfl rfl dX12_readBand_11 ?_
      refine TT_iload_n hK rfl 1 rfl dX12_readBand_14 ?_
      refine TT_iald hK (o := 103) (n := 10) (by decide) rfl (by first | omega | (simp [up, setR] <;> omega)) (by first | omega | (simp [up, setR] <;> omega)) (v := (h 103) b) (rd_ (hF6_1.1 103 (by decide)) rfl) dX12_readBand_15 ?_
      have r2 := ty_103 (i := b) (v := (h 103) b) hT6_1 (rd_ (hF6_1.1 103 (by decide)) rfl) (by omega) (by omega)
      refine TT_iadd hK dX12_readBand_16 ?_
      refine TT_icmp_ge hK (tgt := 69) (irm (by omega) (by omega)) (irm (by omega) (by omega)) dX12_readBand_17 (by decide) (fun hb17_3 => ?_) (fun hb17_3 => ?_)
      · refine TT_aload_n hK rfl 0 rfl dX12_readBand_69 ?_
        refine TT_iload_n hK rfl 2 rfl dX12_readBand_70 ?_
        refine TT_iconst hK dX12_readBand_71 ?_
        refine iv_X12_308 hK (s_X12_beginReading_73 n 1 w6_1 hT6_1 (by first | omega | (simp [up, setR] <;> omega)) (by first | omega | (simp [up, setR] <;> omega))) (by decide) rfl ⟨by decide, by decide⟩ (by decide) rfl rfl (Nat.le_of_ble_eq_true rfl) ⟨by decide, by decide⟩ dX12_readBand_72 ?_
        intro r9 g72_4 hp9
        obtain ⟨⟨hT_4, hG_4⟩, hr9, p1_4, p2_4⟩ := hp9
        rw [hr9]
        have hF_4 : FRM [73, 84, 85, 93, 94, 95, 96, 97, 98, 99] [26, 27, 28, 29, 32, 33, 34, 36, 38, 39] h g72_4 := FRM_tr hF6_1 hG_4 (by decide) (by decide)
        show TT K ly 0 0 75 [(0, vR 73), (1, vI b), (2, vI n), (3, vI k)] [] g72_4
        refine TT_aload_n hK rfl 0 rfl dX12_readBand_75 ?_
        refine TT_bipush hK (by decide) dX12_readBand_76 ?_
        refine TT_iload_n hK rfl 1 rfl dX12_readBand_78 ?_
        refine TT_iadd hK dX12_readBand_79 ?_
        refine TT_aload_n hK rfl 0 rfl dX12_readBand_80 ?_
        refine gf_X12_57 hK (by decide) rfl (q := 87) rfl rfl dX12_readBand_81 ?_
        refine TT_bipush hK (by decide) dX12_readBand_84 ?_
        refine TT_iload_n hK rfl 1 rfl dX12_readBand_86 ?_
        refine TT_iadd hK dX12_readBand_87 ?_
        refine TT_iald hK (o := 87) (n := 20) (by decide) rfl (by first | omega | (simp [up, setR] <;> omega)) (by first | omega | (simp [up, setR] <;> omega)) (v := (h 87) (10 + b)) (rd_ (((hG_4.1 87 (by decide))).trans (hF6_1.1 87 (by decide))) rfl) dX12_readBand_88 ?_
        have r5 := ty_87 (i := 10 + b) (v := (h 87) (10 + b)) hT_4 (rd_ (((hG_4.1 87 (by decide))).trans (hF6_1.1 87 (by decide))) rfl) (by omega) (by omega)
        have e6_74 : g72_4 74 = h 74 := ((hG_4.1 74 (by decide))).trans (hF6_1.1 74 (by decide))
        have e7_75 : g72_4 75 = h 75 := ((hG_4.1 75 (by decide))).trans (hF6_1.1 75 (by decide))
        have e8_73_32 : g72_4 73 32 = (g72_4 73) 32 := rfl
        have e9_73_29 : g72_4 73 29 = (g72_4 73) 29 := rfl
        have e10_73_29 : g72_4 73 29 = (g72_4 73) 29 := rfl
        have e11_73_34 : g72_4 73 34 = (g72_4 73) 34 := rfl
        have e12_73_36 : g72_4 73 36 = (w6_1 73) 36 := (hG_4.2 36 (by decide))
        have e13_80 : g72_4 80 = h 80 := ((hG_4.1 80 (by decide))).trans (hF6_1.1 80 (by decide))
        have e14_81 : g72_4 81 = h 81 := ((hG_4.1 81 (by decide))).trans (hF6_1.1 81 (by decide))
        refine iv_X12_299 hK (s_walk_k (10 + b) ((h 87) (10 + b)) g72_4 hT_4 (by first | omega | (simp [up, setR] <;> omega)) (by first | omega | (simp [up, setR] <;> omega)) (by rewrite [e6_74, e7_75]; first | assumption | exact htb) (by rewrite [e8_73_32]; first | omega | (simp [up, setR] <;> omega)) (by rewrite [e9_73_29]; first | omega | (simp [up, setR] <;> omega)) (by rewrite [e10_73_29, e11_73_34, e12_73_36, e13_80, e14_81]; first | omega | (simp [up, setR] <;> omega))) (by decide) rfl ⟨by decide, by decide⟩ (by decide) rfl rfl (Nat.le_of_ble_eq_true rfl) ⟨by decide, by decide⟩ dX12_readBand_89 ?_
        intro r9 g89_15 hp9
        obtain ⟨⟨hT_15, hG_15⟩, hr9, pa_15, pm_15, pk_15⟩ := hp9
        rw [hr9]
        have hF_15 : FRM [73, 84, 85, 93, 94, 95, 96, 97, 98, 99] [26, 27, 28, 29, 32, 33, 34, 36, 38, 39] h g89_15 := FRM_tr hF_4 hG_15 (by decide) (by decide)
        rw [show g72_4 73 29 = (g72_4 73) 29 from rfl] at pm_15
        rw [show g72_4 73 34 = (g72_4 73) 34 from rfl] at pm_15
        rw [show g72_4 73 36 = (w6_1 73) 36 from (hG_4.2 36 (by decide))] at pm_15
        rw [show g72_4 80 = h 80 from ((hG_4.1 80 (by decide))).trans (hF6_1.1 80 (by decide))] at pm_15
        rw [show g72_4 81 = h 81 from ((hG_4.1 81 (by decide))).trans (hF6_1.1 81 (by decide))] at pm_15
        rw [show g72_4 84 = w6_1 84 from (hG_4.1 84 (by decide))] at pk_15
        rw [show g72_4 85 = w6_1 85 from (hG_4.1 85 (by decide))] at pk_15
        have pk_at89 := pk_15
        show TT K ly 0 0 92 [(0, vR 73), (1, vI b), (2, vI n), (3, vI k)] [] g89_15
        refine TT_vret hK hQ ?_ dX12_readBand_92
        exact ⟨⟨hT_15, hF_15⟩, rfl, (by (intro j hj; have k1 := pk_at89 j hj; have k2 := pki j hj; exact ⟨k1.1.trans k2.1, k1.2.trans k2.2⟩))⟩
      · have is1 : IS (fun q => h 102 (3 * b + q)) (k - 3 * b + 1) = IS (fun q => h 102 (3 * b + q)) (k - 3 * b) + h 102 (3 * b + (k - 3 * b)) := IS_s (by omega)
        rw [show 3 * b + (k - 3 * b) = k by omega] at is1
        have im := IS_mono (f := fun q => h 102 (3 * b + q)) (b := k - 3 * b + 1) (c := h 103 b) (by omega) (by omega) szn
        have pa := hpa (k - 3 * b) (by omega) (by omega)
        rw [show 3 * b + (k - 3 * b) = k by omega] at pa
        have sz0 := szn (k - 3 * b) (by omega) (by omega)
        rw [show 3 * b + (k - 3 * b) = k by omega] at sz0
        refine TT_iconst hK dX12_readBand_20 ?_
        refine TT_istore hK (lv' := [(4, vI 0), (0, vR 73), (1, vI b), (2, vI n), (3, vI k)]) (by decide) rfl dX12_readBand_21 ?_
        have L23_16 : ∀ (k16 : Nat) (n2 : Int) (i : Int) (w23_16 : Hp_), TY w23_16 → FRM [73, 84, 85, 93, 94, 95, 96, 97, 98, 99] [26, 27, 28, 29, 32, 33, 34, 36, 38, 39] h w23_16 → (0 ≤ i ∧ i ≤ h 102 k) → (n2 = n + i) → (∀ j : Int, j < 640 → (w23_16 84) j = h 84 j ∧ (w23_16 85) j = h 85 j) → (h 102 k - i).toNat < k16 → TT K ly 0 0 23 [(0, vR 73), (1, vI b), (2, vI n2), (3, vI k), (4, vI i)] [] w23_16 := by
          intro k16
          induction k16 with
          | zero => intro n2 i w23_16 hT23_16 hF23_16 hi hn2 pki hk16; exact absurd hk16 (Nat.not_lt_zero _)
          | succ k16 ih16 =>
            intro n2 i w23_16 hT23_16 hF23_16 hi hn2 pki hk16
            refine TT_iload hK 4 rfl dX12_readBand_23 ?_
            refine TT_aload_n hK rfl 0 rfl dX12_readBand_25 ?_
            refine gf_X12_102 hK (by decide) rfl (q := 102) rfl rfl dX12_readBand_26 ?_
            refine TT_iload_n hK rfl 3 rfl dX12_readBand_29 ?_
            refine TT_iald hK (o := 102) (n := 30) (by decide) rfl (by first | omega | (simp [up, setR] <;> omega)) (by first | omega | (simp [up, setR] <;> omega)) (v := (h 102) k) (rd_ (hF23_16.1 102 (by decide)) rfl) dX12_readBand_30 ?_
            have r17 := ty_102 (i := k) (v := (h 102) k) hT23_16 (rd_ (hF23_16.1 102 (by decide)) rfl) (by omega) (by omega)
            refine TT_icmp_ge hK (tgt := 63) (irm (by omega) (by omega)) (irm (by omega) (by omega)) dX12_readBand_31 (by decide) (fun hb31_18 => ?_) (fun hb31_18 => ?_)
            · refine TT_iinc hK (v := k + 1) (lv' := [(3, vI (k + 1)), (0, vR 73), (1, vI b), (2, vI n2), (4, vI i)]) 3 rfl rfl (by decide) rfl dX12_readBand_63 ?_
              refine TT_goto hK (tgt := 6) dX12_readBand_66 (by decide) ?_
              refine TT_sub [1, 2, 3, 0] rfl ?_
              exact ih1 n2 (k + 1) w23_16 hT23_16 hF23_16 (by first | omega | (simp [up, setR] <;> omega)) (by first | omega | (simp [up, setR] <;> omega)) (by rw [show k + 1 - 3 * b = k - 3 * b + 1 by omega]; omega) (by exact pki) (by first | omega | (simp [up, setR] <;> omega))
            · refine TT_aload_n hK rfl 0 rfl dX12_readBand_34 ?_
              refine gf_X12_93 hK (by decide) rfl (q := 99) rfl rfl dX12_readBand_35 ?_
              refine TT_iload_n hK rfl 2 rfl dX12_readBand_38 ?_
              refine TT_aload_n hK rfl 0 rfl dX12_readBand_39 ?_
              refine gf_X12_96 hK (by decide) rfl (q := 100) rfl rfl dX12_readBand_40 ?_
              refine TT_aload_n hK rfl 0 rfl dX12_readBand_43 ?_
              refine gf_X12_99 hK (by decide) rfl (q := 101) rfl rfl dX12_readBand_44 ?_
              refine TT_iload_n hK rfl 3 rfl dX12_readBand_47 ?_
              refine TT_iald hK (o := 101) (n := 30) (by decide) rfl (by first | omega | (simp [up, setR] <;> omega)) (by first | omega | (simp [up, setR] <;> omega)) (v := (h 101) k) (rd_ (hF23_16.1 101 (by decide)) rfl) dX12_readBand_48 ?_
              have r19 := ty_101 (i := k) (v := (h 101) k) hT23_16 (rd_ (hF23_16.1 101 (by decide)) rfl) (by omega) (by omega)
              refine TT_iload hK 4 rfl dX12_readBand_49 ?_
              refine TT_iadd hK dX12_readBand_51 ?_
              refine TT_iald hK (o := 100) (n := 4700) (by decide) rfl (by first | omega | (simp [up, setR] <;> omega)) (by first | omega | (simp [up, setR] <;> omega)) (v := (h 100) (((h 101) k) + i)) (rd_ (hF23_16.1 100 (by decide)) rfl) dX12_readBand_52 ?_
              have r20 := ty_100 (i := ((h 101) k) + i) (v := (h 100) (((h 101) k) + i)) hT23_16 (rd_ (hF23_16.1 100 (by decide)) rfl) (by omega) (by omega)
              refine TT_iast hK (o := 99) (n := 4400) (by decide) rfl (by omega) (by omega) dX12_readBand_53 ?_
              refine TT_hp (h' := setO w23_16 99 (fup (w23_16 99) n2 ((h 100) (((h 101) k) + i)))) (up_can rfl rfl rfl) ?_
              have hT_21 : TY (setO w23_16 99 (fup (w23_16 99) n2 ((h 100) (((h 101) k) + i)))) := tu_99 hT23_16 (show up w23_16 99 n2 ((h 100) (((h 101) k) + i)) = (setO w23_16 99 (fup (w23_16 99) n2 ((h 100) (((h 101) k) + i)))) from up_can rfl rfl rfl) (by omega)
              have hF_21 : FRM [73, 84, 85, 93, 94, 95, 96, 97, 98, 99] [26, 27, 28, 29, 32, 33, 34, 36, 38, 39] h (setO w23_16 99 (fup (w23_16 99) n2 ((h 100) (((h 101) k) + i)))) := FRM_up (show up w23_16 99 n2 ((h 100) (((h 101) k) + i)) = (setO w23_16 99 (fup (w23_16 99) n2 ((h 100) (((h 101) k) + i)))) from up_can rfl rfl rfl) hF23_16 (by decide) (by decide)
              refine TT_iinc hK (v := n2 + 1) (lv' := [(2, vI (n2 + 1)), (0, vR 73), (1, vI b), (3, vI k), (4, vI i)]) 2 rfl rfl (by decide) rfl dX12_readBand_54 ?_
              refine TT_iinc hK (v := i + 1) (lv' := [(4, vI (i + 1)), (2, vI (n2 + 1)), (0, vR 73), (1, vI b), (3, vI k)]) 4 rfl rfl (by decide) rfl dX12_readBand_57 ?_
              refine TT_goto hK (tgt := 23) dX12_readBand_60 (by decide) ?_
              refine TT_sub [2, 3, 1, 4, 0] rfl ?_
              have e22_84 : (setO w23_16 99 (fup (w23_16 99) n2 ((h 100) (((h 101) k) + i)))) 84 = w23_16 84 := sOf_ne _ _ (by decide)
              have e23_85 : (setO w23_16 99 (fup (w23_16 99) n2 ((h 100) (((h 101) k) + i)))) 85 = w23_16 85 := sOf_ne _ _ (by decide)
              exact ih16 (n2 + 1) (i + 1) (setO w23_16 99 (fup (w23_16 99) n2 ((h 100) (((h 101) k) + i)))) hT_21 hF_21 (by first | omega | (simp [up, setR] <;> omega)) (by first | omega | (simp [up, setR] <;> omega)) (by rewrite [e22_84, e23_85]; exact pki) (by first | omega | (simp [up, setR] <;> omega))
        refine TT_sub [1, 2, 3, 4, 0] rfl ?_
        exact L23_16 (((h 102 k - 0).toNat) + 1) n 0 w6_1 hT6_1 hF6_1 (by first | omega | (simp [up, setR] <;> omega)) (by first | omega | (simp [up, setR] <;> omega)) (by exact pki) (Nat.lt_succ_self _)
  refine TT_sub [2, 3, 1, 0] rfl ?_
  exact L6_1 (((3 * b + h 103 b - (3 * b)).toNat) + 1) 0 (3 * b) h hT hF (by first | omega | (simp [up, setR] <;> omega)) (by first | omega | (simp [up, setR] <;> omega)) (by rw [show 3 * b - 3 * b = 0 by omega]; rfl) (by (intro j hj; exact ⟨rfl, rfl⟩)) (Nat.lt_succ_self _)

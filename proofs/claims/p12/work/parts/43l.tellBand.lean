set_option maxRecDepth 20000 in
theorem s_X12_tellBand_73 (b f : Int) (h : Hp_) (hT : TY h) (hb : 0 ≤ b ∧ b ≤ 9) (hf : 0 ≤ f ∧ f + 48 * ((h 80) b * (h 81) b) + 30 ≤ 4400) (htb : TBL (h 74) (h 75)) (hmi : MIQ (h 90) (h 91)) (hlq : LQ (h 83) (h 91) (h 92) b) : Ctr yX12_tellBand cX12_tellBand 5 none (rmd 9) ly ly 0 0 [vR 73, vI b, vI f] h (fun r h' => (TY h' ∧ FRM [73, 83, 84, 85, 89, 90, 91, 92, 93, 94, 95, 96, 97, 98, 99] [26, 27, 28, 29, 32, 33, 34, 36, 38, 39] h h') ∧ r = none ∧ ((h' 91) b ≤ 48 * ((h 80) b * (h 81) b) + 30) ∧ (MIQ (h' 90) (h' 91)) ∧ (LQ (h' 83) (h' 91) (h' 92) (b + 1)) ∧ (∀ j : Int, j ≠ b → (h' 91) j = (h 91) j)) := by
  refine Ctr_of (by decide) (Nat.le_of_ble_eq_true rfl) ⟨Nat.le_refl _, Nat.le_refl _⟩ (fun K hK hQ _ => ?_)
  show TT K ly 0 0 0 [(0, vR 73), (1, vI b), (2, vI f)] [] h
  have hF : FRM [73, 83, 84, 85, 89, 90, 91, 92, 93, 94, 95, 96, 97, 98, 99] [26, 27, 28, 29, 32, 33, 34, 36, 38, 39] h h := FRM_rf _ _ _
  have rw0 := ty_80 (i := b) (v := h 80 b) hT rfl (by omega) (by omega)
  have re0 := ty_81 (i := b) (v := h 81 b) hT rfl (by omega) (by omega)
  have ra0 : 0 ≤ h 80 b * h 81 b := Int.mul_nonneg rw0.1 re0.1
  have ra1 := A64 rw0 re0
  refine TT_aload_n hK rfl 0 rfl dX12_tellBand_0 ?_
  refine TT_iload_n hK rfl 1 rfl dX12_tellBand_1 ?_
  refine iv_X12_290 hK (s_X12_findPlanes_73 b h hT (by first | omega | (simp [up, setR] <;> omega))) (by decide) rfl ⟨by decide, by decide⟩ (by decide) rfl rfl (Nat.le_of_ble_eq_true rfl) ⟨by decide, by decide⟩ dX12_tellBand_2 ?_
  intro r9 g2_1 hp9
  obtain ⟨⟨hT_1, hG_1⟩, hr9, q1_1⟩ := hp9
  rw [hr9]
  have hF_1 : FRM [73, 83, 84, 85, 89, 90, 91, 92, 93, 94, 95, 96, 97, 98, 99] [26, 27, 28, 29, 32, 33, 34, 36, 38, 39] h g2_1 := FRM_tr hF hG_1 (by decide) (by decide)
  have q1_at2 := q1_1
  show TT K ly 0 0 5 [(0, vR 73), (1, vI b), (2, vI f)] [] g2_1
  refine TT_aload_n hK rfl 0 rfl dX12_tellBand_5 ?_
  refine gf_X12_66 hK (by decide) rfl (q := 90) rfl rfl dX12_tellBand_6 ?_
  refine TT_iload_n hK rfl 1 rfl dX12_tellBand_9 ?_
  refine TT_iload_n hK rfl 2 rfl dX12_tellBand_10 ?_
  refine TT_iast hK (o := 90) (n := 10) (by decide) rfl (by omega) (by omega) dX12_tellBand_11 ?_
  refine TT_hp (h' := setO g2_1 90 (fup (h 90) b f)) (up_can (hG_1.1 90 (by decide)) rfl rfl) ?_
  have hT_2 : TY (setO g2_1 90 (fup (h 90) b f)) := tu_90 hT_1 (show up g2_1 90 b f = (setO g2_1 90 (fup (h 90) b f)) from up_can (hG_1.1 90 (by decide)) rfl rfl) (by omega)
  have hF_2 : FRM [73, 83, 84, 85, 89, 90, 91, 92, 93, 94, 95, 96, 97, 98, 99] [26, 27, 28, 29, 32, 33, 34, 36, 38, 39] h (setO g2_1 90 (fup (h 90) b f)) := FRM_up (show up g2_1 90 b f = (setO g2_1 90 (fup (h 90) b f)) from up_can (hG_1.1 90 (by decide)) rfl rfl) hF_1 (by decide) (by decide)
  refine TT_aload_n hK rfl 0 rfl dX12_tellBand_12 ?_
  refine gf_X12_69 hK (by decide) rfl (q := 91) rfl rfl dX12_tellBand_13 ?_
  refine TT_iload_n hK rfl 1 rfl dX12_tellBand_16 ?_
  refine TT_iconst hK dX12_tellBand_17 ?_
  refine TT_iast hK (o := 91) (n := 10) (by decide) rfl (by omega) (by omega) dX12_tellBand_18 ?_
  refine TT_hp (h' := setO (setO g2_1 90 (fup (h 90) b f)) 91 (fup (h 91) b 0)) (up_can ((sOf_ne _ _ (by decide)).trans (hG_1.1 91 (by decide))) rfl rfl) ?_
  have hT_3 : TY (setO (setO g2_1 90 (fup (h 90) b f)) 91 (fup (h 91) b 0)) := tu_91 hT_2 (show up (setO g2_1 90 (fup (h 90) b f)) 91 b 0 = (setO (setO g2_1 90 (fup (h 90) b f)) 91 (fup (h 91) b 0)) from up_can ((sOf_ne _ _ (by decide)).trans (hG_1.1 91 (by decide))) rfl rfl) (by omega)
  have hF_3 : FRM [73, 83, 84, 85, 89, 90, 91, 92, 93, 94, 95, 96, 97, 98, 99] [26, 27, 28, 29, 32, 33, 34, 36, 38, 39] h (setO (setO g2_1 90 (fup (h 90) b f)) 91 (fup (h 91) b 0)) := FRM_up (show up (setO g2_1 90 (fup (h 90) b f)) 91 b 0 = (setO (setO g2_1 90 (fup (h 90) b f)) 91 (fup (h 91) b 0)) from up_can ((sOf_ne _ _ (by decide)).trans (hG_1.1 91 (by decide))) rfl rfl) hF_2 (by decide) (by decide)
  refine TT_aload_n hK rfl 0 rfl dX12_tellBand_19 ?_
  refine gf_X12_72 hK (by decide) rfl (q := 92) rfl rfl dX12_tellBand_20 ?_
  refine TT_bipush hK (by decide) dX12_tellBand_23 ?_
  refine TT_iload_n hK rfl 1 rfl dX12_tellBand_25 ?_
  refine TT_imul hK dX12_tellBand_26 ?_
  refine TT_iconst hK dX12_tellBand_27 ?_
  refine TT_iast hK (o := 92) (n := 350) (by decide) rfl (by omega) (by omega) dX12_tellBand_28 ?_
  refine TT_hp (h' := setO (setO (setO g2_1 90 (fup (h 90) b f)) 91 (fup (h 91) b 0)) 92 (fup (h 92) (35 * b) 0)) (up_can ((sOf_ne _ _ (by decide)).trans ((sOf_ne _ _ (by decide)).trans (hG_1.1 92 (by decide)))) rfl rfl) ?_
  have hT_4 : TY (setO (setO (setO g2_1 90 (fup (h 90) b f)) 91 (fup (h 91) b 0)) 92 (fup (h 92) (35 * b) 0)) := tu_92 hT_3 (show up (setO (setO g2_1 90 (fup (h 90) b f)) 91 (fup (h 91) b 0)) 92 (35 * b) 0 = (setO (setO (setO g2_1 90 (fup (h 90) b f)) 91 (fup (h 91) b 0)) 92 (fup (h 92) (35 * b) 0)) from up_can ((sOf_ne _ _ (by decide)).trans ((sOf_ne _ _ (by decide)).trans (hG_1.1 92 (by decide)))) rfl rfl) (by omega)
  have hF_4 : FRM [73, 83, 84, 85, 89, 90, 91, 92, 93, 94, 95, 96, 97, 98, 99] [26, 27, 28, 29, 32, 33, 34, 36, 38, 39] h (setO (setO (setO g2_1 90 (fup (h 90) b f)) 91 (fup (h 91) b 0)) 92 (fup (h 92) (35 * b) 0)) := FRM_up (show up (setO (setO g2_1 90 (fup (h 90) b f)) 91 (fup (h 91) b 0)) 92 (35 * b) 0 = (setO (setO (setO g2_1 90 (fup (h 90) b f)) 91 (fup (h 91) b 0)) 92 (fup (h 92) (35 * b) 0)) from up_can ((sOf_ne _ _ (by decide)).trans ((sOf_ne _ _ (by decide)).trans (hG_1.1 92 (by decide)))) rfl rfl) hF_3 (by decide) (by decide)
  refine TT_aload_n hK rfl 0 rfl dX12_tellBand_29 ?_
  refine gf_X12_44 hK (by decide) rfl (q := 83) rfl rfl dX12_tellBand_30 ?_
  refine TT_iload_n hK rfl 1 rfl dX12_tellBand_33 ?_
  refine TT_iald hK (o := 83) (n := 20) (by decide) rfl (by first | omega | (simp [up, setR] <;> omega)) (by first | omega | (simp [up, setR] <;> omega)) (v := (g2_1 83) b) (rd_ ((sOf_ne _ _ (by decide)).trans ((sOf_ne _ _ (by decide)).trans (sOf_ne _ _ (by decide)))) rfl) dX12_tellBand_34 ?_
  have r5 := ty_83 (i := b) (v := (g2_1 83) b) hT_4 (rd_ ((sOf_ne _ _ (by decide)).trans ((sOf_ne _ _ (by decide)).trans (sOf_ne _ _ (by decide)))) rfl) (by omega) (by omega)
  refine TT_if_ne hK (tgt := 39) (irm (by omega) (by omega)) dX12_tellBand_35 (by decide) (fun hb35_6 => ?_) (fun hb35_6 => ?_)
  · refine TT_aload_n hK rfl 0 rfl dX12_tellBand_39 ?_
    refine iv_X12_293 hK (s_X12_beginTelling_73 (setO (setO (setO g2_1 90 (fup (h 90) b f)) 91 (fup (h 91) b 0)) 92 (fup (h 92) (35 * b) 0)) hT_4 ) (by decide) rfl ⟨by decide, by decide⟩ (by decide) rfl rfl (Nat.le_of_ble_eq_true rfl) ⟨by decide, by decide⟩ dX12_tellBand_40 ?_
    intro r9 g40_7 hp9
    obtain ⟨⟨hT_7, hG_7⟩, hr9, p1_7, p2_7, p3_7, p4_7⟩ := hp9
    rw [hr9]
    have hF_7 : FRM [73, 83, 84, 85, 89, 90, 91, 92, 93, 94, 95, 96, 97, 98, 99] [26, 27, 28, 29, 32, 33, 34, 36, 38, 39] h g40_7 := FRM_tr hF_4 hG_7 (by decide) (by decide)
    show TT K ly 0 0 43 [(0, vR 73), (1, vI b), (2, vI f)] [] g40_7
    refine TT_aload_n hK rfl 0 rfl dX12_tellBand_43 ?_
    refine TT_iload_n hK rfl 1 rfl dX12_tellBand_44 ?_
    refine TT_aload_n hK rfl 0 rfl dX12_tellBand_45 ?_
    refine TT_iload_n hK rfl 1 rfl dX12_tellBand_46 ?_
    refine iv_X12_296 hK (s_passesOf_x b g40_7 hT_7 (by first | omega | (simp [up, setR] <;> omega))) (by decide) rfl ⟨by decide, by decide⟩ (by decide) rfl rfl (Nat.le_of_ble_eq_true rfl) ⟨by decide, by decide⟩ dX12_tellBand_47 ?_
    intro r9 g47_8 hp9
    obtain ⟨⟨hT_8, hG_8⟩, z47_8, hr9, hz_8, p1_8, p2_8⟩ := hp9
    rw [hr9]
    have hF_8 : FRM [73, 83, 84, 85, 89, 90, 91, 92, 93, 94, 95, 96, 97, 98, 99] [26, 27, 28, 29, 32, 33, 34, 36, 38, 39] h g47_8 := FRM_tr hF_7 hG_8 (by decide) (by decide)
    rw [show g40_7 83 = g2_1 83 from ((hG_7.1 83 (by decide))).trans ((sOf_ne _ _ (by decide)).trans ((sOf_ne _ _ (by decide)).trans (sOf_ne _ _ (by decide))))] at p2_8
    show TT K ly 0 0 50 [(0, vR 73), (1, vI b), (2, vI f)] [vI z47_8, vI b, vR 73] g47_8
    have z1 := PhS_r (g40_7 96)
    have v1 : z47_8 * (h 80 b * h 81 b) ≤ 34 * (h 80 b * h 81 b) := Int.mul_le_mul_of_nonneg_right (by omega) ra0
    have e9_74 : g47_8 74 = h 74 := ((hG_8.1 74 (by decide))).trans (((hG_7.1 74 (by decide))).trans ((sOf_ne _ _ (by decide)).trans ((sOf_ne _ _ (by decide)).trans ((sOf_ne _ _ (by decide)).trans (hG_1.1 74 (by decide))))))
    have e10_75 : g47_8 75 = h 75 := ((hG_8.1 75 (by decide))).trans (((hG_7.1 75 (by decide))).trans ((sOf_ne _ _ (by decide)).trans ((sOf_ne _ _ (by decide)).trans ((sOf_ne _ _ (by decide)).trans (hG_1.1 75 (by decide))))))
    have e11_73_32 : g47_8 73 32 = (g40_7 73) 32 := congrFun (hG_8.1 73 (by decide)) 32
    have e12_73_29 : g47_8 73 29 = (g40_7 73) 29 := congrFun (hG_8.1 73 (by decide)) 29
    have e13_73_29 : g47_8 73 29 = (g40_7 73) 29 := congrFun (hG_8.1 73 (by decide)) 29
    have e14_73_34 : g47_8 73 34 = (g40_7 73) 34 := congrFun (hG_8.1 73 (by decide)) 34
    have e15_73_36 : g47_8 73 36 = (g40_7 73) 36 := congrFun (hG_8.1 73 (by decide)) 36
    have e16_80 : g47_8 80 = h 80 := ((hG_8.1 80 (by decide))).trans (((hG_7.1 80 (by decide))).trans ((sOf_ne _ _ (by decide)).trans ((sOf_ne _ _ (by decide)).trans ((sOf_ne _ _ (by decide)).trans (hG_1.1 80 (by decide))))))
    have e17_81 : g47_8 81 = h 81 := ((hG_8.1 81 (by decide))).trans (((hG_7.1 81 (by decide))).trans ((sOf_ne _ _ (by decide)).trans ((sOf_ne _ _ (by decide)).trans ((sOf_ne _ _ (by decide)).trans (hG_1.1 81 (by decide))))))
    have e18_96 : g47_8 96 = g40_7 96 := (hG_8.1 96 (by decide))
    refine iv_X12_299 hK (s_X12_walk_73 b z47_8 g47_8 hT_8 (by first | omega | (simp [up, setR] <;> omega)) (by first | omega | (simp [up, setR] <;> omega)) (by rewrite [e9_74, e10_75]; first | assumption | exact htb) (by rewrite [e11_73_32]; first | omega | (simp [up, setR] <;> omega)) (by rewrite [e12_73_29]; first | omega | (simp [up, setR] <;> omega)) (by rewrite [e13_73_29, e14_73_34, e15_73_36, e16_80, e17_81, e18_96]; first | omega | (simp [up, setR] <;> omega))) (by decide) rfl ⟨by decide, by decide⟩ (by decide) rfl rfl (Nat.le_of_ble_eq_true rfl) ⟨by decide, by decide⟩ dX12_tellBand_50 ?_
    intro r9 g50_19 hp9
    obtain ⟨⟨hT_19, hG_19⟩, hr9, pa_19, pm_19⟩ := hp9
    rw [hr9]
    have hF_19 : FRM [73, 83, 84, 85, 89, 90, 91, 92, 93, 94, 95, 96, 97, 98, 99] [26, 27, 28, 29, 32, 33, 34, 36, 38, 39] h g50_19 := FRM_tr hF_8 hG_19 (by decide) (by decide)
    rw [show g47_8 73 29 = (g40_7 73) 29 from congrFun (hG_8.1 73 (by decide)) 29] at pm_19
    rw [show g47_8 73 34 = (g40_7 73) 34 from congrFun (hG_8.1 73 (by decide)) 34] at pm_19
    rw [show g47_8 73 36 = (g40_7 73) 36 from congrFun (hG_8.1 73 (by decide)) 36] at pm_19
    rw [show g47_8 80 = h 80 from ((hG_8.1 80 (by decide))).trans (((hG_7.1 80 (by decide))).trans ((sOf_ne _ _ (by decide)).trans ((sOf_ne _ _ (by decide)).trans ((sOf_ne _ _ (by decide)).trans (hG_1.1 80 (by decide))))))] at pm_19
    rw [show g47_8 81 = h 81 from ((hG_8.1 81 (by decide))).trans (((hG_7.1 81 (by decide))).trans ((sOf_ne _ _ (by decide)).trans ((sOf_ne _ _ (by decide)).trans ((sOf_ne _ _ (by decide)).trans (hG_1.1 81 (by decide))))))] at pm_19
    rw [show g47_8 96 = g40_7 96 from (hG_8.1 96 (by decide))] at pm_19
    show TT K ly 0 0 53 [(0, vR 73), (1, vI b), (2, vI f)] [] g50_19
    refine TT_aload_n hK rfl 0 rfl dX12_tellBand_53 ?_
    have z2 := PhS_r (g50_19 96)
    have q34 := ty_73_34 (v := g50_19 73 34) hT_19 rfl
    have e20_73_36 : g50_19 73 36 = (g50_19 73) 36 := rfl
    refine iv_X12_302 hK (s_X12_endTelling_73 g50_19 hT_19 (by rewrite [e20_73_36]; first | omega | (simp [up, setR] <;> omega))) (by decide) rfl ⟨by decide, by decide⟩ (by decide) rfl rfl (Nat.le_of_ble_eq_true rfl) ⟨by decide, by decide⟩ dX12_tellBand_54 ?_
    intro r9 g54_21 hp9
    obtain ⟨⟨hT_21, hG_21⟩, hr9, p1_21⟩ := hp9
    rw [hr9]
    have hF_21 : FRM [73, 83, 84, 85, 89, 90, 91, 92, 93, 94, 95, 96, 97, 98, 99] [26, 27, 28, 29, 32, 33, 34, 36, 38, 39] h g54_21 := FRM_tr hF_19 hG_21 (by decide) (by decide)
    rw [show g50_19 73 36 = (g50_19 73) 36 from rfl] at p1_21
    show TT K ly 0 0 57 [(0, vR 73), (1, vI b), (2, vI f)] [] g54_21
    refine TT_aload_n hK rfl 0 rfl dX12_tellBand_57 ?_
    refine gf_X12_69 hK (by decide) rfl (q := 91) rfl rfl dX12_tellBand_58 ?_
    refine TT_iload_n hK rfl 1 rfl dX12_tellBand_61 ?_
    refine TT_aload_n hK rfl 0 rfl dX12_tellBand_62 ?_
    refine gf_X12_166 hK (by decide) rfl (v := (g54_21 73) 36) rfl dX12_tellBand_63 ?_
    have r22 := ty_73_36 (v := (g54_21 73) 36) hT_21 rfl
    refine TT_iconst hK dX12_tellBand_66 ?_
    refine TT_isub hK dX12_tellBand_67 ?_
    refine TT_iast hK (o := 91) (n := 10) (by decide) rfl (by omega) (by omega) dX12_tellBand_68 ?_
    refine TT_hp (h' := setO g54_21 91 (fup (h 91) b (((g54_21 73) 36) - 1))) (up_can (((hG_21.1 91 (by decide))).trans (((hG_19.1 91 (by decide))).trans (((hG_8.1 91 (by decide))).trans (((hG_7.1 91 (by decide))).trans ((sOf_ne _ _ (by decide)).trans (sOf_eq _ _ _)))))) (fup_same _ _ _ _) rfl) ?_
    have hT_23 : TY (setO g54_21 91 (fup (h 91) b (((g54_21 73) 36) - 1))) := tu_91 hT_21 (show up g54_21 91 b (((g54_21 73) 36) - 1) = (setO g54_21 91 (fup (h 91) b (((g54_21 73) 36) - 1))) from up_can (((hG_21.1 91 (by decide))).trans (((hG_19.1 91 (by decide))).trans (((hG_8.1 91 (by decide))).trans (((hG_7.1 91 (by decide))).trans ((sOf_ne _ _ (by decide)).trans (sOf_eq _ _ _)))))) (fup_same _ _ _ _) rfl) (by omega)
    have hF_23 : FRM [73, 83, 84, 85, 89, 90, 91, 92, 93, 94, 95, 96, 97, 98, 99] [26, 27, 28, 29, 32, 33, 34, 36, 38, 39] h (setO g54_21 91 (fup (h 91) b (((g54_21 73) 36) - 1))) := FRM_up (show up g54_21 91 b (((g54_21 73) 36) - 1) = (setO g54_21 91 (fup (h 91) b (((g54_21 73) 36) - 1))) from up_can (((hG_21.1 91 (by decide))).trans (((hG_19.1 91 (by decide))).trans (((hG_8.1 91 (by decide))).trans (((hG_7.1 91 (by decide))).trans ((sOf_ne _ _ (by decide)).trans (sOf_eq _ _ _)))))) (fup_same _ _ _ _) rfl) hF_21 (by decide) (by decide)
    refine TT_iconst hK dX12_tellBand_69 ?_
    refine TT_istore_n hK rfl (lv' := [(3, vI 1), (0, vR 73), (1, vI b), (2, vI f)]) (by decide) rfl dX12_tellBand_70 ?_
    have L71_24 : ∀ (k24 : Nat) (k : Int) (w71_24 : Hp_), TY w71_24 → FRM [73, 83, 84, 85, 89, 90, 91, 92, 93, 94, 95, 96, 97, 98, 99] [26, 27, 28, 29, 32, 33, 34, 36, 38, 39] h w71_24 → (1 ≤ k ∧ k ≤ (w71_24 73 36)) → ((w71_24 73 36) ≤ 48 * (h 80 b * h 81 b) + 31) → ((w71_24 91) b + 1 = (w71_24 73 36)) → ((w71_24 90) b = f) → (MIQ (w71_24 90) (w71_24 91)) → (LQ (w71_24 83) (w71_24 91) (w71_24 92) b) → ((w71_24 92) (35 * b) = 0) → (∀ j : Int, j ≠ b → (w71_24 91) j = h 91 j) → ((3200 : Int) - k).toNat < k24 → TT K ly 0 0 71 [(0, vR 73), (1, vI b), (2, vI f), (3, vI k)] [] w71_24 := by
      intro k24
      induction k24 with
      | zero => intro k w71_24 hT71_24 hF71_24 hk ho hwb hwf hmi hlq hl0 h91f hk24; exact absurd hk24 (Nat.not_lt_zero _)
      | succ k24 ih24 =>
        intro k w71_24 hT71_24 hF71_24 hk ho hwb hwf hmi hlq hl0 h91f hk24
        refine TT_iload_n hK rfl 3 rfl dX12_tellBand_71 ?_
        refine TT_aload_n hK rfl 0 rfl dX12_tellBand_72 ?_
        refine gf_X12_166 hK (by decide) rfl (v := (w71_24 73) 36) rfl dX12_tellBand_73 ?_
        have r25 := ty_73_36 (v := (w71_24 73) 36) hT71_24 rfl
        refine TT_icmp_ge hK (tgt := 101) (irm (by omega) (by omega)) (irm (by omega) (by omega)) dX12_tellBand_76 (by decide) (fun hb76_26 => ?_) (fun hb76_26 => ?_)
        · refine TT_aload_n hK rfl 0 rfl dX12_tellBand_101 ?_
          refine TT_iload_n hK rfl 1 rfl dX12_tellBand_102 ?_
          refine iv_X12_305 hK (s_X12_useWord_73 b w71_24 hT71_24 (by first | omega | (simp [up, setR] <;> omega)) (by have := hmi b (by omega) (by omega); omega)) (by decide) rfl ⟨by decide, by decide⟩ (by decide) rfl rfl (Nat.le_of_ble_eq_true rfl) ⟨by decide, by decide⟩ dX12_tellBand_103 ?_
          intro r9 g103_27 hp9
          obtain ⟨⟨hT_27, hG_27⟩, hr9⟩ := hp9
          rw [hr9]
          have hF_27 : FRM [73, 83, 84, 85, 89, 90, 91, 92, 93, 94, 95, 96, 97, 98, 99] [26, 27, 28, 29, 32, 33, 34, 36, 38, 39] h g103_27 := FRM_tr hF71_24 hG_27 (by decide) (by decide)
          show TT K ly 0 0 106 [(0, vR 73), (1, vI b), (2, vI f), (3, vI k)] [] g103_27
          refine TT_iconst hK dX12_tellBand_106 ?_
          refine TT_istore_n hK rfl (lv' := [(3, vI 0), (0, vR 73), (1, vI b), (2, vI f)]) (by decide) rfl dX12_tellBand_107 ?_
          refine TT_iconst hK dX12_tellBand_108 ?_
          refine TT_istore hK (lv' := [(4, vI 1), (3, vI 0), (0, vR 73), (1, vI b), (2, vI f)]) (by decide) rfl dX12_tellBand_109 ?_
          have L111_28 : ∀ (k28 : Nat) (n : Int) (p : Int) (w111_28 : Hp_), TY w111_28 → FRM [73, 83, 84, 85, 89, 90, 91, 92, 93, 94, 95, 96, 97, 98, 99] [26, 27, 28, 29, 32, 33, 34, 36, 38, 39] h w111_28 → (1 ≤ p ∧ p ≤ 40) → (0 ≤ n ∧ n ≤ (w111_28 91) b) → ((w111_28 91) b ≤ 48 * (h 80 b * h 81 b) + 30) → (MIQ (w111_28 90) (w111_28 91)) → (LQ (w111_28 83) (w111_28 91) (w111_28 92) b) → (∀ j : Int, j ≠ b → (w111_28 91) j = h 91 j) → (∀ i j : Int, 0 ≤ i → i ≤ j → j < p → (w111_28 92) (35 * b + i) ≤ (w111_28 92) (35 * b + j) ∧ (w111_28 92) (35 * b + j) ≤ n) → ((40 : Int) - p).toNat < k28 → TT K ly 0 0 111 [(0, vR 73), (1, vI b), (2, vI f), (3, vI n), (4, vI p)] [] w111_28 := by
            intro k28
            induction k28 with
            | zero => intro n p w111_28 hT111_28 hF111_28 hp hn hws hmi hlq h91f hlb hk28; exact absurd hk28 (Nat.not_lt_zero _)
            | succ k28 ih28 =>
              intro n p w111_28 hT111_28 hF111_28 hp hn hws hmi hlq h91f hlb hk28
              refine TT_iload hK 4 rfl dX12_tellBand_111 ?_
              refine TT_aload_n hK rfl 0 rfl dX12_tellBand_113 ?_
              refine TT_iload_n hK rfl 1 rfl dX12_tellBand_114 ?_
              refine iv_X12_296 hK (s_passesOf_x b w111_28 hT111_28 (by first | omega | (simp [up, setR] <;> omega))) (by decide) rfl ⟨by decide, by decide⟩ (by decide) rfl rfl (Nat.le_of_ble_eq_true rfl) ⟨by decide, by decide⟩ dX12_tellBand_115 ?_
              intro r9 g115_29 hp9
              obtain ⟨⟨hT_29, hG_29⟩, z115_29, hr9, hz_29, p1_29, p2_29⟩ := hp9
              rw [hr9]
              have hF_29 : FRM [73, 83, 84, 85, 89, 90, 91, 92, 93, 94, 95, 96, 97, 98, 99] [26, 27, 28, 29, 32, 33, 34, 36, 38, 39] h g115_29 := FRM_tr hF111_28 hG_29 (by decide) (by decide)
              show TT K ly 0 0 118 [(0, vR 73), (1, vI b), (2, vI f), (3, vI n), (4, vI p)] [vI z115_29, vI p] g115_29
              refine TT_icmp_gt hK (tgt := 216) (irm (by omega) (by omega)) (irm (by omega) (by omega)) dX12_tellBand_118 (by decide) (fun hb118_30 => ?_) (fun hb118_30 => ?_)
              · refine TT_vret hK hQ ?_ dX12_tellBand_216
                have e31_91 : g115_29 91 = w111_28 91 := (hG_29.1 91 (by decide))
                have e32_90 : g115_29 90 = w111_28 90 := (hG_29.1 90 (by decide))
                have e33_91 : g115_29 91 = w111_28 91 := (hG_29.1 91 (by decide))
                have e34_83 : g115_29 83 = w111_28 83 := (hG_29.1 83 (by decide))
                have e35_91 : g115_29 91 = w111_28 91 := (hG_29.1 91 (by decide))
                have e36_92 : g115_29 92 = w111_28 92 := (hG_29.1 92 (by decide))
                have e37_91 : g115_29 91 = w111_28 91 := (hG_29.1 91 (by decide))
                exact ⟨⟨hT_29, hF_29⟩, rfl, (by rewrite [e31_91]; first | omega | (rw [fup_eq]; omega)), (by rewrite [e32_90, e33_91]; first | assumption | exact MIQ_up hmi (by omega)), (by rewrite [e34_83, e35_91, e36_92]; first | exact LQ_0 hlq (by assumption) (by assumption) | exact LQ_s hlq (fun i j h1 h2 h3 => by have k9 := hlb i j h1 h2 (by omega); omega)), (by rewrite [e37_91]; first | exact h91f | (intro j hj; exact fup_ne _ _ hj))⟩
              · refine TT_aload_n hK rfl 0 rfl dX12_tellBand_121 ?_
                refine TT_iconst hK dX12_tellBand_122 ?_
                refine pf_X12_227 hK (by decide) rfl (by first | decide | omega) dX12_tellBand_123 ?_
                refine TT_hp (h' := setO g115_29 73 (fup (w111_28 73) 28 1)) (up_can (hG_29.1 73 (by decide)) rfl rfl) ?_
                have hT_38 : TY (setO g115_29 73 (fup (w111_28 73) 28 1)) := tu_73_28 hT_29 (show up g115_29 73 28 1 = (setO g115_29 73 (fup (w111_28 73) 28 1)) from up_can (hG_29.1 73 (by decide)) rfl rfl) (by omega)
                have hF_38 : FRM [73, 83, 84, 85, 89, 90, 91, 92, 93, 94, 95, 96, 97, 98, 99] [26, 27, 28, 29, 32, 33, 34, 36, 38, 39] h (setO g115_29 73 (fup (w111_28 73) 28 1)) := FRM_f (show up g115_29 73 28 1 = (setO g115_29 73 (fup (w111_28 73) 28 1)) from up_can (hG_29.1 73 (by decide)) rfl rfl) hF_29 (by decide) (by decide)
                refine TT_iload_n hK rfl 3 rfl dX12_tellBand_126 ?_
                refine TT_iconst hK dX12_tellBand_127 ?_
                refine TT_isub hK dX12_tellBand_128 ?_
                refine TT_istore_n hK rfl (lv' := [(3, vI (n - 1)), (0, vR 73), (1, vI b), (2, vI f), (4, vI p)]) (by decide) rfl dX12_tellBand_129 ?_
                have L130_39 : ∀ (k39 : Nat) (n2 : Int) (w130_39 : Hp_), TY w130_39 → FRM [73, 83, 84, 85, 89, 90, 91, 92, 93, 94, 95, 96, 97, 98, 99] [26, 27, 28, 29, 32, 33, 34, 36, 38, 39] h w130_39 → (-1 ≤ n2 ∧ n2 ≤ (w130_39 91) b) → ((w130_39 73 28) = 1 → n2 < (w130_39 91) b) → (n - 1 ≤ n2) → ((w130_39 73 28) = 0 → n ≤ n2) → ((w130_39 91) b ≤ 48 * (h 80 b * h 81 b) + 30) → (MIQ (w130_39 90) (w130_39 91)) → (LQ (w130_39 83) (w130_39 91) (w130_39 92) b) → (∀ j : Int, j ≠ b → (w130_39 91) j = h 91 j) → (∀ i j : Int, 0 ≤ i → i ≤ j → j < p → (w130_39 92) (35 * b + i) ≤ (w130_39 92) (35 * b + j) ∧ (w130_39 92) (35 * b + j) ≤ n) → ((4401 : Int) - n2).toNat < k39 → TT K ly 0 0 130 [(0, vR 73), (1, vI b), (2, vI f), (3, vI n2), (4, vI p)] [] w130_39 := by
                  intro k39
                  induction k39 with
                  | zero => intro n2 w130_39 hT130_39 hF130_39 hn2 hn3 hn5 hn4 hws hmi hlq h91f hlb hk39; exact absurd hk39 (Nat.not_lt_zero _)
                  | succ k39 ih39 =>
                    intro n2 w130_39 hT130_39 hF130_39 hn2 hn3 hn5 hn4 hws hmi hlq h91f hlb hk39
                    refine TT_aload_n hK rfl 0 rfl dX12_tellBand_130 ?_
                    refine gf_X12_227 hK (by decide) rfl (v := (w130_39 73) 28) rfl dX12_tellBand_131 ?_
                    have r40 := ty_73_28 (v := (w130_39 73) 28) hT130_39 rfl
                    refine TT_if_eq hK (tgt := 197) (irm (by omega) (by omega)) dX12_tellBand_134 (by decide) (fun hb134_41 => ?_) (fun hb134_41 => ?_)
                    · refine TT_aload_n hK rfl 0 rfl dX12_tellBand_197 ?_
                      refine gf_X12_72 hK (by decide) rfl (q := 92) rfl rfl dX12_tellBand_198 ?_
                      refine TT_bipush hK (by decide) dX12_tellBand_201 ?_
                      refine TT_iload_n hK rfl 1 rfl dX12_tellBand_203 ?_
                      refine TT_imul hK dX12_tellBand_204 ?_
                      refine TT_iload hK 4 rfl dX12_tellBand_205 ?_
                      refine TT_iadd hK dX12_tellBand_207 ?_
                      refine TT_iload_n hK rfl 3 rfl dX12_tellBand_208 ?_
                      refine TT_iast hK (o := 92) (n := 350) (by decide) rfl (by omega) (by omega) dX12_tellBand_209 ?_
                      refine TT_hp (h' := setO w130_39 92 (fup (w130_39 92) ((35 * b) + p) n2)) (up_can rfl rfl rfl) ?_
                      have hT_42 : TY (setO w130_39 92 (fup (w130_39 92) ((35 * b) + p) n2)) := tu_92 hT130_39 (show up w130_39 92 ((35 * b) + p) n2 = (setO w130_39 92 (fup (w130_39 92) ((35 * b) + p) n2)) from up_can rfl rfl rfl) (by omega)
                      have hF_42 : FRM [73, 83, 84, 85, 89, 90, 91, 92, 93, 94, 95, 96, 97, 98, 99] [26, 27, 28, 29, 32, 33, 34, 36, 38, 39] h (setO w130_39 92 (fup (w130_39 92) ((35 * b) + p) n2)) := FRM_up (show up w130_39 92 ((35 * b) + p) n2 = (setO w130_39 92 (fup (w130_39 92) ((35 * b) + p) n2)) from up_can rfl rfl rfl) hF130_39 (by decide) (by decide)
                      refine TT_iinc hK (v := p + 1) (lv' := [(4, vI (p + 1)), (0, vR 73), (1, vI b), (2, vI f), (3, vI n2)]) 4 rfl rfl (by decide) rfl dX12_tellBand_210 ?_
                      refine TT_goto hK (tgt := 111) dX12_tellBand_213 (by decide) ?_
                      refine TT_sub [1, 2, 3, 4, 0] rfl ?_
                      have e43_91 : (setO w130_39 92 (fup (w130_39 92) ((35 * b) + p) n2)) 91 = w130_39 91 := sOf_ne _ _ (by decide)
                      have e44_91 : (setO w130_39 92 (fup (w130_39 92) ((35 * b) + p) n2)) 91 = w130_39 91 := sOf_ne _ _ (by decide)
                      have e45_90 : (setO w130_39 92 (fup (w130_39 92) ((35 * b) + p) n2)) 90 = w130_39 90 := sOf_ne _ _ (by decide)
                      have e46_91 : (setO w130_39 92 (fup (w130_39 92) ((35 * b) + p) n2)) 91 = w130_39 91 := sOf_ne _ _ (by decide)
                      have e47_83 : (setO w130_39 92 (fup (w130_39 92) ((35 * b) + p) n2)) 83 = w130_39 83 := sOf_ne _ _ (by decide)
                      have e48_91 : (setO w130_39 92 (fup (w130_39 92) ((35 * b) + p) n2)) 91 = w130_39 91 := sOf_ne _ _ (by decide)
                      have e49_92 : (setO w130_39 92 (fup (w130_39 92) ((35 * b) + p) n2)) 92 = fup (w130_39 92) ((35 * b) + p) n2 := sOf_eq _ _ _
                      have e50_91 : (setO w130_39 92 (fup (w130_39 92) ((35 * b) + p) n2)) 91 = w130_39 91 := sOf_ne _ _ (by decide)
                      have e51_92 : (setO w130_39 92 (fup (w130_39 92) ((35 * b) + p) n2)) 92 = fup (w130_39 92) ((35 * b) + p) n2 := sOf_eq _ _ _
                      exact ih28 n2 (p + 1) (setO w130_39 92 (fup (w130_39 92) ((35 * b) + p) n2)) hT_42 hF_42 (by first | omega | (simp [up, setR] <;> omega)) (by rewrite [e43_91]; first | omega | (simp [up, setR] <;> omega)) (by rewrite [e44_91]; first | omega | (simp [up, setR] <;> omega)) (by rewrite [e45_90, e46_91]; first | assumption | exact hmi) (by rewrite [e47_83, e48_91, e49_92]; exact LQ_2 hlq (by omega)) (by rewrite [e50_91]; exact h91f) (by rewrite [e51_92]; intro i j h1 h2 h3; by_cases e2 : j = p; (rw [e2, fup_eq]; by_cases e1 : i = p; (rw [e1, fup_eq]; omega); (rw [fup_ne _ _ (show 35 * b + i ≠ 35 * b + p by omega)]; have k9 := hlb i i h1 (by omega) (by omega); omega)); (rw [fup_ne _ _ (show 35 * b + i ≠ 35 * b + p by omega), fup_ne _ _ (show 35 * b + j ≠ 35 * b + p by omega)]; have k9 := hlb i j h1 h2 (by omega); omega)) (by first | omega | (simp [up, setR] <;> omega))
                    · refine TT_iinc hK (v := n2 + 1) (lv' := [(3, vI (n2 + 1)), (0, vR 73), (1, vI b), (2, vI f), (4, vI p)]) 3 rfl rfl (by decide) rfl dX12_tellBand_137 ?_
                      refine TT_iload_n hK rfl 0 rfl dX12_tellBand_140 ?_
                      refine TT_if_ge hK (tgt := 148) (irm (by omega) (by omega)) dX12_tellBand_141 (by decide) (fun hb141_52 => ?_) (fun hb141_52 => ?_)
                      · refine TT_iload_n hK rfl 0 rfl dX12_tellBand_148 ?_
                        refine TT_istore_n hK rfl (lv' := [(3, vI (n2 + 1)), (0, vR 73), (1, vI b), (2, vI f), (4, vI p)]) (by decide) rfl dX12_tellBand_149 ?_
                        refine TT_aload_n hK rfl 1 rfl dX12_tellBand_150 ?_
                        refine TT_iload_n hK rfl 0 rfl dX12_tellBand_151 ?_
                        refine TT_iconst hK dX12_tellBand_152 ?_
                        refine iv_X12_308 hK (s_X12_beginReading_73 (n2 + 1) 2 w130_39 hT130_39 (by first | omega | (simp [up, setR] <;> omega)) (by first | omega | (simp [up, setR] <;> omega))) (by decide) rfl ⟨by decide, by decide⟩ (by decide) rfl rfl (Nat.le_of_ble_eq_true rfl) ⟨by decide, by decide⟩ dX12_tellBand_153 ?_
                        intro r9 g153_53 hp9
                        obtain ⟨⟨hT_53, hG_53⟩, hr9, p1_53, p2_53⟩ := hp9
                        rw [hr9]
                        have hF_53 : FRM [73, 83, 84, 85, 89, 90, 91, 92, 93, 94, 95, 96, 97, 98, 99] [26, 27, 28, 29, 32, 33, 34, 36, 38, 39] h g153_53 := FRM_tr hF130_39 hG_53 (by decide) (by decide)
                        show TT K ly 0 0 156 [(3, vI (n2 + 1)), (0, vR 73), (1, vI b), (2, vI f), (4, vI p)] [] g153_53
                        refine TT_aload_n hK rfl 1 rfl dX12_tellBand_156 ?_
                        refine TT_iconst hK dX12_tellBand_157 ?_
                        refine pf_X12_227 hK (by decide) rfl (by first | decide | omega) dX12_tellBand_158 ?_
                        refine TT_hp (h' := setO g153_53 73 (fup (g153_53 73) 28 0)) (up_can rfl rfl rfl) ?_
                        have hT_54 : TY (setO g153_53 73 (fup (g153_53 73) 28 0)) := tu_73_28 hT_53 (show up g153_53 73 28 0 = (setO g153_53 73 (fup (g153_53 73) 28 0)) from up_can rfl rfl rfl) (by omega)
                        have hF_54 : FRM [73, 83, 84, 85, 89, 90, 91, 92, 93, 94, 95, 96, 97, 98, 99] [26, 27, 28, 29, 32, 33, 34, 36, 38, 39] h (setO g153_53 73 (fup (g153_53 73) 28 0)) := FRM_f (show up g153_53 73 28 0 = (setO g153_53 73 (fup (g153_53 73) 28 0)) from up_can rfl rfl rfl) hF_53 (by decide) (by decide)
                        refine TT_aload_n hK rfl 1 rfl dX12_tellBand_161 ?_
                        refine TT_iload_n hK rfl 2 rfl dX12_tellBand_162 ?_
                        refine TT_iload hK 4 rfl dX12_tellBand_163 ?_
                        have e55_74 : (setO g153_53 73 (fup (g153_53 73) 28 0)) 74 = h 74 := (sOf_ne _ _ (by decide)).trans (((hG_53.1 74 (by decide))).trans (hF130_39.1 74 (by decide)))
                        have e56_75 : (setO g153_53 73 (fup (g153_53 73) 28 0)) 75 = h 75 := (sOf_ne _ _ (by decide)).trans (((hG_53.1 75 (by decide))).trans (hF130_39.1 75 (by decide)))
                        have e57_73_32 : (setO g153_53 73 (fup (g153_53 73) 28 0)) 73 32 = (g153_53 73) 32 := rd_ (sOf_eq _ _ _) (fup_ne _ _ (by decide))
                        have e58_73_29 : (setO g153_53 73 (fup (g153_53 73) 28 0)) 73 29 = (g153_53 73) 29 := rd_ (sOf_eq _ _ _) (fup_ne _ _ (by decide))
                        have e59_73_29 : (setO g153_53 73 (fup (g153_53 73) 28 0)) 73 29 = (g153_53 73) 29 := rd_ (sOf_eq _ _ _) (fup_ne _ _ (by decide))
                        have e60_73_34 : (setO g153_53 73 (fup (g153_53 73) 28 0)) 73 34 = (g153_53 73) 34 := rd_ (sOf_eq _ _ _) (fup_ne _ _ (by decide))
                        have e61_73_36 : (setO g153_53 73 (fup (g153_53 73) 28 0)) 73 36 = (w130_39 73) 36 := (rd_ (sOf_eq _ _ _) (fup_ne _ _ (by decide))).trans (hG_53.2 36 (by decide))
                        have e62_80 : (setO g153_53 73 (fup (g153_53 73) 28 0)) 80 = h 80 := (sOf_ne _ _ (by decide)).trans (((hG_53.1 80 (by decide))).trans (hF130_39.1 80 (by decide)))
                        have e63_81 : (setO g153_53 73 (fup (g153_53 73) 28 0)) 81 = h 81 := (sOf_ne _ _ (by decide)).trans (((hG_53.1 81 (by decide))).trans (hF130_39.1 81 (by decide)))
                        have e64_96 : (setO g153_53 73 (fup (g153_53 73) 28 0)) 96 = g153_53 96 := sOf_ne _ _ (by decide)
                        refine iv_X12_299 hK (s_X12_walk_73 b p (setO g153_53 73 (fup (g153_53 73) 28 0)) hT_54 (by first | omega | (simp [up, setR] <;> omega)) (by first | omega | (simp [up, setR] <;> omega)) (by rewrite [e55_74, e56_75]; first | assumption | exact htb) (by rewrite [e57_73_32]; first | omega | (simp [up, setR] <;> omega)) (by rewrite [e58_73_29]; first | omega | (simp [up, setR] <;> omega)) (by rewrite [e59_73_29, e60_73_34, e61_73_36, e62_80, e63_81, e64_96]; first | omega | (simp [up, setR] <;> omega))) (by decide) rfl ⟨by decide, by decide⟩ (by decide) rfl rfl (Nat.le_of_ble_eq_true rfl) ⟨by decide, by decide⟩ dX12_tellBand_165 ?_
                        intro r9 g165_65 hp9
                        obtain ⟨⟨hT_65, hG_65⟩, hr9, pa_65, pm_65⟩ := hp9
                        rw [hr9]
                        have hF_65 : FRM [73, 83, 84, 85, 89, 90, 91, 92, 93, 94, 95, 96, 97, 98, 99] [26, 27, 28, 29, 32, 33, 34, 36, 38, 39] h g165_65 := FRM_tr hF_54 hG_65 (by decide) (by decide)
                        rw [show (setO g153_53 73 (fup (g153_53 73) 28 0)) 73 29 = (g153_53 73) 29 from rd_ (sOf_eq _ _ _) (fup_ne _ _ (by decide))] at pm_65
                        rw [show (setO g153_53 73 (fup (g153_53 73) 28 0)) 73 34 = (g153_53 73) 34 from rd_ (sOf_eq _ _ _) (fup_ne _ _ (by decide))] at pm_65
                        rw [show (setO g153_53 73 (fup (g153_53 73) 28 0)) 73 36 = (w130_39 73) 36 from (rd_ (sOf_eq _ _ _) (fup_ne _ _ (by decide))).trans (hG_53.2 36 (by decide))] at pm_65
                        rw [show (setO g153_53 73 (fup (g153_53 73) 28 0)) 80 = h 80 from (sOf_ne _ _ (by decide)).trans (((hG_53.1 80 (by decide))).trans (hF130_39.1 80 (by decide)))] at pm_65
                        rw [show (setO g153_53 73 (fup (g153_53 73) 28 0)) 81 = h 81 from (sOf_ne _ _ (by decide)).trans (((hG_53.1 81 (by decide))).trans (hF130_39.1 81 (by decide)))] at pm_65
                        rw [show (setO g153_53 73 (fup (g153_53 73) 28 0)) 96 = g153_53 96 from sOf_ne _ _ (by decide)] at pm_65
                        show TT K ly 0 0 168 [(3, vI (n2 + 1)), (0, vR 73), (1, vI b), (2, vI f), (4, vI p)] [] g165_65
                        refine TT_aload_n hK rfl 1 rfl dX12_tellBand_168 ?_
                        refine TT_aload_n hK rfl 1 rfl dX12_tellBand_169 ?_
                        refine gf_X12_227 hK (by decide) rfl (v := (g165_65 73) 28) rfl dX12_tellBand_170 ?_
                        have r66 := ty_73_28 (v := (g165_65 73) 28) hT_65 rfl
                        refine TT_if_eq hK (tgt := 190) (irm (by omega) (by omega)) dX12_tellBand_173 (by decide) (fun hb173_67 => ?_) (fun hb173_67 => ?_)
                        · refine TT_iconst hK dX12_tellBand_190 ?_
                          refine pf_X12_227 hK (by decide) rfl (by first | decide | omega) dX12_tellBand_191 ?_
                          refine TT_hp (h' := setO g165_65 73 (fup (g165_65 73) 28 0)) (up_can rfl rfl rfl) ?_
                          have hT_68 : TY (setO g165_65 73 (fup (g165_65 73) 28 0)) := tu_73_28 hT_65 (show up g165_65 73 28 0 = (setO g165_65 73 (fup (g165_65 73) 28 0)) from up_can rfl rfl rfl) (by omega)
                          have hF_68 : FRM [73, 83, 84, 85, 89, 90, 91, 92, 93, 94, 95, 96, 97, 98, 99] [26, 27, 28, 29, 32, 33, 34, 36, 38, 39] h (setO g165_65 73 (fup (g165_65 73) 28 0)) := FRM_f (show up g165_65 73 28 0 = (setO g165_65 73 (fup (g165_65 73) 28 0)) from up_can rfl rfl rfl) hF_65 (by decide) (by decide)
                          refine TT_goto hK (tgt := 130) dX12_tellBand_194 (by decide) ?_
                          refine TT_sub [1, 2, 3, 0, 4] rfl ?_
                          have e69_91 : (setO g165_65 73 (fup (g165_65 73) 28 0)) 91 = w130_39 91 := (sOf_ne _ _ (by decide)).trans (((hG_65.1 91 (by decide))).trans ((sOf_ne _ _ (by decide)).trans (hG_53.1 91 (by decide))))
                          have e70_73_28 : (setO g165_65 73 (fup (g165_65 73) 28 0)) 73 28 = 0 := rd_ (sOf_eq _ _ _) (fup_eq _ _ _)
                          have e71_91 : (setO g165_65 73 (fup (g165_65 73) 28 0)) 91 = w130_39 91 := (sOf_ne _ _ (by decide)).trans (((hG_65.1 91 (by decide))).trans ((sOf_ne _ _ (by decide)).trans (hG_53.1 91 (by decide))))
                          have e72_73_28 : (setO g165_65 73 (fup (g165_65 73) 28 0)) 73 28 = 0 := rd_ (sOf_eq _ _ _) (fup_eq _ _ _)
                          have e73_91 : (setO g165_65 73 (fup (g165_65 73) 28 0)) 91 = w130_39 91 := (sOf_ne _ _ (by decide)).trans (((hG_65.1 91 (by decide))).trans ((sOf_ne _ _ (by decide)).trans (hG_53.1 91 (by decide))))
                          have e74_90 : (setO g165_65 73 (fup (g165_65 73) 28 0)) 90 = w130_39 90 := (sOf_ne _ _ (by decide)).trans (((hG_65.1 90 (by decide))).trans ((sOf_ne _ _ (by decide)).trans (hG_53.1 90 (by decide))))
                          have e75_91 : (setO g165_65 73 (fup (g165_65 73) 28 0)) 91 = w130_39 91 := (sOf_ne _ _ (by decide)).trans (((hG_65.1 91 (by decide))).trans ((sOf_ne _ _ (by decide)).trans (hG_53.1 91 (by decide))))
                          have e76_83 : (setO g165_65 73 (fup (g165_65 73) 28 0)) 83 = w130_39 83 := (sOf_ne _ _ (by decide)).trans (((hG_65.1 83 (by decide))).trans ((sOf_ne _ _ (by decide)).trans (hG_53.1 83 (by decide))))
                          have e77_91 : (setO g165_65 73 (fup (g165_65 73) 28 0)) 91 = w130_39 91 := (sOf_ne _ _ (by decide)).trans (((hG_65.1 91 (by decide))).trans ((sOf_ne _ _ (by decide)).trans (hG_53.1 91 (by decide))))
                          have e78_92 : (setO g165_65 73 (fup (g165_65 73) 28 0)) 92 = w130_39 92 := (sOf_ne _ _ (by decide)).trans (((hG_65.1 92 (by decide))).trans ((sOf_ne _ _ (by decide)).trans (hG_53.1 92 (by decide))))
                          have e79_91 : (setO g165_65 73 (fup (g165_65 73) 28 0)) 91 = w130_39 91 := (sOf_ne _ _ (by decide)).trans (((hG_65.1 91 (by decide))).trans ((sOf_ne _ _ (by decide)).trans (hG_53.1 91 (by decide))))
                          have e80_92 : (setO g165_65 73 (fup (g165_65 73) 28 0)) 92 = w130_39 92 := (sOf_ne _ _ (by decide)).trans (((hG_65.1 92 (by decide))).trans ((sOf_ne _ _ (by decide)).trans (hG_53.1 92 (by decide))))
                          exact ih39 (n2 + 1) (setO g165_65 73 (fup (g165_65 73) 28 0)) hT_68 hF_68 (by rewrite [e69_91]; first | omega | (simp [up, setR] <;> omega)) (by rewrite [e70_73_28, e71_91]; first | omega | (simp [up, setR] <;> omega)) (by first | omega | (simp [up, setR] <;> omega)) (by rewrite [e72_73_28]; first | omega | (simp [up, setR] <;> omega)) (by rewrite [e73_91]; first | omega | (simp [up, setR] <;> omega)) (by rewrite [e74_90, e75_91]; first | assumption | exact hmi) (by rewrite [e76_83, e77_91, e78_92]; first | assumption | exact hlq) (by rewrite [e79_91]; exact h91f) (by rewrite [e80_92]; exact hlb) (by first | omega | (simp [up, setR] <;> omega))
                        · refine TT_iload_n hK rfl 0 rfl dX12_tellBand_176 ?_
                          refine TT_aload_n hK rfl 1 rfl dX12_tellBand_177 ?_
                          refine gf_X12_69 hK (by decide) rfl (q := 91) rfl rfl dX12_tellBand_178 ?_
                          refine TT_iload_n hK rfl 2 rfl dX12_tellBand_181 ?_
                          refine TT_iald hK (o := 91) (n := 10) (by decide) rfl (by first | omega | (simp [up, setR] <;> omega)) (by first | omega | (simp [up, setR] <;> omega)) (v := (w130_39 91) b) (rd_ (((hG_65.1 91 (by decide))).trans ((sOf_ne _ _ (by decide)).trans (hG_53.1 91 (by decide)))) rfl) dX12_tellBand_182 ?_
                          have r81 := ty_91 (i := b) (v := (w130_39 91) b) hT_65 (rd_ (((hG_65.1 91 (by decide))).trans ((sOf_ne _ _ (by decide)).trans (hG_53.1 91 (by decide)))) rfl) (by omega) (by omega)
                          refine TT_icmp_ge hK (tgt := 190) (irm (by omega) (by omega)) (irm (by omega) (by omega)) dX12_tellBand_183 (by decide) (fun hb183_82 => ?_) (fun hb183_82 => ?_)
                          · refine TT_iconst hK dX12_tellBand_190 ?_
                            refine pf_X12_227 hK (by decide) rfl (by first | decide | omega) dX12_tellBand_191 ?_
                            refine TT_hp (h' := setO g165_65 73 (fup (g165_65 73) 28 0)) (up_can rfl rfl rfl) ?_
                            have hT_83 : TY (setO g165_65 73 (fup (g165_65 73) 28 0)) := tu_73_28 hT_65 (show up g165_65 73 28 0 = (setO g165_65 73 (fup (g165_65 73) 28 0)) from up_can rfl rfl rfl) (by omega)
                            have hF_83 : FRM [73, 83, 84, 85, 89, 90, 91, 92, 93, 94, 95, 96, 97, 98, 99] [26, 27, 28, 29, 32, 33, 34, 36, 38, 39] h (setO g165_65 73 (fup (g165_65 73) 28 0)) := FRM_f (show up g165_65 73 28 0 = (setO g165_65 73 (fup (g165_65 73) 28 0)) from up_can rfl rfl rfl) hF_65 (by decide) (by decide)
                            refine TT_goto hK (tgt := 130) dX12_tellBand_194 (by decide) ?_
                            refine TT_sub [1, 2, 3, 0, 4] rfl ?_
                            have e84_91 : (setO g165_65 73 (fup (g165_65 73) 28 0)) 91 = w130_39 91 := (sOf_ne _ _ (by decide)).trans (((hG_65.1 91 (by decide))).trans ((sOf_ne _ _ (by decide)).trans (hG_53.1 91 (by decide))))
                            have e85_73_28 : (setO g165_65 73 (fup (g165_65 73) 28 0)) 73 28 = 0 := rd_ (sOf_eq _ _ _) (fup_eq _ _ _)
                            have e86_91 : (setO g165_65 73 (fup (g165_65 73) 28 0)) 91 = w130_39 91 := (sOf_ne _ _ (by decide)).trans (((hG_65.1 91 (by decide))).trans ((sOf_ne _ _ (by decide)).trans (hG_53.1 91 (by decide))))
                            have e87_73_28 : (setO g165_65 73 (fup (g165_65 73) 28 0)) 73 28 = 0 := rd_ (sOf_eq _ _ _) (fup_eq _ _ _)
                            have e88_91 : (setO g165_65 73 (fup (g165_65 73) 28 0)) 91 = w130_39 91 := (sOf_ne _ _ (by decide)).trans (((hG_65.1 91 (by decide))).trans ((sOf_ne _ _ (by decide)).trans (hG_53.1 91 (by decide))))
                            have e89_90 : (setO g165_65 73 (fup (g165_65 73) 28 0)) 90 = w130_39 90 := (sOf_ne _ _ (by decide)).trans (((hG_65.1 90 (by decide))).trans ((sOf_ne _ _ (by decide)).trans (hG_53.1 90 (by decide))))
                            have e90_91 : (setO g165_65 73 (fup (g165_65 73) 28 0)) 91 = w130_39 91 := (sOf_ne _ _ (by decide)).trans (((hG_65.1 91 (by decide))).trans ((sOf_ne _ _ (by decide)).trans (hG_53.1 91 (by decide))))
                            have e91_83 : (setO g165_65 73 (fup (g165_65 73) 28 0)) 83 = w130_39 83 := (sOf_ne _ _ (by decide)).trans (((hG_65.1 83 (by decide))).trans ((sOf_ne _ _ (by decide)).trans (hG_53.1 83 (by decide))))
                            have e92_91 : (setO g165_65 73 (fup (g165_65 73) 28 0)) 91 = w130_39 91 := (sOf_ne _ _ (by decide)).trans (((hG_65.1 91 (by decide))).trans ((sOf_ne _ _ (by decide)).trans (hG_53.1 91 (by decide))))
                            have e93_92 : (setO g165_65 73 (fup (g165_65 73) 28 0)) 92 = w130_39 92 := (sOf_ne _ _ (by decide)).trans (((hG_65.1 92 (by decide))).trans ((sOf_ne _ _ (by decide)).trans (hG_53.1 92 (by decide))))
                            have e94_91 : (setO g165_65 73 (fup (g165_65 73) 28 0)) 91 = w130_39 91 := (sOf_ne _ _ (by decide)).trans (((hG_65.1 91 (by decide))).trans ((sOf_ne _ _ (by decide)).trans (hG_53.1 91 (by decide))))
                            have e95_92 : (setO g165_65 73 (fup (g165_65 73) 28 0)) 92 = w130_39 92 := (sOf_ne _ _ (by decide)).trans (((hG_65.1 92 (by decide))).trans ((sOf_ne _ _ (by decide)).trans (hG_53.1 92 (by decide))))
                            exact ih39 (n2 + 1) (setO g165_65 73 (fup (g165_65 73) 28 0)) hT_83 hF_83 (by rewrite [e84_91]; first | omega | (simp [up, setR] <;> omega)) (by rewrite [e85_73_28, e86_91]; first | omega | (simp [up, setR] <;> omega)) (by first | omega | (simp [up, setR] <;> omega)) (by rewrite [e87_73_28]; first | omega | (simp [up, setR] <;> omega)) (by rewrite [e88_91]; first | omega | (simp [up, setR] <;> omega)) (by rewrite [e89_90, e90_91]; first | assumption | exact hmi) (by rewrite [e91_83, e92_91, e93_92]; first | assumption | exact hlq) (by rewrite [e94_91]; exact h91f) (by rewrite [e95_92]; exact hlb) (by first | omega | (simp [up, setR] <;> omega))
                          · refine TT_iconst hK dX12_tellBand_186 ?_
                            refine TT_goto hK (tgt := 191) dX12_tellBand_187 (by decide) ?_
                            refine pf_X12_227 hK (by decide) rfl (by first | decide | omega) dX12_tellBand_191 ?_
                            refine TT_hp (h' := setO g165_65 73 (fup (g165_65 73) 28 1)) (up_can rfl rfl rfl) ?_
                            have hT_96 : TY (setO g165_65 73 (fup (g165_65 73) 28 1)) := tu_73_28 hT_65 (show up g165_65 73 28 1 = (setO g165_65 73 (fup (g165_65 73) 28 1)) from up_can rfl rfl rfl) (by omega)
                            have hF_96 : FRM [73, 83, 84, 85, 89, 90, 91, 92, 93, 94, 95, 96, 97, 98, 99] [26, 27, 28, 29, 32, 33, 34, 36, 38, 39] h (setO g165_65 73 (fup (g165_65 73) 28 1)) := FRM_f (show up g165_65 73 28 1 = (setO g165_65 73 (fup (g165_65 73) 28 1)) from up_can rfl rfl rfl) hF_65 (by decide) (by decide)
                            refine TT_goto hK (tgt := 130) dX12_tellBand_194 (by decide) ?_
                            refine TT_sub [1, 2, 3, 0, 4] rfl ?_
                            have e97_91 : (setO g165_65 73 (fup (g165_65 73) 28 1)) 91 = w130_39 91 := (sOf_ne _ _ (by decide)).trans (((hG_65.1 91 (by decide))).trans ((sOf_ne _ _ (by decide)).trans (hG_53.1 91 (by decide))))
                            have e98_73_28 : (setO g165_65 73 (fup (g165_65 73) 28 1)) 73 28 = 1 := rd_ (sOf_eq _ _ _) (fup_eq _ _ _)
                            have e99_91 : (setO g165_65 73 (fup (g165_65 73) 28 1)) 91 = w130_39 91 := (sOf_ne _ _ (by decide)).trans (((hG_65.1 91 (by decide))).trans ((sOf_ne _ _ (by decide)).trans (hG_53.1 91 (by decide))))
                            have e100_73_28 : (setO g165_65 73 (fup (g165_65 73) 28 1)) 73 28 = 1 := rd_ (sOf_eq _ _ _) (fup_eq _ _ _)
                            have e101_91 : (setO g165_65 73 (fup (g165_65 73) 28 1)) 91 = w130_39 91 := (sOf_ne _ _ (by decide)).trans (((hG_65.1 91 (by decide))).trans ((sOf_ne _ _ (by decide)).trans (hG_53.1 91 (by decide))))
                            have e102_90 : (setO g165_65 73 (fup (g165_65 73) 28 1)) 90 = w130_39 90 := (sOf_ne _ _ (by decide)).trans (((hG_65.1 90 (by decide))).trans ((sOf_ne _ _ (by decide)).trans (hG_53.1 90 (by decide))))
                            have e103_91 : (setO g165_65 73 (fup (g165_65 73) 28 1)) 91 = w130_39 91 := (sOf_ne _ _ (by decide)).trans (((hG_65.1 91 (by decide))).trans ((sOf_ne _ _ (by decide)).trans (hG_53.1 91 (by decide))))
                            have e104_83 : (setO g165_65 73 (fup (g165_65 73) 28 1)) 83 = w130_39 83 := (sOf_ne _ _ (by decide)).trans (((hG_65.1 83 (by decide))).trans ((sOf_ne _ _ (by decide)).trans (hG_53.1 83 (by decide))))
                            have e105_91 : (setO g165_65 73 (fup (g165_65 73) 28 1)) 91 = w130_39 91 := (sOf_ne _ _ (by decide)).trans (((hG_65.1 91 (by decide))).trans ((sOf_ne _ _ (by decide)).trans (hG_53.1 91 (by decide))))
                            have e106_92 : (setO g165_65 73 (fup (g165_65 73) 28 1)) 92 = w130_39 92 := (sOf_ne _ _ (by decide)).trans (((hG_65.1 92 (by decide))).trans ((sOf_ne _ _ (by decide)).trans (hG_53.1 92 (by decide))))
                            have e107_91 : (setO g165_65 73 (fup (g165_65 73) 28 1)) 91 = w130_39 91 := (sOf_ne _ _ (by decide)).trans (((hG_65.1 91 (by decide))).trans ((sOf_ne _ _ (by decide)).trans (hG_53.1 91 (by decide))))
                            have e108_92 : (setO g165_65 73 (fup (g165_65 73) 28 1)) 92 = w130_39 92 := (sOf_ne _ _ (by decide)).trans (((hG_65.1 92 (by decide))).trans ((sOf_ne _ _ (by decide)).trans (hG_53.1 92 (by decide))))
                            exact ih39 (n2 + 1) (setO g165_65 73 (fup (g165_65 73) 28 1)) hT_96 hF_96 (by rewrite [e97_91]; first | omega | (simp [up, setR] <;> omega)) (by rewrite [e98_73_28, e99_91]; first | omega | (simp [up, setR] <;> omega)) (by first | omega | (simp [up, setR] <;> omega)) (by rewrite [e100_73_28]; first | omega | (simp [up, setR] <;> omega)) (by rewrite [e101_91]; first | omega | (simp [up, setR] <;> omega)) (by rewrite [e102_90, e103_91]; first | assumption | exact hmi) (by rewrite [e104_83, e105_91, e106_92]; first | assumption | exact hlq) (by rewrite [e107_91]; exact h91f) (by rewrite [e108_92]; exact hlb) (by first | omega | (simp [up, setR] <;> omega))
                      · exfalso; omega
                refine TT_sub [1, 2, 3, 0, 4] rfl ?_
                have e109_91 : (setO g115_29 73 (fup (w111_28 73) 28 1)) 91 = w111_28 91 := (sOf_ne _ _ (by decide)).trans (hG_29.1 91 (by decide))
                have e110_73_28 : (setO g115_29 73 (fup (w111_28 73) 28 1)) 73 28 = 1 := rd_ (sOf_eq _ _ _) (fup_eq _ _ _)
                have e111_91 : (setO g115_29 73 (fup (w111_28 73) 28 1)) 91 = w111_28 91 := (sOf_ne _ _ (by decide)).trans (hG_29.1 91 (by decide))
                have e112_73_28 : (setO g115_29 73 (fup (w111_28 73) 28 1)) 73 28 = 1 := rd_ (sOf_eq _ _ _) (fup_eq _ _ _)
                have e113_91 : (setO g115_29 73 (fup (w111_28 73) 28 1)) 91 = w111_28 91 := (sOf_ne _ _ (by decide)).trans (hG_29.1 91 (by decide))
                have e114_90 : (setO g115_29 73 (fup (w111_28 73) 28 1)) 90 = w111_28 90 := (sOf_ne _ _ (by decide)).trans (hG_29.1 90 (by decide))
                have e115_91 : (setO g115_29 73 (fup (w111_28 73) 28 1)) 91 = w111_28 91 := (sOf_ne _ _ (by decide)).trans (hG_29.1 91 (by decide))
                have e116_83 : (setO g115_29 73 (fup (w111_28 73) 28 1)) 83 = w111_28 83 := (sOf_ne _ _ (by decide)).trans (hG_29.1 83 (by decide))
                have e117_91 : (setO g115_29 73 (fup (w111_28 73) 28 1)) 91 = w111_28 91 := (sOf_ne _ _ (by decide)).trans (hG_29.1 91 (by decide))
                have e118_92 : (setO g115_29 73 (fup (w111_28 73) 28 1)) 92 = w111_28 92 := (sOf_ne _ _ (by decide)).trans (hG_29.1 92 (by decide))
                have e119_91 : (setO g115_29 73 (fup (w111_28 73) 28 1)) 91 = w111_28 91 := (sOf_ne _ _ (by decide)).trans (hG_29.1 91 (by decide))
                have e120_92 : (setO g115_29 73 (fup (w111_28 73) 28 1)) 92 = w111_28 92 := (sOf_ne _ _ (by decide)).trans (hG_29.1 92 (by decide))
                exact L130_39 ((((4401 : Int) - (n - 1)).toNat) + 1) (n - 1) (setO g115_29 73 (fup (w111_28 73) 28 1)) hT_38 hF_38 (by rewrite [e109_91]; first | omega | (simp [up, setR] <;> omega)) (by rewrite [e110_73_28, e111_91]; first | omega | (simp [up, setR] <;> omega)) (by first | omega | (simp [up, setR] <;> omega)) (by rewrite [e112_73_28]; first | omega | (simp [up, setR] <;> omega)) (by rewrite [e113_91]; first | omega | (simp [up, setR] <;> omega)) (by rewrite [e114_90, e115_91]; first | assumption | exact hmi) (by rewrite [e116_83, e117_91, e118_92]; first | assumption | exact hlq) (by rewrite [e119_91]; first | exact h91f | (intro j hj; exact fup_ne _ _ hj)) (by rewrite [e120_92]; exact hlb) (Nat.lt_succ_self _)
          refine TT_sub [2, 3, 4, 1, 0] rfl ?_
          have e121_91 : g103_27 91 = w71_24 91 := (hG_27.1 91 (by decide))
          have e122_91 : g103_27 91 = w71_24 91 := (hG_27.1 91 (by decide))
          have e123_90 : g103_27 90 = w71_24 90 := (hG_27.1 90 (by decide))
          have e124_91 : g103_27 91 = w71_24 91 := (hG_27.1 91 (by decide))
          have e125_83 : g103_27 83 = w71_24 83 := (hG_27.1 83 (by decide))
          have e126_91 : g103_27 91 = w71_24 91 := (hG_27.1 91 (by decide))
          have e127_92 : g103_27 92 = w71_24 92 := (hG_27.1 92 (by decide))
          have e128_91 : g103_27 91 = w71_24 91 := (hG_27.1 91 (by decide))
          have e129_92 : g103_27 92 = w71_24 92 := (hG_27.1 92 (by decide))
          exact L111_28 ((((40 : Int) - 1).toNat) + 1) 0 1 g103_27 hT_27 hF_27 (by first | omega | (simp [up, setR] <;> omega)) (by rewrite [e121_91]; first | omega | (simp [up, setR] <;> omega)) (by rewrite [e122_91]; first | omega | (simp [up, setR] <;> omega)) (by rewrite [e123_90, e124_91]; first | assumption | exact hmi) (by rewrite [e125_83, e126_91, e127_92]; exact hlq) (by rewrite [e128_91]; first | exact h91f | (intro j hj; exact fup_ne _ _ hj)) (by rewrite [e129_92]; intro i j h1 h2 h3; rw [show i = 0 by omega, show j = 0 by omega, Int.add_zero, hl0]; omega) (Nat.lt_succ_self _)
        · refine TT_aload_n hK rfl 0 rfl dX12_tellBand_79 ?_
          refine gf_X12_63 hK (by decide) rfl (q := 89) rfl rfl dX12_tellBand_80 ?_
          refine TT_iload_n hK rfl 2 rfl dX12_tellBand_83 ?_
          refine TT_iload_n hK rfl 3 rfl dX12_tellBand_84 ?_
          refine TT_iadd hK dX12_tellBand_85 ?_
          refine TT_iconst hK dX12_tellBand_86 ?_
          refine TT_isub hK dX12_tellBand_87 ?_
          refine TT_aload_n hK rfl 0 rfl dX12_tellBand_88 ?_
          refine gf_X12_90 hK (by decide) rfl (q := 98) rfl rfl dX12_tellBand_89 ?_
          refine TT_iload_n hK rfl 3 rfl dX12_tellBand_92 ?_
          refine TT_iald hK (o := 98) (n := 3200) (by decide) rfl (by first | omega | (simp [up, setR] <;> omega)) (by first | omega | (simp [up, setR] <;> omega)) (v := (w71_24 98) k) rfl dX12_tellBand_93 ?_
          have r130 := ty_98 (i := k) (v := (w71_24 98) k) hT71_24 rfl (by omega) (by omega)
          refine TT_iast hK (o := 89) (n := 4400) (by decide) rfl (by omega) (by omega) dX12_tellBand_94 ?_
          refine TT_hp (h' := setO w71_24 89 (fup (w71_24 89) ((f + k) - 1) ((w71_24 98) k))) (up_can rfl rfl rfl) ?_
          have hT_131 : TY (setO w71_24 89 (fup (w71_24 89) ((f + k) - 1) ((w71_24 98) k))) := tu_89 hT71_24 (show up w71_24 89 ((f + k) - 1) ((w71_24 98) k) = (setO w71_24 89 (fup (w71_24 89) ((f + k) - 1) ((w71_24 98) k))) from up_can rfl rfl rfl) (by omega)
          have hF_131 : FRM [73, 83, 84, 85, 89, 90, 91, 92, 93, 94, 95, 96, 97, 98, 99] [26, 27, 28, 29, 32, 33, 34, 36, 38, 39] h (setO w71_24 89 (fup (w71_24 89) ((f + k) - 1) ((w71_24 98) k))) := FRM_up (show up w71_24 89 ((f + k) - 1) ((w71_24 98) k) = (setO w71_24 89 (fup (w71_24 89) ((f + k) - 1) ((w71_24 98) k))) from up_can rfl rfl rfl) hF71_24 (by decide) (by decide)
          refine TT_iinc hK (v := k + 1) (lv' := [(3, vI (k + 1)), (0, vR 73), (1, vI b), (2, vI f)]) 3 rfl rfl (by decide) rfl dX12_tellBand_95 ?_
          refine TT_goto hK (tgt := 71) dX12_tellBand_98 (by decide) ?_
          refine TT_sub [1, 2, 3, 0] rfl ?_
          have e132_73_36 : (setO w71_24 89 (fup (w71_24 89) ((f + k) - 1) ((w71_24 98) k))) 73 36 = (w71_24 73) 36 := rd_ (sOf_ne _ _ (by decide)) rfl
          have e133_73_36 : (setO w71_24 89 (fup (w71_24 89) ((f + k) - 1) ((w71_24 98) k))) 73 36 = (w71_24 73) 36 := rd_ (sOf_ne _ _ (by decide)) rfl
          have e134_73_36 : (setO w71_24 89 (fup (w71_24 89) ((f + k) - 1) ((w71_24 98) k))) 73 36 = (w71_24 73) 36 := rd_ (sOf_ne _ _ (by decide)) rfl
          have e135_91 : (setO w71_24 89 (fup (w71_24 89) ((f + k) - 1) ((w71_24 98) k))) 91 = w71_24 91 := sOf_ne _ _ (by decide)
          have e136_90 : (setO w71_24 89 (fup (w71_24 89) ((f + k) - 1) ((w71_24 98) k))) 90 = w71_24 90 := sOf_ne _ _ (by decide)
          have e137_90 : (setO w71_24 89 (fup (w71_24 89) ((f + k) - 1) ((w71_24 98) k))) 90 = w71_24 90 := sOf_ne _ _ (by decide)
          have e138_91 : (setO w71_24 89 (fup (w71_24 89) ((f + k) - 1) ((w71_24 98) k))) 91 = w71_24 91 := sOf_ne _ _ (by decide)
          have e139_83 : (setO w71_24 89 (fup (w71_24 89) ((f + k) - 1) ((w71_24 98) k))) 83 = w71_24 83 := sOf_ne _ _ (by decide)
          have e140_91 : (setO w71_24 89 (fup (w71_24 89) ((f + k) - 1) ((w71_24 98) k))) 91 = w71_24 91 := sOf_ne _ _ (by decide)
          have e141_92 : (setO w71_24 89 (fup (w71_24 89) ((f + k) - 1) ((w71_24 98) k))) 92 = w71_24 92 := sOf_ne _ _ (by decide)
          have e142_92 : (setO w71_24 89 (fup (w71_24 89) ((f + k) - 1) ((w71_24 98) k))) 92 = w71_24 92 := sOf_ne _ _ (by decide)
          have e143_91 : (setO w71_24 89 (fup (w71_24 89) ((f + k) - 1) ((w71_24 98) k))) 91 = w71_24 91 := sOf_ne _ _ (by decide)
          exact ih24 (k + 1) (setO w71_24 89 (fup (w71_24 89) ((f + k) - 1) ((w71_24 98) k))) hT_131 hF_131 (by rewrite [e132_73_36]; first | omega | (simp [up, setR] <;> omega)) (by rewrite [e133_73_36]; first | omega | (simp [up, setR] <;> omega)) (by rewrite [e134_73_36, e135_91]; omega) (by rewrite [e136_90]; omega) (by rewrite [e137_90, e138_91]; exact hmi) (by rewrite [e139_83, e140_91, e141_92]; exact hlq) (by rewrite [e142_92]; omega) (by rewrite [e143_91]; exact h91f) (by first | omega | (simp [up, setR] <;> omega))
    refine TT_sub [1, 2, 3, 0] rfl ?_
    have e144_73_36 : (setO g54_21 91 (fup (h 91) b (((g54_21 73) 36) - 1))) 73 36 = (g54_21 73) 36 := rd_ (sOf_ne _ _ (by decide)) rfl
    have e145_73_36 : (setO g54_21 91 (fup (h 91) b (((g54_21 73) 36) - 1))) 73 36 = (g54_21 73) 36 := rd_ (sOf_ne _ _ (by decide)) rfl
    have e146_73_36 : (setO g54_21 91 (fup (h 91) b (((g54_21 73) 36) - 1))) 73 36 = (g54_21 73) 36 := rd_ (sOf_ne _ _ (by decide)) rfl
    have e147_91 : (setO g54_21 91 (fup (h 91) b (((g54_21 73) 36) - 1))) 91 = fup (h 91) b (((g54_21 73) 36) - 1) := sOf_eq _ _ _
    have e148_90 : (setO g54_21 91 (fup (h 91) b (((g54_21 73) 36) - 1))) 90 = fup (h 90) b f := (sOf_ne _ _ (by decide)).trans (((hG_21.1 90 (by decide))).trans (((hG_19.1 90 (by decide))).trans (((hG_8.1 90 (by decide))).trans (((hG_7.1 90 (by decide))).trans ((sOf_ne _ _ (by decide)).trans ((sOf_ne _ _ (by decide)).trans (sOf_eq _ _ _)))))))
    have e149_90 : (setO g54_21 91 (fup (h 91) b (((g54_21 73) 36) - 1))) 90 = fup (h 90) b f := (sOf_ne _ _ (by decide)).trans (((hG_21.1 90 (by decide))).trans (((hG_19.1 90 (by decide))).trans (((hG_8.1 90 (by decide))).trans (((hG_7.1 90 (by decide))).trans ((sOf_ne _ _ (by decide)).trans ((sOf_ne _ _ (by decide)).trans (sOf_eq _ _ _)))))))
    have e150_91 : (setO g54_21 91 (fup (h 91) b (((g54_21 73) 36) - 1))) 91 = fup (h 91) b (((g54_21 73) 36) - 1) := sOf_eq _ _ _
    have e151_83 : (setO g54_21 91 (fup (h 91) b (((g54_21 73) 36) - 1))) 83 = g2_1 83 := (sOf_ne _ _ (by decide)).trans (((hG_21.1 83 (by decide))).trans (((hG_19.1 83 (by decide))).trans (((hG_8.1 83 (by decide))).trans (((hG_7.1 83 (by decide))).trans ((sOf_ne _ _ (by decide)).trans ((sOf_ne _ _ (by decide)).trans (sOf_ne _ _ (by decide))))))))
    have e152_91 : (setO g54_21 91 (fup (h 91) b (((g54_21 73) 36) - 1))) 91 = fup (h 91) b (((g54_21 73) 36) - 1) := sOf_eq _ _ _
    have e153_92 : (setO g54_21 91 (fup (h 91) b (((g54_21 73) 36) - 1))) 92 = fup (h 92) (35 * b) 0 := (sOf_ne _ _ (by decide)).trans (((hG_21.1 92 (by decide))).trans (((hG_19.1 92 (by decide))).trans (((hG_8.1 92 (by decide))).trans (((hG_7.1 92 (by decide))).trans (sOf_eq _ _ _)))))
    have e154_92 : (setO g54_21 91 (fup (h 91) b (((g54_21 73) 36) - 1))) 92 = fup (h 92) (35 * b) 0 := (sOf_ne _ _ (by decide)).trans (((hG_21.1 92 (by decide))).trans (((hG_19.1 92 (by decide))).trans (((hG_8.1 92 (by decide))).trans (((hG_7.1 92 (by decide))).trans (sOf_eq _ _ _)))))
    have e155_91 : (setO g54_21 91 (fup (h 91) b (((g54_21 73) 36) - 1))) 91 = fup (h 91) b (((g54_21 73) 36) - 1) := sOf_eq _ _ _
    exact L71_24 ((((3200 : Int) - 1).toNat) + 1) 1 (setO g54_21 91 (fup (h 91) b (((g54_21 73) 36) - 1))) hT_23 hF_23 (by rewrite [e144_73_36]; first | omega | (simp [up, setR] <;> omega)) (by rewrite [e145_73_36]; first | omega | (simp [up, setR] <;> omega)) (by rewrite [e146_73_36, e147_91]; rw [fup_eq]; omega) (by rewrite [e148_90]; exact fup_eq _ _ _) (by rewrite [e149_90, e150_91]; exact MIQ_up hmi (by omega)) (by rewrite [e151_83, e152_91, e153_92]; exact LQ_1 hlq q1_at2) (by rewrite [e154_92]; exact fup_eq _ _ _) (by rewrite [e155_91]; first | exact h91f | (intro j hj; exact fup_ne _ _ hj)) (Nat.lt_succ_self _)
  · refine TT_vret hK hQ ?_ dX12_tellBand_38
    have e156_91 : (setO (setO (setO g2_1 90 (fup (h 90) b f)) 91 (fup (h 91) b 0)) 92 (fup (h 92) (35 * b) 0)) 91 = fup (h 91) b 0 := (sOf_ne _ _ (by decide)).trans (sOf_eq _ _ _)
    have e157_90 : (setO (setO (setO g2_1 90 (fup (h 90) b f)) 91 (fup (h 91) b 0)) 92 (fup (h 92) (35 * b) 0)) 90 = fup (h 90) b f := (sOf_ne _ _ (by decide)).trans ((sOf_ne _ _ (by decide)).trans (sOf_eq _ _ _))
    have e158_91 : (setO (setO (setO g2_1 90 (fup (h 90) b f)) 91 (fup (h 91) b 0)) 92 (fup (h 92) (35 * b) 0)) 91 = fup (h 91) b 0 := (sOf_ne _ _ (by decide)).trans (sOf_eq _ _ _)
    have e159_83 : (setO (setO (setO g2_1 90 (fup (h 90) b f)) 91 (fup (h 91) b 0)) 92 (fup (h 92) (35 * b) 0)) 83 = g2_1 83 := (sOf_ne _ _ (by decide)).trans ((sOf_ne _ _ (by decide)).trans (sOf_ne _ _ (by decide)))
    have e160_91 : (setO (setO (setO g2_1 90 (fup (h 90) b f)) 91 (fup (h 91) b 0)) 92 (fup (h 92) (35 * b) 0)) 91 = fup (h 91) b 0 := (sOf_ne _ _ (by decide)).trans (sOf_eq _ _ _)
    have e161_92 : (setO (setO (setO g2_1 90 (fup (h 90) b f)) 91 (fup (h 91) b 0)) 92 (fup (h 92) (35 * b) 0)) 92 = fup (h 92) (35 * b) 0 := sOf_eq _ _ _
    have e162_91 : (setO (setO (setO g2_1 90 (fup (h 90) b f)) 91 (fup (h 91) b 0)) 92 (fup (h 92) (35 * b) 0)) 91 = fup (h 91) b 0 := (sOf_ne _ _ (by decide)).trans (sOf_eq _ _ _)
    exact ⟨⟨hT_4, hF_4⟩, rfl, (by rewrite [e156_91]; first | omega | (rw [fup_eq]; omega)), (by rewrite [e157_90, e158_91]; first | assumption | exact MIQ_up hmi (by omega)), (by rewrite [e159_83, e160_91, e161_92]; first | exact LQ_0 hlq (by assumption) (by assumption) | exact LQ_s hlq (fun i j h1 h2 h3 => by have k9 := hlb i j h1 h2 (by omega); omega)), (by rewrite [e162_91]; first | exact h91f | (intro j hj; exact fup_ne _ _ hj))⟩

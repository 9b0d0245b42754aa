set_option maxRecDepth 20000 in
theorem s_X12_spread_73 (x y : Int) (h : Hp_) (hT : TY h) (hx : 0 ≤ x ∧ x ≤ 7) (hy : 0 ≤ y ∧ y ≤ 7) (htb : TBL (h 74) (h 75)) (ha : 32768 ≤ (h 73 32) ∧ (h 73 32) < 65536) (hm : (h 73 29) = 0 → 1 ≤ (h 73 34) ∧ 1 ≤ (h 73 36) ∧ 7 * (h 73 36) - (h 73 34) + PhS (h 96) + 18 ≤ 22300) (hw1 : (h 73 29) = 1 → 10 ≤ (h 73 26)) : Ctr yX12_spread cX12_spread 4 none (rmd 5) ly ly 0 0 [vR 73, vI x, vI y] h (fun r h' => (TY h' ∧ FRM [73, 84, 85, 93, 94, 96, 97, 98] [28, 32, 33, 34, 36, 39] h h') ∧ r = none ∧ (32768 ≤ (h' 73 32) ∧ (h' 73 32) < 65536) ∧ ((h 73 29) = 0 → 1 ≤ (h' 73 34) ∧ 1 ≤ (h' 73 36) ∧ 7 * (h' 73 36) - (h' 73 34) + PhS (h' 96) ≤ 7 * (h 73 36) - (h 73 34) + PhS (h 96) + 18) ∧ (∀ w e : Int, x < w → w ≤ 8 → y < e → e ≤ 8 → (h 73 29) = 0 → 7 * (h' 73 36) - (h' 73 34) + PhS (h' 96) + 27 * ZC w e (h' 93) ≤ 7 * (h 73 36) - (h 73 34) + PhS (h 96) + 27 * ZC w e (h 93) + 9)) := by
  refine Ctr_of (by decide) (Nat.le_of_ble_eq_true rfl) ⟨Nat.le_refl _, Nat.le_refl _⟩ (fun K hK hQ _ => ?_)
  show TT K ly 0 0 0 [(0, vR 73), (1, vI x), (2, vI y)] [] h
  have hF : FRM [73, 84, 85, 93, 94, 96, 97, 98] [28, 32, 33, 34, 36, 39] h h := FRM_rf _ _ _
  refine TT_aload_n hK rfl 0 rfl dX12_spread_0 ?_
  refine TT_iload_n hK rfl 1 rfl dX12_spread_1 ?_
  refine TT_iload_n hK rfl 2 rfl dX12_spread_2 ?_
  refine iv_X12_261 hK (s_X12_context_73 x y h hT (by first | omega | (simp [up, setR] <;> omega)) (by first | omega | (simp [up, setR] <;> omega))) (by decide) rfl ⟨by decide, by decide⟩ (by decide) rfl rfl (Nat.le_of_ble_eq_true rfl) ⟨by decide, by decide⟩ dX12_spread_3 ?_
  intro r9 g3_1 hp9
  obtain ⟨⟨hT_1, hG_1⟩, z3_1, hr9, hz_1⟩ := hp9
  rw [hr9]
  have hF_1 : FRM [73, 84, 85, 93, 94, 96, 97, 98] [28, 32, 33, 34, 36, 39] h g3_1 := FRM_tr hF hG_1 (by decide) (by decide)
  show TT K ly 0 0 6 [(0, vR 73), (1, vI x), (2, vI y)] [vI z3_1] g3_1
  refine TT_istore_n hK rfl (lv' := [(3, vI z3_1), (0, vR 73), (1, vI x), (2, vI y)]) (by decide) rfl dX12_spread_6 ?_
  refine TT_aload_n hK rfl 1 rfl dX12_spread_7 ?_
  refine TT_iload_n hK rfl 2 rfl dX12_spread_8 ?_
  refine TT_iload_n hK rfl 3 rfl dX12_spread_9 ?_
  refine iv_X12_234 hK (s_X12_spot x y g3_1 hT_1 (by first | omega | (simp [up, setR] <;> omega)) (by first | omega | (simp [up, setR] <;> omega))) ⟨by decide, by decide⟩ (by decide) rfl rfl (Nat.le_of_ble_eq_true rfl) ⟨by decide, by decide⟩ dX12_spread_10 ?_
  intro r9 g10_2 hp9
  obtain ⟨⟨hT_2, hG_2⟩, z10_2, hr9, hz_2, p1_2⟩ := hp9
  rw [hr9]
  have hF_2 : FRM [73, 84, 85, 93, 94, 96, 97, 98] [28, 32, 33, 34, 36, 39] h g10_2 := FRM_tr hF_1 hG_2 (by decide) (by decide)
  show TT K ly 0 0 13 [(3, vI z3_1), (0, vR 73), (1, vI x), (2, vI y)] [vI z10_2, vR 73] g10_2
  refine TT_cgI (b := 10 * y + x + 11) (by omega) ?_
  refine iv_X12_231 hK (s_X12_here_73 (10 * y + x + 11) g10_2 hT_2 (by first | omega | (simp [up, setR] <;> omega))) (by decide) rfl ⟨by decide, by decide⟩ (by decide) rfl rfl (Nat.le_of_ble_eq_true rfl) ⟨by decide, by decide⟩ dX12_spread_13 ?_
  intro r9 g13_3 hp9
  obtain ⟨⟨hT_3, hG_3⟩, z13_3, hr9, hz_3, p1_3⟩ := hp9
  rw [hr9]
  have hF_3 : FRM [73, 84, 85, 93, 94, 96, 97, 98] [28, 32, 33, 34, 36, 39] h g13_3 := FRM_tr hF_2 hG_3 (by decide) (by decide)
  rw [show g10_2 93 = h 93 from ((hG_2.1 93 (by decide))).trans (hG_1.1 93 (by decide))] at p1_3
  show TT K ly 0 0 16 [(3, vI z3_1), (0, vR 73), (1, vI x), (2, vI y)] [vI z13_3] g13_3
  refine TT_if_ne hK (tgt := 56) (irm (by omega) (by omega)) dX12_spread_16 (by decide) (fun hb16_4 => ?_) (fun hb16_4 => ?_)
  · refine TT_vret hK hQ ?_ dX12_spread_56
    have e5_73_32 : g13_3 73 32 = (h 73) 32 := (congrFun (hG_3.1 73 (by decide)) 32).trans ((congrFun (hG_2.1 73 (by decide)) 32).trans (congrFun (hG_1.1 73 (by decide)) 32))
    have e6_73_34 : g13_3 73 34 = (h 73) 34 := (congrFun (hG_3.1 73 (by decide)) 34).trans ((congrFun (hG_2.1 73 (by decide)) 34).trans (congrFun (hG_1.1 73 (by decide)) 34))
    have e7_73_36 : g13_3 73 36 = (h 73) 36 := (congrFun (hG_3.1 73 (by decide)) 36).trans ((congrFun (hG_2.1 73 (by decide)) 36).trans (congrFun (hG_1.1 73 (by decide)) 36))
    have e8_96 : g13_3 96 = h 96 := ((hG_3.1 96 (by decide))).trans (((hG_2.1 96 (by decide))).trans (hG_1.1 96 (by decide)))
    have e9_73_34 : g13_3 73 34 = (h 73) 34 := (congrFun (hG_3.1 73 (by decide)) 34).trans ((congrFun (hG_2.1 73 (by decide)) 34).trans (congrFun (hG_1.1 73 (by decide)) 34))
    have e10_73_36 : g13_3 73 36 = (h 73) 36 := (congrFun (hG_3.1 73 (by decide)) 36).trans ((congrFun (hG_2.1 73 (by decide)) 36).trans (congrFun (hG_1.1 73 (by decide)) 36))
    have e11_93 : g13_3 93 = h 93 := ((hG_3.1 93 (by decide))).trans (((hG_2.1 93 (by decide))).trans (hG_1.1 93 (by decide)))
    have e12_96 : g13_3 96 = h 96 := ((hG_3.1 96 (by decide))).trans (((hG_2.1 96 (by decide))).trans (hG_1.1 96 (by decide)))
    exact ⟨⟨hT_3, hF_3⟩, rfl, (by rewrite [e5_73_32]; omega), (by rewrite [e6_73_34, e7_73_36, e8_96]; omega), (by rewrite [e9_73_34, e10_73_36, e11_93, e12_96]; intro w e h1 h2 h3 h4 h5; first | omega | (have k8 := pz_at53 w e h1 h2 h3 h4 (by omega); omega))⟩
  · refine TT_iload_n hK rfl 0 rfl dX12_spread_19 ?_
    refine TT_if_le hK (tgt := 56) (irm (by omega) (by omega)) dX12_spread_20 (by decide) (fun hb20_13 => ?_) (fun hb20_13 => ?_)
    · refine TT_vret hK hQ ?_ dX12_spread_56
      have e14_73_32 : g13_3 73 32 = (h 73) 32 := (congrFun (hG_3.1 73 (by decide)) 32).trans ((congrFun (hG_2.1 73 (by decide)) 32).trans (congrFun (hG_1.1 73 (by decide)) 32))
      have e15_73_34 : g13_3 73 34 = (h 73) 34 := (congrFun (hG_3.1 73 (by decide)) 34).trans ((congrFun (hG_2.1 73 (by decide)) 34).trans (congrFun (hG_1.1 73 (by decide)) 34))
      have e16_73_36 : g13_3 73 36 = (h 73) 36 := (congrFun (hG_3.1 73 (by decide)) 36).trans ((congrFun (hG_2.1 73 (by decide)) 36).trans (congrFun (hG_1.1 73 (by decide)) 36))
      have e17_96 : g13_3 96 = h 96 := ((hG_3.1 96 (by decide))).trans (((hG_2.1 96 (by decide))).trans (hG_1.1 96 (by decide)))
      have e18_73_34 : g13_3 73 34 = (h 73) 34 := (congrFun (hG_3.1 73 (by decide)) 34).trans ((congrFun (hG_2.1 73 (by decide)) 34).trans (congrFun (hG_1.1 73 (by decide)) 34))
      have e19_73_36 : g13_3 73 36 = (h 73) 36 := (congrFun (hG_3.1 73 (by decide)) 36).trans ((congrFun (hG_2.1 73 (by decide)) 36).trans (congrFun (hG_1.1 73 (by decide)) 36))
      have e20_93 : g13_3 93 = h 93 := ((hG_3.1 93 (by decide))).trans (((hG_2.1 93 (by decide))).trans (hG_1.1 93 (by decide)))
      have e21_96 : g13_3 96 = h 96 := ((hG_3.1 96 (by decide))).trans (((hG_2.1 96 (by decide))).trans (hG_1.1 96 (by decide)))
      exact ⟨⟨hT_3, hF_3⟩, rfl, (by rewrite [e14_73_32]; omega), (by rewrite [e15_73_34, e16_73_36, e17_96]; omega), (by rewrite [e18_73_34, e19_73_36, e20_93, e21_96]; intro w e h1 h2 h3 h4 h5; first | omega | (have k8 := pz_at53 w e h1 h2 h3 h4 (by omega); omega))⟩
    · refine TT_aload_n hK rfl 1 rfl dX12_spread_23 ?_
      refine gf_X12_78 hK (by decide) rfl (q := 94) rfl rfl dX12_spread_24 ?_
      refine TT_bipush hK (by decide) dX12_spread_27 ?_
      refine TT_iload_n hK rfl 3 rfl dX12_spread_29 ?_
      refine TT_imul hK dX12_spread_30 ?_
      refine TT_iload_n hK rfl 2 rfl dX12_spread_31 ?_
      refine TT_iadd hK dX12_spread_32 ?_
      refine TT_iconst hK dX12_spread_33 ?_
      refine TT_zast hK (o := 94) (n := 64) (by decide) rfl (by omega) (by omega) (by first | decide | omega) dX12_spread_34 ?_
      refine TT_hp (h' := setO g13_3 94 (fup (h 94) ((8 * y) + x) 1)) (up_can (((hG_3.1 94 (by decide))).trans (((hG_2.1 94 (by decide))).trans (hG_1.1 94 (by decide)))) rfl rfl) ?_
      have hT_22 : TY (setO g13_3 94 (fup (h 94) ((8 * y) + x) 1)) := tu_94 hT_3 (show up g13_3 94 ((8 * y) + x) 1 = (setO g13_3 94 (fup (h 94) ((8 * y) + x) 1)) from up_can (((hG_3.1 94 (by decide))).trans (((hG_2.1 94 (by decide))).trans (hG_1.1 94 (by decide)))) rfl rfl) (by omega)
      have hF_22 : FRM [73, 84, 85, 93, 94, 96, 97, 98] [28, 32, 33, 34, 36, 39] h (setO g13_3 94 (fup (h 94) ((8 * y) + x) 1)) := FRM_up (show up g13_3 94 ((8 * y) + x) 1 = (setO g13_3 94 (fup (h 94) ((8 * y) + x) 1)) from up_can (((hG_3.1 94 (by decide))).trans (((hG_2.1 94 (by decide))).trans (hG_1.1 94 (by decide)))) rfl rfl) hF_3 (by decide) (by decide)
      refine TT_aload_n hK rfl 1 rfl dX12_spread_35 ?_
      refine TT_iload_n hK rfl 0 rfl dX12_spread_36 ?_
      refine TT_aload_n hK rfl 1 rfl dX12_spread_37 ?_
      refine TT_iload_n hK rfl 2 rfl dX12_spread_38 ?_
      refine TT_iload_n hK rfl 3 rfl dX12_spread_39 ?_
      refine iv_X12_264 hK (s_X12_bitAt_73 x y (setO g13_3 94 (fup (h 94) ((8 * y) + x) 1)) hT_22 (by first | omega | (simp [up, setR] <;> omega)) (by first | omega | (simp [up, setR] <;> omega))) (by decide) rfl ⟨by decide, by decide⟩ (by decide) rfl rfl (Nat.le_of_ble_eq_true rfl) ⟨by decide, by decide⟩ dX12_spread_40 ?_
      intro r9 g40_23 hp9
      obtain ⟨⟨hT_23, hG_23⟩, z40_23, hr9, hz_23⟩ := hp9
      rw [hr9]
      have hF_23 : FRM [73, 84, 85, 93, 94, 96, 97, 98] [28, 32, 33, 34, 36, 39] h g40_23 := FRM_tr hF_22 hG_23 (by decide) (by decide)
      show TT K ly 0 0 43 [(3, vI z3_1), (0, vR 73), (1, vI x), (2, vI y)] [vI z40_23, vI z3_1, vR 73] g40_23
      have e24_74 : g40_23 74 = h 74 := ((hG_23.1 74 (by decide))).trans ((sOf_ne _ _ (by decide)).trans (((hG_3.1 74 (by decide))).trans (((hG_2.1 74 (by decide))).trans (hG_1.1 74 (by decide)))))
      have e25_75 : g40_23 75 = h 75 := ((hG_23.1 75 (by decide))).trans ((sOf_ne _ _ (by decide)).trans (((hG_3.1 75 (by decide))).trans (((hG_2.1 75 (by decide))).trans (hG_1.1 75 (by decide)))))
      have e26_73_32 : g40_23 73 32 = (h 73) 32 := (congrFun (hG_23.1 73 (by decide)) 32).trans ((congrFun ((sOf_ne _ _ (by decide)).trans (hG_3.1 73 (by decide))) 32).trans ((congrFun (hG_2.1 73 (by decide)) 32).trans (congrFun (hG_1.1 73 (by decide)) 32)))
      have e27_73_29 : g40_23 73 29 = (h 73) 29 := (congrFun (hG_23.1 73 (by decide)) 29).trans ((congrFun ((sOf_ne _ _ (by decide)).trans (hG_3.1 73 (by decide))) 29).trans ((congrFun (hG_2.1 73 (by decide)) 29).trans (congrFun (hG_1.1 73 (by decide)) 29)))
      have e28_73_34 : g40_23 73 34 = (h 73) 34 := (congrFun (hG_23.1 73 (by decide)) 34).trans ((congrFun ((sOf_ne _ _ (by decide)).trans (hG_3.1 73 (by decide))) 34).trans ((congrFun (hG_2.1 73 (by decide)) 34).trans (congrFun (hG_1.1 73 (by decide)) 34)))
      have e29_73_36 : g40_23 73 36 = (h 73) 36 := (congrFun (hG_23.1 73 (by decide)) 36).trans ((congrFun ((sOf_ne _ _ (by decide)).trans (hG_3.1 73 (by decide))) 36).trans ((congrFun (hG_2.1 73 (by decide)) 36).trans (congrFun (hG_1.1 73 (by decide)) 36)))
      have e30_96 : g40_23 96 = h 96 := ((hG_23.1 96 (by decide))).trans ((sOf_ne _ _ (by decide)).trans (((hG_3.1 96 (by decide))).trans (((hG_2.1 96 (by decide))).trans (hG_1.1 96 (by decide)))))
      refine iv_X12_258 hK (s_X12_code_73 z3_1 z40_23 g40_23 hT_23 (by first | omega | (simp [up, setR] <;> omega)) (by first | omega | (simp [up, setR] <;> omega)) (by rewrite [e24_74, e25_75]; first | assumption | exact htb) (by rewrite [e26_73_32]; first | omega | (simp [up, setR] <;> omega)) (by rewrite [e27_73_29, e28_73_34, e29_73_36, e30_96]; first | omega | (simp [up, setR] <;> omega))) (by decide) rfl ⟨by decide, by decide⟩ (by decide) rfl rfl (Nat.le_of_ble_eq_true rfl) ⟨by decide, by decide⟩ dX12_spread_43 ?_
      intro r9 g43_31 hp9
      obtain ⟨⟨hT_31, hG_31⟩, z43_31, hr9, hz_31, pa_31, pm_31⟩ := hp9
      rw [hr9]
      have hF_31 : FRM [73, 84, 85, 93, 94, 96, 97, 98] [28, 32, 33, 34, 36, 39] h g43_31 := FRM_tr hF_23 hG_31 (by decide) (by decide)
      rw [show g40_23 73 29 = (h 73) 29 from (congrFun (hG_23.1 73 (by decide)) 29).trans ((congrFun ((sOf_ne _ _ (by decide)).trans (hG_3.1 73 (by decide))) 29).trans ((congrFun (hG_2.1 73 (by decide)) 29).trans (congrFun (hG_1.1 73 (by decide)) 29)))] at pm_31
      rw [show g40_23 73 34 = (h 73) 34 from (congrFun (hG_23.1 73 (by decide)) 34).trans ((congrFun ((sOf_ne _ _ (by decide)).trans (hG_3.1 73 (by decide))) 34).trans ((congrFun (hG_2.1 73 (by decide)) 34).trans (congrFun (hG_1.1 73 (by decide)) 34)))] at pm_31
      rw [show g40_23 73 36 = (h 73) 36 from (congrFun (hG_23.1 73 (by decide)) 36).trans ((congrFun ((sOf_ne _ _ (by decide)).trans (hG_3.1 73 (by decide))) 36).trans ((congrFun (hG_2.1 73 (by decide)) 36).trans (congrFun (hG_1.1 73 (by decide)) 36)))] at pm_31
      rw [show g40_23 96 = h 96 from ((hG_23.1 96 (by decide))).trans ((sOf_ne _ _ (by decide)).trans (((hG_3.1 96 (by decide))).trans (((hG_2.1 96 (by decide))).trans (hG_1.1 96 (by decide)))))] at pm_31
      show TT K ly 0 0 46 [(3, vI z3_1), (0, vR 73), (1, vI x), (2, vI y)] [vI z43_31] g43_31
      refine TT_iconst hK dX12_spread_46 ?_
      refine TT_icmp_ne hK (tgt := 56) (irm (by omega) (by omega)) (by decide) dX12_spread_47 (by decide) (fun hb47_32 => ?_) (fun hb47_32 => ?_)
      · refine TT_vret hK hQ ?_ dX12_spread_56
        have e33_73_32 : g43_31 73 32 = (g43_31 73) 32 := rfl
        have e34_73_34 : g43_31 73 34 = (g43_31 73) 34 := rfl
        have e35_73_36 : g43_31 73 36 = (g43_31 73) 36 := rfl
        have e36_73_34 : g43_31 73 34 = (g43_31 73) 34 := rfl
        have e37_73_36 : g43_31 73 36 = (g43_31 73) 36 := rfl
        have e38_93 : g43_31 93 = h 93 := ((hG_31.1 93 (by decide))).trans (((hG_23.1 93 (by decide))).trans ((sOf_ne _ _ (by decide)).trans (((hG_3.1 93 (by decide))).trans (((hG_2.1 93 (by decide))).trans (hG_1.1 93 (by decide))))))
        exact ⟨⟨hT_31, hF_31⟩, rfl, (by rewrite [e33_73_32]; omega), (by rewrite [e34_73_34, e35_73_36]; omega), (by rewrite [e36_73_34, e37_73_36, e38_93]; intro w e h1 h2 h3 h4 h5; first | omega | (have k8 := pz_at53 w e h1 h2 h3 h4 (by omega); omega))⟩
      · refine TT_aload_n hK rfl 1 rfl dX12_spread_50 ?_
        refine TT_iload_n hK rfl 2 rfl dX12_spread_51 ?_
        refine TT_iload_n hK rfl 3 rfl dX12_spread_52 ?_
        have e39_74 : g43_31 74 = h 74 := ((hG_31.1 74 (by decide))).trans (((hG_23.1 74 (by decide))).trans ((sOf_ne _ _ (by decide)).trans (((hG_3.1 74 (by decide))).trans (((hG_2.1 74 (by decide))).trans (hG_1.1 74 (by decide))))))
        have e40_75 : g43_31 75 = h 75 := ((hG_31.1 75 (by decide))).trans (((hG_23.1 75 (by decide))).trans ((sOf_ne _ _ (by decide)).trans (((hG_3.1 75 (by decide))).trans (((hG_2.1 75 (by decide))).trans (hG_1.1 75 (by decide))))))
        have e41_73_32 : g43_31 73 32 = (g43_31 73) 32 := rfl
        have e42_73_29 : g43_31 73 29 = (h 73) 29 := ((hG_31.2 29 (by decide))).trans ((congrFun (hG_23.1 73 (by decide)) 29).trans ((congrFun ((sOf_ne _ _ (by decide)).trans (hG_3.1 73 (by decide))) 29).trans ((congrFun (hG_2.1 73 (by decide)) 29).trans (congrFun (hG_1.1 73 (by decide)) 29))))
        have e43_73_34 : g43_31 73 34 = (g43_31 73) 34 := rfl
        have e44_73_36 : g43_31 73 36 = (g43_31 73) 36 := rfl
        have e45_73_26 : g43_31 73 26 = (h 73) 26 := ((hG_31.2 26 (by decide))).trans ((congrFun (hG_23.1 73 (by decide)) 26).trans ((congrFun ((sOf_ne _ _ (by decide)).trans (hG_3.1 73 (by decide))) 26).trans ((congrFun (hG_2.1 73 (by decide)) 26).trans (congrFun (hG_1.1 73 (by decide)) 26))))
        have e46_73_29 : g43_31 73 29 = (h 73) 29 := ((hG_31.2 29 (by decide))).trans ((congrFun (hG_23.1 73 (by decide)) 29).trans ((congrFun ((sOf_ne _ _ (by decide)).trans (hG_3.1 73 (by decide))) 29).trans ((congrFun (hG_2.1 73 (by decide)) 29).trans (congrFun (hG_1.1 73 (by decide)) 29))))
        refine iv_X12_267 hK (s_X12_wake_73 x y g43_31 hT_31 (by first | omega | (simp [up, setR] <;> omega)) (by first | omega | (simp [up, setR] <;> omega)) (by rewrite [e39_74, e40_75]; first | assumption | exact htb) (by rewrite [e41_73_32]; first | omega | (simp [up, setR] <;> omega)) (by rewrite [e42_73_29, e43_73_34, e44_73_36]; first | omega | (simp [up, setR] <;> omega)) (by rewrite [e45_73_26, e46_73_29]; first | omega | (simp [up, setR] <;> omega))) (by decide) rfl ⟨by decide, by decide⟩ (by decide) rfl rfl (Nat.le_of_ble_eq_true rfl) ⟨by decide, by decide⟩ dX12_spread_53 ?_
        intro r9 g53_47 hp9
        obtain ⟨⟨hT_47, hG_47⟩, hr9, pa_47, pm_47, pz_47⟩ := hp9
        rw [hr9]
        have hF_47 : FRM [73, 84, 85, 93, 94, 96, 97, 98] [28, 32, 33, 34, 36, 39] h g53_47 := FRM_tr hF_31 hG_47 (by decide) (by decide)
        rw [show g43_31 73 29 = (h 73) 29 from ((hG_31.2 29 (by decide))).trans ((congrFun (hG_23.1 73 (by decide)) 29).trans ((congrFun ((sOf_ne _ _ (by decide)).trans (hG_3.1 73 (by decide))) 29).trans ((congrFun (hG_2.1 73 (by decide)) 29).trans (congrFun (hG_1.1 73 (by decide)) 29))))] at pm_47
        rw [show g43_31 73 34 = (g43_31 73) 34 from rfl] at pm_47
        rw [show g43_31 73 36 = (g43_31 73) 36 from rfl] at pm_47
        rw [show g43_31 93 = h 93 from ((hG_31.1 93 (by decide))).trans (((hG_23.1 93 (by decide))).trans ((sOf_ne _ _ (by decide)).trans (((hG_3.1 93 (by decide))).trans (((hG_2.1 93 (by decide))).trans (hG_1.1 93 (by decide))))))] at pz_47
        have pz_at53 := pz_47
        show TT K ly 0 0 56 [(3, vI z3_1), (0, vR 73), (1, vI x), (2, vI y)] [] g53_47
        refine TT_vret hK hQ ?_ dX12_spread_56
        have e48_73_32 : g53_47 73 32 = (g53_47 73) 32 := rfl
        have e49_73_34 : g53_47 73 34 = (g53_47 73) 34 := rfl
        have e50_73_36 : g53_47 73 36 = (g53_47 73) 36 := rfl
        have e51_73_34 : g53_47 73 34 = (g53_47 73) 34 := rfl
        have e52_73_36 : g53_47 73 36 = (g53_47 73) 36 := rfl
        exact ⟨⟨hT_47, hF_47⟩, rfl, (by rewrite [e48_73_32]; omega), (by rewrite [e49_73_34, e50_73_36]; omega), (by rewrite [e51_73_34, e52_73_36]; intro w e h1 h2 h3 h4 h5; first | omega | (have k8 := pz_at53 w e h1 h2 h3 h4 (by omega); omega))⟩
set_option maxRecDepth 20000 in
theorem s_X12_refine_73 (x y : Int) (h : Hp_) (hT : TY h) (hx : 0 ≤ x ∧ x ≤ 7) (hy : 0 ≤ y ∧ y ≤ 7) (htb : TBL (h 74) (h 75)) (ha : 32768 ≤ (h 73 32) ∧ (h 73 32) < 65536) (hm : (h 73 29) = 0 → 1 ≤ (h 73 34) ∧ 1 ≤ (h 73 36) ∧ 7 * (h 73 36) - (h 73 34) + PhS (h 96) + 9 ≤ 22300) (hw1 : (h 73 29) = 1 → 10 ≤ (h 73 26)) : Ctr yX12_refine cX12_refine 6 none (rmd 4) ly ly 0 0 [vR 73, vI x, vI y] h (fun r h' => (TY h' ∧ FRM [73, 84, 95, 96, 97, 98] [28, 32, 33, 34, 36, 39] h h') ∧ r = none ∧ (32768 ≤ (h' 73 32) ∧ (h' 73 32) < 65536) ∧ ((h 73 29) = 0 → 1 ≤ (h' 73 34) ∧ 1 ≤ (h' 73 36) ∧ 7 * (h' 73 36) - (h' 73 34) + PhS (h' 96) ≤ 7 * (h 73 36) - (h 73 34) + PhS (h 96) + 9)) := by
  refine Ctr_of (by decide) (Nat.le_of_ble_eq_true rfl) ⟨Nat.le_refl _, Nat.le_refl _⟩ (fun K hK hQ _ => ?_)
  show TT K ly 0 0 0 [(0, vR 73), (1, vI x), (2, vI y)] [] h
  have hF : FRM [73, 84, 95, 96, 97, 98] [28, 32, 33, 34, 36, 39] h h := FRM_rf _ _ _
  refine TT_iload_n hK rfl 1 rfl dX12_refine_0 ?_
  refine TT_iload_n hK rfl 2 rfl dX12_refine_1 ?_
  refine iv_X12_234 hK (s_X12_spot x y h hT (by first | omega | (simp [up, setR] <;> omega)) (by first | omega | (simp [up, setR] <;> omega))) ⟨by decide, by decide⟩ (by decide) rfl rfl (Nat.le_of_ble_eq_true rfl) ⟨by decide, by decide⟩ dX12_refine_2 ?_
  intro r9 g2_1 hp9
  obtain ⟨⟨hT_1, hG_1⟩, z2_1, hr9, hz_1, p1_1⟩ := hp9
  rw [hr9]
  have hF_1 : FRM [73, 84, 95, 96, 97, 98] [28, 32, 33, 34, 36, 39] h g2_1 := FRM_tr hF hG_1 (by decide) (by decide)
  show TT K ly 0 0 5 [(0, vR 73), (1, vI x), (2, vI y)] [vI z2_1] g2_1
  refine TT_cgI (b := 10 * y + x + 11) (by omega) ?_
  refine TT_istore_n hK rfl (lv' := [(3, vI (10 * y + x + 11)), (0, vR 73), (1, vI x), (2, vI y)]) (by decide) rfl dX12_refine_5 ?_
  refine TT_aload_n hK rfl 1 rfl dX12_refine_6 ?_
  refine TT_iload_n hK rfl 0 rfl dX12_refine_7 ?_
  refine iv_X12_231 hK (s_X12_here_73 (10 * y + x + 11) g2_1 hT_1 (by first | omega | (simp [up, setR] <;> omega))) (by decide) rfl ⟨by decide, by decide⟩ (by decide) rfl rfl (Nat.le_of_ble_eq_true rfl) ⟨by decide, by decide⟩ dX12_refine_8 ?_
  intro r9 g8_2 hp9
  obtain ⟨⟨hT_2, hG_2⟩, z8_2, hr9, hz_2, p1_2⟩ := hp9
  rw [hr9]
  have hF_2 : FRM [73, 84, 95, 96, 97, 98] [28, 32, 33, 34, 36, 39] h g8_2 := FRM_tr hF_1 hG_2 (by decide) (by decide)
  rw [show g2_1 93 = h 93 from (hG_1.1 93 (by decide))] at p1_2
  show TT K ly 0 0 11 [(3, vI (10 * y + x + 11)), (0, vR 73), (1, vI x), (2, vI y)] [vI z8_2] g8_2
  refine TT_if_eq hK (tgt := 28) (irm (by omega) (by omega)) dX12_refine_11 (by decide) (fun hb11_3 => ?_) (fun hb11_3 => ?_)
  · refine TT_vret hK hQ ?_ dX12_refine_28
    have e4_73_32 : g8_2 73 32 = (h 73) 32 := (congrFun (hG_2.1 73 (by decide)) 32).trans (congrFun (hG_1.1 73 (by decide)) 32)
    have e5_73_34 : g8_2 73 34 = (h 73) 34 := (congrFun (hG_2.1 73 (by decide)) 34).trans (congrFun (hG_1.1 73 (by decide)) 34)
    have e6_73_36 : g8_2 73 36 = (h 73) 36 := (congrFun (hG_2.1 73 (by decide)) 36).trans (congrFun (hG_1.1 73 (by decide)) 36)
    have e7_96 : g8_2 96 = h 96 := ((hG_2.1 96 (by decide))).trans (hG_1.1 96 (by decide))
    exact ⟨⟨hT_2, hF_2⟩, rfl, (by rewrite [e4_73_32]; omega), (by rewrite [e5_73_34, e6_73_36, e7_96]; omega)⟩
  · refine TT_aload_n hK rfl 1 rfl dX12_refine_14 ?_
    refine gf_X12_78 hK (by decide) rfl (q := 94) rfl rfl dX12_refine_15 ?_
    refine TT_bipush hK (by decide) dX12_refine_18 ?_
    refine TT_iload_n hK rfl 3 rfl dX12_refine_20 ?_
    refine TT_imul hK dX12_refine_21 ?_
    refine TT_iload_n hK rfl 2 rfl dX12_refine_22 ?_
    refine TT_iadd hK dX12_refine_23 ?_
    refine TT_zald hK (o := 94) (n := 64) (by decide) rfl (by first | omega | (simp [up, setR] <;> omega)) (by first | omega | (simp [up, setR] <;> omega)) (v := (h 94) ((8 * y) + x)) (rd_ (((hG_2.1 94 (by decide))).trans (hG_1.1 94 (by decide))) rfl) dX12_refine_24 ?_
    have r8 := ty_94 (i := (8 * y) + x) (v := (h 94) ((8 * y) + x)) hT_2 (rd_ (((hG_2.1 94 (by decide))).trans (hG_1.1 94 (by decide))) rfl) (by omega) (by omega)
    refine TT_if_eq hK (tgt := 29) (irm (by omega) (by omega)) dX12_refine_25 (by decide) (fun hb25_9 => ?_) (fun hb25_9 => ?_)
    · refine TT_aload_n hK rfl 1 rfl dX12_refine_29 ?_
      refine gf_X12_81 hK (by decide) rfl (q := 95) rfl rfl dX12_refine_30 ?_
      refine TT_bipush hK (by decide) dX12_refine_33 ?_
      refine TT_iload_n hK rfl 3 rfl dX12_refine_35 ?_
      refine TT_imul hK dX12_refine_36 ?_
      refine TT_iload_n hK rfl 2 rfl dX12_refine_37 ?_
      refine TT_iadd hK dX12_refine_38 ?_
      refine TT_zald hK (o := 95) (n := 64) (by decide) rfl (by first | omega | (simp [up, setR] <;> omega)) (by first | omega | (simp [up, setR] <;> omega)) (v := (h 95) ((8 * y) + x)) (rd_ (((hG_2.1 95 (by decide))).trans (hG_1.1 95 (by decide))) rfl) dX12_refine_39 ?_
      have r10 := ty_95 (i := (8 * y) + x) (v := (h 95) ((8 * y) + x)) hT_2 (rd_ (((hG_2.1 95 (by decide))).trans (hG_1.1 95 (by decide))) rfl) (by omega) (by omega)
      refine TT_if_eq hK (tgt := 48) (irm (by omega) (by omega)) dX12_refine_40 (by decide) (fun hb40_11 => ?_) (fun hb40_11 => ?_)
      · refine TT_aload_n hK rfl 1 rfl dX12_refine_48 ?_
        refine TT_iload_n hK rfl 0 rfl dX12_refine_49 ?_
        refine iv_X12_237 hK (s_X12_inRow_73 (10 * y + x + 11) g8_2 hT_2 (by first | omega | (simp [up, setR] <;> omega))) (by decide) rfl ⟨by decide, by decide⟩ (by decide) rfl rfl (Nat.le_of_ble_eq_true rfl) ⟨by decide, by decide⟩ dX12_refine_50 ?_
        intro r9 g50_12 hp9
        obtain ⟨⟨hT_12, hG_12⟩, z50_12, hr9, hz_12⟩ := hp9
        rw [hr9]
        have hF_12 : FRM [73, 84, 95, 96, 97, 98] [28, 32, 33, 34, 36, 39] h g50_12 := FRM_tr hF_2 hG_12 (by decide) (by decide)
        show TT K ly 0 0 53 [(3, vI (10 * y + x + 11)), (0, vR 73), (1, vI x), (2, vI y)] [vI z50_12] g50_12
        refine TT_aload_n hK rfl 1 rfl dX12_refine_53 ?_
        refine TT_iload_n hK rfl 0 rfl dX12_refine_54 ?_
        refine iv_X12_240 hK (s_X12_inColumn_73 (10 * y + x + 11) g50_12 hT_12 (by first | omega | (simp [up, setR] <;> omega))) (by decide) rfl ⟨by decide, by decide⟩ (by decide) rfl rfl (Nat.le_of_ble_eq_true rfl) ⟨by decide, by decide⟩ dX12_refine_55 ?_
        intro r9 g55_13 hp9
        obtain ⟨⟨hT_13, hG_13⟩, z55_13, hr9, hz_13⟩ := hp9
        rw [hr9]
        have hF_13 : FRM [73, 84, 95, 96, 97, 98] [28, 32, 33, 34, 36, 39] h g55_13 := FRM_tr hF_12 hG_13 (by decide) (by decide)
        show TT K ly 0 0 58 [(3, vI (10 * y + x + 11)), (0, vR 73), (1, vI x), (2, vI y)] [vI z55_13, vI z50_12] g55_13
        refine TT_iadd hK dX12_refine_58 ?_
        refine TT_aload_n hK rfl 1 rfl dX12_refine_59 ?_
        refine TT_iload_n hK rfl 0 rfl dX12_refine_60 ?_
        refine iv_X12_243 hK (s_X12_acrossOf_73 (10 * y + x + 11) g55_13 hT_13 (by first | omega | (simp [up, setR] <;> omega))) (by decide) rfl ⟨by decide, by decide⟩ (by decide) rfl rfl (Nat.le_of_ble_eq_true rfl) ⟨by decide, by decide⟩ dX12_refine_61 ?_
        intro r9 g61_14 hp9
        obtain ⟨⟨hT_14, hG_14⟩, z61_14, hr9, hz_14⟩ := hp9
        rw [hr9]
        have hF_14 : FRM [73, 84, 95, 96, 97, 98] [28, 32, 33, 34, 36, 39] h g61_14 := FRM_tr hF_13 hG_14 (by decide) (by decide)
        show TT K ly 0 0 64 [(3, vI (10 * y + x + 11)), (0, vR 73), (1, vI x), (2, vI y)] [vI z61_14, vI (z50_12 + z55_13)] g61_14
        refine TT_iadd hK dX12_refine_64 ?_
        refine TT_if_le hK (tgt := 73) (irm (by omega) (by omega)) dX12_refine_65 (by decide) (fun hb65_15 => ?_) (fun hb65_15 => ?_)
        · refine TT_bipush hK (by decide) dX12_refine_73 ?_
          refine TT_istore hK (lv' := [(4, vI 14), (3, vI (10 * y + x + 11)), (0, vR 73), (1, vI x), (2, vI y)]) (by decide) rfl dX12_refine_75 ?_
          refine TT_aload_n hK rfl 2 rfl dX12_refine_77 ?_
          refine TT_iload hK 0 rfl dX12_refine_78 ?_
          refine TT_aload_n hK rfl 2 rfl dX12_refine_80 ?_
          refine TT_iload_n hK rfl 3 rfl dX12_refine_81 ?_
          refine TT_iload_n hK rfl 4 rfl dX12_refine_82 ?_
          refine iv_X12_264 hK (s_X12_bitAt_73 x y g61_14 hT_14 (by first | omega | (simp [up, setR] <;> omega)) (by first | omega | (simp [up, setR] <;> omega))) (by decide) rfl ⟨by decide, by decide⟩ (by decide) rfl rfl (Nat.le_of_ble_eq_true rfl) ⟨by decide, by decide⟩ dX12_refine_83 ?_
          intro r9 g83_16 hp9
          obtain ⟨⟨hT_16, hG_16⟩, z83_16, hr9, hz_16⟩ := hp9
          rw [hr9]
          have hF_16 : FRM [73, 84, 95, 96, 97, 98] [28, 32, 33, 34, 36, 39] h g83_16 := FRM_tr hF_14 hG_16 (by decide) (by decide)
          show TT K ly 0 0 86 [(4, vI 14), (3, vI (10 * y + x + 11)), (0, vR 73), (1, vI x), (2, vI y)] [vI z83_16, vI 14, vR 73] g83_16
          have e17_74 : g83_16 74 = h 74 := ((hG_16.1 74 (by decide))).trans (((hG_14.1 74 (by decide))).trans (((hG_13.1 74 (by decide))).trans (((hG_12.1 74 (by decide))).trans (((hG_2.1 74 (by decide))).trans (hG_1.1 74 (by decide))))))
          have e18_75 : g83_16 75 = h 75 := ((hG_16.1 75 (by decide))).trans (((hG_14.1 75 (by decide))).trans (((hG_13.1 75 (by decide))).trans (((hG_12.1 75 (by decide))).trans (((hG_2.1 75 (by decide))).trans (hG_1.1 75 (by decide))))))
          have e19_73_32 : g83_16 73 32 = (h 73) 32 := (congrFun (hG_16.1 73 (by decide)) 32).trans ((congrFun (hG_14.1 73 (by decide)) 32).trans ((congrFun (hG_13.1 73 (by decide)) 32).trans ((congrFun (hG_12.1 73 (by decide)) 32).trans ((congrFun (hG_2.1 73 (by decide)) 32).trans (congrFun (hG_1.1 73 (by decide)) 32)))))
          have e20_73_29 : g83_16 73 29 = (h 73) 29 := (congrFun (hG_16.1 73 (by decide)) 29).trans ((congrFun (hG_14.1 73 (by decide)) 29).trans ((congrFun (hG_13.1 73 (by decide)) 29).trans ((congrFun (hG_12.1 73 (by decide)) 29).trans ((congrFun (hG_2.1 73 (by decide)) 29).trans (congrFun (hG_1.1 73 (by decide)) 29)))))
          have e21_73_34 : g83_16 73 34 = (h 73) 34 := (congrFun (hG_16.1 73 (by decide)) 34).trans ((congrFun (hG_14.1 73 (by decide)) 34).trans ((congrFun (hG_13.1 73 (by decide)) 34).trans ((congrFun (hG_12.1 73 (by decide)) 34).trans ((congrFun (hG_2.1 73 (by decide)) 34).trans (congrFun (hG_1.1 73 (by decide)) 34)))))
          have e22_73_36 : g83_16 73 36 = (h 73) 36 := (congrFun (hG_16.1 73 (by decide)) 36).trans ((congrFun (hG_14.1 73 (by decide)) 36).trans ((congrFun (hG_13.1 73 (by decide)) 36).trans ((congrFun (hG_12.1 73 (by decide)) 36).trans ((congrFun (hG_2.1 73 (by decide)) 36).trans (congrFun (hG_1.1 73 (by decide)) 36)))))
          have e23_96 : g83_16 96 = h 96 := ((hG_16.1 96 (by decide))).trans (((hG_14.1 96 (by decide))).trans (((hG_13.1 96 (by decide))).trans (((hG_12.1 96 (by decide))).trans (((hG_2.1 96 (by decide))).trans (hG_1.1 96 (by decide))))))
          refine iv_X12_258 hK (s_X12_code_73 14 z83_16 g83_16 hT_16 (by first | omega | (simp [up, setR] <;> omega)) (by first | omega | (simp [up, setR] <;> omega)) (by rewrite [e17_74, e18_75]; first | assumption | exact htb) (by rewrite [e19_73_32]; first | omega | (simp [up, setR] <;> omega)) (by rewrite [e20_73_29, e21_73_34, e22_73_36, e23_96]; first | omega | (simp [up, setR] <;> omega))) (by decide) rfl ⟨by decide, by decide⟩ (by decide) rfl rfl (Nat.le_of_ble_eq_true rfl) ⟨by decide, by decide⟩ dX12_refine_86 ?_
          intro r9 g86_24 hp9
          obtain ⟨⟨hT_24, hG_24⟩, z86_24, hr9, hz_24, pa_24, pm_24⟩ := hp9
          rw [hr9]
          have hF_24 : FRM [73, 84, 95, 96, 97, 98] [28, 32, 33, 34, 36, 39] h g86_24 := FRM_tr hF_16 hG_24 (by decide) (by decide)
          rw [show g83_16 73 29 = (h 73) 29 from (congrFun (hG_16.1 73 (by decide)) 29).trans ((congrFun (hG_14.1 73 (by decide)) 29).trans ((congrFun (hG_13.1 73 (by decide)) 29).trans ((congrFun (hG_12.1 73 (by decide)) 29).trans ((congrFun (hG_2.1 73 (by decide)) 29).trans (congrFun (hG_1.1 73 (by decide)) 29)))))] at pm_24
          rw [show g83_16 73 34 = (h 73) 34 from (congrFun (hG_16.1 73 (by decide)) 34).trans ((congrFun (hG_14.1 73 (by decide)) 34).trans ((congrFun (hG_13.1 73 (by decide)) 34).trans ((congrFun (hG_12.1 73 (by decide)) 34).trans ((congrFun (hG_2.1 73 (by decide)) 34).trans (congrFun (hG_1.1 73 (by decide)) 34)))))] at pm_24
          rw [show g83_16 73 36 = (h 73) 36 from (congrFun (hG_16.1 73 (by decide)) 36).trans ((congrFun (hG_14.1 73 (by decide)) 36).trans ((congrFun (hG_13.1 73 (by decide)) 36).trans ((congrFun (hG_12.1 73 (by decide)) 36).trans ((congrFun (hG_2.1 73 (by decide)) 36).trans (congrFun (hG_1.1 73 (by decide)) 36)))))] at pm_24
          rw [show g83_16 96 = h 96 from ((hG_16.1 96 (by decide))).trans (((hG_14.1 96 (by decide))).trans (((hG_13.1 96 (by decide))).trans (((hG_12.1 96 (by decide))).trans (((hG_2.1 96 (by decide))).trans (hG_1.1 96 (by decide))))))] at pm_24
          show TT K ly 0 0 89 [(4, vI 14), (3, vI (10 * y + x + 11)), (0, vR 73), (1, vI x), (2, vI y)] [vI z86_24] g86_24
          refine TT_istore hK (lv' := [(5, vI z86_24), (4, vI 14), (3, vI (10 * y + x + 11)), (0, vR 73), (1, vI x), (2, vI y)]) (by decide) rfl dX12_refine_89 ?_
          refine TT_aload_n hK rfl 3 rfl dX12_refine_91 ?_
          refine gf_X12_81 hK (by decide) rfl (q := 95) rfl rfl dX12_refine_92 ?_
          refine TT_bipush hK (by decide) dX12_refine_95 ?_
          refine TT_iload_n hK rfl 5 rfl dX12_refine_97 ?_
          refine TT_imul hK dX12_refine_98 ?_
          refine TT_iload_n hK rfl 4 rfl dX12_refine_99 ?_
          refine TT_iadd hK dX12_refine_100 ?_
          refine TT_iconst hK dX12_refine_101 ?_
          refine TT_zast hK (o := 95) (n := 64) (by decide) rfl (by omega) (by omega) (by first | decide | omega) dX12_refine_102 ?_
          refine TT_hp (h' := setO g86_24 95 (fup (h 95) ((8 * y) + x) 1)) (up_can (((hG_24.1 95 (by decide))).trans (((hG_16.1 95 (by decide))).trans (((hG_14.1 95 (by decide))).trans (((hG_13.1 95 (by decide))).trans (((hG_12.1 95 (by decide))).trans (((hG_2.1 95 (by decide))).trans (hG_1.1 95 (by decide)))))))) rfl rfl) ?_
          have hT_25 : TY (setO g86_24 95 (fup (h 95) ((8 * y) + x) 1)) := tu_95 hT_24 (show up g86_24 95 ((8 * y) + x) 1 = (setO g86_24 95 (fup (h 95) ((8 * y) + x) 1)) from up_can (((hG_24.1 95 (by decide))).trans (((hG_16.1 95 (by decide))).trans (((hG_14.1 95 (by decide))).trans (((hG_13.1 95 (by decide))).trans (((hG_12.1 95 (by decide))).trans (((hG_2.1 95 (by decide))).trans (hG_1.1 95 (by decide)))))))) rfl rfl) (by omega)
          have hF_25 : FRM [73, 84, 95, 96, 97, 98] [28, 32, 33, 34, 36, 39] h (setO g86_24 95 (fup (h 95) ((8 * y) + x) 1)) := FRM_up (show up g86_24 95 ((8 * y) + x) 1 = (setO g86_24 95 (fup (h 95) ((8 * y) + x) 1)) from up_can (((hG_24.1 95 (by decide))).trans (((hG_16.1 95 (by decide))).trans (((hG_14.1 95 (by decide))).trans (((hG_13.1 95 (by decide))).trans (((hG_12.1 95 (by decide))).trans (((hG_2.1 95 (by decide))).trans (hG_1.1 95 (by decide)))))))) rfl rfl) hF_24 (by decide) (by decide)
          refine TT_aload_n hK rfl 3 rfl dX12_refine_103 ?_
          refine gf_X12_163 hK (by decide) rfl (v := (h 73) 29) ((rd_ (sOf_ne _ _ (by decide)) rfl).trans (((hG_24.2 29 (by decide))).trans ((congrFun (hG_16.1 73 (by decide)) 29).trans ((congrFun (hG_14.1 73 (by decide)) 29).trans ((congrFun (hG_13.1 73 (by decide)) 29).trans ((congrFun (hG_12.1 73 (by decide)) 29).trans ((congrFun (hG_2.1 73 (by decide)) 29).trans (congrFun (hG_1.1 73 (by decide)) 29)))))))) dX12_refine_104 ?_
          have r26 := ty_73_29 (v := (h 73) 29) hT_25 ((rd_ (sOf_ne _ _ (by decide)) rfl).trans (((hG_24.2 29 (by decide))).trans ((congrFun (hG_16.1 73 (by decide)) 29).trans ((congrFun (hG_14.1 73 (by decide)) 29).trans ((congrFun (hG_13.1 73 (by decide)) 29).trans ((congrFun (hG_12.1 73 (by decide)) 29).trans ((congrFun (hG_2.1 73 (by decide)) 29).trans (congrFun (hG_1.1 73 (by decide)) 29))))))))
          refine TT_iconst hK dX12_refine_107 ?_
          refine TT_icmp_ne hK (tgt := 141) (irm (by omega) (by omega)) (by decide) dX12_refine_108 (by decide) (fun hb108_27 => ?_) (fun hb108_27 => ?_)
          · refine TT_vret hK hQ ?_ dX12_refine_141
            have e28_73_32 : (setO g86_24 95 (fup (h 95) ((8 * y) + x) 1)) 73 32 = (g86_24 73) 32 := rd_ (sOf_ne _ _ (by decide)) rfl
            have e29_73_34 : (setO g86_24 95 (fup (h 95) ((8 * y) + x) 1)) 73 34 = (g86_24 73) 34 := rd_ (sOf_ne _ _ (by decide)) rfl
            have e30_73_36 : (setO g86_24 95 (fup (h 95) ((8 * y) + x) 1)) 73 36 = (g86_24 73) 36 := rd_ (sOf_ne _ _ (by decide)) rfl
            have e31_96 : (setO g86_24 95 (fup (h 95) ((8 * y) + x) 1)) 96 = g86_24 96 := sOf_ne _ _ (by decide)
            exact ⟨⟨hT_25, hF_25⟩, rfl, (by rewrite [e28_73_32]; omega), (by rewrite [e29_73_34, e30_73_36, e31_96]; omega)⟩
          · refine TT_aload_n hK rfl 3 rfl dX12_refine_111 ?_
            refine gf_X12_47 hK (by decide) rfl (q := 84) rfl rfl dX12_refine_112 ?_
            refine TT_aload_n hK rfl 3 rfl dX12_refine_115 ?_
            refine TT_iload_n hK rfl 4 rfl dX12_refine_116 ?_
            refine TT_iload_n hK rfl 5 rfl dX12_refine_117 ?_
            refine iv_X12_249 hK (s_X12_cell_73 x y (setO g86_24 95 (fup (h 95) ((8 * y) + x) 1)) hT_25 (by first | omega | (simp [up, setR] <;> omega)) (by first | omega | (simp [up, setR] <;> omega))) (by decide) rfl ⟨by decide, by decide⟩ (by decide) rfl rfl (Nat.le_of_ble_eq_true rfl) ⟨by decide, by decide⟩ dX12_refine_118 ?_
            intro r9 g118_32 hp9
            obtain ⟨⟨hT_32, hG_32⟩, z118_32, hr9, hz_32, p1_32⟩ := hp9
            rw [hr9]
            have hF_32 : FRM [73, 84, 95, 96, 97, 98] [28, 32, 33, 34, 36, 39] h g118_32 := FRM_tr hF_25 hG_32 (by decide) (by decide)
            rw [show (setO g86_24 95 (fup (h 95) ((8 * y) + x) 1)) 73 26 = (h 73) 26 from (rd_ (sOf_ne _ _ (by decide)) rfl).trans (((hG_24.2 26 (by decide))).trans ((congrFun (hG_16.1 73 (by decide)) 26).trans ((congrFun (hG_14.1 73 (by decide)) 26).trans ((congrFun (hG_13.1 73 (by decide)) 26).trans ((congrFun (hG_12.1 73 (by decide)) 26).trans ((congrFun (hG_2.1 73 (by decide)) 26).trans (congrFun (hG_1.1 73 (by decide)) 26)))))))] at p1_32
            show TT K ly 0 0 121 [(5, vI z86_24), (4, vI 14), (3, vI (10 * y + x + 11)), (0, vR 73), (1, vI x), (2, vI y)] [vI z118_32, vR 84] g118_32
            refine TT_aload_n hK rfl 3 rfl dX12_refine_121 ?_
            refine gf_X12_47 hK (by decide) rfl (q := 84) rfl rfl dX12_refine_122 ?_
            refine TT_aload_n hK rfl 3 rfl dX12_refine_125 ?_
            refine TT_iload_n hK rfl 4 rfl dX12_refine_126 ?_
            refine TT_iload_n hK rfl 5 rfl dX12_refine_127 ?_
            refine iv_X12_249 hK (s_X12_cell_73 x y g118_32 hT_32 (by first | omega | (simp [up, setR] <;> omega)) (by first | omega | (simp [up, setR] <;> omega))) (by decide) rfl ⟨by decide, by decide⟩ (by decide) rfl rfl (Nat.le_of_ble_eq_true rfl) ⟨by decide, by decide⟩ dX12_refine_128 ?_
            intro r9 g128_33 hp9
            obtain ⟨⟨hT_33, hG_33⟩, z128_33, hr9, hz_33, p1_33⟩ := hp9
            rw [hr9]
            have hF_33 : FRM [73, 84, 95, 96, 97, 98] [28, 32, 33, 34, 36, 39] h g128_33 := FRM_tr hF_32 hG_33 (by decide) (by decide)
            rw [show g118_32 73 26 = (h 73) 26 from (congrFun (hG_32.1 73 (by decide)) 26).trans ((rd_ (sOf_ne _ _ (by decide)) rfl).trans (((hG_24.2 26 (by decide))).trans ((congrFun (hG_16.1 73 (by decide)) 26).trans ((congrFun (hG_14.1 73 (by decide)) 26).trans ((congrFun (hG_13.1 73 (by decide)) 26).trans ((congrFun (hG_12.1 73 (by decide)) 26).trans ((congrFun (hG_2.1 73 (by decide)) 26).trans (congrFun (hG_1.1 73 (by decide)) 26))))))))] at p1_33
            show TT K ly 0 0 131 [(5, vI z86_24), (4, vI 14), (3, vI (10 * y + x + 11)), (0, vR 73), (1, vI x), (2, vI y)] [vI z128_33, vR 84, vI z118_32, vR 84] g128_33
            refine TT_iald hK (o := 84) (n := 1280) (by decide) rfl (by first | omega | (simp [up, setR] <;> omega)) (by first | omega | (simp [up, setR] <;> omega)) (v := (h 84) z128_33) (rd_ (((hG_33.1 84 (by decide))).trans (((hG_32.1 84 (by decide))).trans ((sOf_ne _ _ (by decide)).trans (((hG_24.1 84 (by decide))).trans (((hG_16.1 84 (by decide))).trans (((hG_14.1 84 (by decide))).trans (((hG_13.1 84 (by decide))).trans (((hG_12.1 84 (by decide))).trans (((hG_2.1 84 (by decide))).trans (hG_1.1 84 (by decide))))))))))) rfl) dX12_refine_131 ?_
            have r34 := ty_84 (i := z128_33) (v := (h 84) z128_33) hT_33 (rd_ (((hG_33.1 84 (by decide))).trans (((hG_32.1 84 (by decide))).trans ((sOf_ne _ _ (by decide)).trans (((hG_24.1 84 (by decide))).trans (((hG_16.1 84 (by decide))).trans (((hG_14.1 84 (by decide))).trans (((hG_13.1 84 (by decide))).trans (((hG_12.1 84 (by decide))).trans (((hG_2.1 84 (by decide))).trans (hG_1.1 84 (by decide))))))))))) rfl) (by omega) (by omega)
            refine TT_iload hK 0 rfl dX12_refine_132 ?_
            refine TT_aload_n hK rfl 3 rfl dX12_refine_134 ?_
            refine gf_X12_252 hK (by decide) rfl (v := (h 73) 27) ((congrFun (hG_33.1 73 (by decide)) 27).trans ((congrFun (hG_32.1 73 (by decide)) 27).trans ((rd_ (sOf_ne _ _ (by decide)) rfl).trans (((hG_24.2 27 (by decide))).trans ((congrFun (hG_16.1 73 (by decide)) 27).trans ((congrFun (hG_14.1 73 (by decide)) 27).trans ((congrFun (hG_13.1 73 (by decide)) 27).trans ((congrFun (hG_12.1 73 (by decide)) 27).trans ((congrFun (hG_2.1 73 (by decide)) 27).trans (congrFun (hG_1.1 73 (by decide)) 27)))))))))) dX12_refine_135 ?_
            have r35 := ty_73_27 (v := (h 73) 27) hT_33 ((congrFun (hG_33.1 73 (by decide)) 27).trans ((congrFun (hG_32.1 73 (by decide)) 27).trans ((rd_ (sOf_ne _ _ (by decide)) rfl).trans (((hG_24.2 27 (by decide))).trans ((congrFun (hG_16.1 73 (by decide)) 27).trans ((congrFun (hG_14.1 73 (by decide)) 27).trans ((congrFun (hG_13.1 73 (by decide)) 27).trans ((congrFun (hG_12.1 73 (by decide)) 27).trans ((congrFun (hG_2.1 73 (by decide)) 27).trans (congrFun (hG_1.1 73 (by decide)) 27))))))))))
            refine TT_ishl_a hK dX12_refine_138 (fun x138_36 hx36 => ?_)
            refine TT_ior hK dX12_refine_139 ?_
            refine TT_w32 (fun x140_37 hx37 => ?_)
            refine TT_iast hK (o := 84) (n := 1280) (by decide) rfl (by omega) (by omega) dX12_refine_140 ?_
            refine TT_hp (h' := setO g128_33 84 (fup (h 84) z118_32 x140_37)) (up_can (((hG_33.1 84 (by decide))).trans (((hG_32.1 84 (by decide))).trans ((sOf_ne _ _ (by decide)).trans (((hG_24.1 84 (by decide))).trans (((hG_16.1 84 (by decide))).trans (((hG_14.1 84 (by decide))).trans (((hG_13.1 84 (by decide))).trans (((hG_12.1 84 (by decide))).trans (((hG_2.1 84 (by decide))).trans (hG_1.1 84 (by decide))))))))))) rfl rfl) ?_
            have hT_38 : TY (setO g128_33 84 (fup (h 84) z118_32 x140_37)) := tu_84 hT_33 (show up g128_33 84 z118_32 x140_37 = (setO g128_33 84 (fup (h 84) z118_32 x140_37)) from up_can (((hG_33.1 84 (by decide))).trans (((hG_32.1 84 (by decide))).trans ((sOf_ne _ _ (by decide)).trans (((hG_24.1 84 (by decide))).trans (((hG_16.1 84 (by decide))).trans (((hG_14.1 84 (by decide))).trans (((hG_13.1 84 (by decide))).trans (((hG_12.1 84 (by decide))).trans (((hG_2.1 84 (by decide))).trans (hG_1.1 84 (by decide))))))))))) rfl rfl) (by omega)
            have hF_38 : FRM [73, 84, 95, 96, 97, 98] [28, 32, 33, 34, 36, 39] h (setO g128_33 84 (fup (h 84) z118_32 x140_37)) := FRM_up (show up g128_33 84 z118_32 x140_37 = (setO g128_33 84 (fup (h 84) z118_32 x140_37)) from up_can (((hG_33.1 84 (by decide))).trans (((hG_32.1 84 (by decide))).trans ((sOf_ne _ _ (by decide)).trans (((hG_24.1 84 (by decide))).trans (((hG_16.1 84 (by decide))).trans (((hG_14.1 84 (by decide))).trans (((hG_13.1 84 (by decide))).trans (((hG_12.1 84 (by decide))).trans (((hG_2.1 84 (by decide))).trans (hG_1.1 84 (by decide))))))))))) rfl rfl) hF_33 (by decide) (by decide)
            refine TT_vret hK hQ ?_ dX12_refine_141
            have e39_73_32 : (setO g128_33 84 (fup (h 84) z118_32 x140_37)) 73 32 = (g86_24 73) 32 := (congrFun ((sOf_ne _ _ (by decide)).trans (hG_33.1 73 (by decide))) 32).trans ((congrFun (hG_32.1 73 (by decide)) 32).trans (rd_ (sOf_ne _ _ (by decide)) rfl))
            have e40_73_34 : (setO g128_33 84 (fup (h 84) z118_32 x140_37)) 73 34 = (g86_24 73) 34 := (congrFun ((sOf_ne _ _ (by decide)).trans (hG_33.1 73 (by decide))) 34).trans ((congrFun (hG_32.1 73 (by decide)) 34).trans (rd_ (sOf_ne _ _ (by decide)) rfl))
            have e41_73_36 : (setO g128_33 84 (fup (h 84) z118_32 x140_37)) 73 36 = (g86_24 73) 36 := (congrFun ((sOf_ne _ _ (by decide)).trans (hG_33.1 73 (by decide))) 36).trans ((congrFun (hG_32.1 73 (by decide)) 36).trans (rd_ (sOf_ne _ _ (by decide)) rfl))
            have e42_96 : (setO g128_33 84 (fup (h 84) z118_32 x140_37)) 96 = g86_24 96 := (sOf_ne _ _ (by decide)).trans (((hG_33.1 96 (by decide))).trans (((hG_32.1 96 (by decide))).trans (sOf_ne _ _ (by decide))))
            exact ⟨⟨hT_38, hF_38⟩, rfl, (by rewrite [e39_73_32]; omega), (by rewrite [e40_73_34, e41_73_36, e42_96]; omega)⟩
        · refine TT_bipush hK (by decide) dX12_refine_68 ?_
          refine TT_goto hK (tgt := 75) dX12_refine_70 (by decide) ?_
          refine TT_istore hK (lv' := [(4, vI 15), (3, vI (10 * y + x + 11)), (0, vR 73), (1, vI x), (2, vI y)]) (by decide) rfl dX12_refine_75 ?_
          refine TT_aload_n hK rfl 2 rfl dX12_refine_77 ?_
          refine TT_iload hK 0 rfl dX12_refine_78 ?_
          refine TT_aload_n hK rfl 2 rfl dX12_refine_80 ?_
          refine TT_iload_n hK rfl 3 rfl dX12_refine_81 ?_
          refine TT_iload_n hK rfl 4 rfl dX12_refine_82 ?_
          refine iv_X12_264 hK (s_X12_bitAt_73 x y g61_14 hT_14 (by first | omega | (simp [up, setR] <;> omega)) (by first | omega | (simp [up, setR] <;> omega))) (by decide) rfl ⟨by decide, by decide⟩ (by decide) rfl rfl (Nat.le_of_ble_eq_true rfl) ⟨by decide, by decide⟩ dX12_refine_83 ?_
          intro r9 g83_43 hp9
          obtain ⟨⟨hT_43, hG_43⟩, z83_43, hr9, hz_43⟩ := hp9
          rw [hr9]
          have hF_43 : FRM [73, 84, 95, 96, 97, 98] [28, 32, 33, 34, 36, 39] h g83_43 := FRM_tr hF_14 hG_43 (by decide) (by decide)
          show TT K ly 0 0 86 [(4, vI 15), (3, vI (10 * y + x + 11)), (0, vR 73), (1, vI x), (2, vI y)] [vI z83_43, vI 15, vR 73] g83_43
          have e44_74 : g83_43 74 = h 74 := ((hG_43.1 74 (by decide))).trans (((hG_14.1 74 (by decide))).trans (((hG_13.1 74 (by decide))).trans (((hG_12.1 74 (by decide))).trans (((hG_2.1 74 (by decide))).trans (hG_1.1 74 (by decide))))))
          have e45_75 : g83_43 75 = h 75 := ((hG_43.1 75 (by decide))).trans (((hG_14.1 75 (by decide))).trans (((hG_13.1 75 (by decide))).trans (((hG_12.1 75 (by decide))).trans (((hG_2.1 75 (by decide))).trans (hG_1.1 75 (by decide))))))
          have e46_73_32 : g83_43 73 32 = (h 73) 32 := (congrFun (hG_43.1 73 (by decide)) 32).trans ((congrFun (hG_14.1 73 (by decide)) 32).trans ((congrFun (hG_13.1 73 (by decide)) 32).trans ((congrFun (hG_12.1 73 (by decide)) 32).trans ((congrFun (hG_2.1 73 (by decide)) 32).trans (congrFun (hG_1.1 73 (by decide)) 32)))))
          have e47_73_29 : g83_43 73 29 = (h 73) 29 := (congrFun (hG_43.1 73 (by decide)) 29).trans ((congrFun (hG_14.1 73 (by decide)) 29).trans ((congrFun (hG_13.1 73 (by decide)) 29).trans ((congrFun (hG_12.1 73 (by decide)) 29).trans ((congrFun (hG_2.1 73 (by decide)) 29).trans (congrFun (hG_1.1 73 (by decide)) 29)))))
          have e48_73_34 : g83_43 73 34 = (h 73) 34 := (congrFun (hG_43.1 73 (by decide)) 34).trans ((congrFun (hG_14.1 73 (by decide)) 34).trans ((congrFun (hG_13.1 73 (by decide)) 34).trans ((congrFun (hG_12.1 73 (by decide)) 34).trans ((congrFun (hG_2.1 73 (by decide)) 34).trans (congrFun (hG_1.1 73 (by decide)) 34)))))
          have e49_73_36 : g83_43 73 36 = (h 73) 36 := (congrFun (hG_43.1 73 (by decide)) 36).trans ((congrFun (hG_14.1 73 (by decide)) 36).trans ((congrFun (hG_13.1 73 (by decide)) 36).trans ((congrFun (hG_12.1 73 (by decide)) 36).trans ((congrFun (hG_2.1 73 (by decide)) 36).trans (congrFun (hG_1.1 73 (by decide)) 36)))))
          have e50_96 : g83_43 96 = h 96 := ((hG_43.1 96 (by decide))).trans (((hG_14.1 96 (by decide))).trans (((hG_13.1 96 (by decide))).trans (((hG_12.1 96 (by decide))).trans (((hG_2.1 96 (by decide))).trans (hG_1.1 96 (by decide))))))
          refine iv_X12_258 hK (s_X12_code_73 15 z83_43 g83_43 hT_43 (by first | omega | (simp [up, setR] <;> omega)) (by first | omega | (simp [up, setR] <;> omega)) (by rewrite [e44_74, e45_75]; first | assumption | exact htb) (by rewrite [e46_73_32]; first | omega | (simp [up, setR] <;> omega)) (by rewrite [e47_73_29, e48_73_34, e49_73_36, e50_96]; first | omega | (simp [up, setR] <;> omega))) (by decide) rfl ⟨by decide, by decide⟩ (by decide) rfl rfl (Nat.le_of_ble_eq_true rfl) ⟨by decide, by decide⟩ dX12_refine_86 ?_
          intro r9 g86_51 hp9
          obtain ⟨⟨hT_51, hG_51⟩, z86_51, hr9, hz_51, pa_51, pm_51⟩ := hp9
          rw [hr9]
          have hF_51 : FRM [73, 84, 95, 96, 97, 98] [28, 32, 33, 34, 36, 39] h g86_51 := FRM_tr hF_43 hG_51 (by decide) (by decide)
          rw [show g83_43 73 29 = (h 73) 29 from (congrFun (hG_43.1 73 (by decide)) 29).trans ((congrFun (hG_14.1 73 (by decide)) 29).trans ((congrFun (hG_13.1 73 (by decide)) 29).trans ((congrFun (hG_12.1 73 (by decide)) 29).trans ((congrFun (hG_2.1 73 (by decide)) 29).trans (congrFun (hG_1.1 73 (by decide)) 29)))))] at pm_51
          rw [show g83_43 73 34 = (h 73) 34 from (congrFun (hG_43.1 73 (by decide)) 34).trans ((congrFun (hG_14.1 73 (by decide)) 34).trans ((congrFun (hG_13.1 73 (by decide)) 34).trans ((congrFun (hG_12.1 73 (by decide)) 34).trans ((congrFun (hG_2.1 73 (by decide)) 34).trans (congrFun (hG_1.1 73 (by decide)) 34)))))] at pm_51
          rw [show g83_43 73 36 = (h 73) 36 from (congrFun (hG_43.1 73 (by decide)) 36).trans ((congrFun (hG_14.1 73 (by decide)) 36).trans ((congrFun (hG_13.1 73 (by decide)) 36).trans ((congrFun (hG_12.1 73 (by decide)) 36).trans ((congrFun (hG_2.1 73 (by decide)) 36).trans (congrFun (hG_1.1 73 (by decide)) 36)))))] at pm_51
          rw [show g83_43 96 = h 96 from ((hG_43.1 96 (by decide))).trans (((hG_14.1 96 (by decide))).trans (((hG_13.1 96 (by decide))).trans (((hG_12.1 96 (by decide))).trans (((hG_2.1 96 (by decide))).trans (hG_1.1 96 (by decide))))))] at pm_51
          show TT K ly 0 0 89 [(4, vI 15), (3, vI (10 * y + x + 11)), (0, vR 73), (1, vI x), (2, vI y)] [vI z86_51] g86_51
          refine TT_istore hK (lv' := [(5, vI z86_51), (4, vI 15), (3, vI (10 * y + x + 11)), (0, vR 73), (1, vI x), (2, vI y)]) (by decide) rfl dX12_refine_89 ?_
          refine TT_aload_n hK rfl 3 rfl dX12_refine_91 ?_
          refine gf_X12_81 hK (by decide) rfl (q := 95) rfl rfl dX12_refine_92 ?_
          refine TT_bipush hK (by decide) dX12_refine_95 ?_
          refine TT_iload_n hK rfl 5 rfl dX12_refine_97 ?_
          refine TT_imul hK dX12_refine_98 ?_
          refine TT_iload_n hK rfl 4 rfl dX12_refine_99 ?_
          refine TT_iadd hK dX12_refine_100 ?_
          refine TT_iconst hK dX12_refine_101 ?_
          refine TT_zast hK (o := 95) (n := 64) (by decide) rfl (by omega) (by omega) (by first | decide | omega) dX12_refine_102 ?_
          refine TT_hp (h' := setO g86_51 95 (fup (h 95) ((8 * y) + x) 1)) (up_can (((hG_51.1 95 (by decide))).trans (((hG_43.1 95 (by decide))).trans (((hG_14.1 95 (by decide))).trans (((hG_13.1 95 (by decide))).trans (((hG_12.1 95 (by decide))).trans (((hG_2.1 95 (by decide))).trans (hG_1.1 95 (by decide)))))))) rfl rfl) ?_
          have hT_52 : TY (setO g86_51 95 (fup (h 95) ((8 * y) + x) 1)) := tu_95 hT_51 (show up g86_51 95 ((8 * y) + x) 1 = (setO g86_51 95 (fup (h 95) ((8 * y) + x) 1)) from up_can (((hG_51.1 95 (by decide))).trans (((hG_43.1 95 (by decide))).trans (((hG_14.1 95 (by decide))).trans (((hG_13.1 95 (by decide))).trans (((hG_12.1 95 (by decide))).trans (((hG_2.1 95 (by decide))).trans (hG_1.1 95 (by decide)))))))) rfl rfl) (by omega)
          have hF_52 : FRM [73, 84, 95, 96, 97, 98] [28, 32, 33, 34, 36, 39] h (setO g86_51 95 (fup (h 95) ((8 * y) + x) 1)) := FRM_up (show up g86_51 95 ((8 * y) + x) 1 = (setO g86_51 95 (fup (h 95) ((8 * y) + x) 1)) from up_can (((hG_51.1 95 (by decide))).trans (((hG_43.1 95 (by decide))).trans (((hG_14.1 95 (by decide))).trans (((hG_13.1 95 (by decide))).trans (((hG_12.1 95 (by decide))).trans (((hG_2.1 95 (by decide))).trans (hG_1.1 95 (by decide)))))))) rfl rfl) hF_51 (by decide) (by decide)
          refine TT_aload_n hK rfl 3 rfl dX12_refine_103 ?_
          refine gf_X12_163 hK (by decide) rfl (v := (h 73) 29) ((rd_ (sOf_ne _ _ (by decide)) rfl).trans (((hG_51.2 29 (by decide))).trans ((congrFun (hG_43.1 73 (by decide)) 29).trans ((congrFun (hG_14.1 73 (by decide)) 29).trans ((congrFun (hG_13.1 73 (by decide)) 29).trans ((congrFun (hG_12.1 73 (by decide)) 29).trans ((congrFun (hG_2.1 73 (by decide)) 29).trans (congrFun (hG_1.1 73 (by decide)) 29)))))))) dX12_refine_104 ?_
          have r53 := ty_73_29 (v := (h 73) 29) hT_52 ((rd_ (sOf_ne _ _ (by decide)) rfl).trans (((hG_51.2 29 (by decide))).trans ((congrFun (hG_43.1 73 (by decide)) 29).trans ((congrFun (hG_14.1 73 (by decide)) 29).trans ((congrFun (hG_13.1 73 (by decide)) 29).trans ((congrFun (hG_12.1 73 (by decide)) 29).trans ((congrFun (hG_2.1 73 (by decide)) 29).trans (congrFun (hG_1.1 73 (by decide)) 29))))))))
          refine TT_iconst hK dX12_refine_107 ?_
          refine TT_icmp_ne hK (tgt := 141) (irm (by omega) (by omega)) (by decide) dX12_refine_108 (by decide) (fun hb108_54 => ?_) (fun hb108_54 => ?_)
          · refine TT_vret hK hQ ?_ dX12_refine_141
            have e55_73_32 : (setO g86_51 95 (fup (h 95) ((8 * y) + x) 1)) 73 32 = (g86_51 73) 32 := rd_ (sOf_ne _ _ (by decide)) rfl
            have e56_73_34 : (setO g86_51 95 (fup (h 95) ((8 * y) + x) 1)) 73 34 = (g86_51 73) 34 := rd_ (sOf_ne _ _ (by decide)) rfl
            have e57_73_36 : (setO g86_51 95 (fup (h 95) ((8 * y) + x) 1)) 73 36 = (g86_51 73) 36 := rd_ (sOf_ne _ _ (by decide)) rfl
            have e58_96 : (setO g86_51 95 (fup (h 95) ((8 * y) + x) 1)) 96 = g86_51 96 := sOf_ne _ _ (by decide)
            exact ⟨⟨hT_52, hF_52⟩, rfl, (by rewrite [e55_73_32]; omega), (by rewrite [e56_73_34, e57_73_36, e58_96]; omega)⟩
          · refine TT_aload_n hK rfl 3 rfl dX12_refine_111 ?_
            refine gf_X12_47 hK (by decide) rfl (q := 84) rfl rfl dX12_refine_112 ?_
            refine TT_aload_n hK rfl 3 rfl dX12_refine_115 ?_
            refine TT_iload_n hK rfl 4 rfl dX12_refine_116 ?_
            refine TT_iload_n hK rfl 5 rfl dX12_refine_117 ?_
            refine iv_X12_249 hK (s_X12_cell_73 x y (setO g86_51 95 (fup (h 95) ((8 * y) + x) 1)) hT_52 (by first | omega | (simp [up, setR] <;> omega)) (by first | omega | (simp [up, setR] <;> omega))) (by decide) rfl ⟨by decide, by decide⟩ (by decide) rfl rfl (Nat.le_of_ble_eq_true rfl) ⟨by decide, by decide⟩ dX12_refine_118 ?_
            intro r9 g118_59 hp9
            obtain ⟨⟨hT_59, hG_59⟩, z118_59, hr9, hz_59, p1_59⟩ := hp9
            rw [hr9]
            have hF_59 : FRM [73, 84, 95, 96, 97, 98] [28, 32, 33, 34, 36, 39] h g118_59 := FRM_tr hF_52 hG_59 (by decide) (by decide)
            rw [show (setO g86_51 95 (fup (h 95) ((8 * y) + x) 1)) 73 26 = (h 73) 26 from (rd_ (sOf_ne _ _ (by decide)) rfl).trans (((hG_51.2 26 (by decide))).trans ((congrFun (hG_43.1 73 (by decide)) 26).trans ((congrFun (hG_14.1 73 (by decide)) 26).trans ((congrFun (hG_13.1 73 (by decide)) 26).trans ((congrFun (hG_12.1 73 (by decide)) 26).trans ((congrFun (hG_2.1 73 (by decide)) 26).trans (congrFun (hG_1.1 73 (by decide)) 26)))))))] at p1_59
            show TT K ly 0 0 121 [(5, vI z86_51), (4, vI 15), (3, vI (10 * y + x + 11)), (0, vR 73), (1, vI x), (2, vI y)] [vI z118_59, vR 84] g118_59
            refine TT_aload_n hK rfl 3 rfl dX12_refine_121 ?_
            refine gf_X12_47 hK (by decide) rfl (q := 84) rfl rfl dX12_refine_122 ?_
            refine TT_aload_n hK rfl 3 rfl dX12_refine_125 ?_
            refine TT_iload_n hK rfl 4 rfl dX12_refine_126 ?_
            refine TT_iload_n hK rfl 5 rfl dX12_refine_127 ?_
            refine iv_X12_249 hK (s_X12_cell_73 x y g118_59 hT_59 (by first | omega | (simp [up, setR] <;> omega)) (by first | omega | (simp [up, setR] <;> omega))) (by decide) rfl ⟨by decide, by decide⟩ (by decide) rfl rfl (Nat.le_of_ble_eq_true rfl) ⟨by decide, by decide⟩ dX12_refine_128 ?_
            intro r9 g128_60 hp9
            obtain ⟨⟨hT_60, hG_60⟩, z128_60, hr9, hz_60, p1_60⟩ := hp9
            rw [hr9]
            have hF_60 : FRM [73, 84, 95, 96, 97, 98] [28, 32, 33, 34, 36, 39] h g128_60 := FRM_tr hF_59 hG_60 (by decide) (by decide)
            rw [show g118_59 73 26 = (h 73) 26 from (congrFun (hG_59.1 73 (by decide)) 26).trans ((rd_ (sOf_ne _ _ (by decide)) rfl).trans (((hG_51.2 26 (by decide))).trans ((congrFun (hG_43.1 73 (by decide)) 26).trans ((congrFun (hG_14.1 73 (by decide)) 26).trans ((congrFun (hG_13.1 73 (by decide)) 26).trans ((congrFun (hG_12.1 73 (by decide)) 26).trans ((congrFun (hG_2.1 73 (by decide)) 26).trans (congrFun (hG_1.1 73 (by decide)) 26))))))))] at p1_60
            show TT K ly 0 0 131 [(5, vI z86_51), (4, vI 15), (3, vI (10 * y + x + 11)), (0, vR 73), (1, vI x), (2, vI y)] [vI z128_60, vR 84, vI z118_59, vR 84] g128_60
            refine TT_iald hK (o := 84) (n := 1280) (by decide) rfl (by first | omega | (simp [up, setR] <;> omega)) (by first | omega | (simp [up, setR] <;> omega)) (v := (h 84) z128_60) (rd_ (((hG_60.1 84 (by decide))).trans (((hG_59.1 84 (by decide))).trans ((sOf_ne _ _ (by decide)).trans (((hG_51.1 84 (by decide))).trans (((hG_43.1 84 (by decide))).trans (((hG_14.1 84 (by decide))).trans (((hG_13.1 84 (by decide))).trans (((hG_12.1 84 (by decide))).trans (((hG_2.1 84 (by decide))).trans (hG_1.1 84 (by decide))))))))))) rfl) dX12_refine_131 ?_
            have r61 := ty_84 (i := z128_60) (v := (h 84) z128_60) hT_60 (rd_ (((hG_60.1 84 (by decide))).trans (((hG_59.1 84 (by decide))).trans ((sOf_ne _ _ (by decide)).trans (((hG_51.1 84 (by decide))).trans (((hG_43.1 84 (by decide))).trans (((hG_14.1 84 (by decide))).trans (((hG_13.1 84 (by decide))).trans (((hG_12.1 84 (by decide))).trans (((hG_2.1 84 (by decide))).trans (hG_1.1 84 (by decide))))))))))) rfl) (by omega) (by omega)
            refine TT_iload hK 0 rfl dX12_refine_132 ?_
            refine TT_aload_n hK rfl 3 rfl dX12_refine_134 ?_
            refine gf_X12_252 hK (by decide) rfl (v := (h 73) 27) ((congrFun (hG_60.1 73 (by decide)) 27).trans ((congrFun (hG_59.1 73 (by decide)) 27).trans ((rd_ (sOf_ne _ _ (by decide)) rfl).trans (((hG_51.2 27 (by decide))).trans ((congrFun (hG_43.1 73 (by decide)) 27).trans ((congrFun (hG_14.1 73 (by decide)) 27).trans ((congrFun (hG_13.1 73 (by decide)) 27).trans ((congrFun (hG_12.1 73 (by decide)) 27).trans ((congrFun (hG_2.1 73 (by decide)) 27).trans (congrFun (hG_1.1 73 (by decide)) 27)))))))))) dX12_refine_135 ?_
            have r62 := ty_73_27 (v := (h 73) 27) hT_60 ((congrFun (hG_60.1 73 (by decide)) 27).trans ((congrFun (hG_59.1 73 (by decide)) 27).trans ((rd_ (sOf_ne _ _ (by decide)) rfl).trans (((hG_51.2 27 (by decide))).trans ((congrFun (hG_43.1 73 (by decide)) 27).trans ((congrFun (hG_14.1 73 (by decide)) 27).trans ((congrFun (hG_13.1 73 (by decide)) 27).trans ((congrFun (hG_12.1 73 (by decide)) 27).trans ((congrFun (hG_2.1 73 (by decide)) 27).trans (congrFun (hG_1.1 73 (by decide)) 27))))))))))
            refine TT_ishl_a hK dX12_refine_138 (fun x138_63 hx63 => ?_)
            refine TT_ior hK dX12_refine_139 ?_
            refine TT_w32 (fun x140_64 hx64 => ?_)
            refine TT_iast hK (o := 84) (n := 1280) (by decide) rfl (by omega) (by omega) dX12_refine_140 ?_
            refine TT_hp (h' := setO g128_60 84 (fup (h 84) z118_59 x140_64)) (up_can (((hG_60.1 84 (by decide))).trans (((hG_59.1 84 (by decide))).trans ((sOf_ne _ _ (by decide)).trans (((hG_51.1 84 (by decide))).trans (((hG_43.1 84 (by decide))).trans (((hG_14.1 84 (by decide))).trans (((hG_13.1 84 (by decide))).trans (((hG_12.1 84 (by decide))).trans (((hG_2.1 84 (by decide))).trans (hG_1.1 84 (by decide))))))))))) rfl rfl) ?_
            have hT_65 : TY (setO g128_60 84 (fup (h 84) z118_59 x140_64)) := tu_84 hT_60 (show up g128_60 84 z118_59 x140_64 = (setO g128_60 84 (fup (h 84) z118_59 x140_64)) from up_can (((hG_60.1 84 (by decide))).trans (((hG_59.1 84 (by decide))).trans ((sOf_ne _ _ (by decide)).trans (((hG_51.1 84 (by decide))).trans (((hG_43.1 84 (by decide))).trans (((hG_14.1 84 (by decide))).trans (((hG_13.1 84 (by decide))).trans (((hG_12.1 84 (by decide))).trans (((hG_2.1 84 (by decide))).trans (hG_1.1 84 (by decide))))))))))) rfl rfl) (by omega)
            have hF_65 : FRM [73, 84, 95, 96, 97, 98] [28, 32, 33, 34, 36, 39] h (setO g128_60 84 (fup (h 84) z118_59 x140_64)) := FRM_up (show up g128_60 84 z118_59 x140_64 = (setO g128_60 84 (fup (h 84) z118_59 x140_64)) from up_can (((hG_60.1 84 (by decide))).trans (((hG_59.1 84 (by decide))).trans ((sOf_ne _ _ (by decide)).trans (((hG_51.1 84 (by decide))).trans (((hG_43.1 84 (by decide))).trans (((hG_14.1 84 (by decide))).trans (((hG_13.1 84 (by decide))).trans (((hG_12.1 84 (by decide))).trans (((hG_2.1 84 (by decide))).trans (hG_1.1 84 (by decide))))))))))) rfl rfl) hF_60 (by decide) (by decide)
            refine TT_vret hK hQ ?_ dX12_refine_141
            have e66_73_32 : (setO g128_60 84 (fup (h 84) z118_59 x140_64)) 73 32 = (g86_51 73) 32 := (congrFun ((sOf_ne _ _ (by decide)).trans (hG_60.1 73 (by decide))) 32).trans ((congrFun (hG_59.1 73 (by decide)) 32).trans (rd_ (sOf_ne _ _ (by decide)) rfl))
            have e67_73_34 : (setO g128_60 84 (fup (h 84) z118_59 x140_64)) 73 34 = (g86_51 73) 34 := (congrFun ((sOf_ne _ _ (by decide)).trans (hG_60.1 73 (by decide))) 34).trans ((congrFun (hG_59.1 73 (by decide)) 34).trans (rd_ (sOf_ne _ _ (by decide)) rfl))
            have e68_73_36 : (setO g128_60 84 (fup (h 84) z118_59 x140_64)) 73 36 = (g86_51 73) 36 := (congrFun ((sOf_ne _ _ (by decide)).trans (hG_60.1 73 (by decide))) 36).trans ((congrFun (hG_59.1 73 (by decide)) 36).trans (rd_ (sOf_ne _ _ (by decide)) rfl))
            have e69_96 : (setO g128_60 84 (fup (h 84) z118_59 x140_64)) 96 = g86_51 96 := (sOf_ne _ _ (by decide)).trans (((hG_60.1 96 (by decide))).trans (((hG_59.1 96 (by decide))).trans (sOf_ne _ _ (by decide))))
            exact ⟨⟨hT_65, hF_65⟩, rfl, (by rewrite [e66_73_32]; omega), (by rewrite [e67_73_34, e68_73_36, e69_96]; omega)⟩
      · refine TT_bipush hK (by decide) dX12_refine_43 ?_
        refine TT_goto hK (tgt := 75) dX12_refine_45 (by decide) ?_
        refine TT_istore hK (lv' := [(4, vI 16), (3, vI (10 * y + x + 11)), (0, vR 73), (1, vI x), (2, vI y)]) (by decide) rfl dX12_refine_75 ?_
        refine TT_aload_n hK rfl 2 rfl dX12_refine_77 ?_
        refine TT_iload hK 0 rfl dX12_refine_78 ?_
        refine TT_aload_n hK rfl 2 rfl dX12_refine_80 ?_
        refine TT_iload_n hK rfl 3 rfl dX12_refine_81 ?_
        refine TT_iload_n hK rfl 4 rfl dX12_refine_82 ?_
        refine iv_X12_264 hK (s_X12_bitAt_73 x y g8_2 hT_2 (by first | omega | (simp [up, setR] <;> omega)) (by first | omega | (simp [up, setR] <;> omega))) (by decide) rfl ⟨by decide, by decide⟩ (by decide) rfl rfl (Nat.le_of_ble_eq_true rfl) ⟨by decide, by decide⟩ dX12_refine_83 ?_
        intro r9 g83_70 hp9
        obtain ⟨⟨hT_70, hG_70⟩, z83_70, hr9, hz_70⟩ := hp9
        rw [hr9]
        have hF_70 : FRM [73, 84, 95, 96, 97, 98] [28, 32, 33, 34, 36, 39] h g83_70 := FRM_tr hF_2 hG_70 (by decide) (by decide)
        show TT K ly 0 0 86 [(4, vI 16), (3, vI (10 * y + x + 11)), (0, vR 73), (1, vI x), (2, vI y)] [vI z83_70, vI 16, vR 73] g83_70
        have e71_74 : g83_70 74 = h 74 := ((hG_70.1 74 (by decide))).trans (((hG_2.1 74 (by decide))).trans (hG_1.1 74 (by decide)))
        have e72_75 : g83_70 75 = h 75 := ((hG_70.1 75 (by decide))).trans (((hG_2.1 75 (by decide))).trans (hG_1.1 75 (by decide)))
        have e73_73_32 : g83_70 73 32 = (h 73) 32 := (congrFun (hG_70.1 73 (by decide)) 32).trans ((congrFun (hG_2.1 73 (by decide)) 32).trans (congrFun (hG_1.1 73 (by decide)) 32))
        have e74_73_29 : g83_70 73 29 = (h 73) 29 := (congrFun (hG_70.1 73 (by decide)) 29).trans ((congrFun (hG_2.1 73 (by decide)) 29).trans (congrFun (hG_1.1 73 (by decide)) 29))
        have e75_73_34 : g83_70 73 34 = (h 73) 34 := (congrFun (hG_70.1 73 (by decide)) 34).trans ((congrFun (hG_2.1 73 (by decide)) 34).trans (congrFun (hG_1.1 73 (by decide)) 34))
        have e76_73_36 : g83_70 73 36 = (h 73) 36 := (congrFun (hG_70.1 73 (by decide)) 36).trans ((congrFun (hG_2.1 73 (by decide)) 36).trans (congrFun (hG_1.1 73 (by decide)) 36))
        have e77_96 : g83_70 96 = h 96 := ((hG_70.1 96 (by decide))).trans (((hG_2.1 96 (by decide))).trans (hG_1.1 96 (by decide)))
        refine iv_X12_258 hK (s_X12_code_73 16 z83_70 g83_70 hT_70 (by first | omega | (simp [up, setR] <;> omega)) (by first | omega | (simp [up, setR] <;> omega)) (by rewrite [e71_74, e72_75]; first | assumption | exact htb) (by rewrite [e73_73_32]; first | omega | (simp [up, setR] <;> omega)) (by rewrite [e74_73_29, e75_73_34, e76_73_36, e77_96]; first | omega | (simp [up, setR] <;> omega))) (by decide) rfl ⟨by decide, by decide⟩ (by decide) rfl rfl (Nat.le_of_ble_eq_true rfl) ⟨by decide, by decide⟩ dX12_refine_86 ?_
        intro r9 g86_78 hp9
        obtain ⟨⟨hT_78, hG_78⟩, z86_78, hr9, hz_78, pa_78, pm_78⟩ := hp9
        rw [hr9]
        have hF_78 : FRM [73, 84, 95, 96, 97, 98] [28, 32, 33, 34, 36, 39] h g86_78 := FRM_tr hF_70 hG_78 (by decide) (by decide)
        rw [show g83_70 73 29 = (h 73) 29 from (congrFun (hG_70.1 73 (by decide)) 29).trans ((congrFun (hG_2.1 73 (by decide)) 29).trans (congrFun (hG_1.1 73 (by decide)) 29))] at pm_78
        rw [show g83_70 73 34 = (h 73) 34 from (congrFun (hG_70.1 73 (by decide)) 34).trans ((congrFun (hG_2.1 73 (by decide)) 34).trans (congrFun (hG_1.1 73 (by decide)) 34))] at pm_78
        rw [show g83_70 73 36 = (h 73) 36 from (congrFun (hG_70.1 73 (by decide)) 36).trans ((congrFun (hG_2.1 73 (by decide)) 36).trans (congrFun (hG_1.1 73 (by decide)) 36))] at pm_78
        rw [show g83_70 96 = h 96 from ((hG_70.1 96 (by decide))).trans (((hG_2.1 96 (by decide))).trans (hG_1.1 96 (by decide)))] at pm_78
        show TT K ly 0 0 89 [(4, vI 16), (3, vI (10 * y + x + 11)), (0, vR 73), (1, vI x), (2, vI y)] [vI z86_78] g86_78
        refine TT_istore hK (lv' := [(5, vI z86_78), (4, vI 16), (3, vI (10 * y + x + 11)), (0, vR 73), (1, vI x), (2, vI y)]) (by decide) rfl dX12_refine_89 ?_
        refine TT_aload_n hK rfl 3 rfl dX12_refine_91 ?_
        refine gf_X12_81 hK (by decide) rfl (q := 95) rfl rfl dX12_refine_92 ?_
        refine TT_bipush hK (by decide) dX12_refine_95 ?_
        refine TT_iload_n hK rfl 5 rfl dX12_refine_97 ?_
        refine TT_imul hK dX12_refine_98 ?_
        refine TT_iload_n hK rfl 4 rfl dX12_refine_99 ?_
        refine TT_iadd hK dX12_refine_100 ?_
        refine TT_iconst hK dX12_refine_101 ?_
        refine TT_zast hK (o := 95) (n := 64) (by decide) rfl (by omega) (by omega) (by first | decide | omega) dX12_refine_102 ?_
        refine TT_hp (h' := setO g86_78 95 (fup (h 95) ((8 * y) + x) 1)) (up_can (((hG_78.1 95 (by decide))).trans (((hG_70.1 95 (by decide))).trans (((hG_2.1 95 (by decide))).trans (hG_1.1 95 (by decide))))) rfl rfl) ?_
        have hT_79 : TY (setO g86_78 95 (fup (h 95) ((8 * y) + x) 1)) := tu_95 hT_78 (show up g86_78 95 ((8 * y) + x) 1 = (setO g86_78 95 (fup (h 95) ((8 * y) + x) 1)) from up_can (((hG_78.1 95 (by decide))).trans (((hG_70.1 95 (by decide))).trans (((hG_2.1 95 (by decide))).trans (hG_1.1 95 (by decide))))) rfl rfl) (by omega)
        have hF_79 : FRM [73, 84, 95, 96, 97, 98] [28, 32, 33, 34, 36, 39] h (setO g86_78 95 (fup (h 95) ((8 * y) + x) 1)) := FRM_up (show up g86_78 95 ((8 * y) + x) 1 = (setO g86_78 95 (fup (h 95) ((8 * y) + x) 1)) from up_can (((hG_78.1 95 (by decide))).trans (((hG_70.1 95 (by decide))).trans (((hG_2.1 95 (by decide))).trans (hG_1.1 95 (by decide))))) rfl rfl) hF_78 (by decide) (by decide)
        refine TT_aload_n hK rfl 3 rfl dX12_refine_103 ?_
        refine gf_X12_163 hK (by decide) rfl (v := (h 73) 29) ((rd_ (sOf_ne _ _ (by decide)) rfl).trans (((hG_78.2 29 (by decide))).trans ((congrFun (hG_70.1 73 (by decide)) 29).trans ((congrFun (hG_2.1 73 (by decide)) 29).trans (congrFun (hG_1.1 73 (by decide)) 29))))) dX12_refine_104 ?_
        have r80 := ty_73_29 (v := (h 73) 29) hT_79 ((rd_ (sOf_ne _ _ (by decide)) rfl).trans (((hG_78.2 29 (by decide))).trans ((congrFun (hG_70.1 73 (by decide)) 29).trans ((congrFun (hG_2.1 73 (by decide)) 29).trans (congrFun (hG_1.1 73 (by decide)) 29)))))
        refine TT_iconst hK dX12_refine_107 ?_
        refine TT_icmp_ne hK (tgt := 141) (irm (by omega) (by omega)) (by decide) dX12_refine_108 (by decide) (fun hb108_81 => ?_) (fun hb108_81 => ?_)
        · refine TT_vret hK hQ ?_ dX12_refine_141
          have e82_73_32 : (setO g86_78 95 (fup (h 95) ((8 * y) + x) 1)) 73 32 = (g86_78 73) 32 := rd_ (sOf_ne _ _ (by decide)) rfl
          have e83_73_34 : (setO g86_78 95 (fup (h 95) ((8 * y) + x) 1)) 73 34 = (g86_78 73) 34 := rd_ (sOf_ne _ _ (by decide)) rfl
          have e84_73_36 : (setO g86_78 95 (fup (h 95) ((8 * y) + x) 1)) 73 36 = (g86_78 73) 36 := rd_ (sOf_ne _ _ (by decide)) rfl
          have e85_96 : (setO g86_78 95 (fup (h 95) ((8 * y) + x) 1)) 96 = g86_78 96 := sOf_ne _ _ (by decide)
          exact ⟨⟨hT_79, hF_79⟩, rfl, (by rewrite [e82_73_32]; omega), (by rewrite [e83_73_34, e84_73_36, e85_96]; omega)⟩
        · refine TT_aload_n hK rfl 3 rfl dX12_refine_111 ?_
          refine gf_X12_47 hK (by decide) rfl (q := 84) rfl rfl dX12_refine_112 ?_
          refine TT_aload_n hK rfl 3 rfl dX12_refine_115 ?_
          refine TT_iload_n hK rfl 4 rfl dX12_refine_116 ?_
          refine TT_iload_n hK rfl 5 rfl dX12_refine_117 ?_
          refine iv_X12_249 hK (s_X12_cell_73 x y (setO g86_78 95 (fup (h 95) ((8 * y) + x) 1)) hT_79 (by first | omega | (simp [up, setR] <;> omega)) (by first | omega | (simp [up, setR] <;> omega))) (by decide) rfl ⟨by decide, by decide⟩ (by decide) rfl rfl (Nat.le_of_ble_eq_true rfl) ⟨by decide, by decide⟩ dX12_refine_118 ?_
          intro r9 g118_86 hp9
          obtain ⟨⟨hT_86, hG_86⟩, z118_86, hr9, hz_86, p1_86⟩ := hp9
          rw [hr9]
          have hF_86 : FRM [73, 84, 95, 96, 97, 98] [28, 32, 33, 34, 36, 39] h g118_86 := FRM_tr hF_79 hG_86 (by decide) (by decide)
          rw [show (setO g86_78 95 (fup (h 95) ((8 * y) + x) 1)) 73 26 = (h 73) 26 from (rd_ (sOf_ne _ _ (by decide)) rfl).trans (((hG_78.2 26 (by decide))).trans ((congrFun (hG_70.1 73 (by decide)) 26).trans ((congrFun (hG_2.1 73 (by decide)) 26).trans (congrFun (hG_1.1 73 (by decide)) 26))))] at p1_86
          show TT K ly 0 0 121 [(5, vI z86_78), (4, vI 16), (3, vI (10 * y + x + 11)), (0, vR 73), (1, vI x), (2, vI y)] [vI z118_86, vR 84] g118_86
          refine TT_aload_n hK rfl 3 rfl dX12_refine_121 ?_
          refine gf_X12_47 hK (by decide) rfl (q := 84) rfl rfl dX12_refine_122 ?_
          refine TT_aload_n hK rfl 3 rfl dX12_refine_125 ?_
          refine TT_iload_n hK rfl 4 rfl dX12_refine_126 ?_
          refine TT_iload_n hK rfl 5 rfl dX12_refine_127 ?_
          refine iv_X12_249 hK (s_X12_cell_73 x y g118_86 hT_86 (by first | omega | (simp [up, setR] <;> omega)) (by first | omega | (simp [up, setR] <;> omega))) (by decide) rfl ⟨by decide, by decide⟩ (by decide) rfl rfl (Nat.le_of_ble_eq_true rfl) ⟨by decide, by decide⟩ dX12_refine_128 ?_
          intro r9 g128_87 hp9
          obtain ⟨⟨hT_87, hG_87⟩, z128_87, hr9, hz_87, p1_87⟩ := hp9
          rw [hr9]
          have hF_87 : FRM [73, 84, 95, 96, 97, 98] [28, 32, 33, 34, 36, 39] h g128_87 := FRM_tr hF_86 hG_87 (by decide) (by decide)
          rw [show g118_86 73 26 = (h 73) 26 from (congrFun (hG_86.1 73 (by decide)) 26).trans ((rd_ (sOf_ne _ _ (by decide)) rfl).trans (((hG_78.2 26 (by decide))).trans ((congrFun (hG_70.1 73 (by decide)) 26).trans ((congrFun (hG_2.1 73 (by decide)) 26).trans (congrFun (hG_1.1 73 (by decide)) 26)))))] at p1_87
          show TT K ly 0 0 131 [(5, vI z86_78), (4, vI 16), (3, vI (10 * y + x + 11)), (0, vR 73), (1, vI x), (2, vI y)] [vI z128_87, vR 84, vI z118_86, vR 84] g128_87
          refine TT_iald hK (o := 84) (n := 1280) (by decide) rfl (by first | omega | (simp [up, setR] <;> omega)) (by first | omega | (simp [up, setR] <;> omega)) (v := (h 84) z128_87) (rd_ (((hG_87.1 84 (by decide))).trans (((hG_86.1 84 (by decide))).trans ((sOf_ne _ _ (by decide)).trans (((hG_78.1 84 (by decide))).trans (((hG_70.1 84 (by decide))).trans (((hG_2.1 84 (by decide))).trans (hG_1.1 84 (by decide)))))))) rfl) dX12_refine_131 ?_
          have r88 := ty_84 (i := z128_87) (v := (h 84) z128_87) hT_87 (rd_ (((hG_87.1 84 (by decide))).trans (((hG_86.1 84 (by decide))).trans ((sOf_ne _ _ (by decide)).trans (((hG_78.1 84 (by decide))).trans (((hG_70.1 84 (by decide))).trans (((hG_2.1 84 (by decide))).trans (hG_1.1 84 (by decide)))))))) rfl) (by omega) (by omega)
          refine TT_iload hK 0 rfl dX12_refine_132 ?_
          refine TT_aload_n hK rfl 3 rfl dX12_refine_134 ?_
          refine gf_X12_252 hK (by decide) rfl (v := (h 73) 27) ((congrFun (hG_87.1 73 (by decide)) 27).trans ((congrFun (hG_86.1 73 (by decide)) 27).trans ((rd_ (sOf_ne _ _ (by decide)) rfl).trans (((hG_78.2 27 (by decide))).trans ((congrFun (hG_70.1 73 (by decide)) 27).trans ((congrFun (hG_2.1 73 (by decide)) 27).trans (congrFun (hG_1.1 73 (by decide)) 27))))))) dX12_refine_135 ?_
          have r89 := ty_73_27 (v := (h 73) 27) hT_87 ((congrFun (hG_87.1 73 (by decide)) 27).trans ((congrFun (hG_86.1 73 (by decide)) 27).trans ((rd_ (sOf_ne _ _ (by decide)) rfl).trans (((hG_78.2 27 (by decide))).trans ((congrFun (hG_70.1 73 (by decide)) 27).trans ((congrFun (hG_2.1 73 (by decide)) 27).trans (congrFun (hG_1.1 73 (by decide)) 27)))))))
          refine TT_ishl_a hK dX12_refine_138 (fun x138_90 hx90 => ?_)
          refine TT_ior hK dX12_refine_139 ?_
          refine TT_w32 (fun x140_91 hx91 => ?_)
          refine TT_iast hK (o := 84) (n := 1280) (by decide) rfl (by omega) (by omega) dX12_refine_140 ?_
          refine TT_hp (h' := setO g128_87 84 (fup (h 84) z118_86 x140_91)) (up_can (((hG_87.1 84 (by decide))).trans (((hG_86.1 84 (by decide))).trans ((sOf_ne _ _ (by decide)).trans (((hG_78.1 84 (by decide))).trans (((hG_70.1 84 (by decide))).trans (((hG_2.1 84 (by decide))).trans (hG_1.1 84 (by decide)))))))) rfl rfl) ?_
          have hT_92 : TY (setO g128_87 84 (fup (h 84) z118_86 x140_91)) := tu_84 hT_87 (show up g128_87 84 z118_86 x140_91 = (setO g128_87 84 (fup (h 84) z118_86 x140_91)) from up_can (((hG_87.1 84 (by decide))).trans (((hG_86.1 84 (by decide))).trans ((sOf_ne _ _ (by decide)).trans (((hG_78.1 84 (by decide))).trans (((hG_70.1 84 (by decide))).trans (((hG_2.1 84 (by decide))).trans (hG_1.1 84 (by decide)))))))) rfl rfl) (by omega)
          have hF_92 : FRM [73, 84, 95, 96, 97, 98] [28, 32, 33, 34, 36, 39] h (setO g128_87 84 (fup (h 84) z118_86 x140_91)) := FRM_up (show up g128_87 84 z118_86 x140_91 = (setO g128_87 84 (fup (h 84) z118_86 x140_91)) from up_can (((hG_87.1 84 (by decide))).trans (((hG_86.1 84 (by decide))).trans ((sOf_ne _ _ (by decide)).trans (((hG_78.1 84 (by decide))).trans (((hG_70.1 84 (by decide))).trans (((hG_2.1 84 (by decide))).trans (hG_1.1 84 (by decide)))))))) rfl rfl) hF_87 (by decide) (by decide)
          refine TT_vret hK hQ ?_ dX12_refine_141
          have e93_73_32 : (setO g128_87 84 (fup (h 84) z118_86 x140_91)) 73 32 = (g86_78 73) 32 := (congrFun ((sOf_ne _ _ (by decide)).trans (hG_87.1 73 (by decide))) 32).trans ((congrFun (hG_86.1 73 (by decide)) 32).trans (rd_ (sOf_ne _ _ (by decide)) rfl))
          have e94_73_34 : (setO g128_87 84 (fup (h 84) z118_86 x140_91)) 73 34 = (g86_78 73) 34 := (congrFun ((sOf_ne _ _ (by decide)).trans (hG_87.1 73 (by decide))) 34).trans ((congrFun (hG_86.1 73 (by decide)) 34).trans (rd_ (sOf_ne _ _ (by decide)) rfl))
          have e95_73_36 : (setO g128_87 84 (fup (h 84) z118_86 x140_91)) 73 36 = (g86_78 73) 36 := (congrFun ((sOf_ne _ _ (by decide)).trans (hG_87.1 73 (by decide))) 36).trans ((congrFun (hG_86.1 73 (by decide)) 36).trans (rd_ (sOf_ne _ _ (by decide)) rfl))
          have e96_96 : (setO g128_87 84 (fup (h 84) z118_86 x140_91)) 96 = g86_78 96 := (sOf_ne _ _ (by decide)).trans (((hG_87.1 96 (by decide))).trans (((hG_86.1 96 (by decide))).trans (sOf_ne _ _ (by decide))))
          exact ⟨⟨hT_92, hF_92⟩, rfl, (by rewrite [e93_73_32]; omega), (by rewrite [e94_73_34, e95_73_36, e96_96]; omega)⟩
    · refine TT_vret hK hQ ?_ dX12_refine_28
      have e97_73_32 : g8_2 73 32 = (h 73) 32 := (congrFun (hG_2.1 73 (by decide)) 32).trans (congrFun (hG_1.1 73 (by decide)) 32)
      have e98_73_34 : g8_2 73 34 = (h 73) 34 := (congrFun (hG_2.1 73 (by decide)) 34).trans (congrFun (hG_1.1 73 (by decide)) 34)
      have e99_73_36 : g8_2 73 36 = (h 73) 36 := (congrFun (hG_2.1 73 (by decide)) 36).trans (congrFun (hG_1.1 73 (by decide)) 36)
      have e100_96 : g8_2 96 = h 96 := ((hG_2.1 96 (by decide))).trans (hG_1.1 96 (by decide))
      exact ⟨⟨hT_2, hF_2⟩, rfl, (by rewrite [e97_73_32]; omega), (by rewrite [e98_73_34, e99_73_36, e100_96]; omega)⟩

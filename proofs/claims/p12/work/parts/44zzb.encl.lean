set_option maxRecDepth 20000 in
theorem s_encode_z (Mf : Int → Int → Int) (sf : Int → TS_) (l n : Int) (h : Hp_) (hT : TY h) (hl : -2147483648 ≤ l ∧ l ≤ 2147483647) (hn : -2147483648 ≤ n ∧ n ≤ 2147483647) (htb : TBL (h 74) (h 75)) (hmi : MIQ (h 90) (h 91)) (hsf : ∀ c : Int, TS0 (sf c)) (hmf : ((0 ≤ l ∧ l ≤ 3) ∧ (1 ≤ n ∧ n ≤ 3)) → ∀ c : Int, 0 ≤ c → c < 3 * l + 1 → MRN (NBE (h 73 3) (h 73 4) (fun i => (h 76) i - 128) l c) (BW (h 73 3) l c) (BH (h 73 4) l c) (Mf c)) : Ctr yX12_encode cX12_encode 6 (some .int) (rmd 10) ly ly 0 0 [vR 73, vI l, vI n] h (fun r h' => (TY h' ∧ FRM [73, 77, 78, 79, 80, 81, 82, 83, 84, 85, 86, 87, 88, 89, 90, 91, 92, 93, 94, 95, 96, 97, 98, 99, 100] [2, 18, 26, 27, 28, 29, 32, 33, 34, 36, 38, 39, 41, 42, 43] h h') ∧ ∃ z : Int, r = some (vI z) ∧ (0 ≤ z ∧ z ≤ 4400) ∧ (MIQ (h' 90) (h' 91)) ∧ ((0 ≤ l ∧ l ≤ 3) ∧ (1 ≤ n ∧ n ≤ 3) → (h' 73 18) = 3 * l + 1 ∧ (∀ j : Int, 0 ≤ j → j < 3 * l + 1 → (h' 80) j = BW (h 73 3) l j ∧ (h' 81) j = BH (h 73 4) l j) ∧ (∀ b2 x2 y2 : Int, 0 ≤ b2 → b2 < 3 * l + 1 → 0 ≤ x2 → x2 < BW (h 73 3) l b2 → 0 ≤ y2 → y2 < BH (h 73 4) l b2 → sgn ((h' 85) (64 * b2 + 8 * y2 + x2)) ((h' 84) (64 * b2 + 8 * y2 + x2)) = LE (h 73 3) (h 73 4) (fun i => (h 76) i - 128) l (8 * CY (h 73 4) l b2 + CX (h 73 3) l b2 + 8 * y2 + x2))) ∧ (¬((0 ≤ l ∧ l ≤ 3) ∧ (1 ≤ n ∧ n ≤ 3)) → (h' 73 18) = (h 73 18) ∧ (h' 80) = (h 80) ∧ (h' 81) = (h 81) ∧ (h' 84) = (h 84) ∧ (h' 85) = (h 85)) ∧ (((0 ≤ l ∧ l ≤ 3) ∧ (1 ≤ n ∧ n ≤ 3)) → CWQ Mf sf (h 73 3) (h 73 4) (fun i => (h 76) i - 128) l (3 * l + 1) (h' 83) (h' 89) (h' 90) (h' 91)) ∧ (¬((0 ≤ l ∧ l ≤ 3) ∧ (1 ≤ n ∧ n ≤ 3)) → (h' 83) = (h 83) ∧ (h' 89) = (h 89) ∧ (h' 90) = (h 90) ∧ (h' 91) = (h 91)) ∧ (((0 ≤ l ∧ l ≤ 3) ∧ (1 ≤ n ∧ n ≤ 3)) → LXQ Mf sf (h 73 3) (h 73 4) l (3 * l + 1) (h' 83) (h' 89) (h' 90) (h' 92)) ∧ (¬((0 ≤ l ∧ l ≤ 3) ∧ (1 ≤ n ∧ n ≤ 3)) → (h' 92) = (h 92))) := by
  refine Ctr_of (by decide) (Nat.le_of_ble_eq_true rfl) ⟨Nat.le_refl _, Nat.le_refl _⟩ (fun K hK hQ _ => ?_)
  show TT K ly 0 0 0 [(0, vR 73), (1, vI l), (2, vI n)] [] h
  have hF : FRM [73, 77, 78, 79, 80, 81, 82, 83, 84, 85, 86, 87, 88, 89, 90, 91, 92, 93, 94, 95, 96, 97, 98, 99, 100] [2, 18, 26, 27, 28, 29, 32, 33, 34, 36, 38, 39, 41, 42, 43] h h := FRM_rf _ _ _
  have rW := ty_73_3 (v := h 73 3) hT rfl
  have rH := ty_73_4 (v := h 73 4) hT rfl
  refine TT_aload_n hK rfl 0 rfl dX12_encode_0 ?_
  refine TT_iload_n hK rfl 1 rfl dX12_encode_1 ?_
  refine TT_iconst hK dX12_encode_2 ?_
  refine TT_iconst hK dX12_encode_3 ?_
  refine iv_X12_120 hK (s_X12_within l 0 3 h hT (by first | omega | (simp [up, setR] <;> omega)) (by first | omega | (simp [up, setR] <;> omega)) (by first | omega | (simp [up, setR] <;> omega))) ⟨by decide, by decide⟩ (by decide) rfl rfl (Nat.le_of_ble_eq_true rfl) ⟨by decide, by decide⟩ dX12_encode_4 ?_
  intro r9 g4_1 hp9
  obtain ⟨⟨hT_1, hG_1⟩, z4_1, hr9, hz_1, p1_1, p2_1⟩ := hp9
  rw [hr9]
  have hF_1 : FRM [73, 77, 78, 79, 80, 81, 82, 83, 84, 85, 86, 87, 88, 89, 90, 91, 92, 93, 94, 95, 96, 97, 98, 99, 100] [2, 18, 26, 27, 28, 29, 32, 33, 34, 36, 38, 39, 41, 42, 43] h g4_1 := FRM_tr hF hG_1 (by decide) (by decide)
  show TT K ly 0 0 7 [(0, vR 73), (1, vI l), (2, vI n)] [vI z4_1, vR 73] g4_1
  refine TT_if_eq hK (tgt := 23) (irm (by omega) (by omega)) dX12_encode_7 (by decide) (fun hb7_2 => ?_) (fun hb7_2 => ?_)
  · refine TT_iconst hK dX12_encode_23 ?_
    refine pf_X12_117 hK (by decide) rfl dX12_encode_24 ?_
    refine TT_hp (h' := setO g4_1 73 (fup (h 73) 2 1)) (up_can (hG_1.1 73 (by decide)) rfl rfl) ?_
    have hT_3 : TY (setO g4_1 73 (fup (h 73) 2 1)) := tu_73_2 hT_1 (show up g4_1 73 2 1 = (setO g4_1 73 (fup (h 73) 2 1)) from up_can (hG_1.1 73 (by decide)) rfl rfl) (by omega)
    have hF_3 : FRM [73, 77, 78, 79, 80, 81, 82, 83, 84, 85, 86, 87, 88, 89, 90, 91, 92, 93, 94, 95, 96, 97, 98, 99, 100] [2, 18, 26, 27, 28, 29, 32, 33, 34, 36, 38, 39, 41, 42, 43] h (setO g4_1 73 (fup (h 73) 2 1)) := FRM_f (show up g4_1 73 2 1 = (setO g4_1 73 (fup (h 73) 2 1)) from up_can (hG_1.1 73 (by decide)) rfl rfl) hF_1 (by decide) (by decide)
    refine TT_aload_n hK rfl 0 rfl dX12_encode_27 ?_
    refine gf_X12_117 hK (by decide) rfl (v := 1) (rd_ (sOf_eq _ _ _) (fup_eq _ _ _)) dX12_encode_28 ?_
    refine TT_if_le hK (tgt := 36) (by decide) dX12_encode_31 (by decide) (fun hb31_4 => ?_) (fun hb31_4 => ?_)
    · exact absurd hb31_4 (by decide)
    · refine TT_iconst hK dX12_encode_34 ?_
      refine TT_iret hK hQ ?_ dX12_encode_35
      have e5_90 : (setO g4_1 73 (fup (h 73) 2 1)) 90 = h 90 := (sOf_ne _ _ (by decide)).trans (hG_1.1 90 (by decide))
      have e6_91 : (setO g4_1 73 (fup (h 73) 2 1)) 91 = h 91 := (sOf_ne _ _ (by decide)).trans (hG_1.1 91 (by decide))
      have e7_73_18 : (setO g4_1 73 (fup (h 73) 2 1)) 73 18 = (h 73) 18 := rd_ (sOf_eq _ _ _) (fup_ne _ _ (by decide))
      have e8_80 : (setO g4_1 73 (fup (h 73) 2 1)) 80 = h 80 := (sOf_ne _ _ (by decide)).trans (hG_1.1 80 (by decide))
      have e9_81 : (setO g4_1 73 (fup (h 73) 2 1)) 81 = h 81 := (sOf_ne _ _ (by decide)).trans (hG_1.1 81 (by decide))
      have e10_84 : (setO g4_1 73 (fup (h 73) 2 1)) 84 = h 84 := (sOf_ne _ _ (by decide)).trans (hG_1.1 84 (by decide))
      have e11_85 : (setO g4_1 73 (fup (h 73) 2 1)) 85 = h 85 := (sOf_ne _ _ (by decide)).trans (hG_1.1 85 (by decide))
      have e12_73_18 : (setO g4_1 73 (fup (h 73) 2 1)) 73 18 = (h 73) 18 := rd_ (sOf_eq _ _ _) (fup_ne _ _ (by decide))
      have e13_80 : (setO g4_1 73 (fup (h 73) 2 1)) 80 = h 80 := (sOf_ne _ _ (by decide)).trans (hG_1.1 80 (by decide))
      have e14_81 : (setO g4_1 73 (fup (h 73) 2 1)) 81 = h 81 := (sOf_ne _ _ (by decide)).trans (hG_1.1 81 (by decide))
      have e15_84 : (setO g4_1 73 (fup (h 73) 2 1)) 84 = h 84 := (sOf_ne _ _ (by decide)).trans (hG_1.1 84 (by decide))
      have e16_85 : (setO g4_1 73 (fup (h 73) 2 1)) 85 = h 85 := (sOf_ne _ _ (by decide)).trans (hG_1.1 85 (by decide))
      have e17_83 : (setO g4_1 73 (fup (h 73) 2 1)) 83 = h 83 := (sOf_ne _ _ (by decide)).trans (hG_1.1 83 (by decide))
      have e18_89 : (setO g4_1 73 (fup (h 73) 2 1)) 89 = h 89 := (sOf_ne _ _ (by decide)).trans (hG_1.1 89 (by decide))
      have e19_90 : (setO g4_1 73 (fup (h 73) 2 1)) 90 = h 90 := (sOf_ne _ _ (by decide)).trans (hG_1.1 90 (by decide))
      have e20_91 : (setO g4_1 73 (fup (h 73) 2 1)) 91 = h 91 := (sOf_ne _ _ (by decide)).trans (hG_1.1 91 (by decide))
      have e21_83 : (setO g4_1 73 (fup (h 73) 2 1)) 83 = h 83 := (sOf_ne _ _ (by decide)).trans (hG_1.1 83 (by decide))
      have e22_89 : (setO g4_1 73 (fup (h 73) 2 1)) 89 = h 89 := (sOf_ne _ _ (by decide)).trans (hG_1.1 89 (by decide))
      have e23_90 : (setO g4_1 73 (fup (h 73) 2 1)) 90 = h 90 := (sOf_ne _ _ (by decide)).trans (hG_1.1 90 (by decide))
      have e24_91 : (setO g4_1 73 (fup (h 73) 2 1)) 91 = h 91 := (sOf_ne _ _ (by decide)).trans (hG_1.1 91 (by decide))
      have e25_83 : (setO g4_1 73 (fup (h 73) 2 1)) 83 = h 83 := (sOf_ne _ _ (by decide)).trans (hG_1.1 83 (by decide))
      have e26_89 : (setO g4_1 73 (fup (h 73) 2 1)) 89 = h 89 := (sOf_ne _ _ (by decide)).trans (hG_1.1 89 (by decide))
      have e27_90 : (setO g4_1 73 (fup (h 73) 2 1)) 90 = h 90 := (sOf_ne _ _ (by decide)).trans (hG_1.1 90 (by decide))
      have e28_92 : (setO g4_1 73 (fup (h 73) 2 1)) 92 = h 92 := (sOf_ne _ _ (by decide)).trans (hG_1.1 92 (by decide))
      have e29_92 : (setO g4_1 73 (fup (h 73) 2 1)) 92 = h 92 := (sOf_ne _ _ (by decide)).trans (hG_1.1 92 (by decide))
      exact ⟨⟨hT_3, hF_3⟩, 0, rfl, (by omega), (by rewrite [e5_90, e6_91]; exact hmi), (by rewrite [e7_73_18, e8_80, e9_81, e10_84, e11_85]; first | (intro q; exfalso; omega)), (by rewrite [e12_73_18, e13_80, e14_81, e15_84, e16_85]; first | exact (fun _ => ⟨rfl, rfl, rfl, rfl, rfl⟩) | (intro q; exfalso; omega)), (by rewrite [e17_83, e18_89, e19_90, e20_91]; first | (intro q; exfalso; omega)), (by rewrite [e21_83, e22_89, e23_90, e24_91]; first | exact (fun _ => ⟨rfl, rfl, rfl, rfl⟩) | (intro q; exfalso; omega)), (by rewrite [e25_83, e26_89, e27_90, e28_92]; first | (intro q; exfalso; omega)), (by rewrite [e29_92]; first | exact (fun _ => rfl) | (intro q; exfalso; omega))⟩
  · refine TT_iload_n hK rfl 2 rfl dX12_encode_10 ?_
    refine TT_iconst hK dX12_encode_11 ?_
    refine TT_iconst hK dX12_encode_12 ?_
    refine iv_X12_120 hK (s_X12_within n 1 3 g4_1 hT_1 (by first | omega | (simp [up, setR] <;> omega)) (by first | omega | (simp [up, setR] <;> omega)) (by first | omega | (simp [up, setR] <;> omega))) ⟨by decide, by decide⟩ (by decide) rfl rfl (Nat.le_of_ble_eq_true rfl) ⟨by decide, by decide⟩ dX12_encode_13 ?_
    intro r9 g13_30 hp9
    obtain ⟨⟨hT_30, hG_30⟩, z13_30, hr9, hz_30, p1_30, p2_30⟩ := hp9
    rw [hr9]
    have hF_30 : FRM [73, 77, 78, 79, 80, 81, 82, 83, 84, 85, 86, 87, 88, 89, 90, 91, 92, 93, 94, 95, 96, 97, 98, 99, 100] [2, 18, 26, 27, 28, 29, 32, 33, 34, 36, 38, 39, 41, 42, 43] h g13_30 := FRM_tr hF_1 hG_30 (by decide) (by decide)
    show TT K ly 0 0 16 [(0, vR 73), (1, vI l), (2, vI n)] [vI z13_30, vR 73] g13_30
    refine TT_if_eq hK (tgt := 23) (irm (by omega) (by omega)) dX12_encode_16 (by decide) (fun hb16_31 => ?_) (fun hb16_31 => ?_)
    · refine TT_iconst hK dX12_encode_23 ?_
      refine pf_X12_117 hK (by decide) rfl dX12_encode_24 ?_
      refine TT_hp (h' := setO g13_30 73 (fup (h 73) 2 1)) (up_can (((hG_30.1 73 (by decide))).trans (hG_1.1 73 (by decide))) rfl rfl) ?_
      have hT_32 : TY (setO g13_30 73 (fup (h 73) 2 1)) := tu_73_2 hT_30 (show up g13_30 73 2 1 = (setO g13_30 73 (fup (h 73) 2 1)) from up_can (((hG_30.1 73 (by decide))).trans (hG_1.1 73 (by decide))) rfl rfl) (by omega)
      have hF_32 : FRM [73, 77, 78, 79, 80, 81, 82, 83, 84, 85, 86, 87, 88, 89, 90, 91, 92, 93, 94, 95, 96, 97, 98, 99, 100] [2, 18, 26, 27, 28, 29, 32, 33, 34, 36, 38, 39, 41, 42, 43] h (setO g13_30 73 (fup (h 73) 2 1)) := FRM_f (show up g13_30 73 2 1 = (setO g13_30 73 (fup (h 73) 2 1)) from up_can (((hG_30.1 73 (by decide))).trans (hG_1.1 73 (by decide))) rfl rfl) hF_30 (by decide) (by decide)
      refine TT_aload_n hK rfl 0 rfl dX12_encode_27 ?_
      refine gf_X12_117 hK (by decide) rfl (v := 1) (rd_ (sOf_eq _ _ _) (fup_eq _ _ _)) dX12_encode_28 ?_
      refine TT_if_le hK (tgt := 36) (by decide) dX12_encode_31 (by decide) (fun hb31_33 => ?_) (fun hb31_33 => ?_)
      · exact absurd hb31_33 (by decide)
      · refine TT_iconst hK dX12_encode_34 ?_
        refine TT_iret hK hQ ?_ dX12_encode_35
        have e34_90 : (setO g13_30 73 (fup (h 73) 2 1)) 90 = h 90 := (sOf_ne _ _ (by decide)).trans (((hG_30.1 90 (by decide))).trans (hG_1.1 90 (by decide)))
        have e35_91 : (setO g13_30 73 (fup (h 73) 2 1)) 91 = h 91 := (sOf_ne _ _ (by decide)).trans (((hG_30.1 91 (by decide))).trans (hG_1.1 91 (by decide)))
        have e36_73_18 : (setO g13_30 73 (fup (h 73) 2 1)) 73 18 = (h 73) 18 := rd_ (sOf_eq _ _ _) (fup_ne _ _ (by decide))
        have e37_80 : (setO g13_30 73 (fup (h 73) 2 1)) 80 = h 80 := (sOf_ne _ _ (by decide)).trans (((hG_30.1 80 (by decide))).trans (hG_1.1 80 (by decide)))
        have e38_81 : (setO g13_30 73 (fup (h 73) 2 1)) 81 = h 81 := (sOf_ne _ _ (by decide)).trans (((hG_30.1 81 (by decide))).trans (hG_1.1 81 (by decide)))
        have e39_84 : (setO g13_30 73 (fup (h 73) 2 1)) 84 = h 84 := (sOf_ne _ _ (by decide)).trans (((hG_30.1 84 (by decide))).trans (hG_1.1 84 (by decide)))
        have e40_85 : (setO g13_30 73 (fup (h 73) 2 1)) 85 = h 85 := (sOf_ne _ _ (by decide)).trans (((hG_30.1 85 (by decide))).trans (hG_1.1 85 (by decide)))
        have e41_73_18 : (setO g13_30 73 (fup (h 73) 2 1)) 73 18 = (h 73) 18 := rd_ (sOf_eq _ _ _) (fup_ne _ _ (by decide))
        have e42_80 : (setO g13_30 73 (fup (h 73) 2 1)) 80 = h 80 := (sOf_ne _ _ (by decide)).trans (((hG_30.1 80 (by decide))).trans (hG_1.1 80 (by decide)))
        have e43_81 : (setO g13_30 73 (fup (h 73) 2 1)) 81 = h 81 := (sOf_ne _ _ (by decide)).trans (((hG_30.1 81 (by decide))).trans (hG_1.1 81 (by decide)))
        have e44_84 : (setO g13_30 73 (fup (h 73) 2 1)) 84 = h 84 := (sOf_ne _ _ (by decide)).trans (((hG_30.1 84 (by decide))).trans (hG_1.1 84 (by decide)))
        have e45_85 : (setO g13_30 73 (fup (h 73) 2 1)) 85 = h 85 := (sOf_ne _ _ (by decide)).trans (((hG_30.1 85 (by decide))).trans (hG_1.1 85 (by decide)))
        have e46_83 : (setO g13_30 73 (fup (h 73) 2 1)) 83 = h 83 := (sOf_ne _ _ (by decide)).trans (((hG_30.1 83 (by decide))).trans (hG_1.1 83 (by decide)))
        have e47_89 : (setO g13_30 73 (fup (h 73) 2 1)) 89 = h 89 := (sOf_ne _ _ (by decide)).trans (((hG_30.1 89 (by decide))).trans (hG_1.1 89 (by decide)))
        have e48_90 : (setO g13_30 73 (fup (h 73) 2 1)) 90 = h 90 := (sOf_ne _ _ (by decide)).trans (((hG_30.1 90 (by decide))).trans (hG_1.1 90 (by decide)))
        have e49_91 : (setO g13_30 73 (fup (h 73) 2 1)) 91 = h 91 := (sOf_ne _ _ (by decide)).trans (((hG_30.1 91 (by decide))).trans (hG_1.1 91 (by decide)))
        have e50_83 : (setO g13_30 73 (fup (h 73) 2 1)) 83 = h 83 := (sOf_ne _ _ (by decide)).trans (((hG_30.1 83 (by decide))).trans (hG_1.1 83 (by decide)))
        have e51_89 : (setO g13_30 73 (fup (h 73) 2 1)) 89 = h 89 := (sOf_ne _ _ (by decide)).trans (((hG_30.1 89 (by decide))).trans (hG_1.1 89 (by decide)))
        have e52_90 : (setO g13_30 73 (fup (h 73) 2 1)) 90 = h 90 := (sOf_ne _ _ (by decide)).trans (((hG_30.1 90 (by decide))).trans (hG_1.1 90 (by decide)))
        have e53_91 : (setO g13_30 73 (fup (h 73) 2 1)) 91 = h 91 := (sOf_ne _ _ (by decide)).trans (((hG_30.1 91 (by decide))).trans (hG_1.1 91 (by decide)))
        have e54_83 : (setO g13_30 73 (fup (h 73) 2 1)) 83 = h 83 := (sOf_ne _ _ (by decide)).trans (((hG_30.1 83 (by decide))).trans (hG_1.1 83 (by decide)))
        have e55_89 : (setO g13_30 73 (fup (h 73) 2 1)) 89 = h 89 := (sOf_ne _ _ (by decide)).trans (((hG_30.1 89 (by decide))).trans (hG_1.1 89 (by decide)))
        have e56_90 : (setO g13_30 73 (fup (h 73) 2 1)) 90 = h 90 := (sOf_ne _ _ (by decide)).trans (((hG_30.1 90 (by decide))).trans (hG_1.1 90 (by decide)))
        have e57_92 : (setO g13_30 73 (fup (h 73) 2 1)) 92 = h 92 := (sOf_ne _ _ (by decide)).trans (((hG_30.1 92 (by decide))).trans (hG_1.1 92 (by decide)))
        have e58_92 : (setO g13_30 73 (fup (h 73) 2 1)) 92 = h 92 := (sOf_ne _ _ (by decide)).trans (((hG_30.1 92 (by decide))).trans (hG_1.1 92 (by decide)))
        exact ⟨⟨hT_32, hF_32⟩, 0, rfl, (by omega), (by rewrite [e34_90, e35_91]; exact hmi), (by rewrite [e36_73_18, e37_80, e38_81, e39_84, e40_85]; first | (intro q; exfalso; omega)), (by rewrite [e41_73_18, e42_80, e43_81, e44_84, e45_85]; first | exact (fun _ => ⟨rfl, rfl, rfl, rfl, rfl⟩) | (intro q; exfalso; omega)), (by rewrite [e46_83, e47_89, e48_90, e49_91]; first | (intro q; exfalso; omega)), (by rewrite [e50_83, e51_89, e52_90, e53_91]; first | exact (fun _ => ⟨rfl, rfl, rfl, rfl⟩) | (intro q; exfalso; omega)), (by rewrite [e54_83, e55_89, e56_90, e57_92]; first | (intro q; exfalso; omega)), (by rewrite [e58_92]; first | exact (fun _ => rfl) | (intro q; exfalso; omega))⟩
    · refine TT_iconst hK dX12_encode_19 ?_
      refine TT_goto hK (tgt := 24) dX12_encode_20 (by decide) ?_
      refine pf_X12_117 hK (by decide) rfl dX12_encode_24 ?_
      refine TT_hp (h' := setO g13_30 73 (fup (h 73) 2 0)) (up_can (((hG_30.1 73 (by decide))).trans (hG_1.1 73 (by decide))) rfl rfl) ?_
      have hT_59 : TY (setO g13_30 73 (fup (h 73) 2 0)) := tu_73_2 hT_30 (show up g13_30 73 2 0 = (setO g13_30 73 (fup (h 73) 2 0)) from up_can (((hG_30.1 73 (by decide))).trans (hG_1.1 73 (by decide))) rfl rfl) (by omega)
      have hF_59 : FRM [73, 77, 78, 79, 80, 81, 82, 83, 84, 85, 86, 87, 88, 89, 90, 91, 92, 93, 94, 95, 96, 97, 98, 99, 100] [2, 18, 26, 27, 28, 29, 32, 33, 34, 36, 38, 39, 41, 42, 43] h (setO g13_30 73 (fup (h 73) 2 0)) := FRM_f (show up g13_30 73 2 0 = (setO g13_30 73 (fup (h 73) 2 0)) from up_can (((hG_30.1 73 (by decide))).trans (hG_1.1 73 (by decide))) rfl rfl) hF_30 (by decide) (by decide)
      refine TT_aload_n hK rfl 0 rfl dX12_encode_27 ?_
      refine gf_X12_117 hK (by decide) rfl (v := 0) (rd_ (sOf_eq _ _ _) (fup_eq _ _ _)) dX12_encode_28 ?_
      refine TT_if_le hK (tgt := 36) (by decide) dX12_encode_31 (by decide) (fun hb31_60 => ?_) (fun hb31_60 => ?_)
      · refine TT_iconst hK dX12_encode_36 ?_
        refine TT_istore_n hK rfl (lv' := [(3, vI 0), (0, vR 73), (1, vI l), (2, vI n)]) (by decide) rfl dX12_encode_37 ?_
        have L38_61 : ∀ (k61 : Nat) (k : Int) (w38_61 : Hp_), TY w38_61 → FRM [73, 77, 78, 79, 80, 81, 82, 83, 84, 85, 86, 87, 88, 89, 90, 91, 92, 93, 94, 95, 96, 97, 98, 99, 100] [2, 18, 26, 27, 28, 29, 32, 33, 34, 36, 38, 39, 41, 42, 43] h w38_61 → (MIQ (w38_61 90) (w38_61 91)) → (0 ≤ k ∧ k ≤ 64) → (∀ j : Int, 0 ≤ j → j < k → -128 ≤ (w38_61 77) j ∧ (w38_61 77) j ≤ 128) → (∀ j : Int, 0 ≤ j → j < k → (w38_61 77) j = h 76 j - 128) → ((64 : Int) - k).toNat < k61 → TT K ly 0 0 38 [(0, vR 73), (1, vI l), (2, vI n), (3, vI k)] [] w38_61 := by
          intro k61
          induction k61 with
          | zero => intro k w38_61 hT38_61 hF38_61 hmi hk hs0 hs1 hk61; exact absurd hk61 (Nat.not_lt_zero _)
          | succ k61 ih61 =>
            intro k w38_61 hT38_61 hF38_61 hmi hk hs0 hs1 hk61
            refine TT_iload_n hK rfl 3 rfl dX12_encode_38 ?_
            refine TT_bipush hK (by decide) dX12_encode_39 ?_
            refine TT_icmp_ge hK (tgt := 66) (irm (by omega) (by omega)) (by decide) dX12_encode_41 (by decide) (fun hb41_62 => ?_) (fun hb41_62 => ?_)
            · refine TT_iconst hK dX12_encode_66 ?_
              refine TT_istore_n hK rfl (lv' := [(3, vI 0), (0, vR 73), (1, vI l), (2, vI n)]) (by decide) rfl dX12_encode_67 ?_
              have L68_63 : ∀ (k63 : Nat) (lv : Int) (w68_63 : Hp_), TY w68_63 → FRM [73, 77, 78, 79, 80, 81, 82, 83, 84, 85, 86, 87, 88, 89, 90, 91, 92, 93, 94, 95, 96, 97, 98, 99, 100] [2, 18, 26, 27, 28, 29, 32, 33, 34, 36, 38, 39, 41, 42, 43] h w68_63 → (MIQ (w68_63 90) (w68_63 91)) → (0 ≤ lv ∧ lv ≤ l) → (LV (lf (h 73 3) lv) (lf (h 73 4) lv) (BL lv) (w68_63 77)) → (∀ i : Int, 0 ≤ i → i < 64 → (w68_63 77) i = LE (h 73 3) (h 73 4) (fun i => h 76 i - 128) lv i) → ((3 : Int) - lv).toNat < k63 → TT K ly 0 0 68 [(0, vR 73), (1, vI l), (2, vI n), (3, vI lv)] [] w68_63 := by
                intro k63
                induction k63 with
                | zero => intro lv w68_63 hT68_63 hF68_63 hmi hlv hLV hxq hk63; exact absurd hk63 (Nat.not_lt_zero _)
                | succ k63 ih63 =>
                  intro lv w68_63 hT68_63 hF68_63 hmi hlv hLV hxq hk63
                  have l1 := lf_1 (n := h 73 3) (l := lv) rW (by omega)
                  have l2 := lf_1 (n := h 73 4) (l := lv) rH (by omega)
                  have hll : 0 ≤ l ∧ l ≤ 3 := by omega
                  refine TT_iload_n hK rfl 3 rfl dX12_encode_68 ?_
                  refine TT_iload_n hK rfl 1 rfl dX12_encode_69 ?_
                  refine TT_icmp_ge hK (tgt := 121) (irm (by omega) (by omega)) (irm (by omega) (by omega)) dX12_encode_70 (by decide) (fun hb70_64 => ?_) (fun hb70_64 => ?_)
                  · refine TT_aload_n hK rfl 0 rfl dX12_encode_121 ?_
                    refine TT_iconst hK dX12_encode_122 ?_
                    refine TT_aload_n hK rfl 0 rfl dX12_encode_123 ?_
                    refine gf_X12_16 hK (by decide) rfl (v := (h 73) 3) (hF68_63.2 3 (by decide)) dX12_encode_124 ?_
                    have r65 := ty_73_3 (v := (h 73) 3) hT68_63 (hF68_63.2 3 (by decide))
                    refine TT_aload_n hK rfl 0 rfl dX12_encode_127 ?_
                    refine gf_X12_20 hK (by decide) rfl (v := (h 73) 4) (hF68_63.2 4 (by decide)) dX12_encode_128 ?_
                    have r66 := ty_73_4 (v := (h 73) 4) hT68_63 (hF68_63.2 4 (by decide))
                    refine TT_iload_n hK rfl 1 rfl dX12_encode_131 ?_
                    refine iv_X12_342 hK (s_beBands_z 0 ((h 73) 3) ((h 73) 4) l w68_63 hT68_63 (by first | omega | (simp [up, setR] <;> omega)) (by first | omega | (simp [up, setR] <;> omega)) (by first | omega | (simp [up, setR] <;> omega)) (by first | omega | (simp [up, setR] <;> omega))) (by decide) rfl ⟨by decide, by decide⟩ (by decide) rfl rfl (Nat.le_of_ble_eq_true rfl) ⟨by decide, by decide⟩ dX12_encode_132 ?_
                    intro r9 g132_67 hp9
                    obtain ⟨⟨hT_67, hG_67⟩, hr9, q1_67, q2_67, q3_67, q6_67, q7_67, q8_67, q10_67⟩ := hp9
                    rw [hr9]
                    have hF_67 : FRM [73, 77, 78, 79, 80, 81, 82, 83, 84, 85, 86, 87, 88, 89, 90, 91, 92, 93, 94, 95, 96, 97, 98, 99, 100] [2, 18, 26, 27, 28, 29, 32, 33, 34, 36, 38, 39, 41, 42, 43] h g132_67 := FRM_tr hF68_63 hG_67 (by decide) (by decide)
                    have q1_at132 := q1_67
                    have q2_at132 := q2_67
                    have q3_at132 := q3_67
                    have q7_at132 := q7_67
                    have q8_at132 := q8_67
                    show TT K ly 0 0 135 [(0, vR 73), (1, vI l), (2, vI n), (3, vI lv)] [] g132_67
                    refine TT_aload_n hK rfl 0 rfl dX12_encode_135 ?_
                    refine TT_iconst hK dX12_encode_136 ?_
                    refine TT_iload_n hK rfl 1 rfl dX12_encode_137 ?_
                    refine TT_imul hK dX12_encode_138 ?_
                    refine TT_iconst hK dX12_encode_139 ?_
                    refine TT_iadd hK dX12_encode_140 ?_
                    refine pf_X12_345 hK (by decide) rfl dX12_encode_141 ?_
                    refine TT_hp (h' := setO g132_67 73 (fup (w68_63 73) 18 ((3 * l) + 1))) (up_can (hG_67.1 73 (by decide)) rfl rfl) ?_
                    have hT_68 : TY (setO g132_67 73 (fup (w68_63 73) 18 ((3 * l) + 1))) := tu_73_18 hT_67 (show up g132_67 73 18 ((3 * l) + 1) = (setO g132_67 73 (fup (w68_63 73) 18 ((3 * l) + 1))) from up_can (hG_67.1 73 (by decide)) rfl rfl) (by omega)
                    have hF_68 : FRM [73, 77, 78, 79, 80, 81, 82, 83, 84, 85, 86, 87, 88, 89, 90, 91, 92, 93, 94, 95, 96, 97, 98, 99, 100] [2, 18, 26, 27, 28, 29, 32, 33, 34, 36, 38, 39, 41, 42, 43] h (setO g132_67 73 (fup (w68_63 73) 18 ((3 * l) + 1))) := FRM_f (show up g132_67 73 18 ((3 * l) + 1) = (setO g132_67 73 (fup (w68_63 73) 18 ((3 * l) + 1))) from up_can (hG_67.1 73 (by decide)) rfl rfl) hF_67 (by decide) (by decide)
                    refine TT_iconst hK dX12_encode_144 ?_
                    refine TT_istore_n hK rfl (lv' := [(3, vI 0), (0, vR 73), (1, vI l), (2, vI n)]) (by decide) rfl dX12_encode_145 ?_
                    refine TT_iconst hK dX12_encode_146 ?_
                    refine TT_istore hK (lv' := [(4, vI 0), (3, vI 0), (0, vR 73), (1, vI l), (2, vI n)]) (by decide) rfl dX12_encode_147 ?_
                    have L149_69 : ∀ (k69 : Nat) (f : Int) (b : Int) (w149_69 : Hp_), TY w149_69 → FRM [73, 77, 78, 79, 80, 81, 82, 83, 84, 85, 86, 87, 88, 89, 90, 91, 92, 93, 94, 95, 96, 97, 98, 99, 100] [2, 18, 26, 27, 28, 29, 32, 33, 34, 36, 38, 39, 41, 42, 43] h w149_69 → (0 ≤ b ∧ b ≤ 3 * l + 1) → ((w149_69 73 18) = 3 * l + 1) → (∀ i : Int, 0 ≤ i → i < 64 → -4095 ≤ (w149_69 77) i ∧ (w149_69 77) i ≤ 4095) → (∀ j : Int, 0 ≤ j → j < 3 * l + 1 → (w149_69 80) j = BW (h 73 3) l j) → (∀ j : Int, 0 ≤ j → j < 3 * l + 1 → (w149_69 81) j = BH (h 73 4) l j) → (∀ j : Int, 0 ≤ j → j < 3 * l + 1 → (w149_69 86) j = 0) → (MIQ (w149_69 90) (w149_69 91)) → (LQ (w149_69 83) (w149_69 91) (w149_69 92) b) → (0 ≤ f ∧ f ≤ 48 * IS (AR (h 73 3) (h 73 4) l) b + 30 * b) → (f = IS (w149_69 91) b) → (∀ i : Int, 0 ≤ i → i < 64 → (w149_69 77) i = LE (h 73 3) (h 73 4) (fun i => h 76 i - 128) l i) → (∀ b2 x2 y2 : Int, 0 ≤ b2 → b2 < b → 0 ≤ x2 → x2 < BW (h 73 3) l b2 → 0 ≤ y2 → y2 < BH (h 73 4) l b2 → sgn ((w149_69 85) (64 * b2 + 8 * y2 + x2)) ((w149_69 84) (64 * b2 + 8 * y2 + x2)) = LE (h 73 3) (h 73 4) (fun i => h 76 i - 128) l (8 * CY (h 73 4) l b2 + CX (h 73 3) l b2 + 8 * y2 + x2)) → (∀ j : Int, 0 ≤ j → j < 3 * l + 1 → (w149_69 82) j = kdB j) → (∀ j : Int, 64 * b ≤ j → j < 64 * (3 * l + 1) → (w149_69 84) j = 0) → (CWQ Mf sf (h 73 3) (h 73 4) (fun i => h 76 i - 128) l b (w149_69 83) (w149_69 89) (w149_69 90) (w149_69 91)) → (∀ c : Int, 0 ≤ c → c < b → (w149_69 90) c + (w149_69 91) c ≤ f) → (LXQ Mf sf (h 73 3) (h 73 4) l b (w149_69 83) (w149_69 89) (w149_69 90) (w149_69 92)) → ((10 : Int) - b).toNat < k69 → TT K ly 0 0 149 [(0, vR 73), (1, vI l), (2, vI n), (3, vI f), (4, vI b)] [] w149_69 := by
                      intro k69
                      induction k69 with
                      | zero => intro f b w149_69 hT149_69 hF149_69 hb k18 hsq hbw hbh hbt hmi hlq hf hfs hx3 hnq hbk hzz hcw hca hlx hk69; exact absurd hk69 (Nat.not_lt_zero _)
                      | succ k69 ih69 =>
                        intro f b w149_69 hT149_69 hF149_69 hb k18 hsq hbw hbh hbt hmi hlq hf hfs hx3 hnq hbk hzz hcw hca hlx hk69
                        refine TT_iload hK 4 rfl dX12_encode_149 ?_
                        refine TT_aload_n hK rfl 0 rfl dX12_encode_151 ?_
                        refine gf_X12_345 hK (by decide) rfl (v := (w149_69 73) 18) rfl dX12_encode_152 ?_
                        have r70 := ty_73_18 (v := (w149_69 73) 18) hT149_69 rfl
                        refine TT_icmp_ge hK (tgt := 201) (irm (by omega) (by omega)) (irm (by omega) (by omega)) dX12_encode_155 (by decide) (fun hb155_71 => ?_) (fun hb155_71 => ?_)
                        · have gn := GT_nn (c := 3 * l + 1) hT149_69 (by omega)
                          have iaR := ARb (w := (h 73 3)) (e := (h 73 4)) (l := l) (c := b) (by omega) (by omega) (by omega) (by omega)
                          refine TT_aload_n hK rfl 0 rfl dX12_encode_201 ?_
                          refine gf_X12_96 hK (by decide) rfl (q := 100) rfl rfl dX12_encode_202 ?_
                          refine TT_iconst hK dX12_encode_205 ?_
                          refine TT_aload_n hK rfl 0 rfl dX12_encode_206 ?_
                          refine gf_X12_16 hK (by decide) rfl (v := (h 73) 3) (hF149_69.2 3 (by decide)) dX12_encode_207 ?_
                          have r72 := ty_73_3 (v := (h 73) 3) hT149_69 (hF149_69.2 3 (by decide))
                          refine TT_iast hK (o := 100) (n := 4700) (by decide) rfl (by omega) (by omega) dX12_encode_210 ?_
                          refine TT_hp (h' := setO w149_69 100 (fup (w149_69 100) 0 ((h 73) 3))) (up_can rfl rfl rfl) ?_
                          have hT_73 : TY (setO w149_69 100 (fup (w149_69 100) 0 ((h 73) 3))) := tu_100 hT149_69 (show up w149_69 100 0 ((h 73) 3) = (setO w149_69 100 (fup (w149_69 100) 0 ((h 73) 3))) from up_can rfl rfl rfl) (by omega)
                          have hF_73 : FRM [73, 77, 78, 79, 80, 81, 82, 83, 84, 85, 86, 87, 88, 89, 90, 91, 92, 93, 94, 95, 96, 97, 98, 99, 100] [2, 18, 26, 27, 28, 29, 32, 33, 34, 36, 38, 39, 41, 42, 43] h (setO w149_69 100 (fup (w149_69 100) 0 ((h 73) 3))) := FRM_up (show up w149_69 100 0 ((h 73) 3) = (setO w149_69 100 (fup (w149_69 100) 0 ((h 73) 3))) from up_can rfl rfl rfl) hF149_69 (by decide) (by decide)
                          refine TT_aload_n hK rfl 0 rfl dX12_encode_211 ?_
                          refine gf_X12_96 hK (by decide) rfl (q := 100) rfl rfl dX12_encode_212 ?_
                          refine TT_iconst hK dX12_encode_215 ?_
                          refine TT_aload_n hK rfl 0 rfl dX12_encode_216 ?_
                          refine gf_X12_20 hK (by decide) rfl (v := (h 73) 4) ((rd_ (sOf_ne _ _ (by decide)) rfl).trans (hF149_69.2 4 (by decide))) dX12_encode_217 ?_
                          have r74 := ty_73_4 (v := (h 73) 4) hT_73 ((rd_ (sOf_ne _ _ (by decide)) rfl).trans (hF149_69.2 4 (by decide)))
                          refine TT_iast hK (o := 100) (n := 4700) (by decide) rfl (by omega) (by omega) dX12_encode_220 ?_
                          refine TT_hp (h' := setO w149_69 100 (fup (fup (w149_69 100) 0 ((h 73) 3)) 1 ((h 73) 4))) (up_can (sOf_eq _ _ _) rfl (setO_same _ _ _ _)) ?_
                          have hT_75 : TY (setO w149_69 100 (fup (fup (w149_69 100) 0 ((h 73) 3)) 1 ((h 73) 4))) := tu_100 hT_73 (show up (setO w149_69 100 (fup (w149_69 100) 0 ((h 73) 3))) 100 1 ((h 73) 4) = (setO w149_69 100 (fup (fup (w149_69 100) 0 ((h 73) 3)) 1 ((h 73) 4))) from up_can (sOf_eq _ _ _) rfl (setO_same _ _ _ _)) (by omega)
                          have hF_75 : FRM [73, 77, 78, 79, 80, 81, 82, 83, 84, 85, 86, 87, 88, 89, 90, 91, 92, 93, 94, 95, 96, 97, 98, 99, 100] [2, 18, 26, 27, 28, 29, 32, 33, 34, 36, 38, 39, 41, 42, 43] h (setO w149_69 100 (fup (fup (w149_69 100) 0 ((h 73) 3)) 1 ((h 73) 4))) := FRM_up (show up (setO w149_69 100 (fup (w149_69 100) 0 ((h 73) 3))) 100 1 ((h 73) 4) = (setO w149_69 100 (fup (fup (w149_69 100) 0 ((h 73) 3)) 1 ((h 73) 4))) from up_can (sOf_eq _ _ _) rfl (setO_same _ _ _ _)) hF_73 (by decide) (by decide)
                          refine TT_aload_n hK rfl 0 rfl dX12_encode_221 ?_
                          refine gf_X12_96 hK (by decide) rfl (q := 100) rfl rfl dX12_encode_222 ?_
                          refine TT_iconst hK dX12_encode_225 ?_
                          refine TT_iload_n hK rfl 1 rfl dX12_encode_226 ?_
                          refine TT_iast hK (o := 100) (n := 4700) (by decide) rfl (by omega) (by omega) dX12_encode_227 ?_
                          refine TT_hp (h' := setO w149_69 100 (fup (fup (fup (w149_69 100) 0 ((h 73) 3)) 1 ((h 73) 4)) 2 l)) (up_can (sOf_eq _ _ _) rfl (setO_same _ _ _ _)) ?_
                          have hT_76 : TY (setO w149_69 100 (fup (fup (fup (w149_69 100) 0 ((h 73) 3)) 1 ((h 73) 4)) 2 l)) := tu_100 hT_75 (show up (setO w149_69 100 (fup (fup (w149_69 100) 0 ((h 73) 3)) 1 ((h 73) 4))) 100 2 l = (setO w149_69 100 (fup (fup (fup (w149_69 100) 0 ((h 73) 3)) 1 ((h 73) 4)) 2 l)) from up_can (sOf_eq _ _ _) rfl (setO_same _ _ _ _)) (by omega)
                          have hF_76 : FRM [73, 77, 78, 79, 80, 81, 82, 83, 84, 85, 86, 87, 88, 89, 90, 91, 92, 93, 94, 95, 96, 97, 98, 99, 100] [2, 18, 26, 27, 28, 29, 32, 33, 34, 36, 38, 39, 41, 42, 43] h (setO w149_69 100 (fup (fup (fup (w149_69 100) 0 ((h 73) 3)) 1 ((h 73) 4)) 2 l)) := FRM_up (show up (setO w149_69 100 (fup (fup (w149_69 100) 0 ((h 73) 3)) 1 ((h 73) 4))) 100 2 l = (setO w149_69 100 (fup (fup (fup (w149_69 100) 0 ((h 73) 3)) 1 ((h 73) 4)) 2 l)) from up_can (sOf_eq _ _ _) rfl (setO_same _ _ _ _)) hF_75 (by decide) (by decide)
                          refine TT_aload_n hK rfl 0 rfl dX12_encode_228 ?_
                          refine gf_X12_96 hK (by decide) rfl (q := 100) rfl rfl dX12_encode_229 ?_
                          refine TT_iconst hK dX12_encode_232 ?_
                          refine TT_iload_n hK rfl 2 rfl dX12_encode_233 ?_
                          refine TT_iast hK (o := 100) (n := 4700) (by decide) rfl (by omega) (by omega) dX12_encode_234 ?_
                          refine TT_hp (h' := setO w149_69 100 (fup (fup (fup (fup (w149_69 100) 0 ((h 73) 3)) 1 ((h 73) 4)) 2 l) 3 n)) (up_can (sOf_eq _ _ _) rfl (setO_same _ _ _ _)) ?_
                          have hT_77 : TY (setO w149_69 100 (fup (fup (fup (fup (w149_69 100) 0 ((h 73) 3)) 1 ((h 73) 4)) 2 l) 3 n)) := tu_100 hT_76 (show up (setO w149_69 100 (fup (fup (fup (w149_69 100) 0 ((h 73) 3)) 1 ((h 73) 4)) 2 l)) 100 3 n = (setO w149_69 100 (fup (fup (fup (fup (w149_69 100) 0 ((h 73) 3)) 1 ((h 73) 4)) 2 l) 3 n)) from up_can (sOf_eq _ _ _) rfl (setO_same _ _ _ _)) (by omega)
                          have hF_77 : FRM [73, 77, 78, 79, 80, 81, 82, 83, 84, 85, 86, 87, 88, 89, 90, 91, 92, 93, 94, 95, 96, 97, 98, 99, 100] [2, 18, 26, 27, 28, 29, 32, 33, 34, 36, 38, 39, 41, 42, 43] h (setO w149_69 100 (fup (fup (fup (fup (w149_69 100) 0 ((h 73) 3)) 1 ((h 73) 4)) 2 l) 3 n)) := FRM_up (show up (setO w149_69 100 (fup (fup (fup (w149_69 100) 0 ((h 73) 3)) 1 ((h 73) 4)) 2 l)) 100 3 n = (setO w149_69 100 (fup (fup (fup (fup (w149_69 100) 0 ((h 73) 3)) 1 ((h 73) 4)) 2 l) 3 n)) from up_can (sOf_eq _ _ _) rfl (setO_same _ _ _ _)) hF_76 (by decide) (by decide)
                          refine TT_aload_n hK rfl 0 rfl dX12_encode_235 ?_
                          refine TT_iconst hK dX12_encode_236 ?_
                          refine pf_X12_329 hK (by decide) rfl dX12_encode_237 ?_
                          refine TT_hp (h' := setO (setO w149_69 73 (fup (w149_69 73) 41 4)) 100 (fup (fup (fup (fup (w149_69 100) 0 ((h 73) 3)) 1 ((h 73) 4)) 2 l) 3 n)) (up_can (sOf_ne _ _ (by decide)) rfl ((setO_comm _ _ _ (by decide)).trans (setO_cg rfl rfl))) ?_
                          have hT_78 : TY (setO (setO w149_69 73 (fup (w149_69 73) 41 4)) 100 (fup (fup (fup (fup (w149_69 100) 0 ((h 73) 3)) 1 ((h 73) 4)) 2 l) 3 n)) := tu_73_41 hT_77 (show up (setO w149_69 100 (fup (fup (fup (fup (w149_69 100) 0 ((h 73) 3)) 1 ((h 73) 4)) 2 l) 3 n)) 73 41 4 = (setO (setO w149_69 73 (fup (w149_69 73) 41 4)) 100 (fup (fup (fup (fup (w149_69 100) 0 ((h 73) 3)) 1 ((h 73) 4)) 2 l) 3 n)) from up_can (sOf_ne _ _ (by decide)) rfl ((setO_comm _ _ _ (by decide)).trans (setO_cg rfl rfl))) (by omega)
                          have hF_78 : FRM [73, 77, 78, 79, 80, 81, 82, 83, 84, 85, 86, 87, 88, 89, 90, 91, 92, 93, 94, 95, 96, 97, 98, 99, 100] [2, 18, 26, 27, 28, 29, 32, 33, 34, 36, 38, 39, 41, 42, 43] h (setO (setO w149_69 73 (fup (w149_69 73) 41 4)) 100 (fup (fup (fup (fup (w149_69 100) 0 ((h 73) 3)) 1 ((h 73) 4)) 2 l) 3 n)) := FRM_f (show up (setO w149_69 100 (fup (fup (fup (fup (w149_69 100) 0 ((h 73) 3)) 1 ((h 73) 4)) 2 l) 3 n)) 73 41 4 = (setO (setO w149_69 73 (fup (w149_69 73) 41 4)) 100 (fup (fup (fup (fup (w149_69 100) 0 ((h 73) 3)) 1 ((h 73) 4)) 2 l) 3 n)) from up_can (sOf_ne _ _ (by decide)) rfl ((setO_comm _ _ _ (by decide)).trans (setO_cg rfl rfl))) hF_77 (by decide) (by decide)
                          refine TT_iconst hK dX12_encode_240 ?_
                          refine TT_istore hK (lv' := [(4, vI 1), (0, vR 73), (1, vI l), (2, vI n), (3, vI f)]) (by decide) rfl dX12_encode_241 ?_
                          have L243_79 : ∀ (k79 : Nat) (i : Int) (w243_79 : Hp_), TY w243_79 → FRM [73, 77, 78, 79, 80, 81, 82, 83, 84, 85, 86, 87, 88, 89, 90, 91, 92, 93, 94, 95, 96, 97, 98, 99, 100] [2, 18, 26, 27, 28, 29, 32, 33, 34, 36, 38, 39, 41, 42, 43] h w243_79 → (1 ≤ i ∧ i ≤ n + 1) → ((w243_79 73 18) = 3 * l + 1) → (MIQ (w243_79 90) (w243_79 91)) → (LQ (w243_79 83) (w243_79 91) (w243_79 92) (3 * l + 1)) → (IS (w243_79 91) (3 * l + 1) ≤ 3372) → (i ≤ n → TKQ (w243_79 86) (w243_79 83) i n (3 * l + 1)) → ((w243_79 73 41) ≤ 4 + 19 * (4 * (i - 1)) + IS (GT (w243_79 92) (w243_79 86)) (3 * l + 1)) → (∀ j : Int, 0 ≤ j → j < 3 * l + 1 → (w243_79 80) j = BW (h 73 3) l j) → (∀ j : Int, 0 ≤ j → j < 3 * l + 1 → (w243_79 81) j = BH (h 73 4) l j) → (∀ b2 x2 y2 : Int, 0 ≤ b2 → b2 < 3 * l + 1 → 0 ≤ x2 → x2 < BW (h 73 3) l b2 → 0 ≤ y2 → y2 < BH (h 73 4) l b2 → sgn ((w243_79 85) (64 * b2 + 8 * y2 + x2)) ((w243_79 84) (64 * b2 + 8 * y2 + x2)) = LE (h 73 3) (h 73 4) (fun i => h 76 i - 128) l (8 * CY (h 73 4) l b2 + CX (h 73 3) l b2 + 8 * y2 + x2)) → (CWQ Mf sf (h 73 3) (h 73 4) (fun i => h 76 i - 128) l (3 * l + 1) (w243_79 83) (w243_79 89) (w243_79 90) (w243_79 91)) → (LXQ Mf sf (h 73 3) (h 73 4) l (3 * l + 1) (w243_79 83) (w243_79 89) (w243_79 90) (w243_79 92)) → ((4 : Int) - i).toNat < k79 → TT K ly 0 0 243 [(0, vR 73), (1, vI l), (2, vI n), (4, vI i)] [] w243_79 := by
                            intro k79
                            induction k79 with
                            | zero => intro i w243_79 hT243_79 hF243_79 hi k18 hmi hlq hws htk hln hbw hbh hnf hcw hlx hk79; exact absurd hk79 (Nat.not_lt_zero _)
                            | succ k79 ih79 =>
                              intro i w243_79 hT243_79 hF243_79 hi k18 hmi hlq hws htk hln hbw hbh hnf hcw hlx hk79
                              refine TT_iload hK 3 rfl dX12_encode_243 ?_
                              refine TT_iload_n hK rfl 2 rfl dX12_encode_245 ?_
                              refine TT_icmp_gt hK (tgt := 279) (irm (by omega) (by omega)) (irm (by omega) (by omega)) dX12_encode_246 (by decide) (fun hb246_80 => ?_) (fun hb246_80 => ?_)
                              · refine TT_aload_n hK rfl 0 rfl dX12_encode_279 ?_
                                refine gf_X12_329 hK (by decide) rfl (v := (w243_79 73) 41) rfl dX12_encode_280 ?_
                                have r81 := ty_73_41 (v := (w243_79 73) 41) hT243_79 rfl
                                refine TT_iret hK hQ ?_ dX12_encode_283
                                have e82_73_18 : w243_79 73 18 = (w243_79 73) 18 := rfl
                                have e83_73_18 : w243_79 73 18 = (w243_79 73) 18 := rfl
                                exact ⟨⟨hT243_79, hF243_79⟩, ((w243_79 73) 41), rfl, (by omega), (by exact hmi), (by rewrite [e82_73_18]; first | (intro q; exfalso; omega) | exact (fun _ => ⟨k18, fun j h1 h2 => ⟨hbw j h1 h2, hbh j h1 h2⟩, hnf⟩)), (by rewrite [e83_73_18]; first | exact (fun _ => ⟨rfl, rfl, rfl, rfl, rfl⟩) | (intro q; exfalso; omega)), (by first | (intro q; exfalso; omega) | exact (fun _ => hcw)), (by first | exact (fun _ => ⟨rfl, rfl, rfl, rfl⟩) | (intro q; exfalso; omega)), (by first | (intro q; exfalso; omega) | exact (fun _ => hlx)), (by first | exact (fun _ => rfl) | (intro q; exfalso; omega))⟩
                              · refine TT_iconst hK dX12_encode_249 ?_
                                refine TT_istore hK (lv' := [(5, vI 0), (0, vR 73), (1, vI l), (2, vI n), (4, vI i)]) (by decide) rfl dX12_encode_250 ?_
                                have L252_84 : ∀ (k84 : Nat) (r : Int) (w252_84 : Hp_), TY w252_84 → FRM [73, 77, 78, 79, 80, 81, 82, 83, 84, 85, 86, 87, 88, 89, 90, 91, 92, 93, 94, 95, 96, 97, 98, 99, 100] [2, 18, 26, 27, 28, 29, 32, 33, 34, 36, 38, 39, 41, 42, 43] h w252_84 → (0 ≤ r ∧ r ≤ l + 1) → ((w252_84 73 18) = 3 * l + 1) → (MIQ (w252_84 90) (w252_84 91)) → (LQ (w252_84 83) (w252_84 91) (w252_84 92) (3 * l + 1)) → (IS (w252_84 91) (3 * l + 1) ≤ 3372) → (TKQ (w252_84 86) (w252_84 83) i n (3 * l + 1)) → ((w252_84 73 41) ≤ 4 + 19 * (4 * (i - 1) + r) + IS (GT (w252_84 92) (w252_84 86)) (3 * l + 1)) → (∀ j : Int, 0 ≤ j → j < 3 * l + 1 → (w252_84 80) j = BW (h 73 3) l j) → (∀ j : Int, 0 ≤ j → j < 3 * l + 1 → (w252_84 81) j = BH (h 73 4) l j) → (∀ b2 x2 y2 : Int, 0 ≤ b2 → b2 < 3 * l + 1 → 0 ≤ x2 → x2 < BW (h 73 3) l b2 → 0 ≤ y2 → y2 < BH (h 73 4) l b2 → sgn ((w252_84 85) (64 * b2 + 8 * y2 + x2)) ((w252_84 84) (64 * b2 + 8 * y2 + x2)) = LE (h 73 3) (h 73 4) (fun i => h 76 i - 128) l (8 * CY (h 73 4) l b2 + CX (h 73 3) l b2 + 8 * y2 + x2)) → (CWQ Mf sf (h 73 3) (h 73 4) (fun i => h 76 i - 128) l (3 * l + 1) (w252_84 83) (w252_84 89) (w252_84 90) (w252_84 91)) → (LXQ Mf sf (h 73 3) (h 73 4) l (3 * l + 1) (w252_84 83) (w252_84 89) (w252_84 90) (w252_84 92)) → ((4 : Int) - r).toNat < k84 → TT K ly 0 0 252 [(0, vR 73), (1, vI l), (2, vI n), (4, vI i), (5, vI r)] [] w252_84 := by
                                  intro k84
                                  induction k84 with
                                  | zero => intro r w252_84 hT252_84 hF252_84 hr k18 hmi hlq hws htk2 hln hbw hbh hnf hcw hlx hk84; exact absurd hk84 (Nat.not_lt_zero _)
                                  | succ k84 ih84 =>
                                    intro r w252_84 hT252_84 hF252_84 hr k18 hmi hlq hws htk2 hln hbw hbh hnf hcw hlx hk84
                                    refine TT_iload hK 4 rfl dX12_encode_252 ?_
                                    refine TT_iload_n hK rfl 1 rfl dX12_encode_254 ?_
                                    refine TT_icmp_gt hK (tgt := 273) (irm (by omega) (by omega)) (irm (by omega) (by omega)) dX12_encode_255 (by decide) (fun hb255_85 => ?_) (fun hb255_85 => ?_)
                                    · refine TT_iinc hK (v := i + 1) (lv' := [(4, vI (i + 1)), (0, vR 73), (1, vI l), (2, vI n), (5, vI r)]) 3 rfl rfl (by decide) rfl dX12_encode_273 ?_
                                      refine TT_goto hK (tgt := 243) dX12_encode_276 (by decide) ?_
                                      refine TT_sub [1, 2, 3, 0] rfl ?_
                                      have e86_73_18 : w252_84 73 18 = (w252_84 73) 18 := rfl
                                      have e87_73_41 : w252_84 73 41 = (w252_84 73) 41 := rfl
                                      exact ih79 (i + 1) w252_84 hT252_84 hF252_84 (by first | omega | (simp [up, setR] <;> omega)) (by rewrite [e86_73_18]; first | omega | (simp [up, setR] <;> omega)) (by exact hmi) (by exact hlq) (by exact hws) (by intro h1; exact TKQ_m htk2 (fun j h2 h3 => (ty_83 (i := j) (v := w252_84 83 j) hT252_84 rfl h2 (by omega)).1.1) (by omega) (by omega)) (by rewrite [e87_73_41]; first | omega | (simp [up, setR] <;> omega)) (by exact hbw) (by exact hbh) (by exact hnf) (by exact hcw) (by exact hlx) (by first | omega | (simp [up, setR] <;> omega))
                                    · refine TT_aload_n hK rfl 0 rfl dX12_encode_258 ?_
                                      refine TT_iload hK 4 rfl dX12_encode_259 ?_
                                      refine TT_iload hK 3 rfl dX12_encode_261 ?_
                                      refine TT_iload_n hK rfl 2 rfl dX12_encode_263 ?_
                                      have e88_73_18 : w252_84 73 18 = (w252_84 73) 18 := rfl
                                      have e89_73_18 : w252_84 73 18 = (w252_84 73) 18 := rfl
                                      have e90_73_18 : w252_84 73 18 = (w252_84 73) 18 := rfl
                                      have e91_73_18 : w252_84 73 18 = (w252_84 73) 18 := rfl
                                      have e92_73_41 : w252_84 73 41 = (w252_84 73) 41 := rfl
                                      refine iv_X12_358 hK (s_X12_putPacket_73 r i n w252_84 hT252_84 (by first | omega | (simp [up, setR] <;> omega)) (by rewrite [e88_73_18]; rw [k18]; omega) (by first | omega | (simp [up, setR] <;> omega)) (by first | omega | (simp [up, setR] <;> omega)) (by rewrite [e89_73_18]; rw [k18]; exact hlq) (by first | assumption | exact hmi) (by rewrite [e90_73_18]; rw [k18]; exact htk2) (by rewrite [e91_73_18, e92_73_41]; rw [k18]; omega)) (by decide) rfl ⟨by decide, by decide⟩ (by decide) rfl rfl (Nat.le_of_ble_eq_true rfl) ⟨by decide, by decide⟩ dX12_encode_264 ?_
                                      intro r9 g264_93 hp9
                                      obtain ⟨⟨hT_93, hG_93⟩, hr9, q1_93, q2_93⟩ := hp9
                                      rw [hr9]
                                      have hF_93 : FRM [73, 77, 78, 79, 80, 81, 82, 83, 84, 85, 86, 87, 88, 89, 90, 91, 92, 93, 94, 95, 96, 97, 98, 99, 100] [2, 18, 26, 27, 28, 29, 32, 33, 34, 36, 38, 39, 41, 42, 43] h g264_93 := FRM_tr hF252_84 hG_93 (by decide) (by decide)
                                      rw [show w252_84 73 18 = (w252_84 73) 18 from rfl] at q1_93
                                      rw [show w252_84 73 41 = (w252_84 73) 41 from rfl] at q1_93
                                      rw [show w252_84 73 18 = (w252_84 73) 18 from rfl] at q2_93
                                      have q1_at264 := q1_93
                                      have q2_at264 := q2_93
                                      show TT K ly 0 0 267 [(0, vR 73), (1, vI l), (2, vI n), (4, vI i), (5, vI r)] [] g264_93
                                      refine TT_iinc hK (v := r + 1) (lv' := [(5, vI (r + 1)), (0, vR 73), (1, vI l), (2, vI n), (4, vI i)]) 4 rfl rfl (by decide) rfl dX12_encode_267 ?_
                                      refine TT_goto hK (tgt := 252) dX12_encode_270 (by decide) ?_
                                      refine TT_sub [1, 2, 3, 4, 0] rfl ?_
                                      have e94_73_18 : g264_93 73 18 = (w252_84 73) 18 := (hG_93.2 18 (by decide))
                                      have e95_90 : g264_93 90 = w252_84 90 := (hG_93.1 90 (by decide))
                                      have e96_91 : g264_93 91 = w252_84 91 := (hG_93.1 91 (by decide))
                                      have e97_83 : g264_93 83 = w252_84 83 := (hG_93.1 83 (by decide))
                                      have e98_91 : g264_93 91 = w252_84 91 := (hG_93.1 91 (by decide))
                                      have e99_92 : g264_93 92 = w252_84 92 := (hG_93.1 92 (by decide))
                                      have e100_91 : g264_93 91 = w252_84 91 := (hG_93.1 91 (by decide))
                                      have e101_83 : g264_93 83 = w252_84 83 := (hG_93.1 83 (by decide))
                                      have e102_73_41 : g264_93 73 41 = (g264_93 73) 41 := rfl
                                      have e103_92 : g264_93 92 = w252_84 92 := (hG_93.1 92 (by decide))
                                      have e104_80 : g264_93 80 = w252_84 80 := (hG_93.1 80 (by decide))
                                      have e105_81 : g264_93 81 = w252_84 81 := (hG_93.1 81 (by decide))
                                      have e106_84 : g264_93 84 = w252_84 84 := (hG_93.1 84 (by decide))
                                      have e107_85 : g264_93 85 = w252_84 85 := (hG_93.1 85 (by decide))
                                      have e108_83 : g264_93 83 = w252_84 83 := (hG_93.1 83 (by decide))
                                      have e109_89 : g264_93 89 = w252_84 89 := (hG_93.1 89 (by decide))
                                      have e110_90 : g264_93 90 = w252_84 90 := (hG_93.1 90 (by decide))
                                      have e111_91 : g264_93 91 = w252_84 91 := (hG_93.1 91 (by decide))
                                      have e112_83 : g264_93 83 = w252_84 83 := (hG_93.1 83 (by decide))
                                      have e113_89 : g264_93 89 = w252_84 89 := (hG_93.1 89 (by decide))
                                      have e114_90 : g264_93 90 = w252_84 90 := (hG_93.1 90 (by decide))
                                      have e115_92 : g264_93 92 = w252_84 92 := (hG_93.1 92 (by decide))
                                      rw [k18] at q1_at264 q2_at264
                                      exact ih84 (r + 1) g264_93 hT_93 hF_93 (by first | omega | (simp [up, setR] <;> omega)) (by rewrite [e94_73_18]; first | omega | (simp [up, setR] <;> omega)) (by rewrite [e95_90, e96_91]; exact hmi) (by rewrite [e97_83, e98_91, e99_92]; exact hlq) (by rewrite [e100_91]; exact hws) (by rewrite [e101_83]; exact q2_at264) (by rewrite [e102_73_41, e103_92]; first | omega | (simp [up, setR] <;> omega)) (by rewrite [e104_80]; exact hbw) (by rewrite [e105_81]; exact hbh) (by rewrite [e106_84, e107_85]; exact hnf) (by rewrite [e108_83, e109_89, e110_90, e111_91]; exact hcw) (by rewrite [e112_83, e113_89, e114_90, e115_92]; exact hlx) (by first | omega | (simp [up, setR] <;> omega))
                                refine TT_sub [1, 2, 3, 4, 0] rfl ?_
                                have e116_73_18 : w243_79 73 18 = (w243_79 73) 18 := rfl
                                have e117_73_41 : w243_79 73 41 = (w243_79 73) 41 := rfl
                                exact L252_84 ((((4 : Int) - 0).toNat) + 1) 0 w243_79 hT243_79 hF243_79 (by first | omega | (simp [up, setR] <;> omega)) (by rewrite [e116_73_18]; first | omega | (simp [up, setR] <;> omega)) (by exact hmi) (by exact hlq) (by exact hws) (by exact htk (by omega)) (by rewrite [e117_73_41]; first | omega | (simp [up, setR] <;> omega)) (by exact hbw) (by exact hbh) (by exact hnf) (by first | exact hcw | (rw [show 3 * l + 1 = b by omega]; exact hcw)) (by first | exact hlx | (rw [show 3 * l + 1 = b by omega]; exact hlx)) (Nat.lt_succ_self _)
                          refine TT_sub [1, 2, 3, 0] rfl ?_
                          have e118_73_18 : (setO (setO w149_69 73 (fup (w149_69 73) 41 4)) 100 (fup (fup (fup (fup (w149_69 100) 0 ((h 73) 3)) 1 ((h 73) 4)) 2 l) 3 n)) 73 18 = (w149_69 73) 18 := rd_ ((sOf_ne _ _ (by decide)).trans (sOf_eq _ _ _)) (fup_ne _ _ (by decide))
                          have e119_90 : (setO (setO w149_69 73 (fup (w149_69 73) 41 4)) 100 (fup (fup (fup (fup (w149_69 100) 0 ((h 73) 3)) 1 ((h 73) 4)) 2 l) 3 n)) 90 = w149_69 90 := (sOf_ne _ _ (by decide)).trans (sOf_ne _ _ (by decide))
                          have e120_91 : (setO (setO w149_69 73 (fup (w149_69 73) 41 4)) 100 (fup (fup (fup (fup (w149_69 100) 0 ((h 73) 3)) 1 ((h 73) 4)) 2 l) 3 n)) 91 = w149_69 91 := (sOf_ne _ _ (by decide)).trans (sOf_ne _ _ (by decide))
                          have e121_83 : (setO (setO w149_69 73 (fup (w149_69 73) 41 4)) 100 (fup (fup (fup (fup (w149_69 100) 0 ((h 73) 3)) 1 ((h 73) 4)) 2 l) 3 n)) 83 = w149_69 83 := (sOf_ne _ _ (by decide)).trans (sOf_ne _ _ (by decide))
                          have e122_91 : (setO (setO w149_69 73 (fup (w149_69 73) 41 4)) 100 (fup (fup (fup (fup (w149_69 100) 0 ((h 73) 3)) 1 ((h 73) 4)) 2 l) 3 n)) 91 = w149_69 91 := (sOf_ne _ _ (by decide)).trans (sOf_ne _ _ (by decide))
                          have e123_92 : (setO (setO w149_69 73 (fup (w149_69 73) 41 4)) 100 (fup (fup (fup (fup (w149_69 100) 0 ((h 73) 3)) 1 ((h 73) 4)) 2 l) 3 n)) 92 = w149_69 92 := (sOf_ne _ _ (by decide)).trans (sOf_ne _ _ (by decide))
                          have e124_91 : (setO (setO w149_69 73 (fup (w149_69 73) 41 4)) 100 (fup (fup (fup (fup (w149_69 100) 0 ((h 73) 3)) 1 ((h 73) 4)) 2 l) 3 n)) 91 = w149_69 91 := (sOf_ne _ _ (by decide)).trans (sOf_ne _ _ (by decide))
                          have e125_83 : (setO (setO w149_69 73 (fup (w149_69 73) 41 4)) 100 (fup (fup (fup (fup (w149_69 100) 0 ((h 73) 3)) 1 ((h 73) 4)) 2 l) 3 n)) 83 = w149_69 83 := (sOf_ne _ _ (by decide)).trans (sOf_ne _ _ (by decide))
                          have e126_86 : (setO (setO w149_69 73 (fup (w149_69 73) 41 4)) 100 (fup (fup (fup (fup (w149_69 100) 0 ((h 73) 3)) 1 ((h 73) 4)) 2 l) 3 n)) 86 = w149_69 86 := (sOf_ne _ _ (by decide)).trans (sOf_ne _ _ (by decide))
                          have e127_73_41 : (setO (setO w149_69 73 (fup (w149_69 73) 41 4)) 100 (fup (fup (fup (fup (w149_69 100) 0 ((h 73) 3)) 1 ((h 73) 4)) 2 l) 3 n)) 73 41 = 4 := rd_ ((sOf_ne _ _ (by decide)).trans (sOf_eq _ _ _)) (fup_eq _ _ _)
                          have e128_86 : (setO (setO w149_69 73 (fup (w149_69 73) 41 4)) 100 (fup (fup (fup (fup (w149_69 100) 0 ((h 73) 3)) 1 ((h 73) 4)) 2 l) 3 n)) 86 = w149_69 86 := (sOf_ne _ _ (by decide)).trans (sOf_ne _ _ (by decide))
                          have e129_92 : (setO (setO w149_69 73 (fup (w149_69 73) 41 4)) 100 (fup (fup (fup (fup (w149_69 100) 0 ((h 73) 3)) 1 ((h 73) 4)) 2 l) 3 n)) 92 = w149_69 92 := (sOf_ne _ _ (by decide)).trans (sOf_ne _ _ (by decide))
                          have e130_80 : (setO (setO w149_69 73 (fup (w149_69 73) 41 4)) 100 (fup (fup (fup (fup (w149_69 100) 0 ((h 73) 3)) 1 ((h 73) 4)) 2 l) 3 n)) 80 = w149_69 80 := (sOf_ne _ _ (by decide)).trans (sOf_ne _ _ (by decide))
                          have e131_81 : (setO (setO w149_69 73 (fup (w149_69 73) 41 4)) 100 (fup (fup (fup (fup (w149_69 100) 0 ((h 73) 3)) 1 ((h 73) 4)) 2 l) 3 n)) 81 = w149_69 81 := (sOf_ne _ _ (by decide)).trans (sOf_ne _ _ (by decide))
                          have e132_84 : (setO (setO w149_69 73 (fup (w149_69 73) 41 4)) 100 (fup (fup (fup (fup (w149_69 100) 0 ((h 73) 3)) 1 ((h 73) 4)) 2 l) 3 n)) 84 = w149_69 84 := (sOf_ne _ _ (by decide)).trans (sOf_ne _ _ (by decide))
                          have e133_85 : (setO (setO w149_69 73 (fup (w149_69 73) 41 4)) 100 (fup (fup (fup (fup (w149_69 100) 0 ((h 73) 3)) 1 ((h 73) 4)) 2 l) 3 n)) 85 = w149_69 85 := (sOf_ne _ _ (by decide)).trans (sOf_ne _ _ (by decide))
                          have e134_83 : (setO (setO w149_69 73 (fup (w149_69 73) 41 4)) 100 (fup (fup (fup (fup (w149_69 100) 0 ((h 73) 3)) 1 ((h 73) 4)) 2 l) 3 n)) 83 = w149_69 83 := (sOf_ne _ _ (by decide)).trans (sOf_ne _ _ (by decide))
                          have e135_89 : (setO (setO w149_69 73 (fup (w149_69 73) 41 4)) 100 (fup (fup (fup (fup (w149_69 100) 0 ((h 73) 3)) 1 ((h 73) 4)) 2 l) 3 n)) 89 = w149_69 89 := (sOf_ne _ _ (by decide)).trans (sOf_ne _ _ (by decide))
                          have e136_90 : (setO (setO w149_69 73 (fup (w149_69 73) 41 4)) 100 (fup (fup (fup (fup (w149_69 100) 0 ((h 73) 3)) 1 ((h 73) 4)) 2 l) 3 n)) 90 = w149_69 90 := (sOf_ne _ _ (by decide)).trans (sOf_ne _ _ (by decide))
                          have e137_91 : (setO (setO w149_69 73 (fup (w149_69 73) 41 4)) 100 (fup (fup (fup (fup (w149_69 100) 0 ((h 73) 3)) 1 ((h 73) 4)) 2 l) 3 n)) 91 = w149_69 91 := (sOf_ne _ _ (by decide)).trans (sOf_ne _ _ (by decide))
                          have e138_83 : (setO (setO w149_69 73 (fup (w149_69 73) 41 4)) 100 (fup (fup (fup (fup (w149_69 100) 0 ((h 73) 3)) 1 ((h 73) 4)) 2 l) 3 n)) 83 = w149_69 83 := (sOf_ne _ _ (by decide)).trans (sOf_ne _ _ (by decide))
                          have e139_89 : (setO (setO w149_69 73 (fup (w149_69 73) 41 4)) 100 (fup (fup (fup (fup (w149_69 100) 0 ((h 73) 3)) 1 ((h 73) 4)) 2 l) 3 n)) 89 = w149_69 89 := (sOf_ne _ _ (by decide)).trans (sOf_ne _ _ (by decide))
                          have e140_90 : (setO (setO w149_69 73 (fup (w149_69 73) 41 4)) 100 (fup (fup (fup (fup (w149_69 100) 0 ((h 73) 3)) 1 ((h 73) 4)) 2 l) 3 n)) 90 = w149_69 90 := (sOf_ne _ _ (by decide)).trans (sOf_ne _ _ (by decide))
                          have e141_92 : (setO (setO w149_69 73 (fup (w149_69 73) 41 4)) 100 (fup (fup (fup (fup (w149_69 100) 0 ((h 73) 3)) 1 ((h 73) 4)) 2 l) 3 n)) 92 = w149_69 92 := (sOf_ne _ _ (by decide)).trans (sOf_ne _ _ (by decide))
                          exact L243_79 ((((4 : Int) - 1).toNat) + 1) 1 (setO (setO w149_69 73 (fup (w149_69 73) 41 4)) 100 (fup (fup (fup (fup (w149_69 100) 0 ((h 73) 3)) 1 ((h 73) 4)) 2 l) 3 n)) hT_78 hF_78 (by first | omega | (simp [up, setR] <;> omega)) (by rewrite [e118_73_18]; first | omega | (simp [up, setR] <;> omega)) (by rewrite [e119_90, e120_91]; exact hmi) (by rewrite [e121_83, e122_91, e123_92]; rw [show 3 * l + 1 = b by omega]; exact hlq) (by rewrite [e124_91]; rw [show 3 * l + 1 = b by omega]; omega) (by rewrite [e125_83, e126_86]; intro h1; exact TKQ_0 (fun j h2 h3 => hbt j h2 h3) (fun j h2 h3 => (ty_83 (i := j) (v := w149_69 83 j) hT_78 rfl h2 (by omega)).1.1) (by omega)) (by rewrite [e127_73_41, e128_86, e129_92]; first | omega | (simp [up, setR] <;> omega)) (by rewrite [e130_80]; exact hbw) (by rewrite [e131_81]; exact hbh) (by rewrite [e132_84, e133_85]; first | exact (fun b2 x2 y2 g1 g2 => hnq b2 x2 y2 g1 (by omega))) (by rewrite [e134_83, e135_89, e136_90, e137_91]; first | exact hcw | (rw [show 3 * l + 1 = b by omega]; exact hcw)) (by rewrite [e138_83, e139_89, e140_90, e141_92]; first | exact hlx | (rw [show 3 * l + 1 = b by omega]; exact hlx)) (Nat.lt_succ_self _)
                        · have ia : IS (AR (h 73 3) (h 73 4) l) (b + 1) = IS (AR (h 73 3) (h 73 4) l) b + BW (h 73 3) l b * BH (h 73 4) l b := IS_s (by omega)
                          have iaR := ARb (w := (h 73 3)) (e := (h 73 4)) (l := l) (c := b + 1) (by omega) (by omega) (by omega) (by omega)
                          refine TT_aload_n hK rfl 0 rfl dX12_encode_158 ?_
                          refine TT_iload hK 4 rfl dX12_encode_159 ?_
                          refine TT_iload hK 4 rfl dX12_encode_161 ?_
                          refine TT_aload_n hK rfl 0 rfl dX12_encode_163 ?_
                          refine gf_X12_16 hK (by decide) rfl (v := (h 73) 3) (hF149_69.2 3 (by decide)) dX12_encode_164 ?_
                          have r142 := ty_73_3 (v := (h 73) 3) hT149_69 (hF149_69.2 3 (by decide))
                          refine TT_aload_n hK rfl 0 rfl dX12_encode_167 ?_
                          refine gf_X12_20 hK (by decide) rfl (v := (h 73) 4) (hF149_69.2 4 (by decide)) dX12_encode_168 ?_
                          have r143 := ty_73_4 (v := (h 73) 4) hT149_69 (hF149_69.2 4 (by decide))
                          refine TT_iload_n hK rfl 1 rfl dX12_encode_171 ?_
                          refine iv_X12_348 hK (s_corner_z b ((h 73) 3) ((h 73) 4) l w149_69 hT149_69 (by first | omega | (simp [up, setR] <;> omega)) (by first | omega | (simp [up, setR] <;> omega)) (by first | omega | (simp [up, setR] <;> omega)) (by first | omega | (simp [up, setR] <;> omega))) ⟨by decide, by decide⟩ (by decide) rfl rfl (Nat.le_of_ble_eq_true rfl) ⟨by decide, by decide⟩ dX12_encode_172 ?_
                          intro r9 g172_144 hp9
                          obtain ⟨⟨hT_144, hG_144⟩, z172_144, hr9, hz_144, p1_144, p2_144⟩ := hp9
                          rw [hr9]
                          have hF_144 : FRM [73, 77, 78, 79, 80, 81, 82, 83, 84, 85, 86, 87, 88, 89, 90, 91, 92, 93, 94, 95, 96, 97, 98, 99, 100] [2, 18, 26, 27, 28, 29, 32, 33, 34, 36, 38, 39, 41, 42, 43] h g172_144 := FRM_tr hF149_69 hG_144 (by decide) (by decide)
                          have p1_at172 := p1_144
                          have p2_at172 := p2_144
                          show TT K ly 0 0 175 [(0, vR 73), (1, vI l), (2, vI n), (3, vI f), (4, vI b)] [vI z172_144, vI b, vR 73] g172_144
                          have e145_80 : g172_144 80 = w149_69 80 := (hG_144.1 80 (by decide))
                          have e146_81 : g172_144 81 = w149_69 81 := (hG_144.1 81 (by decide))
                          have e147_77 : g172_144 77 = w149_69 77 := (hG_144.1 77 (by decide))
                          refine iv_X12_352 hK (s_loadBand_z b z172_144 g172_144 hT_144 (by first | omega | (simp [up, setR] <;> omega)) (by rewrite [e145_80, e146_81]; rw [hbw b (by omega) (by omega), hbh b (by omega) (by omega)]; exact p1_at172) (by rewrite [e147_77]; exact hsq)) (by decide) rfl ⟨by decide, by decide⟩ (by decide) rfl rfl (Nat.le_of_ble_eq_true rfl) ⟨by decide, by decide⟩ dX12_encode_175 ?_
                          intro r9 g175_148 hp9
                          obtain ⟨⟨hT_148, hG_148⟩, hr9, lx_148, lo_148, ly_148, lz_148⟩ := hp9
                          rw [hr9]
                          have hF_148 : FRM [73, 77, 78, 79, 80, 81, 82, 83, 84, 85, 86, 87, 88, 89, 90, 91, 92, 93, 94, 95, 96, 97, 98, 99, 100] [2, 18, 26, 27, 28, 29, 32, 33, 34, 36, 38, 39, 41, 42, 43] h g175_148 := FRM_tr hF_144 hG_148 (by decide) (by decide)
                          rw [show g172_144 77 = w149_69 77 from (hG_144.1 77 (by decide))] at lx_148
                          rw [show g172_144 80 = w149_69 80 from (hG_144.1 80 (by decide))] at lx_148
                          rw [show g172_144 81 = w149_69 81 from (hG_144.1 81 (by decide))] at lx_148
                          rw [show g172_144 84 = w149_69 84 from (hG_144.1 84 (by decide))] at lo_148
                          rw [show g172_144 85 = w149_69 85 from (hG_144.1 85 (by decide))] at lo_148
                          rw [show g172_144 77 = w149_69 77 from (hG_144.1 77 (by decide))] at ly_148
                          rw [show g172_144 80 = w149_69 80 from (hG_144.1 80 (by decide))] at ly_148
                          rw [show g172_144 81 = w149_69 81 from (hG_144.1 81 (by decide))] at ly_148
                          rw [show g172_144 80 = w149_69 80 from (hG_144.1 80 (by decide))] at lz_148
                          rw [show g172_144 81 = w149_69 81 from (hG_144.1 81 (by decide))] at lz_148
                          rw [show g172_144 84 = w149_69 84 from (hG_144.1 84 (by decide))] at lz_148
                          have lx_at175 := lx_148
                          have lo_at175 := lo_148
                          have ly_at175 := ly_148
                          have lz_at175 := lz_148
                          show TT K ly 0 0 178 [(0, vR 73), (1, vI l), (2, vI n), (3, vI f), (4, vI b)] [] g175_148
                          refine TT_aload_n hK rfl 0 rfl dX12_encode_178 ?_
                          refine TT_iload hK 4 rfl dX12_encode_179 ?_
                          refine TT_iload_n hK rfl 3 rfl dX12_encode_181 ?_
                          have hwr := BWr rW hll b ⟨by omega, by omega⟩
                          have hhr := BHr rH hll b ⟨by omega, by omega⟩
                          have hci := CXr rW rH hll b ⟨by omega, by omega⟩
                          have hva : (0 ≤ l ∧ l ≤ 3) ∧ (1 ≤ n ∧ n ≤ 3) := by omega
                          have e149_80 : g175_148 80 = w149_69 80 := ((hG_148.1 80 (by decide))).trans (hG_144.1 80 (by decide))
                          have e150_81 : g175_148 81 = w149_69 81 := ((hG_148.1 81 (by decide))).trans (hG_144.1 81 (by decide))
                          have e151_74 : g175_148 74 = h 74 := ((hG_148.1 74 (by decide))).trans (((hG_144.1 74 (by decide))).trans (hF149_69.1 74 (by decide)))
                          have e152_75 : g175_148 75 = h 75 := ((hG_148.1 75 (by decide))).trans (((hG_144.1 75 (by decide))).trans (hF149_69.1 75 (by decide)))
                          have e153_90 : g175_148 90 = w149_69 90 := ((hG_148.1 90 (by decide))).trans (hG_144.1 90 (by decide))
                          have e154_91 : g175_148 91 = w149_69 91 := ((hG_148.1 91 (by decide))).trans (hG_144.1 91 (by decide))
                          have e155_83 : g175_148 83 = w149_69 83 := ((hG_148.1 83 (by decide))).trans (hG_144.1 83 (by decide))
                          have e156_91 : g175_148 91 = w149_69 91 := ((hG_148.1 91 (by decide))).trans (hG_144.1 91 (by decide))
                          have e157_92 : g175_148 92 = w149_69 92 := ((hG_148.1 92 (by decide))).trans (hG_144.1 92 (by decide))
                          have e158_80 : g175_148 80 = w149_69 80 := ((hG_148.1 80 (by decide))).trans (hG_144.1 80 (by decide))
                          have e159_81 : g175_148 81 = w149_69 81 := ((hG_148.1 81 (by decide))).trans (hG_144.1 81 (by decide))
                          refine iv_X12_355 hK (s_tellBand_y (Mf b) (sf b) b f g175_148 hT_148 (by first | omega | (simp [up, setR] <;> omega)) (by rewrite [e149_80, e150_81]; rw [hbw b (by omega) (by omega), hbh b (by omega) (by omega)]; omega) (by rewrite [e151_74, e152_75]; first | assumption | exact htb) (by rewrite [e153_90, e154_91]; first | assumption | exact hmi) (by rewrite [e155_83, e156_91, e157_92]; first | assumption | exact hlq) (by exact hsf b) (by rewrite [e158_80, e159_81]; exact ENC_ms hwr hhr hci hx3 p2_at172 ly_at175 (hbw b (by omega) (by omega)) (hbh b (by omega) (by omega)) (hmf hva b (by omega) (by omega)))) (by decide) rfl ⟨by decide, by decide⟩ (by decide) rfl rfl (Nat.le_of_ble_eq_true rfl) ⟨by decide, by decide⟩ dX12_encode_182 ?_
                          intro r9 g182_160 hp9
                          obtain ⟨⟨hT_160, hG_160⟩, hr9, q1_160, q2_160, q3_160, q4_160, pk_160, c1_160, c2_160, c3_160, c4_160, c5_160, c6_160, c7_160, c8_160⟩ := hp9
                          rw [hr9]
                          have hF_160 : FRM [73, 77, 78, 79, 80, 81, 82, 83, 84, 85, 86, 87, 88, 89, 90, 91, 92, 93, 94, 95, 96, 97, 98, 99, 100] [2, 18, 26, 27, 28, 29, 32, 33, 34, 36, 38, 39, 41, 42, 43] h g182_160 := FRM_tr hF_148 hG_160 (by decide) (by decide)
                          rw [show g175_148 80 = w149_69 80 from ((hG_148.1 80 (by decide))).trans (hG_144.1 80 (by decide))] at q1_160
                          rw [show g175_148 81 = w149_69 81 from ((hG_148.1 81 (by decide))).trans (hG_144.1 81 (by decide))] at q1_160
                          rw [show g175_148 91 = w149_69 91 from ((hG_148.1 91 (by decide))).trans (hG_144.1 91 (by decide))] at q4_160
                          rw [show g175_148 80 = w149_69 80 from ((hG_148.1 80 (by decide))).trans (hG_144.1 80 (by decide))] at c1_160
                          rw [show g175_148 81 = w149_69 81 from ((hG_148.1 81 (by decide))).trans (hG_144.1 81 (by decide))] at c1_160
                          rw [show g175_148 82 = w149_69 82 from ((hG_148.1 82 (by decide))).trans (hG_144.1 82 (by decide))] at c1_160
                          rw [show g175_148 89 = w149_69 89 from ((hG_148.1 89 (by decide))).trans (hG_144.1 89 (by decide))] at c3_160
                          rw [show g175_148 90 = w149_69 90 from ((hG_148.1 90 (by decide))).trans (hG_144.1 90 (by decide))] at c4_160
                          rw [show g175_148 83 = w149_69 83 from ((hG_148.1 83 (by decide))).trans (hG_144.1 83 (by decide))] at c5_160
                          rw [show g175_148 80 = w149_69 80 from ((hG_148.1 80 (by decide))).trans (hG_144.1 80 (by decide))] at c6_160
                          rw [show g175_148 81 = w149_69 81 from ((hG_148.1 81 (by decide))).trans (hG_144.1 81 (by decide))] at c6_160
                          rw [show g175_148 82 = w149_69 82 from ((hG_148.1 82 (by decide))).trans (hG_144.1 82 (by decide))] at c6_160
                          rw [show g175_148 92 = w149_69 92 from ((hG_148.1 92 (by decide))).trans (hG_144.1 92 (by decide))] at c7_160
                          have q1_at182 := q1_160
                          have q2_at182 := q2_160
                          have q3_at182 := q3_160
                          have q4_at182 := q4_160
                          have pk_at182 := pk_160
                          have c1_at182 := c1_160
                          have c2_at182 := c2_160
                          have c3_at182 := c3_160
                          have c4_at182 := c4_160
                          have c5_at182 := c5_160
                          have c6_at182 := c6_160
                          have c7_at182 := c7_160
                          have c8_at182 := c8_160
                          show TT K ly 0 0 185 [(0, vR 73), (1, vI l), (2, vI n), (3, vI f), (4, vI b)] [] g182_160
                          refine TT_iload_n hK rfl 3 rfl dX12_encode_185 ?_
                          refine TT_aload_n hK rfl 0 rfl dX12_encode_186 ?_
                          refine gf_X12_69 hK (by decide) rfl (q := 91) rfl rfl dX12_encode_187 ?_
                          refine TT_iload hK 4 rfl dX12_encode_190 ?_
                          refine TT_iald hK (o := 91) (n := 10) (by decide) rfl (by first | omega | (simp [up, setR] <;> omega)) (by first | omega | (simp [up, setR] <;> omega)) (v := (g182_160 91) b) rfl dX12_encode_192 ?_
                          have r161 := ty_91 (i := b) (v := (g182_160 91) b) hT_160 rfl (by omega) (by omega)
                          refine TT_iadd hK dX12_encode_193 ?_
                          refine TT_istore_n hK rfl (lv' := [(3, vI (f + ((g182_160 91) b))), (0, vR 73), (1, vI l), (2, vI n), (4, vI b)]) (by decide) rfl dX12_encode_194 ?_
                          refine TT_iinc hK (v := b + 1) (lv' := [(4, vI (b + 1)), (3, vI (f + ((g182_160 91) b))), (0, vR 73), (1, vI l), (2, vI n)]) 4 rfl rfl (by decide) rfl dX12_encode_195 ?_
                          refine TT_goto hK (tgt := 149) dX12_encode_198 (by decide) ?_
                          refine TT_sub [2, 3, 4, 1, 0] rfl ?_
                          have e162_73_18 : g182_160 73 18 = (w149_69 73) 18 := ((hG_160.2 18 (by decide))).trans ((congrFun (hG_148.1 73 (by decide)) 18).trans (congrFun (hG_144.1 73 (by decide)) 18))
                          have e163_77 : g182_160 77 = w149_69 77 := ((hG_160.1 77 (by decide))).trans (((hG_148.1 77 (by decide))).trans (hG_144.1 77 (by decide)))
                          have e164_80 : g182_160 80 = w149_69 80 := ((hG_160.1 80 (by decide))).trans (((hG_148.1 80 (by decide))).trans (hG_144.1 80 (by decide)))
                          have e165_81 : g182_160 81 = w149_69 81 := ((hG_160.1 81 (by decide))).trans (((hG_148.1 81 (by decide))).trans (hG_144.1 81 (by decide)))
                          have e166_86 : g182_160 86 = w149_69 86 := ((hG_160.1 86 (by decide))).trans (((hG_148.1 86 (by decide))).trans (hG_144.1 86 (by decide)))
                          have e167_77 : g182_160 77 = w149_69 77 := ((hG_160.1 77 (by decide))).trans (((hG_148.1 77 (by decide))).trans (hG_144.1 77 (by decide)))
                          have e168_84 : g182_160 84 = g175_148 84 := (hG_160.1 84 (by decide))
                          have e169_82 : g182_160 82 = w149_69 82 := ((hG_160.1 82 (by decide))).trans (((hG_148.1 82 (by decide))).trans (hG_144.1 82 (by decide)))
                          have e170_84 : g182_160 84 = g175_148 84 := (hG_160.1 84 (by decide))
                          have ib : IS (g182_160 91) (b + 1) = IS (g182_160 91) b + (g182_160 91) b := IS_s (by omega)
                          have ic := IS_eq (f := g182_160 91) (c := b) (fun k h1 h2 => q4_at182 k (by omega))
                          rw [hbw b (by omega) (by omega), hbh b (by omega) (by omega)] at q1_at182
                          exact ih69 (f + ((g182_160 91) b)) (b + 1) g182_160 hT_160 hF_160 (by first | omega | (simp [up, setR] <;> omega)) (by rewrite [e162_73_18]; first | omega | (simp [up, setR] <;> omega)) (by rewrite [e163_77]; exact hsq) (by rewrite [e164_80]; exact hbw) (by rewrite [e165_81]; exact hbh) (by rewrite [e166_86]; exact hbt) (by exact q2_at182) (by exact q3_at182) (by first | omega | (simp [up, setR] <;> omega)) (by omega) (by rewrite [e167_77]; exact hx3) (by rewrite [e168_84]; intro b2 x2 y2 g1 g2 g3 g4 g5 g6; have fx := BWr rW hll b2 ⟨g1, by omega⟩; have fy := BHr rH hll b2 ⟨g1, by omega⟩; have fc := CXr rW rH hll b2 ⟨g1, by omega⟩; have pk := pk_at182 (64 * b2 + 8 * y2 + x2) (by omega); rw [pk.2]; by_cases e : b2 = b; (rw [e] at g4 g6 fc ⊢; rw [lx_at175 x2 y2 g3 (by rw [hbw _ (by omega) (by omega)]; exact g4) g5 (by rw [hbh _ (by omega) (by omega)]; exact g6), p2_at172]; exact hx3 _ (by omega) (by omega)); (have lo := lo_at175 (64 * b2 + 8 * y2 + x2) (by omega); rw [lo.1, lo.2]; exact hnq b2 x2 y2 g1 (by omega) g3 g4 g5 g6)) (by rewrite [e169_82]; exact hbk) (by rewrite [e170_84]; intro j h1 h2; rw [(lo_at175 j (by omega)).1]; exact hzz j (by omega) h2) (by rw [c4_at182]; exact CWQ_s hcw c5_at182 q4_at182 c3_at182 hca (ENC_c1 c1_at182 (hbw b (by omega) (by omega)) (hbh b (by omega) (by omega)) (hbk b (by omega) (by omega))) (ENC_pl c2_at182 ly_at175 lz_at175 (fun x y g1 g2 g3 g4 => hzz _ (by omega) (by omega)) hwr hhr hci hx3 p2_at172 (hbw b (by omega) (by omega)) (hbh b (by omega) (by omega)))) (by intro c c1 c2; rw [c4_at182]; by_cases e : c = b; (rw [e, fup_eq]; omega); (rw [fup_ne _ _ e, q4_at182 c e]; have k9 := hca c c1 (by omega); omega)) (by rw [c4_at182]; exact LXQ_s hlx hcw hsf c5_at182 c3_at182 hca c7_at182 (ENC_lx c6_at182 (hbw b (by omega) (by omega)) (hbh b (by omega) (by omega)) (hbk b (by omega) (by omega))) c8_at182) (by first | omega | (simp [up, setR] <;> omega))
                    refine TT_sub [2, 3, 4, 1, 0] rfl ?_
                    have e171_73_18 : (setO g132_67 73 (fup (w68_63 73) 18 ((3 * l) + 1))) 73 18 = (3 * l) + 1 := rd_ (sOf_eq _ _ _) (fup_eq _ _ _)
                    have e172_77 : (setO g132_67 73 (fup (w68_63 73) 18 ((3 * l) + 1))) 77 = w68_63 77 := (sOf_ne _ _ (by decide)).trans (hG_67.1 77 (by decide))
                    have e173_80 : (setO g132_67 73 (fup (w68_63 73) 18 ((3 * l) + 1))) 80 = g132_67 80 := sOf_ne _ _ (by decide)
                    have e174_81 : (setO g132_67 73 (fup (w68_63 73) 18 ((3 * l) + 1))) 81 = g132_67 81 := sOf_ne _ _ (by decide)
                    have e175_86 : (setO g132_67 73 (fup (w68_63 73) 18 ((3 * l) + 1))) 86 = g132_67 86 := sOf_ne _ _ (by decide)
                    have e176_90 : (setO g132_67 73 (fup (w68_63 73) 18 ((3 * l) + 1))) 90 = w68_63 90 := (sOf_ne _ _ (by decide)).trans (hG_67.1 90 (by decide))
                    have e177_91 : (setO g132_67 73 (fup (w68_63 73) 18 ((3 * l) + 1))) 91 = w68_63 91 := (sOf_ne _ _ (by decide)).trans (hG_67.1 91 (by decide))
                    have e178_83 : (setO g132_67 73 (fup (w68_63 73) 18 ((3 * l) + 1))) 83 = g132_67 83 := sOf_ne _ _ (by decide)
                    have e179_91 : (setO g132_67 73 (fup (w68_63 73) 18 ((3 * l) + 1))) 91 = w68_63 91 := (sOf_ne _ _ (by decide)).trans (hG_67.1 91 (by decide))
                    have e180_92 : (setO g132_67 73 (fup (w68_63 73) 18 ((3 * l) + 1))) 92 = w68_63 92 := (sOf_ne _ _ (by decide)).trans (hG_67.1 92 (by decide))
                    have e181_91 : (setO g132_67 73 (fup (w68_63 73) 18 ((3 * l) + 1))) 91 = w68_63 91 := (sOf_ne _ _ (by decide)).trans (hG_67.1 91 (by decide))
                    have e182_77 : (setO g132_67 73 (fup (w68_63 73) 18 ((3 * l) + 1))) 77 = w68_63 77 := (sOf_ne _ _ (by decide)).trans (hG_67.1 77 (by decide))
                    have e183_84 : (setO g132_67 73 (fup (w68_63 73) 18 ((3 * l) + 1))) 84 = g132_67 84 := sOf_ne _ _ (by decide)
                    have e184_85 : (setO g132_67 73 (fup (w68_63 73) 18 ((3 * l) + 1))) 85 = g132_67 85 := sOf_ne _ _ (by decide)
                    have e185_82 : (setO g132_67 73 (fup (w68_63 73) 18 ((3 * l) + 1))) 82 = g132_67 82 := sOf_ne _ _ (by decide)
                    have e186_84 : (setO g132_67 73 (fup (w68_63 73) 18 ((3 * l) + 1))) 84 = g132_67 84 := sOf_ne _ _ (by decide)
                    have e187_83 : (setO g132_67 73 (fup (w68_63 73) 18 ((3 * l) + 1))) 83 = g132_67 83 := sOf_ne _ _ (by decide)
                    have e188_89 : (setO g132_67 73 (fup (w68_63 73) 18 ((3 * l) + 1))) 89 = w68_63 89 := (sOf_ne _ _ (by decide)).trans (hG_67.1 89 (by decide))
                    have e189_90 : (setO g132_67 73 (fup (w68_63 73) 18 ((3 * l) + 1))) 90 = w68_63 90 := (sOf_ne _ _ (by decide)).trans (hG_67.1 90 (by decide))
                    have e190_91 : (setO g132_67 73 (fup (w68_63 73) 18 ((3 * l) + 1))) 91 = w68_63 91 := (sOf_ne _ _ (by decide)).trans (hG_67.1 91 (by decide))
                    have e191_90 : (setO g132_67 73 (fup (w68_63 73) 18 ((3 * l) + 1))) 90 = w68_63 90 := (sOf_ne _ _ (by decide)).trans (hG_67.1 90 (by decide))
                    have e192_91 : (setO g132_67 73 (fup (w68_63 73) 18 ((3 * l) + 1))) 91 = w68_63 91 := (sOf_ne _ _ (by decide)).trans (hG_67.1 91 (by decide))
                    have e193_83 : (setO g132_67 73 (fup (w68_63 73) 18 ((3 * l) + 1))) 83 = g132_67 83 := sOf_ne _ _ (by decide)
                    have e194_89 : (setO g132_67 73 (fup (w68_63 73) 18 ((3 * l) + 1))) 89 = w68_63 89 := (sOf_ne _ _ (by decide)).trans (hG_67.1 89 (by decide))
                    have e195_90 : (setO g132_67 73 (fup (w68_63 73) 18 ((3 * l) + 1))) 90 = w68_63 90 := (sOf_ne _ _ (by decide)).trans (hG_67.1 90 (by decide))
                    have e196_92 : (setO g132_67 73 (fup (w68_63 73) 18 ((3 * l) + 1))) 92 = w68_63 92 := (sOf_ne _ _ (by decide)).trans (hG_67.1 92 (by decide))
                    have i0 : IS (AR (h 73 3) (h 73 4) l) 0 = 0 := rfl
                    exact L149_69 ((((10 : Int) - 0).toNat) + 1) 0 0 (setO g132_67 73 (fup (w68_63 73) 18 ((3 * l) + 1))) hT_68 hF_68 (by first | omega | (simp [up, setR] <;> omega)) (by rewrite [e171_73_18]; first | omega | (simp [up, setR] <;> omega)) (by rewrite [e172_77]; intro i h1 h2; exact (hLV i h1 h2).1) (by rewrite [e173_80]; intro j h1 h2; have k9 := q1_at132 j h1 h2; rw [Int.zero_add] at k9; exact k9) (by rewrite [e174_81]; intro j h1 h2; have k9 := q2_at132 j h1 h2; rw [Int.zero_add] at k9; exact k9) (by rewrite [e175_86]; intro j h1 h2; have k9 := q3_at132 j h1 h2; rw [Int.zero_add] at k9; exact k9) (by rewrite [e176_90, e177_91]; exact hmi) (by rewrite [e178_83, e179_91, e180_92]; intro j h1 h2; exfalso; omega) (by first | omega | (simp [up, setR] <;> omega)) (by rewrite [e181_91]; exact rfl) (by rewrite [e182_77]; intro i h1 h2; rw [hxq i h1 h2, show lv = l by omega]) (by rewrite [e183_84, e184_85]; intro b2 x2 y2 g1 g2; exfalso; omega) (by rewrite [e185_82]; intro j h1 h2; have k9 := q7_at132 j h1 h2; rw [Int.zero_add] at k9; exact k9) (by rewrite [e186_84]; intro j h1 h2; exact q8_at132 rfl j (by omega) h2) (by rewrite [e187_83, e188_89, e189_90, e190_91]; intro c c1 c2; exfalso; omega) (by rewrite [e191_90, e192_91]; intro c c1 c2; exfalso; omega) (by rewrite [e193_83, e194_89, e195_90, e196_92]; intro c c1 c2; exfalso; omega) (Nat.lt_succ_self _)
                  · refine TT_aload_n hK rfl 0 rfl dX12_encode_73 ?_
                    refine TT_aload_n hK rfl 0 rfl dX12_encode_74 ?_
                    refine gf_X12_16 hK (by decide) rfl (v := (h 73) 3) (hF68_63.2 3 (by decide)) dX12_encode_75 ?_
                    have r197 := ty_73_3 (v := (h 73) 3) hT68_63 (hF68_63.2 3 (by decide))
                    refine TT_iload_n hK rfl 3 rfl dX12_encode_78 ?_
                    refine iv_X12_153 hK (s_left_x ((h 73) 3) lv w68_63 hT68_63 (by first | omega | (simp [up, setR] <;> omega)) (by first | omega | (simp [up, setR] <;> omega))) ⟨by decide, by decide⟩ (by decide) rfl rfl (Nat.le_of_ble_eq_true rfl) ⟨by decide, by decide⟩ dX12_encode_79 ?_
                    intro r9 g79_198 hp9
                    obtain ⟨⟨hT_198, hG_198⟩, z79_198, hr9, hz_198, p1_198⟩ := hp9
                    rw [hr9]
                    have hF_198 : FRM [73, 77, 78, 79, 80, 81, 82, 83, 84, 85, 86, 87, 88, 89, 90, 91, 92, 93, 94, 95, 96, 97, 98, 99, 100] [2, 18, 26, 27, 28, 29, 32, 33, 34, 36, 38, 39, 41, 42, 43] h g79_198 := FRM_tr hF68_63 hG_198 (by decide) (by decide)
                    have p1_at79 := p1_198
                    show TT K ly 0 0 82 [(0, vR 73), (1, vI l), (2, vI n), (3, vI lv)] [vI z79_198, vR 73] g79_198
                    refine TT_aload_n hK rfl 0 rfl dX12_encode_82 ?_
                    refine gf_X12_20 hK (by decide) rfl (v := (h 73) 4) ((congrFun (hG_198.1 73 (by decide)) 4).trans (hF68_63.2 4 (by decide))) dX12_encode_83 ?_
                    have r199 := ty_73_4 (v := (h 73) 4) hT_198 ((congrFun (hG_198.1 73 (by decide)) 4).trans (hF68_63.2 4 (by decide)))
                    refine TT_iload_n hK rfl 3 rfl dX12_encode_86 ?_
                    refine iv_X12_153 hK (s_left_x ((h 73) 4) lv g79_198 hT_198 (by first | omega | (simp [up, setR] <;> omega)) (by first | omega | (simp [up, setR] <;> omega))) ⟨by decide, by decide⟩ (by decide) rfl rfl (Nat.le_of_ble_eq_true rfl) ⟨by decide, by decide⟩ dX12_encode_87 ?_
                    intro r9 g87_200 hp9
                    obtain ⟨⟨hT_200, hG_200⟩, z87_200, hr9, hz_200, p1_200⟩ := hp9
                    rw [hr9]
                    have hF_200 : FRM [73, 77, 78, 79, 80, 81, 82, 83, 84, 85, 86, 87, 88, 89, 90, 91, 92, 93, 94, 95, 96, 97, 98, 99, 100] [2, 18, 26, 27, 28, 29, 32, 33, 34, 36, 38, 39, 41, 42, 43] h g87_200 := FRM_tr hF_198 hG_200 (by decide) (by decide)
                    have p1_at87 := p1_200
                    show TT K ly 0 0 90 [(0, vR 73), (1, vI l), (2, vI n), (3, vI lv)] [vI z87_200, vI z79_198, vR 73] g87_200
                    refine TT_iconst hK dX12_encode_90 ?_
                    have e201_77 : g87_200 77 = w68_63 77 := ((hG_200.1 77 (by decide))).trans (hG_198.1 77 (by decide))
                    refine iv_X12_335 hK (s_columnsx z79_198 z87_200 g87_200 hT_200 (by first | omega | (simp [up, setR] <;> omega)) (by first | omega | (simp [up, setR] <;> omega)) (by rewrite [e201_77]; intro i h1 h2; exact (hLV i h1 h2).1)) (by decide) rfl ⟨by decide, by decide⟩ (by decide) rfl rfl (Nat.le_of_ble_eq_true rfl) ⟨by decide, by decide⟩ dX12_encode_91 ?_
                    intro r9 g91_202 hp9
                    obtain ⟨⟨hT_202, hG_202⟩, hr9, p1_202⟩ := hp9
                    rw [hr9]
                    have hF_202 : FRM [73, 77, 78, 79, 80, 81, 82, 83, 84, 85, 86, 87, 88, 89, 90, 91, 92, 93, 94, 95, 96, 97, 98, 99, 100] [2, 18, 26, 27, 28, 29, 32, 33, 34, 36, 38, 39, 41, 42, 43] h g91_202 := FRM_tr hF_200 hG_202 (by decide) (by decide)
                    rw [show g87_200 77 = w68_63 77 from ((hG_200.1 77 (by decide))).trans (hG_198.1 77 (by decide))] at p1_202
                    have p1_at91 := p1_202
                    show TT K ly 0 0 94 [(0, vR 73), (1, vI l), (2, vI n), (3, vI lv)] [] g91_202
                    refine TT_aload_n hK rfl 0 rfl dX12_encode_94 ?_
                    refine TT_aload_n hK rfl 0 rfl dX12_encode_95 ?_
                    refine gf_X12_16 hK (by decide) rfl (v := (h 73) 3) ((congrFun (hG_202.1 73 (by decide)) 3).trans ((congrFun (hG_200.1 73 (by decide)) 3).trans ((congrFun (hG_198.1 73 (by decide)) 3).trans (hF68_63.2 3 (by decide))))) dX12_encode_96 ?_
                    refine TT_iload_n hK rfl 3 rfl dX12_encode_99 ?_
                    refine iv_X12_153 hK (s_left_x ((h 73) 3) lv g91_202 hT_202 (by first | omega | (simp [up, setR] <;> omega)) (by first | omega | (simp [up, setR] <;> omega))) ⟨by decide, by decide⟩ (by decide) rfl rfl (Nat.le_of_ble_eq_true rfl) ⟨by decide, by decide⟩ dX12_encode_100 ?_
                    intro r9 g100_203 hp9
                    obtain ⟨⟨hT_203, hG_203⟩, z100_203, hr9, hz_203, p1_203⟩ := hp9
                    rw [hr9]
                    have hF_203 : FRM [73, 77, 78, 79, 80, 81, 82, 83, 84, 85, 86, 87, 88, 89, 90, 91, 92, 93, 94, 95, 96, 97, 98, 99, 100] [2, 18, 26, 27, 28, 29, 32, 33, 34, 36, 38, 39, 41, 42, 43] h g100_203 := FRM_tr hF_202 hG_203 (by decide) (by decide)
                    have p1_at100 := p1_203
                    show TT K ly 0 0 103 [(0, vR 73), (1, vI l), (2, vI n), (3, vI lv)] [vI z100_203, vR 73] g100_203
                    refine TT_aload_n hK rfl 0 rfl dX12_encode_103 ?_
                    refine gf_X12_20 hK (by decide) rfl (v := (h 73) 4) ((congrFun (hG_203.1 73 (by decide)) 4).trans ((congrFun (hG_202.1 73 (by decide)) 4).trans ((congrFun (hG_200.1 73 (by decide)) 4).trans ((congrFun (hG_198.1 73 (by decide)) 4).trans (hF68_63.2 4 (by decide)))))) dX12_encode_104 ?_
                    refine TT_iload_n hK rfl 3 rfl dX12_encode_107 ?_
                    refine iv_X12_153 hK (s_left_x ((h 73) 4) lv g100_203 hT_203 (by first | omega | (simp [up, setR] <;> omega)) (by first | omega | (simp [up, setR] <;> omega))) ⟨by decide, by decide⟩ (by decide) rfl rfl (Nat.le_of_ble_eq_true rfl) ⟨by decide, by decide⟩ dX12_encode_108 ?_
                    intro r9 g108_204 hp9
                    obtain ⟨⟨hT_204, hG_204⟩, z108_204, hr9, hz_204, p1_204⟩ := hp9
                    rw [hr9]
                    have hF_204 : FRM [73, 77, 78, 79, 80, 81, 82, 83, 84, 85, 86, 87, 88, 89, 90, 91, 92, 93, 94, 95, 96, 97, 98, 99, 100] [2, 18, 26, 27, 28, 29, 32, 33, 34, 36, 38, 39, 41, 42, 43] h g108_204 := FRM_tr hF_203 hG_204 (by decide) (by decide)
                    have p1_at108 := p1_204
                    show TT K ly 0 0 111 [(0, vR 73), (1, vI l), (2, vI n), (3, vI lv)] [vI z108_204, vI z100_203, vR 73] g108_204
                    refine TT_iconst hK dX12_encode_111 ?_
                    have e205_77 : g108_204 77 = g91_202 77 := ((hG_204.1 77 (by decide))).trans (hG_203.1 77 (by decide))
                    refine iv_X12_339 hK (s_rowsx z100_203 z108_204 g108_204 hT_204 (by first | omega | (simp [up, setR] <;> omega)) (by first | omega | (simp [up, setR] <;> omega)) (by rewrite [e205_77]; intro i h1 h2; rw [p1_at91 i h1 h2, p1_at79, p1_at87]; exact (cEb l1 l2 (BL_r (by omega)) hLV h1 h2).1)) (by decide) rfl ⟨by decide, by decide⟩ (by decide) rfl rfl (Nat.le_of_ble_eq_true rfl) ⟨by decide, by decide⟩ dX12_encode_112 ?_
                    intro r9 g112_206 hp9
                    obtain ⟨⟨hT_206, hG_206⟩, hr9, p1_206⟩ := hp9
                    rw [hr9]
                    have hF_206 : FRM [73, 77, 78, 79, 80, 81, 82, 83, 84, 85, 86, 87, 88, 89, 90, 91, 92, 93, 94, 95, 96, 97, 98, 99, 100] [2, 18, 26, 27, 28, 29, 32, 33, 34, 36, 38, 39, 41, 42, 43] h g112_206 := FRM_tr hF_204 hG_206 (by decide) (by decide)
                    rw [show g108_204 77 = g91_202 77 from ((hG_204.1 77 (by decide))).trans (hG_203.1 77 (by decide))] at p1_206
                    have p1_at112 := p1_206
                    show TT K ly 0 0 115 [(0, vR 73), (1, vI l), (2, vI n), (3, vI lv)] [] g112_206
                    refine TT_iinc hK (v := lv + 1) (lv' := [(3, vI (lv + 1)), (0, vR 73), (1, vI l), (2, vI n)]) 3 rfl rfl (by decide) rfl dX12_encode_115 ?_
                    refine TT_goto hK (tgt := 68) dX12_encode_118 (by decide) ?_
                    refine TT_sub [1, 2, 3, 0] rfl ?_
                    have e207_90 : g112_206 90 = w68_63 90 := ((hG_206.1 90 (by decide))).trans (((hG_204.1 90 (by decide))).trans (((hG_203.1 90 (by decide))).trans (((hG_202.1 90 (by decide))).trans (((hG_200.1 90 (by decide))).trans (hG_198.1 90 (by decide))))))
                    have e208_91 : g112_206 91 = w68_63 91 := ((hG_206.1 91 (by decide))).trans (((hG_204.1 91 (by decide))).trans (((hG_203.1 91 (by decide))).trans (((hG_202.1 91 (by decide))).trans (((hG_200.1 91 (by decide))).trans (hG_198.1 91 (by decide))))))
                    exact ih63 (lv + 1) g112_206 hT_206 hF_206 (by rewrite [e207_90, e208_91]; exact hmi) (by first | omega | (simp [up, setR] <;> omega)) (by exact LV_n (by omega) rW rH hLV (fun t h1 h2 => (p1_at91 t h1 h2).trans (by rw [p1_at79, p1_at87])) (fun t h1 h2 => (p1_at112 t h1 h2).trans (by rw [p1_at100, p1_at108]))) (by exact LE_s (by omega) rW rH hxq (fun t h1 h2 => (p1_at91 t h1 h2).trans (by rw [p1_at79, p1_at87])) (fun t h1 h2 => (p1_at112 t h1 h2).trans (by rw [p1_at100, p1_at108]))) (by first | omega | (simp [up, setR] <;> omega))
              refine TT_sub [1, 2, 3, 0] rfl ?_
              exact L68_63 ((((3 : Int) - 0).toNat) + 1) 0 w38_61 hT38_61 hF38_61 (by exact hmi) (by first | omega | (simp [up, setR] <;> omega)) (by exact LV_0 (fun j h1 h2 => hs0 j h1 (by omega))) (by intro i h1 h2; exact hs1 i h1 (by omega)) (Nat.lt_succ_self _)
            · refine TT_aload_n hK rfl 0 rfl dX12_encode_44 ?_
              refine gf_X12_26 hK (by decide) rfl (q := 77) rfl rfl dX12_encode_45 ?_
              refine TT_iload_n hK rfl 3 rfl dX12_encode_48 ?_
              refine TT_aload_n hK rfl 0 rfl dX12_encode_49 ?_
              refine gf_X12_23 hK (by decide) rfl (q := 76) rfl rfl dX12_encode_50 ?_
              refine TT_iload_n hK rfl 3 rfl dX12_encode_53 ?_
              refine TT_iald hK (o := 76) (n := 64) (by decide) rfl (by first | omega | (simp [up, setR] <;> omega)) (by first | omega | (simp [up, setR] <;> omega)) (v := (h 76) k) (rd_ (hF38_61.1 76 (by decide)) rfl) dX12_encode_54 ?_
              have r209 := ty_76 (i := k) (v := (h 76) k) hT38_61 (rd_ (hF38_61.1 76 (by decide)) rfl) (by omega) (by omega)
              refine TT_sipush hK (by decide) dX12_encode_55 ?_
              refine TT_isub hK dX12_encode_58 ?_
              refine TT_iast hK (o := 77) (n := 64) (by decide) rfl (by omega) (by omega) dX12_encode_59 ?_
              refine TT_hp (h' := setO w38_61 77 (fup (w38_61 77) k (((h 76) k) - 128))) (up_can rfl rfl rfl) ?_
              have hT_210 : TY (setO w38_61 77 (fup (w38_61 77) k (((h 76) k) - 128))) := tu_77 hT38_61 (show up w38_61 77 k (((h 76) k) - 128) = (setO w38_61 77 (fup (w38_61 77) k (((h 76) k) - 128))) from up_can rfl rfl rfl) (by omega)
              have hF_210 : FRM [73, 77, 78, 79, 80, 81, 82, 83, 84, 85, 86, 87, 88, 89, 90, 91, 92, 93, 94, 95, 96, 97, 98, 99, 100] [2, 18, 26, 27, 28, 29, 32, 33, 34, 36, 38, 39, 41, 42, 43] h (setO w38_61 77 (fup (w38_61 77) k (((h 76) k) - 128))) := FRM_up (show up w38_61 77 k (((h 76) k) - 128) = (setO w38_61 77 (fup (w38_61 77) k (((h 76) k) - 128))) from up_can rfl rfl rfl) hF38_61 (by decide) (by decide)
              refine TT_iinc hK (v := k + 1) (lv' := [(3, vI (k + 1)), (0, vR 73), (1, vI l), (2, vI n)]) 3 rfl rfl (by decide) rfl dX12_encode_60 ?_
              refine TT_goto hK (tgt := 38) dX12_encode_63 (by decide) ?_
              refine TT_sub [1, 2, 3, 0] rfl ?_
              have e211_90 : (setO w38_61 77 (fup (w38_61 77) k (((h 76) k) - 128))) 90 = w38_61 90 := sOf_ne _ _ (by decide)
              have e212_91 : (setO w38_61 77 (fup (w38_61 77) k (((h 76) k) - 128))) 91 = w38_61 91 := sOf_ne _ _ (by decide)
              have e213_77 : (setO w38_61 77 (fup (w38_61 77) k (((h 76) k) - 128))) 77 = fup (w38_61 77) k (((h 76) k) - 128) := sOf_eq _ _ _
              have e214_77 : (setO w38_61 77 (fup (w38_61 77) k (((h 76) k) - 128))) 77 = fup (w38_61 77) k (((h 76) k) - 128) := sOf_eq _ _ _
              exact ih61 (k + 1) (setO w38_61 77 (fup (w38_61 77) k (((h 76) k) - 128))) hT_210 hF_210 (by rewrite [e211_90, e212_91]; exact hmi) (by first | omega | (simp [up, setR] <;> omega)) (by rewrite [e213_77]; intro j h1 h2; by_cases e : j = k; (rw [e, fup_eq]; omega); (rw [fup_ne _ _ e]; exact hs0 j h1 (by omega))) (by rewrite [e214_77]; intro j h1 h2; by_cases e : j = k; (rw [e, fup_eq]); (rw [fup_ne _ _ e]; exact hs1 j h1 (by omega))) (by first | omega | (simp [up, setR] <;> omega))
        refine TT_sub [1, 2, 3, 0] rfl ?_
        have e215_90 : (setO g13_30 73 (fup (h 73) 2 0)) 90 = h 90 := (sOf_ne _ _ (by decide)).trans (((hG_30.1 90 (by decide))).trans (hG_1.1 90 (by decide)))
        have e216_91 : (setO g13_30 73 (fup (h 73) 2 0)) 91 = h 91 := (sOf_ne _ _ (by decide)).trans (((hG_30.1 91 (by decide))).trans (hG_1.1 91 (by decide)))
        have e217_77 : (setO g13_30 73 (fup (h 73) 2 0)) 77 = h 77 := (sOf_ne _ _ (by decide)).trans (((hG_30.1 77 (by decide))).trans (hG_1.1 77 (by decide)))
        have e218_77 : (setO g13_30 73 (fup (h 73) 2 0)) 77 = h 77 := (sOf_ne _ _ (by decide)).trans (((hG_30.1 77 (by decide))).trans (hG_1.1 77 (by decide)))
        exact L38_61 ((((64 : Int) - 0).toNat) + 1) 0 (setO g13_30 73 (fup (h 73) 2 0)) hT_59 hF_59 (by rewrite [e215_90, e216_91]; exact hmi) (by first | omega | (simp [up, setR] <;> omega)) (by rewrite [e217_77]; intro j h1 h2; exfalso; omega) (by rewrite [e218_77]; intro j h1 h2; exfalso; omega) (Nat.lt_succ_self _)
      · exact absurd hb31_60 (by decide)

set_option maxRecDepth 20000 in
theorem s_code_k (x b : Int) (h : Hp_) (hT : TY h) (hx : 0 ≤ x ∧ x ≤ 18) (hb : 0 ≤ b ∧ b ≤ 1) (htb : TBL (h 74) (h 75)) (ha : 32768 ≤ (h 73 32) ∧ (h 73 32) < 65536) (hm : (h 73 29) = 0 → 1 ≤ (h 73 34) ∧ 1 ≤ (h 73 36) ∧ 7 * (h 73 36) - (h 73 34) + PhS (h 96) + 9 ≤ 22300) : Ctr yX12_code cX12_code 4 (some .int) (rmd 3) ly ly 0 0 [vR 73, vI x, vI b] h (fun r h' => (TY h' ∧ FRM [73, 96, 97, 98] [28, 32, 33, 34, 36, 39] h h') ∧ ∃ z : Int, r = some (vI z) ∧ (0 ≤ z ∧ z ≤ 1) ∧ (32768 ≤ (h' 73 32) ∧ (h' 73 32) < 65536) ∧ ((h 73 29) = 0 → z = b ∧ 1 ≤ (h' 73 34) ∧ 1 ≤ (h' 73 36) ∧ 7 * (h' 73 36) - (h' 73 34) + PhS (h' 96) ≤ 7 * (h 73 36) - (h 73 34) + PhS (h 96) + 9) ∧ ((h 73 29) ≠ 1 → z = b)) := by
  refine Ctr_of (by decide) (Nat.le_of_ble_eq_true rfl) ⟨Nat.le_refl _, Nat.le_refl _⟩ (fun K hK hQ _ => ?_)
  show TT K ly 0 0 0 [(0, vR 73), (1, vI x), (2, vI b)] [] h
  have hF : FRM [73, 96, 97, 98] [28, 32, 33, 34, 36, 39] h h := FRM_rf _ _ _
  refine TT_aload_n hK rfl 0 rfl dX12_code_0 ?_
  refine gf_X12_163 hK (by decide) rfl (v := (h 73) 29) rfl dX12_code_1 ?_
  have r1 := ty_73_29 (v := (h 73) 29) hT rfl
  refine TT_if_ne hK (tgt := 14) (irm (by omega) (by omega)) dX12_code_4 (by decide) (fun hb4_2 => ?_) (fun hb4_2 => ?_)
  · refine TT_aload_n hK rfl 0 rfl dX12_code_14 ?_
    refine TT_iload_n hK rfl 1 rfl dX12_code_15 ?_
    have e3_73_32 : h 73 32 = (h 73) 32 := rfl
    refine iv_X12_224 hK (s_X12_readBit_73 x h hT (by first | omega | (simp [up, setR] <;> omega)) (by first | assumption | exact htb) (by rewrite [e3_73_32]; first | omega | (simp [up, setR] <;> omega))) (by decide) rfl ⟨by decide, by decide⟩ (by decide) rfl rfl (Nat.le_of_ble_eq_true rfl) ⟨by decide, by decide⟩ dX12_code_16 ?_
    intro r9 g16_4 hp9
    obtain ⟨⟨hT_4, hG_4⟩, z16_4, hr9, hz_4, pa_4⟩ := hp9
    rw [hr9]
    have hF_4 : FRM [73, 96, 97, 98] [28, 32, 33, 34, 36, 39] h g16_4 := FRM_tr hF hG_4 (by decide) (by decide)
    show TT K ly 0 0 19 [(0, vR 73), (1, vI x), (2, vI b)] [vI z16_4] g16_4
    refine TT_istore_n hK rfl (lv' := [(3, vI z16_4), (0, vR 73), (1, vI x), (2, vI b)]) (by decide) rfl dX12_code_19 ?_
    refine TT_aload_n hK rfl 1 rfl dX12_code_20 ?_
    refine gf_X12_163 hK (by decide) rfl (v := (h 73) 29) (hG_4.2 29 (by decide)) dX12_code_21 ?_
    refine TT_iconst hK dX12_code_24 ?_
    refine TT_icmp_ne hK (tgt := 30) (irm (by omega) (by omega)) (by decide) dX12_code_25 (by decide) (fun hb25_5 => ?_) (fun hb25_5 => ?_)
    · refine TT_aload_n hK rfl 1 rfl dX12_code_30 ?_
      refine TT_aload_n hK rfl 1 rfl dX12_code_31 ?_
      refine gf_X12_227 hK (by decide) rfl (v := (h 73) 28) (hG_4.2 28 (by decide)) dX12_code_32 ?_
      have r6 := ty_73_28 (v := (h 73) 28) hT_4 (hG_4.2 28 (by decide))
      refine TT_if_ne hK (tgt := 43) (irm (by omega) (by omega)) dX12_code_35 (by decide) (fun hb35_7 => ?_) (fun hb35_7 => ?_)
      · refine TT_iconst hK dX12_code_43 ?_
        refine TT_goto hK (tgt := 48) dX12_code_44 (by decide) ?_
        refine pf_X12_227 hK (by decide) rfl (by first | decide | omega) dX12_code_48 ?_
        refine TT_hp (h' := setO g16_4 73 (fup (g16_4 73) 28 1)) (up_can rfl rfl rfl) ?_
        have hT_8 : TY (setO g16_4 73 (fup (g16_4 73) 28 1)) := tu_73_28 hT_4 (show up g16_4 73 28 1 = (setO g16_4 73 (fup (g16_4 73) 28 1)) from up_can rfl rfl rfl) (by omega)
        have hF_8 : FRM [73, 96, 97, 98] [28, 32, 33, 34, 36, 39] h (setO g16_4 73 (fup (g16_4 73) 28 1)) := FRM_f (show up g16_4 73 28 1 = (setO g16_4 73 (fup (g16_4 73) 28 1)) from up_can rfl rfl rfl) hF_4 (by decide) (by decide)
        refine TT_iload_n hK rfl 3 rfl dX12_code_51 ?_
        refine TT_iret hK hQ ?_ dX12_code_52
        have e9_73_32 : (setO g16_4 73 (fup (g16_4 73) 28 1)) 73 32 = (g16_4 73) 32 := rd_ (sOf_eq _ _ _) (fup_ne _ _ (by decide))
        have e10_73_34 : (setO g16_4 73 (fup (g16_4 73) 28 1)) 73 34 = (g16_4 73) 34 := rd_ (sOf_eq _ _ _) (fup_ne _ _ (by decide))
        have e11_73_36 : (setO g16_4 73 (fup (g16_4 73) 28 1)) 73 36 = (h 73) 36 := (rd_ (sOf_eq _ _ _) (fup_ne _ _ (by decide))).trans (hG_4.2 36 (by decide))
        have e12_96 : (setO g16_4 73 (fup (g16_4 73) 28 1)) 96 = g16_4 96 := sOf_ne _ _ (by decide)
        exact ⟨⟨hT_8, hF_8⟩, b, rfl, (by omega), (by rewrite [e9_73_32]; omega), (by rewrite [e10_73_34, e11_73_36, e12_96]; omega), (by omega)⟩
      · refine TT_iload_n hK rfl 0 rfl dX12_code_38 ?_
        refine TT_iload_n hK rfl 3 rfl dX12_code_39 ?_
        refine TT_icmp_eq hK (tgt := 47) (irm (by omega) (by omega)) (irm (by omega) (by omega)) dX12_code_40 (by decide) (fun hb40_13 => ?_) (fun hb40_13 => ?_)
        · refine TT_iconst hK dX12_code_47 ?_
          refine pf_X12_227 hK (by decide) rfl (by first | decide | omega) dX12_code_48 ?_
          refine TT_hp (h' := setO g16_4 73 (fup (g16_4 73) 28 0)) (up_can rfl rfl rfl) ?_
          have hT_14 : TY (setO g16_4 73 (fup (g16_4 73) 28 0)) := tu_73_28 hT_4 (show up g16_4 73 28 0 = (setO g16_4 73 (fup (g16_4 73) 28 0)) from up_can rfl rfl rfl) (by omega)
          have hF_14 : FRM [73, 96, 97, 98] [28, 32, 33, 34, 36, 39] h (setO g16_4 73 (fup (g16_4 73) 28 0)) := FRM_f (show up g16_4 73 28 0 = (setO g16_4 73 (fup (g16_4 73) 28 0)) from up_can rfl rfl rfl) hF_4 (by decide) (by decide)
          refine TT_iload_n hK rfl 3 rfl dX12_code_51 ?_
          refine TT_iret hK hQ ?_ dX12_code_52
          have e15_73_32 : (setO g16_4 73 (fup (g16_4 73) 28 0)) 73 32 = (g16_4 73) 32 := rd_ (sOf_eq _ _ _) (fup_ne _ _ (by decide))
          have e16_73_34 : (setO g16_4 73 (fup (g16_4 73) 28 0)) 73 34 = (g16_4 73) 34 := rd_ (sOf_eq _ _ _) (fup_ne _ _ (by decide))
          have e17_73_36 : (setO g16_4 73 (fup (g16_4 73) 28 0)) 73 36 = (h 73) 36 := (rd_ (sOf_eq _ _ _) (fup_ne _ _ (by decide))).trans (hG_4.2 36 (by decide))
          have e18_96 : (setO g16_4 73 (fup (g16_4 73) 28 0)) 96 = g16_4 96 := sOf_ne _ _ (by decide)
          exact ⟨⟨hT_14, hF_14⟩, b, rfl, (by omega), (by rewrite [e15_73_32]; omega), (by rewrite [e16_73_34, e17_73_36, e18_96]; omega), (by omega)⟩
        · refine TT_iconst hK dX12_code_43 ?_
          refine TT_goto hK (tgt := 48) dX12_code_44 (by decide) ?_
          refine pf_X12_227 hK (by decide) rfl (by first | decide | omega) dX12_code_48 ?_
          refine TT_hp (h' := setO g16_4 73 (fup (g16_4 73) 28 1)) (up_can rfl rfl rfl) ?_
          have hT_19 : TY (setO g16_4 73 (fup (g16_4 73) 28 1)) := tu_73_28 hT_4 (show up g16_4 73 28 1 = (setO g16_4 73 (fup (g16_4 73) 28 1)) from up_can rfl rfl rfl) (by omega)
          have hF_19 : FRM [73, 96, 97, 98] [28, 32, 33, 34, 36, 39] h (setO g16_4 73 (fup (g16_4 73) 28 1)) := FRM_f (show up g16_4 73 28 1 = (setO g16_4 73 (fup (g16_4 73) 28 1)) from up_can rfl rfl rfl) hF_4 (by decide) (by decide)
          refine TT_iload_n hK rfl 3 rfl dX12_code_51 ?_
          refine TT_iret hK hQ ?_ dX12_code_52
          have e20_73_32 : (setO g16_4 73 (fup (g16_4 73) 28 1)) 73 32 = (g16_4 73) 32 := rd_ (sOf_eq _ _ _) (fup_ne _ _ (by decide))
          have e21_73_34 : (setO g16_4 73 (fup (g16_4 73) 28 1)) 73 34 = (g16_4 73) 34 := rd_ (sOf_eq _ _ _) (fup_ne _ _ (by decide))
          have e22_73_36 : (setO g16_4 73 (fup (g16_4 73) 28 1)) 73 36 = (h 73) 36 := (rd_ (sOf_eq _ _ _) (fup_ne _ _ (by decide))).trans (hG_4.2 36 (by decide))
          have e23_96 : (setO g16_4 73 (fup (g16_4 73) 28 1)) 96 = g16_4 96 := sOf_ne _ _ (by decide)
          exact ⟨⟨hT_19, hF_19⟩, b, rfl, (by omega), (by rewrite [e20_73_32]; omega), (by rewrite [e21_73_34, e22_73_36, e23_96]; omega), (by omega)⟩
    · refine TT_iload_n hK rfl 0 rfl dX12_code_28 ?_
      refine TT_iret hK hQ ?_ dX12_code_29
      have e24_73_32 : g16_4 73 32 = (g16_4 73) 32 := rfl
      have e25_73_34 : g16_4 73 34 = (g16_4 73) 34 := rfl
      have e26_73_36 : g16_4 73 36 = (h 73) 36 := (hG_4.2 36 (by decide))
      exact ⟨⟨hT_4, hF_4⟩, z16_4, rfl, (by omega), (by rewrite [e24_73_32]; omega), (by rewrite [e25_73_34, e26_73_36]; omega), (by omega)⟩
  · refine TT_aload_n hK rfl 0 rfl dX12_code_7 ?_
    refine TT_iload_n hK rfl 1 rfl dX12_code_8 ?_
    refine TT_iload_n hK rfl 2 rfl dX12_code_9 ?_
    have e27_73_32 : h 73 32 = (h 73) 32 := rfl
    have e28_73_34 : h 73 34 = (h 73) 34 := rfl
    have e29_73_36 : h 73 36 = (h 73) 36 := rfl
    have e30_73_34 : h 73 34 = (h 73) 34 := rfl
    have e31_73_36 : h 73 36 = (h 73) 36 := rfl
    refine iv_X12_221 hK (s_X12_tellBit_73 x b h hT (by first | omega | (simp [up, setR] <;> omega)) (by first | omega | (simp [up, setR] <;> omega)) (by first | assumption | exact htb) (by rewrite [e27_73_32]; first | omega | (simp [up, setR] <;> omega)) (by rewrite [e28_73_34]; first | omega | (simp [up, setR] <;> omega)) (by rewrite [e29_73_36]; first | omega | (simp [up, setR] <;> omega)) (by rewrite [e30_73_34, e31_73_36]; first | omega | (simp [up, setR] <;> omega))) (by decide) rfl ⟨by decide, by decide⟩ (by decide) rfl rfl (Nat.le_of_ble_eq_true rfl) ⟨by decide, by decide⟩ dX12_code_10 ?_
    intro r9 g10_32 hp9
    obtain ⟨⟨hT_32, hG_32⟩, z10_32, hr9, hz_32, p1_32, pa_32, pt_32, pn_32, pp_32⟩ := hp9
    rw [hr9]
    have hF_32 : FRM [73, 96, 97, 98] [28, 32, 33, 34, 36, 39] h g10_32 := FRM_tr hF hG_32 (by decide) (by decide)
    rw [show h 73 34 = (h 73) 34 from rfl] at pp_32
    rw [show h 73 36 = (h 73) 36 from rfl] at pp_32
    show TT K ly 0 0 13 [(0, vR 73), (1, vI x), (2, vI b)] [vI z10_32] g10_32
    refine TT_iret hK hQ ?_ dX12_code_13
    have e33_73_32 : g10_32 73 32 = (g10_32 73) 32 := rfl
    have e34_73_34 : g10_32 73 34 = (g10_32 73) 34 := rfl
    have e35_73_36 : g10_32 73 36 = (g10_32 73) 36 := rfl
    exact ⟨⟨hT_32, hF_32⟩, z10_32, rfl, (by omega), (by rewrite [e33_73_32]; omega), (by rewrite [e34_73_34, e35_73_36]; omega), (by omega)⟩
set_option maxRecDepth 20000 in
theorem s_wake_k (x y : Int) (h : Hp_) (hT : TY h) (hx : 0 ≤ x ∧ x ≤ 7) (hy : 0 ≤ y ∧ y ≤ 7) (htb : TBL (h 74) (h 75)) (ha : 32768 ≤ (h 73 32) ∧ (h 73 32) < 65536) (hm : (h 73 29) = 0 → 1 ≤ (h 73 34) ∧ 1 ≤ (h 73 36) ∧ 7 * (h 73 36) - (h 73 34) + PhS (h 96) + 9 ≤ 22300) (hw1 : (h 73 29) = 1 → 10 ≤ (h 73 26)) : Ctr yX12_wake cX12_wake 10 none (rmd 4) ly ly 0 0 [vR 73, vI x, vI y] h (fun r h' => (TY h' ∧ FRM [73, 84, 85, 93, 96, 97, 98] [28, 32, 33, 34, 36, 39] h h') ∧ r = none ∧ (32768 ≤ (h' 73 32) ∧ (h' 73 32) < 65536) ∧ ((h 73 29) = 0 → 1 ≤ (h' 73 34) ∧ 1 ≤ (h' 73 36) ∧ 7 * (h' 73 36) - (h' 73 34) + PhS (h' 96) ≤ 7 * (h 73 36) - (h 73 34) + PhS (h 96) + 9) ∧ (∀ w e : Int, x < w → w ≤ 8 → y < e → e ≤ 8 → (h 93) (10 * y + x + 11) = 0 → ZC w e (h' 93) + 1 = ZC w e (h 93)) ∧ (∀ j : Int, j < 640 → (h' 84) j = (h 84) j ∧ (h' 85) j = (h 85) j)) := by
  refine Ctr_of (by decide) (Nat.le_of_ble_eq_true rfl) ⟨Nat.le_refl _, Nat.le_refl _⟩ (fun K hK hQ _ => ?_)
  show TT K ly 0 0 0 [(0, vR 73), (1, vI x), (2, vI y)] [] h
  have hF : FRM [73, 84, 85, 93, 96, 97, 98] [28, 32, 33, 34, 36, 39] h h := FRM_rf _ _ _
  refine TT_iload_n hK rfl 1 rfl dX12_wake_0 ?_
  refine TT_iload_n hK rfl 2 rfl dX12_wake_1 ?_
  refine iv_X12_234 hK (s_X12_spot x y h hT (by first | omega | (simp [up, setR] <;> omega)) (by first | omega | (simp [up, setR] <;> omega))) ⟨by decide, by decide⟩ (by decide) rfl rfl (Nat.le_of_ble_eq_true rfl) ⟨by decide, by decide⟩ dX12_wake_2 ?_
  intro r9 g2_1 hp9
  obtain ⟨⟨hT_1, hG_1⟩, z2_1, hr9, hz_1, p1_1⟩ := hp9
  rw [hr9]
  have hF_1 : FRM [73, 84, 85, 93, 96, 97, 98] [28, 32, 33, 34, 36, 39] h g2_1 := FRM_tr hF hG_1 (by decide) (by decide)
  show TT K ly 0 0 5 [(0, vR 73), (1, vI x), (2, vI y)] [vI z2_1] g2_1
  refine TT_cgI (b := 10 * y + x + 11) (by omega) ?_
  refine TT_istore_n hK rfl (lv' := [(3, vI (10 * y + x + 11)), (0, vR 73), (1, vI x), (2, vI y)]) (by decide) rfl dX12_wake_5 ?_
  refine TT_aload_n hK rfl 1 rfl dX12_wake_6 ?_
  refine gf_X12_75 hK (by decide) rfl (q := 93) rfl rfl dX12_wake_7 ?_
  refine TT_iload_n hK rfl 0 rfl dX12_wake_10 ?_
  refine TT_iconst hK dX12_wake_11 ?_
  refine TT_isub hK dX12_wake_12 ?_
  refine TT_iald hK (o := 93) (n := 100) (by decide) rfl (by first | omega | (simp [up, setR] <;> omega)) (by first | omega | (simp [up, setR] <;> omega)) (v := (h 93) ((10 * y + x + 11) - 1)) (rd_ (hG_1.1 93 (by decide)) rfl) dX12_wake_13 ?_
  have r2 := ty_93 (i := (10 * y + x + 11) - 1) (v := (h 93) ((10 * y + x + 11) - 1)) hT_1 (rd_ (hG_1.1 93 (by decide)) rfl) (by omega) (by omega)
  refine TT_aload_n hK rfl 1 rfl dX12_wake_14 ?_
  refine gf_X12_75 hK (by decide) rfl (q := 93) rfl rfl dX12_wake_15 ?_
  refine TT_iload_n hK rfl 0 rfl dX12_wake_18 ?_
  refine TT_iconst hK dX12_wake_19 ?_
  refine TT_iadd hK dX12_wake_20 ?_
  refine TT_iald hK (o := 93) (n := 100) (by decide) rfl (by first | omega | (simp [up, setR] <;> omega)) (by first | omega | (simp [up, setR] <;> omega)) (v := (h 93) ((10 * y + x + 11) + 1)) (rd_ (hG_1.1 93 (by decide)) rfl) dX12_wake_21 ?_
  have r3 := ty_93 (i := (10 * y + x + 11) + 1) (v := (h 93) ((10 * y + x + 11) + 1)) hT_1 (rd_ (hG_1.1 93 (by decide)) rfl) (by omega) (by omega)
  refine TT_iadd hK dX12_wake_22 ?_
  refine iv_X12_255 hK (s_X12_unit (((h 93) ((10 * y + x + 11) - 1)) + ((h 93) ((10 * y + x + 11) + 1))) g2_1 hT_1 (by first | omega | (simp [up, setR] <;> omega))) ⟨by decide, by decide⟩ (by decide) rfl rfl (Nat.le_of_ble_eq_true rfl) ⟨by decide, by decide⟩ dX12_wake_23 ?_
  intro r9 g23_4 hp9
  obtain ⟨⟨hT_4, hG_4⟩, z23_4, hr9, hz_4⟩ := hp9
  rw [hr9]
  have hF_4 : FRM [73, 84, 85, 93, 96, 97, 98] [28, 32, 33, 34, 36, 39] h g23_4 := FRM_tr hF_1 hG_4 (by decide) (by decide)
  show TT K ly 0 0 26 [(3, vI (10 * y + x + 11)), (0, vR 73), (1, vI x), (2, vI y)] [vI z23_4] g23_4
  refine TT_istore hK (lv' := [(4, vI z23_4), (3, vI (10 * y + x + 11)), (0, vR 73), (1, vI x), (2, vI y)]) (by decide) rfl dX12_wake_26 ?_
  refine TT_aload_n hK rfl 2 rfl dX12_wake_28 ?_
  refine gf_X12_75 hK (by decide) rfl (q := 93) rfl rfl dX12_wake_29 ?_
  refine TT_iload_n hK rfl 1 rfl dX12_wake_32 ?_
  refine TT_bipush hK (by decide) dX12_wake_33 ?_
  refine TT_isub hK dX12_wake_35 ?_
  refine TT_iald hK (o := 93) (n := 100) (by decide) rfl (by first | omega | (simp [up, setR] <;> omega)) (by first | omega | (simp [up, setR] <;> omega)) (v := (h 93) ((10 * y + x + 11) - 10)) (rd_ (((hG_4.1 93 (by decide))).trans (hG_1.1 93 (by decide))) rfl) dX12_wake_36 ?_
  have r5 := ty_93 (i := (10 * y + x + 11) - 10) (v := (h 93) ((10 * y + x + 11) - 10)) hT_4 (rd_ (((hG_4.1 93 (by decide))).trans (hG_1.1 93 (by decide))) rfl) (by omega) (by omega)
  refine TT_aload_n hK rfl 2 rfl dX12_wake_37 ?_
  refine gf_X12_75 hK (by decide) rfl (q := 93) rfl rfl dX12_wake_38 ?_
  refine TT_iload_n hK rfl 1 rfl dX12_wake_41 ?_
  refine TT_bipush hK (by decide) dX12_wake_42 ?_
  refine TT_iadd hK dX12_wake_44 ?_
  refine TT_iald hK (o := 93) (n := 100) (by decide) rfl (by first | omega | (simp [up, setR] <;> omega)) (by first | omega | (simp [up, setR] <;> omega)) (v := (h 93) ((10 * y + x + 11) + 10)) (rd_ (((hG_4.1 93 (by decide))).trans (hG_1.1 93 (by decide))) rfl) dX12_wake_45 ?_
  have r6 := ty_93 (i := (10 * y + x + 11) + 10) (v := (h 93) ((10 * y + x + 11) + 10)) hT_4 (rd_ (((hG_4.1 93 (by decide))).trans (hG_1.1 93 (by decide))) rfl) (by omega) (by omega)
  refine TT_iadd hK dX12_wake_46 ?_
  refine iv_X12_255 hK (s_X12_unit (((h 93) ((10 * y + x + 11) - 10)) + ((h 93) ((10 * y + x + 11) + 10))) g23_4 hT_4 (by first | omega | (simp [up, setR] <;> omega))) ⟨by decide, by decide⟩ (by decide) rfl rfl (Nat.le_of_ble_eq_true rfl) ⟨by decide, by decide⟩ dX12_wake_47 ?_
  intro r9 g47_7 hp9
  obtain ⟨⟨hT_7, hG_7⟩, z47_7, hr9, hz_7⟩ := hp9
  rw [hr9]
  have hF_7 : FRM [73, 84, 85, 93, 96, 97, 98] [28, 32, 33, 34, 36, 39] h g47_7 := FRM_tr hF_4 hG_7 (by decide) (by decide)
  show TT K ly 0 0 50 [(4, vI z23_4), (3, vI (10 * y + x + 11)), (0, vR 73), (1, vI x), (2, vI y)] [vI z47_7] g47_7
  refine TT_istore hK (lv' := [(5, vI z47_7), (4, vI z23_4), (3, vI (10 * y + x + 11)), (0, vR 73), (1, vI x), (2, vI y)]) (by decide) rfl dX12_wake_50 ?_
  have J74_8 : ∀ (a : Int) (b : Int) (t9 : Int), (-1 ≤ a ∧ a ≤ 1) → (-1 ≤ b ∧ b ≤ 1) → (0 ≤ t9 ∧ t9 ≤ 1) → TT K ly 0 0 74 [(0, vR 73), (1, vI x), (2, vI y), (3, vI (10 * y + x + 11)), (4, vI a), (5, vI b), (6, vI t9)] [] g47_7 := by
    intro a b t9 ha4 hb4 ht9
    have J102_9 : ∀ (cx : Int), (0 ≤ cx ∧ cx ≤ 18) → TT K ly 0 0 102 [(0, vR 73), (1, vI x), (2, vI y), (3, vI (10 * y + x + 11)), (4, vI a), (5, vI b), (6, vI t9), (7, vI cx)] [] g47_7 := by
      intro cx hcx
      refine TT_aload_n hK rfl 0 rfl dX12_wake_102 ?_
      refine gf_X12_50 hK (by decide) rfl (q := 85) rfl rfl dX12_wake_103 ?_
      refine TT_aload_n hK rfl 0 rfl dX12_wake_106 ?_
      refine TT_iload_n hK rfl 1 rfl dX12_wake_107 ?_
      refine TT_iload_n hK rfl 2 rfl dX12_wake_108 ?_
      refine iv_X12_249 hK (s_X12_cell_73 x y g47_7 hT_7 (by first | omega | (simp [up, setR] <;> omega)) (by first | omega | (simp [up, setR] <;> omega))) (by decide) rfl ⟨by decide, by decide⟩ (by decide) rfl rfl (Nat.le_of_ble_eq_true rfl) ⟨by decide, by decide⟩ dX12_wake_109 ?_
      intro r9 g109_10 hp9
      obtain ⟨⟨hT_10, hG_10⟩, z109_10, hr9, hz_10, p1_10⟩ := hp9
      rw [hr9]
      have hF_10 : FRM [73, 84, 85, 93, 96, 97, 98] [28, 32, 33, 34, 36, 39] h g109_10 := FRM_tr hF_7 hG_10 (by decide) (by decide)
      rw [show g47_7 73 26 = (h 73) 26 from (congrFun (hG_7.1 73 (by decide)) 26).trans ((congrFun (hG_4.1 73 (by decide)) 26).trans (congrFun (hG_1.1 73 (by decide)) 26))] at p1_10
      show TT K ly 0 0 112 [(0, vR 73), (1, vI x), (2, vI y), (3, vI (10 * y + x + 11)), (4, vI a), (5, vI b), (6, vI t9), (7, vI cx)] [vI z109_10, vR 85] g109_10
      refine TT_cgI (b := 64 * ((h 73) 26) + 8 * y + x) (by omega) ?_
      refine TT_zald hK (o := 85) (n := 1280) (by decide) rfl (by first | omega | (simp [up, setR] <;> omega)) (by first | omega | (simp [up, setR] <;> omega)) (v := (h 85) (64 * ((h 73) 26) + 8 * y + x)) (rd_ (((hG_10.1 85 (by decide))).trans (((hG_7.1 85 (by decide))).trans (((hG_4.1 85 (by decide))).trans (hG_1.1 85 (by decide))))) rfl) dX12_wake_112 ?_
      have r11 := ty_85 (i := 64 * ((h 73) 26) + 8 * y + x) (v := (h 85) (64 * ((h 73) 26) + 8 * y + x)) hT_10 (rd_ (((hG_10.1 85 (by decide))).trans (((hG_7.1 85 (by decide))).trans (((hG_4.1 85 (by decide))).trans (hG_1.1 85 (by decide))))) rfl) (by omega) (by omega)
      refine TT_if_eq hK (tgt := 120) (irm (by omega) (by omega)) dX12_wake_113 (by decide) (fun hb113_12 => ?_) (fun hb113_12 => ?_)
      · refine TT_iconst hK dX12_wake_120 ?_
        refine TT_istore hK (lv' := [(8, vI 0), (0, vR 73), (1, vI x), (2, vI y), (3, vI (10 * y + x + 11)), (4, vI a), (5, vI b), (6, vI t9), (7, vI cx)]) (by decide) rfl dX12_wake_121 ?_
        refine TT_aload_n hK rfl 1 rfl dX12_wake_123 ?_
        refine TT_iload hK 8 rfl dX12_wake_124 ?_
        refine TT_iload hK 7 rfl dX12_wake_126 ?_
        refine TT_if_eq hK (tgt := 138) (irm (by omega) (by omega)) dX12_wake_128 (by decide) (fun hb128_13 => ?_) (fun hb128_13 => ?_)
        · refine TT_iload hK 0 rfl dX12_wake_138 ?_
          have e14_74 : g109_10 74 = h 74 := ((hG_10.1 74 (by decide))).trans (((hG_7.1 74 (by decide))).trans (((hG_4.1 74 (by decide))).trans (hG_1.1 74 (by decide))))
          have e15_75 : g109_10 75 = h 75 := ((hG_10.1 75 (by decide))).trans (((hG_7.1 75 (by decide))).trans (((hG_4.1 75 (by decide))).trans (hG_1.1 75 (by decide))))
          have e16_73_32 : g109_10 73 32 = (h 73) 32 := (congrFun (hG_10.1 73 (by decide)) 32).trans ((congrFun (hG_7.1 73 (by decide)) 32).trans ((congrFun (hG_4.1 73 (by decide)) 32).trans (congrFun (hG_1.1 73 (by decide)) 32)))
          have e17_73_29 : g109_10 73 29 = (h 73) 29 := (congrFun (hG_10.1 73 (by decide)) 29).trans ((congrFun (hG_7.1 73 (by decide)) 29).trans ((congrFun (hG_4.1 73 (by decide)) 29).trans (congrFun (hG_1.1 73 (by decide)) 29)))
          have e18_73_34 : g109_10 73 34 = (h 73) 34 := (congrFun (hG_10.1 73 (by decide)) 34).trans ((congrFun (hG_7.1 73 (by decide)) 34).trans ((congrFun (hG_4.1 73 (by decide)) 34).trans (congrFun (hG_1.1 73 (by decide)) 34)))
          have e19_73_36 : g109_10 73 36 = (h 73) 36 := (congrFun (hG_10.1 73 (by decide)) 36).trans ((congrFun (hG_7.1 73 (by decide)) 36).trans ((congrFun (hG_4.1 73 (by decide)) 36).trans (congrFun (hG_1.1 73 (by decide)) 36)))
          have e20_96 : g109_10 96 = h 96 := ((hG_10.1 96 (by decide))).trans (((hG_7.1 96 (by decide))).trans (((hG_4.1 96 (by decide))).trans (hG_1.1 96 (by decide))))
          refine iv_X12_258 hK (s_code_k cx 0 g109_10 hT_10 (by first | omega | (simp [up, setR] <;> omega)) (by first | omega | (simp [up, setR] <;> omega)) (by rewrite [e14_74, e15_75]; first | assumption | exact htb) (by rewrite [e16_73_32]; first | omega | (simp [up, setR] <;> omega)) (by rewrite [e17_73_29, e18_73_34, e19_73_36, e20_96]; first | omega | (simp [up, setR] <;> omega))) (by decide) rfl ⟨by decide, by decide⟩ (by decide) rfl rfl (Nat.le_of_ble_eq_true rfl) ⟨by decide, by decide⟩ dX12_wake_140 ?_
          intro r9 g140_21 hp9
          obtain ⟨⟨hT_21, hG_21⟩, z140_21, hr9, hz_21, pa_21, pm_21, pc_21⟩ := hp9
          rw [hr9]
          have hF_21 : FRM [73, 84, 85, 93, 96, 97, 98] [28, 32, 33, 34, 36, 39] h g140_21 := FRM_tr hF_10 hG_21 (by decide) (by decide)
          rw [show g109_10 73 29 = (h 73) 29 from (congrFun (hG_10.1 73 (by decide)) 29).trans ((congrFun (hG_7.1 73 (by decide)) 29).trans ((congrFun (hG_4.1 73 (by decide)) 29).trans (congrFun (hG_1.1 73 (by decide)) 29)))] at pm_21
          rw [show g109_10 73 34 = (h 73) 34 from (congrFun (hG_10.1 73 (by decide)) 34).trans ((congrFun (hG_7.1 73 (by decide)) 34).trans ((congrFun (hG_4.1 73 (by decide)) 34).trans (congrFun (hG_1.1 73 (by decide)) 34)))] at pm_21
          rw [show g109_10 73 36 = (h 73) 36 from (congrFun (hG_10.1 73 (by decide)) 36).trans ((congrFun (hG_7.1 73 (by decide)) 36).trans ((congrFun (hG_4.1 73 (by decide)) 36).trans (congrFun (hG_1.1 73 (by decide)) 36)))] at pm_21
          rw [show g109_10 96 = h 96 from ((hG_10.1 96 (by decide))).trans (((hG_7.1 96 (by decide))).trans (((hG_4.1 96 (by decide))).trans (hG_1.1 96 (by decide))))] at pm_21
          rw [show g109_10 73 29 = (h 73) 29 from (congrFun (hG_10.1 73 (by decide)) 29).trans ((congrFun (hG_7.1 73 (by decide)) 29).trans ((congrFun (hG_4.1 73 (by decide)) 29).trans (congrFun (hG_1.1 73 (by decide)) 29)))] at pc_21
          show TT K ly 0 0 143 [(8, vI 0), (0, vR 73), (1, vI x), (2, vI y), (3, vI (10 * y + x + 11)), (4, vI a), (5, vI b), (6, vI t9), (7, vI cx)] [vI z140_21] g140_21
          refine TT_istore hK (lv' := [(9, vI z140_21), (8, vI 0), (0, vR 73), (1, vI x), (2, vI y), (3, vI (10 * y + x + 11)), (4, vI a), (5, vI b), (6, vI t9), (7, vI cx)]) (by decide) rfl dX12_wake_143 ?_
          refine TT_iload hK 8 rfl dX12_wake_145 ?_
          refine TT_if_eq hK (tgt := 157) (irm (by omega) (by omega)) dX12_wake_147 (by decide) (fun hb147_22 => ?_) (fun hb147_22 => ?_)
          · refine TT_iload hK 0 rfl dX12_wake_157 ?_
            refine TT_istore hK (lv' := [(8, vI z140_21), (9, vI z140_21), (0, vR 73), (1, vI x), (2, vI y), (3, vI (10 * y + x + 11)), (4, vI a), (5, vI b), (6, vI t9), (7, vI cx)]) (by decide) rfl dX12_wake_159 ?_
            refine TT_aload_n hK rfl 2 rfl dX12_wake_161 ?_
            refine gf_X12_50 hK (by decide) rfl (q := 85) rfl rfl dX12_wake_162 ?_
            refine TT_aload_n hK rfl 2 rfl dX12_wake_165 ?_
            refine TT_iload_n hK rfl 3 rfl dX12_wake_166 ?_
            refine TT_iload_n hK rfl 4 rfl dX12_wake_167 ?_
            refine iv_X12_249 hK (s_X12_cell_73 x y g140_21 hT_21 (by first | omega | (simp [up, setR] <;> omega)) (by first | omega | (simp [up, setR] <;> omega))) (by decide) rfl ⟨by decide, by decide⟩ (by decide) rfl rfl (Nat.le_of_ble_eq_true rfl) ⟨by decide, by decide⟩ dX12_wake_168 ?_
            intro r9 g168_23 hp9
            obtain ⟨⟨hT_23, hG_23⟩, z168_23, hr9, hz_23, p1_23⟩ := hp9
            rw [hr9]
            have hF_23 : FRM [73, 84, 85, 93, 96, 97, 98] [28, 32, 33, 34, 36, 39] h g168_23 := FRM_tr hF_21 hG_23 (by decide) (by decide)
            rw [show g140_21 73 26 = (h 73) 26 from ((hG_21.2 26 (by decide))).trans ((congrFun (hG_10.1 73 (by decide)) 26).trans ((congrFun (hG_7.1 73 (by decide)) 26).trans ((congrFun (hG_4.1 73 (by decide)) 26).trans (congrFun (hG_1.1 73 (by decide)) 26))))] at p1_23
            show TT K ly 0 0 171 [(8, vI z140_21), (9, vI z140_21), (0, vR 73), (1, vI x), (2, vI y), (3, vI (10 * y + x + 11)), (4, vI a), (5, vI b), (6, vI t9), (7, vI cx)] [vI z168_23, vR 85] g168_23
            refine TT_cgI (b := 64 * ((h 73) 26) + 8 * y + x) (by omega) ?_
            refine TT_iload hK 0 rfl dX12_wake_171 ?_
            refine TT_iconst hK dX12_wake_173 ?_
            refine TT_icmp_ne hK (tgt := 181) (irm (by omega) (by omega)) (by decide) dX12_wake_174 (by decide) (fun hb174_24 => ?_) (fun hb174_24 => ?_)
            · refine TT_iconst hK dX12_wake_181 ?_
              refine TT_zast hK (o := 85) (n := 1280) (by decide) rfl (by omega) (by omega) (by first | decide | omega) dX12_wake_182 ?_
              refine TT_hp (h' := setO g168_23 85 (fup (h 85) (64 * ((h 73) 26) + 8 * y + x) 0)) (up_can (((hG_23.1 85 (by decide))).trans (((hG_21.1 85 (by decide))).trans (((hG_10.1 85 (by decide))).trans (((hG_7.1 85 (by decide))).trans (((hG_4.1 85 (by decide))).trans (hG_1.1 85 (by decide))))))) rfl rfl) ?_
              have hT_25 : TY (setO g168_23 85 (fup (h 85) (64 * ((h 73) 26) + 8 * y + x) 0)) := tu_85 hT_23 (show up g168_23 85 (64 * ((h 73) 26) + 8 * y + x) 0 = (setO g168_23 85 (fup (h 85) (64 * ((h 73) 26) + 8 * y + x) 0)) from up_can (((hG_23.1 85 (by decide))).trans (((hG_21.1 85 (by decide))).trans (((hG_10.1 85 (by decide))).trans (((hG_7.1 85 (by decide))).trans (((hG_4.1 85 (by decide))).trans (hG_1.1 85 (by decide))))))) rfl rfl) (by omega)
              have hF_25 : FRM [73, 84, 85, 93, 96, 97, 98] [28, 32, 33, 34, 36, 39] h (setO g168_23 85 (fup (h 85) (64 * ((h 73) 26) + 8 * y + x) 0)) := FRM_up (show up g168_23 85 (64 * ((h 73) 26) + 8 * y + x) 0 = (setO g168_23 85 (fup (h 85) (64 * ((h 73) 26) + 8 * y + x) 0)) from up_can (((hG_23.1 85 (by decide))).trans (((hG_21.1 85 (by decide))).trans (((hG_10.1 85 (by decide))).trans (((hG_7.1 85 (by decide))).trans (((hG_4.1 85 (by decide))).trans (hG_1.1 85 (by decide))))))) rfl rfl) hF_23 (by decide) (by decide)
              refine TT_aload_n hK rfl 2 rfl dX12_wake_183 ?_
              refine gf_X12_75 hK (by decide) rfl (q := 93) rfl rfl dX12_wake_184 ?_
              refine TT_iload_n hK rfl 5 rfl dX12_wake_187 ?_
              refine TT_iload hK 0 rfl dX12_wake_188 ?_
              refine TT_iconst hK dX12_wake_190 ?_
              refine TT_icmp_ne hK (tgt := 198) (irm (by omega) (by omega)) (by decide) dX12_wake_191 (by decide) (fun hb191_26 => ?_) (fun hb191_26 => ?_)
              · refine TT_iconst hK dX12_wake_198 ?_
                refine TT_iast hK (o := 93) (n := 100) (by decide) rfl (by omega) (by omega) dX12_wake_199 ?_
                refine TT_hp (h' := setO (setO g168_23 85 (fup (h 85) (64 * ((h 73) 26) + 8 * y + x) 0)) 93 (fup (h 93) (10 * y + x + 11) 1)) (up_can ((sOf_ne _ _ (by decide)).trans (((hG_23.1 93 (by decide))).trans (((hG_21.1 93 (by decide))).trans (((hG_10.1 93 (by decide))).trans (((hG_7.1 93 (by decide))).trans (((hG_4.1 93 (by decide))).trans (hG_1.1 93 (by decide)))))))) rfl rfl) ?_
                have hT_27 : TY (setO (setO g168_23 85 (fup (h 85) (64 * ((h 73) 26) + 8 * y + x) 0)) 93 (fup (h 93) (10 * y + x + 11) 1)) := tu_93 hT_25 (show up (setO g168_23 85 (fup (h 85) (64 * ((h 73) 26) + 8 * y + x) 0)) 93 (10 * y + x + 11) 1 = (setO (setO g168_23 85 (fup (h 85) (64 * ((h 73) 26) + 8 * y + x) 0)) 93 (fup (h 93) (10 * y + x + 11) 1)) from up_can ((sOf_ne _ _ (by decide)).trans (((hG_23.1 93 (by decide))).trans (((hG_21.1 93 (by decide))).trans (((hG_10.1 93 (by decide))).trans (((hG_7.1 93 (by decide))).trans (((hG_4.1 93 (by decide))).trans (hG_1.1 93 (by decide)))))))) rfl rfl) (by omega)
                have hF_27 : FRM [73, 84, 85, 93, 96, 97, 98] [28, 32, 33, 34, 36, 39] h (setO (setO g168_23 85 (fup (h 85) (64 * ((h 73) 26) + 8 * y + x) 0)) 93 (fup (h 93) (10 * y + x + 11) 1)) := FRM_up (show up (setO g168_23 85 (fup (h 85) (64 * ((h 73) 26) + 8 * y + x) 0)) 93 (10 * y + x + 11) 1 = (setO (setO g168_23 85 (fup (h 85) (64 * ((h 73) 26) + 8 * y + x) 0)) 93 (fup (h 93) (10 * y + x + 11) 1)) from up_can ((sOf_ne _ _ (by decide)).trans (((hG_23.1 93 (by decide))).trans (((hG_21.1 93 (by decide))).trans (((hG_10.1 93 (by decide))).trans (((hG_7.1 93 (by decide))).trans (((hG_4.1 93 (by decide))).trans (hG_1.1 93 (by decide)))))))) rfl rfl) hF_25 (by decide) (by decide)
                refine TT_aload_n hK rfl 2 rfl dX12_wake_200 ?_
                refine gf_X12_163 hK (by decide) rfl (v := (h 73) 29) ((congrFun ((sOf_ne _ _ (by decide)).trans ((sOf_ne _ _ (by decide)).trans (hG_23.1 73 (by decide)))) 29).trans (((hG_21.2 29 (by decide))).trans ((congrFun (hG_10.1 73 (by decide)) 29).trans ((congrFun (hG_7.1 73 (by decide)) 29).trans ((congrFun (hG_4.1 73 (by decide)) 29).trans (congrFun (hG_1.1 73 (by decide)) 29)))))) dX12_wake_201 ?_
                have r28 := ty_73_29 (v := (h 73) 29) hT_27 ((congrFun ((sOf_ne _ _ (by decide)).trans ((sOf_ne _ _ (by decide)).trans (hG_23.1 73 (by decide)))) 29).trans (((hG_21.2 29 (by decide))).trans ((congrFun (hG_10.1 73 (by decide)) 29).trans ((congrFun (hG_7.1 73 (by decide)) 29).trans ((congrFun (hG_4.1 73 (by decide)) 29).trans (congrFun (hG_1.1 73 (by decide)) 29))))))
                refine TT_iconst hK dX12_wake_204 ?_
                refine TT_icmp_ne hK (tgt := 237) (irm (by omega) (by omega)) (by decide) dX12_wake_205 (by decide) (fun hb205_29 => ?_) (fun hb205_29 => ?_)
                · refine TT_vret hK hQ ?_ dX12_wake_237
                  have e30_73_32 : (setO (setO g168_23 85 (fup (h 85) (64 * ((h 73) 26) + 8 * y + x) 0)) 93 (fup (h 93) (10 * y + x + 11) 1)) 73 32 = (g140_21 73) 32 := congrFun ((sOf_ne _ _ (by decide)).trans ((sOf_ne _ _ (by decide)).trans (hG_23.1 73 (by decide)))) 32
                  have e31_73_34 : (setO (setO g168_23 85 (fup (h 85) (64 * ((h 73) 26) + 8 * y + x) 0)) 93 (fup (h 93) (10 * y + x + 11) 1)) 73 34 = (g140_21 73) 34 := congrFun ((sOf_ne _ _ (by decide)).trans ((sOf_ne _ _ (by decide)).trans (hG_23.1 73 (by decide)))) 34
                  have e32_73_36 : (setO (setO g168_23 85 (fup (h 85) (64 * ((h 73) 26) + 8 * y + x) 0)) 93 (fup (h 93) (10 * y + x + 11) 1)) 73 36 = (g140_21 73) 36 := congrFun ((sOf_ne _ _ (by decide)).trans ((sOf_ne _ _ (by decide)).trans (hG_23.1 73 (by decide)))) 36
                  have e33_96 : (setO (setO g168_23 85 (fup (h 85) (64 * ((h 73) 26) + 8 * y + x) 0)) 93 (fup (h 93) (10 * y + x + 11) 1)) 96 = g140_21 96 := (sOf_ne _ _ (by decide)).trans ((sOf_ne _ _ (by decide)).trans (hG_23.1 96 (by decide)))
                  have e34_93 : (setO (setO g168_23 85 (fup (h 85) (64 * ((h 73) 26) + 8 * y + x) 0)) 93 (fup (h 93) (10 * y + x + 11) 1)) 93 = fup (h 93) (10 * y + x + 11) 1 := sOf_eq _ _ _
                  have e35_84 : (setO (setO g168_23 85 (fup (h 85) (64 * ((h 73) 26) + 8 * y + x) 0)) 93 (fup (h 93) (10 * y + x + 11) 1)) 84 = h 84 := (sOf_ne _ _ (by decide)).trans ((sOf_ne _ _ (by decide)).trans (((hG_23.1 84 (by decide))).trans (((hG_21.1 84 (by decide))).trans (((hG_10.1 84 (by decide))).trans (((hG_7.1 84 (by decide))).trans (((hG_4.1 84 (by decide))).trans (hG_1.1 84 (by decide))))))))
                  have e36_85 : (setO (setO g168_23 85 (fup (h 85) (64 * ((h 73) 26) + 8 * y + x) 0)) 93 (fup (h 93) (10 * y + x + 11) 1)) 85 = fup (h 85) (64 * ((h 73) 26) + 8 * y + x) 0 := (sOf_ne _ _ (by decide)).trans (sOf_eq _ _ _)
                  exact ⟨⟨hT_27, hF_27⟩, rfl, (by rewrite [e30_73_32]; omega), (by rewrite [e31_73_34, e32_73_36, e33_96]; omega), (by rewrite [e34_93]; intro w e h1 h2 h3 h4 h5; exact ZC_up ⟨hx.1, h1⟩ h2 ⟨hy.1, h3⟩ h4 h5 (by decide)), (by rewrite [e35_84, e36_85]; intro j hj; exact ⟨(by first | rfl | exact fup_ne _ _ (by omega)), (by by_cases e : j = 64 * (h 73 26) + 8 * y + x; (rw [e, fup_eq]; omega); exact fup_ne _ _ e)⟩)⟩
                · refine TT_aload_n hK rfl 2 rfl dX12_wake_208 ?_
                  refine gf_X12_47 hK (by decide) rfl (q := 84) rfl rfl dX12_wake_209 ?_
                  refine TT_aload_n hK rfl 2 rfl dX12_wake_212 ?_
                  refine TT_iload_n hK rfl 3 rfl dX12_wake_213 ?_
                  refine TT_iload_n hK rfl 4 rfl dX12_wake_214 ?_
                  refine iv_X12_249 hK (s_X12_cell_73 x y (setO (setO g168_23 85 (fup (h 85) (64 * ((h 73) 26) + 8 * y + x) 0)) 93 (fup (h 93) (10 * y + x + 11) 1)) hT_27 (by first | omega | (simp [up, setR] <;> omega)) (by first | omega | (simp [up, setR] <;> omega))) (by decide) rfl ⟨by decide, by decide⟩ (by decide) rfl rfl (Nat.le_of_ble_eq_true rfl) ⟨by decide, by decide⟩ dX12_wake_215 ?_
                  intro r9 g215_37 hp9
                  obtain ⟨⟨hT_37, hG_37⟩, z215_37, hr9, hz_37, p1_37⟩ := hp9
                  rw [hr9]
                  have hF_37 : FRM [73, 84, 85, 93, 96, 97, 98] [28, 32, 33, 34, 36, 39] h g215_37 := FRM_tr hF_27 hG_37 (by decide) (by decide)
                  rw [show (setO (setO g168_23 85 (fup (h 85) (64 * ((h 73) 26) + 8 * y + x) 0)) 93 (fup (h 93) (10 * y + x + 11) 1)) 73 26 = (h 73) 26 from (congrFun ((sOf_ne _ _ (by decide)).trans ((sOf_ne _ _ (by decide)).trans (hG_23.1 73 (by decide)))) 26).trans (((hG_21.2 26 (by decide))).trans ((congrFun (hG_10.1 73 (by decide)) 26).trans ((congrFun (hG_7.1 73 (by decide)) 26).trans ((congrFun (hG_4.1 73 (by decide)) 26).trans (congrFun (hG_1.1 73 (by decide)) 26)))))] at p1_37
                  show TT K ly 0 0 218 [(8, vI z140_21), (9, vI z140_21), (0, vR 73), (1, vI x), (2, vI y), (3, vI (10 * y + x + 11)), (4, vI a), (5, vI b), (6, vI t9), (7, vI cx)] [vI z215_37, vR 84] g215_37
                  refine TT_cgI (b := 64 * ((h 73) 26) + 8 * y + x) (by omega) ?_
                  refine TT_aload_n hK rfl 2 rfl dX12_wake_218 ?_
                  refine gf_X12_47 hK (by decide) rfl (q := 84) rfl rfl dX12_wake_219 ?_
                  refine TT_aload_n hK rfl 2 rfl dX12_wake_222 ?_
                  refine TT_iload_n hK rfl 3 rfl dX12_wake_223 ?_
                  refine TT_iload_n hK rfl 4 rfl dX12_wake_224 ?_
                  refine iv_X12_249 hK (s_X12_cell_73 x y g215_37 hT_37 (by first | omega | (simp [up, setR] <;> omega)) (by first | omega | (simp [up, setR] <;> omega))) (by decide) rfl ⟨by decide, by decide⟩ (by decide) rfl rfl (Nat.le_of_ble_eq_true rfl) ⟨by decide, by decide⟩ dX12_wake_225 ?_
                  intro r9 g225_38 hp9
                  obtain ⟨⟨hT_38, hG_38⟩, z225_38, hr9, hz_38, p1_38⟩ := hp9
                  rw [hr9]
                  have hF_38 : FRM [73, 84, 85, 93, 96, 97, 98] [28, 32, 33, 34, 36, 39] h g225_38 := FRM_tr hF_37 hG_38 (by decide) (by decide)
                  rw [show g215_37 73 26 = (h 73) 26 from (congrFun (hG_37.1 73 (by decide)) 26).trans ((congrFun ((sOf_ne _ _ (by decide)).trans ((sOf_ne _ _ (by decide)).trans (hG_23.1 73 (by decide)))) 26).trans (((hG_21.2 26 (by decide))).trans ((congrFun (hG_10.1 73 (by decide)) 26).trans ((congrFun (hG_7.1 73 (by decide)) 26).trans ((congrFun (hG_4.1 73 (by decide)) 26).trans (congrFun (hG_1.1 73 (by decide)) 26))))))] at p1_38
                  show TT K ly 0 0 228 [(8, vI z140_21), (9, vI z140_21), (0, vR 73), (1, vI x), (2, vI y), (3, vI (10 * y + x + 11)), (4, vI a), (5, vI b), (6, vI t9), (7, vI cx)] [vI z225_38, vR 84, vI (64 * ((h 73) 26) + 8 * y + x), vR 84] g225_38
                  refine TT_cgI (b := 64 * ((h 73) 26) + 8 * y + x) (by omega) ?_
                  refine TT_iald hK (o := 84) (n := 1280) (by decide) rfl (by first | omega | (simp [up, setR] <;> omega)) (by first | omega | (simp [up, setR] <;> omega)) (v := (h 84) (64 * ((h 73) 26) + 8 * y + x)) (rd_ (((hG_38.1 84 (by decide))).trans (((hG_37.1 84 (by decide))).trans ((sOf_ne _ _ (by decide)).trans ((sOf_ne _ _ (by decide)).trans (((hG_23.1 84 (by decide))).trans (((hG_21.1 84 (by decide))).trans (((hG_10.1 84 (by decide))).trans (((hG_7.1 84 (by decide))).trans (((hG_4.1 84 (by decide))).trans (hG_1.1 84 (by decide))))))))))) rfl) dX12_wake_228 ?_
                  have r39 := ty_84 (i := 64 * ((h 73) 26) + 8 * y + x) (v := (h 84) (64 * ((h 73) 26) + 8 * y + x)) hT_38 (rd_ (((hG_38.1 84 (by decide))).trans (((hG_37.1 84 (by decide))).trans ((sOf_ne _ _ (by decide)).trans ((sOf_ne _ _ (by decide)).trans (((hG_23.1 84 (by decide))).trans (((hG_21.1 84 (by decide))).trans (((hG_10.1 84 (by decide))).trans (((hG_7.1 84 (by decide))).trans (((hG_4.1 84 (by decide))).trans (hG_1.1 84 (by decide))))))))))) rfl) (by omega) (by omega)
                  refine TT_iconst hK dX12_wake_229 ?_
                  refine TT_aload_n hK rfl 2 rfl dX12_wake_230 ?_
                  refine gf_X12_252 hK (by decide) rfl (v := (h 73) 27) ((congrFun (hG_38.1 73 (by decide)) 27).trans ((congrFun (hG_37.1 73 (by decide)) 27).trans ((congrFun ((sOf_ne _ _ (by decide)).trans ((sOf_ne _ _ (by decide)).trans (hG_23.1 73 (by decide)))) 27).trans (((hG_21.2 27 (by decide))).trans ((congrFun (hG_10.1 73 (by decide)) 27).trans ((congrFun (hG_7.1 73 (by decide)) 27).trans ((congrFun (hG_4.1 73 (by decide)) 27).trans (congrFun (hG_1.1 73 (by decide)) 27)))))))) dX12_wake_231 ?_
                  have r40 := ty_73_27 (v := (h 73) 27) hT_38 ((congrFun (hG_38.1 73 (by decide)) 27).trans ((congrFun (hG_37.1 73 (by decide)) 27).trans ((congrFun ((sOf_ne _ _ (by decide)).trans ((sOf_ne _ _ (by decide)).trans (hG_23.1 73 (by decide)))) 27).trans (((hG_21.2 27 (by decide))).trans ((congrFun (hG_10.1 73 (by decide)) 27).trans ((congrFun (hG_7.1 73 (by decide)) 27).trans ((congrFun (hG_4.1 73 (by decide)) 27).trans (congrFun (hG_1.1 73 (by decide)) 27))))))))
                  refine TT_ishl_a hK dX12_wake_234 (fun x234_41 hx41 => ?_)
                  refine TT_ior hK dX12_wake_235 ?_
                  refine TT_w32 (fun x236_42 hx42 => ?_)
                  refine TT_iast hK (o := 84) (n := 1280) (by decide) rfl (by omega) (by omega) dX12_wake_236 ?_
                  refine TT_hp (h' := setO g225_38 84 (fup (h 84) (64 * ((h 73) 26) + 8 * y + x) x236_42)) (up_can (((hG_38.1 84 (by decide))).trans (((hG_37.1 84 (by decide))).trans ((sOf_ne _ _ (by decide)).trans ((sOf_ne _ _ (by decide)).trans (((hG_23.1 84 (by decide))).trans (((hG_21.1 84 (by decide))).trans (((hG_10.1 84 (by decide))).trans (((hG_7.1 84 (by decide))).trans (((hG_4.1 84 (by decide))).trans (hG_1.1 84 (by decide))))))))))) rfl rfl) ?_
                  have hT_43 : TY (setO g225_38 84 (fup (h 84) (64 * ((h 73) 26) + 8 * y + x) x236_42)) := tu_84 hT_38 (show up g225_38 84 (64 * ((h 73) 26) + 8 * y + x) x236_42 = (setO g225_38 84 (fup (h 84) (64 * ((h 73) 26) + 8 * y + x) x236_42)) from up_can (((hG_38.1 84 (by decide))).trans (((hG_37.1 84 (by decide))).trans ((sOf_ne _ _ (by decide)).trans ((sOf_ne _ _ (by decide)).trans (((hG_23.1 84 (by decide))).trans (((hG_21.1 84 (by decide))).trans (((hG_10.1 84 (by decide))).trans (((hG_7.1 84 (by decide))).trans (((hG_4.1 84 (by decide))).trans (hG_1.1 84 (by decide))))))))))) rfl rfl) (by omega)
                  have hF_43 : FRM [73, 84, 85, 93, 96, 97, 98] [28, 32, 33, 34, 36, 39] h (setO g225_38 84 (fup (h 84) (64 * ((h 73) 26) + 8 * y + x) x236_42)) := FRM_up (show up g225_38 84 (64 * ((h 73) 26) + 8 * y + x) x236_42 = (setO g225_38 84 (fup (h 84) (64 * ((h 73) 26) + 8 * y + x) x236_42)) from up_can (((hG_38.1 84 (by decide))).trans (((hG_37.1 84 (by decide))).trans ((sOf_ne _ _ (by decide)).trans ((sOf_ne _ _ (by decide)).trans (((hG_23.1 84 (by decide))).trans (((hG_21.1 84 (by decide))).trans (((hG_10.1 84 (by decide))).trans (((hG_7.1 84 (by decide))).trans (((hG_4.1 84 (by decide))).trans (hG_1.1 84 (by decide))))))))))) rfl rfl) hF_38 (by decide) (by decide)
                  refine TT_vret hK hQ ?_ dX12_wake_237
                  have e44_73_32 : (setO g225_38 84 (fup (h 84) (64 * ((h 73) 26) + 8 * y + x) x236_42)) 73 32 = (g140_21 73) 32 := (congrFun ((sOf_ne _ _ (by decide)).trans (hG_38.1 73 (by decide))) 32).trans ((congrFun (hG_37.1 73 (by decide)) 32).trans (congrFun ((sOf_ne _ _ (by decide)).trans ((sOf_ne _ _ (by decide)).trans (hG_23.1 73 (by decide)))) 32))
                  have e45_73_34 : (setO g225_38 84 (fup (h 84) (64 * ((h 73) 26) + 8 * y + x) x236_42)) 73 34 = (g140_21 73) 34 := (congrFun ((sOf_ne _ _ (by decide)).trans (hG_38.1 73 (by decide))) 34).trans ((congrFun (hG_37.1 73 (by decide)) 34).trans (congrFun ((sOf_ne _ _ (by decide)).trans ((sOf_ne _ _ (by decide)).trans (hG_23.1 73 (by decide)))) 34))
                  have e46_73_36 : (setO g225_38 84 (fup (h 84) (64 * ((h 73) 26) + 8 * y + x) x236_42)) 73 36 = (g140_21 73) 36 := (congrFun ((sOf_ne _ _ (by decide)).trans (hG_38.1 73 (by decide))) 36).trans ((congrFun (hG_37.1 73 (by decide)) 36).trans (congrFun ((sOf_ne _ _ (by decide)).trans ((sOf_ne _ _ (by decide)).trans (hG_23.1 73 (by decide)))) 36))
                  have e47_96 : (setO g225_38 84 (fup (h 84) (64 * ((h 73) 26) + 8 * y + x) x236_42)) 96 = g140_21 96 := (sOf_ne _ _ (by decide)).trans (((hG_38.1 96 (by decide))).trans (((hG_37.1 96 (by decide))).trans ((sOf_ne _ _ (by decide)).trans ((sOf_ne _ _ (by decide)).trans (hG_23.1 96 (by decide))))))
                  have e48_93 : (setO g225_38 84 (fup (h 84) (64 * ((h 73) 26) + 8 * y + x) x236_42)) 93 = fup (h 93) (10 * y + x + 11) 1 := (sOf_ne _ _ (by decide)).trans (((hG_38.1 93 (by decide))).trans (((hG_37.1 93 (by decide))).trans (sOf_eq _ _ _)))
                  have e49_84 : (setO g225_38 84 (fup (h 84) (64 * ((h 73) 26) + 8 * y + x) x236_42)) 84 = fup (h 84) (64 * ((h 73) 26) + 8 * y + x) x236_42 := sOf_eq _ _ _
                  have e50_85 : (setO g225_38 84 (fup (h 84) (64 * ((h 73) 26) + 8 * y + x) x236_42)) 85 = fup (h 85) (64 * ((h 73) 26) + 8 * y + x) 0 := (sOf_ne _ _ (by decide)).trans (((hG_38.1 85 (by decide))).trans (((hG_37.1 85 (by decide))).trans ((sOf_ne _ _ (by decide)).trans (sOf_eq _ _ _))))
                  exact ⟨⟨hT_43, hF_43⟩, rfl, (by rewrite [e44_73_32]; omega), (by rewrite [e45_73_34, e46_73_36, e47_96]; omega), (by rewrite [e48_93]; intro w e h1 h2 h3 h4 h5; exact ZC_up ⟨hx.1, h1⟩ h2 ⟨hy.1, h3⟩ h4 h5 (by decide)), (by rewrite [e49_84, e50_85]; intro j hj; exact ⟨(by first | rfl | exact fup_ne _ _ (by omega)), (by by_cases e : j = 64 * (h 73 26) + 8 * y + x; (rw [e, fup_eq]; omega); exact fup_ne _ _ e)⟩)⟩
              · exfalso; omega
            · refine TT_iconst hK dX12_wake_177 ?_
              refine TT_goto hK (tgt := 182) dX12_wake_178 (by decide) ?_
              refine TT_zast hK (o := 85) (n := 1280) (by decide) rfl (by omega) (by omega) (by first | decide | omega) dX12_wake_182 ?_
              refine TT_hp (h' := setO g168_23 85 (fup (h 85) (64 * ((h 73) 26) + 8 * y + x) 1)) (up_can (((hG_23.1 85 (by decide))).trans (((hG_21.1 85 (by decide))).trans (((hG_10.1 85 (by decide))).trans (((hG_7.1 85 (by decide))).trans (((hG_4.1 85 (by decide))).trans (hG_1.1 85 (by decide))))))) rfl rfl) ?_
              have hT_51 : TY (setO g168_23 85 (fup (h 85) (64 * ((h 73) 26) + 8 * y + x) 1)) := tu_85 hT_23 (show up g168_23 85 (64 * ((h 73) 26) + 8 * y + x) 1 = (setO g168_23 85 (fup (h 85) (64 * ((h 73) 26) + 8 * y + x) 1)) from up_can (((hG_23.1 85 (by decide))).trans (((hG_21.1 85 (by decide))).trans (((hG_10.1 85 (by decide))).trans (((hG_7.1 85 (by decide))).trans (((hG_4.1 85 (by decide))).trans (hG_1.1 85 (by decide))))))) rfl rfl) (by omega)
              have hF_51 : FRM [73, 84, 85, 93, 96, 97, 98] [28, 32, 33, 34, 36, 39] h (setO g168_23 85 (fup (h 85) (64 * ((h 73) 26) + 8 * y + x) 1)) := FRM_up (show up g168_23 85 (64 * ((h 73) 26) + 8 * y + x) 1 = (setO g168_23 85 (fup (h 85) (64 * ((h 73) 26) + 8 * y + x) 1)) from up_can (((hG_23.1 85 (by decide))).trans (((hG_21.1 85 (by decide))).trans (((hG_10.1 85 (by decide))).trans (((hG_7.1 85 (by decide))).trans (((hG_4.1 85 (by decide))).trans (hG_1.1 85 (by decide))))))) rfl rfl) hF_23 (by decide) (by decide)
              refine TT_aload_n hK rfl 2 rfl dX12_wake_183 ?_
              refine gf_X12_75 hK (by decide) rfl (q := 93) rfl rfl dX12_wake_184 ?_
              refine TT_iload_n hK rfl 5 rfl dX12_wake_187 ?_
              refine TT_iload hK 0 rfl dX12_wake_188 ?_
              refine TT_iconst hK dX12_wake_190 ?_
              refine TT_icmp_ne hK (tgt := 198) (irm (by omega) (by omega)) (by decide) dX12_wake_191 (by decide) (fun hb191_52 => ?_) (fun hb191_52 => ?_)
              · exfalso; omega
              · refine TT_iconst hK dX12_wake_194 ?_
                refine TT_goto hK (tgt := 199) dX12_wake_195 (by decide) ?_
                refine TT_iast hK (o := 93) (n := 100) (by decide) rfl (by omega) (by omega) dX12_wake_199 ?_
                refine TT_hp (h' := setO (setO g168_23 85 (fup (h 85) (64 * ((h 73) 26) + 8 * y + x) 1)) 93 (fup (h 93) (10 * y + x + 11) (-1))) (up_can ((sOf_ne _ _ (by decide)).trans (((hG_23.1 93 (by decide))).trans (((hG_21.1 93 (by decide))).trans (((hG_10.1 93 (by decide))).trans (((hG_7.1 93 (by decide))).trans (((hG_4.1 93 (by decide))).trans (hG_1.1 93 (by decide)))))))) rfl rfl) ?_
                have hT_53 : TY (setO (setO g168_23 85 (fup (h 85) (64 * ((h 73) 26) + 8 * y + x) 1)) 93 (fup (h 93) (10 * y + x + 11) (-1))) := tu_93 hT_51 (show up (setO g168_23 85 (fup (h 85) (64 * ((h 73) 26) + 8 * y + x) 1)) 93 (10 * y + x + 11) (-1) = (setO (setO g168_23 85 (fup (h 85) (64 * ((h 73) 26) + 8 * y + x) 1)) 93 (fup (h 93) (10 * y + x + 11) (-1))) from up_can ((sOf_ne _ _ (by decide)).trans (((hG_23.1 93 (by decide))).trans (((hG_21.1 93 (by decide))).trans (((hG_10.1 93 (by decide))).trans (((hG_7.1 93 (by decide))).trans (((hG_4.1 93 (by decide))).trans (hG_1.1 93 (by decide)))))))) rfl rfl) (by omega)
                have hF_53 : FRM [73, 84, 85, 93, 96, 97, 98] [28, 32, 33, 34, 36, 39] h (setO (setO g168_23 85 (fup (h 85) (64 * ((h 73) 26) + 8 * y + x) 1)) 93 (fup (h 93) (10 * y + x + 11) (-1))) := FRM_up (show up (setO g168_23 85 (fup (h 85) (64 * ((h 73) 26) + 8 * y + x) 1)) 93 (10 * y + x + 11) (-1) = (setO (setO g168_23 85 (fup (h 85) (64 * ((h 73) 26) + 8 * y + x) 1)) 93 (fup (h 93) (10 * y + x + 11) (-1))) from up_can ((sOf_ne _ _ (by decide)).trans (((hG_23.1 93 (by decide))).trans (((hG_21.1 93 (by decide))).trans (((hG_10.1 93 (by decide))).trans (((hG_7.1 93 (by decide))).trans (((hG_4.1 93 (by decide))).trans (hG_1.1 93 (by decide)))))))) rfl rfl) hF_51 (by decide) (by decide)
                refine TT_aload_n hK rfl 2 rfl dX12_wake_200 ?_
                refine gf_X12_163 hK (by decide) rfl (v := (h 73) 29) ((congrFun ((sOf_ne _ _ (by decide)).trans ((sOf_ne _ _ (by decide)).trans (hG_23.1 73 (by decide)))) 29).trans (((hG_21.2 29 (by decide))).trans ((congrFun (hG_10.1 73 (by decide)) 29).trans ((congrFun (hG_7.1 73 (by decide)) 29).trans ((congrFun (hG_4.1 73 (by decide)) 29).trans (congrFun (hG_1.1 73 (by decide)) 29)))))) dX12_wake_201 ?_
                have r54 := ty_73_29 (v := (h 73) 29) hT_53 ((congrFun ((sOf_ne _ _ (by decide)).trans ((sOf_ne _ _ (by decide)).trans (hG_23.1 73 (by decide)))) 29).trans (((hG_21.2 29 (by decide))).trans ((congrFun (hG_10.1 73 (by decide)) 29).trans ((congrFun (hG_7.1 73 (by decide)) 29).trans ((congrFun (hG_4.1 73 (by decide)) 29).trans (congrFun (hG_1.1 73 (by decide)) 29))))))
                refine TT_iconst hK dX12_wake_204 ?_
                refine TT_icmp_ne hK (tgt := 237) (irm (by omega) (by omega)) (by decide) dX12_wake_205 (by decide) (fun hb205_55 => ?_) (fun hb205_55 => ?_)
                · refine TT_vret hK hQ ?_ dX12_wake_237
                  have e56_73_32 : (setO (setO g168_23 85 (fup (h 85) (64 * ((h 73) 26) + 8 * y + x) 1)) 93 (fup (h 93) (10 * y + x + 11) (-1))) 73 32 = (g140_21 73) 32 := congrFun ((sOf_ne _ _ (by decide)).trans ((sOf_ne _ _ (by decide)).trans (hG_23.1 73 (by decide)))) 32
                  have e57_73_34 : (setO (setO g168_23 85 (fup (h 85) (64 * ((h 73) 26) + 8 * y + x) 1)) 93 (fup (h 93) (10 * y + x + 11) (-1))) 73 34 = (g140_21 73) 34 := congrFun ((sOf_ne _ _ (by decide)).trans ((sOf_ne _ _ (by decide)).trans (hG_23.1 73 (by decide)))) 34
                  have e58_73_36 : (setO (setO g168_23 85 (fup (h 85) (64 * ((h 73) 26) + 8 * y + x) 1)) 93 (fup (h 93) (10 * y + x + 11) (-1))) 73 36 = (g140_21 73) 36 := congrFun ((sOf_ne _ _ (by decide)).trans ((sOf_ne _ _ (by decide)).trans (hG_23.1 73 (by decide)))) 36
                  have e59_96 : (setO (setO g168_23 85 (fup (h 85) (64 * ((h 73) 26) + 8 * y + x) 1)) 93 (fup (h 93) (10 * y + x + 11) (-1))) 96 = g140_21 96 := (sOf_ne _ _ (by decide)).trans ((sOf_ne _ _ (by decide)).trans (hG_23.1 96 (by decide)))
                  have e60_93 : (setO (setO g168_23 85 (fup (h 85) (64 * ((h 73) 26) + 8 * y + x) 1)) 93 (fup (h 93) (10 * y + x + 11) (-1))) 93 = fup (h 93) (10 * y + x + 11) (-1) := sOf_eq _ _ _
                  have e61_84 : (setO (setO g168_23 85 (fup (h 85) (64 * ((h 73) 26) + 8 * y + x) 1)) 93 (fup (h 93) (10 * y + x + 11) (-1))) 84 = h 84 := (sOf_ne _ _ (by decide)).trans ((sOf_ne _ _ (by decide)).trans (((hG_23.1 84 (by decide))).trans (((hG_21.1 84 (by decide))).trans (((hG_10.1 84 (by decide))).trans (((hG_7.1 84 (by decide))).trans (((hG_4.1 84 (by decide))).trans (hG_1.1 84 (by decide))))))))
                  have e62_85 : (setO (setO g168_23 85 (fup (h 85) (64 * ((h 73) 26) + 8 * y + x) 1)) 93 (fup (h 93) (10 * y + x + 11) (-1))) 85 = fup (h 85) (64 * ((h 73) 26) + 8 * y + x) 1 := (sOf_ne _ _ (by decide)).trans (sOf_eq _ _ _)
                  exact ⟨⟨hT_53, hF_53⟩, rfl, (by rewrite [e56_73_32]; omega), (by rewrite [e57_73_34, e58_73_36, e59_96]; omega), (by rewrite [e60_93]; intro w e h1 h2 h3 h4 h5; exact ZC_up ⟨hx.1, h1⟩ h2 ⟨hy.1, h3⟩ h4 h5 (by decide)), (by rewrite [e61_84, e62_85]; intro j hj; exact ⟨(by first | rfl | exact fup_ne _ _ (by omega)), (by by_cases e : j = 64 * (h 73 26) + 8 * y + x; (rw [e, fup_eq]; omega); exact fup_ne _ _ e)⟩)⟩
                · refine TT_aload_n hK rfl 2 rfl dX12_wake_208 ?_
                  refine gf_X12_47 hK (by decide) rfl (q := 84) rfl rfl dX12_wake_209 ?_
                  refine TT_aload_n hK rfl 2 rfl dX12_wake_212 ?_
                  refine TT_iload_n hK rfl 3 rfl dX12_wake_213 ?_
                  refine TT_iload_n hK rfl 4 rfl dX12_wake_214 ?_
                  refine iv_X12_249 hK (s_X12_cell_73 x y (setO (setO g168_23 85 (fup (h 85) (64 * ((h 73) 26) + 8 * y + x) 1)) 93 (fup (h 93) (10 * y + x + 11) (-1))) hT_53 (by first | omega | (simp [up, setR] <;> omega)) (by first | omega | (simp [up, setR] <;> omega))) (by decide) rfl ⟨by decide, by decide⟩ (by decide) rfl rfl (Nat.le_of_ble_eq_true rfl) ⟨by decide, by decide⟩ dX12_wake_215 ?_
                  intro r9 g215_63 hp9
                  obtain ⟨⟨hT_63, hG_63⟩, z215_63, hr9, hz_63, p1_63⟩ := hp9
                  rw [hr9]
                  have hF_63 : FRM [73, 84, 85, 93, 96, 97, 98] [28, 32, 33, 34, 36, 39] h g215_63 := FRM_tr hF_53 hG_63 (by decide) (by decide)
                  rw [show (setO (setO g168_23 85 (fup (h 85) (64 * ((h 73) 26) + 8 * y + x) 1)) 93 (fup (h 93) (10 * y + x + 11) (-1))) 73 26 = (h 73) 26 from (congrFun ((sOf_ne _ _ (by decide)).trans ((sOf_ne _ _ (by decide)).trans (hG_23.1 73 (by decide)))) 26).trans (((hG_21.2 26 (by decide))).trans ((congrFun (hG_10.1 73 (by decide)) 26).trans ((congrFun (hG_7.1 73 (by decide)) 26).trans ((congrFun (hG_4.1 73 (by decide)) 26).trans (congrFun (hG_1.1 73 (by decide)) 26)))))] at p1_63
                  show TT K ly 0 0 218 [(8, vI z140_21), (9, vI z140_21), (0, vR 73), (1, vI x), (2, vI y), (3, vI (10 * y + x + 11)), (4, vI a), (5, vI b), (6, vI t9), (7, vI cx)] [vI z215_63, vR 84] g215_63
                  refine TT_cgI (b := 64 * ((h 73) 26) + 8 * y + x) (by omega) ?_
                  refine TT_aload_n hK rfl 2 rfl dX12_wake_218 ?_
                  refine gf_X12_47 hK (by decide) rfl (q := 84) rfl rfl dX12_wake_219 ?_
                  refine TT_aload_n hK rfl 2 rfl dX12_wake_222 ?_
                  refine TT_iload_n hK rfl 3 rfl dX12_wake_223 ?_
                  refine TT_iload_n hK rfl 4 rfl dX12_wake_224 ?_
                  refine iv_X12_249 hK (s_X12_cell_73 x y g215_63 hT_63 (by first | omega | (simp [up, setR] <;> omega)) (by first | omega | (simp [up, setR] <;> omega))) (by decide) rfl ⟨by decide, by decide⟩ (by decide) rfl rfl (Nat.le_of_ble_eq_true rfl) ⟨by decide, by decide⟩ dX12_wake_225 ?_
                  intro r9 g225_64 hp9
                  obtain ⟨⟨hT_64, hG_64⟩, z225_64, hr9, hz_64, p1_64⟩ := hp9
                  rw [hr9]
                  have hF_64 : FRM [73, 84, 85, 93, 96, 97, 98] [28, 32, 33, 34, 36, 39] h g225_64 := FRM_tr hF_63 hG_64 (by decide) (by decide)
                  rw [show g215_63 73 26 = (h 73) 26 from (congrFun (hG_63.1 73 (by decide)) 26).trans ((congrFun ((sOf_ne _ _ (by decide)).trans ((sOf_ne _ _ (by decide)).trans (hG_23.1 73 (by decide)))) 26).trans (((hG_21.2 26 (by decide))).trans ((congrFun (hG_10.1 73 (by decide)) 26).trans ((congrFun (hG_7.1 73 (by decide)) 26).trans ((congrFun (hG_4.1 73 (by decide)) 26).trans (congrFun (hG_1.1 73 (by decide)) 26))))))] at p1_64
                  show TT K ly 0 0 228 [(8, vI z140_21), (9, vI z140_21), (0, vR 73), (1, vI x), (2, vI y), (3, vI (10 * y + x + 11)), (4, vI a), (5, vI b), (6, vI t9), (7, vI cx)] [vI z225_64, vR 84, vI (64 * ((h 73) 26) + 8 * y + x), vR 84] g225_64
                  refine TT_cgI (b := 64 * ((h 73) 26) + 8 * y + x) (by omega) ?_
                  refine TT_iald hK (o := 84) (n := 1280) (by decide) rfl (by first | omega | (simp [up, setR] <;> omega)) (by first | omega | (simp [up, setR] <;> omega)) (v := (h 84) (64 * ((h 73) 26) + 8 * y + x)) (rd_ (((hG_64.1 84 (by decide))).trans (((hG_63.1 84 (by decide))).trans ((sOf_ne _ _ (by decide)).trans ((sOf_ne _ _ (by decide)).trans (((hG_23.1 84 (by decide))).trans (((hG_21.1 84 (by decide))).trans (((hG_10.1 84 (by decide))).trans (((hG_7.1 84 (by decide))).trans (((hG_4.1 84 (by decide))).trans (hG_1.1 84 (by decide))))))))))) rfl) dX12_wake_228 ?_
                  have r65 := ty_84 (i := 64 * ((h 73) 26) + 8 * y + x) (v := (h 84) (64 * ((h 73) 26) + 8 * y + x)) hT_64 (rd_ (((hG_64.1 84 (by decide))).trans (((hG_63.1 84 (by decide))).trans ((sOf_ne _ _ (by decide)).trans ((sOf_ne _ _ (by decide)).trans (((hG_23.1 84 (by decide))).trans (((hG_21.1 84 (by decide))).trans (((hG_10.1 84 (by decide))).trans (((hG_7.1 84 (by decide))).trans (((hG_4.1 84 (by decide))).trans (hG_1.1 84 (by decide))))))))))) rfl) (by omega) (by omega)
                  refine TT_iconst hK dX12_wake_229 ?_
                  refine TT_aload_n hK rfl 2 rfl dX12_wake_230 ?_
                  refine gf_X12_252 hK (by decide) rfl (v := (h 73) 27) ((congrFun (hG_64.1 73 (by decide)) 27).trans ((congrFun (hG_63.1 73 (by decide)) 27).trans ((congrFun ((sOf_ne _ _ (by decide)).trans ((sOf_ne _ _ (by decide)).trans (hG_23.1 73 (by decide)))) 27).trans (((hG_21.2 27 (by decide))).trans ((congrFun (hG_10.1 73 (by decide)) 27).trans ((congrFun (hG_7.1 73 (by decide)) 27).trans ((congrFun (hG_4.1 73 (by decide)) 27).trans (congrFun (hG_1.1 73 (by decide)) 27)))))))) dX12_wake_231 ?_
                  have r66 := ty_73_27 (v := (h 73) 27) hT_64 ((congrFun (hG_64.1 73 (by decide)) 27).trans ((congrFun (hG_63.1 73 (by decide)) 27).trans ((congrFun ((sOf_ne _ _ (by decide)).trans ((sOf_ne _ _ (by decide)).trans (hG_23.1 73 (by decide)))) 27).trans (((hG_21.2 27 (by decide))).trans ((congrFun (hG_10.1 73 (by decide)) 27).trans ((congrFun (hG_7.1 73 (by decide)) 27).trans ((congrFun (hG_4.1 73 (by decide)) 27).trans (congrFun (hG_1.1 73 (by decide)) 27))))))))
                  refine TT_ishl_a hK dX12_wake_234 (fun x234_67 hx67 => ?_)
                  refine TT_ior hK dX12_wake_235 ?_
                  refine TT_w32 (fun x236_68 hx68 => ?_)
                  refine TT_iast hK (o := 84) (n := 1280) (by decide) rfl (by omega) (by omega) dX12_wake_236 ?_
                  refine TT_hp (h' := setO g225_64 84 (fup (h 84) (64 * ((h 73) 26) + 8 * y + x) x236_68)) (up_can (((hG_64.1 84 (by decide))).trans (((hG_63.1 84 (by decide))).trans ((sOf_ne _ _ (by decide)).trans ((sOf_ne _ _ (by decide)).trans (((hG_23.1 84 (by decide))).trans (((hG_21.1 84 (by decide))).trans (((hG_10.1 84 (by decide))).trans (((hG_7.1 84 (by decide))).trans (((hG_4.1 84 (by decide))).trans (hG_1.1 84 (by decide))))))))))) rfl rfl) ?_
                  have hT_69 : TY (setO g225_64 84 (fup (h 84) (64 * ((h 73) 26) + 8 * y + x) x236_68)) := tu_84 hT_64 (show up g225_64 84 (64 * ((h 73) 26) + 8 * y + x) x236_68 = (setO g225_64 84 (fup (h 84) (64 * ((h 73) 26) + 8 * y + x) x236_68)) from up_can (((hG_64.1 84 (by decide))).trans (((hG_63.1 84 (by decide))).trans ((sOf_ne _ _ (by decide)).trans ((sOf_ne _ _ (by decide)).trans (((hG_23.1 84 (by decide))).trans (((hG_21.1 84 (by decide))).trans (((hG_10.1 84 (by decide))).trans (((hG_7.1 84 (by decide))).trans (((hG_4.1 84 (by decide))).trans (hG_1.1 84 (by decide))))))))))) rfl rfl) (by omega)
                  have hF_69 : FRM [73, 84, 85, 93, 96, 97, 98] [28, 32, 33, 34, 36, 39] h (setO g225_64 84 (fup (h 84) (64 * ((h 73) 26) + 8 * y + x) x236_68)) := FRM_up (show up g225_64 84 (64 * ((h 73) 26) + 8 * y + x) x236_68 = (setO g225_64 84 (fup (h 84) (64 * ((h 73) 26) + 8 * y + x) x236_68)) from up_can (((hG_64.1 84 (by decide))).trans (((hG_63.1 84 (by decide))).trans ((sOf_ne _ _ (by decide)).trans ((sOf_ne _ _ (by decide)).trans (((hG_23.1 84 (by decide))).trans (((hG_21.1 84 (by decide))).trans (((hG_10.1 84 (by decide))).trans (((hG_7.1 84 (by decide))).trans (((hG_4.1 84 (by decide))).trans (hG_1.1 84 (by decide))))))))))) rfl rfl) hF_64 (by decide) (by decide)
                  refine TT_vret hK hQ ?_ dX12_wake_237
                  have e70_73_32 : (setO g225_64 84 (fup (h 84) (64 * ((h 73) 26) + 8 * y + x) x236_68)) 73 32 = (g140_21 73) 32 := (congrFun ((sOf_ne _ _ (by decide)).trans (hG_64.1 73 (by decide))) 32).trans ((congrFun (hG_63.1 73 (by decide)) 32).trans (congrFun ((sOf_ne _ _ (by decide)).trans ((sOf_ne _ _ (by decide)).trans (hG_23.1 73 (by decide)))) 32))
                  have e71_73_34 : (setO g225_64 84 (fup (h 84) (64 * ((h 73) 26) + 8 * y + x) x236_68)) 73 34 = (g140_21 73) 34 := (congrFun ((sOf_ne _ _ (by decide)).trans (hG_64.1 73 (by decide))) 34).trans ((congrFun (hG_63.1 73 (by decide)) 34).trans (congrFun ((sOf_ne _ _ (by decide)).trans ((sOf_ne _ _ (by decide)).trans (hG_23.1 73 (by decide)))) 34))
                  have e72_73_36 : (setO g225_64 84 (fup (h 84) (64 * ((h 73) 26) + 8 * y + x) x236_68)) 73 36 = (g140_21 73) 36 := (congrFun ((sOf_ne _ _ (by decide)).trans (hG_64.1 73 (by decide))) 36).trans ((congrFun (hG_63.1 73 (by decide)) 36).trans (congrFun ((sOf_ne _ _ (by decide)).trans ((sOf_ne _ _ (by decide)).trans (hG_23.1 73 (by decide)))) 36))
                  have e73_96 : (setO g225_64 84 (fup (h 84) (64 * ((h 73) 26) + 8 * y + x) x236_68)) 96 = g140_21 96 := (sOf_ne _ _ (by decide)).trans (((hG_64.1 96 (by decide))).trans (((hG_63.1 96 (by decide))).trans ((sOf_ne _ _ (by decide)).trans ((sOf_ne _ _ (by decide)).trans (hG_23.1 96 (by decide))))))
                  have e74_93 : (setO g225_64 84 (fup (h 84) (64 * ((h 73) 26) + 8 * y + x) x236_68)) 93 = fup (h 93) (10 * y + x + 11) (-1) := (sOf_ne _ _ (by decide)).trans (((hG_64.1 93 (by decide))).trans (((hG_63.1 93 (by decide))).trans (sOf_eq _ _ _)))
                  have e75_84 : (setO g225_64 84 (fup (h 84) (64 * ((h 73) 26) + 8 * y + x) x236_68)) 84 = fup (h 84) (64 * ((h 73) 26) + 8 * y + x) x236_68 := sOf_eq _ _ _
                  have e76_85 : (setO g225_64 84 (fup (h 84) (64 * ((h 73) 26) + 8 * y + x) x236_68)) 85 = fup (h 85) (64 * ((h 73) 26) + 8 * y + x) 1 := (sOf_ne _ _ (by decide)).trans (((hG_64.1 85 (by decide))).trans (((hG_63.1 85 (by decide))).trans ((sOf_ne _ _ (by decide)).trans (sOf_eq _ _ _))))
                  exact ⟨⟨hT_69, hF_69⟩, rfl, (by rewrite [e70_73_32]; omega), (by rewrite [e71_73_34, e72_73_36, e73_96]; omega), (by rewrite [e74_93]; intro w e h1 h2 h3 h4 h5; exact ZC_up ⟨hx.1, h1⟩ h2 ⟨hy.1, h3⟩ h4 h5 (by decide)), (by rewrite [e75_84, e76_85]; intro j hj; exact ⟨(by first | rfl | exact fup_ne _ _ (by omega)), (by by_cases e : j = 64 * (h 73 26) + 8 * y + x; (rw [e, fup_eq]; omega); exact fup_ne _ _ e)⟩)⟩
          · exfalso; omega
        · refine TT_iconst hK dX12_wake_131 ?_
          refine TT_iload hK 0 rfl dX12_wake_132 ?_
          refine TT_isub hK dX12_wake_134 ?_
          refine TT_goto hK (tgt := 140) dX12_wake_135 (by decide) ?_
          have e77_74 : g109_10 74 = h 74 := ((hG_10.1 74 (by decide))).trans (((hG_7.1 74 (by decide))).trans (((hG_4.1 74 (by decide))).trans (hG_1.1 74 (by decide))))
          have e78_75 : g109_10 75 = h 75 := ((hG_10.1 75 (by decide))).trans (((hG_7.1 75 (by decide))).trans (((hG_4.1 75 (by decide))).trans (hG_1.1 75 (by decide))))
          have e79_73_32 : g109_10 73 32 = (h 73) 32 := (congrFun (hG_10.1 73 (by decide)) 32).trans ((congrFun (hG_7.1 73 (by decide)) 32).trans ((congrFun (hG_4.1 73 (by decide)) 32).trans (congrFun (hG_1.1 73 (by decide)) 32)))
          have e80_73_29 : g109_10 73 29 = (h 73) 29 := (congrFun (hG_10.1 73 (by decide)) 29).trans ((congrFun (hG_7.1 73 (by decide)) 29).trans ((congrFun (hG_4.1 73 (by decide)) 29).trans (congrFun (hG_1.1 73 (by decide)) 29)))
          have e81_73_34 : g109_10 73 34 = (h 73) 34 := (congrFun (hG_10.1 73 (by decide)) 34).trans ((congrFun (hG_7.1 73 (by decide)) 34).trans ((congrFun (hG_4.1 73 (by decide)) 34).trans (congrFun (hG_1.1 73 (by decide)) 34)))
          have e82_73_36 : g109_10 73 36 = (h 73) 36 := (congrFun (hG_10.1 73 (by decide)) 36).trans ((congrFun (hG_7.1 73 (by decide)) 36).trans ((congrFun (hG_4.1 73 (by decide)) 36).trans (congrFun (hG_1.1 73 (by decide)) 36)))
          have e83_96 : g109_10 96 = h 96 := ((hG_10.1 96 (by decide))).trans (((hG_7.1 96 (by decide))).trans (((hG_4.1 96 (by decide))).trans (hG_1.1 96 (by decide))))
          refine iv_X12_258 hK (s_code_k cx (1 - 0) g109_10 hT_10 (by first | omega | (simp [up, setR] <;> omega)) (by first | omega | (simp [up, setR] <;> omega)) (by rewrite [e77_74, e78_75]; first | assumption | exact htb) (by rewrite [e79_73_32]; first | omega | (simp [up, setR] <;> omega)) (by rewrite [e80_73_29, e81_73_34, e82_73_36, e83_96]; first | omega | (simp [up, setR] <;> omega))) (by decide) rfl ⟨by decide, by decide⟩ (by decide) rfl rfl (Nat.le_of_ble_eq_true rfl) ⟨by decide, by decide⟩ dX12_wake_140 ?_
          intro r9 g140_84 hp9
          obtain ⟨⟨hT_84, hG_84⟩, z140_84, hr9, hz_84, pa_84, pm_84, pc_84⟩ := hp9
          rw [hr9]
          have hF_84 : FRM [73, 84, 85, 93, 96, 97, 98] [28, 32, 33, 34, 36, 39] h g140_84 := FRM_tr hF_10 hG_84 (by decide) (by decide)
          rw [show g109_10 73 29 = (h 73) 29 from (congrFun (hG_10.1 73 (by decide)) 29).trans ((congrFun (hG_7.1 73 (by decide)) 29).trans ((congrFun (hG_4.1 73 (by decide)) 29).trans (congrFun (hG_1.1 73 (by decide)) 29)))] at pm_84
          rw [show g109_10 73 34 = (h 73) 34 from (congrFun (hG_10.1 73 (by decide)) 34).trans ((congrFun (hG_7.1 73 (by decide)) 34).trans ((congrFun (hG_4.1 73 (by decide)) 34).trans (congrFun (hG_1.1 73 (by decide)) 34)))] at pm_84
          rw [show g109_10 73 36 = (h 73) 36 from (congrFun (hG_10.1 73 (by decide)) 36).trans ((congrFun (hG_7.1 73 (by decide)) 36).trans ((congrFun (hG_4.1 73 (by decide)) 36).trans (congrFun (hG_1.1 73 (by decide)) 36)))] at pm_84
          rw [show g109_10 96 = h 96 from ((hG_10.1 96 (by decide))).trans (((hG_7.1 96 (by decide))).trans (((hG_4.1 96 (by decide))).trans (hG_1.1 96 (by decide))))] at pm_84
          rw [show g109_10 73 29 = (h 73) 29 from (congrFun (hG_10.1 73 (by decide)) 29).trans ((congrFun (hG_7.1 73 (by decide)) 29).trans ((congrFun (hG_4.1 73 (by decide)) 29).trans (congrFun (hG_1.1 73 (by decide)) 29)))] at pc_84
          show TT K ly 0 0 143 [(8, vI 0), (0, vR 73), (1, vI x), (2, vI y), (3, vI (10 * y + x + 11)), (4, vI a), (5, vI b), (6, vI t9), (7, vI cx)] [vI z140_84] g140_84
          refine TT_istore hK (lv' := [(9, vI z140_84), (8, vI 0), (0, vR 73), (1, vI x), (2, vI y), (3, vI (10 * y + x + 11)), (4, vI a), (5, vI b), (6, vI t9), (7, vI cx)]) (by decide) rfl dX12_wake_143 ?_
          refine TT_iload hK 8 rfl dX12_wake_145 ?_
          refine TT_if_eq hK (tgt := 157) (irm (by omega) (by omega)) dX12_wake_147 (by decide) (fun hb147_85 => ?_) (fun hb147_85 => ?_)
          · exfalso; omega
          · refine TT_iconst hK dX12_wake_150 ?_
            refine TT_iload hK 0 rfl dX12_wake_151 ?_
            refine TT_isub hK dX12_wake_153 ?_
            refine TT_goto hK (tgt := 159) dX12_wake_154 (by decide) ?_
            refine TT_istore hK (lv' := [(8, vI (1 - z140_84)), (9, vI z140_84), (0, vR 73), (1, vI x), (2, vI y), (3, vI (10 * y + x + 11)), (4, vI a), (5, vI b), (6, vI t9), (7, vI cx)]) (by decide) rfl dX12_wake_159 ?_
            refine TT_aload_n hK rfl 2 rfl dX12_wake_161 ?_
            refine gf_X12_50 hK (by decide) rfl (q := 85) rfl rfl dX12_wake_162 ?_
            refine TT_aload_n hK rfl 2 rfl dX12_wake_165 ?_
            refine TT_iload_n hK rfl 3 rfl dX12_wake_166 ?_
            refine TT_iload_n hK rfl 4 rfl dX12_wake_167 ?_
            refine iv_X12_249 hK (s_X12_cell_73 x y g140_84 hT_84 (by first | omega | (simp [up, setR] <;> omega)) (by first | omega | (simp [up, setR] <;> omega))) (by decide) rfl ⟨by decide, by decide⟩ (by decide) rfl rfl (Nat.le_of_ble_eq_true rfl) ⟨by decide, by decide⟩ dX12_wake_168 ?_
            intro r9 g168_86 hp9
            obtain ⟨⟨hT_86, hG_86⟩, z168_86, hr9, hz_86, p1_86⟩ := hp9
            rw [hr9]
            have hF_86 : FRM [73, 84, 85, 93, 96, 97, 98] [28, 32, 33, 34, 36, 39] h g168_86 := FRM_tr hF_84 hG_86 (by decide) (by decide)
            rw [show g140_84 73 26 = (h 73) 26 from ((hG_84.2 26 (by decide))).trans ((congrFun (hG_10.1 73 (by decide)) 26).trans ((congrFun (hG_7.1 73 (by decide)) 26).trans ((congrFun (hG_4.1 73 (by decide)) 26).trans (congrFun (hG_1.1 73 (by decide)) 26))))] at p1_86
            show TT K ly 0 0 171 [(8, vI (1 - z140_84)), (9, vI z140_84), (0, vR 73), (1, vI x), (2, vI y), (3, vI (10 * y + x + 11)), (4, vI a), (5, vI b), (6, vI t9), (7, vI cx)] [vI z168_86, vR 85] g168_86
            refine TT_cgI (b := 64 * ((h 73) 26) + 8 * y + x) (by omega) ?_
            refine TT_iload hK 0 rfl dX12_wake_171 ?_
            refine TT_iconst hK dX12_wake_173 ?_
            refine TT_icmp_ne hK (tgt := 181) (irm (by omega) (by omega)) (by decide) dX12_wake_174 (by decide) (fun hb174_87 => ?_) (fun hb174_87 => ?_)
            · refine TT_iconst hK dX12_wake_181 ?_
              refine TT_zast hK (o := 85) (n := 1280) (by decide) rfl (by omega) (by omega) (by first | decide | omega) dX12_wake_182 ?_
              refine TT_hp (h' := setO g168_86 85 (fup (h 85) (64 * ((h 73) 26) + 8 * y + x) 0)) (up_can (((hG_86.1 85 (by decide))).trans (((hG_84.1 85 (by decide))).trans (((hG_10.1 85 (by decide))).trans (((hG_7.1 85 (by decide))).trans (((hG_4.1 85 (by decide))).trans (hG_1.1 85 (by decide))))))) rfl rfl) ?_
              have hT_88 : TY (setO g168_86 85 (fup (h 85) (64 * ((h 73) 26) + 8 * y + x) 0)) := tu_85 hT_86 (show up g168_86 85 (64 * ((h 73) 26) + 8 * y + x) 0 = (setO g168_86 85 (fup (h 85) (64 * ((h 73) 26) + 8 * y + x) 0)) from up_can (((hG_86.1 85 (by decide))).trans (((hG_84.1 85 (by decide))).trans (((hG_10.1 85 (by decide))).trans (((hG_7.1 85 (by decide))).trans (((hG_4.1 85 (by decide))).trans (hG_1.1 85 (by decide))))))) rfl rfl) (by omega)
              have hF_88 : FRM [73, 84, 85, 93, 96, 97, 98] [28, 32, 33, 34, 36, 39] h (setO g168_86 85 (fup (h 85) (64 * ((h 73) 26) + 8 * y + x) 0)) := FRM_up (show up g168_86 85 (64 * ((h 73) 26) + 8 * y + x) 0 = (setO g168_86 85 (fup (h 85) (64 * ((h 73) 26) + 8 * y + x) 0)) from up_can (((hG_86.1 85 (by decide))).trans (((hG_84.1 85 (by decide))).trans (((hG_10.1 85 (by decide))).trans (((hG_7.1 85 (by decide))).trans (((hG_4.1 85 (by decide))).trans (hG_1.1 85 (by decide))))))) rfl rfl) hF_86 (by decide) (by decide)
              refine TT_aload_n hK rfl 2 rfl dX12_wake_183 ?_
              refine gf_X12_75 hK (by decide) rfl (q := 93) rfl rfl dX12_wake_184 ?_
              refine TT_iload_n hK rfl 5 rfl dX12_wake_187 ?_
              refine TT_iload hK 0 rfl dX12_wake_188 ?_
              refine TT_iconst hK dX12_wake_190 ?_
              refine TT_icmp_ne hK (tgt := 198) (irm (by omega) (by omega)) (by decide) dX12_wake_191 (by decide) (fun hb191_89 => ?_) (fun hb191_89 => ?_)
              · refine TT_iconst hK dX12_wake_198 ?_
                refine TT_iast hK (o := 93) (n := 100) (by decide) rfl (by omega) (by omega) dX12_wake_199 ?_
                refine TT_hp (h' := setO (setO g168_86 85 (fup (h 85) (64 * ((h 73) 26) + 8 * y + x) 0)) 93 (fup (h 93) (10 * y + x + 11) 1)) (up_can ((sOf_ne _ _ (by decide)).trans (((hG_86.1 93 (by decide))).trans (((hG_84.1 93 (by decide))).trans (((hG_10.1 93 (by decide))).trans (((hG_7.1 93 (by decide))).trans (((hG_4.1 93 (by decide))).trans (hG_1.1 93 (by decide)))))))) rfl rfl) ?_
                have hT_90 : TY (setO (setO g168_86 85 (fup (h 85) (64 * ((h 73) 26) + 8 * y + x) 0)) 93 (fup (h 93) (10 * y + x + 11) 1)) := tu_93 hT_88 (show up (setO g168_86 85 (fup (h 85) (64 * ((h 73) 26) + 8 * y + x) 0)) 93 (10 * y + x + 11) 1 = (setO (setO g168_86 85 (fup (h 85) (64 * ((h 73) 26) + 8 * y + x) 0)) 93 (fup (h 93) (10 * y + x + 11) 1)) from up_can ((sOf_ne _ _ (by decide)).trans (((hG_86.1 93 (by decide))).trans (((hG_84.1 93 (by decide))).trans (((hG_10.1 93 (by decide))).trans (((hG_7.1 93 (by decide))).trans (((hG_4.1 93 (by decide))).trans (hG_1.1 93 (by decide)))))))) rfl rfl) (by omega)
                have hF_90 : FRM [73, 84, 85, 93, 96, 97, 98] [28, 32, 33, 34, 36, 39] h (setO (setO g168_86 85 (fup (h 85) (64 * ((h 73) 26) + 8 * y + x) 0)) 93 (fup (h 93) (10 * y + x + 11) 1)) := FRM_up (show up (setO g168_86 85 (fup (h 85) (64 * ((h 73) 26) + 8 * y + x) 0)) 93 (10 * y + x + 11) 1 = (setO (setO g168_86 85 (fup (h 85) (64 * ((h 73) 26) + 8 * y + x) 0)) 93 (fup (h 93) (10 * y + x + 11) 1)) from up_can ((sOf_ne _ _ (by decide)).trans (((hG_86.1 93 (by decide))).trans (((hG_84.1 93 (by decide))).trans (((hG_10.1 93 (by decide))).trans (((hG_7.1 93 (by decide))).trans (((hG_4.1 93 (by decide))).trans (hG_1.1 93 (by decide)))))))) rfl rfl) hF_88 (by decide) (by decide)
                refine TT_aload_n hK rfl 2 rfl dX12_wake_200 ?_
                refine gf_X12_163 hK (by decide) rfl (v := (h 73) 29) ((congrFun ((sOf_ne _ _ (by decide)).trans ((sOf_ne _ _ (by decide)).trans (hG_86.1 73 (by decide)))) 29).trans (((hG_84.2 29 (by decide))).trans ((congrFun (hG_10.1 73 (by decide)) 29).trans ((congrFun (hG_7.1 73 (by decide)) 29).trans ((congrFun (hG_4.1 73 (by decide)) 29).trans (congrFun (hG_1.1 73 (by decide)) 29)))))) dX12_wake_201 ?_
                have r91 := ty_73_29 (v := (h 73) 29) hT_90 ((congrFun ((sOf_ne _ _ (by decide)).trans ((sOf_ne _ _ (by decide)).trans (hG_86.1 73 (by decide)))) 29).trans (((hG_84.2 29 (by decide))).trans ((congrFun (hG_10.1 73 (by decide)) 29).trans ((congrFun (hG_7.1 73 (by decide)) 29).trans ((congrFun (hG_4.1 73 (by decide)) 29).trans (congrFun (hG_1.1 73 (by decide)) 29))))))
                refine TT_iconst hK dX12_wake_204 ?_
                refine TT_icmp_ne hK (tgt := 237) (irm (by omega) (by omega)) (by decide) dX12_wake_205 (by decide) (fun hb205_92 => ?_) (fun hb205_92 => ?_)
                · refine TT_vret hK hQ ?_ dX12_wake_237
                  have e93_73_32 : (setO (setO g168_86 85 (fup (h 85) (64 * ((h 73) 26) + 8 * y + x) 0)) 93 (fup (h 93) (10 * y + x + 11) 1)) 73 32 = (g140_84 73) 32 := congrFun ((sOf_ne _ _ (by decide)).trans ((sOf_ne _ _ (by decide)).trans (hG_86.1 73 (by decide)))) 32
                  have e94_73_34 : (setO (setO g168_86 85 (fup (h 85) (64 * ((h 73) 26) + 8 * y + x) 0)) 93 (fup (h 93) (10 * y + x + 11) 1)) 73 34 = (g140_84 73) 34 := congrFun ((sOf_ne _ _ (by decide)).trans ((sOf_ne _ _ (by decide)).trans (hG_86.1 73 (by decide)))) 34
                  have e95_73_36 : (setO (setO g168_86 85 (fup (h 85) (64 * ((h 73) 26) + 8 * y + x) 0)) 93 (fup (h 93) (10 * y + x + 11) 1)) 73 36 = (g140_84 73) 36 := congrFun ((sOf_ne _ _ (by decide)).trans ((sOf_ne _ _ (by decide)).trans (hG_86.1 73 (by decide)))) 36
                  have e96_96 : (setO (setO g168_86 85 (fup (h 85) (64 * ((h 73) 26) + 8 * y + x) 0)) 93 (fup (h 93) (10 * y + x + 11) 1)) 96 = g140_84 96 := (sOf_ne _ _ (by decide)).trans ((sOf_ne _ _ (by decide)).trans (hG_86.1 96 (by decide)))
                  have e97_93 : (setO (setO g168_86 85 (fup (h 85) (64 * ((h 73) 26) + 8 * y + x) 0)) 93 (fup (h 93) (10 * y + x + 11) 1)) 93 = fup (h 93) (10 * y + x + 11) 1 := sOf_eq _ _ _
                  have e98_84 : (setO (setO g168_86 85 (fup (h 85) (64 * ((h 73) 26) + 8 * y + x) 0)) 93 (fup (h 93) (10 * y + x + 11) 1)) 84 = h 84 := (sOf_ne _ _ (by decide)).trans ((sOf_ne _ _ (by decide)).trans (((hG_86.1 84 (by decide))).trans (((hG_84.1 84 (by decide))).trans (((hG_10.1 84 (by decide))).trans (((hG_7.1 84 (by decide))).trans (((hG_4.1 84 (by decide))).trans (hG_1.1 84 (by decide))))))))
                  have e99_85 : (setO (setO g168_86 85 (fup (h 85) (64 * ((h 73) 26) + 8 * y + x) 0)) 93 (fup (h 93) (10 * y + x + 11) 1)) 85 = fup (h 85) (64 * ((h 73) 26) + 8 * y + x) 0 := (sOf_ne _ _ (by decide)).trans (sOf_eq _ _ _)
                  exact ⟨⟨hT_90, hF_90⟩, rfl, (by rewrite [e93_73_32]; omega), (by rewrite [e94_73_34, e95_73_36, e96_96]; omega), (by rewrite [e97_93]; intro w e h1 h2 h3 h4 h5; exact ZC_up ⟨hx.1, h1⟩ h2 ⟨hy.1, h3⟩ h4 h5 (by decide)), (by rewrite [e98_84, e99_85]; intro j hj; exact ⟨(by first | rfl | exact fup_ne _ _ (by omega)), (by by_cases e : j = 64 * (h 73 26) + 8 * y + x; (rw [e, fup_eq]; omega); exact fup_ne _ _ e)⟩)⟩
                · refine TT_aload_n hK rfl 2 rfl dX12_wake_208 ?_
                  refine gf_X12_47 hK (by decide) rfl (q := 84) rfl rfl dX12_wake_209 ?_
                  refine TT_aload_n hK rfl 2 rfl dX12_wake_212 ?_
                  refine TT_iload_n hK rfl 3 rfl dX12_wake_213 ?_
                  refine TT_iload_n hK rfl 4 rfl dX12_wake_214 ?_
                  refine iv_X12_249 hK (s_X12_cell_73 x y (setO (setO g168_86 85 (fup (h 85) (64 * ((h 73) 26) + 8 * y + x) 0)) 93 (fup (h 93) (10 * y + x + 11) 1)) hT_90 (by first | omega | (simp [up, setR] <;> omega)) (by first | omega | (simp [up, setR] <;> omega))) (by decide) rfl ⟨by decide, by decide⟩ (by decide) rfl rfl (Nat.le_of_ble_eq_true rfl) ⟨by decide, by decide⟩ dX12_wake_215 ?_
                  intro r9 g215_100 hp9
                  obtain ⟨⟨hT_100, hG_100⟩, z215_100, hr9, hz_100, p1_100⟩ := hp9
                  rw [hr9]
                  have hF_100 : FRM [73, 84, 85, 93, 96, 97, 98] [28, 32, 33, 34, 36, 39] h g215_100 := FRM_tr hF_90 hG_100 (by decide) (by decide)
                  rw [show (setO (setO g168_86 85 (fup (h 85) (64 * ((h 73) 26) + 8 * y + x) 0)) 93 (fup (h 93) (10 * y + x + 11) 1)) 73 26 = (h 73) 26 from (congrFun ((sOf_ne _ _ (by decide)).trans ((sOf_ne _ _ (by decide)).trans (hG_86.1 73 (by decide)))) 26).trans (((hG_84.2 26 (by decide))).trans ((congrFun (hG_10.1 73 (by decide)) 26).trans ((congrFun (hG_7.1 73 (by decide)) 26).trans ((congrFun (hG_4.1 73 (by decide)) 26).trans (congrFun (hG_1.1 73 (by decide)) 26)))))] at p1_100
                  show TT K ly 0 0 218 [(8, vI (1 - z140_84)), (9, vI z140_84), (0, vR 73), (1, vI x), (2, vI y), (3, vI (10 * y + x + 11)), (4, vI a), (5, vI b), (6, vI t9), (7, vI cx)] [vI z215_100, vR 84] g215_100
                  refine TT_cgI (b := 64 * ((h 73) 26) + 8 * y + x) (by omega) ?_
                  refine TT_aload_n hK rfl 2 rfl dX12_wake_218 ?_
                  refine gf_X12_47 hK (by decide) rfl (q := 84) rfl rfl dX12_wake_219 ?_
                  refine TT_aload_n hK rfl 2 rfl dX12_wake_222 ?_
                  refine TT_iload_n hK rfl 3 rfl dX12_wake_223 ?_
                  refine TT_iload_n hK rfl 4 rfl dX12_wake_224 ?_
                  refine iv_X12_249 hK (s_X12_cell_73 x y g215_100 hT_100 (by first | omega | (simp [up, setR] <;> omega)) (by first | omega | (simp [up, setR] <;> omega))) (by decide) rfl ⟨by decide, by decide⟩ (by decide) rfl rfl (Nat.le_of_ble_eq_true rfl) ⟨by decide, by decide⟩ dX12_wake_225 ?_
                  intro r9 g225_101 hp9
                  obtain ⟨⟨hT_101, hG_101⟩, z225_101, hr9, hz_101, p1_101⟩ := hp9
                  rw [hr9]
                  have hF_101 : FRM [73, 84, 85, 93, 96, 97, 98] [28, 32, 33, 34, 36, 39] h g225_101 := FRM_tr hF_100 hG_101 (by decide) (by decide)
                  rw [show g215_100 73 26 = (h 73) 26 from (congrFun (hG_100.1 73 (by decide)) 26).trans ((congrFun ((sOf_ne _ _ (by decide)).trans ((sOf_ne _ _ (by decide)).trans (hG_86.1 73 (by decide)))) 26).trans (((hG_84.2 26 (by decide))).trans ((congrFun (hG_10.1 73 (by decide)) 26).trans ((congrFun (hG_7.1 73 (by decide)) 26).trans ((congrFun (hG_4.1 73 (by decide)) 26).trans (congrFun (hG_1.1 73 (by decide)) 26))))))] at p1_101
                  show TT K ly 0 0 228 [(8, vI (1 - z140_84)), (9, vI z140_84), (0, vR 73), (1, vI x), (2, vI y), (3, vI (10 * y + x + 11)), (4, vI a), (5, vI b), (6, vI t9), (7, vI cx)] [vI z225_101, vR 84, vI (64 * ((h 73) 26) + 8 * y + x), vR 84] g225_101
                  refine TT_cgI (b := 64 * ((h 73) 26) + 8 * y + x) (by omega) ?_
                  refine TT_iald hK (o := 84) (n := 1280) (by decide) rfl (by first | omega | (simp [up, setR] <;> omega)) (by first | omega | (simp [up, setR] <;> omega)) (v := (h 84) (64 * ((h 73) 26) + 8 * y + x)) (rd_ (((hG_101.1 84 (by decide))).trans (((hG_100.1 84 (by decide))).trans ((sOf_ne _ _ (by decide)).trans ((sOf_ne _ _ (by decide)).trans (((hG_86.1 84 (by decide))).trans (((hG_84.1 84 (by decide))).trans (((hG_10.1 84 (by decide))).trans (((hG_7.1 84 (by decide))).trans (((hG_4.1 84 (by decide))).trans (hG_1.1 84 (by decide))))))))))) rfl) dX12_wake_228 ?_
                  have r102 := ty_84 (i := 64 * ((h 73) 26) + 8 * y + x) (v := (h 84) (64 * ((h 73) 26) + 8 * y + x)) hT_101 (rd_ (((hG_101.1 84 (by decide))).trans (((hG_100.1 84 (by decide))).trans ((sOf_ne _ _ (by decide)).trans ((sOf_ne _ _ (by decide)).trans (((hG_86.1 84 (by decide))).trans (((hG_84.1 84 (by decide))).trans (((hG_10.1 84 (by decide))).trans (((hG_7.1 84 (by decide))).trans (((hG_4.1 84 (by decide))).trans (hG_1.1 84 (by decide))))))))))) rfl) (by omega) (by omega)
                  refine TT_iconst hK dX12_wake_229 ?_
                  refine TT_aload_n hK rfl 2 rfl dX12_wake_230 ?_
                  refine gf_X12_252 hK (by decide) rfl (v := (h 73) 27) ((congrFun (hG_101.1 73 (by decide)) 27).trans ((congrFun (hG_100.1 73 (by decide)) 27).trans ((congrFun ((sOf_ne _ _ (by decide)).trans ((sOf_ne _ _ (by decide)).trans (hG_86.1 73 (by decide)))) 27).trans (((hG_84.2 27 (by decide))).trans ((congrFun (hG_10.1 73 (by decide)) 27).trans ((congrFun (hG_7.1 73 (by decide)) 27).trans ((congrFun (hG_4.1 73 (by decide)) 27).trans (congrFun (hG_1.1 73 (by decide)) 27)))))))) dX12_wake_231 ?_
                  have r103 := ty_73_27 (v := (h 73) 27) hT_101 ((congrFun (hG_101.1 73 (by decide)) 27).trans ((congrFun (hG_100.1 73 (by decide)) 27).trans ((congrFun ((sOf_ne _ _ (by decide)).trans ((sOf_ne _ _ (by decide)).trans (hG_86.1 73 (by decide)))) 27).trans (((hG_84.2 27 (by decide))).trans ((congrFun (hG_10.1 73 (by decide)) 27).trans ((congrFun (hG_7.1 73 (by decide)) 27).trans ((congrFun (hG_4.1 73 (by decide)) 27).trans (congrFun (hG_1.1 73 (by decide)) 27))))))))
                  refine TT_ishl_a hK dX12_wake_234 (fun x234_104 hx104 => ?_)
                  refine TT_ior hK dX12_wake_235 ?_
                  refine TT_w32 (fun x236_105 hx105 => ?_)
                  refine TT_iast hK (o := 84) (n := 1280) (by decide) rfl (by omega) (by omega) dX12_wake_236 ?_
                  refine TT_hp (h' := setO g225_101 84 (fup (h 84) (64 * ((h 73) 26) + 8 * y + x) x236_105)) (up_can (((hG_101.1 84 (by decide))).trans (((hG_100.1 84 (by decide))).trans ((sOf_ne _ _ (by decide)).trans ((sOf_ne _ _ (by decide)).trans (((hG_86.1 84 (by decide))).trans (((hG_84.1 84 (by decide))).trans (((hG_10.1 84 (by decide))).trans (((hG_7.1 84 (by decide))).trans (((hG_4.1 84 (by decide))).trans (hG_1.1 84 (by decide))))))))))) rfl rfl) ?_
                  have hT_106 : TY (setO g225_101 84 (fup (h 84) (64 * ((h 73) 26) + 8 * y + x) x236_105)) := tu_84 hT_101 (show up g225_101 84 (64 * ((h 73) 26) + 8 * y + x) x236_105 = (setO g225_101 84 (fup (h 84) (64 * ((h 73) 26) + 8 * y + x) x236_105)) from up_can (((hG_101.1 84 (by decide))).trans (((hG_100.1 84 (by decide))).trans ((sOf_ne _ _ (by decide)).trans ((sOf_ne _ _ (by decide)).trans (((hG_86.1 84 (by decide))).trans (((hG_84.1 84 (by decide))).trans (((hG_10.1 84 (by decide))).trans (((hG_7.1 84 (by decide))).trans (((hG_4.1 84 (by decide))).trans (hG_1.1 84 (by decide))))))))))) rfl rfl) (by omega)
                  have hF_106 : FRM [73, 84, 85, 93, 96, 97, 98] [28, 32, 33, 34, 36, 39] h (setO g225_101 84 (fup (h 84) (64 * ((h 73) 26) + 8 * y + x) x236_105)) := FRM_up (show up g225_101 84 (64 * ((h 73) 26) + 8 * y + x) x236_105 = (setO g225_101 84 (fup (h 84) (64 * ((h 73) 26) + 8 * y + x) x236_105)) from up_can (((hG_101.1 84 (by decide))).trans (((hG_100.1 84 (by decide))).trans ((sOf_ne _ _ (by decide)).trans ((sOf_ne _ _ (by decide)).trans (((hG_86.1 84 (by decide))).trans (((hG_84.1 84 (by decide))).trans (((hG_10.1 84 (by decide))).trans (((hG_7.1 84 (by decide))).trans (((hG_4.1 84 (by decide))).trans (hG_1.1 84 (by decide))))))))))) rfl rfl) hF_101 (by decide) (by decide)
                  refine TT_vret hK hQ ?_ dX12_wake_237
                  have e107_73_32 : (setO g225_101 84 (fup (h 84) (64 * ((h 73) 26) + 8 * y + x) x236_105)) 73 32 = (g140_84 73) 32 := (congrFun ((sOf_ne _ _ (by decide)).trans (hG_101.1 73 (by decide))) 32).trans ((congrFun (hG_100.1 73 (by decide)) 32).trans (congrFun ((sOf_ne _ _ (by decide)).trans ((sOf_ne _ _ (by decide)).trans (hG_86.1 73 (by decide)))) 32))
                  have e108_73_34 : (setO g225_101 84 (fup (h 84) (64 * ((h 73) 26) + 8 * y + x) x236_105)) 73 34 = (g140_84 73) 34 := (congrFun ((sOf_ne _ _ (by decide)).trans (hG_101.1 73 (by decide))) 34).trans ((congrFun (hG_100.1 73 (by decide)) 34).trans (congrFun ((sOf_ne _ _ (by decide)).trans ((sOf_ne _ _ (by decide)).trans (hG_86.1 73 (by decide)))) 34))
                  have e109_73_36 : (setO g225_101 84 (fup (h 84) (64 * ((h 73) 26) + 8 * y + x) x236_105)) 73 36 = (g140_84 73) 36 := (congrFun ((sOf_ne _ _ (by decide)).trans (hG_101.1 73 (by decide))) 36).trans ((congrFun (hG_100.1 73 (by decide)) 36).trans (congrFun ((sOf_ne _ _ (by decide)).trans ((sOf_ne _ _ (by decide)).trans (hG_86.1 73 (by decide)))) 36))
                  have e110_96 : (setO g225_101 84 (fup (h 84) (64 * ((h 73) 26) + 8 * y + x) x236_105)) 96 = g140_84 96 := (sOf_ne _ _ (by decide)).trans (((hG_101.1 96 (by decide))).trans (((hG_100.1 96 (by decide))).trans ((sOf_ne _ _ (by decide)).trans ((sOf_ne _ _ (by decide)).trans (hG_86.1 96 (by decide))))))
                  have e111_93 : (setO g225_101 84 (fup (h 84) (64 * ((h 73) 26) + 8 * y + x) x236_105)) 93 = fup (h 93) (10 * y + x + 11) 1 := (sOf_ne _ _ (by decide)).trans (((hG_101.1 93 (by decide))).trans (((hG_100.1 93 (by decide))).trans (sOf_eq _ _ _)))
                  have e112_84 : (setO g225_101 84 (fup (h 84) (64 * ((h 73) 26) + 8 * y + x) x236_105)) 84 = fup (h 84) (64 * ((h 73) 26) + 8 * y + x) x236_105 := sOf_eq _ _ _
                  have e113_85 : (setO g225_101 84 (fup (h 84) (64 * ((h 73) 26) + 8 * y + x) x236_105)) 85 = fup (h 85) (64 * ((h 73) 26) + 8 * y + x) 0 := (sOf_ne _ _ (by decide)).trans (((hG_101.1 85 (by decide))).trans (((hG_100.1 85 (by decide))).trans ((sOf_ne _ _ (by decide)).trans (sOf_eq _ _ _))))
                  exact ⟨⟨hT_106, hF_106⟩, rfl, (by rewrite [e107_73_32]; omega), (by rewrite [e108_73_34, e109_73_36, e110_96]; omega), (by rewrite [e111_93]; intro w e h1 h2 h3 h4 h5; exact ZC_up ⟨hx.1, h1⟩ h2 ⟨hy.1, h3⟩ h4 h5 (by decide)), (by rewrite [e112_84, e113_85]; intro j hj; exact ⟨(by first | rfl | exact fup_ne _ _ (by omega)), (by by_cases e : j = 64 * (h 73 26) + 8 * y + x; (rw [e, fup_eq]; omega); exact fup_ne _ _ e)⟩)⟩
              · exfalso; omega
            · refine TT_iconst hK dX12_wake_177 ?_
              refine TT_goto hK (tgt := 182) dX12_wake_178 (by decide) ?_
              refine TT_zast hK (o := 85) (n := 1280) (by decide) rfl (by omega) (by omega) (by first | decide | omega) dX12_wake_182 ?_
              refine TT_hp (h' := setO g168_86 85 (fup (h 85) (64 * ((h 73) 26) + 8 * y + x) 1)) (up_can (((hG_86.1 85 (by decide))).trans (((hG_84.1 85 (by decide))).trans (((hG_10.1 85 (by decide))).trans (((hG_7.1 85 (by decide))).trans (((hG_4.1 85 (by decide))).trans (hG_1.1 85 (by decide))))))) rfl rfl) ?_
              have hT_114 : TY (setO g168_86 85 (fup (h 85) (64 * ((h 73) 26) + 8 * y + x) 1)) := tu_85 hT_86 (show up g168_86 85 (64 * ((h 73) 26) + 8 * y + x) 1 = (setO g168_86 85 (fup (h 85) (64 * ((h 73) 26) + 8 * y + x) 1)) from up_can (((hG_86.1 85 (by decide))).trans (((hG_84.1 85 (by decide))).trans (((hG_10.1 85 (by decide))).trans (((hG_7.1 85 (by decide))).trans (((hG_4.1 85 (by decide))).trans (hG_1.1 85 (by decide))))))) rfl rfl) (by omega)
              have hF_114 : FRM [73, 84, 85, 93, 96, 97, 98] [28, 32, 33, 34, 36, 39] h (setO g168_86 85 (fup (h 85) (64 * ((h 73) 26) + 8 * y + x) 1)) := FRM_up (show up g168_86 85 (64 * ((h 73) 26) + 8 * y + x) 1 = (setO g168_86 85 (fup (h 85) (64 * ((h 73) 26) + 8 * y + x) 1)) from up_can (((hG_86.1 85 (by decide))).trans (((hG_84.1 85 (by decide))).trans (((hG_10.1 85 (by decide))).trans (((hG_7.1 85 (by decide))).trans (((hG_4.1 85 (by decide))).trans (hG_1.1 85 (by decide))))))) rfl rfl) hF_86 (by decide) (by decide)
              refine TT_aload_n hK rfl 2 rfl dX12_wake_183 ?_
              refine gf_X12_75 hK (by decide) rfl (q := 93) rfl rfl dX12_wake_184 ?_
              refine TT_iload_n hK rfl 5 rfl dX12_wake_187 ?_
              refine TT_iload hK 0 rfl dX12_wake_188 ?_
              refine TT_iconst hK dX12_wake_190 ?_
              refine TT_icmp_ne hK (tgt := 198) (irm (by omega) (by omega)) (by decide) dX12_wake_191 (by decide) (fun hb191_115 => ?_) (fun hb191_115 => ?_)
              · exfalso; omega
              · refine TT_iconst hK dX12_wake_194 ?_
                refine TT_goto hK (tgt := 199) dX12_wake_195 (by decide) ?_
                refine TT_iast hK (o := 93) (n := 100) (by decide) rfl (by omega) (by omega) dX12_wake_199 ?_
                refine TT_hp (h' := setO (setO g168_86 85 (fup (h 85) (64 * ((h 73) 26) + 8 * y + x) 1)) 93 (fup (h 93) (10 * y + x + 11) (-1))) (up_can ((sOf_ne _ _ (by decide)).trans (((hG_86.1 93 (by decide))).trans (((hG_84.1 93 (by decide))).trans (((hG_10.1 93 (by decide))).trans (((hG_7.1 93 (by decide))).trans (((hG_4.1 93 (by decide))).trans (hG_1.1 93 (by decide)))))))) rfl rfl) ?_
                have hT_116 : TY (setO (setO g168_86 85 (fup (h 85) (64 * ((h 73) 26) + 8 * y + x) 1)) 93 (fup (h 93) (10 * y + x + 11) (-1))) := tu_93 hT_114 (show up (setO g168_86 85 (fup (h 85) (64 * ((h 73) 26) + 8 * y + x) 1)) 93 (10 * y + x + 11) (-1) = (setO (setO g168_86 85 (fup (h 85) (64 * ((h 73) 26) + 8 * y + x) 1)) 93 (fup (h 93) (10 * y + x + 11) (-1))) from up_can ((sOf_ne _ _ (by decide)).trans (((hG_86.1 93 (by decide))).trans (((hG_84.1 93 (by decide))).trans (((hG_10.1 93 (by decide))).trans (((hG_7.1 93 (by decide))).trans (((hG_4.1 93 (by decide))).trans (hG_1.1 93 (by decide)))))))) rfl rfl) (by omega)
                have hF_116 : FRM [73, 84, 85, 93, 96, 97, 98] [28, 32, 33, 34, 36, 39] h (setO (setO g168_86 85 (fup (h 85) (64 * ((h 73) 26) + 8 * y + x) 1)) 93 (fup (h 93) (10 * y + x + 11) (-1))) := FRM_up (show up (setO g168_86 85 (fup (h 85) (64 * ((h 73) 26) + 8 * y + x) 1)) 93 (10 * y + x + 11) (-1) = (setO (setO g168_86 85 (fup (h 85) (64 * ((h 73) 26) + 8 * y + x) 1)) 93 (fup (h 93) (10 * y + x + 11) (-1))) from up_can ((sOf_ne _ _ (by decide)).trans (((hG_86.1 93 (by decide))).trans (((hG_84.1 93 (by decide))).trans (((hG_10.1 93 (by decide))).trans (((hG_7.1 93 (by decide))).trans (((hG_4.1 93 (by decide))).trans (hG_1.1 93 (by decide)))))))) rfl rfl) hF_114 (by decide) (by decide)
                refine TT_aload_n hK rfl 2 rfl dX12_wake_200 ?_
                refine gf_X12_163 hK (by decide) rfl (v := (h 73) 29) ((congrFun ((sOf_ne _ _ (by decide)).trans ((sOf_ne _ _ (by decide)).trans (hG_86.1 73 (by decide)))) 29).trans (((hG_84.2 29 (by decide))).trans ((congrFun (hG_10.1 73 (by decide)) 29).trans ((congrFun (hG_7.1 73 (by decide)) 29).trans ((congrFun (hG_4.1 73 (by decide)) 29).trans (congrFun (hG_1.1 73 (by decide)) 29)))))) dX12_wake_201 ?_
                have r117 := ty_73_29 (v := (h 73) 29) hT_116 ((congrFun ((sOf_ne _ _ (by decide)).trans ((sOf_ne _ _ (by decide)).trans (hG_86.1 73 (by decide)))) 29).trans (((hG_84.2 29 (by decide))).trans ((congrFun (hG_10.1 73 (by decide)) 29).trans ((congrFun (hG_7.1 73 (by decide)) 29).trans ((congrFun (hG_4.1 73 (by decide)) 29).trans (congrFun (hG_1.1 73 (by decide)) 29))))))
                refine TT_iconst hK dX12_wake_204 ?_
                refine TT_icmp_ne hK (tgt := 237) (irm (by omega) (by omega)) (by decide) dX12_wake_205 (by decide) (fun hb205_118 => ?_) (fun hb205_118 => ?_)
                · refine TT_vret hK hQ ?_ dX12_wake_237
                  have e119_73_32 : (setO (setO g168_86 85 (fup (h 85) (64 * ((h 73) 26) + 8 * y + x) 1)) 93 (fup (h 93) (10 * y + x + 11) (-1))) 73 32 = (g140_84 73) 32 := congrFun ((sOf_ne _ _ (by decide)).trans ((sOf_ne _ _ (by decide)).trans (hG_86.1 73 (by decide)))) 32
                  have e120_73_34 : (setO (setO g168_86 85 (fup (h 85) (64 * ((h 73) 26) + 8 * y + x) 1)) 93 (fup (h 93) (10 * y + x + 11) (-1))) 73 34 = (g140_84 73) 34 := congrFun ((sOf_ne _ _ (by decide)).trans ((sOf_ne _ _ (by decide)).trans (hG_86.1 73 (by decide)))) 34
                  have e121_73_36 : (setO (setO g168_86 85 (fup (h 85) (64 * ((h 73) 26) + 8 * y + x) 1)) 93 (fup (h 93) (10 * y + x + 11) (-1))) 73 36 = (g140_84 73) 36 := congrFun ((sOf_ne _ _ (by decide)).trans ((sOf_ne _ _ (by decide)).trans (hG_86.1 73 (by decide)))) 36
                  have e122_96 : (setO (setO g168_86 85 (fup (h 85) (64 * ((h 73) 26) + 8 * y + x) 1)) 93 (fup (h 93) (10 * y + x + 11) (-1))) 96 = g140_84 96 := (sOf_ne _ _ (by decide)).trans ((sOf_ne _ _ (by decide)).trans (hG_86.1 96 (by decide)))
                  have e123_93 : (setO (setO g168_86 85 (fup (h 85) (64 * ((h 73) 26) + 8 * y + x) 1)) 93 (fup (h 93) (10 * y + x + 11) (-1))) 93 = fup (h 93) (10 * y + x + 11) (-1) := sOf_eq _ _ _
                  have e124_84 : (setO (setO g168_86 85 (fup (h 85) (64 * ((h 73) 26) + 8 * y + x) 1)) 93 (fup (h 93) (10 * y + x + 11) (-1))) 84 = h 84 := (sOf_ne _ _ (by decide)).trans ((sOf_ne _ _ (by decide)).trans (((hG_86.1 84 (by decide))).trans (((hG_84.1 84 (by decide))).trans (((hG_10.1 84 (by decide))).trans (((hG_7.1 84 (by decide))).trans (((hG_4.1 84 (by decide))).trans (hG_1.1 84 (by decide))))))))
                  have e125_85 : (setO (setO g168_86 85 (fup (h 85) (64 * ((h 73) 26) + 8 * y + x) 1)) 93 (fup (h 93) (10 * y + x + 11) (-1))) 85 = fup (h 85) (64 * ((h 73) 26) + 8 * y + x) 1 := (sOf_ne _ _ (by decide)).trans (sOf_eq _ _ _)
                  exact ⟨⟨hT_116, hF_116⟩, rfl, (by rewrite [e119_73_32]; omega), (by rewrite [e120_73_34, e121_73_36, e122_96]; omega), (by rewrite [e123_93]; intro w e h1 h2 h3 h4 h5; exact ZC_up ⟨hx.1, h1⟩ h2 ⟨hy.1, h3⟩ h4 h5 (by decide)), (by rewrite [e124_84, e125_85]; intro j hj; exact ⟨(by first | rfl | exact fup_ne _ _ (by omega)), (by by_cases e : j = 64 * (h 73 26) + 8 * y + x; (rw [e, fup_eq]; omega); exact fup_ne _ _ e)⟩)⟩
                · refine TT_aload_n hK rfl 2 rfl dX12_wake_208 ?_
                  refine gf_X12_47 hK (by decide) rfl (q := 84) rfl rfl dX12_wake_209 ?_
                  refine TT_aload_n hK rfl 2 rfl dX12_wake_212 ?_
                  refine TT_iload_n hK rfl 3 rfl dX12_wake_213 ?_
                  refine TT_iload_n hK rfl 4 rfl dX12_wake_214 ?_
                  refine iv_X12_249 hK (s_X12_cell_73 x y (setO (setO g168_86 85 (fup (h 85) (64 * ((h 73) 26) + 8 * y + x) 1)) 93 (fup (h 93) (10 * y + x + 11) (-1))) hT_116 (by first | omega | (simp [up, setR] <;> omega)) (by first | omega | (simp [up, setR] <;> omega))) (by decide) rfl ⟨by decide, by decide⟩ (by decide) rfl rfl (Nat.le_of_ble_eq_true rfl) ⟨by decide, by decide⟩ dX12_wake_215 ?_
                  intro r9 g215_126 hp9
                  obtain ⟨⟨hT_126, hG_126⟩, z215_126, hr9, hz_126, p1_126⟩ := hp9
                  rw [hr9]
                  have hF_126 : FRM [73, 84, 85, 93, 96, 97, 98] [28, 32, 33, 34, 36, 39] h g215_126 := FRM_tr hF_116 hG_126 (by decide) (by decide)
                  rw [show (setO (setO g168_86 85 (fup (h 85) (64 * ((h 73) 26) + 8 * y + x) 1)) 93 (fup (h 93) (10 * y + x + 11) (-1))) 73 26 = (h 73) 26 from (congrFun ((sOf_ne _ _ (by decide)).trans ((sOf_ne _ _ (by decide)).trans (hG_86.1 73 (by decide)))) 26).trans (((hG_84.2 26 (by decide))).trans ((congrFun (hG_10.1 73 (by decide)) 26).trans ((congrFun (hG_7.1 73 (by decide)) 26).trans ((congrFun (hG_4.1 73 (by decide)) 26).trans (congrFun (hG_1.1 73 (by decide)) 26)))))] at p1_126
                  show TT K ly 0 0 218 [(8, vI (1 - z140_84)), (9, vI z140_84), (0, vR 73), (1, vI x), (2, vI y), (3, vI (10 * y + x + 11)), (4, vI a), (5, vI b), (6, vI t9), (7, vI cx)] [vI z215_126, vR 84] g215_126
                  refine TT_cgI (b := 64 * ((h 73) 26) + 8 * y + x) (by omega) ?_
                  refine TT_aload_n hK rfl 2 rfl dX12_wake_218 ?_
                  refine gf_X12_47 hK (by decide) rfl (q := 84) rfl rfl dX12_wake_219 ?_
                  refine TT_aload_n hK rfl 2 rfl dX12_wake_222 ?_
                  refine TT_iload_n hK rfl 3 rfl dX12_wake_223 ?_
                  refine TT_iload_n hK rfl 4 rfl dX12_wake_224 ?_
                  refine iv_X12_249 hK (s_X12_cell_73 x y g215_126 hT_126 (by first | omega | (simp [up, setR] <;> omega)) (by first | omega | (simp [up, setR] <;> omega))) (by decide) rfl ⟨by decide, by decide⟩ (by decide) rfl rfl (Nat.le_of_ble_eq_true rfl) ⟨by decide, by decide⟩ dX12_wake_225 ?_
                  intro r9 g225_127 hp9
                  obtain ⟨⟨hT_127, hG_127⟩, z225_127, hr9, hz_127, p1_127⟩ := hp9
                  rw [hr9]
                  have hF_127 : FRM [73, 84, 85, 93, 96, 97, 98] [28, 32, 33, 34, 36, 39] h g225_127 := FRM_tr hF_126 hG_127 (by decide) (by decide)
                  rw [show g215_126 73 26 = (h 73) 26 from (congrFun (hG_126.1 73 (by decide)) 26).trans ((congrFun ((sOf_ne _ _ (by decide)).trans ((sOf_ne _ _ (by decide)).trans (hG_86.1 73 (by decide)))) 26).trans (((hG_84.2 26 (by decide))).trans ((congrFun (hG_10.1 73 (by decide)) 26).trans ((congrFun (hG_7.1 73 (by decide)) 26).trans ((congrFun (hG_4.1 73 (by decide)) 26).trans (congrFun (hG_1.1 73 (by decide)) 26))))))] at p1_127
                  show TT K ly 0 0 228 [(8, vI (1 - z140_84)), (9, vI z140_84), (0, vR 73), (1, vI x), (2, vI y), (3, vI (10 * y + x + 11)), (4, vI a), (5, vI b), (6, vI t9), (7, vI cx)] [vI z225_127, vR 84, vI (64 * ((h 73) 26) + 8 * y + x), vR 84] g225_127
                  refine TT_cgI (b := 64 * ((h 73) 26) + 8 * y + x) (by omega) ?_
                  refine TT_iald hK (o := 84) (n := 1280) (by decide) rfl (by first | omega | (simp [up, setR] <;> omega)) (by first | omega | (simp [up, setR] <;> omega)) (v := (h 84) (64 * ((h 73) 26) + 8 * y + x)) (rd_ (((hG_127.1 84 (by decide))).trans (((hG_126.1 84 (by decide))).trans ((sOf_ne _ _ (by decide)).trans ((sOf_ne _ _ (by decide)).trans (((hG_86.1 84 (by decide))).trans (((hG_84.1 84 (by decide))).trans (((hG_10.1 84 (by decide))).trans (((hG_7.1 84 (by decide))).trans (((hG_4.1 84 (by decide))).trans (hG_1.1 84 (by decide))))))))))) rfl) dX12_wake_228 ?_
                  have r128 := ty_84 (i := 64 * ((h 73) 26) + 8 * y + x) (v := (h 84) (64 * ((h 73) 26) + 8 * y + x)) hT_127 (rd_ (((hG_127.1 84 (by decide))).trans (((hG_126.1 84 (by decide))).trans ((sOf_ne _ _ (by decide)).trans ((sOf_ne _ _ (by decide)).trans (((hG_86.1 84 (by decide))).trans (((hG_84.1 84 (by decide))).trans (((hG_10.1 84 (by decide))).trans (((hG_7.1 84 (by decide))).trans (((hG_4.1 84 (by decide))).trans (hG_1.1 84 (by decide))))))))))) rfl) (by omega) (by omega)
                  refine TT_iconst hK dX12_wake_229 ?_
                  refine TT_aload_n hK rfl 2 rfl dX12_wake_230 ?_
                  refine gf_X12_252 hK (by decide) rfl (v := (h 73) 27) ((congrFun (hG_127.1 73 (by decide)) 27).trans ((congrFun (hG_126.1 73 (by decide)) 27).trans ((congrFun ((sOf_ne _ _ (by decide)).trans ((sOf_ne _ _ (by decide)).trans (hG_86.1 73 (by decide)))) 27).trans (((hG_84.2 27 (by decide))).trans ((congrFun (hG_10.1 73 (by decide)) 27).trans ((congrFun (hG_7.1 73 (by decide)) 27).trans ((congrFun (hG_4.1 73 (by decide)) 27).trans (congrFun (hG_1.1 73 (by decide)) 27)))))))) dX12_wake_231 ?_
                  have r129 := ty_73_27 (v := (h 73) 27) hT_127 ((congrFun (hG_127.1 73 (by decide)) 27).trans ((congrFun (hG_126.1 73 (by decide)) 27).trans ((congrFun ((sOf_ne _ _ (by decide)).trans ((sOf_ne _ _ (by decide)).trans (hG_86.1 73 (by decide)))) 27).trans (((hG_84.2 27 (by decide))).trans ((congrFun (hG_10.1 73 (by decide)) 27).trans ((congrFun (hG_7.1 73 (by decide)) 27).trans ((congrFun (hG_4.1 73 (by decide)) 27).trans (congrFun (hG_1.1 73 (by decide)) 27))))))))
                  refine TT_ishl_a hK dX12_wake_234 (fun x234_130 hx130 => ?_)
                  refine TT_ior hK dX12_wake_235 ?_
                  refine TT_w32 (fun x236_131 hx131 => ?_)
                  refine TT_iast hK (o := 84) (n := 1280) (by decide) rfl (by omega) (by omega) dX12_wake_236 ?_
                  refine TT_hp (h' := setO g225_127 84 (fup (h 84) (64 * ((h 73) 26) + 8 * y + x) x236_131)) (up_can (((hG_127.1 84 (by decide))).trans (((hG_126.1 84 (by decide))).trans ((sOf_ne _ _ (by decide)).trans ((sOf_ne _ _ (by decide)).trans (((hG_86.1 84 (by decide))).trans (((hG_84.1 84 (by decide))).trans (((hG_10.1 84 (by decide))).trans (((hG_7.1 84 (by decide))).trans (((hG_4.1 84 (by decide))).trans (hG_1.1 84 (by decide))))))))))) rfl rfl) ?_
                  have hT_132 : TY (setO g225_127 84 (fup (h 84) (64 * ((h 73) 26) + 8 * y + x) x236_131)) := tu_84 hT_127 (show up g225_127 84 (64 * ((h 73) 26) + 8 * y + x) x236_131 = (setO g225_127 84 (fup (h 84) (64 * ((h 73) 26) + 8 * y + x) x236_131)) from up_can (((hG_127.1 84 (by decide))).trans (((hG_126.1 84 (by decide))).trans ((sOf_ne _ _ (by decide)).trans ((sOf_ne _ _ (by decide)).trans (((hG_86.1 84 (by decide))).trans (((hG_84.1 84 (by decide))).trans (((hG_10.1 84 (by decide))).trans (((hG_7.1 84 (by decide))).trans (((hG_4.1 84 (by decide))).trans (hG_1.1 84 (by decide))))))))))) rfl rfl) (by omega)
                  have hF_132 : FRM [73, 84, 85, 93, 96, 97, 98] [28, 32, 33, 34, 36, 39] h (setO g225_127 84 (fup (h 84) (64 * ((h 73) 26) + 8 * y + x) x236_131)) := FRM_up (show up g225_127 84 (64 * ((h 73) 26) + 8 * y + x) x236_131 = (setO g225_127 84 (fup (h 84) (64 * ((h 73) 26) + 8 * y + x) x236_131)) from up_can (((hG_127.1 84 (by decide))).trans (((hG_126.1 84 (by decide))).trans ((sOf_ne _ _ (by decide)).trans ((sOf_ne _ _ (by decide)).trans (((hG_86.1 84 (by decide))).trans (((hG_84.1 84 (by decide))).trans (((hG_10.1 84 (by decide))).trans (((hG_7.1 84 (by decide))).trans (((hG_4.1 84 (by decide))).trans (hG_1.1 84 (by decide))))))))))) rfl rfl) hF_127 (by decide) (by decide)
                  refine TT_vret hK hQ ?_ dX12_wake_237
                  have e133_73_32 : (setO g225_127 84 (fup (h 84) (64 * ((h 73) 26) + 8 * y + x) x236_131)) 73 32 = (g140_84 73) 32 := (congrFun ((sOf_ne _ _ (by decide)).trans (hG_127.1 73 (by decide))) 32).trans ((congrFun (hG_126.1 73 (by decide)) 32).trans (congrFun ((sOf_ne _ _ (by decide)).trans ((sOf_ne _ _ (by decide)).trans (hG_86.1 73 (by decide)))) 32))
                  have e134_73_34 : (setO g225_127 84 (fup (h 84) (64 * ((h 73) 26) + 8 * y + x) x236_131)) 73 34 = (g140_84 73) 34 := (congrFun ((sOf_ne _ _ (by decide)).trans (hG_127.1 73 (by decide))) 34).trans ((congrFun (hG_126.1 73 (by decide)) 34).trans (congrFun ((sOf_ne _ _ (by decide)).trans ((sOf_ne _ _ (by decide)).trans (hG_86.1 73 (by decide)))) 34))
                  have e135_73_36 : (setO g225_127 84 (fup (h 84) (64 * ((h 73) 26) + 8 * y + x) x236_131)) 73 36 = (g140_84 73) 36 := (congrFun ((sOf_ne _ _ (by decide)).trans (hG_127.1 73 (by decide))) 36).trans ((congrFun (hG_126.1 73 (by decide)) 36).trans (congrFun ((sOf_ne _ _ (by decide)).trans ((sOf_ne _ _ (by decide)).trans (hG_86.1 73 (by decide)))) 36))
                  have e136_96 : (setO g225_127 84 (fup (h 84) (64 * ((h 73) 26) + 8 * y + x) x236_131)) 96 = g140_84 96 := (sOf_ne _ _ (by decide)).trans (((hG_127.1 96 (by decide))).trans (((hG_126.1 96 (by decide))).trans ((sOf_ne _ _ (by decide)).trans ((sOf_ne _ _ (by decide)).trans (hG_86.1 96 (by decide))))))
                  have e137_93 : (setO g225_127 84 (fup (h 84) (64 * ((h 73) 26) + 8 * y + x) x236_131)) 93 = fup (h 93) (10 * y + x + 11) (-1) := (sOf_ne _ _ (by decide)).trans (((hG_127.1 93 (by decide))).trans (((hG_126.1 93 (by decide))).trans (sOf_eq _ _ _)))
                  have e138_84 : (setO g225_127 84 (fup (h 84) (64 * ((h 73) 26) + 8 * y + x) x236_131)) 84 = fup (h 84) (64 * ((h 73) 26) + 8 * y + x) x236_131 := sOf_eq _ _ _
                  have e139_85 : (setO g225_127 84 (fup (h 84) (64 * ((h 73) 26) + 8 * y + x) x236_131)) 85 = fup (h 85) (64 * ((h 73) 26) + 8 * y + x) 1 := (sOf_ne _ _ (by decide)).trans (((hG_127.1 85 (by decide))).trans (((hG_126.1 85 (by decide))).trans ((sOf_ne _ _ (by decide)).trans (sOf_eq _ _ _))))
                  exact ⟨⟨hT_132, hF_132⟩, rfl, (by rewrite [e133_73_32]; omega), (by rewrite [e134_73_34, e135_73_36, e136_96]; omega), (by rewrite [e137_93]; intro w e h1 h2 h3 h4 h5; exact ZC_up ⟨hx.1, h1⟩ h2 ⟨hy.1, h3⟩ h4 h5 (by decide)), (by rewrite [e138_84, e139_85]; intro j hj; exact ⟨(by first | rfl | exact fup_ne _ _ (by omega)), (by by_cases e : j = 64 * (h 73 26) + 8 * y + x; (rw [e, fup_eq]; omega); exact fup_ne _ _ e)⟩)⟩
      · refine TT_iconst hK dX12_wake_116 ?_
        refine TT_goto hK (tgt := 121) dX12_wake_117 (by decide) ?_
        refine TT_istore hK (lv' := [(8, vI 1), (0, vR 73), (1, vI x), (2, vI y), (3, vI (10 * y + x + 11)), (4, vI a), (5, vI b), (6, vI t9), (7, vI cx)]) (by decide) rfl dX12_wake_121 ?_
        refine TT_aload_n hK rfl 1 rfl dX12_wake_123 ?_
        refine TT_iload hK 8 rfl dX12_wake_124 ?_
        refine TT_iload hK 7 rfl dX12_wake_126 ?_
        refine TT_if_eq hK (tgt := 138) (irm (by omega) (by omega)) dX12_wake_128 (by decide) (fun hb128_140 => ?_) (fun hb128_140 => ?_)
        · refine TT_iload hK 0 rfl dX12_wake_138 ?_
          have e141_74 : g109_10 74 = h 74 := ((hG_10.1 74 (by decide))).trans (((hG_7.1 74 (by decide))).trans (((hG_4.1 74 (by decide))).trans (hG_1.1 74 (by decide))))
          have e142_75 : g109_10 75 = h 75 := ((hG_10.1 75 (by decide))).trans (((hG_7.1 75 (by decide))).trans (((hG_4.1 75 (by decide))).trans (hG_1.1 75 (by decide))))
          have e143_73_32 : g109_10 73 32 = (h 73) 32 := (congrFun (hG_10.1 73 (by decide)) 32).trans ((congrFun (hG_7.1 73 (by decide)) 32).trans ((congrFun (hG_4.1 73 (by decide)) 32).trans (congrFun (hG_1.1 73 (by decide)) 32)))
          have e144_73_29 : g109_10 73 29 = (h 73) 29 := (congrFun (hG_10.1 73 (by decide)) 29).trans ((congrFun (hG_7.1 73 (by decide)) 29).trans ((congrFun (hG_4.1 73 (by decide)) 29).trans (congrFun (hG_1.1 73 (by decide)) 29)))
          have e145_73_34 : g109_10 73 34 = (h 73) 34 := (congrFun (hG_10.1 73 (by decide)) 34).trans ((congrFun (hG_7.1 73 (by decide)) 34).trans ((congrFun (hG_4.1 73 (by decide)) 34).trans (congrFun (hG_1.1 73 (by decide)) 34)))
          have e146_73_36 : g109_10 73 36 = (h 73) 36 := (congrFun (hG_10.1 73 (by decide)) 36).trans ((congrFun (hG_7.1 73 (by decide)) 36).trans ((congrFun (hG_4.1 73 (by decide)) 36).trans (congrFun (hG_1.1 73 (by decide)) 36)))
          have e147_96 : g109_10 96 = h 96 := ((hG_10.1 96 (by decide))).trans (((hG_7.1 96 (by decide))).trans (((hG_4.1 96 (by decide))).trans (hG_1.1 96 (by decide))))
          refine iv_X12_258 hK (s_code_k cx 1 g109_10 hT_10 (by first | omega | (simp [up, setR] <;> omega)) (by first | omega | (simp [up, setR] <;> omega)) (by rewrite [e141_74, e142_75]; first | assumption | exact htb) (by rewrite [e143_73_32]; first | omega | (simp [up, setR] <;> omega)) (by rewrite [e144_73_29, e145_73_34, e146_73_36, e147_96]; first | omega | (simp [up, setR] <;> omega))) (by decide) rfl ⟨by decide, by decide⟩ (by decide) rfl rfl (Nat.le_of_ble_eq_true rfl) ⟨by decide, by decide⟩ dX12_wake_140 ?_
          intro r9 g140_148 hp9
          obtain ⟨⟨hT_148, hG_148⟩, z140_148, hr9, hz_148, pa_148, pm_148, pc_148⟩ := hp9
          rw [hr9]
          have hF_148 : FRM [73, 84, 85, 93, 96, 97, 98] [28, 32, 33, 34, 36, 39] h g140_148 := FRM_tr hF_10 hG_148 (by decide) (by decide)
          rw [show g109_10 73 29 = (h 73) 29 from (congrFun (hG_10.1 73 (by decide)) 29).trans ((congrFun (hG_7.1 73 (by decide)) 29).trans ((congrFun (hG_4.1 73 (by decide)) 29).trans (congrFun (hG_1.1 73 (by decide)) 29)))] at pm_148
          rw [show g109_10 73 34 = (h 73) 34 from (congrFun (hG_10.1 73 (by decide)) 34).trans ((congrFun (hG_7.1 73 (by decide)) 34).trans ((congrFun (hG_4.1 73 (by decide)) 34).trans (congrFun (hG_1.1 73 (by decide)) 34)))] at pm_148
          rw [show g109_10 73 36 = (h 73) 36 from (congrFun (hG_10.1 73 (by decide)) 36).trans ((congrFun (hG_7.1 73 (by decide)) 36).trans ((congrFun (hG_4.1 73 (by decide)) 36).trans (congrFun (hG_1.1 73 (by decide)) 36)))] at pm_148
          rw [show g109_10 96 = h 96 from ((hG_10.1 96 (by decide))).trans (((hG_7.1 96 (by decide))).trans (((hG_4.1 96 (by decide))).trans (hG_1.1 96 (by decide))))] at pm_148
          rw [show g109_10 73 29 = (h 73) 29 from (congrFun (hG_10.1 73 (by decide)) 29).trans ((congrFun (hG_7.1 73 (by decide)) 29).trans ((congrFun (hG_4.1 73 (by decide)) 29).trans (congrFun (hG_1.1 73 (by decide)) 29)))] at pc_148
          show TT K ly 0 0 143 [(8, vI 1), (0, vR 73), (1, vI x), (2, vI y), (3, vI (10 * y + x + 11)), (4, vI a), (5, vI b), (6, vI t9), (7, vI cx)] [vI z140_148] g140_148
          refine TT_istore hK (lv' := [(9, vI z140_148), (8, vI 1), (0, vR 73), (1, vI x), (2, vI y), (3, vI (10 * y + x + 11)), (4, vI a), (5, vI b), (6, vI t9), (7, vI cx)]) (by decide) rfl dX12_wake_143 ?_
          refine TT_iload hK 8 rfl dX12_wake_145 ?_
          refine TT_if_eq hK (tgt := 157) (irm (by omega) (by omega)) dX12_wake_147 (by decide) (fun hb147_149 => ?_) (fun hb147_149 => ?_)
          · refine TT_iload hK 0 rfl dX12_wake_157 ?_
            refine TT_istore hK (lv' := [(8, vI z140_148), (9, vI z140_148), (0, vR 73), (1, vI x), (2, vI y), (3, vI (10 * y + x + 11)), (4, vI a), (5, vI b), (6, vI t9), (7, vI cx)]) (by decide) rfl dX12_wake_159 ?_
            refine TT_aload_n hK rfl 2 rfl dX12_wake_161 ?_
            refine gf_X12_50 hK (by decide) rfl (q := 85) rfl rfl dX12_wake_162 ?_
            refine TT_aload_n hK rfl 2 rfl dX12_wake_165 ?_
            refine TT_iload_n hK rfl 3 rfl dX12_wake_166 ?_
            refine TT_iload_n hK rfl 4 rfl dX12_wake_167 ?_
            refine iv_X12_249 hK (s_X12_cell_73 x y g140_148 hT_148 (by first | omega | (simp [up, setR] <;> omega)) (by first | omega | (simp [up, setR] <;> omega))) (by decide) rfl ⟨by decide, by decide⟩ (by decide) rfl rfl (Nat.le_of_ble_eq_true rfl) ⟨by decide, by decide⟩ dX12_wake_168 ?_
            intro r9 g168_150 hp9
            obtain ⟨⟨hT_150, hG_150⟩, z168_150, hr9, hz_150, p1_150⟩ := hp9
            rw [hr9]
            have hF_150 : FRM [73, 84, 85, 93, 96, 97, 98] [28, 32, 33, 34, 36, 39] h g168_150 := FRM_tr hF_148 hG_150 (by decide) (by decide)
            rw [show g140_148 73 26 = (h 73) 26 from ((hG_148.2 26 (by decide))).trans ((congrFun (hG_10.1 73 (by decide)) 26).trans ((congrFun (hG_7.1 73 (by decide)) 26).trans ((congrFun (hG_4.1 73 (by decide)) 26).trans (congrFun (hG_1.1 73 (by decide)) 26))))] at p1_150
            show TT K ly 0 0 171 [(8, vI z140_148), (9, vI z140_148), (0, vR 73), (1, vI x), (2, vI y), (3, vI (10 * y + x + 11)), (4, vI a), (5, vI b), (6, vI t9), (7, vI cx)] [vI z168_150, vR 85] g168_150
            refine TT_cgI (b := 64 * ((h 73) 26) + 8 * y + x) (by omega) ?_
            refine TT_iload hK 0 rfl dX12_wake_171 ?_
            refine TT_iconst hK dX12_wake_173 ?_
            refine TT_icmp_ne hK (tgt := 181) (irm (by omega) (by omega)) (by decide) dX12_wake_174 (by decide) (fun hb174_151 => ?_) (fun hb174_151 => ?_)
            · refine TT_iconst hK dX12_wake_181 ?_
              refine TT_zast hK (o := 85) (n := 1280) (by decide) rfl (by omega) (by omega) (by first | decide | omega) dX12_wake_182 ?_
              refine TT_hp (h' := setO g168_150 85 (fup (h 85) (64 * ((h 73) 26) + 8 * y + x) 0)) (up_can (((hG_150.1 85 (by decide))).trans (((hG_148.1 85 (by decide))).trans (((hG_10.1 85 (by decide))).trans (((hG_7.1 85 (by decide))).trans (((hG_4.1 85 (by decide))).trans (hG_1.1 85 (by decide))))))) rfl rfl) ?_
              have hT_152 : TY (setO g168_150 85 (fup (h 85) (64 * ((h 73) 26) + 8 * y + x) 0)) := tu_85 hT_150 (show up g168_150 85 (64 * ((h 73) 26) + 8 * y + x) 0 = (setO g168_150 85 (fup (h 85) (64 * ((h 73) 26) + 8 * y + x) 0)) from up_can (((hG_150.1 85 (by decide))).trans (((hG_148.1 85 (by decide))).trans (((hG_10.1 85 (by decide))).trans (((hG_7.1 85 (by decide))).trans (((hG_4.1 85 (by decide))).trans (hG_1.1 85 (by decide))))))) rfl rfl) (by omega)
              have hF_152 : FRM [73, 84, 85, 93, 96, 97, 98] [28, 32, 33, 34, 36, 39] h (setO g168_150 85 (fup (h 85) (64 * ((h 73) 26) + 8 * y + x) 0)) := FRM_up (show up g168_150 85 (64 * ((h 73) 26) + 8 * y + x) 0 = (setO g168_150 85 (fup (h 85) (64 * ((h 73) 26) + 8 * y + x) 0)) from up_can (((hG_150.1 85 (by decide))).trans (((hG_148.1 85 (by decide))).trans (((hG_10.1 85 (by decide))).trans (((hG_7.1 85 (by decide))).trans (((hG_4.1 85 (by decide))).trans (hG_1.1 85 (by decide))))))) rfl rfl) hF_150 (by decide) (by decide)
              refine TT_aload_n hK rfl 2 rfl dX12_wake_183 ?_
              refine gf_X12_75 hK (by decide) rfl (q := 93) rfl rfl dX12_wake_184 ?_
              refine TT_iload_n hK rfl 5 rfl dX12_wake_187 ?_
              refine TT_iload hK 0 rfl dX12_wake_188 ?_
              refine TT_iconst hK dX12_wake_190 ?_
              refine TT_icmp_ne hK (tgt := 198) (irm (by omega) (by omega)) (by decide) dX12_wake_191 (by decide) (fun hb191_153 => ?_) (fun hb191_153 => ?_)
              · refine TT_iconst hK dX12_wake_198 ?_
                refine TT_iast hK (o := 93) (n := 100) (by decide) rfl (by omega) (by omega) dX12_wake_199 ?_
                refine TT_hp (h' := setO (setO g168_150 85 (fup (h 85) (64 * ((h 73) 26) + 8 * y + x) 0)) 93 (fup (h 93) (10 * y + x + 11) 1)) (up_can ((sOf_ne _ _ (by decide)).trans (((hG_150.1 93 (by decide))).trans (((hG_148.1 93 (by decide))).trans (((hG_10.1 93 (by decide))).trans (((hG_7.1 93 (by decide))).trans (((hG_4.1 93 (by decide))).trans (hG_1.1 93 (by decide)))))))) rfl rfl) ?_
                have hT_154 : TY (setO (setO g168_150 85 (fup (h 85) (64 * ((h 73) 26) + 8 * y + x) 0)) 93 (fup (h 93) (10 * y + x + 11) 1)) := tu_93 hT_152 (show up (setO g168_150 85 (fup (h 85) (64 * ((h 73) 26) + 8 * y + x) 0)) 93 (10 * y + x + 11) 1 = (setO (setO g168_150 85 (fup (h 85) (64 * ((h 73) 26) + 8 * y + x) 0)) 93 (fup (h 93) (10 * y + x + 11) 1)) from up_can ((sOf_ne _ _ (by decide)).trans (((hG_150.1 93 (by decide))).trans (((hG_148.1 93 (by decide))).trans (((hG_10.1 93 (by decide))).trans (((hG_7.1 93 (by decide))).trans (((hG_4.1 93 (by decide))).trans (hG_1.1 93 (by decide)))))))) rfl rfl) (by omega)
                have hF_154 : FRM [73, 84, 85, 93, 96, 97, 98] [28, 32, 33, 34, 36, 39] h (setO (setO g168_150 85 (fup (h 85) (64 * ((h 73) 26) + 8 * y + x) 0)) 93 (fup (h 93) (10 * y + x + 11) 1)) := FRM_up (show up (setO g168_150 85 (fup (h 85) (64 * ((h 73) 26) + 8 * y + x) 0)) 93 (10 * y + x + 11) 1 = (setO (setO g168_150 85 (fup (h 85) (64 * ((h 73) 26) + 8 * y + x) 0)) 93 (fup (h 93) (10 * y + x + 11) 1)) from up_can ((sOf_ne _ _ (by decide)).trans (((hG_150.1 93 (by decide))).trans (((hG_148.1 93 (by decide))).trans (((hG_10.1 93 (by decide))).trans (((hG_7.1 93 (by decide))).trans (((hG_4.1 93 (by decide))).trans (hG_1.1 93 (by decide)))))))) rfl rfl) hF_152 (by decide) (by decide)
                refine TT_aload_n hK rfl 2 rfl dX12_wake_200 ?_
                refine gf_X12_163 hK (by decide) rfl (v := (h 73) 29) ((congrFun ((sOf_ne _ _ (by decide)).trans ((sOf_ne _ _ (by decide)).trans (hG_150.1 73 (by decide)))) 29).trans (((hG_148.2 29 (by decide))).trans ((congrFun (hG_10.1 73 (by decide)) 29).trans ((congrFun (hG_7.1 73 (by decide)) 29).trans ((congrFun (hG_4.1 73 (by decide)) 29).trans (congrFun (hG_1.1 73 (by decide)) 29)))))) dX12_wake_201 ?_
                have r155 := ty_73_29 (v := (h 73) 29) hT_154 ((congrFun ((sOf_ne _ _ (by decide)).trans ((sOf_ne _ _ (by decide)).trans (hG_150.1 73 (by decide)))) 29).trans (((hG_148.2 29 (by decide))).trans ((congrFun (hG_10.1 73 (by decide)) 29).trans ((congrFun (hG_7.1 73 (by decide)) 29).trans ((congrFun (hG_4.1 73 (by decide)) 29).trans (congrFun (hG_1.1 73 (by decide)) 29))))))
                refine TT_iconst hK dX12_wake_204 ?_
                refine TT_icmp_ne hK (tgt := 237) (irm (by omega) (by omega)) (by decide) dX12_wake_205 (by decide) (fun hb205_156 => ?_) (fun hb205_156 => ?_)
                · refine TT_vret hK hQ ?_ dX12_wake_237
                  have e157_73_32 : (setO (setO g168_150 85 (fup (h 85) (64 * ((h 73) 26) + 8 * y + x) 0)) 93 (fup (h 93) (10 * y + x + 11) 1)) 73 32 = (g140_148 73) 32 := congrFun ((sOf_ne _ _ (by decide)).trans ((sOf_ne _ _ (by decide)).trans (hG_150.1 73 (by decide)))) 32
                  have e158_73_34 : (setO (setO g168_150 85 (fup (h 85) (64 * ((h 73) 26) + 8 * y + x) 0)) 93 (fup (h 93) (10 * y + x + 11) 1)) 73 34 = (g140_148 73) 34 := congrFun ((sOf_ne _ _ (by decide)).trans ((sOf_ne _ _ (by decide)).trans (hG_150.1 73 (by decide)))) 34
                  have e159_73_36 : (setO (setO g168_150 85 (fup (h 85) (64 * ((h 73) 26) + 8 * y + x) 0)) 93 (fup (h 93) (10 * y + x + 11) 1)) 73 36 = (g140_148 73) 36 := congrFun ((sOf_ne _ _ (by decide)).trans ((sOf_ne _ _ (by decide)).trans (hG_150.1 73 (by decide)))) 36
                  have e160_96 : (setO (setO g168_150 85 (fup (h 85) (64 * ((h 73) 26) + 8 * y + x) 0)) 93 (fup (h 93) (10 * y + x + 11) 1)) 96 = g140_148 96 := (sOf_ne _ _ (by decide)).trans ((sOf_ne _ _ (by decide)).trans (hG_150.1 96 (by decide)))
                  have e161_93 : (setO (setO g168_150 85 (fup (h 85) (64 * ((h 73) 26) + 8 * y + x) 0)) 93 (fup (h 93) (10 * y + x + 11) 1)) 93 = fup (h 93) (10 * y + x + 11) 1 := sOf_eq _ _ _
                  have e162_84 : (setO (setO g168_150 85 (fup (h 85) (64 * ((h 73) 26) + 8 * y + x) 0)) 93 (fup (h 93) (10 * y + x + 11) 1)) 84 = h 84 := (sOf_ne _ _ (by decide)).trans ((sOf_ne _ _ (by decide)).trans (((hG_150.1 84 (by decide))).trans (((hG_148.1 84 (by decide))).trans (((hG_10.1 84 (by decide))).trans (((hG_7.1 84 (by decide))).trans (((hG_4.1 84 (by decide))).trans (hG_1.1 84 (by decide))))))))
                  have e163_85 : (setO (setO g168_150 85 (fup (h 85) (64 * ((h 73) 26) + 8 * y + x) 0)) 93 (fup (h 93) (10 * y + x + 11) 1)) 85 = fup (h 85) (64 * ((h 73) 26) + 8 * y + x) 0 := (sOf_ne _ _ (by decide)).trans (sOf_eq _ _ _)
                  exact ⟨⟨hT_154, hF_154⟩, rfl, (by rewrite [e157_73_32]; omega), (by rewrite [e158_73_34, e159_73_36, e160_96]; omega), (by rewrite [e161_93]; intro w e h1 h2 h3 h4 h5; exact ZC_up ⟨hx.1, h1⟩ h2 ⟨hy.1, h3⟩ h4 h5 (by decide)), (by rewrite [e162_84, e163_85]; intro j hj; exact ⟨(by first | rfl | exact fup_ne _ _ (by omega)), (by by_cases e : j = 64 * (h 73 26) + 8 * y + x; (rw [e, fup_eq]; omega); exact fup_ne _ _ e)⟩)⟩
                · refine TT_aload_n hK rfl 2 rfl dX12_wake_208 ?_
                  refine gf_X12_47 hK (by decide) rfl (q := 84) rfl rfl dX12_wake_209 ?_
                  refine TT_aload_n hK rfl 2 rfl dX12_wake_212 ?_
                  refine TT_iload_n hK rfl 3 rfl dX12_wake_213 ?_
                  refine TT_iload_n hK rfl 4 rfl dX12_wake_214 ?_
                  refine iv_X12_249 hK (s_X12_cell_73 x y (setO (setO g168_150 85 (fup (h 85) (64 * ((h 73) 26) + 8 * y + x) 0)) 93 (fup (h 93) (10 * y + x + 11) 1)) hT_154 (by first | omega | (simp [up, setR] <;> omega)) (by first | omega | (simp [up, setR] <;> omega))) (by decide) rfl ⟨by decide, by decide⟩ (by decide) rfl rfl (Nat.le_of_ble_eq_true rfl) ⟨by decide, by decide⟩ dX12_wake_215 ?_
                  intro r9 g215_164 hp9
                  obtain ⟨⟨hT_164, hG_164⟩, z215_164, hr9, hz_164, p1_164⟩ := hp9
                  rw [hr9]
                  have hF_164 : FRM [73, 84, 85, 93, 96, 97, 98] [28, 32, 33, 34, 36, 39] h g215_164 := FRM_tr hF_154 hG_164 (by decide) (by decide)
                  rw [show (setO (setO g168_150 85 (fup (h 85) (64 * ((h 73) 26) + 8 * y + x) 0)) 93 (fup (h 93) (10 * y + x + 11) 1)) 73 26 = (h 73) 26 from (congrFun ((sOf_ne _ _ (by decide)).trans ((sOf_ne _ _ (by decide)).trans (hG_150.1 73 (by decide)))) 26).trans (((hG_148.2 26 (by decide))).trans ((congrFun (hG_10.1 73 (by decide)) 26).trans ((congrFun (hG_7.1 73 (by decide)) 26).trans ((congrFun (hG_4.1 73 (by decide)) 26).trans (congrFun (hG_1.1 73 (by decide)) 26)))))] at p1_164
                  show TT K ly 0 0 218 [(8, vI z140_148), (9, vI z140_148), (0, vR 73), (1, vI x), (2, vI y), (3, vI (10 * y + x + 11)), (4, vI a), (5, vI b), (6, vI t9), (7, vI cx)] [vI z215_164, vR 84] g215_164
                  refine TT_cgI (b := 64 * ((h 73) 26) + 8 * y + x) (by omega) ?_
                  refine TT_aload_n hK rfl 2 rfl dX12_wake_218 ?_
                  refine gf_X12_47 hK (by decide) rfl (q := 84) rfl rfl dX12_wake_219 ?_
                  refine TT_aload_n hK rfl 2 rfl dX12_wake_222 ?_
                  refine TT_iload_n hK rfl 3 rfl dX12_wake_223 ?_
                  refine TT_iload_n hK rfl 4 rfl dX12_wake_224 ?_
                  refine iv_X12_249 hK (s_X12_cell_73 x y g215_164 hT_164 (by first | omega | (simp [up, setR] <;> omega)) (by first | omega | (simp [up, setR] <;> omega))) (by decide) rfl ⟨by decide, by decide⟩ (by decide) rfl rfl (Nat.le_of_ble_eq_true rfl) ⟨by decide, by decide⟩ dX12_wake_225 ?_
                  intro r9 g225_165 hp9
                  obtain ⟨⟨hT_165, hG_165⟩, z225_165, hr9, hz_165, p1_165⟩ := hp9
                  rw [hr9]
                  have hF_165 : FRM [73, 84, 85, 93, 96, 97, 98] [28, 32, 33, 34, 36, 39] h g225_165 := FRM_tr hF_164 hG_165 (by decide) (by decide)
                  rw [show g215_164 73 26 = (h 73) 26 from (congrFun (hG_164.1 73 (by decide)) 26).trans ((congrFun ((sOf_ne _ _ (by decide)).trans ((sOf_ne _ _ (by decide)).trans (hG_150.1 73 (by decide)))) 26).trans (((hG_148.2 26 (by decide))).trans ((congrFun (hG_10.1 73 (by decide)) 26).trans ((congrFun (hG_7.1 73 (by decide)) 26).trans ((congrFun (hG_4.1 73 (by decide)) 26).trans (congrFun (hG_1.1 73 (by decide)) 26))))))] at p1_165
                  show TT K ly 0 0 228 [(8, vI z140_148), (9, vI z140_148), (0, vR 73), (1, vI x), (2, vI y), (3, vI (10 * y + x + 11)), (4, vI a), (5, vI b), (6, vI t9), (7, vI cx)] [vI z225_165, vR 84, vI (64 * ((h 73) 26) + 8 * y + x), vR 84] g225_165
                  refine TT_cgI (b := 64 * ((h 73) 26) + 8 * y + x) (by omega) ?_
                  refine TT_iald hK (o := 84) (n := 1280) (by decide) rfl (by first | omega | (simp [up, setR] <;> omega)) (by first | omega | (simp [up, setR] <;> omega)) (v := (h 84) (64 * ((h 73) 26) + 8 * y + x)) (rd_ (((hG_165.1 84 (by decide))).trans (((hG_164.1 84 (by decide))).trans ((sOf_ne _ _ (by decide)).trans ((sOf_ne _ _ (by decide)).trans (((hG_150.1 84 (by decide))).trans (((hG_148.1 84 (by decide))).trans (((hG_10.1 84 (by decide))).trans (((hG_7.1 84 (by decide))).trans (((hG_4.1 84 (by decide))).trans (hG_1.1 84 (by decide))))))))))) rfl) dX12_wake_228 ?_
                  have r166 := ty_84 (i := 64 * ((h 73) 26) + 8 * y + x) (v := (h 84) (64 * ((h 73) 26) + 8 * y + x)) hT_165 (rd_ (((hG_165.1 84 (by decide))).trans (((hG_164.1 84 (by decide))).trans ((sOf_ne _ _ (by decide)).trans ((sOf_ne _ _ (by decide)).trans (((hG_150.1 84 (by decide))).trans (((hG_148.1 84 (by decide))).trans (((hG_10.1 84 (by decide))).trans (((hG_7.1 84 (by decide))).trans (((hG_4.1 84 (by decide))).trans (hG_1.1 84 (by decide))))))))))) rfl) (by omega) (by omega)
                  refine TT_iconst hK dX12_wake_229 ?_
                  refine TT_aload_n hK rfl 2 rfl dX12_wake_230 ?_
                  refine gf_X12_252 hK (by decide) rfl (v := (h 73) 27) ((congrFun (hG_165.1 73 (by decide)) 27).trans ((congrFun (hG_164.1 73 (by decide)) 27).trans ((congrFun ((sOf_ne _ _ (by decide)).trans ((sOf_ne _ _ (by decide)).trans (hG_150.1 73 (by decide)))) 27).trans (((hG_148.2 27 (by decide))).trans ((congrFun (hG_10.1 73 (by decide)) 27).trans ((congrFun (hG_7.1 73 (by decide)) 27).trans ((congrFun (hG_4.1 73 (by decide)) 27).trans (congrFun (hG_1.1 73 (by decide)) 27)))))))) dX12_wake_231 ?_
                  have r167 := ty_73_27 (v := (h 73) 27) hT_165 ((congrFun (hG_165.1 73 (by decide)) 27).trans ((congrFun (hG_164.1 73 (by decide)) 27).trans ((congrFun ((sOf_ne _ _ (by decide)).trans ((sOf_ne _ _ (by decide)).trans (hG_150.1 73 (by decide)))) 27).trans (((hG_148.2 27 (by decide))).trans ((congrFun (hG_10.1 73 (by decide)) 27).trans ((congrFun (hG_7.1 73 (by decide)) 27).trans ((congrFun (hG_4.1 73 (by decide)) 27).trans (congrFun (hG_1.1 73 (by decide)) 27))))))))
                  refine TT_ishl_a hK dX12_wake_234 (fun x234_168 hx168 => ?_)
                  refine TT_ior hK dX12_wake_235 ?_
                  refine TT_w32 (fun x236_169 hx169 => ?_)
                  refine TT_iast hK (o := 84) (n := 1280) (by decide) rfl (by omega) (by omega) dX12_wake_236 ?_
                  refine TT_hp (h' := setO g225_165 84 (fup (h 84) (64 * ((h 73) 26) + 8 * y + x) x236_169)) (up_can (((hG_165.1 84 (by decide))).trans (((hG_164.1 84 (by decide))).trans ((sOf_ne _ _ (by decide)).trans ((sOf_ne _ _ (by decide)).trans (((hG_150.1 84 (by decide))).trans (((hG_148.1 84 (by decide))).trans (((hG_10.1 84 (by decide))).trans (((hG_7.1 84 (by decide))).trans (((hG_4.1 84 (by decide))).trans (hG_1.1 84 (by decide))))))))))) rfl rfl) ?_
                  have hT_170 : TY (setO g225_165 84 (fup (h 84) (64 * ((h 73) 26) + 8 * y + x) x236_169)) := tu_84 hT_165 (show up g225_165 84 (64 * ((h 73) 26) + 8 * y + x) x236_169 = (setO g225_165 84 (fup (h 84) (64 * ((h 73) 26) + 8 * y + x) x236_169)) from up_can (((hG_165.1 84 (by decide))).trans (((hG_164.1 84 (by decide))).trans ((sOf_ne _ _ (by decide)).trans ((sOf_ne _ _ (by decide)).trans (((hG_150.1 84 (by decide))).trans (((hG_148.1 84 (by decide))).trans (((hG_10.1 84 (by decide))).trans (((hG_7.1 84 (by decide))).trans (((hG_4.1 84 (by decide))).trans (hG_1.1 84 (by decide))))))))))) rfl rfl) (by omega)
                  have hF_170 : FRM [73, 84, 85, 93, 96, 97, 98] [28, 32, 33, 34, 36, 39] h (setO g225_165 84 (fup (h 84) (64 * ((h 73) 26) + 8 * y + x) x236_169)) := FRM_up (show up g225_165 84 (64 * ((h 73) 26) + 8 * y + x) x236_169 = (setO g225_165 84 (fup (h 84) (64 * ((h 73) 26) + 8 * y + x) x236_169)) from up_can (((hG_165.1 84 (by decide))).trans (((hG_164.1 84 (by decide))).trans ((sOf_ne _ _ (by decide)).trans ((sOf_ne _ _ (by decide)).trans (((hG_150.1 84 (by decide))).trans (((hG_148.1 84 (by decide))).trans (((hG_10.1 84 (by decide))).trans (((hG_7.1 84 (by decide))).trans (((hG_4.1 84 (by decide))).trans (hG_1.1 84 (by decide))))))))))) rfl rfl) hF_165 (by decide) (by decide)
                  refine TT_vret hK hQ ?_ dX12_wake_237
                  have e171_73_32 : (setO g225_165 84 (fup (h 84) (64 * ((h 73) 26) + 8 * y + x) x236_169)) 73 32 = (g140_148 73) 32 := (congrFun ((sOf_ne _ _ (by decide)).trans (hG_165.1 73 (by decide))) 32).trans ((congrFun (hG_164.1 73 (by decide)) 32).trans (congrFun ((sOf_ne _ _ (by decide)).trans ((sOf_ne _ _ (by decide)).trans (hG_150.1 73 (by decide)))) 32))
                  have e172_73_34 : (setO g225_165 84 (fup (h 84) (64 * ((h 73) 26) + 8 * y + x) x236_169)) 73 34 = (g140_148 73) 34 := (congrFun ((sOf_ne _ _ (by decide)).trans (hG_165.1 73 (by decide))) 34).trans ((congrFun (hG_164.1 73 (by decide)) 34).trans (congrFun ((sOf_ne _ _ (by decide)).trans ((sOf_ne _ _ (by decide)).trans (hG_150.1 73 (by decide)))) 34))
                  have e173_73_36 : (setO g225_165 84 (fup (h 84) (64 * ((h 73) 26) + 8 * y + x) x236_169)) 73 36 = (g140_148 73) 36 := (congrFun ((sOf_ne _ _ (by decide)).trans (hG_165.1 73 (by decide))) 36).trans ((congrFun (hG_164.1 73 (by decide)) 36).trans (congrFun ((sOf_ne _ _ (by decide)).trans ((sOf_ne _ _ (by decide)).trans (hG_150.1 73 (by decide)))) 36))
                  have e174_96 : (setO g225_165 84 (fup (h 84) (64 * ((h 73) 26) + 8 * y + x) x236_169)) 96 = g140_148 96 := (sOf_ne _ _ (by decide)).trans (((hG_165.1 96 (by decide))).trans (((hG_164.1 96 (by decide))).trans ((sOf_ne _ _ (by decide)).trans ((sOf_ne _ _ (by decide)).trans (hG_150.1 96 (by decide))))))
                  have e175_93 : (setO g225_165 84 (fup (h 84) (64 * ((h 73) 26) + 8 * y + x) x236_169)) 93 = fup (h 93) (10 * y + x + 11) 1 := (sOf_ne _ _ (by decide)).trans (((hG_165.1 93 (by decide))).trans (((hG_164.1 93 (by decide))).trans (sOf_eq _ _ _)))
                  have e176_84 : (setO g225_165 84 (fup (h 84) (64 * ((h 73) 26) + 8 * y + x) x236_169)) 84 = fup (h 84) (64 * ((h 73) 26) + 8 * y + x) x236_169 := sOf_eq _ _ _
                  have e177_85 : (setO g225_165 84 (fup (h 84) (64 * ((h 73) 26) + 8 * y + x) x236_169)) 85 = fup (h 85) (64 * ((h 73) 26) + 8 * y + x) 0 := (sOf_ne _ _ (by decide)).trans (((hG_165.1 85 (by decide))).trans (((hG_164.1 85 (by decide))).trans ((sOf_ne _ _ (by decide)).trans (sOf_eq _ _ _))))
                  exact ⟨⟨hT_170, hF_170⟩, rfl, (by rewrite [e171_73_32]; omega), (by rewrite [e172_73_34, e173_73_36, e174_96]; omega), (by rewrite [e175_93]; intro w e h1 h2 h3 h4 h5; exact ZC_up ⟨hx.1, h1⟩ h2 ⟨hy.1, h3⟩ h4 h5 (by decide)), (by rewrite [e176_84, e177_85]; intro j hj; exact ⟨(by first | rfl | exact fup_ne _ _ (by omega)), (by by_cases e : j = 64 * (h 73 26) + 8 * y + x; (rw [e, fup_eq]; omega); exact fup_ne _ _ e)⟩)⟩
              · exfalso; omega
            · refine TT_iconst hK dX12_wake_177 ?_
              refine TT_goto hK (tgt := 182) dX12_wake_178 (by decide) ?_
              refine TT_zast hK (o := 85) (n := 1280) (by decide) rfl (by omega) (by omega) (by first | decide | omega) dX12_wake_182 ?_
              refine TT_hp (h' := setO g168_150 85 (fup (h 85) (64 * ((h 73) 26) + 8 * y + x) 1)) (up_can (((hG_150.1 85 (by decide))).trans (((hG_148.1 85 (by decide))).trans (((hG_10.1 85 (by decide))).trans (((hG_7.1 85 (by decide))).trans (((hG_4.1 85 (by decide))).trans (hG_1.1 85 (by decide))))))) rfl rfl) ?_
              have hT_178 : TY (setO g168_150 85 (fup (h 85) (64 * ((h 73) 26) + 8 * y + x) 1)) := tu_85 hT_150 (show up g168_150 85 (64 * ((h 73) 26) + 8 * y + x) 1 = (setO g168_150 85 (fup (h 85) (64 * ((h 73) 26) + 8 * y + x) 1)) from up_can (((hG_150.1 85 (by decide))).trans (((hG_148.1 85 (by decide))).trans (((hG_10.1 85 (by decide))).trans (((hG_7.1 85 (by decide))).trans (((hG_4.1 85 (by decide))).trans (hG_1.1 85 (by decide))))))) rfl rfl) (by omega)
              have hF_178 : FRM [73, 84, 85, 93, 96, 97, 98] [28, 32, 33, 34, 36, 39] h (setO g168_150 85 (fup (h 85) (64 * ((h 73) 26) + 8 * y + x) 1)) := FRM_up (show up g168_150 85 (64 * ((h 73) 26) + 8 * y + x) 1 = (setO g168_150 85 (fup (h 85) (64 * ((h 73) 26) + 8 * y + x) 1)) from up_can (((hG_150.1 85 (by decide))).trans (((hG_148.1 85 (by decide))).trans (((hG_10.1 85 (by decide))).trans (((hG_7.1 85 (by decide))).trans (((hG_4.1 85 (by decide))).trans (hG_1.1 85 (by decide))))))) rfl rfl) hF_150 (by decide) (by decide)
              refine TT_aload_n hK rfl 2 rfl dX12_wake_183 ?_
              refine gf_X12_75 hK (by decide) rfl (q := 93) rfl rfl dX12_wake_184 ?_
              refine TT_iload_n hK rfl 5 rfl dX12_wake_187 ?_
              refine TT_iload hK 0 rfl dX12_wake_188 ?_
              refine TT_iconst hK dX12_wake_190 ?_
              refine TT_icmp_ne hK (tgt := 198) (irm (by omega) (by omega)) (by decide) dX12_wake_191 (by decide) (fun hb191_179 => ?_) (fun hb191_179 => ?_)
              · exfalso; omega
              · refine TT_iconst hK dX12_wake_194 ?_
                refine TT_goto hK (tgt := 199) dX12_wake_195 (by decide) ?_
                refine TT_iast hK (o := 93) (n := 100) (by decide) rfl (by omega) (by omega) dX12_wake_199 ?_
                refine TT_hp (h' := setO (setO g168_150 85 (fup (h 85) (64 * ((h 73) 26) + 8 * y + x) 1)) 93 (fup (h 93) (10 * y + x + 11) (-1))) (up_can ((sOf_ne _ _ (by decide)).trans (((hG_150.1 93 (by decide))).trans (((hG_148.1 93 (by decide))).trans (((hG_10.1 93 (by decide))).trans (((hG_7.1 93 (by decide))).trans (((hG_4.1 93 (by decide))).trans (hG_1.1 93 (by decide)))))))) rfl rfl) ?_
                have hT_180 : TY (setO (setO g168_150 85 (fup (h 85) (64 * ((h 73) 26) + 8 * y + x) 1)) 93 (fup (h 93) (10 * y + x + 11) (-1))) := tu_93 hT_178 (show up (setO g168_150 85 (fup (h 85) (64 * ((h 73) 26) + 8 * y + x) 1)) 93 (10 * y + x + 11) (-1) = (setO (setO g168_150 85 (fup (h 85) (64 * ((h 73) 26) + 8 * y + x) 1)) 93 (fup (h 93) (10 * y + x + 11) (-1))) from up_can ((sOf_ne _ _ (by decide)).trans (((hG_150.1 93 (by decide))).trans (((hG_148.1 93 (by decide))).trans (((hG_10.1 93 (by decide))).trans (((hG_7.1 93 (by decide))).trans (((hG_4.1 93 (by decide))).trans (hG_1.1 93 (by decide)))))))) rfl rfl) (by omega)
                have hF_180 : FRM [73, 84, 85, 93, 96, 97, 98] [28, 32, 33, 34, 36, 39] h (setO (setO g168_150 85 (fup (h 85) (64 * ((h 73) 26) + 8 * y + x) 1)) 93 (fup (h 93) (10 * y + x + 11) (-1))) := FRM_up (show up (setO g168_150 85 (fup (h 85) (64 * ((h 73) 26) + 8 * y + x) 1)) 93 (10 * y + x + 11) (-1) = (setO (setO g168_150 85 (fup (h 85) (64 * ((h 73) 26) + 8 * y + x) 1)) 93 (fup (h 93) (10 * y + x + 11) (-1))) from up_can ((sOf_ne _ _ (by decide)).trans (((hG_150.1 93 (by decide))).trans (((hG_148.1 93 (by decide))).trans (((hG_10.1 93 (by decide))).trans (((hG_7.1 93 (by decide))).trans (((hG_4.1 93 (by decide))).trans (hG_1.1 93 (by decide)))))))) rfl rfl) hF_178 (by decide) (by decide)
                refine TT_aload_n hK rfl 2 rfl dX12_wake_200 ?_
                refine gf_X12_163 hK (by decide) rfl (v := (h 73) 29) ((congrFun ((sOf_ne _ _ (by decide)).trans ((sOf_ne _ _ (by decide)).trans (hG_150.1 73 (by decide)))) 29).trans (((hG_148.2 29 (by decide))).trans ((congrFun (hG_10.1 73 (by decide)) 29).trans ((congrFun (hG_7.1 73 (by decide)) 29).trans ((congrFun (hG_4.1 73 (by decide)) 29).trans (congrFun (hG_1.1 73 (by decide)) 29)))))) dX12_wake_201 ?_
                have r181 := ty_73_29 (v := (h 73) 29) hT_180 ((congrFun ((sOf_ne _ _ (by decide)).trans ((sOf_ne _ _ (by decide)).trans (hG_150.1 73 (by decide)))) 29).trans (((hG_148.2 29 (by decide))).trans ((congrFun (hG_10.1 73 (by decide)) 29).trans ((congrFun (hG_7.1 73 (by decide)) 29).trans ((congrFun (hG_4.1 73 (by decide)) 29).trans (congrFun (hG_1.1 73 (by decide)) 29))))))
                refine TT_iconst hK dX12_wake_204 ?_
                refine TT_icmp_ne hK (tgt := 237) (irm (by omega) (by omega)) (by decide) dX12_wake_205 (by decide) (fun hb205_182 => ?_) (fun hb205_182 => ?_)
                · refine TT_vret hK hQ ?_ dX12_wake_237
                  have e183_73_32 : (setO (setO g168_150 85 (fup (h 85) (64 * ((h 73) 26) + 8 * y + x) 1)) 93 (fup (h 93) (10 * y + x + 11) (-1))) 73 32 = (g140_148 73) 32 := congrFun ((sOf_ne _ _ (by decide)).trans ((sOf_ne _ _ (by decide)).trans (hG_150.1 73 (by decide)))) 32
                  have e184_73_34 : (setO (setO g168_150 85 (fup (h 85) (64 * ((h 73) 26) + 8 * y + x) 1)) 93 (fup (h 93) (10 * y + x + 11) (-1))) 73 34 = (g140_148 73) 34 := congrFun ((sOf_ne _ _ (by decide)).trans ((sOf_ne _ _ (by decide)).trans (hG_150.1 73 (by decide)))) 34
                  have e185_73_36 : (setO (setO g168_150 85 (fup (h 85) (64 * ((h 73) 26) + 8 * y + x) 1)) 93 (fup (h 93) (10 * y + x + 11) (-1))) 73 36 = (g140_148 73) 36 := congrFun ((sOf_ne _ _ (by decide)).trans ((sOf_ne _ _ (by decide)).trans (hG_150.1 73 (by decide)))) 36
                  have e186_96 : (setO (setO g168_150 85 (fup (h 85) (64 * ((h 73) 26) + 8 * y + x) 1)) 93 (fup (h 93) (10 * y + x + 11) (-1))) 96 = g140_148 96 := (sOf_ne _ _ (by decide)).trans ((sOf_ne _ _ (by decide)).trans (hG_150.1 96 (by decide)))
                  have e187_93 : (setO (setO g168_150 85 (fup (h 85) (64 * ((h 73) 26) + 8 * y + x) 1)) 93 (fup (h 93) (10 * y + x + 11) (-1))) 93 = fup (h 93) (10 * y + x + 11) (-1) := sOf_eq _ _ _
                  have e188_84 : (setO (setO g168_150 85 (fup (h 85) (64 * ((h 73) 26) + 8 * y + x) 1)) 93 (fup (h 93) (10 * y + x + 11) (-1))) 84 = h 84 := (sOf_ne _ _ (by decide)).trans ((sOf_ne _ _ (by decide)).trans (((hG_150.1 84 (by decide))).trans (((hG_148.1 84 (by decide))).trans (((hG_10.1 84 (by decide))).trans (((hG_7.1 84 (by decide))).trans (((hG_4.1 84 (by decide))).trans (hG_1.1 84 (by decide))))))))
                  have e189_85 : (setO (setO g168_150 85 (fup (h 85) (64 * ((h 73) 26) + 8 * y + x) 1)) 93 (fup (h 93) (10 * y + x + 11) (-1))) 85 = fup (h 85) (64 * ((h 73) 26) + 8 * y + x) 1 := (sOf_ne _ _ (by decide)).trans (sOf_eq _ _ _)
                  exact ⟨⟨hT_180, hF_180⟩, rfl, (by rewrite [e183_73_32]; omega), (by rewrite [e184_73_34, e185_73_36, e186_96]; omega), (by rewrite [e187_93]; intro w e h1 h2 h3 h4 h5; exact ZC_up ⟨hx.1, h1⟩ h2 ⟨hy.1, h3⟩ h4 h5 (by decide)), (by rewrite [e188_84, e189_85]; intro j hj; exact ⟨(by first | rfl | exact fup_ne _ _ (by omega)), (by by_cases e : j = 64 * (h 73 26) + 8 * y + x; (rw [e, fup_eq]; omega); exact fup_ne _ _ e)⟩)⟩
                · refine TT_aload_n hK rfl 2 rfl dX12_wake_208 ?_
                  refine gf_X12_47 hK (by decide) rfl (q := 84) rfl rfl dX12_wake_209 ?_
                  refine TT_aload_n hK rfl 2 rfl dX12_wake_212 ?_
                  refine TT_iload_n hK rfl 3 rfl dX12_wake_213 ?_
                  refine TT_iload_n hK rfl 4 rfl dX12_wake_214 ?_
                  refine iv_X12_249 hK (s_X12_cell_73 x y (setO (setO g168_150 85 (fup (h 85) (64 * ((h 73) 26) + 8 * y + x) 1)) 93 (fup (h 93) (10 * y + x + 11) (-1))) hT_180 (by first | omega | (simp [up, setR] <;> omega)) (by first | omega | (simp [up, setR] <;> omega))) (by decide) rfl ⟨by decide, by decide⟩ (by decide) rfl rfl (Nat.le_of_ble_eq_true rfl) ⟨by decide, by decide⟩ dX12_wake_215 ?_
                  intro r9 g215_190 hp9
                  obtain ⟨⟨hT_190, hG_190⟩, z215_190, hr9, hz_190, p1_190⟩ := hp9
                  rw [hr9]
                  have hF_190 : FRM [73, 84, 85, 93, 96, 97, 98] [28, 32, 33, 34, 36, 39] h g215_190 := FRM_tr hF_180 hG_190 (by decide) (by decide)
                  rw [show (setO (setO g168_150 85 (fup (h 85) (64 * ((h 73) 26) + 8 * y + x) 1)) 93 (fup (h 93) (10 * y + x + 11) (-1))) 73 26 = (h 73) 26 from (congrFun ((sOf_ne _ _ (by decide)).trans ((sOf_ne _ _ (by decide)).trans (hG_150.1 73 (by decide)))) 26).trans (((hG_148.2 26 (by decide))).trans ((congrFun (hG_10.1 73 (by decide)) 26).trans ((congrFun (hG_7.1 73 (by decide)) 26).trans ((congrFun (hG_4.1 73 (by decide)) 26).trans (congrFun (hG_1.1 73 (by decide)) 26)))))] at p1_190
                  show TT K ly 0 0 218 [(8, vI z140_148), (9, vI z140_148), (0, vR 73), (1, vI x), (2, vI y), (3, vI (10 * y + x + 11)), (4, vI a), (5, vI b), (6, vI t9), (7, vI cx)] [vI z215_190, vR 84] g215_190
                  refine TT_cgI (b := 64 * ((h 73) 26) + 8 * y + x) (by omega) ?_
                  refine TT_aload_n hK rfl 2 rfl dX12_wake_218 ?_
                  refine gf_X12_47 hK (by decide) rfl (q := 84) rfl rfl dX12_wake_219 ?_
                  refine TT_aload_n hK rfl 2 rfl dX12_wake_222 ?_
                  refine TT_iload_n hK rfl 3 rfl dX12_wake_223 ?_
                  refine TT_iload_n hK rfl 4 rfl dX12_wake_224 ?_
                  refine iv_X12_249 hK (s_X12_cell_73 x y g215_190 hT_190 (by first | omega | (simp [up, setR] <;> omega)) (by first | omega | (simp [up, setR] <;> omega))) (by decide) rfl ⟨by decide, by decide⟩ (by decide) rfl rfl (Nat.le_of_ble_eq_true rfl) ⟨by decide, by decide⟩ dX12_wake_225 ?_
                  intro r9 g225_191 hp9
                  obtain ⟨⟨hT_191, hG_191⟩, z225_191, hr9, hz_191, p1_191⟩ := hp9
                  rw [hr9]
                  have hF_191 : FRM [73, 84, 85, 93, 96, 97, 98] [28, 32, 33, 34, 36, 39] h g225_191 := FRM_tr hF_190 hG_191 (by decide) (by decide)
                  rw [show g215_190 73 26 = (h 73) 26 from (congrFun (hG_190.1 73 (by decide)) 26).trans ((congrFun ((sOf_ne _ _ (by decide)).trans ((sOf_ne _ _ (by decide)).trans (hG_150.1 73 (by decide)))) 26).trans (((hG_148.2 26 (by decide))).trans ((congrFun (hG_10.1 73 (by decide)) 26).trans ((congrFun (hG_7.1 73 (by decide)) 26).trans ((congrFun (hG_4.1 73 (by decide)) 26).trans (congrFun (hG_1.1 73 (by decide)) 26))))))] at p1_191
                  show TT K ly 0 0 228 [(8, vI z140_148), (9, vI z140_148), (0, vR 73), (1, vI x), (2, vI y), (3, vI (10 * y + x + 11)), (4, vI a), (5, vI b), (6, vI t9), (7, vI cx)] [vI z225_191, vR 84, vI (64 * ((h 73) 26) + 8 * y + x), vR 84] g225_191
                  refine TT_cgI (b := 64 * ((h 73) 26) + 8 * y + x) (by omega) ?_
                  refine TT_iald hK (o := 84) (n := 1280) (by decide) rfl (by first | omega | (simp [up, setR] <;> omega)) (by first | omega | (simp [up, setR] <;> omega)) (v := (h 84) (64 * ((h 73) 26) + 8 * y + x)) (rd_ (((hG_191.1 84 (by decide))).trans (((hG_190.1 84 (by decide))).trans ((sOf_ne _ _ (by decide)).trans ((sOf_ne _ _ (by decide)).trans (((hG_150.1 84 (by decide))).trans (((hG_148.1 84 (by decide))).trans (((hG_10.1 84 (by decide))).trans (((hG_7.1 84 (by decide))).trans (((hG_4.1 84 (by decide))).trans (hG_1.1 84 (by decide))))))))))) rfl) dX12_wake_228 ?_
                  have r192 := ty_84 (i := 64 * ((h 73) 26) + 8 * y + x) (v := (h 84) (64 * ((h 73) 26) + 8 * y + x)) hT_191 (rd_ (((hG_191.1 84 (by decide))).trans (((hG_190.1 84 (by decide))).trans ((sOf_ne _ _ (by decide)).trans ((sOf_ne _ _ (by decide)).trans (((hG_150.1 84 (by decide))).trans (((hG_148.1 84 (by decide))).trans (((hG_10.1 84 (by decide))).trans (((hG_7.1 84 (by decide))).trans (((hG_4.1 84 (by decide))).trans (hG_1.1 84 (by decide))))))))))) rfl) (by omega) (by omega)
                  refine TT_iconst hK dX12_wake_229 ?_
                  refine TT_aload_n hK rfl 2 rfl dX12_wake_230 ?_
                  refine gf_X12_252 hK (by decide) rfl (v := (h 73) 27) ((congrFun (hG_191.1 73 (by decide)) 27).trans ((congrFun (hG_190.1 73 (by decide)) 27).trans ((congrFun ((sOf_ne _ _ (by decide)).trans ((sOf_ne _ _ (by decide)).trans (hG_150.1 73 (by decide)))) 27).trans (((hG_148.2 27 (by decide))).trans ((congrFun (hG_10.1 73 (by decide)) 27).trans ((congrFun (hG_7.1 73 (by decide)) 27).trans ((congrFun (hG_4.1 73 (by decide)) 27).trans (congrFun (hG_1.1 73 (by decide)) 27)))))))) dX12_wake_231 ?_
                  have r193 := ty_73_27 (v := (h 73) 27) hT_191 ((congrFun (hG_191.1 73 (by decide)) 27).trans ((congrFun (hG_190.1 73 (by decide)) 27).trans ((congrFun ((sOf_ne _ _ (by decide)).trans ((sOf_ne _ _ (by decide)).trans (hG_150.1 73 (by decide)))) 27).trans (((hG_148.2 27 (by decide))).trans ((congrFun (hG_10.1 73 (by decide)) 27).trans ((congrFun (hG_7.1 73 (by decide)) 27).trans ((congrFun (hG_4.1 73 (by decide)) 27).trans (congrFun (hG_1.1 73 (by decide)) 27))))))))
                  refine TT_ishl_a hK dX12_wake_234 (fun x234_194 hx194 => ?_)
                  refine TT_ior hK dX12_wake_235 ?_
                  refine TT_w32 (fun x236_195 hx195 => ?_)
                  refine TT_iast hK (o := 84) (n := 1280) (by decide) rfl (by omega) (by omega) dX12_wake_236 ?_
                  refine TT_hp (h' := setO g225_191 84 (fup (h 84) (64 * ((h 73) 26) + 8 * y + x) x236_195)) (up_can (((hG_191.1 84 (by decide))).trans (((hG_190.1 84 (by decide))).trans ((sOf_ne _ _ (by decide)).trans ((sOf_ne _ _ (by decide)).trans (((hG_150.1 84 (by decide))).trans (((hG_148.1 84 (by decide))).trans (((hG_10.1 84 (by decide))).trans (((hG_7.1 84 (by decide))).trans (((hG_4.1 84 (by decide))).trans (hG_1.1 84 (by decide))))))))))) rfl rfl) ?_
                  have hT_196 : TY (setO g225_191 84 (fup (h 84) (64 * ((h 73) 26) + 8 * y + x) x236_195)) := tu_84 hT_191 (show up g225_191 84 (64 * ((h 73) 26) + 8 * y + x) x236_195 = (setO g225_191 84 (fup (h 84) (64 * ((h 73) 26) + 8 * y + x) x236_195)) from up_can (((hG_191.1 84 (by decide))).trans (((hG_190.1 84 (by decide))).trans ((sOf_ne _ _ (by decide)).trans ((sOf_ne _ _ (by decide)).trans (((hG_150.1 84 (by decide))).trans (((hG_148.1 84 (by decide))).trans (((hG_10.1 84 (by decide))).trans (((hG_7.1 84 (by decide))).trans (((hG_4.1 84 (by decide))).trans (hG_1.1 84 (by decide))))))))))) rfl rfl) (by omega)
                  have hF_196 : FRM [73, 84, 85, 93, 96, 97, 98] [28, 32, 33, 34, 36, 39] h (setO g225_191 84 (fup (h 84) (64 * ((h 73) 26) + 8 * y + x) x236_195)) := FRM_up (show up g225_191 84 (64 * ((h 73) 26) + 8 * y + x) x236_195 = (setO g225_191 84 (fup (h 84) (64 * ((h 73) 26) + 8 * y + x) x236_195)) from up_can (((hG_191.1 84 (by decide))).trans (((hG_190.1 84 (by decide))).trans ((sOf_ne _ _ (by decide)).trans ((sOf_ne _ _ (by decide)).trans (((hG_150.1 84 (by decide))).trans (((hG_148.1 84 (by decide))).trans (((hG_10.1 84 (by decide))).trans (((hG_7.1 84 (by decide))).trans (((hG_4.1 84 (by decide))).trans (hG_1.1 84 (by decide))))))))))) rfl rfl) hF_191 (by decide) (by decide)
                  refine TT_vret hK hQ ?_ dX12_wake_237
                  have e197_73_32 : (setO g225_191 84 (fup (h 84) (64 * ((h 73) 26) + 8 * y + x) x236_195)) 73 32 = (g140_148 73) 32 := (congrFun ((sOf_ne _ _ (by decide)).trans (hG_191.1 73 (by decide))) 32).trans ((congrFun (hG_190.1 73 (by decide)) 32).trans (congrFun ((sOf_ne _ _ (by decide)).trans ((sOf_ne _ _ (by decide)).trans (hG_150.1 73 (by decide)))) 32))
                  have e198_73_34 : (setO g225_191 84 (fup (h 84) (64 * ((h 73) 26) + 8 * y + x) x236_195)) 73 34 = (g140_148 73) 34 := (congrFun ((sOf_ne _ _ (by decide)).trans (hG_191.1 73 (by decide))) 34).trans ((congrFun (hG_190.1 73 (by decide)) 34).trans (congrFun ((sOf_ne _ _ (by decide)).trans ((sOf_ne _ _ (by decide)).trans (hG_150.1 73 (by decide)))) 34))
                  have e199_73_36 : (setO g225_191 84 (fup (h 84) (64 * ((h 73) 26) + 8 * y + x) x236_195)) 73 36 = (g140_148 73) 36 := (congrFun ((sOf_ne _ _ (by decide)).trans (hG_191.1 73 (by decide))) 36).trans ((congrFun (hG_190.1 73 (by decide)) 36).trans (congrFun ((sOf_ne _ _ (by decide)).trans ((sOf_ne _ _ (by decide)).trans (hG_150.1 73 (by decide)))) 36))
                  have e200_96 : (setO g225_191 84 (fup (h 84) (64 * ((h 73) 26) + 8 * y + x) x236_195)) 96 = g140_148 96 := (sOf_ne _ _ (by decide)).trans (((hG_191.1 96 (by decide))).trans (((hG_190.1 96 (by decide))).trans ((sOf_ne _ _ (by decide)).trans ((sOf_ne _ _ (by decide)).trans (hG_150.1 96 (by decide))))))
                  have e201_93 : (setO g225_191 84 (fup (h 84) (64 * ((h 73) 26) + 8 * y + x) x236_195)) 93 = fup (h 93) (10 * y + x + 11) (-1) := (sOf_ne _ _ (by decide)).trans (((hG_191.1 93 (by decide))).trans (((hG_190.1 93 (by decide))).trans (sOf_eq _ _ _)))
                  have e202_84 : (setO g225_191 84 (fup (h 84) (64 * ((h 73) 26) + 8 * y + x) x236_195)) 84 = fup (h 84) (64 * ((h 73) 26) + 8 * y + x) x236_195 := sOf_eq _ _ _
                  have e203_85 : (setO g225_191 84 (fup (h 84) (64 * ((h 73) 26) + 8 * y + x) x236_195)) 85 = fup (h 85) (64 * ((h 73) 26) + 8 * y + x) 1 := (sOf_ne _ _ (by decide)).trans (((hG_191.1 85 (by decide))).trans (((hG_190.1 85 (by decide))).trans ((sOf_ne _ _ (by decide)).trans (sOf_eq _ _ _))))
                  exact ⟨⟨hT_196, hF_196⟩, rfl, (by rewrite [e197_73_32]; omega), (by rewrite [e198_73_34, e199_73_36, e200_96]; omega), (by rewrite [e201_93]; intro w e h1 h2 h3 h4 h5; exact ZC_up ⟨hx.1, h1⟩ h2 ⟨hy.1, h3⟩ h4 h5 (by decide)), (by rewrite [e202_84, e203_85]; intro j hj; exact ⟨(by first | rfl | exact fup_ne _ _ (by omega)), (by by_cases e : j = 64 * (h 73 26) + 8 * y + x; (rw [e, fup_eq]; omega); exact fup_ne _ _ e)⟩)⟩
          · exfalso; omega
        · refine TT_iconst hK dX12_wake_131 ?_
          refine TT_iload hK 0 rfl dX12_wake_132 ?_
          refine TT_isub hK dX12_wake_134 ?_
          refine TT_goto hK (tgt := 140) dX12_wake_135 (by decide) ?_
          have e204_74 : g109_10 74 = h 74 := ((hG_10.1 74 (by decide))).trans (((hG_7.1 74 (by decide))).trans (((hG_4.1 74 (by decide))).trans (hG_1.1 74 (by decide))))
          have e205_75 : g109_10 75 = h 75 := ((hG_10.1 75 (by decide))).trans (((hG_7.1 75 (by decide))).trans (((hG_4.1 75 (by decide))).trans (hG_1.1 75 (by decide))))
          have e206_73_32 : g109_10 73 32 = (h 73) 32 := (congrFun (hG_10.1 73 (by decide)) 32).trans ((congrFun (hG_7.1 73 (by decide)) 32).trans ((congrFun (hG_4.1 73 (by decide)) 32).trans (congrFun (hG_1.1 73 (by decide)) 32)))
          have e207_73_29 : g109_10 73 29 = (h 73) 29 := (congrFun (hG_10.1 73 (by decide)) 29).trans ((congrFun (hG_7.1 73 (by decide)) 29).trans ((congrFun (hG_4.1 73 (by decide)) 29).trans (congrFun (hG_1.1 73 (by decide)) 29)))
          have e208_73_34 : g109_10 73 34 = (h 73) 34 := (congrFun (hG_10.1 73 (by decide)) 34).trans ((congrFun (hG_7.1 73 (by decide)) 34).trans ((congrFun (hG_4.1 73 (by decide)) 34).trans (congrFun (hG_1.1 73 (by decide)) 34)))
          have e209_73_36 : g109_10 73 36 = (h 73) 36 := (congrFun (hG_10.1 73 (by decide)) 36).trans ((congrFun (hG_7.1 73 (by decide)) 36).trans ((congrFun (hG_4.1 73 (by decide)) 36).trans (congrFun (hG_1.1 73 (by decide)) 36)))
          have e210_96 : g109_10 96 = h 96 := ((hG_10.1 96 (by decide))).trans (((hG_7.1 96 (by decide))).trans (((hG_4.1 96 (by decide))).trans (hG_1.1 96 (by decide))))
          refine iv_X12_258 hK (s_code_k cx (1 - 1) g109_10 hT_10 (by first | omega | (simp [up, setR] <;> omega)) (by first | omega | (simp [up, setR] <;> omega)) (by rewrite [e204_74, e205_75]; first | assumption | exact htb) (by rewrite [e206_73_32]; first | omega | (simp [up, setR] <;> omega)) (by rewrite [e207_73_29, e208_73_34, e209_73_36, e210_96]; first | omega | (simp [up, setR] <;> omega))) (by decide) rfl ⟨by decide, by decide⟩ (by decide) rfl rfl (Nat.le_of_ble_eq_true rfl) ⟨by decide, by decide⟩ dX12_wake_140 ?_
          intro r9 g140_211 hp9
          obtain ⟨⟨hT_211, hG_211⟩, z140_211, hr9, hz_211, pa_211, pm_211, pc_211⟩ := hp9
          rw [hr9]
          have hF_211 : FRM [73, 84, 85, 93, 96, 97, 98] [28, 32, 33, 34, 36, 39] h g140_211 := FRM_tr hF_10 hG_211 (by decide) (by decide)
          rw [show g109_10 73 29 = (h 73) 29 from (congrFun (hG_10.1 73 (by decide)) 29).trans ((congrFun (hG_7.1 73 (by decide)) 29).trans ((congrFun (hG_4.1 73 (by decide)) 29).trans (congrFun (hG_1.1 73 (by decide)) 29)))] at pm_211
          rw [show g109_10 73 34 = (h 73) 34 from (congrFun (hG_10.1 73 (by decide)) 34).trans ((congrFun (hG_7.1 73 (by decide)) 34).trans ((congrFun (hG_4.1 73 (by decide)) 34).trans (congrFun (hG_1.1 73 (by decide)) 34)))] at pm_211
          rw [show g109_10 73 36 = (h 73) 36 from (congrFun (hG_10.1 73 (by decide)) 36).trans ((congrFun (hG_7.1 73 (by decide)) 36).trans ((congrFun (hG_4.1 73 (by decide)) 36).trans (congrFun (hG_1.1 73 (by decide)) 36)))] at pm_211
          rw [show g109_10 96 = h 96 from ((hG_10.1 96 (by decide))).trans (((hG_7.1 96 (by decide))).trans (((hG_4.1 96 (by decide))).trans (hG_1.1 96 (by decide))))] at pm_211
          rw [show g109_10 73 29 = (h 73) 29 from (congrFun (hG_10.1 73 (by decide)) 29).trans ((congrFun (hG_7.1 73 (by decide)) 29).trans ((congrFun (hG_4.1 73 (by decide)) 29).trans (congrFun (hG_1.1 73 (by decide)) 29)))] at pc_211
          show TT K ly 0 0 143 [(8, vI 1), (0, vR 73), (1, vI x), (2, vI y), (3, vI (10 * y + x + 11)), (4, vI a), (5, vI b), (6, vI t9), (7, vI cx)] [vI z140_211] g140_211
          refine TT_istore hK (lv' := [(9, vI z140_211), (8, vI 1), (0, vR 73), (1, vI x), (2, vI y), (3, vI (10 * y + x + 11)), (4, vI a), (5, vI b), (6, vI t9), (7, vI cx)]) (by decide) rfl dX12_wake_143 ?_
          refine TT_iload hK 8 rfl dX12_wake_145 ?_
          refine TT_if_eq hK (tgt := 157) (irm (by omega) (by omega)) dX12_wake_147 (by decide) (fun hb147_212 => ?_) (fun hb147_212 => ?_)
          · exfalso; omega
          · refine TT_iconst hK dX12_wake_150 ?_
            refine TT_iload hK 0 rfl dX12_wake_151 ?_
            refine TT_isub hK dX12_wake_153 ?_
            refine TT_goto hK (tgt := 159) dX12_wake_154 (by decide) ?_
            refine TT_istore hK (lv' := [(8, vI (1 - z140_211)), (9, vI z140_211), (0, vR 73), (1, vI x), (2, vI y), (3, vI (10 * y + x + 11)), (4, vI a), (5, vI b), (6, vI t9), (7, vI cx)]) (by decide) rfl dX12_wake_159 ?_
            refine TT_aload_n hK rfl 2 rfl dX12_wake_161 ?_
            refine gf_X12_50 hK (by decide) rfl (q := 85) rfl rfl dX12_wake_162 ?_
            refine TT_aload_n hK rfl 2 rfl dX12_wake_165 ?_
            refine TT_iload_n hK rfl 3 rfl dX12_wake_166 ?_
            refine TT_iload_n hK rfl 4 rfl dX12_wake_167 ?_
            refine iv_X12_249 hK (s_X12_cell_73 x y g140_211 hT_211 (by first | omega | (simp [up, setR] <;> omega)) (by first | omega | (simp [up, setR] <;> omega))) (by decide) rfl ⟨by decide, by decide⟩ (by decide) rfl rfl (Nat.le_of_ble_eq_true rfl) ⟨by decide, by decide⟩ dX12_wake_168 ?_
            intro r9 g168_213 hp9
            obtain ⟨⟨hT_213, hG_213⟩, z168_213, hr9, hz_213, p1_213⟩ := hp9
            rw [hr9]
            have hF_213 : FRM [73, 84, 85, 93, 96, 97, 98] [28, 32, 33, 34, 36, 39] h g168_213 := FRM_tr hF_211 hG_213 (by decide) (by decide)
            rw [show g140_211 73 26 = (h 73) 26 from ((hG_211.2 26 (by decide))).trans ((congrFun (hG_10.1 73 (by decide)) 26).trans ((congrFun (hG_7.1 73 (by decide)) 26).trans ((congrFun (hG_4.1 73 (by decide)) 26).trans (congrFun (hG_1.1 73 (by decide)) 26))))] at p1_213
            show TT K ly 0 0 171 [(8, vI (1 - z140_211)), (9, vI z140_211), (0, vR 73), (1, vI x), (2, vI y), (3, vI (10 * y + x + 11)), (4, vI a), (5, vI b), (6, vI t9), (7, vI cx)] [vI z168_213, vR 85] g168_213
            refine TT_cgI (b := 64 * ((h 73) 26) + 8 * y + x) (by omega) ?_
            refine TT_iload hK 0 rfl dX12_wake_171 ?_
            refine TT_iconst hK dX12_wake_173 ?_
            refine TT_icmp_ne hK (tgt := 181) (irm (by omega) (by omega)) (by decide) dX12_wake_174 (by decide) (fun hb174_214 => ?_) (fun hb174_214 => ?_)
            · refine TT_iconst hK dX12_wake_181 ?_
              refine TT_zast hK (o := 85) (n := 1280) (by decide) rfl (by omega) (by omega) (by first | decide | omega) dX12_wake_182 ?_
              refine TT_hp (h' := setO g168_213 85 (fup (h 85) (64 * ((h 73) 26) + 8 * y + x) 0)) (up_can (((hG_213.1 85 (by decide))).trans (((hG_211.1 85 (by decide))).trans (((hG_10.1 85 (by decide))).trans (((hG_7.1 85 (by decide))).trans (((hG_4.1 85 (by decide))).trans (hG_1.1 85 (by decide))))))) rfl rfl) ?_
              have hT_215 : TY (setO g168_213 85 (fup (h 85) (64 * ((h 73) 26) + 8 * y + x) 0)) := tu_85 hT_213 (show up g168_213 85 (64 * ((h 73) 26) + 8 * y + x) 0 = (setO g168_213 85 (fup (h 85) (64 * ((h 73) 26) + 8 * y + x) 0)) from up_can (((hG_213.1 85 (by decide))).trans (((hG_211.1 85 (by decide))).trans (((hG_10.1 85 (by decide))).trans (((hG_7.1 85 (by decide))).trans (((hG_4.1 85 (by decide))).trans (hG_1.1 85 (by decide))))))) rfl rfl) (by omega)
              have hF_215 : FRM [73, 84, 85, 93, 96, 97, 98] [28, 32, 33, 34, 36, 39] h (setO g168_213 85 (fup (h 85) (64 * ((h 73) 26) + 8 * y + x) 0)) := FRM_up (show up g168_213 85 (64 * ((h 73) 26) + 8 * y + x) 0 = (setO g168_213 85 (fup (h 85) (64 * ((h 73) 26) + 8 * y + x) 0)) from up_can (((hG_213.1 85 (by decide))).trans (((hG_211.1 85 (by decide))).trans (((hG_10.1 85 (by decide))).trans (((hG_7.1 85 (by decide))).trans (((hG_4.1 85 (by decide))).trans (hG_1.1 85 (by decide))))))) rfl rfl) hF_213 (by decide) (by decide)
              refine TT_aload_n hK rfl 2 rfl dX12_wake_183 ?_
              refine gf_X12_75 hK (by decide) rfl (q := 93) rfl rfl dX12_wake_184 ?_
              refine TT_iload_n hK rfl 5 rfl dX12_wake_187 ?_
              refine TT_iload hK 0 rfl dX12_wake_188 ?_
              refine TT_iconst hK dX12_wake_190 ?_
              refine TT_icmp_ne hK (tgt := 198) (irm (by omega) (by omega)) (by decide) dX12_wake_191 (by decide) (fun hb191_216 => ?_) (fun hb191_216 => ?_)
              · refine TT_iconst hK dX12_wake_198 ?_
                refine TT_iast hK (o := 93) (n := 100) (by decide) rfl (by omega) (by omega) dX12_wake_199 ?_
                refine TT_hp (h' := setO (setO g168_213 85 (fup (h 85) (64 * ((h 73) 26) + 8 * y + x) 0)) 93 (fup (h 93) (10 * y + x + 11) 1)) (up_can ((sOf_ne _ _ (by decide)).trans (((hG_213.1 93 (by decide))).trans (((hG_211.1 93 (by decide))).trans (((hG_10.1 93 (by decide))).trans (((hG_7.1 93 (by decide))).trans (((hG_4.1 93 (by decide))).trans (hG_1.1 93 (by decide)))))))) rfl rfl) ?_
                have hT_217 : TY (setO (setO g168_213 85 (fup (h 85) (64 * ((h 73) 26) + 8 * y + x) 0)) 93 (fup (h 93) (10 * y + x + 11) 1)) := tu_93 hT_215 (show up (setO g168_213 85 (fup (h 85) (64 * ((h 73) 26) + 8 * y + x) 0)) 93 (10 * y + x + 11) 1 = (setO (setO g168_213 85 (fup (h 85) (64 * ((h 73) 26) + 8 * y + x) 0)) 93 (fup (h 93) (10 * y + x + 11) 1)) from up_can ((sOf_ne _ _ (by decide)).trans (((hG_213.1 93 (by decide))).trans (((hG_211.1 93 (by decide))).trans (((hG_10.1 93 (by decide))).trans (((hG_7.1 93 (by decide))).trans (((hG_4.1 93 (by decide))).trans (hG_1.1 93 (by decide)))))))) rfl rfl) (by omega)
                have hF_217 : FRM [73, 84, 85, 93, 96, 97, 98] [28, 32, 33, 34, 36, 39] h (setO (setO g168_213 85 (fup (h 85) (64 * ((h 73) 26) + 8 * y + x) 0)) 93 (fup (h 93) (10 * y + x + 11) 1)) := FRM_up (show up (setO g168_213 85 (fup (h 85) (64 * ((h 73) 26) + 8 * y + x) 0)) 93 (10 * y + x + 11) 1 = (setO (setO g168_213 85 (fup (h 85) (64 * ((h 73) 26) + 8 * y + x) 0)) 93 (fup (h 93) (10 * y + x + 11) 1)) from up_can ((sOf_ne _ _ (by decide)).trans (((hG_213.1 93 (by decide))).trans (((hG_211.1 93 (by decide))).trans (((hG_10.1 93 (by decide))).trans (((hG_7.1 93 (by decide))).trans (((hG_4.1 93 (by decide))).trans (hG_1.1 93 (by decide)))))))) rfl rfl) hF_215 (by decide) (by decide)
                refine TT_aload_n hK rfl 2 rfl dX12_wake_200 ?_
                refine gf_X12_163 hK (by decide) rfl (v := (h 73) 29) ((congrFun ((sOf_ne _ _ (by decide)).trans ((sOf_ne _ _ (by decide)).trans (hG_213.1 73 (by decide)))) 29).trans (((hG_211.2 29 (by decide))).trans ((congrFun (hG_10.1 73 (by decide)) 29).trans ((congrFun (hG_7.1 73 (by decide)) 29).trans ((congrFun (hG_4.1 73 (by decide)) 29).trans (congrFun (hG_1.1 73 (by decide)) 29)))))) dX12_wake_201 ?_
                have r218 := ty_73_29 (v := (h 73) 29) hT_217 ((congrFun ((sOf_ne _ _ (by decide)).trans ((sOf_ne _ _ (by decide)).trans (hG_213.1 73 (by decide)))) 29).trans (((hG_211.2 29 (by decide))).trans ((congrFun (hG_10.1 73 (by decide)) 29).trans ((congrFun (hG_7.1 73 (by decide)) 29).trans ((congrFun (hG_4.1 73 (by decide)) 29).trans (congrFun (hG_1.1 73 (by decide)) 29))))))
                refine TT_iconst hK dX12_wake_204 ?_
                refine TT_icmp_ne hK (tgt := 237) (irm (by omega) (by omega)) (by decide) dX12_wake_205 (by decide) (fun hb205_219 => ?_) (fun hb205_219 => ?_)
                · refine TT_vret hK hQ ?_ dX12_wake_237
                  have e220_73_32 : (setO (setO g168_213 85 (fup (h 85) (64 * ((h 73) 26) + 8 * y + x) 0)) 93 (fup (h 93) (10 * y + x + 11) 1)) 73 32 = (g140_211 73) 32 := congrFun ((sOf_ne _ _ (by decide)).trans ((sOf_ne _ _ (by decide)).trans (hG_213.1 73 (by decide)))) 32
                  have e221_73_34 : (setO (setO g168_213 85 (fup (h 85) (64 * ((h 73) 26) + 8 * y + x) 0)) 93 (fup (h 93) (10 * y + x + 11) 1)) 73 34 = (g140_211 73) 34 := congrFun ((sOf_ne _ _ (by decide)).trans ((sOf_ne _ _ (by decide)).trans (hG_213.1 73 (by decide)))) 34
                  have e222_73_36 : (setO (setO g168_213 85 (fup (h 85) (64 * ((h 73) 26) + 8 * y + x) 0)) 93 (fup (h 93) (10 * y + x + 11) 1)) 73 36 = (g140_211 73) 36 := congrFun ((sOf_ne _ _ (by decide)).trans ((sOf_ne _ _ (by decide)).trans (hG_213.1 73 (by decide)))) 36
                  have e223_96 : (setO (setO g168_213 85 (fup (h 85) (64 * ((h 73) 26) + 8 * y + x) 0)) 93 (fup (h 93) (10 * y + x + 11) 1)) 96 = g140_211 96 := (sOf_ne _ _ (by decide)).trans ((sOf_ne _ _ (by decide)).trans (hG_213.1 96 (by decide)))
                  have e224_93 : (setO (setO g168_213 85 (fup (h 85) (64 * ((h 73) 26) + 8 * y + x) 0)) 93 (fup (h 93) (10 * y + x + 11) 1)) 93 = fup (h 93) (10 * y + x + 11) 1 := sOf_eq _ _ _
                  have e225_84 : (setO (setO g168_213 85 (fup (h 85) (64 * ((h 73) 26) + 8 * y + x) 0)) 93 (fup (h 93) (10 * y + x + 11) 1)) 84 = h 84 := (sOf_ne _ _ (by decide)).trans ((sOf_ne _ _ (by decide)).trans (((hG_213.1 84 (by decide))).trans (((hG_211.1 84 (by decide))).trans (((hG_10.1 84 (by decide))).trans (((hG_7.1 84 (by decide))).trans (((hG_4.1 84 (by decide))).trans (hG_1.1 84 (by decide))))))))
                  have e226_85 : (setO (setO g168_213 85 (fup (h 85) (64 * ((h 73) 26) + 8 * y + x) 0)) 93 (fup (h 93) (10 * y + x + 11) 1)) 85 = fup (h 85) (64 * ((h 73) 26) + 8 * y + x) 0 := (sOf_ne _ _ (by decide)).trans (sOf_eq _ _ _)
                  exact ⟨⟨hT_217, hF_217⟩, rfl, (by rewrite [e220_73_32]; omega), (by rewrite [e221_73_34, e222_73_36, e223_96]; omega), (by rewrite [e224_93]; intro w e h1 h2 h3 h4 h5; exact ZC_up ⟨hx.1, h1⟩ h2 ⟨hy.1, h3⟩ h4 h5 (by decide)), (by rewrite [e225_84, e226_85]; intro j hj; exact ⟨(by first | rfl | exact fup_ne _ _ (by omega)), (by by_cases e : j = 64 * (h 73 26) + 8 * y + x; (rw [e, fup_eq]; omega); exact fup_ne _ _ e)⟩)⟩
                · refine TT_aload_n hK rfl 2 rfl dX12_wake_208 ?_
                  refine gf_X12_47 hK (by decide) rfl (q := 84) rfl rfl dX12_wake_209 ?_
                  refine TT_aload_n hK rfl 2 rfl dX12_wake_212 ?_
                  refine TT_iload_n hK rfl 3 rfl dX12_wake_213 ?_
                  refine TT_iload_n hK rfl 4 rfl dX12_wake_214 ?_
                  refine iv_X12_249 hK (s_X12_cell_73 x y (setO (setO g168_213 85 (fup (h 85) (64 * ((h 73) 26) + 8 * y + x) 0)) 93 (fup (h 93) (10 * y + x + 11) 1)) hT_217 (by first | omega | (simp [up, setR] <;> omega)) (by first | omega | (simp [up, setR] <;> omega))) (by decide) rfl ⟨by decide, by decide⟩ (by decide) rfl rfl (Nat.le_of_ble_eq_true rfl) ⟨by decide, by decide⟩ dX12_wake_215 ?_
                  intro r9 g215_227 hp9
                  obtain ⟨⟨hT_227, hG_227⟩, z215_227, hr9, hz_227, p1_227⟩ := hp9
                  rw [hr9]
                  have hF_227 : FRM [73, 84, 85, 93, 96, 97, 98] [28, 32, 33, 34, 36, 39] h g215_227 := FRM_tr hF_217 hG_227 (by decide) (by decide)
                  rw [show (setO (setO g168_213 85 (fup (h 85) (64 * ((h 73) 26) + 8 * y + x) 0)) 93 (fup (h 93) (10 * y + x + 11) 1)) 73 26 = (h 73) 26 from (congrFun ((sOf_ne _ _ (by decide)).trans ((sOf_ne _ _ (by decide)).trans (hG_213.1 73 (by decide)))) 26).trans (((hG_211.2 26 (by decide))).trans ((congrFun (hG_10.1 73 (by decide)) 26).trans ((congrFun (hG_7.1 73 (by decide)) 26).trans ((congrFun (hG_4.1 73 (by decide)) 26).trans (congrFun (hG_1.1 73 (by decide)) 26)))))] at p1_227
                  show TT K ly 0 0 218 [(8, vI (1 - z140_211)), (9, vI z140_211), (0, vR 73), (1, vI x), (2, vI y), (3, vI (10 * y + x + 11)), (4, vI a), (5, vI b), (6, vI t9), (7, vI cx)] [vI z215_227, vR 84] g215_227
                  refine TT_cgI (b := 64 * ((h 73) 26) + 8 * y + x) (by omega) ?_
                  refine TT_aload_n hK rfl 2 rfl dX12_wake_218 ?_
                  refine gf_X12_47 hK (by decide) rfl (q := 84) rfl rfl dX12_wake_219 ?_
                  refine TT_aload_n hK rfl 2 rfl dX12_wake_222 ?_
                  refine TT_iload_n hK rfl 3 rfl dX12_wake_223 ?_
                  refine TT_iload_n hK rfl 4 rfl dX12_wake_224 ?_
                  refine iv_X12_249 hK (s_X12_cell_73 x y g215_227 hT_227 (by first | omega | (simp [up, setR] <;> omega)) (by first | omega | (simp [up, setR] <;> omega))) (by decide) rfl ⟨by decide, by decide⟩ (by decide) rfl rfl (Nat.le_of_ble_eq_true rfl) ⟨by decide, by decide⟩ dX12_wake_225 ?_
                  intro r9 g225_228 hp9
                  obtain ⟨⟨hT_228, hG_228⟩, z225_228, hr9, hz_228, p1_228⟩ := hp9
                  rw [hr9]
                  have hF_228 : FRM [73, 84, 85, 93, 96, 97, 98] [28, 32, 33, 34, 36, 39] h g225_228 := FRM_tr hF_227 hG_228 (by decide) (by decide)
                  rw [show g215_227 73 26 = (h 73) 26 from (congrFun (hG_227.1 73 (by decide)) 26).trans ((congrFun ((sOf_ne _ _ (by decide)).trans ((sOf_ne _ _ (by decide)).trans (hG_213.1 73 (by decide)))) 26).trans (((hG_211.2 26 (by decide))).trans ((congrFun (hG_10.1 73 (by decide)) 26).trans ((congrFun (hG_7.1 73 (by decide)) 26).trans ((congrFun (hG_4.1 73 (by decide)) 26).trans (congrFun (hG_1.1 73 (by decide)) 26))))))] at p1_228
                  show TT K ly 0 0 228 [(8, vI (1 - z140_211)), (9, vI z140_211), (0, vR 73), (1, vI x), (2, vI y), (3, vI (10 * y + x + 11)), (4, vI a), (5, vI b), (6, vI t9), (7, vI cx)] [vI z225_228, vR 84, vI (64 * ((h 73) 26) + 8 * y + x), vR 84] g225_228
                  refine TT_cgI (b := 64 * ((h 73) 26) + 8 * y + x) (by omega) ?_
                  refine TT_iald hK (o := 84) (n := 1280) (by decide) rfl (by first | omega | (simp [up, setR] <;> omega)) (by first | omega | (simp [up, setR] <;> omega)) (v := (h 84) (64 * ((h 73) 26) + 8 * y + x)) (rd_ (((hG_228.1 84 (by decide))).trans (((hG_227.1 84 (by decide))).trans ((sOf_ne _ _ (by decide)).trans ((sOf_ne _ _ (by decide)).trans (((hG_213.1 84 (by decide))).trans (((hG_211.1 84 (by decide))).trans (((hG_10.1 84 (by decide))).trans (((hG_7.1 84 (by decide))).trans (((hG_4.1 84 (by decide))).trans (hG_1.1 84 (by decide))))))))))) rfl) dX12_wake_228 ?_
                  have r229 := ty_84 (i := 64 * ((h 73) 26) + 8 * y + x) (v := (h 84) (64 * ((h 73) 26) + 8 * y + x)) hT_228 (rd_ (((hG_228.1 84 (by decide))).trans (((hG_227.1 84 (by decide))).trans ((sOf_ne _ _ (by decide)).trans ((sOf_ne _ _ (by decide)).trans (((hG_213.1 84 (by decide))).trans (((hG_211.1 84 (by decide))).trans (((hG_10.1 84 (by decide))).trans (((hG_7.1 84 (by decide))).trans (((hG_4.1 84 (by decide))).trans (hG_1.1 84 (by decide))))))))))) rfl) (by omega) (by omega)
                  refine TT_iconst hK dX12_wake_229 ?_
                  refine TT_aload_n hK rfl 2 rfl dX12_wake_230 ?_
                  refine gf_X12_252 hK (by decide) rfl (v := (h 73) 27) ((congrFun (hG_228.1 73 (by decide)) 27).trans ((congrFun (hG_227.1 73 (by decide)) 27).trans ((congrFun ((sOf_ne _ _ (by decide)).trans ((sOf_ne _ _ (by decide)).trans (hG_213.1 73 (by decide)))) 27).trans (((hG_211.2 27 (by decide))).trans ((congrFun (hG_10.1 73 (by decide)) 27).trans ((congrFun (hG_7.1 73 (by decide)) 27).trans ((congrFun (hG_4.1 73 (by decide)) 27).trans (congrFun (hG_1.1 73 (by decide)) 27)))))))) dX12_wake_231 ?_
                  have r230 := ty_73_27 (v := (h 73) 27) hT_228 ((congrFun (hG_228.1 73 (by decide)) 27).trans ((congrFun (hG_227.1 73 (by decide)) 27).trans ((congrFun ((sOf_ne _ _ (by decide)).trans ((sOf_ne _ _ (by decide)).trans (hG_213.1 73 (by decide)))) 27).trans (((hG_211.2 27 (by decide))).trans ((congrFun (hG_10.1 73 (by decide)) 27).trans ((congrFun (hG_7.1 73 (by decide)) 27).trans ((congrFun (hG_4.1 73 (by decide)) 27).trans (congrFun (hG_1.1 73 (by decide)) 27))))))))
                  refine TT_ishl_a hK dX12_wake_234 (fun x234_231 hx231 => ?_)
                  refine TT_ior hK dX12_wake_235 ?_
                  refine TT_w32 (fun x236_232 hx232 => ?_)
                  refine TT_iast hK (o := 84) (n := 1280) (by decide) rfl (by omega) (by omega) dX12_wake_236 ?_
                  refine TT_hp (h' := setO g225_228 84 (fup (h 84) (64 * ((h 73) 26) + 8 * y + x) x236_232)) (up_can (((hG_228.1 84 (by decide))).trans (((hG_227.1 84 (by decide))).trans ((sOf_ne _ _ (by decide)).trans ((sOf_ne _ _ (by decide)).trans (((hG_213.1 84 (by decide))).trans (((hG_211.1 84 (by decide))).trans (((hG_10.1 84 (by decide))).trans (((hG_7.1 84 (by decide))).trans (((hG_4.1 84 (by decide))).trans (hG_1.1 84 (by decide))))))))))) rfl rfl) ?_
                  have hT_233 : TY (setO g225_228 84 (fup (h 84) (64 * ((h 73) 26) + 8 * y + x) x236_232)) := tu_84 hT_228 (show up g225_228 84 (64 * ((h 73) 26) + 8 * y + x) x236_232 = (setO g225_228 84 (fup (h 84) (64 * ((h 73) 26) + 8 * y + x) x236_232)) from up_can (((hG_228.1 84 (by decide))).trans (((hG_227.1 84 (by decide))).trans ((sOf_ne _ _ (by decide)).trans ((sOf_ne _ _ (by decide)).trans (((hG_213.1 84 (by decide))).trans (((hG_211.1 84 (by decide))).trans (((hG_10.1 84 (by decide))).trans (((hG_7.1 84 (by decide))).trans (((hG_4.1 84 (by decide))).trans (hG_1.1 84 (by decide))))))))))) rfl rfl) (by omega)
                  have hF_233 : FRM [73, 84, 85, 93, 96, 97, 98] [28, 32, 33, 34, 36, 39] h (setO g225_228 84 (fup (h 84) (64 * ((h 73) 26) + 8 * y + x) x236_232)) := FRM_up (show up g225_228 84 (64 * ((h 73) 26) + 8 * y + x) x236_232 = (setO g225_228 84 (fup (h 84) (64 * ((h 73) 26) + 8 * y + x) x236_232)) from up_can (((hG_228.1 84 (by decide))).trans (((hG_227.1 84 (by decide))).trans ((sOf_ne _ _ (by decide)).trans ((sOf_ne _ _ (by decide)).trans (((hG_213.1 84 (by decide))).trans (((hG_211.1 84 (by decide))).trans (((hG_10.1 84 (by decide))).trans (((hG_7.1 84 (by decide))).trans (((hG_4.1 84 (by decide))).trans (hG_1.1 84 (by decide))))))))))) rfl rfl) hF_228 (by decide) (by decide)
                  refine TT_vret hK hQ ?_ dX12_wake_237
                  have e234_73_32 : (setO g225_228 84 (fup (h 84) (64 * ((h 73) 26) + 8 * y + x) x236_232)) 73 32 = (g140_211 73) 32 := (congrFun ((sOf_ne _ _ (by decide)).trans (hG_228.1 73 (by decide))) 32).trans ((congrFun (hG_227.1 73 (by decide)) 32).trans (congrFun ((sOf_ne _ _ (by decide)).trans ((sOf_ne _ _ (by decide)).trans (hG_213.1 73 (by decide)))) 32))
                  have e235_73_34 : (setO g225_228 84 (fup (h 84) (64 * ((h 73) 26) + 8 * y + x) x236_232)) 73 34 = (g140_211 73) 34 := (congrFun ((sOf_ne _ _ (by decide)).trans (hG_228.1 73 (by decide))) 34).trans ((congrFun (hG_227.1 73 (by decide)) 34).trans (congrFun ((sOf_ne _ _ (by decide)).trans ((sOf_ne _ _ (by decide)).trans (hG_213.1 73 (by decide)))) 34))
                  have e236_73_36 : (setO g225_228 84 (fup (h 84) (64 * ((h 73) 26) + 8 * y + x) x236_232)) 73 36 = (g140_211 73) 36 := (congrFun ((sOf_ne _ _ (by decide)).trans (hG_228.1 73 (by decide))) 36).trans ((congrFun (hG_227.1 73 (by decide)) 36).trans (congrFun ((sOf_ne _ _ (by decide)).trans ((sOf_ne _ _ (by decide)).trans (hG_213.1 73 (by decide)))) 36))
                  have e237_96 : (setO g225_228 84 (fup (h 84) (64 * ((h 73) 26) + 8 * y + x) x236_232)) 96 = g140_211 96 := (sOf_ne _ _ (by decide)).trans (((hG_228.1 96 (by decide))).trans (((hG_227.1 96 (by decide))).trans ((sOf_ne _ _ (by decide)).trans ((sOf_ne _ _ (by decide)).trans (hG_213.1 96 (by decide))))))
                  have e238_93 : (setO g225_228 84 (fup (h 84) (64 * ((h 73) 26) + 8 * y + x) x236_232)) 93 = fup (h 93) (10 * y + x + 11) 1 := (sOf_ne _ _ (by decide)).trans (((hG_228.1 93 (by decide))).trans (((hG_227.1 93 (by decide))).trans (sOf_eq _ _ _)))
                  have e239_84 : (setO g225_228 84 (fup (h 84) (64 * ((h 73) 26) + 8 * y + x) x236_232)) 84 = fup (h 84) (64 * ((h 73) 26) + 8 * y + x) x236_232 := sOf_eq _ _ _
                  have e240_85 : (setO g225_228 84 (fup (h 84) (64 * ((h 73) 26) + 8 * y + x) x236_232)) 85 = fup (h 85) (64 * ((h 73) 26) + 8 * y + x) 0 := (sOf_ne _ _ (by decide)).trans (((hG_228.1 85 (by decide))).trans (((hG_227.1 85 (by decide))).trans ((sOf_ne _ _ (by decide)).trans (sOf_eq _ _ _))))
                  exact ⟨⟨hT_233, hF_233⟩, rfl, (by rewrite [e234_73_32]; omega), (by rewrite [e235_73_34, e236_73_36, e237_96]; omega), (by rewrite [e238_93]; intro w e h1 h2 h3 h4 h5; exact ZC_up ⟨hx.1, h1⟩ h2 ⟨hy.1, h3⟩ h4 h5 (by decide)), (by rewrite [e239_84, e240_85]; intro j hj; exact ⟨(by first | rfl | exact fup_ne _ _ (by omega)), (by by_cases e : j = 64 * (h 73 26) + 8 * y + x; (rw [e, fup_eq]; omega); exact fup_ne _ _ e)⟩)⟩
              · exfalso; omega
            · refine TT_iconst hK dX12_wake_177 ?_
              refine TT_goto hK (tgt := 182) dX12_wake_178 (by decide) ?_
              refine TT_zast hK (o := 85) (n := 1280) (by decide) rfl (by omega) (by omega) (by first | decide | omega) dX12_wake_182 ?_
              refine TT_hp (h' := setO g168_213 85 (fup (h 85) (64 * ((h 73) 26) + 8 * y + x) 1)) (up_can (((hG_213.1 85 (by decide))).trans (((hG_211.1 85 (by decide))).trans (((hG_10.1 85 (by decide))).trans (((hG_7.1 85 (by decide))).trans (((hG_4.1 85 (by decide))).trans (hG_1.1 85 (by decide))))))) rfl rfl) ?_
              have hT_241 : TY (setO g168_213 85 (fup (h 85) (64 * ((h 73) 26) + 8 * y + x) 1)) := tu_85 hT_213 (show up g168_213 85 (64 * ((h 73) 26) + 8 * y + x) 1 = (setO g168_213 85 (fup (h 85) (64 * ((h 73) 26) + 8 * y + x) 1)) from up_can (((hG_213.1 85 (by decide))).trans (((hG_211.1 85 (by decide))).trans (((hG_10.1 85 (by decide))).trans (((hG_7.1 85 (by decide))).trans (((hG_4.1 85 (by decide))).trans (hG_1.1 85 (by decide))))))) rfl rfl) (by omega)
              have hF_241 : FRM [73, 84, 85, 93, 96, 97, 98] [28, 32, 33, 34, 36, 39] h (setO g168_213 85 (fup (h 85) (64 * ((h 73) 26) + 8 * y + x) 1)) := FRM_up (show up g168_213 85 (64 * ((h 73) 26) + 8 * y + x) 1 = (setO g168_213 85 (fup (h 85) (64 * ((h 73) 26) + 8 * y + x) 1)) from up_can (((hG_213.1 85 (by decide))).trans (((hG_211.1 85 (by decide))).trans (((hG_10.1 85 (by decide))).trans (((hG_7.1 85 (by decide))).trans (((hG_4.1 85 (by decide))).trans (hG_1.1 85 (by decide))))))) rfl rfl) hF_213 (by decide) (by decide)
              refine TT_aload_n hK rfl 2 rfl dX12_wake_183 ?_
              refine gf_X12_75 hK (by decide) rfl (q := 93) rfl rfl dX12_wake_184 ?_
              refine TT_iload_n hK rfl 5 rfl dX12_wake_187 ?_
              refine TT_iload hK 0 rfl dX12_wake_188 ?_
              refine TT_iconst hK dX12_wake_190 ?_
              refine TT_icmp_ne hK (tgt := 198) (irm (by omega) (by omega)) (by decide) dX12_wake_191 (by decide) (fun hb191_242 => ?_) (fun hb191_242 => ?_)
              · exfalso; omega
              · refine TT_iconst hK dX12_wake_194 ?_
                refine TT_goto hK (tgt := 199) dX12_wake_195 (by decide) ?_
                refine TT_iast hK (o := 93) (n := 100) (by decide) rfl (by omega) (by omega) dX12_wake_199 ?_
                refine TT_hp (h' := setO (setO g168_213 85 (fup (h 85) (64 * ((h 73) 26) + 8 * y + x) 1)) 93 (fup (h 93) (10 * y + x + 11) (-1))) (up_can ((sOf_ne _ _ (by decide)).trans (((hG_213.1 93 (by decide))).trans (((hG_211.1 93 (by decide))).trans (((hG_10.1 93 (by decide))).trans (((hG_7.1 93 (by decide))).trans (((hG_4.1 93 (by decide))).trans (hG_1.1 93 (by decide)))))))) rfl rfl) ?_
                have hT_243 : TY (setO (setO g168_213 85 (fup (h 85) (64 * ((h 73) 26) + 8 * y + x) 1)) 93 (fup (h 93) (10 * y + x + 11) (-1))) := tu_93 hT_241 (show up (setO g168_213 85 (fup (h 85) (64 * ((h 73) 26) + 8 * y + x) 1)) 93 (10 * y + x + 11) (-1) = (setO (setO g168_213 85 (fup (h 85) (64 * ((h 73) 26) + 8 * y + x) 1)) 93 (fup (h 93) (10 * y + x + 11) (-1))) from up_can ((sOf_ne _ _ (by decide)).trans (((hG_213.1 93 (by decide))).trans (((hG_211.1 93 (by decide))).trans (((hG_10.1 93 (by decide))).trans (((hG_7.1 93 (by decide))).trans (((hG_4.1 93 (by decide))).trans (hG_1.1 93 (by decide)))))))) rfl rfl) (by omega)
                have hF_243 : FRM [73, 84, 85, 93, 96, 97, 98] [28, 32, 33, 34, 36, 39] h (setO (setO g168_213 85 (fup (h 85) (64 * ((h 73) 26) + 8 * y + x) 1)) 93 (fup (h 93) (10 * y + x + 11) (-1))) := FRM_up (show up (setO g168_213 85 (fup (h 85) (64 * ((h 73) 26) + 8 * y + x) 1)) 93 (10 * y + x + 11) (-1) = (setO (setO g168_213 85 (fup (h 85) (64 * ((h 73) 26) + 8 * y + x) 1)) 93 (fup (h 93) (10 * y + x + 11) (-1))) from up_can ((sOf_ne _ _ (by decide)).trans (((hG_213.1 93 (by decide))).trans (((hG_211.1 93 (by decide))).trans (((hG_10.1 93 (by decide))).trans (((hG_7.1 93 (by decide))).trans (((hG_4.1 93 (by decide))).trans (hG_1.1 93 (by decide)))))))) rfl rfl) hF_241 (by decide) (by decide)
                refine TT_aload_n hK rfl 2 rfl dX12_wake_200 ?_
                refine gf_X12_163 hK (by decide) rfl (v := (h 73) 29) ((congrFun ((sOf_ne _ _ (by decide)).trans ((sOf_ne _ _ (by decide)).trans (hG_213.1 73 (by decide)))) 29).trans (((hG_211.2 29 (by decide))).trans ((congrFun (hG_10.1 73 (by decide)) 29).trans ((congrFun (hG_7.1 73 (by decide)) 29).trans ((congrFun (hG_4.1 73 (by decide)) 29).trans (congrFun (hG_1.1 73 (by decide)) 29)))))) dX12_wake_201 ?_
                have r244 := ty_73_29 (v := (h 73) 29) hT_243 ((congrFun ((sOf_ne _ _ (by decide)).trans ((sOf_ne _ _ (by decide)).trans (hG_213.1 73 (by decide)))) 29).trans (((hG_211.2 29 (by decide))).trans ((congrFun (hG_10.1 73 (by decide)) 29).trans ((congrFun (hG_7.1 73 (by decide)) 29).trans ((congrFun (hG_4.1 73 (by decide)) 29).trans (congrFun (hG_1.1 73 (by decide)) 29))))))
                refine TT_iconst hK dX12_wake_204 ?_
                refine TT_icmp_ne hK (tgt := 237) (irm (by omega) (by omega)) (by decide) dX12_wake_205 (by decide) (fun hb205_245 => ?_) (fun hb205_245 => ?_)
                · refine TT_vret hK hQ ?_ dX12_wake_237
                  have e246_73_32 : (setO (setO g168_213 85 (fup (h 85) (64 * ((h 73) 26) + 8 * y + x) 1)) 93 (fup (h 93) (10 * y + x + 11) (-1))) 73 32 = (g140_211 73) 32 := congrFun ((sOf_ne _ _ (by decide)).trans ((sOf_ne _ _ (by decide)).trans (hG_213.1 73 (by decide)))) 32
                  have e247_73_34 : (setO (setO g168_213 85 (fup (h 85) (64 * ((h 73) 26) + 8 * y + x) 1)) 93 (fup (h 93) (10 * y + x + 11) (-1))) 73 34 = (g140_211 73) 34 := congrFun ((sOf_ne _ _ (by decide)).trans ((sOf_ne _ _ (by decide)).trans (hG_213.1 73 (by decide)))) 34
                  have e248_73_36 : (setO (setO g168_213 85 (fup (h 85) (64 * ((h 73) 26) + 8 * y + x) 1)) 93 (fup (h 93) (10 * y + x + 11) (-1))) 73 36 = (g140_211 73) 36 := congrFun ((sOf_ne _ _ (by decide)).trans ((sOf_ne _ _ (by decide)).trans (hG_213.1 73 (by decide)))) 36
                  have e249_96 : (setO (setO g168_213 85 (fup (h 85) (64 * ((h 73) 26) + 8 * y + x) 1)) 93 (fup (h 93) (10 * y + x + 11) (-1))) 96 = g140_211 96 := (sOf_ne _ _ (by decide)).trans ((sOf_ne _ _ (by decide)).trans (hG_213.1 96 (by decide)))
                  have e250_93 : (setO (setO g168_213 85 (fup (h 85) (64 * ((h 73) 26) + 8 * y + x) 1)) 93 (fup (h 93) (10 * y + x + 11) (-1))) 93 = fup (h 93) (10 * y + x + 11) (-1) := sOf_eq _ _ _
                  have e251_84 : (setO (setO g168_213 85 (fup (h 85) (64 * ((h 73) 26) + 8 * y + x) 1)) 93 (fup (h 93) (10 * y + x + 11) (-1))) 84 = h 84 := (sOf_ne _ _ (by decide)).trans ((sOf_ne _ _ (by decide)).trans (((hG_213.1 84 (by decide))).trans (((hG_211.1 84 (by decide))).trans (((hG_10.1 84 (by decide))).trans (((hG_7.1 84 (by decide))).trans (((hG_4.1 84 (by decide))).trans (hG_1.1 84 (by decide))))))))
                  have e252_85 : (setO (setO g168_213 85 (fup (h 85) (64 * ((h 73) 26) + 8 * y + x) 1)) 93 (fup (h 93) (10 * y + x + 11) (-1))) 85 = fup (h 85) (64 * ((h 73) 26) + 8 * y + x) 1 := (sOf_ne _ _ (by decide)).trans (sOf_eq _ _ _)
                  exact ⟨⟨hT_243, hF_243⟩, rfl, (by rewrite [e246_73_32]; omega), (by rewrite [e247_73_34, e248_73_36, e249_96]; omega), (by rewrite [e250_93]; intro w e h1 h2 h3 h4 h5; exact ZC_up ⟨hx.1, h1⟩ h2 ⟨hy.1, h3⟩ h4 h5 (by decide)), (by rewrite [e251_84, e252_85]; intro j hj; exact ⟨(by first | rfl | exact fup_ne _ _ (by omega)), (by by_cases e : j = 64 * (h 73 26) + 8 * y + x; (rw [e, fup_eq]; omega); exact fup_ne _ _ e)⟩)⟩
                · refine TT_aload_n hK rfl 2 rfl dX12_wake_208 ?_
                  refine gf_X12_47 hK (by decide) rfl (q := 84) rfl rfl dX12_wake_209 ?_
                  refine TT_aload_n hK rfl 2 rfl dX12_wake_212 ?_
                  refine TT_iload_n hK rfl 3 rfl dX12_wake_213 ?_
                  refine TT_iload_n hK rfl 4 rfl dX12_wake_214 ?_
                  refine iv_X12_249 hK (s_X12_cell_73 x y (setO (setO g168_213 85 (fup (h 85) (64 * ((h 73) 26) + 8 * y + x) 1)) 93 (fup (h 93) (10 * y + x + 11) (-1))) hT_243 (by first | omega | (simp [up, setR] <;> omega)) (by first | omega | (simp [up, setR] <;> omega))) (by decide) rfl ⟨by decide, by decide⟩ (by decide) rfl rfl (Nat.le_of_ble_eq_true rfl) ⟨by decide, by decide⟩ dX12_wake_215 ?_
                  intro r9 g215_253 hp9
                  obtain ⟨⟨hT_253, hG_253⟩, z215_253, hr9, hz_253, p1_253⟩ := hp9
                  rw [hr9]
                  have hF_253 : FRM [73, 84, 85, 93, 96, 97, 98] [28, 32, 33, 34, 36, 39] h g215_253 := FRM_tr hF_243 hG_253 (by decide) (by decide)
                  rw [show (setO (setO g168_213 85 (fup (h 85) (64 * ((h 73) 26) + 8 * y + x) 1)) 93 (fup (h 93) (10 * y + x + 11) (-1))) 73 26 = (h 73) 26 from (congrFun ((sOf_ne _ _ (by decide)).trans ((sOf_ne _ _ (by decide)).trans (hG_213.1 73 (by decide)))) 26).trans (((hG_211.2 26 (by decide))).trans ((congrFun (hG_10.1 73 (by decide)) 26).trans ((congrFun (hG_7.1 73 (by decide)) 26).trans ((congrFun (hG_4.1 73 (by decide)) 26).trans (congrFun (hG_1.1 73 (by decide)) 26)))))] at p1_253
                  show TT K ly 0 0 218 [(8, vI (1 - z140_211)), (9, vI z140_211), (0, vR 73), (1, vI x), (2, vI y), (3, vI (10 * y + x + 11)), (4, vI a), (5, vI b), (6, vI t9), (7, vI cx)] [vI z215_253, vR 84] g215_253
                  refine TT_cgI (b := 64 * ((h 73) 26) + 8 * y + x) (by omega) ?_
                  refine TT_aload_n hK rfl 2 rfl dX12_wake_218 ?_
                  refine gf_X12_47 hK (by decide) rfl (q := 84) rfl rfl dX12_wake_219 ?_
                  refine TT_aload_n hK rfl 2 rfl dX12_wake_222 ?_
                  refine TT_iload_n hK rfl 3 rfl dX12_wake_223 ?_
                  refine TT_iload_n hK rfl 4 rfl dX12_wake_224 ?_
                  refine iv_X12_249 hK (s_X12_cell_73 x y g215_253 hT_253 (by first | omega | (simp [up, setR] <;> omega)) (by first | omega | (simp [up, setR] <;> omega))) (by decide) rfl ⟨by decide, by decide⟩ (by decide) rfl rfl (Nat.le_of_ble_eq_true rfl) ⟨by decide, by decide⟩ dX12_wake_225 ?_
                  intro r9 g225_254 hp9
                  obtain ⟨⟨hT_254, hG_254⟩, z225_254, hr9, hz_254, p1_254⟩ := hp9
                  rw [hr9]
                  have hF_254 : FRM [73, 84, 85, 93, 96, 97, 98] [28, 32, 33, 34, 36, 39] h g225_254 := FRM_tr hF_253 hG_254 (by decide) (by decide)
                  rw [show g215_253 73 26 = (h 73) 26 from (congrFun (hG_253.1 73 (by decide)) 26).trans ((congrFun ((sOf_ne _ _ (by decide)).trans ((sOf_ne _ _ (by decide)).trans (hG_213.1 73 (by decide)))) 26).trans (((hG_211.2 26 (by decide))).trans ((congrFun (hG_10.1 73 (by decide)) 26).trans ((congrFun (hG_7.1 73 (by decide)) 26).trans ((congrFun (hG_4.1 73 (by decide)) 26).trans (congrFun (hG_1.1 73 (by decide)) 26))))))] at p1_254
                  show TT K ly 0 0 228 [(8, vI (1 - z140_211)), (9, vI z140_211), (0, vR 73), (1, vI x), (2, vI y), (3, vI (10 * y + x + 11)), (4, vI a), (5, vI b), (6, vI t9), (7, vI cx)] [vI z225_254, vR 84, vI (64 * ((h 73) 26) + 8 * y + x), vR 84] g225_254
                  refine TT_cgI (b := 64 * ((h 73) 26) + 8 * y + x) (by omega) ?_
                  refine TT_iald hK (o := 84) (n := 1280) (by decide) rfl (by first | omega | (simp [up, setR] <;> omega)) (by first | omega | (simp [up, setR] <;> omega)) (v := (h 84) (64 * ((h 73) 26) + 8 * y + x)) (rd_ (((hG_254.1 84 (by decide))).trans (((hG_253.1 84 (by decide))).trans ((sOf_ne _ _ (by decide)).trans ((sOf_ne _ _ (by decide)).trans (((hG_213.1 84 (by decide))).trans (((hG_211.1 84 (by decide))).trans (((hG_10.1 84 (by decide))).trans (((hG_7.1 84 (by decide))).trans (((hG_4.1 84 (by decide))).trans (hG_1.1 84 (by decide))))))))))) rfl) dX12_wake_228 ?_
                  have r255 := ty_84 (i := 64 * ((h 73) 26) + 8 * y + x) (v := (h 84) (64 * ((h 73) 26) + 8 * y + x)) hT_254 (rd_ (((hG_254.1 84 (by decide))).trans (((hG_253.1 84 (by decide))).trans ((sOf_ne _ _ (by decide)).trans ((sOf_ne _ _ (by decide)).trans (((hG_213.1 84 (by decide))).trans (((hG_211.1 84 (by decide))).trans (((hG_10.1 84 (by decide))).trans (((hG_7.1 84 (by decide))).trans (((hG_4.1 84 (by decide))).trans (hG_1.1 84 (by decide))))))))))) rfl) (by omega) (by omega)
                  refine TT_iconst hK dX12_wake_229 ?_
                  refine TT_aload_n hK rfl 2 rfl dX12_wake_230 ?_
                  refine gf_X12_252 hK (by decide) rfl (v := (h 73) 27) ((congrFun (hG_254.1 73 (by decide)) 27).trans ((congrFun (hG_253.1 73 (by decide)) 27).trans ((congrFun ((sOf_ne _ _ (by decide)).trans ((sOf_ne _ _ (by decide)).trans (hG_213.1 73 (by decide)))) 27).trans (((hG_211.2 27 (by decide))).trans ((congrFun (hG_10.1 73 (by decide)) 27).trans ((congrFun (hG_7.1 73 (by decide)) 27).trans ((congrFun (hG_4.1 73 (by decide)) 27).trans (congrFun (hG_1.1 73 (by decide)) 27)))))))) dX12_wake_231 ?_
                  have r256 := ty_73_27 (v := (h 73) 27) hT_254 ((congrFun (hG_254.1 73 (by decide)) 27).trans ((congrFun (hG_253.1 73 (by decide)) 27).trans ((congrFun ((sOf_ne _ _ (by decide)).trans ((sOf_ne _ _ (by decide)).trans (hG_213.1 73 (by decide)))) 27).trans (((hG_211.2 27 (by decide))).trans ((congrFun (hG_10.1 73 (by decide)) 27).trans ((congrFun (hG_7.1 73 (by decide)) 27).trans ((congrFun (hG_4.1 73 (by decide)) 27).trans (congrFun (hG_1.1 73 (by decide)) 27))))))))
                  refine TT_ishl_a hK dX12_wake_234 (fun x234_257 hx257 => ?_)
                  refine TT_ior hK dX12_wake_235 ?_
                  refine TT_w32 (fun x236_258 hx258 => ?_)
                  refine TT_iast hK (o := 84) (n := 1280) (by decide) rfl (by omega) (by omega) dX12_wake_236 ?_
                  refine TT_hp (h' := setO g225_254 84 (fup (h 84) (64 * ((h 73) 26) + 8 * y + x) x236_258)) (up_can (((hG_254.1 84 (by decide))).trans (((hG_253.1 84 (by decide))).trans ((sOf_ne _ _ (by decide)).trans ((sOf_ne _ _ (by decide)).trans (((hG_213.1 84 (by decide))).trans (((hG_211.1 84 (by decide))).trans (((hG_10.1 84 (by decide))).trans (((hG_7.1 84 (by decide))).trans (((hG_4.1 84 (by decide))).trans (hG_1.1 84 (by decide))))))))))) rfl rfl) ?_
                  have hT_259 : TY (setO g225_254 84 (fup (h 84) (64 * ((h 73) 26) + 8 * y + x) x236_258)) := tu_84 hT_254 (show up g225_254 84 (64 * ((h 73) 26) + 8 * y + x) x236_258 = (setO g225_254 84 (fup (h 84) (64 * ((h 73) 26) + 8 * y + x) x236_258)) from up_can (((hG_254.1 84 (by decide))).trans (((hG_253.1 84 (by decide))).trans ((sOf_ne _ _ (by decide)).trans ((sOf_ne _ _ (by decide)).trans (((hG_213.1 84 (by decide))).trans (((hG_211.1 84 (by decide))).trans (((hG_10.1 84 (by decide))).trans (((hG_7.1 84 (by decide))).trans (((hG_4.1 84 (by decide))).trans (hG_1.1 84 (by decide))))))))))) rfl rfl) (by omega)
                  have hF_259 : FRM [73, 84, 85, 93, 96, 97, 98] [28, 32, 33, 34, 36, 39] h (setO g225_254 84 (fup (h 84) (64 * ((h 73) 26) + 8 * y + x) x236_258)) := FRM_up (show up g225_254 84 (64 * ((h 73) 26) + 8 * y + x) x236_258 = (setO g225_254 84 (fup (h 84) (64 * ((h 73) 26) + 8 * y + x) x236_258)) from up_can (((hG_254.1 84 (by decide))).trans (((hG_253.1 84 (by decide))).trans ((sOf_ne _ _ (by decide)).trans ((sOf_ne _ _ (by decide)).trans (((hG_213.1 84 (by decide))).trans (((hG_211.1 84 (by decide))).trans (((hG_10.1 84 (by decide))).trans (((hG_7.1 84 (by decide))).trans (((hG_4.1 84 (by decide))).trans (hG_1.1 84 (by decide))))))))))) rfl rfl) hF_254 (by decide) (by decide)
                  refine TT_vret hK hQ ?_ dX12_wake_237
                  have e260_73_32 : (setO g225_254 84 (fup (h 84) (64 * ((h 73) 26) + 8 * y + x) x236_258)) 73 32 = (g140_211 73) 32 := (congrFun ((sOf_ne _ _ (by decide)).trans (hG_254.1 73 (by decide))) 32).trans ((congrFun (hG_253.1 73 (by decide)) 32).trans (congrFun ((sOf_ne _ _ (by decide)).trans ((sOf_ne _ _ (by decide)).trans (hG_213.1 73 (by decide)))) 32))
                  have e261_73_34 : (setO g225_254 84 (fup (h 84) (64 * ((h 73) 26) + 8 * y + x) x236_258)) 73 34 = (g140_211 73) 34 := (congrFun ((sOf_ne _ _ (by decide)).trans (hG_254.1 73 (by decide))) 34).trans ((congrFun (hG_253.1 73 (by decide)) 34).trans (congrFun ((sOf_ne _ _ (by decide)).trans ((sOf_ne _ _ (by decide)).trans (hG_213.1 73 (by decide)))) 34))
                  have e262_73_36 : (setO g225_254 84 (fup (h 84) (64 * ((h 73) 26) + 8 * y + x) x236_258)) 73 36 = (g140_211 73) 36 := (congrFun ((sOf_ne _ _ (by decide)).trans (hG_254.1 73 (by decide))) 36).trans ((congrFun (hG_253.1 73 (by decide)) 36).trans (congrFun ((sOf_ne _ _ (by decide)).trans ((sOf_ne _ _ (by decide)).trans (hG_213.1 73 (by decide)))) 36))
                  have e263_96 : (setO g225_254 84 (fup (h 84) (64 * ((h 73) 26) + 8 * y + x) x236_258)) 96 = g140_211 96 := (sOf_ne _ _ (by decide)).trans (((hG_254.1 96 (by decide))).trans (((hG_253.1 96 (by decide))).trans ((sOf_ne _ _ (by decide)).trans ((sOf_ne _ _ (by decide)).trans (hG_213.1 96 (by decide))))))
                  have e264_93 : (setO g225_254 84 (fup (h 84) (64 * ((h 73) 26) + 8 * y + x) x236_258)) 93 = fup (h 93) (10 * y + x + 11) (-1) := (sOf_ne _ _ (by decide)).trans (((hG_254.1 93 (by decide))).trans (((hG_253.1 93 (by decide))).trans (sOf_eq _ _ _)))
                  have e265_84 : (setO g225_254 84 (fup (h 84) (64 * ((h 73) 26) + 8 * y + x) x236_258)) 84 = fup (h 84) (64 * ((h 73) 26) + 8 * y + x) x236_258 := sOf_eq _ _ _
                  have e266_85 : (setO g225_254 84 (fup (h 84) (64 * ((h 73) 26) + 8 * y + x) x236_258)) 85 = fup (h 85) (64 * ((h 73) 26) + 8 * y + x) 1 := (sOf_ne _ _ (by decide)).trans (((hG_254.1 85 (by decide))).trans (((hG_253.1 85 (by decide))).trans ((sOf_ne _ _ (by decide)).trans (sOf_eq _ _ _))))
                  exact ⟨⟨hT_259, hF_259⟩, rfl, (by rewrite [e260_73_32]; omega), (by rewrite [e261_73_34, e262_73_36, e263_96]; omega), (by rewrite [e264_93]; intro w e h1 h2 h3 h4 h5; exact ZC_up ⟨hx.1, h1⟩ h2 ⟨hy.1, h3⟩ h4 h5 (by decide)), (by rewrite [e265_84, e266_85]; intro j hj; exact ⟨(by first | rfl | exact fup_ne _ _ (by omega)), (by by_cases e : j = 64 * (h 73 26) + 8 * y + x; (rw [e, fup_eq]; omega); exact fup_ne _ _ e)⟩)⟩
    refine TT_bipush hK (by decide) dX12_wake_74 ?_
    refine TT_iload hK 6 rfl dX12_wake_76 ?_
    refine TT_if_eq hK (tgt := 92) (irm (by omega) (by omega)) dX12_wake_78 (by decide) (fun hb78_267 => ?_) (fun hb78_267 => ?_)
    · refine TT_iconst hK dX12_wake_92 ?_
      refine TT_iload hK 4 rfl dX12_wake_93 ?_
      refine TT_imul hK dX12_wake_95 ?_
      refine TT_iload hK 5 rfl dX12_wake_96 ?_
      refine TT_iadd hK dX12_wake_98 ?_
      refine TT_iadd hK dX12_wake_99 ?_
      refine TT_istore hK (lv' := [(7, vI (9 + ((3 * a) + b))), (0, vR 73), (1, vI x), (2, vI y), (3, vI (10 * y + x + 11)), (4, vI a), (5, vI b), (6, vI t9)]) (by decide) rfl dX12_wake_100 ?_
      refine TT_sub [1, 2, 3, 4, 5, 6, 7, 0] rfl ?_
      exact J102_9 (9 + ((3 * a) + b)) (by first | omega | (simp [up, setR] <;> omega))
    · refine TT_bipush hK (by decide) dX12_wake_81 ?_
      refine TT_iload hK 4 rfl dX12_wake_83 ?_
      refine TT_imul hK dX12_wake_85 ?_
      refine TT_iload hK 5 rfl dX12_wake_86 ?_
      refine TT_isub hK dX12_wake_88 ?_
      refine TT_goto hK (tgt := 99) dX12_wake_89 (by decide) ?_
      refine TT_iadd hK dX12_wake_99 ?_
      refine TT_istore hK (lv' := [(7, vI (9 + (((-3) * a) - b))), (0, vR 73), (1, vI x), (2, vI y), (3, vI (10 * y + x + 11)), (4, vI a), (5, vI b), (6, vI t9)]) (by decide) rfl dX12_wake_100 ?_
      refine TT_sub [1, 2, 3, 4, 5, 6, 7, 0] rfl ?_
      exact J102_9 (9 + (((-3) * a) - b)) (by first | omega | (simp [up, setR] <;> omega))
  refine TT_iload hK 1 rfl dX12_wake_52 ?_
  refine TT_if_lt hK (tgt := 67) (irm (by omega) (by omega)) dX12_wake_54 (by decide) (fun hb54_268 => ?_) (fun hb54_268 => ?_)
  · refine TT_iconst hK dX12_wake_67 ?_
    refine TT_goto hK (tgt := 72) dX12_wake_68 (by decide) ?_
    refine TT_istore hK (lv' := [(6, vI 1), (5, vI z47_7), (4, vI z23_4), (3, vI (10 * y + x + 11)), (0, vR 73), (1, vI x), (2, vI y)]) (by decide) rfl dX12_wake_72 ?_
    refine TT_sub [4, 5, 6, 3, 2, 1, 0] rfl ?_
    exact J74_8 z23_4 z47_7 1 (by first | omega | (simp [up, setR] <;> omega)) (by first | omega | (simp [up, setR] <;> omega)) (by first | omega | (simp [up, setR] <;> omega))
  · refine TT_iload hK 1 rfl dX12_wake_57 ?_
    refine TT_if_ne hK (tgt := 71) (irm (by omega) (by omega)) dX12_wake_59 (by decide) (fun hb59_269 => ?_) (fun hb59_269 => ?_)
    · refine TT_iconst hK dX12_wake_71 ?_
      refine TT_istore hK (lv' := [(6, vI 0), (5, vI z47_7), (4, vI z23_4), (3, vI (10 * y + x + 11)), (0, vR 73), (1, vI x), (2, vI y)]) (by decide) rfl dX12_wake_72 ?_
      refine TT_sub [4, 5, 6, 3, 2, 1, 0] rfl ?_
      exact J74_8 z23_4 z47_7 0 (by first | omega | (simp [up, setR] <;> omega)) (by first | omega | (simp [up, setR] <;> omega)) (by first | omega | (simp [up, setR] <;> omega))
    · refine TT_iload hK 0 rfl dX12_wake_62 ?_
      refine TT_if_ge hK (tgt := 71) (irm (by omega) (by omega)) dX12_wake_64 (by decide) (fun hb64_270 => ?_) (fun hb64_270 => ?_)
      · refine TT_iconst hK dX12_wake_71 ?_
        refine TT_istore hK (lv' := [(6, vI 0), (5, vI z47_7), (4, vI z23_4), (3, vI (10 * y + x + 11)), (0, vR 73), (1, vI x), (2, vI y)]) (by decide) rfl dX12_wake_72 ?_
        refine TT_sub [4, 5, 6, 3, 2, 1, 0] rfl ?_
        exact J74_8 z23_4 z47_7 0 (by first | omega | (simp [up, setR] <;> omega)) (by first | omega | (simp [up, setR] <;> omega)) (by first | omega | (simp [up, setR] <;> omega))
      · refine TT_iconst hK dX12_wake_67 ?_
        refine TT_goto hK (tgt := 72) dX12_wake_68 (by decide) ?_
        refine TT_istore hK (lv' := [(6, vI 1), (5, vI z47_7), (4, vI z23_4), (3, vI (10 * y + x + 11)), (0, vR 73), (1, vI x), (2, vI y)]) (by decide) rfl dX12_wake_72 ?_
        refine TT_sub [4, 5, 6, 3, 2, 1, 0] rfl ?_
        exact J74_8 z23_4 z47_7 1 (by first | omega | (simp [up, setR] <;> omega)) (by first | omega | (simp [up, setR] <;> omega)) (by first | omega | (simp [up, setR] <;> omega))
set_option maxRecDepth 20000 in
theorem s_spread_k (x y : Int) (h : Hp_) (hT : TY h) (hx : 0 ≤ x ∧ x ≤ 7) (hy : 0 ≤ y ∧ y ≤ 7) (htb : TBL (h 74) (h 75)) (ha : 32768 ≤ (h 73 32) ∧ (h 73 32) < 65536) (hm : (h 73 29) = 0 → 1 ≤ (h 73 34) ∧ 1 ≤ (h 73 36) ∧ 7 * (h 73 36) - (h 73 34) + PhS (h 96) + 18 ≤ 22300) (hw1 : (h 73 29) = 1 → 10 ≤ (h 73 26)) : Ctr yX12_spread cX12_spread 4 none (rmd 5) ly ly 0 0 [vR 73, vI x, vI y] h (fun r h' => (TY h' ∧ FRM [73, 84, 85, 93, 94, 96, 97, 98] [28, 32, 33, 34, 36, 39] h h') ∧ r = none ∧ (32768 ≤ (h' 73 32) ∧ (h' 73 32) < 65536) ∧ ((h 73 29) = 0 → 1 ≤ (h' 73 34) ∧ 1 ≤ (h' 73 36) ∧ 7 * (h' 73 36) - (h' 73 34) + PhS (h' 96) ≤ 7 * (h 73 36) - (h 73 34) + PhS (h 96) + 18) ∧ (∀ w e : Int, x < w → w ≤ 8 → y < e → e ≤ 8 → (h 73 29) = 0 → 7 * (h' 73 36) - (h' 73 34) + PhS (h' 96) + 27 * ZC w e (h' 93) ≤ 7 * (h 73 36) - (h 73 34) + PhS (h 96) + 27 * ZC w e (h 93) + 9) ∧ (∀ j : Int, j < 640 → (h' 84) j = (h 84) j ∧ (h' 85) j = (h 85) j)) := by
  refine Ctr_of (by decide) (Nat.le_of_ble_eq_true rfl) ⟨Nat.le_refl _, Nat.le_refl _⟩ (fun K hK hQ _ => ?_)
  show TT K ly 0 0 0 [(0, vR 73), (1, vI x), (2, vI y)] [] h
  have hF : FRM [73, 84, 85, 93, 94, 96, 97, 98] [28, 32, 33, 34, 36, 39] h h := FRM_rf _ _ _
  refine TT_aload_n hK rfl 0 rfl dX12_spread_0 ?_
  refine TT_iload_n hK rfl 1 rfl dX12_spread_1 ?_
  refine TT_iload_n hK rfl 2 rfl dX12_spread_2 ?_
  refine iv_X12_261 hK (s_X12_context_73 x y h hT (by first | omega | (simp [up, setR] <;> omega)) (by first | omega | (simp [up, setR] <;> omega))) (by decide) rfl ⟨by decide, by decide⟩ (by decide) rfl rfl (Nat.le_of_ble_eq_true rfl) ⟨by decide, by decide⟩ dX12_spread_3 ?_
  intro r9 g3_1 hp9
  obtain ⟨⟨hT_1, hG_1⟩, z3_1, hr9, hz_1⟩ := hp9
  rw [hr9]
  have hF_1 : FRM [73, 84, 85, 93, 94, 96, 97, 98] [28, 32, 33, 34, 36, 39] h g3_1 := FRM_tr hF hG_1 (by decide) (by decide)
  show TT K ly 0 0 6 [(0, vR 73), (1, vI x), (2, vI y)] [vI z3_1] g3_1
  refine TT_istore_n hK rfl (lv' := [(3, vI z3_1), (0, vR 73), (1, vI x), (2, vI y)]) (by decide) rfl dX12_spread_6 ?_
  refine TT_aload_n hK rfl 1 rfl dX12_spread_7 ?_
  refine TT_iload_n hK rfl 2 rfl dX12_spread_8 ?_
  refine TT_iload_n hK rfl 3 rfl dX12_spread_9 ?_
  refine iv_X12_234 hK (s_X12_spot x y g3_1 hT_1 (by first | omega | (simp [up, setR] <;> omega)) (by first | omega | (simp [up, setR] <;> omega))) ⟨by decide, by decide⟩ (by decide) rfl rfl (Nat.le_of_ble_eq_true rfl) ⟨by decide, by decide⟩ dX12_spread_10 ?_
  intro r9 g10_2 hp9
  obtain ⟨⟨hT_2, hG_2⟩, z10_2, hr9, hz_2, p1_2⟩ := hp9
  rw [hr9]
  have hF_2 : FRM [73, 84, 85, 93, 94, 96, 97, 98] [28, 32, 33, 34, 36, 39] h g10_2 := FRM_tr hF_1 hG_2 (by decide) (by decide)
  show TT K ly 0 0 13 [(3, vI z3_1), (0, vR 73), (1, vI x), (2, vI y)] [vI z10_2, vR 73] g10_2
  refine TT_cgI (b := 10 * y + x + 11) (by omega) ?_
  refine iv_X12_231 hK (s_X12_here_73 (10 * y + x + 11) g10_2 hT_2 (by first | omega | (simp [up, setR] <;> omega))) (by decide) rfl ⟨by decide, by decide⟩ (by decide) rfl rfl (Nat.le_of_ble_eq_true rfl) ⟨by decide, by decide⟩ dX12_spread_13 ?_
  intro r9 g13_3 hp9
  obtain ⟨⟨hT_3, hG_3⟩, z13_3, hr9, hz_3, p1_3⟩ := hp9
  rw [hr9]
  have hF_3 : FRM [73, 84, 85, 93, 94, 96, 97, 98] [28, 32, 33, 34, 36, 39] h g13_3 := FRM_tr hF_2 hG_3 (by decide) (by decide)
  rw [show g10_2 93 = h 93 from ((hG_2.1 93 (by decide))).trans (hG_1.1 93 (by decide))] at p1_3
  show TT K ly 0 0 16 [(3, vI z3_1), (0, vR 73), (1, vI x), (2, vI y)] [vI z13_3] g13_3
  refine TT_if_ne hK (tgt := 56) (irm (by omega) (by omega)) dX12_spread_16 (by decide) (fun hb16_4 => ?_) (fun hb16_4 => ?_)
  · refine TT_vret hK hQ ?_ dX12_spread_56
    have e5_73_32 : g13_3 73 32 = (h 73) 32 := (congrFun (hG_3.1 73 (by decide)) 32).trans ((congrFun (hG_2.1 73 (by decide)) 32).trans (congrFun (hG_1.1 73 (by decide)) 32))
    have e6_73_34 : g13_3 73 34 = (h 73) 34 := (congrFun (hG_3.1 73 (by decide)) 34).trans ((congrFun (hG_2.1 73 (by decide)) 34).trans (congrFun (hG_1.1 73 (by decide)) 34))
    have e7_73_36 : g13_3 73 36 = (h 73) 36 := (congrFun (hG_3.1 73 (by decide)) 36).trans ((congrFun (hG_2.1 73 (by decide)) 36).trans (congrFun (hG_1.1 73 (by decide)) 36))
    have e8_96 : g13_3 96 = h 96 := ((hG_3.1 96 (by decide))).trans (((hG_2.1 96 (by decide))).trans (hG_1.1 96 (by decide)))
    have e9_73_34 : g13_3 73 34 = (h 73) 34 := (congrFun (hG_3.1 73 (by decide)) 34).trans ((congrFun (hG_2.1 73 (by decide)) 34).trans (congrFun (hG_1.1 73 (by decide)) 34))
    have e10_73_36 : g13_3 73 36 = (h 73) 36 := (congrFun (hG_3.1 73 (by decide)) 36).trans ((congrFun (hG_2.1 73 (by decide)) 36).trans (congrFun (hG_1.1 73 (by decide)) 36))
    have e11_93 : g13_3 93 = h 93 := ((hG_3.1 93 (by decide))).trans (((hG_2.1 93 (by decide))).trans (hG_1.1 93 (by decide)))
    have e12_96 : g13_3 96 = h 96 := ((hG_3.1 96 (by decide))).trans (((hG_2.1 96 (by decide))).trans (hG_1.1 96 (by decide)))
    have e13_84 : g13_3 84 = h 84 := ((hG_3.1 84 (by decide))).trans (((hG_2.1 84 (by decide))).trans (hG_1.1 84 (by decide)))
    have e14_85 : g13_3 85 = h 85 := ((hG_3.1 85 (by decide))).trans (((hG_2.1 85 (by decide))).trans (hG_1.1 85 (by decide)))
    exact ⟨⟨hT_3, hF_3⟩, rfl, (by rewrite [e5_73_32]; omega), (by rewrite [e6_73_34, e7_73_36, e8_96]; omega), (by rewrite [e9_73_34, e10_73_36, e11_93, e12_96]; intro w e h1 h2 h3 h4 h5; first | omega | (have k8 := pz_at53 w e h1 h2 h3 h4 (by omega); omega)), (by rewrite [e13_84, e14_85]; first | exact pk_at53 | (intro j hj; exact ⟨rfl, rfl⟩))⟩
  · refine TT_iload_n hK rfl 0 rfl dX12_spread_19 ?_
    refine TT_if_le hK (tgt := 56) (irm (by omega) (by omega)) dX12_spread_20 (by decide) (fun hb20_15 => ?_) (fun hb20_15 => ?_)
    · refine TT_vret hK hQ ?_ dX12_spread_56
      have e16_73_32 : g13_3 73 32 = (h 73) 32 := (congrFun (hG_3.1 73 (by decide)) 32).trans ((congrFun (hG_2.1 73 (by decide)) 32).trans (congrFun (hG_1.1 73 (by decide)) 32))
      have e17_73_34 : g13_3 73 34 = (h 73) 34 := (congrFun (hG_3.1 73 (by decide)) 34).trans ((congrFun (hG_2.1 73 (by decide)) 34).trans (congrFun (hG_1.1 73 (by decide)) 34))
      have e18_73_36 : g13_3 73 36 = (h 73) 36 := (congrFun (hG_3.1 73 (by decide)) 36).trans ((congrFun (hG_2.1 73 (by decide)) 36).trans (congrFun (hG_1.1 73 (by decide)) 36))
      have e19_96 : g13_3 96 = h 96 := ((hG_3.1 96 (by decide))).trans (((hG_2.1 96 (by decide))).trans (hG_1.1 96 (by decide)))
      have e20_73_34 : g13_3 73 34 = (h 73) 34 := (congrFun (hG_3.1 73 (by decide)) 34).trans ((congrFun (hG_2.1 73 (by decide)) 34).trans (congrFun (hG_1.1 73 (by decide)) 34))
      have e21_73_36 : g13_3 73 36 = (h 73) 36 := (congrFun (hG_3.1 73 (by decide)) 36).trans ((congrFun (hG_2.1 73 (by decide)) 36).trans (congrFun (hG_1.1 73 (by decide)) 36))
      have e22_93 : g13_3 93 = h 93 := ((hG_3.1 93 (by decide))).trans (((hG_2.1 93 (by decide))).trans (hG_1.1 93 (by decide)))
      have e23_96 : g13_3 96 = h 96 := ((hG_3.1 96 (by decide))).trans (((hG_2.1 96 (by decide))).trans (hG_1.1 96 (by decide)))
      have e24_84 : g13_3 84 = h 84 := ((hG_3.1 84 (by decide))).trans (((hG_2.1 84 (by decide))).trans (hG_1.1 84 (by decide)))
      have e25_85 : g13_3 85 = h 85 := ((hG_3.1 85 (by decide))).trans (((hG_2.1 85 (by decide))).trans (hG_1.1 85 (by decide)))
      exact ⟨⟨hT_3, hF_3⟩, rfl, (by rewrite [e16_73_32]; omega), (by rewrite [e17_73_34, e18_73_36, e19_96]; omega), (by rewrite [e20_73_34, e21_73_36, e22_93, e23_96]; intro w e h1 h2 h3 h4 h5; first | omega | (have k8 := pz_at53 w e h1 h2 h3 h4 (by omega); omega)), (by rewrite [e24_84, e25_85]; first | exact pk_at53 | (intro j hj; exact ⟨rfl, rfl⟩))⟩
    · refine TT_aload_n hK rfl 1 rfl dX12_spread_23 ?_
      refine gf_X12_78 hK (by decide) rfl (q := 94) rfl rfl dX12_spread_24 ?_
      refine TT_bipush hK (by decide) dX12_spread_27 ?_
      refine TT_iload_n hK rfl 3 rfl dX12_spread_29 ?_
      refine TT_imul hK dX12_spread_30 ?_
      refine TT_iload_n hK rfl 2 rfl dX12_spread_31 ?_
      refine TT_iadd hK dX12_spread_32 ?_
      refine TT_iconst hK dX12_spread_33 ?_
      refine TT_zast hK (o := 94) (n := 64) (by decide) rfl (by omega) (by omega) (by first | decide | omega) dX12_spread_34 ?_
      refine TT_hp (h' := setO g13_3 94 (fup (h 94) ((8 * y) + x) 1)) (up_can (((hG_3.1 94 (by decide))).trans (((hG_2.1 94 (by decide))).trans (hG_1.1 94 (by decide)))) rfl rfl) ?_
      have hT_26 : TY (setO g13_3 94 (fup (h 94) ((8 * y) + x) 1)) := tu_94 hT_3 (show up g13_3 94 ((8 * y) + x) 1 = (setO g13_3 94 (fup (h 94) ((8 * y) + x) 1)) from up_can (((hG_3.1 94 (by decide))).trans (((hG_2.1 94 (by decide))).trans (hG_1.1 94 (by decide)))) rfl rfl) (by omega)
      have hF_26 : FRM [73, 84, 85, 93, 94, 96, 97, 98] [28, 32, 33, 34, 36, 39] h (setO g13_3 94 (fup (h 94) ((8 * y) + x) 1)) := FRM_up (show up g13_3 94 ((8 * y) + x) 1 = (setO g13_3 94 (fup (h 94) ((8 * y) + x) 1)) from up_can (((hG_3.1 94 (by decide))).trans (((hG_2.1 94 (by decide))).trans (hG_1.1 94 (by decide)))) rfl rfl) hF_3 (by decide) (by decide)
      refine TT_aload_n hK rfl 1 rfl dX12_spread_35 ?_
      refine TT_iload_n hK rfl 0 rfl dX12_spread_36 ?_
      refine TT_aload_n hK rfl 1 rfl dX12_spread_37 ?_
      refine TT_iload_n hK rfl 2 rfl dX12_spread_38 ?_
      refine TT_iload_n hK rfl 3 rfl dX12_spread_39 ?_
      refine iv_X12_264 hK (s_X12_bitAt_73 x y (setO g13_3 94 (fup (h 94) ((8 * y) + x) 1)) hT_26 (by first | omega | (simp [up, setR] <;> omega)) (by first | omega | (simp [up, setR] <;> omega))) (by decide) rfl ⟨by decide, by decide⟩ (by decide) rfl rfl (Nat.le_of_ble_eq_true rfl) ⟨by decide, by decide⟩ dX12_spread_40 ?_
      intro r9 g40_27 hp9
      obtain ⟨⟨hT_27, hG_27⟩, z40_27, hr9, hz_27⟩ := hp9
      rw [hr9]
      have hF_27 : FRM [73, 84, 85, 93, 94, 96, 97, 98] [28, 32, 33, 34, 36, 39] h g40_27 := FRM_tr hF_26 hG_27 (by decide) (by decide)
      show TT K ly 0 0 43 [(3, vI z3_1), (0, vR 73), (1, vI x), (2, vI y)] [vI z40_27, vI z3_1, vR 73] g40_27
      have e28_74 : g40_27 74 = h 74 := ((hG_27.1 74 (by decide))).trans ((sOf_ne _ _ (by decide)).trans (((hG_3.1 74 (by decide))).trans (((hG_2.1 74 (by decide))).trans (hG_1.1 74 (by decide)))))
      have e29_75 : g40_27 75 = h 75 := ((hG_27.1 75 (by decide))).trans ((sOf_ne _ _ (by decide)).trans (((hG_3.1 75 (by decide))).trans (((hG_2.1 75 (by decide))).trans (hG_1.1 75 (by decide)))))
      have e30_73_32 : g40_27 73 32 = (h 73) 32 := (congrFun (hG_27.1 73 (by decide)) 32).trans ((congrFun ((sOf_ne _ _ (by decide)).trans (hG_3.1 73 (by decide))) 32).trans ((congrFun (hG_2.1 73 (by decide)) 32).trans (congrFun (hG_1.1 73 (by decide)) 32)))
      have e31_73_29 : g40_27 73 29 = (h 73) 29 := (congrFun (hG_27.1 73 (by decide)) 29).trans ((congrFun ((sOf_ne _ _ (by decide)).trans (hG_3.1 73 (by decide))) 29).trans ((congrFun (hG_2.1 73 (by decide)) 29).trans (congrFun (hG_1.1 73 (by decide)) 29)))
      have e32_73_34 : g40_27 73 34 = (h 73) 34 := (congrFun (hG_27.1 73 (by decide)) 34).trans ((congrFun ((sOf_ne _ _ (by decide)).trans (hG_3.1 73 (by decide))) 34).trans ((congrFun (hG_2.1 73 (by decide)) 34).trans (congrFun (hG_1.1 73 (by decide)) 34)))
      have e33_73_36 : g40_27 73 36 = (h 73) 36 := (congrFun (hG_27.1 73 (by decide)) 36).trans ((congrFun ((sOf_ne _ _ (by decide)).trans (hG_3.1 73 (by decide))) 36).trans ((congrFun (hG_2.1 73 (by decide)) 36).trans (congrFun (hG_1.1 73 (by decide)) 36)))
      have e34_96 : g40_27 96 = h 96 := ((hG_27.1 96 (by decide))).trans ((sOf_ne _ _ (by decide)).trans (((hG_3.1 96 (by decide))).trans (((hG_2.1 96 (by decide))).trans (hG_1.1 96 (by decide)))))
      refine iv_X12_258 hK (s_code_k z3_1 z40_27 g40_27 hT_27 (by first | omega | (simp [up, setR] <;> omega)) (by first | omega | (simp [up, setR] <;> omega)) (by rewrite [e28_74, e29_75]; first | assumption | exact htb) (by rewrite [e30_73_32]; first | omega | (simp [up, setR] <;> omega)) (by rewrite [e31_73_29, e32_73_34, e33_73_36, e34_96]; first | omega | (simp [up, setR] <;> omega))) (by decide) rfl ⟨by decide, by decide⟩ (by decide) rfl rfl (Nat.le_of_ble_eq_true rfl) ⟨by decide, by decide⟩ dX12_spread_43 ?_
      intro r9 g43_35 hp9
      obtain ⟨⟨hT_35, hG_35⟩, z43_35, hr9, hz_35, pa_35, pm_35, pc_35⟩ := hp9
      rw [hr9]
      have hF_35 : FRM [73, 84, 85, 93, 94, 96, 97, 98] [28, 32, 33, 34, 36, 39] h g43_35 := FRM_tr hF_27 hG_35 (by decide) (by decide)
      rw [show g40_27 73 29 = (h 73) 29 from (congrFun (hG_27.1 73 (by decide)) 29).trans ((congrFun ((sOf_ne _ _ (by decide)).trans (hG_3.1 73 (by decide))) 29).trans ((congrFun (hG_2.1 73 (by decide)) 29).trans (congrFun (hG_1.1 73 (by decide)) 29)))] at pm_35
      rw [show g40_27 73 34 = (h 73) 34 from (congrFun (hG_27.1 73 (by decide)) 34).trans ((congrFun ((sOf_ne _ _ (by decide)).trans (hG_3.1 73 (by decide))) 34).trans ((congrFun (hG_2.1 73 (by decide)) 34).trans (congrFun (hG_1.1 73 (by decide)) 34)))] at pm_35
      rw [show g40_27 73 36 = (h 73) 36 from (congrFun (hG_27.1 73 (by decide)) 36).trans ((congrFun ((sOf_ne _ _ (by decide)).trans (hG_3.1 73 (by decide))) 36).trans ((congrFun (hG_2.1 73 (by decide)) 36).trans (congrFun (hG_1.1 73 (by decide)) 36)))] at pm_35
      rw [show g40_27 96 = h 96 from ((hG_27.1 96 (by decide))).trans ((sOf_ne _ _ (by decide)).trans (((hG_3.1 96 (by decide))).trans (((hG_2.1 96 (by decide))).trans (hG_1.1 96 (by decide)))))] at pm_35
      rw [show g40_27 73 29 = (h 73) 29 from (congrFun (hG_27.1 73 (by decide)) 29).trans ((congrFun ((sOf_ne _ _ (by decide)).trans (hG_3.1 73 (by decide))) 29).trans ((congrFun (hG_2.1 73 (by decide)) 29).trans (congrFun (hG_1.1 73 (by decide)) 29)))] at pc_35
      show TT K ly 0 0 46 [(3, vI z3_1), (0, vR 73), (1, vI x), (2, vI y)] [vI z43_35] g43_35
      refine TT_iconst hK dX12_spread_46 ?_
      refine TT_icmp_ne hK (tgt := 56) (irm (by omega) (by omega)) (by decide) dX12_spread_47 (by decide) (fun hb47_36 => ?_) (fun hb47_36 => ?_)
      · refine TT_vret hK hQ ?_ dX12_spread_56
        have e37_73_32 : g43_35 73 32 = (g43_35 73) 32 := rfl
        have e38_73_34 : g43_35 73 34 = (g43_35 73) 34 := rfl
        have e39_73_36 : g43_35 73 36 = (g43_35 73) 36 := rfl
        have e40_73_34 : g43_35 73 34 = (g43_35 73) 34 := rfl
        have e41_73_36 : g43_35 73 36 = (g43_35 73) 36 := rfl
        have e42_93 : g43_35 93 = h 93 := ((hG_35.1 93 (by decide))).trans (((hG_27.1 93 (by decide))).trans ((sOf_ne _ _ (by decide)).trans (((hG_3.1 93 (by decide))).trans (((hG_2.1 93 (by decide))).trans (hG_1.1 93 (by decide))))))
        have e43_84 : g43_35 84 = h 84 := ((hG_35.1 84 (by decide))).trans (((hG_27.1 84 (by decide))).trans ((sOf_ne _ _ (by decide)).trans (((hG_3.1 84 (by decide))).trans (((hG_2.1 84 (by decide))).trans (hG_1.1 84 (by decide))))))
        have e44_85 : g43_35 85 = h 85 := ((hG_35.1 85 (by decide))).trans (((hG_27.1 85 (by decide))).trans ((sOf_ne _ _ (by decide)).trans (((hG_3.1 85 (by decide))).trans (((hG_2.1 85 (by decide))).trans (hG_1.1 85 (by decide))))))
        exact ⟨⟨hT_35, hF_35⟩, rfl, (by rewrite [e37_73_32]; omega), (by rewrite [e38_73_34, e39_73_36]; omega), (by rewrite [e40_73_34, e41_73_36, e42_93]; intro w e h1 h2 h3 h4 h5; first | omega | (have k8 := pz_at53 w e h1 h2 h3 h4 (by omega); omega)), (by rewrite [e43_84, e44_85]; first | exact pk_at53 | (intro j hj; exact ⟨rfl, rfl⟩))⟩
      · refine TT_aload_n hK rfl 1 rfl dX12_spread_50 ?_
        refine TT_iload_n hK rfl 2 rfl dX12_spread_51 ?_
        refine TT_iload_n hK rfl 3 rfl dX12_spread_52 ?_
        have e45_74 : g43_35 74 = h 74 := ((hG_35.1 74 (by decide))).trans (((hG_27.1 74 (by decide))).trans ((sOf_ne _ _ (by decide)).trans (((hG_3.1 74 (by decide))).trans (((hG_2.1 74 (by decide))).trans (hG_1.1 74 (by decide))))))
        have e46_75 : g43_35 75 = h 75 := ((hG_35.1 75 (by decide))).trans (((hG_27.1 75 (by decide))).trans ((sOf_ne _ _ (by decide)).trans (((hG_3.1 75 (by decide))).trans (((hG_2.1 75 (by decide))).trans (hG_1.1 75 (by decide))))))
        have e47_73_32 : g43_35 73 32 = (g43_35 73) 32 := rfl
        have e48_73_29 : g43_35 73 29 = (h 73) 29 := ((hG_35.2 29 (by decide))).trans ((congrFun (hG_27.1 73 (by decide)) 29).trans ((congrFun ((sOf_ne _ _ (by decide)).trans (hG_3.1 73 (by decide))) 29).trans ((congrFun (hG_2.1 73 (by decide)) 29).trans (congrFun (hG_1.1 73 (by decide)) 29))))
        have e49_73_34 : g43_35 73 34 = (g43_35 73) 34 := rfl
        have e50_73_36 : g43_35 73 36 = (g43_35 73) 36 := rfl
        have e51_73_26 : g43_35 73 26 = (h 73) 26 := ((hG_35.2 26 (by decide))).trans ((congrFun (hG_27.1 73 (by decide)) 26).trans ((congrFun ((sOf_ne _ _ (by decide)).trans (hG_3.1 73 (by decide))) 26).trans ((congrFun (hG_2.1 73 (by decide)) 26).trans (congrFun (hG_1.1 73 (by decide)) 26))))
        have e52_73_29 : g43_35 73 29 = (h 73) 29 := ((hG_35.2 29 (by decide))).trans ((congrFun (hG_27.1 73 (by decide)) 29).trans ((congrFun ((sOf_ne _ _ (by decide)).trans (hG_3.1 73 (by decide))) 29).trans ((congrFun (hG_2.1 73 (by decide)) 29).trans (congrFun (hG_1.1 73 (by decide)) 29))))
        refine iv_X12_267 hK (s_wake_k x y g43_35 hT_35 (by first | omega | (simp [up, setR] <;> omega)) (by first | omega | (simp [up, setR] <;> omega)) (by rewrite [e45_74, e46_75]; first | assumption | exact htb) (by rewrite [e47_73_32]; first | omega | (simp [up, setR] <;> omega)) (by rewrite [e48_73_29, e49_73_34, e50_73_36]; first | omega | (simp [up, setR] <;> omega)) (by rewrite [e51_73_26, e52_73_29]; first | omega | (simp [up, setR] <;> omega))) (by decide) rfl ⟨by decide, by decide⟩ (by decide) rfl rfl (Nat.le_of_ble_eq_true rfl) ⟨by decide, by decide⟩ dX12_spread_53 ?_
        intro r9 g53_53 hp9
        obtain ⟨⟨hT_53, hG_53⟩, hr9, pa_53, pm_53, pz_53, pk_53⟩ := hp9
        rw [hr9]
        have hF_53 : FRM [73, 84, 85, 93, 94, 96, 97, 98] [28, 32, 33, 34, 36, 39] h g53_53 := FRM_tr hF_35 hG_53 (by decide) (by decide)
        rw [show g43_35 73 29 = (h 73) 29 from ((hG_35.2 29 (by decide))).trans ((congrFun (hG_27.1 73 (by decide)) 29).trans ((congrFun ((sOf_ne _ _ (by decide)).trans (hG_3.1 73 (by decide))) 29).trans ((congrFun (hG_2.1 73 (by decide)) 29).trans (congrFun (hG_1.1 73 (by decide)) 29))))] at pm_53
        rw [show g43_35 73 34 = (g43_35 73) 34 from rfl] at pm_53
        rw [show g43_35 73 36 = (g43_35 73) 36 from rfl] at pm_53
        rw [show g43_35 93 = h 93 from ((hG_35.1 93 (by decide))).trans (((hG_27.1 93 (by decide))).trans ((sOf_ne _ _ (by decide)).trans (((hG_3.1 93 (by decide))).trans (((hG_2.1 93 (by decide))).trans (hG_1.1 93 (by decide))))))] at pz_53
        rw [show g43_35 84 = h 84 from ((hG_35.1 84 (by decide))).trans (((hG_27.1 84 (by decide))).trans ((sOf_ne _ _ (by decide)).trans (((hG_3.1 84 (by decide))).trans (((hG_2.1 84 (by decide))).trans (hG_1.1 84 (by decide))))))] at pk_53
        rw [show g43_35 85 = h 85 from ((hG_35.1 85 (by decide))).trans (((hG_27.1 85 (by decide))).trans ((sOf_ne _ _ (by decide)).trans (((hG_3.1 85 (by decide))).trans (((hG_2.1 85 (by decide))).trans (hG_1.1 85 (by decide))))))] at pk_53
        have pz_at53 := pz_53
        have pk_at53 := pk_53
        show TT K ly 0 0 56 [(3, vI z3_1), (0, vR 73), (1, vI x), (2, vI y)] [] g53_53
        refine TT_vret hK hQ ?_ dX12_spread_56
        have e54_73_32 : g53_53 73 32 = (g53_53 73) 32 := rfl
        have e55_73_34 : g53_53 73 34 = (g53_53 73) 34 := rfl
        have e56_73_36 : g53_53 73 36 = (g53_53 73) 36 := rfl
        have e57_73_34 : g53_53 73 34 = (g53_53 73) 34 := rfl
        have e58_73_36 : g53_53 73 36 = (g53_53 73) 36 := rfl
        exact ⟨⟨hT_53, hF_53⟩, rfl, (by rewrite [e54_73_32]; omega), (by rewrite [e55_73_34, e56_73_36]; omega), (by rewrite [e57_73_34, e58_73_36]; intro w e h1 h2 h3 h4 h5; first | omega | (have k8 := pz_at53 w e h1 h2 h3 h4 (by omega); omega)), (by first | exact pk_at53 | (intro j hj; exact ⟨rfl, rfl⟩))⟩
set_option maxRecDepth 20000 in
theorem s_refine_k (x y : Int) (h : Hp_) (hT : TY h) (hx : 0 ≤ x ∧ x ≤ 7) (hy : 0 ≤ y ∧ y ≤ 7) (htb : TBL (h 74) (h 75)) (ha : 32768 ≤ (h 73 32) ∧ (h 73 32) < 65536) (hm : (h 73 29) = 0 → 1 ≤ (h 73 34) ∧ 1 ≤ (h 73 36) ∧ 7 * (h 73 36) - (h 73 34) + PhS (h 96) + 9 ≤ 22300) (hw1 : (h 73 29) = 1 → 10 ≤ (h 73 26)) : Ctr yX12_refine cX12_refine 6 none (rmd 4) ly ly 0 0 [vR 73, vI x, vI y] h (fun r h' => (TY h' ∧ FRM [73, 84, 95, 96, 97, 98] [28, 32, 33, 34, 36, 39] h h') ∧ r = none ∧ (32768 ≤ (h' 73 32) ∧ (h' 73 32) < 65536) ∧ ((h 73 29) = 0 → 1 ≤ (h' 73 34) ∧ 1 ≤ (h' 73 36) ∧ 7 * (h' 73 36) - (h' 73 34) + PhS (h' 96) ≤ 7 * (h 73 36) - (h 73 34) + PhS (h 96) + 9) ∧ (∀ j : Int, j < 640 → (h' 84) j = (h 84) j ∧ (h' 85) j = (h 85) j)) := by
  refine Ctr_of (by decide) (Nat.le_of_ble_eq_true rfl) ⟨Nat.le_refl _, Nat.le_refl _⟩ (fun K hK hQ _ => ?_)
  show TT K ly 0 0 0 [(0, vR 73), (1, vI x), (2, vI y)] [] h
  have hF : FRM [73, 84, 95, 96, 97, 98] [28, 32, 33, 34, 36, 39] h h := FRM_rf _ _ _
  refine TT_iload_n hK rfl 1 rfl dX12_refine_0 ?_
  refine TT_iload_n hK rfl 2 rfl dX12_refine_1 ?_
  refine iv_X12_234 hK (s_X12_spot x y h hT (by first | omega | (simp [up, setR] <;> omega)) (by first | omega | (simp [up, setR] <;> omega))) ⟨by decide, by decide⟩ (by decide) rfl rfl (Nat.le_of_ble_eq_true rfl) ⟨by decide, by decide⟩ dX12_refine_2 ?_
  intro r9 g2_1 hp9
  obtain ⟨⟨hT_1, hG_1⟩, z2_1, hr9, hz_1, p1_1⟩ := hp9
  rw [hr9]
  have hF_1 : FRM [73, 84, 95, 96, 97, 98] [28, 32, 33, 34, 36, 39] h g2_1 := FRM_tr hF hG_1 (by decide) (by decide)
  show TT K ly 0 0 5 [(0, vR 73), (1, vI x), (2, vI y)] [vI z2_1] g2_1
  refine TT_cgI (b := 10 * y + x + 11) (by omega) ?_
  refine TT_istore_n hK rfl (lv' := [(3, vI (10 * y + x + 11)), (0, vR 73), (1, vI x), (2, vI y)]) (by decide) rfl dX12_refine_5 ?_
  refine TT_aload_n hK rfl 1 rfl dX12_refine_6 ?_
  refine TT_iload_n hK rfl 0 rfl dX12_refine_7 ?_
  refine iv_X12_231 hK (s_X12_here_73 (10 * y + x + 11) g2_1 hT_1 (by first | omega | (simp [up, setR] <;> omega))) (by decide) rfl ⟨by decide, by decide⟩ (by decide) rfl rfl (Nat.le_of_ble_eq_true rfl) ⟨by decide, by decide⟩ dX12_refine_8 ?_
  intro r9 g8_2 hp9
  obtain ⟨⟨hT_2, hG_2⟩, z8_2, hr9, hz_2, p1_2⟩ := hp9
  rw [hr9]
  have hF_2 : FRM [73, 84, 95, 96, 97, 98] [28, 32, 33, 34, 36, 39] h g8_2 := FRM_tr hF_1 hG_2 (by decide) (by decide)
  rw [show g2_1 93 = h 93 from (hG_1.1 93 (by decide))] at p1_2
  show TT K ly 0 0 11 [(3, vI (10 * y + x + 11)), (0, vR 73), (1, vI x), (2, vI y)] [vI z8_2] g8_2
  refine TT_if_eq hK (tgt := 28) (irm (by omega) (by omega)) dX12_refine_11 (by decide) (fun hb11_3 => ?_) (fun hb11_3 => ?_)
  · refine TT_vret hK hQ ?_ dX12_refine_28
    have e4_73_32 : g8_2 73 32 = (h 73) 32 := (congrFun (hG_2.1 73 (by decide)) 32).trans (congrFun (hG_1.1 73 (by decide)) 32)
    have e5_73_34 : g8_2 73 34 = (h 73) 34 := (congrFun (hG_2.1 73 (by decide)) 34).trans (congrFun (hG_1.1 73 (by decide)) 34)
    have e6_73_36 : g8_2 73 36 = (h 73) 36 := (congrFun (hG_2.1 73 (by decide)) 36).trans (congrFun (hG_1.1 73 (by decide)) 36)
    have e7_96 : g8_2 96 = h 96 := ((hG_2.1 96 (by decide))).trans (hG_1.1 96 (by decide))
    have e8_84 : g8_2 84 = h 84 := ((hG_2.1 84 (by decide))).trans (hG_1.1 84 (by decide))
    have e9_85 : g8_2 85 = h 85 := ((hG_2.1 85 (by decide))).trans (hG_1.1 85 (by decide))
    exact ⟨⟨hT_2, hF_2⟩, rfl, (by rewrite [e4_73_32]; omega), (by rewrite [e5_73_34, e6_73_36, e7_96]; omega), (by rewrite [e8_84, e9_85]; intro j hj; exact ⟨(by first | rfl | exact fup_ne _ _ (by omega)), rfl⟩)⟩
  · refine TT_aload_n hK rfl 1 rfl dX12_refine_14 ?_
    refine gf_X12_78 hK (by decide) rfl (q := 94) rfl rfl dX12_refine_15 ?_
    refine TT_bipush hK (by decide) dX12_refine_18 ?_
    refine TT_iload_n hK rfl 3 rfl dX12_refine_20 ?_
    refine TT_imul hK dX12_refine_21 ?_
    refine TT_iload_n hK rfl 2 rfl dX12_refine_22 ?_
    refine TT_iadd hK dX12_refine_23 ?_
    refine TT_zald hK (o := 94) (n := 64) (by decide) rfl (by first | omega | (simp [up, setR] <;> omega)) (by first | omega | (simp [up, setR] <;> omega)) (v := (h 94) ((8 * y) + x)) (rd_ (((hG_2.1 94 (by decide))).trans (hG_1.1 94 (by decide))) rfl) dX12_refine_24 ?_
    have r10 := ty_94 (i := (8 * y) + x) (v := (h 94) ((8 * y) + x)) hT_2 (rd_ (((hG_2.1 94 (by decide))).trans (hG_1.1 94 (by decide))) rfl) (by omega) (by omega)
    refine TT_if_eq hK (tgt := 29) (irm (by omega) (by omega)) dX12_refine_25 (by decide) (fun hb25_11 => ?_) (fun hb25_11 => ?_)
    · refine TT_aload_n hK rfl 1 rfl dX12_refine_29 ?_
      refine gf_X12_81 hK (by decide) rfl (q := 95) rfl rfl dX12_refine_30 ?_
      refine TT_bipush hK (by decide) dX12_refine_33 ?_
      refine TT_iload_n hK rfl 3 rfl dX12_refine_35 ?_
      refine TT_imul hK dX12_refine_36 ?_
      refine TT_iload_n hK rfl 2 rfl dX12_refine_37 ?_
      refine TT_iadd hK dX12_refine_38 ?_
      refine TT_zald hK (o := 95) (n := 64) (by decide) rfl (by first | omega | (simp [up, setR] <;> omega)) (by first | omega | (simp [up, setR] <;> omega)) (v := (h 95) ((8 * y) + x)) (rd_ (((hG_2.1 95 (by decide))).trans (hG_1.1 95 (by decide))) rfl) dX12_refine_39 ?_
      have r12 := ty_95 (i := (8 * y) + x) (v := (h 95) ((8 * y) + x)) hT_2 (rd_ (((hG_2.1 95 (by decide))).trans (hG_1.1 95 (by decide))) rfl) (by omega) (by omega)
      refine TT_if_eq hK (tgt := 48) (irm (by omega) (by omega)) dX12_refine_40 (by decide) (fun hb40_13 => ?_) (fun hb40_13 => ?_)
      · refine TT_aload_n hK rfl 1 rfl dX12_refine_48 ?_
        refine TT_iload_n hK rfl 0 rfl dX12_refine_49 ?_
        refine iv_X12_237 hK (s_X12_inRow_73 (10 * y + x + 11) g8_2 hT_2 (by first | omega | (simp [up, setR] <;> omega))) (by decide) rfl ⟨by decide, by decide⟩ (by decide) rfl rfl (Nat.le_of_ble_eq_true rfl) ⟨by decide, by decide⟩ dX12_refine_50 ?_
        intro r9 g50_14 hp9
        obtain ⟨⟨hT_14, hG_14⟩, z50_14, hr9, hz_14⟩ := hp9
        rw [hr9]
        have hF_14 : FRM [73, 84, 95, 96, 97, 98] [28, 32, 33, 34, 36, 39] h g50_14 := FRM_tr hF_2 hG_14 (by decide) (by decide)
        show TT K ly 0 0 53 [(3, vI (10 * y + x + 11)), (0, vR 73), (1, vI x), (2, vI y)] [vI z50_14] g50_14
        refine TT_aload_n hK rfl 1 rfl dX12_refine_53 ?_
        refine TT_iload_n hK rfl 0 rfl dX12_refine_54 ?_
        refine iv_X12_240 hK (s_X12_inColumn_73 (10 * y + x + 11) g50_14 hT_14 (by first | omega | (simp [up, setR] <;> omega))) (by decide) rfl ⟨by decide, by decide⟩ (by decide) rfl rfl (Nat.le_of_ble_eq_true rfl) ⟨by decide, by decide⟩ dX12_refine_55 ?_
        intro r9 g55_15 hp9
        obtain ⟨⟨hT_15, hG_15⟩, z55_15, hr9, hz_15⟩ := hp9
        rw [hr9]
        have hF_15 : FRM [73, 84, 95, 96, 97, 98] [28, 32, 33, 34, 36, 39] h g55_15 := FRM_tr hF_14 hG_15 (by decide) (by decide)
        show TT K ly 0 0 58 [(3, vI (10 * y + x + 11)), (0, vR 73), (1, vI x), (2, vI y)] [vI z55_15, vI z50_14] g55_15
        refine TT_iadd hK dX12_refine_58 ?_
        refine TT_aload_n hK rfl 1 rfl dX12_refine_59 ?_
        refine TT_iload_n hK rfl 0 rfl dX12_refine_60 ?_
        refine iv_X12_243 hK (s_X12_acrossOf_73 (10 * y + x + 11) g55_15 hT_15 (by first | omega | (simp [up, setR] <;> omega))) (by decide) rfl ⟨by decide, by decide⟩ (by decide) rfl rfl (Nat.le_of_ble_eq_true rfl) ⟨by decide, by decide⟩ dX12_refine_61 ?_
        intro r9 g61_16 hp9
        obtain ⟨⟨hT_16, hG_16⟩, z61_16, hr9, hz_16⟩ := hp9
        rw [hr9]
        have hF_16 : FRM [73, 84, 95, 96, 97, 98] [28, 32, 33, 34, 36, 39] h g61_16 := FRM_tr hF_15 hG_16 (by decide) (by decide)
        show TT K ly 0 0 64 [(3, vI (10 * y + x + 11)), (0, vR 73), (1, vI x), (2, vI y)] [vI z61_16, vI (z50_14 + z55_15)] g61_16
        refine TT_iadd hK dX12_refine_64 ?_
        refine TT_if_le hK (tgt := 73) (irm (by omega) (by omega)) dX12_refine_65 (by decide) (fun hb65_17 => ?_) (fun hb65_17 => ?_)
        · refine TT_bipush hK (by decide) dX12_refine_73 ?_
          refine TT_istore hK (lv' := [(4, vI 14), (3, vI (10 * y + x + 11)), (0, vR 73), (1, vI x), (2, vI y)]) (by decide) rfl dX12_refine_75 ?_
          refine TT_aload_n hK rfl 2 rfl dX12_refine_77 ?_
          refine TT_iload hK 0 rfl dX12_refine_78 ?_
          refine TT_aload_n hK rfl 2 rfl dX12_refine_80 ?_
          refine TT_iload_n hK rfl 3 rfl dX12_refine_81 ?_
          refine TT_iload_n hK rfl 4 rfl dX12_refine_82 ?_
          refine iv_X12_264 hK (s_X12_bitAt_73 x y g61_16 hT_16 (by first | omega | (simp [up, setR] <;> omega)) (by first | omega | (simp [up, setR] <;> omega))) (by decide) rfl ⟨by decide, by decide⟩ (by decide) rfl rfl (Nat.le_of_ble_eq_true rfl) ⟨by decide, by decide⟩ dX12_refine_83 ?_
          intro r9 g83_18 hp9
          obtain ⟨⟨hT_18, hG_18⟩, z83_18, hr9, hz_18⟩ := hp9
          rw [hr9]
          have hF_18 : FRM [73, 84, 95, 96, 97, 98] [28, 32, 33, 34, 36, 39] h g83_18 := FRM_tr hF_16 hG_18 (by decide) (by decide)
          show TT K ly 0 0 86 [(4, vI 14), (3, vI (10 * y + x + 11)), (0, vR 73), (1, vI x), (2, vI y)] [vI z83_18, vI 14, vR 73] g83_18
          have e19_74 : g83_18 74 = h 74 := ((hG_18.1 74 (by decide))).trans (((hG_16.1 74 (by decide))).trans (((hG_15.1 74 (by decide))).trans (((hG_14.1 74 (by decide))).trans (((hG_2.1 74 (by decide))).trans (hG_1.1 74 (by decide))))))
          have e20_75 : g83_18 75 = h 75 := ((hG_18.1 75 (by decide))).trans (((hG_16.1 75 (by decide))).trans (((hG_15.1 75 (by decide))).trans (((hG_14.1 75 (by decide))).trans (((hG_2.1 75 (by decide))).trans (hG_1.1 75 (by decide))))))
          have e21_73_32 : g83_18 73 32 = (h 73) 32 := (congrFun (hG_18.1 73 (by decide)) 32).trans ((congrFun (hG_16.1 73 (by decide)) 32).trans ((congrFun (hG_15.1 73 (by decide)) 32).trans ((congrFun (hG_14.1 73 (by decide)) 32).trans ((congrFun (hG_2.1 73 (by decide)) 32).trans (congrFun (hG_1.1 73 (by decide)) 32)))))
          have e22_73_29 : g83_18 73 29 = (h 73) 29 := (congrFun (hG_18.1 73 (by decide)) 29).trans ((congrFun (hG_16.1 73 (by decide)) 29).trans ((congrFun (hG_15.1 73 (by decide)) 29).trans ((congrFun (hG_14.1 73 (by decide)) 29).trans ((congrFun (hG_2.1 73 (by decide)) 29).trans (congrFun (hG_1.1 73 (by decide)) 29)))))
          have e23_73_34 : g83_18 73 34 = (h 73) 34 := (congrFun (hG_18.1 73 (by decide)) 34).trans ((congrFun (hG_16.1 73 (by decide)) 34).trans ((congrFun (hG_15.1 73 (by decide)) 34).trans ((congrFun (hG_14.1 73 (by decide)) 34).trans ((congrFun (hG_2.1 73 (by decide)) 34).trans (congrFun (hG_1.1 73 (by decide)) 34)))))
          have e24_73_36 : g83_18 73 36 = (h 73) 36 := (congrFun (hG_18.1 73 (by decide)) 36).trans ((congrFun (hG_16.1 73 (by decide)) 36).trans ((congrFun (hG_15.1 73 (by decide)) 36).trans ((congrFun (hG_14.1 73 (by decide)) 36).trans ((congrFun (hG_2.1 73 (by decide)) 36).trans (congrFun (hG_1.1 73 (by decide)) 36)))))
          have e25_96 : g83_18 96 = h 96 := ((hG_18.1 96 (by decide))).trans (((hG_16.1 96 (by decide))).trans (((hG_15.1 96 (by decide))).trans (((hG_14.1 96 (by decide))).trans (((hG_2.1 96 (by decide))).trans (hG_1.1 96 (by decide))))))
          refine iv_X12_258 hK (s_code_k 14 z83_18 g83_18 hT_18 (by first | omega | (simp [up, setR] <;> omega)) (by first | omega | (simp [up, setR] <;> omega)) (by rewrite [e19_74, e20_75]; first | assumption | exact htb) (by rewrite [e21_73_32]; first | omega | (simp [up, setR] <;> omega)) (by rewrite [e22_73_29, e23_73_34, e24_73_36, e25_96]; first | omega | (simp [up, setR] <;> omega))) (by decide) rfl ⟨by decide, by decide⟩ (by decide) rfl rfl (Nat.le_of_ble_eq_true rfl) ⟨by decide, by decide⟩ dX12_refine_86 ?_
          intro r9 g86_26 hp9
          obtain ⟨⟨hT_26, hG_26⟩, z86_26, hr9, hz_26, pa_26, pm_26, pc_26⟩ := hp9
          rw [hr9]
          have hF_26 : FRM [73, 84, 95, 96, 97, 98] [28, 32, 33, 34, 36, 39] h g86_26 := FRM_tr hF_18 hG_26 (by decide) (by decide)
          rw [show g83_18 73 29 = (h 73) 29 from (congrFun (hG_18.1 73 (by decide)) 29).trans ((congrFun (hG_16.1 73 (by decide)) 29).trans ((congrFun (hG_15.1 73 (by decide)) 29).trans ((congrFun (hG_14.1 73 (by decide)) 29).trans ((congrFun (hG_2.1 73 (by decide)) 29).trans (congrFun (hG_1.1 73 (by decide)) 29)))))] at pm_26
          rw [show g83_18 73 34 = (h 73) 34 from (congrFun (hG_18.1 73 (by decide)) 34).trans ((congrFun (hG_16.1 73 (by decide)) 34).trans ((congrFun (hG_15.1 73 (by decide)) 34).trans ((congrFun (hG_14.1 73 (by decide)) 34).trans ((congrFun (hG_2.1 73 (by decide)) 34).trans (congrFun (hG_1.1 73 (by decide)) 34)))))] at pm_26
          rw [show g83_18 73 36 = (h 73) 36 from (congrFun (hG_18.1 73 (by decide)) 36).trans ((congrFun (hG_16.1 73 (by decide)) 36).trans ((congrFun (hG_15.1 73 (by decide)) 36).trans ((congrFun (hG_14.1 73 (by decide)) 36).trans ((congrFun (hG_2.1 73 (by decide)) 36).trans (congrFun (hG_1.1 73 (by decide)) 36)))))] at pm_26
          rw [show g83_18 96 = h 96 from ((hG_18.1 96 (by decide))).trans (((hG_16.1 96 (by decide))).trans (((hG_15.1 96 (by decide))).trans (((hG_14.1 96 (by decide))).trans (((hG_2.1 96 (by decide))).trans (hG_1.1 96 (by decide))))))] at pm_26
          rw [show g83_18 73 29 = (h 73) 29 from (congrFun (hG_18.1 73 (by decide)) 29).trans ((congrFun (hG_16.1 73 (by decide)) 29).trans ((congrFun (hG_15.1 73 (by decide)) 29).trans ((congrFun (hG_14.1 73 (by decide)) 29).trans ((congrFun (hG_2.1 73 (by decide)) 29).trans (congrFun (hG_1.1 73 (by decide)) 29)))))] at pc_26
          show TT K ly 0 0 89 [(4, vI 14), (3, vI (10 * y + x + 11)), (0, vR 73), (1, vI x), (2, vI y)] [vI z86_26] g86_26
          refine TT_istore hK (lv' := [(5, vI z86_26), (4, vI 14), (3, vI (10 * y + x + 11)), (0, vR 73), (1, vI x), (2, vI y)]) (by decide) rfl dX12_refine_89 ?_
          refine TT_aload_n hK rfl 3 rfl dX12_refine_91 ?_
          refine gf_X12_81 hK (by decide) rfl (q := 95) rfl rfl dX12_refine_92 ?_
          refine TT_bipush hK (by decide) dX12_refine_95 ?_
          refine TT_iload_n hK rfl 5 rfl dX12_refine_97 ?_
          refine TT_imul hK dX12_refine_98 ?_
          refine TT_iload_n hK rfl 4 rfl dX12_refine_99 ?_
          refine TT_iadd hK dX12_refine_100 ?_
          refine TT_iconst hK dX12_refine_101 ?_
          refine TT_zast hK (o := 95) (n := 64) (by decide) rfl (by omega) (by omega) (by first | decide | omega) dX12_refine_102 ?_
          refine TT_hp (h' := setO g86_26 95 (fup (h 95) ((8 * y) + x) 1)) (up_can (((hG_26.1 95 (by decide))).trans (((hG_18.1 95 (by decide))).trans (((hG_16.1 95 (by decide))).trans (((hG_15.1 95 (by decide))).trans (((hG_14.1 95 (by decide))).trans (((hG_2.1 95 (by decide))).trans (hG_1.1 95 (by decide)))))))) rfl rfl) ?_
          have hT_27 : TY (setO g86_26 95 (fup (h 95) ((8 * y) + x) 1)) := tu_95 hT_26 (show up g86_26 95 ((8 * y) + x) 1 = (setO g86_26 95 (fup (h 95) ((8 * y) + x) 1)) from up_can (((hG_26.1 95 (by decide))).trans (((hG_18.1 95 (by decide))).trans (((hG_16.1 95 (by decide))).trans (((hG_15.1 95 (by decide))).trans (((hG_14.1 95 (by decide))).trans (((hG_2.1 95 (by decide))).trans (hG_1.1 95 (by decide)))))))) rfl rfl) (by omega)
          have hF_27 : FRM [73, 84, 95, 96, 97, 98] [28, 32, 33, 34, 36, 39] h (setO g86_26 95 (fup (h 95) ((8 * y) + x) 1)) := FRM_up (show up g86_26 95 ((8 * y) + x) 1 = (setO g86_26 95 (fup (h 95) ((8 * y) + x) 1)) from up_can (((hG_26.1 95 (by decide))).trans (((hG_18.1 95 (by decide))).trans (((hG_16.1 95 (by decide))).trans (((hG_15.1 95 (by decide))).trans (((hG_14.1 95 (by decide))).trans (((hG_2.1 95 (by decide))).trans (hG_1.1 95 (by decide)))))))) rfl rfl) hF_26 (by decide) (by decide)
          refine TT_aload_n hK rfl 3 rfl dX12_refine_103 ?_
          refine gf_X12_163 hK (by decide) rfl (v := (h 73) 29) ((rd_ (sOf_ne _ _ (by decide)) rfl).trans (((hG_26.2 29 (by decide))).trans ((congrFun (hG_18.1 73 (by decide)) 29).trans ((congrFun (hG_16.1 73 (by decide)) 29).trans ((congrFun (hG_15.1 73 (by decide)) 29).trans ((congrFun (hG_14.1 73 (by decide)) 29).trans ((congrFun (hG_2.1 73 (by decide)) 29).trans (congrFun (hG_1.1 73 (by decide)) 29)))))))) dX12_refine_104 ?_
          have r28 := ty_73_29 (v := (h 73) 29) hT_27 ((rd_ (sOf_ne _ _ (by decide)) rfl).trans (((hG_26.2 29 (by decide))).trans ((congrFun (hG_18.1 73 (by decide)) 29).trans ((congrFun (hG_16.1 73 (by decide)) 29).trans ((congrFun (hG_15.1 73 (by decide)) 29).trans ((congrFun (hG_14.1 73 (by decide)) 29).trans ((congrFun (hG_2.1 73 (by decide)) 29).trans (congrFun (hG_1.1 73 (by decide)) 29))))))))
          refine TT_iconst hK dX12_refine_107 ?_
          refine TT_icmp_ne hK (tgt := 141) (irm (by omega) (by omega)) (by decide) dX12_refine_108 (by decide) (fun hb108_29 => ?_) (fun hb108_29 => ?_)
          · refine TT_vret hK hQ ?_ dX12_refine_141
            have e30_73_32 : (setO g86_26 95 (fup (h 95) ((8 * y) + x) 1)) 73 32 = (g86_26 73) 32 := rd_ (sOf_ne _ _ (by decide)) rfl
            have e31_73_34 : (setO g86_26 95 (fup (h 95) ((8 * y) + x) 1)) 73 34 = (g86_26 73) 34 := rd_ (sOf_ne _ _ (by decide)) rfl
            have e32_73_36 : (setO g86_26 95 (fup (h 95) ((8 * y) + x) 1)) 73 36 = (g86_26 73) 36 := rd_ (sOf_ne _ _ (by decide)) rfl
            have e33_96 : (setO g86_26 95 (fup (h 95) ((8 * y) + x) 1)) 96 = g86_26 96 := sOf_ne _ _ (by decide)
            have e34_84 : (setO g86_26 95 (fup (h 95) ((8 * y) + x) 1)) 84 = h 84 := (sOf_ne _ _ (by decide)).trans (((hG_26.1 84 (by decide))).trans (((hG_18.1 84 (by decide))).trans (((hG_16.1 84 (by decide))).trans (((hG_15.1 84 (by decide))).trans (((hG_14.1 84 (by decide))).trans (((hG_2.1 84 (by decide))).trans (hG_1.1 84 (by decide))))))))
            have e35_85 : (setO g86_26 95 (fup (h 95) ((8 * y) + x) 1)) 85 = h 85 := (sOf_ne _ _ (by decide)).trans (((hG_26.1 85 (by decide))).trans (((hG_18.1 85 (by decide))).trans (((hG_16.1 85 (by decide))).trans (((hG_15.1 85 (by decide))).trans (((hG_14.1 85 (by decide))).trans (((hG_2.1 85 (by decide))).trans (hG_1.1 85 (by decide))))))))
            exact ⟨⟨hT_27, hF_27⟩, rfl, (by rewrite [e30_73_32]; omega), (by rewrite [e31_73_34, e32_73_36, e33_96]; omega), (by rewrite [e34_84, e35_85]; intro j hj; exact ⟨(by first | rfl | exact fup_ne _ _ (by omega)), rfl⟩)⟩
          · refine TT_aload_n hK rfl 3 rfl dX12_refine_111 ?_
            refine gf_X12_47 hK (by decide) rfl (q := 84) rfl rfl dX12_refine_112 ?_
            refine TT_aload_n hK rfl 3 rfl dX12_refine_115 ?_
            refine TT_iload_n hK rfl 4 rfl dX12_refine_116 ?_
            refine TT_iload_n hK rfl 5 rfl dX12_refine_117 ?_
            refine iv_X12_249 hK (s_X12_cell_73 x y (setO g86_26 95 (fup (h 95) ((8 * y) + x) 1)) hT_27 (by first | omega | (simp [up, setR] <;> omega)) (by first | omega | (simp [up, setR] <;> omega))) (by decide) rfl ⟨by decide, by decide⟩ (by decide) rfl rfl (Nat.le_of_ble_eq_true rfl) ⟨by decide, by decide⟩ dX12_refine_118 ?_
            intro r9 g118_36 hp9
            obtain ⟨⟨hT_36, hG_36⟩, z118_36, hr9, hz_36, p1_36⟩ := hp9
            rw [hr9]
            have hF_36 : FRM [73, 84, 95, 96, 97, 98] [28, 32, 33, 34, 36, 39] h g118_36 := FRM_tr hF_27 hG_36 (by decide) (by decide)
            rw [show (setO g86_26 95 (fup (h 95) ((8 * y) + x) 1)) 73 26 = (h 73) 26 from (rd_ (sOf_ne _ _ (by decide)) rfl).trans (((hG_26.2 26 (by decide))).trans ((congrFun (hG_18.1 73 (by decide)) 26).trans ((congrFun (hG_16.1 73 (by decide)) 26).trans ((congrFun (hG_15.1 73 (by decide)) 26).trans ((congrFun (hG_14.1 73 (by decide)) 26).trans ((congrFun (hG_2.1 73 (by decide)) 26).trans (congrFun (hG_1.1 73 (by decide)) 26)))))))] at p1_36
            show TT K ly 0 0 121 [(5, vI z86_26), (4, vI 14), (3, vI (10 * y + x + 11)), (0, vR 73), (1, vI x), (2, vI y)] [vI z118_36, vR 84] g118_36
            refine TT_cgI (b := 64 * ((h 73) 26) + 8 * y + x) (by omega) ?_
            refine TT_aload_n hK rfl 3 rfl dX12_refine_121 ?_
            refine gf_X12_47 hK (by decide) rfl (q := 84) rfl rfl dX12_refine_122 ?_
            refine TT_aload_n hK rfl 3 rfl dX12_refine_125 ?_
            refine TT_iload_n hK rfl 4 rfl dX12_refine_126 ?_
            refine TT_iload_n hK rfl 5 rfl dX12_refine_127 ?_
            refine iv_X12_249 hK (s_X12_cell_73 x y g118_36 hT_36 (by first | omega | (simp [up, setR] <;> omega)) (by first | omega | (simp [up, setR] <;> omega))) (by decide) rfl ⟨by decide, by decide⟩ (by decide) rfl rfl (Nat.le_of_ble_eq_true rfl) ⟨by decide, by decide⟩ dX12_refine_128 ?_
            intro r9 g128_37 hp9
            obtain ⟨⟨hT_37, hG_37⟩, z128_37, hr9, hz_37, p1_37⟩ := hp9
            rw [hr9]
            have hF_37 : FRM [73, 84, 95, 96, 97, 98] [28, 32, 33, 34, 36, 39] h g128_37 := FRM_tr hF_36 hG_37 (by decide) (by decide)
            rw [show g118_36 73 26 = (h 73) 26 from (congrFun (hG_36.1 73 (by decide)) 26).trans ((rd_ (sOf_ne _ _ (by decide)) rfl).trans (((hG_26.2 26 (by decide))).trans ((congrFun (hG_18.1 73 (by decide)) 26).trans ((congrFun (hG_16.1 73 (by decide)) 26).trans ((congrFun (hG_15.1 73 (by decide)) 26).trans ((congrFun (hG_14.1 73 (by decide)) 26).trans ((congrFun (hG_2.1 73 (by decide)) 26).trans (congrFun (hG_1.1 73 (by decide)) 26))))))))] at p1_37
            show TT K ly 0 0 131 [(5, vI z86_26), (4, vI 14), (3, vI (10 * y + x + 11)), (0, vR 73), (1, vI x), (2, vI y)] [vI z128_37, vR 84, vI (64 * ((h 73) 26) + 8 * y + x), vR 84] g128_37
            refine TT_cgI (b := 64 * ((h 73) 26) + 8 * y + x) (by omega) ?_
            refine TT_iald hK (o := 84) (n := 1280) (by decide) rfl (by first | omega | (simp [up, setR] <;> omega)) (by first | omega | (simp [up, setR] <;> omega)) (v := (h 84) (64 * ((h 73) 26) + 8 * y + x)) (rd_ (((hG_37.1 84 (by decide))).trans (((hG_36.1 84 (by decide))).trans ((sOf_ne _ _ (by decide)).trans (((hG_26.1 84 (by decide))).trans (((hG_18.1 84 (by decide))).trans (((hG_16.1 84 (by decide))).trans (((hG_15.1 84 (by decide))).trans (((hG_14.1 84 (by decide))).trans (((hG_2.1 84 (by decide))).trans (hG_1.1 84 (by decide))))))))))) rfl) dX12_refine_131 ?_
            have r38 := ty_84 (i := 64 * ((h 73) 26) + 8 * y + x) (v := (h 84) (64 * ((h 73) 26) + 8 * y + x)) hT_37 (rd_ (((hG_37.1 84 (by decide))).trans (((hG_36.1 84 (by decide))).trans ((sOf_ne _ _ (by decide)).trans (((hG_26.1 84 (by decide))).trans (((hG_18.1 84 (by decide))).trans (((hG_16.1 84 (by decide))).trans (((hG_15.1 84 (by decide))).trans (((hG_14.1 84 (by decide))).trans (((hG_2.1 84 (by decide))).trans (hG_1.1 84 (by decide))))))))))) rfl) (by omega) (by omega)
            refine TT_iload hK 0 rfl dX12_refine_132 ?_
            refine TT_aload_n hK rfl 3 rfl dX12_refine_134 ?_
            refine gf_X12_252 hK (by decide) rfl (v := (h 73) 27) ((congrFun (hG_37.1 73 (by decide)) 27).trans ((congrFun (hG_36.1 73 (by decide)) 27).trans ((rd_ (sOf_ne _ _ (by decide)) rfl).trans (((hG_26.2 27 (by decide))).trans ((congrFun (hG_18.1 73 (by decide)) 27).trans ((congrFun (hG_16.1 73 (by decide)) 27).trans ((congrFun (hG_15.1 73 (by decide)) 27).trans ((congrFun (hG_14.1 73 (by decide)) 27).trans ((congrFun (hG_2.1 73 (by decide)) 27).trans (congrFun (hG_1.1 73 (by decide)) 27)))))))))) dX12_refine_135 ?_
            have r39 := ty_73_27 (v := (h 73) 27) hT_37 ((congrFun (hG_37.1 73 (by decide)) 27).trans ((congrFun (hG_36.1 73 (by decide)) 27).trans ((rd_ (sOf_ne _ _ (by decide)) rfl).trans (((hG_26.2 27 (by decide))).trans ((congrFun (hG_18.1 73 (by decide)) 27).trans ((congrFun (hG_16.1 73 (by decide)) 27).trans ((congrFun (hG_15.1 73 (by decide)) 27).trans ((congrFun (hG_14.1 73 (by decide)) 27).trans ((congrFun (hG_2.1 73 (by decide)) 27).trans (congrFun (hG_1.1 73 (by decide)) 27))))))))))
            refine TT_ishl_a hK dX12_refine_138 (fun x138_40 hx40 => ?_)
            refine TT_ior hK dX12_refine_139 ?_
            refine TT_w32 (fun x140_41 hx41 => ?_)
            refine TT_iast hK (o := 84) (n := 1280) (by decide) rfl (by omega) (by omega) dX12_refine_140 ?_
            refine TT_hp (h' := setO g128_37 84 (fup (h 84) (64 * ((h 73) 26) + 8 * y + x) x140_41)) (up_can (((hG_37.1 84 (by decide))).trans (((hG_36.1 84 (by decide))).trans ((sOf_ne _ _ (by decide)).trans (((hG_26.1 84 (by decide))).trans (((hG_18.1 84 (by decide))).trans (((hG_16.1 84 (by decide))).trans (((hG_15.1 84 (by decide))).trans (((hG_14.1 84 (by decide))).trans (((hG_2.1 84 (by decide))).trans (hG_1.1 84 (by decide))))))))))) rfl rfl) ?_
            have hT_42 : TY (setO g128_37 84 (fup (h 84) (64 * ((h 73) 26) + 8 * y + x) x140_41)) := tu_84 hT_37 (show up g128_37 84 (64 * ((h 73) 26) + 8 * y + x) x140_41 = (setO g128_37 84 (fup (h 84) (64 * ((h 73) 26) + 8 * y + x) x140_41)) from up_can (((hG_37.1 84 (by decide))).trans (((hG_36.1 84 (by decide))).trans ((sOf_ne _ _ (by decide)).trans (((hG_26.1 84 (by decide))).trans (((hG_18.1 84 (by decide))).trans (((hG_16.1 84 (by decide))).trans (((hG_15.1 84 (by decide))).trans (((hG_14.1 84 (by decide))).trans (((hG_2.1 84 (by decide))).trans (hG_1.1 84 (by decide))))))))))) rfl rfl) (by omega)
            have hF_42 : FRM [73, 84, 95, 96, 97, 98] [28, 32, 33, 34, 36, 39] h (setO g128_37 84 (fup (h 84) (64 * ((h 73) 26) + 8 * y + x) x140_41)) := FRM_up (show up g128_37 84 (64 * ((h 73) 26) + 8 * y + x) x140_41 = (setO g128_37 84 (fup (h 84) (64 * ((h 73) 26) + 8 * y + x) x140_41)) from up_can (((hG_37.1 84 (by decide))).trans (((hG_36.1 84 (by decide))).trans ((sOf_ne _ _ (by decide)).trans (((hG_26.1 84 (by decide))).trans (((hG_18.1 84 (by decide))).trans (((hG_16.1 84 (by decide))).trans (((hG_15.1 84 (by decide))).trans (((hG_14.1 84 (by decide))).trans (((hG_2.1 84 (by decide))).trans (hG_1.1 84 (by decide))))))))))) rfl rfl) hF_37 (by decide) (by decide)
            refine TT_vret hK hQ ?_ dX12_refine_141
            have e43_73_32 : (setO g128_37 84 (fup (h 84) (64 * ((h 73) 26) + 8 * y + x) x140_41)) 73 32 = (g86_26 73) 32 := (congrFun ((sOf_ne _ _ (by decide)).trans (hG_37.1 73 (by decide))) 32).trans ((congrFun (hG_36.1 73 (by decide)) 32).trans (rd_ (sOf_ne _ _ (by decide)) rfl))
            have e44_73_34 : (setO g128_37 84 (fup (h 84) (64 * ((h 73) 26) + 8 * y + x) x140_41)) 73 34 = (g86_26 73) 34 := (congrFun ((sOf_ne _ _ (by decide)).trans (hG_37.1 73 (by decide))) 34).trans ((congrFun (hG_36.1 73 (by decide)) 34).trans (rd_ (sOf_ne _ _ (by decide)) rfl))
            have e45_73_36 : (setO g128_37 84 (fup (h 84) (64 * ((h 73) 26) + 8 * y + x) x140_41)) 73 36 = (g86_26 73) 36 := (congrFun ((sOf_ne _ _ (by decide)).trans (hG_37.1 73 (by decide))) 36).trans ((congrFun (hG_36.1 73 (by decide)) 36).trans (rd_ (sOf_ne _ _ (by decide)) rfl))
            have e46_96 : (setO g128_37 84 (fup (h 84) (64 * ((h 73) 26) + 8 * y + x) x140_41)) 96 = g86_26 96 := (sOf_ne _ _ (by decide)).trans (((hG_37.1 96 (by decide))).trans (((hG_36.1 96 (by decide))).trans (sOf_ne _ _ (by decide))))
            have e47_84 : (setO g128_37 84 (fup (h 84) (64 * ((h 73) 26) + 8 * y + x) x140_41)) 84 = fup (h 84) (64 * ((h 73) 26) + 8 * y + x) x140_41 := sOf_eq _ _ _
            have e48_85 : (setO g128_37 84 (fup (h 84) (64 * ((h 73) 26) + 8 * y + x) x140_41)) 85 = h 85 := (sOf_ne _ _ (by decide)).trans (((hG_37.1 85 (by decide))).trans (((hG_36.1 85 (by decide))).trans ((sOf_ne _ _ (by decide)).trans (((hG_26.1 85 (by decide))).trans (((hG_18.1 85 (by decide))).trans (((hG_16.1 85 (by decide))).trans (((hG_15.1 85 (by decide))).trans (((hG_14.1 85 (by decide))).trans (((hG_2.1 85 (by decide))).trans (hG_1.1 85 (by decide)))))))))))
            exact ⟨⟨hT_42, hF_42⟩, rfl, (by rewrite [e43_73_32]; omega), (by rewrite [e44_73_34, e45_73_36, e46_96]; omega), (by rewrite [e47_84, e48_85]; intro j hj; exact ⟨(by first | rfl | exact fup_ne _ _ (by omega)), rfl⟩)⟩
        · refine TT_bipush hK (by decide) dX12_refine_68 ?_
          refine TT_goto hK (tgt := 75) dX12_refine_70 (by decide) ?_
          refine TT_istore hK (lv' := [(4, vI 15), (3, vI (10 * y + x + 11)), (0, vR 73), (1, vI x), (2, vI y)]) (by decide) rfl dX12_refine_75 ?_
          refine TT_aload_n hK rfl 2 rfl dX12_refine_77 ?_
          refine TT_iload hK 0 rfl dX12_refine_78 ?_
          refine TT_aload_n hK rfl 2 rfl dX12_refine_80 ?_
          refine TT_iload_n hK rfl 3 rfl dX12_refine_81 ?_
          refine TT_iload_n hK rfl 4 rfl dX12_refine_82 ?_
          refine iv_X12_264 hK (s_X12_bitAt_73 x y g61_16 hT_16 (by first | omega | (simp [up, setR] <;> omega)) (by first | omega | (simp [up, setR] <;> omega))) (by decide) rfl ⟨by decide, by decide⟩ (by decide) rfl rfl (Nat.le_of_ble_eq_true rfl) ⟨by decide, by decide⟩ dX12_refine_83 ?_
          intro r9 g83_49 hp9
          obtain ⟨⟨hT_49, hG_49⟩, z83_49, hr9, hz_49⟩ := hp9
          rw [hr9]
          have hF_49 : FRM [73, 84, 95, 96, 97, 98] [28, 32, 33, 34, 36, 39] h g83_49 := FRM_tr hF_16 hG_49 (by decide) (by decide)
          show TT K ly 0 0 86 [(4, vI 15), (3, vI (10 * y + x + 11)), (0, vR 73), (1, vI x), (2, vI y)] [vI z83_49, vI 15, vR 73] g83_49
          have e50_74 : g83_49 74 = h 74 := ((hG_49.1 74 (by decide))).trans (((hG_16.1 74 (by decide))).trans (((hG_15.1 74 (by decide))).trans (((hG_14.1 74 (by decide))).trans (((hG_2.1 74 (by decide))).trans (hG_1.1 74 (by decide))))))
          have e51_75 : g83_49 75 = h 75 := ((hG_49.1 75 (by decide))).trans (((hG_16.1 75 (by decide))).trans (((hG_15.1 75 (by decide))).trans (((hG_14.1 75 (by decide))).trans (((hG_2.1 75 (by decide))).trans (hG_1.1 75 (by decide))))))
          have e52_73_32 : g83_49 73 32 = (h 73) 32 := (congrFun (hG_49.1 73 (by decide)) 32).trans ((congrFun (hG_16.1 73 (by decide)) 32).trans ((congrFun (hG_15.1 73 (by decide)) 32).trans ((congrFun (hG_14.1 73 (by decide)) 32).trans ((congrFun (hG_2.1 73 (by decide)) 32).trans (congrFun (hG_1.1 73 (by decide)) 32)))))
          have e53_73_29 : g83_49 73 29 = (h 73) 29 := (congrFun (hG_49.1 73 (by decide)) 29).trans ((congrFun (hG_16.1 73 (by decide)) 29).trans ((congrFun (hG_15.1 73 (by decide)) 29).trans ((congrFun (hG_14.1 73 (by decide)) 29).trans ((congrFun (hG_2.1 73 (by decide)) 29).trans (congrFun (hG_1.1 73 (by decide)) 29)))))
          have e54_73_34 : g83_49 73 34 = (h 73) 34 := (congrFun (hG_49.1 73 (by decide)) 34).trans ((congrFun (hG_16.1 73 (by decide)) 34).trans ((congrFun (hG_15.1 73 (by decide)) 34).trans ((congrFun (hG_14.1 73 (by decide)) 34).trans ((congrFun (hG_2.1 73 (by decide)) 34).trans (congrFun (hG_1.1 73 (by decide)) 34)))))
          have e55_73_36 : g83_49 73 36 = (h 73) 36 := (congrFun (hG_49.1 73 (by decide)) 36).trans ((congrFun (hG_16.1 73 (by decide)) 36).trans ((congrFun (hG_15.1 73 (by decide)) 36).trans ((congrFun (hG_14.1 73 (by decide)) 36).trans ((congrFun (hG_2.1 73 (by decide)) 36).trans (congrFun (hG_1.1 73 (by decide)) 36)))))
          have e56_96 : g83_49 96 = h 96 := ((hG_49.1 96 (by decide))).trans (((hG_16.1 96 (by decide))).trans (((hG_15.1 96 (by decide))).trans (((hG_14.1 96 (by decide))).trans (((hG_2.1 96 (by decide))).trans (hG_1.1 96 (by decide))))))
          refine iv_X12_258 hK (s_code_k 15 z83_49 g83_49 hT_49 (by first | omega | (simp [up, setR] <;> omega)) (by first | omega | (simp [up, setR] <;> omega)) (by rewrite [e50_74, e51_75]; first | assumption | exact htb) (by rewrite [e52_73_32]; first | omega | (simp [up, setR] <;> omega)) (by rewrite [e53_73_29, e54_73_34, e55_73_36, e56_96]; first | omega | (simp [up, setR] <;> omega))) (by decide) rfl ⟨by decide, by decide⟩ (by decide) rfl rfl (Nat.le_of_ble_eq_true rfl) ⟨by decide, by decide⟩ dX12_refine_86 ?_
          intro r9 g86_57 hp9
          obtain ⟨⟨hT_57, hG_57⟩, z86_57, hr9, hz_57, pa_57, pm_57, pc_57⟩ := hp9
          rw [hr9]
          have hF_57 : FRM [73, 84, 95, 96, 97, 98] [28, 32, 33, 34, 36, 39] h g86_57 := FRM_tr hF_49 hG_57 (by decide) (by decide)
          rw [show g83_49 73 29 = (h 73) 29 from (congrFun (hG_49.1 73 (by decide)) 29).trans ((congrFun (hG_16.1 73 (by decide)) 29).trans ((congrFun (hG_15.1 73 (by decide)) 29).trans ((congrFun (hG_14.1 73 (by decide)) 29).trans ((congrFun (hG_2.1 73 (by decide)) 29).trans (congrFun (hG_1.1 73 (by decide)) 29)))))] at pm_57
          rw [show g83_49 73 34 = (h 73) 34 from (congrFun (hG_49.1 73 (by decide)) 34).trans ((congrFun (hG_16.1 73 (by decide)) 34).trans ((congrFun (hG_15.1 73 (by decide)) 34).trans ((congrFun (hG_14.1 73 (by decide)) 34).trans ((congrFun (hG_2.1 73 (by decide)) 34).trans (congrFun (hG_1.1 73 (by decide)) 34)))))] at pm_57
          rw [show g83_49 73 36 = (h 73) 36 from (congrFun (hG_49.1 73 (by decide)) 36).trans ((congrFun (hG_16.1 73 (by decide)) 36).trans ((congrFun (hG_15.1 73 (by decide)) 36).trans ((congrFun (hG_14.1 73 (by decide)) 36).trans ((congrFun (hG_2.1 73 (by decide)) 36).trans (congrFun (hG_1.1 73 (by decide)) 36)))))] at pm_57
          rw [show g83_49 96 = h 96 from ((hG_49.1 96 (by decide))).trans (((hG_16.1 96 (by decide))).trans (((hG_15.1 96 (by decide))).trans (((hG_14.1 96 (by decide))).trans (((hG_2.1 96 (by decide))).trans (hG_1.1 96 (by decide))))))] at pm_57
          rw [show g83_49 73 29 = (h 73) 29 from (congrFun (hG_49.1 73 (by decide)) 29).trans ((congrFun (hG_16.1 73 (by decide)) 29).trans ((congrFun (hG_15.1 73 (by decide)) 29).trans ((congrFun (hG_14.1 73 (by decide)) 29).trans ((congrFun (hG_2.1 73 (by decide)) 29).trans (congrFun (hG_1.1 73 (by decide)) 29)))))] at pc_57
          show TT K ly 0 0 89 [(4, vI 15), (3, vI (10 * y + x + 11)), (0, vR 73), (1, vI x), (2, vI y)] [vI z86_57] g86_57
          refine TT_istore hK (lv' := [(5, vI z86_57), (4, vI 15), (3, vI (10 * y + x + 11)), (0, vR 73), (1, vI x), (2, vI y)]) (by decide) rfl dX12_refine_89 ?_
          refine TT_aload_n hK rfl 3 rfl dX12_refine_91 ?_
          refine gf_X12_81 hK (by decide) rfl (q := 95) rfl rfl dX12_refine_92 ?_
          refine TT_bipush hK (by decide) dX12_refine_95 ?_
          refine TT_iload_n hK rfl 5 rfl dX12_refine_97 ?_
          refine TT_imul hK dX12_refine_98 ?_
          refine TT_iload_n hK rfl 4 rfl dX12_refine_99 ?_
          refine TT_iadd hK dX12_refine_100 ?_
          refine TT_iconst hK dX12_refine_101 ?_
          refine TT_zast hK (o := 95) (n := 64) (by decide) rfl (by omega) (by omega) (by first | decide | omega) dX12_refine_102 ?_
          refine TT_hp (h' := setO g86_57 95 (fup (h 95) ((8 * y) + x) 1)) (up_can (((hG_57.1 95 (by decide))).trans (((hG_49.1 95 (by decide))).trans (((hG_16.1 95 (by decide))).trans (((hG_15.1 95 (by decide))).trans (((hG_14.1 95 (by decide))).trans (((hG_2.1 95 (by decide))).trans (hG_1.1 95 (by decide)))))))) rfl rfl) ?_
          have hT_58 : TY (setO g86_57 95 (fup (h 95) ((8 * y) + x) 1)) := tu_95 hT_57 (show up g86_57 95 ((8 * y) + x) 1 = (setO g86_57 95 (fup (h 95) ((8 * y) + x) 1)) from up_can (((hG_57.1 95 (by decide))).trans (((hG_49.1 95 (by decide))).trans (((hG_16.1 95 (by decide))).trans (((hG_15.1 95 (by decide))).trans (((hG_14.1 95 (by decide))).trans (((hG_2.1 95 (by decide))).trans (hG_1.1 95 (by decide)))))))) rfl rfl) (by omega)
          have hF_58 : FRM [73, 84, 95, 96, 97, 98] [28, 32, 33, 34, 36, 39] h (setO g86_57 95 (fup (h 95) ((8 * y) + x) 1)) := FRM_up (show up g86_57 95 ((8 * y) + x) 1 = (setO g86_57 95 (fup (h 95) ((8 * y) + x) 1)) from up_can (((hG_57.1 95 (by decide))).trans (((hG_49.1 95 (by decide))).trans (((hG_16.1 95 (by decide))).trans (((hG_15.1 95 (by decide))).trans (((hG_14.1 95 (by decide))).trans (((hG_2.1 95 (by decide))).trans (hG_1.1 95 (by decide)))))))) rfl rfl) hF_57 (by decide) (by decide)
          refine TT_aload_n hK rfl 3 rfl dX12_refine_103 ?_
          refine gf_X12_163 hK (by decide) rfl (v := (h 73) 29) ((rd_ (sOf_ne _ _ (by decide)) rfl).trans (((hG_57.2 29 (by decide))).trans ((congrFun (hG_49.1 73 (by decide)) 29).trans ((congrFun (hG_16.1 73 (by decide)) 29).trans ((congrFun (hG_15.1 73 (by decide)) 29).trans ((congrFun (hG_14.1 73 (by decide)) 29).trans ((congrFun (hG_2.1 73 (by decide)) 29).trans (congrFun (hG_1.1 73 (by decide)) 29)))))))) dX12_refine_104 ?_
          have r59 := ty_73_29 (v := (h 73) 29) hT_58 ((rd_ (sOf_ne _ _ (by decide)) rfl).trans (((hG_57.2 29 (by decide))).trans ((congrFun (hG_49.1 73 (by decide)) 29).trans ((congrFun (hG_16.1 73 (by decide)) 29).trans ((congrFun (hG_15.1 73 (by decide)) 29).trans ((congrFun (hG_14.1 73 (by decide)) 29).trans ((congrFun (hG_2.1 73 (by decide)) 29).trans (congrFun (hG_1.1 73 (by decide)) 29))))))))
          refine TT_iconst hK dX12_refine_107 ?_
          refine TT_icmp_ne hK (tgt := 141) (irm (by omega) (by omega)) (by decide) dX12_refine_108 (by decide) (fun hb108_60 => ?_) (fun hb108_60 => ?_)
          · refine TT_vret hK hQ ?_ dX12_refine_141
            have e61_73_32 : (setO g86_57 95 (fup (h 95) ((8 * y) + x) 1)) 73 32 = (g86_57 73) 32 := rd_ (sOf_ne _ _ (by decide)) rfl
            have e62_73_34 : (setO g86_57 95 (fup (h 95) ((8 * y) + x) 1)) 73 34 = (g86_57 73) 34 := rd_ (sOf_ne _ _ (by decide)) rfl
            have e63_73_36 : (setO g86_57 95 (fup (h 95) ((8 * y) + x) 1)) 73 36 = (g86_57 73) 36 := rd_ (sOf_ne _ _ (by decide)) rfl
            have e64_96 : (setO g86_57 95 (fup (h 95) ((8 * y) + x) 1)) 96 = g86_57 96 := sOf_ne _ _ (by decide)
            have e65_84 : (setO g86_57 95 (fup (h 95) ((8 * y) + x) 1)) 84 = h 84 := (sOf_ne _ _ (by decide)).trans (((hG_57.1 84 (by decide))).trans (((hG_49.1 84 (by decide))).trans (((hG_16.1 84 (by decide))).trans (((hG_15.1 84 (by decide))).trans (((hG_14.1 84 (by decide))).trans (((hG_2.1 84 (by decide))).trans (hG_1.1 84 (by decide))))))))
            have e66_85 : (setO g86_57 95 (fup (h 95) ((8 * y) + x) 1)) 85 = h 85 := (sOf_ne _ _ (by decide)).trans (((hG_57.1 85 (by decide))).trans (((hG_49.1 85 (by decide))).trans (((hG_16.1 85 (by decide))).trans (((hG_15.1 85 (by decide))).trans (((hG_14.1 85 (by decide))).trans (((hG_2.1 85 (by decide))).trans (hG_1.1 85 (by decide))))))))
            exact ⟨⟨hT_58, hF_58⟩, rfl, (by rewrite [e61_73_32]; omega), (by rewrite [e62_73_34, e63_73_36, e64_96]; omega), (by rewrite [e65_84, e66_85]; intro j hj; exact ⟨(by first | rfl | exact fup_ne _ _ (by omega)), rfl⟩)⟩
          · refine TT_aload_n hK rfl 3 rfl dX12_refine_111 ?_
            refine gf_X12_47 hK (by decide) rfl (q := 84) rfl rfl dX12_refine_112 ?_
            refine TT_aload_n hK rfl 3 rfl dX12_refine_115 ?_
            refine TT_iload_n hK rfl 4 rfl dX12_refine_116 ?_
            refine TT_iload_n hK rfl 5 rfl dX12_refine_117 ?_
            refine iv_X12_249 hK (s_X12_cell_73 x y (setO g86_57 95 (fup (h 95) ((8 * y) + x) 1)) hT_58 (by first | omega | (simp [up, setR] <;> omega)) (by first | omega | (simp [up, setR] <;> omega))) (by decide) rfl ⟨by decide, by decide⟩ (by decide) rfl rfl (Nat.le_of_ble_eq_true rfl) ⟨by decide, by decide⟩ dX12_refine_118 ?_
            intro r9 g118_67 hp9
            obtain ⟨⟨hT_67, hG_67⟩, z118_67, hr9, hz_67, p1_67⟩ := hp9
            rw [hr9]
            have hF_67 : FRM [73, 84, 95, 96, 97, 98] [28, 32, 33, 34, 36, 39] h g118_67 := FRM_tr hF_58 hG_67 (by decide) (by decide)
            rw [show (setO g86_57 95 (fup (h 95) ((8 * y) + x) 1)) 73 26 = (h 73) 26 from (rd_ (sOf_ne _ _ (by decide)) rfl).trans (((hG_57.2 26 (by decide))).trans ((congrFun (hG_49.1 73 (by decide)) 26).trans ((congrFun (hG_16.1 73 (by decide)) 26).trans ((congrFun (hG_15.1 73 (by decide)) 26).trans ((congrFun (hG_14.1 73 (by decide)) 26).trans ((congrFun (hG_2.1 73 (by decide)) 26).trans (congrFun (hG_1.1 73 (by decide)) 26)))))))] at p1_67
            show TT K ly 0 0 121 [(5, vI z86_57), (4, vI 15), (3, vI (10 * y + x + 11)), (0, vR 73), (1, vI x), (2, vI y)] [vI z118_67, vR 84] g118_67
            refine TT_cgI (b := 64 * ((h 73) 26) + 8 * y + x) (by omega) ?_
            refine TT_aload_n hK rfl 3 rfl dX12_refine_121 ?_
            refine gf_X12_47 hK (by decide) rfl (q := 84) rfl rfl dX12_refine_122 ?_
            refine TT_aload_n hK rfl 3 rfl dX12_refine_125 ?_
            refine TT_iload_n hK rfl 4 rfl dX12_refine_126 ?_
            refine TT_iload_n hK rfl 5 rfl dX12_refine_127 ?_
            refine iv_X12_249 hK (s_X12_cell_73 x y g118_67 hT_67 (by first | omega | (simp [up, setR] <;> omega)) (by first | omega | (simp [up, setR] <;> omega))) (by decide) rfl ⟨by decide, by decide⟩ (by decide) rfl rfl (Nat.le_of_ble_eq_true rfl) ⟨by decide, by decide⟩ dX12_refine_128 ?_
            intro r9 g128_68 hp9
            obtain ⟨⟨hT_68, hG_68⟩, z128_68, hr9, hz_68, p1_68⟩ := hp9
            rw [hr9]
            have hF_68 : FRM [73, 84, 95, 96, 97, 98] [28, 32, 33, 34, 36, 39] h g128_68 := FRM_tr hF_67 hG_68 (by decide) (by decide)
            rw [show g118_67 73 26 = (h 73) 26 from (congrFun (hG_67.1 73 (by decide)) 26).trans ((rd_ (sOf_ne _ _ (by decide)) rfl).trans (((hG_57.2 26 (by decide))).trans ((congrFun (hG_49.1 73 (by decide)) 26).trans ((congrFun (hG_16.1 73 (by decide)) 26).trans ((congrFun (hG_15.1 73 (by decide)) 26).trans ((congrFun (hG_14.1 73 (by decide)) 26).trans ((congrFun (hG_2.1 73 (by decide)) 26).trans (congrFun (hG_1.1 73 (by decide)) 26))))))))] at p1_68
            show TT K ly 0 0 131 [(5, vI z86_57), (4, vI 15), (3, vI (10 * y + x + 11)), (0, vR 73), (1, vI x), (2, vI y)] [vI z128_68, vR 84, vI (64 * ((h 73) 26) + 8 * y + x), vR 84] g128_68
            refine TT_cgI (b := 64 * ((h 73) 26) + 8 * y + x) (by omega) ?_
            refine TT_iald hK (o := 84) (n := 1280) (by decide) rfl (by first | omega | (simp [up, setR] <;> omega)) (by first | omega | (simp [up, setR] <;> omega)) (v := (h 84) (64 * ((h 73) 26) + 8 * y + x)) (rd_ (((hG_68.1 84 (by decide))).trans (((hG_67.1 84 (by decide))).trans ((sOf_ne _ _ (by decide)).trans (((hG_57.1 84 (by decide))).trans (((hG_49.1 84 (by decide))).trans (((hG_16.1 84 (by decide))).trans (((hG_15.1 84 (by decide))).trans (((hG_14.1 84 (by decide))).trans (((hG_2.1 84 (by decide))).trans (hG_1.1 84 (by decide))))))))))) rfl) dX12_refine_131 ?_
            have r69 := ty_84 (i := 64 * ((h 73) 26) + 8 * y + x) (v := (h 84) (64 * ((h 73) 26) + 8 * y + x)) hT_68 (rd_ (((hG_68.1 84 (by decide))).trans (((hG_67.1 84 (by decide))).trans ((sOf_ne _ _ (by decide)).trans (((hG_57.1 84 (by decide))).trans (((hG_49.1 84 (by decide))).trans (((hG_16.1 84 (by decide))).trans (((hG_15.1 84 (by decide))).trans (((hG_14.1 84 (by decide))).trans (((hG_2.1 84 (by decide))).trans (hG_1.1 84 (by decide))))))))))) rfl) (by omega) (by omega)
            refine TT_iload hK 0 rfl dX12_refine_132 ?_
            refine TT_aload_n hK rfl 3 rfl dX12_refine_134 ?_
            refine gf_X12_252 hK (by decide) rfl (v := (h 73) 27) ((congrFun (hG_68.1 73 (by decide)) 27).trans ((congrFun (hG_67.1 73 (by decide)) 27).trans ((rd_ (sOf_ne _ _ (by decide)) rfl).trans (((hG_57.2 27 (by decide))).trans ((congrFun (hG_49.1 73 (by decide)) 27).trans ((congrFun (hG_16.1 73 (by decide)) 27).trans ((congrFun (hG_15.1 73 (by decide)) 27).trans ((congrFun (hG_14.1 73 (by decide)) 27).trans ((congrFun (hG_2.1 73 (by decide)) 27).trans (congrFun (hG_1.1 73 (by decide)) 27)))))))))) dX12_refine_135 ?_
            have r70 := ty_73_27 (v := (h 73) 27) hT_68 ((congrFun (hG_68.1 73 (by decide)) 27).trans ((congrFun (hG_67.1 73 (by decide)) 27).trans ((rd_ (sOf_ne _ _ (by decide)) rfl).trans (((hG_57.2 27 (by decide))).trans ((congrFun (hG_49.1 73 (by decide)) 27).trans ((congrFun (hG_16.1 73 (by decide)) 27).trans ((congrFun (hG_15.1 73 (by decide)) 27).trans ((congrFun (hG_14.1 73 (by decide)) 27).trans ((congrFun (hG_2.1 73 (by decide)) 27).trans (congrFun (hG_1.1 73 (by decide)) 27))))))))))
            refine TT_ishl_a hK dX12_refine_138 (fun x138_71 hx71 => ?_)
            refine TT_ior hK dX12_refine_139 ?_
            refine TT_w32 (fun x140_72 hx72 => ?_)
            refine TT_iast hK (o := 84) (n := 1280) (by decide) rfl (by omega) (by omega) dX12_refine_140 ?_
            refine TT_hp (h' := setO g128_68 84 (fup (h 84) (64 * ((h 73) 26) + 8 * y + x) x140_72)) (up_can (((hG_68.1 84 (by decide))).trans (((hG_67.1 84 (by decide))).trans ((sOf_ne _ _ (by decide)).trans (((hG_57.1 84 (by decide))).trans (((hG_49.1 84 (by decide))).trans (((hG_16.1 84 (by decide))).trans (((hG_15.1 84 (by decide))).trans (((hG_14.1 84 (by decide))).trans (((hG_2.1 84 (by decide))).trans (hG_1.1 84 (by decide))))))))))) rfl rfl) ?_
            have hT_73 : TY (setO g128_68 84 (fup (h 84) (64 * ((h 73) 26) + 8 * y + x) x140_72)) := tu_84 hT_68 (show up g128_68 84 (64 * ((h 73) 26) + 8 * y + x) x140_72 = (setO g128_68 84 (fup (h 84) (64 * ((h 73) 26) + 8 * y + x) x140_72)) from up_can (((hG_68.1 84 (by decide))).trans (((hG_67.1 84 (by decide))).trans ((sOf_ne _ _ (by decide)).trans (((hG_57.1 84 (by decide))).trans (((hG_49.1 84 (by decide))).trans (((hG_16.1 84 (by decide))).trans (((hG_15.1 84 (by decide))).trans (((hG_14.1 84 (by decide))).trans (((hG_2.1 84 (by decide))).trans (hG_1.1 84 (by decide))))))))))) rfl rfl) (by omega)
            have hF_73 : FRM [73, 84, 95, 96, 97, 98] [28, 32, 33, 34, 36, 39] h (setO g128_68 84 (fup (h 84) (64 * ((h 73) 26) + 8 * y + x) x140_72)) := FRM_up (show up g128_68 84 (64 * ((h 73) 26) + 8 * y + x) x140_72 = (setO g128_68 84 (fup (h 84) (64 * ((h 73) 26) + 8 * y + x) x140_72)) from up_can (((hG_68.1 84 (by decide))).trans (((hG_67.1 84 (by decide))).trans ((sOf_ne _ _ (by decide)).trans (((hG_57.1 84 (by decide))).trans (((hG_49.1 84 (by decide))).trans (((hG_16.1 84 (by decide))).trans (((hG_15.1 84 (by decide))).trans (((hG_14.1 84 (by decide))).trans (((hG_2.1 84 (by decide))).trans (hG_1.1 84 (by decide))))))))))) rfl rfl) hF_68 (by decide) (by decide)
            refine TT_vret hK hQ ?_ dX12_refine_141
            have e74_73_32 : (setO g128_68 84 (fup (h 84) (64 * ((h 73) 26) + 8 * y + x) x140_72)) 73 32 = (g86_57 73) 32 := (congrFun ((sOf_ne _ _ (by decide)).trans (hG_68.1 73 (by decide))) 32).trans ((congrFun (hG_67.1 73 (by decide)) 32).trans (rd_ (sOf_ne _ _ (by decide)) rfl))
            have e75_73_34 : (setO g128_68 84 (fup (h 84) (64 * ((h 73) 26) + 8 * y + x) x140_72)) 73 34 = (g86_57 73) 34 := (congrFun ((sOf_ne _ _ (by decide)).trans (hG_68.1 73 (by decide))) 34).trans ((congrFun (hG_67.1 73 (by decide)) 34).trans (rd_ (sOf_ne _ _ (by decide)) rfl))
            have e76_73_36 : (setO g128_68 84 (fup (h 84) (64 * ((h 73) 26) + 8 * y + x) x140_72)) 73 36 = (g86_57 73) 36 := (congrFun ((sOf_ne _ _ (by decide)).trans (hG_68.1 73 (by decide))) 36).trans ((congrFun (hG_67.1 73 (by decide)) 36).trans (rd_ (sOf_ne _ _ (by decide)) rfl))
            have e77_96 : (setO g128_68 84 (fup (h 84) (64 * ((h 73) 26) + 8 * y + x) x140_72)) 96 = g86_57 96 := (sOf_ne _ _ (by decide)).trans (((hG_68.1 96 (by decide))).trans (((hG_67.1 96 (by decide))).trans (sOf_ne _ _ (by decide))))
            have e78_84 : (setO g128_68 84 (fup (h 84) (64 * ((h 73) 26) + 8 * y + x) x140_72)) 84 = fup (h 84) (64 * ((h 73) 26) + 8 * y + x) x140_72 := sOf_eq _ _ _
            have e79_85 : (setO g128_68 84 (fup (h 84) (64 * ((h 73) 26) + 8 * y + x) x140_72)) 85 = h 85 := (sOf_ne _ _ (by decide)).trans (((hG_68.1 85 (by decide))).trans (((hG_67.1 85 (by decide))).trans ((sOf_ne _ _ (by decide)).trans (((hG_57.1 85 (by decide))).trans (((hG_49.1 85 (by decide))).trans (((hG_16.1 85 (by decide))).trans (((hG_15.1 85 (by decide))).trans (((hG_14.1 85 (by decide))).trans (((hG_2.1 85 (by decide))).trans (hG_1.1 85 (by decide)))))))))))
            exact ⟨⟨hT_73, hF_73⟩, rfl, (by rewrite [e74_73_32]; omega), (by rewrite [e75_73_34, e76_73_36, e77_96]; omega), (by rewrite [e78_84, e79_85]; intro j hj; exact ⟨(by first | rfl | exact fup_ne _ _ (by omega)), rfl⟩)⟩
      · refine TT_bipush hK (by decide) dX12_refine_43 ?_
        refine TT_goto hK (tgt := 75) dX12_refine_45 (by decide) ?_
        refine TT_istore hK (lv' := [(4, vI 16), (3, vI (10 * y + x + 11)), (0, vR 73), (1, vI x), (2, vI y)]) (by decide) rfl dX12_refine_75 ?_
        refine TT_aload_n hK rfl 2 rfl dX12_refine_77 ?_
        refine TT_iload hK 0 rfl dX12_refine_78 ?_
        refine TT_aload_n hK rfl 2 rfl dX12_refine_80 ?_
        refine TT_iload_n hK rfl 3 rfl dX12_refine_81 ?_
        refine TT_iload_n hK rfl 4 rfl dX12_refine_82 ?_
        refine iv_X12_264 hK (s_X12_bitAt_73 x y g8_2 hT_2 (by first | omega | (simp [up, setR] <;> omega)) (by first | omega | (simp [up, setR] <;> omega))) (by decide) rfl ⟨by decide, by decide⟩ (by decide) rfl rfl (Nat.le_of_ble_eq_true rfl) ⟨by decide, by decide⟩ dX12_refine_83 ?_
        intro r9 g83_80 hp9
        obtain ⟨⟨hT_80, hG_80⟩, z83_80, hr9, hz_80⟩ := hp9
        rw [hr9]
        have hF_80 : FRM [73, 84, 95, 96, 97, 98] [28, 32, 33, 34, 36, 39] h g83_80 := FRM_tr hF_2 hG_80 (by decide) (by decide)
        show TT K ly 0 0 86 [(4, vI 16), (3, vI (10 * y + x + 11)), (0, vR 73), (1, vI x), (2, vI y)] [vI z83_80, vI 16, vR 73] g83_80
        have e81_74 : g83_80 74 = h 74 := ((hG_80.1 74 (by decide))).trans (((hG_2.1 74 (by decide))).trans (hG_1.1 74 (by decide)))
        have e82_75 : g83_80 75 = h 75 := ((hG_80.1 75 (by decide))).trans (((hG_2.1 75 (by decide))).trans (hG_1.1 75 (by decide)))
        have e83_73_32 : g83_80 73 32 = (h 73) 32 := (congrFun (hG_80.1 73 (by decide)) 32).trans ((congrFun (hG_2.1 73 (by decide)) 32).trans (congrFun (hG_1.1 73 (by decide)) 32))
        have e84_73_29 : g83_80 73 29 = (h 73) 29 := (congrFun (hG_80.1 73 (by decide)) 29).trans ((congrFun (hG_2.1 73 (by decide)) 29).trans (congrFun (hG_1.1 73 (by decide)) 29))
        have e85_73_34 : g83_80 73 34 = (h 73) 34 := (congrFun (hG_80.1 73 (by decide)) 34).trans ((congrFun (hG_2.1 73 (by decide)) 34).trans (congrFun (hG_1.1 73 (by decide)) 34))
        have e86_73_36 : g83_80 73 36 = (h 73) 36 := (congrFun (hG_80.1 73 (by decide)) 36).trans ((congrFun (hG_2.1 73 (by decide)) 36).trans (congrFun (hG_1.1 73 (by decide)) 36))
        have e87_96 : g83_80 96 = h 96 := ((hG_80.1 96 (by decide))).trans (((hG_2.1 96 (by decide))).trans (hG_1.1 96 (by decide)))
        refine iv_X12_258 hK (s_code_k 16 z83_80 g83_80 hT_80 (by first | omega | (simp [up, setR] <;> omega)) (by first | omega | (simp [up, setR] <;> omega)) (by rewrite [e81_74, e82_75]; first | assumption | exact htb) (by rewrite [e83_73_32]; first | omega | (simp [up, setR] <;> omega)) (by rewrite [e84_73_29, e85_73_34, e86_73_36, e87_96]; first | omega | (simp [up, setR] <;> omega))) (by decide) rfl ⟨by decide, by decide⟩ (by decide) rfl rfl (Nat.le_of_ble_eq_true rfl) ⟨by decide, by decide⟩ dX12_refine_86 ?_
        intro r9 g86_88 hp9
        obtain ⟨⟨hT_88, hG_88⟩, z86_88, hr9, hz_88, pa_88, pm_88, pc_88⟩ := hp9
        rw [hr9]
        have hF_88 : FRM [73, 84, 95, 96, 97, 98] [28, 32, 33, 34, 36, 39] h g86_88 := FRM_tr hF_80 hG_88 (by decide) (by decide)
        rw [show g83_80 73 29 = (h 73) 29 from (congrFun (hG_80.1 73 (by decide)) 29).trans ((congrFun (hG_2.1 73 (by decide)) 29).trans (congrFun (hG_1.1 73 (by decide)) 29))] at pm_88
        rw [show g83_80 73 34 = (h 73) 34 from (congrFun (hG_80.1 73 (by decide)) 34).trans ((congrFun (hG_2.1 73 (by decide)) 34).trans (congrFun (hG_1.1 73 (by decide)) 34))] at pm_88
        rw [show g83_80 73 36 = (h 73) 36 from (congrFun (hG_80.1 73 (by decide)) 36).trans ((congrFun (hG_2.1 73 (by decide)) 36).trans (congrFun (hG_1.1 73 (by decide)) 36))] at pm_88
        rw [show g83_80 96 = h 96 from ((hG_80.1 96 (by decide))).trans (((hG_2.1 96 (by decide))).trans (hG_1.1 96 (by decide)))] at pm_88
        rw [show g83_80 73 29 = (h 73) 29 from (congrFun (hG_80.1 73 (by decide)) 29).trans ((congrFun (hG_2.1 73 (by decide)) 29).trans (congrFun (hG_1.1 73 (by decide)) 29))] at pc_88
        show TT K ly 0 0 89 [(4, vI 16), (3, vI (10 * y + x + 11)), (0, vR 73), (1, vI x), (2, vI y)] [vI z86_88] g86_88
        refine TT_istore hK (lv' := [(5, vI z86_88), (4, vI 16), (3, vI (10 * y + x + 11)), (0, vR 73), (1, vI x), (2, vI y)]) (by decide) rfl dX12_refine_89 ?_
        refine TT_aload_n hK rfl 3 rfl dX12_refine_91 ?_
        refine gf_X12_81 hK (by decide) rfl (q := 95) rfl rfl dX12_refine_92 ?_
        refine TT_bipush hK (by decide) dX12_refine_95 ?_
        refine TT_iload_n hK rfl 5 rfl dX12_refine_97 ?_
        refine TT_imul hK dX12_refine_98 ?_
        refine TT_iload_n hK rfl 4 rfl dX12_refine_99 ?_
        refine TT_iadd hK dX12_refine_100 ?_
        refine TT_iconst hK dX12_refine_101 ?_
        refine TT_zast hK (o := 95) (n := 64) (by decide) rfl (by omega) (by omega) (by first | decide | omega) dX12_refine_102 ?_
        refine TT_hp (h' := setO g86_88 95 (fup (h 95) ((8 * y) + x) 1)) (up_can (((hG_88.1 95 (by decide))).trans (((hG_80.1 95 (by decide))).trans (((hG_2.1 95 (by decide))).trans (hG_1.1 95 (by decide))))) rfl rfl) ?_
        have hT_89 : TY (setO g86_88 95 (fup (h 95) ((8 * y) + x) 1)) := tu_95 hT_88 (show up g86_88 95 ((8 * y) + x) 1 = (setO g86_88 95 (fup (h 95) ((8 * y) + x) 1)) from up_can (((hG_88.1 95 (by decide))).trans (((hG_80.1 95 (by decide))).trans (((hG_2.1 95 (by decide))).trans (hG_1.1 95 (by decide))))) rfl rfl) (by omega)
        have hF_89 : FRM [73, 84, 95, 96, 97, 98] [28, 32, 33, 34, 36, 39] h (setO g86_88 95 (fup (h 95) ((8 * y) + x) 1)) := FRM_up (show up g86_88 95 ((8 * y) + x) 1 = (setO g86_88 95 (fup (h 95) ((8 * y) + x) 1)) from up_can (((hG_88.1 95 (by decide))).trans (((hG_80.1 95 (by decide))).trans (((hG_2.1 95 (by decide))).trans (hG_1.1 95 (by decide))))) rfl rfl) hF_88 (by decide) (by decide)
        refine TT_aload_n hK rfl 3 rfl dX12_refine_103 ?_
        refine gf_X12_163 hK (by decide) rfl (v := (h 73) 29) ((rd_ (sOf_ne _ _ (by decide)) rfl).trans (((hG_88.2 29 (by decide))).trans ((congrFun (hG_80.1 73 (by decide)) 29).trans ((congrFun (hG_2.1 73 (by decide)) 29).trans (congrFun (hG_1.1 73 (by decide)) 29))))) dX12_refine_104 ?_
        have r90 := ty_73_29 (v := (h 73) 29) hT_89 ((rd_ (sOf_ne _ _ (by decide)) rfl).trans (((hG_88.2 29 (by decide))).trans ((congrFun (hG_80.1 73 (by decide)) 29).trans ((congrFun (hG_2.1 73 (by decide)) 29).trans (congrFun (hG_1.1 73 (by decide)) 29)))))
        refine TT_iconst hK dX12_refine_107 ?_
        refine TT_icmp_ne hK (tgt := 141) (irm (by omega) (by omega)) (by decide) dX12_refine_108 (by decide) (fun hb108_91 => ?_) (fun hb108_91 => ?_)
        · refine TT_vret hK hQ ?_ dX12_refine_141
          have e92_73_32 : (setO g86_88 95 (fup (h 95) ((8 * y) + x) 1)) 73 32 = (g86_88 73) 32 := rd_ (sOf_ne _ _ (by decide)) rfl
          have e93_73_34 : (setO g86_88 95 (fup (h 95) ((8 * y) + x) 1)) 73 34 = (g86_88 73) 34 := rd_ (sOf_ne _ _ (by decide)) rfl
          have e94_73_36 : (setO g86_88 95 (fup (h 95) ((8 * y) + x) 1)) 73 36 = (g86_88 73) 36 := rd_ (sOf_ne _ _ (by decide)) rfl
          have e95_96 : (setO g86_88 95 (fup (h 95) ((8 * y) + x) 1)) 96 = g86_88 96 := sOf_ne _ _ (by decide)
          have e96_84 : (setO g86_88 95 (fup (h 95) ((8 * y) + x) 1)) 84 = h 84 := (sOf_ne _ _ (by decide)).trans (((hG_88.1 84 (by decide))).trans (((hG_80.1 84 (by decide))).trans (((hG_2.1 84 (by decide))).trans (hG_1.1 84 (by decide)))))
          have e97_85 : (setO g86_88 95 (fup (h 95) ((8 * y) + x) 1)) 85 = h 85 := (sOf_ne _ _ (by decide)).trans (((hG_88.1 85 (by decide))).trans (((hG_80.1 85 (by decide))).trans (((hG_2.1 85 (by decide))).trans (hG_1.1 85 (by decide)))))
          exact ⟨⟨hT_89, hF_89⟩, rfl, (by rewrite [e92_73_32]; omega), (by rewrite [e93_73_34, e94_73_36, e95_96]; omega), (by rewrite [e96_84, e97_85]; intro j hj; exact ⟨(by first | rfl | exact fup_ne _ _ (by omega)), rfl⟩)⟩
        · refine TT_aload_n hK rfl 3 rfl dX12_refine_111 ?_
          refine gf_X12_47 hK (by decide) rfl (q := 84) rfl rfl dX12_refine_112 ?_
          refine TT_aload_n hK rfl 3 rfl dX12_refine_115 ?_
          refine TT_iload_n hK rfl 4 rfl dX12_refine_116 ?_
          refine TT_iload_n hK rfl 5 rfl dX12_refine_117 ?_
          refine iv_X12_249 hK (s_X12_cell_73 x y (setO g86_88 95 (fup (h 95) ((8 * y) + x) 1)) hT_89 (by first | omega | (simp [up, setR] <;> omega)) (by first | omega | (simp [up, setR] <;> omega))) (by decide) rfl ⟨by decide, by decide⟩ (by decide) rfl rfl (Nat.le_of_ble_eq_true rfl) ⟨by decide, by decide⟩ dX12_refine_118 ?_
          intro r9 g118_98 hp9
          obtain ⟨⟨hT_98, hG_98⟩, z118_98, hr9, hz_98, p1_98⟩ := hp9
          rw [hr9]
          have hF_98 : FRM [73, 84, 95, 96, 97, 98] [28, 32, 33, 34, 36, 39] h g118_98 := FRM_tr hF_89 hG_98 (by decide) (by decide)
          rw [show (setO g86_88 95 (fup (h 95) ((8 * y) + x) 1)) 73 26 = (h 73) 26 from (rd_ (sOf_ne _ _ (by decide)) rfl).trans (((hG_88.2 26 (by decide))).trans ((congrFun (hG_80.1 73 (by decide)) 26).trans ((congrFun (hG_2.1 73 (by decide)) 26).trans (congrFun (hG_1.1 73 (by decide)) 26))))] at p1_98
          show TT K ly 0 0 121 [(5, vI z86_88), (4, vI 16), (3, vI (10 * y + x + 11)), (0, vR 73), (1, vI x), (2, vI y)] [vI z118_98, vR 84] g118_98
          refine TT_cgI (b := 64 * ((h 73) 26) + 8 * y + x) (by omega) ?_
          refine TT_aload_n hK rfl 3 rfl dX12_refine_121 ?_
          refine gf_X12_47 hK (by decide) rfl (q := 84) rfl rfl dX12_refine_122 ?_
          refine TT_aload_n hK rfl 3 rfl dX12_refine_125 ?_
          refine TT_iload_n hK rfl 4 rfl dX12_refine_126 ?_
          refine TT_iload_n hK rfl 5 rfl dX12_refine_127 ?_
          refine iv_X12_249 hK (s_X12_cell_73 x y g118_98 hT_98 (by first | omega | (simp [up, setR] <;> omega)) (by first | omega | (simp [up, setR] <;> omega))) (by decide) rfl ⟨by decide, by decide⟩ (by decide) rfl rfl (Nat.le_of_ble_eq_true rfl) ⟨by decide, by decide⟩ dX12_refine_128 ?_
          intro r9 g128_99 hp9
          obtain ⟨⟨hT_99, hG_99⟩, z128_99, hr9, hz_99, p1_99⟩ := hp9
          rw [hr9]
          have hF_99 : FRM [73, 84, 95, 96, 97, 98] [28, 32, 33, 34, 36, 39] h g128_99 := FRM_tr hF_98 hG_99 (by decide) (by decide)
          rw [show g118_98 73 26 = (h 73) 26 from (congrFun (hG_98.1 73 (by decide)) 26).trans ((rd_ (sOf_ne _ _ (by decide)) rfl).trans (((hG_88.2 26 (by decide))).trans ((congrFun (hG_80.1 73 (by decide)) 26).trans ((congrFun (hG_2.1 73 (by decide)) 26).trans (congrFun (hG_1.1 73 (by decide)) 26)))))] at p1_99
          show TT K ly 0 0 131 [(5, vI z86_88), (4, vI 16), (3, vI (10 * y + x + 11)), (0, vR 73), (1, vI x), (2, vI y)] [vI z128_99, vR 84, vI (64 * ((h 73) 26) + 8 * y + x), vR 84] g128_99
          refine TT_cgI (b := 64 * ((h 73) 26) + 8 * y + x) (by omega) ?_
          refine TT_iald hK (o := 84) (n := 1280) (by decide) rfl (by first | omega | (simp [up, setR] <;> omega)) (by first | omega | (simp [up, setR] <;> omega)) (v := (h 84) (64 * ((h 73) 26) + 8 * y + x)) (rd_ (((hG_99.1 84 (by decide))).trans (((hG_98.1 84 (by decide))).trans ((sOf_ne _ _ (by decide)).trans (((hG_88.1 84 (by decide))).trans (((hG_80.1 84 (by decide))).trans (((hG_2.1 84 (by decide))).trans (hG_1.1 84 (by decide)))))))) rfl) dX12_refine_131 ?_
          have r100 := ty_84 (i := 64 * ((h 73) 26) + 8 * y + x) (v := (h 84) (64 * ((h 73) 26) + 8 * y + x)) hT_99 (rd_ (((hG_99.1 84 (by decide))).trans (((hG_98.1 84 (by decide))).trans ((sOf_ne _ _ (by decide)).trans (((hG_88.1 84 (by decide))).trans (((hG_80.1 84 (by decide))).trans (((hG_2.1 84 (by decide))).trans (hG_1.1 84 (by decide)))))))) rfl) (by omega) (by omega)
          refine TT_iload hK 0 rfl dX12_refine_132 ?_
          refine TT_aload_n hK rfl 3 rfl dX12_refine_134 ?_
          refine gf_X12_252 hK (by decide) rfl (v := (h 73) 27) ((congrFun (hG_99.1 73 (by decide)) 27).trans ((congrFun (hG_98.1 73 (by decide)) 27).trans ((rd_ (sOf_ne _ _ (by decide)) rfl).trans (((hG_88.2 27 (by decide))).trans ((congrFun (hG_80.1 73 (by decide)) 27).trans ((congrFun (hG_2.1 73 (by decide)) 27).trans (congrFun (hG_1.1 73 (by decide)) 27))))))) dX12_refine_135 ?_
          have r101 := ty_73_27 (v := (h 73) 27) hT_99 ((congrFun (hG_99.1 73 (by decide)) 27).trans ((congrFun (hG_98.1 73 (by decide)) 27).trans ((rd_ (sOf_ne _ _ (by decide)) rfl).trans (((hG_88.2 27 (by decide))).trans ((congrFun (hG_80.1 73 (by decide)) 27).trans ((congrFun (hG_2.1 73 (by decide)) 27).trans (congrFun (hG_1.1 73 (by decide)) 27)))))))
          refine TT_ishl_a hK dX12_refine_138 (fun x138_102 hx102 => ?_)
          refine TT_ior hK dX12_refine_139 ?_
          refine TT_w32 (fun x140_103 hx103 => ?_)
          refine TT_iast hK (o := 84) (n := 1280) (by decide) rfl (by omega) (by omega) dX12_refine_140 ?_
          refine TT_hp (h' := setO g128_99 84 (fup (h 84) (64 * ((h 73) 26) + 8 * y + x) x140_103)) (up_can (((hG_99.1 84 (by decide))).trans (((hG_98.1 84 (by decide))).trans ((sOf_ne _ _ (by decide)).trans (((hG_88.1 84 (by decide))).trans (((hG_80.1 84 (by decide))).trans (((hG_2.1 84 (by decide))).trans (hG_1.1 84 (by decide)))))))) rfl rfl) ?_
          have hT_104 : TY (setO g128_99 84 (fup (h 84) (64 * ((h 73) 26) + 8 * y + x) x140_103)) := tu_84 hT_99 (show up g128_99 84 (64 * ((h 73) 26) + 8 * y + x) x140_103 = (setO g128_99 84 (fup (h 84) (64 * ((h 73) 26) + 8 * y + x) x140_103)) from up_can (((hG_99.1 84 (by decide))).trans (((hG_98.1 84 (by decide))).trans ((sOf_ne _ _ (by decide)).trans (((hG_88.1 84 (by decide))).trans (((hG_80.1 84 (by decide))).trans (((hG_2.1 84 (by decide))).trans (hG_1.1 84 (by decide)))))))) rfl rfl) (by omega)
          have hF_104 : FRM [73, 84, 95, 96, 97, 98] [28, 32, 33, 34, 36, 39] h (setO g128_99 84 (fup (h 84) (64 * ((h 73) 26) + 8 * y + x) x140_103)) := FRM_up (show up g128_99 84 (64 * ((h 73) 26) + 8 * y + x) x140_103 = (setO g128_99 84 (fup (h 84) (64 * ((h 73) 26) + 8 * y + x) x140_103)) from up_can (((hG_99.1 84 (by decide))).trans (((hG_98.1 84 (by decide))).trans ((sOf_ne _ _ (by decide)).trans (((hG_88.1 84 (by decide))).trans (((hG_80.1 84 (by decide))).trans (((hG_2.1 84 (by decide))).trans (hG_1.1 84 (by decide)))))))) rfl rfl) hF_99 (by decide) (by decide)
          refine TT_vret hK hQ ?_ dX12_refine_141
          have e105_73_32 : (setO g128_99 84 (fup (h 84) (64 * ((h 73) 26) + 8 * y + x) x140_103)) 73 32 = (g86_88 73) 32 := (congrFun ((sOf_ne _ _ (by decide)).trans (hG_99.1 73 (by decide))) 32).trans ((congrFun (hG_98.1 73 (by decide)) 32).trans (rd_ (sOf_ne _ _ (by decide)) rfl))
          have e106_73_34 : (setO g128_99 84 (fup (h 84) (64 * ((h 73) 26) + 8 * y + x) x140_103)) 73 34 = (g86_88 73) 34 := (congrFun ((sOf_ne _ _ (by decide)).trans (hG_99.1 73 (by decide))) 34).trans ((congrFun (hG_98.1 73 (by decide)) 34).trans (rd_ (sOf_ne _ _ (by decide)) rfl))
          have e107_73_36 : (setO g128_99 84 (fup (h 84) (64 * ((h 73) 26) + 8 * y + x) x140_103)) 73 36 = (g86_88 73) 36 := (congrFun ((sOf_ne _ _ (by decide)).trans (hG_99.1 73 (by decide))) 36).trans ((congrFun (hG_98.1 73 (by decide)) 36).trans (rd_ (sOf_ne _ _ (by decide)) rfl))
          have e108_96 : (setO g128_99 84 (fup (h 84) (64 * ((h 73) 26) + 8 * y + x) x140_103)) 96 = g86_88 96 := (sOf_ne _ _ (by decide)).trans (((hG_99.1 96 (by decide))).trans (((hG_98.1 96 (by decide))).trans (sOf_ne _ _ (by decide))))
          have e109_84 : (setO g128_99 84 (fup (h 84) (64 * ((h 73) 26) + 8 * y + x) x140_103)) 84 = fup (h 84) (64 * ((h 73) 26) + 8 * y + x) x140_103 := sOf_eq _ _ _
          have e110_85 : (setO g128_99 84 (fup (h 84) (64 * ((h 73) 26) + 8 * y + x) x140_103)) 85 = h 85 := (sOf_ne _ _ (by decide)).trans (((hG_99.1 85 (by decide))).trans (((hG_98.1 85 (by decide))).trans ((sOf_ne _ _ (by decide)).trans (((hG_88.1 85 (by decide))).trans (((hG_80.1 85 (by decide))).trans (((hG_2.1 85 (by decide))).trans (hG_1.1 85 (by decide))))))))
          exact ⟨⟨hT_104, hF_104⟩, rfl, (by rewrite [e105_73_32]; omega), (by rewrite [e106_73_34, e107_73_36, e108_96]; omega), (by rewrite [e109_84, e110_85]; intro j hj; exact ⟨(by first | rfl | exact fup_ne _ _ (by omega)), rfl⟩)⟩
    · refine TT_vret hK hQ ?_ dX12_refine_28
      have e111_73_32 : g8_2 73 32 = (h 73) 32 := (congrFun (hG_2.1 73 (by decide)) 32).trans (congrFun (hG_1.1 73 (by decide)) 32)
      have e112_73_34 : g8_2 73 34 = (h 73) 34 := (congrFun (hG_2.1 73 (by decide)) 34).trans (congrFun (hG_1.1 73 (by decide)) 34)
      have e113_73_36 : g8_2 73 36 = (h 73) 36 := (congrFun (hG_2.1 73 (by decide)) 36).trans (congrFun (hG_1.1 73 (by decide)) 36)
      have e114_96 : g8_2 96 = h 96 := ((hG_2.1 96 (by decide))).trans (hG_1.1 96 (by decide))
      have e115_84 : g8_2 84 = h 84 := ((hG_2.1 84 (by decide))).trans (hG_1.1 84 (by decide))
      have e116_85 : g8_2 85 = h 85 := ((hG_2.1 85 (by decide))).trans (hG_1.1 85 (by decide))
      exact ⟨⟨hT_2, hF_2⟩, rfl, (by rewrite [e111_73_32]; omega), (by rewrite [e112_73_34, e113_73_36, e114_96]; omega), (by rewrite [e115_84, e116_85]; intro j hj; exact ⟨(by first | rfl | exact fup_ne _ _ (by omega)), rfl⟩)⟩
set_option maxRecDepth 20000 in
theorem s_jump_k (x y : Int) (h : Hp_) (hT : TY h) (hx : 0 ≤ x ∧ x ≤ 7) (hy : y = 0 ∨ y = 4) (htb : TBL (h 74) (h 75)) (ha : 32768 ≤ (h 73 32) ∧ (h 73 32) < 65536) (hm : (h 73 29) = 0 → 1 ≤ (h 73 34) ∧ 1 ≤ (h 73 36) ∧ 7 * (h 73 36) - (h 73 34) + PhS (h 96) + 36 ≤ 22300) (hw1 : (h 73 29) = 1 → 10 ≤ (h 73 26)) : Ctr yX12_jump cX12_jump 7 (some .int) (rmd 5) ly ly 0 0 [vR 73, vI x, vI y] h (fun r h' => (TY h' ∧ FRM [73, 84, 85, 93, 96, 97, 98] [28, 32, 33, 34, 36, 39] h h') ∧ ∃ z : Int, r = some (vI z) ∧ (0 ≤ z ∧ z ≤ 4) ∧ (32768 ≤ (h' 73 32) ∧ (h' 73 32) < 65536) ∧ ((h 73 29) = 0 → 1 ≤ (h' 73 34) ∧ 1 ≤ (h' 73 36) ∧ 7 * (h' 73 36) - (h' 73 34) + PhS (h' 96) ≤ 7 * (h 73 36) - (h 73 34) + PhS (h 96) + 36) ∧ (z = 0 ∨ y + 4 ≤ (h 81) (h 73 26)) ∧ (∀ w : Int, x < w → w ≤ 8 → (h 73 29) = 0 → 7 * (h' 73 36) - (h' 73 34) + PhS (h' 96) + 27 * ZC w ((h 81) (h 73 26)) (h' 93) ≤ 7 * (h 73 36) - (h 73 34) + PhS (h 96) + 27 * ZC w ((h 81) (h 73 26)) (h 93) + 9 * z) ∧ (∀ j : Int, j < 640 → (h' 84) j = (h 84) j ∧ (h' 85) j = (h 85) j)) := by
  refine Ctr_of (by decide) (Nat.le_of_ble_eq_true rfl) ⟨Nat.le_refl _, Nat.le_refl _⟩ (fun K hK hQ _ => ?_)
  show TT K ly 0 0 0 [(0, vR 73), (1, vI x), (2, vI y)] [] h
  have hF : FRM [73, 84, 85, 93, 96, 97, 98] [28, 32, 33, 34, 36, 39] h h := FRM_rf _ _ _
  refine TT_iload_n hK rfl 2 rfl dX12_jump_0 ?_
  refine TT_iconst hK dX12_jump_1 ?_
  refine TT_iadd hK dX12_jump_2 ?_
  refine TT_aload_n hK rfl 0 rfl dX12_jump_3 ?_
  refine gf_X12_38 hK (by decide) rfl (q := 81) rfl rfl dX12_jump_4 ?_
  refine TT_aload_n hK rfl 0 rfl dX12_jump_7 ?_
  refine gf_X12_246 hK (by decide) rfl (v := (h 73) 26) rfl dX12_jump_8 ?_
  have r1 := ty_73_26 (v := (h 73) 26) hT rfl
  refine TT_iald hK (o := 81) (n := 20) (by decide) rfl (by first | omega | (simp [up, setR] <;> omega)) (by first | omega | (simp [up, setR] <;> omega)) (v := (h 81) ((h 73) 26)) rfl dX12_jump_11 ?_
  have r2 := ty_81 (i := (h 73) 26) (v := (h 81) ((h 73) 26)) hT rfl (by omega) (by omega)
  refine TT_icmp_gt hK (tgt := 19) (irm (by omega) (by omega)) (irm (by omega) (by omega)) dX12_jump_12 (by decide) (fun hb12_3 => ?_) (fun hb12_3 => ?_)
  · refine TT_iconst hK dX12_jump_19 ?_
    refine TT_istore_n hK rfl (lv' := [(3, vI 0), (0, vR 73), (1, vI x), (2, vI y)]) (by decide) rfl dX12_jump_20 ?_
    refine TT_iconst hK dX12_jump_21 ?_
    refine TT_istore hK (lv' := [(4, vI 4), (3, vI 0), (0, vR 73), (1, vI x), (2, vI y)]) (by decide) rfl dX12_jump_22 ?_
    refine TT_iload_n hK rfl 4 rfl dX12_jump_24 ?_
    refine TT_iconst hK dX12_jump_25 ?_
    refine TT_iadd hK dX12_jump_26 ?_
    refine TT_istore hK (lv' := [(5, vI (y + 3)), (4, vI 4), (3, vI 0), (0, vR 73), (1, vI x), (2, vI y)]) (by decide) rfl dX12_jump_27 ?_
    have L29_4 : ∀ (k4 : Nat) (q : Int) (f : Int) (r : Int) (w29_4 : Hp_), TY w29_4 → FRM [73, 84, 85, 93, 96, 97, 98] [28, 32, 33, 34, 36, 39] h w29_4 → (0 ≤ q ∧ q ≤ 1) → (0 ≤ f ∧ f ≤ 4) → (y - 1 ≤ r ∧ r ≤ y + 3) → (q = 1 → y + 4 ≤ h 81 (h 73 26)) → (q = 1 → ∀ j, r < j → j ≤ y + 3 → (w29_4 93) (10 * j + x + 11) = 0) → ((w29_4 93) = h 93) → (PhS (w29_4 96) = PhS (h 96)) → ((w29_4 73 34) = h 73 34) → ((w29_4 73 36) = h 73 36) → ((w29_4 73 32) = h 73 32) → (∀ j : Int, j < 640 → (w29_4 84) j = h 84 j ∧ (w29_4 85) j = h 85 j) → (r - y + 1).toNat < k4 → TT K ly 0 0 29 [(0, vR 73), (1, vI x), (2, vI y), (3, vI q), (4, vI f), (5, vI r)] [] w29_4 := by
      intro k4
      induction k4 with
      | zero => intro q f r w29_4 hT29_4 hF29_4 hq hf hr he hz9 k93 k96 k34 k36 k32 pki hk4; exact absurd hk4 (Nat.not_lt_zero _)
      | succ k4 ih4 =>
        intro q f r w29_4 hT29_4 hF29_4 hq hf hr he hz9 k93 k96 k34 k36 k32 pki hk4
        refine TT_iload hK 5 rfl dX12_jump_29 ?_
        refine TT_iload_n hK rfl 2 rfl dX12_jump_31 ?_
        refine TT_icmp_lt hK (tgt := 97) (irm (by omega) (by omega)) (irm (by omega) (by omega)) dX12_jump_32 (by decide) (fun hb32_5 => ?_) (fun hb32_5 => ?_)
        · refine TT_iload_n hK rfl 3 rfl dX12_jump_97 ?_
          refine TT_if_ne hK (tgt := 103) (irm (by omega) (by omega)) dX12_jump_98 (by decide) (fun hb98_6 => ?_) (fun hb98_6 => ?_)
          · refine TT_aload_n hK rfl 0 rfl dX12_jump_103 ?_
            refine TT_bipush hK (by decide) dX12_jump_104 ?_
            refine TT_iload hK 4 rfl dX12_jump_106 ?_
            refine TT_iconst hK dX12_jump_108 ?_
            refine TT_icmp_ge hK (tgt := 116) (irm (by omega) (by omega)) (by decide) dX12_jump_109 (by decide) (fun hb109_7 => ?_) (fun hb109_7 => ?_)
            · refine TT_iconst hK dX12_jump_116 ?_
              have e8_74 : w29_4 74 = h 74 := (hF29_4.1 74 (by decide))
              have e9_75 : w29_4 75 = h 75 := (hF29_4.1 75 (by decide))
              have e10_73_32 : w29_4 73 32 = (w29_4 73) 32 := rfl
              have e11_73_29 : w29_4 73 29 = (h 73) 29 := (hF29_4.2 29 (by decide))
              have e12_73_34 : w29_4 73 34 = (w29_4 73) 34 := rfl
              have e13_73_36 : w29_4 73 36 = (w29_4 73) 36 := rfl
              refine iv_X12_258 hK (s_X12_code_73 17 0 w29_4 hT29_4 (by first | omega | (simp [up, setR] <;> omega)) (by first | omega | (simp [up, setR] <;> omega)) (by rewrite [e8_74, e9_75]; first | assumption | exact htb) (by rewrite [e10_73_32]; first | omega | (simp [up, setR] <;> omega)) (by rewrite [e11_73_29, e12_73_34, e13_73_36]; first | omega | (simp [up, setR] <;> omega))) (by decide) rfl ⟨by decide, by decide⟩ (by decide) rfl rfl (Nat.le_of_ble_eq_true rfl) ⟨by decide, by decide⟩ dX12_jump_117 ?_
              intro r9 g117_14 hp9
              obtain ⟨⟨hT_14, hG_14⟩, z117_14, hr9, hz_14, pa_14, pm_14⟩ := hp9
              rw [hr9]
              have hF_14 : FRM [73, 84, 85, 93, 96, 97, 98] [28, 32, 33, 34, 36, 39] h g117_14 := FRM_tr hF29_4 hG_14 (by decide) (by decide)
              rw [show w29_4 73 29 = (h 73) 29 from (hF29_4.2 29 (by decide))] at pm_14
              rw [show w29_4 73 34 = (w29_4 73) 34 from rfl] at pm_14
              rw [show w29_4 73 36 = (w29_4 73) 36 from rfl] at pm_14
              show TT K ly 0 0 120 [(0, vR 73), (1, vI x), (2, vI y), (3, vI q), (4, vI f), (5, vI r)] [vI z117_14] g117_14
              refine TT_if_ne hK (tgt := 125) (irm (by omega) (by omega)) dX12_jump_120 (by decide) (fun hb120_15 => ?_) (fun hb120_15 => ?_)
              · refine TT_aload_n hK rfl 0 rfl dX12_jump_125 ?_
                refine TT_bipush hK (by decide) dX12_jump_126 ?_
                refine TT_iload hK 4 rfl dX12_jump_128 ?_
                refine TT_iconst hK dX12_jump_130 ?_
                refine TT_idivn hK (irm (by omega) (by omega)) (by decide) (by first | omega | (simp [up, setR] <;> omega)) (by first | omega | (simp [up, setR] <;> omega)) dX12_jump_131 ?_
                refine TT_iconst hK dX12_jump_132 ?_
                refine TT_iremn hK (irm (by omega) (by omega)) (by decide) (by first | omega | (simp [up, setR] <;> omega)) (by first | omega | (simp [up, setR] <;> omega)) dX12_jump_133 ?_
                have e16_74 : g117_14 74 = h 74 := ((hG_14.1 74 (by decide))).trans (hF29_4.1 74 (by decide))
                have e17_75 : g117_14 75 = h 75 := ((hG_14.1 75 (by decide))).trans (hF29_4.1 75 (by decide))
                have e18_73_32 : g117_14 73 32 = (g117_14 73) 32 := rfl
                have e19_73_29 : g117_14 73 29 = (h 73) 29 := ((hG_14.2 29 (by decide))).trans (hF29_4.2 29 (by decide))
                have e20_73_34 : g117_14 73 34 = (g117_14 73) 34 := rfl
                have e21_73_36 : g117_14 73 36 = (g117_14 73) 36 := rfl
                refine iv_X12_258 hK (s_X12_code_73 18 ((f / 2) % 2) g117_14 hT_14 (by first | omega | (simp [up, setR] <;> omega)) (by first | omega | (simp [up, setR] <;> omega)) (by rewrite [e16_74, e17_75]; first | assumption | exact htb) (by rewrite [e18_73_32]; first | omega | (simp [up, setR] <;> omega)) (by rewrite [e19_73_29, e20_73_34, e21_73_36]; first | omega | (simp [up, setR] <;> omega))) (by decide) rfl ⟨by decide, by decide⟩ (by decide) rfl rfl (Nat.le_of_ble_eq_true rfl) ⟨by decide, by decide⟩ dX12_jump_134 ?_
                intro r9 g134_22 hp9
                obtain ⟨⟨hT_22, hG_22⟩, z134_22, hr9, hz_22, pa_22, pm_22⟩ := hp9
                rw [hr9]
                have hF_22 : FRM [73, 84, 85, 93, 96, 97, 98] [28, 32, 33, 34, 36, 39] h g134_22 := FRM_tr hF_14 hG_22 (by decide) (by decide)
                rw [show g117_14 73 29 = (h 73) 29 from ((hG_14.2 29 (by decide))).trans (hF29_4.2 29 (by decide))] at pm_22
                rw [show g117_14 73 34 = (g117_14 73) 34 from rfl] at pm_22
                rw [show g117_14 73 36 = (g117_14 73) 36 from rfl] at pm_22
                show TT K ly 0 0 137 [(0, vR 73), (1, vI x), (2, vI y), (3, vI q), (4, vI f), (5, vI r)] [vI z134_22] g134_22
                refine TT_istore hK (lv' := [(5, vI z134_22), (0, vR 73), (1, vI x), (2, vI y), (3, vI q), (4, vI f)]) (by decide) rfl dX12_jump_137 ?_
                refine TT_aload_n hK rfl 1 rfl dX12_jump_139 ?_
                refine TT_bipush hK (by decide) dX12_jump_140 ?_
                refine TT_iload hK 5 rfl dX12_jump_142 ?_
                refine TT_iconst hK dX12_jump_144 ?_
                refine TT_iremn hK (irm (by omega) (by omega)) (by decide) (by first | omega | (simp [up, setR] <;> omega)) (by first | omega | (simp [up, setR] <;> omega)) dX12_jump_145 ?_
                have e23_74 : g134_22 74 = h 74 := ((hG_22.1 74 (by decide))).trans (((hG_14.1 74 (by decide))).trans (hF29_4.1 74 (by decide)))
                have e24_75 : g134_22 75 = h 75 := ((hG_22.1 75 (by decide))).trans (((hG_14.1 75 (by decide))).trans (hF29_4.1 75 (by decide)))
                have e25_73_32 : g134_22 73 32 = (g134_22 73) 32 := rfl
                have e26_73_29 : g134_22 73 29 = (h 73) 29 := ((hG_22.2 29 (by decide))).trans (((hG_14.2 29 (by decide))).trans (hF29_4.2 29 (by decide)))
                have e27_73_34 : g134_22 73 34 = (g134_22 73) 34 := rfl
                have e28_73_36 : g134_22 73 36 = (g134_22 73) 36 := rfl
                refine iv_X12_258 hK (s_X12_code_73 18 (f % 2) g134_22 hT_22 (by first | omega | (simp [up, setR] <;> omega)) (by first | omega | (simp [up, setR] <;> omega)) (by rewrite [e23_74, e24_75]; first | assumption | exact htb) (by rewrite [e25_73_32]; first | omega | (simp [up, setR] <;> omega)) (by rewrite [e26_73_29, e27_73_34, e28_73_36]; first | omega | (simp [up, setR] <;> omega))) (by decide) rfl ⟨by decide, by decide⟩ (by decide) rfl rfl (Nat.le_of_ble_eq_true rfl) ⟨by decide, by decide⟩ dX12_jump_146 ?_
                intro r9 g146_29 hp9
                obtain ⟨⟨hT_29, hG_29⟩, z146_29, hr9, hz_29, pa_29, pm_29⟩ := hp9
                rw [hr9]
                have hF_29 : FRM [73, 84, 85, 93, 96, 97, 98] [28, 32, 33, 34, 36, 39] h g146_29 := FRM_tr hF_22 hG_29 (by decide) (by decide)
                rw [show g134_22 73 29 = (h 73) 29 from ((hG_22.2 29 (by decide))).trans (((hG_14.2 29 (by decide))).trans (hF29_4.2 29 (by decide)))] at pm_29
                rw [show g134_22 73 34 = (g134_22 73) 34 from rfl] at pm_29
                rw [show g134_22 73 36 = (g134_22 73) 36 from rfl] at pm_29
                show TT K ly 0 0 149 [(5, vI z134_22), (0, vR 73), (1, vI x), (2, vI y), (3, vI q), (4, vI f)] [vI z146_29] g146_29
                refine TT_istore hK (lv' := [(6, vI z146_29), (5, vI z134_22), (0, vR 73), (1, vI x), (2, vI y), (3, vI q), (4, vI f)]) (by decide) rfl dX12_jump_149 ?_
                refine TT_aload_n hK rfl 2 rfl dX12_jump_151 ?_
                refine TT_iload_n hK rfl 3 rfl dX12_jump_152 ?_
                refine TT_iload_n hK rfl 4 rfl dX12_jump_153 ?_
                refine TT_iconst hK dX12_jump_154 ?_
                refine TT_iload hK 1 rfl dX12_jump_155 ?_
                refine TT_imul hK dX12_jump_157 ?_
                refine TT_iadd hK dX12_jump_158 ?_
                refine TT_iload hK 0 rfl dX12_jump_159 ?_
                refine TT_iadd hK dX12_jump_161 ?_
                have e30_74 : g146_29 74 = h 74 := ((hG_29.1 74 (by decide))).trans (((hG_22.1 74 (by decide))).trans (((hG_14.1 74 (by decide))).trans (hF29_4.1 74 (by decide))))
                have e31_75 : g146_29 75 = h 75 := ((hG_29.1 75 (by decide))).trans (((hG_22.1 75 (by decide))).trans (((hG_14.1 75 (by decide))).trans (hF29_4.1 75 (by decide))))
                have e32_73_32 : g146_29 73 32 = (g146_29 73) 32 := rfl
                have e33_73_29 : g146_29 73 29 = (h 73) 29 := ((hG_29.2 29 (by decide))).trans (((hG_22.2 29 (by decide))).trans (((hG_14.2 29 (by decide))).trans (hF29_4.2 29 (by decide))))
                have e34_73_34 : g146_29 73 34 = (g146_29 73) 34 := rfl
                have e35_73_36 : g146_29 73 36 = (g146_29 73) 36 := rfl
                have e36_73_26 : g146_29 73 26 = (h 73) 26 := ((hG_29.2 26 (by decide))).trans (((hG_22.2 26 (by decide))).trans (((hG_14.2 26 (by decide))).trans (hF29_4.2 26 (by decide))))
                have e37_73_29 : g146_29 73 29 = (h 73) 29 := ((hG_29.2 29 (by decide))).trans (((hG_22.2 29 (by decide))).trans (((hG_14.2 29 (by decide))).trans (hF29_4.2 29 (by decide))))
                refine iv_X12_267 hK (s_wake_k x ((y + (2 * z134_22)) + z146_29) g146_29 hT_29 (by first | omega | (simp [up, setR] <;> omega)) (by first | omega | (simp [up, setR] <;> omega)) (by rewrite [e30_74, e31_75]; first | assumption | exact htb) (by rewrite [e32_73_32]; first | omega | (simp [up, setR] <;> omega)) (by rewrite [e33_73_29, e34_73_34, e35_73_36]; first | omega | (simp [up, setR] <;> omega)) (by rewrite [e36_73_26, e37_73_29]; first | omega | (simp [up, setR] <;> omega))) (by decide) rfl ⟨by decide, by decide⟩ (by decide) rfl rfl (Nat.le_of_ble_eq_true rfl) ⟨by decide, by decide⟩ dX12_jump_162 ?_
                intro r9 g162_38 hp9
                obtain ⟨⟨hT_38, hG_38⟩, hr9, pa_38, pm_38, pz_38, pk_38⟩ := hp9
                rw [hr9]
                have hF_38 : FRM [73, 84, 85, 93, 96, 97, 98] [28, 32, 33, 34, 36, 39] h g162_38 := FRM_tr hF_29 hG_38 (by decide) (by decide)
                rw [show g146_29 73 29 = (h 73) 29 from ((hG_29.2 29 (by decide))).trans (((hG_22.2 29 (by decide))).trans (((hG_14.2 29 (by decide))).trans (hF29_4.2 29 (by decide))))] at pm_38
                rw [show g146_29 73 34 = (g146_29 73) 34 from rfl] at pm_38
                rw [show g146_29 73 36 = (g146_29 73) 36 from rfl] at pm_38
                rw [show g146_29 93 = w29_4 93 from ((hG_29.1 93 (by decide))).trans (((hG_22.1 93 (by decide))).trans (hG_14.1 93 (by decide)))] at pz_38
                rw [show g146_29 84 = w29_4 84 from ((hG_29.1 84 (by decide))).trans (((hG_22.1 84 (by decide))).trans (hG_14.1 84 (by decide)))] at pk_38
                rw [show g146_29 85 = w29_4 85 from ((hG_29.1 85 (by decide))).trans (((hG_22.1 85 (by decide))).trans (hG_14.1 85 (by decide)))] at pk_38
                have pz_at162 := pz_38
                have pk_at162 := pk_38
                show TT K ly 0 0 165 [(6, vI z146_29), (5, vI z134_22), (0, vR 73), (1, vI x), (2, vI y), (3, vI q), (4, vI f)] [] g162_38
                refine TT_iconst hK dX12_jump_165 ?_
                refine TT_iload hK 1 rfl dX12_jump_166 ?_
                refine TT_imul hK dX12_jump_168 ?_
                refine TT_iload hK 0 rfl dX12_jump_169 ?_
                refine TT_iadd hK dX12_jump_171 ?_
                refine TT_iconst hK dX12_jump_172 ?_
                refine TT_iadd hK dX12_jump_173 ?_
                refine TT_iret hK hQ ?_ dX12_jump_174
                have e39_73_32 : g162_38 73 32 = (g162_38 73) 32 := rfl
                have e40_73_34 : g162_38 73 34 = (g162_38 73) 34 := rfl
                have e41_73_36 : g162_38 73 36 = (g162_38 73) 36 := rfl
                have e42_73_34 : g162_38 73 34 = (g162_38 73) 34 := rfl
                have e43_73_36 : g162_38 73 36 = (g162_38 73) 36 := rfl
                exact ⟨⟨hT_38, hF_38⟩, (((2 * z134_22) + z146_29) + 1), rfl, (by omega), (by rewrite [e39_73_32]; omega), (by rewrite [e40_73_34, e41_73_36]; omega), (by omega), (by rewrite [e42_73_34, e43_73_36]; intro w h1 h2 h5; first | omega | (rw [k93]; omega) | (have k8 := pz_at162 w (h 81 (h 73 26)) h1 h2 (by omega) (by omega) (hz9 (by omega) _ (by omega) (by omega)); rw [k93] at k8; omega)), (by first | (intro j hj; have k1 := pk_at162 j hj; have k2 := pki j hj; exact ⟨k1.1.trans k2.1, k1.2.trans k2.2⟩) | exact pki | (intro j hj; exact ⟨rfl, rfl⟩))⟩
              · refine TT_iconst hK dX12_jump_123 ?_
                refine TT_iret hK hQ ?_ dX12_jump_124
                have e44_73_32 : g117_14 73 32 = (g117_14 73) 32 := rfl
                have e45_73_34 : g117_14 73 34 = (g117_14 73) 34 := rfl
                have e46_73_36 : g117_14 73 36 = (g117_14 73) 36 := rfl
                have e47_73_34 : g117_14 73 34 = (g117_14 73) 34 := rfl
                have e48_73_36 : g117_14 73 36 = (g117_14 73) 36 := rfl
                have e49_93 : g117_14 93 = w29_4 93 := (hG_14.1 93 (by decide))
                have e50_84 : g117_14 84 = w29_4 84 := (hG_14.1 84 (by decide))
                have e51_85 : g117_14 85 = w29_4 85 := (hG_14.1 85 (by decide))
                exact ⟨⟨hT_14, hF_14⟩, 4, rfl, (by omega), (by rewrite [e44_73_32]; omega), (by rewrite [e45_73_34, e46_73_36]; omega), (by omega), (by rewrite [e47_73_34, e48_73_36, e49_93]; intro w h1 h2 h5; first | omega | (rw [k93]; omega) | (have k8 := pz_at162 w (h 81 (h 73 26)) h1 h2 (by omega) (by omega) (hz9 (by omega) _ (by omega) (by omega)); rw [k93] at k8; omega)), (by rewrite [e50_84, e51_85]; first | (intro j hj; have k1 := pk_at162 j hj; have k2 := pki j hj; exact ⟨k1.1.trans k2.1, k1.2.trans k2.2⟩) | exact pki | (intro j hj; exact ⟨rfl, rfl⟩))⟩
            · refine TT_iconst hK dX12_jump_112 ?_
              refine TT_goto hK (tgt := 117) dX12_jump_113 (by decide) ?_
              have e52_74 : w29_4 74 = h 74 := (hF29_4.1 74 (by decide))
              have e53_75 : w29_4 75 = h 75 := (hF29_4.1 75 (by decide))
              have e54_73_32 : w29_4 73 32 = (w29_4 73) 32 := rfl
              have e55_73_29 : w29_4 73 29 = (h 73) 29 := (hF29_4.2 29 (by decide))
              have e56_73_34 : w29_4 73 34 = (w29_4 73) 34 := rfl
              have e57_73_36 : w29_4 73 36 = (w29_4 73) 36 := rfl
              refine iv_X12_258 hK (s_X12_code_73 17 1 w29_4 hT29_4 (by first | omega | (simp [up, setR] <;> omega)) (by first | omega | (simp [up, setR] <;> omega)) (by rewrite [e52_74, e53_75]; first | assumption | exact htb) (by rewrite [e54_73_32]; first | omega | (simp [up, setR] <;> omega)) (by rewrite [e55_73_29, e56_73_34, e57_73_36]; first | omega | (simp [up, setR] <;> omega))) (by decide) rfl ⟨by decide, by decide⟩ (by decide) rfl rfl (Nat.le_of_ble_eq_true rfl) ⟨by decide, by decide⟩ dX12_jump_117 ?_
              intro r9 g117_58 hp9
              obtain ⟨⟨hT_58, hG_58⟩, z117_58, hr9, hz_58, pa_58, pm_58⟩ := hp9
              rw [hr9]
              have hF_58 : FRM [73, 84, 85, 93, 96, 97, 98] [28, 32, 33, 34, 36, 39] h g117_58 := FRM_tr hF29_4 hG_58 (by decide) (by decide)
              rw [show w29_4 73 29 = (h 73) 29 from (hF29_4.2 29 (by decide))] at pm_58
              rw [show w29_4 73 34 = (w29_4 73) 34 from rfl] at pm_58
              rw [show w29_4 73 36 = (w29_4 73) 36 from rfl] at pm_58
              show TT K ly 0 0 120 [(0, vR 73), (1, vI x), (2, vI y), (3, vI q), (4, vI f), (5, vI r)] [vI z117_58] g117_58
              refine TT_if_ne hK (tgt := 125) (irm (by omega) (by omega)) dX12_jump_120 (by decide) (fun hb120_59 => ?_) (fun hb120_59 => ?_)
              · refine TT_aload_n hK rfl 0 rfl dX12_jump_125 ?_
                refine TT_bipush hK (by decide) dX12_jump_126 ?_
                refine TT_iload hK 4 rfl dX12_jump_128 ?_
                refine TT_iconst hK dX12_jump_130 ?_
                refine TT_idivn hK (irm (by omega) (by omega)) (by decide) (by first | omega | (simp [up, setR] <;> omega)) (by first | omega | (simp [up, setR] <;> omega)) dX12_jump_131 ?_
                refine TT_iconst hK dX12_jump_132 ?_
                refine TT_iremn hK (irm (by omega) (by omega)) (by decide) (by first | omega | (simp [up, setR] <;> omega)) (by first | omega | (simp [up, setR] <;> omega)) dX12_jump_133 ?_
                have e60_74 : g117_58 74 = h 74 := ((hG_58.1 74 (by decide))).trans (hF29_4.1 74 (by decide))
                have e61_75 : g117_58 75 = h 75 := ((hG_58.1 75 (by decide))).trans (hF29_4.1 75 (by decide))
                have e62_73_32 : g117_58 73 32 = (g117_58 73) 32 := rfl
                have e63_73_29 : g117_58 73 29 = (h 73) 29 := ((hG_58.2 29 (by decide))).trans (hF29_4.2 29 (by decide))
                have e64_73_34 : g117_58 73 34 = (g117_58 73) 34 := rfl
                have e65_73_36 : g117_58 73 36 = (g117_58 73) 36 := rfl
                refine iv_X12_258 hK (s_X12_code_73 18 ((f / 2) % 2) g117_58 hT_58 (by first | omega | (simp [up, setR] <;> omega)) (by first | omega | (simp [up, setR] <;> omega)) (by rewrite [e60_74, e61_75]; first | assumption | exact htb) (by rewrite [e62_73_32]; first | omega | (simp [up, setR] <;> omega)) (by rewrite [e63_73_29, e64_73_34, e65_73_36]; first | omega | (simp [up, setR] <;> omega))) (by decide) rfl ⟨by decide, by decide⟩ (by decide) rfl rfl (Nat.le_of_ble_eq_true rfl) ⟨by decide, by decide⟩ dX12_jump_134 ?_
                intro r9 g134_66 hp9
                obtain ⟨⟨hT_66, hG_66⟩, z134_66, hr9, hz_66, pa_66, pm_66⟩ := hp9
                rw [hr9]
                have hF_66 : FRM [73, 84, 85, 93, 96, 97, 98] [28, 32, 33, 34, 36, 39] h g134_66 := FRM_tr hF_58 hG_66 (by decide) (by decide)
                rw [show g117_58 73 29 = (h 73) 29 from ((hG_58.2 29 (by decide))).trans (hF29_4.2 29 (by decide))] at pm_66
                rw [show g117_58 73 34 = (g117_58 73) 34 from rfl] at pm_66
                rw [show g117_58 73 36 = (g117_58 73) 36 from rfl] at pm_66
                show TT K ly 0 0 137 [(0, vR 73), (1, vI x), (2, vI y), (3, vI q), (4, vI f), (5, vI r)] [vI z134_66] g134_66
                refine TT_istore hK (lv' := [(5, vI z134_66), (0, vR 73), (1, vI x), (2, vI y), (3, vI q), (4, vI f)]) (by decide) rfl dX12_jump_137 ?_
                refine TT_aload_n hK rfl 1 rfl dX12_jump_139 ?_
                refine TT_bipush hK (by decide) dX12_jump_140 ?_
                refine TT_iload hK 5 rfl dX12_jump_142 ?_
                refine TT_iconst hK dX12_jump_144 ?_
                refine TT_iremn hK (irm (by omega) (by omega)) (by decide) (by first | omega | (simp [up, setR] <;> omega)) (by first | omega | (simp [up, setR] <;> omega)) dX12_jump_145 ?_
                have e67_74 : g134_66 74 = h 74 := ((hG_66.1 74 (by decide))).trans (((hG_58.1 74 (by decide))).trans (hF29_4.1 74 (by decide)))
                have e68_75 : g134_66 75 = h 75 := ((hG_66.1 75 (by decide))).trans (((hG_58.1 75 (by decide))).trans (hF29_4.1 75 (by decide)))
                have e69_73_32 : g134_66 73 32 = (g134_66 73) 32 := rfl
                have e70_73_29 : g134_66 73 29 = (h 73) 29 := ((hG_66.2 29 (by decide))).trans (((hG_58.2 29 (by decide))).trans (hF29_4.2 29 (by decide)))
                have e71_73_34 : g134_66 73 34 = (g134_66 73) 34 := rfl
                have e72_73_36 : g134_66 73 36 = (g134_66 73) 36 := rfl
                refine iv_X12_258 hK (s_X12_code_73 18 (f % 2) g134_66 hT_66 (by first | omega | (simp [up, setR] <;> omega)) (by first | omega | (simp [up, setR] <;> omega)) (by rewrite [e67_74, e68_75]; first | assumption | exact htb) (by rewrite [e69_73_32]; first | omega | (simp [up, setR] <;> omega)) (by rewrite [e70_73_29, e71_73_34, e72_73_36]; first | omega | (simp [up, setR] <;> omega))) (by decide) rfl ⟨by decide, by decide⟩ (by decide) rfl rfl (Nat.le_of_ble_eq_true rfl) ⟨by decide, by decide⟩ dX12_jump_146 ?_
                intro r9 g146_73 hp9
                obtain ⟨⟨hT_73, hG_73⟩, z146_73, hr9, hz_73, pa_73, pm_73⟩ := hp9
                rw [hr9]
                have hF_73 : FRM [73, 84, 85, 93, 96, 97, 98] [28, 32, 33, 34, 36, 39] h g146_73 := FRM_tr hF_66 hG_73 (by decide) (by decide)
                rw [show g134_66 73 29 = (h 73) 29 from ((hG_66.2 29 (by decide))).trans (((hG_58.2 29 (by decide))).trans (hF29_4.2 29 (by decide)))] at pm_73
                rw [show g134_66 73 34 = (g134_66 73) 34 from rfl] at pm_73
                rw [show g134_66 73 36 = (g134_66 73) 36 from rfl] at pm_73
                show TT K ly 0 0 149 [(5, vI z134_66), (0, vR 73), (1, vI x), (2, vI y), (3, vI q), (4, vI f)] [vI z146_73] g146_73
                refine TT_istore hK (lv' := [(6, vI z146_73), (5, vI z134_66), (0, vR 73), (1, vI x), (2, vI y), (3, vI q), (4, vI f)]) (by decide) rfl dX12_jump_149 ?_
                refine TT_aload_n hK rfl 2 rfl dX12_jump_151 ?_
                refine TT_iload_n hK rfl 3 rfl dX12_jump_152 ?_
                refine TT_iload_n hK rfl 4 rfl dX12_jump_153 ?_
                refine TT_iconst hK dX12_jump_154 ?_
                refine TT_iload hK 1 rfl dX12_jump_155 ?_
                refine TT_imul hK dX12_jump_157 ?_
                refine TT_iadd hK dX12_jump_158 ?_
                refine TT_iload hK 0 rfl dX12_jump_159 ?_
                refine TT_iadd hK dX12_jump_161 ?_
                have e74_74 : g146_73 74 = h 74 := ((hG_73.1 74 (by decide))).trans (((hG_66.1 74 (by decide))).trans (((hG_58.1 74 (by decide))).trans (hF29_4.1 74 (by decide))))
                have e75_75 : g146_73 75 = h 75 := ((hG_73.1 75 (by decide))).trans (((hG_66.1 75 (by decide))).trans (((hG_58.1 75 (by decide))).trans (hF29_4.1 75 (by decide))))
                have e76_73_32 : g146_73 73 32 = (g146_73 73) 32 := rfl
                have e77_73_29 : g146_73 73 29 = (h 73) 29 := ((hG_73.2 29 (by decide))).trans (((hG_66.2 29 (by decide))).trans (((hG_58.2 29 (by decide))).trans (hF29_4.2 29 (by decide))))
                have e78_73_34 : g146_73 73 34 = (g146_73 73) 34 := rfl
                have e79_73_36 : g146_73 73 36 = (g146_73 73) 36 := rfl
                have e80_73_26 : g146_73 73 26 = (h 73) 26 := ((hG_73.2 26 (by decide))).trans (((hG_66.2 26 (by decide))).trans (((hG_58.2 26 (by decide))).trans (hF29_4.2 26 (by decide))))
                have e81_73_29 : g146_73 73 29 = (h 73) 29 := ((hG_73.2 29 (by decide))).trans (((hG_66.2 29 (by decide))).trans (((hG_58.2 29 (by decide))).trans (hF29_4.2 29 (by decide))))
                refine iv_X12_267 hK (s_wake_k x ((y + (2 * z134_66)) + z146_73) g146_73 hT_73 (by first | omega | (simp [up, setR] <;> omega)) (by first | omega | (simp [up, setR] <;> omega)) (by rewrite [e74_74, e75_75]; first | assumption | exact htb) (by rewrite [e76_73_32]; first | omega | (simp [up, setR] <;> omega)) (by rewrite [e77_73_29, e78_73_34, e79_73_36]; first | omega | (simp [up, setR] <;> omega)) (by rewrite [e80_73_26, e81_73_29]; first | omega | (simp [up, setR] <;> omega))) (by decide) rfl ⟨by decide, by decide⟩ (by decide) rfl rfl (Nat.le_of_ble_eq_true rfl) ⟨by decide, by decide⟩ dX12_jump_162 ?_
                intro r9 g162_82 hp9
                obtain ⟨⟨hT_82, hG_82⟩, hr9, pa_82, pm_82, pz_82, pk_82⟩ := hp9
                rw [hr9]
                have hF_82 : FRM [73, 84, 85, 93, 96, 97, 98] [28, 32, 33, 34, 36, 39] h g162_82 := FRM_tr hF_73 hG_82 (by decide) (by decide)
                rw [show g146_73 73 29 = (h 73) 29 from ((hG_73.2 29 (by decide))).trans (((hG_66.2 29 (by decide))).trans (((hG_58.2 29 (by decide))).trans (hF29_4.2 29 (by decide))))] at pm_82
                rw [show g146_73 73 34 = (g146_73 73) 34 from rfl] at pm_82
                rw [show g146_73 73 36 = (g146_73 73) 36 from rfl] at pm_82
                rw [show g146_73 93 = w29_4 93 from ((hG_73.1 93 (by decide))).trans (((hG_66.1 93 (by decide))).trans (hG_58.1 93 (by decide)))] at pz_82
                rw [show g146_73 84 = w29_4 84 from ((hG_73.1 84 (by decide))).trans (((hG_66.1 84 (by decide))).trans (hG_58.1 84 (by decide)))] at pk_82
                rw [show g146_73 85 = w29_4 85 from ((hG_73.1 85 (by decide))).trans (((hG_66.1 85 (by decide))).trans (hG_58.1 85 (by decide)))] at pk_82
                have pz_at162 := pz_82
                have pk_at162 := pk_82
                show TT K ly 0 0 165 [(6, vI z146_73), (5, vI z134_66), (0, vR 73), (1, vI x), (2, vI y), (3, vI q), (4, vI f)] [] g162_82
                refine TT_iconst hK dX12_jump_165 ?_
                refine TT_iload hK 1 rfl dX12_jump_166 ?_
                refine TT_imul hK dX12_jump_168 ?_
                refine TT_iload hK 0 rfl dX12_jump_169 ?_
                refine TT_iadd hK dX12_jump_171 ?_
                refine TT_iconst hK dX12_jump_172 ?_
                refine TT_iadd hK dX12_jump_173 ?_
                refine TT_iret hK hQ ?_ dX12_jump_174
                have e83_73_32 : g162_82 73 32 = (g162_82 73) 32 := rfl
                have e84_73_34 : g162_82 73 34 = (g162_82 73) 34 := rfl
                have e85_73_36 : g162_82 73 36 = (g162_82 73) 36 := rfl
                have e86_73_34 : g162_82 73 34 = (g162_82 73) 34 := rfl
                have e87_73_36 : g162_82 73 36 = (g162_82 73) 36 := rfl
                exact ⟨⟨hT_82, hF_82⟩, (((2 * z134_66) + z146_73) + 1), rfl, (by omega), (by rewrite [e83_73_32]; omega), (by rewrite [e84_73_34, e85_73_36]; omega), (by omega), (by rewrite [e86_73_34, e87_73_36]; intro w h1 h2 h5; first | omega | (rw [k93]; omega) | (have k8 := pz_at162 w (h 81 (h 73 26)) h1 h2 (by omega) (by omega) (hz9 (by omega) _ (by omega) (by omega)); rw [k93] at k8; omega)), (by first | (intro j hj; have k1 := pk_at162 j hj; have k2 := pki j hj; exact ⟨k1.1.trans k2.1, k1.2.trans k2.2⟩) | exact pki | (intro j hj; exact ⟨rfl, rfl⟩))⟩
              · refine TT_iconst hK dX12_jump_123 ?_
                refine TT_iret hK hQ ?_ dX12_jump_124
                have e88_73_32 : g117_58 73 32 = (g117_58 73) 32 := rfl
                have e89_73_34 : g117_58 73 34 = (g117_58 73) 34 := rfl
                have e90_73_36 : g117_58 73 36 = (g117_58 73) 36 := rfl
                have e91_73_34 : g117_58 73 34 = (g117_58 73) 34 := rfl
                have e92_73_36 : g117_58 73 36 = (g117_58 73) 36 := rfl
                have e93_93 : g117_58 93 = w29_4 93 := (hG_58.1 93 (by decide))
                have e94_84 : g117_58 84 = w29_4 84 := (hG_58.1 84 (by decide))
                have e95_85 : g117_58 85 = w29_4 85 := (hG_58.1 85 (by decide))
                exact ⟨⟨hT_58, hF_58⟩, 4, rfl, (by omega), (by rewrite [e88_73_32]; omega), (by rewrite [e89_73_34, e90_73_36]; omega), (by omega), (by rewrite [e91_73_34, e92_73_36, e93_93]; intro w h1 h2 h5; first | omega | (rw [k93]; omega) | (have k8 := pz_at162 w (h 81 (h 73 26)) h1 h2 (by omega) (by omega) (hz9 (by omega) _ (by omega) (by omega)); rw [k93] at k8; omega)), (by rewrite [e94_84, e95_85]; first | (intro j hj; have k1 := pk_at162 j hj; have k2 := pki j hj; exact ⟨k1.1.trans k2.1, k1.2.trans k2.2⟩) | exact pki | (intro j hj; exact ⟨rfl, rfl⟩))⟩
          · refine TT_iconst hK dX12_jump_101 ?_
            refine TT_iret hK hQ ?_ dX12_jump_102
            have e96_73_32 : w29_4 73 32 = (w29_4 73) 32 := rfl
            have e97_73_34 : w29_4 73 34 = (w29_4 73) 34 := rfl
            have e98_73_36 : w29_4 73 36 = (w29_4 73) 36 := rfl
            have e99_73_34 : w29_4 73 34 = (w29_4 73) 34 := rfl
            have e100_73_36 : w29_4 73 36 = (w29_4 73) 36 := rfl
            exact ⟨⟨hT29_4, hF29_4⟩, 0, rfl, (by omega), (by rewrite [e96_73_32]; omega), (by rewrite [e97_73_34, e98_73_36]; omega), (by omega), (by rewrite [e99_73_34, e100_73_36]; intro w h1 h2 h5; first | omega | (rw [k93]; omega) | (have k8 := pz_at162 w (h 81 (h 73 26)) h1 h2 (by omega) (by omega) (hz9 (by omega) _ (by omega) (by omega)); rw [k93] at k8; omega)), (by first | (intro j hj; have k1 := pk_at162 j hj; have k2 := pki j hj; exact ⟨k1.1.trans k2.1, k1.2.trans k2.2⟩) | exact pki | (intro j hj; exact ⟨rfl, rfl⟩))⟩
        · refine TT_iload_n hK rfl 3 rfl dX12_jump_35 ?_
          refine TT_if_eq hK (tgt := 97) (irm (by omega) (by omega)) dX12_jump_36 (by decide) (fun hb36_101 => ?_) (fun hb36_101 => ?_)
          · refine TT_iload_n hK rfl 3 rfl dX12_jump_97 ?_
            refine TT_if_ne hK (tgt := 103) (irm (by omega) (by omega)) dX12_jump_98 (by decide) (fun hb98_102 => ?_) (fun hb98_102 => ?_)
            · exfalso; omega
            · refine TT_iconst hK dX12_jump_101 ?_
              refine TT_iret hK hQ ?_ dX12_jump_102
              have e103_73_32 : w29_4 73 32 = (w29_4 73) 32 := rfl
              have e104_73_34 : w29_4 73 34 = (w29_4 73) 34 := rfl
              have e105_73_36 : w29_4 73 36 = (w29_4 73) 36 := rfl
              have e106_73_34 : w29_4 73 34 = (w29_4 73) 34 := rfl
              have e107_73_36 : w29_4 73 36 = (w29_4 73) 36 := rfl
              exact ⟨⟨hT29_4, hF29_4⟩, 0, rfl, (by omega), (by rewrite [e103_73_32]; omega), (by rewrite [e104_73_34, e105_73_36]; omega), (by omega), (by rewrite [e106_73_34, e107_73_36]; intro w h1 h2 h5; first | omega | (rw [k93]; omega) | (have k8 := pz_at162 w (h 81 (h 73 26)) h1 h2 (by omega) (by omega) (hz9 (by omega) _ (by omega) (by omega)); rw [k93] at k8; omega)), (by first | (intro j hj; have k1 := pk_at162 j hj; have k2 := pki j hj; exact ⟨k1.1.trans k2.1, k1.2.trans k2.2⟩) | exact pki | (intro j hj; exact ⟨rfl, rfl⟩))⟩
          · refine TT_aload_n hK rfl 0 rfl dX12_jump_39 ?_
            refine TT_iload_n hK rfl 1 rfl dX12_jump_40 ?_
            refine TT_iload hK 5 rfl dX12_jump_41 ?_
            refine iv_X12_271 hK (s_X12_isUntouched_73 x r w29_4 hT29_4 (by first | omega | (simp [up, setR] <;> omega)) (by first | omega | (simp [up, setR] <;> omega))) (by decide) rfl ⟨by decide, by decide⟩ (by decide) rfl rfl (Nat.le_of_ble_eq_true rfl) ⟨by decide, by decide⟩ dX12_jump_43 ?_
            intro r9 g43_108 hp9
            obtain ⟨⟨hT_108, hG_108⟩, z43_108, hr9, hz_108, p1_108⟩ := hp9
            rw [hr9]
            have hF_108 : FRM [73, 84, 85, 93, 96, 97, 98] [28, 32, 33, 34, 36, 39] h g43_108 := FRM_tr hF29_4 hG_108 (by decide) (by decide)
            show TT K ly 0 0 46 [(0, vR 73), (1, vI x), (2, vI y), (3, vI q), (4, vI f), (5, vI r)] [vI z43_108] g43_108
            refine TT_if_eq hK (tgt := 63) (irm (by omega) (by omega)) dX12_jump_46 (by decide) (fun hb46_109 => ?_) (fun hb46_109 => ?_)
            · refine TT_iconst hK dX12_jump_63 ?_
              refine TT_istore_n hK rfl (lv' := [(3, vI 0), (0, vR 73), (1, vI x), (2, vI y), (4, vI f), (5, vI r)]) (by decide) rfl dX12_jump_64 ?_
              refine TT_iload_n hK rfl 0 rfl dX12_jump_65 ?_
              refine TT_if_eq hK (tgt := 87) (by decide) dX12_jump_66 (by decide) (fun hb66_110 => ?_) (fun hb66_110 => ?_)
              · refine TT_iload hK 4 rfl dX12_jump_87 ?_
                refine TT_istore hK (lv' := [(4, vI f), (3, vI 0), (0, vR 73), (1, vI x), (2, vI y), (5, vI r)]) (by decide) rfl dX12_jump_89 ?_
                refine TT_iinc hK (v := r - 1) (lv' := [(5, vI (r - 1)), (4, vI f), (3, vI 0), (0, vR 73), (1, vI x), (2, vI y)]) 5 rfl (by omega) (by decide) rfl dX12_jump_91 ?_
                refine TT_goto hK (tgt := 29) dX12_jump_94 (by decide) ?_
                refine TT_sub [3, 4, 5, 2, 1, 0] rfl ?_
                have e111_93 : g43_108 93 = w29_4 93 := (hG_108.1 93 (by decide))
                have e112_93 : g43_108 93 = w29_4 93 := (hG_108.1 93 (by decide))
                have e113_96 : g43_108 96 = w29_4 96 := (hG_108.1 96 (by decide))
                have e114_73_34 : g43_108 73 34 = (w29_4 73) 34 := congrFun (hG_108.1 73 (by decide)) 34
                have e115_73_36 : g43_108 73 36 = (w29_4 73) 36 := congrFun (hG_108.1 73 (by decide)) 36
                have e116_73_32 : g43_108 73 32 = (w29_4 73) 32 := congrFun (hG_108.1 73 (by decide)) 32
                have e117_84 : g43_108 84 = w29_4 84 := (hG_108.1 84 (by decide))
                have e118_85 : g43_108 85 = w29_4 85 := (hG_108.1 85 (by decide))
                exact ih4 0 f (r - 1) g43_108 hT_108 hF_108 (by first | omega | (simp [up, setR] <;> omega)) (by first | omega | (simp [up, setR] <;> omega)) (by first | omega | (simp [up, setR] <;> omega)) (by first | omega | (simp [up, setR] <;> omega)) (by rewrite [e111_93]; intro h0 j h1 h2; first | omega | (by_cases e : j = r; (subst e; omega); exact hz9 (by omega) j (by omega) h2)) (by rewrite [e112_93]; first | assumption | rfl) (by rewrite [e113_96]; first | omega | (simp [up, setR] <;> omega)) (by rewrite [e114_73_34]; first | omega | (simp [up, setR] <;> omega)) (by rewrite [e115_73_36]; first | omega | (simp [up, setR] <;> omega)) (by rewrite [e116_73_32]; first | omega | (simp [up, setR] <;> omega)) (by rewrite [e117_84, e118_85]; first | exact pki) (by first | omega | (simp [up, setR] <;> omega))
              · exact absurd hb66_110 (by decide)
            · refine TT_aload_n hK rfl 0 rfl dX12_jump_49 ?_
              refine TT_iload_n hK rfl 1 rfl dX12_jump_50 ?_
              refine TT_iload hK 5 rfl dX12_jump_51 ?_
              refine iv_X12_261 hK (s_X12_context_73 x r g43_108 hT_108 (by first | omega | (simp [up, setR] <;> omega)) (by first | omega | (simp [up, setR] <;> omega))) (by decide) rfl ⟨by decide, by decide⟩ (by decide) rfl rfl (Nat.le_of_ble_eq_true rfl) ⟨by decide, by decide⟩ dX12_jump_53 ?_
              intro r9 g53_119 hp9
              obtain ⟨⟨hT_119, hG_119⟩, z53_119, hr9, hz_119⟩ := hp9
              rw [hr9]
              have hF_119 : FRM [73, 84, 85, 93, 96, 97, 98] [28, 32, 33, 34, 36, 39] h g53_119 := FRM_tr hF_108 hG_119 (by decide) (by decide)
              show TT K ly 0 0 56 [(0, vR 73), (1, vI x), (2, vI y), (3, vI q), (4, vI f), (5, vI r)] [vI z53_119] g53_119
              refine TT_if_ne hK (tgt := 63) (irm (by omega) (by omega)) dX12_jump_56 (by decide) (fun hb56_120 => ?_) (fun hb56_120 => ?_)
              · refine TT_iconst hK dX12_jump_63 ?_
                refine TT_istore_n hK rfl (lv' := [(3, vI 0), (0, vR 73), (1, vI x), (2, vI y), (4, vI f), (5, vI r)]) (by decide) rfl dX12_jump_64 ?_
                refine TT_iload_n hK rfl 0 rfl dX12_jump_65 ?_
                refine TT_if_eq hK (tgt := 87) (by decide) dX12_jump_66 (by decide) (fun hb66_121 => ?_) (fun hb66_121 => ?_)
                · refine TT_iload hK 4 rfl dX12_jump_87 ?_
                  refine TT_istore hK (lv' := [(4, vI f), (3, vI 0), (0, vR 73), (1, vI x), (2, vI y), (5, vI r)]) (by decide) rfl dX12_jump_89 ?_
                  refine TT_iinc hK (v := r - 1) (lv' := [(5, vI (r - 1)), (4, vI f), (3, vI 0), (0, vR 73), (1, vI x), (2, vI y)]) 5 rfl (by omega) (by decide) rfl dX12_jump_91 ?_
                  refine TT_goto hK (tgt := 29) dX12_jump_94 (by decide) ?_
                  refine TT_sub [3, 4, 5, 2, 1, 0] rfl ?_
                  have e122_93 : g53_119 93 = w29_4 93 := ((hG_119.1 93 (by decide))).trans (hG_108.1 93 (by decide))
                  have e123_93 : g53_119 93 = w29_4 93 := ((hG_119.1 93 (by decide))).trans (hG_108.1 93 (by decide))
                  have e124_96 : g53_119 96 = w29_4 96 := ((hG_119.1 96 (by decide))).trans (hG_108.1 96 (by decide))
                  have e125_73_34 : g53_119 73 34 = (w29_4 73) 34 := (congrFun (hG_119.1 73 (by decide)) 34).trans (congrFun (hG_108.1 73 (by decide)) 34)
                  have e126_73_36 : g53_119 73 36 = (w29_4 73) 36 := (congrFun (hG_119.1 73 (by decide)) 36).trans (congrFun (hG_108.1 73 (by decide)) 36)
                  have e127_73_32 : g53_119 73 32 = (w29_4 73) 32 := (congrFun (hG_119.1 73 (by decide)) 32).trans (congrFun (hG_108.1 73 (by decide)) 32)
                  have e128_84 : g53_119 84 = w29_4 84 := ((hG_119.1 84 (by decide))).trans (hG_108.1 84 (by decide))
                  have e129_85 : g53_119 85 = w29_4 85 := ((hG_119.1 85 (by decide))).trans (hG_108.1 85 (by decide))
                  exact ih4 0 f (r - 1) g53_119 hT_119 hF_119 (by first | omega | (simp [up, setR] <;> omega)) (by first | omega | (simp [up, setR] <;> omega)) (by first | omega | (simp [up, setR] <;> omega)) (by first | omega | (simp [up, setR] <;> omega)) (by rewrite [e122_93]; intro h0 j h1 h2; first | omega | (by_cases e : j = r; (subst e; omega); exact hz9 (by omega) j (by omega) h2)) (by rewrite [e123_93]; first | assumption | rfl) (by rewrite [e124_96]; first | omega | (simp [up, setR] <;> omega)) (by rewrite [e125_73_34]; first | omega | (simp [up, setR] <;> omega)) (by rewrite [e126_73_36]; first | omega | (simp [up, setR] <;> omega)) (by rewrite [e127_73_32]; first | omega | (simp [up, setR] <;> omega)) (by rewrite [e128_84, e129_85]; first | exact pki) (by first | omega | (simp [up, setR] <;> omega))
                · exact absurd hb66_121 (by decide)
              · refine TT_iconst hK dX12_jump_59 ?_
                refine TT_goto hK (tgt := 64) dX12_jump_60 (by decide) ?_
                refine TT_istore_n hK rfl (lv' := [(3, vI 1), (0, vR 73), (1, vI x), (2, vI y), (4, vI f), (5, vI r)]) (by decide) rfl dX12_jump_64 ?_
                refine TT_iload_n hK rfl 0 rfl dX12_jump_65 ?_
                refine TT_if_eq hK (tgt := 87) (by decide) dX12_jump_66 (by decide) (fun hb66_130 => ?_) (fun hb66_130 => ?_)
                · exact absurd hb66_130 (by decide)
                · refine TT_aload_n hK rfl 1 rfl dX12_jump_69 ?_
                  refine TT_iload_n hK rfl 2 rfl dX12_jump_70 ?_
                  refine TT_iload hK 5 rfl dX12_jump_71 ?_
                  refine iv_X12_264 hK (s_X12_bitAt_73 x r g53_119 hT_119 (by first | omega | (simp [up, setR] <;> omega)) (by first | omega | (simp [up, setR] <;> omega))) (by decide) rfl ⟨by decide, by decide⟩ (by decide) rfl rfl (Nat.le_of_ble_eq_true rfl) ⟨by decide, by decide⟩ dX12_jump_73 ?_
                  intro r9 g73_131 hp9
                  obtain ⟨⟨hT_131, hG_131⟩, z73_131, hr9, hz_131⟩ := hp9
                  rw [hr9]
                  have hF_131 : FRM [73, 84, 85, 93, 96, 97, 98] [28, 32, 33, 34, 36, 39] h g73_131 := FRM_tr hF_119 hG_131 (by decide) (by decide)
                  show TT K ly 0 0 76 [(3, vI 1), (0, vR 73), (1, vI x), (2, vI y), (4, vI f), (5, vI r)] [vI z73_131] g73_131
                  refine TT_iconst hK dX12_jump_76 ?_
                  refine TT_icmp_ne hK (tgt := 87) (irm (by omega) (by omega)) (by decide) dX12_jump_77 (by decide) (fun hb77_132 => ?_) (fun hb77_132 => ?_)
                  · refine TT_iload hK 4 rfl dX12_jump_87 ?_
                    refine TT_istore hK (lv' := [(4, vI f), (3, vI 1), (0, vR 73), (1, vI x), (2, vI y), (5, vI r)]) (by decide) rfl dX12_jump_89 ?_
                    refine TT_iinc hK (v := r - 1) (lv' := [(5, vI (r - 1)), (4, vI f), (3, vI 1), (0, vR 73), (1, vI x), (2, vI y)]) 5 rfl (by omega) (by decide) rfl dX12_jump_91 ?_
                    refine TT_goto hK (tgt := 29) dX12_jump_94 (by decide) ?_
                    refine TT_sub [3, 4, 5, 2, 1, 0] rfl ?_
                    have e133_93 : g73_131 93 = w29_4 93 := ((hG_131.1 93 (by decide))).trans (((hG_119.1 93 (by decide))).trans (hG_108.1 93 (by decide)))
                    have e134_93 : g73_131 93 = w29_4 93 := ((hG_131.1 93 (by decide))).trans (((hG_119.1 93 (by decide))).trans (hG_108.1 93 (by decide)))
                    have e135_96 : g73_131 96 = w29_4 96 := ((hG_131.1 96 (by decide))).trans (((hG_119.1 96 (by decide))).trans (hG_108.1 96 (by decide)))
                    have e136_73_34 : g73_131 73 34 = (w29_4 73) 34 := (congrFun (hG_131.1 73 (by decide)) 34).trans ((congrFun (hG_119.1 73 (by decide)) 34).trans (congrFun (hG_108.1 73 (by decide)) 34))
                    have e137_73_36 : g73_131 73 36 = (w29_4 73) 36 := (congrFun (hG_131.1 73 (by decide)) 36).trans ((congrFun (hG_119.1 73 (by decide)) 36).trans (congrFun (hG_108.1 73 (by decide)) 36))
                    have e138_73_32 : g73_131 73 32 = (w29_4 73) 32 := (congrFun (hG_131.1 73 (by decide)) 32).trans ((congrFun (hG_119.1 73 (by decide)) 32).trans (congrFun (hG_108.1 73 (by decide)) 32))
                    have e139_84 : g73_131 84 = w29_4 84 := ((hG_131.1 84 (by decide))).trans (((hG_119.1 84 (by decide))).trans (hG_108.1 84 (by decide)))
                    have e140_85 : g73_131 85 = w29_4 85 := ((hG_131.1 85 (by decide))).trans (((hG_119.1 85 (by decide))).trans (hG_108.1 85 (by decide)))
                    exact ih4 1 f (r - 1) g73_131 hT_131 hF_131 (by first | omega | (simp [up, setR] <;> omega)) (by first | omega | (simp [up, setR] <;> omega)) (by first | omega | (simp [up, setR] <;> omega)) (by first | omega | (simp [up, setR] <;> omega)) (by rewrite [e133_93]; intro h0 j h1 h2; first | omega | (by_cases e : j = r; (subst e; omega); exact hz9 (by omega) j (by omega) h2)) (by rewrite [e134_93]; first | assumption | rfl) (by rewrite [e135_96]; first | omega | (simp [up, setR] <;> omega)) (by rewrite [e136_73_34]; first | omega | (simp [up, setR] <;> omega)) (by rewrite [e137_73_36]; first | omega | (simp [up, setR] <;> omega)) (by rewrite [e138_73_32]; first | omega | (simp [up, setR] <;> omega)) (by rewrite [e139_84, e140_85]; first | exact pki) (by first | omega | (simp [up, setR] <;> omega))
                  · refine TT_iload hK 5 rfl dX12_jump_80 ?_
                    refine TT_iload_n hK rfl 3 rfl dX12_jump_82 ?_
                    refine TT_isub hK dX12_jump_83 ?_
                    refine TT_goto hK (tgt := 89) dX12_jump_84 (by decide) ?_
                    refine TT_istore hK (lv' := [(4, vI (r - y)), (3, vI 1), (0, vR 73), (1, vI x), (2, vI y), (5, vI r)]) (by decide) rfl dX12_jump_89 ?_
                    refine TT_iinc hK (v := r - 1) (lv' := [(5, vI (r - 1)), (4, vI (r - y)), (3, vI 1), (0, vR 73), (1, vI x), (2, vI y)]) 5 rfl (by omega) (by decide) rfl dX12_jump_91 ?_
                    refine TT_goto hK (tgt := 29) dX12_jump_94 (by decide) ?_
                    refine TT_sub [3, 4, 5, 2, 1, 0] rfl ?_
                    have e141_93 : g73_131 93 = w29_4 93 := ((hG_131.1 93 (by decide))).trans (((hG_119.1 93 (by decide))).trans (hG_108.1 93 (by decide)))
                    have e142_93 : g73_131 93 = w29_4 93 := ((hG_131.1 93 (by decide))).trans (((hG_119.1 93 (by decide))).trans (hG_108.1 93 (by decide)))
                    have e143_96 : g73_131 96 = w29_4 96 := ((hG_131.1 96 (by decide))).trans (((hG_119.1 96 (by decide))).trans (hG_108.1 96 (by decide)))
                    have e144_73_34 : g73_131 73 34 = (w29_4 73) 34 := (congrFun (hG_131.1 73 (by decide)) 34).trans ((congrFun (hG_119.1 73 (by decide)) 34).trans (congrFun (hG_108.1 73 (by decide)) 34))
                    have e145_73_36 : g73_131 73 36 = (w29_4 73) 36 := (congrFun (hG_131.1 73 (by decide)) 36).trans ((congrFun (hG_119.1 73 (by decide)) 36).trans (congrFun (hG_108.1 73 (by decide)) 36))
                    have e146_73_32 : g73_131 73 32 = (w29_4 73) 32 := (congrFun (hG_131.1 73 (by decide)) 32).trans ((congrFun (hG_119.1 73 (by decide)) 32).trans (congrFun (hG_108.1 73 (by decide)) 32))
                    have e147_84 : g73_131 84 = w29_4 84 := ((hG_131.1 84 (by decide))).trans (((hG_119.1 84 (by decide))).trans (hG_108.1 84 (by decide)))
                    have e148_85 : g73_131 85 = w29_4 85 := ((hG_131.1 85 (by decide))).trans (((hG_119.1 85 (by decide))).trans (hG_108.1 85 (by decide)))
                    exact ih4 1 (r - y) (r - 1) g73_131 hT_131 hF_131 (by first | omega | (simp [up, setR] <;> omega)) (by first | omega | (simp [up, setR] <;> omega)) (by first | omega | (simp [up, setR] <;> omega)) (by first | omega | (simp [up, setR] <;> omega)) (by rewrite [e141_93]; intro h0 j h1 h2; first | omega | (by_cases e : j = r; (subst e; omega); exact hz9 (by omega) j (by omega) h2)) (by rewrite [e142_93]; first | assumption | rfl) (by rewrite [e143_96]; first | omega | (simp [up, setR] <;> omega)) (by rewrite [e144_73_34]; first | omega | (simp [up, setR] <;> omega)) (by rewrite [e145_73_36]; first | omega | (simp [up, setR] <;> omega)) (by rewrite [e146_73_32]; first | omega | (simp [up, setR] <;> omega)) (by rewrite [e147_84, e148_85]; first | exact pki) (by first | omega | (simp [up, setR] <;> omega))
    refine TT_sub [3, 4, 5, 2, 1, 0] rfl ?_
    have e149_73_34 : h 73 34 = (h 73) 34 := rfl
    have e150_73_36 : h 73 36 = (h 73) 36 := rfl
    have e151_73_32 : h 73 32 = (h 73) 32 := rfl
    exact L29_4 ((((y + 3) - y + 1).toNat) + 1) 0 4 (y + 3) h hT hF (by first | omega | (simp [up, setR] <;> omega)) (by first | omega | (simp [up, setR] <;> omega)) (by first | omega | (simp [up, setR] <;> omega)) (by first | omega | (simp [up, setR] <;> omega)) (by intro _ j h1 h2; omega) (by rfl) (by first | omega | (simp [up, setR] <;> omega)) (by rewrite [e149_73_34]; first | omega | (simp [up, setR] <;> omega)) (by rewrite [e150_73_36]; first | omega | (simp [up, setR] <;> omega)) (by rewrite [e151_73_32]; first | omega | (simp [up, setR] <;> omega)) (by (intro j hj; exact ⟨rfl, rfl⟩)) (Nat.lt_succ_self _)
  · refine TT_iconst hK dX12_jump_15 ?_
    refine TT_goto hK (tgt := 20) dX12_jump_16 (by decide) ?_
    refine TT_istore_n hK rfl (lv' := [(3, vI 1), (0, vR 73), (1, vI x), (2, vI y)]) (by decide) rfl dX12_jump_20 ?_
    refine TT_iconst hK dX12_jump_21 ?_
    refine TT_istore hK (lv' := [(4, vI 4), (3, vI 1), (0, vR 73), (1, vI x), (2, vI y)]) (by decide) rfl dX12_jump_22 ?_
    refine TT_iload_n hK rfl 4 rfl dX12_jump_24 ?_
    refine TT_iconst hK dX12_jump_25 ?_
    refine TT_iadd hK dX12_jump_26 ?_
    refine TT_istore hK (lv' := [(5, vI (y + 3)), (4, vI 4), (3, vI 1), (0, vR 73), (1, vI x), (2, vI y)]) (by decide) rfl dX12_jump_27 ?_
    have L29_152 : ∀ (k152 : Nat) (q : Int) (f : Int) (r : Int) (w29_152 : Hp_), TY w29_152 → FRM [73, 84, 85, 93, 96, 97, 98] [28, 32, 33, 34, 36, 39] h w29_152 → (0 ≤ q ∧ q ≤ 1) → (0 ≤ f ∧ f ≤ 4) → (y - 1 ≤ r ∧ r ≤ y + 3) → (q = 1 → y + 4 ≤ h 81 (h 73 26)) → (q = 1 → ∀ j, r < j → j ≤ y + 3 → (w29_152 93) (10 * j + x + 11) = 0) → ((w29_152 93) = h 93) → (PhS (w29_152 96) = PhS (h 96)) → ((w29_152 73 34) = h 73 34) → ((w29_152 73 36) = h 73 36) → ((w29_152 73 32) = h 73 32) → (∀ j : Int, j < 640 → (w29_152 84) j = h 84 j ∧ (w29_152 85) j = h 85 j) → (r - y + 1).toNat < k152 → TT K ly 0 0 29 [(0, vR 73), (1, vI x), (2, vI y), (3, vI q), (4, vI f), (5, vI r)] [] w29_152 := by
      intro k152
      induction k152 with
      | zero => intro q f r w29_152 hT29_152 hF29_152 hq hf hr he hz9 k93 k96 k34 k36 k32 pki hk152; exact absurd hk152 (Nat.not_lt_zero _)
      | succ k152 ih152 =>
        intro q f r w29_152 hT29_152 hF29_152 hq hf hr he hz9 k93 k96 k34 k36 k32 pki hk152
        refine TT_iload hK 5 rfl dX12_jump_29 ?_
        refine TT_iload_n hK rfl 2 rfl dX12_jump_31 ?_
        refine TT_icmp_lt hK (tgt := 97) (irm (by omega) (by omega)) (irm (by omega) (by omega)) dX12_jump_32 (by decide) (fun hb32_153 => ?_) (fun hb32_153 => ?_)
        · refine TT_iload_n hK rfl 3 rfl dX12_jump_97 ?_
          refine TT_if_ne hK (tgt := 103) (irm (by omega) (by omega)) dX12_jump_98 (by decide) (fun hb98_154 => ?_) (fun hb98_154 => ?_)
          · refine TT_aload_n hK rfl 0 rfl dX12_jump_103 ?_
            refine TT_bipush hK (by decide) dX12_jump_104 ?_
            refine TT_iload hK 4 rfl dX12_jump_106 ?_
            refine TT_iconst hK dX12_jump_108 ?_
            refine TT_icmp_ge hK (tgt := 116) (irm (by omega) (by omega)) (by decide) dX12_jump_109 (by decide) (fun hb109_155 => ?_) (fun hb109_155 => ?_)
            · refine TT_iconst hK dX12_jump_116 ?_
              have e156_74 : w29_152 74 = h 74 := (hF29_152.1 74 (by decide))
              have e157_75 : w29_152 75 = h 75 := (hF29_152.1 75 (by decide))
              have e158_73_32 : w29_152 73 32 = (w29_152 73) 32 := rfl
              have e159_73_29 : w29_152 73 29 = (h 73) 29 := (hF29_152.2 29 (by decide))
              have e160_73_34 : w29_152 73 34 = (w29_152 73) 34 := rfl
              have e161_73_36 : w29_152 73 36 = (w29_152 73) 36 := rfl
              refine iv_X12_258 hK (s_X12_code_73 17 0 w29_152 hT29_152 (by first | omega | (simp [up, setR] <;> omega)) (by first | omega | (simp [up, setR] <;> omega)) (by rewrite [e156_74, e157_75]; first | assumption | exact htb) (by rewrite [e158_73_32]; first | omega | (simp [up, setR] <;> omega)) (by rewrite [e159_73_29, e160_73_34, e161_73_36]; first | omega | (simp [up, setR] <;> omega))) (by decide) rfl ⟨by decide, by decide⟩ (by decide) rfl rfl (Nat.le_of_ble_eq_true rfl) ⟨by decide, by decide⟩ dX12_jump_117 ?_
              intro r9 g117_162 hp9
              obtain ⟨⟨hT_162, hG_162⟩, z117_162, hr9, hz_162, pa_162, pm_162⟩ := hp9
              rw [hr9]
              have hF_162 : FRM [73, 84, 85, 93, 96, 97, 98] [28, 32, 33, 34, 36, 39] h g117_162 := FRM_tr hF29_152 hG_162 (by decide) (by decide)
              rw [show w29_152 73 29 = (h 73) 29 from (hF29_152.2 29 (by decide))] at pm_162
              rw [show w29_152 73 34 = (w29_152 73) 34 from rfl] at pm_162
              rw [show w29_152 73 36 = (w29_152 73) 36 from rfl] at pm_162
              show TT K ly 0 0 120 [(0, vR 73), (1, vI x), (2, vI y), (3, vI q), (4, vI f), (5, vI r)] [vI z117_162] g117_162
              refine TT_if_ne hK (tgt := 125) (irm (by omega) (by omega)) dX12_jump_120 (by decide) (fun hb120_163 => ?_) (fun hb120_163 => ?_)
              · refine TT_aload_n hK rfl 0 rfl dX12_jump_125 ?_
                refine TT_bipush hK (by decide) dX12_jump_126 ?_
                refine TT_iload hK 4 rfl dX12_jump_128 ?_
                refine TT_iconst hK dX12_jump_130 ?_
                refine TT_idivn hK (irm (by omega) (by omega)) (by decide) (by first | omega | (simp [up, setR] <;> omega)) (by first | omega | (simp [up, setR] <;> omega)) dX12_jump_131 ?_
                refine TT_iconst hK dX12_jump_132 ?_
                refine TT_iremn hK (irm (by omega) (by omega)) (by decide) (by first | omega | (simp [up, setR] <;> omega)) (by first | omega | (simp [up, setR] <;> omega)) dX12_jump_133 ?_
                have e164_74 : g117_162 74 = h 74 := ((hG_162.1 74 (by decide))).trans (hF29_152.1 74 (by decide))
                have e165_75 : g117_162 75 = h 75 := ((hG_162.1 75 (by decide))).trans (hF29_152.1 75 (by decide))
                have e166_73_32 : g117_162 73 32 = (g117_162 73) 32 := rfl
                have e167_73_29 : g117_162 73 29 = (h 73) 29 := ((hG_162.2 29 (by decide))).trans (hF29_152.2 29 (by decide))
                have e168_73_34 : g117_162 73 34 = (g117_162 73) 34 := rfl
                have e169_73_36 : g117_162 73 36 = (g117_162 73) 36 := rfl
                refine iv_X12_258 hK (s_X12_code_73 18 ((f / 2) % 2) g117_162 hT_162 (by first | omega | (simp [up, setR] <;> omega)) (by first | omega | (simp [up, setR] <;> omega)) (by rewrite [e164_74, e165_75]; first | assumption | exact htb) (by rewrite [e166_73_32]; first | omega | (simp [up, setR] <;> omega)) (by rewrite [e167_73_29, e168_73_34, e169_73_36]; first | omega | (simp [up, setR] <;> omega))) (by decide) rfl ⟨by decide, by decide⟩ (by decide) rfl rfl (Nat.le_of_ble_eq_true rfl) ⟨by decide, by decide⟩ dX12_jump_134 ?_
                intro r9 g134_170 hp9
                obtain ⟨⟨hT_170, hG_170⟩, z134_170, hr9, hz_170, pa_170, pm_170⟩ := hp9
                rw [hr9]
                have hF_170 : FRM [73, 84, 85, 93, 96, 97, 98] [28, 32, 33, 34, 36, 39] h g134_170 := FRM_tr hF_162 hG_170 (by decide) (by decide)
                rw [show g117_162 73 29 = (h 73) 29 from ((hG_162.2 29 (by decide))).trans (hF29_152.2 29 (by decide))] at pm_170
                rw [show g117_162 73 34 = (g117_162 73) 34 from rfl] at pm_170
                rw [show g117_162 73 36 = (g117_162 73) 36 from rfl] at pm_170
                show TT K ly 0 0 137 [(0, vR 73), (1, vI x), (2, vI y), (3, vI q), (4, vI f), (5, vI r)] [vI z134_170] g134_170
                refine TT_istore hK (lv' := [(5, vI z134_170), (0, vR 73), (1, vI x), (2, vI y), (3, vI q), (4, vI f)]) (by decide) rfl dX12_jump_137 ?_
                refine TT_aload_n hK rfl 1 rfl dX12_jump_139 ?_
                refine TT_bipush hK (by decide) dX12_jump_140 ?_
                refine TT_iload hK 5 rfl dX12_jump_142 ?_
                refine TT_iconst hK dX12_jump_144 ?_
                refine TT_iremn hK (irm (by omega) (by omega)) (by decide) (by first | omega | (simp [up, setR] <;> omega)) (by first | omega | (simp [up, setR] <;> omega)) dX12_jump_145 ?_
                have e171_74 : g134_170 74 = h 74 := ((hG_170.1 74 (by decide))).trans (((hG_162.1 74 (by decide))).trans (hF29_152.1 74 (by decide)))
                have e172_75 : g134_170 75 = h 75 := ((hG_170.1 75 (by decide))).trans (((hG_162.1 75 (by decide))).trans (hF29_152.1 75 (by decide)))
                have e173_73_32 : g134_170 73 32 = (g134_170 73) 32 := rfl
                have e174_73_29 : g134_170 73 29 = (h 73) 29 := ((hG_170.2 29 (by decide))).trans (((hG_162.2 29 (by decide))).trans (hF29_152.2 29 (by decide)))
                have e175_73_34 : g134_170 73 34 = (g134_170 73) 34 := rfl
                have e176_73_36 : g134_170 73 36 = (g134_170 73) 36 := rfl
                refine iv_X12_258 hK (s_X12_code_73 18 (f % 2) g134_170 hT_170 (by first | omega | (simp [up, setR] <;> omega)) (by first | omega | (simp [up, setR] <;> omega)) (by rewrite [e171_74, e172_75]; first | assumption | exact htb) (by rewrite [e173_73_32]; first | omega | (simp [up, setR] <;> omega)) (by rewrite [e174_73_29, e175_73_34, e176_73_36]; first | omega | (simp [up, setR] <;> omega))) (by decide) rfl ⟨by decide, by decide⟩ (by decide) rfl rfl (Nat.le_of_ble_eq_true rfl) ⟨by decide, by decide⟩ dX12_jump_146 ?_
                intro r9 g146_177 hp9
                obtain ⟨⟨hT_177, hG_177⟩, z146_177, hr9, hz_177, pa_177, pm_177⟩ := hp9
                rw [hr9]
                have hF_177 : FRM [73, 84, 85, 93, 96, 97, 98] [28, 32, 33, 34, 36, 39] h g146_177 := FRM_tr hF_170 hG_177 (by decide) (by decide)
                rw [show g134_170 73 29 = (h 73) 29 from ((hG_170.2 29 (by decide))).trans (((hG_162.2 29 (by decide))).trans (hF29_152.2 29 (by decide)))] at pm_177
                rw [show g134_170 73 34 = (g134_170 73) 34 from rfl] at pm_177
                rw [show g134_170 73 36 = (g134_170 73) 36 from rfl] at pm_177
                show TT K ly 0 0 149 [(5, vI z134_170), (0, vR 73), (1, vI x), (2, vI y), (3, vI q), (4, vI f)] [vI z146_177] g146_177
                refine TT_istore hK (lv' := [(6, vI z146_177), (5, vI z134_170), (0, vR 73), (1, vI x), (2, vI y), (3, vI q), (4, vI f)]) (by decide) rfl dX12_jump_149 ?_
                refine TT_aload_n hK rfl 2 rfl dX12_jump_151 ?_
                refine TT_iload_n hK rfl 3 rfl dX12_jump_152 ?_
                refine TT_iload_n hK rfl 4 rfl dX12_jump_153 ?_
                refine TT_iconst hK dX12_jump_154 ?_
                refine TT_iload hK 1 rfl dX12_jump_155 ?_
                refine TT_imul hK dX12_jump_157 ?_
                refine TT_iadd hK dX12_jump_158 ?_
                refine TT_iload hK 0 rfl dX12_jump_159 ?_
                refine TT_iadd hK dX12_jump_161 ?_
                have e178_74 : g146_177 74 = h 74 := ((hG_177.1 74 (by decide))).trans (((hG_170.1 74 (by decide))).trans (((hG_162.1 74 (by decide))).trans (hF29_152.1 74 (by decide))))
                have e179_75 : g146_177 75 = h 75 := ((hG_177.1 75 (by decide))).trans (((hG_170.1 75 (by decide))).trans (((hG_162.1 75 (by decide))).trans (hF29_152.1 75 (by decide))))
                have e180_73_32 : g146_177 73 32 = (g146_177 73) 32 := rfl
                have e181_73_29 : g146_177 73 29 = (h 73) 29 := ((hG_177.2 29 (by decide))).trans (((hG_170.2 29 (by decide))).trans (((hG_162.2 29 (by decide))).trans (hF29_152.2 29 (by decide))))
                have e182_73_34 : g146_177 73 34 = (g146_177 73) 34 := rfl
                have e183_73_36 : g146_177 73 36 = (g146_177 73) 36 := rfl
                have e184_73_26 : g146_177 73 26 = (h 73) 26 := ((hG_177.2 26 (by decide))).trans (((hG_170.2 26 (by decide))).trans (((hG_162.2 26 (by decide))).trans (hF29_152.2 26 (by decide))))
                have e185_73_29 : g146_177 73 29 = (h 73) 29 := ((hG_177.2 29 (by decide))).trans (((hG_170.2 29 (by decide))).trans (((hG_162.2 29 (by decide))).trans (hF29_152.2 29 (by decide))))
                refine iv_X12_267 hK (s_wake_k x ((y + (2 * z134_170)) + z146_177) g146_177 hT_177 (by first | omega | (simp [up, setR] <;> omega)) (by first | omega | (simp [up, setR] <;> omega)) (by rewrite [e178_74, e179_75]; first | assumption | exact htb) (by rewrite [e180_73_32]; first | omega | (simp [up, setR] <;> omega)) (by rewrite [e181_73_29, e182_73_34, e183_73_36]; first | omega | (simp [up, setR] <;> omega)) (by rewrite [e184_73_26, e185_73_29]; first | omega | (simp [up, setR] <;> omega))) (by decide) rfl ⟨by decide, by decide⟩ (by decide) rfl rfl (Nat.le_of_ble_eq_true rfl) ⟨by decide, by decide⟩ dX12_jump_162 ?_
                intro r9 g162_186 hp9
                obtain ⟨⟨hT_186, hG_186⟩, hr9, pa_186, pm_186, pz_186, pk_186⟩ := hp9
                rw [hr9]
                have hF_186 : FRM [73, 84, 85, 93, 96, 97, 98] [28, 32, 33, 34, 36, 39] h g162_186 := FRM_tr hF_177 hG_186 (by decide) (by decide)
                rw [show g146_177 73 29 = (h 73) 29 from ((hG_177.2 29 (by decide))).trans (((hG_170.2 29 (by decide))).trans (((hG_162.2 29 (by decide))).trans (hF29_152.2 29 (by decide))))] at pm_186
                rw [show g146_177 73 34 = (g146_177 73) 34 from rfl] at pm_186
                rw [show g146_177 73 36 = (g146_177 73) 36 from rfl] at pm_186
                rw [show g146_177 93 = w29_152 93 from ((hG_177.1 93 (by decide))).trans (((hG_170.1 93 (by decide))).trans (hG_162.1 93 (by decide)))] at pz_186
                rw [show g146_177 84 = w29_152 84 from ((hG_177.1 84 (by decide))).trans (((hG_170.1 84 (by decide))).trans (hG_162.1 84 (by decide)))] at pk_186
                rw [show g146_177 85 = w29_152 85 from ((hG_177.1 85 (by decide))).trans (((hG_170.1 85 (by decide))).trans (hG_162.1 85 (by decide)))] at pk_186
                have pz_at162 := pz_186
                have pk_at162 := pk_186
                show TT K ly 0 0 165 [(6, vI z146_177), (5, vI z134_170), (0, vR 73), (1, vI x), (2, vI y), (3, vI q), (4, vI f)] [] g162_186
                refine TT_iconst hK dX12_jump_165 ?_
                refine TT_iload hK 1 rfl dX12_jump_166 ?_
                refine TT_imul hK dX12_jump_168 ?_
                refine TT_iload hK 0 rfl dX12_jump_169 ?_
                refine TT_iadd hK dX12_jump_171 ?_
                refine TT_iconst hK dX12_jump_172 ?_
                refine TT_iadd hK dX12_jump_173 ?_
                refine TT_iret hK hQ ?_ dX12_jump_174
                have e187_73_32 : g162_186 73 32 = (g162_186 73) 32 := rfl
                have e188_73_34 : g162_186 73 34 = (g162_186 73) 34 := rfl
                have e189_73_36 : g162_186 73 36 = (g162_186 73) 36 := rfl
                have e190_73_34 : g162_186 73 34 = (g162_186 73) 34 := rfl
                have e191_73_36 : g162_186 73 36 = (g162_186 73) 36 := rfl
                exact ⟨⟨hT_186, hF_186⟩, (((2 * z134_170) + z146_177) + 1), rfl, (by omega), (by rewrite [e187_73_32]; omega), (by rewrite [e188_73_34, e189_73_36]; omega), (by omega), (by rewrite [e190_73_34, e191_73_36]; intro w h1 h2 h5; first | omega | (rw [k93]; omega) | (have k8 := pz_at162 w (h 81 (h 73 26)) h1 h2 (by omega) (by omega) (hz9 (by omega) _ (by omega) (by omega)); rw [k93] at k8; omega)), (by first | (intro j hj; have k1 := pk_at162 j hj; have k2 := pki j hj; exact ⟨k1.1.trans k2.1, k1.2.trans k2.2⟩) | exact pki | (intro j hj; exact ⟨rfl, rfl⟩))⟩
              · refine TT_iconst hK dX12_jump_123 ?_
                refine TT_iret hK hQ ?_ dX12_jump_124
                have e192_73_32 : g117_162 73 32 = (g117_162 73) 32 := rfl
                have e193_73_34 : g117_162 73 34 = (g117_162 73) 34 := rfl
                have e194_73_36 : g117_162 73 36 = (g117_162 73) 36 := rfl
                have e195_73_34 : g117_162 73 34 = (g117_162 73) 34 := rfl
                have e196_73_36 : g117_162 73 36 = (g117_162 73) 36 := rfl
                have e197_93 : g117_162 93 = w29_152 93 := (hG_162.1 93 (by decide))
                have e198_84 : g117_162 84 = w29_152 84 := (hG_162.1 84 (by decide))
                have e199_85 : g117_162 85 = w29_152 85 := (hG_162.1 85 (by decide))
                exact ⟨⟨hT_162, hF_162⟩, 4, rfl, (by omega), (by rewrite [e192_73_32]; omega), (by rewrite [e193_73_34, e194_73_36]; omega), (by omega), (by rewrite [e195_73_34, e196_73_36, e197_93]; intro w h1 h2 h5; first | omega | (rw [k93]; omega) | (have k8 := pz_at162 w (h 81 (h 73 26)) h1 h2 (by omega) (by omega) (hz9 (by omega) _ (by omega) (by omega)); rw [k93] at k8; omega)), (by rewrite [e198_84, e199_85]; first | (intro j hj; have k1 := pk_at162 j hj; have k2 := pki j hj; exact ⟨k1.1.trans k2.1, k1.2.trans k2.2⟩) | exact pki | (intro j hj; exact ⟨rfl, rfl⟩))⟩
            · refine TT_iconst hK dX12_jump_112 ?_
              refine TT_goto hK (tgt := 117) dX12_jump_113 (by decide) ?_
              have e200_74 : w29_152 74 = h 74 := (hF29_152.1 74 (by decide))
              have e201_75 : w29_152 75 = h 75 := (hF29_152.1 75 (by decide))
              have e202_73_32 : w29_152 73 32 = (w29_152 73) 32 := rfl
              have e203_73_29 : w29_152 73 29 = (h 73) 29 := (hF29_152.2 29 (by decide))
              have e204_73_34 : w29_152 73 34 = (w29_152 73) 34 := rfl
              have e205_73_36 : w29_152 73 36 = (w29_152 73) 36 := rfl
              refine iv_X12_258 hK (s_X12_code_73 17 1 w29_152 hT29_152 (by first | omega | (simp [up, setR] <;> omega)) (by first | omega | (simp [up, setR] <;> omega)) (by rewrite [e200_74, e201_75]; first | assumption | exact htb) (by rewrite [e202_73_32]; first | omega | (simp [up, setR] <;> omega)) (by rewrite [e203_73_29, e204_73_34, e205_73_36]; first | omega | (simp [up, setR] <;> omega))) (by decide) rfl ⟨by decide, by decide⟩ (by decide) rfl rfl (Nat.le_of_ble_eq_true rfl) ⟨by decide, by decide⟩ dX12_jump_117 ?_
              intro r9 g117_206 hp9
              obtain ⟨⟨hT_206, hG_206⟩, z117_206, hr9, hz_206, pa_206, pm_206⟩ := hp9
              rw [hr9]
              have hF_206 : FRM [73, 84, 85, 93, 96, 97, 98] [28, 32, 33, 34, 36, 39] h g117_206 := FRM_tr hF29_152 hG_206 (by decide) (by decide)
              rw [show w29_152 73 29 = (h 73) 29 from (hF29_152.2 29 (by decide))] at pm_206
              rw [show w29_152 73 34 = (w29_152 73) 34 from rfl] at pm_206
              rw [show w29_152 73 36 = (w29_152 73) 36 from rfl] at pm_206
              show TT K ly 0 0 120 [(0, vR 73), (1, vI x), (2, vI y), (3, vI q), (4, vI f), (5, vI r)] [vI z117_206] g117_206
              refine TT_if_ne hK (tgt := 125) (irm (by omega) (by omega)) dX12_jump_120 (by decide) (fun hb120_207 => ?_) (fun hb120_207 => ?_)
              · refine TT_aload_n hK rfl 0 rfl dX12_jump_125 ?_
                refine TT_bipush hK (by decide) dX12_jump_126 ?_
                refine TT_iload hK 4 rfl dX12_jump_128 ?_
                refine TT_iconst hK dX12_jump_130 ?_
                refine TT_idivn hK (irm (by omega) (by omega)) (by decide) (by first | omega | (simp [up, setR] <;> omega)) (by first | omega | (simp [up, setR] <;> omega)) dX12_jump_131 ?_
                refine TT_iconst hK dX12_jump_132 ?_
                refine TT_iremn hK (irm (by omega) (by omega)) (by decide) (by first | omega | (simp [up, setR] <;> omega)) (by first | omega | (simp [up, setR] <;> omega)) dX12_jump_133 ?_
                have e208_74 : g117_206 74 = h 74 := ((hG_206.1 74 (by decide))).trans (hF29_152.1 74 (by decide))
                have e209_75 : g117_206 75 = h 75 := ((hG_206.1 75 (by decide))).trans (hF29_152.1 75 (by decide))
                have e210_73_32 : g117_206 73 32 = (g117_206 73) 32 := rfl
                have e211_73_29 : g117_206 73 29 = (h 73) 29 := ((hG_206.2 29 (by decide))).trans (hF29_152.2 29 (by decide))
                have e212_73_34 : g117_206 73 34 = (g117_206 73) 34 := rfl
                have e213_73_36 : g117_206 73 36 = (g117_206 73) 36 := rfl
                refine iv_X12_258 hK (s_X12_code_73 18 ((f / 2) % 2) g117_206 hT_206 (by first | omega | (simp [up, setR] <;> omega)) (by first | omega | (simp [up, setR] <;> omega)) (by rewrite [e208_74, e209_75]; first | assumption | exact htb) (by rewrite [e210_73_32]; first | omega | (simp [up, setR] <;> omega)) (by rewrite [e211_73_29, e212_73_34, e213_73_36]; first | omega | (simp [up, setR] <;> omega))) (by decide) rfl ⟨by decide, by decide⟩ (by decide) rfl rfl (Nat.le_of_ble_eq_true rfl) ⟨by decide, by decide⟩ dX12_jump_134 ?_
                intro r9 g134_214 hp9
                obtain ⟨⟨hT_214, hG_214⟩, z134_214, hr9, hz_214, pa_214, pm_214⟩ := hp9
                rw [hr9]
                have hF_214 : FRM [73, 84, 85, 93, 96, 97, 98] [28, 32, 33, 34, 36, 39] h g134_214 := FRM_tr hF_206 hG_214 (by decide) (by decide)
                rw [show g117_206 73 29 = (h 73) 29 from ((hG_206.2 29 (by decide))).trans (hF29_152.2 29 (by decide))] at pm_214
                rw [show g117_206 73 34 = (g117_206 73) 34 from rfl] at pm_214
                rw [show g117_206 73 36 = (g117_206 73) 36 from rfl] at pm_214
                show TT K ly 0 0 137 [(0, vR 73), (1, vI x), (2, vI y), (3, vI q), (4, vI f), (5, vI r)] [vI z134_214] g134_214
                refine TT_istore hK (lv' := [(5, vI z134_214), (0, vR 73), (1, vI x), (2, vI y), (3, vI q), (4, vI f)]) (by decide) rfl dX12_jump_137 ?_
                refine TT_aload_n hK rfl 1 rfl dX12_jump_139 ?_
                refine TT_bipush hK (by decide) dX12_jump_140 ?_
                refine TT_iload hK 5 rfl dX12_jump_142 ?_
                refine TT_iconst hK dX12_jump_144 ?_
                refine TT_iremn hK (irm (by omega) (by omega)) (by decide) (by first | omega | (simp [up, setR] <;> omega)) (by first | omega | (simp [up, setR] <;> omega)) dX12_jump_145 ?_
                have e215_74 : g134_214 74 = h 74 := ((hG_214.1 74 (by decide))).trans (((hG_206.1 74 (by decide))).trans (hF29_152.1 74 (by decide)))
                have e216_75 : g134_214 75 = h 75 := ((hG_214.1 75 (by decide))).trans (((hG_206.1 75 (by decide))).trans (hF29_152.1 75 (by decide)))
                have e217_73_32 : g134_214 73 32 = (g134_214 73) 32 := rfl
                have e218_73_29 : g134_214 73 29 = (h 73) 29 := ((hG_214.2 29 (by decide))).trans (((hG_206.2 29 (by decide))).trans (hF29_152.2 29 (by decide)))
                have e219_73_34 : g134_214 73 34 = (g134_214 73) 34 := rfl
                have e220_73_36 : g134_214 73 36 = (g134_214 73) 36 := rfl
                refine iv_X12_258 hK (s_X12_code_73 18 (f % 2) g134_214 hT_214 (by first | omega | (simp [up, setR] <;> omega)) (by first | omega | (simp [up, setR] <;> omega)) (by rewrite [e215_74, e216_75]; first | assumption | exact htb) (by rewrite [e217_73_32]; first | omega | (simp [up, setR] <;> omega)) (by rewrite [e218_73_29, e219_73_34, e220_73_36]; first | omega | (simp [up, setR] <;> omega))) (by decide) rfl ⟨by decide, by decide⟩ (by decide) rfl rfl (Nat.le_of_ble_eq_true rfl) ⟨by decide, by decide⟩ dX12_jump_146 ?_
                intro r9 g146_221 hp9
                obtain ⟨⟨hT_221, hG_221⟩, z146_221, hr9, hz_221, pa_221, pm_221⟩ := hp9
                rw [hr9]
                have hF_221 : FRM [73, 84, 85, 93, 96, 97, 98] [28, 32, 33, 34, 36, 39] h g146_221 := FRM_tr hF_214 hG_221 (by decide) (by decide)
                rw [show g134_214 73 29 = (h 73) 29 from ((hG_214.2 29 (by decide))).trans (((hG_206.2 29 (by decide))).trans (hF29_152.2 29 (by decide)))] at pm_221
                rw [show g134_214 73 34 = (g134_214 73) 34 from rfl] at pm_221
                rw [show g134_214 73 36 = (g134_214 73) 36 from rfl] at pm_221
                show TT K ly 0 0 149 [(5, vI z134_214), (0, vR 73), (1, vI x), (2, vI y), (3, vI q), (4, vI f)] [vI z146_221] g146_221
                refine TT_istore hK (lv' := [(6, vI z146_221), (5, vI z134_214), (0, vR 73), (1, vI x), (2, vI y), (3, vI q), (4, vI f)]) (by decide) rfl dX12_jump_149 ?_
                refine TT_aload_n hK rfl 2 rfl dX12_jump_151 ?_
                refine TT_iload_n hK rfl 3 rfl dX12_jump_152 ?_
                refine TT_iload_n hK rfl 4 rfl dX12_jump_153 ?_
                refine TT_iconst hK dX12_jump_154 ?_
                refine TT_iload hK 1 rfl dX12_jump_155 ?_
                refine TT_imul hK dX12_jump_157 ?_
                refine TT_iadd hK dX12_jump_158 ?_
                refine TT_iload hK 0 rfl dX12_jump_159 ?_
                refine TT_iadd hK dX12_jump_161 ?_
                have e222_74 : g146_221 74 = h 74 := ((hG_221.1 74 (by decide))).trans (((hG_214.1 74 (by decide))).trans (((hG_206.1 74 (by decide))).trans (hF29_152.1 74 (by decide))))
                have e223_75 : g146_221 75 = h 75 := ((hG_221.1 75 (by decide))).trans (((hG_214.1 75 (by decide))).trans (((hG_206.1 75 (by decide))).trans (hF29_152.1 75 (by decide))))
                have e224_73_32 : g146_221 73 32 = (g146_221 73) 32 := rfl
                have e225_73_29 : g146_221 73 29 = (h 73) 29 := ((hG_221.2 29 (by decide))).trans (((hG_214.2 29 (by decide))).trans (((hG_206.2 29 (by decide))).trans (hF29_152.2 29 (by decide))))
                have e226_73_34 : g146_221 73 34 = (g146_221 73) 34 := rfl
                have e227_73_36 : g146_221 73 36 = (g146_221 73) 36 := rfl
                have e228_73_26 : g146_221 73 26 = (h 73) 26 := ((hG_221.2 26 (by decide))).trans (((hG_214.2 26 (by decide))).trans (((hG_206.2 26 (by decide))).trans (hF29_152.2 26 (by decide))))
                have e229_73_29 : g146_221 73 29 = (h 73) 29 := ((hG_221.2 29 (by decide))).trans (((hG_214.2 29 (by decide))).trans (((hG_206.2 29 (by decide))).trans (hF29_152.2 29 (by decide))))
                refine iv_X12_267 hK (s_wake_k x ((y + (2 * z134_214)) + z146_221) g146_221 hT_221 (by first | omega | (simp [up, setR] <;> omega)) (by first | omega | (simp [up, setR] <;> omega)) (by rewrite [e222_74, e223_75]; first | assumption | exact htb) (by rewrite [e224_73_32]; first | omega | (simp [up, setR] <;> omega)) (by rewrite [e225_73_29, e226_73_34, e227_73_36]; first | omega | (simp [up, setR] <;> omega)) (by rewrite [e228_73_26, e229_73_29]; first | omega | (simp [up, setR] <;> omega))) (by decide) rfl ⟨by decide, by decide⟩ (by decide) rfl rfl (Nat.le_of_ble_eq_true rfl) ⟨by decide, by decide⟩ dX12_jump_162 ?_
                intro r9 g162_230 hp9
                obtain ⟨⟨hT_230, hG_230⟩, hr9, pa_230, pm_230, pz_230, pk_230⟩ := hp9
                rw [hr9]
                have hF_230 : FRM [73, 84, 85, 93, 96, 97, 98] [28, 32, 33, 34, 36, 39] h g162_230 := FRM_tr hF_221 hG_230 (by decide) (by decide)
                rw [show g146_221 73 29 = (h 73) 29 from ((hG_221.2 29 (by decide))).trans (((hG_214.2 29 (by decide))).trans (((hG_206.2 29 (by decide))).trans (hF29_152.2 29 (by decide))))] at pm_230
                rw [show g146_221 73 34 = (g146_221 73) 34 from rfl] at pm_230
                rw [show g146_221 73 36 = (g146_221 73) 36 from rfl] at pm_230
                rw [show g146_221 93 = w29_152 93 from ((hG_221.1 93 (by decide))).trans (((hG_214.1 93 (by decide))).trans (hG_206.1 93 (by decide)))] at pz_230
                rw [show g146_221 84 = w29_152 84 from ((hG_221.1 84 (by decide))).trans (((hG_214.1 84 (by decide))).trans (hG_206.1 84 (by decide)))] at pk_230
                rw [show g146_221 85 = w29_152 85 from ((hG_221.1 85 (by decide))).trans (((hG_214.1 85 (by decide))).trans (hG_206.1 85 (by decide)))] at pk_230
                have pz_at162 := pz_230
                have pk_at162 := pk_230
                show TT K ly 0 0 165 [(6, vI z146_221), (5, vI z134_214), (0, vR 73), (1, vI x), (2, vI y), (3, vI q), (4, vI f)] [] g162_230
                refine TT_iconst hK dX12_jump_165 ?_
                refine TT_iload hK 1 rfl dX12_jump_166 ?_
                refine TT_imul hK dX12_jump_168 ?_
                refine TT_iload hK 0 rfl dX12_jump_169 ?_
                refine TT_iadd hK dX12_jump_171 ?_
                refine TT_iconst hK dX12_jump_172 ?_
                refine TT_iadd hK dX12_jump_173 ?_
                refine TT_iret hK hQ ?_ dX12_jump_174
                have e231_73_32 : g162_230 73 32 = (g162_230 73) 32 := rfl
                have e232_73_34 : g162_230 73 34 = (g162_230 73) 34 := rfl
                have e233_73_36 : g162_230 73 36 = (g162_230 73) 36 := rfl
                have e234_73_34 : g162_230 73 34 = (g162_230 73) 34 := rfl
                have e235_73_36 : g162_230 73 36 = (g162_230 73) 36 := rfl
                exact ⟨⟨hT_230, hF_230⟩, (((2 * z134_214) + z146_221) + 1), rfl, (by omega), (by rewrite [e231_73_32]; omega), (by rewrite [e232_73_34, e233_73_36]; omega), (by omega), (by rewrite [e234_73_34, e235_73_36]; intro w h1 h2 h5; first | omega | (rw [k93]; omega) | (have k8 := pz_at162 w (h 81 (h 73 26)) h1 h2 (by omega) (by omega) (hz9 (by omega) _ (by omega) (by omega)); rw [k93] at k8; omega)), (by first | (intro j hj; have k1 := pk_at162 j hj; have k2 := pki j hj; exact ⟨k1.1.trans k2.1, k1.2.trans k2.2⟩) | exact pki | (intro j hj; exact ⟨rfl, rfl⟩))⟩
              · refine TT_iconst hK dX12_jump_123 ?_
                refine TT_iret hK hQ ?_ dX12_jump_124
                have e236_73_32 : g117_206 73 32 = (g117_206 73) 32 := rfl
                have e237_73_34 : g117_206 73 34 = (g117_206 73) 34 := rfl
                have e238_73_36 : g117_206 73 36 = (g117_206 73) 36 := rfl
                have e239_73_34 : g117_206 73 34 = (g117_206 73) 34 := rfl
                have e240_73_36 : g117_206 73 36 = (g117_206 73) 36 := rfl
                have e241_93 : g117_206 93 = w29_152 93 := (hG_206.1 93 (by decide))
                have e242_84 : g117_206 84 = w29_152 84 := (hG_206.1 84 (by decide))
                have e243_85 : g117_206 85 = w29_152 85 := (hG_206.1 85 (by decide))
                exact ⟨⟨hT_206, hF_206⟩, 4, rfl, (by omega), (by rewrite [e236_73_32]; omega), (by rewrite [e237_73_34, e238_73_36]; omega), (by omega), (by rewrite [e239_73_34, e240_73_36, e241_93]; intro w h1 h2 h5; first | omega | (rw [k93]; omega) | (have k8 := pz_at162 w (h 81 (h 73 26)) h1 h2 (by omega) (by omega) (hz9 (by omega) _ (by omega) (by omega)); rw [k93] at k8; omega)), (by rewrite [e242_84, e243_85]; first | (intro j hj; have k1 := pk_at162 j hj; have k2 := pki j hj; exact ⟨k1.1.trans k2.1, k1.2.trans k2.2⟩) | exact pki | (intro j hj; exact ⟨rfl, rfl⟩))⟩
          · refine TT_iconst hK dX12_jump_101 ?_
            refine TT_iret hK hQ ?_ dX12_jump_102
            have e244_73_32 : w29_152 73 32 = (w29_152 73) 32 := rfl
            have e245_73_34 : w29_152 73 34 = (w29_152 73) 34 := rfl
            have e246_73_36 : w29_152 73 36 = (w29_152 73) 36 := rfl
            have e247_73_34 : w29_152 73 34 = (w29_152 73) 34 := rfl
            have e248_73_36 : w29_152 73 36 = (w29_152 73) 36 := rfl
            exact ⟨⟨hT29_152, hF29_152⟩, 0, rfl, (by omega), (by rewrite [e244_73_32]; omega), (by rewrite [e245_73_34, e246_73_36]; omega), (by omega), (by rewrite [e247_73_34, e248_73_36]; intro w h1 h2 h5; first | omega | (rw [k93]; omega) | (have k8 := pz_at162 w (h 81 (h 73 26)) h1 h2 (by omega) (by omega) (hz9 (by omega) _ (by omega) (by omega)); rw [k93] at k8; omega)), (by first | (intro j hj; have k1 := pk_at162 j hj; have k2 := pki j hj; exact ⟨k1.1.trans k2.1, k1.2.trans k2.2⟩) | exact pki | (intro j hj; exact ⟨rfl, rfl⟩))⟩
        · refine TT_iload_n hK rfl 3 rfl dX12_jump_35 ?_
          refine TT_if_eq hK (tgt := 97) (irm (by omega) (by omega)) dX12_jump_36 (by decide) (fun hb36_249 => ?_) (fun hb36_249 => ?_)
          · refine TT_iload_n hK rfl 3 rfl dX12_jump_97 ?_
            refine TT_if_ne hK (tgt := 103) (irm (by omega) (by omega)) dX12_jump_98 (by decide) (fun hb98_250 => ?_) (fun hb98_250 => ?_)
            · exfalso; omega
            · refine TT_iconst hK dX12_jump_101 ?_
              refine TT_iret hK hQ ?_ dX12_jump_102
              have e251_73_32 : w29_152 73 32 = (w29_152 73) 32 := rfl
              have e252_73_34 : w29_152 73 34 = (w29_152 73) 34 := rfl
              have e253_73_36 : w29_152 73 36 = (w29_152 73) 36 := rfl
              have e254_73_34 : w29_152 73 34 = (w29_152 73) 34 := rfl
              have e255_73_36 : w29_152 73 36 = (w29_152 73) 36 := rfl
              exact ⟨⟨hT29_152, hF29_152⟩, 0, rfl, (by omega), (by rewrite [e251_73_32]; omega), (by rewrite [e252_73_34, e253_73_36]; omega), (by omega), (by rewrite [e254_73_34, e255_73_36]; intro w h1 h2 h5; first | omega | (rw [k93]; omega) | (have k8 := pz_at162 w (h 81 (h 73 26)) h1 h2 (by omega) (by omega) (hz9 (by omega) _ (by omega) (by omega)); rw [k93] at k8; omega)), (by first | (intro j hj; have k1 := pk_at162 j hj; have k2 := pki j hj; exact ⟨k1.1.trans k2.1, k1.2.trans k2.2⟩) | exact pki | (intro j hj; exact ⟨rfl, rfl⟩))⟩
          · refine TT_aload_n hK rfl 0 rfl dX12_jump_39 ?_
            refine TT_iload_n hK rfl 1 rfl dX12_jump_40 ?_
            refine TT_iload hK 5 rfl dX12_jump_41 ?_
            refine iv_X12_271 hK (s_X12_isUntouched_73 x r w29_152 hT29_152 (by first | omega | (simp [up, setR] <;> omega)) (by first | omega | (simp [up, setR] <;> omega))) (by decide) rfl ⟨by decide, by decide⟩ (by decide) rfl rfl (Nat.le_of_ble_eq_true rfl) ⟨by decide, by decide⟩ dX12_jump_43 ?_
            intro r9 g43_256 hp9
            obtain ⟨⟨hT_256, hG_256⟩, z43_256, hr9, hz_256, p1_256⟩ := hp9
            rw [hr9]
            have hF_256 : FRM [73, 84, 85, 93, 96, 97, 98] [28, 32, 33, 34, 36, 39] h g43_256 := FRM_tr hF29_152 hG_256 (by decide) (by decide)
            show TT K ly 0 0 46 [(0, vR 73), (1, vI x), (2, vI y), (3, vI q), (4, vI f), (5, vI r)] [vI z43_256] g43_256
            refine TT_if_eq hK (tgt := 63) (irm (by omega) (by omega)) dX12_jump_46 (by decide) (fun hb46_257 => ?_) (fun hb46_257 => ?_)
            · refine TT_iconst hK dX12_jump_63 ?_
              refine TT_istore_n hK rfl (lv' := [(3, vI 0), (0, vR 73), (1, vI x), (2, vI y), (4, vI f), (5, vI r)]) (by decide) rfl dX12_jump_64 ?_
              refine TT_iload_n hK rfl 0 rfl dX12_jump_65 ?_
              refine TT_if_eq hK (tgt := 87) (by decide) dX12_jump_66 (by decide) (fun hb66_258 => ?_) (fun hb66_258 => ?_)
              · refine TT_iload hK 4 rfl dX12_jump_87 ?_
                refine TT_istore hK (lv' := [(4, vI f), (3, vI 0), (0, vR 73), (1, vI x), (2, vI y), (5, vI r)]) (by decide) rfl dX12_jump_89 ?_
                refine TT_iinc hK (v := r - 1) (lv' := [(5, vI (r - 1)), (4, vI f), (3, vI 0), (0, vR 73), (1, vI x), (2, vI y)]) 5 rfl (by omega) (by decide) rfl dX12_jump_91 ?_
                refine TT_goto hK (tgt := 29) dX12_jump_94 (by decide) ?_
                refine TT_sub [3, 4, 5, 2, 1, 0] rfl ?_
                have e259_93 : g43_256 93 = w29_152 93 := (hG_256.1 93 (by decide))
                have e260_93 : g43_256 93 = w29_152 93 := (hG_256.1 93 (by decide))
                have e261_96 : g43_256 96 = w29_152 96 := (hG_256.1 96 (by decide))
                have e262_73_34 : g43_256 73 34 = (w29_152 73) 34 := congrFun (hG_256.1 73 (by decide)) 34
                have e263_73_36 : g43_256 73 36 = (w29_152 73) 36 := congrFun (hG_256.1 73 (by decide)) 36
                have e264_73_32 : g43_256 73 32 = (w29_152 73) 32 := congrFun (hG_256.1 73 (by decide)) 32
                have e265_84 : g43_256 84 = w29_152 84 := (hG_256.1 84 (by decide))
                have e266_85 : g43_256 85 = w29_152 85 := (hG_256.1 85 (by decide))
                exact ih152 0 f (r - 1) g43_256 hT_256 hF_256 (by first | omega | (simp [up, setR] <;> omega)) (by first | omega | (simp [up, setR] <;> omega)) (by first | omega | (simp [up, setR] <;> omega)) (by first | omega | (simp [up, setR] <;> omega)) (by rewrite [e259_93]; intro h0 j h1 h2; first | omega | (by_cases e : j = r; (subst e; omega); exact hz9 (by omega) j (by omega) h2)) (by rewrite [e260_93]; first | assumption | rfl) (by rewrite [e261_96]; first | omega | (simp [up, setR] <;> omega)) (by rewrite [e262_73_34]; first | omega | (simp [up, setR] <;> omega)) (by rewrite [e263_73_36]; first | omega | (simp [up, setR] <;> omega)) (by rewrite [e264_73_32]; first | omega | (simp [up, setR] <;> omega)) (by rewrite [e265_84, e266_85]; first | exact pki) (by first | omega | (simp [up, setR] <;> omega))
              · exact absurd hb66_258 (by decide)
            · refine TT_aload_n hK rfl 0 rfl dX12_jump_49 ?_
              refine TT_iload_n hK rfl 1 rfl dX12_jump_50 ?_
              refine TT_iload hK 5 rfl dX12_jump_51 ?_
              refine iv_X12_261 hK (s_X12_context_73 x r g43_256 hT_256 (by first | omega | (simp [up, setR] <;> omega)) (by first | omega | (simp [up, setR] <;> omega))) (by decide) rfl ⟨by decide, by decide⟩ (by decide) rfl rfl (Nat.le_of_ble_eq_true rfl) ⟨by decide, by decide⟩ dX12_jump_53 ?_
              intro r9 g53_267 hp9
              obtain ⟨⟨hT_267, hG_267⟩, z53_267, hr9, hz_267⟩ := hp9
              rw [hr9]
              have hF_267 : FRM [73, 84, 85, 93, 96, 97, 98] [28, 32, 33, 34, 36, 39] h g53_267 := FRM_tr hF_256 hG_267 (by decide) (by decide)
              show TT K ly 0 0 56 [(0, vR 73), (1, vI x), (2, vI y), (3, vI q), (4, vI f), (5, vI r)] [vI z53_267] g53_267
              refine TT_if_ne hK (tgt := 63) (irm (by omega) (by omega)) dX12_jump_56 (by decide) (fun hb56_268 => ?_) (fun hb56_268 => ?_)
              · refine TT_iconst hK dX12_jump_63 ?_
                refine TT_istore_n hK rfl (lv' := [(3, vI 0), (0, vR 73), (1, vI x), (2, vI y), (4, vI f), (5, vI r)]) (by decide) rfl dX12_jump_64 ?_
                refine TT_iload_n hK rfl 0 rfl dX12_jump_65 ?_
                refine TT_if_eq hK (tgt := 87) (by decide) dX12_jump_66 (by decide) (fun hb66_269 => ?_) (fun hb66_269 => ?_)
                · refine TT_iload hK 4 rfl dX12_jump_87 ?_
                  refine TT_istore hK (lv' := [(4, vI f), (3, vI 0), (0, vR 73), (1, vI x), (2, vI y), (5, vI r)]) (by decide) rfl dX12_jump_89 ?_
                  refine TT_iinc hK (v := r - 1) (lv' := [(5, vI (r - 1)), (4, vI f), (3, vI 0), (0, vR 73), (1, vI x), (2, vI y)]) 5 rfl (by omega) (by decide) rfl dX12_jump_91 ?_
                  refine TT_goto hK (tgt := 29) dX12_jump_94 (by decide) ?_
                  refine TT_sub [3, 4, 5, 2, 1, 0] rfl ?_
                  have e270_93 : g53_267 93 = w29_152 93 := ((hG_267.1 93 (by decide))).trans (hG_256.1 93 (by decide))
                  have e271_93 : g53_267 93 = w29_152 93 := ((hG_267.1 93 (by decide))).trans (hG_256.1 93 (by decide))
                  have e272_96 : g53_267 96 = w29_152 96 := ((hG_267.1 96 (by decide))).trans (hG_256.1 96 (by decide))
                  have e273_73_34 : g53_267 73 34 = (w29_152 73) 34 := (congrFun (hG_267.1 73 (by decide)) 34).trans (congrFun (hG_256.1 73 (by decide)) 34)
                  have e274_73_36 : g53_267 73 36 = (w29_152 73) 36 := (congrFun (hG_267.1 73 (by decide)) 36).trans (congrFun (hG_256.1 73 (by decide)) 36)
                  have e275_73_32 : g53_267 73 32 = (w29_152 73) 32 := (congrFun (hG_267.1 73 (by decide)) 32).trans (congrFun (hG_256.1 73 (by decide)) 32)
                  have e276_84 : g53_267 84 = w29_152 84 := ((hG_267.1 84 (by decide))).trans (hG_256.1 84 (by decide))
                  have e277_85 : g53_267 85 = w29_152 85 := ((hG_267.1 85 (by decide))).trans (hG_256.1 85 (by decide))
                  exact ih152 0 f (r - 1) g53_267 hT_267 hF_267 (by first | omega | (simp [up, setR] <;> omega)) (by first | omega | (simp [up, setR] <;> omega)) (by first | omega | (simp [up, setR] <;> omega)) (by first | omega | (simp [up, setR] <;> omega)) (by rewrite [e270_93]; intro h0 j h1 h2; first | omega | (by_cases e : j = r; (subst e; omega); exact hz9 (by omega) j (by omega) h2)) (by rewrite [e271_93]; first | assumption | rfl) (by rewrite [e272_96]; first | omega | (simp [up, setR] <;> omega)) (by rewrite [e273_73_34]; first | omega | (simp [up, setR] <;> omega)) (by rewrite [e274_73_36]; first | omega | (simp [up, setR] <;> omega)) (by rewrite [e275_73_32]; first | omega | (simp [up, setR] <;> omega)) (by rewrite [e276_84, e277_85]; first | exact pki) (by first | omega | (simp [up, setR] <;> omega))
                · exact absurd hb66_269 (by decide)
              · refine TT_iconst hK dX12_jump_59 ?_
                refine TT_goto hK (tgt := 64) dX12_jump_60 (by decide) ?_
                refine TT_istore_n hK rfl (lv' := [(3, vI 1), (0, vR 73), (1, vI x), (2, vI y), (4, vI f), (5, vI r)]) (by decide) rfl dX12_jump_64 ?_
                refine TT_iload_n hK rfl 0 rfl dX12_jump_65 ?_
                refine TT_if_eq hK (tgt := 87) (by decide) dX12_jump_66 (by decide) (fun hb66_278 => ?_) (fun hb66_278 => ?_)
                · exact absurd hb66_278 (by decide)
                · refine TT_aload_n hK rfl 1 rfl dX12_jump_69 ?_
                  refine TT_iload_n hK rfl 2 rfl dX12_jump_70 ?_
                  refine TT_iload hK 5 rfl dX12_jump_71 ?_
                  refine iv_X12_264 hK (s_X12_bitAt_73 x r g53_267 hT_267 (by first | omega | (simp [up, setR] <;> omega)) (by first | omega | (simp [up, setR] <;> omega))) (by decide) rfl ⟨by decide, by decide⟩ (by decide) rfl rfl (Nat.le_of_ble_eq_true rfl) ⟨by decide, by decide⟩ dX12_jump_73 ?_
                  intro r9 g73_279 hp9
                  obtain ⟨⟨hT_279, hG_279⟩, z73_279, hr9, hz_279⟩ := hp9
                  rw [hr9]
                  have hF_279 : FRM [73, 84, 85, 93, 96, 97, 98] [28, 32, 33, 34, 36, 39] h g73_279 := FRM_tr hF_267 hG_279 (by decide) (by decide)
                  show TT K ly 0 0 76 [(3, vI 1), (0, vR 73), (1, vI x), (2, vI y), (4, vI f), (5, vI r)] [vI z73_279] g73_279
                  refine TT_iconst hK dX12_jump_76 ?_
                  refine TT_icmp_ne hK (tgt := 87) (irm (by omega) (by omega)) (by decide) dX12_jump_77 (by decide) (fun hb77_280 => ?_) (fun hb77_280 => ?_)
                  · refine TT_iload hK 4 rfl dX12_jump_87 ?_
                    refine TT_istore hK (lv' := [(4, vI f), (3, vI 1), (0, vR 73), (1, vI x), (2, vI y), (5, vI r)]) (by decide) rfl dX12_jump_89 ?_
                    refine TT_iinc hK (v := r - 1) (lv' := [(5, vI (r - 1)), (4, vI f), (3, vI 1), (0, vR 73), (1, vI x), (2, vI y)]) 5 rfl (by omega) (by decide) rfl dX12_jump_91 ?_
                    refine TT_goto hK (tgt := 29) dX12_jump_94 (by decide) ?_
                    refine TT_sub [3, 4, 5, 2, 1, 0] rfl ?_
                    have e281_93 : g73_279 93 = w29_152 93 := ((hG_279.1 93 (by decide))).trans (((hG_267.1 93 (by decide))).trans (hG_256.1 93 (by decide)))
                    have e282_93 : g73_279 93 = w29_152 93 := ((hG_279.1 93 (by decide))).trans (((hG_267.1 93 (by decide))).trans (hG_256.1 93 (by decide)))
                    have e283_96 : g73_279 96 = w29_152 96 := ((hG_279.1 96 (by decide))).trans (((hG_267.1 96 (by decide))).trans (hG_256.1 96 (by decide)))
                    have e284_73_34 : g73_279 73 34 = (w29_152 73) 34 := (congrFun (hG_279.1 73 (by decide)) 34).trans ((congrFun (hG_267.1 73 (by decide)) 34).trans (congrFun (hG_256.1 73 (by decide)) 34))
                    have e285_73_36 : g73_279 73 36 = (w29_152 73) 36 := (congrFun (hG_279.1 73 (by decide)) 36).trans ((congrFun (hG_267.1 73 (by decide)) 36).trans (congrFun (hG_256.1 73 (by decide)) 36))
                    have e286_73_32 : g73_279 73 32 = (w29_152 73) 32 := (congrFun (hG_279.1 73 (by decide)) 32).trans ((congrFun (hG_267.1 73 (by decide)) 32).trans (congrFun (hG_256.1 73 (by decide)) 32))
                    have e287_84 : g73_279 84 = w29_152 84 := ((hG_279.1 84 (by decide))).trans (((hG_267.1 84 (by decide))).trans (hG_256.1 84 (by decide)))
                    have e288_85 : g73_279 85 = w29_152 85 := ((hG_279.1 85 (by decide))).trans (((hG_267.1 85 (by decide))).trans (hG_256.1 85 (by decide)))
                    exact ih152 1 f (r - 1) g73_279 hT_279 hF_279 (by first | omega | (simp [up, setR] <;> omega)) (by first | omega | (simp [up, setR] <;> omega)) (by first | omega | (simp [up, setR] <;> omega)) (by first | omega | (simp [up, setR] <;> omega)) (by rewrite [e281_93]; intro h0 j h1 h2; first | omega | (by_cases e : j = r; (subst e; omega); exact hz9 (by omega) j (by omega) h2)) (by rewrite [e282_93]; first | assumption | rfl) (by rewrite [e283_96]; first | omega | (simp [up, setR] <;> omega)) (by rewrite [e284_73_34]; first | omega | (simp [up, setR] <;> omega)) (by rewrite [e285_73_36]; first | omega | (simp [up, setR] <;> omega)) (by rewrite [e286_73_32]; first | omega | (simp [up, setR] <;> omega)) (by rewrite [e287_84, e288_85]; first | exact pki) (by first | omega | (simp [up, setR] <;> omega))
                  · refine TT_iload hK 5 rfl dX12_jump_80 ?_
                    refine TT_iload_n hK rfl 3 rfl dX12_jump_82 ?_
                    refine TT_isub hK dX12_jump_83 ?_
                    refine TT_goto hK (tgt := 89) dX12_jump_84 (by decide) ?_
                    refine TT_istore hK (lv' := [(4, vI (r - y)), (3, vI 1), (0, vR 73), (1, vI x), (2, vI y), (5, vI r)]) (by decide) rfl dX12_jump_89 ?_
                    refine TT_iinc hK (v := r - 1) (lv' := [(5, vI (r - 1)), (4, vI (r - y)), (3, vI 1), (0, vR 73), (1, vI x), (2, vI y)]) 5 rfl (by omega) (by decide) rfl dX12_jump_91 ?_
                    refine TT_goto hK (tgt := 29) dX12_jump_94 (by decide) ?_
                    refine TT_sub [3, 4, 5, 2, 1, 0] rfl ?_
                    have e289_93 : g73_279 93 = w29_152 93 := ((hG_279.1 93 (by decide))).trans (((hG_267.1 93 (by decide))).trans (hG_256.1 93 (by decide)))
                    have e290_93 : g73_279 93 = w29_152 93 := ((hG_279.1 93 (by decide))).trans (((hG_267.1 93 (by decide))).trans (hG_256.1 93 (by decide)))
                    have e291_96 : g73_279 96 = w29_152 96 := ((hG_279.1 96 (by decide))).trans (((hG_267.1 96 (by decide))).trans (hG_256.1 96 (by decide)))
                    have e292_73_34 : g73_279 73 34 = (w29_152 73) 34 := (congrFun (hG_279.1 73 (by decide)) 34).trans ((congrFun (hG_267.1 73 (by decide)) 34).trans (congrFun (hG_256.1 73 (by decide)) 34))
                    have e293_73_36 : g73_279 73 36 = (w29_152 73) 36 := (congrFun (hG_279.1 73 (by decide)) 36).trans ((congrFun (hG_267.1 73 (by decide)) 36).trans (congrFun (hG_256.1 73 (by decide)) 36))
                    have e294_73_32 : g73_279 73 32 = (w29_152 73) 32 := (congrFun (hG_279.1 73 (by decide)) 32).trans ((congrFun (hG_267.1 73 (by decide)) 32).trans (congrFun (hG_256.1 73 (by decide)) 32))
                    have e295_84 : g73_279 84 = w29_152 84 := ((hG_279.1 84 (by decide))).trans (((hG_267.1 84 (by decide))).trans (hG_256.1 84 (by decide)))
                    have e296_85 : g73_279 85 = w29_152 85 := ((hG_279.1 85 (by decide))).trans (((hG_267.1 85 (by decide))).trans (hG_256.1 85 (by decide)))
                    exact ih152 1 (r - y) (r - 1) g73_279 hT_279 hF_279 (by first | omega | (simp [up, setR] <;> omega)) (by first | omega | (simp [up, setR] <;> omega)) (by first | omega | (simp [up, setR] <;> omega)) (by first | omega | (simp [up, setR] <;> omega)) (by rewrite [e289_93]; intro h0 j h1 h2; first | omega | (by_cases e : j = r; (subst e; omega); exact hz9 (by omega) j (by omega) h2)) (by rewrite [e290_93]; first | assumption | rfl) (by rewrite [e291_96]; first | omega | (simp [up, setR] <;> omega)) (by rewrite [e292_73_34]; first | omega | (simp [up, setR] <;> omega)) (by rewrite [e293_73_36]; first | omega | (simp [up, setR] <;> omega)) (by rewrite [e294_73_32]; first | omega | (simp [up, setR] <;> omega)) (by rewrite [e295_84, e296_85]; first | exact pki) (by first | omega | (simp [up, setR] <;> omega))
    refine TT_sub [3, 4, 5, 2, 1, 0] rfl ?_
    have e297_73_34 : h 73 34 = (h 73) 34 := rfl
    have e298_73_36 : h 73 36 = (h 73) 36 := rfl
    have e299_73_32 : h 73 32 = (h 73) 32 := rfl
    exact L29_152 ((((y + 3) - y + 1).toNat) + 1) 1 4 (y + 3) h hT hF (by first | omega | (simp [up, setR] <;> omega)) (by first | omega | (simp [up, setR] <;> omega)) (by first | omega | (simp [up, setR] <;> omega)) (by first | omega | (simp [up, setR] <;> omega)) (by intro _ j h1 h2; omega) (by rfl) (by first | omega | (simp [up, setR] <;> omega)) (by rewrite [e297_73_34]; first | omega | (simp [up, setR] <;> omega)) (by rewrite [e298_73_36]; first | omega | (simp [up, setR] <;> omega)) (by rewrite [e299_73_32]; first | omega | (simp [up, setR] <;> omega)) (by (intro j hj; exact ⟨rfl, rfl⟩)) (Nat.lt_succ_self _)

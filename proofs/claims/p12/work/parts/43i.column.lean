set_option maxRecDepth 20000 in
theorem s_X12_column_73 (q x y : Int) (h : Hp_) (hT : TY h) (hq : 0 ≤ q ∧ q ≤ 2) (hx : 0 ≤ x ∧ x ≤ 7) (hy : y = 0 ∨ y = 4) (hxw : x < ((h 80) (h 73 26))) (hye : y < ((h 81) (h 73 26))) (hw8 : ((h 80) (h 73 26)) ≤ 8) (he8 : ((h 81) (h 73 26)) ≤ 8) (htb : TBL (h 74) (h 75)) (ha : 32768 ≤ (h 73 32) ∧ (h 73 32) < 65536) (hm : (h 73 29) = 0 → 1 ≤ (h 73 34) ∧ 1 ≤ (h 73 36) ∧ 7 * (h 73 36) - (h 73 34) + PhS (h 96) + 27 * ZC ((h 80) (h 73 26)) ((h 81) (h 73 26)) (h 93) + 108 ≤ 22300) (hw1 : (h 73 29) = 1 → 10 ≤ (h 73 26)) : Ctr yX12_column cX12_column 5 none (rmd 7) ly ly 0 0 [vR 73, vI q, vI x, vI y] h (fun r h' => (TY h' ∧ FRM [73, 84, 85, 93, 94, 95, 96, 97, 98] [28, 32, 33, 34, 36, 39] h h') ∧ r = none ∧ (32768 ≤ (h' 73 32) ∧ (h' 73 32) < 65536) ∧ ((h 73 29) = 0 → 1 ≤ (h' 73 34) ∧ 1 ≤ (h' 73 36) ∧ 7 * (h' 73 36) - (h' 73 34) + PhS (h' 96) + 27 * ZC ((h 80) (h 73 26)) ((h 81) (h 73 26)) (h' 93) ≤ 7 * (h 73 36) - (h 73 34) + PhS (h 96) + 27 * ZC ((h 80) (h 73 26)) ((h 81) (h 73 26)) (h 93) + 9 * min 4 (((h 81) (h 73 26)) - y))) := by
  refine Ctr_of (by decide) (Nat.le_of_ble_eq_true rfl) ⟨Nat.le_refl _, Nat.le_refl _⟩ (fun K hK hQ _ => ?_)
  show TT K ly 0 0 0 [(0, vR 73), (1, vI q), (2, vI x), (3, vI y)] [] h
  have hF : FRM [73, 84, 85, 93, 94, 95, 96, 97, 98] [28, 32, 33, 34, 36, 39] h h := FRM_rf _ _ _
  have zn := ZC_nn (h 80 (h 73 26)) (h 81 (h 73 26)) (h 93)
  refine TT_iload_n hK rfl 1 rfl dX12_column_0 ?_
  refine TT_iconst hK dX12_column_1 ?_
  refine TT_icmp_ne hK (tgt := 12) (irm (by omega) (by omega)) (by decide) dX12_column_2 (by decide) (fun hb2_1 => ?_) (fun hb2_1 => ?_)
  · refine TT_iload_n hK rfl 3 rfl dX12_column_12 ?_
    refine TT_istore hK (lv' := [(4, vI y), (0, vR 73), (1, vI q), (2, vI x), (3, vI y)]) (by decide) rfl dX12_column_13 ?_
    have L15_2 : ∀ (k2 : Nat) (i : Int) (w15_2 : Hp_), TY w15_2 → FRM [73, 84, 85, 93, 94, 95, 96, 97, 98] [28, 32, 33, 34, 36, 39] h w15_2 → (y ≤ i ∧ i ≤ y + 4 ∧ i ≤ (h 81 (h 73 26))) → (32768 ≤ (w15_2 73 32) ∧ (w15_2 73 32) < 65536) → (h 73 29 = 0 → 1 ≤ (w15_2 73 34) ∧ 1 ≤ (w15_2 73 36) ∧ 7 * (w15_2 73 36) - (w15_2 73 34) + PhS (w15_2 96) + 27 * ZC (h 80 (h 73 26)) (h 81 (h 73 26)) (w15_2 93) ≤ 7 * (h 73 36) - (h 73 34) + PhS (h 96) + 27 * ZC (h 80 (h 73 26)) (h 81 (h 73 26)) (h 93) + 9 * (i - y)) → (0 ≤ ZC (h 80 (h 73 26)) (h 81 (h 73 26)) (w15_2 93)) → (y + 4 - i).toNat < k2 → TT K ly 0 0 15 [(0, vR 73), (1, vI q), (2, vI x), (3, vI y), (4, vI i)] [] w15_2 := by
      intro k2
      induction k2 with
      | zero => intro i w15_2 hT15_2 hF15_2 hi ha1 hp1 hzn hk2; exact absurd hk2 (Nat.not_lt_zero _)
      | succ k2 ih2 =>
        intro i w15_2 hT15_2 hF15_2 hi ha1 hp1 hzn hk2
        refine TT_iload hK 4 rfl dX12_column_15 ?_
        refine TT_iload_n hK rfl 3 rfl dX12_column_17 ?_
        refine TT_iconst hK dX12_column_18 ?_
        refine TT_iadd hK dX12_column_19 ?_
        refine TT_icmp_ge hK (tgt := 64) (irm (by omega) (by omega)) (irm (by omega) (by omega)) dX12_column_20 (by decide) (fun hb20_3 => ?_) (fun hb20_3 => ?_)
        · refine TT_vret hK hQ ?_ dX12_column_64
          have e4_73_32 : w15_2 73 32 = (w15_2 73) 32 := rfl
          have e5_73_34 : w15_2 73 34 = (w15_2 73) 34 := rfl
          have e6_73_36 : w15_2 73 36 = (w15_2 73) 36 := rfl
          exact ⟨⟨hT15_2, hF15_2⟩, rfl, (by rewrite [e4_73_32]; omega), (by rewrite [e5_73_34, e6_73_36]; omega)⟩
        · refine TT_iload hK 4 rfl dX12_column_23 ?_
          refine TT_aload_n hK rfl 0 rfl dX12_column_25 ?_
          refine gf_X12_38 hK (by decide) rfl (q := 81) rfl rfl dX12_column_26 ?_
          refine TT_aload_n hK rfl 0 rfl dX12_column_29 ?_
          refine gf_X12_246 hK (by decide) rfl (v := (h 73) 26) (hF15_2.2 26 (by decide)) dX12_column_30 ?_
          have r7 := ty_73_26 (v := (h 73) 26) hT15_2 (hF15_2.2 26 (by decide))
          refine TT_iald hK (o := 81) (n := 20) (by decide) rfl (by first | omega | (simp [up, setR] <;> omega)) (by first | omega | (simp [up, setR] <;> omega)) (v := (h 81) ((h 73) 26)) (rd_ (hF15_2.1 81 (by decide)) rfl) dX12_column_33 ?_
          have r8 := ty_81 (i := (h 73) 26) (v := (h 81) ((h 73) 26)) hT15_2 (rd_ (hF15_2.1 81 (by decide)) rfl) (by omega) (by omega)
          refine TT_icmp_ge hK (tgt := 64) (irm (by omega) (by omega)) (irm (by omega) (by omega)) dX12_column_34 (by decide) (fun hb34_9 => ?_) (fun hb34_9 => ?_)
          · refine TT_vret hK hQ ?_ dX12_column_64
            have e10_73_32 : w15_2 73 32 = (w15_2 73) 32 := rfl
            have e11_73_34 : w15_2 73 34 = (w15_2 73) 34 := rfl
            have e12_73_36 : w15_2 73 36 = (w15_2 73) 36 := rfl
            exact ⟨⟨hT15_2, hF15_2⟩, rfl, (by rewrite [e10_73_32]; omega), (by rewrite [e11_73_34, e12_73_36]; omega)⟩
          · refine TT_iload_n hK rfl 1 rfl dX12_column_37 ?_
            refine TT_if_ne hK (tgt := 51) (irm (by omega) (by omega)) dX12_column_38 (by decide) (fun hb38_13 => ?_) (fun hb38_13 => ?_)
            · refine TT_aload_n hK rfl 0 rfl dX12_column_51 ?_
              refine TT_iload_n hK rfl 2 rfl dX12_column_52 ?_
              refine TT_iload hK 4 rfl dX12_column_53 ?_
              have e14_74 : w15_2 74 = h 74 := (hF15_2.1 74 (by decide))
              have e15_75 : w15_2 75 = h 75 := (hF15_2.1 75 (by decide))
              have e16_73_32 : w15_2 73 32 = (w15_2 73) 32 := rfl
              have e17_73_29 : w15_2 73 29 = (h 73) 29 := (hF15_2.2 29 (by decide))
              have e18_73_34 : w15_2 73 34 = (w15_2 73) 34 := rfl
              have e19_73_36 : w15_2 73 36 = (w15_2 73) 36 := rfl
              have e20_73_26 : w15_2 73 26 = (h 73) 26 := (hF15_2.2 26 (by decide))
              have e21_73_29 : w15_2 73 29 = (h 73) 29 := (hF15_2.2 29 (by decide))
              refine iv_X12_283 hK (s_X12_refine_73 x i w15_2 hT15_2 (by first | omega | (simp [up, setR] <;> omega)) (by first | omega | (simp [up, setR] <;> omega)) (by rewrite [e14_74, e15_75]; first | assumption | exact htb) (by rewrite [e16_73_32]; first | omega | (simp [up, setR] <;> omega)) (by rewrite [e17_73_29, e18_73_34, e19_73_36]; first | omega | (simp [up, setR] <;> omega)) (by rewrite [e20_73_26, e21_73_29]; first | omega | (simp [up, setR] <;> omega))) (by decide) rfl ⟨by decide, by decide⟩ (by decide) rfl rfl (Nat.le_of_ble_eq_true rfl) ⟨by decide, by decide⟩ dX12_column_55 ?_
              intro r9 g55_22 hp9
              obtain ⟨⟨hT_22, hG_22⟩, hr9, pa_22, pm_22⟩ := hp9
              rw [hr9]
              have hF_22 : FRM [73, 84, 85, 93, 94, 95, 96, 97, 98] [28, 32, 33, 34, 36, 39] h g55_22 := FRM_tr hF15_2 hG_22 (by decide) (by decide)
              rw [show w15_2 73 29 = (h 73) 29 from (hF15_2.2 29 (by decide))] at pm_22
              rw [show w15_2 73 34 = (w15_2 73) 34 from rfl] at pm_22
              rw [show w15_2 73 36 = (w15_2 73) 36 from rfl] at pm_22
              show TT K ly 0 0 58 [(0, vR 73), (1, vI q), (2, vI x), (3, vI y), (4, vI i)] [] g55_22
              refine TT_iinc hK (v := i + 1) (lv' := [(4, vI (i + 1)), (0, vR 73), (1, vI q), (2, vI x), (3, vI y)]) 4 rfl rfl (by decide) rfl dX12_column_58 ?_
              refine TT_goto hK (tgt := 15) dX12_column_61 (by decide) ?_
              refine TT_sub [1, 2, 3, 4, 0] rfl ?_
              have e23_73_32 : g55_22 73 32 = (g55_22 73) 32 := rfl
              have e24_73_34 : g55_22 73 34 = (g55_22 73) 34 := rfl
              have e25_73_36 : g55_22 73 36 = (g55_22 73) 36 := rfl
              have e26_93 : g55_22 93 = w15_2 93 := (hG_22.1 93 (by decide))
              have e27_93 : g55_22 93 = w15_2 93 := (hG_22.1 93 (by decide))
              try have k8 := pz_at45 (h 80 (h 73 26)) (h 81 (h 73 26)) (by omega) hw8 (by omega) he8
              exact ih2 (i + 1) g55_22 hT_22 hF_22 (by first | omega | (simp [up, setR] <;> omega)) (by rewrite [e23_73_32]; first | omega | (simp [up, setR] <;> omega)) (by rewrite [e24_73_34, e25_73_36, e26_93]; first | omega | (simp [up, setR] <;> omega)) (by rewrite [e27_93]; exact ZC_nn _ _ _) (by first | omega | (simp [up, setR] <;> omega))
            · refine TT_aload_n hK rfl 0 rfl dX12_column_41 ?_
              refine TT_iload_n hK rfl 2 rfl dX12_column_42 ?_
              refine TT_iload hK 4 rfl dX12_column_43 ?_
              have e28_74 : w15_2 74 = h 74 := (hF15_2.1 74 (by decide))
              have e29_75 : w15_2 75 = h 75 := (hF15_2.1 75 (by decide))
              have e30_73_32 : w15_2 73 32 = (w15_2 73) 32 := rfl
              have e31_73_29 : w15_2 73 29 = (h 73) 29 := (hF15_2.2 29 (by decide))
              have e32_73_34 : w15_2 73 34 = (w15_2 73) 34 := rfl
              have e33_73_36 : w15_2 73 36 = (w15_2 73) 36 := rfl
              have e34_73_26 : w15_2 73 26 = (h 73) 26 := (hF15_2.2 26 (by decide))
              have e35_73_29 : w15_2 73 29 = (h 73) 29 := (hF15_2.2 29 (by decide))
              refine iv_X12_280 hK (s_X12_spread_73 x i w15_2 hT15_2 (by first | omega | (simp [up, setR] <;> omega)) (by first | omega | (simp [up, setR] <;> omega)) (by rewrite [e28_74, e29_75]; first | assumption | exact htb) (by rewrite [e30_73_32]; first | omega | (simp [up, setR] <;> omega)) (by rewrite [e31_73_29, e32_73_34, e33_73_36]; first | omega | (simp [up, setR] <;> omega)) (by rewrite [e34_73_26, e35_73_29]; first | omega | (simp [up, setR] <;> omega))) (by decide) rfl ⟨by decide, by decide⟩ (by decide) rfl rfl (Nat.le_of_ble_eq_true rfl) ⟨by decide, by decide⟩ dX12_column_45 ?_
              intro r9 g45_36 hp9
              obtain ⟨⟨hT_36, hG_36⟩, hr9, pa_36, pm_36, pz_36⟩ := hp9
              rw [hr9]
              have hF_36 : FRM [73, 84, 85, 93, 94, 95, 96, 97, 98] [28, 32, 33, 34, 36, 39] h g45_36 := FRM_tr hF15_2 hG_36 (by decide) (by decide)
              rw [show w15_2 73 29 = (h 73) 29 from (hF15_2.2 29 (by decide))] at pm_36
              rw [show w15_2 73 34 = (w15_2 73) 34 from rfl] at pm_36
              rw [show w15_2 73 36 = (w15_2 73) 36 from rfl] at pm_36
              rw [show w15_2 73 29 = (h 73) 29 from (hF15_2.2 29 (by decide))] at pz_36
              rw [show w15_2 73 34 = (w15_2 73) 34 from rfl] at pz_36
              rw [show w15_2 73 36 = (w15_2 73) 36 from rfl] at pz_36
              have pz_at45 := pz_36
              show TT K ly 0 0 48 [(0, vR 73), (1, vI q), (2, vI x), (3, vI y), (4, vI i)] [] g45_36
              refine TT_goto hK (tgt := 58) dX12_column_48 (by decide) ?_
              refine TT_iinc hK (v := i + 1) (lv' := [(4, vI (i + 1)), (0, vR 73), (1, vI q), (2, vI x), (3, vI y)]) 4 rfl rfl (by decide) rfl dX12_column_58 ?_
              refine TT_goto hK (tgt := 15) dX12_column_61 (by decide) ?_
              refine TT_sub [1, 2, 3, 4, 0] rfl ?_
              have e37_73_32 : g45_36 73 32 = (g45_36 73) 32 := rfl
              have e38_73_34 : g45_36 73 34 = (g45_36 73) 34 := rfl
              have e39_73_36 : g45_36 73 36 = (g45_36 73) 36 := rfl
              try have k8 := pz_at45 (h 80 (h 73 26)) (h 81 (h 73 26)) (by omega) hw8 (by omega) he8
              exact ih2 (i + 1) g45_36 hT_36 hF_36 (by first | omega | (simp [up, setR] <;> omega)) (by rewrite [e37_73_32]; first | omega | (simp [up, setR] <;> omega)) (by rewrite [e38_73_34, e39_73_36]; first | omega | (simp [up, setR] <;> omega)) (by exact ZC_nn _ _ _) (by first | omega | (simp [up, setR] <;> omega))
    refine TT_sub [1, 2, 3, 4, 0] rfl ?_
    have e40_73_32 : h 73 32 = (h 73) 32 := rfl
    have e41_73_34 : h 73 34 = (h 73) 34 := rfl
    have e42_73_36 : h 73 36 = (h 73) 36 := rfl
    exact L15_2 (((y + 4 - y).toNat) + 1) y h hT hF (by first | omega | (simp [up, setR] <;> omega)) (by rewrite [e40_73_32]; first | omega | (simp [up, setR] <;> omega)) (by rewrite [e41_73_34, e42_73_36]; first | omega | (simp [up, setR] <;> omega)) (by exact ZC_nn _ _ _) (Nat.lt_succ_self _)
  · refine TT_aload_n hK rfl 0 rfl dX12_column_5 ?_
    refine TT_iload_n hK rfl 2 rfl dX12_column_6 ?_
    refine TT_iload_n hK rfl 3 rfl dX12_column_7 ?_
    have e43_73_26 : h 73 26 = (h 73) 26 := rfl
    have e44_73_26 : h 73 26 = (h 73) 26 := rfl
    have e45_73_26 : h 73 26 = (h 73) 26 := rfl
    have e46_73_26 : h 73 26 = (h 73) 26 := rfl
    have e47_73_32 : h 73 32 = (h 73) 32 := rfl
    have e48_73_26 : h 73 26 = (h 73) 26 := rfl
    have e49_73_29 : h 73 29 = (h 73) 29 := rfl
    have e50_73_34 : h 73 34 = (h 73) 34 := rfl
    have e51_73_36 : h 73 36 = (h 73) 36 := rfl
    have e52_73_26 : h 73 26 = (h 73) 26 := rfl
    have e53_73_29 : h 73 29 = (h 73) 29 := rfl
    refine iv_X12_277 hK (s_X12_clean_73 x y h hT (by first | omega | (simp [up, setR] <;> omega)) (by first | omega | (simp [up, setR] <;> omega)) (by rewrite [e43_73_26]; first | omega | (simp [up, setR] <;> omega)) (by rewrite [e44_73_26]; first | omega | (simp [up, setR] <;> omega)) (by rewrite [e45_73_26]; first | omega | (simp [up, setR] <;> omega)) (by rewrite [e46_73_26]; first | omega | (simp [up, setR] <;> omega)) (by first | assumption | exact htb) (by rewrite [e47_73_32]; first | omega | (simp [up, setR] <;> omega)) (by rewrite [e48_73_26, e49_73_29, e50_73_34, e51_73_36]; first | omega | (simp [up, setR] <;> omega)) (by rewrite [e52_73_26, e53_73_29]; first | omega | (simp [up, setR] <;> omega))) (by decide) rfl ⟨by decide, by decide⟩ (by decide) rfl rfl (Nat.le_of_ble_eq_true rfl) ⟨by decide, by decide⟩ dX12_column_8 ?_
    intro r9 g8_54 hp9
    obtain ⟨⟨hT_54, hG_54⟩, hr9, pa_54, pm_54⟩ := hp9
    rw [hr9]
    have hF_54 : FRM [73, 84, 85, 93, 94, 95, 96, 97, 98] [28, 32, 33, 34, 36, 39] h g8_54 := FRM_tr hF hG_54 (by decide) (by decide)
    rw [show h 73 26 = (h 73) 26 from rfl] at pm_54
    rw [show h 73 29 = (h 73) 29 from rfl] at pm_54
    rw [show h 73 34 = (h 73) 34 from rfl] at pm_54
    rw [show h 73 36 = (h 73) 36 from rfl] at pm_54
    show TT K ly 0 0 11 [(0, vR 73), (1, vI q), (2, vI x), (3, vI y)] [] g8_54
    refine TT_vret hK hQ ?_ dX12_column_11
    have e55_73_32 : g8_54 73 32 = (g8_54 73) 32 := rfl
    have e56_73_34 : g8_54 73 34 = (g8_54 73) 34 := rfl
    have e57_73_36 : g8_54 73 36 = (g8_54 73) 36 := rfl
    exact ⟨⟨hT_54, hF_54⟩, rfl, (by rewrite [e55_73_32]; omega), (by rewrite [e56_73_34, e57_73_36]; omega)⟩

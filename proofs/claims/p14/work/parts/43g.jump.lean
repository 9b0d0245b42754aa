set_option maxRecDepth 20000 in
theorem s_X12_jump_73 (x y : Int) (h : Hp_) (hT : TY h) (hx : 0 ≤ x ∧ x ≤ 7) (hy : y = 0 ∨ y = 4) (htb : TBL (h 74) (h 75)) (ha : 32768 ≤ (h 73 32) ∧ (h 73 32) < 65536) (hm : (h 73 29) = 0 → 1 ≤ (h 73 34) ∧ 1 ≤ (h 73 36) ∧ 7 * (h 73 36) - (h 73 34) + PhS (h 96) + 36 ≤ 22300) (hw1 : (h 73 29) = 1 → 10 ≤ (h 73 26)) : Ctr yX12_jump cX12_jump 7 (some .int) (rmd 5) ly ly 0 0 [vR 73, vI x, vI y] h (fun r h' => (TY h' ∧ FRM [73, 84, 85, 93, 96, 97, 98] [28, 32, 33, 34, 36, 39] h h') ∧ ∃ z : Int, r = some (vI z) ∧ (0 ≤ z ∧ z ≤ 4) ∧ (32768 ≤ (h' 73 32) ∧ (h' 73 32) < 65536) ∧ ((h 73 29) = 0 → 1 ≤ (h' 73 34) ∧ 1 ≤ (h' 73 36) ∧ 7 * (h' 73 36) - (h' 73 34) + PhS (h' 96) ≤ 7 * (h 73 36) - (h 73 34) + PhS (h 96) + 36) ∧ (z = 0 ∨ y + 4 ≤ (h 81) (h 73 26)) ∧ (∀ w : Int, x < w → w ≤ 8 → (h 73 29) = 0 → 7 * (h' 73 36) - (h' 73 34) + PhS (h' 96) + 27 * ZC w ((h 81) (h 73 26)) (h' 93) ≤ 7 * (h 73 36) - (h 73 34) + PhS (h 96) + 27 * ZC w ((h 81) (h 73 26)) (h 93) + 9 * z)) := by
  refine Ctr_of (by decide) (Nat.le_of_ble_eq_true rfl) ⟨Nat.le_refl _, Nat.le_refl _⟩ (fun K hK hQ _ => ?_)
  show TT K ly 0 0 0 [(0, vR 73), (1, vI x), (2, vI y)] [] h
  have hF : FRM [73, 84, 85, 93, 96, 97, 98] [28, 32, 33, 34, 36, 39] h h := FRM_rf _ _ _
  refine TT_iload_n hK rfl 2 rfl dX12_jump_0 ?_
  refine TT_iconst hK dX12_jump_1 ?_
  refine TT_iadd hK dX12_jump_2 ?_
  refine TT_aload_n hK rfl 0 rfl dX12_jump_3 ?_
  refine gf_X12_38 hK (by decide) rfl (q := 81) rfl rfl dX12_jump_4 ?_
  refine TT_aload_n hK rfl 0 rfl dX12_jump_7 ?_
  refine gf_X12_246 hK (by decide) rfl (v := (h 73) 26) rfl dX12_jump_8 ?_
  have r1 := ty_73_26 (v := (h 73) 26) hT rfl
  refine TT_iald hK (o := 81) (n := 20) (by decide) rfl (by first | omega | (simp [up, setR] <;> omega)) (by first | omega | (simp [up, setR] <;> omega)) (v := (h 81) ((h 73) 26)) rfl dX12_jump_11 ?_
  have r2 := ty_81 (i := (h 73) 26) (v := (h 81) ((h 73) 26)) hT rfl (by omega) (by omega)
  refine TT_icmp_gt hK (tgt := 19) (irm (by omega) (by omega)) (irm (by omega) (by omega)) dX12_jump_12 (by decide) (fun hb12_3 => ?_) (fun hb12_3 => ?_)
  · refine TT_iconst hK dX12_jump_19 ?_
    refine TT_istore_n hK rfl (lv' := [(3, vI 0), (0, vR 73), (1, vI x), (2, vI y)]) (by decide) rfl dX12_jump_20 ?_
    refine TT_iconst hK dX12_jump_21 ?_
    refine TT_istore hK (lv' := [(4, vI 4), (3, vI 0), (0, vR 73), (1, vI x), (2, vI y)]) (by decide) rfl dX12_jump_22 ?_
    refine TT_iload_n hK rfl 4 rfl dX12_jump_24 ?_
    refine TT_iconst hK dX12_jump_25 ?_
    refine TT_iadd hK dX12_jump_26 ?_
    refine TT_istore hK (lv' := [(5, vI (y + 3)), (4, vI 4), (3, vI 0), (0, vR 73), (1, vI x), (2, vI y)]) (by decide) rfl dX12_jump_27 ?_
    have L29_4 : ∀ (k4 : Nat) (q : Int) (f : Int) (r : Int) (w29_4 : Hp_), TY w29_4 → FRM [73, 84, 85, 93, 96, 97, 98] [28, 32, 33, 34, 36, 39] h w29_4 → (0 ≤ q ∧ q ≤ 1) → (0 ≤ f ∧ f ≤ 4) → (y - 1 ≤ r ∧ r ≤ y + 3) → (q = 1 → y + 4 ≤ h 81 (h 73 26)) → (q = 1 → ∀ j, r < j → j ≤ y + 3 → (w29_4 93) (10 * j + x + 11) = 0) → ((w29_4 93) = h 93) → (PhS (w29_4 96) = PhS (h 96)) → ((w29_4 73 34) = h 73 34) → ((w29_4 73 36) = h 73 36) → ((w29_4 73 32) = h 73 32) → (r - y + 1).toNat < k4 → TT K ly 0 0 29 [(0, vR 73), (1, vI x), (2, vI y), (3, vI q), (4, vI f), (5, vI r)] [] w29_4 := by
      intro k4
      induction k4 with
      | zero => intro q f r w29_4 hT29_4 hF29_4 hq hf hr he hz9 k93 k96 k34 k36 k32 hk4; exact absurd hk4 (Nat.not_lt_zero _)
      | succ k4 ih4 =>
        intro q f r w29_4 hT29_4 hF29_4 hq hf hr he hz9 k93 k96 k34 k36 k32 hk4
        refine TT_iload hK 5 rfl dX12_jump_29 ?_
        refine TT_iload_n hK rfl 2 rfl dX12_jump_31 ?_
        refine TT_icmp_lt hK (tgt := 97) (irm (by omega) (by omega)) (irm (by omega) (by omega)) dX12_jump_32 (by decide) (fun hb32_5 => ?_) (fun hb32_5 => ?_)
        · refine TT_iload_n hK rfl 3 rfl dX12_jump_97 ?_
          refine TT_if_ne hK (tgt := 103) (irm (by omega) (by omega)) dX12_jump_98 (by decide) (fun hb98_6 => ?_) (fun hb98_6 => ?_)
          · refine TT_aload_n hK rfl 0 rfl dX12_jump_103 ?_
            refine TT_bipush hK (by decide) dX12_jump_104 ?_
            refine TT_iload hK 4 rfl dX12_jump_106 ?_
            refine TT_iconst hK dX12_jump_108 ?_
            refine TT_icmp_ge hK (tgt := 116) (irm (by omega) (by omega)) (by decide) dX12_jump_109 (by decide) (fun hb109_7 => ?_) (fun hb109_7 => ?_)
            · refine TT_iconst hK dX12_jump_116 ?_
              have e8_74 : w29_4 74 = h 74 := (hF29_4.1 74 (by decide))
              have e9_75 : w29_4 75 = h 75 := (hF29_4.1 75 (by decide))
              have e10_73_32 : w29_4 73 32 = (w29_4 73) 32 := rfl
              have e11_73_29 : w29_4 73 29 = (h 73) 29 := (hF29_4.2 29 (by decide))
              have e12_73_34 : w29_4 73 34 = (w29_4 73) 34 := rfl
              have e13_73_36 : w29_4 73 36 = (w29_4 73) 36 := rfl
              refine iv_X12_258 hK (s_X12_code_73 17 0 w29_4 hT29_4 (by first | omega | (simp [up, setR] <;> omega)) (by first | omega | (simp [up, setR] <;> omega)) (by rewrite [e8_74, e9_75]; first | assumption | exact htb) (by rewrite [e10_73_32]; first | omega | (simp [up, setR] <;> omega)) (by rewrite [e11_73_29, e12_73_34, e13_73_36]; first | omega | (simp [up, setR] <;> omega))) (by decide) rfl ⟨by decide, by decide⟩ (by decide) rfl rfl (Nat.le_of_ble_eq_true rfl) ⟨by decide, by decide⟩ dX12_jump_117 ?_
              intro r9 g117_14 hp9
              obtain ⟨⟨hT_14, hG_14⟩, z117_14, hr9, hz_14, pa_14, pm_14⟩ := hp9
              rw [hr9]
              have hF_14 : FRM [73, 84, 85, 93, 96, 97, 98] [28, 32, 33, 34, 36, 39] h g117_14 := FRM_tr hF29_4 hG_14 (by decide) (by decide)
              rw [show w29_4 73 29 = (h 73) 29 from (hF29_4.2 29 (by decide))] at pm_14
              rw [show w29_4 73 34 = (w29_4 73) 34 from rfl] at pm_14
              rw [show w29_4 73 36 = (w29_4 73) 36 from rfl] at pm_14
              show TT K ly 0 0 120 [(0, vR 73), (1, vI x), (2, vI y), (3, vI q), (4, vI f), (5, vI r)] [vI z117_14] g117_14
              refine TT_if_ne hK (tgt := 125) (irm (by omega) (by omega)) dX12_jump_120 (by decide) (fun hb120_15 => ?_) (fun hb120_15 => ?_)
              · refine TT_aload_n hK rfl 0 rfl dX12_jump_125 ?_
                refine TT_bipush hK (by decide) dX12_jump_126 ?_
                refine TT_iload hK 4 rfl dX12_jump_128 ?_
                refine TT_iconst hK dX12_jump_130 ?_
                refine TT_idivn hK (irm (by omega) (by omega)) (by decide) (by first | omega | (simp [up, setR] <;> omega)) (by first | omega | (simp [up, setR] <;> omega)) dX12_jump_131 ?_
                refine TT_iconst hK dX12_jump_132 ?_
                refine TT_iremn hK (irm (by omega) (by omega)) (by decide) (by first | omega | (simp [up, setR] <;> omega)) (by first | omega | (simp [up, setR] <;> omega)) dX12_jump_133 ?_
                have e16_74 : g117_14 74 = h 74 := ((hG_14.1 74 (by decide))).trans (hF29_4.1 74 (by decide))
                have e17_75 : g117_14 75 = h 75 := ((hG_14.1 75 (by decide))).trans (hF29_4.1 75 (by decide))
                have e18_73_32 : g117_14 73 32 = (g117_14 73) 32 := rfl
                have e19_73_29 : g117_14 73 29 = (h 73) 29 := ((hG_14.2 29 (by decide))).trans (hF29_4.2 29 (by decide))
                have e20_73_34 : g117_14 73 34 = (g117_14 73) 34 := rfl
                have e21_73_36 : g117_14 73 36 = (g117_14 73) 36 := rfl
                refine iv_X12_258 hK (s_X12_code_73 18 ((f / 2) % 2) g117_14 hT_14 (by first | omega | (simp [up, setR] <;> omega)) (by first | omega | (simp [up, setR] <;> omega)) (by rewrite [e16_74, e17_75]; first | assumption | exact htb) (by rewrite [e18_73_32]; first | omega | (simp [up, setR] <;> omega)) (by rewrite [e19_73_29, e20_73_34, e21_73_36]; first | omega | (simp [up, setR] <;> omega))) (by decide) rfl ⟨by decide, by decide⟩ (by decide) rfl rfl (Nat.le_of_ble_eq_true rfl) ⟨by decide, by decide⟩ dX12_jump_134 ?_
                intro r9 g134_22 hp9
                obtain ⟨⟨hT_22, hG_22⟩, z134_22, hr9, hz_22, pa_22, pm_22⟩ := hp9
                rw [hr9]
                have hF_22 : FRM [73, 84, 85, 93, 96, 97, 98] [28, 32, 33, 34, 36, 39] h g134_22 := FRM_tr hF_14 hG_22 (by decide) (by decide)
                rw [show g117_14 73 29 = (h 73) 29 from ((hG_14.2 29 (by decide))).trans (hF29_4.2 29 (by decide))] at pm_22
                rw [show g117_14 73 34 = (g117_14 73) 34 from rfl] at pm_22
                rw [show g117_14 73 36 = (g117_14 73) 36 from rfl] at pm_22
                show TT K ly 0 0 137 [(0, vR 73), (1, vI x), (2, vI y), (3, vI q), (4, vI f), (5, vI r)] [vI z134_22] g134_22
                refine TT_istore hK (lv' := [(5, vI z134_22), (0, vR 73), (1, vI x), (2, vI y), (3, vI q), (4, vI f)]) (by decide) rfl dX12_jump_137 ?_
                refine TT_aload_n hK rfl 1 rfl dX12_jump_139 ?_
                refine TT_bipush hK (by decide) dX12_jump_140 ?_
                refine TT_iload hK 5 rfl dX12_jump_142 ?_
                refine TT_iconst hK dX12_jump_144 ?_
                refine TT_iremn hK (irm (by omega) (by omega)) (by decide) (by first | omega | (simp [up, setR] <;> omega)) (by first | omega | (simp [up, setR] <;> omega)) dX12_jump_145 ?_
                have e23_74 : g134_22 74 = h 74 := ((hG_22.1 74 (by decide))).trans (((hG_14.1 74 (by decide))).trans (hF29_4.1 74 (by decide)))
                have e24_75 : g134_22 75 = h 75 := ((hG_22.1 75 (by decide))).trans (((hG_14.1 75 (by decide))).trans (hF29_4.1 75 (by decide)))
                have e25_73_32 : g134_22 73 32 = (g134_22 73) 32 := rfl
                have e26_73_29 : g134_22 73 29 = (h 73) 29 := ((hG_22.2 29 (by decide))).trans (((hG_14.2 29 (by decide))).trans (hF29_4.2 29 (by decide)))
                have e27_73_34 : g134_22 73 34 = (g134_22 73) 34 := rfl
                have e28_73_36 : g134_22 73 36 = (g134_22 73) 36 := rfl
                refine iv_X12_258 hK (s_X12_code_73 18 (f % 2) g134_22 hT_22 (by first | omega | (simp [up, setR] <;> omega)) (by first | omega | (simp [up, setR] <;> omega)) (by rewrite [e23_74, e24_75]; first | assumption | exact htb) (by rewrite [e25_73_32]; first | omega | (simp [up, setR] <;> omega)) (by rewrite [e26_73_29, e27_73_34, e28_73_36]; first | omega | (simp [up, setR] <;> omega))) (by decide) rfl ⟨by decide, by decide⟩ (by decide) rfl rfl (Nat.le_of_ble_eq_true rfl) ⟨by decide, by decide⟩ dX12_jump_146 ?_
                intro r9 g146_29 hp9
                obtain ⟨⟨hT_29, hG_29⟩, z146_29, hr9, hz_29, pa_29, pm_29⟩ := hp9
                rw [hr9]
                have hF_29 : FRM [73, 84, 85, 93, 96, 97, 98] [28, 32, 33, 34, 36, 39] h g146_29 := FRM_tr hF_22 hG_29 (by decide) (by decide)
                rw [show g134_22 73 29 = (h 73) 29 from ((hG_22.2 29 (by decide))).trans (((hG_14.2 29 (by decide))).trans (hF29_4.2 29 (by decide)))] at pm_29
                rw [show g134_22 73 34 = (g134_22 73) 34 from rfl] at pm_29
                rw [show g134_22 73 36 = (g134_22 73) 36 from rfl] at pm_29
                show TT K ly 0 0 149 [(5, vI z134_22), (0, vR 73), (1, vI x), (2, vI y), (3, vI q), (4, vI f)] [vI z146_29] g146_29
                refine TT_istore hK (lv' := [(6, vI z146_29), (5, vI z134_22), (0, vR 73), (1, vI x), (2, vI y), (3, vI q), (4, vI f)]) (by decide) rfl dX12_jump_149 ?_
                refine TT_aload_n hK rfl 2 rfl dX12_jump_151 ?_
                refine TT_iload_n hK rfl 3 rfl dX12_jump_152 ?_
                refine TT_iload_n hK rfl 4 rfl dX12_jump_153 ?_
                refine TT_iconst hK dX12_jump_154 ?_
                refine TT_iload hK 1 rfl dX12_jump_155 ?_
                refine TT_imul hK dX12_jump_157 ?_
                refine TT_iadd hK dX12_jump_158 ?_
                refine TT_iload hK 0 rfl dX12_jump_159 ?_
                refine TT_iadd hK dX12_jump_161 ?_
                have e30_74 : g146_29 74 = h 74 := ((hG_29.1 74 (by decide))).trans (((hG_22.1 74 (by decide))).trans (((hG_14.1 74 (by decide))).trans (hF29_4.1 74 (by decide))))
                have e31_75 : g146_29 75 = h 75 := ((hG_29.1 75 (by decide))).trans (((hG_22.1 75 (by decide))).trans (((hG_14.1 75 (by decide))).trans (hF29_4.1 75 (by decide))))
                have e32_73_32 : g146_29 73 32 = (g146_29 73) 32 := rfl
                have e33_73_29 : g146_29 73 29 = (h 73) 29 := ((hG_29.2 29 (by decide))).trans (((hG_22.2 29 (by decide))).trans (((hG_14.2 29 (by decide))).trans (hF29_4.2 29 (by decide))))
                have e34_73_34 : g146_29 73 34 = (g146_29 73) 34 := rfl
                have e35_73_36 : g146_29 73 36 = (g146_29 73) 36 := rfl
                have e36_73_26 : g146_29 73 26 = (h 73) 26 := ((hG_29.2 26 (by decide))).trans (((hG_22.2 26 (by decide))).trans (((hG_14.2 26 (by decide))).trans (hF29_4.2 26 (by decide))))
                have e37_73_29 : g146_29 73 29 = (h 73) 29 := ((hG_29.2 29 (by decide))).trans (((hG_22.2 29 (by decide))).trans (((hG_14.2 29 (by decide))).trans (hF29_4.2 29 (by decide))))
                refine iv_X12_267 hK (s_X12_wake_73 x ((y + (2 * z134_22)) + z146_29) g146_29 hT_29 (by first | omega | (simp [up, setR] <;> omega)) (by first | omega | (simp [up, setR] <;> omega)) (by rewrite [e30_74, e31_75]; first | assumption | exact htb) (by rewrite [e32_73_32]; first | omega | (simp [up, setR] <;> omega)) (by rewrite [e33_73_29, e34_73_34, e35_73_36]; first | omega | (simp [up, setR] <;> omega)) (by rewrite [e36_73_26, e37_73_29]; first | omega | (simp [up, setR] <;> omega))) (by decide) rfl ⟨by decide, by decide⟩ (by decide) rfl rfl (Nat.le_of_ble_eq_true rfl) ⟨by decide, by decide⟩ dX12_jump_162 ?_
                intro r9 g162_38 hp9
                obtain ⟨⟨hT_38, hG_38⟩, hr9, pa_38, pm_38, pz_38⟩ := hp9
                rw [hr9]
                have hF_38 : FRM [73, 84, 85, 93, 96, 97, 98] [28, 32, 33, 34, 36, 39] h g162_38 := FRM_tr hF_29 hG_38 (by decide) (by decide)
                rw [show g146_29 73 29 = (h 73) 29 from ((hG_29.2 29 (by decide))).trans (((hG_22.2 29 (by decide))).trans (((hG_14.2 29 (by decide))).trans (hF29_4.2 29 (by decide))))] at pm_38
                rw [show g146_29 73 34 = (g146_29 73) 34 from rfl] at pm_38
                rw [show g146_29 73 36 = (g146_29 73) 36 from rfl] at pm_38
                rw [show g146_29 93 = w29_4 93 from ((hG_29.1 93 (by decide))).trans (((hG_22.1 93 (by decide))).trans (hG_14.1 93 (by decide)))] at pz_38
                have pz_at162 := pz_38
                show TT K ly 0 0 165 [(6, vI z146_29), (5, vI z134_22), (0, vR 73), (1, vI x), (2, vI y), (3, vI q), (4, vI f)] [] g162_38
                refine TT_iconst hK dX12_jump_165 ?_
                refine TT_iload hK 1 rfl dX12_jump_166 ?_
                refine TT_imul hK dX12_jump_168 ?_
                refine TT_iload hK 0 rfl dX12_jump_169 ?_
                refine TT_iadd hK dX12_jump_171 ?_
                refine TT_iconst hK dX12_jump_172 ?_
                refine TT_iadd hK dX12_jump_173 ?_
                refine TT_iret hK hQ ?_ dX12_jump_174
                have e39_73_32 : g162_38 73 32 = (g162_38 73) 32 := rfl
                have e40_73_34 : g162_38 73 34 = (g162_38 73) 34 := rfl
                have e41_73_36 : g162_38 73 36 = (g162_38 73) 36 := rfl
                have e42_73_34 : g162_38 73 34 = (g162_38 73) 34 := rfl
                have e43_73_36 : g162_38 73 36 = (g162_38 73) 36 := rfl
                exact ⟨⟨hT_38, hF_38⟩, (((2 * z134_22) + z146_29) + 1), rfl, (by omega), (by rewrite [e39_73_32]; omega), (by rewrite [e40_73_34, e41_73_36]; omega), (by omega), (by rewrite [e42_73_34, e43_73_36]; intro w h1 h2 h5; first | omega | (rw [k93]; omega) | (have k8 := pz_at162 w (h 81 (h 73 26)) h1 h2 (by omega) (by omega) (hz9 (by omega) _ (by omega) (by omega)); rw [k93] at k8; omega))⟩
              · refine TT_iconst hK dX12_jump_123 ?_
                refine TT_iret hK hQ ?_ dX12_jump_124
                have e44_73_32 : g117_14 73 32 = (g117_14 73) 32 := rfl
                have e45_73_34 : g117_14 73 34 = (g117_14 73) 34 := rfl
                have e46_73_36 : g117_14 73 36 = (g117_14 73) 36 := rfl
                have e47_73_34 : g117_14 73 34 = (g117_14 73) 34 := rfl
                have e48_73_36 : g117_14 73 36 = (g117_14 73) 36 := rfl
                have e49_93 : g117_14 93 = w29_4 93 := (hG_14.1 93 (by decide))
                exact ⟨⟨hT_14, hF_14⟩, 4, rfl, (by omega), (by rewrite [e44_73_32]; omega), (by rewrite [e45_73_34, e46_73_36]; omega), (by omega), (by rewrite [e47_73_34, e48_73_36, e49_93]; intro w h1 h2 h5; first | omega | (rw [k93]; omega) | (have k8 := pz_at162 w (h 81 (h 73 26)) h1 h2 (by omega) (by omega) (hz9 (by omega) _ (by omega) (by omega)); rw [k93] at k8; omega))⟩
            · refine TT_iconst hK dX12_jump_112 ?_
              refine TT_goto hK (tgt := 117) dX12_jump_113 (by decide) ?_
              have e50_74 : w29_4 74 = h 74 := (hF29_4.1 74 (by decide))
              have e51_75 : w29_4 75 = h 75 := (hF29_4.1 75 (by decide))
              have e52_73_32 : w29_4 73 32 = (w29_4 73) 32 := rfl
              have e53_73_29 : w29_4 73 29 = (h 73) 29 := (hF29_4.2 29 (by decide))
              have e54_73_34 : w29_4 73 34 = (w29_4 73) 34 := rfl
              have e55_73_36 : w29_4 73 36 = (w29_4 73) 36 := rfl
              refine iv_X12_258 hK (s_X12_code_73 17 1 w29_4 hT29_4 (by first | omega | (simp [up, setR] <;> omega)) (by first | omega | (simp [up, setR] <;> omega)) (by rewrite [e50_74, e51_75]; first | assumption | exact htb) (by rewrite [e52_73_32]; first | omega | (simp [up, setR] <;> omega)) (by rewrite [e53_73_29, e54_73_34, e55_73_36]; first | omega | (simp [up, setR] <;> omega))) (by decide) rfl ⟨by decide, by decide⟩ (by decide) rfl rfl (Nat.le_of_ble_eq_true rfl) ⟨by decide, by decide⟩ dX12_jump_117 ?_
              intro r9 g117_56 hp9
              obtain ⟨⟨hT_56, hG_56⟩, z117_56, hr9, hz_56, pa_56, pm_56⟩ := hp9
              rw [hr9]
              have hF_56 : FRM [73, 84, 85, 93, 96, 97, 98] [28, 32, 33, 34, 36, 39] h g117_56 := FRM_tr hF29_4 hG_56 (by decide) (by decide)
              rw [show w29_4 73 29 = (h 73) 29 from (hF29_4.2 29 (by decide))] at pm_56
              rw [show w29_4 73 34 = (w29_4 73) 34 from rfl] at pm_56
              rw [show w29_4 73 36 = (w29_4 73) 36 from rfl] at pm_56
              show TT K ly 0 0 120 [(0, vR 73), (1, vI x), (2, vI y), (3, vI q), (4, vI f), (5, vI r)] [vI z117_56] g117_56
              refine TT_if_ne hK (tgt := 125) (irm (by omega) (by omega)) dX12_jump_120 (by decide) (fun hb120_57 => ?_) (fun hb120_57 => ?_)
              · refine TT_aload_n hK rfl 0 rfl dX12_jump_125 ?_
                refine TT_bipush hK (by decide) dX12_jump_126 ?_
                refine TT_iload hK 4 rfl dX12_jump_128 ?_
                refine TT_iconst hK dX12_jump_130 ?_
                refine TT_idivn hK (irm (by omega) (by omega)) (by decide) (by first | omega | (simp [up, setR] <;> omega)) (by first | omega | (simp [up, setR] <;> omega)) dX12_jump_131 ?_
                refine TT_iconst hK dX12_jump_132 ?_
                refine TT_iremn hK (irm (by omega) (by omega)) (by decide) (by first | omega | (simp [up, setR] <;> omega)) (by first | omega | (simp [up, setR] <;> omega)) dX12_jump_133 ?_
                have e58_74 : g117_56 74 = h 74 := ((hG_56.1 74 (by decide))).trans (hF29_4.1 74 (by decide))
                have e59_75 : g117_56 75 = h 75 := ((hG_56.1 75 (by decide))).trans (hF29_4.1 75 (by decide))
                have e60_73_32 : g117_56 73 32 = (g117_56 73) 32 := rfl
                have e61_73_29 : g117_56 73 29 = (h 73) 29 := ((hG_56.2 29 (by decide))).trans (hF29_4.2 29 (by decide))
                have e62_73_34 : g117_56 73 34 = (g117_56 73) 34 := rfl
                have e63_73_36 : g117_56 73 36 = (g117_56 73) 36 := rfl
                refine iv_X12_258 hK (s_X12_code_73 18 ((f / 2) % 2) g117_56 hT_56 (by first | omega | (simp [up, setR] <;> omega)) (by first | omega | (simp [up, setR] <;> omega)) (by rewrite [e58_74, e59_75]; first | assumption | exact htb) (by rewrite [e60_73_32]; first | omega | (simp [up, setR] <;> omega)) (by rewrite [e61_73_29, e62_73_34, e63_73_36]; first | omega | (simp [up, setR] <;> omega))) (by decide) rfl ⟨by decide, by decide⟩ (by decide) rfl rfl (Nat.le_of_ble_eq_true rfl) ⟨by decide, by decide⟩ dX12_jump_134 ?_
                intro r9 g134_64 hp9
                obtain ⟨⟨hT_64, hG_64⟩, z134_64, hr9, hz_64, pa_64, pm_64⟩ := hp9
                rw [hr9]
                have hF_64 : FRM [73, 84, 85, 93, 96, 97, 98] [28, 32, 33, 34, 36, 39] h g134_64 := FRM_tr hF_56 hG_64 (by decide) (by decide)
                rw [show g117_56 73 29 = (h 73) 29 from ((hG_56.2 29 (by decide))).trans (hF29_4.2 29 (by decide))] at pm_64
                rw [show g117_56 73 34 = (g117_56 73) 34 from rfl] at pm_64
                rw [show g117_56 73 36 = (g117_56 73) 36 from rfl] at pm_64
                show TT K ly 0 0 137 [(0, vR 73), (1, vI x), (2, vI y), (3, vI q), (4, vI f), (5, vI r)] [vI z134_64] g134_64
                refine TT_istore hK (lv' := [(5, vI z134_64), (0, vR 73), (1, vI x), (2, vI y), (3, vI q), (4, vI f)]) (by decide) rfl dX12_jump_137 ?_
                refine TT_aload_n hK rfl 1 rfl dX12_jump_139 ?_
                refine TT_bipush hK (by decide) dX12_jump_140 ?_
                refine TT_iload hK 5 rfl dX12_jump_142 ?_
                refine TT_iconst hK dX12_jump_144 ?_
                refine TT_iremn hK (irm (by omega) (by omega)) (by decide) (by first | omega | (simp [up, setR] <;> omega)) (by first | omega | (simp [up, setR] <;> omega)) dX12_jump_145 ?_
                have e65_74 : g134_64 74 = h 74 := ((hG_64.1 74 (by decide))).trans (((hG_56.1 74 (by decide))).trans (hF29_4.1 74 (by decide)))
                have e66_75 : g134_64 75 = h 75 := ((hG_64.1 75 (by decide))).trans (((hG_56.1 75 (by decide))).trans (hF29_4.1 75 (by decide)))
                have e67_73_32 : g134_64 73 32 = (g134_64 73) 32 := rfl
                have e68_73_29 : g134_64 73 29 = (h 73) 29 := ((hG_64.2 29 (by decide))).trans (((hG_56.2 29 (by decide))).trans (hF29_4.2 29 (by decide)))
                have e69_73_34 : g134_64 73 34 = (g134_64 73) 34 := rfl
                have e70_73_36 : g134_64 73 36 = (g134_64 73) 36 := rfl
                refine iv_X12_258 hK (s_X12_code_73 18 (f % 2) g134_64 hT_64 (by first | omega | (simp [up, setR] <;> omega)) (by first | omega | (simp [up, setR] <;> omega)) (by rewrite [e65_74, e66_75]; first | assumption | exact htb) (by rewrite [e67_73_32]; first | omega | (simp [up, setR] <;> omega)) (by rewrite [e68_73_29, e69_73_34, e70_73_36]; first | omega | (simp [up, setR] <;> omega))) (by decide) rfl ⟨by decide, by decide⟩ (by decide) rfl rfl (Nat.le_of_ble_eq_true rfl) ⟨by decide, by decide⟩ dX12_jump_146 ?_
                intro r9 g146_71 hp9
                obtain ⟨⟨hT_71, hG_71⟩, z146_71, hr9, hz_71, pa_71, pm_71⟩ := hp9
                rw [hr9]
                have hF_71 : FRM [73, 84, 85, 93, 96, 97, 98] [28, 32, 33, 34, 36, 39] h g146_71 := FRM_tr hF_64 hG_71 (by decide) (by decide)
                rw [show g134_64 73 29 = (h 73) 29 from ((hG_64.2 29 (by decide))).trans (((hG_56.2 29 (by decide))).trans (hF29_4.2 29 (by decide)))] at pm_71
                rw [show g134_64 73 34 = (g134_64 73) 34 from rfl] at pm_71
                rw [show g134_64 73 36 = (g134_64 73) 36 from rfl] at pm_71
                show TT K ly 0 0 149 [(5, vI z134_64), (0, vR 73), (1, vI x), (2, vI y), (3, vI q), (4, vI f)] [vI z146_71] g146_71
                refine TT_istore hK (lv' := [(6, vI z146_71), (5, vI z134_64), (0, vR 73), (1, vI x), (2, vI y), (3, vI q), (4, vI f)]) (by decide) rfl dX12_jump_149 ?_
                refine TT_aload_n hK rfl 2 rfl dX12_jump_151 ?_
                refine TT_iload_n hK rfl 3 rfl dX12_jump_152 ?_
                refine TT_iload_n hK rfl 4 rfl dX12_jump_153 ?_
                refine TT_iconst hK dX12_jump_154 ?_
                refine TT_iload hK 1 rfl dX12_jump_155 ?_
                refine TT_imul hK dX12_jump_157 ?_
                refine TT_iadd hK dX12_jump_158 ?_
                refine TT_iload hK 0 rfl dX12_jump_159 ?_
                refine TT_iadd hK dX12_jump_161 ?_
                have e72_74 : g146_71 74 = h 74 := ((hG_71.1 74 (by decide))).trans (((hG_64.1 74 (by decide))).trans (((hG_56.1 74 (by decide))).trans (hF29_4.1 74 (by decide))))
                have e73_75 : g146_71 75 = h 75 := ((hG_71.1 75 (by decide))).trans (((hG_64.1 75 (by decide))).trans (((hG_56.1 75 (by decide))).trans (hF29_4.1 75 (by decide))))
                have e74_73_32 : g146_71 73 32 = (g146_71 73) 32 := rfl
                have e75_73_29 : g146_71 73 29 = (h 73) 29 := ((hG_71.2 29 (by decide))).trans (((hG_64.2 29 (by decide))).trans (((hG_56.2 29 (by decide))).trans (hF29_4.2 29 (by decide))))
                have e76_73_34 : g146_71 73 34 = (g146_71 73) 34 := rfl
                have e77_73_36 : g146_71 73 36 = (g146_71 73) 36 := rfl
                have e78_73_26 : g146_71 73 26 = (h 73) 26 := ((hG_71.2 26 (by decide))).trans (((hG_64.2 26 (by decide))).trans (((hG_56.2 26 (by decide))).trans (hF29_4.2 26 (by decide))))
                have e79_73_29 : g146_71 73 29 = (h 73) 29 := ((hG_71.2 29 (by decide))).trans (((hG_64.2 29 (by decide))).trans (((hG_56.2 29 (by decide))).trans (hF29_4.2 29 (by decide))))
                refine iv_X12_267 hK (s_X12_wake_73 x ((y + (2 * z134_64)) + z146_71) g146_71 hT_71 (by first | omega | (simp [up, setR] <;> omega)) (by first | omega | (simp [up, setR] <;> omega)) (by rewrite [e72_74, e73_75]; first | assumption | exact htb) (by rewrite [e74_73_32]; first | omega | (simp [up, setR] <;> omega)) (by rewrite [e75_73_29, e76_73_34, e77_73_36]; first | omega | (simp [up, setR] <;> omega)) (by rewrite [e78_73_26, e79_73_29]; first | omega | (simp [up, setR] <;> omega))) (by decide) rfl ⟨by decide, by decide⟩ (by decide) rfl rfl (Nat.le_of_ble_eq_true rfl) ⟨by decide, by decide⟩ dX12_jump_162 ?_
                intro r9 g162_80 hp9
                obtain ⟨⟨hT_80, hG_80⟩, hr9, pa_80, pm_80, pz_80⟩ := hp9
                rw [hr9]
                have hF_80 : FRM [73, 84, 85, 93, 96, 97, 98] [28, 32, 33, 34, 36, 39] h g162_80 := FRM_tr hF_71 hG_80 (by decide) (by decide)
                rw [show g146_71 73 29 = (h 73) 29 from ((hG_71.2 29 (by decide))).trans (((hG_64.2 29 (by decide))).trans (((hG_56.2 29 (by decide))).trans (hF29_4.2 29 (by decide))))] at pm_80
                rw [show g146_71 73 34 = (g146_71 73) 34 from rfl] at pm_80
                rw [show g146_71 73 36 = (g146_71 73) 36 from rfl] at pm_80
                rw [show g146_71 93 = w29_4 93 from ((hG_71.1 93 (by decide))).trans (((hG_64.1 93 (by decide))).trans (hG_56.1 93 (by decide)))] at pz_80
                have pz_at162 := pz_80
                show TT K ly 0 0 165 [(6, vI z146_71), (5, vI z134_64), (0, vR 73), (1, vI x), (2, vI y), (3, vI q), (4, vI f)] [] g162_80
                refine TT_iconst hK dX12_jump_165 ?_
                refine TT_iload hK 1 rfl dX12_jump_166 ?_
                refine TT_imul hK dX12_jump_168 ?_
                refine TT_iload hK 0 rfl dX12_jump_169 ?_
                refine TT_iadd hK dX12_jump_171 ?_
                refine TT_iconst hK dX12_jump_172 ?_
                refine TT_iadd hK dX12_jump_173 ?_
                refine TT_iret hK hQ ?_ dX12_jump_174
                have e81_73_32 : g162_80 73 32 = (g162_80 73) 32 := rfl
                have e82_73_34 : g162_80 73 34 = (g162_80 73) 34 := rfl
                have e83_73_36 : g162_80 73 36 = (g162_80 73) 36 := rfl
                have e84_73_34 : g162_80 73 34 = (g162_80 73) 34 := rfl
                have e85_73_36 : g162_80 73 36 = (g162_80 73) 36 := rfl
                exact ⟨⟨hT_80, hF_80⟩, (((2 * z134_64) + z146_71) + 1), rfl, (by omega), (by rewrite [e81_73_32]; omega), (by rewrite [e82_73_34, e83_73_36]; omega), (by omega), (by rewrite [e84_73_34, e85_73_36]; intro w h1 h2 h5; first | omega | (rw [k93]; omega) | (have k8 := pz_at162 w (h 81 (h 73 26)) h1 h2 (by omega) (by omega) (hz9 (by omega) _ (by omega) (by omega)); rw [k93] at k8; omega))⟩
              · refine TT_iconst hK dX12_jump_123 ?_
                refine TT_iret hK hQ ?_ dX12_jump_124
                have e86_73_32 : g117_56 73 32 = (g117_56 73) 32 := rfl
                have e87_73_34 : g117_56 73 34 = (g117_56 73) 34 := rfl
                have e88_73_36 : g117_56 73 36 = (g117_56 73) 36 := rfl
                have e89_73_34 : g117_56 73 34 = (g117_56 73) 34 := rfl
                have e90_73_36 : g117_56 73 36 = (g117_56 73) 36 := rfl
                have e91_93 : g117_56 93 = w29_4 93 := (hG_56.1 93 (by decide))
                exact ⟨⟨hT_56, hF_56⟩, 4, rfl, (by omega), (by rewrite [e86_73_32]; omega), (by rewrite [e87_73_34, e88_73_36]; omega), (by omega), (by rewrite [e89_73_34, e90_73_36, e91_93]; intro w h1 h2 h5; first | omega | (rw [k93]; omega) | (have k8 := pz_at162 w (h 81 (h 73 26)) h1 h2 (by omega) (by omega) (hz9 (by omega) _ (by omega) (by omega)); rw [k93] at k8; omega))⟩
          · refine TT_iconst hK dX12_jump_101 ?_
            refine TT_iret hK hQ ?_ dX12_jump_102
            have e92_73_32 : w29_4 73 32 = (w29_4 73) 32 := rfl
            have e93_73_34 : w29_4 73 34 = (w29_4 73) 34 := rfl
            have e94_73_36 : w29_4 73 36 = (w29_4 73) 36 := rfl
            have e95_73_34 : w29_4 73 34 = (w29_4 73) 34 := rfl
            have e96_73_36 : w29_4 73 36 = (w29_4 73) 36 := rfl
            exact ⟨⟨hT29_4, hF29_4⟩, 0, rfl, (by omega), (by rewrite [e92_73_32]; omega), (by rewrite [e93_73_34, e94_73_36]; omega), (by omega), (by rewrite [e95_73_34, e96_73_36]; intro w h1 h2 h5; first | omega | (rw [k93]; omega) | (have k8 := pz_at162 w (h 81 (h 73 26)) h1 h2 (by omega) (by omega) (hz9 (by omega) _ (by omega) (by omega)); rw [k93] at k8; omega))⟩
        · refine TT_iload_n hK rfl 3 rfl dX12_jump_35 ?_
          refine TT_if_eq hK (tgt := 97) (irm (by omega) (by omega)) dX12_jump_36 (by decide) (fun hb36_97 => ?_) (fun hb36_97 => ?_)
          · refine TT_iload_n hK rfl 3 rfl dX12_jump_97 ?_
            refine TT_if_ne hK (tgt := 103) (irm (by omega) (by omega)) dX12_jump_98 (by decide) (fun hb98_98 => ?_) (fun hb98_98 => ?_)
            · exfalso; omega
            · refine TT_iconst hK dX12_jump_101 ?_
              refine TT_iret hK hQ ?_ dX12_jump_102
              have e99_73_32 : w29_4 73 32 = (w29_4 73) 32 := rfl
              have e100_73_34 : w29_4 73 34 = (w29_4 73) 34 := rfl
              have e101_73_36 : w29_4 73 36 = (w29_4 73) 36 := rfl
              have e102_73_34 : w29_4 73 34 = (w29_4 73) 34 := rfl
              have e103_73_36 : w29_4 73 36 = (w29_4 73) 36 := rfl
              exact ⟨⟨hT29_4, hF29_4⟩, 0, rfl, (by omega), (by rewrite [e99_73_32]; omega), (by rewrite [e100_73_34, e101_73_36]; omega), (by omega), (by rewrite [e102_73_34, e103_73_36]; intro w h1 h2 h5; first | omega | (rw [k93]; omega) | (have k8 := pz_at162 w (h 81 (h 73 26)) h1 h2 (by omega) (by omega) (hz9 (by omega) _ (by omega) (by omega)); rw [k93] at k8; omega))⟩
          · refine TT_aload_n hK rfl 0 rfl dX12_jump_39 ?_
            refine TT_iload_n hK rfl 1 rfl dX12_jump_40 ?_
            refine TT_iload hK 5 rfl dX12_jump_41 ?_
            refine iv_X12_271 hK (s_X12_isUntouched_73 x r w29_4 hT29_4 (by first | omega | (simp [up, setR] <;> omega)) (by first | omega | (simp [up, setR] <;> omega))) (by decide) rfl ⟨by decide, by decide⟩ (by decide) rfl rfl (Nat.le_of_ble_eq_true rfl) ⟨by decide, by decide⟩ dX12_jump_43 ?_
            intro r9 g43_104 hp9
            obtain ⟨⟨hT_104, hG_104⟩, z43_104, hr9, hz_104, p1_104⟩ := hp9
            rw [hr9]
            have hF_104 : FRM [73, 84, 85, 93, 96, 97, 98] [28, 32, 33, 34, 36, 39] h g43_104 := FRM_tr hF29_4 hG_104 (by decide) (by decide)
            show TT K ly 0 0 46 [(0, vR 73), (1, vI x), (2, vI y), (3, vI q), (4, vI f), (5, vI r)] [vI z43_104] g43_104
            refine TT_if_eq hK (tgt := 63) (irm (by omega) (by omega)) dX12_jump_46 (by decide) (fun hb46_105 => ?_) (fun hb46_105 => ?_)
            · refine TT_iconst hK dX12_jump_63 ?_
              refine TT_istore_n hK rfl (lv' := [(3, vI 0), (0, vR 73), (1, vI x), (2, vI y), (4, vI f), (5, vI r)]) (by decide) rfl dX12_jump_64 ?_
              refine TT_iload_n hK rfl 0 rfl dX12_jump_65 ?_
              refine TT_if_eq hK (tgt := 87) (by decide) dX12_jump_66 (by decide) (fun hb66_106 => ?_) (fun hb66_106 => ?_)
              · refine TT_iload hK 4 rfl dX12_jump_87 ?_
                refine TT_istore hK (lv' := [(4, vI f), (3, vI 0), (0, vR 73), (1, vI x), (2, vI y), (5, vI r)]) (by decide) rfl dX12_jump_89 ?_
                refine TT_iinc hK (v := r - 1) (lv' := [(5, vI (r - 1)), (4, vI f), (3, vI 0), (0, vR 73), (1, vI x), (2, vI y)]) 5 rfl (by omega) (by decide) rfl dX12_jump_91 ?_
                refine TT_goto hK (tgt := 29) dX12_jump_94 (by decide) ?_
                refine TT_sub [3, 4, 5, 2, 1, 0] rfl ?_
                have e107_93 : g43_104 93 = w29_4 93 := (hG_104.1 93 (by decide))
                have e108_93 : g43_104 93 = w29_4 93 := (hG_104.1 93 (by decide))
                have e109_96 : g43_104 96 = w29_4 96 := (hG_104.1 96 (by decide))
                have e110_73_34 : g43_104 73 34 = (w29_4 73) 34 := congrFun (hG_104.1 73 (by decide)) 34
                have e111_73_36 : g43_104 73 36 = (w29_4 73) 36 := congrFun (hG_104.1 73 (by decide)) 36
                have e112_73_32 : g43_104 73 32 = (w29_4 73) 32 := congrFun (hG_104.1 73 (by decide)) 32
                exact ih4 0 f (r - 1) g43_104 hT_104 hF_104 (by first | omega | (simp [up, setR] <;> omega)) (by first | omega | (simp [up, setR] <;> omega)) (by first | omega | (simp [up, setR] <;> omega)) (by first | omega | (simp [up, setR] <;> omega)) (by rewrite [e107_93]; intro h0 j h1 h2; first | omega | (by_cases e : j = r; (subst e; omega); exact hz9 (by omega) j (by omega) h2)) (by rewrite [e108_93]; first | assumption | rfl) (by rewrite [e109_96]; first | omega | (simp [up, setR] <;> omega)) (by rewrite [e110_73_34]; first | omega | (simp [up, setR] <;> omega)) (by rewrite [e111_73_36]; first | omega | (simp [up, setR] <;> omega)) (by rewrite [e112_73_32]; first | omega | (simp [up, setR] <;> omega)) (by first | omega | (simp [up, setR] <;> omega))
              · exact absurd hb66_106 (by decide)
            · refine TT_aload_n hK rfl 0 rfl dX12_jump_49 ?_
              refine TT_iload_n hK rfl 1 rfl dX12_jump_50 ?_
              refine TT_iload hK 5 rfl dX12_jump_51 ?_
              refine iv_X12_261 hK (s_X12_context_73 x r g43_104 hT_104 (by first | omega | (simp [up, setR] <;> omega)) (by first | omega | (simp [up, setR] <;> omega))) (by decide) rfl ⟨by decide, by decide⟩ (by decide) rfl rfl (Nat.le_of_ble_eq_true rfl) ⟨by decide, by decide⟩ dX12_jump_53 ?_
              intro r9 g53_113 hp9
              obtain ⟨⟨hT_113, hG_113⟩, z53_113, hr9, hz_113⟩ := hp9
              rw [hr9]
              have hF_113 : FRM [73, 84, 85, 93, 96, 97, 98] [28, 32, 33, 34, 36, 39] h g53_113 := FRM_tr hF_104 hG_113 (by decide) (by decide)
              show TT K ly 0 0 56 [(0, vR 73), (1, vI x), (2, vI y), (3, vI q), (4, vI f), (5, vI r)] [vI z53_113] g53_113
              refine TT_if_ne hK (tgt := 63) (irm (by omega) (by omega)) dX12_jump_56 (by decide) (fun hb56_114 => ?_) (fun hb56_114 => ?_)
              · refine TT_iconst hK dX12_jump_63 ?_
                refine TT_istore_n hK rfl (lv' := [(3, vI 0), (0, vR 73), (1, vI x), (2, vI y), (4, vI f), (5, vI r)]) (by decide) rfl dX12_jump_64 ?_
                refine TT_iload_n hK rfl 0 rfl dX12_jump_65 ?_
                refine TT_if_eq hK (tgt := 87) (by decide) dX12_jump_66 (by decide) (fun hb66_115 => ?_) (fun hb66_115 => ?_)
                · refine TT_iload hK 4 rfl dX12_jump_87 ?_
                  refine TT_istore hK (lv' := [(4, vI f), (3, vI 0), (0, vR 73), (1, vI x), (2, vI y), (5, vI r)]) (by decide) rfl dX12_jump_89 ?_
                  refine TT_iinc hK (v := r - 1) (lv' := [(5, vI (r - 1)), (4, vI f), (3, vI 0), (0, vR 73), (1, vI x), (2, vI y)]) 5 rfl (by omega) (by decide) rfl dX12_jump_91 ?_
                  refine TT_goto hK (tgt := 29) dX12_jump_94 (by decide) ?_
                  refine TT_sub [3, 4, 5, 2, 1, 0] rfl ?_
                  have e116_93 : g53_113 93 = w29_4 93 := ((hG_113.1 93 (by decide))).trans (hG_104.1 93 (by decide))
                  have e117_93 : g53_113 93 = w29_4 93 := ((hG_113.1 93 (by decide))).trans (hG_104.1 93 (by decide))
                  have e118_96 : g53_113 96 = w29_4 96 := ((hG_113.1 96 (by decide))).trans (hG_104.1 96 (by decide))
                  have e119_73_34 : g53_113 73 34 = (w29_4 73) 34 := (congrFun (hG_113.1 73 (by decide)) 34).trans (congrFun (hG_104.1 73 (by decide)) 34)
                  have e120_73_36 : g53_113 73 36 = (w29_4 73) 36 := (congrFun (hG_113.1 73 (by decide)) 36).trans (congrFun (hG_104.1 73 (by decide)) 36)
                  have e121_73_32 : g53_113 73 32 = (w29_4 73) 32 := (congrFun (hG_113.1 73 (by decide)) 32).trans (congrFun (hG_104.1 73 (by decide)) 32)
                  exact ih4 0 f (r - 1) g53_113 hT_113 hF_113 (by first | omega | (simp [up, setR] <;> omega)) (by first | omega | (simp [up, setR] <;> omega)) (by first | omega | (simp [up, setR] <;> omega)) (by first | omega | (simp [up, setR] <;> omega)) (by rewrite [e116_93]; intro h0 j h1 h2; first | omega | (by_cases e : j = r; (subst e; omega); exact hz9 (by omega) j (by omega) h2)) (by rewrite [e117_93]; first | assumption | rfl) (by rewrite [e118_96]; first | omega | (simp [up, setR] <;> omega)) (by rewrite [e119_73_34]; first | omega | (simp [up, setR] <;> omega)) (by rewrite [e120_73_36]; first | omega | (simp [up, setR] <;> omega)) (by rewrite [e121_73_32]; first | omega | (simp [up, setR] <;> omega)) (by first | omega | (simp [up, setR] <;> omega))
                · exact absurd hb66_115 (by decide)
              · refine TT_iconst hK dX12_jump_59 ?_
                refine TT_goto hK (tgt := 64) dX12_jump_60 (by decide) ?_
                refine TT_istore_n hK rfl (lv' := [(3, vI 1), (0, vR 73), (1, vI x), (2, vI y), (4, vI f), (5, vI r)]) (by decide) rfl dX12_jump_64 ?_
                refine TT_iload_n hK rfl 0 rfl dX12_jump_65 ?_
                refine TT_if_eq hK (tgt := 87) (by decide) dX12_jump_66 (by decide) (fun hb66_122 => ?_) (fun hb66_122 => ?_)
                · exact absurd hb66_122 (by decide)
                · refine TT_aload_n hK rfl 1 rfl dX12_jump_69 ?_
                  refine TT_iload_n hK rfl 2 rfl dX12_jump_70 ?_
                  refine TT_iload hK 5 rfl dX12_jump_71 ?_
                  refine iv_X12_264 hK (s_X12_bitAt_73 x r g53_113 hT_113 (by first | omega | (simp [up, setR] <;> omega)) (by first | omega | (simp [up, setR] <;> omega))) (by decide) rfl ⟨by decide, by decide⟩ (by decide) rfl rfl (Nat.le_of_ble_eq_true rfl) ⟨by decide, by decide⟩ dX12_jump_73 ?_
                  intro r9 g73_123 hp9
                  obtain ⟨⟨hT_123, hG_123⟩, z73_123, hr9, hz_123⟩ := hp9
                  rw [hr9]
                  have hF_123 : FRM [73, 84, 85, 93, 96, 97, 98] [28, 32, 33, 34, 36, 39] h g73_123 := FRM_tr hF_113 hG_123 (by decide) (by decide)
                  show TT K ly 0 0 76 [(3, vI 1), (0, vR 73), (1, vI x), (2, vI y), (4, vI f), (5, vI r)] [vI z73_123] g73_123
                  refine TT_iconst hK dX12_jump_76 ?_
                  refine TT_icmp_ne hK (tgt := 87) (irm (by omega) (by omega)) (by decide) dX12_jump_77 (by decide) (fun hb77_124 => ?_) (fun hb77_124 => ?_)
                  · refine TT_iload hK 4 rfl dX12_jump_87 ?_
                    refine TT_istore hK (lv' := [(4, vI f), (3, vI 1), (0, vR 73), (1, vI x), (2, vI y), (5, vI r)]) (by decide) rfl dX12_jump_89 ?_
                    refine TT_iinc hK (v := r - 1) (lv' := [(5, vI (r - 1)), (4, vI f), (3, vI 1), (0, vR 73), (1, vI x), (2, vI y)]) 5 rfl (by omega) (by decide) rfl dX12_jump_91 ?_
                    refine TT_goto hK (tgt := 29) dX12_jump_94 (by decide) ?_
                    refine TT_sub [3, 4, 5, 2, 1, 0] rfl ?_
                    have e125_93 : g73_123 93 = w29_4 93 := ((hG_123.1 93 (by decide))).trans (((hG_113.1 93 (by decide))).trans (hG_104.1 93 (by decide)))
                    have e126_93 : g73_123 93 = w29_4 93 := ((hG_123.1 93 (by decide))).trans (((hG_113.1 93 (by decide))).trans (hG_104.1 93 (by decide)))
                    have e127_96 : g73_123 96 = w29_4 96 := ((hG_123.1 96 (by decide))).trans (((hG_113.1 96 (by decide))).trans (hG_104.1 96 (by decide)))
                    have e128_73_34 : g73_123 73 34 = (w29_4 73) 34 := (congrFun (hG_123.1 73 (by decide)) 34).trans ((congrFun (hG_113.1 73 (by decide)) 34).trans (congrFun (hG_104.1 73 (by decide)) 34))
                    have e129_73_36 : g73_123 73 36 = (w29_4 73) 36 := (congrFun (hG_123.1 73 (by decide)) 36).trans ((congrFun (hG_113.1 73 (by decide)) 36).trans (congrFun (hG_104.1 73 (by decide)) 36))
                    have e130_73_32 : g73_123 73 32 = (w29_4 73) 32 := (congrFun (hG_123.1 73 (by decide)) 32).trans ((congrFun (hG_113.1 73 (by decide)) 32).trans (congrFun (hG_104.1 73 (by decide)) 32))
                    exact ih4 1 f (r - 1) g73_123 hT_123 hF_123 (by first | omega | (simp [up, setR] <;> omega)) (by first | omega | (simp [up, setR] <;> omega)) (by first | omega | (simp [up, setR] <;> omega)) (by first | omega | (simp [up, setR] <;> omega)) (by rewrite [e125_93]; intro h0 j h1 h2; first | omega | (by_cases e : j = r; (subst e; omega); exact hz9 (by omega) j (by omega) h2)) (by rewrite [e126_93]; first | assumption | rfl) (by rewrite [e127_96]; first | omega | (simp [up, setR] <;> omega)) (by rewrite [e128_73_34]; first | omega | (simp [up, setR] <;> omega)) (by rewrite [e129_73_36]; first | omega | (simp [up, setR] <;> omega)) (by rewrite [e130_73_32]; first | omega | (simp [up, setR] <;> omega)) (by first | omega | (simp [up, setR] <;> omega))
                  · refine TT_iload hK 5 rfl dX12_jump_80 ?_
                    refine TT_iload_n hK rfl 3 rfl dX12_jump_82 ?_
                    refine TT_isub hK dX12_jump_83 ?_
                    refine TT_goto hK (tgt := 89) dX12_jump_84 (by decide) ?_
                    refine TT_istore hK (lv' := [(4, vI (r - y)), (3, vI 1), (0, vR 73), (1, vI x), (2, vI y), (5, vI r)]) (by decide) rfl dX12_jump_89 ?_
                    refine TT_iinc hK (v := r - 1) (lv' := [(5, vI (r - 1)), (4, vI (r - y)), (3, vI 1), (0, vR 73), (1, vI x), (2, vI y)]) 5 rfl (by omega) (by decide) rfl dX12_jump_91 ?_
                    refine TT_goto hK (tgt := 29) dX12_jump_94 (by decide) ?_
                    refine TT_sub [3, 4, 5, 2, 1, 0] rfl ?_
                    have e131_93 : g73_123 93 = w29_4 93 := ((hG_123.1 93 (by decide))).trans (((hG_113.1 93 (by decide))).trans (hG_104.1 93 (by decide)))
                    have e132_93 : g73_123 93 = w29_4 93 := ((hG_123.1 93 (by decide))).trans (((hG_113.1 93 (by decide))).trans (hG_104.1 93 (by decide)))
                    have e133_96 : g73_123 96 = w29_4 96 := ((hG_123.1 96 (by decide))).trans (((hG_113.1 96 (by decide))).trans (hG_104.1 96 (by decide)))
                    have e134_73_34 : g73_123 73 34 = (w29_4 73) 34 := (congrFun (hG_123.1 73 (by decide)) 34).trans ((congrFun (hG_113.1 73 (by decide)) 34).trans (congrFun (hG_104.1 73 (by decide)) 34))
                    have e135_73_36 : g73_123 73 36 = (w29_4 73) 36 := (congrFun (hG_123.1 73 (by decide)) 36).trans ((congrFun (hG_113.1 73 (by decide)) 36).trans (congrFun (hG_104.1 73 (by decide)) 36))
                    have e136_73_32 : g73_123 73 32 = (w29_4 73) 32 := (congrFun (hG_123.1 73 (by decide)) 32).trans ((congrFun (hG_113.1 73 (by decide)) 32).trans (congrFun (hG_104.1 73 (by decide)) 32))
                    exact ih4 1 (r - y) (r - 1) g73_123 hT_123 hF_123 (by first | omega | (simp [up, setR] <;> omega)) (by first | omega | (simp [up, setR] <;> omega)) (by first | omega | (simp [up, setR] <;> omega)) (by first | omega | (simp [up, setR] <;> omega)) (by rewrite [e131_93]; intro h0 j h1 h2; first | omega | (by_cases e : j = r; (subst e; omega); exact hz9 (by omega) j (by omega) h2)) (by rewrite [e132_93]; first | assumption | rfl) (by rewrite [e133_96]; first | omega | (simp [up, setR] <;> omega)) (by rewrite [e134_73_34]; first | omega | (simp [up, setR] <;> omega)) (by rewrite [e135_73_36]; first | omega | (simp [up, setR] <;> omega)) (by rewrite [e136_73_32]; first | omega | (simp [up, setR] <;> omega)) (by first | omega | (simp [up, setR] <;> omega))
    refine TT_sub [3, 4, 5, 2, 1, 0] rfl ?_
    have e137_73_34 : h 73 34 = (h 73) 34 := rfl
    have e138_73_36 : h 73 36 = (h 73) 36 := rfl
    have e139_73_32 : h 73 32 = (h 73) 32 := rfl
    exact L29_4 ((((y + 3) - y + 1).toNat) + 1) 0 4 (y + 3) h hT hF (by first | omega | (simp [up, setR] <;> omega)) (by first | omega | (simp [up, setR] <;> omega)) (by first | omega | (simp [up, setR] <;> omega)) (by first | omega | (simp [up, setR] <;> omega)) (by intro _ j h1 h2; omega) (by rfl) (by first | omega | (simp [up, setR] <;> omega)) (by rewrite [e137_73_34]; first | omega | (simp [up, setR] <;> omega)) (by rewrite [e138_73_36]; first | omega | (simp [up, setR] <;> omega)) (by rewrite [e139_73_32]; first | omega | (simp [up, setR] <;> omega)) (Nat.lt_succ_self _)
  · refine TT_iconst hK dX12_jump_15 ?_
    refine TT_goto hK (tgt := 20) dX12_jump_16 (by decide) ?_
    refine TT_istore_n hK rfl (lv' := [(3, vI 1), (0, vR 73), (1, vI x), (2, vI y)]) (by decide) rfl dX12_jump_20 ?_
    refine TT_iconst hK dX12_jump_21 ?_
    refine TT_istore hK (lv' := [(4, vI 4), (3, vI 1), (0, vR 73), (1, vI x), (2, vI y)]) (by decide) rfl dX12_jump_22 ?_
    refine TT_iload_n hK rfl 4 rfl dX12_jump_24 ?_
    refine TT_iconst hK dX12_jump_25 ?_
    refine TT_iadd hK dX12_jump_26 ?_
    refine TT_istore hK (lv' := [(5, vI (y + 3)), (4, vI 4), (3, vI 1), (0, vR 73), (1, vI x), (2, vI y)]) (by decide) rfl dX12_jump_27 ?_
    have L29_140 : ∀ (k140 : Nat) (q : Int) (f : Int) (r : Int) (w29_140 : Hp_), TY w29_140 → FRM [73, 84, 85, 93, 96, 97, 98] [28, 32, 33, 34, 36, 39] h w29_140 → (0 ≤ q ∧ q ≤ 1) → (0 ≤ f ∧ f ≤ 4) → (y - 1 ≤ r ∧ r ≤ y + 3) → (q = 1 → y + 4 ≤ h 81 (h 73 26)) → (q = 1 → ∀ j, r < j → j ≤ y + 3 → (w29_140 93) (10 * j + x + 11) = 0) → ((w29_140 93) = h 93) → (PhS (w29_140 96) = PhS (h 96)) → ((w29_140 73 34) = h 73 34) → ((w29_140 73 36) = h 73 36) → ((w29_140 73 32) = h 73 32) → (r - y + 1).toNat < k140 → TT K ly 0 0 29 [(0, vR 73), (1, vI x), (2, vI y), (3, vI q), (4, vI f), (5, vI r)] [] w29_140 := by
      intro k140
      induction k140 with
      | zero => intro q f r w29_140 hT29_140 hF29_140 hq hf hr he hz9 k93 k96 k34 k36 k32 hk140; exact absurd hk140 (Nat.not_lt_zero _)
      | succ k140 ih140 =>
        intro q f r w29_140 hT29_140 hF29_140 hq hf hr he hz9 k93 k96 k34 k36 k32 hk140
        refine TT_iload hK 5 rfl dX12_jump_29 ?_
        refine TT_iload_n hK rfl 2 rfl dX12_jump_31 ?_
        refine TT_icmp_lt hK (tgt := 97) (irm (by omega) (by omega)) (irm (by omega) (by omega)) dX12_jump_32 (by decide) (fun hb32_141 => ?_) (fun hb32_141 => ?_)
        · refine TT_iload_n hK rfl 3 rfl dX12_jump_97 ?_
          refine TT_if_ne hK (tgt := 103) (irm (by omega) (by omega)) dX12_jump_98 (by decide) (fun hb98_142 => ?_) (fun hb98_142 => ?_)
          · refine TT_aload_n hK rfl 0 rfl dX12_jump_103 ?_
            refine TT_bipush hK (by decide) dX12_jump_104 ?_
            refine TT_iload hK 4 rfl dX12_jump_106 ?_
            refine TT_iconst hK dX12_jump_108 ?_
            refine TT_icmp_ge hK (tgt := 116) (irm (by omega) (by omega)) (by decide) dX12_jump_109 (by decide) (fun hb109_143 => ?_) (fun hb109_143 => ?_)
            · refine TT_iconst hK dX12_jump_116 ?_
              have e144_74 : w29_140 74 = h 74 := (hF29_140.1 74 (by decide))
              have e145_75 : w29_140 75 = h 75 := (hF29_140.1 75 (by decide))
              have e146_73_32 : w29_140 73 32 = (w29_140 73) 32 := rfl
              have e147_73_29 : w29_140 73 29 = (h 73) 29 := (hF29_140.2 29 (by decide))
              have e148_73_34 : w29_140 73 34 = (w29_140 73) 34 := rfl
              have e149_73_36 : w29_140 73 36 = (w29_140 73) 36 := rfl
              refine iv_X12_258 hK (s_X12_code_73 17 0 w29_140 hT29_140 (by first | omega | (simp [up, setR] <;> omega)) (by first | omega | (simp [up, setR] <;> omega)) (by rewrite [e144_74, e145_75]; first | assumption | exact htb) (by rewrite [e146_73_32]; first | omega | (simp [up, setR] <;> omega)) (by rewrite [e147_73_29, e148_73_34, e149_73_36]; first | omega | (simp [up, setR] <;> omega))) (by decide) rfl ⟨by decide, by decide⟩ (by decide) rfl rfl (Nat.le_of_ble_eq_true rfl) ⟨by decide, by decide⟩ dX12_jump_117 ?_
              intro r9 g117_150 hp9
              obtain ⟨⟨hT_150, hG_150⟩, z117_150, hr9, hz_150, pa_150, pm_150⟩ := hp9
              rw [hr9]
              have hF_150 : FRM [73, 84, 85, 93, 96, 97, 98] [28, 32, 33, 34, 36, 39] h g117_150 := FRM_tr hF29_140 hG_150 (by decide) (by decide)
              rw [show w29_140 73 29 = (h 73) 29 from (hF29_140.2 29 (by decide))] at pm_150
              rw [show w29_140 73 34 = (w29_140 73) 34 from rfl] at pm_150
              rw [show w29_140 73 36 = (w29_140 73) 36 from rfl] at pm_150
              show TT K ly 0 0 120 [(0, vR 73), (1, vI x), (2, vI y), (3, vI q), (4, vI f), (5, vI r)] [vI z117_150] g117_150
              refine TT_if_ne hK (tgt := 125) (irm (by omega) (by omega)) dX12_jump_120 (by decide) (fun hb120_151 => ?_) (fun hb120_151 => ?_)
              · refine TT_aload_n hK rfl 0 rfl dX12_jump_125 ?_
                refine TT_bipush hK (by decide) dX12_jump_126 ?_
                refine TT_iload hK 4 rfl dX12_jump_128 ?_
                refine TT_iconst hK dX12_jump_130 ?_
                refine TT_idivn hK (irm (by omega) (by omega)) (by decide) (by first | omega | (simp [up, setR] <;> omega)) (by first | omega | (simp [up, setR] <;> omega)) dX12_jump_131 ?_
                refine TT_iconst hK dX12_jump_132 ?_
                refine TT_iremn hK (irm (by omega) (by omega)) (by decide) (by first | omega | (simp [up, setR] <;> omega)) (by first | omega | (simp [up, setR] <;> omega)) dX12_jump_133 ?_
                have e152_74 : g117_150 74 = h 74 := ((hG_150.1 74 (by decide))).trans (hF29_140.1 74 (by decide))
                have e153_75 : g117_150 75 = h 75 := ((hG_150.1 75 (by decide))).trans (hF29_140.1 75 (by decide))
                have e154_73_32 : g117_150 73 32 = (g117_150 73) 32 := rfl
                have e155_73_29 : g117_150 73 29 = (h 73) 29 := ((hG_150.2 29 (by decide))).trans (hF29_140.2 29 (by decide))
                have e156_73_34 : g117_150 73 34 = (g117_150 73) 34 := rfl
                have e157_73_36 : g117_150 73 36 = (g117_150 73) 36 := rfl
                refine iv_X12_258 hK (s_X12_code_73 18 ((f / 2) % 2) g117_150 hT_150 (by first | omega | (simp [up, setR] <;> omega)) (by first | omega | (simp [up, setR] <;> omega)) (by rewrite [e152_74, e153_75]; first | assumption | exact htb) (by rewrite [e154_73_32]; first | omega | (simp [up, setR] <;> omega)) (by rewrite [e155_73_29, e156_73_34, e157_73_36]; first | omega | (simp [up, setR] <;> omega))) (by decide) rfl ⟨by decide, by decide⟩ (by decide) rfl rfl (Nat.le_of_ble_eq_true rfl) ⟨by decide, by decide⟩ dX12_jump_134 ?_
                intro r9 g134_158 hp9
                obtain ⟨⟨hT_158, hG_158⟩, z134_158, hr9, hz_158, pa_158, pm_158⟩ := hp9
                rw [hr9]
                have hF_158 : FRM [73, 84, 85, 93, 96, 97, 98] [28, 32, 33, 34, 36, 39] h g134_158 := FRM_tr hF_150 hG_158 (by decide) (by decide)
                rw [show g117_150 73 29 = (h 73) 29 from ((hG_150.2 29 (by decide))).trans (hF29_140.2 29 (by decide))] at pm_158
                rw [show g117_150 73 34 = (g117_150 73) 34 from rfl] at pm_158
                rw [show g117_150 73 36 = (g117_150 73) 36 from rfl] at pm_158
                show TT K ly 0 0 137 [(0, vR 73), (1, vI x), (2, vI y), (3, vI q), (4, vI f), (5, vI r)] [vI z134_158] g134_158
                refine TT_istore hK (lv' := [(5, vI z134_158), (0, vR 73), (1, vI x), (2, vI y), (3, vI q), (4, vI f)]) (by decide) rfl dX12_jump_137 ?_
                refine TT_aload_n hK rfl 1 rfl dX12_jump_139 ?_
                refine TT_bipush hK (by decide) dX12_jump_140 ?_
                refine TT_iload hK 5 rfl dX12_jump_142 ?_
                refine TT_iconst hK dX12_jump_144 ?_
                refine TT_iremn hK (irm (by omega) (by omega)) (by decide) (by first | omega | (simp [up, setR] <;> omega)) (by first | omega | (simp [up, setR] <;> omega)) dX12_jump_145 ?_
                have e159_74 : g134_158 74 = h 74 := ((hG_158.1 74 (by decide))).trans (((hG_150.1 74 (by decide))).trans (hF29_140.1 74 (by decide)))
                have e160_75 : g134_158 75 = h 75 := ((hG_158.1 75 (by decide))).trans (((hG_150.1 75 (by decide))).trans (hF29_140.1 75 (by decide)))
                have e161_73_32 : g134_158 73 32 = (g134_158 73) 32 := rfl
                have e162_73_29 : g134_158 73 29 = (h 73) 29 := ((hG_158.2 29 (by decide))).trans (((hG_150.2 29 (by decide))).trans (hF29_140.2 29 (by decide)))
                have e163_73_34 : g134_158 73 34 = (g134_158 73) 34 := rfl
                have e164_73_36 : g134_158 73 36 = (g134_158 73) 36 := rfl
                refine iv_X12_258 hK (s_X12_code_73 18 (f % 2) g134_158 hT_158 (by first | omega | (simp [up, setR] <;> omega)) (by first | omega | (simp [up, setR] <;> omega)) (by rewrite [e159_74, e160_75]; first | assumption | exact htb) (by rewrite [e161_73_32]; first | omega | (simp [up, setR] <;> omega)) (by rewrite [e162_73_29, e163_73_34, e164_73_36]; first | omega | (simp [up, setR] <;> omega))) (by decide) rfl ⟨by decide, by decide⟩ (by decide) rfl rfl (Nat.le_of_ble_eq_true rfl) ⟨by decide, by decide⟩ dX12_jump_146 ?_
                intro r9 g146_165 hp9
                obtain ⟨⟨hT_165, hG_165⟩, z146_165, hr9, hz_165, pa_165, pm_165⟩ := hp9
                rw [hr9]
                have hF_165 : FRM [73, 84, 85, 93, 96, 97, 98] [28, 32, 33, 34, 36, 39] h g146_165 := FRM_tr hF_158 hG_165 (by decide) (by decide)
                rw [show g134_158 73 29 = (h 73) 29 from ((hG_158.2 29 (by decide))).trans (((hG_150.2 29 (by decide))).trans (hF29_140.2 29 (by decide)))] at pm_165
                rw [show g134_158 73 34 = (g134_158 73) 34 from rfl] at pm_165
                rw [show g134_158 73 36 = (g134_158 73) 36 from rfl] at pm_165
                show TT K ly 0 0 149 [(5, vI z134_158), (0, vR 73), (1, vI x), (2, vI y), (3, vI q), (4, vI f)] [vI z146_165] g146_165
                refine TT_istore hK (lv' := [(6, vI z146_165), (5, vI z134_158), (0, vR 73), (1, vI x), (2, vI y), (3, vI q), (4, vI f)]) (by decide) rfl dX12_jump_149 ?_
                refine TT_aload_n hK rfl 2 rfl dX12_jump_151 ?_
                refine TT_iload_n hK rfl 3 rfl dX12_jump_152 ?_
                refine TT_iload_n hK rfl 4 rfl dX12_jump_153 ?_
                refine TT_iconst hK dX12_jump_154 ?_
                refine TT_iload hK 1 rfl dX12_jump_155 ?_
                refine TT_imul hK dX12_jump_157 ?_
                refine TT_iadd hK dX12_jump_158 ?_
                refine TT_iload hK 0 rfl dX12_jump_159 ?_
                refine TT_iadd hK dX12_jump_161 ?_
                have e166_74 : g146_165 74 = h 74 := ((hG_165.1 74 (by decide))).trans (((hG_158.1 74 (by decide))).trans (((hG_150.1 74 (by decide))).trans (hF29_140.1 74 (by decide))))
                have e167_75 : g146_165 75 = h 75 := ((hG_165.1 75 (by decide))).trans (((hG_158.1 75 (by decide))).trans (((hG_150.1 75 (by decide))).trans (hF29_140.1 75 (by decide))))
                have e168_73_32 : g146_165 73 32 = (g146_165 73) 32 := rfl
                have e169_73_29 : g146_165 73 29 = (h 73) 29 := ((hG_165.2 29 (by decide))).trans (((hG_158.2 29 (by decide))).trans (((hG_150.2 29 (by decide))).trans (hF29_140.2 29 (by decide))))
                have e170_73_34 : g146_165 73 34 = (g146_165 73) 34 := rfl
                have e171_73_36 : g146_165 73 36 = (g146_165 73) 36 := rfl
                have e172_73_26 : g146_165 73 26 = (h 73) 26 := ((hG_165.2 26 (by decide))).trans (((hG_158.2 26 (by decide))).trans (((hG_150.2 26 (by decide))).trans (hF29_140.2 26 (by decide))))
                have e173_73_29 : g146_165 73 29 = (h 73) 29 := ((hG_165.2 29 (by decide))).trans (((hG_158.2 29 (by decide))).trans (((hG_150.2 29 (by decide))).trans (hF29_140.2 29 (by decide))))
                refine iv_X12_267 hK (s_X12_wake_73 x ((y + (2 * z134_158)) + z146_165) g146_165 hT_165 (by first | omega | (simp [up, setR] <;> omega)) (by first | omega | (simp [up, setR] <;> omega)) (by rewrite [e166_74, e167_75]; first | assumption | exact htb) (by rewrite [e168_73_32]; first | omega | (simp [up, setR] <;> omega)) (by rewrite [e169_73_29, e170_73_34, e171_73_36]; first | omega | (simp [up, setR] <;> omega)) (by rewrite [e172_73_26, e173_73_29]; first | omega | (simp [up, setR] <;> omega))) (by decide) rfl ⟨by decide, by decide⟩ (by decide) rfl rfl (Nat.le_of_ble_eq_true rfl) ⟨by decide, by decide⟩ dX12_jump_162 ?_
                intro r9 g162_174 hp9
                obtain ⟨⟨hT_174, hG_174⟩, hr9, pa_174, pm_174, pz_174⟩ := hp9
                rw [hr9]
                have hF_174 : FRM [73, 84, 85, 93, 96, 97, 98] [28, 32, 33, 34, 36, 39] h g162_174 := FRM_tr hF_165 hG_174 (by decide) (by decide)
                rw [show g146_165 73 29 = (h 73) 29 from ((hG_165.2 29 (by decide))).trans (((hG_158.2 29 (by decide))).trans (((hG_150.2 29 (by decide))).trans (hF29_140.2 29 (by decide))))] at pm_174
                rw [show g146_165 73 34 = (g146_165 73) 34 from rfl] at pm_174
                rw [show g146_165 73 36 = (g146_165 73) 36 from rfl] at pm_174
                rw [show g146_165 93 = w29_140 93 from ((hG_165.1 93 (by decide))).trans (((hG_158.1 93 (by decide))).trans (hG_150.1 93 (by decide)))] at pz_174
                have pz_at162 := pz_174
                show TT K ly 0 0 165 [(6, vI z146_165), (5, vI z134_158), (0, vR 73), (1, vI x), (2, vI y), (3, vI q), (4, vI f)] [] g162_174
                refine TT_iconst hK dX12_jump_165 ?_
                refine TT_iload hK 1 rfl dX12_jump_166 ?_
                refine TT_imul hK dX12_jump_168 ?_
                refine TT_iload hK 0 rfl dX12_jump_169 ?_
                refine TT_iadd hK dX12_jump_171 ?_
                refine TT_iconst hK dX12_jump_172 ?_
                refine TT_iadd hK dX12_jump_173 ?_
                refine TT_iret hK hQ ?_ dX12_jump_174
                have e175_73_32 : g162_174 73 32 = (g162_174 73) 32 := rfl
                have e176_73_34 : g162_174 73 34 = (g162_174 73) 34 := rfl
                have e177_73_36 : g162_174 73 36 = (g162_174 73) 36 := rfl
                have e178_73_34 : g162_174 73 34 = (g162_174 73) 34 := rfl
                have e179_73_36 : g162_174 73 36 = (g162_174 73) 36 := rfl
                exact ⟨⟨hT_174, hF_174⟩, (((2 * z134_158) + z146_165) + 1), rfl, (by omega), (by rewrite [e175_73_32]; omega), (by rewrite [e176_73_34, e177_73_36]; omega), (by omega), (by rewrite [e178_73_34, e179_73_36]; intro w h1 h2 h5; first | omega | (rw [k93]; omega) | (have k8 := pz_at162 w (h 81 (h 73 26)) h1 h2 (by omega) (by omega) (hz9 (by omega) _ (by omega) (by omega)); rw [k93] at k8; omega))⟩
              · refine TT_iconst hK dX12_jump_123 ?_
                refine TT_iret hK hQ ?_ dX12_jump_124
                have e180_73_32 : g117_150 73 32 = (g117_150 73) 32 := rfl
                have e181_73_34 : g117_150 73 34 = (g117_150 73) 34 := rfl
                have e182_73_36 : g117_150 73 36 = (g117_150 73) 36 := rfl
                have e183_73_34 : g117_150 73 34 = (g117_150 73) 34 := rfl
                have e184_73_36 : g117_150 73 36 = (g117_150 73) 36 := rfl
                have e185_93 : g117_150 93 = w29_140 93 := (hG_150.1 93 (by decide))
                exact ⟨⟨hT_150, hF_150⟩, 4, rfl, (by omega), (by rewrite [e180_73_32]; omega), (by rewrite [e181_73_34, e182_73_36]; omega), (by omega), (by rewrite [e183_73_34, e184_73_36, e185_93]; intro w h1 h2 h5; first | omega | (rw [k93]; omega) | (have k8 := pz_at162 w (h 81 (h 73 26)) h1 h2 (by omega) (by omega) (hz9 (by omega) _ (by omega) (by omega)); rw [k93] at k8; omega))⟩
            · refine TT_iconst hK dX12_jump_112 ?_
              refine TT_goto hK (tgt := 117) dX12_jump_113 (by decide) ?_
              have e186_74 : w29_140 74 = h 74 := (hF29_140.1 74 (by decide))
              have e187_75 : w29_140 75 = h 75 := (hF29_140.1 75 (by decide))
              have e188_73_32 : w29_140 73 32 = (w29_140 73) 32 := rfl
              have e189_73_29 : w29_140 73 29 = (h 73) 29 := (hF29_140.2 29 (by decide))
              have e190_73_34 : w29_140 73 34 = (w29_140 73) 34 := rfl
              have e191_73_36 : w29_140 73 36 = (w29_140 73) 36 := rfl
              refine iv_X12_258 hK (s_X12_code_73 17 1 w29_140 hT29_140 (by first | omega | (simp [up, setR] <;> omega)) (by first | omega | (simp [up, setR] <;> omega)) (by rewrite [e186_74, e187_75]; first | assumption | exact htb) (by rewrite [e188_73_32]; first | omega | (simp [up, setR] <;> omega)) (by rewrite [e189_73_29, e190_73_34, e191_73_36]; first | omega | (simp [up, setR] <;> omega))) (by decide) rfl ⟨by decide, by decide⟩ (by decide) rfl rfl (Nat.le_of_ble_eq_true rfl) ⟨by decide, by decide⟩ dX12_jump_117 ?_
              intro r9 g117_192 hp9
              obtain ⟨⟨hT_192, hG_192⟩, z117_192, hr9, hz_192, pa_192, pm_192⟩ := hp9
              rw [hr9]
              have hF_192 : FRM [73, 84, 85, 93, 96, 97, 98] [28, 32, 33, 34, 36, 39] h g117_192 := FRM_tr hF29_140 hG_192 (by decide) (by decide)
              rw [show w29_140 73 29 = (h 73) 29 from (hF29_140.2 29 (by decide))] at pm_192
              rw [show w29_140 73 34 = (w29_140 73) 34 from rfl] at pm_192
              rw [show w29_140 73 36 = (w29_140 73) 36 from rfl] at pm_192
              show TT K ly 0 0 120 [(0, vR 73), (1, vI x), (2, vI y), (3, vI q), (4, vI f), (5, vI r)] [vI z117_192] g117_192
              refine TT_if_ne hK (tgt := 125) (irm (by omega) (by omega)) dX12_jump_120 (by decide) (fun hb120_193 => ?_) (fun hb120_193 => ?_)
              · refine TT_aload_n hK rfl 0 rfl dX12_jump_125 ?_
                refine TT_bipush hK (by decide) dX12_jump_126 ?_
                refine TT_iload hK 4 rfl dX12_jump_128 ?_
                refine TT_iconst hK dX12_jump_130 ?_
                refine TT_idivn hK (irm (by omega) (by omega)) (by decide) (by first | omega | (simp [up, setR] <;> omega)) (by first | omega | (simp [up, setR] <;> omega)) dX12_jump_131 ?_
                refine TT_iconst hK dX12_jump_132 ?_
                refine TT_iremn hK (irm (by omega) (by omega)) (by decide) (by first | omega | (simp [up, setR] <;> omega)) (by first | omega | (simp [up, setR] <;> omega)) dX12_jump_133 ?_
                have e194_74 : g117_192 74 = h 74 := ((hG_192.1 74 (by decide))).trans (hF29_140.1 74 (by decide))
                have e195_75 : g117_192 75 = h 75 := ((hG_192.1 75 (by decide))).trans (hF29_140.1 75 (by decide))
                have e196_73_32 : g117_192 73 32 = (g117_192 73) 32 := rfl
                have e197_73_29 : g117_192 73 29 = (h 73) 29 := ((hG_192.2 29 (by decide))).trans (hF29_140.2 29 (by decide))
                have e198_73_34 : g117_192 73 34 = (g117_192 73) 34 := rfl
                have e199_73_36 : g117_192 73 36 = (g117_192 73) 36 := rfl
                refine iv_X12_258 hK (s_X12_code_73 18 ((f / 2) % 2) g117_192 hT_192 (by first | omega | (simp [up, setR] <;> omega)) (by first | omega | (simp [up, setR] <;> omega)) (by rewrite [e194_74, e195_75]; first | assumption | exact htb) (by rewrite [e196_73_32]; first | omega | (simp [up, setR] <;> omega)) (by rewrite [e197_73_29, e198_73_34, e199_73_36]; first | omega | (simp [up, setR] <;> omega))) (by decide) rfl ⟨by decide, by decide⟩ (by decide) rfl rfl (Nat.le_of_ble_eq_true rfl) ⟨by decide, by decide⟩ dX12_jump_134 ?_
                intro r9 g134_200 hp9
                obtain ⟨⟨hT_200, hG_200⟩, z134_200, hr9, hz_200, pa_200, pm_200⟩ := hp9
                rw [hr9]
                have hF_200 : FRM [73, 84, 85, 93, 96, 97, 98] [28, 32, 33, 34, 36, 39] h g134_200 := FRM_tr hF_192 hG_200 (by decide) (by decide)
                rw [show g117_192 73 29 = (h 73) 29 from ((hG_192.2 29 (by decide))).trans (hF29_140.2 29 (by decide))] at pm_200
                rw [show g117_192 73 34 = (g117_192 73) 34 from rfl] at pm_200
                rw [show g117_192 73 36 = (g117_192 73) 36 from rfl] at pm_200
                show TT K ly 0 0 137 [(0, vR 73), (1, vI x), (2, vI y), (3, vI q), (4, vI f), (5, vI r)] [vI z134_200] g134_200
                refine TT_istore hK (lv' := [(5, vI z134_200), (0, vR 73), (1, vI x), (2, vI y), (3, vI q), (4, vI f)]) (by decide) rfl dX12_jump_137 ?_
                refine TT_aload_n hK rfl 1 rfl dX12_jump_139 ?_
                refine TT_bipush hK (by decide) dX12_jump_140 ?_
                refine TT_iload hK 5 rfl dX12_jump_142 ?_
                refine TT_iconst hK dX12_jump_144 ?_
                refine TT_iremn hK (irm (by omega) (by omega)) (by decide) (by first | omega | (simp [up, setR] <;> omega)) (by first | omega | (simp [up, setR] <;> omega)) dX12_jump_145 ?_
                have e201_74 : g134_200 74 = h 74 := ((hG_200.1 74 (by decide))).trans (((hG_192.1 74 (by decide))).trans (hF29_140.1 74 (by decide)))
                have e202_75 : g134_200 75 = h 75 := ((hG_200.1 75 (by decide))).trans (((hG_192.1 75 (by decide))).trans (hF29_140.1 75 (by decide)))
                have e203_73_32 : g134_200 73 32 = (g134_200 73) 32 := rfl
                have e204_73_29 : g134_200 73 29 = (h 73) 29 := ((hG_200.2 29 (by decide))).trans (((hG_192.2 29 (by decide))).trans (hF29_140.2 29 (by decide)))
                have e205_73_34 : g134_200 73 34 = (g134_200 73) 34 := rfl
                have e206_73_36 : g134_200 73 36 = (g134_200 73) 36 := rfl
                refine iv_X12_258 hK (s_X12_code_73 18 (f % 2) g134_200 hT_200 (by first | omega | (simp [up, setR] <;> omega)) (by first | omega | (simp [up, setR] <;> omega)) (by rewrite [e201_74, e202_75]; first | assumption | exact htb) (by rewrite [e203_73_32]; first | omega | (simp [up, setR] <;> omega)) (by rewrite [e204_73_29, e205_73_34, e206_73_36]; first | omega | (simp [up, setR] <;> omega))) (by decide) rfl ⟨by decide, by decide⟩ (by decide) rfl rfl (Nat.le_of_ble_eq_true rfl) ⟨by decide, by decide⟩ dX12_jump_146 ?_
                intro r9 g146_207 hp9
                obtain ⟨⟨hT_207, hG_207⟩, z146_207, hr9, hz_207, pa_207, pm_207⟩ := hp9
                rw [hr9]
                have hF_207 : FRM [73, 84, 85, 93, 96, 97, 98] [28, 32, 33, 34, 36, 39] h g146_207 := FRM_tr hF_200 hG_207 (by decide) (by decide)
                rw [show g134_200 73 29 = (h 73) 29 from ((hG_200.2 29 (by decide))).trans (((hG_192.2 29 (by decide))).trans (hF29_140.2 29 (by decide)))] at pm_207
                rw [show g134_200 73 34 = (g134_200 73) 34 from rfl] at pm_207
                rw [show g134_200 73 36 = (g134_200 73) 36 from rfl] at pm_207
                show TT K ly 0 0 149 [(5, vI z134_200), (0, vR 73), (1, vI x), (2, vI y), (3, vI q), (4, vI f)] [vI z146_207] g146_207
                refine TT_istore hK (lv' := [(6, vI z146_207), (5, vI z134_200), (0, vR 73), (1, vI x), (2, vI y), (3, vI q), (4, vI f)]) (by decide) rfl dX12_jump_149 ?_
                refine TT_aload_n hK rfl 2 rfl dX12_jump_151 ?_
                refine TT_iload_n hK rfl 3 rfl dX12_jump_152 ?_
                refine TT_iload_n hK rfl 4 rfl dX12_jump_153 ?_
                refine TT_iconst hK dX12_jump_154 ?_
                refine TT_iload hK 1 rfl dX12_jump_155 ?_
                refine TT_imul hK dX12_jump_157 ?_
                refine TT_iadd hK dX12_jump_158 ?_
                refine TT_iload hK 0 rfl dX12_jump_159 ?_
                refine TT_iadd hK dX12_jump_161 ?_
                have e208_74 : g146_207 74 = h 74 := ((hG_207.1 74 (by decide))).trans (((hG_200.1 74 (by decide))).trans (((hG_192.1 74 (by decide))).trans (hF29_140.1 74 (by decide))))
                have e209_75 : g146_207 75 = h 75 := ((hG_207.1 75 (by decide))).trans (((hG_200.1 75 (by decide))).trans (((hG_192.1 75 (by decide))).trans (hF29_140.1 75 (by decide))))
                have e210_73_32 : g146_207 73 32 = (g146_207 73) 32 := rfl
                have e211_73_29 : g146_207 73 29 = (h 73) 29 := ((hG_207.2 29 (by decide))).trans (((hG_200.2 29 (by decide))).trans (((hG_192.2 29 (by decide))).trans (hF29_140.2 29 (by decide))))
                have e212_73_34 : g146_207 73 34 = (g146_207 73) 34 := rfl
                have e213_73_36 : g146_207 73 36 = (g146_207 73) 36 := rfl
                have e214_73_26 : g146_207 73 26 = (h 73) 26 := ((hG_207.2 26 (by decide))).trans (((hG_200.2 26 (by decide))).trans (((hG_192.2 26 (by decide))).trans (hF29_140.2 26 (by decide))))
                have e215_73_29 : g146_207 73 29 = (h 73) 29 := ((hG_207.2 29 (by decide))).trans (((hG_200.2 29 (by decide))).trans (((hG_192.2 29 (by decide))).trans (hF29_140.2 29 (by decide))))
                refine iv_X12_267 hK (s_X12_wake_73 x ((y + (2 * z134_200)) + z146_207) g146_207 hT_207 (by first | omega | (simp [up, setR] <;> omega)) (by first | omega | (simp [up, setR] <;> omega)) (by rewrite [e208_74, e209_75]; first | assumption | exact htb) (by rewrite [e210_73_32]; first | omega | (simp [up, setR] <;> omega)) (by rewrite [e211_73_29, e212_73_34, e213_73_36]; first | omega | (simp [up, setR] <;> omega)) (by rewrite [e214_73_26, e215_73_29]; first | omega | (simp [up, setR] <;> omega))) (by decide) rfl ⟨by decide, by decide⟩ (by decide) rfl rfl (Nat.le_of_ble_eq_true rfl) ⟨by decide, by decide⟩ dX12_jump_162 ?_
                intro r9 g162_216 hp9
                obtain ⟨⟨hT_216, hG_216⟩, hr9, pa_216, pm_216, pz_216⟩ := hp9
                rw [hr9]
                have hF_216 : FRM [73, 84, 85, 93, 96, 97, 98] [28, 32, 33, 34, 36, 39] h g162_216 := FRM_tr hF_207 hG_216 (by decide) (by decide)
                rw [show g146_207 73 29 = (h 73) 29 from ((hG_207.2 29 (by decide))).trans (((hG_200.2 29 (by decide))).trans (((hG_192.2 29 (by decide))).trans (hF29_140.2 29 (by decide))))] at pm_216
                rw [show g146_207 73 34 = (g146_207 73) 34 from rfl] at pm_216
                rw [show g146_207 73 36 = (g146_207 73) 36 from rfl] at pm_216
                rw [show g146_207 93 = w29_140 93 from ((hG_207.1 93 (by decide))).trans (((hG_200.1 93 (by decide))).trans (hG_192.1 93 (by decide)))] at pz_216
                have pz_at162 := pz_216
                show TT K ly 0 0 165 [(6, vI z146_207), (5, vI z134_200), (0, vR 73), (1, vI x), (2, vI y), (3, vI q), (4, vI f)] [] g162_216
                refine TT_iconst hK dX12_jump_165 ?_
                refine TT_iload hK 1 rfl dX12_jump_166 ?_
                refine TT_imul hK dX12_jump_168 ?_
                refine TT_iload hK 0 rfl dX12_jump_169 ?_
                refine TT_iadd hK dX12_jump_171 ?_
                refine TT_iconst hK dX12_jump_172 ?_
                refine TT_iadd hK dX12_jump_173 ?_
                refine TT_iret hK hQ ?_ dX12_jump_174
                have e217_73_32 : g162_216 73 32 = (g162_216 73) 32 := rfl
                have e218_73_34 : g162_216 73 34 = (g162_216 73) 34 := rfl
                have e219_73_36 : g162_216 73 36 = (g162_216 73) 36 := rfl
                have e220_73_34 : g162_216 73 34 = (g162_216 73) 34 := rfl
                have e221_73_36 : g162_216 73 36 = (g162_216 73) 36 := rfl
                exact ⟨⟨hT_216, hF_216⟩, (((2 * z134_200) + z146_207) + 1), rfl, (by omega), (by rewrite [e217_73_32]; omega), (by rewrite [e218_73_34, e219_73_36]; omega), (by omega), (by rewrite [e220_73_34, e221_73_36]; intro w h1 h2 h5; first | omega | (rw [k93]; omega) | (have k8 := pz_at162 w (h 81 (h 73 26)) h1 h2 (by omega) (by omega) (hz9 (by omega) _ (by omega) (by omega)); rw [k93] at k8; omega))⟩
              · refine TT_iconst hK dX12_jump_123 ?_
                refine TT_iret hK hQ ?_ dX12_jump_124
                have e222_73_32 : g117_192 73 32 = (g117_192 73) 32 := rfl
                have e223_73_34 : g117_192 73 34 = (g117_192 73) 34 := rfl
                have e224_73_36 : g117_192 73 36 = (g117_192 73) 36 := rfl
                have e225_73_34 : g117_192 73 34 = (g117_192 73) 34 := rfl
                have e226_73_36 : g117_192 73 36 = (g117_192 73) 36 := rfl
                have e227_93 : g117_192 93 = w29_140 93 := (hG_192.1 93 (by decide))
                exact ⟨⟨hT_192, hF_192⟩, 4, rfl, (by omega), (by rewrite [e222_73_32]; omega), (by rewrite [e223_73_34, e224_73_36]; omega), (by omega), (by rewrite [e225_73_34, e226_73_36, e227_93]; intro w h1 h2 h5; first | omega | (rw [k93]; omega) | (have k8 := pz_at162 w (h 81 (h 73 26)) h1 h2 (by omega) (by omega) (hz9 (by omega) _ (by omega) (by omega)); rw [k93] at k8; omega))⟩
          · refine TT_iconst hK dX12_jump_101 ?_
            refine TT_iret hK hQ ?_ dX12_jump_102
            have e228_73_32 : w29_140 73 32 = (w29_140 73) 32 := rfl
            have e229_73_34 : w29_140 73 34 = (w29_140 73) 34 := rfl
            have e230_73_36 : w29_140 73 36 = (w29_140 73) 36 := rfl
            have e231_73_34 : w29_140 73 34 = (w29_140 73) 34 := rfl
            have e232_73_36 : w29_140 73 36 = (w29_140 73) 36 := rfl
            exact ⟨⟨hT29_140, hF29_140⟩, 0, rfl, (by omega), (by rewrite [e228_73_32]; omega), (by rewrite [e229_73_34, e230_73_36]; omega), (by omega), (by rewrite [e231_73_34, e232_73_36]; intro w h1 h2 h5; first | omega | (rw [k93]; omega) | (have k8 := pz_at162 w (h 81 (h 73 26)) h1 h2 (by omega) (by omega) (hz9 (by omega) _ (by omega) (by omega)); rw [k93] at k8; omega))⟩
        · refine TT_iload_n hK rfl 3 rfl dX12_jump_35 ?_
          refine TT_if_eq hK (tgt := 97) (irm (by omega) (by omega)) dX12_jump_36 (by decide) (fun hb36_233 => ?_) (fun hb36_233 => ?_)
          · refine TT_iload_n hK rfl 3 rfl dX12_jump_97 ?_
            refine TT_if_ne hK (tgt := 103) (irm (by omega) (by omega)) dX12_jump_98 (by decide) (fun hb98_234 => ?_) (fun hb98_234 => ?_)
            · exfalso; omega
            · refine TT_iconst hK dX12_jump_101 ?_
              refine TT_iret hK hQ ?_ dX12_jump_102
              have e235_73_32 : w29_140 73 32 = (w29_140 73) 32 := rfl
              have e236_73_34 : w29_140 73 34 = (w29_140 73) 34 := rfl
              have e237_73_36 : w29_140 73 36 = (w29_140 73) 36 := rfl
              have e238_73_34 : w29_140 73 34 = (w29_140 73) 34 := rfl
              have e239_73_36 : w29_140 73 36 = (w29_140 73) 36 := rfl
              exact ⟨⟨hT29_140, hF29_140⟩, 0, rfl, (by omega), (by rewrite [e235_73_32]; omega), (by rewrite [e236_73_34, e237_73_36]; omega), (by omega), (by rewrite [e238_73_34, e239_73_36]; intro w h1 h2 h5; first | omega | (rw [k93]; omega) | (have k8 := pz_at162 w (h 81 (h 73 26)) h1 h2 (by omega) (by omega) (hz9 (by omega) _ (by omega) (by omega)); rw [k93] at k8; omega))⟩
          · refine TT_aload_n hK rfl 0 rfl dX12_jump_39 ?_
            refine TT_iload_n hK rfl 1 rfl dX12_jump_40 ?_
            refine TT_iload hK 5 rfl dX12_jump_41 ?_
            refine iv_X12_271 hK (s_X12_isUntouched_73 x r w29_140 hT29_140 (by first | omega | (simp [up, setR] <;> omega)) (by first | omega | (simp [up, setR] <;> omega))) (by decide) rfl ⟨by decide, by decide⟩ (by decide) rfl rfl (Nat.le_of_ble_eq_true rfl) ⟨by decide, by decide⟩ dX12_jump_43 ?_
            intro r9 g43_240 hp9
            obtain ⟨⟨hT_240, hG_240⟩, z43_240, hr9, hz_240, p1_240⟩ := hp9
            rw [hr9]
            have hF_240 : FRM [73, 84, 85, 93, 96, 97, 98] [28, 32, 33, 34, 36, 39] h g43_240 := FRM_tr hF29_140 hG_240 (by decide) (by decide)
            show TT K ly 0 0 46 [(0, vR 73), (1, vI x), (2, vI y), (3, vI q), (4, vI f), (5, vI r)] [vI z43_240] g43_240
            refine TT_if_eq hK (tgt := 63) (irm (by omega) (by omega)) dX12_jump_46 (by decide) (fun hb46_241 => ?_) (fun hb46_241 => ?_)
            · refine TT_iconst hK dX12_jump_63 ?_
              refine TT_istore_n hK rfl (lv' := [(3, vI 0), (0, vR 73), (1, vI x), (2, vI y), (4, vI f), (5, vI r)]) (by decide) rfl dX12_jump_64 ?_
              refine TT_iload_n hK rfl 0 rfl dX12_jump_65 ?_
              refine TT_if_eq hK (tgt := 87) (by decide) dX12_jump_66 (by decide) (fun hb66_242 => ?_) (fun hb66_242 => ?_)
              · refine TT_iload hK 4 rfl dX12_jump_87 ?_
                refine TT_istore hK (lv' := [(4, vI f), (3, vI 0), (0, vR 73), (1, vI x), (2, vI y), (5, vI r)]) (by decide) rfl dX12_jump_89 ?_
                refine TT_iinc hK (v := r - 1) (lv' := [(5, vI (r - 1)), (4, vI f), (3, vI 0), (0, vR 73), (1, vI x), (2, vI y)]) 5 rfl (by omega) (by decide) rfl dX12_jump_91 ?_
                refine TT_goto hK (tgt := 29) dX12_jump_94 (by decide) ?_
                refine TT_sub [3, 4, 5, 2, 1, 0] rfl ?_
                have e243_93 : g43_240 93 = w29_140 93 := (hG_240.1 93 (by decide))
                have e244_93 : g43_240 93 = w29_140 93 := (hG_240.1 93 (by decide))
                have e245_96 : g43_240 96 = w29_140 96 := (hG_240.1 96 (by decide))
                have e246_73_34 : g43_240 73 34 = (w29_140 73) 34 := congrFun (hG_240.1 73 (by decide)) 34
                have e247_73_36 : g43_240 73 36 = (w29_140 73) 36 := congrFun (hG_240.1 73 (by decide)) 36
                have e248_73_32 : g43_240 73 32 = (w29_140 73) 32 := congrFun (hG_240.1 73 (by decide)) 32
                exact ih140 0 f (r - 1) g43_240 hT_240 hF_240 (by first | omega | (simp [up, setR] <;> omega)) (by first | omega | (simp [up, setR] <;> omega)) (by first | omega | (simp [up, setR] <;> omega)) (by first | omega | (simp [up, setR] <;> omega)) (by rewrite [e243_93]; intro h0 j h1 h2; first | omega | (by_cases e : j = r; (subst e; omega); exact hz9 (by omega) j (by omega) h2)) (by rewrite [e244_93]; first | assumption | rfl) (by rewrite [e245_96]; first | omega | (simp [up, setR] <;> omega)) (by rewrite [e246_73_34]; first | omega | (simp [up, setR] <;> omega)) (by rewrite [e247_73_36]; first | omega | (simp [up, setR] <;> omega)) (by rewrite [e248_73_32]; first | omega | (simp [up, setR] <;> omega)) (by first | omega | (simp [up, setR] <;> omega))
              · exact absurd hb66_242 (by decide)
            · refine TT_aload_n hK rfl 0 rfl dX12_jump_49 ?_
              refine TT_iload_n hK rfl 1 rfl dX12_jump_50 ?_
              refine TT_iload hK 5 rfl dX12_jump_51 ?_
              refine iv_X12_261 hK (s_X12_context_73 x r g43_240 hT_240 (by first | omega | (simp [up, setR] <;> omega)) (by first | omega | (simp [up, setR] <;> omega))) (by decide) rfl ⟨by decide, by decide⟩ (by decide) rfl rfl (Nat.le_of_ble_eq_true rfl) ⟨by decide, by decide⟩ dX12_jump_53 ?_
              intro r9 g53_249 hp9
              obtain ⟨⟨hT_249, hG_249⟩, z53_249, hr9, hz_249⟩ := hp9
              rw [hr9]
              have hF_249 : FRM [73, 84, 85, 93, 96, 97, 98] [28, 32, 33, 34, 36, 39] h g53_249 := FRM_tr hF_240 hG_249 (by decide) (by decide)
              show TT K ly 0 0 56 [(0, vR 73), (1, vI x), (2, vI y), (3, vI q), (4, vI f), (5, vI r)] [vI z53_249] g53_249
              refine TT_if_ne hK (tgt := 63) (irm (by omega) (by omega)) dX12_jump_56 (by decide) (fun hb56_250 => ?_) (fun hb56_250 => ?_)
              · refine TT_iconst hK dX12_jump_63 ?_
                refine TT_istore_n hK rfl (lv' := [(3, vI 0), (0, vR 73), (1, vI x), (2, vI y), (4, vI f), (5, vI r)]) (by decide) rfl dX12_jump_64 ?_
                refine TT_iload_n hK rfl 0 rfl dX12_jump_65 ?_
                refine TT_if_eq hK (tgt := 87) (by decide) dX12_jump_66 (by decide) (fun hb66_251 => ?_) (fun hb66_251 => ?_)
                · refine TT_iload hK 4 rfl dX12_jump_87 ?_
                  refine TT_istore hK (lv' := [(4, vI f), (3, vI 0), (0, vR 73), (1, vI x), (2, vI y), (5, vI r)]) (by decide) rfl dX12_jump_89 ?_
                  refine TT_iinc hK (v := r - 1) (lv' := [(5, vI (r - 1)), (4, vI f), (3, vI 0), (0, vR 73), (1, vI x), (2, vI y)]) 5 rfl (by omega) (by decide) rfl dX12_jump_91 ?_
                  refine TT_goto hK (tgt := 29) dX12_jump_94 (by decide) ?_
                  refine TT_sub [3, 4, 5, 2, 1, 0] rfl ?_
                  have e252_93 : g53_249 93 = w29_140 93 := ((hG_249.1 93 (by decide))).trans (hG_240.1 93 (by decide))
                  have e253_93 : g53_249 93 = w29_140 93 := ((hG_249.1 93 (by decide))).trans (hG_240.1 93 (by decide))
                  have e254_96 : g53_249 96 = w29_140 96 := ((hG_249.1 96 (by decide))).trans (hG_240.1 96 (by decide))
                  have e255_73_34 : g53_249 73 34 = (w29_140 73) 34 := (congrFun (hG_249.1 73 (by decide)) 34).trans (congrFun (hG_240.1 73 (by decide)) 34)
                  have e256_73_36 : g53_249 73 36 = (w29_140 73) 36 := (congrFun (hG_249.1 73 (by decide)) 36).trans (congrFun (hG_240.1 73 (by decide)) 36)
                  have e257_73_32 : g53_249 73 32 = (w29_140 73) 32 := (congrFun (hG_249.1 73 (by decide)) 32).trans (congrFun (hG_240.1 73 (by decide)) 32)
                  exact ih140 0 f (r - 1) g53_249 hT_249 hF_249 (by first | omega | (simp [up, setR] <;> omega)) (by first | omega | (simp [up, setR] <;> omega)) (by first | omega | (simp [up, setR] <;> omega)) (by first | omega | (simp [up, setR] <;> omega)) (by rewrite [e252_93]; intro h0 j h1 h2; first | omega | (by_cases e : j = r; (subst e; omega); exact hz9 (by omega) j (by omega) h2)) (by rewrite [e253_93]; first | assumption | rfl) (by rewrite [e254_96]; first | omega | (simp [up, setR] <;> omega)) (by rewrite [e255_73_34]; first | omega | (simp [up, setR] <;> omega)) (by rewrite [e256_73_36]; first | omega | (simp [up, setR] <;> omega)) (by rewrite [e257_73_32]; first | omega | (simp [up, setR] <;> omega)) (by first | omega | (simp [up, setR] <;> omega))
                · exact absurd hb66_251 (by decide)
              · refine TT_iconst hK dX12_jump_59 ?_
                refine TT_goto hK (tgt := 64) dX12_jump_60 (by decide) ?_
                refine TT_istore_n hK rfl (lv' := [(3, vI 1), (0, vR 73), (1, vI x), (2, vI y), (4, vI f), (5, vI r)]) (by decide) rfl dX12_jump_64 ?_
                refine TT_iload_n hK rfl 0 rfl dX12_jump_65 ?_
                refine TT_if_eq hK (tgt := 87) (by decide) dX12_jump_66 (by decide) (fun hb66_258 => ?_) (fun hb66_258 => ?_)
                · exact absurd hb66_258 (by decide)
                · refine TT_aload_n hK rfl 1 rfl dX12_jump_69 ?_
                  refine TT_iload_n hK rfl 2 rfl dX12_jump_70 ?_
                  refine TT_iload hK 5 rfl dX12_jump_71 ?_
                  refine iv_X12_264 hK (s_X12_bitAt_73 x r g53_249 hT_249 (by first | omega | (simp [up, setR] <;> omega)) (by first | omega | (simp [up, setR] <;> omega))) (by decide) rfl ⟨by decide, by decide⟩ (by decide) rfl rfl (Nat.le_of_ble_eq_true rfl) ⟨by decide, by decide⟩ dX12_jump_73 ?_
                  intro r9 g73_259 hp9
                  obtain ⟨⟨hT_259, hG_259⟩, z73_259, hr9, hz_259⟩ := hp9
                  rw [hr9]
                  have hF_259 : FRM [73, 84, 85, 93, 96, 97, 98] [28, 32, 33, 34, 36, 39] h g73_259 := FRM_tr hF_249 hG_259 (by decide) (by decide)
                  show TT K ly 0 0 76 [(3, vI 1), (0, vR 73), (1, vI x), (2, vI y), (4, vI f), (5, vI r)] [vI z73_259] g73_259
                  refine TT_iconst hK dX12_jump_76 ?_
                  refine TT_icmp_ne hK (tgt := 87) (irm (by omega) (by omega)) (by decide) dX12_jump_77 (by decide) (fun hb77_260 => ?_) (fun hb77_260 => ?_)
                  · refine TT_iload hK 4 rfl dX12_jump_87 ?_
                    refine TT_istore hK (lv' := [(4, vI f), (3, vI 1), (0, vR 73), (1, vI x), (2, vI y), (5, vI r)]) (by decide) rfl dX12_jump_89 ?_
                    refine TT_iinc hK (v := r - 1) (lv' := [(5, vI (r - 1)), (4, vI f), (3, vI 1), (0, vR 73), (1, vI x), (2, vI y)]) 5 rfl (by omega) (by decide) rfl dX12_jump_91 ?_
                    refine TT_goto hK (tgt := 29) dX12_jump_94 (by decide) ?_
                    refine TT_sub [3, 4, 5, 2, 1, 0] rfl ?_
                    have e261_93 : g73_259 93 = w29_140 93 := ((hG_259.1 93 (by decide))).trans (((hG_249.1 93 (by decide))).trans (hG_240.1 93 (by decide)))
                    have e262_93 : g73_259 93 = w29_140 93 := ((hG_259.1 93 (by decide))).trans (((hG_249.1 93 (by decide))).trans (hG_240.1 93 (by decide)))
                    have e263_96 : g73_259 96 = w29_140 96 := ((hG_259.1 96 (by decide))).trans (((hG_249.1 96 (by decide))).trans (hG_240.1 96 (by decide)))
                    have e264_73_34 : g73_259 73 34 = (w29_140 73) 34 := (congrFun (hG_259.1 73 (by decide)) 34).trans ((congrFun (hG_249.1 73 (by decide)) 34).trans (congrFun (hG_240.1 73 (by decide)) 34))
                    have e265_73_36 : g73_259 73 36 = (w29_140 73) 36 := (congrFun (hG_259.1 73 (by decide)) 36).trans ((congrFun (hG_249.1 73 (by decide)) 36).trans (congrFun (hG_240.1 73 (by decide)) 36))
                    have e266_73_32 : g73_259 73 32 = (w29_140 73) 32 := (congrFun (hG_259.1 73 (by decide)) 32).trans ((congrFun (hG_249.1 73 (by decide)) 32).trans (congrFun (hG_240.1 73 (by decide)) 32))
                    exact ih140 1 f (r - 1) g73_259 hT_259 hF_259 (by first | omega | (simp [up, setR] <;> omega)) (by first | omega | (simp [up, setR] <;> omega)) (by first | omega | (simp [up, setR] <;> omega)) (by first | omega | (simp [up, setR] <;> omega)) (by rewrite [e261_93]; intro h0 j h1 h2; first | omega | (by_cases e : j = r; (subst e; omega); exact hz9 (by omega) j (by omega) h2)) (by rewrite [e262_93]; first | assumption | rfl) (by rewrite [e263_96]; first | omega | (simp [up, setR] <;> omega)) (by rewrite [e264_73_34]; first | omega | (simp [up, setR] <;> omega)) (by rewrite [e265_73_36]; first | omega | (simp [up, setR] <;> omega)) (by rewrite [e266_73_32]; first | omega | (simp [up, setR] <;> omega)) (by first | omega | (simp [up, setR] <;> omega))
                  · refine TT_iload hK 5 rfl dX12_jump_80 ?_
                    refine TT_iload_n hK rfl 3 rfl dX12_jump_82 ?_
                    refine TT_isub hK dX12_jump_83 ?_
                    refine TT_goto hK (tgt := 89) dX12_jump_84 (by decide) ?_
                    refine TT_istore hK (lv' := [(4, vI (r - y)), (3, vI 1), (0, vR 73), (1, vI x), (2, vI y), (5, vI r)]) (by decide) rfl dX12_jump_89 ?_
                    refine TT_iinc hK (v := r - 1) (lv' := [(5, vI (r - 1)), (4, vI (r - y)), (3, vI 1), (0, vR 73), (1, vI x), (2, vI y)]) 5 rfl (by omega) (by decide) rfl dX12_jump_91 ?_
                    refine TT_goto hK (tgt := 29) dX12_jump_94 (by decide) ?_
                    refine TT_sub [3, 4, 5, 2, 1, 0] rfl ?_
                    have e267_93 : g73_259 93 = w29_140 93 := ((hG_259.1 93 (by decide))).trans (((hG_249.1 93 (by decide))).trans (hG_240.1 93 (by decide)))
                    have e268_93 : g73_259 93 = w29_140 93 := ((hG_259.1 93 (by decide))).trans (((hG_249.1 93 (by decide))).trans (hG_240.1 93 (by decide)))
                    have e269_96 : g73_259 96 = w29_140 96 := ((hG_259.1 96 (by decide))).trans (((hG_249.1 96 (by decide))).trans (hG_240.1 96 (by decide)))
                    have e270_73_34 : g73_259 73 34 = (w29_140 73) 34 := (congrFun (hG_259.1 73 (by decide)) 34).trans ((congrFun (hG_249.1 73 (by decide)) 34).trans (congrFun (hG_240.1 73 (by decide)) 34))
                    have e271_73_36 : g73_259 73 36 = (w29_140 73) 36 := (congrFun (hG_259.1 73 (by decide)) 36).trans ((congrFun (hG_249.1 73 (by decide)) 36).trans (congrFun (hG_240.1 73 (by decide)) 36))
                    have e272_73_32 : g73_259 73 32 = (w29_140 73) 32 := (congrFun (hG_259.1 73 (by decide)) 32).trans ((congrFun (hG_249.1 73 (by decide)) 32).trans (congrFun (hG_240.1 73 (by decide)) 32))
                    exact ih140 1 (r - y) (r - 1) g73_259 hT_259 hF_259 (by first | omega | (simp [up, setR] <;> omega)) (by first | omega | (simp [up, setR] <;> omega)) (by first | omega | (simp [up, setR] <;> omega)) (by first | omega | (simp [up, setR] <;> omega)) (by rewrite [e267_93]; intro h0 j h1 h2; first | omega | (by_cases e : j = r; (subst e; omega); exact hz9 (by omega) j (by omega) h2)) (by rewrite [e268_93]; first | assumption | rfl) (by rewrite [e269_96]; first | omega | (simp [up, setR] <;> omega)) (by rewrite [e270_73_34]; first | omega | (simp [up, setR] <;> omega)) (by rewrite [e271_73_36]; first | omega | (simp [up, setR] <;> omega)) (by rewrite [e272_73_32]; first | omega | (simp [up, setR] <;> omega)) (by first | omega | (simp [up, setR] <;> omega))
    refine TT_sub [3, 4, 5, 2, 1, 0] rfl ?_
    have e273_73_34 : h 73 34 = (h 73) 34 := rfl
    have e274_73_36 : h 73 36 = (h 73) 36 := rfl
    have e275_73_32 : h 73 32 = (h 73) 32 := rfl
    exact L29_140 ((((y + 3) - y + 1).toNat) + 1) 1 4 (y + 3) h hT hF (by first | omega | (simp [up, setR] <;> omega)) (by first | omega | (simp [up, setR] <;> omega)) (by first | omega | (simp [up, setR] <;> omega)) (by first | omega | (simp [up, setR] <;> omega)) (by intro _ j h1 h2; omega) (by rfl) (by first | omega | (simp [up, setR] <;> omega)) (by rewrite [e273_73_34]; first | omega | (simp [up, setR] <;> omega)) (by rewrite [e274_73_36]; first | omega | (simp [up, setR] <;> omega)) (by rewrite [e275_73_32]; first | omega | (simp [up, setR] <;> omega)) (Nat.lt_succ_self _)

set_option maxRecDepth 20000 in
theorem s_jump_x (m : Int) (E0 : ES_) (D0 : Int × DS_) (M : Int → Int) (s : TS_) (x y : Int) (h : Hp_) (hT : TY h) (hx : 0 ≤ x ∧ x ≤ 7) (hy : y = 0 ∨ y = 4) (htb : TBL (h 74) (h 75)) (ha : 32768 ≤ (h 73 32) ∧ (h 73 32) < 65536) (hm : (h 73 29) = 0 → 1 ≤ (h 73 34) ∧ 1 ≤ (h 73 36) ∧ 7 * (h 73 36) - (h 73 34) + PhS (h 96) + 36 ≤ 22300) (hw1 : (h 73 29) = 1 → 10 ≤ (h 73 26)) (hmd : m = 0 ∨ m = 2) (hR : RRQ m E0 D0 M h s) (hxw : x < (h 80) (h 73 26)) (hyg : y < (h 81) (h 73 26)) (h8 : (h 80) (h 73 26) ≤ 8 ∧ (h 81) (h 73 26) ≤ 8) (hpl : 0 ≤ (h 73 27) ∧ (h 73 27) ≤ 20) : Ctr yX12_jump cX12_jump 7 (some .int) (rmd 5) ly ly 0 0 [vR 73, vI x, vI y] h (fun r h' => (TY h' ∧ FRM [73, 85, 93, 96, 97, 98] [28, 32, 33, 34, 36, 39] h h') ∧ ∃ z : Int, r = some (vI z) ∧ (0 ≤ z ∧ z ≤ 4) ∧ (32768 ≤ (h' 73 32) ∧ (h' 73 32) < 65536) ∧ ((h 73 29) = 0 → 1 ≤ (h' 73 34) ∧ 1 ≤ (h' 73 36) ∧ 7 * (h' 73 36) - (h' 73 34) + PhS (h' 96) ≤ 7 * (h 73 36) - (h 73 34) + PhS (h 96) + 36) ∧ (z = 0 ∨ y + 4 ≤ (h 81) (h 73 26)) ∧ (∀ w : Int, x < w → w ≤ 8 → (h 73 29) = 0 → 7 * (h' 73 36) - (h' 73 34) + PhS (h' 96) + 27 * ZC w ((h 81) (h 73 26)) (h' 93) ≤ 7 * (h 73 36) - (h 73 34) + PhS (h 96) + 27 * ZC w ((h 81) (h 73 26)) (h 93) + 9 * z) ∧ (∀ j : Int, j < 640 → (h' 84) j = (h 84) j ∧ (h' 85) j = (h 85) j) ∧ (RRQ m E0 D0 M h' (preT M ((h 82) (h 73 26)) (h 73 27) (10 * y + x + 11) (min 4 ((h 81) (h 73 26) - y)) s) ∧ z = min 4 (nxT s.1 s.2.1 M ((h 82) (h 73 26)) (h 73 27) (10 * y + x + 11) (min 4 ((h 81) (h 73 26) - y))))) := by
  refine Ctr_of (by decide) (Nat.le_of_ble_eq_true rfl) ⟨Nat.le_refl _, Nat.le_refl _⟩ (fun K hK hQ _ => ?_)
  show TT K ly 0 0 0 [(0, vR 73), (1, vI x), (2, vI y)] [] h
  have hF : FRM [73, 85, 93, 96, 97, 98] [28, 32, 33, 34, 36, 39] h h := FRM_rf _ _ _
  have hmq : h 73 29 = m := hR.2.2.2.2.1
  refine TT_iload_n hK rfl 2 rfl dX12_jump_0 ?_
  refine TT_iconst hK dX12_jump_1 ?_
  refine TT_iadd hK dX12_jump_2 ?_
  refine TT_aload_n hK rfl 0 rfl dX12_jump_3 ?_
  refine gf_X12_38 hK (by decide) rfl (q := 81) rfl rfl dX12_jump_4 ?_
  refine TT_aload_n hK rfl 0 rfl dX12_jump_7 ?_
  refine gf_X12_246 hK (by decide) rfl (v := (h 73) 26) rfl dX12_jump_8 ?_
  have r1 := ty_73_26 (v := (h 73) 26) hT rfl
  refine TT_iald hK (o := 81) (n := 20) (by decide) rfl (by first | omega | (simp [up, setR] <;> omega)) (by first | omega | (simp [up, setR] <;> omega)) (v := (h 81) ((h 73) 26)) rfl dX12_jump_11 ?_
  have r2 := ty_81 (i := (h 73) 26) (v := (h 81) ((h 73) 26)) hT rfl (by omega) (by omega)
  refine TT_icmp_gt hK (tgt := 19) (irm (by omega) (by omega)) (irm (by omega) (by omega)) dX12_jump_12 (by decide) (fun hb12_3 => ?_) (fun hb12_3 => ?_)
  · refine TT_iconst hK dX12_jump_19 ?_
    refine TT_istore_n hK rfl (lv' := [(3, vI 0), (0, vR 73), (1, vI x), (2, vI y)]) (by decide) rfl dX12_jump_20 ?_
    refine TT_iconst hK dX12_jump_21 ?_
    refine TT_istore hK (lv' := [(4, vI 4), (3, vI 0), (0, vR 73), (1, vI x), (2, vI y)]) (by decide) rfl dX12_jump_22 ?_
    refine TT_iload_n hK rfl 4 rfl dX12_jump_24 ?_
    refine TT_iconst hK dX12_jump_25 ?_
    refine TT_iadd hK dX12_jump_26 ?_
    refine TT_istore hK (lv' := [(5, vI (y + 3)), (4, vI 4), (3, vI 0), (0, vR 73), (1, vI x), (2, vI y)]) (by decide) rfl dX12_jump_27 ?_
    have L29_4 : ∀ (k4 : Nat) (q : Int) (f : Int) (r : Int) (w29_4 : Hp_), TY w29_4 → FRM [73, 85, 93, 96, 97, 98] [28, 32, 33, 34, 36, 39] h w29_4 → (0 ≤ q ∧ q ≤ 1) → (0 ≤ f ∧ f ≤ 4) → (y - 1 ≤ r ∧ r ≤ y + 3) → (q = 1 → y + 4 ≤ h 81 (h 73 26)) → (q = 1 → ∀ j, r < j → j ≤ y + 3 → (w29_4 93) (10 * j + x + 11) = 0) → ((w29_4 93) = h 93) → (PhS (w29_4 96) = PhS (h 96)) → ((w29_4 73 34) = h 73 34) → ((w29_4 73 36) = h 73 36) → ((w29_4 73 32) = h 73 32) → (∀ j : Int, j < 640 → (w29_4 84) j = h 84 j ∧ (w29_4 85) j = h 85 j) → (RRQ m E0 D0 M w29_4 s) → (JLQ M s (h 82 (h 73 26)) (h 73 27) (10 * y + x + 11) (min 4 (h 81 (h 73 26) - y)) (r - y) q f) → (r - y + 1).toNat < k4 → TT K ly 0 0 29 [(0, vR 73), (1, vI x), (2, vI y), (3, vI q), (4, vI f), (5, vI r)] [] w29_4 := by
      intro k4
      induction k4 with
      | zero => intro q f r w29_4 hT29_4 hF29_4 hq hf hr he hz9 k93 k96 k34 k36 k32 pki hRw hJ hk4; exact absurd hk4 (Nat.not_lt_zero _)
      | succ k4 ih4 =>
        intro q f r w29_4 hT29_4 hF29_4 hq hf hr he hz9 k93 k96 k34 k36 k32 pki hRw hJ hk4
        refine TT_iload hK 5 rfl dX12_jump_29 ?_
        refine TT_iload_n hK rfl 2 rfl dX12_jump_31 ?_
        refine TT_icmp_lt hK (tgt := 97) (irm (by omega) (by omega)) (irm (by omega) (by omega)) dX12_jump_32 (by decide) (fun hb32_5 => ?_) (fun hb32_5 => ?_)
        · refine TT_iload_n hK rfl 3 rfl dX12_jump_97 ?_
          refine TT_if_ne hK (tgt := 103) (irm (by omega) (by omega)) dX12_jump_98 (by decide) (fun hb98_6 => ?_) (fun hb98_6 => ?_)
          · refine TT_aload_n hK rfl 0 rfl dX12_jump_103 ?_
            refine TT_bipush hK (by decide) dX12_jump_104 ?_
            refine TT_iload hK 4 rfl dX12_jump_106 ?_
            refine TT_iconst hK dX12_jump_108 ?_
            refine TT_icmp_ge hK (tgt := 116) (irm (by omega) (by omega)) (by decide) dX12_jump_109 (by decide) (fun hb109_7 => ?_) (fun hb109_7 => ?_)
            · refine TT_iconst hK dX12_jump_116 ?_
              have e8_74 : w29_4 74 = h 74 := (hF29_4.1 74 (by decide))
              have e9_75 : w29_4 75 = h 75 := (hF29_4.1 75 (by decide))
              have e10_73_32 : w29_4 73 32 = (w29_4 73) 32 := rfl
              have e11_73_29 : w29_4 73 29 = (h 73) 29 := (hF29_4.2 29 (by decide))
              have e12_73_34 : w29_4 73 34 = (w29_4 73) 34 := rfl
              have e13_73_36 : w29_4 73 36 = (w29_4 73) 36 := rfl
              refine iv_X12_258 hK (s_code_e m E0 D0 M s 17 0 w29_4 hT29_4 (by first | omega | (simp [up, setR] <;> omega)) (by first | omega | (simp [up, setR] <;> omega)) (by rewrite [e8_74, e9_75]; first | assumption | exact htb) (by rewrite [e10_73_32]; first | omega | (simp [up, setR] <;> omega)) (by rewrite [e11_73_29, e12_73_34, e13_73_36]; first | omega | (simp [up, setR] <;> omega)) (by exact hmd) (by exact hRw)) (by decide) rfl ⟨by decide, by decide⟩ (by decide) rfl rfl (Nat.le_of_ble_eq_true rfl) ⟨by decide, by decide⟩ dX12_jump_117 ?_
              intro r9 g117_14 hp9
              obtain ⟨⟨hT_14, hG_14⟩, z117_14, hr9, hz_14, pa_14, pm_14, pc_14, cq_14⟩ := hp9
              rw [hr9]
              have hF_14 : FRM [73, 85, 93, 96, 97, 98] [28, 32, 33, 34, 36, 39] h g117_14 := FRM_tr hF29_4 hG_14 (by decide) (by decide)
              rw [show w29_4 73 29 = (h 73) 29 from (hF29_4.2 29 (by decide))] at pm_14
              rw [show w29_4 73 34 = (w29_4 73) 34 from rfl] at pm_14
              rw [show w29_4 73 36 = (w29_4 73) 36 from rfl] at pm_14
              rw [show w29_4 73 29 = (h 73) 29 from (hF29_4.2 29 (by decide))] at pc_14
              have cq_at117 := cq_14
              show TT K ly 0 0 120 [(0, vR 73), (1, vI x), (2, vI y), (3, vI q), (4, vI f), (5, vI r)] [vI z117_14] g117_14
              refine TT_if_ne hK (tgt := 125) (irm (by omega) (by omega)) dX12_jump_120 (by decide) (fun hb120_15 => ?_) (fun hb120_15 => ?_)
              · refine TT_aload_n hK rfl 0 rfl dX12_jump_125 ?_
                refine TT_bipush hK (by decide) dX12_jump_126 ?_
                refine TT_iload hK 4 rfl dX12_jump_128 ?_
                refine TT_iconst hK dX12_jump_130 ?_
                refine TT_idivn hK (irm (by omega) (by omega)) (by decide) (by first | omega | (simp [up, setR] <;> omega)) (by first | omega | (simp [up, setR] <;> omega)) dX12_jump_131 ?_
                refine TT_iconst hK dX12_jump_132 ?_
                refine TT_iremn hK (irm (by omega) (by omega)) (by decide) (by first | omega | (simp [up, setR] <;> omega)) (by first | omega | (simp [up, setR] <;> omega)) dX12_jump_133 ?_
                have e16_74 : g117_14 74 = h 74 := ((hG_14.1 74 (by decide))).trans (hF29_4.1 74 (by decide))
                have e17_75 : g117_14 75 = h 75 := ((hG_14.1 75 (by decide))).trans (hF29_4.1 75 (by decide))
                have e18_73_32 : g117_14 73 32 = (g117_14 73) 32 := rfl
                have e19_73_29 : g117_14 73 29 = (h 73) 29 := ((hG_14.2 29 (by decide))).trans (hF29_4.2 29 (by decide))
                have e20_73_34 : g117_14 73 34 = (g117_14 73) 34 := rfl
                have e21_73_36 : g117_14 73 36 = (g117_14 73) 36 := rfl
                refine iv_X12_258 hK (s_code_e m E0 D0 M (evT s 17 1) 18 ((f / 2) % 2) g117_14 hT_14 (by first | omega | (simp [up, setR] <;> omega)) (by first | omega | (simp [up, setR] <;> omega)) (by rewrite [e16_74, e17_75]; first | assumption | exact htb) (by rewrite [e18_73_32]; first | omega | (simp [up, setR] <;> omega)) (by rewrite [e19_73_29, e20_73_34, e21_73_36]; first | omega | (simp [up, setR] <;> omega)) (by exact hmd) (by first | exact cq_at117.2 | (exfalso; have e9 := cq_at117.1; omega))) (by decide) rfl ⟨by decide, by decide⟩ (by decide) rfl rfl (Nat.le_of_ble_eq_true rfl) ⟨by decide, by decide⟩ dX12_jump_134 ?_
                intro r9 g134_22 hp9
                obtain ⟨⟨hT_22, hG_22⟩, z134_22, hr9, hz_22, pa_22, pm_22, pc_22, cq_22⟩ := hp9
                rw [hr9]
                have hF_22 : FRM [73, 85, 93, 96, 97, 98] [28, 32, 33, 34, 36, 39] h g134_22 := FRM_tr hF_14 hG_22 (by decide) (by decide)
                rw [show g117_14 73 29 = (h 73) 29 from ((hG_14.2 29 (by decide))).trans (hF29_4.2 29 (by decide))] at pm_22
                rw [show g117_14 73 34 = (g117_14 73) 34 from rfl] at pm_22
                rw [show g117_14 73 36 = (g117_14 73) 36 from rfl] at pm_22
                rw [show g117_14 73 29 = (h 73) 29 from ((hG_14.2 29 (by decide))).trans (hF29_4.2 29 (by decide))] at pc_22
                have cq_at134 := cq_22
                show TT K ly 0 0 137 [(0, vR 73), (1, vI x), (2, vI y), (3, vI q), (4, vI f), (5, vI r)] [vI z134_22] g134_22
                refine TT_cgI (b := (f / 2) % 2) (by exact cq_at134.1) ?_
                refine TT_istore hK (lv' := [(5, vI ((f / 2) % 2)), (0, vR 73), (1, vI x), (2, vI y), (3, vI q), (4, vI f)]) (by decide) rfl dX12_jump_137 ?_
                refine TT_aload_n hK rfl 1 rfl dX12_jump_139 ?_
                refine TT_bipush hK (by decide) dX12_jump_140 ?_
                refine TT_iload hK 5 rfl dX12_jump_142 ?_
                refine TT_iconst hK dX12_jump_144 ?_
                refine TT_iremn hK (irm (by omega) (by omega)) (by decide) (by first | omega | (simp [up, setR] <;> omega)) (by first | omega | (simp [up, setR] <;> omega)) dX12_jump_145 ?_
                have e23_74 : g134_22 74 = h 74 := ((hG_22.1 74 (by decide))).trans (((hG_14.1 74 (by decide))).trans (hF29_4.1 74 (by decide)))
                have e24_75 : g134_22 75 = h 75 := ((hG_22.1 75 (by decide))).trans (((hG_14.1 75 (by decide))).trans (hF29_4.1 75 (by decide)))
                have e25_73_32 : g134_22 73 32 = (g134_22 73) 32 := rfl
                have e26_73_29 : g134_22 73 29 = (h 73) 29 := ((hG_22.2 29 (by decide))).trans (((hG_14.2 29 (by decide))).trans (hF29_4.2 29 (by decide)))
                have e27_73_34 : g134_22 73 34 = (g134_22 73) 34 := rfl
                have e28_73_36 : g134_22 73 36 = (g134_22 73) 36 := rfl
                refine iv_X12_258 hK (s_code_e m E0 D0 M (evT (evT s 17 1) 18 (f / 2 % 2)) 18 (f % 2) g134_22 hT_22 (by first | omega | (simp [up, setR] <;> omega)) (by first | omega | (simp [up, setR] <;> omega)) (by rewrite [e23_74, e24_75]; first | assumption | exact htb) (by rewrite [e25_73_32]; first | omega | (simp [up, setR] <;> omega)) (by rewrite [e26_73_29, e27_73_34, e28_73_36]; first | omega | (simp [up, setR] <;> omega)) (by exact hmd) (by exact cq_at134.2)) (by decide) rfl ⟨by decide, by decide⟩ (by decide) rfl rfl (Nat.le_of_ble_eq_true rfl) ⟨by decide, by decide⟩ dX12_jump_146 ?_
                intro r9 g146_29 hp9
                obtain ⟨⟨hT_29, hG_29⟩, z146_29, hr9, hz_29, pa_29, pm_29, pc_29, cq_29⟩ := hp9
                rw [hr9]
                have hF_29 : FRM [73, 85, 93, 96, 97, 98] [28, 32, 33, 34, 36, 39] h g146_29 := FRM_tr hF_22 hG_29 (by decide) (by decide)
                rw [show g134_22 73 29 = (h 73) 29 from ((hG_22.2 29 (by decide))).trans (((hG_14.2 29 (by decide))).trans (hF29_4.2 29 (by decide)))] at pm_29
                rw [show g134_22 73 34 = (g134_22 73) 34 from rfl] at pm_29
                rw [show g134_22 73 36 = (g134_22 73) 36 from rfl] at pm_29
                rw [show g134_22 73 29 = (h 73) 29 from ((hG_22.2 29 (by decide))).trans (((hG_14.2 29 (by decide))).trans (hF29_4.2 29 (by decide)))] at pc_29
                have cq_at146 := cq_29
                show TT K ly 0 0 149 [(5, vI ((f / 2) % 2)), (0, vR 73), (1, vI x), (2, vI y), (3, vI q), (4, vI f)] [vI z146_29] g146_29
                refine TT_cgI (b := f % 2) (by exact cq_at146.1) ?_
                refine TT_istore hK (lv' := [(6, vI (f % 2)), (5, vI ((f / 2) % 2)), (0, vR 73), (1, vI x), (2, vI y), (3, vI q), (4, vI f)]) (by decide) rfl dX12_jump_149 ?_
                refine TT_aload_n hK rfl 2 rfl dX12_jump_151 ?_
                refine TT_iload_n hK rfl 3 rfl dX12_jump_152 ?_
                refine TT_iload_n hK rfl 4 rfl dX12_jump_153 ?_
                refine TT_iconst hK dX12_jump_154 ?_
                refine TT_iload hK 1 rfl dX12_jump_155 ?_
                refine TT_imul hK dX12_jump_157 ?_
                refine TT_iadd hK dX12_jump_158 ?_
                refine TT_iload hK 0 rfl dX12_jump_159 ?_
                refine TT_iadd hK dX12_jump_161 ?_
                refine TT_cgI (b := y + f) (by omega) ?_
                have e30_74 : g146_29 74 = h 74 := ((hG_29.1 74 (by decide))).trans (((hG_22.1 74 (by decide))).trans (((hG_14.1 74 (by decide))).trans (hF29_4.1 74 (by decide))))
                have e31_75 : g146_29 75 = h 75 := ((hG_29.1 75 (by decide))).trans (((hG_22.1 75 (by decide))).trans (((hG_14.1 75 (by decide))).trans (hF29_4.1 75 (by decide))))
                have e32_73_32 : g146_29 73 32 = (g146_29 73) 32 := rfl
                have e33_73_29 : g146_29 73 29 = (h 73) 29 := ((hG_29.2 29 (by decide))).trans (((hG_22.2 29 (by decide))).trans (((hG_14.2 29 (by decide))).trans (hF29_4.2 29 (by decide))))
                have e34_73_34 : g146_29 73 34 = (g146_29 73) 34 := rfl
                have e35_73_36 : g146_29 73 36 = (g146_29 73) 36 := rfl
                have e36_73_26 : g146_29 73 26 = (h 73) 26 := ((hG_29.2 26 (by decide))).trans (((hG_22.2 26 (by decide))).trans (((hG_14.2 26 (by decide))).trans (hF29_4.2 26 (by decide))))
                have e37_73_29 : g146_29 73 29 = (h 73) 29 := ((hG_29.2 29 (by decide))).trans (((hG_22.2 29 (by decide))).trans (((hG_14.2 29 (by decide))).trans (hF29_4.2 29 (by decide))))
                have e38_73_26 : g146_29 73 26 = (h 73) 26 := ((hG_29.2 26 (by decide))).trans (((hG_22.2 26 (by decide))).trans (((hG_14.2 26 (by decide))).trans (hF29_4.2 26 (by decide))))
                have e39_80 : g146_29 80 = h 80 := ((hG_29.1 80 (by decide))).trans (((hG_22.1 80 (by decide))).trans (((hG_14.1 80 (by decide))).trans (hF29_4.1 80 (by decide))))
                have e40_73_26 : g146_29 73 26 = (h 73) 26 := ((hG_29.2 26 (by decide))).trans (((hG_22.2 26 (by decide))).trans (((hG_14.2 26 (by decide))).trans (hF29_4.2 26 (by decide))))
                have e41_81 : g146_29 81 = h 81 := ((hG_29.1 81 (by decide))).trans (((hG_22.1 81 (by decide))).trans (((hG_14.1 81 (by decide))).trans (hF29_4.1 81 (by decide))))
                have e42_73_26 : g146_29 73 26 = (h 73) 26 := ((hG_29.2 26 (by decide))).trans (((hG_22.2 26 (by decide))).trans (((hG_14.2 26 (by decide))).trans (hF29_4.2 26 (by decide))))
                have e43_80 : g146_29 80 = h 80 := ((hG_29.1 80 (by decide))).trans (((hG_22.1 80 (by decide))).trans (((hG_14.1 80 (by decide))).trans (hF29_4.1 80 (by decide))))
                have e44_81 : g146_29 81 = h 81 := ((hG_29.1 81 (by decide))).trans (((hG_22.1 81 (by decide))).trans (((hG_14.1 81 (by decide))).trans (hF29_4.1 81 (by decide))))
                refine iv_X12_267 hK (s_wake_x m E0 D0 M (evT (evT (evT s 17 1) 18 (f / 2 % 2)) 18 (f % 2)) x (y + f) g146_29 hT_29 (by first | omega | (simp [up, setR] <;> omega)) (by first | omega | (simp [up, setR] <;> omega)) (by rewrite [e30_74, e31_75]; first | assumption | exact htb) (by rewrite [e32_73_32]; first | omega | (simp [up, setR] <;> omega)) (by rewrite [e33_73_29, e34_73_34, e35_73_36]; first | omega | (simp [up, setR] <;> omega)) (by rewrite [e36_73_26, e37_73_29]; first | omega | (simp [up, setR] <;> omega)) (by exact hmd) (by exact cq_at146.2) (by rewrite [e38_73_26, e39_80]; first | omega | (simp [up, setR] <;> omega)) (by rewrite [e40_73_26, e41_81]; first | omega | (simp [up, setR] <;> omega)) (by rewrite [e42_73_26, e43_80, e44_81]; first | omega | (simp [up, setR] <;> omega))) (by decide) rfl ⟨by decide, by decide⟩ (by decide) rfl rfl (Nat.le_of_ble_eq_true rfl) ⟨by decide, by decide⟩ dX12_jump_162 ?_
                intro r9 g162_45 hp9
                obtain ⟨⟨hT_45, hG_45⟩, hr9, pa_45, pm_45, pz_45, pk_45, rw9_45⟩ := hp9
                rw [hr9]
                have hF_45 : FRM [73, 85, 93, 96, 97, 98] [28, 32, 33, 34, 36, 39] h g162_45 := FRM_tr hF_29 hG_45 (by decide) (by decide)
                rw [show g146_29 73 29 = (h 73) 29 from ((hG_29.2 29 (by decide))).trans (((hG_22.2 29 (by decide))).trans (((hG_14.2 29 (by decide))).trans (hF29_4.2 29 (by decide))))] at pm_45
                rw [show g146_29 73 34 = (g146_29 73) 34 from rfl] at pm_45
                rw [show g146_29 73 36 = (g146_29 73) 36 from rfl] at pm_45
                rw [show g146_29 93 = w29_4 93 from ((hG_29.1 93 (by decide))).trans (((hG_22.1 93 (by decide))).trans (hG_14.1 93 (by decide)))] at pz_45
                rw [show g146_29 84 = h 84 from ((hG_29.1 84 (by decide))).trans (((hG_22.1 84 (by decide))).trans (((hG_14.1 84 (by decide))).trans (hF29_4.1 84 (by decide))))] at pk_45
                rw [show g146_29 85 = w29_4 85 from ((hG_29.1 85 (by decide))).trans (((hG_22.1 85 (by decide))).trans (hG_14.1 85 (by decide)))] at pk_45
                have pz_at162 := pz_45
                have pk_at162 := pk_45
                have rw9_at162 := rw9_45
                show TT K ly 0 0 165 [(6, vI (f % 2)), (5, vI ((f / 2) % 2)), (0, vR 73), (1, vI x), (2, vI y), (3, vI q), (4, vI f)] [] g162_45
                refine TT_iconst hK dX12_jump_165 ?_
                refine TT_iload hK 1 rfl dX12_jump_166 ?_
                refine TT_imul hK dX12_jump_168 ?_
                refine TT_iload hK 0 rfl dX12_jump_169 ?_
                refine TT_iadd hK dX12_jump_171 ?_
                refine TT_iconst hK dX12_jump_172 ?_
                refine TT_iadd hK dX12_jump_173 ?_
                refine TT_iret hK hQ ?_ dX12_jump_174
                have e46_73_32 : g162_45 73 32 = (g162_45 73) 32 := rfl
                have e47_73_34 : g162_45 73 34 = (g162_45 73) 34 := rfl
                have e48_73_36 : g162_45 73 36 = (g162_45 73) 36 := rfl
                have e49_73_34 : g162_45 73 34 = (g162_45 73) 34 := rfl
                have e50_73_36 : g162_45 73 36 = (g162_45 73) 36 := rfl
                have e51_84 : g162_45 84 = h 84 := ((hG_45.1 84 (by decide))).trans (((hG_29.1 84 (by decide))).trans (((hG_22.1 84 (by decide))).trans (((hG_14.1 84 (by decide))).trans (hF29_4.1 84 (by decide)))))
                exact ⟨⟨hT_45, hF_45⟩, (((2 * ((f / 2) % 2)) + (f % 2)) + 1), rfl, (by omega), (by rewrite [e46_73_32]; omega), (by rewrite [e47_73_34, e48_73_36]; omega), (by omega), (by rewrite [e49_73_34, e50_73_36]; intro w h1 h2 h5; first | omega | (rw [k93]; omega) | (have k8 := pz_at162 w (h 81 (h 73 26)) h1 h2 (by omega) (by omega) (hz9 (by omega) _ (by omega) (by omega)); rw [k93] at k8; omega)), (by rewrite [e51_84]; first | (first | (intro j hj; have k1 := pk_at162 j hj; have k2 := pki j hj; exact ⟨k1.1.trans k2.1, k1.2.trans k2.2⟩) | exact pki | (intro j hj; exact ⟨rfl, rfl⟩)) | (intro j hj; exact ⟨rfl, (pk_at162 j hj).2.trans (pki j hj).2⟩) | (intro j hj; exact ⟨rfl, (pk_at162 j hj).2⟩) | (intro j hj; exact ⟨rfl, (pki j hj).2⟩) | (intro j hj; exact ⟨rfl, rfl⟩)), (by exact JP_1 (JL_e hJ (by omega) (by omega) (by omega)) (by omega) (by omega) rw9_at162 (by omega))⟩
              · refine TT_iconst hK dX12_jump_123 ?_
                refine TT_iret hK hQ ?_ dX12_jump_124
                have e52_73_32 : g117_14 73 32 = (g117_14 73) 32 := rfl
                have e53_73_34 : g117_14 73 34 = (g117_14 73) 34 := rfl
                have e54_73_36 : g117_14 73 36 = (g117_14 73) 36 := rfl
                have e55_73_34 : g117_14 73 34 = (g117_14 73) 34 := rfl
                have e56_73_36 : g117_14 73 36 = (g117_14 73) 36 := rfl
                have e57_93 : g117_14 93 = w29_4 93 := (hG_14.1 93 (by decide))
                have e58_84 : g117_14 84 = h 84 := ((hG_14.1 84 (by decide))).trans (hF29_4.1 84 (by decide))
                have e59_85 : g117_14 85 = w29_4 85 := (hG_14.1 85 (by decide))
                exact ⟨⟨hT_14, hF_14⟩, 4, rfl, (by omega), (by rewrite [e52_73_32]; omega), (by rewrite [e53_73_34, e54_73_36]; omega), (by omega), (by rewrite [e55_73_34, e56_73_36, e57_93]; intro w h1 h2 h5; first | omega | (rw [k93]; omega)), (by rewrite [e58_84, e59_85]; first | (first | exact pki | (intro j hj; exact ⟨rfl, rfl⟩)) | (intro j hj; exact ⟨rfl, (pki j hj).2⟩) | (intro j hj; exact ⟨rfl, rfl⟩)), (by first | exact JP_4 (JL_e hJ (by omega) (by omega) (by omega)) (by omega) cq_at117.2 | (exfalso; have e9 := cq_at117.1; omega))⟩
            · refine TT_iconst hK dX12_jump_112 ?_
              refine TT_goto hK (tgt := 117) dX12_jump_113 (by decide) ?_
              have e60_74 : w29_4 74 = h 74 := (hF29_4.1 74 (by decide))
              have e61_75 : w29_4 75 = h 75 := (hF29_4.1 75 (by decide))
              have e62_73_32 : w29_4 73 32 = (w29_4 73) 32 := rfl
              have e63_73_29 : w29_4 73 29 = (h 73) 29 := (hF29_4.2 29 (by decide))
              have e64_73_34 : w29_4 73 34 = (w29_4 73) 34 := rfl
              have e65_73_36 : w29_4 73 36 = (w29_4 73) 36 := rfl
              refine iv_X12_258 hK (s_code_e m E0 D0 M s 17 1 w29_4 hT29_4 (by first | omega | (simp [up, setR] <;> omega)) (by first | omega | (simp [up, setR] <;> omega)) (by rewrite [e60_74, e61_75]; first | assumption | exact htb) (by rewrite [e62_73_32]; first | omega | (simp [up, setR] <;> omega)) (by rewrite [e63_73_29, e64_73_34, e65_73_36]; first | omega | (simp [up, setR] <;> omega)) (by exact hmd) (by exact hRw)) (by decide) rfl ⟨by decide, by decide⟩ (by decide) rfl rfl (Nat.le_of_ble_eq_true rfl) ⟨by decide, by decide⟩ dX12_jump_117 ?_
              intro r9 g117_66 hp9
              obtain ⟨⟨hT_66, hG_66⟩, z117_66, hr9, hz_66, pa_66, pm_66, pc_66, cq_66⟩ := hp9
              rw [hr9]
              have hF_66 : FRM [73, 85, 93, 96, 97, 98] [28, 32, 33, 34, 36, 39] h g117_66 := FRM_tr hF29_4 hG_66 (by decide) (by decide)
              rw [show w29_4 73 29 = (h 73) 29 from (hF29_4.2 29 (by decide))] at pm_66
              rw [show w29_4 73 34 = (w29_4 73) 34 from rfl] at pm_66
              rw [show w29_4 73 36 = (w29_4 73) 36 from rfl] at pm_66
              rw [show w29_4 73 29 = (h 73) 29 from (hF29_4.2 29 (by decide))] at pc_66
              have cq_at117 := cq_66
              show TT K ly 0 0 120 [(0, vR 73), (1, vI x), (2, vI y), (3, vI q), (4, vI f), (5, vI r)] [vI z117_66] g117_66
              refine TT_if_ne hK (tgt := 125) (irm (by omega) (by omega)) dX12_jump_120 (by decide) (fun hb120_67 => ?_) (fun hb120_67 => ?_)
              · refine TT_aload_n hK rfl 0 rfl dX12_jump_125 ?_
                refine TT_bipush hK (by decide) dX12_jump_126 ?_
                refine TT_iload hK 4 rfl dX12_jump_128 ?_
                refine TT_iconst hK dX12_jump_130 ?_
                refine TT_idivn hK (irm (by omega) (by omega)) (by decide) (by first | omega | (simp [up, setR] <;> omega)) (by first | omega | (simp [up, setR] <;> omega)) dX12_jump_131 ?_
                refine TT_iconst hK dX12_jump_132 ?_
                refine TT_iremn hK (irm (by omega) (by omega)) (by decide) (by first | omega | (simp [up, setR] <;> omega)) (by first | omega | (simp [up, setR] <;> omega)) dX12_jump_133 ?_
                have e68_74 : g117_66 74 = h 74 := ((hG_66.1 74 (by decide))).trans (hF29_4.1 74 (by decide))
                have e69_75 : g117_66 75 = h 75 := ((hG_66.1 75 (by decide))).trans (hF29_4.1 75 (by decide))
                have e70_73_32 : g117_66 73 32 = (g117_66 73) 32 := rfl
                have e71_73_29 : g117_66 73 29 = (h 73) 29 := ((hG_66.2 29 (by decide))).trans (hF29_4.2 29 (by decide))
                have e72_73_34 : g117_66 73 34 = (g117_66 73) 34 := rfl
                have e73_73_36 : g117_66 73 36 = (g117_66 73) 36 := rfl
                refine iv_X12_258 hK (s_code_e m E0 D0 M (evT s 17 1) 18 ((f / 2) % 2) g117_66 hT_66 (by first | omega | (simp [up, setR] <;> omega)) (by first | omega | (simp [up, setR] <;> omega)) (by rewrite [e68_74, e69_75]; first | assumption | exact htb) (by rewrite [e70_73_32]; first | omega | (simp [up, setR] <;> omega)) (by rewrite [e71_73_29, e72_73_34, e73_73_36]; first | omega | (simp [up, setR] <;> omega)) (by exact hmd) (by first | exact cq_at117.2 | (exfalso; have e9 := cq_at117.1; omega))) (by decide) rfl ⟨by decide, by decide⟩ (by decide) rfl rfl (Nat.le_of_ble_eq_true rfl) ⟨by decide, by decide⟩ dX12_jump_134 ?_
                intro r9 g134_74 hp9
                obtain ⟨⟨hT_74, hG_74⟩, z134_74, hr9, hz_74, pa_74, pm_74, pc_74, cq_74⟩ := hp9
                rw [hr9]
                have hF_74 : FRM [73, 85, 93, 96, 97, 98] [28, 32, 33, 34, 36, 39] h g134_74 := FRM_tr hF_66 hG_74 (by decide) (by decide)
                rw [show g117_66 73 29 = (h 73) 29 from ((hG_66.2 29 (by decide))).trans (hF29_4.2 29 (by decide))] at pm_74
                rw [show g117_66 73 34 = (g117_66 73) 34 from rfl] at pm_74
                rw [show g117_66 73 36 = (g117_66 73) 36 from rfl] at pm_74
                rw [show g117_66 73 29 = (h 73) 29 from ((hG_66.2 29 (by decide))).trans (hF29_4.2 29 (by decide))] at pc_74
                have cq_at134 := cq_74
                show TT K ly 0 0 137 [(0, vR 73), (1, vI x), (2, vI y), (3, vI q), (4, vI f), (5, vI r)] [vI z134_74] g134_74
                refine TT_cgI (b := (f / 2) % 2) (by exact cq_at134.1) ?_
                refine TT_istore hK (lv' := [(5, vI ((f / 2) % 2)), (0, vR 73), (1, vI x), (2, vI y), (3, vI q), (4, vI f)]) (by decide) rfl dX12_jump_137 ?_
                refine TT_aload_n hK rfl 1 rfl dX12_jump_139 ?_
                refine TT_bipush hK (by decide) dX12_jump_140 ?_
                refine TT_iload hK 5 rfl dX12_jump_142 ?_
                refine TT_iconst hK dX12_jump_144 ?_
                refine TT_iremn hK (irm (by omega) (by omega)) (by decide) (by first | omega | (simp [up, setR] <;> omega)) (by first | omega | (simp [up, setR] <;> omega)) dX12_jump_145 ?_
                have e75_74 : g134_74 74 = h 74 := ((hG_74.1 74 (by decide))).trans (((hG_66.1 74 (by decide))).trans (hF29_4.1 74 (by decide)))
                have e76_75 : g134_74 75 = h 75 := ((hG_74.1 75 (by decide))).trans (((hG_66.1 75 (by decide))).trans (hF29_4.1 75 (by decide)))
                have e77_73_32 : g134_74 73 32 = (g134_74 73) 32 := rfl
                have e78_73_29 : g134_74 73 29 = (h 73) 29 := ((hG_74.2 29 (by decide))).trans (((hG_66.2 29 (by decide))).trans (hF29_4.2 29 (by decide)))
                have e79_73_34 : g134_74 73 34 = (g134_74 73) 34 := rfl
                have e80_73_36 : g134_74 73 36 = (g134_74 73) 36 := rfl
                refine iv_X12_258 hK (s_code_e m E0 D0 M (evT (evT s 17 1) 18 (f / 2 % 2)) 18 (f % 2) g134_74 hT_74 (by first | omega | (simp [up, setR] <;> omega)) (by first | omega | (simp [up, setR] <;> omega)) (by rewrite [e75_74, e76_75]; first | assumption | exact htb) (by rewrite [e77_73_32]; first | omega | (simp [up, setR] <;> omega)) (by rewrite [e78_73_29, e79_73_34, e80_73_36]; first | omega | (simp [up, setR] <;> omega)) (by exact hmd) (by exact cq_at134.2)) (by decide) rfl ⟨by decide, by decide⟩ (by decide) rfl rfl (Nat.le_of_ble_eq_true rfl) ⟨by decide, by decide⟩ dX12_jump_146 ?_
                intro r9 g146_81 hp9
                obtain ⟨⟨hT_81, hG_81⟩, z146_81, hr9, hz_81, pa_81, pm_81, pc_81, cq_81⟩ := hp9
                rw [hr9]
                have hF_81 : FRM [73, 85, 93, 96, 97, 98] [28, 32, 33, 34, 36, 39] h g146_81 := FRM_tr hF_74 hG_81 (by decide) (by decide)
                rw [show g134_74 73 29 = (h 73) 29 from ((hG_74.2 29 (by decide))).trans (((hG_66.2 29 (by decide))).trans (hF29_4.2 29 (by decide)))] at pm_81
                rw [show g134_74 73 34 = (g134_74 73) 34 from rfl] at pm_81
                rw [show g134_74 73 36 = (g134_74 73) 36 from rfl] at pm_81
                rw [show g134_74 73 29 = (h 73) 29 from ((hG_74.2 29 (by decide))).trans (((hG_66.2 29 (by decide))).trans (hF29_4.2 29 (by decide)))] at pc_81
                have cq_at146 := cq_81
                show TT K ly 0 0 149 [(5, vI ((f / 2) % 2)), (0, vR 73), (1, vI x), (2, vI y), (3, vI q), (4, vI f)] [vI z146_81] g146_81
                refine TT_cgI (b := f % 2) (by exact cq_at146.1) ?_
                refine TT_istore hK (lv' := [(6, vI (f % 2)), (5, vI ((f / 2) % 2)), (0, vR 73), (1, vI x), (2, vI y), (3, vI q), (4, vI f)]) (by decide) rfl dX12_jump_149 ?_
                refine TT_aload_n hK rfl 2 rfl dX12_jump_151 ?_
                refine TT_iload_n hK rfl 3 rfl dX12_jump_152 ?_
                refine TT_iload_n hK rfl 4 rfl dX12_jump_153 ?_
                refine TT_iconst hK dX12_jump_154 ?_
                refine TT_iload hK 1 rfl dX12_jump_155 ?_
                refine TT_imul hK dX12_jump_157 ?_
                refine TT_iadd hK dX12_jump_158 ?_
                refine TT_iload hK 0 rfl dX12_jump_159 ?_
                refine TT_iadd hK dX12_jump_161 ?_
                refine TT_cgI (b := y + f) (by omega) ?_
                have e82_74 : g146_81 74 = h 74 := ((hG_81.1 74 (by decide))).trans (((hG_74.1 74 (by decide))).trans (((hG_66.1 74 (by decide))).trans (hF29_4.1 74 (by decide))))
                have e83_75 : g146_81 75 = h 75 := ((hG_81.1 75 (by decide))).trans (((hG_74.1 75 (by decide))).trans (((hG_66.1 75 (by decide))).trans (hF29_4.1 75 (by decide))))
                have e84_73_32 : g146_81 73 32 = (g146_81 73) 32 := rfl
                have e85_73_29 : g146_81 73 29 = (h 73) 29 := ((hG_81.2 29 (by decide))).trans (((hG_74.2 29 (by decide))).trans (((hG_66.2 29 (by decide))).trans (hF29_4.2 29 (by decide))))
                have e86_73_34 : g146_81 73 34 = (g146_81 73) 34 := rfl
                have e87_73_36 : g146_81 73 36 = (g146_81 73) 36 := rfl
                have e88_73_26 : g146_81 73 26 = (h 73) 26 := ((hG_81.2 26 (by decide))).trans (((hG_74.2 26 (by decide))).trans (((hG_66.2 26 (by decide))).trans (hF29_4.2 26 (by decide))))
                have e89_73_29 : g146_81 73 29 = (h 73) 29 := ((hG_81.2 29 (by decide))).trans (((hG_74.2 29 (by decide))).trans (((hG_66.2 29 (by decide))).trans (hF29_4.2 29 (by decide))))
                have e90_73_26 : g146_81 73 26 = (h 73) 26 := ((hG_81.2 26 (by decide))).trans (((hG_74.2 26 (by decide))).trans (((hG_66.2 26 (by decide))).trans (hF29_4.2 26 (by decide))))
                have e91_80 : g146_81 80 = h 80 := ((hG_81.1 80 (by decide))).trans (((hG_74.1 80 (by decide))).trans (((hG_66.1 80 (by decide))).trans (hF29_4.1 80 (by decide))))
                have e92_73_26 : g146_81 73 26 = (h 73) 26 := ((hG_81.2 26 (by decide))).trans (((hG_74.2 26 (by decide))).trans (((hG_66.2 26 (by decide))).trans (hF29_4.2 26 (by decide))))
                have e93_81 : g146_81 81 = h 81 := ((hG_81.1 81 (by decide))).trans (((hG_74.1 81 (by decide))).trans (((hG_66.1 81 (by decide))).trans (hF29_4.1 81 (by decide))))
                have e94_73_26 : g146_81 73 26 = (h 73) 26 := ((hG_81.2 26 (by decide))).trans (((hG_74.2 26 (by decide))).trans (((hG_66.2 26 (by decide))).trans (hF29_4.2 26 (by decide))))
                have e95_80 : g146_81 80 = h 80 := ((hG_81.1 80 (by decide))).trans (((hG_74.1 80 (by decide))).trans (((hG_66.1 80 (by decide))).trans (hF29_4.1 80 (by decide))))
                have e96_81 : g146_81 81 = h 81 := ((hG_81.1 81 (by decide))).trans (((hG_74.1 81 (by decide))).trans (((hG_66.1 81 (by decide))).trans (hF29_4.1 81 (by decide))))
                refine iv_X12_267 hK (s_wake_x m E0 D0 M (evT (evT (evT s 17 1) 18 (f / 2 % 2)) 18 (f % 2)) x (y + f) g146_81 hT_81 (by first | omega | (simp [up, setR] <;> omega)) (by first | omega | (simp [up, setR] <;> omega)) (by rewrite [e82_74, e83_75]; first | assumption | exact htb) (by rewrite [e84_73_32]; first | omega | (simp [up, setR] <;> omega)) (by rewrite [e85_73_29, e86_73_34, e87_73_36]; first | omega | (simp [up, setR] <;> omega)) (by rewrite [e88_73_26, e89_73_29]; first | omega | (simp [up, setR] <;> omega)) (by exact hmd) (by exact cq_at146.2) (by rewrite [e90_73_26, e91_80]; first | omega | (simp [up, setR] <;> omega)) (by rewrite [e92_73_26, e93_81]; first | omega | (simp [up, setR] <;> omega)) (by rewrite [e94_73_26, e95_80, e96_81]; first | omega | (simp [up, setR] <;> omega))) (by decide) rfl ⟨by decide, by decide⟩ (by decide) rfl rfl (Nat.le_of_ble_eq_true rfl) ⟨by decide, by decide⟩ dX12_jump_162 ?_
                intro r9 g162_97 hp9
                obtain ⟨⟨hT_97, hG_97⟩, hr9, pa_97, pm_97, pz_97, pk_97, rw9_97⟩ := hp9
                rw [hr9]
                have hF_97 : FRM [73, 85, 93, 96, 97, 98] [28, 32, 33, 34, 36, 39] h g162_97 := FRM_tr hF_81 hG_97 (by decide) (by decide)
                rw [show g146_81 73 29 = (h 73) 29 from ((hG_81.2 29 (by decide))).trans (((hG_74.2 29 (by decide))).trans (((hG_66.2 29 (by decide))).trans (hF29_4.2 29 (by decide))))] at pm_97
                rw [show g146_81 73 34 = (g146_81 73) 34 from rfl] at pm_97
                rw [show g146_81 73 36 = (g146_81 73) 36 from rfl] at pm_97
                rw [show g146_81 93 = w29_4 93 from ((hG_81.1 93 (by decide))).trans (((hG_74.1 93 (by decide))).trans (hG_66.1 93 (by decide)))] at pz_97
                rw [show g146_81 84 = h 84 from ((hG_81.1 84 (by decide))).trans (((hG_74.1 84 (by decide))).trans (((hG_66.1 84 (by decide))).trans (hF29_4.1 84 (by decide))))] at pk_97
                rw [show g146_81 85 = w29_4 85 from ((hG_81.1 85 (by decide))).trans (((hG_74.1 85 (by decide))).trans (hG_66.1 85 (by decide)))] at pk_97
                have pz_at162 := pz_97
                have pk_at162 := pk_97
                have rw9_at162 := rw9_97
                show TT K ly 0 0 165 [(6, vI (f % 2)), (5, vI ((f / 2) % 2)), (0, vR 73), (1, vI x), (2, vI y), (3, vI q), (4, vI f)] [] g162_97
                refine TT_iconst hK dX12_jump_165 ?_
                refine TT_iload hK 1 rfl dX12_jump_166 ?_
                refine TT_imul hK dX12_jump_168 ?_
                refine TT_iload hK 0 rfl dX12_jump_169 ?_
                refine TT_iadd hK dX12_jump_171 ?_
                refine TT_iconst hK dX12_jump_172 ?_
                refine TT_iadd hK dX12_jump_173 ?_
                refine TT_iret hK hQ ?_ dX12_jump_174
                have e98_73_32 : g162_97 73 32 = (g162_97 73) 32 := rfl
                have e99_73_34 : g162_97 73 34 = (g162_97 73) 34 := rfl
                have e100_73_36 : g162_97 73 36 = (g162_97 73) 36 := rfl
                have e101_73_34 : g162_97 73 34 = (g162_97 73) 34 := rfl
                have e102_73_36 : g162_97 73 36 = (g162_97 73) 36 := rfl
                have e103_84 : g162_97 84 = h 84 := ((hG_97.1 84 (by decide))).trans (((hG_81.1 84 (by decide))).trans (((hG_74.1 84 (by decide))).trans (((hG_66.1 84 (by decide))).trans (hF29_4.1 84 (by decide)))))
                exact ⟨⟨hT_97, hF_97⟩, (((2 * ((f / 2) % 2)) + (f % 2)) + 1), rfl, (by omega), (by rewrite [e98_73_32]; omega), (by rewrite [e99_73_34, e100_73_36]; omega), (by omega), (by rewrite [e101_73_34, e102_73_36]; intro w h1 h2 h5; first | omega | (rw [k93]; omega) | (have k8 := pz_at162 w (h 81 (h 73 26)) h1 h2 (by omega) (by omega) (hz9 (by omega) _ (by omega) (by omega)); rw [k93] at k8; omega)), (by rewrite [e103_84]; first | (first | (intro j hj; have k1 := pk_at162 j hj; have k2 := pki j hj; exact ⟨k1.1.trans k2.1, k1.2.trans k2.2⟩) | exact pki | (intro j hj; exact ⟨rfl, rfl⟩)) | (intro j hj; exact ⟨rfl, (pk_at162 j hj).2.trans (pki j hj).2⟩) | (intro j hj; exact ⟨rfl, (pk_at162 j hj).2⟩) | (intro j hj; exact ⟨rfl, (pki j hj).2⟩) | (intro j hj; exact ⟨rfl, rfl⟩)), (by exact JP_1 (JL_e hJ (by omega) (by omega) (by omega)) (by omega) (by omega) rw9_at162 (by omega))⟩
              · refine TT_iconst hK dX12_jump_123 ?_
                refine TT_iret hK hQ ?_ dX12_jump_124
                have e104_73_32 : g117_66 73 32 = (g117_66 73) 32 := rfl
                have e105_73_34 : g117_66 73 34 = (g117_66 73) 34 := rfl
                have e106_73_36 : g117_66 73 36 = (g117_66 73) 36 := rfl
                have e107_73_34 : g117_66 73 34 = (g117_66 73) 34 := rfl
                have e108_73_36 : g117_66 73 36 = (g117_66 73) 36 := rfl
                have e109_93 : g117_66 93 = w29_4 93 := (hG_66.1 93 (by decide))
                have e110_84 : g117_66 84 = h 84 := ((hG_66.1 84 (by decide))).trans (hF29_4.1 84 (by decide))
                have e111_85 : g117_66 85 = w29_4 85 := (hG_66.1 85 (by decide))
                exact ⟨⟨hT_66, hF_66⟩, 4, rfl, (by omega), (by rewrite [e104_73_32]; omega), (by rewrite [e105_73_34, e106_73_36]; omega), (by omega), (by rewrite [e107_73_34, e108_73_36, e109_93]; intro w h1 h2 h5; first | omega | (rw [k93]; omega)), (by rewrite [e110_84, e111_85]; first | (first | exact pki | (intro j hj; exact ⟨rfl, rfl⟩)) | (intro j hj; exact ⟨rfl, (pki j hj).2⟩) | (intro j hj; exact ⟨rfl, rfl⟩)), (by first | exact JP_4 (JL_e hJ (by omega) (by omega) (by omega)) (by omega) cq_at117.2 | (exfalso; have e9 := cq_at117.1; omega))⟩
          · refine TT_iconst hK dX12_jump_101 ?_
            refine TT_iret hK hQ ?_ dX12_jump_102
            have e112_73_32 : w29_4 73 32 = (w29_4 73) 32 := rfl
            have e113_73_34 : w29_4 73 34 = (w29_4 73) 34 := rfl
            have e114_73_36 : w29_4 73 36 = (w29_4 73) 36 := rfl
            have e115_73_34 : w29_4 73 34 = (w29_4 73) 34 := rfl
            have e116_73_36 : w29_4 73 36 = (w29_4 73) 36 := rfl
            have e117_84 : w29_4 84 = h 84 := (hF29_4.1 84 (by decide))
            exact ⟨⟨hT29_4, hF29_4⟩, 0, rfl, (by omega), (by rewrite [e112_73_32]; omega), (by rewrite [e113_73_34, e114_73_36]; omega), (by omega), (by rewrite [e115_73_34, e116_73_36]; intro w h1 h2 h5; first | omega | (rw [k93]; omega)), (by rewrite [e117_84]; first | (first | exact pki | (intro j hj; exact ⟨rfl, rfl⟩)) | (intro j hj; exact ⟨rfl, (pki j hj).2⟩) | (intro j hj; exact ⟨rfl, rfl⟩)), (by exact JP_0 hRw (hJ.1 (by omega)))⟩
        · refine TT_iload_n hK rfl 3 rfl dX12_jump_35 ?_
          refine TT_if_eq hK (tgt := 97) (irm (by omega) (by omega)) dX12_jump_36 (by decide) (fun hb36_118 => ?_) (fun hb36_118 => ?_)
          · refine TT_iload_n hK rfl 3 rfl dX12_jump_97 ?_
            refine TT_if_ne hK (tgt := 103) (irm (by omega) (by omega)) dX12_jump_98 (by decide) (fun hb98_119 => ?_) (fun hb98_119 => ?_)
            · exfalso; omega
            · refine TT_iconst hK dX12_jump_101 ?_
              refine TT_iret hK hQ ?_ dX12_jump_102
              have e120_73_32 : w29_4 73 32 = (w29_4 73) 32 := rfl
              have e121_73_34 : w29_4 73 34 = (w29_4 73) 34 := rfl
              have e122_73_36 : w29_4 73 36 = (w29_4 73) 36 := rfl
              have e123_73_34 : w29_4 73 34 = (w29_4 73) 34 := rfl
              have e124_73_36 : w29_4 73 36 = (w29_4 73) 36 := rfl
              have e125_84 : w29_4 84 = h 84 := (hF29_4.1 84 (by decide))
              exact ⟨⟨hT29_4, hF29_4⟩, 0, rfl, (by omega), (by rewrite [e120_73_32]; omega), (by rewrite [e121_73_34, e122_73_36]; omega), (by omega), (by rewrite [e123_73_34, e124_73_36]; intro w h1 h2 h5; first | omega | (rw [k93]; omega)), (by rewrite [e125_84]; first | (first | exact pki | (intro j hj; exact ⟨rfl, rfl⟩)) | (intro j hj; exact ⟨rfl, (pki j hj).2⟩) | (intro j hj; exact ⟨rfl, rfl⟩)), (by exact JP_0 hRw (hJ.1 (by omega)))⟩
          · refine TT_aload_n hK rfl 0 rfl dX12_jump_39 ?_
            refine TT_iload_n hK rfl 1 rfl dX12_jump_40 ?_
            refine TT_iload hK 5 rfl dX12_jump_41 ?_
            refine iv_X12_271 hK (s_untouched_e x r w29_4 hT29_4 (by first | omega | (simp [up, setR] <;> omega)) (by first | omega | (simp [up, setR] <;> omega))) (by decide) rfl ⟨by decide, by decide⟩ (by decide) rfl rfl (Nat.le_of_ble_eq_true rfl) ⟨by decide, by decide⟩ dX12_jump_43 ?_
            intro r9 g43_126 hp9
            obtain ⟨⟨hT_126, hG_126⟩, z43_126, hr9, hz_126, p1_126, e_126⟩ := hp9
            rw [hr9]
            have hE_126 : w29_4 = g43_126 := (funext (fun o9 => hG_126.1 o9 (List.not_mem_nil))).symm
            subst hE_126
            rw [show w29_4 94 = h 94 from (hF29_4.1 94 (by decide))] at e_126
            have e_at43 := e_126
            show TT K ly 0 0 46 [(0, vR 73), (1, vI x), (2, vI y), (3, vI q), (4, vI f), (5, vI r)] [vI z43_126] w29_4
            refine TT_if_eq hK (tgt := 63) (irm (by omega) (by omega)) dX12_jump_46 (by decide) (fun hb46_127 => ?_) (fun hb46_127 => ?_)
            · refine TT_iconst hK dX12_jump_63 ?_
              refine TT_istore_n hK rfl (lv' := [(3, vI 0), (0, vR 73), (1, vI x), (2, vI y), (4, vI f), (5, vI r)]) (by decide) rfl dX12_jump_64 ?_
              refine TT_iload_n hK rfl 0 rfl dX12_jump_65 ?_
              refine TT_if_eq hK (tgt := 87) (by decide) dX12_jump_66 (by decide) (fun hb66_128 => ?_) (fun hb66_128 => ?_)
              · refine TT_iload hK 4 rfl dX12_jump_87 ?_
                refine TT_istore hK (lv' := [(4, vI f), (3, vI 0), (0, vR 73), (1, vI x), (2, vI y), (5, vI r)]) (by decide) rfl dX12_jump_89 ?_
                refine TT_iinc hK (v := r - 1) (lv' := [(5, vI (r - 1)), (4, vI f), (3, vI 0), (0, vR 73), (1, vI x), (2, vI y)]) 5 rfl (by omega) (by decide) rfl dX12_jump_91 ?_
                refine TT_goto hK (tgt := 29) dX12_jump_94 (by decide) ?_
                refine TT_sub [3, 4, 5, 2, 1, 0] rfl ?_
                have e129_73_34 : w29_4 73 34 = (w29_4 73) 34 := rfl
                have e130_73_36 : w29_4 73 36 = (w29_4 73) 36 := rfl
                have e131_73_32 : w29_4 73 32 = (w29_4 73) 32 := rfl
                have e132_84 : w29_4 84 = h 84 := (hF29_4.1 84 (by decide))
                exact ih4 0 f (r - 1) w29_4 hT29_4 hF29_4 (by first | omega | (simp [up, setR] <;> omega)) (by first | omega | (simp [up, setR] <;> omega)) (by first | omega | (simp [up, setR] <;> omega)) (by first | omega | (simp [up, setR] <;> omega)) (by intro h0 j h1 h2; first | omega | (by_cases e : j = r; (subst e; omega); exact hz9 (by omega) j (by omega) h2)) (by first | assumption | rfl) (by first | omega | (simp [up, setR] <;> omega)) (by rewrite [e129_73_34]; first | omega | (simp [up, setR] <;> omega)) (by rewrite [e130_73_36]; first | omega | (simp [up, setR] <;> omega)) (by rewrite [e131_73_32]; first | omega | (simp [up, setR] <;> omega)) (by rewrite [e132_84]; first | (first | exact pki) | (intro j hj; exact ⟨rfl, (pki j hj).2⟩) | (intro j hj; exact ⟨rfl, rfl⟩)) (by exact hRw) (by first | exact JL_k hJ (by omega) (by omega) | exact JL_x (c := 0) hRw hJ (by omega) (by omega) (by omega) hx hy (Or.inl (by rw [show w29_4 94 = h 94 from (hF29_4.1 94 (by decide))]; exact e_at43.2 (by omega))) | omega) (by first | omega | (simp [up, setR] <;> omega))
              · exact absurd hb66_128 (by decide)
            · refine TT_aload_n hK rfl 0 rfl dX12_jump_49 ?_
              refine TT_iload_n hK rfl 1 rfl dX12_jump_50 ?_
              refine TT_iload hK 5 rfl dX12_jump_51 ?_
              refine iv_X12_261 hK (s_mctx_e x r w29_4 hT29_4 (by first | omega | (simp [up, setR] <;> omega)) (by first | omega | (simp [up, setR] <;> omega))) (by decide) rfl ⟨by decide, by decide⟩ (by decide) rfl rfl (Nat.le_of_ble_eq_true rfl) ⟨by decide, by decide⟩ dX12_jump_53 ?_
              intro r9 g53_133 hp9
              obtain ⟨⟨hT_133, hG_133⟩, z53_133, hr9, hz_133, e_133⟩ := hp9
              rw [hr9]
              have hE_133 : w29_4 = g53_133 := (funext (fun o9 => hG_133.1 o9 (List.not_mem_nil))).symm
              subst hE_133
              rw [show w29_4 73 26 = (h 73) 26 from (hF29_4.2 26 (by decide))] at e_133
              rw [show w29_4 82 = h 82 from (hF29_4.1 82 (by decide))] at e_133
              have e_at53 := e_133
              show TT K ly 0 0 56 [(0, vR 73), (1, vI x), (2, vI y), (3, vI q), (4, vI f), (5, vI r)] [vI z53_133] w29_4
              refine TT_if_ne hK (tgt := 63) (irm (by omega) (by omega)) dX12_jump_56 (by decide) (fun hb56_134 => ?_) (fun hb56_134 => ?_)
              · refine TT_iconst hK dX12_jump_63 ?_
                refine TT_istore_n hK rfl (lv' := [(3, vI 0), (0, vR 73), (1, vI x), (2, vI y), (4, vI f), (5, vI r)]) (by decide) rfl dX12_jump_64 ?_
                refine TT_iload_n hK rfl 0 rfl dX12_jump_65 ?_
                refine TT_if_eq hK (tgt := 87) (by decide) dX12_jump_66 (by decide) (fun hb66_135 => ?_) (fun hb66_135 => ?_)
                · refine TT_iload hK 4 rfl dX12_jump_87 ?_
                  refine TT_istore hK (lv' := [(4, vI f), (3, vI 0), (0, vR 73), (1, vI x), (2, vI y), (5, vI r)]) (by decide) rfl dX12_jump_89 ?_
                  refine TT_iinc hK (v := r - 1) (lv' := [(5, vI (r - 1)), (4, vI f), (3, vI 0), (0, vR 73), (1, vI x), (2, vI y)]) 5 rfl (by omega) (by decide) rfl dX12_jump_91 ?_
                  refine TT_goto hK (tgt := 29) dX12_jump_94 (by decide) ?_
                  refine TT_sub [3, 4, 5, 2, 1, 0] rfl ?_
                  have e136_73_34 : w29_4 73 34 = (w29_4 73) 34 := rfl
                  have e137_73_36 : w29_4 73 36 = (w29_4 73) 36 := rfl
                  have e138_73_32 : w29_4 73 32 = (w29_4 73) 32 := rfl
                  have e139_84 : w29_4 84 = h 84 := (hF29_4.1 84 (by decide))
                  exact ih4 0 f (r - 1) w29_4 hT29_4 hF29_4 (by first | omega | (simp [up, setR] <;> omega)) (by first | omega | (simp [up, setR] <;> omega)) (by first | omega | (simp [up, setR] <;> omega)) (by first | omega | (simp [up, setR] <;> omega)) (by intro h0 j h1 h2; first | omega | (by_cases e : j = r; (subst e; omega); exact hz9 (by omega) j (by omega) h2)) (by first | assumption | rfl) (by first | omega | (simp [up, setR] <;> omega)) (by rewrite [e136_73_34]; first | omega | (simp [up, setR] <;> omega)) (by rewrite [e137_73_36]; first | omega | (simp [up, setR] <;> omega)) (by rewrite [e138_73_32]; first | omega | (simp [up, setR] <;> omega)) (by rewrite [e139_84]; first | (first | exact pki) | (intro j hj; exact ⟨rfl, (pki j hj).2⟩) | (intro j hj; exact ⟨rfl, rfl⟩)) (by exact hRw) (by first | exact JL_k hJ (by omega) (by omega) | exact JL_x (c := 0) hRw hJ (by omega) (by omega) (by omega) hx hy (Or.inl (by rw [show w29_4 94 = h 94 from (hF29_4.1 94 (by decide))]; exact e_at43.2 (by omega))) | exact JL_x hRw hJ (by omega) (by omega) (by omega) hx hy (Or.inr ⟨by omega, e_at53⟩) | omega) (by first | omega | (simp [up, setR] <;> omega))
                · exact absurd hb66_135 (by decide)
              · refine TT_iconst hK dX12_jump_59 ?_
                refine TT_goto hK (tgt := 64) dX12_jump_60 (by decide) ?_
                refine TT_istore_n hK rfl (lv' := [(3, vI 1), (0, vR 73), (1, vI x), (2, vI y), (4, vI f), (5, vI r)]) (by decide) rfl dX12_jump_64 ?_
                refine TT_iload_n hK rfl 0 rfl dX12_jump_65 ?_
                refine TT_if_eq hK (tgt := 87) (by decide) dX12_jump_66 (by decide) (fun hb66_140 => ?_) (fun hb66_140 => ?_)
                · exact absurd hb66_140 (by decide)
                · refine TT_aload_n hK rfl 1 rfl dX12_jump_69 ?_
                  refine TT_iload_n hK rfl 2 rfl dX12_jump_70 ?_
                  refine TT_iload hK 5 rfl dX12_jump_71 ?_
                  have e141_73_27 : w29_4 73 27 = (h 73) 27 := (hF29_4.2 27 (by decide))
                  refine iv_X12_264 hK (s_bitAt_e x r w29_4 hT29_4 (by first | omega | (simp [up, setR] <;> omega)) (by first | omega | (simp [up, setR] <;> omega)) (by rewrite [e141_73_27]; first | assumption | exact hpl | omega)) (by decide) rfl ⟨by decide, by decide⟩ (by decide) rfl rfl (Nat.le_of_ble_eq_true rfl) ⟨by decide, by decide⟩ dX12_jump_73 ?_
                  intro r9 g73_142 hp9
                  obtain ⟨⟨hT_142, hG_142⟩, z73_142, hr9, hz_142, e_142⟩ := hp9
                  rw [hr9]
                  have hE_142 : w29_4 = g73_142 := (funext (fun o9 => hG_142.1 o9 (List.not_mem_nil))).symm
                  subst hE_142
                  rw [show w29_4 73 26 = (h 73) 26 from (hF29_4.2 26 (by decide))] at e_142
                  rw [show w29_4 73 27 = (h 73) 27 from (hF29_4.2 27 (by decide))] at e_142
                  rw [show w29_4 84 = h 84 from (hF29_4.1 84 (by decide))] at e_142
                  have e_at73 := e_142
                  show TT K ly 0 0 76 [(3, vI 1), (0, vR 73), (1, vI x), (2, vI y), (4, vI f), (5, vI r)] [vI z73_142] w29_4
                  refine TT_iconst hK dX12_jump_76 ?_
                  refine TT_icmp_ne hK (tgt := 87) (irm (by omega) (by omega)) (by decide) dX12_jump_77 (by decide) (fun hb77_143 => ?_) (fun hb77_143 => ?_)
                  · refine TT_iload hK 4 rfl dX12_jump_87 ?_
                    refine TT_istore hK (lv' := [(4, vI f), (3, vI 1), (0, vR 73), (1, vI x), (2, vI y), (5, vI r)]) (by decide) rfl dX12_jump_89 ?_
                    refine TT_iinc hK (v := r - 1) (lv' := [(5, vI (r - 1)), (4, vI f), (3, vI 1), (0, vR 73), (1, vI x), (2, vI y)]) 5 rfl (by omega) (by decide) rfl dX12_jump_91 ?_
                    refine TT_goto hK (tgt := 29) dX12_jump_94 (by decide) ?_
                    refine TT_sub [3, 4, 5, 2, 1, 0] rfl ?_
                    have e144_73_34 : w29_4 73 34 = (w29_4 73) 34 := rfl
                    have e145_73_36 : w29_4 73 36 = (w29_4 73) 36 := rfl
                    have e146_73_32 : w29_4 73 32 = (w29_4 73) 32 := rfl
                    have e147_84 : w29_4 84 = h 84 := (hF29_4.1 84 (by decide))
                    exact ih4 1 f (r - 1) w29_4 hT29_4 hF29_4 (by first | omega | (simp [up, setR] <;> omega)) (by first | omega | (simp [up, setR] <;> omega)) (by first | omega | (simp [up, setR] <;> omega)) (by first | omega | (simp [up, setR] <;> omega)) (by intro h0 j h1 h2; first | omega | (by_cases e : j = r; (subst e; omega); exact hz9 (by omega) j (by omega) h2)) (by first | assumption | rfl) (by first | omega | (simp [up, setR] <;> omega)) (by rewrite [e144_73_34]; first | omega | (simp [up, setR] <;> omega)) (by rewrite [e145_73_36]; first | omega | (simp [up, setR] <;> omega)) (by rewrite [e146_73_32]; first | omega | (simp [up, setR] <;> omega)) (by rewrite [e147_84]; first | (first | exact pki) | (intro j hj; exact ⟨rfl, (pki j hj).2⟩) | (intro j hj; exact ⟨rfl, rfl⟩)) (by exact hRw) (by first | exact JL_k hJ (by omega) (by omega) | exact JL_x (c := 0) hRw hJ (by omega) (by omega) (by omega) hx hy (Or.inl (by rw [show w29_4 94 = h 94 from (hF29_4.1 94 (by decide))]; exact e_at43.2 (by omega))) | exact JL_x hRw hJ (by omega) (by omega) (by omega) hx hy (Or.inr ⟨by omega, e_at53⟩) | exact JL_s hRw hJ (by omega) (by omega) (by omega) (by omega) hx hy (by rw [show w29_4 94 = h 94 from (hF29_4.1 94 (by decide))]; exact e_at43.1 (by omega)) (by omega) e_at53 (e_at73.trans (bS_q hR (x := x) (y := r) ⟨hx.1, hxw⟩ ⟨by omega, by omega⟩)) (by omega) hf | omega) (by first | omega | (simp [up, setR] <;> omega))
                  · refine TT_iload hK 5 rfl dX12_jump_80 ?_
                    refine TT_iload_n hK rfl 3 rfl dX12_jump_82 ?_
                    refine TT_isub hK dX12_jump_83 ?_
                    refine TT_goto hK (tgt := 89) dX12_jump_84 (by decide) ?_
                    refine TT_istore hK (lv' := [(4, vI (r - y)), (3, vI 1), (0, vR 73), (1, vI x), (2, vI y), (5, vI r)]) (by decide) rfl dX12_jump_89 ?_
                    refine TT_iinc hK (v := r - 1) (lv' := [(5, vI (r - 1)), (4, vI (r - y)), (3, vI 1), (0, vR 73), (1, vI x), (2, vI y)]) 5 rfl (by omega) (by decide) rfl dX12_jump_91 ?_
                    refine TT_goto hK (tgt := 29) dX12_jump_94 (by decide) ?_
                    refine TT_sub [3, 4, 5, 2, 1, 0] rfl ?_
                    have e148_73_34 : w29_4 73 34 = (w29_4 73) 34 := rfl
                    have e149_73_36 : w29_4 73 36 = (w29_4 73) 36 := rfl
                    have e150_73_32 : w29_4 73 32 = (w29_4 73) 32 := rfl
                    have e151_84 : w29_4 84 = h 84 := (hF29_4.1 84 (by decide))
                    exact ih4 1 (r - y) (r - 1) w29_4 hT29_4 hF29_4 (by first | omega | (simp [up, setR] <;> omega)) (by first | omega | (simp [up, setR] <;> omega)) (by first | omega | (simp [up, setR] <;> omega)) (by first | omega | (simp [up, setR] <;> omega)) (by intro h0 j h1 h2; first | omega | (by_cases e : j = r; (subst e; omega); exact hz9 (by omega) j (by omega) h2)) (by first | assumption | rfl) (by first | omega | (simp [up, setR] <;> omega)) (by rewrite [e148_73_34]; first | omega | (simp [up, setR] <;> omega)) (by rewrite [e149_73_36]; first | omega | (simp [up, setR] <;> omega)) (by rewrite [e150_73_32]; first | omega | (simp [up, setR] <;> omega)) (by rewrite [e151_84]; first | (first | exact pki) | (intro j hj; exact ⟨rfl, (pki j hj).2⟩) | (intro j hj; exact ⟨rfl, rfl⟩)) (by exact hRw) (by first | exact JL_k hJ (by omega) (by omega) | exact JL_x (c := 0) hRw hJ (by omega) (by omega) (by omega) hx hy (Or.inl (by rw [show w29_4 94 = h 94 from (hF29_4.1 94 (by decide))]; exact e_at43.2 (by omega))) | exact JL_x hRw hJ (by omega) (by omega) (by omega) hx hy (Or.inr ⟨by omega, e_at53⟩) | exact JL_s hRw hJ (by omega) (by omega) (by omega) (by omega) hx hy (by rw [show w29_4 94 = h 94 from (hF29_4.1 94 (by decide))]; exact e_at43.1 (by omega)) (by omega) e_at53 (e_at73.trans (bS_q hR (x := x) (y := r) ⟨hx.1, hxw⟩ ⟨by omega, by omega⟩)) (by omega) hf | omega) (by first | omega | (simp [up, setR] <;> omega))
    refine TT_sub [3, 4, 5, 2, 1, 0] rfl ?_
    have e152_73_34 : h 73 34 = (h 73) 34 := rfl
    have e153_73_36 : h 73 36 = (h 73) 36 := rfl
    have e154_73_32 : h 73 32 = (h 73) 32 := rfl
    exact L29_4 ((((y + 3) - y + 1).toNat) + 1) 0 4 (y + 3) h hT hF (by first | omega | (simp [up, setR] <;> omega)) (by first | omega | (simp [up, setR] <;> omega)) (by first | omega | (simp [up, setR] <;> omega)) (by first | omega | (simp [up, setR] <;> omega)) (by intro _ j h1 h2; omega) (by rfl) (by first | omega | (simp [up, setR] <;> omega)) (by rewrite [e152_73_34]; first | omega | (simp [up, setR] <;> omega)) (by rewrite [e153_73_36]; first | omega | (simp [up, setR] <;> omega)) (by rewrite [e154_73_32]; first | omega | (simp [up, setR] <;> omega)) (by first | ((intro j hj; exact ⟨rfl, rfl⟩)) | (intro j hj; exact ⟨rfl, rfl⟩)) (by exact hR) (by exact JL_0 (by omega) (by omega)) (Nat.lt_succ_self _)
  · refine TT_iconst hK dX12_jump_15 ?_
    refine TT_goto hK (tgt := 20) dX12_jump_16 (by decide) ?_
    refine TT_istore_n hK rfl (lv' := [(3, vI 1), (0, vR 73), (1, vI x), (2, vI y)]) (by decide) rfl dX12_jump_20 ?_
    refine TT_iconst hK dX12_jump_21 ?_
    refine TT_istore hK (lv' := [(4, vI 4), (3, vI 1), (0, vR 73), (1, vI x), (2, vI y)]) (by decide) rfl dX12_jump_22 ?_
    refine TT_iload_n hK rfl 4 rfl dX12_jump_24 ?_
    refine TT_iconst hK dX12_jump_25 ?_
    refine TT_iadd hK dX12_jump_26 ?_
    refine TT_istore hK (lv' := [(5, vI (y + 3)), (4, vI 4), (3, vI 1), (0, vR 73), (1, vI x), (2, vI y)]) (by decide) rfl dX12_jump_27 ?_
    have L29_155 : ∀ (k155 : Nat) (q : Int) (f : Int) (r : Int) (w29_155 : Hp_), TY w29_155 → FRM [73, 85, 93, 96, 97, 98] [28, 32, 33, 34, 36, 39] h w29_155 → (0 ≤ q ∧ q ≤ 1) → (0 ≤ f ∧ f ≤ 4) → (y - 1 ≤ r ∧ r ≤ y + 3) → (q = 1 → y + 4 ≤ h 81 (h 73 26)) → (q = 1 → ∀ j, r < j → j ≤ y + 3 → (w29_155 93) (10 * j + x + 11) = 0) → ((w29_155 93) = h 93) → (PhS (w29_155 96) = PhS (h 96)) → ((w29_155 73 34) = h 73 34) → ((w29_155 73 36) = h 73 36) → ((w29_155 73 32) = h 73 32) → (∀ j : Int, j < 640 → (w29_155 84) j = h 84 j ∧ (w29_155 85) j = h 85 j) → (RRQ m E0 D0 M w29_155 s) → (JLQ M s (h 82 (h 73 26)) (h 73 27) (10 * y + x + 11) (min 4 (h 81 (h 73 26) - y)) (r - y) q f) → (r - y + 1).toNat < k155 → TT K ly 0 0 29 [(0, vR 73), (1, vI x), (2, vI y), (3, vI q), (4, vI f), (5, vI r)] [] w29_155 := by
      intro k155
      induction k155 with
      | zero => intro q f r w29_155 hT29_155 hF29_155 hq hf hr he hz9 k93 k96 k34 k36 k32 pki hRw hJ hk155; exact absurd hk155 (Nat.not_lt_zero _)
      | succ k155 ih155 =>
        intro q f r w29_155 hT29_155 hF29_155 hq hf hr he hz9 k93 k96 k34 k36 k32 pki hRw hJ hk155
        refine TT_iload hK 5 rfl dX12_jump_29 ?_
        refine TT_iload_n hK rfl 2 rfl dX12_jump_31 ?_
        refine TT_icmp_lt hK (tgt := 97) (irm (by omega) (by omega)) (irm (by omega) (by omega)) dX12_jump_32 (by decide) (fun hb32_156 => ?_) (fun hb32_156 => ?_)
        · refine TT_iload_n hK rfl 3 rfl dX12_jump_97 ?_
          refine TT_if_ne hK (tgt := 103) (irm (by omega) (by omega)) dX12_jump_98 (by decide) (fun hb98_157 => ?_) (fun hb98_157 => ?_)
          · refine TT_aload_n hK rfl 0 rfl dX12_jump_103 ?_
            refine TT_bipush hK (by decide) dX12_jump_104 ?_
            refine TT_iload hK 4 rfl dX12_jump_106 ?_
            refine TT_iconst hK dX12_jump_108 ?_
            refine TT_icmp_ge hK (tgt := 116) (irm (by omega) (by omega)) (by decide) dX12_jump_109 (by decide) (fun hb109_158 => ?_) (fun hb109_158 => ?_)
            · refine TT_iconst hK dX12_jump_116 ?_
              have e159_74 : w29_155 74 = h 74 := (hF29_155.1 74 (by decide))
              have e160_75 : w29_155 75 = h 75 := (hF29_155.1 75 (by decide))
              have e161_73_32 : w29_155 73 32 = (w29_155 73) 32 := rfl
              have e162_73_29 : w29_155 73 29 = (h 73) 29 := (hF29_155.2 29 (by decide))
              have e163_73_34 : w29_155 73 34 = (w29_155 73) 34 := rfl
              have e164_73_36 : w29_155 73 36 = (w29_155 73) 36 := rfl
              refine iv_X12_258 hK (s_code_e m E0 D0 M s 17 0 w29_155 hT29_155 (by first | omega | (simp [up, setR] <;> omega)) (by first | omega | (simp [up, setR] <;> omega)) (by rewrite [e159_74, e160_75]; first | assumption | exact htb) (by rewrite [e161_73_32]; first | omega | (simp [up, setR] <;> omega)) (by rewrite [e162_73_29, e163_73_34, e164_73_36]; first | omega | (simp [up, setR] <;> omega)) (by exact hmd) (by exact hRw)) (by decide) rfl ⟨by decide, by decide⟩ (by decide) rfl rfl (Nat.le_of_ble_eq_true rfl) ⟨by decide, by decide⟩ dX12_jump_117 ?_
              intro r9 g117_165 hp9
              obtain ⟨⟨hT_165, hG_165⟩, z117_165, hr9, hz_165, pa_165, pm_165, pc_165, cq_165⟩ := hp9
              rw [hr9]
              have hF_165 : FRM [73, 85, 93, 96, 97, 98] [28, 32, 33, 34, 36, 39] h g117_165 := FRM_tr hF29_155 hG_165 (by decide) (by decide)
              rw [show w29_155 73 29 = (h 73) 29 from (hF29_155.2 29 (by decide))] at pm_165
              rw [show w29_155 73 34 = (w29_155 73) 34 from rfl] at pm_165
              rw [show w29_155 73 36 = (w29_155 73) 36 from rfl] at pm_165
              rw [show w29_155 73 29 = (h 73) 29 from (hF29_155.2 29 (by decide))] at pc_165
              have cq_at117 := cq_165
              show TT K ly 0 0 120 [(0, vR 73), (1, vI x), (2, vI y), (3, vI q), (4, vI f), (5, vI r)] [vI z117_165] g117_165
              refine TT_if_ne hK (tgt := 125) (irm (by omega) (by omega)) dX12_jump_120 (by decide) (fun hb120_166 => ?_) (fun hb120_166 => ?_)
              · refine TT_aload_n hK rfl 0 rfl dX12_jump_125 ?_
                refine TT_bipush hK (by decide) dX12_jump_126 ?_
                refine TT_iload hK 4 rfl dX12_jump_128 ?_
                refine TT_iconst hK dX12_jump_130 ?_
                refine TT_idivn hK (irm (by omega) (by omega)) (by decide) (by first | omega | (simp [up, setR] <;> omega)) (by first | omega | (simp [up, setR] <;> omega)) dX12_jump_131 ?_
                refine TT_iconst hK dX12_jump_132 ?_
                refine TT_iremn hK (irm (by omega) (by omega)) (by decide) (by first | omega | (simp [up, setR] <;> omega)) (by first | omega | (simp [up, setR] <;> omega)) dX12_jump_133 ?_
                have e167_74 : g117_165 74 = h 74 := ((hG_165.1 74 (by decide))).trans (hF29_155.1 74 (by decide))
                have e168_75 : g117_165 75 = h 75 := ((hG_165.1 75 (by decide))).trans (hF29_155.1 75 (by decide))
                have e169_73_32 : g117_165 73 32 = (g117_165 73) 32 := rfl
                have e170_73_29 : g117_165 73 29 = (h 73) 29 := ((hG_165.2 29 (by decide))).trans (hF29_155.2 29 (by decide))
                have e171_73_34 : g117_165 73 34 = (g117_165 73) 34 := rfl
                have e172_73_36 : g117_165 73 36 = (g117_165 73) 36 := rfl
                refine iv_X12_258 hK (s_code_e m E0 D0 M (evT s 17 1) 18 ((f / 2) % 2) g117_165 hT_165 (by first | omega | (simp [up, setR] <;> omega)) (by first | omega | (simp [up, setR] <;> omega)) (by rewrite [e167_74, e168_75]; first | assumption | exact htb) (by rewrite [e169_73_32]; first | omega | (simp [up, setR] <;> omega)) (by rewrite [e170_73_29, e171_73_34, e172_73_36]; first | omega | (simp [up, setR] <;> omega)) (by exact hmd) (by first | exact cq_at117.2 | (exfalso; have e9 := cq_at117.1; omega))) (by decide) rfl ⟨by decide, by decide⟩ (by decide) rfl rfl (Nat.le_of_ble_eq_true rfl) ⟨by decide, by decide⟩ dX12_jump_134 ?_
                intro r9 g134_173 hp9
                obtain ⟨⟨hT_173, hG_173⟩, z134_173, hr9, hz_173, pa_173, pm_173, pc_173, cq_173⟩ := hp9
                rw [hr9]
                have hF_173 : FRM [73, 85, 93, 96, 97, 98] [28, 32, 33, 34, 36, 39] h g134_173 := FRM_tr hF_165 hG_173 (by decide) (by decide)
                rw [show g117_165 73 29 = (h 73) 29 from ((hG_165.2 29 (by decide))).trans (hF29_155.2 29 (by decide))] at pm_173
                rw [show g117_165 73 34 = (g117_165 73) 34 from rfl] at pm_173
                rw [show g117_165 73 36 = (g117_165 73) 36 from rfl] at pm_173
                rw [show g117_165 73 29 = (h 73) 29 from ((hG_165.2 29 (by decide))).trans (hF29_155.2 29 (by decide))] at pc_173
                have cq_at134 := cq_173
                show TT K ly 0 0 137 [(0, vR 73), (1, vI x), (2, vI y), (3, vI q), (4, vI f), (5, vI r)] [vI z134_173] g134_173
                refine TT_cgI (b := (f / 2) % 2) (by exact cq_at134.1) ?_
                refine TT_istore hK (lv' := [(5, vI ((f / 2) % 2)), (0, vR 73), (1, vI x), (2, vI y), (3, vI q), (4, vI f)]) (by decide) rfl dX12_jump_137 ?_
                refine TT_aload_n hK rfl 1 rfl dX12_jump_139 ?_
                refine TT_bipush hK (by decide) dX12_jump_140 ?_
                refine TT_iload hK 5 rfl dX12_jump_142 ?_
                refine TT_iconst hK dX12_jump_144 ?_
                refine TT_iremn hK (irm (by omega) (by omega)) (by decide) (by first | omega | (simp [up, setR] <;> omega)) (by first | omega | (simp [up, setR] <;> omega)) dX12_jump_145 ?_
                have e174_74 : g134_173 74 = h 74 := ((hG_173.1 74 (by decide))).trans (((hG_165.1 74 (by decide))).trans (hF29_155.1 74 (by decide)))
                have e175_75 : g134_173 75 = h 75 := ((hG_173.1 75 (by decide))).trans (((hG_165.1 75 (by decide))).trans (hF29_155.1 75 (by decide)))
                have e176_73_32 : g134_173 73 32 = (g134_173 73) 32 := rfl
                have e177_73_29 : g134_173 73 29 = (h 73) 29 := ((hG_173.2 29 (by decide))).trans (((hG_165.2 29 (by decide))).trans (hF29_155.2 29 (by decide)))
                have e178_73_34 : g134_173 73 34 = (g134_173 73) 34 := rfl
                have e179_73_36 : g134_173 73 36 = (g134_173 73) 36 := rfl
                refine iv_X12_258 hK (s_code_e m E0 D0 M (evT (evT s 17 1) 18 (f / 2 % 2)) 18 (f % 2) g134_173 hT_173 (by first | omega | (simp [up, setR] <;> omega)) (by first | omega | (simp [up, setR] <;> omega)) (by rewrite [e174_74, e175_75]; first | assumption | exact htb) (by rewrite [e176_73_32]; first | omega | (simp [up, setR] <;> omega)) (by rewrite [e177_73_29, e178_73_34, e179_73_36]; first | omega | (simp [up, setR] <;> omega)) (by exact hmd) (by exact cq_at134.2)) (by decide) rfl ⟨by decide, by decide⟩ (by decide) rfl rfl (Nat.le_of_ble_eq_true rfl) ⟨by decide, by decide⟩ dX12_jump_146 ?_
                intro r9 g146_180 hp9
                obtain ⟨⟨hT_180, hG_180⟩, z146_180, hr9, hz_180, pa_180, pm_180, pc_180, cq_180⟩ := hp9
                rw [hr9]
                have hF_180 : FRM [73, 85, 93, 96, 97, 98] [28, 32, 33, 34, 36, 39] h g146_180 := FRM_tr hF_173 hG_180 (by decide) (by decide)
                rw [show g134_173 73 29 = (h 73) 29 from ((hG_173.2 29 (by decide))).trans (((hG_165.2 29 (by decide))).trans (hF29_155.2 29 (by decide)))] at pm_180
                rw [show g134_173 73 34 = (g134_173 73) 34 from rfl] at pm_180
                rw [show g134_173 73 36 = (g134_173 73) 36 from rfl] at pm_180
                rw [show g134_173 73 29 = (h 73) 29 from ((hG_173.2 29 (by decide))).trans (((hG_165.2 29 (by decide))).trans (hF29_155.2 29 (by decide)))] at pc_180
                have cq_at146 := cq_180
                show TT K ly 0 0 149 [(5, vI ((f / 2) % 2)), (0, vR 73), (1, vI x), (2, vI y), (3, vI q), (4, vI f)] [vI z146_180] g146_180
                refine TT_cgI (b := f % 2) (by exact cq_at146.1) ?_
                refine TT_istore hK (lv' := [(6, vI (f % 2)), (5, vI ((f / 2) % 2)), (0, vR 73), (1, vI x), (2, vI y), (3, vI q), (4, vI f)]) (by decide) rfl dX12_jump_149 ?_
                refine TT_aload_n hK rfl 2 rfl dX12_jump_151 ?_
                refine TT_iload_n hK rfl 3 rfl dX12_jump_152 ?_
                refine TT_iload_n hK rfl 4 rfl dX12_jump_153 ?_
                refine TT_iconst hK dX12_jump_154 ?_
                refine TT_iload hK 1 rfl dX12_jump_155 ?_
                refine TT_imul hK dX12_jump_157 ?_
                refine TT_iadd hK dX12_jump_158 ?_
                refine TT_iload hK 0 rfl dX12_jump_159 ?_
                refine TT_iadd hK dX12_jump_161 ?_
                refine TT_cgI (b := y + f) (by omega) ?_
                have e181_74 : g146_180 74 = h 74 := ((hG_180.1 74 (by decide))).trans (((hG_173.1 74 (by decide))).trans (((hG_165.1 74 (by decide))).trans (hF29_155.1 74 (by decide))))
                have e182_75 : g146_180 75 = h 75 := ((hG_180.1 75 (by decide))).trans (((hG_173.1 75 (by decide))).trans (((hG_165.1 75 (by decide))).trans (hF29_155.1 75 (by decide))))
                have e183_73_32 : g146_180 73 32 = (g146_180 73) 32 := rfl
                have e184_73_29 : g146_180 73 29 = (h 73) 29 := ((hG_180.2 29 (by decide))).trans (((hG_173.2 29 (by decide))).trans (((hG_165.2 29 (by decide))).trans (hF29_155.2 29 (by decide))))
                have e185_73_34 : g146_180 73 34 = (g146_180 73) 34 := rfl
                have e186_73_36 : g146_180 73 36 = (g146_180 73) 36 := rfl
                have e187_73_26 : g146_180 73 26 = (h 73) 26 := ((hG_180.2 26 (by decide))).trans (((hG_173.2 26 (by decide))).trans (((hG_165.2 26 (by decide))).trans (hF29_155.2 26 (by decide))))
                have e188_73_29 : g146_180 73 29 = (h 73) 29 := ((hG_180.2 29 (by decide))).trans (((hG_173.2 29 (by decide))).trans (((hG_165.2 29 (by decide))).trans (hF29_155.2 29 (by decide))))
                have e189_73_26 : g146_180 73 26 = (h 73) 26 := ((hG_180.2 26 (by decide))).trans (((hG_173.2 26 (by decide))).trans (((hG_165.2 26 (by decide))).trans (hF29_155.2 26 (by decide))))
                have e190_80 : g146_180 80 = h 80 := ((hG_180.1 80 (by decide))).trans (((hG_173.1 80 (by decide))).trans (((hG_165.1 80 (by decide))).trans (hF29_155.1 80 (by decide))))
                have e191_73_26 : g146_180 73 26 = (h 73) 26 := ((hG_180.2 26 (by decide))).trans (((hG_173.2 26 (by decide))).trans (((hG_165.2 26 (by decide))).trans (hF29_155.2 26 (by decide))))
                have e192_81 : g146_180 81 = h 81 := ((hG_180.1 81 (by decide))).trans (((hG_173.1 81 (by decide))).trans (((hG_165.1 81 (by decide))).trans (hF29_155.1 81 (by decide))))
                have e193_73_26 : g146_180 73 26 = (h 73) 26 := ((hG_180.2 26 (by decide))).trans (((hG_173.2 26 (by decide))).trans (((hG_165.2 26 (by decide))).trans (hF29_155.2 26 (by decide))))
                have e194_80 : g146_180 80 = h 80 := ((hG_180.1 80 (by decide))).trans (((hG_173.1 80 (by decide))).trans (((hG_165.1 80 (by decide))).trans (hF29_155.1 80 (by decide))))
                have e195_81 : g146_180 81 = h 81 := ((hG_180.1 81 (by decide))).trans (((hG_173.1 81 (by decide))).trans (((hG_165.1 81 (by decide))).trans (hF29_155.1 81 (by decide))))
                refine iv_X12_267 hK (s_wake_x m E0 D0 M (evT (evT (evT s 17 1) 18 (f / 2 % 2)) 18 (f % 2)) x (y + f) g146_180 hT_180 (by first | omega | (simp [up, setR] <;> omega)) (by first | omega | (simp [up, setR] <;> omega)) (by rewrite [e181_74, e182_75]; first | assumption | exact htb) (by rewrite [e183_73_32]; first | omega | (simp [up, setR] <;> omega)) (by rewrite [e184_73_29, e185_73_34, e186_73_36]; first | omega | (simp [up, setR] <;> omega)) (by rewrite [e187_73_26, e188_73_29]; first | omega | (simp [up, setR] <;> omega)) (by exact hmd) (by exact cq_at146.2) (by rewrite [e189_73_26, e190_80]; first | omega | (simp [up, setR] <;> omega)) (by rewrite [e191_73_26, e192_81]; first | omega | (simp [up, setR] <;> omega)) (by rewrite [e193_73_26, e194_80, e195_81]; first | omega | (simp [up, setR] <;> omega))) (by decide) rfl ⟨by decide, by decide⟩ (by decide) rfl rfl (Nat.le_of_ble_eq_true rfl) ⟨by decide, by decide⟩ dX12_jump_162 ?_
                intro r9 g162_196 hp9
                obtain ⟨⟨hT_196, hG_196⟩, hr9, pa_196, pm_196, pz_196, pk_196, rw9_196⟩ := hp9
                rw [hr9]
                have hF_196 : FRM [73, 85, 93, 96, 97, 98] [28, 32, 33, 34, 36, 39] h g162_196 := FRM_tr hF_180 hG_196 (by decide) (by decide)
                rw [show g146_180 73 29 = (h 73) 29 from ((hG_180.2 29 (by decide))).trans (((hG_173.2 29 (by decide))).trans (((hG_165.2 29 (by decide))).trans (hF29_155.2 29 (by decide))))] at pm_196
                rw [show g146_180 73 34 = (g146_180 73) 34 from rfl] at pm_196
                rw [show g146_180 73 36 = (g146_180 73) 36 from rfl] at pm_196
                rw [show g146_180 93 = w29_155 93 from ((hG_180.1 93 (by decide))).trans (((hG_173.1 93 (by decide))).trans (hG_165.1 93 (by decide)))] at pz_196
                rw [show g146_180 84 = h 84 from ((hG_180.1 84 (by decide))).trans (((hG_173.1 84 (by decide))).trans (((hG_165.1 84 (by decide))).trans (hF29_155.1 84 (by decide))))] at pk_196
                rw [show g146_180 85 = w29_155 85 from ((hG_180.1 85 (by decide))).trans (((hG_173.1 85 (by decide))).trans (hG_165.1 85 (by decide)))] at pk_196
                have pz_at162 := pz_196
                have pk_at162 := pk_196
                have rw9_at162 := rw9_196
                show TT K ly 0 0 165 [(6, vI (f % 2)), (5, vI ((f / 2) % 2)), (0, vR 73), (1, vI x), (2, vI y), (3, vI q), (4, vI f)] [] g162_196
                refine TT_iconst hK dX12_jump_165 ?_
                refine TT_iload hK 1 rfl dX12_jump_166 ?_
                refine TT_imul hK dX12_jump_168 ?_
                refine TT_iload hK 0 rfl dX12_jump_169 ?_
                refine TT_iadd hK dX12_jump_171 ?_
                refine TT_iconst hK dX12_jump_172 ?_
                refine TT_iadd hK dX12_jump_173 ?_
                refine TT_iret hK hQ ?_ dX12_jump_174
                have e197_73_32 : g162_196 73 32 = (g162_196 73) 32 := rfl
                have e198_73_34 : g162_196 73 34 = (g162_196 73) 34 := rfl
                have e199_73_36 : g162_196 73 36 = (g162_196 73) 36 := rfl
                have e200_73_34 : g162_196 73 34 = (g162_196 73) 34 := rfl
                have e201_73_36 : g162_196 73 36 = (g162_196 73) 36 := rfl
                have e202_84 : g162_196 84 = h 84 := ((hG_196.1 84 (by decide))).trans (((hG_180.1 84 (by decide))).trans (((hG_173.1 84 (by decide))).trans (((hG_165.1 84 (by decide))).trans (hF29_155.1 84 (by decide)))))
                exact ⟨⟨hT_196, hF_196⟩, (((2 * ((f / 2) % 2)) + (f % 2)) + 1), rfl, (by omega), (by rewrite [e197_73_32]; omega), (by rewrite [e198_73_34, e199_73_36]; omega), (by omega), (by rewrite [e200_73_34, e201_73_36]; intro w h1 h2 h5; first | omega | (rw [k93]; omega) | (have k8 := pz_at162 w (h 81 (h 73 26)) h1 h2 (by omega) (by omega) (hz9 (by omega) _ (by omega) (by omega)); rw [k93] at k8; omega)), (by rewrite [e202_84]; first | (first | (intro j hj; have k1 := pk_at162 j hj; have k2 := pki j hj; exact ⟨k1.1.trans k2.1, k1.2.trans k2.2⟩) | exact pki | (intro j hj; exact ⟨rfl, rfl⟩)) | (intro j hj; exact ⟨rfl, (pk_at162 j hj).2.trans (pki j hj).2⟩) | (intro j hj; exact ⟨rfl, (pk_at162 j hj).2⟩) | (intro j hj; exact ⟨rfl, (pki j hj).2⟩) | (intro j hj; exact ⟨rfl, rfl⟩)), (by exact JP_1 (JL_e hJ (by omega) (by omega) (by omega)) (by omega) (by omega) rw9_at162 (by omega))⟩
              · refine TT_iconst hK dX12_jump_123 ?_
                refine TT_iret hK hQ ?_ dX12_jump_124
                have e203_73_32 : g117_165 73 32 = (g117_165 73) 32 := rfl
                have e204_73_34 : g117_165 73 34 = (g117_165 73) 34 := rfl
                have e205_73_36 : g117_165 73 36 = (g117_165 73) 36 := rfl
                have e206_73_34 : g117_165 73 34 = (g117_165 73) 34 := rfl
                have e207_73_36 : g117_165 73 36 = (g117_165 73) 36 := rfl
                have e208_93 : g117_165 93 = w29_155 93 := (hG_165.1 93 (by decide))
                have e209_84 : g117_165 84 = h 84 := ((hG_165.1 84 (by decide))).trans (hF29_155.1 84 (by decide))
                have e210_85 : g117_165 85 = w29_155 85 := (hG_165.1 85 (by decide))
                exact ⟨⟨hT_165, hF_165⟩, 4, rfl, (by omega), (by rewrite [e203_73_32]; omega), (by rewrite [e204_73_34, e205_73_36]; omega), (by omega), (by rewrite [e206_73_34, e207_73_36, e208_93]; intro w h1 h2 h5; first | omega | (rw [k93]; omega)), (by rewrite [e209_84, e210_85]; first | (first | exact pki | (intro j hj; exact ⟨rfl, rfl⟩)) | (intro j hj; exact ⟨rfl, (pki j hj).2⟩) | (intro j hj; exact ⟨rfl, rfl⟩)), (by first | exact JP_4 (JL_e hJ (by omega) (by omega) (by omega)) (by omega) cq_at117.2 | (exfalso; have e9 := cq_at117.1; omega))⟩
            · refine TT_iconst hK dX12_jump_112 ?_
              refine TT_goto hK (tgt := 117) dX12_jump_113 (by decide) ?_
              have e211_74 : w29_155 74 = h 74 := (hF29_155.1 74 (by decide))
              have e212_75 : w29_155 75 = h 75 := (hF29_155.1 75 (by decide))
              have e213_73_32 : w29_155 73 32 = (w29_155 73) 32 := rfl
              have e214_73_29 : w29_155 73 29 = (h 73) 29 := (hF29_155.2 29 (by decide))
              have e215_73_34 : w29_155 73 34 = (w29_155 73) 34 := rfl
              have e216_73_36 : w29_155 73 36 = (w29_155 73) 36 := rfl
              refine iv_X12_258 hK (s_code_e m E0 D0 M s 17 1 w29_155 hT29_155 (by first | omega | (simp [up, setR] <;> omega)) (by first | omega | (simp [up, setR] <;> omega)) (by rewrite [e211_74, e212_75]; first | assumption | exact htb) (by rewrite [e213_73_32]; first | omega | (simp [up, setR] <;> omega)) (by rewrite [e214_73_29, e215_73_34, e216_73_36]; first | omega | (simp [up, setR] <;> omega)) (by exact hmd) (by exact hRw)) (by decide) rfl ⟨by decide, by decide⟩ (by decide) rfl rfl (Nat.le_of_ble_eq_true rfl) ⟨by decide, by decide⟩ dX12_jump_117 ?_
              intro r9 g117_217 hp9
              obtain ⟨⟨hT_217, hG_217⟩, z117_217, hr9, hz_217, pa_217, pm_217, pc_217, cq_217⟩ := hp9
              rw [hr9]
              have hF_217 : FRM [73, 85, 93, 96, 97, 98] [28, 32, 33, 34, 36, 39] h g117_217 := FRM_tr hF29_155 hG_217 (by decide) (by decide)
              rw [show w29_155 73 29 = (h 73) 29 from (hF29_155.2 29 (by decide))] at pm_217
              rw [show w29_155 73 34 = (w29_155 73) 34 from rfl] at pm_217
              rw [show w29_155 73 36 = (w29_155 73) 36 from rfl] at pm_217
              rw [show w29_155 73 29 = (h 73) 29 from (hF29_155.2 29 (by decide))] at pc_217
              have cq_at117 := cq_217
              show TT K ly 0 0 120 [(0, vR 73), (1, vI x), (2, vI y), (3, vI q), (4, vI f), (5, vI r)] [vI z117_217] g117_217
              refine TT_if_ne hK (tgt := 125) (irm (by omega) (by omega)) dX12_jump_120 (by decide) (fun hb120_218 => ?_) (fun hb120_218 => ?_)
              · refine TT_aload_n hK rfl 0 rfl dX12_jump_125 ?_
                refine TT_bipush hK (by decide) dX12_jump_126 ?_
                refine TT_iload hK 4 rfl dX12_jump_128 ?_
                refine TT_iconst hK dX12_jump_130 ?_
                refine TT_idivn hK (irm (by omega) (by omega)) (by decide) (by first | omega | (simp [up, setR] <;> omega)) (by first | omega | (simp [up, setR] <;> omega)) dX12_jump_131 ?_
                refine TT_iconst hK dX12_jump_132 ?_
                refine TT_iremn hK (irm (by omega) (by omega)) (by decide) (by first | omega | (simp [up, setR] <;> omega)) (by first | omega | (simp [up, setR] <;> omega)) dX12_jump_133 ?_
                have e219_74 : g117_217 74 = h 74 := ((hG_217.1 74 (by decide))).trans (hF29_155.1 74 (by decide))
                have e220_75 : g117_217 75 = h 75 := ((hG_217.1 75 (by decide))).trans (hF29_155.1 75 (by decide))
                have e221_73_32 : g117_217 73 32 = (g117_217 73) 32 := rfl
                have e222_73_29 : g117_217 73 29 = (h 73) 29 := ((hG_217.2 29 (by decide))).trans (hF29_155.2 29 (by decide))
                have e223_73_34 : g117_217 73 34 = (g117_217 73) 34 := rfl
                have e224_73_36 : g117_217 73 36 = (g117_217 73) 36 := rfl
                refine iv_X12_258 hK (s_code_e m E0 D0 M (evT s 17 1) 18 ((f / 2) % 2) g117_217 hT_217 (by first | omega | (simp [up, setR] <;> omega)) (by first | omega | (simp [up, setR] <;> omega)) (by rewrite [e219_74, e220_75]; first | assumption | exact htb) (by rewrite [e221_73_32]; first | omega | (simp [up, setR] <;> omega)) (by rewrite [e222_73_29, e223_73_34, e224_73_36]; first | omega | (simp [up, setR] <;> omega)) (by exact hmd) (by first | exact cq_at117.2 | (exfalso; have e9 := cq_at117.1; omega))) (by decide) rfl ⟨by decide, by decide⟩ (by decide) rfl rfl (Nat.le_of_ble_eq_true rfl) ⟨by decide, by decide⟩ dX12_jump_134 ?_
                intro r9 g134_225 hp9
                obtain ⟨⟨hT_225, hG_225⟩, z134_225, hr9, hz_225, pa_225, pm_225, pc_225, cq_225⟩ := hp9
                rw [hr9]
                have hF_225 : FRM [73, 85, 93, 96, 97, 98] [28, 32, 33, 34, 36, 39] h g134_225 := FRM_tr hF_217 hG_225 (by decide) (by decide)
                rw [show g117_217 73 29 = (h 73) 29 from ((hG_217.2 29 (by decide))).trans (hF29_155.2 29 (by decide))] at pm_225
                rw [show g117_217 73 34 = (g117_217 73) 34 from rfl] at pm_225
                rw [show g117_217 73 36 = (g117_217 73) 36 from rfl] at pm_225
                rw [show g117_217 73 29 = (h 73) 29 from ((hG_217.2 29 (by decide))).trans (hF29_155.2 29 (by decide))] at pc_225
                have cq_at134 := cq_225
                show TT K ly 0 0 137 [(0, vR 73), (1, vI x), (2, vI y), (3, vI q), (4, vI f), (5, vI r)] [vI z134_225] g134_225
                refine TT_cgI (b := (f / 2) % 2) (by exact cq_at134.1) ?_
                refine TT_istore hK (lv' := [(5, vI ((f / 2) % 2)), (0, vR 73), (1, vI x), (2, vI y), (3, vI q), (4, vI f)]) (by decide) rfl dX12_jump_137 ?_
                refine TT_aload_n hK rfl 1 rfl dX12_jump_139 ?_
                refine TT_bipush hK (by decide) dX12_jump_140 ?_
                refine TT_iload hK 5 rfl dX12_jump_142 ?_
                refine TT_iconst hK dX12_jump_144 ?_
                refine TT_iremn hK (irm (by omega) (by omega)) (by decide) (by first | omega | (simp [up, setR] <;> omega)) (by first | omega | (simp [up, setR] <;> omega)) dX12_jump_145 ?_
                have e226_74 : g134_225 74 = h 74 := ((hG_225.1 74 (by decide))).trans (((hG_217.1 74 (by decide))).trans (hF29_155.1 74 (by decide)))
                have e227_75 : g134_225 75 = h 75 := ((hG_225.1 75 (by decide))).trans (((hG_217.1 75 (by decide))).trans (hF29_155.1 75 (by decide)))
                have e228_73_32 : g134_225 73 32 = (g134_225 73) 32 := rfl
                have e229_73_29 : g134_225 73 29 = (h 73) 29 := ((hG_225.2 29 (by decide))).trans (((hG_217.2 29 (by decide))).trans (hF29_155.2 29 (by decide)))
                have e230_73_34 : g134_225 73 34 = (g134_225 73) 34 := rfl
                have e231_73_36 : g134_225 73 36 = (g134_225 73) 36 := rfl
                refine iv_X12_258 hK (s_code_e m E0 D0 M (evT (evT s 17 1) 18 (f / 2 % 2)) 18 (f % 2) g134_225 hT_225 (by first | omega | (simp [up, setR] <;> omega)) (by first | omega | (simp [up, setR] <;> omega)) (by rewrite [e226_74, e227_75]; first | assumption | exact htb) (by rewrite [e228_73_32]; first | omega | (simp [up, setR] <;> omega)) (by rewrite [e229_73_29, e230_73_34, e231_73_36]; first | omega | (simp [up, setR] <;> omega)) (by exact hmd) (by exact cq_at134.2)) (by decide) rfl ⟨by decide, by decide⟩ (by decide) rfl rfl (Nat.le_of_ble_eq_true rfl) ⟨by decide, by decide⟩ dX12_jump_146 ?_
                intro r9 g146_232 hp9
                obtain ⟨⟨hT_232, hG_232⟩, z146_232, hr9, hz_232, pa_232, pm_232, pc_232, cq_232⟩ := hp9
                rw [hr9]
                have hF_232 : FRM [73, 85, 93, 96, 97, 98] [28, 32, 33, 34, 36, 39] h g146_232 := FRM_tr hF_225 hG_232 (by decide) (by decide)
                rw [show g134_225 73 29 = (h 73) 29 from ((hG_225.2 29 (by decide))).trans (((hG_217.2 29 (by decide))).trans (hF29_155.2 29 (by decide)))] at pm_232
                rw [show g134_225 73 34 = (g134_225 73) 34 from rfl] at pm_232
                rw [show g134_225 73 36 = (g134_225 73) 36 from rfl] at pm_232
                rw [show g134_225 73 29 = (h 73) 29 from ((hG_225.2 29 (by decide))).trans (((hG_217.2 29 (by decide))).trans (hF29_155.2 29 (by decide)))] at pc_232
                have cq_at146 := cq_232
                show TT K ly 0 0 149 [(5, vI ((f / 2) % 2)), (0, vR 73), (1, vI x), (2, vI y), (3, vI q), (4, vI f)] [vI z146_232] g146_232
                refine TT_cgI (b := f % 2) (by exact cq_at146.1) ?_
                refine TT_istore hK (lv' := [(6, vI (f % 2)), (5, vI ((f / 2) % 2)), (0, vR 73), (1, vI x), (2, vI y), (3, vI q), (4, vI f)]) (by decide) rfl dX12_jump_149 ?_
                refine TT_aload_n hK rfl 2 rfl dX12_jump_151 ?_
                refine TT_iload_n hK rfl 3 rfl dX12_jump_152 ?_
                refine TT_iload_n hK rfl 4 rfl dX12_jump_153 ?_
                refine TT_iconst hK dX12_jump_154 ?_
                refine TT_iload hK 1 rfl dX12_jump_155 ?_
                refine TT_imul hK dX12_jump_157 ?_
                refine TT_iadd hK dX12_jump_158 ?_
                refine TT_iload hK 0 rfl dX12_jump_159 ?_
                refine TT_iadd hK dX12_jump_161 ?_
                refine TT_cgI (b := y + f) (by omega) ?_
                have e233_74 : g146_232 74 = h 74 := ((hG_232.1 74 (by decide))).trans (((hG_225.1 74 (by decide))).trans (((hG_217.1 74 (by decide))).trans (hF29_155.1 74 (by decide))))
                have e234_75 : g146_232 75 = h 75 := ((hG_232.1 75 (by decide))).trans (((hG_225.1 75 (by decide))).trans (((hG_217.1 75 (by decide))).trans (hF29_155.1 75 (by decide))))
                have e235_73_32 : g146_232 73 32 = (g146_232 73) 32 := rfl
                have e236_73_29 : g146_232 73 29 = (h 73) 29 := ((hG_232.2 29 (by decide))).trans (((hG_225.2 29 (by decide))).trans (((hG_217.2 29 (by decide))).trans (hF29_155.2 29 (by decide))))
                have e237_73_34 : g146_232 73 34 = (g146_232 73) 34 := rfl
                have e238_73_36 : g146_232 73 36 = (g146_232 73) 36 := rfl
                have e239_73_26 : g146_232 73 26 = (h 73) 26 := ((hG_232.2 26 (by decide))).trans (((hG_225.2 26 (by decide))).trans (((hG_217.2 26 (by decide))).trans (hF29_155.2 26 (by decide))))
                have e240_73_29 : g146_232 73 29 = (h 73) 29 := ((hG_232.2 29 (by decide))).trans (((hG_225.2 29 (by decide))).trans (((hG_217.2 29 (by decide))).trans (hF29_155.2 29 (by decide))))
                have e241_73_26 : g146_232 73 26 = (h 73) 26 := ((hG_232.2 26 (by decide))).trans (((hG_225.2 26 (by decide))).trans (((hG_217.2 26 (by decide))).trans (hF29_155.2 26 (by decide))))
                have e242_80 : g146_232 80 = h 80 := ((hG_232.1 80 (by decide))).trans (((hG_225.1 80 (by decide))).trans (((hG_217.1 80 (by decide))).trans (hF29_155.1 80 (by decide))))
                have e243_73_26 : g146_232 73 26 = (h 73) 26 := ((hG_232.2 26 (by decide))).trans (((hG_225.2 26 (by decide))).trans (((hG_217.2 26 (by decide))).trans (hF29_155.2 26 (by decide))))
                have e244_81 : g146_232 81 = h 81 := ((hG_232.1 81 (by decide))).trans (((hG_225.1 81 (by decide))).trans (((hG_217.1 81 (by decide))).trans (hF29_155.1 81 (by decide))))
                have e245_73_26 : g146_232 73 26 = (h 73) 26 := ((hG_232.2 26 (by decide))).trans (((hG_225.2 26 (by decide))).trans (((hG_217.2 26 (by decide))).trans (hF29_155.2 26 (by decide))))
                have e246_80 : g146_232 80 = h 80 := ((hG_232.1 80 (by decide))).trans (((hG_225.1 80 (by decide))).trans (((hG_217.1 80 (by decide))).trans (hF29_155.1 80 (by decide))))
                have e247_81 : g146_232 81 = h 81 := ((hG_232.1 81 (by decide))).trans (((hG_225.1 81 (by decide))).trans (((hG_217.1 81 (by decide))).trans (hF29_155.1 81 (by decide))))
                refine iv_X12_267 hK (s_wake_x m E0 D0 M (evT (evT (evT s 17 1) 18 (f / 2 % 2)) 18 (f % 2)) x (y + f) g146_232 hT_232 (by first | omega | (simp [up, setR] <;> omega)) (by first | omega | (simp [up, setR] <;> omega)) (by rewrite [e233_74, e234_75]; first | assumption | exact htb) (by rewrite [e235_73_32]; first | omega | (simp [up, setR] <;> omega)) (by rewrite [e236_73_29, e237_73_34, e238_73_36]; first | omega | (simp [up, setR] <;> omega)) (by rewrite [e239_73_26, e240_73_29]; first | omega | (simp [up, setR] <;> omega)) (by exact hmd) (by exact cq_at146.2) (by rewrite [e241_73_26, e242_80]; first | omega | (simp [up, setR] <;> omega)) (by rewrite [e243_73_26, e244_81]; first | omega | (simp [up, setR] <;> omega)) (by rewrite [e245_73_26, e246_80, e247_81]; first | omega | (simp [up, setR] <;> omega))) (by decide) rfl ⟨by decide, by decide⟩ (by decide) rfl rfl (Nat.le_of_ble_eq_true rfl) ⟨by decide, by decide⟩ dX12_jump_162 ?_
                intro r9 g162_248 hp9
                obtain ⟨⟨hT_248, hG_248⟩, hr9, pa_248, pm_248, pz_248, pk_248, rw9_248⟩ := hp9
                rw [hr9]
                have hF_248 : FRM [73, 85, 93, 96, 97, 98] [28, 32, 33, 34, 36, 39] h g162_248 := FRM_tr hF_232 hG_248 (by decide) (by decide)
                rw [show g146_232 73 29 = (h 73) 29 from ((hG_232.2 29 (by decide))).trans (((hG_225.2 29 (by decide))).trans (((hG_217.2 29 (by decide))).trans (hF29_155.2 29 (by decide))))] at pm_248
                rw [show g146_232 73 34 = (g146_232 73) 34 from rfl] at pm_248
                rw [show g146_232 73 36 = (g146_232 73) 36 from rfl] at pm_248
                rw [show g146_232 93 = w29_155 93 from ((hG_232.1 93 (by decide))).trans (((hG_225.1 93 (by decide))).trans (hG_217.1 93 (by decide)))] at pz_248
                rw [show g146_232 84 = h 84 from ((hG_232.1 84 (by decide))).trans (((hG_225.1 84 (by decide))).trans (((hG_217.1 84 (by decide))).trans (hF29_155.1 84 (by decide))))] at pk_248
                rw [show g146_232 85 = w29_155 85 from ((hG_232.1 85 (by decide))).trans (((hG_225.1 85 (by decide))).trans (hG_217.1 85 (by decide)))] at pk_248
                have pz_at162 := pz_248
                have pk_at162 := pk_248
                have rw9_at162 := rw9_248
                show TT K ly 0 0 165 [(6, vI (f % 2)), (5, vI ((f / 2) % 2)), (0, vR 73), (1, vI x), (2, vI y), (3, vI q), (4, vI f)] [] g162_248
                refine TT_iconst hK dX12_jump_165 ?_
                refine TT_iload hK 1 rfl dX12_jump_166 ?_
                refine TT_imul hK dX12_jump_168 ?_
                refine TT_iload hK 0 rfl dX12_jump_169 ?_
                refine TT_iadd hK dX12_jump_171 ?_
                refine TT_iconst hK dX12_jump_172 ?_
                refine TT_iadd hK dX12_jump_173 ?_
                refine TT_iret hK hQ ?_ dX12_jump_174
                have e249_73_32 : g162_248 73 32 = (g162_248 73) 32 := rfl
                have e250_73_34 : g162_248 73 34 = (g162_248 73) 34 := rfl
                have e251_73_36 : g162_248 73 36 = (g162_248 73) 36 := rfl
                have e252_73_34 : g162_248 73 34 = (g162_248 73) 34 := rfl
                have e253_73_36 : g162_248 73 36 = (g162_248 73) 36 := rfl
                have e254_84 : g162_248 84 = h 84 := ((hG_248.1 84 (by decide))).trans (((hG_232.1 84 (by decide))).trans (((hG_225.1 84 (by decide))).trans (((hG_217.1 84 (by decide))).trans (hF29_155.1 84 (by decide)))))
                exact ⟨⟨hT_248, hF_248⟩, (((2 * ((f / 2) % 2)) + (f % 2)) + 1), rfl, (by omega), (by rewrite [e249_73_32]; omega), (by rewrite [e250_73_34, e251_73_36]; omega), (by omega), (by rewrite [e252_73_34, e253_73_36]; intro w h1 h2 h5; first | omega | (rw [k93]; omega) | (have k8 := pz_at162 w (h 81 (h 73 26)) h1 h2 (by omega) (by omega) (hz9 (by omega) _ (by omega) (by omega)); rw [k93] at k8; omega)), (by rewrite [e254_84]; first | (first | (intro j hj; have k1 := pk_at162 j hj; have k2 := pki j hj; exact ⟨k1.1.trans k2.1, k1.2.trans k2.2⟩) | exact pki | (intro j hj; exact ⟨rfl, rfl⟩)) | (intro j hj; exact ⟨rfl, (pk_at162 j hj).2.trans (pki j hj).2⟩) | (intro j hj; exact ⟨rfl, (pk_at162 j hj).2⟩) | (intro j hj; exact ⟨rfl, (pki j hj).2⟩) | (intro j hj; exact ⟨rfl, rfl⟩)), (by exact JP_1 (JL_e hJ (by omega) (by omega) (by omega)) (by omega) (by omega) rw9_at162 (by omega))⟩
              · refine TT_iconst hK dX12_jump_123 ?_
                refine TT_iret hK hQ ?_ dX12_jump_124
                have e255_73_32 : g117_217 73 32 = (g117_217 73) 32 := rfl
                have e256_73_34 : g117_217 73 34 = (g117_217 73) 34 := rfl
                have e257_73_36 : g117_217 73 36 = (g117_217 73) 36 := rfl
                have e258_73_34 : g117_217 73 34 = (g117_217 73) 34 := rfl
                have e259_73_36 : g117_217 73 36 = (g117_217 73) 36 := rfl
                have e260_93 : g117_217 93 = w29_155 93 := (hG_217.1 93 (by decide))
                have e261_84 : g117_217 84 = h 84 := ((hG_217.1 84 (by decide))).trans (hF29_155.1 84 (by decide))
                have e262_85 : g117_217 85 = w29_155 85 := (hG_217.1 85 (by decide))
                exact ⟨⟨hT_217, hF_217⟩, 4, rfl, (by omega), (by rewrite [e255_73_32]; omega), (by rewrite [e256_73_34, e257_73_36]; omega), (by omega), (by rewrite [e258_73_34, e259_73_36, e260_93]; intro w h1 h2 h5; first | omega | (rw [k93]; omega)), (by rewrite [e261_84, e262_85]; first | (first | exact pki | (intro j hj; exact ⟨rfl, rfl⟩)) | (intro j hj; exact ⟨rfl, (pki j hj).2⟩) | (intro j hj; exact ⟨rfl, rfl⟩)), (by first | exact JP_4 (JL_e hJ (by omega) (by omega) (by omega)) (by omega) cq_at117.2 | (exfalso; have e9 := cq_at117.1; omega))⟩
          · refine TT_iconst hK dX12_jump_101 ?_
            refine TT_iret hK hQ ?_ dX12_jump_102
            have e263_73_32 : w29_155 73 32 = (w29_155 73) 32 := rfl
            have e264_73_34 : w29_155 73 34 = (w29_155 73) 34 := rfl
            have e265_73_36 : w29_155 73 36 = (w29_155 73) 36 := rfl
            have e266_73_34 : w29_155 73 34 = (w29_155 73) 34 := rfl
            have e267_73_36 : w29_155 73 36 = (w29_155 73) 36 := rfl
            have e268_84 : w29_155 84 = h 84 := (hF29_155.1 84 (by decide))
            exact ⟨⟨hT29_155, hF29_155⟩, 0, rfl, (by omega), (by rewrite [e263_73_32]; omega), (by rewrite [e264_73_34, e265_73_36]; omega), (by omega), (by rewrite [e266_73_34, e267_73_36]; intro w h1 h2 h5; first | omega | (rw [k93]; omega)), (by rewrite [e268_84]; first | (first | exact pki | (intro j hj; exact ⟨rfl, rfl⟩)) | (intro j hj; exact ⟨rfl, (pki j hj).2⟩) | (intro j hj; exact ⟨rfl, rfl⟩)), (by exact JP_0 hRw (hJ.1 (by omega)))⟩
        · refine TT_iload_n hK rfl 3 rfl dX12_jump_35 ?_
          refine TT_if_eq hK (tgt := 97) (irm (by omega) (by omega)) dX12_jump_36 (by decide) (fun hb36_269 => ?_) (fun hb36_269 => ?_)
          · refine TT_iload_n hK rfl 3 rfl dX12_jump_97 ?_
            refine TT_if_ne hK (tgt := 103) (irm (by omega) (by omega)) dX12_jump_98 (by decide) (fun hb98_270 => ?_) (fun hb98_270 => ?_)
            · exfalso; omega
            · refine TT_iconst hK dX12_jump_101 ?_
              refine TT_iret hK hQ ?_ dX12_jump_102
              have e271_73_32 : w29_155 73 32 = (w29_155 73) 32 := rfl
              have e272_73_34 : w29_155 73 34 = (w29_155 73) 34 := rfl
              have e273_73_36 : w29_155 73 36 = (w29_155 73) 36 := rfl
              have e274_73_34 : w29_155 73 34 = (w29_155 73) 34 := rfl
              have e275_73_36 : w29_155 73 36 = (w29_155 73) 36 := rfl
              have e276_84 : w29_155 84 = h 84 := (hF29_155.1 84 (by decide))
              exact ⟨⟨hT29_155, hF29_155⟩, 0, rfl, (by omega), (by rewrite [e271_73_32]; omega), (by rewrite [e272_73_34, e273_73_36]; omega), (by omega), (by rewrite [e274_73_34, e275_73_36]; intro w h1 h2 h5; first | omega | (rw [k93]; omega)), (by rewrite [e276_84]; first | (first | exact pki | (intro j hj; exact ⟨rfl, rfl⟩)) | (intro j hj; exact ⟨rfl, (pki j hj).2⟩) | (intro j hj; exact ⟨rfl, rfl⟩)), (by exact JP_0 hRw (hJ.1 (by omega)))⟩
          · refine TT_aload_n hK rfl 0 rfl dX12_jump_39 ?_
            refine TT_iload_n hK rfl 1 rfl dX12_jump_40 ?_
            refine TT_iload hK 5 rfl dX12_jump_41 ?_
            refine iv_X12_271 hK (s_untouched_e x r w29_155 hT29_155 (by first | omega | (simp [up, setR] <;> omega)) (by first | omega | (simp [up, setR] <;> omega))) (by decide) rfl ⟨by decide, by decide⟩ (by decide) rfl rfl (Nat.le_of_ble_eq_true rfl) ⟨by decide, by decide⟩ dX12_jump_43 ?_
            intro r9 g43_277 hp9
            obtain ⟨⟨hT_277, hG_277⟩, z43_277, hr9, hz_277, p1_277, e_277⟩ := hp9
            rw [hr9]
            have hE_277 : w29_155 = g43_277 := (funext (fun o9 => hG_277.1 o9 (List.not_mem_nil))).symm
            subst hE_277
            rw [show w29_155 94 = h 94 from (hF29_155.1 94 (by decide))] at e_277
            have e_at43 := e_277
            show TT K ly 0 0 46 [(0, vR 73), (1, vI x), (2, vI y), (3, vI q), (4, vI f), (5, vI r)] [vI z43_277] w29_155
            refine TT_if_eq hK (tgt := 63) (irm (by omega) (by omega)) dX12_jump_46 (by decide) (fun hb46_278 => ?_) (fun hb46_278 => ?_)
            · refine TT_iconst hK dX12_jump_63 ?_
              refine TT_istore_n hK rfl (lv' := [(3, vI 0), (0, vR 73), (1, vI x), (2, vI y), (4, vI f), (5, vI r)]) (by decide) rfl dX12_jump_64 ?_
              refine TT_iload_n hK rfl 0 rfl dX12_jump_65 ?_
              refine TT_if_eq hK (tgt := 87) (by decide) dX12_jump_66 (by decide) (fun hb66_279 => ?_) (fun hb66_279 => ?_)
              · refine TT_iload hK 4 rfl dX12_jump_87 ?_
                refine TT_istore hK (lv' := [(4, vI f), (3, vI 0), (0, vR 73), (1, vI x), (2, vI y), (5, vI r)]) (by decide) rfl dX12_jump_89 ?_
                refine TT_iinc hK (v := r - 1) (lv' := [(5, vI (r - 1)), (4, vI f), (3, vI 0), (0, vR 73), (1, vI x), (2, vI y)]) 5 rfl (by omega) (by decide) rfl dX12_jump_91 ?_
                refine TT_goto hK (tgt := 29) dX12_jump_94 (by decide) ?_
                refine TT_sub [3, 4, 5, 2, 1, 0] rfl ?_
                have e280_73_34 : w29_155 73 34 = (w29_155 73) 34 := rfl
                have e281_73_36 : w29_155 73 36 = (w29_155 73) 36 := rfl
                have e282_73_32 : w29_155 73 32 = (w29_155 73) 32 := rfl
                have e283_84 : w29_155 84 = h 84 := (hF29_155.1 84 (by decide))
                exact ih155 0 f (r - 1) w29_155 hT29_155 hF29_155 (by first | omega | (simp [up, setR] <;> omega)) (by first | omega | (simp [up, setR] <;> omega)) (by first | omega | (simp [up, setR] <;> omega)) (by first | omega | (simp [up, setR] <;> omega)) (by intro h0 j h1 h2; first | omega | (by_cases e : j = r; (subst e; omega); exact hz9 (by omega) j (by omega) h2)) (by first | assumption | rfl) (by first | omega | (simp [up, setR] <;> omega)) (by rewrite [e280_73_34]; first | omega | (simp [up, setR] <;> omega)) (by rewrite [e281_73_36]; first | omega | (simp [up, setR] <;> omega)) (by rewrite [e282_73_32]; first | omega | (simp [up, setR] <;> omega)) (by rewrite [e283_84]; first | (first | exact pki) | (intro j hj; exact ⟨rfl, (pki j hj).2⟩) | (intro j hj; exact ⟨rfl, rfl⟩)) (by exact hRw) (by first | exact JL_k hJ (by omega) (by omega) | exact JL_x (c := 0) hRw hJ (by omega) (by omega) (by omega) hx hy (Or.inl (by rw [show w29_155 94 = h 94 from (hF29_155.1 94 (by decide))]; exact e_at43.2 (by omega))) | omega) (by first | omega | (simp [up, setR] <;> omega))
              · exact absurd hb66_279 (by decide)
            · refine TT_aload_n hK rfl 0 rfl dX12_jump_49 ?_
              refine TT_iload_n hK rfl 1 rfl dX12_jump_50 ?_
              refine TT_iload hK 5 rfl dX12_jump_51 ?_
              refine iv_X12_261 hK (s_mctx_e x r w29_155 hT29_155 (by first | omega | (simp [up, setR] <;> omega)) (by first | omega | (simp [up, setR] <;> omega))) (by decide) rfl ⟨by decide, by decide⟩ (by decide) rfl rfl (Nat.le_of_ble_eq_true rfl) ⟨by decide, by decide⟩ dX12_jump_53 ?_
              intro r9 g53_284 hp9
              obtain ⟨⟨hT_284, hG_284⟩, z53_284, hr9, hz_284, e_284⟩ := hp9
              rw [hr9]
              have hE_284 : w29_155 = g53_284 := (funext (fun o9 => hG_284.1 o9 (List.not_mem_nil))).symm
              subst hE_284
              rw [show w29_155 73 26 = (h 73) 26 from (hF29_155.2 26 (by decide))] at e_284
              rw [show w29_155 82 = h 82 from (hF29_155.1 82 (by decide))] at e_284
              have e_at53 := e_284
              show TT K ly 0 0 56 [(0, vR 73), (1, vI x), (2, vI y), (3, vI q), (4, vI f), (5, vI r)] [vI z53_284] w29_155
              refine TT_if_ne hK (tgt := 63) (irm (by omega) (by omega)) dX12_jump_56 (by decide) (fun hb56_285 => ?_) (fun hb56_285 => ?_)
              · refine TT_iconst hK dX12_jump_63 ?_
                refine TT_istore_n hK rfl (lv' := [(3, vI 0), (0, vR 73), (1, vI x), (2, vI y), (4, vI f), (5, vI r)]) (by decide) rfl dX12_jump_64 ?_
                refine TT_iload_n hK rfl 0 rfl dX12_jump_65 ?_
                refine TT_if_eq hK (tgt := 87) (by decide) dX12_jump_66 (by decide) (fun hb66_286 => ?_) (fun hb66_286 => ?_)
                · refine TT_iload hK 4 rfl dX12_jump_87 ?_
                  refine TT_istore hK (lv' := [(4, vI f), (3, vI 0), (0, vR 73), (1, vI x), (2, vI y), (5, vI r)]) (by decide) rfl dX12_jump_89 ?_
                  refine TT_iinc hK (v := r - 1) (lv' := [(5, vI (r - 1)), (4, vI f), (3, vI 0), (0, vR 73), (1, vI x), (2, vI y)]) 5 rfl (by omega) (by decide) rfl dX12_jump_91 ?_
                  refine TT_goto hK (tgt := 29) dX12_jump_94 (by decide) ?_
                  refine TT_sub [3, 4, 5, 2, 1, 0] rfl ?_
                  have e287_73_34 : w29_155 73 34 = (w29_155 73) 34 := rfl
                  have e288_73_36 : w29_155 73 36 = (w29_155 73) 36 := rfl
                  have e289_73_32 : w29_155 73 32 = (w29_155 73) 32 := rfl
                  have e290_84 : w29_155 84 = h 84 := (hF29_155.1 84 (by decide))
                  exact ih155 0 f (r - 1) w29_155 hT29_155 hF29_155 (by first | omega | (simp [up, setR] <;> omega)) (by first | omega | (simp [up, setR] <;> omega)) (by first | omega | (simp [up, setR] <;> omega)) (by first | omega | (simp [up, setR] <;> omega)) (by intro h0 j h1 h2; first | omega | (by_cases e : j = r; (subst e; omega); exact hz9 (by omega) j (by omega) h2)) (by first | assumption | rfl) (by first | omega | (simp [up, setR] <;> omega)) (by rewrite [e287_73_34]; first | omega | (simp [up, setR] <;> omega)) (by rewrite [e288_73_36]; first | omega | (simp [up, setR] <;> omega)) (by rewrite [e289_73_32]; first | omega | (simp [up, setR] <;> omega)) (by rewrite [e290_84]; first | (first | exact pki) | (intro j hj; exact ⟨rfl, (pki j hj).2⟩) | (intro j hj; exact ⟨rfl, rfl⟩)) (by exact hRw) (by first | exact JL_k hJ (by omega) (by omega) | exact JL_x (c := 0) hRw hJ (by omega) (by omega) (by omega) hx hy (Or.inl (by rw [show w29_155 94 = h 94 from (hF29_155.1 94 (by decide))]; exact e_at43.2 (by omega))) | exact JL_x hRw hJ (by omega) (by omega) (by omega) hx hy (Or.inr ⟨by omega, e_at53⟩) | omega) (by first | omega | (simp [up, setR] <;> omega))
                · exact absurd hb66_286 (by decide)
              · refine TT_iconst hK dX12_jump_59 ?_
                refine TT_goto hK (tgt := 64) dX12_jump_60 (by decide) ?_
                refine TT_istore_n hK rfl (lv' := [(3, vI 1), (0, vR 73), (1, vI x), (2, vI y), (4, vI f), (5, vI r)]) (by decide) rfl dX12_jump_64 ?_
                refine TT_iload_n hK rfl 0 rfl dX12_jump_65 ?_
                refine TT_if_eq hK (tgt := 87) (by decide) dX12_jump_66 (by decide) (fun hb66_291 => ?_) (fun hb66_291 => ?_)
                · exact absurd hb66_291 (by decide)
                · refine TT_aload_n hK rfl 1 rfl dX12_jump_69 ?_
                  refine TT_iload_n hK rfl 2 rfl dX12_jump_70 ?_
                  refine TT_iload hK 5 rfl dX12_jump_71 ?_
                  have e292_73_27 : w29_155 73 27 = (h 73) 27 := (hF29_155.2 27 (by decide))
                  refine iv_X12_264 hK (s_bitAt_e x r w29_155 hT29_155 (by first | omega | (simp [up, setR] <;> omega)) (by first | omega | (simp [up, setR] <;> omega)) (by rewrite [e292_73_27]; first | assumption | exact hpl | omega)) (by decide) rfl ⟨by decide, by decide⟩ (by decide) rfl rfl (Nat.le_of_ble_eq_true rfl) ⟨by decide, by decide⟩ dX12_jump_73 ?_
                  intro r9 g73_293 hp9
                  obtain ⟨⟨hT_293, hG_293⟩, z73_293, hr9, hz_293, e_293⟩ := hp9
                  rw [hr9]
                  have hE_293 : w29_155 = g73_293 := (funext (fun o9 => hG_293.1 o9 (List.not_mem_nil))).symm
                  subst hE_293
                  rw [show w29_155 73 26 = (h 73) 26 from (hF29_155.2 26 (by decide))] at e_293
                  rw [show w29_155 73 27 = (h 73) 27 from (hF29_155.2 27 (by decide))] at e_293
                  rw [show w29_155 84 = h 84 from (hF29_155.1 84 (by decide))] at e_293
                  have e_at73 := e_293
                  show TT K ly 0 0 76 [(3, vI 1), (0, vR 73), (1, vI x), (2, vI y), (4, vI f), (5, vI r)] [vI z73_293] w29_155
                  refine TT_iconst hK dX12_jump_76 ?_
                  refine TT_icmp_ne hK (tgt := 87) (irm (by omega) (by omega)) (by decide) dX12_jump_77 (by decide) (fun hb77_294 => ?_) (fun hb77_294 => ?_)
                  · refine TT_iload hK 4 rfl dX12_jump_87 ?_
                    refine TT_istore hK (lv' := [(4, vI f), (3, vI 1), (0, vR 73), (1, vI x), (2, vI y), (5, vI r)]) (by decide) rfl dX12_jump_89 ?_
                    refine TT_iinc hK (v := r - 1) (lv' := [(5, vI (r - 1)), (4, vI f), (3, vI 1), (0, vR 73), (1, vI x), (2, vI y)]) 5 rfl (by omega) (by decide) rfl dX12_jump_91 ?_
                    refine TT_goto hK (tgt := 29) dX12_jump_94 (by decide) ?_
                    refine TT_sub [3, 4, 5, 2, 1, 0] rfl ?_
                    have e295_73_34 : w29_155 73 34 = (w29_155 73) 34 := rfl
                    have e296_73_36 : w29_155 73 36 = (w29_155 73) 36 := rfl
                    have e297_73_32 : w29_155 73 32 = (w29_155 73) 32 := rfl
                    have e298_84 : w29_155 84 = h 84 := (hF29_155.1 84 (by decide))
                    exact ih155 1 f (r - 1) w29_155 hT29_155 hF29_155 (by first | omega | (simp [up, setR] <;> omega)) (by first | omega | (simp [up, setR] <;> omega)) (by first | omega | (simp [up, setR] <;> omega)) (by first | omega | (simp [up, setR] <;> omega)) (by intro h0 j h1 h2; first | omega | (by_cases e : j = r; (subst e; omega); exact hz9 (by omega) j (by omega) h2)) (by first | assumption | rfl) (by first | omega | (simp [up, setR] <;> omega)) (by rewrite [e295_73_34]; first | omega | (simp [up, setR] <;> omega)) (by rewrite [e296_73_36]; first | omega | (simp [up, setR] <;> omega)) (by rewrite [e297_73_32]; first | omega | (simp [up, setR] <;> omega)) (by rewrite [e298_84]; first | (first | exact pki) | (intro j hj; exact ⟨rfl, (pki j hj).2⟩) | (intro j hj; exact ⟨rfl, rfl⟩)) (by exact hRw) (by first | exact JL_k hJ (by omega) (by omega) | exact JL_x (c := 0) hRw hJ (by omega) (by omega) (by omega) hx hy (Or.inl (by rw [show w29_155 94 = h 94 from (hF29_155.1 94 (by decide))]; exact e_at43.2 (by omega))) | exact JL_x hRw hJ (by omega) (by omega) (by omega) hx hy (Or.inr ⟨by omega, e_at53⟩) | exact JL_s hRw hJ (by omega) (by omega) (by omega) (by omega) hx hy (by rw [show w29_155 94 = h 94 from (hF29_155.1 94 (by decide))]; exact e_at43.1 (by omega)) (by omega) e_at53 (e_at73.trans (bS_q hR (x := x) (y := r) ⟨hx.1, hxw⟩ ⟨by omega, by omega⟩)) (by omega) hf | omega) (by first | omega | (simp [up, setR] <;> omega))
                  · refine TT_iload hK 5 rfl dX12_jump_80 ?_
                    refine TT_iload_n hK rfl 3 rfl dX12_jump_82 ?_
                    refine TT_isub hK dX12_jump_83 ?_
                    refine TT_goto hK (tgt := 89) dX12_jump_84 (by decide) ?_
                    refine TT_istore hK (lv' := [(4, vI (r - y)), (3, vI 1), (0, vR 73), (1, vI x), (2, vI y), (5, vI r)]) (by decide) rfl dX12_jump_89 ?_
                    refine TT_iinc hK (v := r - 1) (lv' := [(5, vI (r - 1)), (4, vI (r - y)), (3, vI 1), (0, vR 73), (1, vI x), (2, vI y)]) 5 rfl (by omega) (by decide) rfl dX12_jump_91 ?_
                    refine TT_goto hK (tgt := 29) dX12_jump_94 (by decide) ?_
                    refine TT_sub [3, 4, 5, 2, 1, 0] rfl ?_
                    have e299_73_34 : w29_155 73 34 = (w29_155 73) 34 := rfl
                    have e300_73_36 : w29_155 73 36 = (w29_155 73) 36 := rfl
                    have e301_73_32 : w29_155 73 32 = (w29_155 73) 32 := rfl
                    have e302_84 : w29_155 84 = h 84 := (hF29_155.1 84 (by decide))
                    exact ih155 1 (r - y) (r - 1) w29_155 hT29_155 hF29_155 (by first | omega | (simp [up, setR] <;> omega)) (by first | omega | (simp [up, setR] <;> omega)) (by first | omega | (simp [up, setR] <;> omega)) (by first | omega | (simp [up, setR] <;> omega)) (by intro h0 j h1 h2; first | omega | (by_cases e : j = r; (subst e; omega); exact hz9 (by omega) j (by omega) h2)) (by first | assumption | rfl) (by first | omega | (simp [up, setR] <;> omega)) (by rewrite [e299_73_34]; first | omega | (simp [up, setR] <;> omega)) (by rewrite [e300_73_36]; first | omega | (simp [up, setR] <;> omega)) (by rewrite [e301_73_32]; first | omega | (simp [up, setR] <;> omega)) (by rewrite [e302_84]; first | (first | exact pki) | (intro j hj; exact ⟨rfl, (pki j hj).2⟩) | (intro j hj; exact ⟨rfl, rfl⟩)) (by exact hRw) (by first | exact JL_k hJ (by omega) (by omega) | exact JL_x (c := 0) hRw hJ (by omega) (by omega) (by omega) hx hy (Or.inl (by rw [show w29_155 94 = h 94 from (hF29_155.1 94 (by decide))]; exact e_at43.2 (by omega))) | exact JL_x hRw hJ (by omega) (by omega) (by omega) hx hy (Or.inr ⟨by omega, e_at53⟩) | exact JL_s hRw hJ (by omega) (by omega) (by omega) (by omega) hx hy (by rw [show w29_155 94 = h 94 from (hF29_155.1 94 (by decide))]; exact e_at43.1 (by omega)) (by omega) e_at53 (e_at73.trans (bS_q hR (x := x) (y := r) ⟨hx.1, hxw⟩ ⟨by omega, by omega⟩)) (by omega) hf | omega) (by first | omega | (simp [up, setR] <;> omega))
    refine TT_sub [3, 4, 5, 2, 1, 0] rfl ?_
    have e303_73_34 : h 73 34 = (h 73) 34 := rfl
    have e304_73_36 : h 73 36 = (h 73) 36 := rfl
    have e305_73_32 : h 73 32 = (h 73) 32 := rfl
    exact L29_155 ((((y + 3) - y + 1).toNat) + 1) 1 4 (y + 3) h hT hF (by first | omega | (simp [up, setR] <;> omega)) (by first | omega | (simp [up, setR] <;> omega)) (by first | omega | (simp [up, setR] <;> omega)) (by first | omega | (simp [up, setR] <;> omega)) (by intro _ j h1 h2; omega) (by rfl) (by first | omega | (simp [up, setR] <;> omega)) (by rewrite [e303_73_34]; first | omega | (simp [up, setR] <;> omega)) (by rewrite [e304_73_36]; first | omega | (simp [up, setR] <;> omega)) (by rewrite [e305_73_32]; first | omega | (simp [up, setR] <;> omega)) (by first | ((intro j hj; exact ⟨rfl, rfl⟩)) | (intro j hj; exact ⟨rfl, rfl⟩)) (by exact hR) (by exact JL_0 (by omega) (by omega)) (Nat.lt_succ_self _)

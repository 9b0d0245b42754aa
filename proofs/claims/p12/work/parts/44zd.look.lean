theorem hS_01 (w : Int → Int) (p : Int) : (w p = 0 ∧ hS w p = 0) ∨ (w p ≠ 0 ∧ hS w p = 1) := by
  unfold hS
  by_cases q : w p = 0
  · rw [if_pos q]; exact Or.inl ⟨q, rfl⟩
  · rw [if_neg q]; exact Or.inr ⟨q, rfl⟩
set_option maxRecDepth 20000 in
theorem s_here_e (p : Int) (h : Hp_) (hT : TY h) (hp : 0 ≤ p ∧ p ≤ 99) : Ctr yX12_here cX12_here 2 (some .int) (rmd 0) ly ly 0 0 [vR 73, vI p] h (fun r h' => (TY h' ∧ FRM [] [] h h') ∧ ∃ z : Int, r = some (vI z) ∧ (0 ≤ z ∧ z ≤ 1) ∧ (z = 0 → (h 93) p = 0) ∧ (z = hS (h 93) p)) := by
  refine Ctr_of (by decide) (Nat.le_of_ble_eq_true rfl) ⟨Nat.le_refl _, Nat.le_refl _⟩ (fun K hK hQ _ => ?_)
  show TT K ly 0 0 0 [(0, vR 73), (1, vI p)] [] h
  have hF : FRM [] [] h h := FRM_rf _ _ _
  refine TT_aload_n hK rfl 0 rfl dX12_here_0 ?_
  refine gf_X12_75 hK (by decide) rfl (q := 93) rfl rfl dX12_here_1 ?_
  refine TT_iload_n hK rfl 1 rfl dX12_here_4 ?_
  refine TT_iald hK (o := 93) (n := 100) (by decide) rfl (by first | omega | (simp [up, setR] <;> omega)) (by first | omega | (simp [up, setR] <;> omega)) (v := (h 93) p) rfl dX12_here_5 ?_
  have r1 := ty_93 (i := p) (v := (h 93) p) hT rfl (by omega) (by omega)
  refine TT_if_ne hK (tgt := 13) (irm (by omega) (by omega)) dX12_here_6 (by decide) (fun hb6_2 => ?_) (fun hb6_2 => ?_)
  · refine TT_iconst hK dX12_here_13 ?_
    refine TT_iret hK hQ ?_ dX12_here_14
    exact ⟨⟨hT, hF⟩, 1, rfl, (by omega), (by omega), (by unfold hS; first | rw [if_pos (by omega)] | rw [if_neg (by omega)])⟩
  · refine TT_iconst hK dX12_here_9 ?_
    refine TT_goto hK (tgt := 14) dX12_here_10 (by decide) ?_
    refine TT_iret hK hQ ?_ dX12_here_14
    exact ⟨⟨hT, hF⟩, 0, rfl, (by omega), (by omega), (by unfold hS; first | rw [if_pos (by omega)] | rw [if_neg (by omega)])⟩
set_option maxRecDepth 20000 in
theorem s_mrow_e (p : Int) (h : Hp_) (hT : TY h) (hp : 11 ≤ p ∧ p ≤ 88) : Ctr yX12_inRow cX12_inRow 2 (some .int) (rmd 1) ly ly 0 0 [vR 73, vI p] h (fun r h' => (TY h' ∧ FRM [] [] h h') ∧ ∃ z : Int, r = some (vI z) ∧ (0 ≤ z ∧ z ≤ 2) ∧ (z = rowS (h 93) p)) := by
  refine Ctr_of (by decide) (Nat.le_of_ble_eq_true rfl) ⟨Nat.le_refl _, Nat.le_refl _⟩ (fun K hK hQ _ => ?_)
  show TT K ly 0 0 0 [(0, vR 73), (1, vI p)] [] h
  have hF : FRM [] [] h h := FRM_rf _ _ _
  refine TT_aload_n hK rfl 0 rfl dX12_inRow_0 ?_
  refine TT_iload_n hK rfl 1 rfl dX12_inRow_1 ?_
  refine TT_iconst hK dX12_inRow_2 ?_
  refine TT_isub hK dX12_inRow_3 ?_
  refine iv_X12_231 hK (s_here_e (p - 1) h hT (by first | omega | (simp [up, setR] <;> omega))) (by decide) rfl ⟨by decide, by decide⟩ (by decide) rfl rfl (Nat.le_of_ble_eq_true rfl) ⟨by decide, by decide⟩ dX12_inRow_4 ?_
  intro r9 g4_1 hp9
  obtain ⟨⟨hT_1, hG_1⟩, z4_1, hr9, hz_1, p1_1, e_1⟩ := hp9
  rw [hr9]
  have hF_1 : FRM [] [] h g4_1 := FRM_tr hF hG_1 (by decide) (by decide)
  have e_at4 := e_1
  show TT K ly 0 0 7 [(0, vR 73), (1, vI p)] [vI z4_1] g4_1
  refine TT_aload_n hK rfl 0 rfl dX12_inRow_7 ?_
  refine TT_iload_n hK rfl 1 rfl dX12_inRow_8 ?_
  refine TT_iconst hK dX12_inRow_9 ?_
  refine TT_iadd hK dX12_inRow_10 ?_
  refine iv_X12_231 hK (s_here_e (p + 1) g4_1 hT_1 (by first | omega | (simp [up, setR] <;> omega))) (by decide) rfl ⟨by decide, by decide⟩ (by decide) rfl rfl (Nat.le_of_ble_eq_true rfl) ⟨by decide, by decide⟩ dX12_inRow_11 ?_
  intro r9 g11_2 hp9
  obtain ⟨⟨hT_2, hG_2⟩, z11_2, hr9, hz_2, p1_2, e_2⟩ := hp9
  rw [hr9]
  have hF_2 : FRM [] [] h g11_2 := FRM_tr hF_1 hG_2 (by decide) (by decide)
  rw [show g4_1 93 = h 93 from (hG_1.1 93 (by decide))] at p1_2
  rw [show g4_1 93 = h 93 from (hG_1.1 93 (by decide))] at e_2
  have e_at11 := e_2
  show TT K ly 0 0 14 [(0, vR 73), (1, vI p)] [vI z11_2, vI z4_1] g11_2
  refine TT_iadd hK dX12_inRow_14 ?_
  refine TT_iret hK hQ ?_ dX12_inRow_15
  exact ⟨⟨hT_2, hF_2⟩, (z4_1 + z11_2), rfl, (by omega), (by unfold rowS; omega)⟩
set_option maxRecDepth 20000 in
theorem s_mcol_e (p : Int) (h : Hp_) (hT : TY h) (hp : 11 ≤ p ∧ p ≤ 88) : Ctr yX12_inColumn cX12_inColumn 2 (some .int) (rmd 1) ly ly 0 0 [vR 73, vI p] h (fun r h' => (TY h' ∧ FRM [] [] h h') ∧ ∃ z : Int, r = some (vI z) ∧ (0 ≤ z ∧ z ≤ 2) ∧ (z = colS (h 93) p)) := by
  refine Ctr_of (by decide) (Nat.le_of_ble_eq_true rfl) ⟨Nat.le_refl _, Nat.le_refl _⟩ (fun K hK hQ _ => ?_)
  show TT K ly 0 0 0 [(0, vR 73), (1, vI p)] [] h
  have hF : FRM [] [] h h := FRM_rf _ _ _
  refine TT_aload_n hK rfl 0 rfl dX12_inColumn_0 ?_
  refine TT_iload_n hK rfl 1 rfl dX12_inColumn_1 ?_
  refine TT_bipush hK (by decide) dX12_inColumn_2 ?_
  refine TT_isub hK dX12_inColumn_4 ?_
  refine iv_X12_231 hK (s_here_e (p - 10) h hT (by first | omega | (simp [up, setR] <;> omega))) (by decide) rfl ⟨by decide, by decide⟩ (by decide) rfl rfl (Nat.le_of_ble_eq_true rfl) ⟨by decide, by decide⟩ dX12_inColumn_5 ?_
  intro r9 g5_1 hp9
  obtain ⟨⟨hT_1, hG_1⟩, z5_1, hr9, hz_1, p1_1, e_1⟩ := hp9
  rw [hr9]
  have hF_1 : FRM [] [] h g5_1 := FRM_tr hF hG_1 (by decide) (by decide)
  have e_at5 := e_1
  show TT K ly 0 0 8 [(0, vR 73), (1, vI p)] [vI z5_1] g5_1
  refine TT_aload_n hK rfl 0 rfl dX12_inColumn_8 ?_
  refine TT_iload_n hK rfl 1 rfl dX12_inColumn_9 ?_
  refine TT_bipush hK (by decide) dX12_inColumn_10 ?_
  refine TT_iadd hK dX12_inColumn_12 ?_
  refine iv_X12_231 hK (s_here_e (p + 10) g5_1 hT_1 (by first | omega | (simp [up, setR] <;> omega))) (by decide) rfl ⟨by decide, by decide⟩ (by decide) rfl rfl (Nat.le_of_ble_eq_true rfl) ⟨by decide, by decide⟩ dX12_inColumn_13 ?_
  intro r9 g13_2 hp9
  obtain ⟨⟨hT_2, hG_2⟩, z13_2, hr9, hz_2, p1_2, e_2⟩ := hp9
  rw [hr9]
  have hF_2 : FRM [] [] h g13_2 := FRM_tr hF_1 hG_2 (by decide) (by decide)
  rw [show g5_1 93 = h 93 from (hG_1.1 93 (by decide))] at p1_2
  rw [show g5_1 93 = h 93 from (hG_1.1 93 (by decide))] at e_2
  have e_at13 := e_2
  show TT K ly 0 0 16 [(0, vR 73), (1, vI p)] [vI z13_2, vI z5_1] g13_2
  refine TT_iadd hK dX12_inColumn_16 ?_
  refine TT_iret hK hQ ?_ dX12_inColumn_17
  exact ⟨⟨hT_2, hF_2⟩, (z5_1 + z13_2), rfl, (by omega), (by unfold colS; omega)⟩
set_option maxRecDepth 20000 in
theorem s_macr_e (p : Int) (h : Hp_) (hT : TY h) (hp : 11 ≤ p ∧ p ≤ 88) : Ctr yX12_acrossOf cX12_acrossOf 2 (some .int) (rmd 1) ly ly 0 0 [vR 73, vI p] h (fun r h' => (TY h' ∧ FRM [] [] h h') ∧ ∃ z : Int, r = some (vI z) ∧ (0 ≤ z ∧ z ≤ 4) ∧ (z = acrS (h 93) p)) := by
  refine Ctr_of (by decide) (Nat.le_of_ble_eq_true rfl) ⟨Nat.le_refl _, Nat.le_refl _⟩ (fun K hK hQ _ => ?_)
  show TT K ly 0 0 0 [(0, vR 73), (1, vI p)] [] h
  have hF : FRM [] [] h h := FRM_rf _ _ _
  refine TT_aload_n hK rfl 0 rfl dX12_acrossOf_0 ?_
  refine TT_iload_n hK rfl 1 rfl dX12_acrossOf_1 ?_
  refine TT_bipush hK (by decide) dX12_acrossOf_2 ?_
  refine TT_isub hK dX12_acrossOf_4 ?_
  refine iv_X12_231 hK (s_here_e (p - 11) h hT (by first | omega | (simp [up, setR] <;> omega))) (by decide) rfl ⟨by decide, by decide⟩ (by decide) rfl rfl (Nat.le_of_ble_eq_true rfl) ⟨by decide, by decide⟩ dX12_acrossOf_5 ?_
  intro r9 g5_1 hp9
  obtain ⟨⟨hT_1, hG_1⟩, z5_1, hr9, hz_1, p1_1, e_1⟩ := hp9
  rw [hr9]
  have hF_1 : FRM [] [] h g5_1 := FRM_tr hF hG_1 (by decide) (by decide)
  have e_at5 := e_1
  show TT K ly 0 0 8 [(0, vR 73), (1, vI p)] [vI z5_1] g5_1
  refine TT_aload_n hK rfl 0 rfl dX12_acrossOf_8 ?_
  refine TT_iload_n hK rfl 1 rfl dX12_acrossOf_9 ?_
  refine TT_bipush hK (by decide) dX12_acrossOf_10 ?_
  refine TT_isub hK dX12_acrossOf_12 ?_
  refine iv_X12_231 hK (s_here_e (p - 9) g5_1 hT_1 (by first | omega | (simp [up, setR] <;> omega))) (by decide) rfl ⟨by decide, by decide⟩ (by decide) rfl rfl (Nat.le_of_ble_eq_true rfl) ⟨by decide, by decide⟩ dX12_acrossOf_13 ?_
  intro r9 g13_2 hp9
  obtain ⟨⟨hT_2, hG_2⟩, z13_2, hr9, hz_2, p1_2, e_2⟩ := hp9
  rw [hr9]
  have hF_2 : FRM [] [] h g13_2 := FRM_tr hF_1 hG_2 (by decide) (by decide)
  rw [show g5_1 93 = h 93 from (hG_1.1 93 (by decide))] at p1_2
  rw [show g5_1 93 = h 93 from (hG_1.1 93 (by decide))] at e_2
  have e_at13 := e_2
  show TT K ly 0 0 16 [(0, vR 73), (1, vI p)] [vI z13_2, vI z5_1] g13_2
  refine TT_iadd hK dX12_acrossOf_16 ?_
  refine TT_aload_n hK rfl 0 rfl dX12_acrossOf_17 ?_
  refine TT_iload_n hK rfl 1 rfl dX12_acrossOf_18 ?_
  refine TT_bipush hK (by decide) dX12_acrossOf_19 ?_
  refine TT_iadd hK dX12_acrossOf_21 ?_
  refine iv_X12_231 hK (s_here_e (p + 9) g13_2 hT_2 (by first | omega | (simp [up, setR] <;> omega))) (by decide) rfl ⟨by decide, by decide⟩ (by decide) rfl rfl (Nat.le_of_ble_eq_true rfl) ⟨by decide, by decide⟩ dX12_acrossOf_22 ?_
  intro r9 g22_3 hp9
  obtain ⟨⟨hT_3, hG_3⟩, z22_3, hr9, hz_3, p1_3, e_3⟩ := hp9
  rw [hr9]
  have hF_3 : FRM [] [] h g22_3 := FRM_tr hF_2 hG_3 (by decide) (by decide)
  rw [show g13_2 93 = h 93 from ((hG_2.1 93 (by decide))).trans (hG_1.1 93 (by decide))] at p1_3
  rw [show g13_2 93 = h 93 from ((hG_2.1 93 (by decide))).trans (hG_1.1 93 (by decide))] at e_3
  have e_at22 := e_3
  show TT K ly 0 0 25 [(0, vR 73), (1, vI p)] [vI z22_3, vI (z5_1 + z13_2)] g22_3
  refine TT_iadd hK dX12_acrossOf_25 ?_
  refine TT_aload_n hK rfl 0 rfl dX12_acrossOf_26 ?_
  refine TT_iload_n hK rfl 1 rfl dX12_acrossOf_27 ?_
  refine TT_bipush hK (by decide) dX12_acrossOf_28 ?_
  refine TT_iadd hK dX12_acrossOf_30 ?_
  refine iv_X12_231 hK (s_here_e (p + 11) g22_3 hT_3 (by first | omega | (simp [up, setR] <;> omega))) (by decide) rfl ⟨by decide, by decide⟩ (by decide) rfl rfl (Nat.le_of_ble_eq_true rfl) ⟨by decide, by decide⟩ dX12_acrossOf_31 ?_
  intro r9 g31_4 hp9
  obtain ⟨⟨hT_4, hG_4⟩, z31_4, hr9, hz_4, p1_4, e_4⟩ := hp9
  rw [hr9]
  have hF_4 : FRM [] [] h g31_4 := FRM_tr hF_3 hG_4 (by decide) (by decide)
  rw [show g22_3 93 = h 93 from ((hG_3.1 93 (by decide))).trans (((hG_2.1 93 (by decide))).trans (hG_1.1 93 (by decide)))] at p1_4
  rw [show g22_3 93 = h 93 from ((hG_3.1 93 (by decide))).trans (((hG_2.1 93 (by decide))).trans (hG_1.1 93 (by decide)))] at e_4
  have e_at31 := e_4
  show TT K ly 0 0 34 [(0, vR 73), (1, vI p)] [vI z31_4, vI ((z5_1 + z13_2) + z22_3)] g31_4
  refine TT_iadd hK dX12_acrossOf_34 ?_
  refine TT_iret hK hQ ?_ dX12_acrossOf_35
  exact ⟨⟨hT_4, hF_4⟩, (((z5_1 + z13_2) + z22_3) + z31_4), rfl, (by omega), (by unfold acrS; omega)⟩
set_option maxRecDepth 20000 in
theorem s_mctx_e (x y : Int) (h : Hp_) (hT : TY h) (hx : 0 ≤ x ∧ x ≤ 7) (hy : 0 ≤ y ∧ y ≤ 7) : Ctr yX12_context cX12_context 8 (some .int) (rmd 2) ly ly 0 0 [vR 73, vI x, vI y] h (fun r h' => (TY h' ∧ FRM [] [] h h') ∧ ∃ z : Int, r = some (vI z) ∧ (0 ≤ z ∧ z ≤ 8) ∧ (z = ctxS (h 93) ((h 82) (h 73 26)) (10 * y + x + 11))) := by
  refine Ctr_of (by decide) (Nat.le_of_ble_eq_true rfl) ⟨Nat.le_refl _, Nat.le_refl _⟩ (fun K hK hQ _ => ?_)
  show TT K ly 0 0 0 [(0, vR 73), (1, vI x), (2, vI y)] [] h
  have hF : FRM [] [] h h := FRM_rf _ _ _
  refine TT_iload_n hK rfl 1 rfl dX12_context_0 ?_
  refine TT_iload_n hK rfl 2 rfl dX12_context_1 ?_
  refine iv_X12_234 hK (s_X12_spot x y h hT (by first | omega | (simp [up, setR] <;> omega)) (by first | omega | (simp [up, setR] <;> omega))) ⟨by decide, by decide⟩ (by decide) rfl rfl (Nat.le_of_ble_eq_true rfl) ⟨by decide, by decide⟩ dX12_context_2 ?_
  intro r9 g2_1 hp9
  obtain ⟨⟨hT_1, hG_1⟩, z2_1, hr9, hz_1, p1_1⟩ := hp9
  rw [hr9]
  have hF_1 : FRM [] [] h g2_1 := FRM_tr hF hG_1 (by decide) (by decide)
  show TT K ly 0 0 5 [(0, vR 73), (1, vI x), (2, vI y)] [vI z2_1] g2_1
  refine TT_cgI (b := 10 * y + x + 11) (by omega) ?_
  refine TT_istore_n hK rfl (lv' := [(3, vI (10 * y + x + 11)), (0, vR 73), (1, vI x), (2, vI y)]) (by decide) rfl dX12_context_5 ?_
  refine TT_aload_n hK rfl 1 rfl dX12_context_6 ?_
  refine TT_iload_n hK rfl 0 rfl dX12_context_7 ?_
  refine iv_X12_237 hK (s_mrow_e (10 * y + x + 11) g2_1 hT_1 (by first | omega | (simp [up, setR] <;> omega))) (by decide) rfl ⟨by decide, by decide⟩ (by decide) rfl rfl (Nat.le_of_ble_eq_true rfl) ⟨by decide, by decide⟩ dX12_context_8 ?_
  intro r9 g8_2 hp9
  obtain ⟨⟨hT_2, hG_2⟩, z8_2, hr9, hz_2, e_2⟩ := hp9
  rw [hr9]
  have hF_2 : FRM [] [] h g8_2 := FRM_tr hF_1 hG_2 (by decide) (by decide)
  rw [show g2_1 93 = h 93 from (hG_1.1 93 (by decide))] at e_2
  have e_at8 := e_2
  show TT K ly 0 0 11 [(3, vI (10 * y + x + 11)), (0, vR 73), (1, vI x), (2, vI y)] [vI z8_2] g8_2
  refine TT_istore hK (lv' := [(4, vI z8_2), (3, vI (10 * y + x + 11)), (0, vR 73), (1, vI x), (2, vI y)]) (by decide) rfl dX12_context_11 ?_
  refine TT_aload_n hK rfl 2 rfl dX12_context_13 ?_
  refine TT_iload_n hK rfl 1 rfl dX12_context_14 ?_
  refine iv_X12_240 hK (s_mcol_e (10 * y + x + 11) g8_2 hT_2 (by first | omega | (simp [up, setR] <;> omega))) (by decide) rfl ⟨by decide, by decide⟩ (by decide) rfl rfl (Nat.le_of_ble_eq_true rfl) ⟨by decide, by decide⟩ dX12_context_15 ?_
  intro r9 g15_3 hp9
  obtain ⟨⟨hT_3, hG_3⟩, z15_3, hr9, hz_3, e_3⟩ := hp9
  rw [hr9]
  have hF_3 : FRM [] [] h g15_3 := FRM_tr hF_2 hG_3 (by decide) (by decide)
  rw [show g8_2 93 = h 93 from ((hG_2.1 93 (by decide))).trans (hG_1.1 93 (by decide))] at e_3
  have e_at15 := e_3
  show TT K ly 0 0 18 [(4, vI z8_2), (3, vI (10 * y + x + 11)), (0, vR 73), (1, vI x), (2, vI y)] [vI z15_3] g15_3
  refine TT_istore hK (lv' := [(5, vI z15_3), (4, vI z8_2), (3, vI (10 * y + x + 11)), (0, vR 73), (1, vI x), (2, vI y)]) (by decide) rfl dX12_context_18 ?_
  refine TT_aload_n hK rfl 3 rfl dX12_context_20 ?_
  refine TT_iload_n hK rfl 2 rfl dX12_context_21 ?_
  refine iv_X12_243 hK (s_macr_e (10 * y + x + 11) g15_3 hT_3 (by first | omega | (simp [up, setR] <;> omega))) (by decide) rfl ⟨by decide, by decide⟩ (by decide) rfl rfl (Nat.le_of_ble_eq_true rfl) ⟨by decide, by decide⟩ dX12_context_22 ?_
  intro r9 g22_4 hp9
  obtain ⟨⟨hT_4, hG_4⟩, z22_4, hr9, hz_4, e_4⟩ := hp9
  rw [hr9]
  have hF_4 : FRM [] [] h g22_4 := FRM_tr hF_3 hG_4 (by decide) (by decide)
  rw [show g15_3 93 = h 93 from ((hG_3.1 93 (by decide))).trans (((hG_2.1 93 (by decide))).trans (hG_1.1 93 (by decide)))] at e_4
  have e_at22 := e_4
  show TT K ly 0 0 25 [(5, vI z15_3), (4, vI z8_2), (3, vI (10 * y + x + 11)), (0, vR 73), (1, vI x), (2, vI y)] [vI z22_4] g22_4
  refine TT_istore hK (lv' := [(6, vI z22_4), (5, vI z15_3), (4, vI z8_2), (3, vI (10 * y + x + 11)), (0, vR 73), (1, vI x), (2, vI y)]) (by decide) rfl dX12_context_25 ?_
  refine TT_aload_n hK rfl 4 rfl dX12_context_27 ?_
  refine gf_X12_41 hK (by decide) rfl (q := 82) rfl rfl dX12_context_28 ?_
  refine TT_aload_n hK rfl 4 rfl dX12_context_31 ?_
  refine gf_X12_246 hK (by decide) rfl (v := (h 73) 26) ((congrFun (hG_4.1 73 (by decide)) 26).trans ((congrFun (hG_3.1 73 (by decide)) 26).trans ((congrFun (hG_2.1 73 (by decide)) 26).trans (congrFun (hG_1.1 73 (by decide)) 26)))) dX12_context_32 ?_
  have r5 := ty_73_26 (v := (h 73) 26) hT_4 ((congrFun (hG_4.1 73 (by decide)) 26).trans ((congrFun (hG_3.1 73 (by decide)) 26).trans ((congrFun (hG_2.1 73 (by decide)) 26).trans (congrFun (hG_1.1 73 (by decide)) 26))))
  refine TT_iald hK (o := 82) (n := 20) (by decide) rfl (by first | omega | (simp [up, setR] <;> omega)) (by first | omega | (simp [up, setR] <;> omega)) (v := (h 82) ((h 73) 26)) (rd_ (((hG_4.1 82 (by decide))).trans (((hG_3.1 82 (by decide))).trans (((hG_2.1 82 (by decide))).trans (hG_1.1 82 (by decide))))) rfl) dX12_context_35 ?_
  have r6 := ty_82 (i := (h 73) 26) (v := (h 82) ((h 73) 26)) hT_4 (rd_ (((hG_4.1 82 (by decide))).trans (((hG_3.1 82 (by decide))).trans (((hG_2.1 82 (by decide))).trans (hG_1.1 82 (by decide))))) rfl) (by omega) (by omega)
  refine TT_iconst hK dX12_context_36 ?_
  refine TT_icmp_ne hK (tgt := 100) (irm (by omega) (by omega)) (by decide) dX12_context_37 (by decide) (fun hb37_7 => ?_) (fun hb37_7 => ?_)
  · refine TT_aload_n hK rfl 4 rfl dX12_context_100 ?_
    refine gf_X12_41 hK (by decide) rfl (q := 82) rfl rfl dX12_context_101 ?_
    refine TT_aload_n hK rfl 4 rfl dX12_context_104 ?_
    refine gf_X12_246 hK (by decide) rfl (v := (h 73) 26) ((congrFun (hG_4.1 73 (by decide)) 26).trans ((congrFun (hG_3.1 73 (by decide)) 26).trans ((congrFun (hG_2.1 73 (by decide)) 26).trans (congrFun (hG_1.1 73 (by decide)) 26)))) dX12_context_105 ?_
    refine TT_iald hK (o := 82) (n := 20) (by decide) rfl (by first | omega | (simp [up, setR] <;> omega)) (by first | omega | (simp [up, setR] <;> omega)) (v := (h 82) ((h 73) 26)) (rd_ (((hG_4.1 82 (by decide))).trans (((hG_3.1 82 (by decide))).trans (((hG_2.1 82 (by decide))).trans (hG_1.1 82 (by decide))))) rfl) dX12_context_108 ?_
    refine TT_iconst hK dX12_context_109 ?_
    refine TT_icmp_ne hK (tgt := 125) (irm (by omega) (by omega)) (by decide) dX12_context_110 (by decide) (fun hb110_8 => ?_) (fun hb110_8 => ?_)
    · refine TT_iload hK 2 rfl dX12_context_125 ?_
      refine TT_iconst hK dX12_context_127 ?_
      refine TT_icmp_ne hK (tgt := 136) (irm (by omega) (by omega)) (by decide) dX12_context_128 (by decide) (fun hb128_9 => ?_) (fun hb128_9 => ?_)
      · refine TT_iload hK 2 rfl dX12_context_136 ?_
        refine TT_iconst hK dX12_context_138 ?_
        refine TT_icmp_ne hK (tgt := 166) (irm (by omega) (by omega)) (by decide) dX12_context_139 (by decide) (fun hb139_10 => ?_) (fun hb139_10 => ?_)
        · refine TT_iload hK 1 rfl dX12_context_166 ?_
          refine TT_iconst hK dX12_context_168 ?_
          refine TT_icmp_ne hK (tgt := 176) (irm (by omega) (by omega)) (by decide) dX12_context_169 (by decide) (fun hb169_11 => ?_) (fun hb169_11 => ?_)
          · refine TT_iload hK 1 rfl dX12_context_176 ?_
            refine TT_iconst hK dX12_context_178 ?_
            refine TT_icmp_ne hK (tgt := 186) (irm (by omega) (by omega)) (by decide) dX12_context_179 (by decide) (fun hb179_12 => ?_) (fun hb179_12 => ?_)
            · refine TT_iload hK 0 rfl dX12_context_186 ?_
              refine TT_iconst hK dX12_context_188 ?_
              refine TT_icmp_le hK (tgt := 196) (irm (by omega) (by omega)) (by decide) dX12_context_189 (by decide) (fun hb189_13 => ?_) (fun hb189_13 => ?_)
              · refine TT_iload hK 0 rfl dX12_context_196 ?_
                refine TT_iret hK hQ ?_ dX12_context_198
                exact ⟨⟨hT_4, hF_4⟩, z22_4, rfl, (by omega), (by unfold ctxS cxS; rw [← e_at8, ← e_at15, ← e_at22]; unfold cfS rfS; (repeat' split) <;> omega)⟩
              · refine TT_iconst hK dX12_context_192 ?_
                refine TT_goto hK (tgt := 198) dX12_context_193 (by decide) ?_
                refine TT_iret hK hQ ?_ dX12_context_198
                exact ⟨⟨hT_4, hF_4⟩, 2, rfl, (by omega), (by unfold ctxS cxS; rw [← e_at8, ← e_at15, ← e_at22]; unfold cfS rfS; (repeat' split) <;> omega)⟩
            · refine TT_iconst hK dX12_context_182 ?_
              refine TT_goto hK (tgt := 198) dX12_context_183 (by decide) ?_
              refine TT_iret hK hQ ?_ dX12_context_198
              exact ⟨⟨hT_4, hF_4⟩, 3, rfl, (by omega), (by unfold ctxS cxS; rw [← e_at8, ← e_at15, ← e_at22]; unfold cfS rfS; (repeat' split) <;> omega)⟩
          · refine TT_iconst hK dX12_context_172 ?_
            refine TT_goto hK (tgt := 198) dX12_context_173 (by decide) ?_
            refine TT_iret hK hQ ?_ dX12_context_198
            exact ⟨⟨hT_4, hF_4⟩, 4, rfl, (by omega), (by unfold ctxS cxS; rw [← e_at8, ← e_at15, ← e_at22]; unfold cfS rfS; (repeat' split) <;> omega)⟩
        · refine TT_iload hK 1 rfl dX12_context_142 ?_
          refine TT_if_le hK (tgt := 152) (irm (by omega) (by omega)) dX12_context_144 (by decide) (fun hb144_14 => ?_) (fun hb144_14 => ?_)
          · refine TT_iload hK 0 rfl dX12_context_152 ?_
            refine TT_if_le hK (tgt := 162) (irm (by omega) (by omega)) dX12_context_154 (by decide) (fun hb154_15 => ?_) (fun hb154_15 => ?_)
            · refine TT_iconst hK dX12_context_162 ?_
              refine TT_goto hK (tgt := 198) dX12_context_163 (by decide) ?_
              refine TT_iret hK hQ ?_ dX12_context_198
              exact ⟨⟨hT_4, hF_4⟩, 5, rfl, (by omega), (by unfold ctxS cxS; rw [← e_at8, ← e_at15, ← e_at22]; unfold cfS rfS; (repeat' split) <;> omega)⟩
            · refine TT_bipush hK (by decide) dX12_context_157 ?_
              refine TT_goto hK (tgt := 198) dX12_context_159 (by decide) ?_
              refine TT_iret hK hQ ?_ dX12_context_198
              exact ⟨⟨hT_4, hF_4⟩, 6, rfl, (by omega), (by unfold ctxS cxS; rw [← e_at8, ← e_at15, ← e_at22]; unfold cfS rfS; (repeat' split) <;> omega)⟩
          · refine TT_bipush hK (by decide) dX12_context_147 ?_
            refine TT_goto hK (tgt := 198) dX12_context_149 (by decide) ?_
            refine TT_iret hK hQ ?_ dX12_context_198
            exact ⟨⟨hT_4, hF_4⟩, 7, rfl, (by omega), (by unfold ctxS cxS; rw [← e_at8, ← e_at15, ← e_at22]; unfold cfS rfS; (repeat' split) <;> omega)⟩
      · refine TT_bipush hK (by decide) dX12_context_131 ?_
        refine TT_goto hK (tgt := 198) dX12_context_133 (by decide) ?_
        refine TT_iret hK hQ ?_ dX12_context_198
        exact ⟨⟨hT_4, hF_4⟩, 8, rfl, (by omega), (by unfold ctxS cxS; rw [← e_at8, ← e_at15, ← e_at22]; unfold cfS rfS; (repeat' split) <;> omega)⟩
    · refine TT_iload hK 2 rfl dX12_context_113 ?_
      refine TT_istore hK (lv' := [(7, vI z8_2), (6, vI z22_4), (5, vI z15_3), (4, vI z8_2), (3, vI (10 * y + x + 11)), (0, vR 73), (1, vI x), (2, vI y)]) (by decide) rfl dX12_context_115 ?_
      refine TT_iload hK 2 rfl dX12_context_117 ?_
      refine TT_istore hK (lv' := [(4, vI z15_3), (7, vI z8_2), (6, vI z22_4), (5, vI z15_3), (3, vI (10 * y + x + 11)), (0, vR 73), (1, vI x), (2, vI y)]) (by decide) rfl dX12_context_119 ?_
      refine TT_iload hK 1 rfl dX12_context_121 ?_
      refine TT_istore hK (lv' := [(5, vI z8_2), (4, vI z15_3), (7, vI z8_2), (6, vI z22_4), (3, vI (10 * y + x + 11)), (0, vR 73), (1, vI x), (2, vI y)]) (by decide) rfl dX12_context_123 ?_
      refine TT_iload hK 1 rfl dX12_context_125 ?_
      refine TT_iconst hK dX12_context_127 ?_
      refine TT_icmp_ne hK (tgt := 136) (irm (by omega) (by omega)) (by decide) dX12_context_128 (by decide) (fun hb128_16 => ?_) (fun hb128_16 => ?_)
      · refine TT_iload hK 1 rfl dX12_context_136 ?_
        refine TT_iconst hK dX12_context_138 ?_
        refine TT_icmp_ne hK (tgt := 166) (irm (by omega) (by omega)) (by decide) dX12_context_139 (by decide) (fun hb139_17 => ?_) (fun hb139_17 => ?_)
        · refine TT_iload hK 0 rfl dX12_context_166 ?_
          refine TT_iconst hK dX12_context_168 ?_
          refine TT_icmp_ne hK (tgt := 176) (irm (by omega) (by omega)) (by decide) dX12_context_169 (by decide) (fun hb169_18 => ?_) (fun hb169_18 => ?_)
          · refine TT_iload hK 0 rfl dX12_context_176 ?_
            refine TT_iconst hK dX12_context_178 ?_
            refine TT_icmp_ne hK (tgt := 186) (irm (by omega) (by omega)) (by decide) dX12_context_179 (by decide) (fun hb179_19 => ?_) (fun hb179_19 => ?_)
            · refine TT_iload hK 3 rfl dX12_context_186 ?_
              refine TT_iconst hK dX12_context_188 ?_
              refine TT_icmp_le hK (tgt := 196) (irm (by omega) (by omega)) (by decide) dX12_context_189 (by decide) (fun hb189_20 => ?_) (fun hb189_20 => ?_)
              · refine TT_iload hK 3 rfl dX12_context_196 ?_
                refine TT_iret hK hQ ?_ dX12_context_198
                exact ⟨⟨hT_4, hF_4⟩, z22_4, rfl, (by omega), (by unfold ctxS cxS; rw [← e_at8, ← e_at15, ← e_at22]; unfold cfS rfS; (repeat' split) <;> omega)⟩
              · refine TT_iconst hK dX12_context_192 ?_
                refine TT_goto hK (tgt := 198) dX12_context_193 (by decide) ?_
                refine TT_iret hK hQ ?_ dX12_context_198
                exact ⟨⟨hT_4, hF_4⟩, 2, rfl, (by omega), (by unfold ctxS cxS; rw [← e_at8, ← e_at15, ← e_at22]; unfold cfS rfS; (repeat' split) <;> omega)⟩
            · refine TT_iconst hK dX12_context_182 ?_
              refine TT_goto hK (tgt := 198) dX12_context_183 (by decide) ?_
              refine TT_iret hK hQ ?_ dX12_context_198
              exact ⟨⟨hT_4, hF_4⟩, 3, rfl, (by omega), (by unfold ctxS cxS; rw [← e_at8, ← e_at15, ← e_at22]; unfold cfS rfS; (repeat' split) <;> omega)⟩
          · refine TT_iconst hK dX12_context_172 ?_
            refine TT_goto hK (tgt := 198) dX12_context_173 (by decide) ?_
            refine TT_iret hK hQ ?_ dX12_context_198
            exact ⟨⟨hT_4, hF_4⟩, 4, rfl, (by omega), (by unfold ctxS cxS; rw [← e_at8, ← e_at15, ← e_at22]; unfold cfS rfS; (repeat' split) <;> omega)⟩
        · refine TT_iload hK 0 rfl dX12_context_142 ?_
          refine TT_if_le hK (tgt := 152) (irm (by omega) (by omega)) dX12_context_144 (by decide) (fun hb144_21 => ?_) (fun hb144_21 => ?_)
          · refine TT_iload hK 3 rfl dX12_context_152 ?_
            refine TT_if_le hK (tgt := 162) (irm (by omega) (by omega)) dX12_context_154 (by decide) (fun hb154_22 => ?_) (fun hb154_22 => ?_)
            · refine TT_iconst hK dX12_context_162 ?_
              refine TT_goto hK (tgt := 198) dX12_context_163 (by decide) ?_
              refine TT_iret hK hQ ?_ dX12_context_198
              exact ⟨⟨hT_4, hF_4⟩, 5, rfl, (by omega), (by unfold ctxS cxS; rw [← e_at8, ← e_at15, ← e_at22]; unfold cfS rfS; (repeat' split) <;> omega)⟩
            · refine TT_bipush hK (by decide) dX12_context_157 ?_
              refine TT_goto hK (tgt := 198) dX12_context_159 (by decide) ?_
              refine TT_iret hK hQ ?_ dX12_context_198
              exact ⟨⟨hT_4, hF_4⟩, 6, rfl, (by omega), (by unfold ctxS cxS; rw [← e_at8, ← e_at15, ← e_at22]; unfold cfS rfS; (repeat' split) <;> omega)⟩
          · refine TT_bipush hK (by decide) dX12_context_147 ?_
            refine TT_goto hK (tgt := 198) dX12_context_149 (by decide) ?_
            refine TT_iret hK hQ ?_ dX12_context_198
            exact ⟨⟨hT_4, hF_4⟩, 7, rfl, (by omega), (by unfold ctxS cxS; rw [← e_at8, ← e_at15, ← e_at22]; unfold cfS rfS; (repeat' split) <;> omega)⟩
      · refine TT_bipush hK (by decide) dX12_context_131 ?_
        refine TT_goto hK (tgt := 198) dX12_context_133 (by decide) ?_
        refine TT_iret hK hQ ?_ dX12_context_198
        exact ⟨⟨hT_4, hF_4⟩, 8, rfl, (by omega), (by unfold ctxS cxS; rw [← e_at8, ← e_at15, ← e_at22]; unfold cfS rfS; (repeat' split) <;> omega)⟩
  · refine TT_iload hK 2 rfl dX12_context_40 ?_
    refine TT_iload hK 1 rfl dX12_context_42 ?_
    refine TT_iadd hK dX12_context_44 ?_
    refine TT_iconst hK dX12_context_45 ?_
    refine TT_icmp_le hK (tgt := 53) (irm (by omega) (by omega)) (by decide) dX12_context_46 (by decide) (fun hb46_23 => ?_) (fun hb46_23 => ?_)
    · refine TT_iload hK 2 rfl dX12_context_53 ?_
      refine TT_iload hK 1 rfl dX12_context_55 ?_
      refine TT_iadd hK dX12_context_57 ?_
      refine TT_istore hK (lv' := [(7, vI (z8_2 + z15_3)), (6, vI z22_4), (5, vI z15_3), (4, vI z8_2), (3, vI (10 * y + x + 11)), (0, vR 73), (1, vI x), (2, vI y)]) (by decide) rfl dX12_context_58 ?_
      refine TT_iload hK 1 rfl dX12_context_60 ?_
      refine TT_iconst hK dX12_context_62 ?_
      refine TT_icmp_le hK (tgt := 71) (irm (by omega) (by omega)) (by decide) dX12_context_63 (by decide) (fun hb63_24 => ?_) (fun hb63_24 => ?_)
      · refine TT_iload hK 1 rfl dX12_context_71 ?_
        refine TT_iconst hK dX12_context_73 ?_
        refine TT_icmp_ne hK (tgt := 92) (irm (by omega) (by omega)) (by decide) dX12_context_74 (by decide) (fun hb74_25 => ?_) (fun hb74_25 => ?_)
        · refine TT_iconst hK dX12_context_92 ?_
          refine TT_iload hK 1 rfl dX12_context_93 ?_
          refine TT_imul hK dX12_context_95 ?_
          refine TT_iload hK 0 rfl dX12_context_96 ?_
          refine TT_iadd hK dX12_context_98 ?_
          refine TT_iret hK hQ ?_ dX12_context_99
          exact ⟨⟨hT_4, hF_4⟩, ((3 * z22_4) + (z8_2 + z15_3)), rfl, (by omega), (by unfold ctxS cxS; rw [← e_at8, ← e_at15, ← e_at22]; unfold cfS rfS; (repeat' split) <;> omega)⟩
        · refine TT_iload hK 0 rfl dX12_context_77 ?_
          refine TT_if_le hK (tgt := 87) (irm (by omega) (by omega)) dX12_context_79 (by decide) (fun hb79_26 => ?_) (fun hb79_26 => ?_)
          · refine TT_bipush hK (by decide) dX12_context_87 ?_
            refine TT_goto hK (tgt := 99) dX12_context_89 (by decide) ?_
            refine TT_iret hK hQ ?_ dX12_context_99
            exact ⟨⟨hT_4, hF_4⟩, 6, rfl, (by omega), (by unfold ctxS cxS; rw [← e_at8, ← e_at15, ← e_at22]; unfold cfS rfS; (repeat' split) <;> omega)⟩
          · refine TT_bipush hK (by decide) dX12_context_82 ?_
            refine TT_goto hK (tgt := 99) dX12_context_84 (by decide) ?_
            refine TT_iret hK hQ ?_ dX12_context_99
            exact ⟨⟨hT_4, hF_4⟩, 7, rfl, (by omega), (by unfold ctxS cxS; rw [← e_at8, ← e_at15, ← e_at22]; unfold cfS rfS; (repeat' split) <;> omega)⟩
      · refine TT_bipush hK (by decide) dX12_context_66 ?_
        refine TT_goto hK (tgt := 99) dX12_context_68 (by decide) ?_
        refine TT_iret hK hQ ?_ dX12_context_99
        exact ⟨⟨hT_4, hF_4⟩, 8, rfl, (by omega), (by unfold ctxS cxS; rw [← e_at8, ← e_at15, ← e_at22]; unfold cfS rfS; (repeat' split) <;> omega)⟩
    · refine TT_iconst hK dX12_context_49 ?_
      refine TT_goto hK (tgt := 58) dX12_context_50 (by decide) ?_
      refine TT_istore hK (lv' := [(7, vI 2), (6, vI z22_4), (5, vI z15_3), (4, vI z8_2), (3, vI (10 * y + x + 11)), (0, vR 73), (1, vI x), (2, vI y)]) (by decide) rfl dX12_context_58 ?_
      refine TT_iload hK 1 rfl dX12_context_60 ?_
      refine TT_iconst hK dX12_context_62 ?_
      refine TT_icmp_le hK (tgt := 71) (irm (by omega) (by omega)) (by decide) dX12_context_63 (by decide) (fun hb63_27 => ?_) (fun hb63_27 => ?_)
      · refine TT_iload hK 1 rfl dX12_context_71 ?_
        refine TT_iconst hK dX12_context_73 ?_
        refine TT_icmp_ne hK (tgt := 92) (irm (by omega) (by omega)) (by decide) dX12_context_74 (by decide) (fun hb74_28 => ?_) (fun hb74_28 => ?_)
        · refine TT_iconst hK dX12_context_92 ?_
          refine TT_iload hK 1 rfl dX12_context_93 ?_
          refine TT_imul hK dX12_context_95 ?_
          refine TT_iload hK 0 rfl dX12_context_96 ?_
          refine TT_iadd hK dX12_context_98 ?_
          refine TT_iret hK hQ ?_ dX12_context_99
          exact ⟨⟨hT_4, hF_4⟩, ((3 * z22_4) + 2), rfl, (by omega), (by unfold ctxS cxS; rw [← e_at8, ← e_at15, ← e_at22]; unfold cfS rfS; (repeat' split) <;> omega)⟩
        · refine TT_iload hK 0 rfl dX12_context_77 ?_
          refine TT_if_le hK (tgt := 87) (by decide) dX12_context_79 (by decide) (fun hb79_29 => ?_) (fun hb79_29 => ?_)
          · exact absurd hb79_29 (by decide)
          · refine TT_bipush hK (by decide) dX12_context_82 ?_
            refine TT_goto hK (tgt := 99) dX12_context_84 (by decide) ?_
            refine TT_iret hK hQ ?_ dX12_context_99
            exact ⟨⟨hT_4, hF_4⟩, 7, rfl, (by omega), (by unfold ctxS cxS; rw [← e_at8, ← e_at15, ← e_at22]; unfold cfS rfS; (repeat' split) <;> omega)⟩
      · refine TT_bipush hK (by decide) dX12_context_66 ?_
        refine TT_goto hK (tgt := 99) dX12_context_68 (by decide) ?_
        refine TT_iret hK hQ ?_ dX12_context_99
        exact ⟨⟨hT_4, hF_4⟩, 8, rfl, (by omega), (by unfold ctxS cxS; rw [← e_at8, ← e_at15, ← e_at22]; unfold cfS rfS; (repeat' split) <;> omega)⟩
set_option maxRecDepth 20000 in
theorem s_unit_e (v : Int) (h : Hp_) (hT : TY h) (hv : -2147483648 ≤ v ∧ v ≤ 2147483647) : Ctr yX12_unit cX12_unit 1 (some .int) (rmd 0) ly ly 0 0 [vI v] h (fun r h' => (TY h' ∧ FRM [] [] h h') ∧ ∃ z : Int, r = some (vI z) ∧ (-1 ≤ z ∧ z ≤ 1) ∧ (z = cutS v)) := by
  refine Ctr_of (by decide) (Nat.le_of_ble_eq_true rfl) ⟨Nat.le_refl _, Nat.le_refl _⟩ (fun K hK hQ _ => ?_)
  show TT K ly 0 0 0 [(0, vI v)] [] h
  have hF : FRM [] [] h h := FRM_rf _ _ _
  refine TT_iload_n hK rfl 0 rfl dX12_unit_0 ?_
  refine TT_if_le hK (tgt := 8) (irm (by omega) (by omega)) dX12_unit_1 (by decide) (fun hb1_1 => ?_) (fun hb1_1 => ?_)
  · refine TT_iload_n hK rfl 0 rfl dX12_unit_8 ?_
    refine TT_if_ge hK (tgt := 16) (irm (by omega) (by omega)) dX12_unit_9 (by decide) (fun hb9_2 => ?_) (fun hb9_2 => ?_)
    · refine TT_iconst hK dX12_unit_16 ?_
      refine TT_iret hK hQ ?_ dX12_unit_17
      exact ⟨⟨hT, hF⟩, 0, rfl, (by omega), (by unfold cutS; (repeat' split) <;> omega)⟩
    · refine TT_iconst hK dX12_unit_12 ?_
      refine TT_goto hK (tgt := 17) dX12_unit_13 (by decide) ?_
      refine TT_iret hK hQ ?_ dX12_unit_17
      exact ⟨⟨hT, hF⟩, (-1), rfl, (by omega), (by unfold cutS; (repeat' split) <;> omega)⟩
  · refine TT_iconst hK dX12_unit_4 ?_
    refine TT_goto hK (tgt := 17) dX12_unit_5 (by decide) ?_
    refine TT_iret hK hQ ?_ dX12_unit_17
    exact ⟨⟨hT, hF⟩, 1, rfl, (by omega), (by unfold cutS; (repeat' split) <;> omega)⟩
set_option maxRecDepth 20000 in
theorem s_bitAt_e (x y : Int) (h : Hp_) (hT : TY h) (hx : 0 ≤ x ∧ x ≤ 7) (hy : 0 ≤ y ∧ y ≤ 7) (hpl : 0 ≤ (h 73 27) ∧ (h 73 27) ≤ 20) : Ctr yX12_bitAt cX12_bitAt 3 (some .int) (rmd 1) ly ly 0 0 [vR 73, vI x, vI y] h (fun r h' => (TY h' ∧ FRM [] [] h h') ∧ ∃ z : Int, r = some (vI z) ∧ (0 ≤ z ∧ z ≤ 1) ∧ (z = (h 84) (64 * (h 73 26) + 8 * y + x) / 2 ^ (h 73 27).toNat % 2)) := by
  refine Ctr_of (by decide) (Nat.le_of_ble_eq_true rfl) ⟨Nat.le_refl _, Nat.le_refl _⟩ (fun K hK hQ _ => ?_)
  show TT K ly 0 0 0 [(0, vR 73), (1, vI x), (2, vI y)] [] h
  have hF : FRM [] [] h h := FRM_rf _ _ _
  refine TT_aload_n hK rfl 0 rfl dX12_bitAt_0 ?_
  refine gf_X12_47 hK (by decide) rfl (q := 84) rfl rfl dX12_bitAt_1 ?_
  refine TT_aload_n hK rfl 0 rfl dX12_bitAt_4 ?_
  refine TT_iload_n hK rfl 1 rfl dX12_bitAt_5 ?_
  refine TT_iload_n hK rfl 2 rfl dX12_bitAt_6 ?_
  refine iv_X12_249 hK (s_X12_cell_73 x y h hT (by first | omega | (simp [up, setR] <;> omega)) (by first | omega | (simp [up, setR] <;> omega))) (by decide) rfl ⟨by decide, by decide⟩ (by decide) rfl rfl (Nat.le_of_ble_eq_true rfl) ⟨by decide, by decide⟩ dX12_bitAt_7 ?_
  intro r9 g7_1 hp9
  obtain ⟨⟨hT_1, hG_1⟩, z7_1, hr9, hz_1, p1_1⟩ := hp9
  rw [hr9]
  have hF_1 : FRM [] [] h g7_1 := FRM_tr hF hG_1 (by decide) (by decide)
  rw [show h 73 26 = (h 73) 26 from rfl] at p1_1
  show TT K ly 0 0 10 [(0, vR 73), (1, vI x), (2, vI y)] [vI z7_1, vR 84] g7_1
  refine TT_cgI (b := 64 * h 73 26 + 8 * y + x) (by omega) ?_
  refine TT_iald hK (o := 84) (n := 1280) (by decide) rfl (by first | omega | (simp [up, setR] <;> omega)) (by first | omega | (simp [up, setR] <;> omega)) (v := (h 84) (64 * h 73 26 + 8 * y + x)) (rd_ (hG_1.1 84 (by decide)) rfl) dX12_bitAt_10 ?_
  have r2 := ty_84 (i := 64 * h 73 26 + 8 * y + x) (v := (h 84) (64 * h 73 26 + 8 * y + x)) hT_1 (rd_ (hG_1.1 84 (by decide)) rfl) (by omega) (by omega)
  refine TT_aload_n hK rfl 0 rfl dX12_bitAt_11 ?_
  refine gf_X12_252 hK (by decide) rfl (v := (h 73) 27) (congrFun (hG_1.1 73 (by decide)) 27) dX12_bitAt_12 ?_
  have r3 := ty_73_27 (v := (h 73) 27) hT_1 (congrFun (hG_1.1 73 (by decide)) 27)
  refine TT_ishr hK (irm (by omega) (by omega)) (by omega) (by omega) dX12_bitAt_15 ?_
  refine TT_iconst hK dX12_bitAt_16 ?_
  refine TT_iand hK dX12_bitAt_17 ?_
  refine TT_cgI (iand_m (((h 84) (64 * h 73 26 + 8 * y + x)) / 2 ^ ((h 73) 27).toNat) 1 (by decide)) ?_
  show TT K ly 0 0 18 [(0, vR 73), (1, vI x), (2, vI y)] (vI ((((h 84) (64 * h 73 26 + 8 * y + x)) / 2 ^ ((h 73) 27).toNat) % 2) :: []) g7_1
  refine TT_iret hK hQ ?_ dX12_bitAt_18
  exact ⟨⟨hT_1, hF_1⟩, ((((h 84) (64 * h 73 26 + 8 * y + x)) / 2 ^ ((h 73) 27).toNat) % 2), rfl, (by omega), (by first | rfl | omega)⟩
set_option maxRecDepth 20000 in
theorem s_untouched_e (x y : Int) (h : Hp_) (hT : TY h) (hx : 0 ≤ x ∧ x ≤ 7) (hy : 0 ≤ y ∧ y ≤ 7) : Ctr yX12_isUntouched cX12_isUntouched 3 (some .boolean) (rmd 1) ly ly 0 0 [vR 73, vI x, vI y] h (fun r h' => (TY h' ∧ FRM [] [] h h') ∧ ∃ z : Int, r = some (vI z) ∧ (0 ≤ z ∧ z ≤ 1) ∧ (z = 1 → (h 93) (10 * y + x + 11) = 0) ∧ ((z = 1 → (h 93) (10 * y + x + 11) = 0 ∧ (h 94) (8 * y + x) = 0) ∧ (z = 0 → ¬((h 93) (10 * y + x + 11) = 0 ∧ (h 94) (8 * y + x) = 0)))) := by
  refine Ctr_of (by decide) (Nat.le_of_ble_eq_true rfl) ⟨Nat.le_refl _, Nat.le_refl _⟩ (fun K hK hQ _ => ?_)
  show TT K ly 0 0 0 [(0, vR 73), (1, vI x), (2, vI y)] [] h
  have hF : FRM [] [] h h := FRM_rf _ _ _
  refine TT_aload_n hK rfl 0 rfl dX12_isUntouched_0 ?_
  refine TT_iload_n hK rfl 1 rfl dX12_isUntouched_1 ?_
  refine TT_iload_n hK rfl 2 rfl dX12_isUntouched_2 ?_
  refine iv_X12_234 hK (s_X12_spot x y h hT (by first | omega | (simp [up, setR] <;> omega)) (by first | omega | (simp [up, setR] <;> omega))) ⟨by decide, by decide⟩ (by decide) rfl rfl (Nat.le_of_ble_eq_true rfl) ⟨by decide, by decide⟩ dX12_isUntouched_3 ?_
  intro r9 g3_1 hp9
  obtain ⟨⟨hT_1, hG_1⟩, z3_1, hr9, hz_1, p1_1⟩ := hp9
  rw [hr9]
  have hF_1 : FRM [] [] h g3_1 := FRM_tr hF hG_1 (by decide) (by decide)
  show TT K ly 0 0 6 [(0, vR 73), (1, vI x), (2, vI y)] [vI z3_1, vR 73] g3_1
  refine TT_cgI (b := 10 * y + x + 11) (by omega) ?_
  refine iv_X12_231 hK (s_here_e (10 * y + x + 11) g3_1 hT_1 (by first | omega | (simp [up, setR] <;> omega))) (by decide) rfl ⟨by decide, by decide⟩ (by decide) rfl rfl (Nat.le_of_ble_eq_true rfl) ⟨by decide, by decide⟩ dX12_isUntouched_6 ?_
  intro r9 g6_2 hp9
  obtain ⟨⟨hT_2, hG_2⟩, z6_2, hr9, hz_2, p1_2, e_2⟩ := hp9
  rw [hr9]
  have hF_2 : FRM [] [] h g6_2 := FRM_tr hF_1 hG_2 (by decide) (by decide)
  rw [show g3_1 93 = h 93 from (hG_1.1 93 (by decide))] at p1_2
  rw [show g3_1 93 = h 93 from (hG_1.1 93 (by decide))] at e_2
  have e_at6 := e_2
  show TT K ly 0 0 9 [(0, vR 73), (1, vI x), (2, vI y)] [vI z6_2] g6_2
  refine TT_if_ne hK (tgt := 30) (irm (by omega) (by omega)) dX12_isUntouched_9 (by decide) (fun hb9_3 => ?_) (fun hb9_3 => ?_)
  · refine TT_iconst hK dX12_isUntouched_30 ?_
    refine TT_zret hK hQ (by decide) ?_ dX12_isUntouched_31
    exact ⟨⟨hT_2, hF_2⟩, 0, rfl, (by omega), (by omega), (by have e9 := hS_01 (h 93) (10 * y + x + 11); first | exact ⟨fun _ => by omega, fun q => by exfalso; omega⟩ | exact ⟨fun q => by exfalso; omega, fun _ => by omega⟩)⟩
  · refine TT_aload_n hK rfl 0 rfl dX12_isUntouched_12 ?_
    refine gf_X12_78 hK (by decide) rfl (q := 94) rfl rfl dX12_isUntouched_13 ?_
    refine TT_bipush hK (by decide) dX12_isUntouched_16 ?_
    refine TT_iload_n hK rfl 2 rfl dX12_isUntouched_18 ?_
    refine TT_imul hK dX12_isUntouched_19 ?_
    refine TT_iload_n hK rfl 1 rfl dX12_isUntouched_20 ?_
    refine TT_iadd hK dX12_isUntouched_21 ?_
    refine TT_zald hK (o := 94) (n := 64) (by decide) rfl (by first | omega | (simp [up, setR] <;> omega)) (by first | omega | (simp [up, setR] <;> omega)) (v := (h 94) ((8 * y) + x)) (rd_ (((hG_2.1 94 (by decide))).trans (hG_1.1 94 (by decide))) rfl) dX12_isUntouched_22 ?_
    have r4 := ty_94 (i := (8 * y) + x) (v := (h 94) ((8 * y) + x)) hT_2 (rd_ (((hG_2.1 94 (by decide))).trans (hG_1.1 94 (by decide))) rfl) (by omega) (by omega)
    refine TT_if_ne hK (tgt := 30) (irm (by omega) (by omega)) dX12_isUntouched_23 (by decide) (fun hb23_5 => ?_) (fun hb23_5 => ?_)
    · refine TT_iconst hK dX12_isUntouched_30 ?_
      refine TT_zret hK hQ (by decide) ?_ dX12_isUntouched_31
      exact ⟨⟨hT_2, hF_2⟩, 0, rfl, (by omega), (by omega), (by have e9 := hS_01 (h 93) (10 * y + x + 11); first | exact ⟨fun _ => by omega, fun q => by exfalso; omega⟩ | exact ⟨fun q => by exfalso; omega, fun _ => by omega⟩)⟩
    · refine TT_iconst hK dX12_isUntouched_26 ?_
      refine TT_goto hK (tgt := 31) dX12_isUntouched_27 (by decide) ?_
      refine TT_zret hK hQ (by decide) ?_ dX12_isUntouched_31
      exact ⟨⟨hT_2, hF_2⟩, 1, rfl, (by omega), (by omega), (by have e9 := hS_01 (h 93) (10 * y + x + 11); first | exact ⟨fun _ => by omega, fun q => by exfalso; omega⟩ | exact ⟨fun q => by exfalso; omega, fun _ => by omega⟩)⟩

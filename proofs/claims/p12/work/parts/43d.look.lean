theorem lgP {l q : Int} (hl : 0 ≤ l ∧ l ≤ 6) (hq : q = 1 * 2 ^ (l + 1).toNat) : 2 ≤ q ∧ q ≤ 128 ∧ (l = 6 → q = 128) := by
  rcases (show l = 0 ∨ l = 1 ∨ l = 2 ∨ l = 3 ∨ l = 4 ∨ l = 5 ∨ l = 6 by omega) with rfl | rfl | rfl | rfl | rfl | rfl | rfl
  · rw [show (2 : Int) ^ ((0 : Int) + 1).toNat = 2 from rfl] at hq; omega
  · rw [show (2 : Int) ^ ((1 : Int) + 1).toNat = 4 from rfl] at hq; omega
  · rw [show (2 : Int) ^ ((2 : Int) + 1).toNat = 8 from rfl] at hq; omega
  · rw [show (2 : Int) ^ ((3 : Int) + 1).toNat = 16 from rfl] at hq; omega
  · rw [show (2 : Int) ^ ((4 : Int) + 1).toNat = 32 from rfl] at hq; omega
  · rw [show (2 : Int) ^ ((5 : Int) + 1).toNat = 64 from rfl] at hq; omega
  · rw [show (2 : Int) ^ ((6 : Int) + 1).toNat = 128 from rfl] at hq; omega
set_option maxRecDepth 20000 in
theorem s_X12_spot (x y : Int) (h : Hp_) (hT : TY h) (hx : 0 ≤ x ∧ x ≤ 7) (hy : 0 ≤ y ∧ y ≤ 7) : Ctr yX12_spot cX12_spot 2 (some .int) (rmd 0) ly ly 0 0 [vI x, vI y] h (fun r h' => (TY h' ∧ FRM [] [] h h') ∧ ∃ z : Int, r = some (vI z) ∧ (11 ≤ z ∧ z ≤ 88) ∧ (z = 10 * y + x + 11)) := by
  refine Ctr_of (by decide) (Nat.le_of_ble_eq_true rfl) ⟨Nat.le_refl _, Nat.le_refl _⟩ (fun K hK hQ _ => ?_)
  show TT K ly 0 0 0 [(0, vI x), (1, vI y)] [] h
  have hF : FRM [] [] h h := FRM_rf _ _ _
  refine TT_bipush hK (by decide) dX12_spot_0 ?_
  refine TT_iload_n hK rfl 1 rfl dX12_spot_2 ?_
  refine TT_imul hK dX12_spot_3 ?_
  refine TT_iload_n hK rfl 0 rfl dX12_spot_4 ?_
  refine TT_iadd hK dX12_spot_5 ?_
  refine TT_bipush hK (by decide) dX12_spot_6 ?_
  refine TT_iadd hK dX12_spot_8 ?_
  refine TT_iret hK hQ ?_ dX12_spot_9
  exact ⟨⟨hT, hF⟩, (((10 * y) + x) + 11), rfl, (by omega), (by omega)⟩
set_option maxRecDepth 20000 in
theorem s_X12_here_73 (p : Int) (h : Hp_) (hT : TY h) (hp : 0 ≤ p ∧ p ≤ 99) : Ctr yX12_here cX12_here 2 (some .int) (rmd 0) ly ly 0 0 [vR 73, vI p] h (fun r h' => (TY h' ∧ FRM [] [] h h') ∧ ∃ z : Int, r = some (vI z) ∧ (0 ≤ z ∧ z ≤ 1) ∧ (z = 0 → (h 93) p = 0)) := by
  refine Ctr_of (by decide) (Nat.le_of_ble_eq_true rfl) ⟨Nat.le_refl _, Nat.le_refl _⟩ (fun K hK hQ _ => ?_)
  show TT K ly 0 0 0 [(0, vR 73), (1, vI p)] [] h
  have hF : FRM [] [] h h := FRM_rf _ _ _
  refine TT_aload_n hK rfl 0 rfl dX12_here_0 ?_
  refine gf_X12_75 hK (by decide) rfl (q := 93) rfl rfl dX12_here_1 ?_
  refine TT_iload_n hK rfl 1 rfl dX12_here_4 ?_
  refine TT_iald hK (o := 93) (n := 100) (by decide) rfl (by first | omega | (simp [up, setR] <;> omega)) (by first | omega | (simp [up, setR] <;> omega)) (v := (h 93) p) rfl dX12_here_5 ?_
  have r1 := ty_93 (i := p) (v := (h 93) p) hT rfl (by omega) (by omega)
  refine TT_if_ne hK (tgt := 13) (irm (by omega) (by omega)) dX12_here_6 (by decide) (fun hb6_2 => ?_) (fun hb6_2 => ?_)
  · refine TT_iconst hK dX12_here_13 ?_
    refine TT_iret hK hQ ?_ dX12_here_14
    exact ⟨⟨hT, hF⟩, 1, rfl, (by omega), (by omega)⟩
  · refine TT_iconst hK dX12_here_9 ?_
    refine TT_goto hK (tgt := 14) dX12_here_10 (by decide) ?_
    refine TT_iret hK hQ ?_ dX12_here_14
    exact ⟨⟨hT, hF⟩, 0, rfl, (by omega), (by omega)⟩
set_option maxRecDepth 20000 in
theorem s_X12_inRow_73 (p : Int) (h : Hp_) (hT : TY h) (hp : 11 ≤ p ∧ p ≤ 88) : Ctr yX12_inRow cX12_inRow 2 (some .int) (rmd 1) ly ly 0 0 [vR 73, vI p] h (fun r h' => (TY h' ∧ FRM [] [] h h') ∧ ∃ z : Int, r = some (vI z) ∧ (0 ≤ z ∧ z ≤ 2)) := by
  refine Ctr_of (by decide) (Nat.le_of_ble_eq_true rfl) ⟨Nat.le_refl _, Nat.le_refl _⟩ (fun K hK hQ _ => ?_)
  show TT K ly 0 0 0 [(0, vR 73), (1, vI p)] [] h
  have hF : FRM [] [] h h := FRM_rf _ _ _
  refine TT_aload_n hK rfl 0 rfl dX12_inRow_0 ?_
  refine TT_iload_n hK rfl 1 rfl dX12_inRow_1 ?_
  refine TT_iconst hK dX12_inRow_2 ?_
  refine TT_isub hK dX12_inRow_3 ?_
  refine iv_X12_231 hK (s_X12_here_73 (p - 1) h hT (by first | omega | (simp [up, setR] <;> omega))) (by decide) rfl ⟨by decide, by decide⟩ (by decide) rfl rfl (Nat.le_of_ble_eq_true rfl) ⟨by decide, by decide⟩ dX12_inRow_4 ?_
  intro r9 g4_1 hp9
  obtain ⟨⟨hT_1, hG_1⟩, z4_1, hr9, hz_1, p1_1⟩ := hp9
  rw [hr9]
  have hF_1 : FRM [] [] h g4_1 := FRM_tr hF hG_1 (by decide) (by decide)
  show TT K ly 0 0 7 [(0, vR 73), (1, vI p)] [vI z4_1] g4_1
  refine TT_aload_n hK rfl 0 rfl dX12_inRow_7 ?_
  refine TT_iload_n hK rfl 1 rfl dX12_inRow_8 ?_
  refine TT_iconst hK dX12_inRow_9 ?_
  refine TT_iadd hK dX12_inRow_10 ?_
  refine iv_X12_231 hK (s_X12_here_73 (p + 1) g4_1 hT_1 (by first | omega | (simp [up, setR] <;> omega))) (by decide) rfl ⟨by decide, by decide⟩ (by decide) rfl rfl (Nat.le_of_ble_eq_true rfl) ⟨by decide, by decide⟩ dX12_inRow_11 ?_
  intro r9 g11_2 hp9
  obtain ⟨⟨hT_2, hG_2⟩, z11_2, hr9, hz_2, p1_2⟩ := hp9
  rw [hr9]
  have hF_2 : FRM [] [] h g11_2 := FRM_tr hF_1 hG_2 (by decide) (by decide)
  rw [show g4_1 93 = h 93 from (hG_1.1 93 (by decide))] at p1_2
  show TT K ly 0 0 14 [(0, vR 73), (1, vI p)] [vI z11_2, vI z4_1] g11_2
  refine TT_iadd hK dX12_inRow_14 ?_
  refine TT_iret hK hQ ?_ dX12_inRow_15
  exact ⟨⟨hT_2, hF_2⟩, (z4_1 + z11_2), rfl, (by omega)⟩
set_option maxRecDepth 20000 in
theorem s_X12_inColumn_73 (p : Int) (h : Hp_) (hT : TY h) (hp : 11 ≤ p ∧ p ≤ 88) : Ctr yX12_inColumn cX12_inColumn 2 (some .int) (rmd 1) ly ly 0 0 [vR 73, vI p] h (fun r h' => (TY h' ∧ FRM [] [] h h') ∧ ∃ z : Int, r = some (vI z) ∧ (0 ≤ z ∧ z ≤ 2)) := by
  refine Ctr_of (by decide) (Nat.le_of_ble_eq_true rfl) ⟨Nat.le_refl _, Nat.le_refl _⟩ (fun K hK hQ _ => ?_)
  show TT K ly 0 0 0 [(0, vR 73), (1, vI p)] [] h
  have hF : FRM [] [] h h := FRM_rf _ _ _
  refine TT_aload_n hK rfl 0 rfl dX12_inColumn_0 ?_
  refine TT_iload_n hK rfl 1 rfl dX12_inColumn_1 ?_
  refine TT_bipush hK (by decide) dX12_inColumn_2 ?_
  refine TT_isub hK dX12_inColumn_4 ?_
  refine iv_X12_231 hK (s_X12_here_73 (p - 10) h hT (by first | omega | (simp [up, setR] <;> omega))) (by decide) rfl ⟨by decide, by decide⟩ (by decide) rfl rfl (Nat.le_of_ble_eq_true rfl) ⟨by decide, by decide⟩ dX12_inColumn_5 ?_
  intro r9 g5_1 hp9
  obtain ⟨⟨hT_1, hG_1⟩, z5_1, hr9, hz_1, p1_1⟩ := hp9
  rw [hr9]
  have hF_1 : FRM [] [] h g5_1 := FRM_tr hF hG_1 (by decide) (by decide)
  show TT K ly 0 0 8 [(0, vR 73), (1, vI p)] [vI z5_1] g5_1
  refine TT_aload_n hK rfl 0 rfl dX12_inColumn_8 ?_
  refine TT_iload_n hK rfl 1 rfl dX12_inColumn_9 ?_
  refine TT_bipush hK (by decide) dX12_inColumn_10 ?_
  refine TT_iadd hK dX12_inColumn_12 ?_
  refine iv_X12_231 hK (s_X12_here_73 (p + 10) g5_1 hT_1 (by first | omega | (simp [up, setR] <;> omega))) (by decide) rfl ⟨by decide, by decide⟩ (by decide) rfl rfl (Nat.le_of_ble_eq_true rfl) ⟨by decide, by decide⟩ dX12_inColumn_13 ?_
  intro r9 g13_2 hp9
  obtain ⟨⟨hT_2, hG_2⟩, z13_2, hr9, hz_2, p1_2⟩ := hp9
  rw [hr9]
  have hF_2 : FRM [] [] h g13_2 := FRM_tr hF_1 hG_2 (by decide) (by decide)
  rw [show g5_1 93 = h 93 from (hG_1.1 93 (by decide))] at p1_2
  show TT K ly 0 0 16 [(0, vR 73), (1, vI p)] [vI z13_2, vI z5_1] g13_2
  refine TT_iadd hK dX12_inColumn_16 ?_
  refine TT_iret hK hQ ?_ dX12_inColumn_17
  exact ⟨⟨hT_2, hF_2⟩, (z5_1 + z13_2), rfl, (by omega)⟩
set_option maxRecDepth 20000 in
theorem s_X12_acrossOf_73 (p : Int) (h : Hp_) (hT : TY h) (hp : 11 ≤ p ∧ p ≤ 88) : Ctr yX12_acrossOf cX12_acrossOf 2 (some .int) (rmd 1) ly ly 0 0 [vR 73, vI p] h (fun r h' => (TY h' ∧ FRM [] [] h h') ∧ ∃ z : Int, r = some (vI z) ∧ (0 ≤ z ∧ z ≤ 4)) := by
  refine Ctr_of (by decide) (Nat.le_of_ble_eq_true rfl) ⟨Nat.le_refl _, Nat.le_refl _⟩ (fun K hK hQ _ => ?_)
  show TT K ly 0 0 0 [(0, vR 73), (1, vI p)] [] h
  have hF : FRM [] [] h h := FRM_rf _ _ _
  refine TT_aload_n hK rfl 0 rfl dX12_acrossOf_0 ?_
  refine TT_iload_n hK rfl 1 rfl dX12_acrossOf_1 ?_
  refine TT_bipush hK (by decide) dX12_acrossOf_2 ?_
  refine TT_isub hK dX12_acrossOf_4 ?_
  refine iv_X12_231 hK (s_X12_here_73 (p - 11) h hT (by first | omega | (simp [up, setR] <;> omega))) (by decide) rfl ⟨by decide, by decide⟩ (by decide) rfl rfl (Nat.le_of_ble_eq_true rfl) ⟨by decide, by decide⟩ dX12_acrossOf_5 ?_
  intro r9 g5_1 hp9
  obtain ⟨⟨hT_1, hG_1⟩, z5_1, hr9, hz_1, p1_1⟩ := hp9
  rw [hr9]
  have hF_1 : FRM [] [] h g5_1 := FRM_tr hF hG_1 (by decide) (by decide)
  show TT K ly 0 0 8 [(0, vR 73), (1, vI p)] [vI z5_1] g5_1
  refine TT_aload_n hK rfl 0 rfl dX12_acrossOf_8 ?_
  refine TT_iload_n hK rfl 1 rfl dX12_acrossOf_9 ?_
  refine TT_bipush hK (by decide) dX12_acrossOf_10 ?_
  refine TT_isub hK dX12_acrossOf_12 ?_
  refine iv_X12_231 hK (s_X12_here_73 (p - 9) g5_1 hT_1 (by first | omega | (simp [up, setR] <;> omega))) (by decide) rfl ⟨by decide, by decide⟩ (by decide) rfl rfl (Nat.le_of_ble_eq_true rfl) ⟨by decide, by decide⟩ dX12_acrossOf_13 ?_
  intro r9 g13_2 hp9
  obtain ⟨⟨hT_2, hG_2⟩, z13_2, hr9, hz_2, p1_2⟩ := hp9
  rw [hr9]
  have hF_2 : FRM [] [] h g13_2 := FRM_tr hF_1 hG_2 (by decide) (by decide)
  rw [show g5_1 93 = h 93 from (hG_1.1 93 (by decide))] at p1_2
  show TT K ly 0 0 16 [(0, vR 73), (1, vI p)] [vI z13_2, vI z5_1] g13_2
  refine TT_iadd hK dX12_acrossOf_16 ?_
  refine TT_aload_n hK rfl 0 rfl dX12_acrossOf_17 ?_
  refine TT_iload_n hK rfl 1 rfl dX12_acrossOf_18 ?_
  refine TT_bipush hK (by decide) dX12_acrossOf_19 ?_
  refine TT_iadd hK dX12_acrossOf_21 ?_
  refine iv_X12_231 hK (s_X12_here_73 (p + 9) g13_2 hT_2 (by first | omega | (simp [up, setR] <;> omega))) (by decide) rfl ⟨by decide, by decide⟩ (by decide) rfl rfl (Nat.le_of_ble_eq_true rfl) ⟨by decide, by decide⟩ dX12_acrossOf_22 ?_
  intro r9 g22_3 hp9
  obtain ⟨⟨hT_3, hG_3⟩, z22_3, hr9, hz_3, p1_3⟩ := hp9
  rw [hr9]
  have hF_3 : FRM [] [] h g22_3 := FRM_tr hF_2 hG_3 (by decide) (by decide)
  rw [show g13_2 93 = h 93 from ((hG_2.1 93 (by decide))).trans (hG_1.1 93 (by decide))] at p1_3
  show TT K ly 0 0 25 [(0, vR 73), (1, vI p)] [vI z22_3, vI (z5_1 + z13_2)] g22_3
  refine TT_iadd hK dX12_acrossOf_25 ?_
  refine TT_aload_n hK rfl 0 rfl dX12_acrossOf_26 ?_
  refine TT_iload_n hK rfl 1 rfl dX12_acrossOf_27 ?_
  refine TT_bipush hK (by decide) dX12_acrossOf_28 ?_
  refine TT_iadd hK dX12_acrossOf_30 ?_
  refine iv_X12_231 hK (s_X12_here_73 (p + 11) g22_3 hT_3 (by first | omega | (simp [up, setR] <;> omega))) (by decide) rfl ⟨by decide, by decide⟩ (by decide) rfl rfl (Nat.le_of_ble_eq_true rfl) ⟨by decide, by decide⟩ dX12_acrossOf_31 ?_
  intro r9 g31_4 hp9
  obtain ⟨⟨hT_4, hG_4⟩, z31_4, hr9, hz_4, p1_4⟩ := hp9
  rw [hr9]
  have hF_4 : FRM [] [] h g31_4 := FRM_tr hF_3 hG_4 (by decide) (by decide)
  rw [show g22_3 93 = h 93 from ((hG_3.1 93 (by decide))).trans (((hG_2.1 93 (by decide))).trans (hG_1.1 93 (by decide)))] at p1_4
  show TT K ly 0 0 34 [(0, vR 73), (1, vI p)] [vI z31_4, vI ((z5_1 + z13_2) + z22_3)] g31_4
  refine TT_iadd hK dX12_acrossOf_34 ?_
  refine TT_iret hK hQ ?_ dX12_acrossOf_35
  exact ⟨⟨hT_4, hF_4⟩, (((z5_1 + z13_2) + z22_3) + z31_4), rfl, (by omega)⟩
set_option maxRecDepth 20000 in
theorem s_X12_context_73 (x y : Int) (h : Hp_) (hT : TY h) (hx : 0 ≤ x ∧ x ≤ 7) (hy : 0 ≤ y ∧ y ≤ 7) : Ctr yX12_context cX12_context 8 (some .int) (rmd 2) ly ly 0 0 [vR 73, vI x, vI y] h (fun r h' => (TY h' ∧ FRM [] [] h h') ∧ ∃ z : Int, r = some (vI z) ∧ (0 ≤ z ∧ z ≤ 8)) := by
  refine Ctr_of (by decide) (Nat.le_of_ble_eq_true rfl) ⟨Nat.le_refl _, Nat.le_refl _⟩ (fun K hK hQ _ => ?_)
  show TT K ly 0 0 0 [(0, vR 73), (1, vI x), (2, vI y)] [] h
  have hF : FRM [] [] h h := FRM_rf _ _ _
  refine TT_iload_n hK rfl 1 rfl dX12_context_0 ?_
  refine TT_iload_n hK rfl 2 rfl dX12_context_1 ?_
  refine iv_X12_234 hK (s_X12_spot x y h hT (by first | omega | (simp [up, setR] <;> omega)) (by first | omega | (simp [up, setR] <;> omega))) ⟨by decide, by decide⟩ (by decide) rfl rfl (Nat.le_of_ble_eq_true rfl) ⟨by decide, by decide⟩ dX12_context_2 ?_
  intro r9 g2_1 hp9
  obtain ⟨⟨hT_1, hG_1⟩, z2_1, hr9, hz_1, p1_1⟩ := hp9
  rw [hr9]
  have hF_1 : FRM [] [] h g2_1 := FRM_tr hF hG_1 (by decide) (by decide)
  show TT K ly 0 0 5 [(0, vR 73), (1, vI x), (2, vI y)] [vI z2_1] g2_1
  refine TT_istore_n hK rfl (lv' := [(3, vI z2_1), (0, vR 73), (1, vI x), (2, vI y)]) (by decide) rfl dX12_context_5 ?_
  refine TT_aload_n hK rfl 1 rfl dX12_context_6 ?_
  refine TT_iload_n hK rfl 0 rfl dX12_context_7 ?_
  refine iv_X12_237 hK (s_X12_inRow_73 z2_1 g2_1 hT_1 (by first | omega | (simp [up, setR] <;> omega))) (by decide) rfl ⟨by decide, by decide⟩ (by decide) rfl rfl (Nat.le_of_ble_eq_true rfl) ⟨by decide, by decide⟩ dX12_context_8 ?_
  intro r9 g8_2 hp9
  obtain ⟨⟨hT_2, hG_2⟩, z8_2, hr9, hz_2⟩ := hp9
  rw [hr9]
  have hF_2 : FRM [] [] h g8_2 := FRM_tr hF_1 hG_2 (by decide) (by decide)
  show TT K ly 0 0 11 [(3, vI z2_1), (0, vR 73), (1, vI x), (2, vI y)] [vI z8_2] g8_2
  refine TT_istore hK (lv' := [(4, vI z8_2), (3, vI z2_1), (0, vR 73), (1, vI x), (2, vI y)]) (by decide) rfl dX12_context_11 ?_
  refine TT_aload_n hK rfl 2 rfl dX12_context_13 ?_
  refine TT_iload_n hK rfl 1 rfl dX12_context_14 ?_
  refine iv_X12_240 hK (s_X12_inColumn_73 z2_1 g8_2 hT_2 (by first | omega | (simp [up, setR] <;> omega))) (by decide) rfl ⟨by decide, by decide⟩ (by decide) rfl rfl (Nat.le_of_ble_eq_true rfl) ⟨by decide, by decide⟩ dX12_context_15 ?_
  intro r9 g15_3 hp9
  obtain ⟨⟨hT_3, hG_3⟩, z15_3, hr9, hz_3⟩ := hp9
  rw [hr9]
  have hF_3 : FRM [] [] h g15_3 := FRM_tr hF_2 hG_3 (by decide) (by decide)
  show TT K ly 0 0 18 [(4, vI z8_2), (3, vI z2_1), (0, vR 73), (1, vI x), (2, vI y)] [vI z15_3] g15_3
  refine TT_istore hK (lv' := [(5, vI z15_3), (4, vI z8_2), (3, vI z2_1), (0, vR 73), (1, vI x), (2, vI y)]) (by decide) rfl dX12_context_18 ?_
  refine TT_aload_n hK rfl 3 rfl dX12_context_20 ?_
  refine TT_iload_n hK rfl 2 rfl dX12_context_21 ?_
  refine iv_X12_243 hK (s_X12_acrossOf_73 z2_1 g15_3 hT_3 (by first | omega | (simp [up, setR] <;> omega))) (by decide) rfl ⟨by decide, by decide⟩ (by decide) rfl rfl (Nat.le_of_ble_eq_true rfl) ⟨by decide, by decide⟩ dX12_context_22 ?_
  intro r9 g22_4 hp9
  obtain ⟨⟨hT_4, hG_4⟩, z22_4, hr9, hz_4⟩ := hp9
  rw [hr9]
  have hF_4 : FRM [] [] h g22_4 := FRM_tr hF_3 hG_4 (by decide) (by decide)
  show TT K ly 0 0 25 [(5, vI z15_3), (4, vI z8_2), (3, vI z2_1), (0, vR 73), (1, vI x), (2, vI y)] [vI z22_4] g22_4
  refine TT_istore hK (lv' := [(6, vI z22_4), (5, vI z15_3), (4, vI z8_2), (3, vI z2_1), (0, vR 73), (1, vI x), (2, vI y)]) (by decide) rfl dX12_context_25 ?_
  refine TT_aload_n hK rfl 4 rfl dX12_context_27 ?_
  refine gf_X12_41 hK (by decide) rfl (q := 82) rfl rfl dX12_context_28 ?_
  refine TT_aload_n hK rfl 4 rfl dX12_context_31 ?_
  refine gf_X12_246 hK (by decide) rfl (v := (h 73) 26) ((congrFun (hG_4.1 73 (by decide)) 26).trans ((congrFun (hG_3.1 73 (by decide)) 26).trans ((congrFun (hG_2.1 73 (by decide)) 26).trans (congrFun (hG_1.1 73 (by decide)) 26)))) dX12_context_32 ?_
  have r5 := ty_73_26 (v := (h 73) 26) hT_4 ((congrFun (hG_4.1 73 (by decide)) 26).trans ((congrFun (hG_3.1 73 (by decide)) 26).trans ((congrFun (hG_2.1 73 (by decide)) 26).trans (congrFun (hG_1.1 73 (by decide)) 26))))
  refine TT_iald hK (o := 82) (n := 20) (by decide) rfl (by first | omega | (simp [up, setR] <;> omega)) (by first | omega | (simp [up, setR] <;> omega)) (v := (h 82) ((h 73) 26)) (rd_ (((hG_4.1 82 (by decide))).trans (((hG_3.1 82 (by decide))).trans (((hG_2.1 82 (by decide))).trans (hG_1.1 82 (by decide))))) rfl) dX12_context_35 ?_
  have r6 := ty_82 (i := (h 73) 26) (v := (h 82) ((h 73) 26)) hT_4 (rd_ (((hG_4.1 82 (by decide))).trans (((hG_3.1 82 (by decide))).trans (((hG_2.1 82 (by decide))).trans (hG_1.1 82 (by decide))))) rfl) (by omega) (by omega)
  refine TT_iconst hK dX12_context_36 ?_
  refine TT_icmp_ne hK (tgt := 100) (irm (by omega) (by omega)) (by decide) dX12_context_37 (by decide) (fun hb37_7 => ?_) (fun hb37_7 => ?_)
  · refine TT_aload_n hK rfl 4 rfl dX12_context_100 ?_
    refine gf_X12_41 hK (by decide) rfl (q := 82) rfl rfl dX12_context_101 ?_
    refine TT_aload_n hK rfl 4 rfl dX12_context_104 ?_
    refine gf_X12_246 hK (by decide) rfl (v := (h 73) 26) ((congrFun (hG_4.1 73 (by decide)) 26).trans ((congrFun (hG_3.1 73 (by decide)) 26).trans ((congrFun (hG_2.1 73 (by decide)) 26).trans (congrFun (hG_1.1 73 (by decide)) 26)))) dX12_context_105 ?_
    refine TT_iald hK (o := 82) (n := 20) (by decide) rfl (by first | omega | (simp [up, setR] <;> omega)) (by first | omega | (simp [up, setR] <;> omega)) (v := (h 82) ((h 73) 26)) (rd_ (((hG_4.1 82 (by decide))).trans (((hG_3.1 82 (by decide))).trans (((hG_2.1 82 (by decide))).trans (hG_1.1 82 (by decide))))) rfl) dX12_context_108 ?_
    refine TT_iconst hK dX12_context_109 ?_
    refine TT_icmp_ne hK (tgt := 125) (irm (by omega) (by omega)) (by decide) dX12_context_110 (by decide) (fun hb110_8 => ?_) (fun hb110_8 => ?_)
    · refine TT_iload hK 2 rfl dX12_context_125 ?_
      refine TT_iconst hK dX12_context_127 ?_
      refine TT_icmp_ne hK (tgt := 136) (irm (by omega) (by omega)) (by decide) dX12_context_128 (by decide) (fun hb128_9 => ?_) (fun hb128_9 => ?_)
      · refine TT_iload hK 2 rfl dX12_context_136 ?_
        refine TT_iconst hK dX12_context_138 ?_
        refine TT_icmp_ne hK (tgt := 166) (irm (by omega) (by omega)) (by decide) dX12_context_139 (by decide) (fun hb139_10 => ?_) (fun hb139_10 => ?_)
        · refine TT_iload hK 1 rfl dX12_context_166 ?_
          refine TT_iconst hK dX12_context_168 ?_
          refine TT_icmp_ne hK (tgt := 176) (irm (by omega) (by omega)) (by decide) dX12_context_169 (by decide) (fun hb169_11 => ?_) (fun hb169_11 => ?_)
          · refine TT_iload hK 1 rfl dX12_context_176 ?_
            refine TT_iconst hK dX12_context_178 ?_
            refine TT_icmp_ne hK (tgt := 186) (irm (by omega) (by omega)) (by decide) dX12_context_179 (by decide) (fun hb179_12 => ?_) (fun hb179_12 => ?_)
            · refine TT_iload hK 0 rfl dX12_context_186 ?_
              refine TT_iconst hK dX12_context_188 ?_
              refine TT_icmp_le hK (tgt := 196) (irm (by omega) (by omega)) (by decide) dX12_context_189 (by decide) (fun hb189_13 => ?_) (fun hb189_13 => ?_)
              · refine TT_iload hK 0 rfl dX12_context_196 ?_
                refine TT_iret hK hQ ?_ dX12_context_198
                exact ⟨⟨hT_4, hF_4⟩, z22_4, rfl, (by omega)⟩
              · refine TT_iconst hK dX12_context_192 ?_
                refine TT_goto hK (tgt := 198) dX12_context_193 (by decide) ?_
                refine TT_iret hK hQ ?_ dX12_context_198
                exact ⟨⟨hT_4, hF_4⟩, 2, rfl, (by omega)⟩
            · refine TT_iconst hK dX12_context_182 ?_
              refine TT_goto hK (tgt := 198) dX12_context_183 (by decide) ?_
              refine TT_iret hK hQ ?_ dX12_context_198
              exact ⟨⟨hT_4, hF_4⟩, 3, rfl, (by omega)⟩
          · refine TT_iconst hK dX12_context_172 ?_
            refine TT_goto hK (tgt := 198) dX12_context_173 (by decide) ?_
            refine TT_iret hK hQ ?_ dX12_context_198
            exact ⟨⟨hT_4, hF_4⟩, 4, rfl, (by omega)⟩
        · refine TT_iload hK 1 rfl dX12_context_142 ?_
          refine TT_if_le hK (tgt := 152) (irm (by omega) (by omega)) dX12_context_144 (by decide) (fun hb144_14 => ?_) (fun hb144_14 => ?_)
          · refine TT_iload hK 0 rfl dX12_context_152 ?_
            refine TT_if_le hK (tgt := 162) (irm (by omega) (by omega)) dX12_context_154 (by decide) (fun hb154_15 => ?_) (fun hb154_15 => ?_)
            · refine TT_iconst hK dX12_context_162 ?_
              refine TT_goto hK (tgt := 198) dX12_context_163 (by decide) ?_
              refine TT_iret hK hQ ?_ dX12_context_198
              exact ⟨⟨hT_4, hF_4⟩, 5, rfl, (by omega)⟩
            · refine TT_bipush hK (by decide) dX12_context_157 ?_
              refine TT_goto hK (tgt := 198) dX12_context_159 (by decide) ?_
              refine TT_iret hK hQ ?_ dX12_context_198
              exact ⟨⟨hT_4, hF_4⟩, 6, rfl, (by omega)⟩
          · refine TT_bipush hK (by decide) dX12_context_147 ?_
            refine TT_goto hK (tgt := 198) dX12_context_149 (by decide) ?_
            refine TT_iret hK hQ ?_ dX12_context_198
            exact ⟨⟨hT_4, hF_4⟩, 7, rfl, (by omega)⟩
      · refine TT_bipush hK (by decide) dX12_context_131 ?_
        refine TT_goto hK (tgt := 198) dX12_context_133 (by decide) ?_
        refine TT_iret hK hQ ?_ dX12_context_198
        exact ⟨⟨hT_4, hF_4⟩, 8, rfl, (by omega)⟩
    · refine TT_iload hK 2 rfl dX12_context_113 ?_
      refine TT_istore hK (lv' := [(7, vI z8_2), (6, vI z22_4), (5, vI z15_3), (4, vI z8_2), (3, vI z2_1), (0, vR 73), (1, vI x), (2, vI y)]) (by decide) rfl dX12_context_115 ?_
      refine TT_iload hK 2 rfl dX12_context_117 ?_
      refine TT_istore hK (lv' := [(4, vI z15_3), (7, vI z8_2), (6, vI z22_4), (5, vI z15_3), (3, vI z2_1), (0, vR 73), (1, vI x), (2, vI y)]) (by decide) rfl dX12_context_119 ?_
      refine TT_iload hK 1 rfl dX12_context_121 ?_
      refine TT_istore hK (lv' := [(5, vI z8_2), (4, vI z15_3), (7, vI z8_2), (6, vI z22_4), (3, vI z2_1), (0, vR 73), (1, vI x), (2, vI y)]) (by decide) rfl dX12_context_123 ?_
      refine TT_iload hK 1 rfl dX12_context_125 ?_
      refine TT_iconst hK dX12_context_127 ?_
      refine TT_icmp_ne hK (tgt := 136) (irm (by omega) (by omega)) (by decide) dX12_context_128 (by decide) (fun hb128_16 => ?_) (fun hb128_16 => ?_)
      · refine TT_iload hK 1 rfl dX12_context_136 ?_
        refine TT_iconst hK dX12_context_138 ?_
        refine TT_icmp_ne hK (tgt := 166) (irm (by omega) (by omega)) (by decide) dX12_context_139 (by decide) (fun hb139_17 => ?_) (fun hb139_17 => ?_)
        · refine TT_iload hK 0 rfl dX12_context_166 ?_
          refine TT_iconst hK dX12_context_168 ?_
          refine TT_icmp_ne hK (tgt := 176) (irm (by omega) (by omega)) (by decide) dX12_context_169 (by decide) (fun hb169_18 => ?_) (fun hb169_18 => ?_)
          · refine TT_iload hK 0 rfl dX12_context_176 ?_
            refine TT_iconst hK dX12_context_178 ?_
            refine TT_icmp_ne hK (tgt := 186) (irm (by omega) (by omega)) (by decide) dX12_context_179 (by decide) (fun hb179_19 => ?_) (fun hb179_19 => ?_)
            · refine TT_iload hK 3 rfl dX12_context_186 ?_
              refine TT_iconst hK dX12_context_188 ?_
              refine TT_icmp_le hK (tgt := 196) (irm (by omega) (by omega)) (by decide) dX12_context_189 (by decide) (fun hb189_20 => ?_) (fun hb189_20 => ?_)
              · refine TT_iload hK 3 rfl dX12_context_196 ?_
                refine TT_iret hK hQ ?_ dX12_context_198
                exact ⟨⟨hT_4, hF_4⟩, z22_4, rfl, (by omega)⟩
              · refine TT_iconst hK dX12_context_192 ?_
                refine TT_goto hK (tgt := 198) dX12_context_193 (by decide) ?_
                refine TT_iret hK hQ ?_ dX12_context_198
                exact ⟨⟨hT_4, hF_4⟩, 2, rfl, (by omega)⟩
            · refine TT_iconst hK dX12_context_182 ?_
              refine TT_goto hK (tgt := 198) dX12_context_183 (by decide) ?_
              refine TT_iret hK hQ ?_ dX12_context_198
              exact ⟨⟨hT_4, hF_4⟩, 3, rfl, (by omega)⟩
          · refine TT_iconst hK dX12_context_172 ?_
            refine TT_goto hK (tgt := 198) dX12_context_173 (by decide) ?_
            refine TT_iret hK hQ ?_ dX12_context_198
            exact ⟨⟨hT_4, hF_4⟩, 4, rfl, (by omega)⟩
        · refine TT_iload hK 0 rfl dX12_context_142 ?_
          refine TT_if_le hK (tgt := 152) (irm (by omega) (by omega)) dX12_context_144 (by decide) (fun hb144_21 => ?_) (fun hb144_21 => ?_)
          · refine TT_iload hK 3 rfl dX12_context_152 ?_
            refine TT_if_le hK (tgt := 162) (irm (by omega) (by omega)) dX12_context_154 (by decide) (fun hb154_22 => ?_) (fun hb154_22 => ?_)
            · refine TT_iconst hK dX12_context_162 ?_
              refine TT_goto hK (tgt := 198) dX12_context_163 (by decide) ?_
              refine TT_iret hK hQ ?_ dX12_context_198
              exact ⟨⟨hT_4, hF_4⟩, 5, rfl, (by omega)⟩
            · refine TT_bipush hK (by decide) dX12_context_157 ?_
              refine TT_goto hK (tgt := 198) dX12_context_159 (by decide) ?_
              refine TT_iret hK hQ ?_ dX12_context_198
              exact ⟨⟨hT_4, hF_4⟩, 6, rfl, (by omega)⟩
          · refine TT_bipush hK (by decide) dX12_context_147 ?_
            refine TT_goto hK (tgt := 198) dX12_context_149 (by decide) ?_
            refine TT_iret hK hQ ?_ dX12_context_198
            exact ⟨⟨hT_4, hF_4⟩, 7, rfl, (by omega)⟩
      · refine TT_bipush hK (by decide) dX12_context_131 ?_
        refine TT_goto hK (tgt := 198) dX12_context_133 (by decide) ?_
        refine TT_iret hK hQ ?_ dX12_context_198
        exact ⟨⟨hT_4, hF_4⟩, 8, rfl, (by omega)⟩
  · refine TT_iload hK 2 rfl dX12_context_40 ?_
    refine TT_iload hK 1 rfl dX12_context_42 ?_
    refine TT_iadd hK dX12_context_44 ?_
    refine TT_iconst hK dX12_context_45 ?_
    refine TT_icmp_le hK (tgt := 53) (irm (by omega) (by omega)) (by decide) dX12_context_46 (by decide) (fun hb46_23 => ?_) (fun hb46_23 => ?_)
    · refine TT_iload hK 2 rfl dX12_context_53 ?_
      refine TT_iload hK 1 rfl dX12_context_55 ?_
      refine TT_iadd hK dX12_context_57 ?_
      refine TT_istore hK (lv' := [(7, vI (z8_2 + z15_3)), (6, vI z22_4), (5, vI z15_3), (4, vI z8_2), (3, vI z2_1), (0, vR 73), (1, vI x), (2, vI y)]) (by decide) rfl dX12_context_58 ?_
      refine TT_iload hK 1 rfl dX12_context_60 ?_
      refine TT_iconst hK dX12_context_62 ?_
      refine TT_icmp_le hK (tgt := 71) (irm (by omega) (by omega)) (by decide) dX12_context_63 (by decide) (fun hb63_24 => ?_) (fun hb63_24 => ?_)
      · refine TT_iload hK 1 rfl dX12_context_71 ?_
        refine TT_iconst hK dX12_context_73 ?_
        refine TT_icmp_ne hK (tgt := 92) (irm (by omega) (by omega)) (by decide) dX12_context_74 (by decide) (fun hb74_25 => ?_) (fun hb74_25 => ?_)
        · refine TT_iconst hK dX12_context_92 ?_
          refine TT_iload hK 1 rfl dX12_context_93 ?_
          refine TT_imul hK dX12_context_95 ?_
          refine TT_iload hK 0 rfl dX12_context_96 ?_
          refine TT_iadd hK dX12_context_98 ?_
          refine TT_iret hK hQ ?_ dX12_context_99
          exact ⟨⟨hT_4, hF_4⟩, ((3 * z22_4) + (z8_2 + z15_3)), rfl, (by omega)⟩
        · refine TT_iload hK 0 rfl dX12_context_77 ?_
          refine TT_if_le hK (tgt := 87) (irm (by omega) (by omega)) dX12_context_79 (by decide) (fun hb79_26 => ?_) (fun hb79_26 => ?_)
          · refine TT_bipush hK (by decide) dX12_context_87 ?_
            refine TT_goto hK (tgt := 99) dX12_context_89 (by decide) ?_
            refine TT_iret hK hQ ?_ dX12_context_99
            exact ⟨⟨hT_4, hF_4⟩, 6, rfl, (by omega)⟩
          · refine TT_bipush hK (by decide) dX12_context_82 ?_
            refine TT_goto hK (tgt := 99) dX12_context_84 (by decide) ?_
            refine TT_iret hK hQ ?_ dX12_context_99
            exact ⟨⟨hT_4, hF_4⟩, 7, rfl, (by omega)⟩
      · refine TT_bipush hK (by decide) dX12_context_66 ?_
        refine TT_goto hK (tgt := 99) dX12_context_68 (by decide) ?_
        refine TT_iret hK hQ ?_ dX12_context_99
        exact ⟨⟨hT_4, hF_4⟩, 8, rfl, (by omega)⟩
    · refine TT_iconst hK dX12_context_49 ?_
      refine TT_goto hK (tgt := 58) dX12_context_50 (by decide) ?_
      refine TT_istore hK (lv' := [(7, vI 2), (6, vI z22_4), (5, vI z15_3), (4, vI z8_2), (3, vI z2_1), (0, vR 73), (1, vI x), (2, vI y)]) (by decide) rfl dX12_context_58 ?_
      refine TT_iload hK 1 rfl dX12_context_60 ?_
      refine TT_iconst hK dX12_context_62 ?_
      refine TT_icmp_le hK (tgt := 71) (irm (by omega) (by omega)) (by decide) dX12_context_63 (by decide) (fun hb63_27 => ?_) (fun hb63_27 => ?_)
      · refine TT_iload hK 1 rfl dX12_context_71 ?_
        refine TT_iconst hK dX12_context_73 ?_
        refine TT_icmp_ne hK (tgt := 92) (irm (by omega) (by omega)) (by decide) dX12_context_74 (by decide) (fun hb74_28 => ?_) (fun hb74_28 => ?_)
        · refine TT_iconst hK dX12_context_92 ?_
          refine TT_iload hK 1 rfl dX12_context_93 ?_
          refine TT_imul hK dX12_context_95 ?_
          refine TT_iload hK 0 rfl dX12_context_96 ?_
          refine TT_iadd hK dX12_context_98 ?_
          refine TT_iret hK hQ ?_ dX12_context_99
          exact ⟨⟨hT_4, hF_4⟩, ((3 * z22_4) + 2), rfl, (by omega)⟩
        · refine TT_iload hK 0 rfl dX12_context_77 ?_
          refine TT_if_le hK (tgt := 87) (by decide) dX12_context_79 (by decide) (fun hb79_29 => ?_) (fun hb79_29 => ?_)
          · exact absurd hb79_29 (by decide)
          · refine TT_bipush hK (by decide) dX12_context_82 ?_
            refine TT_goto hK (tgt := 99) dX12_context_84 (by decide) ?_
            refine TT_iret hK hQ ?_ dX12_context_99
            exact ⟨⟨hT_4, hF_4⟩, 7, rfl, (by omega)⟩
      · refine TT_bipush hK (by decide) dX12_context_66 ?_
        refine TT_goto hK (tgt := 99) dX12_context_68 (by decide) ?_
        refine TT_iret hK hQ ?_ dX12_context_99
        exact ⟨⟨hT_4, hF_4⟩, 8, rfl, (by omega)⟩
set_option maxRecDepth 20000 in
theorem s_X12_unit (v : Int) (h : Hp_) (hT : TY h) (hv : -2147483648 ≤ v ∧ v ≤ 2147483647) : Ctr yX12_unit cX12_unit 1 (some .int) (rmd 0) ly ly 0 0 [vI v] h (fun r h' => (TY h' ∧ FRM [] [] h h') ∧ ∃ z : Int, r = some (vI z) ∧ (-1 ≤ z ∧ z ≤ 1)) := by
  refine Ctr_of (by decide) (Nat.le_of_ble_eq_true rfl) ⟨Nat.le_refl _, Nat.le_refl _⟩ (fun K hK hQ _ => ?_)
  show TT K ly 0 0 0 [(0, vI v)] [] h
  have hF : FRM [] [] h h := FRM_rf _ _ _
  refine TT_iload_n hK rfl 0 rfl dX12_unit_0 ?_
  refine TT_if_le hK (tgt := 8) (irm (by omega) (by omega)) dX12_unit_1 (by decide) (fun hb1_1 => ?_) (fun hb1_1 => ?_)
  · refine TT_iload_n hK rfl 0 rfl dX12_unit_8 ?_
    refine TT_if_ge hK (tgt := 16) (irm (by omega) (by omega)) dX12_unit_9 (by decide) (fun hb9_2 => ?_) (fun hb9_2 => ?_)
    · refine TT_iconst hK dX12_unit_16 ?_
      refine TT_iret hK hQ ?_ dX12_unit_17
      exact ⟨⟨hT, hF⟩, 0, rfl, (by omega)⟩
    · refine TT_iconst hK dX12_unit_12 ?_
      refine TT_goto hK (tgt := 17) dX12_unit_13 (by decide) ?_
      refine TT_iret hK hQ ?_ dX12_unit_17
      exact ⟨⟨hT, hF⟩, (-1), rfl, (by omega)⟩
  · refine TT_iconst hK dX12_unit_4 ?_
    refine TT_goto hK (tgt := 17) dX12_unit_5 (by decide) ?_
    refine TT_iret hK hQ ?_ dX12_unit_17
    exact ⟨⟨hT, hF⟩, 1, rfl, (by omega)⟩
set_option maxRecDepth 20000 in
theorem s_X12_cell_73 (x y : Int) (h : Hp_) (hT : TY h) (hx : 0 ≤ x ∧ x ≤ 7) (hy : 0 ≤ y ∧ y ≤ 7) : Ctr yX12_cell cX12_cell 3 (some .int) (rmd 0) ly ly 0 0 [vR 73, vI x, vI y] h (fun r h' => (TY h' ∧ FRM [] [] h h') ∧ ∃ z : Int, r = some (vI z) ∧ (0 ≤ z ∧ z ≤ 1279) ∧ (z = 64 * (h 73 26) + 8 * y + x)) := by
  refine Ctr_of (by decide) (Nat.le_of_ble_eq_true rfl) ⟨Nat.le_refl _, Nat.le_refl _⟩ (fun K hK hQ _ => ?_)
  show TT K ly 0 0 0 [(0, vR 73), (1, vI x), (2, vI y)] [] h
  have hF : FRM [] [] h h := FRM_rf _ _ _
  refine TT_bipush hK (by decide) dX12_cell_0 ?_
  refine TT_aload_n hK rfl 0 rfl dX12_cell_2 ?_
  refine gf_X12_246 hK (by decide) rfl (v := (h 73) 26) rfl dX12_cell_3 ?_
  have r1 := ty_73_26 (v := (h 73) 26) hT rfl
  refine TT_imul hK dX12_cell_6 ?_
  refine TT_bipush hK (by decide) dX12_cell_7 ?_
  refine TT_iload_n hK rfl 2 rfl dX12_cell_9 ?_
  refine TT_imul hK dX12_cell_10 ?_
  refine TT_iadd hK dX12_cell_11 ?_
  refine TT_iload_n hK rfl 1 rfl dX12_cell_12 ?_
  refine TT_iadd hK dX12_cell_13 ?_
  refine TT_iret hK hQ ?_ dX12_cell_14
  exact ⟨⟨hT, hF⟩, (((64 * ((h 73) 26)) + (8 * y)) + x), rfl, (by omega), (by omega)⟩
set_option maxRecDepth 20000 in
theorem s_X12_bitAt_73 (x y : Int) (h : Hp_) (hT : TY h) (hx : 0 ≤ x ∧ x ≤ 7) (hy : 0 ≤ y ∧ y ≤ 7) : Ctr yX12_bitAt cX12_bitAt 3 (some .int) (rmd 1) ly ly 0 0 [vR 73, vI x, vI y] h (fun r h' => (TY h' ∧ FRM [] [] h h') ∧ ∃ z : Int, r = some (vI z) ∧ (0 ≤ z ∧ z ≤ 1)) := by
  refine Ctr_of (by decide) (Nat.le_of_ble_eq_true rfl) ⟨Nat.le_refl _, Nat.le_refl _⟩ (fun K hK hQ _ => ?_)
  show TT K ly 0 0 0 [(0, vR 73), (1, vI x), (2, vI y)] [] h
  have hF : FRM [] [] h h := FRM_rf _ _ _
  refine TT_aload_n hK rfl 0 rfl dX12_bitAt_0 ?_
  refine gf_X12_47 hK (by decide) rfl (q := 84) rfl rfl dX12_bitAt_1 ?_
  refine TT_aload_n hK rfl 0 rfl dX12_bitAt_4 ?_
  refine TT_iload_n hK rfl 1 rfl dX12_bitAt_5 ?_
  refine TT_iload_n hK rfl 2 rfl dX12_bitAt_6 ?_
  refine iv_X12_249 hK (s_X12_cell_73 x y h hT (by first | omega | (simp [up, setR] <;> omega)) (by first | omega | (simp [up, setR] <;> omega))) (by decide) rfl ⟨by decide, by decide⟩ (by decide) rfl rfl (Nat.le_of_ble_eq_true rfl) ⟨by decide, by decide⟩ dX12_bitAt_7 ?_
  intro r9 g7_1 hp9
  obtain ⟨⟨hT_1, hG_1⟩, z7_1, hr9, hz_1, p1_1⟩ := hp9
  rw [hr9]
  have hF_1 : FRM [] [] h g7_1 := FRM_tr hF hG_1 (by decide) (by decide)
  rw [show h 73 26 = (h 73) 26 from rfl] at p1_1
  show TT K ly 0 0 10 [(0, vR 73), (1, vI x), (2, vI y)] [vI z7_1, vR 84] g7_1
  refine TT_iald hK (o := 84) (n := 1280) (by decide) rfl (by first | omega | (simp [up, setR] <;> omega)) (by first | omega | (simp [up, setR] <;> omega)) (v := (h 84) z7_1) (rd_ (hG_1.1 84 (by decide)) rfl) dX12_bitAt_10 ?_
  have r2 := ty_84 (i := z7_1) (v := (h 84) z7_1) hT_1 (rd_ (hG_1.1 84 (by decide)) rfl) (by omega) (by omega)
  refine TT_aload_n hK rfl 0 rfl dX12_bitAt_11 ?_
  refine gf_X12_252 hK (by decide) rfl (v := (h 73) 27) (congrFun (hG_1.1 73 (by decide)) 27) dX12_bitAt_12 ?_
  have r3 := ty_73_27 (v := (h 73) 27) hT_1 (congrFun (hG_1.1 73 (by decide)) 27)
  refine TT_ishr_a hK dX12_bitAt_15 (fun x15_4 hx4 => ?_)
  refine TT_iconst hK dX12_bitAt_16 ?_
  refine TT_iand hK dX12_bitAt_17 ?_
  refine TT_cgI (iand_m x15_4 1 (by decide)) ?_
  show TT K ly 0 0 18 [(0, vR 73), (1, vI x), (2, vI y)] (vI (x15_4 % 2) :: []) g7_1
  refine TT_iret hK hQ ?_ dX12_bitAt_18
  exact ⟨⟨hT_1, hF_1⟩, (x15_4 % 2), rfl, (by omega)⟩
set_option maxRecDepth 20000 in
theorem s_X12_isUntouched_73 (x y : Int) (h : Hp_) (hT : TY h) (hx : 0 ≤ x ∧ x ≤ 7) (hy : 0 ≤ y ∧ y ≤ 7) : Ctr yX12_isUntouched cX12_isUntouched 3 (some .boolean) (rmd 1) ly ly 0 0 [vR 73, vI x, vI y] h (fun r h' => (TY h' ∧ FRM [] [] h h') ∧ ∃ z : Int, r = some (vI z) ∧ (0 ≤ z ∧ z ≤ 1) ∧ (z = 1 → (h 93) (10 * y + x + 11) = 0)) := by
  refine Ctr_of (by decide) (Nat.le_of_ble_eq_true rfl) ⟨Nat.le_refl _, Nat.le_refl _⟩ (fun K hK hQ _ => ?_)
  show TT K ly 0 0 0 [(0, vR 73), (1, vI x), (2, vI y)] [] h
  have hF : FRM [] [] h h := FRM_rf _ _ _
  refine TT_aload_n hK rfl 0 rfl dX12_isUntouched_0 ?_
  refine TT_iload_n hK rfl 1 rfl dX12_isUntouched_1 ?_
  refine TT_iload_n hK rfl 2 rfl dX12_isUntouched_2 ?_
  refine iv_X12_234 hK (s_X12_spot x y h hT (by first | omega | (simp [up, setR] <;> omega)) (by first | omega | (simp [up, setR] <;> omega))) ⟨by decide, by decide⟩ (by decide) rfl rfl (Nat.le_of_ble_eq_true rfl) ⟨by decide, by decide⟩ dX12_isUntouched_3 ?_
  intro r9 g3_1 hp9
  obtain ⟨⟨hT_1, hG_1⟩, z3_1, hr9, hz_1, p1_1⟩ := hp9
  rw [hr9]
  have hF_1 : FRM [] [] h g3_1 := FRM_tr hF hG_1 (by decide) (by decide)
  show TT K ly 0 0 6 [(0, vR 73), (1, vI x), (2, vI y)] [vI z3_1, vR 73] g3_1
  refine TT_cgI (b := 10 * y + x + 11) (by omega) ?_
  refine iv_X12_231 hK (s_X12_here_73 (10 * y + x + 11) g3_1 hT_1 (by first | omega | (simp [up, setR] <;> omega))) (by decide) rfl ⟨by decide, by decide⟩ (by decide) rfl rfl (Nat.le_of_ble_eq_true rfl) ⟨by decide, by decide⟩ dX12_isUntouched_6 ?_
  intro r9 g6_2 hp9
  obtain ⟨⟨hT_2, hG_2⟩, z6_2, hr9, hz_2, p1_2⟩ := hp9
  rw [hr9]
  have hF_2 : FRM [] [] h g6_2 := FRM_tr hF_1 hG_2 (by decide) (by decide)
  rw [show g3_1 93 = h 93 from (hG_1.1 93 (by decide))] at p1_2
  show TT K ly 0 0 9 [(0, vR 73), (1, vI x), (2, vI y)] [vI z6_2] g6_2
  refine TT_if_ne hK (tgt := 30) (irm (by omega) (by omega)) dX12_isUntouched_9 (by decide) (fun hb9_3 => ?_) (fun hb9_3 => ?_)
  · refine TT_iconst hK dX12_isUntouched_30 ?_
    refine TT_zret hK hQ (by decide) ?_ dX12_isUntouched_31
    exact ⟨⟨hT_2, hF_2⟩, 0, rfl, (by omega), (by omega)⟩
  · refine TT_aload_n hK rfl 0 rfl dX12_isUntouched_12 ?_
    refine gf_X12_78 hK (by decide) rfl (q := 94) rfl rfl dX12_isUntouched_13 ?_
    refine TT_bipush hK (by decide) dX12_isUntouched_16 ?_
    refine TT_iload_n hK rfl 2 rfl dX12_isUntouched_18 ?_
    refine TT_imul hK dX12_isUntouched_19 ?_
    refine TT_iload_n hK rfl 1 rfl dX12_isUntouched_20 ?_
    refine TT_iadd hK dX12_isUntouched_21 ?_
    refine TT_zald hK (o := 94) (n := 64) (by decide) rfl (by first | omega | (simp [up, setR] <;> omega)) (by first | omega | (simp [up, setR] <;> omega)) (v := (h 94) ((8 * y) + x)) (rd_ (((hG_2.1 94 (by decide))).trans (hG_1.1 94 (by decide))) rfl) dX12_isUntouched_22 ?_
    have r4 := ty_94 (i := (8 * y) + x) (v := (h 94) ((8 * y) + x)) hT_2 (rd_ (((hG_2.1 94 (by decide))).trans (hG_1.1 94 (by decide))) rfl) (by omega) (by omega)
    refine TT_if_ne hK (tgt := 30) (irm (by omega) (by omega)) dX12_isUntouched_23 (by decide) (fun hb23_5 => ?_) (fun hb23_5 => ?_)
    · refine TT_iconst hK dX12_isUntouched_30 ?_
      refine TT_zret hK hQ (by decide) ?_ dX12_isUntouched_31
      exact ⟨⟨hT_2, hF_2⟩, 0, rfl, (by omega), (by omega)⟩
    · refine TT_iconst hK dX12_isUntouched_26 ?_
      refine TT_goto hK (tgt := 31) dX12_isUntouched_27 (by decide) ?_
      refine TT_zret hK hQ (by decide) ?_ dX12_isUntouched_31
      exact ⟨⟨hT_2, hF_2⟩, 1, rfl, (by omega), (by omega)⟩
set_option maxRecDepth 20000 in
theorem s_X12_log (n : Int) (h : Hp_) (hT : TY h) (hn : 0 ≤ n ∧ n ≤ 64) : Ctr yX12_log cX12_log 2 (some .int) (rmd 0) ly ly 0 0 [vI n] h (fun r h' => (TY h' ∧ FRM [] [] h h') ∧ ∃ z : Int, r = some (vI z) ∧ (0 ≤ z ∧ z ≤ 6)) := by
  refine Ctr_of (by decide) (Nat.le_of_ble_eq_true rfl) ⟨Nat.le_refl _, Nat.le_refl _⟩ (fun K hK hQ _ => ?_)
  show TT K ly 0 0 0 [(0, vI n)] [] h
  have hF : FRM [] [] h h := FRM_rf _ _ _
  refine TT_iconst hK dX12_log_0 ?_
  refine TT_istore_n hK rfl (lv' := [(1, vI 0), (0, vI n)]) (by decide) rfl dX12_log_1 ?_
  have L2_1 : ∀ (k1 : Nat) (l : Int) (w2_1 : Hp_), TY w2_1 → FRM [] [] h w2_1 → (0 ≤ l ∧ l ≤ 6) → ((6 : Int) - l).toNat < k1 → TT K ly 0 0 2 [(0, vI n), (1, vI l)] [] w2_1 := by
    intro k1
    induction k1 with
    | zero => intro l w2_1 hT2_1 hF2_1 hl hk1; exact absurd hk1 (Nat.not_lt_zero _)
    | succ k1 ih1 =>
      intro l w2_1 hT2_1 hF2_1 hl hk1
      refine TT_iload_n hK rfl 0 rfl dX12_log_2 ?_
      refine TT_iconst hK dX12_log_3 ?_
      refine TT_iload_n hK rfl 1 rfl dX12_log_4 ?_
      refine TT_iconst hK dX12_log_5 ?_
      refine TT_iadd hK dX12_log_6 ?_
      refine TT_ishl hK (by omega) (by omega) dX12_log_7 ?_
      refine TT_nmI (fun q9 hq9 => ?_)
      refine TT_icmp_gt hK (tgt := 20) (irm (by have k9 := lgP hl hq9; omega) (by have k9 := lgP hl hq9; omega)) (irm (by have k9 := lgP hl hq9; omega) (by have k9 := lgP hl hq9; omega)) dX12_log_8 (by decide) (fun hb8_2 => ?_) (fun hb8_2 => ?_)
      · have k9 := lgP hl hq9
        refine TT_iinc hK (v := l + 1) (lv' := [(1, vI (l + 1)), (0, vI n)]) 1 rfl rfl (by decide) rfl dX12_log_20 ?_
        refine TT_goto hK (tgt := 2) dX12_log_23 (by decide) ?_
        refine TT_sub [1, 0] rfl ?_
        exact ih1 (l + 1) w2_1 hT2_1 hF2_1 (by first | omega | (simp [up, setR] <;> omega)) (by first | omega | (simp [up, setR] <;> omega))
      · refine TT_iload_n hK rfl 0 rfl dX12_log_11 ?_
        refine TT_iconst hK dX12_log_12 ?_
        refine TT_iload_n hK rfl 1 rfl dX12_log_13 ?_
        refine TT_iconst hK dX12_log_14 ?_
        refine TT_iadd hK dX12_log_15 ?_
        refine TT_ishl hK (by omega) (by omega) dX12_log_16 ?_
        refine TT_nmI (fun q8 hq8 => ?_)
        refine TT_icmp_ne hK (tgt := 26) (irm (by have k9 := lgP hl hq8; omega) (by have k9 := lgP hl hq8; omega)) (irm (by have k9 := lgP hl hq8; omega) (by have k9 := lgP hl hq8; omega)) dX12_log_17 (by decide) (fun hb17_3 => ?_) (fun hb17_3 => ?_)
        · refine TT_iload_n hK rfl 1 rfl dX12_log_26 ?_
          refine TT_iret hK hQ ?_ dX12_log_27
          exact ⟨⟨hT2_1, hF2_1⟩, l, rfl, (by omega)⟩
        · have k9 := lgP hl hq8
          refine TT_iinc hK (v := l + 1) (lv' := [(1, vI (l + 1)), (0, vI n)]) 1 rfl rfl (by decide) rfl dX12_log_20 ?_
          refine TT_goto hK (tgt := 2) dX12_log_23 (by decide) ?_
          refine TT_sub [1, 0] rfl ?_
          exact ih1 (l + 1) w2_1 hT2_1 hF2_1 (by first | omega | (simp [up, setR] <;> omega)) (by first | omega | (simp [up, setR] <;> omega))
  refine TT_sub [1, 0] rfl ?_
  exact L2_1 ((((6 : Int) - 0).toNat) + 1) 0 h hT hF (by first | omega | (simp [up, setR] <;> omega)) (Nat.lt_succ_self _)
set_option maxRecDepth 20000 in
theorem s_X12_refuse_73 (v : Int) (h : Hp_) (hT : TY h) (hv : 0 ≤ v ∧ v ≤ 1) : Ctr yX12_refuse cX12_refuse 2 (some .int) (rmd 0) ly ly 0 0 [vR 73, vI v] h (fun r h' => (TY h' ∧ FRM [73] [2] h h') ∧ ∃ z : Int, r = some (vI z) ∧ (0 ≤ z ∧ z ≤ 0)) := by
  refine Ctr_of (by decide) (Nat.le_of_ble_eq_true rfl) ⟨Nat.le_refl _, Nat.le_refl _⟩ (fun K hK hQ _ => ?_)
  show TT K ly 0 0 0 [(0, vR 73), (1, vI v)] [] h
  have hF : FRM [73] [2] h h := FRM_rf _ _ _
  refine TT_aload_n hK rfl 0 rfl dX12_refuse_0 ?_
  refine TT_iload_n hK rfl 1 rfl dX12_refuse_1 ?_
  refine pf_X12_117 hK (by decide) rfl dX12_refuse_2 ?_
  refine TT_hp (h' := setO h 73 (fup (h 73) 2 v)) (up_can rfl rfl rfl) ?_
  have hT_1 : TY (setO h 73 (fup (h 73) 2 v)) := tu_73_2 hT (show up h 73 2 v = (setO h 73 (fup (h 73) 2 v)) from up_can rfl rfl rfl) (by omega)
  have hF_1 : FRM [73] [2] h (setO h 73 (fup (h 73) 2 v)) := FRM_f (show up h 73 2 v = (setO h 73 (fup (h 73) 2 v)) from up_can rfl rfl rfl) hF (by decide) (by decide)
  refine TT_iconst hK dX12_refuse_5 ?_
  refine TT_iret hK hQ ?_ dX12_refuse_6
  exact ⟨⟨hT_1, hF_1⟩, 0, rfl, (by omega)⟩
set_option maxRecDepth 20000 in
theorem s_X12_stepBit_73 (h : Hp_) (hT : TY h) (ha : (h 73 42) ≤ 4399) : Ctr yX12_stepBit cX12_stepBit 1 none (rmd 0) ly ly 0 0 [vR 73] h (fun r h' => (TY h' ∧ FRM [73] [42, 43] h h') ∧ r = none ∧ (8 * (h' 73 42) + (h' 73 43) = 8 * (h 73 42) + (h 73 43) + 1)) := by
  refine Ctr_of (by decide) (Nat.le_of_ble_eq_true rfl) ⟨Nat.le_refl _, Nat.le_refl _⟩ (fun K hK hQ _ => ?_)
  show TT K ly 0 0 0 [(0, vR 73)] [] h
  have hF : FRM [73] [42, 43] h h := FRM_rf _ _ _
  refine TT_aload_n hK rfl 0 rfl dX12_stepBit_0 ?_
  refine TT_aload_n hK rfl 0 rfl dX12_stepBit_1 ?_
  refine gf_X12_314 hK (by decide) rfl (v := (h 73) 43) rfl dX12_stepBit_2 ?_
  have r1 := ty_73_43 (v := (h 73) 43) hT rfl
  refine TT_bipush hK (by decide) dX12_stepBit_5 ?_
  refine TT_icmp_ne hK (tgt := 14) (irm (by omega) (by omega)) (by decide) dX12_stepBit_7 (by decide) (fun hb7_2 => ?_) (fun hb7_2 => ?_)
  · refine TT_aload_n hK rfl 0 rfl dX12_stepBit_14 ?_
    refine gf_X12_314 hK (by decide) rfl (v := (h 73) 43) rfl dX12_stepBit_15 ?_
    refine TT_iconst hK dX12_stepBit_18 ?_
    refine TT_iadd hK dX12_stepBit_19 ?_
    refine pf_X12_314 hK (by decide) rfl dX12_stepBit_20 ?_
    refine TT_hp (h' := setO h 73 (fup (h 73) 43 (((h 73) 43) + 1))) (up_can rfl rfl rfl) ?_
    have hT_3 : TY (setO h 73 (fup (h 73) 43 (((h 73) 43) + 1))) := tu_73_43 hT (show up h 73 43 (((h 73) 43) + 1) = (setO h 73 (fup (h 73) 43 (((h 73) 43) + 1))) from up_can rfl rfl rfl) (by omega)
    have hF_3 : FRM [73] [42, 43] h (setO h 73 (fup (h 73) 43 (((h 73) 43) + 1))) := FRM_f (show up h 73 43 (((h 73) 43) + 1) = (setO h 73 (fup (h 73) 43 (((h 73) 43) + 1))) from up_can rfl rfl rfl) hF (by decide) (by decide)
    refine TT_aload_n hK rfl 0 rfl dX12_stepBit_23 ?_
    refine TT_aload_n hK rfl 0 rfl dX12_stepBit_24 ?_
    refine gf_X12_314 hK (by decide) rfl (v := ((h 73) 43) + 1) (rd_ (sOf_eq _ _ _) (fup_eq _ _ _)) dX12_stepBit_25 ?_
    have r4 := ty_73_43 (v := ((h 73) 43) + 1) hT_3 (rd_ (sOf_eq _ _ _) (fup_eq _ _ _))
    refine TT_if_ne hK (tgt := 40) (irm (by omega) (by omega)) dX12_stepBit_28 (by decide) (fun hb28_5 => ?_) (fun hb28_5 => ?_)
    · refine TT_aload_n hK rfl 0 rfl dX12_stepBit_40 ?_
      refine gf_X12_311 hK (by decide) rfl (v := (h 73) 42) (rd_ (sOf_eq _ _ _) (fup_ne _ _ (by decide))) dX12_stepBit_41 ?_
      have r6 := ty_73_42 (v := (h 73) 42) hT_3 (rd_ (sOf_eq _ _ _) (fup_ne _ _ (by decide)))
      refine pf_X12_311 hK (by decide) rfl dX12_stepBit_44 ?_
      refine TT_hp (h' := setO h 73 (fup (fup (h 73) 42 ((h 73) 42)) 43 (((h 73) 43) + 1))) (up_can (sOf_eq _ _ _) (fup_comm _ _ _ (by decide)) (setO_same _ _ _ _)) ?_
      have hT_7 : TY (setO h 73 (fup (fup (h 73) 42 ((h 73) 42)) 43 (((h 73) 43) + 1))) := tu_73_42 hT_3 (show up (setO h 73 (fup (h 73) 43 (((h 73) 43) + 1))) 73 42 ((h 73) 42) = (setO h 73 (fup (fup (h 73) 42 ((h 73) 42)) 43 (((h 73) 43) + 1))) from up_can (sOf_eq _ _ _) (fup_comm _ _ _ (by decide)) (setO_same _ _ _ _)) (by omega)
      have hF_7 : FRM [73] [42, 43] h (setO h 73 (fup (fup (h 73) 42 ((h 73) 42)) 43 (((h 73) 43) + 1))) := FRM_f (show up (setO h 73 (fup (h 73) 43 (((h 73) 43) + 1))) 73 42 ((h 73) 42) = (setO h 73 (fup (fup (h 73) 42 ((h 73) 42)) 43 (((h 73) 43) + 1))) from up_can (sOf_eq _ _ _) (fup_comm _ _ _ (by decide)) (setO_same _ _ _ _)) hF_3 (by decide) (by decide)
      refine TT_vret hK hQ ?_ dX12_stepBit_47
      have e8_73_42 : (setO h 73 (fup (fup (h 73) 42 ((h 73) 42)) 43 (((h 73) 43) + 1))) 73 42 = (h 73) 42 := rd_ (sOf_eq _ _ _) ((fup_ne _ _ (by decide)).trans (fup_eq _ _ _))
      have e9_73_43 : (setO h 73 (fup (fup (h 73) 42 ((h 73) 42)) 43 (((h 73) 43) + 1))) 73 43 = ((h 73) 43) + 1 := rd_ (sOf_eq _ _ _) (fup_eq _ _ _)
      exact ⟨⟨hT_7, hF_7⟩, rfl, (by rewrite [e8_73_42, e9_73_43]; omega)⟩
    · refine TT_aload_n hK rfl 0 rfl dX12_stepBit_31 ?_
      refine gf_X12_311 hK (by decide) rfl (v := (h 73) 42) (rd_ (sOf_eq _ _ _) (fup_ne _ _ (by decide))) dX12_stepBit_32 ?_
      have r10 := ty_73_42 (v := (h 73) 42) hT_3 (rd_ (sOf_eq _ _ _) (fup_ne _ _ (by decide)))
      refine TT_iconst hK dX12_stepBit_35 ?_
      refine TT_iadd hK dX12_stepBit_36 ?_
      refine TT_goto hK (tgt := 44) dX12_stepBit_37 (by decide) ?_
      refine pf_X12_311 hK (by decide) rfl dX12_stepBit_44 ?_
      refine TT_hp (h' := setO h 73 (fup (fup (h 73) 42 (((h 73) 42) + 1)) 43 (((h 73) 43) + 1))) (up_can (sOf_eq _ _ _) (fup_comm _ _ _ (by decide)) (setO_same _ _ _ _)) ?_
      have hT_11 : TY (setO h 73 (fup (fup (h 73) 42 (((h 73) 42) + 1)) 43 (((h 73) 43) + 1))) := tu_73_42 hT_3 (show up (setO h 73 (fup (h 73) 43 (((h 73) 43) + 1))) 73 42 (((h 73) 42) + 1) = (setO h 73 (fup (fup (h 73) 42 (((h 73) 42) + 1)) 43 (((h 73) 43) + 1))) from up_can (sOf_eq _ _ _) (fup_comm _ _ _ (by decide)) (setO_same _ _ _ _)) (by omega)
      have hF_11 : FRM [73] [42, 43] h (setO h 73 (fup (fup (h 73) 42 (((h 73) 42) + 1)) 43 (((h 73) 43) + 1))) := FRM_f (show up (setO h 73 (fup (h 73) 43 (((h 73) 43) + 1))) 73 42 (((h 73) 42) + 1) = (setO h 73 (fup (fup (h 73) 42 (((h 73) 42) + 1)) 43 (((h 73) 43) + 1))) from up_can (sOf_eq _ _ _) (fup_comm _ _ _ (by decide)) (setO_same _ _ _ _)) hF_3 (by decide) (by decide)
      refine TT_vret hK hQ ?_ dX12_stepBit_47
      have e12_73_42 : (setO h 73 (fup (fup (h 73) 42 (((h 73) 42) + 1)) 43 (((h 73) 43) + 1))) 73 42 = ((h 73) 42) + 1 := rd_ (sOf_eq _ _ _) ((fup_ne _ _ (by decide)).trans (fup_eq _ _ _))
      have e13_73_43 : (setO h 73 (fup (fup (h 73) 42 (((h 73) 42) + 1)) 43 (((h 73) 43) + 1))) 73 43 = ((h 73) 43) + 1 := rd_ (sOf_eq _ _ _) (fup_eq _ _ _)
      exact ⟨⟨hT_11, hF_11⟩, rfl, (by rewrite [e12_73_42, e13_73_43]; omega)⟩
  · refine TT_iconst hK dX12_stepBit_10 ?_
    refine TT_goto hK (tgt := 20) dX12_stepBit_11 (by decide) ?_
    refine pf_X12_314 hK (by decide) rfl dX12_stepBit_20 ?_
    refine TT_hp (h' := setO h 73 (fup (h 73) 43 0)) (up_can rfl rfl rfl) ?_
    have hT_14 : TY (setO h 73 (fup (h 73) 43 0)) := tu_73_43 hT (show up h 73 43 0 = (setO h 73 (fup (h 73) 43 0)) from up_can rfl rfl rfl) (by omega)
    have hF_14 : FRM [73] [42, 43] h (setO h 73 (fup (h 73) 43 0)) := FRM_f (show up h 73 43 0 = (setO h 73 (fup (h 73) 43 0)) from up_can rfl rfl rfl) hF (by decide) (by decide)
    refine TT_aload_n hK rfl 0 rfl dX12_stepBit_23 ?_
    refine TT_aload_n hK rfl 0 rfl dX12_stepBit_24 ?_
    refine gf_X12_314 hK (by decide) rfl (v := 0) (rd_ (sOf_eq _ _ _) (fup_eq _ _ _)) dX12_stepBit_25 ?_
    refine TT_if_ne hK (tgt := 40) (by decide) dX12_stepBit_28 (by decide) (fun hb28_15 => ?_) (fun hb28_15 => ?_)
    · exact absurd hb28_15 (by decide)
    · refine TT_aload_n hK rfl 0 rfl dX12_stepBit_31 ?_
      refine gf_X12_311 hK (by decide) rfl (v := (h 73) 42) (rd_ (sOf_eq _ _ _) (fup_ne _ _ (by decide))) dX12_stepBit_32 ?_
      have r16 := ty_73_42 (v := (h 73) 42) hT_14 (rd_ (sOf_eq _ _ _) (fup_ne _ _ (by decide)))
      refine TT_iconst hK dX12_stepBit_35 ?_
      refine TT_iadd hK dX12_stepBit_36 ?_
      refine TT_goto hK (tgt := 44) dX12_stepBit_37 (by decide) ?_
      refine pf_X12_311 hK (by decide) rfl dX12_stepBit_44 ?_
      refine TT_hp (h' := setO h 73 (fup (fup (h 73) 42 (((h 73) 42) + 1)) 43 0)) (up_can (sOf_eq _ _ _) (fup_comm _ _ _ (by decide)) (setO_same _ _ _ _)) ?_
      have hT_17 : TY (setO h 73 (fup (fup (h 73) 42 (((h 73) 42) + 1)) 43 0)) := tu_73_42 hT_14 (show up (setO h 73 (fup (h 73) 43 0)) 73 42 (((h 73) 42) + 1) = (setO h 73 (fup (fup (h 73) 42 (((h 73) 42) + 1)) 43 0)) from up_can (sOf_eq _ _ _) (fup_comm _ _ _ (by decide)) (setO_same _ _ _ _)) (by omega)
      have hF_17 : FRM [73] [42, 43] h (setO h 73 (fup (fup (h 73) 42 (((h 73) 42) + 1)) 43 0)) := FRM_f (show up (setO h 73 (fup (h 73) 43 0)) 73 42 (((h 73) 42) + 1) = (setO h 73 (fup (fup (h 73) 42 (((h 73) 42) + 1)) 43 0)) from up_can (sOf_eq _ _ _) (fup_comm _ _ _ (by decide)) (setO_same _ _ _ _)) hF_14 (by decide) (by decide)
      refine TT_vret hK hQ ?_ dX12_stepBit_47
      have e18_73_42 : (setO h 73 (fup (fup (h 73) 42 (((h 73) 42) + 1)) 43 0)) 73 42 = ((h 73) 42) + 1 := rd_ (sOf_eq _ _ _) ((fup_ne _ _ (by decide)).trans (fup_eq _ _ _))
      have e19_73_43 : (setO h 73 (fup (fup (h 73) 42 (((h 73) 42) + 1)) 43 0)) 73 43 = 0 := rd_ (sOf_eq _ _ _) (fup_eq _ _ _)
      exact ⟨⟨hT_17, hF_17⟩, rfl, (by rewrite [e18_73_42, e19_73_43]; omega)⟩

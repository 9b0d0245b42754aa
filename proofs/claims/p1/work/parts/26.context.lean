set_option maxRecDepth 20000 in
theorem c_X12_spot (x y : Int) (h : Hp_)  : Ctr yX12_spot cX12_spot 2 (some .int) (rmd 0) ly ly 0 0 [vI x, vI y] h (fun r h' => r = some (vI (((10 * y) + x) + 11)) ∧ h' = h) := by
  refine Ctr_of (by decide) (Nat.le_of_ble_eq_true rfl) ⟨Nat.le_refl _, Nat.le_refl _⟩ (fun K hK hQ _ => ?_)
  show TT K ly 0 0 0 [(0, vI x), (1, vI y)] [] h
  refine TT_bipush hK (by decide) dX12_spot_0 ?_
  refine TT_iload_n hK rfl 1 rfl dX12_spot_2 ?_
  refine TT_imul hK dX12_spot_3 ?_
  refine TT_iload_n hK rfl 0 rfl dX12_spot_4 ?_
  refine TT_iadd hK dX12_spot_5 ?_
  refine TT_bipush hK (by decide) dX12_spot_6 ?_
  refine TT_iadd hK dX12_spot_8 ?_
  refine TT_iret hK hQ ?_ dX12_spot_9
  exact ⟨congrArg (fun z => some (vI z)) (by rfl), rfl⟩
set_option maxRecDepth 20000 in
theorem c_X12_here_73 (s : Int) (h : Hp_) (hs : 0 ≤ s ∧ s < 100) (haw : ∀ j, 0 ≤ j → j < 100 → -1 ≤ (h 93) j ∧ (h 93) j ≤ 1) : Ctr yX12_here cX12_here 2 (some .int) (rmd 0) ly ly 0 0 [vR 73, vI s] h (fun r h' => r = some (vI (hS (h 93) s)) ∧ h' = h) := by
  refine Ctr_of (by decide) (Nat.le_of_ble_eq_true rfl) ⟨Nat.le_refl _, Nat.le_refl _⟩ (fun K hK hQ _ => ?_)
  show TT K ly 0 0 0 [(0, vR 73), (1, vI s)] [] h
  have a0 := haw s hs.1 hs.2
  refine TT_aload_n hK rfl 0 rfl dX12_here_0 ?_
  refine gf_X12_75 hK (by decide) rfl (q := 93) rfl rfl dX12_here_1 ?_
  refine TT_iload_n hK rfl 1 rfl dX12_here_4 ?_
  refine TT_iald hK (o := 93) (n := 100) (by decide) rfl (by first | omega | (simp [up, setR] <;> omega)) (by first | omega | (simp [up, setR] <;> omega)) (v := (h 93) s) rfl dX12_here_5 ?_
  refine TT_if_ne hK (tgt := 13) (irm (by omega) (by omega)) dX12_here_6 (by decide) (fun hb6 => ?_) (fun hb6 => ?_)
  · refine TT_iconst hK dX12_here_13 ?_
    refine TT_iret hK hQ ?_ dX12_here_14
    exact ⟨congrArg (fun z => some (vI z)) (by unfold hS; first | rw [if_pos (by omega)] | rw [if_neg (by omega)]), rfl⟩
  · refine TT_iconst hK dX12_here_9 ?_
    refine TT_goto hK (tgt := 14) dX12_here_10 (by decide) ?_
    refine TT_iret hK hQ ?_ dX12_here_14
    exact ⟨congrArg (fun z => some (vI z)) (by unfold hS; first | rw [if_pos (by omega)] | rw [if_neg (by omega)]), rfl⟩
set_option maxRecDepth 20000 in
theorem c_X12_inRow_73 (p : Int) (h : Hp_) (hp : 11 ≤ p ∧ p ≤ 88) (haw : ∀ j, 0 ≤ j → j < 100 → -1 ≤ (h 93) j ∧ (h 93) j ≤ 1) : Ctr yX12_inRow cX12_inRow 2 (some .int) (rmd 1) ly ly 0 0 [vR 73, vI p] h (fun r h' => r = some (vI (rowS (h 93) p)) ∧ h' = h) := by
  refine Ctr_of (by decide) (Nat.le_of_ble_eq_true rfl) ⟨Nat.le_refl _, Nat.le_refl _⟩ (fun K hK hQ _ => ?_)
  show TT K ly 0 0 0 [(0, vR 73), (1, vI p)] [] h
  refine TT_aload_n hK rfl 0 rfl dX12_inRow_0 ?_
  refine TT_iload_n hK rfl 1 rfl dX12_inRow_1 ?_
  refine TT_iconst hK dX12_inRow_2 ?_
  refine TT_isub hK dX12_inRow_3 ?_
  refine iv_X12_231 hK (c_X12_here_73 (p - 1) h (by first | omega | (simp [up, setR] <;> omega)) (by exact haw)) (by decide) rfl ⟨by decide, by decide⟩ (by decide) rfl rfl (Nat.le_of_ble_eq_true rfl) ⟨by decide, by decide⟩ dX12_inRow_4 ?_
  intro r9 h9 hp9
  rw [hp9.1, hp9.2]
  show TT K ly 0 0 7 [(0, vR 73), (1, vI p)] [vI (hS (h 93) (p - 1))] h
  refine TT_aload_n hK rfl 0 rfl dX12_inRow_7 ?_
  refine TT_iload_n hK rfl 1 rfl dX12_inRow_8 ?_
  refine TT_iconst hK dX12_inRow_9 ?_
  refine TT_iadd hK dX12_inRow_10 ?_
  refine iv_X12_231 hK (c_X12_here_73 (p + 1) h (by first | omega | (simp [up, setR] <;> omega)) (by exact haw)) (by decide) rfl ⟨by decide, by decide⟩ (by decide) rfl rfl (Nat.le_of_ble_eq_true rfl) ⟨by decide, by decide⟩ dX12_inRow_11 ?_
  intro r9 h9 hp9
  rw [hp9.1, hp9.2]
  show TT K ly 0 0 14 [(0, vR 73), (1, vI p)] [vI (hS (h 93) (p + 1)), vI (hS (h 93) (p - 1))] h
  refine TT_iadd hK dX12_inRow_14 ?_
  refine TT_iret hK hQ ?_ dX12_inRow_15
  exact ⟨congrArg (fun z => some (vI z)) (by rfl), rfl⟩
set_option maxRecDepth 20000 in
theorem c_X12_inColumn_73 (p : Int) (h : Hp_) (hp : 11 ≤ p ∧ p ≤ 88) (haw : ∀ j, 0 ≤ j → j < 100 → -1 ≤ (h 93) j ∧ (h 93) j ≤ 1) : Ctr yX12_inColumn cX12_inColumn 2 (some .int) (rmd 1) ly ly 0 0 [vR 73, vI p] h (fun r h' => r = some (vI (colS (h 93) p)) ∧ h' = h) := by
  refine Ctr_of (by decide) (Nat.le_of_ble_eq_true rfl) ⟨Nat.le_refl _, Nat.le_refl _⟩ (fun K hK hQ _ => ?_)
  show TT K ly 0 0 0 [(0, vR 73), (1, vI p)] [] h
  refine TT_aload_n hK rfl 0 rfl dX12_inColumn_0 ?_
  refine TT_iload_n hK rfl 1 rfl dX12_inColumn_1 ?_
  refine TT_bipush hK (by decide) dX12_inColumn_2 ?_
  refine TT_isub hK dX12_inColumn_4 ?_
  refine iv_X12_231 hK (c_X12_here_73 (p - 10) h (by first | omega | (simp [up, setR] <;> omega)) (by exact haw)) (by decide) rfl ⟨by decide, by decide⟩ (by decide) rfl rfl (Nat.le_of_ble_eq_true rfl) ⟨by decide, by decide⟩ dX12_inColumn_5 ?_
  intro r9 h9 hp9
  rw [hp9.1, hp9.2]
  show TT K ly 0 0 8 [(0, vR 73), (1, vI p)] [vI (hS (h 93) (p - 10))] h
  refine TT_aload_n hK rfl 0 rfl dX12_inColumn_8 ?_
  refine TT_iload_n hK rfl 1 rfl dX12_inColumn_9 ?_
  refine TT_bipush hK (by decide) dX12_inColumn_10 ?_
  refine TT_iadd hK dX12_inColumn_12 ?_
  refine iv_X12_231 hK (c_X12_here_73 (p + 10) h (by first | omega | (simp [up, setR] <;> omega)) (by exact haw)) (by decide) rfl ⟨by decide, by decide⟩ (by decide) rfl rfl (Nat.le_of_ble_eq_true rfl) ⟨by decide, by decide⟩ dX12_inColumn_13 ?_
  intro r9 h9 hp9
  rw [hp9.1, hp9.2]
  show TT K ly 0 0 16 [(0, vR 73), (1, vI p)] [vI (hS (h 93) (p + 10)), vI (hS (h 93) (p - 10))] h
  refine TT_iadd hK dX12_inColumn_16 ?_
  refine TT_iret hK hQ ?_ dX12_inColumn_17
  exact ⟨congrArg (fun z => some (vI z)) (by rfl), rfl⟩
set_option maxRecDepth 20000 in
theorem c_X12_acrossOf_73 (p : Int) (h : Hp_) (hp : 11 ≤ p ∧ p ≤ 88) (haw : ∀ j, 0 ≤ j → j < 100 → -1 ≤ (h 93) j ∧ (h 93) j ≤ 1) : Ctr yX12_acrossOf cX12_acrossOf 2 (some .int) (rmd 1) ly ly 0 0 [vR 73, vI p] h (fun r h' => r = some (vI (acrS (h 93) p)) ∧ h' = h) := by
  refine Ctr_of (by decide) (Nat.le_of_ble_eq_true rfl) ⟨Nat.le_refl _, Nat.le_refl _⟩ (fun K hK hQ _ => ?_)
  show TT K ly 0 0 0 [(0, vR 73), (1, vI p)] [] h
  refine TT_aload_n hK rfl 0 rfl dX12_acrossOf_0 ?_
  refine TT_iload_n hK rfl 1 rfl dX12_acrossOf_1 ?_
  refine TT_bipush hK (by decide) dX12_acrossOf_2 ?_
  refine TT_isub hK dX12_acrossOf_4 ?_
  refine iv_X12_231 hK (c_X12_here_73 (p - 11) h (by first | omega | (simp [up, setR] <;> omega)) (by exact haw)) (by decide) rfl ⟨by decide, by decide⟩ (by decide) rfl rfl (Nat.le_of_ble_eq_true rfl) ⟨by decide, by decide⟩ dX12_acrossOf_5 ?_
  intro r9 h9 hp9
  rw [hp9.1, hp9.2]
  show TT K ly 0 0 8 [(0, vR 73), (1, vI p)] [vI (hS (h 93) (p - 11))] h
  refine TT_aload_n hK rfl 0 rfl dX12_acrossOf_8 ?_
  refine TT_iload_n hK rfl 1 rfl dX12_acrossOf_9 ?_
  refine TT_bipush hK (by decide) dX12_acrossOf_10 ?_
  refine TT_isub hK dX12_acrossOf_12 ?_
  refine iv_X12_231 hK (c_X12_here_73 (p - 9) h (by first | omega | (simp [up, setR] <;> omega)) (by exact haw)) (by decide) rfl ⟨by decide, by decide⟩ (by decide) rfl rfl (Nat.le_of_ble_eq_true rfl) ⟨by decide, by decide⟩ dX12_acrossOf_13 ?_
  intro r9 h9 hp9
  rw [hp9.1, hp9.2]
  show TT K ly 0 0 16 [(0, vR 73), (1, vI p)] [vI (hS (h 93) (p - 9)), vI (hS (h 93) (p - 11))] h
  refine TT_iadd hK dX12_acrossOf_16 ?_
  refine TT_aload_n hK rfl 0 rfl dX12_acrossOf_17 ?_
  refine TT_iload_n hK rfl 1 rfl dX12_acrossOf_18 ?_
  refine TT_bipush hK (by decide) dX12_acrossOf_19 ?_
  refine TT_iadd hK dX12_acrossOf_21 ?_
  refine iv_X12_231 hK (c_X12_here_73 (p + 9) h (by first | omega | (simp [up, setR] <;> omega)) (by exact haw)) (by decide) rfl ⟨by decide, by decide⟩ (by decide) rfl rfl (Nat.le_of_ble_eq_true rfl) ⟨by decide, by decide⟩ dX12_acrossOf_22 ?_
  intro r9 h9 hp9
  rw [hp9.1, hp9.2]
  show TT K ly 0 0 25 [(0, vR 73), (1, vI p)] [vI (hS (h 93) (p + 9)), vI ((hS (h 93) (p - 11)) + (hS (h 93) (p - 9)))] h
  refine TT_iadd hK dX12_acrossOf_25 ?_
  refine TT_aload_n hK rfl 0 rfl dX12_acrossOf_26 ?_
  refine TT_iload_n hK rfl 1 rfl dX12_acrossOf_27 ?_
  refine TT_bipush hK (by decide) dX12_acrossOf_28 ?_
  refine TT_iadd hK dX12_acrossOf_30 ?_
  refine iv_X12_231 hK (c_X12_here_73 (p + 11) h (by first | omega | (simp [up, setR] <;> omega)) (by exact haw)) (by decide) rfl ⟨by decide, by decide⟩ (by decide) rfl rfl (Nat.le_of_ble_eq_true rfl) ⟨by decide, by decide⟩ dX12_acrossOf_31 ?_
  intro r9 h9 hp9
  rw [hp9.1, hp9.2]
  show TT K ly 0 0 34 [(0, vR 73), (1, vI p)] [vI (hS (h 93) (p + 11)), vI (((hS (h 93) (p - 11)) + (hS (h 93) (p - 9))) + (hS (h 93) (p + 9)))] h
  refine TT_iadd hK dX12_acrossOf_34 ?_
  refine TT_iret hK hQ ?_ dX12_acrossOf_35
  exact ⟨congrArg (fun z => some (vI z)) (by rfl), rfl⟩
set_option maxRecDepth 20000 in
theorem c_X12_context_73 (x y kd : Int) (h : Hp_) (hxy : (0 ≤ x ∧ x ≤ 7) ∧ (0 ≤ y ∧ y ≤ 7)) (haw : ∀ j, 0 ≤ j → j < 100 → -1 ≤ (h 93) j ∧ (h 93) j ≤ 1) (hkd : (h 82) (h 73 26) = kd ∧ (0 ≤ kd ∧ kd ≤ 2)) (hwk : 0 ≤ (h 73 26) ∧ (h 73 26) < 20) : Ctr yX12_context cX12_context 8 (some .int) (rmd 2) ly ly 0 0 [vR 73, vI x, vI y] h (fun r h' => r = some (vI (ctxS (h 93) kd (((10 * y) + x) + 11))) ∧ h' = h) := by
  refine Ctr_of (by decide) (Nat.le_of_ble_eq_true rfl) ⟨Nat.le_refl _, Nat.le_refl _⟩ (fun K hK hQ _ => ?_)
  show TT K ly 0 0 0 [(0, vR 73), (1, vI x), (2, vI y)] [] h
  refine TT_iload_n hK rfl 1 rfl dX12_context_0 ?_
  refine TT_iload_n hK rfl 2 rfl dX12_context_1 ?_
  refine iv_X12_234 hK (c_X12_spot x y h ) ⟨by decide, by decide⟩ (by decide) rfl rfl (Nat.le_of_ble_eq_true rfl) ⟨by decide, by decide⟩ dX12_context_2 ?_
  intro r9 h9 hp9
  rw [hp9.1, hp9.2]
  show TT K ly 0 0 5 [(0, vR 73), (1, vI x), (2, vI y)] [vI (((10 * y) + x) + 11)] h
  refine TT_istore_n hK rfl (lv' := [(3, vI (((10 * y) + x) + 11)), (0, vR 73), (1, vI x), (2, vI y)]) (by decide) rfl dX12_context_5 ?_
  refine TT_aload_n hK rfl 1 rfl dX12_context_6 ?_
  refine TT_iload_n hK rfl 0 rfl dX12_context_7 ?_
  refine iv_X12_237 hK (c_X12_inRow_73 (((10 * y) + x) + 11) h (by first | omega | (simp [up, setR] <;> omega)) (by exact haw)) (by decide) rfl ⟨by decide, by decide⟩ (by decide) rfl rfl (Nat.le_of_ble_eq_true rfl) ⟨by decide, by decide⟩ dX12_context_8 ?_
  intro r9 h9 hp9
  rw [hp9.1, hp9.2]
  show TT K ly 0 0 11 [(3, vI (((10 * y) + x) + 11)), (0, vR 73), (1, vI x), (2, vI y)] [vI (rowS (h 93) (((10 * y) + x) + 11))] h
  refine TT_nmI (fun rr hrr => ?_)
  refine TT_istore hK (lv' := [(4, vI rr), (3, vI (((10 * y) + x) + 11)), (0, vR 73), (1, vI x), (2, vI y)]) (by decide) rfl dX12_context_11 ?_
  refine TT_aload_n hK rfl 2 rfl dX12_context_13 ?_
  refine TT_iload_n hK rfl 1 rfl dX12_context_14 ?_
  refine iv_X12_240 hK (c_X12_inColumn_73 (((10 * y) + x) + 11) h (by first | omega | (simp [up, setR] <;> omega)) (by exact haw)) (by decide) rfl ⟨by decide, by decide⟩ (by decide) rfl rfl (Nat.le_of_ble_eq_true rfl) ⟨by decide, by decide⟩ dX12_context_15 ?_
  intro r9 h9 hp9
  rw [hp9.1, hp9.2]
  show TT K ly 0 0 18 [(4, vI rr), (3, vI (((10 * y) + x) + 11)), (0, vR 73), (1, vI x), (2, vI y)] [vI (colS (h 93) (((10 * y) + x) + 11))] h
  refine TT_nmI (fun vv hvv => ?_)
  refine TT_istore hK (lv' := [(5, vI vv), (4, vI rr), (3, vI (((10 * y) + x) + 11)), (0, vR 73), (1, vI x), (2, vI y)]) (by decide) rfl dX12_context_18 ?_
  refine TT_aload_n hK rfl 3 rfl dX12_context_20 ?_
  refine TT_iload_n hK rfl 2 rfl dX12_context_21 ?_
  refine iv_X12_243 hK (c_X12_acrossOf_73 (((10 * y) + x) + 11) h (by first | omega | (simp [up, setR] <;> omega)) (by exact haw)) (by decide) rfl ⟨by decide, by decide⟩ (by decide) rfl rfl (Nat.le_of_ble_eq_true rfl) ⟨by decide, by decide⟩ dX12_context_22 ?_
  intro r9 h9 hp9
  rw [hp9.1, hp9.2]
  show TT K ly 0 0 25 [(5, vI vv), (4, vI rr), (3, vI (((10 * y) + x) + 11)), (0, vR 73), (1, vI x), (2, vI y)] [vI (acrS (h 93) (((10 * y) + x) + 11))] h
  refine TT_nmI (fun ee hee => ?_)
  refine TT_istore hK (lv' := [(6, vI ee), (5, vI vv), (4, vI rr), (3, vI (((10 * y) + x) + 11)), (0, vR 73), (1, vI x), (2, vI y)]) (by decide) rfl dX12_context_25 ?_
  have r1 := rowS_r (h 93) (((10 * y) + x) + 11)
  have r2 := colS_r (h 93) (((10 * y) + x) + 11)
  have r3 := acrS_r (h 93) (((10 * y) + x) + 11)
  rw [← hrr] at r1
  rw [← hvv] at r2
  rw [← hee] at r3
  refine TT_aload_n hK rfl 4 rfl dX12_context_27 ?_
  refine gf_X12_41 hK (by decide) rfl (q := 82) rfl rfl dX12_context_28 ?_
  refine TT_aload_n hK rfl 4 rfl dX12_context_31 ?_
  refine gf_X12_246 hK (by decide) rfl (v := (h 73) 26) rfl dX12_context_32 ?_
  refine TT_iald hK (o := 82) (n := 20) (by decide) rfl (by first | omega | (simp [up, setR] <;> omega)) (by first | omega | (simp [up, setR] <;> omega)) (v := (h 82) ((h 73) 26)) rfl dX12_context_35 ?_
  refine TT_cgI (b := kd) (by exact hkd.1) ?_
  refine TT_iconst hK dX12_context_36 ?_
  refine TT_icmp_ne hK (tgt := 100) (irm (by omega) (by omega)) (by decide) dX12_context_37 (by decide) (fun hb37 => ?_) (fun hb37 => ?_)
  · refine TT_aload_n hK rfl 4 rfl dX12_context_100 ?_
    refine gf_X12_41 hK (by decide) rfl (q := 82) rfl rfl dX12_context_101 ?_
    refine TT_aload_n hK rfl 4 rfl dX12_context_104 ?_
    refine gf_X12_246 hK (by decide) rfl (v := (h 73) 26) rfl dX12_context_105 ?_
    refine TT_iald hK (o := 82) (n := 20) (by decide) rfl (by first | omega | (simp [up, setR] <;> omega)) (by first | omega | (simp [up, setR] <;> omega)) (v := (h 82) ((h 73) 26)) rfl dX12_context_108 ?_
    refine TT_cgI (b := kd) (by exact hkd.1) ?_
    refine TT_iconst hK dX12_context_109 ?_
    refine TT_icmp_ne hK (tgt := 125) (irm (by omega) (by omega)) (by decide) dX12_context_110 (by decide) (fun hb110 => ?_) (fun hb110 => ?_)
    · refine TT_iload hK 2 rfl dX12_context_125 ?_
      refine TT_iconst hK dX12_context_127 ?_
      refine TT_icmp_ne hK (tgt := 136) (irm (by omega) (by omega)) (by decide) dX12_context_128 (by decide) (fun hb128 => ?_) (fun hb128 => ?_)
      · refine TT_iload hK 2 rfl dX12_context_136 ?_
        refine TT_iconst hK dX12_context_138 ?_
        refine TT_icmp_ne hK (tgt := 166) (irm (by omega) (by omega)) (by decide) dX12_context_139 (by decide) (fun hb139 => ?_) (fun hb139 => ?_)
        · refine TT_iload hK 1 rfl dX12_context_166 ?_
          refine TT_iconst hK dX12_context_168 ?_
          refine TT_icmp_ne hK (tgt := 176) (irm (by omega) (by omega)) (by decide) dX12_context_169 (by decide) (fun hb169 => ?_) (fun hb169 => ?_)
          · refine TT_iload hK 1 rfl dX12_context_176 ?_
            refine TT_iconst hK dX12_context_178 ?_
            refine TT_icmp_ne hK (tgt := 186) (irm (by omega) (by omega)) (by decide) dX12_context_179 (by decide) (fun hb179 => ?_) (fun hb179 => ?_)
            · refine TT_iload hK 0 rfl dX12_context_186 ?_
              refine TT_iconst hK dX12_context_188 ?_
              refine TT_icmp_le hK (tgt := 196) (irm (by omega) (by omega)) (by decide) dX12_context_189 (by decide) (fun hb189 => ?_) (fun hb189 => ?_)
              · refine TT_iload hK 0 rfl dX12_context_196 ?_
                refine TT_iret hK hQ ?_ dX12_context_198
                exact ⟨congrArg (fun z => some (vI z)) (by unfold ctxS; rw [← hrr, ← hvv, ← hee]; unfold cxS rfS cfS; (repeat' split) <;> omega), rfl⟩
              · refine TT_iconst hK dX12_context_192 ?_
                refine TT_goto hK (tgt := 198) dX12_context_193 (by decide) ?_
                refine TT_iret hK hQ ?_ dX12_context_198
                exact ⟨congrArg (fun z => some (vI z)) (by unfold ctxS; rw [← hrr, ← hvv, ← hee]; unfold cxS rfS cfS; (repeat' split) <;> omega), rfl⟩
            · refine TT_iconst hK dX12_context_182 ?_
              refine TT_goto hK (tgt := 198) dX12_context_183 (by decide) ?_
              refine TT_iret hK hQ ?_ dX12_context_198
              exact ⟨congrArg (fun z => some (vI z)) (by unfold ctxS; rw [← hrr, ← hvv, ← hee]; unfold cxS rfS cfS; (repeat' split) <;> omega), rfl⟩
          · refine TT_iconst hK dX12_context_172 ?_
            refine TT_goto hK (tgt := 198) dX12_context_173 (by decide) ?_
            refine TT_iret hK hQ ?_ dX12_context_198
            exact ⟨congrArg (fun z => some (vI z)) (by unfold ctxS; rw [← hrr, ← hvv, ← hee]; unfold cxS rfS cfS; (repeat' split) <;> omega), rfl⟩
        · refine TT_iload hK 1 rfl dX12_context_142 ?_
          refine TT_if_le hK (tgt := 152) (irm (by omega) (by omega)) dX12_context_144 (by decide) (fun hb144 => ?_) (fun hb144 => ?_)
          · refine TT_iload hK 0 rfl dX12_context_152 ?_
            refine TT_if_le hK (tgt := 162) (irm (by omega) (by omega)) dX12_context_154 (by decide) (fun hb154 => ?_) (fun hb154 => ?_)
            · refine TT_iconst hK dX12_context_162 ?_
              refine TT_goto hK (tgt := 198) dX12_context_163 (by decide) ?_
              refine TT_iret hK hQ ?_ dX12_context_198
              exact ⟨congrArg (fun z => some (vI z)) (by unfold ctxS; rw [← hrr, ← hvv, ← hee]; unfold cxS rfS cfS; (repeat' split) <;> omega), rfl⟩
            · refine TT_bipush hK (by decide) dX12_context_157 ?_
              refine TT_goto hK (tgt := 198) dX12_context_159 (by decide) ?_
              refine TT_iret hK hQ ?_ dX12_context_198
              exact ⟨congrArg (fun z => some (vI z)) (by unfold ctxS; rw [← hrr, ← hvv, ← hee]; unfold cxS rfS cfS; (repeat' split) <;> omega), rfl⟩
          · refine TT_bipush hK (by decide) dX12_context_147 ?_
            refine TT_goto hK (tgt := 198) dX12_context_149 (by decide) ?_
            refine TT_iret hK hQ ?_ dX12_context_198
            exact ⟨congrArg (fun z => some (vI z)) (by unfold ctxS; rw [← hrr, ← hvv, ← hee]; unfold cxS rfS cfS; (repeat' split) <;> omega), rfl⟩
      · refine TT_bipush hK (by decide) dX12_context_131 ?_
        refine TT_goto hK (tgt := 198) dX12_context_133 (by decide) ?_
        refine TT_iret hK hQ ?_ dX12_context_198
        exact ⟨congrArg (fun z => some (vI z)) (by unfold ctxS; rw [← hrr, ← hvv, ← hee]; unfold cxS rfS cfS; (repeat' split) <;> omega), rfl⟩
    · refine TT_iload hK 2 rfl dX12_context_113 ?_
      refine TT_istore hK (lv' := [(7, vI rr), (6, vI ee), (5, vI vv), (4, vI rr), (3, vI (((10 * y) + x) + 11)), (0, vR 73), (1, vI x), (2, vI y)]) (by decide) rfl dX12_context_115 ?_
      refine TT_iload hK 2 rfl dX12_context_117 ?_
      refine TT_istore hK (lv' := [(4, vI vv), (7, vI rr), (6, vI ee), (5, vI vv), (3, vI (((10 * y) + x) + 11)), (0, vR 73), (1, vI x), (2, vI y)]) (by decide) rfl dX12_context_119 ?_
      refine TT_iload hK 1 rfl dX12_context_121 ?_
      refine TT_istore hK (lv' := [(5, vI rr), (4, vI vv), (7, vI rr), (6, vI ee), (3, vI (((10 * y) + x) + 11)), (0, vR 73), (1, vI x), (2, vI y)]) (by decide) rfl dX12_context_123 ?_
      refine TT_iload hK 1 rfl dX12_context_125 ?_
      refine TT_iconst hK dX12_context_127 ?_
      refine TT_icmp_ne hK (tgt := 136) (irm (by omega) (by omega)) (by decide) dX12_context_128 (by decide) (fun hb128 => ?_) (fun hb128 => ?_)
      · refine TT_iload hK 1 rfl dX12_context_136 ?_
        refine TT_iconst hK dX12_context_138 ?_
        refine TT_icmp_ne hK (tgt := 166) (irm (by omega) (by omega)) (by decide) dX12_context_139 (by decide) (fun hb139 => ?_) (fun hb139 => ?_)
        · refine TT_iload hK 0 rfl dX12_context_166 ?_
          refine TT_iconst hK dX12_context_168 ?_
          refine TT_icmp_ne hK (tgt := 176) (irm (by omega) (by omega)) (by decide) dX12_context_169 (by decide) (fun hb169 => ?_) (fun hb169 => ?_)
          · refine TT_iload hK 0 rfl dX12_context_176 ?_
            refine TT_iconst hK dX12_context_178 ?_
            refine TT_icmp_ne hK (tgt := 186) (irm (by omega) (by omega)) (by decide) dX12_context_179 (by decide) (fun hb179 => ?_) (fun hb179 => ?_)
            · refine TT_iload hK 3 rfl dX12_context_186 ?_
              refine TT_iconst hK dX12_context_188 ?_
              refine TT_icmp_le hK (tgt := 196) (irm (by omega) (by omega)) (by decide) dX12_context_189 (by decide) (fun hb189 => ?_) (fun hb189 => ?_)
              · refine TT_iload hK 3 rfl dX12_context_196 ?_
                refine TT_iret hK hQ ?_ dX12_context_198
                exact ⟨congrArg (fun z => some (vI z)) (by unfold ctxS; rw [← hrr, ← hvv, ← hee]; unfold cxS rfS cfS; (repeat' split) <;> omega), rfl⟩
              · refine TT_iconst hK dX12_context_192 ?_
                refine TT_goto hK (tgt := 198) dX12_context_193 (by decide) ?_
                refine TT_iret hK hQ ?_ dX12_context_198
                exact ⟨congrArg (fun z => some (vI z)) (by unfold ctxS; rw [← hrr, ← hvv, ← hee]; unfold cxS rfS cfS; (repeat' split) <;> omega), rfl⟩
            · refine TT_iconst hK dX12_context_182 ?_
              refine TT_goto hK (tgt := 198) dX12_context_183 (by decide) ?_
              refine TT_iret hK hQ ?_ dX12_context_198
              exact ⟨congrArg (fun z => some (vI z)) (by unfold ctxS; rw [← hrr, ← hvv, ← hee]; unfold cxS rfS cfS; (repeat' split) <;> omega), rfl⟩
          · refine TT_iconst hK dX12_context_172 ?_
            refine TT_goto hK (tgt := 198) dX12_context_173 (by decide) ?_
            refine TT_iret hK hQ ?_ dX12_context_198
            exact ⟨congrArg (fun z => some (vI z)) (by unfold ctxS; rw [← hrr, ← hvv, ← hee]; unfold cxS rfS cfS; (repeat' split) <;> omega), rfl⟩
        · refine TT_iload hK 0 rfl dX12_context_142 ?_
          refine TT_if_le hK (tgt := 152) (irm (by omega) (by omega)) dX12_context_144 (by decide) (fun hb144 => ?_) (fun hb144 => ?_)
          · refine TT_iload hK 3 rfl dX12_context_152 ?_
            refine TT_if_le hK (tgt := 162) (irm (by omega) (by omega)) dX12_context_154 (by decide) (fun hb154 => ?_) (fun hb154 => ?_)
            · refine TT_iconst hK dX12_context_162 ?_
              refine TT_goto hK (tgt := 198) dX12_context_163 (by decide) ?_
              refine TT_iret hK hQ ?_ dX12_context_198
              exact ⟨congrArg (fun z => some (vI z)) (by unfold ctxS; rw [← hrr, ← hvv, ← hee]; unfold cxS rfS cfS; (repeat' split) <;> omega), rfl⟩
            · refine TT_bipush hK (by decide) dX12_context_157 ?_
              refine TT_goto hK (tgt := 198) dX12_context_159 (by decide) ?_
              refine TT_iret hK hQ ?_ dX12_context_198
              exact ⟨congrArg (fun z => some (vI z)) (by unfold ctxS; rw [← hrr, ← hvv, ← hee]; unfold cxS rfS cfS; (repeat' split) <;> omega), rfl⟩
          · refine TT_bipush hK (by decide) dX12_context_147 ?_
            refine TT_goto hK (tgt := 198) dX12_context_149 (by decide) ?_
            refine TT_iret hK hQ ?_ dX12_context_198
            exact ⟨congrArg (fun z => some (vI z)) (by unfold ctxS; rw [← hrr, ← hvv, ← hee]; unfold cxS rfS cfS; (repeat' split) <;> omega), rfl⟩
      · refine TT_bipush hK (by decide) dX12_context_131 ?_
        refine TT_goto hK (tgt := 198) dX12_context_133 (by decide) ?_
        refine TT_iret hK hQ ?_ dX12_context_198
        exact ⟨congrArg (fun z => some (vI z)) (by unfold ctxS; rw [← hrr, ← hvv, ← hee]; unfold cxS rfS cfS; (repeat' split) <;> omega), rfl⟩
  · refine TT_iload hK 2 rfl dX12_context_40 ?_
    refine TT_iload hK 1 rfl dX12_context_42 ?_
    refine TT_iadd hK dX12_context_44 ?_
    refine TT_iconst hK dX12_context_45 ?_
    refine TT_icmp_le hK (tgt := 53) (irm (by omega) (by omega)) (by decide) dX12_context_46 (by decide) (fun hb46 => ?_) (fun hb46 => ?_)
    · refine TT_iload hK 2 rfl dX12_context_53 ?_
      refine TT_iload hK 1 rfl dX12_context_55 ?_
      refine TT_iadd hK dX12_context_57 ?_
      refine TT_istore hK (lv' := [(7, vI (rr + vv)), (6, vI ee), (5, vI vv), (4, vI rr), (3, vI (((10 * y) + x) + 11)), (0, vR 73), (1, vI x), (2, vI y)]) (by decide) rfl dX12_context_58 ?_
      refine TT_iload hK 1 rfl dX12_context_60 ?_
      refine TT_iconst hK dX12_context_62 ?_
      refine TT_icmp_le hK (tgt := 71) (irm (by omega) (by omega)) (by decide) dX12_context_63 (by decide) (fun hb63 => ?_) (fun hb63 => ?_)
      · refine TT_iload hK 1 rfl dX12_context_71 ?_
        refine TT_iconst hK dX12_context_73 ?_
        refine TT_icmp_ne hK (tgt := 92) (irm (by omega) (by omega)) (by decide) dX12_context_74 (by decide) (fun hb74 => ?_) (fun hb74 => ?_)
        · refine TT_iconst hK dX12_context_92 ?_
          refine TT_iload hK 1 rfl dX12_context_93 ?_
          refine TT_imul hK dX12_context_95 ?_
          refine TT_iload hK 0 rfl dX12_context_96 ?_
          refine TT_iadd hK dX12_context_98 ?_
          refine TT_iret hK hQ ?_ dX12_context_99
          exact ⟨congrArg (fun z => some (vI z)) (by unfold ctxS; rw [← hrr, ← hvv, ← hee]; unfold cxS rfS cfS; (repeat' split) <;> omega), rfl⟩
        · refine TT_iload hK 0 rfl dX12_context_77 ?_
          refine TT_if_le hK (tgt := 87) (irm (by omega) (by omega)) dX12_context_79 (by decide) (fun hb79 => ?_) (fun hb79 => ?_)
          · refine TT_bipush hK (by decide) dX12_context_87 ?_
            refine TT_goto hK (tgt := 99) dX12_context_89 (by decide) ?_
            refine TT_iret hK hQ ?_ dX12_context_99
            exact ⟨congrArg (fun z => some (vI z)) (by unfold ctxS; rw [← hrr, ← hvv, ← hee]; unfold cxS rfS cfS; (repeat' split) <;> omega), rfl⟩
          · refine TT_bipush hK (by decide) dX12_context_82 ?_
            refine TT_goto hK (tgt := 99) dX12_context_84 (by decide) ?_
            refine TT_iret hK hQ ?_ dX12_context_99
            exact ⟨congrArg (fun z => some (vI z)) (by unfold ctxS; rw [← hrr, ← hvv, ← hee]; unfold cxS rfS cfS; (repeat' split) <;> omega), rfl⟩
      · refine TT_bipush hK (by decide) dX12_context_66 ?_
        refine TT_goto hK (tgt := 99) dX12_context_68 (by decide) ?_
        refine TT_iret hK hQ ?_ dX12_context_99
        exact ⟨congrArg (fun z => some (vI z)) (by unfold ctxS; rw [← hrr, ← hvv, ← hee]; unfold cxS rfS cfS; (repeat' split) <;> omega), rfl⟩
    · refine TT_iconst hK dX12_context_49 ?_
      refine TT_goto hK (tgt := 58) dX12_context_50 (by decide) ?_
      refine TT_istore hK (lv' := [(7, vI 2), (6, vI ee), (5, vI vv), (4, vI rr), (3, vI (((10 * y) + x) + 11)), (0, vR 73), (1, vI x), (2, vI y)]) (by decide) rfl dX12_context_58 ?_
      refine TT_iload hK 1 rfl dX12_context_60 ?_
      refine TT_iconst hK dX12_context_62 ?_
      refine TT_icmp_le hK (tgt := 71) (irm (by omega) (by omega)) (by decide) dX12_context_63 (by decide) (fun hb63 => ?_) (fun hb63 => ?_)
      · refine TT_iload hK 1 rfl dX12_context_71 ?_
        refine TT_iconst hK dX12_context_73 ?_
        refine TT_icmp_ne hK (tgt := 92) (irm (by omega) (by omega)) (by decide) dX12_context_74 (by decide) (fun hb74 => ?_) (fun hb74 => ?_)
        · refine TT_iconst hK dX12_context_92 ?_
          refine TT_iload hK 1 rfl dX12_context_93 ?_
          refine TT_imul hK dX12_context_95 ?_
          refine TT_iload hK 0 rfl dX12_context_96 ?_
          refine TT_iadd hK dX12_context_98 ?_
          refine TT_iret hK hQ ?_ dX12_context_99
          exact ⟨congrArg (fun z => some (vI z)) (by unfold ctxS; rw [← hrr, ← hvv, ← hee]; unfold cxS rfS cfS; (repeat' split) <;> omega), rfl⟩
        · refine TT_iload hK 0 rfl dX12_context_77 ?_
          refine TT_if_le hK (tgt := 87) (by decide) dX12_context_79 (by decide) (fun hb79 => ?_) (fun hb79 => ?_)
          · exact absurd hb79 (by decide)
          · refine TT_bipush hK (by decide) dX12_context_82 ?_
            refine TT_goto hK (tgt := 99) dX12_context_84 (by decide) ?_
            refine TT_iret hK hQ ?_ dX12_context_99
            exact ⟨congrArg (fun z => some (vI z)) (by unfold ctxS; rw [← hrr, ← hvv, ← hee]; unfold cxS rfS cfS; (repeat' split) <;> omega), rfl⟩
      · refine TT_bipush hK (by decide) dX12_context_66 ?_
        refine TT_goto hK (tgt := 99) dX12_context_68 (by decide) ?_
        refine TT_iret hK hQ ?_ dX12_context_99
        exact ⟨congrArg (fun z => some (vI z)) (by unfold ctxS; rw [← hrr, ← hvv, ← hee]; unfold cxS rfS cfS; (repeat' split) <;> omega), rfl⟩
set_option maxRecDepth 20000 in
theorem c_X12_unit (v : Int) (h : Hp_) (hv : ir_ v) : Ctr yX12_unit cX12_unit 1 (some .int) (rmd 0) ly ly 0 0 [vI v] h (fun r h' => r = some (vI (cutS v)) ∧ h' = h) := by
  refine Ctr_of (by decide) (Nat.le_of_ble_eq_true rfl) ⟨Nat.le_refl _, Nat.le_refl _⟩ (fun K hK hQ _ => ?_)
  show TT K ly 0 0 0 [(0, vI v)] [] h
  refine TT_iload_n hK rfl 0 rfl dX12_unit_0 ?_
  refine TT_if_le hK (tgt := 8) (irm (by omega) (by omega)) dX12_unit_1 (by decide) (fun hb1 => ?_) (fun hb1 => ?_)
  · refine TT_iload_n hK rfl 0 rfl dX12_unit_8 ?_
    refine TT_if_ge hK (tgt := 16) (irm (by omega) (by omega)) dX12_unit_9 (by decide) (fun hb9 => ?_) (fun hb9 => ?_)
    · refine TT_iconst hK dX12_unit_16 ?_
      refine TT_iret hK hQ ?_ dX12_unit_17
      exact ⟨congrArg (fun z => some (vI z)) (by unfold cutS; (repeat' split) <;> omega), rfl⟩
    · refine TT_iconst hK dX12_unit_12 ?_
      refine TT_goto hK (tgt := 17) dX12_unit_13 (by decide) ?_
      refine TT_iret hK hQ ?_ dX12_unit_17
      exact ⟨congrArg (fun z => some (vI z)) (by unfold cutS; (repeat' split) <;> omega), rfl⟩
  · refine TT_iconst hK dX12_unit_4 ?_
    refine TT_goto hK (tgt := 17) dX12_unit_5 (by decide) ?_
    refine TT_iret hK hQ ?_ dX12_unit_17
    exact ⟨congrArg (fun z => some (vI z)) (by unfold cutS; (repeat' split) <;> omega), rfl⟩
set_option maxRecDepth 20000 in
theorem c_X12_cell_73 (x y : Int) (h : Hp_)  : Ctr yX12_cell cX12_cell 3 (some .int) (rmd 0) ly ly 0 0 [vR 73, vI x, vI y] h (fun r h' => r = some (vI (((64 * (h 73 26)) + (8 * y)) + x)) ∧ h' = h) := by
  refine Ctr_of (by decide) (Nat.le_of_ble_eq_true rfl) ⟨Nat.le_refl _, Nat.le_refl _⟩ (fun K hK hQ _ => ?_)
  show TT K ly 0 0 0 [(0, vR 73), (1, vI x), (2, vI y)] [] h
  refine TT_bipush hK (by decide) dX12_cell_0 ?_
  refine TT_aload_n hK rfl 0 rfl dX12_cell_2 ?_
  refine gf_X12_246 hK (by decide) rfl (v := (h 73) 26) rfl dX12_cell_3 ?_
  refine TT_imul hK dX12_cell_6 ?_
  refine TT_bipush hK (by decide) dX12_cell_7 ?_
  refine TT_iload_n hK rfl 2 rfl dX12_cell_9 ?_
  refine TT_imul hK dX12_cell_10 ?_
  refine TT_iadd hK dX12_cell_11 ?_
  refine TT_iload_n hK rfl 1 rfl dX12_cell_12 ?_
  refine TT_iadd hK dX12_cell_13 ?_
  refine TT_iret hK hQ ?_ dX12_cell_14
  exact ⟨congrArg (fun z => some (vI z)) (by first | rfl | omega | (split <;> first | rfl | omega)), rfl⟩
set_option maxRecDepth 20000 in
theorem c_X12_bitAt_73 (x y : Int) (h : Hp_) (hxy : (0 ≤ x ∧ x ≤ 7) ∧ (0 ≤ y ∧ y ≤ 7)) (hwk : 0 ≤ (h 73 26) ∧ (h 73 26) < 20) (hpl : 0 ≤ (h 73 27) ∧ (h 73 27) ≤ 12) (hsz : ir_ ((h 84) (((64 * (h 73 26)) + (8 * y)) + x))) : Ctr yX12_bitAt cX12_bitAt 3 (some .int) (rmd 1) ly ly 0 0 [vR 73, vI x, vI y] h (fun r h' => r = some (vI (((h 84) (((64 * (h 73 26)) + (8 * y)) + x) / 2 ^ ((h 73 27)).toNat) % 2)) ∧ h' = h) := by
  refine Ctr_of (by decide) (Nat.le_of_ble_eq_true rfl) ⟨Nat.le_refl _, Nat.le_refl _⟩ (fun K hK hQ _ => ?_)
  show TT K ly 0 0 0 [(0, vR 73), (1, vI x), (2, vI y)] [] h
  refine TT_aload_n hK rfl 0 rfl dX12_bitAt_0 ?_
  refine gf_X12_47 hK (by decide) rfl (q := 84) rfl rfl dX12_bitAt_1 ?_
  refine TT_aload_n hK rfl 0 rfl dX12_bitAt_4 ?_
  refine TT_iload_n hK rfl 1 rfl dX12_bitAt_5 ?_
  refine TT_iload_n hK rfl 2 rfl dX12_bitAt_6 ?_
  refine iv_X12_249 hK (c_X12_cell_73 x y h ) (by decide) rfl ⟨by decide, by decide⟩ (by decide) rfl rfl (Nat.le_of_ble_eq_true rfl) ⟨by decide, by decide⟩ dX12_bitAt_7 ?_
  intro r9 h9 hp9
  rw [hp9.1, hp9.2]
  show TT K ly 0 0 10 [(0, vR 73), (1, vI x), (2, vI y)] [vI (((64 * ((h 73) 26)) + (8 * y)) + x), vR 84] h
  refine TT_iald hK (o := 84) (n := 1280) (by decide) rfl (by first | omega | (simp [up, setR] <;> omega)) (by first | omega | (simp [up, setR] <;> omega)) (v := (h 84) (((64 * ((h 73) 26)) + (8 * y)) + x)) rfl dX12_bitAt_10 ?_
  refine TT_aload_n hK rfl 0 rfl dX12_bitAt_11 ?_
  refine gf_X12_252 hK (by decide) rfl (v := (h 73) 27) rfl dX12_bitAt_12 ?_
  refine TT_ishr hK (irm (by omega) (by omega)) (by omega) (by omega) dX12_bitAt_15 ?_
  refine TT_iconst hK dX12_bitAt_16 ?_
  refine TT_iand hK dX12_bitAt_17 ?_
  refine TT_cgI (iand_m (((h 84) (((64 * ((h 73) 26)) + (8 * y)) + x)) / 2 ^ ((h 73) 27).toNat) 1 (by decide)) ?_
  show TT K ly 0 0 18 [(0, vR 73), (1, vI x), (2, vI y)] (vI ((((h 84) (((64 * ((h 73) 26)) + (8 * y)) + x)) / 2 ^ ((h 73) 27).toNat) % 2) :: []) h
  refine TT_iret hK hQ ?_ dX12_bitAt_18
  exact ⟨congrArg (fun z => some (vI z)) (by rfl), rfl⟩
set_option maxRecDepth 20000 in
theorem c_X12_beginTelling_73 (h : Hp_)  : Ctr yX12_beginTelling cX12_beginTelling 1 none (rmd 1) ly ly 0 0 [vR 73] h (fun r h' => r = none ∧ h' = setO (setO (setO (setO h 73 (fup (fup (fup (fup (fup (h 73) 29 0) 32 32768) 33 0) 34 12) 36 1)) 96 (fsr (h 96) 0 19 st0)) 97 (fsr (h 97) 0 19 (fun _ => 0))) 98 (fup (h 98) 0 0)) := by
  refine Ctr_of (by decide) (Nat.le_of_ble_eq_true rfl) ⟨Nat.le_refl _, Nat.le_refl _⟩ (fun K hK hQ _ => ?_)
  show TT K ly 0 0 0 [(0, vR 73)] [] h
  refine TT_aload_n hK rfl 0 rfl dX12_beginTelling_0 ?_
  refine iv_X12_160 hK (c_X12_forget_73 h ) (by decide) rfl ⟨by decide, by decide⟩ (by decide) rfl rfl (Nat.le_of_ble_eq_true rfl) ⟨by decide, by decide⟩ dX12_beginTelling_1 ?_
  intro r9 h9 hp9
  rw [hp9.1, hp9.2]
  show TT K ly 0 0 4 [(0, vR 73)] [] (setO (setO h 96 (fsr (h 96) 0 19 st0)) 97 (fsr (h 97) 0 19 (fun _ => 0)))
  refine TT_aload_n hK rfl 0 rfl dX12_beginTelling_4 ?_
  refine TT_iconst hK dX12_beginTelling_5 ?_
  refine pf_X12_163 hK (by decide) rfl dX12_beginTelling_6 ?_
  refine TT_hp (h' := setO (setO (setO h 73 (fup (h 73) 29 0)) 96 (fsr (h 96) 0 19 st0)) 97 (fsr (h 97) 0 19 (fun _ => 0))) (up_can ((sOf_ne _ _ (by decide)).trans (sOf_ne _ _ (by decide))) rfl ((setO_comm _ _ _ (by decide)).trans (setO_cg ((setO_comm _ _ _ (by decide)).trans (setO_cg rfl rfl)) rfl))) ?_
  refine TT_aload_n hK rfl 0 rfl dX12_beginTelling_9 ?_
  refine gf_X12_90 hK (by decide) rfl (q := 98) rfl rfl dX12_beginTelling_10 ?_
  refine TT_iconst hK dX12_beginTelling_13 ?_
  refine TT_iconst hK dX12_beginTelling_14 ?_
  refine TT_iast hK (o := 98) (n := 3200) (by decide) rfl (by first | omega | (simp [up, setR] <;> omega)) (by first | omega | (simp [up, setR] <;> omega)) dX12_beginTelling_15 ?_
  refine TT_hp (h' := setO (setO (setO (setO h 73 (fup (h 73) 29 0)) 96 (fsr (h 96) 0 19 st0)) 97 (fsr (h 97) 0 19 (fun _ => 0))) 98 (fup (h 98) 0 0)) (up_can ((sOf_ne _ _ (by decide)).trans ((sOf_ne _ _ (by decide)).trans (sOf_ne _ _ (by decide)))) rfl rfl) ?_
  refine TT_aload_n hK rfl 0 rfl dX12_beginTelling_16 ?_
  refine TT_iconst hK dX12_beginTelling_17 ?_
  refine pf_X12_166 hK (by decide) rfl dX12_beginTelling_18 ?_
  refine TT_hp (h' := setO (setO (setO (setO h 73 (fup (fup (h 73) 29 0) 36 1)) 96 (fsr (h 96) 0 19 st0)) 97 (fsr (h 97) 0 19 (fun _ => 0))) 98 (fup (h 98) 0 0)) (up_can ((sOf_ne _ _ (by decide)).trans ((sOf_ne _ _ (by decide)).trans ((sOf_ne _ _ (by decide)).trans (sOf_eq _ _ _)))) rfl ((setO_comm _ _ _ (by decide)).trans (setO_cg ((setO_comm _ _ _ (by decide)).trans (setO_cg ((setO_comm _ _ _ (by decide)).trans (setO_cg (setO_same _ _ _ _) rfl)) rfl)) rfl))) ?_
  refine TT_aload_n hK rfl 0 rfl dX12_beginTelling_21 ?_
  refine TT_ldc2 hK lc_X12_169 dX12_beginTelling_22 ?_
  refine pf_X12_171 hK (by decide) rfl dX12_beginTelling_25 ?_
  refine TT_hp (h' := setO (setO (setO (setO h 73 (fup (fup (fup (h 73) 29 0) 32 32768) 36 1)) 96 (fsr (h 96) 0 19 st0)) 97 (fsr (h 97) 0 19 (fun _ => 0))) 98 (fup (h 98) 0 0)) (up_can ((sOf_ne _ _ (by decide)).trans ((sOf_ne _ _ (by decide)).trans ((sOf_ne _ _ (by decide)).trans (sOf_eq _ _ _)))) (fup_comm _ _ _ (by decide)) ((setO_comm _ _ _ (by decide)).trans (setO_cg ((setO_comm _ _ _ (by decide)).trans (setO_cg ((setO_comm _ _ _ (by decide)).trans (setO_cg (setO_same _ _ _ _) rfl)) rfl)) rfl))) ?_
  refine TT_aload_n hK rfl 0 rfl dX12_beginTelling_28 ?_
  refine TT_lconst hK (v := 0) (by decide) dX12_beginTelling_29 ?_
  refine pf_X12_175 hK (by decide) rfl dX12_beginTelling_30 ?_
  refine TT_hp (h' := setO (setO (setO (setO h 73 (fup (fup (fup (fup (h 73) 29 0) 32 32768) 33 0) 36 1)) 96 (fsr (h 96) 0 19 st0)) 97 (fsr (h 97) 0 19 (fun _ => 0))) 98 (fup (h 98) 0 0)) (up_can ((sOf_ne _ _ (by decide)).trans ((sOf_ne _ _ (by decide)).trans ((sOf_ne _ _ (by decide)).trans (sOf_eq _ _ _)))) (fup_comm _ _ _ (by decide)) ((setO_comm _ _ _ (by decide)).trans (setO_cg ((setO_comm _ _ _ (by decide)).trans (setO_cg ((setO_comm _ _ _ (by decide)).trans (setO_cg (setO_same _ _ _ _) rfl)) rfl)) rfl))) ?_
  refine TT_aload_n hK rfl 0 rfl dX12_beginTelling_33 ?_
  refine TT_bipush hK (by decide) dX12_beginTelling_34 ?_
  refine pf_X12_178 hK (by decide) rfl dX12_beginTelling_36 ?_
  refine TT_hp (h' := setO (setO (setO (setO h 73 (fup (fup (fup (fup (fup (h 73) 29 0) 32 32768) 33 0) 34 12) 36 1)) 96 (fsr (h 96) 0 19 st0)) 97 (fsr (h 97) 0 19 (fun _ => 0))) 98 (fup (h 98) 0 0)) (up_can ((sOf_ne _ _ (by decide)).trans ((sOf_ne _ _ (by decide)).trans ((sOf_ne _ _ (by decide)).trans (sOf_eq _ _ _)))) (fup_comm _ _ _ (by decide)) ((setO_comm _ _ _ (by decide)).trans (setO_cg ((setO_comm _ _ _ (by decide)).trans (setO_cg ((setO_comm _ _ _ (by decide)).trans (setO_cg (setO_same _ _ _ _) rfl)) rfl)) rfl))) ?_
  refine TT_vret hK hQ ?_ dX12_beginTelling_39
  exact ⟨rfl, rfl⟩
set_option maxRecDepth 20000 in
theorem c_X4_place (x y : Int) (h : Hp_)  : Ctr yX4_place cX4_place 2 (some .int) (rmd 0) ly ly 0 0 [vI x, vI y] h (fun r h' => r = some (vI ((((y + 1) * 10) + x) + 1)) ∧ h' = h) := by
  refine Ctr_of (by decide) (Nat.le_of_ble_eq_true rfl) ⟨Nat.le_refl _, Nat.le_refl _⟩ (fun K hK hQ _ => ?_)
  show TT K ly 0 0 0 [(0, vI x), (1, vI y)] [] h
  refine TT_iload_n hK rfl 1 rfl dX4_place_0 ?_
  refine TT_iconst hK dX4_place_1 ?_
  refine TT_iadd hK dX4_place_2 ?_
  refine TT_bipush hK (by decide) dX4_place_3 ?_
  refine TT_imul hK dX4_place_5 ?_
  refine TT_iload_n hK rfl 0 rfl dX4_place_6 ?_
  refine TT_iadd hK dX4_place_7 ?_
  refine TT_iconst hK dX4_place_8 ?_
  refine TT_iadd hK dX4_place_9 ?_
  refine TT_iret hK hQ ?_ dX4_place_10
  exact ⟨congrArg (fun z => some (vI z)) (by rfl), rfl⟩
set_option maxRecDepth 20000 in
theorem c_X4_rowFirst (g v e : Int) (h : Hp_) (h1 : 0 ≤ g ∧ g ≤ 2) (h2 : 0 ≤ v ∧ v ≤ 2) (h3 : 0 ≤ e ∧ e ≤ 4) : Ctr yX4_rowFirst cX4_rowFirst 3 (some .int) (rmd 0) ly ly 0 0 [vI g, vI v, vI e] h (fun r h' => r = some (vI (rfS g v e)) ∧ h' = h) := by
  refine Ctr_of (by decide) (Nat.le_of_ble_eq_true rfl) ⟨Nat.le_refl _, Nat.le_refl _⟩ (fun K hK hQ _ => ?_)
  show TT K ly 0 0 0 [(0, vI g), (1, vI v), (2, vI e)] [] h
  refine TT_iload_n hK rfl 0 rfl dX4_rowFirst_0 ?_
  refine TT_iconst hK dX4_rowFirst_1 ?_
  refine TT_icmp_ne hK (tgt := 8) (irm (by omega) (by omega)) (by decide) dX4_rowFirst_2 (by decide) (fun hb2 => ?_) (fun hb2 => ?_)
  · refine TT_iload_n hK rfl 0 rfl dX4_rowFirst_8 ?_
    refine TT_iconst hK dX4_rowFirst_9 ?_
    refine TT_icmp_ne hK (tgt := 33) (irm (by omega) (by omega)) (by decide) dX4_rowFirst_10 (by decide) (fun hb10 => ?_) (fun hb10 => ?_)
    · refine TT_iload_n hK rfl 1 rfl dX4_rowFirst_33 ?_
      refine TT_if_le hK (tgt := 48) (irm (by omega) (by omega)) dX4_rowFirst_34 (by decide) (fun hb34 => ?_) (fun hb34 => ?_)
      · refine TT_iload_n hK rfl 2 rfl dX4_rowFirst_48 ?_
        refine TT_iconst hK dX4_rowFirst_49 ?_
        refine TT_icmp_ge hK (tgt := 57) (irm (by omega) (by omega)) (by decide) dX4_rowFirst_50 (by decide) (fun hb50 => ?_) (fun hb50 => ?_)
        · refine TT_iconst hK dX4_rowFirst_57 ?_
          refine TT_iret hK hQ ?_ dX4_rowFirst_58
          exact ⟨congrArg (fun z => some (vI z)) (by unfold rfS; (repeat' split) <;> omega), rfl⟩
        · refine TT_iload_n hK rfl 2 rfl dX4_rowFirst_53 ?_
          refine TT_goto hK (tgt := 58) dX4_rowFirst_54 (by decide) ?_
          refine TT_iret hK hQ ?_ dX4_rowFirst_58
          exact ⟨congrArg (fun z => some (vI z)) (by unfold rfS; (repeat' split) <;> omega), rfl⟩
      · refine TT_iload_n hK rfl 1 rfl dX4_rowFirst_37 ?_
        refine TT_iconst hK dX4_rowFirst_38 ?_
        refine TT_icmp_ne hK (tgt := 46) (irm (by omega) (by omega)) (by decide) dX4_rowFirst_39 (by decide) (fun hb39 => ?_) (fun hb39 => ?_)
        · refine TT_iconst hK dX4_rowFirst_46 ?_
          refine TT_iret hK hQ ?_ dX4_rowFirst_47
          exact ⟨congrArg (fun z => some (vI z)) (by unfold rfS; (repeat' split) <;> omega), rfl⟩
        · refine TT_iconst hK dX4_rowFirst_42 ?_
          refine TT_goto hK (tgt := 47) dX4_rowFirst_43 (by decide) ?_
          refine TT_iret hK hQ ?_ dX4_rowFirst_47
          exact ⟨congrArg (fun z => some (vI z)) (by unfold rfS; (repeat' split) <;> omega), rfl⟩
    · refine TT_iload_n hK rfl 1 rfl dX4_rowFirst_13 ?_
      refine TT_if_le hK (tgt := 22) (irm (by omega) (by omega)) dX4_rowFirst_14 (by decide) (fun hb14 => ?_) (fun hb14 => ?_)
      · refine TT_iload_n hK rfl 2 rfl dX4_rowFirst_22 ?_
        refine TT_if_le hK (tgt := 31) (irm (by omega) (by omega)) dX4_rowFirst_23 (by decide) (fun hb23 => ?_) (fun hb23 => ?_)
        · refine TT_iconst hK dX4_rowFirst_31 ?_
          refine TT_iret hK hQ ?_ dX4_rowFirst_32
          exact ⟨congrArg (fun z => some (vI z)) (by unfold rfS; (repeat' split) <;> omega), rfl⟩
        · refine TT_bipush hK (by decide) dX4_rowFirst_26 ?_
          refine TT_goto hK (tgt := 32) dX4_rowFirst_28 (by decide) ?_
          refine TT_iret hK hQ ?_ dX4_rowFirst_32
          exact ⟨congrArg (fun z => some (vI z)) (by unfold rfS; (repeat' split) <;> omega), rfl⟩
      · refine TT_bipush hK (by decide) dX4_rowFirst_17 ?_
        refine TT_goto hK (tgt := 32) dX4_rowFirst_19 (by decide) ?_
        refine TT_iret hK hQ ?_ dX4_rowFirst_32
        exact ⟨congrArg (fun z => some (vI z)) (by unfold rfS; (repeat' split) <;> omega), rfl⟩
  · refine TT_bipush hK (by decide) dX4_rowFirst_5 ?_
    refine TT_iret hK hQ ?_ dX4_rowFirst_7
    exact ⟨congrArg (fun z => some (vI z)) (by unfold rfS; (repeat' split) <;> omega), rfl⟩
set_option maxRecDepth 20000 in
theorem c_X4_cornersFirst (t e : Int) (h : Hp_) (h1 : 0 ≤ t ∧ t ≤ 4) (h3 : 0 ≤ e ∧ e ≤ 4) : Ctr yX4_cornersFirst cX4_cornersFirst 2 (some .int) (rmd 0) ly ly 0 0 [vI t, vI e] h (fun r h' => r = some (vI (cfS t e)) ∧ h' = h) := by
  refine Ctr_of (by decide) (Nat.le_of_ble_eq_true rfl) ⟨Nat.le_refl _, Nat.le_refl _⟩ (fun K hK hQ _ => ?_)
  show TT K ly 0 0 0 [(0, vI t), (1, vI e)] [] h
  refine TT_iload_n hK rfl 1 rfl dX4_cornersFirst_0 ?_
  refine TT_iconst hK dX4_cornersFirst_1 ?_
  refine TT_icmp_lt hK (tgt := 8) (irm (by omega) (by omega)) (by decide) dX4_cornersFirst_2 (by decide) (fun hb2 => ?_) (fun hb2 => ?_)
  · refine TT_iload_n hK rfl 1 rfl dX4_cornersFirst_8 ?_
    refine TT_iconst hK dX4_cornersFirst_9 ?_
    refine TT_icmp_ne hK (tgt := 25) (irm (by omega) (by omega)) (by decide) dX4_cornersFirst_10 (by decide) (fun hb10 => ?_) (fun hb10 => ?_)
    · refine TT_iconst hK dX4_cornersFirst_25 ?_
      refine TT_iload_n hK rfl 1 rfl dX4_cornersFirst_26 ?_
      refine TT_imul hK dX4_cornersFirst_27 ?_
      refine TT_iload_n hK rfl 0 rfl dX4_cornersFirst_28 ?_
      refine TT_iconst hK dX4_cornersFirst_29 ?_
      refine TT_icmp_ge hK (tgt := 37) (irm (by omega) (by omega)) (by decide) dX4_cornersFirst_30 (by decide) (fun hb30 => ?_) (fun hb30 => ?_)
      · refine TT_iconst hK dX4_cornersFirst_37 ?_
        refine TT_iadd hK dX4_cornersFirst_38 ?_
        refine TT_iret hK hQ ?_ dX4_cornersFirst_39
        exact ⟨congrArg (fun z => some (vI z)) (by unfold cfS; (repeat' split) <;> omega), rfl⟩
      · refine TT_iload_n hK rfl 0 rfl dX4_cornersFirst_33 ?_
        refine TT_goto hK (tgt := 38) dX4_cornersFirst_34 (by decide) ?_
        refine TT_iadd hK dX4_cornersFirst_38 ?_
        refine TT_iret hK hQ ?_ dX4_cornersFirst_39
        exact ⟨congrArg (fun z => some (vI z)) (by unfold cfS; (repeat' split) <;> omega), rfl⟩
    · refine TT_iload_n hK rfl 0 rfl dX4_cornersFirst_13 ?_
      refine TT_if_le hK (tgt := 22) (irm (by omega) (by omega)) dX4_cornersFirst_14 (by decide) (fun hb14 => ?_) (fun hb14 => ?_)
      · refine TT_bipush hK (by decide) dX4_cornersFirst_22 ?_
        refine TT_iret hK hQ ?_ dX4_cornersFirst_24
        exact ⟨congrArg (fun z => some (vI z)) (by unfold cfS; (repeat' split) <;> omega), rfl⟩
      · refine TT_bipush hK (by decide) dX4_cornersFirst_17 ?_
        refine TT_goto hK (tgt := 24) dX4_cornersFirst_19 (by decide) ?_
        refine TT_iret hK hQ ?_ dX4_cornersFirst_24
        exact ⟨congrArg (fun z => some (vI z)) (by unfold cfS; (repeat' split) <;> omega), rfl⟩
  · refine TT_bipush hK (by decide) dX4_cornersFirst_5 ?_
    refine TT_iret hK hQ ?_ dX4_cornersFirst_7
    exact ⟨congrArg (fun z => some (vI z)) (by unfold cfS; (repeat' split) <;> omega), rfl⟩
set_option maxRecDepth 20000 in
theorem c_X4_cut (n : Int) (h : Hp_) (hn : ir_ n) : Ctr yX4_cut cX4_cut 1 (some .int) (rmd 1) ly ly 0 0 [vI n] h (fun r h' => r = some (vI (cutS n)) ∧ h' = h) := by
  refine Ctr_of (by decide) (Nat.le_of_ble_eq_true rfl) ⟨Nat.le_refl _, Nat.le_refl _⟩ (fun K hK hQ _ => ?_)
  show TT K ly 0 0 0 [(0, vI n)] [] h
  refine TT_iconst hK dX4_cut_0 ?_
  refine TT_iconst hK dX4_cut_1 ?_
  refine TT_iload_n hK rfl 0 rfl dX4_cut_2 ?_
  refine TT_mmin hK (by decide) (irm (by omega) (by omega)) iw_X4_58 (by decide) (Nat.le_of_ble_eq_true rfl) ⟨by decide, by decide⟩ dX4_cut_3 ?_
  refine TT_mmax hK (by decide) (irm (by omega) (by omega)) iw_X4_111 (by decide) (Nat.le_of_ble_eq_true rfl) ⟨by decide, by decide⟩ dX4_cut_6 ?_
  refine TT_iret hK hQ ?_ dX4_cut_9
  exact ⟨congrArg (fun z => some (vI z)) (by unfold cutS; (repeat' split) <;> omega), rfl⟩
set_option maxRecDepth 20000 in
theorem c_X4_inRow_28 (p : Int) (h : Hp_) (hp : 11 ≤ p ∧ p ≤ 88) (haw : ∀ j, 0 ≤ j → j < 100 → -1 ≤ (h 31) j ∧ (h 31) j ≤ 1) : Ctr yX4_inRow cX4_inRow 2 (some .int) (rmd 0) ly ly 0 0 [vR 28, vI p] h (fun r h' => r = some (vI (rowS (h 31) p)) ∧ h' = h) := by
  refine Ctr_of (by decide) (Nat.le_of_ble_eq_true rfl) ⟨Nat.le_refl _, Nat.le_refl _⟩ (fun K hK hQ _ => ?_)
  show TT K ly 0 0 0 [(0, vR 28), (1, vI p)] [] h
  have a0 := hS_mod (haw (p - 1) (by omega) (by omega))
  have a1 := hS_mod (haw (p + 1) (by omega) (by omega))
  refine TT_aload_n hK rfl 0 rfl dX4_inRow_0 ?_
  refine gf_X4_18 hK (by decide) rfl (q := 31) rfl rfl dX4_inRow_1 ?_
  refine TT_iload_n hK rfl 1 rfl dX4_inRow_4 ?_
  refine TT_iconst hK dX4_inRow_5 ?_
  refine TT_isub hK dX4_inRow_6 ?_
  refine TT_iald hK (o := 31) (n := 100) (by decide) rfl (by first | omega | (simp [up, setR] <;> omega)) (by first | omega | (simp [up, setR] <;> omega)) (v := (h 31) (p - 1)) rfl dX4_inRow_7 ?_
  refine TT_iconst hK dX4_inRow_8 ?_
  refine TT_iand hK dX4_inRow_9 ?_
  refine TT_cgI (iand_m ((h 31) (p - 1)) 1 (by decide)) ?_
  show TT K ly 0 0 10 [(0, vR 28), (1, vI p)] (vI (((h 31) (p - 1)) % 2) :: []) h
  refine TT_aload_n hK rfl 0 rfl dX4_inRow_10 ?_
  refine gf_X4_18 hK (by decide) rfl (q := 31) rfl rfl dX4_inRow_11 ?_
  refine TT_iload_n hK rfl 1 rfl dX4_inRow_14 ?_
  refine TT_iconst hK dX4_inRow_15 ?_
  refine TT_iadd hK dX4_inRow_16 ?_
  refine TT_iald hK (o := 31) (n := 100) (by decide) rfl (by first | omega | (simp [up, setR] <;> omega)) (by first | omega | (simp [up, setR] <;> omega)) (v := (h 31) (p + 1)) rfl dX4_inRow_17 ?_
  refine TT_iconst hK dX4_inRow_18 ?_
  refine TT_iand hK dX4_inRow_19 ?_
  refine TT_cgI (iand_m ((h 31) (p + 1)) 1 (by decide)) ?_
  show TT K ly 0 0 20 [(0, vR 28), (1, vI p)] (vI (((h 31) (p + 1)) % 2) :: [vI (((h 31) (p - 1)) % 2)]) h
  refine TT_iadd hK dX4_inRow_20 ?_
  refine TT_iret hK hQ ?_ dX4_inRow_21
  exact ⟨congrArg (fun z => some (vI z)) (by unfold rowS; omega), rfl⟩
set_option maxRecDepth 20000 in
theorem c_X4_inColumn_28 (p : Int) (h : Hp_) (hp : 11 ≤ p ∧ p ≤ 88) (haw : ∀ j, 0 ≤ j → j < 100 → -1 ≤ (h 31) j ∧ (h 31) j ≤ 1) : Ctr yX4_inColumn cX4_inColumn 2 (some .int) (rmd 0) ly ly 0 0 [vR 28, vI p] h (fun r h' => r = some (vI (colS (h 31) p)) ∧ h' = h) := by
  refine Ctr_of (by decide) (Nat.le_of_ble_eq_true rfl) ⟨Nat.le_refl _, Nat.le_refl _⟩ (fun K hK hQ _ => ?_)
  show TT K ly 0 0 0 [(0, vR 28), (1, vI p)] [] h
  have a0 := hS_mod (haw (p - 10) (by omega) (by omega))
  have a1 := hS_mod (haw (p + 10) (by omega) (by omega))
  refine TT_aload_n hK rfl 0 rfl dX4_inColumn_0 ?_
  refine gf_X4_18 hK (by decide) rfl (q := 31) rfl rfl dX4_inColumn_1 ?_
  refine TT_iload_n hK rfl 1 rfl dX4_inColumn_4 ?_
  refine TT_bipush hK (by decide) dX4_inColumn_5 ?_
  refine TT_isub hK dX4_inColumn_7 ?_
  refine TT_iald hK (o := 31) (n := 100) (by decide) rfl (by first | omega | (simp [up, setR] <;> omega)) (by first | omega | (simp [up, setR] <;> omega)) (v := (h 31) (p - 10)) rfl dX4_inColumn_8 ?_
  refine TT_iconst hK dX4_inColumn_9 ?_
  refine TT_iand hK dX4_inColumn_10 ?_
  refine TT_cgI (iand_m ((h 31) (p - 10)) 1 (by decide)) ?_
  show TT K ly 0 0 11 [(0, vR 28), (1, vI p)] (vI (((h 31) (p - 10)) % 2) :: []) h
  refine TT_aload_n hK rfl 0 rfl dX4_inColumn_11 ?_
  refine gf_X4_18 hK (by decide) rfl (q := 31) rfl rfl dX4_inColumn_12 ?_
  refine TT_iload_n hK rfl 1 rfl dX4_inColumn_15 ?_
  refine TT_bipush hK (by decide) dX4_inColumn_16 ?_
  refine TT_iadd hK dX4_inColumn_18 ?_
  refine TT_iald hK (o := 31) (n := 100) (by decide) rfl (by first | omega | (simp [up, setR] <;> omega)) (by first | omega | (simp [up, setR] <;> omega)) (v := (h 31) (p + 10)) rfl dX4_inColumn_19 ?_
  refine TT_iconst hK dX4_inColumn_20 ?_
  refine TT_iand hK dX4_inColumn_21 ?_
  refine TT_cgI (iand_m ((h 31) (p + 10)) 1 (by decide)) ?_
  show TT K ly 0 0 22 [(0, vR 28), (1, vI p)] (vI (((h 31) (p + 10)) % 2) :: [vI (((h 31) (p - 10)) % 2)]) h
  refine TT_iadd hK dX4_inColumn_22 ?_
  refine TT_iret hK hQ ?_ dX4_inColumn_23
  exact ⟨congrArg (fun z => some (vI z)) (by unfold colS; omega), rfl⟩
set_option maxRecDepth 20000 in
theorem c_X4_acrossCorners_28 (p : Int) (h : Hp_) (hp : 11 ≤ p ∧ p ≤ 88) (haw : ∀ j, 0 ≤ j → j < 100 → -1 ≤ (h 31) j ∧ (h 31) j ≤ 1) : Ctr yX4_acrossCorners cX4_acrossCorners 2 (some .int) (rmd 0) ly ly 0 0 [vR 28, vI p] h (fun r h' => r = some (vI (acrS (h 31) p)) ∧ h' = h) := by
  refine Ctr_of (by decide) (Nat.le_of_ble_eq_true rfl) ⟨Nat.le_refl _, Nat.le_refl _⟩ (fun K hK hQ _ => ?_)
  show TT K ly 0 0 0 [(0, vR 28), (1, vI p)] [] h
  have a0 := hS_mod (haw (p - 11) (by omega) (by omega))
  have a1 := hS_mod (haw (p - 9) (by omega) (by omega))
  have a2 := hS_mod (haw (p + 9) (by omega) (by omega))
  have a3 := hS_mod (haw (p + 11) (by omega) (by omega))
  refine TT_aload_n hK rfl 0 rfl dX4_acrossCorners_0 ?_
  refine gf_X4_18 hK (by decide) rfl (q := 31) rfl rfl dX4_acrossCorners_1 ?_
  refine TT_iload_n hK rfl 1 rfl dX4_acrossCorners_4 ?_
  refine TT_bipush hK (by decide) dX4_acrossCorners_5 ?_
  refine TT_isub hK dX4_acrossCorners_7 ?_
  refine TT_iconst hK dX4_acrossCorners_8 ?_
  refine TT_isub hK dX4_acrossCorners_9 ?_
  refine TT_iald hK (o := 31) (n := 100) (by decide) rfl (by first | omega | (simp [up, setR] <;> omega)) (by first | omega | (simp [up, setR] <;> omega)) (v := (h 31) ((p - 10) - 1)) rfl dX4_acrossCorners_10 ?_
  refine TT_iconst hK dX4_acrossCorners_11 ?_
  refine TT_iand hK dX4_acrossCorners_12 ?_
  refine TT_cgI (iand_m ((h 31) ((p - 10) - 1)) 1 (by decide)) ?_
  show TT K ly 0 0 13 [(0, vR 28), (1, vI p)] (vI (((h 31) ((p - 10) - 1)) % 2) :: []) h
  refine TT_aload_n hK rfl 0 rfl dX4_acrossCorners_13 ?_
  refine gf_X4_18 hK (by decide) rfl (q := 31) rfl rfl dX4_acrossCorners_14 ?_
  refine TT_iload_n hK rfl 1 rfl dX4_acrossCorners_17 ?_
  refine TT_bipush hK (by decide) dX4_acrossCorners_18 ?_
  refine TT_isub hK dX4_acrossCorners_20 ?_
  refine TT_iconst hK dX4_acrossCorners_21 ?_
  refine TT_iadd hK dX4_acrossCorners_22 ?_
  refine TT_iald hK (o := 31) (n := 100) (by decide) rfl (by first | omega | (simp [up, setR] <;> omega)) (by first | omega | (simp [up, setR] <;> omega)) (v := (h 31) ((p - 10) + 1)) rfl dX4_acrossCorners_23 ?_
  refine TT_iconst hK dX4_acrossCorners_24 ?_
  refine TT_iand hK dX4_acrossCorners_25 ?_
  refine TT_cgI (iand_m ((h 31) ((p - 10) + 1)) 1 (by decide)) ?_
  show TT K ly 0 0 26 [(0, vR 28), (1, vI p)] (vI (((h 31) ((p - 10) + 1)) % 2) :: [vI (((h 31) ((p - 10) - 1)) % 2)]) h
  refine TT_iadd hK dX4_acrossCorners_26 ?_
  refine TT_aload_n hK rfl 0 rfl dX4_acrossCorners_27 ?_
  refine gf_X4_18 hK (by decide) rfl (q := 31) rfl rfl dX4_acrossCorners_28 ?_
  refine TT_iload_n hK rfl 1 rfl dX4_acrossCorners_31 ?_
  refine TT_bipush hK (by decide) dX4_acrossCorners_32 ?_
  refine TT_iadd hK dX4_acrossCorners_34 ?_
  refine TT_iconst hK dX4_acrossCorners_35 ?_
  refine TT_isub hK dX4_acrossCorners_36 ?_
  refine TT_iald hK (o := 31) (n := 100) (by decide) rfl (by first | omega | (simp [up, setR] <;> omega)) (by first | omega | (simp [up, setR] <;> omega)) (v := (h 31) ((p + 10) - 1)) rfl dX4_acrossCorners_37 ?_
  refine TT_iconst hK dX4_acrossCorners_38 ?_
  refine TT_iand hK dX4_acrossCorners_39 ?_
  refine TT_cgI (iand_m ((h 31) ((p + 10) - 1)) 1 (by decide)) ?_
  show TT K ly 0 0 40 [(0, vR 28), (1, vI p)] (vI (((h 31) ((p + 10) - 1)) % 2) :: [vI ((((h 31) ((p - 10) - 1)) % 2) + (((h 31) ((p - 10) + 1)) % 2))]) h
  refine TT_iadd hK dX4_acrossCorners_40 ?_
  refine TT_aload_n hK rfl 0 rfl dX4_acrossCorners_41 ?_
  refine gf_X4_18 hK (by decide) rfl (q := 31) rfl rfl dX4_acrossCorners_42 ?_
  refine TT_iload_n hK rfl 1 rfl dX4_acrossCorners_45 ?_
  refine TT_bipush hK (by decide) dX4_acrossCorners_46 ?_
  refine TT_iadd hK dX4_acrossCorners_48 ?_
  refine TT_iconst hK dX4_acrossCorners_49 ?_
  refine TT_iadd hK dX4_acrossCorners_50 ?_
  refine TT_iald hK (o := 31) (n := 100) (by decide) rfl (by first | omega | (simp [up, setR] <;> omega)) (by first | omega | (simp [up, setR] <;> omega)) (v := (h 31) ((p + 10) + 1)) rfl dX4_acrossCorners_51 ?_
  refine TT_iconst hK dX4_acrossCorners_52 ?_
  refine TT_iand hK dX4_acrossCorners_53 ?_
  refine TT_cgI (iand_m ((h 31) ((p + 10) + 1)) 1 (by decide)) ?_
  show TT K ly 0 0 54 [(0, vR 28), (1, vI p)] (vI (((h 31) ((p + 10) + 1)) % 2) :: [vI (((((h 31) ((p - 10) - 1)) % 2) + (((h 31) ((p - 10) + 1)) % 2)) + (((h 31) ((p + 10) - 1)) % 2))]) h
  refine TT_iadd hK dX4_acrossCorners_54 ?_
  refine TT_iret hK hQ ?_ dX4_acrossCorners_55
  exact ⟨congrArg (fun z => some (vI z)) (by unfold acrS; rw [show p - 10 - 1 = p - 11 by omega, show p - 10 + 1 = p - 9 by omega, show p + 10 - 1 = p + 9 by omega, show p + 10 + 1 = p + 11 by omega]; omega), rfl⟩
set_option maxRecDepth 20000 in
theorem c_X4_contextOf_28 (p : Int) (h : Hp_) (hp : 11 ≤ p ∧ p ≤ 88) (haw : ∀ j, 0 ≤ j → j < 100 → -1 ≤ (h 31) j ∧ (h 31) j ≤ 1) (hkd : 0 ≤ (h 28 8) ∧ (h 28 8) ≤ 2) : Ctr yX4_contextOf cX4_contextOf 5 (some .int) (rmd 1) ly ly 0 0 [vR 28, vI p] h (fun r h' => r = some (vI (ctxS (h 31) (h 28 8) p)) ∧ h' = h) := by
  refine Ctr_of (by decide) (Nat.le_of_ble_eq_true rfl) ⟨Nat.le_refl _, Nat.le_refl _⟩ (fun K hK hQ _ => ?_)
  show TT K ly 0 0 0 [(0, vR 28), (1, vI p)] [] h
  refine TT_aload_n hK rfl 0 rfl dX4_contextOf_0 ?_
  refine TT_iload_n hK rfl 1 rfl dX4_contextOf_1 ?_
  refine iv_X4_92 hK (c_X4_inRow_28 p h (by first | omega | (simp [up, setR] <;> omega)) (by exact haw)) (by decide) rfl ⟨by decide, by decide⟩ (by decide) rfl rfl (Nat.le_of_ble_eq_true rfl) ⟨by decide, by decide⟩ dX4_contextOf_2 ?_
  intro r9 h9 hp9
  rw [hp9.1, hp9.2]
  show TT K ly 0 0 5 [(0, vR 28), (1, vI p)] [vI (rowS (h 31) p)] h
  have r1 := rowS_r (h 31) p
  have r2 := colS_r (h 31) p
  have r3 := acrS_r (h 31) p
  refine TT_istore_n hK rfl (lv' := [(2, vI (rowS (h 31) p)), (0, vR 28), (1, vI p)]) (by decide) rfl dX4_contextOf_5 ?_
  refine TT_aload_n hK rfl 1 rfl dX4_contextOf_6 ?_
  refine TT_iload_n hK rfl 2 rfl dX4_contextOf_7 ?_
  refine iv_X4_95 hK (c_X4_inColumn_28 p h (by first | omega | (simp [up, setR] <;> omega)) (by exact haw)) (by decide) rfl ⟨by decide, by decide⟩ (by decide) rfl rfl (Nat.le_of_ble_eq_true rfl) ⟨by decide, by decide⟩ dX4_contextOf_8 ?_
  intro r9 h9 hp9
  rw [hp9.1, hp9.2]
  show TT K ly 0 0 11 [(2, vI (rowS (h 31) p)), (0, vR 28), (1, vI p)] [vI (colS (h 31) p)] h
  refine TT_istore_n hK rfl (lv' := [(3, vI (colS (h 31) p)), (2, vI (rowS (h 31) p)), (0, vR 28), (1, vI p)]) (by decide) rfl dX4_contextOf_11 ?_
  refine TT_aload_n hK rfl 2 rfl dX4_contextOf_12 ?_
  refine TT_iload_n hK rfl 3 rfl dX4_contextOf_13 ?_
  refine iv_X4_98 hK (c_X4_acrossCorners_28 p h (by first | omega | (simp [up, setR] <;> omega)) (by exact haw)) (by decide) rfl ⟨by decide, by decide⟩ (by decide) rfl rfl (Nat.le_of_ble_eq_true rfl) ⟨by decide, by decide⟩ dX4_contextOf_14 ?_
  intro r9 h9 hp9
  rw [hp9.1, hp9.2]
  show TT K ly 0 0 17 [(3, vI (colS (h 31) p)), (2, vI (rowS (h 31) p)), (0, vR 28), (1, vI p)] [vI (acrS (h 31) p)] h
  refine TT_istore hK (lv' := [(4, vI (acrS (h 31) p)), (3, vI (colS (h 31) p)), (2, vI (rowS (h 31) p)), (0, vR 28), (1, vI p)]) (by decide) rfl dX4_contextOf_17 ?_
  refine TT_aload_n hK rfl 3 rfl dX4_contextOf_19 ?_
  refine gf_X4_39 hK (by decide) rfl (v := (h 28) 8) rfl dX4_contextOf_20 ?_
  refine TT_iconst hK dX4_contextOf_23 ?_
  refine TT_icmp_ne hK (tgt := 36) (irm (by omega) (by omega)) (by decide) dX4_contextOf_24 (by decide) (fun hb24 => ?_) (fun hb24 => ?_)
  · refine TT_aload_n hK rfl 3 rfl dX4_contextOf_36 ?_
    refine gf_X4_39 hK (by decide) rfl (v := (h 28) 8) rfl dX4_contextOf_37 ?_
    refine TT_iconst hK dX4_contextOf_40 ?_
    refine TT_icmp_ne hK (tgt := 54) (irm (by omega) (by omega)) (by decide) dX4_contextOf_41 (by decide) (fun hb41 => ?_) (fun hb41 => ?_)
    · refine TT_iload_n hK rfl 2 rfl dX4_contextOf_54 ?_
      refine TT_iload_n hK rfl 1 rfl dX4_contextOf_55 ?_
      refine TT_iload hK 0 rfl dX4_contextOf_56 ?_
      refine iv_X4_122 hK (c_X4_rowFirst (rowS (h 31) p) (colS (h 31) p) (acrS (h 31) p) h (by first | omega | (simp [up, setR] <;> omega)) (by first | omega | (simp [up, setR] <;> omega)) (by first | omega | (simp [up, setR] <;> omega))) ⟨by decide, by decide⟩ (by decide) rfl rfl (Nat.le_of_ble_eq_true rfl) ⟨by decide, by decide⟩ dX4_contextOf_58 ?_
      intro r9 h9 hp9
      rw [hp9.1, hp9.2]
      show TT K ly 0 0 61 [(4, vI (acrS (h 31) p)), (3, vI (colS (h 31) p)), (2, vI (rowS (h 31) p)), (0, vR 28), (1, vI p)] [vI (rfS (rowS (h 31) p) (colS (h 31) p) (acrS (h 31) p))] h
      refine TT_iret hK hQ ?_ dX4_contextOf_61
      exact ⟨congrArg (fun z => some (vI z)) (by unfold ctxS cxS; first | rw [if_pos (by omega)] | (rw [if_neg (by omega), if_pos (by omega)]) | (rw [if_neg (by omega), if_neg (by omega)])), rfl⟩
    · refine TT_iload_n hK rfl 1 rfl dX4_contextOf_44 ?_
      refine TT_iload_n hK rfl 2 rfl dX4_contextOf_45 ?_
      refine TT_iload hK 0 rfl dX4_contextOf_46 ?_
      refine iv_X4_122 hK (c_X4_rowFirst (colS (h 31) p) (rowS (h 31) p) (acrS (h 31) p) h (by first | omega | (simp [up, setR] <;> omega)) (by first | omega | (simp [up, setR] <;> omega)) (by first | omega | (simp [up, setR] <;> omega))) ⟨by decide, by decide⟩ (by decide) rfl rfl (Nat.le_of_ble_eq_true rfl) ⟨by decide, by decide⟩ dX4_contextOf_48 ?_
      intro r9 h9 hp9
      rw [hp9.1, hp9.2]
      show TT K ly 0 0 51 [(4, vI (acrS (h 31) p)), (3, vI (colS (h 31) p)), (2, vI (rowS (h 31) p)), (0, vR 28), (1, vI p)] [vI (rfS (colS (h 31) p) (rowS (h 31) p) (acrS (h 31) p))] h
      refine TT_goto hK (tgt := 61) dX4_contextOf_51 (by decide) ?_
      refine TT_iret hK hQ ?_ dX4_contextOf_61
      exact ⟨congrArg (fun z => some (vI z)) (by unfold ctxS cxS; first | rw [if_pos (by omega)] | (rw [if_neg (by omega), if_pos (by omega)]) | (rw [if_neg (by omega), if_neg (by omega)])), rfl⟩
  · refine TT_iload_n hK rfl 2 rfl dX4_contextOf_27 ?_
    refine TT_iload_n hK rfl 1 rfl dX4_contextOf_28 ?_
    refine TT_iadd hK dX4_contextOf_29 ?_
    refine TT_iload hK 0 rfl dX4_contextOf_30 ?_
    refine iv_X4_119 hK (c_X4_cornersFirst ((rowS (h 31) p) + (colS (h 31) p)) (acrS (h 31) p) h (by first | omega | (simp [up, setR] <;> omega)) (by first | omega | (simp [up, setR] <;> omega))) ⟨by decide, by decide⟩ (by decide) rfl rfl (Nat.le_of_ble_eq_true rfl) ⟨by decide, by decide⟩ dX4_contextOf_32 ?_
    intro r9 h9 hp9
    rw [hp9.1, hp9.2]
    show TT K ly 0 0 35 [(4, vI (acrS (h 31) p)), (3, vI (colS (h 31) p)), (2, vI (rowS (h 31) p)), (0, vR 28), (1, vI p)] [vI (cfS ((rowS (h 31) p) + (colS (h 31) p)) (acrS (h 31) p))] h
    refine TT_iret hK hQ ?_ dX4_contextOf_35
    exact ⟨congrArg (fun z => some (vI z)) (by unfold ctxS cxS; first | rw [if_pos (by omega)] | (rw [if_neg (by omega), if_pos (by omega)]) | (rw [if_neg (by omega), if_neg (by omega)])), rfl⟩
set_option maxRecDepth 20000 in
theorem c_X4_meantBit_28 (p : Int) (h : Hp_) (hp : 11 ≤ p ∧ p ≤ 88) (hpl : 0 ≤ (h 28 9) ∧ (h 28 9) ≤ 12) (hm : -1000000 ≤ (h 29) p ∧ (h 29) p ≤ 1000000) : Ctr yX4_meantBit cX4_meantBit 2 (some .int) (rmd 1) ly ly 0 0 [vR 28, vI p] h (fun r h' => r = some (vI (((Int.natAbs ((h 29) p) : Int) / 2 ^ ((h 28 9)).toNat) % 2)) ∧ h' = h) := by
  refine Ctr_of (by decide) (Nat.le_of_ble_eq_true rfl) ⟨Nat.le_refl _, Nat.le_refl _⟩ (fun K hK hQ _ => ?_)
  show TT K ly 0 0 0 [(0, vR 28), (1, vI p)] [] h
  refine TT_aload_n hK rfl 0 rfl dX4_meantBit_0 ?_
  refine gf_X4_11 hK (by decide) rfl (q := 29) rfl rfl dX4_meantBit_1 ?_
  refine TT_iload_n hK rfl 1 rfl dX4_meantBit_4 ?_
  refine TT_iald hK (o := 29) (n := 100) (by decide) rfl (by first | omega | (simp [up, setR] <;> omega)) (by first | omega | (simp [up, setR] <;> omega)) (v := (h 29) p) rfl dX4_meantBit_5 ?_
  refine TT_mabs hK (irm (by omega) (by omega)) iw_X4_114 (by decide) (Nat.le_of_ble_eq_true rfl) ⟨by decide, by decide⟩ dX4_meantBit_6 ?_
  refine TT_aload_n hK rfl 0 rfl dX4_meantBit_9 ?_
  refine gf_X4_55 hK (by decide) rfl (v := (h 28) 9) rfl dX4_meantBit_10 ?_
  refine TT_ishr hK (irm (by omega) (by omega)) (by omega) (by omega) dX4_meantBit_13 ?_
  refine TT_iconst hK dX4_meantBit_14 ?_
  refine TT_iand hK dX4_meantBit_15 ?_
  refine TT_cgI (iand_m ((Int.natAbs ((h 29) p) : Int) / 2 ^ ((h 28) 9).toNat) 1 (by decide)) ?_
  show TT K ly 0 0 16 [(0, vR 28), (1, vI p)] (vI (((Int.natAbs ((h 29) p) : Int) / 2 ^ ((h 28) 9).toNat) % 2) :: []) h
  refine TT_iret hK hQ ?_ dX4_meantBit_16
  exact ⟨congrArg (fun z => some (vI z)) (by rfl), rfl⟩
set_option maxRecDepth 20000 in
theorem c_X4_inRow_67 (p : Int) (h : Hp_) (hp : 11 ≤ p ∧ p ≤ 88) (haw : ∀ j, 0 ≤ j → j < 100 → -1 ≤ (h 70) j ∧ (h 70) j ≤ 1) : Ctr yX4_inRow cX4_inRow 2 (some .int) (rmd 0) ly ly 0 0 [vR 67, vI p] h (fun r h' => r = some (vI (rowS (h 70) p)) ∧ h' = h) := by
  refine Ctr_of (by decide) (Nat.le_of_ble_eq_true rfl) ⟨Nat.le_refl _, Nat.le_refl _⟩ (fun K hK hQ _ => ?_)
  show TT K ly 0 0 0 [(0, vR 67), (1, vI p)] [] h
  have a0 := hS_mod (haw (p - 1) (by omega) (by omega))
  have a1 := hS_mod (haw (p + 1) (by omega) (by omega))
  refine TT_aload_n hK rfl 0 rfl dX4_inRow_0 ?_
  refine gf_X4_18 hK (by decide) rfl (q := 70) rfl rfl dX4_inRow_1 ?_
  refine TT_iload_n hK rfl 1 rfl dX4_inRow_4 ?_
  refine TT_iconst hK dX4_inRow_5 ?_
  refine TT_isub hK dX4_inRow_6 ?_
  refine TT_iald hK (o := 70) (n := 100) (by decide) rfl (by first | omega | (simp [up, setR] <;> omega)) (by first | omega | (simp [up, setR] <;> omega)) (v := (h 70) (p - 1)) rfl dX4_inRow_7 ?_
  refine TT_iconst hK dX4_inRow_8 ?_
  refine TT_iand hK dX4_inRow_9 ?_
  refine TT_cgI (iand_m ((h 70) (p - 1)) 1 (by decide)) ?_
  show TT K ly 0 0 10 [(0, vR 67), (1, vI p)] (vI (((h 70) (p - 1)) % 2) :: []) h
  refine TT_aload_n hK rfl 0 rfl dX4_inRow_10 ?_
  refine gf_X4_18 hK (by decide) rfl (q := 70) rfl rfl dX4_inRow_11 ?_
  refine TT_iload_n hK rfl 1 rfl dX4_inRow_14 ?_
  refine TT_iconst hK dX4_inRow_15 ?_
  refine TT_iadd hK dX4_inRow_16 ?_
  refine TT_iald hK (o := 70) (n := 100) (by decide) rfl (by first | omega | (simp [up, setR] <;> omega)) (by first | omega | (simp [up, setR] <;> omega)) (v := (h 70) (p + 1)) rfl dX4_inRow_17 ?_
  refine TT_iconst hK dX4_inRow_18 ?_
  refine TT_iand hK dX4_inRow_19 ?_
  refine TT_cgI (iand_m ((h 70) (p + 1)) 1 (by decide)) ?_
  show TT K ly 0 0 20 [(0, vR 67), (1, vI p)] (vI (((h 70) (p + 1)) % 2) :: [vI (((h 70) (p - 1)) % 2)]) h
  refine TT_iadd hK dX4_inRow_20 ?_
  refine TT_iret hK hQ ?_ dX4_inRow_21
  exact ⟨congrArg (fun z => some (vI z)) (by unfold rowS; omega), rfl⟩
set_option maxRecDepth 20000 in
theorem c_X4_inColumn_67 (p : Int) (h : Hp_) (hp : 11 ≤ p ∧ p ≤ 88) (haw : ∀ j, 0 ≤ j → j < 100 → -1 ≤ (h 70) j ∧ (h 70) j ≤ 1) : Ctr yX4_inColumn cX4_inColumn 2 (some .int) (rmd 0) ly ly 0 0 [vR 67, vI p] h (fun r h' => r = some (vI (colS (h 70) p)) ∧ h' = h) := by
  refine Ctr_of (by decide) (Nat.le_of_ble_eq_true rfl) ⟨Nat.le_refl _, Nat.le_refl _⟩ (fun K hK hQ _ => ?_)
  show TT K ly 0 0 0 [(0, vR 67), (1, vI p)] [] h
  have a0 := hS_mod (haw (p - 10) (by omega) (by omega))
  have a1 := hS_mod (haw (p + 10) (by omega) (by omega))
  refine TT_aload_n hK rfl 0 rfl dX4_inColumn_0 ?_
  refine gf_X4_18 hK (by decide) rfl (q := 70) rfl rfl dX4_inColumn_1 ?_
  refine TT_iload_n hK rfl 1 rfl dX4_inColumn_4 ?_
  refine TT_bipush hK (by decide) dX4_inColumn_5 ?_
  refine TT_isub hK dX4_inColumn_7 ?_
  refine TT_iald hK (o := 70) (n := 100) (by decide) rfl (by first | omega | (simp [up, setR] <;> omega)) (by first | omega | (simp [up, setR] <;> omega)) (v := (h 70) (p - 10)) rfl dX4_inColumn_8 ?_
  refine TT_iconst hK dX4_inColumn_9 ?_
  refine TT_iand hK dX4_inColumn_10 ?_
  refine TT_cgI (iand_m ((h 70) (p - 10)) 1 (by decide)) ?_
  show TT K ly 0 0 11 [(0, vR 67), (1, vI p)] (vI (((h 70) (p - 10)) % 2) :: []) h
  refine TT_aload_n hK rfl 0 rfl dX4_inColumn_11 ?_
  refine gf_X4_18 hK (by decide) rfl (q := 70) rfl rfl dX4_inColumn_12 ?_
  refine TT_iload_n hK rfl 1 rfl dX4_inColumn_15 ?_
  refine TT_bipush hK (by decide) dX4_inColumn_16 ?_
  refine TT_iadd hK dX4_inColumn_18 ?_
  refine TT_iald hK (o := 70) (n := 100) (by decide) rfl (by first | omega | (simp [up, setR] <;> omega)) (by first | omega | (simp [up, setR] <;> omega)) (v := (h 70) (p + 10)) rfl dX4_inColumn_19 ?_
  refine TT_iconst hK dX4_inColumn_20 ?_
  refine TT_iand hK dX4_inColumn_21 ?_
  refine TT_cgI (iand_m ((h 70) (p + 10)) 1 (by decide)) ?_
  show TT K ly 0 0 22 [(0, vR 67), (1, vI p)] (vI (((h 70) (p + 10)) % 2) :: [vI (((h 70) (p - 10)) % 2)]) h
  refine TT_iadd hK dX4_inColumn_22 ?_
  refine TT_iret hK hQ ?_ dX4_inColumn_23
  exact ⟨congrArg (fun z => some (vI z)) (by unfold colS; omega), rfl⟩
set_option maxRecDepth 20000 in
theorem c_X4_acrossCorners_67 (p : Int) (h : Hp_) (hp : 11 ≤ p ∧ p ≤ 88) (haw : ∀ j, 0 ≤ j → j < 100 → -1 ≤ (h 70) j ∧ (h 70) j ≤ 1) : Ctr yX4_acrossCorners cX4_acrossCorners 2 (some .int) (rmd 0) ly ly 0 0 [vR 67, vI p] h (fun r h' => r = some (vI (acrS (h 70) p)) ∧ h' = h) := by
  refine Ctr_of (by decide) (Nat.le_of_ble_eq_true rfl) ⟨Nat.le_refl _, Nat.le_refl _⟩ (fun K hK hQ _ => ?_)
  show TT K ly 0 0 0 [(0, vR 67), (1, vI p)] [] h
  have a0 := hS_mod (haw (p - 11) (by omega) (by omega))
  have a1 := hS_mod (haw (p - 9) (by omega) (by omega))
  have a2 := hS_mod (haw (p + 9) (by omega) (by omega))
  have a3 := hS_mod (haw (p + 11) (by omega) (by omega))
  refine TT_aload_n hK rfl 0 rfl dX4_acrossCorners_0 ?_
  refine gf_X4_18 hK (by decide) rfl (q := 70) rfl rfl dX4_acrossCorners_1 ?_
  refine TT_iload_n hK rfl 1 rfl dX4_acrossCorners_4 ?_
  refine TT_bipush hK (by decide) dX4_acrossCorners_5 ?_
  refine TT_isub hK dX4_acrossCorners_7 ?_
  refine TT_iconst hK dX4_acrossCorners_8 ?_
  refine TT_isub hK dX4_acrossCorners_9 ?_
  refine TT_iald hK (o := 70) (n := 100) (by decide) rfl (by first | omega | (simp [up, setR] <;> omega)) (by first | omega | (simp [up, setR] <;> omega)) (v := (h 70) ((p - 10) - 1)) rfl dX4_acrossCorners_10 ?_
  refine TT_iconst hK dX4_acrossCorners_11 ?_
  refine TT_iand hK dX4_acrossCorners_12 ?_
  refine TT_cgI (iand_m ((h 70) ((p - 10) - 1)) 1 (by decide)) ?_
  show TT K ly 0 0 13 [(0, vR 67), (1, vI p)] (vI (((h 70) ((p - 10) - 1)) % 2) :: []) h
  refine TT_aload_n hK rfl 0 rfl dX4_acrossCorners_13 ?_
  refine gf_X4_18 hK (by decide) rfl (q := 70) rfl rfl dX4_acrossCorners_14 ?_
  refine TT_iload_n hK rfl 1 rfl dX4_acrossCorners_17 ?_
  refine TT_bipush hK (by decide) dX4_acrossCorners_18 ?_
  refine TT_isub hK dX4_acrossCorners_20 ?_
  refine TT_iconst hK dX4_acrossCorners_21 ?_
  refine TT_iadd hK dX4_acrossCorners_22 ?_
  refine TT_iald hK (o := 70) (n := 100) (by decide) rfl (by first | omega | (simp [up, setR] <;> omega)) (by first | omega | (simp [up, setR] <;> omega)) (v := (h 70) ((p - 10) + 1)) rfl dX4_acrossCorners_23 ?_
  refine TT_iconst hK dX4_acrossCorners_24 ?_
  refine TT_iand hK dX4_acrossCorners_25 ?_
  refine TT_cgI (iand_m ((h 70) ((p - 10) + 1)) 1 (by decide)) ?_
  show TT K ly 0 0 26 [(0, vR 67), (1, vI p)] (vI (((h 70) ((p - 10) + 1)) % 2) :: [vI (((h 70) ((p - 10) - 1)) % 2)]) h
  refine TT_iadd hK dX4_acrossCorners_26 ?_
  refine TT_aload_n hK rfl 0 rfl dX4_acrossCorners_27 ?_
  refine gf_X4_18 hK (by decide) rfl (q := 70) rfl rfl dX4_acrossCorners_28 ?_
  refine TT_iload_n hK rfl 1 rfl dX4_acrossCorners_31 ?_
  refine TT_bipush hK (by decide) dX4_acrossCorners_32 ?_
  refine TT_iadd hK dX4_acrossCorners_34 ?_
  refine TT_iconst hK dX4_acrossCorners_35 ?_
  refine TT_isub hK dX4_acrossCorners_36 ?_
  refine TT_iald hK (o := 70) (n := 100) (by decide) rfl (by first | omega | (simp [up, setR] <;> omega)) (by first | omega | (simp [up, setR] <;> omega)) (v := (h 70) ((p + 10) - 1)) rfl dX4_acrossCorners_37 ?_
  refine TT_iconst hK dX4_acrossCorners_38 ?_
  refine TT_iand hK dX4_acrossCorners_39 ?_
  refine TT_cgI (iand_m ((h 70) ((p + 10) - 1)) 1 (by decide)) ?_
  show TT K ly 0 0 40 [(0, vR 67), (1, vI p)] (vI (((h 70) ((p + 10) - 1)) % 2) :: [vI ((((h 70) ((p - 10) - 1)) % 2) + (((h 70) ((p - 10) + 1)) % 2))]) h
  refine TT_iadd hK dX4_acrossCorners_40 ?_
  refine TT_aload_n hK rfl 0 rfl dX4_acrossCorners_41 ?_
  refine gf_X4_18 hK (by decide) rfl (q := 70) rfl rfl dX4_acrossCorners_42 ?_
  refine TT_iload_n hK rfl 1 rfl dX4_acrossCorners_45 ?_
  refine TT_bipush hK (by decide) dX4_acrossCorners_46 ?_
  refine TT_iadd hK dX4_acrossCorners_48 ?_
  refine TT_iconst hK dX4_acrossCorners_49 ?_
  refine TT_iadd hK dX4_acrossCorners_50 ?_
  refine TT_iald hK (o := 70) (n := 100) (by decide) rfl (by first | omega | (simp [up, setR] <;> omega)) (by first | omega | (simp [up, setR] <;> omega)) (v := (h 70) ((p + 10) + 1)) rfl dX4_acrossCorners_51 ?_
  refine TT_iconst hK dX4_acrossCorners_52 ?_
  refine TT_iand hK dX4_acrossCorners_53 ?_
  refine TT_cgI (iand_m ((h 70) ((p + 10) + 1)) 1 (by decide)) ?_
  show TT K ly 0 0 54 [(0, vR 67), (1, vI p)] (vI (((h 70) ((p + 10) + 1)) % 2) :: [vI (((((h 70) ((p - 10) - 1)) % 2) + (((h 70) ((p - 10) + 1)) % 2)) + (((h 70) ((p + 10) - 1)) % 2))]) h
  refine TT_iadd hK dX4_acrossCorners_54 ?_
  refine TT_iret hK hQ ?_ dX4_acrossCorners_55
  exact ⟨congrArg (fun z => some (vI z)) (by unfold acrS; rw [show p - 10 - 1 = p - 11 by omega, show p - 10 + 1 = p - 9 by omega, show p + 10 - 1 = p + 9 by omega, show p + 10 + 1 = p + 11 by omega]; omega), rfl⟩
set_option maxRecDepth 20000 in
theorem c_X4_contextOf_67 (p : Int) (h : Hp_) (hp : 11 ≤ p ∧ p ≤ 88) (haw : ∀ j, 0 ≤ j → j < 100 → -1 ≤ (h 70) j ∧ (h 70) j ≤ 1) (hkd : 0 ≤ (h 67 8) ∧ (h 67 8) ≤ 2) : Ctr yX4_contextOf cX4_contextOf 5 (some .int) (rmd 1) ly ly 0 0 [vR 67, vI p] h (fun r h' => r = some (vI (ctxS (h 70) (h 67 8) p)) ∧ h' = h) := by
  refine Ctr_of (by decide) (Nat.le_of_ble_eq_true rfl) ⟨Nat.le_refl _, Nat.le_refl _⟩ (fun K hK hQ _ => ?_)
  show TT K ly 0 0 0 [(0, vR 67), (1, vI p)] [] h
  refine TT_aload_n hK rfl 0 rfl dX4_contextOf_0 ?_
  refine TT_iload_n hK rfl 1 rfl dX4_contextOf_1 ?_
  refine iv_X4_92 hK (c_X4_inRow_67 p h (by first | omega | (simp [up, setR] <;> omega)) (by exact haw)) (by decide) rfl ⟨by decide, by decide⟩ (by decide) rfl rfl (Nat.le_of_ble_eq_true rfl) ⟨by decide, by decide⟩ dX4_contextOf_2 ?_
  intro r9 h9 hp9
  rw [hp9.1, hp9.2]
  show TT K ly 0 0 5 [(0, vR 67), (1, vI p)] [vI (rowS (h 70) p)] h
  have r1 := rowS_r (h 70) p
  have r2 := colS_r (h 70) p
  have r3 := acrS_r (h 70) p
  refine TT_istore_n hK rfl (lv' := [(2, vI (rowS (h 70) p)), (0, vR 67), (1, vI p)]) (by decide) rfl dX4_contextOf_5 ?_
  refine TT_aload_n hK rfl 1 rfl dX4_contextOf_6 ?_
  refine TT_iload_n hK rfl 2 rfl dX4_contextOf_7 ?_
  refine iv_X4_95 hK (c_X4_inColumn_67 p h (by first | omega | (simp [up, setR] <;> omega)) (by exact haw)) (by decide) rfl ⟨by decide, by decide⟩ (by decide) rfl rfl (Nat.le_of_ble_eq_true rfl) ⟨by decide, by decide⟩ dX4_contextOf_8 ?_
  intro r9 h9 hp9
  rw [hp9.1, hp9.2]
  show TT K ly 0 0 11 [(2, vI (rowS (h 70) p)), (0, vR 67), (1, vI p)] [vI (colS (h 70) p)] h
  refine TT_istore_n hK rfl (lv' := [(3, vI (colS (h 70) p)), (2, vI (rowS (h 70) p)), (0, vR 67), (1, vI p)]) (by decide) rfl dX4_contextOf_11 ?_
  refine TT_aload_n hK rfl 2 rfl dX4_contextOf_12 ?_
  refine TT_iload_n hK rfl 3 rfl dX4_contextOf_13 ?_
  refine iv_X4_98 hK (c_X4_acrossCorners_67 p h (by first | omega | (simp [up, setR] <;> omega)) (by exact haw)) (by decide) rfl ⟨by decide, by decide⟩ (by decide) rfl rfl (Nat.le_of_ble_eq_true rfl) ⟨by decide, by decide⟩ dX4_contextOf_14 ?_
  intro r9 h9 hp9
  rw [hp9.1, hp9.2]
  show TT K ly 0 0 17 [(3, vI (colS (h 70) p)), (2, vI (rowS (h 70) p)), (0, vR 67), (1, vI p)] [vI (acrS (h 70) p)] h
  refine TT_istore hK (lv' := [(4, vI (acrS (h 70) p)), (3, vI (colS (h 70) p)), (2, vI (rowS (h 70) p)), (0, vR 67), (1, vI p)]) (by decide) rfl dX4_contextOf_17 ?_
  refine TT_aload_n hK rfl 3 rfl dX4_contextOf_19 ?_
  refine gf_X4_39 hK (by decide) rfl (v := (h 67) 8) rfl dX4_contextOf_20 ?_
  refine TT_iconst hK dX4_contextOf_23 ?_
  refine TT_icmp_ne hK (tgt := 36) (irm (by omega) (by omega)) (by decide) dX4_contextOf_24 (by decide) (fun hb24 => ?_) (fun hb24 => ?_)
  · refine TT_aload_n hK rfl 3 rfl dX4_contextOf_36 ?_
    refine gf_X4_39 hK (by decide) rfl (v := (h 67) 8) rfl dX4_contextOf_37 ?_
    refine TT_iconst hK dX4_contextOf_40 ?_
    refine TT_icmp_ne hK (tgt := 54) (irm (by omega) (by omega)) (by decide) dX4_contextOf_41 (by decide) (fun hb41 => ?_) (fun hb41 => ?_)
    · refine TT_iload_n hK rfl 2 rfl dX4_contextOf_54 ?_
      refine TT_iload_n hK rfl 1 rfl dX4_contextOf_55 ?_
      refine TT_iload hK 0 rfl dX4_contextOf_56 ?_
      refine iv_X4_122 hK (c_X4_rowFirst (rowS (h 70) p) (colS (h 70) p) (acrS (h 70) p) h (by first | omega | (simp [up, setR] <;> omega)) (by first | omega | (simp [up, setR] <;> omega)) (by first | omega | (simp [up, setR] <;> omega))) ⟨by decide, by decide⟩ (by decide) rfl rfl (Nat.le_of_ble_eq_true rfl) ⟨by decide, by decide⟩ dX4_contextOf_58 ?_
      intro r9 h9 hp9
      rw [hp9.1, hp9.2]
      show TT K ly 0 0 61 [(4, vI (acrS (h 70) p)), (3, vI (colS (h 70) p)), (2, vI (rowS (h 70) p)), (0, vR 67), (1, vI p)] [vI (rfS (rowS (h 70) p) (colS (h 70) p) (acrS (h 70) p))] h
      refine TT_iret hK hQ ?_ dX4_contextOf_61
      exact ⟨congrArg (fun z => some (vI z)) (by unfold ctxS cxS; first | rw [if_pos (by omega)] | (rw [if_neg (by omega), if_pos (by omega)]) | (rw [if_neg (by omega), if_neg (by omega)])), rfl⟩
    · refine TT_iload_n hK rfl 1 rfl dX4_contextOf_44 ?_
      refine TT_iload_n hK rfl 2 rfl dX4_contextOf_45 ?_
      refine TT_iload hK 0 rfl dX4_contextOf_46 ?_
      refine iv_X4_122 hK (c_X4_rowFirst (colS (h 70) p) (rowS (h 70) p) (acrS (h 70) p) h (by first | omega | (simp [up, setR] <;> omega)) (by first | omega | (simp [up, setR] <;> omega)) (by first | omega | (simp [up, setR] <;> omega))) ⟨by decide, by decide⟩ (by decide) rfl rfl (Nat.le_of_ble_eq_true rfl) ⟨by decide, by decide⟩ dX4_contextOf_48 ?_
      intro r9 h9 hp9
      rw [hp9.1, hp9.2]
      show TT K ly 0 0 51 [(4, vI (acrS (h 70) p)), (3, vI (colS (h 70) p)), (2, vI (rowS (h 70) p)), (0, vR 67), (1, vI p)] [vI (rfS (colS (h 70) p) (rowS (h 70) p) (acrS (h 70) p))] h
      refine TT_goto hK (tgt := 61) dX4_contextOf_51 (by decide) ?_
      refine TT_iret hK hQ ?_ dX4_contextOf_61
      exact ⟨congrArg (fun z => some (vI z)) (by unfold ctxS cxS; first | rw [if_pos (by omega)] | (rw [if_neg (by omega), if_pos (by omega)]) | (rw [if_neg (by omega), if_neg (by omega)])), rfl⟩
  · refine TT_iload_n hK rfl 2 rfl dX4_contextOf_27 ?_
    refine TT_iload_n hK rfl 1 rfl dX4_contextOf_28 ?_
    refine TT_iadd hK dX4_contextOf_29 ?_
    refine TT_iload hK 0 rfl dX4_contextOf_30 ?_
    refine iv_X4_119 hK (c_X4_cornersFirst ((rowS (h 70) p) + (colS (h 70) p)) (acrS (h 70) p) h (by first | omega | (simp [up, setR] <;> omega)) (by first | omega | (simp [up, setR] <;> omega))) ⟨by decide, by decide⟩ (by decide) rfl rfl (Nat.le_of_ble_eq_true rfl) ⟨by decide, by decide⟩ dX4_contextOf_32 ?_
    intro r9 h9 hp9
    rw [hp9.1, hp9.2]
    show TT K ly 0 0 35 [(4, vI (acrS (h 70) p)), (3, vI (colS (h 70) p)), (2, vI (rowS (h 70) p)), (0, vR 67), (1, vI p)] [vI (cfS ((rowS (h 70) p) + (colS (h 70) p)) (acrS (h 70) p))] h
    refine TT_iret hK hQ ?_ dX4_contextOf_35
    exact ⟨congrArg (fun z => some (vI z)) (by unfold ctxS cxS; first | rw [if_pos (by omega)] | (rw [if_neg (by omega), if_pos (by omega)]) | (rw [if_neg (by omega), if_neg (by omega)])), rfl⟩
set_option maxRecDepth 20000 in
theorem c_X4_meantBit_67 (p : Int) (h : Hp_) (hp : 11 ≤ p ∧ p ≤ 88) (hpl : 0 ≤ (h 67 9) ∧ (h 67 9) ≤ 12) (hm : -1000000 ≤ (h 68) p ∧ (h 68) p ≤ 1000000) : Ctr yX4_meantBit cX4_meantBit 2 (some .int) (rmd 1) ly ly 0 0 [vR 67, vI p] h (fun r h' => r = some (vI (((Int.natAbs ((h 68) p) : Int) / 2 ^ ((h 67 9)).toNat) % 2)) ∧ h' = h) := by
  refine Ctr_of (by decide) (Nat.le_of_ble_eq_true rfl) ⟨Nat.le_refl _, Nat.le_refl _⟩ (fun K hK hQ _ => ?_)
  show TT K ly 0 0 0 [(0, vR 67), (1, vI p)] [] h
  refine TT_aload_n hK rfl 0 rfl dX4_meantBit_0 ?_
  refine gf_X4_11 hK (by decide) rfl (q := 68) rfl rfl dX4_meantBit_1 ?_
  refine TT_iload_n hK rfl 1 rfl dX4_meantBit_4 ?_
  refine TT_iald hK (o := 68) (n := 100) (by decide) rfl (by first | omega | (simp [up, setR] <;> omega)) (by first | omega | (simp [up, setR] <;> omega)) (v := (h 68) p) rfl dX4_meantBit_5 ?_
  refine TT_mabs hK (irm (by omega) (by omega)) iw_X4_114 (by decide) (Nat.le_of_ble_eq_true rfl) ⟨by decide, by decide⟩ dX4_meantBit_6 ?_
  refine TT_aload_n hK rfl 0 rfl dX4_meantBit_9 ?_
  refine gf_X4_55 hK (by decide) rfl (v := (h 67) 9) rfl dX4_meantBit_10 ?_
  refine TT_ishr hK (irm (by omega) (by omega)) (by omega) (by omega) dX4_meantBit_13 ?_
  refine TT_iconst hK dX4_meantBit_14 ?_
  refine TT_iand hK dX4_meantBit_15 ?_
  refine TT_cgI (iand_m ((Int.natAbs ((h 68) p) : Int) / 2 ^ ((h 67) 9).toNat) 1 (by decide)) ?_
  show TT K ly 0 0 16 [(0, vR 67), (1, vI p)] (vI (((Int.natAbs ((h 68) p) : Int) / 2 ^ ((h 67) 9).toNat) % 2) :: []) h
  refine TT_iret hK hQ ?_ dX4_meantBit_16
  exact ⟨congrArg (fun z => some (vI z)) (by rfl), rfl⟩

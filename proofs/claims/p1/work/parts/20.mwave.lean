set_option maxRecDepth 20000 in
theorem c_floor_1 (v : Int) (h : Hp_) (hv : ir_ v) : Ctr yX12_floor cX12_floor 4 (some .int) (rmd 0) ly ly 0 0 [vI v, vI 1] h (fun r h' => r = some (vI (v / 2)) ∧ h' = h) := by
  refine Ctr_of (by decide) (Nat.le_of_ble_eq_true rfl) ⟨Nat.le_refl _, Nat.le_refl _⟩ (fun K hK hQ _ => ?_)
  show TT K ly 0 0 0 [(0, vI v), (1, vI 1)] [] h
  refine TT_iconst hK dX12_floor_0 ?_
  refine TT_iload_n hK rfl 1 rfl dX12_floor_1 ?_
  refine TT_ishl hK (by omega) (by omega) dX12_floor_2 ?_
  refine TT_cgI (b := 1 * 2) rfl ?_
  refine TT_cgI (b := 2) (by rfl) ?_
  refine TT_istore_n hK rfl (lv' := [(2, vI 2), (0, vI v), (1, vI 1)]) (by decide) rfl dX12_floor_3 ?_
  refine TT_iload_n hK rfl 1 rfl dX12_floor_4 ?_
  refine TT_iload_n hK rfl 0 rfl dX12_floor_5 ?_
  refine TT_idiv hK (irm (by omega) (by omega)) (by decide) (by omega) dX12_floor_6 ?_
  refine TT_istore_n hK rfl (lv' := [(3, vI (Int.tdiv v 2)), (2, vI 2), (0, vI v), (1, vI 1)]) (by decide) rfl dX12_floor_7 ?_
  refine TT_iload_n hK rfl 2 rfl dX12_floor_8 ?_
  refine TT_iload_n hK rfl 1 rfl dX12_floor_9 ?_
  refine TT_irem hK (irm (by omega) (by omega)) (by decide) (by omega) dX12_floor_10 ?_
  have t1 := Int.lt_tmod_of_pos v (show (0 : Int) < 2 by decide)
  have t2 := Int.tmod_lt_of_pos v (show (0 : Int) < 2 by decide)
  refine TT_if_ge hK (tgt := 20) (irm (by omega) (by omega)) dX12_floor_11 (by decide) (fun hb11 => ?_) (fun hb11 => ?_)
  · refine TT_iload_n hK rfl 0 rfl dX12_floor_20 ?_
    refine TT_iret hK hQ ?_ dX12_floor_21
    exact ⟨congrArg (fun z => some (vI z)) (by first | exact fl_neg (by decide) (by omega) | exact fl_pos (by decide) (by omega)), rfl⟩
  · refine TT_iload_n hK rfl 0 rfl dX12_floor_14 ?_
    refine TT_iconst hK dX12_floor_15 ?_
    refine TT_isub hK dX12_floor_16 ?_
    refine TT_goto hK (tgt := 21) dX12_floor_17 (by decide) ?_
    refine TT_iret hK hQ ?_ dX12_floor_21
    exact ⟨congrArg (fun z => some (vI z)) (by first | exact fl_neg (by decide) (by omega) | exact fl_pos (by decide) (by omega)), rfl⟩
set_option maxRecDepth 20000 in
theorem c_floor_2 (v : Int) (h : Hp_) (hv : ir_ v) : Ctr yX12_floor cX12_floor 4 (some .int) (rmd 0) ly ly 0 0 [vI v, vI 2] h (fun r h' => r = some (vI (v / 4)) ∧ h' = h) := by
  refine Ctr_of (by decide) (Nat.le_of_ble_eq_true rfl) ⟨Nat.le_refl _, Nat.le_refl _⟩ (fun K hK hQ _ => ?_)
  show TT K ly 0 0 0 [(0, vI v), (1, vI 2)] [] h
  refine TT_iconst hK dX12_floor_0 ?_
  refine TT_iload_n hK rfl 1 rfl dX12_floor_1 ?_
  refine TT_ishl hK (by omega) (by omega) dX12_floor_2 ?_
  refine TT_cgI (b := 1 * 4) rfl ?_
  refine TT_cgI (b := 4) (by rfl) ?_
  refine TT_istore_n hK rfl (lv' := [(2, vI 4), (0, vI v), (1, vI 2)]) (by decide) rfl dX12_floor_3 ?_
  refine TT_iload_n hK rfl 1 rfl dX12_floor_4 ?_
  refine TT_iload_n hK rfl 0 rfl dX12_floor_5 ?_
  refine TT_idiv hK (irm (by omega) (by omega)) (by decide) (by omega) dX12_floor_6 ?_
  refine TT_istore_n hK rfl (lv' := [(3, vI (Int.tdiv v 4)), (2, vI 4), (0, vI v), (1, vI 2)]) (by decide) rfl dX12_floor_7 ?_
  refine TT_iload_n hK rfl 2 rfl dX12_floor_8 ?_
  refine TT_iload_n hK rfl 1 rfl dX12_floor_9 ?_
  refine TT_irem hK (irm (by omega) (by omega)) (by decide) (by omega) dX12_floor_10 ?_
  have t1 := Int.lt_tmod_of_pos v (show (0 : Int) < 4 by decide)
  have t2 := Int.tmod_lt_of_pos v (show (0 : Int) < 4 by decide)
  refine TT_if_ge hK (tgt := 20) (irm (by omega) (by omega)) dX12_floor_11 (by decide) (fun hb11 => ?_) (fun hb11 => ?_)
  · refine TT_iload_n hK rfl 0 rfl dX12_floor_20 ?_
    refine TT_iret hK hQ ?_ dX12_floor_21
    exact ⟨congrArg (fun z => some (vI z)) (by first | exact fl_neg (by decide) (by omega) | exact fl_pos (by decide) (by omega)), rfl⟩
  · refine TT_iload_n hK rfl 0 rfl dX12_floor_14 ?_
    refine TT_iconst hK dX12_floor_15 ?_
    refine TT_isub hK dX12_floor_16 ?_
    refine TT_goto hK (tgt := 21) dX12_floor_17 (by decide) ?_
    refine TT_iret hK hQ ?_ dX12_floor_21
    exact ⟨congrArg (fun z => some (vI z)) (by first | exact fl_neg (by decide) (by omega) | exact fl_pos (by decide) (by omega)), rfl⟩
set_option maxRecDepth 20000 in
theorem c_X12_mirrored_73 (i n : Int) (h : Hp_) (hi : 0 ≤ i ∧ i ≤ n) (hn : 2 ≤ n ∧ n ≤ 8) : Ctr yX12_mirrored cX12_mirrored 3 (some .int) (rmd 0) ly ly 0 0 [vR 73, vI i, vI n] h (fun r h' => r = some (vI ((h 78) (if i < n then i else 2 * n - 2 - i))) ∧ h' = h) := by
  refine Ctr_of (by decide) (Nat.le_of_ble_eq_true rfl) ⟨Nat.le_refl _, Nat.le_refl _⟩ (fun K hK hQ _ => ?_)
  show TT K ly 0 0 0 [(0, vR 73), (1, vI i), (2, vI n)] [] h
  refine TT_aload_n hK rfl 0 rfl dX12_mirrored_0 ?_
  refine gf_X12_29 hK (by decide) rfl (q := 78) rfl rfl dX12_mirrored_1 ?_
  refine TT_iload_n hK rfl 1 rfl dX12_mirrored_4 ?_
  refine TT_iload_n hK rfl 2 rfl dX12_mirrored_5 ?_
  refine TT_icmp_ge hK (tgt := 13) (irm (by omega) (by omega)) (irm (by omega) (by omega)) dX12_mirrored_6 (by decide) (fun hb6 => ?_) (fun hb6 => ?_)
  · refine TT_iconst hK dX12_mirrored_13 ?_
    refine TT_iload_n hK rfl 2 rfl dX12_mirrored_14 ?_
    refine TT_imul hK dX12_mirrored_15 ?_
    refine TT_iconst hK dX12_mirrored_16 ?_
    refine TT_isub hK dX12_mirrored_17 ?_
    refine TT_iload_n hK rfl 1 rfl dX12_mirrored_18 ?_
    refine TT_isub hK dX12_mirrored_19 ?_
    refine TT_iald hK (o := 78) (n := 8) (by decide) rfl (by first | omega | (simp [up, setR] <;> omega)) (by first | omega | (simp [up, setR] <;> omega)) (v := (h 78) (((2 * n) - 2) - i)) rfl dX12_mirrored_20 ?_
    refine TT_iret hK hQ ?_ dX12_mirrored_21
    exact ⟨congrArg (fun z => some (vI z)) (by first | rw [if_pos (by omega)] | rw [if_neg (by omega)]), rfl⟩
  · refine TT_iload_n hK rfl 1 rfl dX12_mirrored_9 ?_
    refine TT_goto hK (tgt := 20) dX12_mirrored_10 (by decide) ?_
    refine TT_iald hK (o := 78) (n := 8) (by decide) rfl (by first | omega | (simp [up, setR] <;> omega)) (by first | omega | (simp [up, setR] <;> omega)) (v := (h 78) i) rfl dX12_mirrored_20 ?_
    refine TT_iret hK hQ ?_ dX12_mirrored_21
    exact ⟨congrArg (fun z => some (vI z)) (by first | rw [if_pos (by omega)] | rw [if_neg (by omega)]), rfl⟩
set_option maxRecDepth 20000 in
theorem c_X12_detail_73 (k n B : Int) (h : Hp_) (hk : -8 ≤ k ∧ k ≤ 8) (hn : 2 ≤ n ∧ n ≤ 8) (hbd : bdr (h 78) n B) (hB : 0 ≤ B ∧ B ≤ 100000000) : Ctr yX12_detail cX12_detail 4 (some .int) (rmd 1) ly ly 0 0 [vR 73, vI k, vI n] h (fun r h' => r = some (vI (dl (h 78) n (ck k n))) ∧ h' = h) := by
  refine Ctr_of (by decide) (Nat.le_of_ble_eq_true rfl) ⟨Nat.le_refl _, Nat.le_refl _⟩ (fun K hK hQ _ => ?_)
  show TT K ly 0 0 0 [(0, vR 73), (1, vI k), (2, vI n)] [] h
  refine TT_iload_n hK rfl 1 rfl dX12_detail_0 ?_
  refine TT_if_ge hK (tgt := 8) (irm (by omega) (by omega)) dX12_detail_1 (by decide) (fun hb1 => ?_) (fun hb1 => ?_)
  · refine TT_iload_n hK rfl 1 rfl dX12_detail_8 ?_
    refine TT_iload_n hK rfl 2 rfl dX12_detail_9 ?_
    refine TT_iconst hK dX12_detail_10 ?_
    refine TT_idivn hK (irm (by omega) (by omega)) (by decide) (by first | omega | (simp [up, setR] <;> omega)) (by first | omega | (simp [up, setR] <;> omega)) dX12_detail_11 ?_
    refine TT_icmp_lt hK (tgt := 23) (irm (by omega) (by omega)) (irm (by omega) (by omega)) dX12_detail_12 (by decide) (fun hb12 => ?_) (fun hb12 => ?_)
    · refine TT_iload_n hK rfl 1 rfl dX12_detail_23 ?_
      refine TT_nmI (fun i hi => ?_)
      refine TT_istore_n hK rfl (lv' := [(3, vI i), (0, vR 73), (1, vI k), (2, vI n)]) (by decide) rfl dX12_detail_24 ?_
      refine TT_aload_n hK rfl 1 rfl dX12_detail_25 ?_
      refine gf_X12_29 hK (by decide) rfl (q := 78) rfl rfl dX12_detail_26 ?_
      refine TT_iconst hK dX12_detail_29 ?_
      refine TT_iload_n hK rfl 0 rfl dX12_detail_30 ?_
      refine TT_imul hK dX12_detail_31 ?_
      refine TT_iconst hK dX12_detail_32 ?_
      refine TT_iadd hK dX12_detail_33 ?_
      refine TT_iald hK (o := 78) (n := 8) (by decide) rfl (by first | omega | (simp [up, setR] <;> omega)) (by first | omega | (simp [up, setR] <;> omega)) (v := (h 78) ((2 * i) + 1)) rfl dX12_detail_34 ?_
      refine TT_aload_n hK rfl 1 rfl dX12_detail_35 ?_
      refine TT_iconst hK dX12_detail_36 ?_
      refine TT_iload_n hK rfl 0 rfl dX12_detail_37 ?_
      refine TT_imul hK dX12_detail_38 ?_
      refine TT_iload_n hK rfl 3 rfl dX12_detail_39 ?_
      refine iv_X12_129 hK (c_X12_mirrored_73 (2 * i) n h (by first | omega | (simp [up, setR] <;> omega)) (by first | omega | (simp [up, setR] <;> omega))) (by decide) rfl ⟨by decide, by decide⟩ (by decide) rfl rfl (Nat.le_of_ble_eq_true rfl) ⟨by decide, by decide⟩ dX12_detail_40 ?_
      intro r9 h9 hp9
      rw [hp9.1, hp9.2]
      show TT K ly 0 0 43 [(3, vI i), (0, vR 73), (1, vI k), (2, vI n)] [vI ((h 78) (if (2 * i) < n then (2 * i) else 2 * n - 2 - (2 * i))), vI ((h 78) ((2 * i) + 1))] h
      refine TT_cgI (b := h 78 (2 * i)) (by rw [if_pos (by omega)]) ?_
      refine TT_aload_n hK rfl 1 rfl dX12_detail_43 ?_
      refine TT_iconst hK dX12_detail_44 ?_
      refine TT_iload_n hK rfl 0 rfl dX12_detail_45 ?_
      refine TT_imul hK dX12_detail_46 ?_
      refine TT_iconst hK dX12_detail_47 ?_
      refine TT_iadd hK dX12_detail_48 ?_
      refine TT_iload_n hK rfl 3 rfl dX12_detail_49 ?_
      refine iv_X12_129 hK (c_X12_mirrored_73 ((2 * i) + 2) n h (by first | omega | (simp [up, setR] <;> omega)) (by first | omega | (simp [up, setR] <;> omega))) (by decide) rfl ⟨by decide, by decide⟩ (by decide) rfl rfl (Nat.le_of_ble_eq_true rfl) ⟨by decide, by decide⟩ dX12_detail_50 ?_
      intro r9 h9 hp9
      rw [hp9.1, hp9.2]
      show TT K ly 0 0 53 [(3, vI i), (0, vR 73), (1, vI k), (2, vI n)] [vI ((h 78) (if ((2 * i) + 2) < n then ((2 * i) + 2) else 2 * n - 2 - ((2 * i) + 2))), vI (h 78 (2 * i)), vI ((h 78) ((2 * i) + 1))] h
      refine TT_cgI (b := h 78 (if 2 * i + 2 < n then 2 * i + 2 else 2 * i)) (by congr 1; split <;> omega) ?_
      refine TT_iadd hK dX12_detail_53 ?_
      refine TT_iconst hK dX12_detail_54 ?_
      have b1 := hbd (2 * i) (by omega) (by omega)
      have b2 := hbd (if 2 * i + 2 < n then 2 * i + 2 else 2 * i) (by split <;> omega) (by split <;> omega)
      refine iv_X12_133 hK (c_floor_1 ((h 78 (2 * i)) + (h 78 (if 2 * i + 2 < n then 2 * i + 2 else 2 * i))) h (by first | omega | (simp [up, setR] <;> omega))) ⟨by decide, by decide⟩ (by decide) rfl rfl (Nat.le_of_ble_eq_true rfl) ⟨by decide, by decide⟩ dX12_detail_55 ?_
      intro r9 h9 hp9
      rw [hp9.1, hp9.2]
      show TT K ly 0 0 58 [(3, vI i), (0, vR 73), (1, vI k), (2, vI n)] [vI (((h 78 (2 * i)) + (h 78 (if 2 * i + 2 < n then 2 * i + 2 else 2 * i))) / 2), vI ((h 78) ((2 * i) + 1))] h
      refine TT_isub hK dX12_detail_58 ?_
      refine TT_iret hK hQ ?_ dX12_detail_59
      exact ⟨congrArg (fun z => some (vI z)) (by rw [show ck k n = i by unfold ck; (repeat' split) <;> omega]; rfl), rfl⟩
    · refine TT_iload_n hK rfl 2 rfl dX12_detail_15 ?_
      refine TT_iconst hK dX12_detail_16 ?_
      refine TT_idivn hK (irm (by omega) (by omega)) (by decide) (by first | omega | (simp [up, setR] <;> omega)) (by first | omega | (simp [up, setR] <;> omega)) dX12_detail_17 ?_
      refine TT_iconst hK dX12_detail_18 ?_
      refine TT_isub hK dX12_detail_19 ?_
      refine TT_goto hK (tgt := 24) dX12_detail_20 (by decide) ?_
      refine TT_nmI (fun i hi => ?_)
      refine TT_istore_n hK rfl (lv' := [(3, vI i), (0, vR 73), (1, vI k), (2, vI n)]) (by decide) rfl dX12_detail_24 ?_
      refine TT_aload_n hK rfl 1 rfl dX12_detail_25 ?_
      refine gf_X12_29 hK (by decide) rfl (q := 78) rfl rfl dX12_detail_26 ?_
      refine TT_iconst hK dX12_detail_29 ?_
      refine TT_iload_n hK rfl 0 rfl dX12_detail_30 ?_
      refine TT_imul hK dX12_detail_31 ?_
      refine TT_iconst hK dX12_detail_32 ?_
      refine TT_iadd hK dX12_detail_33 ?_
      refine TT_iald hK (o := 78) (n := 8) (by decide) rfl (by first | omega | (simp [up, setR] <;> omega)) (by first | omega | (simp [up, setR] <;> omega)) (v := (h 78) ((2 * i) + 1)) rfl dX12_detail_34 ?_
      refine TT_aload_n hK rfl 1 rfl dX12_detail_35 ?_
      refine TT_iconst hK dX12_detail_36 ?_
      refine TT_iload_n hK rfl 0 rfl dX12_detail_37 ?_
      refine TT_imul hK dX12_detail_38 ?_
      refine TT_iload_n hK rfl 3 rfl dX12_detail_39 ?_
      refine iv_X12_129 hK (c_X12_mirrored_73 (2 * i) n h (by first | omega | (simp [up, setR] <;> omega)) (by first | omega | (simp [up, setR] <;> omega))) (by decide) rfl ⟨by decide, by decide⟩ (by decide) rfl rfl (Nat.le_of_ble_eq_true rfl) ⟨by decide, by decide⟩ dX12_detail_40 ?_
      intro r9 h9 hp9
      rw [hp9.1, hp9.2]
      show TT K ly 0 0 43 [(3, vI i), (0, vR 73), (1, vI k), (2, vI n)] [vI ((h 78) (if (2 * i) < n then (2 * i) else 2 * n - 2 - (2 * i))), vI ((h 78) ((2 * i) + 1))] h
      refine TT_cgI (b := h 78 (2 * i)) (by rw [if_pos (by omega)]) ?_
      refine TT_aload_n hK rfl 1 rfl dX12_detail_43 ?_
      refine TT_iconst hK dX12_detail_44 ?_
      refine TT_iload_n hK rfl 0 rfl dX12_detail_45 ?_
      refine TT_imul hK dX12_detail_46 ?_
      refine TT_iconst hK dX12_detail_47 ?_
      refine TT_iadd hK dX12_detail_48 ?_
      refine TT_iload_n hK rfl 3 rfl dX12_detail_49 ?_
      refine iv_X12_129 hK (c_X12_mirrored_73 ((2 * i) + 2) n h (by first | omega | (simp [up, setR] <;> omega)) (by first | omega | (simp [up, setR] <;> omega))) (by decide) rfl ⟨by decide, by decide⟩ (by decide) rfl rfl (Nat.le_of_ble_eq_true rfl) ⟨by decide, by decide⟩ dX12_detail_50 ?_
      intro r9 h9 hp9
      rw [hp9.1, hp9.2]
      show TT K ly 0 0 53 [(3, vI i), (0, vR 73), (1, vI k), (2, vI n)] [vI ((h 78) (if ((2 * i) + 2) < n then ((2 * i) + 2) else 2 * n - 2 - ((2 * i) + 2))), vI (h 78 (2 * i)), vI ((h 78) ((2 * i) + 1))] h
      refine TT_cgI (b := h 78 (if 2 * i + 2 < n then 2 * i + 2 else 2 * i)) (by congr 1; split <;> omega) ?_
      refine TT_iadd hK dX12_detail_53 ?_
      refine TT_iconst hK dX12_detail_54 ?_
      have b1 := hbd (2 * i) (by omega) (by omega)
      have b2 := hbd (if 2 * i + 2 < n then 2 * i + 2 else 2 * i) (by split <;> omega) (by split <;> omega)
      refine iv_X12_133 hK (c_floor_1 ((h 78 (2 * i)) + (h 78 (if 2 * i + 2 < n then 2 * i + 2 else 2 * i))) h (by first | omega | (simp [up, setR] <;> omega))) ⟨by decide, by decide⟩ (by decide) rfl rfl (Nat.le_of_ble_eq_true rfl) ⟨by decide, by decide⟩ dX12_detail_55 ?_
      intro r9 h9 hp9
      rw [hp9.1, hp9.2]
      show TT K ly 0 0 58 [(3, vI i), (0, vR 73), (1, vI k), (2, vI n)] [vI (((h 78 (2 * i)) + (h 78 (if 2 * i + 2 < n then 2 * i + 2 else 2 * i))) / 2), vI ((h 78) ((2 * i) + 1))] h
      refine TT_isub hK dX12_detail_58 ?_
      refine TT_iret hK hQ ?_ dX12_detail_59
      exact ⟨congrArg (fun z => some (vI z)) (by rw [show ck k n = i by unfold ck; (repeat' split) <;> omega]; rfl), rfl⟩
  · refine TT_iconst hK dX12_detail_4 ?_
    refine TT_goto hK (tgt := 24) dX12_detail_5 (by decide) ?_
    refine TT_nmI (fun i hi => ?_)
    refine TT_istore_n hK rfl (lv' := [(3, vI i), (0, vR 73), (1, vI k), (2, vI n)]) (by decide) rfl dX12_detail_24 ?_
    refine TT_aload_n hK rfl 1 rfl dX12_detail_25 ?_
    refine gf_X12_29 hK (by decide) rfl (q := 78) rfl rfl dX12_detail_26 ?_
    refine TT_iconst hK dX12_detail_29 ?_
    refine TT_iload_n hK rfl 0 rfl dX12_detail_30 ?_
    refine TT_imul hK dX12_detail_31 ?_
    refine TT_iconst hK dX12_detail_32 ?_
    refine TT_iadd hK dX12_detail_33 ?_
    refine TT_iald hK (o := 78) (n := 8) (by decide) rfl (by first | omega | (simp [up, setR] <;> omega)) (by first | omega | (simp [up, setR] <;> omega)) (v := (h 78) ((2 * i) + 1)) rfl dX12_detail_34 ?_
    refine TT_aload_n hK rfl 1 rfl dX12_detail_35 ?_
    refine TT_iconst hK dX12_detail_36 ?_
    refine TT_iload_n hK rfl 0 rfl dX12_detail_37 ?_
    refine TT_imul hK dX12_detail_38 ?_
    refine TT_iload_n hK rfl 3 rfl dX12_detail_39 ?_
    refine iv_X12_129 hK (c_X12_mirrored_73 (2 * i) n h (by first | omega | (simp [up, setR] <;> omega)) (by first | omega | (simp [up, setR] <;> omega))) (by decide) rfl ⟨by decide, by decide⟩ (by decide) rfl rfl (Nat.le_of_ble_eq_true rfl) ⟨by decide, by decide⟩ dX12_detail_40 ?_
    intro r9 h9 hp9
    rw [hp9.1, hp9.2]
    show TT K ly 0 0 43 [(3, vI i), (0, vR 73), (1, vI k), (2, vI n)] [vI ((h 78) (if (2 * i) < n then (2 * i) else 2 * n - 2 - (2 * i))), vI ((h 78) ((2 * i) + 1))] h
    refine TT_cgI (b := h 78 (2 * i)) (by rw [if_pos (by omega)]) ?_
    refine TT_aload_n hK rfl 1 rfl dX12_detail_43 ?_
    refine TT_iconst hK dX12_detail_44 ?_
    refine TT_iload_n hK rfl 0 rfl dX12_detail_45 ?_
    refine TT_imul hK dX12_detail_46 ?_
    refine TT_iconst hK dX12_detail_47 ?_
    refine TT_iadd hK dX12_detail_48 ?_
    refine TT_iload_n hK rfl 3 rfl dX12_detail_49 ?_
    refine iv_X12_129 hK (c_X12_mirrored_73 ((2 * i) + 2) n h (by first | omega | (simp [up, setR] <;> omega)) (by first | omega | (simp [up, setR] <;> omega))) (by decide) rfl ⟨by decide, by decide⟩ (by decide) rfl rfl (Nat.le_of_ble_eq_true rfl) ⟨by decide, by decide⟩ dX12_detail_50 ?_
    intro r9 h9 hp9
    rw [hp9.1, hp9.2]
    show TT K ly 0 0 53 [(3, vI i), (0, vR 73), (1, vI k), (2, vI n)] [vI ((h 78) (if ((2 * i) + 2) < n then ((2 * i) + 2) else 2 * n - 2 - ((2 * i) + 2))), vI (h 78 (2 * i)), vI ((h 78) ((2 * i) + 1))] h
    refine TT_cgI (b := h 78 (if 2 * i + 2 < n then 2 * i + 2 else 2 * i)) (by congr 1; split <;> omega) ?_
    refine TT_iadd hK dX12_detail_53 ?_
    refine TT_iconst hK dX12_detail_54 ?_
    have b1 := hbd (2 * i) (by omega) (by omega)
    have b2 := hbd (if 2 * i + 2 < n then 2 * i + 2 else 2 * i) (by split <;> omega) (by split <;> omega)
    refine iv_X12_133 hK (c_floor_1 ((h 78 (2 * i)) + (h 78 (if 2 * i + 2 < n then 2 * i + 2 else 2 * i))) h (by first | omega | (simp [up, setR] <;> omega))) ⟨by decide, by decide⟩ (by decide) rfl rfl (Nat.le_of_ble_eq_true rfl) ⟨by decide, by decide⟩ dX12_detail_55 ?_
    intro r9 h9 hp9
    rw [hp9.1, hp9.2]
    show TT K ly 0 0 58 [(3, vI i), (0, vR 73), (1, vI k), (2, vI n)] [vI (((h 78 (2 * i)) + (h 78 (if 2 * i + 2 < n then 2 * i + 2 else 2 * i))) / 2), vI ((h 78) ((2 * i) + 1))] h
    refine TT_isub hK dX12_detail_58 ?_
    refine TT_iret hK hQ ?_ dX12_detail_59
    exact ⟨congrArg (fun z => some (vI z)) (by rw [show ck k n = i by unfold ck; (repeat' split) <;> omega]; rfl), rfl⟩
set_option maxRecDepth 20000 in
theorem c_X12_forward_73 (n B : Int) (h : Hp_) (hn : 1 ≤ n ∧ n ≤ 8) (hbd : bdr (h 78) n B) (hB : 0 ≤ B ∧ B ≤ 100000000) : Ctr yX12_forward cX12_forward 4 none (rmd 2) ly ly 0 0 [vR 73, vI n] h (fun r h' => r = none ∧ h' = setO h 79 (fsr (h 79) 0 n (fun j => fw (h 78) n j))) := by
  refine Ctr_of (by decide) (Nat.le_of_ble_eq_true rfl) ⟨Nat.le_refl _, Nat.le_refl _⟩ (fun K hK hQ _ => ?_)
  show TT K ly 0 0 0 [(0, vR 73), (1, vI n)] [] h
  refine TT_iload_n hK rfl 1 rfl dX12_forward_0 ?_
  refine TT_iconst hK dX12_forward_1 ?_
  refine TT_iadd hK dX12_forward_2 ?_
  refine TT_iconst hK dX12_forward_3 ?_
  refine TT_idivn hK (irm (by omega) (by omega)) (by decide) (by first | omega | (simp [up, setR] <;> omega)) (by first | omega | (simp [up, setR] <;> omega)) dX12_forward_4 ?_
  refine TT_istore_n hK rfl (lv' := [(2, vI ((n + 1) / 2)), (0, vR 73), (1, vI n)]) (by decide) rfl dX12_forward_5 ?_
  refine TT_iconst hK dX12_forward_6 ?_
  refine TT_istore_n hK rfl (lv' := [(3, vI 0), (2, vI ((n + 1) / 2)), (0, vR 73), (1, vI n)]) (by decide) rfl dX12_forward_7 ?_
  have L8_1 : ∀ (k1 : Nat) (k : Int), (0 ≤ k) → (k ≤ (n + 1) / 2) → ((9 : Int) - k).toNat < k1 → TT K ly 0 0 8 [(0, vR 73), (1, vI n), (2, vI ((n + 1) / 2)), (3, vI k)] [] (setO h 79 (fsr (h 79) 0 k (fun j => fw (h 78) n j))) := by
    intro k1
    induction k1 with
    | zero => intro k hk0 hk1 hk1; exact absurd hk1 (Nat.not_lt_zero _)
    | succ k1 ih1 =>
      intro k hk0 hk1 hk1
      refine TT_iload_n hK rfl 3 rfl dX12_forward_8 ?_
      refine TT_iload_n hK rfl 2 rfl dX12_forward_9 ?_
      refine TT_icmp_ge hK (tgt := 69) (irm (by omega) (by omega)) (irm (by omega) (by omega)) dX12_forward_10 (by decide) (fun hb10 => ?_) (fun hb10 => ?_)
      · refine TT_iconst hK dX12_forward_69 ?_
        refine TT_istore_n hK rfl (lv' := [(3, vI 0), (0, vR 73), (1, vI n), (2, vI ((n + 1) / 2))]) (by decide) rfl dX12_forward_70 ?_
        have L71_3 : ∀ (k3 : Nat) (m : Int), (0 ≤ m) → (m ≤ n / 2) → ((9 : Int) - m).toNat < k3 → TT K ly 0 0 71 [(0, vR 73), (1, vI n), (2, vI ((n + 1) / 2)), (3, vI m)] [] (setO h 79 (fsr (h 79) 0 ((n + 1) / 2 + m) (fun j => fw (h 78) n j))) := by
          intro k3
          induction k3 with
          | zero => intro m hm0 hm1 hk3; exact absurd hk3 (Nat.not_lt_zero _)
          | succ k3 ih3 =>
            intro m hm0 hm1 hk3
            refine TT_iload_n hK rfl 3 rfl dX12_forward_71 ?_
            refine TT_iload_n hK rfl 1 rfl dX12_forward_72 ?_
            refine TT_iconst hK dX12_forward_73 ?_
            refine TT_idivn hK (irm (by omega) (by omega)) (by decide) (by first | omega | (simp [up, setR] <;> omega)) (by first | omega | (simp [up, setR] <;> omega)) dX12_forward_74 ?_
            refine TT_icmp_ge hK (tgt := 98) (irm (by omega) (by omega)) (irm (by omega) (by omega)) dX12_forward_75 (by decide) (fun hb75 => ?_) (fun hb75 => ?_)
            · refine TT_vret hK hQ ?_ dX12_forward_98
              exact ⟨rfl, setO_cg rfl (by congr 1; omega)⟩
            · refine TT_aload_n hK rfl 0 rfl dX12_forward_78 ?_
              refine gf_X12_32 hK (by decide) rfl (q := 79) rfl rfl dX12_forward_79 ?_
              refine TT_iload_n hK rfl 2 rfl dX12_forward_82 ?_
              refine TT_iload_n hK rfl 3 rfl dX12_forward_83 ?_
              refine TT_iadd hK dX12_forward_84 ?_
              refine TT_aload_n hK rfl 0 rfl dX12_forward_85 ?_
              refine TT_iload_n hK rfl 3 rfl dX12_forward_86 ?_
              refine TT_iload_n hK rfl 1 rfl dX12_forward_87 ?_
              have q88_78 : (setO h 79 (fsr (h 79) 0 ((n + 1) / 2 + m) (fun j => fw (h 78) n j))) 78 = h 78 := sOf_ne _ _ (by decide)
              refine iv_X12_136 hK (c_X12_detail_73 m n B (setO h 79 (fsr (h 79) 0 ((n + 1) / 2 + m) (fun j => fw (h 78) n j))) (by first | omega | (simp [up, setR] <;> omega)) (by first | omega | (simp [up, setR] <;> omega)) (by rw [q88_78]; exact hbd) (by first | omega | (simp [up, setR] <;> omega))) (by decide) rfl ⟨by decide, by decide⟩ (by decide) rfl rfl (Nat.le_of_ble_eq_true rfl) ⟨by decide, by decide⟩ dX12_forward_88 ?_
              intro r9 h9 hp9
              rw [q88_78] at hp9
              rw [hp9.1, hp9.2]
              show TT K ly 0 0 91 [(0, vR 73), (1, vI n), (2, vI ((n + 1) / 2)), (3, vI m)] [vI (dl (h 78) n (ck m n)), vI (((n + 1) / 2) + m), vR 79] (setO h 79 (fsr (h 79) 0 ((n + 1) / 2 + m) (fun j => fw (h 78) n j)))
              refine TT_iast hK (o := 79) (n := 8) (by decide) rfl (by first | omega | (simp [up, setR] <;> omega)) (by first | omega | (simp [up, setR] <;> omega)) dX12_forward_91 ?_
              refine TT_hp (h' := setO h 79 (fup (fsr (h 79) 0 ((n + 1) / 2 + m) (fun j => fw (h 78) n j)) (((n + 1) / 2) + m) (dl (h 78) n (ck m n)))) (up_can (sOf_eq _ _ _) rfl (setO_same _ _ _ _)) ?_
              refine TT_iinc hK (v := m + 1) (lv' := [(3, vI (m + 1)), (0, vR 73), (1, vI n), (2, vI ((n + 1) / 2))]) 3 rfl rfl (by decide) rfl dX12_forward_92 ?_
              refine TT_goto hK (tgt := 71) dX12_forward_95 (by decide) ?_
              refine TT_sub [1, 2, 3, 0] rfl ?_
              refine TT_hp (h' := setO h 79 (fsr (h 79) 0 ((n + 1) / 2 + (m + 1)) (fun j => fw (h 78) n j))) (setO_cg rfl (by rw [show (n + 1) / 2 + (m + 1) = ((n + 1) / 2 + m) + 1 by omega]; refine fsr_step _ (by omega) ?_; show _ = fw (h 78) n ((n + 1) / 2 + m); unfold fw; rw [if_neg (by omega), if_neg (by omega), show (n + 1) / 2 + m - (n + 1) / 2 = m by omega, show ck m n = m by unfold ck; rw [if_neg (by omega), if_pos (by omega)]])) ?_
              exact ih3 (m + 1) (by first | omega | (simp [up, setR] <;> omega)) (by first | omega | (simp [up, setR] <;> omega)) (by first | omega | (simp [up, setR] <;> omega))
        refine TT_sub [1, 2, 3, 0] rfl ?_
        refine TT_hp (h' := setO h 79 (fsr (h 79) 0 ((n + 1) / 2 + 0) (fun j => fw (h 78) n j))) (setO_cg rfl (by congr 1; omega)) ?_
        exact L71_3 ((((9 : Int) - 0).toNat) + 1) 0 (by first | omega | (simp [up, setR] <;> omega)) (by first | omega | (simp [up, setR] <;> omega)) (Nat.lt_succ_self _)
      · refine TT_aload_n hK rfl 0 rfl dX12_forward_13 ?_
        refine gf_X12_32 hK (by decide) rfl (q := 79) rfl rfl dX12_forward_14 ?_
        refine TT_iload_n hK rfl 3 rfl dX12_forward_17 ?_
        refine TT_iload_n hK rfl 1 rfl dX12_forward_18 ?_
        refine TT_iconst hK dX12_forward_19 ?_
        refine TT_icmp_ne hK (tgt := 32) (irm (by omega) (by omega)) (by decide) dX12_forward_20 (by decide) (fun hb20 => ?_) (fun hb20 => ?_)
        · refine TT_aload_n hK rfl 0 rfl dX12_forward_32 ?_
          refine gf_X12_29 hK (by decide) rfl (q := 78) rfl rfl dX12_forward_33 ?_
          refine TT_iconst hK dX12_forward_36 ?_
          refine TT_iload_n hK rfl 3 rfl dX12_forward_37 ?_
          refine TT_imul hK dX12_forward_38 ?_
          refine TT_iald hK (o := 78) (n := 8) (by decide) rfl (by first | omega | (simp [up, setR] <;> omega)) (by first | omega | (simp [up, setR] <;> omega)) (v := (h 78) (2 * k)) (rd_ (sOf_ne _ _ (by decide)) rfl) dX12_forward_39 ?_
          refine TT_aload_n hK rfl 0 rfl dX12_forward_40 ?_
          refine TT_iload_n hK rfl 3 rfl dX12_forward_41 ?_
          refine TT_iconst hK dX12_forward_42 ?_
          refine TT_isub hK dX12_forward_43 ?_
          refine TT_iload_n hK rfl 1 rfl dX12_forward_44 ?_
          have q45_78 : (setO h 79 (fsr (h 79) 0 k (fun j => fw (h 78) n j))) 78 = h 78 := sOf_ne _ _ (by decide)
          refine iv_X12_136 hK (c_X12_detail_73 (k - 1) n B (setO h 79 (fsr (h 79) 0 k (fun j => fw (h 78) n j))) (by first | omega | (simp [up, setR] <;> omega)) (by first | omega | (simp [up, setR] <;> omega)) (by rw [q45_78]; exact hbd) (by first | omega | (simp [up, setR] <;> omega))) (by decide) rfl ⟨by decide, by decide⟩ (by decide) rfl rfl (Nat.le_of_ble_eq_true rfl) ⟨by decide, by decide⟩ dX12_forward_45 ?_
          intro r9 h9 hp9
          rw [q45_78] at hp9
          rw [hp9.1, hp9.2]
          show TT K ly 0 0 48 [(0, vR 73), (1, vI n), (2, vI ((n + 1) / 2)), (3, vI k)] [vI (dl (h 78) n (ck (k - 1) n)), vI ((h 78) (2 * k)), vI k, vR 79] (setO h 79 (fsr (h 79) 0 k (fun j => fw (h 78) n j)))
          refine TT_aload_n hK rfl 0 rfl dX12_forward_48 ?_
          refine TT_iload_n hK rfl 3 rfl dX12_forward_49 ?_
          refine TT_iload_n hK rfl 1 rfl dX12_forward_50 ?_
          have q51_78 : (setO h 79 (fsr (h 79) 0 k (fun j => fw (h 78) n j))) 78 = h 78 := sOf_ne _ _ (by decide)
          refine iv_X12_136 hK (c_X12_detail_73 k n B (setO h 79 (fsr (h 79) 0 k (fun j => fw (h 78) n j))) (by first | omega | (simp [up, setR] <;> omega)) (by first | omega | (simp [up, setR] <;> omega)) (by rw [q51_78]; exact hbd) (by first | omega | (simp [up, setR] <;> omega))) (by decide) rfl ⟨by decide, by decide⟩ (by decide) rfl rfl (Nat.le_of_ble_eq_true rfl) ⟨by decide, by decide⟩ dX12_forward_51 ?_
          intro r9 h9 hp9
          rw [q51_78] at hp9
          rw [hp9.1, hp9.2]
          show TT K ly 0 0 54 [(0, vR 73), (1, vI n), (2, vI ((n + 1) / 2)), (3, vI k)] [vI (dl (h 78) n (ck k n)), vI (dl (h 78) n (ck (k - 1) n)), vI ((h 78) (2 * k)), vI k, vR 79] (setO h 79 (fsr (h 79) 0 k (fun j => fw (h 78) n j)))
          refine TT_iadd hK dX12_forward_54 ?_
          refine TT_iconst hK dX12_forward_55 ?_
          refine TT_iadd hK dX12_forward_56 ?_
          refine TT_iconst hK dX12_forward_57 ?_
          have c1 := ck_r (k - 1) (n := n) (by omega)
          have c2 := ck_r k (n := n) (by omega)
          have b1 := dl_bd hbd c1.1 c1.2
          have b2 := dl_bd hbd c2.1 c2.2
          refine iv_X12_133 hK (c_floor_2 (((dl (h 78) n (ck (k - 1) n)) + (dl (h 78) n (ck k n))) + 2) (setO h 79 (fsr (h 79) 0 k (fun j => fw (h 78) n j))) (by first | omega | (simp [up, setR] <;> omega))) ⟨by decide, by decide⟩ (by decide) rfl rfl (Nat.le_of_ble_eq_true rfl) ⟨by decide, by decide⟩ dX12_forward_58 ?_
          intro r9 h9 hp9
          rw [hp9.1, hp9.2]
          show TT K ly 0 0 61 [(0, vR 73), (1, vI n), (2, vI ((n + 1) / 2)), (3, vI k)] [vI ((((dl (h 78) n (ck (k - 1) n)) + (dl (h 78) n (ck k n))) + 2) / 4), vI ((h 78) (2 * k)), vI k, vR 79] (setO h 79 (fsr (h 79) 0 k (fun j => fw (h 78) n j)))
          refine TT_iadd hK dX12_forward_61 ?_
          refine TT_iast hK (o := 79) (n := 8) (by decide) rfl (by first | omega | (simp [up, setR] <;> omega)) (by first | omega | (simp [up, setR] <;> omega)) dX12_forward_62 ?_
          refine TT_hp (h' := setO h 79 (fup (fsr (h 79) 0 k (fun j => fw (h 78) n j)) k (((h 78) (2 * k)) + ((((dl (h 78) n (ck (k - 1) n)) + (dl (h 78) n (ck k n))) + 2) / 4)))) (up_can (sOf_eq _ _ _) rfl (setO_same _ _ _ _)) ?_
          refine TT_iinc hK (v := k + 1) (lv' := [(3, vI (k + 1)), (0, vR 73), (1, vI n), (2, vI ((n + 1) / 2))]) 3 rfl rfl (by decide) rfl dX12_forward_63 ?_
          refine TT_goto hK (tgt := 8) dX12_forward_66 (by decide) ?_
          refine TT_sub [1, 2, 3, 0] rfl ?_
          refine TT_hp (h' := setO h 79 (fsr (h 79) 0 (k + 1) (fun j => fw (h 78) n j))) (setO_cg rfl (by refine fsr_step _ (by omega) ?_; show _ = fw (h 78) n k; unfold fw; first | rw [if_pos (by omega)] | rw [if_neg (by omega), if_pos (by omega)])) ?_
          exact ih1 (k + 1) (by first | omega | (simp [up, setR] <;> omega)) (by first | omega | (simp [up, setR] <;> omega)) (by first | omega | (simp [up, setR] <;> omega))
        · refine TT_aload_n hK rfl 0 rfl dX12_forward_23 ?_
          refine gf_X12_29 hK (by decide) rfl (q := 78) rfl rfl dX12_forward_24 ?_
          refine TT_iconst hK dX12_forward_27 ?_
          refine TT_iald hK (o := 78) (n := 8) (by decide) rfl (by first | omega | (simp [up, setR] <;> omega)) (by first | omega | (simp [up, setR] <;> omega)) (v := (h 78) 0) (rd_ (sOf_ne _ _ (by decide)) rfl) dX12_forward_28 ?_
          refine TT_goto hK (tgt := 62) dX12_forward_29 (by decide) ?_
          refine TT_iast hK (o := 79) (n := 8) (by decide) rfl (by first | omega | (simp [up, setR] <;> omega)) (by first | omega | (simp [up, setR] <;> omega)) dX12_forward_62 ?_
          refine TT_hp (h' := setO h 79 (fup (fsr (h 79) 0 k (fun j => fw (h 78) n j)) k ((h 78) 0))) (up_can (sOf_eq _ _ _) rfl (setO_same _ _ _ _)) ?_
          refine TT_iinc hK (v := k + 1) (lv' := [(3, vI (k + 1)), (0, vR 73), (1, vI n), (2, vI ((n + 1) / 2))]) 3 rfl rfl (by decide) rfl dX12_forward_63 ?_
          refine TT_goto hK (tgt := 8) dX12_forward_66 (by decide) ?_
          refine TT_sub [1, 2, 3, 0] rfl ?_
          refine TT_hp (h' := setO h 79 (fsr (h 79) 0 (k + 1) (fun j => fw (h 78) n j))) (setO_cg rfl (by refine fsr_step _ (by omega) ?_; show _ = fw (h 78) n k; unfold fw; first | rw [if_pos (by omega)] | rw [if_neg (by omega), if_pos (by omega)])) ?_
          exact ih1 (k + 1) (by first | omega | (simp [up, setR] <;> omega)) (by first | omega | (simp [up, setR] <;> omega)) (by first | omega | (simp [up, setR] <;> omega))
  refine TT_sub [2, 3, 1, 0] rfl ?_
  refine TT_hp (h' := setO h 79 (fsr (h 79) 0 0 (fun j => fw (h 78) n j))) ((setO_new (by first | rfl | exact fsr_0 _ _ _)).trans (setO_cg rfl rfl)) ?_
  exact L8_1 ((((9 : Int) - 0).toNat) + 1) 0 (by first | omega | (simp [up, setR] <;> omega)) (by first | omega | (simp [up, setR] <;> omega)) (Nat.lt_succ_self _)
set_option maxRecDepth 20000 in
theorem c_work_fc (a n B : Int) (h : Hp_) (ha : 0 ≤ a) (ha2 : a + 8 * (n - 1) ≤ 63) (hn : 1 ≤ n ∧ n ≤ 8) (hbd : bdr (fun k => (h 77) (a + 8 * k)) n B) (hB : 0 ≤ B ∧ B ≤ 100000000) : Ctr yX12_work cX12_work 6 none (rmd 3) ly ly 0 0 [vR 73, vI a, vI 8, vI n, vI 0] h (fun r h' => ∃ j78 : Int → Int, ∃ j79 : Int → Int, r = none ∧ h' = setO (setO (setO h 77 (wrs (h 77) a 8 (fw (fun k => (h 77) (a + 8 * k)) n) n.toNat)) 78 j78) 79 j79) := by
  refine Ctr_of (by decide) (Nat.le_of_ble_eq_true rfl) ⟨Nat.le_refl _, Nat.le_refl _⟩ (fun K hK hQ _ => ?_)
  show TT K ly 0 0 0 [(0, vR 73), (1, vI a), (2, vI 8), (3, vI n), (4, vI 0)] [] h
  refine TT_iconst hK dX12_work_0 ?_
  refine TT_istore hK (lv' := [(5, vI 0), (0, vR 73), (1, vI a), (2, vI 8), (3, vI n), (4, vI 0)]) (by decide) rfl dX12_work_1 ?_
  have L3_1 : ∀ (k1 : Nat) (i : Int), (0 ≤ i) → (i ≤ n) → ((9 : Int) - i).toNat < k1 → TT K ly 0 0 3 [(0, vR 73), (1, vI a), (2, vI 8), (3, vI n), (4, vI 0), (5, vI i)] [] (setO h 78 (fsr (h 78) 0 i (fun k => (h 77) (a + 8 * k)))) := by
    intro k1
    induction k1 with
    | zero => intro i hi0 hi1 hk1; exact absurd hk1 (Nat.not_lt_zero _)
    | succ k1 ih1 =>
      intro i hi0 hi1 hk1
      refine TT_iload hK 5 rfl dX12_work_3 ?_
      refine TT_iload_n hK rfl 3 rfl dX12_work_5 ?_
      refine TT_icmp_ge hK (tgt := 33) (irm (by omega) (by omega)) (irm (by omega) (by omega)) dX12_work_6 (by decide) (fun hb6 => ?_) (fun hb6 => ?_)
      · refine TT_iload hK 4 rfl dX12_work_33 ?_
        refine TT_if_eq hK (tgt := 46) (by decide) dX12_work_35 (by decide) (fun hb35 => ?_) (fun hb35 => ?_)
        · refine TT_aload_n hK rfl 0 rfl dX12_work_46 ?_
          refine TT_iload_n hK rfl 3 rfl dX12_work_47 ?_
          have q48_78 : (setO h 78 (fsr (h 78) 0 i (fun k => (h 77) (a + 8 * k)))) 78 = fsr (h 78) 0 i (fun k => (h 77) (a + 8 * k)) := sOf_eq _ _ _
          have q48_79 : (setO h 78 (fsr (h 78) 0 i (fun k => (h 77) (a + 8 * k)))) 79 = h 79 := sOf_ne _ _ (by decide)
          refine iv_X12_146 hK (c_X12_forward_73 n B (setO h 78 (fsr (h 78) 0 i (fun k => (h 77) (a + 8 * k)))) (by first | omega | (simp [up, setR] <;> omega)) (by rw [q48_78]; intro j h0 h1; rw [fsr_in _ _ h0 (by omega)]; exact hbd j h0 h1) (by first | omega | (simp [up, setR] <;> omega))) (by decide) rfl ⟨by decide, by decide⟩ (by decide) rfl rfl (Nat.le_of_ble_eq_true rfl) ⟨by decide, by decide⟩ dX12_work_48 ?_
          intro r9 h9 hp9
          rw [q48_78, q48_79] at hp9
          rw [hp9.1, hp9.2]
          show TT K ly 0 0 51 [(0, vR 73), (1, vI a), (2, vI 8), (3, vI n), (4, vI 0), (5, vI i)] [] (setO (setO h 78 (fsr (h 78) 0 i (fun k => (h 77) (a + 8 * k)))) 79 (fsr (h 79) 0 n (fun j => fw (fsr (h 78) 0 i (fun k => (h 77) (a + 8 * k))) n j)))
          refine TT_iconst hK dX12_work_51 ?_
          refine TT_istore hK (lv' := [(5, vI 0), (0, vR 73), (1, vI a), (2, vI 8), (3, vI n), (4, vI 0)]) (by decide) rfl dX12_work_52 ?_
          have L54_4 : ∀ (k4 : Nat) (m : Int), (0 ≤ m) → (m ≤ n) → ((9 : Int) - m).toNat < k4 → TT K ly 0 0 54 [(0, vR 73), (1, vI a), (2, vI 8), (3, vI n), (4, vI 0), (5, vI m)] [] (setO (setO (setO h 77 (wrs (h 77) a 8 (fw (fun k => (h 77) (a + 8 * k)) n) m.toNat)) 78 (fsr (h 78) 0 i (fun k => (h 77) (a + 8 * k)))) 79 (fsr (h 79) 0 n (fun j => fw (fsr (h 78) 0 i (fun k => (h 77) (a + 8 * k))) n j))) := by
            intro k4
            induction k4 with
            | zero => intro m hm0 hm1 hk4; exact absurd hk4 (Nat.not_lt_zero _)
            | succ k4 ih4 =>
              intro m hm0 hm1 hk4
              refine TT_iload hK 5 rfl dX12_work_54 ?_
              refine TT_iload_n hK rfl 3 rfl dX12_work_56 ?_
              refine TT_icmp_ge hK (tgt := 84) (irm (by omega) (by omega)) (irm (by omega) (by omega)) dX12_work_57 (by decide) (fun hb57 => ?_) (fun hb57 => ?_)
              · refine TT_vret hK hQ ?_ dX12_work_84
                exact ⟨(fsr (h 78) 0 i (fun k => (h 77) (a + 8 * k))), (fsr (h 79) 0 n (fun j => fw (fsr (h 78) 0 i (fun k => (h 77) (a + 8 * k))) n j)), rfl, setO_cg (setO_cg (setO_cg rfl (by rw [show m = n by omega])) (by rfl)) (by rfl)⟩
              · refine TT_aload_n hK rfl 0 rfl dX12_work_60 ?_
                refine gf_X12_26 hK (by decide) rfl (q := 77) rfl rfl dX12_work_61 ?_
                refine TT_iload_n hK rfl 1 rfl dX12_work_64 ?_
                refine TT_iload_n hK rfl 2 rfl dX12_work_65 ?_
                refine TT_iload hK 5 rfl dX12_work_66 ?_
                refine TT_imul hK dX12_work_68 ?_
                refine TT_iadd hK dX12_work_69 ?_
                refine TT_aload_n hK rfl 0 rfl dX12_work_70 ?_
                refine gf_X12_32 hK (by decide) rfl (q := 79) rfl rfl dX12_work_71 ?_
                refine TT_iload hK 5 rfl dX12_work_74 ?_
                refine TT_iald hK (o := 79) (n := 8) (by decide) rfl (by first | omega) (by first | omega) (v := (fsr (h 79) 0 n (fun j => fw (fsr (h 78) 0 i (fun k => (h 77) (a + 8 * k))) n j)) m) (rd_ (sOf_eq _ _ _) rfl) dX12_work_76 ?_
                refine TT_iast hK (o := 77) (n := 64) (by decide) rfl (by first | omega | (simp [up, setR] <;> omega)) (by first | omega | (simp [up, setR] <;> omega)) dX12_work_77 ?_
                refine TT_hp (h' := setO (setO (setO h 77 (fup (wrs (h 77) a 8 (fw (fun k => (h 77) (a + 8 * k)) n) m.toNat) (a + (8 * m)) ((fsr (h 79) 0 n (fun j => fw (fsr (h 78) 0 i (fun k => (h 77) (a + 8 * k))) n j)) m))) 78 (fsr (h 78) 0 i (fun k => (h 77) (a + 8 * k)))) 79 (fsr (h 79) 0 n (fun j => fw (fsr (h 78) 0 i (fun k => (h 77) (a + 8 * k))) n j))) (up_can ((sOf_ne _ _ (by decide)).trans ((sOf_ne _ _ (by decide)).trans (sOf_eq _ _ _))) rfl ((setO_comm _ _ _ (by decide)).trans (setO_cg ((setO_comm _ _ _ (by decide)).trans (setO_cg (setO_same _ _ _ _) rfl)) rfl))) ?_
                refine TT_iinc hK (v := m + 1) (lv' := [(5, vI (m + 1)), (0, vR 73), (1, vI a), (2, vI 8), (3, vI n), (4, vI 0)]) 5 rfl rfl (by decide) rfl dX12_work_78 ?_
                refine TT_goto hK (tgt := 54) dX12_work_81 (by decide) ?_
                refine TT_sub [1, 2, 3, 4, 5, 0] rfl ?_
                refine TT_hp (h' := setO (setO (setO h 77 (wrs (h 77) a 8 (fw (fun k => (h 77) (a + 8 * k)) n) (m + 1).toNat)) 78 (fsr (h 78) 0 i (fun k => (h 77) (a + 8 * k)))) 79 (fsr (h 79) 0 n (fun j => fw (fsr (h 78) 0 i (fun k => (h 77) (a + 8 * k))) n j))) (setO_cg (setO_cg (setO_cg rfl (by refine wrs_step _ _ _ (by omega) ?_; rw [fsr_in _ _ (by omega) (by omega)]; exact fw_cg (by omega) (fun j h0 h1 => fsr_in _ _ h0 (by omega)) (by omega) (by omega))) rfl) rfl) ?_
                exact ih4 (m + 1) (by first | omega | (simp [up, setR] <;> omega)) (by first | omega | (simp [up, setR] <;> omega)) (by first | omega | (simp [up, setR] <;> omega))
          refine TT_sub [1, 2, 3, 4, 5, 0] rfl ?_
          refine TT_hp (h' := setO (setO (setO h 77 (wrs (h 77) a 8 (fw (fun k => (h 77) (a + 8 * k)) n) (0 : Int).toNat)) 78 (fsr (h 78) 0 i (fun k => (h 77) (a + 8 * k)))) 79 (fsr (h 79) 0 n (fun j => fw (fsr (h 78) 0 i (fun k => (h 77) (a + 8 * k))) n j))) (setO_cg (setO_cg ((setO_new (by rfl)).trans (setO_cg rfl rfl)) rfl) rfl) ?_
          exact L54_4 ((((9 : Int) - 0).toNat) + 1) 0 (by first | omega | (simp [up, setR] <;> omega)) (by first | omega | (simp [up, setR] <;> omega)) (Nat.lt_succ_self _)
        · exact absurd hb35 (by decide)
      · refine TT_aload_n hK rfl 0 rfl dX12_work_9 ?_
        refine gf_X12_29 hK (by decide) rfl (q := 78) rfl rfl dX12_work_10 ?_
        refine TT_iload hK 5 rfl dX12_work_13 ?_
        refine TT_aload_n hK rfl 0 rfl dX12_work_15 ?_
        refine gf_X12_26 hK (by decide) rfl (q := 77) rfl rfl dX12_work_16 ?_
        refine TT_iload_n hK rfl 1 rfl dX12_work_19 ?_
        refine TT_iload_n hK rfl 2 rfl dX12_work_20 ?_
        refine TT_iload hK 5 rfl dX12_work_21 ?_
        refine TT_imul hK dX12_work_23 ?_
        refine TT_iadd hK dX12_work_24 ?_
        refine TT_iald hK (o := 77) (n := 64) (by decide) rfl (by first | omega | (simp [up, setR] <;> omega)) (by first | omega | (simp [up, setR] <;> omega)) (v := (h 77) (a + (8 * i))) (rd_ (sOf_ne _ _ (by decide)) rfl) dX12_work_25 ?_
        refine TT_iast hK (o := 78) (n := 8) (by decide) rfl (by first | omega | (simp [up, setR] <;> omega)) (by first | omega | (simp [up, setR] <;> omega)) dX12_work_26 ?_
        refine TT_hp (h' := setO h 78 (fup (fsr (h 78) 0 i (fun k => (h 77) (a + 8 * k))) i ((h 77) (a + (8 * i))))) (up_can (sOf_eq _ _ _) rfl (setO_same _ _ _ _)) ?_
        refine TT_iinc hK (v := i + 1) (lv' := [(5, vI (i + 1)), (0, vR 73), (1, vI a), (2, vI 8), (3, vI n), (4, vI 0)]) 5 rfl rfl (by decide) rfl dX12_work_27 ?_
        refine TT_goto hK (tgt := 3) dX12_work_30 (by decide) ?_
        refine TT_sub [1, 2, 3, 4, 5, 0] rfl ?_
        refine TT_hp (h' := setO h 78 (fsr (h 78) 0 (i + 1) (fun k => (h 77) (a + 8 * k)))) (setO_cg rfl (by first | rfl | exact fsr_step _ (by omega) rfl)) ?_
        exact ih1 (i + 1) (by first | omega | (simp [up, setR] <;> omega)) (by first | omega | (simp [up, setR] <;> omega)) (by first | omega | (simp [up, setR] <;> omega))
  refine TT_sub [1, 2, 3, 4, 5, 0] rfl ?_
  refine TT_hp (h' := setO h 78 (fsr (h 78) 0 0 (fun k => (h 77) (a + 8 * k)))) ((setO_new (by first | rfl | exact fsr_0 _ _ _)).trans (setO_cg rfl rfl)) ?_
  exact L3_1 ((((9 : Int) - 0).toNat) + 1) 0 (by first | omega | (simp [up, setR] <;> omega)) (by first | omega | (simp [up, setR] <;> omega)) (Nat.lt_succ_self _)
set_option maxRecDepth 20000 in
theorem c_work_fr (a n B : Int) (h : Hp_) (ha : 0 ≤ a) (ha2 : a + 1 * (n - 1) ≤ 63) (hn : 1 ≤ n ∧ n ≤ 8) (hbd : bdr (fun k => (h 77) (a + 1 * k)) n B) (hB : 0 ≤ B ∧ B ≤ 100000000) : Ctr yX12_work cX12_work 6 none (rmd 3) ly ly 0 0 [vR 73, vI a, vI 1, vI n, vI 0] h (fun r h' => ∃ j78 : Int → Int, ∃ j79 : Int → Int, r = none ∧ h' = setO (setO (setO h 77 (wrs (h 77) a 1 (fw (fun k => (h 77) (a + 1 * k)) n) n.toNat)) 78 j78) 79 j79) := by
  refine Ctr_of (by decide) (Nat.le_of_ble_eq_true rfl) ⟨Nat.le_refl _, Nat.le_refl _⟩ (fun K hK hQ _ => ?_)
  show TT K ly 0 0 0 [(0, vR 73), (1, vI a), (2, vI 1), (3, vI n), (4, vI 0)] [] h
  refine TT_iconst hK dX12_work_0 ?_
  refine TT_istore hK (lv' := [(5, vI 0), (0, vR 73), (1, vI a), (2, vI 1), (3, vI n), (4, vI 0)]) (by decide) rfl dX12_work_1 ?_
  have L3_1 : ∀ (k1 : Nat) (i : Int), (0 ≤ i) → (i ≤ n) → ((9 : Int) - i).toNat < k1 → TT K ly 0 0 3 [(0, vR 73), (1, vI a), (2, vI 1), (3, vI n), (4, vI 0), (5, vI i)] [] (setO h 78 (fsr (h 78) 0 i (fun k => (h 77) (a + 1 * k)))) := by
    intro k1
    induction k1 with
    | zero => intro i hi0 hi1 hk1; exact absurd hk1 (Nat.not_lt_zero _)
    | succ k1 ih1 =>
      intro i hi0 hi1 hk1
      refine TT_iload hK 5 rfl dX12_work_3 ?_
      refine TT_iload_n hK rfl 3 rfl dX12_work_5 ?_
      refine TT_icmp_ge hK (tgt := 33) (irm (by omega) (by omega)) (irm (by omega) (by omega)) dX12_work_6 (by decide) (fun hb6 => ?_) (fun hb6 => ?_)
      · refine TT_iload hK 4 rfl dX12_work_33 ?_
        refine TT_if_eq hK (tgt := 46) (by decide) dX12_work_35 (by decide) (fun hb35 => ?_) (fun hb35 => ?_)
        · refine TT_aload_n hK rfl 0 rfl dX12_work_46 ?_
          refine TT_iload_n hK rfl 3 rfl dX12_work_47 ?_
          have q48_78 : (setO h 78 (fsr (h 78) 0 i (fun k => (h 77) (a + 1 * k)))) 78 = fsr (h 78) 0 i (fun k => (h 77) (a + 1 * k)) := sOf_eq _ _ _
          have q48_79 : (setO h 78 (fsr (h 78) 0 i (fun k => (h 77) (a + 1 * k)))) 79 = h 79 := sOf_ne _ _ (by decide)
          refine iv_X12_146 hK (c_X12_forward_73 n B (setO h 78 (fsr (h 78) 0 i (fun k => (h 77) (a + 1 * k)))) (by first | omega | (simp [up, setR] <;> omega)) (by rw [q48_78]; intro j h0 h1; rw [fsr_in _ _ h0 (by omega)]; exact hbd j h0 h1) (by first | omega | (simp [up, setR] <;> omega))) (by decide) rfl ⟨by decide, by decide⟩ (by decide) rfl rfl (Nat.le_of_ble_eq_true rfl) ⟨by decide, by decide⟩ dX12_work_48 ?_
          intro r9 h9 hp9
          rw [q48_78, q48_79] at hp9
          rw [hp9.1, hp9.2]
          show TT K ly 0 0 51 [(0, vR 73), (1, vI a), (2, vI 1), (3, vI n), (4, vI 0), (5, vI i)] [] (setO (setO h 78 (fsr (h 78) 0 i (fun k => (h 77) (a + 1 * k)))) 79 (fsr (h 79) 0 n (fun j => fw (fsr (h 78) 0 i (fun k => (h 77) (a + 1 * k))) n j)))
          refine TT_iconst hK dX12_work_51 ?_
          refine TT_istore hK (lv' := [(5, vI 0), (0, vR 73), (1, vI a), (2, vI 1), (3, vI n), (4, vI 0)]) (by decide) rfl dX12_work_52 ?_
          have L54_4 : ∀ (k4 : Nat) (m : Int), (0 ≤ m) → (m ≤ n) → ((9 : Int) - m).toNat < k4 → TT K ly 0 0 54 [(0, vR 73), (1, vI a), (2, vI 1), (3, vI n), (4, vI 0), (5, vI m)] [] (setO (setO (setO h 77 (wrs (h 77) a 1 (fw (fun k => (h 77) (a + 1 * k)) n) m.toNat)) 78 (fsr (h 78) 0 i (fun k => (h 77) (a + 1 * k)))) 79 (fsr (h 79) 0 n (fun j => fw (fsr (h 78) 0 i (fun k => (h 77) (a + 1 * k))) n j))) := by
            intro k4
            induction k4 with
            | zero => intro m hm0 hm1 hk4; exact absurd hk4 (Nat.not_lt_zero _)
            | succ k4 ih4 =>
              intro m hm0 hm1 hk4
              refine TT_iload hK 5 rfl dX12_work_54 ?_
              refine TT_iload_n hK rfl 3 rfl dX12_work_56 ?_
              refine TT_icmp_ge hK (tgt := 84) (irm (by omega) (by omega)) (irm (by omega) (by omega)) dX12_work_57 (by decide) (fun hb57 => ?_) (fun hb57 => ?_)
              · refine TT_vret hK hQ ?_ dX12_work_84
                exact ⟨(fsr (h 78) 0 i (fun k => (h 77) (a + 1 * k))), (fsr (h 79) 0 n (fun j => fw (fsr (h 78) 0 i (fun k => (h 77) (a + 1 * k))) n j)), rfl, setO_cg (setO_cg (setO_cg rfl (by rw [show m = n by omega])) (by rfl)) (by rfl)⟩
              · refine TT_aload_n hK rfl 0 rfl dX12_work_60 ?_
                refine gf_X12_26 hK (by decide) rfl (q := 77) rfl rfl dX12_work_61 ?_
                refine TT_iload_n hK rfl 1 rfl dX12_work_64 ?_
                refine TT_iload_n hK rfl 2 rfl dX12_work_65 ?_
                refine TT_iload hK 5 rfl dX12_work_66 ?_
                refine TT_imul hK dX12_work_68 ?_
                refine TT_iadd hK dX12_work_69 ?_
                refine TT_aload_n hK rfl 0 rfl dX12_work_70 ?_
                refine gf_X12_32 hK (by decide) rfl (q := 79) rfl rfl dX12_work_71 ?_
                refine TT_iload hK 5 rfl dX12_work_74 ?_
                refine TT_iald hK (o := 79) (n := 8) (by decide) rfl (by first | omega) (by first | omega) (v := (fsr (h 79) 0 n (fun j => fw (fsr (h 78) 0 i (fun k => (h 77) (a + 1 * k))) n j)) m) (rd_ (sOf_eq _ _ _) rfl) dX12_work_76 ?_
                refine TT_iast hK (o := 77) (n := 64) (by decide) rfl (by first | omega | (simp [up, setR] <;> omega)) (by first | omega | (simp [up, setR] <;> omega)) dX12_work_77 ?_
                refine TT_hp (h' := setO (setO (setO h 77 (fup (wrs (h 77) a 1 (fw (fun k => (h 77) (a + 1 * k)) n) m.toNat) (a + (1 * m)) ((fsr (h 79) 0 n (fun j => fw (fsr (h 78) 0 i (fun k => (h 77) (a + 1 * k))) n j)) m))) 78 (fsr (h 78) 0 i (fun k => (h 77) (a + 1 * k)))) 79 (fsr (h 79) 0 n (fun j => fw (fsr (h 78) 0 i (fun k => (h 77) (a + 1 * k))) n j))) (up_can ((sOf_ne _ _ (by decide)).trans ((sOf_ne _ _ (by decide)).trans (sOf_eq _ _ _))) rfl ((setO_comm _ _ _ (by decide)).trans (setO_cg ((setO_comm _ _ _ (by decide)).trans (setO_cg (setO_same _ _ _ _) rfl)) rfl))) ?_
                refine TT_iinc hK (v := m + 1) (lv' := [(5, vI (m + 1)), (0, vR 73), (1, vI a), (2, vI 1), (3, vI n), (4, vI 0)]) 5 rfl rfl (by decide) rfl dX12_work_78 ?_
                refine TT_goto hK (tgt := 54) dX12_work_81 (by decide) ?_
                refine TT_sub [1, 2, 3, 4, 5, 0] rfl ?_
                refine TT_hp (h' := setO (setO (setO h 77 (wrs (h 77) a 1 (fw (fun k => (h 77) (a + 1 * k)) n) (m + 1).toNat)) 78 (fsr (h 78) 0 i (fun k => (h 77) (a + 1 * k)))) 79 (fsr (h 79) 0 n (fun j => fw (fsr (h 78) 0 i (fun k => (h 77) (a + 1 * k))) n j))) (setO_cg (setO_cg (setO_cg rfl (by refine wrs_step _ _ _ (by omega) ?_; rw [fsr_in _ _ (by omega) (by omega)]; exact fw_cg (by omega) (fun j h0 h1 => fsr_in _ _ h0 (by omega)) (by omega) (by omega))) rfl) rfl) ?_
                exact ih4 (m + 1) (by first | omega | (simp [up, setR] <;> omega)) (by first | omega | (simp [up, setR] <;> omega)) (by first | omega | (simp [up, setR] <;> omega))
          refine TT_sub [1, 2, 3, 4, 5, 0] rfl ?_
          refine TT_hp (h' := setO (setO (setO h 77 (wrs (h 77) a 1 (fw (fun k => (h 77) (a + 1 * k)) n) (0 : Int).toNat)) 78 (fsr (h 78) 0 i (fun k => (h 77) (a + 1 * k)))) 79 (fsr (h 79) 0 n (fun j => fw (fsr (h 78) 0 i (fun k => (h 77) (a + 1 * k))) n j))) (setO_cg (setO_cg ((setO_new (by rfl)).trans (setO_cg rfl rfl)) rfl) rfl) ?_
          exact L54_4 ((((9 : Int) - 0).toNat) + 1) 0 (by first | omega | (simp [up, setR] <;> omega)) (by first | omega | (simp [up, setR] <;> omega)) (Nat.lt_succ_self _)
        · exact absurd hb35 (by decide)
      · refine TT_aload_n hK rfl 0 rfl dX12_work_9 ?_
        refine gf_X12_29 hK (by decide) rfl (q := 78) rfl rfl dX12_work_10 ?_
        refine TT_iload hK 5 rfl dX12_work_13 ?_
        refine TT_aload_n hK rfl 0 rfl dX12_work_15 ?_
        refine gf_X12_26 hK (by decide) rfl (q := 77) rfl rfl dX12_work_16 ?_
        refine TT_iload_n hK rfl 1 rfl dX12_work_19 ?_
        refine TT_iload_n hK rfl 2 rfl dX12_work_20 ?_
        refine TT_iload hK 5 rfl dX12_work_21 ?_
        refine TT_imul hK dX12_work_23 ?_
        refine TT_iadd hK dX12_work_24 ?_
        refine TT_iald hK (o := 77) (n := 64) (by decide) rfl (by first | omega | (simp [up, setR] <;> omega)) (by first | omega | (simp [up, setR] <;> omega)) (v := (h 77) (a + (1 * i))) (rd_ (sOf_ne _ _ (by decide)) rfl) dX12_work_25 ?_
        refine TT_iast hK (o := 78) (n := 8) (by decide) rfl (by first | omega | (simp [up, setR] <;> omega)) (by first | omega | (simp [up, setR] <;> omega)) dX12_work_26 ?_
        refine TT_hp (h' := setO h 78 (fup (fsr (h 78) 0 i (fun k => (h 77) (a + 1 * k))) i ((h 77) (a + (1 * i))))) (up_can (sOf_eq _ _ _) rfl (setO_same _ _ _ _)) ?_
        refine TT_iinc hK (v := i + 1) (lv' := [(5, vI (i + 1)), (0, vR 73), (1, vI a), (2, vI 1), (3, vI n), (4, vI 0)]) 5 rfl rfl (by decide) rfl dX12_work_27 ?_
        refine TT_goto hK (tgt := 3) dX12_work_30 (by decide) ?_
        refine TT_sub [1, 2, 3, 4, 5, 0] rfl ?_
        refine TT_hp (h' := setO h 78 (fsr (h 78) 0 (i + 1) (fun k => (h 77) (a + 1 * k)))) (setO_cg rfl (by first | rfl | exact fsr_step _ (by omega) rfl)) ?_
        exact ih1 (i + 1) (by first | omega | (simp [up, setR] <;> omega)) (by first | omega | (simp [up, setR] <;> omega)) (by first | omega | (simp [up, setR] <;> omega))
  refine TT_sub [1, 2, 3, 4, 5, 0] rfl ?_
  refine TT_hp (h' := setO h 78 (fsr (h 78) 0 0 (fun k => (h 77) (a + 1 * k)))) ((setO_new (by first | rfl | exact fsr_0 _ _ _)).trans (setO_cg rfl rfl)) ?_
  exact L3_1 ((((9 : Int) - 0).toNat) + 1) 0 (by first | omega | (simp [up, setR] <;> omega)) (by first | omega | (simp [up, setR] <;> omega)) (Nat.lt_succ_self _)
set_option maxRecDepth 20000 in
theorem c_columns_f (w e B : Int) (h : Hp_) (hw : 1 ≤ w ∧ w ≤ 8) (he : 1 ≤ e ∧ e ≤ 8) (hbd : bdr (h 77) 64 B) (hB : 0 ≤ B ∧ B ≤ 100000000) : Ctr yX12_columns cX12_columns 5 none (rmd 4) ly ly 0 0 [vR 73, vI w, vI e, vI 0] h (fun r h' => ∃ j78 : Int → Int, ∃ j79 : Int → Int, r = none ∧ h' = setO (setO (setO h 77 (colF (h 77) e w.toNat)) 78 j78) 79 j79) := by
  refine Ctr_of (by decide) (Nat.le_of_ble_eq_true rfl) ⟨Nat.le_refl _, Nat.le_refl _⟩ (fun K hK hQ _ => ?_)
  show TT K ly 0 0 0 [(0, vR 73), (1, vI w), (2, vI e), (3, vI 0)] [] h
  refine TT_iconst hK dX12_columns_0 ?_
  refine TT_istore hK (lv' := [(4, vI 0), (0, vR 73), (1, vI w), (2, vI e), (3, vI 0)]) (by decide) rfl dX12_columns_1 ?_
  have L3_1 : ∀ (k1 : Nat) (x : Int) (l78 : Int → Int) (l79 : Int → Int), (0 ≤ x) → (x ≤ w) → ((9 : Int) - x).toNat < k1 → TT K ly 0 0 3 [(0, vR 73), (1, vI w), (2, vI e), (3, vI 0), (4, vI x)] [] (setO (setO (setO h 77 (colF (h 77) e x.toNat)) 78 l78) 79 l79) := by
    intro k1
    induction k1 with
    | zero => intro x l78 l79 hx0 hx1 hk1; exact absurd hk1 (Nat.not_lt_zero _)
    | succ k1 ih1 =>
      intro x l78 l79 hx0 hx1 hk1
      refine TT_iload hK 4 rfl dX12_columns_3 ?_
      refine TT_iload_n hK rfl 1 rfl dX12_columns_5 ?_
      refine TT_icmp_ge hK (tgt := 25) (irm (by omega) (by omega)) (irm (by omega) (by omega)) dX12_columns_6 (by decide) (fun hb6 => ?_) (fun hb6 => ?_)
      · refine TT_vret hK hQ ?_ dX12_columns_25
        exact ⟨l78, l79, rfl, setO_cg (setO_cg (setO_cg rfl (by rw [show x = w by omega])) rfl) rfl⟩
      · refine TT_aload_n hK rfl 0 rfl dX12_columns_9 ?_
        refine TT_iload hK 4 rfl dX12_columns_10 ?_
        refine TT_bipush hK (by decide) dX12_columns_12 ?_
        refine TT_iload_n hK rfl 2 rfl dX12_columns_14 ?_
        refine TT_iload_n hK rfl 3 rfl dX12_columns_15 ?_
        have q16_77 : (setO (setO (setO h 77 (colF (h 77) e x.toNat)) 78 l78) 79 l79) 77 = colF (h 77) e x.toNat := (sOf_ne _ _ (by decide)).trans ((sOf_ne _ _ (by decide)).trans (sOf_eq _ _ _))
        refine iv_X12_149 hK (c_work_fc x e B (setO (setO (setO h 77 (colF (h 77) e x.toNat)) 78 l78) 79 l79) (by first | omega | (simp [up, setR] <;> omega)) (by first | omega | (simp [up, setR] <;> omega)) (by first | omega | (simp [up, setR] <;> omega)) (by rw [q16_77]; intro k h0 h1; show _ ≤ colF (h 77) e x.toNat (x + 8 * k) ∧ colF (h 77) e x.toNat (x + 8 * k) ≤ _; rw [colF_out _ _ (by omega) _ (by omega)]; exact hbd _ (by omega) (by omega)) (by first | omega | (simp [up, setR] <;> omega))) (by decide) rfl ⟨by decide, by decide⟩ (by decide) rfl rfl (Nat.le_of_ble_eq_true rfl) ⟨by decide, by decide⟩ dX12_columns_16 ?_
        intro r9 h9 hp9
        obtain ⟨j78_16, hp9⟩ := hp9
        obtain ⟨j79_16, hp9⟩ := hp9
        rw [q16_77] at hp9
        rw [hp9.1, hp9.2]
        refine TT_hp (h' := setO (setO (setO h 77 (wrs (colF (h 77) e x.toNat) x 8 (fw (fun k => (colF (h 77) e x.toNat) (x + 8 * k)) e) e.toNat)) 78 j78_16) 79 j79_16) ((setO_cg ((setO_cg ((setO_comm _ _ _ (by decide)).trans (setO_cg ((setO_comm _ _ _ (by decide)).trans (setO_cg (setO_same _ _ _ _) rfl)) rfl)) rfl).trans ((setO_comm _ _ _ (by decide)).trans (setO_cg (setO_same _ _ _ _) rfl))) rfl).trans (setO_same _ _ _ _)) ?_
        show TT K ly 0 0 19 [(0, vR 73), (1, vI w), (2, vI e), (3, vI 0), (4, vI x)] [] (setO (setO (setO h 77 (wrs (colF (h 77) e x.toNat) x 8 (fw (fun k => (colF (h 77) e x.toNat) (x + 8 * k)) e) e.toNat)) 78 j78_16) 79 j79_16)
        refine TT_iinc hK (v := x + 1) (lv' := [(4, vI (x + 1)), (0, vR 73), (1, vI w), (2, vI e), (3, vI 0)]) 4 rfl rfl (by decide) rfl dX12_columns_19 ?_
        refine TT_goto hK (tgt := 3) dX12_columns_22 (by decide) ?_
        refine TT_sub [1, 2, 3, 4, 0] rfl ?_
        refine TT_hp (h' := setO (setO (setO h 77 (colF (h 77) e (x + 1).toNat)) 78 j78_16) 79 j79_16) (setO_cg (setO_cg (setO_cg rfl (by exact colF_step _ _ (by omega))) rfl) rfl) ?_
        exact ih1 (x + 1) j78_16 j79_16 (by first | omega | (simp [up, setR] <;> omega)) (by first | omega | (simp [up, setR] <;> omega)) (by first | omega | (simp [up, setR] <;> omega))
  refine TT_sub [1, 2, 3, 4, 0] rfl ?_
  refine TT_hp (h' := setO (setO (setO h 77 (colF (h 77) e (0 : Int).toNat)) 78 (h 78)) 79 (h 79)) ((setO_new (by rfl)).trans (setO_cg ((setO_new (by rfl)).trans (setO_cg ((setO_new (by rfl)).trans (setO_cg rfl rfl)) rfl)) rfl)) ?_
  exact L3_1 ((((9 : Int) - 0).toNat) + 1) 0 (h 78) (h 79) (by first | omega | (simp [up, setR] <;> omega)) (by first | omega | (simp [up, setR] <;> omega)) (Nat.lt_succ_self _)
set_option maxRecDepth 20000 in
theorem c_rows_f (w e B : Int) (h : Hp_) (hw : 1 ≤ w ∧ w ≤ 8) (he : 1 ≤ e ∧ e ≤ 8) (hbd : bdr (h 77) 64 B) (hB : 0 ≤ B ∧ B ≤ 100000000) : Ctr yX12_rows cX12_rows 5 none (rmd 4) ly ly 0 0 [vR 73, vI w, vI e, vI 0] h (fun r h' => ∃ j78 : Int → Int, ∃ j79 : Int → Int, r = none ∧ h' = setO (setO (setO h 77 (rowF (h 77) w e.toNat)) 78 j78) 79 j79) := by
  refine Ctr_of (by decide) (Nat.le_of_ble_eq_true rfl) ⟨Nat.le_refl _, Nat.le_refl _⟩ (fun K hK hQ _ => ?_)
  show TT K ly 0 0 0 [(0, vR 73), (1, vI w), (2, vI e), (3, vI 0)] [] h
  refine TT_iconst hK dX12_rows_0 ?_
  refine TT_istore hK (lv' := [(4, vI 0), (0, vR 73), (1, vI w), (2, vI e), (3, vI 0)]) (by decide) rfl dX12_rows_1 ?_
  have L3_1 : ∀ (k1 : Nat) (x : Int) (l78 : Int → Int) (l79 : Int → Int), (0 ≤ x) → (x ≤ e) → ((9 : Int) - x).toNat < k1 → TT K ly 0 0 3 [(0, vR 73), (1, vI w), (2, vI e), (3, vI 0), (4, vI x)] [] (setO (setO (setO h 77 (rowF (h 77) w x.toNat)) 78 l78) 79 l79) := by
    intro k1
    induction k1 with
    | zero => intro x l78 l79 hx0 hx1 hk1; exact absurd hk1 (Nat.not_lt_zero _)
    | succ k1 ih1 =>
      intro x l78 l79 hx0 hx1 hk1
      refine TT_iload hK 4 rfl dX12_rows_3 ?_
      refine TT_iload_n hK rfl 2 rfl dX12_rows_5 ?_
      refine TT_icmp_ge hK (tgt := 27) (irm (by omega) (by omega)) (irm (by omega) (by omega)) dX12_rows_6 (by decide) (fun hb6 => ?_) (fun hb6 => ?_)
      · refine TT_vret hK hQ ?_ dX12_rows_27
        exact ⟨l78, l79, rfl, setO_cg (setO_cg (setO_cg rfl (by rw [show x = e by omega])) rfl) rfl⟩
      · refine TT_aload_n hK rfl 0 rfl dX12_rows_9 ?_
        refine TT_bipush hK (by decide) dX12_rows_10 ?_
        refine TT_iload hK 4 rfl dX12_rows_12 ?_
        refine TT_imul hK dX12_rows_14 ?_
        refine TT_iconst hK dX12_rows_15 ?_
        refine TT_iload_n hK rfl 1 rfl dX12_rows_16 ?_
        refine TT_iload_n hK rfl 3 rfl dX12_rows_17 ?_
        have q18_77 : (setO (setO (setO h 77 (rowF (h 77) w x.toNat)) 78 l78) 79 l79) 77 = rowF (h 77) w x.toNat := (sOf_ne _ _ (by decide)).trans ((sOf_ne _ _ (by decide)).trans (sOf_eq _ _ _))
        refine iv_X12_149 hK (c_work_fr (8 * x) w B (setO (setO (setO h 77 (rowF (h 77) w x.toNat)) 78 l78) 79 l79) (by first | omega | (simp [up, setR] <;> omega)) (by first | omega | (simp [up, setR] <;> omega)) (by first | omega | (simp [up, setR] <;> omega)) (by rw [q18_77]; intro k h0 h1; show _ ≤ rowF (h 77) w x.toNat (8 * x + 1 * k) ∧ rowF (h 77) w x.toNat (8 * x + 1 * k) ≤ _; rw [rowF_out _ (by omega) (by omega) _ (by omega)]; exact hbd _ (by omega) (by omega)) (by first | omega | (simp [up, setR] <;> omega))) (by decide) rfl ⟨by decide, by decide⟩ (by decide) rfl rfl (Nat.le_of_ble_eq_true rfl) ⟨by decide, by decide⟩ dX12_rows_18 ?_
        intro r9 h9 hp9
        obtain ⟨j78_18, hp9⟩ := hp9
        obtain ⟨j79_18, hp9⟩ := hp9
        rw [q18_77] at hp9
        rw [hp9.1, hp9.2]
        refine TT_hp (h' := setO (setO (setO h 77 (wrs (rowF (h 77) w x.toNat) (8 * x) 1 (fw (fun k => (rowF (h 77) w x.toNat) ((8 * x) + 1 * k)) w) w.toNat)) 78 j78_18) 79 j79_18) ((setO_cg ((setO_cg ((setO_comm _ _ _ (by decide)).trans (setO_cg ((setO_comm _ _ _ (by decide)).trans (setO_cg (setO_same _ _ _ _) rfl)) rfl)) rfl).trans ((setO_comm _ _ _ (by decide)).trans (setO_cg (setO_same _ _ _ _) rfl))) rfl).trans (setO_same _ _ _ _)) ?_
        show TT K ly 0 0 21 [(0, vR 73), (1, vI w), (2, vI e), (3, vI 0), (4, vI x)] [] (setO (setO (setO h 77 (wrs (rowF (h 77) w x.toNat) (8 * x) 1 (fw (fun k => (rowF (h 77) w x.toNat) ((8 * x) + 1 * k)) w) w.toNat)) 78 j78_18) 79 j79_18)
        refine TT_iinc hK (v := x + 1) (lv' := [(4, vI (x + 1)), (0, vR 73), (1, vI w), (2, vI e), (3, vI 0)]) 4 rfl rfl (by decide) rfl dX12_rows_21 ?_
        refine TT_goto hK (tgt := 3) dX12_rows_24 (by decide) ?_
        refine TT_sub [1, 2, 3, 4, 0] rfl ?_
        refine TT_hp (h' := setO (setO (setO h 77 (rowF (h 77) w (x + 1).toNat)) 78 j78_18) 79 j79_18) (setO_cg (setO_cg (setO_cg rfl (by exact rowF_step _ _ (by omega))) rfl) rfl) ?_
        exact ih1 (x + 1) j78_18 j79_18 (by first | omega | (simp [up, setR] <;> omega)) (by first | omega | (simp [up, setR] <;> omega)) (by first | omega | (simp [up, setR] <;> omega))
  refine TT_sub [1, 2, 3, 4, 0] rfl ?_
  refine TT_hp (h' := setO (setO (setO h 77 (rowF (h 77) w (0 : Int).toNat)) 78 (h 78)) 79 (h 79)) ((setO_new (by rfl)).trans (setO_cg ((setO_new (by rfl)).trans (setO_cg ((setO_new (by rfl)).trans (setO_cg rfl rfl)) rfl)) rfl)) ?_
  exact L3_1 ((((9 : Int) - 0).toNat) + 1) 0 (h 78) (h 79) (by first | omega | (simp [up, setR] <;> omega)) (by first | omega | (simp [up, setR] <;> omega)) (Nat.lt_succ_self _)
set_option maxRecDepth 20000 in
theorem c_X12_left (n l : Int) (h : Hp_) (hn : 0 ≤ n ∧ n ≤ 8) (hl : 0 ≤ l ∧ l ≤ 4) : Ctr yX12_left cX12_left 2 (some .int) (rmd 0) ly ly 0 0 [vI n, vI l] h (fun r h' => r = some (vI (lft n l)) ∧ h' = h) := by
  refine Ctr_of (by decide) (Nat.le_of_ble_eq_true rfl) ⟨Nat.le_refl _, Nat.le_refl _⟩ (fun K hK hQ _ => ?_)
  show TT K ly 0 0 0 [(0, vI n), (1, vI l)] [] h
  refine TT_iload_n hK rfl 0 rfl dX12_left_0 ?_
  refine TT_iconst hK dX12_left_1 ?_
  refine TT_iload_n hK rfl 1 rfl dX12_left_2 ?_
  refine TT_ishl hK (by omega) (by omega) dX12_left_3 ?_
  refine TT_iadd hK dX12_left_4 ?_
  refine TT_iconst hK dX12_left_5 ?_
  refine TT_isub hK dX12_left_6 ?_
  refine TT_iload_n hK rfl 1 rfl dX12_left_7 ?_
  have p4 : (2 : Int) ^ l.toNat ≤ 16 ∧ 1 ≤ (2 : Int) ^ l.toNat := pw4 hl.1 hl.2
  refine TT_ishr hK (irm (by omega) (by omega)) (by omega) (by omega) dX12_left_8 ?_
  refine TT_iret hK hQ ?_ dX12_left_9
  exact ⟨congrArg (fun z => some (vI z)) (by rfl), rfl⟩

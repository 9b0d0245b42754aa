def sgn (bl sz : Int) : Int := if bl = 0 then sz else -sz
def LEn (W H : Int) (f : Int → Int) : Nat → Int → Int
  | 0 => f
  | n + 1 => rE (lf W (n : Int)) (lf H (n : Int)) (cE (lf W (n : Int)) (lf H (n : Int)) (LEn W H f n))
def LE (W H : Int) (f : Int → Int) (l : Int) : Int → Int := LEn W H f l.toNat
theorem cE_cg {w e : Int} {f g : Int → Int} (he : 1 ≤ e ∧ e ≤ 8) (h : ∀ i : Int, 0 ≤ i → i < 64 → f i = g i) {t : Int} (h0 : 0 ≤ t) (h1 : t < 64) : cE w e f t = cE w e g t := by
  unfold cE
  by_cases c : t % 8 < w ∧ t / 8 < e
  · rw [if_pos c, if_pos c]
    exact fE_cg he.1 (by omega) (fun j h2 h3 => h _ (by omega) (by omega))
  · rw [if_neg c, if_neg c]
    exact h t h0 h1
theorem rE_cg {w e : Int} {f g : Int → Int} (hw : 1 ≤ w ∧ w ≤ 8) (h : ∀ i : Int, 0 ≤ i → i < 64 → f i = g i) {t : Int} (h0 : 0 ≤ t) (h1 : t < 64) : rE w e f t = rE w e g t := by
  unfold rE
  by_cases c : t % 8 < w ∧ t / 8 < e
  · rw [if_pos c, if_pos c]
    exact fE_cg hw.1 (by omega) (fun j h2 h3 => h _ (by omega) (by omega))
  · rw [if_neg c, if_neg c]
    exact h t h0 h1
theorem LE_1 {W H : Int} {f : Int → Int} {l : Int} (hl : 0 ≤ l) : LE W H f (l + 1) = rE (lf W l) (lf H l) (cE (lf W l) (lf H l) (LE W H f l)) := by
  obtain ⟨n, rfl⟩ := Int.eq_ofNat_of_zero_le hl
  unfold LE
  rw [show ((n : Int) + 1).toNat = n + 1 by omega, show ((n : Int)).toNat = n by omega]
  rfl
theorem LE_s {W H l : Int} {f s0 s1 s2 : Int → Int} (hl : 0 ≤ l ∧ l ≤ 3) (hW : 1 ≤ W ∧ W ≤ 8) (hH : 1 ≤ H ∧ H ≤ 8) (h : ∀ i : Int, 0 ≤ i → i < 64 → s0 i = LE W H f l i) (hc : ∀ t : Int, 0 ≤ t → t < 64 → s1 t = cE (lf W l) (lf H l) s0 t) (hr : ∀ t : Int, 0 ≤ t → t < 64 → s2 t = rE (lf W l) (lf H l) s1 t) : ∀ i : Int, 0 ≤ i → i < 64 → s2 i = LE W H f (l + 1) i := by
  intro i h0 h1
  rw [LE_1 hl.1, hr i h0 h1]
  refine rE_cg (lf_1 hW (by omega)) (fun j h2 h3 => ?_) h0 h1
  rw [hc j h2 h3]
  exact cE_cg (lf_1 hH (by omega)) h h2 h3
theorem GEO_k : ∀ w e : Fin 9, ∀ l : Fin 4, ∀ b : Fin 10, (b.val : Int) ≤ 3 * (l.val : Int) → (0 ≤ BW (w.val : Int) (l.val : Int) (b.val : Int) ∧ BW (w.val : Int) (l.val : Int) (b.val : Int) ≤ 8) ∧ (0 ≤ BH (e.val : Int) (l.val : Int) (b.val : Int) ∧ BH (e.val : Int) (l.val : Int) (b.val : Int) ≤ 8) := by decide +kernel
theorem BWr {w l : Int} (hw : 1 ≤ w ∧ w ≤ 8) (hl : 0 ≤ l ∧ l ≤ 3) (b : Int) (hb : 0 ≤ b ∧ b < 3 * l + 1) : 0 ≤ BW w l b ∧ BW w l b ≤ 8 := by
  obtain ⟨wn, rfl⟩ := Int.eq_ofNat_of_zero_le (show 0 ≤ w by omega)
  obtain ⟨ln, rfl⟩ := Int.eq_ofNat_of_zero_le hl.1
  obtain ⟨bn, rfl⟩ := Int.eq_ofNat_of_zero_le hb.1
  exact (GEO_k ⟨wn, by omega⟩ 1 ⟨ln, by omega⟩ ⟨bn, by omega⟩ (by show (bn : Int) ≤ 3 * (ln : Int); omega)).1
theorem BHr {w l : Int} (hw : 1 ≤ w ∧ w ≤ 8) (hl : 0 ≤ l ∧ l ≤ 3) (b : Int) (hb : 0 ≤ b ∧ b < 3 * l + 1) : 0 ≤ BH w l b ∧ BH w l b ≤ 8 := by
  obtain ⟨wn, rfl⟩ := Int.eq_ofNat_of_zero_le (show 0 ≤ w by omega)
  obtain ⟨ln, rfl⟩ := Int.eq_ofNat_of_zero_le hl.1
  obtain ⟨bn, rfl⟩ := Int.eq_ofNat_of_zero_le hb.1
  exact (GEO_k 1 ⟨wn, by omega⟩ ⟨ln, by omega⟩ ⟨bn, by omega⟩ (by show (bn : Int) ≤ 3 * (ln : Int); omega)).2
theorem CXr {w e l : Int} (hw : 1 ≤ w ∧ w ≤ 8) (he : 1 ≤ e ∧ e ≤ 8) (hl : 0 ≤ l ∧ l ≤ 3) (b : Int) (hb : 0 ≤ b ∧ b < 3 * l + 1) : 0 ≤ CX w l b ∧ 0 ≤ CY e l b ∧ CX w l b + BW w l b ≤ 8 ∧ CY e l b + BH e l b ≤ 8 := by
  obtain ⟨wn, rfl⟩ := Int.eq_ofNat_of_zero_le (show 0 ≤ w by omega)
  obtain ⟨en, rfl⟩ := Int.eq_ofNat_of_zero_le (show 0 ≤ e by omega)
  obtain ⟨ln, rfl⟩ := Int.eq_ofNat_of_zero_le hl.1
  obtain ⟨bn, rfl⟩ := Int.eq_ofNat_of_zero_le hb.1
  exact FIT_k ⟨wn, by omega⟩ ⟨en, by omega⟩ ⟨ln, by omega⟩ ⟨bn, by omega⟩ (by show (bn : Int) ≤ 3 * (ln : Int); omega)
set_option maxRecDepth 20000 in
theorem s_corner_z (b w e l : Int) (h : Hp_) (hT : TY h) (hb : 0 ≤ b ∧ b ≤ 3 * l) (hw : 0 ≤ w ∧ w ≤ 8) (he : 0 ≤ e ∧ e ≤ 8) (hl : 0 ≤ l ∧ l ≤ 3) : Ctr yX12_corner cX12_corner 7 (some .int) (rmd 1) ly ly 0 0 [vI b, vI w, vI e, vI l] h (fun r h' => (TY h' ∧ FRM [] [] h h') ∧ ∃ z : Int, r = some (vI z) ∧ (0 ≤ z ∧ z ≤ 72) ∧ (CRN w e l b z) ∧ (z = 8 * CY e l b + CX w l b)) := by
  refine Ctr_of (by decide) (Nat.le_of_ble_eq_true rfl) ⟨Nat.le_refl _, Nat.le_refl _⟩ (fun K hK hQ _ => ?_)
  show TT K ly 0 0 0 [(0, vI b), (1, vI w), (2, vI e), (3, vI l)] [] h
  have hF : FRM [] [] h h := FRM_rf _ _ _
  refine TT_iload_n hK rfl 0 rfl dX12_corner_0 ?_
  refine TT_if_ne hK (tgt := 6) (irm (by omega) (by omega)) dX12_corner_1 (by decide) (fun hb1_1 => ?_) (fun hb1_1 => ?_)
  · refine TT_iload_n hK rfl 3 rfl dX12_corner_6 ?_
    refine TT_iload_n hK rfl 0 rfl dX12_corner_7 ?_
    refine TT_iconst hK dX12_corner_8 ?_
    refine TT_isub hK dX12_corner_9 ?_
    refine TT_iconst hK dX12_corner_10 ?_
    refine TT_idivn hK (irm (by omega) (by omega)) (by decide) (by first | omega | (simp [up, setR] <;> omega)) (by first | omega | (simp [up, setR] <;> omega)) dX12_corner_11 ?_
    refine TT_isub hK dX12_corner_12 ?_
    refine TT_istore hK (lv' := [(4, vI (l - ((b - 1) / 3))), (0, vI b), (1, vI w), (2, vI e), (3, vI l)]) (by decide) rfl dX12_corner_13 ?_
    refine TT_iload_n hK rfl 1 rfl dX12_corner_15 ?_
    refine TT_iconst hK dX12_corner_16 ?_
    refine TT_isub hK dX12_corner_17 ?_
    refine TT_iconst hK dX12_corner_18 ?_
    refine TT_iremn hK (irm (by omega) (by omega)) (by decide) (by first | omega | (simp [up, setR] <;> omega)) (by first | omega | (simp [up, setR] <;> omega)) dX12_corner_19 ?_
    refine TT_iconst hK dX12_corner_20 ?_
    refine TT_icmp_ne hK (tgt := 28) (irm (by omega) (by omega)) (by decide) dX12_corner_21 (by decide) (fun hb21_2 => ?_) (fun hb21_2 => ?_)
    · refine TT_iload_n hK rfl 2 rfl dX12_corner_28 ?_
      refine TT_iload hK 0 rfl dX12_corner_29 ?_
      refine iv_X12_153 hK (s_left_x w (l - ((b - 1) / 3)) h hT (by first | omega | (simp [up, setR] <;> omega)) (by first | omega | (simp [up, setR] <;> omega))) ⟨by decide, by decide⟩ (by decide) rfl rfl (Nat.le_of_ble_eq_true rfl) ⟨by decide, by decide⟩ dX12_corner_31 ?_
      intro r9 g31_3 hp9
      obtain ⟨⟨hT_3, hG_3⟩, z31_3, hr9, hz_3, p1_3⟩ := hp9
      rw [hr9]
      have hF_3 : FRM [] [] h g31_3 := FRM_tr hF hG_3 (by decide) (by decide)
      show TT K ly 0 0 34 [(4, vI (l - ((b - 1) / 3))), (0, vI b), (1, vI w), (2, vI e), (3, vI l)] [vI z31_3] g31_3
      refine TT_istore hK (lv' := [(5, vI z31_3), (4, vI (l - ((b - 1) / 3))), (0, vI b), (1, vI w), (2, vI e), (3, vI l)]) (by decide) rfl dX12_corner_34 ?_
      refine TT_iload_n hK rfl 2 rfl dX12_corner_36 ?_
      refine TT_iconst hK dX12_corner_37 ?_
      refine TT_isub hK dX12_corner_38 ?_
      refine TT_iconst hK dX12_corner_39 ?_
      refine TT_iremn hK (irm (by omega) (by omega)) (by decide) (by first | omega | (simp [up, setR] <;> omega)) (by first | omega | (simp [up, setR] <;> omega)) dX12_corner_40 ?_
      refine TT_if_ne hK (tgt := 48) (irm (by omega) (by omega)) dX12_corner_41 (by decide) (fun hb41_4 => ?_) (fun hb41_4 => ?_)
      · refine TT_iload_n hK rfl 4 rfl dX12_corner_48 ?_
        refine TT_iload hK 1 rfl dX12_corner_49 ?_
        refine iv_X12_153 hK (s_left_x e (l - ((b - 1) / 3)) g31_3 hT_3 (by first | omega | (simp [up, setR] <;> omega)) (by first | omega | (simp [up, setR] <;> omega))) ⟨by decide, by decide⟩ (by decide) rfl rfl (Nat.le_of_ble_eq_true rfl) ⟨by decide, by decide⟩ dX12_corner_51 ?_
        intro r9 g51_5 hp9
        obtain ⟨⟨hT_5, hG_5⟩, z51_5, hr9, hz_5, p1_5⟩ := hp9
        rw [hr9]
        have hF_5 : FRM [] [] h g51_5 := FRM_tr hF_3 hG_5 (by decide) (by decide)
        show TT K ly 0 0 54 [(5, vI z31_3), (4, vI (l - ((b - 1) / 3))), (0, vI b), (1, vI w), (2, vI e), (3, vI l)] [vI z51_5] g51_5
        refine TT_istore hK (lv' := [(6, vI z51_5), (5, vI z31_3), (4, vI (l - ((b - 1) / 3))), (0, vI b), (1, vI w), (2, vI e), (3, vI l)]) (by decide) rfl dX12_corner_54 ?_
        refine TT_bipush hK (by decide) dX12_corner_56 ?_
        refine TT_iload hK 0 rfl dX12_corner_58 ?_
        refine TT_imul hK dX12_corner_60 ?_
        refine TT_iload hK 1 rfl dX12_corner_61 ?_
        refine TT_iadd hK dX12_corner_63 ?_
        refine TT_iret hK hQ ?_ dX12_corner_64
        exact ⟨⟨hT_5, hF_5⟩, ((8 * z51_5) + z31_3), rfl, (by omega), (by exact CRN_i (cx := z31_3) (cy := z51_5) hw he hl hb (by omega) (by unfold CX; first | rw [if_pos (by omega)] | (rw [if_neg (by omega), if_pos (by omega)]) | (rw [if_neg (by omega), if_neg (by omega)]; omega)) (by unfold CY; first | rw [if_pos (by omega)] | (rw [if_neg (by omega), if_pos (by omega)]) | (rw [if_neg (by omega), if_neg (by omega)]; omega))), (by have eCX : CX w l b = z31_3 := (by unfold CX; first | rw [if_pos (by omega)] | (rw [if_neg (by omega), if_pos (by omega)]) | (rw [if_neg (by omega), if_neg (by omega)]; omega)); have eCY : CY e l b = z51_5 := (by unfold CY; first | rw [if_pos (by omega)] | (rw [if_neg (by omega), if_pos (by omega)]) | (rw [if_neg (by omega), if_neg (by omega)]; omega)); omega)⟩
      · refine TT_iconst hK dX12_corner_44 ?_
        refine TT_goto hK (tgt := 54) dX12_corner_45 (by decide) ?_
        refine TT_istore hK (lv' := [(6, vI 0), (5, vI z31_3), (4, vI (l - ((b - 1) / 3))), (0, vI b), (1, vI w), (2, vI e), (3, vI l)]) (by decide) rfl dX12_corner_54 ?_
        refine TT_bipush hK (by decide) dX12_corner_56 ?_
        refine TT_iload hK 0 rfl dX12_corner_58 ?_
        refine TT_imul hK dX12_corner_60 ?_
        refine TT_iload hK 1 rfl dX12_corner_61 ?_
        refine TT_iadd hK dX12_corner_63 ?_
        refine TT_iret hK hQ ?_ dX12_corner_64
        exact ⟨⟨hT_3, hF_3⟩, ((8 * 0) + z31_3), rfl, (by omega), (by exact CRN_i (cx := z31_3) (cy := 0) hw he hl hb (by omega) (by unfold CX; first | rw [if_pos (by omega)] | (rw [if_neg (by omega), if_pos (by omega)]) | (rw [if_neg (by omega), if_neg (by omega)]; omega)) (by unfold CY; first | rw [if_pos (by omega)] | (rw [if_neg (by omega), if_pos (by omega)]) | (rw [if_neg (by omega), if_neg (by omega)]; omega))), (by have eCX : CX w l b = z31_3 := (by unfold CX; first | rw [if_pos (by omega)] | (rw [if_neg (by omega), if_pos (by omega)]) | (rw [if_neg (by omega), if_neg (by omega)]; omega)); have eCY : CY e l b = 0 := (by unfold CY; first | rw [if_pos (by omega)] | (rw [if_neg (by omega), if_pos (by omega)]) | (rw [if_neg (by omega), if_neg (by omega)]; omega)); omega)⟩
    · refine TT_iconst hK dX12_corner_24 ?_
      refine TT_goto hK (tgt := 34) dX12_corner_25 (by decide) ?_
      refine TT_istore hK (lv' := [(5, vI 0), (4, vI (l - ((b - 1) / 3))), (0, vI b), (1, vI w), (2, vI e), (3, vI l)]) (by decide) rfl dX12_corner_34 ?_
      refine TT_iload_n hK rfl 2 rfl dX12_corner_36 ?_
      refine TT_iconst hK dX12_corner_37 ?_
      refine TT_isub hK dX12_corner_38 ?_
      refine TT_iconst hK dX12_corner_39 ?_
      refine TT_iremn hK (irm (by omega) (by omega)) (by decide) (by first | omega | (simp [up, setR] <;> omega)) (by first | omega | (simp [up, setR] <;> omega)) dX12_corner_40 ?_
      refine TT_if_ne hK (tgt := 48) (irm (by omega) (by omega)) dX12_corner_41 (by decide) (fun hb41_6 => ?_) (fun hb41_6 => ?_)
      · refine TT_iload_n hK rfl 4 rfl dX12_corner_48 ?_
        refine TT_iload hK 1 rfl dX12_corner_49 ?_
        refine iv_X12_153 hK (s_left_x e (l - ((b - 1) / 3)) h hT (by first | omega | (simp [up, setR] <;> omega)) (by first | omega | (simp [up, setR] <;> omega))) ⟨by decide, by decide⟩ (by decide) rfl rfl (Nat.le_of_ble_eq_true rfl) ⟨by decide, by decide⟩ dX12_corner_51 ?_
        intro r9 g51_7 hp9
        obtain ⟨⟨hT_7, hG_7⟩, z51_7, hr9, hz_7, p1_7⟩ := hp9
        rw [hr9]
        have hF_7 : FRM [] [] h g51_7 := FRM_tr hF hG_7 (by decide) (by decide)
        show TT K ly 0 0 54 [(5, vI 0), (4, vI (l - ((b - 1) / 3))), (0, vI b), (1, vI w), (2, vI e), (3, vI l)] [vI z51_7] g51_7
        refine TT_istore hK (lv' := [(6, vI z51_7), (5, vI 0), (4, vI (l - ((b - 1) / 3))), (0, vI b), (1, vI w), (2, vI e), (3, vI l)]) (by decide) rfl dX12_corner_54 ?_
        refine TT_bipush hK (by decide) dX12_corner_56 ?_
        refine TT_iload hK 0 rfl dX12_corner_58 ?_
        refine TT_imul hK dX12_corner_60 ?_
        refine TT_iload hK 1 rfl dX12_corner_61 ?_
        refine TT_iadd hK dX12_corner_63 ?_
        refine TT_iret hK hQ ?_ dX12_corner_64
        exact ⟨⟨hT_7, hF_7⟩, ((8 * z51_7) + 0), rfl, (by omega), (by exact CRN_i (cx := 0) (cy := z51_7) hw he hl hb (by omega) (by unfold CX; first | rw [if_pos (by omega)] | (rw [if_neg (by omega), if_pos (by omega)]) | (rw [if_neg (by omega), if_neg (by omega)]; omega)) (by unfold CY; first | rw [if_pos (by omega)] | (rw [if_neg (by omega), if_pos (by omega)]) | (rw [if_neg (by omega), if_neg (by omega)]; omega))), (by have eCX : CX w l b = 0 := (by unfold CX; first | rw [if_pos (by omega)] | (rw [if_neg (by omega), if_pos (by omega)]) | (rw [if_neg (by omega), if_neg (by omega)]; omega)); have eCY : CY e l b = z51_7 := (by unfold CY; first | rw [if_pos (by omega)] | (rw [if_neg (by omega), if_pos (by omega)]) | (rw [if_neg (by omega), if_neg (by omega)]; omega)); omega)⟩
      · refine TT_iconst hK dX12_corner_44 ?_
        refine TT_goto hK (tgt := 54) dX12_corner_45 (by decide) ?_
        refine TT_istore hK (lv' := [(6, vI 0), (5, vI 0), (4, vI (l - ((b - 1) / 3))), (0, vI b), (1, vI w), (2, vI e), (3, vI l)]) (by decide) rfl dX12_corner_54 ?_
        refine TT_bipush hK (by decide) dX12_corner_56 ?_
        refine TT_iload hK 0 rfl dX12_corner_58 ?_
        refine TT_imul hK dX12_corner_60 ?_
        refine TT_iload hK 1 rfl dX12_corner_61 ?_
        refine TT_iadd hK dX12_corner_63 ?_
        refine TT_iret hK hQ ?_ dX12_corner_64
        exact ⟨⟨hT, hF⟩, ((8 * 0) + 0), rfl, (by omega), (by exact CRN_i (cx := 0) (cy := 0) hw he hl hb (by omega) (by unfold CX; first | rw [if_pos (by omega)] | (rw [if_neg (by omega), if_pos (by omega)]) | (rw [if_neg (by omega), if_neg (by omega)]; omega)) (by unfold CY; first | rw [if_pos (by omega)] | (rw [if_neg (by omega), if_pos (by omega)]) | (rw [if_neg (by omega), if_neg (by omega)]; omega))), (by have eCX : CX w l b = 0 := (by unfold CX; first | rw [if_pos (by omega)] | (rw [if_neg (by omega), if_pos (by omega)]) | (rw [if_neg (by omega), if_neg (by omega)]; omega)); have eCY : CY e l b = 0 := (by unfold CY; first | rw [if_pos (by omega)] | (rw [if_neg (by omega), if_pos (by omega)]) | (rw [if_neg (by omega), if_neg (by omega)]; omega)); omega)⟩
  · refine TT_iconst hK dX12_corner_4 ?_
    refine TT_iret hK hQ ?_ dX12_corner_5
    exact ⟨⟨hT, hF⟩, 0, rfl, (by omega), (by exact CRN_i (cx := 0) (cy := 0) hw he hl hb (by omega) (by unfold CX; first | rw [if_pos (by omega)] | (rw [if_neg (by omega), if_pos (by omega)]) | (rw [if_neg (by omega), if_neg (by omega)]; omega)) (by unfold CY; first | rw [if_pos (by omega)] | (rw [if_neg (by omega), if_pos (by omega)]) | (rw [if_neg (by omega), if_neg (by omega)]; omega))), (by have eCX : CX w l b = 0 := (by unfold CX; first | rw [if_pos (by omega)] | (rw [if_neg (by omega), if_pos (by omega)]) | (rw [if_neg (by omega), if_neg (by omega)]; omega)); have eCY : CY e l b = 0 := (by unfold CY; first | rw [if_pos (by omega)] | (rw [if_neg (by omega), if_pos (by omega)]) | (rw [if_neg (by omega), if_neg (by omega)]; omega)); omega)⟩
set_option maxRecDepth 20000 in
theorem s_loadBand_x (b f : Int) (h : Hp_) (hT : TY h) (hb : 0 ≤ b ∧ b ≤ 9) (hfit : ∃ cx cy : Int, f = 8 * cy + cx ∧ 0 ≤ cx ∧ 0 ≤ cy ∧ cx + (h 80) b ≤ 8 ∧ cy + (h 81) b ≤ 8) (hsq : ∀ i : Int, 0 ≤ i → i < 64 → -4095 ≤ (h 77) i ∧ (h 77) i ≤ 4095) : Ctr yX12_loadBand cX12_loadBand 6 none (rmd 0) ly ly 0 0 [vR 73, vI b, vI f] h (fun r h' => (TY h' ∧ FRM [84, 85] [] h h') ∧ r = none ∧ (∀ x2 y2 : Int, 0 ≤ x2 → x2 < (h 80) b → 0 ≤ y2 → y2 < (h 81) b → sgn ((h' 85) (64 * b + 8 * y2 + x2)) ((h' 84) (64 * b + 8 * y2 + x2)) = (h 77) (f + 8 * y2 + x2)) ∧ (∀ j : Int, j < 64 * b ∨ 64 * b + 64 ≤ j → (h' 84) j = (h 84) j ∧ (h' 85) j = (h 85) j)) := by
  refine Ctr_of (by decide) (Nat.le_of_ble_eq_true rfl) ⟨Nat.le_refl _, Nat.le_refl _⟩ (fun K hK hQ _ => ?_)
  show TT K ly 0 0 0 [(0, vR 73), (1, vI b), (2, vI f)] [] h
  have hF : FRM [84, 85] [] h h := FRM_rf _ _ _
  obtain ⟨cx, cy, hf1, hf2, hf3, hf4, hf5⟩ := hfit
  refine TT_iconst hK dX12_loadBand_0 ?_
  refine TT_istore_n hK rfl (lv' := [(3, vI 0), (0, vR 73), (1, vI b), (2, vI f)]) (by decide) rfl dX12_loadBand_1 ?_
  have L2_1 : ∀ (k1 : Nat) (y : Int) (w2_1 : Hp_), TY w2_1 → FRM [84, 85] [] h w2_1 → (0 ≤ y ∧ y ≤ 8) → (∀ x2 y2 : Int, 0 ≤ x2 → x2 < h 80 b → 0 ≤ y2 → y2 < y → sgn ((w2_1 85) (64 * b + 8 * y2 + x2)) ((w2_1 84) (64 * b + 8 * y2 + x2)) = h 77 (f + 8 * y2 + x2)) → (∀ j : Int, j < 64 * b ∨ 64 * b + 64 ≤ j → (w2_1 84) j = h 84 j ∧ (w2_1 85) j = h 85 j) → ((8 : Int) - y).toNat < k1 → TT K ly 0 0 2 [(0, vR 73), (1, vI b), (2, vI f), (3, vI y)] [] w2_1 := by
    intro k1
    induction k1 with
    | zero => intro y w2_1 hT2_1 hF2_1 hy hl ho hk1; exact absurd hk1 (Nat.not_lt_zero _)
    | succ k1 ih1 =>
      intro y w2_1 hT2_1 hF2_1 hy hl ho hk1
      refine TT_iload_n hK rfl 3 rfl dX12_loadBand_2 ?_
      refine TT_aload_n hK rfl 0 rfl dX12_loadBand_3 ?_
      refine gf_X12_38 hK (by decide) rfl (q := 81) rfl rfl dX12_loadBand_4 ?_
      refine TT_iload_n hK rfl 1 rfl dX12_loadBand_7 ?_
      refine TT_iald hK (o := 81) (n := 20) (by decide) rfl (by first | omega | (simp [up, setR] <;> omega)) (by first | omega | (simp [up, setR] <;> omega)) (v := (h 81) b) (rd_ (hF2_1.1 81 (by decide)) rfl) dX12_loadBand_8 ?_
      have r2 := ty_81 (i := b) (v := (h 81) b) hT2_1 (rd_ (hF2_1.1 81 (by decide)) rfl) (by omega) (by omega)
      refine TT_icmp_ge hK (tgt := 111) (irm (by omega) (by omega)) (irm (by omega) (by omega)) dX12_loadBand_9 (by decide) (fun hb9_3 => ?_) (fun hb9_3 => ?_)
      · refine TT_vret hK hQ ?_ dX12_loadBand_111
        exact ⟨⟨hT2_1, hF2_1⟩, rfl, (by intro x2 y2 g1 g2 g3 g4; exact hl x2 y2 g1 g2 g3 (by omega)), (by exact ho)⟩
      · refine TT_iconst hK dX12_loadBand_12 ?_
        refine TT_istore hK (lv' := [(4, vI 0), (0, vR 73), (1, vI b), (2, vI f), (3, vI y)]) (by decide) rfl dX12_loadBand_13 ?_
        have L15_4 : ∀ (k4 : Nat) (x : Int) (w15_4 : Hp_), TY w15_4 → FRM [84, 85] [] h w15_4 → (0 ≤ x ∧ x ≤ 8) → (∀ x2 y2 : Int, 0 ≤ x2 → x2 < h 80 b → 0 ≤ y2 → y2 < y → sgn ((w15_4 85) (64 * b + 8 * y2 + x2)) ((w15_4 84) (64 * b + 8 * y2 + x2)) = h 77 (f + 8 * y2 + x2)) → (∀ x2 : Int, 0 ≤ x2 → x2 < x → sgn ((w15_4 85) (64 * b + 8 * y + x2)) ((w15_4 84) (64 * b + 8 * y + x2)) = h 77 (f + 8 * y + x2)) → (∀ j : Int, j < 64 * b ∨ 64 * b + 64 ≤ j → (w15_4 84) j = h 84 j ∧ (w15_4 85) j = h 85 j) → ((8 : Int) - x).toNat < k4 → TT K ly 0 0 15 [(0, vR 73), (1, vI b), (2, vI f), (3, vI y), (4, vI x)] [] w15_4 := by
          intro k4
          induction k4 with
          | zero => intro x w15_4 hT15_4 hF15_4 hx hl hm ho hk4; exact absurd hk4 (Nat.not_lt_zero _)
          | succ k4 ih4 =>
            intro x w15_4 hT15_4 hF15_4 hx hl hm ho hk4
            refine TT_iload hK 4 rfl dX12_loadBand_15 ?_
            refine TT_aload_n hK rfl 0 rfl dX12_loadBand_17 ?_
            refine gf_X12_35 hK (by decide) rfl (q := 80) rfl rfl dX12_loadBand_18 ?_
            refine TT_iload_n hK rfl 1 rfl dX12_loadBand_21 ?_
            refine TT_iald hK (o := 80) (n := 20) (by decide) rfl (by first | omega | (simp [up, setR] <;> omega)) (by first | omega | (simp [up, setR] <;> omega)) (v := (h 80) b) (rd_ (hF15_4.1 80 (by decide)) rfl) dX12_loadBand_22 ?_
            have r5 := ty_80 (i := b) (v := (h 80) b) hT15_4 (rd_ (hF15_4.1 80 (by decide)) rfl) (by omega) (by omega)
            refine TT_icmp_ge hK (tgt := 105) (irm (by omega) (by omega)) (irm (by omega) (by omega)) dX12_loadBand_23 (by decide) (fun hb23_6 => ?_) (fun hb23_6 => ?_)
            · refine TT_iinc hK (v := y + 1) (lv' := [(3, vI (y + 1)), (0, vR 73), (1, vI b), (2, vI f), (4, vI x)]) 3 rfl rfl (by decide) rfl dX12_loadBand_105 ?_
              refine TT_goto hK (tgt := 2) dX12_loadBand_108 (by decide) ?_
              refine TT_sub [1, 2, 3, 0] rfl ?_
              exact ih1 (y + 1) w15_4 hT15_4 hF15_4 (by first | omega | (simp [up, setR] <;> omega)) (by intro x2 y2 g1 g2 g3 g4; by_cases e : y2 = y; (rw [e]; exact hm x2 g1 (by omega)); exact hl x2 y2 g1 g2 g3 (by omega)) (by exact ho) (by first | omega | (simp [up, setR] <;> omega))
            · refine TT_aload_n hK rfl 0 rfl dX12_loadBand_26 ?_
              refine gf_X12_26 hK (by decide) rfl (q := 77) rfl rfl dX12_loadBand_27 ?_
              refine TT_iload_n hK rfl 2 rfl dX12_loadBand_30 ?_
              refine TT_bipush hK (by decide) dX12_loadBand_31 ?_
              refine TT_iload_n hK rfl 3 rfl dX12_loadBand_33 ?_
              refine TT_imul hK dX12_loadBand_34 ?_
              refine TT_iadd hK dX12_loadBand_35 ?_
              refine TT_iload hK 4 rfl dX12_loadBand_36 ?_
              refine TT_iadd hK dX12_loadBand_38 ?_
              refine TT_iald hK (o := 77) (n := 64) (by decide) rfl (by first | omega | (simp [up, setR] <;> omega)) (by first | omega | (simp [up, setR] <;> omega)) (v := (h 77) ((f + (8 * y)) + x)) (rd_ (hF15_4.1 77 (by decide)) rfl) dX12_loadBand_39 ?_
              have r7 := ty_77 (i := (f + (8 * y)) + x) (v := (h 77) ((f + (8 * y)) + x)) hT15_4 (rd_ (hF15_4.1 77 (by decide)) rfl) (by omega) (by omega)
              refine TT_istore hK (lv' := [(5, vI ((h 77) ((f + (8 * y)) + x))), (0, vR 73), (1, vI b), (2, vI f), (3, vI y), (4, vI x)]) (by decide) rfl dX12_loadBand_40 ?_
              have b1 := hsq (f + 8 * y + x) (by omega) (by omega)
              refine TT_aload_n hK rfl 1 rfl dX12_loadBand_42 ?_
              refine gf_X12_47 hK (by decide) rfl (q := 84) rfl rfl dX12_loadBand_43 ?_
              refine TT_bipush hK (by decide) dX12_loadBand_46 ?_
              refine TT_iload_n hK rfl 2 rfl dX12_loadBand_48 ?_
              refine TT_imul hK dX12_loadBand_49 ?_
              refine TT_bipush hK (by decide) dX12_loadBand_50 ?_
              refine TT_iload_n hK rfl 4 rfl dX12_loadBand_52 ?_
              refine TT_imul hK dX12_loadBand_53 ?_
              refine TT_iadd hK dX12_loadBand_54 ?_
              refine TT_iload hK 5 rfl dX12_loadBand_55 ?_
              refine TT_iadd hK dX12_loadBand_57 ?_
              refine TT_iload hK 0 rfl dX12_loadBand_58 ?_
              refine TT_if_ge hK (tgt := 69) (irm (by omega) (by omega)) dX12_loadBand_60 (by decide) (fun hb60_8 => ?_) (fun hb60_8 => ?_)
              · refine TT_iload hK 0 rfl dX12_loadBand_69 ?_
                refine TT_iast hK (o := 84) (n := 1280) (by decide) rfl (by omega) (by omega) dX12_loadBand_71 ?_
                refine TT_hp (h' := setO w15_4 84 (fup (w15_4 84) (((64 * b) + (8 * y)) + x) ((h 77) ((f + (8 * y)) + x)))) (up_can rfl rfl rfl) ?_
                have hT_9 : TY (setO w15_4 84 (fup (w15_4 84) (((64 * b) + (8 * y)) + x) ((h 77) ((f + (8 * y)) + x)))) := tu_84 hT15_4 (show up w15_4 84 (((64 * b) + (8 * y)) + x) ((h 77) ((f + (8 * y)) + x)) = (setO w15_4 84 (fup (w15_4 84) (((64 * b) + (8 * y)) + x) ((h 77) ((f + (8 * y)) + x)))) from up_can rfl rfl rfl) (by omega)
                have hF_9 : FRM [84, 85] [] h (setO w15_4 84 (fup (w15_4 84) (((64 * b) + (8 * y)) + x) ((h 77) ((f + (8 * y)) + x)))) := FRM_up (show up w15_4 84 (((64 * b) + (8 * y)) + x) ((h 77) ((f + (8 * y)) + x)) = (setO w15_4 84 (fup (w15_4 84) (((64 * b) + (8 * y)) + x) ((h 77) ((f + (8 * y)) + x)))) from up_can rfl rfl rfl) hF15_4 (by decide) (by decide)
                refine TT_aload_n hK rfl 1 rfl dX12_loadBand_72 ?_
                refine gf_X12_50 hK (by decide) rfl (q := 85) rfl rfl dX12_loadBand_73 ?_
                refine TT_bipush hK (by decide) dX12_loadBand_76 ?_
                refine TT_iload_n hK rfl 2 rfl dX12_loadBand_78 ?_
                refine TT_imul hK dX12_loadBand_79 ?_
                refine TT_bipush hK (by decide) dX12_loadBand_80 ?_
                refine TT_iload_n hK rfl 4 rfl dX12_loadBand_82 ?_
                refine TT_imul hK dX12_loadBand_83 ?_
                refine TT_iadd hK dX12_loadBand_84 ?_
                refine TT_iload hK 5 rfl dX12_loadBand_85 ?_
                refine TT_iadd hK dX12_loadBand_87 ?_
                refine TT_iload hK 0 rfl dX12_loadBand_88 ?_
                refine TT_if_ge hK (tgt := 97) (irm (by omega) (by omega)) dX12_loadBand_90 (by decide) (fun hb90_10 => ?_) (fun hb90_10 => ?_)
                · refine TT_iconst hK dX12_loadBand_97 ?_
                  refine TT_zast hK (o := 85) (n := 1280) (by decide) rfl (by omega) (by omega) (by first | decide | omega) dX12_loadBand_98 ?_
                  refine TT_hp (h' := setO (setO w15_4 84 (fup (w15_4 84) (((64 * b) + (8 * y)) + x) ((h 77) ((f + (8 * y)) + x)))) 85 (fup (w15_4 85) (((64 * b) + (8 * y)) + x) 0)) (up_can (sOf_ne _ _ (by decide)) rfl rfl) ?_
                  have hT_11 : TY (setO (setO w15_4 84 (fup (w15_4 84) (((64 * b) + (8 * y)) + x) ((h 77) ((f + (8 * y)) + x)))) 85 (fup (w15_4 85) (((64 * b) + (8 * y)) + x) 0)) := tu_85 hT_9 (show up (setO w15_4 84 (fup (w15_4 84) (((64 * b) + (8 * y)) + x) ((h 77) ((f + (8 * y)) + x)))) 85 (((64 * b) + (8 * y)) + x) 0 = (setO (setO w15_4 84 (fup (w15_4 84) (((64 * b) + (8 * y)) + x) ((h 77) ((f + (8 * y)) + x)))) 85 (fup (w15_4 85) (((64 * b) + (8 * y)) + x) 0)) from up_can (sOf_ne _ _ (by decide)) rfl rfl) (by omega)
                  have hF_11 : FRM [84, 85] [] h (setO (setO w15_4 84 (fup (w15_4 84) (((64 * b) + (8 * y)) + x) ((h 77) ((f + (8 * y)) + x)))) 85 (fup (w15_4 85) (((64 * b) + (8 * y)) + x) 0)) := FRM_up (show up (setO w15_4 84 (fup (w15_4 84) (((64 * b) + (8 * y)) + x) ((h 77) ((f + (8 * y)) + x)))) 85 (((64 * b) + (8 * y)) + x) 0 = (setO (setO w15_4 84 (fup (w15_4 84) (((64 * b) + (8 * y)) + x) ((h 77) ((f + (8 * y)) + x)))) 85 (fup (w15_4 85) (((64 * b) + (8 * y)) + x) 0)) from up_can (sOf_ne _ _ (by decide)) rfl rfl) hF_9 (by decide) (by decide)
                  refine TT_iinc hK (v := x + 1) (lv' := [(4, vI (x + 1)), (5, vI ((h 77) ((f + (8 * y)) + x))), (0, vR 73), (1, vI b), (2, vI f), (3, vI y)]) 5 rfl rfl (by decide) rfl dX12_loadBand_99 ?_
                  refine TT_goto hK (tgt := 15) dX12_loadBand_102 (by decide) ?_
                  refine TT_sub [2, 3, 4, 5, 0] rfl ?_
                  have e12_84 : (setO (setO w15_4 84 (fup (w15_4 84) (((64 * b) + (8 * y)) + x) ((h 77) ((f + (8 * y)) + x)))) 85 (fup (w15_4 85) (((64 * b) + (8 * y)) + x) 0)) 84 = fup (w15_4 84) (((64 * b) + (8 * y)) + x) ((h 77) ((f + (8 * y)) + x)) := (sOf_ne _ _ (by decide)).trans (sOf_eq _ _ _)
                  have e13_85 : (setO (setO w15_4 84 (fup (w15_4 84) (((64 * b) + (8 * y)) + x) ((h 77) ((f + (8 * y)) + x)))) 85 (fup (w15_4 85) (((64 * b) + (8 * y)) + x) 0)) 85 = fup (w15_4 85) (((64 * b) + (8 * y)) + x) 0 := sOf_eq _ _ _
                  have e14_84 : (setO (setO w15_4 84 (fup (w15_4 84) (((64 * b) + (8 * y)) + x) ((h 77) ((f + (8 * y)) + x)))) 85 (fup (w15_4 85) (((64 * b) + (8 * y)) + x) 0)) 84 = fup (w15_4 84) (((64 * b) + (8 * y)) + x) ((h 77) ((f + (8 * y)) + x)) := (sOf_ne _ _ (by decide)).trans (sOf_eq _ _ _)
                  have e15_85 : (setO (setO w15_4 84 (fup (w15_4 84) (((64 * b) + (8 * y)) + x) ((h 77) ((f + (8 * y)) + x)))) 85 (fup (w15_4 85) (((64 * b) + (8 * y)) + x) 0)) 85 = fup (w15_4 85) (((64 * b) + (8 * y)) + x) 0 := sOf_eq _ _ _
                  have e16_84 : (setO (setO w15_4 84 (fup (w15_4 84) (((64 * b) + (8 * y)) + x) ((h 77) ((f + (8 * y)) + x)))) 85 (fup (w15_4 85) (((64 * b) + (8 * y)) + x) 0)) 84 = fup (w15_4 84) (((64 * b) + (8 * y)) + x) ((h 77) ((f + (8 * y)) + x)) := (sOf_ne _ _ (by decide)).trans (sOf_eq _ _ _)
                  have e17_85 : (setO (setO w15_4 84 (fup (w15_4 84) (((64 * b) + (8 * y)) + x) ((h 77) ((f + (8 * y)) + x)))) 85 (fup (w15_4 85) (((64 * b) + (8 * y)) + x) 0)) 85 = fup (w15_4 85) (((64 * b) + (8 * y)) + x) 0 := sOf_eq _ _ _
                  exact ih4 (x + 1) (setO (setO w15_4 84 (fup (w15_4 84) (((64 * b) + (8 * y)) + x) ((h 77) ((f + (8 * y)) + x)))) 85 (fup (w15_4 85) (((64 * b) + (8 * y)) + x) 0)) hT_11 hF_11 (by first | omega | (simp [up, setR] <;> omega)) (by rewrite [e12_84, e13_85]; intro x2 y2 g1 g2 g3 g4; rw [fup_ne _ _ (show 64 * b + 8 * y2 + x2 ≠ 64 * b + 8 * y + x by omega), fup_ne _ _ (show 64 * b + 8 * y2 + x2 ≠ 64 * b + 8 * y + x by omega)]; exact hl x2 y2 g1 g2 g3 g4) (by rewrite [e14_84, e15_85]; intro x2 g1 g2; by_cases e : x2 = x; (rw [e, fup_eq, fup_eq]; unfold sgn; first | rw [if_pos rfl] | (rw [if_neg (by decide)]; omega)); (rw [fup_ne _ _ (show 64 * b + 8 * y + x2 ≠ 64 * b + 8 * y + x by omega), fup_ne _ _ (show 64 * b + 8 * y + x2 ≠ 64 * b + 8 * y + x by omega)]; exact hm x2 g1 (by omega))) (by rewrite [e16_84, e17_85]; intro j hj; rw [fup_ne _ _ (show j ≠ 64 * b + 8 * y + x by omega), fup_ne _ _ (show j ≠ 64 * b + 8 * y + x by omega)]; exact ho j hj) (by first | omega | (simp [up, setR] <;> omega))
                · exfalso; omega
              · refine TT_iload hK 0 rfl dX12_loadBand_63 ?_
                refine TT_ineg hK dX12_loadBand_65 ?_
                refine TT_goto hK (tgt := 71) dX12_loadBand_66 (by decide) ?_
                refine TT_iast hK (o := 84) (n := 1280) (by decide) rfl (by omega) (by omega) dX12_loadBand_71 ?_
                refine TT_hp (h' := setO w15_4 84 (fup (w15_4 84) (((64 * b) + (8 * y)) + x) (-((h 77) ((f + (8 * y)) + x))))) (up_can rfl rfl rfl) ?_
                have hT_18 : TY (setO w15_4 84 (fup (w15_4 84) (((64 * b) + (8 * y)) + x) (-((h 77) ((f + (8 * y)) + x))))) := tu_84 hT15_4 (show up w15_4 84 (((64 * b) + (8 * y)) + x) (-((h 77) ((f + (8 * y)) + x))) = (setO w15_4 84 (fup (w15_4 84) (((64 * b) + (8 * y)) + x) (-((h 77) ((f + (8 * y)) + x))))) from up_can rfl rfl rfl) (by omega)
                have hF_18 : FRM [84, 85] [] h (setO w15_4 84 (fup (w15_4 84) (((64 * b) + (8 * y)) + x) (-((h 77) ((f + (8 * y)) + x))))) := FRM_up (show up w15_4 84 (((64 * b) + (8 * y)) + x) (-((h 77) ((f + (8 * y)) + x))) = (setO w15_4 84 (fup (w15_4 84) (((64 * b) + (8 * y)) + x) (-((h 77) ((f + (8 * y)) + x))))) from up_can rfl rfl rfl) hF15_4 (by decide) (by decide)
                refine TT_aload_n hK rfl 1 rfl dX12_loadBand_72 ?_
                refine gf_X12_50 hK (by decide) rfl (q := 85) rfl rfl dX12_loadBand_73 ?_
                refine TT_bipush hK (by decide) dX12_loadBand_76 ?_
                refine TT_iload_n hK rfl 2 rfl dX12_loadBand_78 ?_
                refine TT_imul hK dX12_loadBand_79 ?_
                refine TT_bipush hK (by decide) dX12_loadBand_80 ?_
                refine TT_iload_n hK rfl 4 rfl dX12_loadBand_82 ?_
                refine TT_imul hK dX12_loadBand_83 ?_
                refine TT_iadd hK dX12_loadBand_84 ?_
                refine TT_iload hK 5 rfl dX12_loadBand_85 ?_
                refine TT_iadd hK dX12_loadBand_87 ?_
                refine TT_iload hK 0 rfl dX12_loadBand_88 ?_
                refine TT_if_ge hK (tgt := 97) (irm (by omega) (by omega)) dX12_loadBand_90 (by decide) (fun hb90_19 => ?_) (fun hb90_19 => ?_)
                · exfalso; omega
                · refine TT_iconst hK dX12_loadBand_93 ?_
                  refine TT_goto hK (tgt := 98) dX12_loadBand_94 (by decide) ?_
                  refine TT_zast hK (o := 85) (n := 1280) (by decide) rfl (by omega) (by omega) (by first | decide | omega) dX12_loadBand_98 ?_
                  refine TT_hp (h' := setO (setO w15_4 84 (fup (w15_4 84) (((64 * b) + (8 * y)) + x) (-((h 77) ((f + (8 * y)) + x))))) 85 (fup (w15_4 85) (((64 * b) + (8 * y)) + x) 1)) (up_can (sOf_ne _ _ (by decide)) rfl rfl) ?_
                  have hT_20 : TY (setO (setO w15_4 84 (fup (w15_4 84) (((64 * b) + (8 * y)) + x) (-((h 77) ((f + (8 * y)) + x))))) 85 (fup (w15_4 85) (((64 * b) + (8 * y)) + x) 1)) := tu_85 hT_18 (show up (setO w15_4 84 (fup (w15_4 84) (((64 * b) + (8 * y)) + x) (-((h 77) ((f + (8 * y)) + x))))) 85 (((64 * b) + (8 * y)) + x) 1 = (setO (setO w15_4 84 (fup (w15_4 84) (((64 * b) + (8 * y)) + x) (-((h 77) ((f + (8 * y)) + x))))) 85 (fup (w15_4 85) (((64 * b) + (8 * y)) + x) 1)) from up_can (sOf_ne _ _ (by decide)) rfl rfl) (by omega)
                  have hF_20 : FRM [84, 85] [] h (setO (setO w15_4 84 (fup (w15_4 84) (((64 * b) + (8 * y)) + x) (-((h 77) ((f + (8 * y)) + x))))) 85 (fup (w15_4 85) (((64 * b) + (8 * y)) + x) 1)) := FRM_up (show up (setO w15_4 84 (fup (w15_4 84) (((64 * b) + (8 * y)) + x) (-((h 77) ((f + (8 * y)) + x))))) 85 (((64 * b) + (8 * y)) + x) 1 = (setO (setO w15_4 84 (fup (w15_4 84) (((64 * b) + (8 * y)) + x) (-((h 77) ((f + (8 * y)) + x))))) 85 (fup (w15_4 85) (((64 * b) + (8 * y)) + x) 1)) from up_can (sOf_ne _ _ (by decide)) rfl rfl) hF_18 (by decide) (by decide)
                  refine TT_iinc hK (v := x + 1) (lv' := [(4, vI (x + 1)), (5, vI ((h 77) ((f + (8 * y)) + x))), (0, vR 73), (1, vI b), (2, vI f), (3, vI y)]) 5 rfl rfl (by decide) rfl dX12_loadBand_99 ?_
                  refine TT_goto hK (tgt := 15) dX12_loadBand_102 (by decide) ?_
                  refine TT_sub [2, 3, 4, 5, 0] rfl ?_
                  have e21_84 : (setO (setO w15_4 84 (fup (w15_4 84) (((64 * b) + (8 * y)) + x) (-((h 77) ((f + (8 * y)) + x))))) 85 (fup (w15_4 85) (((64 * b) + (8 * y)) + x) 1)) 84 = fup (w15_4 84) (((64 * b) + (8 * y)) + x) (-((h 77) ((f + (8 * y)) + x))) := (sOf_ne _ _ (by decide)).trans (sOf_eq _ _ _)
                  have e22_85 : (setO (setO w15_4 84 (fup (w15_4 84) (((64 * b) + (8 * y)) + x) (-((h 77) ((f + (8 * y)) + x))))) 85 (fup (w15_4 85) (((64 * b) + (8 * y)) + x) 1)) 85 = fup (w15_4 85) (((64 * b) + (8 * y)) + x) 1 := sOf_eq _ _ _
                  have e23_84 : (setO (setO w15_4 84 (fup (w15_4 84) (((64 * b) + (8 * y)) + x) (-((h 77) ((f + (8 * y)) + x))))) 85 (fup (w15_4 85) (((64 * b) + (8 * y)) + x) 1)) 84 = fup (w15_4 84) (((64 * b) + (8 * y)) + x) (-((h 77) ((f + (8 * y)) + x))) := (sOf_ne _ _ (by decide)).trans (sOf_eq _ _ _)
                  have e24_85 : (setO (setO w15_4 84 (fup (w15_4 84) (((64 * b) + (8 * y)) + x) (-((h 77) ((f + (8 * y)) + x))))) 85 (fup (w15_4 85) (((64 * b) + (8 * y)) + x) 1)) 85 = fup (w15_4 85) (((64 * b) + (8 * y)) + x) 1 := sOf_eq _ _ _
                  have e25_84 : (setO (setO w15_4 84 (fup (w15_4 84) (((64 * b) + (8 * y)) + x) (-((h 77) ((f + (8 * y)) + x))))) 85 (fup (w15_4 85) (((64 * b) + (8 * y)) + x) 1)) 84 = fup (w15_4 84) (((64 * b) + (8 * y)) + x) (-((h 77) ((f + (8 * y)) + x))) := (sOf_ne _ _ (by decide)).trans (sOf_eq _ _ _)
                  have e26_85 : (setO (setO w15_4 84 (fup (w15_4 84) (((64 * b) + (8 * y)) + x) (-((h 77) ((f + (8 * y)) + x))))) 85 (fup (w15_4 85) (((64 * b) + (8 * y)) + x) 1)) 85 = fup (w15_4 85) (((64 * b) + (8 * y)) + x) 1 := sOf_eq _ _ _
                  exact ih4 (x + 1) (setO (setO w15_4 84 (fup (w15_4 84) (((64 * b) + (8 * y)) + x) (-((h 77) ((f + (8 * y)) + x))))) 85 (fup (w15_4 85) (((64 * b) + (8 * y)) + x) 1)) hT_20 hF_20 (by first | omega | (simp [up, setR] <;> omega)) (by rewrite [e21_84, e22_85]; intro x2 y2 g1 g2 g3 g4; rw [fup_ne _ _ (show 64 * b + 8 * y2 + x2 ≠ 64 * b + 8 * y + x by omega), fup_ne _ _ (show 64 * b + 8 * y2 + x2 ≠ 64 * b + 8 * y + x by omega)]; exact hl x2 y2 g1 g2 g3 g4) (by rewrite [e23_84, e24_85]; intro x2 g1 g2; by_cases e : x2 = x; (rw [e, fup_eq, fup_eq]; unfold sgn; first | rw [if_pos rfl] | (rw [if_neg (by decide)]; omega)); (rw [fup_ne _ _ (show 64 * b + 8 * y + x2 ≠ 64 * b + 8 * y + x by omega), fup_ne _ _ (show 64 * b + 8 * y + x2 ≠ 64 * b + 8 * y + x by omega)]; exact hm x2 g1 (by omega))) (by rewrite [e25_84, e26_85]; intro j hj; rw [fup_ne _ _ (show j ≠ 64 * b + 8 * y + x by omega), fup_ne _ _ (show j ≠ 64 * b + 8 * y + x by omega)]; exact ho j hj) (by first | omega | (simp [up, setR] <;> omega))
        refine TT_sub [1, 2, 3, 4, 0] rfl ?_
        exact L15_4 ((((8 : Int) - 0).toNat) + 1) 0 w2_1 hT2_1 hF2_1 (by first | omega | (simp [up, setR] <;> omega)) (by exact hl) (by intro x2 g1 g2; exfalso; omega) (by exact ho) (Nat.lt_succ_self _)
  refine TT_sub [1, 2, 3, 0] rfl ?_
  exact L2_1 ((((8 : Int) - 0).toNat) + 1) 0 h hT hF (by first | omega | (simp [up, setR] <;> omega)) (by intro x2 y2 g1 g2 g3 g4; exfalso; omega) (by (intro j hj; exact ⟨rfl, rfl⟩)) (Nat.lt_succ_self _)
set_option maxRecDepth 20000 in
theorem s_encode_x (l n : Int) (h : Hp_) (hT : TY h) (hl : -2147483648 ≤ l ∧ l ≤ 2147483647) (hn : -2147483648 ≤ n ∧ n ≤ 2147483647) (htb : TBL (h 74) (h 75)) (hmi : MIQ (h 90) (h 91)) : Ctr yX12_encode cX12_encode 6 (some .int) (rmd 10) ly ly 0 0 [vR 73, vI l, vI n] h (fun r h' => (TY h' ∧ FRM [73, 77, 78, 79, 80, 81, 82, 83, 84, 85, 86, 87, 88, 89, 90, 91, 92, 93, 94, 95, 96, 97, 98, 99, 100] [2, 18, 26, 27, 28, 29, 32, 33, 34, 36, 38, 39, 41, 42, 43] h h') ∧ ∃ z : Int, r = some (vI z) ∧ (0 ≤ z ∧ z ≤ 4400) ∧ (MIQ (h' 90) (h' 91)) ∧ ((0 ≤ l ∧ l ≤ 3) ∧ (1 ≤ n ∧ n ≤ 3) → (h' 73 18) = 3 * l + 1 ∧ (∀ j : Int, 0 ≤ j → j < 3 * l + 1 → (h' 80) j = BW (h 73 3) l j ∧ (h' 81) j = BH (h 73 4) l j) ∧ (∀ b2 x2 y2 : Int, 0 ≤ b2 → b2 < 3 * l + 1 → 0 ≤ x2 → x2 < BW (h 73 3) l b2 → 0 ≤ y2 → y2 < BH (h 73 4) l b2 → sgn ((h' 85) (64 * b2 + 8 * y2 + x2)) ((h' 84) (64 * b2 + 8 * y2 + x2)) = LE (h 73 3) (h 73 4) (fun i => (h 76) i - 128) l (8 * CY (h 73 4) l b2 + CX (h 73 3) l b2 + 8 * y2 + x2))) ∧ (¬((0 ≤ l ∧ l ≤ 3) ∧ (1 ≤ n ∧ n ≤ 3)) → (h' 73 18) = (h 73 18) ∧ (h' 80) = (h 80) ∧ (h' 81) = (h 81) ∧ (h' 84) = (h 84) ∧ (h' 85) = (h 85))) := by
  refine Ctr_of (by decide) (Nat.le_of_ble_eq_true rfl) ⟨Nat.le_refl _, Nat.le_refl _⟩ (fun K hK hQ _ => ?_)
  show TT K ly 0 0 0 [(0, vR 73), (1, vI l), (2, vI n)] [] h
  have hF : FRM [73, 77, 78, 79, 80, 81, 82, 83, 84, 85, 86, 87, 88, 89, 90, 91, 92, 93, 94, 95, 96, 97, 98, 99, 100] [2, 18, 26, 27, 28, 29, 32, 33, 34, 36, 38, 39, 41, 42, 43] h h := FRM_rf _ _ _
  have rW := ty_73_3 (v := h 73 3) hT rfl
  have rH := ty_73_4 (v := h 73 4) hT rfl
  refine TT_aload_n hK rfl 0 rfl dX12_encode_0 ?_
  refine TT_iload_n hK rfl 1 rfl dX12_encode_1 ?_
  refine TT_iconst hK dX12_encode_2 ?_
  refine TT_iconst hK dX12_encode_3 ?_
  refine iv_X12_120 hK (s_X12_within l 0 3 h hT (by first | omega | (simp [up, setR] <;> omega)) (by first | omega | (simp [up, setR] <;> omega)) (by first | omega | (simp [up, setR] <;> omega))) ⟨by decide, by decide⟩ (by decide) rfl rfl (Nat.le_of_ble_eq_true rfl) ⟨by decide, by decide⟩ dX12_encode_4 ?_
  intro r9 g4_1 hp9
  obtain ⟨⟨hT_1, hG_1⟩, z4_1, hr9, hz_1, p1_1, p2_1⟩ := hp9
  rw [hr9]
  have hF_1 : FRM [73, 77, 78, 79, 80, 81, 82, 83, 84, 85, 86, 87, 88, 89, 90, 91, 92, 93, 94, 95, 96, 97, 98, 99, 100] [2, 18, 26, 27, 28, 29, 32, 33, 34, 36, 38, 39, 41, 42, 43] h g4_1 := FRM_tr hF hG_1 (by decide) (by decide)
  show TT K ly 0 0 7 [(0, vR 73), (1, vI l), (2, vI n)] [vI z4_1, vR 73] g4_1
  refine TT_if_eq hK (tgt := 23) (irm (by omega) (by omega)) dX12_encode_7 (by decide) (fun hb7_2 => ?_) (fun hb7_2 => ?_)
  · refine TT_iconst hK dX12_encode_23 ?_
    refine pf_X12_117 hK (by decide) rfl dX12_encode_24 ?_
    refine TT_hp (h' := setO g4_1 73 (fup (h 73) 2 1)) (up_can (hG_1.1 73 (by decide)) rfl rfl) ?_
    have hT_3 : TY (setO g4_1 73 (fup (h 73) 2 1)) := tu_73_2 hT_1 (show up g4_1 73 2 1 = (setO g4_1 73 (fup (h 73) 2 1)) from up_can (hG_1.1 73 (by decide)) rfl rfl) (by omega)
    have hF_3 : FRM [73, 77, 78, 79, 80, 81, 82, 83, 84, 85, 86, 87, 88, 89, 90, 91, 92, 93, 94, 95, 96, 97, 98, 99, 100] [2, 18, 26, 27, 28, 29, 32, 33, 34, 36, 38, 39, 41, 42, 43] h (setO g4_1 73 (fup (h 73) 2 1)) := FRM_f (show up g4_1 73 2 1 = (setO g4_1 73 (fup (h 73) 2 1)) from up_can (hG_1.1 73 (by decide)) rfl rfl) hF_1 (by decide) (by decide)
    refine TT_aload_n hK rfl 0 rfl dX12_encode_27 ?_
    refine gf_X12_117 hK (by decide) rfl (v := 1) (rd_ (sOf_eq _ _ _) (fup_eq _ _ _)) dX12_encode_28 ?_
    refine TT_if_le hK (tgt := 36) (by decide) dX12_encode_31 (by decide) (fun hb31_4 => ?_) (fun hb31_4 => ?_)
    · exact absurd hb31_4 (by decide)
    · refine TT_iconst hK dX12_encode_34 ?_
      refine TT_iret hK hQ ?_ dX12_encode_35
      have e5_90 : (setO g4_1 73 (fup (h 73) 2 1)) 90 = h 90 := (sOf_ne _ _ (by decide)).trans (hG_1.1 90 (by decide))
      have e6_91 : (setO g4_1 73 (fup (h 73) 2 1)) 91 = h 91 := (sOf_ne _ _ (by decide)).trans (hG_1.1 91 (by decide))
      have e7_73_18 : (setO g4_1 73 (fup (h 73) 2 1)) 73 18 = (h 73) 18 := rd_ (sOf_eq _ _ _) (fup_ne _ _ (by decide))
      have e8_80 : (setO g4_1 73 (fup (h 73) 2 1)) 80 = h 80 := (sOf_ne _ _ (by decide)).trans (hG_1.1 80 (by decide))
      have e9_81 : (setO g4_1 73 (fup (h 73) 2 1)) 81 = h 81 := (sOf_ne _ _ (by decide)).trans (hG_1.1 81 (by decide))
      have e10_84 : (setO g4_1 73 (fup (h 73) 2 1)) 84 = h 84 := (sOf_ne _ _ (by decide)).trans (hG_1.1 84 (by decide))
      have e11_85 : (setO g4_1 73 (fup (h 73) 2 1)) 85 = h 85 := (sOf_ne _ _ (by decide)).trans (hG_1.1 85 (by decide))
      have e12_73_18 : (setO g4_1 73 (fup (h 73) 2 1)) 73 18 = (h 73) 18 := rd_ (sOf_eq _ _ _) (fup_ne _ _ (by decide))
      have e13_80 : (setO g4_1 73 (fup (h 73) 2 1)) 80 = h 80 := (sOf_ne _ _ (by decide)).trans (hG_1.1 80 (by decide))
      have e14_81 : (setO g4_1 73 (fup (h 73) 2 1)) 81 = h 81 := (sOf_ne _ _ (by decide)).trans (hG_1.1 81 (by decide))
      have e15_84 : (setO g4_1 73 (fup (h 73) 2 1)) 84 = h 84 := (sOf_ne _ _ (by decide)).trans (hG_1.1 84 (by decide))
      have e16_85 : (setO g4_1 73 (fup (h 73) 2 1)) 85 = h 85 := (sOf_ne _ _ (by decide)).trans (hG_1.1 85 (by decide))
      exact ⟨⟨hT_3, hF_3⟩, 0, rfl, (by omega), (by rewrite [e5_90, e6_91]; exact hmi), (by rewrite [e7_73_18, e8_80, e9_81, e10_84, e11_85]; first | (intro q; exfalso; omega) | exact (fun _ => ⟨k18, fun j h1 h2 => ⟨hbw j h1 h2, hbh j h1 h2⟩, hnf⟩)), (by rewrite [e12_73_18, e13_80, e14_81, e15_84, e16_85]; first | exact (fun _ => ⟨rfl, rfl, rfl, rfl, rfl⟩) | (intro q; exfalso; omega))⟩
  · refine TT_iload_n hK rfl 2 rfl dX12_encode_10 ?_
    refine TT_iconst hK dX12_encode_11 ?_
    refine TT_iconst hK dX12_encode_12 ?_
    refine iv_X12_120 hK (s_X12_within n 1 3 g4_1 hT_1 (by first | omega | (simp [up, setR] <;> omega)) (by first | omega | (simp [up, setR] <;> omega)) (by first | omega | (simp [up, setR] <;> omega))) ⟨by decide, by decide⟩ (by decide) rfl rfl (Nat.le_of_ble_eq_true rfl) ⟨by decide, by decide⟩ dX12_encode_13 ?_
    intro r9 g13_17 hp9
    obtain ⟨⟨hT_17, hG_17⟩, z13_17, hr9, hz_17, p1_17, p2_17⟩ := hp9
    rw [hr9]
    have hF_17 : FRM [73, 77, 78, 79, 80, 81, 82, 83, 84, 85, 86, 87, 88, 89, 90, 91, 92, 93, 94, 95, 96, 97, 98, 99, 100] [2, 18, 26, 27, 28, 29, 32, 33, 34, 36, 38, 39, 41, 42, 43] h g13_17 := FRM_tr hF_1 hG_17 (by decide) (by decide)
    show TT K ly 0 0 16 [(0, vR 73), (1, vI l), (2, vI n)] [vI z13_17, vR 73] g13_17
    refine TT_if_eq hK (tgt := 23) (irm (by omega) (by omega)) dX12_encode_16 (by decide) (fun hb16_18 => ?_) (fun hb16_18 => ?_)
    · refine TT_iconst hK dX12_encode_23 ?_
      refine pf_X12_117 hK (by decide) rfl dX12_encode_24 ?_
      refine TT_hp (h' := setO g13_17 73 (fup (h 73) 2 1)) (up_can (((hG_17.1 73 (by decide))).trans (hG_1.1 73 (by decide))) rfl rfl) ?_
      have hT_19 : TY (setO g13_17 73 (fup (h 73) 2 1)) := tu_73_2 hT_17 (show up g13_17 73 2 1 = (setO g13_17 73 (fup (h 73) 2 1)) from up_can (((hG_17.1 73 (by decide))).trans (hG_1.1 73 (by decide))) rfl rfl) (by omega)
      have hF_19 : FRM [73, 77, 78, 79, 80, 81, 82, 83, 84, 85, 86, 87, 88, 89, 90, 91, 92, 93, 94, 95, 96, 97, 98, 99, 100] [2, 18, 26, 27, 28, 29, 32, 33, 34, 36, 38, 39, 41, 42, 43] h (setO g13_17 73 (fup (h 73) 2 1)) := FRM_f (show up g13_17 73 2 1 = (setO g13_17 73 (fup (h 73) 2 1)) from up_can (((hG_17.1 73 (by decide))).trans (hG_1.1 73 (by decide))) rfl rfl) hF_17 (by decide) (by decide)
      refine TT_aload_n hK rfl 0 rfl dX12_encode_27 ?_
      refine gf_X12_117 hK (by decide) rfl (v := 1) (rd_ (sOf_eq _ _ _) (fup_eq _ _ _)) dX12_encode_28 ?_
      refine TT_if_le hK (tgt := 36) (by decide) dX12_encode_31 (by decide) (fun hb31_20 => ?_) (fun hb31_20 => ?_)
      · exact absurd hb31_20 (by decide)
      · refine TT_iconst hK dX12_encode_34 ?_
        refine TT_iret hK hQ ?_ dX12_encode_35
        have e21_90 : (setO g13_17 73 (fup (h 73) 2 1)) 90 = h 90 := (sOf_ne _ _ (by decide)).trans (((hG_17.1 90 (by decide))).trans (hG_1.1 90 (by decide)))
        have e22_91 : (setO g13_17 73 (fup (h 73) 2 1)) 91 = h 91 := (sOf_ne _ _ (by decide)).trans (((hG_17.1 91 (by decide))).trans (hG_1.1 91 (by decide)))
        have e23_73_18 : (setO g13_17 73 (fup (h 73) 2 1)) 73 18 = (h 73) 18 := rd_ (sOf_eq _ _ _) (fup_ne _ _ (by decide))
        have e24_80 : (setO g13_17 73 (fup (h 73) 2 1)) 80 = h 80 := (sOf_ne _ _ (by decide)).trans (((hG_17.1 80 (by decide))).trans (hG_1.1 80 (by decide)))
        have e25_81 : (setO g13_17 73 (fup (h 73) 2 1)) 81 = h 81 := (sOf_ne _ _ (by decide)).trans (((hG_17.1 81 (by decide))).trans (hG_1.1 81 (by decide)))
        have e26_84 : (setO g13_17 73 (fup (h 73) 2 1)) 84 = h 84 := (sOf_ne _ _ (by decide)).trans (((hG_17.1 84 (by decide))).trans (hG_1.1 84 (by decide)))
        have e27_85 : (setO g13_17 73 (fup (h 73) 2 1)) 85 = h 85 := (sOf_ne _ _ (by decide)).trans (((hG_17.1 85 (by decide))).trans (hG_1.1 85 (by decide)))
        have e28_73_18 : (setO g13_17 73 (fup (h 73) 2 1)) 73 18 = (h 73) 18 := rd_ (sOf_eq _ _ _) (fup_ne _ _ (by decide))
        have e29_80 : (setO g13_17 73 (fup (h 73) 2 1)) 80 = h 80 := (sOf_ne _ _ (by decide)).trans (((hG_17.1 80 (by decide))).trans (hG_1.1 80 (by decide)))
        have e30_81 : (setO g13_17 73 (fup (h 73) 2 1)) 81 = h 81 := (sOf_ne _ _ (by decide)).trans (((hG_17.1 81 (by decide))).trans (hG_1.1 81 (by decide)))
        have e31_84 : (setO g13_17 73 (fup (h 73) 2 1)) 84 = h 84 := (sOf_ne _ _ (by decide)).trans (((hG_17.1 84 (by decide))).trans (hG_1.1 84 (by decide)))
        have e32_85 : (setO g13_17 73 (fup (h 73) 2 1)) 85 = h 85 := (sOf_ne _ _ (by decide)).trans (((hG_17.1 85 (by decide))).trans (hG_1.1 85 (by decide)))
        exact ⟨⟨hT_19, hF_19⟩, 0, rfl, (by omega), (by rewrite [e21_90, e22_91]; exact hmi), (by rewrite [e23_73_18, e24_80, e25_81, e26_84, e27_85]; first | (intro q; exfalso; omega) | exact (fun _ => ⟨k18, fun j h1 h2 => ⟨hbw j h1 h2, hbh j h1 h2⟩, hnf⟩)), (by rewrite [e28_73_18, e29_80, e30_81, e31_84, e32_85]; first | exact (fun _ => ⟨rfl, rfl, rfl, rfl, rfl⟩) | (intro q; exfalso; omega))⟩
    · refine TT_iconst hK dX12_encode_19 ?_
      refine TT_goto hK (tgt := 24) dX12_encode_20 (by decide) ?_
      refine pf_X12_117 hK (by decide) rfl dX12_encode_24 ?_
      refine TT_hp (h' := setO g13_17 73 (fup (h 73) 2 0)) (up_can (((hG_17.1 73 (by decide))).trans (hG_1.1 73 (by decide))) rfl rfl) ?_
      have hT_33 : TY (setO g13_17 73 (fup (h 73) 2 0)) := tu_73_2 hT_17 (show up g13_17 73 2 0 = (setO g13_17 73 (fup (h 73) 2 0)) from up_can (((hG_17.1 73 (by decide))).trans (hG_1.1 73 (by decide))) rfl rfl) (by omega)
      have hF_33 : FRM [73, 77, 78, 79, 80, 81, 82, 83, 84, 85, 86, 87, 88, 89, 90, 91, 92, 93, 94, 95, 96, 97, 98, 99, 100] [2, 18, 26, 27, 28, 29, 32, 33, 34, 36, 38, 39, 41, 42, 43] h (setO g13_17 73 (fup (h 73) 2 0)) := FRM_f (show up g13_17 73 2 0 = (setO g13_17 73 (fup (h 73) 2 0)) from up_can (((hG_17.1 73 (by decide))).trans (hG_1.1 73 (by decide))) rfl rfl) hF_17 (by decide) (by decide)
      refine TT_aload_n hK rfl 0 rfl dX12_encode_27 ?_
      refine gf_X12_117 hK (by decide) rfl (v := 0) (rd_ (sOf_eq _ _ _) (fup_eq _ _ _)) dX12_encode_28 ?_
      refine TT_if_le hK (tgt := 36) (by decide) dX12_encode_31 (by decide) (fun hb31_34 => ?_) (fun hb31_34 => ?_)
      · refine TT_iconst hK dX12_encode_36 ?_
        refine TT_istore_n hK rfl (lv' := [(3, vI 0), (0, vR 73), (1, vI l), (2, vI n)]) (by decide) rfl dX12_encode_37 ?_
        have L38_35 : ∀ (k35 : Nat) (k : Int) (w38_35 : Hp_), TY w38_35 → FRM [73, 77, 78, 79, 80, 81, 82, 83, 84, 85, 86, 87, 88, 89, 90, 91, 92, 93, 94, 95, 96, 97, 98, 99, 100] [2, 18, 26, 27, 28, 29, 32, 33, 34, 36, 38, 39, 41, 42, 43] h w38_35 → (MIQ (w38_35 90) (w38_35 91)) → (0 ≤ k ∧ k ≤ 64) → (∀ j : Int, 0 ≤ j → j < k → -128 ≤ (w38_35 77) j ∧ (w38_35 77) j ≤ 128) → (∀ j : Int, 0 ≤ j → j < k → (w38_35 77) j = h 76 j - 128) → ((64 : Int) - k).toNat < k35 → TT K ly 0 0 38 [(0, vR 73), (1, vI l), (2, vI n), (3, vI k)] [] w38_35 := by
          intro k35
          induction k35 with
          | zero => intro k w38_35 hT38_35 hF38_35 hmi hk hs0 hs1 hk35; exact absurd hk35 (Nat.not_lt_zero _)
          | succ k35 ih35 =>
            intro k w38_35 hT38_35 hF38_35 hmi hk hs0 hs1 hk35
            refine TT_iload_n hK rfl 3 rfl dX12_encode_38 ?_
            refine TT_bipush hK (by decide) dX12_encode_39 ?_
            refine TT_icmp_ge hK (tgt := 66) (irm (by omega) (by omega)) (by decide) dX12_encode_41 (by decide) (fun hb41_36 => ?_) (fun hb41_36 => ?_)
            · refine TT_iconst hK dX12_encode_66 ?_
              refine TT_istore_n hK rfl (lv' := [(3, vI 0), (0, vR 73), (1, vI l), (2, vI n)]) (by decide) rfl dX12_encode_67 ?_
              have L68_37 : ∀ (k37 : Nat) (lv : Int) (w68_37 : Hp_), TY w68_37 → FRM [73, 77, 78, 79, 80, 81, 82, 83, 84, 85, 86, 87, 88, 89, 90, 91, 92, 93, 94, 95, 96, 97, 98, 99, 100] [2, 18, 26, 27, 28, 29, 32, 33, 34, 36, 38, 39, 41, 42, 43] h w68_37 → (MIQ (w68_37 90) (w68_37 91)) → (0 ≤ lv ∧ lv ≤ l) → (LV (lf (h 73 3) lv) (lf (h 73 4) lv) (BL lv) (w68_37 77)) → (∀ i : Int, 0 ≤ i → i < 64 → (w68_37 77) i = LE (h 73 3) (h 73 4) (fun i => h 76 i - 128) lv i) → ((3 : Int) - lv).toNat < k37 → TT K ly 0 0 68 [(0, vR 73), (1, vI l), (2, vI n), (3, vI lv)] [] w68_37 := by
                intro k37
                induction k37 with
                | zero => intro lv w68_37 hT68_37 hF68_37 hmi hlv hLV hxq hk37; exact absurd hk37 (Nat.not_lt_zero _)
                | succ k37 ih37 =>
                  intro lv w68_37 hT68_37 hF68_37 hmi hlv hLV hxq hk37
                  have l1 := lf_1 (n := h 73 3) (l := lv) rW (by omega)
                  have l2 := lf_1 (n := h 73 4) (l := lv) rH (by omega)
                  have hll : 0 ≤ l ∧ l ≤ 3 := by omega
                  refine TT_iload_n hK rfl 3 rfl dX12_encode_68 ?_
                  refine TT_iload_n hK rfl 1 rfl dX12_encode_69 ?_
                  refine TT_icmp_ge hK (tgt := 121) (irm (by omega) (by omega)) (irm (by omega) (by omega)) dX12_encode_70 (by decide) (fun hb70_38 => ?_) (fun hb70_38 => ?_)
                  · refine TT_aload_n hK rfl 0 rfl dX12_encode_121 ?_
                    refine TT_iconst hK dX12_encode_122 ?_
                    refine TT_aload_n hK rfl 0 rfl dX12_encode_123 ?_
                    refine gf_X12_16 hK (by decide) rfl (v := (h 73) 3) (hF68_37.2 3 (by decide)) dX12_encode_124 ?_
                    have r39 := ty_73_3 (v := (h 73) 3) hT68_37 (hF68_37.2 3 (by decide))
                    refine TT_aload_n hK rfl 0 rfl dX12_encode_127 ?_
                    refine gf_X12_20 hK (by decide) rfl (v := (h 73) 4) (hF68_37.2 4 (by decide)) dX12_encode_128 ?_
                    have r40 := ty_73_4 (v := (h 73) 4) hT68_37 (hF68_37.2 4 (by decide))
                    refine TT_iload_n hK rfl 1 rfl dX12_encode_131 ?_
                    refine iv_X12_342 hK (s_beBands_x 0 ((h 73) 3) ((h 73) 4) l w68_37 hT68_37 (by first | omega | (simp [up, setR] <;> omega)) (by first | omega | (simp [up, setR] <;> omega)) (by first | omega | (simp [up, setR] <;> omega)) (by first | omega | (simp [up, setR] <;> omega))) (by decide) rfl ⟨by decide, by decide⟩ (by decide) rfl rfl (Nat.le_of_ble_eq_true rfl) ⟨by decide, by decide⟩ dX12_encode_132 ?_
                    intro r9 g132_41 hp9
                    obtain ⟨⟨hT_41, hG_41⟩, hr9, q1_41, q2_41, q3_41⟩ := hp9
                    rw [hr9]
                    have hF_41 : FRM [73, 77, 78, 79, 80, 81, 82, 83, 84, 85, 86, 87, 88, 89, 90, 91, 92, 93, 94, 95, 96, 97, 98, 99, 100] [2, 18, 26, 27, 28, 29, 32, 33, 34, 36, 38, 39, 41, 42, 43] h g132_41 := FRM_tr hF68_37 hG_41 (by decide) (by decide)
                    have q1_at132 := q1_41
                    have q2_at132 := q2_41
                    have q3_at132 := q3_41
                    show TT K ly 0 0 135 [(0, vR 73), (1, vI l), (2, vI n), (3, vI lv)] [] g132_41
                    refine TT_aload_n hK rfl 0 rfl dX12_encode_135 ?_
                    refine TT_iconst hK dX12_encode_136 ?_
                    refine TT_iload_n hK rfl 1 rfl dX12_encode_137 ?_
                    refine TT_imul hK dX12_encode_138 ?_
                    refine TT_iconst hK dX12_encode_139 ?_
                    refine TT_iadd hK dX12_encode_140 ?_
                    refine pf_X12_345 hK (by decide) rfl dX12_encode_141 ?_
                    refine TT_hp (h' := setO g132_41 73 (fup (w68_37 73) 18 ((3 * l) + 1))) (up_can (hG_41.1 73 (by decide)) rfl rfl) ?_
                    have hT_42 : TY (setO g132_41 73 (fup (w68_37 73) 18 ((3 * l) + 1))) := tu_73_18 hT_41 (show up g132_41 73 18 ((3 * l) + 1) = (setO g132_41 73 (fup (w68_37 73) 18 ((3 * l) + 1))) from up_can (hG_41.1 73 (by decide)) rfl rfl) (by omega)
                    have hF_42 : FRM [73, 77, 78, 79, 80, 81, 82, 83, 84, 85, 86, 87, 88, 89, 90, 91, 92, 93, 94, 95, 96, 97, 98, 99, 100] [2, 18, 26, 27, 28, 29, 32, 33, 34, 36, 38, 39, 41, 42, 43] h (setO g132_41 73 (fup (w68_37 73) 18 ((3 * l) + 1))) := FRM_f (show up g132_41 73 18 ((3 * l) + 1) = (setO g132_41 73 (fup (w68_37 73) 18 ((3 * l) + 1))) from up_can (hG_41.1 73 (by decide)) rfl rfl) hF_41 (by decide) (by decide)
                    refine TT_iconst hK dX12_encode_144 ?_
                    refine TT_istore_n hK rfl (lv' := [(3, vI 0), (0, vR 73), (1, vI l), (2, vI n)]) (by decide) rfl dX12_encode_145 ?_
                    refine TT_iconst hK dX12_encode_146 ?_
                    refine TT_istore hK (lv' := [(4, vI 0), (3, vI 0), (0, vR 73), (1, vI l), (2, vI n)]) (by decide) rfl dX12_encode_147 ?_
                    have L149_43 : ∀ (k43 : Nat) (f : Int) (b : Int) (w149_43 : Hp_), TY w149_43 → FRM [73, 77, 78, 79, 80, 81, 82, 83, 84, 85, 86, 87, 88, 89, 90, 91, 92, 93, 94, 95, 96, 97, 98, 99, 100] [2, 18, 26, 27, 28, 29, 32, 33, 34, 36, 38, 39, 41, 42, 43] h w149_43 → (0 ≤ b ∧ b ≤ 3 * l + 1) → ((w149_43 73 18) = 3 * l + 1) → (∀ i : Int, 0 ≤ i → i < 64 → -4095 ≤ (w149_43 77) i ∧ (w149_43 77) i ≤ 4095) → (∀ j : Int, 0 ≤ j → j < 3 * l + 1 → (w149_43 80) j = BW (h 73 3) l j) → (∀ j : Int, 0 ≤ j → j < 3 * l + 1 → (w149_43 81) j = BH (h 73 4) l j) → (∀ j : Int, 0 ≤ j → j < 3 * l + 1 → (w149_43 86) j = 0) → (MIQ (w149_43 90) (w149_43 91)) → (LQ (w149_43 83) (w149_43 91) (w149_43 92) b) → (0 ≤ f ∧ f ≤ 48 * IS (AR (h 73 3) (h 73 4) l) b + 30 * b) → (f = IS (w149_43 91) b) → (∀ i : Int, 0 ≤ i → i < 64 → (w149_43 77) i = LE (h 73 3) (h 73 4) (fun i => h 76 i - 128) l i) → (∀ b2 x2 y2 : Int, 0 ≤ b2 → b2 < b → 0 ≤ x2 → x2 < BW (h 73 3) l b2 → 0 ≤ y2 → y2 < BH (h 73 4) l b2 → sgn ((w149_43 85) (64 * b2 + 8 * y2 + x2)) ((w149_43 84) (64 * b2 + 8 * y2 + x2)) = LE (h 73 3) (h 73 4) (fun i => h 76 i - 128) l (8 * CY (h 73 4) l b2 + CX (h 73 3) l b2 + 8 * y2 + x2)) → ((10 : Int) - b).toNat < k43 → TT K ly 0 0 149 [(0, vR 73), (1, vI l), (2, vI n), (3, vI f), (4, vI b)] [] w149_43 := by
                      intro k43
                      induction k43 with
                      | zero => intro f b w149_43 hT149_43 hF149_43 hb k18 hsq hbw hbh hbt hmi hlq hf hfs hx3 hnq hk43; exact absurd hk43 (Nat.not_lt_zero _)
                      | succ k43 ih43 =>
                        intro f b w149_43 hT149_43 hF149_43 hb k18 hsq hbw hbh hbt hmi hlq hf hfs hx3 hnq hk43
                        refine TT_iload hK 4 rfl dX12_encode_149 ?_
                        refine TT_aload_n hK rfl 0 rfl dX12_encode_151 ?_
                        refine gf_X12_345 hK (by decide) rfl (v := (w149_43 73) 18) rfl dX12_encode_152 ?_
                        have r44 := ty_73_18 (v := (w149_43 73) 18) hT149_43 rfl
                        refine TT_icmp_ge hK (tgt := 201) (irm (by omega) (by omega)) (irm (by omega) (by omega)) dX12_encode_155 (by decide) (fun hb155_45 => ?_) (fun hb155_45 => ?_)
                        · have gn := GT_nn (c := 3 * l + 1) hT149_43 (by omega)
                          have iaR := ARb (w := (h 73 3)) (e := (h 73 4)) (l := l) (c := b) (by omega) (by omega) (by omega) (by omega)
                          refine TT_aload_n hK rfl 0 rfl dX12_encode_201 ?_
                          refine gf_X12_96 hK (by decide) rfl (q := 100) rfl rfl dX12_encode_202 ?_
                          refine TT_iconst hK dX12_encode_205 ?_
                          refine TT_aload_n hK rfl 0 rfl dX12_encode_206 ?_
                          refine gf_X12_16 hK (by decide) rfl (v := (h 73) 3) (hF149_43.2 3 (by decide)) dX12_encode_207 ?_
                          have r46 := ty_73_3 (v := (h 73) 3) hT149_43 (hF149_43.2 3 (by decide))
                          refine TT_iast hK (o := 100) (n := 4700) (by decide) rfl (by omega) (by omega) dX12_encode_210 ?_
                          refine TT_hp (h' := setO w149_43 100 (fup (w149_43 100) 0 ((h 73) 3))) (up_can rfl rfl rfl) ?_
                          have hT_47 : TY (setO w149_43 100 (fup (w149_43 100) 0 ((h 73) 3))) := tu_100 hT149_43 (show up w149_43 100 0 ((h 73) 3) = (setO w149_43 100 (fup (w149_43 100) 0 ((h 73) 3))) from up_can rfl rfl rfl) (by omega)
                          have hF_47 : FRM [73, 77, 78, 79, 80, 81, 82, 83, 84, 85, 86, 87, 88, 89, 90, 91, 92, 93, 94, 95, 96, 97, 98, 99, 100] [2, 18, 26, 27, 28, 29, 32, 33, 34, 36, 38, 39, 41, 42, 43] h (setO w149_43 100 (fup (w149_43 100) 0 ((h 73) 3))) := FRM_up (show up w149_43 100 0 ((h 73) 3) = (setO w149_43 100 (fup (w149_43 100) 0 ((h 73) 3))) from up_can rfl rfl rfl) hF149_43 (by decide) (by decide)
                          refine TT_aload_n hK rfl 0 rfl dX12_encode_211 ?_
                          refine gf_X12_96 hK (by decide) rfl (q := 100) rfl rfl dX12_encode_212 ?_
                          refine TT_iconst hK dX12_encode_215 ?_
                          refine TT_aload_n hK rfl 0 rfl dX12_encode_216 ?_
                          refine gf_X12_20 hK (by decide) rfl (v := (h 73) 4) ((rd_ (sOf_ne _ _ (by decide)) rfl).trans (hF149_43.2 4 (by decide))) dX12_encode_217 ?_
                          have r48 := ty_73_4 (v := (h 73) 4) hT_47 ((rd_ (sOf_ne _ _ (by decide)) rfl).trans (hF149_43.2 4 (by decide)))
                          refine TT_iast hK (o := 100) (n := 4700) (by decide) rfl (by omega) (by omega) dX12_encode_220 ?_
                          refine TT_hp (h' := setO w149_43 100 (fup (fup (w149_43 100) 0 ((h 73) 3)) 1 ((h 73) 4))) (up_can (sOf_eq _ _ _) rfl (setO_same _ _ _ _)) ?_
                          have hT_49 : TY (setO w149_43 100 (fup (fup (w149_43 100) 0 ((h 73) 3)) 1 ((h 73) 4))) := tu_100 hT_47 (show up (setO w149_43 100 (fup (w149_43 100) 0 ((h 73) 3))) 100 1 ((h 73) 4) = (setO w149_43 100 (fup (fup (w149_43 100) 0 ((h 73) 3)) 1 ((h 73) 4))) from up_can (sOf_eq _ _ _) rfl (setO_same _ _ _ _)) (by omega)
                          have hF_49 : FRM [73, 77, 78, 79, 80, 81, 82, 83, 84, 85, 86, 87, 88, 89, 90, 91, 92, 93, 94, 95, 96, 97, 98, 99, 100] [2, 18, 26, 27, 28, 29, 32, 33, 34, 36, 38, 39, 41, 42, 43] h (setO w149_43 100 (fup (fup (w149_43 100) 0 ((h 73) 3)) 1 ((h 73) 4))) := FRM_up (show up (setO w149_43 100 (fup (w149_43 100) 0 ((h 73) 3))) 100 1 ((h 73) 4) = (setO w149_43 100 (fup (fup (w149_43 100) 0 ((h 73) 3)) 1 ((h 73) 4))) from up_can (sOf_eq _ _ _) rfl (setO_same _ _ _ _)) hF_47 (by decide) (by decide)
                          refine TT_aload_n hK rfl 0 rfl dX12_encode_221 ?_
                          refine gf_X12_96 hK (by decide) rfl (q := 100) rfl rfl dX12_encode_222 ?_
                          refine TT_iconst hK dX12_encode_225 ?_
                          refine TT_iload_n hK rfl 1 rfl dX12_encode_226 ?_
                          refine TT_iast hK (o := 100) (n := 4700) (by decide) rfl (by omega) (by omega) dX12_encode_227 ?_
                          refine TT_hp (h' := setO w149_43 100 (fup (fup (fup (w149_43 100) 0 ((h 73) 3)) 1 ((h 73) 4)) 2 l)) (up_can (sOf_eq _ _ _) rfl (setO_same _ _ _ _)) ?_
                          have hT_50 : TY (setO w149_43 100 (fup (fup (fup (w149_43 100) 0 ((h 73) 3)) 1 ((h 73) 4)) 2 l)) := tu_100 hT_49 (show up (setO w149_43 100 (fup (fup (w149_43 100) 0 ((h 73) 3)) 1 ((h 73) 4))) 100 2 l = (setO w149_43 100 (fup (fup (fup (w149_43 100) 0 ((h 73) 3)) 1 ((h 73) 4)) 2 l)) from up_can (sOf_eq _ _ _) rfl (setO_same _ _ _ _)) (by omega)
                          have hF_50 : FRM [73, 77, 78, 79, 80, 81, 82, 83, 84, 85, 86, 87, 88, 89, 90, 91, 92, 93, 94, 95, 96, 97, 98, 99, 100] [2, 18, 26, 27, 28, 29, 32, 33, 34, 36, 38, 39, 41, 42, 43] h (setO w149_43 100 (fup (fup (fup (w149_43 100) 0 ((h 73) 3)) 1 ((h 73) 4)) 2 l)) := FRM_up (show up (setO w149_43 100 (fup (fup (w149_43 100) 0 ((h 73) 3)) 1 ((h 73) 4))) 100 2 l = (setO w149_43 100 (fup (fup (fup (w149_43 100) 0 ((h 73) 3)) 1 ((h 73) 4)) 2 l)) from up_can (sOf_eq _ _ _) rfl (setO_same _ _ _ _)) hF_49 (by decide) (by decide)
                          refine TT_aload_n hK rfl 0 rfl dX12_encode_228 ?_
                          refine gf_X12_96 hK (by decide) rfl (q := 100) rfl rfl dX12_encode_229 ?_
                          refine TT_iconst hK dX12_encode_232 ?_
                          refine TT_iload_n hK rfl 2 rfl dX12_encode_233 ?_
                          refine TT_iast hK (o := 100) (n := 4700) (by decide) rfl (by omega) (by omega) dX12_encode_234 ?_
                          refine TT_hp (h' := setO w149_43 100 (fup (fup (fup (fup (w149_43 100) 0 ((h 73) 3)) 1 ((h 73) 4)) 2 l) 3 n)) (up_can (sOf_eq _ _ _) rfl (setO_same _ _ _ _)) ?_
                          have hT_51 : TY (setO w149_43 100 (fup (fup (fup (fup (w149_43 100) 0 ((h 73) 3)) 1 ((h 73) 4)) 2 l) 3 n)) := tu_100 hT_50 (show up (setO w149_43 100 (fup (fup (fup (w149_43 100) 0 ((h 73) 3)) 1 ((h 73) 4)) 2 l)) 100 3 n = (setO w149_43 100 (fup (fup (fup (fup (w149_43 100) 0 ((h 73) 3)) 1 ((h 73) 4)) 2 l) 3 n)) from up_can (sOf_eq _ _ _) rfl (setO_same _ _ _ _)) (by omega)
                          have hF_51 : FRM [73, 77, 78, 79, 80, 81, 82, 83, 84, 85, 86, 87, 88, 89, 90, 91, 92, 93, 94, 95, 96, 97, 98, 99, 100] [2, 18, 26, 27, 28, 29, 32, 33, 34, 36, 38, 39, 41, 42, 43] h (setO w149_43 100 (fup (fup (fup (fup (w149_43 100) 0 ((h 73) 3)) 1 ((h 73) 4)) 2 l) 3 n)) := FRM_up (show up (setO w149_43 100 (fup (fup (fup (w149_43 100) 0 ((h 73) 3)) 1 ((h 73) 4)) 2 l)) 100 3 n = (setO w149_43 100 (fup (fup (fup (fup (w149_43 100) 0 ((h 73) 3)) 1 ((h 73) 4)) 2 l) 3 n)) from up_can (sOf_eq _ _ _) rfl (setO_same _ _ _ _)) hF_50 (by decide) (by decide)
                          refine TT_aload_n hK rfl 0 rfl dX12_encode_235 ?_
                          refine TT_iconst hK dX12_encode_236 ?_
                          refine pf_X12_329 hK (by decide) rfl dX12_encode_237 ?_
                          refine TT_hp (h' := setO (setO w149_43 73 (fup (w149_43 73) 41 4)) 100 (fup (fup (fup (fup (w149_43 100) 0 ((h 73) 3)) 1 ((h 73) 4)) 2 l) 3 n)) (up_can (sOf_ne _ _ (by decide)) rfl ((setO_comm _ _ _ (by decide)).trans (setO_cg rfl rfl))) ?_
                          have hT_52 : TY (setO (setO w149_43 73 (fup (w149_43 73) 41 4)) 100 (fup (fup (fup (fup (w149_43 100) 0 ((h 73) 3)) 1 ((h 73) 4)) 2 l) 3 n)) := tu_73_41 hT_51 (show up (setO w149_43 100 (fup (fup (fup (fup (w149_43 100) 0 ((h 73) 3)) 1 ((h 73) 4)) 2 l) 3 n)) 73 41 4 = (setO (setO w149_43 73 (fup (w149_43 73) 41 4)) 100 (fup (fup (fup (fup (w149_43 100) 0 ((h 73) 3)) 1 ((h 73) 4)) 2 l) 3 n)) from up_can (sOf_ne _ _ (by decide)) rfl ((setO_comm _ _ _ (by decide)).trans (setO_cg rfl rfl))) (by omega)
                          have hF_52 : FRM [73, 77, 78, 79, 80, 81, 82, 83, 84, 85, 86, 87, 88, 89, 90, 91, 92, 93, 94, 95, 96, 97, 98, 99, 100] [2, 18, 26, 27, 28, 29, 32, 33, 34, 36, 38, 39, 41, 42, 43] h (setO (setO w149_43 73 (fup (w149_43 73) 41 4)) 100 (fup (fup (fup (fup (w149_43 100) 0 ((h 73) 3)) 1 ((h 73) 4)) 2 l) 3 n)) := FRM_f (show up (setO w149_43 100 (fup (fup (fup (fup (w149_43 100) 0 ((h 73) 3)) 1 ((h 73) 4)) 2 l) 3 n)) 73 41 4 = (setO (setO w149_43 73 (fup (w149_43 73) 41 4)) 100 (fup (fup (fup (fup (w149_43 100) 0 ((h 73) 3)) 1 ((h 73) 4)) 2 l) 3 n)) from up_can (sOf_ne _ _ (by decide)) rfl ((setO_comm _ _ _ (by decide)).trans (setO_cg rfl rfl))) hF_51 (by decide) (by decide)
                          refine TT_iconst hK dX12_encode_240 ?_
                          refine TT_istore hK (lv' := [(4, vI 1), (0, vR 73), (1, vI l), (2, vI n), (3, vI f)]) (by decide) rfl dX12_encode_241 ?_
                          have L243_53 : ∀ (k53 : Nat) (i : Int) (w243_53 : Hp_), TY w243_53 → FRM [73, 77, 78, 79, 80, 81, 82, 83, 84, 85, 86, 87, 88, 89, 90, 91, 92, 93, 94, 95, 96, 97, 98, 99, 100] [2, 18, 26, 27, 28, 29, 32, 33, 34, 36, 38, 39, 41, 42, 43] h w243_53 → (1 ≤ i ∧ i ≤ n + 1) → ((w243_53 73 18) = 3 * l + 1) → (MIQ (w243_53 90) (w243_53 91)) → (LQ (w243_53 83) (w243_53 91) (w243_53 92) (3 * l + 1)) → (IS (w243_53 91) (3 * l + 1) ≤ 3372) → (i ≤ n → TKQ (w243_53 86) (w243_53 83) i n (3 * l + 1)) → ((w243_53 73 41) ≤ 4 + 19 * (4 * (i - 1)) + IS (GT (w243_53 92) (w243_53 86)) (3 * l + 1)) → (∀ j : Int, 0 ≤ j → j < 3 * l + 1 → (w243_53 80) j = BW (h 73 3) l j) → (∀ j : Int, 0 ≤ j → j < 3 * l + 1 → (w243_53 81) j = BH (h 73 4) l j) → (∀ b2 x2 y2 : Int, 0 ≤ b2 → b2 < 3 * l + 1 → 0 ≤ x2 → x2 < BW (h 73 3) l b2 → 0 ≤ y2 → y2 < BH (h 73 4) l b2 → sgn ((w243_53 85) (64 * b2 + 8 * y2 + x2)) ((w243_53 84) (64 * b2 + 8 * y2 + x2)) = LE (h 73 3) (h 73 4) (fun i => h 76 i - 128) l (8 * CY (h 73 4) l b2 + CX (h 73 3) l b2 + 8 * y2 + x2)) → ((4 : Int) - i).toNat < k53 → TT K ly 0 0 243 [(0, vR 73), (1, vI l), (2, vI n), (4, vI i)] [] w243_53 := by
                            intro k53
                            induction k53 with
                            | zero => intro i w243_53 hT243_53 hF243_53 hi k18 hmi hlq hws htk hln hbw hbh hnf hk53; exact absurd hk53 (Nat.not_lt_zero _)
                            | succ k53 ih53 =>
                              intro i w243_53 hT243_53 hF243_53 hi k18 hmi hlq hws htk hln hbw hbh hnf hk53
                              refine TT_iload hK 3 rfl dX12_encode_243 ?_
                              refine TT_iload_n hK rfl 2 rfl dX12_encode_245 ?_
                              refine TT_icmp_gt hK (tgt := 279) (irm (by omega) (by omega)) (irm (by omega) (by omega)) dX12_encode_246 (by decide) (fun hb246_54 => ?_) (fun hb246_54 => ?_)
                              · refine TT_aload_n hK rfl 0 rfl dX12_encode_279 ?_
                                refine gf_X12_329 hK (by decide) rfl (v := (w243_53 73) 41) rfl dX12_encode_280 ?_
                                have r55 := ty_73_41 (v := (w243_53 73) 41) hT243_53 rfl
                                refine TT_iret hK hQ ?_ dX12_encode_283
                                have e56_73_18 : w243_53 73 18 = (w243_53 73) 18 := rfl
                                have e57_73_18 : w243_53 73 18 = (w243_53 73) 18 := rfl
                                exact ⟨⟨hT243_53, hF243_53⟩, ((w243_53 73) 41), rfl, (by omega), (by exact hmi), (by rewrite [e56_73_18]; first | (intro q; exfalso; omega) | exact (fun _ => ⟨k18, fun j h1 h2 => ⟨hbw j h1 h2, hbh j h1 h2⟩, hnf⟩)), (by rewrite [e57_73_18]; first | exact (fun _ => ⟨rfl, rfl, rfl, rfl, rfl⟩) | (intro q; exfalso; omega))⟩
                              · refine TT_iconst hK dX12_encode_249 ?_
                                refine TT_istore hK (lv' := [(5, vI 0), (0, vR 73), (1, vI l), (2, vI n), (4, vI i)]) (by decide) rfl dX12_encode_250 ?_
                                have L252_58 : ∀ (k58 : Nat) (r : Int) (w252_58 : Hp_), TY w252_58 → FRM [73, 77, 78, 79, 80, 81, 82, 83, 84, 85, 86, 87, 88, 89, 90, 91, 92, 93, 94, 95, 96, 97, 98, 99, 100] [2, 18, 26, 27, 28, 29, 32, 33, 34, 36, 38, 39, 41, 42, 43] h w252_58 → (0 ≤ r ∧ r ≤ l + 1) → ((w252_58 73 18) = 3 * l + 1) → (MIQ (w252_58 90) (w252_58 91)) → (LQ (w252_58 83) (w252_58 91) (w252_58 92) (3 * l + 1)) → (IS (w252_58 91) (3 * l + 1) ≤ 3372) → (TKQ (w252_58 86) (w252_58 83) i n (3 * l + 1)) → ((w252_58 73 41) ≤ 4 + 19 * (4 * (i - 1) + r) + IS (GT (w252_58 92) (w252_58 86)) (3 * l + 1)) → (∀ j : Int, 0 ≤ j → j < 3 * l + 1 → (w252_58 80) j = BW (h 73 3) l j) → (∀ j : Int, 0 ≤ j → j < 3 * l + 1 → (w252_58 81) j = BH (h 73 4) l j) → (∀ b2 x2 y2 : Int, 0 ≤ b2 → b2 < 3 * l + 1 → 0 ≤ x2 → x2 < BW (h 73 3) l b2 → 0 ≤ y2 → y2 < BH (h 73 4) l b2 → sgn ((w252_58 85) (64 * b2 + 8 * y2 + x2)) ((w252_58 84) (64 * b2 + 8 * y2 + x2)) = LE (h 73 3) (h 73 4) (fun i => h 76 i - 128) l (8 * CY (h 73 4) l b2 + CX (h 73 3) l b2 + 8 * y2 + x2)) → ((4 : Int) - r).toNat < k58 → TT K ly 0 0 252 [(0, vR 73), (1, vI l), (2, vI n), (4, vI i), (5, vI r)] [] w252_58 := by
                                  intro k58
                                  induction k58 with
                                  | zero => intro r w252_58 hT252_58 hF252_58 hr k18 hmi hlq hws htk2 hln hbw hbh hnf hk58; exact absurd hk58 (Nat.not_lt_zero _)
                                  | succ k58 ih58 =>
                                    intro r w252_58 hT252_58 hF252_58 hr k18 hmi hlq hws htk2 hln hbw hbh hnf hk58
                                    refine TT_iload hK 4 rfl dX12_encode_252 ?_
                                    refine TT_iload_n hK rfl 1 rfl dX12_encode_254 ?_
                                    refine TT_icmp_gt hK (tgt := 273) (irm (by omega) (by omega)) (irm (by omega) (by omega)) dX12_encode_255 (by decide) (fun hb255_59 => ?_) (fun hb255_59 => ?_)
                                    · refine TT_iinc hK (v := i + 1) (lv' := [(4, vI (i + 1)), (0, vR 73), (1, vI l), (2, vI n), (5, vI r)]) 3 rfl rfl (by decide) rfl dX12_encode_273 ?_
                                      refine TT_goto hK (tgt := 243) dX12_encode_276 (by decide) ?_
                                      refine TT_sub [1, 2, 3, 0] rfl ?_
                                      have e60_73_18 : w252_58 73 18 = (w252_58 73) 18 := rfl
                                      have e61_73_41 : w252_58 73 41 = (w252_58 73) 41 := rfl
                                      exact ih53 (i + 1) w252_58 hT252_58 hF252_58 (by first | omega | (simp [up, setR] <;> omega)) (by rewrite [e60_73_18]; first | omega | (simp [up, setR] <;> omega)) (by exact hmi) (by exact hlq) (by exact hws) (by intro h1; exact TKQ_m htk2 (fun j h2 h3 => (ty_83 (i := j) (v := w252_58 83 j) hT252_58 rfl h2 (by omega)).1.1) (by omega) (by omega)) (by rewrite [e61_73_41]; first | omega | (simp [up, setR] <;> omega)) (by exact hbw) (by exact hbh) (by exact hnf) (by first | omega | (simp [up, setR] <;> omega))
                                    · refine TT_aload_n hK rfl 0 rfl dX12_encode_258 ?_
                                      refine TT_iload hK 4 rfl dX12_encode_259 ?_
                                      refine TT_iload hK 3 rfl dX12_encode_261 ?_
                                      refine TT_iload_n hK rfl 2 rfl dX12_encode_263 ?_
                                      have e62_73_18 : w252_58 73 18 = (w252_58 73) 18 := rfl
                                      have e63_73_18 : w252_58 73 18 = (w252_58 73) 18 := rfl
                                      have e64_73_18 : w252_58 73 18 = (w252_58 73) 18 := rfl
                                      have e65_73_18 : w252_58 73 18 = (w252_58 73) 18 := rfl
                                      have e66_73_41 : w252_58 73 41 = (w252_58 73) 41 := rfl
                                      refine iv_X12_358 hK (s_X12_putPacket_73 r i n w252_58 hT252_58 (by first | omega | (simp [up, setR] <;> omega)) (by rewrite [e62_73_18]; rw [k18]; omega) (by first | omega | (simp [up, setR] <;> omega)) (by first | omega | (simp [up, setR] <;> omega)) (by rewrite [e63_73_18]; rw [k18]; exact hlq) (by first | assumption | exact hmi) (by rewrite [e64_73_18]; rw [k18]; exact htk2) (by rewrite [e65_73_18, e66_73_41]; rw [k18]; omega)) (by decide) rfl ⟨by decide, by decide⟩ (by decide) rfl rfl (Nat.le_of_ble_eq_true rfl) ⟨by decide, by decide⟩ dX12_encode_264 ?_
                                      intro r9 g264_67 hp9
                                      obtain ⟨⟨hT_67, hG_67⟩, hr9, q1_67, q2_67⟩ := hp9
                                      rw [hr9]
                                      have hF_67 : FRM [73, 77, 78, 79, 80, 81, 82, 83, 84, 85, 86, 87, 88, 89, 90, 91, 92, 93, 94, 95, 96, 97, 98, 99, 100] [2, 18, 26, 27, 28, 29, 32, 33, 34, 36, 38, 39, 41, 42, 43] h g264_67 := FRM_tr hF252_58 hG_67 (by decide) (by decide)
                                      rw [show w252_58 73 18 = (w252_58 73) 18 from rfl] at q1_67
                                      rw [show w252_58 73 41 = (w252_58 73) 41 from rfl] at q1_67
                                      rw [show w252_58 73 18 = (w252_58 73) 18 from rfl] at q2_67
                                      have q1_at264 := q1_67
                                      have q2_at264 := q2_67
                                      show TT K ly 0 0 267 [(0, vR 73), (1, vI l), (2, vI n), (4, vI i), (5, vI r)] [] g264_67
                                      refine TT_iinc hK (v := r + 1) (lv' := [(5, vI (r + 1)), (0, vR 73), (1, vI l), (2, vI n), (4, vI i)]) 4 rfl rfl (by decide) rfl dX12_encode_267 ?_
                                      refine TT_goto hK (tgt := 252) dX12_encode_270 (by decide) ?_
                                      refine TT_sub [1, 2, 3, 4, 0] rfl ?_
                                      have e68_73_18 : g264_67 73 18 = (w252_58 73) 18 := (hG_67.2 18 (by decide))
                                      have e69_90 : g264_67 90 = w252_58 90 := (hG_67.1 90 (by decide))
                                      have e70_91 : g264_67 91 = w252_58 91 := (hG_67.1 91 (by decide))
                                      have e71_83 : g264_67 83 = w252_58 83 := (hG_67.1 83 (by decide))
                                      have e72_91 : g264_67 91 = w252_58 91 := (hG_67.1 91 (by decide))
                                      have e73_92 : g264_67 92 = w252_58 92 := (hG_67.1 92 (by decide))
                                      have e74_91 : g264_67 91 = w252_58 91 := (hG_67.1 91 (by decide))
                                      have e75_83 : g264_67 83 = w252_58 83 := (hG_67.1 83 (by decide))
                                      have e76_73_41 : g264_67 73 41 = (g264_67 73) 41 := rfl
                                      have e77_92 : g264_67 92 = w252_58 92 := (hG_67.1 92 (by decide))
                                      have e78_80 : g264_67 80 = w252_58 80 := (hG_67.1 80 (by decide))
                                      have e79_81 : g264_67 81 = w252_58 81 := (hG_67.1 81 (by decide))
                                      have e80_84 : g264_67 84 = w252_58 84 := (hG_67.1 84 (by decide))
                                      have e81_85 : g264_67 85 = w252_58 85 := (hG_67.1 85 (by decide))
                                      rw [k18] at q1_at264 q2_at264
                                      exact ih58 (r + 1) g264_67 hT_67 hF_67 (by first | omega | (simp [up, setR] <;> omega)) (by rewrite [e68_73_18]; first | omega | (simp [up, setR] <;> omega)) (by rewrite [e69_90, e70_91]; exact hmi) (by rewrite [e71_83, e72_91, e73_92]; exact hlq) (by rewrite [e74_91]; exact hws) (by rewrite [e75_83]; exact q2_at264) (by rewrite [e76_73_41, e77_92]; first | omega | (simp [up, setR] <;> omega)) (by rewrite [e78_80]; exact hbw) (by rewrite [e79_81]; exact hbh) (by rewrite [e80_84, e81_85]; exact hnf) (by first | omega | (simp [up, setR] <;> omega))
                                refine TT_sub [1, 2, 3, 4, 0] rfl ?_
                                have e82_73_18 : w243_53 73 18 = (w243_53 73) 18 := rfl
                                have e83_73_41 : w243_53 73 41 = (w243_53 73) 41 := rfl
                                exact L252_58 ((((4 : Int) - 0).toNat) + 1) 0 w243_53 hT243_53 hF243_53 (by first | omega | (simp [up, setR] <;> omega)) (by rewrite [e82_73_18]; first | omega | (simp [up, setR] <;> omega)) (by exact hmi) (by exact hlq) (by exact hws) (by exact htk (by omega)) (by rewrite [e83_73_41]; first | omega | (simp [up, setR] <;> omega)) (by exact hbw) (by exact hbh) (by exact hnf) (Nat.lt_succ_self _)
                          refine TT_sub [1, 2, 3, 0] rfl ?_
                          have e84_73_18 : (setO (setO w149_43 73 (fup (w149_43 73) 41 4)) 100 (fup (fup (fup (fup (w149_43 100) 0 ((h 73) 3)) 1 ((h 73) 4)) 2 l) 3 n)) 73 18 = (w149_43 73) 18 := rd_ ((sOf_ne _ _ (by decide)).trans (sOf_eq _ _ _)) (fup_ne _ _ (by decide))
                          have e85_90 : (setO (setO w149_43 73 (fup (w149_43 73) 41 4)) 100 (fup (fup (fup (fup (w149_43 100) 0 ((h 73) 3)) 1 ((h 73) 4)) 2 l) 3 n)) 90 = w149_43 90 := (sOf_ne _ _ (by decide)).trans (sOf_ne _ _ (by decide))
                          have e86_91 : (setO (setO w149_43 73 (fup (w149_43 73) 41 4)) 100 (fup (fup (fup (fup (w149_43 100) 0 ((h 73) 3)) 1 ((h 73) 4)) 2 l) 3 n)) 91 = w149_43 91 := (sOf_ne _ _ (by decide)).trans (sOf_ne _ _ (by decide))
                          have e87_83 : (setO (setO w149_43 73 (fup (w149_43 73) 41 4)) 100 (fup (fup (fup (fup (w149_43 100) 0 ((h 73) 3)) 1 ((h 73) 4)) 2 l) 3 n)) 83 = w149_43 83 := (sOf_ne _ _ (by decide)).trans (sOf_ne _ _ (by decide))
                          have e88_91 : (setO (setO w149_43 73 (fup (w149_43 73) 41 4)) 100 (fup (fup (fup (fup (w149_43 100) 0 ((h 73) 3)) 1 ((h 73) 4)) 2 l) 3 n)) 91 = w149_43 91 := (sOf_ne _ _ (by decide)).trans (sOf_ne _ _ (by decide))
                          have e89_92 : (setO (setO w149_43 73 (fup (w149_43 73) 41 4)) 100 (fup (fup (fup (fup (w149_43 100) 0 ((h 73) 3)) 1 ((h 73) 4)) 2 l) 3 n)) 92 = w149_43 92 := (sOf_ne _ _ (by decide)).trans (sOf_ne _ _ (by decide))
                          have e90_91 : (setO (setO w149_43 73 (fup (w149_43 73) 41 4)) 100 (fup (fup (fup (fup (w149_43 100) 0 ((h 73) 3)) 1 ((h 73) 4)) 2 l) 3 n)) 91 = w149_43 91 := (sOf_ne _ _ (by decide)).trans (sOf_ne _ _ (by decide))
                          have e91_83 : (setO (setO w149_43 73 (fup (w149_43 73) 41 4)) 100 (fup (fup (fup (fup (w149_43 100) 0 ((h 73) 3)) 1 ((h 73) 4)) 2 l) 3 n)) 83 = w149_43 83 := (sOf_ne _ _ (by decide)).trans (sOf_ne _ _ (by decide))
                          have e92_86 : (setO (setO w149_43 73 (fup (w149_43 73) 41 4)) 100 (fup (fup (fup (fup (w149_43 100) 0 ((h 73) 3)) 1 ((h 73) 4)) 2 l) 3 n)) 86 = w149_43 86 := (sOf_ne _ _ (by decide)).trans (sOf_ne _ _ (by decide))
                          have e93_73_41 : (setO (setO w149_43 73 (fup (w149_43 73) 41 4)) 100 (fup (fup (fup (fup (w149_43 100) 0 ((h 73) 3)) 1 ((h 73) 4)) 2 l) 3 n)) 73 41 = 4 := rd_ ((sOf_ne _ _ (by decide)).trans (sOf_eq _ _ _)) (fup_eq _ _ _)
                          have e94_86 : (setO (setO w149_43 73 (fup (w149_43 73) 41 4)) 100 (fup (fup (fup (fup (w149_43 100) 0 ((h 73) 3)) 1 ((h 73) 4)) 2 l) 3 n)) 86 = w149_43 86 := (sOf_ne _ _ (by decide)).trans (sOf_ne _ _ (by decide))
                          have e95_92 : (setO (setO w149_43 73 (fup (w149_43 73) 41 4)) 100 (fup (fup (fup (fup (w149_43 100) 0 ((h 73) 3)) 1 ((h 73) 4)) 2 l) 3 n)) 92 = w149_43 92 := (sOf_ne _ _ (by decide)).trans (sOf_ne _ _ (by decide))
                          have e96_80 : (setO (setO w149_43 73 (fup (w149_43 73) 41 4)) 100 (fup (fup (fup (fup (w149_43 100) 0 ((h 73) 3)) 1 ((h 73) 4)) 2 l) 3 n)) 80 = w149_43 80 := (sOf_ne _ _ (by decide)).trans (sOf_ne _ _ (by decide))
                          have e97_81 : (setO (setO w149_43 73 (fup (w149_43 73) 41 4)) 100 (fup (fup (fup (fup (w149_43 100) 0 ((h 73) 3)) 1 ((h 73) 4)) 2 l) 3 n)) 81 = w149_43 81 := (sOf_ne _ _ (by decide)).trans (sOf_ne _ _ (by decide))
                          have e98_84 : (setO (setO w149_43 73 (fup (w149_43 73) 41 4)) 100 (fup (fup (fup (fup (w149_43 100) 0 ((h 73) 3)) 1 ((h 73) 4)) 2 l) 3 n)) 84 = w149_43 84 := (sOf_ne _ _ (by decide)).trans (sOf_ne _ _ (by decide))
                          have e99_85 : (setO (setO w149_43 73 (fup (w149_43 73) 41 4)) 100 (fup (fup (fup (fup (w149_43 100) 0 ((h 73) 3)) 1 ((h 73) 4)) 2 l) 3 n)) 85 = w149_43 85 := (sOf_ne _ _ (by decide)).trans (sOf_ne _ _ (by decide))
                          exact L243_53 ((((4 : Int) - 1).toNat) + 1) 1 (setO (setO w149_43 73 (fup (w149_43 73) 41 4)) 100 (fup (fup (fup (fup (w149_43 100) 0 ((h 73) 3)) 1 ((h 73) 4)) 2 l) 3 n)) hT_52 hF_52 (by first | omega | (simp [up, setR] <;> omega)) (by rewrite [e84_73_18]; first | omega | (simp [up, setR] <;> omega)) (by rewrite [e85_90, e86_91]; exact hmi) (by rewrite [e87_83, e88_91, e89_92]; rw [show 3 * l + 1 = b by omega]; exact hlq) (by rewrite [e90_91]; rw [show 3 * l + 1 = b by omega]; omega) (by rewrite [e91_83, e92_86]; intro h1; exact TKQ_0 (fun j h2 h3 => hbt j h2 h3) (fun j h2 h3 => (ty_83 (i := j) (v := w149_43 83 j) hT_52 rfl h2 (by omega)).1.1) (by omega)) (by rewrite [e93_73_41, e94_86, e95_92]; first | omega | (simp [up, setR] <;> omega)) (by rewrite [e96_80]; exact hbw) (by rewrite [e97_81]; exact hbh) (by rewrite [e98_84, e99_85]; first | exact hnf | exact (fun b2 x2 y2 g1 g2 => hnq b2 x2 y2 g1 (by omega))) (Nat.lt_succ_self _)
                        · have ia : IS (AR (h 73 3) (h 73 4) l) (b + 1) = IS (AR (h 73 3) (h 73 4) l) b + BW (h 73 3) l b * BH (h 73 4) l b := IS_s (by omega)
                          have iaR := ARb (w := (h 73 3)) (e := (h 73 4)) (l := l) (c := b + 1) (by omega) (by omega) (by omega) (by omega)
                          refine TT_aload_n hK rfl 0 rfl dX12_encode_158 ?_
                          refine TT_iload hK 4 rfl dX12_encode_159 ?_
                          refine TT_iload hK 4 rfl dX12_encode_161 ?_
                          refine TT_aload_n hK rfl 0 rfl dX12_encode_163 ?_
                          refine gf_X12_16 hK (by decide) rfl (v := (h 73) 3) (hF149_43.2 3 (by decide)) dX12_encode_164 ?_
                          have r100 := ty_73_3 (v := (h 73) 3) hT149_43 (hF149_43.2 3 (by decide))
                          refine TT_aload_n hK rfl 0 rfl dX12_encode_167 ?_
                          refine gf_X12_20 hK (by decide) rfl (v := (h 73) 4) (hF149_43.2 4 (by decide)) dX12_encode_168 ?_
                          have r101 := ty_73_4 (v := (h 73) 4) hT149_43 (hF149_43.2 4 (by decide))
                          refine TT_iload_n hK rfl 1 rfl dX12_encode_171 ?_
                          refine iv_X12_348 hK (s_corner_z b ((h 73) 3) ((h 73) 4) l w149_43 hT149_43 (by first | omega | (simp [up, setR] <;> omega)) (by first | omega | (simp [up, setR] <;> omega)) (by first | omega | (simp [up, setR] <;> omega)) (by first | omega | (simp [up, setR] <;> omega))) ⟨by decide, by decide⟩ (by decide) rfl rfl (Nat.le_of_ble_eq_true rfl) ⟨by decide, by decide⟩ dX12_encode_172 ?_
                          intro r9 g172_102 hp9
                          obtain ⟨⟨hT_102, hG_102⟩, z172_102, hr9, hz_102, p1_102, p2_102⟩ := hp9
                          rw [hr9]
                          have hF_102 : FRM [73, 77, 78, 79, 80, 81, 82, 83, 84, 85, 86, 87, 88, 89, 90, 91, 92, 93, 94, 95, 96, 97, 98, 99, 100] [2, 18, 26, 27, 28, 29, 32, 33, 34, 36, 38, 39, 41, 42, 43] h g172_102 := FRM_tr hF149_43 hG_102 (by decide) (by decide)
                          have p1_at172 := p1_102
                          have p2_at172 := p2_102
                          show TT K ly 0 0 175 [(0, vR 73), (1, vI l), (2, vI n), (3, vI f), (4, vI b)] [vI z172_102, vI b, vR 73] g172_102
                          have e103_80 : g172_102 80 = w149_43 80 := (hG_102.1 80 (by decide))
                          have e104_81 : g172_102 81 = w149_43 81 := (hG_102.1 81 (by decide))
                          have e105_77 : g172_102 77 = w149_43 77 := (hG_102.1 77 (by decide))
                          refine iv_X12_352 hK (s_loadBand_x b z172_102 g172_102 hT_102 (by first | omega | (simp [up, setR] <;> omega)) (by rewrite [e103_80, e104_81]; rw [hbw b (by omega) (by omega), hbh b (by omega) (by omega)]; exact p1_at172) (by rewrite [e105_77]; exact hsq)) (by decide) rfl ⟨by decide, by decide⟩ (by decide) rfl rfl (Nat.le_of_ble_eq_true rfl) ⟨by decide, by decide⟩ dX12_encode_175 ?_
                          intro r9 g175_106 hp9
                          obtain ⟨⟨hT_106, hG_106⟩, hr9, lx_106, lo_106⟩ := hp9
                          rw [hr9]
                          have hF_106 : FRM [73, 77, 78, 79, 80, 81, 82, 83, 84, 85, 86, 87, 88, 89, 90, 91, 92, 93, 94, 95, 96, 97, 98, 99, 100] [2, 18, 26, 27, 28, 29, 32, 33, 34, 36, 38, 39, 41, 42, 43] h g175_106 := FRM_tr hF_102 hG_106 (by decide) (by decide)
                          rw [show g172_102 77 = w149_43 77 from (hG_102.1 77 (by decide))] at lx_106
                          rw [show g172_102 80 = w149_43 80 from (hG_102.1 80 (by decide))] at lx_106
                          rw [show g172_102 81 = w149_43 81 from (hG_102.1 81 (by decide))] at lx_106
                          rw [show g172_102 84 = w149_43 84 from (hG_102.1 84 (by decide))] at lo_106
                          rw [show g172_102 85 = w149_43 85 from (hG_102.1 85 (by decide))] at lo_106
                          have lx_at175 := lx_106
                          have lo_at175 := lo_106
                          show TT K ly 0 0 178 [(0, vR 73), (1, vI l), (2, vI n), (3, vI f), (4, vI b)] [] g175_106
                          refine TT_aload_n hK rfl 0 rfl dX12_encode_178 ?_
                          refine TT_iload hK 4 rfl dX12_encode_179 ?_
                          refine TT_iload_n hK rfl 3 rfl dX12_encode_181 ?_
                          have e107_80 : g175_106 80 = w149_43 80 := ((hG_106.1 80 (by decide))).trans (hG_102.1 80 (by decide))
                          have e108_81 : g175_106 81 = w149_43 81 := ((hG_106.1 81 (by decide))).trans (hG_102.1 81 (by decide))
                          have e109_74 : g175_106 74 = h 74 := ((hG_106.1 74 (by decide))).trans (((hG_102.1 74 (by decide))).trans (hF149_43.1 74 (by decide)))
                          have e110_75 : g175_106 75 = h 75 := ((hG_106.1 75 (by decide))).trans (((hG_102.1 75 (by decide))).trans (hF149_43.1 75 (by decide)))
                          have e111_90 : g175_106 90 = w149_43 90 := ((hG_106.1 90 (by decide))).trans (hG_102.1 90 (by decide))
                          have e112_91 : g175_106 91 = w149_43 91 := ((hG_106.1 91 (by decide))).trans (hG_102.1 91 (by decide))
                          have e113_83 : g175_106 83 = w149_43 83 := ((hG_106.1 83 (by decide))).trans (hG_102.1 83 (by decide))
                          have e114_91 : g175_106 91 = w149_43 91 := ((hG_106.1 91 (by decide))).trans (hG_102.1 91 (by decide))
                          have e115_92 : g175_106 92 = w149_43 92 := ((hG_106.1 92 (by decide))).trans (hG_102.1 92 (by decide))
                          refine iv_X12_355 hK (s_tellBand_k b f g175_106 hT_106 (by first | omega | (simp [up, setR] <;> omega)) (by rewrite [e107_80, e108_81]; rw [hbw b (by omega) (by omega), hbh b (by omega) (by omega)]; omega) (by rewrite [e109_74, e110_75]; first | assumption | exact htb) (by rewrite [e111_90, e112_91]; first | assumption | exact hmi) (by rewrite [e113_83, e114_91, e115_92]; first | assumption | exact hlq)) (by decide) rfl ⟨by decide, by decide⟩ (by decide) rfl rfl (Nat.le_of_ble_eq_true rfl) ⟨by decide, by decide⟩ dX12_encode_182 ?_
                          intro r9 g182_116 hp9
                          obtain ⟨⟨hT_116, hG_116⟩, hr9, q1_116, q2_116, q3_116, q4_116, pk_116⟩ := hp9
                          rw [hr9]
                          have hF_116 : FRM [73, 77, 78, 79, 80, 81, 82, 83, 84, 85, 86, 87, 88, 89, 90, 91, 92, 93, 94, 95, 96, 97, 98, 99, 100] [2, 18, 26, 27, 28, 29, 32, 33, 34, 36, 38, 39, 41, 42, 43] h g182_116 := FRM_tr hF_106 hG_116 (by decide) (by decide)
                          rw [show g175_106 80 = w149_43 80 from ((hG_106.1 80 (by decide))).trans (hG_102.1 80 (by decide))] at q1_116
                          rw [show g175_106 81 = w149_43 81 from ((hG_106.1 81 (by decide))).trans (hG_102.1 81 (by decide))] at q1_116
                          rw [show g175_106 91 = w149_43 91 from ((hG_106.1 91 (by decide))).trans (hG_102.1 91 (by decide))] at q4_116
                          have q1_at182 := q1_116
                          have q2_at182 := q2_116
                          have q3_at182 := q3_116
                          have q4_at182 := q4_116
                          have pk_at182 := pk_116
                          show TT K ly 0 0 185 [(0, vR 73), (1, vI l), (2, vI n), (3, vI f), (4, vI b)] [] g182_116
                          refine TT_iload_n hK rfl 3 rfl dX12_encode_185 ?_
                          refine TT_aload_n hK rfl 0 rfl dX12_encode_186 ?_
                          refine gf_X12_69 hK (by decide) rfl (q := 91) rfl rfl dX12_encode_187 ?_
                          refine TT_iload hK 4 rfl dX12_encode_190 ?_
                          refine TT_iald hK (o := 91) (n := 10) (by decide) rfl (by first | omega | (simp [up, setR] <;> omega)) (by first | omega | (simp [up, setR] <;> omega)) (v := (g182_116 91) b) rfl dX12_encode_192 ?_
                          have r117 := ty_91 (i := b) (v := (g182_116 91) b) hT_116 rfl (by omega) (by omega)
                          refine TT_iadd hK dX12_encode_193 ?_
                          refine TT_istore_n hK rfl (lv' := [(3, vI (f + ((g182_116 91) b))), (0, vR 73), (1, vI l), (2, vI n), (4, vI b)]) (by decide) rfl dX12_encode_194 ?_
                          refine TT_iinc hK (v := b + 1) (lv' := [(4, vI (b + 1)), (3, vI (f + ((g182_116 91) b))), (0, vR 73), (1, vI l), (2, vI n)]) 4 rfl rfl (by decide) rfl dX12_encode_195 ?_
                          refine TT_goto hK (tgt := 149) dX12_encode_198 (by decide) ?_
                          refine TT_sub [2, 3, 4, 1, 0] rfl ?_
                          have e118_73_18 : g182_116 73 18 = (w149_43 73) 18 := ((hG_116.2 18 (by decide))).trans ((congrFun (hG_106.1 73 (by decide)) 18).trans (congrFun (hG_102.1 73 (by decide)) 18))
                          have e119_77 : g182_116 77 = w149_43 77 := ((hG_116.1 77 (by decide))).trans (((hG_106.1 77 (by decide))).trans (hG_102.1 77 (by decide)))
                          have e120_80 : g182_116 80 = w149_43 80 := ((hG_116.1 80 (by decide))).trans (((hG_106.1 80 (by decide))).trans (hG_102.1 80 (by decide)))
                          have e121_81 : g182_116 81 = w149_43 81 := ((hG_116.1 81 (by decide))).trans (((hG_106.1 81 (by decide))).trans (hG_102.1 81 (by decide)))
                          have e122_86 : g182_116 86 = w149_43 86 := ((hG_116.1 86 (by decide))).trans (((hG_106.1 86 (by decide))).trans (hG_102.1 86 (by decide)))
                          have e123_77 : g182_116 77 = w149_43 77 := ((hG_116.1 77 (by decide))).trans (((hG_106.1 77 (by decide))).trans (hG_102.1 77 (by decide)))
                          have ib : IS (g182_116 91) (b + 1) = IS (g182_116 91) b + (g182_116 91) b := IS_s (by omega)
                          have ic := IS_eq (f := g182_116 91) (c := b) (fun k h1 h2 => q4_at182 k (by omega))
                          rw [hbw b (by omega) (by omega), hbh b (by omega) (by omega)] at q1_at182
                          exact ih43 (f + ((g182_116 91) b)) (b + 1) g182_116 hT_116 hF_116 (by first | omega | (simp [up, setR] <;> omega)) (by rewrite [e118_73_18]; first | omega | (simp [up, setR] <;> omega)) (by rewrite [e119_77]; exact hsq) (by rewrite [e120_80]; exact hbw) (by rewrite [e121_81]; exact hbh) (by rewrite [e122_86]; exact hbt) (by exact q2_at182) (by exact q3_at182) (by first | omega | (simp [up, setR] <;> omega)) (by omega) (by rewrite [e123_77]; exact hx3) (by intro b2 x2 y2 g1 g2 g3 g4 g5 g6; have fx := BWr rW hll b2 ⟨g1, by omega⟩; have fy := BHr rH hll b2 ⟨g1, by omega⟩; have fc := CXr rW rH hll b2 ⟨g1, by omega⟩; have pk := pk_at182 (64 * b2 + 8 * y2 + x2) (by omega); rw [pk.1, pk.2]; by_cases e : b2 = b; (rw [e] at g4 g6 fc ⊢; rw [lx_at175 x2 y2 g3 (by rw [hbw _ (by omega) (by omega)]; exact g4) g5 (by rw [hbh _ (by omega) (by omega)]; exact g6), p2_at172]; exact hx3 _ (by omega) (by omega)); (have lo := lo_at175 (64 * b2 + 8 * y2 + x2) (by omega); rw [lo.1, lo.2]; exact hnq b2 x2 y2 g1 (by omega) g3 g4 g5 g6)) (by first | omega | (simp [up, setR] <;> omega))
                    refine TT_sub [2, 3, 4, 1, 0] rfl ?_
                    have e124_73_18 : (setO g132_41 73 (fup (w68_37 73) 18 ((3 * l) + 1))) 73 18 = (3 * l) + 1 := rd_ (sOf_eq _ _ _) (fup_eq _ _ _)
                    have e125_77 : (setO g132_41 73 (fup (w68_37 73) 18 ((3 * l) + 1))) 77 = w68_37 77 := (sOf_ne _ _ (by decide)).trans (hG_41.1 77 (by decide))
                    have e126_80 : (setO g132_41 73 (fup (w68_37 73) 18 ((3 * l) + 1))) 80 = g132_41 80 := sOf_ne _ _ (by decide)
                    have e127_81 : (setO g132_41 73 (fup (w68_37 73) 18 ((3 * l) + 1))) 81 = g132_41 81 := sOf_ne _ _ (by decide)
                    have e128_86 : (setO g132_41 73 (fup (w68_37 73) 18 ((3 * l) + 1))) 86 = g132_41 86 := sOf_ne _ _ (by decide)
                    have e129_90 : (setO g132_41 73 (fup (w68_37 73) 18 ((3 * l) + 1))) 90 = w68_37 90 := (sOf_ne _ _ (by decide)).trans (hG_41.1 90 (by decide))
                    have e130_91 : (setO g132_41 73 (fup (w68_37 73) 18 ((3 * l) + 1))) 91 = w68_37 91 := (sOf_ne _ _ (by decide)).trans (hG_41.1 91 (by decide))
                    have e131_83 : (setO g132_41 73 (fup (w68_37 73) 18 ((3 * l) + 1))) 83 = g132_41 83 := sOf_ne _ _ (by decide)
                    have e132_91 : (setO g132_41 73 (fup (w68_37 73) 18 ((3 * l) + 1))) 91 = w68_37 91 := (sOf_ne _ _ (by decide)).trans (hG_41.1 91 (by decide))
                    have e133_92 : (setO g132_41 73 (fup (w68_37 73) 18 ((3 * l) + 1))) 92 = w68_37 92 := (sOf_ne _ _ (by decide)).trans (hG_41.1 92 (by decide))
                    have e134_91 : (setO g132_41 73 (fup (w68_37 73) 18 ((3 * l) + 1))) 91 = w68_37 91 := (sOf_ne _ _ (by decide)).trans (hG_41.1 91 (by decide))
                    have e135_77 : (setO g132_41 73 (fup (w68_37 73) 18 ((3 * l) + 1))) 77 = w68_37 77 := (sOf_ne _ _ (by decide)).trans (hG_41.1 77 (by decide))
                    have e136_84 : (setO g132_41 73 (fup (w68_37 73) 18 ((3 * l) + 1))) 84 = g132_41 84 := sOf_ne _ _ (by decide)
                    have e137_85 : (setO g132_41 73 (fup (w68_37 73) 18 ((3 * l) + 1))) 85 = g132_41 85 := sOf_ne _ _ (by decide)
                    have i0 : IS (AR (h 73 3) (h 73 4) l) 0 = 0 := rfl
                    exact L149_43 ((((10 : Int) - 0).toNat) + 1) 0 0 (setO g132_41 73 (fup (w68_37 73) 18 ((3 * l) + 1))) hT_42 hF_42 (by first | omega | (simp [up, setR] <;> omega)) (by rewrite [e124_73_18]; first | omega | (simp [up, setR] <;> omega)) (by rewrite [e125_77]; intro i h1 h2; exact (hLV i h1 h2).1) (by rewrite [e126_80]; intro j h1 h2; have k9 := q1_at132 j h1 h2; rw [Int.zero_add] at k9; exact k9) (by rewrite [e127_81]; intro j h1 h2; have k9 := q2_at132 j h1 h2; rw [Int.zero_add] at k9; exact k9) (by rewrite [e128_86]; intro j h1 h2; have k9 := q3_at132 j h1 h2; rw [Int.zero_add] at k9; exact k9) (by rewrite [e129_90, e130_91]; exact hmi) (by rewrite [e131_83, e132_91, e133_92]; intro j h1 h2; exfalso; omega) (by first | omega | (simp [up, setR] <;> omega)) (by rewrite [e134_91]; exact rfl) (by rewrite [e135_77]; intro i h1 h2; rw [hxq i h1 h2, show lv = l by omega]) (by rewrite [e136_84, e137_85]; intro b2 x2 y2 g1 g2; exfalso; omega) (Nat.lt_succ_self _)
                  · refine TT_aload_n hK rfl 0 rfl dX12_encode_73 ?_
                    refine TT_aload_n hK rfl 0 rfl dX12_encode_74 ?_
                    refine gf_X12_16 hK (by decide) rfl (v := (h 73) 3) (hF68_37.2 3 (by decide)) dX12_encode_75 ?_
                    have r138 := ty_73_3 (v := (h 73) 3) hT68_37 (hF68_37.2 3 (by decide))
                    refine TT_iload_n hK rfl 3 rfl dX12_encode_78 ?_
                    refine iv_X12_153 hK (s_left_x ((h 73) 3) lv w68_37 hT68_37 (by first | omega | (simp [up, setR] <;> omega)) (by first | omega | (simp [up, setR] <;> omega))) ⟨by decide, by decide⟩ (by decide) rfl rfl (Nat.le_of_ble_eq_true rfl) ⟨by decide, by decide⟩ dX12_encode_79 ?_
                    intro r9 g79_139 hp9
                    obtain ⟨⟨hT_139, hG_139⟩, z79_139, hr9, hz_139, p1_139⟩ := hp9
                    rw [hr9]
                    have hF_139 : FRM [73, 77, 78, 79, 80, 81, 82, 83, 84, 85, 86, 87, 88, 89, 90, 91, 92, 93, 94, 95, 96, 97, 98, 99, 100] [2, 18, 26, 27, 28, 29, 32, 33, 34, 36, 38, 39, 41, 42, 43] h g79_139 := FRM_tr hF68_37 hG_139 (by decide) (by decide)
                    have p1_at79 := p1_139
                    show TT K ly 0 0 82 [(0, vR 73), (1, vI l), (2, vI n), (3, vI lv)] [vI z79_139, vR 73] g79_139
                    refine TT_aload_n hK rfl 0 rfl dX12_encode_82 ?_
                    refine gf_X12_20 hK (by decide) rfl (v := (h 73) 4) ((congrFun (hG_139.1 73 (by decide)) 4).trans (hF68_37.2 4 (by decide))) dX12_encode_83 ?_
                    have r140 := ty_73_4 (v := (h 73) 4) hT_139 ((congrFun (hG_139.1 73 (by decide)) 4).trans (hF68_37.2 4 (by decide)))
                    refine TT_iload_n hK rfl 3 rfl dX12_encode_86 ?_
                    refine iv_X12_153 hK (s_left_x ((h 73) 4) lv g79_139 hT_139 (by first | omega | (simp [up, setR] <;> omega)) (by first | omega | (simp [up, setR] <;> omega))) ⟨by decide, by decide⟩ (by decide) rfl rfl (Nat.le_of_ble_eq_true rfl) ⟨by decide, by decide⟩ dX12_encode_87 ?_
                    intro r9 g87_141 hp9
                    obtain ⟨⟨hT_141, hG_141⟩, z87_141, hr9, hz_141, p1_141⟩ := hp9
                    rw [hr9]
                    have hF_141 : FRM [73, 77, 78, 79, 80, 81, 82, 83, 84, 85, 86, 87, 88, 89, 90, 91, 92, 93, 94, 95, 96, 97, 98, 99, 100] [2, 18, 26, 27, 28, 29, 32, 33, 34, 36, 38, 39, 41, 42, 43] h g87_141 := FRM_tr hF_139 hG_141 (by decide) (by decide)
                    have p1_at87 := p1_141
                    show TT K ly 0 0 90 [(0, vR 73), (1, vI l), (2, vI n), (3, vI lv)] [vI z87_141, vI z79_139, vR 73] g87_141
                    refine TT_iconst hK dX12_encode_90 ?_
                    have e142_77 : g87_141 77 = w68_37 77 := ((hG_141.1 77 (by decide))).trans (hG_139.1 77 (by decide))
                    refine iv_X12_335 hK (s_columnsx z79_139 z87_141 g87_141 hT_141 (by first | omega | (simp [up, setR] <;> omega)) (by first | omega | (simp [up, setR] <;> omega)) (by rewrite [e142_77]; intro i h1 h2; exact (hLV i h1 h2).1)) (by decide) rfl ⟨by decide, by decide⟩ (by decide) rfl rfl (Nat.le_of_ble_eq_true rfl) ⟨by decide, by decide⟩ dX12_encode_91 ?_
                    intro r9 g91_143 hp9
                    obtain ⟨⟨hT_143, hG_143⟩, hr9, p1_143⟩ := hp9
                    rw [hr9]
                    have hF_143 : FRM [73, 77, 78, 79, 80, 81, 82, 83, 84, 85, 86, 87, 88, 89, 90, 91, 92, 93, 94, 95, 96, 97, 98, 99, 100] [2, 18, 26, 27, 28, 29, 32, 33, 34, 36, 38, 39, 41, 42, 43] h g91_143 := FRM_tr hF_141 hG_143 (by decide) (by decide)
                    rw [show g87_141 77 = w68_37 77 from ((hG_141.1 77 (by decide))).trans (hG_139.1 77 (by decide))] at p1_143
                    have p1_at91 := p1_143
                    show TT K ly 0 0 94 [(0, vR 73), (1, vI l), (2, vI n), (3, vI lv)] [] g91_143
                    refine TT_aload_n hK rfl 0 rfl dX12_encode_94 ?_
                    refine TT_aload_n hK rfl 0 rfl dX12_encode_95 ?_
                    refine gf_X12_16 hK (by decide) rfl (v := (h 73) 3) ((congrFun (hG_143.1 73 (by decide)) 3).trans ((congrFun (hG_141.1 73 (by decide)) 3).trans ((congrFun (hG_139.1 73 (by decide)) 3).trans (hF68_37.2 3 (by decide))))) dX12_encode_96 ?_
                    refine TT_iload_n hK rfl 3 rfl dX12_encode_99 ?_
                    refine iv_X12_153 hK (s_left_x ((h 73) 3) lv g91_143 hT_143 (by first | omega | (simp [up, setR] <;> omega)) (by first | omega | (simp [up, setR] <;> omega))) ⟨by decide, by decide⟩ (by decide) rfl rfl (Nat.le_of_ble_eq_true rfl) ⟨by decide, by decide⟩ dX12_encode_100 ?_
                    intro r9 g100_144 hp9
                    obtain ⟨⟨hT_144, hG_144⟩, z100_144, hr9, hz_144, p1_144⟩ := hp9
                    rw [hr9]
                    have hF_144 : FRM [73, 77, 78, 79, 80, 81, 82, 83, 84, 85, 86, 87, 88, 89, 90, 91, 92, 93, 94, 95, 96, 97, 98, 99, 100] [2, 18, 26, 27, 28, 29, 32, 33, 34, 36, 38, 39, 41, 42, 43] h g100_144 := FRM_tr hF_143 hG_144 (by decide) (by decide)
                    have p1_at100 := p1_144
                    show TT K ly 0 0 103 [(0, vR 73), (1, vI l), (2, vI n), (3, vI lv)] [vI z100_144, vR 73] g100_144
                    refine TT_aload_n hK rfl 0 rfl dX12_encode_103 ?_
                    refine gf_X12_20 hK (by decide) rfl (v := (h 73) 4) ((congrFun (hG_144.1 73 (by decide)) 4).trans ((congrFun (hG_143.1 73 (by decide)) 4).trans ((congrFun (hG_141.1 73 (by decide)) 4).trans ((congrFun (hG_139.1 73 (by decide)) 4).trans (hF68_37.2 4 (by decide)))))) dX12_encode_104 ?_
                    refine TT_iload_n hK rfl 3 rfl dX12_encode_107 ?_
                    refine iv_X12_153 hK (s_left_x ((h 73) 4) lv g100_144 hT_144 (by first | omega | (simp [up, setR] <;> omega)) (by first | omega | (simp [up, setR] <;> omega))) ⟨by decide, by decide⟩ (by decide) rfl rfl (Nat.le_of_ble_eq_true rfl) ⟨by decide, by decide⟩ dX12_encode_108 ?_
                    intro r9 g108_145 hp9
                    obtain ⟨⟨hT_145, hG_145⟩, z108_145, hr9, hz_145, p1_145⟩ := hp9
                    rw [hr9]
                    have hF_145 : FRM [73, 77, 78, 79, 80, 81, 82, 83, 84, 85, 86, 87, 88, 89, 90, 91, 92, 93, 94, 95, 96, 97, 98, 99, 100] [2, 18, 26, 27, 28, 29, 32, 33, 34, 36, 38, 39, 41, 42, 43] h g108_145 := FRM_tr hF_144 hG_145 (by decide) (by decide)
                    have p1_at108 := p1_145
                    show TT K ly 0 0 111 [(0, vR 73), (1, vI l), (2, vI n), (3, vI lv)] [vI z108_145, vI z100_144, vR 73] g108_145
                    refine TT_iconst hK dX12_encode_111 ?_
                    have e146_77 : g108_145 77 = g91_143 77 := ((hG_145.1 77 (by decide))).trans (hG_144.1 77 (by decide))
                    refine iv_X12_339 hK (s_rowsx z100_144 z108_145 g108_145 hT_145 (by first | omega | (simp [up, setR] <;> omega)) (by first | omega | (simp [up, setR] <;> omega)) (by rewrite [e146_77]; intro i h1 h2; rw [p1_at91 i h1 h2, p1_at79, p1_at87]; exact (cEb l1 l2 (BL_r (by omega)) hLV h1 h2).1)) (by decide) rfl ⟨by decide, by decide⟩ (by decide) rfl rfl (Nat.le_of_ble_eq_true rfl) ⟨by decide, by decide⟩ dX12_encode_112 ?_
                    intro r9 g112_147 hp9
                    obtain ⟨⟨hT_147, hG_147⟩, hr9, p1_147⟩ := hp9
                    rw [hr9]
                    have hF_147 : FRM [73, 77, 78, 79, 80, 81, 82, 83, 84, 85, 86, 87, 88, 89, 90, 91, 92, 93, 94, 95, 96, 97, 98, 99, 100] [2, 18, 26, 27, 28, 29, 32, 33, 34, 36, 38, 39, 41, 42, 43] h g112_147 := FRM_tr hF_145 hG_147 (by decide) (by decide)
                    rw [show g108_145 77 = g91_143 77 from ((hG_145.1 77 (by decide))).trans (hG_144.1 77 (by decide))] at p1_147
                    have p1_at112 := p1_147
                    show TT K ly 0 0 115 [(0, vR 73), (1, vI l), (2, vI n), (3, vI lv)] [] g112_147
                    refine TT_iinc hK (v := lv + 1) (lv' := [(3, vI (lv + 1)), (0, vR 73), (1, vI l), (2, vI n)]) 3 rfl rfl (by decide) rfl dX12_encode_115 ?_
                    refine TT_goto hK (tgt := 68) dX12_encode_118 (by decide) ?_
                    refine TT_sub [1, 2, 3, 0] rfl ?_
                    have e148_90 : g112_147 90 = w68_37 90 := ((hG_147.1 90 (by decide))).trans (((hG_145.1 90 (by decide))).trans (((hG_144.1 90 (by decide))).trans (((hG_143.1 90 (by decide))).trans (((hG_141.1 90 (by decide))).trans (hG_139.1 90 (by decide))))))
                    have e149_91 : g112_147 91 = w68_37 91 := ((hG_147.1 91 (by decide))).trans (((hG_145.1 91 (by decide))).trans (((hG_144.1 91 (by decide))).trans (((hG_143.1 91 (by decide))).trans (((hG_141.1 91 (by decide))).trans (hG_139.1 91 (by decide))))))
                    exact ih37 (lv + 1) g112_147 hT_147 hF_147 (by rewrite [e148_90, e149_91]; exact hmi) (by first | omega | (simp [up, setR] <;> omega)) (by exact LV_n (by omega) rW rH hLV (fun t h1 h2 => (p1_at91 t h1 h2).trans (by rw [p1_at79, p1_at87])) (fun t h1 h2 => (p1_at112 t h1 h2).trans (by rw [p1_at100, p1_at108]))) (by exact LE_s (by omega) rW rH hxq (fun t h1 h2 => (p1_at91 t h1 h2).trans (by rw [p1_at79, p1_at87])) (fun t h1 h2 => (p1_at112 t h1 h2).trans (by rw [p1_at100, p1_at108]))) (by first | omega | (simp [up, setR] <;> omega))
              refine TT_sub [1, 2, 3, 0] rfl ?_
              exact L68_37 ((((3 : Int) - 0).toNat) + 1) 0 w38_35 hT38_35 hF38_35 (by exact hmi) (by first | omega | (simp [up, setR] <;> omega)) (by exact LV_0 (fun j h1 h2 => hs0 j h1 (by omega))) (by intro i h1 h2; exact hs1 i h1 (by omega)) (Nat.lt_succ_self _)
            · refine TT_aload_n hK rfl 0 rfl dX12_encode_44 ?_
              refine gf_X12_26 hK (by decide) rfl (q := 77) rfl rfl dX12_encode_45 ?_
              refine TT_iload_n hK rfl 3 rfl dX12_encode_48 ?_
              refine TT_aload_n hK rfl 0 rfl dX12_encode_49 ?_
              refine gf_X12_23 hK (by decide) rfl (q := 76) rfl rfl dX12_encode_50 ?_
              refine TT_iload_n hK rfl 3 rfl dX12_encode_53 ?_
              refine TT_iald hK (o := 76) (n := 64) (by decide) rfl (by first | omega | (simp [up, setR] <;> omega)) (by first | omega | (simp [up, setR] <;> omega)) (v := (h 76) k) (rd_ (hF38_35.1 76 (by decide)) rfl) dX12_encode_54 ?_
              have r150 := ty_76 (i := k) (v := (h 76) k) hT38_35 (rd_ (hF38_35.1 76 (by decide)) rfl) (by omega) (by omega)
              refine TT_sipush hK (by decide) dX12_encode_55 ?_
              refine TT_isub hK dX12_encode_58 ?_
              refine TT_iast hK (o := 77) (n := 64) (by decide) rfl (by omega) (by omega) dX12_encode_59 ?_
              refine TT_hp (h' := setO w38_35 77 (fup (w38_35 77) k (((h 76) k) - 128))) (up_can rfl rfl rfl) ?_
              have hT_151 : TY (setO w38_35 77 (fup (w38_35 77) k (((h 76) k) - 128))) := tu_77 hT38_35 (show up w38_35 77 k (((h 76) k) - 128) = (setO w38_35 77 (fup (w38_35 77) k (((h 76) k) - 128))) from up_can rfl rfl rfl) (by omega)
              have hF_151 : FRM [73, 77, 78, 79, 80, 81, 82, 83, 84, 85, 86, 87, 88, 89, 90, 91, 92, 93, 94, 95, 96, 97, 98, 99, 100] [2, 18, 26, 27, 28, 29, 32, 33, 34, 36, 38, 39, 41, 42, 43] h (setO w38_35 77 (fup (w38_35 77) k (((h 76) k) - 128))) := FRM_up (show up w38_35 77 k (((h 76) k) - 128) = (setO w38_35 77 (fup (w38_35 77) k (((h 76) k) - 128))) from up_can rfl rfl rfl) hF38_35 (by decide) (by decide)
              refine TT_iinc hK (v := k + 1) (lv' := [(3, vI (k + 1)), (0, vR 73), (1, vI l), (2, vI n)]) 3 rfl rfl (by decide) rfl dX12_encode_60 ?_
              refine TT_goto hK (tgt := 38) dX12_encode_63 (by decide) ?_
              refine TT_sub [1, 2, 3, 0] rfl ?_
              have e152_90 : (setO w38_35 77 (fup (w38_35 77) k (((h 76) k) - 128))) 90 = w38_35 90 := sOf_ne _ _ (by decide)
              have e153_91 : (setO w38_35 77 (fup (w38_35 77) k (((h 76) k) - 128))) 91 = w38_35 91 := sOf_ne _ _ (by decide)
              have e154_77 : (setO w38_35 77 (fup (w38_35 77) k (((h 76) k) - 128))) 77 = fup (w38_35 77) k (((h 76) k) - 128) := sOf_eq _ _ _
              have e155_77 : (setO w38_35 77 (fup (w38_35 77) k (((h 76) k) - 128))) 77 = fup (w38_35 77) k (((h 76) k) - 128) := sOf_eq _ _ _
              exact ih35 (k + 1) (setO w38_35 77 (fup (w38_35 77) k (((h 76) k) - 128))) hT_151 hF_151 (by rewrite [e152_90, e153_91]; exact hmi) (by first | omega | (simp [up, setR] <;> omega)) (by rewrite [e154_77]; intro j h1 h2; by_cases e : j = k; (rw [e, fup_eq]; omega); (rw [fup_ne _ _ e]; exact hs0 j h1 (by omega))) (by rewrite [e155_77]; intro j h1 h2; by_cases e : j = k; (rw [e, fup_eq]); (rw [fup_ne _ _ e]; exact hs1 j h1 (by omega))) (by first | omega | (simp [up, setR] <;> omega))
        refine TT_sub [1, 2, 3, 0] rfl ?_
        have e156_90 : (setO g13_17 73 (fup (h 73) 2 0)) 90 = h 90 := (sOf_ne _ _ (by decide)).trans (((hG_17.1 90 (by decide))).trans (hG_1.1 90 (by decide)))
        have e157_91 : (setO g13_17 73 (fup (h 73) 2 0)) 91 = h 91 := (sOf_ne _ _ (by decide)).trans (((hG_17.1 91 (by decide))).trans (hG_1.1 91 (by decide)))
        have e158_77 : (setO g13_17 73 (fup (h 73) 2 0)) 77 = h 77 := (sOf_ne _ _ (by decide)).trans (((hG_17.1 77 (by decide))).trans (hG_1.1 77 (by decide)))
        have e159_77 : (setO g13_17 73 (fup (h 73) 2 0)) 77 = h 77 := (sOf_ne _ _ (by decide)).trans (((hG_17.1 77 (by decide))).trans (hG_1.1 77 (by decide)))
        exact L38_35 ((((64 : Int) - 0).toNat) + 1) 0 (setO g13_17 73 (fup (h 73) 2 0)) hT_33 hF_33 (by rewrite [e156_90, e157_91]; exact hmi) (by first | omega | (simp [up, setR] <;> omega)) (by rewrite [e158_77]; intro j h1 h2; exfalso; omega) (by rewrite [e159_77]; intro j h1 h2; exfalso; omega) (Nat.lt_succ_self _)
      · exact absurd hb31_34 (by decide)

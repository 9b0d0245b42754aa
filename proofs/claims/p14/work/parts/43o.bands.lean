def lf (n l : Int) : Int := if l = 0 then n else if l = 1 then (n + 1) / 2 else if l = 2 then (n + 3) / 4 else if l = 3 then (n + 7) / 8 else (n + 15) / 16
theorem SD4_lf {n l z : Int} (hl : 0 ≤ l ∧ l ≤ 4) (h : SD4 n l z) : z = lf n l := by
  unfold SD4 at h
  unfold lf
  rcases (show l = 0 ∨ l = 1 ∨ l = 2 ∨ l = 3 ∨ l = 4 by omega) with rfl | rfl | rfl | rfl | rfl
  · exact h.1 rfl
  · exact h.2.1 rfl
  · exact h.2.2.1 rfl
  · exact h.2.2.2.1 rfl
  · exact h.2.2.2.2 rfl
theorem lf_le {n l : Int} (hn : 0 ≤ n ∧ n ≤ 8) (hl : 0 ≤ l ∧ l ≤ 3) : lf n (l + 1) ≤ lf n l := by
  unfold lf
  rcases (show l = 0 ∨ l = 1 ∨ l = 2 ∨ l = 3 by omega) with rfl | rfl | rfl | rfl
  · show (n + 1) / 2 ≤ n; omega
  · show (n + 3) / 4 ≤ (n + 1) / 2; omega
  · show (n + 7) / 8 ≤ (n + 3) / 4; omega
  · show (n + 15) / 16 ≤ (n + 7) / 8; omega
def BW (w l j : Int) : Int := if j = 0 then lf w l else if (j - 1) % 3 = 1 then lf w (l - (j - 1) / 3) else lf w (l - (j - 1) / 3 - 1) - lf w (l - (j - 1) / 3)
def BH (e l j : Int) : Int := if j = 0 then lf e l else if (j - 1) % 3 = 0 then lf e (l - (j - 1) / 3) else lf e (l - (j - 1) / 3 - 1) - lf e (l - (j - 1) / 3)
def CX (w l b : Int) : Int := if b = 0 then 0 else if (b - 1) % 3 = 1 then 0 else lf w (l - (b - 1) / 3)
def CY (e l b : Int) : Int := if b = 0 then 0 else if (b - 1) % 3 = 0 then 0 else lf e (l - (b - 1) / 3)
theorem BWs {f w l r A B : Int} {g : Int → Int} (hr : 1 ≤ r ∧ r ≤ l) (hg : ∀ j : Int, 0 ≤ j → j < 3 * (r - 1) + 1 → g (f + j) = BW w l j) (hA : A = lf w (l - r) - lf w (l - r + 1)) (hB : B = lf w (l - r + 1)) : ∀ j : Int, 0 ≤ j → j < 3 * (r + 1 - 1) + 1 → fup (fup (fup g (f + 3 * r - 2) A) (f + 3 * r - 1) B) (f + 3 * r) A (f + j) = BW w l j := by
  intro j h1 h2
  by_cases c1 : j = 3 * r
  · rw [show f + j = f + 3 * r by omega, fup_eq]
    unfold BW
    rw [if_neg (by omega), if_neg (by omega), show l - (j - 1) / 3 = l - r + 1 by omega, show l - r + 1 - 1 = l - r by omega]
    exact hA
  · rw [fup_ne _ _ (by omega)]
    by_cases c2 : j = 3 * r - 1
    · rw [show f + j = f + 3 * r - 1 by omega, fup_eq]
      unfold BW
      rw [if_neg (by omega), if_pos (by omega), show l - (j - 1) / 3 = l - r + 1 by omega]
      exact hB
    · rw [fup_ne _ _ (by omega)]
      by_cases c3 : j = 3 * r - 2
      · rw [show f + j = f + 3 * r - 2 by omega, fup_eq]
        unfold BW
        rw [if_neg (by omega), if_neg (by omega), show l - (j - 1) / 3 = l - r + 1 by omega, show l - r + 1 - 1 = l - r by omega]
        exact hA
      · rw [fup_ne _ _ (by omega)]
        exact hg j h1 (by omega)
theorem BHs {f w l r A B : Int} {g : Int → Int} (hr : 1 ≤ r ∧ r ≤ l) (hg : ∀ j : Int, 0 ≤ j → j < 3 * (r - 1) + 1 → g (f + j) = BH w l j) (hA : A = lf w (l - r) - lf w (l - r + 1)) (hB : B = lf w (l - r + 1)) : ∀ j : Int, 0 ≤ j → j < 3 * (r + 1 - 1) + 1 → fup (fup (fup g (f + 3 * r - 2) B) (f + 3 * r - 1) A) (f + 3 * r) A (f + j) = BH w l j := by
  intro j h1 h2
  by_cases c1 : j = 3 * r
  · rw [show f + j = f + 3 * r by omega, fup_eq]
    unfold BH
    rw [if_neg (by omega), if_neg (by omega), show l - (j - 1) / 3 = l - r + 1 by omega, show l - r + 1 - 1 = l - r by omega]
    exact hA
  · rw [fup_ne _ _ (by omega)]
    by_cases c2 : j = 3 * r - 1
    · rw [show f + j = f + 3 * r - 1 by omega, fup_eq]
      unfold BH
      rw [if_neg (by omega), if_neg (by omega), show l - (j - 1) / 3 = l - r + 1 by omega, show l - r + 1 - 1 = l - r by omega]
      exact hA
    · rw [fup_ne _ _ (by omega)]
      by_cases c3 : j = 3 * r - 2
      · rw [show f + j = f + 3 * r - 2 by omega, fup_eq]
        unfold BH
        rw [if_neg (by omega), if_pos (by omega), show l - (j - 1) / 3 = l - r + 1 by omega]
        exact hB
      · rw [fup_ne _ _ (by omega)]
        exact hg j h1 (by omega)
theorem B0s {f r : Int} {g : Int → Int} (hr : 1 ≤ r) (hg : ∀ j : Int, 0 ≤ j → j < 3 * (r - 1) + 1 → g (f + j) = 0) : ∀ j : Int, 0 ≤ j → j < 3 * (r + 1 - 1) + 1 → fup (fup (fup g (f + 3 * r - 2) 0) (f + 3 * r - 1) 0) (f + 3 * r) 0 (f + j) = 0 := by
  intro j h1 h2
  by_cases c1 : j = 3 * r
  · rw [show f + j = f + 3 * r by omega, fup_eq]
  · rw [fup_ne _ _ (by omega)]
    by_cases c2 : j = 3 * r - 1
    · rw [show f + j = f + 3 * r - 1 by omega, fup_eq]
    · rw [fup_ne _ _ (by omega)]
      by_cases c3 : j = 3 * r - 2
      · rw [show f + j = f + 3 * r - 2 by omega, fup_eq]
      · rw [fup_ne _ _ (by omega)]
        exact hg j h1 (by omega)
theorem AREA_k : ∀ w e : Fin 9, ∀ l : Fin 4, ∀ n : Fin 11, (n.val : Int) ≤ 3 * (l.val : Int) + 1 → SumR (fun k => BW (w.val : Int) (l.val : Int) (k : Int) * BH (e.val : Int) (l.val : Int) (k : Int)) n.val ≤ 64 := by decide +kernel
theorem FIT_k : ∀ w e : Fin 9, ∀ l : Fin 4, ∀ b : Fin 10, (b.val : Int) ≤ 3 * (l.val : Int) → 0 ≤ CX (w.val : Int) (l.val : Int) (b.val : Int) ∧ 0 ≤ CY (e.val : Int) (l.val : Int) (b.val : Int) ∧ CX (w.val : Int) (l.val : Int) (b.val : Int) + BW (w.val : Int) (l.val : Int) (b.val : Int) ≤ 8 ∧ CY (e.val : Int) (l.val : Int) (b.val : Int) + BH (e.val : Int) (l.val : Int) (b.val : Int) ≤ 8 := by decide +kernel
theorem AREA {w e l : Int} (hw : 0 ≤ w ∧ w ≤ 8) (he : 0 ≤ e ∧ e ≤ 8) (hl : 0 ≤ l ∧ l ≤ 3) {n : Nat} (hn : (n : Int) ≤ 3 * l + 1) : SumR (fun k => BW w l (k : Int) * BH e l (k : Int)) n ≤ 64 := by
  obtain ⟨wn, rfl⟩ := Int.eq_ofNat_of_zero_le hw.1
  obtain ⟨en, rfl⟩ := Int.eq_ofNat_of_zero_le he.1
  obtain ⟨ln, rfl⟩ := Int.eq_ofNat_of_zero_le hl.1
  exact AREA_k ⟨wn, by omega⟩ ⟨en, by omega⟩ ⟨ln, by omega⟩ ⟨n, by omega⟩ hn
def CRN (w e l b z : Int) : Prop := ∃ cx cy : Int, z = 8 * cy + cx ∧ 0 ≤ cx ∧ 0 ≤ cy ∧ cx + BW w l b ≤ 8 ∧ cy + BH e l b ≤ 8
theorem CRN_i {w e l b z cx cy : Int} (hw : 0 ≤ w ∧ w ≤ 8) (he : 0 ≤ e ∧ e ≤ 8) (hl : 0 ≤ l ∧ l ≤ 3) (hb : 0 ≤ b ∧ b ≤ 3 * l) (hz : z = 8 * cy + cx) (hx : cx = CX w l b) (hy : cy = CY e l b) : CRN w e l b z := by
  refine ⟨cx, cy, hz, ?_⟩
  rw [hx, hy]
  obtain ⟨wn, rfl⟩ := Int.eq_ofNat_of_zero_le hw.1
  obtain ⟨en, rfl⟩ := Int.eq_ofNat_of_zero_le he.1
  obtain ⟨ln, rfl⟩ := Int.eq_ofNat_of_zero_le hl.1
  obtain ⟨bn, rfl⟩ := Int.eq_ofNat_of_zero_le hb.1
  exact FIT_k ⟨wn, by omega⟩ ⟨en, by omega⟩ ⟨ln, by omega⟩ ⟨bn, by omega⟩ hb.2
set_option maxRecDepth 20000 in
theorem s_left_x (n l : Int) (h : Hp_) (hT : TY h) (hn : 0 ≤ n ∧ n ≤ 8) (hl : 0 ≤ l ∧ l ≤ 4) : Ctr yX12_left cX12_left 2 (some .int) (rmd 0) ly ly 0 0 [vI n, vI l] h (fun r h' => (TY h' ∧ FRM [] [] h h') ∧ ∃ z : Int, r = some (vI z) ∧ (0 ≤ z ∧ z ≤ 8) ∧ (z = lf n l)) := by
  refine Ctr_of (by decide) (Nat.le_of_ble_eq_true rfl) ⟨Nat.le_refl _, Nat.le_refl _⟩ (fun K hK hQ _ => ?_)
  show TT K ly 0 0 0 [(0, vI n), (1, vI l)] [] h
  have hF : FRM [] [] h h := FRM_rf _ _ _
  refine TT_iload_n hK rfl 0 rfl dX12_left_0 ?_
  refine TT_iconst hK dX12_left_1 ?_
  refine TT_iload_n hK rfl 1 rfl dX12_left_2 ?_
  refine TT_ishl hK (by omega) (by omega) dX12_left_3 ?_
  refine TT_nmI (fun p9 hp9 => ?_)
  refine TT_iadd hK dX12_left_4 ?_
  have k8 := sdP4 hl hp9
  refine TT_iconst hK dX12_left_5 ?_
  refine TT_isub hK dX12_left_6 ?_
  refine TT_iload_n hK rfl 1 rfl dX12_left_7 ?_
  refine TT_ishr hK (irm (by omega) (by omega)) (by omega) (by omega) dX12_left_8 ?_
  refine TT_nmI (fun z9 hz9 => ?_)
  refine TT_iret hK hQ ?_ dX12_left_9
  exact ⟨⟨hT, hF⟩, z9, rfl, (by have k9 := sdA4 hn hl hp9 hz9; omega), (by exact SD4_lf hl (sdA4 hn hl hp9 hz9).1)⟩
set_option maxRecDepth 20000 in
theorem s_beBand_x (b w e k : Int) (h : Hp_) (hT : TY h) (hb : 0 ≤ b ∧ b ≤ 19) (hw : 0 ≤ w ∧ w ≤ 8) (he : 0 ≤ e ∧ e ≤ 8) (hk : 0 ≤ k ∧ k ≤ 2) : Ctr yX12_beBand cX12_beBand 6 none (rmd 0) ly ly 0 0 [vR 73, vI b, vI w, vI e, vI k] h (fun r h' => (TY h' ∧ FRM [80, 81, 82, 83, 84, 85, 86, 87, 88] [] h h') ∧ r = none ∧ ((h' 80) = fup (h 80) b w) ∧ ((h' 81) = fup (h 81) b e) ∧ ((h' 86) = fup (h 86) b 0)) := by
  refine Ctr_of (by decide) (Nat.le_of_ble_eq_true rfl) ⟨Nat.le_refl _, Nat.le_refl _⟩ (fun K hK hQ _ => ?_)
  show TT K ly 0 0 0 [(0, vR 73), (1, vI b), (2, vI w), (3, vI e), (4, vI k)] [] h
  have hF : FRM [80, 81, 82, 83, 84, 85, 86, 87, 88] [] h h := FRM_rf _ _ _
  refine TT_aload_n hK rfl 0 rfl dX12_beBand_0 ?_
  refine gf_X12_35 hK (by decide) rfl (q := 80) rfl rfl dX12_beBand_1 ?_
  refine TT_iload_n hK rfl 1 rfl dX12_beBand_4 ?_
  refine TT_iload_n hK rfl 2 rfl dX12_beBand_5 ?_
  refine TT_iast hK (o := 80) (n := 20) (by decide) rfl (by omega) (by omega) dX12_beBand_6 ?_
  refine TT_hp (h' := setO h 80 (fup (h 80) b w)) (up_can rfl rfl rfl) ?_
  have hT_1 : TY (setO h 80 (fup (h 80) b w)) := tu_80 hT (show up h 80 b w = (setO h 80 (fup (h 80) b w)) from up_can rfl rfl rfl) (by omega)
  have hF_1 : FRM [80, 81, 82, 83, 84, 85, 86, 87, 88] [] h (setO h 80 (fup (h 80) b w)) := FRM_up (show up h 80 b w = (setO h 80 (fup (h 80) b w)) from up_can rfl rfl rfl) hF (by decide) (by decide)
  refine TT_aload_n hK rfl 0 rfl dX12_beBand_7 ?_
  refine gf_X12_38 hK (by decide) rfl (q := 81) rfl rfl dX12_beBand_8 ?_
  refine TT_iload_n hK rfl 1 rfl dX12_beBand_11 ?_
  refine TT_iload_n hK rfl 3 rfl dX12_beBand_12 ?_
  refine TT_iast hK (o := 81) (n := 20) (by decide) rfl (by omega) (by omega) dX12_beBand_13 ?_
  refine TT_hp (h' := setO (setO h 80 (fup (h 80) b w)) 81 (fup (h 81) b e)) (up_can (sOf_ne _ _ (by decide)) rfl rfl) ?_
  have hT_2 : TY (setO (setO h 80 (fup (h 80) b w)) 81 (fup (h 81) b e)) := tu_81 hT_1 (show up (setO h 80 (fup (h 80) b w)) 81 b e = (setO (setO h 80 (fup (h 80) b w)) 81 (fup (h 81) b e)) from up_can (sOf_ne _ _ (by decide)) rfl rfl) (by omega)
  have hF_2 : FRM [80, 81, 82, 83, 84, 85, 86, 87, 88] [] h (setO (setO h 80 (fup (h 80) b w)) 81 (fup (h 81) b e)) := FRM_up (show up (setO h 80 (fup (h 80) b w)) 81 b e = (setO (setO h 80 (fup (h 80) b w)) 81 (fup (h 81) b e)) from up_can (sOf_ne _ _ (by decide)) rfl rfl) hF_1 (by decide) (by decide)
  refine TT_aload_n hK rfl 0 rfl dX12_beBand_14 ?_
  refine gf_X12_41 hK (by decide) rfl (q := 82) rfl rfl dX12_beBand_15 ?_
  refine TT_iload_n hK rfl 1 rfl dX12_beBand_18 ?_
  refine TT_iload hK 4 rfl dX12_beBand_19 ?_
  refine TT_iast hK (o := 82) (n := 20) (by decide) rfl (by omega) (by omega) dX12_beBand_21 ?_
  refine TT_hp (h' := setO (setO (setO h 80 (fup (h 80) b w)) 81 (fup (h 81) b e)) 82 (fup (h 82) b k)) (up_can ((sOf_ne _ _ (by decide)).trans (sOf_ne _ _ (by decide))) rfl rfl) ?_
  have hT_3 : TY (setO (setO (setO h 80 (fup (h 80) b w)) 81 (fup (h 81) b e)) 82 (fup (h 82) b k)) := tu_82 hT_2 (show up (setO (setO h 80 (fup (h 80) b w)) 81 (fup (h 81) b e)) 82 b k = (setO (setO (setO h 80 (fup (h 80) b w)) 81 (fup (h 81) b e)) 82 (fup (h 82) b k)) from up_can ((sOf_ne _ _ (by decide)).trans (sOf_ne _ _ (by decide))) rfl rfl) (by omega)
  have hF_3 : FRM [80, 81, 82, 83, 84, 85, 86, 87, 88] [] h (setO (setO (setO h 80 (fup (h 80) b w)) 81 (fup (h 81) b e)) 82 (fup (h 82) b k)) := FRM_up (show up (setO (setO h 80 (fup (h 80) b w)) 81 (fup (h 81) b e)) 82 b k = (setO (setO (setO h 80 (fup (h 80) b w)) 81 (fup (h 81) b e)) 82 (fup (h 82) b k)) from up_can ((sOf_ne _ _ (by decide)).trans (sOf_ne _ _ (by decide))) rfl rfl) hF_2 (by decide) (by decide)
  refine TT_aload_n hK rfl 0 rfl dX12_beBand_22 ?_
  refine gf_X12_44 hK (by decide) rfl (q := 83) rfl rfl dX12_beBand_23 ?_
  refine TT_iload_n hK rfl 1 rfl dX12_beBand_26 ?_
  refine TT_iconst hK dX12_beBand_27 ?_
  refine TT_iast hK (o := 83) (n := 20) (by decide) rfl (by omega) (by omega) dX12_beBand_28 ?_
  refine TT_hp (h' := setO (setO (setO (setO h 80 (fup (h 80) b w)) 81 (fup (h 81) b e)) 82 (fup (h 82) b k)) 83 (fup (h 83) b 0)) (up_can ((sOf_ne _ _ (by decide)).trans ((sOf_ne _ _ (by decide)).trans (sOf_ne _ _ (by decide)))) rfl rfl) ?_
  have hT_4 : TY (setO (setO (setO (setO h 80 (fup (h 80) b w)) 81 (fup (h 81) b e)) 82 (fup (h 82) b k)) 83 (fup (h 83) b 0)) := tu_83 hT_3 (show up (setO (setO (setO h 80 (fup (h 80) b w)) 81 (fup (h 81) b e)) 82 (fup (h 82) b k)) 83 b 0 = (setO (setO (setO (setO h 80 (fup (h 80) b w)) 81 (fup (h 81) b e)) 82 (fup (h 82) b k)) 83 (fup (h 83) b 0)) from up_can ((sOf_ne _ _ (by decide)).trans ((sOf_ne _ _ (by decide)).trans (sOf_ne _ _ (by decide)))) rfl rfl) (by omega)
  have hF_4 : FRM [80, 81, 82, 83, 84, 85, 86, 87, 88] [] h (setO (setO (setO (setO h 80 (fup (h 80) b w)) 81 (fup (h 81) b e)) 82 (fup (h 82) b k)) 83 (fup (h 83) b 0)) := FRM_up (show up (setO (setO (setO h 80 (fup (h 80) b w)) 81 (fup (h 81) b e)) 82 (fup (h 82) b k)) 83 b 0 = (setO (setO (setO (setO h 80 (fup (h 80) b w)) 81 (fup (h 81) b e)) 82 (fup (h 82) b k)) 83 (fup (h 83) b 0)) from up_can ((sOf_ne _ _ (by decide)).trans ((sOf_ne _ _ (by decide)).trans (sOf_ne _ _ (by decide)))) rfl rfl) hF_3 (by decide) (by decide)
  refine TT_aload_n hK rfl 0 rfl dX12_beBand_29 ?_
  refine gf_X12_54 hK (by decide) rfl (q := 86) rfl rfl dX12_beBand_30 ?_
  refine TT_iload_n hK rfl 1 rfl dX12_beBand_33 ?_
  refine TT_iconst hK dX12_beBand_34 ?_
  refine TT_iast hK (o := 86) (n := 20) (by decide) rfl (by omega) (by omega) dX12_beBand_35 ?_
  refine TT_hp (h' := setO (setO (setO (setO (setO h 80 (fup (h 80) b w)) 81 (fup (h 81) b e)) 82 (fup (h 82) b k)) 83 (fup (h 83) b 0)) 86 (fup (h 86) b 0)) (up_can ((sOf_ne _ _ (by decide)).trans ((sOf_ne _ _ (by decide)).trans ((sOf_ne _ _ (by decide)).trans (sOf_ne _ _ (by decide))))) rfl rfl) ?_
  have hT_5 : TY (setO (setO (setO (setO (setO h 80 (fup (h 80) b w)) 81 (fup (h 81) b e)) 82 (fup (h 82) b k)) 83 (fup (h 83) b 0)) 86 (fup (h 86) b 0)) := tu_86 hT_4 (show up (setO (setO (setO (setO h 80 (fup (h 80) b w)) 81 (fup (h 81) b e)) 82 (fup (h 82) b k)) 83 (fup (h 83) b 0)) 86 b 0 = (setO (setO (setO (setO (setO h 80 (fup (h 80) b w)) 81 (fup (h 81) b e)) 82 (fup (h 82) b k)) 83 (fup (h 83) b 0)) 86 (fup (h 86) b 0)) from up_can ((sOf_ne _ _ (by decide)).trans ((sOf_ne _ _ (by decide)).trans ((sOf_ne _ _ (by decide)).trans (sOf_ne _ _ (by decide))))) rfl rfl) (by omega)
  have hF_5 : FRM [80, 81, 82, 83, 84, 85, 86, 87, 88] [] h (setO (setO (setO (setO (setO h 80 (fup (h 80) b w)) 81 (fup (h 81) b e)) 82 (fup (h 82) b k)) 83 (fup (h 83) b 0)) 86 (fup (h 86) b 0)) := FRM_up (show up (setO (setO (setO (setO h 80 (fup (h 80) b w)) 81 (fup (h 81) b e)) 82 (fup (h 82) b k)) 83 (fup (h 83) b 0)) 86 b 0 = (setO (setO (setO (setO (setO h 80 (fup (h 80) b w)) 81 (fup (h 81) b e)) 82 (fup (h 82) b k)) 83 (fup (h 83) b 0)) 86 (fup (h 86) b 0)) from up_can ((sOf_ne _ _ (by decide)).trans ((sOf_ne _ _ (by decide)).trans ((sOf_ne _ _ (by decide)).trans (sOf_ne _ _ (by decide))))) rfl rfl) hF_4 (by decide) (by decide)
  refine TT_aload_n hK rfl 0 rfl dX12_beBand_36 ?_
  refine gf_X12_57 hK (by decide) rfl (q := 87) rfl rfl dX12_beBand_37 ?_
  refine TT_iload_n hK rfl 1 rfl dX12_beBand_40 ?_
  refine TT_iconst hK dX12_beBand_41 ?_
  refine TT_iast hK (o := 87) (n := 20) (by decide) rfl (by omega) (by omega) dX12_beBand_42 ?_
  refine TT_hp (h' := setO (setO (setO (setO (setO (setO h 80 (fup (h 80) b w)) 81 (fup (h 81) b e)) 82 (fup (h 82) b k)) 83 (fup (h 83) b 0)) 86 (fup (h 86) b 0)) 87 (fup (h 87) b 0)) (up_can ((sOf_ne _ _ (by decide)).trans ((sOf_ne _ _ (by decide)).trans ((sOf_ne _ _ (by decide)).trans ((sOf_ne _ _ (by decide)).trans (sOf_ne _ _ (by decide)))))) rfl rfl) ?_
  have hT_6 : TY (setO (setO (setO (setO (setO (setO h 80 (fup (h 80) b w)) 81 (fup (h 81) b e)) 82 (fup (h 82) b k)) 83 (fup (h 83) b 0)) 86 (fup (h 86) b 0)) 87 (fup (h 87) b 0)) := tu_87 hT_5 (show up (setO (setO (setO (setO (setO h 80 (fup (h 80) b w)) 81 (fup (h 81) b e)) 82 (fup (h 82) b k)) 83 (fup (h 83) b 0)) 86 (fup (h 86) b 0)) 87 b 0 = (setO (setO (setO (setO (setO (setO h 80 (fup (h 80) b w)) 81 (fup (h 81) b e)) 82 (fup (h 82) b k)) 83 (fup (h 83) b 0)) 86 (fup (h 86) b 0)) 87 (fup (h 87) b 0)) from up_can ((sOf_ne _ _ (by decide)).trans ((sOf_ne _ _ (by decide)).trans ((sOf_ne _ _ (by decide)).trans ((sOf_ne _ _ (by decide)).trans (sOf_ne _ _ (by decide)))))) rfl rfl) (by omega)
  have hF_6 : FRM [80, 81, 82, 83, 84, 85, 86, 87, 88] [] h (setO (setO (setO (setO (setO (setO h 80 (fup (h 80) b w)) 81 (fup (h 81) b e)) 82 (fup (h 82) b k)) 83 (fup (h 83) b 0)) 86 (fup (h 86) b 0)) 87 (fup (h 87) b 0)) := FRM_up (show up (setO (setO (setO (setO (setO h 80 (fup (h 80) b w)) 81 (fup (h 81) b e)) 82 (fup (h 82) b k)) 83 (fup (h 83) b 0)) 86 (fup (h 86) b 0)) 87 b 0 = (setO (setO (setO (setO (setO (setO h 80 (fup (h 80) b w)) 81 (fup (h 81) b e)) 82 (fup (h 82) b k)) 83 (fup (h 83) b 0)) 86 (fup (h 86) b 0)) 87 (fup (h 87) b 0)) from up_can ((sOf_ne _ _ (by decide)).trans ((sOf_ne _ _ (by decide)).trans ((sOf_ne _ _ (by decide)).trans ((sOf_ne _ _ (by decide)).trans (sOf_ne _ _ (by decide)))))) rfl rfl) hF_5 (by decide) (by decide)
  refine TT_aload_n hK rfl 0 rfl dX12_beBand_43 ?_
  refine gf_X12_60 hK (by decide) rfl (q := 88) rfl rfl dX12_beBand_44 ?_
  refine TT_iload_n hK rfl 1 rfl dX12_beBand_47 ?_
  refine TT_iconst hK dX12_beBand_48 ?_
  refine TT_iast hK (o := 88) (n := 20) (by decide) rfl (by omega) (by omega) dX12_beBand_49 ?_
  refine TT_hp (h' := setO (setO (setO (setO (setO (setO (setO h 80 (fup (h 80) b w)) 81 (fup (h 81) b e)) 82 (fup (h 82) b k)) 83 (fup (h 83) b 0)) 86 (fup (h 86) b 0)) 87 (fup (h 87) b 0)) 88 (fup (h 88) b 3)) (up_can ((sOf_ne _ _ (by decide)).trans ((sOf_ne _ _ (by decide)).trans ((sOf_ne _ _ (by decide)).trans ((sOf_ne _ _ (by decide)).trans ((sOf_ne _ _ (by decide)).trans (sOf_ne _ _ (by decide))))))) rfl rfl) ?_
  have hT_7 : TY (setO (setO (setO (setO (setO (setO (setO h 80 (fup (h 80) b w)) 81 (fup (h 81) b e)) 82 (fup (h 82) b k)) 83 (fup (h 83) b 0)) 86 (fup (h 86) b 0)) 87 (fup (h 87) b 0)) 88 (fup (h 88) b 3)) := tu_88 hT_6 (show up (setO (setO (setO (setO (setO (setO h 80 (fup (h 80) b w)) 81 (fup (h 81) b e)) 82 (fup (h 82) b k)) 83 (fup (h 83) b 0)) 86 (fup (h 86) b 0)) 87 (fup (h 87) b 0)) 88 b 3 = (setO (setO (setO (setO (setO (setO (setO h 80 (fup (h 80) b w)) 81 (fup (h 81) b e)) 82 (fup (h 82) b k)) 83 (fup (h 83) b 0)) 86 (fup (h 86) b 0)) 87 (fup (h 87) b 0)) 88 (fup (h 88) b 3)) from up_can ((sOf_ne _ _ (by decide)).trans ((sOf_ne _ _ (by decide)).trans ((sOf_ne _ _ (by decide)).trans ((sOf_ne _ _ (by decide)).trans ((sOf_ne _ _ (by decide)).trans (sOf_ne _ _ (by decide))))))) rfl rfl) (by omega)
  have hF_7 : FRM [80, 81, 82, 83, 84, 85, 86, 87, 88] [] h (setO (setO (setO (setO (setO (setO (setO h 80 (fup (h 80) b w)) 81 (fup (h 81) b e)) 82 (fup (h 82) b k)) 83 (fup (h 83) b 0)) 86 (fup (h 86) b 0)) 87 (fup (h 87) b 0)) 88 (fup (h 88) b 3)) := FRM_up (show up (setO (setO (setO (setO (setO (setO h 80 (fup (h 80) b w)) 81 (fup (h 81) b e)) 82 (fup (h 82) b k)) 83 (fup (h 83) b 0)) 86 (fup (h 86) b 0)) 87 (fup (h 87) b 0)) 88 b 3 = (setO (setO (setO (setO (setO (setO (setO h 80 (fup (h 80) b w)) 81 (fup (h 81) b e)) 82 (fup (h 82) b k)) 83 (fup (h 83) b 0)) 86 (fup (h 86) b 0)) 87 (fup (h 87) b 0)) 88 (fup (h 88) b 3)) from up_can ((sOf_ne _ _ (by decide)).trans ((sOf_ne _ _ (by decide)).trans ((sOf_ne _ _ (by decide)).trans ((sOf_ne _ _ (by decide)).trans ((sOf_ne _ _ (by decide)).trans (sOf_ne _ _ (by decide))))))) rfl rfl) hF_6 (by decide) (by decide)
  refine TT_bipush hK (by decide) dX12_beBand_50 ?_
  refine TT_iload_n hK rfl 1 rfl dX12_beBand_52 ?_
  refine TT_imul hK dX12_beBand_53 ?_
  refine TT_istore hK (lv' := [(5, vI (64 * b)), (0, vR 73), (1, vI b), (2, vI w), (3, vI e), (4, vI k)]) (by decide) rfl dX12_beBand_54 ?_
  have L56_8 : ∀ (k8 : Nat) (j : Int) (w56_8 : Hp_), TY w56_8 → FRM [80, 81, 82, 83, 84, 85, 86, 87, 88] [] h w56_8 → (64 * b ≤ j ∧ j ≤ 64 * b + 64) → ((w56_8 80) = fup (h 80) b w) → ((w56_8 81) = fup (h 81) b e) → ((w56_8 86) = fup (h 86) b 0) → (64 * b + 64 - j).toNat < k8 → TT K ly 0 0 56 [(0, vR 73), (1, vI b), (2, vI w), (3, vI e), (4, vI k), (5, vI j)] [] w56_8 := by
    intro k8
    induction k8 with
    | zero => intro j w56_8 hT56_8 hF56_8 hj h80 h81 h86 hk8; exact absurd hk8 (Nat.not_lt_zero _)
    | succ k8 ih8 =>
      intro j w56_8 hT56_8 hF56_8 hj h80 h81 h86 hk8
      refine TT_iload hK 5 rfl dX12_beBand_56 ?_
      refine TT_bipush hK (by decide) dX12_beBand_58 ?_
      refine TT_iload_n hK rfl 1 rfl dX12_beBand_60 ?_
      refine TT_imul hK dX12_beBand_61 ?_
      refine TT_bipush hK (by decide) dX12_beBand_62 ?_
      refine TT_iadd hK dX12_beBand_64 ?_
      refine TT_icmp_ge hK (tgt := 90) (irm (by omega) (by omega)) (irm (by omega) (by omega)) dX12_beBand_65 (by decide) (fun hb65_9 => ?_) (fun hb65_9 => ?_)
      · refine TT_vret hK hQ ?_ dX12_beBand_90
        exact ⟨⟨hT56_8, hF56_8⟩, rfl, (by exact h80), (by exact h81), (by exact h86)⟩
      · refine TT_aload_n hK rfl 0 rfl dX12_beBand_68 ?_
        refine gf_X12_47 hK (by decide) rfl (q := 84) rfl rfl dX12_beBand_69 ?_
        refine TT_iload hK 5 rfl dX12_beBand_72 ?_
        refine TT_iconst hK dX12_beBand_74 ?_
        refine TT_iast hK (o := 84) (n := 1280) (by decide) rfl (by omega) (by omega) dX12_beBand_75 ?_
        refine TT_hp (h' := setO w56_8 84 (fup (w56_8 84) j 0)) (up_can rfl rfl rfl) ?_
        have hT_10 : TY (setO w56_8 84 (fup (w56_8 84) j 0)) := tu_84 hT56_8 (show up w56_8 84 j 0 = (setO w56_8 84 (fup (w56_8 84) j 0)) from up_can rfl rfl rfl) (by omega)
        have hF_10 : FRM [80, 81, 82, 83, 84, 85, 86, 87, 88] [] h (setO w56_8 84 (fup (w56_8 84) j 0)) := FRM_up (show up w56_8 84 j 0 = (setO w56_8 84 (fup (w56_8 84) j 0)) from up_can rfl rfl rfl) hF56_8 (by decide) (by decide)
        refine TT_aload_n hK rfl 0 rfl dX12_beBand_76 ?_
        refine gf_X12_50 hK (by decide) rfl (q := 85) rfl rfl dX12_beBand_77 ?_
        refine TT_iload hK 5 rfl dX12_beBand_80 ?_
        refine TT_iconst hK dX12_beBand_82 ?_
        refine TT_zast hK (o := 85) (n := 1280) (by decide) rfl (by omega) (by omega) (by first | decide | omega) dX12_beBand_83 ?_
        refine TT_hp (h' := setO (setO w56_8 84 (fup (w56_8 84) j 0)) 85 (fup (w56_8 85) j 0)) (up_can (sOf_ne _ _ (by decide)) rfl rfl) ?_
        have hT_11 : TY (setO (setO w56_8 84 (fup (w56_8 84) j 0)) 85 (fup (w56_8 85) j 0)) := tu_85 hT_10 (show up (setO w56_8 84 (fup (w56_8 84) j 0)) 85 j 0 = (setO (setO w56_8 84 (fup (w56_8 84) j 0)) 85 (fup (w56_8 85) j 0)) from up_can (sOf_ne _ _ (by decide)) rfl rfl) (by omega)
        have hF_11 : FRM [80, 81, 82, 83, 84, 85, 86, 87, 88] [] h (setO (setO w56_8 84 (fup (w56_8 84) j 0)) 85 (fup (w56_8 85) j 0)) := FRM_up (show up (setO w56_8 84 (fup (w56_8 84) j 0)) 85 j 0 = (setO (setO w56_8 84 (fup (w56_8 84) j 0)) 85 (fup (w56_8 85) j 0)) from up_can (sOf_ne _ _ (by decide)) rfl rfl) hF_10 (by decide) (by decide)
        refine TT_iinc hK (v := j + 1) (lv' := [(5, vI (j + 1)), (0, vR 73), (1, vI b), (2, vI w), (3, vI e), (4, vI k)]) 5 rfl rfl (by decide) rfl dX12_beBand_84 ?_
        refine TT_goto hK (tgt := 56) dX12_beBand_87 (by decide) ?_
        refine TT_sub [1, 2, 3, 4, 5, 0] rfl ?_
        have e12_80 : (setO (setO w56_8 84 (fup (w56_8 84) j 0)) 85 (fup (w56_8 85) j 0)) 80 = w56_8 80 := (sOf_ne _ _ (by decide)).trans (sOf_ne _ _ (by decide))
        have e13_81 : (setO (setO w56_8 84 (fup (w56_8 84) j 0)) 85 (fup (w56_8 85) j 0)) 81 = w56_8 81 := (sOf_ne _ _ (by decide)).trans (sOf_ne _ _ (by decide))
        have e14_86 : (setO (setO w56_8 84 (fup (w56_8 84) j 0)) 85 (fup (w56_8 85) j 0)) 86 = w56_8 86 := (sOf_ne _ _ (by decide)).trans (sOf_ne _ _ (by decide))
        exact ih8 (j + 1) (setO (setO w56_8 84 (fup (w56_8 84) j 0)) 85 (fup (w56_8 85) j 0)) hT_11 hF_11 (by first | omega | (simp [up, setR] <;> omega)) (by rewrite [e12_80]; first | assumption | exact h80) (by rewrite [e13_81]; first | assumption | exact h81) (by rewrite [e14_86]; first | assumption | exact h86) (by first | omega | (simp [up, setR] <;> omega))
  refine TT_sub [1, 2, 3, 4, 5, 0] rfl ?_
  have e15_80 : (setO (setO (setO (setO (setO (setO (setO h 80 (fup (h 80) b w)) 81 (fup (h 81) b e)) 82 (fup (h 82) b k)) 83 (fup (h 83) b 0)) 86 (fup (h 86) b 0)) 87 (fup (h 87) b 0)) 88 (fup (h 88) b 3)) 80 = fup (h 80) b w := (sOf_ne _ _ (by decide)).trans ((sOf_ne _ _ (by decide)).trans ((sOf_ne _ _ (by decide)).trans ((sOf_ne _ _ (by decide)).trans ((sOf_ne _ _ (by decide)).trans ((sOf_ne _ _ (by decide)).trans (sOf_eq _ _ _))))))
  have e16_81 : (setO (setO (setO (setO (setO (setO (setO h 80 (fup (h 80) b w)) 81 (fup (h 81) b e)) 82 (fup (h 82) b k)) 83 (fup (h 83) b 0)) 86 (fup (h 86) b 0)) 87 (fup (h 87) b 0)) 88 (fup (h 88) b 3)) 81 = fup (h 81) b e := (sOf_ne _ _ (by decide)).trans ((sOf_ne _ _ (by decide)).trans ((sOf_ne _ _ (by decide)).trans ((sOf_ne _ _ (by decide)).trans ((sOf_ne _ _ (by decide)).trans (sOf_eq _ _ _)))))
  have e17_86 : (setO (setO (setO (setO (setO (setO (setO h 80 (fup (h 80) b w)) 81 (fup (h 81) b e)) 82 (fup (h 82) b k)) 83 (fup (h 83) b 0)) 86 (fup (h 86) b 0)) 87 (fup (h 87) b 0)) 88 (fup (h 88) b 3)) 86 = fup (h 86) b 0 := (sOf_ne _ _ (by decide)).trans ((sOf_ne _ _ (by decide)).trans (sOf_eq _ _ _))
  exact L56_8 (((64 * b + 64 - (64 * b)).toNat) + 1) (64 * b) (setO (setO (setO (setO (setO (setO (setO h 80 (fup (h 80) b w)) 81 (fup (h 81) b e)) 82 (fup (h 82) b k)) 83 (fup (h 83) b 0)) 86 (fup (h 86) b 0)) 87 (fup (h 87) b 0)) 88 (fup (h 88) b 3)) hT_7 hF_7 (by first | omega | (simp [up, setR] <;> omega)) (by rewrite [e15_80]; rfl) (by rewrite [e16_81]; rfl) (by rewrite [e17_86]; rfl) (Nat.lt_succ_self _)
set_option maxRecDepth 20000 in
theorem s_beBands_x (f w e l : Int) (h : Hp_) (hT : TY h) (hf : f = 0 ∨ f = 10) (hw : 0 ≤ w ∧ w ≤ 8) (he : 0 ≤ e ∧ e ≤ 8) (hl : 0 ≤ l ∧ l ≤ 3) : Ctr yX12_beBands cX12_beBands 11 none (rmd 1) ly ly 0 0 [vR 73, vI f, vI w, vI e, vI l] h (fun r h' => (TY h' ∧ FRM [80, 81, 82, 83, 84, 85, 86, 87, 88] [] h h') ∧ r = none ∧ (∀ j : Int, 0 ≤ j → j < 3 * l + 1 → (h' 80) (f + j) = BW w l j) ∧ (∀ j : Int, 0 ≤ j → j < 3 * l + 1 → (h' 81) (f + j) = BH e l j) ∧ (∀ j : Int, 0 ≤ j → j < 3 * l + 1 → (h' 86) (f + j) = 0)) := by
  refine Ctr_of (by decide) (Nat.le_of_ble_eq_true rfl) ⟨Nat.le_refl _, Nat.le_refl _⟩ (fun K hK hQ _ => ?_)
  show TT K ly 0 0 0 [(0, vR 73), (1, vI f), (2, vI w), (3, vI e), (4, vI l)] [] h
  have hF : FRM [80, 81, 82, 83, 84, 85, 86, 87, 88] [] h h := FRM_rf _ _ _
  refine TT_aload_n hK rfl 0 rfl dX12_beBands_0 ?_
  refine TT_iload_n hK rfl 1 rfl dX12_beBands_1 ?_
  refine TT_iload_n hK rfl 2 rfl dX12_beBands_2 ?_
  refine TT_iload hK 4 rfl dX12_beBands_3 ?_
  refine iv_X12_153 hK (s_left_x w l h hT (by first | omega | (simp [up, setR] <;> omega)) (by first | omega | (simp [up, setR] <;> omega))) ⟨by decide, by decide⟩ (by decide) rfl rfl (Nat.le_of_ble_eq_true rfl) ⟨by decide, by decide⟩ dX12_beBands_5 ?_
  intro r9 g5_1 hp9
  obtain ⟨⟨hT_1, hG_1⟩, z5_1, hr9, hz_1, p1_1⟩ := hp9
  rw [hr9]
  have hF_1 : FRM [80, 81, 82, 83, 84, 85, 86, 87, 88] [] h g5_1 := FRM_tr hF hG_1 (by decide) (by decide)
  show TT K ly 0 0 8 [(0, vR 73), (1, vI f), (2, vI w), (3, vI e), (4, vI l)] [vI z5_1, vI f, vR 73] g5_1
  refine TT_iload_n hK rfl 3 rfl dX12_beBands_8 ?_
  refine TT_iload hK 4 rfl dX12_beBands_9 ?_
  refine iv_X12_153 hK (s_left_x e l g5_1 hT_1 (by first | omega | (simp [up, setR] <;> omega)) (by first | omega | (simp [up, setR] <;> omega))) ⟨by decide, by decide⟩ (by decide) rfl rfl (Nat.le_of_ble_eq_true rfl) ⟨by decide, by decide⟩ dX12_beBands_11 ?_
  intro r9 g11_2 hp9
  obtain ⟨⟨hT_2, hG_2⟩, z11_2, hr9, hz_2, p1_2⟩ := hp9
  rw [hr9]
  have hF_2 : FRM [80, 81, 82, 83, 84, 85, 86, 87, 88] [] h g11_2 := FRM_tr hF_1 hG_2 (by decide) (by decide)
  show TT K ly 0 0 14 [(0, vR 73), (1, vI f), (2, vI w), (3, vI e), (4, vI l)] [vI z11_2, vI z5_1, vI f, vR 73] g11_2
  refine TT_iconst hK dX12_beBands_14 ?_
  refine iv_X12_156 hK (s_beBand_x f z5_1 z11_2 0 g11_2 hT_2 (by first | omega | (simp [up, setR] <;> omega)) (by first | omega | (simp [up, setR] <;> omega)) (by first | omega | (simp [up, setR] <;> omega)) (by first | omega | (simp [up, setR] <;> omega))) (by decide) rfl ⟨by decide, by decide⟩ (by decide) rfl rfl (Nat.le_of_ble_eq_true rfl) ⟨by decide, by decide⟩ dX12_beBands_15 ?_
  intro r9 g15_3 hp9
  obtain ⟨⟨hT_3, hG_3⟩, hr9, q1_3, q2_3, q3_3⟩ := hp9
  rw [hr9]
  have hF_3 : FRM [80, 81, 82, 83, 84, 85, 86, 87, 88] [] h g15_3 := FRM_tr hF_2 hG_3 (by decide) (by decide)
  rw [show g11_2 80 = h 80 from ((hG_2.1 80 (by decide))).trans (hG_1.1 80 (by decide))] at q1_3
  rw [show g11_2 81 = h 81 from ((hG_2.1 81 (by decide))).trans (hG_1.1 81 (by decide))] at q2_3
  rw [show g11_2 86 = h 86 from ((hG_2.1 86 (by decide))).trans (hG_1.1 86 (by decide))] at q3_3
  have q1_at15 := q1_3
  have q2_at15 := q2_3
  have q3_at15 := q3_3
  show TT K ly 0 0 18 [(0, vR 73), (1, vI f), (2, vI w), (3, vI e), (4, vI l)] [] g15_3
  refine TT_iconst hK dX12_beBands_18 ?_
  refine TT_istore hK (lv' := [(5, vI 1), (0, vR 73), (1, vI f), (2, vI w), (3, vI e), (4, vI l)]) (by decide) rfl dX12_beBands_19 ?_
  have L21_4 : ∀ (k4 : Nat) (r : Int) (w21_4 : Hp_), TY w21_4 → FRM [80, 81, 82, 83, 84, 85, 86, 87, 88] [] h w21_4 → (1 ≤ r ∧ r ≤ l + 1) → (∀ j : Int, 0 ≤ j → j < 3 * (r - 1) + 1 → (w21_4 80) (f + j) = BW w l j) → (∀ j : Int, 0 ≤ j → j < 3 * (r - 1) + 1 → (w21_4 81) (f + j) = BH e l j) → (∀ j : Int, 0 ≤ j → j < 3 * (r - 1) + 1 → (w21_4 86) (f + j) = 0) → ((4 : Int) - r).toNat < k4 → TT K ly 0 0 21 [(0, vR 73), (1, vI f), (2, vI w), (3, vI e), (4, vI l), (5, vI r)] [] w21_4 := by
    intro k4
    induction k4 with
    | zero => intro r w21_4 hT21_4 hF21_4 hr hbw hbh hbt hk4; exact absurd hk4 (Nat.not_lt_zero _)
    | succ k4 ih4 =>
      intro r w21_4 hT21_4 hF21_4 hr hbw hbh hbt hk4
      refine TT_iload hK 5 rfl dX12_beBands_21 ?_
      refine TT_iload hK 4 rfl dX12_beBands_23 ?_
      refine TT_icmp_gt hK (tgt := 132) (irm (by omega) (by omega)) (irm (by omega) (by omega)) dX12_beBands_25 (by decide) (fun hb25_5 => ?_) (fun hb25_5 => ?_)
      · refine TT_vret hK hQ ?_ dX12_beBands_132
        exact ⟨⟨hT21_4, hF21_4⟩, rfl, (by intro j h1 h2; exact hbw j h1 (by omega)), (by intro j h1 h2; exact hbh j h1 (by omega)), (by intro j h1 h2; exact hbt j h1 (by omega))⟩
      · refine TT_iload hK 4 rfl dX12_beBands_28 ?_
        refine TT_iload hK 5 rfl dX12_beBands_30 ?_
        refine TT_isub hK dX12_beBands_32 ?_
        refine TT_istore hK (lv' := [(6, vI (l - r)), (0, vR 73), (1, vI f), (2, vI w), (3, vI e), (4, vI l), (5, vI r)]) (by decide) rfl dX12_beBands_33 ?_
        refine TT_iload_n hK rfl 3 rfl dX12_beBands_35 ?_
        refine TT_iload hK 0 rfl dX12_beBands_36 ?_
        refine TT_iconst hK dX12_beBands_38 ?_
        refine TT_iadd hK dX12_beBands_39 ?_
        refine iv_X12_153 hK (s_left_x w ((l - r) + 1) w21_4 hT21_4 (by first | omega | (simp [up, setR] <;> omega)) (by first | omega | (simp [up, setR] <;> omega))) ⟨by decide, by decide⟩ (by decide) rfl rfl (Nat.le_of_ble_eq_true rfl) ⟨by decide, by decide⟩ dX12_beBands_40 ?_
        intro r9 g40_6 hp9
        obtain ⟨⟨hT_6, hG_6⟩, z40_6, hr9, hz_6, p1_6⟩ := hp9
        rw [hr9]
        have hF_6 : FRM [80, 81, 82, 83, 84, 85, 86, 87, 88] [] h g40_6 := FRM_tr hF21_4 hG_6 (by decide) (by decide)
        show TT K ly 0 0 43 [(6, vI (l - r)), (0, vR 73), (1, vI f), (2, vI w), (3, vI e), (4, vI l), (5, vI r)] [vI z40_6] g40_6
        refine TT_istore hK (lv' := [(7, vI z40_6), (6, vI (l - r)), (0, vR 73), (1, vI f), (2, vI w), (3, vI e), (4, vI l), (5, vI r)]) (by decide) rfl dX12_beBands_43 ?_
        refine TT_iload_n hK rfl 5 rfl dX12_beBands_45 ?_
        refine TT_iload hK 1 rfl dX12_beBands_46 ?_
        refine TT_iconst hK dX12_beBands_48 ?_
        refine TT_iadd hK dX12_beBands_49 ?_
        refine iv_X12_153 hK (s_left_x e ((l - r) + 1) g40_6 hT_6 (by first | omega | (simp [up, setR] <;> omega)) (by first | omega | (simp [up, setR] <;> omega))) ⟨by decide, by decide⟩ (by decide) rfl rfl (Nat.le_of_ble_eq_true rfl) ⟨by decide, by decide⟩ dX12_beBands_50 ?_
        intro r9 g50_7 hp9
        obtain ⟨⟨hT_7, hG_7⟩, z50_7, hr9, hz_7, p1_7⟩ := hp9
        rw [hr9]
        have hF_7 : FRM [80, 81, 82, 83, 84, 85, 86, 87, 88] [] h g50_7 := FRM_tr hF_6 hG_7 (by decide) (by decide)
        show TT K ly 0 0 53 [(7, vI z40_6), (6, vI (l - r)), (0, vR 73), (1, vI f), (2, vI w), (3, vI e), (4, vI l), (5, vI r)] [vI z50_7] g50_7
        refine TT_istore hK (lv' := [(8, vI z50_7), (7, vI z40_6), (6, vI (l - r)), (0, vR 73), (1, vI f), (2, vI w), (3, vI e), (4, vI l), (5, vI r)]) (by decide) rfl dX12_beBands_53 ?_
        refine TT_iload_n hK rfl 5 rfl dX12_beBands_55 ?_
        refine TT_iload hK 2 rfl dX12_beBands_56 ?_
        refine iv_X12_153 hK (s_left_x w (l - r) g50_7 hT_7 (by first | omega | (simp [up, setR] <;> omega)) (by first | omega | (simp [up, setR] <;> omega))) ⟨by decide, by decide⟩ (by decide) rfl rfl (Nat.le_of_ble_eq_true rfl) ⟨by decide, by decide⟩ dX12_beBands_58 ?_
        intro r9 g58_8 hp9
        obtain ⟨⟨hT_8, hG_8⟩, z58_8, hr9, hz_8, p1_8⟩ := hp9
        rw [hr9]
        have hF_8 : FRM [80, 81, 82, 83, 84, 85, 86, 87, 88] [] h g58_8 := FRM_tr hF_7 hG_8 (by decide) (by decide)
        show TT K ly 0 0 61 [(8, vI z50_7), (7, vI z40_6), (6, vI (l - r)), (0, vR 73), (1, vI f), (2, vI w), (3, vI e), (4, vI l), (5, vI r)] [vI z58_8] g58_8
        refine TT_iload hK 1 rfl dX12_beBands_61 ?_
        have ow1 : z40_6 ≤ z58_8 := by have k9 := lf_le (n := w) (l := l - r) (by omega) (by omega); omega
        refine TT_isub hK dX12_beBands_63 ?_
        refine TT_istore hK (lv' := [(9, vI (z58_8 - z40_6)), (8, vI z50_7), (7, vI z40_6), (6, vI (l - r)), (0, vR 73), (1, vI f), (2, vI w), (3, vI e), (4, vI l), (5, vI r)]) (by decide) rfl dX12_beBands_64 ?_
        refine TT_iload_n hK rfl 7 rfl dX12_beBands_66 ?_
        refine TT_iload hK 3 rfl dX12_beBands_67 ?_
        refine iv_X12_153 hK (s_left_x e (l - r) g58_8 hT_8 (by first | omega | (simp [up, setR] <;> omega)) (by first | omega | (simp [up, setR] <;> omega))) ⟨by decide, by decide⟩ (by decide) rfl rfl (Nat.le_of_ble_eq_true rfl) ⟨by decide, by decide⟩ dX12_beBands_69 ?_
        intro r9 g69_9 hp9
        obtain ⟨⟨hT_9, hG_9⟩, z69_9, hr9, hz_9, p1_9⟩ := hp9
        rw [hr9]
        have hF_9 : FRM [80, 81, 82, 83, 84, 85, 86, 87, 88] [] h g69_9 := FRM_tr hF_8 hG_9 (by decide) (by decide)
        show TT K ly 0 0 72 [(9, vI (z58_8 - z40_6)), (8, vI z50_7), (7, vI z40_6), (6, vI (l - r)), (0, vR 73), (1, vI f), (2, vI w), (3, vI e), (4, vI l), (5, vI r)] [vI z69_9] g69_9
        refine TT_iload hK 1 rfl dX12_beBands_72 ?_
        have ow2 : z50_7 ≤ z69_9 := by have k9 := lf_le (n := e) (l := l - r) (by omega) (by omega); omega
        refine TT_isub hK dX12_beBands_74 ?_
        refine TT_istore hK (lv' := [(10, vI (z69_9 - z50_7)), (9, vI (z58_8 - z40_6)), (8, vI z50_7), (7, vI z40_6), (6, vI (l - r)), (0, vR 73), (1, vI f), (2, vI w), (3, vI e), (4, vI l), (5, vI r)]) (by decide) rfl dX12_beBands_75 ?_
        refine TT_aload_n hK rfl 5 rfl dX12_beBands_77 ?_
        refine TT_iload_n hK rfl 6 rfl dX12_beBands_78 ?_
        refine TT_iconst hK dX12_beBands_79 ?_
        refine TT_iload hK 10 rfl dX12_beBands_80 ?_
        refine TT_imul hK dX12_beBands_82 ?_
        refine TT_iadd hK dX12_beBands_83 ?_
        refine TT_iconst hK dX12_beBands_84 ?_
        refine TT_isub hK dX12_beBands_85 ?_
        refine TT_iload hK 1 rfl dX12_beBands_86 ?_
        refine TT_iload hK 2 rfl dX12_beBands_88 ?_
        refine TT_iconst hK dX12_beBands_90 ?_
        refine iv_X12_156 hK (s_beBand_x ((f + (3 * r)) - 2) (z58_8 - z40_6) z50_7 1 g69_9 hT_9 (by first | omega | (simp [up, setR] <;> omega)) (by first | omega | (simp [up, setR] <;> omega)) (by first | omega | (simp [up, setR] <;> omega)) (by first | omega | (simp [up, setR] <;> omega))) (by decide) rfl ⟨by decide, by decide⟩ (by decide) rfl rfl (Nat.le_of_ble_eq_true rfl) ⟨by decide, by decide⟩ dX12_beBands_91 ?_
        intro r9 g91_10 hp9
        obtain ⟨⟨hT_10, hG_10⟩, hr9, q1_10, q2_10, q3_10⟩ := hp9
        rw [hr9]
        have hF_10 : FRM [80, 81, 82, 83, 84, 85, 86, 87, 88] [] h g91_10 := FRM_tr hF_9 hG_10 (by decide) (by decide)
        rw [show g69_9 80 = w21_4 80 from ((hG_9.1 80 (by decide))).trans (((hG_8.1 80 (by decide))).trans (((hG_7.1 80 (by decide))).trans (hG_6.1 80 (by decide))))] at q1_10
        rw [show g69_9 81 = w21_4 81 from ((hG_9.1 81 (by decide))).trans (((hG_8.1 81 (by decide))).trans (((hG_7.1 81 (by decide))).trans (hG_6.1 81 (by decide))))] at q2_10
        rw [show g69_9 86 = w21_4 86 from ((hG_9.1 86 (by decide))).trans (((hG_8.1 86 (by decide))).trans (((hG_7.1 86 (by decide))).trans (hG_6.1 86 (by decide))))] at q3_10
        have q1_at91 := q1_10
        have q2_at91 := q2_10
        have q3_at91 := q3_10
        show TT K ly 0 0 94 [(10, vI (z69_9 - z50_7)), (9, vI (z58_8 - z40_6)), (8, vI z50_7), (7, vI z40_6), (6, vI (l - r)), (0, vR 73), (1, vI f), (2, vI w), (3, vI e), (4, vI l), (5, vI r)] [] g91_10
        refine TT_aload_n hK rfl 5 rfl dX12_beBands_94 ?_
        refine TT_iload_n hK rfl 6 rfl dX12_beBands_95 ?_
        refine TT_iconst hK dX12_beBands_96 ?_
        refine TT_iload hK 10 rfl dX12_beBands_97 ?_
        refine TT_imul hK dX12_beBands_99 ?_
        refine TT_iadd hK dX12_beBands_100 ?_
        refine TT_iconst hK dX12_beBands_101 ?_
        refine TT_isub hK dX12_beBands_102 ?_
        refine TT_iload hK 3 rfl dX12_beBands_103 ?_
        refine TT_iload hK 0 rfl dX12_beBands_105 ?_
        refine TT_iconst hK dX12_beBands_107 ?_
        refine iv_X12_156 hK (s_beBand_x ((f + (3 * r)) - 1) z40_6 (z69_9 - z50_7) 0 g91_10 hT_10 (by first | omega | (simp [up, setR] <;> omega)) (by first | omega | (simp [up, setR] <;> omega)) (by first | omega | (simp [up, setR] <;> omega)) (by first | omega | (simp [up, setR] <;> omega))) (by decide) rfl ⟨by decide, by decide⟩ (by decide) rfl rfl (Nat.le_of_ble_eq_true rfl) ⟨by decide, by decide⟩ dX12_beBands_108 ?_
        intro r9 g108_11 hp9
        obtain ⟨⟨hT_11, hG_11⟩, hr9, q1_11, q2_11, q3_11⟩ := hp9
        rw [hr9]
        have hF_11 : FRM [80, 81, 82, 83, 84, 85, 86, 87, 88] [] h g108_11 := FRM_tr hF_10 hG_11 (by decide) (by decide)
        have q1_at108 := q1_11
        have q2_at108 := q2_11
        have q3_at108 := q3_11
        show TT K ly 0 0 111 [(10, vI (z69_9 - z50_7)), (9, vI (z58_8 - z40_6)), (8, vI z50_7), (7, vI z40_6), (6, vI (l - r)), (0, vR 73), (1, vI f), (2, vI w), (3, vI e), (4, vI l), (5, vI r)] [] g108_11
        refine TT_aload_n hK rfl 5 rfl dX12_beBands_111 ?_
        refine TT_iload_n hK rfl 6 rfl dX12_beBands_112 ?_
        refine TT_iconst hK dX12_beBands_113 ?_
        refine TT_iload hK 10 rfl dX12_beBands_114 ?_
        refine TT_imul hK dX12_beBands_116 ?_
        refine TT_iadd hK dX12_beBands_117 ?_
        refine TT_iload hK 1 rfl dX12_beBands_118 ?_
        refine TT_iload hK 0 rfl dX12_beBands_120 ?_
        refine TT_iconst hK dX12_beBands_122 ?_
        refine iv_X12_156 hK (s_beBand_x (f + (3 * r)) (z58_8 - z40_6) (z69_9 - z50_7) 2 g108_11 hT_11 (by first | omega | (simp [up, setR] <;> omega)) (by first | omega | (simp [up, setR] <;> omega)) (by first | omega | (simp [up, setR] <;> omega)) (by first | omega | (simp [up, setR] <;> omega))) (by decide) rfl ⟨by decide, by decide⟩ (by decide) rfl rfl (Nat.le_of_ble_eq_true rfl) ⟨by decide, by decide⟩ dX12_beBands_123 ?_
        intro r9 g123_12 hp9
        obtain ⟨⟨hT_12, hG_12⟩, hr9, q1_12, q2_12, q3_12⟩ := hp9
        rw [hr9]
        have hF_12 : FRM [80, 81, 82, 83, 84, 85, 86, 87, 88] [] h g123_12 := FRM_tr hF_11 hG_12 (by decide) (by decide)
        have q1_at123 := q1_12
        have q2_at123 := q2_12
        have q3_at123 := q3_12
        show TT K ly 0 0 126 [(10, vI (z69_9 - z50_7)), (9, vI (z58_8 - z40_6)), (8, vI z50_7), (7, vI z40_6), (6, vI (l - r)), (0, vR 73), (1, vI f), (2, vI w), (3, vI e), (4, vI l), (5, vI r)] [] g123_12
        refine TT_iinc hK (v := r + 1) (lv' := [(5, vI (r + 1)), (10, vI (z69_9 - z50_7)), (9, vI (z58_8 - z40_6)), (8, vI z50_7), (7, vI z40_6), (6, vI (l - r)), (0, vR 73), (1, vI f), (2, vI w), (3, vI e), (4, vI l)]) 10 rfl rfl (by decide) rfl dX12_beBands_126 ?_
        refine TT_goto hK (tgt := 21) dX12_beBands_129 (by decide) ?_
        refine TT_sub [6, 7, 8, 9, 10, 0] rfl ?_
        exact ih4 (r + 1) g123_12 hT_12 hF_12 (by first | omega | (simp [up, setR] <;> omega)) (by rw [q1_at123, q1_at108, q1_at91]; exact BWs (by omega) hbw (by omega) (by omega)) (by rw [q2_at123, q2_at108, q2_at91]; exact BHs (by omega) hbh (by omega) (by omega)) (by rw [q3_at123, q3_at108, q3_at91]; exact B0s (by omega) hbt) (by first | omega | (simp [up, setR] <;> omega))
  refine TT_sub [1, 2, 3, 4, 5, 0] rfl ?_
  exact L21_4 ((((4 : Int) - 1).toNat) + 1) 1 g15_3 hT_3 hF_3 (by first | omega | (simp [up, setR] <;> omega)) (by intro j h1 h2; rw [q1_at15, show j = 0 by omega, Int.add_zero, fup_eq]; unfold BW; rw [if_pos rfl]; omega) (by intro j h1 h2; rw [q2_at15, show j = 0 by omega, Int.add_zero, fup_eq]; unfold BH; rw [if_pos rfl]; omega) (by intro j h1 h2; rw [q3_at15, show j = 0 by omega, Int.add_zero, fup_eq]) (Nat.lt_succ_self _)
set_option maxRecDepth 20000 in
theorem s_corner_x (b w e l : Int) (h : Hp_) (hT : TY h) (hb : 0 ≤ b ∧ b ≤ 3 * l) (hw : 0 ≤ w ∧ w ≤ 8) (he : 0 ≤ e ∧ e ≤ 8) (hl : 0 ≤ l ∧ l ≤ 3) : Ctr yX12_corner cX12_corner 7 (some .int) (rmd 1) ly ly 0 0 [vI b, vI w, vI e, vI l] h (fun r h' => (TY h' ∧ FRM [] [] h h') ∧ ∃ z : Int, r = some (vI z) ∧ (0 ≤ z ∧ z ≤ 72) ∧ (CRN w e l b z)) := by
  refine Ctr_of (by decide) (Nat.le_of_ble_eq_true rfl) ⟨Nat.le_refl _, Nat.le_refl _⟩ (fun K hK hQ _ => ?_)
  show TT K ly 0 0 0 [(0, vI b), (1, vI w), (2, vI e), (3, vI l)] [] h
  have hF : FRM [] [] h h := FRM_rf _ _ _
  refine TT_iload_n hK rfl 0 rfl dX12_corner_0 ?_
  refine TT_if_ne hK (tgt := 6) (irm (by omega) (by omega)) dX12_corner_1 (by decide) (fun hb1_1 => ?_) (fun hb1_1 => ?_)
  · refine TT_iload_n hK rfl 3 rfl dX12_corner_6 ?_
    refine TT_iload_n hK rfl 0 rfl dX12_corner_7 ?_
    refine TT_iconst hK dX12_corner_8 ?_
    refine TT_isub hK dX12_corner_9 ?_
    refine TT_iconst hK dX12_corner_10 ?_
    refine TT_idivn hK (irm (by omega) (by omega)) (by decide) (by first | omega | (simp [up, setR] <;> omega)) (by first | omega | (simp [up, setR] <;> omega)) dX12_corner_11 ?_
    refine TT_isub hK dX12_corner_12 ?_
    refine TT_istore hK (lv' := [(4, vI (l - ((b - 1) / 3))), (0, vI b), (1, vI w), (2, vI e), (3, vI l)]) (by decide) rfl dX12_corner_13 ?_
    refine TT_iload_n hK rfl 1 rfl dX12_corner_15 ?_
    refine TT_iconst hK dX12_corner_16 ?_
    refine TT_isub hK dX12_corner_17 ?_
    refine TT_iconst hK dX12_corner_18 ?_
    refine TT_iremn hK (irm (by omega) (by omega)) (by decide) (by first | omega | (simp [up, setR] <;> omega)) (by first | omega | (simp [up, setR] <;> omega)) dX12_corner_19 ?_
    refine TT_iconst hK dX12_corner_20 ?_
    refine TT_icmp_ne hK (tgt := 28) (irm (by omega) (by omega)) (by decide) dX12_corner_21 (by decide) (fun hb21_2 => ?_) (fun hb21_2 => ?_)
    · refine TT_iload_n hK rfl 2 rfl dX12_corner_28 ?_
      refine TT_iload hK 0 rfl dX12_corner_29 ?_
      refine iv_X12_153 hK (s_left_x w (l - ((b - 1) / 3)) h hT (by first | omega | (simp [up, setR] <;> omega)) (by first | omega | (simp [up, setR] <;> omega))) ⟨by decide, by decide⟩ (by decide) rfl rfl (Nat.le_of_ble_eq_true rfl) ⟨by decide, by decide⟩ dX12_corner_31 ?_
      intro r9 g31_3 hp9
      obtain ⟨⟨hT_3, hG_3⟩, z31_3, hr9, hz_3, p1_3⟩ := hp9
      rw [hr9]
      have hF_3 : FRM [] [] h g31_3 := FRM_tr hF hG_3 (by decide) (by decide)
      show TT K ly 0 0 34 [(4, vI (l - ((b - 1) / 3))), (0, vI b), (1, vI w), (2, vI e), (3, vI l)] [vI z31_3] g31_3
      refine TT_istore hK (lv' := [(5, vI z31_3), (4, vI (l - ((b - 1) / 3))), (0, vI b), (1, vI w), (2, vI e), (3, vI l)]) (by decide) rfl dX12_corner_34 ?_
      refine TT_iload_n hK rfl 2 rfl dX12_corner_36 ?_
      refine TT_iconst hK dX12_corner_37 ?_
      refine TT_isub hK dX12_corner_38 ?_
      refine TT_iconst hK dX12_corner_39 ?_
      refine TT_iremn hK (irm (by omega) (by omega)) (by decide) (by first | omega | (simp [up, setR] <;> omega)) (by first | omega | (simp [up, setR] <;> omega)) dX12_corner_40 ?_
      refine TT_if_ne hK (tgt := 48) (irm (by omega) (by omega)) dX12_corner_41 (by decide) (fun hb41_4 => ?_) (fun hb41_4 => ?_)
      · refine TT_iload_n hK rfl 4 rfl dX12_corner_48 ?_
        refine TT_iload hK 1 rfl dX12_corner_49 ?_
        refine iv_X12_153 hK (s_left_x e (l - ((b - 1) / 3)) g31_3 hT_3 (by first | omega | (simp [up, setR] <;> omega)) (by first | omega | (simp [up, setR] <;> omega))) ⟨by decide, by decide⟩ (by decide) rfl rfl (Nat.le_of_ble_eq_true rfl) ⟨by decide, by decide⟩ dX12_corner_51 ?_
        intro r9 g51_5 hp9
        obtain ⟨⟨hT_5, hG_5⟩, z51_5, hr9, hz_5, p1_5⟩ := hp9
        rw [hr9]
        have hF_5 : FRM [] [] h g51_5 := FRM_tr hF_3 hG_5 (by decide) (by decide)
        show TT K ly 0 0 54 [(5, vI z31_3), (4, vI (l - ((b - 1) / 3))), (0, vI b), (1, vI w), (2, vI e), (3, vI l)] [vI z51_5] g51_5
        refine TT_istore hK (lv' := [(6, vI z51_5), (5, vI z31_3), (4, vI (l - ((b - 1) / 3))), (0, vI b), (1, vI w), (2, vI e), (3, vI l)]) (by decide) rfl dX12_corner_54 ?_
        refine TT_bipush hK (by decide) dX12_corner_56 ?_
        refine TT_iload hK 0 rfl dX12_corner_58 ?_
        refine TT_imul hK dX12_corner_60 ?_
        refine TT_iload hK 1 rfl dX12_corner_61 ?_
        refine TT_iadd hK dX12_corner_63 ?_
        refine TT_iret hK hQ ?_ dX12_corner_64
        exact ⟨⟨hT_5, hF_5⟩, ((8 * z51_5) + z31_3), rfl, (by omega), (by exact CRN_i (cx := z31_3) (cy := z51_5) hw he hl hb (by omega) (by unfold CX; first | rw [if_pos (by omega)] | (rw [if_neg (by omega), if_pos (by omega)]) | (rw [if_neg (by omega), if_neg (by omega)]; omega)) (by unfold CY; first | rw [if_pos (by omega)] | (rw [if_neg (by omega), if_pos (by omega)]) | (rw [if_neg (by omega), if_neg (by omega)]; omega)))⟩
      · refine TT_iconst hK dX12_corner_44 ?_
        refine TT_goto hK (tgt := 54) dX12_corner_45 (by decide) ?_
        refine TT_istore hK (lv' := [(6, vI 0), (5, vI z31_3), (4, vI (l - ((b - 1) / 3))), (0, vI b), (1, vI w), (2, vI e), (3, vI l)]) (by decide) rfl dX12_corner_54 ?_
        refine TT_bipush hK (by decide) dX12_corner_56 ?_
        refine TT_iload hK 0 rfl dX12_corner_58 ?_
        refine TT_imul hK dX12_corner_60 ?_
        refine TT_iload hK 1 rfl dX12_corner_61 ?_
        refine TT_iadd hK dX12_corner_63 ?_
        refine TT_iret hK hQ ?_ dX12_corner_64
        exact ⟨⟨hT_3, hF_3⟩, ((8 * 0) + z31_3), rfl, (by omega), (by exact CRN_i (cx := z31_3) (cy := 0) hw he hl hb (by omega) (by unfold CX; first | rw [if_pos (by omega)] | (rw [if_neg (by omega), if_pos (by omega)]) | (rw [if_neg (by omega), if_neg (by omega)]; omega)) (by unfold CY; first | rw [if_pos (by omega)] | (rw [if_neg (by omega), if_pos (by omega)]) | (rw [if_neg (by omega), if_neg (by omega)]; omega)))⟩
    · refine TT_iconst hK dX12_corner_24 ?_
      refine TT_goto hK (tgt := 34) dX12_corner_25 (by decide) ?_
      refine TT_istore hK (lv' := [(5, vI 0), (4, vI (l - ((b - 1) / 3))), (0, vI b), (1, vI w), (2, vI e), (3, vI l)]) (by decide) rfl dX12_corner_34 ?_
      refine TT_iload_n hK rfl 2 rfl dX12_corner_36 ?_
      refine TT_iconst hK dX12_corner_37 ?_
      refine TT_isub hK dX12_corner_38 ?_
      refine TT_iconst hK dX12_corner_39 ?_
      refine TT_iremn hK (irm (by omega) (by omega)) (by decide) (by first | omega | (simp [up, setR] <;> omega)) (by first | omega | (simp [up, setR] <;> omega)) dX12_corner_40 ?_
      refine TT_if_ne hK (tgt := 48) (irm (by omega) (by omega)) dX12_corner_41 (by decide) (fun hb41_6 => ?_) (fun hb41_6 => ?_)
      · refine TT_iload_n hK rfl 4 rfl dX12_corner_48 ?_
        refine TT_iload hK 1 rfl dX12_corner_49 ?_
        refine iv_X12_153 hK (s_left_x e (l - ((b - 1) / 3)) h hT (by first | omega | (simp [up, setR] <;> omega)) (by first | omega | (simp [up, setR] <;> omega))) ⟨by decide, by decide⟩ (by decide) rfl rfl (Nat.le_of_ble_eq_true rfl) ⟨by decide, by decide⟩ dX12_corner_51 ?_
        intro r9 g51_7 hp9
        obtain ⟨⟨hT_7, hG_7⟩, z51_7, hr9, hz_7, p1_7⟩ := hp9
        rw [hr9]
        have hF_7 : FRM [] [] h g51_7 := FRM_tr hF hG_7 (by decide) (by decide)
        show TT K ly 0 0 54 [(5, vI 0), (4, vI (l - ((b - 1) / 3))), (0, vI b), (1, vI w), (2, vI e), (3, vI l)] [vI z51_7] g51_7
        refine TT_istore hK (lv' := [(6, vI z51_7), (5, vI 0), (4, vI (l - ((b - 1) / 3))), (0, vI b), (1, vI w), (2, vI e), (3, vI l)]) (by decide) rfl dX12_corner_54 ?_
        refine TT_bipush hK (by decide) dX12_corner_56 ?_
        refine TT_iload hK 0 rfl dX12_corner_58 ?_
        refine TT_imul hK dX12_corner_60 ?_
        refine TT_iload hK 1 rfl dX12_corner_61 ?_
        refine TT_iadd hK dX12_corner_63 ?_
        refine TT_iret hK hQ ?_ dX12_corner_64
        exact ⟨⟨hT_7, hF_7⟩, ((8 * z51_7) + 0), rfl, (by omega), (by exact CRN_i (cx := 0) (cy := z51_7) hw he hl hb (by omega) (by unfold CX; first | rw [if_pos (by omega)] | (rw [if_neg (by omega), if_pos (by omega)]) | (rw [if_neg (by omega), if_neg (by omega)]; omega)) (by unfold CY; first | rw [if_pos (by omega)] | (rw [if_neg (by omega), if_pos (by omega)]) | (rw [if_neg (by omega), if_neg (by omega)]; omega)))⟩
      · refine TT_iconst hK dX12_corner_44 ?_
        refine TT_goto hK (tgt := 54) dX12_corner_45 (by decide) ?_
        refine TT_istore hK (lv' := [(6, vI 0), (5, vI 0), (4, vI (l - ((b - 1) / 3))), (0, vI b), (1, vI w), (2, vI e), (3, vI l)]) (by decide) rfl dX12_corner_54 ?_
        refine TT_bipush hK (by decide) dX12_corner_56 ?_
        refine TT_iload hK 0 rfl dX12_corner_58 ?_
        refine TT_imul hK dX12_corner_60 ?_
        refine TT_iload hK 1 rfl dX12_corner_61 ?_
        refine TT_iadd hK dX12_corner_63 ?_
        refine TT_iret hK hQ ?_ dX12_corner_64
        exact ⟨⟨hT, hF⟩, ((8 * 0) + 0), rfl, (by omega), (by exact CRN_i (cx := 0) (cy := 0) hw he hl hb (by omega) (by unfold CX; first | rw [if_pos (by omega)] | (rw [if_neg (by omega), if_pos (by omega)]) | (rw [if_neg (by omega), if_neg (by omega)]; omega)) (by unfold CY; first | rw [if_pos (by omega)] | (rw [if_neg (by omega), if_pos (by omega)]) | (rw [if_neg (by omega), if_neg (by omega)]; omega)))⟩
  · refine TT_iconst hK dX12_corner_4 ?_
    refine TT_iret hK hQ ?_ dX12_corner_5
    exact ⟨⟨hT, hF⟩, 0, rfl, (by omega), (by exact CRN_i (cx := 0) (cy := 0) hw he hl hb (by omega) (by unfold CX; first | rw [if_pos (by omega)] | (rw [if_neg (by omega), if_pos (by omega)]) | (rw [if_neg (by omega), if_neg (by omega)]; omega)) (by unfold CY; first | rw [if_pos (by omega)] | (rw [if_neg (by omega), if_pos (by omega)]) | (rw [if_neg (by omega), if_neg (by omega)]; omega)))⟩
set_option maxRecDepth 20000 in
theorem s_X12_loadBand_73 (b f : Int) (h : Hp_) (hT : TY h) (hb : 0 ≤ b ∧ b ≤ 9) (hfit : ∃ cx cy : Int, f = 8 * cy + cx ∧ 0 ≤ cx ∧ 0 ≤ cy ∧ cx + (h 80) b ≤ 8 ∧ cy + (h 81) b ≤ 8) (hsq : ∀ i : Int, 0 ≤ i → i < 64 → -4095 ≤ (h 77) i ∧ (h 77) i ≤ 4095) : Ctr yX12_loadBand cX12_loadBand 6 none (rmd 0) ly ly 0 0 [vR 73, vI b, vI f] h (fun r h' => (TY h' ∧ FRM [84, 85] [] h h') ∧ r = none) := by
  refine Ctr_of (by decide) (Nat.le_of_ble_eq_true rfl) ⟨Nat.le_refl _, Nat.le_refl _⟩ (fun K hK hQ _ => ?_)
  show TT K ly 0 0 0 [(0, vR 73), (1, vI b), (2, vI f)] [] h
  have hF : FRM [84, 85] [] h h := FRM_rf _ _ _
  obtain ⟨cx, cy, hf1, hf2, hf3, hf4, hf5⟩ := hfit
  refine TT_iconst hK dX12_loadBand_0 ?_
  refine TT_istore_n hK rfl (lv' := [(3, vI 0), (0, vR 73), (1, vI b), (2, vI f)]) (by decide) rfl dX12_loadBand_1 ?_
  have L2_1 : ∀ (k1 : Nat) (y : Int) (w2_1 : Hp_), TY w2_1 → FRM [84, 85] [] h w2_1 → (0 ≤ y ∧ y ≤ 8) → ((8 : Int) - y).toNat < k1 → TT K ly 0 0 2 [(0, vR 73), (1, vI b), (2, vI f), (3, vI y)] [] w2_1 := by
    intro k1
    induction k1 with
    | zero => intro y w2_1 hT2_1 hF2_1 hy hk1; exact absurd hk1 (Nat.not_lt_zero _)
    | succ k1 ih1 =>
      intro y w2_1 hT2_1 hF2_1 hy hk1
      refine TT_iload_n hK rfl 3 rfl dX12_loadBand_2 ?_
      refine TT_aload_n hK rfl 0 rfl dX12_loadBand_3 ?_
      refine gf_X12_38 hK (by decide) rfl (q := 81) rfl rfl dX12_loadBand_4 ?_
      refine TT_iload_n hK rfl 1 rfl dX12_loadBand_7 ?_
      refine TT_iald hK (o := 81) (n := 20) (by decide) rfl (by first | omega | (simp [up, setR] <;> omega)) (by first | omega | (simp [up, setR] <;> omega)) (v := (h 81) b) (rd_ (hF2_1.1 81 (by decide)) rfl) dX12_loadBand_8 ?_
      have r2 := ty_81 (i := b) (v := (h 81) b) hT2_1 (rd_ (hF2_1.1 81 (by decide)) rfl) (by omega) (by omega)
      refine TT_icmp_ge hK (tgt := 111) (irm (by omega) (by omega)) (irm (by omega) (by omega)) dX12_loadBand_9 (by decide) (fun hb9_3 => ?_) (fun hb9_3 => ?_)
      · refine TT_vret hK hQ ?_ dX12_loadBand_111
        exact ⟨⟨hT2_1, hF2_1⟩, rfl⟩
      · refine TT_iconst hK dX12_loadBand_12 ?_
        refine TT_istore hK (lv' := [(4, vI 0), (0, vR 73), (1, vI b), (2, vI f), (3, vI y)]) (by decide) rfl dX12_loadBand_13 ?_
        have L15_4 : ∀ (k4 : Nat) (x : Int) (w15_4 : Hp_), TY w15_4 → FRM [84, 85] [] h w15_4 → (0 ≤ x ∧ x ≤ 8) → ((8 : Int) - x).toNat < k4 → TT K ly 0 0 15 [(0, vR 73), (1, vI b), (2, vI f), (3, vI y), (4, vI x)] [] w15_4 := by
          intro k4
          induction k4 with
          | zero => intro x w15_4 hT15_4 hF15_4 hx hk4; exact absurd hk4 (Nat.not_lt_zero _)
          | succ k4 ih4 =>
            intro x w15_4 hT15_4 hF15_4 hx hk4
            refine TT_iload hK 4 rfl dX12_loadBand_15 ?_
            refine TT_aload_n hK rfl 0 rfl dX12_loadBand_17 ?_
            refine gf_X12_35 hK (by decide) rfl (q := 80) rfl rfl dX12_loadBand_18 ?_
            refine TT_iload_n hK rfl 1 rfl dX12_loadBand_21 ?_
            refine TT_iald hK (o := 80) (n := 20) (by decide) rfl (by first | omega | (simp [up, setR] <;> omega)) (by first | omega | (simp [up, setR] <;> omega)) (v := (h 80) b) (rd_ (hF15_4.1 80 (by decide)) rfl) dX12_loadBand_22 ?_
            have r5 := ty_80 (i := b) (v := (h 80) b) hT15_4 (rd_ (hF15_4.1 80 (by decide)) rfl) (by omega) (by omega)
            refine TT_icmp_ge hK (tgt := 105) (irm (by omega) (by omega)) (irm (by omega) (by omega)) dX12_loadBand_23 (by decide) (fun hb23_6 => ?_) (fun hb23_6 => ?_)
            · refine TT_iinc hK (v := y + 1) (lv' := [(3, vI (y + 1)), (0, vR 73), (1, vI b), (2, vI f), (4, vI x)]) 3 rfl rfl (by decide) rfl dX12_loadBand_105 ?_
              refine TT_goto hK (tgt := 2) dX12_loadBand_108 (by decide) ?_
              refine TT_sub [1, 2, 3, 0] rfl ?_
              exact ih1 (y + 1) w15_4 hT15_4 hF15_4 (by first | omega | (simp [up, setR] <;> omega)) (by first | omega | (simp [up, setR] <;> omega))
            · refine TT_aload_n hK rfl 0 rfl dX12_loadBand_26 ?_
              refine gf_X12_26 hK (by decide) rfl (q := 77) rfl rfl dX12_loadBand_27 ?_
              refine TT_iload_n hK rfl 2 rfl dX12_loadBand_30 ?_
              refine TT_bipush hK (by decide) dX12_loadBand_31 ?_
              refine TT_iload_n hK rfl 3 rfl dX12_loadBand_33 ?_
              refine TT_imul hK dX12_loadBand_34 ?_
              refine TT_iadd hK dX12_loadBand_35 ?_
              refine TT_iload hK 4 rfl dX12_loadBand_36 ?_
              refine TT_iadd hK dX12_loadBand_38 ?_
              refine TT_iald hK (o := 77) (n := 64) (by decide) rfl (by first | omega | (simp [up, setR] <;> omega)) (by first | omega | (simp [up, setR] <;> omega)) (v := (h 77) ((f + (8 * y)) + x)) (rd_ (hF15_4.1 77 (by decide)) rfl) dX12_loadBand_39 ?_
              have r7 := ty_77 (i := (f + (8 * y)) + x) (v := (h 77) ((f + (8 * y)) + x)) hT15_4 (rd_ (hF15_4.1 77 (by decide)) rfl) (by omega) (by omega)
              refine TT_istore hK (lv' := [(5, vI ((h 77) ((f + (8 * y)) + x))), (0, vR 73), (1, vI b), (2, vI f), (3, vI y), (4, vI x)]) (by decide) rfl dX12_loadBand_40 ?_
              have b1 := hsq (f + 8 * y + x) (by omega) (by omega)
              refine TT_aload_n hK rfl 1 rfl dX12_loadBand_42 ?_
              refine gf_X12_47 hK (by decide) rfl (q := 84) rfl rfl dX12_loadBand_43 ?_
              refine TT_bipush hK (by decide) dX12_loadBand_46 ?_
              refine TT_iload_n hK rfl 2 rfl dX12_loadBand_48 ?_
              refine TT_imul hK dX12_loadBand_49 ?_
              refine TT_bipush hK (by decide) dX12_loadBand_50 ?_
              refine TT_iload_n hK rfl 4 rfl dX12_loadBand_52 ?_
              refine TT_imul hK dX12_loadBand_53 ?_
              refine TT_iadd hK dX12_loadBand_54 ?_
              refine TT_iload hK 5 rfl dX12_loadBand_55 ?_
              refine TT_iadd hK dX12_loadBand_57 ?_
              refine TT_iload hK 0 rfl dX12_loadBand_58 ?_
              refine TT_if_ge hK (tgt := 69) (irm (by omega) (by omega)) dX12_loadBand_60 (by decide) (fun hb60_8 => ?_) (fun hb60_8 => ?_)
              · refine TT_iload hK 0 rfl dX12_loadBand_69 ?_
                refine TT_iast hK (o := 84) (n := 1280) (by decide) rfl (by omega) (by omega) dX12_loadBand_71 ?_
                refine TT_hp (h' := setO w15_4 84 (fup (w15_4 84) (((64 * b) + (8 * y)) + x) ((h 77) ((f + (8 * y)) + x)))) (up_can rfl rfl rfl) ?_
                have hT_9 : TY (setO w15_4 84 (fup (w15_4 84) (((64 * b) + (8 * y)) + x) ((h 77) ((f + (8 * y)) + x)))) := tu_84 hT15_4 (show up w15_4 84 (((64 * b) + (8 * y)) + x) ((h 77) ((f + (8 * y)) + x)) = (setO w15_4 84 (fup (w15_4 84) (((64 * b) + (8 * y)) + x) ((h 77) ((f + (8 * y)) + x)))) from up_can rfl rfl rfl) (by omega)
                have hF_9 : FRM [84, 85] [] h (setO w15_4 84 (fup (w15_4 84) (((64 * b) + (8 * y)) + x) ((h 77) ((f + (8 * y)) + x)))) := FRM_up (show up w15_4 84 (((64 * b) + (8 * y)) + x) ((h 77) ((f + (8 * y)) + x)) = (setO w15_4 84 (fup (w15_4 84) (((64 * b) + (8 * y)) + x) ((h 77) ((f + (8 * y)) + x)))) from up_can rfl rfl rfl) hF15_4 (by decide) (by decide)
                refine TT_aload_n hK rfl 1 rfl dX12_loadBand_72 ?_
                refine gf_X12_50 hK (by decide) rfl (q := 85) rfl rfl dX12_loadBand_73 ?_
                refine TT_bipush hK (by decide) dX12_loadBand_76 ?_
                refine TT_iload_n hK rfl 2 rfl dX12_loadBand_78 ?_
                refine TT_imul hK dX12_loadBand_79 ?_
                refine TT_bipush hK (by decide) dX12_loadBand_80 ?_
                refine TT_iload_n hK rfl 4 rfl dX12_loadBand_82 ?_
                refine TT_imul hK dX12_loadBand_83 ?_
                refine TT_iadd hK dX12_loadBand_84 ?_
                refine TT_iload hK 5 rfl dX12_loadBand_85 ?_
                refine TT_iadd hK dX12_loadBand_87 ?_
                refine TT_iload hK 0 rfl dX12_loadBand_88 ?_
                refine TT_if_ge hK (tgt := 97) (irm (by omega) (by omega)) dX12_loadBand_90 (by decide) (fun hb90_10 => ?_) (fun hb90_10 => ?_)
                · refine TT_iconst hK dX12_loadBand_97 ?_
                  refine TT_zast hK (o := 85) (n := 1280) (by decide) rfl (by omega) (by omega) (by first | decide | omega) dX12_loadBand_98 ?_
                  refine TT_hp (h' := setO (setO w15_4 84 (fup (w15_4 84) (((64 * b) + (8 * y)) + x) ((h 77) ((f + (8 * y)) + x)))) 85 (fup (w15_4 85) (((64 * b) + (8 * y)) + x) 0)) (up_can (sOf_ne _ _ (by decide)) rfl rfl) ?_
                  have hT_11 : TY (setO (setO w15_4 84 (fup (w15_4 84) (((64 * b) + (8 * y)) + x) ((h 77) ((f + (8 * y)) + x)))) 85 (fup (w15_4 85) (((64 * b) + (8 * y)) + x) 0)) := tu_85 hT_9 (show up (setO w15_4 84 (fup (w15_4 84) (((64 * b) + (8 * y)) + x) ((h 77) ((f + (8 * y)) + x)))) 85 (((64 * b) + (8 * y)) + x) 0 = (setO (setO w15_4 84 (fup (w15_4 84) (((64 * b) + (8 * y)) + x) ((h 77) ((f + (8 * y)) + x)))) 85 (fup (w15_4 85) (((64 * b) + (8 * y)) + x) 0)) from up_can (sOf_ne _ _ (by decide)) rfl rfl) (by omega)
                  have hF_11 : FRM [84, 85] [] h (setO (setO w15_4 84 (fup (w15_4 84) (((64 * b) + (8 * y)) + x) ((h 77) ((f + (8 * y)) + x)))) 85 (fup (w15_4 85) (((64 * b) + (8 * y)) + x) 0)) := FRM_up (show up (setO w15_4 84 (fup (w15_4 84) (((64 * b) + (8 * y)) + x) ((h 77) ((f + (8 * y)) + x)))) 85 (((64 * b) + (8 * y)) + x) 0 = (setO (setO w15_4 84 (fup (w15_4 84) (((64 * b) + (8 * y)) + x) ((h 77) ((f + (8 * y)) + x)))) 85 (fup (w15_4 85) (((64 * b) + (8 * y)) + x) 0)) from up_can (sOf_ne _ _ (by decide)) rfl rfl) hF_9 (by decide) (by decide)
                  refine TT_iinc hK (v := x + 1) (lv' := [(4, vI (x + 1)), (5, vI ((h 77) ((f + (8 * y)) + x))), (0, vR 73), (1, vI b), (2, vI f), (3, vI y)]) 5 rfl rfl (by decide) rfl dX12_loadBand_99 ?_
                  refine TT_goto hK (tgt := 15) dX12_loadBand_102 (by decide) ?_
                  refine TT_sub [2, 3, 4, 5, 0] rfl ?_
                  exact ih4 (x + 1) (setO (setO w15_4 84 (fup (w15_4 84) (((64 * b) + (8 * y)) + x) ((h 77) ((f + (8 * y)) + x)))) 85 (fup (w15_4 85) (((64 * b) + (8 * y)) + x) 0)) hT_11 hF_11 (by first | omega | (simp [up, setR] <;> omega)) (by first | omega | (simp [up, setR] <;> omega))
                · exfalso; omega
              · refine TT_iload hK 0 rfl dX12_loadBand_63 ?_
                refine TT_ineg hK dX12_loadBand_65 ?_
                refine TT_goto hK (tgt := 71) dX12_loadBand_66 (by decide) ?_
                refine TT_iast hK (o := 84) (n := 1280) (by decide) rfl (by omega) (by omega) dX12_loadBand_71 ?_
                refine TT_hp (h' := setO w15_4 84 (fup (w15_4 84) (((64 * b) + (8 * y)) + x) (-((h 77) ((f + (8 * y)) + x))))) (up_can rfl rfl rfl) ?_
                have hT_12 : TY (setO w15_4 84 (fup (w15_4 84) (((64 * b) + (8 * y)) + x) (-((h 77) ((f + (8 * y)) + x))))) := tu_84 hT15_4 (show up w15_4 84 (((64 * b) + (8 * y)) + x) (-((h 77) ((f + (8 * y)) + x))) = (setO w15_4 84 (fup (w15_4 84) (((64 * b) + (8 * y)) + x) (-((h 77) ((f + (8 * y)) + x))))) from up_can rfl rfl rfl) (by omega)
                have hF_12 : FRM [84, 85] [] h (setO w15_4 84 (fup (w15_4 84) (((64 * b) + (8 * y)) + x) (-((h 77) ((f + (8 * y)) + x))))) := FRM_up (show up w15_4 84 (((64 * b) + (8 * y)) + x) (-((h 77) ((f + (8 * y)) + x))) = (setO w15_4 84 (fup (w15_4 84) (((64 * b) + (8 * y)) + x) (-((h 77) ((f + (8 * y)) + x))))) from up_can rfl rfl rfl) hF15_4 (by decide) (by decide)
                refine TT_aload_n hK rfl 1 rfl dX12_loadBand_72 ?_
                refine gf_X12_50 hK (by decide) rfl (q := 85) rfl rfl dX12_loadBand_73 ?_
                refine TT_bipush hK (by decide) dX12_loadBand_76 ?_
                refine TT_iload_n hK rfl 2 rfl dX12_loadBand_78 ?_
                refine TT_imul hK dX12_loadBand_79 ?_
                refine TT_bipush hK (by decide) dX12_loadBand_80 ?_
                refine TT_iload_n hK rfl 4 rfl dX12_loadBand_82 ?_
                refine TT_imul hK dX12_loadBand_83 ?_
                refine TT_iadd hK dX12_loadBand_84 ?_
                refine TT_iload hK 5 rfl dX12_loadBand_85 ?_
                refine TT_iadd hK dX12_loadBand_87 ?_
                refine TT_iload hK 0 rfl dX12_loadBand_88 ?_
                refine TT_if_ge hK (tgt := 97) (irm (by omega) (by omega)) dX12_loadBand_90 (by decide) (fun hb90_13 => ?_) (fun hb90_13 => ?_)
                · exfalso; omega
                · refine TT_iconst hK dX12_loadBand_93 ?_
                  refine TT_goto hK (tgt := 98) dX12_loadBand_94 (by decide) ?_
                  refine TT_zast hK (o := 85) (n := 1280) (by decide) rfl (by omega) (by omega) (by first | decide | omega) dX12_loadBand_98 ?_
                  refine TT_hp (h' := setO (setO w15_4 84 (fup (w15_4 84) (((64 * b) + (8 * y)) + x) (-((h 77) ((f + (8 * y)) + x))))) 85 (fup (w15_4 85) (((64 * b) + (8 * y)) + x) 1)) (up_can (sOf_ne _ _ (by decide)) rfl rfl) ?_
                  have hT_14 : TY (setO (setO w15_4 84 (fup (w15_4 84) (((64 * b) + (8 * y)) + x) (-((h 77) ((f + (8 * y)) + x))))) 85 (fup (w15_4 85) (((64 * b) + (8 * y)) + x) 1)) := tu_85 hT_12 (show up (setO w15_4 84 (fup (w15_4 84) (((64 * b) + (8 * y)) + x) (-((h 77) ((f + (8 * y)) + x))))) 85 (((64 * b) + (8 * y)) + x) 1 = (setO (setO w15_4 84 (fup (w15_4 84) (((64 * b) + (8 * y)) + x) (-((h 77) ((f + (8 * y)) + x))))) 85 (fup (w15_4 85) (((64 * b) + (8 * y)) + x) 1)) from up_can (sOf_ne _ _ (by decide)) rfl rfl) (by omega)
                  have hF_14 : FRM [84, 85] [] h (setO (setO w15_4 84 (fup (w15_4 84) (((64 * b) + (8 * y)) + x) (-((h 77) ((f + (8 * y)) + x))))) 85 (fup (w15_4 85) (((64 * b) + (8 * y)) + x) 1)) := FRM_up (show up (setO w15_4 84 (fup (w15_4 84) (((64 * b) + (8 * y)) + x) (-((h 77) ((f + (8 * y)) + x))))) 85 (((64 * b) + (8 * y)) + x) 1 = (setO (setO w15_4 84 (fup (w15_4 84) (((64 * b) + (8 * y)) + x) (-((h 77) ((f + (8 * y)) + x))))) 85 (fup (w15_4 85) (((64 * b) + (8 * y)) + x) 1)) from up_can (sOf_ne _ _ (by decide)) rfl rfl) hF_12 (by decide) (by decide)
                  refine TT_iinc hK (v := x + 1) (lv' := [(4, vI (x + 1)), (5, vI ((h 77) ((f + (8 * y)) + x))), (0, vR 73), (1, vI b), (2, vI f), (3, vI y)]) 5 rfl rfl (by decide) rfl dX12_loadBand_99 ?_
                  refine TT_goto hK (tgt := 15) dX12_loadBand_102 (by decide) ?_
                  refine TT_sub [2, 3, 4, 5, 0] rfl ?_
                  exact ih4 (x + 1) (setO (setO w15_4 84 (fup (w15_4 84) (((64 * b) + (8 * y)) + x) (-((h 77) ((f + (8 * y)) + x))))) 85 (fup (w15_4 85) (((64 * b) + (8 * y)) + x) 1)) hT_14 hF_14 (by first | omega | (simp [up, setR] <;> omega)) (by first | omega | (simp [up, setR] <;> omega))
        refine TT_sub [1, 2, 3, 4, 0] rfl ?_
        exact L15_4 ((((8 : Int) - 0).toNat) + 1) 0 w2_1 hT2_1 hF2_1 (by first | omega | (simp [up, setR] <;> omega)) (Nat.lt_succ_self _)
  refine TT_sub [1, 2, 3, 0] rfl ?_
  exact L2_1 ((((8 : Int) - 0).toNat) + 1) 0 h hT hF (by first | omega | (simp [up, setR] <;> omega)) (Nat.lt_succ_self _)
set_option maxRecDepth 20000 in
theorem s_X12_unloadBand_73 (b f : Int) (h : Hp_) (hT : TY h) (hb : 0 ≤ b ∧ b ≤ 9) (hfit : ∃ cx cy : Int, f = 8 * cy + cx ∧ 0 ≤ cx ∧ 0 ≤ cy ∧ cx + (h 80) (10 + b) ≤ 8 ∧ cy + (h 81) (10 + b) ≤ 8) : Ctr yX12_unloadBand cX12_unloadBand 6 none (rmd 0) ly ly 0 0 [vR 73, vI b, vI f] h (fun r h' => (TY h' ∧ FRM [77] [] h h') ∧ r = none) := by
  refine Ctr_of (by decide) (Nat.le_of_ble_eq_true rfl) ⟨Nat.le_refl _, Nat.le_refl _⟩ (fun K hK hQ _ => ?_)
  show TT K ly 0 0 0 [(0, vR 73), (1, vI b), (2, vI f)] [] h
  have hF : FRM [77] [] h h := FRM_rf _ _ _
  obtain ⟨cx, cy, hf1, hf2, hf3, hf4, hf5⟩ := hfit
  refine TT_iconst hK dX12_unloadBand_0 ?_
  refine TT_istore_n hK rfl (lv' := [(3, vI 0), (0, vR 73), (1, vI b), (2, vI f)]) (by decide) rfl dX12_unloadBand_1 ?_
  have L2_1 : ∀ (k1 : Nat) (y : Int) (w2_1 : Hp_), TY w2_1 → FRM [77] [] h w2_1 → (0 ≤ y ∧ y ≤ 8) → ((8 : Int) - y).toNat < k1 → TT K ly 0 0 2 [(0, vR 73), (1, vI b), (2, vI f), (3, vI y)] [] w2_1 := by
    intro k1
    induction k1 with
    | zero => intro y w2_1 hT2_1 hF2_1 hy hk1; exact absurd hk1 (Nat.not_lt_zero _)
    | succ k1 ih1 =>
      intro y w2_1 hT2_1 hF2_1 hy hk1
      refine TT_iload_n hK rfl 3 rfl dX12_unloadBand_2 ?_
      refine TT_aload_n hK rfl 0 rfl dX12_unloadBand_3 ?_
      refine gf_X12_38 hK (by decide) rfl (q := 81) rfl rfl dX12_unloadBand_4 ?_
      refine TT_bipush hK (by decide) dX12_unloadBand_7 ?_
      refine TT_iload_n hK rfl 1 rfl dX12_unloadBand_9 ?_
      refine TT_iadd hK dX12_unloadBand_10 ?_
      refine TT_iald hK (o := 81) (n := 20) (by decide) rfl (by first | omega | (simp [up, setR] <;> omega)) (by first | omega | (simp [up, setR] <;> omega)) (v := (h 81) (10 + b)) (rd_ (hF2_1.1 81 (by decide)) rfl) dX12_unloadBand_11 ?_
      have r2 := ty_81 (i := 10 + b) (v := (h 81) (10 + b)) hT2_1 (rd_ (hF2_1.1 81 (by decide)) rfl) (by omega) (by omega)
      refine TT_icmp_ge hK (tgt := 104) (irm (by omega) (by omega)) (irm (by omega) (by omega)) dX12_unloadBand_12 (by decide) (fun hb12_3 => ?_) (fun hb12_3 => ?_)
      · refine TT_vret hK hQ ?_ dX12_unloadBand_104
        exact ⟨⟨hT2_1, hF2_1⟩, rfl⟩
      · refine TT_iconst hK dX12_unloadBand_15 ?_
        refine TT_istore hK (lv' := [(4, vI 0), (0, vR 73), (1, vI b), (2, vI f), (3, vI y)]) (by decide) rfl dX12_unloadBand_16 ?_
        have L18_4 : ∀ (k4 : Nat) (x : Int) (w18_4 : Hp_), TY w18_4 → FRM [77] [] h w18_4 → (0 ≤ x ∧ x ≤ 8) → ((8 : Int) - x).toNat < k4 → TT K ly 0 0 18 [(0, vR 73), (1, vI b), (2, vI f), (3, vI y), (4, vI x)] [] w18_4 := by
          intro k4
          induction k4 with
          | zero => intro x w18_4 hT18_4 hF18_4 hx hk4; exact absurd hk4 (Nat.not_lt_zero _)
          | succ k4 ih4 =>
            intro x w18_4 hT18_4 hF18_4 hx hk4
            refine TT_iload hK 4 rfl dX12_unloadBand_18 ?_
            refine TT_aload_n hK rfl 0 rfl dX12_unloadBand_20 ?_
            refine gf_X12_35 hK (by decide) rfl (q := 80) rfl rfl dX12_unloadBand_21 ?_
            refine TT_bipush hK (by decide) dX12_unloadBand_24 ?_
            refine TT_iload_n hK rfl 1 rfl dX12_unloadBand_26 ?_
            refine TT_iadd hK dX12_unloadBand_27 ?_
            refine TT_iald hK (o := 80) (n := 20) (by decide) rfl (by first | omega | (simp [up, setR] <;> omega)) (by first | omega | (simp [up, setR] <;> omega)) (v := (h 80) (10 + b)) (rd_ (hF18_4.1 80 (by decide)) rfl) dX12_unloadBand_28 ?_
            have r5 := ty_80 (i := 10 + b) (v := (h 80) (10 + b)) hT18_4 (rd_ (hF18_4.1 80 (by decide)) rfl) (by omega) (by omega)
            refine TT_icmp_ge hK (tgt := 98) (irm (by omega) (by omega)) (irm (by omega) (by omega)) dX12_unloadBand_29 (by decide) (fun hb29_6 => ?_) (fun hb29_6 => ?_)
            · refine TT_iinc hK (v := y + 1) (lv' := [(3, vI (y + 1)), (0, vR 73), (1, vI b), (2, vI f), (4, vI x)]) 3 rfl rfl (by decide) rfl dX12_unloadBand_98 ?_
              refine TT_goto hK (tgt := 2) dX12_unloadBand_101 (by decide) ?_
              refine TT_sub [1, 2, 3, 0] rfl ?_
              exact ih1 (y + 1) w18_4 hT18_4 hF18_4 (by first | omega | (simp [up, setR] <;> omega)) (by first | omega | (simp [up, setR] <;> omega))
            · refine TT_sipush hK (by decide) dX12_unloadBand_32 ?_
              refine TT_bipush hK (by decide) dX12_unloadBand_35 ?_
              refine TT_iload_n hK rfl 1 rfl dX12_unloadBand_37 ?_
              refine TT_imul hK dX12_unloadBand_38 ?_
              refine TT_iadd hK dX12_unloadBand_39 ?_
              refine TT_bipush hK (by decide) dX12_unloadBand_40 ?_
              refine TT_iload_n hK rfl 3 rfl dX12_unloadBand_42 ?_
              refine TT_imul hK dX12_unloadBand_43 ?_
              refine TT_iadd hK dX12_unloadBand_44 ?_
              refine TT_iload hK 4 rfl dX12_unloadBand_45 ?_
              refine TT_iadd hK dX12_unloadBand_47 ?_
              refine TT_istore hK (lv' := [(5, vI (((640 + (64 * b)) + (8 * y)) + x)), (0, vR 73), (1, vI b), (2, vI f), (3, vI y), (4, vI x)]) (by decide) rfl dX12_unloadBand_48 ?_
              refine TT_aload_n hK rfl 1 rfl dX12_unloadBand_50 ?_
              refine gf_X12_26 hK (by decide) rfl (q := 77) rfl rfl dX12_unloadBand_51 ?_
              refine TT_iload_n hK rfl 3 rfl dX12_unloadBand_54 ?_
              refine TT_bipush hK (by decide) dX12_unloadBand_55 ?_
              refine TT_iload_n hK rfl 4 rfl dX12_unloadBand_57 ?_
              refine TT_imul hK dX12_unloadBand_58 ?_
              refine TT_iadd hK dX12_unloadBand_59 ?_
              refine TT_iload hK 5 rfl dX12_unloadBand_60 ?_
              refine TT_iadd hK dX12_unloadBand_62 ?_
              refine TT_aload_n hK rfl 1 rfl dX12_unloadBand_63 ?_
              refine gf_X12_50 hK (by decide) rfl (q := 85) rfl rfl dX12_unloadBand_64 ?_
              refine TT_iload hK 0 rfl dX12_unloadBand_67 ?_
              refine TT_zald hK (o := 85) (n := 1280) (by decide) rfl (by first | omega | (simp [up, setR] <;> omega)) (by first | omega | (simp [up, setR] <;> omega)) (v := (h 85) (((640 + (64 * b)) + (8 * y)) + x)) (rd_ (hF18_4.1 85 (by decide)) rfl) dX12_unloadBand_69 ?_
              have r7 := ty_85 (i := ((640 + (64 * b)) + (8 * y)) + x) (v := (h 85) (((640 + (64 * b)) + (8 * y)) + x)) hT18_4 (rd_ (hF18_4.1 85 (by decide)) rfl) (by omega) (by omega)
              refine TT_if_eq hK (tgt := 84) (irm (by omega) (by omega)) dX12_unloadBand_70 (by decide) (fun hb70_8 => ?_) (fun hb70_8 => ?_)
              · refine TT_aload_n hK rfl 1 rfl dX12_unloadBand_84 ?_
                refine gf_X12_47 hK (by decide) rfl (q := 84) rfl rfl dX12_unloadBand_85 ?_
                refine TT_iload hK 0 rfl dX12_unloadBand_88 ?_
                refine TT_iald hK (o := 84) (n := 1280) (by decide) rfl (by first | omega | (simp [up, setR] <;> omega)) (by first | omega | (simp [up, setR] <;> omega)) (v := (h 84) (((640 + (64 * b)) + (8 * y)) + x)) (rd_ (hF18_4.1 84 (by decide)) rfl) dX12_unloadBand_90 ?_
                have r9 := ty_84 (i := ((640 + (64 * b)) + (8 * y)) + x) (v := (h 84) (((640 + (64 * b)) + (8 * y)) + x)) hT18_4 (rd_ (hF18_4.1 84 (by decide)) rfl) (by omega) (by omega)
                refine TT_iast hK (o := 77) (n := 64) (by decide) rfl (by omega) (by omega) dX12_unloadBand_91 ?_
                refine TT_hp (h' := setO w18_4 77 (fup (w18_4 77) ((f + (8 * y)) + x) ((h 84) (((640 + (64 * b)) + (8 * y)) + x)))) (up_can rfl rfl rfl) ?_
                have hT_10 : TY (setO w18_4 77 (fup (w18_4 77) ((f + (8 * y)) + x) ((h 84) (((640 + (64 * b)) + (8 * y)) + x)))) := tu_77 hT18_4 (show up w18_4 77 ((f + (8 * y)) + x) ((h 84) (((640 + (64 * b)) + (8 * y)) + x)) = (setO w18_4 77 (fup (w18_4 77) ((f + (8 * y)) + x) ((h 84) (((640 + (64 * b)) + (8 * y)) + x)))) from up_can rfl rfl rfl) (by omega)
                have hF_10 : FRM [77] [] h (setO w18_4 77 (fup (w18_4 77) ((f + (8 * y)) + x) ((h 84) (((640 + (64 * b)) + (8 * y)) + x)))) := FRM_up (show up w18_4 77 ((f + (8 * y)) + x) ((h 84) (((640 + (64 * b)) + (8 * y)) + x)) = (setO w18_4 77 (fup (w18_4 77) ((f + (8 * y)) + x) ((h 84) (((640 + (64 * b)) + (8 * y)) + x)))) from up_can rfl rfl rfl) hF18_4 (by decide) (by decide)
                refine TT_iinc hK (v := x + 1) (lv' := [(4, vI (x + 1)), (5, vI (((640 + (64 * b)) + (8 * y)) + x)), (0, vR 73), (1, vI b), (2, vI f), (3, vI y)]) 5 rfl rfl (by decide) rfl dX12_unloadBand_92 ?_
                refine TT_goto hK (tgt := 18) dX12_unloadBand_95 (by decide) ?_
                refine TT_sub [2, 3, 4, 5, 0] rfl ?_
                exact ih4 (x + 1) (setO w18_4 77 (fup (w18_4 77) ((f + (8 * y)) + x) ((h 84) (((640 + (64 * b)) + (8 * y)) + x)))) hT_10 hF_10 (by first | omega | (simp [up, setR] <;> omega)) (by first | omega | (simp [up, setR] <;> omega))
              · refine TT_aload_n hK rfl 1 rfl dX12_unloadBand_73 ?_
                refine gf_X12_47 hK (by decide) rfl (q := 84) rfl rfl dX12_unloadBand_74 ?_
                refine TT_iload hK 0 rfl dX12_unloadBand_77 ?_
                refine TT_iald hK (o := 84) (n := 1280) (by decide) rfl (by first | omega | (simp [up, setR] <;> omega)) (by first | omega | (simp [up, setR] <;> omega)) (v := (h 84) (((640 + (64 * b)) + (8 * y)) + x)) (rd_ (hF18_4.1 84 (by decide)) rfl) dX12_unloadBand_79 ?_
                have r11 := ty_84 (i := ((640 + (64 * b)) + (8 * y)) + x) (v := (h 84) (((640 + (64 * b)) + (8 * y)) + x)) hT18_4 (rd_ (hF18_4.1 84 (by decide)) rfl) (by omega) (by omega)
                refine TT_ineg hK dX12_unloadBand_80 ?_
                refine TT_w32 (fun x81_12 hx12 => ?_)
                refine TT_goto hK (tgt := 91) dX12_unloadBand_81 (by decide) ?_
                refine TT_iast hK (o := 77) (n := 64) (by decide) rfl (by omega) (by omega) dX12_unloadBand_91 ?_
                refine TT_hp (h' := setO w18_4 77 (fup (w18_4 77) ((f + (8 * y)) + x) x81_12)) (up_can rfl rfl rfl) ?_
                have hT_13 : TY (setO w18_4 77 (fup (w18_4 77) ((f + (8 * y)) + x) x81_12)) := tu_77 hT18_4 (show up w18_4 77 ((f + (8 * y)) + x) x81_12 = (setO w18_4 77 (fup (w18_4 77) ((f + (8 * y)) + x) x81_12)) from up_can rfl rfl rfl) (by omega)
                have hF_13 : FRM [77] [] h (setO w18_4 77 (fup (w18_4 77) ((f + (8 * y)) + x) x81_12)) := FRM_up (show up w18_4 77 ((f + (8 * y)) + x) x81_12 = (setO w18_4 77 (fup (w18_4 77) ((f + (8 * y)) + x) x81_12)) from up_can rfl rfl rfl) hF18_4 (by decide) (by decide)
                refine TT_iinc hK (v := x + 1) (lv' := [(4, vI (x + 1)), (5, vI (((640 + (64 * b)) + (8 * y)) + x)), (0, vR 73), (1, vI b), (2, vI f), (3, vI y)]) 5 rfl rfl (by decide) rfl dX12_unloadBand_92 ?_
                refine TT_goto hK (tgt := 18) dX12_unloadBand_95 (by decide) ?_
                refine TT_sub [2, 3, 4, 5, 0] rfl ?_
                exact ih4 (x + 1) (setO w18_4 77 (fup (w18_4 77) ((f + (8 * y)) + x) x81_12)) hT_13 hF_13 (by first | omega | (simp [up, setR] <;> omega)) (by first | omega | (simp [up, setR] <;> omega))
        refine TT_sub [1, 2, 3, 4, 0] rfl ?_
        exact L18_4 ((((8 : Int) - 0).toNat) + 1) 0 w2_1 hT2_1 hF2_1 (by first | omega | (simp [up, setR] <;> omega)) (Nat.lt_succ_self _)
  refine TT_sub [1, 2, 3, 0] rfl ?_
  exact L2_1 ((((8 : Int) - 0).toNat) + 1) 0 h hT hF (by first | omega | (simp [up, setR] <;> omega)) (Nat.lt_succ_self _)

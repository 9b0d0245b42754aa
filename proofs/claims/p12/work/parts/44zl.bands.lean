theorem KDs {f r : Int} {g : Int → Int} (hr : 1 ≤ r) (hg : ∀ j : Int, 0 ≤ j → j < 3 * (r - 1) + 1 → g (f + j) = kdB j) : ∀ j : Int, 0 ≤ j → j < 3 * (r + 1 - 1) + 1 → fup (fup (fup g (f + 3 * r - 2) 1) (f + 3 * r - 1) 0) (f + 3 * r) 2 (f + j) = kdB j := by
  intro j h1 h2
  by_cases c1 : j = 3 * r
  · rw [show f + j = f + 3 * r by omega, fup_eq]
    unfold kdB
    rw [if_neg (by omega), if_neg (by omega), if_neg (by omega)]
  · rw [fup_ne _ _ (by omega)]
    by_cases c2 : j = 3 * r - 1
    · rw [show f + j = f + 3 * r - 1 by omega, fup_eq]
      unfold kdB
      rw [if_neg (by omega), if_neg (by omega), if_pos (by omega)]
    · rw [fup_ne _ _ (by omega)]
      by_cases c3 : j = 3 * r - 2
      · rw [show f + j = f + 3 * r - 2 by omega, fup_eq]
        unfold kdB
        rw [if_neg (by omega), if_pos (by omega)]
      · rw [fup_ne _ _ (by omega)]
        exact hg j h1 (by omega)
theorem CWR_c {M B B' : Int → Int} {s : TS_} {w g kd q n : Int} (h : CWR M s w g kd q B n) (hB : ∀ i : Int, 0 ≤ i → i < n → B' i = B i) : CWR M s w g kd q B' n := by
  refine ⟨h.1, fun hq => ?_⟩
  obtain ⟨E, hE, h1, h2⟩ := h.2 hq
  exact ⟨E, hE, h1, fun j j1 j2 => by rw [hB _ (by omega) (by omega)]; exact h2 j j1 j2⟩
def NBE (W H : Int) (f : Int → Int) (l c : Int) : Int → Int → Int := fun x y => LE W H f l (8 * CY H l c + CX W l c + 8 * y + x)
/-- the words of the bands so far -/
def CWQ (Mf : Int → Int → Int) (sf : Int → TS_) (W H : Int) (f : Int → Int) (l n : Int) (pl wd wa wz : Int → Int) : Prop := ∀ c : Int, 0 ≤ c → c < n → CWR (Mf c) (sf c) (BW W l c) (BH H l c) (kdB c) (pl c) (fun i => wd (wa c + i)) (wz c) ∧ PLN (NBE W H f l c) (BW W l c) (BH H l c) (pl c)
theorem CWQ_s {Mf : Int → Int → Int} {sf : Int → TS_} {W H l b F : Int} {f pl pl' wd wd' wa wz wz' : Int → Int} (h : CWQ Mf sf W H f l b pl wd wa wz) (hpl : ∀ j : Int, j ≠ b → pl' j = pl j) (hwz : ∀ j : Int, j ≠ b → wz' j = wz j) (hwd : ∀ j : Int, j < F → wd' j = wd j) (hF : ∀ c : Int, 0 ≤ c → c < b → wa c + wz c ≤ F)
    (h1 : CWR (Mf b) (sf b) (BW W l b) (BH H l b) (kdB b) (pl' b) (fun i => wd' (F + i)) (wz' b)) (h2 : PLN (NBE W H f l b) (BW W l b) (BH H l b) (pl' b)) : CWQ Mf sf W H f l (b + 1) pl' wd' (fup wa b F) wz' := by
  intro c c1 c2
  by_cases e : c = b
  · subst e
    rw [fup_eq]
    exact ⟨h1, h2⟩
  · have k := h c c1 (by omega)
    have kF := hF c c1 (by omega)
    rw [fup_ne _ _ e, hpl c e, hwz c e]
    exact ⟨CWR_c k.1 (fun i i1 i2 => hwd _ (by omega)), k.2⟩
set_option maxRecDepth 20000 in
theorem s_beBand_z (b w e k : Int) (h : Hp_) (hT : TY h) (hb : 0 ≤ b ∧ b ≤ 19) (hw : 0 ≤ w ∧ w ≤ 8) (he : 0 ≤ e ∧ e ≤ 8) (hk : 0 ≤ k ∧ k ≤ 2) : Ctr yX12_beBand cX12_beBand 6 none (rmd 0) ly ly 0 0 [vR 73, vI b, vI w, vI e, vI k] h (fun r h' => (TY h' ∧ FRM [80, 81, 82, 83, 84, 85, 86, 87, 88] [] h h') ∧ r = none ∧ ((h' 80) = fup (h 80) b w) ∧ ((h' 81) = fup (h 81) b e) ∧ ((h' 86) = fup (h 86) b 0) ∧ (∀ j : Int, j < 64 * b ∨ 64 * b + 64 ≤ j → (h' 84) j = (h 84) j ∧ (h' 85) j = (h 85) j) ∧ ((h' 82) = fup (h 82) b k) ∧ (∀ q : Int, 64 * b ≤ q → q < 64 * b + 64 → (h' 84) q = 0) ∧ ((h' 83) = fup (h 83) b 0)) := by
  refine Ctr_of (by decide) (Nat.le_of_ble_eq_true rfl) ⟨Nat.le_refl _, Nat.le_refl _⟩ (fun K hK hQ _ => ?_)
  show TT K ly 0 0 0 [(0, vR 73), (1, vI b), (2, vI w), (3, vI e), (4, vI k)] [] h
  have hF : FRM [80, 81, 82, 83, 84, 85, 86, 87, 88] [] h h := FRM_rf _ _ _
  refine TT_aload_n hK rfl 0 rfl dX12_beBand_0 ?_
  refine gf_X12_35 hK (by decide) rfl (q := 80) rfl rfl dX12_beBand_1 ?_
  refine TT_iload_n hK rfl 1 rfl dX12_beBand_4 ?_
  refine TT_iload_n hK rfl 2 rfl dX12_beBand_5 ?_
  refine TT_iast hK (o := 80) (n := 20) (by decide) rfl (by omega) (by omega) dX12_beBand_6 ?_
  refine TT_hp (h' := setO h 80 (fup (h 80) b w)) (up_can rfl rfl rfl) ?_
  have hT_1 : TY (setO h 80 (fup (h 80) b w)) := tu_80 hT (show up h 80 b w = (setO h 80 (fup (h 80) b w)) from up_can rfl rfl rfl) (by omega)
  have hF_1 : FRM [80, 81, 82, 83, 84, 85, 86, 87, 88] [] h (setO h 80 (fup (h 80) b w)) := FRM_up (show up h 80 b w = (setO h 80 (fup (h 80) b w)) from up_can rfl rfl rfl) hF (by decide) (by decide)
  refine TT_aload_n hK rfl 0 rfl dX12_beBand_7 ?_
  refine gf_X12_38 hK (by decide) rfl (q := 81) rfl rfl dX12_beBand_8 ?_
  refine TT_iload_n hK rfl 1 rfl dX12_beBand_11 ?_
  refine TT_iload_n hK rfl 3 rfl dX12_beBand_12 ?_
  refine TT_iast hK (o := 81) (n := 20) (by decide) rfl (by omega) (by omega) dX12_beBand_13 ?_
  refine TT_hp (h' := setO (setO h 80 (fup (h 80) b w)) 81 (fup (h 81) b e)) (up_can (sOf_ne _ _ (by decide)) rfl rfl) ?_
  have hT_2 : TY (setO (setO h 80 (fup (h 80) b w)) 81 (fup (h 81) b e)) := tu_81 hT_1 (show up (setO h 80 (fup (h 80) b w)) 81 b e = (setO (setO h 80 (fup (h 80) b w)) 81 (fup (h 81) b e)) from up_can (sOf_ne _ _ (by decide)) rfl rfl) (by omega)
  have hF_2 : FRM [80, 81, 82, 83, 84, 85, 86, 87, 88] [] h (setO (setO h 80 (fup (h 80) b w)) 81 (fup (h 81) b e)) := FRM_up (show up (setO h 80 (fup (h 80) b w)) 81 b e = (setO (setO h 80 (fup (h 80) b w)) 81 (fup (h 81) b e)) from up_can (sOf_ne _ _ (by decide)) rfl rfl) hF_1 (by decide) (by decide)
  refine TT_aload_n hK rfl 0 rfl dX12_beBand_14 ?_
  refine gf_X12_41 hK (by decide) rfl (q := 82) rfl rfl dX12_beBand_15 ?_
  refine TT_iload_n hK rfl 1 rfl dX12_beBand_18 ?_
  refine TT_iload hK 4 rfl dX12_beBand_19 ?_
  refine TT_iast hK (o := 82) (n := 20) (by decide) rfl (by omega) (by omega) dX12_beBand_21 ?_
  refine TT_hp (h' := setO (setO (setO h 80 (fup (h 80) b w)) 81 (fup (h 81) b e)) 82 (fup (h 82) b k)) (up_can ((sOf_ne _ _ (by decide)).trans (sOf_ne _ _ (by decide))) rfl rfl) ?_
  have hT_3 : TY (setO (setO (setO h 80 (fup (h 80) b w)) 81 (fup (h 81) b e)) 82 (fup (h 82) b k)) := tu_82 hT_2 (show up (setO (setO h 80 (fup (h 80) b w)) 81 (fup (h 81) b e)) 82 b k = (setO (setO (setO h 80 (fup (h 80) b w)) 81 (fup (h 81) b e)) 82 (fup (h 82) b k)) from up_can ((sOf_ne _ _ (by decide)).trans (sOf_ne _ _ (by decide))) rfl rfl) (by omega)
  have hF_3 : FRM [80, 81, 82, 83, 84, 85, 86, 87, 88] [] h (setO (setO (setO h 80 (fup (h 80) b w)) 81 (fup (h 81) b e)) 82 (fup (h 82) b k)) := FRM_up (show up (setO (setO h 80 (fup (h 80) b w)) 81 (fup (h 81) b e)) 82 b k = (setO (setO (setO h 80 (fup (h 80) b w)) 81 (fup (h 81) b e)) 82 (fup (h 82) b k)) from up_can ((sOf_ne _ _ (by decide)).trans (sOf_ne _ _ (by decide))) rfl rfl) hF_2 (by decide) (by decide)
  refine TT_aload_n hK rfl 0 rfl dX12_beBand_22 ?_
  refine gf_X12_44 hK (by decide) rfl (q := 83) rfl rfl dX12_beBand_23 ?_
  refine TT_iload_n hK rfl 1 rfl dX12_beBand_26 ?_
  refine TT_iconst hK dX12_beBand_27 ?_
  refine TT_iast hK (o := 83) (n := 20) (by decide) rfl (by omega) (by omega) dX12_beBand_28 ?_
  refine TT_hp (h' := setO (setO (setO (setO h 80 (fup (h 80) b w)) 81 (fup (h 81) b e)) 82 (fup (h 82) b k)) 83 (fup (h 83) b 0)) (up_can ((sOf_ne _ _ (by decide)).trans ((sOf_ne _ _ (by decide)).trans (sOf_ne _ _ (by decide)))) rfl rfl) ?_
  have hT_4 : TY (setO (setO (setO (setO h 80 (fup (h 80) b w)) 81 (fup (h 81) b e)) 82 (fup (h 82) b k)) 83 (fup (h 83) b 0)) := tu_83 hT_3 (show up (setO (setO (setO h 80 (fup (h 80) b w)) 81 (fup (h 81) b e)) 82 (fup (h 82) b k)) 83 b 0 = (setO (setO (setO (setO h 80 (fup (h 80) b w)) 81 (fup (h 81) b e)) 82 (fup (h 82) b k)) 83 (fup (h 83) b 0)) from up_can ((sOf_ne _ _ (by decide)).trans ((sOf_ne _ _ (by decide)).trans (sOf_ne _ _ (by decide)))) rfl rfl) (by omega)
  have hF_4 : FRM [80, 81, 82, 83, 84, 85, 86, 87, 88] [] h (setO (setO (setO (setO h 80 (fup (h 80) b w)) 81 (fup (h 81) b e)) 82 (fup (h 82) b k)) 83 (fup (h 83) b 0)) := FRM_up (show up (setO (setO (setO h 80 (fup (h 80) b w)) 81 (fup (h 81) b e)) 82 (fup (h 82) b k)) 83 b 0 = (setO (setO (setO (setO h 80 (fup (h 80) b w)) 81 (fup (h 81) b e)) 82 (fup (h 82) b k)) 83 (fup (h 83) b 0)) from up_can ((sOf_ne _ _ (by decide)).trans ((sOf_ne _ _ (by decide)).trans (sOf_ne _ _ (by decide)))) rfl rfl) hF_3 (by decide) (by decide)
  refine TT_aload_n hK rfl 0 rfl dX12_beBand_29 ?_
  refine gf_X12_54 hK (by decide) rfl (q := 86) rfl rfl dX12_beBand_30 ?_
  refine TT_iload_n hK rfl 1 rfl dX12_beBand_33 ?_
  refine TT_iconst hK dX12_beBand_34 ?_
  refine TT_iast hK (o := 86) (n := 20) (by decide) rfl (by omega) (by omega) dX12_beBand_35 ?_
  refine TT_hp (h' := setO (setO (setO (setO (setO h 80 (fup (h 80) b w)) 81 (fup (h 81) b e)) 82 (fup (h 82) b k)) 83 (fup (h 83) b 0)) 86 (fup (h 86) b 0)) (up_can ((sOf_ne _ _ (by decide)).trans ((sOf_ne _ _ (by decide)).trans ((sOf_ne _ _ (by decide)).trans (sOf_ne _ _ (by decide))))) rfl rfl) ?_
  have hT_5 : TY (setO (setO (setO (setO (setO h 80 (fup (h 80) b w)) 81 (fup (h 81) b e)) 82 (fup (h 82) b k)) 83 (fup (h 83) b 0)) 86 (fup (h 86) b 0)) := tu_86 hT_4 (show up (setO (setO (setO (setO h 80 (fup (h 80) b w)) 81 (fup (h 81) b e)) 82 (fup (h 82) b k)) 83 (fup (h 83) b 0)) 86 b 0 = (setO (setO (setO (setO (setO h 80 (fup (h 80) b w)) 81 (fup (h 81) b e)) 82 (fup (h 82) b k)) 83 (fup (h 83) b 0)) 86 (fup (h 86) b 0)) from up_can ((sOf_ne _ _ (by decide)).trans ((sOf_ne _ _ (by decide)).trans ((sOf_ne _ _ (by decide)).trans (sOf_ne _ _ (by decide))))) rfl rfl) (by omega)
  have hF_5 : FRM [80, 81, 82, 83, 84, 85, 86, 87, 88] [] h (setO (setO (setO (setO (setO h 80 (fup (h 80) b w)) 81 (fup (h 81) b e)) 82 (fup (h 82) b k)) 83 (fup (h 83) b 0)) 86 (fup (h 86) b 0)) := FRM_up (show up (setO (setO (setO (setO h 80 (fup (h 80) b w)) 81 (fup (h 81) b e)) 82 (fup (h 82) b k)) 83 (fup (h 83) b 0)) 86 b 0 = (setO (setO (setO (setO (setO h 80 (fup (h 80) b w)) 81 (fup (h 81) b e)) 82 (fup (h 82) b k)) 83 (fup (h 83) b 0)) 86 (fup (h 86) b 0)) from up_can ((sOf_ne _ _ (by decide)).trans ((sOf_ne _ _ (by decide)).trans ((sOf_ne _ _ (by decide)).trans (sOf_ne _ _ (by decide))))) rfl rfl) hF_4 (by decide) (by decide)
  refine TT_aload_n hK rfl 0 rfl dX12_beBand_36 ?_
  refine gf_X12_57 hK (by decide) rfl (q := 87) rfl rfl dX12_beBand_37 ?_
  refine TT_iload_n hK rfl 1 rfl dX12_beBand_40 ?_
  refine TT_iconst hK dX12_beBand_41 ?_
  refine TT_iast hK (o := 87) (n := 20) (by decide) rfl (by omega) (by omega) dX12_beBand_42 ?_
  refine TT_hp (h' := setO (setO (setO (setO (setO (setO h 80 (fup (h 80) b w)) 81 (fup (h 81) b e)) 82 (fup (h 82) b k)) 83 (fup (h 83) b 0)) 86 (fup (h 86) b 0)) 87 (fup (h 87) b 0)) (up_can ((sOf_ne _ _ (by decide)).trans ((sOf_ne _ _ (by decide)).trans ((sOf_ne _ _ (by decide)).trans ((sOf_ne _ _ (by decide)).trans (sOf_ne _ _ (by decide)))))) rfl rfl) ?_
  have hT_6 : TY (setO (setO (setO (setO (setO (setO h 80 (fup (h 80) b w)) 81 (fup (h 81) b e)) 82 (fup (h 82) b k)) 83 (fup (h 83) b 0)) 86 (fup (h 86) b 0)) 87 (fup (h 87) b 0)) := tu_87 hT_5 (show up (setO (setO (setO (setO (setO h 80 (fup (h 80) b w)) 81 (fup (h 81) b e)) 82 (fup (h 82) b k)) 83 (fup (h 83) b 0)) 86 (fup (h 86) b 0)) 87 b 0 = (setO (setO (setO (setO (setO (setO h 80 (fup (h 80) b w)) 81 (fup (h 81) b e)) 82 (fup (h 82) b k)) 83 (fup (h 83) b 0)) 86 (fup (h 86) b 0)) 87 (fup (h 87) b 0)) from up_can ((sOf_ne _ _ (by decide)).trans ((sOf_ne _ _ (by decide)).trans ((sOf_ne _ _ (by decide)).trans ((sOf_ne _ _ (by decide)).trans (sOf_ne _ _ (by decide)))))) rfl rfl) (by omega)
  have hF_6 : FRM [80, 81, 82, 83, 84, 85, 86, 87, 88] [] h (setO (setO (setO (setO (setO (setO h 80 (fup (h 80) b w)) 81 (fup (h 81) b e)) 82 (fup (h 82) b k)) 83 (fup (h 83) b 0)) 86 (fup (h 86) b 0)) 87 (fup (h 87) b 0)) := FRM_up (show up (setO (setO (setO (setO (setO h 80 (fup (h 80) b w)) 81 (fup (h 81) b e)) 82 (fup (h 82) b k)) 83 (fup (h 83) b 0)) 86 (fup (h 86) b 0)) 87 b 0 = (setO (setO (setO (setO (setO (setO h 80 (fup (h 80) b w)) 81 (fup (h 81) b e)) 82 (fup (h 82) b k)) 83 (fup (h 83) b 0)) 86 (fup (h 86) b 0)) 87 (fup (h 87) b 0)) from up_can ((sOf_ne _ _ (by decide)).trans ((sOf_ne _ _ (by decide)).trans ((sOf_ne _ _ (by decide)).trans ((sOf_ne _ _ (by decide)).trans (sOf_ne _ _ (by decide)))))) rfl rfl) hF_5 (by decide) (by decide)
  refine TT_aload_n hK rfl 0 rfl dX12_beBand_43 ?_
  refine gf_X12_60 hK (by decide) rfl (q := 88) rfl rfl dX12_beBand_44 ?_
  refine TT_iload_n hK rfl 1 rfl dX12_beBand_47 ?_
  refine TT_iconst hK dX12_beBand_48 ?_
  refine TT_iast hK (o := 88) (n := 20) (by decide) rfl (by omega) (by omega) dX12_beBand_49 ?_
  refine TT_hp (h' := setO (setO (setO (setO (setO (setO (setO h 80 (fup (h 80) b w)) 81 (fup (h 81) b e)) 82 (fup (h 82) b k)) 83 (fup (h 83) b 0)) 86 (fup (h 86) b 0)) 87 (fup (h 87) b 0)) 88 (fup (h 88) b 3)) (up_can ((sOf_ne _ _ (by decide)).trans ((sOf_ne _ _ (by decide)).trans ((sOf_ne _ _ (by decide)).trans ((sOf_ne _ _ (by decide)).trans ((sOf_ne _ _ (by decide)).trans (sOf_ne _ _ (by decide))))))) rfl rfl) ?_
  have hT_7 : TY (setO (setO (setO (setO (setO (setO (setO h 80 (fup (h 80) b w)) 81 (fup (h 81) b e)) 82 (fup (h 82) b k)) 83 (fup (h 83) b 0)) 86 (fup (h 86) b 0)) 87 (fup (h 87) b 0)) 88 (fup (h 88) b 3)) := tu_88 hT_6 (show up (setO (setO (setO (setO (setO (setO h 80 (fup (h 80) b w)) 81 (fup (h 81) b e)) 82 (fup (h 82) b k)) 83 (fup (h 83) b 0)) 86 (fup (h 86) b 0)) 87 (fup (h 87) b 0)) 88 b 3 = (setO (setO (setO (setO (setO (setO (setO h 80 (fup (h 80) b w)) 81 (fup (h 81) b e)) 82 (fup (h 82) b k)) 83 (fup (h 83) b 0)) 86 (fup (h 86) b 0)) 87 (fup (h 87) b 0)) 88 (fup (h 88) b 3)) from up_can ((sOf_ne _ _ (by decide)).trans ((sOf_ne _ _ (by decide)).trans ((sOf_ne _ _ (by decide)).trans ((sOf_ne _ _ (by decide)).trans ((sOf_ne _ _ (by decide)).trans (sOf_ne _ _ (by decide))))))) rfl rfl) (by omega)
  have hF_7 : FRM [80, 81, 82, 83, 84, 85, 86, 87, 88] [] h (setO (setO (setO (setO (setO (setO (setO h 80 (fup (h 80) b w)) 81 (fup (h 81) b e)) 82 (fup (h 82) b k)) 83 (fup (h 83) b 0)) 86 (fup (h 86) b 0)) 87 (fup (h 87) b 0)) 88 (fup (h 88) b 3)) := FRM_up (show up (setO (setO (setO (setO (setO (setO h 80 (fup (h 80) b w)) 81 (fup (h 81) b e)) 82 (fup (h 82) b k)) 83 (fup (h 83) b 0)) 86 (fup (h 86) b 0)) 87 (fup (h 87) b 0)) 88 b 3 = (setO (setO (setO (setO (setO (setO (setO h 80 (fup (h 80) b w)) 81 (fup (h 81) b e)) 82 (fup (h 82) b k)) 83 (fup (h 83) b 0)) 86 (fup (h 86) b 0)) 87 (fup (h 87) b 0)) 88 (fup (h 88) b 3)) from up_can ((sOf_ne _ _ (by decide)).trans ((sOf_ne _ _ (by decide)).trans ((sOf_ne _ _ (by decide)).trans ((sOf_ne _ _ (by decide)).trans ((sOf_ne _ _ (by decide)).trans (sOf_ne _ _ (by decide))))))) rfl rfl) hF_6 (by decide) (by decide)
  refine TT_bipush hK (by decide) dX12_beBand_50 ?_
  refine TT_iload_n hK rfl 1 rfl dX12_beBand_52 ?_
  refine TT_imul hK dX12_beBand_53 ?_
  refine TT_istore hK (lv' := [(5, vI (64 * b)), (0, vR 73), (1, vI b), (2, vI w), (3, vI e), (4, vI k)]) (by decide) rfl dX12_beBand_54 ?_
  have L56_8 : ∀ (k8 : Nat) (j : Int) (w56_8 : Hp_), TY w56_8 → FRM [80, 81, 82, 83, 84, 85, 86, 87, 88] [] h w56_8 → (64 * b ≤ j ∧ j ≤ 64 * b + 64) → ((w56_8 80) = fup (h 80) b w) → ((w56_8 81) = fup (h 81) b e) → ((w56_8 86) = fup (h 86) b 0) → (∀ j : Int, j < 64 * b ∨ 64 * b + 64 ≤ j → (w56_8 84) j = h 84 j ∧ (w56_8 85) j = h 85 j) → ((w56_8 82) = fup (h 82) b k) → ((w56_8 83) = fup (h 83) b 0) → (∀ q : Int, 64 * b ≤ q → q < j → (w56_8 84) q = 0) → (64 * b + 64 - j).toNat < k8 → TT K ly 0 0 56 [(0, vR 73), (1, vI b), (2, vI w), (3, vI e), (4, vI k), (5, vI j)] [] w56_8 := by
    intro k8
    induction k8 with
    | zero => intro j w56_8 hT56_8 hF56_8 hj h80 h81 h86 ho h82 h83 hz4 hk8; exact absurd hk8 (Nat.not_lt_zero _)
    | succ k8 ih8 =>
      intro j w56_8 hT56_8 hF56_8 hj h80 h81 h86 ho h82 h83 hz4 hk8
      refine TT_iload hK 5 rfl dX12_beBand_56 ?_
      refine TT_bipush hK (by decide) dX12_beBand_58 ?_
      refine TT_iload_n hK rfl 1 rfl dX12_beBand_60 ?_
      refine TT_imul hK dX12_beBand_61 ?_
      refine TT_bipush hK (by decide) dX12_beBand_62 ?_
      refine TT_iadd hK dX12_beBand_64 ?_
      refine TT_icmp_ge hK (tgt := 90) (irm (by omega) (by omega)) (irm (by omega) (by omega)) dX12_beBand_65 (by decide) (fun hb65_9 => ?_) (fun hb65_9 => ?_)
      · refine TT_vret hK hQ ?_ dX12_beBand_90
        exact ⟨⟨hT56_8, hF56_8⟩, rfl, (by exact h80), (by exact h81), (by exact h86), (by exact ho), (by exact h82), (by intro q g1 g2; exact hz4 q g1 (by omega)), (by exact h83)⟩
      · refine TT_aload_n hK rfl 0 rfl dX12_beBand_68 ?_
        refine gf_X12_47 hK (by decide) rfl (q := 84) rfl rfl dX12_beBand_69 ?_
        refine TT_iload hK 5 rfl dX12_beBand_72 ?_
        refine TT_iconst hK dX12_beBand_74 ?_
        refine TT_iast hK (o := 84) (n := 1280) (by decide) rfl (by omega) (by omega) dX12_beBand_75 ?_
        refine TT_hp (h' := setO w56_8 84 (fup (w56_8 84) j 0)) (up_can rfl rfl rfl) ?_
        have hT_10 : TY (setO w56_8 84 (fup (w56_8 84) j 0)) := tu_84 hT56_8 (show up w56_8 84 j 0 = (setO w56_8 84 (fup (w56_8 84) j 0)) from up_can rfl rfl rfl) (by omega)
        have hF_10 : FRM [80, 81, 82, 83, 84, 85, 86, 87, 88] [] h (setO w56_8 84 (fup (w56_8 84) j 0)) := FRM_up (show up w56_8 84 j 0 = (setO w56_8 84 (fup (w56_8 84) j 0)) from up_can rfl rfl rfl) hF56_8 (by decide) (by decide)
        refine TT_aload_n hK rfl 0 rfl dX12_beBand_76 ?_
        refine gf_X12_50 hK (by decide) rfl (q := 85) rfl rfl dX12_beBand_77 ?_
        refine TT_iload hK 5 rfl dX12_beBand_80 ?_
        refine TT_iconst hK dX12_beBand_82 ?_
        refine TT_zast hK (o := 85) (n := 1280) (by decide) rfl (by omega) (by omega) (by first | decide | omega) dX12_beBand_83 ?_
        refine TT_hp (h' := setO (setO w56_8 84 (fup (w56_8 84) j 0)) 85 (fup (w56_8 85) j 0)) (up_can (sOf_ne _ _ (by decide)) rfl rfl) ?_
        have hT_11 : TY (setO (setO w56_8 84 (fup (w56_8 84) j 0)) 85 (fup (w56_8 85) j 0)) := tu_85 hT_10 (show up (setO w56_8 84 (fup (w56_8 84) j 0)) 85 j 0 = (setO (setO w56_8 84 (fup (w56_8 84) j 0)) 85 (fup (w56_8 85) j 0)) from up_can (sOf_ne _ _ (by decide)) rfl rfl) (by omega)
        have hF_11 : FRM [80, 81, 82, 83, 84, 85, 86, 87, 88] [] h (setO (setO w56_8 84 (fup (w56_8 84) j 0)) 85 (fup (w56_8 85) j 0)) := FRM_up (show up (setO w56_8 84 (fup (w56_8 84) j 0)) 85 j 0 = (setO (setO w56_8 84 (fup (w56_8 84) j 0)) 85 (fup (w56_8 85) j 0)) from up_can (sOf_ne _ _ (by decide)) rfl rfl) hF_10 (by decide) (by decide)
        refine TT_iinc hK (v := j + 1) (lv' := [(5, vI (j + 1)), (0, vR 73), (1, vI b), (2, vI w), (3, vI e), (4, vI k)]) 5 rfl rfl (by decide) rfl dX12_beBand_84 ?_
        refine TT_goto hK (tgt := 56) dX12_beBand_87 (by decide) ?_
        refine TT_sub [1, 2, 3, 4, 5, 0] rfl ?_
        have e12_80 : (setO (setO w56_8 84 (fup (w56_8 84) j 0)) 85 (fup (w56_8 85) j 0)) 80 = w56_8 80 := (sOf_ne _ _ (by decide)).trans (sOf_ne _ _ (by decide))
        have e13_81 : (setO (setO w56_8 84 (fup (w56_8 84) j 0)) 85 (fup (w56_8 85) j 0)) 81 = w56_8 81 := (sOf_ne _ _ (by decide)).trans (sOf_ne _ _ (by decide))
        have e14_86 : (setO (setO w56_8 84 (fup (w56_8 84) j 0)) 85 (fup (w56_8 85) j 0)) 86 = w56_8 86 := (sOf_ne _ _ (by decide)).trans (sOf_ne _ _ (by decide))
        have e15_84 : (setO (setO w56_8 84 (fup (w56_8 84) j 0)) 85 (fup (w56_8 85) j 0)) 84 = fup (w56_8 84) j 0 := (sOf_ne _ _ (by decide)).trans (sOf_eq _ _ _)
        have e16_85 : (setO (setO w56_8 84 (fup (w56_8 84) j 0)) 85 (fup (w56_8 85) j 0)) 85 = fup (w56_8 85) j 0 := sOf_eq _ _ _
        have e17_82 : (setO (setO w56_8 84 (fup (w56_8 84) j 0)) 85 (fup (w56_8 85) j 0)) 82 = w56_8 82 := (sOf_ne _ _ (by decide)).trans (sOf_ne _ _ (by decide))
        have e18_83 : (setO (setO w56_8 84 (fup (w56_8 84) j 0)) 85 (fup (w56_8 85) j 0)) 83 = w56_8 83 := (sOf_ne _ _ (by decide)).trans (sOf_ne _ _ (by decide))
        have e19_84 : (setO (setO w56_8 84 (fup (w56_8 84) j 0)) 85 (fup (w56_8 85) j 0)) 84 = fup (w56_8 84) j 0 := (sOf_ne _ _ (by decide)).trans (sOf_eq _ _ _)
        exact ih8 (j + 1) (setO (setO w56_8 84 (fup (w56_8 84) j 0)) 85 (fup (w56_8 85) j 0)) hT_11 hF_11 (by first | omega | (simp [up, setR] <;> omega)) (by rewrite [e12_80]; first | assumption | exact h80) (by rewrite [e13_81]; first | assumption | exact h81) (by rewrite [e14_86]; first | assumption | exact h86) (by rewrite [e15_84, e16_85]; intro q hq; rw [fup_ne _ _ (by omega), fup_ne _ _ (by omega)]; exact ho q hq) (by rewrite [e17_82]; first | assumption | exact h82) (by rewrite [e18_83]; first | assumption | exact h83) (by rewrite [e19_84]; intro q g1 g2; by_cases e : q = j; (rw [e, fup_eq]); (rw [fup_ne _ _ e]; exact hz4 q g1 (by omega))) (by first | omega | (simp [up, setR] <;> omega))
  refine TT_sub [1, 2, 3, 4, 5, 0] rfl ?_
  have e20_80 : (setO (setO (setO (setO (setO (setO (setO h 80 (fup (h 80) b w)) 81 (fup (h 81) b e)) 82 (fup (h 82) b k)) 83 (fup (h 83) b 0)) 86 (fup (h 86) b 0)) 87 (fup (h 87) b 0)) 88 (fup (h 88) b 3)) 80 = fup (h 80) b w := (sOf_ne _ _ (by decide)).trans ((sOf_ne _ _ (by decide)).trans ((sOf_ne _ _ (by decide)).trans ((sOf_ne _ _ (by decide)).trans ((sOf_ne _ _ (by decide)).trans ((sOf_ne _ _ (by decide)).trans (sOf_eq _ _ _))))))
  have e21_81 : (setO (setO (setO (setO (setO (setO (setO h 80 (fup (h 80) b w)) 81 (fup (h 81) b e)) 82 (fup (h 82) b k)) 83 (fup (h 83) b 0)) 86 (fup (h 86) b 0)) 87 (fup (h 87) b 0)) 88 (fup (h 88) b 3)) 81 = fup (h 81) b e := (sOf_ne _ _ (by decide)).trans ((sOf_ne _ _ (by decide)).trans ((sOf_ne _ _ (by decide)).trans ((sOf_ne _ _ (by decide)).trans ((sOf_ne _ _ (by decide)).trans (sOf_eq _ _ _)))))
  have e22_86 : (setO (setO (setO (setO (setO (setO (setO h 80 (fup (h 80) b w)) 81 (fup (h 81) b e)) 82 (fup (h 82) b k)) 83 (fup (h 83) b 0)) 86 (fup (h 86) b 0)) 87 (fup (h 87) b 0)) 88 (fup (h 88) b 3)) 86 = fup (h 86) b 0 := (sOf_ne _ _ (by decide)).trans ((sOf_ne _ _ (by decide)).trans (sOf_eq _ _ _))
  have e23_84 : (setO (setO (setO (setO (setO (setO (setO h 80 (fup (h 80) b w)) 81 (fup (h 81) b e)) 82 (fup (h 82) b k)) 83 (fup (h 83) b 0)) 86 (fup (h 86) b 0)) 87 (fup (h 87) b 0)) 88 (fup (h 88) b 3)) 84 = h 84 := (sOf_ne _ _ (by decide)).trans ((sOf_ne _ _ (by decide)).trans ((sOf_ne _ _ (by decide)).trans ((sOf_ne _ _ (by decide)).trans ((sOf_ne _ _ (by decide)).trans ((sOf_ne _ _ (by decide)).trans (sOf_ne _ _ (by decide)))))))
  have e24_85 : (setO (setO (setO (setO (setO (setO (setO h 80 (fup (h 80) b w)) 81 (fup (h 81) b e)) 82 (fup (h 82) b k)) 83 (fup (h 83) b 0)) 86 (fup (h 86) b 0)) 87 (fup (h 87) b 0)) 88 (fup (h 88) b 3)) 85 = h 85 := (sOf_ne _ _ (by decide)).trans ((sOf_ne _ _ (by decide)).trans ((sOf_ne _ _ (by decide)).trans ((sOf_ne _ _ (by decide)).trans ((sOf_ne _ _ (by decide)).trans ((sOf_ne _ _ (by decide)).trans (sOf_ne _ _ (by decide)))))))
  have e25_82 : (setO (setO (setO (setO (setO (setO (setO h 80 (fup (h 80) b w)) 81 (fup (h 81) b e)) 82 (fup (h 82) b k)) 83 (fup (h 83) b 0)) 86 (fup (h 86) b 0)) 87 (fup (h 87) b 0)) 88 (fup (h 88) b 3)) 82 = fup (h 82) b k := (sOf_ne _ _ (by decide)).trans ((sOf_ne _ _ (by decide)).trans ((sOf_ne _ _ (by decide)).trans ((sOf_ne _ _ (by decide)).trans (sOf_eq _ _ _))))
  have e26_83 : (setO (setO (setO (setO (setO (setO (setO h 80 (fup (h 80) b w)) 81 (fup (h 81) b e)) 82 (fup (h 82) b k)) 83 (fup (h 83) b 0)) 86 (fup (h 86) b 0)) 87 (fup (h 87) b 0)) 88 (fup (h 88) b 3)) 83 = fup (h 83) b 0 := (sOf_ne _ _ (by decide)).trans ((sOf_ne _ _ (by decide)).trans ((sOf_ne _ _ (by decide)).trans (sOf_eq _ _ _)))
  have e27_84 : (setO (setO (setO (setO (setO (setO (setO h 80 (fup (h 80) b w)) 81 (fup (h 81) b e)) 82 (fup (h 82) b k)) 83 (fup (h 83) b 0)) 86 (fup (h 86) b 0)) 87 (fup (h 87) b 0)) 88 (fup (h 88) b 3)) 84 = h 84 := (sOf_ne _ _ (by decide)).trans ((sOf_ne _ _ (by decide)).trans ((sOf_ne _ _ (by decide)).trans ((sOf_ne _ _ (by decide)).trans ((sOf_ne _ _ (by decide)).trans ((sOf_ne _ _ (by decide)).trans (sOf_ne _ _ (by decide)))))))
  exact L56_8 (((64 * b + 64 - (64 * b)).toNat) + 1) (64 * b) (setO (setO (setO (setO (setO (setO (setO h 80 (fup (h 80) b w)) 81 (fup (h 81) b e)) 82 (fup (h 82) b k)) 83 (fup (h 83) b 0)) 86 (fup (h 86) b 0)) 87 (fup (h 87) b 0)) 88 (fup (h 88) b 3)) hT_7 hF_7 (by first | omega | (simp [up, setR] <;> omega)) (by rewrite [e20_80]; rfl) (by rewrite [e21_81]; rfl) (by rewrite [e22_86]; rfl) (by rewrite [e23_84, e24_85]; (intro j hj; exact ⟨rfl, rfl⟩)) (by rewrite [e25_82]; rfl) (by rewrite [e26_83]; rfl) (by rewrite [e27_84]; intro q g1 g2; exfalso; omega) (Nat.lt_succ_self _)
set_option maxRecDepth 20000 in
theorem s_beBands_z (f w e l : Int) (h : Hp_) (hT : TY h) (hf : f = 0 ∨ f = 10) (hw : 0 ≤ w ∧ w ≤ 8) (he : 0 ≤ e ∧ e ≤ 8) (hl : 0 ≤ l ∧ l ≤ 3) : Ctr yX12_beBands cX12_beBands 11 none (rmd 1) ly ly 0 0 [vR 73, vI f, vI w, vI e, vI l] h (fun r h' => (TY h' ∧ FRM [80, 81, 82, 83, 84, 85, 86, 87, 88] [] h h') ∧ r = none ∧ (∀ j : Int, 0 ≤ j → j < 3 * l + 1 → (h' 80) (f + j) = BW w l j) ∧ (∀ j : Int, 0 ≤ j → j < 3 * l + 1 → (h' 81) (f + j) = BH e l j) ∧ (∀ j : Int, 0 ≤ j → j < 3 * l + 1 → (h' 86) (f + j) = 0) ∧ (f = 10 → (∀ q : Int, q < 10 → (h' 80) q = (h 80) q ∧ (h' 81) q = (h 81) q) ∧ (∀ j : Int, j < 640 → (h' 84) j = (h 84) j ∧ (h' 85) j = (h 85) j)) ∧ (∀ j : Int, 0 ≤ j → j < 3 * l + 1 → (h' 82) (f + j) = kdB j) ∧ (f = 0 → ∀ j : Int, 0 ≤ j → j < 64 * (3 * l + 1) → (h' 84) j = 0) ∧ (f = 10 → ∀ q : Int, q < 10 → (h' 83) q = (h 83) q)) := by
  refine Ctr_of (by decide) (Nat.le_of_ble_eq_true rfl) ⟨Nat.le_refl _, Nat.le_refl _⟩ (fun K hK hQ _ => ?_)
  show TT K ly 0 0 0 [(0, vR 73), (1, vI f), (2, vI w), (3, vI e), (4, vI l)] [] h
  have hF : FRM [80, 81, 82, 83, 84, 85, 86, 87, 88] [] h h := FRM_rf _ _ _
  refine TT_aload_n hK rfl 0 rfl dX12_beBands_0 ?_
  refine TT_iload_n hK rfl 1 rfl dX12_beBands_1 ?_
  refine TT_iload_n hK rfl 2 rfl dX12_beBands_2 ?_
  refine TT_iload hK 4 rfl dX12_beBands_3 ?_
  refine iv_X12_153 hK (s_left_x w l h hT (by first | omega | (simp [up, setR] <;> omega)) (by first | omega | (simp [up, setR] <;> omega))) ⟨by decide, by decide⟩ (by decide) rfl rfl (Nat.le_of_ble_eq_true rfl) ⟨by decide, by decide⟩ dX12_beBands_5 ?_
  intro r9 g5_1 hp9
  obtain ⟨⟨hT_1, hG_1⟩, z5_1, hr9, hz_1, p1_1⟩ := hp9
  rw [hr9]
  have hF_1 : FRM [80, 81, 82, 83, 84, 85, 86, 87, 88] [] h g5_1 := FRM_tr hF hG_1 (by decide) (by decide)
  show TT K ly 0 0 8 [(0, vR 73), (1, vI f), (2, vI w), (3, vI e), (4, vI l)] [vI z5_1, vI f, vR 73] g5_1
  refine TT_iload_n hK rfl 3 rfl dX12_beBands_8 ?_
  refine TT_iload hK 4 rfl dX12_beBands_9 ?_
  refine iv_X12_153 hK (s_left_x e l g5_1 hT_1 (by first | omega | (simp [up, setR] <;> omega)) (by first | omega | (simp [up, setR] <;> omega))) ⟨by decide, by decide⟩ (by decide) rfl rfl (Nat.le_of_ble_eq_true rfl) ⟨by decide, by decide⟩ dX12_beBands_11 ?_
  intro r9 g11_2 hp9
  obtain ⟨⟨hT_2, hG_2⟩, z11_2, hr9, hz_2, p1_2⟩ := hp9
  rw [hr9]
  have hF_2 : FRM [80, 81, 82, 83, 84, 85, 86, 87, 88] [] h g11_2 := FRM_tr hF_1 hG_2 (by decide) (by decide)
  show TT K ly 0 0 14 [(0, vR 73), (1, vI f), (2, vI w), (3, vI e), (4, vI l)] [vI z11_2, vI z5_1, vI f, vR 73] g11_2
  refine TT_iconst hK dX12_beBands_14 ?_
  refine iv_X12_156 hK (s_beBand_z f z5_1 z11_2 0 g11_2 hT_2 (by first | omega | (simp [up, setR] <;> omega)) (by first | omega | (simp [up, setR] <;> omega)) (by first | omega | (simp [up, setR] <;> omega)) (by first | omega | (simp [up, setR] <;> omega))) (by decide) rfl ⟨by decide, by decide⟩ (by decide) rfl rfl (Nat.le_of_ble_eq_true rfl) ⟨by decide, by decide⟩ dX12_beBands_15 ?_
  intro r9 g15_3 hp9
  obtain ⟨⟨hT_3, hG_3⟩, hr9, q1_3, q2_3, q3_3, q5_3, q4_3, q6_3, q9_3⟩ := hp9
  rw [hr9]
  have hF_3 : FRM [80, 81, 82, 83, 84, 85, 86, 87, 88] [] h g15_3 := FRM_tr hF_2 hG_3 (by decide) (by decide)
  rw [show g11_2 80 = h 80 from ((hG_2.1 80 (by decide))).trans (hG_1.1 80 (by decide))] at q1_3
  rw [show g11_2 81 = h 81 from ((hG_2.1 81 (by decide))).trans (hG_1.1 81 (by decide))] at q2_3
  rw [show g11_2 86 = h 86 from ((hG_2.1 86 (by decide))).trans (hG_1.1 86 (by decide))] at q3_3
  rw [show g11_2 84 = h 84 from ((hG_2.1 84 (by decide))).trans (hG_1.1 84 (by decide))] at q5_3
  rw [show g11_2 85 = h 85 from ((hG_2.1 85 (by decide))).trans (hG_1.1 85 (by decide))] at q5_3
  rw [show g11_2 82 = h 82 from ((hG_2.1 82 (by decide))).trans (hG_1.1 82 (by decide))] at q4_3
  rw [show g11_2 83 = h 83 from ((hG_2.1 83 (by decide))).trans (hG_1.1 83 (by decide))] at q9_3
  have q1_at15 := q1_3
  have q2_at15 := q2_3
  have q3_at15 := q3_3
  have q5_at15 := q5_3
  have q4_at15 := q4_3
  have q6_at15 := q6_3
  have q9_at15 := q9_3
  show TT K ly 0 0 18 [(0, vR 73), (1, vI f), (2, vI w), (3, vI e), (4, vI l)] [] g15_3
  refine TT_iconst hK dX12_beBands_18 ?_
  refine TT_istore hK (lv' := [(5, vI 1), (0, vR 73), (1, vI f), (2, vI w), (3, vI e), (4, vI l)]) (by decide) rfl dX12_beBands_19 ?_
  have L21_4 : ∀ (k4 : Nat) (r : Int) (w21_4 : Hp_), TY w21_4 → FRM [80, 81, 82, 83, 84, 85, 86, 87, 88] [] h w21_4 → (1 ≤ r ∧ r ≤ l + 1) → (∀ j : Int, 0 ≤ j → j < 3 * (r - 1) + 1 → (w21_4 80) (f + j) = BW w l j) → (∀ j : Int, 0 ≤ j → j < 3 * (r - 1) + 1 → (w21_4 81) (f + j) = BH e l j) → (∀ j : Int, 0 ≤ j → j < 3 * (r - 1) + 1 → (w21_4 86) (f + j) = 0) → (f = 10 → (∀ q : Int, q < 10 → (w21_4 80) q = h 80 q ∧ (w21_4 81) q = h 81 q) ∧ (∀ j : Int, j < 640 → (w21_4 84) j = h 84 j ∧ (w21_4 85) j = h 85 j)) → (f = 10 → ∀ q : Int, q < 10 → (w21_4 83) q = h 83 q) → (∀ j : Int, 0 ≤ j → j < 3 * (r - 1) + 1 → (w21_4 82) (f + j) = kdB j) → (f = 0 → ∀ j : Int, 0 ≤ j → j < 64 * (3 * (r - 1) + 1) → (w21_4 84) j = 0) → ((4 : Int) - r).toNat < k4 → TT K ly 0 0 21 [(0, vR 73), (1, vI f), (2, vI w), (3, vI e), (4, vI l), (5, vI r)] [] w21_4 := by
    intro k4
    induction k4 with
    | zero => intro r w21_4 hT21_4 hF21_4 hr hbw hbh hbt hkk hk8 hbk hbz hk4; exact absurd hk4 (Nat.not_lt_zero _)
    | succ k4 ih4 =>
      intro r w21_4 hT21_4 hF21_4 hr hbw hbh hbt hkk hk8 hbk hbz hk4
      refine TT_iload hK 5 rfl dX12_beBands_21 ?_
      refine TT_iload hK 4 rfl dX12_beBands_23 ?_
      refine TT_icmp_gt hK (tgt := 132) (irm (by omega) (by omega)) (irm (by omega) (by omega)) dX12_beBands_25 (by decide) (fun hb25_5 => ?_) (fun hb25_5 => ?_)
      · refine TT_vret hK hQ ?_ dX12_beBands_132
        exact ⟨⟨hT21_4, hF21_4⟩, rfl, (by intro j h1 h2; exact hbw j h1 (by omega)), (by intro j h1 h2; exact hbh j h1 (by omega)), (by intro j h1 h2; exact hbt j h1 (by omega)), (by exact hkk), (by intro j h1 h2; exact hbk j h1 (by omega)), (by intro ef j h1 h2; exact hbz ef j h1 (by omega)), (by exact hk8)⟩
      · refine TT_iload hK 4 rfl dX12_beBands_28 ?_
        refine TT_iload hK 5 rfl dX12_beBands_30 ?_
        refine TT_isub hK dX12_beBands_32 ?_
        refine TT_istore hK (lv' := [(6, vI (l - r)), (0, vR 73), (1, vI f), (2, vI w), (3, vI e), (4, vI l), (5, vI r)]) (by decide) rfl dX12_beBands_33 ?_
        refine TT_iload_n hK rfl 3 rfl dX12_beBands_35 ?_
        refine TT_iload hK 0 rfl dX12_beBands_36 ?_
        refine TT_iconst hK dX12_beBands_38 ?_
        refine TT_iadd hK dX12_beBands_39 ?_
        refine iv_X12_153 hK (s_left_x w ((l - r) + 1) w21_4 hT21_4 (by first | omega | (simp [up, setR] <;> omega)) (by first | omega | (simp [up, setR] <;> omega))) ⟨by decide, by decide⟩ (by decide) rfl rfl (Nat.le_of_ble_eq_true rfl) ⟨by decide, by decide⟩ dX12_beBands_40 ?_
        intro r9 g40_6 hp9
        obtain ⟨⟨hT_6, hG_6⟩, z40_6, hr9, hz_6, p1_6⟩ := hp9
        rw [hr9]
        have hF_6 : FRM [80, 81, 82, 83, 84, 85, 86, 87, 88] [] h g40_6 := FRM_tr hF21_4 hG_6 (by decide) (by decide)
        show TT K ly 0 0 43 [(6, vI (l - r)), (0, vR 73), (1, vI f), (2, vI w), (3, vI e), (4, vI l), (5, vI r)] [vI z40_6] g40_6
        refine TT_istore hK (lv' := [(7, vI z40_6), (6, vI (l - r)), (0, vR 73), (1, vI f), (2, vI w), (3, vI e), (4, vI l), (5, vI r)]) (by decide) rfl dX12_beBands_43 ?_
        refine TT_iload_n hK rfl 5 rfl dX12_beBands_45 ?_
        refine TT_iload hK 1 rfl dX12_beBands_46 ?_
        refine TT_iconst hK dX12_beBands_48 ?_
        refine TT_iadd hK dX12_beBands_49 ?_
        refine iv_X12_153 hK (s_left_x e ((l - r) + 1) g40_6 hT_6 (by first | omega | (simp [up, setR] <;> omega)) (by first | omega | (simp [up, setR] <;> omega))) ⟨by decide, by decide⟩ (by decide) rfl rfl (Nat.le_of_ble_eq_true rfl) ⟨by decide, by decide⟩ dX12_beBands_50 ?_
        intro r9 g50_7 hp9
        obtain ⟨⟨hT_7, hG_7⟩, z50_7, hr9, hz_7, p1_7⟩ := hp9
        rw [hr9]
        have hF_7 : FRM [80, 81, 82, 83, 84, 85, 86, 87, 88] [] h g50_7 := FRM_tr hF_6 hG_7 (by decide) (by decide)
        show TT K ly 0 0 53 [(7, vI z40_6), (6, vI (l - r)), (0, vR 73), (1, vI f), (2, vI w), (3, vI e), (4, vI l), (5, vI r)] [vI z50_7] g50_7
        refine TT_istore hK (lv' := [(8, vI z50_7), (7, vI z40_6), (6, vI (l - r)), (0, vR 73), (1, vI f), (2, vI w), (3, vI e), (4, vI l), (5, vI r)]) (by decide) rfl dX12_beBands_53 ?_
        refine TT_iload_n hK rfl 5 rfl dX12_beBands_55 ?_
        refine TT_iload hK 2 rfl dX12_beBands_56 ?_
        refine iv_X12_153 hK (s_left_x w (l - r) g50_7 hT_7 (by first | omega | (simp [up, setR] <;> omega)) (by first | omega | (simp [up, setR] <;> omega))) ⟨by decide, by decide⟩ (by decide) rfl rfl (Nat.le_of_ble_eq_true rfl) ⟨by decide, by decide⟩ dX12_beBands_58 ?_
        intro r9 g58_8 hp9
        obtain ⟨⟨hT_8, hG_8⟩, z58_8, hr9, hz_8, p1_8⟩ := hp9
        rw [hr9]
        have hF_8 : FRM [80, 81, 82, 83, 84, 85, 86, 87, 88] [] h g58_8 := FRM_tr hF_7 hG_8 (by decide) (by decide)
        show TT K ly 0 0 61 [(8, vI z50_7), (7, vI z40_6), (6, vI (l - r)), (0, vR 73), (1, vI f), (2, vI w), (3, vI e), (4, vI l), (5, vI r)] [vI z58_8] g58_8
        refine TT_iload hK 1 rfl dX12_beBands_61 ?_
        have ow1 : z40_6 ≤ z58_8 := by have k9 := lf_le (n := w) (l := l - r) (by omega) (by omega); omega
        refine TT_isub hK dX12_beBands_63 ?_
        refine TT_istore hK (lv' := [(9, vI (z58_8 - z40_6)), (8, vI z50_7), (7, vI z40_6), (6, vI (l - r)), (0, vR 73), (1, vI f), (2, vI w), (3, vI e), (4, vI l), (5, vI r)]) (by decide) rfl dX12_beBands_64 ?_
        refine TT_iload_n hK rfl 7 rfl dX12_beBands_66 ?_
        refine TT_iload hK 3 rfl dX12_beBands_67 ?_
        refine iv_X12_153 hK (s_left_x e (l - r) g58_8 hT_8 (by first | omega | (simp [up, setR] <;> omega)) (by first | omega | (simp [up, setR] <;> omega))) ⟨by decide, by decide⟩ (by decide) rfl rfl (Nat.le_of_ble_eq_true rfl) ⟨by decide, by decide⟩ dX12_beBands_69 ?_
        intro r9 g69_9 hp9
        obtain ⟨⟨hT_9, hG_9⟩, z69_9, hr9, hz_9, p1_9⟩ := hp9
        rw [hr9]
        have hF_9 : FRM [80, 81, 82, 83, 84, 85, 86, 87, 88] [] h g69_9 := FRM_tr hF_8 hG_9 (by decide) (by decide)
        show TT K ly 0 0 72 [(9, vI (z58_8 - z40_6)), (8, vI z50_7), (7, vI z40_6), (6, vI (l - r)), (0, vR 73), (1, vI f), (2, vI w), (3, vI e), (4, vI l), (5, vI r)] [vI z69_9] g69_9
        refine TT_iload hK 1 rfl dX12_beBands_72 ?_
        have ow2 : z50_7 ≤ z69_9 := by have k9 := lf_le (n := e) (l := l - r) (by omega) (by omega); omega
        refine TT_isub hK dX12_beBands_74 ?_
        refine TT_istore hK (lv' := [(10, vI (z69_9 - z50_7)), (9, vI (z58_8 - z40_6)), (8, vI z50_7), (7, vI z40_6), (6, vI (l - r)), (0, vR 73), (1, vI f), (2, vI w), (3, vI e), (4, vI l), (5, vI r)]) (by decide) rfl dX12_beBands_75 ?_
        refine TT_aload_n hK rfl 5 rfl dX12_beBands_77 ?_
        refine TT_iload_n hK rfl 6 rfl dX12_beBands_78 ?_
        refine TT_iconst hK dX12_beBands_79 ?_
        refine TT_iload hK 10 rfl dX12_beBands_80 ?_
        refine TT_imul hK dX12_beBands_82 ?_
        refine TT_iadd hK dX12_beBands_83 ?_
        refine TT_iconst hK dX12_beBands_84 ?_
        refine TT_isub hK dX12_beBands_85 ?_
        refine TT_iload hK 1 rfl dX12_beBands_86 ?_
        refine TT_iload hK 2 rfl dX12_beBands_88 ?_
        refine TT_iconst hK dX12_beBands_90 ?_
        refine iv_X12_156 hK (s_beBand_z ((f + (3 * r)) - 2) (z58_8 - z40_6) z50_7 1 g69_9 hT_9 (by first | omega | (simp [up, setR] <;> omega)) (by first | omega | (simp [up, setR] <;> omega)) (by first | omega | (simp [up, setR] <;> omega)) (by first | omega | (simp [up, setR] <;> omega))) (by decide) rfl ⟨by decide, by decide⟩ (by decide) rfl rfl (Nat.le_of_ble_eq_true rfl) ⟨by decide, by decide⟩ dX12_beBands_91 ?_
        intro r9 g91_10 hp9
        obtain ⟨⟨hT_10, hG_10⟩, hr9, q1_10, q2_10, q3_10, q5_10, q4_10, q6_10, q9_10⟩ := hp9
        rw [hr9]
        have hF_10 : FRM [80, 81, 82, 83, 84, 85, 86, 87, 88] [] h g91_10 := FRM_tr hF_9 hG_10 (by decide) (by decide)
        rw [show g69_9 80 = w21_4 80 from ((hG_9.1 80 (by decide))).trans (((hG_8.1 80 (by decide))).trans (((hG_7.1 80 (by decide))).trans (hG_6.1 80 (by decide))))] at q1_10
        rw [show g69_9 81 = w21_4 81 from ((hG_9.1 81 (by decide))).trans (((hG_8.1 81 (by decide))).trans (((hG_7.1 81 (by decide))).trans (hG_6.1 81 (by decide))))] at q2_10
        rw [show g69_9 86 = w21_4 86 from ((hG_9.1 86 (by decide))).trans (((hG_8.1 86 (by decide))).trans (((hG_7.1 86 (by decide))).trans (hG_6.1 86 (by decide))))] at q3_10
        rw [show g69_9 84 = w21_4 84 from ((hG_9.1 84 (by decide))).trans (((hG_8.1 84 (by decide))).trans (((hG_7.1 84 (by decide))).trans (hG_6.1 84 (by decide))))] at q5_10
        rw [show g69_9 85 = w21_4 85 from ((hG_9.1 85 (by decide))).trans (((hG_8.1 85 (by decide))).trans (((hG_7.1 85 (by decide))).trans (hG_6.1 85 (by decide))))] at q5_10
        rw [show g69_9 82 = w21_4 82 from ((hG_9.1 82 (by decide))).trans (((hG_8.1 82 (by decide))).trans (((hG_7.1 82 (by decide))).trans (hG_6.1 82 (by decide))))] at q4_10
        rw [show g69_9 83 = w21_4 83 from ((hG_9.1 83 (by decide))).trans (((hG_8.1 83 (by decide))).trans (((hG_7.1 83 (by decide))).trans (hG_6.1 83 (by decide))))] at q9_10
        have q1_at91 := q1_10
        have q2_at91 := q2_10
        have q3_at91 := q3_10
        have q5_at91 := q5_10
        have q4_at91 := q4_10
        have q6_at91 := q6_10
        have q9_at91 := q9_10
        show TT K ly 0 0 94 [(10, vI (z69_9 - z50_7)), (9, vI (z58_8 - z40_6)), (8, vI z50_7), (7, vI z40_6), (6, vI (l - r)), (0, vR 73), (1, vI f), (2, vI w), (3, vI e), (4, vI l), (5, vI r)] [] g91_10
        refine TT_aload_n hK rfl 5 rfl dX12_beBands_94 ?_
        refine TT_iload_n hK rfl 6 rfl dX12_beBands_95 ?_
        refine TT_iconst hK dX12_beBands_96 ?_
        refine TT_iload hK 10 rfl dX12_beBands_97 ?_
        refine TT_imul hK dX12_beBands_99 ?_
        refine TT_iadd hK dX12_beBands_100 ?_
        refine TT_iconst hK dX12_beBands_101 ?_
        refine TT_isub hK dX12_beBands_102 ?_
        refine TT_iload hK 3 rfl dX12_beBands_103 ?_
        refine TT_iload hK 0 rfl dX12_beBands_105 ?_
        refine TT_iconst hK dX12_beBands_107 ?_
        refine iv_X12_156 hK (s_beBand_z ((f + (3 * r)) - 1) z40_6 (z69_9 - z50_7) 0 g91_10 hT_10 (by first | omega | (simp [up, setR] <;> omega)) (by first | omega | (simp [up, setR] <;> omega)) (by first | omega | (simp [up, setR] <;> omega)) (by first | omega | (simp [up, setR] <;> omega))) (by decide) rfl ⟨by decide, by decide⟩ (by decide) rfl rfl (Nat.le_of_ble_eq_true rfl) ⟨by decide, by decide⟩ dX12_beBands_108 ?_
        intro r9 g108_11 hp9
        obtain ⟨⟨hT_11, hG_11⟩, hr9, q1_11, q2_11, q3_11, q5_11, q4_11, q6_11, q9_11⟩ := hp9
        rw [hr9]
        have hF_11 : FRM [80, 81, 82, 83, 84, 85, 86, 87, 88] [] h g108_11 := FRM_tr hF_10 hG_11 (by decide) (by decide)
        have q1_at108 := q1_11
        have q2_at108 := q2_11
        have q3_at108 := q3_11
        have q5_at108 := q5_11
        have q4_at108 := q4_11
        have q6_at108 := q6_11
        have q9_at108 := q9_11
        show TT K ly 0 0 111 [(10, vI (z69_9 - z50_7)), (9, vI (z58_8 - z40_6)), (8, vI z50_7), (7, vI z40_6), (6, vI (l - r)), (0, vR 73), (1, vI f), (2, vI w), (3, vI e), (4, vI l), (5, vI r)] [] g108_11
        refine TT_aload_n hK rfl 5 rfl dX12_beBands_111 ?_
        refine TT_iload_n hK rfl 6 rfl dX12_beBands_112 ?_
        refine TT_iconst hK dX12_beBands_113 ?_
        refine TT_iload hK 10 rfl dX12_beBands_114 ?_
        refine TT_imul hK dX12_beBands_116 ?_
        refine TT_iadd hK dX12_beBands_117 ?_
        refine TT_iload hK 1 rfl dX12_beBands_118 ?_
        refine TT_iload hK 0 rfl dX12_beBands_120 ?_
        refine TT_iconst hK dX12_beBands_122 ?_
        refine iv_X12_156 hK (s_beBand_z (f + (3 * r)) (z58_8 - z40_6) (z69_9 - z50_7) 2 g108_11 hT_11 (by first | omega | (simp [up, setR] <;> omega)) (by first | omega | (simp [up, setR] <;> omega)) (by first | omega | (simp [up, setR] <;> omega)) (by first | omega | (simp [up, setR] <;> omega))) (by decide) rfl ⟨by decide, by decide⟩ (by decide) rfl rfl (Nat.le_of_ble_eq_true rfl) ⟨by decide, by decide⟩ dX12_beBands_123 ?_
        intro r9 g123_12 hp9
        obtain ⟨⟨hT_12, hG_12⟩, hr9, q1_12, q2_12, q3_12, q5_12, q4_12, q6_12, q9_12⟩ := hp9
        rw [hr9]
        have hF_12 : FRM [80, 81, 82, 83, 84, 85, 86, 87, 88] [] h g123_12 := FRM_tr hF_11 hG_12 (by decide) (by decide)
        have q1_at123 := q1_12
        have q2_at123 := q2_12
        have q3_at123 := q3_12
        have q5_at123 := q5_12
        have q4_at123 := q4_12
        have q6_at123 := q6_12
        have q9_at123 := q9_12
        show TT K ly 0 0 126 [(10, vI (z69_9 - z50_7)), (9, vI (z58_8 - z40_6)), (8, vI z50_7), (7, vI z40_6), (6, vI (l - r)), (0, vR 73), (1, vI f), (2, vI w), (3, vI e), (4, vI l), (5, vI r)] [] g123_12
        refine TT_iinc hK (v := r + 1) (lv' := [(5, vI (r + 1)), (10, vI (z69_9 - z50_7)), (9, vI (z58_8 - z40_6)), (8, vI z50_7), (7, vI z40_6), (6, vI (l - r)), (0, vR 73), (1, vI f), (2, vI w), (3, vI e), (4, vI l)]) 10 rfl rfl (by decide) rfl dX12_beBands_126 ?_
        refine TT_goto hK (tgt := 21) dX12_beBands_129 (by decide) ?_
        refine TT_sub [6, 7, 8, 9, 10, 0] rfl ?_
        exact ih4 (r + 1) g123_12 hT_12 hF_12 (by first | omega | (simp [up, setR] <;> omega)) (by rw [q1_at123, q1_at108, q1_at91]; exact BWs (by omega) hbw (by omega) (by omega)) (by rw [q2_at123, q2_at108, q2_at91]; exact BHs (by omega) hbh (by omega) (by omega)) (by rw [q3_at123, q3_at108, q3_at91]; exact B0s (by omega) hbt) (by intro ef; have k10 := (hkk ef).1; have kpk := (hkk ef).2; exact ⟨(by intro q hq; rw [q1_at123, q1_at108, q1_at91, q2_at123, q2_at108, q2_at91, fup_ne _ _ (by omega), fup_ne _ _ (by omega), fup_ne _ _ (by omega), fup_ne _ _ (by omega), fup_ne _ _ (by omega), fup_ne _ _ (by omega)]; exact k10 q hq), fun j hj => by have u1 := q5_at123 j (by omega); have u2 := q5_at108 j (by omega); have u3 := q5_at91 j (by omega); have u4 := kpk j hj; exact ⟨u1.1.trans (u2.1.trans (u3.1.trans u4.1)), u1.2.trans (u2.2.trans (u3.2.trans u4.2))⟩⟩) (by intro ef q hq; rw [q9_at123, q9_at108, q9_at91, fup_ne _ _ (by omega), fup_ne _ _ (by omega), fup_ne _ _ (by omega)]; exact hk8 ef q hq) (by rw [q4_at123, q4_at108, q4_at91]; exact KDs (by omega) hbk) (by intro ef j h1 h2; by_cases c3 : 64 * (f + 3 * r) ≤ j; exact q6_at123 j (by omega) (by omega); rw [(q5_at123 j (by omega)).1]; by_cases c2 : 64 * (f + 3 * r - 1) ≤ j; exact q6_at108 j (by omega) (by omega); rw [(q5_at108 j (by omega)).1]; by_cases c1 : 64 * (f + 3 * r - 2) ≤ j; exact q6_at91 j (by omega) (by omega); rw [(q5_at91 j (by omega)).1]; exact hbz ef j h1 (by omega)) (by first | omega | (simp [up, setR] <;> omega))
  refine TT_sub [1, 2, 3, 4, 5, 0] rfl ?_
  exact L21_4 ((((4 : Int) - 1).toNat) + 1) 1 g15_3 hT_3 hF_3 (by first | omega | (simp [up, setR] <;> omega)) (by intro j h1 h2; rw [q1_at15, show j = 0 by omega, Int.add_zero, fup_eq]; unfold BW; rw [if_pos rfl]; omega) (by intro j h1 h2; rw [q2_at15, show j = 0 by omega, Int.add_zero, fup_eq]; unfold BH; rw [if_pos rfl]; omega) (by intro j h1 h2; rw [q3_at15, show j = 0 by omega, Int.add_zero, fup_eq]) (by intro ef; exact ⟨fun q hq => by rw [q1_at15, q2_at15, fup_ne _ _ (by omega), fup_ne _ _ (by omega)]; exact ⟨rfl, rfl⟩, fun j hj => q5_at15 j (by omega)⟩) (by intro ef q hq; rw [q9_at15, fup_ne _ _ (by omega)]) (by intro j h1 h2; rw [q4_at15, show j = 0 by omega, Int.add_zero, fup_eq]; rfl) (by intro ef j h1 h2; exact q6_at15 j (by omega) (by omega)) (Nat.lt_succ_self _)
set_option maxRecDepth 20000 in
theorem s_loadBand_z (b f : Int) (h : Hp_) (hT : TY h) (hb : 0 ≤ b ∧ b ≤ 9) (hfit : ∃ cx cy : Int, f = 8 * cy + cx ∧ 0 ≤ cx ∧ 0 ≤ cy ∧ cx + (h 80) b ≤ 8 ∧ cy + (h 81) b ≤ 8) (hsq : ∀ i : Int, 0 ≤ i → i < 64 → -4095 ≤ (h 77) i ∧ (h 77) i ≤ 4095) : Ctr yX12_loadBand cX12_loadBand 6 none (rmd 0) ly ly 0 0 [vR 73, vI b, vI f] h (fun r h' => (TY h' ∧ FRM [84, 85] [] h h') ∧ r = none ∧ (∀ x2 y2 : Int, 0 ≤ x2 → x2 < (h 80) b → 0 ≤ y2 → y2 < (h 81) b → sgn ((h' 85) (64 * b + 8 * y2 + x2)) ((h' 84) (64 * b + 8 * y2 + x2)) = (h 77) (f + 8 * y2 + x2)) ∧ (∀ j : Int, j < 64 * b ∨ 64 * b + 64 ≤ j → (h' 84) j = (h 84) j ∧ (h' 85) j = (h 85) j) ∧ (∀ x2 y2 : Int, 0 ≤ x2 → x2 < (h 80) b → 0 ≤ y2 → y2 < (h 81) b → (h' 84) (64 * b + 8 * y2 + x2) = (((h 77) (f + 8 * y2 + x2)).natAbs : Int) ∧ (h' 85) (64 * b + 8 * y2 + x2) = if (h 77) (f + 8 * y2 + x2) < 0 then 1 else 0) ∧ (∀ x2 y2 : Int, 0 ≤ x2 → x2 < 8 → 0 ≤ y2 → y2 < 8 → ((h 80) b ≤ x2 ∨ (h 81) b ≤ y2) → (h' 84) (64 * b + 8 * y2 + x2) = (h 84) (64 * b + 8 * y2 + x2))) := by
  refine Ctr_of (by decide) (Nat.le_of_ble_eq_true rfl) ⟨Nat.le_refl _, Nat.le_refl _⟩ (fun K hK hQ _ => ?_)
  show TT K ly 0 0 0 [(0, vR 73), (1, vI b), (2, vI f)] [] h
  have hF : FRM [84, 85] [] h h := FRM_rf _ _ _
  obtain ⟨cx, cy, hf1, hf2, hf3, hf4, hf5⟩ := hfit
  refine TT_iconst hK dX12_loadBand_0 ?_
  refine TT_istore_n hK rfl (lv' := [(3, vI 0), (0, vR 73), (1, vI b), (2, vI f)]) (by decide) rfl dX12_loadBand_1 ?_
  have L2_1 : ∀ (k1 : Nat) (y : Int) (w2_1 : Hp_), TY w2_1 → FRM [84, 85] [] h w2_1 → (0 ≤ y ∧ y ≤ 8) → (∀ x2 y2 : Int, 0 ≤ x2 → x2 < h 80 b → 0 ≤ y2 → y2 < y → sgn ((w2_1 85) (64 * b + 8 * y2 + x2)) ((w2_1 84) (64 * b + 8 * y2 + x2)) = h 77 (f + 8 * y2 + x2)) → (∀ j : Int, j < 64 * b ∨ 64 * b + 64 ≤ j → (w2_1 84) j = h 84 j ∧ (w2_1 85) j = h 85 j) → (∀ x2 y2 : Int, 0 ≤ x2 → x2 < h 80 b → 0 ≤ y2 → y2 < y → (w2_1 84) (64 * b + 8 * y2 + x2) = ((h 77 (f + 8 * y2 + x2)).natAbs : Int) ∧ (w2_1 85) (64 * b + 8 * y2 + x2) = if h 77 (f + 8 * y2 + x2) < 0 then 1 else 0) → (∀ x2 y2 : Int, 0 ≤ x2 → x2 < 8 → 0 ≤ y2 → y2 < 8 → (h 80 b ≤ x2 ∨ h 81 b ≤ y2) → (w2_1 84) (64 * b + 8 * y2 + x2) = h 84 (64 * b + 8 * y2 + x2)) → ((8 : Int) - y).toNat < k1 → TT K ly 0 0 2 [(0, vR 73), (1, vI b), (2, vI f), (3, vI y)] [] w2_1 := by
    intro k1
    induction k1 with
    | zero => intro y w2_1 hT2_1 hF2_1 hy hl ho hl4 hz4 hk1; exact absurd hk1 (Nat.not_lt_zero _)
    | succ k1 ih1 =>
      intro y w2_1 hT2_1 hF2_1 hy hl ho hl4 hz4 hk1
      refine TT_iload_n hK rfl 3 rfl dX12_loadBand_2 ?_
      refine TT_aload_n hK rfl 0 rfl dX12_loadBand_3 ?_
      refine gf_X12_38 hK (by decide) rfl (q := 81) rfl rfl dX12_loadBand_4 ?_
      refine TT_iload_n hK rfl 1 rfl dX12_loadBand_7 ?_
      refine TT_iald hK (o := 81) (n := 20) (by decide) rfl (by first | omega | (simp [up, setR] <;> omega)) (by first | omega | (simp [up, setR] <;> omega)) (v := (h 81) b) (rd_ (hF2_1.1 81 (by decide)) rfl) dX12_loadBand_8 ?_
      have r2 := ty_81 (i := b) (v := (h 81) b) hT2_1 (rd_ (hF2_1.1 81 (by decide)) rfl) (by omega) (by omega)
      refine TT_icmp_ge hK (tgt := 111) (irm (by omega) (by omega)) (irm (by omega) (by omega)) dX12_loadBand_9 (by decide) (fun hb9_3 => ?_) (fun hb9_3 => ?_)
      · refine TT_vret hK hQ ?_ dX12_loadBand_111
        exact ⟨⟨hT2_1, hF2_1⟩, rfl, (by intro x2 y2 g1 g2 g3 g4; exact hl x2 y2 g1 g2 g3 (by omega)), (by exact ho), (by intro x2 y2 g1 g2 g3 g4; exact hl4 x2 y2 g1 g2 g3 (by omega)), (by exact hz4)⟩
      · refine TT_iconst hK dX12_loadBand_12 ?_
        refine TT_istore hK (lv' := [(4, vI 0), (0, vR 73), (1, vI b), (2, vI f), (3, vI y)]) (by decide) rfl dX12_loadBand_13 ?_
        have L15_4 : ∀ (k4 : Nat) (x : Int) (w15_4 : Hp_), TY w15_4 → FRM [84, 85] [] h w15_4 → (0 ≤ x ∧ x ≤ 8) → (∀ x2 y2 : Int, 0 ≤ x2 → x2 < h 80 b → 0 ≤ y2 → y2 < y → sgn ((w15_4 85) (64 * b + 8 * y2 + x2)) ((w15_4 84) (64 * b + 8 * y2 + x2)) = h 77 (f + 8 * y2 + x2)) → (∀ x2 : Int, 0 ≤ x2 → x2 < x → sgn ((w15_4 85) (64 * b + 8 * y + x2)) ((w15_4 84) (64 * b + 8 * y + x2)) = h 77 (f + 8 * y + x2)) → (∀ j : Int, j < 64 * b ∨ 64 * b + 64 ≤ j → (w15_4 84) j = h 84 j ∧ (w15_4 85) j = h 85 j) → (∀ x2 y2 : Int, 0 ≤ x2 → x2 < h 80 b → 0 ≤ y2 → y2 < y → (w15_4 84) (64 * b + 8 * y2 + x2) = ((h 77 (f + 8 * y2 + x2)).natAbs : Int) ∧ (w15_4 85) (64 * b + 8 * y2 + x2) = if h 77 (f + 8 * y2 + x2) < 0 then 1 else 0) → (∀ x2 : Int, 0 ≤ x2 → x2 < x → (w15_4 84) (64 * b + 8 * y + x2) = ((h 77 (f + 8 * y + x2)).natAbs : Int) ∧ (w15_4 85) (64 * b + 8 * y + x2) = if h 77 (f + 8 * y + x2) < 0 then 1 else 0) → (∀ x2 y2 : Int, 0 ≤ x2 → x2 < 8 → 0 ≤ y2 → y2 < 8 → (h 80 b ≤ x2 ∨ h 81 b ≤ y2) → (w15_4 84) (64 * b + 8 * y2 + x2) = h 84 (64 * b + 8 * y2 + x2)) → ((8 : Int) - x).toNat < k4 → TT K ly 0 0 15 [(0, vR 73), (1, vI b), (2, vI f), (3, vI y), (4, vI x)] [] w15_4 := by
          intro k4
          induction k4 with
          | zero => intro x w15_4 hT15_4 hF15_4 hx hl hm ho hl4 hm4 hz4 hk4; exact absurd hk4 (Nat.not_lt_zero _)
          | succ k4 ih4 =>
            intro x w15_4 hT15_4 hF15_4 hx hl hm ho hl4 hm4 hz4 hk4
            refine TT_iload hK 4 rfl dX12_loadBand_15 ?_
            refine TT_aload_n hK rfl 0 rfl dX12_loadBand_17 ?_
            refine gf_X12_35 hK (by decide) rfl (q := 80) rfl rfl dX12_loadBand_18 ?_
            refine TT_iload_n hK rfl 1 rfl dX12_loadBand_21 ?_
            refine TT_iald hK (o := 80) (n := 20) (by decide) rfl (by first | omega | (simp [up, setR] <;> omega)) (by first | omega | (simp [up, setR] <;> omega)) (v := (h 80) b) (rd_ (hF15_4.1 80 (by decide)) rfl) dX12_loadBand_22 ?_
            have r5 := ty_80 (i := b) (v := (h 80) b) hT15_4 (rd_ (hF15_4.1 80 (by decide)) rfl) (by omega) (by omega)
            refine TT_icmp_ge hK (tgt := 105) (irm (by omega) (by omega)) (irm (by omega) (by omega)) dX12_loadBand_23 (by decide) (fun hb23_6 => ?_) (fun hb23_6 => ?_)
            · refine TT_iinc hK (v := y + 1) (lv' := [(3, vI (y + 1)), (0, vR 73), (1, vI b), (2, vI f), (4, vI x)]) 3 rfl rfl (by decide) rfl dX12_loadBand_105 ?_
              refine TT_goto hK (tgt := 2) dX12_loadBand_108 (by decide) ?_
              refine TT_sub [1, 2, 3, 0] rfl ?_
              exact ih1 (y + 1) w15_4 hT15_4 hF15_4 (by first | omega | (simp [up, setR] <;> omega)) (by intro x2 y2 g1 g2 g3 g4; by_cases e : y2 = y; (rw [e]; exact hm x2 g1 (by omega)); exact hl x2 y2 g1 g2 g3 (by omega)) (by exact ho) (by intro x2 y2 g1 g2 g3 g4; by_cases e : y2 = y; (rw [e]; exact hm4 x2 g1 (by omega)); exact hl4 x2 y2 g1 g2 g3 (by omega)) (by exact hz4) (by first | omega | (simp [up, setR] <;> omega))
            · refine TT_aload_n hK rfl 0 rfl dX12_loadBand_26 ?_
              refine gf_X12_26 hK (by decide) rfl (q := 77) rfl rfl dX12_loadBand_27 ?_
              refine TT_iload_n hK rfl 2 rfl dX12_loadBand_30 ?_
              refine TT_bipush hK (by decide) dX12_loadBand_31 ?_
              refine TT_iload_n hK rfl 3 rfl dX12_loadBand_33 ?_
              refine TT_imul hK dX12_loadBand_34 ?_
              refine TT_iadd hK dX12_loadBand_35 ?_
              refine TT_iload hK 4 rfl dX12_loadBand_36 ?_
              refine TT_iadd hK dX12_loadBand_38 ?_
              refine TT_iald hK (o := 77) (n := 64) (by decide) rfl (by first | omega | (simp [up, setR] <;> omega)) (by first | omega | (simp [up, setR] <;> omega)) (v := (h 77) ((f + (8 * y)) + x)) (rd_ (hF15_4.1 77 (by decide)) rfl) dX12_loadBand_39 ?_
              have r7 := ty_77 (i := (f + (8 * y)) + x) (v := (h 77) ((f + (8 * y)) + x)) hT15_4 (rd_ (hF15_4.1 77 (by decide)) rfl) (by omega) (by omega)
              refine TT_istore hK (lv' := [(5, vI ((h 77) ((f + (8 * y)) + x))), (0, vR 73), (1, vI b), (2, vI f), (3, vI y), (4, vI x)]) (by decide) rfl dX12_loadBand_40 ?_
              have b1 := hsq (f + 8 * y + x) (by omega) (by omega)
              refine TT_aload_n hK rfl 1 rfl dX12_loadBand_42 ?_
              refine gf_X12_47 hK (by decide) rfl (q := 84) rfl rfl dX12_loadBand_43 ?_
              refine TT_bipush hK (by decide) dX12_loadBand_46 ?_
              refine TT_iload_n hK rfl 2 rfl dX12_loadBand_48 ?_
              refine TT_imul hK dX12_loadBand_49 ?_
              refine TT_bipush hK (by decide) dX12_loadBand_50 ?_
              refine TT_iload_n hK rfl 4 rfl dX12_loadBand_52 ?_
              refine TT_imul hK dX12_loadBand_53 ?_
              refine TT_iadd hK dX12_loadBand_54 ?_
              refine TT_iload hK 5 rfl dX12_loadBand_55 ?_
              refine TT_iadd hK dX12_loadBand_57 ?_
              refine TT_iload hK 0 rfl dX12_loadBand_58 ?_
              refine TT_if_ge hK (tgt := 69) (irm (by omega) (by omega)) dX12_loadBand_60 (by decide) (fun hb60_8 => ?_) (fun hb60_8 => ?_)
              · refine TT_iload hK 0 rfl dX12_loadBand_69 ?_
                refine TT_iast hK (o := 84) (n := 1280) (by decide) rfl (by omega) (by omega) dX12_loadBand_71 ?_
                refine TT_hp (h' := setO w15_4 84 (fup (w15_4 84) (((64 * b) + (8 * y)) + x) ((h 77) ((f + (8 * y)) + x)))) (up_can rfl rfl rfl) ?_
                have hT_9 : TY (setO w15_4 84 (fup (w15_4 84) (((64 * b) + (8 * y)) + x) ((h 77) ((f + (8 * y)) + x)))) := tu_84 hT15_4 (show up w15_4 84 (((64 * b) + (8 * y)) + x) ((h 77) ((f + (8 * y)) + x)) = (setO w15_4 84 (fup (w15_4 84) (((64 * b) + (8 * y)) + x) ((h 77) ((f + (8 * y)) + x)))) from up_can rfl rfl rfl) (by omega)
                have hF_9 : FRM [84, 85] [] h (setO w15_4 84 (fup (w15_4 84) (((64 * b) + (8 * y)) + x) ((h 77) ((f + (8 * y)) + x)))) := FRM_up (show up w15_4 84 (((64 * b) + (8 * y)) + x) ((h 77) ((f + (8 * y)) + x)) = (setO w15_4 84 (fup (w15_4 84) (((64 * b) + (8 * y)) + x) ((h 77) ((f + (8 * y)) + x)))) from up_can rfl rfl rfl) hF15_4 (by decide) (by decide)
                refine TT_aload_n hK rfl 1 rfl dX12_loadBand_72 ?_
                refine gf_X12_50 hK (by decide) rfl (q := 85) rfl rfl dX12_loadBand_73 ?_
                refine TT_bipush hK (by decide) dX12_loadBand_76 ?_
                refine TT_iload_n hK rfl 2 rfl dX12_loadBand_78 ?_
                refine TT_imul hK dX12_loadBand_79 ?_
                refine TT_bipush hK (by decide) dX12_loadBand_80 ?_
                refine TT_iload_n hK rfl 4 rfl dX12_loadBand_82 ?_
                refine TT_imul hK dX12_loadBand_83 ?_
                refine TT_iadd hK dX12_loadBand_84 ?_
                refine TT_iload hK 5 rfl dX12_loadBand_85 ?_
                refine TT_iadd hK dX12_loadBand_87 ?_
                refine TT_iload hK 0 rfl dX12_loadBand_88 ?_
                refine TT_if_ge hK (tgt := 97) (irm (by omega) (by omega)) dX12_loadBand_90 (by decide) (fun hb90_10 => ?_) (fun hb90_10 => ?_)
                · refine TT_iconst hK dX12_loadBand_97 ?_
                  refine TT_zast hK (o := 85) (n := 1280) (by decide) rfl (by omega) (by omega) (by first | decide | omega) dX12_loadBand_98 ?_
                  refine TT_hp (h' := setO (setO w15_4 84 (fup (w15_4 84) (((64 * b) + (8 * y)) + x) ((h 77) ((f + (8 * y)) + x)))) 85 (fup (w15_4 85) (((64 * b) + (8 * y)) + x) 0)) (up_can (sOf_ne _ _ (by decide)) rfl rfl) ?_
                  have hT_11 : TY (setO (setO w15_4 84 (fup (w15_4 84) (((64 * b) + (8 * y)) + x) ((h 77) ((f + (8 * y)) + x)))) 85 (fup (w15_4 85) (((64 * b) + (8 * y)) + x) 0)) := tu_85 hT_9 (show up (setO w15_4 84 (fup (w15_4 84) (((64 * b) + (8 * y)) + x) ((h 77) ((f + (8 * y)) + x)))) 85 (((64 * b) + (8 * y)) + x) 0 = (setO (setO w15_4 84 (fup (w15_4 84) (((64 * b) + (8 * y)) + x) ((h 77) ((f + (8 * y)) + x)))) 85 (fup (w15_4 85) (((64 * b) + (8 * y)) + x) 0)) from up_can (sOf_ne _ _ (by decide)) rfl rfl) (by omega)
                  have hF_11 : FRM [84, 85] [] h (setO (setO w15_4 84 (fup (w15_4 84) (((64 * b) + (8 * y)) + x) ((h 77) ((f + (8 * y)) + x)))) 85 (fup (w15_4 85) (((64 * b) + (8 * y)) + x) 0)) := FRM_up (show up (setO w15_4 84 (fup (w15_4 84) (((64 * b) + (8 * y)) + x) ((h 77) ((f + (8 * y)) + x)))) 85 (((64 * b) + (8 * y)) + x) 0 = (setO (setO w15_4 84 (fup (w15_4 84) (((64 * b) + (8 * y)) + x) ((h 77) ((f + (8 * y)) + x)))) 85 (fup (w15_4 85) (((64 * b) + (8 * y)) + x) 0)) from up_can (sOf_ne _ _ (by decide)) rfl rfl) hF_9 (by decide) (by decide)
                  refine TT_iinc hK (v := x + 1) (lv' := [(4, vI (x + 1)), (5, vI ((h 77) ((f + (8 * y)) + x))), (0, vR 73), (1, vI b), (2, vI f), (3, vI y)]) 5 rfl rfl (by decide) rfl dX12_loadBand_99 ?_
                  refine TT_goto hK (tgt := 15) dX12_loadBand_102 (by decide) ?_
                  refine TT_sub [2, 3, 4, 5, 0] rfl ?_
                  have e12_84 : (setO (setO w15_4 84 (fup (w15_4 84) (((64 * b) + (8 * y)) + x) ((h 77) ((f + (8 * y)) + x)))) 85 (fup (w15_4 85) (((64 * b) + (8 * y)) + x) 0)) 84 = fup (w15_4 84) (((64 * b) + (8 * y)) + x) ((h 77) ((f + (8 * y)) + x)) := (sOf_ne _ _ (by decide)).trans (sOf_eq _ _ _)
                  have e13_85 : (setO (setO w15_4 84 (fup (w15_4 84) (((64 * b) + (8 * y)) + x) ((h 77) ((f + (8 * y)) + x)))) 85 (fup (w15_4 85) (((64 * b) + (8 * y)) + x) 0)) 85 = fup (w15_4 85) (((64 * b) + (8 * y)) + x) 0 := sOf_eq _ _ _
                  have e14_84 : (setO (setO w15_4 84 (fup (w15_4 84) (((64 * b) + (8 * y)) + x) ((h 77) ((f + (8 * y)) + x)))) 85 (fup (w15_4 85) (((64 * b) + (8 * y)) + x) 0)) 84 = fup (w15_4 84) (((64 * b) + (8 * y)) + x) ((h 77) ((f + (8 * y)) + x)) := (sOf_ne _ _ (by decide)).trans (sOf_eq _ _ _)
                  have e15_85 : (setO (setO w15_4 84 (fup (w15_4 84) (((64 * b) + (8 * y)) + x) ((h 77) ((f + (8 * y)) + x)))) 85 (fup (w15_4 85) (((64 * b) + (8 * y)) + x) 0)) 85 = fup (w15_4 85) (((64 * b) + (8 * y)) + x) 0 := sOf_eq _ _ _
                  have e16_84 : (setO (setO w15_4 84 (fup (w15_4 84) (((64 * b) + (8 * y)) + x) ((h 77) ((f + (8 * y)) + x)))) 85 (fup (w15_4 85) (((64 * b) + (8 * y)) + x) 0)) 84 = fup (w15_4 84) (((64 * b) + (8 * y)) + x) ((h 77) ((f + (8 * y)) + x)) := (sOf_ne _ _ (by decide)).trans (sOf_eq _ _ _)
                  have e17_85 : (setO (setO w15_4 84 (fup (w15_4 84) (((64 * b) + (8 * y)) + x) ((h 77) ((f + (8 * y)) + x)))) 85 (fup (w15_4 85) (((64 * b) + (8 * y)) + x) 0)) 85 = fup (w15_4 85) (((64 * b) + (8 * y)) + x) 0 := sOf_eq _ _ _
                  have e18_84 : (setO (setO w15_4 84 (fup (w15_4 84) (((64 * b) + (8 * y)) + x) ((h 77) ((f + (8 * y)) + x)))) 85 (fup (w15_4 85) (((64 * b) + (8 * y)) + x) 0)) 84 = fup (w15_4 84) (((64 * b) + (8 * y)) + x) ((h 77) ((f + (8 * y)) + x)) := (sOf_ne _ _ (by decide)).trans (sOf_eq _ _ _)
                  have e19_85 : (setO (setO w15_4 84 (fup (w15_4 84) (((64 * b) + (8 * y)) + x) ((h 77) ((f + (8 * y)) + x)))) 85 (fup (w15_4 85) (((64 * b) + (8 * y)) + x) 0)) 85 = fup (w15_4 85) (((64 * b) + (8 * y)) + x) 0 := sOf_eq _ _ _
                  have e20_84 : (setO (setO w15_4 84 (fup (w15_4 84) (((64 * b) + (8 * y)) + x) ((h 77) ((f + (8 * y)) + x)))) 85 (fup (w15_4 85) (((64 * b) + (8 * y)) + x) 0)) 84 = fup (w15_4 84) (((64 * b) + (8 * y)) + x) ((h 77) ((f + (8 * y)) + x)) := (sOf_ne _ _ (by decide)).trans (sOf_eq _ _ _)
                  have e21_85 : (setO (setO w15_4 84 (fup (w15_4 84) (((64 * b) + (8 * y)) + x) ((h 77) ((f + (8 * y)) + x)))) 85 (fup (w15_4 85) (((64 * b) + (8 * y)) + x) 0)) 85 = fup (w15_4 85) (((64 * b) + (8 * y)) + x) 0 := sOf_eq _ _ _
                  have e22_84 : (setO (setO w15_4 84 (fup (w15_4 84) (((64 * b) + (8 * y)) + x) ((h 77) ((f + (8 * y)) + x)))) 85 (fup (w15_4 85) (((64 * b) + (8 * y)) + x) 0)) 84 = fup (w15_4 84) (((64 * b) + (8 * y)) + x) ((h 77) ((f + (8 * y)) + x)) := (sOf_ne _ _ (by decide)).trans (sOf_eq _ _ _)
                  exact ih4 (x + 1) (setO (setO w15_4 84 (fup (w15_4 84) (((64 * b) + (8 * y)) + x) ((h 77) ((f + (8 * y)) + x)))) 85 (fup (w15_4 85) (((64 * b) + (8 * y)) + x) 0)) hT_11 hF_11 (by first | omega | (simp [up, setR] <;> omega)) (by rewrite [e12_84, e13_85]; intro x2 y2 g1 g2 g3 g4; rw [fup_ne _ _ (show 64 * b + 8 * y2 + x2 ≠ 64 * b + 8 * y + x by omega), fup_ne _ _ (show 64 * b + 8 * y2 + x2 ≠ 64 * b + 8 * y + x by omega)]; exact hl x2 y2 g1 g2 g3 g4) (by rewrite [e14_84, e15_85]; intro x2 g1 g2; by_cases e : x2 = x; (rw [e, fup_eq, fup_eq]; unfold sgn; first | rw [if_pos rfl] | (rw [if_neg (by decide)]; omega)); (rw [fup_ne _ _ (show 64 * b + 8 * y + x2 ≠ 64 * b + 8 * y + x by omega), fup_ne _ _ (show 64 * b + 8 * y + x2 ≠ 64 * b + 8 * y + x by omega)]; exact hm x2 g1 (by omega))) (by rewrite [e16_84, e17_85]; intro j hj; rw [fup_ne _ _ (show j ≠ 64 * b + 8 * y + x by omega), fup_ne _ _ (show j ≠ 64 * b + 8 * y + x by omega)]; exact ho j hj) (by rewrite [e18_84, e19_85]; intro x2 y2 g1 g2 g3 g4; rw [fup_ne _ _ (show 64 * b + 8 * y2 + x2 ≠ 64 * b + 8 * y + x by omega), fup_ne _ _ (show 64 * b + 8 * y2 + x2 ≠ 64 * b + 8 * y + x by omega)]; exact hl4 x2 y2 g1 g2 g3 g4) (by rewrite [e20_84, e21_85]; intro x2 g1 g2; by_cases e : x2 = x; (rw [e, fup_eq, fup_eq]; exact ⟨by omega, by first | rw [if_pos (by omega)] | rw [if_neg (by omega)]⟩); (rw [fup_ne _ _ (show 64 * b + 8 * y + x2 ≠ 64 * b + 8 * y + x by omega), fup_ne _ _ (show 64 * b + 8 * y + x2 ≠ 64 * b + 8 * y + x by omega)]; exact hm4 x2 g1 (by omega))) (by rewrite [e22_84]; intro x2 y2 g1 g2 g3 g4 g5; rw [fup_ne _ _ (show 64 * b + 8 * y2 + x2 ≠ 64 * b + 8 * y + x by omega)]; exact hz4 x2 y2 g1 g2 g3 g4 g5) (by first | omega | (simp [up, setR] <;> omega))
                · exfalso; omega
              · refine TT_iload hK 0 rfl dX12_loadBand_63 ?_
                refine TT_ineg hK dX12_loadBand_65 ?_
                refine TT_goto hK (tgt := 71) dX12_loadBand_66 (by decide) ?_
                refine TT_iast hK (o := 84) (n := 1280) (by decide) rfl (by omega) (by omega) dX12_loadBand_71 ?_
                refine TT_hp (h' := setO w15_4 84 (fup (w15_4 84) (((64 * b) + (8 * y)) + x) (-((h 77) ((f + (8 * y)) + x))))) (up_can rfl rfl rfl) ?_
                have hT_23 : TY (setO w15_4 84 (fup (w15_4 84) (((64 * b) + (8 * y)) + x) (-((h 77) ((f + (8 * y)) + x))))) := tu_84 hT15_4 (show up w15_4 84 (((64 * b) + (8 * y)) + x) (-((h 77) ((f + (8 * y)) + x))) = (setO w15_4 84 (fup (w15_4 84) (((64 * b) + (8 * y)) + x) (-((h 77) ((f + (8 * y)) + x))))) from up_can rfl rfl rfl) (by omega)
                have hF_23 : FRM [84, 85] [] h (setO w15_4 84 (fup (w15_4 84) (((64 * b) + (8 * y)) + x) (-((h 77) ((f + (8 * y)) + x))))) := FRM_up (show up w15_4 84 (((64 * b) + (8 * y)) + x) (-((h 77) ((f + (8 * y)) + x))) = (setO w15_4 84 (fup (w15_4 84) (((64 * b) + (8 * y)) + x) (-((h 77) ((f + (8 * y)) + x))))) from up_can rfl rfl rfl) hF15_4 (by decide) (by decide)
                refine TT_aload_n hK rfl 1 rfl dX12_loadBand_72 ?_
                refine gf_X12_50 hK (by decide) rfl (q := 85) rfl rfl dX12_loadBand_73 ?_
                refine TT_bipush hK (by decide) dX12_loadBand_76 ?_
                refine TT_iload_n hK rfl 2 rfl dX12_loadBand_78 ?_
                refine TT_imul hK dX12_loadBand_79 ?_
                refine TT_bipush hK (by decide) dX12_loadBand_80 ?_
                refine TT_iload_n hK rfl 4 rfl dX12_loadBand_82 ?_
                refine TT_imul hK dX12_loadBand_83 ?_
                refine TT_iadd hK dX12_loadBand_84 ?_
                refine TT_iload hK 5 rfl dX12_loadBand_85 ?_
                refine TT_iadd hK dX12_loadBand_87 ?_
                refine TT_iload hK 0 rfl dX12_loadBand_88 ?_
                refine TT_if_ge hK (tgt := 97) (irm (by omega) (by omega)) dX12_loadBand_90 (by decide) (fun hb90_24 => ?_) (fun hb90_24 => ?_)
                · exfalso; omega
                · refine TT_iconst hK dX12_loadBand_93 ?_
                  refine TT_goto hK (tgt := 98) dX12_loadBand_94 (by decide) ?_
                  refine TT_zast hK (o := 85) (n := 1280) (by decide) rfl (by omega) (by omega) (by first | decide | omega) dX12_loadBand_98 ?_
                  refine TT_hp (h' := setO (setO w15_4 84 (fup (w15_4 84) (((64 * b) + (8 * y)) + x) (-((h 77) ((f + (8 * y)) + x))))) 85 (fup (w15_4 85) (((64 * b) + (8 * y)) + x) 1)) (up_can (sOf_ne _ _ (by decide)) rfl rfl) ?_
                  have hT_25 : TY (setO (setO w15_4 84 (fup (w15_4 84) (((64 * b) + (8 * y)) + x) (-((h 77) ((f + (8 * y)) + x))))) 85 (fup (w15_4 85) (((64 * b) + (8 * y)) + x) 1)) := tu_85 hT_23 (show up (setO w15_4 84 (fup (w15_4 84) (((64 * b) + (8 * y)) + x) (-((h 77) ((f + (8 * y)) + x))))) 85 (((64 * b) + (8 * y)) + x) 1 = (setO (setO w15_4 84 (fup (w15_4 84) (((64 * b) + (8 * y)) + x) (-((h 77) ((f + (8 * y)) + x))))) 85 (fup (w15_4 85) (((64 * b) + (8 * y)) + x) 1)) from up_can (sOf_ne _ _ (by decide)) rfl rfl) (by omega)
                  have hF_25 : FRM [84, 85] [] h (setO (setO w15_4 84 (fup (w15_4 84) (((64 * b) + (8 * y)) + x) (-((h 77) ((f + (8 * y)) + x))))) 85 (fup (w15_4 85) (((64 * b) + (8 * y)) + x) 1)) := FRM_up (show up (setO w15_4 84 (fup (w15_4 84) (((64 * b) + (8 * y)) + x) (-((h 77) ((f + (8 * y)) + x))))) 85 (((64 * b) + (8 * y)) + x) 1 = (setO (setO w15_4 84 (fup (w15_4 84) (((64 * b) + (8 * y)) + x) (-((h 77) ((f + (8 * y)) + x))))) 85 (fup (w15_4 85) (((64 * b) + (8 * y)) + x) 1)) from up_can (sOf_ne _ _ (by decide)) rfl rfl) hF_23 (by decide) (by decide)
                  refine TT_iinc hK (v := x + 1) (lv' := [(4, vI (x + 1)), (5, vI ((h 77) ((f + (8 * y)) + x))), (0, vR 73), (1, vI b), (2, vI f), (3, vI y)]) 5 rfl rfl (by decide) rfl dX12_loadBand_99 ?_
                  refine TT_goto hK (tgt := 15) dX12_loadBand_102 (by decide) ?_
                  refine TT_sub [2, 3, 4, 5, 0] rfl ?_
                  have e26_84 : (setO (setO w15_4 84 (fup (w15_4 84) (((64 * b) + (8 * y)) + x) (-((h 77) ((f + (8 * y)) + x))))) 85 (fup (w15_4 85) (((64 * b) + (8 * y)) + x) 1)) 84 = fup (w15_4 84) (((64 * b) + (8 * y)) + x) (-((h 77) ((f + (8 * y)) + x))) := (sOf_ne _ _ (by decide)).trans (sOf_eq _ _ _)
                  have e27_85 : (setO (setO w15_4 84 (fup (w15_4 84) (((64 * b) + (8 * y)) + x) (-((h 77) ((f + (8 * y)) + x))))) 85 (fup (w15_4 85) (((64 * b) + (8 * y)) + x) 1)) 85 = fup (w15_4 85) (((64 * b) + (8 * y)) + x) 1 := sOf_eq _ _ _
                  have e28_84 : (setO (setO w15_4 84 (fup (w15_4 84) (((64 * b) + (8 * y)) + x) (-((h 77) ((f + (8 * y)) + x))))) 85 (fup (w15_4 85) (((64 * b) + (8 * y)) + x) 1)) 84 = fup (w15_4 84) (((64 * b) + (8 * y)) + x) (-((h 77) ((f + (8 * y)) + x))) := (sOf_ne _ _ (by decide)).trans (sOf_eq _ _ _)
                  have e29_85 : (setO (setO w15_4 84 (fup (w15_4 84) (((64 * b) + (8 * y)) + x) (-((h 77) ((f + (8 * y)) + x))))) 85 (fup (w15_4 85) (((64 * b) + (8 * y)) + x) 1)) 85 = fup (w15_4 85) (((64 * b) + (8 * y)) + x) 1 := sOf_eq _ _ _
                  have e30_84 : (setO (setO w15_4 84 (fup (w15_4 84) (((64 * b) + (8 * y)) + x) (-((h 77) ((f + (8 * y)) + x))))) 85 (fup (w15_4 85) (((64 * b) + (8 * y)) + x) 1)) 84 = fup (w15_4 84) (((64 * b) + (8 * y)) + x) (-((h 77) ((f + (8 * y)) + x))) := (sOf_ne _ _ (by decide)).trans (sOf_eq _ _ _)
                  have e31_85 : (setO (setO w15_4 84 (fup (w15_4 84) (((64 * b) + (8 * y)) + x) (-((h 77) ((f + (8 * y)) + x))))) 85 (fup (w15_4 85) (((64 * b) + (8 * y)) + x) 1)) 85 = fup (w15_4 85) (((64 * b) + (8 * y)) + x) 1 := sOf_eq _ _ _
                  have e32_84 : (setO (setO w15_4 84 (fup (w15_4 84) (((64 * b) + (8 * y)) + x) (-((h 77) ((f + (8 * y)) + x))))) 85 (fup (w15_4 85) (((64 * b) + (8 * y)) + x) 1)) 84 = fup (w15_4 84) (((64 * b) + (8 * y)) + x) (-((h 77) ((f + (8 * y)) + x))) := (sOf_ne _ _ (by decide)).trans (sOf_eq _ _ _)
                  have e33_85 : (setO (setO w15_4 84 (fup (w15_4 84) (((64 * b) + (8 * y)) + x) (-((h 77) ((f + (8 * y)) + x))))) 85 (fup (w15_4 85) (((64 * b) + (8 * y)) + x) 1)) 85 = fup (w15_4 85) (((64 * b) + (8 * y)) + x) 1 := sOf_eq _ _ _
                  have e34_84 : (setO (setO w15_4 84 (fup (w15_4 84) (((64 * b) + (8 * y)) + x) (-((h 77) ((f + (8 * y)) + x))))) 85 (fup (w15_4 85) (((64 * b) + (8 * y)) + x) 1)) 84 = fup (w15_4 84) (((64 * b) + (8 * y)) + x) (-((h 77) ((f + (8 * y)) + x))) := (sOf_ne _ _ (by decide)).trans (sOf_eq _ _ _)
                  have e35_85 : (setO (setO w15_4 84 (fup (w15_4 84) (((64 * b) + (8 * y)) + x) (-((h 77) ((f + (8 * y)) + x))))) 85 (fup (w15_4 85) (((64 * b) + (8 * y)) + x) 1)) 85 = fup (w15_4 85) (((64 * b) + (8 * y)) + x) 1 := sOf_eq _ _ _
                  have e36_84 : (setO (setO w15_4 84 (fup (w15_4 84) (((64 * b) + (8 * y)) + x) (-((h 77) ((f + (8 * y)) + x))))) 85 (fup (w15_4 85) (((64 * b) + (8 * y)) + x) 1)) 84 = fup (w15_4 84) (((64 * b) + (8 * y)) + x) (-((h 77) ((f + (8 * y)) + x))) := (sOf_ne _ _ (by decide)).trans (sOf_eq _ _ _)
                  exact ih4 (x + 1) (setO (setO w15_4 84 (fup (w15_4 84) (((64 * b) + (8 * y)) + x) (-((h 77) ((f + (8 * y)) + x))))) 85 (fup (w15_4 85) (((64 * b) + (8 * y)) + x) 1)) hT_25 hF_25 (by first | omega | (simp [up, setR] <;> omega)) (by rewrite [e26_84, e27_85]; intro x2 y2 g1 g2 g3 g4; rw [fup_ne _ _ (show 64 * b + 8 * y2 + x2 ≠ 64 * b + 8 * y + x by omega), fup_ne _ _ (show 64 * b + 8 * y2 + x2 ≠ 64 * b + 8 * y + x by omega)]; exact hl x2 y2 g1 g2 g3 g4) (by rewrite [e28_84, e29_85]; intro x2 g1 g2; by_cases e : x2 = x; (rw [e, fup_eq, fup_eq]; unfold sgn; first | rw [if_pos rfl] | (rw [if_neg (by decide)]; omega)); (rw [fup_ne _ _ (show 64 * b + 8 * y + x2 ≠ 64 * b + 8 * y + x by omega), fup_ne _ _ (show 64 * b + 8 * y + x2 ≠ 64 * b + 8 * y + x by omega)]; exact hm x2 g1 (by omega))) (by rewrite [e30_84, e31_85]; intro j hj; rw [fup_ne _ _ (show j ≠ 64 * b + 8 * y + x by omega), fup_ne _ _ (show j ≠ 64 * b + 8 * y + x by omega)]; exact ho j hj) (by rewrite [e32_84, e33_85]; intro x2 y2 g1 g2 g3 g4; rw [fup_ne _ _ (show 64 * b + 8 * y2 + x2 ≠ 64 * b + 8 * y + x by omega), fup_ne _ _ (show 64 * b + 8 * y2 + x2 ≠ 64 * b + 8 * y + x by omega)]; exact hl4 x2 y2 g1 g2 g3 g4) (by rewrite [e34_84, e35_85]; intro x2 g1 g2; by_cases e : x2 = x; (rw [e, fup_eq, fup_eq]; exact ⟨by omega, by first | rw [if_pos (by omega)] | rw [if_neg (by omega)]⟩); (rw [fup_ne _ _ (show 64 * b + 8 * y + x2 ≠ 64 * b + 8 * y + x by omega), fup_ne _ _ (show 64 * b + 8 * y + x2 ≠ 64 * b + 8 * y + x by omega)]; exact hm4 x2 g1 (by omega))) (by rewrite [e36_84]; intro x2 y2 g1 g2 g3 g4 g5; rw [fup_ne _ _ (show 64 * b + 8 * y2 + x2 ≠ 64 * b + 8 * y + x by omega)]; exact hz4 x2 y2 g1 g2 g3 g4 g5) (by first | omega | (simp [up, setR] <;> omega))
        refine TT_sub [1, 2, 3, 4, 0] rfl ?_
        exact L15_4 ((((8 : Int) - 0).toNat) + 1) 0 w2_1 hT2_1 hF2_1 (by first | omega | (simp [up, setR] <;> omega)) (by exact hl) (by intro x2 g1 g2; exfalso; omega) (by exact ho) (by exact hl4) (by intro x2 g1 g2; exfalso; omega) (by exact hz4) (Nat.lt_succ_self _)
  refine TT_sub [1, 2, 3, 0] rfl ?_
  exact L2_1 ((((8 : Int) - 0).toNat) + 1) 0 h hT hF (by first | omega | (simp [up, setR] <;> omega)) (by intro x2 y2 g1 g2 g3 g4; exfalso; omega) (by (intro j hj; exact ⟨rfl, rfl⟩)) (by intro x2 y2 g1 g2 g3 g4; exfalso; omega) (by intro x2 y2 g1 g2 g3 g4 g5; rfl) (Nat.lt_succ_self _)

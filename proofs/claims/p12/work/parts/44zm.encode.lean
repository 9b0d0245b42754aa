theorem ENC_ms {M sq sz bl wd hd P : Int → Int} {b z w g W H l : Int} (hw : 0 ≤ w ∧ w ≤ 8) (hg : 0 ≤ g ∧ g ≤ 8) (hc : 0 ≤ CX W l b ∧ 0 ≤ CY H l b ∧ CX W l b + w ≤ 8 ∧ CY H l b + g ≤ 8) (hx : ∀ i : Int, 0 ≤ i → i < 64 → sq i = LE W H P l i) (hz : z = 8 * CY H l b + CX W l b) (hl : ∀ x y : Int, 0 ≤ x → x < wd b → 0 ≤ y → y < hd b → sz (64 * b + 8 * y + x) = ((sq (z + 8 * y + x)).natAbs : Int) ∧ bl (64 * b + 8 * y + x) = if sq (z + 8 * y + x) < 0 then 1 else 0) (ew : wd b = w) (eg : hd b = g) (hm : MRN (NBE W H P l b) w g M) : MSQ M sz bl b (wd b) (hd b) := by
  intro x y h1 h2 h3 h4
  have k := hl x y h1 h2 h3 h4
  rw [ew] at h2
  rw [eg] at h4
  rw [hm x y h1 h2 h3 h4]
  unfold NBE
  rw [hz, hx _ (by omega) (by omega)] at k
  exact k
theorem ENC_c1 {M B wd hd kf : Int → Int} {s : TS_} {b w g q n : Int} (h : CWR M s (wd b) (hd b) (kf b) q B n) (ew : wd b = w) (eg : hd b = g) (ek : kf b = kdB b) : CWR M s w g (kdB b) q B n := by
  rw [ew, eg, ek] at h
  exact h
theorem ENC_pl {sq sz sz0 bl wd hd P : Int → Int} {b z w g W H l p : Int} (hp : PZQ sz b (64 * b + 64) p) (hl : ∀ x y : Int, 0 ≤ x → x < wd b → 0 ≤ y → y < hd b → sz (64 * b + 8 * y + x) = ((sq (z + 8 * y + x)).natAbs : Int) ∧ bl (64 * b + 8 * y + x) = if sq (z + 8 * y + x) < 0 then 1 else 0) (ho : ∀ x y : Int, 0 ≤ x → x < 8 → 0 ≤ y → y < 8 → (wd b ≤ x ∨ hd b ≤ y) → sz (64 * b + 8 * y + x) = sz0 (64 * b + 8 * y + x)) (hs : ∀ x y : Int, 0 ≤ x → x < 8 → 0 ≤ y → y < 8 → sz0 (64 * b + 8 * y + x) = 0)
    (hw : 0 ≤ w ∧ w ≤ 8) (hg : 0 ≤ g ∧ g ≤ 8) (hc : 0 ≤ CX W l b ∧ 0 ≤ CY H l b ∧ CX W l b + w ≤ 8 ∧ CY H l b + g ≤ 8) (hx : ∀ i : Int, 0 ≤ i → i < 64 → sq i = LE W H P l i) (hz : z = 8 * CY H l b + CX W l b) (ew : wd b = w) (eg : hd b = g) : PLN (NBE W H P l b) w g p := by
  refine PZQ_P hp ⟨hw.2, hg.2⟩ (fun x y h1 h2 h3 h4 h5 => ?_) (fun x y h1 h2 h3 h4 => ?_)
  · rw [ho x y h1 h2 h3 h4 (by rw [ew, eg]; exact h5)]
    exact hs x y h1 h2 h3 h4
  · have k := (hl x y h1 (by omega) h3 (by omega)).1
    rw [hz, hx _ (by omega) (by omega)] at k
    exact k.symm
set_option maxRecDepth 20000 in
theorem s_encode_y (Mf : Int → Int → Int) (sf : Int → TS_) (l n : Int) (h : Hp_) (hT : TY h) (hl : -2147483648 ≤ l ∧ l ≤ 2147483647) (hn : -2147483648 ≤ n ∧ n ≤ 2147483647) (htb : TBL (h 74) (h 75)) (hmi : MIQ (h 90) (h 91)) (hsf : ∀ c : Int, TS0 (sf c)) (hmf : ((0 ≤ l ∧ l ≤ 3) ∧ (1 ≤ n ∧ n ≤ 3)) → ∀ c : Int, 0 ≤ c → c < 3 * l + 1 → MRN (NBE (h 73 3) (h 73 4) (fun i => (h 76) i - 128) l c) (BW (h 73 3) l c) (BH (h 73 4) l c) (Mf c)) : Ctr yX12_encode cX12_encode 6 (some .int) (rmd 10) ly ly 0 0 [vR 73, vI l, vI n] h (fun r h' => (TY h' ∧ FRM [73, 77, 78, 79, 80, 81, 82, 83, 84, 85, 86, 87, 88, 89, 90, 91, 92, 93, 94, 95, 96, 97, 98, 99, 100] [2, 18, 26, 27, 28, 29, 32, 33, 34, 36, 38, 39, 41, 42, 43] h h') ∧ ∃ z : Int, r = some (vI z) ∧ (0 ≤ z ∧ z ≤ 4400) ∧ (MIQ (h' 90) (h' 91)) ∧ ((0 ≤ l ∧ l ≤ 3) ∧ (1 ≤ n ∧ n ≤ 3) → (h' 73 18) = 3 * l + 1 ∧ (∀ j : Int, 0 ≤ j → j < 3 * l + 1 → (h' 80) j = BW (h 73 3) l j ∧ (h' 81) j = BH (h 73 4) l j) ∧ (∀ b2 x2 y2 : Int, 0 ≤ b2 → b2 < 3 * l + 1 → 0 ≤ x2 → x2 < BW (h 73 3) l b2 → 0 ≤ y2 → y2 < BH (h 73 4) l b2 → sgn ((h' 85) (64 * b2 + 8 * y2 + x2)) ((h' 84) (64 * b2 + 8 * y2 + x2)) = LE (h 73 3) (h 73 4) (fun i => (h 76) i - 128) l (8 * CY (h 73 4) l b2 + CX (h 73 3) l b2 + 8 * y2 + x2))) ∧ (¬((0 ≤ l ∧ l ≤ 3) ∧ (1 ≤ n ∧ n ≤ 3)) → (h' 73 18) = (h 73 18) ∧ (h' 80) = (h 80) ∧ (h' 81) = (h 81) ∧ (h' 84) = (h 84) ∧ (h' 85) = (h 85)) ∧ (((0 ≤ l ∧ l ≤ 3) ∧ (1 ≤ n ∧ n ≤ 3)) → CWQ Mf sf (h 73 3) (h 73 4) (fun i => (h 76) i - 128) l (3 * l + 1) (h' 83) (h' 89) (h' 90) (h' 91)) ∧ (¬((0 ≤ l ∧ l ≤ 3) ∧ (1 ≤ n ∧ n ≤ 3)) → (h' 83) = (h 83) ∧ (h' 89) = (h 89) ∧ (h' 90) = (h 90) ∧ (h' 91) = (h 91))) := by
  refine Ctr_of (by decide) (Nat.le_of_ble_eq_true rfl) ⟨Nat.le_refl _, Nat.le_refl _⟩ (fun K hK hQ _ => ?_)
  show TT K ly 0 0 0 [(0, vR 73), (1, vI l), (2, vI n)] [] h
  have hF : FRM [73, 77, 78, 79, 80, 81, 82, 83, 84, 85, 86, 87, 88, 89, 90, 91, 92, 93, 94, 95, 96, 97, 98, 99, 100] [2, 18, 26, 27, 28, 29, 32, 33, 34, 36, 38, 39, 41, 42, 43] h h := FRM_rf _ _ _
  have rW := ty_73_3 (v := h 73 3) hT rfl
  have rH := ty_73_4 (v := h 73 4) hT rfl
  refine TT_aload_n hK rfl 0 rfl dX12_encode_0 ?_
  refine TT_iload_n hK rfl 1 rfl dX12_encode_1 ?_
  refine TT_iconst hK dX12_encode_2 ?_
  refine TT_iconst hK dX12_encode_3 ?_
  refine iv_X12_120 hK (s_X12_within l 0 3 h hT (by first | omega | (simp [up, setR] <;> omega)) (by first | omega | (simp [up, setR] <;> omega)) (by first | omega | (simp [up, setR] <;> omega))) ⟨by decide, by decide⟩ (by decide) rfl rfl (Nat.le_of_ble_eq_true rfl) ⟨by decide, by decide⟩ dX12_encode_4 ?_
  intro r9 g4_1 hp9
  obtain ⟨⟨hT_1, hG_1⟩, z4_1, hr9, hz_1, p1_1, p2_1⟩ := hp9
  rw [hr9]
  have hF_1 : FRM [73, 77, 78, 79, 80, 81, 82, 83, 84, 85, 86, 87, 88, 89, 90, 91, 92, 93, 94, 95, 96, 97, 98, 99, 100] [2, 18, 26, 27, 28, 29, 32, 33, 34, 36, 38, 39, 41, 42, 43] h g4_1 := FRM_tr hF hG_1 (by decide) (by decide)
  show TT K ly 0 0 7 [(0, vR 73), (1, vI l), (2, vI n)] [vI z4_1, vR 73] g4_1
  refine TT_if_eq hK (tgt := 23) (irm (by omega) (by omega)) dX12_encode_7 (by decide) (fun hb7_2 => ?_) (fun hb7_2 => ?_)
  · refine TT_iconst hK dX12_encode_23 ?_
    refine pf_X12_117 hK (by decide) rfl dX12_encode_24 ?_
    refine TT_hp (h' := setO g4_1 73 (fup (h 73) 2 1)) (up_can (hG_1.1 73 (by decide)) rfl rfl) ?_
    have hT_3 : TY (setO g4_1 73 (fup (h 73) 2 1)) := tu_73_2 hT_1 (show up g4_1 73 2 1 = (setO g4_1 73 (fup (h 73) 2 1)) from up_can (hG_1.1 73 (by decide)) rfl rfl) (by omega)
    have hF_3 : FRM [73, 77, 78, 79, 80, 81, 82, 83, 84, 85, 86, 87, 88, 89, 90, 91, 92, 93, 94, 95, 96, 97, 98, 99, 100] [2, 18, 26, 27, 28, 29, 32, 33, 34, 36, 38, 39, 41, 42, 43] h (setO g4_1 73 (fup (h 73) 2 1)) := FRM_f (show up g4_1 73 2 1 = (setO g4_1 73 (fup (h 73) 2 1)) from up_can (hG_1.1 73 (by decide)) rfl rfl) hF_1 (by decide) (by decide)
    refine TT_aload_n hK rfl 0 rfl dX12_encode_27 ?_
    refine gf_X12_117 hK (by decide) rfl (v := 1) (rd_ (sOf_eq _ _ _) (fup_eq _ _ _)) dX12_encode_28 ?_
    refine TT_if_le hK (tgt := 36) (by decide) dX12_encode_31 (by decide) (fun hb31_4 => ?_) (fun hb31_4 => ?_)
    · exact absurd hb31_4 (by decide)
    · refine TT_iconst hK dX12_encode_34 ?_
      refine TT_iret hK hQ ?_ dX12_encode_35
      have e5_90 : (setO g4_1 73 (fup (h 73) 2 1)) 90 = h 90 := (sOf_ne _ _ (by decide)).trans (hG_1.1 90 (by decide))
      have e6_91 : (setO g4_1 73 (fup (h 73) 2 1)) 91 = h 91 := (sOf_ne _ _ (by decide)).trans (hG_1.1 91 (by decide))
      have e7_73_18 : (setO g4_1 73 (fup (h 73) 2 1)) 73 18 = (h 73) 18 := rd_ (sOf_eq _ _ _) (fup_ne _ _ (by decide))
      have e8_80 : (setO g4_1 73 (fup (h 73) 2 1)) 80 = h 80 := (sOf_ne _ _ (by decide)).trans (hG_1.1 80 (by decide))
      have e9_81 : (setO g4_1 73 (fup (h 73) 2 1)) 81 = h 81 := (sOf_ne _ _ (by decide)).trans (hG_1.1 81 (by decide))
      have e10_84 : (setO g4_1 73 (fup (h 73) 2 1)) 84 = h 84 := (sOf_ne _ _ (by decide)).trans (hG_1.1 84 (by decide))
      have e11_85 : (setO g4_1 73 (fup (h 73) 2 1)) 85 = h 85 := (sOf_ne _ _ (by decide)).trans (hG_1.1 85 (by decide))
      have e12_73_18 : (setO g4_1 73 (fup (h 73) 2 1)) 73 18 = (h 73) 18 := rd_ (sOf_eq _ _ _) (fup_ne _ _ (by decide))
      have e13_80 : (setO g4_1 73 (fup (h 73) 2 1)) 80 = h 80 := (sOf_ne _ _ (by decide)).trans (hG_1.1 80 (by decide))
      have e14_81 : (setO g4_1 73 (fup (h 73) 2 1)) 81 = h 81 := (sOf_ne _ _ (by decide)).trans (hG_1.1 81 (by decide))
      have e15_84 : (setO g4_1 73 (fup (h 73) 2 1)) 84 = h 84 := (sOf_ne _ _ (by decide)).trans (hG_1.1 84 (by decide))
      have e16_85 : (setO g4_1 73 (fup (h 73) 2 1)) 85 = h 85 := (sOf_ne _ _ (by decide)).trans (hG_1.1 85 (by decide))
      have e17_83 : (setO g4_1 73 (fup (h 73) 2 1)) 83 = h 83 := (sOf_ne _ _ (by decide)).trans (hG_1.1 83 (by decide))
      have e18_89 : (setO g4_1 73 (fup (h 73) 2 1)) 89 = h 89 := (sOf_ne _ _ (by decide)).trans (hG_1.1 89 (by decide))
      have e19_90 : (setO g4_1 73 (fup (h 73) 2 1)) 90 = h 90 := (sOf_ne _ _ (by decide)).trans (hG_1.1 90 (by decide))
      have e20_91 : (setO g4_1 73 (fup (h 73) 2 1)) 91 = h 91 := (sOf_ne _ _ (by decide)).trans (hG_1.1 91 (by decide))
      have e21_83 : (setO g4_1 73 (fup (h 73) 2 1)) 83 = h 83 := (sOf_ne _ _ (by decide)).trans (hG_1.1 83 (by decide))
      have e22_89 : (setO g4_1 73 (fup (h 73) 2 1)) 89 = h 89 := (sOf_ne _ _ (by decide)).trans (hG_1.1 89 (by decide))
      have e23_90 : (setO g4_1 73 (fup (h 73) 2 1)) 90 = h 90 := (sOf_ne _ _ (by decide)).trans (hG_1.1 90 (by decide))
      have e24_91 : (setO g4_1 73 (fup (h 73) 2 1)) 91 = h 91 := (sOf_ne _ _ (by decide)).trans (hG_1.1 91 (by decide))
      exact ⟨⟨hT_3, hF_3⟩, 0, rfl, (by omega), (by rewrite [e5_90, e6_91]; exact hmi), (by rewrite [e7_73_18, e8_80, e9_81, e10_84, e11_85]; first | (intro q; exfalso; omega)), (by rewrite [e12_73_18, e13_80, e14_81, e15_84, e16_85]; first | exact (fun _ => ⟨rfl, rfl, rfl, rfl, rfl⟩) | (intro q; exfalso; omega)), (by rewrite [e17_83, e18_89, e19_90, e20_91]; first | (intro q; exfalso; omega)), (by rewrite [e21_83, e22_89, e23_90, e24_91]; first | exact (fun _ => ⟨rfl, rfl, rfl, rfl⟩) | (intro q; exfalso; omega))⟩
  · refine TT_iload_n hK rfl 2 rfl dX12_encode_10 ?_
    refine TT_iconst hK dX12_encode_11 ?_
    refine TT_iconst hK dX12_encode_12 ?_
    refine iv_X12_120 hK (s_X12_within n 1 3 g4_1 hT_1 (by first | omega | (simp [up, setR] <;> omega)) (by first | omega | (simp [up, setR] <;> omega)) (by first | omega | (simp [up, setR] <;> omega))) ⟨by decide, by decide⟩ (by decide) rfl rfl (Nat.le_of_ble_eq_true rfl) ⟨by decide, by decide⟩ dX12_encode_13 ?_
    intro r9 g13_25 hp9
    obtain ⟨⟨hT_25, hG_25⟩, z13_25, hr9, hz_25, p1_25, p2_25⟩ := hp9
    rw [hr9]
    have hF_25 : FRM [73, 77, 78, 79, 80, 81, 82, 83, 84, 85, 86, 87, 88, 89, 90, 91, 92, 93, 94, 95, 96, 97, 98, 99, 100] [2, 18, 26, 27, 28, 29, 32, 33, 34, 36, 38, 39, 41, 42, 43] h g13_25 := FRM_tr hF_1 hG_25 (by decide) (by decide)
    show TT K ly 0 0 16 [(0, vR 73), (1, vI l), (2, vI n)] [vI z13_25, vR 73] g13_25
    refine TT_if_eq hK (tgt := 23) (irm (by omega) (by omega)) dX12_encode_16 (by decide) (fun hb16_26 => ?_) (fun hb16_26 => ?_)
    · refine TT_iconst hK dX12_encode_23 ?_
      refine pf_X12_117 hK (by decide) rfl dX12_encode_24 ?_
      refine TT_hp (h' := setO g13_25 73 (fup (h 73) 2 1)) (up_can (((hG_25.1 73 (by decide))).trans (hG_1.1 73 (by decide))) rfl rfl) ?_
      have hT_27 : TY (setO g13_25 73 (fup (h 73) 2 1)) := tu_73_2 hT_25 (show up g13_25 73 2 1 = (setO g13_25 73 (fup (h 73) 2 1)) from up_can (((hG_25.1 73 (by decide))).trans (hG_1.1 73 (by decide))) rfl rfl) (by omega)
      have hF_27 : FRM [73, 77, 78, 79, 80, 81, 82, 83, 84, 85, 86, 87, 88, 89, 90, 91, 92, 93, 94, 95, 96, 97, 98, 99, 100] [2, 18, 26, 27, 28, 29, 32, 33, 34, 36, 38, 39, 41, 42, 43] h (setO g13_25 73 (fup (h 73) 2 1)) := FRM_f (show up g13_25 73 2 1 = (setO g13_25 73 (fup (h 73) 2 1)) from up_can (((hG_25.1 73 (by decide))).trans (hG_1.1 73 (by decide))) rfl rfl) hF_25 (by decide) (by decide)
      refine TT_aload_n hK rfl 0 rfl dX12_encode_27 ?_
      refine gf_X12_117 hK (by decide) rfl (v := 1) (rd_ (sOf_eq _ _ _) (fup_eq _ _ _)) dX12_encode_28 ?_
      refine TT_if_le hK (tgt := 36) (by decide) dX12_encode_31 (by decide) (fun hb31_28 => ?_) (fun hb31_28 => ?_)
      · exact absurd hb31_28 (by decide)
      · refine TT_iconst hK dX12_encode_34 ?_
        refine TT_iret hK hQ ?_ dX12_encode_35
        have e29_90 : (setO g13_25 73 (fup (h 73) 2 1)) 90 = h 90 := (sOf_ne _ _ (by decide)).trans (((hG_25.1 90 (by decide))).trans (hG_1.1 90 (by decide)))
        have e30_91 : (setO g13_25 73 (fup (h 73) 2 1)) 91 = h 91 := (sOf_ne _ _ (by decide)).trans (((hG_25.1 91 (by decide))).trans (hG_1.1 91 (by decide)))
        have e31_73_18 : (setO g13_25 73 (fup (h 73) 2 1)) 73 18 = (h 73) 18 := rd_ (sOf_eq _ _ _) (fup_ne _ _ (by decide))
        have e32_80 : (setO g13_25 73 (fup (h 73) 2 1)) 80 = h 80 := (sOf_ne _ _ (by decide)).trans (((hG_25.1 80 (by decide))).trans (hG_1.1 80 (by decide)))
        have e33_81 : (setO g13_25 73 (fup (h 73) 2 1)) 81 = h 81 := (sOf_ne _ _ (by decide)).trans (((hG_25.1 81 (by decide))).trans (hG_1.1 81 (by decide)))
        have e34_84 : (setO g13_25 73 (fup (h 73) 2 1)) 84 = h 84 := (sOf_ne _ _ (by decide)).trans (((hG_25.1 84 (by decide))).trans (hG_1.1 84 (by decide)))
        have e35_85 : (setO g13_25 73 (fup (h 73) 2 1)) 85 = h 85 := (sOf_ne _ _ (by decide)).trans (((hG_25.1 85 (by decide))).trans (hG_1.1 85 (by decide)))
        have e36_73_18 : (setO g13_25 73 (fup (h 73) 2 1)) 73 18 = (h 73) 18 := rd_ (sOf_eq _ _ _) (fup_ne _ _ (by decide))
        have e37_80 : (setO g13_25 73 (fup (h 73) 2 1)) 80 = h 80 := (sOf_ne _ _ (by decide)).trans (((hG_25.1 80 (by decide))).trans (hG_1.1 80 (by decide)))
        have e38_81 : (setO g13_25 73 (fup (h 73) 2 1)) 81 = h 81 := (sOf_ne _ _ (by decide)).trans (((hG_25.1 81 (by decide))).trans (hG_1.1 81 (by decide)))
        have e39_84 : (setO g13_25 73 (fup (h 73) 2 1)) 84 = h 84 := (sOf_ne _ _ (by decide)).trans (((hG_25.1 84 (by decide))).trans (hG_1.1 84 (by decide)))
        have e40_85 : (setO g13_25 73 (fup (h 73) 2 1)) 85 = h 85 := (sOf_ne _ _ (by decide)).trans (((hG_25.1 85 (by decide))).trans (hG_1.1 85 (by decide)))
        have e41_83 : (setO g13_25 73 (fup (h 73) 2 1)) 83 = h 83 := (sOf_ne _ _ (by decide)).trans (((hG_25.1 83 (by decide))).trans (hG_1.1 83 (by decide)))
        have e42_89 : (setO g13_25 73 (fup (h 73) 2 1)) 89 = h 89 := (sOf_ne _ _ (by decide)).trans (((hG_25.1 89 (by decide))).trans (hG_1.1 89 (by decide)))
        have e43_90 : (setO g13_25 73 (fup (h 73) 2 1)) 90 = h 90 := (sOf_ne _ _ (by decide)).trans (((hG_25.1 90 (by decide))).trans (hG_1.1 90 (by decide)))
        have e44_91 : (setO g13_25 73 (fup (h 73) 2 1)) 91 = h 91 := (sOf_ne _ _ (by decide)).trans (((hG_25.1 91 (by decide))).trans (hG_1.1 91 (by decide)))
        have e45_83 : (setO g13_25 73 (fup (h 73) 2 1)) 83 = h 83 := (sOf_ne _ _ (by decide)).trans (((hG_25.1 83 (by decide))).trans (hG_1.1 83 (by decide)))
        have e46_89 : (setO g13_25 73 (fup (h 73) 2 1)) 89 = h 89 := (sOf_ne _ _ (by decide)).trans (((hG_25.1 89 (by decide))).trans (hG_1.1 89 (by decide)))
        have e47_90 : (setO g13_25 73 (fup (h 73) 2 1)) 90 = h 90 := (sOf_ne _ _ (by decide)).trans (((hG_25.1 90 (by decide))).trans (hG_1.1 90 (by decide)))
        have e48_91 : (setO g13_25 73 (fup (h 73) 2 1)) 91 = h 91 := (sOf_ne _ _ (by decide)).trans (((hG_25.1 91 (by decide))).trans (hG_1.1 91 (by decide)))
        exact ⟨⟨hT_27, hF_27⟩, 0, rfl, (by omega), (by rewrite [e29_90, e30_91]; exact hmi), (by rewrite [e31_73_18, e32_80, e33_81, e34_84, e35_85]; first | (intro q; exfalso; omega)), (by rewrite [e36_73_18, e37_80, e38_81, e39_84, e40_85]; first | exact (fun _ => ⟨rfl, rfl, rfl, rfl, rfl⟩) | (intro q; exfalso; omega)), (by rewrite [e41_83, e42_89, e43_90, e44_91]; first | (intro q; exfalso; omega)), (by rewrite [e45_83, e46_89, e47_90, e48_91]; first | exact (fun _ => ⟨rfl, rfl, rfl, rfl⟩) | (intro q; exfalso; omega))⟩
    · refine TT_iconst hK dX12_encode_19 ?_
      refine TT_goto hK (tgt := 24) dX12_encode_20 (by decide) ?_
      refine pf_X12_117 hK (by decide) rfl dX12_encode_24 ?_
      refine TT_hp (h' := setO g13_25 73 (fup (h 73) 2 0)) (up_can (((hG_25.1 73 (by decide))).trans (hG_1.1 73 (by decide))) rfl rfl) ?_
      have hT_49 : TY (setO g13_25 73 (fup (h 73) 2 0)) := tu_73_2 hT_25 (show up g13_25 73 2 0 = (setO g13_25 73 (fup (h 73) 2 0)) from up_can (((hG_25.1 73 (by decide))).trans (hG_1.1 73 (by decide))) rfl rfl) (by omega)
      have hF_49 : FRM [73, 77, 78, 79, 80, 81, 82, 83, 84, 85, 86, 87, 88, 89, 90, 91, 92, 93, 94, 95, 96, 97, 98, 99, 100] [2, 18, 26, 27, 28, 29, 32, 33, 34, 36, 38, 39, 41, 42, 43] h (setO g13_25 73 (fup (h 73) 2 0)) := FRM_f (show up g13_25 73 2 0 = (setO g13_25 73 (fup (h 73) 2 0)) from up_can (((hG_25.1 73 (by decide))).trans (hG_1.1 73 (by decide))) rfl rfl) hF_25 (by decide) (by decide)
      refine TT_aload_n hK rfl 0 rfl dX12_encode_27 ?_
      refine gf_X12_117 hK (by decide) rfl (v := 0) (rd_ (sOf_eq _ _ _) (fup_eq _ _ _)) dX12_encode_28 ?_
      refine TT_if_le hK (tgt := 36) (by decide) dX12_encode_31 (by decide) (fun hb31_50 => ?_) (fun hb31_50 => ?_)
      · refine TT_iconst hK dX12_encode_36 ?_
        refine TT_istore_n hK rfl (lv' := [(3, vI 0), (0, vR 73), (1, vI l), (2, vI n)]) (by decide) rfl dX12_encode_37 ?_
        have L38_51 : ∀ (k51 : Nat) (k : Int) (w38_51 : Hp_), TY w38_51 → FRM [73, 77, 78, 79, 80, 81, 82, 83, 84, 85, 86, 87, 88, 89, 90, 91, 92, 93, 94, 95, 96, 97, 98, 99, 100] [2, 18, 26, 27, 28, 29, 32, 33, 34, 36, 38, 39, 41, 42, 43] h w38_51 → (MIQ (w38_51 90) (w38_51 91)) → (0 ≤ k ∧ k ≤ 64) → (∀ j : Int, 0 ≤ j → j < k → -128 ≤ (w38_51 77) j ∧ (w38_51 77) j ≤ 128) → (∀ j : Int, 0 ≤ j → j < k → (w38_51 77) j = h 76 j - 128) → ((64 : Int) - k).toNat < k51 → TT K ly 0 0 38 [(0, vR 73), (1, vI l), (2, vI n), (3, vI k)] [] w38_51 := by
          intro k51
          induction k51 with
          | zero => intro k w38_51 hT38_51 hF38_51 hmi hk hs0 hs1 hk51; exact absurd hk51 (Nat.not_lt_zero _)
          | succ k51 ih51 =>
            intro k w38_51 hT38_51 hF38_51 hmi hk hs0 hs1 hk51
            refine TT_iload_n hK rfl 3 rfl dX12_encode_38 ?_
            refine TT_bipush hK (by decide) dX12_encode_39 ?_
            refine TT_icmp_ge hK (tgt := 66) (irm (by omega) (by omega)) (by decide) dX12_encode_41 (by decide) (fun hb41_52 => ?_) (fun hb41_52 => ?_)
            · refine TT_iconst hK dX12_encode_66 ?_
              refine TT_istore_n hK rfl (lv' := [(3, vI 0), (0, vR 73), (1, vI l), (2, vI n)]) (by decide) rfl dX12_encode_67 ?_
              have L68_53 : ∀ (k53 : Nat) (lv : Int) (w68_53 : Hp_), TY w68_53 → FRM [73, 77, 78, 79, 80, 81, 82, 83, 84, 85, 86, 87, 88, 89, 90, 91, 92, 93, 94, 95, 96, 97, 98, 99, 100] [2, 18, 26, 27, 28, 29, 32, 33, 34, 36, 38, 39, 41, 42, 43] h w68_53 → (MIQ (w68_53 90) (w68_53 91)) → (0 ≤ lv ∧ lv ≤ l) → (LV (lf (h 73 3) lv) (lf (h 73 4) lv) (BL lv) (w68_53 77)) → (∀ i : Int, 0 ≤ i → i < 64 → (w68_53 77) i = LE (h 73 3) (h 73 4) (fun i => h 76 i - 128) lv i) → ((3 : Int) - lv).toNat < k53 → TT K ly 0 0 68 [(0, vR 73), (1, vI l), (2, vI n), (3, vI lv)] [] w68_53 := by
                intro k53
                induction k53 with
                | zero => intro lv w68_53 hT68_53 hF68_53 hmi hlv hLV hxq hk53; exact absurd hk53 (Nat.not_lt_zero _)
                | succ k53 ih53 =>
                  intro lv w68_53 hT68_53 hF68_53 hmi hlv hLV hxq hk53
                  have l1 := lf_1 (n := h 73 3) (l := lv) rW (by omega)
                  have l2 := lf_1 (n := h 73 4) (l := lv) rH (by omega)
                  have hll : 0 ≤ l ∧ l ≤ 3 := by omega
                  refine TT_iload_n hK rfl 3 rfl dX12_encode_68 ?_
                  refine TT_iload_n hK rfl 1 rfl dX12_encode_69 ?_
                  refine TT_icmp_ge hK (tgt := 121) (irm (by omega) (by omega)) (irm (by omega) (by omega)) dX12_encode_70 (by decide) (fun hb70_54 => ?_) (fun hb70_54 => ?_)
                  · refine TT_aload_n hK rfl 0 rfl dX12_encode_121 ?_
                    refine TT_iconst hK dX12_encode_122 ?_
                    refine TT_aload_n hK rfl 0 rfl dX12_encode_123 ?_
                    refine gf_X12_16 hK (by decide) rfl (v := (h 73) 3) (hF68_53.2 3 (by decide)) dX12_encode_124 ?_
                    have r55 := ty_73_3 (v := (h 73) 3) hT68_53 (hF68_53.2 3 (by decide))
                    refine TT_aload_n hK rfl 0 rfl dX12_encode_127 ?_
                    refine gf_X12_20 hK (by decide) rfl (v := (h 73) 4) (hF68_53.2 4 (by decide)) dX12_encode_128 ?_
                    have r56 := ty_73_4 (v := (h 73) 4) hT68_53 (hF68_53.2 4 (by decide))
                    refine TT_iload_n hK rfl 1 rfl dX12_encode_131 ?_
                    refine iv_X12_342 hK (s_beBands_z 0 ((h 73) 3) ((h 73) 4) l w68_53 hT68_53 (by first | omega | (simp [up, setR] <;> omega)) (by first | omega | (simp [up, setR] <;> omega)) (by first | omega | (simp [up, setR] <;> omega)) (by first | omega | (simp [up, setR] <;> omega))) (by decide) rfl ⟨by decide, by decide⟩ (by decide) rfl rfl (Nat.le_of_ble_eq_true rfl) ⟨by decide, by decide⟩ dX12_encode_132 ?_
                    intro r9 g132_57 hp9
                    obtain ⟨⟨hT_57, hG_57⟩, hr9, q1_57, q2_57, q3_57, q6_57, q7_57, q8_57, q10_57⟩ := hp9
                    rw [hr9]
                    have hF_57 : FRM [73, 77, 78, 79, 80, 81, 82, 83, 84, 85, 86, 87, 88, 89, 90, 91, 92, 93, 94, 95, 96, 97, 98, 99, 100] [2, 18, 26, 27, 28, 29, 32, 33, 34, 36, 38, 39, 41, 42, 43] h g132_57 := FRM_tr hF68_53 hG_57 (by decide) (by decide)
                    have q1_at132 := q1_57
                    have q2_at132 := q2_57
                    have q3_at132 := q3_57
                    have q7_at132 := q7_57
                    have q8_at132 := q8_57
                    show TT K ly 0 0 135 [(0, vR 73), (1, vI l), (2, vI n), (3, vI lv)] [] g132_57
                    refine TT_aload_n hK rfl 0 rfl dX12_encode_135 ?_
                    refine TT_iconst hK dX12_encode_136 ?_
                    refine TT_iload_n hK rfl 1 rfl dX12_encode_137 ?_
                    refine TT_imul hK dX12_encode_138 ?_
                    refine TT_iconst hK dX12_encode_139 ?_
                    refine TT_iadd hK dX12_encode_140 ?_
                    refine pf_X12_345 hK (by decide) rfl dX12_encode_141 ?_
                    refine TT_hp (h' := setO g132_57 73 (fup (w68_53 73) 18 ((3 * l) + 1))) (up_can (hG_57.1 73 (by decide)) rfl rfl) ?_
                    have hT_58 : TY (setO g132_57 73 (fup (w68_53 73) 18 ((3 * l) + 1))) := tu_73_18 hT_57 (show up g132_57 73 18 ((3 * l) + 1) = (setO g132_57 73 (fup (w68_53 73) 18 ((3 * l) + 1))) from up_can (hG_57.1 73 (by decide)) rfl rfl) (by omega)
                    have hF_58 : FRM [73, 77, 78, 79, 80, 81, 82, 83, 84, 85, 86, 87, 88, 89, 90, 91, 92, 93, 94, 95, 96, 97, 98, 99, 100] [2, 18, 26, 27, 28, 29, 32, 33, 34, 36, 38, 39, 41, 42, 43] h (setO g132_57 73 (fup (w68_53 73) 18 ((3 * l) + 1))) := FRM_f (show up g132_57 73 18 ((3 * l) + 1) = (setO g132_57 73 (fup (w68_53 73) 18 ((3 * l) + 1))) from up_can (hG_57.1 73 (by decide)) rfl rfl) hF_57 (by decide) (by decide)
                    refine TT_iconst hK dX12_encode_144 ?_
                    refine TT_istore_n hK rfl (lv' := [(3, vI 0), (0, vR 73), (1, vI l), (2, vI n)]) (by decide) rfl dX12_encode_145 ?_
                    refine TT_iconst hK dX12_encode_146 ?_
                    refine TT_istore hK (lv' := [(4, vI 0), (3, vI 0), (0, vR 73), (1, vI l), (2, vI n)]) (by decide) rfl dX12_encode_147 ?_
                    have L149_59 : ∀ (k59 : Nat) (f : Int) (b : Int) (w149_59 : Hp_), TY w149_59 → FRM [73, 77, 78, 79, 80, 81, 82, 83, 84, 85, 86, 87, 88, 89, 90, 91, 92, 93, 94, 95, 96, 97, 98, 99, 100] [2, 18, 26, 27, 28, 29, 32, 33, 34, 36, 38, 39, 41, 42, 43] h w149_59 → (0 ≤ b ∧ b ≤ 3 * l + 1) → ((w149_59 73 18) = 3 * l + 1) → (∀ i : Int, 0 ≤ i → i < 64 → -4095 ≤ (w149_59 77) i ∧ (w149_59 77) i ≤ 4095) → (∀ j : Int, 0 ≤ j → j < 3 * l + 1 → (w149_59 80) j = BW (h 73 3) l j) → (∀ j : Int, 0 ≤ j → j < 3 * l + 1 → (w149_59 81) j = BH (h 73 4) l j) → (∀ j : Int, 0 ≤ j → j < 3 * l + 1 → (w149_59 86) j = 0) → (MIQ (w149_59 90) (w149_59 91)) → (LQ (w149_59 83) (w149_59 91) (w149_59 92) b) → (0 ≤ f ∧ f ≤ 48 * IS (AR (h 73 3) (h 73 4) l) b + 30 * b) → (f = IS (w149_59 91) b) → (∀ i : Int, 0 ≤ i → i < 64 → (w149_59 77) i = LE (h 73 3) (h 73 4) (fun i => h 76 i - 128) l i) → (∀ b2 x2 y2 : Int, 0 ≤ b2 → b2 < b → 0 ≤ x2 → x2 < BW (h 73 3) l b2 → 0 ≤ y2 → y2 < BH (h 73 4) l b2 → sgn ((w149_59 85) (64 * b2 + 8 * y2 + x2)) ((w149_59 84) (64 * b2 + 8 * y2 + x2)) = LE (h 73 3) (h 73 4) (fun i => h 76 i - 128) l (8 * CY (h 73 4) l b2 + CX (h 73 3) l b2 + 8 * y2 + x2)) → (∀ j : Int, 0 ≤ j → j < 3 * l + 1 → (w149_59 82) j = kdB j) → (∀ j : Int, 64 * b ≤ j → j < 64 * (3 * l + 1) → (w149_59 84) j = 0) → (CWQ Mf sf (h 73 3) (h 73 4) (fun i => h 76 i - 128) l b (w149_59 83) (w149_59 89) (w149_59 90) (w149_59 91)) → (∀ c : Int, 0 ≤ c → c < b → (w149_59 90) c + (w149_59 91) c ≤ f) → ((10 : Int) - b).toNat < k59 → TT K ly 0 0 149 [(0, vR 73), (1, vI l), (2, vI n), (3, vI f), (4, vI b)] [] w149_59 := by
                      intro k59
                      induction k59 with
                      | zero => intro f b w149_59 hT149_59 hF149_59 hb k18 hsq hbw hbh hbt hmi hlq hf hfs hx3 hnq hbk hzz hcw hca hk59; exact absurd hk59 (Nat.not_lt_zero _)
                      | succ k59 ih59 =>
                        intro f b w149_59 hT149_59 hF149_59 hb k18 hsq hbw hbh hbt hmi hlq hf hfs hx3 hnq hbk hzz hcw hca hk59
                        refine TT_iload hK 4 rfl dX12_encode_149 ?_
                        refine TT_aload_n hK rfl 0 rfl dX12_encode_151 ?_
                        refine gf_X12_345 hK (by decide) rfl (v := (w149_59 73) 18) rfl dX12_encode_152 ?_
                        have r60 := ty_73_18 (v := (w149_59 73) 18) hT149_59 rfl
                        refine TT_icmp_ge hK (tgt := 201) (irm (by omega) (by omega)) (irm (by omega) (by omega)) dX12_encode_155 (by decide) (fun hb155_61 => ?_) (fun hb155_61 => ?_)
                        · have gn := GT_nn (c := 3 * l + 1) hT149_59 (by omega)
                          have iaR := ARb (w := (h 73 3)) (e := (h 73 4)) (l := l) (c := b) (by omega) (by omega) (by omega) (by omega)
                          refine TT_aload_n hK rfl 0 rfl dX12_encode_201 ?_
                          refine gf_X12_96 hK (by decide) rfl (q := 100) rfl rfl dX12_encode_202 ?_
                          refine TT_iconst hK dX12_encode_205 ?_
                          refine TT_aload_n hK rfl 0 rfl dX12_encode_206 ?_
                          refine gf_X12_16 hK (by decide) rfl (v := (h 73) 3) (hF149_59.2 3 (by decide)) dX12_encode_207 ?_
                          have r62 := ty_73_3 (v := (h 73) 3) hT149_59 (hF149_59.2 3 (by decide))
                          refine TT_iast hK (o := 100) (n := 4700) (by decide) rfl (by omega) (by omega) dX12_encode_210 ?_
                          refine TT_hp (h' := setO w149_59 100 (fup (w149_59 100) 0 ((h 73) 3))) (up_can rfl rfl rfl) ?_
                          have hT_63 : TY (setO w149_59 100 (fup (w149_59 100) 0 ((h 73) 3))) := tu_100 hT149_59 (show up w149_59 100 0 ((h 73) 3) = (setO w149_59 100 (fup (w149_59 100) 0 ((h 73) 3))) from up_can rfl rfl rfl) (by omega)
                          have hF_63 : FRM [73, 77, 78, 79, 80, 81, 82, 83, 84, 85, 86, 87, 88, 89, 90, 91, 92, 93, 94, 95, 96, 97, 98, 99, 100] [2, 18, 26, 27, 28, 29, 32, 33, 34, 36, 38, 39, 41, 42, 43] h (setO w149_59 100 (fup (w149_59 100) 0 ((h 73) 3))) := FRM_up (show up w149_59 100 0 ((h 73) 3) = (setO w149_59 100 (fup (w149_59 100) 0 ((h 73) 3))) from up_can rfl rfl rfl) hF149_59 (by decide) (by decide)
                          refine TT_aload_n hK rfl 0 rfl dX12_encode_211 ?_
                          refine gf_X12_96 hK (by decide) rfl (q := 100) rfl rfl dX12_encode_212 ?_
                          refine TT_iconst hK dX12_encode_215 ?_
                          refine TT_aload_n hK rfl 0 rfl dX12_encode_216 ?_
                          refine gf_X12_20 hK (by decide) rfl (v := (h 73) 4) ((rd_ (sOf_ne _ _ (by decide)) rfl).trans (hF149_59.2 4 (by decide))) dX12_encode_217 ?_
                          have r64 := ty_73_4 (v := (h 73) 4) hT_63 ((rd_ (sOf_ne _ _ (by decide)) rfl).trans (hF149_59.2 4 (by decide)))
                          refine TT_iast hK (o := 100) (n := 4700) (by decide) rfl (by omega) (by omega) dX12_encode_220 ?_
                          refine TT_hp (h' := setO w149_59 100 (fup (fup (w149_59 100) 0 ((h 73) 3)) 1 ((h 73) 4))) (up_can (sOf_eq _ _ _) rfl (setO_same _ _ _ _)) ?_
                          have hT_65 : TY (setO w149_59 100 (fup (fup (w149_59 100) 0 ((h 73) 3)) 1 ((h 73) 4))) := tu_100 hT_63 (show up (setO w149_59 100 (fup (w149_59 100) 0 ((h 73) 3))) 100 1 ((h 73) 4) = (setO w149_59 100 (fup (fup (w149_59 100) 0 ((h 73) 3)) 1 ((h 73) 4))) from up_can (sOf_eq _ _ _) rfl (setO_same _ _ _ _)) (by omega)
                          have hF_65 : FRM [73, 77, 78, 79, 80, 81, 82, 83, 84, 85, 86, 87, 88, 89, 90, 91, 92, 93, 94, 95, 96, 97, 98, 99, 100] [2, 18, 26, 27, 28, 29, 32, 33, 34, 36, 38, 39, 41, 42, 43] h (setO w149_59 100 (fup (fup (w149_59 100) 0 ((h 73) 3)) 1 ((h 73) 4))) := FRM_up (show up (setO w149_59 100 (fup (w149_59 100) 0 ((h 73) 3))) 100 1 ((h 73) 4) = (setO w149_59 100 (fup (fup (w149_59 100) 0 ((h 73) 3)) 1 ((h 73) 4))) from up_can (sOf_eq _ _ _) rfl (setO_same _ _ _ _)) hF_63 (by decide) (by decide)
                          refine TT_aload_n hK rfl 0 rfl dX12_encode_221 ?_
                          refine gf_X12_96 hK (by decide) rfl (q := 100) rfl rfl dX12_encode_222 ?_
                          refine TT_iconst hK dX12_encode_225 ?_
                          refine TT_iload_n hK rfl 1 rfl dX12_encode_226 ?_
                          refine TT_iast hK (o := 100) (n := 4700) (by decide) rfl (by omega) (by omega) dX12_encode_227 ?_
                          refine TT_hp (h' := setO w149_59 100 (fup (fup (fup (w149_59 100) 0 ((h 73) 3)) 1 ((h 73) 4)) 2 l)) (up_can (sOf_eq _ _ _) rfl (setO_same _ _ _ _)) ?_
                          have hT_66 : TY (setO w149_59 100 (fup (fup (fup (w149_59 100) 0 ((h 73) 3)) 1 ((h 73) 4)) 2 l)) := tu_100 hT_65 (show up (setO w149_59 100 (fup (fup (w149_59 100) 0 ((h 73) 3)) 1 ((h 73) 4))) 100 2 l = (setO w149_59 100 (fup (fup (fup (w149_59 100) 0 ((h 73) 3)) 1 ((h 73) 4)) 2 l)) from up_can (sOf_eq _ _ _) rfl (setO_same _ _ _ _)) (by omega)
                          have hF_66 : FRM [73, 77, 78, 79, 80, 81, 82, 83, 84, 85, 86, 87, 88, 89, 90, 91, 92, 93, 94, 95, 96, 97, 98, 99, 100] [2, 18, 26, 27, 28, 29, 32, 33, 34, 36, 38, 39, 41, 42, 43] h (setO w149_59 100 (fup (fup (fup (w149_59 100) 0 ((h 73) 3)) 1 ((h 73) 4)) 2 l)) := FRM_up (show up (setO w149_59 100 (fup (fup (w149_59 100) 0 ((h 73) 3)) 1 ((h 73) 4))) 100 2 l = (setO w149_59 100 (fup (fup (fup (w149_59 100) 0 ((h 73) 3)) 1 ((h 73) 4)) 2 l)) from up_can (sOf_eq _ _ _) rfl (setO_same _ _ _ _)) hF_65 (by decide) (by decide)
                          refine TT_aload_n hK rfl 0 rfl dX12_encode_228 ?_
                          refine gf_X12_96 hK (by decide) rfl (q := 100) rfl rfl dX12_encode_229 ?_
                          refine TT_iconst hK dX12_encode_232 ?_
                          refine TT_iload_n hK rfl 2 rfl dX12_encode_233 ?_
                          refine TT_iast hK (o := 100) (n := 4700) (by decide) rfl (by omega) (by omega) dX12_encode_234 ?_
                          refine TT_hp (h' := setO w149_59 100 (fup (fup (fup (fup (w149_59 100) 0 ((h 73) 3)) 1 ((h 73) 4)) 2 l) 3 n)) (up_can (sOf_eq _ _ _) rfl (setO_same _ _ _ _)) ?_
                          have hT_67 : TY (setO w149_59 100 (fup (fup (fup (fup (w149_59 100) 0 ((h 73) 3)) 1 ((h 73) 4)) 2 l) 3 n)) := tu_100 hT_66 (show up (setO w149_59 100 (fup (fup (fup (w149_59 100) 0 ((h 73) 3)) 1 ((h 73) 4)) 2 l)) 100 3 n = (setO w149_59 100 (fup (fup (fup (fup (w149_59 100) 0 ((h 73) 3)) 1 ((h 73) 4)) 2 l) 3 n)) from up_can (sOf_eq _ _ _) rfl (setO_same _ _ _ _)) (by omega)
                          have hF_67 : FRM [73, 77, 78, 79, 80, 81, 82, 83, 84, 85, 86, 87, 88, 89, 90, 91, 92, 93, 94, 95, 96, 97, 98, 99, 100] [2, 18, 26, 27, 28, 29, 32, 33, 34, 36, 38, 39, 41, 42, 43] h (setO w149_59 100 (fup (fup (fup (fup (w149_59 100) 0 ((h 73) 3)) 1 ((h 73) 4)) 2 l) 3 n)) := FRM_up (show up (setO w149_59 100 (fup (fup (fup (w149_59 100) 0 ((h 73) 3)) 1 ((h 73) 4)) 2 l)) 100 3 n = (setO w149_59 100 (fup (fup (fup (fup (w149_59 100) 0 ((h 73) 3)) 1 ((h 73) 4)) 2 l) 3 n)) from up_can (sOf_eq _ _ _) rfl (setO_same _ _ _ _)) hF_66 (by decide) (by decide)
                          refine TT_aload_n hK rfl 0 rfl dX12_encode_235 ?_
                          refine TT_iconst hK dX12_encode_236 ?_
                          refine pf_X12_329 hK (by decide) rfl dX12_encode_237 ?_
                          refine TT_hp (h' := setO (setO w149_59 73 (fup (w149_59 73) 41 4)) 100 (fup (fup (fup (fup (w149_59 100) 0 ((h 73) 3)) 1 ((h 73) 4)) 2 l) 3 n)) (up_can (sOf_ne _ _ (by decide)) rfl ((setO_comm _ _ _ (by decide)).trans (setO_cg rfl rfl))) ?_
                          have hT_68 : TY (setO (setO w149_59 73 (fup (w149_59 73) 41 4)) 100 (fup (fup (fup (fup (w149_59 100) 0 ((h 73) 3)) 1 ((h 73) 4)) 2 l) 3 n)) := tu_73_41 hT_67 (show up (setO w149_59 100 (fup (fup (fup (fup (w149_59 100) 0 ((h 73) 3)) 1 ((h 73) 4)) 2 l) 3 n)) 73 41 4 = (setO (setO w149_59 73 (fup (w149_59 73) 41 4)) 100 (fup (fup (fup (fup (w149_59 100) 0 ((h 73) 3)) 1 ((h 73) 4)) 2 l) 3 n)) from up_can (sOf_ne _ _ (by decide)) rfl ((setO_comm _ _ _ (by decide)).trans (setO_cg rfl rfl))) (by omega)
                          have hF_68 : FRM [73, 77, 78, 79, 80, 81, 82, 83, 84, 85, 86, 87, 88, 89, 90, 91, 92, 93, 94, 95, 96, 97, 98, 99, 100] [2, 18, 26, 27, 28, 29, 32, 33, 34, 36, 38, 39, 41, 42, 43] h (setO (setO w149_59 73 (fup (w149_59 73) 41 4)) 100 (fup (fup (fup (fup (w149_59 100) 0 ((h 73) 3)) 1 ((h 73) 4)) 2 l) 3 n)) := FRM_f (show up (setO w149_59 100 (fup (fup (fup (fup (w149_59 100) 0 ((h 73) 3)) 1 ((h 73) 4)) 2 l) 3 n)) 73 41 4 = (setO (setO w149_59 73 (fup (w149_59 73) 41 4)) 100 (fup (fup (fup (fup (w149_59 100) 0 ((h 73) 3)) 1 ((h 73) 4)) 2 l) 3 n)) from up_can (sOf_ne _ _ (by decide)) rfl ((setO_comm _ _ _ (by decide)).trans (setO_cg rfl rfl))) hF_67 (by decide) (by decide)
                          refine TT_iconst hK dX12_encode_240 ?_
                          refine TT_istore hK (lv' := [(4, vI 1), (0, vR 73), (1, vI l), (2, vI n), (3, vI f)]) (by decide) rfl dX12_encode_241 ?_
                          have L243_69 : ∀ (k69 : Nat) (i : Int) (w243_69 : Hp_), TY w243_69 → FRM [73, 77, 78, 79, 80, 81, 82, 83, 84, 85, 86, 87, 88, 89, 90, 91, 92, 93, 94, 95, 96, 97, 98, 99, 100] [2, 18, 26, 27, 28, 29, 32, 33, 34, 36, 38, 39, 41, 42, 43] h w243_69 → (1 ≤ i ∧ i ≤ n + 1) → ((w243_69 73 18) = 3 * l + 1) → (MIQ (w243_69 90) (w243_69 91)) → (LQ (w243_69 83) (w243_69 91) (w243_69 92) (3 * l + 1)) → (IS (w243_69 91) (3 * l + 1) ≤ 3372) → (i ≤ n → TKQ (w243_69 86) (w243_69 83) i n (3 * l + 1)) → ((w243_69 73 41) ≤ 4 + 19 * (4 * (i - 1)) + IS (GT (w243_69 92) (w243_69 86)) (3 * l + 1)) → (∀ j : Int, 0 ≤ j → j < 3 * l + 1 → (w243_69 80) j = BW (h 73 3) l j) → (∀ j : Int, 0 ≤ j → j < 3 * l + 1 → (w243_69 81) j = BH (h 73 4) l j) → (∀ b2 x2 y2 : Int, 0 ≤ b2 → b2 < 3 * l + 1 → 0 ≤ x2 → x2 < BW (h 73 3) l b2 → 0 ≤ y2 → y2 < BH (h 73 4) l b2 → sgn ((w243_69 85) (64 * b2 + 8 * y2 + x2)) ((w243_69 84) (64 * b2 + 8 * y2 + x2)) = LE (h 73 3) (h 73 4) (fun i => h 76 i - 128) l (8 * CY (h 73 4) l b2 + CX (h 73 3) l b2 + 8 * y2 + x2)) → (CWQ Mf sf (h 73 3) (h 73 4) (fun i => h 76 i - 128) l (3 * l + 1) (w243_69 83) (w243_69 89) (w243_69 90) (w243_69 91)) → ((4 : Int) - i).toNat < k69 → TT K ly 0 0 243 [(0, vR 73), (1, vI l), (2, vI n), (4, vI i)] [] w243_69 := by
                            intro k69
                            induction k69 with
                            | zero => intro i w243_69 hT243_69 hF243_69 hi k18 hmi hlq hws htk hln hbw hbh hnf hcw hk69; exact absurd hk69 (Nat.not_lt_zero _)
                            | succ k69 ih69 =>
                              intro i w243_69 hT243_69 hF243_69 hi k18 hmi hlq hws htk hln hbw hbh hnf hcw hk69
                              refine TT_iload hK 3 rfl dX12_encode_243 ?_
                              refine TT_iload_n hK rfl 2 rfl dX12_encode_245 ?_
                              refine TT_icmp_gt hK (tgt := 279) (irm (by omega) (by omega)) (irm (by omega) (by omega)) dX12_encode_246 (by decide) (fun hb246_70 => ?_) (fun hb246_70 => ?_)
                              · refine TT_aload_n hK rfl 0 rfl dX12_encode_279 ?_
                                refine gf_X12_329 hK (by decide) rfl (v := (w243_69 73) 41) rfl dX12_encode_280 ?_
                                have r71 := ty_73_41 (v := (w243_69 73) 41) hT243_69 rfl
                                refine TT_iret hK hQ ?_ dX12_encode_283
                                have e72_73_18 : w243_69 73 18 = (w243_69 73) 18 := rfl
                                have e73_73_18 : w243_69 73 18 = (w243_69 73) 18 := rfl
                                exact ⟨⟨hT243_69, hF243_69⟩, ((w243_69 73) 41), rfl, (by omega), (by exact hmi), (by rewrite [e72_73_18]; first | (intro q; exfalso; omega) | exact (fun _ => ⟨k18, fun j h1 h2 => ⟨hbw j h1 h2, hbh j h1 h2⟩, hnf⟩)), (by rewrite [e73_73_18]; first | exact (fun _ => ⟨rfl, rfl, rfl, rfl, rfl⟩) | (intro q; exfalso; omega)), (by first | (intro q; exfalso; omega) | exact (fun _ => hcw)), (by first | exact (fun _ => ⟨rfl, rfl, rfl, rfl⟩) | (intro q; exfalso; omega))⟩
                              · refine TT_iconst hK dX12_encode_249 ?_
                                refine TT_istore hK (lv' := [(5, vI 0), (0, vR 73), (1, vI l), (2, vI n), (4, vI i)]) (by decide) rfl dX12_encode_250 ?_
                                have L252_74 : ∀ (k74 : Nat) (r : Int) (w252_74 : Hp_), TY w252_74 → FRM [73, 77, 78, 79, 80, 81, 82, 83, 84, 85, 86, 87, 88, 89, 90, 91, 92, 93, 94, 95, 96, 97, 98, 99, 100] [2, 18, 26, 27, 28, 29, 32, 33, 34, 36, 38, 39, 41, 42, 43] h w252_74 → (0 ≤ r ∧ r ≤ l + 1) → ((w252_74 73 18) = 3 * l + 1) → (MIQ (w252_74 90) (w252_74 91)) → (LQ (w252_74 83) (w252_74 91) (w252_74 92) (3 * l + 1)) → (IS (w252_74 91) (3 * l + 1) ≤ 3372) → (TKQ (w252_74 86) (w252_74 83) i n (3 * l + 1)) → ((w252_74 73 41) ≤ 4 + 19 * (4 * (i - 1) + r) + IS (GT (w252_74 92) (w252_74 86)) (3 * l + 1)) → (∀ j : Int, 0 ≤ j → j < 3 * l + 1 → (w252_74 80) j = BW (h 73 3) l j) → (∀ j : Int, 0 ≤ j → j < 3 * l + 1 → (w252_74 81) j = BH (h 73 4) l j) → (∀ b2 x2 y2 : Int, 0 ≤ b2 → b2 < 3 * l + 1 → 0 ≤ x2 → x2 < BW (h 73 3) l b2 → 0 ≤ y2 → y2 < BH (h 73 4) l b2 → sgn ((w252_74 85) (64 * b2 + 8 * y2 + x2)) ((w252_74 84) (64 * b2 + 8 * y2 + x2)) = LE (h 73 3) (h 73 4) (fun i => h 76 i - 128) l (8 * CY (h 73 4) l b2 + CX (h 73 3) l b2 + 8 * y2 + x2)) → (CWQ Mf sf (h 73 3) (h 73 4) (fun i => h 76 i - 128) l (3 * l + 1) (w252_74 83) (w252_74 89) (w252_74 90) (w252_74 91)) → ((4 : Int) - r).toNat < k74 → TT K ly 0 0 252 [(0, vR 73), (1, vI l), (2, vI n), (4, vI i), (5, vI r)] [] w252_74 := by
                                  intro k74
                                  induction k74 with
                                  | zero => intro r w252_74 hT252_74 hF252_74 hr k18 hmi hlq hws htk2 hln hbw hbh hnf hcw hk74; exact absurd hk74 (Nat.not_lt_zero _)
                                  | succ k74 ih74 =>
                                    intro r w252_74 hT252_74 hF252_74 hr k18 hmi hlq hws htk2 hln hbw hbh hnf hcw hk74
                                    refine TT_iload hK 4 rfl dX12_encode_252 ?_
                                    refine TT_iload_n hK rfl 1 rfl dX12_encode_254 ?_
                                    refine TT_icmp_gt hK (tgt := 273) (irm (by omega) (by omega)) (irm (by omega) (by omega)) dX12_encode_255 (by decide) (fun hb255_75 => ?_) (fun hb255_75 => ?_)
                                    · refine TT_iinc hK (v := i + 1) (lv' := [(4, vI (i + 1)), (0, vR 73), (1, vI l), (2, vI n), (5, vI r)]) 3 rfl rfl (by decide) rfl dX12_encode_273 ?_
                                      refine TT_goto hK (tgt := 243) dX12_encode_276 (by decide) ?_
                                      refine TT_sub [1, 2, 3, 0] rfl ?_
                                      have e76_73_18 : w252_74 73 18 = (w252_74 73) 18 := rfl
                                      have e77_73_41 : w252_74 73 41 = (w252_74 73) 41 := rfl
                                      exact ih69 (i + 1) w252_74 hT252_74 hF252_74 (by first | omega | (simp [up, setR] <;> omega)) (by rewrite [e76_73_18]; first | omega | (simp [up, setR] <;> omega)) (by exact hmi) (by exact hlq) (by exact hws) (by intro h1; exact TKQ_m htk2 (fun j h2 h3 => (ty_83 (i := j) (v := w252_74 83 j) hT252_74 rfl h2 (by omega)).1.1) (by omega) (by omega)) (by rewrite [e77_73_41]; first | omega | (simp [up, setR] <;> omega)) (by exact hbw) (by exact hbh) (by exact hnf) (by exact hcw) (by first | omega | (simp [up, setR] <;> omega))
                                    · refine TT_aload_n hK rfl 0 rfl dX12_encode_258 ?_
                                      refine TT_iload hK 4 rfl dX12_encode_259 ?_
                                      refine TT_iload hK 3 rfl dX12_encode_261 ?_
                                      refine TT_iload_n hK rfl 2 rfl dX12_encode_263 ?_
                                      have e78_73_18 : w252_74 73 18 = (w252_74 73) 18 := rfl
                                      have e79_73_18 : w252_74 73 18 = (w252_74 73) 18 := rfl
                                      have e80_73_18 : w252_74 73 18 = (w252_74 73) 18 := rfl
                                      have e81_73_18 : w252_74 73 18 = (w252_74 73) 18 := rfl
                                      have e82_73_41 : w252_74 73 41 = (w252_74 73) 41 := rfl
                                      refine iv_X12_358 hK (s_X12_putPacket_73 r i n w252_74 hT252_74 (by first | omega | (simp [up, setR] <;> omega)) (by rewrite [e78_73_18]; rw [k18]; omega) (by first | omega | (simp [up, setR] <;> omega)) (by first | omega | (simp [up, setR] <;> omega)) (by rewrite [e79_73_18]; rw [k18]; exact hlq) (by first | assumption | exact hmi) (by rewrite [e80_73_18]; rw [k18]; exact htk2) (by rewrite [e81_73_18, e82_73_41]; rw [k18]; omega)) (by decide) rfl ⟨by decide, by decide⟩ (by decide) rfl rfl (Nat.le_of_ble_eq_true rfl) ⟨by decide, by decide⟩ dX12_encode_264 ?_
                                      intro r9 g264_83 hp9
                                      obtain ⟨⟨hT_83, hG_83⟩, hr9, q1_83, q2_83⟩ := hp9
                                      rw [hr9]
                                      have hF_83 : FRM [73, 77, 78, 79, 80, 81, 82, 83, 84, 85, 86, 87, 88, 89, 90, 91, 92, 93, 94, 95, 96, 97, 98, 99, 100] [2, 18, 26, 27, 28, 29, 32, 33, 34, 36, 38, 39, 41, 42, 43] h g264_83 := FRM_tr hF252_74 hG_83 (by decide) (by decide)
                                      rw [show w252_74 73 18 = (w252_74 73) 18 from rfl] at q1_83
                                      rw [show w252_74 73 41 = (w252_74 73) 41 from rfl] at q1_83
                                      rw [show w252_74 73 18 = (w252_74 73) 18 from rfl] at q2_83
                                      have q1_at264 := q1_83
                                      have q2_at264 := q2_83
                                      show TT K ly 0 0 267 [(0, vR 73), (1, vI l), (2, vI n), (4, vI i), (5, vI r)] [] g264_83
                                      refine TT_iinc hK (v := r + 1) (lv' := [(5, vI (r + 1)), (0, vR 73), (1, vI l), (2, vI n), (4, vI i)]) 4 rfl rfl (by decide) rfl dX12_encode_267 ?_
                                      refine TT_goto hK (tgt := 252) dX12_encode_270 (by decide) ?_
                                      refine TT_sub [1, 2, 3, 4, 0] rfl ?_
                                      have e84_73_18 : g264_83 73 18 = (w252_74 73) 18 := (hG_83.2 18 (by decide))
                                      have e85_90 : g264_83 90 = w252_74 90 := (hG_83.1 90 (by decide))
                                      have e86_91 : g264_83 91 = w252_74 91 := (hG_83.1 91 (by decide))
                                      have e87_83 : g264_83 83 = w252_74 83 := (hG_83.1 83 (by decide))
                                      have e88_91 : g264_83 91 = w252_74 91 := (hG_83.1 91 (by decide))
                                      have e89_92 : g264_83 92 = w252_74 92 := (hG_83.1 92 (by decide))
                                      have e90_91 : g264_83 91 = w252_74 91 := (hG_83.1 91 (by decide))
                                      have e91_83 : g264_83 83 = w252_74 83 := (hG_83.1 83 (by decide))
                                      have e92_73_41 : g264_83 73 41 = (g264_83 73) 41 := rfl
                                      have e93_92 : g264_83 92 = w252_74 92 := (hG_83.1 92 (by decide))
                                      have e94_80 : g264_83 80 = w252_74 80 := (hG_83.1 80 (by decide))
                                      have e95_81 : g264_83 81 = w252_74 81 := (hG_83.1 81 (by decide))
                                      have e96_84 : g264_83 84 = w252_74 84 := (hG_83.1 84 (by decide))
                                      have e97_85 : g264_83 85 = w252_74 85 := (hG_83.1 85 (by decide))
                                      have e98_83 : g264_83 83 = w252_74 83 := (hG_83.1 83 (by decide))
                                      have e99_89 : g264_83 89 = w252_74 89 := (hG_83.1 89 (by decide))
                                      have e100_90 : g264_83 90 = w252_74 90 := (hG_83.1 90 (by decide))
                                      have e101_91 : g264_83 91 = w252_74 91 := (hG_83.1 91 (by decide))
                                      rw [k18] at q1_at264 q2_at264
                                      exact ih74 (r + 1) g264_83 hT_83 hF_83 (by first | omega | (simp [up, setR] <;> omega)) (by rewrite [e84_73_18]; first | omega | (simp [up, setR] <;> omega)) (by rewrite [e85_90, e86_91]; exact hmi) (by rewrite [e87_83, e88_91, e89_92]; exact hlq) (by rewrite [e90_91]; exact hws) (by rewrite [e91_83]; exact q2_at264) (by rewrite [e92_73_41, e93_92]; first | omega | (simp [up, setR] <;> omega)) (by rewrite [e94_80]; exact hbw) (by rewrite [e95_81]; exact hbh) (by rewrite [e96_84, e97_85]; exact hnf) (by rewrite [e98_83, e99_89, e100_90, e101_91]; exact hcw) (by first | omega | (simp [up, setR] <;> omega))
                                refine TT_sub [1, 2, 3, 4, 0] rfl ?_
                                have e102_73_18 : w243_69 73 18 = (w243_69 73) 18 := rfl
                                have e103_73_41 : w243_69 73 41 = (w243_69 73) 41 := rfl
                                exact L252_74 ((((4 : Int) - 0).toNat) + 1) 0 w243_69 hT243_69 hF243_69 (by first | omega | (simp [up, setR] <;> omega)) (by rewrite [e102_73_18]; first | omega | (simp [up, setR] <;> omega)) (by exact hmi) (by exact hlq) (by exact hws) (by exact htk (by omega)) (by rewrite [e103_73_41]; first | omega | (simp [up, setR] <;> omega)) (by exact hbw) (by exact hbh) (by exact hnf) (by first | exact hcw | (rw [show 3 * l + 1 = b by omega]; exact hcw)) (Nat.lt_succ_self _)
                          refine TT_sub [1, 2, 3, 0] rfl ?_
                          have e104_73_18 : (setO (setO w149_59 73 (fup (w149_59 73) 41 4)) 100 (fup (fup (fup (fup (w149_59 100) 0 ((h 73) 3)) 1 ((h 73) 4)) 2 l) 3 n)) 73 18 = (w149_59 73) 18 := rd_ ((sOf_ne _ _ (by decide)).trans (sOf_eq _ _ _)) (fup_ne _ _ (by decide))
                          have e105_90 : (setO (setO w149_59 73 (fup (w149_59 73) 41 4)) 100 (fup (fup (fup (fup (w149_59 100) 0 ((h 73) 3)) 1 ((h 73) 4)) 2 l) 3 n)) 90 = w149_59 90 := (sOf_ne _ _ (by decide)).trans (sOf_ne _ _ (by decide))
                          have e106_91 : (setO (setO w149_59 73 (fup (w149_59 73) 41 4)) 100 (fup (fup (fup (fup (w149_59 100) 0 ((h 73) 3)) 1 ((h 73) 4)) 2 l) 3 n)) 91 = w149_59 91 := (sOf_ne _ _ (by decide)).trans (sOf_ne _ _ (by decide))
                          have e107_83 : (setO (setO w149_59 73 (fup (w149_59 73) 41 4)) 100 (fup (fup (fup (fup (w149_59 100) 0 ((h 73) 3)) 1 ((h 73) 4)) 2 l) 3 n)) 83 = w149_59 83 := (sOf_ne _ _ (by decide)).trans (sOf_ne _ _ (by decide))
                          have e108_91 : (setO (setO w149_59 73 (fup (w149_59 73) 41 4)) 100 (fup (fup (fup (fup (w149_59 100) 0 ((h 73) 3)) 1 ((h 73) 4)) 2 l) 3 n)) 91 = w149_59 91 := (sOf_ne _ _ (by decide)).trans (sOf_ne _ _ (by decide))
                          have e109_92 : (setO (setO w149_59 73 (fup (w149_59 73) 41 4)) 100 (fup (fup (fup (fup (w149_59 100) 0 ((h 73) 3)) 1 ((h 73) 4)) 2 l) 3 n)) 92 = w149_59 92 := (sOf_ne _ _ (by decide)).trans (sOf_ne _ _ (by decide))
                          have e110_91 : (setO (setO w149_59 73 (fup (w149_59 73) 41 4)) 100 (fup (fup (fup (fup (w149_59 100) 0 ((h 73) 3)) 1 ((h 73) 4)) 2 l) 3 n)) 91 = w149_59 91 := (sOf_ne _ _ (by decide)).trans (sOf_ne _ _ (by decide))
                          have e111_83 : (setO (setO w149_59 73 (fup (w149_59 73) 41 4)) 100 (fup (fup (fup (fup (w149_59 100) 0 ((h 73) 3)) 1 ((h 73) 4)) 2 l) 3 n)) 83 = w149_59 83 := (sOf_ne _ _ (by decide)).trans (sOf_ne _ _ (by decide))
                          have e112_86 : (setO (setO w149_59 73 (fup (w149_59 73) 41 4)) 100 (fup (fup (fup (fup (w149_59 100) 0 ((h 73) 3)) 1 ((h 73) 4)) 2 l) 3 n)) 86 = w149_59 86 := (sOf_ne _ _ (by decide)).trans (sOf_ne _ _ (by decide))
                          have e113_73_41 : (setO (setO w149_59 73 (fup (w149_59 73) 41 4)) 100 (fup (fup (fup (fup (w149_59 100) 0 ((h 73) 3)) 1 ((h 73) 4)) 2 l) 3 n)) 73 41 = 4 := rd_ ((sOf_ne _ _ (by decide)).trans (sOf_eq _ _ _)) (fup_eq _ _ _)
                          have e114_86 : (setO (setO w149_59 73 (fup (w149_59 73) 41 4)) 100 (fup (fup (fup (fup (w149_59 100) 0 ((h 73) 3)) 1 ((h 73) 4)) 2 l) 3 n)) 86 = w149_59 86 := (sOf_ne _ _ (by decide)).trans (sOf_ne _ _ (by decide))
                          have e115_92 : (setO (setO w149_59 73 (fup (w149_59 73) 41 4)) 100 (fup (fup (fup (fup (w149_59 100) 0 ((h 73) 3)) 1 ((h 73) 4)) 2 l) 3 n)) 92 = w149_59 92 := (sOf_ne _ _ (by decide)).trans (sOf_ne _ _ (by decide))
                          have e116_80 : (setO (setO w149_59 73 (fup (w149_59 73) 41 4)) 100 (fup (fup (fup (fup (w149_59 100) 0 ((h 73) 3)) 1 ((h 73) 4)) 2 l) 3 n)) 80 = w149_59 80 := (sOf_ne _ _ (by decide)).trans (sOf_ne _ _ (by decide))
                          have e117_81 : (setO (setO w149_59 73 (fup (w149_59 73) 41 4)) 100 (fup (fup (fup (fup (w149_59 100) 0 ((h 73) 3)) 1 ((h 73) 4)) 2 l) 3 n)) 81 = w149_59 81 := (sOf_ne _ _ (by decide)).trans (sOf_ne _ _ (by decide))
                          have e118_84 : (setO (setO w149_59 73 (fup (w149_59 73) 41 4)) 100 (fup (fup (fup (fup (w149_59 100) 0 ((h 73) 3)) 1 ((h 73) 4)) 2 l) 3 n)) 84 = w149_59 84 := (sOf_ne _ _ (by decide)).trans (sOf_ne _ _ (by decide))
                          have e119_85 : (setO (setO w149_59 73 (fup (w149_59 73) 41 4)) 100 (fup (fup (fup (fup (w149_59 100) 0 ((h 73) 3)) 1 ((h 73) 4)) 2 l) 3 n)) 85 = w149_59 85 := (sOf_ne _ _ (by decide)).trans (sOf_ne _ _ (by decide))
                          have e120_83 : (setO (setO w149_59 73 (fup (w149_59 73) 41 4)) 100 (fup (fup (fup (fup (w149_59 100) 0 ((h 73) 3)) 1 ((h 73) 4)) 2 l) 3 n)) 83 = w149_59 83 := (sOf_ne _ _ (by decide)).trans (sOf_ne _ _ (by decide))
                          have e121_89 : (setO (setO w149_59 73 (fup (w149_59 73) 41 4)) 100 (fup (fup (fup (fup (w149_59 100) 0 ((h 73) 3)) 1 ((h 73) 4)) 2 l) 3 n)) 89 = w149_59 89 := (sOf_ne _ _ (by decide)).trans (sOf_ne _ _ (by decide))
                          have e122_90 : (setO (setO w149_59 73 (fup (w149_59 73) 41 4)) 100 (fup (fup (fup (fup (w149_59 100) 0 ((h 73) 3)) 1 ((h 73) 4)) 2 l) 3 n)) 90 = w149_59 90 := (sOf_ne _ _ (by decide)).trans (sOf_ne _ _ (by decide))
                          have e123_91 : (setO (setO w149_59 73 (fup (w149_59 73) 41 4)) 100 (fup (fup (fup (fup (w149_59 100) 0 ((h 73) 3)) 1 ((h 73) 4)) 2 l) 3 n)) 91 = w149_59 91 := (sOf_ne _ _ (by decide)).trans (sOf_ne _ _ (by decide))
                          exact L243_69 ((((4 : Int) - 1).toNat) + 1) 1 (setO (setO w149_59 73 (fup (w149_59 73) 41 4)) 100 (fup (fup (fup (fup (w149_59 100) 0 ((h 73) 3)) 1 ((h 73) 4)) 2 l) 3 n)) hT_68 hF_68 (by first | omega | (simp [up, setR] <;> omega)) (by rewrite [e104_73_18]; first | omega | (simp [up, setR] <;> omega)) (by rewrite [e105_90, e106_91]; exact hmi) (by rewrite [e107_83, e108_91, e109_92]; rw [show 3 * l + 1 = b by omega]; exact hlq) (by rewrite [e110_91]; rw [show 3 * l + 1 = b by omega]; omega) (by rewrite [e111_83, e112_86]; intro h1; exact TKQ_0 (fun j h2 h3 => hbt j h2 h3) (fun j h2 h3 => (ty_83 (i := j) (v := w149_59 83 j) hT_68 rfl h2 (by omega)).1.1) (by omega)) (by rewrite [e113_73_41, e114_86, e115_92]; first | omega | (simp [up, setR] <;> omega)) (by rewrite [e116_80]; exact hbw) (by rewrite [e117_81]; exact hbh) (by rewrite [e118_84, e119_85]; first | exact (fun b2 x2 y2 g1 g2 => hnq b2 x2 y2 g1 (by omega))) (by rewrite [e120_83, e121_89, e122_90, e123_91]; first | exact hcw | (rw [show 3 * l + 1 = b by omega]; exact hcw)) (Nat.lt_succ_self _)
                        · have ia : IS (AR (h 73 3) (h 73 4) l) (b + 1) = IS (AR (h 73 3) (h 73 4) l) b + BW (h 73 3) l b * BH (h 73 4) l b := IS_s (by omega)
                          have iaR := ARb (w := (h 73 3)) (e := (h 73 4)) (l := l) (c := b + 1) (by omega) (by omega) (by omega) (by omega)
                          refine TT_aload_n hK rfl 0 rfl dX12_encode_158 ?_
                          refine TT_iload hK 4 rfl dX12_encode_159 ?_
                          refine TT_iload hK 4 rfl dX12_encode_161 ?_
                          refine TT_aload_n hK rfl 0 rfl dX12_encode_163 ?_
                          refine gf_X12_16 hK (by decide) rfl (v := (h 73) 3) (hF149_59.2 3 (by decide)) dX12_encode_164 ?_
                          have r124 := ty_73_3 (v := (h 73) 3) hT149_59 (hF149_59.2 3 (by decide))
                          refine TT_aload_n hK rfl 0 rfl dX12_encode_167 ?_
                          refine gf_X12_20 hK (by decide) rfl (v := (h 73) 4) (hF149_59.2 4 (by decide)) dX12_encode_168 ?_
                          have r125 := ty_73_4 (v := (h 73) 4) hT149_59 (hF149_59.2 4 (by decide))
                          refine TT_iload_n hK rfl 1 rfl dX12_encode_171 ?_
                          refine iv_X12_348 hK (s_corner_z b ((h 73) 3) ((h 73) 4) l w149_59 hT149_59 (by first | omega | (simp [up, setR] <;> omega)) (by first | omega | (simp [up, setR] <;> omega)) (by first | omega | (simp [up, setR] <;> omega)) (by first | omega | (simp [up, setR] <;> omega))) ⟨by decide, by decide⟩ (by decide) rfl rfl (Nat.le_of_ble_eq_true rfl) ⟨by decide, by decide⟩ dX12_encode_172 ?_
                          intro r9 g172_126 hp9
                          obtain ⟨⟨hT_126, hG_126⟩, z172_126, hr9, hz_126, p1_126, p2_126⟩ := hp9
                          rw [hr9]
                          have hF_126 : FRM [73, 77, 78, 79, 80, 81, 82, 83, 84, 85, 86, 87, 88, 89, 90, 91, 92, 93, 94, 95, 96, 97, 98, 99, 100] [2, 18, 26, 27, 28, 29, 32, 33, 34, 36, 38, 39, 41, 42, 43] h g172_126 := FRM_tr hF149_59 hG_126 (by decide) (by decide)
                          have p1_at172 := p1_126
                          have p2_at172 := p2_126
                          show TT K ly 0 0 175 [(0, vR 73), (1, vI l), (2, vI n), (3, vI f), (4, vI b)] [vI z172_126, vI b, vR 73] g172_126
                          have e127_80 : g172_126 80 = w149_59 80 := (hG_126.1 80 (by decide))
                          have e128_81 : g172_126 81 = w149_59 81 := (hG_126.1 81 (by decide))
                          have e129_77 : g172_126 77 = w149_59 77 := (hG_126.1 77 (by decide))
                          refine iv_X12_352 hK (s_loadBand_z b z172_126 g172_126 hT_126 (by first | omega | (simp [up, setR] <;> omega)) (by rewrite [e127_80, e128_81]; rw [hbw b (by omega) (by omega), hbh b (by omega) (by omega)]; exact p1_at172) (by rewrite [e129_77]; exact hsq)) (by decide) rfl ⟨by decide, by decide⟩ (by decide) rfl rfl (Nat.le_of_ble_eq_true rfl) ⟨by decide, by decide⟩ dX12_encode_175 ?_
                          intro r9 g175_130 hp9
                          obtain ⟨⟨hT_130, hG_130⟩, hr9, lx_130, lo_130, ly_130, lz_130⟩ := hp9
                          rw [hr9]
                          have hF_130 : FRM [73, 77, 78, 79, 80, 81, 82, 83, 84, 85, 86, 87, 88, 89, 90, 91, 92, 93, 94, 95, 96, 97, 98, 99, 100] [2, 18, 26, 27, 28, 29, 32, 33, 34, 36, 38, 39, 41, 42, 43] h g175_130 := FRM_tr hF_126 hG_130 (by decide) (by decide)
                          rw [show g172_126 77 = w149_59 77 from (hG_126.1 77 (by decide))] at lx_130
                          rw [show g172_126 80 = w149_59 80 from (hG_126.1 80 (by decide))] at lx_130
                          rw [show g172_126 81 = w149_59 81 from (hG_126.1 81 (by decide))] at lx_130
                          rw [show g172_126 84 = w149_59 84 from (hG_126.1 84 (by decide))] at lo_130
                          rw [show g172_126 85 = w149_59 85 from (hG_126.1 85 (by decide))] at lo_130
                          rw [show g172_126 77 = w149_59 77 from (hG_126.1 77 (by decide))] at ly_130
                          rw [show g172_126 80 = w149_59 80 from (hG_126.1 80 (by decide))] at ly_130
                          rw [show g172_126 81 = w149_59 81 from (hG_126.1 81 (by decide))] at ly_130
                          rw [show g172_126 80 = w149_59 80 from (hG_126.1 80 (by decide))] at lz_130
                          rw [show g172_126 81 = w149_59 81 from (hG_126.1 81 (by decide))] at lz_130
                          rw [show g172_126 84 = w149_59 84 from (hG_126.1 84 (by decide))] at lz_130
                          have lx_at175 := lx_130
                          have lo_at175 := lo_130
                          have ly_at175 := ly_130
                          have lz_at175 := lz_130
                          show TT K ly 0 0 178 [(0, vR 73), (1, vI l), (2, vI n), (3, vI f), (4, vI b)] [] g175_130
                          refine TT_aload_n hK rfl 0 rfl dX12_encode_178 ?_
                          refine TT_iload hK 4 rfl dX12_encode_179 ?_
                          refine TT_iload_n hK rfl 3 rfl dX12_encode_181 ?_
                          have hwr := BWr rW hll b ⟨by omega, by omega⟩
                          have hhr := BHr rH hll b ⟨by omega, by omega⟩
                          have hci := CXr rW rH hll b ⟨by omega, by omega⟩
                          have hva : (0 ≤ l ∧ l ≤ 3) ∧ (1 ≤ n ∧ n ≤ 3) := by omega
                          have e131_80 : g175_130 80 = w149_59 80 := ((hG_130.1 80 (by decide))).trans (hG_126.1 80 (by decide))
                          have e132_81 : g175_130 81 = w149_59 81 := ((hG_130.1 81 (by decide))).trans (hG_126.1 81 (by decide))
                          have e133_74 : g175_130 74 = h 74 := ((hG_130.1 74 (by decide))).trans (((hG_126.1 74 (by decide))).trans (hF149_59.1 74 (by decide)))
                          have e134_75 : g175_130 75 = h 75 := ((hG_130.1 75 (by decide))).trans (((hG_126.1 75 (by decide))).trans (hF149_59.1 75 (by decide)))
                          have e135_90 : g175_130 90 = w149_59 90 := ((hG_130.1 90 (by decide))).trans (hG_126.1 90 (by decide))
                          have e136_91 : g175_130 91 = w149_59 91 := ((hG_130.1 91 (by decide))).trans (hG_126.1 91 (by decide))
                          have e137_83 : g175_130 83 = w149_59 83 := ((hG_130.1 83 (by decide))).trans (hG_126.1 83 (by decide))
                          have e138_91 : g175_130 91 = w149_59 91 := ((hG_130.1 91 (by decide))).trans (hG_126.1 91 (by decide))
                          have e139_92 : g175_130 92 = w149_59 92 := ((hG_130.1 92 (by decide))).trans (hG_126.1 92 (by decide))
                          have e140_80 : g175_130 80 = w149_59 80 := ((hG_130.1 80 (by decide))).trans (hG_126.1 80 (by decide))
                          have e141_81 : g175_130 81 = w149_59 81 := ((hG_130.1 81 (by decide))).trans (hG_126.1 81 (by decide))
                          refine iv_X12_355 hK (s_tellBand_x (Mf b) (sf b) b f g175_130 hT_130 (by first | omega | (simp [up, setR] <;> omega)) (by rewrite [e131_80, e132_81]; rw [hbw b (by omega) (by omega), hbh b (by omega) (by omega)]; omega) (by rewrite [e133_74, e134_75]; first | assumption | exact htb) (by rewrite [e135_90, e136_91]; first | assumption | exact hmi) (by rewrite [e137_83, e138_91, e139_92]; first | assumption | exact hlq) (by exact hsf b) (by rewrite [e140_80, e141_81]; exact ENC_ms hwr hhr hci hx3 p2_at172 ly_at175 (hbw b (by omega) (by omega)) (hbh b (by omega) (by omega)) (hmf hva b (by omega) (by omega)))) (by decide) rfl ⟨by decide, by decide⟩ (by decide) rfl rfl (Nat.le_of_ble_eq_true rfl) ⟨by decide, by decide⟩ dX12_encode_182 ?_
                          intro r9 g182_142 hp9
                          obtain ⟨⟨hT_142, hG_142⟩, hr9, q1_142, q2_142, q3_142, q4_142, pk_142, c1_142, c2_142, c3_142, c4_142, c5_142⟩ := hp9
                          rw [hr9]
                          have hF_142 : FRM [73, 77, 78, 79, 80, 81, 82, 83, 84, 85, 86, 87, 88, 89, 90, 91, 92, 93, 94, 95, 96, 97, 98, 99, 100] [2, 18, 26, 27, 28, 29, 32, 33, 34, 36, 38, 39, 41, 42, 43] h g182_142 := FRM_tr hF_130 hG_142 (by decide) (by decide)
                          rw [show g175_130 80 = w149_59 80 from ((hG_130.1 80 (by decide))).trans (hG_126.1 80 (by decide))] at q1_142
                          rw [show g175_130 81 = w149_59 81 from ((hG_130.1 81 (by decide))).trans (hG_126.1 81 (by decide))] at q1_142
                          rw [show g175_130 91 = w149_59 91 from ((hG_130.1 91 (by decide))).trans (hG_126.1 91 (by decide))] at q4_142
                          rw [show g175_130 80 = w149_59 80 from ((hG_130.1 80 (by decide))).trans (hG_126.1 80 (by decide))] at c1_142
                          rw [show g175_130 81 = w149_59 81 from ((hG_130.1 81 (by decide))).trans (hG_126.1 81 (by decide))] at c1_142
                          rw [show g175_130 82 = w149_59 82 from ((hG_130.1 82 (by decide))).trans (hG_126.1 82 (by decide))] at c1_142
                          rw [show g175_130 89 = w149_59 89 from ((hG_130.1 89 (by decide))).trans (hG_126.1 89 (by decide))] at c3_142
                          rw [show g175_130 90 = w149_59 90 from ((hG_130.1 90 (by decide))).trans (hG_126.1 90 (by decide))] at c4_142
                          rw [show g175_130 83 = w149_59 83 from ((hG_130.1 83 (by decide))).trans (hG_126.1 83 (by decide))] at c5_142
                          have q1_at182 := q1_142
                          have q2_at182 := q2_142
                          have q3_at182 := q3_142
                          have q4_at182 := q4_142
                          have pk_at182 := pk_142
                          have c1_at182 := c1_142
                          have c2_at182 := c2_142
                          have c3_at182 := c3_142
                          have c4_at182 := c4_142
                          have c5_at182 := c5_142
                          show TT K ly 0 0 185 [(0, vR 73), (1, vI l), (2, vI n), (3, vI f), (4, vI b)] [] g182_142
                          refine TT_iload_n hK rfl 3 rfl dX12_encode_185 ?_
                          refine TT_aload_n hK rfl 0 rfl dX12_encode_186 ?_
                          refine gf_X12_69 hK (by decide) rfl (q := 91) rfl rfl dX12_encode_187 ?_
                          refine TT_iload hK 4 rfl dX12_encode_190 ?_
                          refine TT_iald hK (o := 91) (n := 10) (by decide) rfl (by first | omega | (simp [up, setR] <;> omega)) (by first | omega | (simp [up, setR] <;> omega)) (v := (g182_142 91) b) rfl dX12_encode_192 ?_
                          have r143 := ty_91 (i := b) (v := (g182_142 91) b) hT_142 rfl (by omega) (by omega)
                          refine TT_iadd hK dX12_encode_193 ?_
                          refine TT_istore_n hK rfl (lv' := [(3, vI (f + ((g182_142 91) b))), (0, vR 73), (1, vI l), (2, vI n), (4, vI b)]) (by decide) rfl dX12_encode_194 ?_
                          refine TT_iinc hK (v := b + 1) (lv' := [(4, vI (b + 1)), (3, vI (f + ((g182_142 91) b))), (0, vR 73), (1, vI l), (2, vI n)]) 4 rfl rfl (by decide) rfl dX12_encode_195 ?_
                          refine TT_goto hK (tgt := 149) dX12_encode_198 (by decide) ?_
                          refine TT_sub [2, 3, 4, 1, 0] rfl ?_
                          have e144_73_18 : g182_142 73 18 = (w149_59 73) 18 := ((hG_142.2 18 (by decide))).trans ((congrFun (hG_130.1 73 (by decide)) 18).trans (congrFun (hG_126.1 73 (by decide)) 18))
                          have e145_77 : g182_142 77 = w149_59 77 := ((hG_142.1 77 (by decide))).trans (((hG_130.1 77 (by decide))).trans (hG_126.1 77 (by decide)))
                          have e146_80 : g182_142 80 = w149_59 80 := ((hG_142.1 80 (by decide))).trans (((hG_130.1 80 (by decide))).trans (hG_126.1 80 (by decide)))
                          have e147_81 : g182_142 81 = w149_59 81 := ((hG_142.1 81 (by decide))).trans (((hG_130.1 81 (by decide))).trans (hG_126.1 81 (by decide)))
                          have e148_86 : g182_142 86 = w149_59 86 := ((hG_142.1 86 (by decide))).trans (((hG_130.1 86 (by decide))).trans (hG_126.1 86 (by decide)))
                          have e149_77 : g182_142 77 = w149_59 77 := ((hG_142.1 77 (by decide))).trans (((hG_130.1 77 (by decide))).trans (hG_126.1 77 (by decide)))
                          have e150_82 : g182_142 82 = w149_59 82 := ((hG_142.1 82 (by decide))).trans (((hG_130.1 82 (by decide))).trans (hG_126.1 82 (by decide)))
                          have ib : IS (g182_142 91) (b + 1) = IS (g182_142 91) b + (g182_142 91) b := IS_s (by omega)
                          have ic := IS_eq (f := g182_142 91) (c := b) (fun k h1 h2 => q4_at182 k (by omega))
                          rw [hbw b (by omega) (by omega), hbh b (by omega) (by omega)] at q1_at182
                          exact ih59 (f + ((g182_142 91) b)) (b + 1) g182_142 hT_142 hF_142 (by first | omega | (simp [up, setR] <;> omega)) (by rewrite [e144_73_18]; first | omega | (simp [up, setR] <;> omega)) (by rewrite [e145_77]; exact hsq) (by rewrite [e146_80]; exact hbw) (by rewrite [e147_81]; exact hbh) (by rewrite [e148_86]; exact hbt) (by exact q2_at182) (by exact q3_at182) (by first | omega | (simp [up, setR] <;> omega)) (by omega) (by rewrite [e149_77]; exact hx3) (by intro b2 x2 y2 g1 g2 g3 g4 g5 g6; have fx := BWr rW hll b2 ⟨g1, by omega⟩; have fy := BHr rH hll b2 ⟨g1, by omega⟩; have fc := CXr rW rH hll b2 ⟨g1, by omega⟩; have pk := pk_at182 (64 * b2 + 8 * y2 + x2) (by omega); rw [pk.1, pk.2]; by_cases e : b2 = b; (rw [e] at g4 g6 fc ⊢; rw [lx_at175 x2 y2 g3 (by rw [hbw _ (by omega) (by omega)]; exact g4) g5 (by rw [hbh _ (by omega) (by omega)]; exact g6), p2_at172]; exact hx3 _ (by omega) (by omega)); (have lo := lo_at175 (64 * b2 + 8 * y2 + x2) (by omega); rw [lo.1, lo.2]; exact hnq b2 x2 y2 g1 (by omega) g3 g4 g5 g6)) (by rewrite [e150_82]; exact hbk) (by intro j h1 h2; rw [(pk_at182 j (by omega)).1, (lo_at175 j (by omega)).1]; exact hzz j (by omega) h2) (by rw [c4_at182]; exact CWQ_s hcw c5_at182 q4_at182 c3_at182 hca (ENC_c1 c1_at182 (hbw b (by omega) (by omega)) (hbh b (by omega) (by omega)) (hbk b (by omega) (by omega))) (ENC_pl c2_at182 ly_at175 lz_at175 (fun x y g1 g2 g3 g4 => hzz _ (by omega) (by omega)) hwr hhr hci hx3 p2_at172 (hbw b (by omega) (by omega)) (hbh b (by omega) (by omega)))) (by intro c c1 c2; rw [c4_at182]; by_cases e : c = b; (rw [e, fup_eq]; omega); (rw [fup_ne _ _ e, q4_at182 c e]; have k9 := hca c c1 (by omega); omega)) (by first | omega | (simp [up, setR] <;> omega))
                    refine TT_sub [2, 3, 4, 1, 0] rfl ?_
                    have e151_73_18 : (setO g132_57 73 (fup (w68_53 73) 18 ((3 * l) + 1))) 73 18 = (3 * l) + 1 := rd_ (sOf_eq _ _ _) (fup_eq _ _ _)
                    have e152_77 : (setO g132_57 73 (fup (w68_53 73) 18 ((3 * l) + 1))) 77 = w68_53 77 := (sOf_ne _ _ (by decide)).trans (hG_57.1 77 (by decide))
                    have e153_80 : (setO g132_57 73 (fup (w68_53 73) 18 ((3 * l) + 1))) 80 = g132_57 80 := sOf_ne _ _ (by decide)
                    have e154_81 : (setO g132_57 73 (fup (w68_53 73) 18 ((3 * l) + 1))) 81 = g132_57 81 := sOf_ne _ _ (by decide)
                    have e155_86 : (setO g132_57 73 (fup (w68_53 73) 18 ((3 * l) + 1))) 86 = g132_57 86 := sOf_ne _ _ (by decide)
                    have e156_90 : (setO g132_57 73 (fup (w68_53 73) 18 ((3 * l) + 1))) 90 = w68_53 90 := (sOf_ne _ _ (by decide)).trans (hG_57.1 90 (by decide))
                    have e157_91 : (setO g132_57 73 (fup (w68_53 73) 18 ((3 * l) + 1))) 91 = w68_53 91 := (sOf_ne _ _ (by decide)).trans (hG_57.1 91 (by decide))
                    have e158_83 : (setO g132_57 73 (fup (w68_53 73) 18 ((3 * l) + 1))) 83 = g132_57 83 := sOf_ne _ _ (by decide)
                    have e159_91 : (setO g132_57 73 (fup (w68_53 73) 18 ((3 * l) + 1))) 91 = w68_53 91 := (sOf_ne _ _ (by decide)).trans (hG_57.1 91 (by decide))
                    have e160_92 : (setO g132_57 73 (fup (w68_53 73) 18 ((3 * l) + 1))) 92 = w68_53 92 := (sOf_ne _ _ (by decide)).trans (hG_57.1 92 (by decide))
                    have e161_91 : (setO g132_57 73 (fup (w68_53 73) 18 ((3 * l) + 1))) 91 = w68_53 91 := (sOf_ne _ _ (by decide)).trans (hG_57.1 91 (by decide))
                    have e162_77 : (setO g132_57 73 (fup (w68_53 73) 18 ((3 * l) + 1))) 77 = w68_53 77 := (sOf_ne _ _ (by decide)).trans (hG_57.1 77 (by decide))
                    have e163_84 : (setO g132_57 73 (fup (w68_53 73) 18 ((3 * l) + 1))) 84 = g132_57 84 := sOf_ne _ _ (by decide)
                    have e164_85 : (setO g132_57 73 (fup (w68_53 73) 18 ((3 * l) + 1))) 85 = g132_57 85 := sOf_ne _ _ (by decide)
                    have e165_82 : (setO g132_57 73 (fup (w68_53 73) 18 ((3 * l) + 1))) 82 = g132_57 82 := sOf_ne _ _ (by decide)
                    have e166_84 : (setO g132_57 73 (fup (w68_53 73) 18 ((3 * l) + 1))) 84 = g132_57 84 := sOf_ne _ _ (by decide)
                    have e167_83 : (setO g132_57 73 (fup (w68_53 73) 18 ((3 * l) + 1))) 83 = g132_57 83 := sOf_ne _ _ (by decide)
                    have e168_89 : (setO g132_57 73 (fup (w68_53 73) 18 ((3 * l) + 1))) 89 = w68_53 89 := (sOf_ne _ _ (by decide)).trans (hG_57.1 89 (by decide))
                    have e169_90 : (setO g132_57 73 (fup (w68_53 73) 18 ((3 * l) + 1))) 90 = w68_53 90 := (sOf_ne _ _ (by decide)).trans (hG_57.1 90 (by decide))
                    have e170_91 : (setO g132_57 73 (fup (w68_53 73) 18 ((3 * l) + 1))) 91 = w68_53 91 := (sOf_ne _ _ (by decide)).trans (hG_57.1 91 (by decide))
                    have e171_90 : (setO g132_57 73 (fup (w68_53 73) 18 ((3 * l) + 1))) 90 = w68_53 90 := (sOf_ne _ _ (by decide)).trans (hG_57.1 90 (by decide))
                    have e172_91 : (setO g132_57 73 (fup (w68_53 73) 18 ((3 * l) + 1))) 91 = w68_53 91 := (sOf_ne _ _ (by decide)).trans (hG_57.1 91 (by decide))
                    have i0 : IS (AR (h 73 3) (h 73 4) l) 0 = 0 := rfl
                    exact L149_59 ((((10 : Int) - 0).toNat) + 1) 0 0 (setO g132_57 73 (fup (w68_53 73) 18 ((3 * l) + 1))) hT_58 hF_58 (by first | omega | (simp [up, setR] <;> omega)) (by rewrite [e151_73_18]; first | omega | (simp [up, setR] <;> omega)) (by rewrite [e152_77]; intro i h1 h2; exact (hLV i h1 h2).1) (by rewrite [e153_80]; intro j h1 h2; have k9 := q1_at132 j h1 h2; rw [Int.zero_add] at k9; exact k9) (by rewrite [e154_81]; intro j h1 h2; have k9 := q2_at132 j h1 h2; rw [Int.zero_add] at k9; exact k9) (by rewrite [e155_86]; intro j h1 h2; have k9 := q3_at132 j h1 h2; rw [Int.zero_add] at k9; exact k9) (by rewrite [e156_90, e157_91]; exact hmi) (by rewrite [e158_83, e159_91, e160_92]; intro j h1 h2; exfalso; omega) (by first | omega | (simp [up, setR] <;> omega)) (by rewrite [e161_91]; exact rfl) (by rewrite [e162_77]; intro i h1 h2; rw [hxq i h1 h2, show lv = l by omega]) (by rewrite [e163_84, e164_85]; intro b2 x2 y2 g1 g2; exfalso; omega) (by rewrite [e165_82]; intro j h1 h2; have k9 := q7_at132 j h1 h2; rw [Int.zero_add] at k9; exact k9) (by rewrite [e166_84]; intro j h1 h2; exact q8_at132 rfl j (by omega) h2) (by rewrite [e167_83, e168_89, e169_90, e170_91]; intro c c1 c2; exfalso; omega) (by rewrite [e171_90, e172_91]; intro c c1 c2; exfalso; omega) (Nat.lt_succ_self _)
                  · refine TT_aload_n hK rfl 0 rfl dX12_encode_73 ?_
                    refine TT_aload_n hK rfl 0 rfl dX12_encode_74 ?_
                    refine gf_X12_16 hK (by decide) rfl (v := (h 73) 3) (hF68_53.2 3 (by decide)) dX12_encode_75 ?_
                    have r173 := ty_73_3 (v := (h 73) 3) hT68_53 (hF68_53.2 3 (by decide))
                    refine TT_iload_n hK rfl 3 rfl dX12_encode_78 ?_
                    refine iv_X12_153 hK (s_left_x ((h 73) 3) lv w68_53 hT68_53 (by first | omega | (simp [up, setR] <;> omega)) (by first | omega | (simp [up, setR] <;> omega))) ⟨by decide, by decide⟩ (by decide) rfl rfl (Nat.le_of_ble_eq_true rfl) ⟨by decide, by decide⟩ dX12_encode_79 ?_
                    intro r9 g79_174 hp9
                    obtain ⟨⟨hT_174, hG_174⟩, z79_174, hr9, hz_174, p1_174⟩ := hp9
                    rw [hr9]
                    have hF_174 : FRM [73, 77, 78, 79, 80, 81, 82, 83, 84, 85, 86, 87, 88, 89, 90, 91, 92, 93, 94, 95, 96, 97, 98, 99, 100] [2, 18, 26, 27, 28, 29, 32, 33, 34, 36, 38, 39, 41, 42, 43] h g79_174 := FRM_tr hF68_53 hG_174 (by decide) (by decide)
                    have p1_at79 := p1_174
                    show TT K ly 0 0 82 [(0, vR 73), (1, vI l), (2, vI n), (3, vI lv)] [vI z79_174, vR 73] g79_174
                    refine TT_aload_n hK rfl 0 rfl dX12_encode_82 ?_
                    refine gf_X12_20 hK (by decide) rfl (v := (h 73) 4) ((congrFun (hG_174.1 73 (by decide)) 4).trans (hF68_53.2 4 (by decide))) dX12_encode_83 ?_
                    have r175 := ty_73_4 (v := (h 73) 4) hT_174 ((congrFun (hG_174.1 73 (by decide)) 4).trans (hF68_53.2 4 (by decide)))
                    refine TT_iload_n hK rfl 3 rfl dX12_encode_86 ?_
                    refine iv_X12_153 hK (s_left_x ((h 73) 4) lv g79_174 hT_174 (by first | omega | (simp [up, setR] <;> omega)) (by first | omega | (simp [up, setR] <;> omega))) ⟨by decide, by decide⟩ (by decide) rfl rfl (Nat.le_of_ble_eq_true rfl) ⟨by decide, by decide⟩ dX12_encode_87 ?_
                    intro r9 g87_176 hp9
                    obtain ⟨⟨hT_176, hG_176⟩, z87_176, hr9, hz_176, p1_176⟩ := hp9
                    rw [hr9]
                    have hF_176 : FRM [73, 77, 78, 79, 80, 81, 82, 83, 84, 85, 86, 87, 88, 89, 90, 91, 92, 93, 94, 95, 96, 97, 98, 99, 100] [2, 18, 26, 27, 28, 29, 32, 33, 34, 36, 38, 39, 41, 42, 43] h g87_176 := FRM_tr hF_174 hG_176 (by decide) (by decide)
                    have p1_at87 := p1_176
                    show TT K ly 0 0 90 [(0, vR 73), (1, vI l), (2, vI n), (3, vI lv)] [vI z87_176, vI z79_174, vR 73] g87_176
                    refine TT_iconst hK dX12_encode_90 ?_
                    have e177_77 : g87_176 77 = w68_53 77 := ((hG_176.1 77 (by decide))).trans (hG_174.1 77 (by decide))
                    refine iv_X12_335 hK (s_columnsx z79_174 z87_176 g87_176 hT_176 (by first | omega | (simp [up, setR] <;> omega)) (by first | omega | (simp [up, setR] <;> omega)) (by rewrite [e177_77]; intro i h1 h2; exact (hLV i h1 h2).1)) (by decide) rfl ⟨by decide, by decide⟩ (by decide) rfl rfl (Nat.le_of_ble_eq_true rfl) ⟨by decide, by decide⟩ dX12_encode_91 ?_
                    intro r9 g91_178 hp9
                    obtain ⟨⟨hT_178, hG_178⟩, hr9, p1_178⟩ := hp9
                    rw [hr9]
                    have hF_178 : FRM [73, 77, 78, 79, 80, 81, 82, 83, 84, 85, 86, 87, 88, 89, 90, 91, 92, 93, 94, 95, 96, 97, 98, 99, 100] [2, 18, 26, 27, 28, 29, 32, 33, 34, 36, 38, 39, 41, 42, 43] h g91_178 := FRM_tr hF_176 hG_178 (by decide) (by decide)
                    rw [show g87_176 77 = w68_53 77 from ((hG_176.1 77 (by decide))).trans (hG_174.1 77 (by decide))] at p1_178
                    have p1_at91 := p1_178
                    show TT K ly 0 0 94 [(0, vR 73), (1, vI l), (2, vI n), (3, vI lv)] [] g91_178
                    refine TT_aload_n hK rfl 0 rfl dX12_encode_94 ?_
                    refine TT_aload_n hK rfl 0 rfl dX12_encode_95 ?_
                    refine gf_X12_16 hK (by decide) rfl (v := (h 73) 3) ((congrFun (hG_178.1 73 (by decide)) 3).trans ((congrFun (hG_176.1 73 (by decide)) 3).trans ((congrFun (hG_174.1 73 (by decide)) 3).trans (hF68_53.2 3 (by decide))))) dX12_encode_96 ?_
                    refine TT_iload_n hK rfl 3 rfl dX12_encode_99 ?_
                    refine iv_X12_153 hK (s_left_x ((h 73) 3) lv g91_178 hT_178 (by first | omega | (simp [up, setR] <;> omega)) (by first | omega | (simp [up, setR] <;> omega))) ⟨by decide, by decide⟩ (by decide) rfl rfl (Nat.le_of_ble_eq_true rfl) ⟨by decide, by decide⟩ dX12_encode_100 ?_
                    intro r9 g100_179 hp9
                    obtain ⟨⟨hT_179, hG_179⟩, z100_179, hr9, hz_179, p1_179⟩ := hp9
                    rw [hr9]
                    have hF_179 : FRM [73, 77, 78, 79, 80, 81, 82, 83, 84, 85, 86, 87, 88, 89, 90, 91, 92, 93, 94, 95, 96, 97, 98, 99, 100] [2, 18, 26, 27, 28, 29, 32, 33, 34, 36, 38, 39, 41, 42, 43] h g100_179 := FRM_tr hF_178 hG_179 (by decide) (by decide)
                    have p1_at100 := p1_179
                    show TT K ly 0 0 103 [(0, vR 73), (1, vI l), (2, vI n), (3, vI lv)] [vI z100_179, vR 73] g100_179
                    refine TT_aload_n hK rfl 0 rfl dX12_encode_103 ?_
                    refine gf_X12_20 hK (by decide) rfl (v := (h 73) 4) ((congrFun (hG_179.1 73 (by decide)) 4).trans ((congrFun (hG_178.1 73 (by decide)) 4).trans ((congrFun (hG_176.1 73 (by decide)) 4).trans ((congrFun (hG_174.1 73 (by decide)) 4).trans (hF68_53.2 4 (by decide)))))) dX12_encode_104 ?_
                    refine TT_iload_n hK rfl 3 rfl dX12_encode_107 ?_
                    refine iv_X12_153 hK (s_left_x ((h 73) 4) lv g100_179 hT_179 (by first | omega | (simp [up, setR] <;> omega)) (by first | omega | (simp [up, setR] <;> omega))) ⟨by decide, by decide⟩ (by decide) rfl rfl (Nat.le_of_ble_eq_true rfl) ⟨by decide, by decide⟩ dX12_encode_108 ?_
                    intro r9 g108_180 hp9
                    obtain ⟨⟨hT_180, hG_180⟩, z108_180, hr9, hz_180, p1_180⟩ := hp9
                    rw [hr9]
                    have hF_180 : FRM [73, 77, 78, 79, 80, 81, 82, 83, 84, 85, 86, 87, 88, 89, 90, 91, 92, 93, 94, 95, 96, 97, 98, 99, 100] [2, 18, 26, 27, 28, 29, 32, 33, 34, 36, 38, 39, 41, 42, 43] h g108_180 := FRM_tr hF_179 hG_180 (by decide) (by decide)
                    have p1_at108 := p1_180
                    show TT K ly 0 0 111 [(0, vR 73), (1, vI l), (2, vI n), (3, vI lv)] [vI z108_180, vI z100_179, vR 73] g108_180
                    refine TT_iconst hK dX12_encode_111 ?_
                    have e181_77 : g108_180 77 = g91_178 77 := ((hG_180.1 77 (by decide))).trans (hG_179.1 77 (by decide))
                    refine iv_X12_339 hK (s_rowsx z100_179 z108_180 g108_180 hT_180 (by first | omega | (simp [up, setR] <;> omega)) (by first | omega | (simp [up, setR] <;> omega)) (by rewrite [e181_77]; intro i h1 h2; rw [p1_at91 i h1 h2, p1_at79, p1_at87]; exact (cEb l1 l2 (BL_r (by omega)) hLV h1 h2).1)) (by decide) rfl ⟨by decide, by decide⟩ (by decide) rfl rfl (Nat.le_of_ble_eq_true rfl) ⟨by decide, by decide⟩ dX12_encode_112 ?_
                    intro r9 g112_182 hp9
                    obtain ⟨⟨hT_182, hG_182⟩, hr9, p1_182⟩ := hp9
                    rw [hr9]
                    have hF_182 : FRM [73, 77, 78, 79, 80, 81, 82, 83, 84, 85, 86, 87, 88, 89, 90, 91, 92, 93, 94, 95, 96, 97, 98, 99, 100] [2, 18, 26, 27, 28, 29, 32, 33, 34, 36, 38, 39, 41, 42, 43] h g112_182 := FRM_tr hF_180 hG_182 (by decide) (by decide)
                    rw [show g108_180 77 = g91_178 77 from ((hG_180.1 77 (by decide))).trans (hG_179.1 77 (by decide))] at p1_182
                    have p1_at112 := p1_182
                    show TT K ly 0 0 115 [(0, vR 73), (1, vI l), (2, vI n), (3, vI lv)] [] g112_182
                    refine TT_iinc hK (v := lv + 1) (lv' := [(3, vI (lv + 1)), (0, vR 73), (1, vI l), (2, vI n)]) 3 rfl rfl (by decide) rfl dX12_encode_115 ?_
                    refine TT_goto hK (tgt := 68) dX12_encode_118 (by decide) ?_
                    refine TT_sub [1, 2, 3, 0] rfl ?_
                    have e183_90 : g112_182 90 = w68_53 90 := ((hG_182.1 90 (by decide))).trans (((hG_180.1 90 (by decide))).trans (((hG_179.1 90 (by decide))).trans (((hG_178.1 90 (by decide))).trans (((hG_176.1 90 (by decide))).trans (hG_174.1 90 (by decide))))))
                    have e184_91 : g112_182 91 = w68_53 91 := ((hG_182.1 91 (by decide))).trans (((hG_180.1 91 (by decide))).trans (((hG_179.1 91 (by decide))).trans (((hG_178.1 91 (by decide))).trans (((hG_176.1 91 (by decide))).trans (hG_174.1 91 (by decide))))))
                    exact ih53 (lv + 1) g112_182 hT_182 hF_182 (by rewrite [e183_90, e184_91]; exact hmi) (by first | omega | (simp [up, setR] <;> omega)) (by exact LV_n (by omega) rW rH hLV (fun t h1 h2 => (p1_at91 t h1 h2).trans (by rw [p1_at79, p1_at87])) (fun t h1 h2 => (p1_at112 t h1 h2).trans (by rw [p1_at100, p1_at108]))) (by exact LE_s (by omega) rW rH hxq (fun t h1 h2 => (p1_at91 t h1 h2).trans (by rw [p1_at79, p1_at87])) (fun t h1 h2 => (p1_at112 t h1 h2).trans (by rw [p1_at100, p1_at108]))) (by first | omega | (simp [up, setR] <;> omega))
              refine TT_sub [1, 2, 3, 0] rfl ?_
              exact L68_53 ((((3 : Int) - 0).toNat) + 1) 0 w38_51 hT38_51 hF38_51 (by exact hmi) (by first | omega | (simp [up, setR] <;> omega)) (by exact LV_0 (fun j h1 h2 => hs0 j h1 (by omega))) (by intro i h1 h2; exact hs1 i h1 (by omega)) (Nat.lt_succ_self _)
            · refine TT_aload_n hK rfl 0 rfl dX12_encode_44 ?_
              refine gf_X12_26 hK (by decide) rfl (q := 77) rfl rfl dX12_encode_45 ?_
              refine TT_iload_n hK rfl 3 rfl dX12_encode_48 ?_
              refine TT_aload_n hK rfl 0 rfl dX12_encode_49 ?_
              refine gf_X12_23 hK (by decide) rfl (q := 76) rfl rfl dX12_encode_50 ?_
              refine TT_iload_n hK rfl 3 rfl dX12_encode_53 ?_
              refine TT_iald hK (o := 76) (n := 64) (by decide) rfl (by first | omega | (simp [up, setR] <;> omega)) (by first | omega | (simp [up, setR] <;> omega)) (v := (h 76) k) (rd_ (hF38_51.1 76 (by decide)) rfl) dX12_encode_54 ?_
              have r185 := ty_76 (i := k) (v := (h 76) k) hT38_51 (rd_ (hF38_51.1 76 (by decide)) rfl) (by omega) (by omega)
              refine TT_sipush hK (by decide) dX12_encode_55 ?_
              refine TT_isub hK dX12_encode_58 ?_
              refine TT_iast hK (o := 77) (n := 64) (by decide) rfl (by omega) (by omega) dX12_encode_59 ?_
              refine TT_hp (h' := setO w38_51 77 (fup (w38_51 77) k (((h 76) k) - 128))) (up_can rfl rfl rfl) ?_
              have hT_186 : TY (setO w38_51 77 (fup (w38_51 77) k (((h 76) k) - 128))) := tu_77 hT38_51 (show up w38_51 77 k (((h 76) k) - 128) = (setO w38_51 77 (fup (w38_51 77) k (((h 76) k) - 128))) from up_can rfl rfl rfl) (by omega)
              have hF_186 : FRM [73, 77, 78, 79, 80, 81, 82, 83, 84, 85, 86, 87, 88, 89, 90, 91, 92, 93, 94, 95, 96, 97, 98, 99, 100] [2, 18, 26, 27, 28, 29, 32, 33, 34, 36, 38, 39, 41, 42, 43] h (setO w38_51 77 (fup (w38_51 77) k (((h 76) k) - 128))) := FRM_up (show up w38_51 77 k (((h 76) k) - 128) = (setO w38_51 77 (fup (w38_51 77) k (((h 76) k) - 128))) from up_can rfl rfl rfl) hF38_51 (by decide) (by decide)
              refine TT_iinc hK (v := k + 1) (lv' := [(3, vI (k + 1)), (0, vR 73), (1, vI l), (2, vI n)]) 3 rfl rfl (by decide) rfl dX12_encode_60 ?_
              refine TT_goto hK (tgt := 38) dX12_encode_63 (by decide) ?_
              refine TT_sub [1, 2, 3, 0] rfl ?_
              have e187_90 : (setO w38_51 77 (fup (w38_51 77) k (((h 76) k) - 128))) 90 = w38_51 90 := sOf_ne _ _ (by decide)
              have e188_91 : (setO w38_51 77 (fup (w38_51 77) k (((h 76) k) - 128))) 91 = w38_51 91 := sOf_ne _ _ (by decide)
              have e189_77 : (setO w38_51 77 (fup (w38_51 77) k (((h 76) k) - 128))) 77 = fup (w38_51 77) k (((h 76) k) - 128) := sOf_eq _ _ _
              have e190_77 : (setO w38_51 77 (fup (w38_51 77) k (((h 76) k) - 128))) 77 = fup (w38_51 77) k (((h 76) k) - 128) := sOf_eq _ _ _
              exact ih51 (k + 1) (setO w38_51 77 (fup (w38_51 77) k (((h 76) k) - 128))) hT_186 hF_186 (by rewrite [e187_90, e188_91]; exact hmi) (by first | omega | (simp [up, setR] <;> omega)) (by rewrite [e189_77]; intro j h1 h2; by_cases e : j = k; (rw [e, fup_eq]; omega); (rw [fup_ne _ _ e]; exact hs0 j h1 (by omega))) (by rewrite [e190_77]; intro j h1 h2; by_cases e : j = k; (rw [e, fup_eq]); (rw [fup_ne _ _ e]; exact hs1 j h1 (by omega))) (by first | omega | (simp [up, setR] <;> omega))
        refine TT_sub [1, 2, 3, 0] rfl ?_
        have e191_90 : (setO g13_25 73 (fup (h 73) 2 0)) 90 = h 90 := (sOf_ne _ _ (by decide)).trans (((hG_25.1 90 (by decide))).trans (hG_1.1 90 (by decide)))
        have e192_91 : (setO g13_25 73 (fup (h 73) 2 0)) 91 = h 91 := (sOf_ne _ _ (by decide)).trans (((hG_25.1 91 (by decide))).trans (hG_1.1 91 (by decide)))
        have e193_77 : (setO g13_25 73 (fup (h 73) 2 0)) 77 = h 77 := (sOf_ne _ _ (by decide)).trans (((hG_25.1 77 (by decide))).trans (hG_1.1 77 (by decide)))
        have e194_77 : (setO g13_25 73 (fup (h 73) 2 0)) 77 = h 77 := (sOf_ne _ _ (by decide)).trans (((hG_25.1 77 (by decide))).trans (hG_1.1 77 (by decide)))
        exact L38_51 ((((64 : Int) - 0).toNat) + 1) 0 (setO g13_25 73 (fup (h 73) 2 0)) hT_49 hF_49 (by rewrite [e191_90, e192_91]; exact hmi) (by first | omega | (simp [up, setR] <;> omega)) (by rewrite [e193_77]; intro j h1 h2; exfalso; omega) (by rewrite [e194_77]; intro j h1 h2; exfalso; omega) (Nat.lt_succ_self _)
      · exact absurd hb31_50 (by decide)

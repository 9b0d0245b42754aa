set_option maxRecDepth 20000 in
theorem s_spread_x (m : Int) (E0 : ES_) (D0 : Int × DS_) (M : Int → Int) (s : TS_) (x y : Int) (h : Hp_) (hT : TY h) (hx : 0 ≤ x ∧ x ≤ 7) (hy : 0 ≤ y ∧ y ≤ 7) (htb : TBL (h 74) (h 75)) (ha : 32768 ≤ (h 73 32) ∧ (h 73 32) < 65536) (hm : (h 73 29) = 0 → 1 ≤ (h 73 34) ∧ 1 ≤ (h 73 36) ∧ 7 * (h 73 36) - (h 73 34) + PhS (h 96) + 18 ≤ 22300) (hw1 : (h 73 29) = 1 → 10 ≤ (h 73 26)) (hmd : m = 0 ∨ m = 2) (hR : RRQ m E0 D0 M h s) (hxw : x < (h 80) (h 73 26)) (hyg : y < (h 81) (h 73 26)) (h8 : (h 80) (h 73 26) ≤ 8 ∧ (h 81) (h 73 26) ≤ 8) (hpl : 0 ≤ (h 73 27) ∧ (h 73 27) ≤ 20) : Ctr yX12_spread cX12_spread 4 none (rmd 5) ly ly 0 0 [vR 73, vI x, vI y] h (fun r h' => (TY h' ∧ FRM [73, 85, 93, 94, 96, 97, 98] [28, 32, 33, 34, 36, 39] h h') ∧ r = none ∧ (32768 ≤ (h' 73 32) ∧ (h' 73 32) < 65536) ∧ ((h 73 29) = 0 → 1 ≤ (h' 73 34) ∧ 1 ≤ (h' 73 36) ∧ 7 * (h' 73 36) - (h' 73 34) + PhS (h' 96) ≤ 7 * (h 73 36) - (h 73 34) + PhS (h 96) + 18) ∧ (∀ w e : Int, x < w → w ≤ 8 → y < e → e ≤ 8 → (h 73 29) = 0 → 7 * (h' 73 36) - (h' 73 34) + PhS (h' 96) + 27 * ZC w e (h' 93) ≤ 7 * (h 73 36) - (h 73 34) + PhS (h 96) + 27 * ZC w e (h 93) + 9) ∧ (∀ j : Int, j < 640 → (h' 84) j = (h 84) j ∧ (h' 85) j = (h 85) j) ∧ (RRQ m E0 D0 M h' (spT M ((h 82) (h 73 26)) (h 73 27) (10 * y + x + 11) s))) := by
  refine Ctr_of (by decide) (Nat.le_of_ble_eq_true rfl) ⟨Nat.le_refl _, Nat.le_refl _⟩ (fun K hK hQ _ => ?_)
  show TT K ly 0 0 0 [(0, vR 73), (1, vI x), (2, vI y)] [] h
  have hF : FRM [73, 85, 93, 94, 96, 97, 98] [28, 32, 33, 34, 36, 39] h h := FRM_rf _ _ _
  have hmq : h 73 29 = m := hR.2.2.2.2.1
  have ea := hR.2.1 (10 * y + x + 11) (by omega) (by omega)
  have e1 := hS_01 (h 93) (10 * y + x + 11)
  have kcx := ctxS_r s.1 (h 82 (h 73 26)) (10 * y + x + 11)
  refine TT_aload_n hK rfl 0 rfl dX12_spread_0 ?_
  refine TT_iload_n hK rfl 1 rfl dX12_spread_1 ?_
  refine TT_iload_n hK rfl 2 rfl dX12_spread_2 ?_
  refine iv_X12_261 hK (s_mctx_e x y h hT (by first | omega | (simp [up, setR] <;> omega)) (by first | omega | (simp [up, setR] <;> omega))) (by decide) rfl ⟨by decide, by decide⟩ (by decide) rfl rfl (Nat.le_of_ble_eq_true rfl) ⟨by decide, by decide⟩ dX12_spread_3 ?_
  intro r9 g3_1 hp9
  obtain ⟨⟨hT_1, hG_1⟩, z3_1, hr9, hz_1, e_1⟩ := hp9
  rw [hr9]
  have hE_1 : h = g3_1 := (funext (fun o9 => hG_1.1 o9 (List.not_mem_nil))).symm
  subst hE_1
  rw [show h 73 26 = (h 73) 26 from rfl] at e_1
  have e_at3 := e_1
  show TT K ly 0 0 6 [(0, vR 73), (1, vI x), (2, vI y)] [vI z3_1] h
  refine TT_cgI (b := ctxS s.1 (h 82 (h 73 26)) (10 * y + x + 11)) (by exact e_at3.trans (ctxS_q hR.2.1 (by omega) (by omega))) ?_
  refine TT_istore_n hK rfl (lv' := [(3, vI (ctxS s.1 (h 82 (h 73 26)) (10 * y + x + 11))), (0, vR 73), (1, vI x), (2, vI y)]) (by decide) rfl dX12_spread_6 ?_
  refine TT_aload_n hK rfl 1 rfl dX12_spread_7 ?_
  refine TT_iload_n hK rfl 2 rfl dX12_spread_8 ?_
  refine TT_iload_n hK rfl 3 rfl dX12_spread_9 ?_
  refine iv_X12_234 hK (s_X12_spot x y h hT (by first | omega | (simp [up, setR] <;> omega)) (by first | omega | (simp [up, setR] <;> omega))) ⟨by decide, by decide⟩ (by decide) rfl rfl (Nat.le_of_ble_eq_true rfl) ⟨by decide, by decide⟩ dX12_spread_10 ?_
  intro r9 g10_2 hp9
  obtain ⟨⟨hT_2, hG_2⟩, z10_2, hr9, hz_2, p1_2⟩ := hp9
  rw [hr9]
  have hE_2 : h = g10_2 := (funext (fun o9 => hG_2.1 o9 (List.not_mem_nil))).symm
  subst hE_2
  show TT K ly 0 0 13 [(3, vI (ctxS s.1 (h 82 (h 73 26)) (10 * y + x + 11))), (0, vR 73), (1, vI x), (2, vI y)] [vI z10_2, vR 73] h
  refine TT_cgI (b := 10 * y + x + 11) (by omega) ?_
  refine iv_X12_231 hK (s_here_e (10 * y + x + 11) h hT (by first | omega | (simp [up, setR] <;> omega))) (by decide) rfl ⟨by decide, by decide⟩ (by decide) rfl rfl (Nat.le_of_ble_eq_true rfl) ⟨by decide, by decide⟩ dX12_spread_13 ?_
  intro r9 g13_3 hp9
  obtain ⟨⟨hT_3, hG_3⟩, z13_3, hr9, hz_3, p1_3, e_3⟩ := hp9
  rw [hr9]
  have hE_3 : h = g13_3 := (funext (fun o9 => hG_3.1 o9 (List.not_mem_nil))).symm
  subst hE_3
  have e_at13 := e_3
  show TT K ly 0 0 16 [(3, vI (ctxS s.1 (h 82 (h 73 26)) (10 * y + x + 11))), (0, vR 73), (1, vI x), (2, vI y)] [vI z13_3] h
  refine TT_if_ne hK (tgt := 56) (irm (by omega) (by omega)) dX12_spread_16 (by decide) (fun hb16_4 => ?_) (fun hb16_4 => ?_)
  · refine TT_vret hK hQ ?_ dX12_spread_56
    have e5_73_32 : h 73 32 = (h 73) 32 := rfl
    have e6_73_34 : h 73 34 = (h 73) 34 := rfl
    have e7_73_36 : h 73 36 = (h 73) 36 := rfl
    have e8_73_34 : h 73 34 = (h 73) 34 := rfl
    have e9_73_36 : h 73 36 = (h 73) 36 := rfl
    exact ⟨⟨hT, hF⟩, rfl, (by rewrite [e5_73_32]; omega), (by rewrite [e6_73_34, e7_73_36]; omega), (by rewrite [e8_73_34, e9_73_36]; intro w e h1 h2 h3 h4 h5; first | omega), (by first | (first | (intro j hj; exact ⟨rfl, rfl⟩)) | (intro j hj; exact ⟨rfl, (pki j hj).2⟩) | (intro j hj; exact ⟨rfl, rfl⟩)), (by unfold spT; first | (rw [if_neg (show ¬(s.1 (10 * y + x + 11) = 0 ∧ 0 < ctxS s.1 (h 82 (h 73 26)) (10 * y + x + 11)) by omega)]; exact hR))⟩
  · refine TT_iload_n hK rfl 0 rfl dX12_spread_19 ?_
    refine TT_if_le hK (tgt := 56) (irm (by omega) (by omega)) dX12_spread_20 (by decide) (fun hb20_10 => ?_) (fun hb20_10 => ?_)
    · refine TT_vret hK hQ ?_ dX12_spread_56
      have e11_73_32 : h 73 32 = (h 73) 32 := rfl
      have e12_73_34 : h 73 34 = (h 73) 34 := rfl
      have e13_73_36 : h 73 36 = (h 73) 36 := rfl
      have e14_73_34 : h 73 34 = (h 73) 34 := rfl
      have e15_73_36 : h 73 36 = (h 73) 36 := rfl
      exact ⟨⟨hT, hF⟩, rfl, (by rewrite [e11_73_32]; omega), (by rewrite [e12_73_34, e13_73_36]; omega), (by rewrite [e14_73_34, e15_73_36]; intro w e h1 h2 h3 h4 h5; first | omega), (by first | (first | (intro j hj; exact ⟨rfl, rfl⟩)) | (intro j hj; exact ⟨rfl, (pki j hj).2⟩) | (intro j hj; exact ⟨rfl, rfl⟩)), (by unfold spT; first | (rw [if_neg (show ¬(s.1 (10 * y + x + 11) = 0 ∧ 0 < ctxS s.1 (h 82 (h 73 26)) (10 * y + x + 11)) by omega)]; exact hR))⟩
    · refine TT_aload_n hK rfl 1 rfl dX12_spread_23 ?_
      refine gf_X12_78 hK (by decide) rfl (q := 94) rfl rfl dX12_spread_24 ?_
      refine TT_bipush hK (by decide) dX12_spread_27 ?_
      refine TT_iload_n hK rfl 3 rfl dX12_spread_29 ?_
      refine TT_imul hK dX12_spread_30 ?_
      refine TT_iload_n hK rfl 2 rfl dX12_spread_31 ?_
      refine TT_iadd hK dX12_spread_32 ?_
      refine TT_iconst hK dX12_spread_33 ?_
      refine TT_zast hK (o := 94) (n := 64) (by decide) rfl (by omega) (by omega) (by first | decide | omega) dX12_spread_34 ?_
      refine TT_hp (h' := setO h 94 (fup (h 94) ((8 * y) + x) 1)) (up_can rfl rfl rfl) ?_
      have hT_16 : TY (setO h 94 (fup (h 94) ((8 * y) + x) 1)) := tu_94 hT (show up h 94 ((8 * y) + x) 1 = (setO h 94 (fup (h 94) ((8 * y) + x) 1)) from up_can rfl rfl rfl) (by omega)
      have hF_16 : FRM [73, 85, 93, 94, 96, 97, 98] [28, 32, 33, 34, 36, 39] h (setO h 94 (fup (h 94) ((8 * y) + x) 1)) := FRM_up (show up h 94 ((8 * y) + x) 1 = (setO h 94 (fup (h 94) ((8 * y) + x) 1)) from up_can rfl rfl rfl) hF (by decide) (by decide)
      refine TT_aload_n hK rfl 1 rfl dX12_spread_35 ?_
      refine TT_iload_n hK rfl 0 rfl dX12_spread_36 ?_
      refine TT_aload_n hK rfl 1 rfl dX12_spread_37 ?_
      refine TT_iload_n hK rfl 2 rfl dX12_spread_38 ?_
      refine TT_iload_n hK rfl 3 rfl dX12_spread_39 ?_
      have e17_73_27 : (setO h 94 (fup (h 94) ((8 * y) + x) 1)) 73 27 = (h 73) 27 := rd_ (sOf_ne _ _ (by decide)) rfl
      refine iv_X12_264 hK (s_bitAt_e x y (setO h 94 (fup (h 94) ((8 * y) + x) 1)) hT_16 (by first | omega | (simp [up, setR] <;> omega)) (by first | omega | (simp [up, setR] <;> omega)) (by rewrite [e17_73_27]; first | assumption | exact hpl | omega)) (by decide) rfl ⟨by decide, by decide⟩ (by decide) rfl rfl (Nat.le_of_ble_eq_true rfl) ⟨by decide, by decide⟩ dX12_spread_40 ?_
      intro r9 g40_18 hp9
      obtain ⟨⟨hT_18, hG_18⟩, z40_18, hr9, hz_18, e_18⟩ := hp9
      rw [hr9]
      have hE_18 : setO h 94 (fup (h 94) ((8 * y) + x) 1) = g40_18 := (funext (fun o9 => hG_18.1 o9 (List.not_mem_nil))).symm
      subst hE_18
      rw [show (setO h 94 (fup (h 94) ((8 * y) + x) 1)) 73 26 = (h 73) 26 from rd_ (sOf_ne _ _ (by decide)) rfl] at e_18
      rw [show (setO h 94 (fup (h 94) ((8 * y) + x) 1)) 73 27 = (h 73) 27 from rd_ (sOf_ne _ _ (by decide)) rfl] at e_18
      rw [show (setO h 94 (fup (h 94) ((8 * y) + x) 1)) 84 = h 84 from sOf_ne _ _ (by decide)] at e_18
      have e_at40 := e_18
      show TT K ly 0 0 43 [(3, vI (ctxS s.1 (h 82 (h 73 26)) (10 * y + x + 11))), (0, vR 73), (1, vI x), (2, vI y)] [vI z40_18, vI (ctxS s.1 (h 82 (h 73 26)) (10 * y + x + 11)), vR 73] (setO h 94 (fup (h 94) ((8 * y) + x) 1))
      refine TT_cgI (b := bS M (h 73 27) (10 * y + x + 11)) (by exact e_at40.trans (bS_q hR ⟨hx.1, hxw⟩ ⟨hy.1, hyg⟩)) ?_
      have e19_74 : (setO h 94 (fup (h 94) ((8 * y) + x) 1)) 74 = h 74 := sOf_ne _ _ (by decide)
      have e20_75 : (setO h 94 (fup (h 94) ((8 * y) + x) 1)) 75 = h 75 := sOf_ne _ _ (by decide)
      have e21_73_32 : (setO h 94 (fup (h 94) ((8 * y) + x) 1)) 73 32 = (h 73) 32 := rd_ (sOf_ne _ _ (by decide)) rfl
      have e22_73_29 : (setO h 94 (fup (h 94) ((8 * y) + x) 1)) 73 29 = (h 73) 29 := rd_ (sOf_ne _ _ (by decide)) rfl
      have e23_73_34 : (setO h 94 (fup (h 94) ((8 * y) + x) 1)) 73 34 = (h 73) 34 := rd_ (sOf_ne _ _ (by decide)) rfl
      have e24_73_36 : (setO h 94 (fup (h 94) ((8 * y) + x) 1)) 73 36 = (h 73) 36 := rd_ (sOf_ne _ _ (by decide)) rfl
      have e25_96 : (setO h 94 (fup (h 94) ((8 * y) + x) 1)) 96 = h 96 := sOf_ne _ _ (by decide)
      refine iv_X12_258 hK (s_code_e m E0 D0 M (tdT s (10 * y + x + 11)) (ctxS s.1 (h 82 (h 73 26)) (10 * y + x + 11)) (bS M (h 73 27) (10 * y + x + 11)) (setO h 94 (fup (h 94) ((8 * y) + x) 1)) hT_16 (by have k9 := ctxS_r s.1 (h 82 (h 73 26)) (10 * y + x + 11); omega) (by have k9 := bS_r M (h 73 27) (10 * y + x + 11); omega) (by rewrite [e19_74, e20_75]; first | assumption | exact htb) (by rewrite [e21_73_32]; first | omega | (simp [up, setR] <;> omega)) (by rewrite [e22_73_29, e23_73_34, e24_73_36, e25_96]; first | omega | (simp [up, setR] <;> omega)) (by exact hmd) (by exact RRQ_td hR hx hy)) (by decide) rfl ⟨by decide, by decide⟩ (by decide) rfl rfl (Nat.le_of_ble_eq_true rfl) ⟨by decide, by decide⟩ dX12_spread_43 ?_
      intro r9 g43_26 hp9
      obtain ⟨⟨hT_26, hG_26⟩, z43_26, hr9, hz_26, pa_26, pm_26, pc_26, cq_26⟩ := hp9
      rw [hr9]
      have hF_26 : FRM [73, 85, 93, 94, 96, 97, 98] [28, 32, 33, 34, 36, 39] h g43_26 := FRM_tr hF_16 hG_26 (by decide) (by decide)
      rw [show (setO h 94 (fup (h 94) ((8 * y) + x) 1)) 73 29 = (h 73) 29 from rd_ (sOf_ne _ _ (by decide)) rfl] at pm_26
      rw [show (setO h 94 (fup (h 94) ((8 * y) + x) 1)) 73 34 = (h 73) 34 from rd_ (sOf_ne _ _ (by decide)) rfl] at pm_26
      rw [show (setO h 94 (fup (h 94) ((8 * y) + x) 1)) 73 36 = (h 73) 36 from rd_ (sOf_ne _ _ (by decide)) rfl] at pm_26
      rw [show (setO h 94 (fup (h 94) ((8 * y) + x) 1)) 96 = h 96 from sOf_ne _ _ (by decide)] at pm_26
      rw [show (setO h 94 (fup (h 94) ((8 * y) + x) 1)) 73 29 = (h 73) 29 from rd_ (sOf_ne _ _ (by decide)) rfl] at pc_26
      have cq_at43 := cq_26
      show TT K ly 0 0 46 [(3, vI (ctxS s.1 (h 82 (h 73 26)) (10 * y + x + 11))), (0, vR 73), (1, vI x), (2, vI y)] [vI z43_26] g43_26
      refine TT_iconst hK dX12_spread_46 ?_
      refine TT_icmp_ne hK (tgt := 56) (irm (by omega) (by omega)) (by decide) dX12_spread_47 (by decide) (fun hb47_27 => ?_) (fun hb47_27 => ?_)
      · refine TT_vret hK hQ ?_ dX12_spread_56
        have e28_73_32 : g43_26 73 32 = (g43_26 73) 32 := rfl
        have e29_73_34 : g43_26 73 34 = (g43_26 73) 34 := rfl
        have e30_73_36 : g43_26 73 36 = (g43_26 73) 36 := rfl
        have e31_73_34 : g43_26 73 34 = (g43_26 73) 34 := rfl
        have e32_73_36 : g43_26 73 36 = (g43_26 73) 36 := rfl
        have e33_93 : g43_26 93 = h 93 := ((hG_26.1 93 (by decide))).trans (sOf_ne _ _ (by decide))
        have e34_84 : g43_26 84 = h 84 := ((hG_26.1 84 (by decide))).trans (sOf_ne _ _ (by decide))
        have e35_85 : g43_26 85 = h 85 := ((hG_26.1 85 (by decide))).trans (sOf_ne _ _ (by decide))
        exact ⟨⟨hT_26, hF_26⟩, rfl, (by rewrite [e28_73_32]; omega), (by rewrite [e29_73_34, e30_73_36]; omega), (by rewrite [e31_73_34, e32_73_36, e33_93]; intro w e h1 h2 h3 h4 h5; first | omega), (by rewrite [e34_84, e35_85]; first | (first | (intro j hj; exact ⟨rfl, rfl⟩)) | (intro j hj; exact ⟨rfl, (pki j hj).2⟩) | (intro j hj; exact ⟨rfl, rfl⟩)), (by unfold spT; first | (rw [if_neg (show ¬(s.1 (10 * y + x + 11) = 0 ∧ 0 < ctxS s.1 (h 82 (h 73 26)) (10 * y + x + 11)) by omega)]; exact hR) | (rw [if_pos (show s.1 (10 * y + x + 11) = 0 ∧ 0 < ctxS s.1 (h 82 (h 73 26)) (10 * y + x + 11) by omega), if_neg (show ¬ (bS M (h 73 27) (10 * y + x + 11) = 1) by omega)]; exact cq_at43.2))⟩
      · refine TT_aload_n hK rfl 1 rfl dX12_spread_50 ?_
        refine TT_iload_n hK rfl 2 rfl dX12_spread_51 ?_
        refine TT_iload_n hK rfl 3 rfl dX12_spread_52 ?_
        have e36_74 : g43_26 74 = h 74 := ((hG_26.1 74 (by decide))).trans (sOf_ne _ _ (by decide))
        have e37_75 : g43_26 75 = h 75 := ((hG_26.1 75 (by decide))).trans (sOf_ne _ _ (by decide))
        have e38_73_32 : g43_26 73 32 = (g43_26 73) 32 := rfl
        have e39_73_29 : g43_26 73 29 = (h 73) 29 := ((hG_26.2 29 (by decide))).trans (rd_ (sOf_ne _ _ (by decide)) rfl)
        have e40_73_34 : g43_26 73 34 = (g43_26 73) 34 := rfl
        have e41_73_36 : g43_26 73 36 = (g43_26 73) 36 := rfl
        have e42_73_26 : g43_26 73 26 = (h 73) 26 := ((hG_26.2 26 (by decide))).trans (rd_ (sOf_ne _ _ (by decide)) rfl)
        have e43_73_29 : g43_26 73 29 = (h 73) 29 := ((hG_26.2 29 (by decide))).trans (rd_ (sOf_ne _ _ (by decide)) rfl)
        have e44_73_26 : g43_26 73 26 = (h 73) 26 := ((hG_26.2 26 (by decide))).trans (rd_ (sOf_ne _ _ (by decide)) rfl)
        have e45_80 : g43_26 80 = h 80 := ((hG_26.1 80 (by decide))).trans (sOf_ne _ _ (by decide))
        have e46_73_26 : g43_26 73 26 = (h 73) 26 := ((hG_26.2 26 (by decide))).trans (rd_ (sOf_ne _ _ (by decide)) rfl)
        have e47_81 : g43_26 81 = h 81 := ((hG_26.1 81 (by decide))).trans (sOf_ne _ _ (by decide))
        have e48_73_26 : g43_26 73 26 = (h 73) 26 := ((hG_26.2 26 (by decide))).trans (rd_ (sOf_ne _ _ (by decide)) rfl)
        have e49_80 : g43_26 80 = h 80 := ((hG_26.1 80 (by decide))).trans (sOf_ne _ _ (by decide))
        have e50_81 : g43_26 81 = h 81 := ((hG_26.1 81 (by decide))).trans (sOf_ne _ _ (by decide))
        refine iv_X12_267 hK (s_wake_x m E0 D0 M (evT (tdT s (10 * y + x + 11)) (ctxS s.1 (h 82 (h 73 26)) (10 * y + x + 11)) (bS M (h 73 27) (10 * y + x + 11))) x y g43_26 hT_26 (by first | omega | (simp [up, setR] <;> omega)) (by first | omega | (simp [up, setR] <;> omega)) (by rewrite [e36_74, e37_75]; first | assumption | exact htb) (by rewrite [e38_73_32]; first | omega | (simp [up, setR] <;> omega)) (by rewrite [e39_73_29, e40_73_34, e41_73_36]; first | omega | (simp [up, setR] <;> omega)) (by rewrite [e42_73_26, e43_73_29]; first | omega | (simp [up, setR] <;> omega)) (by exact hmd) (by exact cq_at43.2) (by rewrite [e44_73_26, e45_80]; first | omega | (simp [up, setR] <;> omega)) (by rewrite [e46_73_26, e47_81]; first | omega | (simp [up, setR] <;> omega)) (by rewrite [e48_73_26, e49_80, e50_81]; first | omega | (simp [up, setR] <;> omega))) (by decide) rfl ⟨by decide, by decide⟩ (by decide) rfl rfl (Nat.le_of_ble_eq_true rfl) ⟨by decide, by decide⟩ dX12_spread_53 ?_
        intro r9 g53_51 hp9
        obtain ⟨⟨hT_51, hG_51⟩, hr9, pa_51, pm_51, pz_51, pk_51, rw9_51⟩ := hp9
        rw [hr9]
        have hF_51 : FRM [73, 85, 93, 94, 96, 97, 98] [28, 32, 33, 34, 36, 39] h g53_51 := FRM_tr hF_26 hG_51 (by decide) (by decide)
        rw [show g43_26 73 29 = (h 73) 29 from ((hG_26.2 29 (by decide))).trans (rd_ (sOf_ne _ _ (by decide)) rfl)] at pm_51
        rw [show g43_26 73 34 = (g43_26 73) 34 from rfl] at pm_51
        rw [show g43_26 73 36 = (g43_26 73) 36 from rfl] at pm_51
        rw [show g43_26 93 = h 93 from ((hG_26.1 93 (by decide))).trans (sOf_ne _ _ (by decide))] at pz_51
        rw [show g43_26 84 = h 84 from ((hG_26.1 84 (by decide))).trans (sOf_ne _ _ (by decide))] at pk_51
        rw [show g43_26 85 = h 85 from ((hG_26.1 85 (by decide))).trans (sOf_ne _ _ (by decide))] at pk_51
        have pz_at53 := pz_51
        have pk_at53 := pk_51
        have rw9_at53 := rw9_51
        show TT K ly 0 0 56 [(3, vI (ctxS s.1 (h 82 (h 73 26)) (10 * y + x + 11))), (0, vR 73), (1, vI x), (2, vI y)] [] g53_51
        refine TT_vret hK hQ ?_ dX12_spread_56
        have e52_73_32 : g53_51 73 32 = (g53_51 73) 32 := rfl
        have e53_73_34 : g53_51 73 34 = (g53_51 73) 34 := rfl
        have e54_73_36 : g53_51 73 36 = (g53_51 73) 36 := rfl
        have e55_73_34 : g53_51 73 34 = (g53_51 73) 34 := rfl
        have e56_73_36 : g53_51 73 36 = (g53_51 73) 36 := rfl
        have e57_84 : g53_51 84 = h 84 := ((hG_51.1 84 (by decide))).trans (((hG_26.1 84 (by decide))).trans (sOf_ne _ _ (by decide)))
        exact ⟨⟨hT_51, hF_51⟩, rfl, (by rewrite [e52_73_32]; omega), (by rewrite [e53_73_34, e54_73_36]; omega), (by rewrite [e55_73_34, e56_73_36]; intro w e h1 h2 h3 h4 h5; first | omega | (have k8 := pz_at53 w e h1 h2 h3 h4 (by omega); omega)), (by rewrite [e57_84]; first | (first | exact pk_at53 | (intro j hj; exact ⟨rfl, rfl⟩)) | (intro j hj; exact ⟨rfl, (pk_at53 j hj).2.trans (pki j hj).2⟩) | (intro j hj; exact ⟨rfl, (pk_at53 j hj).2⟩) | (intro j hj; exact ⟨rfl, (pki j hj).2⟩) | (intro j hj; exact ⟨rfl, rfl⟩)), (by unfold spT; first | (rw [if_neg (show ¬(s.1 (10 * y + x + 11) = 0 ∧ 0 < ctxS s.1 (h 82 (h 73 26)) (10 * y + x + 11)) by omega)]; exact hR) | (rw [if_pos (show s.1 (10 * y + x + 11) = 0 ∧ 0 < ctxS s.1 (h 82 (h 73 26)) (10 * y + x + 11) by omega), if_neg (show ¬ (bS M (h 73 27) (10 * y + x + 11) = 1) by omega)]; exact cq_at43.2) | (rw [if_pos (show s.1 (10 * y + x + 11) = 0 ∧ 0 < ctxS s.1 (h 82 (h 73 26)) (10 * y + x + 11) by omega), if_pos (show bS M (h 73 27) (10 * y + x + 11) = 1 by omega)]; exact rw9_at53))⟩
set_option maxRecDepth 20000 in
theorem s_refine_x (m : Int) (E0 : ES_) (D0 : Int × DS_) (M : Int → Int) (s : TS_) (x y : Int) (h : Hp_) (hT : TY h) (hx : 0 ≤ x ∧ x ≤ 7) (hy : 0 ≤ y ∧ y ≤ 7) (htb : TBL (h 74) (h 75)) (ha : 32768 ≤ (h 73 32) ∧ (h 73 32) < 65536) (hm : (h 73 29) = 0 → 1 ≤ (h 73 34) ∧ 1 ≤ (h 73 36) ∧ 7 * (h 73 36) - (h 73 34) + PhS (h 96) + 9 ≤ 22300) (hw1 : (h 73 29) = 1 → 10 ≤ (h 73 26)) (hmd : m = 0 ∨ m = 2) (hR : RRQ m E0 D0 M h s) (hxw : x < (h 80) (h 73 26)) (hyg : y < (h 81) (h 73 26)) (h8 : (h 80) (h 73 26) ≤ 8 ∧ (h 81) (h 73 26) ≤ 8) (hpl : 0 ≤ (h 73 27) ∧ (h 73 27) ≤ 20) : Ctr yX12_refine cX12_refine 6 none (rmd 4) ly ly 0 0 [vR 73, vI x, vI y] h (fun r h' => (TY h' ∧ FRM [73, 95, 96, 97, 98] [28, 32, 33, 34, 36, 39] h h') ∧ r = none ∧ (32768 ≤ (h' 73 32) ∧ (h' 73 32) < 65536) ∧ ((h 73 29) = 0 → 1 ≤ (h' 73 34) ∧ 1 ≤ (h' 73 36) ∧ 7 * (h' 73 36) - (h' 73 34) + PhS (h' 96) ≤ 7 * (h 73 36) - (h 73 34) + PhS (h 96) + 9) ∧ (∀ j : Int, j < 640 → (h' 84) j = (h 84) j ∧ (h' 85) j = (h 85) j) ∧ (RRQ m E0 D0 M h' (rfnT M (h 73 27) (10 * y + x + 11) s))) := by
  refine Ctr_of (by decide) (Nat.le_of_ble_eq_true rfl) ⟨Nat.le_refl _, Nat.le_refl _⟩ (fun K hK hQ _ => ?_)
  show TT K ly 0 0 0 [(0, vR 73), (1, vI x), (2, vI y)] [] h
  have hF : FRM [73, 95, 96, 97, 98] [28, 32, 33, 34, 36, 39] h h := FRM_rf _ _ _
  have hmq : h 73 29 = m := hR.2.2.2.2.1
  have ea := hR.2.1 (10 * y + x + 11) (by omega) (by omega)
  have e1 := hS_01 (h 93) (10 * y + x + 11)
  have et := hR.2.2.1 trivial x y hx.1 (by omega) hy.1 (by omega)
  refine TT_iload_n hK rfl 1 rfl dX12_refine_0 ?_
  refine TT_iload_n hK rfl 2 rfl dX12_refine_1 ?_
  refine iv_X12_234 hK (s_X12_spot x y h hT (by first | omega | (simp [up, setR] <;> omega)) (by first | omega | (simp [up, setR] <;> omega))) ⟨by decide, by decide⟩ (by decide) rfl rfl (Nat.le_of_ble_eq_true rfl) ⟨by decide, by decide⟩ dX12_refine_2 ?_
  intro r9 g2_1 hp9
  obtain ⟨⟨hT_1, hG_1⟩, z2_1, hr9, hz_1, p1_1⟩ := hp9
  rw [hr9]
  have hE_1 : h = g2_1 := (funext (fun o9 => hG_1.1 o9 (List.not_mem_nil))).symm
  subst hE_1
  show TT K ly 0 0 5 [(0, vR 73), (1, vI x), (2, vI y)] [vI z2_1] h
  refine TT_cgI (b := 10 * y + x + 11) (by omega) ?_
  refine TT_istore_n hK rfl (lv' := [(3, vI (10 * y + x + 11)), (0, vR 73), (1, vI x), (2, vI y)]) (by decide) rfl dX12_refine_5 ?_
  refine TT_aload_n hK rfl 1 rfl dX12_refine_6 ?_
  refine TT_iload_n hK rfl 0 rfl dX12_refine_7 ?_
  refine iv_X12_231 hK (s_here_e (10 * y + x + 11) h hT (by first | omega | (simp [up, setR] <;> omega))) (by decide) rfl ⟨by decide, by decide⟩ (by decide) rfl rfl (Nat.le_of_ble_eq_true rfl) ⟨by decide, by decide⟩ dX12_refine_8 ?_
  intro r9 g8_2 hp9
  obtain ⟨⟨hT_2, hG_2⟩, z8_2, hr9, hz_2, p1_2, e_2⟩ := hp9
  rw [hr9]
  have hE_2 : h = g8_2 := (funext (fun o9 => hG_2.1 o9 (List.not_mem_nil))).symm
  subst hE_2
  have e_at8 := e_2
  show TT K ly 0 0 11 [(3, vI (10 * y + x + 11)), (0, vR 73), (1, vI x), (2, vI y)] [vI z8_2] h
  refine TT_if_eq hK (tgt := 28) (irm (by omega) (by omega)) dX12_refine_11 (by decide) (fun hb11_3 => ?_) (fun hb11_3 => ?_)
  · refine TT_vret hK hQ ?_ dX12_refine_28
    have e4_73_32 : h 73 32 = (h 73) 32 := rfl
    have e5_73_34 : h 73 34 = (h 73) 34 := rfl
    have e6_73_36 : h 73 36 = (h 73) 36 := rfl
    exact ⟨⟨hT, hF⟩, rfl, (by rewrite [e4_73_32]; omega), (by rewrite [e5_73_34, e6_73_36]; omega), (by first | (intro j hj; exact ⟨(by first | rfl | exact fup_ne _ _ (by omega)), rfl⟩) | (intro j hj; exact ⟨rfl, (pki j hj).2⟩) | (intro j hj; exact ⟨rfl, rfl⟩)), (by unfold rfnT; rw [if_neg (show ¬(s.1 (10 * y + x + 11) ≠ 0 ∧ s.2.1 (10 * y + x + 11) = 0) by omega)]; exact hR)⟩
  · refine TT_aload_n hK rfl 1 rfl dX12_refine_14 ?_
    refine gf_X12_78 hK (by decide) rfl (q := 94) rfl rfl dX12_refine_15 ?_
    refine TT_bipush hK (by decide) dX12_refine_18 ?_
    refine TT_iload_n hK rfl 3 rfl dX12_refine_20 ?_
    refine TT_imul hK dX12_refine_21 ?_
    refine TT_iload_n hK rfl 2 rfl dX12_refine_22 ?_
    refine TT_iadd hK dX12_refine_23 ?_
    refine TT_zald hK (o := 94) (n := 64) (by decide) rfl (by first | omega | (simp [up, setR] <;> omega)) (by first | omega | (simp [up, setR] <;> omega)) (v := (h 94) ((8 * y) + x)) rfl dX12_refine_24 ?_
    have r7 := ty_94 (i := (8 * y) + x) (v := (h 94) ((8 * y) + x)) hT rfl (by omega) (by omega)
    refine TT_if_eq hK (tgt := 29) (irm (by omega) (by omega)) dX12_refine_25 (by decide) (fun hb25_8 => ?_) (fun hb25_8 => ?_)
    · refine TT_aload_n hK rfl 1 rfl dX12_refine_29 ?_
      refine gf_X12_81 hK (by decide) rfl (q := 95) rfl rfl dX12_refine_30 ?_
      refine TT_bipush hK (by decide) dX12_refine_33 ?_
      refine TT_iload_n hK rfl 3 rfl dX12_refine_35 ?_
      refine TT_imul hK dX12_refine_36 ?_
      refine TT_iload_n hK rfl 2 rfl dX12_refine_37 ?_
      refine TT_iadd hK dX12_refine_38 ?_
      refine TT_zald hK (o := 95) (n := 64) (by decide) rfl (by first | omega | (simp [up, setR] <;> omega)) (by first | omega | (simp [up, setR] <;> omega)) (v := (h 95) ((8 * y) + x)) rfl dX12_refine_39 ?_
      have r9 := ty_95 (i := (8 * y) + x) (v := (h 95) ((8 * y) + x)) hT rfl (by omega) (by omega)
      refine TT_if_eq hK (tgt := 48) (irm (by omega) (by omega)) dX12_refine_40 (by decide) (fun hb40_10 => ?_) (fun hb40_10 => ?_)
      · refine TT_aload_n hK rfl 1 rfl dX12_refine_48 ?_
        refine TT_iload_n hK rfl 0 rfl dX12_refine_49 ?_
        refine iv_X12_237 hK (s_mrow_e (10 * y + x + 11) h hT (by first | omega | (simp [up, setR] <;> omega))) (by decide) rfl ⟨by decide, by decide⟩ (by decide) rfl rfl (Nat.le_of_ble_eq_true rfl) ⟨by decide, by decide⟩ dX12_refine_50 ?_
        intro r9 g50_11 hp9
        obtain ⟨⟨hT_11, hG_11⟩, z50_11, hr9, hz_11, e_11⟩ := hp9
        rw [hr9]
        have hE_11 : h = g50_11 := (funext (fun o9 => hG_11.1 o9 (List.not_mem_nil))).symm
        subst hE_11
        have e_at50 := e_11
        show TT K ly 0 0 53 [(3, vI (10 * y + x + 11)), (0, vR 73), (1, vI x), (2, vI y)] [vI z50_11] h
        refine TT_aload_n hK rfl 1 rfl dX12_refine_53 ?_
        refine TT_iload_n hK rfl 0 rfl dX12_refine_54 ?_
        refine iv_X12_240 hK (s_mcol_e (10 * y + x + 11) h hT (by first | omega | (simp [up, setR] <;> omega))) (by decide) rfl ⟨by decide, by decide⟩ (by decide) rfl rfl (Nat.le_of_ble_eq_true rfl) ⟨by decide, by decide⟩ dX12_refine_55 ?_
        intro r9 g55_12 hp9
        obtain ⟨⟨hT_12, hG_12⟩, z55_12, hr9, hz_12, e_12⟩ := hp9
        rw [hr9]
        have hE_12 : h = g55_12 := (funext (fun o9 => hG_12.1 o9 (List.not_mem_nil))).symm
        subst hE_12
        have e_at55 := e_12
        show TT K ly 0 0 58 [(3, vI (10 * y + x + 11)), (0, vR 73), (1, vI x), (2, vI y)] [vI z55_12, vI z50_11] h
        refine TT_iadd hK dX12_refine_58 ?_
        refine TT_aload_n hK rfl 1 rfl dX12_refine_59 ?_
        refine TT_iload_n hK rfl 0 rfl dX12_refine_60 ?_
        refine iv_X12_243 hK (s_macr_e (10 * y + x + 11) h hT (by first | omega | (simp [up, setR] <;> omega))) (by decide) rfl ⟨by decide, by decide⟩ (by decide) rfl rfl (Nat.le_of_ble_eq_true rfl) ⟨by decide, by decide⟩ dX12_refine_61 ?_
        intro r9 g61_13 hp9
        obtain ⟨⟨hT_13, hG_13⟩, z61_13, hr9, hz_13, e_13⟩ := hp9
        rw [hr9]
        have hE_13 : h = g61_13 := (funext (fun o9 => hG_13.1 o9 (List.not_mem_nil))).symm
        subst hE_13
        have e_at61 := e_13
        show TT K ly 0 0 64 [(3, vI (10 * y + x + 11)), (0, vR 73), (1, vI x), (2, vI y)] [vI z61_13, vI (z50_11 + z55_12)] h
        refine TT_iadd hK dX12_refine_64 ?_
        refine TT_if_le hK (tgt := 73) (irm (by omega) (by omega)) dX12_refine_65 (by decide) (fun hb65_14 => ?_) (fun hb65_14 => ?_)
        · refine TT_bipush hK (by decide) dX12_refine_73 ?_
          refine TT_istore hK (lv' := [(4, vI 14), (3, vI (10 * y + x + 11)), (0, vR 73), (1, vI x), (2, vI y)]) (by decide) rfl dX12_refine_75 ?_
          refine TT_aload_n hK rfl 2 rfl dX12_refine_77 ?_
          refine TT_iload hK 0 rfl dX12_refine_78 ?_
          refine TT_aload_n hK rfl 2 rfl dX12_refine_80 ?_
          refine TT_iload_n hK rfl 3 rfl dX12_refine_81 ?_
          refine TT_iload_n hK rfl 4 rfl dX12_refine_82 ?_
          have e15_73_27 : h 73 27 = (h 73) 27 := rfl
          refine iv_X12_264 hK (s_bitAt_e x y h hT (by first | omega | (simp [up, setR] <;> omega)) (by first | omega | (simp [up, setR] <;> omega)) (by rewrite [e15_73_27]; first | assumption | exact hpl | omega)) (by decide) rfl ⟨by decide, by decide⟩ (by decide) rfl rfl (Nat.le_of_ble_eq_true rfl) ⟨by decide, by decide⟩ dX12_refine_83 ?_
          intro r9 g83_16 hp9
          obtain ⟨⟨hT_16, hG_16⟩, z83_16, hr9, hz_16, e_16⟩ := hp9
          rw [hr9]
          have hE_16 : h = g83_16 := (funext (fun o9 => hG_16.1 o9 (List.not_mem_nil))).symm
          subst hE_16
          rw [show h 73 26 = (h 73) 26 from rfl] at e_16
          rw [show h 73 27 = (h 73) 27 from rfl] at e_16
          have e_at83 := e_16
          show TT K ly 0 0 86 [(4, vI 14), (3, vI (10 * y + x + 11)), (0, vR 73), (1, vI x), (2, vI y)] [vI z83_16, vI 14, vR 73] h
          refine TT_cgI (b := bS M (h 73 27) (10 * y + x + 11)) (by exact e_at83.trans (bS_q hR ⟨hx.1, hxw⟩ ⟨hy.1, hyg⟩)) ?_
          have e17_73_32 : h 73 32 = (h 73) 32 := rfl
          have e18_73_29 : h 73 29 = (h 73) 29 := rfl
          have e19_73_34 : h 73 34 = (h 73) 34 := rfl
          have e20_73_36 : h 73 36 = (h 73) 36 := rfl
          refine iv_X12_258 hK (s_code_e m E0 D0 M s 14 (bS M (h 73 27) (10 * y + x + 11)) h hT (by first | omega | (simp [up, setR] <;> omega)) (by have k9 := bS_r M (h 73 27) (10 * y + x + 11); omega) (by first | assumption | exact htb) (by rewrite [e17_73_32]; first | omega | (simp [up, setR] <;> omega)) (by rewrite [e18_73_29, e19_73_34, e20_73_36]; first | omega | (simp [up, setR] <;> omega)) (by exact hmd) (by first | assumption | exact hR)) (by decide) rfl ⟨by decide, by decide⟩ (by decide) rfl rfl (Nat.le_of_ble_eq_true rfl) ⟨by decide, by decide⟩ dX12_refine_86 ?_
          intro r9 g86_21 hp9
          obtain ⟨⟨hT_21, hG_21⟩, z86_21, hr9, hz_21, pa_21, pm_21, pc_21, cq_21⟩ := hp9
          rw [hr9]
          have hF_21 : FRM [73, 95, 96, 97, 98] [28, 32, 33, 34, 36, 39] h g86_21 := FRM_tr hF hG_21 (by decide) (by decide)
          rw [show h 73 29 = (h 73) 29 from rfl] at pm_21
          rw [show h 73 34 = (h 73) 34 from rfl] at pm_21
          rw [show h 73 36 = (h 73) 36 from rfl] at pm_21
          rw [show h 73 29 = (h 73) 29 from rfl] at pc_21
          have cq_at86 := cq_21
          show TT K ly 0 0 89 [(4, vI 14), (3, vI (10 * y + x + 11)), (0, vR 73), (1, vI x), (2, vI y)] [vI z86_21] g86_21
          refine TT_istore hK (lv' := [(5, vI z86_21), (4, vI 14), (3, vI (10 * y + x + 11)), (0, vR 73), (1, vI x), (2, vI y)]) (by decide) rfl dX12_refine_89 ?_
          refine TT_aload_n hK rfl 3 rfl dX12_refine_91 ?_
          refine gf_X12_81 hK (by decide) rfl (q := 95) rfl rfl dX12_refine_92 ?_
          refine TT_bipush hK (by decide) dX12_refine_95 ?_
          refine TT_iload_n hK rfl 5 rfl dX12_refine_97 ?_
          refine TT_imul hK dX12_refine_98 ?_
          refine TT_iload_n hK rfl 4 rfl dX12_refine_99 ?_
          refine TT_iadd hK dX12_refine_100 ?_
          refine TT_iconst hK dX12_refine_101 ?_
          refine TT_zast hK (o := 95) (n := 64) (by decide) rfl (by omega) (by omega) (by first | decide | omega) dX12_refine_102 ?_
          refine TT_hp (h' := setO g86_21 95 (fup (h 95) ((8 * y) + x) 1)) (up_can (hG_21.1 95 (by decide)) rfl rfl) ?_
          have hT_22 : TY (setO g86_21 95 (fup (h 95) ((8 * y) + x) 1)) := tu_95 hT_21 (show up g86_21 95 ((8 * y) + x) 1 = (setO g86_21 95 (fup (h 95) ((8 * y) + x) 1)) from up_can (hG_21.1 95 (by decide)) rfl rfl) (by omega)
          have hF_22 : FRM [73, 95, 96, 97, 98] [28, 32, 33, 34, 36, 39] h (setO g86_21 95 (fup (h 95) ((8 * y) + x) 1)) := FRM_up (show up g86_21 95 ((8 * y) + x) 1 = (setO g86_21 95 (fup (h 95) ((8 * y) + x) 1)) from up_can (hG_21.1 95 (by decide)) rfl rfl) hF_21 (by decide) (by decide)
          refine TT_aload_n hK rfl 3 rfl dX12_refine_103 ?_
          refine gf_X12_163 hK (by decide) rfl (v := (h 73) 29) ((rd_ (sOf_ne _ _ (by decide)) rfl).trans (hG_21.2 29 (by decide))) dX12_refine_104 ?_
          have r23 := ty_73_29 (v := (h 73) 29) hT_22 ((rd_ (sOf_ne _ _ (by decide)) rfl).trans (hG_21.2 29 (by decide)))
          refine TT_iconst hK dX12_refine_107 ?_
          refine TT_icmp_ne hK (tgt := 141) (irm (by omega) (by omega)) (by decide) dX12_refine_108 (by decide) (fun hb108_24 => ?_) (fun hb108_24 => ?_)
          · refine TT_vret hK hQ ?_ dX12_refine_141
            have e25_73_32 : (setO g86_21 95 (fup (h 95) ((8 * y) + x) 1)) 73 32 = (g86_21 73) 32 := rd_ (sOf_ne _ _ (by decide)) rfl
            have e26_73_34 : (setO g86_21 95 (fup (h 95) ((8 * y) + x) 1)) 73 34 = (g86_21 73) 34 := rd_ (sOf_ne _ _ (by decide)) rfl
            have e27_73_36 : (setO g86_21 95 (fup (h 95) ((8 * y) + x) 1)) 73 36 = (g86_21 73) 36 := rd_ (sOf_ne _ _ (by decide)) rfl
            have e28_96 : (setO g86_21 95 (fup (h 95) ((8 * y) + x) 1)) 96 = g86_21 96 := sOf_ne _ _ (by decide)
            have e29_84 : (setO g86_21 95 (fup (h 95) ((8 * y) + x) 1)) 84 = h 84 := (sOf_ne _ _ (by decide)).trans (hG_21.1 84 (by decide))
            have e30_85 : (setO g86_21 95 (fup (h 95) ((8 * y) + x) 1)) 85 = h 85 := (sOf_ne _ _ (by decide)).trans (hG_21.1 85 (by decide))
            exact ⟨⟨hT_22, hF_22⟩, rfl, (by rewrite [e25_73_32]; omega), (by rewrite [e26_73_34, e27_73_36, e28_96]; omega), (by rewrite [e29_84, e30_85]; first | (intro j hj; exact ⟨(by first | rfl | exact fup_ne _ _ (by omega)), rfl⟩) | (intro j hj; exact ⟨rfl, (pki j hj).2⟩) | (intro j hj; exact ⟨rfl, rfl⟩)), (by exact RRQ_rf hR (CQ_cg cq_at86.2.2.2.2.2 (congrFun (sOf_ne _ _ (by decide)) 28) (congrFun (sOf_ne _ _ (by decide)) 29) (congrFun (sOf_ne _ _ (by decide)) 32) (congrFun (sOf_ne _ _ (by decide)) 33) (congrFun (sOf_ne _ _ (by decide)) 34) (congrFun (sOf_ne _ _ (by decide)) 36) (congrFun (sOf_ne _ _ (by decide)) 38) (congrFun (sOf_ne _ _ (by decide)) 39) (sOf_ne _ _ (by decide)) (sOf_ne _ _ (by decide)) (sOf_ne _ _ (by decide)) (sOf_ne _ _ (by decide))) hx hy ⟨by omega, by omega⟩ (by first | (rw [if_neg (by omega)]; done) | (rw [if_pos (by omega), ← e_at50, ← e_at55, ← e_at61, if_pos (by omega)]; done) | (rw [if_pos (by omega), ← e_at50, ← e_at55, ← e_at61, if_neg (by omega)]; done)) rfl (sOf_eq _ _ _) ((sOf_ne _ _ (by decide)).trans (hG_21.1 84 (by decide))) ((sOf_ne _ _ (by decide)).trans (hG_21.1 85 (by decide))) ((sOf_ne _ _ (by decide)).trans (hG_21.1 93 (by decide))) ((sOf_ne _ _ (by decide)).trans (hG_21.1 94 (by decide))) ((sOf_ne _ _ (by decide)).trans (hG_21.1 80 (by decide))) ((sOf_ne _ _ (by decide)).trans (hG_21.1 81 (by decide))) ((rd_ (sOf_ne _ _ (by decide)) rfl).trans (hG_21.2 26 (by decide))))⟩
          · exfalso; omega
        · refine TT_bipush hK (by decide) dX12_refine_68 ?_
          refine TT_goto hK (tgt := 75) dX12_refine_70 (by decide) ?_
          refine TT_istore hK (lv' := [(4, vI 15), (3, vI (10 * y + x + 11)), (0, vR 73), (1, vI x), (2, vI y)]) (by decide) rfl dX12_refine_75 ?_
          refine TT_aload_n hK rfl 2 rfl dX12_refine_77 ?_
          refine TT_iload hK 0 rfl dX12_refine_78 ?_
          refine TT_aload_n hK rfl 2 rfl dX12_refine_80 ?_
          refine TT_iload_n hK rfl 3 rfl dX12_refine_81 ?_
          refine TT_iload_n hK rfl 4 rfl dX12_refine_82 ?_
          have e31_73_27 : h 73 27 = (h 73) 27 := rfl
          refine iv_X12_264 hK (s_bitAt_e x y h hT (by first | omega | (simp [up, setR] <;> omega)) (by first | omega | (simp [up, setR] <;> omega)) (by rewrite [e31_73_27]; first | assumption | exact hpl | omega)) (by decide) rfl ⟨by decide, by decide⟩ (by decide) rfl rfl (Nat.le_of_ble_eq_true rfl) ⟨by decide, by decide⟩ dX12_refine_83 ?_
          intro r9 g83_32 hp9
          obtain ⟨⟨hT_32, hG_32⟩, z83_32, hr9, hz_32, e_32⟩ := hp9
          rw [hr9]
          have hE_32 : h = g83_32 := (funext (fun o9 => hG_32.1 o9 (List.not_mem_nil))).symm
          subst hE_32
          rw [show h 73 26 = (h 73) 26 from rfl] at e_32
          rw [show h 73 27 = (h 73) 27 from rfl] at e_32
          have e_at83 := e_32
          show TT K ly 0 0 86 [(4, vI 15), (3, vI (10 * y + x + 11)), (0, vR 73), (1, vI x), (2, vI y)] [vI z83_32, vI 15, vR 73] h
          refine TT_cgI (b := bS M (h 73 27) (10 * y + x + 11)) (by exact e_at83.trans (bS_q hR ⟨hx.1, hxw⟩ ⟨hy.1, hyg⟩)) ?_
          have e33_73_32 : h 73 32 = (h 73) 32 := rfl
          have e34_73_29 : h 73 29 = (h 73) 29 := rfl
          have e35_73_34 : h 73 34 = (h 73) 34 := rfl
          have e36_73_36 : h 73 36 = (h 73) 36 := rfl
          refine iv_X12_258 hK (s_code_e m E0 D0 M s 15 (bS M (h 73 27) (10 * y + x + 11)) h hT (by first | omega | (simp [up, setR] <;> omega)) (by have k9 := bS_r M (h 73 27) (10 * y + x + 11); omega) (by first | assumption | exact htb) (by rewrite [e33_73_32]; first | omega | (simp [up, setR] <;> omega)) (by rewrite [e34_73_29, e35_73_34, e36_73_36]; first | omega | (simp [up, setR] <;> omega)) (by exact hmd) (by first | assumption | exact hR)) (by decide) rfl ⟨by decide, by decide⟩ (by decide) rfl rfl (Nat.le_of_ble_eq_true rfl) ⟨by decide, by decide⟩ dX12_refine_86 ?_
          intro r9 g86_37 hp9
          obtain ⟨⟨hT_37, hG_37⟩, z86_37, hr9, hz_37, pa_37, pm_37, pc_37, cq_37⟩ := hp9
          rw [hr9]
          have hF_37 : FRM [73, 95, 96, 97, 98] [28, 32, 33, 34, 36, 39] h g86_37 := FRM_tr hF hG_37 (by decide) (by decide)
          rw [show h 73 29 = (h 73) 29 from rfl] at pm_37
          rw [show h 73 34 = (h 73) 34 from rfl] at pm_37
          rw [show h 73 36 = (h 73) 36 from rfl] at pm_37
          rw [show h 73 29 = (h 73) 29 from rfl] at pc_37
          have cq_at86 := cq_37
          show TT K ly 0 0 89 [(4, vI 15), (3, vI (10 * y + x + 11)), (0, vR 73), (1, vI x), (2, vI y)] [vI z86_37] g86_37
          refine TT_istore hK (lv' := [(5, vI z86_37), (4, vI 15), (3, vI (10 * y + x + 11)), (0, vR 73), (1, vI x), (2, vI y)]) (by decide) rfl dX12_refine_89 ?_
          refine TT_aload_n hK rfl 3 rfl dX12_refine_91 ?_
          refine gf_X12_81 hK (by decide) rfl (q := 95) rfl rfl dX12_refine_92 ?_
          refine TT_bipush hK (by decide) dX12_refine_95 ?_
          refine TT_iload_n hK rfl 5 rfl dX12_refine_97 ?_
          refine TT_imul hK dX12_refine_98 ?_
          refine TT_iload_n hK rfl 4 rfl dX12_refine_99 ?_
          refine TT_iadd hK dX12_refine_100 ?_
          refine TT_iconst hK dX12_refine_101 ?_
          refine TT_zast hK (o := 95) (n := 64) (by decide) rfl (by omega) (by omega) (by first | decide | omega) dX12_refine_102 ?_
          refine TT_hp (h' := setO g86_37 95 (fup (h 95) ((8 * y) + x) 1)) (up_can (hG_37.1 95 (by decide)) rfl rfl) ?_
          have hT_38 : TY (setO g86_37 95 (fup (h 95) ((8 * y) + x) 1)) := tu_95 hT_37 (show up g86_37 95 ((8 * y) + x) 1 = (setO g86_37 95 (fup (h 95) ((8 * y) + x) 1)) from up_can (hG_37.1 95 (by decide)) rfl rfl) (by omega)
          have hF_38 : FRM [73, 95, 96, 97, 98] [28, 32, 33, 34, 36, 39] h (setO g86_37 95 (fup (h 95) ((8 * y) + x) 1)) := FRM_up (show up g86_37 95 ((8 * y) + x) 1 = (setO g86_37 95 (fup (h 95) ((8 * y) + x) 1)) from up_can (hG_37.1 95 (by decide)) rfl rfl) hF_37 (by decide) (by decide)
          refine TT_aload_n hK rfl 3 rfl dX12_refine_103 ?_
          refine gf_X12_163 hK (by decide) rfl (v := (h 73) 29) ((rd_ (sOf_ne _ _ (by decide)) rfl).trans (hG_37.2 29 (by decide))) dX12_refine_104 ?_
          have r39 := ty_73_29 (v := (h 73) 29) hT_38 ((rd_ (sOf_ne _ _ (by decide)) rfl).trans (hG_37.2 29 (by decide)))
          refine TT_iconst hK dX12_refine_107 ?_
          refine TT_icmp_ne hK (tgt := 141) (irm (by omega) (by omega)) (by decide) dX12_refine_108 (by decide) (fun hb108_40 => ?_) (fun hb108_40 => ?_)
          · refine TT_vret hK hQ ?_ dX12_refine_141
            have e41_73_32 : (setO g86_37 95 (fup (h 95) ((8 * y) + x) 1)) 73 32 = (g86_37 73) 32 := rd_ (sOf_ne _ _ (by decide)) rfl
            have e42_73_34 : (setO g86_37 95 (fup (h 95) ((8 * y) + x) 1)) 73 34 = (g86_37 73) 34 := rd_ (sOf_ne _ _ (by decide)) rfl
            have e43_73_36 : (setO g86_37 95 (fup (h 95) ((8 * y) + x) 1)) 73 36 = (g86_37 73) 36 := rd_ (sOf_ne _ _ (by decide)) rfl
            have e44_96 : (setO g86_37 95 (fup (h 95) ((8 * y) + x) 1)) 96 = g86_37 96 := sOf_ne _ _ (by decide)
            have e45_84 : (setO g86_37 95 (fup (h 95) ((8 * y) + x) 1)) 84 = h 84 := (sOf_ne _ _ (by decide)).trans (hG_37.1 84 (by decide))
            have e46_85 : (setO g86_37 95 (fup (h 95) ((8 * y) + x) 1)) 85 = h 85 := (sOf_ne _ _ (by decide)).trans (hG_37.1 85 (by decide))
            exact ⟨⟨hT_38, hF_38⟩, rfl, (by rewrite [e41_73_32]; omega), (by rewrite [e42_73_34, e43_73_36, e44_96]; omega), (by rewrite [e45_84, e46_85]; first | (intro j hj; exact ⟨(by first | rfl | exact fup_ne _ _ (by omega)), rfl⟩) | (intro j hj; exact ⟨rfl, (pki j hj).2⟩) | (intro j hj; exact ⟨rfl, rfl⟩)), (by exact RRQ_rf hR (CQ_cg cq_at86.2.2.2.2.2 (congrFun (sOf_ne _ _ (by decide)) 28) (congrFun (sOf_ne _ _ (by decide)) 29) (congrFun (sOf_ne _ _ (by decide)) 32) (congrFun (sOf_ne _ _ (by decide)) 33) (congrFun (sOf_ne _ _ (by decide)) 34) (congrFun (sOf_ne _ _ (by decide)) 36) (congrFun (sOf_ne _ _ (by decide)) 38) (congrFun (sOf_ne _ _ (by decide)) 39) (sOf_ne _ _ (by decide)) (sOf_ne _ _ (by decide)) (sOf_ne _ _ (by decide)) (sOf_ne _ _ (by decide))) hx hy ⟨by omega, by omega⟩ (by first | (rw [if_neg (by omega)]; done) | (rw [if_pos (by omega), ← e_at50, ← e_at55, ← e_at61, if_pos (by omega)]; done) | (rw [if_pos (by omega), ← e_at50, ← e_at55, ← e_at61, if_neg (by omega)]; done)) rfl (sOf_eq _ _ _) ((sOf_ne _ _ (by decide)).trans (hG_37.1 84 (by decide))) ((sOf_ne _ _ (by decide)).trans (hG_37.1 85 (by decide))) ((sOf_ne _ _ (by decide)).trans (hG_37.1 93 (by decide))) ((sOf_ne _ _ (by decide)).trans (hG_37.1 94 (by decide))) ((sOf_ne _ _ (by decide)).trans (hG_37.1 80 (by decide))) ((sOf_ne _ _ (by decide)).trans (hG_37.1 81 (by decide))) ((rd_ (sOf_ne _ _ (by decide)) rfl).trans (hG_37.2 26 (by decide))))⟩
          · exfalso; omega
      · refine TT_bipush hK (by decide) dX12_refine_43 ?_
        refine TT_goto hK (tgt := 75) dX12_refine_45 (by decide) ?_
        refine TT_istore hK (lv' := [(4, vI 16), (3, vI (10 * y + x + 11)), (0, vR 73), (1, vI x), (2, vI y)]) (by decide) rfl dX12_refine_75 ?_
        refine TT_aload_n hK rfl 2 rfl dX12_refine_77 ?_
        refine TT_iload hK 0 rfl dX12_refine_78 ?_
        refine TT_aload_n hK rfl 2 rfl dX12_refine_80 ?_
        refine TT_iload_n hK rfl 3 rfl dX12_refine_81 ?_
        refine TT_iload_n hK rfl 4 rfl dX12_refine_82 ?_
        have e47_73_27 : h 73 27 = (h 73) 27 := rfl
        refine iv_X12_264 hK (s_bitAt_e x y h hT (by first | omega | (simp [up, setR] <;> omega)) (by first | omega | (simp [up, setR] <;> omega)) (by rewrite [e47_73_27]; first | assumption | exact hpl | omega)) (by decide) rfl ⟨by decide, by decide⟩ (by decide) rfl rfl (Nat.le_of_ble_eq_true rfl) ⟨by decide, by decide⟩ dX12_refine_83 ?_
        intro r9 g83_48 hp9
        obtain ⟨⟨hT_48, hG_48⟩, z83_48, hr9, hz_48, e_48⟩ := hp9
        rw [hr9]
        have hE_48 : h = g83_48 := (funext (fun o9 => hG_48.1 o9 (List.not_mem_nil))).symm
        subst hE_48
        rw [show h 73 26 = (h 73) 26 from rfl] at e_48
        rw [show h 73 27 = (h 73) 27 from rfl] at e_48
        have e_at83 := e_48
        show TT K ly 0 0 86 [(4, vI 16), (3, vI (10 * y + x + 11)), (0, vR 73), (1, vI x), (2, vI y)] [vI z83_48, vI 16, vR 73] h
        refine TT_cgI (b := bS M (h 73 27) (10 * y + x + 11)) (by exact e_at83.trans (bS_q hR ⟨hx.1, hxw⟩ ⟨hy.1, hyg⟩)) ?_
        have e49_73_32 : h 73 32 = (h 73) 32 := rfl
        have e50_73_29 : h 73 29 = (h 73) 29 := rfl
        have e51_73_34 : h 73 34 = (h 73) 34 := rfl
        have e52_73_36 : h 73 36 = (h 73) 36 := rfl
        refine iv_X12_258 hK (s_code_e m E0 D0 M s 16 (bS M (h 73 27) (10 * y + x + 11)) h hT (by first | omega | (simp [up, setR] <;> omega)) (by have k9 := bS_r M (h 73 27) (10 * y + x + 11); omega) (by first | assumption | exact htb) (by rewrite [e49_73_32]; first | omega | (simp [up, setR] <;> omega)) (by rewrite [e50_73_29, e51_73_34, e52_73_36]; first | omega | (simp [up, setR] <;> omega)) (by exact hmd) (by first | assumption | exact hR)) (by decide) rfl ⟨by decide, by decide⟩ (by decide) rfl rfl (Nat.le_of_ble_eq_true rfl) ⟨by decide, by decide⟩ dX12_refine_86 ?_
        intro r9 g86_53 hp9
        obtain ⟨⟨hT_53, hG_53⟩, z86_53, hr9, hz_53, pa_53, pm_53, pc_53, cq_53⟩ := hp9
        rw [hr9]
        have hF_53 : FRM [73, 95, 96, 97, 98] [28, 32, 33, 34, 36, 39] h g86_53 := FRM_tr hF hG_53 (by decide) (by decide)
        rw [show h 73 29 = (h 73) 29 from rfl] at pm_53
        rw [show h 73 34 = (h 73) 34 from rfl] at pm_53
        rw [show h 73 36 = (h 73) 36 from rfl] at pm_53
        rw [show h 73 29 = (h 73) 29 from rfl] at pc_53
        have cq_at86 := cq_53
        show TT K ly 0 0 89 [(4, vI 16), (3, vI (10 * y + x + 11)), (0, vR 73), (1, vI x), (2, vI y)] [vI z86_53] g86_53
        refine TT_istore hK (lv' := [(5, vI z86_53), (4, vI 16), (3, vI (10 * y + x + 11)), (0, vR 73), (1, vI x), (2, vI y)]) (by decide) rfl dX12_refine_89 ?_
        refine TT_aload_n hK rfl 3 rfl dX12_refine_91 ?_
        refine gf_X12_81 hK (by decide) rfl (q := 95) rfl rfl dX12_refine_92 ?_
        refine TT_bipush hK (by decide) dX12_refine_95 ?_
        refine TT_iload_n hK rfl 5 rfl dX12_refine_97 ?_
        refine TT_imul hK dX12_refine_98 ?_
        refine TT_iload_n hK rfl 4 rfl dX12_refine_99 ?_
        refine TT_iadd hK dX12_refine_100 ?_
        refine TT_iconst hK dX12_refine_101 ?_
        refine TT_zast hK (o := 95) (n := 64) (by decide) rfl (by omega) (by omega) (by first | decide | omega) dX12_refine_102 ?_
        refine TT_hp (h' := setO g86_53 95 (fup (h 95) ((8 * y) + x) 1)) (up_can (hG_53.1 95 (by decide)) rfl rfl) ?_
        have hT_54 : TY (setO g86_53 95 (fup (h 95) ((8 * y) + x) 1)) := tu_95 hT_53 (show up g86_53 95 ((8 * y) + x) 1 = (setO g86_53 95 (fup (h 95) ((8 * y) + x) 1)) from up_can (hG_53.1 95 (by decide)) rfl rfl) (by omega)
        have hF_54 : FRM [73, 95, 96, 97, 98] [28, 32, 33, 34, 36, 39] h (setO g86_53 95 (fup (h 95) ((8 * y) + x) 1)) := FRM_up (show up g86_53 95 ((8 * y) + x) 1 = (setO g86_53 95 (fup (h 95) ((8 * y) + x) 1)) from up_can (hG_53.1 95 (by decide)) rfl rfl) hF_53 (by decide) (by decide)
        refine TT_aload_n hK rfl 3 rfl dX12_refine_103 ?_
        refine gf_X12_163 hK (by decide) rfl (v := (h 73) 29) ((rd_ (sOf_ne _ _ (by decide)) rfl).trans (hG_53.2 29 (by decide))) dX12_refine_104 ?_
        have r55 := ty_73_29 (v := (h 73) 29) hT_54 ((rd_ (sOf_ne _ _ (by decide)) rfl).trans (hG_53.2 29 (by decide)))
        refine TT_iconst hK dX12_refine_107 ?_
        refine TT_icmp_ne hK (tgt := 141) (irm (by omega) (by omega)) (by decide) dX12_refine_108 (by decide) (fun hb108_56 => ?_) (fun hb108_56 => ?_)
        · refine TT_vret hK hQ ?_ dX12_refine_141
          have e57_73_32 : (setO g86_53 95 (fup (h 95) ((8 * y) + x) 1)) 73 32 = (g86_53 73) 32 := rd_ (sOf_ne _ _ (by decide)) rfl
          have e58_73_34 : (setO g86_53 95 (fup (h 95) ((8 * y) + x) 1)) 73 34 = (g86_53 73) 34 := rd_ (sOf_ne _ _ (by decide)) rfl
          have e59_73_36 : (setO g86_53 95 (fup (h 95) ((8 * y) + x) 1)) 73 36 = (g86_53 73) 36 := rd_ (sOf_ne _ _ (by decide)) rfl
          have e60_96 : (setO g86_53 95 (fup (h 95) ((8 * y) + x) 1)) 96 = g86_53 96 := sOf_ne _ _ (by decide)
          have e61_84 : (setO g86_53 95 (fup (h 95) ((8 * y) + x) 1)) 84 = h 84 := (sOf_ne _ _ (by decide)).trans (hG_53.1 84 (by decide))
          have e62_85 : (setO g86_53 95 (fup (h 95) ((8 * y) + x) 1)) 85 = h 85 := (sOf_ne _ _ (by decide)).trans (hG_53.1 85 (by decide))
          exact ⟨⟨hT_54, hF_54⟩, rfl, (by rewrite [e57_73_32]; omega), (by rewrite [e58_73_34, e59_73_36, e60_96]; omega), (by rewrite [e61_84, e62_85]; first | (intro j hj; exact ⟨(by first | rfl | exact fup_ne _ _ (by omega)), rfl⟩) | (intro j hj; exact ⟨rfl, (pki j hj).2⟩) | (intro j hj; exact ⟨rfl, rfl⟩)), (by exact RRQ_rf hR (CQ_cg cq_at86.2.2.2.2.2 (congrFun (sOf_ne _ _ (by decide)) 28) (congrFun (sOf_ne _ _ (by decide)) 29) (congrFun (sOf_ne _ _ (by decide)) 32) (congrFun (sOf_ne _ _ (by decide)) 33) (congrFun (sOf_ne _ _ (by decide)) 34) (congrFun (sOf_ne _ _ (by decide)) 36) (congrFun (sOf_ne _ _ (by decide)) 38) (congrFun (sOf_ne _ _ (by decide)) 39) (sOf_ne _ _ (by decide)) (sOf_ne _ _ (by decide)) (sOf_ne _ _ (by decide)) (sOf_ne _ _ (by decide))) hx hy ⟨by omega, by omega⟩ (by first | (rw [if_neg (by omega)]; done)) rfl (sOf_eq _ _ _) ((sOf_ne _ _ (by decide)).trans (hG_53.1 84 (by decide))) ((sOf_ne _ _ (by decide)).trans (hG_53.1 85 (by decide))) ((sOf_ne _ _ (by decide)).trans (hG_53.1 93 (by decide))) ((sOf_ne _ _ (by decide)).trans (hG_53.1 94 (by decide))) ((sOf_ne _ _ (by decide)).trans (hG_53.1 80 (by decide))) ((sOf_ne _ _ (by decide)).trans (hG_53.1 81 (by decide))) ((rd_ (sOf_ne _ _ (by decide)) rfl).trans (hG_53.2 26 (by decide))))⟩
        · exfalso; omega
    · refine TT_vret hK hQ ?_ dX12_refine_28
      have e63_73_32 : h 73 32 = (h 73) 32 := rfl
      have e64_73_34 : h 73 34 = (h 73) 34 := rfl
      have e65_73_36 : h 73 36 = (h 73) 36 := rfl
      exact ⟨⟨hT, hF⟩, rfl, (by rewrite [e63_73_32]; omega), (by rewrite [e64_73_34, e65_73_36]; omega), (by first | (intro j hj; exact ⟨(by first | rfl | exact fup_ne _ _ (by omega)), rfl⟩) | (intro j hj; exact ⟨rfl, (pki j hj).2⟩) | (intro j hj; exact ⟨rfl, rfl⟩)), (by unfold rfnT; rw [if_neg (show ¬(s.1 (10 * y + x + 11) ≠ 0 ∧ s.2.1 (10 * y + x + 11) = 0) by omega)]; exact hR)⟩

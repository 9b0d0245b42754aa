set_option maxRecDepth 20000 in
theorem s_clean_x (m : Int) (E0 : ES_) (D0 : Int × DS_) (M : Int → Int) (s : TS_) (x y : Int) (h : Hp_) (hT : TY h) (hx : 0 ≤ x ∧ x ≤ 7) (hy : y = 0 ∨ y = 4) (hxw : x < ((h 80) (h 73 26))) (hye : y < ((h 81) (h 73 26))) (hw8 : ((h 80) (h 73 26)) ≤ 8) (he8 : ((h 81) (h 73 26)) ≤ 8) (htb : TBL (h 74) (h 75)) (ha : 32768 ≤ (h 73 32) ∧ (h 73 32) < 65536) (hm : (h 73 29) = 0 → 1 ≤ (h 73 34) ∧ 1 ≤ (h 73 36) ∧ 7 * (h 73 36) - (h 73 34) + PhS (h 96) + 27 * ZC ((h 80) (h 73 26)) ((h 81) (h 73 26)) (h 93) + 108 ≤ 22300) (hw1 : (h 73 29) = 1 → 10 ≤ (h 73 26)) (hmd : m = 0 ∨ m = 2) (hR : RRQ m E0 D0 M h s) (hpl : 0 ≤ (h 73 27) ∧ (h 73 27) ≤ 20) : Ctr yX12_clean cX12_clean 4 none (rmd 6) ly ly 0 0 [vR 73, vI x, vI y] h (fun r h' => (TY h' ∧ FRM [73, 85, 93, 96, 97, 98] [28, 32, 33, 34, 36, 39] h h') ∧ r = none ∧ (32768 ≤ (h' 73 32) ∧ (h' 73 32) < 65536) ∧ ((h 73 29) = 0 → 1 ≤ (h' 73 34) ∧ 1 ≤ (h' 73 36) ∧ 7 * (h' 73 36) - (h' 73 34) + PhS (h' 96) + 27 * ZC ((h 80) (h 73 26)) ((h 81) (h 73 26)) (h' 93) ≤ 7 * (h 73 36) - (h 73 34) + PhS (h 96) + 27 * ZC ((h 80) (h 73 26)) ((h 81) (h 73 26)) (h 93) + 9 * min 4 (((h 81) (h 73 26)) - y)) ∧ (∀ j : Int, j < 640 → (h' 84) j = (h 84) j ∧ (h' 85) j = (h 85) j) ∧ (RRQ m E0 D0 M h' (cnT M ((h 82) (h 73 26)) (h 73 27) (10 * y + x + 11) (min 4 ((h 81) (h 73 26) - y)) s))) := by
  refine Ctr_of (by decide) (Nat.le_of_ble_eq_true rfl) ⟨Nat.le_refl _, Nat.le_refl _⟩ (fun K hK hQ _ => ?_)
  show TT K ly 0 0 0 [(0, vR 73), (1, vI x), (2, vI y)] [] h
  have hF : FRM [73, 85, 93, 96, 97, 98] [28, 32, 33, 34, 36, 39] h h := FRM_rf _ _ _
  have hmq : h 73 29 = m := hR.2.2.2.2.1
  have zn := ZC_nn (h 80 (h 73 26)) (h 81 (h 73 26)) (h 93)
  refine TT_iload_n hK rfl 2 rfl dX12_clean_0 ?_
  refine TT_aload_n hK rfl 0 rfl dX12_clean_1 ?_
  refine TT_iload_n hK rfl 1 rfl dX12_clean_2 ?_
  refine TT_iload_n hK rfl 2 rfl dX12_clean_3 ?_
  have e1_73_32 : h 73 32 = (h 73) 32 := rfl
  have e2_73_29 : h 73 29 = (h 73) 29 := rfl
  have e3_73_34 : h 73 34 = (h 73) 34 := rfl
  have e4_73_36 : h 73 36 = (h 73) 36 := rfl
  have e5_73_26 : h 73 26 = (h 73) 26 := rfl
  have e6_73_29 : h 73 29 = (h 73) 29 := rfl
  have e7_73_26 : h 73 26 = (h 73) 26 := rfl
  have e8_73_26 : h 73 26 = (h 73) 26 := rfl
  have e9_73_26 : h 73 26 = (h 73) 26 := rfl
  have e10_73_27 : h 73 27 = (h 73) 27 := rfl
  refine iv_X12_274 hK (s_jump_x m E0 D0 M s x y h hT (by first | omega | (simp [up, setR] <;> omega)) (by first | omega | (simp [up, setR] <;> omega)) (by first | assumption | exact htb) (by rewrite [e1_73_32]; first | omega | (simp [up, setR] <;> omega)) (by rewrite [e2_73_29, e3_73_34, e4_73_36]; first | omega | (simp [up, setR] <;> omega)) (by rewrite [e5_73_26, e6_73_29]; first | omega | (simp [up, setR] <;> omega)) (by exact hmd) (by first | assumption | exact hR) (by rewrite [e7_73_26]; first | omega | (simp [up, setR] <;> omega)) (by rewrite [e8_73_26]; first | omega | (simp [up, setR] <;> omega)) (by rewrite [e9_73_26]; first | omega | (simp [up, setR] <;> omega)) (by rewrite [e10_73_27]; first | assumption | exact hpl | omega)) (by decide) rfl ⟨by decide, by decide⟩ (by decide) rfl rfl (Nat.le_of_ble_eq_true rfl) ⟨by decide, by decide⟩ dX12_clean_4 ?_
  intro r9 g4_11 hp9
  obtain ⟨⟨hT_11, hG_11⟩, z4_11, hr9, hz_11, pa_11, pm_11, pq_11, pz_11, pk_11, jp_11⟩ := hp9
  rw [hr9]
  have hF_11 : FRM [73, 85, 93, 96, 97, 98] [28, 32, 33, 34, 36, 39] h g4_11 := FRM_tr hF hG_11 (by decide) (by decide)
  rw [show h 73 29 = (h 73) 29 from rfl] at pm_11
  rw [show h 73 34 = (h 73) 34 from rfl] at pm_11
  rw [show h 73 36 = (h 73) 36 from rfl] at pm_11
  rw [show h 73 26 = (h 73) 26 from rfl] at pq_11
  rw [show h 73 26 = (h 73) 26 from rfl] at pz_11
  rw [show h 73 29 = (h 73) 29 from rfl] at pz_11
  rw [show h 73 34 = (h 73) 34 from rfl] at pz_11
  rw [show h 73 36 = (h 73) 36 from rfl] at pz_11
  rw [show h 73 26 = (h 73) 26 from rfl] at jp_11
  rw [show h 73 27 = (h 73) 27 from rfl] at jp_11
  have pz_at4 := pz_11
  have pk_at4 := pk_11
  have jp_at4 := jp_11
  show TT K ly 0 0 7 [(0, vR 73), (1, vI x), (2, vI y)] [vI z4_11, vI y] g4_11
  have k4 := pz_at4 (h 80 (h 73 26)) hxw hw8
  refine TT_iadd hK dX12_clean_7 ?_
  refine TT_istore_n hK rfl (lv' := [(3, vI (y + z4_11)), (0, vR 73), (1, vI x), (2, vI y)]) (by decide) rfl dX12_clean_8 ?_
  have L9_12 : ∀ (k12 : Nat) (i : Int) (w9_12 : Hp_), TY w9_12 → FRM [73, 85, 93, 96, 97, 98] [28, 32, 33, 34, 36, 39] h w9_12 → (y ≤ i ∧ i ≤ y + 4 ∧ i ≤ (h 81 (h 73 26))) → (32768 ≤ (w9_12 73 32) ∧ (w9_12 73 32) < 65536) → (h 73 29 = 0 → 1 ≤ (w9_12 73 34) ∧ 1 ≤ (w9_12 73 36) ∧ 7 * (w9_12 73 36) - (w9_12 73 34) + PhS (w9_12 96) + 27 * ZC (h 80 (h 73 26)) (h 81 (h 73 26)) (w9_12 93) ≤ 7 * (h 73 36) - (h 73 34) + PhS (h 96) + 27 * ZC (h 80 (h 73 26)) (h 81 (h 73 26)) (h 93) + 9 * (i - y)) → (0 ≤ ZC (h 80 (h 73 26)) (h 81 (h 73 26)) (w9_12 93)) → (∀ j : Int, j < 640 → (w9_12 84) j = h 84 j ∧ (w9_12 85) j = h 85 j) → (min 4 (nxT s.1 s.2.1 M (h 82 (h 73 26)) (h 73 27) (10 * y + x + 11) (min 4 (h 81 (h 73 26) - y))) ≤ i - y) → (RRQ m E0 D0 M w9_12 (clI M (h 82 (h 73 26)) (h 73 27) (10 * y + x + 11) (min 4 (h 81 (h 73 26) - y)) y s i)) → (y + 4 - i).toNat < k12 → TT K ly 0 0 9 [(0, vR 73), (1, vI x), (2, vI y), (3, vI i)] [] w9_12 := by
    intro k12
    induction k12 with
    | zero => intro i w9_12 hT9_12 hF9_12 hi ha1 hp1 hzn pki hin hRw hk12; exact absurd hk12 (Nat.not_lt_zero _)
    | succ k12 ih12 =>
      intro i w9_12 hT9_12 hF9_12 hi ha1 hp1 hzn pki hin hRw hk12
      refine TT_iload_n hK rfl 3 rfl dX12_clean_9 ?_
      refine TT_iload_n hK rfl 2 rfl dX12_clean_10 ?_
      refine TT_iconst hK dX12_clean_11 ?_
      refine TT_iadd hK dX12_clean_12 ?_
      refine TT_icmp_ge hK (tgt := 70) (irm (by omega) (by omega)) (irm (by omega) (by omega)) dX12_clean_13 (by decide) (fun hb13_13 => ?_) (fun hb13_13 => ?_)
      · refine TT_vret hK hQ ?_ dX12_clean_70
        have e14_73_32 : w9_12 73 32 = (w9_12 73) 32 := rfl
        have e15_73_34 : w9_12 73 34 = (w9_12 73) 34 := rfl
        have e16_73_36 : w9_12 73 36 = (w9_12 73) 36 := rfl
        have e17_84 : w9_12 84 = h 84 := (hF9_12.1 84 (by decide))
        exact ⟨⟨hT9_12, hF9_12⟩, rfl, (by rewrite [e14_73_32]; omega), (by rewrite [e15_73_34, e16_73_36]; omega), (by rewrite [e17_84]; first | (exact pki) | (intro j hj; exact ⟨rfl, (pk_at4 j hj).2.trans (pki j hj).2⟩) | (intro j hj; exact ⟨rfl, (pk_at4 j hj).2⟩) | (intro j hj; exact ⟨rfl, (pki j hj).2⟩) | (intro j hj; exact ⟨rfl, rfl⟩)), (by exact clI_e hRw (by omega))⟩
      · refine TT_iload_n hK rfl 3 rfl dX12_clean_16 ?_
        refine TT_aload_n hK rfl 0 rfl dX12_clean_17 ?_
        refine gf_X12_38 hK (by decide) rfl (q := 81) rfl rfl dX12_clean_18 ?_
        refine TT_aload_n hK rfl 0 rfl dX12_clean_21 ?_
        refine gf_X12_246 hK (by decide) rfl (v := (h 73) 26) (hF9_12.2 26 (by decide)) dX12_clean_22 ?_
        have r18 := ty_73_26 (v := (h 73) 26) hT9_12 (hF9_12.2 26 (by decide))
        refine TT_iald hK (o := 81) (n := 20) (by decide) rfl (by first | omega | (simp [up, setR] <;> omega)) (by first | omega | (simp [up, setR] <;> omega)) (v := (h 81) ((h 73) 26)) (rd_ (hF9_12.1 81 (by decide)) rfl) dX12_clean_25 ?_
        have r19 := ty_81 (i := (h 73) 26) (v := (h 81) ((h 73) 26)) hT9_12 (rd_ (hF9_12.1 81 (by decide)) rfl) (by omega) (by omega)
        refine TT_icmp_ge hK (tgt := 70) (irm (by omega) (by omega)) (irm (by omega) (by omega)) dX12_clean_26 (by decide) (fun hb26_20 => ?_) (fun hb26_20 => ?_)
        · refine TT_vret hK hQ ?_ dX12_clean_70
          have e21_73_32 : w9_12 73 32 = (w9_12 73) 32 := rfl
          have e22_73_34 : w9_12 73 34 = (w9_12 73) 34 := rfl
          have e23_73_36 : w9_12 73 36 = (w9_12 73) 36 := rfl
          have e24_84 : w9_12 84 = h 84 := (hF9_12.1 84 (by decide))
          exact ⟨⟨hT9_12, hF9_12⟩, rfl, (by rewrite [e21_73_32]; omega), (by rewrite [e22_73_34, e23_73_36]; omega), (by rewrite [e24_84]; first | (exact pki) | (intro j hj; exact ⟨rfl, (pk_at4 j hj).2.trans (pki j hj).2⟩) | (intro j hj; exact ⟨rfl, (pk_at4 j hj).2⟩) | (intro j hj; exact ⟨rfl, (pki j hj).2⟩) | (intro j hj; exact ⟨rfl, rfl⟩)), (by exact clI_e hRw (by omega))⟩
        · refine TT_aload_n hK rfl 0 rfl dX12_clean_29 ?_
          refine TT_iload_n hK rfl 1 rfl dX12_clean_30 ?_
          refine TT_iload_n hK rfl 3 rfl dX12_clean_31 ?_
          refine iv_X12_271 hK (s_untouched_e x i w9_12 hT9_12 (by first | omega | (simp [up, setR] <;> omega)) (by first | omega | (simp [up, setR] <;> omega))) (by decide) rfl ⟨by decide, by decide⟩ (by decide) rfl rfl (Nat.le_of_ble_eq_true rfl) ⟨by decide, by decide⟩ dX12_clean_32 ?_
          intro r9 g32_25 hp9
          obtain ⟨⟨hT_25, hG_25⟩, z32_25, hr9, hz_25, p1_25, e_25⟩ := hp9
          rw [hr9]
          have hE_25 : w9_12 = g32_25 := (funext (fun o9 => hG_25.1 o9 (List.not_mem_nil))).symm
          subst hE_25
          rw [show w9_12 94 = h 94 from (hF9_12.1 94 (by decide))] at e_25
          have e_at32 := e_25
          show TT K ly 0 0 35 [(0, vR 73), (1, vI x), (2, vI y), (3, vI i)] [vI z32_25] w9_12
          refine TT_if_eq hK (tgt := 64) (irm (by omega) (by omega)) dX12_clean_35 (by decide) (fun hb35_26 => ?_) (fun hb35_26 => ?_)
          · refine TT_iinc hK (v := i + 1) (lv' := [(3, vI (i + 1)), (0, vR 73), (1, vI x), (2, vI y)]) 3 rfl rfl (by decide) rfl dX12_clean_64 ?_
            refine TT_goto hK (tgt := 9) dX12_clean_67 (by decide) ?_
            refine TT_sub [1, 2, 3, 0] rfl ?_
            have e27_73_32 : w9_12 73 32 = (w9_12 73) 32 := rfl
            have e28_73_34 : w9_12 73 34 = (w9_12 73) 34 := rfl
            have e29_73_36 : w9_12 73 36 = (w9_12 73) 36 := rfl
            have e30_84 : w9_12 84 = h 84 := (hF9_12.1 84 (by decide))
            try have k8 := pz_at61 (h 80 (h 73 26)) (h 81 (h 73 26)) (by omega) hw8 (by omega) he8 (by omega)
            exact ih12 (i + 1) w9_12 hT9_12 hF9_12 (by first | omega | (simp [up, setR] <;> omega)) (by rewrite [e27_73_32]; first | omega | (simp [up, setR] <;> omega)) (by rewrite [e28_73_34, e29_73_36]; first | omega | (simp [up, setR] <;> omega)) (by exact ZC_nn _ _ _) (by rewrite [e30_84]; first | (first | exact pki) | (intro j hj; exact ⟨rfl, (pk_at4 j hj).2.trans (pki j hj).2⟩) | (intro j hj; exact ⟨rfl, (pk_at4 j hj).2⟩) | (intro j hj; exact ⟨rfl, (pki j hj).2⟩) | (intro j hj; exact ⟨rfl, rfl⟩)) (by omega) (by rw [clI_s hin (by omega)]; first | exact clU_0 hRw hx (by omega) (by rw [show w9_12 94 = h 94 from (hF9_12.1 94 (by decide))]; exact e_at32.2 (by omega)) | omega) (by first | omega | (simp [up, setR] <;> omega))
          · refine TT_aload_n hK rfl 0 rfl dX12_clean_38 ?_
            refine TT_aload_n hK rfl 0 rfl dX12_clean_39 ?_
            refine TT_iload_n hK rfl 1 rfl dX12_clean_40 ?_
            refine TT_iload_n hK rfl 3 rfl dX12_clean_41 ?_
            refine iv_X12_261 hK (s_mctx_e x i w9_12 hT9_12 (by first | omega | (simp [up, setR] <;> omega)) (by first | omega | (simp [up, setR] <;> omega))) (by decide) rfl ⟨by decide, by decide⟩ (by decide) rfl rfl (Nat.le_of_ble_eq_true rfl) ⟨by decide, by decide⟩ dX12_clean_42 ?_
            intro r9 g42_31 hp9
            obtain ⟨⟨hT_31, hG_31⟩, z42_31, hr9, hz_31, e_31⟩ := hp9
            rw [hr9]
            have hE_31 : w9_12 = g42_31 := (funext (fun o9 => hG_31.1 o9 (List.not_mem_nil))).symm
            subst hE_31
            rw [show w9_12 73 26 = (h 73) 26 from (hF9_12.2 26 (by decide))] at e_31
            rw [show w9_12 82 = h 82 from (hF9_12.1 82 (by decide))] at e_31
            have e_at42 := e_31
            show TT K ly 0 0 45 [(0, vR 73), (1, vI x), (2, vI y), (3, vI i)] [vI z42_31, vR 73] w9_12
            refine TT_cgI (b := ctxS (clI M (h 82 (h 73 26)) (h 73 27) (10 * y + x + 11) (min 4 (h 81 (h 73 26) - y)) y s i).1 (h 82 (h 73 26)) (10 * i + x + 11)) (by exact e_at42.trans (ctxS_q hRw.2.1 (by omega) (by omega))) ?_
            refine TT_aload_n hK rfl 0 rfl dX12_clean_45 ?_
            refine TT_iload_n hK rfl 1 rfl dX12_clean_46 ?_
            refine TT_iload_n hK rfl 3 rfl dX12_clean_47 ?_
            have e32_73_27 : w9_12 73 27 = (h 73) 27 := (hF9_12.2 27 (by decide))
            refine iv_X12_264 hK (s_bitAt_e x i w9_12 hT9_12 (by first | omega | (simp [up, setR] <;> omega)) (by first | omega | (simp [up, setR] <;> omega)) (by rewrite [e32_73_27]; first | assumption | exact hpl | omega)) (by decide) rfl ⟨by decide, by decide⟩ (by decide) rfl rfl (Nat.le_of_ble_eq_true rfl) ⟨by decide, by decide⟩ dX12_clean_48 ?_
            intro r9 g48_33 hp9
            obtain ⟨⟨hT_33, hG_33⟩, z48_33, hr9, hz_33, e_33⟩ := hp9
            rw [hr9]
            have hE_33 : w9_12 = g48_33 := (funext (fun o9 => hG_33.1 o9 (List.not_mem_nil))).symm
            subst hE_33
            rw [show w9_12 73 26 = (h 73) 26 from (hF9_12.2 26 (by decide))] at e_33
            rw [show w9_12 73 27 = (h 73) 27 from (hF9_12.2 27 (by decide))] at e_33
            rw [show w9_12 84 = h 84 from (hF9_12.1 84 (by decide))] at e_33
            have e_at48 := e_33
            show TT K ly 0 0 51 [(0, vR 73), (1, vI x), (2, vI y), (3, vI i)] [vI z48_33, vI (ctxS (clI M (h 82 (h 73 26)) (h 73 27) (10 * y + x + 11) (min 4 (h 81 (h 73 26) - y)) y s i).1 (h 82 (h 73 26)) (10 * i + x + 11)), vR 73] w9_12
            refine TT_cgI (b := bS M (h 73 27) (10 * i + x + 11)) (by exact e_at48.trans (bS_q hR ⟨hx.1, hxw⟩ ⟨by omega, by omega⟩)) ?_
            have e34_74 : w9_12 74 = h 74 := (hF9_12.1 74 (by decide))
            have e35_75 : w9_12 75 = h 75 := (hF9_12.1 75 (by decide))
            have e36_73_32 : w9_12 73 32 = (w9_12 73) 32 := rfl
            have e37_73_29 : w9_12 73 29 = (h 73) 29 := (hF9_12.2 29 (by decide))
            have e38_73_34 : w9_12 73 34 = (w9_12 73) 34 := rfl
            have e39_73_36 : w9_12 73 36 = (w9_12 73) 36 := rfl
            refine iv_X12_258 hK (s_code_e m E0 D0 M (clI M (h 82 (h 73 26)) (h 73 27) (10 * y + x + 11) (min 4 (h 81 (h 73 26) - y)) y s i) (ctxS (clI M (h 82 (h 73 26)) (h 73 27) (10 * y + x + 11) (min 4 (h 81 (h 73 26) - y)) y s i).1 (h 82 (h 73 26)) (10 * i + x + 11)) (bS M (h 73 27) (10 * i + x + 11)) w9_12 hT9_12 (by have k9 := ctxS_r (clI M (h 82 (h 73 26)) (h 73 27) (10 * y + x + 11) (min 4 (h 81 (h 73 26) - y)) y s i).1 (h 82 (h 73 26)) (10 * i + x + 11); omega) (by have k9 := bS_r M (h 73 27) (10 * i + x + 11); omega) (by rewrite [e34_74, e35_75]; first | assumption | exact htb) (by rewrite [e36_73_32]; first | omega | (simp [up, setR] <;> omega)) (by rewrite [e37_73_29, e38_73_34, e39_73_36]; first | omega | (simp [up, setR] <;> omega)) (by exact hmd) (by exact hRw)) (by decide) rfl ⟨by decide, by decide⟩ (by decide) rfl rfl (Nat.le_of_ble_eq_true rfl) ⟨by decide, by decide⟩ dX12_clean_51 ?_
            intro r9 g51_40 hp9
            obtain ⟨⟨hT_40, hG_40⟩, z51_40, hr9, hz_40, pa_40, pm_40, pc_40, cq_40⟩ := hp9
            rw [hr9]
            have hF_40 : FRM [73, 85, 93, 96, 97, 98] [28, 32, 33, 34, 36, 39] h g51_40 := FRM_tr hF9_12 hG_40 (by decide) (by decide)
            rw [show w9_12 73 29 = (h 73) 29 from (hF9_12.2 29 (by decide))] at pm_40
            rw [show w9_12 73 34 = (w9_12 73) 34 from rfl] at pm_40
            rw [show w9_12 73 36 = (w9_12 73) 36 from rfl] at pm_40
            rw [show w9_12 73 29 = (h 73) 29 from (hF9_12.2 29 (by decide))] at pc_40
            have cq_at51 := cq_40
            show TT K ly 0 0 54 [(0, vR 73), (1, vI x), (2, vI y), (3, vI i)] [vI z51_40] g51_40
            refine TT_iconst hK dX12_clean_54 ?_
            refine TT_icmp_ne hK (tgt := 64) (irm (by omega) (by omega)) (by decide) dX12_clean_55 (by decide) (fun hb55_41 => ?_) (fun hb55_41 => ?_)
            · refine TT_iinc hK (v := i + 1) (lv' := [(3, vI (i + 1)), (0, vR 73), (1, vI x), (2, vI y)]) 3 rfl rfl (by decide) rfl dX12_clean_64 ?_
              refine TT_goto hK (tgt := 9) dX12_clean_67 (by decide) ?_
              refine TT_sub [1, 2, 3, 0] rfl ?_
              have e42_73_32 : g51_40 73 32 = (g51_40 73) 32 := rfl
              have e43_73_34 : g51_40 73 34 = (g51_40 73) 34 := rfl
              have e44_73_36 : g51_40 73 36 = (g51_40 73) 36 := rfl
              have e45_93 : g51_40 93 = w9_12 93 := (hG_40.1 93 (by decide))
              have e46_93 : g51_40 93 = w9_12 93 := (hG_40.1 93 (by decide))
              have e47_84 : g51_40 84 = h 84 := ((hG_40.1 84 (by decide))).trans (hF9_12.1 84 (by decide))
              have e48_85 : g51_40 85 = w9_12 85 := (hG_40.1 85 (by decide))
              try have k8 := pz_at61 (h 80 (h 73 26)) (h 81 (h 73 26)) (by omega) hw8 (by omega) he8 (by omega)
              exact ih12 (i + 1) g51_40 hT_40 hF_40 (by first | omega | (simp [up, setR] <;> omega)) (by rewrite [e42_73_32]; first | omega | (simp [up, setR] <;> omega)) (by rewrite [e43_73_34, e44_73_36, e45_93]; first | omega | (simp [up, setR] <;> omega)) (by rewrite [e46_93]; exact ZC_nn _ _ _) (by rewrite [e47_84, e48_85]; first | (first | exact pki) | (intro j hj; exact ⟨rfl, (pk_at4 j hj).2.trans (pki j hj).2⟩) | (intro j hj; exact ⟨rfl, (pk_at4 j hj).2⟩) | (intro j hj; exact ⟨rfl, (pki j hj).2⟩) | (intro j hj; exact ⟨rfl, rfl⟩)) (by omega) (by rw [clI_s hin (by omega)]; first | exact clU_0 hRw hx (by omega) (by rw [show w9_12 94 = h 94 from (hF9_12.1 94 (by decide))]; exact e_at32.2 (by omega)) | exact clU_1 (clU_k hRw hx (by omega) (by rw [show w9_12 94 = h 94 from (hF9_12.1 94 (by decide))]; exact e_at32.1 (by omega))) (by have z9 := cq_at51.1; omega) cq_at51.2 | omega) (by first | omega | (simp [up, setR] <;> omega))
            · refine TT_aload_n hK rfl 0 rfl dX12_clean_58 ?_
              refine TT_iload_n hK rfl 1 rfl dX12_clean_59 ?_
              refine TT_iload_n hK rfl 3 rfl dX12_clean_60 ?_
              have e49_74 : g51_40 74 = h 74 := ((hG_40.1 74 (by decide))).trans (hF9_12.1 74 (by decide))
              have e50_75 : g51_40 75 = h 75 := ((hG_40.1 75 (by decide))).trans (hF9_12.1 75 (by decide))
              have e51_73_32 : g51_40 73 32 = (g51_40 73) 32 := rfl
              have e52_73_29 : g51_40 73 29 = (h 73) 29 := ((hG_40.2 29 (by decide))).trans (hF9_12.2 29 (by decide))
              have e53_73_34 : g51_40 73 34 = (g51_40 73) 34 := rfl
              have e54_73_36 : g51_40 73 36 = (g51_40 73) 36 := rfl
              have e55_73_26 : g51_40 73 26 = (h 73) 26 := ((hG_40.2 26 (by decide))).trans (hF9_12.2 26 (by decide))
              have e56_73_29 : g51_40 73 29 = (h 73) 29 := ((hG_40.2 29 (by decide))).trans (hF9_12.2 29 (by decide))
              have e57_73_26 : g51_40 73 26 = (h 73) 26 := ((hG_40.2 26 (by decide))).trans (hF9_12.2 26 (by decide))
              have e58_80 : g51_40 80 = h 80 := ((hG_40.1 80 (by decide))).trans (hF9_12.1 80 (by decide))
              have e59_73_26 : g51_40 73 26 = (h 73) 26 := ((hG_40.2 26 (by decide))).trans (hF9_12.2 26 (by decide))
              have e60_81 : g51_40 81 = h 81 := ((hG_40.1 81 (by decide))).trans (hF9_12.1 81 (by decide))
              have e61_73_26 : g51_40 73 26 = (h 73) 26 := ((hG_40.2 26 (by decide))).trans (hF9_12.2 26 (by decide))
              have e62_80 : g51_40 80 = h 80 := ((hG_40.1 80 (by decide))).trans (hF9_12.1 80 (by decide))
              have e63_81 : g51_40 81 = h 81 := ((hG_40.1 81 (by decide))).trans (hF9_12.1 81 (by decide))
              refine iv_X12_267 hK (s_wake_x m E0 D0 M (evT (clI M (h 82 (h 73 26)) (h 73 27) (10 * y + x + 11) (min 4 (h 81 (h 73 26) - y)) y s i) (ctxS (clI M (h 82 (h 73 26)) (h 73 27) (10 * y + x + 11) (min 4 (h 81 (h 73 26) - y)) y s i).1 (h 82 (h 73 26)) (10 * i + x + 11)) (bS M (h 73 27) (10 * i + x + 11))) x i g51_40 hT_40 (by first | omega | (simp [up, setR] <;> omega)) (by first | omega | (simp [up, setR] <;> omega)) (by rewrite [e49_74, e50_75]; first | assumption | exact htb) (by rewrite [e51_73_32]; first | omega | (simp [up, setR] <;> omega)) (by rewrite [e52_73_29, e53_73_34, e54_73_36]; first | omega | (simp [up, setR] <;> omega)) (by rewrite [e55_73_26, e56_73_29]; first | omega | (simp [up, setR] <;> omega)) (by exact hmd) (by exact cq_at51.2) (by rewrite [e57_73_26, e58_80]; first | omega | (simp [up, setR] <;> omega)) (by rewrite [e59_73_26, e60_81]; first | omega | (simp [up, setR] <;> omega)) (by rewrite [e61_73_26, e62_80, e63_81]; first | omega | (simp [up, setR] <;> omega))) (by decide) rfl ⟨by decide, by decide⟩ (by decide) rfl rfl (Nat.le_of_ble_eq_true rfl) ⟨by decide, by decide⟩ dX12_clean_61 ?_
              intro r9 g61_64 hp9
              obtain ⟨⟨hT_64, hG_64⟩, hr9, pa_64, pm_64, pz_64, pk_64, rw9_64⟩ := hp9
              rw [hr9]
              have hF_64 : FRM [73, 85, 93, 96, 97, 98] [28, 32, 33, 34, 36, 39] h g61_64 := FRM_tr hF_40 hG_64 (by decide) (by decide)
              rw [show g51_40 73 29 = (h 73) 29 from ((hG_40.2 29 (by decide))).trans (hF9_12.2 29 (by decide))] at pm_64
              rw [show g51_40 73 34 = (g51_40 73) 34 from rfl] at pm_64
              rw [show g51_40 73 36 = (g51_40 73) 36 from rfl] at pm_64
              rw [show g51_40 93 = w9_12 93 from (hG_40.1 93 (by decide))] at pz_64
              rw [show g51_40 84 = h 84 from ((hG_40.1 84 (by decide))).trans (hF9_12.1 84 (by decide))] at pk_64
              rw [show g51_40 85 = w9_12 85 from (hG_40.1 85 (by decide))] at pk_64
              have pz_at61 := pz_64
              have pk_at61 := pk_64
              have rw9_at61 := rw9_64
              show TT K ly 0 0 64 [(0, vR 73), (1, vI x), (2, vI y), (3, vI i)] [] g61_64
              refine TT_iinc hK (v := i + 1) (lv' := [(3, vI (i + 1)), (0, vR 73), (1, vI x), (2, vI y)]) 3 rfl rfl (by decide) rfl dX12_clean_64 ?_
              refine TT_goto hK (tgt := 9) dX12_clean_67 (by decide) ?_
              refine TT_sub [1, 2, 3, 0] rfl ?_
              have e65_73_32 : g61_64 73 32 = (g61_64 73) 32 := rfl
              have e66_73_34 : g61_64 73 34 = (g61_64 73) 34 := rfl
              have e67_73_36 : g61_64 73 36 = (g61_64 73) 36 := rfl
              have e68_84 : g61_64 84 = h 84 := ((hG_64.1 84 (by decide))).trans (((hG_40.1 84 (by decide))).trans (hF9_12.1 84 (by decide)))
              try have k8 := pz_at61 (h 80 (h 73 26)) (h 81 (h 73 26)) (by omega) hw8 (by omega) he8 (by omega)
              exact ih12 (i + 1) g61_64 hT_64 hF_64 (by first | omega | (simp [up, setR] <;> omega)) (by rewrite [e65_73_32]; first | omega | (simp [up, setR] <;> omega)) (by rewrite [e66_73_34, e67_73_36]; first | omega | (simp [up, setR] <;> omega)) (by exact ZC_nn _ _ _) (by rewrite [e68_84]; first | (first | (intro j hj; have k1 := pk_at61 j hj; have k2 := pki j hj; exact ⟨k1.1.trans k2.1, k1.2.trans k2.2⟩) | exact pki) | (intro j hj; exact ⟨rfl, (pk_at61 j hj).2.trans (pki j hj).2⟩) | (intro j hj; exact ⟨rfl, (pk_at4 j hj).2.trans (pki j hj).2⟩) | (intro j hj; exact ⟨rfl, (pk_at61 j hj).2⟩) | (intro j hj; exact ⟨rfl, (pk_at4 j hj).2⟩) | (intro j hj; exact ⟨rfl, (pki j hj).2⟩) | (intro j hj; exact ⟨rfl, rfl⟩)) (by omega) (by rw [clI_s hin (by omega)]; first | exact clU_0 hRw hx (by omega) (by rw [show w9_12 94 = h 94 from (hF9_12.1 94 (by decide))]; exact e_at32.2 (by omega)) | exact clU_2 (clU_k hRw hx (by omega) (by rw [show w9_12 94 = h 94 from (hF9_12.1 94 (by decide))]; exact e_at32.1 (by omega))) (by have z9 := cq_at51.1; omega) rw9_at61 | exact clU_1 (clU_k hRw hx (by omega) (by rw [show w9_12 94 = h 94 from (hF9_12.1 94 (by decide))]; exact e_at32.1 (by omega))) (by have z9 := cq_at51.1; omega) cq_at51.2 | omega) (by first | omega | (simp [up, setR] <;> omega))
  refine TT_sub [1, 2, 3, 0] rfl ?_
  have e69_73_32 : g4_11 73 32 = (g4_11 73) 32 := rfl
  have e70_73_34 : g4_11 73 34 = (g4_11 73) 34 := rfl
  have e71_73_36 : g4_11 73 36 = (g4_11 73) 36 := rfl
  have e72_84 : g4_11 84 = h 84 := (hG_11.1 84 (by decide))
  exact L9_12 (((y + 4 - (y + z4_11)).toNat) + 1) (y + z4_11) g4_11 hT_11 hF_11 (by first | omega | (simp [up, setR] <;> omega)) (by rewrite [e69_73_32]; first | omega | (simp [up, setR] <;> omega)) (by rewrite [e70_73_34, e71_73_36]; first | omega | (simp [up, setR] <;> omega)) (by exact ZC_nn _ _ _) (by rewrite [e72_84]; first | (exact pk_at4) | (intro j hj; exact ⟨rfl, (pk_at4 j hj).2⟩) | (intro j hj; exact ⟨rfl, rfl⟩)) (by have j9 := jp_at4.2; omega) (by exact clI_0 jp_at4) (Nat.lt_succ_self _)
set_option maxRecDepth 20000 in
theorem s_column_x (m : Int) (E0 : ES_) (D0 : Int × DS_) (M : Int → Int) (s : TS_) (q x y : Int) (h : Hp_) (hT : TY h) (hq : 0 ≤ q ∧ q ≤ 2) (hx : 0 ≤ x ∧ x ≤ 7) (hy : y = 0 ∨ y = 4) (hxw : x < ((h 80) (h 73 26))) (hye : y < ((h 81) (h 73 26))) (hw8 : ((h 80) (h 73 26)) ≤ 8) (he8 : ((h 81) (h 73 26)) ≤ 8) (htb : TBL (h 74) (h 75)) (ha : 32768 ≤ (h 73 32) ∧ (h 73 32) < 65536) (hm : (h 73 29) = 0 → 1 ≤ (h 73 34) ∧ 1 ≤ (h 73 36) ∧ 7 * (h 73 36) - (h 73 34) + PhS (h 96) + 27 * ZC ((h 80) (h 73 26)) ((h 81) (h 73 26)) (h 93) + 108 ≤ 22300) (hw1 : (h 73 29) = 1 → 10 ≤ (h 73 26)) (hmd : m = 0 ∨ m = 2) (hR : RRQ m E0 D0 M h s) (hpl : 0 ≤ (h 73 27) ∧ (h 73 27) ≤ 20) : Ctr yX12_column cX12_column 5 none (rmd 7) ly ly 0 0 [vR 73, vI q, vI x, vI y] h (fun r h' => (TY h' ∧ FRM [73, 85, 93, 94, 95, 96, 97, 98] [28, 32, 33, 34, 36, 39] h h') ∧ r = none ∧ (32768 ≤ (h' 73 32) ∧ (h' 73 32) < 65536) ∧ ((h 73 29) = 0 → 1 ≤ (h' 73 34) ∧ 1 ≤ (h' 73 36) ∧ 7 * (h' 73 36) - (h' 73 34) + PhS (h' 96) + 27 * ZC ((h 80) (h 73 26)) ((h 81) (h 73 26)) (h' 93) ≤ 7 * (h 73 36) - (h 73 34) + PhS (h 96) + 27 * ZC ((h 80) (h 73 26)) ((h 81) (h 73 26)) (h 93) + 9 * min 4 (((h 81) (h 73 26)) - y)) ∧ (∀ j : Int, j < 640 → (h' 84) j = (h 84) j ∧ (h' 85) j = (h 85) j) ∧ (RRQ m E0 D0 M h' (colP M ((h 82) (h 73 26)) (h 73 27) q (10 * y + x + 11) (min 4 ((h 81) (h 73 26) - y)) s))) := by
  refine Ctr_of (by decide) (Nat.le_of_ble_eq_true rfl) ⟨Nat.le_refl _, Nat.le_refl _⟩ (fun K hK hQ _ => ?_)
  show TT K ly 0 0 0 [(0, vR 73), (1, vI q), (2, vI x), (3, vI y)] [] h
  have hF : FRM [73, 85, 93, 94, 95, 96, 97, 98] [28, 32, 33, 34, 36, 39] h h := FRM_rf _ _ _
  have hmq : h 73 29 = m := hR.2.2.2.2.1
  have zn := ZC_nn (h 80 (h 73 26)) (h 81 (h 73 26)) (h 93)
  refine TT_iload_n hK rfl 1 rfl dX12_column_0 ?_
  refine TT_iconst hK dX12_column_1 ?_
  refine TT_icmp_ne hK (tgt := 12) (irm (by omega) (by omega)) (by decide) dX12_column_2 (by decide) (fun hb2_1 => ?_) (fun hb2_1 => ?_)
  · refine TT_iload_n hK rfl 3 rfl dX12_column_12 ?_
    refine TT_istore hK (lv' := [(4, vI y), (0, vR 73), (1, vI q), (2, vI x), (3, vI y)]) (by decide) rfl dX12_column_13 ?_
    have L15_2 : ∀ (k2 : Nat) (i : Int) (w15_2 : Hp_), TY w15_2 → FRM [73, 85, 93, 94, 95, 96, 97, 98] [28, 32, 33, 34, 36, 39] h w15_2 → (y ≤ i ∧ i ≤ y + 4 ∧ i ≤ (h 81 (h 73 26))) → (32768 ≤ (w15_2 73 32) ∧ (w15_2 73 32) < 65536) → (h 73 29 = 0 → 1 ≤ (w15_2 73 34) ∧ 1 ≤ (w15_2 73 36) ∧ 7 * (w15_2 73 36) - (w15_2 73 34) + PhS (w15_2 96) + 27 * ZC (h 80 (h 73 26)) (h 81 (h 73 26)) (w15_2 93) ≤ 7 * (h 73 36) - (h 73 34) + PhS (h 96) + 27 * ZC (h 80 (h 73 26)) (h 81 (h 73 26)) (h 93) + 9 * (i - y)) → (0 ≤ ZC (h 80 (h 73 26)) (h 81 (h 73 26)) (w15_2 93)) → (∀ j : Int, j < 640 → (w15_2 84) j = h 84 j ∧ (w15_2 85) j = h 85 j) → (RRQ m E0 D0 M w15_2 (coI M (h 82 (h 73 26)) (h 73 27) q (10 * y + x + 11) s (i - y).toNat)) → (y + 4 - i).toNat < k2 → TT K ly 0 0 15 [(0, vR 73), (1, vI q), (2, vI x), (3, vI y), (4, vI i)] [] w15_2 := by
      intro k2
      induction k2 with
      | zero => intro i w15_2 hT15_2 hF15_2 hi ha1 hp1 hzn pki hRw hk2; exact absurd hk2 (Nat.not_lt_zero _)
      | succ k2 ih2 =>
        intro i w15_2 hT15_2 hF15_2 hi ha1 hp1 hzn pki hRw hk2
        refine TT_iload hK 4 rfl dX12_column_15 ?_
        refine TT_iload_n hK rfl 3 rfl dX12_column_17 ?_
        refine TT_iconst hK dX12_column_18 ?_
        refine TT_iadd hK dX12_column_19 ?_
        refine TT_icmp_ge hK (tgt := 64) (irm (by omega) (by omega)) (irm (by omega) (by omega)) dX12_column_20 (by decide) (fun hb20_3 => ?_) (fun hb20_3 => ?_)
        · refine TT_vret hK hQ ?_ dX12_column_64
          have e4_73_32 : w15_2 73 32 = (w15_2 73) 32 := rfl
          have e5_73_34 : w15_2 73 34 = (w15_2 73) 34 := rfl
          have e6_73_36 : w15_2 73 36 = (w15_2 73) 36 := rfl
          have e7_84 : w15_2 84 = h 84 := (hF15_2.1 84 (by decide))
          exact ⟨⟨hT15_2, hF15_2⟩, rfl, (by rewrite [e4_73_32]; omega), (by rewrite [e5_73_34, e6_73_36]; omega), (by rewrite [e7_84]; first | (first | exact pki) | (intro j hj; exact ⟨rfl, (pki j hj).2⟩) | (intro j hj; exact ⟨rfl, rfl⟩)), (by first | exact coI_e (by omega) (by omega) hRw)⟩
        · refine TT_iload hK 4 rfl dX12_column_23 ?_
          refine TT_aload_n hK rfl 0 rfl dX12_column_25 ?_
          refine gf_X12_38 hK (by decide) rfl (q := 81) rfl rfl dX12_column_26 ?_
          refine TT_aload_n hK rfl 0 rfl dX12_column_29 ?_
          refine gf_X12_246 hK (by decide) rfl (v := (h 73) 26) (hF15_2.2 26 (by decide)) dX12_column_30 ?_
          have r8 := ty_73_26 (v := (h 73) 26) hT15_2 (hF15_2.2 26 (by decide))
          refine TT_iald hK (o := 81) (n := 20) (by decide) rfl (by first | omega | (simp [up, setR] <;> omega)) (by first | omega | (simp [up, setR] <;> omega)) (v := (h 81) ((h 73) 26)) (rd_ (hF15_2.1 81 (by decide)) rfl) dX12_column_33 ?_
          have r9 := ty_81 (i := (h 73) 26) (v := (h 81) ((h 73) 26)) hT15_2 (rd_ (hF15_2.1 81 (by decide)) rfl) (by omega) (by omega)
          refine TT_icmp_ge hK (tgt := 64) (irm (by omega) (by omega)) (irm (by omega) (by omega)) dX12_column_34 (by decide) (fun hb34_10 => ?_) (fun hb34_10 => ?_)
          · refine TT_vret hK hQ ?_ dX12_column_64
            have e11_73_32 : w15_2 73 32 = (w15_2 73) 32 := rfl
            have e12_73_34 : w15_2 73 34 = (w15_2 73) 34 := rfl
            have e13_73_36 : w15_2 73 36 = (w15_2 73) 36 := rfl
            have e14_84 : w15_2 84 = h 84 := (hF15_2.1 84 (by decide))
            exact ⟨⟨hT15_2, hF15_2⟩, rfl, (by rewrite [e11_73_32]; omega), (by rewrite [e12_73_34, e13_73_36]; omega), (by rewrite [e14_84]; first | (first | exact pki) | (intro j hj; exact ⟨rfl, (pki j hj).2⟩) | (intro j hj; exact ⟨rfl, rfl⟩)), (by first | exact coI_e (by omega) (by omega) hRw)⟩
          · refine TT_iload_n hK rfl 1 rfl dX12_column_37 ?_
            refine TT_if_ne hK (tgt := 51) (irm (by omega) (by omega)) dX12_column_38 (by decide) (fun hb38_15 => ?_) (fun hb38_15 => ?_)
            · refine TT_aload_n hK rfl 0 rfl dX12_column_51 ?_
              refine TT_iload_n hK rfl 2 rfl dX12_column_52 ?_
              refine TT_iload hK 4 rfl dX12_column_53 ?_
              have e16_74 : w15_2 74 = h 74 := (hF15_2.1 74 (by decide))
              have e17_75 : w15_2 75 = h 75 := (hF15_2.1 75 (by decide))
              have e18_73_32 : w15_2 73 32 = (w15_2 73) 32 := rfl
              have e19_73_29 : w15_2 73 29 = (h 73) 29 := (hF15_2.2 29 (by decide))
              have e20_73_34 : w15_2 73 34 = (w15_2 73) 34 := rfl
              have e21_73_36 : w15_2 73 36 = (w15_2 73) 36 := rfl
              have e22_73_26 : w15_2 73 26 = (h 73) 26 := (hF15_2.2 26 (by decide))
              have e23_73_29 : w15_2 73 29 = (h 73) 29 := (hF15_2.2 29 (by decide))
              have e24_73_26 : w15_2 73 26 = (h 73) 26 := (hF15_2.2 26 (by decide))
              have e25_80 : w15_2 80 = h 80 := (hF15_2.1 80 (by decide))
              have e26_73_26 : w15_2 73 26 = (h 73) 26 := (hF15_2.2 26 (by decide))
              have e27_81 : w15_2 81 = h 81 := (hF15_2.1 81 (by decide))
              have e28_73_26 : w15_2 73 26 = (h 73) 26 := (hF15_2.2 26 (by decide))
              have e29_80 : w15_2 80 = h 80 := (hF15_2.1 80 (by decide))
              have e30_81 : w15_2 81 = h 81 := (hF15_2.1 81 (by decide))
              have e31_73_27 : w15_2 73 27 = (h 73) 27 := (hF15_2.2 27 (by decide))
              refine iv_X12_283 hK (s_refine_x m E0 D0 M (coI M (h 82 (h 73 26)) (h 73 27) q (10 * y + x + 11) s (i - y).toNat) x i w15_2 hT15_2 (by first | omega | (simp [up, setR] <;> omega)) (by first | omega | (simp [up, setR] <;> omega)) (by rewrite [e16_74, e17_75]; first | assumption | exact htb) (by rewrite [e18_73_32]; first | omega | (simp [up, setR] <;> omega)) (by rewrite [e19_73_29, e20_73_34, e21_73_36]; first | omega | (simp [up, setR] <;> omega)) (by rewrite [e22_73_26, e23_73_29]; first | omega | (simp [up, setR] <;> omega)) (by exact hmd) (by exact hRw) (by rewrite [e24_73_26, e25_80]; first | omega | (simp [up, setR] <;> omega)) (by rewrite [e26_73_26, e27_81]; first | omega | (simp [up, setR] <;> omega)) (by rewrite [e28_73_26, e29_80, e30_81]; first | omega | (simp [up, setR] <;> omega)) (by rewrite [e31_73_27]; first | assumption | exact hpl | omega)) (by decide) rfl ⟨by decide, by decide⟩ (by decide) rfl rfl (Nat.le_of_ble_eq_true rfl) ⟨by decide, by decide⟩ dX12_column_55 ?_
              intro r9 g55_32 hp9
              obtain ⟨⟨hT_32, hG_32⟩, hr9, pa_32, pm_32, pk_32, rf9_32⟩ := hp9
              rw [hr9]
              have hF_32 : FRM [73, 85, 93, 94, 95, 96, 97, 98] [28, 32, 33, 34, 36, 39] h g55_32 := FRM_tr hF15_2 hG_32 (by decide) (by decide)
              rw [show w15_2 73 29 = (h 73) 29 from (hF15_2.2 29 (by decide))] at pm_32
              rw [show w15_2 73 34 = (w15_2 73) 34 from rfl] at pm_32
              rw [show w15_2 73 36 = (w15_2 73) 36 from rfl] at pm_32
              rw [show w15_2 84 = h 84 from (hF15_2.1 84 (by decide))] at pk_32
              rw [show w15_2 73 27 = (h 73) 27 from (hF15_2.2 27 (by decide))] at rf9_32
              have pk_at55 := pk_32
              have rf9_at55 := rf9_32
              show TT K ly 0 0 58 [(0, vR 73), (1, vI q), (2, vI x), (3, vI y), (4, vI i)] [] g55_32
              refine TT_iinc hK (v := i + 1) (lv' := [(4, vI (i + 1)), (0, vR 73), (1, vI q), (2, vI x), (3, vI y)]) 4 rfl rfl (by decide) rfl dX12_column_58 ?_
              refine TT_goto hK (tgt := 15) dX12_column_61 (by decide) ?_
              refine TT_sub [1, 2, 3, 4, 0] rfl ?_
              have e33_73_32 : g55_32 73 32 = (g55_32 73) 32 := rfl
              have e34_73_34 : g55_32 73 34 = (g55_32 73) 34 := rfl
              have e35_73_36 : g55_32 73 36 = (g55_32 73) 36 := rfl
              have e36_93 : g55_32 93 = w15_2 93 := (hG_32.1 93 (by decide))
              have e37_93 : g55_32 93 = w15_2 93 := (hG_32.1 93 (by decide))
              have e38_84 : g55_32 84 = h 84 := ((hG_32.1 84 (by decide))).trans (hF15_2.1 84 (by decide))
              have e39_85 : g55_32 85 = w15_2 85 := (hG_32.1 85 (by decide))
              try have k8 := pz_at45 (h 80 (h 73 26)) (h 81 (h 73 26)) (by omega) hw8 (by omega) he8
              exact ih2 (i + 1) g55_32 hT_32 hF_32 (by first | omega | (simp [up, setR] <;> omega)) (by rewrite [e33_73_32]; first | omega | (simp [up, setR] <;> omega)) (by rewrite [e34_73_34, e35_73_36, e36_93]; first | omega | (simp [up, setR] <;> omega)) (by rewrite [e37_93]; exact ZC_nn _ _ _) (by rewrite [e38_84, e39_85]; first | (first | (intro j hj; exact ⟨((pk_at55 j hj).1).trans (pki j hj).1, (pki j hj).2⟩)) | (intro j hj; exact ⟨rfl, (pk_at55 j hj).2.trans (pki j hj).2⟩) | (intro j hj; exact ⟨rfl, (pk_at55 j hj).2⟩) | (intro j hj; exact ⟨rfl, (pki j hj).2⟩) | (intro j hj; exact ⟨rfl, rfl⟩)) (by first | exact coI_s1 (by omega) (by omega) rf9_at55) (by first | omega | (simp [up, setR] <;> omega))
            · refine TT_aload_n hK rfl 0 rfl dX12_column_41 ?_
              refine TT_iload_n hK rfl 2 rfl dX12_column_42 ?_
              refine TT_iload hK 4 rfl dX12_column_43 ?_
              have e40_74 : w15_2 74 = h 74 := (hF15_2.1 74 (by decide))
              have e41_75 : w15_2 75 = h 75 := (hF15_2.1 75 (by decide))
              have e42_73_32 : w15_2 73 32 = (w15_2 73) 32 := rfl
              have e43_73_29 : w15_2 73 29 = (h 73) 29 := (hF15_2.2 29 (by decide))
              have e44_73_34 : w15_2 73 34 = (w15_2 73) 34 := rfl
              have e45_73_36 : w15_2 73 36 = (w15_2 73) 36 := rfl
              have e46_73_26 : w15_2 73 26 = (h 73) 26 := (hF15_2.2 26 (by decide))
              have e47_73_29 : w15_2 73 29 = (h 73) 29 := (hF15_2.2 29 (by decide))
              have e48_73_26 : w15_2 73 26 = (h 73) 26 := (hF15_2.2 26 (by decide))
              have e49_80 : w15_2 80 = h 80 := (hF15_2.1 80 (by decide))
              have e50_73_26 : w15_2 73 26 = (h 73) 26 := (hF15_2.2 26 (by decide))
              have e51_81 : w15_2 81 = h 81 := (hF15_2.1 81 (by decide))
              have e52_73_26 : w15_2 73 26 = (h 73) 26 := (hF15_2.2 26 (by decide))
              have e53_80 : w15_2 80 = h 80 := (hF15_2.1 80 (by decide))
              have e54_81 : w15_2 81 = h 81 := (hF15_2.1 81 (by decide))
              have e55_73_27 : w15_2 73 27 = (h 73) 27 := (hF15_2.2 27 (by decide))
              refine iv_X12_280 hK (s_spread_x m E0 D0 M (coI M (h 82 (h 73 26)) (h 73 27) q (10 * y + x + 11) s (i - y).toNat) x i w15_2 hT15_2 (by first | omega | (simp [up, setR] <;> omega)) (by first | omega | (simp [up, setR] <;> omega)) (by rewrite [e40_74, e41_75]; first | assumption | exact htb) (by rewrite [e42_73_32]; first | omega | (simp [up, setR] <;> omega)) (by rewrite [e43_73_29, e44_73_34, e45_73_36]; first | omega | (simp [up, setR] <;> omega)) (by rewrite [e46_73_26, e47_73_29]; first | omega | (simp [up, setR] <;> omega)) (by exact hmd) (by exact hRw) (by rewrite [e48_73_26, e49_80]; first | omega | (simp [up, setR] <;> omega)) (by rewrite [e50_73_26, e51_81]; first | omega | (simp [up, setR] <;> omega)) (by rewrite [e52_73_26, e53_80, e54_81]; first | omega | (simp [up, setR] <;> omega)) (by rewrite [e55_73_27]; first | assumption | exact hpl | omega)) (by decide) rfl ⟨by decide, by decide⟩ (by decide) rfl rfl (Nat.le_of_ble_eq_true rfl) ⟨by decide, by decide⟩ dX12_column_45 ?_
              intro r9 g45_56 hp9
              obtain ⟨⟨hT_56, hG_56⟩, hr9, pa_56, pm_56, pz_56, pk_56, sp9_56⟩ := hp9
              rw [hr9]
              have hF_56 : FRM [73, 85, 93, 94, 95, 96, 97, 98] [28, 32, 33, 34, 36, 39] h g45_56 := FRM_tr hF15_2 hG_56 (by decide) (by decide)
              rw [show w15_2 73 29 = (h 73) 29 from (hF15_2.2 29 (by decide))] at pm_56
              rw [show w15_2 73 34 = (w15_2 73) 34 from rfl] at pm_56
              rw [show w15_2 73 36 = (w15_2 73) 36 from rfl] at pm_56
              rw [show w15_2 73 29 = (h 73) 29 from (hF15_2.2 29 (by decide))] at pz_56
              rw [show w15_2 73 34 = (w15_2 73) 34 from rfl] at pz_56
              rw [show w15_2 73 36 = (w15_2 73) 36 from rfl] at pz_56
              rw [show w15_2 84 = h 84 from (hF15_2.1 84 (by decide))] at pk_56
              rw [show w15_2 73 26 = (h 73) 26 from (hF15_2.2 26 (by decide))] at sp9_56
              rw [show w15_2 73 27 = (h 73) 27 from (hF15_2.2 27 (by decide))] at sp9_56
              rw [show w15_2 82 = h 82 from (hF15_2.1 82 (by decide))] at sp9_56
              have pz_at45 := pz_56
              have pk_at45 := pk_56
              have sp9_at45 := sp9_56
              show TT K ly 0 0 48 [(0, vR 73), (1, vI q), (2, vI x), (3, vI y), (4, vI i)] [] g45_56
              refine TT_goto hK (tgt := 58) dX12_column_48 (by decide) ?_
              refine TT_iinc hK (v := i + 1) (lv' := [(4, vI (i + 1)), (0, vR 73), (1, vI q), (2, vI x), (3, vI y)]) 4 rfl rfl (by decide) rfl dX12_column_58 ?_
              refine TT_goto hK (tgt := 15) dX12_column_61 (by decide) ?_
              refine TT_sub [1, 2, 3, 4, 0] rfl ?_
              have e57_73_32 : g45_56 73 32 = (g45_56 73) 32 := rfl
              have e58_73_34 : g45_56 73 34 = (g45_56 73) 34 := rfl
              have e59_73_36 : g45_56 73 36 = (g45_56 73) 36 := rfl
              have e60_84 : g45_56 84 = h 84 := ((hG_56.1 84 (by decide))).trans (hF15_2.1 84 (by decide))
              try have k8 := pz_at45 (h 80 (h 73 26)) (h 81 (h 73 26)) (by omega) hw8 (by omega) he8
              exact ih2 (i + 1) g45_56 hT_56 hF_56 (by first | omega | (simp [up, setR] <;> omega)) (by rewrite [e57_73_32]; first | omega | (simp [up, setR] <;> omega)) (by rewrite [e58_73_34, e59_73_36]; first | omega | (simp [up, setR] <;> omega)) (by exact ZC_nn _ _ _) (by rewrite [e60_84]; first | (first | (intro j hj; have k1 := pk_at45 j hj; have k2 := pki j hj; exact ⟨k1.1.trans k2.1, k1.2.trans k2.2⟩)) | (intro j hj; exact ⟨rfl, (pk_at45 j hj).2.trans (pki j hj).2⟩) | (intro j hj; exact ⟨rfl, (pk_at45 j hj).2⟩) | (intro j hj; exact ⟨rfl, (pki j hj).2⟩) | (intro j hj; exact ⟨rfl, rfl⟩)) (by first | exact coI_s0 (by omega) (by omega) sp9_at45) (by first | omega | (simp [up, setR] <;> omega))
    refine TT_sub [1, 2, 3, 4, 0] rfl ?_
    have e61_73_32 : h 73 32 = (h 73) 32 := rfl
    have e62_73_34 : h 73 34 = (h 73) 34 := rfl
    have e63_73_36 : h 73 36 = (h 73) 36 := rfl
    exact L15_2 (((y + 4 - y).toNat) + 1) y h hT hF (by first | omega | (simp [up, setR] <;> omega)) (by rewrite [e61_73_32]; first | omega | (simp [up, setR] <;> omega)) (by rewrite [e62_73_34, e63_73_36]; first | omega | (simp [up, setR] <;> omega)) (by exact ZC_nn _ _ _) (by first | ((intro j hj; exact ⟨rfl, rfl⟩)) | (intro j hj; exact ⟨rfl, rfl⟩)) (by exact coI_0 hR (by omega)) (Nat.lt_succ_self _)
  · refine TT_aload_n hK rfl 0 rfl dX12_column_5 ?_
    refine TT_iload_n hK rfl 2 rfl dX12_column_6 ?_
    refine TT_iload_n hK rfl 3 rfl dX12_column_7 ?_
    have e64_73_26 : h 73 26 = (h 73) 26 := rfl
    have e65_73_26 : h 73 26 = (h 73) 26 := rfl
    have e66_73_26 : h 73 26 = (h 73) 26 := rfl
    have e67_73_26 : h 73 26 = (h 73) 26 := rfl
    have e68_73_32 : h 73 32 = (h 73) 32 := rfl
    have e69_73_26 : h 73 26 = (h 73) 26 := rfl
    have e70_73_29 : h 73 29 = (h 73) 29 := rfl
    have e71_73_34 : h 73 34 = (h 73) 34 := rfl
    have e72_73_36 : h 73 36 = (h 73) 36 := rfl
    have e73_73_26 : h 73 26 = (h 73) 26 := rfl
    have e74_73_29 : h 73 29 = (h 73) 29 := rfl
    have e75_73_27 : h 73 27 = (h 73) 27 := rfl
    refine iv_X12_277 hK (s_clean_x m E0 D0 M s x y h hT (by first | omega | (simp [up, setR] <;> omega)) (by first | omega | (simp [up, setR] <;> omega)) (by rewrite [e64_73_26]; first | omega | (simp [up, setR] <;> omega)) (by rewrite [e65_73_26]; first | omega | (simp [up, setR] <;> omega)) (by rewrite [e66_73_26]; first | omega | (simp [up, setR] <;> omega)) (by rewrite [e67_73_26]; first | omega | (simp [up, setR] <;> omega)) (by first | assumption | exact htb) (by rewrite [e68_73_32]; first | omega | (simp [up, setR] <;> omega)) (by rewrite [e69_73_26, e70_73_29, e71_73_34, e72_73_36]; first | omega | (simp [up, setR] <;> omega)) (by rewrite [e73_73_26, e74_73_29]; first | omega | (simp [up, setR] <;> omega)) (by exact hmd) (by first | assumption | exact hR) (by rewrite [e75_73_27]; first | assumption | exact hpl | omega)) (by decide) rfl ⟨by decide, by decide⟩ (by decide) rfl rfl (Nat.le_of_ble_eq_true rfl) ⟨by decide, by decide⟩ dX12_column_8 ?_
    intro r9 g8_76 hp9
    obtain ⟨⟨hT_76, hG_76⟩, hr9, pa_76, pm_76, pk_76, cl9_76⟩ := hp9
    rw [hr9]
    have hF_76 : FRM [73, 85, 93, 94, 95, 96, 97, 98] [28, 32, 33, 34, 36, 39] h g8_76 := FRM_tr hF hG_76 (by decide) (by decide)
    rw [show h 73 26 = (h 73) 26 from rfl] at pm_76
    rw [show h 73 29 = (h 73) 29 from rfl] at pm_76
    rw [show h 73 34 = (h 73) 34 from rfl] at pm_76
    rw [show h 73 36 = (h 73) 36 from rfl] at pm_76
    rw [show h 73 26 = (h 73) 26 from rfl] at cl9_76
    rw [show h 73 27 = (h 73) 27 from rfl] at cl9_76
    have pk_at8 := pk_76
    have cl9_at8 := cl9_76
    show TT K ly 0 0 11 [(0, vR 73), (1, vI q), (2, vI x), (3, vI y)] [] g8_76
    refine TT_vret hK hQ ?_ dX12_column_11
    have e77_73_32 : g8_76 73 32 = (g8_76 73) 32 := rfl
    have e78_73_34 : g8_76 73 34 = (g8_76 73) 34 := rfl
    have e79_73_36 : g8_76 73 36 = (g8_76 73) 36 := rfl
    have e80_84 : g8_76 84 = h 84 := (hG_76.1 84 (by decide))
    exact ⟨⟨hT_76, hF_76⟩, rfl, (by rewrite [e77_73_32]; omega), (by rewrite [e78_73_34, e79_73_36]; omega), (by rewrite [e80_84]; first | (first | exact pk_at8) | (intro j hj; exact ⟨rfl, (pk_at8 j hj).2⟩) | (intro j hj; exact ⟨rfl, rfl⟩)), (by first | exact coI_2 (by omega) cl9_at8)⟩

set_option maxRecDepth 20000 in
theorem s_clean_k (x y : Int) (h : Hp_) (hT : TY h) (hx : 0 ≤ x ∧ x ≤ 7) (hy : y = 0 ∨ y = 4) (hxw : x < ((h 80) (h 73 26))) (hye : y < ((h 81) (h 73 26))) (hw8 : ((h 80) (h 73 26)) ≤ 8) (he8 : ((h 81) (h 73 26)) ≤ 8) (htb : TBL (h 74) (h 75)) (ha : 32768 ≤ (h 73 32) ∧ (h 73 32) < 65536) (hm : (h 73 29) = 0 → 1 ≤ (h 73 34) ∧ 1 ≤ (h 73 36) ∧ 7 * (h 73 36) - (h 73 34) + PhS (h 96) + 27 * ZC ((h 80) (h 73 26)) ((h 81) (h 73 26)) (h 93) + 108 ≤ 22300) (hw1 : (h 73 29) = 1 → 10 ≤ (h 73 26)) : Ctr yX12_clean cX12_clean 4 none (rmd 6) ly ly 0 0 [vR 73, vI x, vI y] h (fun r h' => (TY h' ∧ FRM [73, 84, 85, 93, 96, 97, 98] [28, 32, 33, 34, 36, 39] h h') ∧ r = none ∧ (32768 ≤ (h' 73 32) ∧ (h' 73 32) < 65536) ∧ ((h 73 29) = 0 → 1 ≤ (h' 73 34) ∧ 1 ≤ (h' 73 36) ∧ 7 * (h' 73 36) - (h' 73 34) + PhS (h' 96) + 27 * ZC ((h 80) (h 73 26)) ((h 81) (h 73 26)) (h' 93) ≤ 7 * (h 73 36) - (h 73 34) + PhS (h 96) + 27 * ZC ((h 80) (h 73 26)) ((h 81) (h 73 26)) (h 93) + 9 * min 4 (((h 81) (h 73 26)) - y)) ∧ (∀ j : Int, j < 640 → (h' 84) j = (h 84) j ∧ (h' 85) j = (h 85) j)) := by
  refine Ctr_of (by decide) (Nat.le_of_ble_eq_true rfl) ⟨Nat.le_refl _, Nat.le_refl _⟩ (fun K hK hQ _ => ?_)
  show TT K ly 0 0 0 [(0, vR 73), (1, vI x), (2, vI y)] [] h
  have hF : FRM [73, 84, 85, 93, 96, 97, 98] [28, 32, 33, 34, 36, 39] h h := FRM_rf _ _ _
  have zn := ZC_nn (h 80 (h 73 26)) (h 81 (h 73 26)) (h 93)
  refine TT_iload_n hK rfl 2 rfl dX12_clean_0 ?_
  refine TT_aload_n hK rfl 0 rfl dX12_clean_1 ?_
  refine TT_iload_n hK rfl 1 rfl dX12_clean_2 ?_
  refine TT_iload_n hK rfl 2 rfl dX12_clean_3 ?_
  have e1_73_32 : h 73 32 = (h 73) 32 := rfl
  have e2_73_29 : h 73 29 = (h 73) 29 := rfl
  have e3_73_34 : h 73 34 = (h 73) 34 := rfl
  have e4_73_36 : h 73 36 = (h 73) 36 := rfl
  have e5_73_26 : h 73 26 = (h 73) 26 := rfl
  have e6_73_29 : h 73 29 = (h 73) 29 := rfl
  refine iv_X12_274 hK (s_jump_k x y h hT (by first | omega | (simp [up, setR] <;> omega)) (by first | omega | (simp [up, setR] <;> omega)) (by first | assumption | exact htb) (by rewrite [e1_73_32]; first | omega | (simp [up, setR] <;> omega)) (by rewrite [e2_73_29, e3_73_34, e4_73_36]; first | omega | (simp [up, setR] <;> omega)) (by rewrite [e5_73_26, e6_73_29]; first | omega | (simp [up, setR] <;> omega))) (by decide) rfl ⟨by decide, by decide⟩ (by decide) rfl rfl (Nat.le_of_ble_eq_true rfl) ⟨by decide, by decide⟩ dX12_clean_4 ?_
  intro r9 g4_7 hp9
  obtain ⟨⟨hT_7, hG_7⟩, z4_7, hr9, hz_7, pa_7, pm_7, pq_7, pz_7, pk_7⟩ := hp9
  rw [hr9]
  have hF_7 : FRM [73, 84, 85, 93, 96, 97, 98] [28, 32, 33, 34, 36, 39] h g4_7 := FRM_tr hF hG_7 (by decide) (by decide)
  rw [show h 73 29 = (h 73) 29 from rfl] at pm_7
  rw [show h 73 34 = (h 73) 34 from rfl] at pm_7
  rw [show h 73 36 = (h 73) 36 from rfl] at pm_7
  rw [show h 73 26 = (h 73) 26 from rfl] at pq_7
  rw [show h 73 26 = (h 73) 26 from rfl] at pz_7
  rw [show h 73 29 = (h 73) 29 from rfl] at pz_7
  rw [show h 73 34 = (h 73) 34 from rfl] at pz_7
  rw [show h 73 36 = (h 73) 36 from rfl] at pz_7
  have pz_at4 := pz_7
  have pk_at4 := pk_7
  show TT K ly 0 0 7 [(0, vR 73), (1, vI x), (2, vI y)] [vI z4_7, vI y] g4_7
  have k4 := pz_at4 (h 80 (h 73 26)) hxw hw8
  refine TT_iadd hK dX12_clean_7 ?_
  refine TT_istore_n hK rfl (lv' := [(3, vI (y + z4_7)), (0, vR 73), (1, vI x), (2, vI y)]) (by decide) rfl dX12_clean_8 ?_
  have L9_8 : ∀ (k8 : Nat) (i : Int) (w9_8 : Hp_), TY w9_8 → FRM [73, 84, 85, 93, 96, 97, 98] [28, 32, 33, 34, 36, 39] h w9_8 → (y ≤ i ∧ i ≤ y + 4 ∧ i ≤ (h 81 (h 73 26))) → (32768 ≤ (w9_8 73 32) ∧ (w9_8 73 32) < 65536) → (h 73 29 = 0 → 1 ≤ (w9_8 73 34) ∧ 1 ≤ (w9_8 73 36) ∧ 7 * (w9_8 73 36) - (w9_8 73 34) + PhS (w9_8 96) + 27 * ZC (h 80 (h 73 26)) (h 81 (h 73 26)) (w9_8 93) ≤ 7 * (h 73 36) - (h 73 34) + PhS (h 96) + 27 * ZC (h 80 (h 73 26)) (h 81 (h 73 26)) (h 93) + 9 * (i - y)) → (0 ≤ ZC (h 80 (h 73 26)) (h 81 (h 73 26)) (w9_8 93)) → (∀ j : Int, j < 640 → (w9_8 84) j = h 84 j ∧ (w9_8 85) j = h 85 j) → (y + 4 - i).toNat < k8 → TT K ly 0 0 9 [(0, vR 73), (1, vI x), (2, vI y), (3, vI i)] [] w9_8 := by
    intro k8
    induction k8 with
    | zero => intro i w9_8 hT9_8 hF9_8 hi ha1 hp1 hzn pki hk8; exact absurd hk8 (Nat.not_lt_zero _)
    | succ k8 ih8 =>
      intro i w9_8 hT9_8 hF9_8 hi ha1 hp1 hzn pki hk8
      refine TT_iload_n hK rfl 3 rfl dX12_clean_9 ?_
      refine TT_iload_n hK rfl 2 rfl dX12_clean_10 ?_
      refine TT_iconst hK dX12_clean_11 ?_
      refine TT_iadd hK dX12_clean_12 ?_
      refine TT_icmp_ge hK (tgt := 70) (irm (by omega) (by omega)) (irm (by omega) (by omega)) dX12_clean_13 (by decide) (fun hb13_9 => ?_) (fun hb13_9 => ?_)
      · refine TT_vret hK hQ ?_ dX12_clean_70
        have e10_73_32 : w9_8 73 32 = (w9_8 73) 32 := rfl
        have e11_73_34 : w9_8 73 34 = (w9_8 73) 34 := rfl
        have e12_73_36 : w9_8 73 36 = (w9_8 73) 36 := rfl
        exact ⟨⟨hT9_8, hF9_8⟩, rfl, (by rewrite [e10_73_32]; omega), (by rewrite [e11_73_34, e12_73_36]; omega), (by exact pki)⟩
      · refine TT_iload_n hK rfl 3 rfl dX12_clean_16 ?_
        refine TT_aload_n hK rfl 0 rfl dX12_clean_17 ?_
        refine gf_X12_38 hK (by decide) rfl (q := 81) rfl rfl dX12_clean_18 ?_
        refine TT_aload_n hK rfl 0 rfl dX12_clean_21 ?_
        refine gf_X12_246 hK (by decide) rfl (v := (h 73) 26) (hF9_8.2 26 (by decide)) dX12_clean_22 ?_
        have r13 := ty_73_26 (v := (h 73) 26) hT9_8 (hF9_8.2 26 (by decide))
        refine TT_iald hK (o := 81) (n := 20) (by decide) rfl (by first | omega | (simp [up, setR] <;> omega)) (by first | omega | (simp [up, setR] <;> omega)) (v := (h 81) ((h 73) 26)) (rd_ (hF9_8.1 81 (by decide)) rfl) dX12_clean_25 ?_
        have r14 := ty_81 (i := (h 73) 26) (v := (h 81) ((h 73) 26)) hT9_8 (rd_ (hF9_8.1 81 (by decide)) rfl) (by omega) (by omega)
        refine TT_icmp_ge hK (tgt := 70) (irm (by omega) (by omega)) (irm (by omega) (by omega)) dX12_clean_26 (by decide) (fun hb26_15 => ?_) (fun hb26_15 => ?_)
        · refine TT_vret hK hQ ?_ dX12_clean_70
          have e16_73_32 : w9_8 73 32 = (w9_8 73) 32 := rfl
          have e17_73_34 : w9_8 73 34 = (w9_8 73) 34 := rfl
          have e18_73_36 : w9_8 73 36 = (w9_8 73) 36 := rfl
          exact ⟨⟨hT9_8, hF9_8⟩, rfl, (by rewrite [e16_73_32]; omega), (by rewrite [e17_73_34, e18_73_36]; omega), (by exact pki)⟩
        · refine TT_aload_n hK rfl 0 rfl dX12_clean_29 ?_
          refine TT_iload_n hK rfl 1 rfl dX12_clean_30 ?_
          refine TT_iload_n hK rfl 3 rfl dX12_clean_31 ?_
          refine iv_X12_271 hK (s_X12_isUntouched_73 x i w9_8 hT9_8 (by first | omega | (simp [up, setR] <;> omega)) (by first | omega | (simp [up, setR] <;> omega))) (by decide) rfl ⟨by decide, by decide⟩ (by decide) rfl rfl (Nat.le_of_ble_eq_true rfl) ⟨by decide, by decide⟩ dX12_clean_32 ?_
          intro r9 g32_19 hp9
          obtain ⟨⟨hT_19, hG_19⟩, z32_19, hr9, hz_19, p1_19⟩ := hp9
          rw [hr9]
          have hF_19 : FRM [73, 84, 85, 93, 96, 97, 98] [28, 32, 33, 34, 36, 39] h g32_19 := FRM_tr hF9_8 hG_19 (by decide) (by decide)
          show TT K ly 0 0 35 [(0, vR 73), (1, vI x), (2, vI y), (3, vI i)] [vI z32_19] g32_19
          refine TT_if_eq hK (tgt := 64) (irm (by omega) (by omega)) dX12_clean_35 (by decide) (fun hb35_20 => ?_) (fun hb35_20 => ?_)
          · refine TT_iinc hK (v := i + 1) (lv' := [(3, vI (i + 1)), (0, vR 73), (1, vI x), (2, vI y)]) 3 rfl rfl (by decide) rfl dX12_clean_64 ?_
            refine TT_goto hK (tgt := 9) dX12_clean_67 (by decide) ?_
            refine TT_sub [1, 2, 3, 0] rfl ?_
            have e21_73_32 : g32_19 73 32 = (w9_8 73) 32 := congrFun (hG_19.1 73 (by decide)) 32
            have e22_73_34 : g32_19 73 34 = (w9_8 73) 34 := congrFun (hG_19.1 73 (by decide)) 34
            have e23_73_36 : g32_19 73 36 = (w9_8 73) 36 := congrFun (hG_19.1 73 (by decide)) 36
            have e24_93 : g32_19 93 = w9_8 93 := (hG_19.1 93 (by decide))
            have e25_96 : g32_19 96 = w9_8 96 := (hG_19.1 96 (by decide))
            have e26_93 : g32_19 93 = w9_8 93 := (hG_19.1 93 (by decide))
            have e27_84 : g32_19 84 = w9_8 84 := (hG_19.1 84 (by decide))
            have e28_85 : g32_19 85 = w9_8 85 := (hG_19.1 85 (by decide))
            try have k8 := pz_at61 (h 80 (h 73 26)) (h 81 (h 73 26)) (by omega) hw8 (by omega) he8 (by omega)
            exact ih8 (i + 1) g32_19 hT_19 hF_19 (by first | omega | (simp [up, setR] <;> omega)) (by rewrite [e21_73_32]; first | omega | (simp [up, setR] <;> omega)) (by rewrite [e22_73_34, e23_73_36, e24_93, e25_96]; first | omega | (simp [up, setR] <;> omega)) (by rewrite [e26_93]; exact ZC_nn _ _ _) (by rewrite [e27_84, e28_85]; first | (intro j hj; have k1 := pk_at61 j hj; have k2 := pki j hj; exact ⟨k1.1.trans k2.1, k1.2.trans k2.2⟩) | exact pki) (by first | omega | (simp [up, setR] <;> omega))
          · refine TT_aload_n hK rfl 0 rfl dX12_clean_38 ?_
            refine TT_aload_n hK rfl 0 rfl dX12_clean_39 ?_
            refine TT_iload_n hK rfl 1 rfl dX12_clean_40 ?_
            refine TT_iload_n hK rfl 3 rfl dX12_clean_41 ?_
            refine iv_X12_261 hK (s_X12_context_73 x i g32_19 hT_19 (by first | omega | (simp [up, setR] <;> omega)) (by first | omega | (simp [up, setR] <;> omega))) (by decide) rfl ⟨by decide, by decide⟩ (by decide) rfl rfl (Nat.le_of_ble_eq_true rfl) ⟨by decide, by decide⟩ dX12_clean_42 ?_
            intro r9 g42_29 hp9
            obtain ⟨⟨hT_29, hG_29⟩, z42_29, hr9, hz_29⟩ := hp9
            rw [hr9]
            have hF_29 : FRM [73, 84, 85, 93, 96, 97, 98] [28, 32, 33, 34, 36, 39] h g42_29 := FRM_tr hF_19 hG_29 (by decide) (by decide)
            show TT K ly 0 0 45 [(0, vR 73), (1, vI x), (2, vI y), (3, vI i)] [vI z42_29, vR 73] g42_29
            refine TT_aload_n hK rfl 0 rfl dX12_clean_45 ?_
            refine TT_iload_n hK rfl 1 rfl dX12_clean_46 ?_
            refine TT_iload_n hK rfl 3 rfl dX12_clean_47 ?_
            refine iv_X12_264 hK (s_X12_bitAt_73 x i g42_29 hT_29 (by first | omega | (simp [up, setR] <;> omega)) (by first | omega | (simp [up, setR] <;> omega))) (by decide) rfl ⟨by decide, by decide⟩ (by decide) rfl rfl (Nat.le_of_ble_eq_true rfl) ⟨by decide, by decide⟩ dX12_clean_48 ?_
            intro r9 g48_30 hp9
            obtain ⟨⟨hT_30, hG_30⟩, z48_30, hr9, hz_30⟩ := hp9
            rw [hr9]
            have hF_30 : FRM [73, 84, 85, 93, 96, 97, 98] [28, 32, 33, 34, 36, 39] h g48_30 := FRM_tr hF_29 hG_30 (by decide) (by decide)
            show TT K ly 0 0 51 [(0, vR 73), (1, vI x), (2, vI y), (3, vI i)] [vI z48_30, vI z42_29, vR 73] g48_30
            have e31_74 : g48_30 74 = h 74 := ((hG_30.1 74 (by decide))).trans (((hG_29.1 74 (by decide))).trans (((hG_19.1 74 (by decide))).trans (hF9_8.1 74 (by decide))))
            have e32_75 : g48_30 75 = h 75 := ((hG_30.1 75 (by decide))).trans (((hG_29.1 75 (by decide))).trans (((hG_19.1 75 (by decide))).trans (hF9_8.1 75 (by decide))))
            have e33_73_32 : g48_30 73 32 = (w9_8 73) 32 := (congrFun (hG_30.1 73 (by decide)) 32).trans ((congrFun (hG_29.1 73 (by decide)) 32).trans (congrFun (hG_19.1 73 (by decide)) 32))
            have e34_73_29 : g48_30 73 29 = (h 73) 29 := (congrFun (hG_30.1 73 (by decide)) 29).trans ((congrFun (hG_29.1 73 (by decide)) 29).trans ((congrFun (hG_19.1 73 (by decide)) 29).trans (hF9_8.2 29 (by decide))))
            have e35_73_34 : g48_30 73 34 = (w9_8 73) 34 := (congrFun (hG_30.1 73 (by decide)) 34).trans ((congrFun (hG_29.1 73 (by decide)) 34).trans (congrFun (hG_19.1 73 (by decide)) 34))
            have e36_73_36 : g48_30 73 36 = (w9_8 73) 36 := (congrFun (hG_30.1 73 (by decide)) 36).trans ((congrFun (hG_29.1 73 (by decide)) 36).trans (congrFun (hG_19.1 73 (by decide)) 36))
            have e37_96 : g48_30 96 = w9_8 96 := ((hG_30.1 96 (by decide))).trans (((hG_29.1 96 (by decide))).trans (hG_19.1 96 (by decide)))
            refine iv_X12_258 hK (s_X12_code_73 z42_29 z48_30 g48_30 hT_30 (by first | omega | (simp [up, setR] <;> omega)) (by first | omega | (simp [up, setR] <;> omega)) (by rewrite [e31_74, e32_75]; first | assumption | exact htb) (by rewrite [e33_73_32]; first | omega | (simp [up, setR] <;> omega)) (by rewrite [e34_73_29, e35_73_34, e36_73_36, e37_96]; first | omega | (simp [up, setR] <;> omega))) (by decide) rfl ⟨by decide, by decide⟩ (by decide) rfl rfl (Nat.le_of_ble_eq_true rfl) ⟨by decide, by decide⟩ dX12_clean_51 ?_
            intro r9 g51_38 hp9
            obtain ⟨⟨hT_38, hG_38⟩, z51_38, hr9, hz_38, pa_38, pm_38⟩ := hp9
            rw [hr9]
            have hF_38 : FRM [73, 84, 85, 93, 96, 97, 98] [28, 32, 33, 34, 36, 39] h g51_38 := FRM_tr hF_30 hG_38 (by decide) (by decide)
            rw [show g48_30 73 29 = (h 73) 29 from (congrFun (hG_30.1 73 (by decide)) 29).trans ((congrFun (hG_29.1 73 (by decide)) 29).trans ((congrFun (hG_19.1 73 (by decide)) 29).trans (hF9_8.2 29 (by decide))))] at pm_38
            rw [show g48_30 73 34 = (w9_8 73) 34 from (congrFun (hG_30.1 73 (by decide)) 34).trans ((congrFun (hG_29.1 73 (by decide)) 34).trans (congrFun (hG_19.1 73 (by decide)) 34))] at pm_38
            rw [show g48_30 73 36 = (w9_8 73) 36 from (congrFun (hG_30.1 73 (by decide)) 36).trans ((congrFun (hG_29.1 73 (by decide)) 36).trans (congrFun (hG_19.1 73 (by decide)) 36))] at pm_38
            rw [show g48_30 96 = w9_8 96 from ((hG_30.1 96 (by decide))).trans (((hG_29.1 96 (by decide))).trans (hG_19.1 96 (by decide)))] at pm_38
            show TT K ly 0 0 54 [(0, vR 73), (1, vI x), (2, vI y), (3, vI i)] [vI z51_38] g51_38
            refine TT_iconst hK dX12_clean_54 ?_
            refine TT_icmp_ne hK (tgt := 64) (irm (by omega) (by omega)) (by decide) dX12_clean_55 (by decide) (fun hb55_39 => ?_) (fun hb55_39 => ?_)
            · refine TT_iinc hK (v := i + 1) (lv' := [(3, vI (i + 1)), (0, vR 73), (1, vI x), (2, vI y)]) 3 rfl rfl (by decide) rfl dX12_clean_64 ?_
              refine TT_goto hK (tgt := 9) dX12_clean_67 (by decide) ?_
              refine TT_sub [1, 2, 3, 0] rfl ?_
              have e40_73_32 : g51_38 73 32 = (g51_38 73) 32 := rfl
              have e41_73_34 : g51_38 73 34 = (g51_38 73) 34 := rfl
              have e42_73_36 : g51_38 73 36 = (g51_38 73) 36 := rfl
              have e43_93 : g51_38 93 = w9_8 93 := ((hG_38.1 93 (by decide))).trans (((hG_30.1 93 (by decide))).trans (((hG_29.1 93 (by decide))).trans (hG_19.1 93 (by decide))))
              have e44_93 : g51_38 93 = w9_8 93 := ((hG_38.1 93 (by decide))).trans (((hG_30.1 93 (by decide))).trans (((hG_29.1 93 (by decide))).trans (hG_19.1 93 (by decide))))
              have e45_84 : g51_38 84 = w9_8 84 := ((hG_38.1 84 (by decide))).trans (((hG_30.1 84 (by decide))).trans (((hG_29.1 84 (by decide))).trans (hG_19.1 84 (by decide))))
              have e46_85 : g51_38 85 = w9_8 85 := ((hG_38.1 85 (by decide))).trans (((hG_30.1 85 (by decide))).trans (((hG_29.1 85 (by decide))).trans (hG_19.1 85 (by decide))))
              try have k8 := pz_at61 (h 80 (h 73 26)) (h 81 (h 73 26)) (by omega) hw8 (by omega) he8 (by omega)
              exact ih8 (i + 1) g51_38 hT_38 hF_38 (by first | omega | (simp [up, setR] <;> omega)) (by rewrite [e40_73_32]; first | omega | (simp [up, setR] <;> omega)) (by rewrite [e41_73_34, e42_73_36, e43_93]; first | omega | (simp [up, setR] <;> omega)) (by rewrite [e44_93]; exact ZC_nn _ _ _) (by rewrite [e45_84, e46_85]; first | (intro j hj; have k1 := pk_at61 j hj; have k2 := pki j hj; exact ⟨k1.1.trans k2.1, k1.2.trans k2.2⟩) | exact pki) (by first | omega | (simp [up, setR] <;> omega))
            · refine TT_aload_n hK rfl 0 rfl dX12_clean_58 ?_
              refine TT_iload_n hK rfl 1 rfl dX12_clean_59 ?_
              refine TT_iload_n hK rfl 3 rfl dX12_clean_60 ?_
              have e47_74 : g51_38 74 = h 74 := ((hG_38.1 74 (by decide))).trans (((hG_30.1 74 (by decide))).trans (((hG_29.1 74 (by decide))).trans (((hG_19.1 74 (by decide))).trans (hF9_8.1 74 (by decide)))))
              have e48_75 : g51_38 75 = h 75 := ((hG_38.1 75 (by decide))).trans (((hG_30.1 75 (by decide))).trans (((hG_29.1 75 (by decide))).trans (((hG_19.1 75 (by decide))).trans (hF9_8.1 75 (by decide)))))
              have e49_73_32 : g51_38 73 32 = (g51_38 73) 32 := rfl
              have e50_73_29 : g51_38 73 29 = (h 73) 29 := ((hG_38.2 29 (by decide))).trans ((congrFun (hG_30.1 73 (by decide)) 29).trans ((congrFun (hG_29.1 73 (by decide)) 29).trans ((congrFun (hG_19.1 73 (by decide)) 29).trans (hF9_8.2 29 (by decide)))))
              have e51_73_34 : g51_38 73 34 = (g51_38 73) 34 := rfl
              have e52_73_36 : g51_38 73 36 = (g51_38 73) 36 := rfl
              have e53_73_26 : g51_38 73 26 = (h 73) 26 := ((hG_38.2 26 (by decide))).trans ((congrFun (hG_30.1 73 (by decide)) 26).trans ((congrFun (hG_29.1 73 (by decide)) 26).trans ((congrFun (hG_19.1 73 (by decide)) 26).trans (hF9_8.2 26 (by decide)))))
              have e54_73_29 : g51_38 73 29 = (h 73) 29 := ((hG_38.2 29 (by decide))).trans ((congrFun (hG_30.1 73 (by decide)) 29).trans ((congrFun (hG_29.1 73 (by decide)) 29).trans ((congrFun (hG_19.1 73 (by decide)) 29).trans (hF9_8.2 29 (by decide)))))
              refine iv_X12_267 hK (s_wake_k x i g51_38 hT_38 (by first | omega | (simp [up, setR] <;> omega)) (by first | omega | (simp [up, setR] <;> omega)) (by rewrite [e47_74, e48_75]; first | assumption | exact htb) (by rewrite [e49_73_32]; first | omega | (simp [up, setR] <;> omega)) (by rewrite [e50_73_29, e51_73_34, e52_73_36]; first | omega | (simp [up, setR] <;> omega)) (by rewrite [e53_73_26, e54_73_29]; first | omega | (simp [up, setR] <;> omega))) (by decide) rfl ⟨by decide, by decide⟩ (by decide) rfl rfl (Nat.le_of_ble_eq_true rfl) ⟨by decide, by decide⟩ dX12_clean_61 ?_
              intro r9 g61_55 hp9
              obtain ⟨⟨hT_55, hG_55⟩, hr9, pa_55, pm_55, pz_55, pk_55⟩ := hp9
              rw [hr9]
              have hF_55 : FRM [73, 84, 85, 93, 96, 97, 98] [28, 32, 33, 34, 36, 39] h g61_55 := FRM_tr hF_38 hG_55 (by decide) (by decide)
              rw [show g51_38 73 29 = (h 73) 29 from ((hG_38.2 29 (by decide))).trans ((congrFun (hG_30.1 73 (by decide)) 29).trans ((congrFun (hG_29.1 73 (by decide)) 29).trans ((congrFun (hG_19.1 73 (by decide)) 29).trans (hF9_8.2 29 (by decide)))))] at pm_55
              rw [show g51_38 73 34 = (g51_38 73) 34 from rfl] at pm_55
              rw [show g51_38 73 36 = (g51_38 73) 36 from rfl] at pm_55
              rw [show g51_38 93 = w9_8 93 from ((hG_38.1 93 (by decide))).trans (((hG_30.1 93 (by decide))).trans (((hG_29.1 93 (by decide))).trans (hG_19.1 93 (by decide))))] at pz_55
              rw [show g51_38 84 = w9_8 84 from ((hG_38.1 84 (by decide))).trans (((hG_30.1 84 (by decide))).trans (((hG_29.1 84 (by decide))).trans (hG_19.1 84 (by decide))))] at pk_55
              rw [show g51_38 85 = w9_8 85 from ((hG_38.1 85 (by decide))).trans (((hG_30.1 85 (by decide))).trans (((hG_29.1 85 (by decide))).trans (hG_19.1 85 (by decide))))] at pk_55
              have pz_at61 := pz_55
              have pk_at61 := pk_55
              show TT K ly 0 0 64 [(0, vR 73), (1, vI x), (2, vI y), (3, vI i)] [] g61_55
              refine TT_iinc hK (v := i + 1) (lv' := [(3, vI (i + 1)), (0, vR 73), (1, vI x), (2, vI y)]) 3 rfl rfl (by decide) rfl dX12_clean_64 ?_
              refine TT_goto hK (tgt := 9) dX12_clean_67 (by decide) ?_
              refine TT_sub [1, 2, 3, 0] rfl ?_
              have e56_73_32 : g61_55 73 32 = (g61_55 73) 32 := rfl
              have e57_73_34 : g61_55 73 34 = (g61_55 73) 34 := rfl
              have e58_73_36 : g61_55 73 36 = (g61_55 73) 36 := rfl
              try have k8 := pz_at61 (h 80 (h 73 26)) (h 81 (h 73 26)) (by omega) hw8 (by omega) he8 (by omega)
              exact ih8 (i + 1) g61_55 hT_55 hF_55 (by first | omega | (simp [up, setR] <;> omega)) (by rewrite [e56_73_32]; first | omega | (simp [up, setR] <;> omega)) (by rewrite [e57_73_34, e58_73_36]; first | omega | (simp [up, setR] <;> omega)) (by exact ZC_nn _ _ _) (by first | (intro j hj; have k1 := pk_at61 j hj; have k2 := pki j hj; exact ⟨k1.1.trans k2.1, k1.2.trans k2.2⟩) | exact pki) (by first | omega | (simp [up, setR] <;> omega))
  refine TT_sub [1, 2, 3, 0] rfl ?_
  have e59_73_32 : g4_7 73 32 = (g4_7 73) 32 := rfl
  have e60_73_34 : g4_7 73 34 = (g4_7 73) 34 := rfl
  have e61_73_36 : g4_7 73 36 = (g4_7 73) 36 := rfl
  exact L9_8 (((y + 4 - (y + z4_7)).toNat) + 1) (y + z4_7) g4_7 hT_7 hF_7 (by first | omega | (simp [up, setR] <;> omega)) (by rewrite [e59_73_32]; first | omega | (simp [up, setR] <;> omega)) (by rewrite [e60_73_34, e61_73_36]; first | omega | (simp [up, setR] <;> omega)) (by exact ZC_nn _ _ _) (by exact pk_at4) (Nat.lt_succ_self _)

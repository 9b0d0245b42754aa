set_option maxRecDepth 20000 in
theorem s_X12_clean_73 (x y : Int) (h : Hp_) (hT : TY h) (hx : 0 ≤ x ∧ x ≤ 7) (hy : y = 0 ∨ y = 4) (hxw : x < ((h 80) (h 73 26))) (hye : y < ((h 81) (h 73 26))) (hw8 : ((h 80) (h 73 26)) ≤ 8) (he8 : ((h 81) (h 73 26)) ≤ 8) (htb : TBL (h 74) (h 75)) (ha : 32768 ≤ (h 73 32) ∧ (h 73 32) < 65536) (hm : (h 73 29) = 0 → 1 ≤ (h 73 34) ∧ 1 ≤ (h 73 36) ∧ 7 * (h 73 36) - (h 73 34) + PhS (h 96) + 27 * ZC ((h 80) (h 73 26)) ((h 81) (h 73 26)) (h 93) + 108 ≤ 22300) (hw1 : (h 73 29) = 1 → 10 ≤ (h 73 26)) : Ctr yX12_clean cX12_clean 4 none (rmd 6) ly ly 0 0 [vR 73, vI x, vI y] h (fun r h' => (TY h' ∧ FRM [73, 84, 85, 93, 96, 97, 98] [28, 32, 33, 34, 36, 39] h h') ∧ r = none ∧ (32768 ≤ (h' 73 32) ∧ (h' 73 32) < 65536) ∧ ((h 73 29) = 0 → 1 ≤ (h' 73 34) ∧ 1 ≤ (h' 73 36) ∧ 7 * (h' 73 36) - (h' 73 34) + PhS (h' 96) + 27 * ZC ((h 80) (h 73 26)) ((h 81) (h 73 26)) (h' 93) ≤ 7 * (h 73 36) - (h 73 34) + PhS (h 96) + 27 * ZC ((h 80) (h 73 26)) ((h 81) (h 73 26)) (h 93) + 9 * min 4 (((h 81) (h 73 26)) - y))) := by
  refine Ctr_of (by decide) (Nat.le_of_ble_eq_true rfl) ⟨Nat.le_refl _, Nat.le_refl _⟩ (fun K hK hQ _ => ?_)
  show TT K ly 0 0 0 [(0, vR 73), (1, vI x), (2, vI y)] [] h
  have hF : FRM [73, 84, 85, 93, 96, 97, 98] [28, 32, 33, 34, 36, 39] h h := FRM_rf _ _ _
  have zn := ZC_nn (h 80 (h 73 26)) (h 81 (h 73 26)) (h 93)
  refine TT_iload_n hK rfl 2 rfl dX12_clean_0 ?_
  refine TT_aload_n hK rfl 0 rfl dX12_clean_1 ?_
  refine TT_iload_n hK rfl 1 rfl dX12_clean_2 ?_
  refine TT_iload_n hK rfl 2 rfl dX12_clean_3 ?_
  have e1_73_32 : h 73 32 = (h 73) 32 := rfl
  have e2_73_29 : h 73 29 = (h 73) 29 := rfl
  have e3_73_34 : h 73 34 = (h 73) 34 := rfl
  have e4_73_36 : h 73 36 = (h 73) 36 := rfl
  have e5_73_26 : h 73 26 = (h 73) 26 := rfl
  have e6_73_29 : h 73 29 = (h 73) 29 := rfl
  refine iv_X12_274 hK (s_X12_jump_73 x y h hT (by first | omega | (simp [up, setR] <;> omega)) (by first | omega | (simp [up, setR] <;> omega)) (by first | assumption | exact htb) (by rewrite [e1_73_32]; first | omega | (simp [up, setR] <;> omega)) (by rewrite [e2_73_29, e3_73_34, e4_73_36]; first | omega | (simp [up, setR] <;> omega)) (by rewrite [e5_73_26, e6_73_29]; first | omega | (simp [up, setR] <;> omega))) (by decide) rfl ⟨by decide, by decide⟩ (by decide) rfl rfl (Nat.le_of_ble_eq_true rfl) ⟨by decide, by decide⟩ dX12_clean_4 ?_
  intro r9 g4_7 hp9
  obtain ⟨⟨hT_7, hG_7⟩, z4_7, hr9, hz_7, pa_7, pm_7, pq_7, pz_7⟩ := hp9
  rw [hr9]
  have hF_7 : FRM [73, 84, 85, 93, 96, 97, 98] [28, 32, 33, 34, 36, 39] h g4_7 := FRM_tr hF hG_7 (by decide) (by decide)
  rw [show h 73 29 = (h 73) 29 from rfl] at pm_7
  rw [show h 73 34 = (h 73) 34 from rfl] at pm_7
  rw [show h 73 36 = (h 73) 36 from rfl] at pm_7
  rw [show h 73 26 = (h 73) 26 from rfl] at pq_7
  rw [show h 73 26 = (h 73) 26 from rfl] at pz_7
  rw [show h 73 29 = (h 73) 29 from rfl] at pz_7
  rw [show h 73 34 = (h 73) 34 from rfl] at pz_7
  rw [show h 73 36 = (h 73) 36 from rfl] at pz_7
  have pz_at4 := pz_7
  show TT K ly 0 0 7 [(0, vR 73), (1, vI x), (2, vI y)] [vI z4_7, vI y] g4_7
  have k4 := pz_at4 (h 80 (h 73 26)) hxw hw8
  refine TT_iadd hK dX12_clean_7 ?_
  refine TT_istore_n hK rfl (lv' := [(3, vI (y + z4_7)), (0, vR 73), (1, vI x), (2, vI y)]) (by decide) rfl dX12_clean_8 ?_
  have L9_8 : ∀ (k8 : Nat) (i : Int) (w9_8 : Hp_), TY w9_8 → FRM [73, 84, 85, 93, 96, 97, 98] [28, 32, 33, 34, 36, 39] h w9_8 → (y ≤ i ∧ i ≤ y + 4 ∧ i ≤ (h 81 (h 73 26))) → (32768 ≤ (w9_8 73 32) ∧ (w9_8 73 32) < 65536) → (h 73 29 = 0 → 1 ≤ (w9_8 73 34) ∧ 1 ≤ (w9_8 73 36) ∧ 7 * (w9_8 73 36) - (w9_8 73 34) + PhS (w9_8 96) + 27 * ZC (h 80 (h 73 26)) (h 81 (h 73 26)) (w9_8 93) ≤ 7 * (h 73 36) - (h 73 34) + PhS (h 96) + 27 * ZC (h 80 (h 73 26)) (h 81 (h 73 26)) (h 93) + 9 * (i - y)) → (0 ≤ ZC (h 80 (h 73 26)) (h 81 (h 73 26)) (w9_8 93)) → (y + 4 - i).toNat < k8 → TT K ly 0 0 9 [(0, vR 73), (1, vI x), (2, vI y), (3, vI i)] [] w9_8 := by
    intro k8
    induction k8 with
    | zero => intro i w9_8 hT9_8 hF9_8 hi ha1 hp1 hzn hk8; exact absurd hk8 (Nat.not_lt_zero _)
    | succ k8 ih8 =>
      intro i w9_8 hT9_8 hF9_8 hi ha1 hp1 hzn hk8
      refine TT_iload_n hK rfl 3 rfl dX12_clean_9 ?_
      refine TT_iload_n hK rfl 2 rfl dX12_clean_10 ?_
      refine TT_iconst hK dX12_clean_11 ?_
      refine TT_iadd hK dX12_clean_12 ?_
      refine TT_icmp_ge hK (tgt := 70) (irm (by omega) (by omega)) (irm (by omega) (by omega)) dX12_clean_13 (by decide) (fun hb13_9 => ?_) (fun hb13_9 => ?_)
      · refine TT_vret hK hQ ?_ dX12_clean_70
        have e10_73_32 : w9_8 73 32 = (w9_8 73) 32 := rfl
        have e11_73_34 : w9_8 73 34 = (w9_8 73) 34 := rfl
        have e12_73_36 : w9_8 73 36 = (w9_8 73) 36 := rfl
        exact ⟨⟨hT9_8, hF9_8⟩, rfl, (by rewrite [e10_73_32]; omega), (by rewrite [e11_73_34, e12_73_36]; omega)⟩
      · refine TT_iload_n hK rfl 3 rfl dX12_clean_16 ?_
        refine TT_aload_n hK rfl 0 rfl dX12_clean_17 ?_
        refine gf_X12_38 hK (by decide) rfl (q := 81) rfl rfl dX12_clean_18 ?_
        refine TT_aload_n hK rfl 0 rfl dX12_clean_21 ?_
        refine gf_X12_246 hK (by decide) rfl (v := (h 73) 26) (hF9_8.2 26 (by decide)) dX12_clean_22 ?_
        have r13 := ty_73_26 (v := (h 73) 26) hT9_8 (hF9_8.2 26 (by decide))
        refine TT_iald hK (o := 81) (n := 20) (by decide) rfl (by first | omega | (simp [up, setR] <;> omega)) (by first | omega | (simp [up, setR] <;> omega)) (v := (h 81) ((h 73) 26)) (rd_ (hF9_8.1 81 (by decide)) rfl) dX12_clean_25 ?_
        have r14 := ty_81 (i := (h 73) 26) (v := (h 81) ((h 73) 26)) hT9_8 (rd_ (hF9_8.1 81 (by decide)) rfl) (by omega) (by omega)
        refine TT_icmp_ge hK (tgt := 70) (irm (by omega) (by omega)) (irm (by omega) (by omega)) dX12_clean_26 (by decide) (fun hb26_15 => ?_) (fun hb26_15 => ?_)
        · refine TT_vret hK hQ ?_ dX12_clean_70
          have e16_73_32 : w9_8 73 32 = (w9_8 73) 32 := rfl
          have e17_73_34 : w9_8 73 34 = (w9_8 73) 34 := rfl
          have e18_73_36 : w9_8 73 36 = (w9_8 73) 36 := rfl
          exact ⟨⟨hT9_8, hF9_8⟩, rfl, (by rewrite [e16_73_32]; omega), (by rewrite [e17_73_34, e18_73_36]; omega)⟩
        · refine TT_aload_n hK rfl 0 rfl dX12_clean_29 ?_
          refine TT_iload_n hK rfl 1 rfl dX12_clean_30 ?_
          refine TT_iload_n hK rfl 3 rfl dX12_clean_31 ?_
          refine iv_X12_271 hK (s_X12_isUntouched_73 x i w9_8 hT9_8 (by first | omega | (simp [up, setR] <;> omega)) (by first | omega | (simp [up, setR] <;> omega))) (by decide) rfl ⟨by decide, by decide⟩ (by decide) rfl rfl (Nat.le_of_ble_eq_true rfl) ⟨by decide, by decide⟩ dX12_clean_32 ?_
          intro r9 g32_19 hp9
          obtain ⟨⟨hT_19, hG_19⟩, z32_19, hr9, hz_19, p1_19⟩ := hp9
          rw [hr9]
          have hF_19 : FRM [73, 84, 85, 93, 96, 97, 98] [28, 32, 33, 34, 36, 39] h g32_19 := FRM_tr hF9_8 hG_19 (by decide) (by decide)
          show TT K ly 0 0 35 [(0, vR 73), (1, vI x), (2, vI y), (3, vI i)] [vI z32_19] g32_19
          refine TT_if_eq hK (tgt := 64) (irm (by omega) (by omega)) dX12_clean_35 (by decide) (fun hb35_20 => ?_) (fun hb35_20 => ?_)
          · refine TT_iinc hK (v := i + 1) (lv' := [(3, vI (i + 1)), (0, vR 73), (1, vI x), (2, vI y)]) 3 rfl rfl (by decide) rfl dX12_clean_64 ?_
            refine TT_goto hK (tgt := 9) dX12_clean_67 (by decide) ?_
            refine TT_sub [1, 2, 3, 0] rfl ?_
            have e21_73_32 : g32_19 73 32 = (w9_8 73) 32 := congrFun (hG_19.1 73 (by decide)) 32
            have e22_73_34 : g32_19 73 34 = (w9_8 73) 34 := congrFun (hG_19.1 73 (by decide)) 34
            have e23_73_36 : g32_19 73 36 = (w9_8 73) 36 := congrFun (hG_19.1 73 (by decide)) 36
            have e24_93 : g32_19 93 = w9_8 93 := (hG_19.1 93 (by decide))
            have e25_96 : g32_19 96 = w9_8 96 := (hG_19.1 96 (by decide))
            have e26_93 : g32_19 93 = w9_8 93 := (hG_19.1 93 (by decide))
            try have k8 := pz_at61 (h 80 (h 73 26)) (h 81 (h 73 26)) (by omega) hw8 (by omega) he8 (by omega)
            exact ih8 (i + 1) g32_19 hT_19 hF_19 (by first | omega | (simp [up, setR] <;> omega)) (by rewrite [e21_73_32]; first | omega | (simp [up, setR] <;> omega)) (by rewrite [e22_73_34, e23_73_36, e24_93, e25_96]; first | omega | (simp [up, setR] <;> omega)) (by rewrite [e26_93]; exact ZC_nn _ _ _) (by first | omega | (simp [up, setR] <;> omega))
          · refine TT_aload_n hK rfl 0 rfl dX12_clean_38 ?_
            refine TT_aload_n hK rfl 0 rfl dX12_clean_39 ?_
            refine TT_iload_n hK rfl 1 rfl dX12_clean_40 ?_
            refine TT_iload_n hK rfl 3 rfl dX12_clean_41 ?_
            refine iv_X12_261 hK (s_X12_context_73 x i g32_19 hT_19 (by first | omega | (simp [up, setR] <;> omega)) (by first | omega | (simp [up, setR] <;> omega))) (by decide) rfl ⟨by decide, by decide⟩ (by decide) rfl rfl (Nat.le_of_ble_eq_true rfl) ⟨by decide, by decide⟩ dX12_clean_42 ?_
            intro r9 g42_27 hp9
            obtain ⟨⟨hT_27, hG_27⟩, z42_27, hr9, hz_27⟩ := hp9
            rw [hr9]
            have hF_27 : FRM [73, 84, 85, 93, 96, 97, 98] [28, 32, 33, 34, 36, 39] h g42_27 := FRM_tr hF_19 hG_27 (by decide) (by decide)
            show TT K ly 0 0 45 [(0, vR 73), (1, vI x), (2, vI y), (3, vI i)] [vI z42_27, vR 73] g42_27
            refine TT_aload_n hK rfl 0 rfl dX12_clean_45 ?_
            refine TT_iload_n hK rfl 1 rfl dX12_clean_46 ?_
            refine TT_iload_n hK rfl 3 rfl dX12_clean_47 ?_
            refine iv_X12_264 hK (s_X12_bitAt_73 x i g42_27 hT_27 (by first | omega | (simp [up, setR] <;> omega)) (by first | omega | (simp [up, setR] <;> omega))) (by decide) rfl ⟨by decide, by decide⟩ (by decide) rfl rfl (Nat.le_of_ble_eq_true rfl) ⟨by decide, by decide⟩ dX12_clean_48 ?_
            intro r9 g48_28 hp9
            obtain ⟨⟨hT_28, hG_28⟩, z48_28, hr9, hz_28⟩ := hp9
            rw [hr9]
            have hF_28 : FRM [73, 84, 85, 93, 96, 97, 98] [28, 32, 33, 34, 36, 39] h g48_28 := FRM_tr hF_27 hG_28 (by decide) (by decide)
            show TT K ly 0 0 51 [(0, vR 73), (1, vI x), (2, vI y), (3, vI i)] [vI z48_28, vI z42_27, vR 73] g48_28
            have e29_74 : g48_28 74 = h 74 := ((hG_28.1 74 (by decide))).trans (((hG_27.1 74 (by decide))).trans (((hG_19.1 74 (by decide))).trans (hF9_8.1 74 (by decide))))
            have e30_75 : g48_28 75 = h 75 := ((hG_28.1 75 (by decide))).trans (((hG_27.1 75 (by decide))).trans (((hG_19.1 75 (by decide))).trans (hF9_8.1 75 (by decide))))
            have e31_73_32 : g48_28 73 32 = (w9_8 73) 32 := (congrFun (hG_28.1 73 (by decide)) 32).trans ((congrFun (hG_27.1 73 (by decide)) 32).trans (congrFun (hG_19.1 73 (by decide)) 32))
            have e32_73_29 : g48_28 73 29 = (h 73) 29 := (congrFun (hG_28.1 73 (by decide)) 29).trans ((congrFun (hG_27.1 73 (by decide)) 29).trans ((congrFun (hG_19.1 73 (by decide)) 29).trans (hF9_8.2 29 (by decide))))
            have e33_73_34 : g48_28 73 34 = (w9_8 73) 34 := (congrFun (hG_28.1 73 (by decide)) 34).trans ((congrFun (hG_27.1 73 (by decide)) 34).trans (congrFun (hG_19.1 73 (by decide)) 34))
            have e34_73_36 : g48_28 73 36 = (w9_8 73) 36 := (congrFun (hG_28.1 73 (by decide)) 36).trans ((congrFun (hG_27.1 73 (by decide)) 36).trans (congrFun (hG_19.1 73 (by decide)) 36))
            have e35_96 : g48_28 96 = w9_8 96 := ((hG_28.1 96 (by decide))).trans (((hG_27.1 96 (by decide))).trans (hG_19.1 96 (by decide)))
            refine iv_X12_258 hK (s_X12_code_73 z42_27 z48_28 g48_28 hT_28 (by first | omega | (simp [up, setR] <;> omega)) (by first | omega | (simp [up, setR] <;> omega)) (by rewrite [e29_74, e30_75]; first | assumption | exact htb) (by rewrite [e31_73_32]; first | omega | (simp [up, setR] <;> omega)) (by rewrite [e32_73_29, e33_73_34, e34_73_36, e35_96]; first | omega | (simp [up, setR] <;> omega))) (by decide) rfl ⟨by decide, by decide⟩ (by decide) rfl rfl (Nat.le_of_ble_eq_true rfl) ⟨by decide, by decide⟩ dX12_clean_51 ?_
            intro r9 g51_36 hp9
            obtain ⟨⟨hT_36, hG_36⟩, z51_36, hr9, hz_36, pa_36, pm_36⟩ := hp9
            rw [hr9]
            have hF_36 : FRM [73, 84, 85, 93, 96, 97, 98] [28, 32, 33, 34, 36, 39] h g51_36 := FRM_tr hF_28 hG_36 (by decide) (by decide)
            rw [show g48_28 73 29 = (h 73) 29 from (congrFun (hG_28.1 73 (by decide)) 29).trans ((congrFun (hG_27.1 73 (by decide)) 29).trans ((congrFun (hG_19.1 73 (by decide)) 29).trans (hF9_8.2 29 (by decide))))] at pm_36
            rw [show g48_28 73 34 = (w9_8 73) 34 from (congrFun (hG_28.1 73 (by decide)) 34).trans ((congrFun (hG_27.1 73 (by decide)) 34).trans (congrFun (hG_19.1 73 (by decide)) 34))] at pm_36
            rw [show g48_28 73 36 = (w9_8 73) 36 from (congrFun (hG_28.1 73 (by decide)) 36).trans ((congrFun (hG_27.1 73 (by decide)) 36).trans (congrFun (hG_19.1 73 (by decide)) 36))] at pm_36
            rw [show g48_28 96 = w9_8 96 from ((hG_28.1 96 (by decide))).trans (((hG_27.1 96 (by decide))).trans (hG_19.1 96 (by decide)))] at pm_36
            show TT K ly 0 0 54 [(0, vR 73), (1, vI x), (2, vI y), (3, vI i)] [vI z51_36] g51_36
            refine TT_iconst hK dX12_clean_54 ?_
            refine TT_icmp_ne hK (tgt := 64) (irm (by omega) (by omega)) (by decide) dX12_clean_55 (by decide) (fun hb55_37 => ?_) (fun hb55_37 => ?_)
            · refine TT_iinc hK (v := i + 1) (lv' := [(3, vI (i + 1)), (0, vR 73), (1, vI x), (2, vI y)]) 3 rfl rfl (by decide) rfl dX12_clean_64 ?_
              refine TT_goto hK (tgt := 9) dX12_clean_67 (by decide) ?_
              refine TT_sub [1, 2, 3, 0] rfl ?_
              have e38_73_32 : g51_36 73 32 = (g51_36 73) 32 := rfl
              have e39_73_34 : g51_36 73 34 = (g51_36 73) 34 := rfl
              have e40_73_36 : g51_36 73 36 = (g51_36 73) 36 := rfl
              have e41_93 : g51_36 93 = w9_8 93 := ((hG_36.1 93 (by decide))).trans (((hG_28.1 93 (by decide))).trans (((hG_27.1 93 (by decide))).trans (hG_19.1 93 (by decide))))
              have e42_93 : g51_36 93 = w9_8 93 := ((hG_36.1 93 (by decide))).trans (((hG_28.1 93 (by decide))).trans (((hG_27.1 93 (by decide))).trans (hG_19.1 93 (by decide))))
              try have k8 := pz_at61 (h 80 (h 73 26)) (h 81 (h 73 26)) (by omega) hw8 (by omega) he8 (by omega)
              exact ih8 (i + 1) g51_36 hT_36 hF_36 (by first | omega | (simp [up, setR] <;> omega)) (by rewrite [e38_73_32]; first | omega | (simp [up, setR] <;> omega)) (by rewrite [e39_73_34, e40_73_36, e41_93]; first | omega | (simp [up, setR] <;> omega)) (by rewrite [e42_93]; exact ZC_nn _ _ _) (by first | omega | (simp [up, setR] <;> omega))
            · refine TT_aload_n hK rfl 0 rfl dX12_clean_58 ?_
              refine TT_iload_n hK rfl 1 rfl dX12_clean_59 ?_
              refine TT_iload_n hK rfl 3 rfl dX12_clean_60 ?_
              have e43_74 : g51_36 74 = h 74 := ((hG_36.1 74 (by decide))).trans (((hG_28.1 74 (by decide))).trans (((hG_27.1 74 (by decide))).trans (((hG_19.1 74 (by decide))).trans (hF9_8.1 74 (by decide)))))
              have e44_75 : g51_36 75 = h 75 := ((hG_36.1 75 (by decide))).trans (((hG_28.1 75 (by decide))).trans (((hG_27.1 75 (by decide))).trans (((hG_19.1 75 (by decide))).trans (hF9_8.1 75 (by decide)))))
              have e45_73_32 : g51_36 73 32 = (g51_36 73) 32 := rfl
              have e46_73_29 : g51_36 73 29 = (h 73) 29 := ((hG_36.2 29 (by decide))).trans ((congrFun (hG_28.1 73 (by decide)) 29).trans ((congrFun (hG_27.1 73 (by decide)) 29).trans ((congrFun (hG_19.1 73 (by decide)) 29).trans (hF9_8.2 29 (by decide)))))
              have e47_73_34 : g51_36 73 34 = (g51_36 73) 34 := rfl
              have e48_73_36 : g51_36 73 36 = (g51_36 73) 36 := rfl
              have e49_73_26 : g51_36 73 26 = (h 73) 26 := ((hG_36.2 26 (by decide))).trans ((congrFun (hG_28.1 73 (by decide)) 26).trans ((congrFun (hG_27.1 73 (by decide)) 26).trans ((congrFun (hG_19.1 73 (by decide)) 26).trans (hF9_8.2 26 (by decide)))))
              have e50_73_29 : g51_36 73 29 = (h 73) 29 := ((hG_36.2 29 (by decide))).trans ((congrFun (hG_28.1 73 (by decide)) 29).trans ((congrFun (hG_27.1 73 (by decide)) 29).trans ((congrFun (hG_19.1 73 (by decide)) 29).trans (hF9_8.2 29 (by decide)))))
              refine iv_X12_267 hK (s_X12_wake_73 x i g51_36 hT_36 (by first | omega | (simp [up, setR] <;> omega)) (by first | omega | (simp [up, setR] <;> omega)) (by rewrite [e43_74, e44_75]; first | assumption | exact htb) (by rewrite [e45_73_32]; first | omega | (simp [up, setR] <;> omega)) (by rewrite [e46_73_29, e47_73_34, e48_73_36]; first | omega | (simp [up, setR] <;> omega)) (by rewrite [e49_73_26, e50_73_29]; first | omega | (simp [up, setR] <;> omega))) (by decide) rfl ⟨by decide, by decide⟩ (by decide) rfl rfl (Nat.le_of_ble_eq_true rfl) ⟨by decide, by decide⟩ dX12_clean_61 ?_
              intro r9 g61_51 hp9
              obtain ⟨⟨hT_51, hG_51⟩, hr9, pa_51, pm_51, pz_51⟩ := hp9
              rw [hr9]
              have hF_51 : FRM [73, 84, 85, 93, 96, 97, 98] [28, 32, 33, 34, 36, 39] h g61_51 := FRM_tr hF_36 hG_51 (by decide) (by decide)
              rw [show g51_36 73 29 = (h 73) 29 from ((hG_36.2 29 (by decide))).trans ((congrFun (hG_28.1 73 (by decide)) 29).trans ((congrFun (hG_27.1 73 (by decide)) 29).trans ((congrFun (hG_19.1 73 (by decide)) 29).trans (hF9_8.2 29 (by decide)))))] at pm_51
              rw [show g51_36 73 34 = (g51_36 73) 34 from rfl] at pm_51
              rw [show g51_36 73 36 = (g51_36 73) 36 from rfl] at pm_51
              rw [show g51_36 93 = w9_8 93 from ((hG_36.1 93 (by decide))).trans (((hG_28.1 93 (by decide))).trans (((hG_27.1 93 (by decide))).trans (hG_19.1 93 (by decide))))] at pz_51
              have pz_at61 := pz_51
              show TT K ly 0 0 64 [(0, vR 73), (1, vI x), (2, vI y), (3, vI i)] [] g61_51
              refine TT_iinc hK (v := i + 1) (lv' := [(3, vI (i + 1)), (0, vR 73), (1, vI x), (2, vI y)]) 3 rfl rfl (by decide) rfl dX12_clean_64 ?_
              refine TT_goto hK (tgt := 9) dX12_clean_67 (by decide) ?_
              refine TT_sub [1, 2, 3, 0] rfl ?_
              have e52_73_32 : g61_51 73 32 = (g61_51 73) 32 := rfl
              have e53_73_34 : g61_51 73 34 = (g61_51 73) 34 := rfl
              have e54_73_36 : g61_51 73 36 = (g61_51 73) 36 := rfl
              try have k8 := pz_at61 (h 80 (h 73 26)) (h 81 (h 73 26)) (by omega) hw8 (by omega) he8 (by omega)
              exact ih8 (i + 1) g61_51 hT_51 hF_51 (by first | omega | (simp [up, setR] <;> omega)) (by rewrite [e52_73_32]; first | omega | (simp [up, setR] <;> omega)) (by rewrite [e53_73_34, e54_73_36]; first | omega | (simp [up, setR] <;> omega)) (by exact ZC_nn _ _ _) (by first | omega | (simp [up, setR] <;> omega))
  refine TT_sub [1, 2, 3, 0] rfl ?_
  have e55_73_32 : g4_7 73 32 = (g4_7 73) 32 := rfl
  have e56_73_34 : g4_7 73 34 = (g4_7 73) 34 := rfl
  have e57_73_36 : g4_7 73 36 = (g4_7 73) 36 := rfl
  exact L9_8 (((y + 4 - (y + z4_7)).toNat) + 1) (y + z4_7) g4_7 hT_7 hF_7 (by first | omega | (simp [up, setR] <;> omega)) (by rewrite [e55_73_32]; first | omega | (simp [up, setR] <;> omega)) (by rewrite [e56_73_34, e57_73_36]; first | omega | (simp [up, setR] <;> omega)) (by exact ZC_nn _ _ _) (Nat.lt_succ_self _)

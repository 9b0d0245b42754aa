theorem ZC_fin : ∀ w e : Fin 9, SumR (zc1 (w.val : Int) (e.val : Int) (fun _ => 0)) 64 ≤ (w.val : Int) * (e.val : Int) := by decide +kernel
theorem ZC_0 {w e : Int} {aw : Int → Int} (hw : 0 ≤ w ∧ w ≤ 8) (he : 0 ≤ e ∧ e ≤ 8) (h0 : ∀ j : Int, 0 ≤ j → j < 100 → aw j = 0) : ZC w e aw ≤ w * e := by
  unfold ZC
  rw [SumR_cg (f := zc1 w e (fun _ => 0)) 64 (fun k hk => by
    unfold zc1
    rw [h0 (10 * ((k / 8 : Nat) : Int) + ((k % 8 : Nat) : Int) + 11) (by omega) (by omega)])]
  obtain ⟨wn, rfl⟩ := Int.eq_ofNat_of_zero_le hw.1
  obtain ⟨en, rfl⟩ := Int.eq_ofNat_of_zero_le he.1
  exact ZC_fin ⟨wn, by omega⟩ ⟨en, by omega⟩
theorem VB {w e x y : Int} (hx : 0 ≤ x ∧ x < w) (hy : y = 0 ∨ y = 4) (he : y < e ∧ e ≤ 8) : w * min y e + x * min 4 (e - y) + min 4 (e - y) ≤ w * e := by
  have h1 : x * min 4 (e - y) + min 4 (e - y) ≤ w * min 4 (e - y) := by
    have := Int.mul_le_mul_of_nonneg_right (show x + 1 ≤ w by omega) (show 0 ≤ min 4 (e - y) by omega)
    rw [Int.add_mul, Int.one_mul] at this
    exact this
  have h2 : w * min y e + w * min 4 (e - y) ≤ w * e := by
    rw [← Int.mul_add]
    exact Int.mul_le_mul_of_nonneg_left (by omega) (by omega)
  omega
theorem VS {w e y : Int} (hy : y = 0 ∨ y = 4) (he : y < e ∧ e ≤ 8) : w * min (y + 4) e = w * min y e + w * min 4 (e - y) := by
  rw [← Int.mul_add]
  congr 1
  omega
theorem VP {p n A : Int} (h : p < n) (hA : 0 ≤ A) : p * A + A ≤ n * A := by
  have := Int.mul_le_mul_of_nonneg_right (show p + 1 ≤ n by omega) hA
  rw [Int.add_mul, Int.one_mul] at this
  exact this
set_option maxRecDepth 20000 in
theorem s_X12_walk_73 (b n : Int) (h : Hp_) (hT : TY h) (hb : 0 ≤ b ∧ b ≤ 19) (hn : -2147483648 ≤ n ∧ n ≤ 2147483647) (htb : TBL (h 74) (h 75)) (ha : 32768 ≤ (h 73 32) ∧ (h 73 32) < 65536) (hw2 : (h 73 29) = 1 → 10 ≤ b) (hm : (h 73 29) = 0 → 0 ≤ n ∧ 1 ≤ (h 73 34) ∧ 1 ≤ (h 73 36) ∧ 7 * (h 73 36) - (h 73 34) + PhS (h 96) + 27 * ((h 80) b * (h 81) b) + 9 * (n * ((h 80) b * (h 81) b)) + 108 ≤ 22300) : Ctr yX12_walk cX12_walk 7 none (rmd 8) ly ly 0 0 [vR 73, vI b, vI n] h (fun r h' => (TY h' ∧ FRM [73, 84, 85, 93, 94, 95, 96, 97, 98] [26, 27, 28, 32, 33, 34, 36, 39] h h') ∧ r = none ∧ (32768 ≤ (h' 73 32) ∧ (h' 73 32) < 65536) ∧ ((h 73 29) = 0 → 1 ≤ (h' 73 34) ∧ 1 ≤ (h' 73 36) ∧ 7 * (h' 73 36) - (h' 73 34) + PhS (h' 96) ≤ 7 * (h 73 36) - (h 73 34) + PhS (h 96) + 27 * ((h 80) b * (h 81) b) + 9 * (n * ((h 80) b * (h 81) b)))) := by
  refine Ctr_of (by decide) (Nat.le_of_ble_eq_true rfl) ⟨Nat.le_refl _, Nat.le_refl _⟩ (fun K hK hQ _ => ?_)
  show TT K ly 0 0 0 [(0, vR 73), (1, vI b), (2, vI n)] [] h
  have hF : FRM [73, 84, 85, 93, 94, 95, 96, 97, 98] [26, 27, 28, 32, 33, 34, 36, 39] h h := FRM_rf _ _ _
  have rw0 := ty_80 (i := b) (v := h 80 b) hT rfl (by omega) (by omega)
  have re0 := ty_81 (i := b) (v := h 81 b) hT rfl (by omega) (by omega)
  have ra0 : 0 ≤ h 80 b * h 81 b := Int.mul_nonneg rw0.1 re0.1
  refine TT_aload_n hK rfl 0 rfl dX12_walk_0 ?_
  refine TT_iload_n hK rfl 1 rfl dX12_walk_1 ?_
  refine pf_X12_246 hK (by decide) rfl dX12_walk_2 ?_
  refine TT_hp (h' := setO h 73 (fup (h 73) 26 b)) (up_can rfl rfl rfl) ?_
  have hT_1 : TY (setO h 73 (fup (h 73) 26 b)) := tu_73_26 hT (show up h 73 26 b = (setO h 73 (fup (h 73) 26 b)) from up_can rfl rfl rfl) (by omega)
  have hF_1 : FRM [73, 84, 85, 93, 94, 95, 96, 97, 98] [26, 27, 28, 32, 33, 34, 36, 39] h (setO h 73 (fup (h 73) 26 b)) := FRM_f (show up h 73 26 b = (setO h 73 (fup (h 73) 26 b)) from up_can rfl rfl rfl) hF (by decide) (by decide)
  refine TT_iconst hK dX12_walk_5 ?_
  refine TT_istore_n hK rfl (lv' := [(3, vI 0), (0, vR 73), (1, vI b), (2, vI n)]) (by decide) rfl dX12_walk_6 ?_
  have L7_2 : ∀ (k2 : Nat) (i : Int) (w7_2 : Hp_), TY w7_2 → FRM [73, 84, 85, 93, 94, 95, 96, 97, 98] [26, 27, 28, 32, 33, 34, 36, 39] h w7_2 → (0 ≤ i ∧ i ≤ 100) → (∀ j : Int, 0 ≤ j → j < i → (w7_2 93) j = 0) → ((w7_2 73 26) = b) → (PhS (w7_2 96) = PhS (h 96)) → ((w7_2 73 34) = h 73 34) → ((w7_2 73 36) = h 73 36) → ((w7_2 73 32) = h 73 32) → ((100 : Int) - i).toNat < k2 → TT K ly 0 0 7 [(0, vR 73), (1, vI b), (2, vI n), (3, vI i)] [] w7_2 := by
    intro k2
    induction k2 with
    | zero => intro i w7_2 hT7_2 hF7_2 hi hz1 kw k96 k34 k36 k32 hk2; exact absurd hk2 (Nat.not_lt_zero _)
    | succ k2 ih2 =>
      intro i w7_2 hT7_2 hF7_2 hi hz1 kw k96 k34 k36 k32 hk2
      refine TT_iload_n hK rfl 3 rfl dX12_walk_7 ?_
      refine TT_bipush hK (by decide) dX12_walk_8 ?_
      refine TT_icmp_ge hK (tgt := 26) (irm (by omega) (by omega)) (by decide) dX12_walk_10 (by decide) (fun hb10_3 => ?_) (fun hb10_3 => ?_)
      · refine TT_iconst hK dX12_walk_26 ?_
        refine TT_istore_n hK rfl (lv' := [(3, vI 0), (0, vR 73), (1, vI b), (2, vI n)]) (by decide) rfl dX12_walk_27 ?_
        have L28_4 : ∀ (k4 : Nat) (i2 : Int) (w28_4 : Hp_), TY w28_4 → FRM [73, 84, 85, 93, 94, 95, 96, 97, 98] [26, 27, 28, 32, 33, 34, 36, 39] h w28_4 → (0 ≤ i2 ∧ i2 ≤ 64) → (∀ j : Int, 0 ≤ j → j < 100 → (w28_4 93) j = 0) → ((w28_4 73 26) = b) → (PhS (w28_4 96) = PhS (h 96)) → ((w28_4 73 34) = h 73 34) → ((w28_4 73 36) = h 73 36) → ((w28_4 73 32) = h 73 32) → ((64 : Int) - i2).toNat < k4 → TT K ly 0 0 28 [(0, vR 73), (1, vI b), (2, vI n), (3, vI i2)] [] w28_4 := by
          intro k4
          induction k4 with
          | zero => intro i2 w28_4 hT28_4 hF28_4 hi2 hz2 kw k96 k34 k36 k32 hk4; exact absurd hk4 (Nat.not_lt_zero _)
          | succ k4 ih4 =>
            intro i2 w28_4 hT28_4 hF28_4 hi2 hz2 kw k96 k34 k36 k32 hk4
            refine TT_iload_n hK rfl 3 rfl dX12_walk_28 ?_
            refine TT_bipush hK (by decide) dX12_walk_29 ?_
            refine TT_icmp_ge hK (tgt := 47) (irm (by omega) (by omega)) (by decide) dX12_walk_31 (by decide) (fun hb31_5 => ?_) (fun hb31_5 => ?_)
            · refine TT_aload_n hK rfl 0 rfl dX12_walk_47 ?_
              refine TT_aload_n hK rfl 0 rfl dX12_walk_48 ?_
              refine gf_X12_44 hK (by decide) rfl (q := 83) rfl rfl dX12_walk_49 ?_
              refine TT_iload_n hK rfl 1 rfl dX12_walk_52 ?_
              refine TT_iald hK (o := 83) (n := 20) (by decide) rfl (by first | omega | (simp [up, setR] <;> omega)) (by first | omega | (simp [up, setR] <;> omega)) (v := (h 83) b) (rd_ (hF28_4.1 83 (by decide)) rfl) dX12_walk_53 ?_
              have r6 := ty_83 (i := b) (v := (h 83) b) hT28_4 (rd_ (hF28_4.1 83 (by decide)) rfl) (by omega) (by omega)
              refine TT_iconst hK dX12_walk_54 ?_
              refine TT_isub hK dX12_walk_55 ?_
              refine pf_X12_252 hK (by decide) rfl dX12_walk_56 ?_
              refine TT_hp (h' := setO w28_4 73 (fup (w28_4 73) 27 (((h 83) b) - 1))) (up_can rfl rfl rfl) ?_
              have hT_7 : TY (setO w28_4 73 (fup (w28_4 73) 27 (((h 83) b) - 1))) := tu_73_27 hT28_4 (show up w28_4 73 27 (((h 83) b) - 1) = (setO w28_4 73 (fup (w28_4 73) 27 (((h 83) b) - 1))) from up_can rfl rfl rfl) (by omega)
              have hF_7 : FRM [73, 84, 85, 93, 94, 95, 96, 97, 98] [26, 27, 28, 32, 33, 34, 36, 39] h (setO w28_4 73 (fup (w28_4 73) 27 (((h 83) b) - 1))) := FRM_f (show up w28_4 73 27 (((h 83) b) - 1) = (setO w28_4 73 (fup (w28_4 73) 27 (((h 83) b) - 1))) from up_can rfl rfl rfl) hF28_4 (by decide) (by decide)
              refine TT_iconst hK dX12_walk_59 ?_
              refine TT_istore_n hK rfl (lv' := [(3, vI 2), (0, vR 73), (1, vI b), (2, vI n)]) (by decide) rfl dX12_walk_60 ?_
              refine TT_iconst hK dX12_walk_61 ?_
              refine TT_istore hK (lv' := [(4, vI 0), (3, vI 2), (0, vR 73), (1, vI b), (2, vI n)]) (by decide) rfl dX12_walk_62 ?_
              have L64_8 : ∀ (k8 : Nat) (q : Int) (p : Int) (w64_8 : Hp_), TY w64_8 → FRM [73, 84, 85, 93, 94, 95, 96, 97, 98] [26, 27, 28, 32, 33, 34, 36, 39] h w64_8 → (0 ≤ q ∧ q ≤ 2) → (0 ≤ p ∧ (p ≤ n ∨ p = 0)) → (32768 ≤ (w64_8 73 32) ∧ (w64_8 73 32) < 65536) → ((w64_8 73 26) = b) → (h 73 29 = 0 → 1 ≤ (w64_8 73 34) ∧ 1 ≤ (w64_8 73 36) ∧ 7 * (w64_8 73 36) - (w64_8 73 34) + PhS (w64_8 96) + 27 * ZC (h 80 b) (h 81 b) (w64_8 93) ≤ 7 * (h 73 36) - (h 73 34) + PhS (h 96) + 27 * (h 80 b * h 81 b) + 9 * (p * (h 80 b * h 81 b))) → (n - p).toNat < k8 → TT K ly 0 0 64 [(0, vR 73), (1, vI b), (2, vI n), (3, vI q), (4, vI p)] [] w64_8 := by
                intro k8
                induction k8 with
                | zero => intro q p w64_8 hT64_8 hF64_8 hq hp ha1 kw hv hk8; exact absurd hk8 (Nat.not_lt_zero _)
                | succ k8 ih8 =>
                  intro q p w64_8 hT64_8 hF64_8 hq hp ha1 kw hv hk8
                  refine TT_iload hK 4 rfl dX12_walk_64 ?_
                  refine TT_iload_n hK rfl 2 rfl dX12_walk_66 ?_
                  refine TT_icmp_ge hK (tgt := 193) (irm (by omega) (by omega)) (irm (by omega) (by omega)) dX12_walk_67 (by decide) (fun hb67_9 => ?_) (fun hb67_9 => ?_)
                  · refine TT_vret hK hQ ?_ dX12_walk_193
                    have e10_73_32 : w64_8 73 32 = (w64_8 73) 32 := rfl
                    have e11_73_34 : w64_8 73 34 = (w64_8 73) 34 := rfl
                    have e12_73_36 : w64_8 73 36 = (w64_8 73) 36 := rfl
                    exact ⟨⟨hT64_8, hF64_8⟩, rfl, (by rewrite [e10_73_32]; omega), (by rewrite [e11_73_34, e12_73_36]; intro h5; have hv5 := hv h5; rw [show p = n by omega] at hv5; have z9 := ZC_nn (h 80 b) (h 81 b) (w64_8 93); omega)⟩
                  · refine TT_iconst hK dX12_walk_70 ?_
                    refine TT_istore hK (lv' := [(5, vI 0), (0, vR 73), (1, vI b), (2, vI n), (3, vI q), (4, vI p)]) (by decide) rfl dX12_walk_71 ?_
                    have L73_13 : ∀ (k13 : Nat) (k : Int) (w73_13 : Hp_), TY w73_13 → FRM [73, 84, 85, 93, 94, 95, 96, 97, 98] [26, 27, 28, 32, 33, 34, 36, 39] h w73_13 → (0 ≤ k ∧ k ≤ 64) → (32768 ≤ (w73_13 73 32) ∧ (w73_13 73 32) < 65536) → ((w73_13 73 26) = b) → (h 73 29 = 0 → 1 ≤ (w73_13 73 34) ∧ 1 ≤ (w73_13 73 36) ∧ 7 * (w73_13 73 36) - (w73_13 73 34) + PhS (w73_13 96) + 27 * ZC (h 80 b) (h 81 b) (w73_13 93) ≤ 7 * (h 73 36) - (h 73 34) + PhS (h 96) + 27 * (h 80 b * h 81 b) + 9 * (p * (h 80 b * h 81 b))) → ((64 : Int) - k).toNat < k13 → TT K ly 0 0 73 [(0, vR 73), (1, vI b), (2, vI n), (3, vI q), (4, vI p), (5, vI k)] [] w73_13 := by
                      intro k13
                      induction k13 with
                      | zero => intro k w73_13 hT73_13 hF73_13 hk ha1 kw hv hk13; exact absurd hk13 (Nat.not_lt_zero _)
                      | succ k13 ih13 =>
                        intro k w73_13 hT73_13 hF73_13 hk ha1 kw hv hk13
                        have J103_14 : TT K ly 0 0 103 [(0, vR 73), (1, vI b), (2, vI n), (3, vI q), (4, vI p)] [] w73_13 := by
                          refine TT_iconst hK dX12_walk_103 ?_
                          refine TT_istore hK (lv' := [(5, vI 0), (0, vR 73), (1, vI b), (2, vI n), (3, vI q), (4, vI p)]) (by decide) rfl dX12_walk_104 ?_
                          have L106_15 : ∀ (k15 : Nat) (y : Int) (w106_15 : Hp_), TY w106_15 → FRM [73, 84, 85, 93, 94, 95, 96, 97, 98] [26, 27, 28, 32, 33, 34, 36, 39] h w106_15 → (y = 0 ∨ y = 4 ∨ y = 8) → (32768 ≤ (w106_15 73 32) ∧ (w106_15 73 32) < 65536) → ((w106_15 73 26) = b) → (h 73 29 = 0 → 1 ≤ (w106_15 73 34) ∧ 1 ≤ (w106_15 73 36) ∧ 7 * (w106_15 73 36) - (w106_15 73 34) + PhS (w106_15 96) + 27 * ZC (h 80 b) (h 81 b) (w106_15 93) ≤ 7 * (h 73 36) - (h 73 34) + PhS (h 96) + 27 * (h 80 b * h 81 b) + 9 * (p * (h 80 b * h 81 b)) + 9 * (h 80 b * min y (h 81 b))) → ((8 : Int) - y).toNat < k15 → TT K ly 0 0 106 [(0, vR 73), (1, vI b), (2, vI n), (3, vI q), (4, vI p), (5, vI y)] [] w106_15 := by
                            intro k15
                            induction k15 with
                            | zero => intro y w106_15 hT106_15 hF106_15 hy ha1 kw hv hk15; exact absurd hk15 (Nat.not_lt_zero _)
                            | succ k15 ih15 =>
                              intro y w106_15 hT106_15 hF106_15 hy ha1 kw hv hk15
                              refine TT_iload hK 5 rfl dX12_walk_106 ?_
                              refine TT_aload_n hK rfl 0 rfl dX12_walk_108 ?_
                              refine gf_X12_38 hK (by decide) rfl (q := 81) rfl rfl dX12_walk_109 ?_
                              refine TT_iload_n hK rfl 1 rfl dX12_walk_112 ?_
                              refine TT_iald hK (o := 81) (n := 20) (by decide) rfl (by first | omega | (simp [up, setR] <;> omega)) (by first | omega | (simp [up, setR] <;> omega)) (v := (h 81) b) (rd_ (hF106_15.1 81 (by decide)) rfl) dX12_walk_113 ?_
                              have r16 := ty_81 (i := b) (v := (h 81) b) hT106_15 (rd_ (hF106_15.1 81 (by decide)) rfl) (by omega) (by omega)
                              refine TT_icmp_ge hK (tgt := 152) (irm (by omega) (by omega)) (irm (by omega) (by omega)) dX12_walk_114 (by decide) (fun hb114_17 => ?_) (fun hb114_17 => ?_)
                              · refine TT_aload_n hK rfl 0 rfl dX12_walk_152 ?_
                                refine TT_iload_n hK rfl 3 rfl dX12_walk_153 ?_
                                refine TT_iconst hK dX12_walk_154 ?_
                                refine TT_icmp_ne hK (tgt := 167) (irm (by omega) (by omega)) (by decide) dX12_walk_155 (by decide) (fun hb155_18 => ?_) (fun hb155_18 => ?_)
                                · refine TT_aload_n hK rfl 0 rfl dX12_walk_167 ?_
                                  refine gf_X12_252 hK (by decide) rfl (v := (w106_15 73) 27) rfl dX12_walk_168 ?_
                                  have r19 := ty_73_27 (v := (w106_15 73) 27) hT106_15 rfl
                                  refine pf_X12_252 hK (by decide) rfl dX12_walk_171 ?_
                                  refine TT_hp (h' := setO w106_15 73 (fup (w106_15 73) 27 ((w106_15 73) 27))) (up_can rfl rfl rfl) ?_
                                  have hT_20 : TY (setO w106_15 73 (fup (w106_15 73) 27 ((w106_15 73) 27))) := tu_73_27 hT106_15 (show up w106_15 73 27 ((w106_15 73) 27) = (setO w106_15 73 (fup (w106_15 73) 27 ((w106_15 73) 27))) from up_can rfl rfl rfl) (by omega)
                                  have hF_20 : FRM [73, 84, 85, 93, 94, 95, 96, 97, 98] [26, 27, 28, 32, 33, 34, 36, 39] h (setO w106_15 73 (fup (w106_15 73) 27 ((w106_15 73) 27))) := FRM_f (show up w106_15 73 27 ((w106_15 73) 27) = (setO w106_15 73 (fup (w106_15 73) 27 ((w106_15 73) 27))) from up_can rfl rfl rfl) hF106_15 (by decide) (by decide)
                                  refine TT_iload_n hK rfl 3 rfl dX12_walk_174 ?_
                                  refine TT_iconst hK dX12_walk_175 ?_
                                  refine TT_icmp_ne hK (tgt := 183) (irm (by omega) (by omega)) (by decide) dX12_walk_176 (by decide) (fun hb176_21 => ?_) (fun hb176_21 => ?_)
                                  · refine TT_iload_n hK rfl 3 rfl dX12_walk_183 ?_
                                    refine TT_iconst hK dX12_walk_184 ?_
                                    refine TT_iadd hK dX12_walk_185 ?_
                                    refine TT_istore_n hK rfl (lv' := [(3, vI (q + 1)), (0, vR 73), (1, vI b), (2, vI n), (4, vI p), (5, vI y)]) (by decide) rfl dX12_walk_186 ?_
                                    refine TT_iinc hK (v := p + 1) (lv' := [(4, vI (p + 1)), (3, vI (q + 1)), (0, vR 73), (1, vI b), (2, vI n), (5, vI y)]) 4 rfl rfl (by decide) rfl dX12_walk_187 ?_
                                    refine TT_goto hK (tgt := 64) dX12_walk_190 (by decide) ?_
                                    refine TT_sub [2, 3, 4, 1, 0] rfl ?_
                                    have e22_73_32 : (setO w106_15 73 (fup (w106_15 73) 27 ((w106_15 73) 27))) 73 32 = (w106_15 73) 32 := rd_ (sOf_eq _ _ _) (fup_ne _ _ (by decide))
                                    have e23_73_26 : (setO w106_15 73 (fup (w106_15 73) 27 ((w106_15 73) 27))) 73 26 = (w106_15 73) 26 := rd_ (sOf_eq _ _ _) (fup_ne _ _ (by decide))
                                    have e24_73_34 : (setO w106_15 73 (fup (w106_15 73) 27 ((w106_15 73) 27))) 73 34 = (w106_15 73) 34 := rd_ (sOf_eq _ _ _) (fup_ne _ _ (by decide))
                                    have e25_73_36 : (setO w106_15 73 (fup (w106_15 73) 27 ((w106_15 73) 27))) 73 36 = (w106_15 73) 36 := rd_ (sOf_eq _ _ _) (fup_ne _ _ (by decide))
                                    have e26_93 : (setO w106_15 73 (fup (w106_15 73) 27 ((w106_15 73) 27))) 93 = w106_15 93 := sOf_ne _ _ (by decide)
                                    have e27_96 : (setO w106_15 73 (fup (w106_15 73) 27 ((w106_15 73) 27))) 96 = w106_15 96 := sOf_ne _ _ (by decide)
                                    have v5 : h 80 b * min y (h 81 b) = h 80 b * h 81 b := by rw [show min y (h 81 b) = h 81 b by omega]
                                    have v6 := Int.add_mul p 1 (h 80 b * h 81 b)
                                    exact ih8 (q + 1) (p + 1) (setO w106_15 73 (fup (w106_15 73) 27 ((w106_15 73) 27))) hT_20 hF_20 (by first | omega | (simp [up, setR] <;> omega)) (by first | omega | (simp [up, setR] <;> omega)) (by rewrite [e22_73_32]; first | omega | (simp [up, setR] <;> omega)) (by rewrite [e23_73_26]; first | omega | (simp [up, setR] <;> omega)) (by rewrite [e24_73_34, e25_73_36, e26_93, e27_96]; first | omega | (simp [up, setR] <;> omega)) (by first | omega | (simp [up, setR] <;> omega))
                                  · exfalso; omega
                                · refine TT_aload_n hK rfl 0 rfl dX12_walk_158 ?_
                                  refine gf_X12_252 hK (by decide) rfl (v := (w106_15 73) 27) rfl dX12_walk_159 ?_
                                  have r28 := ty_73_27 (v := (w106_15 73) 27) hT106_15 rfl
                                  refine TT_iconst hK dX12_walk_162 ?_
                                  refine TT_isub hK dX12_walk_163 ?_
                                  refine TT_w32 (fun x164_29 hx29 => ?_)
                                  refine TT_goto hK (tgt := 171) dX12_walk_164 (by decide) ?_
                                  refine pf_X12_252 hK (by decide) rfl dX12_walk_171 ?_
                                  refine TT_hp (h' := setO w106_15 73 (fup (w106_15 73) 27 x164_29)) (up_can rfl rfl rfl) ?_
                                  have hT_30 : TY (setO w106_15 73 (fup (w106_15 73) 27 x164_29)) := tu_73_27 hT106_15 (show up w106_15 73 27 x164_29 = (setO w106_15 73 (fup (w106_15 73) 27 x164_29)) from up_can rfl rfl rfl) (by omega)
                                  have hF_30 : FRM [73, 84, 85, 93, 94, 95, 96, 97, 98] [26, 27, 28, 32, 33, 34, 36, 39] h (setO w106_15 73 (fup (w106_15 73) 27 x164_29)) := FRM_f (show up w106_15 73 27 x164_29 = (setO w106_15 73 (fup (w106_15 73) 27 x164_29)) from up_can rfl rfl rfl) hF106_15 (by decide) (by decide)
                                  refine TT_iload_n hK rfl 3 rfl dX12_walk_174 ?_
                                  refine TT_iconst hK dX12_walk_175 ?_
                                  refine TT_icmp_ne hK (tgt := 183) (irm (by omega) (by omega)) (by decide) dX12_walk_176 (by decide) (fun hb176_31 => ?_) (fun hb176_31 => ?_)
                                  · exfalso; omega
                                  · refine TT_iconst hK dX12_walk_179 ?_
                                    refine TT_goto hK (tgt := 186) dX12_walk_180 (by decide) ?_
                                    refine TT_istore_n hK rfl (lv' := [(3, vI 0), (0, vR 73), (1, vI b), (2, vI n), (4, vI p), (5, vI y)]) (by decide) rfl dX12_walk_186 ?_
                                    refine TT_iinc hK (v := p + 1) (lv' := [(4, vI (p + 1)), (3, vI 0), (0, vR 73), (1, vI b), (2, vI n), (5, vI y)]) 4 rfl rfl (by decide) rfl dX12_walk_187 ?_
                                    refine TT_goto hK (tgt := 64) dX12_walk_190 (by decide) ?_
                                    refine TT_sub [2, 3, 4, 1, 0] rfl ?_
                                    have e32_73_32 : (setO w106_15 73 (fup (w106_15 73) 27 x164_29)) 73 32 = (w106_15 73) 32 := rd_ (sOf_eq _ _ _) (fup_ne _ _ (by decide))
                                    have e33_73_26 : (setO w106_15 73 (fup (w106_15 73) 27 x164_29)) 73 26 = (w106_15 73) 26 := rd_ (sOf_eq _ _ _) (fup_ne _ _ (by decide))
                                    have e34_73_34 : (setO w106_15 73 (fup (w106_15 73) 27 x164_29)) 73 34 = (w106_15 73) 34 := rd_ (sOf_eq _ _ _) (fup_ne _ _ (by decide))
                                    have e35_73_36 : (setO w106_15 73 (fup (w106_15 73) 27 x164_29)) 73 36 = (w106_15 73) 36 := rd_ (sOf_eq _ _ _) (fup_ne _ _ (by decide))
                                    have e36_93 : (setO w106_15 73 (fup (w106_15 73) 27 x164_29)) 93 = w106_15 93 := sOf_ne _ _ (by decide)
                                    have e37_96 : (setO w106_15 73 (fup (w106_15 73) 27 x164_29)) 96 = w106_15 96 := sOf_ne _ _ (by decide)
                                    have v5 : h 80 b * min y (h 81 b) = h 80 b * h 81 b := by rw [show min y (h 81 b) = h 81 b by omega]
                                    have v6 := Int.add_mul p 1 (h 80 b * h 81 b)
                                    exact ih8 0 (p + 1) (setO w106_15 73 (fup (w106_15 73) 27 x164_29)) hT_30 hF_30 (by first | omega | (simp [up, setR] <;> omega)) (by first | omega | (simp [up, setR] <;> omega)) (by rewrite [e32_73_32]; first | omega | (simp [up, setR] <;> omega)) (by rewrite [e33_73_26]; first | omega | (simp [up, setR] <;> omega)) (by rewrite [e34_73_34, e35_73_36, e36_93, e37_96]; first | omega | (simp [up, setR] <;> omega)) (by first | omega | (simp [up, setR] <;> omega))
                              · refine TT_iconst hK dX12_walk_117 ?_
                                refine TT_istore hK (lv' := [(6, vI 0), (0, vR 73), (1, vI b), (2, vI n), (3, vI q), (4, vI p), (5, vI y)]) (by decide) rfl dX12_walk_118 ?_
                                have L120_38 : ∀ (k38 : Nat) (x : Int) (w120_38 : Hp_), TY w120_38 → FRM [73, 84, 85, 93, 94, 95, 96, 97, 98] [26, 27, 28, 32, 33, 34, 36, 39] h w120_38 → (0 ≤ x ∧ x ≤ h 80 b) → (32768 ≤ (w120_38 73 32) ∧ (w120_38 73 32) < 65536) → ((w120_38 73 26) = b) → (h 73 29 = 0 → 1 ≤ (w120_38 73 34) ∧ 1 ≤ (w120_38 73 36) ∧ 7 * (w120_38 73 36) - (w120_38 73 34) + PhS (w120_38 96) + 27 * ZC (h 80 b) (h 81 b) (w120_38 93) ≤ 7 * (h 73 36) - (h 73 34) + PhS (h 96) + 27 * (h 80 b * h 81 b) + 9 * (p * (h 80 b * h 81 b)) + 9 * (h 80 b * min y (h 81 b)) + 9 * (x * min 4 (h 81 b - y))) → ((8 : Int) - x).toNat < k38 → TT K ly 0 0 120 [(0, vR 73), (1, vI b), (2, vI n), (3, vI q), (4, vI p), (5, vI y), (6, vI x)] [] w120_38 := by
                                  intro k38
                                  induction k38 with
                                  | zero => intro x w120_38 hT120_38 hF120_38 hx ha1 kw hv hk38; exact absurd hk38 (Nat.not_lt_zero _)
                                  | succ k38 ih38 =>
                                    intro x w120_38 hT120_38 hF120_38 hx ha1 kw hv hk38
                                    refine TT_iload hK 6 rfl dX12_walk_120 ?_
                                    refine TT_aload_n hK rfl 0 rfl dX12_walk_122 ?_
                                    refine gf_X12_35 hK (by decide) rfl (q := 80) rfl rfl dX12_walk_123 ?_
                                    refine TT_iload_n hK rfl 1 rfl dX12_walk_126 ?_
                                    refine TT_iald hK (o := 80) (n := 20) (by decide) rfl (by first | omega | (simp [up, setR] <;> omega)) (by first | omega | (simp [up, setR] <;> omega)) (v := (h 80) b) (rd_ (hF120_38.1 80 (by decide)) rfl) dX12_walk_127 ?_
                                    have r39 := ty_80 (i := b) (v := (h 80) b) hT120_38 (rd_ (hF120_38.1 80 (by decide)) rfl) (by omega) (by omega)
                                    refine TT_icmp_ge hK (tgt := 146) (irm (by omega) (by omega)) (irm (by omega) (by omega)) dX12_walk_128 (by decide) (fun hb128_40 => ?_) (fun hb128_40 => ?_)
                                    · refine TT_iinc hK (v := y + 4) (lv' := [(5, vI (y + 4)), (0, vR 73), (1, vI b), (2, vI n), (3, vI q), (4, vI p), (6, vI x)]) 5 rfl rfl (by decide) rfl dX12_walk_146 ?_
                                      refine TT_goto hK (tgt := 106) dX12_walk_149 (by decide) ?_
                                      refine TT_sub [1, 2, 3, 4, 5, 0] rfl ?_
                                      have e41_73_32 : w120_38 73 32 = (w120_38 73) 32 := rfl
                                      have e42_73_26 : w120_38 73 26 = (w120_38 73) 26 := rfl
                                      have e43_73_34 : w120_38 73 34 = (w120_38 73) 34 := rfl
                                      have e44_73_36 : w120_38 73 36 = (w120_38 73) 36 := rfl
                                      have v4 : x * min 4 (h 81 b - y) = h 80 b * min 4 (h 81 b - y) := by rw [show x = h 80 b by omega]
                                      have v8 := VS (w := h 80 b) (e := h 81 b) (y := y) (by omega) (by omega)
                                      exact ih15 (y + 4) w120_38 hT120_38 hF120_38 (by first | omega | (simp [up, setR] <;> omega)) (by rewrite [e41_73_32]; first | omega | (simp [up, setR] <;> omega)) (by rewrite [e42_73_26]; first | omega | (simp [up, setR] <;> omega)) (by rewrite [e43_73_34, e44_73_36]; first | omega | (simp [up, setR] <;> omega)) (by first | omega | (simp [up, setR] <;> omega))
                                    · refine TT_aload_n hK rfl 0 rfl dX12_walk_131 ?_
                                      refine TT_iload_n hK rfl 3 rfl dX12_walk_132 ?_
                                      refine TT_iload hK 6 rfl dX12_walk_133 ?_
                                      refine TT_iload hK 5 rfl dX12_walk_135 ?_
                                      have e45_73_26 : w120_38 73 26 = (w120_38 73) 26 := rfl
                                      have e46_80 : w120_38 80 = h 80 := (hF120_38.1 80 (by decide))
                                      have e47_73_26 : w120_38 73 26 = (w120_38 73) 26 := rfl
                                      have e48_81 : w120_38 81 = h 81 := (hF120_38.1 81 (by decide))
                                      have e49_73_26 : w120_38 73 26 = (w120_38 73) 26 := rfl
                                      have e50_80 : w120_38 80 = h 80 := (hF120_38.1 80 (by decide))
                                      have e51_73_26 : w120_38 73 26 = (w120_38 73) 26 := rfl
                                      have e52_81 : w120_38 81 = h 81 := (hF120_38.1 81 (by decide))
                                      have e53_74 : w120_38 74 = h 74 := (hF120_38.1 74 (by decide))
                                      have e54_75 : w120_38 75 = h 75 := (hF120_38.1 75 (by decide))
                                      have e55_73_32 : w120_38 73 32 = (w120_38 73) 32 := rfl
                                      have e56_73_26 : w120_38 73 26 = (w120_38 73) 26 := rfl
                                      have e57_73_29 : w120_38 73 29 = (h 73) 29 := (hF120_38.2 29 (by decide))
                                      have e58_73_34 : w120_38 73 34 = (w120_38 73) 34 := rfl
                                      have e59_73_36 : w120_38 73 36 = (w120_38 73) 36 := rfl
                                      have e60_80 : w120_38 80 = h 80 := (hF120_38.1 80 (by decide))
                                      have e61_81 : w120_38 81 = h 81 := (hF120_38.1 81 (by decide))
                                      have e62_73_26 : w120_38 73 26 = (w120_38 73) 26 := rfl
                                      have e63_73_29 : w120_38 73 29 = (h 73) 29 := (hF120_38.2 29 (by decide))
                                      refine iv_X12_286 hK (s_X12_column_73 q x y w120_38 hT120_38 (by first | omega | (simp [up, setR] <;> omega)) (by first | omega | (simp [up, setR] <;> omega)) (by first | omega | (simp [up, setR] <;> omega)) (by rewrite [e45_73_26, e46_80]; rw [kw]; omega) (by rewrite [e47_73_26, e48_81]; rw [kw]; omega) (by rewrite [e49_73_26, e50_80]; rw [kw]; omega) (by rewrite [e51_73_26, e52_81]; rw [kw]; omega) (by rewrite [e53_74, e54_75]; first | assumption | exact htb) (by rewrite [e55_73_32]; first | omega | (simp [up, setR] <;> omega)) (by rewrite [e56_73_26, e57_73_29, e58_73_34, e59_73_36, e60_80, e61_81]; rw [kw]; have v1 := VB (w := h 80 b) (e := h 81 b) (x := x) (y := y) (by omega) (by omega) (by omega); have v2 := VP (p := p) (n := n) (A := (h 80 b * h 81 b)) (by omega) ra0; omega) (by rewrite [e62_73_26, e63_73_29]; rw [kw]; omega)) (by decide) rfl ⟨by decide, by decide⟩ (by decide) rfl rfl (Nat.le_of_ble_eq_true rfl) ⟨by decide, by decide⟩ dX12_walk_137 ?_
                                      intro r9 g137_64 hp9
                                      obtain ⟨⟨hT_64, hG_64⟩, hr9, pa_64, pm_64⟩ := hp9
                                      rw [hr9]
                                      have hF_64 : FRM [73, 84, 85, 93, 94, 95, 96, 97, 98] [26, 27, 28, 32, 33, 34, 36, 39] h g137_64 := FRM_tr hF120_38 hG_64 (by decide) (by decide)
                                      rw [show w120_38 73 26 = (w120_38 73) 26 from rfl] at pm_64
                                      rw [show w120_38 73 29 = (h 73) 29 from (hF120_38.2 29 (by decide))] at pm_64
                                      rw [show w120_38 73 34 = (w120_38 73) 34 from rfl] at pm_64
                                      rw [show w120_38 73 36 = (w120_38 73) 36 from rfl] at pm_64
                                      rw [show w120_38 80 = h 80 from (hF120_38.1 80 (by decide))] at pm_64
                                      rw [show w120_38 81 = h 81 from (hF120_38.1 81 (by decide))] at pm_64
                                      have pm_at137 := pm_64
                                      show TT K ly 0 0 140 [(0, vR 73), (1, vI b), (2, vI n), (3, vI q), (4, vI p), (5, vI y), (6, vI x)] [] g137_64
                                      refine TT_iinc hK (v := x + 1) (lv' := [(6, vI (x + 1)), (0, vR 73), (1, vI b), (2, vI n), (3, vI q), (4, vI p), (5, vI y)]) 6 rfl rfl (by decide) rfl dX12_walk_140 ?_
                                      refine TT_goto hK (tgt := 120) dX12_walk_143 (by decide) ?_
                                      refine TT_sub [1, 2, 3, 4, 5, 6, 0] rfl ?_
                                      have e65_73_32 : g137_64 73 32 = (g137_64 73) 32 := rfl
                                      have e66_73_26 : g137_64 73 26 = (w120_38 73) 26 := (hG_64.2 26 (by decide))
                                      have e67_73_34 : g137_64 73 34 = (g137_64 73) 34 := rfl
                                      have e68_73_36 : g137_64 73 36 = (g137_64 73) 36 := rfl
                                      rw [kw] at pm_at137
                                      have v3 := Int.add_mul x 1 (min 4 (h 81 b - y))
                                      exact ih38 (x + 1) g137_64 hT_64 hF_64 (by first | omega | (simp [up, setR] <;> omega)) (by rewrite [e65_73_32]; first | omega | (simp [up, setR] <;> omega)) (by rewrite [e66_73_26]; first | omega | (simp [up, setR] <;> omega)) (by rewrite [e67_73_34, e68_73_36]; first | omega | (simp [up, setR] <;> omega)) (by first | omega | (simp [up, setR] <;> omega))
                                refine TT_sub [1, 2, 3, 4, 5, 6, 0] rfl ?_
                                have e69_73_32 : w106_15 73 32 = (w106_15 73) 32 := rfl
                                have e70_73_26 : w106_15 73 26 = (w106_15 73) 26 := rfl
                                have e71_73_34 : w106_15 73 34 = (w106_15 73) 34 := rfl
                                have e72_73_36 : w106_15 73 36 = (w106_15 73) 36 := rfl
                                exact L120_38 ((((8 : Int) - 0).toNat) + 1) 0 w106_15 hT106_15 hF106_15 (by first | omega | (simp [up, setR] <;> omega)) (by rewrite [e69_73_32]; first | omega | (simp [up, setR] <;> omega)) (by rewrite [e70_73_26]; first | omega | (simp [up, setR] <;> omega)) (by rewrite [e71_73_34, e72_73_36]; first | omega | (simp [up, setR] <;> omega)) (Nat.lt_succ_self _)
                          refine TT_sub [1, 2, 3, 4, 5, 0] rfl ?_
                          have e73_73_32 : w73_13 73 32 = (w73_13 73) 32 := rfl
                          have e74_73_26 : w73_13 73 26 = (w73_13 73) 26 := rfl
                          have e75_73_34 : w73_13 73 34 = (w73_13 73) 34 := rfl
                          have e76_73_36 : w73_13 73 36 = (w73_13 73) 36 := rfl
                          have v7 : h 80 b * min 0 (h 81 b) = 0 := by rw [show min 0 (h 81 b) = 0 by omega]; exact Int.mul_zero _
                          exact L106_15 ((((8 : Int) - 0).toNat) + 1) 0 w73_13 hT73_13 hF73_13 (by first | omega | (simp [up, setR] <;> omega)) (by rewrite [e73_73_32]; first | omega | (simp [up, setR] <;> omega)) (by rewrite [e74_73_26]; first | omega | (simp [up, setR] <;> omega)) (by rewrite [e75_73_34, e76_73_36]; first | omega | (simp [up, setR] <;> omega)) (Nat.lt_succ_self _)
                        refine TT_iload hK 5 rfl dX12_walk_73 ?_
                        refine TT_bipush hK (by decide) dX12_walk_75 ?_
                        refine TT_icmp_ge hK (tgt := 103) (irm (by omega) (by omega)) (by decide) dX12_walk_77 (by decide) (fun hb77_77 => ?_) (fun hb77_77 => ?_)
                        · refine TT_sub [0, 1, 2, 3, 4] rfl ?_
                          exact J103_14  
                        · refine TT_iload_n hK rfl 3 rfl dX12_walk_80 ?_
                          refine TT_if_eq hK (tgt := 89) (irm (by omega) (by omega)) dX12_walk_81 (by decide) (fun hb81_78 => ?_) (fun hb81_78 => ?_)
                          · refine TT_aload_n hK rfl 0 rfl dX12_walk_89 ?_
                            refine gf_X12_78 hK (by decide) rfl (q := 94) rfl rfl dX12_walk_90 ?_
                            refine TT_iload hK 5 rfl dX12_walk_93 ?_
                            refine TT_iconst hK dX12_walk_95 ?_
                            refine TT_zast hK (o := 94) (n := 64) (by decide) rfl (by omega) (by omega) (by first | decide | omega) dX12_walk_96 ?_
                            refine TT_hp (h' := setO w73_13 94 (fup (w73_13 94) k 0)) (up_can rfl rfl rfl) ?_
                            have hT_79 : TY (setO w73_13 94 (fup (w73_13 94) k 0)) := tu_94 hT73_13 (show up w73_13 94 k 0 = (setO w73_13 94 (fup (w73_13 94) k 0)) from up_can rfl rfl rfl) (by omega)
                            have hF_79 : FRM [73, 84, 85, 93, 94, 95, 96, 97, 98] [26, 27, 28, 32, 33, 34, 36, 39] h (setO w73_13 94 (fup (w73_13 94) k 0)) := FRM_up (show up w73_13 94 k 0 = (setO w73_13 94 (fup (w73_13 94) k 0)) from up_can rfl rfl rfl) hF73_13 (by decide) (by decide)
                            refine TT_iinc hK (v := k + 1) (lv' := [(5, vI (k + 1)), (0, vR 73), (1, vI b), (2, vI n), (3, vI q), (4, vI p)]) 5 rfl rfl (by decide) rfl dX12_walk_97 ?_
                            refine TT_goto hK (tgt := 73) dX12_walk_100 (by decide) ?_
                            refine TT_sub [1, 2, 3, 4, 5, 0] rfl ?_
                            have e80_73_32 : (setO w73_13 94 (fup (w73_13 94) k 0)) 73 32 = (w73_13 73) 32 := rd_ (sOf_ne _ _ (by decide)) rfl
                            have e81_73_26 : (setO w73_13 94 (fup (w73_13 94) k 0)) 73 26 = (w73_13 73) 26 := rd_ (sOf_ne _ _ (by decide)) rfl
                            have e82_73_34 : (setO w73_13 94 (fup (w73_13 94) k 0)) 73 34 = (w73_13 73) 34 := rd_ (sOf_ne _ _ (by decide)) rfl
                            have e83_73_36 : (setO w73_13 94 (fup (w73_13 94) k 0)) 73 36 = (w73_13 73) 36 := rd_ (sOf_ne _ _ (by decide)) rfl
                            have e84_93 : (setO w73_13 94 (fup (w73_13 94) k 0)) 93 = w73_13 93 := sOf_ne _ _ (by decide)
                            have e85_96 : (setO w73_13 94 (fup (w73_13 94) k 0)) 96 = w73_13 96 := sOf_ne _ _ (by decide)
                            exact ih13 (k + 1) (setO w73_13 94 (fup (w73_13 94) k 0)) hT_79 hF_79 (by first | omega | (simp [up, setR] <;> omega)) (by rewrite [e80_73_32]; first | omega | (simp [up, setR] <;> omega)) (by rewrite [e81_73_26]; first | omega | (simp [up, setR] <;> omega)) (by rewrite [e82_73_34, e83_73_36, e84_93, e85_96]; first | omega | (simp [up, setR] <;> omega)) (by first | omega | (simp [up, setR] <;> omega))
                          · refine TT_iload hK 4 rfl dX12_walk_84 ?_
                            refine TT_if_ne hK (tgt := 103) (irm (by omega) (by omega)) dX12_walk_86 (by decide) (fun hb86_86 => ?_) (fun hb86_86 => ?_)
                            · refine TT_sub [0, 1, 2, 3, 4] rfl ?_
                              exact J103_14  
                            · refine TT_aload_n hK rfl 0 rfl dX12_walk_89 ?_
                              refine gf_X12_78 hK (by decide) rfl (q := 94) rfl rfl dX12_walk_90 ?_
                              refine TT_iload hK 5 rfl dX12_walk_93 ?_
                              refine TT_iconst hK dX12_walk_95 ?_
                              refine TT_zast hK (o := 94) (n := 64) (by decide) rfl (by omega) (by omega) (by first | decide | omega) dX12_walk_96 ?_
                              refine TT_hp (h' := setO w73_13 94 (fup (w73_13 94) k 0)) (up_can rfl rfl rfl) ?_
                              have hT_87 : TY (setO w73_13 94 (fup (w73_13 94) k 0)) := tu_94 hT73_13 (show up w73_13 94 k 0 = (setO w73_13 94 (fup (w73_13 94) k 0)) from up_can rfl rfl rfl) (by omega)
                              have hF_87 : FRM [73, 84, 85, 93, 94, 95, 96, 97, 98] [26, 27, 28, 32, 33, 34, 36, 39] h (setO w73_13 94 (fup (w73_13 94) k 0)) := FRM_up (show up w73_13 94 k 0 = (setO w73_13 94 (fup (w73_13 94) k 0)) from up_can rfl rfl rfl) hF73_13 (by decide) (by decide)
                              refine TT_iinc hK (v := k + 1) (lv' := [(5, vI (k + 1)), (0, vR 73), (1, vI b), (2, vI n), (3, vI q), (4, vI p)]) 5 rfl rfl (by decide) rfl dX12_walk_97 ?_
                              refine TT_goto hK (tgt := 73) dX12_walk_100 (by decide) ?_
                              refine TT_sub [1, 2, 3, 4, 5, 0] rfl ?_
                              have e88_73_32 : (setO w73_13 94 (fup (w73_13 94) k 0)) 73 32 = (w73_13 73) 32 := rd_ (sOf_ne _ _ (by decide)) rfl
                              have e89_73_26 : (setO w73_13 94 (fup (w73_13 94) k 0)) 73 26 = (w73_13 73) 26 := rd_ (sOf_ne _ _ (by decide)) rfl
                              have e90_73_34 : (setO w73_13 94 (fup (w73_13 94) k 0)) 73 34 = (w73_13 73) 34 := rd_ (sOf_ne _ _ (by decide)) rfl
                              have e91_73_36 : (setO w73_13 94 (fup (w73_13 94) k 0)) 73 36 = (w73_13 73) 36 := rd_ (sOf_ne _ _ (by decide)) rfl
                              have e92_93 : (setO w73_13 94 (fup (w73_13 94) k 0)) 93 = w73_13 93 := sOf_ne _ _ (by decide)
                              have e93_96 : (setO w73_13 94 (fup (w73_13 94) k 0)) 96 = w73_13 96 := sOf_ne _ _ (by decide)
                              exact ih13 (k + 1) (setO w73_13 94 (fup (w73_13 94) k 0)) hT_87 hF_87 (by first | omega | (simp [up, setR] <;> omega)) (by rewrite [e88_73_32]; first | omega | (simp [up, setR] <;> omega)) (by rewrite [e89_73_26]; first | omega | (simp [up, setR] <;> omega)) (by rewrite [e90_73_34, e91_73_36, e92_93, e93_96]; first | omega | (simp [up, setR] <;> omega)) (by first | omega | (simp [up, setR] <;> omega))
                    refine TT_sub [1, 2, 3, 4, 5, 0] rfl ?_
                    have e94_73_32 : w64_8 73 32 = (w64_8 73) 32 := rfl
                    have e95_73_26 : w64_8 73 26 = (w64_8 73) 26 := rfl
                    have e96_73_34 : w64_8 73 34 = (w64_8 73) 34 := rfl
                    have e97_73_36 : w64_8 73 36 = (w64_8 73) 36 := rfl
                    exact L73_13 ((((64 : Int) - 0).toNat) + 1) 0 w64_8 hT64_8 hF64_8 (by first | omega | (simp [up, setR] <;> omega)) (by rewrite [e94_73_32]; first | omega | (simp [up, setR] <;> omega)) (by rewrite [e95_73_26]; first | omega | (simp [up, setR] <;> omega)) (by rewrite [e96_73_34, e97_73_36]; first | omega | (simp [up, setR] <;> omega)) (Nat.lt_succ_self _)
              refine TT_sub [2, 3, 4, 1, 0] rfl ?_
              have e98_73_32 : (setO w28_4 73 (fup (w28_4 73) 27 (((h 83) b) - 1))) 73 32 = (w28_4 73) 32 := rd_ (sOf_eq _ _ _) (fup_ne _ _ (by decide))
              have e99_73_26 : (setO w28_4 73 (fup (w28_4 73) 27 (((h 83) b) - 1))) 73 26 = (w28_4 73) 26 := rd_ (sOf_eq _ _ _) (fup_ne _ _ (by decide))
              have e100_73_34 : (setO w28_4 73 (fup (w28_4 73) 27 (((h 83) b) - 1))) 73 34 = (w28_4 73) 34 := rd_ (sOf_eq _ _ _) (fup_ne _ _ (by decide))
              have e101_73_36 : (setO w28_4 73 (fup (w28_4 73) 27 (((h 83) b) - 1))) 73 36 = (w28_4 73) 36 := rd_ (sOf_eq _ _ _) (fup_ne _ _ (by decide))
              have e102_93 : (setO w28_4 73 (fup (w28_4 73) 27 (((h 83) b) - 1))) 93 = w28_4 93 := sOf_ne _ _ (by decide)
              have e103_96 : (setO w28_4 73 (fup (w28_4 73) 27 (((h 83) b) - 1))) 96 = w28_4 96 := sOf_ne _ _ (by decide)
              have z0 := ZC_0 (w := h 80 b) (e := h 81 b) (aw := w28_4 93) rw0 re0 (by assumption)
              exact L64_8 (((n - 0).toNat) + 1) 2 0 (setO w28_4 73 (fup (w28_4 73) 27 (((h 83) b) - 1))) hT_7 hF_7 (by first | omega | (simp [up, setR] <;> omega)) (by first | omega | (simp [up, setR] <;> omega)) (by rewrite [e98_73_32]; first | omega | (simp [up, setR] <;> omega)) (by rewrite [e99_73_26]; first | omega | (simp [up, setR] <;> omega)) (by rewrite [e100_73_34, e101_73_36, e102_93, e103_96]; first | omega | (simp [up, setR] <;> omega)) (Nat.lt_succ_self _)
            · refine TT_aload_n hK rfl 0 rfl dX12_walk_34 ?_
              refine gf_X12_81 hK (by decide) rfl (q := 95) rfl rfl dX12_walk_35 ?_
              refine TT_iload_n hK rfl 3 rfl dX12_walk_38 ?_
              refine TT_iconst hK dX12_walk_39 ?_
              refine TT_zast hK (o := 95) (n := 64) (by decide) rfl (by omega) (by omega) (by first | decide | omega) dX12_walk_40 ?_
              refine TT_hp (h' := setO w28_4 95 (fup (w28_4 95) i2 0)) (up_can rfl rfl rfl) ?_
              have hT_104 : TY (setO w28_4 95 (fup (w28_4 95) i2 0)) := tu_95 hT28_4 (show up w28_4 95 i2 0 = (setO w28_4 95 (fup (w28_4 95) i2 0)) from up_can rfl rfl rfl) (by omega)
              have hF_104 : FRM [73, 84, 85, 93, 94, 95, 96, 97, 98] [26, 27, 28, 32, 33, 34, 36, 39] h (setO w28_4 95 (fup (w28_4 95) i2 0)) := FRM_up (show up w28_4 95 i2 0 = (setO w28_4 95 (fup (w28_4 95) i2 0)) from up_can rfl rfl rfl) hF28_4 (by decide) (by decide)
              refine TT_iinc hK (v := i2 + 1) (lv' := [(3, vI (i2 + 1)), (0, vR 73), (1, vI b), (2, vI n)]) 3 rfl rfl (by decide) rfl dX12_walk_41 ?_
              refine TT_goto hK (tgt := 28) dX12_walk_44 (by decide) ?_
              refine TT_sub [1, 2, 3, 0] rfl ?_
              have e105_93 : (setO w28_4 95 (fup (w28_4 95) i2 0)) 93 = w28_4 93 := sOf_ne _ _ (by decide)
              have e106_73_26 : (setO w28_4 95 (fup (w28_4 95) i2 0)) 73 26 = (w28_4 73) 26 := rd_ (sOf_ne _ _ (by decide)) rfl
              have e107_96 : (setO w28_4 95 (fup (w28_4 95) i2 0)) 96 = w28_4 96 := sOf_ne _ _ (by decide)
              have e108_73_34 : (setO w28_4 95 (fup (w28_4 95) i2 0)) 73 34 = (w28_4 73) 34 := rd_ (sOf_ne _ _ (by decide)) rfl
              have e109_73_36 : (setO w28_4 95 (fup (w28_4 95) i2 0)) 73 36 = (w28_4 73) 36 := rd_ (sOf_ne _ _ (by decide)) rfl
              have e110_73_32 : (setO w28_4 95 (fup (w28_4 95) i2 0)) 73 32 = (w28_4 73) 32 := rd_ (sOf_ne _ _ (by decide)) rfl
              exact ih4 (i2 + 1) (setO w28_4 95 (fup (w28_4 95) i2 0)) hT_104 hF_104 (by first | omega | (simp [up, setR] <;> omega)) (by rewrite [e105_93]; intro j h1 h2; exact hz2 j h1 h2) (by rewrite [e106_73_26]; first | omega | (simp [up, setR] <;> omega)) (by rewrite [e107_96]; first | omega | (simp [up, setR] <;> omega)) (by rewrite [e108_73_34]; first | omega | (simp [up, setR] <;> omega)) (by rewrite [e109_73_36]; first | omega | (simp [up, setR] <;> omega)) (by rewrite [e110_73_32]; first | omega | (simp [up, setR] <;> omega)) (by first | omega | (simp [up, setR] <;> omega))
        refine TT_sub [1, 2, 3, 0] rfl ?_
        have e111_73_26 : w7_2 73 26 = (w7_2 73) 26 := rfl
        have e112_73_34 : w7_2 73 34 = (w7_2 73) 34 := rfl
        have e113_73_36 : w7_2 73 36 = (w7_2 73) 36 := rfl
        have e114_73_32 : w7_2 73 32 = (w7_2 73) 32 := rfl
        exact L28_4 ((((64 : Int) - 0).toNat) + 1) 0 w7_2 hT7_2 hF7_2 (by first | omega | (simp [up, setR] <;> omega)) (by intro j h1 h2; exact hz1 j h1 (by omega)) (by rewrite [e111_73_26]; first | omega | (simp [up, setR] <;> omega)) (by first | omega | (simp [up, setR] <;> omega)) (by rewrite [e112_73_34]; first | omega | (simp [up, setR] <;> omega)) (by rewrite [e113_73_36]; first | omega | (simp [up, setR] <;> omega)) (by rewrite [e114_73_32]; first | omega | (simp [up, setR] <;> omega)) (Nat.lt_succ_self _)
      · refine TT_aload_n hK rfl 0 rfl dX12_walk_13 ?_
        refine gf_X12_75 hK (by decide) rfl (q := 93) rfl rfl dX12_walk_14 ?_
        refine TT_iload_n hK rfl 3 rfl dX12_walk_17 ?_
        refine TT_iconst hK dX12_walk_18 ?_
        refine TT_iast hK (o := 93) (n := 100) (by decide) rfl (by omega) (by omega) dX12_walk_19 ?_
        refine TT_hp (h' := setO w7_2 93 (fup (w7_2 93) i 0)) (up_can rfl rfl rfl) ?_
        have hT_115 : TY (setO w7_2 93 (fup (w7_2 93) i 0)) := tu_93 hT7_2 (show up w7_2 93 i 0 = (setO w7_2 93 (fup (w7_2 93) i 0)) from up_can rfl rfl rfl) (by omega)
        have hF_115 : FRM [73, 84, 85, 93, 94, 95, 96, 97, 98] [26, 27, 28, 32, 33, 34, 36, 39] h (setO w7_2 93 (fup (w7_2 93) i 0)) := FRM_up (show up w7_2 93 i 0 = (setO w7_2 93 (fup (w7_2 93) i 0)) from up_can rfl rfl rfl) hF7_2 (by decide) (by decide)
        refine TT_iinc hK (v := i + 1) (lv' := [(3, vI (i + 1)), (0, vR 73), (1, vI b), (2, vI n)]) 3 rfl rfl (by decide) rfl dX12_walk_20 ?_
        refine TT_goto hK (tgt := 7) dX12_walk_23 (by decide) ?_
        refine TT_sub [1, 2, 3, 0] rfl ?_
        have e116_93 : (setO w7_2 93 (fup (w7_2 93) i 0)) 93 = fup (w7_2 93) i 0 := sOf_eq _ _ _
        have e117_73_26 : (setO w7_2 93 (fup (w7_2 93) i 0)) 73 26 = (w7_2 73) 26 := rd_ (sOf_ne _ _ (by decide)) rfl
        have e118_96 : (setO w7_2 93 (fup (w7_2 93) i 0)) 96 = w7_2 96 := sOf_ne _ _ (by decide)
        have e119_73_34 : (setO w7_2 93 (fup (w7_2 93) i 0)) 73 34 = (w7_2 73) 34 := rd_ (sOf_ne _ _ (by decide)) rfl
        have e120_73_36 : (setO w7_2 93 (fup (w7_2 93) i 0)) 73 36 = (w7_2 73) 36 := rd_ (sOf_ne _ _ (by decide)) rfl
        have e121_73_32 : (setO w7_2 93 (fup (w7_2 93) i 0)) 73 32 = (w7_2 73) 32 := rd_ (sOf_ne _ _ (by decide)) rfl
        exact ih2 (i + 1) (setO w7_2 93 (fup (w7_2 93) i 0)) hT_115 hF_115 (by first | omega | (simp [up, setR] <;> omega)) (by rewrite [e116_93]; intro j h1 h2; by_cases e : j = i; (subst e; exact fup_eq _ _ _); (rw [fup_ne _ _ e]; exact hz1 j h1 (by omega))) (by rewrite [e117_73_26]; first | omega | (simp [up, setR] <;> omega)) (by rewrite [e118_96]; first | omega | (simp [up, setR] <;> omega)) (by rewrite [e119_73_34]; first | omega | (simp [up, setR] <;> omega)) (by rewrite [e120_73_36]; first | omega | (simp [up, setR] <;> omega)) (by rewrite [e121_73_32]; first | omega | (simp [up, setR] <;> omega)) (by first | omega | (simp [up, setR] <;> omega))
  refine TT_sub [1, 2, 3, 0] rfl ?_
  have e122_93 : (setO h 73 (fup (h 73) 26 b)) 93 = h 93 := sOf_ne _ _ (by decide)
  have e123_73_26 : (setO h 73 (fup (h 73) 26 b)) 73 26 = b := rd_ (sOf_eq _ _ _) (fup_eq _ _ _)
  have e124_96 : (setO h 73 (fup (h 73) 26 b)) 96 = h 96 := sOf_ne _ _ (by decide)
  have e125_73_34 : (setO h 73 (fup (h 73) 26 b)) 73 34 = (h 73) 34 := rd_ (sOf_eq _ _ _) (fup_ne _ _ (by decide))
  have e126_73_36 : (setO h 73 (fup (h 73) 26 b)) 73 36 = (h 73) 36 := rd_ (sOf_eq _ _ _) (fup_ne _ _ (by decide))
  have e127_73_32 : (setO h 73 (fup (h 73) 26 b)) 73 32 = (h 73) 32 := rd_ (sOf_eq _ _ _) (fup_ne _ _ (by decide))
  exact L7_2 ((((100 : Int) - 0).toNat) + 1) 0 (setO h 73 (fup (h 73) 26 b)) hT_1 hF_1 (by first | omega | (simp [up, setR] <;> omega)) (by rewrite [e122_93]; intro j h1 h2; omega) (by rewrite [e123_73_26]; first | omega | (simp [up, setR] <;> omega)) (by rewrite [e124_96]; first | omega | (simp [up, setR] <;> omega)) (by rewrite [e125_73_34]; first | omega | (simp [up, setR] <;> omega)) (by rewrite [e126_73_36]; first | omega | (simp [up, setR] <;> omega)) (by rewrite [e127_73_32]; first | omega | (simp [up, setR] <;> omega)) (Nat.lt_succ_self _)

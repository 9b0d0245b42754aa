def SumR (f : Nat → Int) : Nat → Int
  | 0 => 0
  | n + 1 => SumR f n + f n
theorem SumR_cg {f g : Nat → Int} : ∀ n, (∀ k, k < n → g k = f k) → SumR g n = SumR f n := by
  intro n
  induction n with
  | zero => intro _; rfl
  | succ n ih =>
    intro hk
    show SumR g n + g n = SumR f n + f n
    rw [ih (fun k h => hk k (Nat.lt_succ_of_lt h)), hk n (Nat.lt_succ_self n)]
theorem SumR_one {f g : Nat → Int} {k0 : Nat} : ∀ n, k0 < n → (∀ k, k < n → k ≠ k0 → g k = f k) → SumR g n = SumR f n - f k0 + g k0 := by
  intro n
  induction n with
  | zero => intro h _; exact absurd h (Nat.not_lt_zero _)
  | succ n ih =>
    intro h hk
    show SumR g n + g n = SumR f n + f n - f k0 + g k0
    by_cases q : k0 = n
    · subst q
      rw [SumR_cg k0 (fun k h2 => hk k (Nat.lt_succ_of_lt h2) (Nat.ne_of_lt h2))]
      omega
    · rw [ih (by omega) (fun k h2 h3 => hk k (Nat.lt_succ_of_lt h2) h3), hk n (Nat.lt_succ_self n) (fun z => q z.symm)]
      omega
def zc1 (w e : Int) (aw : Int → Int) (k : Nat) : Int := if ((k % 8 : Nat) : Int) < w ∧ ((k / 8 : Nat) : Int) < e ∧ aw (10 * ((k / 8 : Nat) : Int) + ((k % 8 : Nat) : Int) + 11) = 0 then 1 else 0
def ZC (w e : Int) (aw : Int → Int) : Int := SumR (zc1 w e aw) 64
theorem ZC_up {w e x y v : Int} {aw : Int → Int} (hx : 0 ≤ x ∧ x < w) (hw : w ≤ 8) (hy : 0 ≤ y ∧ y < e) (he : e ≤ 8) (h0 : aw (10 * y + x + 11) = 0) (hv : v ≠ 0) : ZC w e (fup aw (10 * y + x + 11) v) + 1 = ZC w e aw := by
  unfold ZC
  obtain ⟨xn, rfl⟩ := Int.eq_ofNat_of_zero_le hx.1
  obtain ⟨yn, rfl⟩ := Int.eq_ofNat_of_zero_le hy.1
  have hk : 8 * yn + xn < 64 := by omega
  have e1 : (8 * yn + xn) % 8 = xn := by omega
  have e2 : (8 * yn + xn) / 8 = yn := by omega
  rw [SumR_one (k0 := 8 * yn + xn) 64 hk (f := zc1 w e aw) (fun k h1 h2 => by
    unfold zc1
    rw [fup_ne _ _ (show (10 * ((k / 8 : Nat) : Int) + ((k % 8 : Nat) : Int) + 11 : Int) ≠ 10 * (yn : Int) + (xn : Int) + 11 by omega)])]
  have a1 : zc1 w e aw (8 * yn + xn) = 1 := by
    unfold zc1
    rw [e1, e2, if_pos ⟨hx.2, hy.2, h0⟩]
  have a2 : zc1 w e (fup aw (10 * (yn : Int) + (xn : Int) + 11) v) (8 * yn + xn) = 0 := by
    unfold zc1
    rw [e1, e2, fup_eq, if_neg (fun q => hv q.2.2)]
  rw [a1, a2]
  omega
theorem SumR_nn {f : Nat → Int} (h : ∀ k, 0 ≤ f k) : ∀ n, 0 ≤ SumR f n := by
  intro n
  induction n with
  | zero => exact Int.le_refl _
  | succ n ih =>
    show 0 ≤ SumR f n + f n
    have := h n
    omega
theorem ZC_nn (w e : Int) (aw : Int → Int) : 0 ≤ ZC w e aw := SumR_nn (fun k => by unfold zc1; split <;> omega) 64
set_option maxRecDepth 20000 in
theorem s_X12_wake_73 (x y : Int) (h : Hp_) (hT : TY h) (hx : 0 ≤ x ∧ x ≤ 7) (hy : 0 ≤ y ∧ y ≤ 7) (htb : TBL (h 74) (h 75)) (ha : 32768 ≤ (h 73 32) ∧ (h 73 32) < 65536) (hm : (h 73 29) = 0 → 1 ≤ (h 73 34) ∧ 1 ≤ (h 73 36) ∧ 7 * (h 73 36) - (h 73 34) + PhS (h 96) + 9 ≤ 22300) (hw1 : (h 73 29) = 1 → 10 ≤ (h 73 26)) : Ctr yX12_wake cX12_wake 10 none (rmd 4) ly ly 0 0 [vR 73, vI x, vI y] h (fun r h' => (TY h' ∧ FRM [73, 84, 85, 93, 96, 97, 98] [28, 32, 33, 34, 36, 39] h h') ∧ r = none ∧ (32768 ≤ (h' 73 32) ∧ (h' 73 32) < 65536) ∧ ((h 73 29) = 0 → 1 ≤ (h' 73 34) ∧ 1 ≤ (h' 73 36) ∧ 7 * (h' 73 36) - (h' 73 34) + PhS (h' 96) ≤ 7 * (h 73 36) - (h 73 34) + PhS (h 96) + 9) ∧ (∀ w e : Int, x < w → w ≤ 8 → y < e → e ≤ 8 → (h 93) (10 * y + x + 11) = 0 → ZC w e (h' 93) + 1 = ZC w e (h 93))) := by
  refine Ctr_of (by decide) (Nat.le_of_ble_eq_true rfl) ⟨Nat.le_refl _, Nat.le_refl _⟩ (fun K hK hQ _ => ?_)
  show TT K ly 0 0 0 [(0, vR 73), (1, vI x), (2, vI y)] [] h
  have hF : FRM [73, 84, 85, 93, 96, 97, 98] [28, 32, 33, 34, 36, 39] h h := FRM_rf _ _ _
  refine TT_iload_n hK rfl 1 rfl dX12_wake_0 ?_
  refine TT_iload_n hK rfl 2 rfl dX12_wake_1 ?_
  refine iv_X12_234 hK (s_X12_spot x y h hT (by first | omega | (simp [up, setR] <;> omega)) (by first | omega | (simp [up, setR] <;> omega))) ⟨by decide, by decide⟩ (by decide) rfl rfl (Nat.le_of_ble_eq_true rfl) ⟨by decide, by decide⟩ dX12_wake_2 ?_
  intro r9 g2_1 hp9
  obtain ⟨⟨hT_1, hG_1⟩, z2_1, hr9, hz_1, p1_1⟩ := hp9
  rw [hr9]
  have hF_1 : FRM [73, 84, 85, 93, 96, 97, 98] [28, 32, 33, 34, 36, 39] h g2_1 := FRM_tr hF hG_1 (by decide) (by decide)
  show TT K ly 0 0 5 [(0, vR 73), (1, vI x), (2, vI y)] [vI z2_1] g2_1
  refine TT_cgI (b := 10 * y + x + 11) (by omega) ?_
  refine TT_istore_n hK rfl (lv' := [(3, vI (10 * y + x + 11)), (0, vR 73), (1, vI x), (2, vI y)]) (by decide) rfl dX12_wake_5 ?_
  refine TT_aload_n hK rfl 1 rfl dX12_wake_6 ?_
  refine gf_X12_75 hK (by decide) rfl (q := 93) rfl rfl dX12_wake_7 ?_
  refine TT_iload_n hK rfl 0 rfl dX12_wake_10 ?_
  refine TT_iconst hK dX12_wake_11 ?_
  refine TT_isub hK dX12_wake_12 ?_
  refine TT_iald hK (o := 93) (n := 100) (by decide) rfl (by first | omega | (simp [up, setR] <;> omega)) (by first | omega | (simp [up, setR] <;> omega)) (v := (h 93) ((10 * y + x + 11) - 1)) (rd_ (hG_1.1 93 (by decide)) rfl) dX12_wake_13 ?_
  have r2 := ty_93 (i := (10 * y + x + 11) - 1) (v := (h 93) ((10 * y + x + 11) - 1)) hT_1 (rd_ (hG_1.1 93 (by decide)) rfl) (by omega) (by omega)
  refine TT_aload_n hK rfl 1 rfl dX12_wake_14 ?_
  refine gf_X12_75 hK (by decide) rfl (q := 93) rfl rfl dX12_wake_15 ?_
  refine TT_iload_n hK rfl 0 rfl dX12_wake_18 ?_
  refine TT_iconst hK dX12_wake_19 ?_
  refine TT_iadd hK dX12_wake_20 ?_
  refine TT_iald hK (o := 93) (n := 100) (by decide) rfl (by first | omega | (simp [up, setR] <;> omega)) (by first | omega | (simp [up, setR] <;> omega)) (v := (h 93) ((10 * y + x + 11) + 1)) (rd_ (hG_1.1 93 (by decide)) rfl) dX12_wake_21 ?_
  have r3 := ty_93 (i := (10 * y + x + 11) + 1) (v := (h 93) ((10 * y + x + 11) + 1)) hT_1 (rd_ (hG_1.1 93 (by decide)) rfl) (by omega) (by omega)
  refine TT_iadd hK dX12_wake_22 ?_
  refine iv_X12_255 hK (s_X12_unit (((h 93) ((10 * y + x + 11) - 1)) + ((h 93) ((10 * y + x + 11) + 1))) g2_1 hT_1 (by first | omega | (simp [up, setR] <;> omega))) ⟨by decide, by decide⟩ (by decide) rfl rfl (Nat.le_of_ble_eq_true rfl) ⟨by decide, by decide⟩ dX12_wake_23 ?_
  intro r9 g23_4 hp9
  obtain ⟨⟨hT_4, hG_4⟩, z23_4, hr9, hz_4⟩ := hp9
  rw [hr9]
  have hF_4 : FRM [73, 84, 85, 93, 96, 97, 98] [28, 32, 33, 34, 36, 39] h g23_4 := FRM_tr hF_1 hG_4 (by decide) (by decide)
  show TT K ly 0 0 26 [(3, vI (10 * y + x + 11)), (0, vR 73), (1, vI x), (2, vI y)] [vI z23_4] g23_4
  refine TT_istore hK (lv' := [(4, vI z23_4), (3, vI (10 * y + x + 11)), (0, vR 73), (1, vI x), (2, vI y)]) (by decide) rfl dX12_wake_26 ?_
  refine TT_aload_n hK rfl 2 rfl dX12_wake_28 ?_
  refine gf_X12_75 hK (by decide) rfl (q := 93) rfl rfl dX12_wake_29 ?_
  refine TT_iload_n hK rfl 1 rfl dX12_wake_32 ?_
  refine TT_bipush hK (by decide) dX12_wake_33 ?_
  refine TT_isub hK dX12_wake_35 ?_
  refine TT_iald hK (o := 93) (n := 100) (by decide) rfl (by first | omega | (simp [up, setR] <;> omega)) (by first | omega | (simp [up, setR] <;> omega)) (v := (h 93) ((10 * y + x + 11) - 10)) (rd_ (((hG_4.1 93 (by decide))).trans (hG_1.1 93 (by decide))) rfl) dX12_wake_36 ?_
  have r5 := ty_93 (i := (10 * y + x + 11) - 10) (v := (h 93) ((10 * y + x + 11) - 10)) hT_4 (rd_ (((hG_4.1 93 (by decide))).trans (hG_1.1 93 (by decide))) rfl) (by omega) (by omega)
  refine TT_aload_n hK rfl 2 rfl dX12_wake_37 ?_
  refine gf_X12_75 hK (by decide) rfl (q := 93) rfl rfl dX12_wake_38 ?_
  refine TT_iload_n hK rfl 1 rfl dX12_wake_41 ?_
  refine TT_bipush hK (by decide) dX12_wake_42 ?_
  refine TT_iadd hK dX12_wake_44 ?_
  refine TT_iald hK (o := 93) (n := 100) (by decide) rfl (by first | omega | (simp [up, setR] <;> omega)) (by first | omega | (simp [up, setR] <;> omega)) (v := (h 93) ((10 * y + x + 11) + 10)) (rd_ (((hG_4.1 93 (by decide))).trans (hG_1.1 93 (by decide))) rfl) dX12_wake_45 ?_
  have r6 := ty_93 (i := (10 * y + x + 11) + 10) (v := (h 93) ((10 * y + x + 11) + 10)) hT_4 (rd_ (((hG_4.1 93 (by decide))).trans (hG_1.1 93 (by decide))) rfl) (by omega) (by omega)
  refine TT_iadd hK dX12_wake_46 ?_
  refine iv_X12_255 hK (s_X12_unit (((h 93) ((10 * y + x + 11) - 10)) + ((h 93) ((10 * y + x + 11) + 10))) g23_4 hT_4 (by first | omega | (simp [up, setR] <;> omega))) ⟨by decide, by decide⟩ (by decide) rfl rfl (Nat.le_of_ble_eq_true rfl) ⟨by decide, by decide⟩ dX12_wake_47 ?_
  intro r9 g47_7 hp9
  obtain ⟨⟨hT_7, hG_7⟩, z47_7, hr9, hz_7⟩ := hp9
  rw [hr9]
  have hF_7 : FRM [73, 84, 85, 93, 96, 97, 98] [28, 32, 33, 34, 36, 39] h g47_7 := FRM_tr hF_4 hG_7 (by decide) (by decide)
  show TT K ly 0 0 50 [(4, vI z23_4), (3, vI (10 * y + x + 11)), (0, vR 73), (1, vI x), (2, vI y)] [vI z47_7] g47_7
  refine TT_istore hK (lv' := [(5, vI z47_7), (4, vI z23_4), (3, vI (10 * y + x + 11)), (0, vR 73), (1, vI x), (2, vI y)]) (by decide) rfl dX12_wake_50 ?_
  have J74_8 : ∀ (a : Int) (b : Int) (t9 : Int), (-1 ≤ a ∧ a ≤ 1) → (-1 ≤ b ∧ b ≤ 1) → (0 ≤ t9 ∧ t9 ≤ 1) → TT K ly 0 0 74 [(0, vR 73), (1, vI x), (2, vI y), (3, vI (10 * y + x + 11)), (4, vI a), (5, vI b), (6, vI t9)] [] g47_7 := by
    intro a b t9 ha4 hb4 ht9
    have J102_9 : ∀ (cx : Int), (0 ≤ cx ∧ cx ≤ 18) → TT K ly 0 0 102 [(0, vR 73), (1, vI x), (2, vI y), (3, vI (10 * y + x + 11)), (4, vI a), (5, vI b), (6, vI t9), (7, vI cx)] [] g47_7 := by
      intro cx hcx
      have J123_10 : ∀ (sg : Int), (0 ≤ sg ∧ sg ≤ 1) → TT K ly 0 0 123 [(0, vR 73), (1, vI x), (2, vI y), (3, vI (10 * y + x + 11)), (4, vI a), (5, vI b), (6, vI t9), (7, vI cx), (8, vI sg)] [] g47_7 := by
        intro sg hsg
        refine TT_aload_n hK rfl 0 rfl dX12_wake_123 ?_
        refine TT_iload hK 7 rfl dX12_wake_124 ?_
        refine TT_iload hK 6 rfl dX12_wake_126 ?_
        refine TT_if_eq hK (tgt := 138) (irm (by omega) (by omega)) dX12_wake_128 (by decide) (fun hb128_11 => ?_) (fun hb128_11 => ?_)
        · refine TT_iload hK 8 rfl dX12_wake_138 ?_
          have e12_74 : g47_7 74 = h 74 := ((hG_7.1 74 (by decide))).trans (((hG_4.1 74 (by decide))).trans (hG_1.1 74 (by decide)))
          have e13_75 : g47_7 75 = h 75 := ((hG_7.1 75 (by decide))).trans (((hG_4.1 75 (by decide))).trans (hG_1.1 75 (by decide)))
          have e14_73_32 : g47_7 73 32 = (h 73) 32 := (congrFun (hG_7.1 73 (by decide)) 32).trans ((congrFun (hG_4.1 73 (by decide)) 32).trans (congrFun (hG_1.1 73 (by decide)) 32))
          have e15_73_29 : g47_7 73 29 = (h 73) 29 := (congrFun (hG_7.1 73 (by decide)) 29).trans ((congrFun (hG_4.1 73 (by decide)) 29).trans (congrFun (hG_1.1 73 (by decide)) 29))
          have e16_73_34 : g47_7 73 34 = (h 73) 34 := (congrFun (hG_7.1 73 (by decide)) 34).trans ((congrFun (hG_4.1 73 (by decide)) 34).trans (congrFun (hG_1.1 73 (by decide)) 34))
          have e17_73_36 : g47_7 73 36 = (h 73) 36 := (congrFun (hG_7.1 73 (by decide)) 36).trans ((congrFun (hG_4.1 73 (by decide)) 36).trans (congrFun (hG_1.1 73 (by decide)) 36))
          have e18_96 : g47_7 96 = h 96 := ((hG_7.1 96 (by decide))).trans (((hG_4.1 96 (by decide))).trans (hG_1.1 96 (by decide)))
          refine iv_X12_258 hK (s_X12_code_73 cx sg g47_7 hT_7 (by first | omega | (simp [up, setR] <;> omega)) (by first | omega | (simp [up, setR] <;> omega)) (by rewrite [e12_74, e13_75]; first | assumption | exact htb) (by rewrite [e14_73_32]; first | omega | (simp [up, setR] <;> omega)) (by rewrite [e15_73_29, e16_73_34, e17_73_36, e18_96]; first | omega | (simp [up, setR] <;> omega))) (by decide) rfl ⟨by decide, by decide⟩ (by decide) rfl rfl (Nat.le_of_ble_eq_true rfl) ⟨by decide, by decide⟩ dX12_wake_140 ?_
          intro r9 g140_19 hp9
          obtain ⟨⟨hT_19, hG_19⟩, z140_19, hr9, hz_19, pa_19, pm_19⟩ := hp9
          rw [hr9]
          have hF_19 : FRM [73, 84, 85, 93, 96, 97, 98] [28, 32, 33, 34, 36, 39] h g140_19 := FRM_tr hF_7 hG_19 (by decide) (by decide)
          rw [show g47_7 73 29 = (h 73) 29 from (congrFun (hG_7.1 73 (by decide)) 29).trans ((congrFun (hG_4.1 73 (by decide)) 29).trans (congrFun (hG_1.1 73 (by decide)) 29))] at pm_19
          rw [show g47_7 73 34 = (h 73) 34 from (congrFun (hG_7.1 73 (by decide)) 34).trans ((congrFun (hG_4.1 73 (by decide)) 34).trans (congrFun (hG_1.1 73 (by decide)) 34))] at pm_19
          rw [show g47_7 73 36 = (h 73) 36 from (congrFun (hG_7.1 73 (by decide)) 36).trans ((congrFun (hG_4.1 73 (by decide)) 36).trans (congrFun (hG_1.1 73 (by decide)) 36))] at pm_19
          rw [show g47_7 96 = h 96 from ((hG_7.1 96 (by decide))).trans (((hG_4.1 96 (by decide))).trans (hG_1.1 96 (by decide)))] at pm_19
          show TT K ly 0 0 143 [(0, vR 73), (1, vI x), (2, vI y), (3, vI (10 * y + x + 11)), (4, vI a), (5, vI b), (6, vI t9), (7, vI cx), (8, vI sg)] [vI z140_19] g140_19
          refine TT_istore hK (lv' := [(9, vI z140_19), (0, vR 73), (1, vI x), (2, vI y), (3, vI (10 * y + x + 11)), (4, vI a), (5, vI b), (6, vI t9), (7, vI cx), (8, vI sg)]) (by decide) rfl dX12_wake_143 ?_
          refine TT_iload hK 7 rfl dX12_wake_145 ?_
          refine TT_if_eq hK (tgt := 157) (irm (by omega) (by omega)) dX12_wake_147 (by decide) (fun hb147_20 => ?_) (fun hb147_20 => ?_)
          · refine TT_iload hK 0 rfl dX12_wake_157 ?_
            refine TT_istore hK (lv' := [(8, vI z140_19), (9, vI z140_19), (0, vR 73), (1, vI x), (2, vI y), (3, vI (10 * y + x + 11)), (4, vI a), (5, vI b), (6, vI t9), (7, vI cx)]) (by decide) rfl dX12_wake_159 ?_
            refine TT_aload_n hK rfl 2 rfl dX12_wake_161 ?_
            refine gf_X12_50 hK (by decide) rfl (q := 85) rfl rfl dX12_wake_162 ?_
            refine TT_aload_n hK rfl 2 rfl dX12_wake_165 ?_
            refine TT_iload_n hK rfl 3 rfl dX12_wake_166 ?_
            refine TT_iload_n hK rfl 4 rfl dX12_wake_167 ?_
            refine iv_X12_249 hK (s_X12_cell_73 x y g140_19 hT_19 (by first | omega | (simp [up, setR] <;> omega)) (by first | omega | (simp [up, setR] <;> omega))) (by decide) rfl ⟨by decide, by decide⟩ (by decide) rfl rfl (Nat.le_of_ble_eq_true rfl) ⟨by decide, by decide⟩ dX12_wake_168 ?_
            intro r9 g168_21 hp9
            obtain ⟨⟨hT_21, hG_21⟩, z168_21, hr9, hz_21, p1_21⟩ := hp9
            rw [hr9]
            have hF_21 : FRM [73, 84, 85, 93, 96, 97, 98] [28, 32, 33, 34, 36, 39] h g168_21 := FRM_tr hF_19 hG_21 (by decide) (by decide)
            rw [show g140_19 73 26 = (h 73) 26 from ((hG_19.2 26 (by decide))).trans ((congrFun (hG_7.1 73 (by decide)) 26).trans ((congrFun (hG_4.1 73 (by decide)) 26).trans (congrFun (hG_1.1 73 (by decide)) 26)))] at p1_21
            show TT K ly 0 0 171 [(8, vI z140_19), (9, vI z140_19), (0, vR 73), (1, vI x), (2, vI y), (3, vI (10 * y + x + 11)), (4, vI a), (5, vI b), (6, vI t9), (7, vI cx)] [vI z168_21, vR 85] g168_21
            refine TT_iload hK 0 rfl dX12_wake_171 ?_
            refine TT_iconst hK dX12_wake_173 ?_
            refine TT_icmp_ne hK (tgt := 181) (irm (by omega) (by omega)) (by decide) dX12_wake_174 (by decide) (fun hb174_22 => ?_) (fun hb174_22 => ?_)
            · refine TT_iconst hK dX12_wake_181 ?_
              refine TT_zast hK (o := 85) (n := 1280) (by decide) rfl (by omega) (by omega) (by first | decide | omega) dX12_wake_182 ?_
              refine TT_hp (h' := setO g168_21 85 (fup (h 85) z168_21 0)) (up_can (((hG_21.1 85 (by decide))).trans (((hG_19.1 85 (by decide))).trans (((hG_7.1 85 (by decide))).trans (((hG_4.1 85 (by decide))).trans (hG_1.1 85 (by decide)))))) rfl rfl) ?_
              have hT_23 : TY (setO g168_21 85 (fup (h 85) z168_21 0)) := tu_85 hT_21 (show up g168_21 85 z168_21 0 = (setO g168_21 85 (fup (h 85) z168_21 0)) from up_can (((hG_21.1 85 (by decide))).trans (((hG_19.1 85 (by decide))).trans (((hG_7.1 85 (by decide))).trans (((hG_4.1 85 (by decide))).trans (hG_1.1 85 (by decide)))))) rfl rfl) (by omega)
              have hF_23 : FRM [73, 84, 85, 93, 96, 97, 98] [28, 32, 33, 34, 36, 39] h (setO g168_21 85 (fup (h 85) z168_21 0)) := FRM_up (show up g168_21 85 z168_21 0 = (setO g168_21 85 (fup (h 85) z168_21 0)) from up_can (((hG_21.1 85 (by decide))).trans (((hG_19.1 85 (by decide))).trans (((hG_7.1 85 (by decide))).trans (((hG_4.1 85 (by decide))).trans (hG_1.1 85 (by decide)))))) rfl rfl) hF_21 (by decide) (by decide)
              refine TT_aload_n hK rfl 2 rfl dX12_wake_183 ?_
              refine gf_X12_75 hK (by decide) rfl (q := 93) rfl rfl dX12_wake_184 ?_
              refine TT_iload_n hK rfl 5 rfl dX12_wake_187 ?_
              refine TT_iload hK 0 rfl dX12_wake_188 ?_
              refine TT_iconst hK dX12_wake_190 ?_
              refine TT_icmp_ne hK (tgt := 198) (irm (by omega) (by omega)) (by decide) dX12_wake_191 (by decide) (fun hb191_24 => ?_) (fun hb191_24 => ?_)
              · refine TT_iconst hK dX12_wake_198 ?_
                refine TT_iast hK (o := 93) (n := 100) (by decide) rfl (by omega) (by omega) dX12_wake_199 ?_
                refine TT_hp (h' := setO (setO g168_21 85 (fup (h 85) z168_21 0)) 93 (fup (h 93) (10 * y + x + 11) 1)) (up_can ((sOf_ne _ _ (by decide)).trans (((hG_21.1 93 (by decide))).trans (((hG_19.1 93 (by decide))).trans (((hG_7.1 93 (by decide))).trans (((hG_4.1 93 (by decide))).trans (hG_1.1 93 (by decide))))))) rfl rfl) ?_
                have hT_25 : TY (setO (setO g168_21 85 (fup (h 85) z168_21 0)) 93 (fup (h 93) (10 * y + x + 11) 1)) := tu_93 hT_23 (show up (setO g168_21 85 (fup (h 85) z168_21 0)) 93 (10 * y + x + 11) 1 = (setO (setO g168_21 85 (fup (h 85) z168_21 0)) 93 (fup (h 93) (10 * y + x + 11) 1)) from up_can ((sOf_ne _ _ (by decide)).trans (((hG_21.1 93 (by decide))).trans (((hG_19.1 93 (by decide))).trans (((hG_7.1 93 (by decide))).trans (((hG_4.1 93 (by decide))).trans (hG_1.1 93 (by decide))))))) rfl rfl) (by omega)
                have hF_25 : FRM [73, 84, 85, 93, 96, 97, 98] [28, 32, 33, 34, 36, 39] h (setO (setO g168_21 85 (fup (h 85) z168_21 0)) 93 (fup (h 93) (10 * y + x + 11) 1)) := FRM_up (show up (setO g168_21 85 (fup (h 85) z168_21 0)) 93 (10 * y + x + 11) 1 = (setO (setO g168_21 85 (fup (h 85) z168_21 0)) 93 (fup (h 93) (10 * y + x + 11) 1)) from up_can ((sOf_ne _ _ (by decide)).trans (((hG_21.1 93 (by decide))).trans (((hG_19.1 93 (by decide))).trans (((hG_7.1 93 (by decide))).trans (((hG_4.1 93 (by decide))).trans (hG_1.1 93 (by decide))))))) rfl rfl) hF_23 (by decide) (by decide)
                refine TT_aload_n hK rfl 2 rfl dX12_wake_200 ?_
                refine gf_X12_163 hK (by decide) rfl (v := (h 73) 29) ((congrFun ((sOf_ne _ _ (by decide)).trans ((sOf_ne _ _ (by decide)).trans (hG_21.1 73 (by decide)))) 29).trans (((hG_19.2 29 (by decide))).trans ((congrFun (hG_7.1 73 (by decide)) 29).trans ((congrFun (hG_4.1 73 (by decide)) 29).trans (congrFun (hG_1.1 73 (by decide)) 29))))) dX12_wake_201 ?_
                have r26 := ty_73_29 (v := (h 73) 29) hT_25 ((congrFun ((sOf_ne _ _ (by decide)).trans ((sOf_ne _ _ (by decide)).trans (hG_21.1 73 (by decide)))) 29).trans (((hG_19.2 29 (by decide))).trans ((congrFun (hG_7.1 73 (by decide)) 29).trans ((congrFun (hG_4.1 73 (by decide)) 29).trans (congrFun (hG_1.1 73 (by decide)) 29)))))
                refine TT_iconst hK dX12_wake_204 ?_
                refine TT_icmp_ne hK (tgt := 237) (irm (by omega) (by omega)) (by decide) dX12_wake_205 (by decide) (fun hb205_27 => ?_) (fun hb205_27 => ?_)
                · refine TT_vret hK hQ ?_ dX12_wake_237
                  have e28_73_32 : (setO (setO g168_21 85 (fup (h 85) z168_21 0)) 93 (fup (h 93) (10 * y + x + 11) 1)) 73 32 = (g140_19 73) 32 := congrFun ((sOf_ne _ _ (by decide)).trans ((sOf_ne _ _ (by decide)).trans (hG_21.1 73 (by decide)))) 32
                  have e29_73_34 : (setO (setO g168_21 85 (fup (h 85) z168_21 0)) 93 (fup (h 93) (10 * y + x + 11) 1)) 73 34 = (g140_19 73) 34 := congrFun ((sOf_ne _ _ (by decide)).trans ((sOf_ne _ _ (by decide)).trans (hG_21.1 73 (by decide)))) 34
                  have e30_73_36 : (setO (setO g168_21 85 (fup (h 85) z168_21 0)) 93 (fup (h 93) (10 * y + x + 11) 1)) 73 36 = (g140_19 73) 36 := congrFun ((sOf_ne _ _ (by decide)).trans ((sOf_ne _ _ (by decide)).trans (hG_21.1 73 (by decide)))) 36
                  have e31_96 : (setO (setO g168_21 85 (fup (h 85) z168_21 0)) 93 (fup (h 93) (10 * y + x + 11) 1)) 96 = g140_19 96 := (sOf_ne _ _ (by decide)).trans ((sOf_ne _ _ (by decide)).trans (hG_21.1 96 (by decide)))
                  have e32_93 : (setO (setO g168_21 85 (fup (h 85) z168_21 0)) 93 (fup (h 93) (10 * y + x + 11) 1)) 93 = fup (h 93) (10 * y + x + 11) 1 := sOf_eq _ _ _
                  exact ⟨⟨hT_25, hF_25⟩, rfl, (by rewrite [e28_73_32]; omega), (by rewrite [e29_73_34, e30_73_36, e31_96]; omega), (by rewrite [e32_93]; intro w e h1 h2 h3 h4 h5; exact ZC_up ⟨hx.1, h1⟩ h2 ⟨hy.1, h3⟩ h4 h5 (by decide))⟩
                · refine TT_aload_n hK rfl 2 rfl dX12_wake_208 ?_
                  refine gf_X12_47 hK (by decide) rfl (q := 84) rfl rfl dX12_wake_209 ?_
                  refine TT_aload_n hK rfl 2 rfl dX12_wake_212 ?_
                  refine TT_iload_n hK rfl 3 rfl dX12_wake_213 ?_
                  refine TT_iload_n hK rfl 4 rfl dX12_wake_214 ?_
                  refine iv_X12_249 hK (s_X12_cell_73 x y (setO (setO g168_21 85 (fup (h 85) z168_21 0)) 93 (fup (h 93) (10 * y + x + 11) 1)) hT_25 (by first | omega | (simp [up, setR] <;> omega)) (by first | omega | (simp [up, setR] <;> omega))) (by decide) rfl ⟨by decide, by decide⟩ (by decide) rfl rfl (Nat.le_of_ble_eq_true rfl) ⟨by decide, by decide⟩ dX12_wake_215 ?_
                  intro r9 g215_33 hp9
                  obtain ⟨⟨hT_33, hG_33⟩, z215_33, hr9, hz_33, p1_33⟩ := hp9
                  rw [hr9]
                  have hF_33 : FRM [73, 84, 85, 93, 96, 97, 98] [28, 32, 33, 34, 36, 39] h g215_33 := FRM_tr hF_25 hG_33 (by decide) (by decide)
                  rw [show (setO (setO g168_21 85 (fup (h 85) z168_21 0)) 93 (fup (h 93) (10 * y + x + 11) 1)) 73 26 = (h 73) 26 from (congrFun ((sOf_ne _ _ (by decide)).trans ((sOf_ne _ _ (by decide)).trans (hG_21.1 73 (by decide)))) 26).trans (((hG_19.2 26 (by decide))).trans ((congrFun (hG_7.1 73 (by decide)) 26).trans ((congrFun (hG_4.1 73 (by decide)) 26).trans (congrFun (hG_1.1 73 (by decide)) 26))))] at p1_33
                  show TT K ly 0 0 218 [(8, vI z140_19), (9, vI z140_19), (0, vR 73), (1, vI x), (2, vI y), (3, vI (10 * y + x + 11)), (4, vI a), (5, vI b), (6, vI t9), (7, vI cx)] [vI z215_33, vR 84] g215_33
                  refine TT_aload_n hK rfl 2 rfl dX12_wake_218 ?_
                  refine gf_X12_47 hK (by decide) rfl (q := 84) rfl rfl dX12_wake_219 ?_
                  refine TT_aload_n hK rfl 2 rfl dX12_wake_222 ?_
                  refine TT_iload_n hK rfl 3 rfl dX12_wake_223 ?_
                  refine TT_iload_n hK rfl 4 rfl dX12_wake_224 ?_
                  refine iv_X12_249 hK (s_X12_cell_73 x y g215_33 hT_33 (by first | omega | (simp [up, setR] <;> omega)) (by first | omega | (simp [up, setR] <;> omega))) (by decide) rfl ⟨by decide, by decide⟩ (by decide) rfl rfl (Nat.le_of_ble_eq_true rfl) ⟨by decide, by decide⟩ dX12_wake_225 ?_
                  intro r9 g225_34 hp9
                  obtain ⟨⟨hT_34, hG_34⟩, z225_34, hr9, hz_34, p1_34⟩ := hp9
                  rw [hr9]
                  have hF_34 : FRM [73, 84, 85, 93, 96, 97, 98] [28, 32, 33, 34, 36, 39] h g225_34 := FRM_tr hF_33 hG_34 (by decide) (by decide)
                  rw [show g215_33 73 26 = (h 73) 26 from (congrFun (hG_33.1 73 (by decide)) 26).trans ((congrFun ((sOf_ne _ _ (by decide)).trans ((sOf_ne _ _ (by decide)).trans (hG_21.1 73 (by decide)))) 26).trans (((hG_19.2 26 (by decide))).trans ((congrFun (hG_7.1 73 (by decide)) 26).trans ((congrFun (hG_4.1 73 (by decide)) 26).trans (congrFun (hG_1.1 73 (by decide)) 26)))))] at p1_34
                  show TT K ly 0 0 228 [(8, vI z140_19), (9, vI z140_19), (0, vR 73), (1, vI x), (2, vI y), (3, vI (10 * y + x + 11)), (4, vI a), (5, vI b), (6, vI t9), (7, vI cx)] [vI z225_34, vR 84, vI z215_33, vR 84] g225_34
                  refine TT_iald hK (o := 84) (n := 1280) (by decide) rfl (by first | omega | (simp [up, setR] <;> omega)) (by first | omega | (simp [up, setR] <;> omega)) (v := (h 84) z225_34) (rd_ (((hG_34.1 84 (by decide))).trans (((hG_33.1 84 (by decide))).trans ((sOf_ne _ _ (by decide)).trans ((sOf_ne _ _ (by decide)).trans (((hG_21.1 84 (by decide))).trans (((hG_19.1 84 (by decide))).trans (((hG_7.1 84 (by decide))).trans (((hG_4.1 84 (by decide))).trans (hG_1.1 84 (by decide)))))))))) rfl) dX12_wake_228 ?_
                  have r35 := ty_84 (i := z225_34) (v := (h 84) z225_34) hT_34 (rd_ (((hG_34.1 84 (by decide))).trans (((hG_33.1 84 (by decide))).trans ((sOf_ne _ _ (by decide)).trans ((sOf_ne _ _ (by decide)).trans (((hG_21.1 84 (by decide))).trans (((hG_19.1 84 (by decide))).trans (((hG_7.1 84 (by decide))).trans (((hG_4.1 84 (by decide))).trans (hG_1.1 84 (by decide)))))))))) rfl) (by omega) (by omega)
                  refine TT_iconst hK dX12_wake_229 ?_
                  refine TT_aload_n hK rfl 2 rfl dX12_wake_230 ?_
                  refine gf_X12_252 hK (by decide) rfl (v := (h 73) 27) ((congrFun (hG_34.1 73 (by decide)) 27).trans ((congrFun (hG_33.1 73 (by decide)) 27).trans ((congrFun ((sOf_ne _ _ (by decide)).trans ((sOf_ne _ _ (by decide)).trans (hG_21.1 73 (by decide)))) 27).trans (((hG_19.2 27 (by decide))).trans ((congrFun (hG_7.1 73 (by decide)) 27).trans ((congrFun (hG_4.1 73 (by decide)) 27).trans (congrFun (hG_1.1 73 (by decide)) 27))))))) dX12_wake_231 ?_
                  have r36 := ty_73_27 (v := (h 73) 27) hT_34 ((congrFun (hG_34.1 73 (by decide)) 27).trans ((congrFun (hG_33.1 73 (by decide)) 27).trans ((congrFun ((sOf_ne _ _ (by decide)).trans ((sOf_ne _ _ (by decide)).trans (hG_21.1 73 (by decide)))) 27).trans (((hG_19.2 27 (by decide))).trans ((congrFun (hG_7.1 73 (by decide)) 27).trans ((congrFun (hG_4.1 73 (by decide)) 27).trans (congrFun (hG_1.1 73 (by decide)) 27)))))))
                  refine TT_ishl_a hK dX12_wake_234 (fun x234_37 hx37 => ?_)
                  refine TT_ior hK dX12_wake_235 ?_
                  refine TT_w32 (fun x236_38 hx38 => ?_)
                  refine TT_iast hK (o := 84) (n := 1280) (by decide) rfl (by omega) (by omega) dX12_wake_236 ?_
                  refine TT_hp (h' := setO g225_34 84 (fup (h 84) z215_33 x236_38)) (up_can (((hG_34.1 84 (by decide))).trans (((hG_33.1 84 (by decide))).trans ((sOf_ne _ _ (by decide)).trans ((sOf_ne _ _ (by decide)).trans (((hG_21.1 84 (by decide))).trans (((hG_19.1 84 (by decide))).trans (((hG_7.1 84 (by decide))).trans (((hG_4.1 84 (by decide))).trans (hG_1.1 84 (by decide)))))))))) rfl rfl) ?_
                  have hT_39 : TY (setO g225_34 84 (fup (h 84) z215_33 x236_38)) := tu_84 hT_34 (show up g225_34 84 z215_33 x236_38 = (setO g225_34 84 (fup (h 84) z215_33 x236_38)) from up_can (((hG_34.1 84 (by decide))).trans (((hG_33.1 84 (by decide))).trans ((sOf_ne _ _ (by decide)).trans ((sOf_ne _ _ (by decide)).trans (((hG_21.1 84 (by decide))).trans (((hG_19.1 84 (by decide))).trans (((hG_7.1 84 (by decide))).trans (((hG_4.1 84 (by decide))).trans (hG_1.1 84 (by decide)))))))))) rfl rfl) (by omega)
                  have hF_39 : FRM [73, 84, 85, 93, 96, 97, 98] [28, 32, 33, 34, 36, 39] h (setO g225_34 84 (fup (h 84) z215_33 x236_38)) := FRM_up (show up g225_34 84 z215_33 x236_38 = (setO g225_34 84 (fup (h 84) z215_33 x236_38)) from up_can (((hG_34.1 84 (by decide))).trans (((hG_33.1 84 (by decide))).trans ((sOf_ne _ _ (by decide)).trans ((sOf_ne _ _ (by decide)).trans (((hG_21.1 84 (by decide))).trans (((hG_19.1 84 (by decide))).trans (((hG_7.1 84 (by decide))).trans (((hG_4.1 84 (by decide))).trans (hG_1.1 84 (by decide)))))))))) rfl rfl) hF_34 (by decide) (by decide)
                  refine TT_vret hK hQ ?_ dX12_wake_237
                  have e40_73_32 : (setO g225_34 84 (fup (h 84) z215_33 x236_38)) 73 32 = (g140_19 73) 32 := (congrFun ((sOf_ne _ _ (by decide)).trans (hG_34.1 73 (by decide))) 32).trans ((congrFun (hG_33.1 73 (by decide)) 32).trans (congrFun ((sOf_ne _ _ (by decide)).trans ((sOf_ne _ _ (by decide)).trans (hG_21.1 73 (by decide)))) 32))
                  have e41_73_34 : (setO g225_34 84 (fup (h 84) z215_33 x236_38)) 73 34 = (g140_19 73) 34 := (congrFun ((sOf_ne _ _ (by decide)).trans (hG_34.1 73 (by decide))) 34).trans ((congrFun (hG_33.1 73 (by decide)) 34).trans (congrFun ((sOf_ne _ _ (by decide)).trans ((sOf_ne _ _ (by decide)).trans (hG_21.1 73 (by decide)))) 34))
                  have e42_73_36 : (setO g225_34 84 (fup (h 84) z215_33 x236_38)) 73 36 = (g140_19 73) 36 := (congrFun ((sOf_ne _ _ (by decide)).trans (hG_34.1 73 (by decide))) 36).trans ((congrFun (hG_33.1 73 (by decide)) 36).trans (congrFun ((sOf_ne _ _ (by decide)).trans ((sOf_ne _ _ (by decide)).trans (hG_21.1 73 (by decide)))) 36))
                  have e43_96 : (setO g225_34 84 (fup (h 84) z215_33 x236_38)) 96 = g140_19 96 := (sOf_ne _ _ (by decide)).trans (((hG_34.1 96 (by decide))).trans (((hG_33.1 96 (by decide))).trans ((sOf_ne _ _ (by decide)).trans ((sOf_ne _ _ (by decide)).trans (hG_21.1 96 (by decide))))))
                  have e44_93 : (setO g225_34 84 (fup (h 84) z215_33 x236_38)) 93 = fup (h 93) (10 * y + x + 11) 1 := (sOf_ne _ _ (by decide)).trans (((hG_34.1 93 (by decide))).trans (((hG_33.1 93 (by decide))).trans (sOf_eq _ _ _)))
                  exact ⟨⟨hT_39, hF_39⟩, rfl, (by rewrite [e40_73_32]; omega), (by rewrite [e41_73_34, e42_73_36, e43_96]; omega), (by rewrite [e44_93]; intro w e h1 h2 h3 h4 h5; exact ZC_up ⟨hx.1, h1⟩ h2 ⟨hy.1, h3⟩ h4 h5 (by decide))⟩
              · exfalso; omega
            · refine TT_iconst hK dX12_wake_177 ?_
              refine TT_goto hK (tgt := 182) dX12_wake_178 (by decide) ?_
              refine TT_zast hK (o := 85) (n := 1280) (by decide) rfl (by omega) (by omega) (by first | decide | omega) dX12_wake_182 ?_
              refine TT_hp (h' := setO g168_21 85 (fup (h 85) z168_21 1)) (up_can (((hG_21.1 85 (by decide))).trans (((hG_19.1 85 (by decide))).trans (((hG_7.1 85 (by decide))).trans (((hG_4.1 85 (by decide))).trans (hG_1.1 85 (by decide)))))) rfl rfl) ?_
              have hT_45 : TY (setO g168_21 85 (fup (h 85) z168_21 1)) := tu_85 hT_21 (show up g168_21 85 z168_21 1 = (setO g168_21 85 (fup (h 85) z168_21 1)) from up_can (((hG_21.1 85 (by decide))).trans (((hG_19.1 85 (by decide))).trans (((hG_7.1 85 (by decide))).trans (((hG_4.1 85 (by decide))).trans (hG_1.1 85 (by decide)))))) rfl rfl) (by omega)
              have hF_45 : FRM [73, 84, 85, 93, 96, 97, 98] [28, 32, 33, 34, 36, 39] h (setO g168_21 85 (fup (h 85) z168_21 1)) := FRM_up (show up g168_21 85 z168_21 1 = (setO g168_21 85 (fup (h 85) z168_21 1)) from up_can (((hG_21.1 85 (by decide))).trans (((hG_19.1 85 (by decide))).trans (((hG_7.1 85 (by decide))).trans (((hG_4.1 85 (by decide))).trans (hG_1.1 85 (by decide)))))) rfl rfl) hF_21 (by decide) (by decide)
              refine TT_aload_n hK rfl 2 rfl dX12_wake_183 ?_
              refine gf_X12_75 hK (by decide) rfl (q := 93) rfl rfl dX12_wake_184 ?_
              refine TT_iload_n hK rfl 5 rfl dX12_wake_187 ?_
              refine TT_iload hK 0 rfl dX12_wake_188 ?_
              refine TT_iconst hK dX12_wake_190 ?_
              refine TT_icmp_ne hK (tgt := 198) (irm (by omega) (by omega)) (by decide) dX12_wake_191 (by decide) (fun hb191_46 => ?_) (fun hb191_46 => ?_)
              · exfalso; omega
              · refine TT_iconst hK dX12_wake_194 ?_
                refine TT_goto hK (tgt := 199) dX12_wake_195 (by decide) ?_
                refine TT_iast hK (o := 93) (n := 100) (by decide) rfl (by omega) (by omega) dX12_wake_199 ?_
                refine TT_hp (h' := setO (setO g168_21 85 (fup (h 85) z168_21 1)) 93 (fup (h 93) (10 * y + x + 11) (-1))) (up_can ((sOf_ne _ _ (by decide)).trans (((hG_21.1 93 (by decide))).trans (((hG_19.1 93 (by decide))).trans (((hG_7.1 93 (by decide))).trans (((hG_4.1 93 (by decide))).trans (hG_1.1 93 (by decide))))))) rfl rfl) ?_
                have hT_47 : TY (setO (setO g168_21 85 (fup (h 85) z168_21 1)) 93 (fup (h 93) (10 * y + x + 11) (-1))) := tu_93 hT_45 (show up (setO g168_21 85 (fup (h 85) z168_21 1)) 93 (10 * y + x + 11) (-1) = (setO (setO g168_21 85 (fup (h 85) z168_21 1)) 93 (fup (h 93) (10 * y + x + 11) (-1))) from up_can ((sOf_ne _ _ (by decide)).trans (((hG_21.1 93 (by decide))).trans (((hG_19.1 93 (by decide))).trans (((hG_7.1 93 (by decide))).trans (((hG_4.1 93 (by decide))).trans (hG_1.1 93 (by decide))))))) rfl rfl) (by omega)
                have hF_47 : FRM [73, 84, 85, 93, 96, 97, 98] [28, 32, 33, 34, 36, 39] h (setO (setO g168_21 85 (fup (h 85) z168_21 1)) 93 (fup (h 93) (10 * y + x + 11) (-1))) := FRM_up (show up (setO g168_21 85 (fup (h 85) z168_21 1)) 93 (10 * y + x + 11) (-1) = (setO (setO g168_21 85 (fup (h 85) z168_21 1)) 93 (fup (h 93) (10 * y + x + 11) (-1))) from up_can ((sOf_ne _ _ (by decide)).trans (((hG_21.1 93 (by decide))).trans (((hG_19.1 93 (by decide))).trans (((hG_7.1 93 (by decide))).trans (((hG_4.1 93 (by decide))).trans (hG_1.1 93 (by decide))))))) rfl rfl) hF_45 (by decide) (by decide)
                refine TT_aload_n hK rfl 2 rfl dX12_wake_200 ?_
                refine gf_X12_163 hK (by decide) rfl (v := (h 73) 29) ((congrFun ((sOf_ne _ _ (by decide)).trans ((sOf_ne _ _ (by decide)).trans (hG_21.1 73 (by decide)))) 29).trans (((hG_19.2 29 (by decide))).trans ((congrFun (hG_7.1 73 (by decide)) 29).trans ((congrFun (hG_4.1 73 (by decide)) 29).trans (congrFun (hG_1.1 73 (by decide)) 29))))) dX12_wake_201 ?_
                have r48 := ty_73_29 (v := (h 73) 29) hT_47 ((congrFun ((sOf_ne _ _ (by decide)).trans ((sOf_ne _ _ (by decide)).trans (hG_21.1 73 (by decide)))) 29).trans (((hG_19.2 29 (by decide))).trans ((congrFun (hG_7.1 73 (by decide)) 29).trans ((congrFun (hG_4.1 73 (by decide)) 29).trans (congrFun (hG_1.1 73 (by decide)) 29)))))
                refine TT_iconst hK dX12_wake_204 ?_
                refine TT_icmp_ne hK (tgt := 237) (irm (by omega) (by omega)) (by decide) dX12_wake_205 (by decide) (fun hb205_49 => ?_) (fun hb205_49 => ?_)
                · refine TT_vret hK hQ ?_ dX12_wake_237
                  have e50_73_32 : (setO (setO g168_21 85 (fup (h 85) z168_21 1)) 93 (fup (h 93) (10 * y + x + 11) (-1))) 73 32 = (g140_19 73) 32 := congrFun ((sOf_ne _ _ (by decide)).trans ((sOf_ne _ _ (by decide)).trans (hG_21.1 73 (by decide)))) 32
                  have e51_73_34 : (setO (setO g168_21 85 (fup (h 85) z168_21 1)) 93 (fup (h 93) (10 * y + x + 11) (-1))) 73 34 = (g140_19 73) 34 := congrFun ((sOf_ne _ _ (by decide)).trans ((sOf_ne _ _ (by decide)).trans (hG_21.1 73 (by decide)))) 34
                  have e52_73_36 : (setO (setO g168_21 85 (fup (h 85) z168_21 1)) 93 (fup (h 93) (10 * y + x + 11) (-1))) 73 36 = (g140_19 73) 36 := congrFun ((sOf_ne _ _ (by decide)).trans ((sOf_ne _ _ (by decide)).trans (hG_21.1 73 (by decide)))) 36
                  have e53_96 : (setO (setO g168_21 85 (fup (h 85) z168_21 1)) 93 (fup (h 93) (10 * y + x + 11) (-1))) 96 = g140_19 96 := (sOf_ne _ _ (by decide)).trans ((sOf_ne _ _ (by decide)).trans (hG_21.1 96 (by decide)))
                  have e54_93 : (setO (setO g168_21 85 (fup (h 85) z168_21 1)) 93 (fup (h 93) (10 * y + x + 11) (-1))) 93 = fup (h 93) (10 * y + x + 11) (-1) := sOf_eq _ _ _
                  exact ⟨⟨hT_47, hF_47⟩, rfl, (by rewrite [e50_73_32]; omega), (by rewrite [e51_73_34, e52_73_36, e53_96]; omega), (by rewrite [e54_93]; intro w e h1 h2 h3 h4 h5; exact ZC_up ⟨hx.1, h1⟩ h2 ⟨hy.1, h3⟩ h4 h5 (by decide))⟩
                · refine TT_aload_n hK rfl 2 rfl dX12_wake_208 ?_
                  refine gf_X12_47 hK (by decide) rfl (q := 84) rfl rfl dX12_wake_209 ?_
                  refine TT_aload_n hK rfl 2 rfl dX12_wake_212 ?_
                  refine TT_iload_n hK rfl 3 rfl dX12_wake_213 ?_
                  refine TT_iload_n hK rfl 4 rfl dX12_wake_214 ?_
                  refine iv_X12_249 hK (s_X12_cell_73 x y (setO (setO g168_21 85 (fup (h 85) z168_21 1)) 93 (fup (h 93) (10 * y + x + 11) (-1))) hT_47 (by first | omega | (simp [up, setR] <;> omega)) (by first | omega | (simp [up, setR] <;> omega))) (by decide) rfl ⟨by decide, by decide⟩ (by decide) rfl rfl (Nat.le_of_ble_eq_true rfl) ⟨by decide, by decide⟩ dX12_wake_215 ?_
                  intro r9 g215_55 hp9
                  obtain ⟨⟨hT_55, hG_55⟩, z215_55, hr9, hz_55, p1_55⟩ := hp9
                  rw [hr9]
                  have hF_55 : FRM [73, 84, 85, 93, 96, 97, 98] [28, 32, 33, 34, 36, 39] h g215_55 := FRM_tr hF_47 hG_55 (by decide) (by decide)
                  rw [show (setO (setO g168_21 85 (fup (h 85) z168_21 1)) 93 (fup (h 93) (10 * y + x + 11) (-1))) 73 26 = (h 73) 26 from (congrFun ((sOf_ne _ _ (by decide)).trans ((sOf_ne _ _ (by decide)).trans (hG_21.1 73 (by decide)))) 26).trans (((hG_19.2 26 (by decide))).trans ((congrFun (hG_7.1 73 (by decide)) 26).trans ((congrFun (hG_4.1 73 (by decide)) 26).trans (congrFun (hG_1.1 73 (by decide)) 26))))] at p1_55
                  show TT K ly 0 0 218 [(8, vI z140_19), (9, vI z140_19), (0, vR 73), (1, vI x), (2, vI y), (3, vI (10 * y + x + 11)), (4, vI a), (5, vI b), (6, vI t9), (7, vI cx)] [vI z215_55, vR 84] g215_55
                  refine TT_aload_n hK rfl 2 rfl dX12_wake_218 ?_
                  refine gf_X12_47 hK (by decide) rfl (q := 84) rfl rfl dX12_wake_219 ?_
                  refine TT_aload_n hK rfl 2 rfl dX12_wake_222 ?_
                  refine TT_iload_n hK rfl 3 rfl dX12_wake_223 ?_
                  refine TT_iload_n hK rfl 4 rfl dX12_wake_224 ?_
                  refine iv_X12_249 hK (s_X12_cell_73 x y g215_55 hT_55 (by first | omega | (simp [up, setR] <;> omega)) (by first | omega | (simp [up, setR] <;> omega))) (by decide) rfl ⟨by decide, by decide⟩ (by decide) rfl rfl (Nat.le_of_ble_eq_true rfl) ⟨by decide, by decide⟩ dX12_wake_225 ?_
                  intro r9 g225_56 hp9
                  obtain ⟨⟨hT_56, hG_56⟩, z225_56, hr9, hz_56, p1_56⟩ := hp9
                  rw [hr9]
                  have hF_56 : FRM [73, 84, 85, 93, 96, 97, 98] [28, 32, 33, 34, 36, 39] h g225_56 := FRM_tr hF_55 hG_56 (by decide) (by decide)
                  rw [show g215_55 73 26 = (h 73) 26 from (congrFun (hG_55.1 73 (by decide)) 26).trans ((congrFun ((sOf_ne _ _ (by decide)).trans ((sOf_ne _ _ (by decide)).trans (hG_21.1 73 (by decide)))) 26).trans (((hG_19.2 26 (by decide))).trans ((congrFun (hG_7.1 73 (by decide)) 26).trans ((congrFun (hG_4.1 73 (by decide)) 26).trans (congrFun (hG_1.1 73 (by decide)) 26)))))] at p1_56
                  show TT K ly 0 0 228 [(8, vI z140_19), (9, vI z140_19), (0, vR 73), (1, vI x), (2, vI y), (3, vI (10 * y + x + 11)), (4, vI a), (5, vI b), (6, vI t9), (7, vI cx)] [vI z225_56, vR 84, vI z215_55, vR 84] g225_56
                  refine TT_iald hK (o := 84) (n := 1280) (by decide) rfl (by first | omega | (simp [up, setR] <;> omega)) (by first | omega | (simp [up, setR] <;> omega)) (v := (h 84) z225_56) (rd_ (((hG_56.1 84 (by decide))).trans (((hG_55.1 84 (by decide))).trans ((sOf_ne _ _ (by decide)).trans ((sOf_ne _ _ (by decide)).trans (((hG_21.1 84 (by decide))).trans (((hG_19.1 84 (by decide))).trans (((hG_7.1 84 (by decide))).trans (((hG_4.1 84 (by decide))).trans (hG_1.1 84 (by decide)))))))))) rfl) dX12_wake_228 ?_
                  have r57 := ty_84 (i := z225_56) (v := (h 84) z225_56) hT_56 (rd_ (((hG_56.1 84 (by decide))).trans (((hG_55.1 84 (by decide))).trans ((sOf_ne _ _ (by decide)).trans ((sOf_ne _ _ (by decide)).trans (((hG_21.1 84 (by decide))).trans (((hG_19.1 84 (by decide))).trans (((hG_7.1 84 (by decide))).trans (((hG_4.1 84 (by decide))).trans (hG_1.1 84 (by decide)))))))))) rfl) (by omega) (by omega)
                  refine TT_iconst hK dX12_wake_229 ?_
                  refine TT_aload_n hK rfl 2 rfl dX12_wake_230 ?_
                  refine gf_X12_252 hK (by decide) rfl (v := (h 73) 27) ((congrFun (hG_56.1 73 (by decide)) 27).trans ((congrFun (hG_55.1 73 (by decide)) 27).trans ((congrFun ((sOf_ne _ _ (by decide)).trans ((sOf_ne _ _ (by decide)).trans (hG_21.1 73 (by decide)))) 27).trans (((hG_19.2 27 (by decide))).trans ((congrFun (hG_7.1 73 (by decide)) 27).trans ((congrFun (hG_4.1 73 (by decide)) 27).trans (congrFun (hG_1.1 73 (by decide)) 27))))))) dX12_wake_231 ?_
                  have r58 := ty_73_27 (v := (h 73) 27) hT_56 ((congrFun (hG_56.1 73 (by decide)) 27).trans ((congrFun (hG_55.1 73 (by decide)) 27).trans ((congrFun ((sOf_ne _ _ (by decide)).trans ((sOf_ne _ _ (by decide)).trans (hG_21.1 73 (by decide)))) 27).trans (((hG_19.2 27 (by decide))).trans ((congrFun (hG_7.1 73 (by decide)) 27).trans ((congrFun (hG_4.1 73 (by decide)) 27).trans (congrFun (hG_1.1 73 (by decide)) 27)))))))
                  refine TT_ishl_a hK dX12_wake_234 (fun x234_59 hx59 => ?_)
                  refine TT_ior hK dX12_wake_235 ?_
                  refine TT_w32 (fun x236_60 hx60 => ?_)
                  refine TT_iast hK (o := 84) (n := 1280) (by decide) rfl (by omega) (by omega) dX12_wake_236 ?_
                  refine TT_hp (h' := setO g225_56 84 (fup (h 84) z215_55 x236_60)) (up_can (((hG_56.1 84 (by decide))).trans (((hG_55.1 84 (by decide))).trans ((sOf_ne _ _ (by decide)).trans ((sOf_ne _ _ (by decide)).trans (((hG_21.1 84 (by decide))).trans (((hG_19.1 84 (by decide))).trans (((hG_7.1 84 (by decide))).trans (((hG_4.1 84 (by decide))).trans (hG_1.1 84 (by decide)))))))))) rfl rfl) ?_
                  have hT_61 : TY (setO g225_56 84 (fup (h 84) z215_55 x236_60)) := tu_84 hT_56 (show up g225_56 84 z215_55 x236_60 = (setO g225_56 84 (fup (h 84) z215_55 x236_60)) from up_can (((hG_56.1 84 (by decide))).trans (((hG_55.1 84 (by decide))).trans ((sOf_ne _ _ (by decide)).trans ((sOf_ne _ _ (by decide)).trans (((hG_21.1 84 (by decide))).trans (((hG_19.1 84 (by decide))).trans (((hG_7.1 84 (by decide))).trans (((hG_4.1 84 (by decide))).trans (hG_1.1 84 (by decide)))))))))) rfl rfl) (by omega)
                  have hF_61 : FRM [73, 84, 85, 93, 96, 97, 98] [28, 32, 33, 34, 36, 39] h (setO g225_56 84 (fup (h 84) z215_55 x236_60)) := FRM_up (show up g225_56 84 z215_55 x236_60 = (setO g225_56 84 (fup (h 84) z215_55 x236_60)) from up_can (((hG_56.1 84 (by decide))).trans (((hG_55.1 84 (by decide))).trans ((sOf_ne _ _ (by decide)).trans ((sOf_ne _ _ (by decide)).trans (((hG_21.1 84 (by decide))).trans (((hG_19.1 84 (by decide))).trans (((hG_7.1 84 (by decide))).trans (((hG_4.1 84 (by decide))).trans (hG_1.1 84 (by decide)))))))))) rfl rfl) hF_56 (by decide) (by decide)
                  refine TT_vret hK hQ ?_ dX12_wake_237
                  have e62_73_32 : (setO g225_56 84 (fup (h 84) z215_55 x236_60)) 73 32 = (g140_19 73) 32 := (congrFun ((sOf_ne _ _ (by decide)).trans (hG_56.1 73 (by decide))) 32).trans ((congrFun (hG_55.1 73 (by decide)) 32).trans (congrFun ((sOf_ne _ _ (by decide)).trans ((sOf_ne _ _ (by decide)).trans (hG_21.1 73 (by decide)))) 32))
                  have e63_73_34 : (setO g225_56 84 (fup (h 84) z215_55 x236_60)) 73 34 = (g140_19 73) 34 := (congrFun ((sOf_ne _ _ (by decide)).trans (hG_56.1 73 (by decide))) 34).trans ((congrFun (hG_55.1 73 (by decide)) 34).trans (congrFun ((sOf_ne _ _ (by decide)).trans ((sOf_ne _ _ (by decide)).trans (hG_21.1 73 (by decide)))) 34))
                  have e64_73_36 : (setO g225_56 84 (fup (h 84) z215_55 x236_60)) 73 36 = (g140_19 73) 36 := (congrFun ((sOf_ne _ _ (by decide)).trans (hG_56.1 73 (by decide))) 36).trans ((congrFun (hG_55.1 73 (by decide)) 36).trans (congrFun ((sOf_ne _ _ (by decide)).trans ((sOf_ne _ _ (by decide)).trans (hG_21.1 73 (by decide)))) 36))
                  have e65_96 : (setO g225_56 84 (fup (h 84) z215_55 x236_60)) 96 = g140_19 96 := (sOf_ne _ _ (by decide)).trans (((hG_56.1 96 (by decide))).trans (((hG_55.1 96 (by decide))).trans ((sOf_ne _ _ (by decide)).trans ((sOf_ne _ _ (by decide)).trans (hG_21.1 96 (by decide))))))
                  have e66_93 : (setO g225_56 84 (fup (h 84) z215_55 x236_60)) 93 = fup (h 93) (10 * y + x + 11) (-1) := (sOf_ne _ _ (by decide)).trans (((hG_56.1 93 (by decide))).trans (((hG_55.1 93 (by decide))).trans (sOf_eq _ _ _)))
                  exact ⟨⟨hT_61, hF_61⟩, rfl, (by rewrite [e62_73_32]; omega), (by rewrite [e63_73_34, e64_73_36, e65_96]; omega), (by rewrite [e66_93]; intro w e h1 h2 h3 h4 h5; exact ZC_up ⟨hx.1, h1⟩ h2 ⟨hy.1, h3⟩ h4 h5 (by decide))⟩
          · exfalso; omega
        · refine TT_iconst hK dX12_wake_131 ?_
          refine TT_iload hK 8 rfl dX12_wake_132 ?_
          refine TT_isub hK dX12_wake_134 ?_
          refine TT_goto hK (tgt := 140) dX12_wake_135 (by decide) ?_
          have e67_74 : g47_7 74 = h 74 := ((hG_7.1 74 (by decide))).trans (((hG_4.1 74 (by decide))).trans (hG_1.1 74 (by decide)))
          have e68_75 : g47_7 75 = h 75 := ((hG_7.1 75 (by decide))).trans (((hG_4.1 75 (by decide))).trans (hG_1.1 75 (by decide)))
          have e69_73_32 : g47_7 73 32 = (h 73) 32 := (congrFun (hG_7.1 73 (by decide)) 32).trans ((congrFun (hG_4.1 73 (by decide)) 32).trans (congrFun (hG_1.1 73 (by decide)) 32))
          have e70_73_29 : g47_7 73 29 = (h 73) 29 := (congrFun (hG_7.1 73 (by decide)) 29).trans ((congrFun (hG_4.1 73 (by decide)) 29).trans (congrFun (hG_1.1 73 (by decide)) 29))
          have e71_73_34 : g47_7 73 34 = (h 73) 34 := (congrFun (hG_7.1 73 (by decide)) 34).trans ((congrFun (hG_4.1 73 (by decide)) 34).trans (congrFun (hG_1.1 73 (by decide)) 34))
          have e72_73_36 : g47_7 73 36 = (h 73) 36 := (congrFun (hG_7.1 73 (by decide)) 36).trans ((congrFun (hG_4.1 73 (by decide)) 36).trans (congrFun (hG_1.1 73 (by decide)) 36))
          have e73_96 : g47_7 96 = h 96 := ((hG_7.1 96 (by decide))).trans (((hG_4.1 96 (by decide))).trans (hG_1.1 96 (by decide)))
          refine iv_X12_258 hK (s_X12_code_73 cx (1 - sg) g47_7 hT_7 (by first | omega | (simp [up, setR] <;> omega)) (by first | omega | (simp [up, setR] <;> omega)) (by rewrite [e67_74, e68_75]; first | assumption | exact htb) (by rewrite [e69_73_32]; first | omega | (simp [up, setR] <;> omega)) (by rewrite [e70_73_29, e71_73_34, e72_73_36, e73_96]; first | omega | (simp [up, setR] <;> omega))) (by decide) rfl ⟨by decide, by decide⟩ (by decide) rfl rfl (Nat.le_of_ble_eq_true rfl) ⟨by decide, by decide⟩ dX12_wake_140 ?_
          intro r9 g140_74 hp9
          obtain ⟨⟨hT_74, hG_74⟩, z140_74, hr9, hz_74, pa_74, pm_74⟩ := hp9
          rw [hr9]
          have hF_74 : FRM [73, 84, 85, 93, 96, 97, 98] [28, 32, 33, 34, 36, 39] h g140_74 := FRM_tr hF_7 hG_74 (by decide) (by decide)
          rw [show g47_7 73 29 = (h 73) 29 from (congrFun (hG_7.1 73 (by decide)) 29).trans ((congrFun (hG_4.1 73 (by decide)) 29).trans (congrFun (hG_1.1 73 (by decide)) 29))] at pm_74
          rw [show g47_7 73 34 = (h 73) 34 from (congrFun (hG_7.1 73 (by decide)) 34).trans ((congrFun (hG_4.1 73 (by decide)) 34).trans (congrFun (hG_1.1 73 (by decide)) 34))] at pm_74
          rw [show g47_7 73 36 = (h 73) 36 from (congrFun (hG_7.1 73 (by decide)) 36).trans ((congrFun (hG_4.1 73 (by decide)) 36).trans (congrFun (hG_1.1 73 (by decide)) 36))] at pm_74
          rw [show g47_7 96 = h 96 from ((hG_7.1 96 (by decide))).trans (((hG_4.1 96 (by decide))).trans (hG_1.1 96 (by decide)))] at pm_74
          show TT K ly 0 0 143 [(0, vR 73), (1, vI x), (2, vI y), (3, vI (10 * y + x + 11)), (4, vI a), (5, vI b), (6, vI t9), (7, vI cx), (8, vI sg)] [vI z140_74] g140_74
          refine TT_istore hK (lv' := [(9, vI z140_74), (0, vR 73), (1, vI x), (2, vI y), (3, vI (10 * y + x + 11)), (4, vI a), (5, vI b), (6, vI t9), (7, vI cx), (8, vI sg)]) (by decide) rfl dX12_wake_143 ?_
          refine TT_iload hK 7 rfl dX12_wake_145 ?_
          refine TT_if_eq hK (tgt := 157) (irm (by omega) (by omega)) dX12_wake_147 (by decide) (fun hb147_75 => ?_) (fun hb147_75 => ?_)
          · exfalso; omega
          · refine TT_iconst hK dX12_wake_150 ?_
            refine TT_iload hK 0 rfl dX12_wake_151 ?_
            refine TT_isub hK dX12_wake_153 ?_
            refine TT_goto hK (tgt := 159) dX12_wake_154 (by decide) ?_
            refine TT_istore hK (lv' := [(8, vI (1 - z140_74)), (9, vI z140_74), (0, vR 73), (1, vI x), (2, vI y), (3, vI (10 * y + x + 11)), (4, vI a), (5, vI b), (6, vI t9), (7, vI cx)]) (by decide) rfl dX12_wake_159 ?_
            refine TT_aload_n hK rfl 2 rfl dX12_wake_161 ?_
            refine gf_X12_50 hK (by decide) rfl (q := 85) rfl rfl dX12_wake_162 ?_
            refine TT_aload_n hK rfl 2 rfl dX12_wake_165 ?_
            refine TT_iload_n hK rfl 3 rfl dX12_wake_166 ?_
            refine TT_iload_n hK rfl 4 rfl dX12_wake_167 ?_
            refine iv_X12_249 hK (s_X12_cell_73 x y g140_74 hT_74 (by first | omega | (simp [up, setR] <;> omega)) (by first | omega | (simp [up, setR] <;> omega))) (by decide) rfl ⟨by decide, by decide⟩ (by decide) rfl rfl (Nat.le_of_ble_eq_true rfl) ⟨by decide, by decide⟩ dX12_wake_168 ?_
            intro r9 g168_76 hp9
            obtain ⟨⟨hT_76, hG_76⟩, z168_76, hr9, hz_76, p1_76⟩ := hp9
            rw [hr9]
            have hF_76 : FRM [73, 84, 85, 93, 96, 97, 98] [28, 32, 33, 34, 36, 39] h g168_76 := FRM_tr hF_74 hG_76 (by decide) (by decide)
            rw [show g140_74 73 26 = (h 73) 26 from ((hG_74.2 26 (by decide))).trans ((congrFun (hG_7.1 73 (by decide)) 26).trans ((congrFun (hG_4.1 73 (by decide)) 26).trans (congrFun (hG_1.1 73 (by decide)) 26)))] at p1_76
            show TT K ly 0 0 171 [(8, vI (1 - z140_74)), (9, vI z140_74), (0, vR 73), (1, vI x), (2, vI y), (3, vI (10 * y + x + 11)), (4, vI a), (5, vI b), (6, vI t9), (7, vI cx)] [vI z168_76, vR 85] g168_76
            refine TT_iload hK 0 rfl dX12_wake_171 ?_
            refine TT_iconst hK dX12_wake_173 ?_
            refine TT_icmp_ne hK (tgt := 181) (irm (by omega) (by omega)) (by decide) dX12_wake_174 (by decide) (fun hb174_77 => ?_) (fun hb174_77 => ?_)
            · refine TT_iconst hK dX12_wake_181 ?_
              refine TT_zast hK (o := 85) (n := 1280) (by decide) rfl (by omega) (by omega) (by first | decide | omega) dX12_wake_182 ?_
              refine TT_hp (h' := setO g168_76 85 (fup (h 85) z168_76 0)) (up_can (((hG_76.1 85 (by decide))).trans (((hG_74.1 85 (by decide))).trans (((hG_7.1 85 (by decide))).trans (((hG_4.1 85 (by decide))).trans (hG_1.1 85 (by decide)))))) rfl rfl) ?_
              have hT_78 : TY (setO g168_76 85 (fup (h 85) z168_76 0)) := tu_85 hT_76 (show up g168_76 85 z168_76 0 = (setO g168_76 85 (fup (h 85) z168_76 0)) from up_can (((hG_76.1 85 (by decide))).trans (((hG_74.1 85 (by decide))).trans (((hG_7.1 85 (by decide))).trans (((hG_4.1 85 (by decide))).trans (hG_1.1 85 (by decide)))))) rfl rfl) (by omega)
              have hF_78 : FRM [73, 84, 85, 93, 96, 97, 98] [28, 32, 33, 34, 36, 39] h (setO g168_76 85 (fup (h 85) z168_76 0)) := FRM_up (show up g168_76 85 z168_76 0 = (setO g168_76 85 (fup (h 85) z168_76 0)) from up_can (((hG_76.1 85 (by decide))).trans (((hG_74.1 85 (by decide))).trans (((hG_7.1 85 (by decide))).trans (((hG_4.1 85 (by decide))).trans (hG_1.1 85 (by decide)))))) rfl rfl) hF_76 (by decide) (by decide)
              refine TT_aload_n hK rfl 2 rfl dX12_wake_183 ?_
              refine gf_X12_75 hK (by decide) rfl (q := 93) rfl rfl dX12_wake_184 ?_
              refine TT_iload_n hK rfl 5 rfl dX12_wake_187 ?_
              refine TT_iload hK 0 rfl dX12_wake_188 ?_
              refine TT_iconst hK dX12_wake_190 ?_
              refine TT_icmp_ne hK (tgt := 198) (irm (by omega) (by omega)) (by decide) dX12_wake_191 (by decide) (fun hb191_79 => ?_) (fun hb191_79 => ?_)
              · refine TT_iconst hK dX12_wake_198 ?_
                refine TT_iast hK (o := 93) (n := 100) (by decide) rfl (by omega) (by omega) dX12_wake_199 ?_
                refine TT_hp (h' := setO (setO g168_76 85 (fup (h 85) z168_76 0)) 93 (fup (h 93) (10 * y + x + 11) 1)) (up_can ((sOf_ne _ _ (by decide)).trans (((hG_76.1 93 (by decide))).trans (((hG_74.1 93 (by decide))).trans (((hG_7.1 93 (by decide))).trans (((hG_4.1 93 (by decide))).trans (hG_1.1 93 (by decide))))))) rfl rfl) ?_
                have hT_80 : TY (setO (setO g168_76 85 (fup (h 85) z168_76 0)) 93 (fup (h 93) (10 * y + x + 11) 1)) := tu_93 hT_78 (show up (setO g168_76 85 (fup (h 85) z168_76 0)) 93 (10 * y + x + 11) 1 = (setO (setO g168_76 85 (fup (h 85) z168_76 0)) 93 (fup (h 93) (10 * y + x + 11) 1)) from up_can ((sOf_ne _ _ (by decide)).trans (((hG_76.1 93 (by decide))).trans (((hG_74.1 93 (by decide))).trans (((hG_7.1 93 (by decide))).trans (((hG_4.1 93 (by decide))).trans (hG_1.1 93 (by decide))))))) rfl rfl) (by omega)
                have hF_80 : FRM [73, 84, 85, 93, 96, 97, 98] [28, 32, 33, 34, 36, 39] h (setO (setO g168_76 85 (fup (h 85) z168_76 0)) 93 (fup (h 93) (10 * y + x + 11) 1)) := FRM_up (show up (setO g168_76 85 (fup (h 85) z168_76 0)) 93 (10 * y + x + 11) 1 = (setO (setO g168_76 85 (fup (h 85) z168_76 0)) 93 (fup (h 93) (10 * y + x + 11) 1)) from up_can ((sOf_ne _ _ (by decide)).trans (((hG_76.1 93 (by decide))).trans (((hG_74.1 93 (by decide))).trans (((hG_7.1 93 (by decide))).trans (((hG_4.1 93 (by decide))).trans (hG_1.1 93 (by decide))))))) rfl rfl) hF_78 (by decide) (by decide)
                refine TT_aload_n hK rfl 2 rfl dX12_wake_200 ?_
                refine gf_X12_163 hK (by decide) rfl (v := (h 73) 29) ((congrFun ((sOf_ne _ _ (by decide)).trans ((sOf_ne _ _ (by decide)).trans (hG_76.1 73 (by decide)))) 29).trans (((hG_74.2 29 (by decide))).trans ((congrFun (hG_7.1 73 (by decide)) 29).trans ((congrFun (hG_4.1 73 (by decide)) 29).trans (congrFun (hG_1.1 73 (by decide)) 29))))) dX12_wake_201 ?_
                have r81 := ty_73_29 (v := (h 73) 29) hT_80 ((congrFun ((sOf_ne _ _ (by decide)).trans ((sOf_ne _ _ (by decide)).trans (hG_76.1 73 (by decide)))) 29).trans (((hG_74.2 29 (by decide))).trans ((congrFun (hG_7.1 73 (by decide)) 29).trans ((congrFun (hG_4.1 73 (by decide)) 29).trans (congrFun (hG_1.1 73 (by decide)) 29)))))
                refine TT_iconst hK dX12_wake_204 ?_
                refine TT_icmp_ne hK (tgt := 237) (irm (by omega) (by omega)) (by decide) dX12_wake_205 (by decide) (fun hb205_82 => ?_) (fun hb205_82 => ?_)
                · refine TT_vret hK hQ ?_ dX12_wake_237
                  have e83_73_32 : (setO (setO g168_76 85 (fup (h 85) z168_76 0)) 93 (fup (h 93) (10 * y + x + 11) 1)) 73 32 = (g140_74 73) 32 := congrFun ((sOf_ne _ _ (by decide)).trans ((sOf_ne _ _ (by decide)).trans (hG_76.1 73 (by decide)))) 32
                  have e84_73_34 : (setO (setO g168_76 85 (fup (h 85) z168_76 0)) 93 (fup (h 93) (10 * y + x + 11) 1)) 73 34 = (g140_74 73) 34 := congrFun ((sOf_ne _ _ (by decide)).trans ((sOf_ne _ _ (by decide)).trans (hG_76.1 73 (by decide)))) 34
                  have e85_73_36 : (setO (setO g168_76 85 (fup (h 85) z168_76 0)) 93 (fup (h 93) (10 * y + x + 11) 1)) 73 36 = (g140_74 73) 36 := congrFun ((sOf_ne _ _ (by decide)).trans ((sOf_ne _ _ (by decide)).trans (hG_76.1 73 (by decide)))) 36
                  have e86_96 : (setO (setO g168_76 85 (fup (h 85) z168_76 0)) 93 (fup (h 93) (10 * y + x + 11) 1)) 96 = g140_74 96 := (sOf_ne _ _ (by decide)).trans ((sOf_ne _ _ (by decide)).trans (hG_76.1 96 (by decide)))
                  have e87_93 : (setO (setO g168_76 85 (fup (h 85) z168_76 0)) 93 (fup (h 93) (10 * y + x + 11) 1)) 93 = fup (h 93) (10 * y + x + 11) 1 := sOf_eq _ _ _
                  exact ⟨⟨hT_80, hF_80⟩, rfl, (by rewrite [e83_73_32]; omega), (by rewrite [e84_73_34, e85_73_36, e86_96]; omega), (by rewrite [e87_93]; intro w e h1 h2 h3 h4 h5; exact ZC_up ⟨hx.1, h1⟩ h2 ⟨hy.1, h3⟩ h4 h5 (by decide))⟩
                · refine TT_aload_n hK rfl 2 rfl dX12_wake_208 ?_
                  refine gf_X12_47 hK (by decide) rfl (q := 84) rfl rfl dX12_wake_209 ?_
                  refine TT_aload_n hK rfl 2 rfl dX12_wake_212 ?_
                  refine TT_iload_n hK rfl 3 rfl dX12_wake_213 ?_
                  refine TT_iload_n hK rfl 4 rfl dX12_wake_214 ?_
                  refine iv_X12_249 hK (s_X12_cell_73 x y (setO (setO g168_76 85 (fup (h 85) z168_76 0)) 93 (fup (h 93) (10 * y + x + 11) 1)) hT_80 (by first | omega | (simp [up, setR] <;> omega)) (by first | omega | (simp [up, setR] <;> omega))) (by decide) rfl ⟨by decide, by decide⟩ (by decide) rfl rfl (Nat.le_of_ble_eq_true rfl) ⟨by decide, by decide⟩ dX12_wake_215 ?_
                  intro r9 g215_88 hp9
                  obtain ⟨⟨hT_88, hG_88⟩, z215_88, hr9, hz_88, p1_88⟩ := hp9
                  rw [hr9]
                  have hF_88 : FRM [73, 84, 85, 93, 96, 97, 98] [28, 32, 33, 34, 36, 39] h g215_88 := FRM_tr hF_80 hG_88 (by decide) (by decide)
                  rw [show (setO (setO g168_76 85 (fup (h 85) z168_76 0)) 93 (fup (h 93) (10 * y + x + 11) 1)) 73 26 = (h 73) 26 from (congrFun ((sOf_ne _ _ (by decide)).trans ((sOf_ne _ _ (by decide)).trans (hG_76.1 73 (by decide)))) 26).trans (((hG_74.2 26 (by decide))).trans ((congrFun (hG_7.1 73 (by decide)) 26).trans ((congrFun (hG_4.1 73 (by decide)) 26).trans (congrFun (hG_1.1 73 (by decide)) 26))))] at p1_88
                  show TT K ly 0 0 218 [(8, vI (1 - z140_74)), (9, vI z140_74), (0, vR 73), (1, vI x), (2, vI y), (3, vI (10 * y + x + 11)), (4, vI a), (5, vI b), (6, vI t9), (7, vI cx)] [vI z215_88, vR 84] g215_88
                  refine TT_aload_n hK rfl 2 rfl dX12_wake_218 ?_
                  refine gf_X12_47 hK (by decide) rfl (q := 84) rfl rfl dX12_wake_219 ?_
                  refine TT_aload_n hK rfl 2 rfl dX12_wake_222 ?_
                  refine TT_iload_n hK rfl 3 rfl dX12_wake_223 ?_
                  refine TT_iload_n hK rfl 4 rfl dX12_wake_224 ?_
                  refine iv_X12_249 hK (s_X12_cell_73 x y g215_88 hT_88 (by first | omega | (simp [up, setR] <;> omega)) (by first | omega | (simp [up, setR] <;> omega))) (by decide) rfl ⟨by decide, by decide⟩ (by decide) rfl rfl (Nat.le_of_ble_eq_true rfl) ⟨by decide, by decide⟩ dX12_wake_225 ?_
                  intro r9 g225_89 hp9
                  obtain ⟨⟨hT_89, hG_89⟩, z225_89, hr9, hz_89, p1_89⟩ := hp9
                  rw [hr9]
                  have hF_89 : FRM [73, 84, 85, 93, 96, 97, 98] [28, 32, 33, 34, 36, 39] h g225_89 := FRM_tr hF_88 hG_89 (by decide) (by decide)
                  rw [show g215_88 73 26 = (h 73) 26 from (congrFun (hG_88.1 73 (by decide)) 26).trans ((congrFun ((sOf_ne _ _ (by decide)).trans ((sOf_ne _ _ (by decide)).trans (hG_76.1 73 (by decide)))) 26).trans (((hG_74.2 26 (by decide))).trans ((congrFun (hG_7.1 73 (by decide)) 26).trans ((congrFun (hG_4.1 73 (by decide)) 26).trans (congrFun (hG_1.1 73 (by decide)) 26)))))] at p1_89
                  show TT K ly 0 0 228 [(8, vI (1 - z140_74)), (9, vI z140_74), (0, vR 73), (1, vI x), (2, vI y), (3, vI (10 * y + x + 11)), (4, vI a), (5, vI b), (6, vI t9), (7, vI cx)] [vI z225_89, vR 84, vI z215_88, vR 84] g225_89
                  refine TT_iald hK (o := 84) (n := 1280) (by decide) rfl (by first | omega | (simp [up, setR] <;> omega)) (by first | omega | (simp [up, setR] <;> omega)) (v := (h 84) z225_89) (rd_ (((hG_89.1 84 (by decide))).trans (((hG_88.1 84 (by decide))).trans ((sOf_ne _ _ (by decide)).trans ((sOf_ne _ _ (by decide)).trans (((hG_76.1 84 (by decide))).trans (((hG_74.1 84 (by decide))).trans (((hG_7.1 84 (by decide))).trans (((hG_4.1 84 (by decide))).trans (hG_1.1 84 (by decide)))))))))) rfl) dX12_wake_228 ?_
                  have r90 := ty_84 (i := z225_89) (v := (h 84) z225_89) hT_89 (rd_ (((hG_89.1 84 (by decide))).trans (((hG_88.1 84 (by decide))).trans ((sOf_ne _ _ (by decide)).trans ((sOf_ne _ _ (by decide)).trans (((hG_76.1 84 (by decide))).trans (((hG_74.1 84 (by decide))).trans (((hG_7.1 84 (by decide))).trans (((hG_4.1 84 (by decide))).trans (hG_1.1 84 (by decide)))))))))) rfl) (by omega) (by omega)
                  refine TT_iconst hK dX12_wake_229 ?_
                  refine TT_aload_n hK rfl 2 rfl dX12_wake_230 ?_
                  refine gf_X12_252 hK (by decide) rfl (v := (h 73) 27) ((congrFun (hG_89.1 73 (by decide)) 27).trans ((congrFun (hG_88.1 73 (by decide)) 27).trans ((congrFun ((sOf_ne _ _ (by decide)).trans ((sOf_ne _ _ (by decide)).trans (hG_76.1 73 (by decide)))) 27).trans (((hG_74.2 27 (by decide))).trans ((congrFun (hG_7.1 73 (by decide)) 27).trans ((congrFun (hG_4.1 73 (by decide)) 27).trans (congrFun (hG_1.1 73 (by decide)) 27))))))) dX12_wake_231 ?_
                  have r91 := ty_73_27 (v := (h 73) 27) hT_89 ((congrFun (hG_89.1 73 (by decide)) 27).trans ((congrFun (hG_88.1 73 (by decide)) 27).trans ((congrFun ((sOf_ne _ _ (by decide)).trans ((sOf_ne _ _ (by decide)).trans (hG_76.1 73 (by decide)))) 27).trans (((hG_74.2 27 (by decide))).trans ((congrFun (hG_7.1 73 (by decide)) 27).trans ((congrFun (hG_4.1 73 (by decide)) 27).trans (congrFun (hG_1.1 73 (by decide)) 27)))))))
                  refine TT_ishl_a hK dX12_wake_234 (fun x234_92 hx92 => ?_)
                  refine TT_ior hK dX12_wake_235 ?_
                  refine TT_w32 (fun x236_93 hx93 => ?_)
                  refine TT_iast hK (o := 84) (n := 1280) (by decide) rfl (by omega) (by omega) dX12_wake_236 ?_
                  refine TT_hp (h' := setO g225_89 84 (fup (h 84) z215_88 x236_93)) (up_can (((hG_89.1 84 (by decide))).trans (((hG_88.1 84 (by decide))).trans ((sOf_ne _ _ (by decide)).trans ((sOf_ne _ _ (by decide)).trans (((hG_76.1 84 (by decide))).trans (((hG_74.1 84 (by decide))).trans (((hG_7.1 84 (by decide))).trans (((hG_4.1 84 (by decide))).trans (hG_1.1 84 (by decide)))))))))) rfl rfl) ?_
                  have hT_94 : TY (setO g225_89 84 (fup (h 84) z215_88 x236_93)) := tu_84 hT_89 (show up g225_89 84 z215_88 x236_93 = (setO g225_89 84 (fup (h 84) z215_88 x236_93)) from up_can (((hG_89.1 84 (by decide))).trans (((hG_88.1 84 (by decide))).trans ((sOf_ne _ _ (by decide)).trans ((sOf_ne _ _ (by decide)).trans (((hG_76.1 84 (by decide))).trans (((hG_74.1 84 (by decide))).trans (((hG_7.1 84 (by decide))).trans (((hG_4.1 84 (by decide))).trans (hG_1.1 84 (by decide)))))))))) rfl rfl) (by omega)
                  have hF_94 : FRM [73, 84, 85, 93, 96, 97, 98] [28, 32, 33, 34, 36, 39] h (setO g225_89 84 (fup (h 84) z215_88 x236_93)) := FRM_up (show up g225_89 84 z215_88 x236_93 = (setO g225_89 84 (fup (h 84) z215_88 x236_93)) from up_can (((hG_89.1 84 (by decide))).trans (((hG_88.1 84 (by decide))).trans ((sOf_ne _ _ (by decide)).trans ((sOf_ne _ _ (by decide)).trans (((hG_76.1 84 (by decide))).trans (((hG_74.1 84 (by decide))).trans (((hG_7.1 84 (by decide))).trans (((hG_4.1 84 (by decide))).trans (hG_1.1 84 (by decide)))))))))) rfl rfl) hF_89 (by decide) (by decide)
                  refine TT_vret hK hQ ?_ dX12_wake_237
                  have e95_73_32 : (setO g225_89 84 (fup (h 84) z215_88 x236_93)) 73 32 = (g140_74 73) 32 := (congrFun ((sOf_ne _ _ (by decide)).trans (hG_89.1 73 (by decide))) 32).trans ((congrFun (hG_88.1 73 (by decide)) 32).trans (congrFun ((sOf_ne _ _ (by decide)).trans ((sOf_ne _ _ (by decide)).trans (hG_76.1 73 (by decide)))) 32))
                  have e96_73_34 : (setO g225_89 84 (fup (h 84) z215_88 x236_93)) 73 34 = (g140_74 73) 34 := (congrFun ((sOf_ne _ _ (by decide)).trans (hG_89.1 73 (by decide))) 34).trans ((congrFun (hG_88.1 73 (by decide)) 34).trans (congrFun ((sOf_ne _ _ (by decide)).trans ((sOf_ne _ _ (by decide)).trans (hG_76.1 73 (by decide)))) 34))
                  have e97_73_36 : (setO g225_89 84 (fup (h 84) z215_88 x236_93)) 73 36 = (g140_74 73) 36 := (congrFun ((sOf_ne _ _ (by decide)).trans (hG_89.1 73 (by decide))) 36).trans ((congrFun (hG_88.1 73 (by decide)) 36).trans (congrFun ((sOf_ne _ _ (by decide)).trans ((sOf_ne _ _ (by decide)).trans (hG_76.1 73 (by decide)))) 36))
                  have e98_96 : (setO g225_89 84 (fup (h 84) z215_88 x236_93)) 96 = g140_74 96 := (sOf_ne _ _ (by decide)).trans (((hG_89.1 96 (by decide))).trans (((hG_88.1 96 (by decide))).trans ((sOf_ne _ _ (by decide)).trans ((sOf_ne _ _ (by decide)).trans (hG_76.1 96 (by decide))))))
                  have e99_93 : (setO g225_89 84 (fup (h 84) z215_88 x236_93)) 93 = fup (h 93) (10 * y + x + 11) 1 := (sOf_ne _ _ (by decide)).trans (((hG_89.1 93 (by decide))).trans (((hG_88.1 93 (by decide))).trans (sOf_eq _ _ _)))
                  exact ⟨⟨hT_94, hF_94⟩, rfl, (by rewrite [e95_73_32]; omega), (by rewrite [e96_73_34, e97_73_36, e98_96]; omega), (by rewrite [e99_93]; intro w e h1 h2 h3 h4 h5; exact ZC_up ⟨hx.1, h1⟩ h2 ⟨hy.1, h3⟩ h4 h5 (by decide))⟩
              · exfalso; omega
            · refine TT_iconst hK dX12_wake_177 ?_
              refine TT_goto hK (tgt := 182) dX12_wake_178 (by decide) ?_
              refine TT_zast hK (o := 85) (n := 1280) (by decide) rfl (by omega) (by omega) (by first | decide | omega) dX12_wake_182 ?_
              refine TT_hp (h' := setO g168_76 85 (fup (h 85) z168_76 1)) (up_can (((hG_76.1 85 (by decide))).trans (((hG_74.1 85 (by decide))).trans (((hG_7.1 85 (by decide))).trans (((hG_4.1 85 (by decide))).trans (hG_1.1 85 (by decide)))))) rfl rfl) ?_
              have hT_100 : TY (setO g168_76 85 (fup (h 85) z168_76 1)) := tu_85 hT_76 (show up g168_76 85 z168_76 1 = (setO g168_76 85 (fup (h 85) z168_76 1)) from up_can (((hG_76.1 85 (by decide))).trans (((hG_74.1 85 (by decide))).trans (((hG_7.1 85 (by decide))).trans (((hG_4.1 85 (by decide))).trans (hG_1.1 85 (by decide)))))) rfl rfl) (by omega)
              have hF_100 : FRM [73, 84, 85, 93, 96, 97, 98] [28, 32, 33, 34, 36, 39] h (setO g168_76 85 (fup (h 85) z168_76 1)) := FRM_up (show up g168_76 85 z168_76 1 = (setO g168_76 85 (fup (h 85) z168_76 1)) from up_can (((hG_76.1 85 (by decide))).trans (((hG_74.1 85 (by decide))).trans (((hG_7.1 85 (by decide))).trans (((hG_4.1 85 (by decide))).trans (hG_1.1 85 (by decide)))))) rfl rfl) hF_76 (by decide) (by decide)
              refine TT_aload_n hK rfl 2 rfl dX12_wake_183 ?_
              refine gf_X12_75 hK (by decide) rfl (q := 93) rfl rfl dX12_wake_184 ?_
              refine TT_iload_n hK rfl 5 rfl dX12_wake_187 ?_
              refine TT_iload hK 0 rfl dX12_wake_188 ?_
              refine TT_iconst hK dX12_wake_190 ?_
              refine TT_icmp_ne hK (tgt := 198) (irm (by omega) (by omega)) (by decide) dX12_wake_191 (by decide) (fun hb191_101 => ?_) (fun hb191_101 => ?_)
              · exfalso; omega
              · refine TT_iconst hK dX12_wake_194 ?_
                refine TT_goto hK (tgt := 199) dX12_wake_195 (by decide) ?_
                refine TT_iast hK (o := 93) (n := 100) (by decide) rfl (by omega) (by omega) dX12_wake_199 ?_
                refine TT_hp (h' := setO (setO g168_76 85 (fup (h 85) z168_76 1)) 93 (fup (h 93) (10 * y + x + 11) (-1))) (up_can ((sOf_ne _ _ (by decide)).trans (((hG_76.1 93 (by decide))).trans (((hG_74.1 93 (by decide))).trans (((hG_7.1 93 (by decide))).trans (((hG_4.1 93 (by decide))).trans (hG_1.1 93 (by decide))))))) rfl rfl) ?_
                have hT_102 : TY (setO (setO g168_76 85 (fup (h 85) z168_76 1)) 93 (fup (h 93) (10 * y + x + 11) (-1))) := tu_93 hT_100 (show up (setO g168_76 85 (fup (h 85) z168_76 1)) 93 (10 * y + x + 11) (-1) = (setO (setO g168_76 85 (fup (h 85) z168_76 1)) 93 (fup (h 93) (10 * y + x + 11) (-1))) from up_can ((sOf_ne _ _ (by decide)).trans (((hG_76.1 93 (by decide))).trans (((hG_74.1 93 (by decide))).trans (((hG_7.1 93 (by decide))).trans (((hG_4.1 93 (by decide))).trans (hG_1.1 93 (by decide))))))) rfl rfl) (by omega)
                have hF_102 : FRM [73, 84, 85, 93, 96, 97, 98] [28, 32, 33, 34, 36, 39] h (setO (setO g168_76 85 (fup (h 85) z168_76 1)) 93 (fup (h 93) (10 * y + x + 11) (-1))) := FRM_up (show up (setO g168_76 85 (fup (h 85) z168_76 1)) 93 (10 * y + x + 11) (-1) = (setO (setO g168_76 85 (fup (h 85) z168_76 1)) 93 (fup (h 93) (10 * y + x + 11) (-1))) from up_can ((sOf_ne _ _ (by decide)).trans (((hG_76.1 93 (by decide))).trans (((hG_74.1 93 (by decide))).trans (((hG_7.1 93 (by decide))).trans (((hG_4.1 93 (by decide))).trans (hG_1.1 93 (by decide))))))) rfl rfl) hF_100 (by decide) (by decide)
                refine TT_aload_n hK rfl 2 rfl dX12_wake_200 ?_
                refine gf_X12_163 hK (by decide) rfl (v := (h 73) 29) ((congrFun ((sOf_ne _ _ (by decide)).trans ((sOf_ne _ _ (by decide)).trans (hG_76.1 73 (by decide)))) 29).trans (((hG_74.2 29 (by decide))).trans ((congrFun (hG_7.1 73 (by decide)) 29).trans ((congrFun (hG_4.1 73 (by decide)) 29).trans (congrFun (hG_1.1 73 (by decide)) 29))))) dX12_wake_201 ?_
                have r103 := ty_73_29 (v := (h 73) 29) hT_102 ((congrFun ((sOf_ne _ _ (by decide)).trans ((sOf_ne _ _ (by decide)).trans (hG_76.1 73 (by decide)))) 29).trans (((hG_74.2 29 (by decide))).trans ((congrFun (hG_7.1 73 (by decide)) 29).trans ((congrFun (hG_4.1 73 (by decide)) 29).trans (congrFun (hG_1.1 73 (by decide)) 29)))))
                refine TT_iconst hK dX12_wake_204 ?_
                refine TT_icmp_ne hK (tgt := 237) (irm (by omega) (by omega)) (by decide) dX12_wake_205 (by decide) (fun hb205_104 => ?_) (fun hb205_104 => ?_)
                · refine TT_vret hK hQ ?_ dX12_wake_237
                  have e105_73_32 : (setO (setO g168_76 85 (fup (h 85) z168_76 1)) 93 (fup (h 93) (10 * y + x + 11) (-1))) 73 32 = (g140_74 73) 32 := congrFun ((sOf_ne _ _ (by decide)).trans ((sOf_ne _ _ (by decide)).trans (hG_76.1 73 (by decide)))) 32
                  have e106_73_34 : (setO (setO g168_76 85 (fup (h 85) z168_76 1)) 93 (fup (h 93) (10 * y + x + 11) (-1))) 73 34 = (g140_74 73) 34 := congrFun ((sOf_ne _ _ (by decide)).trans ((sOf_ne _ _ (by decide)).trans (hG_76.1 73 (by decide)))) 34
                  have e107_73_36 : (setO (setO g168_76 85 (fup (h 85) z168_76 1)) 93 (fup (h 93) (10 * y + x + 11) (-1))) 73 36 = (g140_74 73) 36 := congrFun ((sOf_ne _ _ (by decide)).trans ((sOf_ne _ _ (by decide)).trans (hG_76.1 73 (by decide)))) 36
                  have e108_96 : (setO (setO g168_76 85 (fup (h 85) z168_76 1)) 93 (fup (h 93) (10 * y + x + 11) (-1))) 96 = g140_74 96 := (sOf_ne _ _ (by decide)).trans ((sOf_ne _ _ (by decide)).trans (hG_76.1 96 (by decide)))
                  have e109_93 : (setO (setO g168_76 85 (fup (h 85) z168_76 1)) 93 (fup (h 93) (10 * y + x + 11) (-1))) 93 = fup (h 93) (10 * y + x + 11) (-1) := sOf_eq _ _ _
                  exact ⟨⟨hT_102, hF_102⟩, rfl, (by rewrite [e105_73_32]; omega), (by rewrite [e106_73_34, e107_73_36, e108_96]; omega), (by rewrite [e109_93]; intro w e h1 h2 h3 h4 h5; exact ZC_up ⟨hx.1, h1⟩ h2 ⟨hy.1, h3⟩ h4 h5 (by decide))⟩
                · refine TT_aload_n hK rfl 2 rfl dX12_wake_208 ?_
                  refine gf_X12_47 hK (by decide) rfl (q := 84) rfl rfl dX12_wake_209 ?_
                  refine TT_aload_n hK rfl 2 rfl dX12_wake_212 ?_
                  refine TT_iload_n hK rfl 3 rfl dX12_wake_213 ?_
                  refine TT_iload_n hK rfl 4 rfl dX12_wake_214 ?_
                  refine iv_X12_249 hK (s_X12_cell_73 x y (setO (setO g168_76 85 (fup (h 85) z168_76 1)) 93 (fup (h 93) (10 * y + x + 11) (-1))) hT_102 (by first | omega | (simp [up, setR] <;> omega)) (by first | omega | (simp [up, setR] <;> omega))) (by decide) rfl ⟨by decide, by decide⟩ (by decide) rfl rfl (Nat.le_of_ble_eq_true rfl) ⟨by decide, by decide⟩ dX12_wake_215 ?_
                  intro r9 g215_110 hp9
                  obtain ⟨⟨hT_110, hG_110⟩, z215_110, hr9, hz_110, p1_110⟩ := hp9
                  rw [hr9]
                  have hF_110 : FRM [73, 84, 85, 93, 96, 97, 98] [28, 32, 33, 34, 36, 39] h g215_110 := FRM_tr hF_102 hG_110 (by decide) (by decide)
                  rw [show (setO (setO g168_76 85 (fup (h 85) z168_76 1)) 93 (fup (h 93) (10 * y + x + 11) (-1))) 73 26 = (h 73) 26 from (congrFun ((sOf_ne _ _ (by decide)).trans ((sOf_ne _ _ (by decide)).trans (hG_76.1 73 (by decide)))) 26).trans (((hG_74.2 26 (by decide))).trans ((congrFun (hG_7.1 73 (by decide)) 26).trans ((congrFun (hG_4.1 73 (by decide)) 26).trans (congrFun (hG_1.1 73 (by decide)) 26))))] at p1_110
                  show TT K ly 0 0 218 [(8, vI (1 - z140_74)), (9, vI z140_74), (0, vR 73), (1, vI x), (2, vI y), (3, vI (10 * y + x + 11)), (4, vI a), (5, vI b), (6, vI t9), (7, vI cx)] [vI z215_110, vR 84] g215_110
                  refine TT_aload_n hK rfl 2 rfl dX12_wake_218 ?_
                  refine gf_X12_47 hK (by decide) rfl (q := 84) rfl rfl dX12_wake_219 ?_
                  refine TT_aload_n hK rfl 2 rfl dX12_wake_222 ?_
                  refine TT_iload_n hK rfl 3 rfl dX12_wake_223 ?_
                  refine TT_iload_n hK rfl 4 rfl dX12_wake_224 ?_
                  refine iv_X12_249 hK (s_X12_cell_73 x y g215_110 hT_110 (by first | omega | (simp [up, setR] <;> omega)) (by first | omega | (simp [up, setR] <;> omega))) (by decide) rfl ⟨by decide, by decide⟩ (by decide) rfl rfl (Nat.le_of_ble_eq_true rfl) ⟨by decide, by decide⟩ dX12_wake_225 ?_
                  intro r9 g225_111 hp9
                  obtain ⟨⟨hT_111, hG_111⟩, z225_111, hr9, hz_111, p1_111⟩ := hp9
                  rw [hr9]
                  have hF_111 : FRM [73, 84, 85, 93, 96, 97, 98] [28, 32, 33, 34, 36, 39] h g225_111 := FRM_tr hF_110 hG_111 (by decide) (by decide)
                  rw [show g215_110 73 26 = (h 73) 26 from (congrFun (hG_110.1 73 (by decide)) 26).trans ((congrFun ((sOf_ne _ _ (by decide)).trans ((sOf_ne _ _ (by decide)).trans (hG_76.1 73 (by decide)))) 26).trans (((hG_74.2 26 (by decide))).trans ((congrFun (hG_7.1 73 (by decide)) 26).trans ((congrFun (hG_4.1 73 (by decide)) 26).trans (congrFun (hG_1.1 73 (by decide)) 26)))))] at p1_111
                  show TT K ly 0 0 228 [(8, vI (1 - z140_74)), (9, vI z140_74), (0, vR 73), (1, vI x), (2, vI y), (3, vI (10 * y + x + 11)), (4, vI a), (5, vI b), (6, vI t9), (7, vI cx)] [vI z225_111, vR 84, vI z215_110, vR 84] g225_111
                  refine TT_iald hK (o := 84) (n := 1280) (by decide) rfl (by first | omega | (simp [up, setR] <;> omega)) (by first | omega | (simp [up, setR] <;> omega)) (v := (h 84) z225_111) (rd_ (((hG_111.1 84 (by decide))).trans (((hG_110.1 84 (by decide))).trans ((sOf_ne _ _ (by decide)).trans ((sOf_ne _ _ (by decide)).trans (((hG_76.1 84 (by decide))).trans (((hG_74.1 84 (by decide))).trans (((hG_7.1 84 (by decide))).trans (((hG_4.1 84 (by decide))).trans (hG_1.1 84 (by decide)))))))))) rfl) dX12_wake_228 ?_
                  have r112 := ty_84 (i := z225_111) (v := (h 84) z225_111) hT_111 (rd_ (((hG_111.1 84 (by decide))).trans (((hG_110.1 84 (by decide))).trans ((sOf_ne _ _ (by decide)).trans ((sOf_ne _ _ (by decide)).trans (((hG_76.1 84 (by decide))).trans (((hG_74.1 84 (by decide))).trans (((hG_7.1 84 (by decide))).trans (((hG_4.1 84 (by decide))).trans (hG_1.1 84 (by decide)))))))))) rfl) (by omega) (by omega)
                  refine TT_iconst hK dX12_wake_229 ?_
                  refine TT_aload_n hK rfl 2 rfl dX12_wake_230 ?_
                  refine gf_X12_252 hK (by decide) rfl (v := (h 73) 27) ((congrFun (hG_111.1 73 (by decide)) 27).trans ((congrFun (hG_110.1 73 (by decide)) 27).trans ((congrFun ((sOf_ne _ _ (by decide)).trans ((sOf_ne _ _ (by decide)).trans (hG_76.1 73 (by decide)))) 27).trans (((hG_74.2 27 (by decide))).trans ((congrFun (hG_7.1 73 (by decide)) 27).trans ((congrFun (hG_4.1 73 (by decide)) 27).trans (congrFun (hG_1.1 73 (by decide)) 27))))))) dX12_wake_231 ?_
                  have r113 := ty_73_27 (v := (h 73) 27) hT_111 ((congrFun (hG_111.1 73 (by decide)) 27).trans ((congrFun (hG_110.1 73 (by decide)) 27).trans ((congrFun ((sOf_ne _ _ (by decide)).trans ((sOf_ne _ _ (by decide)).trans (hG_76.1 73 (by decide)))) 27).trans (((hG_74.2 27 (by decide))).trans ((congrFun (hG_7.1 73 (by decide)) 27).trans ((congrFun (hG_4.1 73 (by decide)) 27).trans (congrFun (hG_1.1 73 (by decide)) 27)))))))
                  refine TT_ishl_a hK dX12_wake_234 (fun x234_114 hx114 => ?_)
                  refine TT_ior hK dX12_wake_235 ?_
                  refine TT_w32 (fun x236_115 hx115 => ?_)
                  refine TT_iast hK (o := 84) (n := 1280) (by decide) rfl (by omega) (by omega) dX12_wake_236 ?_
                  refine TT_hp (h' := setO g225_111 84 (fup (h 84) z215_110 x236_115)) (up_can (((hG_111.1 84 (by decide))).trans (((hG_110.1 84 (by decide))).trans ((sOf_ne _ _ (by decide)).trans ((sOf_ne _ _ (by decide)).trans (((hG_76.1 84 (by decide))).trans (((hG_74.1 84 (by decide))).trans (((hG_7.1 84 (by decide))).trans (((hG_4.1 84 (by decide))).trans (hG_1.1 84 (by decide)))))))))) rfl rfl) ?_
                  have hT_116 : TY (setO g225_111 84 (fup (h 84) z215_110 x236_115)) := tu_84 hT_111 (show up g225_111 84 z215_110 x236_115 = (setO g225_111 84 (fup (h 84) z215_110 x236_115)) from up_can (((hG_111.1 84 (by decide))).trans (((hG_110.1 84 (by decide))).trans ((sOf_ne _ _ (by decide)).trans ((sOf_ne _ _ (by decide)).trans (((hG_76.1 84 (by decide))).trans (((hG_74.1 84 (by decide))).trans (((hG_7.1 84 (by decide))).trans (((hG_4.1 84 (by decide))).trans (hG_1.1 84 (by decide)))))))))) rfl rfl) (by omega)
                  have hF_116 : FRM [73, 84, 85, 93, 96, 97, 98] [28, 32, 33, 34, 36, 39] h (setO g225_111 84 (fup (h 84) z215_110 x236_115)) := FRM_up (show up g225_111 84 z215_110 x236_115 = (setO g225_111 84 (fup (h 84) z215_110 x236_115)) from up_can (((hG_111.1 84 (by decide))).trans (((hG_110.1 84 (by decide))).trans ((sOf_ne _ _ (by decide)).trans ((sOf_ne _ _ (by decide)).trans (((hG_76.1 84 (by decide))).trans (((hG_74.1 84 (by decide))).trans (((hG_7.1 84 (by decide))).trans (((hG_4.1 84 (by decide))).trans (hG_1.1 84 (by decide)))))))))) rfl rfl) hF_111 (by decide) (by decide)
                  refine TT_vret hK hQ ?_ dX12_wake_237
                  have e117_73_32 : (setO g225_111 84 (fup (h 84) z215_110 x236_115)) 73 32 = (g140_74 73) 32 := (congrFun ((sOf_ne _ _ (by decide)).trans (hG_111.1 73 (by decide))) 32).trans ((congrFun (hG_110.1 73 (by decide)) 32).trans (congrFun ((sOf_ne _ _ (by decide)).trans ((sOf_ne _ _ (by decide)).trans (hG_76.1 73 (by decide)))) 32))
                  have e118_73_34 : (setO g225_111 84 (fup (h 84) z215_110 x236_115)) 73 34 = (g140_74 73) 34 := (congrFun ((sOf_ne _ _ (by decide)).trans (hG_111.1 73 (by decide))) 34).trans ((congrFun (hG_110.1 73 (by decide)) 34).trans (congrFun ((sOf_ne _ _ (by decide)).trans ((sOf_ne _ _ (by decide)).trans (hG_76.1 73 (by decide)))) 34))
                  have e119_73_36 : (setO g225_111 84 (fup (h 84) z215_110 x236_115)) 73 36 = (g140_74 73) 36 := (congrFun ((sOf_ne _ _ (by decide)).trans (hG_111.1 73 (by decide))) 36).trans ((congrFun (hG_110.1 73 (by decide)) 36).trans (congrFun ((sOf_ne _ _ (by decide)).trans ((sOf_ne _ _ (by decide)).trans (hG_76.1 73 (by decide)))) 36))
                  have e120_96 : (setO g225_111 84 (fup (h 84) z215_110 x236_115)) 96 = g140_74 96 := (sOf_ne _ _ (by decide)).trans (((hG_111.1 96 (by decide))).trans (((hG_110.1 96 (by decide))).trans ((sOf_ne _ _ (by decide)).trans ((sOf_ne _ _ (by decide)).trans (hG_76.1 96 (by decide))))))
                  have e121_93 : (setO g225_111 84 (fup (h 84) z215_110 x236_115)) 93 = fup (h 93) (10 * y + x + 11) (-1) := (sOf_ne _ _ (by decide)).trans (((hG_111.1 93 (by decide))).trans (((hG_110.1 93 (by decide))).trans (sOf_eq _ _ _)))
                  exact ⟨⟨hT_116, hF_116⟩, rfl, (by rewrite [e117_73_32]; omega), (by rewrite [e118_73_34, e119_73_36, e120_96]; omega), (by rewrite [e121_93]; intro w e h1 h2 h3 h4 h5; exact ZC_up ⟨hx.1, h1⟩ h2 ⟨hy.1, h3⟩ h4 h5 (by decide))⟩
      refine TT_aload_n hK rfl 0 rfl dX12_wake_102 ?_
      refine gf_X12_50 hK (by decide) rfl (q := 85) rfl rfl dX12_wake_103 ?_
      refine TT_aload_n hK rfl 0 rfl dX12_wake_106 ?_
      refine TT_iload_n hK rfl 1 rfl dX12_wake_107 ?_
      refine TT_iload_n hK rfl 2 rfl dX12_wake_108 ?_
      refine iv_X12_249 hK (s_X12_cell_73 x y g47_7 hT_7 (by first | omega | (simp [up, setR] <;> omega)) (by first | omega | (simp [up, setR] <;> omega))) (by decide) rfl ⟨by decide, by decide⟩ (by decide) rfl rfl (Nat.le_of_ble_eq_true rfl) ⟨by decide, by decide⟩ dX12_wake_109 ?_
      intro r9 g109_122 hp9
      obtain ⟨⟨hT_122, hG_122⟩, z109_122, hr9, hz_122, p1_122⟩ := hp9
      rw [hr9]
      have hF_122 : FRM [73, 84, 85, 93, 96, 97, 98] [28, 32, 33, 34, 36, 39] h g109_122 := FRM_tr hF_7 hG_122 (by decide) (by decide)
      rw [show g47_7 73 26 = (h 73) 26 from (congrFun (hG_7.1 73 (by decide)) 26).trans ((congrFun (hG_4.1 73 (by decide)) 26).trans (congrFun (hG_1.1 73 (by decide)) 26))] at p1_122
      show TT K ly 0 0 112 [(0, vR 73), (1, vI x), (2, vI y), (3, vI (10 * y + x + 11)), (4, vI a), (5, vI b), (6, vI t9), (7, vI cx)] [vI z109_122, vR 85] g109_122
      refine TT_zald hK (o := 85) (n := 1280) (by decide) rfl (by first | omega | (simp [up, setR] <;> omega)) (by first | omega | (simp [up, setR] <;> omega)) (v := (h 85) z109_122) (rd_ (((hG_122.1 85 (by decide))).trans (((hG_7.1 85 (by decide))).trans (((hG_4.1 85 (by decide))).trans (hG_1.1 85 (by decide))))) rfl) dX12_wake_112 ?_
      have r123 := ty_85 (i := z109_122) (v := (h 85) z109_122) hT_122 (rd_ (((hG_122.1 85 (by decide))).trans (((hG_7.1 85 (by decide))).trans (((hG_4.1 85 (by decide))).trans (hG_1.1 85 (by decide))))) rfl) (by omega) (by omega)
      refine TT_if_eq hK (tgt := 120) (irm (by omega) (by omega)) dX12_wake_113 (by decide) (fun hb113_124 => ?_) (fun hb113_124 => ?_)
      · refine TT_iconst hK dX12_wake_120 ?_
        refine TT_istore hK (lv' := [(8, vI 0), (0, vR 73), (1, vI x), (2, vI y), (3, vI (10 * y + x + 11)), (4, vI a), (5, vI b), (6, vI t9), (7, vI cx)]) (by decide) rfl dX12_wake_121 ?_
        refine TT_sub [1, 2, 3, 4, 5, 6, 7, 8, 0] rfl ?_
        exact J123_10 0 (by first | omega | (simp [up, setR] <;> omega))
      · refine TT_iconst hK dX12_wake_116 ?_
        refine TT_goto hK (tgt := 121) dX12_wake_117 (by decide) ?_
        refine TT_istore hK (lv' := [(8, vI 1), (0, vR 73), (1, vI x), (2, vI y), (3, vI (10 * y + x + 11)), (4, vI a), (5, vI b), (6, vI t9), (7, vI cx)]) (by decide) rfl dX12_wake_121 ?_
        refine TT_sub [1, 2, 3, 4, 5, 6, 7, 8, 0] rfl ?_
        exact J123_10 1 (by first | omega | (simp [up, setR] <;> omega))
    refine TT_bipush hK (by decide) dX12_wake_74 ?_
    refine TT_iload hK 6 rfl dX12_wake_76 ?_
    refine TT_if_eq hK (tgt := 92) (irm (by omega) (by omega)) dX12_wake_78 (by decide) (fun hb78_125 => ?_) (fun hb78_125 => ?_)
    · refine TT_iconst hK dX12_wake_92 ?_
      refine TT_iload hK 4 rfl dX12_wake_93 ?_
      refine TT_imul hK dX12_wake_95 ?_
      refine TT_iload hK 5 rfl dX12_wake_96 ?_
      refine TT_iadd hK dX12_wake_98 ?_
      refine TT_iadd hK dX12_wake_99 ?_
      refine TT_istore hK (lv' := [(7, vI (9 + ((3 * a) + b))), (0, vR 73), (1, vI x), (2, vI y), (3, vI (10 * y + x + 11)), (4, vI a), (5, vI b), (6, vI t9)]) (by decide) rfl dX12_wake_100 ?_
      refine TT_sub [1, 2, 3, 4, 5, 6, 7, 0] rfl ?_
      exact J102_9 (9 + ((3 * a) + b)) (by first | omega | (simp [up, setR] <;> omega))
    · refine TT_bipush hK (by decide) dX12_wake_81 ?_
      refine TT_iload hK 4 rfl dX12_wake_83 ?_
      refine TT_imul hK dX12_wake_85 ?_
      refine TT_iload hK 5 rfl dX12_wake_86 ?_
      refine TT_isub hK dX12_wake_88 ?_
      refine TT_goto hK (tgt := 99) dX12_wake_89 (by decide) ?_
      refine TT_iadd hK dX12_wake_99 ?_
      refine TT_istore hK (lv' := [(7, vI (9 + (((-3) * a) - b))), (0, vR 73), (1, vI x), (2, vI y), (3, vI (10 * y + x + 11)), (4, vI a), (5, vI b), (6, vI t9)]) (by decide) rfl dX12_wake_100 ?_
      refine TT_sub [1, 2, 3, 4, 5, 6, 7, 0] rfl ?_
      exact J102_9 (9 + (((-3) * a) - b)) (by first | omega | (simp [up, setR] <;> omega))
  refine TT_iload hK 1 rfl dX12_wake_52 ?_
  refine TT_if_lt hK (tgt := 67) (irm (by omega) (by omega)) dX12_wake_54 (by decide) (fun hb54_126 => ?_) (fun hb54_126 => ?_)
  · refine TT_iconst hK dX12_wake_67 ?_
    refine TT_goto hK (tgt := 72) dX12_wake_68 (by decide) ?_
    refine TT_istore hK (lv' := [(6, vI 1), (5, vI z47_7), (4, vI z23_4), (3, vI (10 * y + x + 11)), (0, vR 73), (1, vI x), (2, vI y)]) (by decide) rfl dX12_wake_72 ?_
    refine TT_sub [4, 5, 6, 3, 2, 1, 0] rfl ?_
    exact J74_8 z23_4 z47_7 1 (by first | omega | (simp [up, setR] <;> omega)) (by first | omega | (simp [up, setR] <;> omega)) (by first | omega | (simp [up, setR] <;> omega))
  · refine TT_iload hK 1 rfl dX12_wake_57 ?_
    refine TT_if_ne hK (tgt := 71) (irm (by omega) (by omega)) dX12_wake_59 (by decide) (fun hb59_127 => ?_) (fun hb59_127 => ?_)
    · refine TT_iconst hK dX12_wake_71 ?_
      refine TT_istore hK (lv' := [(6, vI 0), (5, vI z47_7), (4, vI z23_4), (3, vI (10 * y + x + 11)), (0, vR 73), (1, vI x), (2, vI y)]) (by decide) rfl dX12_wake_72 ?_
      refine TT_sub [4, 5, 6, 3, 2, 1, 0] rfl ?_
      exact J74_8 z23_4 z47_7 0 (by first | omega | (simp [up, setR] <;> omega)) (by first | omega | (simp [up, setR] <;> omega)) (by first | omega | (simp [up, setR] <;> omega))
    · refine TT_iload hK 0 rfl dX12_wake_62 ?_
      refine TT_if_ge hK (tgt := 71) (irm (by omega) (by omega)) dX12_wake_64 (by decide) (fun hb64_128 => ?_) (fun hb64_128 => ?_)
      · refine TT_iconst hK dX12_wake_71 ?_
        refine TT_istore hK (lv' := [(6, vI 0), (5, vI z47_7), (4, vI z23_4), (3, vI (10 * y + x + 11)), (0, vR 73), (1, vI x), (2, vI y)]) (by decide) rfl dX12_wake_72 ?_
        refine TT_sub [4, 5, 6, 3, 2, 1, 0] rfl ?_
        exact J74_8 z23_4 z47_7 0 (by first | omega | (simp [up, setR] <;> omega)) (by first | omega | (simp [up, setR] <;> omega)) (by first | omega | (simp [up, setR] <;> omega))
      · refine TT_iconst hK dX12_wake_67 ?_
        refine TT_goto hK (tgt := 72) dX12_wake_68 (by decide) ?_
        refine TT_istore hK (lv' := [(6, vI 1), (5, vI z47_7), (4, vI z23_4), (3, vI (10 * y + x + 11)), (0, vR 73), (1, vI x), (2, vI y)]) (by decide) rfl dX12_wake_72 ?_
        refine TT_sub [4, 5, 6, 3, 2, 1, 0] rfl ?_
        exact J74_8 z23_4 z47_7 1 (by first | omega | (simp [up, setR] <;> omega)) (by first | omega | (simp [up, setR] <;> omega)) (by first | omega | (simp [up, setR] <;> omega))

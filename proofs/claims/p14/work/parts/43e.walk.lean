def SumR (f : Nat → Int) : Nat → Int
  | 0 => 0
  | n + 1 => SumR f n + f n
theorem SumR_cg {f g : Nat → Int} : ∀ n, (∀ k, k < n → g k = f k) → SumR g n = SumR f n := by
  intro n
  induction n with
  | zero => intro _; rfl
  | succ n ih =>
    intro hk
    show SumR g n + g n = SumR f n + f n
    rw [ih (fun k h => hk k (Nat.lt_succ_of_lt h)), hk n (Nat.lt_succ_self n)]
theorem SumR_one {f g : Nat → Int} {k0 : Nat} : ∀ n, k0 < n → (∀ k, k < n → k ≠ k0 → g k = f k) → SumR g n = SumR f n - f k0 + g k0 := by
  intro n
  induction n with
  | zero => intro h _; exact absurd h (Nat.not_lt_zero _)
  | succ n ih =>
    intro h hk
    show SumR g n + g n = SumR f n + f n - f k0 + g k0
    by_cases q : k0 = n
    · subst q
      rw [SumR_cg k0 (fun k h2 => hk k (Nat.lt_succ_of_lt h2) (Nat.ne_of_lt h2))]
      omega
    · rw [ih (by omega) (fun k h2 h3 => hk k (Nat.lt_succ_of_lt h2) h3), hk n (Nat.lt_succ_self n) (fun z => q z.symm)]
      omega
def zc1 (w e : Int) (aw : Int → Int) (k : Nat) : Int := if ((k % 8 : Nat) : Int) < w ∧ ((k / 8 : Nat) : Int) < e ∧ aw (10 * ((k / 8 : Nat) : Int) + ((k % 8 : Nat) : Int) + 11) = 0 then 1 else 0
def ZC (w e : Int) (aw : Int → Int) : Int := SumR (zc1 w e aw) 64
theorem ZC_up {w e x y v : Int} {aw : Int → Int} (hx : 0 ≤ x ∧ x < w) (hw : w ≤ 8) (hy : 0 ≤ y ∧ y < e) (he : e ≤ 8) (h0 : aw (10 * y + x + 11) = 0) (hv : v ≠ 0) : ZC w e (fup aw (10 * y + x + 11) v) + 1 = ZC w e aw := by
  unfold ZC
  obtain ⟨xn, rfl⟩ := Int.eq_ofNat_of_zero_le hx.1
  obtain ⟨yn, rfl⟩ := Int.eq_ofNat_of_zero_le hy.1
  have hk : 8 * yn + xn < 64 := by omega
  have e1 : (8 * yn + xn) % 8 = xn := by omega
  have e2 : (8 * yn + xn) / 8 = yn := by omega
  rw [SumR_one (k0 := 8 * yn + xn) 64 hk (f := zc1 w e aw) (fun k h1 h2 => by
    unfold zc1
    rw [fup_ne _ _ (show (10 * ((k / 8 : Nat) : Int) + ((k % 8 : Nat) : Int) + 11 : Int) ≠ 10 * (yn : Int) + (xn : Int) + 11 by omega)])]
  have a1 : zc1 w e aw (8 * yn + xn) = 1 := by
    unfold zc1
    rw [e1, e2, if_pos ⟨hx.2, hy.2, h0⟩]
  have a2 : zc1 w e (fup aw (10 * (yn : Int) + (xn : Int) + 11) v) (8 * yn + xn) = 0 := by
    unfold zc1
    rw [e1, e2, fup_eq, if_neg (fun q => hv q.2.2)]
  rw [a1, a2]
  omega
theorem SumR_nn {f : Nat → Int} (h : ∀ k, 0 ≤ f k) : ∀ n, 0 ≤ SumR f n := by
  intro n
  induction n with
  | zero => exact Int.le_refl _
  | succ n ih =>
    show 0 ≤ SumR f n + f n
    have := h n
    omega
theorem ZC_nn (w e : Int) (aw : Int → Int) : 0 ≤ ZC w e aw := SumR_nn (fun k => by unfold zc1; split <;> omega) 64
set_option maxRecDepth 20000 in
theorem s_X12_wake_73 (x y : Int) (h : Hp_) (hT : TY h) (hx : 0 ≤ x ∧ x ≤ 7) (hy : 0 ≤ y ∧ y ≤ 7) (htb : TBL (h 74) (h 75)) (ha : 32768 ≤ (h 73 32) ∧ (h 73 32) < 65536) (hm : (h 73 29) = 0 → 1 ≤ (h 73 34) ∧ 1 ≤ (h 73 36) ∧ 7 * (h 73 36) - (h 73 34) + PhS (h 96) + 9 ≤ 22300) (hw1 : (h 73 29) = 1 → 10 ≤ (h 73 26)) : Ctr yX12_wake cX12_wake 10 none (rmd 4) ly ly 0 0 [vR 73, vI x, vI y] h (fun r h' => (TY h' ∧ FRM [73, 84, 85, 93, 96, 97, 98] [28, 32, 33, 34, 36, 39] h h') ∧ r = none ∧ (32768 ≤ (h' 73 32) ∧ (h' 73 32) < 65536) ∧ ((h 73 29) = 0 → 1 ≤ (h' 73 34) ∧ 1 ≤ (h' 73 36) ∧ 7 * (h' 73 36) - (h' 73 34) + PhS (h' 96) ≤ 7 * (h 73 36) - (h 73 34) + PhS (h 96) + 9) ∧ (∀ w e : Int, x < w → w ≤ 8 → y < e → e ≤ 8 → (h 93) (10 * y + x + 11) = 0 → ZC w e (h' 93) + 1 = ZC w e (h 93))) := by
  refine Ctr_of (by decide) (Nat.le_of_ble_eq_true rfl) ⟨Nat.le_refl _, Nat.le_refl _⟩ (fun K hK hQ _ => ?_)
  show TT K ly 0 0 0 [(0, vR 73), (1, vI x), (2, vI y)] [] h
  have hF : FRM [73, 84, 85, 93, 96, 97, 98] [28, 32, 33, 34, 36, 39] h h := FRM_rf _ _ _
  refine TT_iload_n hK rfl 1 rfl dX12_wake_0 ?_
  refine TT_iload_n hK rfl 2 rfl dX12_wake_1 ?_
  refine iv_X12_234 hK (s_X12_spot x y h hT (by first | omega | (simp [up, setR] <;> omega)) (by first | omega | (simp [up, setR] <;> omega))) ⟨by decide, by decide⟩ (by decide) rfl rfl (Nat.le_of_ble_eq_true rfl) ⟨by decide, by decide⟩ dX12_wake_2 ?_
  intro r9 g2_1 hp9
  obtain ⟨⟨hT_1, hG_1⟩, z2_1, hr9, hz_1, p1_1⟩ := hp9
  rw [hr9]
  have hF_1 : FRM [73, 84, 85, 93, 96, 97, 98] [28, 32, 33, 34, 36, 39] h g2_1 := FRM_tr hF hG_1 (by decide) (by decide)
  show TT K ly 0 0 5 [(0, vR 73), (1, vI x), (2, vI y)] [vI z2_1] g2_1
  refine TT_cgI (b := 10 * y + x + 11) (by omega) ?_
  refine TT_istore_n hK rfl (lv' := [(3, vI (10 * y + x + 11)), (0, vR 73), (1, vI x), (2, vI y)]) (by decide) rfl dX12_wake_5 ?_
  refine TT_aload_n hK rfl 1 rfl dX12_wake_6 ?_
  refine gf_X12_75 hK (by decide) rfl (q := 93) rfl rfl dX12_wake_7 ?_
  refine TT_iload_n hK rfl 0 rfl dX12_wake_10 ?_
  refine TT_iconst hK dX12_wake_11 ?_
  refine TT_isub hK dX12_wake_12 ?_
  refine TT_iald hK (o := 93) (n := 100) (by decide) rfl (by first | omega | (simp [up, setR] <;> omega)) (by first | omega | (simp [up, setR] <;> omega)) (v := (h 93) ((10 * y + x + 11) - 1)) (rd_ (hG_1.1 93 (by decide)) rfl) dX12_wake_13 ?_
  have r2 := ty_93 (i := (10 * y + x + 11) - 1) (v := (h 93) ((10 * y + x + 11) - 1)) hT_1 (rd_ (hG_1.1 93 (by decide)) rfl) (by omega) (by omega)
  refine TT_aload_n hK rfl 1 rfl dX12_wake_14 ?_
  refine gf_X12_75 hK (by decide) rfl (q := 93) rfl rfl dX12_wake_15 ?_
  refine TT_iload_n hK rfl 0 rfl dX12_wake_18 ?_
  refine TT_iconst hK dX12_wake_19 ?_
  refine TT_iadd hK dX12_wake_20 ?_
  refine TT_iald hK (o := 93) (n := 100) (by decide) rfl (by first | omega | (simp [up, setR] <;> omega)) (by first | omega | (simp [up, setR] <;> omega)) (v := (h 93) ((10 * y + x + 11) + 1)) (rd_ (hG_1.1 93 (by decide)) rfl) dX12_wake_21 ?_
  have r3 := ty_93 (i := (10 * y + x + 11) + 1) (v := (h 93) ((10 * y + x + 11) + 1)) hT_1 (rd_ (hG_1.1 93 (by decide)) rfl) (by omega) (by omega)
  refine TT_iadd hK dX12_wake_22 ?_
  refine iv_X12_255 hK (s_X12_unit (((h 93) ((10 * y + x + 11) - 1)) + ((h 93) ((10 * y + x + 11) + 1))) g2_1 hT_1 (by first | omega | (simp [up, setR] <;> omega))) ⟨by decide, by decide⟩ (by decide) rfl rfl (Nat.le_of_ble_eq_true rfl) ⟨by decide, by decide⟩ dX12_wake_23 ?_
  intro r9 g23_4 hp9
  obtain ⟨⟨hT_4, hG_4⟩, z23_4, hr9, hz_4⟩ := hp9
  rw [hr9]
  have hF_4 : FRM [73, 84, 85, 93, 96, 97, 98] [28, 32, 33, 34, 36, 39] h g23_4 := FRM_tr hF_1 hG_4 (by decide) (by decide)
  show TT K ly 0 0 26 [(3, vI (10 * y + x + 11)), (0, vR 73), (1, vI x), (2, vI y)] [vI z23_4] g23_4
  refine TT_istore hK (lv' := [(4, vI z23_4), (3, vI (10 * y + x + 11)), (0, vR 73), (1, vI x), (2, vI y)]) (by decide) rfl dX12_wake_26 ?_
  refine TT_aload_n hK rfl 2 rfl dX12_wake_28 ?_
  refine gf_X12_75 hK (by decide) rfl (q := 93) rfl rfl dX12_wake_29 ?_
  refine TT_iload_n hK rfl 1 rfl dX12_wake_32 ?_
  refine TT_bipush hK (by decide) dX12_wake_33 ?_
  refine TT_isub hK dX12_wake_35 ?_
  refine TT_iald hK (o := 93) (n := 100) (by decide) rfl (by first | omega | (simp [up, setR] <;> omega)) (by first | omega | (simp [up, setR] <;> omega)) (v := (h 93) ((10 * y + x + 11) - 10)) (rd_ (((hG_4.1 93 (by decide))).trans (hG_1.1 93 (by decide))) rfl) dX12_wake_36 ?_
  have r5 := ty_93 (i := (10 * y + x + 11) - 10) (v := (h 93) ((10 * y + x + 11) - 10)) hT_4 (rd_ (((hG_4.1 93 (by decide))).trans (hG_1.1 93 (by decide))) rfl) (by omega) (by omega)
  refine TT_aload_n hK rfl 2 rfl dX12_wake_37 ?_
  refine gf_X12_75 hK (by decide) rfl (q := 93) rfl rfl dX12_wake_38 ?_
  refine TT_iload_n hK rfl 1 rfl dX12_wake_41 ?_
  refine TT_bipush hK (by decide) dX12_wake_42 ?_
  refine TT_iadd hK dX12_wake_44 ?_
  refine TT_iald hK (o := 93) (n := 100) (by decide) rfl (by first | omega | (simp [up, setR] <;> omega)) (by first | omega | (simp [up, setR] <;> omega)) (v := (h 93) ((10 * y + x + 11) + 10)) (rd_ (((hG_4.1 93 (by decide))).trans (hG_1.1 93 (by decide))) rfl) dX12_wake_45 ?_
  have r6 := ty_93 (i := (10 * y + x + 11) + 10) (v := (h 93) ((10 * y + x + 11) + 10)) hT_4 (rd_ (((hG_4.1 93 (by decide))).trans (hG_1.1 93 (by decide))) rfl) (by omega) (by omega)
  refine TT_iadd hK dX12_wake_46 ?_
  refine iv_X12_255 hK (s_X12_unit (((h 93) ((10 * y + x + 11) - 10)) + ((h 93) ((10 * y + x + 11) + 10))) g23_4 hT_4 (by first | omega | (simp [up, setR] <;> omega))) ⟨by decide, by decide⟩ (by decide) rfl rfl (Nat.le_of_ble_eq_true rfl) ⟨by decide, by decide⟩ dX12_wake_47 ?_
  intro r9 g47_7 hp9
  obtain ⟨⟨hT_7, hG_7⟩, z47_7, hr9, hz_7⟩ := hp9
  rw [hr9]
  have hF_7 : FRM [73, 84, 85, 93, 96, 97, 98] [28, 32, 33, 34, 36, 39] h g47_7 := FRM_tr hF_4 hG_7 (by decide) (by decide)
  show TT K ly 0 0 50 [(4, vI z23_4), (3, vI (10 * y + x + 11)), (0, vR 73), (1, vI x), (2, vI y)] [vI z47_7] g47_7
  refine TT_istore hK (lv' := [(5, vI z47_7), (4, vI z23_4), (3, vI (10 * y + x + 11)), (0, vR 73), (1, vI x), (2, vI y)]) (by decide) rfl dX12_wake_50 ?_
  have J74_8 : ∀ (a : Int) (b : Int) (t9 : Int), (-1 ≤ a ∧ a ≤ 1) → (-1 ≤ b ∧ b ≤ 1) → (0 ≤ t9 ∧ t9 ≤ 1) → TT K ly 0 0 74 [(0, vR 73), (1, vI x), (2, vI y), (3, vI (10 * y + x + 11)), (4, vI a), (5, vI b), (6, vI t9)] [] g47_7 := by
    intro a b t9 ha4 hb4 ht9
    have J102_9 : ∀ (cx : Int), (0 ≤ cx ∧ cx ≤ 18) → TT K ly 0 0 102 [(0, vR 73), (1, vI x), (2, vI y), (3, vI (10 * y + x + 11)), (4, vI a), (5, vI b), (6, vI t9), (7, vI cx)] [] g47_7 := by
      intro cx hcx
      refine TT_aload_n hK rfl 0 rfl dX12_wake_102 ?_
      refine gf_X12_50 hK (by decide) rfl (q := 85) rfl rfl dX12_wake_103 ?_
      refine TT_aload_n hK rfl 0 rfl dX12_wake_106 ?_
      refine TT_iload_n hK rfl 1 rfl dX12_wake_107 ?_
      refine TT_iload_n hK rfl 2 rfl dX12_wake_108 ?_
      refine iv_X12_249 hK (s_X12_cell_73 x y g47_7 hT_7 (by first | omega | (simp [up, setR] <;> omega)) (by first | omega | (simp [up, setR] <;> omega))) (by decide) rfl ⟨by decide, by decide⟩ (by decide) rfl rfl (Nat.le_of_ble_eq_true rfl) ⟨by decide, by decide⟩ dX12_wake_109 ?_
      intro r9 g109_10 hp9
      obtain ⟨⟨hT_10, hG_10⟩, z109_10, hr9, hz_10, p1_10⟩ := hp9
      rw [hr9]
      have hF_10 : FRM [73, 84, 85, 93, 96, 97, 98] [28, 32, 33, 34, 36, 39] h g109_10 := FRM_tr hF_7 hG_10 (by decide) (by decide)
      rw [show g47_7 73 26 = (h 73) 26 from (congrFun (hG_7.1 73 (by decide)) 26).trans ((congrFun (hG_4.1 73 (by decide)) 26).trans (congrFun (hG_1.1 73 (by decide)) 26))] at p1_10
      show TT K ly 0 0 112 [(0, vR 73), (1, vI x), (2, vI y), (3, vI (10 * y + x + 11)), (4, vI a), (5, vI b), (6, vI t9), (7, vI cx)] [vI z109_10, vR 85] g109_10
      refine TT_zald hK (o := 85) (n := 1280) (by decide) rfl (by first | omega | (simp [up, setR] <;> omega)) (by first | omega | (simp [up, setR] <;> omega)) (v := (h 85) z109_10) (rd_ (((hG_10.1 85 (by decide))).trans (((hG_7.1 85 (by decide))).trans (((hG_4.1 85 (by decide))).trans (hG_1.1 85 (by decide))))) rfl) dX12_wake_112 ?_
      have r11 := ty_85 (i := z109_10) (v := (h 85) z109_10) hT_10 (rd_ (((hG_10.1 85 (by decide))).trans (((hG_7.1 85 (by decide))).trans (((hG_4.1 85 (by decide))).trans (hG_1.1 85 (by decide))))) rfl) (by omega) (by omega)
      refine TT_if_eq hK (tgt := 120) (irm (by omega) (by omega)) dX12_wake_113 (by decide) (fun hb113_12 => ?_) (fun hb113_12 => ?_)
      · refine TT_iconst hK dX12_wake_120 ?_
        refine TT_istore hK (lv' := [(8, vI 0), (0, vR 73), (1, vI x), (2, vI y), (3, vI (10 * y + x + 11)), (4, vI a), (5, vI b), (6, vI t9), (7, vI cx)]) (by decide) rfl dX12_wake_121 ?_
        refine TT_aload_n hK rfl 1 rfl dX12_wake_123 ?_
        refine TT_iload hK 8 rfl dX12_wake_124 ?_
        refine TT_iload hK 7 rfl dX12_wake_126 ?_
        refine TT_if_eq hK (tgt := 138) (irm (by omega) (by omega)) dX12_wake_128 (by decide) (fun hb128_13 => ?_) (fun hb128_13 => ?_)
        · refine TT_iload hK 0 rfl dX12_wake_138 ?_
          have e14_74 : g109_10 74 = h 74 := ((hG_10.1 74 (by decide))).trans (((hG_7.1 74 (by decide))).trans (((hG_4.1 74 (by decide))).trans (hG_1.1 74 (by decide))))
          have e15_75 : g109_10 75 = h 75 := ((hG_10.1 75 (by decide))).trans (((hG_7.1 75 (by decide))).trans (((hG_4.1 75 (by decide))).trans (hG_1.1 75 (by decide))))
          have e16_73_32 : g109_10 73 32 = (h 73) 32 := (congrFun (hG_10.1 73 (by decide)) 32).trans ((congrFun (hG_7.1 73 (by decide)) 32).trans ((congrFun (hG_4.1 73 (by decide)) 32).trans (congrFun (hG_1.1 73 (by decide)) 32)))
          have e17_73_29 : g109_10 73 29 = (h 73) 29 := (congrFun (hG_10.1 73 (by decide)) 29).trans ((congrFun (hG_7.1 73 (by decide)) 29).trans ((congrFun (hG_4.1 73 (by decide)) 29).trans (congrFun (hG_1.1 73 (by decide)) 29)))
          have e18_73_34 : g109_10 73 34 = (h 73) 34 := (congrFun (hG_10.1 73 (by decide)) 34).trans ((congrFun (hG_7.1 73 (by decide)) 34).trans ((congrFun (hG_4.1 73 (by decide)) 34).trans (congrFun (hG_1.1 73 (by decide)) 34)))
          have e19_73_36 : g109_10 73 36 = (h 73) 36 := (congrFun (hG_10.1 73 (by decide)) 36).trans ((congrFun (hG_7.1 73 (by decide)) 36).trans ((congrFun (hG_4.1 73 (by decide)) 36).trans (congrFun (hG_1.1 73 (by decide)) 36)))
          have e20_96 : g109_10 96 = h 96 := ((hG_10.1 96 (by decide))).trans (((hG_7.1 96 (by decide))).trans (((hG_4.1 96 (by decide))).trans (hG_1.1 96 (by decide))))
          refine iv_X12_258 hK (s_X12_code_73 cx 0 g109_10 hT_10 (by first | omega | (simp [up, setR] <;> omega)) (by first | omega | (simp [up, setR] <;> omega)) (by rewrite [e14_74, e15_75]; first | assumption | exact htb) (by rewrite [e16_73_32]; first | omega | (simp [up, setR] <;> omega)) (by rewrite [e17_73_29, e18_73_34, e19_73_36, e20_96]; first | omega | (simp [up, setR] <;> omega))) (by decide) rfl ⟨by decide, by decide⟩ (by decide) rfl rfl (Nat.le_of_ble_eq_true rfl) ⟨by decide, by decide⟩ dX12_wake_140 ?_
          intro r9 g140_21 hp9
          obtain ⟨⟨hT_21, hG_21⟩, z140_21, hr9, hz_21, pa_21, pm_21⟩ := hp9
          rw [hr9]
          have hF_21 : FRM [73, 84, 85, 93, 96, 97, 98] [28, 32, 33, 34, 36, 39] h g140_21 := FRM_tr hF_10 hG_21 (by decide) (by decide)
          rw [show g109_10 73 29 = (h 73) 29 from (congrFun (hG_10.1 73 (by decide)) 29).trans ((congrFun (hG_7.1 73 (by decide)) 29).trans ((congrFun (hG_4.1 73 (by decide)) 29).trans (congrFun (hG_1.1 73 (by decide)) 29)))] at pm_21
          rw [show g109_10 73 34 = (h 73) 34 from (congrFun (hG_10.1 73 (by decide)) 34).trans ((congrFun (hG_7.1 73 (by decide)) 34).trans ((congrFun (hG_4.1 73 (by decide)) 34).trans (congrFun (hG_1.1 73 (by decide)) 34)))] at pm_21
          rw [show g109_10 73 36 = (h 73) 36 from (congrFun (hG_10.1 73 (by decide)) 36).trans ((congrFun (hG_7.1 73 (by decide)) 36).trans ((congrFun (hG_4.1 73 (by decide)) 36).trans (congrFun (hG_1.1 73 (by decide)) 36)))] at pm_21
          rw [show g109_10 96 = h 96 from ((hG_10.1 96 (by decide))).trans (((hG_7.1 96 (by decide))).trans (((hG_4.1 96 (by decide))).trans (hG_1.1 96 (by decide))))] at pm_21
          show TT K ly 0 0 143 [(8, vI 0), (0, vR 73), (1, vI x), (2, vI y), (3, vI (10 * y + x + 11)), (4, vI a), (5, vI b), (6, vI t9), (7, vI cx)] [vI z140_21] g140_21
          refine TT_istore hK (lv' := [(9, vI z140_21), (8, vI 0), (0, vR 73), (1, vI x), (2, vI y), (3, vI (10 * y + x + 11)), (4, vI a), (5, vI b), (6, vI t9), (7, vI cx)]) (by decide) rfl dX12_wake_143 ?_
          refine TT_iload hK 8 rfl dX12_wake_145 ?_
          refine TT_if_eq hK (tgt := 157) (irm (by omega) (by omega)) dX12_wake_147 (by decide) (fun hb147_22 => ?_) (fun hb147_22 => ?_)
          · refine TT_iload hK 0 rfl dX12_wake_157 ?_
            refine TT_istore hK (lv' := [(8, vI z140_21), (9, vI z140_21), (0, vR 73), (1, vI x), (2, vI y), (3, vI (10 * y + x + 11)), (4, vI a), (5, vI b), (6, vI t9), (7, vI cx)]) (by decide) rfl dX12_wake_159 ?_
            refine TT_aload_n hK rfl 2 rfl dX12_wake_161 ?_
            refine gf_X12_50 hK (by decide) rfl (q := 85) rfl rfl dX12_wake_162 ?_
            refine TT_aload_n hK rfl 2 rfl dX12_wake_165 ?_
            refine TT_iload_n hK rfl 3 rfl dX12_wake_166 ?_
            refine TT_iload_n hK rfl 4 rfl dX12_wake_167 ?_
            refine iv_X12_249 hK (s_X12_cell_73 x y g140_21 hT_21 (by first | omega | (simp [up, setR] <;> omega)) (by first | omega | (simp [up, setR] <;> omega))) (by decide) rfl ⟨by decide, by decide⟩ (by decide) rfl rfl (Nat.le_of_ble_eq_true rfl) ⟨by decide, by decide⟩ dX12_wake_168 ?_
            intro r9 g168_23 hp9
            obtain ⟨⟨hT_23, hG_23⟩, z168_23, hr9, hz_23, p1_23⟩ := hp9
            rw [hr9]
            have hF_23 : FRM [73, 84, 85, 93, 96, 97, 98] [28, 32, 33, 34, 36, 39] h g168_23 := FRM_tr hF_21 hG_23 (by decide) (by decide)
            rw [show g140_21 73 26 = (h 73) 26 from ((hG_21.2 26 (by decide))).trans ((congrFun (hG_10.1 73 (by decide)) 26).trans ((congrFun (hG_7.1 73 (by decide)) 26).trans ((congrFun (hG_4.1 73 (by decide)) 26).trans (congrFun (hG_1.1 73 (by decide)) 26))))] at p1_23
            show TT K ly 0 0 171 [(8, vI z140_21), (9, vI z140_21), (0, vR 73), (1, vI x), (2, vI y), (3, vI (10 * y + x + 11)), (4, vI a), (5, vI b), (6, vI t9), (7, vI cx)] [vI z168_23, vR 85] g168_23
            refine TT_iload hK 0 rfl dX12_wake_171 ?_
            refine TT_iconst hK dX12_wake_173 ?_
            refine TT_icmp_ne hK (tgt := 181) (irm (by omega) (by omega)) (by decide) dX12_wake_174 (by decide) (fun hb174_24 => ?_) (fun hb174_24 => ?_)
            · refine TT_iconst hK dX12_wake_181 ?_
              refine TT_zast hK (o := 85) (n := 1280) (by decide) rfl (by omega) (by omega) (by first | decide | omega) dX12_wake_182 ?_
              refine TT_hp (h' := setO g168_23 85 (fup (h 85) z168_23 0)) (up_can (((hG_23.1 85 (by decide))).trans (((hG_21.1 85 (by decide))).trans (((hG_10.1 85 (by decide))).trans (((hG_7.1 85 (by decide))).trans (((hG_4.1 85 (by decide))).trans (hG_1.1 85 (by decide))))))) rfl rfl) ?_
              have hT_25 : TY (setO g168_23 85 (fup (h 85) z168_23 0)) := tu_85 hT_23 (show up g168_23 85 z168_23 0 = (setO g168_23 85 (fup (h 85) z168_23 0)) from up_can (((hG_23.1 85 (by decide))).trans (((hG_21.1 85 (by decide))).trans (((hG_10.1 85 (by decide))).trans (((hG_7.1 85 (by decide))).trans (((hG_4.1 85 (by decide))).trans (hG_1.1 85 (by decide))))))) rfl rfl) (by omega)
              have hF_25 : FRM [73, 84, 85, 93, 96, 97, 98] [28, 32, 33, 34, 36, 39] h (setO g168_23 85 (fup (h 85) z168_23 0)) := FRM_up (show up g168_23 85 z168_23 0 = (setO g168_23 85 (fup (h 85) z168_23 0)) from up_can (((hG_23.1 85 (by decide))).trans (((hG_21.1 85 (by decide))).trans (((hG_10.1 85 (by decide))).trans (((hG_7.1 85 (by decide))).trans (((hG_4.1 85 (by decide))).trans (hG_1.1 85 (by decide))))))) rfl rfl) hF_23 (by decide) (by decide)
              refine TT_aload_n hK rfl 2 rfl dX12_wake_183 ?_
              refine gf_X12_75 hK (by decide) rfl (q := 93) rfl rfl dX12_wake_184 ?_
              refine TT_iload_n hK rfl 5 rfl dX12_wake_187 ?_
              refine TT_iload hK 0 rfl dX12_wake_188 ?_
              refine TT_iconst hK dX12_wake_190 ?_
              refine TT_icmp_ne hK (tgt := 198) (irm (by omega) (by omega)) (by decide) dX12_wake_191 (by decide) (fun hb191_26 => ?_) (fun hb191_26 => ?_)
              · refine TT_iconst hK dX12_wake_198 ?_
                refine TT_iast hK (o := 93) (n := 100) (by decide) rfl (by omega) (by omega) dX12_wake_199 ?_
                refine TT_hp (h' := setO (setO g168_23 85 (fup (h 85) z168_23 0)) 93 (fup (h 93) (10 * y + x + 11) 1)) (up_can ((sOf_ne _ _ (by decide)).trans (((hG_23.1 93 (by decide))).trans (((hG_21.1 93 (by decide))).trans (((hG_10.1 93 (by decide))).trans (((hG_7.1 93 (by decide))).trans (((hG_4.1 93 (by decide))).trans (hG_1.1 93 (by decide)))))))) rfl rfl) ?_
                have hT_27 : TY (setO (setO g168_23 85 (fup (h 85) z168_23 0)) 93 (fup (h 93) (10 * y + x + 11) 1)) := tu_93 hT_25 (show up (setO g168_23 85 (fup (h 85) z168_23 0)) 93 (10 * y + x + 11) 1 = (setO (setO g168_23 85 (fup (h 85) z168_23 0)) 93 (fup (h 93) (10 * y + x + 11) 1)) from up_can ((sOf_ne _ _ (by decide)).trans (((hG_23.1 93 (by decide))).trans (((hG_21.1 93 (by decide))).trans (((hG_10.1 93 (by decide))).trans (((hG_7.1 93 (by decide))).trans (((hG_4.1 93 (by decide))).trans (hG_1.1 93 (by decide)))))))) rfl rfl) (by omega)
                have hF_27 : FRM [73, 84, 85, 93, 96, 97, 98] [28, 32, 33, 34, 36, 39] h (setO (setO g168_23 85 (fup (h 85) z168_23 0)) 93 (fup (h 93) (10 * y + x + 11) 1)) := FRM_up (show up (setO g168_23 85 (fup (h 85) z168_23 0)) 93 (10 * y + x + 11) 1 = (setO (setO g168_23 85 (fup (h 85) z168_23 0)) 93 (fup (h 93) (10 * y + x + 11) 1)) from up_can ((sOf_ne _ _ (by decide)).trans (((hG_23.1 93 (by decide))).trans (((hG_21.1 93 (by decide))).trans (((hG_10.1 93 (by decide))).trans (((hG_7.1 93 (by decide))).trans (((hG_4.1 93 (by decide))).trans (hG_1.1 93 (by decide)))))))) rfl rfl) hF_25 (by decide) (by decide)
                refine TT_aload_n hK rfl 2 rfl dX12_wake_200 ?_
                refine gf_X12_163 hK (by decide) rfl (v := (h 73) 29) ((congrFun ((sOf_ne _ _ (by decide)).trans ((sOf_ne _ _ (by decide)).trans (hG_23.1 73 (by decide)))) 29).trans (((hG_21.2 29 (by decide))).trans ((congrFun (hG_10.1 73 (by decide)) 29).trans ((congrFun (hG_7.1 73 (by decide)) 29).trans ((congrFun (hG_4.1 73 (by decide)) 29).trans (congrFun (hG_1.1 73 (by decide)) 29)))))) dX12_wake_201 ?_
                have r28 := ty_73_29 (v := (h 73) 29) hT_27 ((congrFun ((sOf_ne _ _ (by decide)).trans ((sOf_ne _ _ (by decide)).trans (hG_23.1 73 (by decide)))) 29).trans (((hG_21.2 29 (by decide))).trans ((congrFun (hG_10.1 73 (by decide)) 29).trans ((congrFun (hG_7.1 73 (by decide)) 29).trans ((congrFun (hG_4.1 73 (by decide)) 29).trans (congrFun (hG_1.1 73 (by decide)) 29))))))
                refine TT_iconst hK dX12_wake_204 ?_
                refine TT_icmp_ne hK (tgt := 237) (irm (by omega) (by omega)) (by decide) dX12_wake_205 (by decide) (fun hb205_29 => ?_) (fun hb205_29 => ?_)
                · refine TT_vret hK hQ ?_ dX12_wake_237
                  have e30_73_32 : (setO (setO g168_23 85 (fup (h 85) z168_23 0)) 93 (fup (h 93) (10 * y + x + 11) 1)) 73 32 = (g140_21 73) 32 := congrFun ((sOf_ne _ _ (by decide)).trans ((sOf_ne _ _ (by decide)).trans (hG_23.1 73 (by decide)))) 32
                  have e31_73_34 : (setO (setO g168_23 85 (fup (h 85) z168_23 0)) 93 (fup (h 93) (10 * y + x + 11) 1)) 73 34 = (g140_21 73) 34 := congrFun ((sOf_ne _ _ (by decide)).trans ((sOf_ne _ _ (by decide)).trans (hG_23.1 73 (by decide)))) 34
                  have e32_73_36 : (setO (setO g168_23 85 (fup (h 85) z168_23 0)) 93 (fup (h 93) (10 * y + x + 11) 1)) 73 36 = (g140_21 73) 36 := congrFun ((sOf_ne _ _ (by decide)).trans ((sOf_ne _ _ (by decide)).trans (hG_23.1 73 (by decide)))) 36
                  have e33_96 : (setO (setO g168_23 85 (fup (h 85) z168_23 0)) 93 (fup (h 93) (10 * y + x + 11) 1)) 96 = g140_21 96 := (sOf_ne _ _ (by decide)).trans ((sOf_ne _ _ (by decide)).trans (hG_23.1 96 (by decide)))
                  have e34_93 : (setO (setO g168_23 85 (fup (h 85) z168_23 0)) 93 (fup (h 93) (10 * y + x + 11) 1)) 93 = fup (h 93) (10 * y + x + 11) 1 := sOf_eq _ _ _
                  exact ⟨⟨hT_27, hF_27⟩, rfl, (by rewrite [e30_73_32]; omega), (by rewrite [e31_73_34, e32_73_36, e33_96]; omega), (by rewrite [e34_93]; intro w e h1 h2 h3 h4 h5; exact ZC_up ⟨hx.1, h1⟩ h2 ⟨hy.1, h3⟩ h4 h5 (by decide))⟩
                · refine TT_aload_n hK rfl 2 rfl dX12_wake_208 ?_
                  refine gf_X12_47 hK (by decide) rfl (q := 84) rfl rfl dX12_wake_209 ?_
                  refine TT_aload_n hK rfl 2 rfl dX12_wake_212 ?_
                  refine TT_iload_n hK rfl 3 rfl dX12_wake_213 ?_
                  refine TT_iload_n hK rfl 4 rfl dX12_wake_214 ?_
                  refine iv_X12_249 hK (s_X12_cell_73 x y (setO (setO g168_23 85 (fup (h 85) z168_23 0)) 93 (fup (h 93) (10 * y + x + 11) 1)) hT_27 (by first | omega | (simp [up, setR] <;> omega)) (by first | omega | (simp [up, setR] <;> omega))) (by decide) rfl ⟨by decide, by decide⟩ (by decide) rfl rfl (Nat.le_of_ble_eq_true rfl) ⟨by decide, by decide⟩ dX12_wake_215 ?_
                  intro r9 g215_35 hp9
                  obtain ⟨⟨hT_35, hG_35⟩, z215_35, hr9, hz_35, p1_35⟩ := hp9
                  rw [hr9]
                  have hF_35 : FRM [73, 84, 85, 93, 96, 97, 98] [28, 32, 33, 34, 36, 39] h g215_35 := FRM_tr hF_27 hG_35 (by decide) (by decide)
                  rw [show (setO (setO g168_23 85 (fup (h 85) z168_23 0)) 93 (fup (h 93) (10 * y + x + 11) 1)) 73 26 = (h 73) 26 from (congrFun ((sOf_ne _ _ (by decide)).trans ((sOf_ne _ _ (by decide)).trans (hG_23.1 73 (by decide)))) 26).trans (((hG_21.2 26 (by decide))).trans ((congrFun (hG_10.1 73 (by decide)) 26).trans ((congrFun (hG_7.1 73 (by decide)) 26).trans ((congrFun (hG_4.1 73 (by decide)) 26).trans (congrFun (hG_1.1 73 (by decide)) 26)))))] at p1_35
                  show TT K ly 0 0 218 [(8, vI z140_21), (9, vI z140_21), (0, vR 73), (1, vI x), (2, vI y), (3, vI (10 * y + x + 11)), (4, vI a), (5, vI b), (6, vI t9), (7, vI cx)] [vI z215_35, vR 84] g215_35
                  refine TT_aload_n hK rfl 2 rfl dX12_wake_218 ?_
                  refine gf_X12_47 hK (by decide) rfl (q := 84) rfl rfl dX12_wake_219 ?_
                  refine TT_aload_n hK rfl 2 rfl dX12_wake_222 ?_
                  refine TT_iload_n hK rfl 3 rfl dX12_wake_223 ?_
                  refine TT_iload_n hK rfl 4 rfl dX12_wake_224 ?_
                  refine iv_X12_249 hK (s_X12_cell_73 x y g215_35 hT_35 (by first | omega | (simp [up, setR] <;> omega)) (by first | omega | (simp [up, setR] <;> omega))) (by decide) rfl ⟨by decide, by decide⟩ (by decide) rfl rfl (Nat.le_of_ble_eq_true rfl) ⟨by decide, by decide⟩ dX12_wake_225 ?_
                  intro r9 g225_36 hp9
                  obtain ⟨⟨hT_36, hG_36⟩, z225_36, hr9, hz_36, p1_36⟩ := hp9
                  rw [hr9]
                  have hF_36 : FRM [73, 84, 85, 93, 96, 97, 98] [28, 32, 33, 34, 36, 39] h g225_36 := FRM_tr hF_35 hG_36 (by decide) (by decide)
                  rw [show g215_35 73 26 = (h 73) 26 from (congrFun (hG_35.1 73 (by decide)) 26).trans ((congrFun ((sOf_ne _ _ (by decide)).trans ((sOf_ne _ _ (by decide)).trans (hG_23.1 73 (by decide)))) 26).trans (((hG_21.2 26 (by decide))).trans ((congrFun (hG_10.1 73 (by decide)) 26).trans ((congrFun (hG_7.1 73 (by decide)) 26).trans ((congrFun (hG_4.1 73 (by decide)) 26).trans (congrFun (hG_1.1 73 (by decide)) 26))))))] at p1_36
                  show TT K ly 0 0 228 [(8, vI z140_21), (9, vI z140_21), (0, vR 73), (1, vI x), (2, vI y), (3, vI (10 * y + x + 11)), (4, vI a), (5, vI b), (6, vI t9), (7, vI cx)] [vI z225_36, vR 84, vI z215_35, vR 84] g225_36
                  refine TT_iald hK (o := 84) (n := 1280) (by decide) rfl (by first | omega | (simp [up, setR] <;> omega)) (by first | omega | (simp [up, setR] <;> omega)) (v := (h 84) z225_36) (rd_ (((hG_36.1 84 (by decide))).trans (((hG_35.1 84 (by decide))).trans ((sOf_ne _ _ (by decide)).trans ((sOf_ne _ _ (by decide)).trans (((hG_23.1 84 (by decide))).trans (((hG_21.1 84 (by decide))).trans (((hG_10.1 84 (by decide))).trans (((hG_7.1 84 (by decide))).trans (((hG_4.1 84 (by decide))).trans (hG_1.1 84 (by decide))))))))))) rfl) dX12_wake_228 ?_
                  have r37 := ty_84 (i := z225_36) (v := (h 84) z225_36) hT_36 (rd_ (((hG_36.1 84 (by decide))).trans (((hG_35.1 84 (by decide))).trans ((sOf_ne _ _ (by decide)).trans ((sOf_ne _ _ (by decide)).trans (((hG_23.1 84 (by decide))).trans (((hG_21.1 84 (by decide))).trans (((hG_10.1 84 (by decide))).trans (((hG_7.1 84 (by decide))).trans (((hG_4.1 84 (by decide))).trans (hG_1.1 84 (by decide))))))))))) rfl) (by omega) (by omega)
                  refine TT_iconst hK dX12_wake_229 ?_
                  refine TT_aload_n hK rfl 2 rfl dX12_wake_230 ?_
                  refine gf_X12_252 hK (by decide) rfl (v := (h 73) 27) ((congrFun (hG_36.1 73 (by decide)) 27).trans ((congrFun (hG_35.1 73 (by decide)) 27).trans ((congrFun ((sOf_ne _ _ (by decide)).trans ((sOf_ne _ _ (by decide)).trans (hG_23.1 73 (by decide)))) 27).trans (((hG_21.2 27 (by decide))).trans ((congrFun (hG_10.1 73 (by decide)) 27).trans ((congrFun (hG_7.1 73 (by decide)) 27).trans ((congrFun (hG_4.1 73 (by decide)) 27).trans (congrFun (hG_1.1 73 (by decide)) 27)))))))) dX12_wake_231 ?_
                  have r38 := ty_73_27 (v := (h 73) 27) hT_36 ((congrFun (hG_36.1 73 (by decide)) 27).trans ((congrFun (hG_35.1 73 (by decide)) 27).trans ((congrFun ((sOf_ne _ _ (by decide)).trans ((sOf_ne _ _ (by decide)).trans (hG_23.1 73 (by decide)))) 27).trans (((hG_21.2 27 (by decide))).trans ((congrFun (hG_10.1 73 (by decide)) 27).trans ((congrFun (hG_7.1 73 (by decide)) 27).trans ((congrFun (hG_4.1 73 (by decide)) 27).trans (congrFun (hG_1.1 73 (by decide)) 27))))))))
                  refine TT_ishl_a hK dX12_wake_234 (fun x234_39 hx39 => ?_)
                  refine TT_ior hK dX12_wake_235 ?_
                  refine TT_w32 (fun x236_40 hx40 => ?_)
                  refine TT_iast hK (o := 84) (n := 1280) (by decide) rfl (by omega) (by omega) dX12_wake_236 ?_
                  refine TT_hp (h' := setO g225_36 84 (fup (h 84) z215_35 x236_40)) (up_can (((hG_36.1 84 (by decide))).trans (((hG_35.1 84 (by decide))).trans ((sOf_ne _ _ (by decide)).trans ((sOf_ne _ _ (by decide)).trans (((hG_23.1 84 (by decide))).trans (((hG_21.1 84 (by decide))).trans (((hG_10.1 84 (by decide))).trans (((hG_7.1 84 (by decide))).trans (((hG_4.1 84 (by decide))).trans (hG_1.1 84 (by decide))))))))))) rfl rfl) ?_
                  have hT_41 : TY (setO g225_36 84 (fup (h 84) z215_35 x236_40)) := tu_84 hT_36 (show up g225_36 84 z215_35 x236_40 = (setO g225_36 84 (fup (h 84) z215_35 x236_40)) from up_can (((hG_36.1 84 (by decide))).trans (((hG_35.1 84 (by decide))).trans ((sOf_ne _ _ (by decide)).trans ((sOf_ne _ _ (by decide)).trans (((hG_23.1 84 (by decide))).trans (((hG_21.1 84 (by decide))).trans (((hG_10.1 84 (by decide))).trans (((hG_7.1 84 (by decide))).trans (((hG_4.1 84 (by decide))).trans (hG_1.1 84 (by decide))))))))))) rfl rfl) (by omega)
                  have hF_41 : FRM [73, 84, 85, 93, 96, 97, 98] [28, 32, 33, 34, 36, 39] h (setO g225_36 84 (fup (h 84) z215_35 x236_40)) := FRM_up (show up g225_36 84 z215_35 x236_40 = (setO g225_36 84 (fup (h 84) z215_35 x236_40)) from up_can (((hG_36.1 84 (by decide))).trans (((hG_35.1 84 (by decide))).trans ((sOf_ne _ _ (by decide)).trans ((sOf_ne _ _ (by decide)).trans (((hG_23.1 84 (by decide))).trans (((hG_21.1 84 (by decide))).trans (((hG_10.1 84 (by decide))).trans (((hG_7.1 84 (by decide))).trans (((hG_4.1 84 (by decide))).trans (hG_1.1 84 (by decide))))))))))) rfl rfl) hF_36 (by decide) (by decide)
                  refine TT_vret hK hQ ?_ dX12_wake_237
                  have e42_73_32 : (setO g225_36 84 (fup (h 84) z215_35 x236_40)) 73 32 = (g140_21 73) 32 := (congrFun ((sOf_ne _ _ (by decide)).trans (hG_36.1 73 (by decide))) 32).trans ((congrFun (hG_35.1 73 (by decide)) 32).trans (congrFun ((sOf_ne _ _ (by decide)).trans ((sOf_ne _ _ (by decide)).trans (hG_23.1 73 (by decide)))) 32))
                  have e43_73_34 : (setO g225_36 84 (fup (h 84) z215_35 x236_40)) 73 34 = (g140_21 73) 34 := (congrFun ((sOf_ne _ _ (by decide)).trans (hG_36.1 73 (by decide))) 34).trans ((congrFun (hG_35.1 73 (by decide)) 34).trans (congrFun ((sOf_ne _ _ (by decide)).trans ((sOf_ne _ _ (by decide)).trans (hG_23.1 73 (by decide)))) 34))
                  have e44_73_36 : (setO g225_36 84 (fup (h 84) z215_35 x236_40)) 73 36 = (g140_21 73) 36 := (congrFun ((sOf_ne _ _ (by decide)).trans (hG_36.1 73 (by decide))) 36).trans ((congrFun (hG_35.1 73 (by decide)) 36).trans (congrFun ((sOf_ne _ _ (by decide)).trans ((sOf_ne _ _ (by decide)).trans (hG_23.1 73 (by decide)))) 36))
                  have e45_96 : (setO g225_36 84 (fup (h 84) z215_35 x236_40)) 96 = g140_21 96 := (sOf_ne _ _ (by decide)).trans (((hG_36.1 96 (by decide))).trans (((hG_35.1 96 (by decide))).trans ((sOf_ne _ _ (by decide)).trans ((sOf_ne _ _ (by decide)).trans (hG_23.1 96 (by decide))))))
                  have e46_93 : (setO g225_36 84 (fup (h 84) z215_35 x236_40)) 93 = fup (h 93) (10 * y + x + 11) 1 := (sOf_ne _ _ (by decide)).trans (((hG_36.1 93 (by decide))).trans (((hG_35.1 93 (by decide))).trans (sOf_eq _ _ _)))
                  exact ⟨⟨hT_41, hF_41⟩, rfl, (by rewrite [e42_73_32]; omega), (by rewrite [e43_73_34, e44_73_36, e45_96]; omega), (by rewrite [e46_93]; intro w e h1 h2 h3 h4 h5; exact ZC_up ⟨hx.1, h1⟩ h2 ⟨hy.1, h3⟩ h4 h5 (by decide))⟩
              · exfalso; omega
            · refine TT_iconst hK dX12_wake_177 ?_
              refine TT_goto hK (tgt := 182) dX12_wake_178 (by decide) ?_
              refine TT_zast hK (o := 85) (n := 1280) (by decide) rfl (by omega) (by omega) (by first | decide | omega) dX12_wake_182 ?_
              refine TT_hp (h' := setO g168_23 85 (fup (h 85) z168_23 1)) (up_can (((hG_23.1 85 (by decide))).trans (((hG_21.1 85 (by decide))).trans (((hG_10.1 85 (by decide))).trans (((hG_7.1 85 (by decide))).trans (((hG_4.1 85 (by decide))).trans (hG_1.1 85 (by decide))))))) rfl rfl) ?_
              have hT_47 : TY (setO g168_23 85 (fup (h 85) z168_23 1)) := tu_85 hT_23 (show up g168_23 85 z168_23 1 = (setO g168_23 85 (fup (h 85) z168_23 1)) from up_can (((hG_23.1 85 (by decide))).trans (((hG_21.1 85 (by decide))).trans (((hG_10.1 85 (by decide))).trans (((hG_7.1 85 (by decide))).trans (((hG_4.1 85 (by decide))).trans (hG_1.1 85 (by decide))))))) rfl rfl) (by omega)
              have hF_47 : FRM [73, 84, 85, 93, 96, 97, 98] [28, 32, 33, 34, 36, 39] h (setO g168_23 85 (fup (h 85) z168_23 1)) := FRM_up (show up g168_23 85 z168_23 1 = (setO g168_23 85 (fup (h 85) z168_23 1)) from up_can (((hG_23.1 85 (by decide))).trans (((hG_21.1 85 (by decide))).trans (((hG_10.1 85 (by decide))).trans (((hG_7.1 85 (by decide))).trans (((hG_4.1 85 (by decide))).trans (hG_1.1 85 (by decide))))))) rfl rfl) hF_23 (by decide) (by decide)
              refine TT_aload_n hK rfl 2 rfl dX12_wake_183 ?_
              refine gf_X12_75 hK (by decide) rfl (q := 93) rfl rfl dX12_wake_184 ?_
              refine TT_iload_n hK rfl 5 rfl dX12_wake_187 ?_
              refine TT_iload hK 0 rfl dX12_wake_188 ?_
              refine TT_iconst hK dX12_wake_190 ?_
              refine TT_icmp_ne hK (tgt := 198) (irm (by omega) (by omega)) (by decide) dX12_wake_191 (by decide) (fun hb191_48 => ?_) (fun hb191_48 => ?_)
              · exfalso; omega
              · refine TT_iconst hK dX12_wake_194 ?_
                refine TT_goto hK (tgt := 199) dX12_wake_195 (by decide) ?_
                refine TT_iast hK (o := 93) (n := 100) (by decide) rfl (by omega) (by omega) dX12_wake_199 ?_
                refine TT_hp (h' := setO (setO g168_23 85 (fup (h 85) z168_23 1)) 93 (fup (h 93) (10 * y + x + 11) (-1))) (up_can ((sOf_ne _ _ (by decide)).trans (((hG_23.1 93 (by decide))).trans (((hG_21.1 93 (by decide))).trans (((hG_10.1 93 (by decide))).trans (((hG_7.1 93 (by decide))).trans (((hG_4.1 93 (by decide))).trans (hG_1.1 93 (by decide)))))))) rfl rfl) ?_
                have hT_49 : TY (setO (setO g168_23 85 (fup (h 85) z168_23 1)) 93 (fup (h 93) (10 * y + x + 11) (-1))) := tu_93 hT_47 (show up (setO g168_23 85 (fup (h 85) z168_23 1)) 93 (10 * y + x + 11) (-1) = (setO (setO g168_23 85 (fup (h 85) z168_23 1)) 93 (fup (h 93) (10 * y + x + 11) (-1))) from up_can ((sOf_ne _ _ (by decide)).trans (((hG_23.1 93 (by decide))).trans (((hG_21.1 93 (by decide))).trans (((hG_10.1 93 (by decide))).trans (((hG_7.1 93 (by decide))).trans (((hG_4.1 93 (by decide))).trans (hG_1.1 93 (by decide)))))))) rfl rfl) (by omega)
                have hF_49 : FRM [73, 84, 85, 93, 96, 97, 98] [28, 32, 33, 34, 36, 39] h (setO (setO g168_23 85 (fup (h 85) z168_23 1)) 93 (fup (h 93) (10 * y + x + 11) (-1))) := FRM_up (show up (setO g168_23 85 (fup (h 85) z168_23 1)) 93 (10 * y + x + 11) (-1) = (setO (setO g168_23 85 (fup (h 85) z168_23 1)) 93 (fup (h 93) (10 * y + x + 11) (-1))) from up_can ((sOf_ne _ _ (by decide)).trans (((hG_23.1 93 (by decide))).trans (((hG_21.1 93 (by decide))).trans (((hG_10.1 93 (by decide))).trans (((hG_7.1 93 (by decide))).trans (((hG_4.1 93 (by decide))).trans (hG_1.1 93 (by decide)))))))) rfl rfl) hF_47 (by decide) (by decide)
                refine TT_aload_n hK rfl 2 rfl dX12_wake_200 ?_
                refine gf_X12_163 hK (by decide) rfl (v := (h 73) 29) ((congrFun ((sOf_ne _ _ (by decide)).trans ((sOf_ne _ _ (by decide)).trans (hG_23.1 73 (by decide)))) 29).trans (((hG_21.2 29 (by decide))).trans ((congrFun (hG_10.1 73 (by decide)) 29).trans ((congrFun (hG_7.1 73 (by decide)) 29).trans ((congrFun (hG_4.1 73 (by decide)) 29).trans (congrFun (hG_1.1 73 (by decide)) 29)))))) dX12_wake_201 ?_
                have r50 := ty_73_29 (v := (h 73) 29) hT_49 ((congrFun ((sOf_ne _ _ (by decide)).trans ((sOf_ne _ _ (by decide)).trans (hG_23.1 73 (by decide)))) 29).trans (((hG_21.2 29 (by decide))).trans ((congrFun (hG_10.1 73 (by decide)) 29).trans ((congrFun (hG_7.1 73 (by decide)) 29).trans ((congrFun (hG_4.1 73 (by decide)) 29).trans (congrFun (hG_1.1 73 (by decide)) 29))))))
                refine TT_iconst hK dX12_wake_204 ?_
                refine TT_icmp_ne hK (tgt := 237) (irm (by omega) (by omega)) (by decide) dX12_wake_205 (by decide) (fun hb205_51 => ?_) (fun hb205_51 => ?_)
                · refine TT_vret hK hQ ?_ dX12_wake_237
                  have e52_73_32 : (setO (setO g168_23 85 (fup (h 85) z168_23 1)) 93 (fup (h 93) (10 * y + x + 11) (-1))) 73 32 = (g140_21 73) 32 := congrFun ((sOf_ne _ _ (by decide)).trans ((sOf_ne _ _ (by decide)).trans (hG_23.1 73 (by decide)))) 32
                  have e53_73_34 : (setO (setO g168_23 85 (fup (h 85) z168_23 1)) 93 (fup (h 93) (10 * y + x + 11) (-1))) 73 34 = (g140_21 73) 34 := congrFun ((sOf_ne _ _ (by decide)).trans ((sOf_ne _ _ (by decide)).trans (hG_23.1 73 (by decide)))) 34
                  have e54_73_36 : (setO (setO g168_23 85 (fup (h 85) z168_23 1)) 93 (fup (h 93) (10 * y + x + 11) (-1))) 73 36 = (g140_21 73) 36 := congrFun ((sOf_ne _ _ (by decide)).trans ((sOf_ne _ _ (by decide)).trans (hG_23.1 73 (by decide)))) 36
                  have e55_96 : (setO (setO g168_23 85 (fup (h 85) z168_23 1)) 93 (fup (h 93) (10 * y + x + 11) (-1))) 96 = g140_21 96 := (sOf_ne _ _ (by decide)).trans ((sOf_ne _ _ (by decide)).trans (hG_23.1 96 (by decide)))
                  have e56_93 : (setO (setO g168_23 85 (fup (h 85) z168_23 1)) 93 (fup (h 93) (10 * y + x + 11) (-1))) 93 = fup (h 93) (10 * y + x + 11) (-1) := sOf_eq _ _ _
                  exact ⟨⟨hT_49, hF_49⟩, rfl, (by rewrite [e52_73_32]; omega), (by rewrite [e53_73_34, e54_73_36, e55_96]; omega), (by rewrite [e56_93]; intro w e h1 h2 h3 h4 h5; exact ZC_up ⟨hx.1, h1⟩ h2 ⟨hy.1, h3⟩ h4 h5 (by decide))⟩
                · refine TT_aload_n hK rfl 2 rfl dX12_wake_208 ?_
                  refine gf_X12_47 hK (by decide) rfl (q := 84) rfl rfl dX12_wake_209 ?_
                  refine TT_aload_n hK rfl 2 rfl dX12_wake_212 ?_
                  refine TT_iload_n hK rfl 3 rfl dX12_wake_213 ?_
                  refine TT_iload_n hK rfl 4 rfl dX12_wake_214 ?_
                  refine iv_X12_249 hK (s_X12_cell_73 x y (setO (setO g168_23 85 (fup (h 85) z168_23 1)) 93 (fup (h 93) (10 * y + x + 11) (-1))) hT_49 (by first | omega | (simp [up, setR] <;> omega)) (by first | omega | (simp [up, setR] <;> omega))) (by decide) rfl ⟨by decide, by decide⟩ (by decide) rfl rfl (Nat.le_of_ble_eq_true rfl) ⟨by decide, by decide⟩ dX12_wake_215 ?_
                  intro r9 g215_57 hp9
                  obtain ⟨⟨hT_57, hG_57⟩, z215_57, hr9, hz_57, p1_57⟩ := hp9
                  rw [hr9]
                  have hF_57 : FRM [73, 84, 85, 93, 96, 97, 98] [28, 32, 33, 34, 36, 39] h g215_57 := FRM_tr hF_49 hG_57 (by decide) (by decide)
                  rw [show (setO (setO g168_23 85 (fup (h 85) z168_23 1)) 93 (fup (h 93) (10 * y + x + 11) (-1))) 73 26 = (h 73) 26 from (congrFun ((sOf_ne _ _ (by decide)).trans ((sOf_ne _ _ (by decide)).trans (hG_23.1 73 (by decide)))) 26).trans (((hG_21.2 26 (by decide))).trans ((congrFun (hG_10.1 73 (by decide)) 26).trans ((congrFun (hG_7.1 73 (by decide)) 26).trans ((congrFun (hG_4.1 73 (by decide)) 26).trans (congrFun (hG_1.1 73 (by decide)) 26)))))] at p1_57
                  show TT K ly 0 0 218 [(8, vI z140_21), (9, vI z140_21), (0, vR 73), (1, vI x), (2, vI y), (3, vI (10 * y + x + 11)), (4, vI a), (5, vI b), (6, vI t9), (7, vI cx)] [vI z215_57, vR 84] g215_57
                  refine TT_aload_n hK rfl 2 rfl dX12_wake_218 ?_
                  refine gf_X12_47 hK (by decide) rfl (q := 84) rfl rfl dX12_wake_219 ?_
                  refine TT_aload_n hK rfl 2 rfl dX12_wake_222 ?_
                  refine TT_iload_n hK rfl 3 rfl dX12_wake_223 ?_
                  refine TT_iload_n hK rfl 4 rfl dX12_wake_224 ?_
                  refine iv_X12_249 hK (s_X12_cell_73 x y g215_57 hT_57 (by first | omega | (simp [up, setR] <;> omega)) (by first | omega | (simp [up, setR] <;> omega))) (by decide) rfl ⟨by decide, by decide⟩ (by decide) rfl rfl (Nat.le_of_ble_eq_true rfl) ⟨by decide, by decide⟩ dX12_wake_225 ?_
                  intro r9 g225_58 hp9
                  obtain ⟨⟨hT_58, hG_58⟩, z225_58, hr9, hz_58, p1_58⟩ := hp9
                  rw [hr9]
                  have hF_58 : FRM [73, 84, 85, 93, 96, 97, 98] [28, 32, 33, 34, 36, 39] h g225_58 := FRM_tr hF_57 hG_58 (by decide) (by decide)
                  rw [show g215_57 73 26 = (h 73) 26 from (congrFun (hG_57.1 73 (by decide)) 26).trans ((congrFun ((sOf_ne _ _ (by decide)).trans ((sOf_ne _ _ (by decide)).trans (hG_23.1 73 (by decide)))) 26).trans (((hG_21.2 26 (by decide))).trans ((congrFun (hG_10.1 73 (by decide)) 26).trans ((congrFun (hG_7.1 73 (by decide)) 26).trans ((congrFun (hG_4.1 73 (by decide)) 26).trans (congrFun (hG_1.1 73 (by decide)) 26))))))] at p1_58
                  show TT K ly 0 0 228 [(8, vI z140_21), (9, vI z140_21), (0, vR 73), (1, vI x), (2, vI y), (3, vI (10 * y + x + 11)), (4, vI a), (5, vI b), (6, vI t9), (7, vI cx)] [vI z225_58, vR 84, vI z215_57, vR 84] g225_58
                  refine TT_iald hK (o := 84) (n := 1280) (by decide) rfl (by first | omega | (simp [up, setR] <;> omega)) (by first | omega | (simp [up, setR] <;> omega)) (v := (h 84) z225_58) (rd_ (((hG_58.1 84 (by decide))).trans (((hG_57.1 84 (by decide))).trans ((sOf_ne _ _ (by decide)).trans ((sOf_ne _ _ (by decide)).trans (((hG_23.1 84 (by decide))).trans (((hG_21.1 84 (by decide))).trans (((hG_10.1 84 (by decide))).trans (((hG_7.1 84 (by decide))).trans (((hG_4.1 84 (by decide))).trans (hG_1.1 84 (by decide))))))))))) rfl) dX12_wake_228 ?_
                  have r59 := ty_84 (i := z225_58) (v := (h 84) z225_58) hT_58 (rd_ (((hG_58.1 84 (by decide))).trans (((hG_57.1 84 (by decide))).trans ((sOf_ne _ _ (by decide)).trans ((sOf_ne _ _ (by decide)).trans (((hG_23.1 84 (by decide))).trans (((hG_21.1 84 (by decide))).trans (((hG_10.1 84 (by decide))).trans (((hG_7.1 84 (by decide))).trans (((hG_4.1 84 (by decide))).trans (hG_1.1 84 (by decide))))))))))) rfl) (by omega) (by omega)
                  refine TT_iconst hK dX12_wake_229 ?_
                  refine TT_aload_n hK rfl 2 rfl dX12_wake_230 ?_
                  refine gf_X12_252 hK (by decide) rfl (v := (h 73) 27) ((congrFun (hG_58.1 73 (by decide)) 27).trans ((congrFun (hG_57.1 73 (by decide)) 27).trans ((congrFun ((sOf_ne _ _ (by decide)).trans ((sOf_ne _ _ (by decide)).trans (hG_23.1 73 (by decide)))) 27).trans (((hG_21.2 27 (by decide))).trans ((congrFun (hG_10.1 73 (by decide)) 27).trans ((congrFun (hG_7.1 73 (by decide)) 27).trans ((congrFun (hG_4.1 73 (by decide)) 27).trans (congrFun (hG_1.1 73 (by decide)) 27)))))))) dX12_wake_231 ?_
                  have r60 := ty_73_27 (v := (h 73) 27) hT_58 ((congrFun (hG_58.1 73 (by decide)) 27).trans ((congrFun (hG_57.1 73 (by decide)) 27).trans ((congrFun ((sOf_ne _ _ (by decide)).trans ((sOf_ne _ _ (by decide)).trans (hG_23.1 73 (by decide)))) 27).trans (((hG_21.2 27 (by decide))).trans ((congrFun (hG_10.1 73 (by decide)) 27).trans ((congrFun (hG_7.1 73 (by decide)) 27).trans ((congrFun (hG_4.1 73 (by decide)) 27).trans (congrFun (hG_1.1 73 (by decide)) 27))))))))
                  refine TT_ishl_a hK dX12_wake_234 (fun x234_61 hx61 => ?_)
                  refine TT_ior hK dX12_wake_235 ?_
                  refine TT_w32 (fun x236_62 hx62 => ?_)
                  refine TT_iast hK (o := 84) (n := 1280) (by decide) rfl (by omega) (by omega) dX12_wake_236 ?_
                  refine TT_hp (h' := setO g225_58 84 (fup (h 84) z215_57 x236_62)) (up_can (((hG_58.1 84 (by decide))).trans (((hG_57.1 84 (by decide))).trans ((sOf_ne _ _ (by decide)).trans ((sOf_ne _ _ (by decide)).trans (((hG_23.1 84 (by decide))).trans (((hG_21.1 84 (by decide))).trans (((hG_10.1 84 (by decide))).trans (((hG_7.1 84 (by decide))).trans (((hG_4.1 84 (by decide))).trans (hG_1.1 84 (by decide))))))))))) rfl rfl) ?_
                  have hT_63 : TY (setO g225_58 84 (fup (h 84) z215_57 x236_62)) := tu_84 hT_58 (show up g225_58 84 z215_57 x236_62 = (setO g225_58 84 (fup (h 84) z215_57 x236_62)) from up_can (((hG_58.1 84 (by decide))).trans (((hG_57.1 84 (by decide))).trans ((sOf_ne _ _ (by decide)).trans ((sOf_ne _ _ (by decide)).trans (((hG_23.1 84 (by decide))).trans (((hG_21.1 84 (by decide))).trans (((hG_10.1 84 (by decide))).trans (((hG_7.1 84 (by decide))).trans (((hG_4.1 84 (by decide))).trans (hG_1.1 84 (by decide))))))))))) rfl rfl) (by omega)
                  have hF_63 : FRM [73, 84, 85, 93, 96, 97, 98] [28, 32, 33, 34, 36, 39] h (setO g225_58 84 (fup (h 84) z215_57 x236_62)) := FRM_up (show up g225_58 84 z215_57 x236_62 = (setO g225_58 84 (fup (h 84) z215_57 x236_62)) from up_can (((hG_58.1 84 (by decide))).trans (((hG_57.1 84 (by decide))).trans ((sOf_ne _ _ (by decide)).trans ((sOf_ne _ _ (by decide)).trans (((hG_23.1 84 (by decide))).trans (((hG_21.1 84 (by decide))).trans (((hG_10.1 84 (by decide))).trans (((hG_7.1 84 (by decide))).trans (((hG_4.1 84 (by decide))).trans (hG_1.1 84 (by decide))))))))))) rfl rfl) hF_58 (by decide) (by decide)
                  refine TT_vret hK hQ ?_ dX12_wake_237
                  have e64_73_32 : (setO g225_58 84 (fup (h 84) z215_57 x236_62)) 73 32 = (g140_21 73) 32 := (congrFun ((sOf_ne _ _ (by decide)).trans (hG_58.1 73 (by decide))) 32).trans ((congrFun (hG_57.1 73 (by decide)) 32).trans (congrFun ((sOf_ne _ _ (by decide)).trans ((sOf_ne _ _ (by decide)).trans (hG_23.1 73 (by decide)))) 32))
                  have e65_73_34 : (setO g225_58 84 (fup (h 84) z215_57 x236_62)) 73 34 = (g140_21 73) 34 := (congrFun ((sOf_ne _ _ (by decide)).trans (hG_58.1 73 (by decide))) 34).trans ((congrFun (hG_57.1 73 (by decide)) 34).trans (congrFun ((sOf_ne _ _ (by decide)).trans ((sOf_ne _ _ (by decide)).trans (hG_23.1 73 (by decide)))) 34))
                  have e66_73_36 : (setO g225_58 84 (fup (h 84) z215_57 x236_62)) 73 36 = (g140_21 73) 36 := (congrFun ((sOf_ne _ _ (by decide)).trans (hG_58.1 73 (by decide))) 36).trans ((congrFun (hG_57.1 73 (by decide)) 36).trans (congrFun ((sOf_ne _ _ (by decide)).trans ((sOf_ne _ _ (by decide)).trans (hG_23.1 73 (by decide)))) 36))
                  have e67_96 : (setO g225_58 84 (fup (h 84) z215_57 x236_62)) 96 = g140_21 96 := (sOf_ne _ _ (by decide)).trans (((hG_58.1 96 (by decide))).trans (((hG_57.1 96 (by decide))).trans ((sOf_ne _ _ (by decide)).trans ((sOf_ne _ _ (by decide)).trans (hG_23.1 96 (by decide))))))
                  have e68_93 : (setO g225_58 84 (fup (h 84) z215_57 x236_62)) 93 = fup (h 93) (10 * y + x + 11) (-1) := (sOf_ne _ _ (by decide)).trans (((hG_58.1 93 (by decide))).trans (((hG_57.1 93 (by decide))).trans (sOf_eq _ _ _)))
                  exact ⟨⟨hT_63, hF_63⟩, rfl, (by rewrite [e64_73_32]; omega), (by rewrite [e65_73_34, e66_73_36, e67_96]; omega), (by rewrite [e68_93]; intro w e h1 h2 h3 h4 h5; exact ZC_up ⟨hx.1, h1⟩ h2 ⟨hy.1, h3⟩ h4 h5 (by decide))⟩
          · exfalso; omega
        · refine TT_iconst hK dX12_wake_131 ?_
          refine TT_iload hK 0 rfl dX12_wake_132 ?_
          refine TT_isub hK dX12_wake_134 ?_
          refine TT_goto hK (tgt := 140) dX12_wake_135 (by decide) ?_
          have e69_74 : g109_10 74 = h 74 := ((hG_10.1 74 (by decide))).trans (((hG_7.1 74 (by decide))).trans (((hG_4.1 74 (by decide))).trans (hG_1.1 74 (by decide))))
          have e70_75 : g109_10 75 = h 75 := ((hG_10.1 75 (by decide))).trans (((hG_7.1 75 (by decide))).trans (((hG_4.1 75 (by decide))).trans (hG_1.1 75 (by decide))))
          have e71_73_32 : g109_10 73 32 = (h 73) 32 := (congrFun (hG_10.1 73 (by decide)) 32).trans ((congrFun (hG_7.1 73 (by decide)) 32).trans ((congrFun (hG_4.1 73 (by decide)) 32).trans (congrFun (hG_1.1 73 (by decide)) 32)))
          have e72_73_29 : g109_10 73 29 = (h 73) 29 := (congrFun (hG_10.1 73 (by decide)) 29).trans ((congrFun (hG_7.1 73 (by decide)) 29).trans ((congrFun (hG_4.1 73 (by decide)) 29).trans (congrFun (hG_1.1 73 (by decide)) 29)))
          have e73_73_34 : g109_10 73 34 = (h 73) 34 := (congrFun (hG_10.1 73 (by decide)) 34).trans ((congrFun (hG_7.1 73 (by decide)) 34).trans ((congrFun (hG_4.1 73 (by decide)) 34).trans (congrFun (hG_1.1 73 (by decide)) 34)))
          have e74_73_36 : g109_10 73 36 = (h 73) 36 := (congrFun (hG_10.1 73 (by decide)) 36).trans ((congrFun (hG_7.1 73 (by decide)) 36).trans ((congrFun (hG_4.1 73 (by decide)) 36).trans (congrFun (hG_1.1 73 (by decide)) 36)))
          have e75_96 : g109_10 96 = h 96 := ((hG_10.1 96 (by decide))).trans (((hG_7.1 96 (by decide))).trans (((hG_4.1 96 (by decide))).trans (hG_1.1 96 (by decide))))
          refine iv_X12_258 hK (s_X12_code_73 cx (1 - 0) g109_10 hT_10 (by first | omega | (simp [up, setR] <;> omega)) (by first | omega | (simp [up, setR] <;> omega)) (by rewrite [e69_74, e70_75]; first | assumption | exact htb) (by rewrite [e71_73_32]; first | omega | (simp [up, setR] <;> omega)) (by rewrite [e72_73_29, e73_73_34, e74_73_36, e75_96]; first | omega | (simp [up, setR] <;> omega))) (by decide) rfl ⟨by decide, by decide⟩ (by decide) rfl rfl (Nat.le_of_ble_eq_true rfl) ⟨by decide, by decide⟩ dX12_wake_140 ?_
          intro r9 g140_76 hp9
          obtain ⟨⟨hT_76, hG_76⟩, z140_76, hr9, hz_76, pa_76, pm_76⟩ := hp9
          rw [hr9]
          have hF_76 : FRM [73, 84, 85, 93, 96, 97, 98] [28, 32, 33, 34, 36, 39] h g140_76 := FRM_tr hF_10 hG_76 (by decide) (by decide)
          rw [show g109_10 73 29 = (h 73) 29 from (congrFun (hG_10.1 73 (by decide)) 29).trans ((congrFun (hG_7.1 73 (by decide)) 29).trans ((congrFun (hG_4.1 73 (by decide)) 29).trans (congrFun (hG_1.1 73 (by decide)) 29)))] at pm_76
          rw [show g109_10 73 34 = (h 73) 34 from (congrFun (hG_10.1 73 (by decide)) 34).trans ((congrFun (hG_7.1 73 (by decide)) 34).trans ((congrFun (hG_4.1 73 (by decide)) 34).trans (congrFun (hG_1.1 73 (by decide)) 34)))] at pm_76
          rw [show g109_10 73 36 = (h 73) 36 from (congrFun (hG_10.1 73 (by decide)) 36).trans ((congrFun (hG_7.1 73 (by decide)) 36).trans ((congrFun (hG_4.1 73 (by decide)) 36).trans (congrFun (hG_1.1 73 (by decide)) 36)))] at pm_76
          rw [show g109_10 96 = h 96 from ((hG_10.1 96 (by decide))).trans (((hG_7.1 96 (by decide))).trans (((hG_4.1 96 (by decide))).trans (hG_1.1 96 (by decide))))] at pm_76
          show TT K ly 0 0 143 [(8, vI 0), (0, vR 73), (1, vI x), (2, vI y), (3, vI (10 * y + x + 11)), (4, vI a), (5, vI b), (6, vI t9), (7, vI cx)] [vI z140_76] g140_76
          refine TT_istore hK (lv' := [(9, vI z140_76), (8, vI 0), (0, vR 73), (1, vI x), (2, vI y), (3, vI (10 * y + x + 11)), (4, vI a), (5, vI b), (6, vI t9), (7, vI cx)]) (by decide) rfl dX12_wake_143 ?_
          refine TT_iload hK 8 rfl dX12_wake_145 ?_
          refine TT_if_eq hK (tgt := 157) (irm (by omega) (by omega)) dX12_wake_147 (by decide) (fun hb147_77 => ?_) (fun hb147_77 => ?_)
          · exfalso; omega
          · refine TT_iconst hK dX12_wake_150 ?_
            refine TT_iload hK 0 rfl dX12_wake_151 ?_
            refine TT_isub hK dX12_wake_153 ?_
            refine TT_goto hK (tgt := 159) dX12_wake_154 (by decide) ?_
            refine TT_istore hK (lv' := [(8, vI (1 - z140_76)), (9, vI z140_76), (0, vR 73), (1, vI x), (2, vI y), (3, vI (10 * y + x + 11)), (4, vI a), (5, vI b), (6, vI t9), (7, vI cx)]) (by decide) rfl dX12_wake_159 ?_
            refine TT_aload_n hK rfl 2 rfl dX12_wake_161 ?_
            refine gf_X12_50 hK (by decide) rfl (q := 85) rfl rfl dX12_wake_162 ?_
            refine TT_aload_n hK rfl 2 rfl dX12_wake_165 ?_
            refine TT_iload_n hK rfl 3 rfl dX12_wake_166 ?_
            refine TT_iload_n hK rfl 4 rfl dX12_wake_167 ?_
            refine iv_X12_249 hK (s_X12_cell_73 x y g140_76 hT_76 (by first | omega | (simp [up, setR] <;> omega)) (by first | omega | (simp [up, setR] <;> omega))) (by decide) rfl ⟨by decide, by decide⟩ (by decide) rfl rfl (Nat.le_of_ble_eq_true rfl) ⟨by decide, by decide⟩ dX12_wake_168 ?_
            intro r9 g168_78 hp9
            obtain ⟨⟨hT_78, hG_78⟩, z168_78, hr9, hz_78, p1_78⟩ := hp9
            rw [hr9]
            have hF_78 : FRM [73, 84, 85, 93, 96, 97, 98] [28, 32, 33, 34, 36, 39] h g168_78 := FRM_tr hF_76 hG_78 (by decide) (by decide)
            rw [show g140_76 73 26 = (h 73) 26 from ((hG_76.2 26 (by decide))).trans ((congrFun (hG_10.1 73 (by decide)) 26).trans ((congrFun (hG_7.1 73 (by decide)) 26).trans ((congrFun (hG_4.1 73 (by decide)) 26).trans (congrFun (hG_1.1 73 (by decide)) 26))))] at p1_78
            show TT K ly 0 0 171 [(8, vI (1 - z140_76)), (9, vI z140_76), (0, vR 73), (1, vI x), (2, vI y), (3, vI (10 * y + x + 11)), (4, vI a), (5, vI b), (6, vI t9), (7, vI cx)] [vI z168_78, vR 85] g168_78
            refine TT_iload hK 0 rfl dX12_wake_171 ?_
            refine TT_iconst hK dX12_wake_173 ?_
            refine TT_icmp_ne hK (tgt := 181) (irm (by omega) (by omega)) (by decide) dX12_wake_174 (by decide) (fun hb174_79 => ?_) (fun hb174_79 => ?_)
            · refine TT_iconst hK dX12_wake_181 ?_
              refine TT_zast hK (o := 85) (n := 1280) (by decide) rfl (by omega) (by omega) (by first | decide | omega) dX12_wake_182 ?_
              refine TT_hp (h' := setO g168_78 85 (fup (h 85) z168_78 0)) (up_can (((hG_78.1 85 (by decide))).trans (((hG_76.1 85 (by decide))).trans (((hG_10.1 85 (by decide))).trans (((hG_7.1 85 (by decide))).trans (((hG_4.1 85 (by decide))).trans (hG_1.1 85 (by decide))))))) rfl rfl) ?_
              have hT_80 : TY (setO g168_78 85 (fup (h 85) z168_78 0)) := tu_85 hT_78 (show up g168_78 85 z168_78 0 = (setO g168_78 85 (fup (h 85) z168_78 0)) from up_can (((hG_78.1 85 (by decide))).trans (((hG_76.1 85 (by decide))).trans (((hG_10.1 85 (by decide))).trans (((hG_7.1 85 (by decide))).trans (((hG_4.1 85 (by decide))).trans (hG_1.1 85 (by decide))))))) rfl rfl) (by omega)
              have hF_80 : FRM [73, 84, 85, 93, 96, 97, 98] [28, 32, 33, 34, 36, 39] h (setO g168_78 85 (fup (h 85) z168_78 0)) := FRM_up (show up g168_78 85 z168_78 0 = (setO g168_78 85 (fup (h 85) z168_78 0)) from up_can (((hG_78.1 85 (by decide))).trans (((hG_76.1 85 (by decide))).trans (((hG_10.1 85 (by decide))).trans (((hG_7.1 85 (by decide))).trans (((hG_4.1 85 (by decide))).trans (hG_1.1 85 (by decide))))))) rfl rfl) hF_78 (by decide) (by decide)
              refine TT_aload_n hK rfl 2 rfl dX12_wake_183 ?_
              refine gf_X12_75 hK (by decide) rfl (q := 93) rfl rfl dX12_wake_184 ?_
              refine TT_iload_n hK rfl 5 rfl dX12_wake_187 ?_
              refine TT_iload hK 0 rfl dX12_wake_188 ?_
              refine TT_iconst hK dX12_wake_190 ?_
              refine TT_icmp_ne hK (tgt := 198) (irm (by omega) (by omega)) (by decide) dX12_wake_191 (by decide) (fun hb191_81 => ?_) (fun hb191_81 => ?_)
              · refine TT_iconst hK dX12_wake_198 ?_
                refine TT_iast hK (o := 93) (n := 100) (by decide) rfl (by omega) (by omega) dX12_wake_199 ?_
                refine TT_hp (h' := setO (setO g168_78 85 (fup (h 85) z168_78 0)) 93 (fup (h 93) (10 * y + x + 11) 1)) (up_can ((sOf_ne _ _ (by decide)).trans (((hG_78.1 93 (by decide))).trans (((hG_76.1 93 (by decide))).trans (((hG_10.1 93 (by decide))).trans (((hG_7.1 93 (by decide))).trans (((hG_4.1 93 (by decide))).trans (hG_1.1 93 (by decide)))))))) rfl rfl) ?_
                have hT_82 : TY (setO (setO g168_78 85 (fup (h 85) z168_78 0)) 93 (fup (h 93) (10 * y + x + 11) 1)) := tu_93 hT_80 (show up (setO g168_78 85 (fup (h 85) z168_78 0)) 93 (10 * y + x + 11) 1 = (setO (setO g168_78 85 (fup (h 85) z168_78 0)) 93 (fup (h 93) (10 * y + x + 11) 1)) from up_can ((sOf_ne _ _ (by decide)).trans (((hG_78.1 93 (by decide))).trans (((hG_76.1 93 (by decide))).trans (((hG_10.1 93 (by decide))).trans (((hG_7.1 93 (by decide))).trans (((hG_4.1 93 (by decide))).trans (hG_1.1 93 (by decide)))))))) rfl rfl) (by omega)
                have hF_82 : FRM [73, 84, 85, 93, 96, 97, 98] [28, 32, 33, 34, 36, 39] h (setO (setO g168_78 85 (fup (h 85) z168_78 0)) 93 (fup (h 93) (10 * y + x + 11) 1)) := FRM_up (show up (setO g168_78 85 (fup (h 85) z168_78 0)) 93 (10 * y + x + 11) 1 = (setO (setO g168_78 85 (fup (h 85) z168_78 0)) 93 (fup (h 93) (10 * y + x + 11) 1)) from up_can ((sOf_ne _ _ (by decide)).trans (((hG_78.1 93 (by decide))).trans (((hG_76.1 93 (by decide))).trans (((hG_10.1 93 (by decide))).trans (((hG_7.1 93 (by decide))).trans (((hG_4.1 93 (by decide))).trans (hG_1.1 93 (by decide)))))))) rfl rfl) hF_80 (by decide) (by decide)
                refine TT_aload_n hK rfl 2 rfl dX12_wake_200 ?_
                refine gf_X12_163 hK (by decide) rfl (v := (h 73) 29) ((congrFun ((sOf_ne _ _ (by decide)).trans ((sOf_ne _ _ (by decide)).trans (hG_78.1 73 (by decide)))) 29).trans (((hG_76.2 29 (by decide))).trans ((congrFun (hG_10.1 73 (by decide)) 29).trans ((congrFun (hG_7.1 73 (by decide)) 29).trans ((congrFun (hG_4.1 73 (by decide)) 29).trans (congrFun (hG_1.1 73 (by decide)) 29)))))) dX12_wake_201 ?_
                have r83 := ty_73_29 (v := (h 73) 29) hT_82 ((congrFun ((sOf_ne _ _ (by decide)).trans ((sOf_ne _ _ (by decide)).trans (hG_78.1 73 (by decide)))) 29).trans (((hG_76.2 29 (by decide))).trans ((congrFun (hG_10.1 73 (by decide)) 29).trans ((congrFun (hG_7.1 73 (by decide)) 29).trans ((congrFun (hG_4.1 73 (by decide)) 29).trans (congrFun (hG_1.1 73 (by decide)) 29))))))
                refine TT_iconst hK dX12_wake_204 ?_
                refine TT_icmp_ne hK (tgt := 237) (irm (by omega) (by omega)) (by decide) dX12_wake_205 (by decide) (fun hb205_84 => ?_) (fun hb205_84 => ?_)
                · refine TT_vret hK hQ ?_ dX12_wake_237
                  have e85_73_32 : (setO (setO g168_78 85 (fup (h 85) z168_78 0)) 93 (fup (h 93) (10 * y + x + 11) 1)) 73 32 = (g140_76 73) 32 := congrFun ((sOf_ne _ _ (by decide)).trans ((sOf_ne _ _ (by decide)).trans (hG_78.1 73 (by decide)))) 32
                  have e86_73_34 : (setO (setO g168_78 85 (fup (h 85) z168_78 0)) 93 (fup (h 93) (10 * y + x + 11) 1)) 73 34 = (g140_76 73) 34 := congrFun ((sOf_ne _ _ (by decide)).trans ((sOf_ne _ _ (by decide)).trans (hG_78.1 73 (by decide)))) 34
                  have e87_73_36 : (setO (setO g168_78 85 (fup (h 85) z168_78 0)) 93 (fup (h 93) (10 * y + x + 11) 1)) 73 36 = (g140_76 73) 36 := congrFun ((sOf_ne _ _ (by decide)).trans ((sOf_ne _ _ (by decide)).trans (hG_78.1 73 (by decide)))) 36
                  have e88_96 : (setO (setO g168_78 85 (fup (h 85) z168_78 0)) 93 (fup (h 93) (10 * y + x + 11) 1)) 96 = g140_76 96 := (sOf_ne _ _ (by decide)).trans ((sOf_ne _ _ (by decide)).trans (hG_78.1 96 (by decide)))
                  have e89_93 : (setO (setO g168_78 85 (fup (h 85) z168_78 0)) 93 (fup (h 93) (10 * y + x + 11) 1)) 93 = fup (h 93) (10 * y + x + 11) 1 := sOf_eq _ _ _
                  exact ⟨⟨hT_82, hF_82⟩, rfl, (by rewrite [e85_73_32]; omega), (by rewrite [e86_73_34, e87_73_36, e88_96]; omega), (by rewrite [e89_93]; intro w e h1 h2 h3 h4 h5; exact ZC_up ⟨hx.1, h1⟩ h2 ⟨hy.1, h3⟩ h4 h5 (by decide))⟩
                · refine TT_aload_n hK rfl 2 rfl dX12_wake_208 ?_
                  refine gf_X12_47 hK (by decide) rfl (q := 84) rfl rfl dX12_wake_209 ?_
                  refine TT_aload_n hK rfl 2 rfl dX12_wake_212 ?_
                  refine TT_iload_n hK rfl 3 rfl dX12_wake_213 ?_
                  refine TT_iload_n hK rfl 4 rfl dX12_wake_214 ?_
                  refine iv_X12_249 hK (s_X12_cell_73 x y (setO (setO g168_78 85 (fup (h 85) z168_78 0)) 93 (fup (h 93) (10 * y + x + 11) 1)) hT_82 (by first | omega | (simp [up, setR] <;> omega)) (by first | omega | (simp [up, setR] <;> omega))) (by decide) rfl ⟨by decide, by decide⟩ (by decide) rfl rfl (Nat.le_of_ble_eq_true rfl) ⟨by decide, by decide⟩ dX12_wake_215 ?_
                  intro r9 g215_90 hp9
                  obtain ⟨⟨hT_90, hG_90⟩, z215_90, hr9, hz_90, p1_90⟩ := hp9
                  rw [hr9]
                  have hF_90 : FRM [73, 84, 85, 93, 96, 97, 98] [28, 32, 33, 34, 36, 39] h g215_90 := FRM_tr hF_82 hG_90 (by decide) (by decide)
                  rw [show (setO (setO g168_78 85 (fup (h 85) z168_78 0)) 93 (fup (h 93) (10 * y + x + 11) 1)) 73 26 = (h 73) 26 from (congrFun ((sOf_ne _ _ (by decide)).trans ((sOf_ne _ _ (by decide)).trans (hG_78.1 73 (by decide)))) 26).trans (((hG_76.2 26 (by decide))).trans ((congrFun (hG_10.1 73 (by decide)) 26).trans ((congrFun (hG_7.1 73 (by decide)) 26).trans ((congrFun (hG_4.1 73 (by decide)) 26).trans (congrFun (hG_1.1 73 (by decide)) 26)))))] at p1_90
                  show TT K ly 0 0 218 [(8, vI (1 - z140_76)), (9, vI z140_76), (0, vR 73), (1, vI x), (2, vI y), (3, vI (10 * y + x + 11)), (4, vI a), (5, vI b), (6, vI t9), (7, vI cx)] [vI z215_90, vR 84] g215_90
                  refine TT_aload_n hK rfl 2 rfl dX12_wake_218 ?_
                  refine gf_X12_47 hK (by decide) rfl (q := 84) rfl rfl dX12_wake_219 ?_
                  refine TT_aload_n hK rfl 2 rfl dX12_wake_222 ?_
                  refine TT_iload_n hK rfl 3 rfl dX12_wake_223 ?_
                  refine TT_iload_n hK rfl 4 rfl dX12_wake_224 ?_
                  refine iv_X12_249 hK (s_X12_cell_73 x y g215_90 hT_90 (by first | omega | (simp [up, setR] <;> omega)) (by first | omega | (simp [up, setR] <;> omega))) (by decide) rfl ⟨by decide, by decide⟩ (by decide) rfl rfl (Nat.le_of_ble_eq_true rfl) ⟨by decide, by decide⟩ dX12_wake_225 ?_
                  intro r9 g225_91 hp9
                  obtain ⟨⟨hT_91, hG_91⟩, z225_91, hr9, hz_91, p1_91⟩ := hp9
                  rw [hr9]
                  have hF_91 : FRM [73, 84, 85, 93, 96, 97, 98] [28, 32, 33, 34, 36, 39] h g225_91 := FRM_tr hF_90 hG_91 (by decide) (by decide)
                  rw [show g215_90 73 26 = (h 73) 26 from (congrFun (hG_90.1 73 (by decide)) 26).trans ((congrFun ((sOf_ne _ _ (by decide)).trans ((sOf_ne _ _ (by decide)).trans (hG_78.1 73 (by decide)))) 26).trans (((hG_76.2 26 (by decide))).trans ((congrFun (hG_10.1 73 (by decide)) 26).trans ((congrFun (hG_7.1 73 (by decide)) 26).trans ((congrFun (hG_4.1 73 (by decide)) 26).trans (congrFun (hG_1.1 73 (by decide)) 26))))))] at p1_91
                  show TT K ly 0 0 228 [(8, vI (1 - z140_76)), (9, vI z140_76), (0, vR 73), (1, vI x), (2, vI y), (3, vI (10 * y + x + 11)), (4, vI a), (5, vI b), (6, vI t9), (7, vI cx)] [vI z225_91, vR 84, vI z215_90, vR 84] g225_91
                  refine TT_iald hK (o := 84) (n := 1280) (by decide) rfl (by first | omega | (simp [up, setR] <;> omega)) (by first | omega | (simp [up, setR] <;> omega)) (v := (h 84) z225_91) (rd_ (((hG_91.1 84 (by decide))).trans (((hG_90.1 84 (by decide))).trans ((sOf_ne _ _ (by decide)).trans ((sOf_ne _ _ (by decide)).trans (((hG_78.1 84 (by decide))).trans (((hG_76.1 84 (by decide))).trans (((hG_10.1 84 (by decide))).trans (((hG_7.1 84 (by decide))).trans (((hG_4.1 84 (by decide))).trans (hG_1.1 84 (by decide))))))))))) rfl) dX12_wake_228 ?_
                  have r92 := ty_84 (i := z225_91) (v := (h 84) z225_91) hT_91 (rd_ (((hG_91.1 84 (by decide))).trans (((hG_90.1 84 (by decide))).trans ((sOf_ne _ _ (by decide)).trans ((sOf_ne _ _ (by decide)).trans (((hG_78.1 84 (by decide))).trans (((hG_76.1 84 (by decide))).trans (((hG_10.1 84 (by decide))).trans (((hG_7.1 84 (by decide))).trans (((hG_4.1 84 (by decide))).trans (hG_1.1 84 (by decide))))))))))) rfl) (by omega) (by omega)
                  refine TT_iconst hK dX12_wake_229 ?_
                  refine TT_aload_n hK rfl 2 rfl dX12_wake_230 ?_
                  refine gf_X12_252 hK (by decide) rfl (v := (h 73) 27) ((congrFun (hG_91.1 73 (by decide)) 27).trans ((congrFun (hG_90.1 73 (by decide)) 27).trans ((congrFun ((sOf_ne _ _ (by decide)).trans ((sOf_ne _ _ (by decide)).trans (hG_78.1 73 (by decide)))) 27).trans (((hG_76.2 27 (by decide))).trans ((congrFun (hG_10.1 73 (by decide)) 27).trans ((congrFun (hG_7.1 73 (by decide)) 27).trans ((congrFun (hG_4.1 73 (by decide)) 27).trans (congrFun (hG_1.1 73 (by decide)) 27)))))))) dX12_wake_231 ?_
                  have r93 := ty_73_27 (v := (h 73) 27) hT_91 ((congrFun (hG_91.1 73 (by decide)) 27).trans ((congrFun (hG_90.1 73 (by decide)) 27).trans ((congrFun ((sOf_ne _ _ (by decide)).trans ((sOf_ne _ _ (by decide)).trans (hG_78.1 73 (by decide)))) 27).trans (((hG_76.2 27 (by decide))).trans ((congrFun (hG_10.1 73 (by decide)) 27).trans ((congrFun (hG_7.1 73 (by decide)) 27).trans ((congrFun (hG_4.1 73 (by decide)) 27).trans (congrFun (hG_1.1 73 (by decide)) 27))))))))
                  refine TT_ishl_a hK dX12_wake_234 (fun x234_94 hx94 => ?_)
                  refine TT_ior hK dX12_wake_235 ?_
                  refine TT_w32 (fun x236_95 hx95 => ?_)
                  refine TT_iast hK (o := 84) (n := 1280) (by decide) rfl (by omega) (by omega) dX12_wake_236 ?_
                  refine TT_hp (h' := setO g225_91 84 (fup (h 84) z215_90 x236_95)) (up_can (((hG_91.1 84 (by decide))).trans (((hG_90.1 84 (by decide))).trans ((sOf_ne _ _ (by decide)).trans ((sOf_ne _ _ (by decide)).trans (((hG_78.1 84 (by decide))).trans (((hG_76.1 84 (by decide))).trans (((hG_10.1 84 (by decide))).trans (((hG_7.1 84 (by decide))).trans (((hG_4.1 84 (by decide))).trans (hG_1.1 84 (by decide))))))))))) rfl rfl) ?_
                  have hT_96 : TY (setO g225_91 84 (fup (h 84) z215_90 x236_95)) := tu_84 hT_91 (show up g225_91 84 z215_90 x236_95 = (setO g225_91 84 (fup (h 84) z215_90 x236_95)) from up_can (((hG_91.1 84 (by decide))).trans (((hG_90.1 84 (by decide))).trans ((sOf_ne _ _ (by decide)).trans ((sOf_ne _ _ (by decide)).trans (((hG_78.1 84 (by decide))).trans (((hG_76.1 84 (by decide))).trans (((hG_10.1 84 (by decide))).trans (((hG_7.1 84 (by decide))).trans (((hG_4.1 84 (by decide))).trans (hG_1.1 84 (by decide))))))))))) rfl rfl) (by omega)
                  have hF_96 : FRM [73, 84, 85, 93, 96, 97, 98] [28, 32, 33, 34, 36, 39] h (setO g225_91 84 (fup (h 84) z215_90 x236_95)) := FRM_up (show up g225_91 84 z215_90 x236_95 = (setO g225_91 84 (fup (h 84) z215_90 x236_95)) from up_can (((hG_91.1 84 (by decide))).trans (((hG_90.1 84 (by decide))).trans ((sOf_ne _ _ (by decide)).trans ((sOf_ne _ _ (by decide)).trans (((hG_78.1 84 (by decide))).trans (((hG_76.1 84 (by decide))).trans (((hG_10.1 84 (by decide))).trans (((hG_7.1 84 (by decide))).trans (((hG_4.1 84 (by decide))).trans (hG_1.1 84 (by decide))))))))))) rfl rfl) hF_91 (by decide) (by decide)
                  refine TT_vret hK hQ ?_ dX12_wake_237
                  have e97_73_32 : (setO g225_91 84 (fup (h 84) z215_90 x236_95)) 73 32 = (g140_76 73) 32 := (congrFun ((sOf_ne _ _ (by decide)).trans (hG_91.1 73 (by decide))) 32).trans ((congrFun (hG_90.1 73 (by decide)) 32).trans (congrFun ((sOf_ne _ _ (by decide)).trans ((sOf_ne _ _ (by decide)).trans (hG_78.1 73 (by decide)))) 32))
                  have e98_73_34 : (setO g225_91 84 (fup (h 84) z215_90 x236_95)) 73 34 = (g140_76 73) 34 := (congrFun ((sOf_ne _ _ (by decide)).trans (hG_91.1 73 (by decide))) 34).trans ((congrFun (hG_90.1 73 (by decide)) 34).trans (congrFun ((sOf_ne _ _ (by decide)).trans ((sOf_ne _ _ (by decide)).trans (hG_78.1 73 (by decide)))) 34))
                  have e99_73_36 : (setO g225_91 84 (fup (h 84) z215_90 x236_95)) 73 36 = (g140_76 73) 36 := (congrFun ((sOf_ne _ _ (by decide)).trans (hG_91.1 73 (by decide))) 36).trans ((congrFun (hG_90.1 73 (by decide)) 36).trans (congrFun ((sOf_ne _ _ (by decide)).trans ((sOf_ne _ _ (by decide)).trans (hG_78.1 73 (by decide)))) 36))
                  have e100_96 : (setO g225_91 84 (fup (h 84) z215_90 x236_95)) 96 = g140_76 96 := (sOf_ne _ _ (by decide)).trans (((hG_91.1 96 (by decide))).trans (((hG_90.1 96 (by decide))).trans ((sOf_ne _ _ (by decide)).trans ((sOf_ne _ _ (by decide)).trans (hG_78.1 96 (by decide))))))
                  have e101_93 : (setO g225_91 84 (fup (h 84) z215_90 x236_95)) 93 = fup (h 93) (10 * y + x + 11) 1 := (sOf_ne _ _ (by decide)).trans (((hG_91.1 93 (by decide))).trans (((hG_90.1 93 (by decide))).trans (sOf_eq _ _ _)))
                  exact ⟨⟨hT_96, hF_96⟩, rfl, (by rewrite [e97_73_32]; omega), (by rewrite [e98_73_34, e99_73_36, e100_96]; omega), (by rewrite [e101_93]; intro w e h1 h2 h3 h4 h5; exact ZC_up ⟨hx.1, h1⟩ h2 ⟨hy.1, h3⟩ h4 h5 (by decide))⟩
              · exfalso; omega
            · refine TT_iconst hK dX12_wake_177 ?_
              refine TT_goto hK (tgt := 182) dX12_wake_178 (by decide) ?_
              refine TT_zast hK (o := 85) (n := 1280) (by decide) rfl (by omega) (by omega) (by first | decide | omega) dX12_wake_182 ?_
              refine TT_hp (h' := setO g168_78 85 (fup (h 85) z168_78 1)) (up_can (((hG_78.1 85 (by decide))).trans (((hG_76.1 85 (by decide))).trans (((hG_10.1 85 (by decide))).trans (((hG_7.1 85 (by decide))).trans (((hG_4.1 85 (by decide))).trans (hG_1.1 85 (by decide))))))) rfl rfl) ?_
              have hT_102 : TY (setO g168_78 85 (fup (h 85) z168_78 1)) := tu_85 hT_78 (show up g168_78 85 z168_78 1 = (setO g168_78 85 (fup (h 85) z168_78 1)) from up_can (((hG_78.1 85 (by decide))).trans (((hG_76.1 85 (by decide))).trans (((hG_10.1 85 (by decide))).trans (((hG_7.1 85 (by decide))).trans (((hG_4.1 85 (by decide))).trans (hG_1.1 85 (by decide))))))) rfl rfl) (by omega)
              have hF_102 : FRM [73, 84, 85, 93, 96, 97, 98] [28, 32, 33, 34, 36, 39] h (setO g168_78 85 (fup (h 85) z168_78 1)) := FRM_up (show up g168_78 85 z168_78 1 = (setO g168_78 85 (fup (h 85) z168_78 1)) from up_can (((hG_78.1 85 (by decide))).trans (((hG_76.1 85 (by decide))).trans (((hG_10.1 85 (by decide))).trans (((hG_7.1 85 (by decide))).trans (((hG_4.1 85 (by decide))).trans (hG_1.1 85 (by decide))))))) rfl rfl) hF_78 (by decide) (by decide)
              refine TT_aload_n hK rfl 2 rfl dX12_wake_183 ?_
              refine gf_X12_75 hK (by decide) rfl (q := 93) rfl rfl dX12_wake_184 ?_
              refine TT_iload_n hK rfl 5 rfl dX12_wake_187 ?_
              refine TT_iload hK 0 rfl dX12_wake_188 ?_
              refine TT_iconst hK dX12_wake_190 ?_
              refine TT_icmp_ne hK (tgt := 198) (irm (by omega) (by omega)) (by decide) dX12_wake_191 (by decide) (fun hb191_103 => ?_) (fun hb191_103 => ?_)
              · exfalso; omega
              · refine TT_iconst hK dX12_wake_194 ?_
                refine TT_goto hK (tgt := 199) dX12_wake_195 (by decide) ?_
                refine TT_iast hK (o := 93) (n := 100) (by decide) rfl (by omega) (by omega) dX12_wake_199 ?_
                refine TT_hp (h' := setO (setO g168_78 85 (fup (h 85) z168_78 1)) 93 (fup (h 93) (10 * y + x + 11) (-1))) (up_can ((sOf_ne _ _ (by decide)).trans (((hG_78.1 93 (by decide))).trans (((hG_76.1 93 (by decide))).trans (((hG_10.1 93 (by decide))).trans (((hG_7.1 93 (by decide))).trans (((hG_4.1 93 (by decide))).trans (hG_1.1 93 (by decide)))))))) rfl rfl) ?_
                have hT_104 : TY (setO (setO g168_78 85 (fup (h 85) z168_78 1)) 93 (fup (h 93) (10 * y + x + 11) (-1))) := tu_93 hT_102 (show up (setO g168_78 85 (fup (h 85) z168_78 1)) 93 (10 * y + x + 11) (-1) = (setO (setO g168_78 85 (fup (h 85) z168_78 1)) 93 (fup (h 93) (10 * y + x + 11) (-1))) from up_can ((sOf_ne _ _ (by decide)).trans (((hG_78.1 93 (by decide))).trans (((hG_76.1 93 (by decide))).trans (((hG_10.1 93 (by decide))).trans (((hG_7.1 93 (by decide))).trans (((hG_4.1 93 (by decide))).trans (hG_1.1 93 (by decide)))))))) rfl rfl) (by omega)
                have hF_104 : FRM [73, 84, 85, 93, 96, 97, 98] [28, 32, 33, 34, 36, 39] h (setO (setO g168_78 85 (fup (h 85) z168_78 1)) 93 (fup (h 93) (10 * y + x + 11) (-1))) := FRM_up (show up (setO g168_78 85 (fup (h 85) z168_78 1)) 93 (10 * y + x + 11) (-1) = (setO (setO g168_78 85 (fup (h 85) z168_78 1)) 93 (fup (h 93) (10 * y + x + 11) (-1))) from up_can ((sOf_ne _ _ (by decide)).trans (((hG_78.1 93 (by decide))).trans (((hG_76.1 93 (by decide))).trans (((hG_10.1 93 (by decide))).trans (((hG_7.1 93 (by decide))).trans (((hG_4.1 93 (by decide))).trans (hG_1.1 93 (by decide)))))))) rfl rfl) hF_102 (by decide) (by decide)
                refine TT_aload_n hK rfl 2 rfl dX12_wake_200 ?_
                refine gf_X12_163 hK (by decide) rfl (v := (h 73) 29) ((congrFun ((sOf_ne _ _ (by decide)).trans ((sOf_ne _ _ (by decide)).trans (hG_78.1 73 (by decide)))) 29).trans (((hG_76.2 29 (by decide))).trans ((congrFun (hG_10.1 73 (by decide)) 29).trans ((congrFun (hG_7.1 73 (by decide)) 29).trans ((congrFun (hG_4.1 73 (by decide)) 29).trans (congrFun (hG_1.1 73 (by decide)) 29)))))) dX12_wake_201 ?_
                have r105 := ty_73_29 (v := (h 73) 29) hT_104 ((congrFun ((sOf_ne _ _ (by decide)).trans ((sOf_ne _ _ (by decide)).trans (hG_78.1 73 (by decide)))) 29).trans (((hG_76.2 29 (by decide))).trans ((congrFun (hG_10.1 73 (by decide)) 29).trans ((congrFun (hG_7.1 73 (by decide)) 29).trans ((congrFun (hG_4.1 73 (by decide)) 29).trans (congrFun (hG_1.1 73 (by decide)) 29))))))
                refine TT_iconst hK dX12_wake_204 ?_
                refine TT_icmp_ne hK (tgt := 237) (irm (by omega) (by omega)) (by decide) dX12_wake_205 (by decide) (fun hb205_106 => ?_) (fun hb205_106 => ?_)
                · refine TT_vret hK hQ ?_ dX12_wake_237
                  have e107_73_32 : (setO (setO g168_78 85 (fup (h 85) z168_78 1)) 93 (fup (h 93) (10 * y + x + 11) (-1))) 73 32 = (g140_76 73) 32 := congrFun ((sOf_ne _ _ (by decide)).trans ((sOf_ne _ _ (by decide)).trans (hG_78.1 73 (by decide)))) 32
                  have e108_73_34 : (setO (setO g168_78 85 (fup (h 85) z168_78 1)) 93 (fup (h 93) (10 * y + x + 11) (-1))) 73 34 = (g140_76 73) 34 := congrFun ((sOf_ne _ _ (by decide)).trans ((sOf_ne _ _ (by decide)).trans (hG_78.1 73 (by decide)))) 34
                  have e109_73_36 : (setO (setO g168_78 85 (fup (h 85) z168_78 1)) 93 (fup (h 93) (10 * y + x + 11) (-1))) 73 36 = (g140_76 73) 36 := congrFun ((sOf_ne _ _ (by decide)).trans ((sOf_ne _ _ (by decide)).trans (hG_78.1 73 (by decide)))) 36
                  have e110_96 : (setO (setO g168_78 85 (fup (h 85) z168_78 1)) 93 (fup (h 93) (10 * y + x + 11) (-1))) 96 = g140_76 96 := (sOf_ne _ _ (by decide)).trans ((sOf_ne _ _ (by decide)).trans (hG_78.1 96 (by decide)))
                  have e111_93 : (setO (setO g168_78 85 (fup (h 85) z168_78 1)) 93 (fup (h 93) (10 * y + x + 11) (-1))) 93 = fup (h 93) (10 * y + x + 11) (-1) := sOf_eq _ _ _
                  exact ⟨⟨hT_104, hF_104⟩, rfl, (by rewrite [e107_73_32]; omega), (by rewrite [e108_73_34, e109_73_36, e110_96]; omega), (by rewrite [e111_93]; intro w e h1 h2 h3 h4 h5; exact ZC_up ⟨hx.1, h1⟩ h2 ⟨hy.1, h3⟩ h4 h5 (by decide))⟩
                · refine TT_aload_n hK rfl 2 rfl dX12_wake_208 ?_
                  refine gf_X12_47 hK (by decide) rfl (q := 84) rfl rfl dX12_wake_209 ?_
                  refine TT_aload_n hK rfl 2 rfl dX12_wake_212 ?_
                  refine TT_iload_n hK rfl 3 rfl dX12_wake_213 ?_
                  refine TT_iload_n hK rfl 4 rfl dX12_wake_214 ?_
                  refine iv_X12_249 hK (s_X12_cell_73 x y (setO (setO g168_78 85 (fup (h 85) z168_78 1)) 93 (fup (h 93) (10 * y + x + 11) (-1))) hT_104 (by first | omega | (simp [up, setR] <;> omega)) (by first | omega | (simp [up, setR] <;> omega))) (by decide) rfl ⟨by decide, by decide⟩ (by decide) rfl rfl (Nat.le_of_ble_eq_true rfl) ⟨by decide, by decide⟩ dX12_wake_215 ?_
                  intro r9 g215_112 hp9
                  obtain ⟨⟨hT_112, hG_112⟩, z215_112, hr9, hz_112, p1_112⟩ := hp9
                  rw [hr9]
                  have hF_112 : FRM [73, 84, 85, 93, 96, 97, 98] [28, 32, 33, 34, 36, 39] h g215_112 := FRM_tr hF_104 hG_112 (by decide) (by decide)
                  rw [show (setO (setO g168_78 85 (fup (h 85) z168_78 1)) 93 (fup (h 93) (10 * y + x + 11) (-1))) 73 26 = (h 73) 26 from (congrFun ((sOf_ne _ _ (by decide)).trans ((sOf_ne _ _ (by decide)).trans (hG_78.1 73 (by decide)))) 26).trans (((hG_76.2 26 (by decide))).trans ((congrFun (hG_10.1 73 (by decide)) 26).trans ((congrFun (hG_7.1 73 (by decide)) 26).trans ((congrFun (hG_4.1 73 (by decide)) 26).trans (congrFun (hG_1.1 73 (by decide)) 26)))))] at p1_112
                  show TT K ly 0 0 218 [(8, vI (1 - z140_76)), (9, vI z140_76), (0, vR 73), (1, vI x), (2, vI y), (3, vI (10 * y + x + 11)), (4, vI a), (5, vI b), (6, vI t9), (7, vI cx)] [vI z215_112, vR 84] g215_112
                  refine TT_aload_n hK rfl 2 rfl dX12_wake_218 ?_
                  refine gf_X12_47 hK (by decide) rfl (q := 84) rfl rfl dX12_wake_219 ?_
                  refine TT_aload_n hK rfl 2 rfl dX12_wake_222 ?_
                  refine TT_iload_n hK rfl 3 rfl dX12_wake_223 ?_
                  refine TT_iload_n hK rfl 4 rfl dX12_wake_224 ?_
                  refine iv_X12_249 hK (s_X12_cell_73 x y g215_112 hT_112 (by first | omega | (simp [up, setR] <;> omega)) (by first | omega | (simp [up, setR] <;> omega))) (by decide) rfl ⟨by decide, by decide⟩ (by decide) rfl rfl (Nat.le_of_ble_eq_true rfl) ⟨by decide, by decide⟩ dX12_wake_225 ?_
                  intro r9 g225_113 hp9
                  obtain ⟨⟨hT_113, hG_113⟩, z225_113, hr9, hz_113, p1_113⟩ := hp9
                  rw [hr9]
                  have hF_113 : FRM [73, 84, 85, 93, 96, 97, 98] [28, 32, 33, 34, 36, 39] h g225_113 := FRM_tr hF_112 hG_113 (by decide) (by decide)
                  rw [show g215_112 73 26 = (h 73) 26 from (congrFun (hG_112.1 73 (by decide)) 26).trans ((congrFun ((sOf_ne _ _ (by decide)).trans ((sOf_ne _ _ (by decide)).trans (hG_78.1 73 (by decide)))) 26).trans (((hG_76.2 26 (by decide))).trans ((congrFun (hG_10.1 73 (by decide)) 26).trans ((congrFun (hG_7.1 73 (by decide)) 26).trans ((congrFun (hG_4.1 73 (by decide)) 26).trans (congrFun (hG_1.1 73 (by decide)) 26))))))] at p1_113
                  show TT K ly 0 0 228 [(8, vI (1 - z140_76)), (9, vI z140_76), (0, vR 73), (1, vI x), (2, vI y), (3, vI (10 * y + x + 11)), (4, vI a), (5, vI b), (6, vI t9), (7, vI cx)] [vI z225_113, vR 84, vI z215_112, vR 84] g225_113
                  refine TT_iald hK (o := 84) (n := 1280) (by decide) rfl (by first | omega | (simp [up, setR] <;> omega)) (by first | omega | (simp [up, setR] <;> omega)) (v := (h 84) z225_113) (rd_ (((hG_113.1 84 (by decide))).trans (((hG_112.1 84 (by decide))).trans ((sOf_ne _ _ (by decide)).trans ((sOf_ne _ _ (by decide)).trans (((hG_78.1 84 (by decide))).trans (((hG_76.1 84 (by decide))).trans (((hG_10.1 84 (by decide))).trans (((hG_7.1 84 (by decide))).trans (((hG_4.1 84 (by decide))).trans (hG_1.1 84 (by decide))))))))))) rfl) dX12_wake_228 ?_
                  have r114 := ty_84 (i := z225_113) (v := (h 84) z225_113) hT_113 (rd_ (((hG_113.1 84 (by decide))).trans (((hG_112.1 84 (by decide))).trans ((sOf_ne _ _ (by decide)).trans ((sOf_ne _ _ (by decide)).trans (((hG_78.1 84 (by decide))).trans (((hG_76.1 84 (by decide))).trans (((hG_10.1 84 (by decide))).trans (((hG_7.1 84 (by decide))).trans (((hG_4.1 84 (by decide))).trans (hG_1.1 84 (by decide))))))))))) rfl) (by omega) (by omega)
                  refine TT_iconst hK dX12_wake_229 ?_
                  refine TT_aload_n hK rfl 2 rfl dX12_wake_230 ?_
                  refine gf_X12_252 hK (by decide) rfl (v := (h 73) 27) ((congrFun (hG_113.1 73 (by decide)) 27).trans ((congrFun (hG_112.1 73 (by decide)) 27).trans ((congrFun ((sOf_ne _ _ (by decide)).trans ((sOf_ne _ _ (by decide)).trans (hG_78.1 73 (by decide)))) 27).trans (((hG_76.2 27 (by decide))).trans ((congrFun (hG_10.1 73 (by decide)) 27).trans ((congrFun (hG_7.1 73 (by decide)) 27).trans ((congrFun (hG_4.1 73 (by decide)) 27).trans (congrFun (hG_1.1 73 (by decide)) 27)))))))) dX12_wake_231 ?_
                  have r115 := ty_73_27 (v := (h 73) 27) hT_113 ((congrFun (hG_113.1 73 (by decide)) 27).trans ((congrFun (hG_112.1 73 (by decide)) 27).trans ((congrFun ((sOf_ne _ _ (by decide)).trans ((sOf_ne _ _ (by decide)).trans (hG_78.1 73 (by decide)))) 27).trans (((hG_76.2 27 (by decide))).trans ((congrFun (hG_10.1 73 (by decide)) 27).trans ((congrFun (hG_7.1 73 (by decide)) 27).trans ((congrFun (hG_4.1 73 (by decide)) 27).trans (congrFun (hG_1.1 73 (by decide)) 27))))))))
                  refine TT_ishl_a hK dX12_wake_234 (fun x234_116 hx116 => ?_)
                  refine TT_ior hK dX12_wake_235 ?_
                  refine TT_w32 (fun x236_117 hx117 => ?_)
                  refine TT_iast hK (o := 84) (n := 1280) (by decide) rfl (by omega) (by omega) dX12_wake_236 ?_
                  refine TT_hp (h' := setO g225_113 84 (fup (h 84) z215_112 x236_117)) (up_can (((hG_113.1 84 (by decide))).trans (((hG_112.1 84 (by decide))).trans ((sOf_ne _ _ (by decide)).trans ((sOf_ne _ _ (by decide)).trans (((hG_78.1 84 (by decide))).trans (((hG_76.1 84 (by decide))).trans (((hG_10.1 84 (by decide))).trans (((hG_7.1 84 (by decide))).trans (((hG_4.1 84 (by decide))).trans (hG_1.1 84 (by decide))))))))))) rfl rfl) ?_
                  have hT_118 : TY (setO g225_113 84 (fup (h 84) z215_112 x236_117)) := tu_84 hT_113 (show up g225_113 84 z215_112 x236_117 = (setO g225_113 84 (fup (h 84) z215_112 x236_117)) from up_can (((hG_113.1 84 (by decide))).trans (((hG_112.1 84 (by decide))).trans ((sOf_ne _ _ (by decide)).trans ((sOf_ne _ _ (by decide)).trans (((hG_78.1 84 (by decide))).trans (((hG_76.1 84 (by decide))).trans (((hG_10.1 84 (by decide))).trans (((hG_7.1 84 (by decide))).trans (((hG_4.1 84 (by decide))).trans (hG_1.1 84 (by decide))))))))))) rfl rfl) (by omega)
                  have hF_118 : FRM [73, 84, 85, 93, 96, 97, 98] [28, 32, 33, 34, 36, 39] h (setO g225_113 84 (fup (h 84) z215_112 x236_117)) := FRM_up (show up g225_113 84 z215_112 x236_117 = (setO g225_113 84 (fup (h 84) z215_112 x236_117)) from up_can (((hG_113.1 84 (by decide))).trans (((hG_112.1 84 (by decide))).trans ((sOf_ne _ _ (by decide)).trans ((sOf_ne _ _ (by decide)).trans (((hG_78.1 84 (by decide))).trans (((hG_76.1 84 (by decide))).trans (((hG_10.1 84 (by decide))).trans (((hG_7.1 84 (by decide))).trans (((hG_4.1 84 (by decide))).trans (hG_1.1 84 (by decide))))))))))) rfl rfl) hF_113 (by decide) (by decide)
                  refine TT_vret hK hQ ?_ dX12_wake_237
                  have e119_73_32 : (setO g225_113 84 (fup (h 84) z215_112 x236_117)) 73 32 = (g140_76 73) 32 := (congrFun ((sOf_ne _ _ (by decide)).trans (hG_113.1 73 (by decide))) 32).trans ((congrFun (hG_112.1 73 (by decide)) 32).trans (congrFun ((sOf_ne _ _ (by decide)).trans ((sOf_ne _ _ (by decide)).trans (hG_78.1 73 (by decide)))) 32))
                  have e120_73_34 : (setO g225_113 84 (fup (h 84) z215_112 x236_117)) 73 34 = (g140_76 73) 34 := (congrFun ((sOf_ne _ _ (by decide)).trans (hG_113.1 73 (by decide))) 34).trans ((congrFun (hG_112.1 73 (by decide)) 34).trans (congrFun ((sOf_ne _ _ (by decide)).trans ((sOf_ne _ _ (by decide)).trans (hG_78.1 73 (by decide)))) 34))
                  have e121_73_36 : (setO g225_113 84 (fup (h 84) z215_112 x236_117)) 73 36 = (g140_76 73) 36 := (congrFun ((sOf_ne _ _ (by decide)).trans (hG_113.1 73 (by decide))) 36).trans ((congrFun (hG_112.1 73 (by decide)) 36).trans (congrFun ((sOf_ne _ _ (by decide)).trans ((sOf_ne _ _ (by decide)).trans (hG_78.1 73 (by decide)))) 36))
                  have e122_96 : (setO g225_113 84 (fup (h 84) z215_112 x236_117)) 96 = g140_76 96 := (sOf_ne _ _ (by decide)).trans (((hG_113.1 96 (by decide))).trans (((hG_112.1 96 (by decide))).trans ((sOf_ne _ _ (by decide)).trans ((sOf_ne _ _ (by decide)).trans (hG_78.1 96 (by decide))))))
                  have e123_93 : (setO g225_113 84 (fup (h 84) z215_112 x236_117)) 93 = fup (h 93) (10 * y + x + 11) (-1) := (sOf_ne _ _ (by decide)).trans (((hG_113.1 93 (by decide))).trans (((hG_112.1 93 (by decide))).trans (sOf_eq _ _ _)))
                  exact ⟨⟨hT_118, hF_118⟩, rfl, (by rewrite [e119_73_32]; omega), (by rewrite [e120_73_34, e121_73_36, e122_96]; omega), (by rewrite [e123_93]; intro w e h1 h2 h3 h4 h5; exact ZC_up ⟨hx.1, h1⟩ h2 ⟨hy.1, h3⟩ h4 h5 (by decide))⟩
      · refine TT_iconst hK dX12_wake_116 ?_
        refine TT_goto hK (tgt := 121) dX12_wake_117 (by decide) ?_
        refine TT_istore hK (lv' := [(8, vI 1), (0, vR 73), (1, vI x), (2, vI y), (3, vI (10 * y + x + 11)), (4, vI a), (5, vI b), (6, vI t9), (7, vI cx)]) (by decide) rfl dX12_wake_121 ?_
        refine TT_aload_n hK rfl 1 rfl dX12_wake_123 ?_
        refine TT_iload hK 8 rfl dX12_wake_124 ?_
        refine TT_iload hK 7 rfl dX12_wake_126 ?_
        refine TT_if_eq hK (tgt := 138) (irm (by omega) (by omega)) dX12_wake_128 (by decide) (fun hb128_124 => ?_) (fun hb128_124 => ?_)
        · refine TT_iload hK 0 rfl dX12_wake_138 ?_
          have e125_74 : g109_10 74 = h 74 := ((hG_10.1 74 (by decide))).trans (((hG_7.1 74 (by decide))).trans (((hG_4.1 74 (by decide))).trans (hG_1.1 74 (by decide))))
          have e126_75 : g109_10 75 = h 75 := ((hG_10.1 75 (by decide))).trans (((hG_7.1 75 (by decide))).trans (((hG_4.1 75 (by decide))).trans (hG_1.1 75 (by decide))))
          have e127_73_32 : g109_10 73 32 = (h 73) 32 := (congrFun (hG_10.1 73 (by decide)) 32).trans ((congrFun (hG_7.1 73 (by decide)) 32).trans ((congrFun (hG_4.1 73 (by decide)) 32).trans (congrFun (hG_1.1 73 (by decide)) 32)))
          have e128_73_29 : g109_10 73 29 = (h 73) 29 := (congrFun (hG_10.1 73 (by decide)) 29).trans ((congrFun (hG_7.1 73 (by decide)) 29).trans ((congrFun (hG_4.1 73 (by decide)) 29).trans (congrFun (hG_1.1 73 (by decide)) 29)))
          have e129_73_34 : g109_10 73 34 = (h 73) 34 := (congrFun (hG_10.1 73 (by decide)) 34).trans ((congrFun (hG_7.1 73 (by decide)) 34).trans ((congrFun (hG_4.1 73 (by decide)) 34).trans (congrFun (hG_1.1 73 (by decide)) 34)))
          have e130_73_36 : g109_10 73 36 = (h 73) 36 := (congrFun (hG_10.1 73 (by decide)) 36).trans ((congrFun (hG_7.1 73 (by decide)) 36).trans ((congrFun (hG_4.1 73 (by decide)) 36).trans (congrFun (hG_1.1 73 (by decide)) 36)))
          have e131_96 : g109_10 96 = h 96 := ((hG_10.1 96 (by decide))).trans (((hG_7.1 96 (by decide))).trans (((hG_4.1 96 (by decide))).trans (hG_1.1 96 (by decide))))
          refine iv_X12_258 hK (s_X12_code_73 cx 1 g109_10 hT_10 (by first | omega | (simp [up, setR] <;> omega)) (by first | omega | (simp [up, setR] <;> omega)) (by rewrite [e125_74, e126_75]; first | assumption | exact htb) (by rewrite [e127_73_32]; first | omega | (simp [up, setR] <;> omega)) (by rewrite [e128_73_29, e129_73_34, e130_73_36, e131_96]; first | omega | (simp [up, setR] <;> omega))) (by decide) rfl ⟨by decide, by decide⟩ (by decide) rfl rfl (Nat.le_of_ble_eq_true rfl) ⟨by decide, by decide⟩ dX12_wake_140 ?_
          intro r9 g140_132 hp9
          obtain ⟨⟨hT_132, hG_132⟩, z140_132, hr9, hz_132, pa_132, pm_132⟩ := hp9
          rw [hr9]
          have hF_132 : FRM [73, 84, 85, 93, 96, 97, 98] [28, 32, 33, 34, 36, 39] h g140_132 := FRM_tr hF_10 hG_132 (by decide) (by decide)
          rw [show g109_10 73 29 = (h 73) 29 from (congrFun (hG_10.1 73 (by decide)) 29).trans ((congrFun (hG_7.1 73 (by decide)) 29).trans ((congrFun (hG_4.1 73 (by decide)) 29).trans (congrFun (hG_1.1 73 (by decide)) 29)))] at pm_132
          rw [show g109_10 73 34 = (h 73) 34 from (congrFun (hG_10.1 73 (by decide)) 34).trans ((congrFun (hG_7.1 73 (by decide)) 34).trans ((congrFun (hG_4.1 73 (by decide)) 34).trans (congrFun (hG_1.1 73 (by decide)) 34)))] at pm_132
          rw [show g109_10 73 36 = (h 73) 36 from (congrFun (hG_10.1 73 (by decide)) 36).trans ((congrFun (hG_7.1 73 (by decide)) 36).trans ((congrFun (hG_4.1 73 (by decide)) 36).trans (congrFun (hG_1.1 73 (by decide)) 36)))] at pm_132
          rw [show g109_10 96 = h 96 from ((hG_10.1 96 (by decide))).trans (((hG_7.1 96 (by decide))).trans (((hG_4.1 96 (by decide))).trans (hG_1.1 96 (by decide))))] at pm_132
          show TT K ly 0 0 143 [(8, vI 1), (0, vR 73), (1, vI x), (2, vI y), (3, vI (10 * y + x + 11)), (4, vI a), (5, vI b), (6, vI t9), (7, vI cx)] [vI z140_132] g140_132
          refine TT_istore hK (lv' := [(9, vI z140_132), (8, vI 1), (0, vR 73), (1, vI x), (2, vI y), (3, vI (10 * y + x + 11)), (4, vI a), (5, vI b), (6, vI t9), (7, vI cx)]) (by decide) rfl dX12_wake_143 ?_
          refine TT_iload hK 8 rfl dX12_wake_145 ?_
          refine TT_if_eq hK (tgt := 157) (irm (by omega) (by omega)) dX12_wake_147 (by decide) (fun hb147_133 => ?_) (fun hb147_133 => ?_)
          · refine TT_iload hK 0 rfl dX12_wake_157 ?_
            refine TT_istore hK (lv' := [(8, vI z140_132), (9, vI z140_132), (0, vR 73), (1, vI x), (2, vI y), (3, vI (10 * y + x + 11)), (4, vI a), (5, vI b), (6, vI t9), (7, vI cx)]) (by decide) rfl dX12_wake_159 ?_
            refine TT_aload_n hK rfl 2 rfl dX12_wake_161 ?_
            refine gf_X12_50 hK (by decide) rfl (q := 85) rfl rfl dX12_wake_162 ?_
            refine TT_aload_n hK rfl 2 rfl dX12_wake_165 ?_
            refine TT_iload_n hK rfl 3 rfl dX12_wake_166 ?_
            refine TT_iload_n hK rfl 4 rfl dX12_wake_167 ?_
            refine iv_X12_249 hK (s_X12_cell_73 x y g140_132 hT_132 (by first | omega | (simp [up, setR] <;> omega)) (by first | omega | (simp [up, setR] <;> omega))) (by decide) rfl ⟨by decide, by decide⟩ (by decide) rfl rfl (Nat.le_of_ble_eq_true rfl) ⟨by decide, by decide⟩ dX12_wake_168 ?_
            intro r9 g168_134 hp9
            obtain ⟨⟨hT_134, hG_134⟩, z168_134, hr9, hz_134, p1_134⟩ := hp9
            rw [hr9]
            have hF_134 : FRM [73, 84, 85, 93, 96, 97, 98] [28, 32, 33, 34, 36, 39] h g168_134 := FRM_tr hF_132 hG_134 (by decide) (by decide)
            rw [show g140_132 73 26 = (h 73) 26 from ((hG_132.2 26 (by decide))).trans ((congrFun (hG_10.1 73 (by decide)) 26).trans ((congrFun (hG_7.1 73 (by decide)) 26).trans ((congrFun (hG_4.1 73 (by decide)) 26).trans (congrFun (hG_1.1 73 (by decide)) 26))))] at p1_134
            show TT K ly 0 0 171 [(8, vI z140_132), (9, vI z140_132), (0, vR 73), (1, vI x), (2, vI y), (3, vI (10 * y + x + 11)), (4, vI a), (5, vI b), (6, vI t9), (7, vI cx)] [vI z168_134, vR 85] g168_134
            refine TT_iload hK 0 rfl dX12_wake_171 ?_
            refine TT_iconst hK dX12_wake_173 ?_
            refine TT_icmp_ne hK (tgt := 181) (irm (by omega) (by omega)) (by decide) dX12_wake_174 (by decide) (fun hb174_135 => ?_) (fun hb174_135 => ?_)
            · refine TT_iconst hK dX12_wake_181 ?_
              refine TT_zast hK (o := 85) (n := 1280) (by decide) rfl (by omega) (by omega) (by first | decide | omega) dX12_wake_182 ?_
              refine TT_hp (h' := setO g168_134 85 (fup (h 85) z168_134 0)) (up_can (((hG_134.1 85 (by decide))).trans (((hG_132.1 85 (by decide))).trans (((hG_10.1 85 (by decide))).trans (((hG_7.1 85 (by decide))).trans (((hG_4.1 85 (by decide))).trans (hG_1.1 85 (by decide))))))) rfl rfl) ?_
              have hT_136 : TY (setO g168_134 85 (fup (h 85) z168_134 0)) := tu_85 hT_134 (show up g168_134 85 z168_134 0 = (setO g168_134 85 (fup (h 85) z168_134 0)) from up_can (((hG_134.1 85 (by decide))).trans (((hG_132.1 85 (by decide))).trans (((hG_10.1 85 (by decide))).trans (((hG_7.1 85 (by decide))).trans (((hG_4.1 85 (by decide))).trans (hG_1.1 85 (by decide))))))) rfl rfl) (by omega)
              have hF_136 : FRM [73, 84, 85, 93, 96, 97, 98] [28, 32, 33, 34, 36, 39] h (setO g168_134 85 (fup (h 85) z168_134 0)) := FRM_up (show up g168_134 85 z168_134 0 = (setO g168_134 85 (fup (h 85) z168_134 0)) from up_can (((hG_134.1 85 (by decide))).trans (((hG_132.1 85 (by decide))).trans (((hG_10.1 85 (by decide))).trans (((hG_7.1 85 (by decide))).trans (((hG_4.1 85 (by decide))).trans (hG_1.1 85 (by decide))))))) rfl rfl) hF_134 (by decide) (by decide)
              refine TT_aload_n hK rfl 2 rfl dX12_wake_183 ?_
              refine gf_X12_75 hK (by decide) rfl (q := 93) rfl rfl dX12_wake_184 ?_
              refine TT_iload_n hK rfl 5 rfl dX12_wake_187 ?_
              refine TT_iload hK 0 rfl dX12_wake_188 ?_
              refine TT_iconst hK dX12_wake_190 ?_
              refine TT_icmp_ne hK (tgt := 198) (irm (by omega) (by omega)) (by decide) dX12_wake_191 (by decide) (fun hb191_137 => ?_) (fun hb191_137 => ?_)
              · refine TT_iconst hK dX12_wake_198 ?_
                refine TT_iast hK (o := 93) (n := 100) (by decide) rfl (by omega) (by omega) dX12_wake_199 ?_
                refine TT_hp (h' := setO (setO g168_134 85 (fup (h 85) z168_134 0)) 93 (fup (h 93) (10 * y + x + 11) 1)) (up_can ((sOf_ne _ _ (by decide)).trans (((hG_134.1 93 (by decide))).trans (((hG_132.1 93 (by decide))).trans (((hG_10.1 93 (by decide))).trans (((hG_7.1 93 (by decide))).trans (((hG_4.1 93 (by decide))).trans (hG_1.1 93 (by decide)))))))) rfl rfl) ?_
                have hT_138 : TY (setO (setO g168_134 85 (fup (h 85) z168_134 0)) 93 (fup (h 93) (10 * y + x + 11) 1)) := tu_93 hT_136 (show up (setO g168_134 85 (fup (h 85) z168_134 0)) 93 (10 * y + x + 11) 1 = (setO (setO g168_134 85 (fup (h 85) z168_134 0)) 93 (fup (h 93) (10 * y + x + 11) 1)) from up_can ((sOf_ne _ _ (by decide)).trans (((hG_134.1 93 (by decide))).trans (((hG_132.1 93 (by decide))).trans (((hG_10.1 93 (by decide))).trans (((hG_7.1 93 (by decide))).trans (((hG_4.1 93 (by decide))).trans (hG_1.1 93 (by decide)))))))) rfl rfl) (by omega)
                have hF_138 : FRM [73, 84, 85, 93, 96, 97, 98] [28, 32, 33, 34, 36, 39] h (setO (setO g168_134 85 (fup (h 85) z168_134 0)) 93 (fup (h 93) (10 * y + x + 11) 1)) := FRM_up (show up (setO g168_134 85 (fup (h 85) z168_134 0)) 93 (10 * y + x + 11) 1 = (setO (setO g168_134 85 (fup (h 85) z168_134 0)) 93 (fup (h 93) (10 * y + x + 11) 1)) from up_can ((sOf_ne _ _ (by decide)).trans (((hG_134.1 93 (by decide))).trans (((hG_132.1 93 (by decide))).trans (((hG_10.1 93 (by decide))).trans (((hG_7.1 93 (by decide))).trans (((hG_4.1 93 (by decide))).trans (hG_1.1 93 (by decide)))))))) rfl rfl) hF_136 (by decide) (by decide)
                refine TT_aload_n hK rfl 2 rfl dX12_wake_200 ?_
                refine gf_X12_163 hK (by decide) rfl (v := (h 73) 29) ((congrFun ((sOf_ne _ _ (by decide)).trans ((sOf_ne _ _ (by decide)).trans (hG_134.1 73 (by decide)))) 29).trans (((hG_132.2 29 (by decide))).trans ((congrFun (hG_10.1 73 (by decide)) 29).trans ((congrFun (hG_7.1 73 (by decide)) 29).trans ((congrFun (hG_4.1 73 (by decide)) 29).trans (congrFun (hG_1.1 73 (by decide)) 29)))))) dX12_wake_201 ?_
                have r139 := ty_73_29 (v := (h 73) 29) hT_138 ((congrFun ((sOf_ne _ _ (by decide)).trans ((sOf_ne _ _ (by decide)).trans (hG_134.1 73 (by decide)))) 29).trans (((hG_132.2 29 (by decide))).trans ((congrFun (hG_10.1 73 (by decide)) 29).trans ((congrFun (hG_7.1 73 (by decide)) 29).trans ((congrFun (hG_4.1 73 (by decide)) 29).trans (congrFun (hG_1.1 73 (by decide)) 29))))))
                refine TT_iconst hK dX12_wake_204 ?_
                refine TT_icmp_ne hK (tgt := 237) (irm (by omega) (by omega)) (by decide) dX12_wake_205 (by decide) (fun hb205_140 => ?_) (fun hb205_140 => ?_)
                · refine TT_vret hK hQ ?_ dX12_wake_237
                  have e141_73_32 : (setO (setO g168_134 85 (fup (h 85) z168_134 0)) 93 (fup (h 93) (10 * y + x + 11) 1)) 73 32 = (g140_132 73) 32 := congrFun ((sOf_ne _ _ (by decide)).trans ((sOf_ne _ _ (by decide)).trans (hG_134.1 73 (by decide)))) 32
                  have e142_73_34 : (setO (setO g168_134 85 (fup (h 85) z168_134 0)) 93 (fup (h 93) (10 * y + x + 11) 1)) 73 34 = (g140_132 73) 34 := congrFun ((sOf_ne _ _ (by decide)).trans ((sOf_ne _ _ (by decide)).trans (hG_134.1 73 (by decide)))) 34
                  have e143_73_36 : (setO (setO g168_134 85 (fup (h 85) z168_134 0)) 93 (fup (h 93) (10 * y + x + 11) 1)) 73 36 = (g140_132 73) 36 := congrFun ((sOf_ne _ _ (by decide)).trans ((sOf_ne _ _ (by decide)).trans (hG_134.1 73 (by decide)))) 36
                  have e144_96 : (setO (setO g168_134 85 (fup (h 85) z168_134 0)) 93 (fup (h 93) (10 * y + x + 11) 1)) 96 = g140_132 96 := (sOf_ne _ _ (by decide)).trans ((sOf_ne _ _ (by decide)).trans (hG_134.1 96 (by decide)))
                  have e145_93 : (setO (setO g168_134 85 (fup (h 85) z168_134 0)) 93 (fup (h 93) (10 * y + x + 11) 1)) 93 = fup (h 93) (10 * y + x + 11) 1 := sOf_eq _ _ _
                  exact ⟨⟨hT_138, hF_138⟩, rfl, (by rewrite [e141_73_32]; omega), (by rewrite [e142_73_34, e143_73_36, e144_96]; omega), (by rewrite [e145_93]; intro w e h1 h2 h3 h4 h5; exact ZC_up ⟨hx.1, h1⟩ h2 ⟨hy.1, h3⟩ h4 h5 (by decide))⟩
                · refine TT_aload_n hK rfl 2 rfl dX12_wake_208 ?_
                  refine gf_X12_47 hK (by decide) rfl (q := 84) rfl rfl dX12_wake_209 ?_
                  refine TT_aload_n hK rfl 2 rfl dX12_wake_212 ?_
                  refine TT_iload_n hK rfl 3 rfl dX12_wake_213 ?_
                  refine TT_iload_n hK rfl 4 rfl dX12_wake_214 ?_
                  refine iv_X12_249 hK (s_X12_cell_73 x y (setO (setO g168_134 85 (fup (h 85) z168_134 0)) 93 (fup (h 93) (10 * y + x + 11) 1)) hT_138 (by first | omega | (simp [up, setR] <;> omega)) (by first | omega | (simp [up, setR] <;> omega))) (by decide) rfl ⟨by decide, by decide⟩ (by decide) rfl rfl (Nat.le_of_ble_eq_true rfl) ⟨by decide, by decide⟩ dX12_wake_215 ?_
                  intro r9 g215_146 hp9
                  obtain ⟨⟨hT_146, hG_146⟩, z215_146, hr9, hz_146, p1_146⟩ := hp9
                  rw [hr9]
                  have hF_146 : FRM [73, 84, 85, 93, 96, 97, 98] [28, 32, 33, 34, 36, 39] h g215_146 := FRM_tr hF_138 hG_146 (by decide) (by decide)
                  rw [show (setO (setO g168_134 85 (fup (h 85) z168_134 0)) 93 (fup (h 93) (10 * y + x + 11) 1)) 73 26 = (h 73) 26 from (congrFun ((sOf_ne _ _ (by decide)).trans ((sOf_ne _ _ (by decide)).trans (hG_134.1 73 (by decide)))) 26).trans (((hG_132.2 26 (by decide))).trans ((congrFun (hG_10.1 73 (by decide)) 26).trans ((congrFun (hG_7.1 73 (by decide)) 26).trans ((congrFun (hG_4.1 73 (by decide)) 26).trans (congrFun (hG_1.1 73 (by decide)) 26)))))] at p1_146
                  show TT K ly 0 0 218 [(8, vI z140_132), (9, vI z140_132), (0, vR 73), (1, vI x), (2, vI y), (3, vI (10 * y + x + 11)), (4, vI a), (5, vI b), (6, vI t9), (7, vI cx)] [vI z215_146, vR 84] g215_146
                  refine TT_aload_n hK rfl 2 rfl dX12_wake_218 ?_
                  refine gf_X12_47 hK (by decide) rfl (q := 84) rfl rfl dX12_wake_219 ?_
                  refine TT_aload_n hK rfl 2 rfl dX12_wake_222 ?_
                  refine TT_iload_n hK rfl 3 rfl dX12_wake_223 ?_
                  refine TT_iload_n hK rfl 4 rfl dX12_wake_224 ?_
                  refine iv_X12_249 hK (s_X12_cell_73 x y g215_146 hT_146 (by first | omega | (simp [up, setR] <;> omega)) (by first | omega | (simp [up, setR] <;> omega))) (by decide) rfl ⟨by decide, by decide⟩ (by decide) rfl rfl (Nat.le_of_ble_eq_true rfl) ⟨by decide, by decide⟩ dX12_wake_225 ?_
                  intro r9 g225_147 hp9
                  obtain ⟨⟨hT_147, hG_147⟩, z225_147, hr9, hz_147, p1_147⟩ := hp9
                  rw [hr9]
                  have hF_147 : FRM [73, 84, 85, 93, 96, 97, 98] [28, 32, 33, 34, 36, 39] h g225_147 := FRM_tr hF_146 hG_147 (by decide) (by decide)
                  rw [show g215_146 73 26 = (h 73) 26 from (congrFun (hG_146.1 73 (by decide)) 26).trans ((congrFun ((sOf_ne _ _ (by decide)).trans ((sOf_ne _ _ (by decide)).trans (hG_134.1 73 (by decide)))) 26).trans (((hG_132.2 26 (by decide))).trans ((congrFun (hG_10.1 73 (by decide)) 26).trans ((congrFun (hG_7.1 73 (by decide)) 26).trans ((congrFun (hG_4.1 73 (by decide)) 26).trans (congrFun (hG_1.1 73 (by decide)) 26))))))] at p1_147
                  show TT K ly 0 0 228 [(8, vI z140_132), (9, vI z140_132), (0, vR 73), (1, vI x), (2, vI y), (3, vI (10 * y + x + 11)), (4, vI a), (5, vI b), (6, vI t9), (7, vI cx)] [vI z225_147, vR 84, vI z215_146, vR 84] g225_147
                  refine TT_iald hK (o := 84) (n := 1280) (by decide) rfl (by first | omega | (simp [up, setR] <;> omega)) (by first | omega | (simp [up, setR] <;> omega)) (v := (h 84) z225_147) (rd_ (((hG_147.1 84 (by decide))).trans (((hG_146.1 84 (by decide))).trans ((sOf_ne _ _ (by decide)).trans ((sOf_ne _ _ (by decide)).trans (((hG_134.1 84 (by decide))).trans (((hG_132.1 84 (by decide))).trans (((hG_10.1 84 (by decide))).trans (((hG_7.1 84 (by decide))).trans (((hG_4.1 84 (by decide))).trans (hG_1.1 84 (by decide))))))))))) rfl) dX12_wake_228 ?_
                  have r148 := ty_84 (i := z225_147) (v := (h 84) z225_147) hT_147 (rd_ (((hG_147.1 84 (by decide))).trans (((hG_146.1 84 (by decide))).trans ((sOf_ne _ _ (by decide)).trans ((sOf_ne _ _ (by decide)).trans (((hG_134.1 84 (by decide))).trans (((hG_132.1 84 (by decide))).trans (((hG_10.1 84 (by decide))).trans (((hG_7.1 84 (by decide))).trans (((hG_4.1 84 (by decide))).trans (hG_1.1 84 (by decide))))))))))) rfl) (by omega) (by omega)
                  refine TT_iconst hK dX12_wake_229 ?_
                  refine TT_aload_n hK rfl 2 rfl dX12_wake_230 ?_
                  refine gf_X12_252 hK (by decide) rfl (v := (h 73) 27) ((congrFun (hG_147.1 73 (by decide)) 27).trans ((congrFun (hG_146.1 73 (by decide)) 27).trans ((congrFun ((sOf_ne _ _ (by decide)).trans ((sOf_ne _ _ (by decide)).trans (hG_134.1 73 (by decide)))) 27).trans (((hG_132.2 27 (by decide))).trans ((congrFun (hG_10.1 73 (by decide)) 27).trans ((congrFun (hG_7.1 73 (by decide)) 27).trans ((congrFun (hG_4.1 73 (by decide)) 27).trans (congrFun (hG_1.1 73 (by decide)) 27)))))))) dX12_wake_231 ?_
                  have r149 := ty_73_27 (v := (h 73) 27) hT_147 ((congrFun (hG_147.1 73 (by decide)) 27).trans ((congrFun (hG_146.1 73 (by decide)) 27).trans ((congrFun ((sOf_ne _ _ (by decide)).trans ((sOf_ne _ _ (by decide)).trans (hG_134.1 73 (by decide)))) 27).trans (((hG_132.2 27 (by decide))).trans ((congrFun (hG_10.1 73 (by decide)) 27).trans ((congrFun (hG_7.1 73 (by decide)) 27).trans ((congrFun (hG_4.1 73 (by decide)) 27).trans (congrFun (hG_1.1 73 (by decide)) 27))))))))
                  refine TT_ishl_a hK dX12_wake_234 (fun x234_150 hx150 => ?_)
                  refine TT_ior hK dX12_wake_235 ?_
                  refine TT_w32 (fun x236_151 hx151 => ?_)
                  refine TT_iast hK (o := 84) (n := 1280) (by decide) rfl (by omega) (by omega) dX12_wake_236 ?_
                  refine TT_hp (h' := setO g225_147 84 (fup (h 84) z215_146 x236_151)) (up_can (((hG_147.1 84 (by decide))).trans (((hG_146.1 84 (by decide))).trans ((sOf_ne _ _ (by decide)).trans ((sOf_ne _ _ (by decide)).trans (((hG_134.1 84 (by decide))).trans (((hG_132.1 84 (by decide))).trans (((hG_10.1 84 (by decide))).trans (((hG_7.1 84 (by decide))).trans (((hG_4.1 84 (by decide))).trans (hG_1.1 84 (by decide))))))))))) rfl rfl) ?_
                  have hT_152 : TY (setO g225_147 84 (fup (h 84) z215_146 x236_151)) := tu_84 hT_147 (show up g225_147 84 z215_146 x236_151 = (setO g225_147 84 (fup (h 84) z215_146 x236_151)) from up_can (((hG_147.1 84 (by decide))).trans (((hG_146.1 84 (by decide))).trans ((sOf_ne _ _ (by decide)).trans ((sOf_ne _ _ (by decide)).trans (((hG_134.1 84 (by decide))).trans (((hG_132.1 84 (by decide))).trans (((hG_10.1 84 (by decide))).trans (((hG_7.1 84 (by decide))).trans (((hG_4.1 84 (by decide))).trans (hG_1.1 84 (by decide))))))))))) rfl rfl) (by omega)
                  have hF_152 : FRM [73, 84, 85, 93, 96, 97, 98] [28, 32, 33, 34, 36, 39] h (setO g225_147 84 (fup (h 84) z215_146 x236_151)) := FRM_up (show up g225_147 84 z215_146 x236_151 = (setO g225_147 84 (fup (h 84) z215_146 x236_151)) from up_can (((hG_147.1 84 (by decide))).trans (((hG_146.1 84 (by decide))).trans ((sOf_ne _ _ (by decide)).trans ((sOf_ne _ _ (by decide)).trans (((hG_134.1 84 (by decide))).trans (((hG_132.1 84 (by decide))).trans (((hG_10.1 84 (by decide))).trans (((hG_7.1 84 (by decide))).trans (((hG_4.1 84 (by decide))).trans (hG_1.1 84 (by decide))))))))))) rfl rfl) hF_147 (by decide) (by decide)
                  refine TT_vret hK hQ ?_ dX12_wake_237
                  have e153_73_32 : (setO g225_147 84 (fup (h 84) z215_146 x236_151)) 73 32 = (g140_132 73) 32 := (congrFun ((sOf_ne _ _ (by decide)).trans (hG_147.1 73 (by decide))) 32).trans ((congrFun (hG_146.1 73 (by decide)) 32).trans (congrFun ((sOf_ne _ _ (by decide)).trans ((sOf_ne _ _ (by decide)).trans (hG_134.1 73 (by decide)))) 32))
                  have e154_73_34 : (setO g225_147 84 (fup (h 84) z215_146 x236_151)) 73 34 = (g140_132 73) 34 := (congrFun ((sOf_ne _ _ (by decide)).trans (hG_147.1 73 (by decide))) 34).trans ((congrFun (hG_146.1 73 (by decide)) 34).trans (congrFun ((sOf_ne _ _ (by decide)).trans ((sOf_ne _ _ (by decide)).trans (hG_134.1 73 (by decide)))) 34))
                  have e155_73_36 : (setO g225_147 84 (fup (h 84) z215_146 x236_151)) 73 36 = (g140_132 73) 36 := (congrFun ((sOf_ne _ _ (by decide)).trans (hG_147.1 73 (by decide))) 36).trans ((congrFun (hG_146.1 73 (by decide)) 36).trans (congrFun ((sOf_ne _ _ (by decide)).trans ((sOf_ne _ _ (by decide)).trans (hG_134.1 73 (by decide)))) 36))
                  have e156_96 : (setO g225_147 84 (fup (h 84) z215_146 x236_151)) 96 = g140_132 96 := (sOf_ne _ _ (by decide)).trans (((hG_147.1 96 (by decide))).trans (((hG_146.1 96 (by decide))).trans ((sOf_ne _ _ (by decide)).trans ((sOf_ne _ _ (by decide)).trans (hG_134.1 96 (by decide))))))
                  have e157_93 : (setO g225_147 84 (fup (h 84) z215_146 x236_151)) 93 = fup (h 93) (10 * y + x + 11) 1 := (sOf_ne _ _ (by decide)).trans (((hG_147.1 93 (by decide))).trans (((hG_146.1 93 (by decide))).trans (sOf_eq _ _ _)))
                  exact ⟨⟨hT_152, hF_152⟩, rfl, (by rewrite [e153_73_32]; omega), (by rewrite [e154_73_34, e155_73_36, e156_96]; omega), (by rewrite [e157_93]; intro w e h1 h2 h3 h4 h5; exact ZC_up ⟨hx.1, h1⟩ h2 ⟨hy.1, h3⟩ h4 h5 (by decide))⟩
              · exfalso; omega
            · refine TT_iconst hK dX12_wake_177 ?_
              refine TT_goto hK (tgt := 182) dX12_wake_178 (by decide) ?_
              refine TT_zast hK (o := 85) (n := 1280) (by decide) rfl (by omega) (by omega) (by first | decide | omega) dX12_wake_182 ?_
              refine TT_hp (h' := setO g168_134 85 (fup (h 85) z168_134 1)) (up_can (((hG_134.1 85 (by decide))).trans (((hG_132.1 85 (by decide))).trans (((hG_10.1 85 (by decide))).trans (((hG_7.1 85 (by decide))).trans (((hG_4.1 85 (by decide))).trans (hG_1.1 85 (by decide))))))) rfl rfl) ?_
              have hT_158 : TY (setO g168_134 85 (fup (h 85) z168_134 1)) := tu_85 hT_134 (show up g168_134 85 z168_134 1 = (setO g168_134 85 (fup (h 85) z168_134 1)) from up_can (((hG_134.1 85 (by decide))).trans (((hG_132.1 85 (by decide))).trans (((hG_10.1 85 (by decide))).trans (((hG_7.1 85 (by decide))).trans (((hG_4.1 85 (by decide))).trans (hG_1.1 85 (by decide))))))) rfl rfl) (by omega)
              have hF_158 : FRM [73, 84, 85, 93, 96, 97, 98] [28, 32, 33, 34, 36, 39] h (setO g168_134 85 (fup (h 85) z168_134 1)) := FRM_up (show up g168_134 85 z168_134 1 = (setO g168_134 85 (fup (h 85) z168_134 1)) from up_can (((hG_134.1 85 (by decide))).trans (((hG_132.1 85 (by decide))).trans (((hG_10.1 85 (by decide))).trans (((hG_7.1 85 (by decide))).trans (((hG_4.1 85 (by decide))).trans (hG_1.1 85 (by decide))))))) rfl rfl) hF_134 (by decide) (by decide)
              refine TT_aload_n hK rfl 2 rfl dX12_wake_183 ?_
              refine gf_X12_75 hK (by decide) rfl (q := 93) rfl rfl dX12_wake_184 ?_
              refine TT_iload_n hK rfl 5 rfl dX12_wake_187 ?_
              refine TT_iload hK 0 rfl dX12_wake_188 ?_
              refine TT_iconst hK dX12_wake_190 ?_
              refine TT_icmp_ne hK (tgt := 198) (irm (by omega) (by omega)) (by decide) dX12_wake_191 (by decide) (fun hb191_159 => ?_) (fun hb191_159 => ?_)
              · exfalso; omega
              · refine TT_iconst hK dX12_wake_194 ?_
                refine TT_goto hK (tgt := 199) dX12_wake_195 (by decide) ?_
                refine TT_iast hK (o := 93) (n := 100) (by decide) rfl (by omega) (by omega) dX12_wake_199 ?_
                refine TT_hp (h' := setO (setO g168_134 85 (fup (h 85) z168_134 1)) 93 (fup (h 93) (10 * y + x + 11) (-1))) (up_can ((sOf_ne _ _ (by decide)).trans (((hG_134.1 93 (by decide))).trans (((hG_132.1 93 (by decide))).trans (((hG_10.1 93 (by decide))).trans (((hG_7.1 93 (by decide))).trans (((hG_4.1 93 (by decide))).trans (hG_1.1 93 (by decide)))))))) rfl rfl) ?_
                have hT_160 : TY (setO (setO g168_134 85 (fup (h 85) z168_134 1)) 93 (fup (h 93) (10 * y + x + 11) (-1))) := tu_93 hT_158 (show up (setO g168_134 85 (fup (h 85) z168_134 1)) 93 (10 * y + x + 11) (-1) = (setO (setO g168_134 85 (fup (h 85) z168_134 1)) 93 (fup (h 93) (10 * y + x + 11) (-1))) from up_can ((sOf_ne _ _ (by decide)).trans (((hG_134.1 93 (by decide))).trans (((hG_132.1 93 (by decide))).trans (((hG_10.1 93 (by decide))).trans (((hG_7.1 93 (by decide))).trans (((hG_4.1 93 (by decide))).trans (hG_1.1 93 (by decide)))))))) rfl rfl) (by omega)
                have hF_160 : FRM [73, 84, 85, 93, 96, 97, 98] [28, 32, 33, 34, 36, 39] h (setO (setO g168_134 85 (fup (h 85) z168_134 1)) 93 (fup (h 93) (10 * y + x + 11) (-1))) := FRM_up (show up (setO g168_134 85 (fup (h 85) z168_134 1)) 93 (10 * y + x + 11) (-1) = (setO (setO g168_134 85 (fup (h 85) z168_134 1)) 93 (fup (h 93) (10 * y + x + 11) (-1))) from up_can ((sOf_ne _ _ (by decide)).trans (((hG_134.1 93 (by decide))).trans (((hG_132.1 93 (by decide))).trans (((hG_10.1 93 (by decide))).trans (((hG_7.1 93 (by decide))).trans (((hG_4.1 93 (by decide))).trans (hG_1.1 93 (by decide)))))))) rfl rfl) hF_158 (by decide) (by decide)
                refine TT_aload_n hK rfl 2 rfl dX12_wake_200 ?_
                refine gf_X12_163 hK (by decide) rfl (v := (h 73) 29) ((congrFun ((sOf_ne _ _ (by decide)).trans ((sOf_ne _ _ (by decide)).trans (hG_134.1 73 (by decide)))) 29).trans (((hG_132.2 29 (by decide))).trans ((congrFun (hG_10.1 73 (by decide)) 29).trans ((congrFun (hG_7.1 73 (by decide)) 29).trans ((congrFun (hG_4.1 73 (by decide)) 29).trans (congrFun (hG_1.1 73 (by decide)) 29)))))) dX12_wake_201 ?_
                have r161 := ty_73_29 (v := (h 73) 29) hT_160 ((congrFun ((sOf_ne _ _ (by decide)).trans ((sOf_ne _ _ (by decide)).trans (hG_134.1 73 (by decide)))) 29).trans (((hG_132.2 29 (by decide))).trans ((congrFun (hG_10.1 73 (by decide)) 29).trans ((congrFun (hG_7.1 73 (by decide)) 29).trans ((congrFun (hG_4.1 73 (by decide)) 29).trans (congrFun (hG_1.1 73 (by decide)) 29))))))
                refine TT_iconst hK dX12_wake_204 ?_
                refine TT_icmp_ne hK (tgt := 237) (irm (by omega) (by omega)) (by decide) dX12_wake_205 (by decide) (fun hb205_162 => ?_) (fun hb205_162 => ?_)
                · refine TT_vret hK hQ ?_ dX12_wake_237
                  have e163_73_32 : (setO (setO g168_134 85 (fup (h 85) z168_134 1)) 93 (fup (h 93) (10 * y + x + 11) (-1))) 73 32 = (g140_132 73) 32 := congrFun ((sOf_ne _ _ (by decide)).trans ((sOf_ne _ _ (by decide)).trans (hG_134.1 73 (by decide)))) 32
                  have e164_73_34 : (setO (setO g168_134 85 (fup (h 85) z168_134 1)) 93 (fup (h 93) (10 * y + x + 11) (-1))) 73 34 = (g140_132 73) 34 := congrFun ((sOf_ne _ _ (by decide)).trans ((sOf_ne _ _ (by decide)).trans (hG_134.1 73 (by decide)))) 34
                  have e165_73_36 : (setO (setO g168_134 85 (fup (h 85) z168_134 1)) 93 (fup (h 93) (10 * y + x + 11) (-1))) 73 36 = (g140_132 73) 36 := congrFun ((sOf_ne _ _ (by decide)).trans ((sOf_ne _ _ (by decide)).trans (hG_134.1 73 (by decide)))) 36
                  have e166_96 : (setO (setO g168_134 85 (fup (h 85) z168_134 1)) 93 (fup (h 93) (10 * y + x + 11) (-1))) 96 = g140_132 96 := (sOf_ne _ _ (by decide)).trans ((sOf_ne _ _ (by decide)).trans (hG_134.1 96 (by decide)))
                  have e167_93 : (setO (setO g168_134 85 (fup (h 85) z168_134 1)) 93 (fup (h 93) (10 * y + x + 11) (-1))) 93 = fup (h 93) (10 * y + x + 11) (-1) := sOf_eq _ _ _
                  exact ⟨⟨hT_160, hF_160⟩, rfl, (by rewrite [e163_73_32]; omega), (by rewrite [e164_73_34, e165_73_36, e166_96]; omega), (by rewrite [e167_93]; intro w e h1 h2 h3 h4 h5; exact ZC_up ⟨hx.1, h1⟩ h2 ⟨hy.1, h3⟩ h4 h5 (by decide))⟩
                · refine TT_aload_n hK rfl 2 rfl dX12_wake_208 ?_
                  refine gf_X12_47 hK (by decide) rfl (q := 84) rfl rfl dX12_wake_209 ?_
                  refine TT_aload_n hK rfl 2 rfl dX12_wake_212 ?_
                  refine TT_iload_n hK rfl 3 rfl dX12_wake_213 ?_
                  refine TT_iload_n hK rfl 4 rfl dX12_wake_214 ?_
                  refine iv_X12_249 hK (s_X12_cell_73 x y (setO (setO g168_134 85 (fup (h 85) z168_134 1)) 93 (fup (h 93) (10 * y + x + 11) (-1))) hT_160 (by first | omega | (simp [up, setR] <;> omega)) (by first | omega | (simp [up, setR] <;> omega))) (by decide) rfl ⟨by decide, by decide⟩ (by decide) rfl rfl (Nat.le_of_ble_eq_true rfl) ⟨by decide, by decide⟩ dX12_wake_215 ?_
                  intro r9 g215_168 hp9
                  obtain ⟨⟨hT_168, hG_168⟩, z215_168, hr9, hz_168, p1_168⟩ := hp9
                  rw [hr9]
                  have hF_168 : FRM [73, 84, 85, 93, 96, 97, 98] [28, 32, 33, 34, 36, 39] h g215_168 := FRM_tr hF_160 hG_168 (by decide) (by decide)
                  rw [show (setO (setO g168_134 85 (fup (h 85) z168_134 1)) 93 (fup (h 93) (10 * y + x + 11) (-1))) 73 26 = (h 73) 26 from (congrFun ((sOf_ne _ _ (by decide)).trans ((sOf_ne _ _ (by decide)).trans (hG_134.1 73 (by decide)))) 26).trans (((hG_132.2 26 (by decide))).trans ((congrFun (hG_10.1 73 (by decide)) 26).trans ((congrFun (hG_7.1 73 (by decide)) 26).trans ((congrFun (hG_4.1 73 (by decide)) 26).trans (congrFun (hG_1.1 73 (by decide)) 26)))))] at p1_168
                  show TT K ly 0 0 218 [(8, vI z140_132), (9, vI z140_132), (0, vR 73), (1, vI x), (2, vI y), (3, vI (10 * y + x + 11)), (4, vI a), (5, vI b), (6, vI t9), (7, vI cx)] [vI z215_168, vR 84] g215_168
                  refine TT_aload_n hK rfl 2 rfl dX12_wake_218 ?_
                  refine gf_X12_47 hK (by decide) rfl (q := 84) rfl rfl dX12_wake_219 ?_
                  refine TT_aload_n hK rfl 2 rfl dX12_wake_222 ?_
                  refine TT_iload_n hK rfl 3 rfl dX12_wake_223 ?_
                  refine TT_iload_n hK rfl 4 rfl dX12_wake_224 ?_
                  refine iv_X12_249 hK (s_X12_cell_73 x y g215_168 hT_168 (by first | omega | (simp [up, setR] <;> omega)) (by first | omega | (simp [up, setR] <;> omega))) (by decide) rfl ⟨by decide, by decide⟩ (by decide) rfl rfl (Nat.le_of_ble_eq_true rfl) ⟨by decide, by decide⟩ dX12_wake_225 ?_
                  intro r9 g225_169 hp9
                  obtain ⟨⟨hT_169, hG_169⟩, z225_169, hr9, hz_169, p1_169⟩ := hp9
                  rw [hr9]
                  have hF_169 : FRM [73, 84, 85, 93, 96, 97, 98] [28, 32, 33, 34, 36, 39] h g225_169 := FRM_tr hF_168 hG_169 (by decide) (by decide)
                  rw [show g215_168 73 26 = (h 73) 26 from (congrFun (hG_168.1 73 (by decide)) 26).trans ((congrFun ((sOf_ne _ _ (by decide)).trans ((sOf_ne _ _ (by decide)).trans (hG_134.1 73 (by decide)))) 26).trans (((hG_132.2 26 (by decide))).trans ((congrFun (hG_10.1 73 (by decide)) 26).trans ((congrFun (hG_7.1 73 (by decide)) 26).trans ((congrFun (hG_4.1 73 (by decide)) 26).trans (congrFun (hG_1.1 73 (by decide)) 26))))))] at p1_169
                  show TT K ly 0 0 228 [(8, vI z140_132), (9, vI z140_132), (0, vR 73), (1, vI x), (2, vI y), (3, vI (10 * y + x + 11)), (4, vI a), (5, vI b), (6, vI t9), (7, vI cx)] [vI z225_169, vR 84, vI z215_168, vR 84] g225_169
                  refine TT_iald hK (o := 84) (n := 1280) (by decide) rfl (by first | omega | (simp [up, setR] <;> omega)) (by first | omega | (simp [up, setR] <;> omega)) (v := (h 84) z225_169) (rd_ (((hG_169.1 84 (by decide))).trans (((hG_168.1 84 (by decide))).trans ((sOf_ne _ _ (by decide)).trans ((sOf_ne _ _ (by decide)).trans (((hG_134.1 84 (by decide))).trans (((hG_132.1 84 (by decide))).trans (((hG_10.1 84 (by decide))).trans (((hG_7.1 84 (by decide))).trans (((hG_4.1 84 (by decide))).trans (hG_1.1 84 (by decide))))))))))) rfl) dX12_wake_228 ?_
                  have r170 := ty_84 (i := z225_169) (v := (h 84) z225_169) hT_169 (rd_ (((hG_169.1 84 (by decide))).trans (((hG_168.1 84 (by decide))).trans ((sOf_ne _ _ (by decide)).trans ((sOf_ne _ _ (by decide)).trans (((hG_134.1 84 (by decide))).trans (((hG_132.1 84 (by decide))).trans (((hG_10.1 84 (by decide))).trans (((hG_7.1 84 (by decide))).trans (((hG_4.1 84 (by decide))).trans (hG_1.1 84 (by decide))))))))))) rfl) (by omega) (by omega)
                  refine TT_iconst hK dX12_wake_229 ?_
                  refine TT_aload_n hK rfl 2 rfl dX12_wake_230 ?_
                  refine gf_X12_252 hK (by decide) rfl (v := (h 73) 27) ((congrFun (hG_169.1 73 (by decide)) 27).trans ((congrFun (hG_168.1 73 (by decide)) 27).trans ((congrFun ((sOf_ne _ _ (by decide)).trans ((sOf_ne _ _ (by decide)).trans (hG_134.1 73 (by decide)))) 27).trans (((hG_132.2 27 (by decide))).trans ((congrFun (hG_10.1 73 (by decide)) 27).trans ((congrFun (hG_7.1 73 (by decide)) 27).trans ((congrFun (hG_4.1 73 (by decide)) 27).trans (congrFun (hG_1.1 73 (by decide)) 27)))))))) dX12_wake_231 ?_
                  have r171 := ty_73_27 (v := (h 73) 27) hT_169 ((congrFun (hG_169.1 73 (by decide)) 27).trans ((congrFun (hG_168.1 73 (by decide)) 27).trans ((congrFun ((sOf_ne _ _ (by decide)).trans ((sOf_ne _ _ (by decide)).trans (hG_134.1 73 (by decide)))) 27).trans (((hG_132.2 27 (by decide))).trans ((congrFun (hG_10.1 73 (by decide)) 27).trans ((congrFun (hG_7.1 73 (by decide)) 27).trans ((congrFun (hG_4.1 73 (by decide)) 27).trans (congrFun (hG_1.1 73 (by decide)) 27))))))))
                  refine TT_ishl_a hK dX12_wake_234 (fun x234_172 hx172 => ?_)
                  refine TT_ior hK dX12_wake_235 ?_
                  refine TT_w32 (fun x236_173 hx173 => ?_)
                  refine TT_iast hK (o := 84) (n := 1280) (by decide) rfl (by omega) (by omega) dX12_wake_236 ?_
                  refine TT_hp (h' := setO g225_169 84 (fup (h 84) z215_168 x236_173)) (up_can (((hG_169.1 84 (by decide))).trans (((hG_168.1 84 (by decide))).trans ((sOf_ne _ _ (by decide)).trans ((sOf_ne _ _ (by decide)).trans (((hG_134.1 84 (by decide))).trans (((hG_132.1 84 (by decide))).trans (((hG_10.1 84 (by decide))).trans (((hG_7.1 84 (by decide))).trans (((hG_4.1 84 (by decide))).trans (hG_1.1 84 (by decide))))))))))) rfl rfl) ?_
                  have hT_174 : TY (setO g225_169 84 (fup (h 84) z215_168 x236_173)) := tu_84 hT_169 (show up g225_169 84 z215_168 x236_173 = (setO g225_169 84 (fup (h 84) z215_168 x236_173)) from up_can (((hG_169.1 84 (by decide))).trans (((hG_168.1 84 (by decide))).trans ((sOf_ne _ _ (by decide)).trans ((sOf_ne _ _ (by decide)).trans (((hG_134.1 84 (by decide))).trans (((hG_132.1 84 (by decide))).trans (((hG_10.1 84 (by decide))).trans (((hG_7.1 84 (by decide))).trans (((hG_4.1 84 (by decide))).trans (hG_1.1 84 (by decide))))))))))) rfl rfl) (by omega)
                  have hF_174 : FRM [73, 84, 85, 93, 96, 97, 98] [28, 32, 33, 34, 36, 39] h (setO g225_169 84 (fup (h 84) z215_168 x236_173)) := FRM_up (show up g225_169 84 z215_168 x236_173 = (setO g225_169 84 (fup (h 84) z215_168 x236_173)) from up_can (((hG_169.1 84 (by decide))).trans (((hG_168.1 84 (by decide))).trans ((sOf_ne _ _ (by decide)).trans ((sOf_ne _ _ (by decide)).trans (((hG_134.1 84 (by decide))).trans (((hG_132.1 84 (by decide))).trans (((hG_10.1 84 (by decide))).trans (((hG_7.1 84 (by decide))).trans (((hG_4.1 84 (by decide))).trans (hG_1.1 84 (by decide))))))))))) rfl rfl) hF_169 (by decide) (by decide)
                  refine TT_vret hK hQ ?_ dX12_wake_237
                  have e175_73_32 : (setO g225_169 84 (fup (h 84) z215_168 x236_173)) 73 32 = (g140_132 73) 32 := (congrFun ((sOf_ne _ _ (by decide)).trans (hG_169.1 73 (by decide))) 32).trans ((congrFun (hG_168.1 73 (by decide)) 32).trans (congrFun ((sOf_ne _ _ (by decide)).trans ((sOf_ne _ _ (by decide)).trans (hG_134.1 73 (by decide)))) 32))
                  have e176_73_34 : (setO g225_169 84 (fup (h 84) z215_168 x236_173)) 73 34 = (g140_132 73) 34 := (congrFun ((sOf_ne _ _ (by decide)).trans (hG_169.1 73 (by decide))) 34).trans ((congrFun (hG_168.1 73 (by decide)) 34).trans (congrFun ((sOf_ne _ _ (by decide)).trans ((sOf_ne _ _ (by decide)).trans (hG_134.1 73 (by decide)))) 34))
                  have e177_73_36 : (setO g225_169 84 (fup (h 84) z215_168 x236_173)) 73 36 = (g140_132 73) 36 := (congrFun ((sOf_ne _ _ (by decide)).trans (hG_169.1 73 (by decide))) 36).trans ((congrFun (hG_168.1 73 (by decide)) 36).trans (congrFun ((sOf_ne _ _ (by decide)).trans ((sOf_ne _ _ (by decide)).trans (hG_134.1 73 (by decide)))) 36))
                  have e178_96 : (setO g225_169 84 (fup (h 84) z215_168 x236_173)) 96 = g140_132 96 := (sOf_ne _ _ (by decide)).trans (((hG_169.1 96 (by decide))).trans (((hG_168.1 96 (by decide))).trans ((sOf_ne _ _ (by decide)).trans ((sOf_ne _ _ (by decide)).trans (hG_134.1 96 (by decide))))))
                  have e179_93 : (setO g225_169 84 (fup (h 84) z215_168 x236_173)) 93 = fup (h 93) (10 * y + x + 11) (-1) := (sOf_ne _ _ (by decide)).trans (((hG_169.1 93 (by decide))).trans (((hG_168.1 93 (by decide))).trans (sOf_eq _ _ _)))
                  exact ⟨⟨hT_174, hF_174⟩, rfl, (by rewrite [e175_73_32]; omega), (by rewrite [e176_73_34, e177_73_36, e178_96]; omega), (by rewrite [e179_93]; intro w e h1 h2 h3 h4 h5; exact ZC_up ⟨hx.1, h1⟩ h2 ⟨hy.1, h3⟩ h4 h5 (by decide))⟩
          · exfalso; omega
        · refine TT_iconst hK dX12_wake_131 ?_
          refine TT_iload hK 0 rfl dX12_wake_132 ?_
          refine TT_isub hK dX12_wake_134 ?_
          refine TT_goto hK (tgt := 140) dX12_wake_135 (by decide) ?_
          have e180_74 : g109_10 74 = h 74 := ((hG_10.1 74 (by decide))).trans (((hG_7.1 74 (by decide))).trans (((hG_4.1 74 (by decide))).trans (hG_1.1 74 (by decide))))
          have e181_75 : g109_10 75 = h 75 := ((hG_10.1 75 (by decide))).trans (((hG_7.1 75 (by decide))).trans (((hG_4.1 75 (by decide))).trans (hG_1.1 75 (by decide))))
          have e182_73_32 : g109_10 73 32 = (h 73) 32 := (congrFun (hG_10.1 73 (by decide)) 32).trans ((congrFun (hG_7.1 73 (by decide)) 32).trans ((congrFun (hG_4.1 73 (by decide)) 32).trans (congrFun (hG_1.1 73 (by decide)) 32)))
          have e183_73_29 : g109_10 73 29 = (h 73) 29 := (congrFun (hG_10.1 73 (by decide)) 29).trans ((congrFun (hG_7.1 73 (by decide)) 29).trans ((congrFun (hG_4.1 73 (by decide)) 29).trans (congrFun (hG_1.1 73 (by decide)) 29)))
          have e184_73_34 : g109_10 73 34 = (h 73) 34 := (congrFun (hG_10.1 73 (by decide)) 34).trans ((congrFun (hG_7.1 73 (by decide)) 34).trans ((congrFun (hG_4.1 73 (by decide)) 34).trans (congrFun (hG_1.1 73 (by decide)) 34)))
          have e185_73_36 : g109_10 73 36 = (h 73) 36 := (congrFun (hG_10.1 73 (by decide)) 36).trans ((congrFun (hG_7.1 73 (by decide)) 36).trans ((congrFun (hG_4.1 73 (by decide)) 36).trans (congrFun (hG_1.1 73 (by decide)) 36)))
          have e186_96 : g109_10 96 = h 96 := ((hG_10.1 96 (by decide))).trans (((hG_7.1 96 (by decide))).trans (((hG_4.1 96 (by decide))).trans (hG_1.1 96 (by decide))))
          refine iv_X12_258 hK (s_X12_code_73 cx (1 - 1) g109_10 hT_10 (by first | omega | (simp [up, setR] <;> omega)) (by first | omega | (simp [up, setR] <;> omega)) (by rewrite [e180_74, e181_75]; first | assumption | exact htb) (by rewrite [e182_73_32]; first | omega | (simp [up, setR] <;> omega)) (by rewrite [e183_73_29, e184_73_34, e185_73_36, e186_96]; first | omega | (simp [up, setR] <;> omega))) (by decide) rfl ⟨by decide, by decide⟩ (by decide) rfl rfl (Nat.le_of_ble_eq_true rfl) ⟨by decide, by decide⟩ dX12_wake_140 ?_
          intro r9 g140_187 hp9
          obtain ⟨⟨hT_187, hG_187⟩, z140_187, hr9, hz_187, pa_187, pm_187⟩ := hp9
          rw [hr9]
          have hF_187 : FRM [73, 84, 85, 93, 96, 97, 98] [28, 32, 33, 34, 36, 39] h g140_187 := FRM_tr hF_10 hG_187 (by decide) (by decide)
          rw [show g109_10 73 29 = (h 73) 29 from (congrFun (hG_10.1 73 (by decide)) 29).trans ((congrFun (hG_7.1 73 (by decide)) 29).trans ((congrFun (hG_4.1 73 (by decide)) 29).trans (congrFun (hG_1.1 73 (by decide)) 29)))] at pm_187
          rw [show g109_10 73 34 = (h 73) 34 from (congrFun (hG_10.1 73 (by decide)) 34).trans ((congrFun (hG_7.1 73 (by decide)) 34).trans ((congrFun (hG_4.1 73 (by decide)) 34).trans (congrFun (hG_1.1 73 (by decide)) 34)))] at pm_187
          rw [show g109_10 73 36 = (h 73) 36 from (congrFun (hG_10.1 73 (by decide)) 36).trans ((congrFun (hG_7.1 73 (by decide)) 36).trans ((congrFun (hG_4.1 73 (by decide)) 36).trans (congrFun (hG_1.1 73 (by decide)) 36)))] at pm_187
          rw [show g109_10 96 = h 96 from ((hG_10.1 96 (by decide))).trans (((hG_7.1 96 (by decide))).trans (((hG_4.1 96 (by decide))).trans (hG_1.1 96 (by decide))))] at pm_187
          show TT K ly 0 0 143 [(8, vI 1), (0, vR 73), (1, vI x), (2, vI y), (3, vI (10 * y + x + 11)), (4, vI a), (5, vI b), (6, vI t9), (7, vI cx)] [vI z140_187] g140_187
          refine TT_istore hK (lv' := [(9, vI z140_187), (8, vI 1), (0, vR 73), (1, vI x), (2, vI y), (3, vI (10 * y + x + 11)), (4, vI a), (5, vI b), (6, vI t9), (7, vI cx)]) (by decide) rfl dX12_wake_143 ?_
          refine TT_iload hK 8 rfl dX12_wake_145 ?_
          refine TT_if_eq hK (tgt := 157) (irm (by omega) (by omega)) dX12_wake_147 (by decide) (fun hb147_188 => ?_) (fun hb147_188 => ?_)
          · exfalso; omega
          · refine TT_iconst hK dX12_wake_150 ?_
            refine TT_iload hK 0 rfl dX12_wake_151 ?_
            refine TT_isub hK dX12_wake_153 ?_
            refine TT_goto hK (tgt := 159) dX12_wake_154 (by decide) ?_
            refine TT_istore hK (lv' := [(8, vI (1 - z140_187)), (9, vI z140_187), (0, vR 73), (1, vI x), (2, vI y), (3, vI (10 * y + x + 11)), (4, vI a), (5, vI b), (6, vI t9), (7, vI cx)]) (by decide) rfl dX12_wake_159 ?_
            refine TT_aload_n hK rfl 2 rfl dX12_wake_161 ?_
            refine gf_X12_50 hK (by decide) rfl (q := 85) rfl rfl dX12_wake_162 ?_
            refine TT_aload_n hK rfl 2 rfl dX12_wake_165 ?_
            refine TT_iload_n hK rfl 3 rfl dX12_wake_166 ?_
            refine TT_iload_n hK rfl 4 rfl dX12_wake_167 ?_
            refine iv_X12_249 hK (s_X12_cell_73 x y g140_187 hT_187 (by first | omega | (simp [up, setR] <;> omega)) (by first | omega | (simp [up, setR] <;> omega))) (by decide) rfl ⟨by decide, by decide⟩ (by decide) rfl rfl (Nat.le_of_ble_eq_true rfl) ⟨by decide, by decide⟩ dX12_wake_168 ?_
            intro r9 g168_189 hp9
            obtain ⟨⟨hT_189, hG_189⟩, z168_189, hr9, hz_189, p1_189⟩ := hp9
            rw [hr9]
            have hF_189 : FRM [73, 84, 85, 93, 96, 97, 98] [28, 32, 33, 34, 36, 39] h g168_189 := FRM_tr hF_187 hG_189 (by decide) (by decide)
            rw [show g140_187 73 26 = (h 73) 26 from ((hG_187.2 26 (by decide))).trans ((congrFun (hG_10.1 73 (by decide)) 26).trans ((congrFun (hG_7.1 73 (by decide)) 26).trans ((congrFun (hG_4.1 73 (by decide)) 26).trans (congrFun (hG_1.1 73 (by decide)) 26))))] at p1_189
            show TT K ly 0 0 171 [(8, vI (1 - z140_187)), (9, vI z140_187), (0, vR 73), (1, vI x), (2, vI y), (3, vI (10 * y + x + 11)), (4, vI a), (5, vI b), (6, vI t9), (7, vI cx)] [vI z168_189, vR 85] g168_189
            refine TT_iload hK 0 rfl dX12_wake_171 ?_
            refine TT_iconst hK dX12_wake_173 ?_
            refine TT_icmp_ne hK (tgt := 181) (irm (by omega) (by omega)) (by decide) dX12_wake_174 (by decide) (fun hb174_190 => ?_) (fun hb174_190 => ?_)
            · refine TT_iconst hK dX12_wake_181 ?_
              refine TT_zast hK (o := 85) (n := 1280) (by decide) rfl (by omega) (by omega) (by first | decide | omega) dX12_wake_182 ?_
              refine TT_hp (h' := setO g168_189 85 (fup (h 85) z168_189 0)) (up_can (((hG_189.1 85 (by decide))).trans (((hG_187.1 85 (by decide))).trans (((hG_10.1 85 (by decide))).trans (((hG_7.1 85 (by decide))).trans (((hG_4.1 85 (by decide))).trans (hG_1.1 85 (by decide))))))) rfl rfl) ?_
              have hT_191 : TY (setO g168_189 85 (fup (h 85) z168_189 0)) := tu_85 hT_189 (show up g168_189 85 z168_189 0 = (setO g168_189 85 (fup (h 85) z168_189 0)) from up_can (((hG_189.1 85 (by decide))).trans (((hG_187.1 85 (by decide))).trans (((hG_10.1 85 (by decide))).trans (((hG_7.1 85 (by decide))).trans (((hG_4.1 85 (by decide))).trans (hG_1.1 85 (by decide))))))) rfl rfl) (by omega)
              have hF_191 : FRM [73, 84, 85, 93, 96, 97, 98] [28, 32, 33, 34, 36, 39] h (setO g168_189 85 (fup (h 85) z168_189 0)) := FRM_up (show up g168_189 85 z168_189 0 = (setO g168_189 85 (fup (h 85) z168_189 0)) from up_can (((hG_189.1 85 (by decide))).trans (((hG_187.1 85 (by decide))).trans (((hG_10.1 85 (by decide))).trans (((hG_7.1 85 (by decide))).trans (((hG_4.1 85 (by decide))).trans (hG_1.1 85 (by decide))))))) rfl rfl) hF_189 (by decide) (by decide)
              refine TT_aload_n hK rfl 2 rfl dX12_wake_183 ?_
              refine gf_X12_75 hK (by decide) rfl (q := 93) rfl rfl dX12_wake_184 ?_
              refine TT_iload_n hK rfl 5 rfl dX12_wake_187 ?_
              refine TT_iload hK 0 rfl dX12_wake_188 ?_
              refine TT_iconst hK dX12_wake_190 ?_
              refine TT_icmp_ne hK (tgt := 198) (irm (by omega) (by omega)) (by decide) dX12_wake_191 (by decide) (fun hb191_192 => ?_) (fun hb191_192 => ?_)
              · refine TT_iconst hK dX12_wake_198 ?_
                refine TT_iast hK (o := 93) (n := 100) (by decide) rfl (by omega) (by omega) dX12_wake_199 ?_
                refine TT_hp (h' := setO (setO g168_189 85 (fup (h 85) z168_189 0)) 93 (fup (h 93) (10 * y + x + 11) 1)) (up_can ((sOf_ne _ _ (by decide)).trans (((hG_189.1 93 (by decide))).trans (((hG_187.1 93 (by decide))).trans (((hG_10.1 93 (by decide))).trans (((hG_7.1 93 (by decide))).trans (((hG_4.1 93 (by decide))).trans (hG_1.1 93 (by decide)))))))) rfl rfl) ?_
                have hT_193 : TY (setO (setO g168_189 85 (fup (h 85) z168_189 0)) 93 (fup (h 93) (10 * y + x + 11) 1)) := tu_93 hT_191 (show up (setO g168_189 85 (fup (h 85) z168_189 0)) 93 (10 * y + x + 11) 1 = (setO (setO g168_189 85 (fup (h 85) z168_189 0)) 93 (fup (h 93) (10 * y + x + 11) 1)) from up_can ((sOf_ne _ _ (by decide)).trans (((hG_189.1 93 (by decide))).trans (((hG_187.1 93 (by decide))).trans (((hG_10.1 93 (by decide))).trans (((hG_7.1 93 (by decide))).trans (((hG_4.1 93 (by decide))).trans (hG_1.1 93 (by decide)))))))) rfl rfl) (by omega)
                have hF_193 : FRM [73, 84, 85, 93, 96, 97, 98] [28, 32, 33, 34, 36, 39] h (setO (setO g168_189 85 (fup (h 85) z168_189 0)) 93 (fup (h 93) (10 * y + x + 11) 1)) := FRM_up (show up (setO g168_189 85 (fup (h 85) z168_189 0)) 93 (10 * y + x + 11) 1 = (setO (setO g168_189 85 (fup (h 85) z168_189 0)) 93 (fup (h 93) (10 * y + x + 11) 1)) from up_can ((sOf_ne _ _ (by decide)).trans (((hG_189.1 93 (by decide))).trans (((hG_187.1 93 (by decide))).trans (((hG_10.1 93 (by decide))).trans (((hG_7.1 93 (by decide))).trans (((hG_4.1 93 (by decide))).trans (hG_1.1 93 (by decide)))))))) rfl rfl) hF_191 (by decide) (by decide)
                refine TT_aload_n hK rfl 2 rfl dX12_wake_200 ?_
                refine gf_X12_163 hK (by decide) rfl (v := (h 73) 29) ((congrFun ((sOf_ne _ _ (by decide)).trans ((sOf_ne _ _ (by decide)).trans (hG_189.1 73 (by decide)))) 29).trans (((hG_187.2 29 (by decide))).trans ((congrFun (hG_10.1 73 (by decide)) 29).trans ((congrFun (hG_7.1 73 (by decide)) 29).trans ((congrFun (hG_4.1 73 (by decide)) 29).trans (congrFun (hG_1.1 73 (by decide)) 29)))))) dX12_wake_201 ?_
                have r194 := ty_73_29 (v := (h 73) 29) hT_193 ((congrFun ((sOf_ne _ _ (by decide)).trans ((sOf_ne _ _ (by decide)).trans (hG_189.1 73 (by decide)))) 29).trans (((hG_187.2 29 (by decide))).trans ((congrFun (hG_10.1 73 (by decide)) 29).trans ((congrFun (hG_7.1 73 (by decide)) 29).trans ((congrFun (hG_4.1 73 (by decide)) 29).trans (congrFun (hG_1.1 73 (by decide)) 29))))))
                refine TT_iconst hK dX12_wake_204 ?_
                refine TT_icmp_ne hK (tgt := 237) (irm (by omega) (by omega)) (by decide) dX12_wake_205 (by decide) (fun hb205_195 => ?_) (fun hb205_195 => ?_)
                · refine TT_vret hK hQ ?_ dX12_wake_237
                  have e196_73_32 : (setO (setO g168_189 85 (fup (h 85) z168_189 0)) 93 (fup (h 93) (10 * y + x + 11) 1)) 73 32 = (g140_187 73) 32 := congrFun ((sOf_ne _ _ (by decide)).trans ((sOf_ne _ _ (by decide)).trans (hG_189.1 73 (by decide)))) 32
                  have e197_73_34 : (setO (setO g168_189 85 (fup (h 85) z168_189 0)) 93 (fup (h 93) (10 * y + x + 11) 1)) 73 34 = (g140_187 73) 34 := congrFun ((sOf_ne _ _ (by decide)).trans ((sOf_ne _ _ (by decide)).trans (hG_189.1 73 (by decide)))) 34
                  have e198_73_36 : (setO (setO g168_189 85 (fup (h 85) z168_189 0)) 93 (fup (h 93) (10 * y + x + 11) 1)) 73 36 = (g140_187 73) 36 := congrFun ((sOf_ne _ _ (by decide)).trans ((sOf_ne _ _ (by decide)).trans (hG_189.1 73 (by decide)))) 36
                  have e199_96 : (setO (setO g168_189 85 (fup (h 85) z168_189 0)) 93 (fup (h 93) (10 * y + x + 11) 1)) 96 = g140_187 96 := (sOf_ne _ _ (by decide)).trans ((sOf_ne _ _ (by decide)).trans (hG_189.1 96 (by decide)))
                  have e200_93 : (setO (setO g168_189 85 (fup (h 85) z168_189 0)) 93 (fup (h 93) (10 * y + x + 11) 1)) 93 = fup (h 93) (10 * y + x + 11) 1 := sOf_eq _ _ _
                  exact ⟨⟨hT_193, hF_193⟩, rfl, (by rewrite [e196_73_32]; omega), (by rewrite [e197_73_34, e198_73_36, e199_96]; omega), (by rewrite [e200_93]; intro w e h1 h2 h3 h4 h5; exact ZC_up ⟨hx.1, h1⟩ h2 ⟨hy.1, h3⟩ h4 h5 (by decide))⟩
                · refine TT_aload_n hK rfl 2 rfl dX12_wake_208 ?_
                  refine gf_X12_47 hK (by decide) rfl (q := 84) rfl rfl dX12_wake_209 ?_
                  refine TT_aload_n hK rfl 2 rfl dX12_wake_212 ?_
                  refine TT_iload_n hK rfl 3 rfl dX12_wake_213 ?_
                  refine TT_iload_n hK rfl 4 rfl dX12_wake_214 ?_
                  refine iv_X12_249 hK (s_X12_cell_73 x y (setO (setO g168_189 85 (fup (h 85) z168_189 0)) 93 (fup (h 93) (10 * y + x + 11) 1)) hT_193 (by first | omega | (simp [up, setR] <;> omega)) (by first | omega | (simp [up, setR] <;> omega))) (by decide) rfl ⟨by decide, by decide⟩ (by decide) rfl rfl (Nat.le_of_ble_eq_true rfl) ⟨by decide, by decide⟩ dX12_wake_215 ?_
                  intro r9 g215_201 hp9
                  obtain ⟨⟨hT_201, hG_201⟩, z215_201, hr9, hz_201, p1_201⟩ := hp9
                  rw [hr9]
                  have hF_201 : FRM [73, 84, 85, 93, 96, 97, 98] [28, 32, 33, 34, 36, 39] h g215_201 := FRM_tr hF_193 hG_201 (by decide) (by decide)
                  rw [show (setO (setO g168_189 85 (fup (h 85) z168_189 0)) 93 (fup (h 93) (10 * y + x + 11) 1)) 73 26 = (h 73) 26 from (congrFun ((sOf_ne _ _ (by decide)).trans ((sOf_ne _ _ (by decide)).trans (hG_189.1 73 (by decide)))) 26).trans (((hG_187.2 26 (by decide))).trans ((congrFun (hG_10.1 73 (by decide)) 26).trans ((congrFun (hG_7.1 73 (by decide)) 26).trans ((congrFun (hG_4.1 73 (by decide)) 26).trans (congrFun (hG_1.1 73 (by decide)) 26)))))] at p1_201
                  show TT K ly 0 0 218 [(8, vI (1 - z140_187)), (9, vI z140_187), (0, vR 73), (1, vI x), (2, vI y), (3, vI (10 * y + x + 11)), (4, vI a), (5, vI b), (6, vI t9), (7, vI cx)] [vI z215_201, vR 84] g215_201
                  refine TT_aload_n hK rfl 2 rfl dX12_wake_218 ?_
                  refine gf_X12_47 hK (by decide) rfl (q := 84) rfl rfl dX12_wake_219 ?_
                  refine TT_aload_n hK rfl 2 rfl dX12_wake_222 ?_
                  refine TT_iload_n hK rfl 3 rfl dX12_wake_223 ?_
                  refine TT_iload_n hK rfl 4 rfl dX12_wake_224 ?_
                  refine iv_X12_249 hK (s_X12_cell_73 x y g215_201 hT_201 (by first | omega | (simp [up, setR] <;> omega)) (by first | omega | (simp [up, setR] <;> omega))) (by decide) rfl ⟨by decide, by decide⟩ (by decide) rfl rfl (Nat.le_of_ble_eq_true rfl) ⟨by decide, by decide⟩ dX12_wake_225 ?_
                  intro r9 g225_202 hp9
                  obtain ⟨⟨hT_202, hG_202⟩, z225_202, hr9, hz_202, p1_202⟩ := hp9
                  rw [hr9]
                  have hF_202 : FRM [73, 84, 85, 93, 96, 97, 98] [28, 32, 33, 34, 36, 39] h g225_202 := FRM_tr hF_201 hG_202 (by decide) (by decide)
                  rw [show g215_201 73 26 = (h 73) 26 from (congrFun (hG_201.1 73 (by decide)) 26).trans ((congrFun ((sOf_ne _ _ (by decide)).trans ((sOf_ne _ _ (by decide)).trans (hG_189.1 73 (by decide)))) 26).trans (((hG_187.2 26 (by decide))).trans ((congrFun (hG_10.1 73 (by decide)) 26).trans ((congrFun (hG_7.1 73 (by decide)) 26).trans ((congrFun (hG_4.1 73 (by decide)) 26).trans (congrFun (hG_1.1 73 (by decide)) 26))))))] at p1_202
                  show TT K ly 0 0 228 [(8, vI (1 - z140_187)), (9, vI z140_187), (0, vR 73), (1, vI x), (2, vI y), (3, vI (10 * y + x + 11)), (4, vI a), (5, vI b), (6, vI t9), (7, vI cx)] [vI z225_202, vR 84, vI z215_201, vR 84] g225_202
                  refine TT_iald hK (o := 84) (n := 1280) (by decide) rfl (by first | omega | (simp [up, setR] <;> omega)) (by first | omega | (simp [up, setR] <;> omega)) (v := (h 84) z225_202) (rd_ (((hG_202.1 84 (by decide))).trans (((hG_201.1 84 (by decide))).trans ((sOf_ne _ _ (by decide)).trans ((sOf_ne _ _ (by decide)).trans (((hG_189.1 84 (by decide))).trans (((hG_187.1 84 (by decide))).trans (((hG_10.1 84 (by decide))).trans (((hG_7.1 84 (by decide))).trans (((hG_4.1 84 (by decide))).trans (hG_1.1 84 (by decide))))))))))) rfl) dX12_wake_228 ?_
                  have r203 := ty_84 (i := z225_202) (v := (h 84) z225_202) hT_202 (rd_ (((hG_202.1 84 (by decide))).trans (((hG_201.1 84 (by decide))).trans ((sOf_ne _ _ (by decide)).trans ((sOf_ne _ _ (by decide)).trans (((hG_189.1 84 (by decide))).trans (((hG_187.1 84 (by decide))).trans (((hG_10.1 84 (by decide))).trans (((hG_7.1 84 (by decide))).trans (((hG_4.1 84 (by decide))).trans (hG_1.1 84 (by decide))))))))))) rfl) (by omega) (by omega)
                  refine TT_iconst hK dX12_wake_229 ?_
                  refine TT_aload_n hK rfl 2 rfl dX12_wake_230 ?_
                  refine gf_X12_252 hK (by decide) rfl (v := (h 73) 27) ((congrFun (hG_202.1 73 (by decide)) 27).trans ((congrFun (hG_201.1 73 (by decide)) 27).trans ((congrFun ((sOf_ne _ _ (by decide)).trans ((sOf_ne _ _ (by decide)).trans (hG_189.1 73 (by decide)))) 27).trans (((hG_187.2 27 (by decide))).trans ((congrFun (hG_10.1 73 (by decide)) 27).trans ((congrFun (hG_7.1 73 (by decide)) 27).trans ((congrFun (hG_4.1 73 (by decide)) 27).trans (congrFun (hG_1.1 73 (by decide)) 27)))))))) dX12_wake_231 ?_
                  have r204 := ty_73_27 (v := (h 73) 27) hT_202 ((congrFun (hG_202.1 73 (by decide)) 27).trans ((congrFun (hG_201.1 73 (by decide)) 27).trans ((congrFun ((sOf_ne _ _ (by decide)).trans ((sOf_ne _ _ (by decide)).trans (hG_189.1 73 (by decide)))) 27).trans (((hG_187.2 27 (by decide))).trans ((congrFun (hG_10.1 73 (by decide)) 27).trans ((congrFun (hG_7.1 73 (by decide)) 27).trans ((congrFun (hG_4.1 73 (by decide)) 27).trans (congrFun (hG_1.1 73 (by decide)) 27))))))))
                  refine TT_ishl_a hK dX12_wake_234 (fun x234_205 hx205 => ?_)
                  refine TT_ior hK dX12_wake_235 ?_
                  refine TT_w32 (fun x236_206 hx206 => ?_)
                  refine TT_iast hK (o := 84) (n := 1280) (by decide) rfl (by omega) (by omega) dX12_wake_236 ?_
                  refine TT_hp (h' := setO g225_202 84 (fup (h 84) z215_201 x236_206)) (up_can (((hG_202.1 84 (by decide))).trans (((hG_201.1 84 (by decide))).trans ((sOf_ne _ _ (by decide)).trans ((sOf_ne _ _ (by decide)).trans (((hG_189.1 84 (by decide))).trans (((hG_187.1 84 (by decide))).trans (((hG_10.1 84 (by decide))).trans (((hG_7.1 84 (by decide))).trans (((hG_4.1 84 (by decide))).trans (hG_1.1 84 (by decide))))))))))) rfl rfl) ?_
                  have hT_207 : TY (setO g225_202 84 (fup (h 84) z215_201 x236_206)) := tu_84 hT_202 (show up g225_202 84 z215_201 x236_206 = (setO g225_202 84 (fup (h 84) z215_201 x236_206)) from up_can (((hG_202.1 84 (by decide))).trans (((hG_201.1 84 (by decide))).trans ((sOf_ne _ _ (by decide)).trans ((sOf_ne _ _ (by decide)).trans (((hG_189.1 84 (by decide))).trans (((hG_187.1 84 (by decide))).trans (((hG_10.1 84 (by decide))).trans (((hG_7.1 84 (by decide))).trans (((hG_4.1 84 (by decide))).trans (hG_1.1 84 (by decide))))))))))) rfl rfl) (by omega)
                  have hF_207 : FRM [73, 84, 85, 93, 96, 97, 98] [28, 32, 33, 34, 36, 39] h (setO g225_202 84 (fup (h 84) z215_201 x236_206)) := FRM_up (show up g225_202 84 z215_201 x236_206 = (setO g225_202 84 (fup (h 84) z215_201 x236_206)) from up_can (((hG_202.1 84 (by decide))).trans (((hG_201.1 84 (by decide))).trans ((sOf_ne _ _ (by decide)).trans ((sOf_ne _ _ (by decide)).trans (((hG_189.1 84 (by decide))).trans (((hG_187.1 84 (by decide))).trans (((hG_10.1 84 (by decide))).trans (((hG_7.1 84 (by decide))).trans (((hG_4.1 84 (by decide))).trans (hG_1.1 84 (by decide))))))))))) rfl rfl) hF_202 (by decide) (by decide)
                  refine TT_vret hK hQ ?_ dX12_wake_237
                  have e208_73_32 : (setO g225_202 84 (fup (h 84) z215_201 x236_206)) 73 32 = (g140_187 73) 32 := (congrFun ((sOf_ne _ _ (by decide)).trans (hG_202.1 73 (by decide))) 32).trans ((congrFun (hG_201.1 73 (by decide)) 32).trans (congrFun ((sOf_ne _ _ (by decide)).trans ((sOf_ne _ _ (by decide)).trans (hG_189.1 73 (by decide)))) 32))
                  have e209_73_34 : (setO g225_202 84 (fup (h 84) z215_201 x236_206)) 73 34 = (g140_187 73) 34 := (congrFun ((sOf_ne _ _ (by decide)).trans (hG_202.1 73 (by decide))) 34).trans ((congrFun (hG_201.1 73 (by decide)) 34).trans (congrFun ((sOf_ne _ _ (by decide)).trans ((sOf_ne _ _ (by decide)).trans (hG_189.1 73 (by decide)))) 34))
                  have e210_73_36 : (setO g225_202 84 (fup (h 84) z215_201 x236_206)) 73 36 = (g140_187 73) 36 := (congrFun ((sOf_ne _ _ (by decide)).trans (hG_202.1 73 (by decide))) 36).trans ((congrFun (hG_201.1 73 (by decide)) 36).trans (congrFun ((sOf_ne _ _ (by decide)).trans ((sOf_ne _ _ (by decide)).trans (hG_189.1 73 (by decide)))) 36))
                  have e211_96 : (setO g225_202 84 (fup (h 84) z215_201 x236_206)) 96 = g140_187 96 := (sOf_ne _ _ (by decide)).trans (((hG_202.1 96 (by decide))).trans (((hG_201.1 96 (by decide))).trans ((sOf_ne _ _ (by decide)).trans ((sOf_ne _ _ (by decide)).trans (hG_189.1 96 (by decide))))))
                  have e212_93 : (setO g225_202 84 (fup (h 84) z215_201 x236_206)) 93 = fup (h 93) (10 * y + x + 11) 1 := (sOf_ne _ _ (by decide)).trans (((hG_202.1 93 (by decide))).trans (((hG_201.1 93 (by decide))).trans (sOf_eq _ _ _)))
                  exact ⟨⟨hT_207, hF_207⟩, rfl, (by rewrite [e208_73_32]; omega), (by rewrite [e209_73_34, e210_73_36, e211_96]; omega), (by rewrite [e212_93]; intro w e h1 h2 h3 h4 h5; exact ZC_up ⟨hx.1, h1⟩ h2 ⟨hy.1, h3⟩ h4 h5 (by decide))⟩
              · exfalso; omega
            · refine TT_iconst hK dX12_wake_177 ?_
              refine TT_goto hK (tgt := 182) dX12_wake_178 (by decide) ?_
              refine TT_zast hK (o := 85) (n := 1280) (by decide) rfl (by omega) (by omega) (by first | decide | omega) dX12_wake_182 ?_
              refine TT_hp (h' := setO g168_189 85 (fup (h 85) z168_189 1)) (up_can (((hG_189.1 85 (by decide))).trans (((hG_187.1 85 (by decide))).trans (((hG_10.1 85 (by decide))).trans (((hG_7.1 85 (by decide))).trans (((hG_4.1 85 (by decide))).trans (hG_1.1 85 (by decide))))))) rfl rfl) ?_
              have hT_213 : TY (setO g168_189 85 (fup (h 85) z168_189 1)) := tu_85 hT_189 (show up g168_189 85 z168_189 1 = (setO g168_189 85 (fup (h 85) z168_189 1)) from up_can (((hG_189.1 85 (by decide))).trans (((hG_187.1 85 (by decide))).trans (((hG_10.1 85 (by decide))).trans (((hG_7.1 85 (by decide))).trans (((hG_4.1 85 (by decide))).trans (hG_1.1 85 (by decide))))))) rfl rfl) (by omega)
              have hF_213 : FRM [73, 84, 85, 93, 96, 97, 98] [28, 32, 33, 34, 36, 39] h (setO g168_189 85 (fup (h 85) z168_189 1)) := FRM_up (show up g168_189 85 z168_189 1 = (setO g168_189 85 (fup (h 85) z168_189 1)) from up_can (((hG_189.1 85 (by decide))).trans (((hG_187.1 85 (by decide))).trans (((hG_10.1 85 (by decide))).trans (((hG_7.1 85 (by decide))).trans (((hG_4.1 85 (by decide))).trans (hG_1.1 85 (by decide))))))) rfl rfl) hF_189 (by decide) (by decide)
              refine TT_aload_n hK rfl 2 rfl dX12_wake_183 ?_
              refine gf_X12_75 hK (by decide) rfl (q := 93) rfl rfl dX12_wake_184 ?_
              refine TT_iload_n hK rfl 5 rfl dX12_wake_187 ?_
              refine TT_iload hK 0 rfl dX12_wake_188 ?_
              refine TT_iconst hK dX12_wake_190 ?_
              refine TT_icmp_ne hK (tgt := 198) (irm (by omega) (by omega)) (by decide) dX12_wake_191 (by decide) (fun hb191_214 => ?_) (fun hb191_214 => ?_)
              · exfalso; omega
              · refine TT_iconst hK dX12_wake_194 ?_
                refine TT_goto hK (tgt := 199) dX12_wake_195 (by decide) ?_
                refine TT_iast hK (o := 93) (n := 100) (by decide) rfl (by omega) (by omega) dX12_wake_199 ?_
                refine TT_hp (h' := setO (setO g168_189 85 (fup (h 85) z168_189 1)) 93 (fup (h 93) (10 * y + x + 11) (-1))) (up_can ((sOf_ne _ _ (by decide)).trans (((hG_189.1 93 (by decide))).trans (((hG_187.1 93 (by decide))).trans (((hG_10.1 93 (by decide))).trans (((hG_7.1 93 (by decide))).trans (((hG_4.1 93 (by decide))).trans (hG_1.1 93 (by decide)))))))) rfl rfl) ?_
                have hT_215 : TY (setO (setO g168_189 85 (fup (h 85) z168_189 1)) 93 (fup (h 93) (10 * y + x + 11) (-1))) := tu_93 hT_213 (show up (setO g168_189 85 (fup (h 85) z168_189 1)) 93 (10 * y + x + 11) (-1) = (setO (setO g168_189 85 (fup (h 85) z168_189 1)) 93 (fup (h 93) (10 * y + x + 11) (-1))) from up_can ((sOf_ne _ _ (by decide)).trans (((hG_189.1 93 (by decide))).trans (((hG_187.1 93 (by decide))).trans (((hG_10.1 93 (by decide))).trans (((hG_7.1 93 (by decide))).trans (((hG_4.1 93 (by decide))).trans (hG_1.1 93 (by decide)))))))) rfl rfl) (by omega)
                have hF_215 : FRM [73, 84, 85, 93, 96, 97, 98] [28, 32, 33, 34, 36, 39] h (setO (setO g168_189 85 (fup (h 85) z168_189 1)) 93 (fup (h 93) (10 * y + x + 11) (-1))) := FRM_up (show up (setO g168_189 85 (fup (h 85) z168_189 1)) 93 (10 * y + x + 11) (-1) = (setO (setO g168_189 85 (fup (h 85) z168_189 1)) 93 (fup (h 93) (10 * y + x + 11) (-1))) from up_can ((sOf_ne _ _ (by decide)).trans (((hG_189.1 93 (by decide))).trans (((hG_187.1 93 (by decide))).trans (((hG_10.1 93 (by decide))).trans (((hG_7.1 93 (by decide))).trans (((hG_4.1 93 (by decide))).trans (hG_1.1 93 (by decide)))))))) rfl rfl) hF_213 (by decide) (by decide)
                refine TT_aload_n hK rfl 2 rfl dX12_wake_200 ?_
                refine gf_X12_163 hK (by decide) rfl (v := (h 73) 29) ((congrFun ((sOf_ne _ _ (by decide)).trans ((sOf_ne _ _ (by decide)).trans (hG_189.1 73 (by decide)))) 29).trans (((hG_187.2 29 (by decide))).trans ((congrFun (hG_10.1 73 (by decide)) 29).trans ((congrFun (hG_7.1 73 (by decide)) 29).trans ((congrFun (hG_4.1 73 (by decide)) 29).trans (congrFun (hG_1.1 73 (by decide)) 29)))))) dX12_wake_201 ?_
                have r216 := ty_73_29 (v := (h 73) 29) hT_215 ((congrFun ((sOf_ne _ _ (by decide)).trans ((sOf_ne _ _ (by decide)).trans (hG_189.1 73 (by decide)))) 29).trans (((hG_187.2 29 (by decide))).trans ((congrFun (hG_10.1 73 (by decide)) 29).trans ((congrFun (hG_7.1 73 (by decide)) 29).trans ((congrFun (hG_4.1 73 (by decide)) 29).trans (congrFun (hG_1.1 73 (by decide)) 29))))))
                refine TT_iconst hK dX12_wake_204 ?_
                refine TT_icmp_ne hK (tgt := 237) (irm (by omega) (by omega)) (by decide) dX12_wake_205 (by decide) (fun hb205_217 => ?_) (fun hb205_217 => ?_)
                · refine TT_vret hK hQ ?_ dX12_wake_237
                  have e218_73_32 : (setO (setO g168_189 85 (fup (h 85) z168_189 1)) 93 (fup (h 93) (10 * y + x + 11) (-1))) 73 32 = (g140_187 73) 32 := congrFun ((sOf_ne _ _ (by decide)).trans ((sOf_ne _ _ (by decide)).trans (hG_189.1 73 (by decide)))) 32
                  have e219_73_34 : (setO (setO g168_189 85 (fup (h 85) z168_189 1)) 93 (fup (h 93) (10 * y + x + 11) (-1))) 73 34 = (g140_187 73) 34 := congrFun ((sOf_ne _ _ (by decide)).trans ((sOf_ne _ _ (by decide)).trans (hG_189.1 73 (by decide)))) 34
                  have e220_73_36 : (setO (setO g168_189 85 (fup (h 85) z168_189 1)) 93 (fup (h 93) (10 * y + x + 11) (-1))) 73 36 = (g140_187 73) 36 := congrFun ((sOf_ne _ _ (by decide)).trans ((sOf_ne _ _ (by decide)).trans (hG_189.1 73 (by decide)))) 36
                  have e221_96 : (setO (setO g168_189 85 (fup (h 85) z168_189 1)) 93 (fup (h 93) (10 * y + x + 11) (-1))) 96 = g140_187 96 := (sOf_ne _ _ (by decide)).trans ((sOf_ne _ _ (by decide)).trans (hG_189.1 96 (by decide)))
                  have e222_93 : (setO (setO g168_189 85 (fup (h 85) z168_189 1)) 93 (fup (h 93) (10 * y + x + 11) (-1))) 93 = fup (h 93) (10 * y + x + 11) (-1) := sOf_eq _ _ _
                  exact ⟨⟨hT_215, hF_215⟩, rfl, (by rewrite [e218_73_32]; omega), (by rewrite [e219_73_34, e220_73_36, e221_96]; omega), (by rewrite [e222_93]; intro w e h1 h2 h3 h4 h5; exact ZC_up ⟨hx.1, h1⟩ h2 ⟨hy.1, h3⟩ h4 h5 (by decide))⟩
                · refine TT_aload_n hK rfl 2 rfl dX12_wake_208 ?_
                  refine gf_X12_47 hK (by decide) rfl (q := 84) rfl rfl dX12_wake_209 ?_
                  refine TT_aload_n hK rfl 2 rfl dX12_wake_212 ?_
                  refine TT_iload_n hK rfl 3 rfl dX12_wake_213 ?_
                  refine TT_iload_n hK rfl 4 rfl dX12_wake_214 ?_
                  refine iv_X12_249 hK (s_X12_cell_73 x y (setO (setO g168_189 85 (fup (h 85) z168_189 1)) 93 (fup (h 93) (10 * y + x + 11) (-1))) hT_215 (by first | omega | (simp [up, setR] <;> omega)) (by first | omega | (simp [up, setR] <;> omega))) (by decide) rfl ⟨by decide, by decide⟩ (by decide) rfl rfl (Nat.le_of_ble_eq_true rfl) ⟨by decide, by decide⟩ dX12_wake_215 ?_
                  intro r9 g215_223 hp9
                  obtain ⟨⟨hT_223, hG_223⟩, z215_223, hr9, hz_223, p1_223⟩ := hp9
                  rw [hr9]
                  have hF_223 : FRM [73, 84, 85, 93, 96, 97, 98] [28, 32, 33, 34, 36, 39] h g215_223 := FRM_tr hF_215 hG_223 (by decide) (by decide)
                  rw [show (setO (setO g168_189 85 (fup (h 85) z168_189 1)) 93 (fup (h 93) (10 * y + x + 11) (-1))) 73 26 = (h 73) 26 from (congrFun ((sOf_ne _ _ (by decide)).trans ((sOf_ne _ _ (by decide)).trans (hG_189.1 73 (by decide)))) 26).trans (((hG_187.2 26 (by decide))).trans ((congrFun (hG_10.1 73 (by decide)) 26).trans ((congrFun (hG_7.1 73 (by decide)) 26).trans ((congrFun (hG_4.1 73 (by decide)) 26).trans (congrFun (hG_1.1 73 (by decide)) 26)))))] at p1_223
                  show TT K ly 0 0 218 [(8, vI (1 - z140_187)), (9, vI z140_187), (0, vR 73), (1, vI x), (2, vI y), (3, vI (10 * y + x + 11)), (4, vI a), (5, vI b), (6, vI t9), (7, vI cx)] [vI z215_223, vR 84] g215_223
                  refine TT_aload_n hK rfl 2 rfl dX12_wake_218 ?_
                  refine gf_X12_47 hK (by decide) rfl (q := 84) rfl rfl dX12_wake_219 ?_
                  refine TT_aload_n hK rfl 2 rfl dX12_wake_222 ?_
                  refine TT_iload_n hK rfl 3 rfl dX12_wake_223 ?_
                  refine TT_iload_n hK rfl 4 rfl dX12_wake_224 ?_
                  refine iv_X12_249 hK (s_X12_cell_73 x y g215_223 hT_223 (by first | omega | (simp [up, setR] <;> omega)) (by first | omega | (simp [up, setR] <;> omega))) (by decide) rfl ⟨by decide, by decide⟩ (by decide) rfl rfl (Nat.le_of_ble_eq_true rfl) ⟨by decide, by decide⟩ dX12_wake_225 ?_
                  intro r9 g225_224 hp9
                  obtain ⟨⟨hT_224, hG_224⟩, z225_224, hr9, hz_224, p1_224⟩ := hp9
                  rw [hr9]
                  have hF_224 : FRM [73, 84, 85, 93, 96, 97, 98] [28, 32, 33, 34, 36, 39] h g225_224 := FRM_tr hF_223 hG_224 (by decide) (by decide)
                  rw [show g215_223 73 26 = (h 73) 26 from (congrFun (hG_223.1 73 (by decide)) 26).trans ((congrFun ((sOf_ne _ _ (by decide)).trans ((sOf_ne _ _ (by decide)).trans (hG_189.1 73 (by decide)))) 26).trans (((hG_187.2 26 (by decide))).trans ((congrFun (hG_10.1 73 (by decide)) 26).trans ((congrFun (hG_7.1 73 (by decide)) 26).trans ((congrFun (hG_4.1 73 (by decide)) 26).trans (congrFun (hG_1.1 73 (by decide)) 26))))))] at p1_224
                  show TT K ly 0 0 228 [(8, vI (1 - z140_187)), (9, vI z140_187), (0, vR 73), (1, vI x), (2, vI y), (3, vI (10 * y + x + 11)), (4, vI a), (5, vI b), (6, vI t9), (7, vI cx)] [vI z225_224, vR 84, vI z215_223, vR 84] g225_224
                  refine TT_iald hK (o := 84) (n := 1280) (by decide) rfl (by first | omega | (simp [up, setR] <;> omega)) (by first | omega | (simp [up, setR] <;> omega)) (v := (h 84) z225_224) (rd_ (((hG_224.1 84 (by decide))).trans (((hG_223.1 84 (by decide))).trans ((sOf_ne _ _ (by decide)).trans ((sOf_ne _ _ (by decide)).trans (((hG_189.1 84 (by decide))).trans (((hG_187.1 84 (by decide))).trans (((hG_10.1 84 (by decide))).trans (((hG_7.1 84 (by decide))).trans (((hG_4.1 84 (by decide))).trans (hG_1.1 84 (by decide))))))))))) rfl) dX12_wake_228 ?_
                  have r225 := ty_84 (i := z225_224) (v := (h 84) z225_224) hT_224 (rd_ (((hG_224.1 84 (by decide))).trans (((hG_223.1 84 (by decide))).trans ((sOf_ne _ _ (by decide)).trans ((sOf_ne _ _ (by decide)).trans (((hG_189.1 84 (by decide))).trans (((hG_187.1 84 (by decide))).trans (((hG_10.1 84 (by decide))).trans (((hG_7.1 84 (by decide))).trans (((hG_4.1 84 (by decide))).trans (hG_1.1 84 (by decide))))))))))) rfl) (by omega) (by omega)
                  refine TT_iconst hK dX12_wake_229 ?_
                  refine TT_aload_n hK rfl 2 rfl dX12_wake_230 ?_
                  refine gf_X12_252 hK (by decide) rfl (v := (h 73) 27) ((congrFun (hG_224.1 73 (by decide)) 27).trans ((congrFun (hG_223.1 73 (by decide)) 27).trans ((congrFun ((sOf_ne _ _ (by decide)).trans ((sOf_ne _ _ (by decide)).trans (hG_189.1 73 (by decide)))) 27).trans (((hG_187.2 27 (by decide))).trans ((congrFun (hG_10.1 73 (by decide)) 27).trans ((congrFun (hG_7.1 73 (by decide)) 27).trans ((congrFun (hG_4.1 73 (by decide)) 27).trans (congrFun (hG_1.1 73 (by decide)) 27)))))))) dX12_wake_231 ?_
                  have r226 := ty_73_27 (v := (h 73) 27) hT_224 ((congrFun (hG_224.1 73 (by decide)) 27).trans ((congrFun (hG_223.1 73 (by decide)) 27).trans ((congrFun ((sOf_ne _ _ (by decide)).trans ((sOf_ne _ _ (by decide)).trans (hG_189.1 73 (by decide)))) 27).trans (((hG_187.2 27 (by decide))).trans ((congrFun (hG_10.1 73 (by decide)) 27).trans ((congrFun (hG_7.1 73 (by decide)) 27).trans ((congrFun (hG_4.1 73 (by decide)) 27).trans (congrFun (hG_1.1 73 (by decide)) 27))))))))
                  refine TT_ishl_a hK dX12_wake_234 (fun x234_227 hx227 => ?_)
                  refine TT_ior hK dX12_wake_235 ?_
                  refine TT_w32 (fun x236_228 hx228 => ?_)
                  refine TT_iast hK (o := 84) (n := 1280) (by decide) rfl (by omega) (by omega) dX12_wake_236 ?_
                  refine TT_hp (h' := setO g225_224 84 (fup (h 84) z215_223 x236_228)) (up_can (((hG_224.1 84 (by decide))).trans (((hG_223.1 84 (by decide))).trans ((sOf_ne _ _ (by decide)).trans ((sOf_ne _ _ (by decide)).trans (((hG_189.1 84 (by decide))).trans (((hG_187.1 84 (by decide))).trans (((hG_10.1 84 (by decide))).trans (((hG_7.1 84 (by decide))).trans (((hG_4.1 84 (by decide))).trans (hG_1.1 84 (by decide))))))))))) rfl rfl) ?_
                  have hT_229 : TY (setO g225_224 84 (fup (h 84) z215_223 x236_228)) := tu_84 hT_224 (show up g225_224 84 z215_223 x236_228 = (setO g225_224 84 (fup (h 84) z215_223 x236_228)) from up_can (((hG_224.1 84 (by decide))).trans (((hG_223.1 84 (by decide))).trans ((sOf_ne _ _ (by decide)).trans ((sOf_ne _ _ (by decide)).trans (((hG_189.1 84 (by decide))).trans (((hG_187.1 84 (by decide))).trans (((hG_10.1 84 (by decide))).trans (((hG_7.1 84 (by decide))).trans (((hG_4.1 84 (by decide))).trans (hG_1.1 84 (by decide))))))))))) rfl rfl) (by omega)
                  have hF_229 : FRM [73, 84, 85, 93, 96, 97, 98] [28, 32, 33, 34, 36, 39] h (setO g225_224 84 (fup (h 84) z215_223 x236_228)) := FRM_up (show up g225_224 84 z215_223 x236_228 = (setO g225_224 84 (fup (h 84) z215_223 x236_228)) from up_can (((hG_224.1 84 (by decide))).trans (((hG_223.1 84 (by decide))).trans ((sOf_ne _ _ (by decide)).trans ((sOf_ne _ _ (by decide)).trans (((hG_189.1 84 (by decide))).trans (((hG_187.1 84 (by decide))).trans (((hG_10.1 84 (by decide))).trans (((hG_7.1 84 (by decide))).trans (((hG_4.1 84 (by decide))).trans (hG_1.1 84 (by decide))))))))))) rfl rfl) hF_224 (by decide) (by decide)
                  refine TT_vret hK hQ ?_ dX12_wake_237
                  have e230_73_32 : (setO g225_224 84 (fup (h 84) z215_223 x236_228)) 73 32 = (g140_187 73) 32 := (congrFun ((sOf_ne _ _ (by decide)).trans (hG_224.1 73 (by decide))) 32).trans ((congrFun (hG_223.1 73 (by decide)) 32).trans (congrFun ((sOf_ne _ _ (by decide)).trans ((sOf_ne _ _ (by decide)).trans (hG_189.1 73 (by decide)))) 32))
                  have e231_73_34 : (setO g225_224 84 (fup (h 84) z215_223 x236_228)) 73 34 = (g140_187 73) 34 := (congrFun ((sOf_ne _ _ (by decide)).trans (hG_224.1 73 (by decide))) 34).trans ((congrFun (hG_223.1 73 (by decide)) 34).trans (congrFun ((sOf_ne _ _ (by decide)).trans ((sOf_ne _ _ (by decide)).trans (hG_189.1 73 (by decide)))) 34))
                  have e232_73_36 : (setO g225_224 84 (fup (h 84) z215_223 x236_228)) 73 36 = (g140_187 73) 36 := (congrFun ((sOf_ne _ _ (by decide)).trans (hG_224.1 73 (by decide))) 36).trans ((congrFun (hG_223.1 73 (by decide)) 36).trans (congrFun ((sOf_ne _ _ (by decide)).trans ((sOf_ne _ _ (by decide)).trans (hG_189.1 73 (by decide)))) 36))
                  have e233_96 : (setO g225_224 84 (fup (h 84) z215_223 x236_228)) 96 = g140_187 96 := (sOf_ne _ _ (by decide)).trans (((hG_224.1 96 (by decide))).trans (((hG_223.1 96 (by decide))).trans ((sOf_ne _ _ (by decide)).trans ((sOf_ne _ _ (by decide)).trans (hG_189.1 96 (by decide))))))
                  have e234_93 : (setO g225_224 84 (fup (h 84) z215_223 x236_228)) 93 = fup (h 93) (10 * y + x + 11) (-1) := (sOf_ne _ _ (by decide)).trans (((hG_224.1 93 (by decide))).trans (((hG_223.1 93 (by decide))).trans (sOf_eq _ _ _)))
                  exact ⟨⟨hT_229, hF_229⟩, rfl, (by rewrite [e230_73_32]; omega), (by rewrite [e231_73_34, e232_73_36, e233_96]; omega), (by rewrite [e234_93]; intro w e h1 h2 h3 h4 h5; exact ZC_up ⟨hx.1, h1⟩ h2 ⟨hy.1, h3⟩ h4 h5 (by decide))⟩
    refine TT_bipush hK (by decide) dX12_wake_74 ?_
    refine TT_iload hK 6 rfl dX12_wake_76 ?_
    refine TT_if_eq hK (tgt := 92) (irm (by omega) (by omega)) dX12_wake_78 (by decide) (fun hb78_235 => ?_) (fun hb78_235 => ?_)
    · refine TT_iconst hK dX12_wake_92 ?_
      refine TT_iload hK 4 rfl dX12_wake_93 ?_
      refine TT_imul hK dX12_wake_95 ?_
      refine TT_iload hK 5 rfl dX12_wake_96 ?_
      refine TT_iadd hK dX12_wake_98 ?_
      refine TT_iadd hK dX12_wake_99 ?_
      refine TT_istore hK (lv' := [(7, vI (9 + ((3 * a) + b))), (0, vR 73), (1, vI x), (2, vI y), (3, vI (10 * y + x + 11)), (4, vI a), (5, vI b), (6, vI t9)]) (by decide) rfl dX12_wake_100 ?_
      refine TT_sub [1, 2, 3, 4, 5, 6, 7, 0] rfl ?_
      exact J102_9 (9 + ((3 * a) + b)) (by first | omega | (simp [up, setR] <;> omega))
    · refine TT_bipush hK (by decide) dX12_wake_81 ?_
      refine TT_iload hK 4 rfl dX12_wake_83 ?_
      refine TT_imul hK dX12_wake_85 ?_
      refine TT_iload hK 5 rfl dX12_wake_86 ?_
      refine TT_isub hK dX12_wake_88 ?_
      refine TT_goto hK (tgt := 99) dX12_wake_89 (by decide) ?_
      refine TT_iadd hK dX12_wake_99 ?_
      refine TT_istore hK (lv' := [(7, vI (9 + (((-3) * a) - b))), (0, vR 73), (1, vI x), (2, vI y), (3, vI (10 * y + x + 11)), (4, vI a), (5, vI b), (6, vI t9)]) (by decide) rfl dX12_wake_100 ?_
      refine TT_sub [1, 2, 3, 4, 5, 6, 7, 0] rfl ?_
      exact J102_9 (9 + (((-3) * a) - b)) (by first | omega | (simp [up, setR] <;> omega))
  refine TT_iload hK 1 rfl dX12_wake_52 ?_
  refine TT_if_lt hK (tgt := 67) (irm (by omega) (by omega)) dX12_wake_54 (by decide) (fun hb54_236 => ?_) (fun hb54_236 => ?_)
  · refine TT_iconst hK dX12_wake_67 ?_
    refine TT_goto hK (tgt := 72) dX12_wake_68 (by decide) ?_
    refine TT_istore hK (lv' := [(6, vI 1), (5, vI z47_7), (4, vI z23_4), (3, vI (10 * y + x + 11)), (0, vR 73), (1, vI x), (2, vI y)]) (by decide) rfl dX12_wake_72 ?_
    refine TT_sub [4, 5, 6, 3, 2, 1, 0] rfl ?_
    exact J74_8 z23_4 z47_7 1 (by first | omega | (simp [up, setR] <;> omega)) (by first | omega | (simp [up, setR] <;> omega)) (by first | omega | (simp [up, setR] <;> omega))
  · refine TT_iload hK 1 rfl dX12_wake_57 ?_
    refine TT_if_ne hK (tgt := 71) (irm (by omega) (by omega)) dX12_wake_59 (by decide) (fun hb59_237 => ?_) (fun hb59_237 => ?_)
    · refine TT_iconst hK dX12_wake_71 ?_
      refine TT_istore hK (lv' := [(6, vI 0), (5, vI z47_7), (4, vI z23_4), (3, vI (10 * y + x + 11)), (0, vR 73), (1, vI x), (2, vI y)]) (by decide) rfl dX12_wake_72 ?_
      refine TT_sub [4, 5, 6, 3, 2, 1, 0] rfl ?_
      exact J74_8 z23_4 z47_7 0 (by first | omega | (simp [up, setR] <;> omega)) (by first | omega | (simp [up, setR] <;> omega)) (by first | omega | (simp [up, setR] <;> omega))
    · refine TT_iload hK 0 rfl dX12_wake_62 ?_
      refine TT_if_ge hK (tgt := 71) (irm (by omega) (by omega)) dX12_wake_64 (by decide) (fun hb64_238 => ?_) (fun hb64_238 => ?_)
      · refine TT_iconst hK dX12_wake_71 ?_
        refine TT_istore hK (lv' := [(6, vI 0), (5, vI z47_7), (4, vI z23_4), (3, vI (10 * y + x + 11)), (0, vR 73), (1, vI x), (2, vI y)]) (by decide) rfl dX12_wake_72 ?_
        refine TT_sub [4, 5, 6, 3, 2, 1, 0] rfl ?_
        exact J74_8 z23_4 z47_7 0 (by first | omega | (simp [up, setR] <;> omega)) (by first | omega | (simp [up, setR] <;> omega)) (by first | omega | (simp [up, setR] <;> omega))
      · refine TT_iconst hK dX12_wake_67 ?_
        refine TT_goto hK (tgt := 72) dX12_wake_68 (by decide) ?_
        refine TT_istore hK (lv' := [(6, vI 1), (5, vI z47_7), (4, vI z23_4), (3, vI (10 * y + x + 11)), (0, vR 73), (1, vI x), (2, vI y)]) (by decide) rfl dX12_wake_72 ?_
        refine TT_sub [4, 5, 6, 3, 2, 1, 0] rfl ?_
        exact J74_8 z23_4 z47_7 1 (by first | omega | (simp [up, setR] <;> omega)) (by first | omega | (simp [up, setR] <;> omega)) (by first | omega | (simp [up, setR] <;> omega))

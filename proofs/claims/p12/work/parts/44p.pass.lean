def clrT (t : Int → Int) : Int → Int := fun j => if 0 ≤ j ∧ j < 100 then (0 : Int) else t j
noncomputable def colP (M : Int → Int) (kd pl sort f n : Int) (s : TS_) : TS_ := if sort = 0 then itT (spT M kd pl) f n.toNat s else if sort = 1 then itT (rfnT M pl) f n.toNat s else cnT M kd pl f n s
noncomputable def rowP (M : Int → Int) (kd pl sort n y : Int) : Nat → TS_ → TS_
  | 0, s => s
  | x + 1, s => colP M kd pl sort (10 * y + (x : Int) + 11) n (rowP M kd pl sort n y x s)
noncomputable def strP (M : Int → Int) (kd pl sort w g : Int) : Nat → TS_ → TS_
  | 0, s => s
  | j + 1, s => rowP M kd pl sort (min 4 (g - (j : Int) * 4)) ((j : Int) * 4) w.toNat (strP M kd pl sort w g j s)
noncomputable def passT (M : Int → Int) (kd w g k q : Int) (s : TS_) : TS_ := if (k + 2) % 3 = 2 then (fun z : TS_ => (z.1, clrT z.2.1, z.2.2.1, z.2.2.2)) (strP M kd (q - 1 - (k + 2) / 3) ((k + 2) % 3) w g ((g + 3) / 4).toNat s) else strP M kd (q - 1 - (k + 2) / 3) ((k + 2) % 3) w g ((g + 3) / 4).toNat s
theorem RPQ_cz {a t r c b : Int → Int} {n : Int} {s : TS_} (h : RPQ a t r n c b s) : RPQ a (clrT t) r n c b (s.1, clrT s.2.1, s.2.2.1, s.2.2.2) := ⟨h.1, by rw [h.2.1], h.2.2.1, h.2.2.2⟩
theorem colP_0 {a t r c b a2 t2 r2 c2 b2 M M9 : Int → Int} {n n2 kd pl kd9 pl9 sort f m p m2 : Int} {s : TS_} (h : RPQ a t r n c b s) (h0 : sort = 0) (hp : p = f) (hM : M = M9) (hm : m = m2) (hkd : kd = kd9) (hpl : pl = pl9) (hc : ∀ s : TS_, RPQ a t r n c b s → RPQ a2 t2 r2 n2 c2 b2 (itT (spT M kd pl) p m.toNat s)) : RPQ a2 t2 r2 n2 c2 b2 (colP M9 kd9 pl9 sort f m2 s) := by
  unfold colP
  rw [if_pos h0]
  subst hp hm hkd hpl hM
  exact hc s h
theorem colP_1 {a t r c b a2 t2 r2 c2 b2 M M9 : Int → Int} {n n2 kd9 pl pl9 sort f m p m2 : Int} {s : TS_} (h : RPQ a t r n c b s) (h0 : sort = 1) (hp : p = f) (hM : M = M9) (hm : m = m2) (hkd : (0 : Int) = 0) (hpl : pl = pl9) (hc : ∀ s : TS_, RPQ a t r n c b s → RPQ a2 t2 r2 n2 c2 b2 (itT (rfnT M pl) p m.toNat s)) : RPQ a2 t2 r2 n2 c2 b2 (colP M9 kd9 pl9 sort f m2 s) := by
  unfold colP
  rw [if_neg (by omega), if_pos h0]
  subst hp hm hpl hM
  exact hc s h
theorem colP_2 {a t r c b a2 t2 r2 c2 b2 M M9 : Int → Int} {n n2 kd pl kd9 pl9 sort f m p m2 : Int} {s : TS_} (h : RPQ a t r n c b s) (h0 : sort ≠ 0 ∧ sort ≠ 1) (hp : p = f) (hM : M = M9) (hm : m = m2) (hkd : kd = kd9) (hpl : pl = pl9) (hc : ∀ s : TS_, RPQ a t r n c b s → RPQ a2 t2 r2 n2 c2 b2 (cnT M kd pl p m s)) : RPQ a2 t2 r2 n2 c2 b2 (colP M9 kd9 pl9 sort f m2 s) := by
  unfold colP
  rw [if_neg h0.1, if_neg h0.2]
  subst hp hm hkd hpl hM
  exact hc s h
set_option maxRecDepth 20000 in
theorem s_clear_e (h : Hp_) (hT : TY h)  : Ctr yX4_clearTold cX4_clearTold 2 none (rmd 0) ly ly 0 0 [vR 28] h (fun r h' => (TY h' ∧ FR [32] h h') ∧ r = none ∧ ((h' 32) = clrT (h 32))) := by
  refine Ctr_of (by decide) (Nat.le_of_ble_eq_true rfl) ⟨Nat.le_refl _, Nat.le_refl _⟩ (fun K hK hQ _ => ?_)
  show TT K ly 0 0 0 [(0, vR 28)] [] h
  have hF : FR [32] h h := FR_rf _ _
  refine TT_iconst hK dX4_clearTold_0 ?_
  refine TT_istore_n hK rfl (lv' := [(1, vI 0), (0, vR 28)]) (by decide) rfl dX4_clearTold_1 ?_
  have L2_1 : ∀ (k1 : Nat) (i : Int) (w2_1 : Hp_), TY w2_1 → FR [32] h w2_1 → (0 ≤ i ∧ i ≤ 100) → ((w2_1 32) = fun j : Int => if 0 ≤ j ∧ j < i then (0 : Int) else h 32 j) → ((100 : Int) - i).toNat < k1 → TT K ly 0 0 2 [(0, vR 28), (1, vI i)] [] w2_1 := by
    intro k1
    induction k1 with
    | zero => intro i w2_1 hT2_1 hF2_1 hi hz hk1; exact absurd hk1 (Nat.not_lt_zero _)
    | succ k1 ih1 =>
      intro i w2_1 hT2_1 hF2_1 hi hz hk1
      refine TT_iload_n hK rfl 1 rfl dX4_clearTold_2 ?_
      refine TT_aload_n hK rfl 0 rfl dX4_clearTold_3 ?_
      refine gf_X4_21 hK (by decide) rfl (q := 32) rfl rfl dX4_clearTold_4 ?_
      refine TT_alen hK (o := 32) (t := 13) (n := 100) (v := 100) (by decide) rfl (by decide) rfl dX4_clearTold_7 ?_
      refine TT_icmp_ge hK (tgt := 24) (irm (by omega) (by omega)) (by decide) dX4_clearTold_8 (by decide) (fun hb8_2 => ?_) (fun hb8_2 => ?_)
      · refine TT_vret hK hQ ?_ dX4_clearTold_24
        exact ⟨⟨hT2_1, hF2_1⟩, rfl, (by rw [show i = 100 by omega] at hz; exact hz)⟩
      · refine TT_aload_n hK rfl 0 rfl dX4_clearTold_11 ?_
        refine gf_X4_21 hK (by decide) rfl (q := 32) rfl rfl dX4_clearTold_12 ?_
        refine TT_iload_n hK rfl 1 rfl dX4_clearTold_15 ?_
        refine TT_iconst hK dX4_clearTold_16 ?_
        refine TT_zast hK (o := 32) (n := 100) (by decide) rfl (by omega) (by omega) (by first | decide | omega) dX4_clearTold_17 ?_
        refine TT_hp (h' := setO w2_1 32 (fup (w2_1 32) i 0)) (up_can rfl rfl rfl) ?_
        have hT_3 : TY (setO w2_1 32 (fup (w2_1 32) i 0)) := tu_32 hT2_1 (show up w2_1 32 i 0 = (setO w2_1 32 (fup (w2_1 32) i 0)) from up_can rfl rfl rfl) (by omega)
        have hF_3 : FR [32] h (setO w2_1 32 (fup (w2_1 32) i 0)) := FR_up (show up w2_1 32 i 0 = (setO w2_1 32 (fup (w2_1 32) i 0)) from up_can rfl rfl rfl) hF2_1 (by decide)
        refine TT_iinc hK (v := i + 1) (lv' := [(1, vI (i + 1)), (0, vR 28)]) 1 rfl rfl (by decide) rfl dX4_clearTold_18 ?_
        refine TT_goto hK (tgt := 2) dX4_clearTold_21 (by decide) ?_
        refine TT_sub [1, 0] rfl ?_
        have e4_32 : (setO w2_1 32 (fup (w2_1 32) i 0)) 32 = fup (w2_1 32) i 0 := sOf_eq _ _ _
        exact ih1 (i + 1) (setO w2_1 32 (fup (w2_1 32) i 0)) hT_3 hF_3 (by first | omega | (simp [up, setR] <;> omega)) (by rewrite [e4_32]; funext j; show fup _ i 0 j = if 0 ≤ j ∧ j < i + 1 then (0 : Int) else h 32 j; by_cases q : j = i; (rw [q, fup_eq, if_pos (by omega)]); (rw [fup_ne _ _ q]; refine (congrFun hz j).trans ?_; show (if 0 ≤ j ∧ j < i then (0 : Int) else h 32 j) = _; by_cases m : 0 ≤ j ∧ j < i; (rw [if_pos m, if_pos (by omega)]); (rw [if_neg m, if_neg (by omega)]))) (by first | omega | (simp [up, setR] <;> omega))
  refine TT_sub [1, 0] rfl ?_
  exact L2_1 ((((100 : Int) - 0).toNat) + 1) 0 h hT hF (by first | omega | (simp [up, setR] <;> omega)) (by funext j; show h 32 j = if 0 ≤ j ∧ j < 0 then (0 : Int) else h 32 j; rw [if_neg (by omega)]) (Nat.lt_succ_self _)
set_option maxRecDepth 20000 in
theorem s_runPass_e (k q : Int) (h : Hp_) (hT : TY h) (hk : -2147483648 ≤ k ∧ k ≤ 2147483647) (hq : 0 ≤ q ∧ q ≤ 12) (hM : ∀ q : Int, 0 ≤ q → q < 100 → -4095 ≤ (h 29) q ∧ (h 29) q ≤ 4095) (hwg : (0 ≤ (h 28 6) ∧ (h 28 6) ≤ 8) ∧ 0 ≤ (h 28 7) ∧ (h 28 7) ≤ 8) (hk9 : 0 ≤ k ∧ k + 2 < 3 * q) : Ctr yX4_runPass cX4_runPass 7 none (rmd 4) ly ly 0 0 [vR 28, vI k, vI q] h (fun r h' => (TY h' ∧ FR [24, 25, 26, 28, 30, 31, 32, 33] h h') ∧ r = none ∧ (∀ s : TS_, RPQ (h 31) (h 32) (h 33) (h 24 3) (h 25) (h 26) s → RPQ (h' 31) (h' 32) (h' 33) (h' 24 3) (h' 25) (h' 26)  (passT (h 29) (h 28 8) (h 28 6) (h 28 7) k q s)) ∧ ((h' 28 6) = (h 28 6) ∧ (h' 28 7) = (h 28 7) ∧ (h' 28 8) = (h 28 8)) ∧ ((h' 24 4) = (h 24 4))) := by
  refine Ctr_of (by decide) (Nat.le_of_ble_eq_true rfl) ⟨Nat.le_refl _, Nat.le_refl _⟩ (fun K hK hQ _ => ?_)
  show TT K ly 0 0 0 [(0, vR 28), (1, vI k), (2, vI q)] [] h
  have hF : FR [24, 25, 26, 28, 30, 31, 32, 33] h h := FR_rf _ _
  refine TT_aload_n hK rfl 0 rfl dX4_runPass_0 ?_
  refine TT_iload_n hK rfl 2 rfl dX4_runPass_1 ?_
  refine TT_iconst hK dX4_runPass_2 ?_
  refine TT_isub hK dX4_runPass_3 ?_
  refine TT_iload_n hK rfl 1 rfl dX4_runPass_4 ?_
  refine TT_iconst hK dX4_runPass_5 ?_
  refine TT_iadd hK dX4_runPass_6 ?_
  refine TT_iconst hK dX4_runPass_7 ?_
  refine TT_idivn hK (irm (by omega) (by omega)) (by decide) (by first | omega | (simp [up, setR] <;> omega)) (by first | omega | (simp [up, setR] <;> omega)) dX4_runPass_8 ?_
  refine TT_isub hK dX4_runPass_9 ?_
  refine pf_X4_55 hK (by decide) rfl dX4_runPass_10 ?_
  refine TT_hp (h' := setO h 28 (fup (h 28) 9 ((q - 1) - ((k + 2) / 3)))) (up_can rfl rfl rfl) ?_
  have hT_1 : TY (setO h 28 (fup (h 28) 9 ((q - 1) - ((k + 2) / 3)))) := tu_28_9 hT (show up h 28 9 ((q - 1) - ((k + 2) / 3)) = (setO h 28 (fup (h 28) 9 ((q - 1) - ((k + 2) / 3)))) from up_can rfl rfl rfl) (by omega)
  have hF_1 : FR [24, 25, 26, 28, 30, 31, 32, 33] h (setO h 28 (fup (h 28) 9 ((q - 1) - ((k + 2) / 3)))) := FR_up (show up h 28 9 ((q - 1) - ((k + 2) / 3)) = (setO h 28 (fup (h 28) 9 ((q - 1) - ((k + 2) / 3)))) from up_can rfl rfl rfl) hF (by decide)
  refine TT_iload_n hK rfl 1 rfl dX4_runPass_13 ?_
  refine TT_iconst hK dX4_runPass_14 ?_
  refine TT_iadd hK dX4_runPass_15 ?_
  refine TT_iconst hK dX4_runPass_16 ?_
  refine TT_iremn hK (irm (by omega) (by omega)) (by decide) (by first | omega | (simp [up, setR] <;> omega)) (by first | omega | (simp [up, setR] <;> omega)) dX4_runPass_17 ?_
  refine TT_istore_n hK rfl (lv' := [(3, vI ((k + 2) % 3)), (0, vR 28), (1, vI k), (2, vI q)]) (by decide) rfl dX4_runPass_18 ?_
  refine TT_iconst hK dX4_runPass_19 ?_
  refine TT_istore hK (lv' := [(4, vI 0), (3, vI ((k + 2) % 3)), (0, vR 28), (1, vI k), (2, vI q)]) (by decide) rfl dX4_runPass_20 ?_
  have L22_2 : ∀ (k2 : Nat) (y : Int) (w22_2 : Hp_), TY w22_2 → FR [24, 25, 26, 28, 30, 31, 32, 33] h w22_2 → (0 ≤ y ∧ y ≤ 11 ∧ y ≤ h 28 7 + 3 ∧ y % 4 = 0) → ((w22_2 28 6) = h 28 6 ∧ (w22_2 28 7) = h 28 7 ∧ (w22_2 28 8) = h 28 8 ∧ (w22_2 28 9) = q - 1 - (k + 2) / 3) → (∀ s : TS_, RPQ (h 31) (h 32) (h 33) (h 24 3) (h 25) (h 26) s → RPQ (w22_2 31) (w22_2 32) (w22_2 33) (w22_2 24 3) (w22_2 25) (w22_2 26) (strP (h 29) (h 28 8) (q - 1 - (k + 2) / 3) ((k + 2) % 3) (h 28 6) (h 28 7) (y / 4).toNat s)) → ((w22_2 24 4) = h 24 4) → ((8 : Int) - y).toNat < k2 → TT K ly 0 0 22 [(0, vR 28), (1, vI k), (2, vI q), (3, vI ((k + 2) % 3)), (4, vI y)] [] w22_2 := by
    intro k2
    induction k2 with
    | zero => intro y w22_2 hT22_2 hF22_2 hy k9 hR k24 hk2; exact absurd hk2 (Nat.not_lt_zero _)
    | succ k2 ih2 =>
      intro y w22_2 hT22_2 hF22_2 hy k9 hR k24 hk2
      refine TT_iload hK 4 rfl dX4_runPass_22 ?_
      refine TT_aload_n hK rfl 0 rfl dX4_runPass_24 ?_
      refine gf_X4_36 hK (by decide) rfl (v := (w22_2 28) 7) rfl dX4_runPass_25 ?_
      have r3 := ty_28_7 (v := (w22_2 28) 7) hT22_2 rfl
      refine TT_icmp_ge hK (tgt := 122) (irm (by omega) (by omega)) (irm (by omega) (by omega)) dX4_runPass_28 (by decide) (fun hb28_4 => ?_) (fun hb28_4 => ?_)
      · refine TT_iload_n hK rfl 3 rfl dX4_runPass_122 ?_
        refine TT_iconst hK dX4_runPass_123 ?_
        refine TT_icmp_ne hK (tgt := 131) (irm (by omega) (by omega)) (by decide) dX4_runPass_124 (by decide) (fun hb124_5 => ?_) (fun hb124_5 => ?_)
        · refine TT_vret hK hQ ?_ dX4_runPass_131
          have e6_24_3 : w22_2 24 3 = (w22_2 24) 3 := rfl
          have e7_28_6 : w22_2 28 6 = (w22_2 28) 6 := rfl
          have e8_28_7 : w22_2 28 7 = (w22_2 28) 7 := rfl
          have e9_28_8 : w22_2 28 8 = (w22_2 28) 8 := rfl
          have e10_24_4 : w22_2 24 4 = (w22_2 24) 4 := rfl
          exact ⟨⟨hT22_2, hF22_2⟩, rfl, (by rewrite [e6_24_3]; intro s hs; have qq := hR s hs; unfold passT; rw [show y / 4 = (h 28 7 + 3) / 4 by omega] at qq; first | (rw [if_neg (by omega)]; exact qq) | (rw [if_pos (by omega)]; rw [cz_at128]; exact RPQ_cz qq)), (by rewrite [e7_28_6, e8_28_7, e9_28_8]; omega), (by rewrite [e10_24_4]; omega)⟩
        · refine TT_aload_n hK rfl 0 rfl dX4_runPass_127 ?_
          refine iv_X4_48 hK (s_clear_e w22_2 hT22_2 ) (by decide) rfl ⟨by decide, by decide⟩ (by decide) rfl rfl (Nat.le_of_ble_eq_true rfl) ⟨by decide, by decide⟩ dX4_runPass_128 ?_
          intro r9 g128_11 hp9
          obtain ⟨⟨hT_11, hG_11⟩, hr9, cz_11⟩ := hp9
          rw [hr9]
          have hF_11 : FR [24, 25, 26, 28, 30, 31, 32, 33] h g128_11 := FR_tr hF22_2 hG_11 (by decide)
          have cz_at128 := cz_11
          show TT K ly 0 0 131 [(0, vR 28), (1, vI k), (2, vI q), (3, vI ((k + 2) % 3)), (4, vI y)] [] g128_11
          refine TT_vret hK hQ ?_ dX4_runPass_131
          have e12_24_3 : g128_11 24 3 = (w22_2 24) 3 := rd_ (hG_11 24 (by decide)) rfl
          have e13_25 : g128_11 25 = w22_2 25 := (hG_11 25 (by decide))
          have e14_26 : g128_11 26 = w22_2 26 := (hG_11 26 (by decide))
          have e15_31 : g128_11 31 = w22_2 31 := (hG_11 31 (by decide))
          have e16_33 : g128_11 33 = w22_2 33 := (hG_11 33 (by decide))
          have e17_28_6 : g128_11 28 6 = (w22_2 28) 6 := rd_ (hG_11 28 (by decide)) rfl
          have e18_28_7 : g128_11 28 7 = (w22_2 28) 7 := rd_ (hG_11 28 (by decide)) rfl
          have e19_28_8 : g128_11 28 8 = (w22_2 28) 8 := rd_ (hG_11 28 (by decide)) rfl
          have e20_24_4 : g128_11 24 4 = (w22_2 24) 4 := rd_ (hG_11 24 (by decide)) rfl
          exact ⟨⟨hT_11, hF_11⟩, rfl, (by rewrite [e12_24_3, e13_25, e14_26, e15_31, e16_33]; intro s hs; have qq := hR s hs; unfold passT; rw [show y / 4 = (h 28 7 + 3) / 4 by omega] at qq; first | (rw [if_neg (by omega)]; exact qq) | (rw [if_pos (by omega)]; rw [cz_at128]; exact RPQ_cz qq)), (by rewrite [e17_28_6, e18_28_7, e19_28_8]; omega), (by rewrite [e20_24_4]; omega)⟩
      · refine TT_iconst hK dX4_runPass_31 ?_
        refine TT_aload_n hK rfl 0 rfl dX4_runPass_32 ?_
        refine gf_X4_36 hK (by decide) rfl (v := (w22_2 28) 7) rfl dX4_runPass_33 ?_
        refine TT_iload hK 4 rfl dX4_runPass_36 ?_
        refine TT_isub hK dX4_runPass_38 ?_
        refine TT_mmin hK (by decide) (irm (by omega) (by omega)) iw_X4_58 (by decide) (Nat.le_of_ble_eq_true rfl) ⟨by decide, by decide⟩ dX4_runPass_39 ?_
        refine TT_istore hK (lv' := [(5, vI (min 4 (((w22_2 28) 7) - y))), (0, vR 28), (1, vI k), (2, vI q), (3, vI ((k + 2) % 3)), (4, vI y)]) (by decide) rfl dX4_runPass_42 ?_
        refine TT_iconst hK dX4_runPass_44 ?_
        refine TT_istore hK (lv' := [(6, vI 0), (5, vI (min 4 (((w22_2 28) 7) - y))), (0, vR 28), (1, vI k), (2, vI q), (3, vI ((k + 2) % 3)), (4, vI y)]) (by decide) rfl dX4_runPass_45 ?_
        have L47_21 : ∀ (k21 : Nat) (x : Int) (w47_21 : Hp_), TY w47_21 → FR [24, 25, 26, 28, 30, 31, 32, 33] h w47_21 → (0 ≤ x ∧ x ≤ h 28 6) → ((w47_21 28 6) = h 28 6 ∧ (w47_21 28 7) = h 28 7 ∧ (w47_21 28 8) = h 28 8 ∧ (w47_21 28 9) = q - 1 - (k + 2) / 3) → (∀ s : TS_, RPQ (h 31) (h 32) (h 33) (h 24 3) (h 25) (h 26) s → RPQ (w47_21 31) (w47_21 32) (w47_21 33) (w47_21 24 3) (w47_21 25) (w47_21 26) (rowP (h 29) (h 28 8) (q - 1 - (k + 2) / 3) ((k + 2) % 3) (min 4 (h 28 7 - y)) y x.toNat (strP (h 29) (h 28 8) (q - 1 - (k + 2) / 3) ((k + 2) % 3) (h 28 6) (h 28 7) (y / 4).toNat s))) → ((w47_21 24 4) = h 24 4) → ((8 : Int) - x).toNat < k21 → TT K ly 0 0 47 [(0, vR 28), (1, vI k), (2, vI q), (3, vI ((k + 2) % 3)), (4, vI y), (5, vI (min 4 (((w22_2 28) 7) - y))), (6, vI x)] [] w47_21 := by
          intro k21
          induction k21 with
          | zero => intro x w47_21 hT47_21 hF47_21 hx k9 hRx k24 hk21; exact absurd hk21 (Nat.not_lt_zero _)
          | succ k21 ih21 =>
            intro x w47_21 hT47_21 hF47_21 hx k9 hRx k24 hk21
            refine TT_iload hK 6 rfl dX4_runPass_47 ?_
            refine TT_aload_n hK rfl 0 rfl dX4_runPass_49 ?_
            refine gf_X4_32 hK (by decide) rfl (v := (w47_21 28) 6) rfl dX4_runPass_50 ?_
            have r22 := ty_28_6 (v := (w47_21 28) 6) hT47_21 rfl
            refine TT_icmp_ge hK (tgt := 116) (irm (by omega) (by omega)) (irm (by omega) (by omega)) dX4_runPass_53 (by decide) (fun hb53_23 => ?_) (fun hb53_23 => ?_)
            · refine TT_iinc hK (v := y + 4) (lv' := [(4, vI (y + 4)), (0, vR 28), (1, vI k), (2, vI q), (3, vI ((k + 2) % 3)), (5, vI (min 4 (((w22_2 28) 7) - y))), (6, vI x)]) 4 rfl rfl (by decide) rfl dX4_runPass_116 ?_
              refine TT_goto hK (tgt := 22) dX4_runPass_119 (by decide) ?_
              refine TT_sub [1, 2, 3, 4, 0] rfl ?_
              have e24_28_6 : w47_21 28 6 = (w47_21 28) 6 := rfl
              have e25_28_7 : w47_21 28 7 = (w47_21 28) 7 := rfl
              have e26_28_8 : w47_21 28 8 = (w47_21 28) 8 := rfl
              have e27_28_9 : w47_21 28 9 = (w47_21 28) 9 := rfl
              have e28_24_3 : w47_21 24 3 = (w47_21 24) 3 := rfl
              have e29_24_4 : w47_21 24 4 = (w47_21 24) 4 := rfl
              exact ih2 (y + 4) w47_21 hT47_21 hF47_21 (by first | omega | (simp [up, setR] <;> omega)) (by rewrite [e24_28_6, e25_28_7, e26_28_8, e27_28_9]; first | omega | (simp [up, setR] <;> omega)) (by rewrite [e28_24_3]; intro s hs; have qq := hRx s hs; rw [show (y + 4) / 4 = y / 4 + 1 by omega, show (y / 4 + 1).toNat = (y / 4).toNat + 1 by omega]; unfold strP; rw [show x = h 28 6 by omega] at qq; rw [show (((y / 4).toNat : Nat) : Int) * 4 = y by omega]; exact qq) (by rewrite [e29_24_4]; first | omega | (simp [up, setR] <;> omega)) (by first | omega | (simp [up, setR] <;> omega))
            · refine TT_iload_n hK rfl 3 rfl dX4_runPass_56 ?_
              refine TT_if_ne hK (tgt := 76) (irm (by omega) (by omega)) dX4_runPass_57 (by decide) (fun hb57_30 => ?_) (fun hb57_30 => ?_)
              · refine TT_iload_n hK rfl 3 rfl dX4_runPass_76 ?_
                refine TT_iconst hK dX4_runPass_77 ?_
                refine TT_icmp_ne hK (tgt := 97) (irm (by omega) (by omega)) (by decide) dX4_runPass_78 (by decide) (fun hb78_31 => ?_) (fun hb78_31 => ?_)
                · refine TT_aload_n hK rfl 0 rfl dX4_runPass_97 ?_
                  refine TT_iload hK 6 rfl dX4_runPass_98 ?_
                  refine TT_iload hK 4 rfl dX4_runPass_100 ?_
                  refine iv_X4_51 hK (s_X4_place x y w47_21 hT47_21 (by first | omega | (simp [up, setR] <;> omega)) (by first | omega | (simp [up, setR] <;> omega))) ⟨by decide, by decide⟩ (by decide) rfl rfl (Nat.le_of_ble_eq_true rfl) ⟨by decide, by decide⟩ dX4_runPass_102 ?_
                  intro r9 g102_32 hp9
                  obtain ⟨⟨hT_32, hG_32⟩, z102_32, hr9, hz_32, p1_32⟩ := hp9
                  rw [hr9]
                  have hF_32 : FR [24, 25, 26, 28, 30, 31, 32, 33] h g102_32 := FR_tr hF47_21 hG_32 (by decide)
                  have p1_at102 := p1_32
                  show TT K ly 0 0 105 [(0, vR 28), (1, vI k), (2, vI q), (3, vI ((k + 2) % 3)), (4, vI y), (5, vI (min 4 (((w22_2 28) 7) - y))), (6, vI x)] [vI z102_32, vR 28] g102_32
                  refine TT_iload hK 5 rfl dX4_runPass_105 ?_
                  have e33_29 : g102_32 29 = h 29 := ((hG_32 29 (by decide))).trans (hF47_21 29 (by decide))
                  have e34_28_9 : g102_32 28 9 = (w47_21 28) 9 := rd_ (hG_32 28 (by decide)) rfl
                  refine iv_X4_70 hK (s_cleanColumn_e z102_32 (min 4 (((w22_2 28) 7) - y)) g102_32 hT_32 (by first | omega | (simp [up, setR] <;> omega)) (by first | omega | (simp [up, setR] <;> omega)) (by rewrite [e33_29]; first | assumption | exact hM) (by rewrite [e34_28_9]; first | assumption | exact hpl | omega)) (by decide) rfl ⟨by decide, by decide⟩ (by decide) rfl rfl (Nat.le_of_ble_eq_true rfl) ⟨by decide, by decide⟩ dX4_runPass_107 ?_
                  intro r9 g107_35 hp9
                  obtain ⟨⟨hT_35, hG_35⟩, hr9, col_35, k24_35⟩ := hp9
                  rw [hr9]
                  have hF_35 : FR [24, 25, 26, 28, 30, 31, 32, 33] h g107_35 := FR_tr hF_32 hG_35 (by decide)
                  rw [show g102_32 24 3 = (w47_21 24) 3 from rd_ (hG_32 24 (by decide)) rfl] at col_35
                  rw [show g102_32 25 = w47_21 25 from (hG_32 25 (by decide))] at col_35
                  rw [show g102_32 26 = w47_21 26 from (hG_32 26 (by decide))] at col_35
                  rw [show g102_32 28 8 = (w47_21 28) 8 from rd_ (hG_32 28 (by decide)) rfl] at col_35
                  rw [show g102_32 28 9 = (w47_21 28) 9 from rd_ (hG_32 28 (by decide)) rfl] at col_35
                  rw [show g102_32 29 = h 29 from ((hG_32 29 (by decide))).trans (hF47_21 29 (by decide))] at col_35
                  rw [show g102_32 31 = w47_21 31 from (hG_32 31 (by decide))] at col_35
                  rw [show g102_32 32 = w47_21 32 from (hG_32 32 (by decide))] at col_35
                  rw [show g102_32 33 = w47_21 33 from (hG_32 33 (by decide))] at col_35
                  rw [show g102_32 24 4 = (w47_21 24) 4 from rd_ (hG_32 24 (by decide)) rfl] at k24_35
                  have col_at107 := col_35
                  show TT K ly 0 0 110 [(0, vR 28), (1, vI k), (2, vI q), (3, vI ((k + 2) % 3)), (4, vI y), (5, vI (min 4 (((w22_2 28) 7) - y))), (6, vI x)] [] g107_35
                  refine TT_iinc hK (v := x + 1) (lv' := [(6, vI (x + 1)), (0, vR 28), (1, vI k), (2, vI q), (3, vI ((k + 2) % 3)), (4, vI y), (5, vI (min 4 (((w22_2 28) 7) - y)))]) 6 rfl rfl (by decide) rfl dX4_runPass_110 ?_
                  refine TT_goto hK (tgt := 47) dX4_runPass_113 (by decide) ?_
                  refine TT_sub [1, 2, 3, 4, 5, 6, 0] rfl ?_
                  have e36_28_6 : g107_35 28 6 = (w47_21 28) 6 := rd_ (((hG_35 28 (by decide))).trans (hG_32 28 (by decide))) rfl
                  have e37_28_7 : g107_35 28 7 = (w47_21 28) 7 := rd_ (((hG_35 28 (by decide))).trans (hG_32 28 (by decide))) rfl
                  have e38_28_8 : g107_35 28 8 = (w47_21 28) 8 := rd_ (((hG_35 28 (by decide))).trans (hG_32 28 (by decide))) rfl
                  have e39_28_9 : g107_35 28 9 = (w47_21 28) 9 := rd_ (((hG_35 28 (by decide))).trans (hG_32 28 (by decide))) rfl
                  have e40_24_3 : g107_35 24 3 = (g107_35 24) 3 := rfl
                  have e41_32 : g107_35 32 = w47_21 32 := ((hG_35 32 (by decide))).trans (hG_32 32 (by decide))
                  have e42_33 : g107_35 33 = w47_21 33 := ((hG_35 33 (by decide))).trans (hG_32 33 (by decide))
                  have e43_24_4 : g107_35 24 4 = (g107_35 24) 4 := rfl
                  exact ih21 (x + 1) g107_35 hT_35 hF_35 (by first | omega | (simp [up, setR] <;> omega)) (by rewrite [e36_28_6, e37_28_7, e38_28_8, e39_28_9]; first | omega | (simp [up, setR] <;> omega)) (by rewrite [e40_24_3, e41_32, e42_33]; intro s hs; have qq := hRx s hs; rw [show (x + 1).toNat = x.toNat + 1 by omega]; unfold rowP; rw [show ((x.toNat : Nat) : Int) = x by omega]; first | exact colP_0 qq (by omega) p1_at65 rfl (by omega) (by omega) (by omega) col_at70 | exact colP_1 qq (by omega) p1_at86 rfl (by omega) (by omega) (by omega) col_at91 | exact colP_2 qq (by omega) p1_at102 rfl (by omega) (by omega) (by omega) col_at107) (by rewrite [e43_24_4]; first | omega | (simp [up, setR] <;> omega)) (by first | omega | (simp [up, setR] <;> omega))
                · refine TT_aload_n hK rfl 0 rfl dX4_runPass_81 ?_
                  refine TT_iload hK 6 rfl dX4_runPass_82 ?_
                  refine TT_iload hK 4 rfl dX4_runPass_84 ?_
                  refine iv_X4_51 hK (s_X4_place x y w47_21 hT47_21 (by first | omega | (simp [up, setR] <;> omega)) (by first | omega | (simp [up, setR] <;> omega))) ⟨by decide, by decide⟩ (by decide) rfl rfl (Nat.le_of_ble_eq_true rfl) ⟨by decide, by decide⟩ dX4_runPass_86 ?_
                  intro r9 g86_44 hp9
                  obtain ⟨⟨hT_44, hG_44⟩, z86_44, hr9, hz_44, p1_44⟩ := hp9
                  rw [hr9]
                  have hF_44 : FR [24, 25, 26, 28, 30, 31, 32, 33] h g86_44 := FR_tr hF47_21 hG_44 (by decide)
                  have p1_at86 := p1_44
                  show TT K ly 0 0 89 [(0, vR 28), (1, vI k), (2, vI q), (3, vI ((k + 2) % 3)), (4, vI y), (5, vI (min 4 (((w22_2 28) 7) - y))), (6, vI x)] [vI z86_44, vR 28] g86_44
                  refine TT_iload hK 5 rfl dX4_runPass_89 ?_
                  have e45_29 : g86_44 29 = h 29 := ((hG_44 29 (by decide))).trans (hF47_21 29 (by decide))
                  have e46_28_9 : g86_44 28 9 = (w47_21 28) 9 := rd_ (hG_44 28 (by decide)) rfl
                  refine iv_X4_67 hK (s_refineColumn_e z86_44 (min 4 (((w22_2 28) 7) - y)) g86_44 hT_44 (by first | omega | (simp [up, setR] <;> omega)) (by first | omega | (simp [up, setR] <;> omega)) (by rewrite [e45_29]; first | assumption | exact hM) (by rewrite [e46_28_9]; first | assumption | exact hpl | omega)) (by decide) rfl ⟨by decide, by decide⟩ (by decide) rfl rfl (Nat.le_of_ble_eq_true rfl) ⟨by decide, by decide⟩ dX4_runPass_91 ?_
                  intro r9 g91_47 hp9
                  obtain ⟨⟨hT_47, hG_47⟩, hr9, col_47, k24_47⟩ := hp9
                  rw [hr9]
                  have hF_47 : FR [24, 25, 26, 28, 30, 31, 32, 33] h g91_47 := FR_tr hF_44 hG_47 (by decide)
                  rw [show g86_44 24 3 = (w47_21 24) 3 from rd_ (hG_44 24 (by decide)) rfl] at col_47
                  rw [show g86_44 25 = w47_21 25 from (hG_44 25 (by decide))] at col_47
                  rw [show g86_44 26 = w47_21 26 from (hG_44 26 (by decide))] at col_47
                  rw [show g86_44 28 9 = (w47_21 28) 9 from rd_ (hG_44 28 (by decide)) rfl] at col_47
                  rw [show g86_44 29 = h 29 from ((hG_44 29 (by decide))).trans (hF47_21 29 (by decide))] at col_47
                  rw [show g86_44 31 = w47_21 31 from (hG_44 31 (by decide))] at col_47
                  rw [show g86_44 32 = w47_21 32 from (hG_44 32 (by decide))] at col_47
                  rw [show g86_44 33 = w47_21 33 from (hG_44 33 (by decide))] at col_47
                  rw [show g86_44 24 4 = (w47_21 24) 4 from rd_ (hG_44 24 (by decide)) rfl] at k24_47
                  have col_at91 := col_47
                  show TT K ly 0 0 94 [(0, vR 28), (1, vI k), (2, vI q), (3, vI ((k + 2) % 3)), (4, vI y), (5, vI (min 4 (((w22_2 28) 7) - y))), (6, vI x)] [] g91_47
                  refine TT_goto hK (tgt := 110) dX4_runPass_94 (by decide) ?_
                  refine TT_iinc hK (v := x + 1) (lv' := [(6, vI (x + 1)), (0, vR 28), (1, vI k), (2, vI q), (3, vI ((k + 2) % 3)), (4, vI y), (5, vI (min 4 (((w22_2 28) 7) - y)))]) 6 rfl rfl (by decide) rfl dX4_runPass_110 ?_
                  refine TT_goto hK (tgt := 47) dX4_runPass_113 (by decide) ?_
                  refine TT_sub [1, 2, 3, 4, 5, 6, 0] rfl ?_
                  have e48_28_6 : g91_47 28 6 = (w47_21 28) 6 := rd_ (((hG_47 28 (by decide))).trans (hG_44 28 (by decide))) rfl
                  have e49_28_7 : g91_47 28 7 = (w47_21 28) 7 := rd_ (((hG_47 28 (by decide))).trans (hG_44 28 (by decide))) rfl
                  have e50_28_8 : g91_47 28 8 = (w47_21 28) 8 := rd_ (((hG_47 28 (by decide))).trans (hG_44 28 (by decide))) rfl
                  have e51_28_9 : g91_47 28 9 = (w47_21 28) 9 := rd_ (((hG_47 28 (by decide))).trans (hG_44 28 (by decide))) rfl
                  have e52_24_3 : g91_47 24 3 = (g91_47 24) 3 := rfl
                  have e53_31 : g91_47 31 = w47_21 31 := ((hG_47 31 (by decide))).trans (hG_44 31 (by decide))
                  have e54_32 : g91_47 32 = w47_21 32 := ((hG_47 32 (by decide))).trans (hG_44 32 (by decide))
                  have e55_24_4 : g91_47 24 4 = (g91_47 24) 4 := rfl
                  exact ih21 (x + 1) g91_47 hT_47 hF_47 (by first | omega | (simp [up, setR] <;> omega)) (by rewrite [e48_28_6, e49_28_7, e50_28_8, e51_28_9]; first | omega | (simp [up, setR] <;> omega)) (by rewrite [e52_24_3, e53_31, e54_32]; intro s hs; have qq := hRx s hs; rw [show (x + 1).toNat = x.toNat + 1 by omega]; unfold rowP; rw [show ((x.toNat : Nat) : Int) = x by omega]; first | exact colP_0 qq (by omega) p1_at65 rfl (by omega) (by omega) (by omega) col_at70 | exact colP_1 qq (by omega) p1_at86 rfl (by omega) (by omega) (by omega) col_at91 | exact colP_2 qq (by omega) p1_at102 rfl (by omega) (by omega) (by omega) col_at107) (by rewrite [e55_24_4]; first | omega | (simp [up, setR] <;> omega)) (by first | omega | (simp [up, setR] <;> omega))
              · refine TT_aload_n hK rfl 0 rfl dX4_runPass_60 ?_
                refine TT_iload hK 6 rfl dX4_runPass_61 ?_
                refine TT_iload hK 4 rfl dX4_runPass_63 ?_
                refine iv_X4_51 hK (s_X4_place x y w47_21 hT47_21 (by first | omega | (simp [up, setR] <;> omega)) (by first | omega | (simp [up, setR] <;> omega))) ⟨by decide, by decide⟩ (by decide) rfl rfl (Nat.le_of_ble_eq_true rfl) ⟨by decide, by decide⟩ dX4_runPass_65 ?_
                intro r9 g65_56 hp9
                obtain ⟨⟨hT_56, hG_56⟩, z65_56, hr9, hz_56, p1_56⟩ := hp9
                rw [hr9]
                have hF_56 : FR [24, 25, 26, 28, 30, 31, 32, 33] h g65_56 := FR_tr hF47_21 hG_56 (by decide)
                have p1_at65 := p1_56
                show TT K ly 0 0 68 [(0, vR 28), (1, vI k), (2, vI q), (3, vI ((k + 2) % 3)), (4, vI y), (5, vI (min 4 (((w22_2 28) 7) - y))), (6, vI x)] [vI z65_56, vR 28] g65_56
                refine TT_iload hK 5 rfl dX4_runPass_68 ?_
                have e57_29 : g65_56 29 = h 29 := ((hG_56 29 (by decide))).trans (hF47_21 29 (by decide))
                have e58_28_9 : g65_56 28 9 = (w47_21 28) 9 := rd_ (hG_56 28 (by decide)) rfl
                refine iv_X4_63 hK (s_spreadColumn_e z65_56 (min 4 (((w22_2 28) 7) - y)) g65_56 hT_56 (by first | omega | (simp [up, setR] <;> omega)) (by first | omega | (simp [up, setR] <;> omega)) (by rewrite [e57_29]; first | assumption | exact hM) (by rewrite [e58_28_9]; first | assumption | exact hpl | omega)) (by decide) rfl ⟨by decide, by decide⟩ (by decide) rfl rfl (Nat.le_of_ble_eq_true rfl) ⟨by decide, by decide⟩ dX4_runPass_70 ?_
                intro r9 g70_59 hp9
                obtain ⟨⟨hT_59, hG_59⟩, hr9, col_59, k24_59⟩ := hp9
                rw [hr9]
                have hF_59 : FR [24, 25, 26, 28, 30, 31, 32, 33] h g70_59 := FR_tr hF_56 hG_59 (by decide)
                rw [show g65_56 24 3 = (w47_21 24) 3 from rd_ (hG_56 24 (by decide)) rfl] at col_59
                rw [show g65_56 25 = w47_21 25 from (hG_56 25 (by decide))] at col_59
                rw [show g65_56 26 = w47_21 26 from (hG_56 26 (by decide))] at col_59
                rw [show g65_56 28 8 = (w47_21 28) 8 from rd_ (hG_56 28 (by decide)) rfl] at col_59
                rw [show g65_56 28 9 = (w47_21 28) 9 from rd_ (hG_56 28 (by decide)) rfl] at col_59
                rw [show g65_56 29 = h 29 from ((hG_56 29 (by decide))).trans (hF47_21 29 (by decide))] at col_59
                rw [show g65_56 31 = w47_21 31 from (hG_56 31 (by decide))] at col_59
                rw [show g65_56 32 = w47_21 32 from (hG_56 32 (by decide))] at col_59
                rw [show g65_56 33 = w47_21 33 from (hG_56 33 (by decide))] at col_59
                rw [show g65_56 24 4 = (w47_21 24) 4 from rd_ (hG_56 24 (by decide)) rfl] at k24_59
                have col_at70 := col_59
                show TT K ly 0 0 73 [(0, vR 28), (1, vI k), (2, vI q), (3, vI ((k + 2) % 3)), (4, vI y), (5, vI (min 4 (((w22_2 28) 7) - y))), (6, vI x)] [] g70_59
                refine TT_goto hK (tgt := 110) dX4_runPass_73 (by decide) ?_
                refine TT_iinc hK (v := x + 1) (lv' := [(6, vI (x + 1)), (0, vR 28), (1, vI k), (2, vI q), (3, vI ((k + 2) % 3)), (4, vI y), (5, vI (min 4 (((w22_2 28) 7) - y)))]) 6 rfl rfl (by decide) rfl dX4_runPass_110 ?_
                refine TT_goto hK (tgt := 47) dX4_runPass_113 (by decide) ?_
                refine TT_sub [1, 2, 3, 4, 5, 6, 0] rfl ?_
                have e60_28_6 : g70_59 28 6 = (w47_21 28) 6 := rd_ (((hG_59 28 (by decide))).trans (hG_56 28 (by decide))) rfl
                have e61_28_7 : g70_59 28 7 = (w47_21 28) 7 := rd_ (((hG_59 28 (by decide))).trans (hG_56 28 (by decide))) rfl
                have e62_28_8 : g70_59 28 8 = (w47_21 28) 8 := rd_ (((hG_59 28 (by decide))).trans (hG_56 28 (by decide))) rfl
                have e63_28_9 : g70_59 28 9 = (w47_21 28) 9 := rd_ (((hG_59 28 (by decide))).trans (hG_56 28 (by decide))) rfl
                have e64_24_3 : g70_59 24 3 = (g70_59 24) 3 := rfl
                have e65_33 : g70_59 33 = w47_21 33 := ((hG_59 33 (by decide))).trans (hG_56 33 (by decide))
                have e66_24_4 : g70_59 24 4 = (g70_59 24) 4 := rfl
                exact ih21 (x + 1) g70_59 hT_59 hF_59 (by first | omega | (simp [up, setR] <;> omega)) (by rewrite [e60_28_6, e61_28_7, e62_28_8, e63_28_9]; first | omega | (simp [up, setR] <;> omega)) (by rewrite [e64_24_3, e65_33]; intro s hs; have qq := hRx s hs; rw [show (x + 1).toNat = x.toNat + 1 by omega]; unfold rowP; rw [show ((x.toNat : Nat) : Int) = x by omega]; first | exact colP_0 qq (by omega) p1_at65 rfl (by omega) (by omega) (by omega) col_at70 | exact colP_1 qq (by omega) p1_at86 rfl (by omega) (by omega) (by omega) col_at91 | exact colP_2 qq (by omega) p1_at102 rfl (by omega) (by omega) (by omega) col_at107) (by rewrite [e66_24_4]; first | omega | (simp [up, setR] <;> omega)) (by first | omega | (simp [up, setR] <;> omega))
        refine TT_sub [2, 3, 4, 5, 6, 1, 0] rfl ?_
        have e67_28_6 : w22_2 28 6 = (w22_2 28) 6 := rfl
        have e68_28_7 : w22_2 28 7 = (w22_2 28) 7 := rfl
        have e69_28_8 : w22_2 28 8 = (w22_2 28) 8 := rfl
        have e70_28_9 : w22_2 28 9 = (w22_2 28) 9 := rfl
        have e71_24_3 : w22_2 24 3 = (w22_2 24) 3 := rfl
        have e72_24_4 : w22_2 24 4 = (w22_2 24) 4 := rfl
        exact L47_21 ((((8 : Int) - 0).toNat) + 1) 0 w22_2 hT22_2 hF22_2 (by first | omega | (simp [up, setR] <;> omega)) (by rewrite [e67_28_6, e68_28_7, e69_28_8, e70_28_9]; first | omega | (simp [up, setR] <;> omega)) (by rewrite [e71_24_3]; exact fun s hs => hR s hs) (by rewrite [e72_24_4]; first | omega | (simp [up, setR] <;> omega)) (Nat.lt_succ_self _)
  refine TT_sub [2, 3, 4, 1, 0] rfl ?_
  have e73_28_6 : (setO h 28 (fup (h 28) 9 ((q - 1) - ((k + 2) / 3)))) 28 6 = (h 28) 6 := rd_ (sOf_eq _ _ _) (fup_ne _ _ (by decide))
  have e74_28_7 : (setO h 28 (fup (h 28) 9 ((q - 1) - ((k + 2) / 3)))) 28 7 = (h 28) 7 := rd_ (sOf_eq _ _ _) (fup_ne _ _ (by decide))
  have e75_28_8 : (setO h 28 (fup (h 28) 9 ((q - 1) - ((k + 2) / 3)))) 28 8 = (h 28) 8 := rd_ (sOf_eq _ _ _) (fup_ne _ _ (by decide))
  have e76_28_9 : (setO h 28 (fup (h 28) 9 ((q - 1) - ((k + 2) / 3)))) 28 9 = (q - 1) - ((k + 2) / 3) := rd_ (sOf_eq _ _ _) (fup_eq _ _ _)
  have e77_24_3 : (setO h 28 (fup (h 28) 9 ((q - 1) - ((k + 2) / 3)))) 24 3 = (h 24) 3 := rd_ (sOf_ne _ _ (by decide)) rfl
  have e78_25 : (setO h 28 (fup (h 28) 9 ((q - 1) - ((k + 2) / 3)))) 25 = h 25 := sOf_ne _ _ (by decide)
  have e79_26 : (setO h 28 (fup (h 28) 9 ((q - 1) - ((k + 2) / 3)))) 26 = h 26 := sOf_ne _ _ (by decide)
  have e80_31 : (setO h 28 (fup (h 28) 9 ((q - 1) - ((k + 2) / 3)))) 31 = h 31 := sOf_ne _ _ (by decide)
  have e81_32 : (setO h 28 (fup (h 28) 9 ((q - 1) - ((k + 2) / 3)))) 32 = h 32 := sOf_ne _ _ (by decide)
  have e82_33 : (setO h 28 (fup (h 28) 9 ((q - 1) - ((k + 2) / 3)))) 33 = h 33 := sOf_ne _ _ (by decide)
  have e83_24_4 : (setO h 28 (fup (h 28) 9 ((q - 1) - ((k + 2) / 3)))) 24 4 = (h 24) 4 := rd_ (sOf_ne _ _ (by decide)) rfl
  exact L22_2 ((((8 : Int) - 0).toNat) + 1) 0 (setO h 28 (fup (h 28) 9 ((q - 1) - ((k + 2) / 3)))) hT_1 hF_1 (by first | omega | (simp [up, setR] <;> omega)) (by rewrite [e73_28_6, e74_28_7, e75_28_8, e76_28_9]; first | omega | (simp [up, setR] <;> omega)) (by rewrite [e77_24_3, e78_25, e79_26, e80_31, e81_32, e82_33]; exact fun s hs => hs) (by rewrite [e83_24_4]; first | omega | (simp [up, setR] <;> omega)) (Nat.lt_succ_self _)

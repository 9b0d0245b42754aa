def clrT (t : Int → Int) : Int → Int := fun j => if 0 ≤ j ∧ j < 100 then (0 : Int) else t j
noncomputable def colP (M : Int → Int) (kd pl sort f n : Int) (s : TS_) : TS_ := if sort = 0 then itT (spT M kd pl) f n.toNat s else if sort = 1 then itT (rfnT M pl) f n.toNat s else cnT M kd pl f n s
noncomputable def rowP (M : Int → Int) (kd pl sort n y : Int) : Nat → TS_ → TS_
  | 0, s => s
  | x + 1, s => colP M kd pl sort (10 * y + (x : Int) + 11) n (rowP M kd pl sort n y x s)
noncomputable def strP (M : Int → Int) (kd pl sort w g : Int) : Nat → TS_ → TS_
  | 0, s => s
  | j + 1, s => rowP M kd pl sort (min 4 (g - (j : Int) * 4)) ((j : Int) * 4) w.toNat (strP M kd pl sort w g j s)
noncomputable def passT (M : Int → Int) (kd w g k q : Int) (s : TS_) : TS_ := if (k + 2) % 3 = 2 then (fun z : TS_ => (z.1, clrT z.2.1, z.2.2.1, z.2.2.2)) (strP M kd (q - 1 - (k + 2) / 3) ((k + 2) % 3) w g ((g + 3) / 4).toNat s) else strP M kd (q - 1 - (k + 2) / 3) ((k + 2) % 3) w g ((g + 3) / 4).toNat s
theorem RPQ_cz {a t r c b : Int → Int} {n : Int} {s : TS_} (h : RPQ a t r n c b s) : RPQ a (clrT t) r n c b (s.1, clrT s.2.1, s.2.2.1, s.2.2.2) := ⟨h.1, by rw [h.2.1], h.2.2.1, h.2.2.2⟩
theorem colP_0 {a t r c b a2 t2 r2 c2 b2 M M9 : Int → Int} {n n2 kd pl kd9 pl9 sort f m p m2 : Int} {s : TS_} (h : RPQ a t r n c b s) (h0 : sort = 0) (hp : p = f) (hM : M = M9) (hm : m = m2) (hkd : kd = kd9) (hpl : pl = pl9) (hc : ∀ s : TS_, RPQ a t r n c b s → RPQ a2 t2 r2 n2 c2 b2 (itT (spT M kd pl) p m.toNat s)) : RPQ a2 t2 r2 n2 c2 b2 (colP M9 kd9 pl9 sort f m2 s) := by
  unfold colP
  rw [if_pos h0]
  subst hp hm hkd hpl hM
  exact hc s h
theorem colP_1 {a t r c b a2 t2 r2 c2 b2 M M9 : Int → Int} {n n2 kd9 pl pl9 sort f m p m2 : Int} {s : TS_} (h : RPQ a t r n c b s) (h0 : sort = 1) (hp : p = f) (hM : M = M9) (hm : m = m2) (hkd : (0 : Int) = 0) (hpl : pl = pl9) (hc : ∀ s : TS_, RPQ a t r n c b s → RPQ a2 t2 r2 n2 c2 b2 (itT (rfnT M pl) p m.toNat s)) : RPQ a2 t2 r2 n2 c2 b2 (colP M9 kd9 pl9 sort f m2 s) := by
  unfold colP
  rw [if_neg (by omega), if_pos h0]
  subst hp hm hpl hM
  exact hc s h
theorem colP_2 {a t r c b a2 t2 r2 c2 b2 M M9 : Int → Int} {n n2 kd pl kd9 pl9 sort f m p m2 : Int} {s : TS_} (h : RPQ a t r n c b s) (h0 : sort ≠ 0 ∧ sort ≠ 1) (hp : p = f) (hM : M = M9) (hm : m = m2) (hkd : kd = kd9) (hpl : pl = pl9) (hc : ∀ s : TS_, RPQ a t r n c b s → RPQ a2 t2 r2 n2 c2 b2 (cnT M kd pl p m s)) : RPQ a2 t2 r2 n2 c2 b2 (colP M9 kd9 pl9 sort f m2 s) := by
  unfold colP
  rw [if_neg h0.1, if_neg h0.2]
  subst hp hm hkd hpl hM
  exact hc s h
set_option maxRecDepth 20000 in
theorem s_clear_e (h : Hp_) (hT : TY h)  : Ctr yX4_clearTold cX4_clearTold 2 none (rmd 0) ly ly 0 0 [vR 28] h (fun r h' => (TY h' ∧ FR [32] h h') ∧ r = none ∧ ((h' 32) = clrT (h 32))) := by
  refine Ctr_of (by decide) (Nat.le_of_ble_eq_true rfl) ⟨Nat.le_refl _, Nat.le_refl _⟩ (fun K hK hQ _ => ?_)
  show TT K ly 0 0 0 [(0, vR 28)] [] h
  have hF : FR [32] h h := FR_rf _ _
  refine TT_iconst hK dX4_clearTold_0 ?_
  refine TT_istore_n hK rfl (lv' := [(1, vI 0), (0, vR 28)]) (by decide) rfl dX4_clearTold_1 ?_
  have L2_1 : ∀ (k1 : Nat) (i : Int) (w2_1 : Hp_), TY w2_1 → FR [32] h w2_1 → (0 ≤ i ∧ i ≤ 100) → ((w2_1 32) = fun j : Int => if 0 ≤ j ∧ j < i then (0 : Int) else h 32 j) → ((100 : Int) - i).toNat < k1 → TT K ly 0 0 2 [(0, vR 28), (1, vI i)] [] w2_1 := by
    intro k1
    induction k1 with
    | zero => intro i w2_1 hT2_1 hF2_1 hi hz hk1; exact absurd hk1 (Nat.not_lt_zero _)
    | succ k1 ih1 =>
      intro i w2_1 hT2_1 hF2_1 hi hz hk1
      refine TT_iload_n hK rfl 1 rfl dX4_clearTold_2 ?_
      refine TT_aload_n hK rfl 0 rfl dX4_clearTold_3 ?_
      refine gf_X4_21 hK (by decide) rfl (q := 32) rfl rfl dX4_clearTold_4 ?_
      refine TT_alen hK (o := 32) (t := 13) (n := 100) (v := 100) (by decide) rfl (by decide) rfl dX4_clearTold_7 ?_
      refine TT_icmp_ge hK (tgt := 24) (irm (by omega) (by omega)) (by decide) dX4_clearTold_8 (by decide) (fun hb8_2 => ?_) (fun hb8_2 => ?_)
      · refine TT_vret hK hQ ?_ dX4_clearTold_24
        exact ⟨⟨hT2_1, hF2_1⟩, rfl, (by rw [show i = 100 by omega] at hz; exact hz)⟩
      · refine TT_aload_n hK rfl 0 rfl dX4_clearTold_11 ?_
        refine gf_X4_21 hK (by decide) rfl (q := 32) rfl rfl dX4_clearTold_12 ?_
        refine TT_iload_n hK rfl 1 rfl dX4_clearTold_15 ?_
        refine TT_iconst hK dX4_clearTold_16 ?_
        refine TT_zast hK (o := 32) (n := 100) (by decide) rfl (by omega) (by omega) (by first | decide | omega) dX4_clearTold_17 ?_
        refine TT_hp (h' := setO w2_1 32 (fup (w2_1 32) i 0)) (up_can rfl rfl rfl) ?_
        have hT_3 : TY (setO w2_1 32 (fup (w2_1 32) i 0)) := tu_32 hT2_1 (show up w2_1 32 i 0 = (setO w2_1 32 (fup (w2_1 32) i 0)) from up_can rfl rfl rfl) (by omega)
        have hF_3 : FR [32] h (setO w2_1 32 (fup (w2_1 32) i 0)) := FR_up (show up w2_1 32 i 0 = (setO w2_1 32 (fup (w2_1 32) i 0)) from up_can rfl rfl rfl) hF2_1 (by decide)
        refine TT_iinc hK (v := i + 1) (lv' := [(1, vI (i + 1)), (0, vR 28)]) 1 rfl rfl (by decide) rfl dX4_clearTold_18 ?_
        refine TT_goto hK (tgt := 2) dX4_clearTold_21 (by decide) ?_
        refine TT_sub [1, 0] rfl ?_
        have e4_32 : (setO w2_1 32 (fup (w2_1 32) i 0)) 32 = fup (w2_1 32) i 0 := sOf_eq _ _ _
        exact ih1 (i + 1) (setO w2_1 32 (fup (w2_1 32) i 0)) hT_3 hF_3 (by first | omega | (simp [up, setR] <;> omega)) (by rewrite [e4_32]; funext j; show fup _ i 0 j = if 0 ≤ j ∧ j < i + 1 then (0 : Int) else h 32 j; by_cases q : j = i; (rw [q, fup_eq, if_pos (by omega)]); (rw [fup_ne _ _ q]; refine (congrFun hz j).trans ?_; show (if 0 ≤ j ∧ j < i then (0 : Int) else h 32 j) = _; by_cases m : 0 ≤ j ∧ j < i; (rw [if_pos m, if_pos (by omega)]); (rw [if_neg m, if_neg (by omega)]))) (by first | omega | (simp [up, setR] <;> omega))
  refine TT_sub [1, 0] rfl ?_
  exact L2_1 ((((100 : Int) - 0).toNat) + 1) 0 h hT hF (by first | omega | (simp [up, setR] <;> omega)) (by funext j; show h 32 j = if 0 ≤ j ∧ j < 0 then (0 : Int) else h 32 j; rw [if_neg (by omega)]) (Nat.lt_succ_self _)
set_option maxRecDepth 20000 in
theorem s_runPass_e (k q : Int) (h : Hp_) (hT : TY h) (hk : -2147483648 ≤ k ∧ k ≤ 2147483647) (hq : 0 ≤ q ∧ q ≤ 12) (hM : ∀ q : Int, 0 ≤ q → q < 100 → -4095 ≤ (h 29) q ∧ (h 29) q ≤ 4095) (hwg : (0 ≤ (h 28 6) ∧ (h 28 6) ≤ 8) ∧ 0 ≤ (h 28 7) ∧ (h 28 7) ≤ 8) (hk9 : 0 ≤ k ∧ k + 2 < 3 * q) : Ctr yX4_runPass cX4_runPass 7 none (rmd 4) ly ly 0 0 [vR 28, vI k, vI q] h (fun r h' => (TY h' ∧ FR [24, 25, 26, 28, 30, 31, 32, 33] h h') ∧ r = none ∧ (∀ s : TS_, RPQ (h 31) (h 32) (h 33) (h 24 3) (h 25) (h 26) s → RPQ (h' 31) (h' 32) (h' 33) (h' 24 3) (h' 25) (h' 26)  (passT (h 29) (h 28 8) (h 28 6) (h 28 7) k q s)) ∧ ((h' 24 4) = (h 24 4))) := by
  refine Ctr_of (by decide) (Nat.le_of_ble_eq_true rfl) ⟨Nat.le_refl _, Nat.le_refl _⟩ (fun K hK hQ _ => ?_)
  show TT K ly 0 0 0 [(0, vR 28), (1, vI k), (2, vI q)] [] h
  have hF : FR [24, 25, 26, 28, 30, 31, 32, 33] h h := FR_rf _ _
  refine TT_aload_n hK rfl 0 rfl dX4_runPass_0 ?_
  refine TT_iload_n hK rfl 2 rfl dX4_runPass_1 ?_
  refine TT_iconst hK dX4_runPass_2 ?_
  refine TT_isub hK dX4_runPass_3 ?_
  refine TT_iload_n hK rfl 1 rfl dX4_runPass_4 ?_
  refine TT_iconst hK dX4_runPass_5 ?_
  refine TT_iadd hK dX4_runPass_6 ?_
  refine TT_iconst hK dX4_runPass_7 ?_
  refine TT_idivn hK (irm (by omega) (by omega)) (by decide) (by first | omega | (simp [up, setR] <;> omega)) (by first | omega | (simp [up, setR] <;> omega)) dX4_runPass_8 ?_
  refine TT_isub hK dX4_runPass_9 ?_
  refine pf_X4_55 hK (by decide) rfl dX4_runPass_10 ?_
  refine TT_hp (h' := setO h 28 (fup (h 28) 9 ((q - 1) - ((k + 2) / 3)))) (up_can rfl rfl rfl) ?_
  have hT_1 : TY (setO h 28 (fup (h 28) 9 ((q - 1) - ((k + 2) / 3)))) := tu_28_9 hT (show up h 28 9 ((q - 1) - ((k + 2) / 3)) = (setO h 28 (fup (h 28) 9 ((q - 1) - ((k + 2) / 3)))) from up_can rfl rfl rfl) (by omega)
  have hF_1 : FR [24, 25, 26, 28, 30, 31, 32, 33] h (setO h 28 (fup (h 28) 9 ((q - 1) - ((k + 2) / 3)))) := FR_up (show up h 28 9 ((q - 1) - ((k + 2) / 3)) = (setO h 28 (fup (h 28) 9 ((q - 1) - ((k + 2) / 3)))) from up_can rfl rfl rfl) hF (by decide)
  refine TT_iload_n hK rfl 1 rfl dX4_runPass_13 ?_
  refine TT_iconst hK dX4_runPass_14 ?_
  refine TT_iadd hK dX4_runPass_15 ?_
  refine TT_iconst hK dX4_runPass_16 ?_
  refine TT_iremn hK (irm (by omega) (by omega)) (by decide) (by first | omega | (simp [up, setR] <;> omega)) (by first | omega | (simp [up, setR] <;> omega)) dX4_runPass_17 ?_
  refine TT_istore_n hK rfl (lv' := [(3, vI ((k + 2) % 3)), (0, vR 28), (1, vI k), (2, vI q)]) (by decide) rfl dX4_runPass_18 ?_
  refine TT_iconst hK dX4_runPass_19 ?_
  refine TT_istore hK (lv' := [(4, vI 0), (3, vI ((k + 2) % 3)), (0, vR 28), (1, vI k), (2, vI q)]) (by decide) rfl dX4_runPass_20 ?_
  have L22_2 : ∀ (k2 : Nat) (y : Int) (w22_2 : Hp_), TY w22_2 → FR [24, 25, 26, 28, 30, 31, 32, 33] h w22_2 → (0 ≤ y ∧ y ≤ 11 ∧ y ≤ h 28 7 + 3 ∧ y % 4 = 0) → ((w22_2 28 6) = h 28 6 ∧ (w22_2 28 7) = h 28 7 ∧ (w22_2 28 8) = h 28 8 ∧ (w22_2 28 9) = q - 1 - (k + 2) / 3) → (∀ s : TS_, RPQ (h 31) (h 32) (h 33) (h 24 3) (h 25) (h 26) s → RPQ (w22_2 31) (w22_2 32) (w22_2 33) (w22_2 24 3) (w22_2 25) (w22_2 26) (strP (h 29) (h 28 8) (q - 1 - (k + 2) / 3) ((k + 2) % 3) (h 28 6) (h 28 7) (y / 4).toNat s)) → ((w22_2 24 4) = h 24 4) → ((8 : Int) - y).toNat < k2 → TT K ly 0 0 22 [(0, vR 28), (1, vI k), (2, vI q), (3, vI ((k + 2) % 3)), (4, vI y)] [] w22_2 := by
    intro k2
    induction k2 with
    | zero => intro y w22_2 hT22_2 hF22_2 hy k9 hR k24 hk2; exact absurd hk2 (Nat.not_lt_zero _)
    | succ k2 ih2 =>
      intro y w22_2 hT22_2 hF22_2 hy k9 hR k24 hk2
      refine TT_iload hK 4 rfl dX4_runPass_22 ?_
      refine TT_aload_n hK rfl 0 rfl dX4_runPass_24 ?_
      refine gf_X4_36 hK (by decide) rfl (v := (w22_2 28) 7) rfl dX4_runPass_25 ?_
      have r3 := ty_28_7 (v := (w22_2 28) 7) hT22_2 rfl
      refine TT_icmp_ge hK (tgt := 122) (irm (by omega) (by omega)) (irm (by omega) (by omega)) dX4_runPass_28 (by decide) (fun hb28_4 => ?_) (fun hb28_4 => ?_)
      · refine TT_iload_n hK rfl 3 rfl dX4_runPass_122 ?_
        refine TT_iconst hK dX4_runPass_123 ?_
        refine TT_icmp_ne hK (tgt := 131) (irm (by omega) (by omega)) (by decide) dX4_runPass_124 (by decide) (fun hb124_5 => ?_) (fun hb124_5 => ?_)
        · refine TT_vret hK hQ ?_ dX4_runPass_131
          have e6_24_3 : w22_2 24 3 = (w22_2 24) 3 := rfl
          have e7_24_4 : w22_2 24 4 = (w22_2 24) 4 := rfl
          exact ⟨⟨hT22_2, hF22_2⟩, rfl, (by rewrite [e6_24_3]; intro s hs; have qq := hR s hs; unfold passT; rw [show y / 4 = (h 28 7 + 3) / 4 by omega] at qq; first | (rw [if_neg (by omega)]; exact qq) | (rw [if_pos (by omega)]; rw [cz_at128]; exact RPQ_cz qq)), (by rewrite [e7_24_4]; omega)⟩
        · refine TT_aload_n hK rfl 0 rfl dX4_runPass_127 ?_
          refine iv_X4_48 hK (s_clear_e w22_2 hT22_2 ) (by decide) rfl ⟨by decide, by decide⟩ (by decide) rfl rfl (Nat.le_of_ble_eq_true rfl) ⟨by decide, by decide⟩ dX4_runPass_128 ?_
          intro r9 g128_8 hp9
          obtain ⟨⟨hT_8, hG_8⟩, hr9, cz_8⟩ := hp9
          rw [hr9]
          have hF_8 : FR [24, 25, 26, 28, 30, 31, 32, 33] h g128_8 := FR_tr hF22_2 hG_8 (by decide)
          have cz_at128 := cz_8
          show TT K ly 0 0 131 [(0, vR 28), (1, vI k), (2, vI q), (3, vI ((k + 2) % 3)), (4, vI y)] [] g128_8
          refine TT_vret hK hQ ?_ dX4_runPass_131
          have e9_24_3 : g128_8 24 3 = (w22_2 24) 3 := rd_ (hG_8 24 (by decide)) rfl
          have e10_25 : g128_8 25 = w22_2 25 := (hG_8 25 (by decide))
          have e11_26 : g128_8 26 = w22_2 26 := (hG_8 26 (by decide))
          have e12_31 : g128_8 31 = w22_2 31 := (hG_8 31 (by decide))
          have e13_33 : g128_8 33 = w22_2 33 := (hG_8 33 (by decide))
          have e14_24_4 : g128_8 24 4 = (w22_2 24) 4 := rd_ (hG_8 24 (by decide)) rfl
          exact ⟨⟨hT_8, hF_8⟩, rfl, (by rewrite [e9_24_3, e10_25, e11_26, e12_31, e13_33]; intro s hs; have qq := hR s hs; unfold passT; rw [show y / 4 = (h 28 7 + 3) / 4 by omega] at qq; first | (rw [if_neg (by omega)]; exact qq) | (rw [if_pos (by omega)]; rw [cz_at128]; exact RPQ_cz qq)), (by rewrite [e14_24_4]; omega)⟩
      · refine TT_iconst hK dX4_runPass_31 ?_
        refine TT_aload_n hK rfl 0 rfl dX4_runPass_32 ?_
        refine gf_X4_36 hK (by decide) rfl (v := (w22_2 28) 7) rfl dX4_runPass_33 ?_
        refine TT_iload hK 4 rfl dX4_runPass_36 ?_
        refine TT_isub hK dX4_runPass_38 ?_
        refine TT_mmin hK (by decide) (irm (by omega) (by omega)) iw_X4_58 (by decide) (Nat.le_of_ble_eq_true rfl) ⟨by decide, by decide⟩ dX4_runPass_39 ?_
        refine TT_istore hK (lv' := [(5, vI (min 4 (((w22_2 28) 7) - y))), (0, vR 28), (1, vI k), (2, vI q), (3, vI ((k + 2) % 3)), (4, vI y)]) (by decide) rfl dX4_runPass_42 ?_
        refine TT_iconst hK dX4_runPass_44 ?_
        refine TT_istore hK (lv' := [(6, vI 0), (5, vI (min 4 (((w22_2 28) 7) - y))), (0, vR 28), (1, vI k), (2, vI q), (3, vI ((k + 2) % 3)), (4, vI y)]) (by decide) rfl dX4_runPass_45 ?_
        have L47_15 : ∀ (k15 : Nat) (x : Int) (w47_15 : Hp_), TY w47_15 → FR [24, 25, 26, 28, 30, 31, 32, 33] h w47_15 → (0 ≤ x ∧ x ≤ h 28 6) → ((w47_15 28 6) = h 28 6 ∧ (w47_15 28 7) = h 28 7 ∧ (w47_15 28 8) = h 28 8 ∧ (w47_15 28 9) = q - 1 - (k + 2) / 3) → (∀ s : TS_, RPQ (h 31) (h 32) (h 33) (h 24 3) (h 25) (h 26) s → RPQ (w47_15 31) (w47_15 32) (w47_15 33) (w47_15 24 3) (w47_15 25) (w47_15 26) (rowP (h 29) (h 28 8) (q - 1 - (k + 2) / 3) ((k + 2) % 3) (min 4 (h 28 7 - y)) y x.toNat (strP (h 29) (h 28 8) (q - 1 - (k + 2) / 3) ((k + 2) % 3) (h 28 6) (h 28 7) (y / 4).toNat s))) → ((w47_15 24 4) = h 24 4) → ((8 : Int) - x).toNat < k15 → TT K ly 0 0 47 [(0, vR 28), (1, vI k), (2, vI q), (3, vI ((k + 2) % 3)), (4, vI y), (5, vI (min 4 (((w22_2 28) 7) - y))), (6, vI x)] [] w47_15 := by
          intro k15
          induction k15 with
          | zero => intro x w47_15 hT47_15 hF47_15 hx k9 hRx k24 hk15; exact absurd hk15 (Nat.not_lt_zero _)
          | succ k15 ih15 =>
            intro x w47_15 hT47_15 hF47_15 hx k9 hRx k24 hk15
            refine TT_iload hK 6 rfl dX4_runPass_47 ?_
            refine TT_aload_n hK rfl 0 rfl dX4_runPass_49 ?_
            refine gf_X4_32 hK (by decide) rfl (v := (w47_15 28) 6) rfl dX4_runPass_50 ?_
            have r16 := ty_28_6 (v := (w47_15 28) 6) hT47_15 rfl
            refine TT_icmp_ge hK (tgt := 116) (irm (by omega) (by omega)) (irm (by omega) (by omega)) dX4_runPass_53 (by decide) (fun hb53_17 => ?_) (fun hb53_17 => ?_)
            · refine TT_iinc hK (v := y + 4) (lv' := [(4, vI (y + 4)), (0, vR 28), (1, vI k), (2, vI q), (3, vI ((k + 2) % 3)), (5, vI (min 4 (((w22_2 28) 7) - y))), (6, vI x)]) 4 rfl rfl (by decide) rfl dX4_runPass_116 ?_
              refine TT_goto hK (tgt := 22) dX4_runPass_119 (by decide) ?_
              refine TT_sub [1, 2, 3, 4, 0] rfl ?_
              have e18_28_6 : w47_15 28 6 = (w47_15 28) 6 := rfl
              have e19_28_7 : w47_15 28 7 = (w47_15 28) 7 := rfl
              have e20_28_8 : w47_15 28 8 = (w47_15 28) 8 := rfl
              have e21_28_9 : w47_15 28 9 = (w47_15 28) 9 := rfl
              have e22_24_3 : w47_15 24 3 = (w47_15 24) 3 := rfl
              have e23_24_4 : w47_15 24 4 = (w47_15 24) 4 := rfl
              exact ih2 (y + 4) w47_15 hT47_15 hF47_15 (by first | omega | (simp [up, setR] <;> omega)) (by rewrite [e18_28_6, e19_28_7, e20_28_8, e21_28_9]; first | omega | (simp [up, setR] <;> omega)) (by rewrite [e22_24_3]; intro s hs; have qq := hRx s hs; rw [show (y + 4) / 4 = y / 4 + 1 by omega, show (y / 4 + 1).toNat = (y / 4).toNat + 1 by omega]; unfold strP; rw [show x = h 28 6 by omega] at qq; rw [show (((y / 4).toNat : Nat) : Int) * 4 = y by omega]; exact qq) (by rewrite [e23_24_4]; first | omega | (simp [up, setR] <;> omega)) (by first | omega | (simp [up, setR] <;> omega))
            · refine TT_iload_n hK rfl 3 rfl dX4_runPass_56 ?_
              refine TT_if_ne hK (tgt := 76) (irm (by omega) (by omega)) dX4_runPass_57 (by decide) (fun hb57_24 => ?_) (fun hb57_24 => ?_)
              · refine TT_iload_n hK rfl 3 rfl dX4_runPass_76 ?_
                refine TT_iconst hK dX4_runPass_77 ?_
                refine TT_icmp_ne hK (tgt := 97) (irm (by omega) (by omega)) (by decide) dX4_runPass_78 (by decide) (fun hb78_25 => ?_) (fun hb78_25 => ?_)
                · refine TT_aload_n hK rfl 0 rfl dX4_runPass_97 ?_
                  refine TT_iload hK 6 rfl dX4_runPass_98 ?_
                  refine TT_iload hK 4 rfl dX4_runPass_100 ?_
                  refine iv_X4_51 hK (s_X4_place x y w47_15 hT47_15 (by first | omega | (simp [up, setR] <;> omega)) (by first | omega | (simp [up, setR] <;> omega))) ⟨by decide, by decide⟩ (by decide) rfl rfl (Nat.le_of_ble_eq_true rfl) ⟨by decide, by decide⟩ dX4_runPass_102 ?_
                  intro r9 g102_26 hp9
                  obtain ⟨⟨hT_26, hG_26⟩, z102_26, hr9, hz_26, p1_26⟩ := hp9
                  rw [hr9]
                  have hF_26 : FR [24, 25, 26, 28, 30, 31, 32, 33] h g102_26 := FR_tr hF47_15 hG_26 (by decide)
                  have p1_at102 := p1_26
                  show TT K ly 0 0 105 [(0, vR 28), (1, vI k), (2, vI q), (3, vI ((k + 2) % 3)), (4, vI y), (5, vI (min 4 (((w22_2 28) 7) - y))), (6, vI x)] [vI z102_26, vR 28] g102_26
                  refine TT_iload hK 5 rfl dX4_runPass_105 ?_
                  have e27_29 : g102_26 29 = h 29 := ((hG_26 29 (by decide))).trans (hF47_15 29 (by decide))
                  have e28_28_9 : g102_26 28 9 = (w47_15 28) 9 := rd_ (hG_26 28 (by decide)) rfl
                  refine iv_X4_70 hK (s_cleanColumn_e z102_26 (min 4 (((w22_2 28) 7) - y)) g102_26 hT_26 (by first | omega | (simp [up, setR] <;> omega)) (by first | omega | (simp [up, setR] <;> omega)) (by rewrite [e27_29]; first | assumption | exact hM) (by rewrite [e28_28_9]; first | assumption | exact hpl | omega)) (by decide) rfl ⟨by decide, by decide⟩ (by decide) rfl rfl (Nat.le_of_ble_eq_true rfl) ⟨by decide, by decide⟩ dX4_runPass_107 ?_
                  intro r9 g107_29 hp9
                  obtain ⟨⟨hT_29, hG_29⟩, hr9, col_29, k24_29⟩ := hp9
                  rw [hr9]
                  have hF_29 : FR [24, 25, 26, 28, 30, 31, 32, 33] h g107_29 := FR_tr hF_26 hG_29 (by decide)
                  rw [show g102_26 24 3 = (w47_15 24) 3 from rd_ (hG_26 24 (by decide)) rfl] at col_29
                  rw [show g102_26 25 = w47_15 25 from (hG_26 25 (by decide))] at col_29
                  rw [show g102_26 26 = w47_15 26 from (hG_26 26 (by decide))] at col_29
                  rw [show g102_26 28 8 = (w47_15 28) 8 from rd_ (hG_26 28 (by decide)) rfl] at col_29
                  rw [show g102_26 28 9 = (w47_15 28) 9 from rd_ (hG_26 28 (by decide)) rfl] at col_29
                  rw [show g102_26 29 = h 29 from ((hG_26 29 (by decide))).trans (hF47_15 29 (by decide))] at col_29
                  rw [show g102_26 31 = w47_15 31 from (hG_26 31 (by decide))] at col_29
                  rw [show g102_26 32 = w47_15 32 from (hG_26 32 (by decide))] at col_29
                  rw [show g102_26 33 = w47_15 33 from (hG_26 33 (by decide))] at col_29
                  rw [show g102_26 24 4 = (w47_15 24) 4 from rd_ (hG_26 24 (by decide)) rfl] at k24_29
                  have col_at107 := col_29
                  show TT K ly 0 0 110 [(0, vR 28), (1, vI k), (2, vI q), (3, vI ((k + 2) % 3)), (4, vI y), (5, vI (min 4 (((w22_2 28) 7) - y))), (6, vI x)] [] g107_29
                  refine TT_iinc hK (v := x + 1) (lv' := [(6, vI (x + 1)), (0, vR 28), (1, vI k), (2, vI q), (3, vI ((k + 2) % 3)), (4, vI y), (5, vI (min 4 (((w22_2 28) 7) - y)))]) 6 rfl rfl (by decide) rfl dX4_runPass_110 ?_
                  refine TT_goto hK (tgt := 47) dX4_runPass_113 (by decide) ?_
                  refine TT_sub [1, 2, 3, 4, 5, 6, 0] rfl ?_
                  have e30_28_6 : g107_29 28 6 = (w47_15 28) 6 := rd_ (((hG_29 28 (by decide))).trans (hG_26 28 (by decide))) rfl
                  have e31_28_7 : g107_29 28 7 = (w47_15 28) 7 := rd_ (((hG_29 28 (by decide))).trans (hG_26 28 (by decide))) rfl
                  have e32_28_8 : g107_29 28 8 = (w47_15 28) 8 := rd_ (((hG_29 28 (by decide))).trans (hG_26 28 (by decide))) rfl
                  have e33_28_9 : g107_29 28 9 = (w47_15 28) 9 := rd_ (((hG_29 28 (by decide))).trans (hG_26 28 (by decide))) rfl
                  have e34_24_3 : g107_29 24 3 = (g107_29 24) 3 := rfl
                  have e35_32 : g107_29 32 = w47_15 32 := ((hG_29 32 (by decide))).trans (hG_26 32 (by decide))
                  have e36_33 : g107_29 33 = w47_15 33 := ((hG_29 33 (by decide))).trans (hG_26 33 (by decide))
                  have e37_24_4 : g107_29 24 4 = (g107_29 24) 4 := rfl
                  exact ih15 (x + 1) g107_29 hT_29 hF_29 (by first | omega | (simp [up, setR] <;> omega)) (by rewrite [e30_28_6, e31_28_7, e32_28_8, e33_28_9]; first | omega | (simp [up, setR] <;> omega)) (by rewrite [e34_24_3, e35_32, e36_33]; intro s hs; have qq := hRx s hs; rw [show (x + 1).toNat = x.toNat + 1 by omega]; unfold rowP; rw [show ((x.toNat : Nat) : Int) = x by omega]; first | exact colP_0 qq (by omega) p1_at65 rfl (by omega) (by omega) (by omega) col_at70 | exact colP_1 qq (by omega) p1_at86 rfl (by omega) (by omega) (by omega) col_at91 | exact colP_2 qq (by omega) p1_at102 rfl (by omega) (by omega) (by omega) col_at107) (by rewrite [e37_24_4]; first | omega | (simp [up, setR] <;> omega)) (by first | omega | (simp [up, setR] <;> omega))
                · refine TT_aload_n hK rfl 0 rfl dX4_runPass_81 ?_
                  refine TT_iload hK 6 rfl dX4_runPass_82 ?_
                  refine TT_iload hK 4 rfl dX4_runPass_84 ?_
                  refine iv_X4_51 hK (s_X4_place x y w47_15 hT47_15 (by first | omega | (simp [up, setR] <;> omega)) (by first | omega | (simp [up, setR] <;> omega))) ⟨by decide, by decide⟩ (by decide) rfl rfl (Nat.le_of_ble_eq_true rfl) ⟨by decide, by decide⟩ dX4_runPass_86 ?_
                  intro r9 g86_38 hp9
                  obtain ⟨⟨hT_38, hG_38⟩, z86_38, hr9, hz_38, p1_38⟩ := hp9
                  rw [hr9]
                  have hF_38 : FR [24, 25, 26, 28, 30, 31, 32, 33] h g86_38 := FR_tr hF47_15 hG_38 (by decide)
                  have p1_at86 := p1_38
                  show TT K ly 0 0 89 [(0, vR 28), (1, vI k), (2, vI q), (3, vI ((k + 2) % 3)), (4, vI y), (5, vI (min 4 (((w22_2 28) 7) - y))), (6, vI x)] [vI z86_38, vR 28] g86_38
                  refine TT_iload hK 5 rfl dX4_runPass_89 ?_
                  have e39_29 : g86_38 29 = h 29 := ((hG_38 29 (by decide))).trans (hF47_15 29 (by decide))
                  have e40_28_9 : g86_38 28 9 = (w47_15 28) 9 := rd_ (hG_38 28 (by decide)) rfl
                  refine iv_X4_67 hK (s_refineColumn_e z86_38 (min 4 (((w22_2 28) 7) - y)) g86_38 hT_38 (by first | omega | (simp [up, setR] <;> omega)) (by first | omega | (simp [up, setR] <;> omega)) (by rewrite [e39_29]; first | assumption | exact hM) (by rewrite [e40_28_9]; first | assumption | exact hpl | omega)) (by decide) rfl ⟨by decide, by decide⟩ (by decide) rfl rfl (Nat.le_of_ble_eq_true rfl) ⟨by decide, by decide⟩ dX4_runPass_91 ?_
                  intro r9 g91_41 hp9
                  obtain ⟨⟨hT_41, hG_41⟩, hr9, col_41, k24_41⟩ := hp9
                  rw [hr9]
                  have hF_41 : FR [24, 25, 26, 28, 30, 31, 32, 33] h g91_41 := FR_tr hF_38 hG_41 (by decide)
                  rw [show g86_38 24 3 = (w47_15 24) 3 from rd_ (hG_38 24 (by decide)) rfl] at col_41
                  rw [show g86_38 25 = w47_15 25 from (hG_38 25 (by decide))] at col_41
                  rw [show g86_38 26 = w47_15 26 from (hG_38 26 (by decide))] at col_41
                  rw [show g86_38 28 9 = (w47_15 28) 9 from rd_ (hG_38 28 (by decide)) rfl] at col_41
                  rw [show g86_38 29 = h 29 from ((hG_38 29 (by decide))).trans (hF47_15 29 (by decide))] at col_41
                  rw [show g86_38 31 = w47_15 31 from (hG_38 31 (by decide))] at col_41
                  rw [show g86_38 32 = w47_15 32 from (hG_38 32 (by decide))] at col_41
                  rw [show g86_38 33 = w47_15 33 from (hG_38 33 (by decide))] at col_41
                  rw [show g86_38 24 4 = (w47_15 24) 4 from rd_ (hG_38 24 (by decide)) rfl] at k24_41
                  have col_at91 := col_41
                  show TT K ly 0 0 94 [(0, vR 28), (1, vI k), (2, vI q), (3, vI ((k + 2) % 3)), (4, vI y), (5, vI (min 4 (((w22_2 28) 7) - y))), (6, vI x)] [] g91_41
                  refine TT_goto hK (tgt := 110) dX4_runPass_94 (by decide) ?_
                  refine TT_iinc hK (v := x + 1) (lv' := [(6, vI (x + 1)), (0, vR 28), (1, vI k), (2, vI q), (3, vI ((k + 2) % 3)), (4, vI y), (5, vI (min 4 (((w22_2 28) 7) - y)))]) 6 rfl rfl (by decide) rfl dX4_runPass_110 ?_
                  refine TT_goto hK (tgt := 47) dX4_runPass_113 (by decide) ?_
                  refine TT_sub [1, 2, 3, 4, 5, 6, 0] rfl ?_
                  have e42_28_6 : g91_41 28 6 = (w47_15 28) 6 := rd_ (((hG_41 28 (by decide))).trans (hG_38 28 (by decide))) rfl
                  have e43_28_7 : g91_41 28 7 = (w47_15 28) 7 := rd_ (((hG_41 28 (by decide))).trans (hG_38 28 (by decide))) rfl
                  have e44_28_8 : g91_41 28 8 = (w47_15 28) 8 := rd_ (((hG_41 28 (by decide))).trans (hG_38 28 (by decide))) rfl
                  have e45_28_9 : g91_41 28 9 = (w47_15 28) 9 := rd_ (((hG_41 28 (by decide))).trans (hG_38 28 (by decide))) rfl
                  have e46_24_3 : g91_41 24 3 = (g91_41 24) 3 := rfl
                  have e47_31 : g91_41 31 = w47_15 31 := ((hG_41 31 (by decide))).trans (hG_38 31 (by decide))
                  have e48_32 : g91_41 32 = w47_15 32 := ((hG_41 32 (by decide))).trans (hG_38 32 (by decide))
                  have e49_24_4 : g91_41 24 4 = (g91_41 24) 4 := rfl
                  exact ih15 (x + 1) g91_41 hT_41 hF_41 (by first | omega | (simp [up, setR] <;> omega)) (by rewrite [e42_28_6, e43_28_7, e44_28_8, e45_28_9]; first | omega | (simp [up, setR] <;> omega)) (by rewrite [e46_24_3, e47_31, e48_32]; intro s hs; have qq := hRx s hs; rw [show (x + 1).toNat = x.toNat + 1 by omega]; unfold rowP; rw [show ((x.toNat : Nat) : Int) = x by omega]; first | exact colP_0 qq (by omega) p1_at65 rfl (by omega) (by omega) (by omega) col_at70 | exact colP_1 qq (by omega) p1_at86 rfl (by omega) (by omega) (by omega) col_at91 | exact colP_2 qq (by omega) p1_at102 rfl (by omega) (by omega) (by omega) col_at107) (by rewrite [e49_24_4]; first | omega | (simp [up, setR] <;> omega)) (by first | omega | (simp [up, setR] <;> omega))
              · refine TT_aload_n hK rfl 0 rfl dX4_runPass_60 ?_
                refine TT_iload hK 6 rfl dX4_runPass_61 ?_
                refine TT_iload hK 4 rfl dX4_runPass_63 ?_
                refine iv_X4_51 hK (s_X4_place x y w47_15 hT47_15 (by first | omega | (simp [up, setR] <;> omega)) (by first | omega | (simp [up, setR] <;> omega))) ⟨by decide, by decide⟩ (by decide) rfl rfl (Nat.le_of_ble_eq_true rfl) ⟨by decide, by decide⟩ dX4_runPass_65 ?_
                intro r9 g65_50 hp9
                obtain ⟨⟨hT_50, hG_50⟩, z65_50, hr9, hz_50, p1_50⟩ := hp9
                rw [hr9]
                have hF_50 : FR [24, 25, 26, 28, 30, 31, 32, 33] h g65_50 := FR_tr hF47_15 hG_50 (by decide)
                have p1_at65 := p1_50
                show TT K ly 0 0 68 [(0, vR 28), (1, vI k), (2, vI q), (3, vI ((k + 2) % 3)), (4, vI y), (5, vI (min 4 (((w22_2 28) 7) - y))), (6, vI x)] [vI z65_50, vR 28] g65_50
                refine TT_iload hK 5 rfl dX4_runPass_68 ?_
                have e51_29 : g65_50 29 = h 29 := ((hG_50 29 (by decide))).trans (hF47_15 29 (by decide))
                have e52_28_9 : g65_50 28 9 = (w47_15 28) 9 := rd_ (hG_50 28 (by decide)) rfl
                refine iv_X4_63 hK (s_spreadColumn_e z65_50 (min 4 (((w22_2 28) 7) - y)) g65_50 hT_50 (by first | omega | (simp [up, setR] <;> omega)) (by first | omega | (simp [up, setR] <;> omega)) (by rewrite [e51_29]; first | assumption | exact hM) (by rewrite [e52_28_9]; first | assumption | exact hpl | omega)) (by decide) rfl ⟨by decide, by decide⟩ (by decide) rfl rfl (Nat.le_of_ble_eq_true rfl) ⟨by decide, by decide⟩ dX4_runPass_70 ?_
                intro r9 g70_53 hp9
                obtain ⟨⟨hT_53, hG_53⟩, hr9, col_53, k24_53⟩ := hp9
                rw [hr9]
                have hF_53 : FR [24, 25, 26, 28, 30, 31, 32, 33] h g70_53 := FR_tr hF_50 hG_53 (by decide)
                rw [show g65_50 24 3 = (w47_15 24) 3 from rd_ (hG_50 24 (by decide)) rfl] at col_53
                rw [show g65_50 25 = w47_15 25 from (hG_50 25 (by decide))] at col_53
                rw [show g65_50 26 = w47_15 26 from (hG_50 26 (by decide))] at col_53
                rw [show g65_50 28 8 = (w47_15 28) 8 from rd_ (hG_50 28 (by decide)) rfl] at col_53
                rw [show g65_50 28 9 = (w47_15 28) 9 from rd_ (hG_50 28 (by decide)) rfl] at col_53
                rw [show g65_50 29 = h 29 from ((hG_50 29 (by decide))).trans (hF47_15 29 (by decide))] at col_53
                rw [show g65_50 31 = w47_15 31 from (hG_50 31 (by decide))] at col_53
                rw [show g65_50 32 = w47_15 32 from (hG_50 32 (by decide))] at col_53
                rw [show g65_50 33 = w47_15 33 from (hG_50 33 (by decide))] at col_53
                rw [show g65_50 24 4 = (w47_15 24) 4 from rd_ (hG_50 24 (by decide)) rfl] at k24_53
                have col_at70 := col_53
                show TT K ly 0 0 73 [(0, vR 28), (1, vI k), (2, vI q), (3, vI ((k + 2) % 3)), (4, vI y), (5, vI (min 4 (((w22_2 28) 7) - y))), (6, vI x)] [] g70_53
                refine TT_goto hK (tgt := 110) dX4_runPass_73 (by decide) ?_
                refine TT_iinc hK (v := x + 1) (lv' := [(6, vI (x + 1)), (0, vR 28), (1, vI k), (2, vI q), (3, vI ((k + 2) % 3)), (4, vI y), (5, vI (min 4 (((w22_2 28) 7) - y)))]) 6 rfl rfl (by decide) rfl dX4_runPass_110 ?_
                refine TT_goto hK (tgt := 47) dX4_runPass_113 (by decide) ?_
                refine TT_sub [1, 2, 3, 4, 5, 6, 0] rfl ?_
                have e54_28_6 : g70_53 28 6 = (w47_15 28) 6 := rd_ (((hG_53 28 (by decide))).trans (hG_50 28 (by decide))) rfl
                have e55_28_7 : g70_53 28 7 = (w47_15 28) 7 := rd_ (((hG_53 28 (by decide))).trans (hG_50 28 (by decide))) rfl
                have e56_28_8 : g70_53 28 8 = (w47_15 28) 8 := rd_ (((hG_53 28 (by decide))).trans (hG_50 28 (by decide))) rfl
                have e57_28_9 : g70_53 28 9 = (w47_15 28) 9 := rd_ (((hG_53 28 (by decide))).trans (hG_50 28 (by decide))) rfl
                have e58_24_3 : g70_53 24 3 = (g70_53 24) 3 := rfl
                have e59_33 : g70_53 33 = w47_15 33 := ((hG_53 33 (by decide))).trans (hG_50 33 (by decide))
                have e60_24_4 : g70_53 24 4 = (g70_53 24) 4 := rfl
                exact ih15 (x + 1) g70_53 hT_53 hF_53 (by first | omega | (simp [up, setR] <;> omega)) (by rewrite [e54_28_6, e55_28_7, e56_28_8, e57_28_9]; first | omega | (simp [up, setR] <;> omega)) (by rewrite [e58_24_3, e59_33]; intro s hs; have qq := hRx s hs; rw [show (x + 1).toNat = x.toNat + 1 by omega]; unfold rowP; rw [show ((x.toNat : Nat) : Int) = x by omega]; first | exact colP_0 qq (by omega) p1_at65 rfl (by omega) (by omega) (by omega) col_at70 | exact colP_1 qq (by omega) p1_at86 rfl (by omega) (by omega) (by omega) col_at91 | exact colP_2 qq (by omega) p1_at102 rfl (by omega) (by omega) (by omega) col_at107) (by rewrite [e60_24_4]; first | omega | (simp [up, setR] <;> omega)) (by first | omega | (simp [up, setR] <;> omega))
        refine TT_sub [2, 3, 4, 5, 6, 1, 0] rfl ?_
        have e61_28_6 : w22_2 28 6 = (w22_2 28) 6 := rfl
        have e62_28_7 : w22_2 28 7 = (w22_2 28) 7 := rfl
        have e63_28_8 : w22_2 28 8 = (w22_2 28) 8 := rfl
        have e64_28_9 : w22_2 28 9 = (w22_2 28) 9 := rfl
        have e65_24_3 : w22_2 24 3 = (w22_2 24) 3 := rfl
        have e66_24_4 : w22_2 24 4 = (w22_2 24) 4 := rfl
        exact L47_15 ((((8 : Int) - 0).toNat) + 1) 0 w22_2 hT22_2 hF22_2 (by first | omega | (simp [up, setR] <;> omega)) (by rewrite [e61_28_6, e62_28_7, e63_28_8, e64_28_9]; first | omega | (simp [up, setR] <;> omega)) (by rewrite [e65_24_3]; exact fun s hs => hR s hs) (by rewrite [e66_24_4]; first | omega | (simp [up, setR] <;> omega)) (Nat.lt_succ_self _)
  refine TT_sub [2, 3, 4, 1, 0] rfl ?_
  have e67_28_6 : (setO h 28 (fup (h 28) 9 ((q - 1) - ((k + 2) / 3)))) 28 6 = (h 28) 6 := rd_ (sOf_eq _ _ _) (fup_ne _ _ (by decide))
  have e68_28_7 : (setO h 28 (fup (h 28) 9 ((q - 1) - ((k + 2) / 3)))) 28 7 = (h 28) 7 := rd_ (sOf_eq _ _ _) (fup_ne _ _ (by decide))
  have e69_28_8 : (setO h 28 (fup (h 28) 9 ((q - 1) - ((k + 2) / 3)))) 28 8 = (h 28) 8 := rd_ (sOf_eq _ _ _) (fup_ne _ _ (by decide))
  have e70_28_9 : (setO h 28 (fup (h 28) 9 ((q - 1) - ((k + 2) / 3)))) 28 9 = (q - 1) - ((k + 2) / 3) := rd_ (sOf_eq _ _ _) (fup_eq _ _ _)
  have e71_24_3 : (setO h 28 (fup (h 28) 9 ((q - 1) - ((k + 2) / 3)))) 24 3 = (h 24) 3 := rd_ (sOf_ne _ _ (by decide)) rfl
  have e72_25 : (setO h 28 (fup (h 28) 9 ((q - 1) - ((k + 2) / 3)))) 25 = h 25 := sOf_ne _ _ (by decide)
  have e73_26 : (setO h 28 (fup (h 28) 9 ((q - 1) - ((k + 2) / 3)))) 26 = h 26 := sOf_ne _ _ (by decide)
  have e74_31 : (setO h 28 (fup (h 28) 9 ((q - 1) - ((k + 2) / 3)))) 31 = h 31 := sOf_ne _ _ (by decide)
  have e75_32 : (setO h 28 (fup (h 28) 9 ((q - 1) - ((k + 2) / 3)))) 32 = h 32 := sOf_ne _ _ (by decide)
  have e76_33 : (setO h 28 (fup (h 28) 9 ((q - 1) - ((k + 2) / 3)))) 33 = h 33 := sOf_ne _ _ (by decide)
  have e77_24_4 : (setO h 28 (fup (h 28) 9 ((q - 1) - ((k + 2) / 3)))) 24 4 = (h 24) 4 := rd_ (sOf_ne _ _ (by decide)) rfl
  exact L22_2 ((((8 : Int) - 0).toNat) + 1) 0 (setO h 28 (fup (h 28) 9 ((q - 1) - ((k + 2) / 3)))) hT_1 hF_1 (by first | omega | (simp [up, setR] <;> omega)) (by rewrite [e67_28_6, e68_28_7, e69_28_8, e70_28_9]; first | omega | (simp [up, setR] <;> omega)) (by rewrite [e71_24_3, e72_25, e73_26, e74_31, e75_32, e76_33]; exact fun s hs => hs) (by rewrite [e77_24_4]; first | omega | (simp [up, setR] <;> omega)) (Nat.lt_succ_self _)

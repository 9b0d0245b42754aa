theorem SDA_lf {n l z : Int} (hl : 0 ≤ l ∧ l ≤ 3) (h : SDA n l z) : z = lf n l := by
  unfold SDA at h
  unfold lf
  rcases (show l = 0 ∨ l = 1 ∨ l = 2 ∨ l = 3 by omega) with rfl | rfl | rfl | rfl
  · exact h.1 rfl
  · exact h.2.1 rfl
  · exact h.2.2.1 rfl
  · exact h.2.2.2 rfl
def LAQ (w e l b : Int) (lf_ tp wi hi : Int) : Prop := lf_ = CX w l b ∧ tp = CY e l b ∧ wi = BW w l b ∧ hi = BH e l b
theorem LAQ_0 {w e l p q : Int} (hp : p = lf w l) (hq : q = lf e l) : LAQ w e l 0 0 0 p q := by
  unfold LAQ CX CY BW BH
  rw [if_pos rfl, if_pos rfl, if_pos rfl, if_pos rfl]
  exact ⟨rfl, rfl, hp, hq⟩
theorem LAQ_s {w e l v ow oh lw lh : Int} {g1 g2 g3 g4 : Int → Int} (h : ∀ b : Int, 3 * (l - v + 1) + 1 ≤ b → b < 3 * l + 1 → LAQ w e l b (g1 b) (g2 b) (g3 b) (g4 b)) (hv : 1 ≤ v ∧ v ≤ l) (h1 : ow = lf w (v - 1)) (h2 : oh = lf e (v - 1)) (h3 : lw = lf w v) (h4 : lh = lf e v) :
    ∀ b : Int, 3 * (l - (v + 1) + 1) + 1 ≤ b → b < 3 * l + 1 → LAQ w e l b (fup (fup (fup g1 (3 * (l - v) + 1) lw) (3 * (l - v) + 1 + 1) 0) (3 * (l - v) + 1 + 2) lw b) (fup (fup (fup g2 (3 * (l - v) + 1) 0) (3 * (l - v) + 1 + 1) lh) (3 * (l - v) + 1 + 2) lh b) (fup (fup (fup g3 (3 * (l - v) + 1) (ow - lw)) (3 * (l - v) + 1 + 1) lw) (3 * (l - v) + 1 + 2) (ow - lw) b) (fup (fup (fup g4 (3 * (l - v) + 1) lh) (3 * (l - v) + 1 + 1) (oh - lh)) (3 * (l - v) + 1 + 2) (oh - lh) b) := by
  intro b hb1 hb2
  by_cases c1 : b = 3 * (l - v) + 1 + 2
  · rw [c1, fup_eq, fup_eq, fup_eq, fup_eq]
    unfold LAQ CX CY BW BH
    rw [if_neg (by omega), if_neg (by omega), if_neg (by omega), if_neg (by omega), if_neg (by omega), if_neg (by omega), if_neg (by omega), if_neg (by omega), show l - (3 * (l - v) + 1 + 2 - 1) / 3 = v by omega]
    exact ⟨h3, h4, by rw [h1, h3], by rw [h2, h4]⟩
  · rw [fup_ne _ _ c1, fup_ne _ _ c1, fup_ne _ _ c1, fup_ne _ _ c1]
    by_cases c2 : b = 3 * (l - v) + 1 + 1
    · rw [c2, fup_eq, fup_eq, fup_eq, fup_eq]
      unfold LAQ CX CY BW BH
      rw [if_neg (by omega), if_pos (by omega), if_neg (by omega), if_neg (by omega), if_neg (by omega), if_pos (by omega), if_neg (by omega), if_neg (by omega), show l - (3 * (l - v) + 1 + 1 - 1) / 3 = v by omega]
      exact ⟨rfl, h4, h3, by rw [h2, h4]⟩
    · rw [fup_ne _ _ c2, fup_ne _ _ c2, fup_ne _ _ c2, fup_ne _ _ c2]
      by_cases c3 : b = 3 * (l - v) + 1
      · rw [c3, fup_eq, fup_eq, fup_eq, fup_eq]
        unfold LAQ CX CY BW BH
        rw [if_neg (by omega), if_neg (by omega), if_neg (by omega), if_pos (by omega), if_neg (by omega), if_neg (by omega), if_neg (by omega), if_pos (by omega), show l - (3 * (l - v) + 1 - 1) / 3 = v by omega]
        exact ⟨h3, rfl, by rw [h1, h3], h4⟩
      · rw [fup_ne _ _ c3, fup_ne _ _ c3, fup_ne _ _ c3, fup_ne _ _ c3]
        exact h b (by omega) hb2
def wT8 (f n : Int) (tt sq : Int → Int) (i : Int) : Int := if i % 8 = f ∧ i / 8 < n then tt (i / 8) else sq i
def wT1 (f n : Int) (tt sq : Int → Int) (i : Int) : Int := if f ≤ i ∧ i < f + n then tt (i - f) else sq i
theorem wT8_E {f n : Int} {tt sq : Int → Int} {t : Int} (hn : 2 ≤ n) (ht : 0 ≤ t ∧ t < 64) (h : ∀ j : Int, 0 ≤ j → j < n → tt j = fE (fun j => sq (f + 8 * j)) n j) : wT8 f n tt sq t = wE8 f n n sq t := by
  unfold wT8 wE8
  by_cases c : t % 8 = f ∧ t / 8 < n
  · rw [if_pos c, if_pos c]
    exact h _ (by omega) (by omega)
  · rw [if_neg c, if_neg c]
theorem wT1_E {f n : Int} {tt sq : Int → Int} {t : Int} (hn : 2 ≤ n) (ht : 0 ≤ t ∧ t < 64) (h : ∀ j : Int, 0 ≤ j → j < n → tt j = fE (fun j => sq (f + 1 * j)) n j) : wT1 f n tt sq t = wE1 f n n sq t := by
  unfold wT1 wE1
  by_cases c : f ≤ t ∧ t < f + n
  · rw [if_pos c, if_pos c]
    exact h _ (by omega) (by omega)
  · rw [if_neg c, if_neg c]
theorem wE8_1 {f n : Int} {sq : Int → Int} {t : Int} (hn : 1 ≤ n ∧ n < 2) (h0 : 0 ≤ t) : wE8 f n n sq t = sq t := by
  have e : n = 1 := by omega
  subst e
  unfold wE8
  by_cases c : t % 8 = f ∧ t / 8 < 1
  · rw [if_pos c]
    unfold fE
    rw [if_pos (by omega), if_pos rfl]
    show sq (f + 8 * 0) = sq t
    rw [show f + 8 * 0 = t by omega]
  · rw [if_neg c]
theorem wE1_1 {f n : Int} {sq : Int → Int} {t : Int} (hn : 1 ≤ n ∧ n < 2) (h0 : 0 ≤ t) : wE1 f n n sq t = sq t := by
  have e : n = 1 := by omega
  subst e
  unfold wE1
  by_cases c : f ≤ t ∧ t < f + 1
  · rw [if_pos c]
    unfold fE
    rw [if_pos (by omega), if_pos rfl]
    show sq (f + 1 * 0) = sq t
    rw [show f + 1 * 0 = t by omega]
  · rw [if_neg c]
theorem dE_nx {g : Int → Int} {k n nx : Int} (hn : 2 ≤ n ∧ n ≤ 8) (hk : 0 ≤ k ∧ k < n / 2) (hx : (2 * k + 2 < n → nx = g (2 * k + 2)) ∧ (n ≤ 2 * k + 2 → nx = g (2 * k))) : g (2 * k + 1) - (g (2 * k) + nx) / 2 = dE g k n := by
  unfold dE
  have e : dI k n = k := by unfold dI; rw [if_neg (by omega), if_neg (by omega)]
  have e1 : mI (2 * k) n = 2 * k := by unfold mI; rw [if_pos (by omega)]
  rw [e, e1]
  by_cases c : 2 * k + 2 < n
  · rw [hx.1 c, show mI (2 * k + 2) n = 2 * k + 2 by unfold mI; rw [if_pos c]]
  · rw [hx.2 (by omega), show mI (2 * k + 2) n = 2 * k by unfold mI; rw [if_neg c]; omega]
theorem dE_dI {g : Int → Int} {j k n : Int} (h : dI j n = dI k n) : dE g j n = dE g k n := by
  unfold dE
  rw [h]
theorem fE_4 {g to : Int → Int} {k n z : Int} (hn : 2 ≤ n ∧ n ≤ 8) (hk : 0 ≤ k ∧ k < (n + 1) / 2) (hd : ∀ j : Int, 0 ≤ j → j < n / 2 → to ((n + 1) / 2 + j) = dE g j n) (hz : z = (to ((n + 1) / 2 + max (k - 1) 0) + to ((n + 1) / 2 + min k (n / 2 - 1)) + 2) / 4) : g (2 * k) + z = fE g n k := by
  unfold fE
  rw [if_pos hk.2, if_neg (by omega), hz, hd _ (by omega) (by omega), hd _ (by omega) (by omega)]
  have e1 : dE g (max (k - 1) 0) n = dE g (k - 1) n := dE_dI (by unfold dI; (repeat' split) <;> omega)
  have e2 : dE g (min k (n / 2 - 1)) n = dE g k n := dE_dI (by unfold dI; (repeat' split) <;> omega)
  rw [e1, e2]
theorem fE_all {g to : Int → Int} {n : Int} (hn : 2 ≤ n ∧ n ≤ 8) (h1 : ∀ j : Int, 0 ≤ j → j < (n + 1) / 2 → to j = fE g n j) (hd : ∀ j : Int, 0 ≤ j → j < n / 2 → to ((n + 1) / 2 + j) = dE g j n) : ∀ j : Int, 0 ≤ j → j < n → to j = fE g n j := by
  intro j g1 g2
  by_cases c : j < (n + 1) / 2
  · exact h1 j g1 c
  · have k := hd (j - (n + 1) / 2) (by omega) (by omega)
    rw [show (n + 1) / 2 + (j - (n + 1) / 2) = j by omega] at k
    rw [k]
    unfold fE
    rw [if_neg c]
set_option maxRecDepth 20000 in
theorem s_sideAfter_x (n l : Int) (h : Hp_) (hT : TY h) (hn : 0 ≤ n ∧ n ≤ 8) (hl : 0 ≤ l ∧ l ≤ 3) : Ctr yX0_sideAfter cX0_sideAfter 2 (some .int) (rmd 0) ly ly 0 0 [vI n, vI l] h (fun r h' => (TY h' ∧ FR [] h h') ∧ ∃ z : Int, r = some (vI z) ∧ (0 ≤ z ∧ z ≤ 8) ∧ (z = lf n l)) := by
  refine Ctr_of (by decide) (Nat.le_of_ble_eq_true rfl) ⟨Nat.le_refl _, Nat.le_refl _⟩ (fun K hK hQ _ => ?_)
  show TT K ly 0 0 0 [(0, vI n), (1, vI l)] [] h
  have hF : FR [] h h := FR_rf _ _
  refine TT_iload_n hK rfl 0 rfl dX0_sideAfter_0 ?_
  refine TT_iconst hK dX0_sideAfter_1 ?_
  refine TT_iload_n hK rfl 1 rfl dX0_sideAfter_2 ?_
  refine TT_ishl hK (by omega) (by omega) dX0_sideAfter_3 ?_
  refine TT_nmI (fun p9 hp9 => ?_)
  refine TT_iadd hK dX0_sideAfter_4 ?_
  have k8 := sdP hl hp9
  refine TT_iconst hK dX0_sideAfter_5 ?_
  refine TT_isub hK dX0_sideAfter_6 ?_
  refine TT_iload_n hK rfl 1 rfl dX0_sideAfter_7 ?_
  refine TT_ishr hK (irm (by omega) (by omega)) (by omega) (by omega) dX0_sideAfter_8 ?_
  refine TT_nmI (fun z9 hz9 => ?_)
  refine TT_iret hK hQ ?_ dX0_sideAfter_9
  exact ⟨⟨hT, hF⟩, z9, rfl, (by have k9 := sdA hl hp9 hz9; omega), (by exact SDA_lf hl (sdA hl hp9 hz9))⟩
set_option maxRecDepth 20000 in
theorem s_layBand_x (b x y p q : Int) (h : Hp_) (hT : TY h) (hb : 0 ≤ b ∧ b ≤ 9) (hx : 0 ≤ x ∧ x ≤ 8) (hy : 0 ≤ y ∧ y ≤ 8) (hp : 0 ≤ p ∧ p ≤ 8) (hq : 0 ≤ q ∧ q ≤ 8) (h1 : x + p ≤ 8) (h2 : y + q ≤ 8) (hbd : BDQ (h 10) (h 12) (h 11) (h 13)) : Ctr yX0_layBand cX0_layBand 6 none (rmd 0) ly ly 0 0 [vR 8, vI b, vI x, vI y, vI p, vI q] h (fun r h' => (TY h' ∧ FR [10, 11, 12, 13] h h') ∧ r = none ∧ (BDQ (h' 10) (h' 12) (h' 11) (h' 13)) ∧ ((h' 10) = fup (h 10) b x) ∧ ((h' 11) = fup (h 11) b y) ∧ ((h' 12) = fup (h 12) b p) ∧ ((h' 13) = fup (h 13) b q)) := by
  refine Ctr_of (by decide) (Nat.le_of_ble_eq_true rfl) ⟨Nat.le_refl _, Nat.le_refl _⟩ (fun K hK hQ _ => ?_)
  show TT K ly 0 0 0 [(0, vR 8), (1, vI b), (2, vI x), (3, vI y), (4, vI p), (5, vI q)] [] h
  have hF : FR [10, 11, 12, 13] h h := FR_rf _ _
  refine TT_aload_n hK rfl 0 rfl dX0_layBand_0 ?_
  refine gf_X0_15 hK (by decide) rfl (q := 10) rfl rfl dX0_layBand_1 ?_
  refine TT_iload_n hK rfl 1 rfl dX0_layBand_4 ?_
  refine TT_iload_n hK rfl 2 rfl dX0_layBand_5 ?_
  refine TT_iast hK (o := 10) (n := 10) (by decide) rfl (by omega) (by omega) dX0_layBand_6 ?_
  refine TT_hp (h' := setO h 10 (fup (h 10) b x)) (up_can rfl rfl rfl) ?_
  have hT_1 : TY (setO h 10 (fup (h 10) b x)) := tu_10 hT (show up h 10 b x = (setO h 10 (fup (h 10) b x)) from up_can rfl rfl rfl) (by omega)
  have hF_1 : FR [10, 11, 12, 13] h (setO h 10 (fup (h 10) b x)) := FR_up (show up h 10 b x = (setO h 10 (fup (h 10) b x)) from up_can rfl rfl rfl) hF (by decide)
  refine TT_aload_n hK rfl 0 rfl dX0_layBand_7 ?_
  refine gf_X0_18 hK (by decide) rfl (q := 11) rfl rfl dX0_layBand_8 ?_
  refine TT_iload_n hK rfl 1 rfl dX0_layBand_11 ?_
  refine TT_iload_n hK rfl 3 rfl dX0_layBand_12 ?_
  refine TT_iast hK (o := 11) (n := 10) (by decide) rfl (by omega) (by omega) dX0_layBand_13 ?_
  refine TT_hp (h' := setO (setO h 10 (fup (h 10) b x)) 11 (fup (h 11) b y)) (up_can (sOf_ne _ _ (by decide)) rfl rfl) ?_
  have hT_2 : TY (setO (setO h 10 (fup (h 10) b x)) 11 (fup (h 11) b y)) := tu_11 hT_1 (show up (setO h 10 (fup (h 10) b x)) 11 b y = (setO (setO h 10 (fup (h 10) b x)) 11 (fup (h 11) b y)) from up_can (sOf_ne _ _ (by decide)) rfl rfl) (by omega)
  have hF_2 : FR [10, 11, 12, 13] h (setO (setO h 10 (fup (h 10) b x)) 11 (fup (h 11) b y)) := FR_up (show up (setO h 10 (fup (h 10) b x)) 11 b y = (setO (setO h 10 (fup (h 10) b x)) 11 (fup (h 11) b y)) from up_can (sOf_ne _ _ (by decide)) rfl rfl) hF_1 (by decide)
  refine TT_aload_n hK rfl 0 rfl dX0_layBand_14 ?_
  refine gf_X0_21 hK (by decide) rfl (q := 12) rfl rfl dX0_layBand_15 ?_
  refine TT_iload_n hK rfl 1 rfl dX0_layBand_18 ?_
  refine TT_iload hK 4 rfl dX0_layBand_19 ?_
  refine TT_iast hK (o := 12) (n := 10) (by decide) rfl (by omega) (by omega) dX0_layBand_21 ?_
  refine TT_hp (h' := setO (setO (setO h 10 (fup (h 10) b x)) 11 (fup (h 11) b y)) 12 (fup (h 12) b p)) (up_can ((sOf_ne _ _ (by decide)).trans (sOf_ne _ _ (by decide))) rfl rfl) ?_
  have hT_3 : TY (setO (setO (setO h 10 (fup (h 10) b x)) 11 (fup (h 11) b y)) 12 (fup (h 12) b p)) := tu_12 hT_2 (show up (setO (setO h 10 (fup (h 10) b x)) 11 (fup (h 11) b y)) 12 b p = (setO (setO (setO h 10 (fup (h 10) b x)) 11 (fup (h 11) b y)) 12 (fup (h 12) b p)) from up_can ((sOf_ne _ _ (by decide)).trans (sOf_ne _ _ (by decide))) rfl rfl) (by omega)
  have hF_3 : FR [10, 11, 12, 13] h (setO (setO (setO h 10 (fup (h 10) b x)) 11 (fup (h 11) b y)) 12 (fup (h 12) b p)) := FR_up (show up (setO (setO h 10 (fup (h 10) b x)) 11 (fup (h 11) b y)) 12 b p = (setO (setO (setO h 10 (fup (h 10) b x)) 11 (fup (h 11) b y)) 12 (fup (h 12) b p)) from up_can ((sOf_ne _ _ (by decide)).trans (sOf_ne _ _ (by decide))) rfl rfl) hF_2 (by decide)
  refine TT_aload_n hK rfl 0 rfl dX0_layBand_22 ?_
  refine gf_X0_24 hK (by decide) rfl (q := 13) rfl rfl dX0_layBand_23 ?_
  refine TT_iload_n hK rfl 1 rfl dX0_layBand_26 ?_
  refine TT_iload hK 5 rfl dX0_layBand_27 ?_
  refine TT_iast hK (o := 13) (n := 10) (by decide) rfl (by omega) (by omega) dX0_layBand_29 ?_
  refine TT_hp (h' := setO (setO (setO (setO h 10 (fup (h 10) b x)) 11 (fup (h 11) b y)) 12 (fup (h 12) b p)) 13 (fup (h 13) b q)) (up_can ((sOf_ne _ _ (by decide)).trans ((sOf_ne _ _ (by decide)).trans (sOf_ne _ _ (by decide)))) rfl rfl) ?_
  have hT_4 : TY (setO (setO (setO (setO h 10 (fup (h 10) b x)) 11 (fup (h 11) b y)) 12 (fup (h 12) b p)) 13 (fup (h 13) b q)) := tu_13 hT_3 (show up (setO (setO (setO h 10 (fup (h 10) b x)) 11 (fup (h 11) b y)) 12 (fup (h 12) b p)) 13 b q = (setO (setO (setO (setO h 10 (fup (h 10) b x)) 11 (fup (h 11) b y)) 12 (fup (h 12) b p)) 13 (fup (h 13) b q)) from up_can ((sOf_ne _ _ (by decide)).trans ((sOf_ne _ _ (by decide)).trans (sOf_ne _ _ (by decide)))) rfl rfl) (by omega)
  have hF_4 : FR [10, 11, 12, 13] h (setO (setO (setO (setO h 10 (fup (h 10) b x)) 11 (fup (h 11) b y)) 12 (fup (h 12) b p)) 13 (fup (h 13) b q)) := FR_up (show up (setO (setO (setO h 10 (fup (h 10) b x)) 11 (fup (h 11) b y)) 12 (fup (h 12) b p)) 13 b q = (setO (setO (setO (setO h 10 (fup (h 10) b x)) 11 (fup (h 11) b y)) 12 (fup (h 12) b p)) 13 (fup (h 13) b q)) from up_can ((sOf_ne _ _ (by decide)).trans ((sOf_ne _ _ (by decide)).trans (sOf_ne _ _ (by decide)))) rfl rfl) hF_3 (by decide)
  refine TT_vret hK hQ ?_ dX0_layBand_30
  have e5_10 : (setO (setO (setO (setO h 10 (fup (h 10) b x)) 11 (fup (h 11) b y)) 12 (fup (h 12) b p)) 13 (fup (h 13) b q)) 10 = fup (h 10) b x := (sOf_ne _ _ (by decide)).trans ((sOf_ne _ _ (by decide)).trans ((sOf_ne _ _ (by decide)).trans (sOf_eq _ _ _)))
  have e6_11 : (setO (setO (setO (setO h 10 (fup (h 10) b x)) 11 (fup (h 11) b y)) 12 (fup (h 12) b p)) 13 (fup (h 13) b q)) 11 = fup (h 11) b y := (sOf_ne _ _ (by decide)).trans ((sOf_ne _ _ (by decide)).trans (sOf_eq _ _ _))
  have e7_12 : (setO (setO (setO (setO h 10 (fup (h 10) b x)) 11 (fup (h 11) b y)) 12 (fup (h 12) b p)) 13 (fup (h 13) b q)) 12 = fup (h 12) b p := (sOf_ne _ _ (by decide)).trans (sOf_eq _ _ _)
  have e8_13 : (setO (setO (setO (setO h 10 (fup (h 10) b x)) 11 (fup (h 11) b y)) 12 (fup (h 12) b p)) 13 (fup (h 13) b q)) 13 = fup (h 13) b q := sOf_eq _ _ _
  have e9_10 : (setO (setO (setO (setO h 10 (fup (h 10) b x)) 11 (fup (h 11) b y)) 12 (fup (h 12) b p)) 13 (fup (h 13) b q)) 10 = fup (h 10) b x := (sOf_ne _ _ (by decide)).trans ((sOf_ne _ _ (by decide)).trans ((sOf_ne _ _ (by decide)).trans (sOf_eq _ _ _)))
  have e10_11 : (setO (setO (setO (setO h 10 (fup (h 10) b x)) 11 (fup (h 11) b y)) 12 (fup (h 12) b p)) 13 (fup (h 13) b q)) 11 = fup (h 11) b y := (sOf_ne _ _ (by decide)).trans ((sOf_ne _ _ (by decide)).trans (sOf_eq _ _ _))
  have e11_12 : (setO (setO (setO (setO h 10 (fup (h 10) b x)) 11 (fup (h 11) b y)) 12 (fup (h 12) b p)) 13 (fup (h 13) b q)) 12 = fup (h 12) b p := (sOf_ne _ _ (by decide)).trans (sOf_eq _ _ _)
  have e12_13 : (setO (setO (setO (setO h 10 (fup (h 10) b x)) 11 (fup (h 11) b y)) 12 (fup (h 12) b p)) 13 (fup (h 13) b q)) 13 = fup (h 13) b q := sOf_eq _ _ _
  exact ⟨⟨hT_4, hF_4⟩, rfl, (by rewrite [e5_10, e6_11, e7_12, e8_13]; exact BDQ_up hbd h1 h2), (by rewrite [e9_10]; rfl), (by rewrite [e10_11]; rfl), (by rewrite [e11_12]; rfl), (by rewrite [e12_13]; rfl)⟩
set_option maxRecDepth 20000 in
theorem s_lay_x (wq eq lq : Int) (h : Hp_) (hT : TY h) (hwq : 0 ≤ wq ∧ wq ≤ 8) (heq : 0 ≤ eq ∧ eq ≤ 8) (hlq : 0 ≤ lq ∧ lq ≤ 3) (hbd : BDQ (h 10) (h 12) (h 11) (h 13)) : Ctr yX0_lay cX0_lay 10 none (rmd 1) ly ly 0 0 [vR 8, vI wq, vI eq, vI lq] h (fun r h' => (TY h' ∧ FR [8, 10, 11, 12, 13] h h') ∧ r = none ∧ (BDQ (h' 10) (h' 12) (h' 11) (h' 13)) ∧ ((h' 8 7) = wq ∧ (h' 8 8) = eq ∧ (h' 8 9) = lq ∧ (h' 8 10) = 3 * lq + 1) ∧ (∀ b : Int, 0 ≤ b → b < 3 * lq + 1 → LAQ wq eq lq b ((h' 10) b) ((h' 11) b) ((h' 12) b) ((h' 13) b))) := by
  refine Ctr_of (by decide) (Nat.le_of_ble_eq_true rfl) ⟨Nat.le_refl _, Nat.le_refl _⟩ (fun K hK hQ _ => ?_)
  show TT K ly 0 0 0 [(0, vR 8), (1, vI wq), (2, vI eq), (3, vI lq)] [] h
  have hF : FR [8, 10, 11, 12, 13] h h := FR_rf _ _
  refine TT_aload_n hK rfl 0 rfl dX0_lay_0 ?_
  refine TT_iload_n hK rfl 1 rfl dX0_lay_1 ?_
  refine pf_X0_33 hK (by decide) rfl dX0_lay_2 ?_
  refine TT_hp (h' := setO h 8 (fup (h 8) 7 wq)) (up_can rfl rfl rfl) ?_
  have hT_1 : TY (setO h 8 (fup (h 8) 7 wq)) := tu_8_7 hT (show up h 8 7 wq = (setO h 8 (fup (h 8) 7 wq)) from up_can rfl rfl rfl) (by omega)
  have hF_1 : FR [8, 10, 11, 12, 13] h (setO h 8 (fup (h 8) 7 wq)) := FR_up (show up h 8 7 wq = (setO h 8 (fup (h 8) 7 wq)) from up_can rfl rfl rfl) hF (by decide)
  refine TT_aload_n hK rfl 0 rfl dX0_lay_5 ?_
  refine TT_iload_n hK rfl 2 rfl dX0_lay_6 ?_
  refine pf_X0_37 hK (by decide) rfl dX0_lay_7 ?_
  refine TT_hp (h' := setO h 8 (fup (fup (h 8) 7 wq) 8 eq)) (up_can (sOf_eq _ _ _) rfl (setO_same _ _ _ _)) ?_
  have hT_2 : TY (setO h 8 (fup (fup (h 8) 7 wq) 8 eq)) := tu_8_8 hT_1 (show up (setO h 8 (fup (h 8) 7 wq)) 8 8 eq = (setO h 8 (fup (fup (h 8) 7 wq) 8 eq)) from up_can (sOf_eq _ _ _) rfl (setO_same _ _ _ _)) (by omega)
  have hF_2 : FR [8, 10, 11, 12, 13] h (setO h 8 (fup (fup (h 8) 7 wq) 8 eq)) := FR_up (show up (setO h 8 (fup (h 8) 7 wq)) 8 8 eq = (setO h 8 (fup (fup (h 8) 7 wq) 8 eq)) from up_can (sOf_eq _ _ _) rfl (setO_same _ _ _ _)) hF_1 (by decide)
  refine TT_aload_n hK rfl 0 rfl dX0_lay_10 ?_
  refine TT_iload_n hK rfl 3 rfl dX0_lay_11 ?_
  refine pf_X0_40 hK (by decide) rfl dX0_lay_12 ?_
  refine TT_hp (h' := setO h 8 (fup (fup (fup (h 8) 7 wq) 8 eq) 9 lq)) (up_can (sOf_eq _ _ _) rfl (setO_same _ _ _ _)) ?_
  have hT_3 : TY (setO h 8 (fup (fup (fup (h 8) 7 wq) 8 eq) 9 lq)) := tu_8_9 hT_2 (show up (setO h 8 (fup (fup (h 8) 7 wq) 8 eq)) 8 9 lq = (setO h 8 (fup (fup (fup (h 8) 7 wq) 8 eq) 9 lq)) from up_can (sOf_eq _ _ _) rfl (setO_same _ _ _ _)) (by omega)
  have hF_3 : FR [8, 10, 11, 12, 13] h (setO h 8 (fup (fup (fup (h 8) 7 wq) 8 eq) 9 lq)) := FR_up (show up (setO h 8 (fup (fup (h 8) 7 wq) 8 eq)) 8 9 lq = (setO h 8 (fup (fup (fup (h 8) 7 wq) 8 eq) 9 lq)) from up_can (sOf_eq _ _ _) rfl (setO_same _ _ _ _)) hF_2 (by decide)
  refine TT_aload_n hK rfl 0 rfl dX0_lay_15 ?_
  refine TT_iconst hK dX0_lay_16 ?_
  refine TT_aload_n hK rfl 0 rfl dX0_lay_17 ?_
  refine gf_X0_40 hK (by decide) rfl (v := lq) (rd_ (sOf_eq _ _ _) (fup_eq _ _ _)) dX0_lay_18 ?_
  have r4 := ty_8_9 (v := lq) hT_3 (rd_ (sOf_eq _ _ _) (fup_eq _ _ _))
  refine TT_imul hK dX0_lay_21 ?_
  refine TT_iconst hK dX0_lay_22 ?_
  refine TT_iadd hK dX0_lay_23 ?_
  refine pf_X0_43 hK (by decide) rfl dX0_lay_24 ?_
  refine TT_hp (h' := setO h 8 (fup (fup (fup (fup (h 8) 7 wq) 8 eq) 9 lq) 10 ((3 * lq) + 1))) (up_can (sOf_eq _ _ _) rfl (setO_same _ _ _ _)) ?_
  have hT_5 : TY (setO h 8 (fup (fup (fup (fup (h 8) 7 wq) 8 eq) 9 lq) 10 ((3 * lq) + 1))) := tu_8_10 hT_3 (show up (setO h 8 (fup (fup (fup (h 8) 7 wq) 8 eq) 9 lq)) 8 10 ((3 * lq) + 1) = (setO h 8 (fup (fup (fup (fup (h 8) 7 wq) 8 eq) 9 lq) 10 ((3 * lq) + 1))) from up_can (sOf_eq _ _ _) rfl (setO_same _ _ _ _)) (by omega)
  have hF_5 : FR [8, 10, 11, 12, 13] h (setO h 8 (fup (fup (fup (fup (h 8) 7 wq) 8 eq) 9 lq) 10 ((3 * lq) + 1))) := FR_up (show up (setO h 8 (fup (fup (fup (h 8) 7 wq) 8 eq) 9 lq)) 8 10 ((3 * lq) + 1) = (setO h 8 (fup (fup (fup (fup (h 8) 7 wq) 8 eq) 9 lq) 10 ((3 * lq) + 1))) from up_can (sOf_eq _ _ _) rfl (setO_same _ _ _ _)) hF_3 (by decide)
  refine TT_iconst hK dX0_lay_27 ?_
  refine TT_istore hK (lv' := [(4, vI 1), (0, vR 8), (1, vI wq), (2, vI eq), (3, vI lq)]) (by decide) rfl dX0_lay_28 ?_
  have L30_6 : ∀ (k6 : Nat) (lv9 : Int) (w30_6 : Hp_), TY w30_6 → FR [8, 10, 11, 12, 13] h w30_6 → (1 ≤ lv9 ∧ lv9 ≤ lq + 1) → (BDQ (w30_6 10) (w30_6 12) (w30_6 11) (w30_6 13)) → ((w30_6 8 7) = wq) → ((w30_6 8 8) = eq) → ((w30_6 8 9) = lq) → ((w30_6 8 10) = 3 * lq + 1) → (∀ b : Int, 3 * (lq - lv9 + 1) + 1 ≤ b → b < 3 * lq + 1 → LAQ wq eq lq b ((w30_6 10) b) ((w30_6 11) b) ((w30_6 12) b) ((w30_6 13) b)) → ((4 : Int) - lv9).toNat < k6 → TT K ly 0 0 30 [(0, vR 8), (4, vI lv9)] [] w30_6 := by
    intro k6
    induction k6 with
    | zero => intro lv9 w30_6 hT30_6 hF30_6 hlv hb9 kw ke kl kc hly hk6; exact absurd hk6 (Nat.not_lt_zero _)
    | succ k6 ih6 =>
      intro lv9 w30_6 hT30_6 hF30_6 hlv hb9 kw ke kl kc hly hk6
      refine TT_iload hK 1 rfl dX0_lay_30 ?_
      refine TT_aload_n hK rfl 0 rfl dX0_lay_32 ?_
      refine gf_X0_40 hK (by decide) rfl (v := (w30_6 8) 9) rfl dX0_lay_33 ?_
      have r7 := ty_8_9 (v := (w30_6 8) 9) hT30_6 rfl
      refine TT_cgI (b := lq) (by exact kl) ?_
      refine TT_icmp_gt hK (tgt := 162) (irm (by omega) (by omega)) (irm (by omega) (by omega)) dX0_lay_36 (by decide) (fun hb36_8 => ?_) (fun hb36_8 => ?_)
      · refine TT_aload_n hK rfl 0 rfl dX0_lay_162 ?_
        refine TT_iconst hK dX0_lay_163 ?_
        refine TT_iconst hK dX0_lay_164 ?_
        refine TT_iconst hK dX0_lay_165 ?_
        refine TT_aload_n hK rfl 0 rfl dX0_lay_166 ?_
        refine gf_X0_33 hK (by decide) rfl (v := (w30_6 8) 7) rfl dX0_lay_167 ?_
        have r9 := ty_8_7 (v := (w30_6 8) 7) hT30_6 rfl
        refine TT_cgI (b := wq) (by exact kw) ?_
        refine TT_aload_n hK rfl 0 rfl dX0_lay_170 ?_
        refine gf_X0_40 hK (by decide) rfl (v := (w30_6 8) 9) rfl dX0_lay_171 ?_
        refine TT_cgI (b := lq) (by exact kl) ?_
        refine iv_X0_46 hK (s_sideAfter_x wq lq w30_6 hT30_6 (by first | omega | (simp [up, setR] <;> omega)) (by first | omega | (simp [up, setR] <;> omega))) ⟨by decide, by decide⟩ (by decide) rfl rfl (Nat.le_of_ble_eq_true rfl) ⟨by decide, by decide⟩ dX0_lay_174 ?_
        intro r9 g174_10 hp9
        obtain ⟨⟨hT_10, hG_10⟩, z174_10, hr9, hz_10, p1_10⟩ := hp9
        rw [hr9]
        have hF_10 : FR [8, 10, 11, 12, 13] h g174_10 := FR_tr hF30_6 hG_10 (by decide)
        have p1_at174 := p1_10
        show TT K ly 0 0 177 [(0, vR 8), (4, vI lv9)] [vI z174_10, vI 0, vI 0, vI 0, vR 8] g174_10
        refine TT_aload_n hK rfl 0 rfl dX0_lay_177 ?_
        refine gf_X0_37 hK (by decide) rfl (v := (w30_6 8) 8) (rd_ (hG_10 8 (by decide)) rfl) dX0_lay_178 ?_
        have r11 := ty_8_8 (v := (w30_6 8) 8) hT_10 (rd_ (hG_10 8 (by decide)) rfl)
        refine TT_cgI (b := eq) (by exact ke) ?_
        refine TT_aload_n hK rfl 0 rfl dX0_lay_181 ?_
        refine gf_X0_40 hK (by decide) rfl (v := (w30_6 8) 9) (rd_ (hG_10 8 (by decide)) rfl) dX0_lay_182 ?_
        refine TT_cgI (b := lq) (by exact kl) ?_
        refine iv_X0_46 hK (s_sideAfter_x eq lq g174_10 hT_10 (by first | omega | (simp [up, setR] <;> omega)) (by first | omega | (simp [up, setR] <;> omega))) ⟨by decide, by decide⟩ (by decide) rfl rfl (Nat.le_of_ble_eq_true rfl) ⟨by decide, by decide⟩ dX0_lay_185 ?_
        intro r9 g185_12 hp9
        obtain ⟨⟨hT_12, hG_12⟩, z185_12, hr9, hz_12, p1_12⟩ := hp9
        rw [hr9]
        have hF_12 : FR [8, 10, 11, 12, 13] h g185_12 := FR_tr hF_10 hG_12 (by decide)
        have p1_at185 := p1_12
        show TT K ly 0 0 188 [(0, vR 8), (4, vI lv9)] [vI z185_12, vI z174_10, vI 0, vI 0, vI 0, vR 8] g185_12
        have e13_10 : g185_12 10 = w30_6 10 := ((hG_12 10 (by decide))).trans (hG_10 10 (by decide))
        have e14_11 : g185_12 11 = w30_6 11 := ((hG_12 11 (by decide))).trans (hG_10 11 (by decide))
        have e15_12 : g185_12 12 = w30_6 12 := ((hG_12 12 (by decide))).trans (hG_10 12 (by decide))
        have e16_13 : g185_12 13 = w30_6 13 := ((hG_12 13 (by decide))).trans (hG_10 13 (by decide))
        refine iv_X0_50 hK (s_layBand_x 0 0 0 z174_10 z185_12 g185_12 hT_12 (by first | omega | (simp [up, setR] <;> omega)) (by first | omega | (simp [up, setR] <;> omega)) (by first | omega | (simp [up, setR] <;> omega)) (by first | omega | (simp [up, setR] <;> omega)) (by first | omega | (simp [up, setR] <;> omega)) (by first | omega | (simp [up, setR] <;> omega)) (by first | omega | (simp [up, setR] <;> omega)) (by rewrite [e13_10, e14_11, e15_12, e16_13]; assumption)) (by decide) rfl ⟨by decide, by decide⟩ (by decide) rfl rfl (Nat.le_of_ble_eq_true rfl) ⟨by decide, by decide⟩ dX0_lay_188 ?_
        intro r9 g188_17 hp9
        obtain ⟨⟨hT_17, hG_17⟩, hr9, p1_17, u1_17, u2_17, u3_17, u4_17⟩ := hp9
        rw [hr9]
        have hF_17 : FR [8, 10, 11, 12, 13] h g188_17 := FR_tr hF_12 hG_17 (by decide)
        rw [show g185_12 10 = w30_6 10 from ((hG_12 10 (by decide))).trans (hG_10 10 (by decide))] at u1_17
        rw [show g185_12 11 = w30_6 11 from ((hG_12 11 (by decide))).trans (hG_10 11 (by decide))] at u2_17
        rw [show g185_12 12 = w30_6 12 from ((hG_12 12 (by decide))).trans (hG_10 12 (by decide))] at u3_17
        rw [show g185_12 13 = w30_6 13 from ((hG_12 13 (by decide))).trans (hG_10 13 (by decide))] at u4_17
        have u1_at188 := u1_17
        have u2_at188 := u2_17
        have u3_at188 := u3_17
        have u4_at188 := u4_17
        show TT K ly 0 0 191 [(0, vR 8), (4, vI lv9)] [] g188_17
        refine TT_vret hK hQ ?_ dX0_lay_191
        have e18_8_10 : g188_17 8 10 = (w30_6 8) 10 := rd_ (((hG_17 8 (by decide))).trans (((hG_12 8 (by decide))).trans (hG_10 8 (by decide)))) rfl
        have e19_8_7 : g188_17 8 7 = (w30_6 8) 7 := rd_ (((hG_17 8 (by decide))).trans (((hG_12 8 (by decide))).trans (hG_10 8 (by decide)))) rfl
        have e20_8_8 : g188_17 8 8 = (w30_6 8) 8 := rd_ (((hG_17 8 (by decide))).trans (((hG_12 8 (by decide))).trans (hG_10 8 (by decide)))) rfl
        have e21_8_9 : g188_17 8 9 = (w30_6 8) 9 := rd_ (((hG_17 8 (by decide))).trans (((hG_12 8 (by decide))).trans (hG_10 8 (by decide)))) rfl
        exact ⟨⟨hT_17, hF_17⟩, rfl, (by assumption), (by rewrite [e18_8_10, e19_8_7, e20_8_8, e21_8_9]; exact ⟨kw, ke, kl, kc⟩), (by intro b h1 h2; rw [u1_at188, u2_at188, u3_at188, u4_at188]; by_cases e : b = 0; (rw [e, fup_eq, fup_eq, fup_eq, fup_eq]; exact LAQ_0 p1_at174 p1_at185); (rw [fup_ne _ _ e, fup_ne _ _ e, fup_ne _ _ e, fup_ne _ _ e]; exact hly b (by omega) h2))⟩
      · refine TT_iconst hK dX0_lay_39 ?_
        refine TT_aload_n hK rfl 0 rfl dX0_lay_40 ?_
        refine gf_X0_40 hK (by decide) rfl (v := (w30_6 8) 9) rfl dX0_lay_41 ?_
        refine TT_cgI (b := lq) (by exact kl) ?_
        refine TT_iload hK 1 rfl dX0_lay_44 ?_
        refine TT_isub hK dX0_lay_46 ?_
        refine TT_imul hK dX0_lay_47 ?_
        refine TT_iconst hK dX0_lay_48 ?_
        refine TT_iadd hK dX0_lay_49 ?_
        refine TT_istore hK (lv' := [(5, vI ((3 * (lq - lv9)) + 1)), (0, vR 8), (4, vI lv9)]) (by decide) rfl dX0_lay_50 ?_
        refine TT_aload_n hK rfl 1 rfl dX0_lay_52 ?_
        refine gf_X0_33 hK (by decide) rfl (v := (w30_6 8) 7) rfl dX0_lay_53 ?_
        have r22 := ty_8_7 (v := (w30_6 8) 7) hT30_6 rfl
        refine TT_cgI (b := wq) (by exact kw) ?_
        refine TT_iload hK 2 rfl dX0_lay_56 ?_
        refine TT_iconst hK dX0_lay_58 ?_
        refine TT_isub hK dX0_lay_59 ?_
        refine iv_X0_46 hK (s_sideAfter_x wq (lv9 - 1) w30_6 hT30_6 (by first | omega | (simp [up, setR] <;> omega)) (by first | omega | (simp [up, setR] <;> omega))) ⟨by decide, by decide⟩ (by decide) rfl rfl (Nat.le_of_ble_eq_true rfl) ⟨by decide, by decide⟩ dX0_lay_60 ?_
        intro r9 g60_23 hp9
        obtain ⟨⟨hT_23, hG_23⟩, z60_23, hr9, hz_23, p1_23⟩ := hp9
        rw [hr9]
        have hF_23 : FR [8, 10, 11, 12, 13] h g60_23 := FR_tr hF30_6 hG_23 (by decide)
        have p1_at60 := p1_23
        show TT K ly 0 0 63 [(5, vI ((3 * (lq - lv9)) + 1)), (0, vR 8), (4, vI lv9)] [vI z60_23] g60_23
        refine TT_istore hK (lv' := [(6, vI z60_23), (5, vI ((3 * (lq - lv9)) + 1)), (0, vR 8), (4, vI lv9)]) (by decide) rfl dX0_lay_63 ?_
        refine TT_aload_n hK rfl 2 rfl dX0_lay_65 ?_
        refine gf_X0_37 hK (by decide) rfl (v := (w30_6 8) 8) (rd_ (hG_23 8 (by decide)) rfl) dX0_lay_66 ?_
        have r24 := ty_8_8 (v := (w30_6 8) 8) hT_23 (rd_ (hG_23 8 (by decide)) rfl)
        refine TT_cgI (b := eq) (by exact ke) ?_
        refine TT_iload hK 3 rfl dX0_lay_69 ?_
        refine TT_iconst hK dX0_lay_71 ?_
        refine TT_isub hK dX0_lay_72 ?_
        refine iv_X0_46 hK (s_sideAfter_x eq (lv9 - 1) g60_23 hT_23 (by first | omega | (simp [up, setR] <;> omega)) (by first | omega | (simp [up, setR] <;> omega))) ⟨by decide, by decide⟩ (by decide) rfl rfl (Nat.le_of_ble_eq_true rfl) ⟨by decide, by decide⟩ dX0_lay_73 ?_
        intro r9 g73_25 hp9
        obtain ⟨⟨hT_25, hG_25⟩, z73_25, hr9, hz_25, p1_25⟩ := hp9
        rw [hr9]
        have hF_25 : FR [8, 10, 11, 12, 13] h g73_25 := FR_tr hF_23 hG_25 (by decide)
        have p1_at73 := p1_25
        show TT K ly 0 0 76 [(6, vI z60_23), (5, vI ((3 * (lq - lv9)) + 1)), (0, vR 8), (4, vI lv9)] [vI z73_25] g73_25
        refine TT_istore hK (lv' := [(7, vI z73_25), (6, vI z60_23), (5, vI ((3 * (lq - lv9)) + 1)), (0, vR 8), (4, vI lv9)]) (by decide) rfl dX0_lay_76 ?_
        refine TT_aload_n hK rfl 3 rfl dX0_lay_78 ?_
        refine gf_X0_33 hK (by decide) rfl (v := (w30_6 8) 7) (rd_ (((hG_25 8 (by decide))).trans (hG_23 8 (by decide))) rfl) dX0_lay_79 ?_
        refine TT_cgI (b := wq) (by exact kw) ?_
        refine TT_iload hK 4 rfl dX0_lay_82 ?_
        refine iv_X0_46 hK (s_sideAfter_x wq lv9 g73_25 hT_25 (by first | omega | (simp [up, setR] <;> omega)) (by first | omega | (simp [up, setR] <;> omega))) ⟨by decide, by decide⟩ (by decide) rfl rfl (Nat.le_of_ble_eq_true rfl) ⟨by decide, by decide⟩ dX0_lay_84 ?_
        intro r9 g84_26 hp9
        obtain ⟨⟨hT_26, hG_26⟩, z84_26, hr9, hz_26, p1_26⟩ := hp9
        rw [hr9]
        have hF_26 : FR [8, 10, 11, 12, 13] h g84_26 := FR_tr hF_25 hG_26 (by decide)
        have p1_at84 := p1_26
        show TT K ly 0 0 87 [(7, vI z73_25), (6, vI z60_23), (5, vI ((3 * (lq - lv9)) + 1)), (0, vR 8), (4, vI lv9)] [vI z84_26] g84_26
        refine TT_istore hK (lv' := [(8, vI z84_26), (7, vI z73_25), (6, vI z60_23), (5, vI ((3 * (lq - lv9)) + 1)), (0, vR 8), (4, vI lv9)]) (by decide) rfl dX0_lay_87 ?_
        refine TT_aload_n hK rfl 4 rfl dX0_lay_89 ?_
        refine gf_X0_37 hK (by decide) rfl (v := (w30_6 8) 8) (rd_ (((hG_26 8 (by decide))).trans (((hG_25 8 (by decide))).trans (hG_23 8 (by decide)))) rfl) dX0_lay_90 ?_
        refine TT_cgI (b := eq) (by exact ke) ?_
        refine TT_iload hK 5 rfl dX0_lay_93 ?_
        refine iv_X0_46 hK (s_sideAfter_x eq lv9 g84_26 hT_26 (by first | omega | (simp [up, setR] <;> omega)) (by first | omega | (simp [up, setR] <;> omega))) ⟨by decide, by decide⟩ (by decide) rfl rfl (Nat.le_of_ble_eq_true rfl) ⟨by decide, by decide⟩ dX0_lay_95 ?_
        intro r9 g95_27 hp9
        obtain ⟨⟨hT_27, hG_27⟩, z95_27, hr9, hz_27, p1_27⟩ := hp9
        rw [hr9]
        have hF_27 : FR [8, 10, 11, 12, 13] h g95_27 := FR_tr hF_26 hG_27 (by decide)
        have p1_at95 := p1_27
        show TT K ly 0 0 98 [(8, vI z84_26), (7, vI z73_25), (6, vI z60_23), (5, vI ((3 * (lq - lv9)) + 1)), (0, vR 8), (4, vI lv9)] [vI z95_27] g95_27
        refine TT_istore hK (lv' := [(9, vI z95_27), (8, vI z84_26), (7, vI z73_25), (6, vI z60_23), (5, vI ((3 * (lq - lv9)) + 1)), (0, vR 8), (4, vI lv9)]) (by decide) rfl dX0_lay_98 ?_
        have ow : z84_26 ≤ z60_23 := by have k9 := lf_le (n := wq) (l := lv9 - 1) (by omega) (by omega); rw [show lv9 - 1 + 1 = lv9 by omega] at k9; omega
        have oh : z95_27 ≤ z73_25 := by have k9 := lf_le (n := eq) (l := lv9 - 1) (by omega) (by omega); rw [show lv9 - 1 + 1 = lv9 by omega] at k9; omega
        refine TT_aload_n hK rfl 5 rfl dX0_lay_100 ?_
        refine TT_iload hK 4 rfl dX0_lay_101 ?_
        refine TT_iload hK 1 rfl dX0_lay_103 ?_
        refine TT_iconst hK dX0_lay_105 ?_
        refine TT_iload hK 3 rfl dX0_lay_106 ?_
        refine TT_iload hK 1 rfl dX0_lay_108 ?_
        refine TT_isub hK dX0_lay_110 ?_
        refine TT_iload hK 0 rfl dX0_lay_111 ?_
        have e28_10 : g95_27 10 = w30_6 10 := ((hG_27 10 (by decide))).trans (((hG_26 10 (by decide))).trans (((hG_25 10 (by decide))).trans (hG_23 10 (by decide))))
        have e29_11 : g95_27 11 = w30_6 11 := ((hG_27 11 (by decide))).trans (((hG_26 11 (by decide))).trans (((hG_25 11 (by decide))).trans (hG_23 11 (by decide))))
        have e30_12 : g95_27 12 = w30_6 12 := ((hG_27 12 (by decide))).trans (((hG_26 12 (by decide))).trans (((hG_25 12 (by decide))).trans (hG_23 12 (by decide))))
        have e31_13 : g95_27 13 = w30_6 13 := ((hG_27 13 (by decide))).trans (((hG_26 13 (by decide))).trans (((hG_25 13 (by decide))).trans (hG_23 13 (by decide))))
        refine iv_X0_50 hK (s_layBand_x ((3 * (lq - lv9)) + 1) z84_26 0 (z60_23 - z84_26) z95_27 g95_27 hT_27 (by first | omega | (simp [up, setR] <;> omega)) (by first | omega | (simp [up, setR] <;> omega)) (by first | omega | (simp [up, setR] <;> omega)) (by first | omega | (simp [up, setR] <;> omega)) (by first | omega | (simp [up, setR] <;> omega)) (by first | omega | (simp [up, setR] <;> omega)) (by first | omega | (simp [up, setR] <;> omega)) (by rewrite [e28_10, e29_11, e30_12, e31_13]; assumption)) (by decide) rfl ⟨by decide, by decide⟩ (by decide) rfl rfl (Nat.le_of_ble_eq_true rfl) ⟨by decide, by decide⟩ dX0_lay_113 ?_
        intro r9 g113_32 hp9
        obtain ⟨⟨hT_32, hG_32⟩, hr9, p1_32, u1_32, u2_32, u3_32, u4_32⟩ := hp9
        rw [hr9]
        have hF_32 : FR [8, 10, 11, 12, 13] h g113_32 := FR_tr hF_27 hG_32 (by decide)
        rw [show g95_27 10 = w30_6 10 from ((hG_27 10 (by decide))).trans (((hG_26 10 (by decide))).trans (((hG_25 10 (by decide))).trans (hG_23 10 (by decide))))] at u1_32
        rw [show g95_27 11 = w30_6 11 from ((hG_27 11 (by decide))).trans (((hG_26 11 (by decide))).trans (((hG_25 11 (by decide))).trans (hG_23 11 (by decide))))] at u2_32
        rw [show g95_27 12 = w30_6 12 from ((hG_27 12 (by decide))).trans (((hG_26 12 (by decide))).trans (((hG_25 12 (by decide))).trans (hG_23 12 (by decide))))] at u3_32
        rw [show g95_27 13 = w30_6 13 from ((hG_27 13 (by decide))).trans (((hG_26 13 (by decide))).trans (((hG_25 13 (by decide))).trans (hG_23 13 (by decide))))] at u4_32
        have u1_at113 := u1_32
        have u2_at113 := u2_32
        have u3_at113 := u3_32
        have u4_at113 := u4_32
        show TT K ly 0 0 116 [(9, vI z95_27), (8, vI z84_26), (7, vI z73_25), (6, vI z60_23), (5, vI ((3 * (lq - lv9)) + 1)), (0, vR 8), (4, vI lv9)] [] g113_32
        refine TT_aload_n hK rfl 5 rfl dX0_lay_116 ?_
        refine TT_iload hK 4 rfl dX0_lay_117 ?_
        refine TT_iconst hK dX0_lay_119 ?_
        refine TT_iadd hK dX0_lay_120 ?_
        refine TT_iconst hK dX0_lay_121 ?_
        refine TT_iload hK 0 rfl dX0_lay_122 ?_
        refine TT_iload hK 1 rfl dX0_lay_124 ?_
        refine TT_iload hK 2 rfl dX0_lay_126 ?_
        refine TT_iload hK 0 rfl dX0_lay_128 ?_
        refine TT_isub hK dX0_lay_130 ?_
        refine iv_X0_50 hK (s_layBand_x (((3 * (lq - lv9)) + 1) + 1) 0 z95_27 z84_26 (z73_25 - z95_27) g113_32 hT_32 (by first | omega | (simp [up, setR] <;> omega)) (by first | omega | (simp [up, setR] <;> omega)) (by first | omega | (simp [up, setR] <;> omega)) (by first | omega | (simp [up, setR] <;> omega)) (by first | omega | (simp [up, setR] <;> omega)) (by first | omega | (simp [up, setR] <;> omega)) (by first | omega | (simp [up, setR] <;> omega)) (by assumption)) (by decide) rfl ⟨by decide, by decide⟩ (by decide) rfl rfl (Nat.le_of_ble_eq_true rfl) ⟨by decide, by decide⟩ dX0_lay_131 ?_
        intro r9 g131_33 hp9
        obtain ⟨⟨hT_33, hG_33⟩, hr9, p1_33, u1_33, u2_33, u3_33, u4_33⟩ := hp9
        rw [hr9]
        have hF_33 : FR [8, 10, 11, 12, 13] h g131_33 := FR_tr hF_32 hG_33 (by decide)
        have u1_at131 := u1_33
        have u2_at131 := u2_33
        have u3_at131 := u3_33
        have u4_at131 := u4_33
        show TT K ly 0 0 134 [(9, vI z95_27), (8, vI z84_26), (7, vI z73_25), (6, vI z60_23), (5, vI ((3 * (lq - lv9)) + 1)), (0, vR 8), (4, vI lv9)] [] g131_33
        refine TT_aload_n hK rfl 5 rfl dX0_lay_134 ?_
        refine TT_iload hK 4 rfl dX0_lay_135 ?_
        refine TT_iconst hK dX0_lay_137 ?_
        refine TT_iadd hK dX0_lay_138 ?_
        refine TT_iload hK 1 rfl dX0_lay_139 ?_
        refine TT_iload hK 0 rfl dX0_lay_141 ?_
        refine TT_iload hK 3 rfl dX0_lay_143 ?_
        refine TT_iload hK 1 rfl dX0_lay_145 ?_
        refine TT_isub hK dX0_lay_147 ?_
        refine TT_iload hK 2 rfl dX0_lay_148 ?_
        refine TT_iload hK 0 rfl dX0_lay_150 ?_
        refine TT_isub hK dX0_lay_152 ?_
        refine iv_X0_50 hK (s_layBand_x (((3 * (lq - lv9)) + 1) + 2) z84_26 z95_27 (z60_23 - z84_26) (z73_25 - z95_27) g131_33 hT_33 (by first | omega | (simp [up, setR] <;> omega)) (by first | omega | (simp [up, setR] <;> omega)) (by first | omega | (simp [up, setR] <;> omega)) (by first | omega | (simp [up, setR] <;> omega)) (by first | omega | (simp [up, setR] <;> omega)) (by first | omega | (simp [up, setR] <;> omega)) (by first | omega | (simp [up, setR] <;> omega)) (by assumption)) (by decide) rfl ⟨by decide, by decide⟩ (by decide) rfl rfl (Nat.le_of_ble_eq_true rfl) ⟨by decide, by decide⟩ dX0_lay_153 ?_
        intro r9 g153_34 hp9
        obtain ⟨⟨hT_34, hG_34⟩, hr9, p1_34, u1_34, u2_34, u3_34, u4_34⟩ := hp9
        rw [hr9]
        have hF_34 : FR [8, 10, 11, 12, 13] h g153_34 := FR_tr hF_33 hG_34 (by decide)
        have u1_at153 := u1_34
        have u2_at153 := u2_34
        have u3_at153 := u3_34
        have u4_at153 := u4_34
        show TT K ly 0 0 156 [(9, vI z95_27), (8, vI z84_26), (7, vI z73_25), (6, vI z60_23), (5, vI ((3 * (lq - lv9)) + 1)), (0, vR 8), (4, vI lv9)] [] g153_34
        refine TT_iinc hK (v := lv9 + 1) (lv' := [(4, vI (lv9 + 1)), (9, vI z95_27), (8, vI z84_26), (7, vI z73_25), (6, vI z60_23), (5, vI ((3 * (lq - lv9)) + 1)), (0, vR 8)]) 6 rfl rfl (by decide) rfl dX0_lay_156 ?_
        refine TT_goto hK (tgt := 30) dX0_lay_159 (by decide) ?_
        refine TT_sub [6, 0] rfl ?_
        have e35_8_7 : g153_34 8 7 = (w30_6 8) 7 := rd_ (((hG_34 8 (by decide))).trans (((hG_33 8 (by decide))).trans (((hG_32 8 (by decide))).trans (((hG_27 8 (by decide))).trans (((hG_26 8 (by decide))).trans (((hG_25 8 (by decide))).trans (hG_23 8 (by decide)))))))) rfl
        have e36_8_8 : g153_34 8 8 = (w30_6 8) 8 := rd_ (((hG_34 8 (by decide))).trans (((hG_33 8 (by decide))).trans (((hG_32 8 (by decide))).trans (((hG_27 8 (by decide))).trans (((hG_26 8 (by decide))).trans (((hG_25 8 (by decide))).trans (hG_23 8 (by decide)))))))) rfl
        have e37_8_9 : g153_34 8 9 = (w30_6 8) 9 := rd_ (((hG_34 8 (by decide))).trans (((hG_33 8 (by decide))).trans (((hG_32 8 (by decide))).trans (((hG_27 8 (by decide))).trans (((hG_26 8 (by decide))).trans (((hG_25 8 (by decide))).trans (hG_23 8 (by decide)))))))) rfl
        have e38_8_10 : g153_34 8 10 = (w30_6 8) 10 := rd_ (((hG_34 8 (by decide))).trans (((hG_33 8 (by decide))).trans (((hG_32 8 (by decide))).trans (((hG_27 8 (by decide))).trans (((hG_26 8 (by decide))).trans (((hG_25 8 (by decide))).trans (hG_23 8 (by decide)))))))) rfl
        exact ih6 (lv9 + 1) g153_34 hT_34 hF_34 (by first | omega | (simp [up, setR] <;> omega)) (by assumption) (by rewrite [e35_8_7]; first | omega | (simp [up, setR] <;> omega)) (by rewrite [e36_8_8]; first | omega | (simp [up, setR] <;> omega)) (by rewrite [e37_8_9]; first | omega | (simp [up, setR] <;> omega)) (by rewrite [e38_8_10]; first | omega | (simp [up, setR] <;> omega)) (by rw [u1_at153, u2_at153, u3_at153, u4_at153, u1_at131, u2_at131, u3_at131, u4_at131, u1_at113, u2_at113, u3_at113, u4_at113]; exact LAQ_s hly (by omega) p1_at60 p1_at73 p1_at84 p1_at95) (by first | omega | (simp [up, setR] <;> omega))
  refine TT_sub [1, 0] rfl ?_
  have e39_10 : (setO h 8 (fup (fup (fup (fup (h 8) 7 wq) 8 eq) 9 lq) 10 ((3 * lq) + 1))) 10 = h 10 := sOf_ne _ _ (by decide)
  have e40_11 : (setO h 8 (fup (fup (fup (fup (h 8) 7 wq) 8 eq) 9 lq) 10 ((3 * lq) + 1))) 11 = h 11 := sOf_ne _ _ (by decide)
  have e41_12 : (setO h 8 (fup (fup (fup (fup (h 8) 7 wq) 8 eq) 9 lq) 10 ((3 * lq) + 1))) 12 = h 12 := sOf_ne _ _ (by decide)
  have e42_13 : (setO h 8 (fup (fup (fup (fup (h 8) 7 wq) 8 eq) 9 lq) 10 ((3 * lq) + 1))) 13 = h 13 := sOf_ne _ _ (by decide)
  have e43_8_7 : (setO h 8 (fup (fup (fup (fup (h 8) 7 wq) 8 eq) 9 lq) 10 ((3 * lq) + 1))) 8 7 = wq := rd_ (sOf_eq _ _ _) ((fup_ne _ _ (by decide)).trans ((fup_ne _ _ (by decide)).trans ((fup_ne _ _ (by decide)).trans (fup_eq _ _ _))))
  have e44_8_8 : (setO h 8 (fup (fup (fup (fup (h 8) 7 wq) 8 eq) 9 lq) 10 ((3 * lq) + 1))) 8 8 = eq := rd_ (sOf_eq _ _ _) ((fup_ne _ _ (by decide)).trans ((fup_ne _ _ (by decide)).trans (fup_eq _ _ _)))
  have e45_8_9 : (setO h 8 (fup (fup (fup (fup (h 8) 7 wq) 8 eq) 9 lq) 10 ((3 * lq) + 1))) 8 9 = lq := rd_ (sOf_eq _ _ _) ((fup_ne _ _ (by decide)).trans (fup_eq _ _ _))
  have e46_8_10 : (setO h 8 (fup (fup (fup (fup (h 8) 7 wq) 8 eq) 9 lq) 10 ((3 * lq) + 1))) 8 10 = (3 * lq) + 1 := rd_ (sOf_eq _ _ _) (fup_eq _ _ _)
  have e47_10 : (setO h 8 (fup (fup (fup (fup (h 8) 7 wq) 8 eq) 9 lq) 10 ((3 * lq) + 1))) 10 = h 10 := sOf_ne _ _ (by decide)
  have e48_11 : (setO h 8 (fup (fup (fup (fup (h 8) 7 wq) 8 eq) 9 lq) 10 ((3 * lq) + 1))) 11 = h 11 := sOf_ne _ _ (by decide)
  have e49_12 : (setO h 8 (fup (fup (fup (fup (h 8) 7 wq) 8 eq) 9 lq) 10 ((3 * lq) + 1))) 12 = h 12 := sOf_ne _ _ (by decide)
  have e50_13 : (setO h 8 (fup (fup (fup (fup (h 8) 7 wq) 8 eq) 9 lq) 10 ((3 * lq) + 1))) 13 = h 13 := sOf_ne _ _ (by decide)
  exact L30_6 ((((4 : Int) - 1).toNat) + 1) 1 (setO h 8 (fup (fup (fup (fup (h 8) 7 wq) 8 eq) 9 lq) 10 ((3 * lq) + 1))) hT_5 hF_5 (by first | omega | (simp [up, setR] <;> omega)) (by rewrite [e39_10, e40_11, e41_12, e42_13]; exact hbd) (by rewrite [e43_8_7]; first | omega | (simp [up, setR] <;> omega)) (by rewrite [e44_8_8]; first | omega | (simp [up, setR] <;> omega)) (by rewrite [e45_8_9]; first | omega | (simp [up, setR] <;> omega)) (by rewrite [e46_8_10]; first | omega | (simp [up, setR] <;> omega)) (by rewrite [e47_10, e48_11, e49_12, e50_13]; intro b h1 h2; exfalso; omega) (Nat.lt_succ_self _)
set_option maxRecDepth 20000 in
theorem s_readPicture_x (h : Hp_) (hT : TY h) (hw : (h 8 7) = (h 1 1)) (he : (h 8 8) = (h 1 2)) : Ctr yX0_readPicture cX0_readPicture 4 none (rmd 2) ly ly 0 0 [vR 8, vR 1] h (fun r h' => (TY h' ∧ FR [9] h h') ∧ r = none ∧ (∀ x2 y2 : Int, 0 ≤ x2 → x2 < (h 8 7) → 0 ≤ y2 → y2 < (h 8 8) → (h' 9) (y2 * 8 + x2) = (h 2) (y2 * 8 + x2) - 128)) := by
  refine Ctr_of (by decide) (Nat.le_of_ble_eq_true rfl) ⟨Nat.le_refl _, Nat.le_refl _⟩ (fun K hK hQ _ => ?_)
  show TT K ly 0 0 0 [(0, vR 8), (1, vR 1)] [] h
  have hF : FR [9] h h := FR_rf _ _
  refine TT_iconst hK dX0_readPicture_0 ?_
  refine TT_istore_n hK rfl (lv' := [(2, vI 0), (0, vR 8), (1, vR 1)]) (by decide) rfl dX0_readPicture_1 ?_
  have L2_1 : ∀ (k1 : Nat) (y : Int) (w2_1 : Hp_), TY w2_1 → FR [9] h w2_1 → (0 ≤ y ∧ y ≤ 8) → (∀ x2 y2 : Int, 0 ≤ x2 → x2 < h 8 7 → 0 ≤ y2 → y2 < y → (w2_1 9) (y2 * 8 + x2) = h 2 (y2 * 8 + x2) - 128) → ((8 : Int) - y).toNat < k1 → TT K ly 0 0 2 [(0, vR 8), (1, vR 1), (2, vI y)] [] w2_1 := by
    intro k1
    induction k1 with
    | zero => intro y w2_1 hT2_1 hF2_1 hy hl hk1; exact absurd hk1 (Nat.not_lt_zero _)
    | succ k1 ih1 =>
      intro y w2_1 hT2_1 hF2_1 hy hl hk1
      refine TT_iload_n hK rfl 2 rfl dX0_readPicture_2 ?_
      refine TT_aload_n hK rfl 0 rfl dX0_readPicture_3 ?_
      refine gf_X0_37 hK (by decide) rfl (v := (h 8) 8) (rd_ (hF2_1 8 (by decide)) rfl) dX0_readPicture_4 ?_
      have r2 := ty_8_8 (v := (h 8) 8) hT2_1 (rd_ (hF2_1 8 (by decide)) rfl)
      refine TT_icmp_ge hK (tgt := 53) (irm (by omega) (by omega)) (irm (by omega) (by omega)) dX0_readPicture_7 (by decide) (fun hb7_3 => ?_) (fun hb7_3 => ?_)
      · refine TT_vret hK hQ ?_ dX0_readPicture_53
        exact ⟨⟨hT2_1, hF2_1⟩, rfl, (by intro x2 y2 g1 g2 g3 g4; exact hl x2 y2 g1 g2 g3 (by omega))⟩
      · refine TT_iconst hK dX0_readPicture_10 ?_
        refine TT_istore_n hK rfl (lv' := [(3, vI 0), (0, vR 8), (1, vR 1), (2, vI y)]) (by decide) rfl dX0_readPicture_11 ?_
        have L12_4 : ∀ (k4 : Nat) (x : Int) (w12_4 : Hp_), TY w12_4 → FR [9] h w12_4 → (0 ≤ x ∧ x ≤ 8) → (∀ x2 y2 : Int, 0 ≤ x2 → x2 < h 8 7 → 0 ≤ y2 → y2 < y → (w12_4 9) (y2 * 8 + x2) = h 2 (y2 * 8 + x2) - 128) → (∀ x2 : Int, 0 ≤ x2 → x2 < x → (w12_4 9) (y * 8 + x2) = h 2 (y * 8 + x2) - 128) → ((8 : Int) - x).toNat < k4 → TT K ly 0 0 12 [(0, vR 8), (1, vR 1), (2, vI y), (3, vI x)] [] w12_4 := by
          intro k4
          induction k4 with
          | zero => intro x w12_4 hT12_4 hF12_4 hx hl hm hk4; exact absurd hk4 (Nat.not_lt_zero _)
          | succ k4 ih4 =>
            intro x w12_4 hT12_4 hF12_4 hx hl hm hk4
            refine TT_iload_n hK rfl 3 rfl dX0_readPicture_12 ?_
            refine TT_aload_n hK rfl 0 rfl dX0_readPicture_13 ?_
            refine gf_X0_33 hK (by decide) rfl (v := (h 8) 7) (rd_ (hF12_4 8 (by decide)) rfl) dX0_readPicture_14 ?_
            have r5 := ty_8_7 (v := (h 8) 7) hT12_4 (rd_ (hF12_4 8 (by decide)) rfl)
            refine TT_icmp_ge hK (tgt := 47) (irm (by omega) (by omega)) (irm (by omega) (by omega)) dX0_readPicture_17 (by decide) (fun hb17_6 => ?_) (fun hb17_6 => ?_)
            · refine TT_iinc hK (v := y + 1) (lv' := [(2, vI (y + 1)), (0, vR 8), (1, vR 1), (3, vI x)]) 2 rfl rfl (by decide) rfl dX0_readPicture_47 ?_
              refine TT_goto hK (tgt := 2) dX0_readPicture_50 (by decide) ?_
              refine TT_sub [1, 2, 0] rfl ?_
              exact ih1 (y + 1) w12_4 hT12_4 hF12_4 (by first | omega | (simp [up, setR] <;> omega)) (by intro x2 y2 g1 g2 g3 g4; by_cases e : y2 = y; (rw [e]; exact hm x2 g1 (by omega)); exact hl x2 y2 g1 g2 g3 (by omega)) (by first | omega | (simp [up, setR] <;> omega))
            · refine TT_aload_n hK rfl 0 rfl dX0_readPicture_20 ?_
              refine gf_X0_9 hK (by decide) rfl (q := 9) rfl rfl dX0_readPicture_21 ?_
              refine TT_iload_n hK rfl 2 rfl dX0_readPicture_24 ?_
              refine TT_bipush hK (by decide) dX0_readPicture_25 ?_
              refine TT_imul hK dX0_readPicture_27 ?_
              refine TT_iload_n hK rfl 3 rfl dX0_readPicture_28 ?_
              refine TT_iadd hK dX0_readPicture_29 ?_
              refine TT_aload_n hK rfl 1 rfl dX0_readPicture_30 ?_
              refine TT_iload_n hK rfl 3 rfl dX0_readPicture_31 ?_
              refine TT_iload_n hK rfl 2 rfl dX0_readPicture_32 ?_
              refine iv_X0_63 hK (s_at_1x x y w12_4 hT12_4 (by first | omega | (simp [up, setR] <;> omega)) (by first | omega | (simp [up, setR] <;> omega))) (by decide) rfl ⟨by decide, by decide⟩ (by decide) rfl rfl (Nat.le_of_ble_eq_true rfl) ⟨by decide, by decide⟩ dX0_readPicture_33 ?_
              intro r9 g33_7 hp9
              obtain ⟨⟨hT_7, hG_7⟩, z33_7, hr9, hz_7, p1_7⟩ := hp9
              rw [hr9]
              have hF_7 : FR [9] h g33_7 := FR_tr hF12_4 hG_7 (by decide)
              rw [show w12_4 1 1 = (h 1) 1 from rd_ (hF12_4 1 (by decide)) rfl] at p1_7
              rw [show w12_4 1 2 = (h 1) 2 from rd_ (hF12_4 1 (by decide)) rfl] at p1_7
              rw [show w12_4 2 = h 2 from (hF12_4 2 (by decide))] at p1_7
              have p1_at33 := p1_7
              show TT K ly 0 0 36 [(0, vR 8), (1, vR 1), (2, vI y), (3, vI x)] [vI z33_7, vI ((y * 8) + x), vR 9] g33_7
              have v9 := p1_at33.1 (by omega)
              refine TT_sipush hK (by decide) dX0_readPicture_36 ?_
              refine TT_isub hK dX0_readPicture_39 ?_
              refine TT_iast hK (o := 9) (n := 64) (by decide) rfl (by omega) (by omega) dX0_readPicture_40 ?_
              refine TT_hp (h' := setO g33_7 9 (fup (w12_4 9) ((y * 8) + x) (z33_7 - 128))) (up_can (hG_7 9 (by decide)) rfl rfl) ?_
              have hT_8 : TY (setO g33_7 9 (fup (w12_4 9) ((y * 8) + x) (z33_7 - 128))) := tu_9 hT_7 (show up g33_7 9 ((y * 8) + x) (z33_7 - 128) = (setO g33_7 9 (fup (w12_4 9) ((y * 8) + x) (z33_7 - 128))) from up_can (hG_7 9 (by decide)) rfl rfl) (by omega)
              have hF_8 : FR [9] h (setO g33_7 9 (fup (w12_4 9) ((y * 8) + x) (z33_7 - 128))) := FR_up (show up g33_7 9 ((y * 8) + x) (z33_7 - 128) = (setO g33_7 9 (fup (w12_4 9) ((y * 8) + x) (z33_7 - 128))) from up_can (hG_7 9 (by decide)) rfl rfl) hF_7 (by decide)
              refine TT_iinc hK (v := x + 1) (lv' := [(3, vI (x + 1)), (0, vR 8), (1, vR 1), (2, vI y)]) 3 rfl rfl (by decide) rfl dX0_readPicture_41 ?_
              refine TT_goto hK (tgt := 12) dX0_readPicture_44 (by decide) ?_
              refine TT_sub [1, 2, 3, 0] rfl ?_
              have e9_9 : (setO g33_7 9 (fup (w12_4 9) ((y * 8) + x) (z33_7 - 128))) 9 = fup (w12_4 9) ((y * 8) + x) (z33_7 - 128) := sOf_eq _ _ _
              have e10_9 : (setO g33_7 9 (fup (w12_4 9) ((y * 8) + x) (z33_7 - 128))) 9 = fup (w12_4 9) ((y * 8) + x) (z33_7 - 128) := sOf_eq _ _ _
              exact ih4 (x + 1) (setO g33_7 9 (fup (w12_4 9) ((y * 8) + x) (z33_7 - 128))) hT_8 hF_8 (by first | omega | (simp [up, setR] <;> omega)) (by rewrite [e9_9]; intro x2 y2 g1 g2 g3 g4; rw [fup_ne _ _ (by omega)]; exact hl x2 y2 g1 g2 g3 g4) (by rewrite [e10_9]; intro x2 g1 g2; by_cases e : x2 = x; (rw [e, fup_eq]; omega); (rw [fup_ne _ _ (by omega)]; exact hm x2 g1 (by omega))) (by first | omega | (simp [up, setR] <;> omega))
        refine TT_sub [1, 2, 3, 0] rfl ?_
        exact L12_4 ((((8 : Int) - 0).toNat) + 1) 0 w2_1 hT2_1 hF2_1 (by first | omega | (simp [up, setR] <;> omega)) (by exact hl) (by intro x2 g1 g2; exfalso; omega) (Nat.lt_succ_self _)
  refine TT_sub [1, 2, 0] rfl ?_
  exact L2_1 ((((8 : Int) - 0).toNat) + 1) 0 h hT hF (by first | omega | (simp [up, setR] <;> omega)) (by intro x2 y2 g1 g2 g3 g4; exfalso; omega) (Nat.lt_succ_self _)
set_option maxRecDepth 20000 in
theorem s_readLine_x8 (a n : Int) (h : Hp_) (hT : TY h) (ha : 0 ≤ a ∧ a ≤ 7) (hn : 2 ≤ n ∧ n ≤ 8) : Ctr yX0_readLine cX0_readLine 5 none (rmd 0) ly ly 0 0 [vR 8, vI a, vI 8, vI n] h (fun r h' => (TY h' ∧ FR [14] h h') ∧ r = none ∧ (∀ j : Int, 0 ≤ j → j < n → (h' 14) j = (h 9) (a + 8 * j))) := by
  refine Ctr_of (by decide) (Nat.le_of_ble_eq_true rfl) ⟨Nat.le_refl _, Nat.le_refl _⟩ (fun K hK hQ _ => ?_)
  show TT K ly 0 0 0 [(0, vR 8), (1, vI a), (2, vI 8), (3, vI n)] [] h
  have hF : FR [14] h h := FR_rf _ _
  refine TT_iconst hK dX0_readLine_0 ?_
  refine TT_istore hK (lv' := [(4, vI 0), (0, vR 8), (1, vI a), (2, vI 8), (3, vI n)]) (by decide) rfl dX0_readLine_1 ?_
  have L3_1 : ∀ (k1 : Nat) (i : Int) (w3_1 : Hp_), TY w3_1 → FR [14] h w3_1 → (0 ≤ i ∧ i ≤ 8) → (∀ j : Int, 0 ≤ j → j < i → (w3_1 14) j = h 9 (a + 8 * j)) → ((8 : Int) - i).toNat < k1 → TT K ly 0 0 3 [(0, vR 8), (1, vI a), (2, vI 8), (3, vI n), (4, vI i)] [] w3_1 := by
    intro k1
    induction k1 with
    | zero => intro i w3_1 hT3_1 hF3_1 hi hr hk1; exact absurd hk1 (Nat.not_lt_zero _)
    | succ k1 ih1 =>
      intro i w3_1 hT3_1 hF3_1 hi hr hk1
      refine TT_iload hK 4 rfl dX0_readLine_3 ?_
      refine TT_iload_n hK rfl 3 rfl dX0_readLine_5 ?_
      refine TT_icmp_ge hK (tgt := 33) (irm (by omega) (by omega)) (irm (by omega) (by omega)) dX0_readLine_6 (by decide) (fun hb6_2 => ?_) (fun hb6_2 => ?_)
      · refine TT_vret hK hQ ?_ dX0_readLine_33
        exact ⟨⟨hT3_1, hF3_1⟩, rfl, (by intro j h1 h2; exact hr j h1 (by omega))⟩
      · refine TT_aload_n hK rfl 0 rfl dX0_readLine_9 ?_
        refine gf_X0_27 hK (by decide) rfl (q := 14) rfl rfl dX0_readLine_10 ?_
        refine TT_iload hK 4 rfl dX0_readLine_13 ?_
        refine TT_aload_n hK rfl 0 rfl dX0_readLine_15 ?_
        refine gf_X0_9 hK (by decide) rfl (q := 9) rfl rfl dX0_readLine_16 ?_
        refine TT_iload_n hK rfl 1 rfl dX0_readLine_19 ?_
        refine TT_iload hK 4 rfl dX0_readLine_20 ?_
        refine TT_iload_n hK rfl 2 rfl dX0_readLine_22 ?_
        refine TT_imul hK dX0_readLine_23 ?_
        refine TT_iadd hK dX0_readLine_24 ?_
        refine TT_iald hK (o := 9) (n := 64) (by decide) rfl (by first | omega | (simp [up, setR] <;> omega)) (by first | omega | (simp [up, setR] <;> omega)) (v := (h 9) (a + (i * 8))) (rd_ (hF3_1 9 (by decide)) rfl) dX0_readLine_25 ?_
        have r3 := ty_9 (i := a + (i * 8)) (v := (h 9) (a + (i * 8))) hT3_1 (rd_ (hF3_1 9 (by decide)) rfl) (by omega) (by omega)
        refine TT_iast hK (o := 14) (n := 8) (by decide) rfl (by omega) (by omega) dX0_readLine_26 ?_
        refine TT_hp (h' := setO w3_1 14 (fup (w3_1 14) i ((h 9) (a + (i * 8))))) (up_can rfl rfl rfl) ?_
        have hT_4 : TY (setO w3_1 14 (fup (w3_1 14) i ((h 9) (a + (i * 8))))) := tu_14 hT3_1 (show up w3_1 14 i ((h 9) (a + (i * 8))) = (setO w3_1 14 (fup (w3_1 14) i ((h 9) (a + (i * 8))))) from up_can rfl rfl rfl) (by omega)
        have hF_4 : FR [14] h (setO w3_1 14 (fup (w3_1 14) i ((h 9) (a + (i * 8))))) := FR_up (show up w3_1 14 i ((h 9) (a + (i * 8))) = (setO w3_1 14 (fup (w3_1 14) i ((h 9) (a + (i * 8))))) from up_can rfl rfl rfl) hF3_1 (by decide)
        refine TT_iinc hK (v := i + 1) (lv' := [(4, vI (i + 1)), (0, vR 8), (1, vI a), (2, vI 8), (3, vI n)]) 4 rfl rfl (by decide) rfl dX0_readLine_27 ?_
        refine TT_goto hK (tgt := 3) dX0_readLine_30 (by decide) ?_
        refine TT_sub [1, 2, 3, 4, 0] rfl ?_
        have e5_14 : (setO w3_1 14 (fup (w3_1 14) i ((h 9) (a + (i * 8))))) 14 = fup (w3_1 14) i ((h 9) (a + (i * 8))) := sOf_eq _ _ _
        exact ih1 (i + 1) (setO w3_1 14 (fup (w3_1 14) i ((h 9) (a + (i * 8))))) hT_4 hF_4 (by first | omega | (simp [up, setR] <;> omega)) (by rewrite [e5_14]; intro j h1 h2; by_cases e : j = i; (rw [e, fup_eq, Int.mul_comm i 8]); (rw [fup_ne _ _ e]; exact hr j h1 (by omega))) (by first | omega | (simp [up, setR] <;> omega))
  refine TT_sub [1, 2, 3, 4, 0] rfl ?_
  exact L3_1 ((((8 : Int) - 0).toNat) + 1) 0 h hT hF (by first | omega | (simp [up, setR] <;> omega)) (by intro j h1 h2; exfalso; omega) (Nat.lt_succ_self _)
set_option maxRecDepth 20000 in
theorem s_writeLine_x8 (a n : Int) (h : Hp_) (hT : TY h) (ha : 0 ≤ a ∧ a ≤ 7) (hn : 2 ≤ n ∧ n ≤ 8) : Ctr yX0_writeLine cX0_writeLine 5 none (rmd 0) ly ly 0 0 [vR 8, vI a, vI 8, vI n] h (fun r h' => (TY h' ∧ FR [9] h h') ∧ r = none ∧ (∀ t : Int, 0 ≤ t → t < 64 → (h' 9) t = wT8 a n (h 15) (h 9) t)) := by
  refine Ctr_of (by decide) (Nat.le_of_ble_eq_true rfl) ⟨Nat.le_refl _, Nat.le_refl _⟩ (fun K hK hQ _ => ?_)
  show TT K ly 0 0 0 [(0, vR 8), (1, vI a), (2, vI 8), (3, vI n)] [] h
  have hF : FR [9] h h := FR_rf _ _
  refine TT_iconst hK dX0_writeLine_0 ?_
  refine TT_istore hK (lv' := [(4, vI 0), (0, vR 8), (1, vI a), (2, vI 8), (3, vI n)]) (by decide) rfl dX0_writeLine_1 ?_
  have L3_1 : ∀ (k1 : Nat) (i : Int) (w3_1 : Hp_), TY w3_1 → FR [9] h w3_1 → (0 ≤ i ∧ i ≤ n) → (∀ t : Int, 0 ≤ t → t < 64 → (w3_1 9) t = wT8 a i (h 15) (h 9) t) → ((8 : Int) - i).toNat < k1 → TT K ly 0 0 3 [(0, vR 8), (1, vI a), (2, vI 8), (3, vI n), (4, vI i)] [] w3_1 := by
    intro k1
    induction k1 with
    | zero => intro i w3_1 hT3_1 hF3_1 hi hw hk1; exact absurd hk1 (Nat.not_lt_zero _)
    | succ k1 ih1 =>
      intro i w3_1 hT3_1 hF3_1 hi hw hk1
      refine TT_iload hK 4 rfl dX0_writeLine_3 ?_
      refine TT_iload_n hK rfl 3 rfl dX0_writeLine_5 ?_
      refine TT_icmp_ge hK (tgt := 33) (irm (by omega) (by omega)) (irm (by omega) (by omega)) dX0_writeLine_6 (by decide) (fun hb6_2 => ?_) (fun hb6_2 => ?_)
      · refine TT_vret hK hQ ?_ dX0_writeLine_33
        exact ⟨⟨hT3_1, hF3_1⟩, rfl, (by intro t h1 h2; rw [hw t h1 h2, show i = n by omega])⟩
      · refine TT_aload_n hK rfl 0 rfl dX0_writeLine_9 ?_
        refine gf_X0_9 hK (by decide) rfl (q := 9) rfl rfl dX0_writeLine_10 ?_
        refine TT_iload_n hK rfl 1 rfl dX0_writeLine_13 ?_
        refine TT_iload hK 4 rfl dX0_writeLine_14 ?_
        refine TT_iload_n hK rfl 2 rfl dX0_writeLine_16 ?_
        refine TT_imul hK dX0_writeLine_17 ?_
        refine TT_iadd hK dX0_writeLine_18 ?_
        refine TT_aload_n hK rfl 0 rfl dX0_writeLine_19 ?_
        refine gf_X0_30 hK (by decide) rfl (q := 15) rfl rfl dX0_writeLine_20 ?_
        refine TT_iload hK 4 rfl dX0_writeLine_23 ?_
        refine TT_iald hK (o := 15) (n := 8) (by decide) rfl (by first | omega | (simp [up, setR] <;> omega)) (by first | omega | (simp [up, setR] <;> omega)) (v := (h 15) i) (rd_ (hF3_1 15 (by decide)) rfl) dX0_writeLine_25 ?_
        have r3 := ty_15 (i := i) (v := (h 15) i) hT3_1 (rd_ (hF3_1 15 (by decide)) rfl) (by omega) (by omega)
        refine TT_iast hK (o := 9) (n := 64) (by decide) rfl (by omega) (by omega) dX0_writeLine_26 ?_
        refine TT_hp (h' := setO w3_1 9 (fup (w3_1 9) (a + (i * 8)) ((h 15) i))) (up_can rfl rfl rfl) ?_
        have hT_4 : TY (setO w3_1 9 (fup (w3_1 9) (a + (i * 8)) ((h 15) i))) := tu_9 hT3_1 (show up w3_1 9 (a + (i * 8)) ((h 15) i) = (setO w3_1 9 (fup (w3_1 9) (a + (i * 8)) ((h 15) i))) from up_can rfl rfl rfl) (by omega)
        have hF_4 : FR [9] h (setO w3_1 9 (fup (w3_1 9) (a + (i * 8)) ((h 15) i))) := FR_up (show up w3_1 9 (a + (i * 8)) ((h 15) i) = (setO w3_1 9 (fup (w3_1 9) (a + (i * 8)) ((h 15) i))) from up_can rfl rfl rfl) hF3_1 (by decide)
        refine TT_iinc hK (v := i + 1) (lv' := [(4, vI (i + 1)), (0, vR 8), (1, vI a), (2, vI 8), (3, vI n)]) 4 rfl rfl (by decide) rfl dX0_writeLine_27 ?_
        refine TT_goto hK (tgt := 3) dX0_writeLine_30 (by decide) ?_
        refine TT_sub [1, 2, 3, 4, 0] rfl ?_
        have e5_9 : (setO w3_1 9 (fup (w3_1 9) (a + (i * 8)) ((h 15) i))) 9 = fup (w3_1 9) (a + (i * 8)) ((h 15) i) := sOf_eq _ _ _
        exact ih1 (i + 1) (setO w3_1 9 (fup (w3_1 9) (a + (i * 8)) ((h 15) i))) hT_4 hF_4 (by first | omega | (simp [up, setR] <;> omega)) (by rewrite [e5_9]; intro t h1 h2; by_cases e : t = a + 8 * i; (rw [show a + i * 8 = a + 8 * i by omega, e, fup_eq]; unfold wT8; rw [if_pos (by omega), show (a + 8 * i) / 8 = i by omega]); (rw [fup_ne _ _ (by omega), hw t h1 h2]; unfold wT8; by_cases c : t % 8 = a ∧ t / 8 < i; (rw [if_pos c, if_pos (by omega)]); (rw [if_neg c, if_neg (by omega)]))) (by first | omega | (simp [up, setR] <;> omega))
  refine TT_sub [1, 2, 3, 4, 0] rfl ?_
  exact L3_1 ((((8 : Int) - 0).toNat) + 1) 0 h hT hF (by first | omega | (simp [up, setR] <;> omega)) (by intro t h1 h2; unfold wT8; rw [if_neg (by omega)]) (Nat.lt_succ_self _)
set_option maxRecDepth 20000 in
theorem s_readLine_x1 (a n : Int) (h : Hp_) (hT : TY h) (ha : 0 ≤ a ∧ a ≤ 56) (hn : 2 ≤ n ∧ n ≤ 8) : Ctr yX0_readLine cX0_readLine 5 none (rmd 0) ly ly 0 0 [vR 8, vI a, vI 1, vI n] h (fun r h' => (TY h' ∧ FR [14] h h') ∧ r = none ∧ (∀ j : Int, 0 ≤ j → j < n → (h' 14) j = (h 9) (a + 1 * j))) := by
  refine Ctr_of (by decide) (Nat.le_of_ble_eq_true rfl) ⟨Nat.le_refl _, Nat.le_refl _⟩ (fun K hK hQ _ => ?_)
  show TT K ly 0 0 0 [(0, vR 8), (1, vI a), (2, vI 1), (3, vI n)] [] h
  have hF : FR [14] h h := FR_rf _ _
  refine TT_iconst hK dX0_readLine_0 ?_
  refine TT_istore hK (lv' := [(4, vI 0), (0, vR 8), (1, vI a), (2, vI 1), (3, vI n)]) (by decide) rfl dX0_readLine_1 ?_
  have L3_1 : ∀ (k1 : Nat) (i : Int) (w3_1 : Hp_), TY w3_1 → FR [14] h w3_1 → (0 ≤ i ∧ i ≤ 8) → (∀ j : Int, 0 ≤ j → j < i → (w3_1 14) j = h 9 (a + 1 * j)) → ((8 : Int) - i).toNat < k1 → TT K ly 0 0 3 [(0, vR 8), (1, vI a), (2, vI 1), (3, vI n), (4, vI i)] [] w3_1 := by
    intro k1
    induction k1 with
    | zero => intro i w3_1 hT3_1 hF3_1 hi hr hk1; exact absurd hk1 (Nat.not_lt_zero _)
    | succ k1 ih1 =>
      intro i w3_1 hT3_1 hF3_1 hi hr hk1
      refine TT_iload hK 4 rfl dX0_readLine_3 ?_
      refine TT_iload_n hK rfl 3 rfl dX0_readLine_5 ?_
      refine TT_icmp_ge hK (tgt := 33) (irm (by omega) (by omega)) (irm (by omega) (by omega)) dX0_readLine_6 (by decide) (fun hb6_2 => ?_) (fun hb6_2 => ?_)
      · refine TT_vret hK hQ ?_ dX0_readLine_33
        exact ⟨⟨hT3_1, hF3_1⟩, rfl, (by intro j h1 h2; exact hr j h1 (by omega))⟩
      · refine TT_aload_n hK rfl 0 rfl dX0_readLine_9 ?_
        refine gf_X0_27 hK (by decide) rfl (q := 14) rfl rfl dX0_readLine_10 ?_
        refine TT_iload hK 4 rfl dX0_readLine_13 ?_
        refine TT_aload_n hK rfl 0 rfl dX0_readLine_15 ?_
        refine gf_X0_9 hK (by decide) rfl (q := 9) rfl rfl dX0_readLine_16 ?_
        refine TT_iload_n hK rfl 1 rfl dX0_readLine_19 ?_
        refine TT_iload hK 4 rfl dX0_readLine_20 ?_
        refine TT_iload_n hK rfl 2 rfl dX0_readLine_22 ?_
        refine TT_imul hK dX0_readLine_23 ?_
        refine TT_iadd hK dX0_readLine_24 ?_
        refine TT_iald hK (o := 9) (n := 64) (by decide) rfl (by first | omega | (simp [up, setR] <;> omega)) (by first | omega | (simp [up, setR] <;> omega)) (v := (h 9) (a + (i * 1))) (rd_ (hF3_1 9 (by decide)) rfl) dX0_readLine_25 ?_
        have r3 := ty_9 (i := a + (i * 1)) (v := (h 9) (a + (i * 1))) hT3_1 (rd_ (hF3_1 9 (by decide)) rfl) (by omega) (by omega)
        refine TT_iast hK (o := 14) (n := 8) (by decide) rfl (by omega) (by omega) dX0_readLine_26 ?_
        refine TT_hp (h' := setO w3_1 14 (fup (w3_1 14) i ((h 9) (a + (i * 1))))) (up_can rfl rfl rfl) ?_
        have hT_4 : TY (setO w3_1 14 (fup (w3_1 14) i ((h 9) (a + (i * 1))))) := tu_14 hT3_1 (show up w3_1 14 i ((h 9) (a + (i * 1))) = (setO w3_1 14 (fup (w3_1 14) i ((h 9) (a + (i * 1))))) from up_can rfl rfl rfl) (by omega)
        have hF_4 : FR [14] h (setO w3_1 14 (fup (w3_1 14) i ((h 9) (a + (i * 1))))) := FR_up (show up w3_1 14 i ((h 9) (a + (i * 1))) = (setO w3_1 14 (fup (w3_1 14) i ((h 9) (a + (i * 1))))) from up_can rfl rfl rfl) hF3_1 (by decide)
        refine TT_iinc hK (v := i + 1) (lv' := [(4, vI (i + 1)), (0, vR 8), (1, vI a), (2, vI 1), (3, vI n)]) 4 rfl rfl (by decide) rfl dX0_readLine_27 ?_
        refine TT_goto hK (tgt := 3) dX0_readLine_30 (by decide) ?_
        refine TT_sub [1, 2, 3, 4, 0] rfl ?_
        have e5_14 : (setO w3_1 14 (fup (w3_1 14) i ((h 9) (a + (i * 1))))) 14 = fup (w3_1 14) i ((h 9) (a + (i * 1))) := sOf_eq _ _ _
        exact ih1 (i + 1) (setO w3_1 14 (fup (w3_1 14) i ((h 9) (a + (i * 1))))) hT_4 hF_4 (by first | omega | (simp [up, setR] <;> omega)) (by rewrite [e5_14]; intro j h1 h2; by_cases e : j = i; (rw [e, fup_eq, Int.mul_comm i 1]); (rw [fup_ne _ _ e]; exact hr j h1 (by omega))) (by first | omega | (simp [up, setR] <;> omega))
  refine TT_sub [1, 2, 3, 4, 0] rfl ?_
  exact L3_1 ((((8 : Int) - 0).toNat) + 1) 0 h hT hF (by first | omega | (simp [up, setR] <;> omega)) (by intro j h1 h2; exfalso; omega) (Nat.lt_succ_self _)
set_option maxRecDepth 20000 in
theorem s_writeLine_x1 (a n : Int) (h : Hp_) (hT : TY h) (ha : 0 ≤ a ∧ a ≤ 56) (hn : 2 ≤ n ∧ n ≤ 8) : Ctr yX0_writeLine cX0_writeLine 5 none (rmd 0) ly ly 0 0 [vR 8, vI a, vI 1, vI n] h (fun r h' => (TY h' ∧ FR [9] h h') ∧ r = none ∧ (∀ t : Int, 0 ≤ t → t < 64 → (h' 9) t = wT1 a n (h 15) (h 9) t)) := by
  refine Ctr_of (by decide) (Nat.le_of_ble_eq_true rfl) ⟨Nat.le_refl _, Nat.le_refl _⟩ (fun K hK hQ _ => ?_)
  show TT K ly 0 0 0 [(0, vR 8), (1, vI a), (2, vI 1), (3, vI n)] [] h
  have hF : FR [9] h h := FR_rf _ _
  refine TT_iconst hK dX0_writeLine_0 ?_
  refine TT_istore hK (lv' := [(4, vI 0), (0, vR 8), (1, vI a), (2, vI 1), (3, vI n)]) (by decide) rfl dX0_writeLine_1 ?_
  have L3_1 : ∀ (k1 : Nat) (i : Int) (w3_1 : Hp_), TY w3_1 → FR [9] h w3_1 → (0 ≤ i ∧ i ≤ n) → (∀ t : Int, 0 ≤ t → t < 64 → (w3_1 9) t = wT1 a i (h 15) (h 9) t) → ((8 : Int) - i).toNat < k1 → TT K ly 0 0 3 [(0, vR 8), (1, vI a), (2, vI 1), (3, vI n), (4, vI i)] [] w3_1 := by
    intro k1
    induction k1 with
    | zero => intro i w3_1 hT3_1 hF3_1 hi hw hk1; exact absurd hk1 (Nat.not_lt_zero _)
    | succ k1 ih1 =>
      intro i w3_1 hT3_1 hF3_1 hi hw hk1
      refine TT_iload hK 4 rfl dX0_writeLine_3 ?_
      refine TT_iload_n hK rfl 3 rfl dX0_writeLine_5 ?_
      refine TT_icmp_ge hK (tgt := 33) (irm (by omega) (by omega)) (irm (by omega) (by omega)) dX0_writeLine_6 (by decide) (fun hb6_2 => ?_) (fun hb6_2 => ?_)
      · refine TT_vret hK hQ ?_ dX0_writeLine_33
        exact ⟨⟨hT3_1, hF3_1⟩, rfl, (by intro t h1 h2; rw [hw t h1 h2, show i = n by omega])⟩
      · refine TT_aload_n hK rfl 0 rfl dX0_writeLine_9 ?_
        refine gf_X0_9 hK (by decide) rfl (q := 9) rfl rfl dX0_writeLine_10 ?_
        refine TT_iload_n hK rfl 1 rfl dX0_writeLine_13 ?_
        refine TT_iload hK 4 rfl dX0_writeLine_14 ?_
        refine TT_iload_n hK rfl 2 rfl dX0_writeLine_16 ?_
        refine TT_imul hK dX0_writeLine_17 ?_
        refine TT_iadd hK dX0_writeLine_18 ?_
        refine TT_aload_n hK rfl 0 rfl dX0_writeLine_19 ?_
        refine gf_X0_30 hK (by decide) rfl (q := 15) rfl rfl dX0_writeLine_20 ?_
        refine TT_iload hK 4 rfl dX0_writeLine_23 ?_
        refine TT_iald hK (o := 15) (n := 8) (by decide) rfl (by first | omega | (simp [up, setR] <;> omega)) (by first | omega | (simp [up, setR] <;> omega)) (v := (h 15) i) (rd_ (hF3_1 15 (by decide)) rfl) dX0_writeLine_25 ?_
        have r3 := ty_15 (i := i) (v := (h 15) i) hT3_1 (rd_ (hF3_1 15 (by decide)) rfl) (by omega) (by omega)
        refine TT_iast hK (o := 9) (n := 64) (by decide) rfl (by omega) (by omega) dX0_writeLine_26 ?_
        refine TT_hp (h' := setO w3_1 9 (fup (w3_1 9) (a + (i * 1)) ((h 15) i))) (up_can rfl rfl rfl) ?_
        have hT_4 : TY (setO w3_1 9 (fup (w3_1 9) (a + (i * 1)) ((h 15) i))) := tu_9 hT3_1 (show up w3_1 9 (a + (i * 1)) ((h 15) i) = (setO w3_1 9 (fup (w3_1 9) (a + (i * 1)) ((h 15) i))) from up_can rfl rfl rfl) (by omega)
        have hF_4 : FR [9] h (setO w3_1 9 (fup (w3_1 9) (a + (i * 1)) ((h 15) i))) := FR_up (show up w3_1 9 (a + (i * 1)) ((h 15) i) = (setO w3_1 9 (fup (w3_1 9) (a + (i * 1)) ((h 15) i))) from up_can rfl rfl rfl) hF3_1 (by decide)
        refine TT_iinc hK (v := i + 1) (lv' := [(4, vI (i + 1)), (0, vR 8), (1, vI a), (2, vI 1), (3, vI n)]) 4 rfl rfl (by decide) rfl dX0_writeLine_27 ?_
        refine TT_goto hK (tgt := 3) dX0_writeLine_30 (by decide) ?_
        refine TT_sub [1, 2, 3, 4, 0] rfl ?_
        have e5_9 : (setO w3_1 9 (fup (w3_1 9) (a + (i * 1)) ((h 15) i))) 9 = fup (w3_1 9) (a + (i * 1)) ((h 15) i) := sOf_eq _ _ _
        exact ih1 (i + 1) (setO w3_1 9 (fup (w3_1 9) (a + (i * 1)) ((h 15) i))) hT_4 hF_4 (by first | omega | (simp [up, setR] <;> omega)) (by rewrite [e5_9]; intro t h1 h2; by_cases e : t = a + 1 * i; (rw [show a + i * 1 = a + 1 * i by omega, e, fup_eq]; unfold wT1; rw [if_pos (by omega), show a + 1 * i - a = i by omega]); (rw [fup_ne _ _ (by omega), hw t h1 h2]; unfold wT1; by_cases c : a ≤ t ∧ t < a + i; (rw [if_pos c, if_pos (by omega)]); (rw [if_neg c, if_neg (by omega)]))) (by first | omega | (simp [up, setR] <;> omega))
  refine TT_sub [1, 2, 3, 4, 0] rfl ?_
  exact L3_1 ((((8 : Int) - 0).toNat) + 1) 0 h hT hF (by first | omega | (simp [up, setR] <;> omega)) (by intro t h1 h2; unfold wT1; rw [if_neg (by omega)]) (Nat.lt_succ_self _)
set_option maxRecDepth 20000 in
theorem s_fourth_x (k n : Int) (h : Hp_) (hT : TY h) (hn : 2 ≤ n ∧ n ≤ 8) (hk : 0 ≤ k ∧ k < (n + 1) / 2) (hb : ∀ j : Int, (n + 1) / 2 ≤ j → j < n → -8190 ≤ (h 15) j ∧ (h 15) j ≤ 8190) : Ctr yX0_fourth cX0_fourth 6 (some .int) (rmd 1) ly ly 0 0 [vR 15, vI k, vI n] h (fun r h' => (TY h' ∧ FR [] h h') ∧ ∃ z : Int, r = some (vI z) ∧ (-8190 ≤ z ∧ z ≤ 8190) ∧ (z = ((h 15) ((n + 1) / 2 + max (k - 1) 0) + (h 15) ((n + 1) / 2 + min k (n / 2 - 1)) + 2) / 4)) := by
  refine Ctr_of (by decide) (Nat.le_of_ble_eq_true rfl) ⟨Nat.le_refl _, Nat.le_refl _⟩ (fun K hK hQ _ => ?_)
  show TT K ly 0 0 0 [(0, vR 15), (1, vI k), (2, vI n)] [] h
  have hF : FR [] h h := FR_rf _ _
  refine TT_iload_n hK rfl 2 rfl dX0_fourth_0 ?_
  refine TT_iconst hK dX0_fourth_1 ?_
  refine TT_iadd hK dX0_fourth_2 ?_
  refine TT_iconst hK dX0_fourth_3 ?_
  refine TT_idivn hK (irm (by omega) (by omega)) (by decide) (by first | omega | (simp [up, setR] <;> omega)) (by first | omega | (simp [up, setR] <;> omega)) dX0_fourth_4 ?_
  refine TT_istore_n hK rfl (lv' := [(3, vI ((n + 1) / 2)), (0, vR 15), (1, vI k), (2, vI n)]) (by decide) rfl dX0_fourth_5 ?_
  refine TT_aload_n hK rfl 1 rfl dX0_fourth_6 ?_
  refine TT_iload_n hK rfl 0 rfl dX0_fourth_7 ?_
  refine TT_iload_n hK rfl 2 rfl dX0_fourth_8 ?_
  refine TT_iconst hK dX0_fourth_9 ?_
  refine TT_isub hK dX0_fourth_10 ?_
  refine TT_iconst hK dX0_fourth_11 ?_
  refine TT_mmax hK (irm (by omega) (by omega)) (by decide) iw_X0_77 (by decide) (Nat.le_of_ble_eq_true rfl) ⟨by decide, by decide⟩ dX0_fourth_12 ?_
  refine TT_iadd hK dX0_fourth_15 ?_
  refine TT_iald hK (o := 15) (n := 8) (by decide) rfl (by first | omega | (simp [up, setR] <;> omega)) (by first | omega | (simp [up, setR] <;> omega)) (v := (h 15) (((n + 1) / 2) + (max (k - 1) 0))) rfl dX0_fourth_16 ?_
  have r1 := ty_15 (i := ((n + 1) / 2) + (max (k - 1) 0)) (v := (h 15) (((n + 1) / 2) + (max (k - 1) 0))) hT rfl (by omega) (by omega)
  refine TT_istore hK (lv' := [(4, vI ((h 15) (((n + 1) / 2) + (max (k - 1) 0)))), (3, vI ((n + 1) / 2)), (0, vR 15), (1, vI k), (2, vI n)]) (by decide) rfl dX0_fourth_17 ?_
  refine TT_aload_n hK rfl 2 rfl dX0_fourth_19 ?_
  refine TT_iload_n hK rfl 1 rfl dX0_fourth_20 ?_
  refine TT_iload_n hK rfl 3 rfl dX0_fourth_21 ?_
  refine TT_iload_n hK rfl 4 rfl dX0_fourth_22 ?_
  refine TT_iconst hK dX0_fourth_23 ?_
  refine TT_idivn hK (irm (by omega) (by omega)) (by decide) (by first | omega | (simp [up, setR] <;> omega)) (by first | omega | (simp [up, setR] <;> omega)) dX0_fourth_24 ?_
  refine TT_iconst hK dX0_fourth_25 ?_
  refine TT_isub hK dX0_fourth_26 ?_
  refine TT_mmin hK (irm (by omega) (by omega)) (irm (by omega) (by omega)) iw_X0_72 (by decide) (Nat.le_of_ble_eq_true rfl) ⟨by decide, by decide⟩ dX0_fourth_27 ?_
  refine TT_iadd hK dX0_fourth_30 ?_
  refine TT_iald hK (o := 15) (n := 8) (by decide) rfl (by first | omega | (simp [up, setR] <;> omega)) (by first | omega | (simp [up, setR] <;> omega)) (v := (h 15) (((n + 1) / 2) + (min k ((n / 2) - 1)))) rfl dX0_fourth_31 ?_
  have r2 := ty_15 (i := ((n + 1) / 2) + (min k ((n / 2) - 1))) (v := (h 15) (((n + 1) / 2) + (min k ((n / 2) - 1)))) hT rfl (by omega) (by omega)
  refine TT_istore hK (lv' := [(5, vI ((h 15) (((n + 1) / 2) + (min k ((n / 2) - 1))))), (4, vI ((h 15) (((n + 1) / 2) + (max (k - 1) 0)))), (3, vI ((n + 1) / 2)), (0, vR 15), (1, vI k), (2, vI n)]) (by decide) rfl dX0_fourth_32 ?_
  have b1 := hb ((n + 1) / 2 + max (k - 1) 0) (by omega) (by omega)
  have b2 := hb ((n + 1) / 2 + min k (n / 2 - 1)) (by omega) (by omega)
  refine TT_iload hK 1 rfl dX0_fourth_34 ?_
  refine TT_iload hK 0 rfl dX0_fourth_36 ?_
  refine TT_iadd hK dX0_fourth_38 ?_
  refine TT_iconst hK dX0_fourth_39 ?_
  refine TT_iadd hK dX0_fourth_40 ?_
  refine TT_iconst hK dX0_fourth_41 ?_
  refine TT_ishr hK (irm (by omega) (by omega)) (by omega) (by omega) dX0_fourth_42 ?_
  refine TT_cgI (b := ((((h 15) (((n + 1) / 2) + (max (k - 1) 0))) + ((h 15) (((n + 1) / 2) + (min k ((n / 2) - 1))))) + 2) / 4) rfl ?_
  refine TT_iret hK hQ ?_ dX0_fourth_43
  exact ⟨⟨hT, hF⟩, (((((h 15) (((n + 1) / 2) + (max (k - 1) 0))) + ((h 15) (((n + 1) / 2) + (min k ((n / 2) - 1))))) + 2) / 4), rfl, (by omega), (by omega)⟩
set_option maxRecDepth 20000 in
theorem s_splitLine_x8 (a n : Int) (h : Hp_) (hT : TY h) (ha : 0 ≤ a ∧ a ≤ 7) (hn : 1 ≤ n ∧ n ≤ 8) (hs : ∀ j : Int, 0 ≤ j → j < n → -4095 ≤ (h 9) (a + 8 * j) ∧ (h 9) (a + 8 * j) ≤ 4095) : Ctr yX0_splitLine cX0_splitLine 7 none (rmd 2) ly ly 0 0 [vR 8, vI a, vI 8, vI n] h (fun r h' => (TY h' ∧ FR [9, 14, 15] h h') ∧ r = none ∧ (∀ t : Int, 0 ≤ t → t < 64 → (h' 9) t = wE8 a n n (h 9) t)) := by
  refine Ctr_of (by decide) (Nat.le_of_ble_eq_true rfl) ⟨Nat.le_refl _, Nat.le_refl _⟩ (fun K hK hQ _ => ?_)
  show TT K ly 0 0 0 [(0, vR 8), (1, vI a), (2, vI 8), (3, vI n)] [] h
  have hF : FR [9, 14, 15] h h := FR_rf _ _
  refine TT_iload_n hK rfl 3 rfl dX0_splitLine_0 ?_
  refine TT_iconst hK dX0_splitLine_1 ?_
  refine TT_icmp_ge hK (tgt := 6) (irm (by omega) (by omega)) (by decide) dX0_splitLine_2 (by decide) (fun hb2_1 => ?_) (fun hb2_1 => ?_)
  · refine TT_aload_n hK rfl 0 rfl dX0_splitLine_6 ?_
    refine TT_iload_n hK rfl 1 rfl dX0_splitLine_7 ?_
    refine TT_iload_n hK rfl 2 rfl dX0_splitLine_8 ?_
    refine TT_iload_n hK rfl 3 rfl dX0_splitLine_9 ?_
    refine iv_X0_90 hK (s_readLine_x8 a n h hT (by first | omega | (simp [up, setR] <;> omega)) (by first | omega | (simp [up, setR] <;> omega))) (by decide) rfl ⟨by decide, by decide⟩ (by decide) rfl rfl (Nat.le_of_ble_eq_true rfl) ⟨by decide, by decide⟩ dX0_splitLine_10 ?_
    intro r9 g10_2 hp9
    obtain ⟨⟨hT_2, hG_2⟩, hr9, p1_2⟩ := hp9
    rw [hr9]
    have hF_2 : FR [9, 14, 15] h g10_2 := FR_tr hF hG_2 (by decide)
    have p1_at10 := p1_2
    show TT K ly 0 0 13 [(0, vR 8), (1, vI a), (2, vI 8), (3, vI n)] [] g10_2
    refine TT_iload_n hK rfl 3 rfl dX0_splitLine_13 ?_
    refine TT_iconst hK dX0_splitLine_14 ?_
    refine TT_iadd hK dX0_splitLine_15 ?_
    refine TT_iconst hK dX0_splitLine_16 ?_
    refine TT_idivn hK (irm (by omega) (by omega)) (by decide) (by first | omega | (simp [up, setR] <;> omega)) (by first | omega | (simp [up, setR] <;> omega)) dX0_splitLine_17 ?_
    refine TT_istore hK (lv' := [(4, vI ((n + 1) / 2)), (0, vR 8), (1, vI a), (2, vI 8), (3, vI n)]) (by decide) rfl dX0_splitLine_18 ?_
    refine TT_iconst hK dX0_splitLine_20 ?_
    refine TT_istore hK (lv' := [(5, vI 0), (4, vI ((n + 1) / 2)), (0, vR 8), (1, vI a), (2, vI 8), (3, vI n)]) (by decide) rfl dX0_splitLine_21 ?_
    have L23_3 : ∀ (k3 : Nat) (k : Int) (w23_3 : Hp_), TY w23_3 → FR [9, 14, 15] h w23_3 → (0 ≤ k ∧ k ≤ n / 2) → ((w23_3 9) = h 9) → (∀ j : Int, 0 ≤ j → j < n → (w23_3 14) j = h 9 (a + 8 * j)) → (∀ j : Int, 0 ≤ j → j < n → -4095 ≤ (w23_3 14) j ∧ (w23_3 14) j ≤ 4095) → (∀ j : Int, 0 ≤ j → j < k → (w23_3 15) ((n + 1) / 2 + j) = dE (w23_3 14) j n) → ((8 : Int) - k).toNat < k3 → TT K ly 0 0 23 [(0, vR 8), (1, vI a), (2, vI 8), (3, vI n), (4, vI ((n + 1) / 2)), (5, vI k)] [] w23_3 := by
      intro k3
      induction k3 with
      | zero => intro k w23_3 hT23_3 hF23_3 hk h9 h14 hfb hd9 hk3; exact absurd hk3 (Nat.not_lt_zero _)
      | succ k3 ih3 =>
        intro k w23_3 hT23_3 hF23_3 hk h9 h14 hfb hd9 hk3
        refine TT_iload hK 5 rfl dX0_splitLine_23 ?_
        refine TT_iload_n hK rfl 3 rfl dX0_splitLine_25 ?_
        refine TT_iconst hK dX0_splitLine_26 ?_
        refine TT_idivn hK (irm (by omega) (by omega)) (by decide) (by first | omega | (simp [up, setR] <;> omega)) (by first | omega | (simp [up, setR] <;> omega)) dX0_splitLine_27 ?_
        refine TT_icmp_ge hK (tgt := 108) (irm (by omega) (by omega)) (irm (by omega) (by omega)) dX0_splitLine_28 (by decide) (fun hb28_4 => ?_) (fun hb28_4 => ?_)
        · refine TT_iconst hK dX0_splitLine_108 ?_
          refine TT_istore hK (lv' := [(5, vI 0), (0, vR 8), (1, vI a), (2, vI 8), (3, vI n), (4, vI ((n + 1) / 2))]) (by decide) rfl dX0_splitLine_109 ?_
          have L111_5 : ∀ (k5 : Nat) (k2 : Int) (w111_5 : Hp_), TY w111_5 → FR [9, 14, 15] h w111_5 → (0 ≤ k2 ∧ k2 ≤ (n + 1) / 2) → ((w111_5 9) = h 9) → (∀ j : Int, 0 ≤ j → j < n → (w111_5 14) j = h 9 (a + 8 * j)) → (∀ j : Int, 0 ≤ j → j < n → -4095 ≤ (w111_5 14) j ∧ (w111_5 14) j ≤ 4095) → (∀ j : Int, 0 ≤ j → j < n / 2 → (w111_5 15) ((n + 1) / 2 + j) = dE (w111_5 14) j n) → (∀ j : Int, 0 ≤ j → j < k2 → (w111_5 15) j = fE (w111_5 14) n j) → ((8 : Int) - k2).toNat < k5 → TT K ly 0 0 111 [(0, vR 8), (1, vI a), (2, vI 8), (3, vI n), (4, vI ((n + 1) / 2)), (5, vI k2)] [] w111_5 := by
            intro k5
            induction k5 with
            | zero => intro k2 w111_5 hT111_5 hF111_5 hk2 h9 h14 hfb hd9 hs8 hk5; exact absurd hk5 (Nat.not_lt_zero _)
            | succ k5 ih5 =>
              intro k2 w111_5 hT111_5 hF111_5 hk2 h9 h14 hfb hd9 hs8 hk5
              refine TT_iload hK 5 rfl dX0_splitLine_111 ?_
              refine TT_iload hK 4 rfl dX0_splitLine_113 ?_
              refine TT_icmp_ge hK (tgt := 151) (irm (by omega) (by omega)) (irm (by omega) (by omega)) dX0_splitLine_115 (by decide) (fun hb115_6 => ?_) (fun hb115_6 => ?_)
              · have hs9 := fE_all (n := n) (by omega) (fun j g1 g2 => hs8 j g1 (by omega)) hd9
                refine TT_aload_n hK rfl 0 rfl dX0_splitLine_151 ?_
                refine TT_iload_n hK rfl 1 rfl dX0_splitLine_152 ?_
                refine TT_iload_n hK rfl 2 rfl dX0_splitLine_153 ?_
                refine TT_iload_n hK rfl 3 rfl dX0_splitLine_154 ?_
                refine iv_X0_97 hK (s_writeLine_x8 a n w111_5 hT111_5 (by first | omega | (simp [up, setR] <;> omega)) (by first | omega | (simp [up, setR] <;> omega))) (by decide) rfl ⟨by decide, by decide⟩ (by decide) rfl rfl (Nat.le_of_ble_eq_true rfl) ⟨by decide, by decide⟩ dX0_splitLine_155 ?_
                intro r9 g155_7 hp9
                obtain ⟨⟨hT_7, hG_7⟩, hr9, p1_7⟩ := hp9
                rw [hr9]
                have hF_7 : FR [9, 14, 15] h g155_7 := FR_tr hF111_5 hG_7 (by decide)
                have p1_at155 := p1_7
                show TT K ly 0 0 158 [(0, vR 8), (1, vI a), (2, vI 8), (3, vI n), (4, vI ((n + 1) / 2)), (5, vI k2)] [] g155_7
                refine TT_vret hK hQ ?_ dX0_splitLine_158
                exact ⟨⟨hT_7, hF_7⟩, rfl, (by first | (intro t h1 h2; exact (wE8_1 (by omega) h1).symm) | (intro t h1 h2; rw [p1_at155 t h1 h2, h9]; exact wT8_E (by omega) ⟨h1, h2⟩ (fun j g1 g2 => (hs9 j g1 (by omega)).trans (fE_cg (by omega) ⟨g1, g2⟩ h14))))⟩
              · refine TT_aload_n hK rfl 0 rfl dX0_splitLine_118 ?_
                refine gf_X0_30 hK (by decide) rfl (q := 15) rfl rfl dX0_splitLine_119 ?_
                refine TT_iload hK 5 rfl dX0_splitLine_122 ?_
                refine TT_aload_n hK rfl 0 rfl dX0_splitLine_124 ?_
                have c1 := hfb (2 * k2) (by omega) (by omega)
                refine gf_X0_27 hK (by decide) rfl (q := 14) rfl rfl dX0_splitLine_125 ?_
                refine TT_iconst hK dX0_splitLine_128 ?_
                refine TT_iload hK 5 rfl dX0_splitLine_129 ?_
                refine TT_imul hK dX0_splitLine_131 ?_
                refine TT_iald hK (o := 14) (n := 8) (by decide) rfl (by first | omega | (simp [up, setR] <;> omega)) (by first | omega | (simp [up, setR] <;> omega)) (v := (w111_5 14) (2 * k2)) rfl dX0_splitLine_132 ?_
                have r8 := ty_14 (i := 2 * k2) (v := (w111_5 14) (2 * k2)) hT111_5 rfl (by omega) (by omega)
                refine TT_aload_n hK rfl 0 rfl dX0_splitLine_133 ?_
                refine gf_X0_30 hK (by decide) rfl (q := 15) rfl rfl dX0_splitLine_134 ?_
                refine TT_iload hK 5 rfl dX0_splitLine_137 ?_
                refine TT_iload_n hK rfl 3 rfl dX0_splitLine_139 ?_
                refine iv_X0_93 hK (s_fourth_x k2 n w111_5 hT111_5 (by first | omega | (simp [up, setR] <;> omega)) (by first | omega | (simp [up, setR] <;> omega)) (by intro j g1 g2; have k8 := hd9 (j - (n + 1) / 2) (by omega) (by omega); rw [show (n + 1) / 2 + (j - (n + 1) / 2) = j by omega] at k8; rw [k8]; have k7 := dE_b (k := j - (n + 1) / 2) (B := 4095) (show 2 ≤ n by omega) hfb; omega)) ⟨by decide, by decide⟩ (by decide) rfl rfl (Nat.le_of_ble_eq_true rfl) ⟨by decide, by decide⟩ dX0_splitLine_140 ?_
                intro r9 g140_9 hp9
                obtain ⟨⟨hT_9, hG_9⟩, z140_9, hr9, hz_9, p1_9⟩ := hp9
                rw [hr9]
                have hF_9 : FR [9, 14, 15] h g140_9 := FR_tr hF111_5 hG_9 (by decide)
                have p1_at140 := p1_9
                show TT K ly 0 0 143 [(0, vR 8), (1, vI a), (2, vI 8), (3, vI n), (4, vI ((n + 1) / 2)), (5, vI k2)] [vI z140_9, vI ((w111_5 14) (2 * k2)), vI k2, vR 15] g140_9
                refine TT_iadd hK dX0_splitLine_143 ?_
                refine TT_iast hK (o := 15) (n := 8) (by decide) rfl (by omega) (by omega) dX0_splitLine_144 ?_
                refine TT_hp (h' := setO g140_9 15 (fup (w111_5 15) k2 (((w111_5 14) (2 * k2)) + z140_9))) (up_can (hG_9 15 (by decide)) rfl rfl) ?_
                have hT_10 : TY (setO g140_9 15 (fup (w111_5 15) k2 (((w111_5 14) (2 * k2)) + z140_9))) := tu_15 hT_9 (show up g140_9 15 k2 (((w111_5 14) (2 * k2)) + z140_9) = (setO g140_9 15 (fup (w111_5 15) k2 (((w111_5 14) (2 * k2)) + z140_9))) from up_can (hG_9 15 (by decide)) rfl rfl) (by omega)
                have hF_10 : FR [9, 14, 15] h (setO g140_9 15 (fup (w111_5 15) k2 (((w111_5 14) (2 * k2)) + z140_9))) := FR_up (show up g140_9 15 k2 (((w111_5 14) (2 * k2)) + z140_9) = (setO g140_9 15 (fup (w111_5 15) k2 (((w111_5 14) (2 * k2)) + z140_9))) from up_can (hG_9 15 (by decide)) rfl rfl) hF_9 (by decide)
                refine TT_iinc hK (v := k2 + 1) (lv' := [(5, vI (k2 + 1)), (0, vR 8), (1, vI a), (2, vI 8), (3, vI n), (4, vI ((n + 1) / 2))]) 5 rfl rfl (by decide) rfl dX0_splitLine_145 ?_
                refine TT_goto hK (tgt := 111) dX0_splitLine_148 (by decide) ?_
                refine TT_sub [1, 2, 3, 4, 5, 0] rfl ?_
                have e11_9 : (setO g140_9 15 (fup (w111_5 15) k2 (((w111_5 14) (2 * k2)) + z140_9))) 9 = w111_5 9 := (sOf_ne _ _ (by decide)).trans (hG_9 9 (by decide))
                have e12_14 : (setO g140_9 15 (fup (w111_5 15) k2 (((w111_5 14) (2 * k2)) + z140_9))) 14 = w111_5 14 := (sOf_ne _ _ (by decide)).trans (hG_9 14 (by decide))
                have e13_14 : (setO g140_9 15 (fup (w111_5 15) k2 (((w111_5 14) (2 * k2)) + z140_9))) 14 = w111_5 14 := (sOf_ne _ _ (by decide)).trans (hG_9 14 (by decide))
                have e14_14 : (setO g140_9 15 (fup (w111_5 15) k2 (((w111_5 14) (2 * k2)) + z140_9))) 14 = w111_5 14 := (sOf_ne _ _ (by decide)).trans (hG_9 14 (by decide))
                have e15_15 : (setO g140_9 15 (fup (w111_5 15) k2 (((w111_5 14) (2 * k2)) + z140_9))) 15 = fup (w111_5 15) k2 (((w111_5 14) (2 * k2)) + z140_9) := sOf_eq _ _ _
                have e16_14 : (setO g140_9 15 (fup (w111_5 15) k2 (((w111_5 14) (2 * k2)) + z140_9))) 14 = w111_5 14 := (sOf_ne _ _ (by decide)).trans (hG_9 14 (by decide))
                have e17_15 : (setO g140_9 15 (fup (w111_5 15) k2 (((w111_5 14) (2 * k2)) + z140_9))) 15 = fup (w111_5 15) k2 (((w111_5 14) (2 * k2)) + z140_9) := sOf_eq _ _ _
                exact ih5 (k2 + 1) (setO g140_9 15 (fup (w111_5 15) k2 (((w111_5 14) (2 * k2)) + z140_9))) hT_10 hF_10 (by first | omega | (simp [up, setR] <;> omega)) (by rewrite [e11_9]; first | rfl | exact h9) (by rewrite [e12_14]; exact h14) (by rewrite [e13_14]; exact hfb) (by rewrite [e14_14, e15_15]; intro j g1 g2; rw [fup_ne _ _ (by omega)]; exact hd9 j g1 g2) (by rewrite [e16_14, e17_15]; intro j g1 g2; by_cases e : j = k2; (rw [e, fup_eq]; exact fE_4 (by omega) (by omega) hd9 p1_at140); (rw [fup_ne _ _ e]; exact hs8 j g1 (by omega))) (by first | omega | (simp [up, setR] <;> omega))
          refine TT_sub [1, 2, 3, 4, 5, 0] rfl ?_
          exact L111_5 ((((8 : Int) - 0).toNat) + 1) 0 w23_3 hT23_3 hF23_3 (by first | omega | (simp [up, setR] <;> omega)) (by exact h9) (by exact h14) (by exact hfb) (by intro j g1 g2; exact hd9 j g1 (by omega)) (by intro j g1 g2; exfalso; omega) (Nat.lt_succ_self _)
        · have J66_18 : ∀ (nx : Int), ((2 * k + 2 < n → nx = (w23_3 14) (2 * k + 2)) ∧ (n ≤ 2 * k + 2 → nx = (w23_3 14) (2 * k))) → (-4095 ≤ nx ∧ nx ≤ 4095) → TT K ly 0 0 66 [(0, vR 8), (1, vI a), (2, vI 8), (3, vI n), (4, vI ((n + 1) / 2)), (5, vI k), (6, vI nx)] [] w23_3 := by
            intro nx hnx hnb
            refine TT_aload_n hK rfl 0 rfl dX0_splitLine_66 ?_
            refine gf_X0_30 hK (by decide) rfl (q := 15) rfl rfl dX0_splitLine_67 ?_
            refine TT_iload hK 4 rfl dX0_splitLine_70 ?_
            refine TT_iload hK 5 rfl dX0_splitLine_72 ?_
            refine TT_iadd hK dX0_splitLine_74 ?_
            refine TT_aload_n hK rfl 0 rfl dX0_splitLine_75 ?_
            have c1 := hfb (2 * k + 1) (by omega) (by omega)
            have c2 := hfb (2 * k) (by omega) (by omega)
            refine gf_X0_27 hK (by decide) rfl (q := 14) rfl rfl dX0_splitLine_76 ?_
            refine TT_iconst hK dX0_splitLine_79 ?_
            refine TT_iload hK 5 rfl dX0_splitLine_80 ?_
            refine TT_imul hK dX0_splitLine_82 ?_
            refine TT_iconst hK dX0_splitLine_83 ?_
            refine TT_iadd hK dX0_splitLine_84 ?_
            refine TT_iald hK (o := 14) (n := 8) (by decide) rfl (by first | omega | (simp [up, setR] <;> omega)) (by first | omega | (simp [up, setR] <;> omega)) (v := (w23_3 14) ((2 * k) + 1)) rfl dX0_splitLine_85 ?_
            have r19 := ty_14 (i := (2 * k) + 1) (v := (w23_3 14) ((2 * k) + 1)) hT23_3 rfl (by omega) (by omega)
            refine TT_aload_n hK rfl 0 rfl dX0_splitLine_86 ?_
            refine gf_X0_27 hK (by decide) rfl (q := 14) rfl rfl dX0_splitLine_87 ?_
            refine TT_iconst hK dX0_splitLine_90 ?_
            refine TT_iload hK 5 rfl dX0_splitLine_91 ?_
            refine TT_imul hK dX0_splitLine_93 ?_
            refine TT_iald hK (o := 14) (n := 8) (by decide) rfl (by first | omega | (simp [up, setR] <;> omega)) (by first | omega | (simp [up, setR] <;> omega)) (v := (w23_3 14) (2 * k)) rfl dX0_splitLine_94 ?_
            have r20 := ty_14 (i := 2 * k) (v := (w23_3 14) (2 * k)) hT23_3 rfl (by omega) (by omega)
            refine TT_iload hK 6 rfl dX0_splitLine_95 ?_
            refine TT_iadd hK dX0_splitLine_97 ?_
            refine TT_iconst hK dX0_splitLine_98 ?_
            refine TT_ishr hK (irm (by omega) (by omega)) (by omega) (by omega) dX0_splitLine_99 ?_
            refine TT_cgI (b := (((w23_3 14) (2 * k)) + nx) / 2) rfl ?_
            refine TT_isub hK dX0_splitLine_100 ?_
            refine TT_iast hK (o := 15) (n := 8) (by decide) rfl (by omega) (by omega) dX0_splitLine_101 ?_
            refine TT_hp (h' := setO w23_3 15 (fup (w23_3 15) (((n + 1) / 2) + k) (((w23_3 14) ((2 * k) + 1)) - ((((w23_3 14) (2 * k)) + nx) / 2)))) (up_can rfl rfl rfl) ?_
            have hT_21 : TY (setO w23_3 15 (fup (w23_3 15) (((n + 1) / 2) + k) (((w23_3 14) ((2 * k) + 1)) - ((((w23_3 14) (2 * k)) + nx) / 2)))) := tu_15 hT23_3 (show up w23_3 15 (((n + 1) / 2) + k) (((w23_3 14) ((2 * k) + 1)) - ((((w23_3 14) (2 * k)) + nx) / 2)) = (setO w23_3 15 (fup (w23_3 15) (((n + 1) / 2) + k) (((w23_3 14) ((2 * k) + 1)) - ((((w23_3 14) (2 * k)) + nx) / 2)))) from up_can rfl rfl rfl) (by omega)
            have hF_21 : FR [9, 14, 15] h (setO w23_3 15 (fup (w23_3 15) (((n + 1) / 2) + k) (((w23_3 14) ((2 * k) + 1)) - ((((w23_3 14) (2 * k)) + nx) / 2)))) := FR_up (show up w23_3 15 (((n + 1) / 2) + k) (((w23_3 14) ((2 * k) + 1)) - ((((w23_3 14) (2 * k)) + nx) / 2)) = (setO w23_3 15 (fup (w23_3 15) (((n + 1) / 2) + k) (((w23_3 14) ((2 * k) + 1)) - ((((w23_3 14) (2 * k)) + nx) / 2)))) from up_can rfl rfl rfl) hF23_3 (by decide)
            refine TT_iinc hK (v := k + 1) (lv' := [(5, vI (k + 1)), (0, vR 8), (1, vI a), (2, vI 8), (3, vI n), (4, vI ((n + 1) / 2)), (6, vI nx)]) 5 rfl rfl (by decide) rfl dX0_splitLine_102 ?_
            refine TT_goto hK (tgt := 23) dX0_splitLine_105 (by decide) ?_
            refine TT_sub [1, 2, 3, 4, 5, 0] rfl ?_
            have e22_9 : (setO w23_3 15 (fup (w23_3 15) (((n + 1) / 2) + k) (((w23_3 14) ((2 * k) + 1)) - ((((w23_3 14) (2 * k)) + nx) / 2)))) 9 = w23_3 9 := sOf_ne _ _ (by decide)
            have e23_14 : (setO w23_3 15 (fup (w23_3 15) (((n + 1) / 2) + k) (((w23_3 14) ((2 * k) + 1)) - ((((w23_3 14) (2 * k)) + nx) / 2)))) 14 = w23_3 14 := sOf_ne _ _ (by decide)
            have e24_14 : (setO w23_3 15 (fup (w23_3 15) (((n + 1) / 2) + k) (((w23_3 14) ((2 * k) + 1)) - ((((w23_3 14) (2 * k)) + nx) / 2)))) 14 = w23_3 14 := sOf_ne _ _ (by decide)
            have e25_14 : (setO w23_3 15 (fup (w23_3 15) (((n + 1) / 2) + k) (((w23_3 14) ((2 * k) + 1)) - ((((w23_3 14) (2 * k)) + nx) / 2)))) 14 = w23_3 14 := sOf_ne _ _ (by decide)
            have e26_15 : (setO w23_3 15 (fup (w23_3 15) (((n + 1) / 2) + k) (((w23_3 14) ((2 * k) + 1)) - ((((w23_3 14) (2 * k)) + nx) / 2)))) 15 = fup (w23_3 15) (((n + 1) / 2) + k) (((w23_3 14) ((2 * k) + 1)) - ((((w23_3 14) (2 * k)) + nx) / 2)) := sOf_eq _ _ _
            exact ih3 (k + 1) (setO w23_3 15 (fup (w23_3 15) (((n + 1) / 2) + k) (((w23_3 14) ((2 * k) + 1)) - ((((w23_3 14) (2 * k)) + nx) / 2)))) hT_21 hF_21 (by first | omega | (simp [up, setR] <;> omega)) (by rewrite [e22_9]; first | rfl | exact h9) (by rewrite [e23_14]; exact h14) (by rewrite [e24_14]; exact hfb) (by rewrite [e25_14, e26_15]; intro j g1 g2; by_cases e : j = k; (rw [e, fup_eq]; exact dE_nx (by omega) (by omega) hnx); (rw [fup_ne _ _ (by omega)]; exact hd9 j g1 (by omega))) (by first | omega | (simp [up, setR] <;> omega))
          refine TT_iconst hK dX0_splitLine_31 ?_
          refine TT_iload hK 5 rfl dX0_splitLine_32 ?_
          refine TT_imul hK dX0_splitLine_34 ?_
          refine TT_iconst hK dX0_splitLine_35 ?_
          refine TT_iadd hK dX0_splitLine_36 ?_
          refine TT_iload_n hK rfl 3 rfl dX0_splitLine_37 ?_
          refine TT_icmp_ge hK (tgt := 55) (irm (by omega) (by omega)) (irm (by omega) (by omega)) dX0_splitLine_38 (by decide) (fun hb38_27 => ?_) (fun hb38_27 => ?_)
          · refine TT_aload_n hK rfl 0 rfl dX0_splitLine_55 ?_
            refine gf_X0_27 hK (by decide) rfl (q := 14) rfl rfl dX0_splitLine_56 ?_
            refine TT_iconst hK dX0_splitLine_59 ?_
            refine TT_iload hK 5 rfl dX0_splitLine_60 ?_
            refine TT_imul hK dX0_splitLine_62 ?_
            refine TT_iald hK (o := 14) (n := 8) (by decide) rfl (by first | omega | (simp [up, setR] <;> omega)) (by first | omega | (simp [up, setR] <;> omega)) (v := (w23_3 14) (2 * k)) rfl dX0_splitLine_63 ?_
            have r28 := ty_14 (i := 2 * k) (v := (w23_3 14) (2 * k)) hT23_3 rfl (by omega) (by omega)
            refine TT_istore hK (lv' := [(6, vI ((w23_3 14) (2 * k))), (0, vR 8), (1, vI a), (2, vI 8), (3, vI n), (4, vI ((n + 1) / 2)), (5, vI k)]) (by decide) rfl dX0_splitLine_64 ?_
            refine TT_sub [1, 2, 3, 4, 5, 6, 0] rfl ?_
            exact J66_18 ((w23_3 14) (2 * k)) (by first | exact ⟨fun _ => rfl, fun q => by exfalso; omega⟩ | exact ⟨fun q => by exfalso; omega, fun _ => rfl⟩) (by first | exact hfb (2 * k + 2) (by omega) (by omega) | exact hfb (2 * k) (by omega) (by omega))
          · refine TT_aload_n hK rfl 0 rfl dX0_splitLine_41 ?_
            refine gf_X0_27 hK (by decide) rfl (q := 14) rfl rfl dX0_splitLine_42 ?_
            refine TT_iconst hK dX0_splitLine_45 ?_
            refine TT_iload hK 5 rfl dX0_splitLine_46 ?_
            refine TT_imul hK dX0_splitLine_48 ?_
            refine TT_iconst hK dX0_splitLine_49 ?_
            refine TT_iadd hK dX0_splitLine_50 ?_
            refine TT_iald hK (o := 14) (n := 8) (by decide) rfl (by first | omega | (simp [up, setR] <;> omega)) (by first | omega | (simp [up, setR] <;> omega)) (v := (w23_3 14) ((2 * k) + 2)) rfl dX0_splitLine_51 ?_
            have r29 := ty_14 (i := (2 * k) + 2) (v := (w23_3 14) ((2 * k) + 2)) hT23_3 rfl (by omega) (by omega)
            refine TT_goto hK (tgt := 64) dX0_splitLine_52 (by decide) ?_
            refine TT_istore hK (lv' := [(6, vI ((w23_3 14) ((2 * k) + 2))), (0, vR 8), (1, vI a), (2, vI 8), (3, vI n), (4, vI ((n + 1) / 2)), (5, vI k)]) (by decide) rfl dX0_splitLine_64 ?_
            refine TT_sub [1, 2, 3, 4, 5, 6, 0] rfl ?_
            exact J66_18 ((w23_3 14) ((2 * k) + 2)) (by first | exact ⟨fun _ => rfl, fun q => by exfalso; omega⟩ | exact ⟨fun q => by exfalso; omega, fun _ => rfl⟩) (by first | exact hfb (2 * k + 2) (by omega) (by omega) | exact hfb (2 * k) (by omega) (by omega))
    refine TT_sub [2, 3, 4, 5, 1, 0] rfl ?_
    have e30_9 : g10_2 9 = h 9 := (hG_2 9 (by decide))
    have e31_15 : g10_2 15 = h 15 := (hG_2 15 (by decide))
    exact L23_3 ((((8 : Int) - 0).toNat) + 1) 0 g10_2 hT_2 hF_2 (by first | omega | (simp [up, setR] <;> omega)) (by rewrite [e30_9]; rfl) (by exact p1_at10) (by intro j g1 g2; rw [p1_at10 j g1 g2]; exact hs j g1 g2) (by rewrite [e31_15]; intro j g1 g2; exfalso; omega) (Nat.lt_succ_self _)
  · refine TT_vret hK hQ ?_ dX0_splitLine_5
    exact ⟨⟨hT, hF⟩, rfl, (by first | (intro t h1 h2; exact (wE8_1 (by omega) h1).symm) | (intro t h1 h2; rw [p1_at155 t h1 h2, h9]; exact wT8_E (by omega) ⟨h1, h2⟩ (fun j g1 g2 => (hs9 j g1 (by omega)).trans (fE_cg (by omega) ⟨g1, g2⟩ h14))))⟩
set_option maxRecDepth 20000 in
theorem s_splitLine_x1 (a n : Int) (h : Hp_) (hT : TY h) (ha : 0 ≤ a ∧ a ≤ 56) (hn : 1 ≤ n ∧ n ≤ 8) (hs : ∀ j : Int, 0 ≤ j → j < n → -4095 ≤ (h 9) (a + 1 * j) ∧ (h 9) (a + 1 * j) ≤ 4095) : Ctr yX0_splitLine cX0_splitLine 7 none (rmd 2) ly ly 0 0 [vR 8, vI a, vI 1, vI n] h (fun r h' => (TY h' ∧ FR [9, 14, 15] h h') ∧ r = none ∧ (∀ t : Int, 0 ≤ t → t < 64 → (h' 9) t = wE1 a n n (h 9) t)) := by
  refine Ctr_of (by decide) (Nat.le_of_ble_eq_true rfl) ⟨Nat.le_refl _, Nat.le_refl _⟩ (fun K hK hQ _ => ?_)
  show TT K ly 0 0 0 [(0, vR 8), (1, vI a), (2, vI 1), (3, vI n)] [] h
  have hF : FR [9, 14, 15] h h := FR_rf _ _
  refine TT_iload_n hK rfl 3 rfl dX0_splitLine_0 ?_
  refine TT_iconst hK dX0_splitLine_1 ?_
  refine TT_icmp_ge hK (tgt := 6) (irm (by omega) (by omega)) (by decide) dX0_splitLine_2 (by decide) (fun hb2_1 => ?_) (fun hb2_1 => ?_)
  · refine TT_aload_n hK rfl 0 rfl dX0_splitLine_6 ?_
    refine TT_iload_n hK rfl 1 rfl dX0_splitLine_7 ?_
    refine TT_iload_n hK rfl 2 rfl dX0_splitLine_8 ?_
    refine TT_iload_n hK rfl 3 rfl dX0_splitLine_9 ?_
    refine iv_X0_90 hK (s_readLine_x1 a n h hT (by first | omega | (simp [up, setR] <;> omega)) (by first | omega | (simp [up, setR] <;> omega))) (by decide) rfl ⟨by decide, by decide⟩ (by decide) rfl rfl (Nat.le_of_ble_eq_true rfl) ⟨by decide, by decide⟩ dX0_splitLine_10 ?_
    intro r9 g10_2 hp9
    obtain ⟨⟨hT_2, hG_2⟩, hr9, p1_2⟩ := hp9
    rw [hr9]
    have hF_2 : FR [9, 14, 15] h g10_2 := FR_tr hF hG_2 (by decide)
    have p1_at10 := p1_2
    show TT K ly 0 0 13 [(0, vR 8), (1, vI a), (2, vI 1), (3, vI n)] [] g10_2
    refine TT_iload_n hK rfl 3 rfl dX0_splitLine_13 ?_
    refine TT_iconst hK dX0_splitLine_14 ?_
    refine TT_iadd hK dX0_splitLine_15 ?_
    refine TT_iconst hK dX0_splitLine_16 ?_
    refine TT_idivn hK (irm (by omega) (by omega)) (by decide) (by first | omega | (simp [up, setR] <;> omega)) (by first | omega | (simp [up, setR] <;> omega)) dX0_splitLine_17 ?_
    refine TT_istore hK (lv' := [(4, vI ((n + 1) / 2)), (0, vR 8), (1, vI a), (2, vI 1), (3, vI n)]) (by decide) rfl dX0_splitLine_18 ?_
    refine TT_iconst hK dX0_splitLine_20 ?_
    refine TT_istore hK (lv' := [(5, vI 0), (4, vI ((n + 1) / 2)), (0, vR 8), (1, vI a), (2, vI 1), (3, vI n)]) (by decide) rfl dX0_splitLine_21 ?_
    have L23_3 : ∀ (k3 : Nat) (k : Int) (w23_3 : Hp_), TY w23_3 → FR [9, 14, 15] h w23_3 → (0 ≤ k ∧ k ≤ n / 2) → ((w23_3 9) = h 9) → (∀ j : Int, 0 ≤ j → j < n → (w23_3 14) j = h 9 (a + 1 * j)) → (∀ j : Int, 0 ≤ j → j < n → -4095 ≤ (w23_3 14) j ∧ (w23_3 14) j ≤ 4095) → (∀ j : Int, 0 ≤ j → j < k → (w23_3 15) ((n + 1) / 2 + j) = dE (w23_3 14) j n) → ((8 : Int) - k).toNat < k3 → TT K ly 0 0 23 [(0, vR 8), (1, vI a), (2, vI 1), (3, vI n), (4, vI ((n + 1) / 2)), (5, vI k)] [] w23_3 := by
      intro k3
      induction k3 with
      | zero => intro k w23_3 hT23_3 hF23_3 hk h9 h14 hfb hd9 hk3; exact absurd hk3 (Nat.not_lt_zero _)
      | succ k3 ih3 =>
        intro k w23_3 hT23_3 hF23_3 hk h9 h14 hfb hd9 hk3
        refine TT_iload hK 5 rfl dX0_splitLine_23 ?_
        refine TT_iload_n hK rfl 3 rfl dX0_splitLine_25 ?_
        refine TT_iconst hK dX0_splitLine_26 ?_
        refine TT_idivn hK (irm (by omega) (by omega)) (by decide) (by first | omega | (simp [up, setR] <;> omega)) (by first | omega | (simp [up, setR] <;> omega)) dX0_splitLine_27 ?_
        refine TT_icmp_ge hK (tgt := 108) (irm (by omega) (by omega)) (irm (by omega) (by omega)) dX0_splitLine_28 (by decide) (fun hb28_4 => ?_) (fun hb28_4 => ?_)
        · refine TT_iconst hK dX0_splitLine_108 ?_
          refine TT_istore hK (lv' := [(5, vI 0), (0, vR 8), (1, vI a), (2, vI 1), (3, vI n), (4, vI ((n + 1) / 2))]) (by decide) rfl dX0_splitLine_109 ?_
          have L111_5 : ∀ (k5 : Nat) (k2 : Int) (w111_5 : Hp_), TY w111_5 → FR [9, 14, 15] h w111_5 → (0 ≤ k2 ∧ k2 ≤ (n + 1) / 2) → ((w111_5 9) = h 9) → (∀ j : Int, 0 ≤ j → j < n → (w111_5 14) j = h 9 (a + 1 * j)) → (∀ j : Int, 0 ≤ j → j < n → -4095 ≤ (w111_5 14) j ∧ (w111_5 14) j ≤ 4095) → (∀ j : Int, 0 ≤ j → j < n / 2 → (w111_5 15) ((n + 1) / 2 + j) = dE (w111_5 14) j n) → (∀ j : Int, 0 ≤ j → j < k2 → (w111_5 15) j = fE (w111_5 14) n j) → ((8 : Int) - k2).toNat < k5 → TT K ly 0 0 111 [(0, vR 8), (1, vI a), (2, vI 1), (3, vI n), (4, vI ((n + 1) / 2)), (5, vI k2)] [] w111_5 := by
            intro k5
            induction k5 with
            | zero => intro k2 w111_5 hT111_5 hF111_5 hk2 h9 h14 hfb hd9 hs8 hk5; exact absurd hk5 (Nat.not_lt_zero _)
            | succ k5 ih5 =>
              intro k2 w111_5 hT111_5 hF111_5 hk2 h9 h14 hfb hd9 hs8 hk5
              refine TT_iload hK 5 rfl dX0_splitLine_111 ?_
              refine TT_iload hK 4 rfl dX0_splitLine_113 ?_
              refine TT_icmp_ge hK (tgt := 151) (irm (by omega) (by omega)) (irm (by omega) (by omega)) dX0_splitLine_115 (by decide) (fun hb115_6 => ?_) (fun hb115_6 => ?_)
              · have hs9 := fE_all (n := n) (by omega) (fun j g1 g2 => hs8 j g1 (by omega)) hd9
                refine TT_aload_n hK rfl 0 rfl dX0_splitLine_151 ?_
                refine TT_iload_n hK rfl 1 rfl dX0_splitLine_152 ?_
                refine TT_iload_n hK rfl 2 rfl dX0_splitLine_153 ?_
                refine TT_iload_n hK rfl 3 rfl dX0_splitLine_154 ?_
                refine iv_X0_97 hK (s_writeLine_x1 a n w111_5 hT111_5 (by first | omega | (simp [up, setR] <;> omega)) (by first | omega | (simp [up, setR] <;> omega))) (by decide) rfl ⟨by decide, by decide⟩ (by decide) rfl rfl (Nat.le_of_ble_eq_true rfl) ⟨by decide, by decide⟩ dX0_splitLine_155 ?_
                intro r9 g155_7 hp9
                obtain ⟨⟨hT_7, hG_7⟩, hr9, p1_7⟩ := hp9
                rw [hr9]
                have hF_7 : FR [9, 14, 15] h g155_7 := FR_tr hF111_5 hG_7 (by decide)
                have p1_at155 := p1_7
                show TT K ly 0 0 158 [(0, vR 8), (1, vI a), (2, vI 1), (3, vI n), (4, vI ((n + 1) / 2)), (5, vI k2)] [] g155_7
                refine TT_vret hK hQ ?_ dX0_splitLine_158
                exact ⟨⟨hT_7, hF_7⟩, rfl, (by first | (intro t h1 h2; exact (wE1_1 (by omega) h1).symm) | (intro t h1 h2; rw [p1_at155 t h1 h2, h9]; exact wT1_E (by omega) ⟨h1, h2⟩ (fun j g1 g2 => (hs9 j g1 (by omega)).trans (fE_cg (by omega) ⟨g1, g2⟩ h14))))⟩
              · refine TT_aload_n hK rfl 0 rfl dX0_splitLine_118 ?_
                refine gf_X0_30 hK (by decide) rfl (q := 15) rfl rfl dX0_splitLine_119 ?_
                refine TT_iload hK 5 rfl dX0_splitLine_122 ?_
                refine TT_aload_n hK rfl 0 rfl dX0_splitLine_124 ?_
                have c1 := hfb (2 * k2) (by omega) (by omega)
                refine gf_X0_27 hK (by decide) rfl (q := 14) rfl rfl dX0_splitLine_125 ?_
                refine TT_iconst hK dX0_splitLine_128 ?_
                refine TT_iload hK 5 rfl dX0_splitLine_129 ?_
                refine TT_imul hK dX0_splitLine_131 ?_
                refine TT_iald hK (o := 14) (n := 8) (by decide) rfl (by first | omega | (simp [up, setR] <;> omega)) (by first | omega | (simp [up, setR] <;> omega)) (v := (w111_5 14) (2 * k2)) rfl dX0_splitLine_132 ?_
                have r8 := ty_14 (i := 2 * k2) (v := (w111_5 14) (2 * k2)) hT111_5 rfl (by omega) (by omega)
                refine TT_aload_n hK rfl 0 rfl dX0_splitLine_133 ?_
                refine gf_X0_30 hK (by decide) rfl (q := 15) rfl rfl dX0_splitLine_134 ?_
                refine TT_iload hK 5 rfl dX0_splitLine_137 ?_
                refine TT_iload_n hK rfl 3 rfl dX0_splitLine_139 ?_
                refine iv_X0_93 hK (s_fourth_x k2 n w111_5 hT111_5 (by first | omega | (simp [up, setR] <;> omega)) (by first | omega | (simp [up, setR] <;> omega)) (by intro j g1 g2; have k8 := hd9 (j - (n + 1) / 2) (by omega) (by omega); rw [show (n + 1) / 2 + (j - (n + 1) / 2) = j by omega] at k8; rw [k8]; have k7 := dE_b (k := j - (n + 1) / 2) (B := 4095) (show 2 ≤ n by omega) hfb; omega)) ⟨by decide, by decide⟩ (by decide) rfl rfl (Nat.le_of_ble_eq_true rfl) ⟨by decide, by decide⟩ dX0_splitLine_140 ?_
                intro r9 g140_9 hp9
                obtain ⟨⟨hT_9, hG_9⟩, z140_9, hr9, hz_9, p1_9⟩ := hp9
                rw [hr9]
                have hF_9 : FR [9, 14, 15] h g140_9 := FR_tr hF111_5 hG_9 (by decide)
                have p1_at140 := p1_9
                show TT K ly 0 0 143 [(0, vR 8), (1, vI a), (2, vI 1), (3, vI n), (4, vI ((n + 1) / 2)), (5, vI k2)] [vI z140_9, vI ((w111_5 14) (2 * k2)), vI k2, vR 15] g140_9
                refine TT_iadd hK dX0_splitLine_143 ?_
                refine TT_iast hK (o := 15) (n := 8) (by decide) rfl (by omega) (by omega) dX0_splitLine_144 ?_
                refine TT_hp (h' := setO g140_9 15 (fup (w111_5 15) k2 (((w111_5 14) (2 * k2)) + z140_9))) (up_can (hG_9 15 (by decide)) rfl rfl) ?_
                have hT_10 : TY (setO g140_9 15 (fup (w111_5 15) k2 (((w111_5 14) (2 * k2)) + z140_9))) := tu_15 hT_9 (show up g140_9 15 k2 (((w111_5 14) (2 * k2)) + z140_9) = (setO g140_9 15 (fup (w111_5 15) k2 (((w111_5 14) (2 * k2)) + z140_9))) from up_can (hG_9 15 (by decide)) rfl rfl) (by omega)
                have hF_10 : FR [9, 14, 15] h (setO g140_9 15 (fup (w111_5 15) k2 (((w111_5 14) (2 * k2)) + z140_9))) := FR_up (show up g140_9 15 k2 (((w111_5 14) (2 * k2)) + z140_9) = (setO g140_9 15 (fup (w111_5 15) k2 (((w111_5 14) (2 * k2)) + z140_9))) from up_can (hG_9 15 (by decide)) rfl rfl) hF_9 (by decide)
                refine TT_iinc hK (v := k2 + 1) (lv' := [(5, vI (k2 + 1)), (0, vR 8), (1, vI a), (2, vI 1), (3, vI n), (4, vI ((n + 1) / 2))]) 5 rfl rfl (by decide) rfl dX0_splitLine_145 ?_
                refine TT_goto hK (tgt := 111) dX0_splitLine_148 (by decide) ?_
                refine TT_sub [1, 2, 3, 4, 5, 0] rfl ?_
                have e11_9 : (setO g140_9 15 (fup (w111_5 15) k2 (((w111_5 14) (2 * k2)) + z140_9))) 9 = w111_5 9 := (sOf_ne _ _ (by decide)).trans (hG_9 9 (by decide))
                have e12_14 : (setO g140_9 15 (fup (w111_5 15) k2 (((w111_5 14) (2 * k2)) + z140_9))) 14 = w111_5 14 := (sOf_ne _ _ (by decide)).trans (hG_9 14 (by decide))
                have e13_14 : (setO g140_9 15 (fup (w111_5 15) k2 (((w111_5 14) (2 * k2)) + z140_9))) 14 = w111_5 14 := (sOf_ne _ _ (by decide)).trans (hG_9 14 (by decide))
                have e14_14 : (setO g140_9 15 (fup (w111_5 15) k2 (((w111_5 14) (2 * k2)) + z140_9))) 14 = w111_5 14 := (sOf_ne _ _ (by decide)).trans (hG_9 14 (by decide))
                have e15_15 : (setO g140_9 15 (fup (w111_5 15) k2 (((w111_5 14) (2 * k2)) + z140_9))) 15 = fup (w111_5 15) k2 (((w111_5 14) (2 * k2)) + z140_9) := sOf_eq _ _ _
                have e16_14 : (setO g140_9 15 (fup (w111_5 15) k2 (((w111_5 14) (2 * k2)) + z140_9))) 14 = w111_5 14 := (sOf_ne _ _ (by decide)).trans (hG_9 14 (by decide))
                have e17_15 : (setO g140_9 15 (fup (w111_5 15) k2 (((w111_5 14) (2 * k2)) + z140_9))) 15 = fup (w111_5 15) k2 (((w111_5 14) (2 * k2)) + z140_9) := sOf_eq _ _ _
                exact ih5 (k2 + 1) (setO g140_9 15 (fup (w111_5 15) k2 (((w111_5 14) (2 * k2)) + z140_9))) hT_10 hF_10 (by first | omega | (simp [up, setR] <;> omega)) (by rewrite [e11_9]; first | rfl | exact h9) (by rewrite [e12_14]; exact h14) (by rewrite [e13_14]; exact hfb) (by rewrite [e14_14, e15_15]; intro j g1 g2; rw [fup_ne _ _ (by omega)]; exact hd9 j g1 g2) (by rewrite [e16_14, e17_15]; intro j g1 g2; by_cases e : j = k2; (rw [e, fup_eq]; exact fE_4 (by omega) (by omega) hd9 p1_at140); (rw [fup_ne _ _ e]; exact hs8 j g1 (by omega))) (by first | omega | (simp [up, setR] <;> omega))
          refine TT_sub [1, 2, 3, 4, 5, 0] rfl ?_
          exact L111_5 ((((8 : Int) - 0).toNat) + 1) 0 w23_3 hT23_3 hF23_3 (by first | omega | (simp [up, setR] <;> omega)) (by exact h9) (by exact h14) (by exact hfb) (by intro j g1 g2; exact hd9 j g1 (by omega)) (by intro j g1 g2; exfalso; omega) (Nat.lt_succ_self _)
        · have J66_18 : ∀ (nx : Int), ((2 * k + 2 < n → nx = (w23_3 14) (2 * k + 2)) ∧ (n ≤ 2 * k + 2 → nx = (w23_3 14) (2 * k))) → (-4095 ≤ nx ∧ nx ≤ 4095) → TT K ly 0 0 66 [(0, vR 8), (1, vI a), (2, vI 1), (3, vI n), (4, vI ((n + 1) / 2)), (5, vI k), (6, vI nx)] [] w23_3 := by
            intro nx hnx hnb
            refine TT_aload_n hK rfl 0 rfl dX0_splitLine_66 ?_
            refine gf_X0_30 hK (by decide) rfl (q := 15) rfl rfl dX0_splitLine_67 ?_
            refine TT_iload hK 4 rfl dX0_splitLine_70 ?_
            refine TT_iload hK 5 rfl dX0_splitLine_72 ?_
            refine TT_iadd hK dX0_splitLine_74 ?_
            refine TT_aload_n hK rfl 0 rfl dX0_splitLine_75 ?_
            have c1 := hfb (2 * k + 1) (by omega) (by omega)
            have c2 := hfb (2 * k) (by omega) (by omega)
            refine gf_X0_27 hK (by decide) rfl (q := 14) rfl rfl dX0_splitLine_76 ?_
            refine TT_iconst hK dX0_splitLine_79 ?_
            refine TT_iload hK 5 rfl dX0_splitLine_80 ?_
            refine TT_imul hK dX0_splitLine_82 ?_
            refine TT_iconst hK dX0_splitLine_83 ?_
            refine TT_iadd hK dX0_splitLine_84 ?_
            refine TT_iald hK (o := 14) (n := 8) (by decide) rfl (by first | omega | (simp [up, setR] <;> omega)) (by first | omega | (simp [up, setR] <;> omega)) (v := (w23_3 14) ((2 * k) + 1)) rfl dX0_splitLine_85 ?_
            have r19 := ty_14 (i := (2 * k) + 1) (v := (w23_3 14) ((2 * k) + 1)) hT23_3 rfl (by omega) (by omega)
            refine TT_aload_n hK rfl 0 rfl dX0_splitLine_86 ?_
            refine gf_X0_27 hK (by decide) rfl (q := 14) rfl rfl dX0_splitLine_87 ?_
            refine TT_iconst hK dX0_splitLine_90 ?_
            refine TT_iload hK 5 rfl dX0_splitLine_91 ?_
            refine TT_imul hK dX0_splitLine_93 ?_
            refine TT_iald hK (o := 14) (n := 8) (by decide) rfl (by first | omega | (simp [up, setR] <;> omega)) (by first | omega | (simp [up, setR] <;> omega)) (v := (w23_3 14) (2 * k)) rfl dX0_splitLine_94 ?_
            have r20 := ty_14 (i := 2 * k) (v := (w23_3 14) (2 * k)) hT23_3 rfl (by omega) (by omega)
            refine TT_iload hK 6 rfl dX0_splitLine_95 ?_
            refine TT_iadd hK dX0_splitLine_97 ?_
            refine TT_iconst hK dX0_splitLine_98 ?_
            refine TT_ishr hK (irm (by omega) (by omega)) (by omega) (by omega) dX0_splitLine_99 ?_
            refine TT_cgI (b := (((w23_3 14) (2 * k)) + nx) / 2) rfl ?_
            refine TT_isub hK dX0_splitLine_100 ?_
            refine TT_iast hK (o := 15) (n := 8) (by decide) rfl (by omega) (by omega) dX0_splitLine_101 ?_
            refine TT_hp (h' := setO w23_3 15 (fup (w23_3 15) (((n + 1) / 2) + k) (((w23_3 14) ((2 * k) + 1)) - ((((w23_3 14) (2 * k)) + nx) / 2)))) (up_can rfl rfl rfl) ?_
            have hT_21 : TY (setO w23_3 15 (fup (w23_3 15) (((n + 1) / 2) + k) (((w23_3 14) ((2 * k) + 1)) - ((((w23_3 14) (2 * k)) + nx) / 2)))) := tu_15 hT23_3 (show up w23_3 15 (((n + 1) / 2) + k) (((w23_3 14) ((2 * k) + 1)) - ((((w23_3 14) (2 * k)) + nx) / 2)) = (setO w23_3 15 (fup (w23_3 15) (((n + 1) / 2) + k) (((w23_3 14) ((2 * k) + 1)) - ((((w23_3 14) (2 * k)) + nx) / 2)))) from up_can rfl rfl rfl) (by omega)
            have hF_21 : FR [9, 14, 15] h (setO w23_3 15 (fup (w23_3 15) (((n + 1) / 2) + k) (((w23_3 14) ((2 * k) + 1)) - ((((w23_3 14) (2 * k)) + nx) / 2)))) := FR_up (show up w23_3 15 (((n + 1) / 2) + k) (((w23_3 14) ((2 * k) + 1)) - ((((w23_3 14) (2 * k)) + nx) / 2)) = (setO w23_3 15 (fup (w23_3 15) (((n + 1) / 2) + k) (((w23_3 14) ((2 * k) + 1)) - ((((w23_3 14) (2 * k)) + nx) / 2)))) from up_can rfl rfl rfl) hF23_3 (by decide)
            refine TT_iinc hK (v := k + 1) (lv' := [(5, vI (k + 1)), (0, vR 8), (1, vI a), (2, vI 1), (3, vI n), (4, vI ((n + 1) / 2)), (6, vI nx)]) 5 rfl rfl (by decide) rfl dX0_splitLine_102 ?_
            refine TT_goto hK (tgt := 23) dX0_splitLine_105 (by decide) ?_
            refine TT_sub [1, 2, 3, 4, 5, 0] rfl ?_
            have e22_9 : (setO w23_3 15 (fup (w23_3 15) (((n + 1) / 2) + k) (((w23_3 14) ((2 * k) + 1)) - ((((w23_3 14) (2 * k)) + nx) / 2)))) 9 = w23_3 9 := sOf_ne _ _ (by decide)
            have e23_14 : (setO w23_3 15 (fup (w23_3 15) (((n + 1) / 2) + k) (((w23_3 14) ((2 * k) + 1)) - ((((w23_3 14) (2 * k)) + nx) / 2)))) 14 = w23_3 14 := sOf_ne _ _ (by decide)
            have e24_14 : (setO w23_3 15 (fup (w23_3 15) (((n + 1) / 2) + k) (((w23_3 14) ((2 * k) + 1)) - ((((w23_3 14) (2 * k)) + nx) / 2)))) 14 = w23_3 14 := sOf_ne _ _ (by decide)
            have e25_14 : (setO w23_3 15 (fup (w23_3 15) (((n + 1) / 2) + k) (((w23_3 14) ((2 * k) + 1)) - ((((w23_3 14) (2 * k)) + nx) / 2)))) 14 = w23_3 14 := sOf_ne _ _ (by decide)
            have e26_15 : (setO w23_3 15 (fup (w23_3 15) (((n + 1) / 2) + k) (((w23_3 14) ((2 * k) + 1)) - ((((w23_3 14) (2 * k)) + nx) / 2)))) 15 = fup (w23_3 15) (((n + 1) / 2) + k) (((w23_3 14) ((2 * k) + 1)) - ((((w23_3 14) (2 * k)) + nx) / 2)) := sOf_eq _ _ _
            exact ih3 (k + 1) (setO w23_3 15 (fup (w23_3 15) (((n + 1) / 2) + k) (((w23_3 14) ((2 * k) + 1)) - ((((w23_3 14) (2 * k)) + nx) / 2)))) hT_21 hF_21 (by first | omega | (simp [up, setR] <;> omega)) (by rewrite [e22_9]; first | rfl | exact h9) (by rewrite [e23_14]; exact h14) (by rewrite [e24_14]; exact hfb) (by rewrite [e25_14, e26_15]; intro j g1 g2; by_cases e : j = k; (rw [e, fup_eq]; exact dE_nx (by omega) (by omega) hnx); (rw [fup_ne _ _ (by omega)]; exact hd9 j g1 (by omega))) (by first | omega | (simp [up, setR] <;> omega))
          refine TT_iconst hK dX0_splitLine_31 ?_
          refine TT_iload hK 5 rfl dX0_splitLine_32 ?_
          refine TT_imul hK dX0_splitLine_34 ?_
          refine TT_iconst hK dX0_splitLine_35 ?_
          refine TT_iadd hK dX0_splitLine_36 ?_
          refine TT_iload_n hK rfl 3 rfl dX0_splitLine_37 ?_
          refine TT_icmp_ge hK (tgt := 55) (irm (by omega) (by omega)) (irm (by omega) (by omega)) dX0_splitLine_38 (by decide) (fun hb38_27 => ?_) (fun hb38_27 => ?_)
          · refine TT_aload_n hK rfl 0 rfl dX0_splitLine_55 ?_
            refine gf_X0_27 hK (by decide) rfl (q := 14) rfl rfl dX0_splitLine_56 ?_
            refine TT_iconst hK dX0_splitLine_59 ?_
            refine TT_iload hK 5 rfl dX0_splitLine_60 ?_
            refine TT_imul hK dX0_splitLine_62 ?_
            refine TT_iald hK (o := 14) (n := 8) (by decide) rfl (by first | omega | (simp [up, setR] <;> omega)) (by first | omega | (simp [up, setR] <;> omega)) (v := (w23_3 14) (2 * k)) rfl dX0_splitLine_63 ?_
            have r28 := ty_14 (i := 2 * k) (v := (w23_3 14) (2 * k)) hT23_3 rfl (by omega) (by omega)
            refine TT_istore hK (lv' := [(6, vI ((w23_3 14) (2 * k))), (0, vR 8), (1, vI a), (2, vI 1), (3, vI n), (4, vI ((n + 1) / 2)), (5, vI k)]) (by decide) rfl dX0_splitLine_64 ?_
            refine TT_sub [1, 2, 3, 4, 5, 6, 0] rfl ?_
            exact J66_18 ((w23_3 14) (2 * k)) (by first | exact ⟨fun _ => rfl, fun q => by exfalso; omega⟩ | exact ⟨fun q => by exfalso; omega, fun _ => rfl⟩) (by first | exact hfb (2 * k + 2) (by omega) (by omega) | exact hfb (2 * k) (by omega) (by omega))
          · refine TT_aload_n hK rfl 0 rfl dX0_splitLine_41 ?_
            refine gf_X0_27 hK (by decide) rfl (q := 14) rfl rfl dX0_splitLine_42 ?_
            refine TT_iconst hK dX0_splitLine_45 ?_
            refine TT_iload hK 5 rfl dX0_splitLine_46 ?_
            refine TT_imul hK dX0_splitLine_48 ?_
            refine TT_iconst hK dX0_splitLine_49 ?_
            refine TT_iadd hK dX0_splitLine_50 ?_
            refine TT_iald hK (o := 14) (n := 8) (by decide) rfl (by first | omega | (simp [up, setR] <;> omega)) (by first | omega | (simp [up, setR] <;> omega)) (v := (w23_3 14) ((2 * k) + 2)) rfl dX0_splitLine_51 ?_
            have r29 := ty_14 (i := (2 * k) + 2) (v := (w23_3 14) ((2 * k) + 2)) hT23_3 rfl (by omega) (by omega)
            refine TT_goto hK (tgt := 64) dX0_splitLine_52 (by decide) ?_
            refine TT_istore hK (lv' := [(6, vI ((w23_3 14) ((2 * k) + 2))), (0, vR 8), (1, vI a), (2, vI 1), (3, vI n), (4, vI ((n + 1) / 2)), (5, vI k)]) (by decide) rfl dX0_splitLine_64 ?_
            refine TT_sub [1, 2, 3, 4, 5, 6, 0] rfl ?_
            exact J66_18 ((w23_3 14) ((2 * k) + 2)) (by first | exact ⟨fun _ => rfl, fun q => by exfalso; omega⟩ | exact ⟨fun q => by exfalso; omega, fun _ => rfl⟩) (by first | exact hfb (2 * k + 2) (by omega) (by omega) | exact hfb (2 * k) (by omega) (by omega))
    refine TT_sub [2, 3, 4, 5, 1, 0] rfl ?_
    have e30_9 : g10_2 9 = h 9 := (hG_2 9 (by decide))
    have e31_15 : g10_2 15 = h 15 := (hG_2 15 (by decide))
    exact L23_3 ((((8 : Int) - 0).toNat) + 1) 0 g10_2 hT_2 hF_2 (by first | omega | (simp [up, setR] <;> omega)) (by rewrite [e30_9]; rfl) (by exact p1_at10) (by intro j g1 g2; rw [p1_at10 j g1 g2]; exact hs j g1 g2) (by rewrite [e31_15]; intro j g1 g2; exfalso; omega) (Nat.lt_succ_self _)
  · refine TT_vret hK hQ ?_ dX0_splitLine_5
    exact ⟨⟨hT, hF⟩, rfl, (by first | (intro t h1 h2; exact (wE1_1 (by omega) h1).symm) | (intro t h1 h2; rw [p1_at155 t h1 h2, h9]; exact wT1_E (by omega) ⟨h1, h2⟩ (fun j g1 g2 => (hs9 j g1 (by omega)).trans (fE_cg (by omega) ⟨g1, g2⟩ h14))))⟩

def CWC (N : Int → Int → Int) (w g kd q : Int) (B : Int → Int) (n : Int) : Prop := (q = 0 → n = 0) ∧ (q ≠ 0 → ∃ (M : Int → Int) (s : TS_) (E : ES_), MRN N w g M ∧ TS0 s ∧ ES0 E ∧ WRD (endE (tlF (psN M kd w g q (pas q).toNat s).2.2.2 E)) B n)
def CPQ (W H : Int) (f : Int → Int) (l n : Int) (pl cd cs cl : Int → Int) : Prop := ∀ c : Int, 0 ≤ c → c < n → CWC (NBE W H f l c) (BW W l c) (BH H l c) (kdB c) (pl c) (fun i => cd (cs c + i)) (cl c) ∧ PLN (NBE W H f l c) (BW W l c) (BH H l c) (pl c)
theorem CWC_c {N : Int → Int → Int} {w g kd q n : Int} {B B' : Int → Int} (h : CWC N w g kd q B n) (hB : ∀ i : Int, 0 ≤ i → i < n → B' i = B i) : CWC N w g kd q B' n := by
  refine ⟨h.1, fun hq => ?_⟩
  obtain ⟨M, s, E, h1, h2, h3, h4, h5⟩ := h.2 hq
  exact ⟨M, s, E, h1, h2, h3, h4, fun j j1 j2 => by rw [hB _ (by omega) (by omega)]; exact h5 j j1 j2⟩
theorem CWC_X {N N' : Int → Int → Int} {w g kd q n t1 t2 : Int} {B t3 t4 t5 : Int → Int} (h : CWX N w g kd q B n t1 t2 t3 t4 t5) (hN : ∀ x y : Int, 0 ≤ x → x < w → 0 ≤ y → y < g → N x y = N' x y) : CWC N' w g kd q B n := by
  refine ⟨fun hq => (h.1 hq).1, fun hq => ?_⟩
  obtain ⟨M, s, E, h1, h2, h3, h4, -⟩ := h.2 hq
  exact ⟨M, s, E, fun x y a1 a2 a3 a4 => by rw [h1 x y a1 a2 a3 a4, hN x y a1 a2 a3 a4], h2, h3, h4⟩
theorem PLN_c {N N' : Int → Int → Int} {w g z : Int} (h : PLN N w g z) (hN : ∀ x y : Int, 0 ≤ x → x < w → 0 ≤ y → y < g → N x y = N' x y) : PLN N' w g z := by
  refine ⟨h.1, fun x y h1 h2 h3 h4 => by rw [← hN x y h1 h2 h3 h4]; exact h.2.1 x y h1 h2 h3 h4, ?_⟩
  rcases h.2.2 with e | ⟨x, y, hr, hp⟩
  · exact Or.inl e
  · exact Or.inr ⟨x, y, hr, by rw [← hN x y hr.1 hr.2.1 hr.2.2.1 hr.2.2.2]; exact hp⟩
theorem CPQ_s {W H l b z L t1 t2 : Int} {f pl pl' cd cd' cs cs' cl cl' wd gd t3 t4 t5 : Int → Int} {N : Int → Int → Int} (h : CPQ W H f l b pl cd cs cl) (hF : ∀ c : Int, 0 ≤ c → c < b → 0 ≤ cs c ∧ cs c + cl c ≤ L) (e16 : pl' = fup pl b z) (e17 : cs' = fup cs b L) (hcl : ∀ j : Int, j ≠ b → cl' j = cl j) (hcd : ∀ j : Int, j < L → cd' j = cd j)
    (hX : CWX N (wd b) (gd b) (kdB b) (pl' b) (fun i => cd' (L + i)) (cl' b) t1 t2 t3 t4 t5) (hP : PLN N (wd b) (gd b) z) (hN : ∀ x y : Int, 0 ≤ x → x < BW W l b → 0 ≤ y → y < BH H l b → N x y = NBE W H f l b x y) (ew : wd b = BW W l b ∧ gd b = BH H l b) : CPQ W H f l (b + 1) pl' cd' cs' cl' := by
  intro c c1 c2
  by_cases e : c = b
  · subst e
    rw [ew.1, ew.2] at hX hP
    have e2 : pl' c = z := by rw [e16, fup_eq]
    have e3 : cs' c = L := by rw [e17, fup_eq]
    rw [e3]
    refine ⟨CWC_X hX hN, ?_⟩
    rw [e2]
    exact PLN_c hP hN
  · have k := h c c1 (by omega)
    have kF := hF c c1 (by omega)
    rw [e16, e17, fup_ne _ _ e, fup_ne _ _ e, hcl c e]
    exact ⟨CWC_c k.1 (fun i i1 i2 => hcd _ (by omega)), k.2⟩
theorem PK_nb {W H l b : Int} {f n9 n10 n11 wd gd : Int → Int} (hb : 0 ≤ b ∧ b < 3 * l + 1) (hN : ∀ b x2 y2 : Int, 0 ≤ b → b < 3 * l + 1 → 0 ≤ x2 → x2 < BW W l b → 0 ≤ y2 → y2 < BH H l b → n9 ((n11 b + y2) * 8 + n10 b + x2) = LE W H f l (8 * CY H l b + CX W l b + 8 * y2 + x2)) (ew : wd b = BW W l b ∧ gd b = BH H l b) (hc : 0 ≤ CX W l b ∧ 0 ≤ CY H l b ∧ CX W l b + BW W l b ≤ 8 ∧ CY H l b + BH H l b ≤ 8) (hB : ∀ i : Int, 0 ≤ i → i < 64 → -4095 ≤ LE W H f l i ∧ LE W H f l i ≤ 4095) : NBQ (fun x y => n9 ((n11 b + y) * 8 + n10 b + x)) (wd b) (gd b) := by
  intro x y h1 h2 h3 h4
  rw [ew.1] at h2
  rw [ew.2] at h4
  show -4095 ≤ n9 ((n11 b + y) * 8 + n10 b + x) ∧ n9 ((n11 b + y) * 8 + n10 b + x) ≤ 4095
  rw [hN b x y hb.1 hb.2 h1 h2 h3 h4]
  exact hB _ (by omega) (by omega)
def ABQ (b w cnt : Int) (wd gd pl ln : Int → Int) : Int := if 0 ≤ b ∧ b < cnt then (if w = 0 then wd b else if w = 1 then gd b else if w = 2 then pl b else if w = 3 then pas (pl b) else if w = 4 then ln b else -100000) else -100000
theorem ABQ_n {b w cnt : Int} {wd gd pl ln : Int → Int} (h : ¬(0 ≤ b ∧ b < cnt)) : ABQ b w cnt wd gd pl ln = -100000 := if_neg h
theorem ABQ_p {b w cnt z : Int} {wd gd pl ln : Int → Int} (h : 0 ≤ b ∧ b < cnt) (hz : (w = 0 ∧ z = wd b) ∨ (w = 1 ∧ z = gd b) ∨ (w = 2 ∧ z = pl b) ∨ (w = 3 ∧ z = pas (pl b)) ∨ (w = 4 ∧ z = ln b) ∨ ((w < 0 ∨ 4 < w) ∧ z = -100000)) : z = ABQ b w cnt wd gd pl ln := by
  unfold ABQ
  rw [if_pos h]
  rcases hz with ⟨h1, h2⟩ | ⟨h1, h2⟩ | ⟨h1, h2⟩ | ⟨h1, h2⟩ | ⟨h1, h2⟩ | ⟨h1, h2⟩
  · rw [if_pos h1]; exact h2
  · rw [if_neg (by omega), if_pos h1]; exact h2
  · rw [if_neg (by omega), if_neg (by omega), if_pos h1]; exact h2
  · rw [if_neg (by omega), if_neg (by omega), if_neg (by omega), if_pos h1]; exact h2
  · rw [if_neg (by omega), if_neg (by omega), if_neg (by omega), if_neg (by omega), if_pos h1]; exact h2
  · rw [if_neg (by omega), if_neg (by omega), if_neg (by omega), if_neg (by omega), if_neg (by omega)]; exact h2
set_option maxRecDepth 20000 in
theorem s_clear22_e (h : Hp_) (hT : TY h)  : Ctr yX1_clear cX1_clear 1 none (rmd 0) ly ly 0 0 [vR 22] h (fun r h' => (TY h' ∧ FR [22] h h') ∧ r = none ∧ ((h' 22 1) = 0)) := by
  refine Ctr_of (by decide) (Nat.le_of_ble_eq_true rfl) ⟨Nat.le_refl _, Nat.le_refl _⟩ (fun K hK hQ _ => ?_)
  show TT K ly 0 0 0 [(0, vR 22)] [] h
  have hF : FR [22] h h := FR_rf _ _
  refine TT_aload_n hK rfl 0 rfl dX1_clear_0 ?_
  refine TT_iconst hK dX1_clear_1 ?_
  refine pf_X1_15 hK (by decide) rfl dX1_clear_2 ?_
  refine TT_hp (h' := setO h 22 (fup (h 22) 1 0)) (up_can rfl rfl rfl) ?_
  have hT_1 : TY (setO h 22 (fup (h 22) 1 0)) := tu_22_1 hT (show up h 22 1 0 = (setO h 22 (fup (h 22) 1 0)) from up_can rfl rfl rfl) (by omega)
  have hF_1 : FR [22] h (setO h 22 (fup (h 22) 1 0)) := FR_up (show up h 22 1 0 = (setO h 22 (fup (h 22) 1 0)) from up_can rfl rfl rfl) hF (by decide)
  refine TT_aload_n hK rfl 0 rfl dX1_clear_5 ?_
  refine TT_iconst hK dX1_clear_6 ?_
  refine pf_X1_19 hK (by decide) rfl dX1_clear_7 ?_
  refine TT_hp (h' := setO h 22 (fup (fup (h 22) 1 0) 2 0)) (up_can (sOf_eq _ _ _) rfl (setO_same _ _ _ _)) ?_
  have hT_2 : TY (setO h 22 (fup (fup (h 22) 1 0) 2 0)) := tu_22_2 hT_1 (show up (setO h 22 (fup (h 22) 1 0)) 22 2 0 = (setO h 22 (fup (fup (h 22) 1 0) 2 0)) from up_can (sOf_eq _ _ _) rfl (setO_same _ _ _ _)) (by omega)
  have hF_2 : FR [22] h (setO h 22 (fup (fup (h 22) 1 0) 2 0)) := FR_up (show up (setO h 22 (fup (h 22) 1 0)) 22 2 0 = (setO h 22 (fup (fup (h 22) 1 0) 2 0)) from up_can (sOf_eq _ _ _) rfl (setO_same _ _ _ _)) hF_1 (by decide)
  refine TT_vret hK hQ ?_ dX1_clear_10
  have e3_22_1 : (setO h 22 (fup (fup (h 22) 1 0) 2 0)) 22 1 = 0 := rd_ (sOf_eq _ _ _) ((fup_ne _ _ (by decide)).trans (fup_eq _ _ _))
  exact ⟨⟨hT_2, hF_2⟩, rfl, (by rewrite [e3_22_1]; omega)⟩
set_option maxRecDepth 20000 in
theorem s_pack_y (l n : Int) (h : Hp_) (hT : TY h) (hl : 0 ≤ l ∧ l ≤ 3) (hn : 1 ≤ n ∧ n ≤ 3) (hbd : BDQ (h 10) (h 12) (h 11) (h 13)) (hsd : (1 ≤ (h 1 1) ∧ (h 1 1) ≤ 8) ∧ (1 ≤ (h 1 2) ∧ (h 1 2) ≤ 8)) : Ctr yX3_pack cX3_pack 7 none (rmd 6) ly ly 0 0 [vR 7, vR 1, vI l, vI n, vR 5] h (fun r h' => (TY h' ∧ FR [5, 6, 8, 9, 10, 11, 12, 13, 14, 15, 16, 17, 18, 19, 20, 21, 22, 23, 24, 25, 26, 27, 28, 29, 30, 31, 32, 33, 34, 36, 37, 38, 39, 41, 42, 43] h h') ∧ r = none ∧ (BDQ (h' 10) (h' 12) (h' 11) (h' 13)) ∧ ((h' 8 10) = 3 * l + 1) ∧ (∀ b : Int, 0 ≤ b → b < 3 * l + 1 → (h' 12) b = BW (h 1 1) l b ∧ (h' 13) b = BH (h 1 2) l b) ∧ (∀ b x2 y2 : Int, 0 ≤ b → b < 3 * l + 1 → 0 ≤ x2 → x2 < BW (h 1 1) l b → 0 ≤ y2 → y2 < BH (h 1 2) l b → (h' 9) (((h' 11) b + y2) * 8 + (h' 10) b + x2) = LE (h 1 1) (h 1 2) (fun i => (h 2) i - 128) l (8 * CY (h 1 2) l b + CX (h 1 1) l b + 8 * y2 + x2)) ∧ (CPQ (h 1 1) (h 1 2) (fun i => (h 2) i - 128) l (3 * l + 1) (h' 16) (h' 23) (h' 17) (h' 18)) ∧ (∀ c : Int, 0 ≤ c → c < (3 * l + 1) → 0 ≤ (h' 17) c ∧ (h' 17) c + (h' 18) c ≤ (h' 22 1))) := by
  refine Ctr_of (by decide) (Nat.le_of_ble_eq_true rfl) ⟨Nat.le_refl _, Nat.le_refl _⟩ (fun K hK hQ _ => ?_)
  show TT K ly 0 0 0 [(0, vR 7), (1, vR 1), (2, vI l), (3, vI n), (4, vR 5)] [] h
  have hF : FR [5, 6, 8, 9, 10, 11, 12, 13, 14, 15, 16, 17, 18, 19, 20, 21, 22, 23, 24, 25, 26, 27, 28, 29, 30, 31, 32, 33, 34, 36, 37, 38, 39, 41, 42, 43] h h := FR_rf _ _
  have rW := hsd.1
  have rH := hsd.2
  have hp2 : ∀ j : Int, 0 ≤ j → j < 64 → -128 ≤ h 2 j - 128 ∧ h 2 j - 128 ≤ 128 := fun j h0 h1 => by have := ty_2 (i := j) (v := h 2 j) hT rfl h0 h1; omega
  have bq := LE_LV (f := (fun i => h 2 i - 128)) rW rH (l := l) (by omega) hp2
  refine TT_aload_n hK rfl 0 rfl dX3_pack_0 ?_
  refine gf_X3_12 hK (by decide) rfl (q := 8) rfl rfl dX3_pack_1 ?_
  refine TT_aload_n hK rfl 1 rfl dX3_pack_4 ?_
  refine gf_X3_95 hK (by decide) rfl (v := (h 1) 1) rfl dX3_pack_5 ?_
  have r1 := ty_1_1 (v := (h 1) 1) hT rfl
  refine TT_aload_n hK rfl 1 rfl dX3_pack_8 ?_
  refine gf_X3_101 hK (by decide) rfl (v := (h 1) 2) rfl dX3_pack_9 ?_
  have r2 := ty_1_2 (v := (h 1) 2) hT rfl
  refine TT_iload_n hK rfl 2 rfl dX3_pack_12 ?_
  refine iv_X3_104 hK (s_lay_x ((h 1) 1) ((h 1) 2) l h hT (by first | omega | (simp [up, setR] <;> omega)) (by first | omega | (simp [up, setR] <;> omega)) (by first | omega | (simp [up, setR] <;> omega)) (by first | assumption | exact hbd)) (by decide) rfl ⟨by decide, by decide⟩ (by decide) rfl rfl (Nat.le_of_ble_eq_true rfl) ⟨by decide, by decide⟩ dX3_pack_13 ?_
  intro r9 g13_3 hp9
  obtain ⟨⟨hT_3, hG_3⟩, hr9, p1_3, k1_3, lay_3⟩ := hp9
  rw [hr9]
  have hF_3 : FR [5, 6, 8, 9, 10, 11, 12, 13, 14, 15, 16, 17, 18, 19, 20, 21, 22, 23, 24, 25, 26, 27, 28, 29, 30, 31, 32, 33, 34, 36, 37, 38, 39, 41, 42, 43] h g13_3 := FR_tr hF hG_3 (by decide)
  have k1_at13 := k1_3
  have lay_at13 := lay_3
  show TT K ly 0 0 16 [(0, vR 7), (1, vR 1), (2, vI l), (3, vI n), (4, vR 5)] [] g13_3
  refine TT_aload_n hK rfl 0 rfl dX3_pack_16 ?_
  refine gf_X3_12 hK (by decide) rfl (q := 8) rfl rfl dX3_pack_17 ?_
  refine TT_aload_n hK rfl 1 rfl dX3_pack_20 ?_
  have e4_1_1 : g13_3 1 1 = (h 1) 1 := rd_ (hG_3 1 (by decide)) rfl
  have e5_8_7 : g13_3 8 7 = (g13_3 8) 7 := rfl
  have e6_1_2 : g13_3 1 2 = (h 1) 2 := rd_ (hG_3 1 (by decide)) rfl
  have e7_8_8 : g13_3 8 8 = (g13_3 8) 8 := rfl
  refine iv_X3_108 hK (s_readPicture_x g13_3 hT_3 (by rewrite [e4_1_1, e5_8_7]; exact k1_at13.1) (by rewrite [e6_1_2, e7_8_8]; exact k1_at13.2.1)) (by decide) rfl ⟨by decide, by decide⟩ (by decide) rfl rfl (Nat.le_of_ble_eq_true rfl) ⟨by decide, by decide⟩ dX3_pack_21 ?_
  intro r9 g21_8 hp9
  obtain ⟨⟨hT_8, hG_8⟩, hr9, rx_8⟩ := hp9
  rw [hr9]
  have hF_8 : FR [5, 6, 8, 9, 10, 11, 12, 13, 14, 15, 16, 17, 18, 19, 20, 21, 22, 23, 24, 25, 26, 27, 28, 29, 30, 31, 32, 33, 34, 36, 37, 38, 39, 41, 42, 43] h g21_8 := FR_tr hF_3 hG_8 (by decide)
  rw [show g13_3 2 = h 2 from (hG_3 2 (by decide))] at rx_8
  rw [show g13_3 8 7 = (g13_3 8) 7 from rfl] at rx_8
  rw [show g13_3 8 8 = (g13_3 8) 8 from rfl] at rx_8
  have rx_at21 := rx_8
  show TT K ly 0 0 24 [(0, vR 7), (1, vR 1), (2, vI l), (3, vI n), (4, vR 5)] [] g21_8
  refine TT_aload_n hK rfl 0 rfl dX3_pack_24 ?_
  refine gf_X3_12 hK (by decide) rfl (q := 8) rfl rfl dX3_pack_25 ?_
  have e9_8_7 : g21_8 8 7 = (g13_3 8) 7 := rd_ (hG_8 8 (by decide)) rfl
  have e10_8_8 : g21_8 8 8 = (g13_3 8) 8 := rd_ (hG_8 8 (by decide)) rfl
  have e11_2 : g21_8 2 = h 2 := ((hG_8 2 (by decide))).trans (hG_3 2 (by decide))
  have e12_8_7 : g21_8 8 7 = (g13_3 8) 7 := rd_ (hG_8 8 (by decide)) rfl
  have e13_8_8 : g21_8 8 8 = (g13_3 8) 8 := rd_ (hG_8 8 (by decide)) rfl
  refine iv_X3_112 hK (s_goForth_x g21_8 hT_8 (by rewrite [e9_8_7, e10_8_8]; rw [k1_at13.1, k1_at13.2.1]; exact hsd) (by rewrite [e11_2, e12_8_7, e13_8_8]; intro i h0 h1 h2 h3; have k9 := rx_at21 (i % 8) (i / 8) (by omega) h2 (by omega) h3; rw [show i / 8 * 8 + i % 8 = i by omega] at k9; exact k9)) (by decide) rfl ⟨by decide, by decide⟩ (by decide) rfl rfl (Nat.le_of_ble_eq_true rfl) ⟨by decide, by decide⟩ dX3_pack_28 ?_
  intro r9 g28_14 hp9
  obtain ⟨⟨hT_14, hG_14⟩, hr9, p1_14⟩ := hp9
  rw [hr9]
  have hF_14 : FR [5, 6, 8, 9, 10, 11, 12, 13, 14, 15, 16, 17, 18, 19, 20, 21, 22, 23, 24, 25, 26, 27, 28, 29, 30, 31, 32, 33, 34, 36, 37, 38, 39, 41, 42, 43] h g28_14 := FR_tr hF_8 hG_14 (by decide)
  rw [show g21_8 2 = h 2 from ((hG_8 2 (by decide))).trans (hG_3 2 (by decide))] at p1_14
  rw [show g21_8 8 7 = (g13_3 8) 7 from rd_ (hG_8 8 (by decide)) rfl] at p1_14
  rw [show g21_8 8 8 = (g13_3 8) 8 from rd_ (hG_8 8 (by decide)) rfl] at p1_14
  rw [show g21_8 8 9 = (g13_3 8) 9 from rd_ (hG_8 8 (by decide)) rfl] at p1_14
  have p1_at28 := p1_14
  show TT K ly 0 0 31 [(0, vR 7), (1, vR 1), (2, vI l), (3, vI n), (4, vR 5)] [] g28_14
  refine TT_aload_n hK rfl 0 rfl dX3_pack_31 ?_
  refine gf_X3_40 hK (by decide) rfl (q := 22) rfl rfl dX3_pack_32 ?_
  refine iv_X3_115 hK (s_clear22_e g28_14 hT_14 ) (by decide) rfl ⟨by decide, by decide⟩ (by decide) rfl rfl (Nat.le_of_ble_eq_true rfl) ⟨by decide, by decide⟩ dX3_pack_35 ?_
  intro r9 g35_15 hp9
  obtain ⟨⟨hT_15, hG_15⟩, hr9, e_15⟩ := hp9
  rw [hr9]
  have hF_15 : FR [5, 6, 8, 9, 10, 11, 12, 13, 14, 15, 16, 17, 18, 19, 20, 21, 22, 23, 24, 25, 26, 27, 28, 29, 30, 31, 32, 33, 34, 36, 37, 38, 39, 41, 42, 43] h g35_15 := FR_tr hF_14 hG_15 (by decide)
  have e_at35 := e_15
  show TT K ly 0 0 38 [(0, vR 7), (1, vR 1), (2, vI l), (3, vI n), (4, vR 5)] [] g35_15
  refine TT_iconst hK dX3_pack_38 ?_
  refine TT_istore hK (lv' := [(5, vI 0), (0, vR 7), (1, vR 1), (2, vI l), (3, vI n), (4, vR 5)]) (by decide) rfl dX3_pack_39 ?_
  have L41_16 : ∀ (k16 : Nat) (b : Int) (w41_16 : Hp_), TY w41_16 → FR [5, 6, 8, 9, 10, 11, 12, 13, 14, 15, 16, 17, 18, 19, 20, 21, 22, 23, 24, 25, 26, 27, 28, 29, 30, 31, 32, 33, 34, 36, 37, 38, 39, 41, 42, 43] h w41_16 → (0 ≤ b ∧ b ≤ 10) → (BDQ (w41_16 10) (w41_16 12) (w41_16 11) (w41_16 13)) → ((w41_16 8 10) = 3 * l + 1) → (∀ b : Int, 0 ≤ b → b < 3 * l + 1 → (w41_16 12) b = BW (h 1 1) l b ∧ (w41_16 13) b = BH (h 1 2) l b) → (∀ b x2 y2 : Int, 0 ≤ b → b < 3 * l + 1 → 0 ≤ x2 → x2 < BW (h 1 1) l b → 0 ≤ y2 → y2 < BH (h 1 2) l b → (w41_16 9) (((w41_16 11) b + y2) * 8 + (w41_16 10) b + x2) = LE (h 1 1) (h 1 2) (fun i => h 2 i - 128) l (8 * CY (h 1 2) l b + CX (h 1 1) l b + 8 * y2 + x2)) → (b ≤ 3 * l + 1) → (0 ≤ (w41_16 22 1) ∧ (w41_16 22 1) ≤ 13 * IS (AR (h 1 1) (h 1 2) l) b + 2 * b) → (CPQ (h 1 1) (h 1 2) (fun i => h 2 i - 128) l b (w41_16 16) (w41_16 23) (w41_16 17) (w41_16 18)) → (∀ c : Int, 0 ≤ c → c < b → 0 ≤ (w41_16 17) c ∧ (w41_16 17) c + (w41_16 18) c ≤ (w41_16 22 1)) → ((10 : Int) - b).toNat < k16 → TT K ly 0 0 41 [(0, vR 7), (1, vR 1), (2, vI l), (3, vI n), (4, vR 5), (5, vI b)] [] w41_16 := by
    intro k16
    induction k16 with
    | zero => intro b w41_16 hT41_16 hF41_16 hb hbd2 kcn hbw hnm hb3 hL hcp hca hk16; exact absurd hk16 (Nat.not_lt_zero _)
    | succ k16 ih16 =>
      intro b w41_16 hT41_16 hF41_16 hb hbd2 kcn hbw hnm hb3 hL hcp hca hk16
      refine TT_iload hK 5 rfl dX3_pack_41 ?_
      refine TT_aload_n hK rfl 0 rfl dX3_pack_43 ?_
      refine gf_X3_12 hK (by decide) rfl (q := 8) rfl rfl dX3_pack_44 ?_
      refine gf_X3_118 hK (by decide) rfl (v := (w41_16 8) 10) rfl dX3_pack_47 ?_
      have r17 := ty_8_10 (v := (w41_16 8) 10) hT41_16 rfl
      refine TT_icmp_ge hK (tgt := 100) (irm (by omega) (by omega)) (irm (by omega) (by omega)) dX3_pack_50 (by decide) (fun hb50_18 => ?_) (fun hb50_18 => ?_)
      · refine TT_aload hK 4 rfl dX3_pack_100 ?_
        refine iv_X3_115 hK (s_X1_clear_5 w41_16 hT41_16 ) (by decide) rfl ⟨by decide, by decide⟩ (by decide) rfl rfl (Nat.le_of_ble_eq_true rfl) ⟨by decide, by decide⟩ dX3_pack_102 ?_
        intro r9 g102_19 hp9
        obtain ⟨⟨hT_19, hG_19⟩, hr9⟩ := hp9
        rw [hr9]
        have hF_19 : FR [5, 6, 8, 9, 10, 11, 12, 13, 14, 15, 16, 17, 18, 19, 20, 21, 22, 23, 24, 25, 26, 27, 28, 29, 30, 31, 32, 33, 34, 36, 37, 38, 39, 41, 42, 43] h g102_19 := FR_tr hF41_16 hG_19 (by decide)
        show TT K ly 0 0 105 [(0, vR 7), (1, vR 1), (2, vI l), (3, vI n), (4, vR 5), (5, vI b)] [] g102_19
        refine TT_aload hK 4 rfl dX3_pack_105 ?_
        refine TT_aload_n hK rfl 1 rfl dX3_pack_107 ?_
        refine gf_X3_95 hK (by decide) rfl (v := (h 1) 1) (rd_ (((hG_19 1 (by decide))).trans (hF41_16 1 (by decide))) rfl) dX3_pack_108 ?_
        have r20 := ty_1_1 (v := (h 1) 1) hT_19 (rd_ (((hG_19 1 (by decide))).trans (hF41_16 1 (by decide))) rfl)
        refine iv_X3_131 hK (s_X1_add_5 ((h 1) 1) g102_19 hT_19 (by first | omega | (simp [up, setR] <;> omega))) (by decide) rfl ⟨by decide, by decide⟩ (by decide) rfl rfl (Nat.le_of_ble_eq_true rfl) ⟨by decide, by decide⟩ dX3_pack_111 ?_
        intro r9 g111_21 hp9
        obtain ⟨⟨hT_21, hG_21⟩, hr9⟩ := hp9
        rw [hr9]
        have hF_21 : FR [5, 6, 8, 9, 10, 11, 12, 13, 14, 15, 16, 17, 18, 19, 20, 21, 22, 23, 24, 25, 26, 27, 28, 29, 30, 31, 32, 33, 34, 36, 37, 38, 39, 41, 42, 43] h g111_21 := FR_tr hF_19 hG_21 (by decide)
        show TT K ly 0 0 114 [(0, vR 7), (1, vR 1), (2, vI l), (3, vI n), (4, vR 5), (5, vI b)] [] g111_21
        refine TT_aload hK 4 rfl dX3_pack_114 ?_
        refine TT_aload_n hK rfl 1 rfl dX3_pack_116 ?_
        refine gf_X3_101 hK (by decide) rfl (v := (h 1) 2) (rd_ (((hG_21 1 (by decide))).trans (((hG_19 1 (by decide))).trans (hF41_16 1 (by decide)))) rfl) dX3_pack_117 ?_
        have r22 := ty_1_2 (v := (h 1) 2) hT_21 (rd_ (((hG_21 1 (by decide))).trans (((hG_19 1 (by decide))).trans (hF41_16 1 (by decide)))) rfl)
        refine iv_X3_131 hK (s_X1_add_5 ((h 1) 2) g111_21 hT_21 (by first | omega | (simp [up, setR] <;> omega))) (by decide) rfl ⟨by decide, by decide⟩ (by decide) rfl rfl (Nat.le_of_ble_eq_true rfl) ⟨by decide, by decide⟩ dX3_pack_120 ?_
        intro r9 g120_23 hp9
        obtain ⟨⟨hT_23, hG_23⟩, hr9⟩ := hp9
        rw [hr9]
        have hF_23 : FR [5, 6, 8, 9, 10, 11, 12, 13, 14, 15, 16, 17, 18, 19, 20, 21, 22, 23, 24, 25, 26, 27, 28, 29, 30, 31, 32, 33, 34, 36, 37, 38, 39, 41, 42, 43] h g120_23 := FR_tr hF_21 hG_23 (by decide)
        show TT K ly 0 0 123 [(0, vR 7), (1, vR 1), (2, vI l), (3, vI n), (4, vR 5), (5, vI b)] [] g120_23
        refine TT_aload hK 4 rfl dX3_pack_123 ?_
        refine TT_iload_n hK rfl 2 rfl dX3_pack_125 ?_
        refine iv_X3_131 hK (s_X1_add_5 l g120_23 hT_23 (by first | omega | (simp [up, setR] <;> omega))) (by decide) rfl ⟨by decide, by decide⟩ (by decide) rfl rfl (Nat.le_of_ble_eq_true rfl) ⟨by decide, by decide⟩ dX3_pack_126 ?_
        intro r9 g126_24 hp9
        obtain ⟨⟨hT_24, hG_24⟩, hr9⟩ := hp9
        rw [hr9]
        have hF_24 : FR [5, 6, 8, 9, 10, 11, 12, 13, 14, 15, 16, 17, 18, 19, 20, 21, 22, 23, 24, 25, 26, 27, 28, 29, 30, 31, 32, 33, 34, 36, 37, 38, 39, 41, 42, 43] h g126_24 := FR_tr hF_23 hG_24 (by decide)
        show TT K ly 0 0 129 [(0, vR 7), (1, vR 1), (2, vI l), (3, vI n), (4, vR 5), (5, vI b)] [] g126_24
        refine TT_aload hK 4 rfl dX3_pack_129 ?_
        refine TT_iload_n hK rfl 3 rfl dX3_pack_131 ?_
        refine iv_X3_131 hK (s_X1_add_5 n g126_24 hT_24 (by first | omega | (simp [up, setR] <;> omega))) (by decide) rfl ⟨by decide, by decide⟩ (by decide) rfl rfl (Nat.le_of_ble_eq_true rfl) ⟨by decide, by decide⟩ dX3_pack_132 ?_
        intro r9 g132_25 hp9
        obtain ⟨⟨hT_25, hG_25⟩, hr9⟩ := hp9
        rw [hr9]
        have hF_25 : FR [5, 6, 8, 9, 10, 11, 12, 13, 14, 15, 16, 17, 18, 19, 20, 21, 22, 23, 24, 25, 26, 27, 28, 29, 30, 31, 32, 33, 34, 36, 37, 38, 39, 41, 42, 43] h g132_25 := FR_tr hF_24 hG_25 (by decide)
        show TT K ly 0 0 135 [(0, vR 7), (1, vR 1), (2, vI l), (3, vI n), (4, vR 5), (5, vI b)] [] g132_25
        refine TT_iconst hK dX3_pack_135 ?_
        refine TT_istore hK (lv' := [(5, vI 1), (0, vR 7), (1, vR 1), (2, vI l), (3, vI n), (4, vR 5)]) (by decide) rfl dX3_pack_136 ?_
        have L138_26 : ∀ (k26 : Nat) (y1 : Int) (w138_26 : Hp_), TY w138_26 → FR [5, 6, 8, 9, 10, 11, 12, 13, 14, 15, 16, 17, 18, 19, 20, 21, 22, 23, 24, 25, 26, 27, 28, 29, 30, 31, 32, 33, 34, 36, 37, 38, 39, 41, 42, 43] h w138_26 → (1 ≤ y1 ∧ y1 ≤ 4) → (BDQ (w138_26 10) (w138_26 12) (w138_26 11) (w138_26 13)) → ((w138_26 8 10) = 3 * l + 1) → (∀ b : Int, 0 ≤ b → b < 3 * l + 1 → (w138_26 12) b = BW (h 1 1) l b ∧ (w138_26 13) b = BH (h 1 2) l b) → (∀ b x2 y2 : Int, 0 ≤ b → b < 3 * l + 1 → 0 ≤ x2 → x2 < BW (h 1 1) l b → 0 ≤ y2 → y2 < BH (h 1 2) l b → (w138_26 9) (((w138_26 11) b + y2) * 8 + (w138_26 10) b + x2) = LE (h 1 1) (h 1 2) (fun i => h 2 i - 128) l (8 * CY (h 1 2) l b + CX (h 1 1) l b + 8 * y2 + x2)) → (CPQ (h 1 1) (h 1 2) (fun i => h 2 i - 128) l (3 * l + 1) (w138_26 16) (w138_26 23) (w138_26 17) (w138_26 18)) → (∀ c : Int, 0 ≤ c → c < (3 * l + 1) → 0 ≤ (w138_26 17) c ∧ (w138_26 17) c + (w138_26 18) c ≤ (w138_26 22 1)) → ((4 : Int) - y1).toNat < k26 → TT K ly 0 0 138 [(0, vR 7), (1, vR 1), (2, vI l), (3, vI n), (4, vR 5), (5, vI y1)] [] w138_26 := by
          intro k26
          induction k26 with
          | zero => intro y1 w138_26 hT138_26 hF138_26 hy1 hbd3 kcn hbw hnm hcp hca hk26; exact absurd hk26 (Nat.not_lt_zero _)
          | succ k26 ih26 =>
            intro y1 w138_26 hT138_26 hF138_26 hy1 hbd3 kcn hbw hnm hcp hca hk26
            refine TT_iload hK 5 rfl dX3_pack_138 ?_
            refine TT_iload_n hK rfl 3 rfl dX3_pack_140 ?_
            refine TT_icmp_gt hK (tgt := 176) (irm (by omega) (by omega)) (irm (by omega) (by omega)) dX3_pack_141 (by decide) (fun hb141_27 => ?_) (fun hb141_27 => ?_)
            · refine TT_vret hK hQ ?_ dX3_pack_176
              have e28_8_10 : w138_26 8 10 = (w138_26 8) 10 := rfl
              have e29_22_1 : w138_26 22 1 = (w138_26 22) 1 := rfl
              exact ⟨⟨hT138_26, hF138_26⟩, rfl, (by assumption), (by rewrite [e28_8_10]; exact kcn), (by exact hbw), (by exact hnm), (by exact hcp), (by rewrite [e29_22_1]; exact hca)⟩
            · refine TT_iconst hK dX3_pack_144 ?_
              refine TT_istore hK (lv' := [(6, vI 0), (0, vR 7), (1, vR 1), (2, vI l), (3, vI n), (4, vR 5), (5, vI y1)]) (by decide) rfl dX3_pack_145 ?_
              have L147_30 : ∀ (k30 : Nat) (r1 : Int) (w147_30 : Hp_), TY w147_30 → FR [5, 6, 8, 9, 10, 11, 12, 13, 14, 15, 16, 17, 18, 19, 20, 21, 22, 23, 24, 25, 26, 27, 28, 29, 30, 31, 32, 33, 34, 36, 37, 38, 39, 41, 42, 43] h w147_30 → (0 ≤ r1 ∧ r1 ≤ 4) → (BDQ (w147_30 10) (w147_30 12) (w147_30 11) (w147_30 13)) → ((w147_30 8 10) = 3 * l + 1) → (∀ b : Int, 0 ≤ b → b < 3 * l + 1 → (w147_30 12) b = BW (h 1 1) l b ∧ (w147_30 13) b = BH (h 1 2) l b) → (∀ b x2 y2 : Int, 0 ≤ b → b < 3 * l + 1 → 0 ≤ x2 → x2 < BW (h 1 1) l b → 0 ≤ y2 → y2 < BH (h 1 2) l b → (w147_30 9) (((w147_30 11) b + y2) * 8 + (w147_30 10) b + x2) = LE (h 1 1) (h 1 2) (fun i => h 2 i - 128) l (8 * CY (h 1 2) l b + CX (h 1 1) l b + 8 * y2 + x2)) → (CPQ (h 1 1) (h 1 2) (fun i => h 2 i - 128) l (3 * l + 1) (w147_30 16) (w147_30 23) (w147_30 17) (w147_30 18)) → (∀ c : Int, 0 ≤ c → c < (3 * l + 1) → 0 ≤ (w147_30 17) c ∧ (w147_30 17) c + (w147_30 18) c ≤ (w147_30 22 1)) → ((4 : Int) - r1).toNat < k30 → TT K ly 0 0 147 [(0, vR 7), (1, vR 1), (2, vI l), (3, vI n), (4, vR 5), (5, vI y1), (6, vI r1)] [] w147_30 := by
                intro k30
                induction k30 with
                | zero => intro r1 w147_30 hT147_30 hF147_30 hr1 hbd4 kcn hbw hnm hcp hca hk30; exact absurd hk30 (Nat.not_lt_zero _)
                | succ k30 ih30 =>
                  intro r1 w147_30 hT147_30 hF147_30 hr1 hbd4 kcn hbw hnm hcp hca hk30
                  refine TT_iload hK 6 rfl dX3_pack_147 ?_
                  refine TT_iload_n hK rfl 2 rfl dX3_pack_149 ?_
                  refine TT_icmp_gt hK (tgt := 170) (irm (by omega) (by omega)) (irm (by omega) (by omega)) dX3_pack_150 (by decide) (fun hb150_31 => ?_) (fun hb150_31 => ?_)
                  · refine TT_iinc hK (v := y1 + 1) (lv' := [(5, vI (y1 + 1)), (0, vR 7), (1, vR 1), (2, vI l), (3, vI n), (4, vR 5), (6, vI r1)]) 5 rfl rfl (by decide) rfl dX3_pack_170 ?_
                    refine TT_goto hK (tgt := 138) dX3_pack_173 (by decide) ?_
                    refine TT_sub [1, 2, 3, 4, 5, 0] rfl ?_
                    have e32_8_10 : w147_30 8 10 = (w147_30 8) 10 := rfl
                    have e33_22_1 : w147_30 22 1 = (w147_30 22) 1 := rfl
                    exact ih26 (y1 + 1) w147_30 hT147_30 hF147_30 (by first | omega | (simp [up, setR] <;> omega)) (by assumption) (by rewrite [e32_8_10]; exact kcn) (by exact hbw) (by exact hnm) (by exact hcp) (by rewrite [e33_22_1]; exact hca) (by first | omega | (simp [up, setR] <;> omega))
                  · refine TT_aload_n hK rfl 0 rfl dX3_pack_153 ?_
                    refine TT_iload hK 6 rfl dX3_pack_154 ?_
                    refine TT_iload hK 5 rfl dX3_pack_156 ?_
                    refine TT_iload_n hK rfl 3 rfl dX3_pack_158 ?_
                    refine TT_aload hK 4 rfl dX3_pack_159 ?_
                    refine iv_X3_134 hK (s_X3_writePacket_7 r1 y1 n w147_30 hT147_30 (by first | omega | (simp [up, setR] <;> omega)) (by first | omega | (simp [up, setR] <;> omega)) (by first | omega | (simp [up, setR] <;> omega))) (by decide) rfl ⟨by decide, by decide⟩ (by decide) rfl rfl (Nat.le_of_ble_eq_true rfl) ⟨by decide, by decide⟩ dX3_pack_161 ?_
                    intro r9 g161_34 hp9
                    obtain ⟨⟨hT_34, hG_34⟩, hr9⟩ := hp9
                    rw [hr9]
                    have hF_34 : FR [5, 6, 8, 9, 10, 11, 12, 13, 14, 15, 16, 17, 18, 19, 20, 21, 22, 23, 24, 25, 26, 27, 28, 29, 30, 31, 32, 33, 34, 36, 37, 38, 39, 41, 42, 43] h g161_34 := FR_tr hF147_30 hG_34 (by decide)
                    show TT K ly 0 0 164 [(0, vR 7), (1, vR 1), (2, vI l), (3, vI n), (4, vR 5), (5, vI y1), (6, vI r1)] [] g161_34
                    refine TT_iinc hK (v := r1 + 1) (lv' := [(6, vI (r1 + 1)), (0, vR 7), (1, vR 1), (2, vI l), (3, vI n), (4, vR 5), (5, vI y1)]) 6 rfl rfl (by decide) rfl dX3_pack_164 ?_
                    refine TT_goto hK (tgt := 147) dX3_pack_167 (by decide) ?_
                    refine TT_sub [1, 2, 3, 4, 5, 6, 0] rfl ?_
                    have e35_10 : g161_34 10 = w147_30 10 := (hG_34 10 (by decide))
                    have e36_11 : g161_34 11 = w147_30 11 := (hG_34 11 (by decide))
                    have e37_12 : g161_34 12 = w147_30 12 := (hG_34 12 (by decide))
                    have e38_13 : g161_34 13 = w147_30 13 := (hG_34 13 (by decide))
                    have e39_8_10 : g161_34 8 10 = (w147_30 8) 10 := rd_ (hG_34 8 (by decide)) rfl
                    have e40_12 : g161_34 12 = w147_30 12 := (hG_34 12 (by decide))
                    have e41_13 : g161_34 13 = w147_30 13 := (hG_34 13 (by decide))
                    have e42_10 : g161_34 10 = w147_30 10 := (hG_34 10 (by decide))
                    have e43_11 : g161_34 11 = w147_30 11 := (hG_34 11 (by decide))
                    have e44_9 : g161_34 9 = w147_30 9 := (hG_34 9 (by decide))
                    have e45_16 : g161_34 16 = w147_30 16 := (hG_34 16 (by decide))
                    have e46_17 : g161_34 17 = w147_30 17 := (hG_34 17 (by decide))
                    have e47_18 : g161_34 18 = w147_30 18 := (hG_34 18 (by decide))
                    have e48_23 : g161_34 23 = w147_30 23 := (hG_34 23 (by decide))
                    have e49_17 : g161_34 17 = w147_30 17 := (hG_34 17 (by decide))
                    have e50_18 : g161_34 18 = w147_30 18 := (hG_34 18 (by decide))
                    have e51_22_1 : g161_34 22 1 = (w147_30 22) 1 := rd_ (hG_34 22 (by decide)) rfl
                    exact ih30 (r1 + 1) g161_34 hT_34 hF_34 (by first | omega | (simp [up, setR] <;> omega)) (by rewrite [e35_10, e36_11, e37_12, e38_13]; assumption) (by rewrite [e39_8_10]; exact kcn) (by rewrite [e40_12, e41_13]; exact hbw) (by rewrite [e42_10, e43_11, e44_9]; exact hnm) (by rewrite [e45_16, e46_17, e47_18, e48_23]; exact hcp) (by rewrite [e49_17, e50_18, e51_22_1]; exact hca) (by first | omega | (simp [up, setR] <;> omega))
              refine TT_sub [1, 2, 3, 4, 5, 6, 0] rfl ?_
              have e52_8_10 : w138_26 8 10 = (w138_26 8) 10 := rfl
              have e53_22_1 : w138_26 22 1 = (w138_26 22) 1 := rfl
              exact L147_30 ((((4 : Int) - 0).toNat) + 1) 0 w138_26 hT138_26 hF138_26 (by first | omega | (simp [up, setR] <;> omega)) (by assumption) (by rewrite [e52_8_10]; exact kcn) (by exact hbw) (by exact hnm) (by first | exact hcp | (rw [show 3 * l + 1 = b by omega]; exact hcp)) (by rewrite [e53_22_1]; first | exact hca | (rw [show 3 * l + 1 = b by omega]; exact hca)) (Nat.lt_succ_self _)
        refine TT_sub [1, 2, 3, 4, 5, 0] rfl ?_
        have e54_10 : g132_25 10 = w41_16 10 := ((hG_25 10 (by decide))).trans (((hG_24 10 (by decide))).trans (((hG_23 10 (by decide))).trans (((hG_21 10 (by decide))).trans (hG_19 10 (by decide)))))
        have e55_11 : g132_25 11 = w41_16 11 := ((hG_25 11 (by decide))).trans (((hG_24 11 (by decide))).trans (((hG_23 11 (by decide))).trans (((hG_21 11 (by decide))).trans (hG_19 11 (by decide)))))
        have e56_12 : g132_25 12 = w41_16 12 := ((hG_25 12 (by decide))).trans (((hG_24 12 (by decide))).trans (((hG_23 12 (by decide))).trans (((hG_21 12 (by decide))).trans (hG_19 12 (by decide)))))
        have e57_13 : g132_25 13 = w41_16 13 := ((hG_25 13 (by decide))).trans (((hG_24 13 (by decide))).trans (((hG_23 13 (by decide))).trans (((hG_21 13 (by decide))).trans (hG_19 13 (by decide)))))
        have e58_8_10 : g132_25 8 10 = (w41_16 8) 10 := rd_ (((hG_25 8 (by decide))).trans (((hG_24 8 (by decide))).trans (((hG_23 8 (by decide))).trans (((hG_21 8 (by decide))).trans (hG_19 8 (by decide)))))) rfl
        have e59_12 : g132_25 12 = w41_16 12 := ((hG_25 12 (by decide))).trans (((hG_24 12 (by decide))).trans (((hG_23 12 (by decide))).trans (((hG_21 12 (by decide))).trans (hG_19 12 (by decide)))))
        have e60_13 : g132_25 13 = w41_16 13 := ((hG_25 13 (by decide))).trans (((hG_24 13 (by decide))).trans (((hG_23 13 (by decide))).trans (((hG_21 13 (by decide))).trans (hG_19 13 (by decide)))))
        have e61_10 : g132_25 10 = w41_16 10 := ((hG_25 10 (by decide))).trans (((hG_24 10 (by decide))).trans (((hG_23 10 (by decide))).trans (((hG_21 10 (by decide))).trans (hG_19 10 (by decide)))))
        have e62_11 : g132_25 11 = w41_16 11 := ((hG_25 11 (by decide))).trans (((hG_24 11 (by decide))).trans (((hG_23 11 (by decide))).trans (((hG_21 11 (by decide))).trans (hG_19 11 (by decide)))))
        have e63_9 : g132_25 9 = w41_16 9 := ((hG_25 9 (by decide))).trans (((hG_24 9 (by decide))).trans (((hG_23 9 (by decide))).trans (((hG_21 9 (by decide))).trans (hG_19 9 (by decide)))))
        have e64_16 : g132_25 16 = w41_16 16 := ((hG_25 16 (by decide))).trans (((hG_24 16 (by decide))).trans (((hG_23 16 (by decide))).trans (((hG_21 16 (by decide))).trans (hG_19 16 (by decide)))))
        have e65_17 : g132_25 17 = w41_16 17 := ((hG_25 17 (by decide))).trans (((hG_24 17 (by decide))).trans (((hG_23 17 (by decide))).trans (((hG_21 17 (by decide))).trans (hG_19 17 (by decide)))))
        have e66_18 : g132_25 18 = w41_16 18 := ((hG_25 18 (by decide))).trans (((hG_24 18 (by decide))).trans (((hG_23 18 (by decide))).trans (((hG_21 18 (by decide))).trans (hG_19 18 (by decide)))))
        have e67_23 : g132_25 23 = w41_16 23 := ((hG_25 23 (by decide))).trans (((hG_24 23 (by decide))).trans (((hG_23 23 (by decide))).trans (((hG_21 23 (by decide))).trans (hG_19 23 (by decide)))))
        have e68_17 : g132_25 17 = w41_16 17 := ((hG_25 17 (by decide))).trans (((hG_24 17 (by decide))).trans (((hG_23 17 (by decide))).trans (((hG_21 17 (by decide))).trans (hG_19 17 (by decide)))))
        have e69_18 : g132_25 18 = w41_16 18 := ((hG_25 18 (by decide))).trans (((hG_24 18 (by decide))).trans (((hG_23 18 (by decide))).trans (((hG_21 18 (by decide))).trans (hG_19 18 (by decide)))))
        have e70_22_1 : g132_25 22 1 = (w41_16 22) 1 := rd_ (((hG_25 22 (by decide))).trans (((hG_24 22 (by decide))).trans (((hG_23 22 (by decide))).trans (((hG_21 22 (by decide))).trans (hG_19 22 (by decide)))))) rfl
        exact L138_26 ((((4 : Int) - 1).toNat) + 1) 1 g132_25 hT_25 hF_25 (by first | omega | (simp [up, setR] <;> omega)) (by rewrite [e54_10, e55_11, e56_12, e57_13]; assumption) (by rewrite [e58_8_10]; exact kcn) (by rewrite [e59_12, e60_13]; exact hbw) (by rewrite [e61_10, e62_11, e63_9]; exact hnm) (by rewrite [e64_16, e65_17, e66_18, e67_23]; first | exact hcp | (rw [show 3 * l + 1 = b by omega]; exact hcp)) (by rewrite [e68_17, e69_18, e70_22_1]; first | exact hca | (rw [show 3 * l + 1 = b by omega]; exact hca)) (Nat.lt_succ_self _)
      · have hwr := BWr rW hl b ⟨by omega, by omega⟩
        have hhr := BHr rH hl b ⟨by omega, by omega⟩
        have hci := CXr rW rH hl b ⟨by omega, by omega⟩
        have ia : IS (AR (h 1 1) (h 1 2) l) (b + 1) = IS (AR (h 1 1) (h 1 2) l) b + BW (h 1 1) l b * BH (h 1 2) l b := IS_s (by omega)
        have iaR := ARb (w := h 1 1) (e := h 1 2) (l := l) (c := b + 1) rW rH hl (by omega)
        have hnb0 : NBQ (fun x y : Int => (w41_16 9) (((w41_16 11) b + y) * 8 + (w41_16 10) b + x)) ((w41_16 12) b) ((w41_16 13) b) := PK_nb ⟨by omega, by omega⟩ hnm (hbw b (by omega) (by omega)) hci (fun i i0 i1 => (bq i i0 i1).1)
        refine TT_aload_n hK rfl 0 rfl dX3_pack_53 ?_
        refine gf_X3_18 hK (by decide) rfl (q := 16) rfl rfl dX3_pack_54 ?_
        refine TT_iload hK 5 rfl dX3_pack_57 ?_
        refine TT_aload_n hK rfl 0 rfl dX3_pack_59 ?_
        refine TT_iload hK 5 rfl dX3_pack_60 ?_
        have e71_8_10 : w41_16 8 10 = (w41_16 8) 10 := rfl
        refine iv_X3_121 hK (s_planesOf_e b w41_16 hT41_16 (by first | omega | (simp [up, setR] <;> omega)) (by first | assumption | exact hbd) (by rewrite [e71_8_10]; omega) (by exact hnb0)) (by decide) rfl ⟨by decide, by decide⟩ (by decide) rfl rfl (Nat.le_of_ble_eq_true rfl) ⟨by decide, by decide⟩ dX3_pack_62 ?_
        intro r9 g62_72 hp9
        obtain ⟨⟨hT_72, hG_72⟩, z62_72, hr9, hz_72, pl_72⟩ := hp9
        rw [hr9]
        have hF_72 : FR [5, 6, 8, 9, 10, 11, 12, 13, 14, 15, 16, 17, 18, 19, 20, 21, 22, 23, 24, 25, 26, 27, 28, 29, 30, 31, 32, 33, 34, 36, 37, 38, 39, 41, 42, 43] h g62_72 := FR_tr hF41_16 hG_72 (by decide)
        have pl_at62 := pl_72
        show TT K ly 0 0 65 [(0, vR 7), (1, vR 1), (2, vI l), (3, vI n), (4, vR 5), (5, vI b)] [vI z62_72, vI b, vR 16] g62_72
        refine TT_iast hK (o := 16) (n := 10) (by decide) rfl (by omega) (by omega) dX3_pack_65 ?_
        refine TT_hp (h' := setO g62_72 16 (fup (w41_16 16) b z62_72)) (up_can (hG_72 16 (by decide)) rfl rfl) ?_
        have hT_73 : TY (setO g62_72 16 (fup (w41_16 16) b z62_72)) := tu_16 hT_72 (show up g62_72 16 b z62_72 = (setO g62_72 16 (fup (w41_16 16) b z62_72)) from up_can (hG_72 16 (by decide)) rfl rfl) (by omega)
        have hF_73 : FR [5, 6, 8, 9, 10, 11, 12, 13, 14, 15, 16, 17, 18, 19, 20, 21, 22, 23, 24, 25, 26, 27, 28, 29, 30, 31, 32, 33, 34, 36, 37, 38, 39, 41, 42, 43] h (setO g62_72 16 (fup (w41_16 16) b z62_72)) := FR_up (show up g62_72 16 b z62_72 = (setO g62_72 16 (fup (w41_16 16) b z62_72)) from up_can (hG_72 16 (by decide)) rfl rfl) hF_72 (by decide)
        refine TT_aload_n hK rfl 0 rfl dX3_pack_66 ?_
        refine gf_X3_31 hK (by decide) rfl (q := 20) rfl rfl dX3_pack_67 ?_
        refine TT_iload hK 5 rfl dX3_pack_70 ?_
        refine TT_iconst hK dX3_pack_72 ?_
        refine TT_iast hK (o := 20) (n := 10) (by decide) rfl (by omega) (by omega) dX3_pack_73 ?_
        refine TT_hp (h' := setO (setO g62_72 16 (fup (w41_16 16) b z62_72)) 20 (fup (w41_16 20) b 0)) (up_can ((sOf_ne _ _ (by decide)).trans (hG_72 20 (by decide))) rfl rfl) ?_
        have hT_74 : TY (setO (setO g62_72 16 (fup (w41_16 16) b z62_72)) 20 (fup (w41_16 20) b 0)) := tu_20 hT_73 (show up (setO g62_72 16 (fup (w41_16 16) b z62_72)) 20 b 0 = (setO (setO g62_72 16 (fup (w41_16 16) b z62_72)) 20 (fup (w41_16 20) b 0)) from up_can ((sOf_ne _ _ (by decide)).trans (hG_72 20 (by decide))) rfl rfl) (by omega)
        have hF_74 : FR [5, 6, 8, 9, 10, 11, 12, 13, 14, 15, 16, 17, 18, 19, 20, 21, 22, 23, 24, 25, 26, 27, 28, 29, 30, 31, 32, 33, 34, 36, 37, 38, 39, 41, 42, 43] h (setO (setO g62_72 16 (fup (w41_16 16) b z62_72)) 20 (fup (w41_16 20) b 0)) := FR_up (show up (setO g62_72 16 (fup (w41_16 16) b z62_72)) 20 b 0 = (setO (setO g62_72 16 (fup (w41_16 16) b z62_72)) 20 (fup (w41_16 20) b 0)) from up_can ((sOf_ne _ _ (by decide)).trans (hG_72 20 (by decide))) rfl rfl) hF_73 (by decide)
        refine TT_aload_n hK rfl 0 rfl dX3_pack_74 ?_
        refine gf_X3_34 hK (by decide) rfl (q := 21) rfl rfl dX3_pack_75 ?_
        refine TT_iload hK 5 rfl dX3_pack_78 ?_
        refine TT_iconst hK dX3_pack_80 ?_
        refine TT_iast hK (o := 21) (n := 10) (by decide) rfl (by omega) (by omega) dX3_pack_81 ?_
        refine TT_hp (h' := setO (setO (setO g62_72 16 (fup (w41_16 16) b z62_72)) 20 (fup (w41_16 20) b 0)) 21 (fup (w41_16 21) b 3)) (up_can ((sOf_ne _ _ (by decide)).trans ((sOf_ne _ _ (by decide)).trans (hG_72 21 (by decide)))) rfl rfl) ?_
        have hT_75 : TY (setO (setO (setO g62_72 16 (fup (w41_16 16) b z62_72)) 20 (fup (w41_16 20) b 0)) 21 (fup (w41_16 21) b 3)) := tu_21 hT_74 (show up (setO (setO g62_72 16 (fup (w41_16 16) b z62_72)) 20 (fup (w41_16 20) b 0)) 21 b 3 = (setO (setO (setO g62_72 16 (fup (w41_16 16) b z62_72)) 20 (fup (w41_16 20) b 0)) 21 (fup (w41_16 21) b 3)) from up_can ((sOf_ne _ _ (by decide)).trans ((sOf_ne _ _ (by decide)).trans (hG_72 21 (by decide)))) rfl rfl) (by omega)
        have hF_75 : FR [5, 6, 8, 9, 10, 11, 12, 13, 14, 15, 16, 17, 18, 19, 20, 21, 22, 23, 24, 25, 26, 27, 28, 29, 30, 31, 32, 33, 34, 36, 37, 38, 39, 41, 42, 43] h (setO (setO (setO g62_72 16 (fup (w41_16 16) b z62_72)) 20 (fup (w41_16 20) b 0)) 21 (fup (w41_16 21) b 3)) := FR_up (show up (setO (setO g62_72 16 (fup (w41_16 16) b z62_72)) 20 (fup (w41_16 20) b 0)) 21 b 3 = (setO (setO (setO g62_72 16 (fup (w41_16 16) b z62_72)) 20 (fup (w41_16 20) b 0)) 21 (fup (w41_16 21) b 3)) from up_can ((sOf_ne _ _ (by decide)).trans ((sOf_ne _ _ (by decide)).trans (hG_72 21 (by decide)))) rfl rfl) hF_74 (by decide)
        refine TT_aload_n hK rfl 0 rfl dX3_pack_82 ?_
        refine TT_iload hK 5 rfl dX3_pack_83 ?_
        have e76_10 : (setO (setO (setO g62_72 16 (fup (w41_16 16) b z62_72)) 20 (fup (w41_16 20) b 0)) 21 (fup (w41_16 21) b 3)) 10 = w41_16 10 := (sOf_ne _ _ (by decide)).trans ((sOf_ne _ _ (by decide)).trans ((sOf_ne _ _ (by decide)).trans (hG_72 10 (by decide))))
        have e77_11 : (setO (setO (setO g62_72 16 (fup (w41_16 16) b z62_72)) 20 (fup (w41_16 20) b 0)) 21 (fup (w41_16 21) b 3)) 11 = w41_16 11 := (sOf_ne _ _ (by decide)).trans ((sOf_ne _ _ (by decide)).trans ((sOf_ne _ _ (by decide)).trans (hG_72 11 (by decide))))
        have e78_12 : (setO (setO (setO g62_72 16 (fup (w41_16 16) b z62_72)) 20 (fup (w41_16 20) b 0)) 21 (fup (w41_16 21) b 3)) 12 = w41_16 12 := (sOf_ne _ _ (by decide)).trans ((sOf_ne _ _ (by decide)).trans ((sOf_ne _ _ (by decide)).trans (hG_72 12 (by decide))))
        have e79_13 : (setO (setO (setO g62_72 16 (fup (w41_16 16) b z62_72)) 20 (fup (w41_16 20) b 0)) 21 (fup (w41_16 21) b 3)) 13 = w41_16 13 := (sOf_ne _ _ (by decide)).trans ((sOf_ne _ _ (by decide)).trans ((sOf_ne _ _ (by decide)).trans (hG_72 13 (by decide))))
        have e80_8_10 : (setO (setO (setO g62_72 16 (fup (w41_16 16) b z62_72)) 20 (fup (w41_16 20) b 0)) 21 (fup (w41_16 21) b 3)) 8 10 = (w41_16 8) 10 := rd_ ((sOf_ne _ _ (by decide)).trans ((sOf_ne _ _ (by decide)).trans ((sOf_ne _ _ (by decide)).trans (hG_72 8 (by decide))))) rfl
        have e81_10 : (setO (setO (setO g62_72 16 (fup (w41_16 16) b z62_72)) 20 (fup (w41_16 20) b 0)) 21 (fup (w41_16 21) b 3)) 10 = w41_16 10 := (sOf_ne _ _ (by decide)).trans ((sOf_ne _ _ (by decide)).trans ((sOf_ne _ _ (by decide)).trans (hG_72 10 (by decide))))
        have e82_11 : (setO (setO (setO g62_72 16 (fup (w41_16 16) b z62_72)) 20 (fup (w41_16 20) b 0)) 21 (fup (w41_16 21) b 3)) 11 = w41_16 11 := (sOf_ne _ _ (by decide)).trans ((sOf_ne _ _ (by decide)).trans ((sOf_ne _ _ (by decide)).trans (hG_72 11 (by decide))))
        have e83_12 : (setO (setO (setO g62_72 16 (fup (w41_16 16) b z62_72)) 20 (fup (w41_16 20) b 0)) 21 (fup (w41_16 21) b 3)) 12 = w41_16 12 := (sOf_ne _ _ (by decide)).trans ((sOf_ne _ _ (by decide)).trans ((sOf_ne _ _ (by decide)).trans (hG_72 12 (by decide))))
        have e84_13 : (setO (setO (setO g62_72 16 (fup (w41_16 16) b z62_72)) 20 (fup (w41_16 20) b 0)) 21 (fup (w41_16 21) b 3)) 13 = w41_16 13 := (sOf_ne _ _ (by decide)).trans ((sOf_ne _ _ (by decide)).trans ((sOf_ne _ _ (by decide)).trans (hG_72 13 (by decide))))
        have e85_9 : (setO (setO (setO g62_72 16 (fup (w41_16 16) b z62_72)) 20 (fup (w41_16 20) b 0)) 21 (fup (w41_16 21) b 3)) 9 = w41_16 9 := (sOf_ne _ _ (by decide)).trans ((sOf_ne _ _ (by decide)).trans ((sOf_ne _ _ (by decide)).trans (hG_72 9 (by decide))))
        have e86_12 : (setO (setO (setO g62_72 16 (fup (w41_16 16) b z62_72)) 20 (fup (w41_16 20) b 0)) 21 (fup (w41_16 21) b 3)) 12 = w41_16 12 := (sOf_ne _ _ (by decide)).trans ((sOf_ne _ _ (by decide)).trans ((sOf_ne _ _ (by decide)).trans (hG_72 12 (by decide))))
        have e87_13 : (setO (setO (setO g62_72 16 (fup (w41_16 16) b z62_72)) 20 (fup (w41_16 20) b 0)) 21 (fup (w41_16 21) b 3)) 13 = w41_16 13 := (sOf_ne _ _ (by decide)).trans ((sOf_ne _ _ (by decide)).trans ((sOf_ne _ _ (by decide)).trans (hG_72 13 (by decide))))
        have e88_22_1 : (setO (setO (setO g62_72 16 (fup (w41_16 16) b z62_72)) 20 (fup (w41_16 20) b 0)) 21 (fup (w41_16 21) b 3)) 22 1 = (w41_16 22) 1 := rd_ ((sOf_ne _ _ (by decide)).trans ((sOf_ne _ _ (by decide)).trans ((sOf_ne _ _ (by decide)).trans (hG_72 22 (by decide))))) rfl
        refine iv_X3_124 hK (s_ctellBand_e b (setO (setO (setO g62_72 16 (fup (w41_16 16) b z62_72)) 20 (fup (w41_16 20) b 0)) 21 (fup (w41_16 21) b 3)) hT_75 (by first | omega | (simp [up, setR] <;> omega)) (by rewrite [e76_10, e77_11, e78_12, e79_13]; first | assumption | exact hbd) (by rewrite [e80_8_10]; omega) (by rewrite [e81_10, e82_11, e83_12, e84_13, e85_9]; exact hnb0) (by rewrite [e86_12, e87_13, e88_22_1]; rw [(hbw b (by omega) (by omega)).1, (hbw b (by omega) (by omega)).2]; omega)) (by decide) rfl ⟨by decide, by decide⟩ (by decide) rfl rfl (Nat.le_of_ble_eq_true rfl) ⟨by decide, by decide⟩ dX3_pack_85 ?_
        intro r9 g85_89 hp9
        obtain ⟨⟨hT_89, hG_89⟩, hr9, cw_89, cn_89, ck_89, cs_89, cl_89⟩ := hp9
        rw [hr9]
        have hF_89 : FR [5, 6, 8, 9, 10, 11, 12, 13, 14, 15, 16, 17, 18, 19, 20, 21, 22, 23, 24, 25, 26, 27, 28, 29, 30, 31, 32, 33, 34, 36, 37, 38, 39, 41, 42, 43] h g85_89 := FR_tr hF_75 hG_89 (by decide)
        rw [show (setO (setO (setO g62_72 16 (fup (w41_16 16) b z62_72)) 20 (fup (w41_16 20) b 0)) 21 (fup (w41_16 21) b 3)) 10 = w41_16 10 from (sOf_ne _ _ (by decide)).trans ((sOf_ne _ _ (by decide)).trans ((sOf_ne _ _ (by decide)).trans (hG_72 10 (by decide))))] at cw_89
        rw [show (setO (setO (setO g62_72 16 (fup (w41_16 16) b z62_72)) 20 (fup (w41_16 20) b 0)) 21 (fup (w41_16 21) b 3)) 11 = w41_16 11 from (sOf_ne _ _ (by decide)).trans ((sOf_ne _ _ (by decide)).trans ((sOf_ne _ _ (by decide)).trans (hG_72 11 (by decide))))] at cw_89
        rw [show (setO (setO (setO g62_72 16 (fup (w41_16 16) b z62_72)) 20 (fup (w41_16 20) b 0)) 21 (fup (w41_16 21) b 3)) 12 = w41_16 12 from (sOf_ne _ _ (by decide)).trans ((sOf_ne _ _ (by decide)).trans ((sOf_ne _ _ (by decide)).trans (hG_72 12 (by decide))))] at cw_89
        rw [show (setO (setO (setO g62_72 16 (fup (w41_16 16) b z62_72)) 20 (fup (w41_16 20) b 0)) 21 (fup (w41_16 21) b 3)) 13 = w41_16 13 from (sOf_ne _ _ (by decide)).trans ((sOf_ne _ _ (by decide)).trans ((sOf_ne _ _ (by decide)).trans (hG_72 13 (by decide))))] at cw_89
        rw [show (setO (setO (setO g62_72 16 (fup (w41_16 16) b z62_72)) 20 (fup (w41_16 20) b 0)) 21 (fup (w41_16 21) b 3)) 16 = fup (w41_16 16) b z62_72 from (sOf_ne _ _ (by decide)).trans ((sOf_ne _ _ (by decide)).trans (sOf_eq _ _ _))] at cw_89
        rw [show (setO (setO (setO g62_72 16 (fup (w41_16 16) b z62_72)) 20 (fup (w41_16 20) b 0)) 21 (fup (w41_16 21) b 3)) 22 1 = (w41_16 22) 1 from rd_ ((sOf_ne _ _ (by decide)).trans ((sOf_ne _ _ (by decide)).trans ((sOf_ne _ _ (by decide)).trans (hG_72 22 (by decide))))) rfl] at cw_89
        rw [show (setO (setO (setO g62_72 16 (fup (w41_16 16) b z62_72)) 20 (fup (w41_16 20) b 0)) 21 (fup (w41_16 21) b 3)) 9 = w41_16 9 from (sOf_ne _ _ (by decide)).trans ((sOf_ne _ _ (by decide)).trans ((sOf_ne _ _ (by decide)).trans (hG_72 9 (by decide))))] at cw_89
        rw [show (setO (setO (setO g62_72 16 (fup (w41_16 16) b z62_72)) 20 (fup (w41_16 20) b 0)) 21 (fup (w41_16 21) b 3)) 12 = w41_16 12 from (sOf_ne _ _ (by decide)).trans ((sOf_ne _ _ (by decide)).trans ((sOf_ne _ _ (by decide)).trans (hG_72 12 (by decide))))] at cn_89
        rw [show (setO (setO (setO g62_72 16 (fup (w41_16 16) b z62_72)) 20 (fup (w41_16 20) b 0)) 21 (fup (w41_16 21) b 3)) 13 = w41_16 13 from (sOf_ne _ _ (by decide)).trans ((sOf_ne _ _ (by decide)).trans ((sOf_ne _ _ (by decide)).trans (hG_72 13 (by decide))))] at cn_89
        rw [show (setO (setO (setO g62_72 16 (fup (w41_16 16) b z62_72)) 20 (fup (w41_16 20) b 0)) 21 (fup (w41_16 21) b 3)) 22 1 = (w41_16 22) 1 from rd_ ((sOf_ne _ _ (by decide)).trans ((sOf_ne _ _ (by decide)).trans ((sOf_ne _ _ (by decide)).trans (hG_72 22 (by decide))))) rfl] at cn_89
        rw [show (setO (setO (setO g62_72 16 (fup (w41_16 16) b z62_72)) 20 (fup (w41_16 20) b 0)) 21 (fup (w41_16 21) b 3)) 22 1 = (w41_16 22) 1 from rd_ ((sOf_ne _ _ (by decide)).trans ((sOf_ne _ _ (by decide)).trans ((sOf_ne _ _ (by decide)).trans (hG_72 22 (by decide))))) rfl] at ck_89
        rw [show (setO (setO (setO g62_72 16 (fup (w41_16 16) b z62_72)) 20 (fup (w41_16 20) b 0)) 21 (fup (w41_16 21) b 3)) 23 = w41_16 23 from (sOf_ne _ _ (by decide)).trans ((sOf_ne _ _ (by decide)).trans ((sOf_ne _ _ (by decide)).trans (hG_72 23 (by decide))))] at ck_89
        rw [show (setO (setO (setO g62_72 16 (fup (w41_16 16) b z62_72)) 20 (fup (w41_16 20) b 0)) 21 (fup (w41_16 21) b 3)) 17 = w41_16 17 from (sOf_ne _ _ (by decide)).trans ((sOf_ne _ _ (by decide)).trans ((sOf_ne _ _ (by decide)).trans (hG_72 17 (by decide))))] at cs_89
        rw [show (setO (setO (setO g62_72 16 (fup (w41_16 16) b z62_72)) 20 (fup (w41_16 20) b 0)) 21 (fup (w41_16 21) b 3)) 22 1 = (w41_16 22) 1 from rd_ ((sOf_ne _ _ (by decide)).trans ((sOf_ne _ _ (by decide)).trans ((sOf_ne _ _ (by decide)).trans (hG_72 22 (by decide))))) rfl] at cs_89
        rw [show (setO (setO (setO g62_72 16 (fup (w41_16 16) b z62_72)) 20 (fup (w41_16 20) b 0)) 21 (fup (w41_16 21) b 3)) 18 = w41_16 18 from (sOf_ne _ _ (by decide)).trans ((sOf_ne _ _ (by decide)).trans ((sOf_ne _ _ (by decide)).trans (hG_72 18 (by decide))))] at cl_89
        have cw_at85 := cw_89
        have cn_at85 := cn_89
        have ck_at85 := ck_89
        have cs_at85 := cs_89
        have cl_at85 := cl_89
        show TT K ly 0 0 88 [(0, vR 7), (1, vR 1), (2, vI l), (3, vI n), (4, vR 5), (5, vI b)] [] g85_89
        have ewb := hbw b (by omega) (by omega)
        have cn8 := cn_at85
        rw [ewb.1, ewb.2] at cn8
        refine TT_aload_n hK rfl 0 rfl dX3_pack_88 ?_
        refine TT_iload hK 5 rfl dX3_pack_89 ?_
        refine iv_X3_128 hK (s_X3_findLeasts_7 b g85_89 hT_89 (by first | omega | (simp [up, setR] <;> omega))) (by decide) rfl ⟨by decide, by decide⟩ (by decide) rfl rfl (Nat.le_of_ble_eq_true rfl) ⟨by decide, by decide⟩ dX3_pack_91 ?_
        intro r9 g91_90 hp9
        obtain ⟨⟨hT_90, hG_90⟩, hr9⟩ := hp9
        rw [hr9]
        have hF_90 : FR [5, 6, 8, 9, 10, 11, 12, 13, 14, 15, 16, 17, 18, 19, 20, 21, 22, 23, 24, 25, 26, 27, 28, 29, 30, 31, 32, 33, 34, 36, 37, 38, 39, 41, 42, 43] h g91_90 := FR_tr hF_89 hG_90 (by decide)
        show TT K ly 0 0 94 [(0, vR 7), (1, vR 1), (2, vI l), (3, vI n), (4, vR 5), (5, vI b)] [] g91_90
        refine TT_iinc hK (v := b + 1) (lv' := [(5, vI (b + 1)), (0, vR 7), (1, vR 1), (2, vI l), (3, vI n), (4, vR 5)]) 5 rfl rfl (by decide) rfl dX3_pack_94 ?_
        refine TT_goto hK (tgt := 41) dX3_pack_97 (by decide) ?_
        refine TT_sub [1, 2, 3, 4, 5, 0] rfl ?_
        have e91_10 : g91_90 10 = w41_16 10 := ((hG_90 10 (by decide))).trans (((hG_89 10 (by decide))).trans ((sOf_ne _ _ (by decide)).trans ((sOf_ne _ _ (by decide)).trans ((sOf_ne _ _ (by decide)).trans (hG_72 10 (by decide))))))
        have e92_11 : g91_90 11 = w41_16 11 := ((hG_90 11 (by decide))).trans (((hG_89 11 (by decide))).trans ((sOf_ne _ _ (by decide)).trans ((sOf_ne _ _ (by decide)).trans ((sOf_ne _ _ (by decide)).trans (hG_72 11 (by decide))))))
        have e93_12 : g91_90 12 = w41_16 12 := ((hG_90 12 (by decide))).trans (((hG_89 12 (by decide))).trans ((sOf_ne _ _ (by decide)).trans ((sOf_ne _ _ (by decide)).trans ((sOf_ne _ _ (by decide)).trans (hG_72 12 (by decide))))))
        have e94_13 : g91_90 13 = w41_16 13 := ((hG_90 13 (by decide))).trans (((hG_89 13 (by decide))).trans ((sOf_ne _ _ (by decide)).trans ((sOf_ne _ _ (by decide)).trans ((sOf_ne _ _ (by decide)).trans (hG_72 13 (by decide))))))
        have e95_8_10 : g91_90 8 10 = (w41_16 8) 10 := rd_ (((hG_90 8 (by decide))).trans (((hG_89 8 (by decide))).trans ((sOf_ne _ _ (by decide)).trans ((sOf_ne _ _ (by decide)).trans ((sOf_ne _ _ (by decide)).trans (hG_72 8 (by decide))))))) rfl
        have e96_12 : g91_90 12 = w41_16 12 := ((hG_90 12 (by decide))).trans (((hG_89 12 (by decide))).trans ((sOf_ne _ _ (by decide)).trans ((sOf_ne _ _ (by decide)).trans ((sOf_ne _ _ (by decide)).trans (hG_72 12 (by decide))))))
        have e97_13 : g91_90 13 = w41_16 13 := ((hG_90 13 (by decide))).trans (((hG_89 13 (by decide))).trans ((sOf_ne _ _ (by decide)).trans ((sOf_ne _ _ (by decide)).trans ((sOf_ne _ _ (by decide)).trans (hG_72 13 (by decide))))))
        have e98_10 : g91_90 10 = w41_16 10 := ((hG_90 10 (by decide))).trans (((hG_89 10 (by decide))).trans ((sOf_ne _ _ (by decide)).trans ((sOf_ne _ _ (by decide)).trans ((sOf_ne _ _ (by decide)).trans (hG_72 10 (by decide))))))
        have e99_11 : g91_90 11 = w41_16 11 := ((hG_90 11 (by decide))).trans (((hG_89 11 (by decide))).trans ((sOf_ne _ _ (by decide)).trans ((sOf_ne _ _ (by decide)).trans ((sOf_ne _ _ (by decide)).trans (hG_72 11 (by decide))))))
        have e100_9 : g91_90 9 = w41_16 9 := ((hG_90 9 (by decide))).trans (((hG_89 9 (by decide))).trans ((sOf_ne _ _ (by decide)).trans ((sOf_ne _ _ (by decide)).trans ((sOf_ne _ _ (by decide)).trans (hG_72 9 (by decide))))))
        have e101_22_1 : g91_90 22 1 = (g85_89 22) 1 := rd_ (hG_90 22 (by decide)) rfl
        have e102_16 : g91_90 16 = fup (w41_16 16) b z62_72 := ((hG_90 16 (by decide))).trans (((hG_89 16 (by decide))).trans ((sOf_ne _ _ (by decide)).trans ((sOf_ne _ _ (by decide)).trans (sOf_eq _ _ _))))
        have e103_17 : g91_90 17 = g85_89 17 := (hG_90 17 (by decide))
        have e104_18 : g91_90 18 = g85_89 18 := (hG_90 18 (by decide))
        have e105_23 : g91_90 23 = g85_89 23 := (hG_90 23 (by decide))
        have e106_17 : g91_90 17 = g85_89 17 := (hG_90 17 (by decide))
        have e107_18 : g91_90 18 = g85_89 18 := (hG_90 18 (by decide))
        have e108_22_1 : g91_90 22 1 = (g85_89 22) 1 := rd_ (hG_90 22 (by decide)) rfl
        exact ih16 (b + 1) g91_90 hT_90 hF_90 (by first | omega | (simp [up, setR] <;> omega)) (by rewrite [e91_10, e92_11, e93_12, e94_13]; assumption) (by rewrite [e95_8_10]; exact kcn) (by rewrite [e96_12, e97_13]; exact hbw) (by rewrite [e98_10, e99_11, e100_9]; exact hnm) (by first | omega | (simp [up, setR] <;> omega)) (by rewrite [e101_22_1]; omega) (by rewrite [e102_16, e103_17, e104_18, e105_23]; exact CPQ_s hcp hca rfl cs_at85 cl_at85 ck_at85 cw_at85 pl_at62 (fun x y x1 x2 y1 y2 => hnm b x y (by omega) (by omega) x1 x2 y1 y2) ewb) (by rewrite [e106_17, e107_18, e108_22_1]; intro c c1 c2; rw [cs_at85]; by_cases e : c = b; (rw [e, fup_eq]; omega); (rw [fup_ne _ _ e, cl_at85 c e]; have k9 := hca c c1 (by omega); omega)) (by first | omega | (simp [up, setR] <;> omega))
  refine TT_sub [1, 2, 3, 4, 5, 0] rfl ?_
  have e109_10 : g35_15 10 = g13_3 10 := ((hG_15 10 (by decide))).trans (((hG_14 10 (by decide))).trans (hG_8 10 (by decide)))
  have e110_11 : g35_15 11 = g13_3 11 := ((hG_15 11 (by decide))).trans (((hG_14 11 (by decide))).trans (hG_8 11 (by decide)))
  have e111_12 : g35_15 12 = g13_3 12 := ((hG_15 12 (by decide))).trans (((hG_14 12 (by decide))).trans (hG_8 12 (by decide)))
  have e112_13 : g35_15 13 = g13_3 13 := ((hG_15 13 (by decide))).trans (((hG_14 13 (by decide))).trans (hG_8 13 (by decide)))
  have e113_8_10 : g35_15 8 10 = (g13_3 8) 10 := rd_ (((hG_15 8 (by decide))).trans (((hG_14 8 (by decide))).trans (hG_8 8 (by decide)))) rfl
  have e114_12 : g35_15 12 = g13_3 12 := ((hG_15 12 (by decide))).trans (((hG_14 12 (by decide))).trans (hG_8 12 (by decide)))
  have e115_13 : g35_15 13 = g13_3 13 := ((hG_15 13 (by decide))).trans (((hG_14 13 (by decide))).trans (hG_8 13 (by decide)))
  have e116_10 : g35_15 10 = g13_3 10 := ((hG_15 10 (by decide))).trans (((hG_14 10 (by decide))).trans (hG_8 10 (by decide)))
  have e117_11 : g35_15 11 = g13_3 11 := ((hG_15 11 (by decide))).trans (((hG_14 11 (by decide))).trans (hG_8 11 (by decide)))
  have e118_9 : g35_15 9 = g28_14 9 := (hG_15 9 (by decide))
  have e119_22_1 : g35_15 22 1 = (g35_15 22) 1 := rfl
  have e120_16 : g35_15 16 = h 16 := ((hG_15 16 (by decide))).trans (((hG_14 16 (by decide))).trans (((hG_8 16 (by decide))).trans (hG_3 16 (by decide))))
  have e121_17 : g35_15 17 = h 17 := ((hG_15 17 (by decide))).trans (((hG_14 17 (by decide))).trans (((hG_8 17 (by decide))).trans (hG_3 17 (by decide))))
  have e122_18 : g35_15 18 = h 18 := ((hG_15 18 (by decide))).trans (((hG_14 18 (by decide))).trans (((hG_8 18 (by decide))).trans (hG_3 18 (by decide))))
  have e123_23 : g35_15 23 = h 23 := ((hG_15 23 (by decide))).trans (((hG_14 23 (by decide))).trans (((hG_8 23 (by decide))).trans (hG_3 23 (by decide))))
  have e124_17 : g35_15 17 = h 17 := ((hG_15 17 (by decide))).trans (((hG_14 17 (by decide))).trans (((hG_8 17 (by decide))).trans (hG_3 17 (by decide))))
  have e125_18 : g35_15 18 = h 18 := ((hG_15 18 (by decide))).trans (((hG_14 18 (by decide))).trans (((hG_8 18 (by decide))).trans (hG_3 18 (by decide))))
  have e126_22_1 : g35_15 22 1 = (g35_15 22) 1 := rfl
  exact L41_16 ((((10 : Int) - 0).toNat) + 1) 0 g35_15 hT_15 hF_15 (by first | omega | (simp [up, setR] <;> omega)) (by rewrite [e109_10, e110_11, e111_12, e112_13]; assumption) (by rewrite [e113_8_10]; exact k1_at13.2.2.2) (by rewrite [e114_12, e115_13]; intro b g1 g2; have k9 := lay_at13 b g1 g2; exact ⟨k9.2.2.1, k9.2.2.2⟩) (by rewrite [e116_10, e117_11, e118_9]; intro b x2 y2 g1 g2 g3 g4 g5 g6; have k9 := lay_at13 b g1 g2; have f1 := CXr hsd.1 hsd.2 hl b ⟨g1, g2⟩; rw [k9.1, k9.2.1]; have k8 := p1_at28 ((CY (h 1 2) l b + y2) * 8 + CX (h 1 1) l b + x2) (by omega) (by omega) (by rw [k1_at13.1]; exact xLT hsd.1 hsd.2 hl ⟨g1, g2⟩ ⟨g3, g4⟩ ⟨g5, g6⟩) (by rw [k1_at13.2.1]; exact yLT hsd.1 hsd.2 hl ⟨g1, g2⟩ ⟨g3, g4⟩ ⟨g5, g6⟩); rw [k1_at13.1, k1_at13.2.1, k1_at13.2.2.1] at k8; rw [k8, show (CY (h 1 2) l b + y2) * 8 + CX (h 1 1) l b + x2 = 8 * CY (h 1 2) l b + CX (h 1 1) l b + 8 * y2 + x2 by omega]) (by first | omega | (simp [up, setR] <;> omega)) (by rewrite [e119_22_1]; have i0 : IS (AR (h 1 1) (h 1 2) l) 0 = 0 := rfl; omega) (by rewrite [e120_16, e121_17, e122_18, e123_23]; intro c c1 c2; exfalso; omega) (by rewrite [e124_17, e125_18, e126_22_1]; intro c c1 c2; exfalso; omega) (Nat.lt_succ_self _)
set_option maxRecDepth 20000 in
theorem s_cencode_y (l n : Int) (h : Hp_) (hT : TY h) (hl : -2147483648 ≤ l ∧ l ≤ 2147483647) (hn : -2147483648 ≤ n ∧ n ≤ 2147483647) (hbd : BDQ (h 10) (h 12) (h 11) (h 13)) (hsd : (1 ≤ (h 1 1) ∧ (h 1 1) ≤ 8) ∧ (1 ≤ (h 1 2) ∧ (h 1 2) ≤ 8)) : CtrB yX11_encode cX11_encode 3 (some .int) rmB ly 1 6 [vR 0, vI l, vI n] h (fun r h' => (TY h' ∧ FR [5, 6, 8, 9, 10, 11, 12, 13, 14, 15, 16, 17, 18, 19, 20, 21, 22, 23, 24, 25, 26, 27, 28, 29, 30, 31, 32, 33, 34, 36, 37, 38, 39, 41, 42, 43] h h') ∧ ∃ z : Int, r = some (vI z) ∧ (0 ≤ z ∧ z ≤ 1024) ∧ (BDQ (h' 10) (h' 12) (h' 11) (h' 13)) ∧ ((0 ≤ l ∧ l ≤ 3) ∧ (1 ≤ n ∧ n ≤ 3)) ∧ ((h' 8 10) = 3 * l + 1) ∧ (∀ b : Int, 0 ≤ b → b < 3 * l + 1 → (h' 12) b = BW (h 1 1) l b ∧ (h' 13) b = BH (h 1 2) l b) ∧ (∀ b x2 y2 : Int, 0 ≤ b → b < 3 * l + 1 → 0 ≤ x2 → x2 < BW (h 1 1) l b → 0 ≤ y2 → y2 < BH (h 1 2) l b → (h' 9) (((h' 11) b + y2) * 8 + (h' 10) b + x2) = LE (h 1 1) (h 1 2) (fun i => (h 2) i - 128) l (8 * CY (h 1 2) l b + CX (h 1 1) l b + 8 * y2 + x2)) ∧ (CPQ (h 1 1) (h 1 2) (fun i => (h 2) i - 128) l (3 * l + 1) (h' 16) (h' 23) (h' 17) (h' 18)) ∧ (∀ c : Int, 0 ≤ c → c < (3 * l + 1) → 0 ≤ (h' 17) c ∧ (h' 17) c + (h' 18) c ≤ (h' 22 1))) (fun h' => (TY h' ∧ FR [5, 6, 8, 9, 10, 11, 12, 13, 14, 15, 16, 17, 18, 19, 20, 21, 22, 23, 24, 25, 26, 27, 28, 29, 30, 31, 32, 33, 34, 36, 37, 38, 39, 41, 42, 43] h h') ∧ (BDQ (h' 10) (h' 12) (h' 11) (h' 13)) ∧ (¬((0 ≤ l ∧ l ≤ 3) ∧ (1 ≤ n ∧ n ≤ 3))) ∧ ((h' 8) = (h 8)) ∧ ((h' 9) = (h 9) ∧ (h' 10) = (h 10) ∧ (h' 11) = (h 11)) ∧ ((h' 12) = (h 12) ∧ (h' 13) = (h 13)) ∧ ((h' 16) = (h 16) ∧ (h' 17) = (h 17) ∧ (h' 18) = (h 18)) ∧ ((h' 22) = (h 22) ∧ (h' 23) = (h 23))) := by
  refine CtrB_of (by decide) (Nat.le_of_ble_eq_true rfl) ⟨by decide, by decide⟩ (fun K hK hQ => ?_)
  show TT K ly 0 0 0 [(0, vR 0), (1, vI l), (2, vI n)] [] h
  have hF : FR [5, 6, 8, 9, 10, 11, 12, 13, 14, 15, 16, 17, 18, 19, 20, 21, 22, 23, 24, 25, 26, 27, 28, 29, 30, 31, 32, 33, 34, 36, 37, 38, 39, 41, 42, 43] h h := FR_rf _ _
  refine TT_iload_n hK rfl 1 rfl dX11_encode_0 ?_
  refine iv_X11_69 hK (s_areLevels_x l h hT (by first | omega | (simp [up, setR] <;> omega))) ⟨by decide, by decide⟩ (by decide) rfl rfl (Nat.le_of_ble_eq_true rfl) ⟨by decide, by decide⟩ dX11_encode_1 ?_
  intro r9 g1_1 hp9
  obtain ⟨⟨hT_1, hG_1⟩, z1_1, hr9, hz_1, p1_1, p2_1⟩ := hp9
  rw [hr9]
  have hF_1 : FR [5, 6, 8, 9, 10, 11, 12, 13, 14, 15, 16, 17, 18, 19, 20, 21, 22, 23, 24, 25, 26, 27, 28, 29, 30, 31, 32, 33, 34, 36, 37, 38, 39, 41, 42, 43] h g1_1 := FR_tr hF hG_1 (by decide)
  show TT K ly 0 0 4 [(0, vR 0), (1, vI l), (2, vI n)] [vI z1_1] g1_1
  refine TT_if_eq hK (tgt := 14) (irm (by omega) (by omega)) dX11_encode_4 (by decide) (fun hb4_2 => ?_) (fun hb4_2 => ?_)
  · have e3_10 : g1_1 10 = h 10 := (hG_1 10 (by decide))
    have e4_11 : g1_1 11 = h 11 := (hG_1 11 (by decide))
    have e5_12 : g1_1 12 = h 12 := (hG_1 12 (by decide))
    have e6_13 : g1_1 13 = h 13 := (hG_1 13 (by decide))
    have e7_8 : g1_1 8 = h 8 := (hG_1 8 (by decide))
    have e8_10 : g1_1 10 = h 10 := (hG_1 10 (by decide))
    have e9_11 : g1_1 11 = h 11 := (hG_1 11 (by decide))
    have e10_9 : g1_1 9 = h 9 := (hG_1 9 (by decide))
    have e11_12 : g1_1 12 = h 12 := (hG_1 12 (by decide))
    have e12_13 : g1_1 13 = h 13 := (hG_1 13 (by decide))
    have e13_16 : g1_1 16 = h 16 := (hG_1 16 (by decide))
    have e14_17 : g1_1 17 = h 17 := (hG_1 17 (by decide))
    have e15_18 : g1_1 18 = h 18 := (hG_1 18 (by decide))
    have e16_22 : g1_1 22 = h 22 := (hG_1 22 (by decide))
    have e17_23 : g1_1 23 = h 23 := (hG_1 23 (by decide))
    exact TT_throwB hK hQ 2 (by decide) ⟨⟨hT_1, hF_1⟩, (by rewrite [e3_10, e4_11, e5_12, e6_13]; first | assumption | exact hbd), (by omega), (by rewrite [e7_8]; rfl), (by rewrite [e8_10, e9_11, e10_9]; exact ⟨rfl, rfl, rfl⟩), (by rewrite [e11_12, e12_13]; exact ⟨rfl, rfl⟩), (by rewrite [e13_16, e14_17, e15_18]; exact ⟨rfl, rfl, rfl⟩), (by rewrite [e16_22, e17_23]; exact ⟨rfl, rfl⟩)⟩ (Nat.le_of_ble_eq_true rfl) ⟨by decide, by decide⟩ dX11_encode_14 dX11_encode_17 dX11_encode_18 dX11_encode_20 dX11_encode_23
  · refine TT_iload_n hK rfl 2 rfl dX11_encode_7 ?_
    refine iv_X11_72 hK (s_areLayers_x n g1_1 hT_1 (by first | omega | (simp [up, setR] <;> omega))) ⟨by decide, by decide⟩ (by decide) rfl rfl (Nat.le_of_ble_eq_true rfl) ⟨by decide, by decide⟩ dX11_encode_8 ?_
    intro r9 g8_18 hp9
    obtain ⟨⟨hT_18, hG_18⟩, z8_18, hr9, hz_18, p1_18, p2_18⟩ := hp9
    rw [hr9]
    have hF_18 : FR [5, 6, 8, 9, 10, 11, 12, 13, 14, 15, 16, 17, 18, 19, 20, 21, 22, 23, 24, 25, 26, 27, 28, 29, 30, 31, 32, 33, 34, 36, 37, 38, 39, 41, 42, 43] h g8_18 := FR_tr hF_1 hG_18 (by decide)
    show TT K ly 0 0 11 [(0, vR 0), (1, vI l), (2, vI n)] [vI z8_18] g8_18
    refine TT_if_ne hK (tgt := 24) (irm (by omega) (by omega)) dX11_encode_11 (by decide) (fun hb11_19 => ?_) (fun hb11_19 => ?_)
    · refine TT_aload_n hK rfl 0 rfl dX11_encode_24 ?_
      refine gf_X11_29 hK (by decide) rfl (q := 7) rfl rfl dX11_encode_25 ?_
      refine TT_aload_n hK rfl 0 rfl dX11_encode_28 ?_
      refine gf_X11_10 hK (by decide) rfl (q := 1) rfl rfl dX11_encode_29 ?_
      refine TT_iload_n hK rfl 1 rfl dX11_encode_32 ?_
      refine TT_iload_n hK rfl 2 rfl dX11_encode_33 ?_
      refine TT_aload_n hK rfl 0 rfl dX11_encode_34 ?_
      refine gf_X11_22 hK (by decide) rfl (q := 5) rfl rfl dX11_encode_35 ?_
      have e20_10 : g8_18 10 = h 10 := ((hG_18 10 (by decide))).trans (hG_1 10 (by decide))
      have e21_11 : g8_18 11 = h 11 := ((hG_18 11 (by decide))).trans (hG_1 11 (by decide))
      have e22_12 : g8_18 12 = h 12 := ((hG_18 12 (by decide))).trans (hG_1 12 (by decide))
      have e23_13 : g8_18 13 = h 13 := ((hG_18 13 (by decide))).trans (hG_1 13 (by decide))
      have e24_1_1 : g8_18 1 1 = (h 1) 1 := rd_ (((hG_18 1 (by decide))).trans (hG_1 1 (by decide))) rfl
      have e25_1_2 : g8_18 1 2 = (h 1) 2 := rd_ (((hG_18 1 (by decide))).trans (hG_1 1 (by decide))) rfl
      refine iv_X11_77 hK (s_pack_y l n g8_18 hT_18 (by first | omega | (simp [up, setR] <;> omega)) (by first | omega | (simp [up, setR] <;> omega)) (by rewrite [e20_10, e21_11, e22_12, e23_13]; first | assumption | exact hbd) (by rewrite [e24_1_1, e25_1_2]; first | omega | (simp [up, setR] <;> omega))) (by decide) rfl ⟨by decide, by decide⟩ (by decide) rfl rfl (Nat.le_of_ble_eq_true rfl) ⟨by decide, by decide⟩ dX11_encode_38 ?_
      intro r9 g38_26 hp9
      obtain ⟨⟨hT_26, hG_26⟩, hr9, p1_26, c1_26, c2_26, c3_26, d1_26, d2_26⟩ := hp9
      rw [hr9]
      have hF_26 : FR [5, 6, 8, 9, 10, 11, 12, 13, 14, 15, 16, 17, 18, 19, 20, 21, 22, 23, 24, 25, 26, 27, 28, 29, 30, 31, 32, 33, 34, 36, 37, 38, 39, 41, 42, 43] h g38_26 := FR_tr hF_18 hG_26 (by decide)
      rw [show g8_18 1 1 = (h 1) 1 from rd_ (((hG_18 1 (by decide))).trans (hG_1 1 (by decide))) rfl] at c2_26
      rw [show g8_18 1 2 = (h 1) 2 from rd_ (((hG_18 1 (by decide))).trans (hG_1 1 (by decide))) rfl] at c2_26
      rw [show g8_18 1 1 = (h 1) 1 from rd_ (((hG_18 1 (by decide))).trans (hG_1 1 (by decide))) rfl] at c3_26
      rw [show g8_18 1 2 = (h 1) 2 from rd_ (((hG_18 1 (by decide))).trans (hG_1 1 (by decide))) rfl] at c3_26
      rw [show g8_18 2 = h 2 from ((hG_18 2 (by decide))).trans (hG_1 2 (by decide))] at c3_26
      rw [show g8_18 1 1 = (h 1) 1 from rd_ (((hG_18 1 (by decide))).trans (hG_1 1 (by decide))) rfl] at d1_26
      rw [show g8_18 1 2 = (h 1) 2 from rd_ (((hG_18 1 (by decide))).trans (hG_1 1 (by decide))) rfl] at d1_26
      rw [show g8_18 2 = h 2 from ((hG_18 2 (by decide))).trans (hG_1 2 (by decide))] at d1_26
      have c1_at38 := c1_26
      have c2_at38 := c2_26
      have c3_at38 := c3_26
      have d1_at38 := d1_26
      have d2_at38 := d2_26
      show TT K ly 0 0 41 [(0, vR 0), (1, vI l), (2, vI n)] [] g38_26
      refine TT_aload_n hK rfl 0 rfl dX11_encode_41 ?_
      refine gf_X11_22 hK (by decide) rfl (q := 5) rfl rfl dX11_encode_42 ?_
      refine iv_X11_81 hK (s_X1_length_5 g38_26 hT_26 ) (by decide) rfl ⟨by decide, by decide⟩ (by decide) rfl rfl (Nat.le_of_ble_eq_true rfl) ⟨by decide, by decide⟩ dX11_encode_45 ?_
      intro r9 g45_27 hp9
      obtain ⟨⟨hT_27, hG_27⟩, z45_27, hr9, hz_27⟩ := hp9
      rw [hr9]
      have hF_27 : FR [5, 6, 8, 9, 10, 11, 12, 13, 14, 15, 16, 17, 18, 19, 20, 21, 22, 23, 24, 25, 26, 27, 28, 29, 30, 31, 32, 33, 34, 36, 37, 38, 39, 41, 42, 43] h g45_27 := FR_tr hF_26 hG_27 (by decide)
      show TT K ly 0 0 48 [(0, vR 0), (1, vI l), (2, vI n)] [vI z45_27] g45_27
      refine TT_widen (kc' := 1) (ks' := 6) (by decide) (by decide) ?_
      refine TT_iretB hK hQ ?_ dX11_encode_48
      have e28_10 : g45_27 10 = g38_26 10 := (hG_27 10 (by decide))
      have e29_11 : g45_27 11 = g38_26 11 := (hG_27 11 (by decide))
      have e30_12 : g45_27 12 = g38_26 12 := (hG_27 12 (by decide))
      have e31_13 : g45_27 13 = g38_26 13 := (hG_27 13 (by decide))
      have e32_8_10 : g45_27 8 10 = (g38_26 8) 10 := rd_ (hG_27 8 (by decide)) rfl
      have e33_12 : g45_27 12 = g38_26 12 := (hG_27 12 (by decide))
      have e34_13 : g45_27 13 = g38_26 13 := (hG_27 13 (by decide))
      have e35_10 : g45_27 10 = g38_26 10 := (hG_27 10 (by decide))
      have e36_11 : g45_27 11 = g38_26 11 := (hG_27 11 (by decide))
      have e37_9 : g45_27 9 = g38_26 9 := (hG_27 9 (by decide))
      have e38_16 : g45_27 16 = g38_26 16 := (hG_27 16 (by decide))
      have e39_17 : g45_27 17 = g38_26 17 := (hG_27 17 (by decide))
      have e40_18 : g45_27 18 = g38_26 18 := (hG_27 18 (by decide))
      have e41_23 : g45_27 23 = g38_26 23 := (hG_27 23 (by decide))
      have e42_17 : g45_27 17 = g38_26 17 := (hG_27 17 (by decide))
      have e43_18 : g45_27 18 = g38_26 18 := (hG_27 18 (by decide))
      have e44_22_1 : g45_27 22 1 = (g38_26 22) 1 := rd_ (hG_27 22 (by decide)) rfl
      exact ⟨⟨hT_27, hF_27⟩, z45_27, rfl, (by omega), (by rewrite [e28_10, e29_11, e30_12, e31_13]; first | assumption | exact hbd), (by omega), (by rewrite [e32_8_10]; exact c1_at38), (by rewrite [e33_12, e34_13]; exact c2_at38), (by rewrite [e35_10, e36_11, e37_9]; exact c3_at38), (by rewrite [e38_16, e39_17, e40_18, e41_23]; exact d1_at38), (by rewrite [e42_17, e43_18, e44_22_1]; exact d2_at38)⟩
    · have e45_10 : g8_18 10 = h 10 := ((hG_18 10 (by decide))).trans (hG_1 10 (by decide))
      have e46_11 : g8_18 11 = h 11 := ((hG_18 11 (by decide))).trans (hG_1 11 (by decide))
      have e47_12 : g8_18 12 = h 12 := ((hG_18 12 (by decide))).trans (hG_1 12 (by decide))
      have e48_13 : g8_18 13 = h 13 := ((hG_18 13 (by decide))).trans (hG_1 13 (by decide))
      have e49_8 : g8_18 8 = h 8 := ((hG_18 8 (by decide))).trans (hG_1 8 (by decide))
      have e50_10 : g8_18 10 = h 10 := ((hG_18 10 (by decide))).trans (hG_1 10 (by decide))
      have e51_11 : g8_18 11 = h 11 := ((hG_18 11 (by decide))).trans (hG_1 11 (by decide))
      have e52_9 : g8_18 9 = h 9 := ((hG_18 9 (by decide))).trans (hG_1 9 (by decide))
      have e53_12 : g8_18 12 = h 12 := ((hG_18 12 (by decide))).trans (hG_1 12 (by decide))
      have e54_13 : g8_18 13 = h 13 := ((hG_18 13 (by decide))).trans (hG_1 13 (by decide))
      have e55_16 : g8_18 16 = h 16 := ((hG_18 16 (by decide))).trans (hG_1 16 (by decide))
      have e56_17 : g8_18 17 = h 17 := ((hG_18 17 (by decide))).trans (hG_1 17 (by decide))
      have e57_18 : g8_18 18 = h 18 := ((hG_18 18 (by decide))).trans (hG_1 18 (by decide))
      have e58_22 : g8_18 22 = h 22 := ((hG_18 22 (by decide))).trans (hG_1 22 (by decide))
      have e59_23 : g8_18 23 = h 23 := ((hG_18 23 (by decide))).trans (hG_1 23 (by decide))
      exact TT_throwB hK hQ 2 (by decide) ⟨⟨hT_18, hF_18⟩, (by rewrite [e45_10, e46_11, e47_12, e48_13]; first | assumption | exact hbd), (by omega), (by rewrite [e49_8]; rfl), (by rewrite [e50_10, e51_11, e52_9]; exact ⟨rfl, rfl, rfl⟩), (by rewrite [e53_12, e54_13]; exact ⟨rfl, rfl⟩), (by rewrite [e55_16, e56_17, e57_18]; exact ⟨rfl, rfl, rfl⟩), (by rewrite [e58_22, e59_23]; exact ⟨rfl, rfl⟩)⟩ (Nat.le_of_ble_eq_true rfl) ⟨by decide, by decide⟩ dX11_encode_14 dX11_encode_17 dX11_encode_18 dX11_encode_20 dX11_encode_23
set_option maxRecDepth 20000 in
theorem s_codeByte_e (b i : Int) (h : Hp_) (hT : TY h) (hb : -2147483648 ≤ b ∧ b ≤ 2147483647) (hi : -2147483648 ≤ i ∧ i ≤ 2147483647) (hca : ∀ c : Int, 0 ≤ c → c < (h 8 10) → 0 ≤ (h 17) c ∧ (h 17) c + (h 18) c ≤ (h 22 1)) : Ctr yX3_codeByte cX3_codeByte 3 (some .int) (rmd 1) ly ly 0 0 [vR 7, vI b, vI i] h (fun r h' => (TY h' ∧ FR [] h h') ∧ ∃ z : Int, r = some (vI z) ∧ (-2147483648 ≤ z ∧ z ≤ 2147483647) ∧ ((((0 ≤ b ∧ b < (h 8 10)) ∧ 0 ≤ i ∧ i < (h 18) b) → z = (h 23) ((h 17) b + i)) ∧ (¬((0 ≤ b ∧ b < (h 8 10)) ∧ 0 ≤ i ∧ i < (h 18) b) → z = -100000))) := by
  refine Ctr_of (by decide) (Nat.le_of_ble_eq_true rfl) ⟨Nat.le_refl _, Nat.le_refl _⟩ (fun K hK hQ _ => ?_)
  show TT K ly 0 0 0 [(0, vR 7), (1, vI b), (2, vI i)] [] h
  have hF : FR [] h h := FR_rf _ _
  refine TT_aload_n hK rfl 0 rfl dX3_codeByte_0 ?_
  refine gf_X3_12 hK (by decide) rfl (q := 8) rfl rfl dX3_codeByte_1 ?_
  refine TT_iload_n hK rfl 1 rfl dX3_codeByte_4 ?_
  refine iv_X3_74 hK (s_hasBand_x b h hT (by first | omega | (simp [up, setR] <;> omega))) (by decide) rfl ⟨by decide, by decide⟩ (by decide) rfl rfl (Nat.le_of_ble_eq_true rfl) ⟨by decide, by decide⟩ dX3_codeByte_5 ?_
  intro r9 g5_1 hp9
  obtain ⟨⟨hT_1, hG_1⟩, z5_1, hr9, hz_1, p1_1, p2_1⟩ := hp9
  rw [hr9]
  have hF_1 : FR [] h g5_1 := FR_tr hF hG_1 (by decide)
  rw [show h 8 10 = (h 8) 10 from rfl] at p1_1
  rw [show h 8 10 = (h 8) 10 from rfl] at p2_1
  show TT K ly 0 0 8 [(0, vR 7), (1, vI b), (2, vI i)] [vI z5_1] g5_1
  refine TT_if_eq hK (tgt := 25) (irm (by omega) (by omega)) dX3_codeByte_8 (by decide) (fun hb8_2 => ?_) (fun hb8_2 => ?_)
  · refine TT_ldc hK lc_X3_78 dX3_codeByte_25 ?_
    refine TT_iret hK hQ ?_ dX3_codeByte_27
    exact ⟨⟨hT_1, hF_1⟩, (-100000), rfl, (by omega), (by first | exact ⟨fun q => by exfalso; omega, fun _ => rfl⟩)⟩
  · refine TT_iload_n hK rfl 2 rfl dX3_codeByte_11 ?_
    refine TT_if_lt hK (tgt := 25) (irm (by omega) (by omega)) dX3_codeByte_12 (by decide) (fun hb12_3 => ?_) (fun hb12_3 => ?_)
    · refine TT_ldc hK lc_X3_78 dX3_codeByte_25 ?_
      refine TT_iret hK hQ ?_ dX3_codeByte_27
      exact ⟨⟨hT_1, hF_1⟩, (-100000), rfl, (by omega), (by first | exact ⟨fun q => by exfalso; omega, fun _ => rfl⟩)⟩
    · refine TT_iload_n hK rfl 2 rfl dX3_codeByte_15 ?_
      refine TT_aload_n hK rfl 0 rfl dX3_codeByte_16 ?_
      refine gf_X3_25 hK (by decide) rfl (q := 18) rfl rfl dX3_codeByte_17 ?_
      refine TT_iload_n hK rfl 1 rfl dX3_codeByte_20 ?_
      refine TT_iald hK (o := 18) (n := 10) (by decide) rfl (by first | omega | (simp [up, setR] <;> omega)) (by first | omega | (simp [up, setR] <;> omega)) (v := (h 18) b) (rd_ (hG_1 18 (by decide)) rfl) dX3_codeByte_21 ?_
      have r4 := ty_18 (i := b) (v := (h 18) b) hT_1 (rd_ (hG_1 18 (by decide)) rfl) (by omega) (by omega)
      refine TT_icmp_lt hK (tgt := 28) (irm (by omega) (by omega)) (irm (by omega) (by omega)) dX3_codeByte_22 (by decide) (fun hb22_5 => ?_) (fun hb22_5 => ?_)
      · refine TT_aload_n hK rfl 0 rfl dX3_codeByte_28 ?_
        refine gf_X3_40 hK (by decide) rfl (q := 22) rfl rfl dX3_codeByte_29 ?_
        refine TT_aload_n hK rfl 0 rfl dX3_codeByte_32 ?_
        refine gf_X3_22 hK (by decide) rfl (q := 17) rfl rfl dX3_codeByte_33 ?_
        refine TT_iload_n hK rfl 1 rfl dX3_codeByte_36 ?_
        refine TT_iald hK (o := 17) (n := 10) (by decide) rfl (by first | omega | (simp [up, setR] <;> omega)) (by first | omega | (simp [up, setR] <;> omega)) (v := (h 17) b) (rd_ (hG_1 17 (by decide)) rfl) dX3_codeByte_37 ?_
        have r6 := ty_17 (i := b) (v := (h 17) b) hT_1 (rd_ (hG_1 17 (by decide)) rfl) (by omega) (by omega)
        refine TT_iload_n hK rfl 2 rfl dX3_codeByte_38 ?_
        refine TT_iadd hK dX3_codeByte_39 ?_
        have k9 := hca b (by omega) (by omega)
        refine iv_X3_93 hK (s_X1_at_22 (((h 17) b) + i) g5_1 hT_1 (by first | omega | (simp [up, setR] <;> omega))) (by decide) rfl ⟨by decide, by decide⟩ (by decide) rfl rfl (Nat.le_of_ble_eq_true rfl) ⟨by decide, by decide⟩ dX3_codeByte_40 ?_
        intro r9 g40_7 hp9
        obtain ⟨⟨hT_7, hG_7⟩, z40_7, hr9, hz_7, p1_7⟩ := hp9
        rw [hr9]
        have hF_7 : FR [] h g40_7 := FR_tr hF_1 hG_7 (by decide)
        rw [show g5_1 22 1 = (h 22) 1 from rd_ (hG_1 22 (by decide)) rfl] at p1_7
        rw [show g5_1 23 = h 23 from (hG_1 23 (by decide))] at p1_7
        have p1_at40 := p1_7
        show TT K ly 0 0 43 [(0, vR 7), (1, vI b), (2, vI i)] [vI z40_7] g40_7
        refine TT_iret hK hQ ?_ dX3_codeByte_43
        exact ⟨⟨hT_7, hF_7⟩, z40_7, rfl, (by omega), (by first | exact ⟨fun q => by exfalso; omega, fun _ => rfl⟩ | exact ⟨fun _ => p1_at40.1 (by omega), fun q => absurd (by omega) q⟩)⟩
      · refine TT_ldc hK lc_X3_78 dX3_codeByte_25 ?_
        refine TT_iret hK hQ ?_ dX3_codeByte_27
        exact ⟨⟨hT_1, hF_1⟩, (-100000), rfl, (by omega), (by first | exact ⟨fun q => by exfalso; omega, fun _ => rfl⟩)⟩
set_option maxRecDepth 20000 in
theorem s_ccodeword_e (b i : Int) (h : Hp_) (hT : TY h) (hb : -2147483648 ≤ b ∧ b ≤ 2147483647) (hi : -2147483648 ≤ i ∧ i ≤ 2147483647) (hca : ∀ c : Int, 0 ≤ c → c < (h 8 10) → 0 ≤ (h 17) c ∧ (h 17) c + (h 18) c ≤ (h 22 1)) : Ctr yX11_codeword cX11_codeword 3 (some .int) (rmd 2) ly ly 0 0 [vR 0, vI b, vI i] h (fun r h' => (TY h' ∧ FR [] h h') ∧ ∃ z : Int, r = some (vI z) ∧ (-2147483648 ≤ z ∧ z ≤ 2147483647) ∧ ((((0 ≤ b ∧ b < (h 8 10)) ∧ 0 ≤ i ∧ i < (h 18) b) → z = (h 23) ((h 17) b + i)) ∧ (¬((0 ≤ b ∧ b < (h 8 10)) ∧ 0 ≤ i ∧ i < (h 18) b) → z = -100000))) := by
  refine Ctr_of (by decide) (Nat.le_of_ble_eq_true rfl) ⟨Nat.le_refl _, Nat.le_refl _⟩ (fun K hK hQ _ => ?_)
  show TT K ly 0 0 0 [(0, vR 0), (1, vI b), (2, vI i)] [] h
  have hF : FR [] h h := FR_rf _ _
  refine TT_aload_n hK rfl 0 rfl dX11_codeword_0 ?_
  refine gf_X11_29 hK (by decide) rfl (q := 7) rfl rfl dX11_codeword_1 ?_
  refine TT_iload_n hK rfl 1 rfl dX11_codeword_4 ?_
  refine TT_iload_n hK rfl 2 rfl dX11_codeword_5 ?_
  have e1_22_1 : h 22 1 = (h 22) 1 := rfl
  have e2_8_10 : h 8 10 = (h 8) 10 := rfl
  refine iv_X11_100 hK (s_codeByte_e b i h hT (by first | omega | (simp [up, setR] <;> omega)) (by first | omega | (simp [up, setR] <;> omega)) (by rewrite [e1_22_1, e2_8_10]; first | assumption | exact hca)) (by decide) rfl ⟨by decide, by decide⟩ (by decide) rfl rfl (Nat.le_of_ble_eq_true rfl) ⟨by decide, by decide⟩ dX11_codeword_6 ?_
  intro r9 g6_3 hp9
  obtain ⟨⟨hT_3, hG_3⟩, z6_3, hr9, hz_3, q1_3⟩ := hp9
  rw [hr9]
  have hF_3 : FR [] h g6_3 := FR_tr hF hG_3 (by decide)
  rw [show h 8 10 = (h 8) 10 from rfl] at q1_3
  show TT K ly 0 0 9 [(0, vR 0), (1, vI b), (2, vI i)] [vI z6_3] g6_3
  refine TT_iret hK hQ ?_ dX11_codeword_9
  exact ⟨⟨hT_3, hF_3⟩, z6_3, rfl, (by omega), (by assumption)⟩
set_option maxRecDepth 20000 in
theorem s_codeword_e (b i : Int) (h : Hp_) (hT : TY h) (hb : -2147483648 ≤ b ∧ b ≤ 2147483647) (hi : -2147483648 ≤ i ∧ i ≤ 2147483647) (hmi : MIQ (h 90) (h 91)) : Ctr yX12_codeword cX12_codeword 3 (some .int) (rmd 2) ly ly 0 0 [vR 73, vI b, vI i] h (fun r h' => (TY h' ∧ FRM [73] [2] h h') ∧ ∃ z : Int, r = some (vI z) ∧ (-2147483648 ≤ z ∧ z ≤ 2147483647) ∧ ((((0 ≤ b ∧ b < (h 73 18)) ∧ 0 ≤ i ∧ i < (h 91) b) → z = (h 89) ((h 90) b + i)) ∧ (¬((0 ≤ b ∧ b < (h 73 18)) ∧ 0 ≤ i ∧ i < (h 91) b) → z = -100000))) := by
  refine Ctr_of (by decide) (Nat.le_of_ble_eq_true rfl) ⟨Nat.le_refl _, Nat.le_refl _⟩ (fun K hK hQ _ => ?_)
  show TT K ly 0 0 0 [(0, vR 73), (1, vI b), (2, vI i)] [] h
  have hF : FRM [73] [2] h h := FRM_rf _ _ _
  refine TT_aload_n hK rfl 0 rfl dX12_codeword_0 ?_
  refine TT_iconst hK dX12_codeword_1 ?_
  refine pf_X12_117 hK (by decide) rfl dX12_codeword_2 ?_
  refine TT_hp (h' := setO h 73 (fup (h 73) 2 0)) (up_can rfl rfl rfl) ?_
  have hT_1 : TY (setO h 73 (fup (h 73) 2 0)) := tu_73_2 hT (show up h 73 2 0 = (setO h 73 (fup (h 73) 2 0)) from up_can rfl rfl rfl) (by omega)
  have hF_1 : FRM [73] [2] h (setO h 73 (fup (h 73) 2 0)) := FRM_f (show up h 73 2 0 = (setO h 73 (fup (h 73) 2 0)) from up_can rfl rfl rfl) hF (by decide) (by decide)
  refine TT_aload_n hK rfl 0 rfl dX12_codeword_5 ?_
  refine TT_iload_n hK rfl 1 rfl dX12_codeword_6 ?_
  refine iv_X12_361 hK (s_isBand_y b (setO h 73 (fup (h 73) 2 0)) hT_1 (by first | omega | (simp [up, setR] <;> omega))) (by decide) rfl ⟨by decide, by decide⟩ (by decide) rfl rfl (Nat.le_of_ble_eq_true rfl) ⟨by decide, by decide⟩ dX12_codeword_7 ?_
  intro r9 g7_2 hp9
  obtain ⟨⟨hT_2, hG_2⟩, z7_2, hr9, hz_2, p1_2, p2_2⟩ := hp9
  rw [hr9]
  have hF_2 : FRM [73] [2] h g7_2 := FRM_tr hF_1 hG_2 (by decide) (by decide)
  rw [show (setO h 73 (fup (h 73) 2 0)) 73 18 = (h 73) 18 from rd_ (sOf_eq _ _ _) (fup_ne _ _ (by decide))] at p1_2
  rw [show (setO h 73 (fup (h 73) 2 0)) 73 18 = (h 73) 18 from rd_ (sOf_eq _ _ _) (fup_ne _ _ (by decide))] at p2_2
  show TT K ly 0 0 10 [(0, vR 73), (1, vI b), (2, vI i)] [vI z7_2] g7_2
  refine TT_if_eq hK (tgt := 45) (irm (by omega) (by omega)) dX12_codeword_10 (by decide) (fun hb10_3 => ?_) (fun hb10_3 => ?_)
  · refine TT_ldc hK lc_X12_128 dX12_codeword_45 ?_
    refine TT_iret hK hQ ?_ dX12_codeword_47
    exact ⟨⟨hT_2, hF_2⟩, (-100000), rfl, (by omega), (by first | exact ⟨fun q => by exfalso; omega, fun _ => rfl⟩ | exact ⟨fun _ => rfl, fun q => absurd (by omega) q⟩)⟩
  · refine TT_iload_n hK rfl 2 rfl dX12_codeword_13 ?_
    refine TT_iconst hK dX12_codeword_14 ?_
    refine TT_aload_n hK rfl 0 rfl dX12_codeword_15 ?_
    refine gf_X12_69 hK (by decide) rfl (q := 91) rfl rfl dX12_codeword_16 ?_
    refine TT_iload_n hK rfl 1 rfl dX12_codeword_19 ?_
    refine TT_iald hK (o := 91) (n := 10) (by decide) rfl (by first | omega | (simp [up, setR] <;> omega)) (by first | omega | (simp [up, setR] <;> omega)) (v := (h 91) b) (rd_ (((hG_2.1 91 (by decide))).trans (sOf_ne _ _ (by decide))) rfl) dX12_codeword_20 ?_
    have r4 := ty_91 (i := b) (v := (h 91) b) hT_2 (rd_ (((hG_2.1 91 (by decide))).trans (sOf_ne _ _ (by decide))) rfl) (by omega) (by omega)
    refine TT_iconst hK dX12_codeword_21 ?_
    refine TT_isub hK dX12_codeword_22 ?_
    refine iv_X12_120 hK (s_X12_within i 0 (((h 91) b) - 1) g7_2 hT_2 (by first | omega | (simp [up, setR] <;> omega)) (by first | omega | (simp [up, setR] <;> omega)) (by first | omega | (simp [up, setR] <;> omega))) ⟨by decide, by decide⟩ (by decide) rfl rfl (Nat.le_of_ble_eq_true rfl) ⟨by decide, by decide⟩ dX12_codeword_23 ?_
    intro r9 g23_5 hp9
    obtain ⟨⟨hT_5, hG_5⟩, z23_5, hr9, hz_5, p1_5, p2_5⟩ := hp9
    rw [hr9]
    have hF_5 : FRM [73] [2] h g23_5 := FRM_tr hF_2 hG_5 (by decide) (by decide)
    show TT K ly 0 0 26 [(0, vR 73), (1, vI b), (2, vI i)] [vI z23_5] g23_5
    refine TT_if_eq hK (tgt := 45) (irm (by omega) (by omega)) dX12_codeword_26 (by decide) (fun hb26_6 => ?_) (fun hb26_6 => ?_)
    · refine TT_ldc hK lc_X12_128 dX12_codeword_45 ?_
      refine TT_iret hK hQ ?_ dX12_codeword_47
      exact ⟨⟨hT_5, hF_5⟩, (-100000), rfl, (by omega), (by first | exact ⟨fun q => by exfalso; omega, fun _ => rfl⟩ | exact ⟨fun _ => rfl, fun q => absurd (by omega) q⟩)⟩
    · have mi := hmi b (by omega) (by omega)
      refine TT_aload_n hK rfl 0 rfl dX12_codeword_29 ?_
      refine gf_X12_63 hK (by decide) rfl (q := 89) rfl rfl dX12_codeword_30 ?_
      refine TT_aload_n hK rfl 0 rfl dX12_codeword_33 ?_
      refine gf_X12_66 hK (by decide) rfl (q := 90) rfl rfl dX12_codeword_34 ?_
      refine TT_iload_n hK rfl 1 rfl dX12_codeword_37 ?_
      refine TT_iald hK (o := 90) (n := 10) (by decide) rfl (by first | omega | (simp [up, setR] <;> omega)) (by first | omega | (simp [up, setR] <;> omega)) (v := (h 90) b) (rd_ (((hG_5.1 90 (by decide))).trans (((hG_2.1 90 (by decide))).trans (sOf_ne _ _ (by decide)))) rfl) dX12_codeword_38 ?_
      have r7 := ty_90 (i := b) (v := (h 90) b) hT_5 (rd_ (((hG_5.1 90 (by decide))).trans (((hG_2.1 90 (by decide))).trans (sOf_ne _ _ (by decide)))) rfl) (by omega) (by omega)
      refine TT_iload_n hK rfl 2 rfl dX12_codeword_39 ?_
      refine TT_iadd hK dX12_codeword_40 ?_
      refine TT_iald hK (o := 89) (n := 4400) (by decide) rfl (by first | omega | (simp [up, setR] <;> omega)) (by first | omega | (simp [up, setR] <;> omega)) (v := (h 89) (((h 90) b) + i)) (rd_ (((hG_5.1 89 (by decide))).trans (((hG_2.1 89 (by decide))).trans (sOf_ne _ _ (by decide)))) rfl) dX12_codeword_41 ?_
      have r8 := ty_89 (i := ((h 90) b) + i) (v := (h 89) (((h 90) b) + i)) hT_5 (rd_ (((hG_5.1 89 (by decide))).trans (((hG_2.1 89 (by decide))).trans (sOf_ne _ _ (by decide)))) rfl) (by omega) (by omega)
      refine TT_goto hK (tgt := 47) dX12_codeword_42 (by decide) ?_
      refine TT_iret hK hQ ?_ dX12_codeword_47
      exact ⟨⟨hT_5, hF_5⟩, ((h 89) (((h 90) b) + i)), rfl, (by omega), (by first | exact ⟨fun q => by exfalso; omega, fun _ => rfl⟩ | exact ⟨fun _ => rfl, fun q => absurd (by omega) q⟩)⟩
set_option maxRecDepth 20000 in
theorem s_about_e (b w : Int) (h : Hp_) (hT : TY h) (hb : -2147483648 ≤ b ∧ b ≤ 2147483647) (hw : -2147483648 ≤ w ∧ w ≤ 2147483647) : Ctr yX3_about cX3_about 3 (some .int) (rmd 1) ly ly 0 0 [vR 7, vI b, vI w] h (fun r h' => (TY h' ∧ FR [] h h') ∧ ∃ z : Int, r = some (vI z) ∧ (-2147483648 ≤ z ∧ z ≤ 2147483647) ∧ (z = ABQ b w (h 8 10) (h 12) (h 13) (h 16) (h 18))) := by
  refine Ctr_of (by decide) (Nat.le_of_ble_eq_true rfl) ⟨Nat.le_refl _, Nat.le_refl _⟩ (fun K hK hQ _ => ?_)
  show TT K ly 0 0 0 [(0, vR 7), (1, vI b), (2, vI w)] [] h
  have hF : FR [] h h := FR_rf _ _
  refine TT_aload_n hK rfl 0 rfl dX3_about_0 ?_
  refine gf_X3_12 hK (by decide) rfl (q := 8) rfl rfl dX3_about_1 ?_
  refine TT_iload_n hK rfl 1 rfl dX3_about_4 ?_
  refine iv_X3_74 hK (s_hasBand_x b h hT (by first | omega | (simp [up, setR] <;> omega))) (by decide) rfl ⟨by decide, by decide⟩ (by decide) rfl rfl (Nat.le_of_ble_eq_true rfl) ⟨by decide, by decide⟩ dX3_about_5 ?_
  intro r9 g5_1 hp9
  obtain ⟨⟨hT_1, hG_1⟩, z5_1, hr9, hz_1, p1_1, p2_1⟩ := hp9
  rw [hr9]
  have hF_1 : FR [] h g5_1 := FR_tr hF hG_1 (by decide)
  rw [show h 8 10 = (h 8) 10 from rfl] at p1_1
  rw [show h 8 10 = (h 8) 10 from rfl] at p2_1
  show TT K ly 0 0 8 [(0, vR 7), (1, vI b), (2, vI w)] [vI z5_1] g5_1
  refine TT_if_ne hK (tgt := 14) (irm (by omega) (by omega)) dX3_about_8 (by decide) (fun hb8_2 => ?_) (fun hb8_2 => ?_)
  · refine TT_iload_n hK rfl 2 rfl dX3_about_14 ?_
    refine TT_table hK (irm (by omega) (by omega)) dX3_about_15 (fun hs15_3 => ⟨92, by decide, ?_⟩) (fun hs15_3a hs15_3b => ?_)
    · refine TT_ldc hK lc_X3_78 dX3_about_92 ?_
      refine TT_iret hK hQ ?_ dX3_about_94
      exact ⟨⟨hT_1, hF_1⟩, (-100000), rfl, (by omega), (by first | exact (ABQ_n (by omega)).symm | exact ABQ_p (by omega) (by omega))⟩
    · rcases (show w = 0 ∨ w = 1 ∨ w = 2 ∨ w = 3 ∨ w = 4 by omega) with hs15_3 | hs15_3 | hs15_3 | hs15_3 | hs15_3
      · refine ⟨33, 48, by rw [hs15_3]; rfl, by decide, ?_⟩
        refine TT_aload_n hK rfl 0 rfl dX3_about_48 ?_
        refine gf_X3_12 hK (by decide) rfl (q := 8) rfl rfl dX3_about_49 ?_
        refine gf_X3_79 hK (by decide) rfl (q := 12) rfl rfl dX3_about_52 ?_
        refine TT_iload_n hK rfl 1 rfl dX3_about_55 ?_
        refine TT_iald hK (o := 12) (n := 10) (by decide) rfl (by first | omega | (simp [up, setR] <;> omega)) (by first | omega | (simp [up, setR] <;> omega)) (v := (h 12) b) (rd_ (hG_1 12 (by decide)) rfl) dX3_about_56 ?_
        have r4 := ty_12 (i := b) (v := (h 12) b) hT_1 (rd_ (hG_1 12 (by decide)) rfl) (by omega) (by omega)
        refine TT_iret hK hQ ?_ dX3_about_57
        exact ⟨⟨hT_1, hF_1⟩, ((h 12) b), rfl, (by omega), (by first | exact (ABQ_n (by omega)).symm | exact ABQ_p (by omega) (by omega))⟩
      · refine ⟨43, 58, by rw [hs15_3]; rfl, by decide, ?_⟩
        refine TT_aload_n hK rfl 0 rfl dX3_about_58 ?_
        refine gf_X3_12 hK (by decide) rfl (q := 8) rfl rfl dX3_about_59 ?_
        refine gf_X3_82 hK (by decide) rfl (q := 13) rfl rfl dX3_about_62 ?_
        refine TT_iload_n hK rfl 1 rfl dX3_about_65 ?_
        refine TT_iald hK (o := 13) (n := 10) (by decide) rfl (by first | omega | (simp [up, setR] <;> omega)) (by first | omega | (simp [up, setR] <;> omega)) (v := (h 13) b) (rd_ (hG_1 13 (by decide)) rfl) dX3_about_66 ?_
        have r5 := ty_13 (i := b) (v := (h 13) b) hT_1 (rd_ (hG_1 13 (by decide)) rfl) (by omega) (by omega)
        refine TT_iret hK hQ ?_ dX3_about_67
        exact ⟨⟨hT_1, hF_1⟩, ((h 13) b), rfl, (by omega), (by first | exact (ABQ_n (by omega)).symm | exact ABQ_p (by omega) (by omega))⟩
      · refine ⟨53, 68, by rw [hs15_3]; rfl, by decide, ?_⟩
        refine TT_aload_n hK rfl 0 rfl dX3_about_68 ?_
        refine gf_X3_18 hK (by decide) rfl (q := 16) rfl rfl dX3_about_69 ?_
        refine TT_iload_n hK rfl 1 rfl dX3_about_72 ?_
        refine TT_iald hK (o := 16) (n := 10) (by decide) rfl (by first | omega | (simp [up, setR] <;> omega)) (by first | omega | (simp [up, setR] <;> omega)) (v := (h 16) b) (rd_ (hG_1 16 (by decide)) rfl) dX3_about_73 ?_
        have r6 := ty_16 (i := b) (v := (h 16) b) hT_1 (rd_ (hG_1 16 (by decide)) rfl) (by omega) (by omega)
        refine TT_iret hK hQ ?_ dX3_about_74
        exact ⟨⟨hT_1, hF_1⟩, ((h 16) b), rfl, (by omega), (by first | exact (ABQ_n (by omega)).symm | exact ABQ_p (by omega) (by omega))⟩
      · refine ⟨60, 75, by rw [hs15_3]; rfl, by decide, ?_⟩
        refine TT_aload_n hK rfl 0 rfl dX3_about_75 ?_
        refine gf_X3_18 hK (by decide) rfl (q := 16) rfl rfl dX3_about_76 ?_
        refine TT_iload_n hK rfl 1 rfl dX3_about_79 ?_
        refine TT_iald hK (o := 16) (n := 10) (by decide) rfl (by first | omega | (simp [up, setR] <;> omega)) (by first | omega | (simp [up, setR] <;> omega)) (v := (h 16) b) (rd_ (hG_1 16 (by decide)) rfl) dX3_about_80 ?_
        have r7 := ty_16 (i := b) (v := (h 16) b) hT_1 (rd_ (hG_1 16 (by decide)) rfl) (by omega) (by omega)
        refine iv_X3_85 hK (s_cpassesOf_e ((h 16) b) g5_1 hT_1 (by first | omega | (simp [up, setR] <;> omega))) ⟨by decide, by decide⟩ (by decide) rfl rfl (Nat.le_of_ble_eq_true rfl) ⟨by decide, by decide⟩ dX3_about_81 ?_
        intro r9 g81_8 hp9
        obtain ⟨⟨hT_8, hG_8⟩, z81_8, hr9, hz_8, e_8⟩ := hp9
        rw [hr9]
        have hF_8 : FR [] h g81_8 := FR_tr hF_1 hG_8 (by decide)
        have e_at81 := e_8
        show TT K ly 0 0 84 [(0, vR 7), (1, vI b), (2, vI w)] [vI z81_8] g81_8
        refine TT_iret hK hQ ?_ dX3_about_84
        exact ⟨⟨hT_8, hF_8⟩, z81_8, rfl, (by omega), (by first | exact (ABQ_n (by omega)).symm | exact ABQ_p (by omega) (by omega))⟩
      · refine ⟨70, 85, by rw [hs15_3]; rfl, by decide, ?_⟩
        refine TT_aload_n hK rfl 0 rfl dX3_about_85 ?_
        refine gf_X3_25 hK (by decide) rfl (q := 18) rfl rfl dX3_about_86 ?_
        refine TT_iload_n hK rfl 1 rfl dX3_about_89 ?_
        refine TT_iald hK (o := 18) (n := 10) (by decide) rfl (by first | omega | (simp [up, setR] <;> omega)) (by first | omega | (simp [up, setR] <;> omega)) (v := (h 18) b) (rd_ (hG_1 18 (by decide)) rfl) dX3_about_90 ?_
        have r9 := ty_18 (i := b) (v := (h 18) b) hT_1 (rd_ (hG_1 18 (by decide)) rfl) (by omega) (by omega)
        refine TT_iret hK hQ ?_ dX3_about_91
        exact ⟨⟨hT_1, hF_1⟩, ((h 18) b), rfl, (by omega), (by first | exact (ABQ_n (by omega)).symm | exact ABQ_p (by omega) (by omega))⟩
  · refine TT_ldc hK lc_X3_78 dX3_about_11 ?_
    refine TT_iret hK hQ ?_ dX3_about_13
    exact ⟨⟨hT_1, hF_1⟩, (-100000), rfl, (by omega), (by first | exact (ABQ_n (by omega)).symm | exact ABQ_p (by omega) (by omega))⟩
set_option maxRecDepth 20000 in
theorem s_cband_e (b w : Int) (h : Hp_) (hT : TY h) (hb : -2147483648 ≤ b ∧ b ≤ 2147483647) (hw : -2147483648 ≤ w ∧ w ≤ 2147483647) : Ctr yX11_band cX11_band 3 (some .int) (rmd 2) ly ly 0 0 [vR 0, vI b, vI w] h (fun r h' => (TY h' ∧ FR [] h h') ∧ ∃ z : Int, r = some (vI z) ∧ (-2147483648 ≤ z ∧ z ≤ 2147483647) ∧ (z = ABQ b w (h 8 10) (h 12) (h 13) (h 16) (h 18))) := by
  refine Ctr_of (by decide) (Nat.le_of_ble_eq_true rfl) ⟨Nat.le_refl _, Nat.le_refl _⟩ (fun K hK hQ _ => ?_)
  show TT K ly 0 0 0 [(0, vR 0), (1, vI b), (2, vI w)] [] h
  have hF : FR [] h h := FR_rf _ _
  refine TT_aload_n hK rfl 0 rfl dX11_band_0 ?_
  refine gf_X11_29 hK (by decide) rfl (q := 7) rfl rfl dX11_band_1 ?_
  refine TT_iload_n hK rfl 1 rfl dX11_band_4 ?_
  refine TT_iload_n hK rfl 2 rfl dX11_band_5 ?_
  refine iv_X11_93 hK (s_about_e b w h hT (by first | omega | (simp [up, setR] <;> omega)) (by first | omega | (simp [up, setR] <;> omega))) (by decide) rfl ⟨by decide, by decide⟩ (by decide) rfl rfl (Nat.le_of_ble_eq_true rfl) ⟨by decide, by decide⟩ dX11_band_6 ?_
  intro r9 g6_1 hp9
  obtain ⟨⟨hT_1, hG_1⟩, z6_1, hr9, hz_1, q1_1⟩ := hp9
  rw [hr9]
  have hF_1 : FR [] h g6_1 := FR_tr hF hG_1 (by decide)
  rw [show h 8 10 = (h 8) 10 from rfl] at q1_1
  show TT K ly 0 0 9 [(0, vR 0), (1, vI b), (2, vI w)] [vI z6_1] g6_1
  refine TT_iret hK hQ ?_ dX11_band_9
  exact ⟨⟨hT_1, hF_1⟩, z6_1, rfl, (by omega), (by assumption)⟩
set_option maxRecDepth 20000 in
theorem s_band_e (b w : Int) (h : Hp_) (hT : TY h) (hb : -2147483648 ≤ b ∧ b ≤ 2147483647) (hw : -2147483648 ≤ w ∧ w ≤ 2147483647) : Ctr yX12_band cX12_band 3 (some .int) (rmd 2) ly ly 0 0 [vR 73, vI b, vI w] h (fun r h' => (TY h' ∧ FRM [73] [2] h h') ∧ ∃ z : Int, r = some (vI z) ∧ (-2147483648 ≤ z ∧ z ≤ 2147483647) ∧ (z = ABQ b w (h 73 18) (h 80) (h 81) (h 83) (h 91))) := by
  refine Ctr_of (by decide) (Nat.le_of_ble_eq_true rfl) ⟨Nat.le_refl _, Nat.le_refl _⟩ (fun K hK hQ _ => ?_)
  show TT K ly 0 0 0 [(0, vR 73), (1, vI b), (2, vI w)] [] h
  have hF : FRM [73] [2] h h := FRM_rf _ _ _
  refine TT_aload_n hK rfl 0 rfl dX12_band_0 ?_
  refine TT_iconst hK dX12_band_1 ?_
  refine pf_X12_117 hK (by decide) rfl dX12_band_2 ?_
  refine TT_hp (h' := setO h 73 (fup (h 73) 2 0)) (up_can rfl rfl rfl) ?_
  have hT_1 : TY (setO h 73 (fup (h 73) 2 0)) := tu_73_2 hT (show up h 73 2 0 = (setO h 73 (fup (h 73) 2 0)) from up_can rfl rfl rfl) (by omega)
  have hF_1 : FRM [73] [2] h (setO h 73 (fup (h 73) 2 0)) := FRM_f (show up h 73 2 0 = (setO h 73 (fup (h 73) 2 0)) from up_can rfl rfl rfl) hF (by decide) (by decide)
  refine TT_aload_n hK rfl 0 rfl dX12_band_5 ?_
  refine TT_iload_n hK rfl 1 rfl dX12_band_6 ?_
  refine iv_X12_361 hK (s_isBand_y b (setO h 73 (fup (h 73) 2 0)) hT_1 (by first | omega | (simp [up, setR] <;> omega))) (by decide) rfl ⟨by decide, by decide⟩ (by decide) rfl rfl (Nat.le_of_ble_eq_true rfl) ⟨by decide, by decide⟩ dX12_band_7 ?_
  intro r9 g7_2 hp9
  obtain ⟨⟨hT_2, hG_2⟩, z7_2, hr9, hz_2, p1_2, p2_2⟩ := hp9
  rw [hr9]
  have hF_2 : FRM [73] [2] h g7_2 := FRM_tr hF_1 hG_2 (by decide) (by decide)
  rw [show (setO h 73 (fup (h 73) 2 0)) 73 18 = (h 73) 18 from rd_ (sOf_eq _ _ _) (fup_ne _ _ (by decide))] at p1_2
  rw [show (setO h 73 (fup (h 73) 2 0)) 73 18 = (h 73) 18 from rd_ (sOf_eq _ _ _) (fup_ne _ _ (by decide))] at p2_2
  show TT K ly 0 0 10 [(0, vR 73), (1, vI b), (2, vI w)] [vI z7_2] g7_2
  refine TT_if_ne hK (tgt := 16) (irm (by omega) (by omega)) dX12_band_10 (by decide) (fun hb10_3 => ?_) (fun hb10_3 => ?_)
  · refine TT_iload_n hK rfl 2 rfl dX12_band_16 ?_
    refine TT_if_ne hK (tgt := 29) (irm (by omega) (by omega)) dX12_band_17 (by decide) (fun hb17_4 => ?_) (fun hb17_4 => ?_)
    · refine TT_iload_n hK rfl 2 rfl dX12_band_29 ?_
      refine TT_iconst hK dX12_band_30 ?_
      refine TT_icmp_ne hK (tgt := 43) (irm (by omega) (by omega)) (by decide) dX12_band_31 (by decide) (fun hb31_5 => ?_) (fun hb31_5 => ?_)
      · refine TT_iload_n hK rfl 2 rfl dX12_band_43 ?_
        refine TT_iconst hK dX12_band_44 ?_
        refine TT_icmp_ne hK (tgt := 57) (irm (by omega) (by omega)) (by decide) dX12_band_45 (by decide) (fun hb45_6 => ?_) (fun hb45_6 => ?_)
        · refine TT_iload_n hK rfl 2 rfl dX12_band_57 ?_
          refine TT_iconst hK dX12_band_58 ?_
          refine TT_icmp_ne hK (tgt := 70) (irm (by omega) (by omega)) (by decide) dX12_band_59 (by decide) (fun hb59_7 => ?_) (fun hb59_7 => ?_)
          · refine TT_iload_n hK rfl 2 rfl dX12_band_70 ?_
            refine TT_iconst hK dX12_band_71 ?_
            refine TT_icmp_ne hK (tgt := 84) (irm (by omega) (by omega)) (by decide) dX12_band_72 (by decide) (fun hb72_8 => ?_) (fun hb72_8 => ?_)
            · refine TT_ldc hK lc_X12_128 dX12_band_84 ?_
              refine TT_iret hK hQ ?_ dX12_band_86
              exact ⟨⟨hT_2, hF_2⟩, (-100000), rfl, (by omega), (by first | exact (ABQ_n (by omega)).symm | exact ABQ_p (by omega) (by omega))⟩
            · refine TT_aload_n hK rfl 0 rfl dX12_band_75 ?_
              refine gf_X12_69 hK (by decide) rfl (q := 91) rfl rfl dX12_band_76 ?_
              refine TT_iload_n hK rfl 1 rfl dX12_band_79 ?_
              refine TT_iald hK (o := 91) (n := 10) (by decide) rfl (by first | omega | (simp [up, setR] <;> omega)) (by first | omega | (simp [up, setR] <;> omega)) (v := (h 91) b) (rd_ (((hG_2.1 91 (by decide))).trans (sOf_ne _ _ (by decide))) rfl) dX12_band_80 ?_
              have r9 := ty_91 (i := b) (v := (h 91) b) hT_2 (rd_ (((hG_2.1 91 (by decide))).trans (sOf_ne _ _ (by decide))) rfl) (by omega) (by omega)
              refine TT_goto hK (tgt := 86) dX12_band_81 (by decide) ?_
              refine TT_iret hK hQ ?_ dX12_band_86
              exact ⟨⟨hT_2, hF_2⟩, ((h 91) b), rfl, (by omega), (by first | exact (ABQ_n (by omega)).symm | exact ABQ_p (by omega) (by omega))⟩
          · refine TT_aload_n hK rfl 0 rfl dX12_band_62 ?_
            refine TT_iload_n hK rfl 1 rfl dX12_band_63 ?_
            refine iv_X12_296 hK (s_passesOf_x b g7_2 hT_2 (by first | omega | (simp [up, setR] <;> omega))) (by decide) rfl ⟨by decide, by decide⟩ (by decide) rfl rfl (Nat.le_of_ble_eq_true rfl) ⟨by decide, by decide⟩ dX12_band_64 ?_
            intro r9 g64_10 hp9
            obtain ⟨⟨hT_10, hG_10⟩, z64_10, hr9, hz_10, p1_10, p2_10⟩ := hp9
            rw [hr9]
            have hF_10 : FRM [73] [2] h g64_10 := FRM_tr hF_2 hG_10 (by decide) (by decide)
            rw [show g7_2 83 = h 83 from ((hG_2.1 83 (by decide))).trans (sOf_ne _ _ (by decide))] at p2_10
            have p2_at64 := p2_10
            show TT K ly 0 0 67 [(0, vR 73), (1, vI b), (2, vI w)] [vI z64_10] g64_10
            refine TT_goto hK (tgt := 86) dX12_band_67 (by decide) ?_
            refine TT_iret hK hQ ?_ dX12_band_86
            exact ⟨⟨hT_10, hF_10⟩, z64_10, rfl, (by omega), (by first | exact (ABQ_n (by omega)).symm | exact ABQ_p (by omega) (by omega))⟩
        · refine TT_aload_n hK rfl 0 rfl dX12_band_48 ?_
          refine gf_X12_44 hK (by decide) rfl (q := 83) rfl rfl dX12_band_49 ?_
          refine TT_iload_n hK rfl 1 rfl dX12_band_52 ?_
          refine TT_iald hK (o := 83) (n := 20) (by decide) rfl (by first | omega | (simp [up, setR] <;> omega)) (by first | omega | (simp [up, setR] <;> omega)) (v := (h 83) b) (rd_ (((hG_2.1 83 (by decide))).trans (sOf_ne _ _ (by decide))) rfl) dX12_band_53 ?_
          have r11 := ty_83 (i := b) (v := (h 83) b) hT_2 (rd_ (((hG_2.1 83 (by decide))).trans (sOf_ne _ _ (by decide))) rfl) (by omega) (by omega)
          refine TT_goto hK (tgt := 86) dX12_band_54 (by decide) ?_
          refine TT_iret hK hQ ?_ dX12_band_86
          exact ⟨⟨hT_2, hF_2⟩, ((h 83) b), rfl, (by omega), (by first | exact (ABQ_n (by omega)).symm | exact ABQ_p (by omega) (by omega))⟩
      · refine TT_aload_n hK rfl 0 rfl dX12_band_34 ?_
        refine gf_X12_38 hK (by decide) rfl (q := 81) rfl rfl dX12_band_35 ?_
        refine TT_iload_n hK rfl 1 rfl dX12_band_38 ?_
        refine TT_iald hK (o := 81) (n := 20) (by decide) rfl (by first | omega | (simp [up, setR] <;> omega)) (by first | omega | (simp [up, setR] <;> omega)) (v := (h 81) b) (rd_ (((hG_2.1 81 (by decide))).trans (sOf_ne _ _ (by decide))) rfl) dX12_band_39 ?_
        have r12 := ty_81 (i := b) (v := (h 81) b) hT_2 (rd_ (((hG_2.1 81 (by decide))).trans (sOf_ne _ _ (by decide))) rfl) (by omega) (by omega)
        refine TT_goto hK (tgt := 86) dX12_band_40 (by decide) ?_
        refine TT_iret hK hQ ?_ dX12_band_86
        exact ⟨⟨hT_2, hF_2⟩, ((h 81) b), rfl, (by omega), (by first | exact (ABQ_n (by omega)).symm | exact ABQ_p (by omega) (by omega))⟩
    · refine TT_aload_n hK rfl 0 rfl dX12_band_20 ?_
      refine gf_X12_35 hK (by decide) rfl (q := 80) rfl rfl dX12_band_21 ?_
      refine TT_iload_n hK rfl 1 rfl dX12_band_24 ?_
      refine TT_iald hK (o := 80) (n := 20) (by decide) rfl (by first | omega | (simp [up, setR] <;> omega)) (by first | omega | (simp [up, setR] <;> omega)) (v := (h 80) b) (rd_ (((hG_2.1 80 (by decide))).trans (sOf_ne _ _ (by decide))) rfl) dX12_band_25 ?_
      have r13 := ty_80 (i := b) (v := (h 80) b) hT_2 (rd_ (((hG_2.1 80 (by decide))).trans (sOf_ne _ _ (by decide))) rfl) (by omega) (by omega)
      refine TT_goto hK (tgt := 86) dX12_band_26 (by decide) ?_
      refine TT_iret hK hQ ?_ dX12_band_86
      exact ⟨⟨hT_2, hF_2⟩, ((h 80) b), rfl, (by omega), (by first | exact (ABQ_n (by omega)).symm | exact ABQ_p (by omega) (by omega))⟩
  · refine TT_ldc hK lc_X12_128 dX12_band_13 ?_
    refine TT_iret hK hQ ?_ dX12_band_15
    exact ⟨⟨hT_2, hF_2⟩, (-100000), rfl, (by omega), (by first | exact (ABQ_n (by omega)).symm | exact ABQ_p (by omega) (by omega))⟩

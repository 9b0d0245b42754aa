/-! the least lengths of all bands -/
theorem pas_34 {q : Int} (hq : 0 ≤ q ∧ q ≤ 12) : 0 ≤ pas q ∧ pas q ≤ 34 := by
  unfold pas
  split <;> omega
theorem LSP_c {B B' : Int → Int} {T : List (Int × Int)} {v n : Int} (hT : ∀ z, z ∈ T → 0 ≤ z.1 ∧ z.1 ≤ 18) (he : ∀ i : Int, 0 ≤ i → i < n → B' i = B i) (hv : v ≤ n) (h : LSP B T v) : LSP B' T v := by
  obtain ⟨h1, h2, h3⟩ := h
  have key : ∀ m : Int, m ≤ v → (RTM B' m T ↔ RTM B m T) := fun m hm => RTM_q (s1 := B') (s2 := B) (m := m) (sd := st0) (ld := fun _ => 0) (fun j j0 j1 => he j j0 (by omega)) (fun _ _ _ => rfl) (fun _ _ _ => rfl) hT
  exact ⟨h1, (key v (Int.le_refl v)).2 h2, fun m m0 m1 r => h3 m m0 m1 ((key m (by omega)).1 r)⟩
theorem LSP_le {B : Int → Int} {T : List (Int × Int)} {v n : Int} (hn : 0 ≤ n) (hr : RTM B n T) (h : LSP B T v) : v ≤ n := by
  by_cases c : v ≤ n
  · exact c
  · exact absurd hr (h.2.2 n hn (by omega))
theorem CWR_n {M : Int → Int} {s : TS_} {w g kd q n : Int} {B : Int → Int} (hs : TS0 s) (hC : CWR M s w g kd q B n) : 0 ≤ n := by
  by_cases z : q = 0
  · rw [hC.1 z]; exact Int.le_refl 0
  · obtain ⟨E, hE, h1, h2⟩ := hC.2 z
    have k := tlF_by (psN M kd w g q (pas q).toNat s).2.2.2 (E := E) (by rw [hE.2.2.2.1]; decide) (fun j j0 j1 => by rw [hE.2.2.2.1] at j1; rw [show j = 0 by omega, hE.2.2.2.2.2.2]; omega)
    have c := (endS_q (a := (tlF (psN M kd w g q (pas q).toNat s).2.2.2 E).1) (c := (tlF (psN M kd w g q (pas q).toNat s).2.2.2 E).2.1) (t := (tlF (psN M kd w g q (pas q).toNat s).2.2.2 E).2.2.1) (AGR_rf (tlF (psN M kd w g q (pas q).toNat s).2.2.2 E).2.2.2.1 (tlF (psN M kd w g q (pas q).toNat s).2.2.2 E).2.2.2.2.2.2) k.1).1
    have c2 : (endE (tlF (psN M kd w g q (pas q).toNat s).2.2.2 E)).2.2.1 = (tlF (psN M kd w g q (pas q).toNat s).2.2.2 E).2.2.2.1 + 2 := c
    have k1 := k.1
    rw [c2] at h1
    split at h1 <;> omega
theorem TL_x {M : Int → Int} {s : TS_} {w g kd q p : Int} (hs : TS0 s) : ∀ z, z ∈ TLp M s w g kd q p → 0 ≤ z.1 ∧ z.1 ≤ 18 := fun z hz => (EVR_ps M kd w g q _ (EVR_0 hs) z hz).1
theorem LSX_c {M : Int → Int} {s : TS_} {w g kd q n o : Int} {B B' ll ll' : Int → Int} (hs : TS0 s) (hC : CWR M s w g kd q B n) (he : ∀ i : Int, 0 ≤ i → i < n → B' i = B i) (hl : ∀ j : Int, 1 ≤ j → j ≤ pas q → ll' (o + j) = ll (o + j)) (h : LSX M s w g kd q B ll o (pas q + 1)) : LSX M s w g kd q B' ll' o (pas q + 1) := by
  intro j j1 j2
  have hq : q ≠ 0 := fun z => by
    have p0 : pas q = 0 := (by rw [z]; exact if_pos rfl)
    omega
  have k := h j j1 j2
  rw [hl j j1 (by omega)]
  exact LSP_c (TL_x hs) he (LSP_le (CWR_n hs hC) (WRT hs hC hq (by omega)) k) k
def LSC (N : Int → Int → Int) (w g kd q : Int) (B : Int → Int) (n : Int) (ll : Int → Int) (o : Int) : Prop := (0 ≤ q ∧ q ≤ 12) ∧ ∃ (M : Int → Int) (s : TS_), (q ≠ 0 → MRN N w g M) ∧ TS0 s ∧ CWR M s w g kd q B n ∧ LSX M s w g kd q B ll o (pas q + 1) ∧ ll o = 0
def LSQ (W H : Int) (f : Int → Int) (l n : Int) (pl cd cs cl ll : Int → Int) : Prop := ∀ c : Int, 0 ≤ c → c < n → LSC (NBE W H f l c) (BW W l c) (BH H l c) (kdB c) (pl c) (fun i => cd (cs c + i)) (cl c) ll (35 * c)
theorem LSC_c {N : Int → Int → Int} {w g kd q n o : Int} {B B' ll ll' : Int → Int} (h : LSC N w g kd q B n ll o) (he : ∀ i : Int, 0 ≤ i → i < n → B' i = B i) (hl : ∀ j : Int, 0 ≤ j → j ≤ 34 → ll' (o + j) = ll (o + j)) : LSC N w g kd q B' n ll' o := by
  obtain ⟨hq, M, s, h1, h2, h3, h4, h5⟩ := h
  have p := pas_34 hq
  have l0 := hl 0 (by decide) (by decide)
  rw [Int.add_zero] at l0
  exact ⟨hq, M, s, h1, h2, CWR_c h3 he, LSX_c h2 h3 he (fun j j1 j2 => hl j (by omega) (by omega)) h4, by rw [l0]; exact h5⟩
theorem LSQ_s {W H l b z L : Int} {f pl pl' cd cd' cs cs' cl cl' ll ll' wd gd M : Int → Int} {N : Int → Int → Int} {s : TS_} (h : LSQ W H f l b pl cd cs cl ll) (hF : ∀ c : Int, 0 ≤ c → c < b → 0 ≤ cs c ∧ cs c + cl c ≤ L) (e16 : pl' = fup pl b z) (e17 : cs' = fup cs b L) (hcl : ∀ j : Int, j ≠ b → cl' j = cl j) (hcd : ∀ j : Int, j < L → cd' j = cd j) (h19 : ∀ j : Int, j < 35 * b → ll' j = ll j)
    (hq : 0 ≤ pl' b ∧ pl' b ≤ 12) (hm : pl' b ≠ 0 → MRN N (wd b) (gd b) M) (hs : TS0 s) (hC : CWR M s (wd b) (gd b) (kdB b) (pl' b) (fun i => cd' (cs' b + i)) (cl' b)) (hX : LSX M s (wd b) (gd b) (kdB b) (pl' b) (fun i => cd' (cs' b + i)) ll' (35 * b) (pas (pl' b) + 1)) (h8 : ll' (35 * b) = 0)
    (hN : ∀ x y : Int, 0 ≤ x → x < BW W l b → 0 ≤ y → y < BH H l b → N x y = NBE W H f l b x y) (ew : wd b = BW W l b ∧ gd b = BH H l b) : LSQ W H f l (b + 1) pl' cd' cs' cl' ll' := by
  intro c c1 c2
  by_cases e : c = b
  · subst e
    rw [ew.1, ew.2] at hm hC hX
    exact ⟨hq, M, s, fun z x y a1 a2 a3 a4 => by rw [hm z x y a1 a2 a3 a4, hN x y a1 a2 a3 a4], hs, hC, hX, h8⟩
  · have k := h c c1 (by omega)
    have kF := hF c c1 (by omega)
    rw [e16, e17, fup_ne _ _ e, fup_ne _ _ e, hcl c e]
    exact LSC_c k (fun i i1 i2 => hcd _ (by omega)) (fun j j1 j2 => h19 _ (by omega))
theorem CWK_c {M : Int → Int} {s : TS_} {w g kd q n tn tp : Int} {tc tb te : Int → Int} {cs : Int → Int} {b L : Int} {cd : Int → Int} (h : CWK M s w g kd q (fun i => cd (L + i)) n tn tp tc tb te) (e : cs b = L) : CWK M s w g kd q (fun i => cd (cs b + i)) n tn tp tc tb te := by
  rw [e]
  exact h
/-- the reference's bands -/
def LXQ (Mf : Int → Int → Int) (sf : Int → TS_) (W H l n : Int) (pl wd wa ll : Int → Int) : Prop := ∀ c : Int, 0 ≤ c → c < n → LSX (Mf c) (sf c) (BW W l c) (BH H l c) (kdB c) (pl c) (fun i => wd (wa c + i)) ll (35 * c) (pas (pl c) + 1) ∧ ll (35 * c) = 0
theorem LXQ_s {Mf : Int → Int → Int} {sf : Int → TS_} {W H l b F : Int} {f pl pl' wd wd' wa wz ll ll' : Int → Int} (h : LXQ Mf sf W H l b pl wd wa ll) (hW : CWQ Mf sf W H f l b pl wd wa wz) (hsf : ∀ c : Int, TS0 (sf c)) (hpl : ∀ j : Int, j ≠ b → pl' j = pl j) (hwd : ∀ j : Int, j < F → wd' j = wd j) (hF : ∀ c : Int, 0 ≤ c → c < b → wa c + wz c ≤ F) (h19 : ∀ j : Int, j < 35 * b → ll' j = ll j)
    (hX : LSX (Mf b) (sf b) (BW W l b) (BH H l b) (kdB b) (pl' b) (fun i => wd' (F + i)) ll' (35 * b) (pas (pl' b) + 1)) (h8 : ll' (35 * b) = 0) : LXQ Mf sf W H l (b + 1) pl' wd' (fup wa b F) ll' := by
  intro c c1 c2
  by_cases e : c = b
  · subst e
    rw [fup_eq]
    exact ⟨hX, h8⟩
  · have k := h c c1 (by omega)
    have kW := hW c c1 (by omega)
    have kF := hF c c1 (by omega)
    have p := pas_34 kW.2.1
    rw [fup_ne _ _ e, hpl c e]
    exact ⟨LSX_c (hsf c) kW.1 (fun i i1 i2 => hwd _ (by omega)) (fun j j1 j2 => h19 _ (by omega)) k.1, by rw [h19 _ (by omega)]; exact k.2⟩
theorem ENC_lx {M B ll wd hd kf : Int → Int} {s : TS_} {b w g q o n : Int} (h : LSX M s (wd b) (hd b) (kf b) q B ll o n) (ew : wd b = w) (eg : hd b = g) (ek : kf b = kdB b) : LSX M s w g (kdB b) q B ll o n := by
  rw [ew, eg, ek] at h
  exact h
/-- both sides' least lengths -/
theorem LS_eq {M : Int → Int} {s : TS_} {w g kd q n o o' : Int} {B B' ll ll' : Int → Int} (hs : TS0 s) (hC : CWR M s w g kd q B n) (he : ∀ i : Int, 0 ≤ i → i < n → B' i = B i) (h : LSX M s w g kd q B ll o (pas q + 1)) (h0 : ll o = 0) (h' : LSX M s w g kd q B' ll' o' (pas q + 1)) (h0' : ll' o' = 0) : ∀ p : Int, 0 ≤ p → p ≤ pas q → ll (o + p) = ll' (o' + p) := by
  intro p p0 p1
  by_cases z : p = 0
  · rw [z, Int.add_zero, Int.add_zero, h0, h0']
  · exact LSP_u ((LSX_c hs hC he (fun _ _ _ => rfl) h) p (by omega) (by omega)) (h' p (by omega) (by omega))
def LLV (b p cnt : Int) (pl ll : Int → Int) : Int := if (0 ≤ b ∧ b < cnt) ∧ 0 ≤ p ∧ p ≤ pas (pl b) then ll (35 * b + p) else -100000
theorem LLV_n {b p cnt : Int} {pl ll : Int → Int} (h : ¬((0 ≤ b ∧ b < cnt) ∧ 0 ≤ p ∧ p ≤ pas (pl b))) : -100000 = LLV b p cnt pl ll := (if_neg h).symm
theorem LLV_p {b p cnt z : Int} {pl ll : Int → Int} (h : (0 ≤ b ∧ b < cnt) ∧ 0 ≤ p ∧ p ≤ pas (pl b)) (hz : z = ll (35 * b + p)) : z = LLV b p cnt pl ll := by
  unfold LLV
  rw [if_pos h, hz]
set_option maxRecDepth 20000 in
theorem s_pack_z (l n : Int) (h : Hp_) (hT : TY h) (hl : 0 ≤ l ∧ l ≤ 3) (hn : 1 ≤ n ∧ n ≤ 3) (hbd : BDQ (h 10) (h 12) (h 11) (h 13)) (hsd : (1 ≤ (h 1 1) ∧ (h 1 1) ≤ 8) ∧ (1 ≤ (h 1 2) ∧ (h 1 2) ≤ 8)) : Ctr yX3_pack cX3_pack 7 none (rmd 6) ly ly 0 0 [vR 7, vR 1, vI l, vI n, vR 5] h (fun r h' => (TY h' ∧ FR [5, 6, 8, 9, 10, 11, 12, 13, 14, 15, 16, 17, 18, 19, 20, 21, 22, 23, 24, 25, 26, 27, 28, 29, 30, 31, 32, 33, 34, 36, 37, 38, 39, 41, 42, 43] h h') ∧ r = none ∧ (BDQ (h' 10) (h' 12) (h' 11) (h' 13)) ∧ ((h' 8 10) = 3 * l + 1) ∧ (∀ b : Int, 0 ≤ b → b < 3 * l + 1 → (h' 12) b = BW (h 1 1) l b ∧ (h' 13) b = BH (h 1 2) l b) ∧ (∀ b x2 y2 : Int, 0 ≤ b → b < 3 * l + 1 → 0 ≤ x2 → x2 < BW (h 1 1) l b → 0 ≤ y2 → y2 < BH (h 1 2) l b → (h' 9) (((h' 11) b + y2) * 8 + (h' 10) b + x2) = LE (h 1 1) (h 1 2) (fun i => (h 2) i - 128) l (8 * CY (h 1 2) l b + CX (h 1 1) l b + 8 * y2 + x2)) ∧ (CPQ (h 1 1) (h 1 2) (fun i => (h 2) i - 128) l (3 * l + 1) (h' 16) (h' 23) (h' 17) (h' 18)) ∧ (∀ c : Int, 0 ≤ c → c < (3 * l + 1) → 0 ≤ (h' 17) c ∧ (h' 17) c + (h' 18) c ≤ (h' 22 1)) ∧ (LSQ (h 1 1) (h 1 2) (fun i => (h 2) i - 128) l (3 * l + 1) (h' 16) (h' 23) (h' 17) (h' 18) (h' 19))) := by
  refine Ctr_of (by decide) (Nat.le_of_ble_eq_true rfl) ⟨Nat.le_refl _, Nat.le_refl _⟩ (fun K hK hQ _ => ?_)
  show TT K ly 0 0 0 [(0, vR 7), (1, vR 1), (2, vI l), (3, vI n), (4, vR 5)] [] h
  have hF : FR [5, 6, 8, 9, 10, 11, 12, 13, 14, 15, 16, 17, 18, 19, 20, 21, 22, 23, 24, 25, 26, 27, 28, 29, 30, 31, 32, 33, 34, 36, 37, 38, 39, 41, 42, 43] h h := FR_rf _ _
  have rW := hsd.1
  have rH := hsd.2
  have hp2 : ∀ j : Int, 0 ≤ j → j < 64 → -128 ≤ h 2 j - 128 ∧ h 2 j - 128 ≤ 128 := fun j h0 h1 => by have := ty_2 (i := j) (v := h 2 j) hT rfl h0 h1; omega
  have bq := LE_LV (f := (fun i => h 2 i - 128)) rW rH (l := l) (by omega) hp2
  refine TT_aload_n hK rfl 0 rfl dX3_pack_0 ?_
  refine gf_X3_12 hK (by decide) rfl (q := 8) rfl rfl dX3_pack_1 ?_
  refine TT_aload_n hK rfl 1 rfl dX3_pack_4 ?_
  refine gf_X3_95 hK (by decide) rfl (v := (h 1) 1) rfl dX3_pack_5 ?_
  have r1 := ty_1_1 (v := (h 1) 1) hT rfl
  refine TT_aload_n hK rfl 1 rfl dX3_pack_8 ?_
  refine gf_X3_101 hK (by decide) rfl (v := (h 1) 2) rfl dX3_pack_9 ?_
  have r2 := ty_1_2 (v := (h 1) 2) hT rfl
  refine TT_iload_n hK rfl 2 rfl dX3_pack_12 ?_
  refine iv_X3_104 hK (s_lay_x ((h 1) 1) ((h 1) 2) l h hT (by first | omega | (simp [up, setR] <;> omega)) (by first | omega | (simp [up, setR] <;> omega)) (by first | omega | (simp [up, setR] <;> omega)) (by first | assumption | exact hbd)) (by decide) rfl ⟨by decide, by decide⟩ (by decide) rfl rfl (Nat.le_of_ble_eq_true rfl) ⟨by decide, by decide⟩ dX3_pack_13 ?_
  intro r9 g13_3 hp9
  obtain ⟨⟨hT_3, hG_3⟩, hr9, p1_3, k1_3, lay_3⟩ := hp9
  rw [hr9]
  have hF_3 : FR [5, 6, 8, 9, 10, 11, 12, 13, 14, 15, 16, 17, 18, 19, 20, 21, 22, 23, 24, 25, 26, 27, 28, 29, 30, 31, 32, 33, 34, 36, 37, 38, 39, 41, 42, 43] h g13_3 := FR_tr hF hG_3 (by decide)
  have k1_at13 := k1_3
  have lay_at13 := lay_3
  show TT K ly 0 0 16 [(0, vR 7), (1, vR 1), (2, vI l), (3, vI n), (4, vR 5)] [] g13_3
  refine TT_aload_n hK rfl 0 rfl dX3_pack_16 ?_
  refine gf_X3_12 hK (by decide) rfl (q := 8) rfl rfl dX3_pack_17 ?_
  refine TT_aload_n hK rfl 1 rfl dX3_pack_20 ?_
  have e4_1_1 : g13_3 1 1 = (h 1) 1 := rd_ (hG_3 1 (by decide)) rfl
  have e5_8_7 : g13_3 8 7 = (g13_3 8) 7 := rfl
  have e6_1_2 : g13_3 1 2 = (h 1) 2 := rd_ (hG_3 1 (by decide)) rfl
  have e7_8_8 : g13_3 8 8 = (g13_3 8) 8 := rfl
  refine iv_X3_108 hK (s_readPicture_x g13_3 hT_3 (by rewrite [e4_1_1, e5_8_7]; exact k1_at13.1) (by rewrite [e6_1_2, e7_8_8]; exact k1_at13.2.1)) (by decide) rfl ⟨by decide, by decide⟩ (by decide) rfl rfl (Nat.le_of_ble_eq_true rfl) ⟨by decide, by decide⟩ dX3_pack_21 ?_
  intro r9 g21_8 hp9
  obtain ⟨⟨hT_8, hG_8⟩, hr9, rx_8⟩ := hp9
  rw [hr9]
  have hF_8 : FR [5, 6, 8, 9, 10, 11, 12, 13, 14, 15, 16, 17, 18, 19, 20, 21, 22, 23, 24, 25, 26, 27, 28, 29, 30, 31, 32, 33, 34, 36, 37, 38, 39, 41, 42, 43] h g21_8 := FR_tr hF_3 hG_8 (by decide)
  rw [show g13_3 2 = h 2 from (hG_3 2 (by decide))] at rx_8
  rw [show g13_3 8 7 = (g13_3 8) 7 from rfl] at rx_8
  rw [show g13_3 8 8 = (g13_3 8) 8 from rfl] at rx_8
  have rx_at21 := rx_8
  show TT K ly 0 0 24 [(0, vR 7), (1, vR 1), (2, vI l), (3, vI n), (4, vR 5)] [] g21_8
  refine TT_aload_n hK rfl 0 rfl dX3_pack_24 ?_
  refine gf_X3_12 hK (by decide) rfl (q := 8) rfl rfl dX3_pack_25 ?_
  have e9_8_7 : g21_8 8 7 = (g13_3 8) 7 := rd_ (hG_8 8 (by decide)) rfl
  have e10_8_8 : g21_8 8 8 = (g13_3 8) 8 := rd_ (hG_8 8 (by decide)) rfl
  have e11_2 : g21_8 2 = h 2 := ((hG_8 2 (by decide))).trans (hG_3 2 (by decide))
  have e12_8_7 : g21_8 8 7 = (g13_3 8) 7 := rd_ (hG_8 8 (by decide)) rfl
  have e13_8_8 : g21_8 8 8 = (g13_3 8) 8 := rd_ (hG_8 8 (by decide)) rfl
  refine iv_X3_112 hK (s_goForth_x g21_8 hT_8 (by rewrite [e9_8_7, e10_8_8]; rw [k1_at13.1, k1_at13.2.1]; exact hsd) (by rewrite [e11_2, e12_8_7, e13_8_8]; intro i h0 h1 h2 h3; have k9 := rx_at21 (i % 8) (i / 8) (by omega) h2 (by omega) h3; rw [show i / 8 * 8 + i % 8 = i by omega] at k9; exact k9)) (by decide) rfl ⟨by decide, by decide⟩ (by decide) rfl rfl (Nat.le_of_ble_eq_true rfl) ⟨by decide, by decide⟩ dX3_pack_28 ?_
  intro r9 g28_14 hp9
  obtain ⟨⟨hT_14, hG_14⟩, hr9, p1_14⟩ := hp9
  rw [hr9]
  have hF_14 : FR [5, 6, 8, 9, 10, 11, 12, 13, 14, 15, 16, 17, 18, 19, 20, 21, 22, 23, 24, 25, 26, 27, 28, 29, 30, 31, 32, 33, 34, 36, 37, 38, 39, 41, 42, 43] h g28_14 := FR_tr hF_8 hG_14 (by decide)
  rw [show g21_8 2 = h 2 from ((hG_8 2 (by decide))).trans (hG_3 2 (by decide))] at p1_14
  rw [show g21_8 8 7 = (g13_3 8) 7 from rd_ (hG_8 8 (by decide)) rfl] at p1_14
  rw [show g21_8 8 8 = (g13_3 8) 8 from rd_ (hG_8 8 (by decide)) rfl] at p1_14
  rw [show g21_8 8 9 = (g13_3 8) 9 from rd_ (hG_8 8 (by decide)) rfl] at p1_14
  have p1_at28 := p1_14
  show TT K ly 0 0 31 [(0, vR 7), (1, vR 1), (2, vI l), (3, vI n), (4, vR 5)] [] g28_14
  refine TT_aload_n hK rfl 0 rfl dX3_pack_31 ?_
  refine gf_X3_40 hK (by decide) rfl (q := 22) rfl rfl dX3_pack_32 ?_
  refine iv_X3_115 hK (s_clear22_e g28_14 hT_14 ) (by decide) rfl ⟨by decide, by decide⟩ (by decide) rfl rfl (Nat.le_of_ble_eq_true rfl) ⟨by decide, by decide⟩ dX3_pack_35 ?_
  intro r9 g35_15 hp9
  obtain ⟨⟨hT_15, hG_15⟩, hr9, e_15⟩ := hp9
  rw [hr9]
  have hF_15 : FR [5, 6, 8, 9, 10, 11, 12, 13, 14, 15, 16, 17, 18, 19, 20, 21, 22, 23, 24, 25, 26, 27, 28, 29, 30, 31, 32, 33, 34, 36, 37, 38, 39, 41, 42, 43] h g35_15 := FR_tr hF_14 hG_15 (by decide)
  have e_at35 := e_15
  show TT K ly 0 0 38 [(0, vR 7), (1, vR 1), (2, vI l), (3, vI n), (4, vR 5)] [] g35_15
  refine TT_iconst hK dX3_pack_38 ?_
  refine TT_istore hK (lv' := [(5, vI 0), (0, vR 7), (1, vR 1), (2, vI l), (3, vI n), (4, vR 5)]) (by decide) rfl dX3_pack_39 ?_
  have L41_16 : ∀ (k16 : Nat) (b : Int) (w41_16 : Hp_), TY w41_16 → FR [5, 6, 8, 9, 10, 11, 12, 13, 14, 15, 16, 17, 18, 19, 20, 21, 22, 23, 24, 25, 26, 27, 28, 29, 30, 31, 32, 33, 34, 36, 37, 38, 39, 41, 42, 43] h w41_16 → (0 ≤ b ∧ b ≤ 10) → (BDQ (w41_16 10) (w41_16 12) (w41_16 11) (w41_16 13)) → ((w41_16 8 10) = 3 * l + 1) → (∀ b : Int, 0 ≤ b → b < 3 * l + 1 → (w41_16 12) b = BW (h 1 1) l b ∧ (w41_16 13) b = BH (h 1 2) l b) → (∀ b x2 y2 : Int, 0 ≤ b → b < 3 * l + 1 → 0 ≤ x2 → x2 < BW (h 1 1) l b → 0 ≤ y2 → y2 < BH (h 1 2) l b → (w41_16 9) (((w41_16 11) b + y2) * 8 + (w41_16 10) b + x2) = LE (h 1 1) (h 1 2) (fun i => h 2 i - 128) l (8 * CY (h 1 2) l b + CX (h 1 1) l b + 8 * y2 + x2)) → (b ≤ 3 * l + 1) → (0 ≤ (w41_16 22 1) ∧ (w41_16 22 1) ≤ 13 * IS (AR (h 1 1) (h 1 2) l) b + 2 * b) → (CPQ (h 1 1) (h 1 2) (fun i => h 2 i - 128) l b (w41_16 16) (w41_16 23) (w41_16 17) (w41_16 18)) → (∀ c : Int, 0 ≤ c → c < b → 0 ≤ (w41_16 17) c ∧ (w41_16 17) c + (w41_16 18) c ≤ (w41_16 22 1)) → (LSQ (h 1 1) (h 1 2) (fun i => h 2 i - 128) l b (w41_16 16) (w41_16 23) (w41_16 17) (w41_16 18) (w41_16 19)) → ((10 : Int) - b).toNat < k16 → TT K ly 0 0 41 [(0, vR 7), (1, vR 1), (2, vI l), (3, vI n), (4, vR 5), (5, vI b)] [] w41_16 := by
    intro k16
    induction k16 with
    | zero => intro b w41_16 hT41_16 hF41_16 hb hbd2 kcn hbw hnm hb3 hL hcp hca hlq hk16; exact absurd hk16 (Nat.not_lt_zero _)
    | succ k16 ih16 =>
      intro b w41_16 hT41_16 hF41_16 hb hbd2 kcn hbw hnm hb3 hL hcp hca hlq hk16
      refine TT_iload hK 5 rfl dX3_pack_41 ?_
      refine TT_aload_n hK rfl 0 rfl dX3_pack_43 ?_
      refine gf_X3_12 hK (by decide) rfl (q := 8) rfl rfl dX3_pack_44 ?_
      refine gf_X3_118 hK (by decide) rfl (v := (w41_16 8) 10) rfl dX3_pack_47 ?_
      have r17 := ty_8_10 (v := (w41_16 8) 10) hT41_16 rfl
      refine TT_icmp_ge hK (tgt := 100) (irm (by omega) (by omega)) (irm (by omega) (by omega)) dX3_pack_50 (by decide) (fun hb50_18 => ?_) (fun hb50_18 => ?_)
      · refine TT_aload hK 4 rfl dX3_pack_100 ?_
        refine iv_X3_115 hK (s_X1_clear_5 w41_16 hT41_16 ) (by decide) rfl ⟨by decide, by decide⟩ (by decide) rfl rfl (Nat.le_of_ble_eq_true rfl) ⟨by decide, by decide⟩ dX3_pack_102 ?_
        intro r9 g102_19 hp9
        obtain ⟨⟨hT_19, hG_19⟩, hr9⟩ := hp9
        rw [hr9]
        have hF_19 : FR [5, 6, 8, 9, 10, 11, 12, 13, 14, 15, 16, 17, 18, 19, 20, 21, 22, 23, 24, 25, 26, 27, 28, 29, 30, 31, 32, 33, 34, 36, 37, 38, 39, 41, 42, 43] h g102_19 := FR_tr hF41_16 hG_19 (by decide)
        show TT K ly 0 0 105 [(0, vR 7), (1, vR 1), (2, vI l), (3, vI n), (4, vR 5), (5, vI b)] [] g102_19
        refine TT_aload hK 4 rfl dX3_pack_105 ?_
        refine TT_aload_n hK rfl 1 rfl dX3_pack_107 ?_
        refine gf_X3_95 hK (by decide) rfl (v := (h 1) 1) (rd_ (((hG_19 1 (by decide))).trans (hF41_16 1 (by decide))) rfl) dX3_pack_108 ?_
        have r20 := ty_1_1 (v := (h 1) 1) hT_19 (rd_ (((hG_19 1 (by decide))).trans (hF41_16 1 (by decide))) rfl)
        refine iv_X3_131 hK (s_X1_add_5 ((h 1) 1) g102_19 hT_19 (by first | omega | (simp [up, setR] <;> omega))) (by decide) rfl ⟨by decide, by decide⟩ (by decide) rfl rfl (Nat.le_of_ble_eq_true rfl) ⟨by decide, by decide⟩ dX3_pack_111 ?_
        intro r9 g111_21 hp9
        obtain ⟨⟨hT_21, hG_21⟩, hr9⟩ := hp9
        rw [hr9]
        have hF_21 : FR [5, 6, 8, 9, 10, 11, 12, 13, 14, 15, 16, 17, 18, 19, 20, 21, 22, 23, 24, 25, 26, 27, 28, 29, 30, 31, 32, 33, 34, 36, 37, 38, 39, 41, 42, 43] h g111_21 := FR_tr hF_19 hG_21 (by decide)
        show TT K ly 0 0 114 [(0, vR 7), (1, vR 1), (2, vI l), (3, vI n), (4, vR 5), (5, vI b)] [] g111_21
        refine TT_aload hK 4 rfl dX3_pack_114 ?_
        refine TT_aload_n hK rfl 1 rfl dX3_pack_116 ?_
        refine gf_X3_101 hK (by decide) rfl (v := (h 1) 2) (rd_ (((hG_21 1 (by decide))).trans (((hG_19 1 (by decide))).trans (hF41_16 1 (by decide)))) rfl) dX3_pack_117 ?_
        have r22 := ty_1_2 (v := (h 1) 2) hT_21 (rd_ (((hG_21 1 (by decide))).trans (((hG_19 1 (by decide))).trans (hF41_16 1 (by decide)))) rfl)
        refine iv_X3_131 hK (s_X1_add_5 ((h 1) 2) g111_21 hT_21 (by first | omega | (simp [up, setR] <;> omega))) (by decide) rfl ⟨by decide, by decide⟩ (by decide) rfl rfl (Nat.le_of_ble_eq_true rfl) ⟨by decide, by decide⟩ dX3_pack_120 ?_
        intro r9 g120_23 hp9
        obtain ⟨⟨hT_23, hG_23⟩, hr9⟩ := hp9
        rw [hr9]
        have hF_23 : FR [5, 6, 8, 9, 10, 11, 12, 13, 14, 15, 16, 17, 18, 19, 20, 21, 22, 23, 24, 25, 26, 27, 28, 29, 30, 31, 32, 33, 34, 36, 37, 38, 39, 41, 42, 43] h g120_23 := FR_tr hF_21 hG_23 (by decide)
        show TT K ly 0 0 123 [(0, vR 7), (1, vR 1), (2, vI l), (3, vI n), (4, vR 5), (5, vI b)] [] g120_23
        refine TT_aload hK 4 rfl dX3_pack_123 ?_
        refine TT_iload_n hK rfl 2 rfl dX3_pack_125 ?_
        refine iv_X3_131 hK (s_X1_add_5 l g120_23 hT_23 (by first | omega | (simp [up, setR] <;> omega))) (by decide) rfl ⟨by decide, by decide⟩ (by decide) rfl rfl (Nat.le_of_ble_eq_true rfl) ⟨by decide, by decide⟩ dX3_pack_126 ?_
        intro r9 g126_24 hp9
        obtain ⟨⟨hT_24, hG_24⟩, hr9⟩ := hp9
        rw [hr9]
        have hF_24 : FR [5, 6, 8, 9, 10, 11, 12, 13, 14, 15, 16, 17, 18, 19, 20, 21, 22, 23, 24, 25, 26, 27, 28, 29, 30, 31, 32, 33, 34, 36, 37, 38, 39, 41, 42, 43] h g126_24 := FR_tr hF_23 hG_24 (by decide)
        show TT K ly 0 0 129 [(0, vR 7), (1, vR 1), (2, vI l), (3, vI n), (4, vR 5), (5, vI b)] [] g126_24
        refine TT_aload hK 4 rfl dX3_pack_129 ?_
        refine TT_iload_n hK rfl 3 rfl dX3_pack_131 ?_
        refine iv_X3_131 hK (s_X1_add_5 n g126_24 hT_24 (by first | omega | (simp [up, setR] <;> omega))) (by decide) rfl ⟨by decide, by decide⟩ (by decide) rfl rfl (Nat.le_of_ble_eq_true rfl) ⟨by decide, by decide⟩ dX3_pack_132 ?_
        intro r9 g132_25 hp9
        obtain ⟨⟨hT_25, hG_25⟩, hr9⟩ := hp9
        rw [hr9]
        have hF_25 : FR [5, 6, 8, 9, 10, 11, 12, 13, 14, 15, 16, 17, 18, 19, 20, 21, 22, 23, 24, 25, 26, 27, 28, 29, 30, 31, 32, 33, 34, 36, 37, 38, 39, 41, 42, 43] h g132_25 := FR_tr hF_24 hG_25 (by decide)
        show TT K ly 0 0 135 [(0, vR 7), (1, vR 1), (2, vI l), (3, vI n), (4, vR 5), (5, vI b)] [] g132_25
        refine TT_iconst hK dX3_pack_135 ?_
        refine TT_istore hK (lv' := [(5, vI 1), (0, vR 7), (1, vR 1), (2, vI l), (3, vI n), (4, vR 5)]) (by decide) rfl dX3_pack_136 ?_
        have L138_26 : ∀ (k26 : Nat) (y1 : Int) (w138_26 : Hp_), TY w138_26 → FR [5, 6, 8, 9, 10, 11, 12, 13, 14, 15, 16, 17, 18, 19, 20, 21, 22, 23, 24, 25, 26, 27, 28, 29, 30, 31, 32, 33, 34, 36, 37, 38, 39, 41, 42, 43] h w138_26 → (1 ≤ y1 ∧ y1 ≤ 4) → (BDQ (w138_26 10) (w138_26 12) (w138_26 11) (w138_26 13)) → ((w138_26 8 10) = 3 * l + 1) → (∀ b : Int, 0 ≤ b → b < 3 * l + 1 → (w138_26 12) b = BW (h 1 1) l b ∧ (w138_26 13) b = BH (h 1 2) l b) → (∀ b x2 y2 : Int, 0 ≤ b → b < 3 * l + 1 → 0 ≤ x2 → x2 < BW (h 1 1) l b → 0 ≤ y2 → y2 < BH (h 1 2) l b → (w138_26 9) (((w138_26 11) b + y2) * 8 + (w138_26 10) b + x2) = LE (h 1 1) (h 1 2) (fun i => h 2 i - 128) l (8 * CY (h 1 2) l b + CX (h 1 1) l b + 8 * y2 + x2)) → (CPQ (h 1 1) (h 1 2) (fun i => h 2 i - 128) l (3 * l + 1) (w138_26 16) (w138_26 23) (w138_26 17) (w138_26 18)) → (∀ c : Int, 0 ≤ c → c < (3 * l + 1) → 0 ≤ (w138_26 17) c ∧ (w138_26 17) c + (w138_26 18) c ≤ (w138_26 22 1)) → (LSQ (h 1 1) (h 1 2) (fun i => h 2 i - 128) l (3 * l + 1) (w138_26 16) (w138_26 23) (w138_26 17) (w138_26 18) (w138_26 19)) → ((4 : Int) - y1).toNat < k26 → TT K ly 0 0 138 [(0, vR 7), (1, vR 1), (2, vI l), (3, vI n), (4, vR 5), (5, vI y1)] [] w138_26 := by
          intro k26
          induction k26 with
          | zero => intro y1 w138_26 hT138_26 hF138_26 hy1 hbd3 kcn hbw hnm hcp hca hlq hk26; exact absurd hk26 (Nat.not_lt_zero _)
          | succ k26 ih26 =>
            intro y1 w138_26 hT138_26 hF138_26 hy1 hbd3 kcn hbw hnm hcp hca hlq hk26
            refine TT_iload hK 5 rfl dX3_pack_138 ?_
            refine TT_iload_n hK rfl 3 rfl dX3_pack_140 ?_
            refine TT_icmp_gt hK (tgt := 176) (irm (by omega) (by omega)) (irm (by omega) (by omega)) dX3_pack_141 (by decide) (fun hb141_27 => ?_) (fun hb141_27 => ?_)
            · refine TT_vret hK hQ ?_ dX3_pack_176
              have e28_8_10 : w138_26 8 10 = (w138_26 8) 10 := rfl
              have e29_22_1 : w138_26 22 1 = (w138_26 22) 1 := rfl
              exact ⟨⟨hT138_26, hF138_26⟩, rfl, (by assumption), (by rewrite [e28_8_10]; exact kcn), (by exact hbw), (by exact hnm), (by exact hcp), (by rewrite [e29_22_1]; exact hca), (by exact hlq)⟩
            · refine TT_iconst hK dX3_pack_144 ?_
              refine TT_istore hK (lv' := [(6, vI 0), (0, vR 7), (1, vR 1), (2, vI l), (3, vI n), (4, vR 5), (5, vI y1)]) (by decide) rfl dX3_pack_145 ?_
              have L147_30 : ∀ (k30 : Nat) (r1 : Int) (w147_30 : Hp_), TY w147_30 → FR [5, 6, 8, 9, 10, 11, 12, 13, 14, 15, 16, 17, 18, 19, 20, 21, 22, 23, 24, 25, 26, 27, 28, 29, 30, 31, 32, 33, 34, 36, 37, 38, 39, 41, 42, 43] h w147_30 → (0 ≤ r1 ∧ r1 ≤ 4) → (BDQ (w147_30 10) (w147_30 12) (w147_30 11) (w147_30 13)) → ((w147_30 8 10) = 3 * l + 1) → (∀ b : Int, 0 ≤ b → b < 3 * l + 1 → (w147_30 12) b = BW (h 1 1) l b ∧ (w147_30 13) b = BH (h 1 2) l b) → (∀ b x2 y2 : Int, 0 ≤ b → b < 3 * l + 1 → 0 ≤ x2 → x2 < BW (h 1 1) l b → 0 ≤ y2 → y2 < BH (h 1 2) l b → (w147_30 9) (((w147_30 11) b + y2) * 8 + (w147_30 10) b + x2) = LE (h 1 1) (h 1 2) (fun i => h 2 i - 128) l (8 * CY (h 1 2) l b + CX (h 1 1) l b + 8 * y2 + x2)) → (CPQ (h 1 1) (h 1 2) (fun i => h 2 i - 128) l (3 * l + 1) (w147_30 16) (w147_30 23) (w147_30 17) (w147_30 18)) → (∀ c : Int, 0 ≤ c → c < (3 * l + 1) → 0 ≤ (w147_30 17) c ∧ (w147_30 17) c + (w147_30 18) c ≤ (w147_30 22 1)) → (LSQ (h 1 1) (h 1 2) (fun i => h 2 i - 128) l (3 * l + 1) (w147_30 16) (w147_30 23) (w147_30 17) (w147_30 18) (w147_30 19)) → ((4 : Int) - r1).toNat < k30 → TT K ly 0 0 147 [(0, vR 7), (1, vR 1), (2, vI l), (3, vI n), (4, vR 5), (5, vI y1), (6, vI r1)] [] w147_30 := by
                intro k30
                induction k30 with
                | zero => intro r1 w147_30 hT147_30 hF147_30 hr1 hbd4 kcn hbw hnm hcp hca hlq hk30; exact absurd hk30 (Nat.not_lt_zero _)
                | succ k30 ih30 =>
                  intro r1 w147_30 hT147_30 hF147_30 hr1 hbd4 kcn hbw hnm hcp hca hlq hk30
                  refine TT_iload hK 6 rfl dX3_pack_147 ?_
                  refine TT_iload_n hK rfl 2 rfl dX3_pack_149 ?_
                  refine TT_icmp_gt hK (tgt := 170) (irm (by omega) (by omega)) (irm (by omega) (by omega)) dX3_pack_150 (by decide) (fun hb150_31 => ?_) (fun hb150_31 => ?_)
                  · refine TT_iinc hK (v := y1 + 1) (lv' := [(5, vI (y1 + 1)), (0, vR 7), (1, vR 1), (2, vI l), (3, vI n), (4, vR 5), (6, vI r1)]) 5 rfl rfl (by decide) rfl dX3_pack_170 ?_
                    refine TT_goto hK (tgt := 138) dX3_pack_173 (by decide) ?_
                    refine TT_sub [1, 2, 3, 4, 5, 0] rfl ?_
                    have e32_8_10 : w147_30 8 10 = (w147_30 8) 10 := rfl
                    have e33_22_1 : w147_30 22 1 = (w147_30 22) 1 := rfl
                    exact ih26 (y1 + 1) w147_30 hT147_30 hF147_30 (by first | omega | (simp [up, setR] <;> omega)) (by assumption) (by rewrite [e32_8_10]; exact kcn) (by exact hbw) (by exact hnm) (by exact hcp) (by rewrite [e33_22_1]; exact hca) (by exact hlq) (by first | omega | (simp [up, setR] <;> omega))
                  · refine TT_aload_n hK rfl 0 rfl dX3_pack_153 ?_
                    refine TT_iload hK 6 rfl dX3_pack_154 ?_
                    refine TT_iload hK 5 rfl dX3_pack_156 ?_
                    refine TT_iload_n hK rfl 3 rfl dX3_pack_158 ?_
                    refine TT_aload hK 4 rfl dX3_pack_159 ?_
                    refine iv_X3_134 hK (s_X3_writePacket_7 r1 y1 n w147_30 hT147_30 (by first | omega | (simp [up, setR] <;> omega)) (by first | omega | (simp [up, setR] <;> omega)) (by first | omega | (simp [up, setR] <;> omega))) (by decide) rfl ⟨by decide, by decide⟩ (by decide) rfl rfl (Nat.le_of_ble_eq_true rfl) ⟨by decide, by decide⟩ dX3_pack_161 ?_
                    intro r9 g161_34 hp9
                    obtain ⟨⟨hT_34, hG_34⟩, hr9⟩ := hp9
                    rw [hr9]
                    have hF_34 : FR [5, 6, 8, 9, 10, 11, 12, 13, 14, 15, 16, 17, 18, 19, 20, 21, 22, 23, 24, 25, 26, 27, 28, 29, 30, 31, 32, 33, 34, 36, 37, 38, 39, 41, 42, 43] h g161_34 := FR_tr hF147_30 hG_34 (by decide)
                    show TT K ly 0 0 164 [(0, vR 7), (1, vR 1), (2, vI l), (3, vI n), (4, vR 5), (5, vI y1), (6, vI r1)] [] g161_34
                    refine TT_iinc hK (v := r1 + 1) (lv' := [(6, vI (r1 + 1)), (0, vR 7), (1, vR 1), (2, vI l), (3, vI n), (4, vR 5), (5, vI y1)]) 6 rfl rfl (by decide) rfl dX3_pack_164 ?_
                    refine TT_goto hK (tgt := 147) dX3_pack_167 (by decide) ?_
                    refine TT_sub [1, 2, 3, 4, 5, 6, 0] rfl ?_
                    have e35_10 : g161_34 10 = w147_30 10 := (hG_34 10 (by decide))
                    have e36_11 : g161_34 11 = w147_30 11 := (hG_34 11 (by decide))
                    have e37_12 : g161_34 12 = w147_30 12 := (hG_34 12 (by decide))
                    have e38_13 : g161_34 13 = w147_30 13 := (hG_34 13 (by decide))
                    have e39_8_10 : g161_34 8 10 = (w147_30 8) 10 := rd_ (hG_34 8 (by decide)) rfl
                    have e40_12 : g161_34 12 = w147_30 12 := (hG_34 12 (by decide))
                    have e41_13 : g161_34 13 = w147_30 13 := (hG_34 13 (by decide))
                    have e42_10 : g161_34 10 = w147_30 10 := (hG_34 10 (by decide))
                    have e43_11 : g161_34 11 = w147_30 11 := (hG_34 11 (by decide))
                    have e44_9 : g161_34 9 = w147_30 9 := (hG_34 9 (by decide))
                    have e45_16 : g161_34 16 = w147_30 16 := (hG_34 16 (by decide))
                    have e46_17 : g161_34 17 = w147_30 17 := (hG_34 17 (by decide))
                    have e47_18 : g161_34 18 = w147_30 18 := (hG_34 18 (by decide))
                    have e48_23 : g161_34 23 = w147_30 23 := (hG_34 23 (by decide))
                    have e49_17 : g161_34 17 = w147_30 17 := (hG_34 17 (by decide))
                    have e50_18 : g161_34 18 = w147_30 18 := (hG_34 18 (by decide))
                    have e51_22_1 : g161_34 22 1 = (w147_30 22) 1 := rd_ (hG_34 22 (by decide)) rfl
                    have e52_16 : g161_34 16 = w147_30 16 := (hG_34 16 (by decide))
                    have e53_17 : g161_34 17 = w147_30 17 := (hG_34 17 (by decide))
                    have e54_18 : g161_34 18 = w147_30 18 := (hG_34 18 (by decide))
                    have e55_19 : g161_34 19 = w147_30 19 := (hG_34 19 (by decide))
                    have e56_23 : g161_34 23 = w147_30 23 := (hG_34 23 (by decide))
                    exact ih30 (r1 + 1) g161_34 hT_34 hF_34 (by first | omega | (simp [up, setR] <;> omega)) (by rewrite [e35_10, e36_11, e37_12, e38_13]; assumption) (by rewrite [e39_8_10]; exact kcn) (by rewrite [e40_12, e41_13]; exact hbw) (by rewrite [e42_10, e43_11, e44_9]; exact hnm) (by rewrite [e45_16, e46_17, e47_18, e48_23]; exact hcp) (by rewrite [e49_17, e50_18, e51_22_1]; exact hca) (by rewrite [e52_16, e53_17, e54_18, e55_19, e56_23]; exact hlq) (by first | omega | (simp [up, setR] <;> omega))
              refine TT_sub [1, 2, 3, 4, 5, 6, 0] rfl ?_
              have e57_8_10 : w138_26 8 10 = (w138_26 8) 10 := rfl
              have e58_22_1 : w138_26 22 1 = (w138_26 22) 1 := rfl
              exact L147_30 ((((4 : Int) - 0).toNat) + 1) 0 w138_26 hT138_26 hF138_26 (by first | omega | (simp [up, setR] <;> omega)) (by assumption) (by rewrite [e57_8_10]; exact kcn) (by exact hbw) (by exact hnm) (by first | exact hcp | (rw [show 3 * l + 1 = b by omega]; exact hcp)) (by rewrite [e58_22_1]; first | exact hca | (rw [show 3 * l + 1 = b by omega]; exact hca)) (by first | exact hlq | (rw [show 3 * l + 1 = b by omega]; exact hlq)) (Nat.lt_succ_self _)
        refine TT_sub [1, 2, 3, 4, 5, 0] rfl ?_
        have e59_10 : g132_25 10 = w41_16 10 := ((hG_25 10 (by decide))).trans (((hG_24 10 (by decide))).trans (((hG_23 10 (by decide))).trans (((hG_21 10 (by decide))).trans (hG_19 10 (by decide)))))
        have e60_11 : g132_25 11 = w41_16 11 := ((hG_25 11 (by decide))).trans (((hG_24 11 (by decide))).trans (((hG_23 11 (by decide))).trans (((hG_21 11 (by decide))).trans (hG_19 11 (by decide)))))
        have e61_12 : g132_25 12 = w41_16 12 := ((hG_25 12 (by decide))).trans (((hG_24 12 (by decide))).trans (((hG_23 12 (by decide))).trans (((hG_21 12 (by decide))).trans (hG_19 12 (by decide)))))
        have e62_13 : g132_25 13 = w41_16 13 := ((hG_25 13 (by decide))).trans (((hG_24 13 (by decide))).trans (((hG_23 13 (by decide))).trans (((hG_21 13 (by decide))).trans (hG_19 13 (by decide)))))
        have e63_8_10 : g132_25 8 10 = (w41_16 8) 10 := rd_ (((hG_25 8 (by decide))).trans (((hG_24 8 (by decide))).trans (((hG_23 8 (by decide))).trans (((hG_21 8 (by decide))).trans (hG_19 8 (by decide)))))) rfl
        have e64_12 : g132_25 12 = w41_16 12 := ((hG_25 12 (by decide))).trans (((hG_24 12 (by decide))).trans (((hG_23 12 (by decide))).trans (((hG_21 12 (by decide))).trans (hG_19 12 (by decide)))))
        have e65_13 : g132_25 13 = w41_16 13 := ((hG_25 13 (by decide))).trans (((hG_24 13 (by decide))).trans (((hG_23 13 (by decide))).trans (((hG_21 13 (by decide))).trans (hG_19 13 (by decide)))))
        have e66_10 : g132_25 10 = w41_16 10 := ((hG_25 10 (by decide))).trans (((hG_24 10 (by decide))).trans (((hG_23 10 (by decide))).trans (((hG_21 10 (by decide))).trans (hG_19 10 (by decide)))))
        have e67_11 : g132_25 11 = w41_16 11 := ((hG_25 11 (by decide))).trans (((hG_24 11 (by decide))).trans (((hG_23 11 (by decide))).trans (((hG_21 11 (by decide))).trans (hG_19 11 (by decide)))))
        have e68_9 : g132_25 9 = w41_16 9 := ((hG_25 9 (by decide))).trans (((hG_24 9 (by decide))).trans (((hG_23 9 (by decide))).trans (((hG_21 9 (by decide))).trans (hG_19 9 (by decide)))))
        have e69_16 : g132_25 16 = w41_16 16 := ((hG_25 16 (by decide))).trans (((hG_24 16 (by decide))).trans (((hG_23 16 (by decide))).trans (((hG_21 16 (by decide))).trans (hG_19 16 (by decide)))))
        have e70_17 : g132_25 17 = w41_16 17 := ((hG_25 17 (by decide))).trans (((hG_24 17 (by decide))).trans (((hG_23 17 (by decide))).trans (((hG_21 17 (by decide))).trans (hG_19 17 (by decide)))))
        have e71_18 : g132_25 18 = w41_16 18 := ((hG_25 18 (by decide))).trans (((hG_24 18 (by decide))).trans (((hG_23 18 (by decide))).trans (((hG_21 18 (by decide))).trans (hG_19 18 (by decide)))))
        have e72_23 : g132_25 23 = w41_16 23 := ((hG_25 23 (by decide))).trans (((hG_24 23 (by decide))).trans (((hG_23 23 (by decide))).trans (((hG_21 23 (by decide))).trans (hG_19 23 (by decide)))))
        have e73_17 : g132_25 17 = w41_16 17 := ((hG_25 17 (by decide))).trans (((hG_24 17 (by decide))).trans (((hG_23 17 (by decide))).trans (((hG_21 17 (by decide))).trans (hG_19 17 (by decide)))))
        have e74_18 : g132_25 18 = w41_16 18 := ((hG_25 18 (by decide))).trans (((hG_24 18 (by decide))).trans (((hG_23 18 (by decide))).trans (((hG_21 18 (by decide))).trans (hG_19 18 (by decide)))))
        have e75_22_1 : g132_25 22 1 = (w41_16 22) 1 := rd_ (((hG_25 22 (by decide))).trans (((hG_24 22 (by decide))).trans (((hG_23 22 (by decide))).trans (((hG_21 22 (by decide))).trans (hG_19 22 (by decide)))))) rfl
        have e76_16 : g132_25 16 = w41_16 16 := ((hG_25 16 (by decide))).trans (((hG_24 16 (by decide))).trans (((hG_23 16 (by decide))).trans (((hG_21 16 (by decide))).trans (hG_19 16 (by decide)))))
        have e77_17 : g132_25 17 = w41_16 17 := ((hG_25 17 (by decide))).trans (((hG_24 17 (by decide))).trans (((hG_23 17 (by decide))).trans (((hG_21 17 (by decide))).trans (hG_19 17 (by decide)))))
        have e78_18 : g132_25 18 = w41_16 18 := ((hG_25 18 (by decide))).trans (((hG_24 18 (by decide))).trans (((hG_23 18 (by decide))).trans (((hG_21 18 (by decide))).trans (hG_19 18 (by decide)))))
        have e79_19 : g132_25 19 = w41_16 19 := ((hG_25 19 (by decide))).trans (((hG_24 19 (by decide))).trans (((hG_23 19 (by decide))).trans (((hG_21 19 (by decide))).trans (hG_19 19 (by decide)))))
        have e80_23 : g132_25 23 = w41_16 23 := ((hG_25 23 (by decide))).trans (((hG_24 23 (by decide))).trans (((hG_23 23 (by decide))).trans (((hG_21 23 (by decide))).trans (hG_19 23 (by decide)))))
        exact L138_26 ((((4 : Int) - 1).toNat) + 1) 1 g132_25 hT_25 hF_25 (by first | omega | (simp [up, setR] <;> omega)) (by rewrite [e59_10, e60_11, e61_12, e62_13]; assumption) (by rewrite [e63_8_10]; exact kcn) (by rewrite [e64_12, e65_13]; exact hbw) (by rewrite [e66_10, e67_11, e68_9]; exact hnm) (by rewrite [e69_16, e70_17, e71_18, e72_23]; first | exact hcp | (rw [show 3 * l + 1 = b by omega]; exact hcp)) (by rewrite [e73_17, e74_18, e75_22_1]; first | exact hca | (rw [show 3 * l + 1 = b by omega]; exact hca)) (by rewrite [e76_16, e77_17, e78_18, e79_19, e80_23]; first | exact hlq | (rw [show 3 * l + 1 = b by omega]; exact hlq)) (Nat.lt_succ_self _)
      · have hwr := BWr rW hl b ⟨by omega, by omega⟩
        have hhr := BHr rH hl b ⟨by omega, by omega⟩
        have hci := CXr rW rH hl b ⟨by omega, by omega⟩
        have ia : IS (AR (h 1 1) (h 1 2) l) (b + 1) = IS (AR (h 1 1) (h 1 2) l) b + BW (h 1 1) l b * BH (h 1 2) l b := IS_s (by omega)
        have iaR := ARb (w := h 1 1) (e := h 1 2) (l := l) (c := b + 1) rW rH hl (by omega)
        have hnb0 : NBQ (fun x y : Int => (w41_16 9) (((w41_16 11) b + y) * 8 + (w41_16 10) b + x)) ((w41_16 12) b) ((w41_16 13) b) := PK_nb ⟨by omega, by omega⟩ hnm (hbw b (by omega) (by omega)) hci (fun i i0 i1 => (bq i i0 i1).1)
        refine TT_aload_n hK rfl 0 rfl dX3_pack_53 ?_
        refine gf_X3_18 hK (by decide) rfl (q := 16) rfl rfl dX3_pack_54 ?_
        refine TT_iload hK 5 rfl dX3_pack_57 ?_
        refine TT_aload_n hK rfl 0 rfl dX3_pack_59 ?_
        refine TT_iload hK 5 rfl dX3_pack_60 ?_
        have e81_8_10 : w41_16 8 10 = (w41_16 8) 10 := rfl
        refine iv_X3_121 hK (s_planesOf_e b w41_16 hT41_16 (by first | omega | (simp [up, setR] <;> omega)) (by first | assumption | exact hbd) (by rewrite [e81_8_10]; omega) (by exact hnb0)) (by decide) rfl ⟨by decide, by decide⟩ (by decide) rfl rfl (Nat.le_of_ble_eq_true rfl) ⟨by decide, by decide⟩ dX3_pack_62 ?_
        intro r9 g62_82 hp9
        obtain ⟨⟨hT_82, hG_82⟩, z62_82, hr9, hz_82, pl_82⟩ := hp9
        rw [hr9]
        have hF_82 : FR [5, 6, 8, 9, 10, 11, 12, 13, 14, 15, 16, 17, 18, 19, 20, 21, 22, 23, 24, 25, 26, 27, 28, 29, 30, 31, 32, 33, 34, 36, 37, 38, 39, 41, 42, 43] h g62_82 := FR_tr hF41_16 hG_82 (by decide)
        have pl_at62 := pl_82
        show TT K ly 0 0 65 [(0, vR 7), (1, vR 1), (2, vI l), (3, vI n), (4, vR 5), (5, vI b)] [vI z62_82, vI b, vR 16] g62_82
        refine TT_iast hK (o := 16) (n := 10) (by decide) rfl (by omega) (by omega) dX3_pack_65 ?_
        refine TT_hp (h' := setO g62_82 16 (fup (w41_16 16) b z62_82)) (up_can (hG_82 16 (by decide)) rfl rfl) ?_
        have hT_83 : TY (setO g62_82 16 (fup (w41_16 16) b z62_82)) := tu_16 hT_82 (show up g62_82 16 b z62_82 = (setO g62_82 16 (fup (w41_16 16) b z62_82)) from up_can (hG_82 16 (by decide)) rfl rfl) (by omega)
        have hF_83 : FR [5, 6, 8, 9, 10, 11, 12, 13, 14, 15, 16, 17, 18, 19, 20, 21, 22, 23, 24, 25, 26, 27, 28, 29, 30, 31, 32, 33, 34, 36, 37, 38, 39, 41, 42, 43] h (setO g62_82 16 (fup (w41_16 16) b z62_82)) := FR_up (show up g62_82 16 b z62_82 = (setO g62_82 16 (fup (w41_16 16) b z62_82)) from up_can (hG_82 16 (by decide)) rfl rfl) hF_82 (by decide)
        refine TT_aload_n hK rfl 0 rfl dX3_pack_66 ?_
        refine gf_X3_31 hK (by decide) rfl (q := 20) rfl rfl dX3_pack_67 ?_
        refine TT_iload hK 5 rfl dX3_pack_70 ?_
        refine TT_iconst hK dX3_pack_72 ?_
        refine TT_iast hK (o := 20) (n := 10) (by decide) rfl (by omega) (by omega) dX3_pack_73 ?_
        refine TT_hp (h' := setO (setO g62_82 16 (fup (w41_16 16) b z62_82)) 20 (fup (w41_16 20) b 0)) (up_can ((sOf_ne _ _ (by decide)).trans (hG_82 20 (by decide))) rfl rfl) ?_
        have hT_84 : TY (setO (setO g62_82 16 (fup (w41_16 16) b z62_82)) 20 (fup (w41_16 20) b 0)) := tu_20 hT_83 (show up (setO g62_82 16 (fup (w41_16 16) b z62_82)) 20 b 0 = (setO (setO g62_82 16 (fup (w41_16 16) b z62_82)) 20 (fup (w41_16 20) b 0)) from up_can ((sOf_ne _ _ (by decide)).trans (hG_82 20 (by decide))) rfl rfl) (by omega)
        have hF_84 : FR [5, 6, 8, 9, 10, 11, 12, 13, 14, 15, 16, 17, 18, 19, 20, 21, 22, 23, 24, 25, 26, 27, 28, 29, 30, 31, 32, 33, 34, 36, 37, 38, 39, 41, 42, 43] h (setO (setO g62_82 16 (fup (w41_16 16) b z62_82)) 20 (fup (w41_16 20) b 0)) := FR_up (show up (setO g62_82 16 (fup (w41_16 16) b z62_82)) 20 b 0 = (setO (setO g62_82 16 (fup (w41_16 16) b z62_82)) 20 (fup (w41_16 20) b 0)) from up_can ((sOf_ne _ _ (by decide)).trans (hG_82 20 (by decide))) rfl rfl) hF_83 (by decide)
        refine TT_aload_n hK rfl 0 rfl dX3_pack_74 ?_
        refine gf_X3_34 hK (by decide) rfl (q := 21) rfl rfl dX3_pack_75 ?_
        refine TT_iload hK 5 rfl dX3_pack_78 ?_
        refine TT_iconst hK dX3_pack_80 ?_
        refine TT_iast hK (o := 21) (n := 10) (by decide) rfl (by omega) (by omega) dX3_pack_81 ?_
        refine TT_hp (h' := setO (setO (setO g62_82 16 (fup (w41_16 16) b z62_82)) 20 (fup (w41_16 20) b 0)) 21 (fup (w41_16 21) b 3)) (up_can ((sOf_ne _ _ (by decide)).trans ((sOf_ne _ _ (by decide)).trans (hG_82 21 (by decide)))) rfl rfl) ?_
        have hT_85 : TY (setO (setO (setO g62_82 16 (fup (w41_16 16) b z62_82)) 20 (fup (w41_16 20) b 0)) 21 (fup (w41_16 21) b 3)) := tu_21 hT_84 (show up (setO (setO g62_82 16 (fup (w41_16 16) b z62_82)) 20 (fup (w41_16 20) b 0)) 21 b 3 = (setO (setO (setO g62_82 16 (fup (w41_16 16) b z62_82)) 20 (fup (w41_16 20) b 0)) 21 (fup (w41_16 21) b 3)) from up_can ((sOf_ne _ _ (by decide)).trans ((sOf_ne _ _ (by decide)).trans (hG_82 21 (by decide)))) rfl rfl) (by omega)
        have hF_85 : FR [5, 6, 8, 9, 10, 11, 12, 13, 14, 15, 16, 17, 18, 19, 20, 21, 22, 23, 24, 25, 26, 27, 28, 29, 30, 31, 32, 33, 34, 36, 37, 38, 39, 41, 42, 43] h (setO (setO (setO g62_82 16 (fup (w41_16 16) b z62_82)) 20 (fup (w41_16 20) b 0)) 21 (fup (w41_16 21) b 3)) := FR_up (show up (setO (setO g62_82 16 (fup (w41_16 16) b z62_82)) 20 (fup (w41_16 20) b 0)) 21 b 3 = (setO (setO (setO g62_82 16 (fup (w41_16 16) b z62_82)) 20 (fup (w41_16 20) b 0)) 21 (fup (w41_16 21) b 3)) from up_can ((sOf_ne _ _ (by decide)).trans ((sOf_ne _ _ (by decide)).trans (hG_82 21 (by decide)))) rfl rfl) hF_84 (by decide)
        refine TT_aload_n hK rfl 0 rfl dX3_pack_82 ?_
        refine TT_iload hK 5 rfl dX3_pack_83 ?_
        have e86_10 : (setO (setO (setO g62_82 16 (fup (w41_16 16) b z62_82)) 20 (fup (w41_16 20) b 0)) 21 (fup (w41_16 21) b 3)) 10 = w41_16 10 := (sOf_ne _ _ (by decide)).trans ((sOf_ne _ _ (by decide)).trans ((sOf_ne _ _ (by decide)).trans (hG_82 10 (by decide))))
        have e87_11 : (setO (setO (setO g62_82 16 (fup (w41_16 16) b z62_82)) 20 (fup (w41_16 20) b 0)) 21 (fup (w41_16 21) b 3)) 11 = w41_16 11 := (sOf_ne _ _ (by decide)).trans ((sOf_ne _ _ (by decide)).trans ((sOf_ne _ _ (by decide)).trans (hG_82 11 (by decide))))
        have e88_12 : (setO (setO (setO g62_82 16 (fup (w41_16 16) b z62_82)) 20 (fup (w41_16 20) b 0)) 21 (fup (w41_16 21) b 3)) 12 = w41_16 12 := (sOf_ne _ _ (by decide)).trans ((sOf_ne _ _ (by decide)).trans ((sOf_ne _ _ (by decide)).trans (hG_82 12 (by decide))))
        have e89_13 : (setO (setO (setO g62_82 16 (fup (w41_16 16) b z62_82)) 20 (fup (w41_16 20) b 0)) 21 (fup (w41_16 21) b 3)) 13 = w41_16 13 := (sOf_ne _ _ (by decide)).trans ((sOf_ne _ _ (by decide)).trans ((sOf_ne _ _ (by decide)).trans (hG_82 13 (by decide))))
        have e90_8_10 : (setO (setO (setO g62_82 16 (fup (w41_16 16) b z62_82)) 20 (fup (w41_16 20) b 0)) 21 (fup (w41_16 21) b 3)) 8 10 = (w41_16 8) 10 := rd_ ((sOf_ne _ _ (by decide)).trans ((sOf_ne _ _ (by decide)).trans ((sOf_ne _ _ (by decide)).trans (hG_82 8 (by decide))))) rfl
        have e91_10 : (setO (setO (setO g62_82 16 (fup (w41_16 16) b z62_82)) 20 (fup (w41_16 20) b 0)) 21 (fup (w41_16 21) b 3)) 10 = w41_16 10 := (sOf_ne _ _ (by decide)).trans ((sOf_ne _ _ (by decide)).trans ((sOf_ne _ _ (by decide)).trans (hG_82 10 (by decide))))
        have e92_11 : (setO (setO (setO g62_82 16 (fup (w41_16 16) b z62_82)) 20 (fup (w41_16 20) b 0)) 21 (fup (w41_16 21) b 3)) 11 = w41_16 11 := (sOf_ne _ _ (by decide)).trans ((sOf_ne _ _ (by decide)).trans ((sOf_ne _ _ (by decide)).trans (hG_82 11 (by decide))))
        have e93_12 : (setO (setO (setO g62_82 16 (fup (w41_16 16) b z62_82)) 20 (fup (w41_16 20) b 0)) 21 (fup (w41_16 21) b 3)) 12 = w41_16 12 := (sOf_ne _ _ (by decide)).trans ((sOf_ne _ _ (by decide)).trans ((sOf_ne _ _ (by decide)).trans (hG_82 12 (by decide))))
        have e94_13 : (setO (setO (setO g62_82 16 (fup (w41_16 16) b z62_82)) 20 (fup (w41_16 20) b 0)) 21 (fup (w41_16 21) b 3)) 13 = w41_16 13 := (sOf_ne _ _ (by decide)).trans ((sOf_ne _ _ (by decide)).trans ((sOf_ne _ _ (by decide)).trans (hG_82 13 (by decide))))
        have e95_9 : (setO (setO (setO g62_82 16 (fup (w41_16 16) b z62_82)) 20 (fup (w41_16 20) b 0)) 21 (fup (w41_16 21) b 3)) 9 = w41_16 9 := (sOf_ne _ _ (by decide)).trans ((sOf_ne _ _ (by decide)).trans ((sOf_ne _ _ (by decide)).trans (hG_82 9 (by decide))))
        have e96_12 : (setO (setO (setO g62_82 16 (fup (w41_16 16) b z62_82)) 20 (fup (w41_16 20) b 0)) 21 (fup (w41_16 21) b 3)) 12 = w41_16 12 := (sOf_ne _ _ (by decide)).trans ((sOf_ne _ _ (by decide)).trans ((sOf_ne _ _ (by decide)).trans (hG_82 12 (by decide))))
        have e97_13 : (setO (setO (setO g62_82 16 (fup (w41_16 16) b z62_82)) 20 (fup (w41_16 20) b 0)) 21 (fup (w41_16 21) b 3)) 13 = w41_16 13 := (sOf_ne _ _ (by decide)).trans ((sOf_ne _ _ (by decide)).trans ((sOf_ne _ _ (by decide)).trans (hG_82 13 (by decide))))
        have e98_22_1 : (setO (setO (setO g62_82 16 (fup (w41_16 16) b z62_82)) 20 (fup (w41_16 20) b 0)) 21 (fup (w41_16 21) b 3)) 22 1 = (w41_16 22) 1 := rd_ ((sOf_ne _ _ (by decide)).trans ((sOf_ne _ _ (by decide)).trans ((sOf_ne _ _ (by decide)).trans (hG_82 22 (by decide))))) rfl
        refine iv_X3_124 hK (s_ctellBand_e b (setO (setO (setO g62_82 16 (fup (w41_16 16) b z62_82)) 20 (fup (w41_16 20) b 0)) 21 (fup (w41_16 21) b 3)) hT_85 (by first | omega | (simp [up, setR] <;> omega)) (by rewrite [e86_10, e87_11, e88_12, e89_13]; first | assumption | exact hbd) (by rewrite [e90_8_10]; omega) (by rewrite [e91_10, e92_11, e93_12, e94_13, e95_9]; exact hnb0) (by rewrite [e96_12, e97_13, e98_22_1]; rw [(hbw b (by omega) (by omega)).1, (hbw b (by omega) (by omega)).2]; omega)) (by decide) rfl ⟨by decide, by decide⟩ (by decide) rfl rfl (Nat.le_of_ble_eq_true rfl) ⟨by decide, by decide⟩ dX3_pack_85 ?_
        intro r9 g85_99 hp9
        obtain ⟨⟨hT_99, hG_99⟩, hr9, cw_99, cn_99, ck_99, cs_99, cl_99⟩ := hp9
        rw [hr9]
        have hF_99 : FR [5, 6, 8, 9, 10, 11, 12, 13, 14, 15, 16, 17, 18, 19, 20, 21, 22, 23, 24, 25, 26, 27, 28, 29, 30, 31, 32, 33, 34, 36, 37, 38, 39, 41, 42, 43] h g85_99 := FR_tr hF_85 hG_99 (by decide)
        rw [show (setO (setO (setO g62_82 16 (fup (w41_16 16) b z62_82)) 20 (fup (w41_16 20) b 0)) 21 (fup (w41_16 21) b 3)) 10 = w41_16 10 from (sOf_ne _ _ (by decide)).trans ((sOf_ne _ _ (by decide)).trans ((sOf_ne _ _ (by decide)).trans (hG_82 10 (by decide))))] at cw_99
        rw [show (setO (setO (setO g62_82 16 (fup (w41_16 16) b z62_82)) 20 (fup (w41_16 20) b 0)) 21 (fup (w41_16 21) b 3)) 11 = w41_16 11 from (sOf_ne _ _ (by decide)).trans ((sOf_ne _ _ (by decide)).trans ((sOf_ne _ _ (by decide)).trans (hG_82 11 (by decide))))] at cw_99
        rw [show (setO (setO (setO g62_82 16 (fup (w41_16 16) b z62_82)) 20 (fup (w41_16 20) b 0)) 21 (fup (w41_16 21) b 3)) 12 = w41_16 12 from (sOf_ne _ _ (by decide)).trans ((sOf_ne _ _ (by decide)).trans ((sOf_ne _ _ (by decide)).trans (hG_82 12 (by decide))))] at cw_99
        rw [show (setO (setO (setO g62_82 16 (fup (w41_16 16) b z62_82)) 20 (fup (w41_16 20) b 0)) 21 (fup (w41_16 21) b 3)) 13 = w41_16 13 from (sOf_ne _ _ (by decide)).trans ((sOf_ne _ _ (by decide)).trans ((sOf_ne _ _ (by decide)).trans (hG_82 13 (by decide))))] at cw_99
        rw [show (setO (setO (setO g62_82 16 (fup (w41_16 16) b z62_82)) 20 (fup (w41_16 20) b 0)) 21 (fup (w41_16 21) b 3)) 16 = fup (w41_16 16) b z62_82 from (sOf_ne _ _ (by decide)).trans ((sOf_ne _ _ (by decide)).trans (sOf_eq _ _ _))] at cw_99
        rw [show (setO (setO (setO g62_82 16 (fup (w41_16 16) b z62_82)) 20 (fup (w41_16 20) b 0)) 21 (fup (w41_16 21) b 3)) 22 1 = (w41_16 22) 1 from rd_ ((sOf_ne _ _ (by decide)).trans ((sOf_ne _ _ (by decide)).trans ((sOf_ne _ _ (by decide)).trans (hG_82 22 (by decide))))) rfl] at cw_99
        rw [show (setO (setO (setO g62_82 16 (fup (w41_16 16) b z62_82)) 20 (fup (w41_16 20) b 0)) 21 (fup (w41_16 21) b 3)) 9 = w41_16 9 from (sOf_ne _ _ (by decide)).trans ((sOf_ne _ _ (by decide)).trans ((sOf_ne _ _ (by decide)).trans (hG_82 9 (by decide))))] at cw_99
        rw [show (setO (setO (setO g62_82 16 (fup (w41_16 16) b z62_82)) 20 (fup (w41_16 20) b 0)) 21 (fup (w41_16 21) b 3)) 12 = w41_16 12 from (sOf_ne _ _ (by decide)).trans ((sOf_ne _ _ (by decide)).trans ((sOf_ne _ _ (by decide)).trans (hG_82 12 (by decide))))] at cn_99
        rw [show (setO (setO (setO g62_82 16 (fup (w41_16 16) b z62_82)) 20 (fup (w41_16 20) b 0)) 21 (fup (w41_16 21) b 3)) 13 = w41_16 13 from (sOf_ne _ _ (by decide)).trans ((sOf_ne _ _ (by decide)).trans ((sOf_ne _ _ (by decide)).trans (hG_82 13 (by decide))))] at cn_99
        rw [show (setO (setO (setO g62_82 16 (fup (w41_16 16) b z62_82)) 20 (fup (w41_16 20) b 0)) 21 (fup (w41_16 21) b 3)) 22 1 = (w41_16 22) 1 from rd_ ((sOf_ne _ _ (by decide)).trans ((sOf_ne _ _ (by decide)).trans ((sOf_ne _ _ (by decide)).trans (hG_82 22 (by decide))))) rfl] at cn_99
        rw [show (setO (setO (setO g62_82 16 (fup (w41_16 16) b z62_82)) 20 (fup (w41_16 20) b 0)) 21 (fup (w41_16 21) b 3)) 22 1 = (w41_16 22) 1 from rd_ ((sOf_ne _ _ (by decide)).trans ((sOf_ne _ _ (by decide)).trans ((sOf_ne _ _ (by decide)).trans (hG_82 22 (by decide))))) rfl] at ck_99
        rw [show (setO (setO (setO g62_82 16 (fup (w41_16 16) b z62_82)) 20 (fup (w41_16 20) b 0)) 21 (fup (w41_16 21) b 3)) 23 = w41_16 23 from (sOf_ne _ _ (by decide)).trans ((sOf_ne _ _ (by decide)).trans ((sOf_ne _ _ (by decide)).trans (hG_82 23 (by decide))))] at ck_99
        rw [show (setO (setO (setO g62_82 16 (fup (w41_16 16) b z62_82)) 20 (fup (w41_16 20) b 0)) 21 (fup (w41_16 21) b 3)) 17 = w41_16 17 from (sOf_ne _ _ (by decide)).trans ((sOf_ne _ _ (by decide)).trans ((sOf_ne _ _ (by decide)).trans (hG_82 17 (by decide))))] at cs_99
        rw [show (setO (setO (setO g62_82 16 (fup (w41_16 16) b z62_82)) 20 (fup (w41_16 20) b 0)) 21 (fup (w41_16 21) b 3)) 22 1 = (w41_16 22) 1 from rd_ ((sOf_ne _ _ (by decide)).trans ((sOf_ne _ _ (by decide)).trans ((sOf_ne _ _ (by decide)).trans (hG_82 22 (by decide))))) rfl] at cs_99
        rw [show (setO (setO (setO g62_82 16 (fup (w41_16 16) b z62_82)) 20 (fup (w41_16 20) b 0)) 21 (fup (w41_16 21) b 3)) 18 = w41_16 18 from (sOf_ne _ _ (by decide)).trans ((sOf_ne _ _ (by decide)).trans ((sOf_ne _ _ (by decide)).trans (hG_82 18 (by decide))))] at cl_99
        have cw_at85 := cw_99
        have cn_at85 := cn_99
        have ck_at85 := ck_99
        have cs_at85 := cs_99
        have cl_at85 := cl_99
        show TT K ly 0 0 88 [(0, vR 7), (1, vR 1), (2, vI l), (3, vI n), (4, vR 5), (5, vI b)] [] g85_99
        have ewb := hbw b (by omega) (by omega)
        have cn8 := cn_at85
        rw [ewb.1, ewb.2] at cn8
        have a64b := A64 hwr hhr
        have q16b : 0 ≤ (fup (w41_16 16) b z62_82) b ∧ (fup (w41_16 16) b z62_82) b ≤ 12 := by rw [fup_eq]; omega
        have e17b := (congrFun cs_at85 b).trans (fup_eq _ _ _)
        obtain ⟨M9, s9, hm9, hck9⟩ := CWX_K (by omega) (by omega) q16b cw_at85
        refine TT_aload_n hK rfl 0 rfl dX3_pack_88 ?_
        refine TT_iload hK 5 rfl dX3_pack_89 ?_
        have e100_16 : g85_99 16 = fup (w41_16 16) b z62_82 := ((hG_99 16 (by decide))).trans ((sOf_ne _ _ (by decide)).trans ((sOf_ne _ _ (by decide)).trans (sOf_eq _ _ _)))
        have e101_24_3 : g85_99 24 3 = (g85_99 24) 3 := rfl
        have e102_24_4 : g85_99 24 4 = (g85_99 24) 4 := rfl
        have e103_22_1 : g85_99 22 1 = (g85_99 22) 1 := rfl
        have e104_16 : g85_99 16 = fup (w41_16 16) b z62_82 := ((hG_99 16 (by decide))).trans ((sOf_ne _ _ (by decide)).trans ((sOf_ne _ _ (by decide)).trans (sOf_eq _ _ _)))
        refine iv_X3_128 hK (s_findLeasts_e M9 s9 ((w41_16 12) b) ((w41_16 13) b) (kdB b) b g85_99 hT_99 (by first | omega | (simp [up, setR] <;> omega)) (by rewrite [e100_16, e101_24_3, e102_24_4]; exact CWK_c hck9 e17b) (by rewrite [e103_22_1]; rw [e17b]; omega) (by rewrite [e104_16]; exact q16b) (by omega)) (by decide) rfl ⟨by decide, by decide⟩ (by decide) rfl rfl (Nat.le_of_ble_eq_true rfl) ⟨by decide, by decide⟩ dX3_pack_91 ?_
        intro r9 g91_105 hp9
        obtain ⟨⟨hT_105, hG_105⟩, hr9, c6_105, c7_105, c8_105⟩ := hp9
        rw [hr9]
        have hF_105 : FR [5, 6, 8, 9, 10, 11, 12, 13, 14, 15, 16, 17, 18, 19, 20, 21, 22, 23, 24, 25, 26, 27, 28, 29, 30, 31, 32, 33, 34, 36, 37, 38, 39, 41, 42, 43] h g91_105 := FR_tr hF_99 hG_105 (by decide)
        rw [show g85_99 16 = fup (w41_16 16) b z62_82 from ((hG_99 16 (by decide))).trans ((sOf_ne _ _ (by decide)).trans ((sOf_ne _ _ (by decide)).trans (sOf_eq _ _ _)))] at c6_105
        rw [show g85_99 19 = w41_16 19 from ((hG_99 19 (by decide))).trans ((sOf_ne _ _ (by decide)).trans ((sOf_ne _ _ (by decide)).trans ((sOf_ne _ _ (by decide)).trans (hG_82 19 (by decide)))))] at c7_105
        have c6_at91 := c6_105
        have c7_at91 := c7_105
        have c8_at91 := c8_105
        show TT K ly 0 0 94 [(0, vR 7), (1, vR 1), (2, vI l), (3, vI n), (4, vR 5), (5, vI b)] [] g91_105
        refine TT_iinc hK (v := b + 1) (lv' := [(5, vI (b + 1)), (0, vR 7), (1, vR 1), (2, vI l), (3, vI n), (4, vR 5)]) 5 rfl rfl (by decide) rfl dX3_pack_94 ?_
        refine TT_goto hK (tgt := 41) dX3_pack_97 (by decide) ?_
        refine TT_sub [1, 2, 3, 4, 5, 0] rfl ?_
        have e106_10 : g91_105 10 = w41_16 10 := ((hG_105 10 (by decide))).trans (((hG_99 10 (by decide))).trans ((sOf_ne _ _ (by decide)).trans ((sOf_ne _ _ (by decide)).trans ((sOf_ne _ _ (by decide)).trans (hG_82 10 (by decide))))))
        have e107_11 : g91_105 11 = w41_16 11 := ((hG_105 11 (by decide))).trans (((hG_99 11 (by decide))).trans ((sOf_ne _ _ (by decide)).trans ((sOf_ne _ _ (by decide)).trans ((sOf_ne _ _ (by decide)).trans (hG_82 11 (by decide))))))
        have e108_12 : g91_105 12 = w41_16 12 := ((hG_105 12 (by decide))).trans (((hG_99 12 (by decide))).trans ((sOf_ne _ _ (by decide)).trans ((sOf_ne _ _ (by decide)).trans ((sOf_ne _ _ (by decide)).trans (hG_82 12 (by decide))))))
        have e109_13 : g91_105 13 = w41_16 13 := ((hG_105 13 (by decide))).trans (((hG_99 13 (by decide))).trans ((sOf_ne _ _ (by decide)).trans ((sOf_ne _ _ (by decide)).trans ((sOf_ne _ _ (by decide)).trans (hG_82 13 (by decide))))))
        have e110_8_10 : g91_105 8 10 = (w41_16 8) 10 := rd_ (((hG_105 8 (by decide))).trans (((hG_99 8 (by decide))).trans ((sOf_ne _ _ (by decide)).trans ((sOf_ne _ _ (by decide)).trans ((sOf_ne _ _ (by decide)).trans (hG_82 8 (by decide))))))) rfl
        have e111_12 : g91_105 12 = w41_16 12 := ((hG_105 12 (by decide))).trans (((hG_99 12 (by decide))).trans ((sOf_ne _ _ (by decide)).trans ((sOf_ne _ _ (by decide)).trans ((sOf_ne _ _ (by decide)).trans (hG_82 12 (by decide))))))
        have e112_13 : g91_105 13 = w41_16 13 := ((hG_105 13 (by decide))).trans (((hG_99 13 (by decide))).trans ((sOf_ne _ _ (by decide)).trans ((sOf_ne _ _ (by decide)).trans ((sOf_ne _ _ (by decide)).trans (hG_82 13 (by decide))))))
        have e113_10 : g91_105 10 = w41_16 10 := ((hG_105 10 (by decide))).trans (((hG_99 10 (by decide))).trans ((sOf_ne _ _ (by decide)).trans ((sOf_ne _ _ (by decide)).trans ((sOf_ne _ _ (by decide)).trans (hG_82 10 (by decide))))))
        have e114_11 : g91_105 11 = w41_16 11 := ((hG_105 11 (by decide))).trans (((hG_99 11 (by decide))).trans ((sOf_ne _ _ (by decide)).trans ((sOf_ne _ _ (by decide)).trans ((sOf_ne _ _ (by decide)).trans (hG_82 11 (by decide))))))
        have e115_9 : g91_105 9 = w41_16 9 := ((hG_105 9 (by decide))).trans (((hG_99 9 (by decide))).trans ((sOf_ne _ _ (by decide)).trans ((sOf_ne _ _ (by decide)).trans ((sOf_ne _ _ (by decide)).trans (hG_82 9 (by decide))))))
        have e116_22_1 : g91_105 22 1 = (g85_99 22) 1 := rd_ (hG_105 22 (by decide)) rfl
        have e117_16 : g91_105 16 = fup (w41_16 16) b z62_82 := ((hG_105 16 (by decide))).trans (((hG_99 16 (by decide))).trans ((sOf_ne _ _ (by decide)).trans ((sOf_ne _ _ (by decide)).trans (sOf_eq _ _ _))))
        have e118_17 : g91_105 17 = g85_99 17 := (hG_105 17 (by decide))
        have e119_18 : g91_105 18 = g85_99 18 := (hG_105 18 (by decide))
        have e120_23 : g91_105 23 = g85_99 23 := (hG_105 23 (by decide))
        have e121_17 : g91_105 17 = g85_99 17 := (hG_105 17 (by decide))
        have e122_18 : g91_105 18 = g85_99 18 := (hG_105 18 (by decide))
        have e123_22_1 : g91_105 22 1 = (g85_99 22) 1 := rd_ (hG_105 22 (by decide)) rfl
        have e124_16 : g91_105 16 = fup (w41_16 16) b z62_82 := ((hG_105 16 (by decide))).trans (((hG_99 16 (by decide))).trans ((sOf_ne _ _ (by decide)).trans ((sOf_ne _ _ (by decide)).trans (sOf_eq _ _ _))))
        have e125_17 : g91_105 17 = g85_99 17 := (hG_105 17 (by decide))
        have e126_18 : g91_105 18 = g85_99 18 := (hG_105 18 (by decide))
        have e127_23 : g91_105 23 = g85_99 23 := (hG_105 23 (by decide))
        exact ih16 (b + 1) g91_105 hT_105 hF_105 (by first | omega | (simp [up, setR] <;> omega)) (by rewrite [e106_10, e107_11, e108_12, e109_13]; assumption) (by rewrite [e110_8_10]; exact kcn) (by rewrite [e111_12, e112_13]; exact hbw) (by rewrite [e113_10, e114_11, e115_9]; exact hnm) (by first | omega | (simp [up, setR] <;> omega)) (by rewrite [e116_22_1]; omega) (by rewrite [e117_16, e118_17, e119_18, e120_23]; exact CPQ_s hcp hca rfl cs_at85 cl_at85 ck_at85 cw_at85 pl_at62 (fun x y x1 x2 y1 y2 => hnm b x y (by omega) (by omega) x1 x2 y1 y2) ewb) (by rewrite [e121_17, e122_18, e123_22_1]; intro c c1 c2; rw [cs_at85]; by_cases e : c = b; (rw [e, fup_eq]; omega); (rw [fup_ne _ _ e, cl_at85 c e]; have k9 := hca c c1 (by omega); omega)) (by rewrite [e124_16, e125_17, e126_18, e127_23]; exact LSQ_s hlq hca rfl cs_at85 cl_at85 ck_at85 c7_at91 q16b hm9 hck9.1 (CWK_c hck9 e17b).2.1 c6_at91 c8_at91 (fun x y x1 x2 y1 y2 => hnm b x y (by omega) (by omega) x1 x2 y1 y2) ewb) (by first | omega | (simp [up, setR] <;> omega))
  refine TT_sub [1, 2, 3, 4, 5, 0] rfl ?_
  have e128_10 : g35_15 10 = g13_3 10 := ((hG_15 10 (by decide))).trans (((hG_14 10 (by decide))).trans (hG_8 10 (by decide)))
  have e129_11 : g35_15 11 = g13_3 11 := ((hG_15 11 (by decide))).trans (((hG_14 11 (by decide))).trans (hG_8 11 (by decide)))
  have e130_12 : g35_15 12 = g13_3 12 := ((hG_15 12 (by decide))).trans (((hG_14 12 (by decide))).trans (hG_8 12 (by decide)))
  have e131_13 : g35_15 13 = g13_3 13 := ((hG_15 13 (by decide))).trans (((hG_14 13 (by decide))).trans (hG_8 13 (by decide)))
  have e132_8_10 : g35_15 8 10 = (g13_3 8) 10 := rd_ (((hG_15 8 (by decide))).trans (((hG_14 8 (by decide))).trans (hG_8 8 (by decide)))) rfl
  have e133_12 : g35_15 12 = g13_3 12 := ((hG_15 12 (by decide))).trans (((hG_14 12 (by decide))).trans (hG_8 12 (by decide)))
  have e134_13 : g35_15 13 = g13_3 13 := ((hG_15 13 (by decide))).trans (((hG_14 13 (by decide))).trans (hG_8 13 (by decide)))
  have e135_10 : g35_15 10 = g13_3 10 := ((hG_15 10 (by decide))).trans (((hG_14 10 (by decide))).trans (hG_8 10 (by decide)))
  have e136_11 : g35_15 11 = g13_3 11 := ((hG_15 11 (by decide))).trans (((hG_14 11 (by decide))).trans (hG_8 11 (by decide)))
  have e137_9 : g35_15 9 = g28_14 9 := (hG_15 9 (by decide))
  have e138_22_1 : g35_15 22 1 = (g35_15 22) 1 := rfl
  have e139_16 : g35_15 16 = h 16 := ((hG_15 16 (by decide))).trans (((hG_14 16 (by decide))).trans (((hG_8 16 (by decide))).trans (hG_3 16 (by decide))))
  have e140_17 : g35_15 17 = h 17 := ((hG_15 17 (by decide))).trans (((hG_14 17 (by decide))).trans (((hG_8 17 (by decide))).trans (hG_3 17 (by decide))))
  have e141_18 : g35_15 18 = h 18 := ((hG_15 18 (by decide))).trans (((hG_14 18 (by decide))).trans (((hG_8 18 (by decide))).trans (hG_3 18 (by decide))))
  have e142_23 : g35_15 23 = h 23 := ((hG_15 23 (by decide))).trans (((hG_14 23 (by decide))).trans (((hG_8 23 (by decide))).trans (hG_3 23 (by decide))))
  have e143_17 : g35_15 17 = h 17 := ((hG_15 17 (by decide))).trans (((hG_14 17 (by decide))).trans (((hG_8 17 (by decide))).trans (hG_3 17 (by decide))))
  have e144_18 : g35_15 18 = h 18 := ((hG_15 18 (by decide))).trans (((hG_14 18 (by decide))).trans (((hG_8 18 (by decide))).trans (hG_3 18 (by decide))))
  have e145_22_1 : g35_15 22 1 = (g35_15 22) 1 := rfl
  have e146_16 : g35_15 16 = h 16 := ((hG_15 16 (by decide))).trans (((hG_14 16 (by decide))).trans (((hG_8 16 (by decide))).trans (hG_3 16 (by decide))))
  have e147_17 : g35_15 17 = h 17 := ((hG_15 17 (by decide))).trans (((hG_14 17 (by decide))).trans (((hG_8 17 (by decide))).trans (hG_3 17 (by decide))))
  have e148_18 : g35_15 18 = h 18 := ((hG_15 18 (by decide))).trans (((hG_14 18 (by decide))).trans (((hG_8 18 (by decide))).trans (hG_3 18 (by decide))))
  have e149_19 : g35_15 19 = h 19 := ((hG_15 19 (by decide))).trans (((hG_14 19 (by decide))).trans (((hG_8 19 (by decide))).trans (hG_3 19 (by decide))))
  have e150_23 : g35_15 23 = h 23 := ((hG_15 23 (by decide))).trans (((hG_14 23 (by decide))).trans (((hG_8 23 (by decide))).trans (hG_3 23 (by decide))))
  exact L41_16 ((((10 : Int) - 0).toNat) + 1) 0 g35_15 hT_15 hF_15 (by first | omega | (simp [up, setR] <;> omega)) (by rewrite [e128_10, e129_11, e130_12, e131_13]; assumption) (by rewrite [e132_8_10]; exact k1_at13.2.2.2) (by rewrite [e133_12, e134_13]; intro b g1 g2; have k9 := lay_at13 b g1 g2; exact ⟨k9.2.2.1, k9.2.2.2⟩) (by rewrite [e135_10, e136_11, e137_9]; intro b x2 y2 g1 g2 g3 g4 g5 g6; have k9 := lay_at13 b g1 g2; have f1 := CXr hsd.1 hsd.2 hl b ⟨g1, g2⟩; rw [k9.1, k9.2.1]; have k8 := p1_at28 ((CY (h 1 2) l b + y2) * 8 + CX (h 1 1) l b + x2) (by omega) (by omega) (by rw [k1_at13.1]; exact xLT hsd.1 hsd.2 hl ⟨g1, g2⟩ ⟨g3, g4⟩ ⟨g5, g6⟩) (by rw [k1_at13.2.1]; exact yLT hsd.1 hsd.2 hl ⟨g1, g2⟩ ⟨g3, g4⟩ ⟨g5, g6⟩); rw [k1_at13.1, k1_at13.2.1, k1_at13.2.2.1] at k8; rw [k8, show (CY (h 1 2) l b + y2) * 8 + CX (h 1 1) l b + x2 = 8 * CY (h 1 2) l b + CX (h 1 1) l b + 8 * y2 + x2 by omega]) (by first | omega | (simp [up, setR] <;> omega)) (by rewrite [e138_22_1]; have i0 : IS (AR (h 1 1) (h 1 2) l) 0 = 0 := rfl; omega) (by rewrite [e139_16, e140_17, e141_18, e142_23]; intro c c1 c2; exfalso; omega) (by rewrite [e143_17, e144_18, e145_22_1]; intro c c1 c2; exfalso; omega) (by rewrite [e146_16, e147_17, e148_18, e149_19, e150_23]; intro c c1 c2; exfalso; omega) (Nat.lt_succ_self _)
set_option maxRecDepth 20000 in
theorem s_cencode_z (l n : Int) (h : Hp_) (hT : TY h) (hl : -2147483648 ≤ l ∧ l ≤ 2147483647) (hn : -2147483648 ≤ n ∧ n ≤ 2147483647) (hbd : BDQ (h 10) (h 12) (h 11) (h 13)) (hsd : (1 ≤ (h 1 1) ∧ (h 1 1) ≤ 8) ∧ (1 ≤ (h 1 2) ∧ (h 1 2) ≤ 8)) : CtrB yX11_encode cX11_encode 3 (some .int) rmB ly 1 6 [vR 0, vI l, vI n] h (fun r h' => (TY h' ∧ FR [5, 6, 8, 9, 10, 11, 12, 13, 14, 15, 16, 17, 18, 19, 20, 21, 22, 23, 24, 25, 26, 27, 28, 29, 30, 31, 32, 33, 34, 36, 37, 38, 39, 41, 42, 43] h h') ∧ ∃ z : Int, r = some (vI z) ∧ (0 ≤ z ∧ z ≤ 1024) ∧ (BDQ (h' 10) (h' 12) (h' 11) (h' 13)) ∧ ((0 ≤ l ∧ l ≤ 3) ∧ (1 ≤ n ∧ n ≤ 3)) ∧ ((h' 8 10) = 3 * l + 1) ∧ (∀ b : Int, 0 ≤ b → b < 3 * l + 1 → (h' 12) b = BW (h 1 1) l b ∧ (h' 13) b = BH (h 1 2) l b) ∧ (∀ b x2 y2 : Int, 0 ≤ b → b < 3 * l + 1 → 0 ≤ x2 → x2 < BW (h 1 1) l b → 0 ≤ y2 → y2 < BH (h 1 2) l b → (h' 9) (((h' 11) b + y2) * 8 + (h' 10) b + x2) = LE (h 1 1) (h 1 2) (fun i => (h 2) i - 128) l (8 * CY (h 1 2) l b + CX (h 1 1) l b + 8 * y2 + x2)) ∧ (CPQ (h 1 1) (h 1 2) (fun i => (h 2) i - 128) l (3 * l + 1) (h' 16) (h' 23) (h' 17) (h' 18)) ∧ (∀ c : Int, 0 ≤ c → c < (3 * l + 1) → 0 ≤ (h' 17) c ∧ (h' 17) c + (h' 18) c ≤ (h' 22 1)) ∧ (LSQ (h 1 1) (h 1 2) (fun i => (h 2) i - 128) l (3 * l + 1) (h' 16) (h' 23) (h' 17) (h' 18) (h' 19))) (fun h' => (TY h' ∧ FR [5, 6, 8, 9, 10, 11, 12, 13, 14, 15, 16, 17, 18, 19, 20, 21, 22, 23, 24, 25, 26, 27, 28, 29, 30, 31, 32, 33, 34, 36, 37, 38, 39, 41, 42, 43] h h') ∧ (BDQ (h' 10) (h' 12) (h' 11) (h' 13)) ∧ (¬((0 ≤ l ∧ l ≤ 3) ∧ (1 ≤ n ∧ n ≤ 3))) ∧ ((h' 8) = (h 8)) ∧ ((h' 9) = (h 9) ∧ (h' 10) = (h 10) ∧ (h' 11) = (h 11)) ∧ ((h' 12) = (h 12) ∧ (h' 13) = (h 13)) ∧ ((h' 16) = (h 16) ∧ (h' 17) = (h 17) ∧ (h' 18) = (h 18)) ∧ ((h' 22) = (h 22) ∧ (h' 23) = (h 23)) ∧ ((h' 19) = (h 19))) := by
  refine CtrB_of (by decide) (Nat.le_of_ble_eq_true rfl) ⟨by decide, by decide⟩ (fun K hK hQ => ?_)
  show TT K ly 0 0 0 [(0, vR 0), (1, vI l), (2, vI n)] [] h
  have hF : FR [5, 6, 8, 9, 10, 11, 12, 13, 14, 15, 16, 17, 18, 19, 20, 21, 22, 23, 24, 25, 26, 27, 28, 29, 30, 31, 32, 33, 34, 36, 37, 38, 39, 41, 42, 43] h h := FR_rf _ _
  refine TT_iload_n hK rfl 1 rfl dX11_encode_0 ?_
  refine iv_X11_69 hK (s_areLevels_x l h hT (by first | omega | (simp [up, setR] <;> omega))) ⟨by decide, by decide⟩ (by decide) rfl rfl (Nat.le_of_ble_eq_true rfl) ⟨by decide, by decide⟩ dX11_encode_1 ?_
  intro r9 g1_1 hp9
  obtain ⟨⟨hT_1, hG_1⟩, z1_1, hr9, hz_1, p1_1, p2_1⟩ := hp9
  rw [hr9]
  have hF_1 : FR [5, 6, 8, 9, 10, 11, 12, 13, 14, 15, 16, 17, 18, 19, 20, 21, 22, 23, 24, 25, 26, 27, 28, 29, 30, 31, 32, 33, 34, 36, 37, 38, 39, 41, 42, 43] h g1_1 := FR_tr hF hG_1 (by decide)
  show TT K ly 0 0 4 [(0, vR 0), (1, vI l), (2, vI n)] [vI z1_1] g1_1
  refine TT_if_eq hK (tgt := 14) (irm (by omega) (by omega)) dX11_encode_4 (by decide) (fun hb4_2 => ?_) (fun hb4_2 => ?_)
  · have e3_10 : g1_1 10 = h 10 := (hG_1 10 (by decide))
    have e4_11 : g1_1 11 = h 11 := (hG_1 11 (by decide))
    have e5_12 : g1_1 12 = h 12 := (hG_1 12 (by decide))
    have e6_13 : g1_1 13 = h 13 := (hG_1 13 (by decide))
    have e7_8 : g1_1 8 = h 8 := (hG_1 8 (by decide))
    have e8_10 : g1_1 10 = h 10 := (hG_1 10 (by decide))
    have e9_11 : g1_1 11 = h 11 := (hG_1 11 (by decide))
    have e10_9 : g1_1 9 = h 9 := (hG_1 9 (by decide))
    have e11_12 : g1_1 12 = h 12 := (hG_1 12 (by decide))
    have e12_13 : g1_1 13 = h 13 := (hG_1 13 (by decide))
    have e13_16 : g1_1 16 = h 16 := (hG_1 16 (by decide))
    have e14_17 : g1_1 17 = h 17 := (hG_1 17 (by decide))
    have e15_18 : g1_1 18 = h 18 := (hG_1 18 (by decide))
    have e16_22 : g1_1 22 = h 22 := (hG_1 22 (by decide))
    have e17_23 : g1_1 23 = h 23 := (hG_1 23 (by decide))
    have e18_19 : g1_1 19 = h 19 := (hG_1 19 (by decide))
    exact TT_throwB hK hQ 2 (by decide) ⟨⟨hT_1, hF_1⟩, (by rewrite [e3_10, e4_11, e5_12, e6_13]; first | assumption | exact hbd), (by omega), (by rewrite [e7_8]; rfl), (by rewrite [e8_10, e9_11, e10_9]; exact ⟨rfl, rfl, rfl⟩), (by rewrite [e11_12, e12_13]; exact ⟨rfl, rfl⟩), (by rewrite [e13_16, e14_17, e15_18]; exact ⟨rfl, rfl, rfl⟩), (by rewrite [e16_22, e17_23]; exact ⟨rfl, rfl⟩), (by rewrite [e18_19]; rfl)⟩ (Nat.le_of_ble_eq_true rfl) ⟨by decide, by decide⟩ dX11_encode_14 dX11_encode_17 dX11_encode_18 dX11_encode_20 dX11_encode_23
  · refine TT_iload_n hK rfl 2 rfl dX11_encode_7 ?_
    refine iv_X11_72 hK (s_areLayers_x n g1_1 hT_1 (by first | omega | (simp [up, setR] <;> omega))) ⟨by decide, by decide⟩ (by decide) rfl rfl (Nat.le_of_ble_eq_true rfl) ⟨by decide, by decide⟩ dX11_encode_8 ?_
    intro r9 g8_19 hp9
    obtain ⟨⟨hT_19, hG_19⟩, z8_19, hr9, hz_19, p1_19, p2_19⟩ := hp9
    rw [hr9]
    have hF_19 : FR [5, 6, 8, 9, 10, 11, 12, 13, 14, 15, 16, 17, 18, 19, 20, 21, 22, 23, 24, 25, 26, 27, 28, 29, 30, 31, 32, 33, 34, 36, 37, 38, 39, 41, 42, 43] h g8_19 := FR_tr hF_1 hG_19 (by decide)
    show TT K ly 0 0 11 [(0, vR 0), (1, vI l), (2, vI n)] [vI z8_19] g8_19
    refine TT_if_ne hK (tgt := 24) (irm (by omega) (by omega)) dX11_encode_11 (by decide) (fun hb11_20 => ?_) (fun hb11_20 => ?_)
    · refine TT_aload_n hK rfl 0 rfl dX11_encode_24 ?_
      refine gf_X11_29 hK (by decide) rfl (q := 7) rfl rfl dX11_encode_25 ?_
      refine TT_aload_n hK rfl 0 rfl dX11_encode_28 ?_
      refine gf_X11_10 hK (by decide) rfl (q := 1) rfl rfl dX11_encode_29 ?_
      refine TT_iload_n hK rfl 1 rfl dX11_encode_32 ?_
      refine TT_iload_n hK rfl 2 rfl dX11_encode_33 ?_
      refine TT_aload_n hK rfl 0 rfl dX11_encode_34 ?_
      refine gf_X11_22 hK (by decide) rfl (q := 5) rfl rfl dX11_encode_35 ?_
      have e21_10 : g8_19 10 = h 10 := ((hG_19 10 (by decide))).trans (hG_1 10 (by decide))
      have e22_11 : g8_19 11 = h 11 := ((hG_19 11 (by decide))).trans (hG_1 11 (by decide))
      have e23_12 : g8_19 12 = h 12 := ((hG_19 12 (by decide))).trans (hG_1 12 (by decide))
      have e24_13 : g8_19 13 = h 13 := ((hG_19 13 (by decide))).trans (hG_1 13 (by decide))
      have e25_1_1 : g8_19 1 1 = (h 1) 1 := rd_ (((hG_19 1 (by decide))).trans (hG_1 1 (by decide))) rfl
      have e26_1_2 : g8_19 1 2 = (h 1) 2 := rd_ (((hG_19 1 (by decide))).trans (hG_1 1 (by decide))) rfl
      refine iv_X11_77 hK (s_pack_z l n g8_19 hT_19 (by first | omega | (simp [up, setR] <;> omega)) (by first | omega | (simp [up, setR] <;> omega)) (by rewrite [e21_10, e22_11, e23_12, e24_13]; first | assumption | exact hbd) (by rewrite [e25_1_1, e26_1_2]; first | omega | (simp [up, setR] <;> omega))) (by decide) rfl ⟨by decide, by decide⟩ (by decide) rfl rfl (Nat.le_of_ble_eq_true rfl) ⟨by decide, by decide⟩ dX11_encode_38 ?_
      intro r9 g38_27 hp9
      obtain ⟨⟨hT_27, hG_27⟩, hr9, p1_27, c1_27, c2_27, c3_27, d1_27, d2_27, d3_27⟩ := hp9
      rw [hr9]
      have hF_27 : FR [5, 6, 8, 9, 10, 11, 12, 13, 14, 15, 16, 17, 18, 19, 20, 21, 22, 23, 24, 25, 26, 27, 28, 29, 30, 31, 32, 33, 34, 36, 37, 38, 39, 41, 42, 43] h g38_27 := FR_tr hF_19 hG_27 (by decide)
      rw [show g8_19 1 1 = (h 1) 1 from rd_ (((hG_19 1 (by decide))).trans (hG_1 1 (by decide))) rfl] at c2_27
      rw [show g8_19 1 2 = (h 1) 2 from rd_ (((hG_19 1 (by decide))).trans (hG_1 1 (by decide))) rfl] at c2_27
      rw [show g8_19 1 1 = (h 1) 1 from rd_ (((hG_19 1 (by decide))).trans (hG_1 1 (by decide))) rfl] at c3_27
      rw [show g8_19 1 2 = (h 1) 2 from rd_ (((hG_19 1 (by decide))).trans (hG_1 1 (by decide))) rfl] at c3_27
      rw [show g8_19 2 = h 2 from ((hG_19 2 (by decide))).trans (hG_1 2 (by decide))] at c3_27
      rw [show g8_19 1 1 = (h 1) 1 from rd_ (((hG_19 1 (by decide))).trans (hG_1 1 (by decide))) rfl] at d1_27
      rw [show g8_19 1 2 = (h 1) 2 from rd_ (((hG_19 1 (by decide))).trans (hG_1 1 (by decide))) rfl] at d1_27
      rw [show g8_19 2 = h 2 from ((hG_19 2 (by decide))).trans (hG_1 2 (by decide))] at d1_27
      rw [show g8_19 1 1 = (h 1) 1 from rd_ (((hG_19 1 (by decide))).trans (hG_1 1 (by decide))) rfl] at d3_27
      rw [show g8_19 1 2 = (h 1) 2 from rd_ (((hG_19 1 (by decide))).trans (hG_1 1 (by decide))) rfl] at d3_27
      rw [show g8_19 2 = h 2 from ((hG_19 2 (by decide))).trans (hG_1 2 (by decide))] at d3_27
      have c1_at38 := c1_27
      have c2_at38 := c2_27
      have c3_at38 := c3_27
      have d1_at38 := d1_27
      have d2_at38 := d2_27
      have d3_at38 := d3_27
      show TT K ly 0 0 41 [(0, vR 0), (1, vI l), (2, vI n)] [] g38_27
      refine TT_aload_n hK rfl 0 rfl dX11_encode_41 ?_
      refine gf_X11_22 hK (by decide) rfl (q := 5) rfl rfl dX11_encode_42 ?_
      refine iv_X11_81 hK (s_X1_length_5 g38_27 hT_27 ) (by decide) rfl ⟨by decide, by decide⟩ (by decide) rfl rfl (Nat.le_of_ble_eq_true rfl) ⟨by decide, by decide⟩ dX11_encode_45 ?_
      intro r9 g45_28 hp9
      obtain ⟨⟨hT_28, hG_28⟩, z45_28, hr9, hz_28⟩ := hp9
      rw [hr9]
      have hF_28 : FR [5, 6, 8, 9, 10, 11, 12, 13, 14, 15, 16, 17, 18, 19, 20, 21, 22, 23, 24, 25, 26, 27, 28, 29, 30, 31, 32, 33, 34, 36, 37, 38, 39, 41, 42, 43] h g45_28 := FR_tr hF_27 hG_28 (by decide)
      show TT K ly 0 0 48 [(0, vR 0), (1, vI l), (2, vI n)] [vI z45_28] g45_28
      refine TT_widen (kc' := 1) (ks' := 6) (by decide) (by decide) ?_
      refine TT_iretB hK hQ ?_ dX11_encode_48
      have e29_10 : g45_28 10 = g38_27 10 := (hG_28 10 (by decide))
      have e30_11 : g45_28 11 = g38_27 11 := (hG_28 11 (by decide))
      have e31_12 : g45_28 12 = g38_27 12 := (hG_28 12 (by decide))
      have e32_13 : g45_28 13 = g38_27 13 := (hG_28 13 (by decide))
      have e33_8_10 : g45_28 8 10 = (g38_27 8) 10 := rd_ (hG_28 8 (by decide)) rfl
      have e34_12 : g45_28 12 = g38_27 12 := (hG_28 12 (by decide))
      have e35_13 : g45_28 13 = g38_27 13 := (hG_28 13 (by decide))
      have e36_10 : g45_28 10 = g38_27 10 := (hG_28 10 (by decide))
      have e37_11 : g45_28 11 = g38_27 11 := (hG_28 11 (by decide))
      have e38_9 : g45_28 9 = g38_27 9 := (hG_28 9 (by decide))
      have e39_16 : g45_28 16 = g38_27 16 := (hG_28 16 (by decide))
      have e40_17 : g45_28 17 = g38_27 17 := (hG_28 17 (by decide))
      have e41_18 : g45_28 18 = g38_27 18 := (hG_28 18 (by decide))
      have e42_23 : g45_28 23 = g38_27 23 := (hG_28 23 (by decide))
      have e43_17 : g45_28 17 = g38_27 17 := (hG_28 17 (by decide))
      have e44_18 : g45_28 18 = g38_27 18 := (hG_28 18 (by decide))
      have e45_22_1 : g45_28 22 1 = (g38_27 22) 1 := rd_ (hG_28 22 (by decide)) rfl
      have e46_16 : g45_28 16 = g38_27 16 := (hG_28 16 (by decide))
      have e47_17 : g45_28 17 = g38_27 17 := (hG_28 17 (by decide))
      have e48_18 : g45_28 18 = g38_27 18 := (hG_28 18 (by decide))
      have e49_19 : g45_28 19 = g38_27 19 := (hG_28 19 (by decide))
      have e50_23 : g45_28 23 = g38_27 23 := (hG_28 23 (by decide))
      exact ⟨⟨hT_28, hF_28⟩, z45_28, rfl, (by omega), (by rewrite [e29_10, e30_11, e31_12, e32_13]; first | assumption | exact hbd), (by omega), (by rewrite [e33_8_10]; exact c1_at38), (by rewrite [e34_12, e35_13]; exact c2_at38), (by rewrite [e36_10, e37_11, e38_9]; exact c3_at38), (by rewrite [e39_16, e40_17, e41_18, e42_23]; exact d1_at38), (by rewrite [e43_17, e44_18, e45_22_1]; exact d2_at38), (by rewrite [e46_16, e47_17, e48_18, e49_19, e50_23]; exact d3_at38)⟩
    · have e51_10 : g8_19 10 = h 10 := ((hG_19 10 (by decide))).trans (hG_1 10 (by decide))
      have e52_11 : g8_19 11 = h 11 := ((hG_19 11 (by decide))).trans (hG_1 11 (by decide))
      have e53_12 : g8_19 12 = h 12 := ((hG_19 12 (by decide))).trans (hG_1 12 (by decide))
      have e54_13 : g8_19 13 = h 13 := ((hG_19 13 (by decide))).trans (hG_1 13 (by decide))
      have e55_8 : g8_19 8 = h 8 := ((hG_19 8 (by decide))).trans (hG_1 8 (by decide))
      have e56_10 : g8_19 10 = h 10 := ((hG_19 10 (by decide))).trans (hG_1 10 (by decide))
      have e57_11 : g8_19 11 = h 11 := ((hG_19 11 (by decide))).trans (hG_1 11 (by decide))
      have e58_9 : g8_19 9 = h 9 := ((hG_19 9 (by decide))).trans (hG_1 9 (by decide))
      have e59_12 : g8_19 12 = h 12 := ((hG_19 12 (by decide))).trans (hG_1 12 (by decide))
      have e60_13 : g8_19 13 = h 13 := ((hG_19 13 (by decide))).trans (hG_1 13 (by decide))
      have e61_16 : g8_19 16 = h 16 := ((hG_19 16 (by decide))).trans (hG_1 16 (by decide))
      have e62_17 : g8_19 17 = h 17 := ((hG_19 17 (by decide))).trans (hG_1 17 (by decide))
      have e63_18 : g8_19 18 = h 18 := ((hG_19 18 (by decide))).trans (hG_1 18 (by decide))
      have e64_22 : g8_19 22 = h 22 := ((hG_19 22 (by decide))).trans (hG_1 22 (by decide))
      have e65_23 : g8_19 23 = h 23 := ((hG_19 23 (by decide))).trans (hG_1 23 (by decide))
      have e66_19 : g8_19 19 = h 19 := ((hG_19 19 (by decide))).trans (hG_1 19 (by decide))
      exact TT_throwB hK hQ 2 (by decide) ⟨⟨hT_19, hF_19⟩, (by rewrite [e51_10, e52_11, e53_12, e54_13]; first | assumption | exact hbd), (by omega), (by rewrite [e55_8]; rfl), (by rewrite [e56_10, e57_11, e58_9]; exact ⟨rfl, rfl, rfl⟩), (by rewrite [e59_12, e60_13]; exact ⟨rfl, rfl⟩), (by rewrite [e61_16, e62_17, e63_18]; exact ⟨rfl, rfl, rfl⟩), (by rewrite [e64_22, e65_23]; exact ⟨rfl, rfl⟩), (by rewrite [e66_19]; rfl)⟩ (Nat.le_of_ble_eq_true rfl) ⟨by decide, by decide⟩ dX11_encode_14 dX11_encode_17 dX11_encode_18 dX11_encode_20 dX11_encode_23
set_option maxRecDepth 20000 in
theorem s_leastLength_e (b q : Int) (h : Hp_) (hT : TY h) (hb : -2147483648 ≤ b ∧ b ≤ 2147483647) (hq : -2147483648 ≤ q ∧ q ≤ 2147483647) : Ctr yX3_leastLength cX3_leastLength 3 (some .int) (rmd 1) ly ly 0 0 [vR 7, vI b, vI q] h (fun r h' => (TY h' ∧ FR [] h h') ∧ ∃ z : Int, r = some (vI z) ∧ (-100000 ≤ z ∧ z ≤ 1024) ∧ (z = LLV b q (h 8 10) (h 16) (h 19))) := by
  refine Ctr_of (by decide) (Nat.le_of_ble_eq_true rfl) ⟨Nat.le_refl _, Nat.le_refl _⟩ (fun K hK hQ _ => ?_)
  show TT K ly 0 0 0 [(0, vR 7), (1, vI b), (2, vI q)] [] h
  have hF : FR [] h h := FR_rf _ _
  refine TT_aload_n hK rfl 0 rfl dX3_leastLength_0 ?_
  refine gf_X3_12 hK (by decide) rfl (q := 8) rfl rfl dX3_leastLength_1 ?_
  refine TT_iload_n hK rfl 1 rfl dX3_leastLength_4 ?_
  refine iv_X3_74 hK (s_hasBand_x b h hT (by first | omega | (simp [up, setR] <;> omega))) (by decide) rfl ⟨by decide, by decide⟩ (by decide) rfl rfl (Nat.le_of_ble_eq_true rfl) ⟨by decide, by decide⟩ dX3_leastLength_5 ?_
  intro r9 g5_1 hp9
  obtain ⟨⟨hT_1, hG_1⟩, z5_1, hr9, hz_1, p1_1, p2_1⟩ := hp9
  rw [hr9]
  have hF_1 : FR [] h g5_1 := FR_tr hF hG_1 (by decide)
  rw [show h 8 10 = (h 8) 10 from rfl] at p1_1
  rw [show h 8 10 = (h 8) 10 from rfl] at p2_1
  show TT K ly 0 0 8 [(0, vR 7), (1, vI b), (2, vI q)] [vI z5_1] g5_1
  refine TT_if_eq hK (tgt := 28) (irm (by omega) (by omega)) dX3_leastLength_8 (by decide) (fun hb8_2 => ?_) (fun hb8_2 => ?_)
  · refine TT_ldc hK lc_X3_78 dX3_leastLength_28 ?_
    refine TT_iret hK hQ ?_ dX3_leastLength_30
    exact ⟨⟨hT_1, hF_1⟩, (-100000), rfl, (by omega), (by first | exact LLV_n (by omega) | exact LLV_p (by omega) (by rw [show b * 35 = 35 * b by omega]) | exact LLV_p (by omega) rfl)⟩
  · refine TT_iload_n hK rfl 2 rfl dX3_leastLength_11 ?_
    refine TT_if_lt hK (tgt := 28) (irm (by omega) (by omega)) dX3_leastLength_12 (by decide) (fun hb12_3 => ?_) (fun hb12_3 => ?_)
    · refine TT_ldc hK lc_X3_78 dX3_leastLength_28 ?_
      refine TT_iret hK hQ ?_ dX3_leastLength_30
      exact ⟨⟨hT_1, hF_1⟩, (-100000), rfl, (by omega), (by first | exact LLV_n (by omega) | exact LLV_p (by omega) (by rw [show b * 35 = 35 * b by omega]) | exact LLV_p (by omega) rfl)⟩
    · refine TT_iload_n hK rfl 2 rfl dX3_leastLength_15 ?_
      refine TT_aload_n hK rfl 0 rfl dX3_leastLength_16 ?_
      refine gf_X3_18 hK (by decide) rfl (q := 16) rfl rfl dX3_leastLength_17 ?_
      refine TT_iload_n hK rfl 1 rfl dX3_leastLength_20 ?_
      refine TT_iald hK (o := 16) (n := 10) (by decide) rfl (by first | omega | (simp [up, setR] <;> omega)) (by first | omega | (simp [up, setR] <;> omega)) (v := (h 16) b) (rd_ (hG_1 16 (by decide)) rfl) dX3_leastLength_21 ?_
      have r4 := ty_16 (i := b) (v := (h 16) b) hT_1 (rd_ (hG_1 16 (by decide)) rfl) (by omega) (by omega)
      refine iv_X3_85 hK (s_cpassesOf_e ((h 16) b) g5_1 hT_1 (by first | omega | (simp [up, setR] <;> omega))) ⟨by decide, by decide⟩ (by decide) rfl rfl (Nat.le_of_ble_eq_true rfl) ⟨by decide, by decide⟩ dX3_leastLength_22 ?_
      intro r9 g22_5 hp9
      obtain ⟨⟨hT_5, hG_5⟩, z22_5, hr9, hz_5, e_5⟩ := hp9
      rw [hr9]
      have hF_5 : FR [] h g22_5 := FR_tr hF_1 hG_5 (by decide)
      have e_at22 := e_5
      show TT K ly 0 0 25 [(0, vR 7), (1, vI b), (2, vI q)] [vI z22_5, vI q] g22_5
      refine TT_icmp_le hK (tgt := 31) (irm (by omega) (by omega)) (irm (by omega) (by omega)) dX3_leastLength_25 (by decide) (fun hb25_6 => ?_) (fun hb25_6 => ?_)
      · refine TT_aload_n hK rfl 0 rfl dX3_leastLength_31 ?_
        refine gf_X3_28 hK (by decide) rfl (q := 19) rfl rfl dX3_leastLength_32 ?_
        refine TT_iload_n hK rfl 1 rfl dX3_leastLength_35 ?_
        refine TT_bipush hK (by decide) dX3_leastLength_36 ?_
        refine TT_imul hK dX3_leastLength_38 ?_
        refine TT_iload_n hK rfl 2 rfl dX3_leastLength_39 ?_
        refine TT_iadd hK dX3_leastLength_40 ?_
        refine TT_iald hK (o := 19) (n := 350) (by decide) rfl (by first | omega | (simp [up, setR] <;> omega)) (by first | omega | (simp [up, setR] <;> omega)) (v := (h 19) ((b * 35) + q)) (rd_ (((hG_5 19 (by decide))).trans (hG_1 19 (by decide))) rfl) dX3_leastLength_41 ?_
        have r7 := ty_19 (i := (b * 35) + q) (v := (h 19) ((b * 35) + q)) hT_5 (rd_ (((hG_5 19 (by decide))).trans (hG_1 19 (by decide))) rfl) (by omega) (by omega)
        refine TT_iret hK hQ ?_ dX3_leastLength_42
        exact ⟨⟨hT_5, hF_5⟩, ((h 19) ((b * 35) + q)), rfl, (by omega), (by first | exact LLV_n (by omega) | exact LLV_p (by omega) (by rw [show b * 35 = 35 * b by omega]) | exact LLV_p (by omega) rfl)⟩
      · refine TT_ldc hK lc_X3_78 dX3_leastLength_28 ?_
        refine TT_iret hK hQ ?_ dX3_leastLength_30
        exact ⟨⟨hT_5, hF_5⟩, (-100000), rfl, (by omega), (by first | exact LLV_n (by omega) | exact LLV_p (by omega) (by rw [show b * 35 = 35 * b by omega]) | exact LLV_p (by omega) rfl)⟩
set_option maxRecDepth 20000 in
theorem s_cleast_e (b p : Int) (h : Hp_) (hT : TY h) (hb : -2147483648 ≤ b ∧ b ≤ 2147483647) (hp : -2147483648 ≤ p ∧ p ≤ 2147483647) : Ctr yX11_least cX11_least 3 (some .int) (rmd 2) ly ly 0 0 [vR 0, vI b, vI p] h (fun r h' => (TY h' ∧ FR [] h h') ∧ ∃ z : Int, r = some (vI z) ∧ (-2147483648 ≤ z ∧ z ≤ 2147483647) ∧ (z = LLV b p (h 8 10) (h 16) (h 19))) := by
  refine Ctr_of (by decide) (Nat.le_of_ble_eq_true rfl) ⟨Nat.le_refl _, Nat.le_refl _⟩ (fun K hK hQ _ => ?_)
  show TT K ly 0 0 0 [(0, vR 0), (1, vI b), (2, vI p)] [] h
  have hF : FR [] h h := FR_rf _ _
  refine TT_aload_n hK rfl 0 rfl dX11_least_0 ?_
  refine gf_X11_29 hK (by decide) rfl (q := 7) rfl rfl dX11_least_1 ?_
  refine TT_iload_n hK rfl 1 rfl dX11_least_4 ?_
  refine TT_iload_n hK rfl 2 rfl dX11_least_5 ?_
  refine iv_X11_103 hK (s_leastLength_e b p h hT (by first | omega | (simp [up, setR] <;> omega)) (by first | omega | (simp [up, setR] <;> omega))) (by decide) rfl ⟨by decide, by decide⟩ (by decide) rfl rfl (Nat.le_of_ble_eq_true rfl) ⟨by decide, by decide⟩ dX11_least_6 ?_
  intro r9 g6_1 hp9
  obtain ⟨⟨hT_1, hG_1⟩, z6_1, hr9, hz_1, q1_1⟩ := hp9
  rw [hr9]
  have hF_1 : FR [] h g6_1 := FR_tr hF hG_1 (by decide)
  rw [show h 8 10 = (h 8) 10 from rfl] at q1_1
  show TT K ly 0 0 9 [(0, vR 0), (1, vI b), (2, vI p)] [vI z6_1] g6_1
  refine TT_iret hK hQ ?_ dX11_least_9
  exact ⟨⟨hT_1, hF_1⟩, z6_1, rfl, (by omega), (by assumption)⟩
set_option maxRecDepth 20000 in
theorem s_least_e (b p : Int) (h : Hp_) (hT : TY h) (hb : -2147483648 ≤ b ∧ b ≤ 2147483647) (hp : -2147483648 ≤ p ∧ p ≤ 2147483647) : Ctr yX12_least cX12_least 3 (some .int) (rmd 2) ly ly 0 0 [vR 73, vI b, vI p] h (fun r h' => (TY h' ∧ FRM [73] [2] h h') ∧ ∃ z : Int, r = some (vI z) ∧ (-2147483648 ≤ z ∧ z ≤ 2147483647) ∧ (z = LLV b p (h 73 18) (h 83) (h 92))) := by
  refine Ctr_of (by decide) (Nat.le_of_ble_eq_true rfl) ⟨Nat.le_refl _, Nat.le_refl _⟩ (fun K hK hQ _ => ?_)
  show TT K ly 0 0 0 [(0, vR 73), (1, vI b), (2, vI p)] [] h
  have hF : FRM [73] [2] h h := FRM_rf _ _ _
  refine TT_aload_n hK rfl 0 rfl dX12_least_0 ?_
  refine TT_iconst hK dX12_least_1 ?_
  refine pf_X12_117 hK (by decide) rfl dX12_least_2 ?_
  refine TT_hp (h' := setO h 73 (fup (h 73) 2 0)) (up_can rfl rfl rfl) ?_
  have hT_1 : TY (setO h 73 (fup (h 73) 2 0)) := tu_73_2 hT (show up h 73 2 0 = (setO h 73 (fup (h 73) 2 0)) from up_can rfl rfl rfl) (by omega)
  have hF_1 : FRM [73] [2] h (setO h 73 (fup (h 73) 2 0)) := FRM_f (show up h 73 2 0 = (setO h 73 (fup (h 73) 2 0)) from up_can rfl rfl rfl) hF (by decide) (by decide)
  refine TT_aload_n hK rfl 0 rfl dX12_least_5 ?_
  refine TT_iload_n hK rfl 1 rfl dX12_least_6 ?_
  refine iv_X12_361 hK (s_isBand_y b (setO h 73 (fup (h 73) 2 0)) hT_1 (by first | omega | (simp [up, setR] <;> omega))) (by decide) rfl ⟨by decide, by decide⟩ (by decide) rfl rfl (Nat.le_of_ble_eq_true rfl) ⟨by decide, by decide⟩ dX12_least_7 ?_
  intro r9 g7_2 hp9
  obtain ⟨⟨hT_2, hG_2⟩, z7_2, hr9, hz_2, p1_2, p2_2⟩ := hp9
  rw [hr9]
  have hF_2 : FRM [73] [2] h g7_2 := FRM_tr hF_1 hG_2 (by decide) (by decide)
  rw [show (setO h 73 (fup (h 73) 2 0)) 73 18 = (h 73) 18 from rd_ (sOf_eq _ _ _) (fup_ne _ _ (by decide))] at p1_2
  rw [show (setO h 73 (fup (h 73) 2 0)) 73 18 = (h 73) 18 from rd_ (sOf_eq _ _ _) (fup_ne _ _ (by decide))] at p2_2
  show TT K ly 0 0 10 [(0, vR 73), (1, vI b), (2, vI p)] [vI z7_2] g7_2
  refine TT_if_eq hK (tgt := 40) (irm (by omega) (by omega)) dX12_least_10 (by decide) (fun hb10_3 => ?_) (fun hb10_3 => ?_)
  · refine TT_ldc hK lc_X12_128 dX12_least_40 ?_
    refine TT_iret hK hQ ?_ dX12_least_42
    exact ⟨⟨hT_2, hF_2⟩, (-100000), rfl, (by omega), (by first | exact LLV_n (by omega) | exact LLV_p (by omega) (by rw [show b * 35 = 35 * b by omega]) | exact LLV_p (by omega) rfl)⟩
  · refine TT_iload_n hK rfl 2 rfl dX12_least_13 ?_
    refine TT_iconst hK dX12_least_14 ?_
    refine TT_aload_n hK rfl 0 rfl dX12_least_15 ?_
    refine TT_iload_n hK rfl 1 rfl dX12_least_16 ?_
    refine iv_X12_296 hK (s_passesOf_x b g7_2 hT_2 (by first | omega | (simp [up, setR] <;> omega))) (by decide) rfl ⟨by decide, by decide⟩ (by decide) rfl rfl (Nat.le_of_ble_eq_true rfl) ⟨by decide, by decide⟩ dX12_least_17 ?_
    intro r9 g17_4 hp9
    obtain ⟨⟨hT_4, hG_4⟩, z17_4, hr9, hz_4, p1_4, p2_4⟩ := hp9
    rw [hr9]
    have hF_4 : FRM [73] [2] h g17_4 := FRM_tr hF_2 hG_4 (by decide) (by decide)
    rw [show g7_2 83 = h 83 from ((hG_2.1 83 (by decide))).trans (sOf_ne _ _ (by decide))] at p2_4
    have p2_at17 := p2_4
    show TT K ly 0 0 20 [(0, vR 73), (1, vI b), (2, vI p)] [vI z17_4, vI 0, vI p] g17_4
    refine iv_X12_120 hK (s_X12_within p 0 z17_4 g17_4 hT_4 (by first | omega | (simp [up, setR] <;> omega)) (by first | omega | (simp [up, setR] <;> omega)) (by first | omega | (simp [up, setR] <;> omega))) ⟨by decide, by decide⟩ (by decide) rfl rfl (Nat.le_of_ble_eq_true rfl) ⟨by decide, by decide⟩ dX12_least_20 ?_
    intro r9 g20_5 hp9
    obtain ⟨⟨hT_5, hG_5⟩, z20_5, hr9, hz_5, p1_5, p2_5⟩ := hp9
    rw [hr9]
    have hF_5 : FRM [73] [2] h g20_5 := FRM_tr hF_4 hG_5 (by decide) (by decide)
    show TT K ly 0 0 23 [(0, vR 73), (1, vI b), (2, vI p)] [vI z20_5] g20_5
    refine TT_if_eq hK (tgt := 40) (irm (by omega) (by omega)) dX12_least_23 (by decide) (fun hb23_6 => ?_) (fun hb23_6 => ?_)
    · refine TT_ldc hK lc_X12_128 dX12_least_40 ?_
      refine TT_iret hK hQ ?_ dX12_least_42
      exact ⟨⟨hT_5, hF_5⟩, (-100000), rfl, (by omega), (by first | exact LLV_n (by omega) | exact LLV_p (by omega) (by rw [show b * 35 = 35 * b by omega]) | exact LLV_p (by omega) rfl)⟩
    · refine TT_aload_n hK rfl 0 rfl dX12_least_26 ?_
      refine gf_X12_72 hK (by decide) rfl (q := 92) rfl rfl dX12_least_27 ?_
      refine TT_bipush hK (by decide) dX12_least_30 ?_
      refine TT_iload_n hK rfl 1 rfl dX12_least_32 ?_
      refine TT_imul hK dX12_least_33 ?_
      refine TT_iload_n hK rfl 2 rfl dX12_least_34 ?_
      refine TT_iadd hK dX12_least_35 ?_
      refine TT_iald hK (o := 92) (n := 350) (by decide) rfl (by first | omega | (simp [up, setR] <;> omega)) (by first | omega | (simp [up, setR] <;> omega)) (v := (h 92) ((35 * b) + p)) (rd_ (((hG_5.1 92 (by decide))).trans (((hG_4.1 92 (by decide))).trans (((hG_2.1 92 (by decide))).trans (sOf_ne _ _ (by decide))))) rfl) dX12_least_36 ?_
      have r7 := ty_92 (i := (35 * b) + p) (v := (h 92) ((35 * b) + p)) hT_5 (rd_ (((hG_5.1 92 (by decide))).trans (((hG_4.1 92 (by decide))).trans (((hG_2.1 92 (by decide))).trans (sOf_ne _ _ (by decide))))) rfl) (by omega) (by omega)
      refine TT_goto hK (tgt := 42) dX12_least_37 (by decide) ?_
      refine TT_iret hK hQ ?_ dX12_least_42
      exact ⟨⟨hT_5, hF_5⟩, ((h 92) ((35 * b) + p)), rfl, (by omega), (by first | exact LLV_n (by omega) | exact LLV_p (by omega) (by rw [show b * 35 = 35 * b by omega]) | exact LLV_p (by omega) rfl)⟩

def rfC (a r : Int → Int) (p : Int) : Int := if r p = 0 then (if 0 < rowS a p + colS a p + acrS a p then 15 else 14) else 16
def rfnT (M : Int → Int) (pl p : Int) (s : TS_) : TS_ := if s.1 p ≠ 0 ∧ s.2.1 p = 0 then (s.1, s.2.1, fup s.2.2.1 p 1, s.2.2.2 ++ [(rfC s.1 s.2.2.1 p, bS M pl p)]) else s
def quT (a t : Int → Int) (kd f : Int) : Prop := ∀ k : Int, 0 ≤ k → k < 4 → a (f + k * 10) = 0 ∧ t (f + k * 10) = 0 ∧ ctxS a kd (f + k * 10) = 0
def whT (M : Int → Int) (pl f : Int) : Int := if bS M pl f ≠ 0 then 0 else if bS M pl (f + 10) ≠ 0 then 1 else if bS M pl (f + 20) ≠ 0 then 2 else if bS M pl (f + 30) ≠ 0 then 3 else 4
def qvT (M : Int → Int) (pl f : Int) (s : TS_) : TS_ := if whT M pl f < 4 then evT (evT (evT s 17 1) 18 (whT M pl f / 2 % 2)) 18 (whT M pl f % 2) else evT s 17 0
noncomputable def nxT (a t M : Int → Int) (kd pl f n : Int) : Int := @ite _ (n = 4 ∧ quT a t kd f) (Classical.propDecidable _) (whT M pl f + 1) 0
noncomputable def preT (M : Int → Int) (kd pl f n : Int) (s : TS_) : TS_ := @ite _ (n = 4 ∧ quT s.1 s.2.1 kd f) (Classical.propDecidable _) (if whT M pl f < 4 then wkT M (f + whT M pl f * 10) (qvT M pl f s) else qvT M pl f s) s
def clT (M : Int → Int) (kd pl p : Int) (s : TS_) : TS_ := if s.1 p = 0 ∧ s.2.1 p = 0 then (if bS M pl p = 1 then wkT M p (evT s (ctxS s.1 kd p) (bS M pl p)) else evT s (ctxS s.1 kd p) (bS M pl p)) else s
noncomputable def cnT (M : Int → Int) (kd pl f n : Int) (s : TS_) : TS_ := itT (clT M kd pl) (f + nxT s.1 s.2.1 M kd pl f n * 10) (n - nxT s.1 s.2.1 M kd pl f n).toNat (preT M kd pl f n s)
theorem RPQ_ev {a t r c b c' b' : Int → Int} {n n' X B x z : Int} {s : TS_} (h : RPQ a t r n c b s) (ht : ∀ T : List (Int × Int), TPE n c b T → TPE n' c' b' (T ++ [(X, B)])) (hX : X = x) (hB : B = z) : RPQ a t r n' c' b' (evT s x z) := by
  subst hX hB
  exact ⟨h.1, h.2.1, h.2.2.1, ht _ h.2.2.2⟩
theorem rfnT_0 {a t r c b M : Int → Int} {n p pl : Int} {s : TS_} (h : RPQ a t r n c b s) (hp : ¬ (a p ≠ 0 ∧ t p = 0)) : RPQ a t r n c b (rfnT M pl p s) := by
  unfold rfnT
  rw [← h.1, ← h.2.1, if_neg hp]
  exact h
theorem rfnT_1 {a t r c b c' b' M : Int → Int} {n n' p pl cx z : Int} {s : TS_} (h : RPQ a t r n c b s) (hp : a p ≠ 0 ∧ t p = 0) (hc : cx = if r p = 0 then (if 0 < rowS a p + colS a p + acrS a p then 15 else 14) else 16) (hz : z = bS M pl p) (ht : ∀ T : List (Int × Int), TPE n c b T → TPE n' c' b' (T ++ [(cx, z)])) : RPQ a t (fup r p 1) n' c' b' (rfnT M pl p s) := by
  obtain ⟨h1, h2, h3, h4⟩ := h
  subst h1 h2 h3 hz
  unfold rfnT
  rw [if_pos hp]
  have k := ht _ h4
  rw [hc] at k
  exact ⟨rfl, rfl, rfl, k⟩
theorem whT_1 {M : Int → Int} {pl f w : Int} (hw : 0 ≤ w ∧ w ≤ 4) (hq : ∀ k : Int, 0 ≤ k → k < w → bS M pl (f + k * 10) = 0) (he : w = 4 ∨ (w < 4 ∧ bS M pl (f + w * 10) ≠ 0)) : w = whT M pl f := by
  unfold whT
  have z0 : 0 < w → bS M pl f = 0 := fun q => by have := hq 0 (by omega) q; rw [show f + 0 * 10 = f by omega] at this; exact this
  have z1 : 1 < w → bS M pl (f + 10) = 0 := fun q => by have := hq 1 (by omega) q; rw [show f + 1 * 10 = f + 10 by omega] at this; exact this
  have z2 : 2 < w → bS M pl (f + 20) = 0 := fun q => by have := hq 2 (by omega) q; rw [show f + 2 * 10 = f + 20 by omega] at this; exact this
  have z3 : 3 < w → bS M pl (f + 30) = 0 := fun q => by have := hq 3 (by omega) q; rw [show f + 3 * 10 = f + 30 by omega] at this; exact this
  rcases he with he | ⟨h1, h2⟩
  · rw [if_neg (fun q => q (z0 (by omega))), if_neg (fun q => q (z1 (by omega))), if_neg (fun q => q (z2 (by omega))), if_neg (fun q => q (z3 (by omega)))]
    exact he
  · by_cases q0 : w = 0
    · subst q0
      rw [show f + 0 * 10 = f by omega] at h2
      rw [if_pos h2]
    by_cases q1 : w = 1
    · subst q1
      rw [show f + 1 * 10 = f + 10 by omega] at h2
      rw [if_neg (fun q => q (z0 (by omega))), if_pos h2]
    by_cases q2 : w = 2
    · subst q2
      rw [show f + 2 * 10 = f + 20 by omega] at h2
      rw [if_neg (fun q => q (z0 (by omega))), if_neg (fun q => q (z1 (by omega))), if_pos h2]
    have q3 : w = 3 := by omega
    subst q3
    rw [show f + 3 * 10 = f + 30 by omega] at h2
    rw [if_neg (fun q => q (z0 (by omega))), if_neg (fun q => q (z1 (by omega))), if_neg (fun q => q (z2 (by omega))), if_pos h2]
theorem preT_0 {a t r c b M : Int → Int} {n kd pl f m : Int} {s : TS_} (h : RPQ a t r n c b s) (hq : ¬ (m = 4 ∧ quT a t kd f)) : RPQ a t r n c b (preT M kd pl f m s) := by
  unfold preT
  rw [← h.1, ← h.2.1, if_neg hq]
  exact h
theorem preT_1 {a t r c b c' b' M : Int → Int} {n n' kd pl f m : Int} {s : TS_} (h : RPQ a t r n c b s) (hq : m = 4 ∧ quT a t kd f) (hw : ¬ whT M pl f < 4) (ht : RPQ a t r n' c' b' (qvT M pl f s)) : RPQ a t r n' c' b' (preT M kd pl f m s) := by
  unfold preT
  rw [← h.1, ← h.2.1, if_pos hq, if_neg hw]
  exact ht
theorem preT_2 {a t r c b c' b' a2 c2 b2 M : Int → Int} {n n' n2 kd pl f m w : Int} {s : TS_} (h : RPQ a t r n c b s) (hq : m = 4 ∧ quT a t kd f) (hw : w = whT M pl f) (h4 : w < 4) (ht : RPQ a t r n' c' b' (qvT M pl f s)) (hk : ∀ s : TS_, RPQ a t r n' c' b' s → RPQ a2 t r n2 c2 b2 (wkT M (f + w * 10) s)) : RPQ a2 t r n2 c2 b2 (preT M kd pl f m s) := by
  unfold preT
  rw [← h.1, ← h.2.1, if_pos hq, ← hw, if_pos h4]
  exact hk _ ht
theorem clT_0 {a t r c b M : Int → Int} {n p kd pl : Int} {s : TS_} (h : RPQ a t r n c b s) (hp : ¬ (a p = 0 ∧ t p = 0)) : RPQ a t r n c b (clT M kd pl p s) := by
  unfold clT
  rw [← h.1, ← h.2.1, if_neg hp]
  exact h
theorem clT_1 {a t r c b c' b' M : Int → Int} {n n' p kd pl cx z : Int} {s : TS_} (h : RPQ a t r n c b s) (hp : a p = 0 ∧ t p = 0) (hc : cx = ctxS a kd p) (hz : z = bS M pl p) (ht : ∀ T : List (Int × Int), TPE n c b T → TPE n' c' b' (T ++ [(cx, z)])) (hz1 : z ≠ 1) : RPQ a t r n' c' b' (clT M kd pl p s) := by
  unfold clT
  rw [← h.1, ← h.2.1, if_pos hp, if_neg (by rw [← hz]; exact hz1)]
  exact RPQ_ev h ht hc hz
theorem clT_2 {a t r c b c' b' a2 c2 b2 M : Int → Int} {n n' n2 p kd pl cx z : Int} {s : TS_} (h : RPQ a t r n c b s) (hp : a p = 0 ∧ t p = 0) (hc : cx = ctxS a kd p) (hz : z = bS M pl p) (ht : ∀ T : List (Int × Int), TPE n c b T → TPE n' c' b' (T ++ [(cx, z)])) (hz1 : z = 1) (hw : ∀ s : TS_, RPQ a t r n' c' b' s → RPQ a2 t r n2 c2 b2 (wkT M p s)) : RPQ a2 t r n2 c2 b2 (clT M kd pl p s) := by
  unfold clT
  rw [← h.1, ← h.2.1, if_pos hp, if_pos (by rw [← hz]; exact hz1)]
  exact hw _ (RPQ_ev h ht hc hz)
theorem cnT_1 {a t r c b a' c' b' M : Int → Int} {n n' kd pl f m : Int} {i : Int} {t' r' : Int → Int} {s : TS_} (h : RPQ a t r n c b s) (hq : RPQ a' t' r' n' c' b' (itT (clT M kd pl) (f + nxT a t M kd pl f m * 10) (i - nxT a t M kd pl f m).toNat (preT M kd pl f m s))) (hi : (i - nxT a t M kd pl f m).toNat = (m - nxT a t M kd pl f m).toNat) : RPQ a' t' r' n' c' b' (cnT M kd pl f m s) := by
  unfold cnT
  rw [← h.1, ← h.2.1, ← hi]
  exact hq
set_option maxRecDepth 20000 in
theorem s_refineColumn_e (f n : Int) (h : Hp_) (hT : TY h) (hf : 11 ≤ f ∧ f + 10 * (n - 1) ≤ 88) (hn : 0 ≤ n ∧ n ≤ 4) (hM : ∀ q : Int, 0 ≤ q → q < 100 → -4095 ≤ (h 29) q ∧ (h 29) q ≤ 4095) (hpl : 0 ≤ (h 28 9) ∧ (h 28 9) ≤ 20) : Ctr yX4_refineColumn cX4_refineColumn 6 none (rmd 2) ly ly 0 0 [vR 28, vI f, vI n] h (fun r h' => (TY h' ∧ FR [24, 25, 26, 30, 33] h h') ∧ r = none ∧ (∀ s : TS_, RPQ (h 31) (h 32) (h 33) (h 24 3) (h 25) (h 26) s → RPQ (h 31) (h 32) (h' 33) (h' 24 3) (h' 25) (h' 26)  (itT (rfnT (h 29) (h 28 9)) f n.toNat s)) ∧ ((h' 24 4) = (h 24 4))) := by
  refine Ctr_of (by decide) (Nat.le_of_ble_eq_true rfl) ⟨Nat.le_refl _, Nat.le_refl _⟩ (fun K hK hQ _ => ?_)
  show TT K ly 0 0 0 [(0, vR 28), (1, vI f), (2, vI n)] [] h
  have hF : FR [24, 25, 26, 30, 33] h h := FR_rf _ _
  refine TT_iconst hK dX4_refineColumn_0 ?_
  refine TT_istore_n hK rfl (lv' := [(3, vI 0), (0, vR 28), (1, vI f), (2, vI n)]) (by decide) rfl dX4_refineColumn_1 ?_
  have L2_1 : ∀ (k1 : Nat) (i : Int) (w2_1 : Hp_), TY w2_1 → FR [24, 25, 26, 30, 33] h w2_1 → (0 ≤ i ∧ i ≤ n) → ((w2_1 28 8) = h 28 8 ∧ (w2_1 28 9) = h 28 9) → (∀ s : TS_, RPQ (h 31) (h 32) (h 33) (h 24 3) (h 25) (h 26) s → RPQ (h 31) (h 32) (w2_1 33) (w2_1 24 3) (w2_1 25) (w2_1 26) (itT (rfnT (h 29) (h 28 9)) f i.toNat s)) → ((w2_1 24 4) = h 24 4) → ((4 : Int) - i).toNat < k1 → TT K ly 0 0 2 [(0, vR 28), (1, vI f), (2, vI n), (3, vI i)] [] w2_1 := by
    intro k1
    induction k1 with
    | zero => intro i w2_1 hT2_1 hF2_1 hi k9 hR k24 hk1; exact absurd hk1 (Nat.not_lt_zero _)
    | succ k1 ih1 =>
      intro i w2_1 hT2_1 hF2_1 hi k9 hR k24 hk1
      refine TT_iload_n hK rfl 3 rfl dX4_refineColumn_2 ?_
      refine TT_iload_n hK rfl 2 rfl dX4_refineColumn_3 ?_
      refine TT_icmp_ge hK (tgt := 104) (irm (by omega) (by omega)) (irm (by omega) (by omega)) dX4_refineColumn_4 (by decide) (fun hb4_2 => ?_) (fun hb4_2 => ?_)
      · refine TT_vret hK hQ ?_ dX4_refineColumn_104
        have e3_24_3 : w2_1 24 3 = (w2_1 24) 3 := rfl
        have e4_24_4 : w2_1 24 4 = (w2_1 24) 4 := rfl
        exact ⟨⟨hT2_1, hF2_1⟩, rfl, (by rewrite [e3_24_3]; intro s hs; have q := hR s hs; rw [show i = n by omega] at q; exact q), (by rewrite [e4_24_4]; omega)⟩
      · refine TT_iload_n hK rfl 1 rfl dX4_refineColumn_7 ?_
        refine TT_iload_n hK rfl 3 rfl dX4_refineColumn_8 ?_
        refine TT_bipush hK (by decide) dX4_refineColumn_9 ?_
        refine TT_imul hK dX4_refineColumn_11 ?_
        refine TT_iadd hK dX4_refineColumn_12 ?_
        refine TT_istore hK (lv' := [(4, vI (f + (i * 10))), (0, vR 28), (1, vI f), (2, vI n), (3, vI i)]) (by decide) rfl dX4_refineColumn_13 ?_
        refine TT_aload_n hK rfl 1 rfl dX4_refineColumn_15 ?_
        refine gf_X4_18 hK (by decide) rfl (q := 31) rfl rfl dX4_refineColumn_16 ?_
        refine TT_iload hK 0 rfl dX4_refineColumn_19 ?_
        refine TT_iald hK (o := 31) (n := 100) (by decide) rfl (by first | omega | (simp [up, setR] <;> omega)) (by first | omega | (simp [up, setR] <;> omega)) (v := (h 31) (f + (i * 10))) (rd_ (hF2_1 31 (by decide)) rfl) dX4_refineColumn_21 ?_
        have r5 := ty_31 (i := f + (i * 10)) (v := (h 31) (f + (i * 10))) hT2_1 (rd_ (hF2_1 31 (by decide)) rfl) (by omega) (by omega)
        refine TT_if_eq hK (tgt := 98) (irm (by omega) (by omega)) dX4_refineColumn_22 (by decide) (fun hb22_6 => ?_) (fun hb22_6 => ?_)
        · refine TT_iinc hK (v := i + 1) (lv' := [(3, vI (i + 1)), (4, vI (f + (i * 10))), (0, vR 28), (1, vI f), (2, vI n)]) 4 rfl rfl (by decide) rfl dX4_refineColumn_98 ?_
          refine TT_goto hK (tgt := 2) dX4_refineColumn_101 (by decide) ?_
          refine TT_sub [2, 3, 4, 0] rfl ?_
          have e7_28_8 : w2_1 28 8 = (h 28) 8 := rd_ (hF2_1 28 (by decide)) rfl
          have e8_28_9 : w2_1 28 9 = (h 28) 9 := rd_ (hF2_1 28 (by decide)) rfl
          have e9_24_3 : w2_1 24 3 = (w2_1 24) 3 := rfl
          have e10_24_4 : w2_1 24 4 = (w2_1 24) 4 := rfl
          exact ih1 (i + 1) w2_1 hT2_1 hF2_1 (by first | omega | (simp [up, setR] <;> omega)) (by rewrite [e7_28_8, e8_28_9]; first | omega | (simp [up, setR] <;> omega)) (by rewrite [e9_24_3]; intro s hs; have q := hR s hs; rw [show (i + 1).toNat = i.toNat + 1 by omega]; unfold itT; rw [show f + (i.toNat : Int) * 10 = f + i * 10 by omega]; first | exact rfnT_0 q (by omega) | exact rfnT_1 q (by omega) (by first | (rw [if_neg (by omega)]; done) | (rw [if_pos (by omega)]; exact e_at53)) e_at83 tp_at86) (by rewrite [e10_24_4]; first | omega | (simp [up, setR] <;> omega)) (by first | omega | (simp [up, setR] <;> omega))
        · refine TT_aload_n hK rfl 1 rfl dX4_refineColumn_25 ?_
          refine gf_X4_21 hK (by decide) rfl (q := 32) rfl rfl dX4_refineColumn_26 ?_
          refine TT_iload hK 0 rfl dX4_refineColumn_29 ?_
          refine TT_zald hK (o := 32) (n := 100) (by decide) rfl (by first | omega | (simp [up, setR] <;> omega)) (by first | omega | (simp [up, setR] <;> omega)) (v := (h 32) (f + (i * 10))) (rd_ (hF2_1 32 (by decide)) rfl) dX4_refineColumn_31 ?_
          have r11 := ty_32 (i := f + (i * 10)) (v := (h 32) (f + (i * 10))) hT2_1 (rd_ (hF2_1 32 (by decide)) rfl) (by omega) (by omega)
          refine TT_if_ne hK (tgt := 98) (irm (by omega) (by omega)) dX4_refineColumn_32 (by decide) (fun hb32_12 => ?_) (fun hb32_12 => ?_)
          · refine TT_iinc hK (v := i + 1) (lv' := [(3, vI (i + 1)), (4, vI (f + (i * 10))), (0, vR 28), (1, vI f), (2, vI n)]) 4 rfl rfl (by decide) rfl dX4_refineColumn_98 ?_
            refine TT_goto hK (tgt := 2) dX4_refineColumn_101 (by decide) ?_
            refine TT_sub [2, 3, 4, 0] rfl ?_
            have e13_28_8 : w2_1 28 8 = (h 28) 8 := rd_ (hF2_1 28 (by decide)) rfl
            have e14_28_9 : w2_1 28 9 = (h 28) 9 := rd_ (hF2_1 28 (by decide)) rfl
            have e15_24_3 : w2_1 24 3 = (w2_1 24) 3 := rfl
            have e16_24_4 : w2_1 24 4 = (w2_1 24) 4 := rfl
            exact ih1 (i + 1) w2_1 hT2_1 hF2_1 (by first | omega | (simp [up, setR] <;> omega)) (by rewrite [e13_28_8, e14_28_9]; first | omega | (simp [up, setR] <;> omega)) (by rewrite [e15_24_3]; intro s hs; have q := hR s hs; rw [show (i + 1).toNat = i.toNat + 1 by omega]; unfold itT; rw [show f + (i.toNat : Int) * 10 = f + i * 10 by omega]; first | exact rfnT_0 q (by omega) | exact rfnT_1 q (by omega) (by first | (rw [if_neg (by omega)]; done) | (rw [if_pos (by omega)]; exact e_at53)) e_at83 tp_at86) (by rewrite [e16_24_4]; first | omega | (simp [up, setR] <;> omega)) (by first | omega | (simp [up, setR] <;> omega))
          · refine TT_aload_n hK rfl 1 rfl dX4_refineColumn_35 ?_
            refine gf_X4_25 hK (by decide) rfl (q := 33) rfl rfl dX4_refineColumn_36 ?_
            refine TT_iload hK 0 rfl dX4_refineColumn_39 ?_
            refine TT_zald hK (o := 33) (n := 100) (by decide) rfl (by first | omega | (simp [up, setR] <;> omega)) (by first | omega | (simp [up, setR] <;> omega)) (v := (w2_1 33) (f + (i * 10))) rfl dX4_refineColumn_41 ?_
            have r17 := ty_33 (i := f + (i * 10)) (v := (w2_1 33) (f + (i * 10))) hT2_1 rfl (by omega) (by omega)
            refine TT_if_eq hK (tgt := 50) (irm (by omega) (by omega)) dX4_refineColumn_42 (by decide) (fun hb42_18 => ?_) (fun hb42_18 => ?_)
            · refine TT_aload_n hK rfl 1 rfl dX4_refineColumn_50 ?_
              refine TT_iload hK 0 rfl dX4_refineColumn_51 ?_
              refine iv_X4_89 hK (s_firstRefining_e (f + (i * 10)) w2_1 hT2_1 (by first | omega | (simp [up, setR] <;> omega))) (by decide) rfl ⟨by decide, by decide⟩ (by decide) rfl rfl (Nat.le_of_ble_eq_true rfl) ⟨by decide, by decide⟩ dX4_refineColumn_53 ?_
              intro r9 g53_19 hp9
              obtain ⟨⟨hT_19, hG_19⟩, z53_19, hr9, hz_19, e_19⟩ := hp9
              rw [hr9]
              have hF_19 : FR [24, 25, 26, 30, 33] h g53_19 := FR_tr hF2_1 hG_19 (by decide)
              rw [show w2_1 31 = h 31 from (hF2_1 31 (by decide))] at e_19
              have e_at53 := e_19
              show TT K ly 0 0 56 [(4, vI (f + (i * 10))), (0, vR 28), (1, vI f), (2, vI n), (3, vI i)] [vI z53_19] g53_19
              refine TT_istore hK (lv' := [(5, vI z53_19), (4, vI (f + (i * 10))), (0, vR 28), (1, vI f), (2, vI n), (3, vI i)]) (by decide) rfl dX4_refineColumn_56 ?_
              refine TT_aload_n hK rfl 2 rfl dX4_refineColumn_58 ?_
              refine gf_X4_25 hK (by decide) rfl (q := 33) rfl rfl dX4_refineColumn_59 ?_
              refine TT_iload hK 1 rfl dX4_refineColumn_62 ?_
              refine TT_iconst hK dX4_refineColumn_64 ?_
              refine TT_zast hK (o := 33) (n := 100) (by decide) rfl (by omega) (by omega) (by first | decide | omega) dX4_refineColumn_65 ?_
              refine TT_hp (h' := setO g53_19 33 (fup (w2_1 33) (f + (i * 10)) 1)) (up_can (hG_19 33 (by decide)) rfl rfl) ?_
              have hT_20 : TY (setO g53_19 33 (fup (w2_1 33) (f + (i * 10)) 1)) := tu_33 hT_19 (show up g53_19 33 (f + (i * 10)) 1 = (setO g53_19 33 (fup (w2_1 33) (f + (i * 10)) 1)) from up_can (hG_19 33 (by decide)) rfl rfl) (by omega)
              have hF_20 : FR [24, 25, 26, 30, 33] h (setO g53_19 33 (fup (w2_1 33) (f + (i * 10)) 1)) := FR_up (show up g53_19 33 (f + (i * 10)) 1 = (setO g53_19 33 (fup (w2_1 33) (f + (i * 10)) 1)) from up_can (hG_19 33 (by decide)) rfl rfl) hF_19 (by decide)
              refine TT_aload_n hK rfl 2 rfl dX4_refineColumn_66 ?_
              refine gf_X4_15 hK (by decide) rfl (q := 30) rfl rfl dX4_refineColumn_67 ?_
              refine TT_iload hK 1 rfl dX4_refineColumn_70 ?_
              refine TT_dup2 hK rfl rfl dX4_refineColumn_72 ?_
              refine TT_iald hK (o := 30) (n := 100) (by decide) rfl (by first | omega | (simp [up, setR] <;> omega)) (by first | omega | (simp [up, setR] <;> omega)) (v := (w2_1 30) (f + (i * 10))) (rd_ ((sOf_ne _ _ (by decide)).trans (hG_19 30 (by decide))) rfl) dX4_refineColumn_73 ?_
              have r21 := ty_30 (i := f + (i * 10)) (v := (w2_1 30) (f + (i * 10))) hT_20 (rd_ ((sOf_ne _ _ (by decide)).trans (hG_19 30 (by decide))) rfl) (by omega) (by omega)
              refine TT_aload_n hK rfl 2 rfl dX4_refineColumn_74 ?_
              refine gf_X4_28 hK (by decide) rfl (q := 24) rfl rfl dX4_refineColumn_75 ?_
              refine TT_iload hK 0 rfl dX4_refineColumn_78 ?_
              refine TT_aload_n hK rfl 2 rfl dX4_refineColumn_80 ?_
              refine TT_iload hK 1 rfl dX4_refineColumn_81 ?_
              have e22_29 : (setO g53_19 33 (fup (w2_1 33) (f + (i * 10)) 1)) 29 = h 29 := (sOf_ne _ _ (by decide)).trans (((hG_19 29 (by decide))).trans (hF2_1 29 (by decide)))
              have e23_28_9 : (setO g53_19 33 (fup (w2_1 33) (f + (i * 10)) 1)) 28 9 = (h 28) 9 := rd_ ((sOf_ne _ _ (by decide)).trans (((hG_19 28 (by decide))).trans (hF2_1 28 (by decide)))) rfl
              refine iv_X4_77 hK (s_meantBit_e (f + (i * 10)) (setO g53_19 33 (fup (w2_1 33) (f + (i * 10)) 1)) hT_20 (by first | omega | (simp [up, setR] <;> omega)) (by rewrite [e22_29]; first | assumption | exact hM) (by rewrite [e23_28_9]; first | assumption | exact hpl | omega)) (by decide) rfl ⟨by decide, by decide⟩ (by decide) rfl rfl (Nat.le_of_ble_eq_true rfl) ⟨by decide, by decide⟩ dX4_refineColumn_83 ?_
              intro r9 g83_24 hp9
              obtain ⟨⟨hT_24, hG_24⟩, z83_24, hr9, hz_24, e_24⟩ := hp9
              rw [hr9]
              have hF_24 : FR [24, 25, 26, 30, 33] h g83_24 := FR_tr hF_20 hG_24 (by decide)
              rw [show (setO g53_19 33 (fup (w2_1 33) (f + (i * 10)) 1)) 28 9 = (h 28) 9 from rd_ ((sOf_ne _ _ (by decide)).trans (((hG_19 28 (by decide))).trans (hF2_1 28 (by decide)))) rfl] at e_24
              rw [show (setO g53_19 33 (fup (w2_1 33) (f + (i * 10)) 1)) 29 = h 29 from (sOf_ne _ _ (by decide)).trans (((hG_19 29 (by decide))).trans (hF2_1 29 (by decide)))] at e_24
              have e_at83 := e_24
              show TT K ly 0 0 86 [(5, vI z53_19), (4, vI (f + (i * 10))), (0, vR 28), (1, vI f), (2, vI n), (3, vI i)] [vI z83_24, vI z53_19, vR 24, vI ((w2_1 30) (f + (i * 10))), vI (f + (i * 10)), vR 30] g83_24
              refine iv_X4_80_X7 hK (s_tape_e z53_19 z83_24 g83_24 hT_24 (by first | omega | (simp [up, setR] <;> omega)) (by first | omega | (simp [up, setR] <;> omega))) (by decide) rfl ⟨by decide, by decide⟩ (by decide) rfl rfl (Nat.le_of_ble_eq_true rfl) ⟨by decide, by decide⟩ dX4_refineColumn_86 ?_
              intro r9 g86_25 hp9
              obtain ⟨⟨hT_25, hG_25⟩, z86_25, hr9, hz_25, e_25, tp_25, k24_25⟩ := hp9
              rw [hr9]
              have hF_25 : FR [24, 25, 26, 30, 33] h g86_25 := FR_tr hF_24 hG_25 (by decide)
              rw [show g83_24 24 3 = (w2_1 24) 3 from rd_ (((hG_24 24 (by decide))).trans ((sOf_ne _ _ (by decide)).trans (hG_19 24 (by decide)))) rfl] at tp_25
              rw [show g83_24 25 = w2_1 25 from ((hG_24 25 (by decide))).trans ((sOf_ne _ _ (by decide)).trans (hG_19 25 (by decide)))] at tp_25
              rw [show g83_24 26 = w2_1 26 from ((hG_24 26 (by decide))).trans ((sOf_ne _ _ (by decide)).trans (hG_19 26 (by decide)))] at tp_25
              rw [show g83_24 24 4 = (w2_1 24) 4 from rd_ (((hG_24 24 (by decide))).trans ((sOf_ne _ _ (by decide)).trans (hG_19 24 (by decide)))) rfl] at k24_25
              have e_at86 := e_25
              have tp_at86 := tp_25
              show TT K ly 0 0 91 [(5, vI z53_19), (4, vI (f + (i * 10))), (0, vR 28), (1, vI f), (2, vI n), (3, vI i)] [vI z86_25, vI ((w2_1 30) (f + (i * 10))), vI (f + (i * 10)), vR 30] g86_25
              refine TT_aload_n hK rfl 2 rfl dX4_refineColumn_91 ?_
              refine gf_X4_55 hK (by decide) rfl (v := (h 28) 9) (rd_ (((hG_25 28 (by decide))).trans (((hG_24 28 (by decide))).trans ((sOf_ne _ _ (by decide)).trans (((hG_19 28 (by decide))).trans (hF2_1 28 (by decide)))))) rfl) dX4_refineColumn_92 ?_
              have r26 := ty_28_9 (v := (h 28) 9) hT_25 (rd_ (((hG_25 28 (by decide))).trans (((hG_24 28 (by decide))).trans ((sOf_ne _ _ (by decide)).trans (((hG_19 28 (by decide))).trans (hF2_1 28 (by decide)))))) rfl)
              refine TT_ishl_a hK dX4_refineColumn_95 (fun x95_27 hx27 => ?_)
              refine TT_ior hK dX4_refineColumn_96 ?_
              refine TT_w32 (fun x97_28 hx28 => ?_)
              refine TT_iast hK (o := 30) (n := 100) (by decide) rfl (by omega) (by omega) dX4_refineColumn_97 ?_
              refine TT_hp (h' := setO g86_25 30 (fup (w2_1 30) (f + (i * 10)) x97_28)) (up_can (((hG_25 30 (by decide))).trans (((hG_24 30 (by decide))).trans ((sOf_ne _ _ (by decide)).trans (hG_19 30 (by decide))))) rfl rfl) ?_
              have hT_29 : TY (setO g86_25 30 (fup (w2_1 30) (f + (i * 10)) x97_28)) := tu_30 hT_25 (show up g86_25 30 (f + (i * 10)) x97_28 = (setO g86_25 30 (fup (w2_1 30) (f + (i * 10)) x97_28)) from up_can (((hG_25 30 (by decide))).trans (((hG_24 30 (by decide))).trans ((sOf_ne _ _ (by decide)).trans (hG_19 30 (by decide))))) rfl rfl) (by omega)
              have hF_29 : FR [24, 25, 26, 30, 33] h (setO g86_25 30 (fup (w2_1 30) (f + (i * 10)) x97_28)) := FR_up (show up g86_25 30 (f + (i * 10)) x97_28 = (setO g86_25 30 (fup (w2_1 30) (f + (i * 10)) x97_28)) from up_can (((hG_25 30 (by decide))).trans (((hG_24 30 (by decide))).trans ((sOf_ne _ _ (by decide)).trans (hG_19 30 (by decide))))) rfl rfl) hF_25 (by decide)
              refine TT_iinc hK (v := i + 1) (lv' := [(3, vI (i + 1)), (5, vI z53_19), (4, vI (f + (i * 10))), (0, vR 28), (1, vI f), (2, vI n)]) 5 rfl rfl (by decide) rfl dX4_refineColumn_98 ?_
              refine TT_goto hK (tgt := 2) dX4_refineColumn_101 (by decide) ?_
              refine TT_sub [3, 4, 5, 0] rfl ?_
              have e30_28_8 : (setO g86_25 30 (fup (w2_1 30) (f + (i * 10)) x97_28)) 28 8 = (h 28) 8 := rd_ ((sOf_ne _ _ (by decide)).trans (((hG_25 28 (by decide))).trans (((hG_24 28 (by decide))).trans ((sOf_ne _ _ (by decide)).trans (((hG_19 28 (by decide))).trans (hF2_1 28 (by decide))))))) rfl
              have e31_28_9 : (setO g86_25 30 (fup (w2_1 30) (f + (i * 10)) x97_28)) 28 9 = (h 28) 9 := rd_ ((sOf_ne _ _ (by decide)).trans (((hG_25 28 (by decide))).trans (((hG_24 28 (by decide))).trans ((sOf_ne _ _ (by decide)).trans (((hG_19 28 (by decide))).trans (hF2_1 28 (by decide))))))) rfl
              have e32_24_3 : (setO g86_25 30 (fup (w2_1 30) (f + (i * 10)) x97_28)) 24 3 = (g86_25 24) 3 := rd_ (sOf_ne _ _ (by decide)) rfl
              have e33_25 : (setO g86_25 30 (fup (w2_1 30) (f + (i * 10)) x97_28)) 25 = g86_25 25 := sOf_ne _ _ (by decide)
              have e34_26 : (setO g86_25 30 (fup (w2_1 30) (f + (i * 10)) x97_28)) 26 = g86_25 26 := sOf_ne _ _ (by decide)
              have e35_33 : (setO g86_25 30 (fup (w2_1 30) (f + (i * 10)) x97_28)) 33 = fup (w2_1 33) (f + (i * 10)) 1 := (sOf_ne _ _ (by decide)).trans (((hG_25 33 (by decide))).trans (((hG_24 33 (by decide))).trans (sOf_eq _ _ _)))
              have e36_24_4 : (setO g86_25 30 (fup (w2_1 30) (f + (i * 10)) x97_28)) 24 4 = (g86_25 24) 4 := rd_ (sOf_ne _ _ (by decide)) rfl
              exact ih1 (i + 1) (setO g86_25 30 (fup (w2_1 30) (f + (i * 10)) x97_28)) hT_29 hF_29 (by first | omega | (simp [up, setR] <;> omega)) (by rewrite [e30_28_8, e31_28_9]; first | omega | (simp [up, setR] <;> omega)) (by rewrite [e32_24_3, e33_25, e34_26, e35_33]; intro s hs; have q := hR s hs; rw [show (i + 1).toNat = i.toNat + 1 by omega]; unfold itT; rw [show f + (i.toNat : Int) * 10 = f + i * 10 by omega]; first | exact rfnT_0 q (by omega) | exact rfnT_1 q (by omega) (by first | (rw [if_neg (by omega)]; done) | (rw [if_pos (by omega)]; exact e_at53)) e_at83 tp_at86) (by rewrite [e36_24_4]; first | omega | (simp [up, setR] <;> omega)) (by first | omega | (simp [up, setR] <;> omega))
            · refine TT_bipush hK (by decide) dX4_refineColumn_45 ?_
              refine TT_goto hK (tgt := 56) dX4_refineColumn_47 (by decide) ?_
              refine TT_istore hK (lv' := [(5, vI 16), (4, vI (f + (i * 10))), (0, vR 28), (1, vI f), (2, vI n), (3, vI i)]) (by decide) rfl dX4_refineColumn_56 ?_
              refine TT_aload_n hK rfl 2 rfl dX4_refineColumn_58 ?_
              refine gf_X4_25 hK (by decide) rfl (q := 33) rfl rfl dX4_refineColumn_59 ?_
              refine TT_iload hK 1 rfl dX4_refineColumn_62 ?_
              refine TT_iconst hK dX4_refineColumn_64 ?_
              refine TT_zast hK (o := 33) (n := 100) (by decide) rfl (by omega) (by omega) (by first | decide | omega) dX4_refineColumn_65 ?_
              refine TT_hp (h' := setO w2_1 33 (fup (w2_1 33) (f + (i * 10)) 1)) (up_can rfl rfl rfl) ?_
              have hT_37 : TY (setO w2_1 33 (fup (w2_1 33) (f + (i * 10)) 1)) := tu_33 hT2_1 (show up w2_1 33 (f + (i * 10)) 1 = (setO w2_1 33 (fup (w2_1 33) (f + (i * 10)) 1)) from up_can rfl rfl rfl) (by omega)
              have hF_37 : FR [24, 25, 26, 30, 33] h (setO w2_1 33 (fup (w2_1 33) (f + (i * 10)) 1)) := FR_up (show up w2_1 33 (f + (i * 10)) 1 = (setO w2_1 33 (fup (w2_1 33) (f + (i * 10)) 1)) from up_can rfl rfl rfl) hF2_1 (by decide)
              refine TT_aload_n hK rfl 2 rfl dX4_refineColumn_66 ?_
              refine gf_X4_15 hK (by decide) rfl (q := 30) rfl rfl dX4_refineColumn_67 ?_
              refine TT_iload hK 1 rfl dX4_refineColumn_70 ?_
              refine TT_dup2 hK rfl rfl dX4_refineColumn_72 ?_
              refine TT_iald hK (o := 30) (n := 100) (by decide) rfl (by first | omega | (simp [up, setR] <;> omega)) (by first | omega | (simp [up, setR] <;> omega)) (v := (w2_1 30) (f + (i * 10))) (rd_ (sOf_ne _ _ (by decide)) rfl) dX4_refineColumn_73 ?_
              have r38 := ty_30 (i := f + (i * 10)) (v := (w2_1 30) (f + (i * 10))) hT_37 (rd_ (sOf_ne _ _ (by decide)) rfl) (by omega) (by omega)
              refine TT_aload_n hK rfl 2 rfl dX4_refineColumn_74 ?_
              refine gf_X4_28 hK (by decide) rfl (q := 24) rfl rfl dX4_refineColumn_75 ?_
              refine TT_iload hK 0 rfl dX4_refineColumn_78 ?_
              refine TT_aload_n hK rfl 2 rfl dX4_refineColumn_80 ?_
              refine TT_iload hK 1 rfl dX4_refineColumn_81 ?_
              have e39_29 : (setO w2_1 33 (fup (w2_1 33) (f + (i * 10)) 1)) 29 = h 29 := (sOf_ne _ _ (by decide)).trans (hF2_1 29 (by decide))
              have e40_28_9 : (setO w2_1 33 (fup (w2_1 33) (f + (i * 10)) 1)) 28 9 = (h 28) 9 := rd_ ((sOf_ne _ _ (by decide)).trans (hF2_1 28 (by decide))) rfl
              refine iv_X4_77 hK (s_meantBit_e (f + (i * 10)) (setO w2_1 33 (fup (w2_1 33) (f + (i * 10)) 1)) hT_37 (by first | omega | (simp [up, setR] <;> omega)) (by rewrite [e39_29]; first | assumption | exact hM) (by rewrite [e40_28_9]; first | assumption | exact hpl | omega)) (by decide) rfl ⟨by decide, by decide⟩ (by decide) rfl rfl (Nat.le_of_ble_eq_true rfl) ⟨by decide, by decide⟩ dX4_refineColumn_83 ?_
              intro r9 g83_41 hp9
              obtain ⟨⟨hT_41, hG_41⟩, z83_41, hr9, hz_41, e_41⟩ := hp9
              rw [hr9]
              have hF_41 : FR [24, 25, 26, 30, 33] h g83_41 := FR_tr hF_37 hG_41 (by decide)
              rw [show (setO w2_1 33 (fup (w2_1 33) (f + (i * 10)) 1)) 28 9 = (h 28) 9 from rd_ ((sOf_ne _ _ (by decide)).trans (hF2_1 28 (by decide))) rfl] at e_41
              rw [show (setO w2_1 33 (fup (w2_1 33) (f + (i * 10)) 1)) 29 = h 29 from (sOf_ne _ _ (by decide)).trans (hF2_1 29 (by decide))] at e_41
              have e_at83 := e_41
              show TT K ly 0 0 86 [(5, vI 16), (4, vI (f + (i * 10))), (0, vR 28), (1, vI f), (2, vI n), (3, vI i)] [vI z83_41, vI 16, vR 24, vI ((w2_1 30) (f + (i * 10))), vI (f + (i * 10)), vR 30] g83_41
              refine iv_X4_80_X7 hK (s_tape_e 16 z83_41 g83_41 hT_41 (by first | omega | (simp [up, setR] <;> omega)) (by first | omega | (simp [up, setR] <;> omega))) (by decide) rfl ⟨by decide, by decide⟩ (by decide) rfl rfl (Nat.le_of_ble_eq_true rfl) ⟨by decide, by decide⟩ dX4_refineColumn_86 ?_
              intro r9 g86_42 hp9
              obtain ⟨⟨hT_42, hG_42⟩, z86_42, hr9, hz_42, e_42, tp_42, k24_42⟩ := hp9
              rw [hr9]
              have hF_42 : FR [24, 25, 26, 30, 33] h g86_42 := FR_tr hF_41 hG_42 (by decide)
              rw [show g83_41 24 3 = (w2_1 24) 3 from rd_ (((hG_41 24 (by decide))).trans (sOf_ne _ _ (by decide))) rfl] at tp_42
              rw [show g83_41 25 = w2_1 25 from ((hG_41 25 (by decide))).trans (sOf_ne _ _ (by decide))] at tp_42
              rw [show g83_41 26 = w2_1 26 from ((hG_41 26 (by decide))).trans (sOf_ne _ _ (by decide))] at tp_42
              rw [show g83_41 24 4 = (w2_1 24) 4 from rd_ (((hG_41 24 (by decide))).trans (sOf_ne _ _ (by decide))) rfl] at k24_42
              have e_at86 := e_42
              have tp_at86 := tp_42
              show TT K ly 0 0 91 [(5, vI 16), (4, vI (f + (i * 10))), (0, vR 28), (1, vI f), (2, vI n), (3, vI i)] [vI z86_42, vI ((w2_1 30) (f + (i * 10))), vI (f + (i * 10)), vR 30] g86_42
              refine TT_aload_n hK rfl 2 rfl dX4_refineColumn_91 ?_
              refine gf_X4_55 hK (by decide) rfl (v := (h 28) 9) (rd_ (((hG_42 28 (by decide))).trans (((hG_41 28 (by decide))).trans ((sOf_ne _ _ (by decide)).trans (hF2_1 28 (by decide))))) rfl) dX4_refineColumn_92 ?_
              have r43 := ty_28_9 (v := (h 28) 9) hT_42 (rd_ (((hG_42 28 (by decide))).trans (((hG_41 28 (by decide))).trans ((sOf_ne _ _ (by decide)).trans (hF2_1 28 (by decide))))) rfl)
              refine TT_ishl_a hK dX4_refineColumn_95 (fun x95_44 hx44 => ?_)
              refine TT_ior hK dX4_refineColumn_96 ?_
              refine TT_w32 (fun x97_45 hx45 => ?_)
              refine TT_iast hK (o := 30) (n := 100) (by decide) rfl (by omega) (by omega) dX4_refineColumn_97 ?_
              refine TT_hp (h' := setO g86_42 30 (fup (w2_1 30) (f + (i * 10)) x97_45)) (up_can (((hG_42 30 (by decide))).trans (((hG_41 30 (by decide))).trans (sOf_ne _ _ (by decide)))) rfl rfl) ?_
              have hT_46 : TY (setO g86_42 30 (fup (w2_1 30) (f + (i * 10)) x97_45)) := tu_30 hT_42 (show up g86_42 30 (f + (i * 10)) x97_45 = (setO g86_42 30 (fup (w2_1 30) (f + (i * 10)) x97_45)) from up_can (((hG_42 30 (by decide))).trans (((hG_41 30 (by decide))).trans (sOf_ne _ _ (by decide)))) rfl rfl) (by omega)
              have hF_46 : FR [24, 25, 26, 30, 33] h (setO g86_42 30 (fup (w2_1 30) (f + (i * 10)) x97_45)) := FR_up (show up g86_42 30 (f + (i * 10)) x97_45 = (setO g86_42 30 (fup (w2_1 30) (f + (i * 10)) x97_45)) from up_can (((hG_42 30 (by decide))).trans (((hG_41 30 (by decide))).trans (sOf_ne _ _ (by decide)))) rfl rfl) hF_42 (by decide)
              refine TT_iinc hK (v := i + 1) (lv' := [(3, vI (i + 1)), (5, vI 16), (4, vI (f + (i * 10))), (0, vR 28), (1, vI f), (2, vI n)]) 5 rfl rfl (by decide) rfl dX4_refineColumn_98 ?_
              refine TT_goto hK (tgt := 2) dX4_refineColumn_101 (by decide) ?_
              refine TT_sub [3, 4, 5, 0] rfl ?_
              have e47_28_8 : (setO g86_42 30 (fup (w2_1 30) (f + (i * 10)) x97_45)) 28 8 = (h 28) 8 := rd_ ((sOf_ne _ _ (by decide)).trans (((hG_42 28 (by decide))).trans (((hG_41 28 (by decide))).trans ((sOf_ne _ _ (by decide)).trans (hF2_1 28 (by decide)))))) rfl
              have e48_28_9 : (setO g86_42 30 (fup (w2_1 30) (f + (i * 10)) x97_45)) 28 9 = (h 28) 9 := rd_ ((sOf_ne _ _ (by decide)).trans (((hG_42 28 (by decide))).trans (((hG_41 28 (by decide))).trans ((sOf_ne _ _ (by decide)).trans (hF2_1 28 (by decide)))))) rfl
              have e49_24_3 : (setO g86_42 30 (fup (w2_1 30) (f + (i * 10)) x97_45)) 24 3 = (g86_42 24) 3 := rd_ (sOf_ne _ _ (by decide)) rfl
              have e50_25 : (setO g86_42 30 (fup (w2_1 30) (f + (i * 10)) x97_45)) 25 = g86_42 25 := sOf_ne _ _ (by decide)
              have e51_26 : (setO g86_42 30 (fup (w2_1 30) (f + (i * 10)) x97_45)) 26 = g86_42 26 := sOf_ne _ _ (by decide)
              have e52_33 : (setO g86_42 30 (fup (w2_1 30) (f + (i * 10)) x97_45)) 33 = fup (w2_1 33) (f + (i * 10)) 1 := (sOf_ne _ _ (by decide)).trans (((hG_42 33 (by decide))).trans (((hG_41 33 (by decide))).trans (sOf_eq _ _ _)))
              have e53_24_4 : (setO g86_42 30 (fup (w2_1 30) (f + (i * 10)) x97_45)) 24 4 = (g86_42 24) 4 := rd_ (sOf_ne _ _ (by decide)) rfl
              exact ih1 (i + 1) (setO g86_42 30 (fup (w2_1 30) (f + (i * 10)) x97_45)) hT_46 hF_46 (by first | omega | (simp [up, setR] <;> omega)) (by rewrite [e47_28_8, e48_28_9]; first | omega | (simp [up, setR] <;> omega)) (by rewrite [e49_24_3, e50_25, e51_26, e52_33]; intro s hs; have q := hR s hs; rw [show (i + 1).toNat = i.toNat + 1 by omega]; unfold itT; rw [show f + (i.toNat : Int) * 10 = f + i * 10 by omega]; first | exact rfnT_0 q (by omega) | exact rfnT_1 q (by omega) (by first | (rw [if_neg (by omega)]; done) | (rw [if_pos (by omega)]; exact e_at53)) e_at83 tp_at86) (by rewrite [e53_24_4]; first | omega | (simp [up, setR] <;> omega)) (by first | omega | (simp [up, setR] <;> omega))
  refine TT_sub [1, 2, 3, 0] rfl ?_
  have e54_28_8 : h 28 8 = (h 28) 8 := rfl
  have e55_28_9 : h 28 9 = (h 28) 9 := rfl
  have e56_24_3 : h 24 3 = (h 24) 3 := rfl
  have e57_24_4 : h 24 4 = (h 24) 4 := rfl
  exact L2_1 ((((4 : Int) - 0).toNat) + 1) 0 h hT hF (by first | omega | (simp [up, setR] <;> omega)) (by rewrite [e54_28_8, e55_28_9]; first | omega | (simp [up, setR] <;> omega)) (by rewrite [e56_24_3]; exact fun s hs => hs) (by rewrite [e57_24_4]; first | omega | (simp [up, setR] <;> omega)) (Nat.lt_succ_self _)
set_option maxRecDepth 20000 in
theorem s_isQuiet_e (f : Int) (h : Hp_) (hT : TY h) (hf : 11 ≤ f ∧ f + 30 ≤ 88) : Ctr yX4_isQuiet cX4_isQuiet 4 (some .boolean) (rmd 2) ly ly 0 0 [vR 28, vI f] h (fun r h' => (TY h' ∧ FR [] h h') ∧ ∃ z : Int, r = some (vI z) ∧ (0 ≤ z ∧ z ≤ 1) ∧ ((z = 1 → quT (h 31) (h 32) (h 28 8) f) ∧ (z = 0 → ¬ quT (h 31) (h 32) (h 28 8) f))) := by
  refine Ctr_of (by decide) (Nat.le_of_ble_eq_true rfl) ⟨Nat.le_refl _, Nat.le_refl _⟩ (fun K hK hQ _ => ?_)
  show TT K ly 0 0 0 [(0, vR 28), (1, vI f)] [] h
  have hF : FR [] h h := FR_rf _ _
  refine TT_iconst hK dX4_isQuiet_0 ?_
  refine TT_istore_n hK rfl (lv' := [(2, vI 0), (0, vR 28), (1, vI f)]) (by decide) rfl dX4_isQuiet_1 ?_
  have L2_1 : ∀ (k1 : Nat) (i : Int) (w2_1 : Hp_), TY w2_1 → FR [] h w2_1 → (0 ≤ i ∧ i ≤ 4) → (∀ k : Int, 0 ≤ k → k < i → h 31 (f + k * 10) = 0 ∧ h 32 (f + k * 10) = 0 ∧ ctxS (h 31) (h 28 8) (f + k * 10) = 0) → ((4 : Int) - i).toNat < k1 → TT K ly 0 0 2 [(0, vR 28), (1, vI f), (2, vI i)] [] w2_1 := by
    intro k1
    induction k1 with
    | zero => intro i w2_1 hT2_1 hF2_1 hi hq hk1; exact absurd hk1 (Nat.not_lt_zero _)
    | succ k1 ih1 =>
      intro i w2_1 hT2_1 hF2_1 hi hq hk1
      refine TT_iload_n hK rfl 2 rfl dX4_isQuiet_2 ?_
      refine TT_iconst hK dX4_isQuiet_3 ?_
      refine TT_icmp_ge hK (tgt := 48) (irm (by omega) (by omega)) (by decide) dX4_isQuiet_4 (by decide) (fun hb4_2 => ?_) (fun hb4_2 => ?_)
      · refine TT_iconst hK dX4_isQuiet_48 ?_
        refine TT_zret hK hQ (by decide) ?_ dX4_isQuiet_49
        exact ⟨⟨hT2_1, hF2_1⟩, 1, rfl, (by omega), (by first | exact ⟨fun _ k h1 h2 => hq k h1 (by omega), fun q => by exfalso; omega⟩ | exact ⟨fun q => by exfalso; omega, fun _ w => by have w1 := w i (by omega) (by omega); omega⟩ | exact ⟨fun q => by exfalso; omega, fun _ w => by have w1 := w i (by omega) (by omega); rw [← e_at34] at w1; omega⟩)⟩
      · refine TT_iload_n hK rfl 1 rfl dX4_isQuiet_7 ?_
        refine TT_iload_n hK rfl 2 rfl dX4_isQuiet_8 ?_
        refine TT_bipush hK (by decide) dX4_isQuiet_9 ?_
        refine TT_imul hK dX4_isQuiet_11 ?_
        refine TT_iadd hK dX4_isQuiet_12 ?_
        refine TT_istore_n hK rfl (lv' := [(3, vI (f + (i * 10))), (0, vR 28), (1, vI f), (2, vI i)]) (by decide) rfl dX4_isQuiet_13 ?_
        refine TT_aload_n hK rfl 1 rfl dX4_isQuiet_14 ?_
        refine gf_X4_18 hK (by decide) rfl (q := 31) rfl rfl dX4_isQuiet_15 ?_
        refine TT_iload_n hK rfl 0 rfl dX4_isQuiet_18 ?_
        refine TT_iald hK (o := 31) (n := 100) (by decide) rfl (by first | omega | (simp [up, setR] <;> omega)) (by first | omega | (simp [up, setR] <;> omega)) (v := (h 31) (f + (i * 10))) (rd_ (hF2_1 31 (by decide)) rfl) dX4_isQuiet_19 ?_
        have r3 := ty_31 (i := f + (i * 10)) (v := (h 31) (f + (i * 10))) hT2_1 (rd_ (hF2_1 31 (by decide)) rfl) (by omega) (by omega)
        refine TT_if_ne hK (tgt := 40) (irm (by omega) (by omega)) dX4_isQuiet_20 (by decide) (fun hb20_4 => ?_) (fun hb20_4 => ?_)
        · refine TT_iconst hK dX4_isQuiet_40 ?_
          refine TT_zret hK hQ (by decide) ?_ dX4_isQuiet_41
          exact ⟨⟨hT2_1, hF2_1⟩, 0, rfl, (by omega), (by first | exact ⟨fun _ k h1 h2 => hq k h1 (by omega), fun q => by exfalso; omega⟩ | exact ⟨fun q => by exfalso; omega, fun _ w => by have w1 := w i (by omega) (by omega); omega⟩ | exact ⟨fun q => by exfalso; omega, fun _ w => by have w1 := w i (by omega) (by omega); rw [← e_at34] at w1; omega⟩)⟩
        · refine TT_aload_n hK rfl 1 rfl dX4_isQuiet_23 ?_
          refine gf_X4_21 hK (by decide) rfl (q := 32) rfl rfl dX4_isQuiet_24 ?_
          refine TT_iload_n hK rfl 0 rfl dX4_isQuiet_27 ?_
          refine TT_zald hK (o := 32) (n := 100) (by decide) rfl (by first | omega | (simp [up, setR] <;> omega)) (by first | omega | (simp [up, setR] <;> omega)) (v := (h 32) (f + (i * 10))) (rd_ (hF2_1 32 (by decide)) rfl) dX4_isQuiet_28 ?_
          have r5 := ty_32 (i := f + (i * 10)) (v := (h 32) (f + (i * 10))) hT2_1 (rd_ (hF2_1 32 (by decide)) rfl) (by omega) (by omega)
          refine TT_if_ne hK (tgt := 40) (irm (by omega) (by omega)) dX4_isQuiet_29 (by decide) (fun hb29_6 => ?_) (fun hb29_6 => ?_)
          · refine TT_iconst hK dX4_isQuiet_40 ?_
            refine TT_zret hK hQ (by decide) ?_ dX4_isQuiet_41
            exact ⟨⟨hT2_1, hF2_1⟩, 0, rfl, (by omega), (by first | exact ⟨fun _ k h1 h2 => hq k h1 (by omega), fun q => by exfalso; omega⟩ | exact ⟨fun q => by exfalso; omega, fun _ w => by have w1 := w i (by omega) (by omega); omega⟩ | exact ⟨fun q => by exfalso; omega, fun _ w => by have w1 := w i (by omega) (by omega); rw [← e_at34] at w1; omega⟩)⟩
          · refine TT_aload_n hK rfl 1 rfl dX4_isQuiet_32 ?_
            refine TT_iload_n hK rfl 0 rfl dX4_isQuiet_33 ?_
            refine iv_X4_73 hK (s_contextOf_e (f + (i * 10)) w2_1 hT2_1 (by first | omega | (simp [up, setR] <;> omega))) (by decide) rfl ⟨by decide, by decide⟩ (by decide) rfl rfl (Nat.le_of_ble_eq_true rfl) ⟨by decide, by decide⟩ dX4_isQuiet_34 ?_
            intro r9 g34_7 hp9
            obtain ⟨⟨hT_7, hG_7⟩, z34_7, hr9, hz_7, e_7⟩ := hp9
            rw [hr9]
            have hF_7 : FR [] h g34_7 := FR_tr hF2_1 hG_7 (by decide)
            rw [show w2_1 28 8 = (h 28) 8 from rd_ (hF2_1 28 (by decide)) rfl] at e_7
            rw [show w2_1 31 = h 31 from (hF2_1 31 (by decide))] at e_7
            have e_at34 := e_7
            show TT K ly 0 0 37 [(3, vI (f + (i * 10))), (0, vR 28), (1, vI f), (2, vI i)] [vI z34_7] g34_7
            refine TT_if_eq hK (tgt := 42) (irm (by omega) (by omega)) dX4_isQuiet_37 (by decide) (fun hb37_8 => ?_) (fun hb37_8 => ?_)
            · refine TT_iinc hK (v := i + 1) (lv' := [(2, vI (i + 1)), (3, vI (f + (i * 10))), (0, vR 28), (1, vI f)]) 3 rfl rfl (by decide) rfl dX4_isQuiet_42 ?_
              refine TT_goto hK (tgt := 2) dX4_isQuiet_45 (by decide) ?_
              refine TT_sub [2, 3, 0] rfl ?_
              exact ih1 (i + 1) g34_7 hT_7 hF_7 (by first | omega | (simp [up, setR] <;> omega)) (by intro k h1 h2; by_cases q : k = i; (subst q; exact ⟨by omega, by omega, by rw [← e_at34]; omega⟩); exact hq k h1 (by omega)) (by first | omega | (simp [up, setR] <;> omega))
            · refine TT_iconst hK dX4_isQuiet_40 ?_
              refine TT_zret hK hQ (by decide) ?_ dX4_isQuiet_41
              exact ⟨⟨hT_7, hF_7⟩, 0, rfl, (by omega), (by first | exact ⟨fun _ k h1 h2 => hq k h1 (by omega), fun q => by exfalso; omega⟩ | exact ⟨fun q => by exfalso; omega, fun _ w => by have w1 := w i (by omega) (by omega); omega⟩ | exact ⟨fun q => by exfalso; omega, fun _ w => by have w1 := w i (by omega) (by omega); rw [← e_at34] at w1; omega⟩)⟩
  refine TT_sub [1, 2, 0] rfl ?_
  exact L2_1 ((((4 : Int) - 0).toNat) + 1) 0 h hT hF (by first | omega | (simp [up, setR] <;> omega)) (by exact fun k h1 h2 => by exfalso; omega) (Nat.lt_succ_self _)
set_option maxRecDepth 20000 in
theorem s_tellQuiet_e (f : Int) (h : Hp_) (hT : TY h) (hf : 11 ≤ f ∧ f + 30 ≤ 88) (hM : ∀ q : Int, 0 ≤ q → q < 100 → -4095 ≤ (h 29) q ∧ (h 29) q ≤ 4095) (hpl : 0 ≤ (h 28 9) ∧ (h 28 9) ≤ 20) : Ctr yX4_tellQuiet cX4_tellQuiet 5 (some .int) (rmd 2) ly ly 0 0 [vR 28, vI f] h (fun r h' => (TY h' ∧ FR [24, 25, 26] h h') ∧ ∃ z : Int, r = some (vI z) ∧ (0 ≤ z ∧ z ≤ 4) ∧ (z = whT (h 29) (h 28 9) f) ∧ (∀ s : TS_, RPQ (h 31) (h 32) (h 33) (h 24 3) (h 25) (h 26) s → RPQ (h 31) (h 32) (h 33) (h' 24 3) (h' 25) (h' 26)  (qvT (h 29) (h 28 9) f s)) ∧ ((h' 24 4) = (h 24 4))) := by
  refine Ctr_of (by decide) (Nat.le_of_ble_eq_true rfl) ⟨Nat.le_refl _, Nat.le_refl _⟩ (fun K hK hQ _ => ?_)
  show TT K ly 0 0 0 [(0, vR 28), (1, vI f)] [] h
  have hF : FR [24, 25, 26] h h := FR_rf _ _
  refine TT_iconst hK dX4_tellQuiet_0 ?_
  refine TT_istore_n hK rfl (lv' := [(2, vI 0), (0, vR 28), (1, vI f)]) (by decide) rfl dX4_tellQuiet_1 ?_
  have L2_1 : ∀ (k1 : Nat) (i : Int) (w2_1 : Hp_), TY w2_1 → FR [24, 25, 26] h w2_1 → (0 ≤ i ∧ i ≤ 4) → ((w2_1 28 8) = h 28 8 ∧ (w2_1 28 9) = h 28 9) → (∀ s : TS_, RPQ (h 31) (h 32) (h 33) (h 24 3) (h 25) (h 26) s → RPQ (h 31) (h 32) (h 33) (w2_1 24 3) (w2_1 25) (w2_1 26) s) → (∀ k : Int, 0 ≤ k → k < i → bS (h 29) (h 28 9) (f + k * 10) = 0) → ((w2_1 24 4) = h 24 4) → ((4 : Int) - i).toNat < k1 → TT K ly 0 0 2 [(0, vR 28), (1, vI f), (2, vI i)] [] w2_1 := by
    intro k1
    induction k1 with
    | zero => intro i w2_1 hT2_1 hF2_1 hi k9 hR hq k24 hk1; exact absurd hk1 (Nat.not_lt_zero _)
    | succ k1 ih1 =>
      intro i w2_1 hT2_1 hF2_1 hi k9 hR hq k24 hk1
      have J26_2 : ∀ (w : Int) (w26_2 : Hp_), TY w26_2 → FR [24, 25, 26] h w26_2 → (0 ≤ w ∧ w ≤ 4) → (∀ s : TS_, RPQ (h 31) (h 32) (h 33) (h 24 3) (h 25) (h 26) s → RPQ (h 31) (h 32) (h 33) (w26_2 24 3) (w26_2 25) (w26_2 26) s) → (w = whT (h 29) (h 28 9) f) → ((w26_2 24 4) = h 24 4) → TT K ly 0 0 26 [(0, vR 28), (1, vI f), (2, vI w)] [] w26_2 := by
        intro w w26_2 hT26_2 hF26_2 hw hR hw9 k24
        refine TT_aload_n hK rfl 0 rfl dX4_tellQuiet_26 ?_
        refine gf_X4_28 hK (by decide) rfl (q := 24) rfl rfl dX4_tellQuiet_27 ?_
        refine TT_bipush hK (by decide) dX4_tellQuiet_30 ?_
        refine TT_iload_n hK rfl 2 rfl dX4_tellQuiet_32 ?_
        refine TT_iconst hK dX4_tellQuiet_33 ?_
        refine TT_icmp_ge hK (tgt := 41) (irm (by omega) (by omega)) (by decide) dX4_tellQuiet_34 (by decide) (fun hb34_3 => ?_) (fun hb34_3 => ?_)
        · refine TT_iconst hK dX4_tellQuiet_41 ?_
          refine iv_X4_80_X7 hK (s_tape_e 17 0 w26_2 hT26_2 (by first | omega | (simp [up, setR] <;> omega)) (by first | omega | (simp [up, setR] <;> omega))) (by decide) rfl ⟨by decide, by decide⟩ (by decide) rfl rfl (Nat.le_of_ble_eq_true rfl) ⟨by decide, by decide⟩ dX4_tellQuiet_42 ?_
          intro r9 g42_4 hp9
          obtain ⟨⟨hT_4, hG_4⟩, z42_4, hr9, hz_4, e_4, tp_4, k24_4⟩ := hp9
          rw [hr9]
          have hF_4 : FR [24, 25, 26] h g42_4 := FR_tr hF26_2 hG_4 (by decide)
          rw [show w26_2 24 3 = (w26_2 24) 3 from rfl] at tp_4
          rw [show w26_2 24 4 = (w26_2 24) 4 from rfl] at k24_4
          have e_at42 := e_4
          have tp_at42 := tp_4
          show TT K ly 0 0 47 [(0, vR 28), (1, vI f), (2, vI w)] [vI z42_4] g42_4
          refine TT_if_ne hK (tgt := 52) (irm (by omega) (by omega)) dX4_tellQuiet_47 (by decide) (fun hb47_5 => ?_) (fun hb47_5 => ?_)
          · refine TT_aload_n hK rfl 0 rfl dX4_tellQuiet_52 ?_
            refine gf_X4_28 hK (by decide) rfl (q := 24) rfl rfl dX4_tellQuiet_53 ?_
            refine TT_bipush hK (by decide) dX4_tellQuiet_56 ?_
            refine TT_iload_n hK rfl 2 rfl dX4_tellQuiet_58 ?_
            refine TT_iconst hK dX4_tellQuiet_59 ?_
            refine TT_ishr hK (irm (by omega) (by omega)) (by omega) (by omega) dX4_tellQuiet_60 ?_
            refine TT_cgI (b := w / 2) rfl ?_
            refine TT_iconst hK dX4_tellQuiet_61 ?_
            refine TT_iand hK dX4_tellQuiet_62 ?_
            refine TT_cgI (iand_m (w / 2) 1 (by decide)) ?_
            show TT K ly 0 0 63 [(0, vR 28), (1, vI f), (2, vI w)] (vI ((w / 2) % 2) :: [vI 18, vR 24]) g42_4
            refine iv_X4_80_X7 hK (s_tape_e 18 ((w / 2) % 2) g42_4 hT_4 (by first | omega | (simp [up, setR] <;> omega)) (by first | omega | (simp [up, setR] <;> omega))) (by decide) rfl ⟨by decide, by decide⟩ (by decide) rfl rfl (Nat.le_of_ble_eq_true rfl) ⟨by decide, by decide⟩ dX4_tellQuiet_63 ?_
            intro r9 g63_6 hp9
            obtain ⟨⟨hT_6, hG_6⟩, z63_6, hr9, hz_6, e_6, tp_6, k24_6⟩ := hp9
            rw [hr9]
            have hF_6 : FR [24, 25, 26] h g63_6 := FR_tr hF_4 hG_6 (by decide)
            rw [show g42_4 24 3 = (g42_4 24) 3 from rfl] at tp_6
            rw [show g42_4 24 4 = (g42_4 24) 4 from rfl] at k24_6
            have e_at63 := e_6
            have tp_at63 := tp_6
            show TT K ly 0 0 68 [(0, vR 28), (1, vI f), (2, vI w)] [vI z63_6] g63_6
            refine TT_istore_n hK rfl (lv' := [(3, vI z63_6), (0, vR 28), (1, vI f), (2, vI w)]) (by decide) rfl dX4_tellQuiet_68 ?_
            refine TT_aload_n hK rfl 1 rfl dX4_tellQuiet_69 ?_
            refine gf_X4_28 hK (by decide) rfl (q := 24) rfl rfl dX4_tellQuiet_70 ?_
            refine TT_bipush hK (by decide) dX4_tellQuiet_73 ?_
            refine TT_iload_n hK rfl 3 rfl dX4_tellQuiet_75 ?_
            refine TT_iconst hK dX4_tellQuiet_76 ?_
            refine TT_iand hK dX4_tellQuiet_77 ?_
            refine TT_cgI (iand_m w 1 (by decide)) ?_
            show TT K ly 0 0 78 [(3, vI z63_6), (0, vR 28), (1, vI f), (2, vI w)] (vI (w % 2) :: [vI 18, vR 24]) g63_6
            refine iv_X4_80_X7 hK (s_tape_e 18 (w % 2) g63_6 hT_6 (by first | omega | (simp [up, setR] <;> omega)) (by first | omega | (simp [up, setR] <;> omega))) (by decide) rfl ⟨by decide, by decide⟩ (by decide) rfl rfl (Nat.le_of_ble_eq_true rfl) ⟨by decide, by decide⟩ dX4_tellQuiet_78 ?_
            intro r9 g78_7 hp9
            obtain ⟨⟨hT_7, hG_7⟩, z78_7, hr9, hz_7, e_7, tp_7, k24_7⟩ := hp9
            rw [hr9]
            have hF_7 : FR [24, 25, 26] h g78_7 := FR_tr hF_6 hG_7 (by decide)
            rw [show g63_6 24 3 = (g63_6 24) 3 from rfl] at tp_7
            rw [show g63_6 24 4 = (g63_6 24) 4 from rfl] at k24_7
            have e_at78 := e_7
            have tp_at78 := tp_7
            show TT K ly 0 0 83 [(3, vI z63_6), (0, vR 28), (1, vI f), (2, vI w)] [vI z78_7] g78_7
            refine TT_istore hK (lv' := [(4, vI z78_7), (3, vI z63_6), (0, vR 28), (1, vI f), (2, vI w)]) (by decide) rfl dX4_tellQuiet_83 ?_
            refine TT_iconst hK dX4_tellQuiet_85 ?_
            refine TT_iload_n hK rfl 1 rfl dX4_tellQuiet_86 ?_
            refine TT_imul hK dX4_tellQuiet_87 ?_
            refine TT_iload hK 0 rfl dX4_tellQuiet_88 ?_
            refine TT_iadd hK dX4_tellQuiet_90 ?_
            refine TT_iret hK hQ ?_ dX4_tellQuiet_91
            have e8_24_3 : g78_7 24 3 = (g78_7 24) 3 := rfl
            have e9_24_4 : g78_7 24 4 = (g78_7 24) 4 := rfl
            exact ⟨⟨hT_7, hF_7⟩, ((2 * z63_6) + z78_7), rfl, (by omega), (by rw [← hw9]; omega), (by rewrite [e8_24_3]; intro s hs9; have hs := hR s hs9; unfold qvT; rw [← hw9]; first | (rw [if_neg (by omega)]; exact RPQ_ev hs tp_at42 rfl (by omega)) | (rw [if_pos (by omega)]; exact RPQ_ev (RPQ_ev (RPQ_ev hs tp_at42 rfl (by omega)) tp_at63 rfl (by omega)) tp_at78 rfl (by omega)) | (exfalso; omega)), (by rewrite [e9_24_4]; omega)⟩
          · refine TT_iconst hK dX4_tellQuiet_50 ?_
            refine TT_iret hK hQ ?_ dX4_tellQuiet_51
            have e10_24_3 : g42_4 24 3 = (g42_4 24) 3 := rfl
            have e11_24_4 : g42_4 24 4 = (g42_4 24) 4 := rfl
            exact ⟨⟨hT_4, hF_4⟩, 4, rfl, (by omega), (by rw [← hw9]; omega), (by rewrite [e10_24_3]; intro s hs9; have hs := hR s hs9; unfold qvT; rw [← hw9]; first | (rw [if_neg (by omega)]; exact RPQ_ev hs tp_at42 rfl (by omega)) | (rw [if_pos (by omega)]; exact RPQ_ev (RPQ_ev (RPQ_ev hs tp_at42 rfl (by omega)) tp_at63 rfl (by omega)) tp_at78 rfl (by omega)) | (exfalso; omega)), (by rewrite [e11_24_4]; omega)⟩
        · refine TT_iconst hK dX4_tellQuiet_37 ?_
          refine TT_goto hK (tgt := 42) dX4_tellQuiet_38 (by decide) ?_
          refine iv_X4_80_X7 hK (s_tape_e 17 1 w26_2 hT26_2 (by first | omega | (simp [up, setR] <;> omega)) (by first | omega | (simp [up, setR] <;> omega))) (by decide) rfl ⟨by decide, by decide⟩ (by decide) rfl rfl (Nat.le_of_ble_eq_true rfl) ⟨by decide, by decide⟩ dX4_tellQuiet_42 ?_
          intro r9 g42_12 hp9
          obtain ⟨⟨hT_12, hG_12⟩, z42_12, hr9, hz_12, e_12, tp_12, k24_12⟩ := hp9
          rw [hr9]
          have hF_12 : FR [24, 25, 26] h g42_12 := FR_tr hF26_2 hG_12 (by decide)
          rw [show w26_2 24 3 = (w26_2 24) 3 from rfl] at tp_12
          rw [show w26_2 24 4 = (w26_2 24) 4 from rfl] at k24_12
          have e_at42 := e_12
          have tp_at42 := tp_12
          show TT K ly 0 0 47 [(0, vR 28), (1, vI f), (2, vI w)] [vI z42_12] g42_12
          refine TT_if_ne hK (tgt := 52) (irm (by omega) (by omega)) dX4_tellQuiet_47 (by decide) (fun hb47_13 => ?_) (fun hb47_13 => ?_)
          · refine TT_aload_n hK rfl 0 rfl dX4_tellQuiet_52 ?_
            refine gf_X4_28 hK (by decide) rfl (q := 24) rfl rfl dX4_tellQuiet_53 ?_
            refine TT_bipush hK (by decide) dX4_tellQuiet_56 ?_
            refine TT_iload_n hK rfl 2 rfl dX4_tellQuiet_58 ?_
            refine TT_iconst hK dX4_tellQuiet_59 ?_
            refine TT_ishr hK (irm (by omega) (by omega)) (by omega) (by omega) dX4_tellQuiet_60 ?_
            refine TT_cgI (b := w / 2) rfl ?_
            refine TT_iconst hK dX4_tellQuiet_61 ?_
            refine TT_iand hK dX4_tellQuiet_62 ?_
            refine TT_cgI (iand_m (w / 2) 1 (by decide)) ?_
            show TT K ly 0 0 63 [(0, vR 28), (1, vI f), (2, vI w)] (vI ((w / 2) % 2) :: [vI 18, vR 24]) g42_12
            refine iv_X4_80_X7 hK (s_tape_e 18 ((w / 2) % 2) g42_12 hT_12 (by first | omega | (simp [up, setR] <;> omega)) (by first | omega | (simp [up, setR] <;> omega))) (by decide) rfl ⟨by decide, by decide⟩ (by decide) rfl rfl (Nat.le_of_ble_eq_true rfl) ⟨by decide, by decide⟩ dX4_tellQuiet_63 ?_
            intro r9 g63_14 hp9
            obtain ⟨⟨hT_14, hG_14⟩, z63_14, hr9, hz_14, e_14, tp_14, k24_14⟩ := hp9
            rw [hr9]
            have hF_14 : FR [24, 25, 26] h g63_14 := FR_tr hF_12 hG_14 (by decide)
            rw [show g42_12 24 3 = (g42_12 24) 3 from rfl] at tp_14
            rw [show g42_12 24 4 = (g42_12 24) 4 from rfl] at k24_14
            have e_at63 := e_14
            have tp_at63 := tp_14
            show TT K ly 0 0 68 [(0, vR 28), (1, vI f), (2, vI w)] [vI z63_14] g63_14
            refine TT_istore_n hK rfl (lv' := [(3, vI z63_14), (0, vR 28), (1, vI f), (2, vI w)]) (by decide) rfl dX4_tellQuiet_68 ?_
            refine TT_aload_n hK rfl 1 rfl dX4_tellQuiet_69 ?_
            refine gf_X4_28 hK (by decide) rfl (q := 24) rfl rfl dX4_tellQuiet_70 ?_
            refine TT_bipush hK (by decide) dX4_tellQuiet_73 ?_
            refine TT_iload_n hK rfl 3 rfl dX4_tellQuiet_75 ?_
            refine TT_iconst hK dX4_tellQuiet_76 ?_
            refine TT_iand hK dX4_tellQuiet_77 ?_
            refine TT_cgI (iand_m w 1 (by decide)) ?_
            show TT K ly 0 0 78 [(3, vI z63_14), (0, vR 28), (1, vI f), (2, vI w)] (vI (w % 2) :: [vI 18, vR 24]) g63_14
            refine iv_X4_80_X7 hK (s_tape_e 18 (w % 2) g63_14 hT_14 (by first | omega | (simp [up, setR] <;> omega)) (by first | omega | (simp [up, setR] <;> omega))) (by decide) rfl ⟨by decide, by decide⟩ (by decide) rfl rfl (Nat.le_of_ble_eq_true rfl) ⟨by decide, by decide⟩ dX4_tellQuiet_78 ?_
            intro r9 g78_15 hp9
            obtain ⟨⟨hT_15, hG_15⟩, z78_15, hr9, hz_15, e_15, tp_15, k24_15⟩ := hp9
            rw [hr9]
            have hF_15 : FR [24, 25, 26] h g78_15 := FR_tr hF_14 hG_15 (by decide)
            rw [show g63_14 24 3 = (g63_14 24) 3 from rfl] at tp_15
            rw [show g63_14 24 4 = (g63_14 24) 4 from rfl] at k24_15
            have e_at78 := e_15
            have tp_at78 := tp_15
            show TT K ly 0 0 83 [(3, vI z63_14), (0, vR 28), (1, vI f), (2, vI w)] [vI z78_15] g78_15
            refine TT_istore hK (lv' := [(4, vI z78_15), (3, vI z63_14), (0, vR 28), (1, vI f), (2, vI w)]) (by decide) rfl dX4_tellQuiet_83 ?_
            refine TT_iconst hK dX4_tellQuiet_85 ?_
            refine TT_iload_n hK rfl 1 rfl dX4_tellQuiet_86 ?_
            refine TT_imul hK dX4_tellQuiet_87 ?_
            refine TT_iload hK 0 rfl dX4_tellQuiet_88 ?_
            refine TT_iadd hK dX4_tellQuiet_90 ?_
            refine TT_iret hK hQ ?_ dX4_tellQuiet_91
            have e16_24_3 : g78_15 24 3 = (g78_15 24) 3 := rfl
            have e17_24_4 : g78_15 24 4 = (g78_15 24) 4 := rfl
            exact ⟨⟨hT_15, hF_15⟩, ((2 * z63_14) + z78_15), rfl, (by omega), (by rw [← hw9]; omega), (by rewrite [e16_24_3]; intro s hs9; have hs := hR s hs9; unfold qvT; rw [← hw9]; first | (rw [if_neg (by omega)]; exact RPQ_ev hs tp_at42 rfl (by omega)) | (rw [if_pos (by omega)]; exact RPQ_ev (RPQ_ev (RPQ_ev hs tp_at42 rfl (by omega)) tp_at63 rfl (by omega)) tp_at78 rfl (by omega)) | (exfalso; omega)), (by rewrite [e17_24_4]; omega)⟩
          · refine TT_iconst hK dX4_tellQuiet_50 ?_
            refine TT_iret hK hQ ?_ dX4_tellQuiet_51
            have e18_24_3 : g42_12 24 3 = (g42_12 24) 3 := rfl
            have e19_24_4 : g42_12 24 4 = (g42_12 24) 4 := rfl
            exact ⟨⟨hT_12, hF_12⟩, 4, rfl, (by omega), (by rw [← hw9]; omega), (by rewrite [e18_24_3]; intro s hs9; have hs := hR s hs9; unfold qvT; rw [← hw9]; first | (rw [if_neg (by omega)]; exact RPQ_ev hs tp_at42 rfl (by omega)) | (rw [if_pos (by omega)]; exact RPQ_ev (RPQ_ev (RPQ_ev hs tp_at42 rfl (by omega)) tp_at63 rfl (by omega)) tp_at78 rfl (by omega)) | (exfalso; omega)), (by rewrite [e19_24_4]; omega)⟩
      refine TT_iload_n hK rfl 2 rfl dX4_tellQuiet_2 ?_
      refine TT_iconst hK dX4_tellQuiet_3 ?_
      refine TT_icmp_ge hK (tgt := 26) (irm (by omega) (by omega)) (by decide) dX4_tellQuiet_4 (by decide) (fun hb4_20 => ?_) (fun hb4_20 => ?_)
      · have e21_24_3 : w2_1 24 3 = (w2_1 24) 3 := rfl
        have e22_24_4 : w2_1 24 4 = (w2_1 24) 4 := rfl
        exact J26_2 i w2_1 hT2_1 hF2_1 (by first | omega | (simp [up, setR] <;> omega)) (by rewrite [e21_24_3]; first | exact hR | (intro s hs; exact hR s hs)) (by first | exact whT_1 (by omega) hq (Or.inl (by omega)) | exact whT_1 (by omega) hq (Or.inr ⟨by omega, by rw [← e_at14]; omega⟩)) (by rewrite [e22_24_4]; first | omega | (simp [up, setR] <;> omega))
      · refine TT_aload_n hK rfl 0 rfl dX4_tellQuiet_7 ?_
        refine TT_iload_n hK rfl 1 rfl dX4_tellQuiet_8 ?_
        refine TT_iload_n hK rfl 2 rfl dX4_tellQuiet_9 ?_
        refine TT_bipush hK (by decide) dX4_tellQuiet_10 ?_
        refine TT_imul hK dX4_tellQuiet_12 ?_
        refine TT_iadd hK dX4_tellQuiet_13 ?_
        have e23_29 : w2_1 29 = h 29 := (hF2_1 29 (by decide))
        have e24_28_9 : w2_1 28 9 = (h 28) 9 := rd_ (hF2_1 28 (by decide)) rfl
        refine iv_X4_77 hK (s_meantBit_e (f + (i * 10)) w2_1 hT2_1 (by first | omega | (simp [up, setR] <;> omega)) (by rewrite [e23_29]; first | assumption | exact hM) (by rewrite [e24_28_9]; first | assumption | exact hpl | omega)) (by decide) rfl ⟨by decide, by decide⟩ (by decide) rfl rfl (Nat.le_of_ble_eq_true rfl) ⟨by decide, by decide⟩ dX4_tellQuiet_14 ?_
        intro r9 g14_25 hp9
        obtain ⟨⟨hT_25, hG_25⟩, z14_25, hr9, hz_25, e_25⟩ := hp9
        rw [hr9]
        have hF_25 : FR [24, 25, 26] h g14_25 := FR_tr hF2_1 hG_25 (by decide)
        rw [show w2_1 28 9 = (h 28) 9 from rd_ (hF2_1 28 (by decide)) rfl] at e_25
        rw [show w2_1 29 = h 29 from (hF2_1 29 (by decide))] at e_25
        have e_at14 := e_25
        show TT K ly 0 0 17 [(0, vR 28), (1, vI f), (2, vI i)] [vI z14_25] g14_25
        refine TT_if_ne hK (tgt := 26) (irm (by omega) (by omega)) dX4_tellQuiet_17 (by decide) (fun hb17_26 => ?_) (fun hb17_26 => ?_)
        · have e27_24_3 : g14_25 24 3 = (w2_1 24) 3 := rd_ (hG_25 24 (by decide)) rfl
          have e28_25 : g14_25 25 = w2_1 25 := (hG_25 25 (by decide))
          have e29_26 : g14_25 26 = w2_1 26 := (hG_25 26 (by decide))
          have e30_24_4 : g14_25 24 4 = (w2_1 24) 4 := rd_ (hG_25 24 (by decide)) rfl
          exact J26_2 i g14_25 hT_25 hF_25 (by first | omega | (simp [up, setR] <;> omega)) (by rewrite [e27_24_3, e28_25, e29_26]; first | exact hR | (intro s hs; exact hR s hs)) (by first | exact whT_1 (by omega) hq (Or.inl (by omega)) | exact whT_1 (by omega) hq (Or.inr ⟨by omega, by rw [← e_at14]; omega⟩)) (by rewrite [e30_24_4]; first | omega | (simp [up, setR] <;> omega))
        · refine TT_iinc hK (v := i + 1) (lv' := [(2, vI (i + 1)), (0, vR 28), (1, vI f)]) 2 rfl rfl (by decide) rfl dX4_tellQuiet_20 ?_
          refine TT_goto hK (tgt := 2) dX4_tellQuiet_23 (by decide) ?_
          refine TT_sub [1, 2, 0] rfl ?_
          have e31_28_8 : g14_25 28 8 = (h 28) 8 := rd_ (((hG_25 28 (by decide))).trans (hF2_1 28 (by decide))) rfl
          have e32_28_9 : g14_25 28 9 = (h 28) 9 := rd_ (((hG_25 28 (by decide))).trans (hF2_1 28 (by decide))) rfl
          have e33_24_3 : g14_25 24 3 = (w2_1 24) 3 := rd_ (hG_25 24 (by decide)) rfl
          have e34_25 : g14_25 25 = w2_1 25 := (hG_25 25 (by decide))
          have e35_26 : g14_25 26 = w2_1 26 := (hG_25 26 (by decide))
          have e36_24_4 : g14_25 24 4 = (w2_1 24) 4 := rd_ (hG_25 24 (by decide)) rfl
          exact ih1 (i + 1) g14_25 hT_25 hF_25 (by first | omega | (simp [up, setR] <;> omega)) (by rewrite [e31_28_8, e32_28_9]; first | omega | (simp [up, setR] <;> omega)) (by rewrite [e33_24_3, e34_25, e35_26]; first | exact hR | (intro s hs; exact hR s hs)) (by intro k h1 h2; by_cases q : k = i; (subst q; rw [← e_at14]; omega); exact hq k h1 (by omega)) (by rewrite [e36_24_4]; first | omega | (simp [up, setR] <;> omega)) (by first | omega | (simp [up, setR] <;> omega))
  refine TT_sub [1, 2, 0] rfl ?_
  have e37_28_8 : h 28 8 = (h 28) 8 := rfl
  have e38_28_9 : h 28 9 = (h 28) 9 := rfl
  have e39_24_3 : h 24 3 = (h 24) 3 := rfl
  have e40_24_4 : h 24 4 = (h 24) 4 := rfl
  exact L2_1 ((((4 : Int) - 0).toNat) + 1) 0 h hT hF (by first | omega | (simp [up, setR] <;> omega)) (by rewrite [e37_28_8, e38_28_9]; first | omega | (simp [up, setR] <;> omega)) (by rewrite [e39_24_3]; exact fun s hs => hs) (by exact fun k h1 h2 => by exfalso; omega) (by rewrite [e40_24_4]; first | omega | (simp [up, setR] <;> omega)) (Nat.lt_succ_self _)
set_option maxRecDepth 20000 in
theorem s_cleanColumn_e (f n : Int) (h : Hp_) (hT : TY h) (hf : 11 ≤ f ∧ f + 10 * (n - 1) ≤ 88) (hn : 0 ≤ n ∧ n ≤ 4) (hM : ∀ q : Int, 0 ≤ q → q < 100 → -4095 ≤ (h 29) q ∧ (h 29) q ≤ 4095) (hpl : 0 ≤ (h 28 9) ∧ (h 28 9) ≤ 20) : Ctr yX4_cleanColumn cX4_cleanColumn 6 none (rmd 3) ly ly 0 0 [vR 28, vI f, vI n] h (fun r h' => (TY h' ∧ FR [24, 25, 26, 30, 31] h h') ∧ r = none ∧ (∀ s : TS_, RPQ (h 31) (h 32) (h 33) (h 24 3) (h 25) (h 26) s → RPQ (h' 31) (h 32) (h 33) (h' 24 3) (h' 25) (h' 26)  (cnT (h 29) (h 28 8) (h 28 9) f n s)) ∧ ((h' 24 4) = (h 24 4))) := by
  refine Ctr_of (by decide) (Nat.le_of_ble_eq_true rfl) ⟨Nat.le_refl _, Nat.le_refl _⟩ (fun K hK hQ _ => ?_)
  show TT K ly 0 0 0 [(0, vR 28), (1, vI f), (2, vI n)] [] h
  have hF : FR [24, 25, 26, 30, 31] h h := FR_rf _ _
  refine TT_iconst hK dX4_cleanColumn_0 ?_
  refine TT_istore_n hK rfl (lv' := [(3, vI 0), (0, vR 28), (1, vI f), (2, vI n)]) (by decide) rfl dX4_cleanColumn_1 ?_
  have J44_1 : ∀ (nx : Int) (w44_1 : Hp_), TY w44_1 → FR [24, 25, 26, 30, 31] h w44_1 → (0 ≤ nx ∧ nx ≤ 5) → ((w44_1 28 8) = h 28 8 ∧ (w44_1 28 9) = h 28 9) → (nx = nxT (h 31) (h 32) (h 29) (h 28 8) (h 28 9) f n) → (∀ s : TS_, RPQ (h 31) (h 32) (h 33) (h 24 3) (h 25) (h 26) s → RPQ (w44_1 31) (h 32) (h 33) (w44_1 24 3) (w44_1 25) (w44_1 26) (preT (h 29) (h 28 8) (h 28 9) f n s)) → ((w44_1 24 4) = h 24 4) → TT K ly 0 0 44 [(0, vR 28), (1, vI f), (2, vI n), (3, vI nx)] [] w44_1 := by
    intro nx w44_1 hT44_1 hF44_1 hnx k9 hn9 hP k24
    refine TT_iload_n hK rfl 3 rfl dX4_cleanColumn_44 ?_
    refine TT_istore hK (lv' := [(4, vI nx), (0, vR 28), (1, vI f), (2, vI n), (3, vI nx)]) (by decide) rfl dX4_cleanColumn_45 ?_
    have L47_2 : ∀ (k2 : Nat) (i : Int) (w47_2 : Hp_), TY w47_2 → FR [24, 25, 26, 30, 31] h w47_2 → (0 ≤ i ∧ i ≤ 5 ∧ nx ≤ i ∧ (i ≤ n ∨ i = nx)) → ((w47_2 28 8) = h 28 8 ∧ (w47_2 28 9) = h 28 9) → (∀ s : TS_, RPQ (h 31) (h 32) (h 33) (h 24 3) (h 25) (h 26) s → RPQ (w47_2 31) (h 32) (h 33) (w47_2 24 3) (w47_2 25) (w47_2 26) (itT (clT (h 29) (h 28 8) (h 28 9)) (f + nx * 10) (i - nx).toNat (preT (h 29) (h 28 8) (h 28 9) f n s))) → ((w47_2 24 4) = h 24 4) → ((5 : Int) - i).toNat < k2 → TT K ly 0 0 47 [(0, vR 28), (1, vI f), (2, vI n), (3, vI nx), (4, vI i)] [] w47_2 := by
      intro k2
      induction k2 with
      | zero => intro i w47_2 hT47_2 hF47_2 hi k9 hR k24 hk2; exact absurd hk2 (Nat.not_lt_zero _)
      | succ k2 ih2 =>
        intro i w47_2 hT47_2 hF47_2 hi k9 hR k24 hk2
        refine TT_iload hK 4 rfl dX4_cleanColumn_47 ?_
        refine TT_iload_n hK rfl 2 rfl dX4_cleanColumn_49 ?_
        refine TT_icmp_ge hK (tgt := 119) (irm (by omega) (by omega)) (irm (by omega) (by omega)) dX4_cleanColumn_50 (by decide) (fun hb50_3 => ?_) (fun hb50_3 => ?_)
        · refine TT_vret hK hQ ?_ dX4_cleanColumn_119
          have e4_24_3 : w47_2 24 3 = (w47_2 24) 3 := rfl
          have e5_24_4 : w47_2 24 4 = (w47_2 24) 4 := rfl
          exact ⟨⟨hT47_2, hF47_2⟩, rfl, (by rewrite [e4_24_3]; intro s hs; have q := hR s hs; rw [hn9] at q; exact cnT_1 hs q (by rw [← hn9]; omega)), (by rewrite [e5_24_4]; omega)⟩
        · refine TT_iload_n hK rfl 1 rfl dX4_cleanColumn_53 ?_
          refine TT_iload hK 4 rfl dX4_cleanColumn_54 ?_
          refine TT_bipush hK (by decide) dX4_cleanColumn_56 ?_
          refine TT_imul hK dX4_cleanColumn_58 ?_
          refine TT_iadd hK dX4_cleanColumn_59 ?_
          refine TT_istore hK (lv' := [(5, vI (f + (i * 10))), (0, vR 28), (1, vI f), (2, vI n), (3, vI nx), (4, vI i)]) (by decide) rfl dX4_cleanColumn_60 ?_
          refine TT_aload_n hK rfl 1 rfl dX4_cleanColumn_62 ?_
          refine gf_X4_18 hK (by decide) rfl (q := 31) rfl rfl dX4_cleanColumn_63 ?_
          refine TT_iload hK 0 rfl dX4_cleanColumn_66 ?_
          refine TT_iald hK (o := 31) (n := 100) (by decide) rfl (by first | omega | (simp [up, setR] <;> omega)) (by first | omega | (simp [up, setR] <;> omega)) (v := (w47_2 31) (f + (i * 10))) rfl dX4_cleanColumn_68 ?_
          have r6 := ty_31 (i := f + (i * 10)) (v := (w47_2 31) (f + (i * 10))) hT47_2 rfl (by omega) (by omega)
          refine TT_if_ne hK (tgt := 113) (irm (by omega) (by omega)) dX4_cleanColumn_69 (by decide) (fun hb69_7 => ?_) (fun hb69_7 => ?_)
          · refine TT_iinc hK (v := i + 1) (lv' := [(4, vI (i + 1)), (5, vI (f + (i * 10))), (0, vR 28), (1, vI f), (2, vI n), (3, vI nx)]) 5 rfl rfl (by decide) rfl dX4_cleanColumn_113 ?_
            refine TT_goto hK (tgt := 47) dX4_cleanColumn_116 (by decide) ?_
            refine TT_sub [2, 3, 4, 5, 0] rfl ?_
            have e8_28_8 : w47_2 28 8 = (h 28) 8 := rd_ (hF47_2 28 (by decide)) rfl
            have e9_28_9 : w47_2 28 9 = (h 28) 9 := rd_ (hF47_2 28 (by decide)) rfl
            have e10_24_3 : w47_2 24 3 = (w47_2 24) 3 := rfl
            have e11_24_4 : w47_2 24 4 = (w47_2 24) 4 := rfl
            exact ih2 (i + 1) w47_2 hT47_2 hF47_2 (by first | omega | (simp [up, setR] <;> omega)) (by rewrite [e8_28_8, e9_28_9]; first | omega | (simp [up, setR] <;> omega)) (by rewrite [e10_24_3]; intro s hs; have q := hR s hs; rw [show (i + 1 - nx).toNat = (i - nx).toNat + 1 by omega]; unfold itT; rw [show f + nx * 10 + (((i - nx).toNat : Nat) : Int) * 10 = f + i * 10 by omega]; first | exact clT_0 q (by omega) | exact clT_2 q (by omega) e_at89 e_at95 tp_at98 (by omega) wk_at110 | exact clT_1 q (by omega) e_at89 e_at95 tp_at98 (by omega)) (by rewrite [e11_24_4]; first | omega | (simp [up, setR] <;> omega)) (by first | omega | (simp [up, setR] <;> omega))
          · refine TT_aload_n hK rfl 1 rfl dX4_cleanColumn_72 ?_
            refine gf_X4_21 hK (by decide) rfl (q := 32) rfl rfl dX4_cleanColumn_73 ?_
            refine TT_iload hK 0 rfl dX4_cleanColumn_76 ?_
            refine TT_zald hK (o := 32) (n := 100) (by decide) rfl (by first | omega | (simp [up, setR] <;> omega)) (by first | omega | (simp [up, setR] <;> omega)) (v := (h 32) (f + (i * 10))) (rd_ (hF47_2 32 (by decide)) rfl) dX4_cleanColumn_78 ?_
            have r12 := ty_32 (i := f + (i * 10)) (v := (h 32) (f + (i * 10))) hT47_2 (rd_ (hF47_2 32 (by decide)) rfl) (by omega) (by omega)
            refine TT_if_ne hK (tgt := 113) (irm (by omega) (by omega)) dX4_cleanColumn_79 (by decide) (fun hb79_13 => ?_) (fun hb79_13 => ?_)
            · refine TT_iinc hK (v := i + 1) (lv' := [(4, vI (i + 1)), (5, vI (f + (i * 10))), (0, vR 28), (1, vI f), (2, vI n), (3, vI nx)]) 5 rfl rfl (by decide) rfl dX4_cleanColumn_113 ?_
              refine TT_goto hK (tgt := 47) dX4_cleanColumn_116 (by decide) ?_
              refine TT_sub [2, 3, 4, 5, 0] rfl ?_
              have e14_28_8 : w47_2 28 8 = (h 28) 8 := rd_ (hF47_2 28 (by decide)) rfl
              have e15_28_9 : w47_2 28 9 = (h 28) 9 := rd_ (hF47_2 28 (by decide)) rfl
              have e16_24_3 : w47_2 24 3 = (w47_2 24) 3 := rfl
              have e17_24_4 : w47_2 24 4 = (w47_2 24) 4 := rfl
              exact ih2 (i + 1) w47_2 hT47_2 hF47_2 (by first | omega | (simp [up, setR] <;> omega)) (by rewrite [e14_28_8, e15_28_9]; first | omega | (simp [up, setR] <;> omega)) (by rewrite [e16_24_3]; intro s hs; have q := hR s hs; rw [show (i + 1 - nx).toNat = (i - nx).toNat + 1 by omega]; unfold itT; rw [show f + nx * 10 + (((i - nx).toNat : Nat) : Int) * 10 = f + i * 10 by omega]; first | exact clT_0 q (by omega) | exact clT_2 q (by omega) e_at89 e_at95 tp_at98 (by omega) wk_at110 | exact clT_1 q (by omega) e_at89 e_at95 tp_at98 (by omega)) (by rewrite [e17_24_4]; first | omega | (simp [up, setR] <;> omega)) (by first | omega | (simp [up, setR] <;> omega))
            · refine TT_aload_n hK rfl 1 rfl dX4_cleanColumn_82 ?_
              refine gf_X4_28 hK (by decide) rfl (q := 24) rfl rfl dX4_cleanColumn_83 ?_
              refine TT_aload_n hK rfl 1 rfl dX4_cleanColumn_86 ?_
              refine TT_iload hK 0 rfl dX4_cleanColumn_87 ?_
              refine iv_X4_73 hK (s_contextOf_e (f + (i * 10)) w47_2 hT47_2 (by first | omega | (simp [up, setR] <;> omega))) (by decide) rfl ⟨by decide, by decide⟩ (by decide) rfl rfl (Nat.le_of_ble_eq_true rfl) ⟨by decide, by decide⟩ dX4_cleanColumn_89 ?_
              intro r9 g89_18 hp9
              obtain ⟨⟨hT_18, hG_18⟩, z89_18, hr9, hz_18, e_18⟩ := hp9
              rw [hr9]
              have hF_18 : FR [24, 25, 26, 30, 31] h g89_18 := FR_tr hF47_2 hG_18 (by decide)
              rw [show w47_2 28 8 = (h 28) 8 from rd_ (hF47_2 28 (by decide)) rfl] at e_18
              have e_at89 := e_18
              show TT K ly 0 0 92 [(5, vI (f + (i * 10))), (0, vR 28), (1, vI f), (2, vI n), (3, vI nx), (4, vI i)] [vI z89_18, vR 24] g89_18
              refine TT_aload_n hK rfl 1 rfl dX4_cleanColumn_92 ?_
              refine TT_iload hK 0 rfl dX4_cleanColumn_93 ?_
              have e19_29 : g89_18 29 = h 29 := ((hG_18 29 (by decide))).trans (hF47_2 29 (by decide))
              have e20_28_9 : g89_18 28 9 = (h 28) 9 := rd_ (((hG_18 28 (by decide))).trans (hF47_2 28 (by decide))) rfl
              refine iv_X4_77 hK (s_meantBit_e (f + (i * 10)) g89_18 hT_18 (by first | omega | (simp [up, setR] <;> omega)) (by rewrite [e19_29]; first | assumption | exact hM) (by rewrite [e20_28_9]; first | assumption | exact hpl | omega)) (by decide) rfl ⟨by decide, by decide⟩ (by decide) rfl rfl (Nat.le_of_ble_eq_true rfl) ⟨by decide, by decide⟩ dX4_cleanColumn_95 ?_
              intro r9 g95_21 hp9
              obtain ⟨⟨hT_21, hG_21⟩, z95_21, hr9, hz_21, e_21⟩ := hp9
              rw [hr9]
              have hF_21 : FR [24, 25, 26, 30, 31] h g95_21 := FR_tr hF_18 hG_21 (by decide)
              rw [show g89_18 28 9 = (h 28) 9 from rd_ (((hG_18 28 (by decide))).trans (hF47_2 28 (by decide))) rfl] at e_21
              rw [show g89_18 29 = h 29 from ((hG_18 29 (by decide))).trans (hF47_2 29 (by decide))] at e_21
              have e_at95 := e_21
              show TT K ly 0 0 98 [(5, vI (f + (i * 10))), (0, vR 28), (1, vI f), (2, vI n), (3, vI nx), (4, vI i)] [vI z95_21, vI z89_18, vR 24] g95_21
              refine iv_X4_80_X7 hK (s_tape_e z89_18 z95_21 g95_21 hT_21 (by first | omega | (simp [up, setR] <;> omega)) (by first | omega | (simp [up, setR] <;> omega))) (by decide) rfl ⟨by decide, by decide⟩ (by decide) rfl rfl (Nat.le_of_ble_eq_true rfl) ⟨by decide, by decide⟩ dX4_cleanColumn_98 ?_
              intro r9 g98_22 hp9
              obtain ⟨⟨hT_22, hG_22⟩, z98_22, hr9, hz_22, e_22, tp_22, k24_22⟩ := hp9
              rw [hr9]
              have hF_22 : FR [24, 25, 26, 30, 31] h g98_22 := FR_tr hF_21 hG_22 (by decide)
              rw [show g95_21 24 3 = (w47_2 24) 3 from rd_ (((hG_21 24 (by decide))).trans (hG_18 24 (by decide))) rfl] at tp_22
              rw [show g95_21 25 = w47_2 25 from ((hG_21 25 (by decide))).trans (hG_18 25 (by decide))] at tp_22
              rw [show g95_21 26 = w47_2 26 from ((hG_21 26 (by decide))).trans (hG_18 26 (by decide))] at tp_22
              rw [show g95_21 24 4 = (w47_2 24) 4 from rd_ (((hG_21 24 (by decide))).trans (hG_18 24 (by decide))) rfl] at k24_22
              have e_at98 := e_22
              have tp_at98 := tp_22
              show TT K ly 0 0 103 [(5, vI (f + (i * 10))), (0, vR 28), (1, vI f), (2, vI n), (3, vI nx), (4, vI i)] [vI z98_22] g98_22
              refine TT_iconst hK dX4_cleanColumn_103 ?_
              refine TT_icmp_ne hK (tgt := 113) (irm (by omega) (by omega)) (by decide) dX4_cleanColumn_104 (by decide) (fun hb104_23 => ?_) (fun hb104_23 => ?_)
              · refine TT_iinc hK (v := i + 1) (lv' := [(4, vI (i + 1)), (5, vI (f + (i * 10))), (0, vR 28), (1, vI f), (2, vI n), (3, vI nx)]) 5 rfl rfl (by decide) rfl dX4_cleanColumn_113 ?_
                refine TT_goto hK (tgt := 47) dX4_cleanColumn_116 (by decide) ?_
                refine TT_sub [2, 3, 4, 5, 0] rfl ?_
                have e24_28_8 : g98_22 28 8 = (h 28) 8 := rd_ (((hG_22 28 (by decide))).trans (((hG_21 28 (by decide))).trans (((hG_18 28 (by decide))).trans (hF47_2 28 (by decide))))) rfl
                have e25_28_9 : g98_22 28 9 = (h 28) 9 := rd_ (((hG_22 28 (by decide))).trans (((hG_21 28 (by decide))).trans (((hG_18 28 (by decide))).trans (hF47_2 28 (by decide))))) rfl
                have e26_24_3 : g98_22 24 3 = (g98_22 24) 3 := rfl
                have e27_31 : g98_22 31 = w47_2 31 := ((hG_22 31 (by decide))).trans (((hG_21 31 (by decide))).trans (hG_18 31 (by decide)))
                have e28_24_4 : g98_22 24 4 = (g98_22 24) 4 := rfl
                exact ih2 (i + 1) g98_22 hT_22 hF_22 (by first | omega | (simp [up, setR] <;> omega)) (by rewrite [e24_28_8, e25_28_9]; first | omega | (simp [up, setR] <;> omega)) (by rewrite [e26_24_3, e27_31]; intro s hs; have q := hR s hs; rw [show (i + 1 - nx).toNat = (i - nx).toNat + 1 by omega]; unfold itT; rw [show f + nx * 10 + (((i - nx).toNat : Nat) : Int) * 10 = f + i * 10 by omega]; first | exact clT_0 q (by omega) | exact clT_2 q (by omega) e_at89 e_at95 tp_at98 (by omega) wk_at110 | exact clT_1 q (by omega) e_at89 e_at95 tp_at98 (by omega)) (by rewrite [e28_24_4]; first | omega | (simp [up, setR] <;> omega)) (by first | omega | (simp [up, setR] <;> omega))
              · refine TT_aload_n hK rfl 1 rfl dX4_cleanColumn_107 ?_
                refine TT_iload hK 0 rfl dX4_cleanColumn_108 ?_
                refine iv_X4_85 hK (s_wake_e (f + (i * 10)) g98_22 hT_22 (by first | omega | (simp [up, setR] <;> omega))) (by decide) rfl ⟨by decide, by decide⟩ (by decide) rfl rfl (Nat.le_of_ble_eq_true rfl) ⟨by decide, by decide⟩ dX4_cleanColumn_110 ?_
                intro r9 g110_29 hp9
                obtain ⟨⟨hT_29, hG_29⟩, hr9, wk_29, k24_29⟩ := hp9
                rw [hr9]
                have hF_29 : FR [24, 25, 26, 30, 31] h g110_29 := FR_tr hF_22 hG_29 (by decide)
                rw [show g98_22 24 3 = (g98_22 24) 3 from rfl] at wk_29
                rw [show g98_22 29 = h 29 from ((hG_22 29 (by decide))).trans (((hG_21 29 (by decide))).trans (((hG_18 29 (by decide))).trans (hF47_2 29 (by decide))))] at wk_29
                rw [show g98_22 31 = w47_2 31 from ((hG_22 31 (by decide))).trans (((hG_21 31 (by decide))).trans (hG_18 31 (by decide)))] at wk_29
                rw [show g98_22 32 = h 32 from ((hG_22 32 (by decide))).trans (((hG_21 32 (by decide))).trans (((hG_18 32 (by decide))).trans (hF47_2 32 (by decide))))] at wk_29
                rw [show g98_22 33 = h 33 from ((hG_22 33 (by decide))).trans (((hG_21 33 (by decide))).trans (((hG_18 33 (by decide))).trans (hF47_2 33 (by decide))))] at wk_29
                rw [show g98_22 24 4 = (g98_22 24) 4 from rfl] at k24_29
                have wk_at110 := wk_29
                show TT K ly 0 0 113 [(5, vI (f + (i * 10))), (0, vR 28), (1, vI f), (2, vI n), (3, vI nx), (4, vI i)] [] g110_29
                refine TT_iinc hK (v := i + 1) (lv' := [(4, vI (i + 1)), (5, vI (f + (i * 10))), (0, vR 28), (1, vI f), (2, vI n), (3, vI nx)]) 5 rfl rfl (by decide) rfl dX4_cleanColumn_113 ?_
                refine TT_goto hK (tgt := 47) dX4_cleanColumn_116 (by decide) ?_
                refine TT_sub [2, 3, 4, 5, 0] rfl ?_
                have e30_28_8 : g110_29 28 8 = (h 28) 8 := rd_ (((hG_29 28 (by decide))).trans (((hG_22 28 (by decide))).trans (((hG_21 28 (by decide))).trans (((hG_18 28 (by decide))).trans (hF47_2 28 (by decide)))))) rfl
                have e31_28_9 : g110_29 28 9 = (h 28) 9 := rd_ (((hG_29 28 (by decide))).trans (((hG_22 28 (by decide))).trans (((hG_21 28 (by decide))).trans (((hG_18 28 (by decide))).trans (hF47_2 28 (by decide)))))) rfl
                have e32_24_3 : g110_29 24 3 = (g110_29 24) 3 := rfl
                have e33_24_4 : g110_29 24 4 = (g110_29 24) 4 := rfl
                exact ih2 (i + 1) g110_29 hT_29 hF_29 (by first | omega | (simp [up, setR] <;> omega)) (by rewrite [e30_28_8, e31_28_9]; first | omega | (simp [up, setR] <;> omega)) (by rewrite [e32_24_3]; intro s hs; have q := hR s hs; rw [show (i + 1 - nx).toNat = (i - nx).toNat + 1 by omega]; unfold itT; rw [show f + nx * 10 + (((i - nx).toNat : Nat) : Int) * 10 = f + i * 10 by omega]; first | exact clT_0 q (by omega) | exact clT_2 q (by omega) e_at89 e_at95 tp_at98 (by omega) wk_at110 | exact clT_1 q (by omega) e_at89 e_at95 tp_at98 (by omega)) (by rewrite [e33_24_4]; first | omega | (simp [up, setR] <;> omega)) (by first | omega | (simp [up, setR] <;> omega))
    refine TT_sub [1, 2, 3, 4, 0] rfl ?_
    have e34_28_8 : w44_1 28 8 = (h 28) 8 := rd_ (hF44_1 28 (by decide)) rfl
    have e35_28_9 : w44_1 28 9 = (h 28) 9 := rd_ (hF44_1 28 (by decide)) rfl
    have e36_24_3 : w44_1 24 3 = (w44_1 24) 3 := rfl
    have e37_24_4 : w44_1 24 4 = (w44_1 24) 4 := rfl
    exact L47_2 ((((5 : Int) - nx).toNat) + 1) nx w44_1 hT44_1 hF44_1 (by first | omega | (simp [up, setR] <;> omega)) (by rewrite [e34_28_8, e35_28_9]; first | omega | (simp [up, setR] <;> omega)) (by rewrite [e36_24_3]; intro s hs; rw [show (nx - nx).toNat = 0 by omega]; exact hP s hs) (by rewrite [e37_24_4]; first | omega | (simp [up, setR] <;> omega)) (Nat.lt_succ_self _)
  refine TT_iload_n hK rfl 3 rfl dX4_cleanColumn_2 ?_
  refine TT_iconst hK dX4_cleanColumn_3 ?_
  refine TT_icmp_ne hK (tgt := 44) (irm (by omega) (by omega)) (by decide) dX4_cleanColumn_4 (by decide) (fun hb4_38 => ?_) (fun hb4_38 => ?_)
  · refine TT_sub [1, 2, 3, 0] rfl ?_
    have e39_28_8 : h 28 8 = (h 28) 8 := rfl
    have e40_28_9 : h 28 9 = (h 28) 9 := rfl
    have e41_24_3 : h 24 3 = (h 24) 3 := rfl
    have e42_24_4 : h 24 4 = (h 24) 4 := rfl
    exact J44_1 0 h hT hF (by first | omega | (simp [up, setR] <;> omega)) (by rewrite [e39_28_8, e40_28_9]; first | omega | (simp [up, setR] <;> omega)) (by unfold nxT; first | (rw [if_neg (fun q => absurd q.1 (by omega))]; done) | (rw [if_neg (fun q => q_at9.2 (by omega) q.2)]; done) | (rw [if_pos ⟨by omega, q_at9.1 (by omega)⟩]; omega)) (by rewrite [e41_24_3]; intro s hs; first | exact preT_0 hs (fun q => absurd q.1 (by omega)) | exact preT_0 hs (fun q => q_at9.2 (by omega) q.2) | exact preT_1 hs ⟨by omega, q_at9.1 (by omega)⟩ (by omega) (tq_at17 s hs) | exact preT_2 hs ⟨by omega, q_at9.1 (by omega)⟩ w_at17 (by omega) (tq_at17 s hs) wk_at36) (by rewrite [e42_24_4]; first | omega | (simp [up, setR] <;> omega))
  · refine TT_aload_n hK rfl 1 rfl dX4_cleanColumn_7 ?_
    refine TT_iload_n hK rfl 2 rfl dX4_cleanColumn_8 ?_
    refine iv_X4_101 hK (s_isQuiet_e f h hT (by first | omega | (simp [up, setR] <;> omega))) (by decide) rfl ⟨by decide, by decide⟩ (by decide) rfl rfl (Nat.le_of_ble_eq_true rfl) ⟨by decide, by decide⟩ dX4_cleanColumn_9 ?_
    intro r9 g9_43 hp9
    obtain ⟨⟨hT_43, hG_43⟩, z9_43, hr9, hz_43, q_43⟩ := hp9
    rw [hr9]
    have hF_43 : FR [24, 25, 26, 30, 31] h g9_43 := FR_tr hF hG_43 (by decide)
    rw [show h 28 8 = (h 28) 8 from rfl] at q_43
    have q_at9 := q_43
    show TT K ly 0 0 12 [(3, vI 0), (0, vR 28), (1, vI f), (2, vI n)] [vI z9_43] g9_43
    refine TT_if_eq hK (tgt := 44) (irm (by omega) (by omega)) dX4_cleanColumn_12 (by decide) (fun hb12_44 => ?_) (fun hb12_44 => ?_)
    · refine TT_sub [1, 2, 3, 0] rfl ?_
      have e45_28_8 : g9_43 28 8 = (h 28) 8 := rd_ (hG_43 28 (by decide)) rfl
      have e46_28_9 : g9_43 28 9 = (h 28) 9 := rd_ (hG_43 28 (by decide)) rfl
      have e47_24_3 : g9_43 24 3 = (h 24) 3 := rd_ (hG_43 24 (by decide)) rfl
      have e48_25 : g9_43 25 = h 25 := (hG_43 25 (by decide))
      have e49_26 : g9_43 26 = h 26 := (hG_43 26 (by decide))
      have e50_31 : g9_43 31 = h 31 := (hG_43 31 (by decide))
      have e51_24_4 : g9_43 24 4 = (h 24) 4 := rd_ (hG_43 24 (by decide)) rfl
      exact J44_1 0 g9_43 hT_43 hF_43 (by first | omega | (simp [up, setR] <;> omega)) (by rewrite [e45_28_8, e46_28_9]; first | omega | (simp [up, setR] <;> omega)) (by unfold nxT; first | (rw [if_neg (fun q => absurd q.1 (by omega))]; done) | (rw [if_neg (fun q => q_at9.2 (by omega) q.2)]; done) | (rw [if_pos ⟨by omega, q_at9.1 (by omega)⟩]; omega)) (by rewrite [e47_24_3, e48_25, e49_26, e50_31]; intro s hs; first | exact preT_0 hs (fun q => absurd q.1 (by omega)) | exact preT_0 hs (fun q => q_at9.2 (by omega) q.2) | exact preT_1 hs ⟨by omega, q_at9.1 (by omega)⟩ (by omega) (tq_at17 s hs) | exact preT_2 hs ⟨by omega, q_at9.1 (by omega)⟩ w_at17 (by omega) (tq_at17 s hs) wk_at36) (by rewrite [e51_24_4]; first | omega | (simp [up, setR] <;> omega))
    · refine TT_aload_n hK rfl 1 rfl dX4_cleanColumn_15 ?_
      refine TT_iload_n hK rfl 2 rfl dX4_cleanColumn_16 ?_
      have e52_29 : g9_43 29 = h 29 := (hG_43 29 (by decide))
      have e53_28_9 : g9_43 28 9 = (h 28) 9 := rd_ (hG_43 28 (by decide)) rfl
      refine iv_X4_105 hK (s_tellQuiet_e f g9_43 hT_43 (by first | omega | (simp [up, setR] <;> omega)) (by rewrite [e52_29]; first | assumption | exact hM) (by rewrite [e53_28_9]; first | assumption | exact hpl | omega)) (by decide) rfl ⟨by decide, by decide⟩ (by decide) rfl rfl (Nat.le_of_ble_eq_true rfl) ⟨by decide, by decide⟩ dX4_cleanColumn_17 ?_
      intro r9 g17_54 hp9
      obtain ⟨⟨hT_54, hG_54⟩, z17_54, hr9, hz_54, w_54, tq_54, k24_54⟩ := hp9
      rw [hr9]
      have hF_54 : FR [24, 25, 26, 30, 31] h g17_54 := FR_tr hF_43 hG_54 (by decide)
      rw [show g9_43 28 9 = (h 28) 9 from rd_ (hG_43 28 (by decide)) rfl] at w_54
      rw [show g9_43 29 = h 29 from (hG_43 29 (by decide))] at w_54
      rw [show g9_43 24 3 = (h 24) 3 from rd_ (hG_43 24 (by decide)) rfl] at tq_54
      rw [show g9_43 25 = h 25 from (hG_43 25 (by decide))] at tq_54
      rw [show g9_43 26 = h 26 from (hG_43 26 (by decide))] at tq_54
      rw [show g9_43 28 9 = (h 28) 9 from rd_ (hG_43 28 (by decide)) rfl] at tq_54
      rw [show g9_43 29 = h 29 from (hG_43 29 (by decide))] at tq_54
      rw [show g9_43 31 = h 31 from (hG_43 31 (by decide))] at tq_54
      rw [show g9_43 32 = h 32 from (hG_43 32 (by decide))] at tq_54
      rw [show g9_43 33 = h 33 from (hG_43 33 (by decide))] at tq_54
      rw [show g9_43 24 4 = (h 24) 4 from rd_ (hG_43 24 (by decide)) rfl] at k24_54
      have w_at17 := w_54
      have tq_at17 := tq_54
      show TT K ly 0 0 20 [(3, vI 0), (0, vR 28), (1, vI f), (2, vI n)] [vI z17_54] g17_54
      refine TT_istore hK (lv' := [(4, vI z17_54), (3, vI 0), (0, vR 28), (1, vI f), (2, vI n)]) (by decide) rfl dX4_cleanColumn_20 ?_
      refine TT_iload hK 0 rfl dX4_cleanColumn_22 ?_
      refine TT_iconst hK dX4_cleanColumn_24 ?_
      refine TT_icmp_ge hK (tgt := 39) (irm (by omega) (by omega)) (by decide) dX4_cleanColumn_25 (by decide) (fun hb25_55 => ?_) (fun hb25_55 => ?_)
      · refine TT_iload hK 0 rfl dX4_cleanColumn_39 ?_
        refine TT_iconst hK dX4_cleanColumn_41 ?_
        refine TT_iadd hK dX4_cleanColumn_42 ?_
        refine TT_istore_n hK rfl (lv' := [(3, vI (z17_54 + 1)), (4, vI z17_54), (0, vR 28), (1, vI f), (2, vI n)]) (by decide) rfl dX4_cleanColumn_43 ?_
        refine TT_sub [2, 3, 4, 0] rfl ?_
        have e56_28_8 : g17_54 28 8 = (h 28) 8 := rd_ (((hG_54 28 (by decide))).trans (hG_43 28 (by decide))) rfl
        have e57_28_9 : g17_54 28 9 = (h 28) 9 := rd_ (((hG_54 28 (by decide))).trans (hG_43 28 (by decide))) rfl
        have e58_24_3 : g17_54 24 3 = (g17_54 24) 3 := rfl
        have e59_31 : g17_54 31 = h 31 := ((hG_54 31 (by decide))).trans (hG_43 31 (by decide))
        have e60_24_4 : g17_54 24 4 = (g17_54 24) 4 := rfl
        exact J44_1 (z17_54 + 1) g17_54 hT_54 hF_54 (by first | omega | (simp [up, setR] <;> omega)) (by rewrite [e56_28_8, e57_28_9]; first | omega | (simp [up, setR] <;> omega)) (by unfold nxT; first | (rw [if_neg (fun q => absurd q.1 (by omega))]; done) | (rw [if_neg (fun q => q_at9.2 (by omega) q.2)]; done) | (rw [if_pos ⟨by omega, q_at9.1 (by omega)⟩]; omega)) (by rewrite [e58_24_3, e59_31]; intro s hs; first | exact preT_0 hs (fun q => absurd q.1 (by omega)) | exact preT_0 hs (fun q => q_at9.2 (by omega) q.2) | exact preT_1 hs ⟨by omega, q_at9.1 (by omega)⟩ (by omega) (tq_at17 s hs) | exact preT_2 hs ⟨by omega, q_at9.1 (by omega)⟩ w_at17 (by omega) (tq_at17 s hs) wk_at36) (by rewrite [e60_24_4]; first | omega | (simp [up, setR] <;> omega))
      · refine TT_aload_n hK rfl 2 rfl dX4_cleanColumn_28 ?_
        refine TT_iload_n hK rfl 3 rfl dX4_cleanColumn_29 ?_
        refine TT_iload hK 0 rfl dX4_cleanColumn_30 ?_
        refine TT_bipush hK (by decide) dX4_cleanColumn_32 ?_
        refine TT_imul hK dX4_cleanColumn_34 ?_
        refine TT_iadd hK dX4_cleanColumn_35 ?_
        refine iv_X4_85 hK (s_wake_e (f + (z17_54 * 10)) g17_54 hT_54 (by first | omega | (simp [up, setR] <;> omega))) (by decide) rfl ⟨by decide, by decide⟩ (by decide) rfl rfl (Nat.le_of_ble_eq_true rfl) ⟨by decide, by decide⟩ dX4_cleanColumn_36 ?_
        intro r9 g36_61 hp9
        obtain ⟨⟨hT_61, hG_61⟩, hr9, wk_61, k24_61⟩ := hp9
        rw [hr9]
        have hF_61 : FR [24, 25, 26, 30, 31] h g36_61 := FR_tr hF_54 hG_61 (by decide)
        rw [show g17_54 24 3 = (g17_54 24) 3 from rfl] at wk_61
        rw [show g17_54 29 = h 29 from ((hG_54 29 (by decide))).trans (hG_43 29 (by decide))] at wk_61
        rw [show g17_54 31 = h 31 from ((hG_54 31 (by decide))).trans (hG_43 31 (by decide))] at wk_61
        rw [show g17_54 32 = h 32 from ((hG_54 32 (by decide))).trans (hG_43 32 (by decide))] at wk_61
        rw [show g17_54 33 = h 33 from ((hG_54 33 (by decide))).trans (hG_43 33 (by decide))] at wk_61
        rw [show g17_54 24 4 = (g17_54 24) 4 from rfl] at k24_61
        have wk_at36 := wk_61
        show TT K ly 0 0 39 [(4, vI z17_54), (3, vI 0), (0, vR 28), (1, vI f), (2, vI n)] [] g36_61
        refine TT_iload hK 0 rfl dX4_cleanColumn_39 ?_
        refine TT_iconst hK dX4_cleanColumn_41 ?_
        refine TT_iadd hK dX4_cleanColumn_42 ?_
        refine TT_istore_n hK rfl (lv' := [(3, vI (z17_54 + 1)), (4, vI z17_54), (0, vR 28), (1, vI f), (2, vI n)]) (by decide) rfl dX4_cleanColumn_43 ?_
        refine TT_sub [2, 3, 4, 0] rfl ?_
        have e62_28_8 : g36_61 28 8 = (h 28) 8 := rd_ (((hG_61 28 (by decide))).trans (((hG_54 28 (by decide))).trans (hG_43 28 (by decide)))) rfl
        have e63_28_9 : g36_61 28 9 = (h 28) 9 := rd_ (((hG_61 28 (by decide))).trans (((hG_54 28 (by decide))).trans (hG_43 28 (by decide)))) rfl
        have e64_24_3 : g36_61 24 3 = (g36_61 24) 3 := rfl
        have e65_24_4 : g36_61 24 4 = (g36_61 24) 4 := rfl
        exact J44_1 (z17_54 + 1) g36_61 hT_61 hF_61 (by first | omega | (simp [up, setR] <;> omega)) (by rewrite [e62_28_8, e63_28_9]; first | omega | (simp [up, setR] <;> omega)) (by unfold nxT; first | (rw [if_neg (fun q => absurd q.1 (by omega))]; done) | (rw [if_neg (fun q => q_at9.2 (by omega) q.2)]; done) | (rw [if_pos ⟨by omega, q_at9.1 (by omega)⟩]; omega)) (by rewrite [e64_24_3]; intro s hs; first | exact preT_0 hs (fun q => absurd q.1 (by omega)) | exact preT_0 hs (fun q => q_at9.2 (by omega) q.2) | exact preT_1 hs ⟨by omega, q_at9.1 (by omega)⟩ (by omega) (tq_at17 s hs) | exact preT_2 hs ⟨by omega, q_at9.1 (by omega)⟩ w_at17 (by omega) (tq_at17 s hs) wk_at36) (by rewrite [e65_24_4]; first | omega | (simp [up, setR] <;> omega))

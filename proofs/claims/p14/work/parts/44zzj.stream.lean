/-! the whole stream -/
def laS (D : DT_) (n i : Int) : Nat → PY_ → PY_
  | 0, y => y
  | r + 1, y => pkS D n i (r : Int) (laS D n i r y)
def stS (D : DT_) (n l : Int) : Nat → PY_ → PY_
  | 0, y => y
  | k + 1, y => laS D n ((k : Int) + 1) (l + 1).toNat (stS D n l k y)
def hdrF (W H l n : Int) : Int → Int := fup (fup (fup (fup (fun _ => 0) 0 W) 1 H) 2 l) 3 n
def y0S (W H l n : Int) : PY_ := ((4, 0, hdrF W H l n), fun _ => 3)
theorem y0S_q (W H l n : Int) : (0 ≤ (y0S W H l n).1.1 ∧ (y0S W H l n).1.2.1 = 0) ∧ (y0S W H l n).1.1 = 4 := ⟨⟨by show (0 : Int) ≤ 4; decide, rfl⟩, rfl⟩
theorem PKW_0 {cnt W H l n : Int} {w : Int → Int} (h : ∀ j : Int, 0 ≤ j → j < cnt → w j = 3) : PKW cnt w (y0S W H l n) := ⟨PBQ_u (y0S_q W H l n).1, fun j j0 j1 => ⟨h j j0 j1, by show (3 : Int) ≤ 3; decide, by show (3 : Int) ≤ 10; decide⟩⟩
theorem hdr_e {W H l n : Int} {o : Int → Int} : ∀ j : Int, 0 ≤ j → j < 4 → fup (fup (fup (fup o 0 W) 1 H) 2 l) 3 n j = hdrF W H l n j := by
  intro j j0 j1
  unfold hdrF
  by_cases c3 : j = 3
  · rw [c3, fup_eq, fup_eq]
  rw [fup_ne _ _ c3, fup_ne _ _ c3]
  by_cases c2 : j = 2
  · rw [c2, fup_eq, fup_eq]
  rw [fup_ne _ _ c2, fup_ne _ _ c2]
  by_cases c1 : j = 1
  · rw [c1, fup_eq, fup_eq]
  rw [fup_ne _ _ c1, fup_ne _ _ c1, show j = 0 by omega, fup_eq, fup_eq]
theorem CBR_h {n5 f5 W H l n : Int} {o : Int → Int} (h1 : n5 = 4) (h2 : f5 = 0) (h3 : ∃ o' : Int → Int, o = fup (fup (fup (fup o' 0 W) 1 H) 2 l) 3 n) : CBR n5 f5 o (y0S W H l n).1 := by
  obtain ⟨o', rfl⟩ := h3
  refine ⟨?_, ?_, fun j j0 j1 => hdr_e j j0 (by omega)⟩
  · show n5 = 4 + if (0 : Int) < 0 then 1 else 0
    rw [if_neg (show ¬ (0 : Int) < 0 by decide)]
    omega
  · show f5 = if (0 : Int) < 0 then 8 - 0 else 0
    rw [if_neg (show ¬ (0 : Int) < 0 by decide)]
    exact h2
theorem RBR_h {a W H l n : Int} {o : Int → Int} (h1 : a = 4) (h3 : ∃ o' : Int → Int, o = fup (fup (fup (fup o' 0 W) 1 H) 2 l) 3 n) : RBR a 0 o (y0S W H l n).1 := by
  obtain ⟨o', rfl⟩ := h3
  refine ⟨h1, rfl, fun j j0 j1 => hdr_e j j0 ?_⟩
  have j2 : j < 4 + (if (0 : Int) < 0 then 1 else 0) := j1
  rw [if_neg (show ¬ (0 : Int) < 0 by decide)] at j2
  omega
theorem laS_s {D : DT_} {n i r : Int} {y : PY_} (hr : 0 ≤ r) : laS D n i (r + 1).toNat y = pkS D n i r (laS D n i r.toNat y) := by
  rw [show (r + 1).toNat = r.toNat + 1 by omega]
  show pkS D n i (r.toNat : Int) (laS D n i r.toNat y) = _
  rw [show (r.toNat : Int) = r by omega]
theorem stS_s {D : DT_} {n l i : Int} {y : PY_} (hi : 1 ≤ i) : stS D n l i.toNat y = laS D n i (l + 1).toNat (stS D n l (i - 1).toNat y) := by
  rw [show i.toNat = (i - 1).toNat + 1 by omega]
  show laS D n (((i - 1).toNat : Int) + 1) (l + 1).toNat (stS D n l (i - 1).toNat y) = _
  rw [show (((i - 1).toNat : Int) + 1) = i by omega]
theorem FS_s {r : Int} (hr : 0 ≤ r) : FS (r + 1) = 3 * r + 1 := by
  unfold FS
  rw [if_neg (by omega)]
  omega
theorem tkF_0 {D : DT_} {n c : Int} : tkF D n 0 c = 0 := by
  unfold tkF
  rw [Int.mul_zero, Int.zero_ediv]
theorem DT_e {D : DT_} {a b c d : Int → Int} {e : Int → Int → Int} (h : ((a, b, c, d, e) : DT_) = D) : a = D.1 ∧ b = D.2.1 ∧ c = D.2.2.1 ∧ d = D.2.2.2.1 ∧ e = D.2.2.2.2 := by
  subst h
  exact ⟨rfl, rfl, rfl, rfl, rfl⟩
/-- the least lengths rise, and are no more than the word's length -/
theorem LSC_L {N : Int → Int → Int} {w g kd q n o : Int} {B ll : Int → Int} (h : LSC N w g kd q B n ll o) {p r : Int} (h0 : 0 ≤ p) (h1 : p ≤ r) (h2 : r ≤ pas q) : ll (o + p) ≤ ll (o + r) ∧ ll (o + r) ≤ n := by
  obtain ⟨hq, M, s, -, hs, hC, hX, hl⟩ := h
  have hn := CWR_n hs hC
  by_cases z : r = 0
  · rw [show p = 0 by omega, z, Int.add_zero, hl]
    exact ⟨Int.le_refl _, hn⟩
  have hq0 : q ≠ 0 := fun e => by
    have p0 : pas q = 0 := (by rw [e]; exact if_pos rfl)
    omega
  have k := hX r (by omega) (by omega)
  refine ⟨?_, LSP_le hn (WRT hs hC hq0 (by omega)) k⟩
  by_cases y : p = 0
  · rw [y, Int.add_zero, hl]
    exact k.1
  · by_cases c : ll (o + p) ≤ ll (o + r)
    · exact c
    · exact absurd (RT_le h0 h1 k.2.1) ((hX p (by omega) (by omega)).2.2 _ k.1 (by omega))
theorem LSQ_L {W H l n : Int} {f pl cd cs cl ll : Int → Int} (h : LSQ W H f l n pl cd cs cl ll) : LQ pl cl ll n := fun j j0 j1 _ _ h0 h1 _ h2 => LSC_L (h j j0 j1) h0 h1 h2
theorem CWR_b {M : Int → Int} {s : TS_} {w g kd q n : Int} {B : Int → Int} (hw : 0 ≤ w ∧ w ≤ 8) (hg : 0 ≤ g ∧ g ≤ 8) (hq : 0 ≤ q ∧ q ≤ 12) (hs : TS0 s) (hC : CWR M s w g kd q B n) : n ≤ 1000 := by
  by_cases z : q = 0
  · rw [hC.1 z]; decide
  · obtain ⟨E, hE, h1, -⟩ := hC.2 z
    have cl := CW_len (M := M) (kd := kd) (s := s) hw hg (q := q) (by omega) hs
    have a64 := A64 hw hg
    have hr := EVR_ps M kd w g q (pas q).toNat (EVR_0 hs)
    have u := tellS_n (T := (psN M kd w g q (pas q).toNat s).2.2.2) (E := E) (ES0_q hE) (fun z hz => (hr z hz).1)
    rw [ES0_w hE] at u
    have k := tlF_by (psN M kd w g q (pas q).toNat s).2.2.2 (E := E) (by rw [hE.2.2.2.1]; decide) (fun j j0 j1 => by rw [hE.2.2.2.1] at j1; rw [show j = 0 by omega, hE.2.2.2.2.2.2]; omega)
    have c := (endS_q (a := (tlF (psN M kd w g q (pas q).toNat s).2.2.2 E).1) (c := (tlF (psN M kd w g q (pas q).toNat s).2.2.2 E).2.1) (t := (tlF (psN M kd w g q (pas q).toNat s).2.2.2 E).2.2.1) (AGR_rf (tlF (psN M kd w g q (pas q).toNat s).2.2.2 E).2.2.2.1 (tlF (psN M kd w g q (pas q).toNat s).2.2.2 E).2.2.2.2.2.2) k.1).1
    have c2 : (endE (tlF (psN M kd w g q (pas q).toNat s).2.2.2 E)).2.2.1 = (tlF (psN M kd w g q (pas q).toNat s).2.2.2 E).2.2.2.1 + 2 := c
    rw [c2] at h1
    have u2 : 7 * (tlF (psN M kd w g q (pas q).toNat s).2.2.2 E).2.2.2.1 ≤ 6 * ((psN M kd w g q (pas q).toNat s).2.2.2.length : Int) + 7 := by
      unfold tlF
      omega
    split at h1 <;> omega
/-! both sides' data agree: the streams are one -/
def DQE (cnt : Int) (D E : DT_) (cl : Int → Int) : Prop := ∀ c : Int, 0 ≤ c → c < cnt → D.1 c = E.1 c ∧ D.2.2.1 c = E.2.2.1 c ∧ D.2.2.2.1 c = E.2.2.2.1 c ∧ (∀ p : Int, 0 ≤ p → p ≤ pas (E.1 c) → D.2.1 (35 * c + p) = E.2.1 (35 * c + p)) ∧ ∀ i : Int, 0 ≤ i → i < cl c → D.2.2.2.2 c i = E.2.2.2.2 c i
def DQS (cnt n : Int) (E : DT_) (cl : Int → Int) : Prop := ∀ c i : Int, 0 ≤ c → c < cnt → 1 ≤ i → i ≤ n → (0 ≤ tkF E n (i - 1) c ∧ tkF E n (i - 1) c ≤ tkF E n i c ∧ tkF E n i c ≤ pas (E.1 c)) ∧ 0 ≤ szF E n i c ∧ 0 ≤ loF E n i c ∧ loF E n i c + szF E n i c ≤ cl c
section CG
variable {cnt n : Int} {D E : DT_} {cl : Int → Int}
theorem tkF_cg {c : Int} (i : Int) (h : DQE cnt D E cl) (h0 : 0 ≤ c) (h1 : c < cnt) : tkF D n i c = tkF E n i c := by
  unfold tkF
  rw [(h c h0 h1).1]
theorem szF_cg {i c : Int} (h : DQE cnt D E cl) (hs : DQS cnt n E cl) (h0 : 0 ≤ c) (h1 : c < cnt) (hi : 1 ≤ i ∧ i ≤ n) : szF D n i c = szF E n i c ∧ loF D n i c = loF E n i c := by
  have k := (h c h0 h1).2.2.2.1
  have t := (hs c i h0 h1 hi.1 hi.2).1
  have e1 : D.2.1 (35 * c + tkF E n (i - 1) c) = E.2.1 (35 * c + tkF E n (i - 1) c) := k _ t.1 (by omega)
  have e2 : D.2.1 (35 * c + tkF E n i c) = E.2.1 (35 * c + tkF E n i c) := k _ (by omega) t.2.2
  unfold szF loF
  rw [tkF_cg i h h0 h1, tkF_cg (i - 1) h h0 h1, e1, e2]
  exact ⟨rfl, rfl⟩
theorem hd1S_cg {i b : Int} {y : PY_} (h : DQE cnt D E cl) (hs : DQS cnt n E cl) (h0 : 0 ≤ b) (h1 : b < cnt) (hi : 1 ≤ i ∧ i ≤ n) : hd1S D n i b y = hd1S E n i b y := by
  have k := h b h0 h1
  unfold hd1S
  rw [k.1, k.2.1, k.2.2.1, tkF_cg i h h0 h1, tkF_cg (i - 1) h h0 h1, (szF_cg h hs h0 h1 hi).1]
theorem hdsS_cg {i f : Int} {y : PY_} (h : DQE cnt D E cl) (hs : DQS cnt n E cl) (hf : 0 ≤ f) (hi : 1 ≤ i ∧ i ≤ n) : ∀ k : Nat, f + (k : Int) ≤ cnt → hdsS D n i f k y = hdsS E n i f k y
  | 0, _ => rfl
  | k + 1, hk => by
    show hd1S D n i (f + (k : Int)) (hdsS D n i f k y) = hd1S E n i (f + (k : Int)) (hdsS E n i f k y)
    rw [hdsS_cg h hs hf hi k (by omega), hd1S_cg h hs (by omega) (by omega) hi]
theorem anS_cg {i f : Int} (h : DQE cnt D E cl) (hf : 0 ≤ f) : ∀ k : Nat, f + (k : Int) ≤ cnt → anS D n i f k = anS E n i f k
  | 0, _ => rfl
  | k + 1, hk => by
    show (if anS D n i f k = 1 ∨ tkF D n (i - 1) (f + (k : Int)) < tkF D n i (f + (k : Int)) then (1 : Int) else 0) = if anS E n i f k = 1 ∨ tkF E n (i - 1) (f + (k : Int)) < tkF E n i (f + (k : Int)) then (1 : Int) else 0
    rw [anS_cg h hf k (by omega), tkF_cg i h (by omega) (by omega), tkF_cg (i - 1) h (by omega) (by omega)]
theorem wrS_cg {g g' : Int → Int} {a : Int} {s : PBS_} : ∀ k : Nat, (∀ j : Int, a ≤ j → j < a + (k : Int) → g j = g' j) → wrS g a k s = wrS g' a k s
  | 0, _ => rfl
  | k + 1, h => by
    show adS (g (a + (k : Int))) (wrS g a k s) = adS (g' (a + (k : Int))) (wrS g' a k s)
    rw [wrS_cg k (fun j j0 j1 => h j j0 (by omega)), h _ (by omega) (by omega)]
theorem wdsS_cg {i f : Int} {s : PBS_} (h : DQE cnt D E cl) (hs : DQS cnt n E cl) (hf : 0 ≤ f) (hi : 1 ≤ i ∧ i ≤ n) : ∀ k : Nat, f + (k : Int) ≤ cnt → wdsS D n i f k s = wdsS E n i f k s
  | 0, _ => rfl
  | k + 1, hk => by
    show wrS (D.2.2.2.2 (f + (k : Int))) (loF D n i (f + (k : Int))) (szF D n i (f + (k : Int))).toNat (wdsS D n i f k s) = wrS (E.2.2.2.2 (f + (k : Int))) (loF E n i (f + (k : Int))) (szF E n i (f + (k : Int))).toNat (wdsS E n i f k s)
    have c := szF_cg h hs (c := f + (k : Int)) (by omega) (by omega) hi
    have t := hs (f + (k : Int)) i (by omega) (by omega) hi.1 hi.2
    rw [wdsS_cg h hs hf hi k (by omega), c.1, c.2]
    exact wrS_cg _ (fun j j0 j1 => (h (f + (k : Int)) (by omega) (by omega)).2.2.2.2 j (by omega) (by omega))
theorem pkS_cg {i r : Int} {y : PY_} (h : DQE cnt D E cl) (hs : DQS cnt n E cl) (hr : 0 ≤ r ∧ r ≤ 3) (hc : 3 * r + 1 ≤ cnt) (hi : 1 ≤ i ∧ i ≤ n) : pkS D n i r y = pkS E n i r y := by
  have f := FS_r hr
  have e : heS D n i r y = heS E n i r y := by
    unfold heS
    rw [anS_cg h f.1 _ (by omega), hdsS_cg h hs f.1 hi _ (by omega)]
  unfold pkS
  rw [e, wdsS_cg h hs f.1 hi _ (by omega)]
theorem laS_cg {i : Int} {y : PY_} (h : DQE cnt D E cl) (hs : DQS cnt n E cl) (hi : 1 ≤ i ∧ i ≤ n) : ∀ k : Nat, (k : Int) ≤ 4 → 3 * (k : Int) - 2 ≤ cnt → laS D n i k y = laS E n i k y
  | 0, _, _ => rfl
  | k + 1, h4, hc => by
    show pkS D n i (k : Int) (laS D n i k y) = pkS E n i (k : Int) (laS E n i k y)
    rw [laS_cg h hs hi k (by omega) (by omega), pkS_cg h hs (by omega) (by omega) hi]
theorem stS_cg {l : Int} {y : PY_} (h : DQE cnt D E cl) (hs : DQS cnt n E cl) (hl : 0 ≤ l ∧ l ≤ 3) (hc : cnt = 3 * l + 1) : ∀ k : Nat, (k : Int) ≤ n → stS D n l k y = stS E n l k y
  | 0, _ => rfl
  | k + 1, hk => by
    show laS D n ((k : Int) + 1) (l + 1).toNat (stS D n l k y) = laS E n ((k : Int) + 1) (l + 1).toNat (stS E n l k y)
    rw [stS_cg h hs hl hc k (by omega), laS_cg h hs (by omega) _ (by omega) (by omega)]
end CG
theorem IS_nn {f : Int → Int} {c : Int} (h : ∀ j : Int, 0 ≤ j → j < c → 0 ≤ f j) : 0 ≤ IS f c := by
  have key : ∀ n : Nat, (n : Int) ≤ c → 0 ≤ IS f (n : Int) := by
    intro n
    induction n with
    | zero => intro _; exact Int.le_refl _
    | succ n ih =>
      intro hn
      have i1 := ih (by omega)
      have i2 := h (n : Int) (by omega) (by omega)
      rw [show ((n + 1 : Nat) : Int) = (n : Int) + 1 by omega, IS_s (by omega)]
      omega
  by_cases e : 0 ≤ c
  · have k := key c.toNat (by omega)
    rw [show ((c.toNat : Nat) : Int) = c by omega] at k
    exact k
  · unfold IS
    rw [show c.toNat = 0 by omega]
    exact Int.le_refl _
set_option maxRecDepth 20000 in
theorem s_clear5_e (h : Hp_) (hT : TY h)  : Ctr yX1_clear cX1_clear 1 none (rmd 0) ly ly 0 0 [vR 5] h (fun r h' => (TY h' ∧ FR [5] h h') ∧ r = none ∧ ((h' 5 1) = 0 ∧ (h' 5 2) = 0)) := by
  refine Ctr_of (by decide) (Nat.le_of_ble_eq_true rfl) ⟨Nat.le_refl _, Nat.le_refl _⟩ (fun K hK hQ _ => ?_)
  show TT K ly 0 0 0 [(0, vR 5)] [] h
  have hF : FR [5] h h := FR_rf _ _
  refine TT_aload_n hK rfl 0 rfl dX1_clear_0 ?_
  refine TT_iconst hK dX1_clear_1 ?_
  refine pf_X1_15 hK (by decide) rfl dX1_clear_2 ?_
  refine TT_hp (h' := setO h 5 (fup (h 5) 1 0)) (up_can rfl rfl rfl) ?_
  have hT_1 : TY (setO h 5 (fup (h 5) 1 0)) := tu_5_1 hT (show up h 5 1 0 = (setO h 5 (fup (h 5) 1 0)) from up_can rfl rfl rfl) (by omega)
  have hF_1 : FR [5] h (setO h 5 (fup (h 5) 1 0)) := FR_up (show up h 5 1 0 = (setO h 5 (fup (h 5) 1 0)) from up_can rfl rfl rfl) hF (by decide)
  refine TT_aload_n hK rfl 0 rfl dX1_clear_5 ?_
  refine TT_iconst hK dX1_clear_6 ?_
  refine pf_X1_19 hK (by decide) rfl dX1_clear_7 ?_
  refine TT_hp (h' := setO h 5 (fup (fup (h 5) 1 0) 2 0)) (up_can (sOf_eq _ _ _) rfl (setO_same _ _ _ _)) ?_
  have hT_2 : TY (setO h 5 (fup (fup (h 5) 1 0) 2 0)) := tu_5_2 hT_1 (show up (setO h 5 (fup (h 5) 1 0)) 5 2 0 = (setO h 5 (fup (fup (h 5) 1 0) 2 0)) from up_can (sOf_eq _ _ _) rfl (setO_same _ _ _ _)) (by omega)
  have hF_2 : FR [5] h (setO h 5 (fup (fup (h 5) 1 0) 2 0)) := FR_up (show up (setO h 5 (fup (h 5) 1 0)) 5 2 0 = (setO h 5 (fup (fup (h 5) 1 0) 2 0)) from up_can (sOf_eq _ _ _) rfl (setO_same _ _ _ _)) hF_1 (by decide)
  refine TT_vret hK hQ ?_ dX1_clear_10
  have e3_5_1 : (setO h 5 (fup (fup (h 5) 1 0) 2 0)) 5 1 = 0 := rd_ (sOf_eq _ _ _) ((fup_ne _ _ (by decide)).trans (fup_eq _ _ _))
  have e4_5_2 : (setO h 5 (fup (fup (h 5) 1 0) 2 0)) 5 2 = 0 := rd_ (sOf_eq _ _ _) (fup_eq _ _ _)
  exact ⟨⟨hT_2, hF_2⟩, rfl, (by rewrite [e3_5_1, e4_5_2]; exact ⟨rfl, rfl⟩)⟩
set_option maxRecDepth 20000 in
theorem s_len5_e (h : Hp_) (hT : TY h)  : Ctr yX1_length cX1_length 1 (some .int) (rmd 0) ly ly 0 0 [vR 5] h (fun r h' => (TY h' ∧ FR [] h h') ∧ ∃ z : Int, r = some (vI z) ∧ (0 ≤ z ∧ z ≤ 1024) ∧ (z = (h 5 1))) := by
  refine Ctr_of (by decide) (Nat.le_of_ble_eq_true rfl) ⟨Nat.le_refl _, Nat.le_refl _⟩ (fun K hK hQ _ => ?_)
  show TT K ly 0 0 0 [(0, vR 5)] [] h
  have hF : FR [] h h := FR_rf _ _
  refine TT_aload_n hK rfl 0 rfl dX1_length_0 ?_
  refine gf_X1_15 hK (by decide) rfl (v := (h 5) 1) rfl dX1_length_1 ?_
  have r1 := ty_5_1 (v := (h 5) 1) hT rfl
  refine TT_iret hK hQ ?_ dX1_length_4
  exact ⟨⟨hT, hF⟩, ((h 5) 1), rfl, (by omega), (by rfl)⟩
set_option maxRecDepth 20000 in
theorem s_pack_s (l n : Int) (h : Hp_) (hT : TY h) (hl : 0 ≤ l ∧ l ≤ 3) (hn : 1 ≤ n ∧ n ≤ 3) (hbd : BDQ (h 10) (h 12) (h 11) (h 13)) (hsd : (1 ≤ (h 1 1) ∧ (h 1 1) ≤ 8) ∧ (1 ≤ (h 1 2) ∧ (h 1 2) ≤ 8)) : Ctr yX3_pack cX3_pack 7 none (rmd 6) ly ly 0 0 [vR 7, vR 1, vI l, vI n, vR 5] h (fun r h' => (TY h' ∧ FR [5, 6, 8, 9, 10, 11, 12, 13, 14, 15, 16, 17, 18, 19, 20, 21, 22, 23, 24, 25, 26, 27, 28, 29, 30, 31, 32, 33, 34, 36, 37, 38, 39, 41, 42, 43] h h') ∧ r = none ∧ (BDQ (h' 10) (h' 12) (h' 11) (h' 13)) ∧ ((h' 8 10) = 3 * l + 1) ∧ (∀ b : Int, 0 ≤ b → b < 3 * l + 1 → (h' 12) b = BW (h 1 1) l b ∧ (h' 13) b = BH (h 1 2) l b) ∧ (∀ b x2 y2 : Int, 0 ≤ b → b < 3 * l + 1 → 0 ≤ x2 → x2 < BW (h 1 1) l b → 0 ≤ y2 → y2 < BH (h 1 2) l b → (h' 9) (((h' 11) b + y2) * 8 + (h' 10) b + x2) = LE (h 1 1) (h 1 2) (fun i => (h 2) i - 128) l (8 * CY (h 1 2) l b + CX (h 1 1) l b + 8 * y2 + x2)) ∧ (CPQ (h 1 1) (h 1 2) (fun i => (h 2) i - 128) l (3 * l + 1) (h' 16) (h' 23) (h' 17) (h' 18)) ∧ (∀ c : Int, 0 ≤ c → c < (3 * l + 1) → 0 ≤ (h' 17) c ∧ (h' 17) c + (h' 18) c ≤ (h' 22 1)) ∧ (LSQ (h 1 1) (h 1 2) (fun i => (h 2) i - 128) l (3 * l + 1) (h' 16) (h' 23) (h' 17) (h' 18) (h' 19)) ∧ (CBR (h' 5 1) (h' 5 2) (h' 6) (stS ((h' 16), (h' 19), (h' 12), (h' 13), fun c i => (h' 23) ((h' 17) c + i)) n l n.toNat (y0S (h 1 1) (h 1 2) l n)).1 ∧ (0 ≤ (stS ((h' 16), (h' 19), (h' 12), (h' 13), fun c i => (h' 23) ((h' 17) c + i)) n l n.toNat (y0S (h 1 1) (h 1 2) l n)).1.1 ∧ (stS ((h' 16), (h' 19), (h' 12), (h' 13), fun c i => (h' 23) ((h' 17) c + i)) n l n.toNat (y0S (h 1 1) (h 1 2) l n)).1.2.1 = 0)) ∧ (LQ (h' 16) (h' 18) (h' 19) (3 * l + 1))) := by
  refine Ctr_of (by decide) (Nat.le_of_ble_eq_true rfl) ⟨Nat.le_refl _, Nat.le_refl _⟩ (fun K hK hQ _ => ?_)
  show TT K ly 0 0 0 [(0, vR 7), (1, vR 1), (2, vI l), (3, vI n), (4, vR 5)] [] h
  have hF : FR [5, 6, 8, 9, 10, 11, 12, 13, 14, 15, 16, 17, 18, 19, 20, 21, 22, 23, 24, 25, 26, 27, 28, 29, 30, 31, 32, 33, 34, 36, 37, 38, 39, 41, 42, 43] h h := FR_rf _ _
  have rW := hsd.1
  have rH := hsd.2
  have hp2 : ∀ j : Int, 0 ≤ j → j < 64 → -128 ≤ h 2 j - 128 ∧ h 2 j - 128 ≤ 128 := fun j h0 h1 => by have := ty_2 (i := j) (v := h 2 j) hT rfl h0 h1; omega
  have bq := LE_LV (f := (fun i => h 2 i - 128)) rW rH (l := l) (by omega) hp2
  refine TT_aload_n hK rfl 0 rfl dX3_pack_0 ?_
  refine gf_X3_12 hK (by decide) rfl (q := 8) rfl rfl dX3_pack_1 ?_
  refine TT_aload_n hK rfl 1 rfl dX3_pack_4 ?_
  refine gf_X3_95 hK (by decide) rfl (v := (h 1) 1) rfl dX3_pack_5 ?_
  have r1 := ty_1_1 (v := (h 1) 1) hT rfl
  refine TT_aload_n hK rfl 1 rfl dX3_pack_8 ?_
  refine gf_X3_101 hK (by decide) rfl (v := (h 1) 2) rfl dX3_pack_9 ?_
  have r2 := ty_1_2 (v := (h 1) 2) hT rfl
  refine TT_iload_n hK rfl 2 rfl dX3_pack_12 ?_
  refine iv_X3_104 hK (s_lay_x ((h 1) 1) ((h 1) 2) l h hT (by first | omega | (simp [up, setR] <;> omega)) (by first | omega | (simp [up, setR] <;> omega)) (by first | omega | (simp [up, setR] <;> omega)) (by first | assumption | exact hbd)) (by decide) rfl ⟨by decide, by decide⟩ (by decide) rfl rfl (Nat.le_of_ble_eq_true rfl) ⟨by decide, by decide⟩ dX3_pack_13 ?_
  intro r9 g13_3 hp9
  obtain ⟨⟨hT_3, hG_3⟩, hr9, p1_3, k1_3, lay_3⟩ := hp9
  rw [hr9]
  have hF_3 : FR [5, 6, 8, 9, 10, 11, 12, 13, 14, 15, 16, 17, 18, 19, 20, 21, 22, 23, 24, 25, 26, 27, 28, 29, 30, 31, 32, 33, 34, 36, 37, 38, 39, 41, 42, 43] h g13_3 := FR_tr hF hG_3 (by decide)
  have k1_at13 := k1_3
  have lay_at13 := lay_3
  show TT K ly 0 0 16 [(0, vR 7), (1, vR 1), (2, vI l), (3, vI n), (4, vR 5)] [] g13_3
  refine TT_aload_n hK rfl 0 rfl dX3_pack_16 ?_
  refine gf_X3_12 hK (by decide) rfl (q := 8) rfl rfl dX3_pack_17 ?_
  refine TT_aload_n hK rfl 1 rfl dX3_pack_20 ?_
  have e4_1_1 : g13_3 1 1 = (h 1) 1 := rd_ (hG_3 1 (by decide)) rfl
  have e5_8_7 : g13_3 8 7 = (g13_3 8) 7 := rfl
  have e6_1_2 : g13_3 1 2 = (h 1) 2 := rd_ (hG_3 1 (by decide)) rfl
  have e7_8_8 : g13_3 8 8 = (g13_3 8) 8 := rfl
  refine iv_X3_108 hK (s_readPicture_x g13_3 hT_3 (by rewrite [e4_1_1, e5_8_7]; exact k1_at13.1) (by rewrite [e6_1_2, e7_8_8]; exact k1_at13.2.1)) (by decide) rfl ⟨by decide, by decide⟩ (by decide) rfl rfl (Nat.le_of_ble_eq_true rfl) ⟨by decide, by decide⟩ dX3_pack_21 ?_
  intro r9 g21_8 hp9
  obtain ⟨⟨hT_8, hG_8⟩, hr9, rx_8⟩ := hp9
  rw [hr9]
  have hF_8 : FR [5, 6, 8, 9, 10, 11, 12, 13, 14, 15, 16, 17, 18, 19, 20, 21, 22, 23, 24, 25, 26, 27, 28, 29, 30, 31, 32, 33, 34, 36, 37, 38, 39, 41, 42, 43] h g21_8 := FR_tr hF_3 hG_8 (by decide)
  rw [show g13_3 2 = h 2 from (hG_3 2 (by decide))] at rx_8
  rw [show g13_3 8 7 = (g13_3 8) 7 from rfl] at rx_8
  rw [show g13_3 8 8 = (g13_3 8) 8 from rfl] at rx_8
  have rx_at21 := rx_8
  show TT K ly 0 0 24 [(0, vR 7), (1, vR 1), (2, vI l), (3, vI n), (4, vR 5)] [] g21_8
  refine TT_aload_n hK rfl 0 rfl dX3_pack_24 ?_
  refine gf_X3_12 hK (by decide) rfl (q := 8) rfl rfl dX3_pack_25 ?_
  have e9_8_7 : g21_8 8 7 = (g13_3 8) 7 := rd_ (hG_8 8 (by decide)) rfl
  have e10_8_8 : g21_8 8 8 = (g13_3 8) 8 := rd_ (hG_8 8 (by decide)) rfl
  have e11_2 : g21_8 2 = h 2 := ((hG_8 2 (by decide))).trans (hG_3 2 (by decide))
  have e12_8_7 : g21_8 8 7 = (g13_3 8) 7 := rd_ (hG_8 8 (by decide)) rfl
  have e13_8_8 : g21_8 8 8 = (g13_3 8) 8 := rd_ (hG_8 8 (by decide)) rfl
  refine iv_X3_112 hK (s_goForth_x g21_8 hT_8 (by rewrite [e9_8_7, e10_8_8]; rw [k1_at13.1, k1_at13.2.1]; exact hsd) (by rewrite [e11_2, e12_8_7, e13_8_8]; intro i h0 h1 h2 h3; have k9 := rx_at21 (i % 8) (i / 8) (by omega) h2 (by omega) h3; rw [show i / 8 * 8 + i % 8 = i by omega] at k9; exact k9)) (by decide) rfl ⟨by decide, by decide⟩ (by decide) rfl rfl (Nat.le_of_ble_eq_true rfl) ⟨by decide, by decide⟩ dX3_pack_28 ?_
  intro r9 g28_14 hp9
  obtain ⟨⟨hT_14, hG_14⟩, hr9, p1_14⟩ := hp9
  rw [hr9]
  have hF_14 : FR [5, 6, 8, 9, 10, 11, 12, 13, 14, 15, 16, 17, 18, 19, 20, 21, 22, 23, 24, 25, 26, 27, 28, 29, 30, 31, 32, 33, 34, 36, 37, 38, 39, 41, 42, 43] h g28_14 := FR_tr hF_8 hG_14 (by decide)
  rw [show g21_8 2 = h 2 from ((hG_8 2 (by decide))).trans (hG_3 2 (by decide))] at p1_14
  rw [show g21_8 8 7 = (g13_3 8) 7 from rd_ (hG_8 8 (by decide)) rfl] at p1_14
  rw [show g21_8 8 8 = (g13_3 8) 8 from rd_ (hG_8 8 (by decide)) rfl] at p1_14
  rw [show g21_8 8 9 = (g13_3 8) 9 from rd_ (hG_8 8 (by decide)) rfl] at p1_14
  have p1_at28 := p1_14
  show TT K ly 0 0 31 [(0, vR 7), (1, vR 1), (2, vI l), (3, vI n), (4, vR 5)] [] g28_14
  refine TT_aload_n hK rfl 0 rfl dX3_pack_31 ?_
  refine gf_X3_40 hK (by decide) rfl (q := 22) rfl rfl dX3_pack_32 ?_
  refine iv_X3_115 hK (s_clear22_e g28_14 hT_14 ) (by decide) rfl ⟨by decide, by decide⟩ (by decide) rfl rfl (Nat.le_of_ble_eq_true rfl) ⟨by decide, by decide⟩ dX3_pack_35 ?_
  intro r9 g35_15 hp9
  obtain ⟨⟨hT_15, hG_15⟩, hr9, e_15⟩ := hp9
  rw [hr9]
  have hF_15 : FR [5, 6, 8, 9, 10, 11, 12, 13, 14, 15, 16, 17, 18, 19, 20, 21, 22, 23, 24, 25, 26, 27, 28, 29, 30, 31, 32, 33, 34, 36, 37, 38, 39, 41, 42, 43] h g35_15 := FR_tr hF_14 hG_15 (by decide)
  have e_at35 := e_15
  show TT K ly 0 0 38 [(0, vR 7), (1, vR 1), (2, vI l), (3, vI n), (4, vR 5)] [] g35_15
  refine TT_iconst hK dX3_pack_38 ?_
  refine TT_istore hK (lv' := [(5, vI 0), (0, vR 7), (1, vR 1), (2, vI l), (3, vI n), (4, vR 5)]) (by decide) rfl dX3_pack_39 ?_
  have L41_16 : ∀ (k16 : Nat) (b : Int) (w41_16 : Hp_), TY w41_16 → FR [5, 6, 8, 9, 10, 11, 12, 13, 14, 15, 16, 17, 18, 19, 20, 21, 22, 23, 24, 25, 26, 27, 28, 29, 30, 31, 32, 33, 34, 36, 37, 38, 39, 41, 42, 43] h w41_16 → (0 ≤ b ∧ b ≤ 10) → (BDQ (w41_16 10) (w41_16 12) (w41_16 11) (w41_16 13)) → ((w41_16 8 10) = 3 * l + 1) → (∀ b : Int, 0 ≤ b → b < 3 * l + 1 → (w41_16 12) b = BW (h 1 1) l b ∧ (w41_16 13) b = BH (h 1 2) l b) → (∀ b x2 y2 : Int, 0 ≤ b → b < 3 * l + 1 → 0 ≤ x2 → x2 < BW (h 1 1) l b → 0 ≤ y2 → y2 < BH (h 1 2) l b → (w41_16 9) (((w41_16 11) b + y2) * 8 + (w41_16 10) b + x2) = LE (h 1 1) (h 1 2) (fun i => h 2 i - 128) l (8 * CY (h 1 2) l b + CX (h 1 1) l b + 8 * y2 + x2)) → (b ≤ 3 * l + 1) → (0 ≤ (w41_16 22 1) ∧ (w41_16 22 1) ≤ 13 * IS (AR (h 1 1) (h 1 2) l) b + 2 * b) → (CPQ (h 1 1) (h 1 2) (fun i => h 2 i - 128) l b (w41_16 16) (w41_16 23) (w41_16 17) (w41_16 18)) → (∀ c : Int, 0 ≤ c → c < b → 0 ≤ (w41_16 17) c ∧ (w41_16 17) c + (w41_16 18) c ≤ (w41_16 22 1)) → (LSQ (h 1 1) (h 1 2) (fun i => h 2 i - 128) l b (w41_16 16) (w41_16 23) (w41_16 17) (w41_16 18) (w41_16 19)) → (∀ j : Int, 0 ≤ j → j < b → (w41_16 20) j = 0) → (∀ j : Int, 0 ≤ j → j < b → (w41_16 21) j = 3) → (IS (w41_16 18) b = (w41_16 22 1)) → ((10 : Int) - b).toNat < k16 → TT K ly 0 0 41 [(0, vR 7), (1, vR 1), (2, vI l), (3, vI n), (4, vR 5), (5, vI b)] [] w41_16 := by
    intro k16
    induction k16 with
    | zero => intro b w41_16 hT41_16 hF41_16 hb hbd2 kcn hbw hnm hb3 hL hcp hca hlq h20z h21z his hk16; exact absurd hk16 (Nat.not_lt_zero _)
    | succ k16 ih16 =>
      intro b w41_16 hT41_16 hF41_16 hb hbd2 kcn hbw hnm hb3 hL hcp hca hlq h20z h21z his hk16
      refine TT_iload hK 5 rfl dX3_pack_41 ?_
      refine TT_aload_n hK rfl 0 rfl dX3_pack_43 ?_
      refine gf_X3_12 hK (by decide) rfl (q := 8) rfl rfl dX3_pack_44 ?_
      refine gf_X3_118 hK (by decide) rfl (v := (w41_16 8) 10) rfl dX3_pack_47 ?_
      have r17 := ty_8_10 (v := (w41_16 8) 10) hT41_16 rfl
      refine TT_icmp_ge hK (tgt := 100) (irm (by omega) (by omega)) (irm (by omega) (by omega)) dX3_pack_50 (by decide) (fun hb50_18 => ?_) (fun hb50_18 => ?_)
      · have e3 : b = 3 * l + 1 := by omega
        have iaR9 := ARb (w := h 1 1) (e := h 1 2) (l := l) (c := b) rW rH hl (by omega)
        have hLQ0 : LQ (w41_16 16) (w41_16 18) (w41_16 19) (3 * l + 1) := by
            have k9 := LSQ_L hlq
            rw [e3] at k9
            exact k9
        have hIS0 : IS (w41_16 18) (3 * l + 1) ≤ 852 := by
            rw [← e3, his]
            omega
        have gt9 : 0 ≤ IS (GT (w41_16 19) (w41_16 20)) (3 * l + 1) := IS_nn (fun j j0 j1 => (ty_19 (i := 35 * j + (w41_16 20) j) (v := (w41_16 19) (35 * j + (w41_16 20) j)) hT41_16 rfl (by rw [h20z j j0 (by omega)]; omega) (by rw [h20z j j0 (by omega)]; omega)).1)
        refine TT_aload hK 4 rfl dX3_pack_100 ?_
        refine iv_X3_115 hK (s_clear5_e w41_16 hT41_16 ) (by decide) rfl ⟨by decide, by decide⟩ (by decide) rfl rfl (Nat.le_of_ble_eq_true rfl) ⟨by decide, by decide⟩ dX3_pack_102 ?_
        intro r9 g102_19 hp9
        obtain ⟨⟨hT_19, hG_19⟩, hr9, e_19⟩ := hp9
        rw [hr9]
        have hF_19 : FR [5, 6, 8, 9, 10, 11, 12, 13, 14, 15, 16, 17, 18, 19, 20, 21, 22, 23, 24, 25, 26, 27, 28, 29, 30, 31, 32, 33, 34, 36, 37, 38, 39, 41, 42, 43] h g102_19 := FR_tr hF41_16 hG_19 (by decide)
        have e_at102 := e_19
        show TT K ly 0 0 105 [(0, vR 7), (1, vR 1), (2, vI l), (3, vI n), (4, vR 5), (5, vI b)] [] g102_19
        have b0 : (g102_19 5) 1 = 0 := e_at102.1
        refine TT_aload hK 4 rfl dX3_pack_105 ?_
        refine TT_aload_n hK rfl 1 rfl dX3_pack_107 ?_
        refine gf_X3_95 hK (by decide) rfl (v := (h 1) 1) (rd_ (((hG_19 1 (by decide))).trans (hF41_16 1 (by decide))) rfl) dX3_pack_108 ?_
        have r20 := ty_1_1 (v := (h 1) 1) hT_19 (rd_ (((hG_19 1 (by decide))).trans (hF41_16 1 (by decide))) rfl)
        refine iv_X3_131 hK (s_add5_e ((h 1) 1) g102_19 hT_19 (by first | omega | (simp [up, setR] <;> omega))) (by decide) rfl ⟨by decide, by decide⟩ (by decide) rfl rfl (Nat.le_of_ble_eq_true rfl) ⟨by decide, by decide⟩ dX3_pack_111 ?_
        intro r9 g111_21 hp9
        obtain ⟨⟨hT_21, hG_21⟩, hr9, ea_21, e2_21⟩ := hp9
        rw [hr9]
        have hF_21 : FR [5, 6, 8, 9, 10, 11, 12, 13, 14, 15, 16, 17, 18, 19, 20, 21, 22, 23, 24, 25, 26, 27, 28, 29, 30, 31, 32, 33, 34, 36, 37, 38, 39, 41, 42, 43] h g111_21 := FR_tr hF_19 hG_21 (by decide)
        rw [show g102_19 5 1 = (g102_19 5) 1 from rfl] at ea_21
        rw [show g102_19 6 = w41_16 6 from (hG_19 6 (by decide))] at ea_21
        have ea_at111 := ea_21
        have e2_at111 := e2_21
        show TT K ly 0 0 114 [(0, vR 7), (1, vR 1), (2, vI l), (3, vI n), (4, vR 5), (5, vI b)] [] g111_21
        have a1 := (ea_at111 (by omega)).2
        have b1 : (g111_21 5) 1 = 1 := by have q9 := (ea_at111 (by omega)).1; omega
        rw [b0] at a1
        refine TT_aload hK 4 rfl dX3_pack_114 ?_
        refine TT_aload_n hK rfl 1 rfl dX3_pack_116 ?_
        refine gf_X3_101 hK (by decide) rfl (v := (h 1) 2) (rd_ (((hG_21 1 (by decide))).trans (((hG_19 1 (by decide))).trans (hF41_16 1 (by decide)))) rfl) dX3_pack_117 ?_
        have r22 := ty_1_2 (v := (h 1) 2) hT_21 (rd_ (((hG_21 1 (by decide))).trans (((hG_19 1 (by decide))).trans (hF41_16 1 (by decide)))) rfl)
        refine iv_X3_131 hK (s_add5_e ((h 1) 2) g111_21 hT_21 (by first | omega | (simp [up, setR] <;> omega))) (by decide) rfl ⟨by decide, by decide⟩ (by decide) rfl rfl (Nat.le_of_ble_eq_true rfl) ⟨by decide, by decide⟩ dX3_pack_120 ?_
        intro r9 g120_23 hp9
        obtain ⟨⟨hT_23, hG_23⟩, hr9, ea_23, e2_23⟩ := hp9
        rw [hr9]
        have hF_23 : FR [5, 6, 8, 9, 10, 11, 12, 13, 14, 15, 16, 17, 18, 19, 20, 21, 22, 23, 24, 25, 26, 27, 28, 29, 30, 31, 32, 33, 34, 36, 37, 38, 39, 41, 42, 43] h g120_23 := FR_tr hF_21 hG_23 (by decide)
        rw [show g111_21 5 1 = (g111_21 5) 1 from rfl] at ea_23
        have ea_at120 := ea_23
        have e2_at120 := e2_23
        show TT K ly 0 0 123 [(0, vR 7), (1, vR 1), (2, vI l), (3, vI n), (4, vR 5), (5, vI b)] [] g120_23
        have a2 := (ea_at120 (by omega)).2
        have b2 : (g120_23 5) 1 = 2 := by have q9 := (ea_at120 (by omega)).1; omega
        rw [b1] at a2
        refine TT_aload hK 4 rfl dX3_pack_123 ?_
        refine TT_iload_n hK rfl 2 rfl dX3_pack_125 ?_
        refine iv_X3_131 hK (s_add5_e l g120_23 hT_23 (by first | omega | (simp [up, setR] <;> omega))) (by decide) rfl ⟨by decide, by decide⟩ (by decide) rfl rfl (Nat.le_of_ble_eq_true rfl) ⟨by decide, by decide⟩ dX3_pack_126 ?_
        intro r9 g126_24 hp9
        obtain ⟨⟨hT_24, hG_24⟩, hr9, ea_24, e2_24⟩ := hp9
        rw [hr9]
        have hF_24 : FR [5, 6, 8, 9, 10, 11, 12, 13, 14, 15, 16, 17, 18, 19, 20, 21, 22, 23, 24, 25, 26, 27, 28, 29, 30, 31, 32, 33, 34, 36, 37, 38, 39, 41, 42, 43] h g126_24 := FR_tr hF_23 hG_24 (by decide)
        rw [show g120_23 5 1 = (g120_23 5) 1 from rfl] at ea_24
        have ea_at126 := ea_24
        have e2_at126 := e2_24
        show TT K ly 0 0 129 [(0, vR 7), (1, vR 1), (2, vI l), (3, vI n), (4, vR 5), (5, vI b)] [] g126_24
        have a3 := (ea_at126 (by omega)).2
        have b3 : (g126_24 5) 1 = 3 := by have q9 := (ea_at126 (by omega)).1; omega
        rw [b2] at a3
        refine TT_aload hK 4 rfl dX3_pack_129 ?_
        refine TT_iload_n hK rfl 3 rfl dX3_pack_131 ?_
        refine iv_X3_131 hK (s_add5_e n g126_24 hT_24 (by first | omega | (simp [up, setR] <;> omega))) (by decide) rfl ⟨by decide, by decide⟩ (by decide) rfl rfl (Nat.le_of_ble_eq_true rfl) ⟨by decide, by decide⟩ dX3_pack_132 ?_
        intro r9 g132_25 hp9
        obtain ⟨⟨hT_25, hG_25⟩, hr9, ea_25, e2_25⟩ := hp9
        rw [hr9]
        have hF_25 : FR [5, 6, 8, 9, 10, 11, 12, 13, 14, 15, 16, 17, 18, 19, 20, 21, 22, 23, 24, 25, 26, 27, 28, 29, 30, 31, 32, 33, 34, 36, 37, 38, 39, 41, 42, 43] h g132_25 := FR_tr hF_24 hG_25 (by decide)
        rw [show g126_24 5 1 = (g126_24 5) 1 from rfl] at ea_25
        have ea_at132 := ea_25
        have e2_at132 := e2_25
        show TT K ly 0 0 135 [(0, vR 7), (1, vR 1), (2, vI l), (3, vI n), (4, vR 5), (5, vI b)] [] g132_25
        have a4 := (ea_at132 (by omega)).2
        have b4 : (g132_25 5) 1 = 4 := by have q9 := (ea_at132 (by omega)).1; omega
        rw [b3] at a4
        refine TT_iconst hK dX3_pack_135 ?_
        refine TT_istore hK (lv' := [(5, vI 1), (0, vR 7), (1, vR 1), (2, vI l), (3, vI n), (4, vR 5)]) (by decide) rfl dX3_pack_136 ?_
        have L138_26 : ∀ (k26 : Nat) (y1 : Int) (D9 : DT_) (w138_26 : Hp_), TY w138_26 → FR [5, 6, 8, 9, 10, 11, 12, 13, 14, 15, 16, 17, 18, 19, 20, 21, 22, 23, 24, 25, 26, 27, 28, 29, 30, 31, 32, 33, 34, 36, 37, 38, 39, 41, 42, 43] h w138_26 → (1 ≤ y1 ∧ y1 ≤ 4) → (BDQ (w138_26 10) (w138_26 12) (w138_26 11) (w138_26 13)) → ((w138_26 8 10) = 3 * l + 1) → (∀ b : Int, 0 ≤ b → b < 3 * l + 1 → (w138_26 12) b = BW (h 1 1) l b ∧ (w138_26 13) b = BH (h 1 2) l b) → (∀ b x2 y2 : Int, 0 ≤ b → b < 3 * l + 1 → 0 ≤ x2 → x2 < BW (h 1 1) l b → 0 ≤ y2 → y2 < BH (h 1 2) l b → (w138_26 9) (((w138_26 11) b + y2) * 8 + (w138_26 10) b + x2) = LE (h 1 1) (h 1 2) (fun i => h 2 i - 128) l (8 * CY (h 1 2) l b + CX (h 1 1) l b + 8 * y2 + x2)) → (CPQ (h 1 1) (h 1 2) (fun i => h 2 i - 128) l (3 * l + 1) (w138_26 16) (w138_26 23) (w138_26 17) (w138_26 18)) → (∀ c : Int, 0 ≤ c → c < (3 * l + 1) → 0 ≤ (w138_26 17) c ∧ (w138_26 17) c + (w138_26 18) c ≤ (w138_26 22 1)) → (LSQ (h 1 1) (h 1 2) (fun i => h 2 i - 128) l (3 * l + 1) (w138_26 16) (w138_26 23) (w138_26 17) (w138_26 18) (w138_26 19)) → (y1 ≤ n + 1) → ((((w138_26 16), (w138_26 19), (w138_26 12), (w138_26 13), fun c i => (w138_26 23) ((w138_26 17) c + i)) : DT_) = D9) → (LQ (w138_26 16) (w138_26 18) (w138_26 19) (3 * l + 1)) → ((w138_26 22 1) ≤ 852 ∧ IS (w138_26 18) (3 * l + 1) ≤ 852) → (CBR (w138_26 5 1) (w138_26 5 2) (w138_26 6) (stS D9 n l (y1 - 1).toNat (y0S (h 1 1) (h 1 2) l n)).1 ∧ (0 ≤ (stS D9 n l (y1 - 1).toNat (y0S (h 1 1) (h 1 2) l n)).1.1 ∧ (stS D9 n l (y1 - 1).toNat (y0S (h 1 1) (h 1 2) l n)).1.2.1 = 0)) → (PKW (3 * l + 1) (w138_26 21) (stS D9 n l (y1 - 1).toNat (y0S (h 1 1) (h 1 2) l n))) → (∀ j : Int, 0 ≤ j → j < 3 * l + 1 → (w138_26 20) j = tkF D9 n (y1 - 1) j) → ((stS D9 n l (y1 - 1).toNat (y0S (h 1 1) (h 1 2) l n)).1.1 ≤ 4 + 56 * (y1 - 1) + IS (GT (w138_26 19) (w138_26 20)) (3 * l + 1)) → ((4 : Int) - y1).toNat < k26 → TT K ly 0 0 138 [(0, vR 7), (1, vR 1), (2, vI l), (3, vI n), (4, vR 5), (5, vI y1)] [] w138_26 := by
          intro k26
          induction k26 with
          | zero => intro y1 D9 w138_26 hT138_26 hF138_26 hy1 hbd3 kcn hbw hnm hcp hca hlq hy2 kD hLQ h22 hC hW9 h20 hS9 hk26; exact absurd hk26 (Nat.not_lt_zero _)
          | succ k26 ih26 =>
            intro y1 D9 w138_26 hT138_26 hF138_26 hy1 hbd3 kcn hbw hnm hcp hca hlq hy2 kD hLQ h22 hC hW9 h20 hS9 hk26
            refine TT_iload hK 5 rfl dX3_pack_138 ?_
            refine TT_iload_n hK rfl 3 rfl dX3_pack_140 ?_
            refine TT_icmp_gt hK (tgt := 176) (irm (by omega) (by omega)) (irm (by omega) (by omega)) dX3_pack_141 (by decide) (fun hb141_27 => ?_) (fun hb141_27 => ?_)
            · refine TT_vret hK hQ ?_ dX3_pack_176
              have e28_8_10 : w138_26 8 10 = (w138_26 8) 10 := rfl
              have e29_22_1 : w138_26 22 1 = (w138_26 22) 1 := rfl
              have e30_5_1 : w138_26 5 1 = (w138_26 5) 1 := rfl
              have e31_5_2 : w138_26 5 2 = (w138_26 5) 2 := rfl
              exact ⟨⟨hT138_26, hF138_26⟩, rfl, (by assumption), (by rewrite [e28_8_10]; exact kcn), (by exact hbw), (by exact hnm), (by exact hcp), (by rewrite [e29_22_1]; exact hca), (by exact hlq), (by rewrite [e30_5_1, e31_5_2]; rw [kD]; rw [show y1 - 1 = n by omega] at hC; exact hC), (by exact hLQ)⟩
            · refine TT_iconst hK dX3_pack_144 ?_
              refine TT_istore hK (lv' := [(6, vI 0), (0, vR 7), (1, vR 1), (2, vI l), (3, vI n), (4, vR 5), (5, vI y1)]) (by decide) rfl dX3_pack_145 ?_
              have L147_32 : ∀ (k32 : Nat) (r1 : Int) (w147_32 : Hp_), TY w147_32 → FR [5, 6, 8, 9, 10, 11, 12, 13, 14, 15, 16, 17, 18, 19, 20, 21, 22, 23, 24, 25, 26, 27, 28, 29, 30, 31, 32, 33, 34, 36, 37, 38, 39, 41, 42, 43] h w147_32 → (0 ≤ r1 ∧ r1 ≤ 4) → (BDQ (w147_32 10) (w147_32 12) (w147_32 11) (w147_32 13)) → ((w147_32 8 10) = 3 * l + 1) → (∀ b : Int, 0 ≤ b → b < 3 * l + 1 → (w147_32 12) b = BW (h 1 1) l b ∧ (w147_32 13) b = BH (h 1 2) l b) → (∀ b x2 y2 : Int, 0 ≤ b → b < 3 * l + 1 → 0 ≤ x2 → x2 < BW (h 1 1) l b → 0 ≤ y2 → y2 < BH (h 1 2) l b → (w147_32 9) (((w147_32 11) b + y2) * 8 + (w147_32 10) b + x2) = LE (h 1 1) (h 1 2) (fun i => h 2 i - 128) l (8 * CY (h 1 2) l b + CX (h 1 1) l b + 8 * y2 + x2)) → (CPQ (h 1 1) (h 1 2) (fun i => h 2 i - 128) l (3 * l + 1) (w147_32 16) (w147_32 23) (w147_32 17) (w147_32 18)) → (∀ c : Int, 0 ≤ c → c < (3 * l + 1) → 0 ≤ (w147_32 17) c ∧ (w147_32 17) c + (w147_32 18) c ≤ (w147_32 22 1)) → (LSQ (h 1 1) (h 1 2) (fun i => h 2 i - 128) l (3 * l + 1) (w147_32 16) (w147_32 23) (w147_32 17) (w147_32 18) (w147_32 19)) → (r1 ≤ l + 1) → ((((w147_32 16), (w147_32 19), (w147_32 12), (w147_32 13), fun c i => (w147_32 23) ((w147_32 17) c + i)) : DT_) = D9) → (LQ (w147_32 16) (w147_32 18) (w147_32 19) (3 * l + 1)) → ((w147_32 22 1) ≤ 852 ∧ IS (w147_32 18) (3 * l + 1) ≤ 852) → (CBR (w147_32 5 1) (w147_32 5 2) (w147_32 6) (laS D9 n y1 r1.toNat (stS D9 n l (y1 - 1).toNat (y0S (h 1 1) (h 1 2) l n))).1 ∧ (0 ≤ (laS D9 n y1 r1.toNat (stS D9 n l (y1 - 1).toNat (y0S (h 1 1) (h 1 2) l n))).1.1 ∧ (laS D9 n y1 r1.toNat (stS D9 n l (y1 - 1).toNat (y0S (h 1 1) (h 1 2) l n))).1.2.1 = 0)) → (PKW (3 * l + 1) (w147_32 21) (laS D9 n y1 r1.toNat (stS D9 n l (y1 - 1).toNat (y0S (h 1 1) (h 1 2) l n)))) → ((∀ j : Int, 0 ≤ j → j < FS r1 → (w147_32 20) j = tkF D9 n y1 j) ∧ ∀ j : Int, FS r1 ≤ j → j < 3 * l + 1 → (w147_32 20) j = tkF D9 n (y1 - 1) j) → ((laS D9 n y1 r1.toNat (stS D9 n l (y1 - 1).toNat (y0S (h 1 1) (h 1 2) l n))).1.1 ≤ 4 + 56 * (y1 - 1) + 14 * r1 + IS (GT (w147_32 19) (w147_32 20)) (3 * l + 1)) → ((4 : Int) - r1).toNat < k32 → TT K ly 0 0 147 [(0, vR 7), (1, vR 1), (2, vI l), (3, vI n), (4, vR 5), (5, vI y1), (6, vI r1)] [] w147_32 := by
                intro k32
                induction k32 with
                | zero => intro r1 w147_32 hT147_32 hF147_32 hr1 hbd4 kcn hbw hnm hcp hca hlq hr2 kD hLQ h22 hC hW9 h20 hS9 hk32; exact absurd hk32 (Nat.not_lt_zero _)
                | succ k32 ih32 =>
                  intro r1 w147_32 hT147_32 hF147_32 hr1 hbd4 kcn hbw hnm hcp hca hlq hr2 kD hLQ h22 hC hW9 h20 hS9 hk32
                  refine TT_iload hK 6 rfl dX3_pack_147 ?_
                  refine TT_iload_n hK rfl 2 rfl dX3_pack_149 ?_
                  refine TT_icmp_gt hK (tgt := 170) (irm (by omega) (by omega)) (irm (by omega) (by omega)) dX3_pack_150 (by decide) (fun hb150_33 => ?_) (fun hb150_33 => ?_)
                  · refine TT_iinc hK (v := y1 + 1) (lv' := [(5, vI (y1 + 1)), (0, vR 7), (1, vR 1), (2, vI l), (3, vI n), (4, vR 5), (6, vI r1)]) 5 rfl rfl (by decide) rfl dX3_pack_170 ?_
                    refine TT_goto hK (tgt := 138) dX3_pack_173 (by decide) ?_
                    refine TT_sub [1, 2, 3, 4, 5, 0] rfl ?_
                    have e34_8_10 : w147_32 8 10 = (w147_32 8) 10 := rfl
                    have e35_22_1 : w147_32 22 1 = (w147_32 22) 1 := rfl
                    have e36_22_1 : w147_32 22 1 = (w147_32 22) 1 := rfl
                    have e37_5_1 : w147_32 5 1 = (w147_32 5) 1 := rfl
                    have e38_5_2 : w147_32 5 2 = (w147_32 5) 2 := rfl
                    exact ih26 (y1 + 1) D9 w147_32 hT147_32 hF147_32 (by first | omega | (simp [up, setR] <;> omega)) (by assumption) (by rewrite [e34_8_10]; exact kcn) (by exact hbw) (by exact hnm) (by exact hcp) (by rewrite [e35_22_1]; exact hca) (by exact hlq) (by first | omega | (simp [up, setR] <;> omega)) (by exact kD) (by exact hLQ) (by rewrite [e36_22_1]; exact h22) (by rewrite [e37_5_1, e38_5_2]; rw [show y1 + 1 - 1 = y1 by omega, stS_s (by omega), show l + 1 = r1 by omega]; exact hC) (by rw [show y1 + 1 - 1 = y1 by omega, stS_s (by omega), show l + 1 = r1 by omega]; exact hW9) (by intro j j0 j1; rw [show y1 + 1 - 1 = y1 by omega]; exact h20.1 j j0 (by rw [show r1 = l + 1 by omega, FS_s (by omega)]; exact j1)) (by rw [show y1 + 1 - 1 = y1 by omega, stS_s (by omega), show l + 1 = r1 by omega]; omega) (by first | omega | (simp [up, setR] <;> omega))
                  · have hfr := FS_r (r := r1) (by omega)
                    have hD1 := (DT_e kD).1
                    have tb9 : ∀ j : Int, 0 ≤ j → j < 3 * l + 1 → 0 ≤ tkF D9 n (y1 - 1) j ∧ tkF D9 n (y1 - 1) j ≤ tkF D9 n y1 j ∧ tkF D9 n y1 j ≤ pas (D9.1 j) ∧ pas (D9.1 j) ≤ 34 := fun j j0 j1 => tkF_r (by rw [← hD1]; exact ty_16 (i := j) (v := (w147_32 16) j) hT147_32 rfl j0 (by omega)) (by omega) (by omega)
                    have hb20 : ∀ j : Int, 0 ≤ j → j < 3 * l + 1 → (w147_32 20) j ≤ pas ((w147_32 16) j) := fun j j0 j1 => by
                        have t9 := tb9 j j0 j1
                        rw [hD1]
                        by_cases e : j < FS r1
                        · rw [h20.1 j j0 e]
                          exact t9.2.2.1
                        · rw [h20.2 j (by omega) j1]
                          omega
                    refine TT_aload_n hK rfl 0 rfl dX3_pack_153 ?_
                    refine TT_iload hK 6 rfl dX3_pack_154 ?_
                    refine TT_iload hK 5 rfl dX3_pack_156 ?_
                    refine TT_iload_n hK rfl 3 rfl dX3_pack_158 ?_
                    refine TT_aload hK 4 rfl dX3_pack_159 ?_
                    have e39_5_1 : w147_32 5 1 = (w147_32 5) 1 := rfl
                    have e40_5_2 : w147_32 5 2 = (w147_32 5) 2 := rfl
                    have e41_8_10 : w147_32 8 10 = (w147_32 8) 10 := rfl
                    have e42_8_10 : w147_32 8 10 = (w147_32 8) 10 := rfl
                    have e43_8_10 : w147_32 8 10 = (w147_32 8) 10 := rfl
                    have e44_22_1 : w147_32 22 1 = (w147_32 22) 1 := rfl
                    have e45_8_10 : w147_32 8 10 = (w147_32 8) 10 := rfl
                    have e46_8_10 : w147_32 8 10 = (w147_32 8) 10 := rfl
                    have e47_8_10 : w147_32 8 10 = (w147_32 8) 10 := rfl
                    refine iv_X3_134 hK (s_writePacket_e ((laS D9 n y1 r1.toNat (stS D9 n l (y1 - 1).toNat (y0S (h 1 1) (h 1 2) l n))).1) ((laS D9 n y1 r1.toNat (stS D9 n l (y1 - 1).toNat (y0S (h 1 1) (h 1 2) l n))).2) r1 y1 n w147_32 hT147_32 (by first | omega | (simp [up, setR] <;> omega)) (by first | omega | (simp [up, setR] <;> omega)) (by first | omega | (simp [up, setR] <;> omega)) (by rewrite [e39_5_1, e40_5_2]; exact hC.1) (by exact hC.2) (by rewrite [e41_8_10]; omega) (by rewrite [e42_8_10]; rw [kcn]; exact hW9) (by rw [kD]; exact fun j j0 j1 => h20.2 j j0 (by omega)) (by rewrite [e43_8_10]; rw [kcn]; exact hLQ) (by rewrite [e44_22_1, e45_8_10]; rw [kcn]; exact ⟨hca, by omega⟩) (by rewrite [e46_8_10]; rw [kcn]; exact hb20) (by rewrite [e47_8_10]; rw [kcn]; omega)) (by decide) rfl ⟨by decide, by decide⟩ (by decide) rfl rfl (Nat.le_of_ble_eq_true rfl) ⟨by decide, by decide⟩ dX3_pack_161 ?_
                    intro r9 g161_48 hp9
                    obtain ⟨⟨hT_48, hG_48⟩, hr9, pk_48, w2_48, h2_48, z2_48⟩ := hp9
                    rw [hr9]
                    have hF_48 : FR [5, 6, 8, 9, 10, 11, 12, 13, 14, 15, 16, 17, 18, 19, 20, 21, 22, 23, 24, 25, 26, 27, 28, 29, 30, 31, 32, 33, 34, 36, 37, 38, 39, 41, 42, 43] h g161_48 := FR_tr hF147_32 hG_48 (by decide)
                    rw [show w147_32 8 10 = (w147_32 8) 10 from rfl] at w2_48
                    rw [show w147_32 8 10 = (w147_32 8) 10 from rfl] at z2_48
                    have pk_at161 := pk_48
                    have w2_at161 := w2_48
                    have h2_at161 := h2_48
                    have z2_at161 := z2_48
                    show TT K ly 0 0 164 [(0, vR 7), (1, vR 1), (2, vI l), (3, vI n), (4, vR 5), (5, vI y1), (6, vI r1)] [] g161_48
                    have pk9 : CBR ((g161_48 5) 1) ((g161_48 5) 2) (g161_48 6) (pkS D9 n y1 r1 (laS D9 n y1 r1.toNat (stS D9 n l (y1 - 1).toNat (y0S (h 1 1) (h 1 2) l n)))).1 ∧ (0 ≤ (pkS D9 n y1 r1 (laS D9 n y1 r1.toNat (stS D9 n l (y1 - 1).toNat (y0S (h 1 1) (h 1 2) l n)))).1.1 ∧ (pkS D9 n y1 r1 (laS D9 n y1 r1.toNat (stS D9 n l (y1 - 1).toNat (y0S (h 1 1) (h 1 2) l n)))).1.2.1 = 0) := by
                        have k9 := pk_at161
                        rw [kD] at k9
                        exact k9
                    have pw9 : PKW (3 * l + 1) (g161_48 21) (pkS D9 n y1 r1 (laS D9 n y1 r1.toNat (stS D9 n l (y1 - 1).toNat (y0S (h 1 1) (h 1 2) l n)))) := by
                        have k9 := w2_at161
                        rw [kD, kcn] at k9
                        exact k9
                    have ph9 := h2_at161
                    rw [kD] at ph9
                    have pz9 : (pkS D9 n y1 r1 (laS D9 n y1 r1.toNat (stS D9 n l (y1 - 1).toNat (y0S (h 1 1) (h 1 2) l n)))).1.1 ≤ (laS D9 n y1 r1.toNat (stS D9 n l (y1 - 1).toNat (y0S (h 1 1) (h 1 2) l n))).1.1 + 14 + IS (GT (w147_32 19) (g161_48 20)) (3 * l + 1) - IS (GT (w147_32 19) (w147_32 20)) (3 * l + 1) := by
                        have k9 := z2_at161
                        rw [kD, kcn] at k9
                        exact k9
                    refine TT_iinc hK (v := r1 + 1) (lv' := [(6, vI (r1 + 1)), (0, vR 7), (1, vR 1), (2, vI l), (3, vI n), (4, vR 5), (5, vI y1)]) 6 rfl rfl (by decide) rfl dX3_pack_164 ?_
                    refine TT_goto hK (tgt := 147) dX3_pack_167 (by decide) ?_
                    refine TT_sub [1, 2, 3, 4, 5, 6, 0] rfl ?_
                    have e49_10 : g161_48 10 = w147_32 10 := (hG_48 10 (by decide))
                    have e50_11 : g161_48 11 = w147_32 11 := (hG_48 11 (by decide))
                    have e51_12 : g161_48 12 = w147_32 12 := (hG_48 12 (by decide))
                    have e52_13 : g161_48 13 = w147_32 13 := (hG_48 13 (by decide))
                    have e53_8_10 : g161_48 8 10 = (w147_32 8) 10 := rd_ (hG_48 8 (by decide)) rfl
                    have e54_12 : g161_48 12 = w147_32 12 := (hG_48 12 (by decide))
                    have e55_13 : g161_48 13 = w147_32 13 := (hG_48 13 (by decide))
                    have e56_10 : g161_48 10 = w147_32 10 := (hG_48 10 (by decide))
                    have e57_11 : g161_48 11 = w147_32 11 := (hG_48 11 (by decide))
                    have e58_9 : g161_48 9 = w147_32 9 := (hG_48 9 (by decide))
                    have e59_16 : g161_48 16 = w147_32 16 := (hG_48 16 (by decide))
                    have e60_17 : g161_48 17 = w147_32 17 := (hG_48 17 (by decide))
                    have e61_18 : g161_48 18 = w147_32 18 := (hG_48 18 (by decide))
                    have e62_23 : g161_48 23 = w147_32 23 := (hG_48 23 (by decide))
                    have e63_17 : g161_48 17 = w147_32 17 := (hG_48 17 (by decide))
                    have e64_18 : g161_48 18 = w147_32 18 := (hG_48 18 (by decide))
                    have e65_22_1 : g161_48 22 1 = (w147_32 22) 1 := rd_ (hG_48 22 (by decide)) rfl
                    have e66_16 : g161_48 16 = w147_32 16 := (hG_48 16 (by decide))
                    have e67_17 : g161_48 17 = w147_32 17 := (hG_48 17 (by decide))
                    have e68_18 : g161_48 18 = w147_32 18 := (hG_48 18 (by decide))
                    have e69_19 : g161_48 19 = w147_32 19 := (hG_48 19 (by decide))
                    have e70_23 : g161_48 23 = w147_32 23 := (hG_48 23 (by decide))
                    have e71_12 : g161_48 12 = w147_32 12 := (hG_48 12 (by decide))
                    have e72_13 : g161_48 13 = w147_32 13 := (hG_48 13 (by decide))
                    have e73_16 : g161_48 16 = w147_32 16 := (hG_48 16 (by decide))
                    have e74_17 : g161_48 17 = w147_32 17 := (hG_48 17 (by decide))
                    have e75_19 : g161_48 19 = w147_32 19 := (hG_48 19 (by decide))
                    have e76_23 : g161_48 23 = w147_32 23 := (hG_48 23 (by decide))
                    have e77_16 : g161_48 16 = w147_32 16 := (hG_48 16 (by decide))
                    have e78_18 : g161_48 18 = w147_32 18 := (hG_48 18 (by decide))
                    have e79_19 : g161_48 19 = w147_32 19 := (hG_48 19 (by decide))
                    have e80_18 : g161_48 18 = w147_32 18 := (hG_48 18 (by decide))
                    have e81_22_1 : g161_48 22 1 = (w147_32 22) 1 := rd_ (hG_48 22 (by decide)) rfl
                    have e82_5_1 : g161_48 5 1 = (g161_48 5) 1 := rfl
                    have e83_5_2 : g161_48 5 2 = (g161_48 5) 2 := rfl
                    have e84_19 : g161_48 19 = w147_32 19 := (hG_48 19 (by decide))
                    exact ih32 (r1 + 1) g161_48 hT_48 hF_48 (by first | omega | (simp [up, setR] <;> omega)) (by rewrite [e49_10, e50_11, e51_12, e52_13]; assumption) (by rewrite [e53_8_10]; exact kcn) (by rewrite [e54_12, e55_13]; exact hbw) (by rewrite [e56_10, e57_11, e58_9]; exact hnm) (by rewrite [e59_16, e60_17, e61_18, e62_23]; exact hcp) (by rewrite [e63_17, e64_18, e65_22_1]; exact hca) (by rewrite [e66_16, e67_17, e68_18, e69_19, e70_23]; exact hlq) (by first | omega | (simp [up, setR] <;> omega)) (by rewrite [e71_12, e72_13, e73_16, e74_17, e75_19, e76_23]; exact kD) (by rewrite [e77_16, e78_18, e79_19]; exact hLQ) (by rewrite [e80_18, e81_22_1]; exact h22) (by rewrite [e82_5_1, e83_5_2]; rw [laS_s (by omega)]; exact pk9) (by rw [laS_s (by omega)]; exact pw9) (by rw [FS_s (by omega)]; exact ⟨fun j j0 j1 => by by_cases e : FS r1 ≤ j; exact ph9.1 j e j1; exact (ph9.2 j (Or.inl (by omega))).trans (h20.1 j j0 (by omega)), fun j j0 j1 => (ph9.2 j (Or.inr j0)).trans (h20.2 j (by omega) j1)⟩) (by rewrite [e84_19]; rw [laS_s (by omega)]; omega) (by first | omega | (simp [up, setR] <;> omega))
              refine TT_sub [1, 2, 3, 4, 5, 6, 0] rfl ?_
              have e85_8_10 : w138_26 8 10 = (w138_26 8) 10 := rfl
              have e86_22_1 : w138_26 22 1 = (w138_26 22) 1 := rfl
              have e87_22_1 : w138_26 22 1 = (w138_26 22) 1 := rfl
              have e88_5_1 : w138_26 5 1 = (w138_26 5) 1 := rfl
              have e89_5_2 : w138_26 5 2 = (w138_26 5) 2 := rfl
              exact L147_32 ((((4 : Int) - 0).toNat) + 1) 0 w138_26 hT138_26 hF138_26 (by first | omega | (simp [up, setR] <;> omega)) (by assumption) (by rewrite [e85_8_10]; exact kcn) (by exact hbw) (by exact hnm) (by first | exact hcp | (rw [show 3 * l + 1 = b by omega]; exact hcp)) (by rewrite [e86_22_1]; first | exact hca | (rw [show 3 * l + 1 = b by omega]; exact hca)) (by first | exact hlq | (rw [show 3 * l + 1 = b by omega]; exact hlq)) (by first | omega | (simp [up, setR] <;> omega)) (by exact kD) (by exact hLQ) (by rewrite [e87_22_1]; exact h22) (by rewrite [e88_5_1, e89_5_2]; exact hC) (by exact hW9) (by exact ⟨fun j j0 j1 => by have f0 : FS 0 = 0 := rfl; omega, fun j j0 j1 => h20 j (by have f0 : FS 0 = 0 := rfl; omega) j1⟩) (by show (stS D9 n l (y1 - 1).toNat (y0S (h 1 1) (h 1 2) l n)).1.1 ≤ _; omega) (Nat.lt_succ_self _)
        refine TT_sub [1, 2, 3, 4, 5, 0] rfl ?_
        have e90_10 : g132_25 10 = w41_16 10 := ((hG_25 10 (by decide))).trans (((hG_24 10 (by decide))).trans (((hG_23 10 (by decide))).trans (((hG_21 10 (by decide))).trans (hG_19 10 (by decide)))))
        have e91_11 : g132_25 11 = w41_16 11 := ((hG_25 11 (by decide))).trans (((hG_24 11 (by decide))).trans (((hG_23 11 (by decide))).trans (((hG_21 11 (by decide))).trans (hG_19 11 (by decide)))))
        have e92_12 : g132_25 12 = w41_16 12 := ((hG_25 12 (by decide))).trans (((hG_24 12 (by decide))).trans (((hG_23 12 (by decide))).trans (((hG_21 12 (by decide))).trans (hG_19 12 (by decide)))))
        have e93_13 : g132_25 13 = w41_16 13 := ((hG_25 13 (by decide))).trans (((hG_24 13 (by decide))).trans (((hG_23 13 (by decide))).trans (((hG_21 13 (by decide))).trans (hG_19 13 (by decide)))))
        have e94_8_10 : g132_25 8 10 = (w41_16 8) 10 := rd_ (((hG_25 8 (by decide))).trans (((hG_24 8 (by decide))).trans (((hG_23 8 (by decide))).trans (((hG_21 8 (by decide))).trans (hG_19 8 (by decide)))))) rfl
        have e95_12 : g132_25 12 = w41_16 12 := ((hG_25 12 (by decide))).trans (((hG_24 12 (by decide))).trans (((hG_23 12 (by decide))).trans (((hG_21 12 (by decide))).trans (hG_19 12 (by decide)))))
        have e96_13 : g132_25 13 = w41_16 13 := ((hG_25 13 (by decide))).trans (((hG_24 13 (by decide))).trans (((hG_23 13 (by decide))).trans (((hG_21 13 (by decide))).trans (hG_19 13 (by decide)))))
        have e97_10 : g132_25 10 = w41_16 10 := ((hG_25 10 (by decide))).trans (((hG_24 10 (by decide))).trans (((hG_23 10 (by decide))).trans (((hG_21 10 (by decide))).trans (hG_19 10 (by decide)))))
        have e98_11 : g132_25 11 = w41_16 11 := ((hG_25 11 (by decide))).trans (((hG_24 11 (by decide))).trans (((hG_23 11 (by decide))).trans (((hG_21 11 (by decide))).trans (hG_19 11 (by decide)))))
        have e99_9 : g132_25 9 = w41_16 9 := ((hG_25 9 (by decide))).trans (((hG_24 9 (by decide))).trans (((hG_23 9 (by decide))).trans (((hG_21 9 (by decide))).trans (hG_19 9 (by decide)))))
        have e100_16 : g132_25 16 = w41_16 16 := ((hG_25 16 (by decide))).trans (((hG_24 16 (by decide))).trans (((hG_23 16 (by decide))).trans (((hG_21 16 (by decide))).trans (hG_19 16 (by decide)))))
        have e101_17 : g132_25 17 = w41_16 17 := ((hG_25 17 (by decide))).trans (((hG_24 17 (by decide))).trans (((hG_23 17 (by decide))).trans (((hG_21 17 (by decide))).trans (hG_19 17 (by decide)))))
        have e102_18 : g132_25 18 = w41_16 18 := ((hG_25 18 (by decide))).trans (((hG_24 18 (by decide))).trans (((hG_23 18 (by decide))).trans (((hG_21 18 (by decide))).trans (hG_19 18 (by decide)))))
        have e103_23 : g132_25 23 = w41_16 23 := ((hG_25 23 (by decide))).trans (((hG_24 23 (by decide))).trans (((hG_23 23 (by decide))).trans (((hG_21 23 (by decide))).trans (hG_19 23 (by decide)))))
        have e104_17 : g132_25 17 = w41_16 17 := ((hG_25 17 (by decide))).trans (((hG_24 17 (by decide))).trans (((hG_23 17 (by decide))).trans (((hG_21 17 (by decide))).trans (hG_19 17 (by decide)))))
        have e105_18 : g132_25 18 = w41_16 18 := ((hG_25 18 (by decide))).trans (((hG_24 18 (by decide))).trans (((hG_23 18 (by decide))).trans (((hG_21 18 (by decide))).trans (hG_19 18 (by decide)))))
        have e106_22_1 : g132_25 22 1 = (w41_16 22) 1 := rd_ (((hG_25 22 (by decide))).trans (((hG_24 22 (by decide))).trans (((hG_23 22 (by decide))).trans (((hG_21 22 (by decide))).trans (hG_19 22 (by decide)))))) rfl
        have e107_16 : g132_25 16 = w41_16 16 := ((hG_25 16 (by decide))).trans (((hG_24 16 (by decide))).trans (((hG_23 16 (by decide))).trans (((hG_21 16 (by decide))).trans (hG_19 16 (by decide)))))
        have e108_17 : g132_25 17 = w41_16 17 := ((hG_25 17 (by decide))).trans (((hG_24 17 (by decide))).trans (((hG_23 17 (by decide))).trans (((hG_21 17 (by decide))).trans (hG_19 17 (by decide)))))
        have e109_18 : g132_25 18 = w41_16 18 := ((hG_25 18 (by decide))).trans (((hG_24 18 (by decide))).trans (((hG_23 18 (by decide))).trans (((hG_21 18 (by decide))).trans (hG_19 18 (by decide)))))
        have e110_19 : g132_25 19 = w41_16 19 := ((hG_25 19 (by decide))).trans (((hG_24 19 (by decide))).trans (((hG_23 19 (by decide))).trans (((hG_21 19 (by decide))).trans (hG_19 19 (by decide)))))
        have e111_23 : g132_25 23 = w41_16 23 := ((hG_25 23 (by decide))).trans (((hG_24 23 (by decide))).trans (((hG_23 23 (by decide))).trans (((hG_21 23 (by decide))).trans (hG_19 23 (by decide)))))
        have e112_12 : g132_25 12 = w41_16 12 := ((hG_25 12 (by decide))).trans (((hG_24 12 (by decide))).trans (((hG_23 12 (by decide))).trans (((hG_21 12 (by decide))).trans (hG_19 12 (by decide)))))
        have e113_13 : g132_25 13 = w41_16 13 := ((hG_25 13 (by decide))).trans (((hG_24 13 (by decide))).trans (((hG_23 13 (by decide))).trans (((hG_21 13 (by decide))).trans (hG_19 13 (by decide)))))
        have e114_16 : g132_25 16 = w41_16 16 := ((hG_25 16 (by decide))).trans (((hG_24 16 (by decide))).trans (((hG_23 16 (by decide))).trans (((hG_21 16 (by decide))).trans (hG_19 16 (by decide)))))
        have e115_17 : g132_25 17 = w41_16 17 := ((hG_25 17 (by decide))).trans (((hG_24 17 (by decide))).trans (((hG_23 17 (by decide))).trans (((hG_21 17 (by decide))).trans (hG_19 17 (by decide)))))
        have e116_19 : g132_25 19 = w41_16 19 := ((hG_25 19 (by decide))).trans (((hG_24 19 (by decide))).trans (((hG_23 19 (by decide))).trans (((hG_21 19 (by decide))).trans (hG_19 19 (by decide)))))
        have e117_23 : g132_25 23 = w41_16 23 := ((hG_25 23 (by decide))).trans (((hG_24 23 (by decide))).trans (((hG_23 23 (by decide))).trans (((hG_21 23 (by decide))).trans (hG_19 23 (by decide)))))
        have e118_16 : g132_25 16 = w41_16 16 := ((hG_25 16 (by decide))).trans (((hG_24 16 (by decide))).trans (((hG_23 16 (by decide))).trans (((hG_21 16 (by decide))).trans (hG_19 16 (by decide)))))
        have e119_18 : g132_25 18 = w41_16 18 := ((hG_25 18 (by decide))).trans (((hG_24 18 (by decide))).trans (((hG_23 18 (by decide))).trans (((hG_21 18 (by decide))).trans (hG_19 18 (by decide)))))
        have e120_19 : g132_25 19 = w41_16 19 := ((hG_25 19 (by decide))).trans (((hG_24 19 (by decide))).trans (((hG_23 19 (by decide))).trans (((hG_21 19 (by decide))).trans (hG_19 19 (by decide)))))
        have e121_18 : g132_25 18 = w41_16 18 := ((hG_25 18 (by decide))).trans (((hG_24 18 (by decide))).trans (((hG_23 18 (by decide))).trans (((hG_21 18 (by decide))).trans (hG_19 18 (by decide)))))
        have e122_22_1 : g132_25 22 1 = (w41_16 22) 1 := rd_ (((hG_25 22 (by decide))).trans (((hG_24 22 (by decide))).trans (((hG_23 22 (by decide))).trans (((hG_21 22 (by decide))).trans (hG_19 22 (by decide)))))) rfl
        have e123_5_1 : g132_25 5 1 = (g132_25 5) 1 := rfl
        have e124_5_2 : g132_25 5 2 = (g132_25 5) 2 := rfl
        have e125_21 : g132_25 21 = w41_16 21 := ((hG_25 21 (by decide))).trans (((hG_24 21 (by decide))).trans (((hG_23 21 (by decide))).trans (((hG_21 21 (by decide))).trans (hG_19 21 (by decide)))))
        have e126_20 : g132_25 20 = w41_16 20 := ((hG_25 20 (by decide))).trans (((hG_24 20 (by decide))).trans (((hG_23 20 (by decide))).trans (((hG_21 20 (by decide))).trans (hG_19 20 (by decide)))))
        have e127_19 : g132_25 19 = w41_16 19 := ((hG_25 19 (by decide))).trans (((hG_24 19 (by decide))).trans (((hG_23 19 (by decide))).trans (((hG_21 19 (by decide))).trans (hG_19 19 (by decide)))))
        have e128_20 : g132_25 20 = w41_16 20 := ((hG_25 20 (by decide))).trans (((hG_24 20 (by decide))).trans (((hG_23 20 (by decide))).trans (((hG_21 20 (by decide))).trans (hG_19 20 (by decide)))))
        have hC0 : CBR ((g132_25 5) 1) ((g132_25 5) 2) (g132_25 6) (y0S (h 1 1) (h 1 2) l n).1 := CBR_h b4 e2_at132 ⟨_, by rw [a4, a3, a2, a1]⟩
        exact L138_26 ((((4 : Int) - 1).toNat) + 1) 1 (((w41_16 16), (w41_16 19), (w41_16 12), (w41_16 13), fun c i => (w41_16 23) ((w41_16 17) c + i)) : DT_) g132_25 hT_25 hF_25 (by first | omega | (simp [up, setR] <;> omega)) (by rewrite [e90_10, e91_11, e92_12, e93_13]; assumption) (by rewrite [e94_8_10]; exact kcn) (by rewrite [e95_12, e96_13]; exact hbw) (by rewrite [e97_10, e98_11, e99_9]; exact hnm) (by rewrite [e100_16, e101_17, e102_18, e103_23]; first | exact hcp | (rw [show 3 * l + 1 = b by omega]; exact hcp)) (by rewrite [e104_17, e105_18, e106_22_1]; first | exact hca | (rw [show 3 * l + 1 = b by omega]; exact hca)) (by rewrite [e107_16, e108_17, e109_18, e110_19, e111_23]; first | exact hlq | (rw [show 3 * l + 1 = b by omega]; exact hlq)) (by first | omega | (simp [up, setR] <;> omega)) (by rewrite [e112_12, e113_13, e114_16, e115_17, e116_19, e117_23]; rfl) (by rewrite [e118_16, e119_18, e120_19]; first | exact hLQ0) (by rewrite [e121_18, e122_22_1]; exact ⟨by omega, hIS0⟩) (by rewrite [e123_5_1, e124_5_2]; exact ⟨hC0, (y0S_q _ _ _ _).1⟩) (by rewrite [e125_21]; exact PKW_0 (fun j j0 j1 => h21z j j0 (by omega))) (by rewrite [e126_20]; intro j j0 j1; rw [h20z j j0 (by omega), show (1 : Int) - 1 = 0 from rfl, tkF_0]) (by rewrite [e127_19, e128_20]; show (4 : Int) ≤ _; omega) (Nat.lt_succ_self _)
      · have hwr := BWr rW hl b ⟨by omega, by omega⟩
        have hhr := BHr rH hl b ⟨by omega, by omega⟩
        have hci := CXr rW rH hl b ⟨by omega, by omega⟩
        have ia : IS (AR (h 1 1) (h 1 2) l) (b + 1) = IS (AR (h 1 1) (h 1 2) l) b + BW (h 1 1) l b * BH (h 1 2) l b := IS_s (by omega)
        have iaR := ARb (w := h 1 1) (e := h 1 2) (l := l) (c := b + 1) rW rH hl (by omega)
        have hnb0 : NBQ (fun x y : Int => (w41_16 9) (((w41_16 11) b + y) * 8 + (w41_16 10) b + x)) ((w41_16 12) b) ((w41_16 13) b) := PK_nb ⟨by omega, by omega⟩ hnm (hbw b (by omega) (by omega)) hci (fun i i0 i1 => (bq i i0 i1).1)
        refine TT_aload_n hK rfl 0 rfl dX3_pack_53 ?_
        refine gf_X3_18 hK (by decide) rfl (q := 16) rfl rfl dX3_pack_54 ?_
        refine TT_iload hK 5 rfl dX3_pack_57 ?_
        refine TT_aload_n hK rfl 0 rfl dX3_pack_59 ?_
        refine TT_iload hK 5 rfl dX3_pack_60 ?_
        have e129_8_10 : w41_16 8 10 = (w41_16 8) 10 := rfl
        refine iv_X3_121 hK (s_planesOf_e b w41_16 hT41_16 (by first | omega | (simp [up, setR] <;> omega)) (by first | assumption | exact hbd) (by rewrite [e129_8_10]; omega) (by exact hnb0)) (by decide) rfl ⟨by decide, by decide⟩ (by decide) rfl rfl (Nat.le_of_ble_eq_true rfl) ⟨by decide, by decide⟩ dX3_pack_62 ?_
        intro r9 g62_130 hp9
        obtain ⟨⟨hT_130, hG_130⟩, z62_130, hr9, hz_130, pl_130⟩ := hp9
        rw [hr9]
        have hF_130 : FR [5, 6, 8, 9, 10, 11, 12, 13, 14, 15, 16, 17, 18, 19, 20, 21, 22, 23, 24, 25, 26, 27, 28, 29, 30, 31, 32, 33, 34, 36, 37, 38, 39, 41, 42, 43] h g62_130 := FR_tr hF41_16 hG_130 (by decide)
        have pl_at62 := pl_130
        show TT K ly 0 0 65 [(0, vR 7), (1, vR 1), (2, vI l), (3, vI n), (4, vR 5), (5, vI b)] [vI z62_130, vI b, vR 16] g62_130
        refine TT_iast hK (o := 16) (n := 10) (by decide) rfl (by omega) (by omega) dX3_pack_65 ?_
        refine TT_hp (h' := setO g62_130 16 (fup (w41_16 16) b z62_130)) (up_can (hG_130 16 (by decide)) rfl rfl) ?_
        have hT_131 : TY (setO g62_130 16 (fup (w41_16 16) b z62_130)) := tu_16 hT_130 (show up g62_130 16 b z62_130 = (setO g62_130 16 (fup (w41_16 16) b z62_130)) from up_can (hG_130 16 (by decide)) rfl rfl) (by omega)
        have hF_131 : FR [5, 6, 8, 9, 10, 11, 12, 13, 14, 15, 16, 17, 18, 19, 20, 21, 22, 23, 24, 25, 26, 27, 28, 29, 30, 31, 32, 33, 34, 36, 37, 38, 39, 41, 42, 43] h (setO g62_130 16 (fup (w41_16 16) b z62_130)) := FR_up (show up g62_130 16 b z62_130 = (setO g62_130 16 (fup (w41_16 16) b z62_130)) from up_can (hG_130 16 (by decide)) rfl rfl) hF_130 (by decide)
        refine TT_aload_n hK rfl 0 rfl dX3_pack_66 ?_
        refine gf_X3_31 hK (by decide) rfl (q := 20) rfl rfl dX3_pack_67 ?_
        refine TT_iload hK 5 rfl dX3_pack_70 ?_
        refine TT_iconst hK dX3_pack_72 ?_
        refine TT_iast hK (o := 20) (n := 10) (by decide) rfl (by omega) (by omega) dX3_pack_73 ?_
        refine TT_hp (h' := setO (setO g62_130 16 (fup (w41_16 16) b z62_130)) 20 (fup (w41_16 20) b 0)) (up_can ((sOf_ne _ _ (by decide)).trans (hG_130 20 (by decide))) rfl rfl) ?_
        have hT_132 : TY (setO (setO g62_130 16 (fup (w41_16 16) b z62_130)) 20 (fup (w41_16 20) b 0)) := tu_20 hT_131 (show up (setO g62_130 16 (fup (w41_16 16) b z62_130)) 20 b 0 = (setO (setO g62_130 16 (fup (w41_16 16) b z62_130)) 20 (fup (w41_16 20) b 0)) from up_can ((sOf_ne _ _ (by decide)).trans (hG_130 20 (by decide))) rfl rfl) (by omega)
        have hF_132 : FR [5, 6, 8, 9, 10, 11, 12, 13, 14, 15, 16, 17, 18, 19, 20, 21, 22, 23, 24, 25, 26, 27, 28, 29, 30, 31, 32, 33, 34, 36, 37, 38, 39, 41, 42, 43] h (setO (setO g62_130 16 (fup (w41_16 16) b z62_130)) 20 (fup (w41_16 20) b 0)) := FR_up (show up (setO g62_130 16 (fup (w41_16 16) b z62_130)) 20 b 0 = (setO (setO g62_130 16 (fup (w41_16 16) b z62_130)) 20 (fup (w41_16 20) b 0)) from up_can ((sOf_ne _ _ (by decide)).trans (hG_130 20 (by decide))) rfl rfl) hF_131 (by decide)
        refine TT_aload_n hK rfl 0 rfl dX3_pack_74 ?_
        refine gf_X3_34 hK (by decide) rfl (q := 21) rfl rfl dX3_pack_75 ?_
        refine TT_iload hK 5 rfl dX3_pack_78 ?_
        refine TT_iconst hK dX3_pack_80 ?_
        refine TT_iast hK (o := 21) (n := 10) (by decide) rfl (by omega) (by omega) dX3_pack_81 ?_
        refine TT_hp (h' := setO (setO (setO g62_130 16 (fup (w41_16 16) b z62_130)) 20 (fup (w41_16 20) b 0)) 21 (fup (w41_16 21) b 3)) (up_can ((sOf_ne _ _ (by decide)).trans ((sOf_ne _ _ (by decide)).trans (hG_130 21 (by decide)))) rfl rfl) ?_
        have hT_133 : TY (setO (setO (setO g62_130 16 (fup (w41_16 16) b z62_130)) 20 (fup (w41_16 20) b 0)) 21 (fup (w41_16 21) b 3)) := tu_21 hT_132 (show up (setO (setO g62_130 16 (fup (w41_16 16) b z62_130)) 20 (fup (w41_16 20) b 0)) 21 b 3 = (setO (setO (setO g62_130 16 (fup (w41_16 16) b z62_130)) 20 (fup (w41_16 20) b 0)) 21 (fup (w41_16 21) b 3)) from up_can ((sOf_ne _ _ (by decide)).trans ((sOf_ne _ _ (by decide)).trans (hG_130 21 (by decide)))) rfl rfl) (by omega)
        have hF_133 : FR [5, 6, 8, 9, 10, 11, 12, 13, 14, 15, 16, 17, 18, 19, 20, 21, 22, 23, 24, 25, 26, 27, 28, 29, 30, 31, 32, 33, 34, 36, 37, 38, 39, 41, 42, 43] h (setO (setO (setO g62_130 16 (fup (w41_16 16) b z62_130)) 20 (fup (w41_16 20) b 0)) 21 (fup (w41_16 21) b 3)) := FR_up (show up (setO (setO g62_130 16 (fup (w41_16 16) b z62_130)) 20 (fup (w41_16 20) b 0)) 21 b 3 = (setO (setO (setO g62_130 16 (fup (w41_16 16) b z62_130)) 20 (fup (w41_16 20) b 0)) 21 (fup (w41_16 21) b 3)) from up_can ((sOf_ne _ _ (by decide)).trans ((sOf_ne _ _ (by decide)).trans (hG_130 21 (by decide)))) rfl rfl) hF_132 (by decide)
        refine TT_aload_n hK rfl 0 rfl dX3_pack_82 ?_
        refine TT_iload hK 5 rfl dX3_pack_83 ?_
        have e134_10 : (setO (setO (setO g62_130 16 (fup (w41_16 16) b z62_130)) 20 (fup (w41_16 20) b 0)) 21 (fup (w41_16 21) b 3)) 10 = w41_16 10 := (sOf_ne _ _ (by decide)).trans ((sOf_ne _ _ (by decide)).trans ((sOf_ne _ _ (by decide)).trans (hG_130 10 (by decide))))
        have e135_11 : (setO (setO (setO g62_130 16 (fup (w41_16 16) b z62_130)) 20 (fup (w41_16 20) b 0)) 21 (fup (w41_16 21) b 3)) 11 = w41_16 11 := (sOf_ne _ _ (by decide)).trans ((sOf_ne _ _ (by decide)).trans ((sOf_ne _ _ (by decide)).trans (hG_130 11 (by decide))))
        have e136_12 : (setO (setO (setO g62_130 16 (fup (w41_16 16) b z62_130)) 20 (fup (w41_16 20) b 0)) 21 (fup (w41_16 21) b 3)) 12 = w41_16 12 := (sOf_ne _ _ (by decide)).trans ((sOf_ne _ _ (by decide)).trans ((sOf_ne _ _ (by decide)).trans (hG_130 12 (by decide))))
        have e137_13 : (setO (setO (setO g62_130 16 (fup (w41_16 16) b z62_130)) 20 (fup (w41_16 20) b 0)) 21 (fup (w41_16 21) b 3)) 13 = w41_16 13 := (sOf_ne _ _ (by decide)).trans ((sOf_ne _ _ (by decide)).trans ((sOf_ne _ _ (by decide)).trans (hG_130 13 (by decide))))
        have e138_8_10 : (setO (setO (setO g62_130 16 (fup (w41_16 16) b z62_130)) 20 (fup (w41_16 20) b 0)) 21 (fup (w41_16 21) b 3)) 8 10 = (w41_16 8) 10 := rd_ ((sOf_ne _ _ (by decide)).trans ((sOf_ne _ _ (by decide)).trans ((sOf_ne _ _ (by decide)).trans (hG_130 8 (by decide))))) rfl
        have e139_10 : (setO (setO (setO g62_130 16 (fup (w41_16 16) b z62_130)) 20 (fup (w41_16 20) b 0)) 21 (fup (w41_16 21) b 3)) 10 = w41_16 10 := (sOf_ne _ _ (by decide)).trans ((sOf_ne _ _ (by decide)).trans ((sOf_ne _ _ (by decide)).trans (hG_130 10 (by decide))))
        have e140_11 : (setO (setO (setO g62_130 16 (fup (w41_16 16) b z62_130)) 20 (fup (w41_16 20) b 0)) 21 (fup (w41_16 21) b 3)) 11 = w41_16 11 := (sOf_ne _ _ (by decide)).trans ((sOf_ne _ _ (by decide)).trans ((sOf_ne _ _ (by decide)).trans (hG_130 11 (by decide))))
        have e141_12 : (setO (setO (setO g62_130 16 (fup (w41_16 16) b z62_130)) 20 (fup (w41_16 20) b 0)) 21 (fup (w41_16 21) b 3)) 12 = w41_16 12 := (sOf_ne _ _ (by decide)).trans ((sOf_ne _ _ (by decide)).trans ((sOf_ne _ _ (by decide)).trans (hG_130 12 (by decide))))
        have e142_13 : (setO (setO (setO g62_130 16 (fup (w41_16 16) b z62_130)) 20 (fup (w41_16 20) b 0)) 21 (fup (w41_16 21) b 3)) 13 = w41_16 13 := (sOf_ne _ _ (by decide)).trans ((sOf_ne _ _ (by decide)).trans ((sOf_ne _ _ (by decide)).trans (hG_130 13 (by decide))))
        have e143_9 : (setO (setO (setO g62_130 16 (fup (w41_16 16) b z62_130)) 20 (fup (w41_16 20) b 0)) 21 (fup (w41_16 21) b 3)) 9 = w41_16 9 := (sOf_ne _ _ (by decide)).trans ((sOf_ne _ _ (by decide)).trans ((sOf_ne _ _ (by decide)).trans (hG_130 9 (by decide))))
        have e144_12 : (setO (setO (setO g62_130 16 (fup (w41_16 16) b z62_130)) 20 (fup (w41_16 20) b 0)) 21 (fup (w41_16 21) b 3)) 12 = w41_16 12 := (sOf_ne _ _ (by decide)).trans ((sOf_ne _ _ (by decide)).trans ((sOf_ne _ _ (by decide)).trans (hG_130 12 (by decide))))
        have e145_13 : (setO (setO (setO g62_130 16 (fup (w41_16 16) b z62_130)) 20 (fup (w41_16 20) b 0)) 21 (fup (w41_16 21) b 3)) 13 = w41_16 13 := (sOf_ne _ _ (by decide)).trans ((sOf_ne _ _ (by decide)).trans ((sOf_ne _ _ (by decide)).trans (hG_130 13 (by decide))))
        have e146_22_1 : (setO (setO (setO g62_130 16 (fup (w41_16 16) b z62_130)) 20 (fup (w41_16 20) b 0)) 21 (fup (w41_16 21) b 3)) 22 1 = (w41_16 22) 1 := rd_ ((sOf_ne _ _ (by decide)).trans ((sOf_ne _ _ (by decide)).trans ((sOf_ne _ _ (by decide)).trans (hG_130 22 (by decide))))) rfl
        refine iv_X3_124 hK (s_ctellBand_e b (setO (setO (setO g62_130 16 (fup (w41_16 16) b z62_130)) 20 (fup (w41_16 20) b 0)) 21 (fup (w41_16 21) b 3)) hT_133 (by first | omega | (simp [up, setR] <;> omega)) (by rewrite [e134_10, e135_11, e136_12, e137_13]; first | assumption | exact hbd) (by rewrite [e138_8_10]; omega) (by rewrite [e139_10, e140_11, e141_12, e142_13, e143_9]; exact hnb0) (by rewrite [e144_12, e145_13, e146_22_1]; rw [(hbw b (by omega) (by omega)).1, (hbw b (by omega) (by omega)).2]; omega)) (by decide) rfl ⟨by decide, by decide⟩ (by decide) rfl rfl (Nat.le_of_ble_eq_true rfl) ⟨by decide, by decide⟩ dX3_pack_85 ?_
        intro r9 g85_147 hp9
        obtain ⟨⟨hT_147, hG_147⟩, hr9, cw_147, cn_147, ck_147, cs_147, cl_147⟩ := hp9
        rw [hr9]
        have hF_147 : FR [5, 6, 8, 9, 10, 11, 12, 13, 14, 15, 16, 17, 18, 19, 20, 21, 22, 23, 24, 25, 26, 27, 28, 29, 30, 31, 32, 33, 34, 36, 37, 38, 39, 41, 42, 43] h g85_147 := FR_tr hF_133 hG_147 (by decide)
        rw [show (setO (setO (setO g62_130 16 (fup (w41_16 16) b z62_130)) 20 (fup (w41_16 20) b 0)) 21 (fup (w41_16 21) b 3)) 10 = w41_16 10 from (sOf_ne _ _ (by decide)).trans ((sOf_ne _ _ (by decide)).trans ((sOf_ne _ _ (by decide)).trans (hG_130 10 (by decide))))] at cw_147
        rw [show (setO (setO (setO g62_130 16 (fup (w41_16 16) b z62_130)) 20 (fup (w41_16 20) b 0)) 21 (fup (w41_16 21) b 3)) 11 = w41_16 11 from (sOf_ne _ _ (by decide)).trans ((sOf_ne _ _ (by decide)).trans ((sOf_ne _ _ (by decide)).trans (hG_130 11 (by decide))))] at cw_147
        rw [show (setO (setO (setO g62_130 16 (fup (w41_16 16) b z62_130)) 20 (fup (w41_16 20) b 0)) 21 (fup (w41_16 21) b 3)) 12 = w41_16 12 from (sOf_ne _ _ (by decide)).trans ((sOf_ne _ _ (by decide)).trans ((sOf_ne _ _ (by decide)).trans (hG_130 12 (by decide))))] at cw_147
        rw [show (setO (setO (setO g62_130 16 (fup (w41_16 16) b z62_130)) 20 (fup (w41_16 20) b 0)) 21 (fup (w41_16 21) b 3)) 13 = w41_16 13 from (sOf_ne _ _ (by decide)).trans ((sOf_ne _ _ (by decide)).trans ((sOf_ne _ _ (by decide)).trans (hG_130 13 (by decide))))] at cw_147
        rw [show (setO (setO (setO g62_130 16 (fup (w41_16 16) b z62_130)) 20 (fup (w41_16 20) b 0)) 21 (fup (w41_16 21) b 3)) 16 = fup (w41_16 16) b z62_130 from (sOf_ne _ _ (by decide)).trans ((sOf_ne _ _ (by decide)).trans (sOf_eq _ _ _))] at cw_147
        rw [show (setO (setO (setO g62_130 16 (fup (w41_16 16) b z62_130)) 20 (fup (w41_16 20) b 0)) 21 (fup (w41_16 21) b 3)) 22 1 = (w41_16 22) 1 from rd_ ((sOf_ne _ _ (by decide)).trans ((sOf_ne _ _ (by decide)).trans ((sOf_ne _ _ (by decide)).trans (hG_130 22 (by decide))))) rfl] at cw_147
        rw [show (setO (setO (setO g62_130 16 (fup (w41_16 16) b z62_130)) 20 (fup (w41_16 20) b 0)) 21 (fup (w41_16 21) b 3)) 9 = w41_16 9 from (sOf_ne _ _ (by decide)).trans ((sOf_ne _ _ (by decide)).trans ((sOf_ne _ _ (by decide)).trans (hG_130 9 (by decide))))] at cw_147
        rw [show (setO (setO (setO g62_130 16 (fup (w41_16 16) b z62_130)) 20 (fup (w41_16 20) b 0)) 21 (fup (w41_16 21) b 3)) 12 = w41_16 12 from (sOf_ne _ _ (by decide)).trans ((sOf_ne _ _ (by decide)).trans ((sOf_ne _ _ (by decide)).trans (hG_130 12 (by decide))))] at cn_147
        rw [show (setO (setO (setO g62_130 16 (fup (w41_16 16) b z62_130)) 20 (fup (w41_16 20) b 0)) 21 (fup (w41_16 21) b 3)) 13 = w41_16 13 from (sOf_ne _ _ (by decide)).trans ((sOf_ne _ _ (by decide)).trans ((sOf_ne _ _ (by decide)).trans (hG_130 13 (by decide))))] at cn_147
        rw [show (setO (setO (setO g62_130 16 (fup (w41_16 16) b z62_130)) 20 (fup (w41_16 20) b 0)) 21 (fup (w41_16 21) b 3)) 22 1 = (w41_16 22) 1 from rd_ ((sOf_ne _ _ (by decide)).trans ((sOf_ne _ _ (by decide)).trans ((sOf_ne _ _ (by decide)).trans (hG_130 22 (by decide))))) rfl] at cn_147
        rw [show (setO (setO (setO g62_130 16 (fup (w41_16 16) b z62_130)) 20 (fup (w41_16 20) b 0)) 21 (fup (w41_16 21) b 3)) 22 1 = (w41_16 22) 1 from rd_ ((sOf_ne _ _ (by decide)).trans ((sOf_ne _ _ (by decide)).trans ((sOf_ne _ _ (by decide)).trans (hG_130 22 (by decide))))) rfl] at ck_147
        rw [show (setO (setO (setO g62_130 16 (fup (w41_16 16) b z62_130)) 20 (fup (w41_16 20) b 0)) 21 (fup (w41_16 21) b 3)) 23 = w41_16 23 from (sOf_ne _ _ (by decide)).trans ((sOf_ne _ _ (by decide)).trans ((sOf_ne _ _ (by decide)).trans (hG_130 23 (by decide))))] at ck_147
        rw [show (setO (setO (setO g62_130 16 (fup (w41_16 16) b z62_130)) 20 (fup (w41_16 20) b 0)) 21 (fup (w41_16 21) b 3)) 17 = w41_16 17 from (sOf_ne _ _ (by decide)).trans ((sOf_ne _ _ (by decide)).trans ((sOf_ne _ _ (by decide)).trans (hG_130 17 (by decide))))] at cs_147
        rw [show (setO (setO (setO g62_130 16 (fup (w41_16 16) b z62_130)) 20 (fup (w41_16 20) b 0)) 21 (fup (w41_16 21) b 3)) 22 1 = (w41_16 22) 1 from rd_ ((sOf_ne _ _ (by decide)).trans ((sOf_ne _ _ (by decide)).trans ((sOf_ne _ _ (by decide)).trans (hG_130 22 (by decide))))) rfl] at cs_147
        rw [show (setO (setO (setO g62_130 16 (fup (w41_16 16) b z62_130)) 20 (fup (w41_16 20) b 0)) 21 (fup (w41_16 21) b 3)) 18 = w41_16 18 from (sOf_ne _ _ (by decide)).trans ((sOf_ne _ _ (by decide)).trans ((sOf_ne _ _ (by decide)).trans (hG_130 18 (by decide))))] at cl_147
        have cw_at85 := cw_147
        have cn_at85 := cn_147
        have ck_at85 := ck_147
        have cs_at85 := cs_147
        have cl_at85 := cl_147
        show TT K ly 0 0 88 [(0, vR 7), (1, vR 1), (2, vI l), (3, vI n), (4, vR 5), (5, vI b)] [] g85_147
        have ewb := hbw b (by omega) (by omega)
        have cn8 := cn_at85
        rw [ewb.1, ewb.2] at cn8
        have a64b := A64 hwr hhr
        have q16b : 0 ≤ (fup (w41_16 16) b z62_130) b ∧ (fup (w41_16 16) b z62_130) b ≤ 12 := by rw [fup_eq]; omega
        have e17b := (congrFun cs_at85 b).trans (fup_eq _ _ _)
        obtain ⟨M9, s9, hm9, hck9⟩ := CWX_K (by omega) (by omega) q16b cw_at85
        refine TT_aload_n hK rfl 0 rfl dX3_pack_88 ?_
        refine TT_iload hK 5 rfl dX3_pack_89 ?_
        have e148_16 : g85_147 16 = fup (w41_16 16) b z62_130 := ((hG_147 16 (by decide))).trans ((sOf_ne _ _ (by decide)).trans ((sOf_ne _ _ (by decide)).trans (sOf_eq _ _ _)))
        have e149_24_3 : g85_147 24 3 = (g85_147 24) 3 := rfl
        have e150_24_4 : g85_147 24 4 = (g85_147 24) 4 := rfl
        have e151_22_1 : g85_147 22 1 = (g85_147 22) 1 := rfl
        have e152_16 : g85_147 16 = fup (w41_16 16) b z62_130 := ((hG_147 16 (by decide))).trans ((sOf_ne _ _ (by decide)).trans ((sOf_ne _ _ (by decide)).trans (sOf_eq _ _ _)))
        refine iv_X3_128 hK (s_findLeasts_e M9 s9 ((w41_16 12) b) ((w41_16 13) b) (kdB b) b g85_147 hT_147 (by first | omega | (simp [up, setR] <;> omega)) (by rewrite [e148_16, e149_24_3, e150_24_4]; exact CWK_c hck9 e17b) (by rewrite [e151_22_1]; rw [e17b]; omega) (by rewrite [e152_16]; exact q16b) (by omega)) (by decide) rfl ⟨by decide, by decide⟩ (by decide) rfl rfl (Nat.le_of_ble_eq_true rfl) ⟨by decide, by decide⟩ dX3_pack_91 ?_
        intro r9 g91_153 hp9
        obtain ⟨⟨hT_153, hG_153⟩, hr9, c6_153, c7_153, c8_153⟩ := hp9
        rw [hr9]
        have hF_153 : FR [5, 6, 8, 9, 10, 11, 12, 13, 14, 15, 16, 17, 18, 19, 20, 21, 22, 23, 24, 25, 26, 27, 28, 29, 30, 31, 32, 33, 34, 36, 37, 38, 39, 41, 42, 43] h g91_153 := FR_tr hF_147 hG_153 (by decide)
        rw [show g85_147 16 = fup (w41_16 16) b z62_130 from ((hG_147 16 (by decide))).trans ((sOf_ne _ _ (by decide)).trans ((sOf_ne _ _ (by decide)).trans (sOf_eq _ _ _)))] at c6_153
        rw [show g85_147 19 = w41_16 19 from ((hG_147 19 (by decide))).trans ((sOf_ne _ _ (by decide)).trans ((sOf_ne _ _ (by decide)).trans ((sOf_ne _ _ (by decide)).trans (hG_130 19 (by decide)))))] at c7_153
        have c6_at91 := c6_153
        have c7_at91 := c7_153
        have c8_at91 := c8_153
        show TT K ly 0 0 94 [(0, vR 7), (1, vR 1), (2, vI l), (3, vI n), (4, vR 5), (5, vI b)] [] g91_153
        refine TT_iinc hK (v := b + 1) (lv' := [(5, vI (b + 1)), (0, vR 7), (1, vR 1), (2, vI l), (3, vI n), (4, vR 5)]) 5 rfl rfl (by decide) rfl dX3_pack_94 ?_
        refine TT_goto hK (tgt := 41) dX3_pack_97 (by decide) ?_
        refine TT_sub [1, 2, 3, 4, 5, 0] rfl ?_
        have e154_10 : g91_153 10 = w41_16 10 := ((hG_153 10 (by decide))).trans (((hG_147 10 (by decide))).trans ((sOf_ne _ _ (by decide)).trans ((sOf_ne _ _ (by decide)).trans ((sOf_ne _ _ (by decide)).trans (hG_130 10 (by decide))))))
        have e155_11 : g91_153 11 = w41_16 11 := ((hG_153 11 (by decide))).trans (((hG_147 11 (by decide))).trans ((sOf_ne _ _ (by decide)).trans ((sOf_ne _ _ (by decide)).trans ((sOf_ne _ _ (by decide)).trans (hG_130 11 (by decide))))))
        have e156_12 : g91_153 12 = w41_16 12 := ((hG_153 12 (by decide))).trans (((hG_147 12 (by decide))).trans ((sOf_ne _ _ (by decide)).trans ((sOf_ne _ _ (by decide)).trans ((sOf_ne _ _ (by decide)).trans (hG_130 12 (by decide))))))
        have e157_13 : g91_153 13 = w41_16 13 := ((hG_153 13 (by decide))).trans (((hG_147 13 (by decide))).trans ((sOf_ne _ _ (by decide)).trans ((sOf_ne _ _ (by decide)).trans ((sOf_ne _ _ (by decide)).trans (hG_130 13 (by decide))))))
        have e158_8_10 : g91_153 8 10 = (w41_16 8) 10 := rd_ (((hG_153 8 (by decide))).trans (((hG_147 8 (by decide))).trans ((sOf_ne _ _ (by decide)).trans ((sOf_ne _ _ (by decide)).trans ((sOf_ne _ _ (by decide)).trans (hG_130 8 (by decide))))))) rfl
        have e159_12 : g91_153 12 = w41_16 12 := ((hG_153 12 (by decide))).trans (((hG_147 12 (by decide))).trans ((sOf_ne _ _ (by decide)).trans ((sOf_ne _ _ (by decide)).trans ((sOf_ne _ _ (by decide)).trans (hG_130 12 (by decide))))))
        have e160_13 : g91_153 13 = w41_16 13 := ((hG_153 13 (by decide))).trans (((hG_147 13 (by decide))).trans ((sOf_ne _ _ (by decide)).trans ((sOf_ne _ _ (by decide)).trans ((sOf_ne _ _ (by decide)).trans (hG_130 13 (by decide))))))
        have e161_10 : g91_153 10 = w41_16 10 := ((hG_153 10 (by decide))).trans (((hG_147 10 (by decide))).trans ((sOf_ne _ _ (by decide)).trans ((sOf_ne _ _ (by decide)).trans ((sOf_ne _ _ (by decide)).trans (hG_130 10 (by decide))))))
        have e162_11 : g91_153 11 = w41_16 11 := ((hG_153 11 (by decide))).trans (((hG_147 11 (by decide))).trans ((sOf_ne _ _ (by decide)).trans ((sOf_ne _ _ (by decide)).trans ((sOf_ne _ _ (by decide)).trans (hG_130 11 (by decide))))))
        have e163_9 : g91_153 9 = w41_16 9 := ((hG_153 9 (by decide))).trans (((hG_147 9 (by decide))).trans ((sOf_ne _ _ (by decide)).trans ((sOf_ne _ _ (by decide)).trans ((sOf_ne _ _ (by decide)).trans (hG_130 9 (by decide))))))
        have e164_22_1 : g91_153 22 1 = (g85_147 22) 1 := rd_ (hG_153 22 (by decide)) rfl
        have e165_16 : g91_153 16 = fup (w41_16 16) b z62_130 := ((hG_153 16 (by decide))).trans (((hG_147 16 (by decide))).trans ((sOf_ne _ _ (by decide)).trans ((sOf_ne _ _ (by decide)).trans (sOf_eq _ _ _))))
        have e166_17 : g91_153 17 = g85_147 17 := (hG_153 17 (by decide))
        have e167_18 : g91_153 18 = g85_147 18 := (hG_153 18 (by decide))
        have e168_23 : g91_153 23 = g85_147 23 := (hG_153 23 (by decide))
        have e169_17 : g91_153 17 = g85_147 17 := (hG_153 17 (by decide))
        have e170_18 : g91_153 18 = g85_147 18 := (hG_153 18 (by decide))
        have e171_22_1 : g91_153 22 1 = (g85_147 22) 1 := rd_ (hG_153 22 (by decide)) rfl
        have e172_16 : g91_153 16 = fup (w41_16 16) b z62_130 := ((hG_153 16 (by decide))).trans (((hG_147 16 (by decide))).trans ((sOf_ne _ _ (by decide)).trans ((sOf_ne _ _ (by decide)).trans (sOf_eq _ _ _))))
        have e173_17 : g91_153 17 = g85_147 17 := (hG_153 17 (by decide))
        have e174_18 : g91_153 18 = g85_147 18 := (hG_153 18 (by decide))
        have e175_23 : g91_153 23 = g85_147 23 := (hG_153 23 (by decide))
        have e176_20 : g91_153 20 = fup (w41_16 20) b 0 := ((hG_153 20 (by decide))).trans (((hG_147 20 (by decide))).trans ((sOf_ne _ _ (by decide)).trans (sOf_eq _ _ _)))
        have e177_21 : g91_153 21 = fup (w41_16 21) b 3 := ((hG_153 21 (by decide))).trans (((hG_147 21 (by decide))).trans (sOf_eq _ _ _))
        have e178_18 : g91_153 18 = g85_147 18 := (hG_153 18 (by decide))
        have e179_22_1 : g91_153 22 1 = (g85_147 22) 1 := rd_ (hG_153 22 (by decide)) rfl
        exact ih16 (b + 1) g91_153 hT_153 hF_153 (by first | omega | (simp [up, setR] <;> omega)) (by rewrite [e154_10, e155_11, e156_12, e157_13]; assumption) (by rewrite [e158_8_10]; exact kcn) (by rewrite [e159_12, e160_13]; exact hbw) (by rewrite [e161_10, e162_11, e163_9]; exact hnm) (by first | omega | (simp [up, setR] <;> omega)) (by rewrite [e164_22_1]; omega) (by rewrite [e165_16, e166_17, e167_18, e168_23]; exact CPQ_s hcp hca rfl cs_at85 cl_at85 ck_at85 cw_at85 pl_at62 (fun x y x1 x2 y1 y2 => hnm b x y (by omega) (by omega) x1 x2 y1 y2) ewb) (by rewrite [e169_17, e170_18, e171_22_1]; intro c c1 c2; rw [cs_at85]; by_cases e : c = b; (rw [e, fup_eq]; omega); (rw [fup_ne _ _ e, cl_at85 c e]; have k9 := hca c c1 (by omega); omega)) (by rewrite [e172_16, e173_17, e174_18, e175_23]; exact LSQ_s hlq hca rfl cs_at85 cl_at85 ck_at85 c7_at91 q16b hm9 hck9.1 (CWK_c hck9 e17b).2.1 c6_at91 c8_at91 (fun x y x1 x2 y1 y2 => hnm b x y (by omega) (by omega) x1 x2 y1 y2) ewb) (by rewrite [e176_20]; intro j j0 j1; by_cases e : j = b; (rw [e, fup_eq]); (rw [fup_ne _ _ e]; exact h20z j j0 (by omega))) (by rewrite [e177_21]; intro j j0 j1; by_cases e : j = b; (rw [e, fup_eq]); (rw [fup_ne _ _ e]; exact h21z j j0 (by omega))) (by rewrite [e178_18, e179_22_1]; rw [IS_s (by omega), IS_eq (g := w41_16 18) (fun k k0 k1 => cl_at85 k (by omega))]; omega) (by first | omega | (simp [up, setR] <;> omega))
  refine TT_sub [1, 2, 3, 4, 5, 0] rfl ?_
  have e180_10 : g35_15 10 = g13_3 10 := ((hG_15 10 (by decide))).trans (((hG_14 10 (by decide))).trans (hG_8 10 (by decide)))
  have e181_11 : g35_15 11 = g13_3 11 := ((hG_15 11 (by decide))).trans (((hG_14 11 (by decide))).trans (hG_8 11 (by decide)))
  have e182_12 : g35_15 12 = g13_3 12 := ((hG_15 12 (by decide))).trans (((hG_14 12 (by decide))).trans (hG_8 12 (by decide)))
  have e183_13 : g35_15 13 = g13_3 13 := ((hG_15 13 (by decide))).trans (((hG_14 13 (by decide))).trans (hG_8 13 (by decide)))
  have e184_8_10 : g35_15 8 10 = (g13_3 8) 10 := rd_ (((hG_15 8 (by decide))).trans (((hG_14 8 (by decide))).trans (hG_8 8 (by decide)))) rfl
  have e185_12 : g35_15 12 = g13_3 12 := ((hG_15 12 (by decide))).trans (((hG_14 12 (by decide))).trans (hG_8 12 (by decide)))
  have e186_13 : g35_15 13 = g13_3 13 := ((hG_15 13 (by decide))).trans (((hG_14 13 (by decide))).trans (hG_8 13 (by decide)))
  have e187_10 : g35_15 10 = g13_3 10 := ((hG_15 10 (by decide))).trans (((hG_14 10 (by decide))).trans (hG_8 10 (by decide)))
  have e188_11 : g35_15 11 = g13_3 11 := ((hG_15 11 (by decide))).trans (((hG_14 11 (by decide))).trans (hG_8 11 (by decide)))
  have e189_9 : g35_15 9 = g28_14 9 := (hG_15 9 (by decide))
  have e190_22_1 : g35_15 22 1 = (g35_15 22) 1 := rfl
  have e191_16 : g35_15 16 = h 16 := ((hG_15 16 (by decide))).trans (((hG_14 16 (by decide))).trans (((hG_8 16 (by decide))).trans (hG_3 16 (by decide))))
  have e192_17 : g35_15 17 = h 17 := ((hG_15 17 (by decide))).trans (((hG_14 17 (by decide))).trans (((hG_8 17 (by decide))).trans (hG_3 17 (by decide))))
  have e193_18 : g35_15 18 = h 18 := ((hG_15 18 (by decide))).trans (((hG_14 18 (by decide))).trans (((hG_8 18 (by decide))).trans (hG_3 18 (by decide))))
  have e194_23 : g35_15 23 = h 23 := ((hG_15 23 (by decide))).trans (((hG_14 23 (by decide))).trans (((hG_8 23 (by decide))).trans (hG_3 23 (by decide))))
  have e195_17 : g35_15 17 = h 17 := ((hG_15 17 (by decide))).trans (((hG_14 17 (by decide))).trans (((hG_8 17 (by decide))).trans (hG_3 17 (by decide))))
  have e196_18 : g35_15 18 = h 18 := ((hG_15 18 (by decide))).trans (((hG_14 18 (by decide))).trans (((hG_8 18 (by decide))).trans (hG_3 18 (by decide))))
  have e197_22_1 : g35_15 22 1 = (g35_15 22) 1 := rfl
  have e198_16 : g35_15 16 = h 16 := ((hG_15 16 (by decide))).trans (((hG_14 16 (by decide))).trans (((hG_8 16 (by decide))).trans (hG_3 16 (by decide))))
  have e199_17 : g35_15 17 = h 17 := ((hG_15 17 (by decide))).trans (((hG_14 17 (by decide))).trans (((hG_8 17 (by decide))).trans (hG_3 17 (by decide))))
  have e200_18 : g35_15 18 = h 18 := ((hG_15 18 (by decide))).trans (((hG_14 18 (by decide))).trans (((hG_8 18 (by decide))).trans (hG_3 18 (by decide))))
  have e201_19 : g35_15 19 = h 19 := ((hG_15 19 (by decide))).trans (((hG_14 19 (by decide))).trans (((hG_8 19 (by decide))).trans (hG_3 19 (by decide))))
  have e202_23 : g35_15 23 = h 23 := ((hG_15 23 (by decide))).trans (((hG_14 23 (by decide))).trans (((hG_8 23 (by decide))).trans (hG_3 23 (by decide))))
  have e203_20 : g35_15 20 = h 20 := ((hG_15 20 (by decide))).trans (((hG_14 20 (by decide))).trans (((hG_8 20 (by decide))).trans (hG_3 20 (by decide))))
  have e204_21 : g35_15 21 = h 21 := ((hG_15 21 (by decide))).trans (((hG_14 21 (by decide))).trans (((hG_8 21 (by decide))).trans (hG_3 21 (by decide))))
  have e205_18 : g35_15 18 = h 18 := ((hG_15 18 (by decide))).trans (((hG_14 18 (by decide))).trans (((hG_8 18 (by decide))).trans (hG_3 18 (by decide))))
  have e206_22_1 : g35_15 22 1 = (g35_15 22) 1 := rfl
  exact L41_16 ((((10 : Int) - 0).toNat) + 1) 0 g35_15 hT_15 hF_15 (by first | omega | (simp [up, setR] <;> omega)) (by rewrite [e180_10, e181_11, e182_12, e183_13]; assumption) (by rewrite [e184_8_10]; exact k1_at13.2.2.2) (by rewrite [e185_12, e186_13]; intro b g1 g2; have k9 := lay_at13 b g1 g2; exact ⟨k9.2.2.1, k9.2.2.2⟩) (by rewrite [e187_10, e188_11, e189_9]; intro b x2 y2 g1 g2 g3 g4 g5 g6; have k9 := lay_at13 b g1 g2; have f1 := CXr hsd.1 hsd.2 hl b ⟨g1, g2⟩; rw [k9.1, k9.2.1]; have k8 := p1_at28 ((CY (h 1 2) l b + y2) * 8 + CX (h 1 1) l b + x2) (by omega) (by omega) (by rw [k1_at13.1]; exact xLT hsd.1 hsd.2 hl ⟨g1, g2⟩ ⟨g3, g4⟩ ⟨g5, g6⟩) (by rw [k1_at13.2.1]; exact yLT hsd.1 hsd.2 hl ⟨g1, g2⟩ ⟨g3, g4⟩ ⟨g5, g6⟩); rw [k1_at13.1, k1_at13.2.1, k1_at13.2.2.1] at k8; rw [k8, show (CY (h 1 2) l b + y2) * 8 + CX (h 1 1) l b + x2 = 8 * CY (h 1 2) l b + CX (h 1 1) l b + 8 * y2 + x2 by omega]) (by first | omega | (simp [up, setR] <;> omega)) (by rewrite [e190_22_1]; have i0 : IS (AR (h 1 1) (h 1 2) l) 0 = 0 := rfl; omega) (by rewrite [e191_16, e192_17, e193_18, e194_23]; intro c c1 c2; exfalso; omega) (by rewrite [e195_17, e196_18, e197_22_1]; intro c c1 c2; exfalso; omega) (by rewrite [e198_16, e199_17, e200_18, e201_19, e202_23]; intro c c1 c2; exfalso; omega) (by rewrite [e203_20]; intro j j0 j1; exfalso; omega) (by rewrite [e204_21]; intro j j0 j1; exfalso; omega) (by rewrite [e205_18, e206_22_1]; have i0 : IS (h 18) 0 = 0 := rfl; omega) (Nat.lt_succ_self _)
set_option maxRecDepth 20000 in
theorem s_cencode_s (l n : Int) (h : Hp_) (hT : TY h) (hl : -2147483648 ≤ l ∧ l ≤ 2147483647) (hn : -2147483648 ≤ n ∧ n ≤ 2147483647) (hbd : BDQ (h 10) (h 12) (h 11) (h 13)) (hsd : (1 ≤ (h 1 1) ∧ (h 1 1) ≤ 8) ∧ (1 ≤ (h 1 2) ∧ (h 1 2) ≤ 8)) : CtrB yX11_encode cX11_encode 3 (some .int) rmB ly 1 6 [vR 0, vI l, vI n] h (fun r h' => (TY h' ∧ FR [5, 6, 8, 9, 10, 11, 12, 13, 14, 15, 16, 17, 18, 19, 20, 21, 22, 23, 24, 25, 26, 27, 28, 29, 30, 31, 32, 33, 34, 36, 37, 38, 39, 41, 42, 43] h h') ∧ ∃ z : Int, r = some (vI z) ∧ (0 ≤ z ∧ z ≤ 1024) ∧ (BDQ (h' 10) (h' 12) (h' 11) (h' 13)) ∧ ((0 ≤ l ∧ l ≤ 3) ∧ (1 ≤ n ∧ n ≤ 3)) ∧ ((h' 8 10) = 3 * l + 1) ∧ (∀ b : Int, 0 ≤ b → b < 3 * l + 1 → (h' 12) b = BW (h 1 1) l b ∧ (h' 13) b = BH (h 1 2) l b) ∧ (∀ b x2 y2 : Int, 0 ≤ b → b < 3 * l + 1 → 0 ≤ x2 → x2 < BW (h 1 1) l b → 0 ≤ y2 → y2 < BH (h 1 2) l b → (h' 9) (((h' 11) b + y2) * 8 + (h' 10) b + x2) = LE (h 1 1) (h 1 2) (fun i => (h 2) i - 128) l (8 * CY (h 1 2) l b + CX (h 1 1) l b + 8 * y2 + x2)) ∧ (CPQ (h 1 1) (h 1 2) (fun i => (h 2) i - 128) l (3 * l + 1) (h' 16) (h' 23) (h' 17) (h' 18)) ∧ (∀ c : Int, 0 ≤ c → c < (3 * l + 1) → 0 ≤ (h' 17) c ∧ (h' 17) c + (h' 18) c ≤ (h' 22 1)) ∧ (LSQ (h 1 1) (h 1 2) (fun i => (h 2) i - 128) l (3 * l + 1) (h' 16) (h' 23) (h' 17) (h' 18) (h' 19)) ∧ (CBR (h' 5 1) (h' 5 2) (h' 6) (stS ((h' 16), (h' 19), (h' 12), (h' 13), fun c i => (h' 23) ((h' 17) c + i)) n l n.toNat (y0S (h 1 1) (h 1 2) l n)).1 ∧ (0 ≤ (stS ((h' 16), (h' 19), (h' 12), (h' 13), fun c i => (h' 23) ((h' 17) c + i)) n l n.toNat (y0S (h 1 1) (h 1 2) l n)).1.1 ∧ (stS ((h' 16), (h' 19), (h' 12), (h' 13), fun c i => (h' 23) ((h' 17) c + i)) n l n.toNat (y0S (h 1 1) (h 1 2) l n)).1.2.1 = 0)) ∧ (LQ (h' 16) (h' 18) (h' 19) (3 * l + 1)) ∧ (z = (h' 5 1))) (fun h' => (TY h' ∧ FR [5, 6, 8, 9, 10, 11, 12, 13, 14, 15, 16, 17, 18, 19, 20, 21, 22, 23, 24, 25, 26, 27, 28, 29, 30, 31, 32, 33, 34, 36, 37, 38, 39, 41, 42, 43] h h') ∧ (BDQ (h' 10) (h' 12) (h' 11) (h' 13)) ∧ (¬((0 ≤ l ∧ l ≤ 3) ∧ (1 ≤ n ∧ n ≤ 3))) ∧ ((h' 8) = (h 8)) ∧ ((h' 9) = (h 9) ∧ (h' 10) = (h 10) ∧ (h' 11) = (h 11)) ∧ ((h' 12) = (h 12) ∧ (h' 13) = (h 13)) ∧ ((h' 16) = (h 16) ∧ (h' 17) = (h 17) ∧ (h' 18) = (h 18)) ∧ ((h' 22) = (h 22) ∧ (h' 23) = (h 23)) ∧ ((h' 19) = (h 19)) ∧ ((h' 5) = (h 5) ∧ (h' 6) = (h 6))) := by
  refine CtrB_of (by decide) (Nat.le_of_ble_eq_true rfl) ⟨by decide, by decide⟩ (fun K hK hQ => ?_)
  show TT K ly 0 0 0 [(0, vR 0), (1, vI l), (2, vI n)] [] h
  have hF : FR [5, 6, 8, 9, 10, 11, 12, 13, 14, 15, 16, 17, 18, 19, 20, 21, 22, 23, 24, 25, 26, 27, 28, 29, 30, 31, 32, 33, 34, 36, 37, 38, 39, 41, 42, 43] h h := FR_rf _ _
  refine TT_iload_n hK rfl 1 rfl dX11_encode_0 ?_
  refine iv_X11_69 hK (s_areLevels_x l h hT (by first | omega | (simp [up, setR] <;> omega))) ⟨by decide, by decide⟩ (by decide) rfl rfl (Nat.le_of_ble_eq_true rfl) ⟨by decide, by decide⟩ dX11_encode_1 ?_
  intro r9 g1_1 hp9
  obtain ⟨⟨hT_1, hG_1⟩, z1_1, hr9, hz_1, p1_1, p2_1⟩ := hp9
  rw [hr9]
  have hF_1 : FR [5, 6, 8, 9, 10, 11, 12, 13, 14, 15, 16, 17, 18, 19, 20, 21, 22, 23, 24, 25, 26, 27, 28, 29, 30, 31, 32, 33, 34, 36, 37, 38, 39, 41, 42, 43] h g1_1 := FR_tr hF hG_1 (by decide)
  show TT K ly 0 0 4 [(0, vR 0), (1, vI l), (2, vI n)] [vI z1_1] g1_1
  refine TT_if_eq hK (tgt := 14) (irm (by omega) (by omega)) dX11_encode_4 (by decide) (fun hb4_2 => ?_) (fun hb4_2 => ?_)
  · have e3_10 : g1_1 10 = h 10 := (hG_1 10 (by decide))
    have e4_11 : g1_1 11 = h 11 := (hG_1 11 (by decide))
    have e5_12 : g1_1 12 = h 12 := (hG_1 12 (by decide))
    have e6_13 : g1_1 13 = h 13 := (hG_1 13 (by decide))
    have e7_8 : g1_1 8 = h 8 := (hG_1 8 (by decide))
    have e8_10 : g1_1 10 = h 10 := (hG_1 10 (by decide))
    have e9_11 : g1_1 11 = h 11 := (hG_1 11 (by decide))
    have e10_9 : g1_1 9 = h 9 := (hG_1 9 (by decide))
    have e11_12 : g1_1 12 = h 12 := (hG_1 12 (by decide))
    have e12_13 : g1_1 13 = h 13 := (hG_1 13 (by decide))
    have e13_16 : g1_1 16 = h 16 := (hG_1 16 (by decide))
    have e14_17 : g1_1 17 = h 17 := (hG_1 17 (by decide))
    have e15_18 : g1_1 18 = h 18 := (hG_1 18 (by decide))
    have e16_22 : g1_1 22 = h 22 := (hG_1 22 (by decide))
    have e17_23 : g1_1 23 = h 23 := (hG_1 23 (by decide))
    have e18_19 : g1_1 19 = h 19 := (hG_1 19 (by decide))
    have e19_5 : g1_1 5 = h 5 := (hG_1 5 (by decide))
    have e20_6 : g1_1 6 = h 6 := (hG_1 6 (by decide))
    exact TT_throwB hK hQ 2 (by decide) ⟨⟨hT_1, hF_1⟩, (by rewrite [e3_10, e4_11, e5_12, e6_13]; first | assumption | exact hbd), (by omega), (by rewrite [e7_8]; rfl), (by rewrite [e8_10, e9_11, e10_9]; exact ⟨rfl, rfl, rfl⟩), (by rewrite [e11_12, e12_13]; exact ⟨rfl, rfl⟩), (by rewrite [e13_16, e14_17, e15_18]; exact ⟨rfl, rfl, rfl⟩), (by rewrite [e16_22, e17_23]; exact ⟨rfl, rfl⟩), (by rewrite [e18_19]; rfl), (by rewrite [e19_5, e20_6]; exact ⟨rfl, rfl⟩)⟩ (Nat.le_of_ble_eq_true rfl) ⟨by decide, by decide⟩ dX11_encode_14 dX11_encode_17 dX11_encode_18 dX11_encode_20 dX11_encode_23
  · refine TT_iload_n hK rfl 2 rfl dX11_encode_7 ?_
    refine iv_X11_72 hK (s_areLayers_x n g1_1 hT_1 (by first | omega | (simp [up, setR] <;> omega))) ⟨by decide, by decide⟩ (by decide) rfl rfl (Nat.le_of_ble_eq_true rfl) ⟨by decide, by decide⟩ dX11_encode_8 ?_
    intro r9 g8_21 hp9
    obtain ⟨⟨hT_21, hG_21⟩, z8_21, hr9, hz_21, p1_21, p2_21⟩ := hp9
    rw [hr9]
    have hF_21 : FR [5, 6, 8, 9, 10, 11, 12, 13, 14, 15, 16, 17, 18, 19, 20, 21, 22, 23, 24, 25, 26, 27, 28, 29, 30, 31, 32, 33, 34, 36, 37, 38, 39, 41, 42, 43] h g8_21 := FR_tr hF_1 hG_21 (by decide)
    show TT K ly 0 0 11 [(0, vR 0), (1, vI l), (2, vI n)] [vI z8_21] g8_21
    refine TT_if_ne hK (tgt := 24) (irm (by omega) (by omega)) dX11_encode_11 (by decide) (fun hb11_22 => ?_) (fun hb11_22 => ?_)
    · refine TT_aload_n hK rfl 0 rfl dX11_encode_24 ?_
      refine gf_X11_29 hK (by decide) rfl (q := 7) rfl rfl dX11_encode_25 ?_
      refine TT_aload_n hK rfl 0 rfl dX11_encode_28 ?_
      refine gf_X11_10 hK (by decide) rfl (q := 1) rfl rfl dX11_encode_29 ?_
      refine TT_iload_n hK rfl 1 rfl dX11_encode_32 ?_
      refine TT_iload_n hK rfl 2 rfl dX11_encode_33 ?_
      refine TT_aload_n hK rfl 0 rfl dX11_encode_34 ?_
      refine gf_X11_22 hK (by decide) rfl (q := 5) rfl rfl dX11_encode_35 ?_
      have e23_10 : g8_21 10 = h 10 := ((hG_21 10 (by decide))).trans (hG_1 10 (by decide))
      have e24_11 : g8_21 11 = h 11 := ((hG_21 11 (by decide))).trans (hG_1 11 (by decide))
      have e25_12 : g8_21 12 = h 12 := ((hG_21 12 (by decide))).trans (hG_1 12 (by decide))
      have e26_13 : g8_21 13 = h 13 := ((hG_21 13 (by decide))).trans (hG_1 13 (by decide))
      have e27_1_1 : g8_21 1 1 = (h 1) 1 := rd_ (((hG_21 1 (by decide))).trans (hG_1 1 (by decide))) rfl
      have e28_1_2 : g8_21 1 2 = (h 1) 2 := rd_ (((hG_21 1 (by decide))).trans (hG_1 1 (by decide))) rfl
      refine iv_X11_77 hK (s_pack_s l n g8_21 hT_21 (by first | omega | (simp [up, setR] <;> omega)) (by first | omega | (simp [up, setR] <;> omega)) (by rewrite [e23_10, e24_11, e25_12, e26_13]; first | assumption | exact hbd) (by rewrite [e27_1_1, e28_1_2]; first | omega | (simp [up, setR] <;> omega))) (by decide) rfl ⟨by decide, by decide⟩ (by decide) rfl rfl (Nat.le_of_ble_eq_true rfl) ⟨by decide, by decide⟩ dX11_encode_38 ?_
      intro r9 g38_29 hp9
      obtain ⟨⟨hT_29, hG_29⟩, hr9, p1_29, c1_29, c2_29, c3_29, d1_29, d2_29, d3_29, st_29, lq_29⟩ := hp9
      rw [hr9]
      have hF_29 : FR [5, 6, 8, 9, 10, 11, 12, 13, 14, 15, 16, 17, 18, 19, 20, 21, 22, 23, 24, 25, 26, 27, 28, 29, 30, 31, 32, 33, 34, 36, 37, 38, 39, 41, 42, 43] h g38_29 := FR_tr hF_21 hG_29 (by decide)
      rw [show g8_21 1 1 = (h 1) 1 from rd_ (((hG_21 1 (by decide))).trans (hG_1 1 (by decide))) rfl] at c2_29
      rw [show g8_21 1 2 = (h 1) 2 from rd_ (((hG_21 1 (by decide))).trans (hG_1 1 (by decide))) rfl] at c2_29
      rw [show g8_21 1 1 = (h 1) 1 from rd_ (((hG_21 1 (by decide))).trans (hG_1 1 (by decide))) rfl] at c3_29
      rw [show g8_21 1 2 = (h 1) 2 from rd_ (((hG_21 1 (by decide))).trans (hG_1 1 (by decide))) rfl] at c3_29
      rw [show g8_21 2 = h 2 from ((hG_21 2 (by decide))).trans (hG_1 2 (by decide))] at c3_29
      rw [show g8_21 1 1 = (h 1) 1 from rd_ (((hG_21 1 (by decide))).trans (hG_1 1 (by decide))) rfl] at d1_29
      rw [show g8_21 1 2 = (h 1) 2 from rd_ (((hG_21 1 (by decide))).trans (hG_1 1 (by decide))) rfl] at d1_29
      rw [show g8_21 2 = h 2 from ((hG_21 2 (by decide))).trans (hG_1 2 (by decide))] at d1_29
      rw [show g8_21 1 1 = (h 1) 1 from rd_ (((hG_21 1 (by decide))).trans (hG_1 1 (by decide))) rfl] at d3_29
      rw [show g8_21 1 2 = (h 1) 2 from rd_ (((hG_21 1 (by decide))).trans (hG_1 1 (by decide))) rfl] at d3_29
      rw [show g8_21 2 = h 2 from ((hG_21 2 (by decide))).trans (hG_1 2 (by decide))] at d3_29
      rw [show g8_21 1 1 = (h 1) 1 from rd_ (((hG_21 1 (by decide))).trans (hG_1 1 (by decide))) rfl] at st_29
      rw [show g8_21 1 2 = (h 1) 2 from rd_ (((hG_21 1 (by decide))).trans (hG_1 1 (by decide))) rfl] at st_29
      have c1_at38 := c1_29
      have c2_at38 := c2_29
      have c3_at38 := c3_29
      have d1_at38 := d1_29
      have d2_at38 := d2_29
      have d3_at38 := d3_29
      have st_at38 := st_29
      have lq_at38 := lq_29
      show TT K ly 0 0 41 [(0, vR 0), (1, vI l), (2, vI n)] [] g38_29
      refine TT_aload_n hK rfl 0 rfl dX11_encode_41 ?_
      refine gf_X11_22 hK (by decide) rfl (q := 5) rfl rfl dX11_encode_42 ?_
      refine iv_X11_81 hK (s_len5_e g38_29 hT_29 ) (by decide) rfl ⟨by decide, by decide⟩ (by decide) rfl rfl (Nat.le_of_ble_eq_true rfl) ⟨by decide, by decide⟩ dX11_encode_45 ?_
      intro r9 g45_30 hp9
      obtain ⟨⟨hT_30, hG_30⟩, z45_30, hr9, hz_30, e_30⟩ := hp9
      rw [hr9]
      have hF_30 : FR [5, 6, 8, 9, 10, 11, 12, 13, 14, 15, 16, 17, 18, 19, 20, 21, 22, 23, 24, 25, 26, 27, 28, 29, 30, 31, 32, 33, 34, 36, 37, 38, 39, 41, 42, 43] h g45_30 := FR_tr hF_29 hG_30 (by decide)
      rw [show g38_29 5 1 = (g38_29 5) 1 from rfl] at e_30
      have e_at45 := e_30
      show TT K ly 0 0 48 [(0, vR 0), (1, vI l), (2, vI n)] [vI z45_30] g45_30
      refine TT_widen (kc' := 1) (ks' := 6) (by decide) (by decide) ?_
      refine TT_iretB hK hQ ?_ dX11_encode_48
      have e31_10 : g45_30 10 = g38_29 10 := (hG_30 10 (by decide))
      have e32_11 : g45_30 11 = g38_29 11 := (hG_30 11 (by decide))
      have e33_12 : g45_30 12 = g38_29 12 := (hG_30 12 (by decide))
      have e34_13 : g45_30 13 = g38_29 13 := (hG_30 13 (by decide))
      have e35_8_10 : g45_30 8 10 = (g38_29 8) 10 := rd_ (hG_30 8 (by decide)) rfl
      have e36_12 : g45_30 12 = g38_29 12 := (hG_30 12 (by decide))
      have e37_13 : g45_30 13 = g38_29 13 := (hG_30 13 (by decide))
      have e38_10 : g45_30 10 = g38_29 10 := (hG_30 10 (by decide))
      have e39_11 : g45_30 11 = g38_29 11 := (hG_30 11 (by decide))
      have e40_9 : g45_30 9 = g38_29 9 := (hG_30 9 (by decide))
      have e41_16 : g45_30 16 = g38_29 16 := (hG_30 16 (by decide))
      have e42_17 : g45_30 17 = g38_29 17 := (hG_30 17 (by decide))
      have e43_18 : g45_30 18 = g38_29 18 := (hG_30 18 (by decide))
      have e44_23 : g45_30 23 = g38_29 23 := (hG_30 23 (by decide))
      have e45_17 : g45_30 17 = g38_29 17 := (hG_30 17 (by decide))
      have e46_18 : g45_30 18 = g38_29 18 := (hG_30 18 (by decide))
      have e47_22_1 : g45_30 22 1 = (g38_29 22) 1 := rd_ (hG_30 22 (by decide)) rfl
      have e48_16 : g45_30 16 = g38_29 16 := (hG_30 16 (by decide))
      have e49_17 : g45_30 17 = g38_29 17 := (hG_30 17 (by decide))
      have e50_18 : g45_30 18 = g38_29 18 := (hG_30 18 (by decide))
      have e51_19 : g45_30 19 = g38_29 19 := (hG_30 19 (by decide))
      have e52_23 : g45_30 23 = g38_29 23 := (hG_30 23 (by decide))
      have e53_12 : g45_30 12 = g38_29 12 := (hG_30 12 (by decide))
      have e54_13 : g45_30 13 = g38_29 13 := (hG_30 13 (by decide))
      have e55_16 : g45_30 16 = g38_29 16 := (hG_30 16 (by decide))
      have e56_17 : g45_30 17 = g38_29 17 := (hG_30 17 (by decide))
      have e57_19 : g45_30 19 = g38_29 19 := (hG_30 19 (by decide))
      have e58_23 : g45_30 23 = g38_29 23 := (hG_30 23 (by decide))
      have e59_5_1 : g45_30 5 1 = (g38_29 5) 1 := rd_ (hG_30 5 (by decide)) rfl
      have e60_5_2 : g45_30 5 2 = (g38_29 5) 2 := rd_ (hG_30 5 (by decide)) rfl
      have e61_6 : g45_30 6 = g38_29 6 := (hG_30 6 (by decide))
      have e62_16 : g45_30 16 = g38_29 16 := (hG_30 16 (by decide))
      have e63_18 : g45_30 18 = g38_29 18 := (hG_30 18 (by decide))
      have e64_19 : g45_30 19 = g38_29 19 := (hG_30 19 (by decide))
      have e65_5_1 : g45_30 5 1 = (g38_29 5) 1 := rd_ (hG_30 5 (by decide)) rfl
      exact ⟨⟨hT_30, hF_30⟩, z45_30, rfl, (by omega), (by rewrite [e31_10, e32_11, e33_12, e34_13]; first | assumption | exact hbd), (by omega), (by rewrite [e35_8_10]; exact c1_at38), (by rewrite [e36_12, e37_13]; exact c2_at38), (by rewrite [e38_10, e39_11, e40_9]; exact c3_at38), (by rewrite [e41_16, e42_17, e43_18, e44_23]; exact d1_at38), (by rewrite [e45_17, e46_18, e47_22_1]; exact d2_at38), (by rewrite [e48_16, e49_17, e50_18, e51_19, e52_23]; exact d3_at38), (by rewrite [e53_12, e54_13, e55_16, e56_17, e57_19, e58_23, e59_5_1, e60_5_2, e61_6]; exact st_at38), (by rewrite [e62_16, e63_18, e64_19]; exact lq_at38), (by rewrite [e65_5_1]; exact e_at45)⟩
    · have e66_10 : g8_21 10 = h 10 := ((hG_21 10 (by decide))).trans (hG_1 10 (by decide))
      have e67_11 : g8_21 11 = h 11 := ((hG_21 11 (by decide))).trans (hG_1 11 (by decide))
      have e68_12 : g8_21 12 = h 12 := ((hG_21 12 (by decide))).trans (hG_1 12 (by decide))
      have e69_13 : g8_21 13 = h 13 := ((hG_21 13 (by decide))).trans (hG_1 13 (by decide))
      have e70_8 : g8_21 8 = h 8 := ((hG_21 8 (by decide))).trans (hG_1 8 (by decide))
      have e71_10 : g8_21 10 = h 10 := ((hG_21 10 (by decide))).trans (hG_1 10 (by decide))
      have e72_11 : g8_21 11 = h 11 := ((hG_21 11 (by decide))).trans (hG_1 11 (by decide))
      have e73_9 : g8_21 9 = h 9 := ((hG_21 9 (by decide))).trans (hG_1 9 (by decide))
      have e74_12 : g8_21 12 = h 12 := ((hG_21 12 (by decide))).trans (hG_1 12 (by decide))
      have e75_13 : g8_21 13 = h 13 := ((hG_21 13 (by decide))).trans (hG_1 13 (by decide))
      have e76_16 : g8_21 16 = h 16 := ((hG_21 16 (by decide))).trans (hG_1 16 (by decide))
      have e77_17 : g8_21 17 = h 17 := ((hG_21 17 (by decide))).trans (hG_1 17 (by decide))
      have e78_18 : g8_21 18 = h 18 := ((hG_21 18 (by decide))).trans (hG_1 18 (by decide))
      have e79_22 : g8_21 22 = h 22 := ((hG_21 22 (by decide))).trans (hG_1 22 (by decide))
      have e80_23 : g8_21 23 = h 23 := ((hG_21 23 (by decide))).trans (hG_1 23 (by decide))
      have e81_19 : g8_21 19 = h 19 := ((hG_21 19 (by decide))).trans (hG_1 19 (by decide))
      have e82_5 : g8_21 5 = h 5 := ((hG_21 5 (by decide))).trans (hG_1 5 (by decide))
      have e83_6 : g8_21 6 = h 6 := ((hG_21 6 (by decide))).trans (hG_1 6 (by decide))
      exact TT_throwB hK hQ 2 (by decide) ⟨⟨hT_21, hF_21⟩, (by rewrite [e66_10, e67_11, e68_12, e69_13]; first | assumption | exact hbd), (by omega), (by rewrite [e70_8]; rfl), (by rewrite [e71_10, e72_11, e73_9]; exact ⟨rfl, rfl, rfl⟩), (by rewrite [e74_12, e75_13]; exact ⟨rfl, rfl⟩), (by rewrite [e76_16, e77_17, e78_18]; exact ⟨rfl, rfl, rfl⟩), (by rewrite [e79_22, e80_23]; exact ⟨rfl, rfl⟩), (by rewrite [e81_19]; rfl), (by rewrite [e82_5, e83_6]; exact ⟨rfl, rfl⟩)⟩ (Nat.le_of_ble_eq_true rfl) ⟨by decide, by decide⟩ dX11_encode_14 dX11_encode_17 dX11_encode_18 dX11_encode_20 dX11_encode_23

/-! a head, a packet, all packets -/
theorem c1_0 : ¬ (1 : Int) = 0 := by decide
theorem cm_0 : ¬ (-1 : Int) = 0 := by decide
theorem hbS_r {o : Int → Int} {e p pl tk w : Int} (hp : 0 ≤ p ∧ p ≤ e) (hl : 0 ≤ pl ∧ pl ≤ 12) (ht : 0 ≤ tk) (hw : 3 ≤ w) (h0 : (hbS o e p pl tk w).1 = 0) :
    (((hbS o e p pl tk w).2.1 = 0 ∧ (hbS o e p pl tk w).2.2.1 = 0 ∧ (hbS o e p pl tk w).2.2.2.2.1 = pl) ∨ (1 ≤ (hbS o e p pl tk w).2.1 ∧ tk + (hbS o e p pl tk w).2.1 ≤ 34)) ∧ (0 ≤ (hbS o e p pl tk w).2.2.1 ∧ (hbS o e p pl tk w).2.2.1 ≤ 1048576) ∧ (p ≤ (hbS o e p pl tk w).2.2.2.1 ∧ (hbS o e p pl tk w).2.2.2.1 ≤ e) ∧ (0 ≤ (hbS o e p pl tk w).2.2.2.2.1 ∧ (hbS o e p pl tk w).2.2.2.2.1 ≤ 12) ∧ (w ≤ (hbS o e p pl tk w).2.2.2.2.2 ∧ (hbS o e p pl tk w).2.2.2.2.2 ≤ w + ((hbS o e p pl tk w).2.2.2.1 - p)) := by
  have key : ∀ q x : Int, p ≤ q → q ≤ e → 0 ≤ x ∧ x ≤ 12 → (hcS o e q x tk w).1 = 0 → (1 ≤ (hcS o e q x tk w).2.1 ∧ tk + (hcS o e q x tk w).2.1 ≤ 34) ∧ (0 ≤ (hcS o e q x tk w).2.2.1 ∧ (hcS o e q x tk w).2.2.1 ≤ 1048576) ∧ (p ≤ (hcS o e q x tk w).2.2.2.1 ∧ (hcS o e q x tk w).2.2.2.1 ≤ e) ∧ (0 ≤ (hcS o e q x tk w).2.2.2.2.1 ∧ (hcS o e q x tk w).2.2.2.2.1 ≤ 12) ∧ (w ≤ (hcS o e q x tk w).2.2.2.2.2 ∧ (hcS o e q x tk w).2.2.2.2.2 ≤ w + ((hcS o e q x tk w).2.2.2.1 - p)) := by
    intro q x q0 q1 hx
    have c := ctS_r o e q
    have px := pas_34 hx
    unfold hcS
    by_cases c1 : (ctS o e q).1 < 0
    · rw [if_pos c1]
      intro z
      exact absurd z c1_0
    rw [if_neg c1]
    by_cases c2 : pas x < tk + (ctS o e q).1
    · rw [if_pos c2]
      intro z
      exact absurd z cm_0
    rw [if_neg c2]
    unfold hlS
    have g := gnS_r (o := o) (e := e) (p := (ctS o e q).2) (by omega)
    have gp : (ctS o e q).2 + gnS o e (ctS o e q).2 ≤ gpS o e (ctS o e q).2 ∧ gpS o e (ctS o e q).2 ≤ e := by
      unfold gpS
      split <;> omega
    have b := bl_n (n := (ctS o e q).1) (by omega)
    have t := tbS_r o (gpS o e (ctS o e q).2) (w + gnS o e (ctS o e q).2 + (bl (ctS o e q).1 - 1)).toNat
    by_cases c3 : e - gpS o e (ctS o e q).2 < w + gnS o e (ctS o e q).2 + (bl (ctS o e q).1 - 1)
    · rw [if_pos c3]
      intro z
      exact absurd z c1_0
    rw [if_neg c3]
    intro _
    dsimp only
    omega
  have t4 := tb_24 o (p + 1)
  unfold hbS at h0 ⊢
  by_cases c1 : e - p < 1
  · rw [if_pos c1] at h0
    exact absurd h0 c1_0
  rw [if_neg c1] at h0 ⊢
  by_cases c2 : tbS o p 1 ≠ 1
  · rw [if_pos c2]
    dsimp only
    omega
  rw [if_neg c2] at h0 ⊢
  by_cases c3 : tk = 0
  · rw [if_pos c3] at h0 ⊢
    by_cases c4 : e - (p + 1) < 4
    · rw [if_pos c4] at h0
      exact absurd h0 c1_0
    rw [if_neg c4] at h0 ⊢
    by_cases c5 : tbS o (p + 1) 4 = 0 ∨ 12 < tbS o (p + 1) 4
    · rw [if_pos c5] at h0
      exact absurd h0 cm_0
    rw [if_neg c5] at h0 ⊢
    have k := key (p + 5) (tbS o (p + 1) 4) (by omega) (by omega) (by omega) h0
    exact ⟨Or.inr k.1, k.2⟩
  · rw [if_neg c3] at h0 ⊢
    have k := key (p + 1) pl (by omega) (by omega) hl h0
    exact ⟨Or.inr k.1, k.2⟩
theorem hbS_pl {o : Int → Int} {e p pl pl' tk w : Int} (hz : tk = 0 ∨ pl = pl') : ((hbS o e p pl tk w).1 = (hbS o e p pl' tk w).1 ∧ (hbS o e p pl tk w).2.1 = (hbS o e p pl' tk w).2.1 ∧ (hbS o e p pl tk w).2.2.1 = (hbS o e p pl' tk w).2.2.1 ∧ (hbS o e p pl tk w).2.2.2.1 = (hbS o e p pl' tk w).2.2.2.1 ∧ (hbS o e p pl tk w).2.2.2.2.2 = (hbS o e p pl' tk w).2.2.2.2.2) ∧ (tk + (hbS o e p pl tk w).2.1 ≠ 0 → (hbS o e p pl tk w).1 = 0 → (hbS o e p pl tk w).2.2.2.2.1 = (hbS o e p pl' tk w).2.2.2.2.1) := by
  rcases hz with z | z
  · unfold hbS
    by_cases c1 : e - p < 1
    · rw [if_pos c1, if_pos c1]
      exact ⟨⟨rfl, rfl, rfl, rfl, rfl⟩, fun _ q => absurd q c1_0⟩
    rw [if_neg c1, if_neg c1]
    by_cases c2 : tbS o p 1 ≠ 1
    · rw [if_pos c2, if_pos c2]
      exact ⟨⟨rfl, rfl, rfl, rfl, rfl⟩, fun q _ => absurd (show tk + 0 = 0 by omega) q⟩
    rw [if_neg c2, if_neg c2, if_pos z, if_pos z]
    by_cases c4 : e - (p + 1) < 4
    · rw [if_pos c4, if_pos c4]
      exact ⟨⟨rfl, rfl, rfl, rfl, rfl⟩, fun _ q => absurd q c1_0⟩
    rw [if_neg c4, if_neg c4]
    by_cases c5 : tbS o (p + 1) 4 = 0 ∨ 12 < tbS o (p + 1) 4
    · rw [if_pos c5, if_pos c5]
      exact ⟨⟨rfl, rfl, rfl, rfl, rfl⟩, fun _ q => absurd q cm_0⟩
    rw [if_neg c5, if_neg c5]
    exact ⟨⟨rfl, rfl, rfl, rfl, rfl⟩, fun _ _ => rfl⟩
  · rw [z]
    exact ⟨⟨rfl, rfl, rfl, rfl, rfl⟩, fun _ _ => rfl⟩
/-- the heads of a packet: code, place, planes, widths, passes gained, bytes -/
abbrev HS_ := Int × Int × (Int → Int) × (Int → Int) × (Int → Int) × (Int → Int)
def hsR (b : Int) (R : BR_) (s : HS_) : HS_ := (R.1, R.2.2.2.1, fup s.2.2.1 b R.2.2.2.2.1, fup s.2.2.2.1 b R.2.2.2.2.2, fup s.2.2.2.2.1 b R.2.1, fup s.2.2.2.2.2 b R.2.2.1)
def hs1S (o : Int → Int) (e : Int) (wd hd T : Int → Int) (b : Int) (s : HS_) : HS_ := if s.1 ≠ 0 ∨ wd b = 0 ∨ hd b = 0 then s else hsR b (hbS o e s.2.1 (s.2.2.1 b) (T b) (s.2.2.2.1 b)) s
def hssS (o : Int → Int) (e : Int) (wd hd T : Int → Int) (f : Int) : Nat → HS_ → HS_
  | 0, s => s
  | k + 1, s => hs1S o e wd hd T (f + (k : Int)) (hssS o e wd hd T f k s)
def hs0 (p : Int) (P W : Int → Int) : HS_ := (0, p, P, W, fun _ => 0, fun _ => 0)
def hdP (o : Int → Int) (e : Int) (wd hd T : Int → Int) (f : Int) (m : Nat) (p : Int) (P W : Int → Int) : HS_ := if e - p < 1 then (1, p, P, W, fun _ => 0, fun _ => 0) else if tbS o p 1 ≠ 1 then hs0 (p + 1) P W else hssS o e wd hd T f m (hs0 (p + 1) P W)
theorem hssS_s {o : Int → Int} {e : Int} {wd hd T : Int → Int} {f b : Int} {s : HS_} (hb : f ≤ b) : hssS o e wd hd T f (b + 1 - f).toNat s = hs1S o e wd hd T b (hssS o e wd hd T f (b - f).toNat s) := by
  rw [show (b + 1 - f).toNat = (b - f).toNat + 1 by omega]
  show hs1S o e wd hd T (f + ((b - f).toNat : Int)) (hssS o e wd hd T f (b - f).toNat s) = _
  rw [show f + ((b - f).toNat : Int) = b by omega]
/-- once it isn't whole it stays so -/
theorem hssS_c {o : Int → Int} {e : Int} {wd hd T : Int → Int} {f : Int} {s : HS_} {k : Nat} : ∀ m : Nat, k ≤ m → (hssS o e wd hd T f k s).1 ≠ 0 → hssS o e wd hd T f m s = hssS o e wd hd T f k s := by
  intro m
  induction m with
  | zero => intro h _; rw [show k = 0 by omega]
  | succ m ih =>
    intro h hz
    by_cases e1 : k = m + 1
    · rw [e1]
    · have i := ih (by omega) hz
      show hs1S o e wd hd T (f + (m : Int)) (hssS o e wd hd T f m s) = _
      rw [i]
      exact if_pos (Or.inl hz)
/-- what a class's or the reference's cells hold while a head is read -/
def HRQ (p5 f t : Int) (T c53 c55 c56 c57 : Int → Int) (s : HS_) : Prop := s.1 = 0 ∧ p5 = s.2.1 ∧ ∀ j : Int, f ≤ j → j < t → (T j + s.2.2.2.2.1 j ≠ 0 → c53 j = s.2.2.1 j) ∧ c55 j = s.2.2.2.1 j ∧ c56 j = s.2.2.2.2.1 j ∧ c57 j = s.2.2.2.2.2 j
theorem HRQ_h {p5 f t z : Int} {T c53 c55 c56 c57 d53 d55 d56 d57 : Int → Int} {s : HS_} {o : Int → Int} {e b p6 : Int} {wd hd : Int → Int} (h : HRQ p5 f t T c53 c55 c56 c57 s) (hb : f ≤ b ∧ b < t) (hc : ¬(wd b = 0 ∨ hd b = 0)) (hG : s.2.2.2.2.1 b = 0) (hz : z = (hbS o e p5 (c53 b) (T b) (c55 b)).1) (h0 : z = 0) (hok : p6 = (hbS o e p5 (c53 b) (T b) (c55 b)).2.2.2.1 ∧ d53 b = (hbS o e p5 (c53 b) (T b) (c55 b)).2.2.2.2.1 ∧ d55 b = (hbS o e p5 (c53 b) (T b) (c55 b)).2.2.2.2.2 ∧ d56 b = (hbS o e p5 (c53 b) (T b) (c55 b)).2.1 ∧ d57 b = (hbS o e p5 (c53 b) (T b) (c55 b)).2.2.1) (hs : ∀ j : Int, j ≠ b → d53 j = c53 j ∧ d55 j = c55 j ∧ d56 j = c56 j ∧ d57 j = c57 j) : HRQ p6 f t T d53 d55 d56 d57 (hs1S o e wd hd T b s) := by
  obtain ⟨h1, h2, h3⟩ := h
  have k := h3 b hb.1 hb.2
  have q := hbS_pl (o := o) (e := e) (p := p5) (pl := c53 b) (pl' := s.2.2.1 b) (tk := T b) (w := c55 b) (by
    by_cases y : T b = 0
    · exact Or.inl y
    · exact Or.inr (k.1 (by rw [hG]; omega)))
  have e1 : hs1S o e wd hd T b s = hsR b (hbS o e s.2.1 (s.2.2.1 b) (T b) (s.2.2.2.1 b)) s := if_neg (fun y => by
    rcases y with y | y
    · exact y h1
    · exact hc y)
  rw [e1, ← h2, ← k.2.1]
  obtain ⟨⟨q1, q2, q3, q4, q5⟩, q6⟩ := q
  refine ⟨by show (hbS o e p5 (s.2.2.1 b) (T b) (c55 b)).1 = 0; rw [← q1, ← hz]; exact h0, by show p6 = (hbS o e p5 (s.2.2.1 b) (T b) (c55 b)).2.2.2.1; rw [← q4]; exact hok.1, fun j j0 j1 => ?_⟩
  show (T j + fup s.2.2.2.2.1 b (hbS o e p5 (s.2.2.1 b) (T b) (c55 b)).2.1 j ≠ 0 → d53 j = fup s.2.2.1 b (hbS o e p5 (s.2.2.1 b) (T b) (c55 b)).2.2.2.2.1 j) ∧ d55 j = fup s.2.2.2.1 b (hbS o e p5 (s.2.2.1 b) (T b) (c55 b)).2.2.2.2.2 j ∧ d56 j = fup s.2.2.2.2.1 b (hbS o e p5 (s.2.2.1 b) (T b) (c55 b)).2.1 j ∧ d57 j = fup s.2.2.2.2.2 b (hbS o e p5 (s.2.2.1 b) (T b) (c55 b)).2.2.1 j
  by_cases y : j = b
  · rw [y, fup_eq, fup_eq, fup_eq, fup_eq, ← q2, ← q3, ← q5]
    exact ⟨fun x => by rw [hok.2.1]; exact q6 x (by rw [← hz]; exact h0), hok.2.2.1, hok.2.2.2.1, hok.2.2.2.2⟩
  · rw [fup_ne _ _ y, fup_ne _ _ y, fup_ne _ _ y, fup_ne _ _ y]
    have u := hs j y
    have v := h3 j j0 j1
    rw [u.1, u.2.1, u.2.2.1, u.2.2.2]
    exact v
theorem HRQ_x {p5 f t z : Int} {T c53 c55 c56 c57 : Int → Int} {s : HS_} {o : Int → Int} {e b : Int} {wd hd : Int → Int} (h : HRQ p5 f t T c53 c55 c56 c57 s) (hb : f ≤ b ∧ b < t) (hc : ¬(wd b = 0 ∨ hd b = 0)) (hG : s.2.2.2.2.1 b = 0) (hz : z = (hbS o e p5 (c53 b) (T b) (c55 b)).1) : z = (hs1S o e wd hd T b s).1 := by
  obtain ⟨h1, h2, h3⟩ := h
  have k := h3 b hb.1 hb.2
  have q := hbS_pl (o := o) (e := e) (p := p5) (pl := c53 b) (pl' := s.2.2.1 b) (tk := T b) (w := c55 b) (by
    by_cases y : T b = 0
    · exact Or.inl y
    · exact Or.inr (k.1 (by rw [hG]; omega)))
  have e1 : hs1S o e wd hd T b s = hsR b (hbS o e s.2.1 (s.2.2.1 b) (T b) (s.2.2.2.1 b)) s := if_neg (fun y => by
    rcases y with y | y
    · exact y h1
    · exact hc y)
  rw [e1, ← h2, ← k.2.1, hz, q.1.1]
  rfl
theorem hs1S_e {o : Int → Int} {e b : Int} {wd hd T : Int → Int} {s : HS_} (h : wd b = 0 ∨ hd b = 0) : hs1S o e wd hd T b s = s := if_pos (Or.inr h)
theorem hssS_G {o : Int → Int} {e : Int} {wd hd T : Int → Int} {f : Int} {s : HS_} : ∀ (k : Nat) (b : Int), f + (k : Int) ≤ b → (hssS o e wd hd T f k s).2.2.2.2.1 b = s.2.2.2.2.1 b
  | 0, _, _ => rfl
  | k + 1, b, h => by
    have i := hssS_G (o := o) (e := e) (wd := wd) (hd := hd) (T := T) (f := f) (s := s) k b (by omega)
    show (hs1S o e wd hd T (f + (k : Int)) (hssS o e wd hd T f k s)).2.2.2.2.1 b = _
    unfold hs1S
    split
    · exact i
    · show fup _ (f + (k : Int)) _ b = _
      rw [fup_ne _ _ (by omega)]
      exact i
theorem hs1S_C {o : Int → Int} {e b j : Int} {wd hd T : Int → Int} {s : HS_} (hj : j ≠ b) (h : s.2.2.2.2.2 j = 0) : (hs1S o e wd hd T b s).2.2.2.2.2 j = 0 := by
  unfold hs1S
  split
  · exact h
  · show fup _ b _ j = 0
    rw [fup_ne _ _ hj]
    exact h
set_option maxRecDepth 20000 in
theorem s_isEmpty45_e (b : Int) (h : Hp_) (hT : TY h) (hb : 0 ≤ b ∧ b ≤ 9) : Ctr yX0_isEmpty cX0_isEmpty 2 (some .boolean) (rmd 0) ly ly 0 0 [vR 45, vI b] h (fun r h' => (TY h' ∧ FR [] h h') ∧ ∃ z : Int, r = some (vI z) ∧ (0 ≤ z ∧ z ≤ 1) ∧ ((z = 1 → (h 49) b = 0 ∨ (h 50) b = 0) ∧ (z = 0 → ¬((h 49) b = 0 ∨ (h 50) b = 0)))) := by
  refine Ctr_of (by decide) (Nat.le_of_ble_eq_true rfl) ⟨Nat.le_refl _, Nat.le_refl _⟩ (fun K hK hQ _ => ?_)
  show TT K ly 0 0 0 [(0, vR 45), (1, vI b)] [] h
  have hF : FR [] h h := FR_rf _ _
  refine TT_aload_n hK rfl 0 rfl dX0_isEmpty_0 ?_
  refine gf_X0_21 hK (by decide) rfl (q := 49) rfl rfl dX0_isEmpty_1 ?_
  refine TT_iload_n hK rfl 1 rfl dX0_isEmpty_4 ?_
  refine TT_iald hK (o := 49) (n := 10) (by decide) rfl (by first | omega | (simp [up, setR] <;> omega)) (by first | omega | (simp [up, setR] <;> omega)) (v := (h 49) b) rfl dX0_isEmpty_5 ?_
  have r1 := ty_49 (i := b) (v := (h 49) b) hT rfl (by omega) (by omega)
  refine TT_if_eq hK (tgt := 18) (irm (by omega) (by omega)) dX0_isEmpty_6 (by decide) (fun hb6_2 => ?_) (fun hb6_2 => ?_)
  · refine TT_iconst hK dX0_isEmpty_18 ?_
    refine TT_goto hK (tgt := 23) dX0_isEmpty_19 (by decide) ?_
    refine TT_zret hK hQ (by decide) ?_ dX0_isEmpty_23
    exact ⟨⟨hT, hF⟩, 1, rfl, (by omega), (by first | exact ⟨fun _ => by omega, fun q => by exfalso; omega⟩ | exact ⟨fun q => by exfalso; omega, fun _ => by omega⟩)⟩
  · refine TT_aload_n hK rfl 0 rfl dX0_isEmpty_9 ?_
    refine gf_X0_24 hK (by decide) rfl (q := 50) rfl rfl dX0_isEmpty_10 ?_
    refine TT_iload_n hK rfl 1 rfl dX0_isEmpty_13 ?_
    refine TT_iald hK (o := 50) (n := 10) (by decide) rfl (by first | omega | (simp [up, setR] <;> omega)) (by first | omega | (simp [up, setR] <;> omega)) (v := (h 50) b) rfl dX0_isEmpty_14 ?_
    have r3 := ty_50 (i := b) (v := (h 50) b) hT rfl (by omega) (by omega)
    refine TT_if_ne hK (tgt := 22) (irm (by omega) (by omega)) dX0_isEmpty_15 (by decide) (fun hb15_4 => ?_) (fun hb15_4 => ?_)
    · refine TT_iconst hK dX0_isEmpty_22 ?_
      refine TT_zret hK hQ (by decide) ?_ dX0_isEmpty_23
      exact ⟨⟨hT, hF⟩, 0, rfl, (by omega), (by first | exact ⟨fun _ => by omega, fun q => by exfalso; omega⟩ | exact ⟨fun q => by exfalso; omega, fun _ => by omega⟩)⟩
    · refine TT_iconst hK dX0_isEmpty_18 ?_
      refine TT_goto hK (tgt := 23) dX0_isEmpty_19 (by decide) ?_
      refine TT_zret hK hQ (by decide) ?_ dX0_isEmpty_23
      exact ⟨⟨hT, hF⟩, 1, rfl, (by omega), (by first | exact ⟨fun _ => by omega, fun q => by exfalso; omega⟩ | exact ⟨fun q => by exfalso; omega, fun _ => by omega⟩)⟩
set_option maxRecDepth 20000 in
theorem s_readHead_e (o9 P9 W9 : Int → Int) (r : Int) (h : Hp_) (hT : TY h) (hr : 0 ≤ r ∧ r ≤ 3) (ho : ∀ j : Int, 0 ≤ j → j < (h 5 1) → (h 6) j = o9 j) (hp : (0 ≤ (h 5 3) ∧ (h 5 3) ≤ (h 5 4)) ∧ (h 5 4) ≤ 8 * (h 5 1)) (hwb : ∀ j : Int, 0 ≤ j → j < 10 → (3 ≤ (h 55) j ∧ (h 55) j ≤ 3 + (h 5 3)) ∧ (0 ≤ (h 54) j ∧ (h 54) j ≤ 34)) (h51 : (h 5 4) ≤ 8192) (hpr : ∀ j : Int, FS r ≤ j → j < 3 * r + 1 → ((h 54) j ≠ 0 → (h 53) j = P9 j) ∧ (h 55) j = W9 j) : Ctr yX10_readHead cX10_readHead 6 (some .int) (rmd 4) ly ly 0 0 [vR 44, vR 5, vI r] h (fun rz h' => (TY h' ∧ FR [5, 53, 55, 56, 57] h h') ∧ ∃ z : Int, rz = some (vI z) ∧ (-1 ≤ z ∧ z ≤ 1) ∧ (z = (hdP o9 (h 5 4) (h 49) (h 50) (h 54) (FS r) (3 * r + 1 - FS r).toNat (h 5 3) P9 W9).1) ∧ (z = 0 → HRQ (h' 5 3) (FS r) (3 * r + 1) (h 54) (h' 53) (h' 55) (h' 56) (h' 57) (hdP o9 (h 5 4) (h 49) (h 50) (h 54) (FS r) (3 * r + 1 - FS r).toNat (h 5 3) P9 W9)) ∧ (((h' 5 4) = (h 5 4) ∧ (h' 5 1) = (h 5 1)) ∧ (z = 0 → (h 5 3) < (h' 5 3) ∧ (h' 5 3) ≤ (h 5 4))) ∧ (∀ j : Int, (j < FS r ∨ 3 * r + 1 ≤ j) → (h' 53) j = (h 53) j ∧ (h' 55) j = (h 55) j) ∧ (z = 0 → ∀ j : Int, 0 ≤ j → j < 10 → (3 ≤ (h' 55) j ∧ (h' 55) j ≤ 3 + (h' 5 3))) ∧ (z = 0 → ∀ j : Int, FS r ≤ j → j < 3 * r + 1 → (0 ≤ (h' 56) j ∧ (h 54) j + (h' 56) j ≤ 34) ∧ (0 ≤ (h' 57) j ∧ (h' 57) j ≤ 1048576))) := by
  refine Ctr_of (by decide) (Nat.le_of_ble_eq_true rfl) ⟨Nat.le_refl _, Nat.le_refl _⟩ (fun K hK hQ _ => ?_)
  show TT K ly 0 0 0 [(0, vR 44), (1, vR 5), (2, vI r)] [] h
  have hF : FR [5, 53, 55, 56, 57] h h := FR_rf _ _
  have hfs := FS_r (r := r) (by omega)
  refine TT_iload_n hK rfl 2 rfl dX10_readHead_0 ?_
  refine iv_X10_109 hK (s_firstBandOf_e r h hT (by first | omega | (simp [up, setR] <;> omega))) ⟨by decide, by decide⟩ (by decide) rfl rfl (Nat.le_of_ble_eq_true rfl) ⟨by decide, by decide⟩ dX10_readHead_1 ?_
  intro r9 g1_1 hp9
  obtain ⟨⟨hT_1, hG_1⟩, z1_1, hr9, hz_1, fb_1⟩ := hp9
  rw [hr9]
  have hF_1 : FR [5, 53, 55, 56, 57] h g1_1 := FR_tr hF hG_1 (by decide)
  have fb_at1 := fb_1
  show TT K ly 0 0 4 [(0, vR 44), (1, vR 5), (2, vI r)] [vI z1_1] g1_1
  refine TT_cgI (b := FS r) (by exact fb_at1) ?_
  refine TT_istore_n hK rfl (lv' := [(3, vI (FS r)), (0, vR 44), (1, vR 5), (2, vI r)]) (by decide) rfl dX10_readHead_4 ?_
  have L5_2 : ∀ (k2 : Nat) (b1 : Int) (w5_2 : Hp_), TY w5_2 → FR [5, 53, 55, 56, 57] h w5_2 → (0 ≤ b1 ∧ b1 ≤ 10) → (FS r ≤ b1 ∧ b1 ≤ 3 * r + 1) → ((w5_2 53) = h 53) → ((w5_2 55) = h 55) → ((w5_2 5 3) = h 5 3) → ((w5_2 5 4) = h 5 4 ∧ (w5_2 5 1) = h 5 1) → (∀ j : Int, FS r ≤ j → j < b1 → (w5_2 56) j = 0 ∧ (w5_2 57) j = 0) → ((10 : Int) - b1).toNat < k2 → TT K ly 0 0 5 [(0, vR 44), (1, vR 5), (2, vI r), (3, vI b1)] [] w5_2 := by
    intro k2
    induction k2 with
    | zero => intro b1 w5_2 hT5_2 hF5_2 hb1 hb_b1 k53 k55 k53p k5i hz6 hk2; exact absurd hk2 (Nat.not_lt_zero _)
    | succ k2 ih2 =>
      intro b1 w5_2 hT5_2 hF5_2 hb1 hb_b1 k53 k55 k53p k5i hz6 hk2
      refine TT_iload_n hK rfl 3 rfl dX10_readHead_5 ?_
      refine TT_iload_n hK rfl 2 rfl dX10_readHead_6 ?_
      refine iv_X10_112 hK (s_lastBandOf_e r w5_2 hT5_2 (by first | omega | (simp [up, setR] <;> omega))) ⟨by decide, by decide⟩ (by decide) rfl rfl (Nat.le_of_ble_eq_true rfl) ⟨by decide, by decide⟩ dX10_readHead_7 ?_
      intro r9 g7_3 hp9
      obtain ⟨⟨hT_3, hG_3⟩, z7_3, hr9, hz_3, lb_3⟩ := hp9
      rw [hr9]
      have hF_3 : FR [5, 53, 55, 56, 57] h g7_3 := FR_tr hF5_2 hG_3 (by decide)
      have lb_at7 := lb_3
      show TT K ly 0 0 10 [(0, vR 44), (1, vR 5), (2, vI r), (3, vI b1)] [vI z7_3, vI b1] g7_3
      refine TT_cgI (b := 3 * r) (by exact lb_at7) ?_
      refine TT_icmp_gt hK (tgt := 33) (irm (by omega) (by omega)) (irm (by omega) (by omega)) dX10_readHead_10 (by decide) (fun hb10_4 => ?_) (fun hb10_4 => ?_)
      · refine TT_aload_n hK rfl 1 rfl dX10_readHead_33 ?_
        refine TT_iconst hK dX10_readHead_34 ?_
        have e5_5_1 : g7_3 5 1 = (w5_2 5) 1 := rd_ (hG_3 5 (by decide)) rfl
        have e6_6 : g7_3 6 = h 6 := ((hG_3 6 (by decide))).trans (hF5_2 6 (by decide))
        have e7_5_1 : g7_3 5 1 = (w5_2 5) 1 := rd_ (hG_3 5 (by decide)) rfl
        have e8_5_3 : g7_3 5 3 = (w5_2 5) 3 := rd_ (hG_3 5 (by decide)) rfl
        have e9_5_4 : g7_3 5 4 = (w5_2 5) 4 := rd_ (hG_3 5 (by decide)) rfl
        refine iv_X10_118 hK (s_takeBits5_e o9 1 g7_3 hT_3 (by first | omega | (simp [up, setR] <;> omega)) (by rewrite [e5_5_1, e6_6]; first | assumption | (intro j j0 j1; exact ho j j0 (by omega))) (by rewrite [e7_5_1, e8_5_3, e9_5_4]; first | omega | (simp [up, setR] <;> omega)) (by first | omega | (simp [up, setR] <;> omega))) (by decide) rfl ⟨by decide, by decide⟩ (by decide) rfl rfl (Nat.le_of_ble_eq_true rfl) ⟨by decide, by decide⟩ dX10_readHead_35 ?_
        intro r9 g35_10 hp9
        obtain ⟨⟨hT_10, hG_10⟩, z35_10, hr9, hz_10, tb_10, k5_10⟩ := hp9
        rw [hr9]
        have hF_10 : FR [5, 53, 55, 56, 57] h g35_10 := FR_tr hF_3 hG_10 (by decide)
        rw [show g7_3 5 3 = (w5_2 5) 3 from rd_ (hG_3 5 (by decide)) rfl] at tb_10
        rw [show g7_3 5 4 = (w5_2 5) 4 from rd_ (hG_3 5 (by decide)) rfl] at tb_10
        rw [show g7_3 5 1 = (w5_2 5) 1 from rd_ (hG_3 5 (by decide)) rfl] at k5_10
        rw [show g7_3 5 4 = (w5_2 5) 4 from rd_ (hG_3 5 (by decide)) rfl] at k5_10
        have tb_at35 := tb_10
        show TT K ly 0 0 38 [(0, vR 44), (1, vR 5), (2, vI r), (3, vI b1)] [vI z35_10] g35_10
        have t35 := tb_at35
        rw [show (1 : Int).toNat = 1 from rfl, k5i.1, k53p] at t35
        have tt35 := tb_24 o9 (h 5 3)
        refine TT_istore_n hK rfl (lv' := [(3, vI z35_10), (0, vR 44), (1, vR 5), (2, vI r)]) (by decide) rfl dX10_readHead_38 ?_
        refine TT_iload_n hK rfl 0 rfl dX10_readHead_39 ?_
        refine TT_iconst hK dX10_readHead_40 ?_
        refine TT_icmp_eq hK (tgt := 54) (irm (by omega) (by omega)) (by decide) dX10_readHead_41 (by decide) (fun hb41_11 => ?_) (fun hb41_11 => ?_)
        · have f3 : (hdP o9 (h 5 4) (h 49) (h 50) (h 54) (FS r) (3 * r + 1 - FS r).toNat (h 5 3) P9 W9) = hssS o9 (h 5 4) (h 49) (h 50) (h 54) (FS r) (3 * r + 1 - FS r).toNat (hs0 (h 5 3 + 1) P9 W9) := by
              unfold hdP
              rw [if_neg (by omega), if_neg (by omega)]
          refine TT_iload_n hK rfl 3 rfl dX10_readHead_54 ?_
          refine iv_X10_109 hK (s_firstBandOf_e r g35_10 hT_10 (by first | omega | (simp [up, setR] <;> omega))) ⟨by decide, by decide⟩ (by decide) rfl rfl (Nat.le_of_ble_eq_true rfl) ⟨by decide, by decide⟩ dX10_readHead_55 ?_
          intro r9 g55_12 hp9
          obtain ⟨⟨hT_12, hG_12⟩, z55_12, hr9, hz_12, fb_12⟩ := hp9
          rw [hr9]
          have hF_12 : FR [5, 53, 55, 56, 57] h g55_12 := FR_tr hF_10 hG_12 (by decide)
          have fb_at55 := fb_12
          show TT K ly 0 0 58 [(3, vI z35_10), (0, vR 44), (1, vR 5), (2, vI r)] [vI z55_12] g55_12
          refine TT_cgI (b := FS r) (by exact fb_at55) ?_
          refine TT_istore hK (lv' := [(4, vI (FS r)), (3, vI z35_10), (0, vR 44), (1, vR 5), (2, vI r)]) (by decide) rfl dX10_readHead_58 ?_
          have L60_13 : ∀ (k13 : Nat) (b2 : Int) (w60_13 : Hp_), TY w60_13 → FR [5, 53, 55, 56, 57] h w60_13 → (0 ≤ b2 ∧ b2 ≤ 10) → (FS r ≤ b2 ∧ b2 ≤ 3 * r + 1) → ((w60_13 5 4) = h 5 4 ∧ (w60_13 5 1) = h 5 1) → (h 5 3 < (w60_13 5 3) ∧ (w60_13 5 3) ≤ h 5 4) → (HRQ (w60_13 5 3) (FS r) (3 * r + 1) (h 54) (w60_13 53) (w60_13 55) (w60_13 56) (w60_13 57) (hssS o9 (h 5 4) (h 49) (h 50) (h 54) (FS r) (b2 - FS r).toNat (hs0 (h 5 3 + 1) P9 W9))) → (∀ j : Int, b2 ≤ j → j < 3 * r + 1 → (hssS o9 (h 5 4) (h 49) (h 50) (h 54) (FS r) (b2 - FS r).toNat (hs0 (h 5 3 + 1) P9 W9)).2.2.2.2.2 j = 0) → (∀ j : Int, 0 ≤ j → j < 10 → (3 ≤ (w60_13 55) j ∧ (w60_13 55) j ≤ 3 + (w60_13 5 3))) → (∀ j : Int, (j < FS r ∨ 3 * r + 1 ≤ j) → (w60_13 53) j = h 53 j ∧ (w60_13 55) j = h 55 j) → (∀ j : Int, FS r ≤ j → j < 3 * r + 1 → (0 ≤ (w60_13 56) j ∧ h 54 j + (w60_13 56) j ≤ 34) ∧ (0 ≤ (w60_13 57) j ∧ (w60_13 57) j ≤ 1048576)) → ((10 : Int) - b2).toNat < k13 → TT K ly 0 0 60 [(0, vR 44), (1, vR 5), (2, vI r), (3, vI z35_10), (4, vI b2)] [] w60_13 := by
            intro k13
            induction k13 with
            | zero => intro b2 w60_13 hT60_13 hF60_13 hb2 hb_b2 k5i h53r hR hC9 hW9 hko hkg hk13; exact absurd hk13 (Nat.not_lt_zero _)
            | succ k13 ih13 =>
              intro b2 w60_13 hT60_13 hF60_13 hb2 hb_b2 k5i h53r hR hC9 hW9 hko hkg hk13
              refine TT_iload hK 4 rfl dX10_readHead_60 ?_
              refine TT_iload_n hK rfl 2 rfl dX10_readHead_62 ?_
              refine iv_X10_112 hK (s_lastBandOf_e r w60_13 hT60_13 (by first | omega | (simp [up, setR] <;> omega))) ⟨by decide, by decide⟩ (by decide) rfl rfl (Nat.le_of_ble_eq_true rfl) ⟨by decide, by decide⟩ dX10_readHead_63 ?_
              intro r9 g63_14 hp9
              obtain ⟨⟨hT_14, hG_14⟩, z63_14, hr9, hz_14, lb_14⟩ := hp9
              rw [hr9]
              have hF_14 : FR [5, 53, 55, 56, 57] h g63_14 := FR_tr hF60_13 hG_14 (by decide)
              have lb_at63 := lb_14
              show TT K ly 0 0 66 [(0, vR 44), (1, vR 5), (2, vI r), (3, vI z35_10), (4, vI b2)] [vI z63_14, vI b2] g63_14
              refine TT_cgI (b := 3 * r) (by exact lb_at63) ?_
              refine TT_icmp_gt hK (tgt := 108) (irm (by omega) (by omega)) (irm (by omega) (by omega)) dX10_readHead_66 (by decide) (fun hb66_15 => ?_) (fun hb66_15 => ?_)
              · have f5 : (hdP o9 (h 5 4) (h 49) (h 50) (h 54) (FS r) (3 * r + 1 - FS r).toNat (h 5 3) P9 W9) = (hssS o9 (h 5 4) (h 49) (h 50) (h 54) (FS r) (b2 - FS r).toNat (hs0 (h 5 3 + 1) P9 W9)) := by
                    rw [f3, show 3 * r + 1 = b2 by omega]
                refine TT_iconst hK dX10_readHead_108 ?_
                refine TT_iret hK hQ ?_ dX10_readHead_109
                have e16_5_3 : g63_14 5 3 = (w60_13 5) 3 := rd_ (hG_14 5 (by decide)) rfl
                have e17_53 : g63_14 53 = w60_13 53 := (hG_14 53 (by decide))
                have e18_55 : g63_14 55 = w60_13 55 := (hG_14 55 (by decide))
                have e19_56 : g63_14 56 = w60_13 56 := (hG_14 56 (by decide))
                have e20_57 : g63_14 57 = w60_13 57 := (hG_14 57 (by decide))
                have e21_5_1 : g63_14 5 1 = (w60_13 5) 1 := rd_ (hG_14 5 (by decide)) rfl
                have e22_5_3 : g63_14 5 3 = (w60_13 5) 3 := rd_ (hG_14 5 (by decide)) rfl
                have e23_5_4 : g63_14 5 4 = (w60_13 5) 4 := rd_ (hG_14 5 (by decide)) rfl
                have e24_53 : g63_14 53 = w60_13 53 := (hG_14 53 (by decide))
                have e25_55 : g63_14 55 = w60_13 55 := (hG_14 55 (by decide))
                have e26_5_3 : g63_14 5 3 = (w60_13 5) 3 := rd_ (hG_14 5 (by decide)) rfl
                have e27_55 : g63_14 55 = w60_13 55 := (hG_14 55 (by decide))
                have e28_56 : g63_14 56 = w60_13 56 := (hG_14 56 (by decide))
                have e29_57 : g63_14 57 = w60_13 57 := (hG_14 57 (by decide))
                exact ⟨⟨hT_14, hF_14⟩, 0, rfl, (by omega), (by rw [f5]; exact hR.1.symm), (by rewrite [e16_5_3, e17_53, e18_55, e19_56, e20_57]; intro _; rw [f5]; exact hR), (by rewrite [e21_5_1, e22_5_3, e23_5_4]; omega), (by rewrite [e24_53, e25_55]; exact hko), (by rewrite [e26_5_3, e27_55]; exact fun _ => hW9), (by rewrite [e28_56, e29_57]; exact fun _ => hkg)⟩
              · have wb9 := hW9 b2 (by omega) (by omega)
                have tb9 := (hwb b2 (by omega) (by omega)).2
                have G0 : (hssS o9 (h 5 4) (h 49) (h 50) (h 54) (FS r) (b2 - FS r).toNat (hs0 (h 5 3 + 1) P9 W9)).2.2.2.2.1 b2 = 0 := hssS_G _ _ (by omega)
                have zz9 := hR.2.2 b2 (by omega) (by omega)
                refine TT_aload_n hK rfl 0 rfl dX10_readHead_69 ?_
                refine gf_X10_12 hK (by decide) rfl (q := 45) rfl rfl dX10_readHead_70 ?_
                refine TT_iload hK 4 rfl dX10_readHead_73 ?_
                refine iv_X10_121 hK (s_isEmpty45_e b2 g63_14 hT_14 (by first | omega | (simp [up, setR] <;> omega))) (by decide) rfl ⟨by decide, by decide⟩ (by decide) rfl rfl (Nat.le_of_ble_eq_true rfl) ⟨by decide, by decide⟩ dX10_readHead_75 ?_
                intro r9 g75_30 hp9
                obtain ⟨⟨hT_30, hG_30⟩, z75_30, hr9, hz_30, em_30⟩ := hp9
                rw [hr9]
                have hF_30 : FR [5, 53, 55, 56, 57] h g75_30 := FR_tr hF_14 hG_30 (by decide)
                rw [show g63_14 49 = h 49 from ((hG_14 49 (by decide))).trans (hF60_13 49 (by decide))] at em_30
                rw [show g63_14 50 = h 50 from ((hG_14 50 (by decide))).trans (hF60_13 50 (by decide))] at em_30
                have em_at75 := em_30
                show TT K ly 0 0 78 [(0, vR 44), (1, vR 5), (2, vI r), (3, vI z35_10), (4, vI b2)] [vI z75_30] g75_30
                refine TT_if_eq hK (tgt := 85) (irm (by omega) (by omega)) dX10_readHead_78 (by decide) (fun hb78_31 => ?_) (fun hb78_31 => ?_)
                · refine TT_aload_n hK rfl 0 rfl dX10_readHead_85 ?_
                  refine TT_aload_n hK rfl 1 rfl dX10_readHead_86 ?_
                  refine TT_iload hK 4 rfl dX10_readHead_87 ?_
                  have e32_5_1 : g75_30 5 1 = (w60_13 5) 1 := rd_ (((hG_30 5 (by decide))).trans (hG_14 5 (by decide))) rfl
                  have e33_6 : g75_30 6 = h 6 := ((hG_30 6 (by decide))).trans (((hG_14 6 (by decide))).trans (hF60_13 6 (by decide)))
                  have e34_5_1 : g75_30 5 1 = (w60_13 5) 1 := rd_ (((hG_30 5 (by decide))).trans (hG_14 5 (by decide))) rfl
                  have e35_5_3 : g75_30 5 3 = (w60_13 5) 3 := rd_ (((hG_30 5 (by decide))).trans (hG_14 5 (by decide))) rfl
                  have e36_5_4 : g75_30 5 4 = (w60_13 5) 4 := rd_ (((hG_30 5 (by decide))).trans (hG_14 5 (by decide))) rfl
                  have e37_5_3 : g75_30 5 3 = (w60_13 5) 3 := rd_ (((hG_30 5 (by decide))).trans (hG_14 5 (by decide))) rfl
                  have e38_55 : g75_30 55 = w60_13 55 := ((hG_30 55 (by decide))).trans (hG_14 55 (by decide))
                  have e39_5_4 : g75_30 5 4 = (w60_13 5) 4 := rd_ (((hG_30 5 (by decide))).trans (hG_14 5 (by decide))) rfl
                  have e40_54 : g75_30 54 = h 54 := ((hG_30 54 (by decide))).trans (((hG_14 54 (by decide))).trans (hF60_13 54 (by decide)))
                  have e41_56 : g75_30 56 = w60_13 56 := ((hG_30 56 (by decide))).trans (hG_14 56 (by decide))
                  have e42_57 : g75_30 57 = w60_13 57 := ((hG_30 57 (by decide))).trans (hG_14 57 (by decide))
                  refine iv_X10_124 hK (s_readBandHead_e o9 b2 g75_30 hT_30 (by first | omega | (simp [up, setR] <;> omega)) (by rewrite [e32_5_1, e33_6]; first | assumption | (intro j j0 j1; exact ho j j0 (by omega))) (by rewrite [e34_5_1, e35_5_3, e36_5_4]; first | omega | (simp [up, setR] <;> omega)) (by rewrite [e37_5_3, e38_55]; exact wb9) (by rewrite [e39_5_4]; omega) (by rewrite [e40_54]; exact tb9) (by rewrite [e41_56, e42_57]; rw [zz9.2.2.1, zz9.2.2.2]; exact ⟨G0, hC9 _ (by omega) (by omega)⟩)) (by decide) rfl ⟨by decide, by decide⟩ (by decide) rfl rfl (Nat.le_of_ble_eq_true rfl) ⟨by decide, by decide⟩ dX10_readHead_89 ?_
                  intro r9 g89_43 hp9
                  obtain ⟨⟨hT_43, hG_43⟩, z89_43, hr9, hz_43, hb_43, hok_43, ks_43, k5_43⟩ := hp9
                  rw [hr9]
                  have hF_43 : FR [5, 53, 55, 56, 57] h g89_43 := FR_tr hF_30 hG_43 (by decide)
                  rw [show g75_30 5 3 = (w60_13 5) 3 from rd_ (((hG_30 5 (by decide))).trans (hG_14 5 (by decide))) rfl] at hb_43
                  rw [show g75_30 5 4 = (w60_13 5) 4 from rd_ (((hG_30 5 (by decide))).trans (hG_14 5 (by decide))) rfl] at hb_43
                  rw [show g75_30 53 = w60_13 53 from ((hG_30 53 (by decide))).trans (hG_14 53 (by decide))] at hb_43
                  rw [show g75_30 54 = h 54 from ((hG_30 54 (by decide))).trans (((hG_14 54 (by decide))).trans (hF60_13 54 (by decide)))] at hb_43
                  rw [show g75_30 55 = w60_13 55 from ((hG_30 55 (by decide))).trans (hG_14 55 (by decide))] at hb_43
                  rw [show g75_30 5 3 = (w60_13 5) 3 from rd_ (((hG_30 5 (by decide))).trans (hG_14 5 (by decide))) rfl] at hok_43
                  rw [show g75_30 5 4 = (w60_13 5) 4 from rd_ (((hG_30 5 (by decide))).trans (hG_14 5 (by decide))) rfl] at hok_43
                  rw [show g75_30 53 = w60_13 53 from ((hG_30 53 (by decide))).trans (hG_14 53 (by decide))] at hok_43
                  rw [show g75_30 54 = h 54 from ((hG_30 54 (by decide))).trans (((hG_14 54 (by decide))).trans (hF60_13 54 (by decide)))] at hok_43
                  rw [show g75_30 55 = w60_13 55 from ((hG_30 55 (by decide))).trans (hG_14 55 (by decide))] at hok_43
                  rw [show g75_30 53 = w60_13 53 from ((hG_30 53 (by decide))).trans (hG_14 53 (by decide))] at ks_43
                  rw [show g75_30 55 = w60_13 55 from ((hG_30 55 (by decide))).trans (hG_14 55 (by decide))] at ks_43
                  rw [show g75_30 56 = w60_13 56 from ((hG_30 56 (by decide))).trans (hG_14 56 (by decide))] at ks_43
                  rw [show g75_30 57 = w60_13 57 from ((hG_30 57 (by decide))).trans (hG_14 57 (by decide))] at ks_43
                  rw [show g75_30 5 1 = (w60_13 5) 1 from rd_ (((hG_30 5 (by decide))).trans (hG_14 5 (by decide))) rfl] at k5_43
                  rw [show g75_30 5 3 = (w60_13 5) 3 from rd_ (((hG_30 5 (by decide))).trans (hG_14 5 (by decide))) rfl] at k5_43
                  rw [show g75_30 5 4 = (w60_13 5) 4 from rd_ (((hG_30 5 (by decide))).trans (hG_14 5 (by decide))) rfl] at k5_43
                  have hb_at89 := hb_43
                  have hok_at89 := hok_43
                  have ks_at89 := ks_43
                  have k5_at89 := k5_43
                  show TT K ly 0 0 92 [(0, vR 44), (1, vR 5), (2, vI r), (3, vI z35_10), (4, vI b2)] [vI z89_43] g89_43
                  have hb9 := hb_at89
                  have hok9 := hok_at89
                  rw [k5i.1] at hb9 hok9
                  refine TT_istore hK (lv' := [(5, vI z89_43), (0, vR 44), (1, vR 5), (2, vI r), (3, vI z35_10), (4, vI b2)]) (by decide) rfl dX10_readHead_92 ?_
                  refine TT_iload hK 0 rfl dX10_readHead_94 ?_
                  refine TT_if_eq hK (tgt := 102) (irm (by omega) (by omega)) dX10_readHead_96 (by decide) (fun hb96_44 => ?_) (fun hb96_44 => ?_)
                  · have hk9 := hok9 (by omega)
                    have rr9 := hbS_r (o := o9) (e := h 5 4) (p := (w60_13 5) 3) (pl := (w60_13 53) b2) (tk := h 54 b2) (w := (w60_13 55) b2) (by omega) (ty_53 (i := b2) (v := (w60_13 53) b2) hT60_13 rfl (by omega) (by omega)) tb9.1 wb9.1 (by omega)
                    have kg9 : (0 ≤ (g89_43 56) b2 ∧ h 54 b2 + (g89_43 56) b2 ≤ 34) ∧ (0 ≤ (g89_43 57) b2 ∧ (g89_43 57) b2 ≤ 1048576) := by omega
                    refine TT_iinc hK (v := b2 + 1) (lv' := [(4, vI (b2 + 1)), (5, vI z89_43), (0, vR 44), (1, vR 5), (2, vI r), (3, vI z35_10)]) 5 rfl rfl (by decide) rfl dX10_readHead_102 ?_
                    refine TT_goto hK (tgt := 60) dX10_readHead_105 (by decide) ?_
                    refine TT_sub [2, 3, 4, 5, 0] rfl ?_
                    have e45_5_1 : g89_43 5 1 = (g89_43 5) 1 := rfl
                    have e46_5_4 : g89_43 5 4 = (g89_43 5) 4 := rfl
                    have e47_5_3 : g89_43 5 3 = (g89_43 5) 3 := rfl
                    have e48_5_3 : g89_43 5 3 = (g89_43 5) 3 := rfl
                    have e49_5_3 : g89_43 5 3 = (g89_43 5) 3 := rfl
                    exact ih13 (b2 + 1) g89_43 hT_43 hF_43 (by first | omega | (simp [up, setR] <;> omega)) (by first | omega | (simp [up, setR] <;> omega)) (by rewrite [e45_5_1, e46_5_4]; first | omega | (simp [up, setR] <;> omega)) (by rewrite [e47_5_3]; first | omega | (simp [up, setR] <;> omega)) (by rewrite [e48_5_3]; rw [hssS_s (by omega)]; exact HRQ_h hR (by omega) (em_at75.2 (by omega)) G0 hb9 (by omega) hk9 ks_at89) (by intro j j0 j1; rw [hssS_s (by omega)]; exact hs1S_C (by omega) (hC9 j (by omega) j1)) (by rewrite [e49_5_3]; intro j j0 j1; by_cases e : j = b2; (rw [e]; exact k5_at89.2.2); (rw [(ks_at89 j e).2.1]; have k9 := hW9 j j0 j1; omega)) (by intro j j0; have k9 := ks_at89 j (by omega); rw [k9.1, k9.2.1]; exact hko j j0) (by intro j j0 j1; by_cases e : j = b2; (rw [e]; exact kg9); (have k9 := ks_at89 j e; rw [k9.2.2.1, k9.2.2.2]; exact hkg j j0 j1)) (by first | omega | (simp [up, setR] <;> omega))
                  · have x9 : z89_43 = (hssS o9 (h 5 4) (h 49) (h 50) (h 54) (FS r) (b2 + 1 - FS r).toNat (hs0 (h 5 3 + 1) P9 W9)).1 := by
                        rw [hssS_s (by omega)]
                        exact HRQ_x hR (by omega) (em_at75.2 (by omega)) G0 hb9
                    have f4 : (hdP o9 (h 5 4) (h 49) (h 50) (h 54) (FS r) (3 * r + 1 - FS r).toNat (h 5 3) P9 W9).1 = z89_43 := by
                        rw [f3, hssS_c (k := (b2 + 1 - FS r).toNat) _ (by omega) (by rw [← x9]; omega)]
                        exact x9.symm
                    refine TT_iload hK 0 rfl dX10_readHead_99 ?_
                    refine TT_iret hK hQ ?_ dX10_readHead_101
                    have e50_5_3 : g89_43 5 3 = (g89_43 5) 3 := rfl
                    have e51_5_1 : g89_43 5 1 = (g89_43 5) 1 := rfl
                    have e52_5_3 : g89_43 5 3 = (g89_43 5) 3 := rfl
                    have e53_5_4 : g89_43 5 4 = (g89_43 5) 4 := rfl
                    have e54_5_3 : g89_43 5 3 = (g89_43 5) 3 := rfl
                    exact ⟨⟨hT_43, hF_43⟩, z89_43, rfl, (by omega), (by exact f4.symm), (by rewrite [e50_5_3]; intro q; exfalso; omega), (by rewrite [e51_5_1, e52_5_3, e53_5_4]; omega), (by intro j j0; have k9 := ks_at89 j (by omega); rw [k9.1, k9.2.1]; exact hko j j0), (by rewrite [e54_5_3]; intro q; exfalso; omega), (by intro q; exfalso; omega)⟩
                · refine TT_iconst hK dX10_readHead_81 ?_
                  refine TT_goto hK (tgt := 92) dX10_readHead_82 (by decide) ?_
                  
                  refine TT_istore hK (lv' := [(5, vI 0), (0, vR 44), (1, vR 5), (2, vI r), (3, vI z35_10), (4, vI b2)]) (by decide) rfl dX10_readHead_92 ?_
                  refine TT_iload hK 0 rfl dX10_readHead_94 ?_
                  refine TT_if_eq hK (tgt := 102) (by decide) dX10_readHead_96 (by decide) (fun hb96_55 => ?_) (fun hb96_55 => ?_)
                  · 
                    refine TT_iinc hK (v := b2 + 1) (lv' := [(4, vI (b2 + 1)), (5, vI 0), (0, vR 44), (1, vR 5), (2, vI r), (3, vI z35_10)]) 5 rfl rfl (by decide) rfl dX10_readHead_102 ?_
                    refine TT_goto hK (tgt := 60) dX10_readHead_105 (by decide) ?_
                    refine TT_sub [2, 3, 4, 5, 0] rfl ?_
                    have e56_5_1 : g75_30 5 1 = (w60_13 5) 1 := rd_ (((hG_30 5 (by decide))).trans (hG_14 5 (by decide))) rfl
                    have e57_5_4 : g75_30 5 4 = (w60_13 5) 4 := rd_ (((hG_30 5 (by decide))).trans (hG_14 5 (by decide))) rfl
                    have e58_5_3 : g75_30 5 3 = (w60_13 5) 3 := rd_ (((hG_30 5 (by decide))).trans (hG_14 5 (by decide))) rfl
                    have e59_5_3 : g75_30 5 3 = (w60_13 5) 3 := rd_ (((hG_30 5 (by decide))).trans (hG_14 5 (by decide))) rfl
                    have e60_53 : g75_30 53 = w60_13 53 := ((hG_30 53 (by decide))).trans (hG_14 53 (by decide))
                    have e61_55 : g75_30 55 = w60_13 55 := ((hG_30 55 (by decide))).trans (hG_14 55 (by decide))
                    have e62_56 : g75_30 56 = w60_13 56 := ((hG_30 56 (by decide))).trans (hG_14 56 (by decide))
                    have e63_57 : g75_30 57 = w60_13 57 := ((hG_30 57 (by decide))).trans (hG_14 57 (by decide))
                    have e64_5_3 : g75_30 5 3 = (w60_13 5) 3 := rd_ (((hG_30 5 (by decide))).trans (hG_14 5 (by decide))) rfl
                    have e65_55 : g75_30 55 = w60_13 55 := ((hG_30 55 (by decide))).trans (hG_14 55 (by decide))
                    have e66_53 : g75_30 53 = w60_13 53 := ((hG_30 53 (by decide))).trans (hG_14 53 (by decide))
                    have e67_55 : g75_30 55 = w60_13 55 := ((hG_30 55 (by decide))).trans (hG_14 55 (by decide))
                    have e68_56 : g75_30 56 = w60_13 56 := ((hG_30 56 (by decide))).trans (hG_14 56 (by decide))
                    have e69_57 : g75_30 57 = w60_13 57 := ((hG_30 57 (by decide))).trans (hG_14 57 (by decide))
                    exact ih13 (b2 + 1) g75_30 hT_30 hF_30 (by first | omega | (simp [up, setR] <;> omega)) (by first | omega | (simp [up, setR] <;> omega)) (by rewrite [e56_5_1, e57_5_4]; first | omega | (simp [up, setR] <;> omega)) (by rewrite [e58_5_3]; first | omega | (simp [up, setR] <;> omega)) (by rewrite [e59_5_3, e60_53, e61_55, e62_56, e63_57]; rw [hssS_s (by omega), hs1S_e (em_at75.1 (by omega))]; exact hR) (by intro j j0 j1; rw [hssS_s (by omega)]; exact hs1S_C (by omega) (hC9 j (by omega) j1)) (by rewrite [e64_5_3, e65_55]; exact hW9) (by rewrite [e66_53, e67_55]; exact hko) (by rewrite [e68_56, e69_57]; exact hkg) (by first | omega | (simp [up, setR] <;> omega))
                  · exact absurd hb96_55 (by decide)
          refine TT_sub [2, 3, 4, 1, 0] rfl ?_
          have e70_5_1 : g55_12 5 1 = (g35_10 5) 1 := rd_ (hG_12 5 (by decide)) rfl
          have e71_5_4 : g55_12 5 4 = (g35_10 5) 4 := rd_ (hG_12 5 (by decide)) rfl
          have e72_5_3 : g55_12 5 3 = (g35_10 5) 3 := rd_ (hG_12 5 (by decide)) rfl
          have e73_5_3 : g55_12 5 3 = (g35_10 5) 3 := rd_ (hG_12 5 (by decide)) rfl
          have e74_53 : g55_12 53 = w5_2 53 := ((hG_12 53 (by decide))).trans (((hG_10 53 (by decide))).trans (hG_3 53 (by decide)))
          have e75_55 : g55_12 55 = w5_2 55 := ((hG_12 55 (by decide))).trans (((hG_10 55 (by decide))).trans (hG_3 55 (by decide)))
          have e76_56 : g55_12 56 = w5_2 56 := ((hG_12 56 (by decide))).trans (((hG_10 56 (by decide))).trans (hG_3 56 (by decide)))
          have e77_57 : g55_12 57 = w5_2 57 := ((hG_12 57 (by decide))).trans (((hG_10 57 (by decide))).trans (hG_3 57 (by decide)))
          have e78_5_3 : g55_12 5 3 = (g35_10 5) 3 := rd_ (hG_12 5 (by decide)) rfl
          have e79_55 : g55_12 55 = w5_2 55 := ((hG_12 55 (by decide))).trans (((hG_10 55 (by decide))).trans (hG_3 55 (by decide)))
          have e80_53 : g55_12 53 = w5_2 53 := ((hG_12 53 (by decide))).trans (((hG_10 53 (by decide))).trans (hG_3 53 (by decide)))
          have e81_55 : g55_12 55 = w5_2 55 := ((hG_12 55 (by decide))).trans (((hG_10 55 (by decide))).trans (hG_3 55 (by decide)))
          have e82_56 : g55_12 56 = w5_2 56 := ((hG_12 56 (by decide))).trans (((hG_10 56 (by decide))).trans (hG_3 56 (by decide)))
          have e83_57 : g55_12 57 = w5_2 57 := ((hG_12 57 (by decide))).trans (((hG_10 57 (by decide))).trans (hG_3 57 (by decide)))
          exact L60_13 ((((10 : Int) - (FS r)).toNat) + 1) (FS r) g55_12 hT_12 hF_12 (by first | omega | (simp [up, setR] <;> omega)) (by first | omega | (simp [up, setR] <;> omega)) (by rewrite [e70_5_1, e71_5_4]; first | omega | (simp [up, setR] <;> omega)) (by rewrite [e72_5_3]; first | omega | (simp [up, setR] <;> omega)) (by rewrite [e73_5_3, e74_53, e75_55, e76_56, e77_57]; rw [show FS r - FS r = 0 by omega]; exact ⟨rfl, by show _ = h 5 3 + 1; omega, fun j j0 j1 => ⟨fun q => by have p9 := (hpr j j0 j1).1 (by have q2 : h 54 j + 0 ≠ 0 := q; omega); rw [k53]; exact p9, by rw [k55]; exact (hpr j j0 j1).2, (hz6 j j0 (by omega)).1, (hz6 j j0 (by omega)).2⟩⟩) (by intro j j0 j1; rw [show FS r - FS r = 0 by omega]; rfl) (by rewrite [e78_5_3, e79_55]; intro j j0 j1; rw [k55]; have k9 := (hwb j j0 j1).1; omega) (by rewrite [e80_53, e81_55]; intro j _; rw [k53, k55]; exact ⟨rfl, rfl⟩) (by rewrite [e82_56, e83_57]; intro j j0 j1; have z9 := hz6 j j0 (by omega); have k9 := (hwb j (by omega) (by omega)).2; omega) (Nat.lt_succ_self _)
        · refine TT_iload_n hK rfl 0 rfl dX10_readHead_44 ?_
          refine TT_if_ne hK (tgt := 52) (irm (by omega) (by omega)) dX10_readHead_45 (by decide) (fun hb45_84 => ?_) (fun hb45_84 => ?_)
          · have f2 : (hdP o9 (h 5 4) (h 49) (h 50) (h 54) (FS r) (3 * r + 1 - FS r).toNat (h 5 3) P9 W9).1 = 1 := by
                unfold hdP
                rw [if_pos (by omega)]
            refine TT_iconst hK dX10_readHead_52 ?_
            refine TT_iret hK hQ ?_ dX10_readHead_53
            have e85_5_3 : g35_10 5 3 = (g35_10 5) 3 := rfl
            have e86_53 : g35_10 53 = w5_2 53 := ((hG_10 53 (by decide))).trans (hG_3 53 (by decide))
            have e87_55 : g35_10 55 = w5_2 55 := ((hG_10 55 (by decide))).trans (hG_3 55 (by decide))
            have e88_56 : g35_10 56 = w5_2 56 := ((hG_10 56 (by decide))).trans (hG_3 56 (by decide))
            have e89_57 : g35_10 57 = w5_2 57 := ((hG_10 57 (by decide))).trans (hG_3 57 (by decide))
            have e90_5_1 : g35_10 5 1 = (g35_10 5) 1 := rfl
            have e91_5_3 : g35_10 5 3 = (g35_10 5) 3 := rfl
            have e92_5_4 : g35_10 5 4 = (g35_10 5) 4 := rfl
            have e93_53 : g35_10 53 = w5_2 53 := ((hG_10 53 (by decide))).trans (hG_3 53 (by decide))
            have e94_55 : g35_10 55 = w5_2 55 := ((hG_10 55 (by decide))).trans (hG_3 55 (by decide))
            have e95_5_3 : g35_10 5 3 = (g35_10 5) 3 := rfl
            have e96_55 : g35_10 55 = w5_2 55 := ((hG_10 55 (by decide))).trans (hG_3 55 (by decide))
            have e97_56 : g35_10 56 = w5_2 56 := ((hG_10 56 (by decide))).trans (hG_3 56 (by decide))
            have e98_57 : g35_10 57 = w5_2 57 := ((hG_10 57 (by decide))).trans (hG_3 57 (by decide))
            exact ⟨⟨hT_10, hF_10⟩, 1, rfl, (by omega), (by exact f2.symm), (by rewrite [e85_5_3, e86_53, e87_55, e88_56, e89_57]; intro q; exfalso; omega), (by rewrite [e90_5_1, e91_5_3, e92_5_4]; omega), (by rewrite [e93_53, e94_55]; intro j _; rw [k53, k55]; exact ⟨rfl, rfl⟩), (by rewrite [e95_5_3, e96_55]; intro q; exfalso; omega), (by rewrite [e97_56, e98_57]; intro q; exfalso; omega)⟩
          · have f1 : (hdP o9 (h 5 4) (h 49) (h 50) (h 54) (FS r) (3 * r + 1 - FS r).toNat (h 5 3) P9 W9) = hs0 (h 5 3 + 1) P9 W9 := by
                unfold hdP
                rw [if_neg (by omega), if_pos (by omega)]
            refine TT_iconst hK dX10_readHead_48 ?_
            refine TT_goto hK (tgt := 53) dX10_readHead_49 (by decide) ?_
            refine TT_iret hK hQ ?_ dX10_readHead_53
            have e99_5_3 : g35_10 5 3 = (g35_10 5) 3 := rfl
            have e100_53 : g35_10 53 = w5_2 53 := ((hG_10 53 (by decide))).trans (hG_3 53 (by decide))
            have e101_55 : g35_10 55 = w5_2 55 := ((hG_10 55 (by decide))).trans (hG_3 55 (by decide))
            have e102_56 : g35_10 56 = w5_2 56 := ((hG_10 56 (by decide))).trans (hG_3 56 (by decide))
            have e103_57 : g35_10 57 = w5_2 57 := ((hG_10 57 (by decide))).trans (hG_3 57 (by decide))
            have e104_5_1 : g35_10 5 1 = (g35_10 5) 1 := rfl
            have e105_5_3 : g35_10 5 3 = (g35_10 5) 3 := rfl
            have e106_5_4 : g35_10 5 4 = (g35_10 5) 4 := rfl
            have e107_53 : g35_10 53 = w5_2 53 := ((hG_10 53 (by decide))).trans (hG_3 53 (by decide))
            have e108_55 : g35_10 55 = w5_2 55 := ((hG_10 55 (by decide))).trans (hG_3 55 (by decide))
            have e109_5_3 : g35_10 5 3 = (g35_10 5) 3 := rfl
            have e110_55 : g35_10 55 = w5_2 55 := ((hG_10 55 (by decide))).trans (hG_3 55 (by decide))
            have e111_56 : g35_10 56 = w5_2 56 := ((hG_10 56 (by decide))).trans (hG_3 56 (by decide))
            have e112_57 : g35_10 57 = w5_2 57 := ((hG_10 57 (by decide))).trans (hG_3 57 (by decide))
            exact ⟨⟨hT_10, hF_10⟩, 0, rfl, (by omega), (by rw [f1]; rfl), (by rewrite [e99_5_3, e100_53, e101_55, e102_56, e103_57]; intro _; rw [f1]; exact ⟨rfl, by show _ = h 5 3 + 1; omega, fun j j0 j1 => ⟨fun q => by have p9 := (hpr j j0 j1).1 (by have q2 : h 54 j + 0 ≠ 0 := q; omega); rw [k53]; exact p9, by rw [k55]; exact (hpr j j0 j1).2, (hz6 j j0 (by omega)).1, (hz6 j j0 (by omega)).2⟩⟩), (by rewrite [e104_5_1, e105_5_3, e106_5_4]; omega), (by rewrite [e107_53, e108_55]; intro j _; rw [k53, k55]; exact ⟨rfl, rfl⟩), (by rewrite [e109_5_3, e110_55]; intro _ j j0 j1; rw [k55]; have k9 := (hwb j j0 j1).1; omega), (by rewrite [e111_56, e112_57]; intro _ j j0 j1; have z9 := hz6 j j0 (by omega); have k9 := (hwb j (by omega) (by omega)).2; omega)⟩
      · refine TT_aload_n hK rfl 0 rfl dX10_readHead_13 ?_
        refine gf_X10_28 hK (by decide) rfl (q := 56) rfl rfl dX10_readHead_14 ?_
        refine TT_iload_n hK rfl 3 rfl dX10_readHead_17 ?_
        refine TT_iconst hK dX10_readHead_18 ?_
        refine TT_iast hK (o := 56) (n := 10) (by decide) rfl (by omega) (by omega) dX10_readHead_19 ?_
        refine TT_hp (h' := setO g7_3 56 (fup (w5_2 56) b1 0)) (up_can (hG_3 56 (by decide)) rfl rfl) ?_
        have hT_113 : TY (setO g7_3 56 (fup (w5_2 56) b1 0)) := tu_56 hT_3 (show up g7_3 56 b1 0 = (setO g7_3 56 (fup (w5_2 56) b1 0)) from up_can (hG_3 56 (by decide)) rfl rfl) (by omega)
        have hF_113 : FR [5, 53, 55, 56, 57] h (setO g7_3 56 (fup (w5_2 56) b1 0)) := FR_up (show up g7_3 56 b1 0 = (setO g7_3 56 (fup (w5_2 56) b1 0)) from up_can (hG_3 56 (by decide)) rfl rfl) hF_3 (by decide)
        refine TT_aload_n hK rfl 0 rfl dX10_readHead_20 ?_
        refine gf_X10_31 hK (by decide) rfl (q := 57) rfl rfl dX10_readHead_21 ?_
        refine TT_iload_n hK rfl 3 rfl dX10_readHead_24 ?_
        refine TT_iconst hK dX10_readHead_25 ?_
        refine TT_iast hK (o := 57) (n := 10) (by decide) rfl (by omega) (by omega) dX10_readHead_26 ?_
        refine TT_hp (h' := setO (setO g7_3 56 (fup (w5_2 56) b1 0)) 57 (fup (w5_2 57) b1 0)) (up_can ((sOf_ne _ _ (by decide)).trans (hG_3 57 (by decide))) rfl rfl) ?_
        have hT_114 : TY (setO (setO g7_3 56 (fup (w5_2 56) b1 0)) 57 (fup (w5_2 57) b1 0)) := tu_57 hT_113 (show up (setO g7_3 56 (fup (w5_2 56) b1 0)) 57 b1 0 = (setO (setO g7_3 56 (fup (w5_2 56) b1 0)) 57 (fup (w5_2 57) b1 0)) from up_can ((sOf_ne _ _ (by decide)).trans (hG_3 57 (by decide))) rfl rfl) (by omega)
        have hF_114 : FR [5, 53, 55, 56, 57] h (setO (setO g7_3 56 (fup (w5_2 56) b1 0)) 57 (fup (w5_2 57) b1 0)) := FR_up (show up (setO g7_3 56 (fup (w5_2 56) b1 0)) 57 b1 0 = (setO (setO g7_3 56 (fup (w5_2 56) b1 0)) 57 (fup (w5_2 57) b1 0)) from up_can ((sOf_ne _ _ (by decide)).trans (hG_3 57 (by decide))) rfl rfl) hF_113 (by decide)
        refine TT_iinc hK (v := b1 + 1) (lv' := [(3, vI (b1 + 1)), (0, vR 44), (1, vR 5), (2, vI r)]) 3 rfl rfl (by decide) rfl dX10_readHead_27 ?_
        refine TT_goto hK (tgt := 5) dX10_readHead_30 (by decide) ?_
        refine TT_sub [1, 2, 3, 0] rfl ?_
        have e115_53 : (setO (setO g7_3 56 (fup (w5_2 56) b1 0)) 57 (fup (w5_2 57) b1 0)) 53 = w5_2 53 := (sOf_ne _ _ (by decide)).trans ((sOf_ne _ _ (by decide)).trans (hG_3 53 (by decide)))
        have e116_55 : (setO (setO g7_3 56 (fup (w5_2 56) b1 0)) 57 (fup (w5_2 57) b1 0)) 55 = w5_2 55 := (sOf_ne _ _ (by decide)).trans ((sOf_ne _ _ (by decide)).trans (hG_3 55 (by decide)))
        have e117_5_3 : (setO (setO g7_3 56 (fup (w5_2 56) b1 0)) 57 (fup (w5_2 57) b1 0)) 5 3 = (w5_2 5) 3 := rd_ ((sOf_ne _ _ (by decide)).trans ((sOf_ne _ _ (by decide)).trans (hG_3 5 (by decide)))) rfl
        have e118_5_1 : (setO (setO g7_3 56 (fup (w5_2 56) b1 0)) 57 (fup (w5_2 57) b1 0)) 5 1 = (w5_2 5) 1 := rd_ ((sOf_ne _ _ (by decide)).trans ((sOf_ne _ _ (by decide)).trans (hG_3 5 (by decide)))) rfl
        have e119_5_4 : (setO (setO g7_3 56 (fup (w5_2 56) b1 0)) 57 (fup (w5_2 57) b1 0)) 5 4 = (w5_2 5) 4 := rd_ ((sOf_ne _ _ (by decide)).trans ((sOf_ne _ _ (by decide)).trans (hG_3 5 (by decide)))) rfl
        have e120_56 : (setO (setO g7_3 56 (fup (w5_2 56) b1 0)) 57 (fup (w5_2 57) b1 0)) 56 = fup (w5_2 56) b1 0 := (sOf_ne _ _ (by decide)).trans (sOf_eq _ _ _)
        have e121_57 : (setO (setO g7_3 56 (fup (w5_2 56) b1 0)) 57 (fup (w5_2 57) b1 0)) 57 = fup (w5_2 57) b1 0 := sOf_eq _ _ _
        exact ih2 (b1 + 1) (setO (setO g7_3 56 (fup (w5_2 56) b1 0)) 57 (fup (w5_2 57) b1 0)) hT_114 hF_114 (by first | omega | (simp [up, setR] <;> omega)) (by first | omega | (simp [up, setR] <;> omega)) (by rewrite [e115_53]; first | rfl | exact k53) (by rewrite [e116_55]; first | rfl | exact k55) (by rewrite [e117_5_3]; first | omega | (simp [up, setR] <;> omega)) (by rewrite [e118_5_1, e119_5_4]; first | omega | (simp [up, setR] <;> omega)) (by rewrite [e120_56, e121_57]; intro j j0 j1; by_cases e : j = b1; (rw [e, fup_eq, fup_eq]; exact ⟨rfl, rfl⟩); (rw [fup_ne _ _ e, fup_ne _ _ e]; exact hz6 j j0 (by omega))) (by first | omega | (simp [up, setR] <;> omega))
  refine TT_sub [1, 2, 3, 0] rfl ?_
  have e122_53 : g1_1 53 = h 53 := (hG_1 53 (by decide))
  have e123_55 : g1_1 55 = h 55 := (hG_1 55 (by decide))
  have e124_5_3 : g1_1 5 3 = (h 5) 3 := rd_ (hG_1 5 (by decide)) rfl
  have e125_5_1 : g1_1 5 1 = (h 5) 1 := rd_ (hG_1 5 (by decide)) rfl
  have e126_5_4 : g1_1 5 4 = (h 5) 4 := rd_ (hG_1 5 (by decide)) rfl
  have e127_56 : g1_1 56 = h 56 := (hG_1 56 (by decide))
  have e128_57 : g1_1 57 = h 57 := (hG_1 57 (by decide))
  exact L5_2 ((((10 : Int) - (FS r)).toNat) + 1) (FS r) g1_1 hT_1 hF_1 (by first | omega | (simp [up, setR] <;> omega)) (by first | omega | (simp [up, setR] <;> omega)) (by rewrite [e122_53]; first | rfl) (by rewrite [e123_55]; first | rfl) (by rewrite [e124_5_3]; first | omega | (simp [up, setR] <;> omega)) (by rewrite [e125_5_1, e126_5_4]; first | omega | (simp [up, setR] <;> omega)) (by rewrite [e127_56, e128_57]; intro j j0 j1; exfalso; omega) (Nat.lt_succ_self _)

/-! a packet: heads, then words -/
abbrev DT_ := (Int → Int) × (Int → Int) × (Int → Int) × (Int → Int) × (Int → Int → Int)
abbrev PY_ := PBS_ × (Int → Int)
def tkF (D : DT_) (n i c : Int) : Int := pas (D.1 c) * i / n
def loF (D : DT_) (n i c : Int) : Int := D.2.1 (35 * c + tkF D n (i - 1) c)
def szF (D : DT_) (n i c : Int) : Int := D.2.1 (35 * c + tkF D n i c) - D.2.1 (35 * c + tkF D n (i - 1) c)
def hd1S (D : DT_) (n i b : Int) (y : PY_) : PY_ := if D.2.2.1 b = 0 ∨ D.2.2.2.1 b = 0 then y else (hdS (D.1 b) (tkF D n (i - 1) b) (tkF D n i b - tkF D n (i - 1) b) (y.2 b) (szF D n i b) y.1, fup y.2 b (wdS (tkF D n i b - tkF D n (i - 1) b) (y.2 b) (szF D n i b)))
def hdsS (D : DT_) (n i f : Int) : Nat → PY_ → PY_
  | 0, y => y
  | k + 1, y => hd1S D n i (f + (k : Int)) (hdsS D n i f k y)
def anS (D : DT_) (n i f : Int) : Nat → Int
  | 0 => 0
  | k + 1 => if anS D n i f k = 1 ∨ tkF D n (i - 1) (f + (k : Int)) < tkF D n i (f + (k : Int)) then 1 else 0
def adS (v : Int) (s : PBS_) : PBS_ := (s.1 + 1, 0, fup s.2.2 s.1 v)
def wrS (g : Int → Int) (a : Int) : Nat → PBS_ → PBS_
  | 0, s => s
  | k + 1, s => adS (g (a + (k : Int))) (wrS g a k s)
def wdsS (D : DT_) (n i f : Int) : Nat → PBS_ → PBS_
  | 0, s => s
  | k + 1, s => wrS (D.2.2.2.2 (f + (k : Int))) (loF D n i (f + (k : Int))) (szF D n i (f + (k : Int))).toNat (wdsS D n i f k s)
def heS (D : DT_) (n i r : Int) (y : PY_) : PY_ := if anS D n i (FS r) (3 * r + 1 - FS r).toNat = 0 then (putS 0 1 y.1, y.2) else hdsS D n i (FS r) (3 * r + 1 - FS r).toNat (putS 1 1 y.1, y.2)
def pkS (D : DT_) (n i r : Int) (y : PY_) : PY_ := (wdsS D n i (FS r) (3 * r + 1 - FS r).toNat (endB (heS D n i r y).1), (heS D n i r y).2)
theorem anS_r (D : DT_) (n i f : Int) (k : Nat) : 0 ≤ anS D n i f k ∧ anS D n i f k ≤ 1 := by
  cases k with
  | zero => exact ⟨Int.le_refl _, (show (0 : Int) ≤ 1 by decide)⟩
  | succ k =>
    show 0 ≤ (if anS D n i f k = 1 ∨ tkF D n (i - 1) (f + (k : Int)) < tkF D n i (f + (k : Int)) then (1 : Int) else 0) ∧ (if anS D n i f k = 1 ∨ tkF D n (i - 1) (f + (k : Int)) < tkF D n i (f + (k : Int)) then (1 : Int) else 0) ≤ 1
    split <;> omega
theorem anS_s {D : DT_} {n i f b A z : Int} (hb : f ≤ b) (hA : A = anS D n i f (b - f).toNat) (hz : (z = 1 ∧ (A = 1 ∨ tkF D n (i - 1) b < tkF D n i b)) ∨ (z = 0 ∧ ¬(A = 1 ∨ tkF D n (i - 1) b < tkF D n i b))) : z = anS D n i f (b + 1 - f).toNat := by
  rw [show (b + 1 - f).toNat = (b - f).toNat + 1 by omega]
  show z = if anS D n i f (b - f).toNat = 1 ∨ tkF D n (i - 1) (f + ((b - f).toNat : Int)) < tkF D n i (f + ((b - f).toNat : Int)) then 1 else 0
  rw [show f + ((b - f).toNat : Int) = b by omega, ← hA]
  rcases hz with ⟨h1, h2⟩ | ⟨h1, h2⟩
  · rw [if_pos h2]; exact h1
  · rw [if_neg h2]; exact h1
theorem anS_z {D : DT_} {n i f : Int} : ∀ (k : Nat), anS D n i f k = 0 → ∀ b : Int, f ≤ b → b < f + (k : Int) → ¬ tkF D n (i - 1) b < tkF D n i b
  | 0, _, b, h1, h2 => by exfalso; omega
  | k + 1, h, b, h1, h2 => by
    have e : (if anS D n i f k = 1 ∨ tkF D n (i - 1) (f + (k : Int)) < tkF D n i (f + (k : Int)) then (1 : Int) else 0) = 0 := h
    by_cases c : anS D n i f k = 1 ∨ tkF D n (i - 1) (f + (k : Int)) < tkF D n i (f + (k : Int))
    · rw [if_pos c] at e; omega
    · have r := anS_r D n i f k
      by_cases e2 : b = f + (k : Int)
      · rw [e2]; exact fun q => c (Or.inr q)
      · exact anS_z k (by have : ¬ anS D n i f k = 1 := fun q => c (Or.inl q); omega) b h1 (by omega)
theorem hdsS_s {D : DT_} {n i f b : Int} {y : PY_} (hb : f ≤ b) : hdsS D n i f (b + 1 - f).toNat y = hd1S D n i b (hdsS D n i f (b - f).toNat y) := by
  rw [show (b + 1 - f).toNat = (b - f).toNat + 1 by omega]
  show hd1S D n i (f + ((b - f).toNat : Int)) (hdsS D n i f (b - f).toNat y) = _
  rw [show f + ((b - f).toNat : Int) = b by omega]
theorem wdsS_s {D : DT_} {n i f b : Int} {s : PBS_} (hb : f ≤ b) : wdsS D n i f (b + 1 - f).toNat s = wrS (D.2.2.2.2 b) (loF D n i b) (szF D n i b).toNat (wdsS D n i f (b - f).toNat s) := by
  rw [show (b + 1 - f).toNat = (b - f).toNat + 1 by omega]
  show wrS (D.2.2.2.2 (f + ((b - f).toNat : Int))) (loF D n i (f + ((b - f).toNat : Int))) (szF D n i (f + ((b - f).toNat : Int))).toNat (wdsS D n i f (b - f).toNat s) = _
  rw [show f + ((b - f).toNat : Int) = b by omega]
theorem wrS_u {g : Int → Int} {a : Int} : ∀ (k : Nat) {s : PBS_}, 0 ≤ s.1 ∧ s.2.1 = 0 → (0 ≤ (wrS g a k s).1 ∧ (wrS g a k s).2.1 = 0) ∧ (wrS g a k s).1 = s.1 + (k : Int)
  | 0, s, h => ⟨h, by show s.1 = s.1 + ((0 : Nat) : Int); omega⟩
  | k + 1, s, h => by
    have i := wrS_u (g := g) (a := a) k h
    refine ⟨⟨?_, rfl⟩, ?_⟩
    · show 0 ≤ (wrS g a k s).1 + 1
      omega
    · show (wrS g a k s).1 + 1 = _
      omega
theorem wdsS_u {D : DT_} {n i f : Int} : ∀ (k : Nat) {s : PBS_}, 0 ≤ s.1 ∧ s.2.1 = 0 → 0 ≤ (wdsS D n i f k s).1 ∧ (wdsS D n i f k s).2.1 = 0
  | 0, _, h => h
  | k + 1, _, h => (wrS_u _ (wdsS_u k h)).1
theorem wdsS_0 {D : DT_} {n i f : Int} {s : PBS_} : ∀ (k : Nat), (∀ b : Int, f ≤ b → b < f + (k : Int) → szF D n i b = 0) → wdsS D n i f k s = s
  | 0, _ => rfl
  | k + 1, h => by
    show wrS (D.2.2.2.2 (f + (k : Int))) (loF D n i (f + (k : Int))) (szF D n i (f + (k : Int))).toNat (wdsS D n i f k s) = s
    rw [h (f + (k : Int)) (by omega) (by omega), wdsS_0 k (fun b h1 h2 => h b h1 (by omega))]
    rfl
theorem wrS_sh {g : Int → Int} {c a : Int} : ∀ (k : Nat) {s : PBS_}, wrS g (c + a) k s = wrS (fun i => g (c + i)) a k s
  | 0, _ => rfl
  | k + 1, s => by
    show adS (g (c + a + (k : Int))) (wrS g (c + a) k s) = adS (g (c + (a + (k : Int)))) (wrS (fun i => g (c + i)) a k s)
    rw [wrS_sh k, Int.add_assoc]
theorem endB_u {s : PBS_} (h : PBQ s) : 0 ≤ (endB s).1 ∧ (endB s).2.1 = 0 := by
  refine ⟨?_, rfl⟩
  show 0 ≤ if 0 < s.2.1 then s.1 + 1 else s.1
  have := h.1
  split <;> omega
theorem endB_n {s : PBS_} {m : Int} (h : PBQ s) (hm : 8 * s.1 + s.2.1 ≤ 8 * m) : (endB s).1 ≤ m := by
  show (if 0 < s.2.1 then s.1 + 1 else s.1) ≤ m
  have := h.2.1
  split <;> omega
theorem PBQ_u {s : PBS_} (h : 0 ≤ s.1 ∧ s.2.1 = 0) : PBQ s := ⟨h.1, by omega, fun q => by exfalso; omega⟩
theorem CBR_a {n f v : Int} {o : Int → Int} {s : PBS_} (h : CBR n f o s) (hu : 0 ≤ s.1 ∧ s.2.1 = 0) : CBR (n + 1) 0 (fup o n v) (adS v s) := by
  obtain ⟨q1, q2, q3⟩ := h
  rw [if_neg (by omega)] at q1
  have e : n = s.1 := by omega
  refine ⟨?_, (show (0 : Int) = if (0 : Int) < 0 then 8 - 0 else 0 from (if_neg (by decide)).symm), fun j j0 j1 => ?_⟩
  · show n + 1 = s.1 + 1 + if (0 : Int) < 0 then 1 else 0
    rw [if_neg (show ¬ (0 : Int) < 0 by decide)]
    omega
  · show fup o n v j = fup s.2.2 s.1 v j
    rw [e]
    by_cases c : j = s.1
    · rw [c, fup_eq, fup_eq]
    · rw [fup_ne _ _ c, fup_ne _ _ c]
      exact q3 j j0 (by omega)
theorem CBR_l {n f : Int} {o : Int → Int} {s : PBS_} (h : CBR n f o s) (hu : 0 ≤ s.1 ∧ s.2.1 = 0) : n = s.1 ∧ f = 0 := by
  obtain ⟨q1, q2, -⟩ := h
  rw [if_neg (by omega)] at q1 q2
  exact ⟨by omega, q2⟩
/-- the widths of lengths, and the state of putting -/
def PKW (cnt : Int) (w : Int → Int) (y : PY_) : Prop := PBQ y.1 ∧ ∀ j : Int, 0 ≤ j → j < cnt → w j = y.2 j ∧ 3 ≤ y.2 j ∧ y.2 j ≤ 10
theorem PKW_s {cnt : Int} {w : Int → Int} {y : PY_} {t : PBS_} (h : PKW cnt w y) (ht : PBQ t) : PKW cnt w (t, y.2) := ⟨ht, h.2⟩
theorem hd1S_e {D : DT_} {n i b : Int} {y : PY_} (h : D.2.2.1 b = 0 ∨ D.2.2.2.1 b = 0) : hd1S D n i b y = y := if_pos h
theorem hd1S_p {D : DT_} {n i b : Int} {y : PY_} (h : ¬(D.2.2.1 b = 0 ∨ D.2.2.2.1 b = 0)) : hd1S D n i b y = (hdS (D.1 b) (tkF D n (i - 1) b) (tkF D n i b - tkF D n (i - 1) b) (y.2 b) (szF D n i b) y.1, fup y.2 b (wdS (tkF D n i b - tkF D n (i - 1) b) (y.2 b) (szF D n i b))) := if_neg h
theorem PKW_h {cnt n i b v : Int} {D : DT_} {w : Int → Int} {y : PY_} (hc : ¬(D.2.2.1 b = 0 ∨ D.2.2.2.1 b = 0)) (h : PKW cnt w y) (hb : 0 ≤ b ∧ b < cnt) (hz : 0 ≤ szF D n i b ∧ szF D n i b ≤ 1023) (hn : tkF D n i b - tkF D n (i - 1) b ≤ 37) (hv : v = wdS (tkF D n i b - tkF D n (i - 1) b) (w b) (szF D n i b)) : PKW cnt (fup w b v) (hd1S D n i b y) ∧ 8 * (hd1S D n i b y).1.1 + (hd1S D n i b y).1.2.1 ≤ 8 * y.1.1 + y.1.2.1 + 37 := by
  obtain ⟨h1, h2⟩ := h
  have hw := h2 b hb.1 hb.2
  have k := hdS_n (pl := D.1 b) (had := tkF D n (i - 1) b) h1 hw.2 hz hn
  rw [hd1S_p hc]
  refine ⟨⟨k.1.1, fun j j0 j1 => ?_⟩, k.1.2.2⟩
  show fup w b v j = fup y.2 b (wdS (tkF D n i b - tkF D n (i - 1) b) (y.2 b) (szF D n i b)) j ∧ 3 ≤ fup y.2 b (wdS (tkF D n i b - tkF D n (i - 1) b) (y.2 b) (szF D n i b)) j ∧ fup y.2 b (wdS (tkF D n i b - tkF D n (i - 1) b) (y.2 b) (szF D n i b)) j ≤ 10
  by_cases e : j = b
  · rw [e, fup_eq, fup_eq, hv, hw.1]
    exact ⟨rfl, k.2⟩
  · rw [fup_ne _ _ e, fup_ne _ _ e]
    exact h2 j j0 j1
theorem tkF_r {D : DT_} {n i b : Int} (hp : 0 ≤ D.1 b ∧ D.1 b ≤ 12) (hi : 1 ≤ i ∧ i ≤ n) (hn : n ≤ 3) : 0 ≤ tkF D n (i - 1) b ∧ tkF D n (i - 1) b ≤ tkF D n i b ∧ tkF D n i b ≤ pas (D.1 b) ∧ pas (D.1 b) ≤ 34 := by
  have p := pas_34 hp
  unfold tkF
  generalize pas (D.1 b) = x at p ⊢
  rcases (show i = 1 ∨ i = 2 ∨ i = 3 by omega) with rfl | rfl | rfl <;> rcases (show n = 1 ∨ n = 2 ∨ n = 3 by omega) with rfl | rfl | rfl <;> omega
theorem an_z {D : DT_} {n i r : Int} (h : anS D n i (FS r) (3 * r + 1 - FS r).toNat = 0) (hr : 0 ≤ r ∧ r ≤ 3) (hp : ∀ b : Int, FS r ≤ b → b < 3 * r + 1 → tkF D n (i - 1) b ≤ tkF D n i b) : ∀ b : Int, FS r ≤ b → b < FS r + ((3 * r + 1 - FS r).toNat : Int) → szF D n i b = 0 := by
  intro b h1 h2
  have f := FS_r hr
  have k := anS_z _ h b h1 h2
  have e : tkF D n i b = tkF D n (i - 1) b := by
    have := hp b h1 (by omega)
    omega
  unfold szF
  rw [e]
  omega
theorem LQ_sz {n i b cnt : Int} {D : DT_} {ws : Int → Int} (hlq : LQ D.1 ws D.2.1 cnt) (hp : 0 ≤ D.1 b ∧ D.1 b ≤ 12) (hi : 1 ≤ i ∧ i ≤ n) (hn : n ≤ 3) (hb : (0 ≤ b ∧ b < cnt) ∧ b < 10) (hw : ws b ≤ 1000) (h0 : ∀ j : Int, 0 ≤ j → j < 350 → 0 ≤ D.2.1 j) : (0 ≤ szF D n i b ∧ szF D n i b ≤ 1023) ∧ 0 ≤ loF D n i b ∧ loF D n i b + szF D n i b ≤ ws b := by
  have t := tkF_r hp hi hn
  have k := hlq b hb.1.1 hb.1.2 (tkF D n (i - 1) b) (tkF D n i b) t.1 t.2.1 (by omega) t.2.2.1
  have z := h0 (35 * b + tkF D n (i - 1) b) (by omega) (by omega)
  unfold szF loF
  omega
theorem PK_z {D : DT_} {n i r : Int} {s : PBS_} {W : Int → Int} (h : anS D n i (FS r) (3 * r + 1 - FS r).toNat = 0) (hr : 0 ≤ r ∧ r ≤ 3) (hp : ∀ b : Int, FS r ≤ b → b < 3 * r + 1 → tkF D n (i - 1) b ≤ tkF D n i b) : pkS D n i r (s, W) = (endB (putS 0 1 s), W) := by
  have e : heS D n i r (s, W) = (putS 0 1 s, W) := if_pos h
  unfold pkS
  rw [e, wdsS_0 _ (an_z h hr hp)]
theorem PK_n {D : DT_} {n i r b : Int} {y : PY_} (h : anS D n i (FS r) (3 * r + 1 - FS r).toNat ≠ 0) (hb : b = 3 * r + 1) : heS D n i r y = hdsS D n i (FS r) (b - FS r).toNat (putS 1 1 y.1, y.2) := by
  rw [hb]
  exact if_neg h
theorem GT_w {t1 ll ws pl : Int → Int} {c b : Int} (hlq : LQ pl ws ll c) (hb : b ≤ c) (h1 : ∀ k : Int, 0 ≤ k → k < b → 0 ≤ t1 k ∧ t1 k ≤ pas (pl k) ∧ pas (pl k) ≤ 34) : ∀ k : Int, 0 ≤ k → k < b → GT ll t1 k ≤ ws k := fun k k0 k1 => (hlq k k0 (by omega) (t1 k) (t1 k) (h1 k k0 k1).1 (Int.le_refl _) (by have := h1 k k0 k1; omega) (h1 k k0 k1).2.1).2
set_option maxRecDepth 20000 in
theorem s_addFrom5_e (S9 : PBS_) (s n : Int) (h : Hp_) (hT : TY h) (hs : -2147483648 ≤ s ∧ s ≤ 2147483647) (hn : -2147483648 ≤ n ∧ n ≤ 2147483647) (hcb : CBR (h 5 1) (h 5 2) (h 6) S9) (hu : 0 ≤ S9.1 ∧ S9.2.1 = 0) (hsn : 0 ≤ s ∧ 0 ≤ n ∧ s + n ≤ (h 22 1)) (hcap : S9.1 + n ≤ 1024) : Ctr yX1_addFrom cX1_addFrom 5 none (rmd 1) ly ly 0 0 [vR 5, vR 22, vI s, vI n] h (fun r h' => (TY h' ∧ FR [5, 6] h h') ∧ r = none ∧ (CBR (h' 5 1) (h' 5 2) (h' 6) (wrS (h 23) s n.toNat S9))) := by
  refine Ctr_of (by decide) (Nat.le_of_ble_eq_true rfl) ⟨Nat.le_refl _, Nat.le_refl _⟩ (fun K hK hQ _ => ?_)
  show TT K ly 0 0 0 [(0, vR 5), (1, vR 22), (2, vI s), (3, vI n)] [] h
  have hF : FR [5, 6] h h := FR_rf _ _
  have r22 := ty_22_1 (v := h 22 1) hT rfl
  refine TT_iconst hK dX1_addFrom_0 ?_
  refine TT_istore hK (lv' := [(4, vI 0), (0, vR 5), (1, vR 22), (2, vI s), (3, vI n)]) (by decide) rfl dX1_addFrom_1 ?_
  have L3_1 : ∀ (k1 : Nat) (i : Int) (w3_1 : Hp_), TY w3_1 → FR [5, 6] h w3_1 → (0 ≤ i ∧ (i ≤ n ∨ i = 0)) → (i ≤ n) → (CBR (w3_1 5 1) (w3_1 5 2) (w3_1 6) (wrS (h 23) s i.toNat S9)) → (n - i).toNat < k1 → TT K ly 0 0 3 [(0, vR 5), (1, vR 22), (2, vI s), (3, vI n), (4, vI i)] [] w3_1 := by
    intro k1
    induction k1 with
    | zero => intro i w3_1 hT3_1 hF3_1 hi hin hC hk1; exact absurd hk1 (Nat.not_lt_zero _)
    | succ k1 ih1 =>
      intro i w3_1 hT3_1 hF3_1 hi hin hC hk1
      have wu9 := wrS_u (g := h 23) (a := s) i.toNat hu
      have cl9 := CBR_l hC wu9.1
      refine TT_iload hK 4 rfl dX1_addFrom_3 ?_
      refine TT_iload_n hK rfl 3 rfl dX1_addFrom_5 ?_
      refine TT_icmp_ge hK (tgt := 27) (irm (by omega) (by omega)) (irm (by omega) (by omega)) dX1_addFrom_6 (by decide) (fun hb6_2 => ?_) (fun hb6_2 => ?_)
      · refine TT_vret hK hQ ?_ dX1_addFrom_27
        have e3_5_1 : w3_1 5 1 = (w3_1 5) 1 := rfl
        have e4_5_2 : w3_1 5 2 = (w3_1 5) 2 := rfl
        exact ⟨⟨hT3_1, hF3_1⟩, rfl, (by rewrite [e3_5_1, e4_5_2]; rw [show n.toNat = i.toNat by omega]; exact hC)⟩
      · refine TT_aload_n hK rfl 0 rfl dX1_addFrom_9 ?_
        refine TT_aload_n hK rfl 1 rfl dX1_addFrom_10 ?_
        refine TT_iload_n hK rfl 2 rfl dX1_addFrom_11 ?_
        refine TT_iload hK 4 rfl dX1_addFrom_12 ?_
        refine TT_iadd hK dX1_addFrom_14 ?_
        refine iv_X1_26 hK (s_X1_at_22 (s + i) w3_1 hT3_1 (by first | omega | (simp [up, setR] <;> omega))) (by decide) rfl ⟨by decide, by decide⟩ (by decide) rfl rfl (Nat.le_of_ble_eq_true rfl) ⟨by decide, by decide⟩ dX1_addFrom_15 ?_
        intro r9 g15_5 hp9
        obtain ⟨⟨hT_5, hG_5⟩, z15_5, hr9, hz_5, p1_5⟩ := hp9
        rw [hr9]
        have hF_5 : FR [5, 6] h g15_5 := FR_tr hF3_1 hG_5 (by decide)
        rw [show w3_1 22 1 = (h 22) 1 from rd_ (hF3_1 22 (by decide)) rfl] at p1_5
        rw [show w3_1 23 = h 23 from (hF3_1 23 (by decide))] at p1_5
        have p1_at15 := p1_5
        show TT K ly 0 0 18 [(0, vR 5), (1, vR 22), (2, vI s), (3, vI n), (4, vI i)] [vI z15_5, vR 5] g15_5
        refine iv_X1_30 hK (s_add5_e z15_5 g15_5 hT_5 (by first | omega | (simp [up, setR] <;> omega))) (by decide) rfl ⟨by decide, by decide⟩ (by decide) rfl rfl (Nat.le_of_ble_eq_true rfl) ⟨by decide, by decide⟩ dX1_addFrom_18 ?_
        intro r9 g18_6 hp9
        obtain ⟨⟨hT_6, hG_6⟩, hr9, ea_6, e2_6⟩ := hp9
        rw [hr9]
        have hF_6 : FR [5, 6] h g18_6 := FR_tr hF_5 hG_6 (by decide)
        rw [show g15_5 5 1 = (w3_1 5) 1 from rd_ (hG_5 5 (by decide)) rfl] at ea_6
        rw [show g15_5 6 = w3_1 6 from (hG_5 6 (by decide))] at ea_6
        have ea_at18 := ea_6
        have e2_at18 := e2_6
        show TT K ly 0 0 21 [(0, vR 5), (1, vR 22), (2, vI s), (3, vI n), (4, vI i)] [] g18_6
        refine TT_iinc hK (v := i + 1) (lv' := [(4, vI (i + 1)), (0, vR 5), (1, vR 22), (2, vI s), (3, vI n)]) 4 rfl rfl (by decide) rfl dX1_addFrom_21 ?_
        refine TT_goto hK (tgt := 3) dX1_addFrom_24 (by decide) ?_
        refine TT_sub [1, 2, 3, 4, 0] rfl ?_
        have e7_5_1 : g18_6 5 1 = (g18_6 5) 1 := rfl
        have e8_5_2 : g18_6 5 2 = (g18_6 5) 2 := rfl
        exact ih1 (i + 1) g18_6 hT_6 hF_6 (by first | omega | (simp [up, setR] <;> omega)) (by first | omega | (simp [up, setR] <;> omega)) (by rewrite [e7_5_1, e8_5_2]; have ea := ea_at18 (by omega); rw [ea.1, ea.2, e2_at18, p1_at15.1 (by omega), show (i + 1).toNat = i.toNat + 1 by omega]; show CBR _ _ _ (adS (h 23 (s + (i.toNat : Int))) (wrS (h 23) s i.toNat S9)); rw [show s + (i.toNat : Int) = s + i by omega]; exact CBR_a hC wu9.1) (by first | omega | (simp [up, setR] <;> omega))
  refine TT_sub [1, 2, 3, 4, 0] rfl ?_
  have e9_5_1 : h 5 1 = (h 5) 1 := rfl
  have e10_5_2 : h 5 2 = (h 5) 2 := rfl
  exact L3_1 (((n - 0).toNat) + 1) 0 h hT hF (by first | omega | (simp [up, setR] <;> omega)) (by first | omega | (simp [up, setR] <;> omega)) (by rewrite [e9_5_1, e10_5_2]; exact hcb) (Nat.lt_succ_self _)
set_option maxRecDepth 20000 in
theorem s_firstBandOf_e (r : Int) (h : Hp_) (hT : TY h) (hr : 0 ≤ r ∧ r ≤ 3) : Ctr yX11_firstBandOf cX11_firstBandOf 1 (some .int) (rmd 0) ly ly 0 0 [vI r] h (fun rz h' => (TY h' ∧ FR [] h h') ∧ ∃ z : Int, rz = some (vI z) ∧ (0 ≤ z ∧ z ≤ 7) ∧ (z = FS r)) := by
  refine Ctr_of (by decide) (Nat.le_of_ble_eq_true rfl) ⟨Nat.le_refl _, Nat.le_refl _⟩ (fun K hK hQ _ => ?_)
  show TT K ly 0 0 0 [(0, vI r)] [] h
  have hF : FR [] h h := FR_rf _ _
  refine TT_iload_n hK rfl 0 rfl dX11_firstBandOf_0 ?_
  refine TT_if_ne hK (tgt := 8) (irm (by omega) (by omega)) dX11_firstBandOf_1 (by decide) (fun hb1_1 => ?_) (fun hb1_1 => ?_)
  · refine TT_iconst hK dX11_firstBandOf_8 ?_
    refine TT_iload_n hK rfl 0 rfl dX11_firstBandOf_9 ?_
    refine TT_imul hK dX11_firstBandOf_10 ?_
    refine TT_iconst hK dX11_firstBandOf_11 ?_
    refine TT_isub hK dX11_firstBandOf_12 ?_
    refine TT_iret hK hQ ?_ dX11_firstBandOf_13
    exact ⟨⟨hT, hF⟩, ((3 * r) - 2), rfl, (by omega), (by unfold FS; first | rw [if_pos (by omega)] | rw [if_neg (by omega)])⟩
  · refine TT_iconst hK dX11_firstBandOf_4 ?_
    refine TT_goto hK (tgt := 13) dX11_firstBandOf_5 (by decide) ?_
    refine TT_iret hK hQ ?_ dX11_firstBandOf_13
    exact ⟨⟨hT, hF⟩, 0, rfl, (by omega), (by unfold FS; first | rw [if_pos (by omega)] | rw [if_neg (by omega)])⟩
set_option maxRecDepth 20000 in
theorem s_lastBandOf_e (r : Int) (h : Hp_) (hT : TY h) (hr : 0 ≤ r ∧ r ≤ 3) : Ctr yX11_lastBandOf cX11_lastBandOf 1 (some .int) (rmd 0) ly ly 0 0 [vI r] h (fun rz h' => (TY h' ∧ FR [] h h') ∧ ∃ z : Int, rz = some (vI z) ∧ (0 ≤ z ∧ z ≤ 9) ∧ (z = 3 * r)) := by
  refine Ctr_of (by decide) (Nat.le_of_ble_eq_true rfl) ⟨Nat.le_refl _, Nat.le_refl _⟩ (fun K hK hQ _ => ?_)
  show TT K ly 0 0 0 [(0, vI r)] [] h
  have hF : FR [] h h := FR_rf _ _
  refine TT_iconst hK dX11_lastBandOf_0 ?_
  refine TT_iload_n hK rfl 0 rfl dX11_lastBandOf_1 ?_
  refine TT_imul hK dX11_lastBandOf_2 ?_
  refine TT_iret hK hQ ?_ dX11_lastBandOf_3
  exact ⟨⟨hT, hF⟩, (3 * r), rfl, (by omega), (by omega)⟩
set_option maxRecDepth 20000 in
theorem s_passesUpTo_e (b a n : Int) (h : Hp_) (hT : TY h) (hb : 0 ≤ b ∧ b ≤ 9) (ha : 1 ≤ a ∧ a ≤ n) (hn : n ≤ 3) : Ctr yX3_passesUpTo cX3_passesUpTo 4 (some .int) (rmd 1) ly ly 0 0 [vR 7, vI b, vI a, vI n] h (fun r h' => (TY h' ∧ FR [] h h') ∧ ∃ z : Int, r = some (vI z) ∧ (0 ≤ z ∧ z ≤ 34) ∧ (z = pas ((h 16) b) * a / n)) := by
  refine Ctr_of (by decide) (Nat.le_of_ble_eq_true rfl) ⟨Nat.le_refl _, Nat.le_refl _⟩ (fun K hK hQ _ => ?_)
  show TT K ly 0 0 0 [(0, vR 7), (1, vI b), (2, vI a), (3, vI n)] [] h
  have hF : FR [] h h := FR_rf _ _
  refine TT_iload_n hK rfl 3 rfl dX3_passesUpTo_0 ?_
  refine TT_if_le hK (tgt := 20) (irm (by omega) (by omega)) dX3_passesUpTo_1 (by decide) (fun hb1_1 => ?_) (fun hb1_1 => ?_)
  · refine TT_iconst hK dX3_passesUpTo_20 ?_
    refine TT_iret hK hQ ?_ dX3_passesUpTo_21
    exact ⟨⟨hT, hF⟩, 0, rfl, (by omega), (by first | (exfalso; omega))⟩
  · refine TT_iload_n hK rfl 2 rfl dX3_passesUpTo_4 ?_
    refine TT_aload_n hK rfl 0 rfl dX3_passesUpTo_5 ?_
    refine gf_X3_18 hK (by decide) rfl (q := 16) rfl rfl dX3_passesUpTo_6 ?_
    refine TT_iload_n hK rfl 1 rfl dX3_passesUpTo_9 ?_
    refine TT_iald hK (o := 16) (n := 10) (by decide) rfl (by first | omega | (simp [up, setR] <;> omega)) (by first | omega | (simp [up, setR] <;> omega)) (v := (h 16) b) rfl dX3_passesUpTo_10 ?_
    have r2 := ty_16 (i := b) (v := (h 16) b) hT rfl (by omega) (by omega)
    refine iv_X3_85 hK (s_cpassesOf_e ((h 16) b) h hT (by first | omega | (simp [up, setR] <;> omega))) ⟨by decide, by decide⟩ (by decide) rfl rfl (Nat.le_of_ble_eq_true rfl) ⟨by decide, by decide⟩ dX3_passesUpTo_11 ?_
    intro r9 g11_3 hp9
    obtain ⟨⟨hT_3, hG_3⟩, z11_3, hr9, hz_3, e_3⟩ := hp9
    rw [hr9]
    have hF_3 : FR [] h g11_3 := FR_tr hF hG_3 (by decide)
    have e_at11 := e_3
    show TT K ly 0 0 14 [(0, vR 7), (1, vI b), (2, vI a), (3, vI n)] [vI z11_3, vI a] g11_3
    refine TT_imul hK dX3_passesUpTo_14 ?_
    refine TT_nmI (fun m9 hm9 => ?_)
    refine TT_iload_n hK rfl 3 rfl dX3_passesUpTo_15 ?_
    have hm := pu1 hm9 ha hn (by omega)
    refine TT_idivn hK (irm (by omega) (by omega)) (irm (by omega) (by omega)) (by first | omega | (simp [up, setR] <;> omega)) (by first | omega | (simp [up, setR] <;> omega)) dX3_passesUpTo_16 ?_
    refine TT_goto hK (tgt := 21) dX3_passesUpTo_17 (by decide) ?_
    refine TT_iret hK hQ ?_ dX3_passesUpTo_21
    exact ⟨⟨hT_3, hF_3⟩, (m9 / n), rfl, (by omega), (by first | (rw [hm9, e_at11, Int.mul_comm]) | (exfalso; omega))⟩
set_option maxRecDepth 20000 in
theorem s_isEmpty_e (b : Int) (h : Hp_) (hT : TY h) (hb : 0 ≤ b ∧ b ≤ 9) : Ctr yX0_isEmpty cX0_isEmpty 2 (some .boolean) (rmd 0) ly ly 0 0 [vR 8, vI b] h (fun r h' => (TY h' ∧ FR [] h h') ∧ ∃ z : Int, r = some (vI z) ∧ (0 ≤ z ∧ z ≤ 1) ∧ ((z = 1 → (h 12) b = 0 ∨ (h 13) b = 0) ∧ (z = 0 → ¬((h 12) b = 0 ∨ (h 13) b = 0)))) := by
  refine Ctr_of (by decide) (Nat.le_of_ble_eq_true rfl) ⟨Nat.le_refl _, Nat.le_refl _⟩ (fun K hK hQ _ => ?_)
  show TT K ly 0 0 0 [(0, vR 8), (1, vI b)] [] h
  have hF : FR [] h h := FR_rf _ _
  refine TT_aload_n hK rfl 0 rfl dX0_isEmpty_0 ?_
  refine gf_X0_21 hK (by decide) rfl (q := 12) rfl rfl dX0_isEmpty_1 ?_
  refine TT_iload_n hK rfl 1 rfl dX0_isEmpty_4 ?_
  refine TT_iald hK (o := 12) (n := 10) (by decide) rfl (by first | omega | (simp [up, setR] <;> omega)) (by first | omega | (simp [up, setR] <;> omega)) (v := (h 12) b) rfl dX0_isEmpty_5 ?_
  have r1 := ty_12 (i := b) (v := (h 12) b) hT rfl (by omega) (by omega)
  refine TT_if_eq hK (tgt := 18) (irm (by omega) (by omega)) dX0_isEmpty_6 (by decide) (fun hb6_2 => ?_) (fun hb6_2 => ?_)
  · refine TT_iconst hK dX0_isEmpty_18 ?_
    refine TT_goto hK (tgt := 23) dX0_isEmpty_19 (by decide) ?_
    refine TT_zret hK hQ (by decide) ?_ dX0_isEmpty_23
    exact ⟨⟨hT, hF⟩, 1, rfl, (by omega), (by first | exact ⟨fun _ => by omega, fun q => by exfalso; omega⟩ | exact ⟨fun q => by exfalso; omega, fun _ => by omega⟩)⟩
  · refine TT_aload_n hK rfl 0 rfl dX0_isEmpty_9 ?_
    refine gf_X0_24 hK (by decide) rfl (q := 13) rfl rfl dX0_isEmpty_10 ?_
    refine TT_iload_n hK rfl 1 rfl dX0_isEmpty_13 ?_
    refine TT_iald hK (o := 13) (n := 10) (by decide) rfl (by first | omega | (simp [up, setR] <;> omega)) (by first | omega | (simp [up, setR] <;> omega)) (v := (h 13) b) rfl dX0_isEmpty_14 ?_
    have r3 := ty_13 (i := b) (v := (h 13) b) hT rfl (by omega) (by omega)
    refine TT_if_ne hK (tgt := 22) (irm (by omega) (by omega)) dX0_isEmpty_15 (by decide) (fun hb15_4 => ?_) (fun hb15_4 => ?_)
    · refine TT_iconst hK dX0_isEmpty_22 ?_
      refine TT_zret hK hQ (by decide) ?_ dX0_isEmpty_23
      exact ⟨⟨hT, hF⟩, 0, rfl, (by omega), (by first | exact ⟨fun _ => by omega, fun q => by exfalso; omega⟩ | exact ⟨fun q => by exfalso; omega, fun _ => by omega⟩)⟩
    · refine TT_iconst hK dX0_isEmpty_18 ?_
      refine TT_goto hK (tgt := 23) dX0_isEmpty_19 (by decide) ?_
      refine TT_zret hK hQ (by decide) ?_ dX0_isEmpty_23
      exact ⟨⟨hT, hF⟩, 1, rfl, (by omega), (by first | exact ⟨fun _ => by omega, fun q => by exfalso; omega⟩ | exact ⟨fun q => by exfalso; omega, fun _ => by omega⟩)⟩
set_option maxRecDepth 20000 in
theorem s_writePacket_e (s : PBS_) (W : Int → Int) (r l n : Int) (h : Hp_) (hT : TY h) (hr : 0 ≤ r ∧ r ≤ 3) (hl : 1 ≤ l ∧ l ≤ n) (hn : n ≤ 3) (hcb : CBR (h 5 1) (h 5 2) (h 6) s) (hu : 0 ≤ s.1 ∧ s.2.1 = 0) (hcn : 3 * r + 1 ≤ (h 8 10)) (hpk : PKW (h 8 10) (h 21) (s, W)) (htk : ∀ j : Int, FS r ≤ j → j < 3 * r + 1 → (h 20) j = tkF ((h 16), (h 19), (h 12), (h 13), fun c i => (h 23) ((h 17) c + i)) n (l - 1) j) (hlq : LQ (h 16) (h 18) (h 19) (h 8 10)) (hca : (∀ c : Int, 0 ≤ c → c < (h 8 10) → 0 ≤ (h 17) c ∧ (h 17) c + (h 18) c ≤ (h 22 1)) ∧ (h 22 1) ≤ 1000) (hb20 : ∀ j : Int, 0 ≤ j → j < (h 8 10) → (h 20) j ≤ pas ((h 16) j)) (hcap : s.1 + 14 + IS (h 18) (h 8 10) - IS (GT (h 19) (h 20)) (h 8 10) ≤ 1024) : Ctr yX3_writePacket cX3_writePacket 9 none (rmd 5) ly ly 0 0 [vR 7, vI r, vI l, vI n, vR 5] h (fun rz h' => (TY h' ∧ FR [5, 6, 20, 21] h h') ∧ rz = none ∧ (CBR (h' 5 1) (h' 5 2) (h' 6) (pkS ((h 16), (h 19), (h 12), (h 13), fun c i => (h 23) ((h 17) c + i)) n l r (s, W)).1 ∧ (0 ≤ (pkS ((h 16), (h 19), (h 12), (h 13), fun c i => (h 23) ((h 17) c + i)) n l r (s, W)).1.1 ∧ (pkS ((h 16), (h 19), (h 12), (h 13), fun c i => (h 23) ((h 17) c + i)) n l r (s, W)).1.2.1 = 0)) ∧ (PKW (h 8 10) (h' 21) (pkS ((h 16), (h 19), (h 12), (h 13), fun c i => (h 23) ((h 17) c + i)) n l r (s, W))) ∧ ((∀ j : Int, FS r ≤ j → j < 3 * r + 1 → (h' 20) j = tkF ((h 16), (h 19), (h 12), (h 13), fun c i => (h 23) ((h 17) c + i)) n l j) ∧ ∀ j : Int, j < FS r ∨ 3 * r + 1 ≤ j → (h' 20) j = (h 20) j) ∧ ((pkS ((h 16), (h 19), (h 12), (h 13), fun c i => (h 23) ((h 17) c + i)) n l r (s, W)).1.1 ≤ s.1 + 14 + IS (GT (h 19) (h' 20)) (h 8 10) - IS (GT (h 19) (h 20)) (h 8 10))) := by
  refine Ctr_of (by decide) (Nat.le_of_ble_eq_true rfl) ⟨Nat.le_refl _, Nat.le_refl _⟩ (fun K hK hQ _ => ?_)
  show TT K ly 0 0 0 [(0, vR 7), (1, vI r), (2, vI l), (3, vI n), (4, vR 5)] [] h
  have hF : FR [5, 6, 20, 21] h h := FR_rf _ _
  have hfs := FS_r (r := r) (by omega)
  have rc8 := ty_8_10 (v := h 8 10) hT rfl
  obtain ⟨hca, h22⟩ := hca
  have tk9 : ∀ b : Int, 0 ≤ b → b < h 8 10 → 0 ≤ tkF ((h 16, h 19, h 12, h 13, fun c i => h 23 (h 17 c + i)) : DT_) n (l - 1) b ∧ tkF ((h 16, h 19, h 12, h 13, fun c i => h 23 (h 17 c + i)) : DT_) n (l - 1) b ≤ tkF ((h 16, h 19, h 12, h 13, fun c i => h 23 (h 17 c + i)) : DT_) n l b ∧ tkF ((h 16, h 19, h 12, h 13, fun c i => h 23 (h 17 c + i)) : DT_) n l b ≤ pas (h 16 b) ∧ pas (h 16 b) ≤ 34 := fun b b0 b1 => tkF_r (D := ((h 16, h 19, h 12, h 13, fun c i => h 23 (h 17 c + i)) : DT_)) (ty_16 (i := b) (v := h 16 b) hT rfl b0 (by omega)) (by omega) (by omega)
  have sz0 : ∀ b : Int, 0 ≤ b → b < h 8 10 → (0 ≤ szF ((h 16, h 19, h 12, h 13, fun c i => h 23 (h 17 c + i)) : DT_) n l b ∧ szF ((h 16, h 19, h 12, h 13, fun c i => h 23 (h 17 c + i)) : DT_) n l b ≤ 1023) ∧ 0 ≤ loF ((h 16, h 19, h 12, h 13, fun c i => h 23 (h 17 c + i)) : DT_) n l b ∧ loF ((h 16, h 19, h 12, h 13, fun c i => h 23 (h 17 c + i)) : DT_) n l b + szF ((h 16, h 19, h 12, h 13, fun c i => h 23 (h 17 c + i)) : DT_) n l b ≤ h 18 b := fun b b0 b1 => LQ_sz (D := ((h 16, h 19, h 12, h 13, fun c i => h 23 (h 17 c + i)) : DT_)) hlq (ty_16 (i := b) (v := h 16 b) hT rfl b0 (by omega)) (by omega) (by omega) ⟨⟨b0, b1⟩, by omega⟩ (by have := hca b b0 b1; omega) (fun j j0 j1 => (ty_19 (i := j) (v := h 19 j) hT rfl j0 j1).1)
  have gt0 : ∀ k : Int, 0 ≤ k → k < h 8 10 → GT (h 19) (h 20) k ≤ h 18 k := GT_w hlq (Int.le_refl _) (fun k k0 k1 => ⟨(ty_20 (i := k) (v := h 20 k) hT rfl k0 (by omega)).1, hb20 k k0 k1, (tk9 k k0 k1).2.2.2⟩)
  have gtl := ISM (g0 := GT (h 19) (h 20)) (g1 := GT (h 19) (h 20)) (ws := h 18) (b := 0) (c := h 8 10) (by omega) gt0 (fun k k0 k1 => absurd k1 (by omega))
  have gt00 : IS (GT (h 19) (h 20)) 0 = 0 := rfl
  have wu1 := PBQ_u hu
  refine TT_iconst hK dX3_writePacket_0 ?_
  refine TT_istore hK (lv' := [(5, vI 0), (0, vR 7), (1, vI r), (2, vI l), (3, vI n), (4, vR 5)]) (by decide) rfl dX3_writePacket_1 ?_
  refine TT_iload_n hK rfl 2 rfl dX3_writePacket_3 ?_
  refine iv_X3_198 hK (s_firstBandOf_e r h hT (by first | omega | (simp [up, setR] <;> omega))) ⟨by decide, by decide⟩ (by decide) rfl rfl (Nat.le_of_ble_eq_true rfl) ⟨by decide, by decide⟩ dX3_writePacket_4 ?_
  intro r9 g4_1 hp9
  obtain ⟨⟨hT_1, hG_1⟩, z4_1, hr9, hz_1, fb_1⟩ := hp9
  rw [hr9]
  have hF_1 : FR [5, 6, 20, 21] h g4_1 := FR_tr hF hG_1 (by decide)
  have fb_at4 := fb_1
  show TT K ly 0 0 7 [(5, vI 0), (0, vR 7), (1, vI r), (2, vI l), (3, vI n), (4, vR 5)] [vI z4_1] g4_1
  refine TT_cgI (b := FS r) (by exact fb_at4) ?_
  refine TT_istore hK (lv' := [(6, vI (FS r)), (5, vI 0), (0, vR 7), (1, vI r), (2, vI l), (3, vI n), (4, vR 5)]) (by decide) rfl dX3_writePacket_7 ?_
  have L9_2 : ∀ (k2 : Nat) (an : Int) (b1 : Int) (w9_2 : Hp_), TY w9_2 → FR [5, 6, 20, 21] h w9_2 → (0 ≤ an ∧ an ≤ 1) → (0 ≤ b1 ∧ b1 ≤ 10) → (FS r ≤ b1 ∧ b1 ≤ 3 * r + 1) → ((w9_2 20) = h 20) → ((w9_2 21) = h 21) → (CBR (w9_2 5 1) (w9_2 5 2) (w9_2 6) s) → (an = anS ((h 16, h 19, h 12, h 13, fun c i => h 23 (h 17 c + i)) : DT_) n l (FS r) (b1 - FS r).toNat) → ((10 : Int) - b1).toNat < k2 → TT K ly 0 0 9 [(0, vR 7), (1, vI r), (2, vI l), (3, vI n), (4, vR 5), (5, vI an), (6, vI b1)] [] w9_2 := by
    intro k2
    induction k2 with
    | zero => intro an b1 w9_2 hT9_2 hF9_2 han hb1 hb_b1 k20 k21 hC1 hA hk2; exact absurd hk2 (Nat.not_lt_zero _)
    | succ k2 ih2 =>
      intro an b1 w9_2 hT9_2 hF9_2 han hb1 hb_b1 k20 k21 hC1 hA hk2
      refine TT_iload hK 6 rfl dX3_writePacket_9 ?_
      refine TT_iload_n hK rfl 1 rfl dX3_writePacket_11 ?_
      refine iv_X3_201 hK (s_lastBandOf_e r w9_2 hT9_2 (by first | omega | (simp [up, setR] <;> omega))) ⟨by decide, by decide⟩ (by decide) rfl rfl (Nat.le_of_ble_eq_true rfl) ⟨by decide, by decide⟩ dX3_writePacket_12 ?_
      intro r9 g12_3 hp9
      obtain ⟨⟨hT_3, hG_3⟩, z12_3, hr9, hz_3, lb_3⟩ := hp9
      rw [hr9]
      have hF_3 : FR [5, 6, 20, 21] h g12_3 := FR_tr hF9_2 hG_3 (by decide)
      have lb_at12 := lb_3
      show TT K ly 0 0 15 [(0, vR 7), (1, vI r), (2, vI l), (3, vI n), (4, vR 5), (5, vI an), (6, vI b1)] [vI z12_3, vI b1] g12_3
      refine TT_cgI (b := 3 * r) (by exact lb_at12) ?_
      refine TT_icmp_gt hK (tgt := 54) (irm (by omega) (by omega)) (irm (by omega) (by omega)) dX3_writePacket_15 (by decide) (fun hb15_4 => ?_) (fun hb15_4 => ?_)
      · refine TT_aload hK 4 rfl dX3_writePacket_54 ?_
        refine TT_iload hK 5 rfl dX3_writePacket_56 ?_
        refine TT_if_eq hK (tgt := 65) (irm (by omega) (by omega)) dX3_writePacket_58 (by decide) (fun hb58_5 => ?_) (fun hb58_5 => ?_)
        · refine TT_iconst hK dX3_writePacket_65 ?_
          refine TT_iconst hK dX3_writePacket_66 ?_
          have e6_5_1 : g12_3 5 1 = (w9_2 5) 1 := rd_ (hG_3 5 (by decide)) rfl
          have e7_5_2 : g12_3 5 2 = (w9_2 5) 2 := rd_ (hG_3 5 (by decide)) rfl
          have e8_6 : g12_3 6 = w9_2 6 := (hG_3 6 (by decide))
          refine iv_X3_207 hK (s_putBits5_e s 0 1 g12_3 hT_3 (by first | omega | (simp [up, setR] <;> omega)) (by first | omega | (simp [up, setR] <;> omega)) (by rewrite [e6_5_1, e7_5_2, e8_6]; exact hC1) (by exact wu1) (by have uu9 := hu.2; omega) (by first | omega | (simp [up, setR] <;> omega))) (by decide) rfl ⟨by decide, by decide⟩ (by decide) rfl rfl (Nat.le_of_ble_eq_true rfl) ⟨by decide, by decide⟩ dX3_writePacket_67 ?_
          intro r9 g67_9 hp9
          obtain ⟨⟨hT_9, hG_9⟩, hr9, pb_9⟩ := hp9
          rw [hr9]
          have hF_9 : FR [5, 6, 20, 21] h g67_9 := FR_tr hF_3 hG_9 (by decide)
          have pb_at67 := pb_9
          show TT K ly 0 0 70 [(0, vR 7), (1, vI r), (2, vI l), (3, vI n), (4, vR 5), (5, vI an), (6, vI b1)] [] g67_9
          refine TT_iload hK 5 rfl dX3_writePacket_70 ?_
          refine TT_if_ne hK (tgt := 81) (irm (by omega) (by omega)) dX3_writePacket_72 (by decide) (fun hb72_10 => ?_) (fun hb72_10 => ?_)
          · exfalso; omega
          · refine TT_aload hK 4 rfl dX3_writePacket_75 ?_
            refine iv_X3_210 hK (s_endBits5_e g67_9 hT_9 ) (by decide) rfl ⟨by decide, by decide⟩ (by decide) rfl rfl (Nat.le_of_ble_eq_true rfl) ⟨by decide, by decide⟩ dX3_writePacket_77 ?_
            intro r9 g77_11 hp9
            obtain ⟨⟨hT_11, hG_11⟩, hr9, e2_11⟩ := hp9
            rw [hr9]
            have hF_11 : FR [5, 6, 20, 21] h g77_11 := FR_tr hF_9 hG_11 (by decide)
            rw [show g67_9 5 1 = (g67_9 5) 1 from rfl] at e2_11
            have e2_at77 := e2_11
            show TT K ly 0 0 80 [(0, vR 7), (1, vI r), (2, vI l), (3, vI n), (4, vR 5), (5, vI an), (6, vI b1)] [] g77_11
            have hz9 : anS ((h 16, h 19, h 12, h 13, fun c i => h 23 (h 17 c + i)) : DT_) n l (FS r) (3 * r + 1 - FS r).toNat = 0 := by
                rw [show 3 * r + 1 = b1 by omega, ← hA]; omega
            have pe9 := PK_z (s := s) (W := W) hz9 (by omega) (fun b b0 b1 => (tk9 b (by omega) (by omega)).2.1)
            refine TT_vret hK hQ ?_ dX3_writePacket_80
            have e12_5_1 : g77_11 5 1 = (g77_11 5) 1 := rfl
            have e13_5_2 : g77_11 5 2 = (g77_11 5) 2 := rfl
            have e14_6 : g77_11 6 = g67_9 6 := (hG_11 6 (by decide))
            have e15_21 : g77_11 21 = w9_2 21 := ((hG_11 21 (by decide))).trans (((hG_9 21 (by decide))).trans (hG_3 21 (by decide)))
            have e16_20 : g77_11 20 = w9_2 20 := ((hG_11 20 (by decide))).trans (((hG_9 20 (by decide))).trans (hG_3 20 (by decide)))
            have e17_20 : g77_11 20 = w9_2 20 := ((hG_11 20 (by decide))).trans (((hG_9 20 (by decide))).trans (hG_3 20 (by decide)))
            exact ⟨⟨hT_11, hF_11⟩, rfl, (by rewrite [e12_5_1, e13_5_2, e14_6]; rw [pe9]; exact ⟨by rw [e2_at77.1, e2_at77.2]; exact CBR_e pb_at67.1, endB_u pb_at67.2⟩), (by rewrite [e15_21]; rw [pe9, k21]; exact ⟨PBQ_u (endB_u pb_at67.2), hpk.2⟩), (by rewrite [e16_20]; rw [k20]; exact ⟨fun j j0 j1 => by have a9 := anS_z _ hz9 j j0 (by omega); have t9 := tk9 j (by omega) (by omega); rw [htk j j0 j1]; omega, fun _ _ => rfl⟩), (by rewrite [e17_20]; rw [pe9, k20]; have n9 : (endB (putS 0 1 s)).1 ≤ s.1 + 14 := endB_n pb_at67.2 (by have p9 := (putS_n 1 0 wu1).2; have uu9 := hu.2; show 8 * (putS 0 1 s).1 + (putS 0 1 s).2.1 ≤ _; omega); show (endB (putS 0 1 s)).1 ≤ _; omega)⟩
        · refine TT_iconst hK dX3_writePacket_61 ?_
          refine TT_goto hK (tgt := 66) dX3_writePacket_62 (by decide) ?_
          refine TT_iconst hK dX3_writePacket_66 ?_
          have e18_5_1 : g12_3 5 1 = (w9_2 5) 1 := rd_ (hG_3 5 (by decide)) rfl
          have e19_5_2 : g12_3 5 2 = (w9_2 5) 2 := rd_ (hG_3 5 (by decide)) rfl
          have e20_6 : g12_3 6 = w9_2 6 := (hG_3 6 (by decide))
          refine iv_X3_207 hK (s_putBits5_e s 1 1 g12_3 hT_3 (by first | omega | (simp [up, setR] <;> omega)) (by first | omega | (simp [up, setR] <;> omega)) (by rewrite [e18_5_1, e19_5_2, e20_6]; exact hC1) (by exact wu1) (by have uu9 := hu.2; omega) (by first | omega | (simp [up, setR] <;> omega))) (by decide) rfl ⟨by decide, by decide⟩ (by decide) rfl rfl (Nat.le_of_ble_eq_true rfl) ⟨by decide, by decide⟩ dX3_writePacket_67 ?_
          intro r9 g67_21 hp9
          obtain ⟨⟨hT_21, hG_21⟩, hr9, pb_21⟩ := hp9
          rw [hr9]
          have hF_21 : FR [5, 6, 20, 21] h g67_21 := FR_tr hF_3 hG_21 (by decide)
          have pb_at67 := pb_21
          show TT K ly 0 0 70 [(0, vR 7), (1, vI r), (2, vI l), (3, vI n), (4, vR 5), (5, vI an), (6, vI b1)] [] g67_21
          refine TT_iload hK 5 rfl dX3_writePacket_70 ?_
          refine TT_if_ne hK (tgt := 81) (irm (by omega) (by omega)) dX3_writePacket_72 (by decide) (fun hb72_22 => ?_) (fun hb72_22 => ?_)
          · refine TT_iload_n hK rfl 1 rfl dX3_writePacket_81 ?_
            refine iv_X3_198 hK (s_firstBandOf_e r g67_21 hT_21 (by first | omega | (simp [up, setR] <;> omega))) ⟨by decide, by decide⟩ (by decide) rfl rfl (Nat.le_of_ble_eq_true rfl) ⟨by decide, by decide⟩ dX3_writePacket_82 ?_
            intro r9 g82_23 hp9
            obtain ⟨⟨hT_23, hG_23⟩, z82_23, hr9, hz_23, fb_23⟩ := hp9
            rw [hr9]
            have hF_23 : FR [5, 6, 20, 21] h g82_23 := FR_tr hF_21 hG_23 (by decide)
            have fb_at82 := fb_23
            show TT K ly 0 0 85 [(0, vR 7), (1, vI r), (2, vI l), (3, vI n), (4, vR 5), (5, vI an), (6, vI b1)] [vI z82_23] g82_23
            refine TT_cgI (b := FS r) (by exact fb_at82) ?_
            refine TT_istore hK (lv' := [(6, vI (FS r)), (0, vR 7), (1, vI r), (2, vI l), (3, vI n), (4, vR 5), (5, vI an)]) (by decide) rfl dX3_writePacket_85 ?_
            have L87_24 : ∀ (k24 : Nat) (b2 : Int) (w87_24 : Hp_), TY w87_24 → FR [5, 6, 20, 21] h w87_24 → (0 ≤ b2 ∧ b2 ≤ 10) → (FS r ≤ b2 ∧ b2 ≤ 3 * r + 1) → ((w87_24 20) = h 20) → (an = 1) → (CBR (w87_24 5 1) (w87_24 5 2) (w87_24 6) (hdsS ((h 16, h 19, h 12, h 13, fun c i => h 23 (h 17 c + i)) : DT_) n l (FS r) (b2 - FS r).toNat (putS 1 1 s, W)).1) → (PKW (h 8 10) (w87_24 21) (hdsS ((h 16, h 19, h 12, h 13, fun c i => h 23 (h 17 c + i)) : DT_) n l (FS r) (b2 - FS r).toNat (putS 1 1 s, W))) → (8 * (hdsS ((h 16, h 19, h 12, h 13, fun c i => h 23 (h 17 c + i)) : DT_) n l (FS r) (b2 - FS r).toNat (putS 1 1 s, W)).1.1 + (hdsS ((h 16, h 19, h 12, h 13, fun c i => h 23 (h 17 c + i)) : DT_) n l (FS r) (b2 - FS r).toNat (putS 1 1 s, W)).1.2.1 ≤ 8 * s.1 + 1 + 37 * (b2 - FS r)) → ((10 : Int) - b2).toNat < k24 → TT K ly 0 0 87 [(0, vR 7), (1, vI r), (2, vI l), (3, vI n), (4, vR 5), (5, vI an), (6, vI b2)] [] w87_24 := by
              intro k24
              induction k24 with
              | zero => intro b2 w87_24 hT87_24 hF87_24 hb2 hb_b2 k20 han1 hC2 hP2 hS2 hk24; exact absurd hk24 (Nat.not_lt_zero _)
              | succ k24 ih24 =>
                intro b2 w87_24 hT87_24 hF87_24 hb2 hb_b2 k20 han1 hC2 hP2 hS2 hk24
                refine TT_iload hK 6 rfl dX3_writePacket_87 ?_
                refine TT_iload_n hK rfl 1 rfl dX3_writePacket_89 ?_
                refine iv_X3_201 hK (s_lastBandOf_e r w87_24 hT87_24 (by first | omega | (simp [up, setR] <;> omega))) ⟨by decide, by decide⟩ (by decide) rfl rfl (Nat.le_of_ble_eq_true rfl) ⟨by decide, by decide⟩ dX3_writePacket_90 ?_
                intro r9 g90_25 hp9
                obtain ⟨⟨hT_25, hG_25⟩, z90_25, hr9, hz_25, lb_25⟩ := hp9
                rw [hr9]
                have hF_25 : FR [5, 6, 20, 21] h g90_25 := FR_tr hF87_24 hG_25 (by decide)
                have lb_at90 := lb_25
                show TT K ly 0 0 93 [(0, vR 7), (1, vI r), (2, vI l), (3, vI n), (4, vR 5), (5, vI an), (6, vI b2)] [vI z90_25, vI b2] g90_25
                refine TT_cgI (b := 3 * r) (by exact lb_at90) ?_
                refine TT_icmp_gt hK (tgt := 130) (irm (by omega) (by omega)) (irm (by omega) (by omega)) dX3_writePacket_93 (by decide) (fun hb93_26 => ?_) (fun hb93_26 => ?_)
                · have heq : (heS ((h 16, h 19, h 12, h 13, fun c i => h 23 (h 17 c + i)) : DT_) n l r (s, W)) = (hdsS ((h 16, h 19, h 12, h 13, fun c i => h 23 (h 17 c + i)) : DT_) n l (FS r) (b2 - FS r).toNat (putS 1 1 s, W)) := PK_n (by rw [show 3 * r + 1 = b1 by omega, ← hA]; omega) (by omega)
                  have hPE : PBQ (heS ((h 16, h 19, h 12, h 13, fun c i => h 23 (h 17 c + i)) : DT_) n l r (s, W)).1 := by
                      rw [heq]; exact hP2.1
                  have hEn : (endB (heS ((h 16, h 19, h 12, h 13, fun c i => h 23 (h 17 c + i)) : DT_) n l r (s, W)).1).1 ≤ s.1 + 14 := endB_n hPE (by rw [heq]; omega)
                  refine TT_aload hK 4 rfl dX3_writePacket_130 ?_
                  refine iv_X3_210 hK (s_endBits5_e g90_25 hT_25 ) (by decide) rfl ⟨by decide, by decide⟩ (by decide) rfl rfl (Nat.le_of_ble_eq_true rfl) ⟨by decide, by decide⟩ dX3_writePacket_132 ?_
                  intro r9 g132_27 hp9
                  obtain ⟨⟨hT_27, hG_27⟩, hr9, e2_27⟩ := hp9
                  rw [hr9]
                  have hF_27 : FR [5, 6, 20, 21] h g132_27 := FR_tr hF_25 hG_27 (by decide)
                  rw [show g90_25 5 1 = (w87_24 5) 1 from rd_ (hG_25 5 (by decide)) rfl] at e2_27
                  have e2_at132 := e2_27
                  show TT K ly 0 0 135 [(0, vR 7), (1, vI r), (2, vI l), (3, vI n), (4, vR 5), (5, vI an), (6, vI b2)] [] g132_27
                  refine TT_iload_n hK rfl 1 rfl dX3_writePacket_135 ?_
                  refine iv_X3_198 hK (s_firstBandOf_e r g132_27 hT_27 (by first | omega | (simp [up, setR] <;> omega))) ⟨by decide, by decide⟩ (by decide) rfl rfl (Nat.le_of_ble_eq_true rfl) ⟨by decide, by decide⟩ dX3_writePacket_136 ?_
                  intro r9 g136_28 hp9
                  obtain ⟨⟨hT_28, hG_28⟩, z136_28, hr9, hz_28, fb_28⟩ := hp9
                  rw [hr9]
                  have hF_28 : FR [5, 6, 20, 21] h g136_28 := FR_tr hF_27 hG_28 (by decide)
                  have fb_at136 := fb_28
                  show TT K ly 0 0 139 [(0, vR 7), (1, vI r), (2, vI l), (3, vI n), (4, vR 5), (5, vI an), (6, vI b2)] [vI z136_28] g136_28
                  refine TT_cgI (b := FS r) (by exact fb_at136) ?_
                  refine TT_istore hK (lv' := [(6, vI (FS r)), (0, vR 7), (1, vI r), (2, vI l), (3, vI n), (4, vR 5), (5, vI an)]) (by decide) rfl dX3_writePacket_139 ?_
                  have L141_29 : ∀ (k29 : Nat) (b3 : Int) (w141_29 : Hp_), TY w141_29 → FR [5, 6, 20, 21] h w141_29 → (0 ≤ b3 ∧ b3 ≤ 10) → (FS r ≤ b3 ∧ b3 ≤ 3 * r + 1) → (PKW (h 8 10) (w141_29 21) (heS ((h 16, h 19, h 12, h 13, fun c i => h 23 (h 17 c + i)) : DT_) n l r (s, W))) → (CBR (w141_29 5 1) (w141_29 5 2) (w141_29 6) (wdsS ((h 16, h 19, h 12, h 13, fun c i => h 23 (h 17 c + i)) : DT_) n l (FS r) (b3 - FS r).toNat (endB (heS ((h 16, h 19, h 12, h 13, fun c i => h 23 (h 17 c + i)) : DT_) n l r (s, W)).1))) → (∀ j : Int, FS r ≤ j → j < b3 → (w141_29 20) j = tkF ((h 16, h 19, h 12, h 13, fun c i => h 23 (h 17 c + i)) : DT_) n l j) → (∀ j : Int, j < FS r ∨ b3 ≤ j → (w141_29 20) j = h 20 j) → ((wdsS ((h 16, h 19, h 12, h 13, fun c i => h 23 (h 17 c + i)) : DT_) n l (FS r) (b3 - FS r).toNat (endB (heS ((h 16, h 19, h 12, h 13, fun c i => h 23 (h 17 c + i)) : DT_) n l r (s, W)).1)).1 ≤ s.1 + 14 + (IS (GT (h 19) (w141_29 20)) b3 - IS (GT (h 19) (h 20)) b3)) → ((10 : Int) - b3).toNat < k29 → TT K ly 0 0 141 [(0, vR 7), (1, vI r), (2, vI l), (3, vI n), (4, vR 5), (5, vI an), (6, vI b3)] [] w141_29 := by
                    intro k29
                    induction k29 with
                    | zero => intro b3 w141_29 hT141_29 hF141_29 hb3 hb_b3 hW3 hC3 h20a h20c hS3 hk29; exact absurd hk29 (Nat.not_lt_zero _)
                    | succ k29 ih29 =>
                      intro b3 w141_29 hT141_29 hF141_29 hb3 hb_b3 hW3 hC3 h20a h20c hS3 hk29
                      refine TT_iload hK 6 rfl dX3_writePacket_141 ?_
                      refine TT_iload_n hK rfl 1 rfl dX3_writePacket_143 ?_
                      refine iv_X3_201 hK (s_lastBandOf_e r w141_29 hT141_29 (by first | omega | (simp [up, setR] <;> omega))) ⟨by decide, by decide⟩ (by decide) rfl rfl (Nat.le_of_ble_eq_true rfl) ⟨by decide, by decide⟩ dX3_writePacket_144 ?_
                      intro r9 g144_30 hp9
                      obtain ⟨⟨hT_30, hG_30⟩, z144_30, hr9, hz_30, lb_30⟩ := hp9
                      rw [hr9]
                      have hF_30 : FR [5, 6, 20, 21] h g144_30 := FR_tr hF141_29 hG_30 (by decide)
                      have lb_at144 := lb_30
                      show TT K ly 0 0 147 [(0, vR 7), (1, vI r), (2, vI l), (3, vI n), (4, vR 5), (5, vI an), (6, vI b3)] [vI z144_30, vI b3] g144_30
                      refine TT_cgI (b := 3 * r) (by exact lb_at144) ?_
                      refine TT_icmp_gt hK (tgt := 220) (irm (by omega) (by omega)) (irm (by omega) (by omega)) dX3_writePacket_147 (by decide) (fun hb147_31 => ?_) (fun hb147_31 => ?_)
                      · have M9 : pkS ((h 16, h 19, h 12, h 13, fun c i => h 23 (h 17 c + i)) : DT_) n l r (s, W) = ((wdsS ((h 16, h 19, h 12, h 13, fun c i => h 23 (h 17 c + i)) : DT_) n l (FS r) (b3 - FS r).toNat (endB (heS ((h 16, h 19, h 12, h 13, fun c i => h 23 (h 17 c + i)) : DT_) n l r (s, W)).1)), (heS ((h 16, h 19, h 12, h 13, fun c i => h 23 (h 17 c + i)) : DT_) n l r (s, W)).2) := by
                            unfold pkS
                            rw [show 3 * r + 1 = b3 by omega]
                        refine TT_vret hK hQ ?_ dX3_writePacket_220
                        have e32_5_1 : g144_30 5 1 = (w141_29 5) 1 := rd_ (hG_30 5 (by decide)) rfl
                        have e33_5_2 : g144_30 5 2 = (w141_29 5) 2 := rd_ (hG_30 5 (by decide)) rfl
                        have e34_6 : g144_30 6 = w141_29 6 := (hG_30 6 (by decide))
                        have e35_21 : g144_30 21 = w141_29 21 := (hG_30 21 (by decide))
                        have e36_20 : g144_30 20 = w141_29 20 := (hG_30 20 (by decide))
                        have e37_20 : g144_30 20 = w141_29 20 := (hG_30 20 (by decide))
                        exact ⟨⟨hT_30, hF_30⟩, rfl, (by rewrite [e32_5_1, e33_5_2, e34_6]; rw [M9]; exact ⟨hC3, wdsS_u _ (endB_u hPE)⟩), (by rewrite [e35_21]; rw [M9]; exact ⟨PBQ_u (wdsS_u _ (endB_u hPE)), hW3.2⟩), (by rewrite [e36_20]; exact ⟨fun j j0 j1 => h20a j j0 (by omega), fun j j0 => h20c j (by omega)⟩), (by rewrite [e37_20]; rw [M9]; have ag := IS_ag (f := GT (h 19) (w141_29 20)) (g := GT (h 19) (h 20)) (a := b3) (c := h 8 10) (by omega) (by omega) (fun k k0 k1 => congrArg (fun z => h 19 (35 * k + z)) (h20c k (Or.inr k0))); show ((wdsS ((h 16, h 19, h 12, h 13, fun c i => h 23 (h 17 c + i)) : DT_) n l (FS r) (b3 - FS r).toNat (endB (heS ((h 16, h 19, h 12, h 13, fun c i => h 23 (h 17 c + i)) : DT_) n l r (s, W)).1))).1 ≤ _; omega)⟩
                      · have h20b : (w141_29 20) b3 = tkF ((h 16, h 19, h 12, h 13, fun c i => h 23 (h 17 c + i)) : DT_) n (l - 1) b3 := (h20c b3 (Or.inr (Int.le_refl _))).trans (htk b3 (by omega) (by omega))
                        have tkb := tk9 b3 (by omega) (by omega)
                        have szb := sz0 b3 (by omega) (by omega)
                        have sze : szF ((h 16, h 19, h 12, h 13, fun c i => h 23 (h 17 c + i)) : DT_) n l b3 = h 19 (35 * b3 + tkF ((h 16, h 19, h 12, h 13, fun c i => h 23 (h 17 c + i)) : DT_) n l b3) - loF ((h 16, h 19, h 12, h 13, fun c i => h 23 (h 17 c + i)) : DT_) n l b3 := rfl
                        have cab := hca b3 (by omega) (by omega)
                        have wuu := wdsS_u (D := ((h 16, h 19, h 12, h 13, fun c i => h 23 (h 17 c + i)) : DT_)) (n := n) (i := l) (f := FS r) (b3 - FS r).toNat (endB_u hPE)
                        have ia1 : IS (GT (h 19) (fup (w141_29 20) b3 (tkF ((h 16, h 19, h 12, h 13, fun c i => h 23 (h 17 c + i)) : DT_) n l b3))) (b3 + 1) = IS (GT (h 19) (w141_29 20)) b3 + h 19 (35 * b3 + tkF ((h 16, h 19, h 12, h 13, fun c i => h 23 (h 17 c + i)) : DT_) n l b3) := by
                            rw [IS_s (by omega), IS_eq (f := GT (h 19) (fup (w141_29 20) b3 (tkF ((h 16, h 19, h 12, h 13, fun c i => h 23 (h 17 c + i)) : DT_) n l b3))) (g := GT (h 19) (w141_29 20)) (c := b3) (fun k k0 k1 => congrArg (fun z => h 19 (35 * k + z)) (fup_ne _ _ (by omega)))]
                            show _ + h 19 (35 * b3 + fup (w141_29 20) b3 (tkF ((h 16, h 19, h 12, h 13, fun c i => h 23 (h 17 c + i)) : DT_) n l b3) b3) = _
                            rw [fup_eq]
                        have ia0 : IS (GT (h 19) (h 20)) (b3 + 1) = IS (GT (h 19) (h 20)) b3 + loF ((h 16, h 19, h 12, h 13, fun c i => h 23 (h 17 c + i)) : DT_) n l b3 := by
                            rw [IS_s (by omega)]
                            show _ + h 19 (35 * b3 + h 20 b3) = _
                            rw [htk b3 (by omega) (by omega)]
                            rfl
                        have ism := ISM (g0 := GT (h 19) (h 20)) (g1 := GT (h 19) (fup (w141_29 20) b3 (tkF ((h 16, h 19, h 12, h 13, fun c i => h 23 (h 17 c + i)) : DT_) n l b3))) (ws := h 18) (b := b3 + 1) (c := h 8 10) (by omega) gt0 (GT_w hlq (by omega) (fun k k0 k1 => by
                            have tkk := tk9 k k0 (by omega)
                            by_cases e1 : k = b3
                            · rw [e1, fup_eq]
                              rw [e1] at tkk
                              exact ⟨by omega, tkk.2.2.1, tkk.2.2.2⟩
                            · rw [fup_ne _ _ e1]
                              by_cases e2 : FS r ≤ k
                              · rw [h20a k e2 (by omega)]
                                exact ⟨by omega, tkk.2.2.1, tkk.2.2.2⟩
                              · rw [h20c k (Or.inl (by omega))]
                                exact ⟨(ty_20 (i := k) (v := h 20 k) hT rfl k0 (by omega)).1, hb20 k k0 (by omega), tkk.2.2.2⟩))
                        refine TT_aload_n hK rfl 0 rfl dX3_writePacket_150 ?_
                        refine TT_iload hK 6 rfl dX3_writePacket_151 ?_
                        refine TT_iload_n hK rfl 2 rfl dX3_writePacket_153 ?_
                        refine TT_iload_n hK rfl 3 rfl dX3_writePacket_154 ?_
                        refine iv_X3_204 hK (s_passesUpTo_e b3 l n g144_30 hT_30 (by first | omega | (simp [up, setR] <;> omega)) (by first | omega | (simp [up, setR] <;> omega)) (by first | omega | (simp [up, setR] <;> omega))) (by decide) rfl ⟨by decide, by decide⟩ (by decide) rfl rfl (Nat.le_of_ble_eq_true rfl) ⟨by decide, by decide⟩ dX3_writePacket_155 ?_
                        intro r9 g155_38 hp9
                        obtain ⟨⟨hT_38, hG_38⟩, z155_38, hr9, hz_38, pu_38⟩ := hp9
                        rw [hr9]
                        have hF_38 : FR [5, 6, 20, 21] h g155_38 := FR_tr hF_30 hG_38 (by decide)
                        rw [show g144_30 16 = h 16 from ((hG_30 16 (by decide))).trans (hF141_29 16 (by decide))] at pu_38
                        have pu_at155 := pu_38
                        show TT K ly 0 0 158 [(0, vR 7), (1, vI r), (2, vI l), (3, vI n), (4, vR 5), (5, vI an), (6, vI b3)] [vI z155_38] g155_38
                        refine TT_cgI (b := tkF ((h 16, h 19, h 12, h 13, fun c i => h 23 (h 17 c + i)) : DT_) n l b3) (by exact pu_at155) ?_
                        refine TT_istore hK (lv' := [(7, vI (tkF ((h 16, h 19, h 12, h 13, fun c i => h 23 (h 17 c + i)) : DT_) n l b3)), (0, vR 7), (1, vI r), (2, vI l), (3, vI n), (4, vR 5), (5, vI an), (6, vI b3)]) (by decide) rfl dX3_writePacket_158 ?_
                        refine TT_aload_n hK rfl 1 rfl dX3_writePacket_160 ?_
                        refine TT_iload hK 7 rfl dX3_writePacket_161 ?_
                        refine TT_aload_n hK rfl 1 rfl dX3_writePacket_163 ?_
                        refine gf_X3_31 hK (by decide) rfl (q := 20) rfl rfl dX3_writePacket_164 ?_
                        refine TT_iload hK 7 rfl dX3_writePacket_167 ?_
                        refine TT_iald hK (o := 20) (n := 10) (by decide) rfl (by first | omega | (simp [up, setR] <;> omega)) (by first | omega | (simp [up, setR] <;> omega)) (v := (w141_29 20) b3) (rd_ (((hG_38 20 (by decide))).trans (hG_30 20 (by decide))) rfl) dX3_writePacket_169 ?_
                        have r39 := ty_20 (i := b3) (v := (w141_29 20) b3) hT_38 (rd_ (((hG_38 20 (by decide))).trans (hG_30 20 (by decide))) rfl) (by omega) (by omega)
                        refine iv_X3_220 hK (s_leastLength_e b3 ((w141_29 20) b3) g155_38 hT_38 (by first | omega | (simp [up, setR] <;> omega)) (by first | omega | (simp [up, setR] <;> omega))) (by decide) rfl ⟨by decide, by decide⟩ (by decide) rfl rfl (Nat.le_of_ble_eq_true rfl) ⟨by decide, by decide⟩ dX3_writePacket_170 ?_
                        intro r9 g170_40 hp9
                        obtain ⟨⟨hT_40, hG_40⟩, z170_40, hr9, hz_40, q1_40⟩ := hp9
                        rw [hr9]
                        have hF_40 : FR [5, 6, 20, 21] h g170_40 := FR_tr hF_38 hG_40 (by decide)
                        rw [show g155_38 16 = h 16 from ((hG_38 16 (by decide))).trans (((hG_30 16 (by decide))).trans (hF141_29 16 (by decide)))] at q1_40
                        rw [show g155_38 19 = h 19 from ((hG_38 19 (by decide))).trans (((hG_30 19 (by decide))).trans (hF141_29 19 (by decide)))] at q1_40
                        rw [show g155_38 8 10 = (h 8) 10 from rd_ (((hG_38 8 (by decide))).trans (((hG_30 8 (by decide))).trans (hF141_29 8 (by decide)))) rfl] at q1_40
                        have q1_at170 := q1_40
                        show TT K ly 0 0 173 [(7, vI (tkF ((h 16, h 19, h 12, h 13, fun c i => h 23 (h 17 c + i)) : DT_) n l b3)), (0, vR 7), (1, vI r), (2, vI l), (3, vI n), (4, vR 5), (5, vI an), (6, vI b3)] [vI z170_40] g170_40
                        refine TT_cgI (b := loF ((h 16, h 19, h 12, h 13, fun c i => h 23 (h 17 c + i)) : DT_) n l b3) (by exact (q1_at170.trans (LLV_e (by omega))).trans (by rw [h20b]; rfl)) ?_
                        refine TT_istore hK (lv' := [(8, vI (loF ((h 16, h 19, h 12, h 13, fun c i => h 23 (h 17 c + i)) : DT_) n l b3)), (7, vI (tkF ((h 16, h 19, h 12, h 13, fun c i => h 23 (h 17 c + i)) : DT_) n l b3)), (0, vR 7), (1, vI r), (2, vI l), (3, vI n), (4, vR 5), (5, vI an), (6, vI b3)]) (by decide) rfl dX3_writePacket_173 ?_
                        refine TT_aload hK 6 rfl dX3_writePacket_175 ?_
                        refine TT_aload_n hK rfl 2 rfl dX3_writePacket_177 ?_
                        refine gf_X3_40 hK (by decide) rfl (q := 22) rfl rfl dX3_writePacket_178 ?_
                        refine TT_aload_n hK rfl 2 rfl dX3_writePacket_181 ?_
                        refine gf_X3_22 hK (by decide) rfl (q := 17) rfl rfl dX3_writePacket_182 ?_
                        refine TT_iload hK 8 rfl dX3_writePacket_185 ?_
                        refine TT_iald hK (o := 17) (n := 10) (by decide) rfl (by first | omega | (simp [up, setR] <;> omega)) (by first | omega | (simp [up, setR] <;> omega)) (v := (h 17) b3) (rd_ (((hG_40 17 (by decide))).trans (((hG_38 17 (by decide))).trans (((hG_30 17 (by decide))).trans (hF141_29 17 (by decide))))) rfl) dX3_writePacket_187 ?_
                        have r41 := ty_17 (i := b3) (v := (h 17) b3) hT_40 (rd_ (((hG_40 17 (by decide))).trans (((hG_38 17 (by decide))).trans (((hG_30 17 (by decide))).trans (hF141_29 17 (by decide))))) rfl) (by omega) (by omega)
                        refine TT_iload hK 0 rfl dX3_writePacket_188 ?_
                        refine TT_iadd hK dX3_writePacket_190 ?_
                        refine TT_aload_n hK rfl 2 rfl dX3_writePacket_191 ?_
                        refine TT_iload hK 8 rfl dX3_writePacket_192 ?_
                        refine TT_iload hK 1 rfl dX3_writePacket_194 ?_
                        refine iv_X3_220 hK (s_leastLength_e b3 (tkF ((h 16, h 19, h 12, h 13, fun c i => h 23 (h 17 c + i)) : DT_) n l b3) g170_40 hT_40 (by first | omega | (simp [up, setR] <;> omega)) (by first | omega | (simp [up, setR] <;> omega))) (by decide) rfl ⟨by decide, by decide⟩ (by decide) rfl rfl (Nat.le_of_ble_eq_true rfl) ⟨by decide, by decide⟩ dX3_writePacket_196 ?_
                        intro r9 g196_42 hp9
                        obtain ⟨⟨hT_42, hG_42⟩, z196_42, hr9, hz_42, q1_42⟩ := hp9
                        rw [hr9]
                        have hF_42 : FR [5, 6, 20, 21] h g196_42 := FR_tr hF_40 hG_42 (by decide)
                        rw [show g170_40 16 = h 16 from ((hG_40 16 (by decide))).trans (((hG_38 16 (by decide))).trans (((hG_30 16 (by decide))).trans (hF141_29 16 (by decide))))] at q1_42
                        rw [show g170_40 19 = h 19 from ((hG_40 19 (by decide))).trans (((hG_38 19 (by decide))).trans (((hG_30 19 (by decide))).trans (hF141_29 19 (by decide))))] at q1_42
                        rw [show g170_40 8 10 = (h 8) 10 from rd_ (((hG_40 8 (by decide))).trans (((hG_38 8 (by decide))).trans (((hG_30 8 (by decide))).trans (hF141_29 8 (by decide))))) rfl] at q1_42
                        have q1_at196 := q1_42
                        show TT K ly 0 0 199 [(8, vI (loF ((h 16, h 19, h 12, h 13, fun c i => h 23 (h 17 c + i)) : DT_) n l b3)), (7, vI (tkF ((h 16, h 19, h 12, h 13, fun c i => h 23 (h 17 c + i)) : DT_) n l b3)), (0, vR 7), (1, vI r), (2, vI l), (3, vI n), (4, vR 5), (5, vI an), (6, vI b3)] [vI z196_42, vI (((h 17) b3) + (loF ((h 16, h 19, h 12, h 13, fun c i => h 23 (h 17 c + i)) : DT_) n l b3)), vR 22, vR 5] g196_42
                        refine TT_cgI (b := h 19 (35 * b3 + tkF ((h 16, h 19, h 12, h 13, fun c i => h 23 (h 17 c + i)) : DT_) n l b3)) (by exact q1_at196.trans (LLV_e (by omega))) ?_
                        refine TT_iload hK 0 rfl dX3_writePacket_199 ?_
                        refine TT_isub hK dX3_writePacket_201 ?_
                        have e43_5_1 : g196_42 5 1 = (w141_29 5) 1 := rd_ (((hG_42 5 (by decide))).trans (((hG_40 5 (by decide))).trans (((hG_38 5 (by decide))).trans (hG_30 5 (by decide))))) rfl
                        have e44_5_2 : g196_42 5 2 = (w141_29 5) 2 := rd_ (((hG_42 5 (by decide))).trans (((hG_40 5 (by decide))).trans (((hG_38 5 (by decide))).trans (hG_30 5 (by decide))))) rfl
                        have e45_6 : g196_42 6 = w141_29 6 := ((hG_42 6 (by decide))).trans (((hG_40 6 (by decide))).trans (((hG_38 6 (by decide))).trans (hG_30 6 (by decide))))
                        have e46_22_1 : g196_42 22 1 = (h 22) 1 := rd_ (((hG_42 22 (by decide))).trans (((hG_40 22 (by decide))).trans (((hG_38 22 (by decide))).trans (((hG_30 22 (by decide))).trans (hF141_29 22 (by decide)))))) rfl
                        refine iv_X3_223 hK (s_addFrom5_e (wdsS ((h 16, h 19, h 12, h 13, fun c i => h 23 (h 17 c + i)) : DT_) n l (FS r) (b3 - FS r).toNat (endB (heS ((h 16, h 19, h 12, h 13, fun c i => h 23 (h 17 c + i)) : DT_) n l r (s, W)).1)) (((h 17) b3) + (loF ((h 16, h 19, h 12, h 13, fun c i => h 23 (h 17 c + i)) : DT_) n l b3)) ((h 19 (35 * b3 + tkF ((h 16, h 19, h 12, h 13, fun c i => h 23 (h 17 c + i)) : DT_) n l b3)) - (loF ((h 16, h 19, h 12, h 13, fun c i => h 23 (h 17 c + i)) : DT_) n l b3)) g196_42 hT_42 (by first | omega | (simp [up, setR] <;> omega)) (by first | omega | (simp [up, setR] <;> omega)) (by rewrite [e43_5_1, e44_5_2, e45_6]; exact hC3) (by exact wuu) (by rewrite [e46_22_1]; omega) (by omega)) (by decide) rfl ⟨by decide, by decide⟩ (by decide) rfl rfl (Nat.le_of_ble_eq_true rfl) ⟨by decide, by decide⟩ dX3_writePacket_202 ?_
                        intro r9 g202_47 hp9
                        obtain ⟨⟨hT_47, hG_47⟩, hr9, af_47⟩ := hp9
                        rw [hr9]
                        have hF_47 : FR [5, 6, 20, 21] h g202_47 := FR_tr hF_42 hG_47 (by decide)
                        rw [show g196_42 23 = h 23 from ((hG_42 23 (by decide))).trans (((hG_40 23 (by decide))).trans (((hG_38 23 (by decide))).trans (((hG_30 23 (by decide))).trans (hF141_29 23 (by decide)))))] at af_47
                        have af_at202 := af_47
                        show TT K ly 0 0 205 [(8, vI (loF ((h 16, h 19, h 12, h 13, fun c i => h 23 (h 17 c + i)) : DT_) n l b3)), (7, vI (tkF ((h 16, h 19, h 12, h 13, fun c i => h 23 (h 17 c + i)) : DT_) n l b3)), (0, vR 7), (1, vI r), (2, vI l), (3, vI n), (4, vR 5), (5, vI an), (6, vI b3)] [] g202_47
                        refine TT_aload_n hK rfl 2 rfl dX3_writePacket_205 ?_
                        refine gf_X3_31 hK (by decide) rfl (q := 20) rfl rfl dX3_writePacket_206 ?_
                        refine TT_iload hK 8 rfl dX3_writePacket_209 ?_
                        refine TT_iload hK 1 rfl dX3_writePacket_211 ?_
                        refine TT_iast hK (o := 20) (n := 10) (by decide) rfl (by omega) (by omega) dX3_writePacket_213 ?_
                        refine TT_hp (h' := setO g202_47 20 (fup (w141_29 20) b3 (tkF ((h 16, h 19, h 12, h 13, fun c i => h 23 (h 17 c + i)) : DT_) n l b3))) (up_can (((hG_47 20 (by decide))).trans (((hG_42 20 (by decide))).trans (((hG_40 20 (by decide))).trans (((hG_38 20 (by decide))).trans (hG_30 20 (by decide)))))) rfl rfl) ?_
                        have hT_48 : TY (setO g202_47 20 (fup (w141_29 20) b3 (tkF ((h 16, h 19, h 12, h 13, fun c i => h 23 (h 17 c + i)) : DT_) n l b3))) := tu_20 hT_47 (show up g202_47 20 b3 (tkF ((h 16, h 19, h 12, h 13, fun c i => h 23 (h 17 c + i)) : DT_) n l b3) = (setO g202_47 20 (fup (w141_29 20) b3 (tkF ((h 16, h 19, h 12, h 13, fun c i => h 23 (h 17 c + i)) : DT_) n l b3))) from up_can (((hG_47 20 (by decide))).trans (((hG_42 20 (by decide))).trans (((hG_40 20 (by decide))).trans (((hG_38 20 (by decide))).trans (hG_30 20 (by decide)))))) rfl rfl) (by omega)
                        have hF_48 : FR [5, 6, 20, 21] h (setO g202_47 20 (fup (w141_29 20) b3 (tkF ((h 16, h 19, h 12, h 13, fun c i => h 23 (h 17 c + i)) : DT_) n l b3))) := FR_up (show up g202_47 20 b3 (tkF ((h 16, h 19, h 12, h 13, fun c i => h 23 (h 17 c + i)) : DT_) n l b3) = (setO g202_47 20 (fup (w141_29 20) b3 (tkF ((h 16, h 19, h 12, h 13, fun c i => h 23 (h 17 c + i)) : DT_) n l b3))) from up_can (((hG_47 20 (by decide))).trans (((hG_42 20 (by decide))).trans (((hG_40 20 (by decide))).trans (((hG_38 20 (by decide))).trans (hG_30 20 (by decide)))))) rfl rfl) hF_47 (by decide)
                        refine TT_iinc hK (v := b3 + 1) (lv' := [(6, vI (b3 + 1)), (8, vI (loF ((h 16, h 19, h 12, h 13, fun c i => h 23 (h 17 c + i)) : DT_) n l b3)), (7, vI (tkF ((h 16, h 19, h 12, h 13, fun c i => h 23 (h 17 c + i)) : DT_) n l b3)), (0, vR 7), (1, vI r), (2, vI l), (3, vI n), (4, vR 5), (5, vI an)]) 8 rfl rfl (by decide) rfl dX3_writePacket_214 ?_
                        refine TT_goto hK (tgt := 141) dX3_writePacket_217 (by decide) ?_
                        refine TT_sub [3, 4, 5, 6, 7, 8, 0] rfl ?_
                        have e49_21 : (setO g202_47 20 (fup (w141_29 20) b3 (tkF ((h 16, h 19, h 12, h 13, fun c i => h 23 (h 17 c + i)) : DT_) n l b3))) 21 = w141_29 21 := (sOf_ne _ _ (by decide)).trans (((hG_47 21 (by decide))).trans (((hG_42 21 (by decide))).trans (((hG_40 21 (by decide))).trans (((hG_38 21 (by decide))).trans (hG_30 21 (by decide))))))
                        have e50_5_1 : (setO g202_47 20 (fup (w141_29 20) b3 (tkF ((h 16, h 19, h 12, h 13, fun c i => h 23 (h 17 c + i)) : DT_) n l b3))) 5 1 = (g202_47 5) 1 := rd_ (sOf_ne _ _ (by decide)) rfl
                        have e51_5_2 : (setO g202_47 20 (fup (w141_29 20) b3 (tkF ((h 16, h 19, h 12, h 13, fun c i => h 23 (h 17 c + i)) : DT_) n l b3))) 5 2 = (g202_47 5) 2 := rd_ (sOf_ne _ _ (by decide)) rfl
                        have e52_6 : (setO g202_47 20 (fup (w141_29 20) b3 (tkF ((h 16, h 19, h 12, h 13, fun c i => h 23 (h 17 c + i)) : DT_) n l b3))) 6 = g202_47 6 := sOf_ne _ _ (by decide)
                        have e53_20 : (setO g202_47 20 (fup (w141_29 20) b3 (tkF ((h 16, h 19, h 12, h 13, fun c i => h 23 (h 17 c + i)) : DT_) n l b3))) 20 = fup (w141_29 20) b3 (tkF ((h 16, h 19, h 12, h 13, fun c i => h 23 (h 17 c + i)) : DT_) n l b3) := sOf_eq _ _ _
                        have e54_20 : (setO g202_47 20 (fup (w141_29 20) b3 (tkF ((h 16, h 19, h 12, h 13, fun c i => h 23 (h 17 c + i)) : DT_) n l b3))) 20 = fup (w141_29 20) b3 (tkF ((h 16, h 19, h 12, h 13, fun c i => h 23 (h 17 c + i)) : DT_) n l b3) := sOf_eq _ _ _
                        have e55_20 : (setO g202_47 20 (fup (w141_29 20) b3 (tkF ((h 16, h 19, h 12, h 13, fun c i => h 23 (h 17 c + i)) : DT_) n l b3))) 20 = fup (w141_29 20) b3 (tkF ((h 16, h 19, h 12, h 13, fun c i => h 23 (h 17 c + i)) : DT_) n l b3) := sOf_eq _ _ _
                        exact ih29 (b3 + 1) (setO g202_47 20 (fup (w141_29 20) b3 (tkF ((h 16, h 19, h 12, h 13, fun c i => h 23 (h 17 c + i)) : DT_) n l b3))) hT_48 hF_48 (by first | omega | (simp [up, setR] <;> omega)) (by first | omega | (simp [up, setR] <;> omega)) (by rewrite [e49_21]; exact hW3) (by rewrite [e50_5_1, e51_5_2, e52_6]; rw [wdsS_s (by omega)]; rw [wrS_sh] at af_at202; exact af_at202) (by rewrite [e53_20]; intro j j0 j1; by_cases e : j = b3; (rw [e, fup_eq]); (rw [fup_ne _ _ e]; exact h20a j j0 (by omega))) (by rewrite [e54_20]; intro j j0; rw [fup_ne _ _ (by omega)]; exact h20c j (by omega)) (by rewrite [e55_20]; rw [wdsS_s (by omega), (wrS_u _ wuu).2]; omega) (by first | omega | (simp [up, setR] <;> omega))
                  refine TT_sub [1, 2, 3, 4, 5, 6, 0] rfl ?_
                  have e56_21 : g136_28 21 = w87_24 21 := ((hG_28 21 (by decide))).trans (((hG_27 21 (by decide))).trans (hG_25 21 (by decide)))
                  have e57_5_1 : g136_28 5 1 = (g132_27 5) 1 := rd_ (hG_28 5 (by decide)) rfl
                  have e58_5_2 : g136_28 5 2 = (g132_27 5) 2 := rd_ (hG_28 5 (by decide)) rfl
                  have e59_6 : g136_28 6 = w87_24 6 := ((hG_28 6 (by decide))).trans (((hG_27 6 (by decide))).trans (hG_25 6 (by decide)))
                  have e60_20 : g136_28 20 = w87_24 20 := ((hG_28 20 (by decide))).trans (((hG_27 20 (by decide))).trans (hG_25 20 (by decide)))
                  have e61_20 : g136_28 20 = w87_24 20 := ((hG_28 20 (by decide))).trans (((hG_27 20 (by decide))).trans (hG_25 20 (by decide)))
                  have e62_20 : g136_28 20 = w87_24 20 := ((hG_28 20 (by decide))).trans (((hG_27 20 (by decide))).trans (hG_25 20 (by decide)))
                  exact L141_29 ((((10 : Int) - (FS r)).toNat) + 1) (FS r) g136_28 hT_28 hF_28 (by first | omega | (simp [up, setR] <;> omega)) (by first | omega | (simp [up, setR] <;> omega)) (by rewrite [e56_21]; rw [heq]; exact hP2) (by rewrite [e57_5_1, e58_5_2, e59_6]; rw [show FS r - FS r = 0 by omega, e2_at132.1, e2_at132.2]; show CBR _ _ _ (endB (heS ((h 16, h 19, h 12, h 13, fun c i => h 23 (h 17 c + i)) : DT_) n l r (s, W)).1); rw [heq]; exact CBR_e hC2) (by rewrite [e60_20]; intro j j0 j1; exfalso; omega) (by rewrite [e61_20]; intro j _; rw [k20]) (by rewrite [e62_20]; rw [show FS r - FS r = 0 by omega, k20]; show (endB (heS ((h 16, h 19, h 12, h 13, fun c i => h 23 (h 17 c + i)) : DT_) n l r (s, W)).1).1 ≤ _; omega) (Nat.lt_succ_self _)
                · have h20b : (w87_24 20) b2 = tkF ((h 16, h 19, h 12, h 13, fun c i => h 23 (h 17 c + i)) : DT_) n (l - 1) b2 := (congrFun k20 b2).trans (htk b2 (by omega) (by omega))
                  have tkb := tk9 b2 (by omega) (by omega)
                  have szb := sz0 b2 (by omega) (by omega)
                  refine TT_aload_n hK rfl 0 rfl dX3_writePacket_96 ?_
                  refine gf_X3_12 hK (by decide) rfl (q := 8) rfl rfl dX3_writePacket_97 ?_
                  refine TT_iload hK 6 rfl dX3_writePacket_100 ?_
                  refine iv_X3_213 hK (s_isEmpty_e b2 g90_25 hT_25 (by first | omega | (simp [up, setR] <;> omega))) (by decide) rfl ⟨by decide, by decide⟩ (by decide) rfl rfl (Nat.le_of_ble_eq_true rfl) ⟨by decide, by decide⟩ dX3_writePacket_102 ?_
                  intro r9 g102_63 hp9
                  obtain ⟨⟨hT_63, hG_63⟩, z102_63, hr9, hz_63, em_63⟩ := hp9
                  rw [hr9]
                  have hF_63 : FR [5, 6, 20, 21] h g102_63 := FR_tr hF_25 hG_63 (by decide)
                  rw [show g90_25 12 = h 12 from ((hG_25 12 (by decide))).trans (hF87_24 12 (by decide))] at em_63
                  rw [show g90_25 13 = h 13 from ((hG_25 13 (by decide))).trans (hF87_24 13 (by decide))] at em_63
                  have em_at102 := em_63
                  show TT K ly 0 0 105 [(0, vR 7), (1, vI r), (2, vI l), (3, vI n), (4, vR 5), (5, vI an), (6, vI b2)] [vI z102_63] g102_63
                  refine TT_if_ne hK (tgt := 124) (irm (by omega) (by omega)) dX3_writePacket_105 (by decide) (fun hb105_64 => ?_) (fun hb105_64 => ?_)
                  · 
                    refine TT_iinc hK (v := b2 + 1) (lv' := [(6, vI (b2 + 1)), (0, vR 7), (1, vI r), (2, vI l), (3, vI n), (4, vR 5), (5, vI an)]) 6 rfl rfl (by decide) rfl dX3_writePacket_124 ?_
                    refine TT_goto hK (tgt := 87) dX3_writePacket_127 (by decide) ?_
                    refine TT_sub [1, 2, 3, 4, 5, 6, 0] rfl ?_
                    have e65_20 : g102_63 20 = w87_24 20 := ((hG_63 20 (by decide))).trans (hG_25 20 (by decide))
                    have e66_5_1 : g102_63 5 1 = (w87_24 5) 1 := rd_ (((hG_63 5 (by decide))).trans (hG_25 5 (by decide))) rfl
                    have e67_5_2 : g102_63 5 2 = (w87_24 5) 2 := rd_ (((hG_63 5 (by decide))).trans (hG_25 5 (by decide))) rfl
                    have e68_6 : g102_63 6 = w87_24 6 := ((hG_63 6 (by decide))).trans (hG_25 6 (by decide))
                    have e69_21 : g102_63 21 = w87_24 21 := ((hG_63 21 (by decide))).trans (hG_25 21 (by decide))
                    exact ih24 (b2 + 1) g102_63 hT_63 hF_63 (by first | omega | (simp [up, setR] <;> omega)) (by first | omega | (simp [up, setR] <;> omega)) (by rewrite [e65_20]; first | rfl | exact k20) (by exact han1) (by rewrite [e66_5_1, e67_5_2, e68_6]; rw [hdsS_s (by omega), hd1S_e (D := ((h 16, h 19, h 12, h 13, fun c i => h 23 (h 17 c + i)) : DT_)) (em_at102.1 (by omega))]; exact hC2) (by rewrite [e69_21]; rw [hdsS_s (by omega), hd1S_e (D := ((h 16, h 19, h 12, h 13, fun c i => h 23 (h 17 c + i)) : DT_)) (em_at102.1 (by omega))]; exact hP2) (by rw [hdsS_s (by omega), hd1S_e (D := ((h 16, h 19, h 12, h 13, fun c i => h 23 (h 17 c + i)) : DT_)) (em_at102.1 (by omega))]; omega) (by first | omega | (simp [up, setR] <;> omega))
                  · refine TT_aload_n hK rfl 0 rfl dX3_writePacket_108 ?_
                    refine TT_iload hK 6 rfl dX3_writePacket_109 ?_
                    refine TT_aload_n hK rfl 0 rfl dX3_writePacket_111 ?_
                    refine TT_iload hK 6 rfl dX3_writePacket_112 ?_
                    refine TT_iload_n hK rfl 2 rfl dX3_writePacket_114 ?_
                    refine TT_iload_n hK rfl 3 rfl dX3_writePacket_115 ?_
                    refine iv_X3_204 hK (s_passesUpTo_e b2 l n g102_63 hT_63 (by first | omega | (simp [up, setR] <;> omega)) (by first | omega | (simp [up, setR] <;> omega)) (by first | omega | (simp [up, setR] <;> omega))) (by decide) rfl ⟨by decide, by decide⟩ (by decide) rfl rfl (Nat.le_of_ble_eq_true rfl) ⟨by decide, by decide⟩ dX3_writePacket_116 ?_
                    intro r9 g116_70 hp9
                    obtain ⟨⟨hT_70, hG_70⟩, z116_70, hr9, hz_70, pu_70⟩ := hp9
                    rw [hr9]
                    have hF_70 : FR [5, 6, 20, 21] h g116_70 := FR_tr hF_63 hG_70 (by decide)
                    rw [show g102_63 16 = h 16 from ((hG_63 16 (by decide))).trans (((hG_25 16 (by decide))).trans (hF87_24 16 (by decide)))] at pu_70
                    have pu_at116 := pu_70
                    show TT K ly 0 0 119 [(0, vR 7), (1, vI r), (2, vI l), (3, vI n), (4, vR 5), (5, vI an), (6, vI b2)] [vI z116_70, vI b2, vR 7] g116_70
                    refine TT_cgI (b := tkF ((h 16, h 19, h 12, h 13, fun c i => h 23 (h 17 c + i)) : DT_) n l b2) (by exact pu_at116) ?_
                    refine TT_aload hK 4 rfl dX3_writePacket_119 ?_
                    have e71_5_1 : g116_70 5 1 = (w87_24 5) 1 := rd_ (((hG_70 5 (by decide))).trans (((hG_63 5 (by decide))).trans (hG_25 5 (by decide)))) rfl
                    have e72_5_2 : g116_70 5 2 = (w87_24 5) 2 := rd_ (((hG_70 5 (by decide))).trans (((hG_63 5 (by decide))).trans (hG_25 5 (by decide)))) rfl
                    have e73_6 : g116_70 6 = w87_24 6 := ((hG_70 6 (by decide))).trans (((hG_63 6 (by decide))).trans (hG_25 6 (by decide)))
                    have e74_21 : g116_70 21 = w87_24 21 := ((hG_70 21 (by decide))).trans (((hG_63 21 (by decide))).trans (hG_25 21 (by decide)))
                    have e75_8_10 : g116_70 8 10 = (h 8) 10 := rd_ (((hG_70 8 (by decide))).trans (((hG_63 8 (by decide))).trans (((hG_25 8 (by decide))).trans (hF87_24 8 (by decide))))) rfl
                    have e76_16 : g116_70 16 = h 16 := ((hG_70 16 (by decide))).trans (((hG_63 16 (by decide))).trans (((hG_25 16 (by decide))).trans (hF87_24 16 (by decide))))
                    have e77_20 : g116_70 20 = w87_24 20 := ((hG_70 20 (by decide))).trans (((hG_63 20 (by decide))).trans (hG_25 20 (by decide)))
                    have e78_19 : g116_70 19 = h 19 := ((hG_70 19 (by decide))).trans (((hG_63 19 (by decide))).trans (((hG_25 19 (by decide))).trans (hF87_24 19 (by decide))))
                    have e79_20 : g116_70 20 = w87_24 20 := ((hG_70 20 (by decide))).trans (((hG_63 20 (by decide))).trans (hG_25 20 (by decide)))
                    refine iv_X3_216 hK (s_writeBandHead_e ((hdsS ((h 16, h 19, h 12, h 13, fun c i => h 23 (h 17 c + i)) : DT_) n l (FS r) (b2 - FS r).toNat (putS 1 1 s, W)).1) b2 (tkF ((h 16, h 19, h 12, h 13, fun c i => h 23 (h 17 c + i)) : DT_) n l b2) g116_70 hT_70 (by first | omega | (simp [up, setR] <;> omega)) (by first | omega | (simp [up, setR] <;> omega)) (by rewrite [e71_5_1, e72_5_2, e73_6]; exact hC2) (by exact hP2.1) (by omega) (by rewrite [e74_21]; rw [(hP2.2 b2 (by omega) (by omega)).1]; exact (hP2.2 b2 (by omega) (by omega)).2) (by rewrite [e75_8_10]; first | omega | (simp [up, setR] <;> omega)) (by rewrite [e76_16, e77_20]; rw [h20b]; omega) (by rewrite [e78_19, e79_20]; rw [h20b]; exact szb.1)) (by decide) rfl ⟨by decide, by decide⟩ (by decide) rfl rfl (Nat.le_of_ble_eq_true rfl) ⟨by decide, by decide⟩ dX3_writePacket_121 ?_
                    intro r9 g121_80 hp9
                    obtain ⟨⟨hT_80, hG_80⟩, hr9, hd_80, w1_80⟩ := hp9
                    rw [hr9]
                    have hF_80 : FR [5, 6, 20, 21] h g121_80 := FR_tr hF_70 hG_80 (by decide)
                    rw [show g116_70 16 = h 16 from ((hG_70 16 (by decide))).trans (((hG_63 16 (by decide))).trans (((hG_25 16 (by decide))).trans (hF87_24 16 (by decide))))] at hd_80
                    rw [show g116_70 19 = h 19 from ((hG_70 19 (by decide))).trans (((hG_63 19 (by decide))).trans (((hG_25 19 (by decide))).trans (hF87_24 19 (by decide))))] at hd_80
                    rw [show g116_70 20 = w87_24 20 from ((hG_70 20 (by decide))).trans (((hG_63 20 (by decide))).trans (hG_25 20 (by decide)))] at hd_80
                    rw [show g116_70 21 = w87_24 21 from ((hG_70 21 (by decide))).trans (((hG_63 21 (by decide))).trans (hG_25 21 (by decide)))] at hd_80
                    rw [show g116_70 19 = h 19 from ((hG_70 19 (by decide))).trans (((hG_63 19 (by decide))).trans (((hG_25 19 (by decide))).trans (hF87_24 19 (by decide))))] at w1_80
                    rw [show g116_70 20 = w87_24 20 from ((hG_70 20 (by decide))).trans (((hG_63 20 (by decide))).trans (hG_25 20 (by decide)))] at w1_80
                    rw [show g116_70 21 = w87_24 21 from ((hG_70 21 (by decide))).trans (((hG_63 21 (by decide))).trans (hG_25 21 (by decide)))] at w1_80
                    have hd_at121 := hd_80
                    have w1_at121 := w1_80
                    show TT K ly 0 0 124 [(0, vR 7), (1, vI r), (2, vI l), (3, vI n), (4, vR 5), (5, vI an), (6, vI b2)] [] g121_80
                    rw [h20b] at hd_at121 w1_at121
                    have pw9 := PKW_h (D := ((h 16, h 19, h 12, h 13, fun c i => h 23 (h 17 c + i)) : DT_)) (em_at102.2 (by omega)) hP2 (by omega) szb.1 (by omega) rfl
                    refine TT_iinc hK (v := b2 + 1) (lv' := [(6, vI (b2 + 1)), (0, vR 7), (1, vI r), (2, vI l), (3, vI n), (4, vR 5), (5, vI an)]) 6 rfl rfl (by decide) rfl dX3_writePacket_124 ?_
                    refine TT_goto hK (tgt := 87) dX3_writePacket_127 (by decide) ?_
                    refine TT_sub [1, 2, 3, 4, 5, 6, 0] rfl ?_
                    have e81_20 : g121_80 20 = w87_24 20 := ((hG_80 20 (by decide))).trans (((hG_70 20 (by decide))).trans (((hG_63 20 (by decide))).trans (hG_25 20 (by decide))))
                    have e82_5_1 : g121_80 5 1 = (g121_80 5) 1 := rfl
                    have e83_5_2 : g121_80 5 2 = (g121_80 5) 2 := rfl
                    exact ih24 (b2 + 1) g121_80 hT_80 hF_80 (by first | omega | (simp [up, setR] <;> omega)) (by first | omega | (simp [up, setR] <;> omega)) (by rewrite [e81_20]; first | rfl | exact k20) (by exact han1) (by rewrite [e82_5_1, e83_5_2]; rw [hdsS_s (by omega), hd1S_p (D := ((h 16, h 19, h 12, h 13, fun c i => h 23 (h 17 c + i)) : DT_)) (em_at102.2 (by omega)), ← (hP2.2 b2 (by omega) (by omega)).1]; exact hd_at121) (by rw [hdsS_s (by omega), w1_at121]; exact pw9.1) (by rw [hdsS_s (by omega)]; omega) (by first | omega | (simp [up, setR] <;> omega))
            refine TT_sub [1, 2, 3, 4, 5, 6, 0] rfl ?_
            have e84_20 : g82_23 20 = w9_2 20 := ((hG_23 20 (by decide))).trans (((hG_21 20 (by decide))).trans (hG_3 20 (by decide)))
            have e85_5_1 : g82_23 5 1 = (g67_21 5) 1 := rd_ (hG_23 5 (by decide)) rfl
            have e86_5_2 : g82_23 5 2 = (g67_21 5) 2 := rd_ (hG_23 5 (by decide)) rfl
            have e87_6 : g82_23 6 = g67_21 6 := (hG_23 6 (by decide))
            have e88_21 : g82_23 21 = w9_2 21 := ((hG_23 21 (by decide))).trans (((hG_21 21 (by decide))).trans (hG_3 21 (by decide)))
            exact L87_24 ((((10 : Int) - (FS r)).toNat) + 1) (FS r) g82_23 hT_23 hF_23 (by first | omega | (simp [up, setR] <;> omega)) (by first | omega | (simp [up, setR] <;> omega)) (by rewrite [e84_20]; first | rfl | exact k20) (by omega) (by rewrite [e85_5_1, e86_5_2, e87_6]; rw [show FS r - FS r = 0 by omega]; exact pb_at67.1) (by rewrite [e88_21]; rw [show FS r - FS r = 0 by omega, k21]; exact PKW_s hpk pb_at67.2) (by have p9 := (putS_n 1 1 wu1).2; have uu9 := hu.2; rw [show FS r - FS r = 0 by omega]; show 8 * (putS 1 1 s).1 + (putS 1 1 s).2.1 ≤ _; omega) (Nat.lt_succ_self _)
          · exfalso; omega
      · have h20b : (w9_2 20) b1 = tkF ((h 16, h 19, h 12, h 13, fun c i => h 23 (h 17 c + i)) : DT_) n (l - 1) b1 := (congrFun k20 b1).trans (htk b1 (by omega) (by omega))
        have tkb := tk9 b1 (by omega) (by omega)
        refine TT_iload hK 5 rfl dX3_writePacket_18 ?_
        refine TT_if_ne hK (tgt := 41) (irm (by omega) (by omega)) dX3_writePacket_20 (by decide) (fun hb20_89 => ?_) (fun hb20_89 => ?_)
        · refine TT_iconst hK dX3_writePacket_41 ?_
          refine TT_goto hK (tgt := 46) dX3_writePacket_42 (by decide) ?_
          refine TT_istore hK (lv' := [(5, vI 1), (0, vR 7), (1, vI r), (2, vI l), (3, vI n), (4, vR 5), (6, vI b1)]) (by decide) rfl dX3_writePacket_46 ?_
          refine TT_iinc hK (v := b1 + 1) (lv' := [(6, vI (b1 + 1)), (5, vI 1), (0, vR 7), (1, vI r), (2, vI l), (3, vI n), (4, vR 5)]) 6 rfl rfl (by decide) rfl dX3_writePacket_48 ?_
          refine TT_goto hK (tgt := 9) dX3_writePacket_51 (by decide) ?_
          refine TT_sub [2, 3, 4, 5, 6, 1, 0] rfl ?_
          have e90_20 : g12_3 20 = w9_2 20 := (hG_3 20 (by decide))
          have e91_21 : g12_3 21 = w9_2 21 := (hG_3 21 (by decide))
          have e92_5_1 : g12_3 5 1 = (w9_2 5) 1 := rd_ (hG_3 5 (by decide)) rfl
          have e93_5_2 : g12_3 5 2 = (w9_2 5) 2 := rd_ (hG_3 5 (by decide)) rfl
          have e94_6 : g12_3 6 = w9_2 6 := (hG_3 6 (by decide))
          exact ih2 1 (b1 + 1) g12_3 hT_3 hF_3 (by first | omega | (simp [up, setR] <;> omega)) (by first | omega | (simp [up, setR] <;> omega)) (by first | omega | (simp [up, setR] <;> omega)) (by rewrite [e90_20]; first | rfl | exact k20) (by rewrite [e91_21]; first | rfl | exact k21) (by rewrite [e92_5_1, e93_5_2, e94_6]; exact hC1) (by exact anS_s (by omega) hA (by first | exact Or.inl ⟨rfl, by omega⟩ | exact Or.inr ⟨rfl, by omega⟩)) (by first | omega | (simp [up, setR] <;> omega))
        · refine TT_aload_n hK rfl 0 rfl dX3_writePacket_23 ?_
          refine TT_iload hK 6 rfl dX3_writePacket_24 ?_
          refine TT_iload_n hK rfl 2 rfl dX3_writePacket_26 ?_
          refine TT_iload_n hK rfl 3 rfl dX3_writePacket_27 ?_
          refine iv_X3_204 hK (s_passesUpTo_e b1 l n g12_3 hT_3 (by first | omega | (simp [up, setR] <;> omega)) (by first | omega | (simp [up, setR] <;> omega)) (by first | omega | (simp [up, setR] <;> omega))) (by decide) rfl ⟨by decide, by decide⟩ (by decide) rfl rfl (Nat.le_of_ble_eq_true rfl) ⟨by decide, by decide⟩ dX3_writePacket_28 ?_
          intro r9 g28_95 hp9
          obtain ⟨⟨hT_95, hG_95⟩, z28_95, hr9, hz_95, pu_95⟩ := hp9
          rw [hr9]
          have hF_95 : FR [5, 6, 20, 21] h g28_95 := FR_tr hF_3 hG_95 (by decide)
          rw [show g12_3 16 = h 16 from ((hG_3 16 (by decide))).trans (hF9_2 16 (by decide))] at pu_95
          have pu_at28 := pu_95
          show TT K ly 0 0 31 [(0, vR 7), (1, vI r), (2, vI l), (3, vI n), (4, vR 5), (5, vI an), (6, vI b1)] [vI z28_95] g28_95
          refine TT_cgI (b := tkF ((h 16, h 19, h 12, h 13, fun c i => h 23 (h 17 c + i)) : DT_) n l b1) (by exact pu_at28) ?_
          refine TT_aload_n hK rfl 0 rfl dX3_writePacket_31 ?_
          refine gf_X3_31 hK (by decide) rfl (q := 20) rfl rfl dX3_writePacket_32 ?_
          refine TT_iload hK 6 rfl dX3_writePacket_35 ?_
          refine TT_iald hK (o := 20) (n := 10) (by decide) rfl (by first | omega | (simp [up, setR] <;> omega)) (by first | omega | (simp [up, setR] <;> omega)) (v := (w9_2 20) b1) (rd_ (((hG_95 20 (by decide))).trans (hG_3 20 (by decide))) rfl) dX3_writePacket_37 ?_
          have r96 := ty_20 (i := b1) (v := (w9_2 20) b1) hT_95 (rd_ (((hG_95 20 (by decide))).trans (hG_3 20 (by decide))) rfl) (by omega) (by omega)
          refine TT_icmp_le hK (tgt := 45) (irm (by omega) (by omega)) (irm (by omega) (by omega)) dX3_writePacket_38 (by decide) (fun hb38_97 => ?_) (fun hb38_97 => ?_)
          · refine TT_iconst hK dX3_writePacket_45 ?_
            refine TT_istore hK (lv' := [(5, vI 0), (0, vR 7), (1, vI r), (2, vI l), (3, vI n), (4, vR 5), (6, vI b1)]) (by decide) rfl dX3_writePacket_46 ?_
            refine TT_iinc hK (v := b1 + 1) (lv' := [(6, vI (b1 + 1)), (5, vI 0), (0, vR 7), (1, vI r), (2, vI l), (3, vI n), (4, vR 5)]) 6 rfl rfl (by decide) rfl dX3_writePacket_48 ?_
            refine TT_goto hK (tgt := 9) dX3_writePacket_51 (by decide) ?_
            refine TT_sub [2, 3, 4, 5, 6, 1, 0] rfl ?_
            have e98_20 : g28_95 20 = w9_2 20 := ((hG_95 20 (by decide))).trans (hG_3 20 (by decide))
            have e99_21 : g28_95 21 = w9_2 21 := ((hG_95 21 (by decide))).trans (hG_3 21 (by decide))
            have e100_5_1 : g28_95 5 1 = (w9_2 5) 1 := rd_ (((hG_95 5 (by decide))).trans (hG_3 5 (by decide))) rfl
            have e101_5_2 : g28_95 5 2 = (w9_2 5) 2 := rd_ (((hG_95 5 (by decide))).trans (hG_3 5 (by decide))) rfl
            have e102_6 : g28_95 6 = w9_2 6 := ((hG_95 6 (by decide))).trans (hG_3 6 (by decide))
            exact ih2 0 (b1 + 1) g28_95 hT_95 hF_95 (by first | omega | (simp [up, setR] <;> omega)) (by first | omega | (simp [up, setR] <;> omega)) (by first | omega | (simp [up, setR] <;> omega)) (by rewrite [e98_20]; first | rfl | exact k20) (by rewrite [e99_21]; first | rfl | exact k21) (by rewrite [e100_5_1, e101_5_2, e102_6]; exact hC1) (by exact anS_s (by omega) hA (by first | exact Or.inl ⟨rfl, by omega⟩ | exact Or.inr ⟨rfl, by omega⟩)) (by first | omega | (simp [up, setR] <;> omega))
          · refine TT_iconst hK dX3_writePacket_41 ?_
            refine TT_goto hK (tgt := 46) dX3_writePacket_42 (by decide) ?_
            refine TT_istore hK (lv' := [(5, vI 1), (0, vR 7), (1, vI r), (2, vI l), (3, vI n), (4, vR 5), (6, vI b1)]) (by decide) rfl dX3_writePacket_46 ?_
            refine TT_iinc hK (v := b1 + 1) (lv' := [(6, vI (b1 + 1)), (5, vI 1), (0, vR 7), (1, vI r), (2, vI l), (3, vI n), (4, vR 5)]) 6 rfl rfl (by decide) rfl dX3_writePacket_48 ?_
            refine TT_goto hK (tgt := 9) dX3_writePacket_51 (by decide) ?_
            refine TT_sub [2, 3, 4, 5, 6, 1, 0] rfl ?_
            have e103_20 : g28_95 20 = w9_2 20 := ((hG_95 20 (by decide))).trans (hG_3 20 (by decide))
            have e104_21 : g28_95 21 = w9_2 21 := ((hG_95 21 (by decide))).trans (hG_3 21 (by decide))
            have e105_5_1 : g28_95 5 1 = (w9_2 5) 1 := rd_ (((hG_95 5 (by decide))).trans (hG_3 5 (by decide))) rfl
            have e106_5_2 : g28_95 5 2 = (w9_2 5) 2 := rd_ (((hG_95 5 (by decide))).trans (hG_3 5 (by decide))) rfl
            have e107_6 : g28_95 6 = w9_2 6 := ((hG_95 6 (by decide))).trans (hG_3 6 (by decide))
            exact ih2 1 (b1 + 1) g28_95 hT_95 hF_95 (by first | omega | (simp [up, setR] <;> omega)) (by first | omega | (simp [up, setR] <;> omega)) (by first | omega | (simp [up, setR] <;> omega)) (by rewrite [e103_20]; first | rfl | exact k20) (by rewrite [e104_21]; first | rfl | exact k21) (by rewrite [e105_5_1, e106_5_2, e107_6]; exact hC1) (by exact anS_s (by omega) hA (by first | exact Or.inl ⟨rfl, by omega⟩ | exact Or.inr ⟨rfl, by omega⟩)) (by first | omega | (simp [up, setR] <;> omega))
  refine TT_sub [2, 3, 4, 5, 6, 1, 0] rfl ?_
  have e108_20 : g4_1 20 = h 20 := (hG_1 20 (by decide))
  have e109_21 : g4_1 21 = h 21 := (hG_1 21 (by decide))
  have e110_5_1 : g4_1 5 1 = (h 5) 1 := rd_ (hG_1 5 (by decide)) rfl
  have e111_5_2 : g4_1 5 2 = (h 5) 2 := rd_ (hG_1 5 (by decide)) rfl
  have e112_6 : g4_1 6 = h 6 := (hG_1 6 (by decide))
  exact L9_2 ((((10 : Int) - (FS r)).toNat) + 1) 0 (FS r) g4_1 hT_1 hF_1 (by first | omega | (simp [up, setR] <;> omega)) (by first | omega | (simp [up, setR] <;> omega)) (by first | omega | (simp [up, setR] <;> omega)) (by rewrite [e108_20]; first | rfl) (by rewrite [e109_21]; first | rfl) (by rewrite [e110_5_1, e111_5_2, e112_6]; exact hcb) (by rw [show FS r - FS r = 0 by omega]; rfl) (Nat.lt_succ_self _)

/-! THE BANDS: where they lie and how large they are -/
def bwS (W L b : Int) : Int := if b = 0 then lft W L else if (b - 1) % 3 = 1 then lft W (L - (b - 1) / 3) else lft W (L - (b - 1) / 3 - 1) - lft W (L - (b - 1) / 3)
def bhS (E L b : Int) : Int := if b = 0 then lft E L else if (b - 1) % 3 = 0 then lft E (L - (b - 1) / 3) else lft E (L - (b - 1) / 3 - 1) - lft E (L - (b - 1) / 3)
def kdS (b : Int) : Int := if b = 0 then 0 else if (b - 1) % 3 = 0 then 1 else if (b - 1) % 3 = 1 then 0 else 2
def lfS (W L b : Int) : Int := if b = 0 ∨ (b - 1) % 3 = 1 then 0 else lft W (L - (b - 1) / 3)
def tpS (E L b : Int) : Int := if b = 0 ∨ (b - 1) % 3 = 0 then 0 else lft E (L - (b - 1) / 3)
section GEO
variable {W E L m l : Int}
theorem geo0 (b : Int) (hb : b = 3 * m + 1) (hm : 0 ≤ m) (hl : l = L - m) : bwS W L b = lft W (l - 1) - lft W l ∧ bhS E L b = lft E l ∧ kdS b = 1 ∧ lfS W L b = lft W l ∧ tpS E L b = 0 := by
  subst hb hl
  have e1 : (3 * m + 1 - 1) / 3 = m := by omega
  have e2 : (3 * m + 1 - 1) % 3 = 0 := by omega
  unfold bwS bhS kdS lfS tpS
  rw [e1, e2, if_neg (by omega), if_neg (by omega), if_neg (by omega), if_pos rfl, if_neg (by omega), if_pos rfl, if_neg (by omega), if_pos (by omega)]
  exact ⟨rfl, rfl, rfl, rfl, rfl⟩
theorem geo1 (b : Int) (hb : b = 3 * m + 2) (hm : 0 ≤ m) (hl : l = L - m) : bwS W L b = lft W l ∧ bhS E L b = lft E (l - 1) - lft E l ∧ kdS b = 0 ∧ lfS W L b = 0 ∧ tpS E L b = lft E l := by
  subst hb hl
  have e1 : (3 * m + 2 - 1) / 3 = m := by omega
  have e2 : (3 * m + 2 - 1) % 3 = 1 := by omega
  unfold bwS bhS kdS lfS tpS
  rw [e1, e2, if_neg (by omega), if_pos rfl, if_neg (by omega), if_neg (by omega), if_neg (by omega), if_neg (by omega), if_pos rfl, if_pos (by omega), if_neg (by omega)]
  exact ⟨rfl, rfl, rfl, rfl, rfl⟩
theorem geo2 (b : Int) (hb : b = 3 * m + 3) (hm : 0 ≤ m) (hl : l = L - m) : bwS W L b = lft W (l - 1) - lft W l ∧ bhS E L b = lft E (l - 1) - lft E l ∧ kdS b = 2 ∧ lfS W L b = lft W l ∧ tpS E L b = lft E l := by
  subst hb hl
  have e1 : (3 * m + 3 - 1) / 3 = m := by omega
  have e2 : (3 * m + 3 - 1) % 3 = 2 := by omega
  unfold bwS bhS kdS lfS tpS
  rw [e1, e2, if_neg (by omega), if_neg (by omega), if_neg (by omega), if_neg (by omega), if_neg (by omega), if_neg (by omega), if_neg (by omega), if_neg (by omega), if_neg (by omega)]
  exact ⟨rfl, rfl, rfl, rfl, rfl⟩
end GEO
theorem geoz (W E L : Int) : bwS W L 0 = lft W L ∧ bhS E L 0 = lft E L ∧ kdS 0 = 0 ∧ lfS W L 0 = 0 ∧ tpS E L 0 = 0 := ⟨rfl, rfl, rfl, rfl, rfl⟩
theorem fsr_pre3 (f : Int → Int) {g : Int → Int} {b b' s e b1 b2 v0 v1 v2 : Int} (hs : s = b + 3) (hb : b' = b) (hb1 : b1 = b + 1) (hb2 : b2 = b + 2) (he : b + 3 ≤ e) (h0 : v0 = g b) (h1 : v1 = g b1) (h2 : v2 = g b2) : fup (fup (fup (fsr f s e g) b v0) b1 v1) b2 v2 = fsr f b' e g := by
  subst hs hb hb1 hb2 h0 h1 h2
  funext j
  unfold fup fsr
  by_cases q2 : j = b' + 2
  · subst q2; rw [if_pos rfl, if_pos (by omega)]
  · rw [if_neg q2]
    by_cases q1 : j = b' + 1
    · subst q1; rw [if_pos rfl, if_pos (by omega)]
    · rw [if_neg q1]
      by_cases q0 : j = b'
      · subst q0; rw [if_pos rfl, if_pos (by omega)]
      · rw [if_neg q0]
        by_cases q : b' + 3 ≤ j ∧ j < e
        · rw [if_pos q, if_pos (by omega)]
        · rw [if_neg q, if_neg (by omega)]
theorem fsr_pre1 (f : Int → Int) {g : Int → Int} {b s e v0 : Int} (hs : s = b + 1) (he : b + 1 ≤ e) (h0 : v0 = g b) : fup (fsr f s e g) b v0 = fsr f b e g := by
  subst hs h0
  funext j
  unfold fup fsr
  by_cases q0 : j = b
  · subst q0; rw [if_pos rfl, if_pos (by omega)]
  · rw [if_neg q0]
    by_cases q : b + 1 ≤ j ∧ j < e
    · rw [if_pos q, if_pos (by omega)]
    · rw [if_neg q, if_neg (by omega)]
theorem fsr_app3 (f : Int → Int) {g : Int → Int} {a e e' b0 b1 b2 v0 v1 v2 : Int} (ha : a ≤ e) (hb0 : b0 = e) (hb1 : b1 = e + 1) (hb2 : b2 = e + 2) (he : e' = e + 3) (h0 : v0 = g b0) (h1 : v1 = g b1) (h2 : v2 = g b2) : fup (fup (fup (fsr f a e g) b0 v0) b1 v1) b2 v2 = fsr f a e' g := by
  subst hb0 hb1 hb2 he h0 h1 h2
  rw [fsr_step _ ha rfl, fsr_step _ (by omega) rfl, show b0 + 2 = b0 + 1 + 1 by omega, fsr_step _ (by omega) rfl]
  rw [show b0 + 1 + 1 + 1 = b0 + 3 by omega]
theorem fsr_cat (f : Int → Int) {g : Int → Int} {a m m' e : Int} (h : m = m') (h1 : a ≤ m) (h2 : m ≤ e) : fsr (fsr f a m g) m' e g = fsr f a e g := by
  subst h
  funext j
  unfold fsr
  by_cases q : m ≤ j ∧ j < e
  · rw [if_pos q, if_pos (by omega)]
  · rw [if_neg q]
    by_cases q1 : a ≤ j ∧ j < m
    · rw [if_pos q1, if_pos (by omega)]
    · rw [if_neg q1, if_neg (by omega)]
theorem fsr_cat3 (f : Int → Int) {g : Int → Int} {a m m0 m1 m2 e0 e1 e2 e' : Int} (h : m0 = m) (h0 : e0 = m1) (h1 : e1 = m2) (h2 : e2 = e') (g0 : a ≤ m) (g1 : m0 ≤ m1) (g2 : m1 ≤ m2) (g3 : m2 ≤ e') : fsr (fsr (fsr (fsr f a m g) m0 e0 g) m1 e1 g) m2 e2 g = fsr f a e' g := by
  subst h h0 h1 h2
  rw [fsr_cat _ rfl g0 g1, fsr_cat _ rfl (by omega) g2, fsr_cat _ rfl (by omega) g3]
/-- a band's rows of eight, up to row y, and there up to x -/
def ldP (f g : Int → Int) (b w y x : Int) : Int → Int := fun j => if 64 * b ≤ j ∧ j < 64 * b + 64 ∧ ((j - 64 * b) / 8 < y ∧ (j - 64 * b) % 8 < w ∨ (j - 64 * b) / 8 = y ∧ (j - 64 * b) % 8 < x) then g (j - 64 * b) else f j
theorem ldP_0 (f g : Int → Int) (b w : Int) : f = ldP f g b w 0 0 := by
  funext j; unfold ldP; rw [if_neg (by omega)]
theorem ldP_step (f g : Int → Int) {b w y x i v : Int} (hi : i = 64 * b + 8 * y + x) (hx : 0 ≤ x ∧ x < 8) (hy : 0 ≤ y ∧ y < 8) (hv : v = g (8 * y + x)) : fup (ldP f g b w y x) i v = ldP f g b w y (x + 1) := by
  subst hi hv
  funext j
  unfold fup ldP
  by_cases q : j = 64 * b + 8 * y + x
  · subst q
    rw [if_pos rfl, if_pos (by omega)]
    congr 1; omega
  · rw [if_neg q]
    by_cases q2 : 64 * b ≤ j ∧ j < 64 * b + 64 ∧ ((j - 64 * b) / 8 < y ∧ (j - 64 * b) % 8 < w ∨ (j - 64 * b) / 8 = y ∧ (j - 64 * b) % 8 < x)
    · rw [if_pos q2, if_pos (by omega)]
    · rw [if_neg q2, if_neg (by omega)]
theorem ldP_row (f g : Int → Int) {b w x y : Int} (hx : x = w) : ldP f g b w y x = ldP f g b w (y + 1) 0 := by
  subst hx
  funext j
  unfold ldP
  by_cases q2 : 64 * b ≤ j ∧ j < 64 * b + 64 ∧ ((j - 64 * b) / 8 < y ∧ (j - 64 * b) % 8 < x ∨ (j - 64 * b) / 8 = y ∧ (j - 64 * b) % 8 < x)
  · rw [if_pos q2, if_pos (by omega)]
  · rw [if_neg q2, if_neg (by omega)]
theorem fsr_one (f : Int → Int) {g : Int → Int} {a e v : Int} (he : e = a + 1) (hv : v = g a) : fup f a v = fsr f a e g := by
  subst he hv
  conv => lhs; rw [fsr_0 f a g]
  exact fsr_step _ (Int.le_refl _) rfl

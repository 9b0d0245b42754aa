theorem rwL_l (n : Nat) (y : Int) : ∀ x : Nat, (rwL n y x).length = x * n
  | 0 => by rw [Nat.zero_mul]; rfl
  | x + 1 => by
    show (rwL n y x ++ clL _ n).length = _
    rw [List.length_append, rwL_l n y x, clL_l, Nat.add_mul, Nat.one_mul]
theorem stL_l (w g : Int) : ∀ j : Nat, (j : Int) * 4 < g + 4 → ((stL w g j).length : Int) = (w.toNat : Int) * min ((j : Int) * 4) (max 0 g)
  | 0, h => by
    show ((0 : Nat) : Int) = _
    rw [show min (((0 : Nat) : Int) * 4) (max 0 g) = 0 by omega]
    omega
  | j + 1, h => by
    show ((stL w g j ++ rwL _ _ _).length : Int) = _
    rw [List.length_append, Int.natCast_add, stL_l w g j (by omega), rwL_l, Int.natCast_mul, ← Int.mul_add]
    congr 1
    omega
/-- all passes of a band with q planes, the first k of them -/
noncomputable def psN (M : Int → Int) (kd w g q : Int) : Nat → TS_ → TS_
  | 0, s => s
  | k + 1, s => passT M kd w g (k : Int) q (psN M kd w g q k s)
theorem passT_0 {M : Int → Int} {kd w g k q : Int} {s : TS_} (h : (k + 2) % 3 = 0) : passT M kd w g k q s = strP M kd (q - 1 - (k + 2) / 3) 0 w g ((g + 3) / 4).toNat s := by
  unfold passT
  rw [if_neg (by omega), h]
theorem passT_1 {M : Int → Int} {kd w g k q : Int} {s : TS_} (h : (k + 2) % 3 = 1) : passT M kd w g k q s = strP M kd (q - 1 - (k + 2) / 3) 1 w g ((g + 3) / 4).toNat s := by
  unfold passT
  rw [if_neg (by omega), h]
theorem passT_2 {M : Int → Int} {kd w g k q : Int} {s : TS_} (h : (k + 2) % 3 = 2) : (passT M kd w g k q s).1 = (strP M kd (q - 1 - (k + 2) / 3) 2 w g ((g + 3) / 4).toNat s).1 ∧ (passT M kd w g k q s).2.1 = clrT (strP M kd (q - 1 - (k + 2) / 3) 2 w g ((g + 3) / 4).toNat s).2.1 ∧ (passT M kd w g k q s).2.2.2 = (strP M kd (q - 1 - (k + 2) / 3) 2 w g ((g + 3) / 4).toNat s).2.2.2 := by
  unfold passT
  rw [if_pos h, h]
  exact ⟨rfl, rfl, rfl⟩
theorem awN_c {s u : TS_} (h : s.1 = u.1) (P : List Int) : awN s P = awN u P := by
  unfold awN
  rw [h]
/-- behind each plane: one bit a place and a plane, three for each place that wakes -/
theorem psN_n {M : Int → Int} {kd w g q : Int} {s : TS_} (hw : w ≤ 8) (hg : 0 ≤ g ∧ g ≤ 8) (ha : ∀ r, r ∈ stL w g ((g + 3) / 4).toNat → s.1 r = 0) : ∀ i : Nat,
    ((psN M kd w g q (3 * i + 1) s).2.2.2.length : Int) ≤ (s.2.2.2.length : Int) + ((i : Int) + 1) * ((stL w g ((g + 3) / 4).toNat).length : Int) + 3 * awN (psN M kd w g q (3 * i + 1) s) (stL w g ((g + 3) / 4).toNat) ∧ (∀ r, r ∈ stL w g ((g + 3) / 4).toNat → (psN M kd w g q (3 * i + 1) s).2.1 r = 0) := by
  have hj : ((((g + 3) / 4).toNat : Nat) : Int) * 4 < g + 4 := by omega
  have hz : ∀ (t : Int → Int) r, r ∈ stL w g ((g + 3) / 4).toNat → clrT t r = 0 := fun t r hr => by
    obtain ⟨i, k, h1, h2, h3, h4⟩ := stL_m hr
    unfold clrT
    rw [if_pos (by omega)]
  intro i
  induction i with
  | zero =>
    obtain ⟨e1, e2, e3⟩ := passT_2 (M := M) (kd := kd) (w := w) (g := g) (k := ((0 : Nat) : Int)) (q := q) (s := s) (by omega)
    show ((passT M kd w g ((0 : Nat) : Int) q s).2.2.2.length : Int) ≤ _ + _ + 3 * awN (passT M kd w g ((0 : Nat) : Int) q s) _ ∧ ∀ r, _ → (passT M kd w g ((0 : Nat) : Int) q s).2.1 r = 0
    rw [awN_c e1, e3, e2]
    have k := plane_1 (M := M) (kd := kd) (pl := q - 1 - (((0 : Nat) : Int) + 2) / 3) hw hj ha
    refine ⟨?_, fun r hr => hz _ r hr⟩
    rw [show (((0 : Nat) : Int) + 1) = 1 by omega, Int.one_mul]
    exact k
  | succ i ih =>
    obtain ⟨i1, i2⟩ := ih
    have E : psN M kd w g q (3 * (i + 1) + 1) s = passT M kd w g ((3 * i + 1 + 1 + 1 : Nat) : Int) q (passT M kd w g ((3 * i + 1 + 1 : Nat) : Int) q (passT M kd w g ((3 * i + 1 : Nat) : Int) q (psN M kd w g q (3 * i + 1) s))) := rfl
    rw [passT_0 (k := ((3 * i + 1 : Nat) : Int)) (by omega), passT_1 (k := ((3 * i + 1 + 1 : Nat) : Int)) (by omega)] at E
    rw [E]
    generalize psN M kd w g q (3 * i + 1) s = u at i1 i2 ⊢
    obtain ⟨e1, e2, e3⟩ := passT_2 (M := M) (kd := kd) (w := w) (g := g) (k := ((3 * i + 1 + 1 + 1 : Nat) : Int)) (q := q) (s := strP M kd (q - 1 - (((3 * i + 1 + 1 : Nat) : Int) + 2) / 3) 1 w g ((g + 3) / 4).toNat (strP M kd (q - 1 - (((3 * i + 1 : Nat) : Int) + 2) / 3) 0 w g ((g + 3) / 4).toNat u)) (by omega)
    rw [awN_c e1, e3, e2]
    have k := plane_n (M := M) (kd := kd) (pl := q - 1 - (((3 * i + 1 : Nat) : Int) + 2) / 3) (pl2 := q - 1 - (((3 * i + 1 + 1 : Nat) : Int) + 2) / 3) (pl3 := q - 1 - (((3 * i + 1 + 1 + 1 : Nat) : Int) + 2) / 3) hw hj i2
    refine ⟨?_, fun r hr => hz _ r hr⟩
    rw [show (((i + 1 : Nat) : Int) + 1) = ((i : Int) + 1) + 1 by omega, Int.add_mul, Int.one_mul]
    omega
/-- so many bits at most are told of a band -/
theorem psN_m {M : Int → Int} {kd w g q : Int} {s : TS_} (hw : 0 ≤ w ∧ w ≤ 8) (hg : 0 ≤ g ∧ g ≤ 8) (hq : 1 ≤ q ∧ q ≤ 12) (ha : ∀ r, r ∈ stL w g ((g + 3) / 4).toNat → s.1 r = 0) (hl : s.2.2.2 = []) :
    ((psN M kd w g q (3 * (q - 1).toNat + 1) s).2.2.2.length : Int) ≤ (q + 3) * ((stL w g ((g + 3) / 4).toNat).length : Int) := by
  have k := (psN_n (M := M) (kd := kd) (q := q) hw.2 hg ha (q - 1).toNat).1
  have r := (awN_r (psN M kd w g q (3 * (q - 1).toNat + 1) s) (stL w g ((g + 3) / 4).toNat)).2
  rw [hl, show ((((q - 1).toNat : Nat) : Int) + 1) = q by omega] at k
  rw [Int.add_mul]
  simp only [List.length_nil] at k
  omega

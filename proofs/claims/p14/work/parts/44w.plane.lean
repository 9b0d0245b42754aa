def rwL (n : Nat) (y : Int) : Nat → List Int
  | 0 => []
  | x + 1 => rwL n y x ++ clL (10 * y + (x : Int) + 11) n
def stL (w g : Int) : Nat → List Int
  | 0 => []
  | j + 1 => stL w g j ++ rwL (min 4 (g - (j : Int) * 4)).toNat ((j : Int) * 4) w.toNat
theorem rwL_m {n : Nat} {y r : Int} : ∀ {x : Nat}, r ∈ rwL n y x → ∃ i k : Nat, i < n ∧ k < x ∧ r = 10 * (y + (i : Int)) + (k : Int) + 11
  | 0, h => absurd h (List.not_mem_nil)
  | x + 1, h => by
    rcases List.mem_append.mp h with q | q
    · obtain ⟨i, k, h1, h2, h3⟩ := rwL_m q
      exact ⟨i, k, h1, by omega, h3⟩
    · obtain ⟨i, h1, h2⟩ := clL_m q
      exact ⟨i, x, h1, by omega, by omega⟩
theorem stL_m {w g r : Int} : ∀ {j : Nat}, r ∈ stL w g j → ∃ i k : Nat, (i : Int) < (j : Int) * 4 ∧ (i : Int) < g ∧ (k : Int) < w ∧ r = 10 * (i : Int) + (k : Int) + 11
  | 0, h => absurd h (List.not_mem_nil)
  | j + 1, h => by
    rcases List.mem_append.mp h with q | q
    · obtain ⟨i, k, h1, h2, h3, h4⟩ := stL_m q
      exact ⟨i, k, by omega, h2, h3, h4⟩
    · obtain ⟨i, k, h1, h2, h3⟩ := rwL_m q
      exact ⟨4 * j + i, k, by omega, by omega, by omega, by omega⟩
theorem KP_row {α β : Int → Int → Int} {M : Int → Int} {kd pl sort y : Int} {n : Nat} (hc : ∀ (f : Int) (s : TS_), KPa α β (clL f n) s (colP M kd pl sort f (n : Int) s)) : ∀ (x : Nat), x ≤ 8 → ∀ s : TS_, KPa α β (rwL n y x) s (rowP M kd pl sort (n : Int) y x s)
  | 0, _, s => KPa_id s
  | x + 1, hx, s => KPa_comp (KP_row hc x (by omega) s) (hc _ _) (fun r h1 h2 => by
      obtain ⟨i, k, a1, a2, a3⟩ := rwL_m h1
      obtain ⟨j, b1, b2⟩ := clL_m h2
      omega)
theorem KP_str {α β : Int → Int → Int} {M : Int → Int} {kd pl sort w g : Int} (hw : w ≤ 8) (hc : ∀ (n : Nat) (f : Int) (s : TS_), KPa α β (clL f n) s (colP M kd pl sort f (n : Int) s)) : ∀ (j : Nat), (j : Int) * 4 < g + 4 → ∀ s : TS_, KPa α β (stL w g j) s (strP M kd pl sort w g j s)
  | 0, _, s => KPa_id s
  | j + 1, hj, s => by
    have k := KP_row (y := (j : Int) * 4) (hc (min 4 (g - (j : Int) * 4)).toNat) w.toNat (by omega) (strP M kd pl sort w g j s)
    rw [show (((min 4 (g - (j : Int) * 4)).toNat : Nat) : Int) = min 4 (g - (j : Int) * 4) by omega] at k
    exact KPa_comp (KP_str hw hc j (by omega) s) k (fun r h1 h2 => by
      obtain ⟨i, k, a1, a2, a3, a4⟩ := stL_m h1
      obtain ⟨i2, k2, b1, b2, b3⟩ := rwL_m h2
      omega)
theorem KP_c0 (M : Int → Int) (kd pl : Int) (n : Nat) (f : Int) (s : TS_) : KPa spA spB (clL f n) s (colP M kd pl 0 f (n : Int) s) := by
  unfold colP
  rw [if_pos rfl]
  exact KP_it (KP_sp M kd pl) f n s
theorem KP_c1 (M : Int → Int) (kd pl : Int) (n : Nat) (f : Int) (s : TS_) : KPa rfA rfB (clL f n) s (colP M kd pl 1 f (n : Int) s) := by
  unfold colP
  rw [if_neg (by decide), if_pos rfl]
  exact KP_it (KP_rf M pl) f n s
theorem KP_c2 (M : Int → Int) (kd pl : Int) (n : Nat) (f : Int) (s : TS_) : KPa clA clB (clL f n) s (colP M kd pl 2 f (n : Int) s) := by
  unfold colP
  rw [if_neg (by decide), if_neg (by decide)]
  exact KP_cn M kd pl f n s
/-- refining leaves who is awake, and who was told -/
theorem rf_same (M : Int → Int) (pl p : Int) (s : TS_) : (rfnT M pl p s).1 = s.1 ∧ (rfnT M pl p s).2.1 = s.2.1 := by
  unfold rfnT
  split <;> exact ⟨rfl, rfl⟩
theorem it_same (M : Int → Int) (pl f : Int) : ∀ (n : Nat) (s : TS_), (itT (rfnT M pl) f n s).1 = s.1 ∧ (itT (rfnT M pl) f n s).2.1 = s.2.1
  | 0, _ => ⟨rfl, rfl⟩
  | n + 1, s => ⟨(rf_same M pl _ _).1.trans (it_same M pl f n s).1, (rf_same M pl _ _).2.trans (it_same M pl f n s).2⟩
theorem col_same (M : Int → Int) (kd pl f n : Int) (s : TS_) : (colP M kd pl 1 f n s).1 = s.1 ∧ (colP M kd pl 1 f n s).2.1 = s.2.1 := by
  unfold colP
  rw [if_neg (by decide), if_pos rfl]
  exact it_same M pl f _ s
theorem row_same (M : Int → Int) (kd pl n y : Int) : ∀ (x : Nat) (s : TS_), (rowP M kd pl 1 n y x s).1 = s.1 ∧ (rowP M kd pl 1 n y x s).2.1 = s.2.1
  | 0, _ => ⟨rfl, rfl⟩
  | x + 1, s => ⟨(col_same M kd pl _ _ _).1.trans (row_same M kd pl n y x s).1, (col_same M kd pl _ _ _).2.trans (row_same M kd pl n y x s).2⟩
theorem str_same (M : Int → Int) (kd pl w g : Int) : ∀ (j : Nat) (s : TS_), (strP M kd pl 1 w g j s).1 = s.1 ∧ (strP M kd pl 1 w g j s).2.1 = s.2.1
  | 0, _ => ⟨rfl, rfl⟩
  | j + 1, s => ⟨(row_same M kd pl _ _ _ _).1.trans (str_same M kd pl w g j s).1, (row_same M kd pl _ _ _ _).2.trans (str_same M kd pl w g j s).2⟩
/-- how many are awake -/
def awN (s : TS_) (P : List Int) : Int := smL (fun r => oneI (s.1 r ≠ 0)) P
theorem sum3 (s0 s1 s3 : TS_) : ∀ P : List Int, (∀ r, r ∈ P → s0.2.1 r = 0) →
    smL (fun r => spA (s0.1 r) (s0.2.1 r)) P - smL (fun r => spB (s1.1 r) (s1.2.1 r)) P + smL (fun r => rfA (s1.1 r) (s1.2.1 r)) P + smL (fun r => clA (s1.1 r) (s1.2.1 r)) P - smL (fun r => clB (s3.1 r) (s3.2.1 r)) P = (P.length : Int) + 3 * (awN s3 P - awN s0 P)
  | [], _ => rfl
  | p :: P, h => by
    have ih := sum3 s0 s1 s3 P (fun r hr => h r (List.mem_cons_of_mem _ hr))
    have h0 := h p (List.mem_cons_self ..)
    have e : spA (s0.1 p) (s0.2.1 p) - spB (s1.1 p) (s1.2.1 p) + rfA (s1.1 p) (s1.2.1 p) + clA (s1.1 p) (s1.2.1 p) - clB (s3.1 p) (s3.2.1 p) = 1 + 3 * (oneI (s3.1 p ≠ 0) - oneI (s0.1 p ≠ 0)) := by
      rw [h0]
      unfold spA spB rfA clA clB oneI
      by_cases q1 : s1.1 p = 0 <;> by_cases q2 : s1.2.1 p = 0 <;> by_cases q3 : s3.1 p = 0 <;> by_cases q4 : s0.1 p = 0 <;> simp [q1, q2, q3, q4]
    unfold awN at ih ⊢
    show spA (s0.1 p) (s0.2.1 p) + smL _ P - (spB (s1.1 p) (s1.2.1 p) + smL _ P) + (rfA (s1.1 p) (s1.2.1 p) + smL _ P) + (clA (s1.1 p) (s1.2.1 p) + smL _ P) - (clB (s3.1 p) (s3.2.1 p) + smL _ P) = ((P.length + 1 : Nat) : Int) + 3 * ((oneI (s3.1 p ≠ 0) + smL _ P) - (oneI (s0.1 p ≠ 0) + smL _ P))
    omega
/-- the three passes of a plane tell one bit a place, and three more for each that wakes -/
theorem plane_n {M : Int → Int} {kd pl pl2 pl3 w g : Int} {j : Nat} {s : TS_} (hw : w ≤ 8) (hj : (j : Int) * 4 < g + 4) (h0 : ∀ r, r ∈ stL w g j → s.2.1 r = 0) :
    ((strP M kd pl3 2 w g j (strP M kd pl2 1 w g j (strP M kd pl 0 w g j s))).2.2.2.length : Int) + 3 * awN s (stL w g j) ≤ (s.2.2.2.length : Int) + ((stL w g j).length : Int) + 3 * awN (strP M kd pl3 2 w g j (strP M kd pl2 1 w g j (strP M kd pl 0 w g j s))) (stL w g j) := by
  have k0 := (KP_str hw (KP_c0 M kd pl) j hj s).2
  have k1 := (KP_str hw (KP_c1 M kd pl2) j hj (strP M kd pl 0 w g j s)).2
  have k2 := (KP_str hw (KP_c2 M kd pl3) j hj (strP M kd pl2 1 w g j (strP M kd pl 0 w g j s))).2
  obtain ⟨q1, q2⟩ := str_same M kd pl2 w g j (strP M kd pl 0 w g j s)
  rw [q1, q2] at k2
  have t := sum3 s (strP M kd pl 0 w g j s) (strP M kd pl3 2 w g j (strP M kd pl2 1 w g j (strP M kd pl 0 w g j s))) (stL w g j) h0
  have z : smL (fun r => rfB ((strP M kd pl2 1 w g j (strP M kd pl 0 w g j s)).1 r) ((strP M kd pl2 1 w g j (strP M kd pl 0 w g j s)).2.1 r)) (stL w g j) = 0 := (smL_v (v := 0) (fun r _ => rfl)).trans (by omega)
  omega
theorem awN_r (s : TS_) : ∀ P : List Int, 0 ≤ awN s P ∧ awN s P ≤ (P.length : Int)
  | [] => ⟨Int.le_refl 0, Int.le_refl 0⟩
  | p :: P => by
    have ih := awN_r s P
    unfold awN at ih ⊢
    show 0 ≤ oneI (s.1 p ≠ 0) + smL _ P ∧ oneI (s.1 p ≠ 0) + smL _ P ≤ ((P.length + 1 : Nat) : Int)
    have : 0 ≤ oneI (s.1 p ≠ 0) ∧ oneI (s.1 p ≠ 0) ≤ 1 := by unfold oneI; split <;> omega
    omega
/-- the first cleanup tells one bit a place, and three more for each that wakes -/
theorem plane_1 {M : Int → Int} {kd pl w g : Int} {j : Nat} {s : TS_} (hw : w ≤ 8) (hj : (j : Int) * 4 < g + 4) (ha : ∀ r, r ∈ stL w g j → s.1 r = 0) :
    ((strP M kd pl 2 w g j s).2.2.2.length : Int) ≤ (s.2.2.2.length : Int) + ((stL w g j).length : Int) + 3 * awN (strP M kd pl 2 w g j s) (stL w g j) := by
  have k := (KP_str hw (KP_c2 M kd pl) j hj s).2
  have e1 : smL (fun r => clA (s.1 r) (s.2.1 r)) (stL w g j) ≤ ((stL w g j).length : Int) := by
    generalize stL w g j = P at *
    clear k hj
    induction P with
    | nil => exact Int.le_refl 0
    | cons p P ih =>
      have i2 := ih (fun r hr => ha r (List.mem_cons_of_mem _ hr))
      show clA (s.1 p) (s.2.1 p) + smL _ P ≤ ((P.length + 1 : Nat) : Int)
      have : clA (s.1 p) (s.2.1 p) ≤ 1 := by
        rw [ha p (List.mem_cons_self ..)]
        unfold clA oneI
        split <;> simp
      omega
  have e2 : ∀ (u : TS_) (P : List Int), smL (fun r => clB (u.1 r) (u.2.1 r)) P = - 3 * awN u P := by
    intro u P
    induction P with
    | nil => rfl
    | cons p P ih =>
      unfold awN at ih ⊢
      show clB (u.1 p) (u.2.1 p) + smL _ P = - 3 * (oneI (u.1 p ≠ 0) + smL _ P)
      unfold clB at ih ⊢
      omega
  rw [e2] at k
  omega

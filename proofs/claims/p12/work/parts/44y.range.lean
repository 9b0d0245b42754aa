/-- every told bit has a context, and is a bit -/
def EVR (s : TS_) : Prop := ∀ z, z ∈ s.2.2.2 → (0 ≤ z.1 ∧ z.1 ≤ 18) ∧ 0 ≤ z.2 ∧ z.2 ≤ 1
theorem EVR_a {s : TS_} {a t r : Int → Int} {x b : Int} (h : EVR s) (hx : 0 ≤ x ∧ x ≤ 18) (hb : 0 ≤ b ∧ b ≤ 1) : EVR (a, t, r, s.2.2.2 ++ [(x, b)]) := by
  intro z hz
  rcases List.mem_append.mp hz with q | q
  · exact h z q
  · rw [List.mem_singleton.mp q]
    exact ⟨hx, hb⟩
theorem bS_r (M : Int → Int) (pl p : Int) : 0 ≤ bS M pl p ∧ bS M pl p ≤ 1 := by
  unfold bS
  omega
theorem ctxS_s (w : Int → Int) (kd p : Int) : 0 ≤ ctxS w kd p ∧ ctxS w kd p ≤ 18 := by
  have := ctxS_r w kd p
  omega
theorem EVR_ev {s : TS_} {x b : Int} (h : EVR s) (hx : 0 ≤ x ∧ x ≤ 18) (hb : 0 ≤ b ∧ b ≤ 1) : EVR (evT s x b) := EVR_a h hx hb
theorem EVR_wk {s : TS_} (M : Int → Int) (p : Int) (h : EVR s) : EVR (wkT M p s) := by
  have k := sgX_r s.1 p
  refine EVR_a h (by omega) ?_
  unfold xr_
  split <;> omega
theorem EVR_sp {s : TS_} (M : Int → Int) (kd pl p : Int) (h : EVR s) : EVR (spT M kd pl p s) := by
  unfold spT
  have k : EVR (evT (tdT s p) (ctxS s.1 kd p) (bS M pl p)) := EVR_a (s := s) h (ctxS_s _ _ _) (bS_r _ _ _)
  split
  · split
    · exact EVR_wk M p k
    · exact k
  · exact h
theorem EVR_rf {s : TS_} (M : Int → Int) (pl p : Int) (h : EVR s) : EVR (rfnT M pl p s) := by
  unfold rfnT
  split
  · exact EVR_a h (by unfold rfC; (repeat' split) <;> omega) (bS_r _ _ _)
  · exact h
theorem EVR_cl {s : TS_} (M : Int → Int) (kd pl p : Int) (h : EVR s) : EVR (clT M kd pl p s) := by
  unfold clT
  have k : EVR (evT s (ctxS s.1 kd p) (bS M pl p)) := EVR_ev h (ctxS_s _ _ _) (bS_r _ _ _)
  split
  · split
    · exact EVR_wk M p k
    · exact k
  · exact h
theorem EVR_it {g : Int → TS_ → TS_} (hg : ∀ p s, EVR s → EVR (g p s)) (f : Int) : ∀ (k : Nat) {s : TS_}, EVR s → EVR (itT g f k s)
  | 0, _, h => h
  | k + 1, _, h => hg _ _ (EVR_it hg f k h)
theorem EVR_qv {s : TS_} (M : Int → Int) (pl f : Int) (h : EVR s) : EVR (qvT M pl f s) := by
  unfold qvT
  split
  · exact EVR_ev (EVR_ev (EVR_ev h (by omega) (by omega)) (by omega) (by omega)) (by omega) (by omega)
  · exact EVR_ev h (by omega) (by omega)
theorem EVR_cn {s : TS_} (M : Int → Int) (kd pl f n : Int) (h : EVR s) : EVR (cnT M kd pl f n s) := by
  unfold cnT
  refine EVR_it (fun p s => EVR_cl M kd pl p) _ _ ?_
  unfold preT
  split
  · split
    · exact EVR_wk M _ (EVR_qv M pl f h)
    · exact EVR_qv M pl f h
  · exact h
theorem EVR_col {s : TS_} (M : Int → Int) (kd pl sort f n : Int) (h : EVR s) : EVR (colP M kd pl sort f n s) := by
  unfold colP
  split
  · exact EVR_it (fun p s => EVR_sp M kd pl p) f _ h
  · split
    · exact EVR_it (fun p s => EVR_rf M pl p) f _ h
    · exact EVR_cn M kd pl f n h
theorem EVR_row (M : Int → Int) (kd pl sort n y : Int) : ∀ (x : Nat) {s : TS_}, EVR s → EVR (rowP M kd pl sort n y x s)
  | 0, _, h => h
  | x + 1, _, h => EVR_col M kd pl sort _ n (EVR_row M kd pl sort n y x h)
theorem EVR_str (M : Int → Int) (kd pl sort w g : Int) : ∀ (j : Nat) {s : TS_}, EVR s → EVR (strP M kd pl sort w g j s)
  | 0, _, h => h
  | j + 1, _, h => EVR_row M kd pl sort _ _ _ (EVR_str M kd pl sort w g j h)
theorem EVR_ps (M : Int → Int) (kd w g q : Int) : ∀ (k : Nat) {s : TS_}, EVR s → EVR (psN M kd w g q k s)
  | 0, _, h => h
  | k + 1, s, h => by
    show EVR (passT M kd w g (k : Int) q (psN M kd w g q k s))
    have i := EVR_ps M kd w g q k h
    unfold passT
    split
    · exact EVR_str M kd _ _ w g _ i
    · exact EVR_str M kd _ _ w g _ i

/-- two rows of bytes agree below n -/
def AGR (n : Int) (o p : Int → Int) : Prop := ∀ j : Int, 0 ≤ j → j < n → o j = p j
theorem AGR_f {n v : Int} {o p : Int → Int} (h : AGR n o p) : AGR (n + 1) (fup o n v) (fup p n v) := by
  intro j h1 h2
  by_cases q : j = n
  · rw [q, fup_eq, fup_eq]
  · rw [fup_ne _ _ q, fup_ne _ _ q]
    exact h j h1 (by omega)
theorem AGR_g {n i v : Int} {o p : Int → Int} (h : AGR n o p) : AGR n (fup o i v) (fup p i v) := by
  intro j h1 h2
  by_cases q : j = i
  · rw [q, fup_eq, fup_eq]
  · rw [fup_ne _ _ q, fup_ne _ _ q]
    exact h j h1 h2
theorem outS_q {c n : Int} {o p : Int → Int} (h : AGR n o p) (hn : 1 ≤ n) : (outS c n o).1 = (outS c n p).1 ∧ (outS c n o).2.1 = (outS c n p).2.1 ∧ (outS c n o).2.2.1 = n + 1 ∧ (outS c n p).2.2.1 = n + 1 ∧ AGR (n + 1) (outS c n o).2.2.2 (outS c n p).2.2.2 := by
  have e : o (n - 1) = p (n - 1) := h (n - 1) (by omega) (by omega)
  by_cases h1 : o (n - 1) = 255
  · rw [outS_1 h1, outS_1 (e ▸ h1)]
    exact ⟨rfl, rfl, rfl, rfl, AGR_f h⟩
  · by_cases h2 : c < 134217728
    · rw [outS_2 h1 h2, outS_2 (e ▸ h1) h2]
      exact ⟨rfl, rfl, rfl, rfl, AGR_f h⟩
    · by_cases h3 : o (n - 1) + 1 = 255
      · rw [outS_3 h1 (by omega) h3, outS_3 (e ▸ h1) (by omega) (e ▸ h3), e]
        exact ⟨rfl, rfl, rfl, rfl, AGR_f (AGR_g h)⟩
      · rw [outS_4 h1 (by omega) h3, outS_4 (e ▸ h1) (by omega) (e ▸ h3), e]
        exact ⟨rfl, rfl, rfl, rfl, AGR_f (AGR_g h)⟩
theorem mendS_q : ∀ (k : Nat) {a c t n : Int} {o p : Int → Int}, AGR n o p → 1 ≤ n →
    (mendS k a c t n o).1 = (mendS k a c t n p).1 ∧ (mendS k a c t n o).2.1 = (mendS k a c t n p).2.1 ∧ (mendS k a c t n o).2.2.1 = (mendS k a c t n p).2.2.1 ∧ (mendS k a c t n o).2.2.2.1 = (mendS k a c t n p).2.2.2.1 ∧ 1 ≤ (mendS k a c t n o).2.2.2.1 ∧ AGR (mendS k a c t n o).2.2.2.1 (mendS k a c t n o).2.2.2.2 (mendS k a c t n p).2.2.2.2
  | 0, a, c, t, n, o, p, h, hn => ⟨rfl, rfl, rfl, rfl, hn, h⟩
  | k + 1, a, c, t, n, o, p, h, hn => by
    unfold mendS
    by_cases ha : 32768 ≤ a
    · rw [if_pos ha, if_pos ha]
      exact ⟨rfl, rfl, rfl, rfl, hn, h⟩
    · rw [if_neg ha, if_neg ha]
      by_cases ht : t - 1 = 0
      · rw [if_pos ht, if_pos ht]
        obtain ⟨e1, e2, e3, e4, e5⟩ := outS_q (c := 2 * c) h hn
        rw [e1, e2, e3, e4]
        exact mendS_q k e5 (by omega)
      · rw [if_neg ht, if_neg ht]
        exact mendS_q k h hn
/-- two coders that are alike -/
def EQE (E F : ES_) : Prop := E.1 = F.1 ∧ E.2.1 = F.2.1 ∧ E.2.2.1 = F.2.2.1 ∧ E.2.2.2.1 = F.2.2.2.1 ∧ 1 ≤ E.2.2.2.1 ∧ AGR 19 E.2.2.2.2.1 F.2.2.2.2.1 ∧ AGR 19 E.2.2.2.2.2.1 F.2.2.2.2.2.1 ∧ AGR E.2.2.2.1 E.2.2.2.2.2.2 F.2.2.2.2.2.2
theorem tellS_q {E F : ES_} {x b : Int} (h : EQE E F) (hx : 0 ≤ x ∧ x ≤ 18) : EQE (tellS E x b) (tellS F x b) := by
  obtain ⟨a, c, t, n, st, lk, o⟩ := E
  obtain ⟨a', c', t', n', st', lk', o'⟩ := F
  obtain ⟨e1, e2, e3, e4, e5, e6, e7, e8⟩ := h
  dsimp only at e1 e2 e3 e4 e5 e6 e7 e8
  subst e1 e2 e3 e4
  have es := e6 x hx.1 (by omega)
  have el := e7 x hx.1 (by omega)
  by_cases h0 : b = lk x ∧ 32768 ≤ a - qS (st x)
  · rw [tellS_1 h0, tellS_1 (by rw [← es, ← el]; exact h0), es]
    exact ⟨rfl, rfl, rfl, rfl, e5, e6, e7, e8⟩
  · rw [tellS_m (P := b ≠ lk x) h0 rfl rfl Iff.rfl, tellS_m (P := b ≠ lk x) (by rw [← es, ← el]; exact h0) rfl rfl (by rw [el])]
    rw [← es, ← el]
    have m := mendS_q 15 (a := if (b = lk x ↔ a - qS (st x) < qS (st x)) then qS (st x) else a - qS (st x)) (c := if (b = lk x ↔ a - qS (st x) < qS (st x)) then c else c + qS (st x)) (t := t) e8 e5
    refine ⟨m.1, m.2.1, m.2.2.1, m.2.2.2.1, m.2.2.2.2.1, ?_, ?_, m.2.2.2.2.2⟩
    · show AGR 19 (lrS st x (b ≠ lk x)) (lrS st' x (b ≠ lk x))
      unfold lrS
      rw [← es]
      exact AGR_g e6
    · show AGR 19 (lrL st lk x (b ≠ lk x)) (lrL st' lk' x (b ≠ lk x))
      unfold lrL
      rw [← es, ← el]
      split
      · exact AGR_g e7
      · exact e7
theorem tellS_qf : ∀ (T : List (Int × Int)) {E F : ES_}, EQE E F → (∀ z ∈ T, 0 ≤ z.1 ∧ z.1 ≤ 18) → EQE (T.foldl (fun E z => tellS E z.1 z.2) E) (T.foldl (fun E z => tellS E z.1 z.2) F)
  | [], _, _, h, _ => h
  | z :: T, _, _, h, hT => tellS_qf T (tellS_q h (hT z (List.mem_cons_self ..))) (fun w hw => hT w (List.mem_cons_of_mem _ hw))
theorem endS_q {a c t n : Int} {o p : Int → Int} (h : AGR n o p) (hn : 1 ≤ n) : (endS a c t n o).2.2.1 = n + 2 ∧ (endS a c t n p).2.2.1 = n + 2 ∧ AGR (n + 2) (endS a c t n o).2.2.2 (endS a c t n p).2.2.2 := by
  unfold endS
  obtain ⟨e1, e2, e3, e4, e5⟩ := outS_q (c := endC a c * 2 ^ t.toNat) h hn
  rw [e1, e2, e3, e4]
  obtain ⟨f1, f2, f3, f4, f5⟩ := outS_q (c := (outS (endC a c * 2 ^ t.toNat) n p).1 * 2 ^ (outS (endC a c * 2 ^ t.toNat) n p).2.1.toNat) e5 (by omega)
  rw [f3, f4]
  exact ⟨by omega, by omega, fun j h1 h2 => f5 j h1 (by omega)⟩

def potV : List Int := [0,0,0,0,0,0,0,0,0,0,0,0,0,0,0,0,0,0,0,0,0,0,0,0,0,0,0,0,0,0,0,0,0,0,0,0,0,1,1,3,4,7,9,13,17,22,0]
def potS (s : Int) : Int := potV.getD s.toNat 0
def dblV : List Nat := [2,2,3,4,5,6,2,2,2,2,2,2,3,3,2,2,2,2,2,2,2,2,2,2,3,3,3,3,3,3,4,4,4,5,5,6,6,7,7,8,9,10,11,12,13,15,2]
def dblS (s : Int) : Nat := dblV.getD s.toNat 0
theorem pot_all : ∀ n : Fin 47, 0 ≤ potV.getD n 0 ∧ (dblV.getD n 0 : Int) + potV.getD ((stT 2).getD n 0).toNat 0 ≤ potV.getD n 0 + 6 ∧ 1 + potV.getD ((stT 1).getD n 0).toNat 0 ≤ potV.getD n 0 + 6 ∧ 32768 ≤ (stT 0).getD n 0 * 2 ^ (dblV.getD n 0) ∧ 2 ≤ dblV.getD n 0 ∧ dblV.getD n 0 ≤ 15 := by decide +kernel
theorem pot_r {s : Int} (h : 0 ≤ s ∧ s < 47) : 0 ≤ potS s ∧ (dblS s : Int) + potS (nlS s) ≤ potS s + 6 ∧ 1 + potS (nmS s) ≤ potS s + 6 ∧ 32768 ≤ qS s * 2 ^ dblS s ∧ 2 ≤ dblS s ∧ dblS s ≤ 15 := pot_all ⟨s.toNat, by omega⟩
theorem mendS_b : ∀ (k f : Nat) {a c t n : Int} {o : Int → Int}, MQ_ a c t n o → 32768 ≤ a * 2 ^ k → k ≤ f →
    MQ_ (mendS f a c t n o).1 (mendS f a c t n o).2.1 (mendS f a c t n o).2.2.1 (mendS f a c t n o).2.2.2.1 (mendS f a c t n o).2.2.2.2 ∧ 32768 ≤ (mendS f a c t n o).1 ∧ 7 * (mendS f a c t n o).2.2.2.1 - (mendS f a c t n o).2.2.1 ≤ 7 * n - t + (k : Int) := by
  intro k
  induction k with
  | zero =>
    intro f a c t n o h h2 hf
    have ha : 32768 ≤ a := by rw [show (2 : Int) ^ 0 = 1 from rfl] at h2; omega
    have e : mendS f a c t n o = (a, c, t, n, o) := by cases f with
      | zero => rfl
      | succ f => unfold mendS; rw [if_pos ha]
    rw [e]
    exact ⟨h, ha, by show 7 * n - t ≤ _; omega⟩
  | succ k ih =>
    intro f a c t n o h h2 hf
    obtain ⟨g, rfl⟩ : ∃ g, f = g + 1 := ⟨f - 1, by omega⟩
    by_cases ha : 32768 ≤ a
    · have e : mendS (g + 1) a c t n o = (a, c, t, n, o) := by unfold mendS; rw [if_pos ha]
      rw [e]
      exact ⟨h, ha, by show 7 * n - t ≤ _; omega⟩
    · have h3 : 32768 ≤ (2 * a) * 2 ^ k := by
        rw [Int.pow_succ] at h2
        rw [Int.mul_comm 2 a, Int.mul_assoc, Int.mul_comm 2 (2 ^ k)]
        exact h2
      have hF : MIE_ (g + 1) a c t n o (mendS (g + 1) a c t n o) (7 * n - t + ((g + 1 : Nat) : Int)) := by
        refine ⟨rfl, ?_, by omega, h⟩
        have p1 : (2 : Int) ^ (k + 1) ≤ 2 ^ (g + 1) := by
          have := Nat.pow_le_pow_right (show 0 < 2 by decide) hf
          have h4 : ((2 ^ (k + 1) : Nat) : Int) ≤ ((2 ^ (g + 1) : Nat) : Int) := Int.ofNat_le.mpr this
          rw [Int.natCast_pow, Int.natCast_pow] at h4
          exact h4
        have p2 := Int.mul_le_mul_of_nonneg_left p1 (show 0 ≤ a by have := h.1; omega)
        omega
      by_cases ht : t - 1 = 0
      · have hn := MI_out hF (by omega) ht
        have e : mendS (g + 1) a c t n o = mendS g (2 * a) (outS (2 * c) n o).1 (outS (2 * c) n o).2.1 (outS (2 * c) n o).2.2.1 (outS (2 * c) n o).2.2.2 := by conv => lhs; unfold mendS; rw [if_neg ha, if_pos ht]
        have q := ih g hn.2.2.2 h3 (by omega)
        rw [← e] at q
        obtain ⟨r1, r2, -⟩ := outS_r (c := 2 * c) (n := n) (o := o) (by have := h.c_r; omega) ⟨h.2.2.2.2.2.2.2.1, h.2.2.2.2.2.2.2.2⟩
        refine ⟨q.1, q.2.1, Int.le_trans q.2.2 ?_⟩
        rw [r1]
        rcases r2 with ⟨u1, -⟩ | ⟨u1, -⟩ <;> rw [u1] <;> omega
      · have hn := MI_next hF (by omega) ht
        have e : mendS (g + 1) a c t n o = mendS g (2 * a) (2 * c) (t - 1) n o := by conv => lhs; unfold mendS; rw [if_neg ha, if_neg ht]
        have q := ih g hn.2.2.2 h3 (by omega)
        rw [← e] at q
        exact ⟨q.1, q.2.1, Int.le_trans q.2.2 (by omega)⟩
def PSn (st : Int → Int) : Nat → Int
  | 0 => 0
  | k + 1 => PSn st k + potS (st (k : Int))
theorem PSn_fup (st : Int → Int) (x v : Int) (hx : 0 ≤ x) : ∀ k : Nat, PSn (fup st x v) k = PSn st k + (if x < (k : Int) then potS v - potS (st x) else 0)
  | 0 => by
    rw [if_neg (by omega)]
    rfl
  | k + 1 => by
    have ih := PSn_fup st x v hx k
    show PSn (fup st x v) k + potS (fup st x v (k : Int)) = PSn st k + potS (st (k : Int)) + _
    by_cases q : (k : Int) = x
    · rw [q, fup_eq, ih, if_neg (by omega), if_pos (by omega)]
      omega
    · rw [fup_ne _ _ q, ih]
      by_cases m : x < (k : Int)
      · rw [if_pos m, if_pos (by omega)]
        omega
      · rw [if_neg m, if_neg (by omega)]
        omega
def STR (st : Int → Int) : Prop := ∀ j : Int, 0 ≤ j → j < 19 → 0 ≤ st j ∧ st j < 47
theorem PSn_0 {st : Int → Int} (h : STR st) : ∀ k : Nat, k ≤ 19 → 0 ≤ PSn st k
  | 0, _ => Int.le_refl 0
  | k + 1, hk => by
    have := PSn_0 h k (by omega)
    have := (pot_r (h (k : Int) (by omega) (by omega))).1
    show 0 ≤ PSn st k + potS (st (k : Int))
    omega
/-- what holds between two told bits -/
def MQE (E : ES_) : Prop := MQ_ E.1 E.2.1 E.2.2.1 E.2.2.2.1 E.2.2.2.2.2.2 ∧ 32768 ≤ E.1 ∧ STR E.2.2.2.2.1
def WE (E : ES_) : Int := 7 * E.2.2.2.1 - E.2.2.1 + PSn E.2.2.2.2.1 19
theorem tellS_w {E : ES_} {x b : Int} (h : MQE E) (hx : 0 ≤ x ∧ x ≤ 18) : MQE (tellS E x b) ∧ WE (tellS E x b) ≤ WE E + 6 := by
  obtain ⟨a, c, t, n, st, lk, o⟩ := E
  obtain ⟨hq, ha, hs⟩ := h
  have hq : MQ_ a c t n o := hq
  have ha : 32768 ≤ a := ha
  have hs : STR st := hs
  have hsx := hs x hx.1 (by omega)
  have tq := tab_r hsx
  have pq := pot_r hsx
  obtain ⟨q1, q2, q3, q4, q5, q6, q7⟩ := hq
  by_cases h0 : b = lk x ∧ 32768 ≤ a - qS (st x)
  · rw [tellS_1 h0]
    refine ⟨⟨⟨by show 1 ≤ a - qS (st x); omega, by show a - qS (st x) ≤ 65535; omega, by show 0 ≤ c + qS (st x); omega, q4, q5, by show c + qS (st x) + (a - qS (st x)) ≤ 9 * p24 t; omega, q7⟩, h0.2, hs⟩, ?_⟩
    show WE (a, c, t, n, st, lk, o) ≤ _
    omega
  · have hM := MQ_tell (x := x) (a2 := if (b = lk x ↔ a - qS (st x) < qS (st x)) then qS (st x) else a - qS (st x)) (c2 := if (b = lk x ↔ a - qS (st x) < qS (st x)) then c else c + qS (st x)) ⟨q1, q2, q3, q4, q5, q6, q7⟩ ha hsx rfl rfl
    rw [tellS_m (P := b ≠ lk x) h0 rfl rfl Iff.rfl]
    have hlr : STR (lrS st x (b ≠ lk x)) := by
      intro j h1 h2
      unfold lrS
      by_cases m : j = x
      · rw [m, fup_eq]
        split
        · exact tq.2.2
        · exact tq.2.1
      · rw [fup_ne _ _ m]
        exact hs j h1 h2
    have hp : PSn (lrS st x (b ≠ lk x)) 19 = PSn st 19 + (potS (if b ≠ lk x then nlS (st x) else nmS (st x)) - potS (st x)) := by
      unfold lrS
      rw [PSn_fup st x _ hx.1 19, if_pos (by omega)]
    have key : ∃ k : Nat, k ≤ 15 ∧ 32768 ≤ (if (b = lk x ↔ a - qS (st x) < qS (st x)) then qS (st x) else a - qS (st x)) * 2 ^ k ∧ (k : Int) + (potS (if b ≠ lk x then nlS (st x) else nmS (st x)) - potS (st x)) ≤ 6 := by
      by_cases hb : b = lk x
      · refine ⟨1, by omega, ?_, ?_⟩
        · rw [show (2 : Int) ^ 1 = 2 from rfl]
          by_cases m : a - qS (st x) < qS (st x)
          · rw [if_pos ⟨fun _ => m, fun _ => hb⟩]
            omega
          · rw [if_neg (fun w => m (w.mp hb))]
            omega
        · rw [if_neg (fun w => w hb)]
          omega
      · refine ⟨dblS (st x), pq.2.2.2.2.2, ?_, ?_⟩
        · by_cases m : a - qS (st x) < qS (st x)
          · rw [if_neg (fun w => hb (w.mpr m))]
            have p1 : (2 : Int) ^ 2 ≤ 2 ^ dblS (st x) := by
              have h4 : ((2 ^ 2 : Nat) : Int) ≤ ((2 ^ dblS (st x) : Nat) : Int) := Int.ofNat_le.mpr (Nat.pow_le_pow_right (show 0 < 2 by decide) pq.2.2.2.2.1)
              rw [Int.natCast_pow, Int.natCast_pow] at h4
              exact h4
            have p2 := Int.mul_le_mul_of_nonneg_left p1 (show 0 ≤ a - qS (st x) by omega)
            rw [show (2 : Int) ^ 2 = 4 from rfl] at p2
            omega
          · rw [if_pos ⟨fun w => absurd w hb, fun w => absurd w m⟩]
            exact pq.2.2.2.1
        · rw [if_pos hb]
          omega
    obtain ⟨k, k1, k2, k3⟩ := key
    have hB := mendS_b k 15 hM k2 k1
    refine ⟨⟨hB.1, hB.2.1, hlr⟩, ?_⟩
    unfold WE
    dsimp only
    rw [hp]
    have := hB.2.2
    omega
theorem tellS_f (T : List (Int × Int)) : ∀ {E : ES_}, MQE E → (∀ z ∈ T, 0 ≤ z.1 ∧ z.1 ≤ 18) → MQE (T.foldl (fun E z => tellS E z.1 z.2) E) ∧ WE (T.foldl (fun E z => tellS E z.1 z.2) E) ≤ WE E + 6 * (T.length : Int) := by
  induction T with
  | nil =>
    intro E h _
    refine ⟨h, ?_⟩
    show WE E ≤ WE E + 6 * ((0 : Nat) : Int)
    omega
  | cons z T ih =>
    intro E h hT
    have q := tellS_w (b := z.2) h (hT z (List.mem_cons_self ..))
    have r := ih q.1 (fun w hw => hT w (List.mem_cons_of_mem _ hw))
    refine ⟨r.1, ?_⟩
    have r2 := r.2
    show WE (T.foldl (fun E z => tellS E z.1 z.2) (tellS E z.1 z.2)) ≤ _
    rw [List.length_cons]
    have := q.2
    omega
/-- how many bytes there are behind so many told bits -/
theorem tellS_n {T : List (Int × Int)} {E : ES_} (h : MQE E) (hT : ∀ z ∈ T, 0 ≤ z.1 ∧ z.1 ≤ 18) : 7 * (T.foldl (fun E z => tellS E z.1 z.2) E).2.2.2.1 ≤ WE E + 6 * (T.length : Int) + 12 := by
  obtain ⟨q1, q2⟩ := tellS_f T h hT
  have p := PSn_0 q1.2.2 19 (by omega)
  have t := q1.1.2.2.2.2.1
  unfold WE at q2 ⊢
  omega

/-! THE CODER, in numbers -/
def qS (s : Int) : Int := (stT 0).getD s.toNat 0
def nmS (s : Int) : Int := (stT 1).getD s.toNat 0
def nlS (s : Int) : Int := (stT 2).getD s.toNat 0
theorem tab_all : ∀ n : Fin 47, (1 ≤ (stT 0).getD n 0 ∧ (stT 0).getD n 0 ≤ 22017) ∧ (0 ≤ (stT 1).getD n 0 ∧ (stT 1).getD n 0 < 47) ∧ (0 ≤ (stT 2).getD n 0 ∧ (stT 2).getD n 0 < 47) := by decide +kernel
theorem tab_r {s : Int} (h : 0 ≤ s ∧ s < 47) : (1 ≤ qS s ∧ qS s ≤ 22017) ∧ (0 ≤ nmS s ∧ nmS s < 47) ∧ (0 ≤ nlS s ∧ nlS s < 47) := tab_all ⟨s.toNat, by omega⟩
/-- a byte goes out: C, T, how many bytes, the bytes -/
def outS (c n : Int) (o : Int → Int) : Int × Int × Int × (Int → Int) :=
  if o (n - 1) = 255 then (c % 1048576, 7, n + 1, fup o n (c / 1048576 % 256))
  else if c < 134217728 then (c % 524288, 8, n + 1, fup o n (c / 524288 % 256))
  else if o (n - 1) + 1 = 255 then ((c - 134217728) % 1048576, 7, n + 1, fup (fup o (n - 1) (o (n - 1) + 1)) n ((c - 134217728) / 1048576 % 256))
  else (c % 524288, 8, n + 1, fup (fup o (n - 1) (o (n - 1) + 1)) n (c / 524288 % 256))
theorem outS_1 {c n : Int} {o : Int → Int} (h : o (n - 1) = 255) : outS c n o = (c % 1048576, 7, n + 1, fup o n (c / 1048576 % 256)) := if_pos h
theorem outS_2 {c n : Int} {o : Int → Int} (h : o (n - 1) ≠ 255) (h2 : c < 134217728) : outS c n o = (c % 524288, 8, n + 1, fup o n (c / 524288 % 256)) := by unfold outS; rw [if_neg h, if_pos h2]
theorem outS_3 {c n : Int} {o : Int → Int} (h : o (n - 1) ≠ 255) (h2 : 134217728 ≤ c) (h3 : o (n - 1) + 1 = 255) : outS c n o = ((c - 134217728) % 1048576, 7, n + 1, fup (fup o (n - 1) (o (n - 1) + 1)) n ((c - 134217728) / 1048576 % 256)) := by unfold outS; rw [if_neg h, if_neg (by omega), if_pos h3]
theorem outS_4 {c n : Int} {o : Int → Int} (h : o (n - 1) ≠ 255) (h2 : 134217728 ≤ c) (h3 : o (n - 1) + 1 ≠ 255) : outS c n o = (c % 524288, 8, n + 1, fup (fup o (n - 1) (o (n - 1) + 1)) n (c / 524288 % 256)) := by unfold outS; rw [if_neg h, if_neg (by omega), if_neg h3]
theorem outS_r {c n : Int} {o : Int → Int} (hc : 0 ≤ c ∧ c < 150994944) (ho : 0 ≤ o (n - 1) ∧ o (n - 1) ≤ 255) :
    (outS c n o).2.2.1 = n + 1 ∧ (((outS c n o).2.1 = 7 ∧ 0 ≤ (outS c n o).1 ∧ (outS c n o).1 < 1048576) ∨ ((outS c n o).2.1 = 8 ∧ 0 ≤ (outS c n o).1 ∧ (outS c n o).1 < 524288)) ∧ (0 ≤ (outS c n o).2.2.2 n ∧ (outS c n o).2.2.2 n ≤ 255) := by
  by_cases h1 : o (n - 1) = 255
  · rw [outS_1 h1]
    exact ⟨rfl, Or.inl ⟨rfl, by show 0 ≤ c % 1048576; omega, by show c % 1048576 < _; omega⟩, by show 0 ≤ fup _ _ _ _ ∧ fup _ _ _ _ ≤ _; rw [fup_eq]; omega⟩
  · by_cases h2 : c < 134217728
    · rw [outS_2 h1 h2]
      exact ⟨rfl, Or.inr ⟨rfl, by show 0 ≤ c % 524288; omega, by show c % 524288 < _; omega⟩, by show 0 ≤ fup _ _ _ _ ∧ fup _ _ _ _ ≤ _; rw [fup_eq]; omega⟩
    · by_cases h3 : o (n - 1) + 1 = 255
      · rw [outS_3 h1 (by omega) h3]
        exact ⟨rfl, Or.inl ⟨rfl, by show 0 ≤ (c - 134217728) % 1048576; omega, by show (c - 134217728) % 1048576 < _; omega⟩, by show 0 ≤ fup _ _ _ _ ∧ fup _ _ _ _ ≤ _; rw [fup_eq]; omega⟩
      · rw [outS_4 h1 (by omega) h3]
        exact ⟨rfl, Or.inr ⟨rfl, by show 0 ≤ c % 524288; omega, by show c % 524288 < _; omega⟩, by show 0 ≤ fup _ _ _ _ ∧ fup _ _ _ _ ≤ _; rw [fup_eq]; omega⟩
/-- mending: A, C, T, how many bytes, the bytes -/
def mendS : Nat → Int → Int → Int → Int → (Int → Int) → Int × Int × Int × Int × (Int → Int)
  | 0, a, c, t, n, o => (a, c, t, n, o)
  | k + 1, a, c, t, n, o => if 32768 ≤ a then (a, c, t, n, o) else if t - 1 = 0 then mendS k (2 * a) (outS (2 * c) n o).1 (outS (2 * c) n o).2.1 (outS (2 * c) n o).2.2.1 (outS (2 * c) n o).2.2.2 else mendS k (2 * a) (2 * c) (t - 1) n o
/-- how C is bounded by T -/
def p24 (t : Int) : Int := 2 ^ (24 - t).toNat
theorem p24_s {t : Int} (h : t ≤ 24) : p24 (t - 1) = 2 * p24 t := by
  unfold p24
  have e : (24 - (t - 1)).toNat = (24 - t).toNat + 1 := by omega
  rw [e, Int.pow_succ]
  omega
theorem p24_r {t : Int} (h0 : 0 ≤ t) (h1 : t ≤ 12) : p24 t ≤ 16777216 := by
  unfold p24
  have e : (24 - t).toNat ≤ 24 := by omega
  have h := Nat.pow_le_pow_right (show 0 < 2 by decide) e
  have h2 : ((2 ^ (24 - t).toNat : Nat) : Int) ≤ ((2 ^ 24 : Nat) : Int) := Int.ofNat_le.mpr h
  rw [show ((2 ^ (24 - t).toNat : Nat) : Int) = (2 : Int) ^ (24 - t).toNat by push_cast; rfl] at h2
  exact h2
/-- what holds while the coder tells -/
def MQ_ (a c t n : Int) (o : Int → Int) : Prop := 1 ≤ a ∧ a ≤ 65535 ∧ 0 ≤ c ∧ 1 ≤ t ∧ t ≤ 12 ∧ c + a ≤ 9 * p24 t ∧ 1 ≤ n ∧ 0 ≤ o (n - 1) ∧ o (n - 1) ≤ 255
theorem MQ_.c_r {a c t n : Int} {o : Int → Int} (h : MQ_ a c t n o) : 0 ≤ c ∧ c < 75497472 := by
  obtain ⟨h1, h2, h3, h4, h5, h6, -⟩ := h
  have e := p24_s (t := t) (by omega)
  have e2 := p24_r (t := t - 1) (by omega) (by omega)
  omega
def MIE_ (f : Nat) (a c t n : Int) (o : Int → Int) (R : Int × Int × Int × Int × (Int → Int)) (X : Int) : Prop := mendS f a c t n o = R ∧ 32768 ≤ a * 2 ^ f ∧ 7 * n - t + f ≤ X ∧ MQ_ a c t n o
theorem MI_0 {a c t n : Int} {o : Int → Int} (h : MQ_ a c t n o) : MIE_ 15 a c t n o (mendS 15 a c t n o) (7 * n - t + 15) := by
  refine ⟨rfl, ?_, by omega, h⟩
  have := h.1
  rw [show (2 : Int) ^ 15 = 32768 by decide]
  omega
theorem MI_done {f : Nat} {a c t n X : Int} {o : Int → Int} {R : Int × Int × Int × Int × (Int → Int)} (h : MIE_ f a c t n o R X) (ha : 32768 ≤ a) : (a, c, t, n, o) = R := by
  rw [← h.1]
  cases f with
  | zero => rfl
  | succ f => unfold mendS; rw [if_pos ha]
theorem MI_z {a c t n X : Int} {o : Int → Int} {R : Int × Int × Int × Int × (Int → Int)} (h : MIE_ 0 a c t n o R X) : 32768 ≤ a := by
  have := h.2.1
  rw [show (2 : Int) ^ 0 = 1 from rfl] at this
  omega
theorem MI_next {f : Nat} {a c t n X : Int} {o : Int → Int} {R : Int × Int × Int × Int × (Int → Int)} (h : MIE_ (f + 1) a c t n o R X) (ha : a < 32768) (ht : t - 1 ≠ 0) : MIE_ f (2 * a) (2 * c) (t - 1) n o R X := by
  obtain ⟨h1, h2, h3, q1, q2, q3, q4, q5, q6, q7⟩ := h
  unfold mendS at h1
  rw [if_neg (by omega), if_neg ht] at h1
  have e := p24_s (t := t) (by omega)
  refine ⟨h1, ?_, by omega, by omega, by omega, by omega, by omega, by omega, by omega, q7⟩
  rw [Int.pow_succ] at h2
  rw [Int.mul_comm 2 a, Int.mul_assoc, Int.mul_comm 2 (2 ^ f)]
  exact h2
theorem MI_out {f : Nat} {a c t n X : Int} {o : Int → Int} {R : Int × Int × Int × Int × (Int → Int)} (h : MIE_ (f + 1) a c t n o R X) (ha : a < 32768) (ht : t - 1 = 0) : MIE_ f (2 * a) (outS (2 * c) n o).1 (outS (2 * c) n o).2.1 (outS (2 * c) n o).2.2.1 (outS (2 * c) n o).2.2.2 R X := by
  obtain ⟨h1, h2, h3, q1, q2, q3, q4, q5, q6, q7, q8, q9⟩ := h
  unfold mendS at h1
  rw [if_neg (by omega), if_pos ht] at h1
  have e := p24_s (t := t) (by omega)
  have e2 := p24_r (t := t - 1) (by omega) (by omega)
  obtain ⟨r1, r2, r3⟩ := outS_r (c := 2 * c) (n := n) (o := o) (by omega) ⟨q8, q9⟩
  refine ⟨h1, ?_, by omega, by omega, by omega, by omega, by omega, by omega, ?_, by omega, ?_, ?_⟩
  · rw [Int.pow_succ] at h2
    rw [Int.mul_comm 2 a, Int.mul_assoc, Int.mul_comm 2 (2 ^ f)]
    exact h2
  · rcases r2 with ⟨u1, u2, u3⟩ | ⟨u1, u2, u3⟩
    · rw [u1, show p24 7 = 131072 by decide]; omega
    · rw [u1, show p24 8 = 65536 by decide]; omega
  · rw [r1, show n + 1 - 1 = n by omega]; exact r3.1
  · rw [r1, show n + 1 - 1 = n by omega]; exact r3.2
/-- what the coder learns -/
def lrS (st : Int → Int) (x : Int) (oth : Prop) [Decidable oth] : Int → Int := fup st x (if oth then nlS (st x) else nmS (st x))
def lrL (st lk : Int → Int) (x : Int) (oth : Prop) [Decidable oth] : Int → Int := if oth ∧ (st x = 0 ∨ st x = 6 ∨ st x = 14) then fup lk x (1 - lk x) else lk
/-- a bit is told: A, C, T, how many bytes, the states, the likely bits, the bytes -/
abbrev ES_ : Type := Int × Int × Int × Int × (Int → Int) × (Int → Int) × (Int → Int)
def tellS (E : ES_) (x b : Int) : ES_ := match E with
  | (a, c, t, n, st, lk, o) => if b = lk x ∧ 32768 ≤ a - qS (st x) then (a - qS (st x), c + qS (st x), t, n, st, lk, o) else
    match mendS 15 (if (b = lk x ↔ a - qS (st x) < qS (st x)) then qS (st x) else a - qS (st x)) (if (b = lk x ↔ a - qS (st x) < qS (st x)) then c else c + qS (st x)) t n o with
    | (a2, c2, t2, n2, o2) => (a2, c2, t2, n2, lrS st x (b ≠ lk x), lrL st lk x (b ≠ lk x), o2)
theorem fup_self {f : Int → Int} {i v : Int} (e : v = f i) : f = fup f i v := by
  subst e; funext j; unfold fup; by_cases q : j = i
  · subst q; rw [if_pos rfl]
  · rw [if_neg q]
theorem fup_self2 {f : Int → Int} {i j v w : Int} (hn : j ≠ i) (e : v = f i) (e2 : w = f j) : f = fup (fup f i v) j w :=
  (fup_self e2).trans (congrArg (fun g => fup g j w) (fup_self e))
theorem lrS_cg {st : Int → Int} {x : Int} {P Q : Prop} [Decidable P] [Decidable Q] (h : P ↔ Q) : lrS st x P = lrS st x Q := by
  unfold lrS
  by_cases p : P
  · rw [if_pos p, if_pos (h.mp p)]
  · rw [if_neg p, if_neg (fun q => p (h.mpr q))]
theorem lrL_cg {st lk : Int → Int} {x : Int} {P Q : Prop} [Decidable P] [Decidable Q] (h : P ↔ Q) : lrL st lk x P = lrL st lk x Q := by
  unfold lrL
  by_cases p : P ∧ (st x = 0 ∨ st x = 6 ∨ st x = 14)
  · rw [if_pos p, if_pos ⟨h.mp p.1, p.2⟩]
  · rw [if_neg p, if_neg (fun q => p ⟨h.mpr q.1, q.2⟩)]
theorem tellS_1 {a c t n x b : Int} {st lk o : Int → Int} (h : b = lk x ∧ 32768 ≤ a - qS (st x)) : tellS (a, c, t, n, st, lk, o) x b = (a - qS (st x), c + qS (st x), t, n, st, lk, o) := if_pos h
theorem tellS_m {a c t n x b a2 c2 : Int} {st lk o : Int → Int} {P : Prop} [Decidable P] (h : ¬ (b = lk x ∧ 32768 ≤ a - qS (st x))) (ha : a2 = if (b = lk x ↔ a - qS (st x) < qS (st x)) then qS (st x) else a - qS (st x)) (hc : c2 = if (b = lk x ↔ a - qS (st x) < qS (st x)) then c else c + qS (st x)) (hP : P ↔ b ≠ lk x) :
    tellS (a, c, t, n, st, lk, o) x b = ((mendS 15 a2 c2 t n o).1, (mendS 15 a2 c2 t n o).2.1, (mendS 15 a2 c2 t n o).2.2.1, (mendS 15 a2 c2 t n o).2.2.2.1, lrS st x P, lrL st lk x P, (mendS 15 a2 c2 t n o).2.2.2.2) := by
  subst ha hc
  rw [lrS_cg hP, lrL_cg hP]
  exact if_neg h
/-- behind a bit the coder may mend -/
theorem MQ_tell {a c t n x a2 c2 : Int} {st o : Int → Int} {P : Prop} [Decidable P] (h : MQ_ a c t n o) (ha : 32768 ≤ a) (hs : 0 ≤ st x ∧ st x < 47) (h2 : a2 = if P then qS (st x) else a - qS (st x)) (hc : c2 = if P then c else c + qS (st x)) : MQ_ a2 c2 t n o := by
  obtain ⟨q1, q2, q3, q4, q5, q6, q7⟩ := h
  have tq := (tab_r hs).1
  by_cases p : P
  · rw [if_pos p] at h2 hc; subst h2 hc
    exact ⟨by omega, by omega, by omega, q4, q5, by omega, q7⟩
  · rw [if_neg p] at h2 hc; subst h2 hc
    exact ⟨by omega, by omega, by omega, q4, q5, by omega, q7⟩
def st0 (j : Int) : Int := if j = 18 then 46 else if j = 17 then 3 else if j = 0 then 4 else 0
theorem ior_m {c : Int} (h0 : 0 ≤ c) (h1 : c < 2147483648) : ior_ c 65535 = c / 65536 * 65536 + 65535 := by
  obtain ⟨n, rfl⟩ := Int.eq_ofNat_of_zero_le h0
  have hn : n < 2 ^ 31 := by omega
  have key : n ||| 65535 = 65536 * (n / 65536) + 65535 := by
    apply Nat.eq_of_testBit_eq
    intro i
    rw [Nat.testBit_or, show 65535 = 2 ^ 16 - 1 by decide, show 65536 = 2 ^ 16 by decide, Nat.testBit_two_pow_sub_one, Nat.testBit_two_pow_mul_add _ (by decide), Nat.testBit_two_pow_sub_one]
    by_cases q : i < 16
    · simp [q]
    · rw [if_neg q, Nat.testBit_div_two_pow, show i - 16 + 16 = i by omega]
      simp [q]
  have hb : (Int32.ofInt (n : Int) ||| Int32.ofInt 65535).toBitVec.toNat = n ||| 65535 := by
    show ((Int32.ofInt (n : Int)).toBitVec ||| (Int32.ofInt 65535).toBitVec).toNat = _
    rw [BitVec.toNat_or]
    have e1 : (Int32.ofInt (n : Int)).toBitVec.toNat = n := by
      rw [Int32.toBitVec_ofInt, BitVec.toNat_ofInt]
      omega
    rw [e1]
    rfl
  have hlt : n ||| 65535 < 2 ^ 31 := by
    rw [key]; omega
  unfold ior_
  have e2 : (Int32.ofInt (n : Int) ||| Int32.ofInt 65535) = Int32.ofInt ((n ||| 65535 : Nat) : Int) := by
    apply Int32.toBitVec_inj.mp
    apply BitVec.eq_of_toNat_eq
    rw [hb, Int32.toBitVec_ofInt, BitVec.toNat_ofInt]
    omega
  rw [e2, ir_to ⟨by omega, by omega⟩, key]
  omega
/-- the end: C before the two bytes go out -/
def endC (a c : Int) : Int := if c + a ≤ c / 65536 * 65536 + 65535 then c / 65536 * 65536 + 65535 - 32768 else c / 65536 * 65536 + 65535
def endS (a c t n : Int) (o : Int → Int) : Int × Int × Int × (Int → Int) :=
  outS ((outS (endC a c * 2 ^ t.toNat) n o).1 * 2 ^ (outS (endC a c * 2 ^ t.toNat) n o).2.1.toNat) (outS (endC a c * 2 ^ t.toNat) n o).2.2.1 (outS (endC a c * 2 ^ t.toNat) n o).2.2.2
theorem endC_r {a c t n : Int} {o : Int → Int} (h : MQ_ a c t n o) (ha : 32768 ≤ a) : 0 ≤ endC a c ∧ endC a c < 75563008 ∧ 0 ≤ endC a c * 2 ^ t.toNat ∧ endC a c * 2 ^ t.toNat < 150994944 := by
  have hc := h.c_r
  obtain ⟨q1, q2, q3, q4, q5, q6, q7⟩ := h
  have e0 : 0 ≤ endC a c ∧ endC a c < c + a := by unfold endC; split <;> omega
  have hp : p24 t * 2 ^ t.toNat = 16777216 := by
    unfold p24
    rw [← Int.pow_add, show (24 - t).toNat + t.toNat = 24 by omega]
    rfl
  have h2 : (0 : Int) < 2 ^ t.toNat := Int.pow_pos (by decide)
  refine ⟨e0.1, by omega, Int.mul_nonneg e0.1 (by omega), ?_⟩
  have h3 : endC a c * 2 ^ t.toNat < (9 * p24 t) * 2 ^ t.toNat := Int.mul_lt_mul_of_pos_right (by omega) h2
  rw [Int.mul_assoc, hp] at h3
  omega
theorem fup_self4 {f : Int → Int} {i j k l v w y z : Int} (h1 : j ≠ i) (h2 : k ≠ i) (h3 : k ≠ j) (h4 : l ≠ i) (h5 : l ≠ j) (h6 : l ≠ k) (e1 : v = f i) (e2 : w = f j) (e3 : y = f k) (e4 : z = f l) : f = fup (fup (fup (fup f i v) j w) k y) l z := by
  rw [← fup_self e1, ← fup_self e2, ← fup_self e3, ← fup_self e4]
theorem fup_24 (f : Int → Int) (A C : Int) : fup (fup f 3 A) 4 C = fup (fup (fup (fup f 2 (f 2)) 3 A) 4 C) 5 (f 5) := by
  rw [← fup_self (f := f) (i := 2) rfl]
  exact fup_self rfl

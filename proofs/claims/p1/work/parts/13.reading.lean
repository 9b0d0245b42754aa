/-! READING, in numbers; src the bytes, n how many; lw: what stands above the lowest sixteen bits of C, fx: C behind a doubling -/
def byS (src : Int → Int) (n k : Int) : Int := if k < n then src k else 255
def inS (src : Int → Int) (n c p : Int) : Int × Int × Int := if byS src n p = 255 then (if 143 < byS src n (p + 1) then (c + 65280, 8, p) else (c + byS src n (p + 1) * 512, 7, p + 1)) else (c + byS src n (p + 1) * 256, 8, p + 1)
theorem byS_r {src : Int → Int} {n k : Int} (h : ∀ j, 0 ≤ j → j < n → 0 ≤ src j ∧ src j ≤ 255) (h0 : 0 ≤ k) : 0 ≤ byS src n k ∧ byS src n k ≤ 255 := by
  unfold byS; split
  · exact h k h0 (by omega)
  · omega
theorem inS_r {src : Int → Int} {n c p : Int} (h : ∀ j, 0 ≤ j → j < n → 0 ≤ src j ∧ src j ≤ 255) (h0 : 0 ≤ p) (h1 : p ≤ n) : ((inS src n c p).2.1 = 7 ∨ (inS src n c p).2.1 = 8) ∧ (0 ≤ (inS src n c p).2.2 ∧ (inS src n c p).2.2 ≤ n) ∧ (c ≤ (inS src n c p).1 ∧ (inS src n c p).1 ≤ c + 130560) := by
  have b1 := byS_r h h0
  have b2 := byS_r h (k := p + 1) (by omega)
  by_cases q : p < n
  · unfold inS
    split
    · split
      · exact ⟨Or.inr rfl, ⟨h0, h1⟩, by show c ≤ c + 65280; omega, by show c + 65280 ≤ _; omega⟩
      · exact ⟨Or.inl rfl, ⟨by show 0 ≤ p + 1; omega, by show p + 1 ≤ n; omega⟩, by show c ≤ c + _; omega, by show c + _ ≤ _; omega⟩
    · exact ⟨Or.inr rfl, ⟨by show 0 ≤ p + 1; omega, by show p + 1 ≤ n; omega⟩, by show c ≤ c + _; omega, by show c + _ ≤ _; omega⟩
  · have e1 : byS src n p = 255 := if_neg q
    have e2 : byS src n (p + 1) = 255 := if_neg (by omega)
    unfold inS
    rw [if_pos e1, if_pos (by omega)]
    exact ⟨Or.inr rfl, ⟨h0, h1⟩, by show c ≤ c + 65280; omega, by show c + 65280 ≤ _; omega⟩
def rmS (fx : Int → Int) (src : Int → Int) (m : Int) : Nat → Int → Int → Int → Int → Int × Int × Int × Int
  | 0, a, c, t, p => (a, c, t, p)
  | k + 1, a, c, t, p => if 32768 ≤ a then (a, c, t, p) else if t = 0 then rmS fx src m k (2 * a) (fx (2 * (inS src m c p).1)) ((inS src m c p).2.1 - 1) (inS src m c p).2.2 else rmS fx src m k (2 * a) (fx (2 * c)) (t - 1) p
/-- what holds while the coder reads -/
def RQ_ (n a t p : Int) : Prop := 1 ≤ a ∧ a ≤ 65535 ∧ 0 ≤ t ∧ t ≤ 8 ∧ 0 ≤ p ∧ p ≤ n
def RJ_ (fx : Int → Int) (src : Int → Int) (m : Int) (f : Nat) (a c t p : Int) (R : Int × Int × Int × Int) : Prop := rmS fx src m f a c t p = R ∧ 32768 ≤ a * 2 ^ f ∧ RQ_ m a t p
section RJ
variable {fx : Int → Int} {src : Int → Int} {m a c t p : Int} {R : Int × Int × Int × Int}
theorem RJ_0 (h : RQ_ m a t p) : RJ_ fx src m 15 a c t p (rmS fx src m 15 a c t p) := by
  refine ⟨rfl, ?_, h⟩
  have := h.1
  rw [show (2 : Int) ^ 15 = 32768 by decide]
  omega
theorem RJ_done {f : Nat} (h : RJ_ fx src m f a c t p R) (ha : 32768 ≤ a) : (a, c, t, p) = R := by
  rw [← h.1]
  cases f with
  | zero => rfl
  | succ f => unfold rmS; rw [if_pos ha]
theorem RJ_z (h : RJ_ fx src m 0 a c t p R) : 32768 ≤ a := by
  have := h.2.1
  rw [show (2 : Int) ^ 0 = 1 from rfl] at this
  omega
theorem RJ_next {f : Nat} {c2 : Int} (h : RJ_ fx src m (f + 1) a c t p R) (ha : a < 32768) (ht : t ≠ 0) (hc : c2 = fx (2 * c)) : RJ_ fx src m f (2 * a) c2 (t - 1) p R := by
  subst hc
  obtain ⟨h1, h2, q1, q2, q3, q4, q5⟩ := h
  unfold rmS at h1
  rw [if_neg (by omega), if_neg ht] at h1
  refine ⟨h1, ?_, by omega, by omega, by omega, by omega, q5⟩
  rw [Int.pow_succ] at h2
  rw [Int.mul_comm 2 a, Int.mul_assoc, Int.mul_comm 2 (2 ^ f)]
  exact h2
theorem RJ_in {f : Nat} {c2 : Int} (hs : ∀ j, 0 ≤ j → j < m → 0 ≤ src j ∧ src j ≤ 255) (h : RJ_ fx src m (f + 1) a c t p R) (ha : a < 32768) (ht : t = 0) (hc : c2 = fx (2 * (inS src m c p).1)) : RJ_ fx src m f (2 * a) c2 ((inS src m c p).2.1 - 1) (inS src m c p).2.2 R := by
  subst hc
  obtain ⟨h1, h2, q1, q2, q3, q4, q5, q6⟩ := h
  unfold rmS at h1
  rw [if_neg (by omega), if_pos ht] at h1
  have hr := inS_r hs (c := c) q5 q6
  refine ⟨h1, ?_, by omega, by omega, by omega, by omega, hr.2.1⟩
  rw [Int.pow_succ] at h2
  rw [Int.mul_comm 2 a, Int.mul_assoc, Int.mul_comm 2 (2 ^ f)]
  exact h2
end RJ
abbrev DS_ : Type := Int × Int × Int × Int × (Int → Int) × (Int → Int)
/-- a bit is read: the bit; A, C, T, the place, the states, the likely bits -/
def rdS (lw fx : Int → Int) (src : Int → Int) (m : Int) (D : DS_) (x : Int) : Int × DS_ := match D with
  | (a, c, t, p, st, lk) => if ¬ lw c < qS (st x) ∧ 32768 ≤ a - qS (st x) then (lk x, a - qS (st x), c - 65536 * qS (st x), t, p, st, lk) else
    match rmS fx src m 15 (if lw c < qS (st x) then qS (st x) else a - qS (st x)) (if lw c < qS (st x) then c else c - 65536 * qS (st x)) t p with
    | (a2, c2, t2, p2) => (if (lw c < qS (st x) ↔ ¬ a - qS (st x) < qS (st x)) then 1 - lk x else lk x, a2, c2, t2, p2, lrS st x (lw c < qS (st x) ↔ ¬ a - qS (st x) < qS (st x)), lrL st lk x (lw c < qS (st x) ↔ ¬ a - qS (st x) < qS (st x)))
section RD
variable {lw fx : Int → Int} {src : Int → Int} {m a c t p x : Int} {st lk : Int → Int}
theorem rdS_1 (h : ¬ lw c < qS (st x) ∧ 32768 ≤ a - qS (st x)) : rdS lw fx src m (a, c, t, p, st, lk) x = (lk x, a - qS (st x), c - 65536 * qS (st x), t, p, st, lk) := if_pos h
theorem rdS_m {a2 c2 b : Int} {P : Prop} [Decidable P] (h : ¬ (¬ lw c < qS (st x) ∧ 32768 ≤ a - qS (st x))) (ha : a2 = if lw c < qS (st x) then qS (st x) else a - qS (st x)) (hc : c2 = if lw c < qS (st x) then c else c - 65536 * qS (st x)) (hP : P ↔ (lw c < qS (st x) ↔ ¬ a - qS (st x) < qS (st x))) (hb : b = if P then 1 - lk x else lk x) :
    rdS lw fx src m (a, c, t, p, st, lk) x = (b, (rmS fx src m 15 a2 c2 t p).1, (rmS fx src m 15 a2 c2 t p).2.1, (rmS fx src m 15 a2 c2 t p).2.2.1, (rmS fx src m 15 a2 c2 t p).2.2.2, lrS st x P, lrL st lk x P) := by
  subst ha hc hb
  rw [lrS_cg hP, lrL_cg hP]
  have e : (if P then 1 - lk x else lk x) = (if (lw c < qS (st x) ↔ ¬ a - qS (st x) < qS (st x)) then 1 - lk x else lk x) := by
    by_cases q : P
    · rw [if_pos q, if_pos (hP.mp q)]
    · rw [if_neg q, if_neg (fun z => q (hP.mpr z))]
  rw [e]
  exact if_neg h
end RD
theorem RQ_rd {m a t p x a2 : Int} {st : Int → Int} {P : Prop} [Decidable P] (h : RQ_ m a t p) (ha : 32768 ≤ a) (hs : 0 ≤ st x ∧ st x < 47) (h2 : a2 = if P then qS (st x) else a - qS (st x)) : RQ_ m a2 t p := by
  obtain ⟨q1, q2, q3⟩ := h
  have tq := (tab_r hs).1
  by_cases q : P
  · rw [if_pos q] at h2; subst h2; exact ⟨by omega, by omega, q3⟩
  · rw [if_neg q] at h2; subst h2; exact ⟨by omega, by omega, q3⟩
/-- the beginning of reading: C, T, the place -/
def bgS (src : Int → Int) (n : Int) : Int × Int × Int := inS src n (65536 * byS src n 0) 0
def lwM (c : Int) : Int := (w64 c).tdiv 65536
def lwC (c : Int) : Int := c / 65536
def fxC (c : Int) : Int := min c 1099511627776
def fxM (c : Int) : Int := c
theorem lwM_r (c : Int) : lr_ (lwM c) := by
  have h := w64_r c
  unfold lwM
  generalize w64 c = z at *
  unfold lr_ at *
  rcases Int.le_total 0 z with q | q
  · rw [Int.tdiv_eq_ediv_of_nonneg q]; omega
  · have e : z.tdiv 65536 = -((-z).tdiv 65536) := by rw [Int.neg_tdiv]; omega
    rw [e, Int.tdiv_eq_ediv_of_nonneg (by omega)]
    omega
theorem fup_46 (f : Int → Int) (t c : Int) : fup (fup f 6 t) 7 c = fup (fup (fup f 4 (f 4)) 6 t) 7 c := by
  rw [← fup_self (f := f) (i := 4) rfl]
theorem fup_4567 (f : Int → Int) (a c : Int) : fup (fup f 5 a) 7 c = fup (fup (fup (fup f 4 (f 4)) 5 a) 6 (f 6)) 7 c := by
  rw [← fup_self (f := f) (i := 4) rfl]
  exact congrArg (fun g => fup g 7 c) (fup_self rfl)
theorem fup_self3 {f : Int → Int} {i j k l v w y z : Int} (h1 : j ≠ i) (h2 : k ≠ i) (h3 : k ≠ j) (h4 : l ≠ i) (h5 : l ≠ j) (h6 : l ≠ k) (e2 : w = f j) (e3 : y = f k) (e4 : z = f l) : fup f i v = fup (fup (fup (fup f i v) j w) k y) l z := by
  have a2 : w = fup f i v j := by rw [fup_ne f v h1]; exact e2
  have a3 : y = fup f i v k := by rw [fup_ne f v h2]; exact e3
  have a4 : z = fup f i v l := by rw [fup_ne f v h4]; exact e4
  rw [← fup_self a2, ← fup_self a3, ← fup_self a4]
theorem fup_4567b (f : Int → Int) (a : Int) : fup f 5 a = fup (fup (fup (fup f 4 (f 4)) 5 a) 6 (f 6)) 7 (f 7) := by
  rw [← fup_self (f := f) (i := 4) rfl]
  exact fup_self2 (by decide) rfl rfl

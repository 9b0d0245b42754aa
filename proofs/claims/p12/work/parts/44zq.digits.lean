/-! THE CODER'S WORD IS READ RIGHT. B: the bytes that are there in the end, the first one 0, behind the last one 255 -/
def rN (B : Nat → Int) (i : Nat) : Nat := if B i = 255 ∧ B (i + 1) ≤ 143 then 7 else 8
def Xd (B : Nat → Int) : Nat → Int
  | 0 => B 0
  | i + 1 => Xd B i * 2 ^ rN B i + B (i + 1)
def PB (B : Nat → Int) : Nat → Nat
  | 0 => 0
  | i + 1 => PB B i + rN B i
def bsE (B : Nat → Int) (c t n : Int) (o : Int → Int) : Int := (Xd B (n - 1).toNat - B (n - 1).toNat + o (n - 1)) * 2 ^ (27 - t).toNat + c
def shE (B : Nat → Int) (t n : Int) : Nat := PB B (n - 1).toNat + (27 - t).toNat
/-- byte j's digits lie at a number of the interval from b on, of size a, at shift s -/
def WIT (B : Nat → Int) (j s : Nat) (b a : Int) : Prop := ∃ (z : Int) (u : Nat), PB B j ≤ u ∧ s ≤ u ∧ Xd B j * 2 ^ (u - PB B j) ≤ z ∧ z < (Xd B j + 1) * 2 ^ (u - PB B j) ∧ b * 2 ^ (u - s) ≤ z ∧ z < (b + a) * 2 ^ (u - s)
def HQ (B : Nat → Int) (N a c t n : Int) (o : Int → Int) : Prop :=
  (∀ i : Nat, (i : Int) < n - 1 → o (i : Int) = B i) ∧ (o (n - 1) = B (n - 1).toNat ∨ (o (n - 1) ≠ 255 ∧ o (n - 1) + 1 = B (n - 1).toNat)) ∧ (∀ i : Nat, n - 1 ≤ (i : Int) → B i = 255 → B (i + 1) ≤ 143 ∨ N ≤ (i : Int) + 1) ∧ ∀ j : Nat, (n - 1 < (j : Int) ∨ ((j : Int) = n - 1 ∧ o (n - 1) ≠ 255)) → WIT B j (shE B t n) (bsE B c t n o) a
theorem p2a (a b : Nat) : (2 : Int) ^ (a + b) = 2 ^ a * 2 ^ b := by
  induction b with
  | zero => rw [Nat.add_zero, show (2 : Int) ^ 0 = 1 from rfl, Int.mul_one]
  | succ b ih => rw [Nat.add_succ, Int.pow_succ, Int.pow_succ, ih, Int.mul_assoc]
theorem p2p (a : Nat) : (0 : Int) < 2 ^ a := by have := p2_1 a; omega
theorem mul_lr {x y : Int} (k : Nat) (h : x ≤ y) : x * 2 ^ k ≤ y * 2 ^ k := Int.mul_le_mul_of_nonneg_right h (Int.le_of_lt (p2p k))
theorem lt_mr {x y : Int} {k : Nat} (h : x * 2 ^ k < y * 2 ^ k) : x < y := Int.lt_of_mul_lt_mul_right h (Int.le_of_lt (p2p k))
theorem WIT_sub {B : Nat → Int} {j s : Nat} {b b2 a a2 : Int} (h : WIT B j s b2 a2) (h1 : b ≤ b2) (h2 : b2 + a2 ≤ b + a) : WIT B j s b a := by
  obtain ⟨z, u, u1, u2, z1, z2, z3, z4⟩ := h
  exact ⟨z, u, u1, u2, z1, z2, Int.le_trans (mul_lr _ h1) z3, Int.lt_of_lt_of_le z4 (mul_lr _ h2)⟩
theorem WIT_sh {B : Nat → Int} {j s : Nat} {b a : Int} (h : WIT B j (s + 1) (2 * b) (2 * a)) : WIT B j s b a := by
  obtain ⟨z, u, u1, u2, z1, z2, z3, z4⟩ := h
  have e : (2 : Int) ^ (u - s) = 2 * 2 ^ (u - (s + 1)) := by
    rw [show u - s = (u - (s + 1)) + 1 by omega, Int.pow_succ, Int.mul_comm]
  refine ⟨z, u, u1, by omega, z1, z2, ?_, ?_⟩
  · rw [e, ← Int.mul_assoc, Int.mul_comm b 2]
    exact z3
  · rw [e, ← Int.mul_assoc, Int.mul_comm (b + a) 2, Int.mul_add]
    exact z4
theorem HQ_sub {B : Nat → Int} {N a a2 c c2 t n : Int} {o : Int → Int} (h : HQ B N a2 c2 t n o) (h1 : c ≤ c2) (h2 : c2 + a2 ≤ c + a) : HQ B N a c t n o := by
  obtain ⟨f1, f2, f4, f3⟩ := h
  refine ⟨f1, f2, f4, fun j hj => WIT_sub (f3 j hj) ?_ ?_⟩
  · unfold bsE
    omega
  · unfold bsE
    omega
theorem bs_sh {B : Nat → Int} {c t n : Int} {o : Int → Int} (ht : 1 ≤ t ∧ t ≤ 27) : bsE B (2 * c) (t - 1) n o = 2 * bsE B c t n o ∧ shE B (t - 1) n = shE B t n + 1 := by
  refine ⟨?_, ?_⟩
  · unfold bsE
    rw [show (27 - (t - 1)).toNat = (27 - t).toNat + 1 by omega, Int.pow_succ, ← Int.mul_assoc]
    generalize (Xd B (n - 1).toNat - B (n - 1).toNat + o (n - 1)) * 2 ^ (27 - t).toNat = y
    omega
  · unfold shE
    omega
theorem HQ_sh {B : Nat → Int} {N a c t n : Int} {o : Int → Int} (ht : 1 ≤ t ∧ t ≤ 27) (h : HQ B N (2 * a) (2 * c) (t - 1) n o) : HQ B N a c t n o := by
  obtain ⟨f1, f2, f4, f3⟩ := h
  have e := bs_sh (B := B) (c := c) (n := n) (o := o) ht
  refine ⟨f1, f2, f4, fun j hj => ?_⟩
  have k := f3 j hj
  rw [e.1, e.2] at k
  exact WIT_sh k
theorem WIT_now {B : Nat → Int} {j s : Nat} {b a : Int} (hs : PB B j ≤ s) (ha : 1 ≤ a) (h1 : Xd B j * 2 ^ (s - PB B j) ≤ b) (h2 : b < (Xd B j + 1) * 2 ^ (s - PB B j)) : WIT B j s b a := by
  refine ⟨b, s, hs, Nat.le_refl s, h1, h2, ?_, ?_⟩
  · rw [Nat.sub_self, show (2 : Int) ^ 0 = 1 from rfl]
    omega
  · rw [Nat.sub_self, show (2 : Int) ^ 0 = 1 from rfl]
    omega
/-- a byte has gone out -/
theorem HQ_o {B : Nat → Int} {N a c c2 k n v cy : Int} {o o2 : Int → Int} (hn : 1 ≤ n) (hk : k = 7 ∨ k = 8) (ha : 1 ≤ a) (e0 : ∀ i : Int, i < n - 1 → o2 i = o i) (e1 : o2 (n - 1) = o (n - 1) + cy) (e2 : o2 n = v) (hcy : cy = 0 ∨ (cy = 1 ∧ o (n - 1) ≠ 255)) (hv : 0 ≤ v ∧ v ≤ 255)
    (hc : c = cy * 134217728 + v * 2 ^ (27 - k).toNat + c2) (h0 : 0 ≤ c2) (hc2 : c2 < 2 ^ (27 - k).toNat) (h7 : k = 7 → o2 (n - 1) = 255 ∧ v ≤ 143 ∧ v * 1048576 + c2 + a ≤ 150994944) (h8 : k = 8 → o2 (n - 1) ≠ 255) (hx : o (n - 1) ≠ 255 → v * 2 ^ (27 - k).toNat + c2 < 134217728)
    (h : HQ B N a c2 k (n + 1) o2) : HQ B N a c 0 n o ∧ bsE B c2 k (n + 1) o2 = bsE B c 0 n o ∧ shE B k (n + 1) = shE B 0 n := by
  obtain ⟨f1, f2, f4, f3⟩ := h
  obtain ⟨m, rfl⟩ : ∃ m : Nat, n = (m : Int) + 1 := ⟨(n - 1).toNat, by omega⟩
  have t1 : ((m : Int) + 1 - 1).toNat = m := by omega
  have t2 : ((m : Int) + 1 + 1 - 1).toNat = m + 1 := by omega
  have i1 : (m : Int) + 1 - 1 = (m : Int) := by omega
  have i2 : (m : Int) + 1 + 1 - 1 = (m : Int) + 1 := by omega
  rw [i1] at e1 hcy h7 h8 hx
  rw [t2, i2] at f2
  have g0 : o2 (m : Int) = B m := f1 m (by omega)
  have g1 : v = B (m + 1) ∨ (v ≠ 255 ∧ v + 1 = B (m + 1)) := by rw [← e2]; exact f2
  have sE : shE B k ((m : Int) + 1 + 1) = PB B m + rN B m + (27 - k).toNat := by
    unfold shE
    rw [t2]
    rfl
  have bE : bsE B c2 k ((m : Int) + 1 + 1) o2 = (Xd B m * 2 ^ rN B m + v) * 2 ^ (27 - k).toNat + c2 := by
    unfold bsE
    rw [t2, i2, e2]
    show (Xd B m * 2 ^ rN B m + B (m + 1) - B (m + 1) + v) * _ + c2 = _
    rw [Int.add_sub_cancel]
  have pE : PB B (m + 1) = PB B m + rN B m := rfl
  have xE : Xd B (m + 1) = Xd B m * 2 ^ rN B m + B (m + 1) := rfl
  have hr : (rN B m : Int) = k := by
    rcases hk with rfl | rfl
    · obtain ⟨a1, a2, a3⟩ := h7 rfl
      unfold rN
      rw [if_pos]
      · rfl
      · refine ⟨by rw [← g0]; exact a1, ?_⟩
        rcases g1 with g1 | ⟨g1, g2⟩
        · omega
        · by_cases q : v = 143
          · exfalso
            obtain ⟨z, u, u1, u2, z1, z2, z3, z4⟩ := f3 (m + 1) (Or.inr ⟨by omega, by rw [i2, e2]; exact g1⟩)
            rw [bE] at z4
            rw [sE] at u2 z4
            rw [pE] at u1 z1
            rw [xE] at z1
            have w9 : (27 - (7 : Int)).toNat = 20 := by decide
            rw [w9] at u2 z4
            have ee : u - (PB B m + rN B m) = (u - (PB B m + rN B m + 20)) + 20 := by omega
            rw [ee, Nat.add_comm (u - (PB B m + rN B m + 20)) 20, p2a, ← Int.mul_assoc] at z1
            have lt := lt_mr (Int.lt_of_le_of_lt z1 z4)
            rw [show (2 : Int) ^ 20 = 1048576 by decide] at lt
            generalize Xd B m * 2 ^ rN B m = y at lt
            omega
          · omega
    · have a1 := h8 rfl
      unfold rN
      rw [if_neg (fun q => a1 (g0.trans q.1))]
      rfl
  have hr2 : rN B m = k.toNat := by omega
  have s0 : shE B 0 ((m : Int) + 1) = PB B m + 27 := by
    unfold shE
    rw [t1]
    rfl
  have sh : shE B k ((m : Int) + 1 + 1) = shE B 0 ((m : Int) + 1) := by
    rw [sE, s0]
    omega
  have b0 : bsE B c 0 ((m : Int) + 1) o = Xd B m * 134217728 + v * 2 ^ (27 - k).toNat + c2 := by
    unfold bsE
    rw [t1, i1, ← g0, e1, hc, show (27 - (0 : Int)).toNat = 27 by decide, show (2 : Int) ^ 27 = 134217728 by decide]
    omega
  have bb : bsE B c2 k ((m : Int) + 1 + 1) o2 = bsE B c 0 ((m : Int) + 1) o := by
    rw [bE, b0, hr2]
    rcases hk with rfl | rfl
    · rw [show (2 : Int) ^ (7 : Int).toNat = 128 by decide, show (2 : Int) ^ (27 - (7 : Int)).toNat = 1048576 by decide]
      omega
    · rw [show (2 : Int) ^ (8 : Int).toNat = 256 by decide, show (2 : Int) ^ (27 - (8 : Int)).toNat = 524288 by decide]
      omega
  refine ⟨⟨fun i hi => ?_, ?_, fun i hi hb => ?_, fun j hj => ?_⟩, bb, sh⟩
  · rw [← e0 _ hi]
    exact f1 i (by omega)
  · rw [t1, i1, ← g0, e1]
    rcases hcy with rfl | ⟨rfl, q⟩
    · exact Or.inl (by omega)
    · exact Or.inr ⟨q, rfl⟩
  · by_cases im : i = m
    · subst im
      rcases hk with rfl | rfl
      · refine Or.inl ?_
        unfold rN at hr
        by_cases g : B i = 255 ∧ B (i + 1) ≤ 143
        · exact g.2
        · rw [if_neg g] at hr
          omega
      · exact absurd (g0.trans hb) (h8 rfl)
    · exact f4 i (by omega) hb
  · rw [← bb, ← sh]
    by_cases j2 : (m : Int) + 1 < (j : Int)
    · exact f3 j (Or.inl (by omega))
    · by_cases j1 : j = m + 1
      · subst j1
        by_cases q : v = 255
        · rw [bb, sh, s0, b0]
          have vB : B (m + 1) = 255 := by rcases g1 with g1 | ⟨g1, g2⟩ <;> omega
          refine WIT_now (by rw [pE]; omega) ha ?_ ?_
          · rw [pE, xE, vB, hr2]
            rcases hk with rfl | rfl
            · have := h7 rfl
              omega
            · rw [show PB B m + 27 - (PB B m + (8 : Int).toNat) = 19 by omega, show (2 : Int) ^ (8 : Int).toNat = 256 by decide, show (2 : Int) ^ 19 = 524288 by decide, show (2 : Int) ^ (27 - (8 : Int)).toNat = 524288 by decide]
              omega
          · rw [pE, xE, vB, hr2]
            rcases hk with rfl | rfl
            · have := h7 rfl
              omega
            · rw [show (2 : Int) ^ (27 - (8 : Int)).toNat = 524288 by decide] at hc2
              rw [show PB B m + 27 - (PB B m + (8 : Int).toNat) = 19 by omega, show (2 : Int) ^ (8 : Int).toNat = 256 by decide, show (2 : Int) ^ 19 = 524288 by decide, show (2 : Int) ^ (27 - (8 : Int)).toNat = 524288 by decide]
              omega
        · exact f3 (m + 1) (Or.inr ⟨by omega, by rw [i2, e2]; exact q⟩)
      · have jm : j = m := by
          rcases hj with hj | hj
          · omega
          · omega
        subst jm
        have ne : o (j : Int) ≠ 255 := by
          rcases hj with hj | hj
          · omega
          · rw [i1] at hj
            exact hj.2
        have hx2 := hx ne
        have vp : 0 ≤ v * 2 ^ (27 - k).toNat := Int.mul_nonneg hv.1 (Int.le_of_lt (p2p _))
        rw [bb, sh, s0, b0]
        refine WIT_now (by omega) ha ?_ ?_
        · rw [show PB B j + 27 - PB B j = 27 by omega, show (2 : Int) ^ 27 = 134217728 by decide]
          omega
        · rw [show PB B j + 27 - PB B j = 27 by omega, show (2 : Int) ^ 27 = 134217728 by decide]
          omega
theorem HQ_out {B : Nat → Int} {N a c n : Int} {o : Int → Int} (hn : 1 ≤ n) (ha : 1 ≤ a) (hc : 0 ≤ c) (hca : c + a ≤ 150994944) (ho : 0 ≤ o (n - 1) ∧ o (n - 1) ≤ 255) (h : HQ B N a (outS c n o).1 (outS c n o).2.1 (outS c n o).2.2.1 (outS c n o).2.2.2) :
    HQ B N a c 0 n o ∧ bsE B (outS c n o).1 (outS c n o).2.1 (outS c n o).2.2.1 (outS c n o).2.2.2 = bsE B c 0 n o ∧ shE B (outS c n o).2.1 (outS c n o).2.2.1 = shE B 0 n := by
  have w20 : (2 : Int) ^ (27 - (7 : Int)).toNat = 1048576 := by decide
  have w19 : (2 : Int) ^ (27 - (8 : Int)).toNat = 524288 := by decide
  by_cases h1 : o (n - 1) = 255
  · rw [outS_1 h1] at h ⊢
    dsimp only at h ⊢
    exact HQ_o (cy := 0) (v := c / 1048576 % 256) hn (Or.inl rfl) ha (fun i hi => fup_ne _ _ (by omega)) (by rw [fup_ne _ _ (by omega)]; omega) (fup_eq _ _ _) (Or.inl rfl) (by omega) (by rw [w20]; omega) (by omega) (by rw [w20]; omega) (fun _ => ⟨by rw [fup_ne _ _ (by omega)]; exact h1, by omega, by omega⟩) (fun q => by omega) (fun q => absurd h1 q) h
  · by_cases h2 : c < 134217728
    · rw [outS_2 h1 h2] at h ⊢
      dsimp only at h ⊢
      exact HQ_o (cy := 0) (v := c / 524288 % 256) hn (Or.inr rfl) ha (fun i hi => fup_ne _ _ (by omega)) (by rw [fup_ne _ _ (by omega)]; omega) (fup_eq _ _ _) (Or.inl rfl) (by omega) (by rw [w19]; omega) (by omega) (by rw [w19]; omega) (fun q => by omega) (fun _ => by rw [fup_ne _ _ (by omega)]; exact h1) (fun _ => by rw [w19]; omega) h
    · by_cases h3 : o (n - 1) + 1 = 255
      · rw [outS_3 h1 (by omega) h3] at h ⊢
        dsimp only at h ⊢
        exact HQ_o (cy := 1) (v := (c - 134217728) / 1048576 % 256) hn (Or.inl rfl) ha (fun i hi => by rw [fup_ne _ _ (by omega), fup_ne _ _ (by omega)]) (by rw [fup_ne _ _ (by omega), fup_eq]) (fup_eq _ _ _) (Or.inr ⟨rfl, h1⟩) (by omega) (by rw [w20]; omega) (by omega) (by rw [w20]; omega) (fun _ => ⟨by rw [fup_ne _ _ (by omega), fup_eq]; exact h3, by omega, by omega⟩) (fun q => by omega) (fun _ => by rw [w20]; omega) h
      · rw [outS_4 h1 (by omega) h3] at h ⊢
        dsimp only at h ⊢
        exact HQ_o (cy := 1) (v := c / 524288 % 256) hn (Or.inr rfl) ha (fun i hi => by rw [fup_ne _ _ (by omega), fup_ne _ _ (by omega)]) (by rw [fup_ne _ _ (by omega), fup_eq]) (fup_eq _ _ _) (Or.inr ⟨rfl, h1⟩) (by omega) (by rw [w19]; omega) (by omega) (by rw [w19]; omega) (fun q => by omega) (fun _ => by rw [fup_ne _ _ (by omega), fup_eq]; exact h3) (fun _ => by rw [w19]; omega) h

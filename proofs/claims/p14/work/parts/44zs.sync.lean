/-! the reader goes along with the teller -/
def SYN (B : Nat → Int) (c t n : Int) (o : Int → Int) (i : Nat) (cd td : Int) : Prop := (0 ≤ td ∧ td ≤ 8) ∧ (PB B i : Int) = (shE B t n : Int) + td ∧ cd = Xd B i * 2 ^ (16 - td).toNat - bsE B c t n o * 65536
def BSR (B : Nat → Int) (src : Int → Int) (L : Int) : Prop := ∀ j : Nat, B (j + 1) = byS src L (j : Int)
def NFQ (src : Int → Int) (L : Int) : Prop := ∀ j : Int, 0 ≤ j → byS src L j = 255 → byS src L (j + 1) ≤ 143 ∨ L ≤ j + 1
def PLQ (src : Int → Int) (L : Int) (i : Nat) (p : Int) : Prop := 0 ≤ p ∧ ((i : Int) = p + 1 ∨ (p + 1 < (i : Int) ∧ L ≤ p + 1 ∧ byS src L p = 255))
theorem PB_mono {B : Nat → Int} {i : Nat} : ∀ {k : Nat}, PB B i ≤ PB B (i + k)
  | 0 => Nat.le_refl _
  | k + 1 => Nat.le_trans (PB_mono (k := k)) (by show PB B (i + k) ≤ PB B (i + k) + rN B (i + k); omega)
theorem rN_r (B : Nat → Int) (i : Nat) : rN B i = 7 ∨ rN B i = 8 := by
  unfold rN
  split
  · exact Or.inl rfl
  · exact Or.inr rfl
theorem byS_b {src : Int → Int} {L : Int} {k : Int} (h : L ≤ k) : byS src L k = 255 := if_neg (by omega)
theorem DEC {B : Nat → Int} {N a2 c2 c t n cd td : Int} {o : Int → Int} {i : Nat} (hs : SYN B c t n o i cd td) (ht : 1 ≤ t ∧ t ≤ 12) (hn : 1 ≤ n) (h : HQ B N a2 c2 t n o) : 0 ≤ cd - (c2 - c) * 65536 ∧ cd - (c2 - c) * 65536 < a2 * 65536 := by
  obtain ⟨⟨s1, s2⟩, s3, s4⟩ := hs
  have sm : shE B t n = PB B (n - 1).toNat + (27 - t).toNat := rfl
  have hi : n - 1 < (i : Int) := by
    refine Classical.byContradiction (fun q => ?_)
    obtain ⟨k, hk⟩ : ∃ k : Nat, (n - 1).toNat = i + k := ⟨(n - 1).toNat - i, by omega⟩
    have := PB_mono (B := B) (i := i) (k := k)
    rw [← hk] at this
    omega
  obtain ⟨z, u, u1, u2, z1, z2, z3, z4⟩ := h.2.2.2 i (Or.inl hi)
  have be : bsE B c2 t n o = bsE B c t n o + (c2 - c) := by
    unfold bsE
    omega
  rw [be] at z3 z4
  generalize bsE B c t n o = b at s4 z3 z4
  obtain ⟨k, hk⟩ : ∃ k : Nat, u = PB B i + k := ⟨u - PB B i, by omega⟩
  have e1 : u - PB B i = k := by omega
  have e2 : u - shE B t n = td.toNat + k := by omega
  rw [e1] at z1 z2
  rw [e2, p2a, ← Int.mul_assoc] at z3 z4
  have y1 := lt_mr (Int.lt_of_le_of_lt z3 z2)
  have y2 := lt_mr (Int.lt_of_le_of_lt z1 z4)
  have pp : (2 : Int) ^ td.toNat * 2 ^ (16 - td).toNat = 65536 := by
    rw [← p2a, show td.toNat + (16 - td).toNat = 16 by omega]
    decide
  have w1 := mul_lr (16 - td).toNat (show (b + (c2 - c)) * 2 ^ td.toNat ≤ Xd B i by omega)
  have w2 := mul_lr (16 - td).toNat (show Xd B i + 1 ≤ (b + (c2 - c) + a2) * 2 ^ td.toNat by omega)
  have pk := p2_1 (16 - td).toNat
  rw [Int.mul_assoc, pp] at w1 w2
  rw [Int.add_mul (Xd B i), Int.one_mul] at w2
  rw [s4]
  generalize Xd B i * 2 ^ (16 - td).toNat = y at w1 w2 ⊢
  omega
theorem SYN_in {B : Nat → Int} {c t n cd : Int} {o : Int → Int} {i : Nat} (hs : SYN B c t n o i cd 0) : SYN B c t n o (i + 1) (cd + B (i + 1) * 2 ^ (16 - (rN B i : Int)).toNat) (rN B i : Int) := by
  obtain ⟨-, s3, s4⟩ := hs
  have r := rN_r B i
  refine ⟨by omega, ?_, ?_⟩
  · show ((PB B i + rN B i : Nat) : Int) = _
    omega
  · show _ = (Xd B i * 2 ^ rN B i + B (i + 1)) * 2 ^ (16 - (rN B i : Int)).toNat - _
    rw [s4, show (2 : Int) ^ (16 - (0 : Int)).toNat = 65536 by decide]
    rcases r with r | r <;> rw [r]
    · rw [show (2 : Int) ^ 7 = 128 by decide, show (2 : Int) ^ (16 - ((7 : Nat) : Int)).toNat = 512 by decide]
      omega
    · rw [show (2 : Int) ^ 8 = 256 by decide, show (2 : Int) ^ (16 - ((8 : Nat) : Int)).toNat = 256 by decide]
      omega
theorem SYN_sh {B : Nat → Int} {c t n cd td : Int} {o : Int → Int} {i : Nat} (ht : 1 ≤ t ∧ t ≤ 27) (h1 : 1 ≤ td) (hs : SYN B c t n o i cd td) : SYN B (2 * c) (t - 1) n o i (2 * cd) (td - 1) := by
  obtain ⟨⟨s1, s2⟩, s3, s4⟩ := hs
  obtain ⟨e1, e2⟩ := bs_sh (B := B) (c := c) (n := n) (o := o) ht
  refine ⟨by omega, by omega, ?_⟩
  rw [e1, s4, show (16 - (td - 1)).toNat = (16 - td).toNat + 1 by omega, Int.pow_succ, ← Int.mul_assoc]
  generalize Xd B i * 2 ^ (16 - td).toNat = y
  omega
theorem IN_s {B : Nat → Int} {src : Int → Int} {L c p : Int} {i : Nat} (hB : BSR B src L) (hN : NFQ src L) (hi : 1 ≤ i) (hp : PLQ src L i p) : ∃ p2 : Int, inS src L c p = (c + B (i + 1) * 2 ^ (16 - (rN B i : Int)).toNat, (rN B i : Int), p2) ∧ PLQ src L (i + 1) p2 := by
  obtain ⟨h0, hp⟩ := hp
  obtain ⟨k, rfl⟩ : ∃ k : Nat, i = k + 1 := ⟨i - 1, by omega⟩
  have b1 := hB k
  have b2 := hB (k + 1)
  rcases hp with hp | ⟨q1, q2, q3⟩
  · have pk : p = (k : Int) := by omega
    subst pk
    rw [show ((k + 1 : Nat) : Int) = (k : Int) + 1 by omega] at b2
    by_cases f : byS src L (k : Int) = 255
    · by_cases g : 143 < byS src L ((k : Int) + 1)
      · have hl : L ≤ (k : Int) + 1 := by
          rcases hN _ h0 f with q | q
          · omega
          · exact q
        have r : rN B (k + 1) = 8 := by
          unfold rN
          rw [if_neg (fun q => by have := q.2; omega)]
        refine ⟨(k : Int), ?_, h0, Or.inr ⟨by omega, hl, f⟩⟩
        unfold inS
        rw [if_pos f, if_pos g, r, b2, byS_b hl, show (2 : Int) ^ (16 - ((8 : Nat) : Int)).toNat = 256 by decide]
        rfl
      · have r : rN B (k + 1) = 7 := by
          unfold rN
          rw [if_pos ⟨by rw [b1]; exact f, by omega⟩]
        refine ⟨(k : Int) + 1, ?_, by omega, Or.inl (by omega)⟩
        unfold inS
        rw [if_pos f, if_neg g, r, b2, show (2 : Int) ^ (16 - ((7 : Nat) : Int)).toNat = 512 by decide]
        rfl
    · have r : rN B (k + 1) = 8 := by
        unfold rN
        rw [if_neg (fun q => f (by rw [← b1]; exact q.1))]
      refine ⟨(k : Int) + 1, ?_, by omega, Or.inl (by omega)⟩
      unfold inS
      rw [if_neg f, r, b2, show (2 : Int) ^ (16 - ((8 : Nat) : Int)).toNat = 256 by decide]
      rfl
  · have v : byS src L (p + 1) = 255 := byS_b q2
    have v2 : B (k + 1 + 1) = 255 := by rw [b2]; exact byS_b (by omega)
    have r : rN B (k + 1) = 8 := by
      unfold rN
      rw [if_neg (fun q => by have := q.2; omega)]
    refine ⟨p, ?_, h0, Or.inr ⟨by omega, q2, q3⟩⟩
    unfold inS
    rw [if_pos q3, if_pos (by omega), r, v2, show (2 : Int) ^ (16 - ((8 : Nat) : Int)).toNat = 256 by decide]
    rfl
theorem mend_sync {B : Nat → Int} {N : Int} {src : Int → Int} {L : Int} (hB : BSR B src L) (hN : NFQ src L) : ∀ (k : Nat) {a c t n X cd td p : Int} {o : Int → Int} {R : Int × Int × Int × Int × (Int → Int)} {i : Nat}, MIE_ k a c t n o R X → HQ B N R.1 R.2.1 R.2.2.1 R.2.2.2.1 R.2.2.2.2 → 1 ≤ i → SYN B c t n o i cd td → PLQ src L i p →
    (rmS fxM src L k a cd td p).1 = R.1 ∧ ∃ i2 : Nat, 1 ≤ i2 ∧ SYN B R.2.1 R.2.2.1 R.2.2.2.1 R.2.2.2.2 i2 (rmS fxM src L k a cd td p).2.1 (rmS fxM src L k a cd td p).2.2.1 ∧ PLQ src L i2 (rmS fxM src L k a cd td p).2.2.2
  | 0, a, c, t, n, X, cd, td, p, o, R, i, h, hR, hi, hs, hp => by
    have e : (a, c, t, n, o) = R := h.1
    rw [← e]
    exact ⟨rfl, i, hi, hs, hp⟩
  | k + 1, a, c, t, n, X, cd, td, p, o, R, i, h, hR, hi, hs, hp => by
    by_cases q : 32768 ≤ a
    · have e := MI_done h q
      have e2 : rmS fxM src L (k + 1) a cd td p = (a, cd, td, p) := by
        unfold rmS
        rw [if_pos q]
      rw [e2, ← e]
      exact ⟨rfl, i, hi, hs, hp⟩
    · have hm := h.2.2.2
      obtain ⟨m1, m2, m3, m4, m5, m6, m7, m8, m9⟩ := hm
      -- the reader's step
      have key : ∃ (cd2 td2 p2 : Int) (i2 : Nat), rmS fxM src L (k + 1) a cd td p = rmS fxM src L k (2 * a) cd2 td2 p2 ∧ 1 ≤ i2 ∧ SYN B (2 * c) (t - 1) n o i2 cd2 td2 ∧ PLQ src L i2 p2 := by
        by_cases z : td = 0
        · subst z
          obtain ⟨p2, g1, g2⟩ := IN_s (c := cd) hB hN hi hp
          have g3 := SYN_in hs
          have r := rN_r B i
          refine ⟨_, _, p2, i + 1, ?_, by omega, SYN_sh ⟨m4, by omega⟩ (by omega) g3, g2⟩
          conv => lhs; unfold rmS; rw [if_neg q, if_pos rfl, g1]
          rfl
        · refine ⟨_, _, p, i, ?_, hi, SYN_sh ⟨m4, by omega⟩ (by have := hs.1; omega) hs, hp⟩
          conv => lhs; unfold rmS; rw [if_neg q, if_neg z]
          rfl
      obtain ⟨cd2, td2, p2, i2, k1, k2, k3, k4⟩ := key
      rw [k1]
      by_cases z : t - 1 = 0
      · have h2 := MI_out h (by omega) z
        have g := mend_back k h2 hR
        have t1 : t = 1 := by omega
        subst t1
        have e := p24_s (t := 1) (by omega)
        rw [show p24 (1 - 1) = 16777216 by decide] at e
        have u := HQ_out m7 (by omega) (by omega) (by omega) ⟨m8, m9⟩ g
        refine mend_sync hB hN k h2 hR k2 ?_ k4
        obtain ⟨s1, s2, s3⟩ := k3
        refine ⟨s1, ?_, ?_⟩
        · rw [u.2.2]
          exact s2
        · rw [u.2.1]
          exact s3
      · exact mend_sync hB hN k (MI_next h (by omega) z) hR k2 k3 k4

theorem HQ_shn {B : Nat → Int} {N n : Int} {o : Int → Int} : ∀ (k : Nat) {a c t : Int}, (k : Int) ≤ t → t ≤ 27 → HQ B N (a * 2 ^ k) (c * 2 ^ k) (t - (k : Int)) n o → HQ B N a c t n o
  | 0, a, c, t, _, _, h => by
    rw [show (2 : Int) ^ 0 = 1 from rfl, Int.mul_one, Int.mul_one, show t - ((0 : Nat) : Int) = t by omega] at h
    exact h
  | k + 1, a, c, t, hk, ht, h => by
    refine HQ_sh ⟨by omega, ht⟩ (HQ_shn k (by omega) (by omega) ?_)
    rw [Int.pow_succ, Int.mul_comm (2 ^ k) 2, ← Int.mul_assoc, ← Int.mul_assoc, Int.mul_comm a 2, Int.mul_comm c 2, show t - ((k + 1 : Nat) : Int) = t - 1 - (k : Int) by omega] at h
    exact h
/-- the bytes of the end, and what stands behind them -/
def finB (n : Int) (o : Int → Int) : Nat → Int := fun i => if (i : Int) < n then o (i : Int) else 255
theorem finB_v {n : Int} {o : Int → Int} (hn : 1 ≤ n) : ∀ i : Nat, PB (finB n o) ((n - 1).toNat + i) = PB (finB n o) (n - 1).toNat + 8 * i ∧ Xd (finB n o) ((n - 1).toNat + i) + 1 = (Xd (finB n o) (n - 1).toNat + 1) * 2 ^ (8 * i)
  | 0 => ⟨rfl, by rw [Nat.mul_zero, show (2 : Int) ^ 0 = 1 from rfl, Int.mul_one]; rfl⟩
  | i + 1 => by
    obtain ⟨h1, h2⟩ := finB_v hn i
    have b1 : finB n o ((n - 1).toNat + i + 1) = 255 := if_neg (by omega)
    have r : rN (finB n o) ((n - 1).toNat + i) = 8 := by
      unfold rN
      rw [if_neg (fun q => by have := q.2; rw [b1] at this; omega)]
    refine ⟨?_, ?_⟩
    · show PB (finB n o) ((n - 1).toNat + i) + rN (finB n o) ((n - 1).toNat + i) = _
      rw [h1, r]
      omega
    · show Xd (finB n o) ((n - 1).toNat + i) * 2 ^ rN (finB n o) ((n - 1).toNat + i) + finB n o ((n - 1).toNat + i + 1) + 1 = _
      rw [r, b1, show 8 * (i + 1) = 8 * i + 8 by omega, p2a, ← Int.mul_assoc, ← h2, show (2 : Int) ^ 8 = 256 by decide]
      omega
theorem HQ_fin {a c t n : Int} {o : Int → Int} (hn : 1 ≤ n) (hc : 0 ≤ c ∧ c < 2 ^ (27 - t).toNat) (hca : 2 ^ (27 - t).toNat ≤ c + a) (ha : 1 ≤ a) : HQ (finB n o) n a c t n o := by
  have bm : finB n o (n - 1).toNat = o (n - 1) := by
    unfold finB
    rw [show (((n - 1).toNat : Nat) : Int) = n - 1 by omega, if_pos (by omega)]
  have bE : bsE (finB n o) c t n o = Xd (finB n o) (n - 1).toNat * 2 ^ (27 - t).toNat + c := by
    unfold bsE
    rw [bm, Int.sub_add_cancel]
  refine ⟨fun i hi => ?_, Or.inl bm.symm, fun i hi _ => Or.inr (by omega), fun j hj => ?_⟩
  · unfold finB
    rw [if_pos (by omega)]
  · obtain ⟨i, rfl⟩ : ∃ i : Nat, j = (n - 1).toNat + i := ⟨j - (n - 1).toNat, by omega⟩
    obtain ⟨v1, v2⟩ := finB_v (o := o) hn i
    rw [bE]
    unfold shE
    generalize finB n o = B at v1 v2 ⊢
    generalize (n - 1).toNat = m at v1 v2 ⊢
    generalize (27 - t).toNat = w at hc hca ⊢
    generalize Xd B m = X at v2 ⊢
    by_cases i0 : i = 0
    · subst i0
      rw [Nat.add_zero]
      refine WIT_now (by omega) ha ?_ ?_
      · rw [Nat.add_sub_cancel_left]
        rw [Nat.mul_zero, show (2 : Int) ^ 0 = 1 from rfl, Int.mul_one, Nat.add_zero] at v2
        have : Xd B m = X := by omega
        rw [this]
        omega
      · rw [Nat.add_sub_cancel_left]
        rw [Nat.mul_zero, show (2 : Int) ^ 0 = 1 from rfl, Int.mul_one, Nat.add_zero] at v2
        rw [v2, Int.add_mul, Int.one_mul]
        omega
    · have pw := p2_1 w
      have p8 := p2_1 (8 * i)
      have e1 : (X + 1) * 2 ^ (8 * i) * 2 ^ w = (X + 1) * 2 ^ w * 2 ^ (8 * i) := by rw [Int.mul_assoc, Int.mul_comm (2 ^ (8 * i)), ← Int.mul_assoc]
      have k1 := mul_lr (x := X * 2 ^ w + c + 1) (y := (X + 1) * 2 ^ w) (8 * i) (by rw [Int.add_mul, Int.one_mul]; omega)
      have k2 := mul_lr (x := (X + 1) * 2 ^ w) (y := X * 2 ^ w + c + a) (8 * i) (by rw [Int.add_mul, Int.one_mul]; omega)
      rw [Int.add_mul (X * 2 ^ w + c) 1, Int.one_mul] at k1
      refine ⟨(X + 1) * 2 ^ w * 2 ^ (8 * i) - 1, PB B m + w + 8 * i, by omega, by omega, ?_, ?_, ?_, ?_⟩
      · rw [v1, show PB B m + w + 8 * i - (PB B m + 8 * i) = w by omega, ← e1, ← v2, Int.add_mul, Int.one_mul]
        omega
      · rw [v1, show PB B m + w + 8 * i - (PB B m + 8 * i) = w by omega, ← e1, ← v2]
        omega
      · rw [Nat.add_sub_cancel_left]
        omega
      · rw [Nat.add_sub_cancel_left]
        omega
theorem outS_md {c n : Int} {o : Int → Int} (hc : 0 ≤ c ∧ c < 150994944) : (outS c n o).2.2.1 = n + 1 ∧ (((outS c n o).2.1 = 7 ∧ (outS c n o).1 = c % 1048576) ∨ ((outS c n o).2.1 = 8 ∧ (outS c n o).1 = c % 524288)) := by
  by_cases h1 : o (n - 1) = 255
  · rw [outS_1 h1]
    exact ⟨rfl, Or.inl ⟨rfl, rfl⟩⟩
  · by_cases h2 : c < 134217728
    · rw [outS_2 h1 h2]
      exact ⟨rfl, Or.inr ⟨rfl, rfl⟩⟩
    · by_cases h3 : o (n - 1) + 1 = 255
      · rw [outS_3 h1 (by omega) h3]
        exact ⟨rfl, Or.inl ⟨rfl, by show (c - 134217728) % 1048576 = c % 1048576; omega⟩⟩
      · rw [outS_4 h1 (by omega) h3]
        exact ⟨rfl, Or.inr ⟨rfl, rfl⟩⟩
theorem endC_b {a c : Int} (hc : 0 ≤ c) (ha : 32768 ≤ a) : c ≤ endC a c ∧ endC a c + 1 ≤ c + a ∧ endC a c % 32768 = 32767 := by
  unfold endC
  split <;> omega
theorem p24_p {t : Int} (h : 0 ≤ t ∧ t ≤ 24) : p24 t * 2 ^ t.toNat = 16777216 := by
  unfold p24
  rw [← p2a, show (24 - t).toNat + t.toNat = 24 by omega]
  decide
/-- the low end of what is left out -/
theorem END_r {e t c1 t1 c2 t2 : Int} (he : e % 32768 = 32767) (ht : 1 ≤ t ∧ t ≤ 12) (h1 : (t1 = 7 ∧ c1 = e * 2 ^ t.toNat % 1048576) ∨ (t1 = 8 ∧ c1 = e * 2 ^ t.toNat % 524288)) (h2 : (t2 = 7 ∧ c2 = c1 * 2 ^ t1.toNat % 1048576) ∨ (t2 = 8 ∧ c2 = c1 * 2 ^ t1.toNat % 524288)) : (2 : Int) ^ (27 - t2).toNat ≤ c2 + 2 ^ t.toNat * 2 ^ t1.toNat ∧ 0 ≤ c2 ∧ c2 < 2 ^ (27 - t2).toNat := by
  have w20 : (2 : Int) ^ (27 - (7 : Int)).toNat = 1048576 := by decide
  have w19 : (2 : Int) ^ (27 - (8 : Int)).toNat = 524288 := by decide
  have w7 : (2 : Int) ^ (7 : Int).toNat = 128 := by decide
  have w8 : (2 : Int) ^ (8 : Int).toNat = 256 := by decide
  rcases (show t = 1 ∨ t = 2 ∨ t = 3 ∨ t = 4 ∨ t = 5 ∨ t = 6 ∨ t = 7 ∨ t = 8 ∨ t = 9 ∨ t = 10 ∨ t = 11 ∨ t = 12 by omega) with rfl | rfl | rfl | rfl | rfl | rfl | rfl | rfl | rfl | rfl | rfl | rfl
  all_goals
    rcases h1 with ⟨rfl, h1⟩ | ⟨rfl, h1⟩ <;> rcases h2 with ⟨rfl, h2⟩ | ⟨rfl, h2⟩
  all_goals
    first | rw [w7] at h2 ⊢ | rw [w8] at h2 ⊢
  all_goals
    first | rw [w20] | rw [w19]
  all_goals
    simp only [show (2 : Int) ^ (1 : Int).toNat = 2 from rfl, show (2 : Int) ^ (2 : Int).toNat = 4 from rfl, show (2 : Int) ^ (3 : Int).toNat = 8 from rfl, show (2 : Int) ^ (4 : Int).toNat = 16 from rfl, show (2 : Int) ^ (5 : Int).toNat = 32 from rfl, show (2 : Int) ^ (6 : Int).toNat = 64 from rfl, show (2 : Int) ^ (7 : Int).toNat = 128 from rfl, show (2 : Int) ^ (8 : Int).toNat = 256 from rfl, show (2 : Int) ^ (9 : Int).toNat = 512 from rfl, show (2 : Int) ^ (10 : Int).toNat = 1024 from rfl, show (2 : Int) ^ (11 : Int).toNat = 2048 from rfl, show (2 : Int) ^ (12 : Int).toNat = 4096 from rfl] at h1 ⊢
    omega
theorem HQ_end {a c t n : Int} {o : Int → Int} (hq : MQ_ a c t n o) (ha : 32768 ≤ a) : HQ (finB (endS a c t n o).2.2.1 (endS a c t n o).2.2.2) (endS a c t n o).2.2.1 a c t n o := by
  have hr := endC_r hq ha
  have hb := endC_b hq.2.2.1 ha
  obtain ⟨m1, m2, m3, m4, m5, m6, m7, m8, m9⟩ := hq
  have o1 := outS_r (c := endC a c * 2 ^ t.toNat) (n := n) (o := o) hr.2.2 ⟨m8, m9⟩
  have d1 := outS_md (c := endC a c * 2 ^ t.toNat) (n := n) (o := o) hr.2.2
  have cb : (endC a c + 1) * 2 ^ t.toNat ≤ 150994944 := by
    have k := mul_lr t.toNat (show endC a c + 1 ≤ 9 * p24 t by omega)
    rw [Int.mul_assoc, p24_p ⟨by omega, by omega⟩] at k
    omega
  rw [Int.add_mul, Int.one_mul] at cb
  unfold endS
  generalize hO : outS (endC a c * 2 ^ t.toNat) n o = O at o1 d1
  obtain ⟨c1, t1, n1, p1⟩ := O
  dsimp only at o1 d1 ⊢
  obtain ⟨o11, o12, o13⟩ := o1
  have t17 : t1 = 7 ∨ t1 = 8 := by rcases o12 with ⟨q, -⟩ | ⟨q, -⟩ <;> omega
  have cc : 0 ≤ c1 ∧ (c1 + 1) * 2 ^ t1.toNat ≤ 134217728 := by
    rcases o12 with ⟨q, q1, q2⟩ | ⟨q, q1, q2⟩
    · rw [q, show (2 : Int) ^ (7 : Int).toNat = 128 by decide]
      omega
    · rw [q, show (2 : Int) ^ (8 : Int).toNat = 256 by decide]
      omega
  have pt1 := p2_1 t1.toNat
  have c1p : 0 ≤ c1 * 2 ^ t1.toNat := Int.mul_nonneg cc.1 (by omega)
  have cc2 := cc.2
  rw [Int.add_mul, Int.one_mul] at cc2
  have d2 := outS_md (c := c1 * 2 ^ t1.toNat) (n := n1) (o := p1) ⟨c1p, by omega⟩
  have er := END_r hb.2.2 ⟨m4, m5⟩ d1.2 d2.2
  have aa : 1 ≤ (2 : Int) ^ t.toNat * 2 ^ t1.toNat := by
    rw [← p2a]
    exact p2_1 _
  have ab : (2 : Int) ^ t.toNat * 2 ^ t1.toNat ≤ 1048576 := by
    have := p2_le (show t + t1 ≤ 20 by omega)
    rw [show (t + t1).toNat = t.toNat + t1.toNat by omega, p2a, show (2 : Int) ^ (20 : Int).toNat = 1048576 by decide] at this
    exact this
  have F := HQ_fin (o := (outS (c1 * 2 ^ t1.toNat) n1 p1).2.2.2) (n := (outS (c1 * 2 ^ t1.toNat) n1 p1).2.2.1) (by rw [d2.1]; omega) ⟨er.2.1, er.2.2⟩ er.1 aa
  have G := (HQ_out (by omega) aa c1p (by omega) (by rw [o11, show n + 1 - 1 = n by omega]; exact o13) F).1
  have G1 := HQ_shn t1.toNat (a := 2 ^ t.toNat) (c := c1) (t := t1) (by omega) (by omega) (by rw [show t1 - ((t1.toNat : Nat) : Int) = 0 by omega]; exact G)
  have hO2 : (outS (endC a c * 2 ^ t.toNat) n o).1 = c1 ∧ (outS (endC a c * 2 ^ t.toNat) n o).2.1 = t1 ∧ (outS (endC a c * 2 ^ t.toNat) n o).2.2.1 = n1 ∧ (outS (endC a c * 2 ^ t.toNat) n o).2.2.2 = p1 := by
    rw [hO]
    exact ⟨rfl, rfl, rfl, rfl⟩
  have G2 := (HQ_out (c := endC a c * 2 ^ t.toNat) (n := n) (o := o) m7 (p2_1 t.toNat) hr.2.2.1 (by omega) ⟨m8, m9⟩ (by rw [hO2.1, hO2.2.1, hO2.2.2.1, hO2.2.2.2]; exact G1)).1
  have G3 := HQ_shn t.toNat (a := 1) (c := endC a c) (t := t) (by omega) (by omega) (by rw [show t - ((t.toNat : Nat) : Int) = 0 by omega, Int.one_mul]; exact G2)
  exact HQ_sub G3 hb.1 hb.2.1
theorem mend_back {B : Nat → Int} {N : Int} : ∀ (k : Nat) {a c t n X : Int} {o : Int → Int} {R : Int × Int × Int × Int × (Int → Int)}, MIE_ k a c t n o R X → HQ B N R.1 R.2.1 R.2.2.1 R.2.2.2.1 R.2.2.2.2 → HQ B N a c t n o
  | 0, a, c, t, n, X, o, R, h, hR => by
    have e := h.1
    rw [← e] at hR
    exact hR
  | k + 1, a, c, t, n, X, o, R, h, hR => by
    by_cases q : 32768 ≤ a
    · have e := MI_done h q
      rw [← e] at hR
      exact hR
    · have hm := h.2.2.2
      obtain ⟨m1, m2, m3, m4, m5, m6, m7, m8, m9⟩ := hm
      by_cases z : t - 1 = 0
      · have g := mend_back k (MI_out h (by omega) z) hR
        have t1 : t = 1 := by omega
        subst t1
        have e := p24_s (t := 1) (by omega)
        rw [show p24 (1 - 1) = 16777216 by decide] at e
        have u := (HQ_out m7 (by omega) (by omega) (by omega) ⟨m8, m9⟩ g).1
        exact HQ_sh (by omega) u
      · exact HQ_sh (by omega) (mend_back k (MI_next h (by omega) z) hR)

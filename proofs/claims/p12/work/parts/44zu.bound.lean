/-! a part of a word: the reader's C stays below A -/
def PH2 (L a cd td p : Int) : Prop := (0 ≤ cd ∧ cd < a * 65536) ∧ (0 ≤ td ∧ td ≤ 8) ∧ (0 ≤ p ∧ L ≤ p + 1) ∧ ∃ m : Int, cd = m * 2 ^ (16 - td).toNat
theorem inS_2 {src : Int → Int} {L c p : Int} (h : 0 ≤ p ∧ L ≤ p + 1) : ∃ p2 : Int, inS src L c p = (c + 65280, 8, p2) ∧ 0 ≤ p2 ∧ L ≤ p2 + 1 := by
  have v : byS src L (p + 1) = 255 := byS_b h.2
  by_cases f : byS src L p = 255
  · refine ⟨p, ?_, h⟩
    unfold inS
    rw [if_pos f, if_pos (by omega)]
  · refine ⟨p + 1, ?_, by omega, by omega⟩
    unfold inS
    rw [if_neg f, v]
    rfl
theorem PH2_in {L a cd p p2 : Int} (h : PH2 L a cd 0 p) (hp : 0 ≤ p2 ∧ L ≤ p2 + 1) : PH2 L (2 * a) (2 * (cd + 65280)) 7 p2 := by
  obtain ⟨h1, h2, h3, m, h4⟩ := h
  rw [show (2 : Int) ^ (16 - (0 : Int)).toNat = 65536 by decide] at h4
  refine ⟨by omega, by omega, hp, m * 256 + 255, ?_⟩
  rw [show (2 : Int) ^ (16 - (7 : Int)).toNat = 512 by decide]
  omega
theorem PH2_sh {L a cd td p : Int} (h : PH2 L a cd td p) (ht : 1 ≤ td) : PH2 L (2 * a) (2 * cd) (td - 1) p := by
  obtain ⟨h1, h2, h3, m, h4⟩ := h
  refine ⟨by omega, by omega, h3, m, ?_⟩
  rw [show (16 - (td - 1)).toNat = (16 - td).toNat + 1 by omega, Int.pow_succ, ← Int.mul_assoc, ← h4]
  omega
theorem rm_ph2 {src : Int → Int} {L : Int} : ∀ (k : Nat) {a cd td p : Int}, 1 ≤ a → a ≤ 65535 → 32768 ≤ a * 2 ^ k → PH2 L a cd td p →
    (32768 ≤ (rmS fxM src L k a cd td p).1 ∧ (rmS fxM src L k a cd td p).1 ≤ 65535) ∧ PH2 L (rmS fxM src L k a cd td p).1 (rmS fxM src L k a cd td p).2.1 (rmS fxM src L k a cd td p).2.2.1 (rmS fxM src L k a cd td p).2.2.2
  | 0, a, cd, td, p, h1, h2, h3, h => by
    rw [show (2 : Int) ^ 0 = 1 from rfl] at h3
    exact ⟨⟨by show 32768 ≤ a; omega, h2⟩, h⟩
  | k + 1, a, cd, td, p, h1, h2, h3, h => by
    by_cases q : 32768 ≤ a
    · have e : rmS fxM src L (k + 1) a cd td p = (a, cd, td, p) := by
        unfold rmS
        rw [if_pos q]
      rw [e]
      exact ⟨⟨q, h2⟩, h⟩
    · have h4 : 32768 ≤ 2 * a * 2 ^ k := by
        rw [Int.pow_succ] at h3
        rw [Int.mul_comm 2 a, Int.mul_assoc, Int.mul_comm 2 (2 ^ k)]
        exact h3
      by_cases z : td = 0
      · subst z
        obtain ⟨p2, g1, g2⟩ := inS_2 (src := src) (c := cd) h.2.2.1
        have e : rmS fxM src L (k + 1) a cd 0 p = rmS fxM src L k (2 * a) (2 * (cd + 65280)) 7 p2 := by
          conv => lhs; unfold rmS; rw [if_neg q, if_pos rfl, g1]
          rfl
        rw [e]
        exact rm_ph2 k (by omega) (by omega) h4 (PH2_in h g2)
      · have e : rmS fxM src L (k + 1) a cd td p = rmS fxM src L k (2 * a) (2 * cd) (td - 1) p := by
          conv => lhs; unfold rmS; rw [if_neg q, if_neg z]
          rfl
        rw [e]
        exact rm_ph2 k (by omega) (by omega) h4 (PH2_sh h (by have := h.2.1; omega))
def PHD (L : Int) (D : DS_) : Prop := (32768 ≤ D.1 ∧ D.1 ≤ 65535) ∧ PH2 L D.1 D.2.1 D.2.2.1 D.2.2.2.1 ∧ STR D.2.2.2.2.1
theorem lrS_r {st : Int → Int} {x : Int} {P : Prop} [Decidable P] (h : STR st) (hx : 0 ≤ x ∧ x ≤ 18) : STR (lrS st x P) := by
  intro j h1 h2
  have tq := tab_r (h x hx.1 (by omega))
  unfold lrS
  by_cases m : j = x
  · rw [m, fup_eq]
    split
    · exact tq.2.2
    · exact tq.2.1
  · rw [fup_ne _ _ m]
    exact h j h1 h2
theorem rd_ph2 {src : Int → Int} {L x : Int} {D : DS_} (h : PHD L D) (hx : 0 ≤ x ∧ x ≤ 18) : PHD L (rdS lwC fxM src L D x).2 := by
  obtain ⟨a, cd, td, p, sd, ld⟩ := D
  obtain ⟨ha, h2, hst⟩ := h
  dsimp only at ha h2 hst
  have tq := (tab_r (hst x hx.1 (by omega))).1
  have lw : lwC cd = cd / 65536 := rfl
  have sub : qS (sd x) * 65536 ≤ cd → PH2 L (a - qS (sd x)) (cd - 65536 * qS (sd x)) td p := by
    intro g
    obtain ⟨h1, h3, h4, m, h5⟩ := h2
    have pp : (2 : Int) ^ td.toNat * 2 ^ (16 - td).toNat = 65536 := by
      rw [← p2a, show td.toNat + (16 - td).toNat = 16 by omega]
      decide
    refine ⟨by omega, h3, h4, m - qS (sd x) * 2 ^ td.toNat, ?_⟩
    rw [Int.sub_mul, ← h5, Int.mul_assoc, pp]
    omega
  by_cases h0 : ¬ lwC cd < qS (sd x) ∧ 32768 ≤ a - qS (sd x)
  · rw [rdS_1 h0]
    exact ⟨⟨h0.2, by show a - qS (sd x) ≤ 65535; omega⟩, sub (by omega), hst⟩
  · rw [rdS_m (P := (lwC cd < qS (sd x) ↔ ¬ a - qS (sd x) < qS (sd x))) h0 rfl rfl Iff.rfl rfl]
    have key : ∃ a2 c2 : Int, (if lwC cd < qS (sd x) then qS (sd x) else a - qS (sd x)) = a2 ∧ (if lwC cd < qS (sd x) then cd else cd - 65536 * qS (sd x)) = c2 ∧ 1 ≤ a2 ∧ a2 ≤ 65535 ∧ PH2 L a2 c2 td p := by
      by_cases g : lwC cd < qS (sd x)
      · rw [if_pos g, if_pos g]
        exact ⟨_, _, rfl, rfl, by omega, by omega, by have := h2.1; omega, h2.2⟩
      · rw [if_neg g, if_neg g]
        exact ⟨_, _, rfl, rfl, by omega, by omega, sub (by omega)⟩
    obtain ⟨a2, c2, e1, e2, e3, e4, e5⟩ := key
    rw [e1, e2]
    have r := rm_ph2 (src := src) 15 e3 e4 (by rw [show (2 : Int) ^ 15 = 32768 by decide]; omega) e5
    exact ⟨r.1, r.2, lrS_r hst hx⟩
theorem byS_e {src : Int → Int} {L M k : Int} (h1 : k < M) (h2 : M ≤ L) : byS src M k = byS src L k := by
  unfold byS
  rw [if_pos h1, if_pos (by omega)]
theorem mend_tr {B : Nat → Int} {N : Int} {src : Int → Int} {L M : Int} (hB : BSR B src L) (hN : NFQ src L) (hM : M ≤ L) : ∀ (k : Nat) {a c t n X cd td p : Int} {o : Int → Int} {R : Int × Int × Int × Int × (Int → Int)} {i : Nat}, MIE_ k a c t n o R X → HQ B N R.1 R.2.1 R.2.2.1 R.2.2.2.1 R.2.2.2.2 → 1 ≤ i → SYN B c t n o i cd td → (0 ≤ p ∧ (i : Int) = p + 1) → (i : Int) ≤ M →
    ((rmS fxM src M k a cd td p).1 = R.1 ∧ ∃ i2 : Nat, 1 ≤ i2 ∧ SYN B R.2.1 R.2.2.1 R.2.2.2.1 R.2.2.2.2 i2 (rmS fxM src M k a cd td p).2.1 (rmS fxM src M k a cd td p).2.2.1 ∧ (0 ≤ (rmS fxM src M k a cd td p).2.2.2 ∧ (i2 : Int) = (rmS fxM src M k a cd td p).2.2.2 + 1) ∧ (i2 : Int) ≤ M) ∨
    ((32768 ≤ (rmS fxM src M k a cd td p).1 ∧ (rmS fxM src M k a cd td p).1 ≤ 65535) ∧ PH2 M (rmS fxM src M k a cd td p).1 (rmS fxM src M k a cd td p).2.1 (rmS fxM src M k a cd td p).2.2.1 (rmS fxM src M k a cd td p).2.2.2)
  | 0, a, c, t, n, X, cd, td, p, o, R, i, h, hR, hi, hs, hp, hm => by
    have e : (a, c, t, n, o) = R := h.1
    rw [← e]
    exact Or.inl ⟨rfl, i, hi, hs, hp, hm⟩
  | k + 1, a, c, t, n, X, cd, td, p, o, R, i, h, hR, hi, hs, hp, hm => by
    by_cases q : 32768 ≤ a
    · have e := MI_done h q
      have e2 : rmS fxM src M (k + 1) a cd td p = (a, cd, td, p) := by
        unfold rmS
        rw [if_pos q]
      rw [e2, ← e]
      exact Or.inl ⟨rfl, i, hi, hs, hp, hm⟩
    · have hmm := h.2.2.2
      obtain ⟨m1, m2, m3, m4, m5, m6, m7, m8, m9⟩ := hmm
      have key : (∃ (cd2 td2 p2 : Int) (i2 : Nat), rmS fxM src M (k + 1) a cd td p = rmS fxM src M k (2 * a) cd2 td2 p2 ∧ 1 ≤ i2 ∧ SYN B (2 * c) (t - 1) n o i2 cd2 td2 ∧ (0 ≤ p2 ∧ (i2 : Int) = p2 + 1) ∧ (i2 : Int) ≤ M) ∨ (∃ (cd2 p2 : Int), rmS fxM src M (k + 1) a cd td p = rmS fxM src M k (2 * a) cd2 7 p2 ∧ PH2 M (2 * a) cd2 7 p2) := by
        by_cases z : td = 0
        · subst z
          by_cases im : (i : Int) < M
          · obtain ⟨p2, g1, g2⟩ := IN_s (c := cd) hB hN hi ⟨hp.1, Or.inl hp.2⟩
            have g0 : inS src M cd p = inS src L cd p := by
              unfold inS
              rw [byS_e (by omega) hM, byS_e (by omega) hM]
            have g3 := SYN_in hs
            have r := rN_r B i
            have pp : (i + 1 : Int) = p2 + 1 := by
              rcases g2.2 with u | ⟨u1, u2, u3⟩
              · omega
              · exfalso
                have w : p2 = p ∨ p2 = p + 1 := by
                  have := congrArg (fun u => u.2.2) g1
                  dsimp only at this
                  rw [← this]
                  unfold inS
                  (repeat' split)
                  · exact Or.inl rfl
                  · exact Or.inr rfl
                  · exact Or.inr rfl
                omega
            refine Or.inl ⟨_, _, p2, i + 1, ?_, by omega, SYN_sh ⟨m4, by omega⟩ (by omega) g3, ⟨g2.1, by omega⟩, by omega⟩
            conv => lhs; unfold rmS; rw [if_neg q, if_pos rfl, g0, g1]
            rfl
          · have hb := mend_back (k + 1) h hR
            have d := DEC hs ⟨m4, m5⟩ m7 hb
            obtain ⟨p2, g1, g2⟩ := inS_2 (src := src) (L := M) (c := cd) (p := p) ⟨hp.1, by omega⟩
            refine Or.inr ⟨2 * (cd + 65280), p2, ?_, PH2_in ⟨by omega, by omega, ⟨hp.1, by omega⟩, Xd B i - bsE B c t n o, ?_⟩ g2⟩
            · conv => lhs; unfold rmS; rw [if_neg q, if_pos rfl, g1]
              rfl
            · rw [hs.2.2, show (2 : Int) ^ (16 - (0 : Int)).toNat = 65536 by decide, Int.sub_mul]
        · refine Or.inl ⟨_, _, p, i, ?_, hi, SYN_sh ⟨m4, by omega⟩ (by have := hs.1; omega) hs, hp, hm⟩
          conv => lhs; unfold rmS; rw [if_neg q, if_neg z]
          rfl
      rcases key with ⟨cd2, td2, p2, i2, k1, k2, k3, k4, k5⟩ | ⟨cd2, p2, k1, k2⟩
      · rw [k1]
        by_cases z : t - 1 = 0
        · have h2 := MI_out h (by omega) z
          have g := mend_back k h2 hR
          have t1 : t = 1 := by omega
          subst t1
          have e := p24_s (t := 1) (by omega)
          rw [show p24 (1 - 1) = 16777216 by decide] at e
          have u := HQ_out m7 (by omega) (by omega) (by omega) ⟨m8, m9⟩ g
          refine mend_tr hB hN hM k h2 hR k2 ?_ k4 k5
          obtain ⟨s1, s2, s3⟩ := k3
          refine ⟨s1, ?_, ?_⟩
          · rw [u.2.2]
            exact s2
          · rw [u.2.1]
            exact s3
        · exact mend_tr hB hN hM k (MI_next h (by omega) z) hR k2 k3 k4 k5
      · rw [k1]
        refine Or.inr (rm_ph2 k (by omega) (by omega) ?_ k2)
        have := h.2.1
        rw [Int.pow_succ] at this
        rw [Int.mul_comm 2 a, Int.mul_assoc, Int.mul_comm 2 (2 ^ k)]
        exact this
def SYT (B : Nat → Int) (M : Int) (E : ES_) (D : DS_) : Prop := D.1 = E.1 ∧ (∃ i : Nat, 1 ≤ i ∧ SYN B E.2.1 E.2.2.1 E.2.2.2.1 E.2.2.2.2.2.2 i D.2.1 D.2.2.1 ∧ (0 ≤ D.2.2.2.1 ∧ (i : Int) = D.2.2.2.1 + 1) ∧ (i : Int) ≤ M) ∧ AGR 19 D.2.2.2.2.1 E.2.2.2.2.1 ∧ AGR 19 D.2.2.2.2.2 E.2.2.2.2.2.1
theorem STR_a {sd st : Int → Int} (h : AGR 19 sd st) (hs : STR st) : STR sd := fun j h1 h2 => by rw [h j h1 h2]; exact hs j h1 h2
theorem tr_step {B : Nat → Int} {src : Int → Int} {N L M x b : Int} {E : ES_} {D : DS_} (hB : BSR B src L) (hN : NFQ src L) (hM : M ≤ L) (hE : MQE E) (hlk : LK01 E.2.2.2.2.2.1) (hx : 0 ≤ x ∧ x ≤ 18) (hb : 0 ≤ b ∧ b ≤ 1) (hs : SYT B M E D ∨ PHD M D) (hf : HQE B N (tellS E x b)) :
    SYT B M (tellS E x b) (rdS lwC fxM src M D x).2 ∨ PHD M (rdS lwC fxM src M D x).2 := by
  rcases hs with hs | hs
  · obtain ⟨a, c, t, n, st, lk, o⟩ := E
    obtain ⟨ad, cd, td, p, sd, ld⟩ := D
    obtain ⟨ea, ⟨i, hi, hsy, hpl, hm⟩, est, elk⟩ := hs
    obtain ⟨hq, ha, hst⟩ := hE
    dsimp only at ea hi hsy hpl hm est elk hq ha hst hlk
    subst ea
    have es : sd x = st x := est x hx.1 (by omega)
    have el : ld x = lk x := elk x hx.1 (by omega)
    rcases rd_dec (p := p) (sd := sd) (ld := ld) src M hq ha (hst x hx.1 (by omega)) (hlk x hx.1 (by omega)) hb hsy es el hf with ⟨e1, e2, e3⟩ | ⟨a2, c2, cd2, e1, e2, e3, e4, e5⟩
    · rw [e1, e2]
      exact Or.inl ⟨rfl, ⟨i, hi, e3, hpl, hm⟩, est, elk⟩
    · rw [e1] at hf
      rw [e1, e2]
      have g := AGR_lr (P := b ≠ lk x) es el est elk
      rcases mend_tr hB hN hM 15 e3 hf hi e5 hpl hm with ⟨m1, i2, m2, m3, m4, m5⟩ | ⟨m1, m2⟩
      · exact Or.inl ⟨m1, ⟨i2, m2, m3, m4, m5⟩, g.1, g.2⟩
      · exact Or.inr ⟨m1, m2, lrS_r (STR_a est hst) hx⟩
  · exact Or.inr (rd_ph2 hs hx)
theorem tr_0 {B : Nat → Int} {N M : Int} {E : ES_} {D : DS_} (hE : MQE E) (hs : SYT B M E D ∨ PHD M D) (hb : HQE B N E) : D.2.1 < 1099511627776 := by
  rcases hs with hs | hs
  · obtain ⟨ea, ⟨i, hi, hsy, -, -⟩, -, -⟩ := hs
    obtain ⟨q1, q2, q3, q4, q5, q6, q7, -⟩ := hE.1
    have d := DEC hsy ⟨q4, q5⟩ q7 hb
    omega
  · have d := hs.2.1.1
    have e := hs.1
    omega
theorem tr_all {B : Nat → Int} {N : Int} {src : Int → Int} {L M : Int} (hB : BSR B src L) (hN : NFQ src L) (hM : M ≤ L) : ∀ (T : List (Int × Int)) {E : ES_} {D : DS_} {w : Int}, ETR T → MQE E → LK01 E.2.2.2.2.2.1 → (SYT B M E D ∨ PHD M D) → HQE B N (tlF T E) → BNF src M T (w, D)
  | [], E, D, w, _, hE, _, hs, hf => fun i hi => by
    rw [List.take_nil]
    exact tr_0 hE hs hf
  | z :: T, E, D, w, hT, hE, hl, hs, hf => by
    have hz := hT z (List.mem_cons_self ..)
    have hE2 := (tellS_w (b := z.2) hE hz.1).1
    have hl2 := tellS_lk (x := z.1) (b := z.2) hl
    have back : HQE B N (tellS E z.1 z.2) := HQ_back T (fun u hu => (hT u (List.mem_cons_of_mem _ hu)).1) hE2 hf
    have st := tr_step hB hN hM hE hl hz.1 hz.2 hs back
    intro i hi
    cases i with
    | zero =>
      rw [List.take_zero]
      exact tr_0 hE hs (tell_back hE hz.1 back)
    | succ i =>
      exact tr_all hB hN hM T (w := (rdW src M (w, D) z.1 z.2).1) (fun u hu => hT u (List.mem_cons_of_mem _ hu)) hE2 hl2 st hf i (by rw [List.length_cons] at hi; omega)
theorem SYT_0 {B : Nat → Int} {src : Int → Int} {L M : Int} {E : ES_} {sd ld : Int → Int} (hB : BSR B src L) (hN : NFQ src L) (hM : 0 ≤ M ∧ M ≤ L) (hs : (bgD src L sd ld).1 = E.1 ∧ SYN B E.2.1 E.2.2.1 E.2.2.2.1 E.2.2.2.2.2.2 2 (bgD src L sd ld).2.1 (bgD src L sd ld).2.2.1 ∧ PLQ src L 2 (bgD src L sd ld).2.2.2.1 ∧ AGR 19 (bgD src L sd ld).2.2.2.2.1 E.2.2.2.2.1 ∧ AGR 19 (bgD src L sd ld).2.2.2.2.2 E.2.2.2.2.2.1) (hst : ∀ j : Int, 0 ≤ j → j < 19 → sd j = st0 j) (hb : ∀ j : Int, 0 ≤ j → j < L → 0 ≤ src j ∧ src j ≤ 255) : SYT B M E (bgD src M sd ld) ∨ PHD M (bgD src M sd ld) := by
  by_cases m2 : 2 ≤ M
  · have e0 : byS src M 0 = byS src L 0 := byS_e (by omega) hM.2
    have e : bgD src M sd ld = bgD src L sd ld := by
      unfold bgD
      rw [e0]
      have : ∀ c : Int, inS src M c 0 = inS src L c 0 := fun c => by
        unfold inS
        rw [e0, byS_e (show (0 : Int) + 1 < M by omega) hM.2]
      rw [this]
    rw [e]
    obtain ⟨h1, h3, h4, h5, h6⟩ := hs
    have p1 : (bgD src L sd ld).2.2.2.1 = 1 := by
      show (inS src L (65536 * byS src L 0) 0).2.2 = 1
      have nf := hN 0 (by omega)
      unfold inS
      by_cases f : byS src L 0 = 255
      · rw [if_pos f, if_neg (by have := nf f; omega)]
        rfl
      · rw [if_neg f]
        rfl
    refine Or.inl ⟨h1, ⟨2, by omega, h3, ?_, ?_⟩, h5, h6⟩
    · rw [p1]
      omega
    · omega
  · have b0 : 0 ≤ byS src M 0 ∧ byS src M 0 ≤ 255 := byS_r (fun j j0 j1 => hb j j0 (by omega)) (Int.le_refl 0)
    obtain ⟨p2, g1, g2⟩ := inS_2 (src := src) (L := M) (c := 65536 * byS src M 0) (p := 0) ⟨by omega, by omega⟩
    refine Or.inr ?_
    unfold bgD
    rw [g1]
    refine ⟨by show (32768 : Int) ≤ 32768 ∧ (32768 : Int) ≤ 65535; omega, ⟨by show 0 ≤ (65536 * byS src M 0 + 65280) * 128 ∧ (65536 * byS src M 0 + 65280) * 128 < 32768 * 65536; omega, by show 0 ≤ (8 : Int) - 7 ∧ (8 : Int) - 7 ≤ 8; omega, g2, 256 * byS src M 0 + 255, ?_⟩, fun j j0 j1 => by show 0 ≤ sd j ∧ sd j < 47; rw [hst j j0 j1]; exact st0_r j⟩
    show (65536 * byS src M 0 + 65280) * 128 = (256 * byS src M 0 + 255) * 2 ^ (16 - ((8 : Int) - 7)).toNat
    rw [show (2 : Int) ^ (16 - ((8 : Int) - 7)).toNat = 32768 by decide]
    omega
/-- A PART OF A WORD: C stays small -/
theorem BOUND {T : List (Int × Int)} {E : ES_} {src sd ld : Int → Int} {L M w : Int} (hE : ES0 E) (hT : ETR T) (h : WRD (endE (tlF T E)) src L) (hM : 0 ≤ M ∧ M ≤ L) (hs : ∀ j : Int, 0 ≤ j → j < 19 → sd j = st0 j) (hl : ∀ j : Int, 0 ≤ j → j < 19 → ld j = 0) (hb : ∀ j : Int, 0 ≤ j → j < L → 0 ≤ src j ∧ src j ≤ 255) : BNF src M T (w, bgD src M sd ld) := by
  have hq := ES0_q hE
  have hF := (tellS_f T hq (fun z hz => (hT z hz).1)).1
  have e := HQ_end hF.1 hF.2.1
  have hend : HQE (finB (endE (tlF T E)).2.2.1 (endE (tlF T E)).2.2.2) (endE (tlF T E)).2.2.1 (tlF T E) := e
  have hbk := HQ_back T (fun z hz => (hT z hz).1) hq hend
  have hn : 3 ≤ (endE (tlF T E)).2.2.1 := by
    have k := (endS_q (a := (tlF T E).1) (c := (tlF T E).2.1) (t := (tlF T E).2.2.1) (AGR_rf (tlF T E).2.2.2.1 (tlF T E).2.2.2.2.2.2) hF.1.2.2.2.2.2.2.1).1
    have m2 : 1 ≤ (tlF T E).2.2.2.1 := hF.1.2.2.2.2.2.2.1
    unfold endE
    omega
  obtain ⟨h0, hB, hN, -⟩ := WRD_B hE hF hbk hn h
  have lk : LK01 E.2.2.2.2.2.1 := fun j j0 j1 => Or.inl (hE.2.2.2.2.2.1 j j0 j1)
  exact tr_all hB hN hM.2 T hT hq lk (SYT_0 hB hN hM (SYE_2 hB hN h0 hE hs hl) hs hb) hend

/-! the bits of a whole word are read as they were told -/
def LK01 (lk : Int → Int) : Prop := ∀ j : Int, 0 ≤ j → j < 19 → lk j = 0 ∨ lk j = 1
def HQE (B : Nat → Int) (N : Int) (E : ES_) : Prop := HQ B N E.1 E.2.1 E.2.2.1 E.2.2.2.1 E.2.2.2.2.2.2
theorem lrL_01 {st lk : Int → Int} {x : Int} {P : Prop} [Decidable P] (h : LK01 lk) : LK01 (lrL st lk x P) := by
  intro j h0 h1
  unfold lrL
  split
  · by_cases q : j = x
    · rw [q, fup_eq]
      rcases h x (by omega) (by omega) with e | e <;> omega
    · rw [fup_ne _ _ q]
      exact h j h0 h1
  · exact h j h0 h1
theorem tellS_lk {E : ES_} {x b : Int} (h : LK01 E.2.2.2.2.2.1) : LK01 (tellS E x b).2.2.2.2.2.1 := by
  obtain ⟨a, c, t, n, st, lk, o⟩ := E
  by_cases h0 : b = lk x ∧ 32768 ≤ a - qS (st x)
  · rw [tellS_1 h0]
    exact h
  · rw [tellS_m (P := b ≠ lk x) h0 rfl rfl Iff.rfl]
    exact lrL_01 h
theorem tell_back {B : Nat → Int} {N x b : Int} {E : ES_} (hE : MQE E) (hx : 0 ≤ x ∧ x ≤ 18) (hf : HQE B N (tellS E x b)) : HQE B N E := by
  obtain ⟨a, c, t, n, st, lk, o⟩ := E
  obtain ⟨hq, ha, hst⟩ := hE
  dsimp only at hq ha hst
  have hsx := hst x hx.1 (by omega)
  have tq := (tab_r hsx).1
  by_cases h0 : b = lk x ∧ 32768 ≤ a - qS (st x)
  · rw [tellS_1 h0] at hf
    exact (show HQ B N a c t n o from HQ_sub (a2 := a - qS (st x)) (c2 := c + qS (st x)) hf (by omega) (by omega))
  · rw [tellS_m (P := b ≠ lk x) h0 rfl rfl Iff.rfl] at hf
    have hM := MQ_tell (x := x) (a2 := if (b = lk x ↔ a - qS (st x) < qS (st x)) then qS (st x) else a - qS (st x)) (c2 := if (b = lk x ↔ a - qS (st x) < qS (st x)) then c else c + qS (st x)) hq ha hsx rfl rfl
    have h2 := mend_back 15 (MI_0 hM) hf
    refine HQ_sub h2 ?_ ?_
    · show c ≤ if (b = lk x ↔ a - qS (st x) < qS (st x)) then c else c + qS (st x)
      split <;> omega
    · show (if (b = lk x ↔ a - qS (st x) < qS (st x)) then c else c + qS (st x)) + (if (b = lk x ↔ a - qS (st x) < qS (st x)) then qS (st x) else a - qS (st x)) ≤ c + a
      split <;> omega
theorem HQ_back {B : Nat → Int} {N : Int} : ∀ (T : List (Int × Int)) {E : ES_}, (∀ z, z ∈ T → 0 ≤ z.1 ∧ z.1 ≤ 18) → MQE E → HQE B N (tlF T E) → HQE B N E
  | [], _, _, _, h => h
  | z :: T, E, hT, hE, h => tell_back hE (hT z (List.mem_cons_self ..)) (HQ_back T (fun u hu => hT u (List.mem_cons_of_mem _ hu)) (tellS_w (b := z.2) hE (hT z (List.mem_cons_self ..))).1 h)
/-- one bit, before the mending: what is read is what was told, from any source -/
theorem rd_dec {B : Nat → Int} {N x b a c t n cd td p : Int} {st lk o sd ld : Int → Int} {i : Nat} (src : Int → Int) (L : Int) (hq : MQ_ a c t n o) (ha : 32768 ≤ a) (hsx : 0 ≤ st x ∧ st x < 47) (l01 : lk x = 0 ∨ lk x = 1) (hb : 0 ≤ b ∧ b ≤ 1) (hsy : SYN B c t n o i cd td) (es : sd x = st x) (el : ld x = lk x) (hf : HQE B N (tellS (a, c, t, n, st, lk, o) x b)) :
    (tellS (a, c, t, n, st, lk, o) x b = (a - qS (st x), c + qS (st x), t, n, st, lk, o) ∧ rdS lwC fxM src L (a, cd, td, p, sd, ld) x = (b, a - qS (st x), cd - 65536 * qS (st x), td, p, sd, ld) ∧ SYN B (c + qS (st x)) t n o i (cd - 65536 * qS (st x)) td) ∨
    (∃ a2 c2 cd2 : Int, tellS (a, c, t, n, st, lk, o) x b = ((mendS 15 a2 c2 t n o).1, (mendS 15 a2 c2 t n o).2.1, (mendS 15 a2 c2 t n o).2.2.1, (mendS 15 a2 c2 t n o).2.2.2.1, lrS st x (b ≠ lk x), lrL st lk x (b ≠ lk x), (mendS 15 a2 c2 t n o).2.2.2.2) ∧
      rdS lwC fxM src L (a, cd, td, p, sd, ld) x = (b, (rmS fxM src L 15 a2 cd2 td p).1, (rmS fxM src L 15 a2 cd2 td p).2.1, (rmS fxM src L 15 a2 cd2 td p).2.2.1, (rmS fxM src L 15 a2 cd2 td p).2.2.2, lrS sd x (b ≠ lk x), lrL sd ld x (b ≠ lk x)) ∧
      MIE_ 15 a2 c2 t n o (mendS 15 a2 c2 t n o) (7 * n - t + 15) ∧ HQ B N a2 c2 t n o ∧ SYN B c2 t n o i cd2 td) := by
  have hq2 := hq
  obtain ⟨q1, q2, q3, q4, q5, q6, q7, q8, q9⟩ := hq2
  have tq := (tab_r hsx).1
  have lw : lwC cd = cd / 65536 := rfl
  by_cases h0 : b = lk x ∧ 32768 ≤ a - qS (st x)
  · have e1 := tellS_1 (a := a) (c := c) (t := t) (n := n) (o := o) h0
    rw [e1] at hf
    have hf2 : HQ B N (a - qS (st x)) (c + qS (st x)) t n o := hf
    have d := DEC hsy ⟨q4, q5⟩ q7 hf2
    have hlow : ¬ lwC cd < qS (sd x) ∧ 32768 ≤ a - qS (sd x) := by
      rw [es]
      exact ⟨by omega, h0.2⟩
    refine Or.inl ⟨e1, ?_, ?_⟩
    · rw [rdS_1 hlow, es, el, h0.1]
    · obtain ⟨s1, s2, s3⟩ := hsy
      refine ⟨s1, s2, ?_⟩
      rw [s3]
      unfold bsE
      omega
  · have e2 := tellS_m (a := a) (c := c) (t := t) (n := n) (o := o) (st := st) (lk := lk) (x := x) (b := b) (P := b ≠ lk x) h0 rfl rfl Iff.rfl
    rw [e2] at hf
    have hM := MQ_tell (x := x) (a2 := if (b = lk x ↔ a - qS (st x) < qS (st x)) then qS (st x) else a - qS (st x)) (c2 := if (b = lk x ↔ a - qS (st x) < qS (st x)) then c else c + qS (st x)) hq ha hsx rfl rfl
    have hI := MI_0 hM
    have hmid := mend_back 15 hI hf
    have d := DEC hsy ⟨q4, q5⟩ q7 hmid
    have key : ∃ a2 c2 cd2 : Int, (if (b = lk x ↔ a - qS (st x) < qS (st x)) then qS (st x) else a - qS (st x)) = a2 ∧ (if (b = lk x ↔ a - qS (st x) < qS (st x)) then c else c + qS (st x)) = c2 ∧ (a2 = if lwC cd < qS (st x) then qS (st x) else a - qS (st x)) ∧ (cd2 = if lwC cd < qS (st x) then cd else cd - 65536 * qS (st x)) ∧ cd2 = cd - (c2 - c) * 65536 ∧ ((lwC cd < qS (st x) ↔ ¬ a - qS (st x) < qS (st x)) ↔ b ≠ lk x) ∧ ¬ (¬ lwC cd < qS (st x) ∧ 32768 ≤ a - qS (st x)) := by
      by_cases g : (b = lk x ↔ a - qS (st x) < qS (st x))
      · rw [if_pos g, if_pos g] at d
        rw [if_pos g, if_pos g]
        have hl : lwC cd < qS (st x) := by omega
        refine ⟨qS (st x), c, cd, rfl, rfl, (if_pos hl).symm, (if_pos hl).symm, by omega, ?_, fun q => q.1 hl⟩
        by_cases e : b = lk x
        · have := g.mp e
          exact ⟨fun u => absurd this (u.mp hl), fun u => absurd e u⟩
        · have : ¬ a - qS (st x) < qS (st x) := fun u => e (g.mpr u)
          exact ⟨fun _ => e, fun _ => ⟨fun _ => this, fun _ => hl⟩⟩
      · rw [if_neg g, if_neg g] at d
        rw [if_neg g, if_neg g]
        have hl : ¬ lwC cd < qS (st x) := by omega
        refine ⟨a - qS (st x), c + qS (st x), cd - 65536 * qS (st x), rfl, rfl, (if_neg hl).symm, (if_neg hl).symm, by omega, ?_, ?_⟩
        · by_cases e : b = lk x
          · have : ¬ a - qS (st x) < qS (st x) := fun u => g ⟨fun _ => u, fun _ => e⟩
            exact ⟨fun u => absurd (u.mpr this) hl, fun u => absurd e u⟩
          · have : a - qS (st x) < qS (st x) := Classical.byContradiction (fun u => g ⟨fun v => absurd v e, fun v => absurd v u⟩)
            exact ⟨fun _ => e, fun _ => ⟨fun v => absurd v hl, fun v => absurd this v⟩⟩
        · intro u
          by_cases e : b = lk x
          · exact h0 ⟨e, u.2⟩
          · have : a - qS (st x) < qS (st x) := Classical.byContradiction (fun v => g ⟨fun w => absurd w e, fun w => absurd w v⟩)
            omega
    obtain ⟨a2, c2, cd2, k1, k2, k3, k4, k5, k8, k9⟩ := key
    rw [k1, k2] at e2 hI hmid
    refine Or.inr ⟨a2, c2, cd2, e2, ?_, hI, hmid, ?_⟩
    · exact rdS_m (P := b ≠ lk x) (by rw [es]; exact k9) (by rw [es]; exact k3) (by rw [es]; exact k4) (by rw [es]; exact k8.symm) (by
        rw [el]
        by_cases e : b = lk x
        · rw [if_neg (fun u => u e)]
          exact e
        · rw [if_pos e]
          rcases l01 with l | l <;> omega)
    · obtain ⟨s1, s2, s3⟩ := hsy
      refine ⟨s1, s2, ?_⟩
      rw [k5, s3]
      unfold bsE
      omega
/-- reader and teller at the same place -/
def SYE (B : Nat → Int) (src : Int → Int) (L : Int) (E : ES_) (D : DS_) : Prop := D.1 = E.1 ∧ (∃ i : Nat, 1 ≤ i ∧ SYN B E.2.1 E.2.2.1 E.2.2.2.1 E.2.2.2.2.2.2 i D.2.1 D.2.2.1 ∧ PLQ src L i D.2.2.2.1) ∧ AGR 19 D.2.2.2.2.1 E.2.2.2.2.1 ∧ AGR 19 D.2.2.2.2.2 E.2.2.2.2.2.1
theorem AGR_lr {st sd lk ld : Int → Int} {x : Int} {P : Prop} [Decidable P] (es : sd x = st x) (el : ld x = lk x) (h1 : AGR 19 sd st) (h2 : AGR 19 ld lk) : AGR 19 (lrS sd x P) (lrS st x P) ∧ AGR 19 (lrL sd ld x P) (lrL st lk x P) := by
  refine ⟨?_, ?_⟩
  · unfold lrS
    rw [es]
    exact AGR_g h1
  · unfold lrL
    rw [es, el]
    split
    · exact AGR_g h2
    · exact h2
theorem rd_step {B : Nat → Int} {src : Int → Int} {N L x b : Int} {E : ES_} {D : DS_} (hB : BSR B src L) (hN : NFQ src L) (hE : MQE E) (hlk : LK01 E.2.2.2.2.2.1) (hx : 0 ≤ x ∧ x ≤ 18) (hb : 0 ≤ b ∧ b ≤ 1) (hs : SYE B src L E D) (hf : HQE B N (tellS E x b)) :
    (rdS lwC fxM src L D x).1 = b ∧ SYE B src L (tellS E x b) (rdS lwC fxM src L D x).2 := by
  obtain ⟨a, c, t, n, st, lk, o⟩ := E
  obtain ⟨ad, cd, td, p, sd, ld⟩ := D
  obtain ⟨ea, ⟨i, hi, hsy, hpl⟩, est, elk⟩ := hs
  obtain ⟨hq, ha, hst⟩ := hE
  dsimp only at ea hi hsy hpl est elk hq ha hst hlk
  subst ea
  have es : sd x = st x := est x hx.1 (by omega)
  have el : ld x = lk x := elk x hx.1 (by omega)
  rcases rd_dec (p := p) (sd := sd) (ld := ld) src L hq ha (hst x hx.1 (by omega)) (hlk x hx.1 (by omega)) hb hsy es el hf with ⟨e1, e2, e3⟩ | ⟨a2, c2, cd2, e1, e2, e3, e4, e5⟩
  · rw [e1, e2]
    exact ⟨rfl, rfl, ⟨i, hi, e3, hpl⟩, est, elk⟩
  · rw [e1] at hf
    rw [e1, e2]
    obtain ⟨m1, i2, m2, m3, m4⟩ := mend_sync hB hN 15 e3 hf hi e5 hpl
    have g := AGR_lr (P := b ≠ lk x) es el est elk
    exact ⟨rfl, m1, ⟨i2, m2, m3, m4⟩, g.1, g.2⟩
def ETR (T : List (Int × Int)) : Prop := ∀ z, z ∈ T → (0 ≤ z.1 ∧ z.1 ≤ 18) ∧ 0 ≤ z.2 ∧ z.2 ≤ 1
/-- all bits: the whole run -/
theorem rd_all {B : Nat → Int} {N : Int} {src : Int → Int} {L : Int} (hB : BSR B src L) (hN : NFQ src L) : ∀ (T : List (Int × Int)) {E : ES_} {D : DS_} {w : Int}, ETR T → MQE E → LK01 E.2.2.2.2.2.1 → SYE B src L E D → HQE B N (tlF T E) →
    (rdF src L T (w, D)).1 = w ∧ SYE B src L (tlF T E) (rdF src L T (w, D)).2
  | [], E, D, w, _, _, _, hs, hf => ⟨rfl, hs⟩
  | z :: T, E, D, w, hT, hE, hl, hs, hf => by
    have hz := hT z (List.mem_cons_self ..)
    have hE2 := (tellS_w (b := z.2) hE hz.1).1
    have hl2 := tellS_lk (x := z.1) (b := z.2) hl
    have back : HQE B N (tellS E z.1 z.2) := HQ_back T (fun u hu => (hT u (List.mem_cons_of_mem _ hu)).1) hE2 hf
    obtain ⟨r2, r3⟩ := rd_step hB hN hE hl hz.1 hz.2 hs back
    obtain ⟨k2, k3⟩ := rd_all hB hN T (w := w) (fun u hu => hT u (List.mem_cons_of_mem _ hu)) hE2 hl2 r3 hf
    have e : rdF src L (z :: T) (w, D) = rdF src L T (w, (rdS lwC fxM src L D z.1).2) := by
      show rdF src L T (rdW src L (w, D) z.1 z.2) = _
      unfold rdW
      rw [if_pos r2]
    rw [e]
    exact ⟨k2, k3⟩
/-- where a reader begins -/
def bgD (src : Int → Int) (L : Int) (sd ld : Int → Int) : DS_ := (32768, (inS src L (65536 * byS src L 0) 0).1 * 128, (inS src L (65536 * byS src L 0) 0).2.1 - 7, (inS src L (65536 * byS src L 0) 0).2.2, sd, ld)
theorem SYE_2 {B : Nat → Int} {src : Int → Int} {L : Int} {E : ES_} {sd ld : Int → Int} (hB : BSR B src L) (hN : NFQ src L) (h0 : B 0 = 0) (hE : ES0 E) (hs : ∀ j : Int, 0 ≤ j → j < 19 → sd j = st0 j) (hl : ∀ j : Int, 0 ≤ j → j < 19 → ld j = 0) : (bgD src L sd ld).1 = E.1 ∧ SYN B E.2.1 E.2.2.1 E.2.2.2.1 E.2.2.2.2.2.2 2 (bgD src L sd ld).2.1 (bgD src L sd ld).2.2.1 ∧ PLQ src L 2 (bgD src L sd ld).2.2.2.1 ∧ AGR 19 (bgD src L sd ld).2.2.2.2.1 E.2.2.2.2.1 ∧ AGR 19 (bgD src L sd ld).2.2.2.2.2 E.2.2.2.2.2.1 := by
  obtain ⟨g1, g2, g3, g4, g5, g6, g7⟩ := hE
  have b1 : B 1 = byS src L 0 := hB 0
  obtain ⟨p2, i1, i2⟩ := IN_s (c := 65536 * byS src L 0) (i := 1) (p := 0) hB hN (Nat.le_refl 1) ⟨Int.le_refl 0, Or.inl rfl⟩
  have r0 : rN B 0 = 8 := by
    unfold rN
    rw [h0, if_neg (fun q => by have := q.1; omega)]
  have r := rN_r B 1
  unfold bgD
  rw [i1]
  refine ⟨g1.symm, ?_, i2, fun j j1 j2 => (hs j j1 j2).trans (g5 j j1 j2).symm, fun j j1 j2 => (hl j j1 j2).trans (g6 j j1 j2).symm⟩
  rw [g2, g3, g4]
  have pb : PB B 2 = 8 + rN B 1 := by
    show 0 + rN B 0 + rN B 1 = _
    rw [r0]
  have sh : shE B 12 1 = 15 := rfl
  have bs : bsE B 0 12 1 E.2.2.2.2.2.2 = 0 := by
    unfold bsE
    rw [show ((1 : Int) - 1).toNat = 0 by decide, show (1 : Int) - 1 = 0 by decide, g7]
    show (B 0 - B 0 + 0) * _ + 0 = 0
    rw [Int.sub_self, Int.add_zero, Int.add_zero, Int.zero_mul]
  refine ⟨by show 0 ≤ (rN B 1 : Int) - 7 ∧ (rN B 1 : Int) - 7 ≤ 8; omega, ?_, ?_⟩
  · rw [pb, sh]
    show ((8 + rN B 1 : Nat) : Int) = ((15 : Nat) : Int) + ((rN B 1 : Int) - 7)
    omega
  · rw [bs]
    show (65536 * byS src L 0 + B 2 * 2 ^ (16 - (rN B 1 : Int)).toNat) * 128 = ((B 0 * 2 ^ rN B 0 + B 1) * 2 ^ rN B 1 + B 2) * 2 ^ (16 - ((rN B 1 : Int) - 7)).toNat - 0 * 65536
    rw [← b1, h0, r0]
    rcases r with r | r <;> rw [r]
    · rw [show (2 : Int) ^ 7 = 128 by decide, show (2 : Int) ^ (16 - ((7 : Nat) : Int)).toNat = 512 by decide, show (2 : Int) ^ (16 - (((7 : Nat) : Int) - 7)).toNat = 65536 by decide]
      omega
    · rw [show (2 : Int) ^ 8 = 256 by decide, show (2 : Int) ^ (16 - ((8 : Nat) : Int)).toNat = 256 by decide, show (2 : Int) ^ (16 - (((8 : Nat) : Int) - 7)).toNat = 32768 by decide]
      omega
theorem SYE_0 {B : Nat → Int} {src : Int → Int} {L : Int} {E : ES_} {sd ld : Int → Int} (hB : BSR B src L) (hN : NFQ src L) (h0 : B 0 = 0) (hE : ES0 E) (hs : ∀ j : Int, 0 ≤ j → j < 19 → sd j = st0 j) (hl : ∀ j : Int, 0 ≤ j → j < 19 → ld j = 0) : SYE B src L E (bgD src L sd ld) := by
  obtain ⟨h1, h2, h3, h4, h5⟩ := SYE_2 hB hN h0 hE hs hl
  exact ⟨h1, ⟨2, by omega, h2, h3⟩, h4, h5⟩
/-- a whole word: the bytes behind one 0, and 255 behind them -/
theorem WRD_B {E F : ES_} {src : Int → Int} {L : Int} (hE : ES0 E) (hF : MQE F) (hb : HQE (finB (endE F).2.2.1 (endE F).2.2.2) (endE F).2.2.1 E) (hn : 3 ≤ (endE F).2.2.1) (h : WRD (endE F) src L) : finB (endE F).2.2.1 (endE F).2.2.2 0 = 0 ∧ BSR (finB (endE F).2.2.1 (endE F).2.2.2) src L ∧ NFQ src L ∧ 0 ≤ L := by
  obtain ⟨g1, g2, g3, g4, g5, g6, g7⟩ := hE
  obtain ⟨f1, f2, f4, f3⟩ := hb
  obtain ⟨w1, w2⟩ := h
  generalize endE F = R at *
  obtain ⟨rc, rt, nn, ro⟩ := R
  dsimp only at *
  have hB : BSR (finB nn ro) src L := by
    intro j
    unfold finB byS
    by_cases q : (j : Int) < L
    · have k := w2 ((j : Int) + 1) (by omega) (by omega)
      rw [show (j : Int) + 1 - 1 = (j : Int) by omega] at k
      rw [if_pos q, k, show ((j + 1 : Nat) : Int) = (j : Int) + 1 by omega, if_pos (by split at w1 <;> omega)]
    · rw [if_neg q]
      by_cases p : ((j + 1 : Nat) : Int) < nn
      · rw [if_pos p]
        by_cases s : ro (nn - 1) = 255
        · rw [if_pos s] at w1
          rw [show ((j + 1 : Nat) : Int) = nn - 1 by omega]
          exact s
        · rw [if_neg s] at w1
          omega
      · rw [if_neg p]
  have e1 : E.2.2.2.1 = 1 := g4
  rw [e1] at f1 f2 f3 f4
  rw [show ((1 : Int) - 1).toNat = 0 by decide, show (1 : Int) - 1 = 0 by decide, g7] at f2
  have h0 : finB nn ro 0 = 0 := by
    rcases f2 with f2 | ⟨-, f2⟩
    · exact f2.symm
    · exfalso
      obtain ⟨z, u, u1, u2, z1, z2, z3, z4⟩ := f3 0 (Or.inr ⟨by decide, by rw [show (1 : Int) - 1 = 0 by decide, g7]; decide⟩)
      have sh : shE (finB nn ro) E.2.2.1 1 = 15 := by rw [g3]; rfl
      have bs : bsE (finB nn ro) E.2.1 E.2.2.1 1 E.2.2.2.2.2.2 = 0 := by
        rw [g2, g3]
        unfold bsE
        rw [show ((1 : Int) - 1).toNat = 0 by decide, show (1 : Int) - 1 = 0 by decide, g7]
        show (finB nn ro 0 - finB nn ro 0 + 0) * _ + 0 = 0
        rw [Int.sub_self, Int.add_zero, Int.add_zero, Int.zero_mul]
      rw [sh, bs, g1, Int.zero_add] at z4
      rw [sh] at u2
      have z1' : finB nn ro 0 * 2 ^ (u - 0) ≤ z := z1
      rw [Nat.sub_zero, ← f2, show (0 : Int) + 1 = 1 by decide, Int.one_mul] at z1'
      have ee : (32768 : Int) * 2 ^ (u - 15) = 2 ^ u := by
        rw [show (32768 : Int) = 2 ^ 15 by decide, ← p2a, show 15 + (u - 15) = u by omega]
      rw [ee] at z4
      omega
  refine ⟨h0, hB, fun j j0 hj => ?_, by split at w1 <;> omega⟩
  obtain ⟨m, rfl⟩ := Int.eq_ofNat_of_zero_le j0
  have a := hB m
  have b := hB (m + 1)
  rw [show ((m + 1 : Nat) : Int) = (m : Int) + 1 by omega] at b
  rcases f4 (m + 1) (by omega) (by rw [a]; exact hj) with q | q
  · rw [b] at q
    exact Or.inl q
  · exact Or.inr (by split at w1 <;> omega)
/-- A WHOLE WORD IS READ RIGHT -/
theorem WORD {T : List (Int × Int)} {E : ES_} {src sd ld : Int → Int} {L w : Int} (hE : ES0 E) (hT : ETR T) (h : WRD (endE (tlF T E)) src L) (hs : ∀ j : Int, 0 ≤ j → j < 19 → sd j = st0 j) (hl : ∀ j : Int, 0 ≤ j → j < 19 → ld j = 0) : (rdF src L T (w, bgD src L sd ld)).1 = w := by
  have hq := ES0_q hE
  have hF := (tellS_f T hq (fun z hz => (hT z hz).1)).1
  have e := HQ_end hF.1 hF.2.1
  have hend : HQE (finB (endE (tlF T E)).2.2.1 (endE (tlF T E)).2.2.2) (endE (tlF T E)).2.2.1 (tlF T E) := e
  have hb := HQ_back T (fun z hz => (hT z hz).1) hq hend
  have hn : 3 ≤ (endE (tlF T E)).2.2.1 := by
    have k := (endS_q (a := (tlF T E).1) (c := (tlF T E).2.1) (t := (tlF T E).2.2.1) (AGR_rf (tlF T E).2.2.2.1 (tlF T E).2.2.2.2.2.2) hF.1.2.2.2.2.2.2.1).1
    have m := hF.1.2.2.2.2.2.2.1
    unfold endE
    have m2 : 1 ≤ (tlF T E).2.2.2.1 := m
    omega
  obtain ⟨h0, hB, hN, -⟩ := WRD_B hE hF hb hn h
  have lk : LK01 E.2.2.2.2.2.1 := fun j j0 j1 => Or.inl (hE.2.2.2.2.2.1 j j0 j1)
  exact (rd_all hB hN T hT hq lk (SYE_0 hB hN h0 hE hs hl) hend).1

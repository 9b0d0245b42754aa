/-! THE REFERENCE'S WALK over the same states as the class's passes -/
def rdW (src : Int → Int) (n : Int) (R : Int × DS_) (x b : Int) : Int × DS_ := (if (rdS lwC fxM src n R.2 x).1 = b then R.1 else 1, (rdS lwC fxM src n R.2 x).2)
def rdF (src : Int → Int) (n : Int) (T : List (Int × Int)) (R : Int × DS_) : Int × DS_ := T.foldl (fun R z => rdW src n R z.1 z.2) R
def BNF (src : Int → Int) (n : Int) (T : List (Int × Int)) (R : Int × DS_) : Prop := ∀ i : Nat, i ≤ T.length → (rdF src n (T.take i) R).2.2.1 < 1099511627776
theorem rdF_a (src : Int → Int) (n x b : Int) (T : List (Int × Int)) (R : Int × DS_) : rdF src n (T ++ [(x, b)]) R = rdW src n (rdF src n T R) x b := by
  unfold rdF
  rw [List.foldl_append]
  rfl
theorem tlF_a (x b : Int) (T : List (Int × Int)) (E : ES_) : tlF (T ++ [(x, b)]) E = tellS (tlF T E) x b := by
  unfold tlF
  rw [List.foldl_append]
  rfl
theorem BNF_a {src : Int → Int} {n x b : Int} {T : List (Int × Int)} {R : Int × DS_} (h : BNF src n (T ++ [(x, b)]) R) : BNF src n T R ∧ (rdF src n T R).2.2.1 < 1099511627776 := by
  have k : ∀ i : Nat, i ≤ T.length → (rdF src n (T.take i) R).2.2.1 < 1099511627776 := fun i hi => by
    have q := h i (by rw [List.length_append]; omega)
    rw [List.take_append_of_le_length hi] at q
    exact q
  refine ⟨k, ?_⟩
  have q := k T.length (Nat.le_refl _)
  rw [List.take_length] at q
  exact q
def CQ (m : Int) (E0 : ES_) (D0 : Int × DS_) (h : Hp_) (T : List (Int × Int)) : Prop := h 73 29 = m ∧ (m = 0 → ((h 73 32, h 73 33, h 73 34, h 73 36, h 96, h 97, h 98) : ES_) = tlF T E0 ∧ MQE (tlF T E0)) ∧ (m = 2 → SRB (h 99) (h 73 38) ∧ (BNF (h 99) (h 73 38) T D0 → ((h 73 28, h 73 32, h 73 33, h 73 34, h 73 39, h 96, h 97) : Int × DS_) = rdF (h 99) (h 73 38) T D0 ∧ RQ_ (h 73 38) (h 73 32) (h 73 34) (h 73 39) ∧ 0 ≤ h 73 33))
theorem CQ_cg {m : Int} {E0 : ES_} {D0 : Int × DS_} {g h' : Hp_} {T : List (Int × Int)} (hq : CQ m E0 D0 g T) (e28 : h' 73 28 = g 73 28) (e29 : h' 73 29 = g 73 29) (e32 : h' 73 32 = g 73 32) (e33 : h' 73 33 = g 73 33) (e34 : h' 73 34 = g 73 34) (e36 : h' 73 36 = g 73 36) (e38 : h' 73 38 = g 73 38) (e39 : h' 73 39 = g 73 39) (e96 : h' 96 = g 96) (e97 : h' 97 = g 97) (e98 : h' 98 = g 98) (e99 : h' 99 = g 99) : CQ m E0 D0 h' T := by
  unfold CQ at hq ⊢
  rw [e28, e29, e32, e33, e34, e36, e38, e39, e96, e97, e98, e99]
  exact hq
theorem CQ_mq {m : Int} {E0 : ES_} {D0 : Int × DS_} {h : Hp_} {T : List (Int × Int)} (hq : CQ m E0 D0 h T) (h0 : m = 0) : MQ_ (h 73 32) (h 73 33) (h 73 34) (h 73 36) (h 98) := by
  obtain ⟨e, he⟩ := hq.2.1 h0
  have := he.1
  rw [← e] at this
  exact this
theorem CQ_0 {m : Int} {E0 : ES_} {D0 : Int × DS_} {h h' : Hp_} {T : List (Int × Int)} {x b : Int} (hq : CQ m E0 D0 h T) (h0 : m = 0) (e29 : h' 73 29 = h 73 29) (te : ((h' 73 32, h' 73 33, h' 73 34, h' 73 36, h' 96, h' 97, h' 98) : ES_) = tellS (h 73 32, h 73 33, h 73 34, h 73 36, h 96, h 97, h 98) x b) (hx : 0 ≤ x ∧ x ≤ 18) : CQ m E0 D0 h' (T ++ [(x, b)]) := by
  refine ⟨e29.trans hq.1, fun _ => ?_, fun q => by omega⟩
  obtain ⟨e, he⟩ := hq.2.1 h0
  rw [tlF_a, te, e]
  exact ⟨rfl, (tellS_w he hx).1⟩
theorem CQ_2 {m : Int} {E0 : ES_} {D0 : Int × DS_} {h h' : Hp_} {T : List (Int × Int)} {x b z a1 c1 t1 p1 : Int} {s1 l1 : Int → Int} (hq : CQ m E0 D0 h T) (h2 : m = 2)
    (hrd : ((0 ≤ h 73 33 ∧ h 73 33 < 1099511627776) ∧ SRB (h 99) (h 73 38) ∧ RQ_ (h 73 38) (h 73 32) (h 73 34) (h 73 39)) → (z, a1, c1, t1, p1, s1, l1) = rdS lwC fxM (h 99) (h 73 38) (h 73 32, h 73 33, h 73 34, h 73 39, h 96, h 97) x ∧ RQ_ (h 73 38) a1 t1 p1 ∧ 0 ≤ c1)
    (e29 : h' 73 29 = h 73 29) (e38 : h' 73 38 = h 73 38) (e99 : h' 99 = h 99) (e28 : h' 73 28 = if z = b then h 73 28 else 1) (e32 : h' 73 32 = a1) (e33 : h' 73 33 = c1) (e34 : h' 73 34 = t1) (e39 : h' 73 39 = p1) (e96 : h' 96 = s1) (e97 : h' 97 = l1) : CQ m E0 D0 h' (T ++ [(x, b)]) := by
  refine ⟨e29.trans hq.1, fun q => by omega, fun _ => ?_⟩
  obtain ⟨hs, hb⟩ := hq.2.2 h2
  rw [e38, e99]
  refine ⟨hs, fun hB => ?_⟩
  obtain ⟨b1, b2⟩ := BNF_a hB
  obtain ⟨c1', c2, c3⟩ := hb b1
  rw [← c1'] at b2
  have b3 : h 73 33 < 1099511627776 := b2
  obtain ⟨r1, r2, r3⟩ := hrd ⟨⟨c3, b3⟩, hs, c2⟩
  rw [rdF_a, ← c1', e28, e32, e33, e34, e39, e96, e97]
  refine ⟨?_, r2, r3⟩
  unfold rdW
  dsimp only
  rw [← r1]
def MSQ (M : Int → Int) (sz bl : Int → Int) (b w g : Int) : Prop := ∀ x y : Int, 0 ≤ x → x < w → 0 ≤ y → y < g → sz (64 * b + 8 * y + x) = ((M (10 * y + x + 11)).natAbs : Int) ∧ bl (64 * b + 8 * y + x) = if M (10 * y + x + 11) < 0 then 1 else 0
def AWQ (a A : Int → Int) : Prop := ∀ j : Int, 0 ≤ j → j < 100 → a j = A j
def TDQ (a A : Int → Int) : Prop := ∀ x y : Int, 0 ≤ x → x < 8 → 0 ≤ y → y < 8 → a (8 * y + x) = A (10 * y + x + 11)
def RRP (c : Prop) (m : Int) (E0 : ES_) (D0 : Int × DS_) (M : Int → Int) (h : Hp_) (s : TS_) : Prop := MSQ M (h 84) (h 85) (h 73 26) (h 80 (h 73 26)) (h 81 (h 73 26)) ∧ AWQ (h 93) s.1 ∧ (c → TDQ (h 94) s.2.1) ∧ TDQ (h 95) s.2.2.1 ∧ CQ m E0 D0 h s.2.2.2
abbrev RRQ (m : Int) (E0 : ES_) (D0 : Int × DS_) (M : Int → Int) (h : Hp_) (s : TS_) : Prop := RRP True m E0 D0 M h s
section RR
variable {m : Int} {E0 : ES_} {D0 : Int × DS_} {M : Int → Int} {h h' g : Hp_} {s : TS_} {x y X B kd pl v1 v2 : Int}
theorem RRQ_cd (hR : RRQ m E0 D0 M h s) (hC : CQ m E0 D0 h' (s.2.2.2 ++ [(X, B)])) (e84 : h' 84 = h 84) (e85 : h' 85 = h 85) (e93 : h' 93 = h 93) (e94 : h' 94 = h 94) (e95 : h' 95 = h 95) (e80 : h' 80 = h 80) (e81 : h' 81 = h 81) (e26 : h' 73 26 = h 73 26) : RRQ m E0 D0 M h' (evT s X B) := by
  obtain ⟨h1, h2, h3, h4, h5⟩ := hR
  refine ⟨?_, ?_, fun _ => ?_, ?_, hC⟩
  · rw [e84, e85, e26, e80, e81]; exact h1
  · rw [e93]; exact h2
  · rw [e94]; exact h3 trivial
  · rw [e95]; exact h4
theorem hS_q {a A : Int → Int} (hq : AWQ a A) {p : Int} (h0 : 0 ≤ p) (h1 : p < 100) : hS a p = hS A p := by
  unfold hS
  rw [hq p h0 h1]
theorem rowS_q {a A : Int → Int} (hq : AWQ a A) {p : Int} (h0 : 11 ≤ p) (h1 : p ≤ 88) : rowS a p = rowS A p := by
  unfold rowS
  rw [hS_q hq (by omega) (by omega), hS_q hq (by omega) (by omega)]
theorem colS_q {a A : Int → Int} (hq : AWQ a A) {p : Int} (h0 : 11 ≤ p) (h1 : p ≤ 88) : colS a p = colS A p := by
  unfold colS
  rw [hS_q hq (by omega) (by omega), hS_q hq (by omega) (by omega)]
theorem acrS_q {a A : Int → Int} (hq : AWQ a A) {p : Int} (h0 : 11 ≤ p) (h1 : p ≤ 88) : acrS a p = acrS A p := by
  unfold acrS
  rw [hS_q hq (by omega) (by omega), hS_q hq (by omega) (by omega), hS_q hq (by omega) (by omega), hS_q hq (by omega) (by omega)]
theorem ctxS_q {a A : Int → Int} (hq : AWQ a A) {p kd : Int} (h0 : 11 ≤ p) (h1 : p ≤ 88) : ctxS a kd p = ctxS A kd p := by
  unfold ctxS
  rw [rowS_q hq h0 h1, colS_q hq h0 h1, acrS_q hq h0 h1]
theorem sgA_q {a A : Int → Int} (hq : AWQ a A) {p : Int} (h0 : 11 ≤ p) (h1 : p ≤ 88) : sgA a p = sgA A p ∧ sgB a p = sgB A p := by
  unfold sgA sgB
  rw [hq _ (by omega) (by omega), hq _ (by omega) (by omega), hq _ (by omega) (by omega), hq _ (by omega) (by omega)]
  exact ⟨rfl, rfl⟩
theorem sgT_q {a A : Int → Int} (hq : AWQ a A) {p : Int} (h0 : 11 ≤ p) (h1 : p ≤ 88) : sgT a p = sgT A p ∧ sgX a p = sgX A p := by
  have e : sgT a p = sgT A p := by
    unfold sgT
    rw [(sgA_q hq h0 h1).1, (sgA_q hq h0 h1).2]
  refine ⟨e, ?_⟩
  unfold sgX
  rw [e, (sgA_q hq h0 h1).1, (sgA_q hq h0 h1).2]
theorem rfC_q {a A r r' : Int → Int} (hq : AWQ a A) {p : Int} (h0 : 11 ≤ p) (h1 : p ≤ 88) (hr : r = r') : (if r p = 0 then (if 0 < rowS a p + colS a p + acrS a p then (15 : Int) else 14) else 16) = rfC A r' p := by
  subst hr
  unfold rfC
  rw [rowS_q hq h0 h1, colS_q hq h0 h1, acrS_q hq h0 h1]
theorem RRQ_td (hR : RRQ m E0 D0 M h s) (hx : 0 ≤ x ∧ x ≤ 7) (hy : 0 ≤ y ∧ y ≤ 7) : RRQ m E0 D0 M (setO h 94 (fup (h 94) (8 * y + x) 1)) (tdT s (10 * y + x + 11)) := by
  obtain ⟨h1, h2, h3, h4, h5⟩ := hR
  refine ⟨h1, h2, fun _ => fun x2 y2 g1 g2 g3 g4 => ?_, h4, h5⟩
  show fup (h 94) (8 * y + x) 1 (8 * y2 + x2) = fup s.2.1 (10 * y + x + 11) 1 (10 * y2 + x2 + 11)
  by_cases q : 8 * y2 + x2 = 8 * y + x
  · rw [q, show 10 * y2 + x2 + 11 = 10 * y + x + 11 by omega, fup_eq, fup_eq]
  · rw [fup_ne _ _ q, fup_ne _ _ (by omega)]
    exact h3 trivial x2 y2 g1 g2 g3 g4
theorem bS_q (hR : RRQ m E0 D0 M h s) (hx : 0 ≤ x ∧ x < h 80 (h 73 26)) (hy : 0 ≤ y ∧ y < h 81 (h 73 26)) : h 84 (64 * h 73 26 + 8 * y + x) / 2 ^ (h 73 27).toNat % 2 = bS M (h 73 27) (10 * y + x + 11) := by
  rw [(hR.1 x y hx.1 hx.2 hy.1 hy.2).1]
  rfl
theorem RRQ_wk (hR : RRQ m E0 D0 M h s) (hC : CQ m E0 D0 h' (s.2.2.2 ++ [(X, B)])) (hx : 0 ≤ x ∧ x < h 80 (h 73 26)) (hy : 0 ≤ y ∧ y < h 81 (h 73 26)) (h8 : h 80 (h 73 26) ≤ 8 ∧ h 81 (h 73 26) ≤ 8)
    (hX : X = sgX (h 93) (10 * y + x + 11)) (hB : B = xr_ (h 85 (64 * h 73 26 + 8 * y + x)) (sgT (h 93) (10 * y + x + 11))) (e93 : h' 93 = fup (h 93) (10 * y + x + 11) v2) (hv : v2 = if h 85 (64 * h 73 26 + 8 * y + x) = 1 then -1 else 1) (e85 : h' 85 = fup (h 85) (64 * h 73 26 + 8 * y + x) v1) (hv1 : v1 = h 85 (64 * h 73 26 + 8 * y + x))
    (e84 : h' 84 = h 84) (e94 : h' 94 = h 94) (e95 : h' 95 = h 95) (e80 : h' 80 = h 80) (e81 : h' 81 = h 81) (e26 : h' 73 26 = h 73 26) : RRQ m E0 D0 M h' (wkT M (10 * y + x + 11) s) := by
  obtain ⟨h1, h2, h3, h4, h5⟩ := hR
  have b := (h1 x y hx.1 hx.2 hy.1 hy.2).2
  have sq := sgT_q h2 (p := 10 * y + x + 11) (by omega) (by omega)
  refine ⟨?_, ?_, fun _ => ?_, ?_, ?_⟩
  · rw [e84, e85, e26, e80, e81, ← fup_self hv1]; exact h1
  · intro j g1 g2
    show h' 93 j = fup s.1 (10 * y + x + 11) (if M (10 * y + x + 11) < 0 then -1 else 1) j
    rw [e93, hv, b]
    by_cases q : j = 10 * y + x + 11
    · rw [q, fup_eq, fup_eq]
      by_cases w : M (10 * y + x + 11) < 0
      · rw [if_pos w, if_pos w, if_pos rfl]
      · rw [if_neg w, if_neg w, if_neg (by decide)]
    · rw [fup_ne _ _ q, fup_ne _ _ q]
      exact h2 j g1 g2
  · rw [e94]; exact h3 trivial
  · rw [e95]; exact h4
  · rw [hX, hB, sq.1, sq.2, b] at hC
    exact hC
theorem RRQ_rf (hR : RRQ m E0 D0 M h s) (hC : CQ m E0 D0 h' (s.2.2.2 ++ [(X, B)])) (hx : 0 ≤ x ∧ x ≤ 7) (hy : 0 ≤ y ∧ y ≤ 7) (hp : s.1 (10 * y + x + 11) ≠ 0 ∧ s.2.1 (10 * y + x + 11) = 0)
    (hX : X = if h 95 (8 * y + x) = 0 then (if 0 < rowS (h 93) (10 * y + x + 11) + colS (h 93) (10 * y + x + 11) + acrS (h 93) (10 * y + x + 11) then 15 else 14) else 16) (hB : B = bS M pl (10 * y + x + 11)) (e95 : h' 95 = fup (h 95) (8 * y + x) 1)
    (e84 : h' 84 = h 84) (e85 : h' 85 = h 85) (e93 : h' 93 = h 93) (e94 : h' 94 = h 94) (e80 : h' 80 = h 80) (e81 : h' 81 = h 81) (e26 : h' 73 26 = h 73 26) : RRQ m E0 D0 M h' (rfnT M pl (10 * y + x + 11) s) := by
  obtain ⟨h1, h2, h3, h4, h5⟩ := hR
  unfold rfnT
  rw [if_pos hp]
  refine ⟨?_, ?_, fun _ => ?_, ?_, ?_⟩
  · rw [e84, e85, e26, e80, e81]; exact h1
  · rw [e93]; exact h2
  · rw [e94]; exact h3 trivial
  · intro x2 y2 g1 g2 g3 g4
    show h' 95 (8 * y2 + x2) = fup s.2.2.1 (10 * y + x + 11) 1 (10 * y2 + x2 + 11)
    rw [e95]
    by_cases q : 8 * y2 + x2 = 8 * y + x
    · rw [q, show 10 * y2 + x2 + 11 = 10 * y + x + 11 by omega, fup_eq, fup_eq]
    · rw [fup_ne _ _ q, fup_ne _ _ (by omega)]
      exact h4 x2 y2 g1 g2 g3 g4
  · show CQ m E0 D0 h' (s.2.2.2 ++ [(rfC s.1 s.2.2.1 (10 * y + x + 11), bS M pl (10 * y + x + 11))])
    have e : X = rfC s.1 s.2.2.1 (10 * y + x + 11) := by
      rw [hX, h4 x y hx.1 (by omega) hy.1 (by omega), rowS_q h2 (by omega) (by omega), colS_q h2 (by omega) (by omega), acrS_q h2 (by omega) (by omega)]
      rfl
    rw [← e, ← hB]
    exact hC
end RR
section JL
variable {m : Int} {E0 : ES_} {D0 : Int × DS_} {M : Int → Int} {h w : Hp_} {s : TS_} {x y r q f f2 c zb kd pl n d i : Int}
def JLQ (M : Int → Int) (s : TS_) (kd pl p n d q f : Int) : Prop := (q = 0 → ¬(n = 4 ∧ quT s.1 s.2.1 kd p)) ∧ (q = 1 → n = 4 ∧ (∀ k : Int, d < k → k < 4 → s.1 (p + k * 10) = 0 ∧ s.2.1 (p + k * 10) = 0 ∧ ctxS s.1 kd (p + k * 10) = 0) ∧ (∀ k : Int, d < k → k < f → bS M pl (p + k * 10) = 0) ∧ (f = 4 ∨ (d < f ∧ f < 4 ∧ bS M pl (p + f * 10) ≠ 0)))
theorem JL_0 {p : Int} (hq : (q = 1 ∧ n = 4) ∨ (q = 0 ∧ n ≠ 4)) (hd : d = 3) : JLQ M s kd pl p n d q 4 := by
  refine ⟨fun z w => ?_, fun z => ⟨by omega, fun k h1 h2 => by omega, fun k h1 h2 => by omega, Or.inl rfl⟩⟩
  have := w.1
  omega
theorem JL_k {p d2 q2 : Int} (h : JLQ M s kd pl p n d q f) (h0 : q = 0) (h2 : q2 = 0) : JLQ M s kd pl p n d2 q2 f2 := ⟨fun _ => h.1 h0, fun z => by omega⟩
theorem JL_x {q2 d2 : Int} (hR : RRQ m E0 D0 M w s) (h : JLQ M s kd pl (10 * y + x + 11) n (r - y) q f) (hq : q = 1) (h2 : q2 = 0) (hr : y ≤ r ∧ r ≤ y + 3) (hx : 0 ≤ x ∧ x ≤ 7) (hy : y = 0 ∨ y = 4) (hu : ¬ (w 93 (10 * r + x + 11) = 0 ∧ w 94 (8 * r + x) = 0) ∨ (c ≠ 0 ∧ c = ctxS (w 93) kd (10 * r + x + 11))) : JLQ M s kd pl (10 * y + x + 11) n d2 q2 f2 := by
  refine ⟨fun _ k => ?_, fun z => by omega⟩
  have k2 := k.2 (r - y) (by omega) (by omega)
  rw [show 10 * y + x + 11 + (r - y) * 10 = 10 * r + x + 11 by omega] at k2
  rcases hu with hu | ⟨u1, u2⟩
  · refine hu ⟨?_, ?_⟩
    · rw [hR.2.1 _ (by omega) (by omega)]; exact k2.1
    · rw [hR.2.2.1 trivial x r (by omega) (by omega) (by omega) (by omega)]; exact k2.2.1
  · rw [ctxS_q hR.2.1 (by omega) (by omega)] at u2
    have := k2.2.2
    omega
theorem JL_s {q2 d2 : Int} (hR : RRQ m E0 D0 M w s) (h : JLQ M s kd pl (10 * y + x + 11) n (r - y) q f) (hq : q = 1) (h2 : q2 = 1) (hd : d2 = r - 1 - y) (hr : y ≤ r ∧ r ≤ y + 3) (hx : 0 ≤ x ∧ x ≤ 7) (hy : y = 0 ∨ y = 4) (hu : w 93 (10 * r + x + 11) = 0 ∧ w 94 (8 * r + x) = 0) (hc : c = 0) (hc2 : c = ctxS (w 93) kd (10 * r + x + 11)) (hz : zb = bS M pl (10 * r + x + 11)) (hb : (zb = 1 ∧ f2 = r - y) ∨ (zb ≠ 1 ∧ f2 = f)) (hf : 0 ≤ f ∧ f ≤ 4) : JLQ M s kd pl (10 * y + x + 11) n d2 q2 f2 := by
  obtain ⟨j1, j2, j3, j4⟩ := h.2 hq
  have u1 : s.1 (10 * r + x + 11) = 0 := by rw [← hR.2.1 _ (by omega) (by omega)]; exact hu.1
  have u2 : s.2.1 (10 * r + x + 11) = 0 := by rw [← hR.2.2.1 trivial x r (by omega) (by omega) (by omega) (by omega)]; exact hu.2
  have u3 : ctxS s.1 kd (10 * r + x + 11) = 0 := by rw [← ctxS_q hR.2.1 (by omega) (by omega), ← hc2]; exact hc
  have e : 10 * y + x + 11 + (r - y) * 10 = 10 * r + x + 11 := by omega
  have bb := bS_r M pl (10 * r + x + 11)
  refine ⟨fun z => by omega, fun _ => ⟨j1, fun k h1 h2 => ?_, fun k h1 h2 => ?_, ?_⟩⟩
  · by_cases q9 : k = r - y
    · rw [q9, e]
      exact ⟨u1, u2, u3⟩
    · exact j2 k (by omega) h2
  · by_cases q9 : k = r - y
    · rw [q9, e]
      omega
    · exact j3 k (by omega) (by omega)
  · rcases hb with ⟨b1, b2⟩ | ⟨b1, b2⟩
    · refine Or.inr ⟨by omega, by omega, ?_⟩
      rw [b2, e]
      omega
    · subst b2
      rcases j4 with j4 | ⟨j4, j5, j6⟩
      · exact Or.inl j4
      · exact Or.inr ⟨by omega, j5, j6⟩
theorem JL_e {p : Int} (h : JLQ M s kd pl p n d q f) (hq : q = 1) (hd : d = -1) (hf : 0 ≤ f ∧ f ≤ 4) : (n = 4 ∧ quT s.1 s.2.1 kd p) ∧ f = whT M pl p := by
  obtain ⟨j1, j2, j3, j4⟩ := h.2 hq
  refine ⟨⟨j1, fun k h1 h2 => j2 k (by omega) h2⟩, whT_1 hf (fun k h1 h2 => j3 k (by omega) h2) ?_⟩
  rcases j4 with j4 | ⟨_, j5, j6⟩
  · exact Or.inl j4
  · exact Or.inr ⟨j5, j6⟩
theorem JP_0 {p : Int} (hR : RRQ m E0 D0 M w s) (hq : ¬(n = 4 ∧ quT s.1 s.2.1 kd p)) : RRQ m E0 D0 M w (preT M kd pl p n s) ∧ (0 : Int) = min 4 (nxT s.1 s.2.1 M kd pl p n) := by
  unfold preT nxT
  rw [if_neg hq, if_neg hq]
  exact ⟨hR, by decide⟩
theorem JP_4 {p : Int} (hq : (n = 4 ∧ quT s.1 s.2.1 kd p) ∧ f = whT M pl p) (hf : f = 4) (hR : RRQ m E0 D0 M w (evT s 17 0)) : RRQ m E0 D0 M w (preT M kd pl p n s) ∧ (4 : Int) = min 4 (nxT s.1 s.2.1 M kd pl p n) := by
  unfold preT nxT qvT
  rw [if_pos hq.1, if_pos hq.1, ← hq.2, if_neg (by omega), if_neg (by omega)]
  exact ⟨hR, by omega⟩
theorem JP_1 {z : Int} (hq : (n = 4 ∧ quT s.1 s.2.1 kd (10 * y + x + 11)) ∧ f = whT M pl (10 * y + x + 11)) (hf : f < 4) (h0 : 0 ≤ f) (hR : RRQ m E0 D0 M w (wkT M (10 * (y + f) + x + 11) (evT (evT (evT s 17 1) 18 (f / 2 % 2)) 18 (f % 2)))) (hz : z = f + 1) : RRQ m E0 D0 M w (preT M kd pl (10 * y + x + 11) n s) ∧ z = min 4 (nxT s.1 s.2.1 M kd pl (10 * y + x + 11) n) := by
  unfold preT nxT qvT
  rw [if_pos hq.1, if_pos hq.1, ← hq.2, if_pos hf, if_pos hf, show 10 * y + x + 11 + f * 10 = 10 * (y + f) + x + 11 by omega]
  exact ⟨hR, by omega⟩
noncomputable def clI (M : Int → Int) (kd pl p n y : Int) (s : TS_) (i : Int) : TS_ := itT (clT M kd pl) (p + nxT s.1 s.2.1 M kd pl p n * 10) (i - y - nxT s.1 s.2.1 M kd pl p n).toNat (preT M kd pl p n s)
theorem nxT_r (a t : Int → Int) (p : Int) : 0 ≤ nxT a t M kd pl p n ∧ nxT a t M kd pl p n ≤ 5 := by
  unfold nxT
  have := whT_r M pl p
  split <;> omega
theorem clI_0 {p z : Int} (hR : RRQ m E0 D0 M w (preT M kd pl p n s) ∧ z = min 4 (nxT s.1 s.2.1 M kd pl p n)) : RRQ m E0 D0 M w (clI M kd pl p n y s (y + z)) := by
  unfold clI
  rw [show (y + z - y - nxT s.1 s.2.1 M kd pl p n).toNat = 0 by have := hR.2; omega]
  exact hR.1
theorem clI_s (hi : min 4 (nxT s.1 s.2.1 M kd pl (10 * y + x + 11) n) ≤ i - y) (h4 : i < y + 4) : clI M kd pl (10 * y + x + 11) n y s (i + 1) = clT M kd pl (10 * i + x + 11) (clI M kd pl (10 * y + x + 11) n y s i) := by
  unfold clI
  have nr := nxT_r (M := M) (kd := kd) (pl := pl) (n := n) s.1 s.2.1 (10 * y + x + 11)
  generalize nxT s.1 s.2.1 M kd pl (10 * y + x + 11) n = nx at hi nr ⊢
  rw [show (i + 1 - y - nx).toNat = (i - y - nx).toNat + 1 by omega]
  show clT M kd pl (10 * y + x + 11 + nx * 10 + (((i - y - nx).toNat : Nat) : Int) * 10) _ = _
  rw [show 10 * y + x + 11 + nx * 10 + (((i - y - nx).toNat : Nat) : Int) * 10 = 10 * i + x + 11 by omega]
theorem clI_e {p : Int} (h : RRQ m E0 D0 M w (clI M kd pl p n y s i)) (hi : i - y = n) : RRQ m E0 D0 M w (cnT M kd pl p n s) := by
  unfold clI at h
  rw [hi] at h
  exact h
theorem clU_0 {S : TS_} (hR : RRQ m E0 D0 M w S) (hx : 0 ≤ x ∧ x ≤ 7) (hy : 0 ≤ i ∧ i ≤ 7) (hu : ¬(w 93 (10 * i + x + 11) = 0 ∧ w 94 (8 * i + x) = 0)) : RRQ m E0 D0 M w (clT M kd pl (10 * i + x + 11) S) := by
  unfold clT
  rw [if_neg (fun q => hu ⟨by rw [hR.2.1 _ (by omega) (by omega)]; exact q.1, by rw [hR.2.2.1 trivial x i (by omega) (by omega) (by omega) (by omega)]; exact q.2⟩)]
  exact hR
theorem clU_k {S : TS_} (hR : RRQ m E0 D0 M w S) (hx : 0 ≤ x ∧ x ≤ 7) (hy : 0 ≤ i ∧ i ≤ 7) (hu : w 93 (10 * i + x + 11) = 0 ∧ w 94 (8 * i + x) = 0) : S.1 (10 * i + x + 11) = 0 ∧ S.2.1 (10 * i + x + 11) = 0 := by
  rw [hR.2.1 _ (by omega) (by omega), hR.2.2.1 trivial x i (by omega) (by omega) (by omega) (by omega)] at hu
  exact hu
theorem clU_1 {S : TS_} {g : Hp_} (hk : S.1 (10 * i + x + 11) = 0 ∧ S.2.1 (10 * i + x + 11) = 0) (hb : bS M pl (10 * i + x + 11) ≠ 1) (hg : RRQ m E0 D0 M g (evT S (ctxS S.1 kd (10 * i + x + 11)) (bS M pl (10 * i + x + 11)))) : RRQ m E0 D0 M g (clT M kd pl (10 * i + x + 11) S) := by
  unfold clT
  rw [if_pos hk, if_neg hb]
  exact hg
theorem clU_2 {S : TS_} {g : Hp_} (hk : S.1 (10 * i + x + 11) = 0 ∧ S.2.1 (10 * i + x + 11) = 0) (hb : bS M pl (10 * i + x + 11) = 1) (hg : RRQ m E0 D0 M g (wkT M (10 * i + x + 11) (evT S (ctxS S.1 kd (10 * i + x + 11)) (bS M pl (10 * i + x + 11))))) : RRQ m E0 D0 M g (clT M kd pl (10 * i + x + 11) S) := by
  unfold clT
  rw [if_pos hk, if_pos hb]
  exact hg
noncomputable def coI (M : Int → Int) (kd pl q p : Int) (s : TS_) (k : Nat) : TS_ := if q = 0 then itT (spT M kd pl) p k s else itT (rfnT M pl) p k s
theorem coI_0 {p : Int} (hR : RRQ m E0 D0 M w s) (hi : d = 0) : RRQ m E0 D0 M w (coI M kd pl q p s d.toNat) := by
  subst hi
  unfold coI
  split
  · exact hR
  · exact hR
theorem coI_s0 (hq : q = 0) (hi : y ≤ i) (hg : RRQ m E0 D0 M w (spT M kd pl (10 * i + x + 11) (coI M kd pl q (10 * y + x + 11) s (i - y).toNat))) : RRQ m E0 D0 M w (coI M kd pl q (10 * y + x + 11) s (i + 1 - y).toNat) := by
  unfold coI at hg ⊢
  rw [if_pos hq] at hg ⊢
  rw [show (i + 1 - y).toNat = (i - y).toNat + 1 by omega]
  show RRQ m E0 D0 M w (spT M kd pl (10 * y + x + 11 + (((i - y).toNat : Nat) : Int) * 10) _)
  rw [show 10 * y + x + 11 + (((i - y).toNat : Nat) : Int) * 10 = 10 * i + x + 11 by omega]
  exact hg
theorem coI_s1 (hq : q ≠ 0) (hi : y ≤ i) (hg : RRQ m E0 D0 M w (rfnT M pl (10 * i + x + 11) (coI M kd pl q (10 * y + x + 11) s (i - y).toNat))) : RRQ m E0 D0 M w (coI M kd pl q (10 * y + x + 11) s (i + 1 - y).toNat) := by
  unfold coI at hg ⊢
  rw [if_neg hq] at hg ⊢
  rw [show (i + 1 - y).toNat = (i - y).toNat + 1 by omega]
  show RRQ m E0 D0 M w (rfnT M pl (10 * y + x + 11 + (((i - y).toNat : Nat) : Int) * 10) _)
  rw [show 10 * y + x + 11 + (((i - y).toNat : Nat) : Int) * 10 = 10 * i + x + 11 by omega]
  exact hg
theorem coI_e {p : Int} (hq : q = 0 ∨ q = 1) (hd : d = n) (h : RRQ m E0 D0 M w (coI M kd pl q p s d.toNat)) : RRQ m E0 D0 M w (colP M kd pl q p n s) := by
  subst hd
  unfold coI at h
  unfold colP
  by_cases q0 : q = 0
  · rw [if_pos q0] at h ⊢
    exact h
  · rw [if_neg q0] at h ⊢
    rw [if_pos (by omega)]
    exact h
theorem coI_2 {p : Int} (hq : q = 2) (h : RRQ m E0 D0 M w (cnT M kd pl p n s)) : RRQ m E0 D0 M w (colP M kd pl q p n s) := by
  unfold colP
  rw [if_neg (by omega), if_neg (by omega)]
  exact h
end JL
theorem xr_v (a b : Int) : (b = 1 → xr_ a b = 1 - a) ∧ (b ≠ 1 → xr_ a b = a) := by
  unfold xr_
  exact ⟨fun q => if_pos q, fun q => if_neg q⟩
set_option maxRecDepth 20000 in
theorem s_code_e (m : Int) (E0 : ES_) (D0 : Int × DS_) (M : Int → Int) (s : TS_) (x b : Int) (h : Hp_) (hT : TY h) (hx : 0 ≤ x ∧ x ≤ 18) (hb : 0 ≤ b ∧ b ≤ 1) (htb : TBL (h 74) (h 75)) (ha : 32768 ≤ (h 73 32) ∧ (h 73 32) < 65536) (hm : (h 73 29) = 0 → 1 ≤ (h 73 34) ∧ 1 ≤ (h 73 36) ∧ 7 * (h 73 36) - (h 73 34) + PhS (h 96) + 9 ≤ 22300) (hmd : m = 0 ∨ m = 2) (hR : RRQ m E0 D0 M h s) : Ctr yX12_code cX12_code 4 (some .int) (rmd 3) ly ly 0 0 [vR 73, vI x, vI b] h (fun r h' => (TY h' ∧ FRM [73, 96, 97, 98] [28, 32, 33, 34, 36, 39] h h') ∧ ∃ z : Int, r = some (vI z) ∧ (0 ≤ z ∧ z ≤ 1) ∧ (32768 ≤ (h' 73 32) ∧ (h' 73 32) < 65536) ∧ ((h 73 29) = 0 → z = b ∧ 1 ≤ (h' 73 34) ∧ 1 ≤ (h' 73 36) ∧ 7 * (h' 73 36) - (h' 73 34) + PhS (h' 96) ≤ 7 * (h 73 36) - (h 73 34) + PhS (h 96) + 9) ∧ ((h 73 29) ≠ 1 → z = b) ∧ (z = b ∧ RRQ m E0 D0 M h' (evT s x b))) := by
  refine Ctr_of (by decide) (Nat.le_of_ble_eq_true rfl) ⟨Nat.le_refl _, Nat.le_refl _⟩ (fun K hK hQ _ => ?_)
  show TT K ly 0 0 0 [(0, vR 73), (1, vI x), (2, vI b)] [] h
  have hF : FRM [73, 96, 97, 98] [28, 32, 33, 34, 36, 39] h h := FRM_rf _ _ _
  have hmq : h 73 29 = m := hR.2.2.2.2.1
  refine TT_aload_n hK rfl 0 rfl dX12_code_0 ?_
  refine gf_X12_163 hK (by decide) rfl (v := (h 73) 29) rfl dX12_code_1 ?_
  have r1 := ty_73_29 (v := (h 73) 29) hT rfl
  refine TT_if_ne hK (tgt := 14) (irm (by omega) (by omega)) dX12_code_4 (by decide) (fun hb4_2 => ?_) (fun hb4_2 => ?_)
  · refine TT_aload_n hK rfl 0 rfl dX12_code_14 ?_
    refine TT_iload_n hK rfl 1 rfl dX12_code_15 ?_
    have e3_73_32 : h 73 32 = (h 73) 32 := rfl
    refine iv_X12_224 hK (s_readBit_e x h hT (by first | omega | (simp [up, setR] <;> omega)) (by first | assumption | exact htb) (by rewrite [e3_73_32]; first | omega | (simp [up, setR] <;> omega))) (by decide) rfl ⟨by decide, by decide⟩ (by decide) rfl rfl (Nat.le_of_ble_eq_true rfl) ⟨by decide, by decide⟩ dX12_code_16 ?_
    intro r9 g16_4 hp9
    obtain ⟨⟨hT_4, hG_4⟩, z16_4, hr9, hz_4, pa_4, rd_4⟩ := hp9
    rw [hr9]
    have hF_4 : FRM [73, 96, 97, 98] [28, 32, 33, 34, 36, 39] h g16_4 := FRM_tr hF hG_4 (by decide) (by decide)
    rw [show h 73 32 = (h 73) 32 from rfl] at rd_4
    rw [show h 73 33 = (h 73) 33 from rfl] at rd_4
    rw [show h 73 34 = (h 73) 34 from rfl] at rd_4
    rw [show h 73 38 = (h 73) 38 from rfl] at rd_4
    rw [show h 73 39 = (h 73) 39 from rfl] at rd_4
    have rd_at16 := rd_4
    show TT K ly 0 0 19 [(0, vR 73), (1, vI x), (2, vI b)] [vI z16_4] g16_4
    refine TT_istore_n hK rfl (lv' := [(3, vI z16_4), (0, vR 73), (1, vI x), (2, vI b)]) (by decide) rfl dX12_code_19 ?_
    refine TT_aload_n hK rfl 1 rfl dX12_code_20 ?_
    refine gf_X12_163 hK (by decide) rfl (v := (h 73) 29) (hG_4.2 29 (by decide)) dX12_code_21 ?_
    refine TT_iconst hK dX12_code_24 ?_
    refine TT_icmp_ne hK (tgt := 30) (irm (by omega) (by omega)) (by decide) dX12_code_25 (by decide) (fun hb25_5 => ?_) (fun hb25_5 => ?_)
    · refine TT_aload_n hK rfl 1 rfl dX12_code_30 ?_
      refine TT_aload_n hK rfl 1 rfl dX12_code_31 ?_
      refine gf_X12_227 hK (by decide) rfl (v := (h 73) 28) (hG_4.2 28 (by decide)) dX12_code_32 ?_
      have r6 := ty_73_28 (v := (h 73) 28) hT_4 (hG_4.2 28 (by decide))
      refine TT_if_ne hK (tgt := 43) (irm (by omega) (by omega)) dX12_code_35 (by decide) (fun hb35_7 => ?_) (fun hb35_7 => ?_)
      · refine TT_iconst hK dX12_code_43 ?_
        refine TT_goto hK (tgt := 48) dX12_code_44 (by decide) ?_
        refine pf_X12_227 hK (by decide) rfl (by first | decide | omega) dX12_code_48 ?_
        refine TT_hp (h' := setO g16_4 73 (fup (g16_4 73) 28 1)) (up_can rfl rfl rfl) ?_
        have hT_8 : TY (setO g16_4 73 (fup (g16_4 73) 28 1)) := tu_73_28 hT_4 (show up g16_4 73 28 1 = (setO g16_4 73 (fup (g16_4 73) 28 1)) from up_can rfl rfl rfl) (by omega)
        have hF_8 : FRM [73, 96, 97, 98] [28, 32, 33, 34, 36, 39] h (setO g16_4 73 (fup (g16_4 73) 28 1)) := FRM_f (show up g16_4 73 28 1 = (setO g16_4 73 (fup (g16_4 73) 28 1)) from up_can rfl rfl rfl) hF_4 (by decide) (by decide)
        refine TT_iload_n hK rfl 3 rfl dX12_code_51 ?_
        refine TT_iret hK hQ ?_ dX12_code_52
        have e9_73_32 : (setO g16_4 73 (fup (g16_4 73) 28 1)) 73 32 = (g16_4 73) 32 := rd_ (sOf_eq _ _ _) (fup_ne _ _ (by decide))
        have e10_73_34 : (setO g16_4 73 (fup (g16_4 73) 28 1)) 73 34 = (g16_4 73) 34 := rd_ (sOf_eq _ _ _) (fup_ne _ _ (by decide))
        have e11_73_36 : (setO g16_4 73 (fup (g16_4 73) 28 1)) 73 36 = (h 73) 36 := (rd_ (sOf_eq _ _ _) (fup_ne _ _ (by decide))).trans (hG_4.2 36 (by decide))
        have e12_96 : (setO g16_4 73 (fup (g16_4 73) 28 1)) 96 = g16_4 96 := sOf_ne _ _ (by decide)
        exact ⟨⟨hT_8, hF_8⟩, b, rfl, (by omega), (by rewrite [e9_73_32]; omega), (by rewrite [e10_73_34, e11_73_36, e12_96]; omega), (by omega), (by exact ⟨rfl, RRQ_cd hR (CQ_2 hR.2.2.2.2 (by omega) rd_at16 ((rd_ (sOf_eq _ _ _) (fup_ne _ _ (by decide))).trans (hG_4.2 29 (by decide))) ((rd_ (sOf_eq _ _ _) (fup_ne _ _ (by decide))).trans (hG_4.2 38 (by decide))) ((sOf_ne _ _ (by decide)).trans (hG_4.1 99 (by decide))) (Eq.trans (rd_ (sOf_eq _ _ _) (fup_eq _ _ _)) (by split <;> omega)) (rd_ (sOf_eq _ _ _) (fup_ne _ _ (by decide))) (rd_ (sOf_eq _ _ _) (fup_ne _ _ (by decide))) (rd_ (sOf_eq _ _ _) (fup_ne _ _ (by decide))) (rd_ (sOf_eq _ _ _) (fup_ne _ _ (by decide))) (sOf_ne _ _ (by decide)) (sOf_ne _ _ (by decide))) ((sOf_ne _ _ (by decide)).trans (hG_4.1 84 (by decide))) ((sOf_ne _ _ (by decide)).trans (hG_4.1 85 (by decide))) ((sOf_ne _ _ (by decide)).trans (hG_4.1 93 (by decide))) ((sOf_ne _ _ (by decide)).trans (hG_4.1 94 (by decide))) ((sOf_ne _ _ (by decide)).trans (hG_4.1 95 (by decide))) ((sOf_ne _ _ (by decide)).trans (hG_4.1 80 (by decide))) ((sOf_ne _ _ (by decide)).trans (hG_4.1 81 (by decide))) ((rd_ (sOf_eq _ _ _) (fup_ne _ _ (by decide))).trans (hG_4.2 26 (by decide)))⟩)⟩
      · refine TT_iload_n hK rfl 0 rfl dX12_code_38 ?_
        refine TT_iload_n hK rfl 3 rfl dX12_code_39 ?_
        refine TT_icmp_eq hK (tgt := 47) (irm (by omega) (by omega)) (irm (by omega) (by omega)) dX12_code_40 (by decide) (fun hb40_13 => ?_) (fun hb40_13 => ?_)
        · refine TT_iconst hK dX12_code_47 ?_
          refine pf_X12_227 hK (by decide) rfl (by first | decide | omega) dX12_code_48 ?_
          refine TT_hp (h' := setO g16_4 73 (fup (g16_4 73) 28 0)) (up_can rfl rfl rfl) ?_
          have hT_14 : TY (setO g16_4 73 (fup (g16_4 73) 28 0)) := tu_73_28 hT_4 (show up g16_4 73 28 0 = (setO g16_4 73 (fup (g16_4 73) 28 0)) from up_can rfl rfl rfl) (by omega)
          have hF_14 : FRM [73, 96, 97, 98] [28, 32, 33, 34, 36, 39] h (setO g16_4 73 (fup (g16_4 73) 28 0)) := FRM_f (show up g16_4 73 28 0 = (setO g16_4 73 (fup (g16_4 73) 28 0)) from up_can rfl rfl rfl) hF_4 (by decide) (by decide)
          refine TT_iload_n hK rfl 3 rfl dX12_code_51 ?_
          refine TT_iret hK hQ ?_ dX12_code_52
          have e15_73_32 : (setO g16_4 73 (fup (g16_4 73) 28 0)) 73 32 = (g16_4 73) 32 := rd_ (sOf_eq _ _ _) (fup_ne _ _ (by decide))
          have e16_73_34 : (setO g16_4 73 (fup (g16_4 73) 28 0)) 73 34 = (g16_4 73) 34 := rd_ (sOf_eq _ _ _) (fup_ne _ _ (by decide))
          have e17_73_36 : (setO g16_4 73 (fup (g16_4 73) 28 0)) 73 36 = (h 73) 36 := (rd_ (sOf_eq _ _ _) (fup_ne _ _ (by decide))).trans (hG_4.2 36 (by decide))
          have e18_96 : (setO g16_4 73 (fup (g16_4 73) 28 0)) 96 = g16_4 96 := sOf_ne _ _ (by decide)
          exact ⟨⟨hT_14, hF_14⟩, b, rfl, (by omega), (by rewrite [e15_73_32]; omega), (by rewrite [e16_73_34, e17_73_36, e18_96]; omega), (by omega), (by exact ⟨rfl, RRQ_cd hR (CQ_2 hR.2.2.2.2 (by omega) rd_at16 ((rd_ (sOf_eq _ _ _) (fup_ne _ _ (by decide))).trans (hG_4.2 29 (by decide))) ((rd_ (sOf_eq _ _ _) (fup_ne _ _ (by decide))).trans (hG_4.2 38 (by decide))) ((sOf_ne _ _ (by decide)).trans (hG_4.1 99 (by decide))) (Eq.trans (rd_ (sOf_eq _ _ _) (fup_eq _ _ _)) (by split <;> omega)) (rd_ (sOf_eq _ _ _) (fup_ne _ _ (by decide))) (rd_ (sOf_eq _ _ _) (fup_ne _ _ (by decide))) (rd_ (sOf_eq _ _ _) (fup_ne _ _ (by decide))) (rd_ (sOf_eq _ _ _) (fup_ne _ _ (by decide))) (sOf_ne _ _ (by decide)) (sOf_ne _ _ (by decide))) ((sOf_ne _ _ (by decide)).trans (hG_4.1 84 (by decide))) ((sOf_ne _ _ (by decide)).trans (hG_4.1 85 (by decide))) ((sOf_ne _ _ (by decide)).trans (hG_4.1 93 (by decide))) ((sOf_ne _ _ (by decide)).trans (hG_4.1 94 (by decide))) ((sOf_ne _ _ (by decide)).trans (hG_4.1 95 (by decide))) ((sOf_ne _ _ (by decide)).trans (hG_4.1 80 (by decide))) ((sOf_ne _ _ (by decide)).trans (hG_4.1 81 (by decide))) ((rd_ (sOf_eq _ _ _) (fup_ne _ _ (by decide))).trans (hG_4.2 26 (by decide)))⟩)⟩
        · refine TT_iconst hK dX12_code_43 ?_
          refine TT_goto hK (tgt := 48) dX12_code_44 (by decide) ?_
          refine pf_X12_227 hK (by decide) rfl (by first | decide | omega) dX12_code_48 ?_
          refine TT_hp (h' := setO g16_4 73 (fup (g16_4 73) 28 1)) (up_can rfl rfl rfl) ?_
          have hT_19 : TY (setO g16_4 73 (fup (g16_4 73) 28 1)) := tu_73_28 hT_4 (show up g16_4 73 28 1 = (setO g16_4 73 (fup (g16_4 73) 28 1)) from up_can rfl rfl rfl) (by omega)
          have hF_19 : FRM [73, 96, 97, 98] [28, 32, 33, 34, 36, 39] h (setO g16_4 73 (fup (g16_4 73) 28 1)) := FRM_f (show up g16_4 73 28 1 = (setO g16_4 73 (fup (g16_4 73) 28 1)) from up_can rfl rfl rfl) hF_4 (by decide) (by decide)
          refine TT_iload_n hK rfl 3 rfl dX12_code_51 ?_
          refine TT_iret hK hQ ?_ dX12_code_52
          have e20_73_32 : (setO g16_4 73 (fup (g16_4 73) 28 1)) 73 32 = (g16_4 73) 32 := rd_ (sOf_eq _ _ _) (fup_ne _ _ (by decide))
          have e21_73_34 : (setO g16_4 73 (fup (g16_4 73) 28 1)) 73 34 = (g16_4 73) 34 := rd_ (sOf_eq _ _ _) (fup_ne _ _ (by decide))
          have e22_73_36 : (setO g16_4 73 (fup (g16_4 73) 28 1)) 73 36 = (h 73) 36 := (rd_ (sOf_eq _ _ _) (fup_ne _ _ (by decide))).trans (hG_4.2 36 (by decide))
          have e23_96 : (setO g16_4 73 (fup (g16_4 73) 28 1)) 96 = g16_4 96 := sOf_ne _ _ (by decide)
          exact ⟨⟨hT_19, hF_19⟩, b, rfl, (by omega), (by rewrite [e20_73_32]; omega), (by rewrite [e21_73_34, e22_73_36, e23_96]; omega), (by omega), (by exact ⟨rfl, RRQ_cd hR (CQ_2 hR.2.2.2.2 (by omega) rd_at16 ((rd_ (sOf_eq _ _ _) (fup_ne _ _ (by decide))).trans (hG_4.2 29 (by decide))) ((rd_ (sOf_eq _ _ _) (fup_ne _ _ (by decide))).trans (hG_4.2 38 (by decide))) ((sOf_ne _ _ (by decide)).trans (hG_4.1 99 (by decide))) (Eq.trans (rd_ (sOf_eq _ _ _) (fup_eq _ _ _)) (by split <;> omega)) (rd_ (sOf_eq _ _ _) (fup_ne _ _ (by decide))) (rd_ (sOf_eq _ _ _) (fup_ne _ _ (by decide))) (rd_ (sOf_eq _ _ _) (fup_ne _ _ (by decide))) (rd_ (sOf_eq _ _ _) (fup_ne _ _ (by decide))) (sOf_ne _ _ (by decide)) (sOf_ne _ _ (by decide))) ((sOf_ne _ _ (by decide)).trans (hG_4.1 84 (by decide))) ((sOf_ne _ _ (by decide)).trans (hG_4.1 85 (by decide))) ((sOf_ne _ _ (by decide)).trans (hG_4.1 93 (by decide))) ((sOf_ne _ _ (by decide)).trans (hG_4.1 94 (by decide))) ((sOf_ne _ _ (by decide)).trans (hG_4.1 95 (by decide))) ((sOf_ne _ _ (by decide)).trans (hG_4.1 80 (by decide))) ((sOf_ne _ _ (by decide)).trans (hG_4.1 81 (by decide))) ((rd_ (sOf_eq _ _ _) (fup_ne _ _ (by decide))).trans (hG_4.2 26 (by decide)))⟩)⟩
    · refine TT_iload_n hK rfl 0 rfl dX12_code_28 ?_
      refine TT_iret hK hQ ?_ dX12_code_29
      have e24_73_32 : g16_4 73 32 = (g16_4 73) 32 := rfl
      have e25_73_34 : g16_4 73 34 = (g16_4 73) 34 := rfl
      have e26_73_36 : g16_4 73 36 = (h 73) 36 := (hG_4.2 36 (by decide))
      exact ⟨⟨hT_4, hF_4⟩, z16_4, rfl, (by omega), (by rewrite [e24_73_32]; omega), (by rewrite [e25_73_34, e26_73_36]; omega), (by omega), (by exfalso; omega)⟩
  · refine TT_aload_n hK rfl 0 rfl dX12_code_7 ?_
    refine TT_iload_n hK rfl 1 rfl dX12_code_8 ?_
    refine TT_iload_n hK rfl 2 rfl dX12_code_9 ?_
    have e27_73_32 : h 73 32 = (h 73) 32 := rfl
    have e28_73_34 : h 73 34 = (h 73) 34 := rfl
    have e29_73_36 : h 73 36 = (h 73) 36 := rfl
    have e30_73_34 : h 73 34 = (h 73) 34 := rfl
    have e31_73_36 : h 73 36 = (h 73) 36 := rfl
    have e32_73_32 : h 73 32 = (h 73) 32 := rfl
    have e33_73_33 : h 73 33 = (h 73) 33 := rfl
    have e34_73_34 : h 73 34 = (h 73) 34 := rfl
    have e35_73_36 : h 73 36 = (h 73) 36 := rfl
    refine iv_X12_221 hK (s_tellBit_e x b h hT (by first | omega | (simp [up, setR] <;> omega)) (by first | omega | (simp [up, setR] <;> omega)) (by first | assumption | exact htb) (by rewrite [e27_73_32]; first | omega | (simp [up, setR] <;> omega)) (by rewrite [e28_73_34]; first | omega | (simp [up, setR] <;> omega)) (by rewrite [e29_73_36]; first | omega | (simp [up, setR] <;> omega)) (by rewrite [e30_73_34, e31_73_36]; first | omega | (simp [up, setR] <;> omega)) (by rewrite [e32_73_32, e33_73_33, e34_73_34, e35_73_36]; exact CQ_mq hR.2.2.2.2 (by omega))) (by decide) rfl ⟨by decide, by decide⟩ (by decide) rfl rfl (Nat.le_of_ble_eq_true rfl) ⟨by decide, by decide⟩ dX12_code_10 ?_
    intro r9 g10_36 hp9
    obtain ⟨⟨hT_36, hG_36⟩, z10_36, hr9, hz_36, p1_36, pa_36, pt_36, pn_36, pp_36, te_36⟩ := hp9
    rw [hr9]
    have hF_36 : FRM [73, 96, 97, 98] [28, 32, 33, 34, 36, 39] h g10_36 := FRM_tr hF hG_36 (by decide) (by decide)
    rw [show h 73 34 = (h 73) 34 from rfl] at pp_36
    rw [show h 73 36 = (h 73) 36 from rfl] at pp_36
    rw [show h 73 32 = (h 73) 32 from rfl] at te_36
    rw [show h 73 33 = (h 73) 33 from rfl] at te_36
    rw [show h 73 34 = (h 73) 34 from rfl] at te_36
    rw [show h 73 36 = (h 73) 36 from rfl] at te_36
    have te_at10 := te_36
    show TT K ly 0 0 13 [(0, vR 73), (1, vI x), (2, vI b)] [vI z10_36] g10_36
    refine TT_iret hK hQ ?_ dX12_code_13
    have e37_73_32 : g10_36 73 32 = (g10_36 73) 32 := rfl
    have e38_73_34 : g10_36 73 34 = (g10_36 73) 34 := rfl
    have e39_73_36 : g10_36 73 36 = (g10_36 73) 36 := rfl
    exact ⟨⟨hT_36, hF_36⟩, z10_36, rfl, (by omega), (by rewrite [e37_73_32]; omega), (by rewrite [e38_73_34, e39_73_36]; omega), (by omega), (by exact ⟨by omega, RRQ_cd hR (CQ_0 hR.2.2.2.2 (by omega) (hG_36.2 29 (by decide)) te_at10 hx) (hG_36.1 84 (by decide)) (hG_36.1 85 (by decide)) (hG_36.1 93 (by decide)) (hG_36.1 94 (by decide)) (hG_36.1 95 (by decide)) (hG_36.1 80 (by decide)) (hG_36.1 81 (by decide)) (hG_36.2 26 (by decide))⟩)⟩
set_option maxRecDepth 20000 in
theorem s_wake_x (m : Int) (E0 : ES_) (D0 : Int × DS_) (M : Int → Int) (s : TS_) (x y : Int) (h : Hp_) (hT : TY h) (hx : 0 ≤ x ∧ x ≤ 7) (hy : 0 ≤ y ∧ y ≤ 7) (htb : TBL (h 74) (h 75)) (ha : 32768 ≤ (h 73 32) ∧ (h 73 32) < 65536) (hm : (h 73 29) = 0 → 1 ≤ (h 73 34) ∧ 1 ≤ (h 73 36) ∧ 7 * (h 73 36) - (h 73 34) + PhS (h 96) + 9 ≤ 22300) (hw1 : (h 73 29) = 1 → 10 ≤ (h 73 26)) (hmd : m = 0 ∨ m = 2) (hR : RRQ m E0 D0 M h s) (hxw : x < (h 80) (h 73 26)) (hyg : y < (h 81) (h 73 26)) (h8 : (h 80) (h 73 26) ≤ 8 ∧ (h 81) (h 73 26) ≤ 8) : Ctr yX12_wake cX12_wake 10 none (rmd 4) ly ly 0 0 [vR 73, vI x, vI y] h (fun r h' => (TY h' ∧ FRM [73, 85, 93, 96, 97, 98] [28, 32, 33, 34, 36, 39] h h') ∧ r = none ∧ (32768 ≤ (h' 73 32) ∧ (h' 73 32) < 65536) ∧ ((h 73 29) = 0 → 1 ≤ (h' 73 34) ∧ 1 ≤ (h' 73 36) ∧ 7 * (h' 73 36) - (h' 73 34) + PhS (h' 96) ≤ 7 * (h 73 36) - (h 73 34) + PhS (h 96) + 9) ∧ (∀ w e : Int, x < w → w ≤ 8 → y < e → e ≤ 8 → (h 93) (10 * y + x + 11) = 0 → ZC w e (h' 93) + 1 = ZC w e (h 93)) ∧ (∀ j : Int, j < 640 → (h' 84) j = (h 84) j ∧ (h' 85) j = (h 85) j) ∧ (RRQ m E0 D0 M h' (wkT M (10 * y + x + 11) s))) := by
  refine Ctr_of (by decide) (Nat.le_of_ble_eq_true rfl) ⟨Nat.le_refl _, Nat.le_refl _⟩ (fun K hK hQ _ => ?_)
  show TT K ly 0 0 0 [(0, vR 73), (1, vI x), (2, vI y)] [] h
  have hF : FRM [73, 85, 93, 96, 97, 98] [28, 32, 33, 34, 36, 39] h h := FRM_rf _ _ _
  have hmq : h 73 29 = m := hR.2.2.2.2.1
  refine TT_iload_n hK rfl 1 rfl dX12_wake_0 ?_
  refine TT_iload_n hK rfl 2 rfl dX12_wake_1 ?_
  refine iv_X12_234 hK (s_X12_spot x y h hT (by first | omega | (simp [up, setR] <;> omega)) (by first | omega | (simp [up, setR] <;> omega))) ⟨by decide, by decide⟩ (by decide) rfl rfl (Nat.le_of_ble_eq_true rfl) ⟨by decide, by decide⟩ dX12_wake_2 ?_
  intro r9 g2_1 hp9
  obtain ⟨⟨hT_1, hG_1⟩, z2_1, hr9, hz_1, p1_1⟩ := hp9
  rw [hr9]
  have hE_1 : h = g2_1 := (funext (fun o9 => hG_1.1 o9 (List.not_mem_nil))).symm
  subst hE_1
  show TT K ly 0 0 5 [(0, vR 73), (1, vI x), (2, vI y)] [vI z2_1] h
  refine TT_cgI (b := 10 * y + x + 11) (by omega) ?_
  refine TT_istore_n hK rfl (lv' := [(3, vI (10 * y + x + 11)), (0, vR 73), (1, vI x), (2, vI y)]) (by decide) rfl dX12_wake_5 ?_
  refine TT_aload_n hK rfl 1 rfl dX12_wake_6 ?_
  refine gf_X12_75 hK (by decide) rfl (q := 93) rfl rfl dX12_wake_7 ?_
  refine TT_iload_n hK rfl 0 rfl dX12_wake_10 ?_
  refine TT_iconst hK dX12_wake_11 ?_
  refine TT_isub hK dX12_wake_12 ?_
  refine TT_iald hK (o := 93) (n := 100) (by decide) rfl (by first | omega | (simp [up, setR] <;> omega)) (by first | omega | (simp [up, setR] <;> omega)) (v := (h 93) ((10 * y + x + 11) - 1)) rfl dX12_wake_13 ?_
  have r2 := ty_93 (i := (10 * y + x + 11) - 1) (v := (h 93) ((10 * y + x + 11) - 1)) hT rfl (by omega) (by omega)
  refine TT_aload_n hK rfl 1 rfl dX12_wake_14 ?_
  refine gf_X12_75 hK (by decide) rfl (q := 93) rfl rfl dX12_wake_15 ?_
  refine TT_iload_n hK rfl 0 rfl dX12_wake_18 ?_
  refine TT_iconst hK dX12_wake_19 ?_
  refine TT_iadd hK dX12_wake_20 ?_
  refine TT_iald hK (o := 93) (n := 100) (by decide) rfl (by first | omega | (simp [up, setR] <;> omega)) (by first | omega | (simp [up, setR] <;> omega)) (v := (h 93) ((10 * y + x + 11) + 1)) rfl dX12_wake_21 ?_
  have r3 := ty_93 (i := (10 * y + x + 11) + 1) (v := (h 93) ((10 * y + x + 11) + 1)) hT rfl (by omega) (by omega)
  refine TT_iadd hK dX12_wake_22 ?_
  refine iv_X12_255 hK (s_unit_e (((h 93) ((10 * y + x + 11) - 1)) + ((h 93) ((10 * y + x + 11) + 1))) h hT (by first | omega | (simp [up, setR] <;> omega))) ⟨by decide, by decide⟩ (by decide) rfl rfl (Nat.le_of_ble_eq_true rfl) ⟨by decide, by decide⟩ dX12_wake_23 ?_
  intro r9 g23_4 hp9
  obtain ⟨⟨hT_4, hG_4⟩, z23_4, hr9, hz_4, e_4⟩ := hp9
  rw [hr9]
  have hE_4 : h = g23_4 := (funext (fun o9 => hG_4.1 o9 (List.not_mem_nil))).symm
  subst hE_4
  have e_at23 := e_4
  show TT K ly 0 0 26 [(3, vI (10 * y + x + 11)), (0, vR 73), (1, vI x), (2, vI y)] [vI z23_4] h
  refine TT_istore hK (lv' := [(4, vI z23_4), (3, vI (10 * y + x + 11)), (0, vR 73), (1, vI x), (2, vI y)]) (by decide) rfl dX12_wake_26 ?_
  refine TT_aload_n hK rfl 2 rfl dX12_wake_28 ?_
  refine gf_X12_75 hK (by decide) rfl (q := 93) rfl rfl dX12_wake_29 ?_
  refine TT_iload_n hK rfl 1 rfl dX12_wake_32 ?_
  refine TT_bipush hK (by decide) dX12_wake_33 ?_
  refine TT_isub hK dX12_wake_35 ?_
  refine TT_iald hK (o := 93) (n := 100) (by decide) rfl (by first | omega | (simp [up, setR] <;> omega)) (by first | omega | (simp [up, setR] <;> omega)) (v := (h 93) ((10 * y + x + 11) - 10)) rfl dX12_wake_36 ?_
  have r5 := ty_93 (i := (10 * y + x + 11) - 10) (v := (h 93) ((10 * y + x + 11) - 10)) hT rfl (by omega) (by omega)
  refine TT_aload_n hK rfl 2 rfl dX12_wake_37 ?_
  refine gf_X12_75 hK (by decide) rfl (q := 93) rfl rfl dX12_wake_38 ?_
  refine TT_iload_n hK rfl 1 rfl dX12_wake_41 ?_
  refine TT_bipush hK (by decide) dX12_wake_42 ?_
  refine TT_iadd hK dX12_wake_44 ?_
  refine TT_iald hK (o := 93) (n := 100) (by decide) rfl (by first | omega | (simp [up, setR] <;> omega)) (by first | omega | (simp [up, setR] <;> omega)) (v := (h 93) ((10 * y + x + 11) + 10)) rfl dX12_wake_45 ?_
  have r6 := ty_93 (i := (10 * y + x + 11) + 10) (v := (h 93) ((10 * y + x + 11) + 10)) hT rfl (by omega) (by omega)
  refine TT_iadd hK dX12_wake_46 ?_
  refine iv_X12_255 hK (s_unit_e (((h 93) ((10 * y + x + 11) - 10)) + ((h 93) ((10 * y + x + 11) + 10))) h hT (by first | omega | (simp [up, setR] <;> omega))) ⟨by decide, by decide⟩ (by decide) rfl rfl (Nat.le_of_ble_eq_true rfl) ⟨by decide, by decide⟩ dX12_wake_47 ?_
  intro r9 g47_7 hp9
  obtain ⟨⟨hT_7, hG_7⟩, z47_7, hr9, hz_7, e_7⟩ := hp9
  rw [hr9]
  have hE_7 : h = g47_7 := (funext (fun o9 => hG_7.1 o9 (List.not_mem_nil))).symm
  subst hE_7
  have e_at47 := e_7
  show TT K ly 0 0 50 [(4, vI z23_4), (3, vI (10 * y + x + 11)), (0, vR 73), (1, vI x), (2, vI y)] [vI z47_7] h
  refine TT_istore hK (lv' := [(5, vI z47_7), (4, vI z23_4), (3, vI (10 * y + x + 11)), (0, vR 73), (1, vI x), (2, vI y)]) (by decide) rfl dX12_wake_50 ?_
  have J74_8 : ∀ (a : Int) (b : Int) (t9 : Int), (-1 ≤ a ∧ a ≤ 1) → (-1 ≤ b ∧ b ≤ 1) → (0 ≤ t9 ∧ t9 ≤ 1) → (a = sgA (h 93) (10 * y + x + 11)) → (b = sgB (h 93) (10 * y + x + 11)) → (t9 = sgT (h 93) (10 * y + x + 11)) → TT K ly 0 0 74 [(0, vR 73), (1, vI x), (2, vI y), (3, vI (10 * y + x + 11)), (4, vI a), (5, vI b), (6, vI t9)] [] h := by
    intro a b t9 ha4 hb4 ht9 ha9 hb9 ht9x
    have J102_9 : ∀ (cx : Int), (0 ≤ cx ∧ cx ≤ 18) → (cx = sgX (h 93) (10 * y + x + 11)) → TT K ly 0 0 102 [(0, vR 73), (1, vI x), (2, vI y), (3, vI (10 * y + x + 11)), (4, vI a), (5, vI b), (6, vI t9), (7, vI cx)] [] h := by
      intro cx hcx hcx9
      have J123_10 : ∀ (sg : Int), (0 ≤ sg ∧ sg ≤ 1) → (sg = (h 85 (64 * (h 73 26) + 8 * y + x))) → TT K ly 0 0 123 [(0, vR 73), (1, vI x), (2, vI y), (3, vI (10 * y + x + 11)), (4, vI a), (5, vI b), (6, vI t9), (7, vI cx), (8, vI sg)] [] h := by
        intro sg hsg hsg9
        refine TT_aload_n hK rfl 0 rfl dX12_wake_123 ?_
        refine TT_iload hK 7 rfl dX12_wake_124 ?_
        refine TT_iload hK 6 rfl dX12_wake_126 ?_
        refine TT_if_eq hK (tgt := 138) (irm (by omega) (by omega)) dX12_wake_128 (by decide) (fun hb128_11 => ?_) (fun hb128_11 => ?_)
        · refine TT_iload hK 8 rfl dX12_wake_138 ?_
          refine TT_cgI (b := xr_ sg t9) (by have q9 := xr_v sg t9; omega) ?_
          have e12_73_32 : h 73 32 = (h 73) 32 := rfl
          have e13_73_29 : h 73 29 = (h 73) 29 := rfl
          have e14_73_34 : h 73 34 = (h 73) 34 := rfl
          have e15_73_36 : h 73 36 = (h 73) 36 := rfl
          refine iv_X12_258 hK (s_code_e m E0 D0 M s cx (xr_ sg t9) h hT (by first | omega | (simp [up, setR] <;> omega)) (by exact xr_01 hsg ht9) (by first | assumption | exact htb) (by rewrite [e12_73_32]; first | omega | (simp [up, setR] <;> omega)) (by rewrite [e13_73_29, e14_73_34, e15_73_36]; first | omega | (simp [up, setR] <;> omega)) (by exact hmd) (by first | assumption | exact hR)) (by decide) rfl ⟨by decide, by decide⟩ (by decide) rfl rfl (Nat.le_of_ble_eq_true rfl) ⟨by decide, by decide⟩ dX12_wake_140 ?_
          intro r9 g140_16 hp9
          obtain ⟨⟨hT_16, hG_16⟩, z140_16, hr9, hz_16, pa_16, pm_16, pc_16, cq_16⟩ := hp9
          rw [hr9]
          have hF_16 : FRM [73, 85, 93, 96, 97, 98] [28, 32, 33, 34, 36, 39] h g140_16 := FRM_tr hF hG_16 (by decide) (by decide)
          rw [show h 73 29 = (h 73) 29 from rfl] at pm_16
          rw [show h 73 34 = (h 73) 34 from rfl] at pm_16
          rw [show h 73 36 = (h 73) 36 from rfl] at pm_16
          rw [show h 73 29 = (h 73) 29 from rfl] at pc_16
          have cq_at140 := cq_16
          show TT K ly 0 0 143 [(0, vR 73), (1, vI x), (2, vI y), (3, vI (10 * y + x + 11)), (4, vI a), (5, vI b), (6, vI t9), (7, vI cx), (8, vI sg)] [vI z140_16] g140_16
          refine TT_istore hK (lv' := [(9, vI z140_16), (0, vR 73), (1, vI x), (2, vI y), (3, vI (10 * y + x + 11)), (4, vI a), (5, vI b), (6, vI t9), (7, vI cx), (8, vI sg)]) (by decide) rfl dX12_wake_143 ?_
          refine TT_iload hK 7 rfl dX12_wake_145 ?_
          refine TT_if_eq hK (tgt := 157) (irm (by omega) (by omega)) dX12_wake_147 (by decide) (fun hb147_17 => ?_) (fun hb147_17 => ?_)
          · refine TT_iload hK 0 rfl dX12_wake_157 ?_
            refine TT_cgI (b := sg) (by have q9 := xr_v sg t9; have z9 := cq_at140.1; omega) ?_
            refine TT_istore hK (lv' := [(8, vI sg), (9, vI z140_16), (0, vR 73), (1, vI x), (2, vI y), (3, vI (10 * y + x + 11)), (4, vI a), (5, vI b), (6, vI t9), (7, vI cx)]) (by decide) rfl dX12_wake_159 ?_
            refine TT_aload_n hK rfl 2 rfl dX12_wake_161 ?_
            refine gf_X12_50 hK (by decide) rfl (q := 85) rfl rfl dX12_wake_162 ?_
            refine TT_aload_n hK rfl 2 rfl dX12_wake_165 ?_
            refine TT_iload_n hK rfl 3 rfl dX12_wake_166 ?_
            refine TT_iload_n hK rfl 4 rfl dX12_wake_167 ?_
            refine iv_X12_249 hK (s_X12_cell_73 x y g140_16 hT_16 (by first | omega | (simp [up, setR] <;> omega)) (by first | omega | (simp [up, setR] <;> omega))) (by decide) rfl ⟨by decide, by decide⟩ (by decide) rfl rfl (Nat.le_of_ble_eq_true rfl) ⟨by decide, by decide⟩ dX12_wake_168 ?_
            intro r9 g168_18 hp9
            obtain ⟨⟨hT_18, hG_18⟩, z168_18, hr9, hz_18, p1_18⟩ := hp9
            rw [hr9]
            have hE_18 : g140_16 = g168_18 := (funext (fun o9 => hG_18.1 o9 (List.not_mem_nil))).symm
            subst hE_18
            rw [show g140_16 73 26 = (h 73) 26 from (hG_16.2 26 (by decide))] at p1_18
            show TT K ly 0 0 171 [(8, vI sg), (9, vI z140_16), (0, vR 73), (1, vI x), (2, vI y), (3, vI (10 * y + x + 11)), (4, vI a), (5, vI b), (6, vI t9), (7, vI cx)] [vI z168_18, vR 85] g140_16
            refine TT_cgI (b := 64 * (h 73 26) + 8 * y + x) (by omega) ?_
            refine TT_iload hK 0 rfl dX12_wake_171 ?_
            refine TT_iconst hK dX12_wake_173 ?_
            refine TT_icmp_ne hK (tgt := 181) (irm (by omega) (by omega)) (by decide) dX12_wake_174 (by decide) (fun hb174_19 => ?_) (fun hb174_19 => ?_)
            · refine TT_iconst hK dX12_wake_181 ?_
              refine TT_zast hK (o := 85) (n := 1280) (by decide) rfl (by omega) (by omega) (by first | decide | omega) dX12_wake_182 ?_
              refine TT_hp (h' := setO g140_16 85 (fup (h 85) (64 * (h 73 26) + 8 * y + x) 0)) (up_can (hG_16.1 85 (by decide)) rfl rfl) ?_
              have hT_20 : TY (setO g140_16 85 (fup (h 85) (64 * (h 73 26) + 8 * y + x) 0)) := tu_85 hT_16 (show up g140_16 85 (64 * (h 73 26) + 8 * y + x) 0 = (setO g140_16 85 (fup (h 85) (64 * (h 73 26) + 8 * y + x) 0)) from up_can (hG_16.1 85 (by decide)) rfl rfl) (by omega)
              have hF_20 : FRM [73, 85, 93, 96, 97, 98] [28, 32, 33, 34, 36, 39] h (setO g140_16 85 (fup (h 85) (64 * (h 73 26) + 8 * y + x) 0)) := FRM_up (show up g140_16 85 (64 * (h 73 26) + 8 * y + x) 0 = (setO g140_16 85 (fup (h 85) (64 * (h 73 26) + 8 * y + x) 0)) from up_can (hG_16.1 85 (by decide)) rfl rfl) hF_16 (by decide) (by decide)
              refine TT_aload_n hK rfl 2 rfl dX12_wake_183 ?_
              refine gf_X12_75 hK (by decide) rfl (q := 93) rfl rfl dX12_wake_184 ?_
              refine TT_iload_n hK rfl 5 rfl dX12_wake_187 ?_
              refine TT_iload hK 0 rfl dX12_wake_188 ?_
              refine TT_iconst hK dX12_wake_190 ?_
              refine TT_icmp_ne hK (tgt := 198) (irm (by omega) (by omega)) (by decide) dX12_wake_191 (by decide) (fun hb191_21 => ?_) (fun hb191_21 => ?_)
              · refine TT_iconst hK dX12_wake_198 ?_
                refine TT_iast hK (o := 93) (n := 100) (by decide) rfl (by omega) (by omega) dX12_wake_199 ?_
                refine TT_hp (h' := setO (setO g140_16 85 (fup (h 85) (64 * (h 73 26) + 8 * y + x) 0)) 93 (fup (h 93) (10 * y + x + 11) 1)) (up_can ((sOf_ne _ _ (by decide)).trans (hG_16.1 93 (by decide))) rfl rfl) ?_
                have hT_22 : TY (setO (setO g140_16 85 (fup (h 85) (64 * (h 73 26) + 8 * y + x) 0)) 93 (fup (h 93) (10 * y + x + 11) 1)) := tu_93 hT_20 (show up (setO g140_16 85 (fup (h 85) (64 * (h 73 26) + 8 * y + x) 0)) 93 (10 * y + x + 11) 1 = (setO (setO g140_16 85 (fup (h 85) (64 * (h 73 26) + 8 * y + x) 0)) 93 (fup (h 93) (10 * y + x + 11) 1)) from up_can ((sOf_ne _ _ (by decide)).trans (hG_16.1 93 (by decide))) rfl rfl) (by omega)
                have hF_22 : FRM [73, 85, 93, 96, 97, 98] [28, 32, 33, 34, 36, 39] h (setO (setO g140_16 85 (fup (h 85) (64 * (h 73 26) + 8 * y + x) 0)) 93 (fup (h 93) (10 * y + x + 11) 1)) := FRM_up (show up (setO g140_16 85 (fup (h 85) (64 * (h 73 26) + 8 * y + x) 0)) 93 (10 * y + x + 11) 1 = (setO (setO g140_16 85 (fup (h 85) (64 * (h 73 26) + 8 * y + x) 0)) 93 (fup (h 93) (10 * y + x + 11) 1)) from up_can ((sOf_ne _ _ (by decide)).trans (hG_16.1 93 (by decide))) rfl rfl) hF_20 (by decide) (by decide)
                refine TT_aload_n hK rfl 2 rfl dX12_wake_200 ?_
                refine gf_X12_163 hK (by decide) rfl (v := (h 73) 29) ((rd_ ((sOf_ne _ _ (by decide)).trans (sOf_ne _ _ (by decide))) rfl).trans (hG_16.2 29 (by decide))) dX12_wake_201 ?_
                have r23 := ty_73_29 (v := (h 73) 29) hT_22 ((rd_ ((sOf_ne _ _ (by decide)).trans (sOf_ne _ _ (by decide))) rfl).trans (hG_16.2 29 (by decide)))
                refine TT_iconst hK dX12_wake_204 ?_
                refine TT_icmp_ne hK (tgt := 237) (irm (by omega) (by omega)) (by decide) dX12_wake_205 (by decide) (fun hb205_24 => ?_) (fun hb205_24 => ?_)
                · refine TT_vret hK hQ ?_ dX12_wake_237
                  have e25_73_32 : (setO (setO g140_16 85 (fup (h 85) (64 * (h 73 26) + 8 * y + x) 0)) 93 (fup (h 93) (10 * y + x + 11) 1)) 73 32 = (g140_16 73) 32 := rd_ ((sOf_ne _ _ (by decide)).trans (sOf_ne _ _ (by decide))) rfl
                  have e26_73_34 : (setO (setO g140_16 85 (fup (h 85) (64 * (h 73 26) + 8 * y + x) 0)) 93 (fup (h 93) (10 * y + x + 11) 1)) 73 34 = (g140_16 73) 34 := rd_ ((sOf_ne _ _ (by decide)).trans (sOf_ne _ _ (by decide))) rfl
                  have e27_73_36 : (setO (setO g140_16 85 (fup (h 85) (64 * (h 73 26) + 8 * y + x) 0)) 93 (fup (h 93) (10 * y + x + 11) 1)) 73 36 = (g140_16 73) 36 := rd_ ((sOf_ne _ _ (by decide)).trans (sOf_ne _ _ (by decide))) rfl
                  have e28_96 : (setO (setO g140_16 85 (fup (h 85) (64 * (h 73 26) + 8 * y + x) 0)) 93 (fup (h 93) (10 * y + x + 11) 1)) 96 = g140_16 96 := (sOf_ne _ _ (by decide)).trans (sOf_ne _ _ (by decide))
                  have e29_93 : (setO (setO g140_16 85 (fup (h 85) (64 * (h 73 26) + 8 * y + x) 0)) 93 (fup (h 93) (10 * y + x + 11) 1)) 93 = fup (h 93) (10 * y + x + 11) 1 := sOf_eq _ _ _
                  have e30_84 : (setO (setO g140_16 85 (fup (h 85) (64 * (h 73 26) + 8 * y + x) 0)) 93 (fup (h 93) (10 * y + x + 11) 1)) 84 = h 84 := (sOf_ne _ _ (by decide)).trans ((sOf_ne _ _ (by decide)).trans (hG_16.1 84 (by decide)))
                  have e31_85 : (setO (setO g140_16 85 (fup (h 85) (64 * (h 73 26) + 8 * y + x) 0)) 93 (fup (h 93) (10 * y + x + 11) 1)) 85 = fup (h 85) (64 * (h 73 26) + 8 * y + x) 0 := (sOf_ne _ _ (by decide)).trans (sOf_eq _ _ _)
                  exact ⟨⟨hT_22, hF_22⟩, rfl, (by rewrite [e25_73_32]; omega), (by rewrite [e26_73_34, e27_73_36, e28_96]; omega), (by rewrite [e29_93]; intro w e h1 h2 h3 h4 h5; exact ZC_up ⟨hx.1, h1⟩ h2 ⟨hy.1, h3⟩ h4 h5 (by decide)), (by rewrite [e30_84, e31_85]; first | (intro j hj; exact ⟨(by first | rfl | exact fup_ne _ _ (by omega)), (by by_cases e : j = 64 * (h 73 26) + 8 * y + x; (rw [e, fup_eq]; omega); exact fup_ne _ _ e)⟩) | (intro j hj; exact ⟨rfl, (pki j hj).2⟩) | (intro j hj; exact ⟨rfl, rfl⟩)), (by exact RRQ_wk hR (CQ_cg cq_at140.2.2.2.2.2 (congrFun ((sOf_ne _ _ (by decide)).trans (sOf_ne _ _ (by decide))) 28) (congrFun ((sOf_ne _ _ (by decide)).trans (sOf_ne _ _ (by decide))) 29) (congrFun ((sOf_ne _ _ (by decide)).trans (sOf_ne _ _ (by decide))) 32) (congrFun ((sOf_ne _ _ (by decide)).trans (sOf_ne _ _ (by decide))) 33) (congrFun ((sOf_ne _ _ (by decide)).trans (sOf_ne _ _ (by decide))) 34) (congrFun ((sOf_ne _ _ (by decide)).trans (sOf_ne _ _ (by decide))) 36) (congrFun ((sOf_ne _ _ (by decide)).trans (sOf_ne _ _ (by decide))) 38) (congrFun ((sOf_ne _ _ (by decide)).trans (sOf_ne _ _ (by decide))) 39) ((sOf_ne _ _ (by decide)).trans (sOf_ne _ _ (by decide))) ((sOf_ne _ _ (by decide)).trans (sOf_ne _ _ (by decide))) ((sOf_ne _ _ (by decide)).trans (sOf_ne _ _ (by decide))) ((sOf_ne _ _ (by decide)).trans (sOf_ne _ _ (by decide)))) ⟨hx.1, hxw⟩ ⟨hy.1, hyg⟩ h8 hcx9 (by rw [← hsg9, ← ht9x]) (sOf_eq _ _ _) (by first | rw [if_pos (by omega)] | rw [if_neg (by omega)]) ((sOf_ne _ _ (by decide)).trans (sOf_eq _ _ _)) (by omega) ((sOf_ne _ _ (by decide)).trans ((sOf_ne _ _ (by decide)).trans (hG_16.1 84 (by decide)))) ((sOf_ne _ _ (by decide)).trans ((sOf_ne _ _ (by decide)).trans (hG_16.1 94 (by decide)))) ((sOf_ne _ _ (by decide)).trans ((sOf_ne _ _ (by decide)).trans (hG_16.1 95 (by decide)))) ((sOf_ne _ _ (by decide)).trans ((sOf_ne _ _ (by decide)).trans (hG_16.1 80 (by decide)))) ((sOf_ne _ _ (by decide)).trans ((sOf_ne _ _ (by decide)).trans (hG_16.1 81 (by decide)))) ((rd_ ((sOf_ne _ _ (by decide)).trans (sOf_ne _ _ (by decide))) rfl).trans (hG_16.2 26 (by decide))))⟩
                · exfalso; omega
              · exfalso; omega
            · refine TT_iconst hK dX12_wake_177 ?_
              refine TT_goto hK (tgt := 182) dX12_wake_178 (by decide) ?_
              refine TT_zast hK (o := 85) (n := 1280) (by decide) rfl (by omega) (by omega) (by first | decide | omega) dX12_wake_182 ?_
              refine TT_hp (h' := setO g140_16 85 (fup (h 85) (64 * (h 73 26) + 8 * y + x) 1)) (up_can (hG_16.1 85 (by decide)) rfl rfl) ?_
              have hT_32 : TY (setO g140_16 85 (fup (h 85) (64 * (h 73 26) + 8 * y + x) 1)) := tu_85 hT_16 (show up g140_16 85 (64 * (h 73 26) + 8 * y + x) 1 = (setO g140_16 85 (fup (h 85) (64 * (h 73 26) + 8 * y + x) 1)) from up_can (hG_16.1 85 (by decide)) rfl rfl) (by omega)
              have hF_32 : FRM [73, 85, 93, 96, 97, 98] [28, 32, 33, 34, 36, 39] h (setO g140_16 85 (fup (h 85) (64 * (h 73 26) + 8 * y + x) 1)) := FRM_up (show up g140_16 85 (64 * (h 73 26) + 8 * y + x) 1 = (setO g140_16 85 (fup (h 85) (64 * (h 73 26) + 8 * y + x) 1)) from up_can (hG_16.1 85 (by decide)) rfl rfl) hF_16 (by decide) (by decide)
              refine TT_aload_n hK rfl 2 rfl dX12_wake_183 ?_
              refine gf_X12_75 hK (by decide) rfl (q := 93) rfl rfl dX12_wake_184 ?_
              refine TT_iload_n hK rfl 5 rfl dX12_wake_187 ?_
              refine TT_iload hK 0 rfl dX12_wake_188 ?_
              refine TT_iconst hK dX12_wake_190 ?_
              refine TT_icmp_ne hK (tgt := 198) (irm (by omega) (by omega)) (by decide) dX12_wake_191 (by decide) (fun hb191_33 => ?_) (fun hb191_33 => ?_)
              · exfalso; omega
              · refine TT_iconst hK dX12_wake_194 ?_
                refine TT_goto hK (tgt := 199) dX12_wake_195 (by decide) ?_
                refine TT_iast hK (o := 93) (n := 100) (by decide) rfl (by omega) (by omega) dX12_wake_199 ?_
                refine TT_hp (h' := setO (setO g140_16 85 (fup (h 85) (64 * (h 73 26) + 8 * y + x) 1)) 93 (fup (h 93) (10 * y + x + 11) (-1))) (up_can ((sOf_ne _ _ (by decide)).trans (hG_16.1 93 (by decide))) rfl rfl) ?_
                have hT_34 : TY (setO (setO g140_16 85 (fup (h 85) (64 * (h 73 26) + 8 * y + x) 1)) 93 (fup (h 93) (10 * y + x + 11) (-1))) := tu_93 hT_32 (show up (setO g140_16 85 (fup (h 85) (64 * (h 73 26) + 8 * y + x) 1)) 93 (10 * y + x + 11) (-1) = (setO (setO g140_16 85 (fup (h 85) (64 * (h 73 26) + 8 * y + x) 1)) 93 (fup (h 93) (10 * y + x + 11) (-1))) from up_can ((sOf_ne _ _ (by decide)).trans (hG_16.1 93 (by decide))) rfl rfl) (by omega)
                have hF_34 : FRM [73, 85, 93, 96, 97, 98] [28, 32, 33, 34, 36, 39] h (setO (setO g140_16 85 (fup (h 85) (64 * (h 73 26) + 8 * y + x) 1)) 93 (fup (h 93) (10 * y + x + 11) (-1))) := FRM_up (show up (setO g140_16 85 (fup (h 85) (64 * (h 73 26) + 8 * y + x) 1)) 93 (10 * y + x + 11) (-1) = (setO (setO g140_16 85 (fup (h 85) (64 * (h 73 26) + 8 * y + x) 1)) 93 (fup (h 93) (10 * y + x + 11) (-1))) from up_can ((sOf_ne _ _ (by decide)).trans (hG_16.1 93 (by decide))) rfl rfl) hF_32 (by decide) (by decide)
                refine TT_aload_n hK rfl 2 rfl dX12_wake_200 ?_
                refine gf_X12_163 hK (by decide) rfl (v := (h 73) 29) ((rd_ ((sOf_ne _ _ (by decide)).trans (sOf_ne _ _ (by decide))) rfl).trans (hG_16.2 29 (by decide))) dX12_wake_201 ?_
                have r35 := ty_73_29 (v := (h 73) 29) hT_34 ((rd_ ((sOf_ne _ _ (by decide)).trans (sOf_ne _ _ (by decide))) rfl).trans (hG_16.2 29 (by decide)))
                refine TT_iconst hK dX12_wake_204 ?_
                refine TT_icmp_ne hK (tgt := 237) (irm (by omega) (by omega)) (by decide) dX12_wake_205 (by decide) (fun hb205_36 => ?_) (fun hb205_36 => ?_)
                · refine TT_vret hK hQ ?_ dX12_wake_237
                  have e37_73_32 : (setO (setO g140_16 85 (fup (h 85) (64 * (h 73 26) + 8 * y + x) 1)) 93 (fup (h 93) (10 * y + x + 11) (-1))) 73 32 = (g140_16 73) 32 := rd_ ((sOf_ne _ _ (by decide)).trans (sOf_ne _ _ (by decide))) rfl
                  have e38_73_34 : (setO (setO g140_16 85 (fup (h 85) (64 * (h 73 26) + 8 * y + x) 1)) 93 (fup (h 93) (10 * y + x + 11) (-1))) 73 34 = (g140_16 73) 34 := rd_ ((sOf_ne _ _ (by decide)).trans (sOf_ne _ _ (by decide))) rfl
                  have e39_73_36 : (setO (setO g140_16 85 (fup (h 85) (64 * (h 73 26) + 8 * y + x) 1)) 93 (fup (h 93) (10 * y + x + 11) (-1))) 73 36 = (g140_16 73) 36 := rd_ ((sOf_ne _ _ (by decide)).trans (sOf_ne _ _ (by decide))) rfl
                  have e40_96 : (setO (setO g140_16 85 (fup (h 85) (64 * (h 73 26) + 8 * y + x) 1)) 93 (fup (h 93) (10 * y + x + 11) (-1))) 96 = g140_16 96 := (sOf_ne _ _ (by decide)).trans (sOf_ne _ _ (by decide))
                  have e41_93 : (setO (setO g140_16 85 (fup (h 85) (64 * (h 73 26) + 8 * y + x) 1)) 93 (fup (h 93) (10 * y + x + 11) (-1))) 93 = fup (h 93) (10 * y + x + 11) (-1) := sOf_eq _ _ _
                  have e42_84 : (setO (setO g140_16 85 (fup (h 85) (64 * (h 73 26) + 8 * y + x) 1)) 93 (fup (h 93) (10 * y + x + 11) (-1))) 84 = h 84 := (sOf_ne _ _ (by decide)).trans ((sOf_ne _ _ (by decide)).trans (hG_16.1 84 (by decide)))
                  have e43_85 : (setO (setO g140_16 85 (fup (h 85) (64 * (h 73 26) + 8 * y + x) 1)) 93 (fup (h 93) (10 * y + x + 11) (-1))) 85 = fup (h 85) (64 * (h 73 26) + 8 * y + x) 1 := (sOf_ne _ _ (by decide)).trans (sOf_eq _ _ _)
                  exact ⟨⟨hT_34, hF_34⟩, rfl, (by rewrite [e37_73_32]; omega), (by rewrite [e38_73_34, e39_73_36, e40_96]; omega), (by rewrite [e41_93]; intro w e h1 h2 h3 h4 h5; exact ZC_up ⟨hx.1, h1⟩ h2 ⟨hy.1, h3⟩ h4 h5 (by decide)), (by rewrite [e42_84, e43_85]; first | (intro j hj; exact ⟨(by first | rfl | exact fup_ne _ _ (by omega)), (by by_cases e : j = 64 * (h 73 26) + 8 * y + x; (rw [e, fup_eq]; omega); exact fup_ne _ _ e)⟩) | (intro j hj; exact ⟨rfl, (pki j hj).2⟩) | (intro j hj; exact ⟨rfl, rfl⟩)), (by exact RRQ_wk hR (CQ_cg cq_at140.2.2.2.2.2 (congrFun ((sOf_ne _ _ (by decide)).trans (sOf_ne _ _ (by decide))) 28) (congrFun ((sOf_ne _ _ (by decide)).trans (sOf_ne _ _ (by decide))) 29) (congrFun ((sOf_ne _ _ (by decide)).trans (sOf_ne _ _ (by decide))) 32) (congrFun ((sOf_ne _ _ (by decide)).trans (sOf_ne _ _ (by decide))) 33) (congrFun ((sOf_ne _ _ (by decide)).trans (sOf_ne _ _ (by decide))) 34) (congrFun ((sOf_ne _ _ (by decide)).trans (sOf_ne _ _ (by decide))) 36) (congrFun ((sOf_ne _ _ (by decide)).trans (sOf_ne _ _ (by decide))) 38) (congrFun ((sOf_ne _ _ (by decide)).trans (sOf_ne _ _ (by decide))) 39) ((sOf_ne _ _ (by decide)).trans (sOf_ne _ _ (by decide))) ((sOf_ne _ _ (by decide)).trans (sOf_ne _ _ (by decide))) ((sOf_ne _ _ (by decide)).trans (sOf_ne _ _ (by decide))) ((sOf_ne _ _ (by decide)).trans (sOf_ne _ _ (by decide)))) ⟨hx.1, hxw⟩ ⟨hy.1, hyg⟩ h8 hcx9 (by rw [← hsg9, ← ht9x]) (sOf_eq _ _ _) (by first | rw [if_pos (by omega)] | rw [if_neg (by omega)]) ((sOf_ne _ _ (by decide)).trans (sOf_eq _ _ _)) (by omega) ((sOf_ne _ _ (by decide)).trans ((sOf_ne _ _ (by decide)).trans (hG_16.1 84 (by decide)))) ((sOf_ne _ _ (by decide)).trans ((sOf_ne _ _ (by decide)).trans (hG_16.1 94 (by decide)))) ((sOf_ne _ _ (by decide)).trans ((sOf_ne _ _ (by decide)).trans (hG_16.1 95 (by decide)))) ((sOf_ne _ _ (by decide)).trans ((sOf_ne _ _ (by decide)).trans (hG_16.1 80 (by decide)))) ((sOf_ne _ _ (by decide)).trans ((sOf_ne _ _ (by decide)).trans (hG_16.1 81 (by decide)))) ((rd_ ((sOf_ne _ _ (by decide)).trans (sOf_ne _ _ (by decide))) rfl).trans (hG_16.2 26 (by decide))))⟩
                · exfalso; omega
          · exfalso; omega
        · refine TT_iconst hK dX12_wake_131 ?_
          refine TT_iload hK 8 rfl dX12_wake_132 ?_
          refine TT_isub hK dX12_wake_134 ?_
          refine TT_goto hK (tgt := 140) dX12_wake_135 (by decide) ?_
          refine TT_cgI (b := xr_ sg t9) (by have q9 := xr_v sg t9; omega) ?_
          have e44_73_32 : h 73 32 = (h 73) 32 := rfl
          have e45_73_29 : h 73 29 = (h 73) 29 := rfl
          have e46_73_34 : h 73 34 = (h 73) 34 := rfl
          have e47_73_36 : h 73 36 = (h 73) 36 := rfl
          refine iv_X12_258 hK (s_code_e m E0 D0 M s cx (xr_ sg t9) h hT (by first | omega | (simp [up, setR] <;> omega)) (by exact xr_01 hsg ht9) (by first | assumption | exact htb) (by rewrite [e44_73_32]; first | omega | (simp [up, setR] <;> omega)) (by rewrite [e45_73_29, e46_73_34, e47_73_36]; first | omega | (simp [up, setR] <;> omega)) (by exact hmd) (by first | assumption | exact hR)) (by decide) rfl ⟨by decide, by decide⟩ (by decide) rfl rfl (Nat.le_of_ble_eq_true rfl) ⟨by decide, by decide⟩ dX12_wake_140 ?_
          intro r9 g140_48 hp9
          obtain ⟨⟨hT_48, hG_48⟩, z140_48, hr9, hz_48, pa_48, pm_48, pc_48, cq_48⟩ := hp9
          rw [hr9]
          have hF_48 : FRM [73, 85, 93, 96, 97, 98] [28, 32, 33, 34, 36, 39] h g140_48 := FRM_tr hF hG_48 (by decide) (by decide)
          rw [show h 73 29 = (h 73) 29 from rfl] at pm_48
          rw [show h 73 34 = (h 73) 34 from rfl] at pm_48
          rw [show h 73 36 = (h 73) 36 from rfl] at pm_48
          rw [show h 73 29 = (h 73) 29 from rfl] at pc_48
          have cq_at140 := cq_48
          show TT K ly 0 0 143 [(0, vR 73), (1, vI x), (2, vI y), (3, vI (10 * y + x + 11)), (4, vI a), (5, vI b), (6, vI t9), (7, vI cx), (8, vI sg)] [vI z140_48] g140_48
          refine TT_istore hK (lv' := [(9, vI z140_48), (0, vR 73), (1, vI x), (2, vI y), (3, vI (10 * y + x + 11)), (4, vI a), (5, vI b), (6, vI t9), (7, vI cx), (8, vI sg)]) (by decide) rfl dX12_wake_143 ?_
          refine TT_iload hK 7 rfl dX12_wake_145 ?_
          refine TT_if_eq hK (tgt := 157) (irm (by omega) (by omega)) dX12_wake_147 (by decide) (fun hb147_49 => ?_) (fun hb147_49 => ?_)
          · exfalso; omega
          · refine TT_iconst hK dX12_wake_150 ?_
            refine TT_iload hK 0 rfl dX12_wake_151 ?_
            refine TT_isub hK dX12_wake_153 ?_
            refine TT_goto hK (tgt := 159) dX12_wake_154 (by decide) ?_
            refine TT_cgI (b := sg) (by have q9 := xr_v sg t9; have z9 := cq_at140.1; omega) ?_
            refine TT_istore hK (lv' := [(8, vI sg), (9, vI z140_48), (0, vR 73), (1, vI x), (2, vI y), (3, vI (10 * y + x + 11)), (4, vI a), (5, vI b), (6, vI t9), (7, vI cx)]) (by decide) rfl dX12_wake_159 ?_
            refine TT_aload_n hK rfl 2 rfl dX12_wake_161 ?_
            refine gf_X12_50 hK (by decide) rfl (q := 85) rfl rfl dX12_wake_162 ?_
            refine TT_aload_n hK rfl 2 rfl dX12_wake_165 ?_
            refine TT_iload_n hK rfl 3 rfl dX12_wake_166 ?_
            refine TT_iload_n hK rfl 4 rfl dX12_wake_167 ?_
            refine iv_X12_249 hK (s_X12_cell_73 x y g140_48 hT_48 (by first | omega | (simp [up, setR] <;> omega)) (by first | omega | (simp [up, setR] <;> omega))) (by decide) rfl ⟨by decide, by decide⟩ (by decide) rfl rfl (Nat.le_of_ble_eq_true rfl) ⟨by decide, by decide⟩ dX12_wake_168 ?_
            intro r9 g168_50 hp9
            obtain ⟨⟨hT_50, hG_50⟩, z168_50, hr9, hz_50, p1_50⟩ := hp9
            rw [hr9]
            have hE_50 : g140_48 = g168_50 := (funext (fun o9 => hG_50.1 o9 (List.not_mem_nil))).symm
            subst hE_50
            rw [show g140_48 73 26 = (h 73) 26 from (hG_48.2 26 (by decide))] at p1_50
            show TT K ly 0 0 171 [(8, vI sg), (9, vI z140_48), (0, vR 73), (1, vI x), (2, vI y), (3, vI (10 * y + x + 11)), (4, vI a), (5, vI b), (6, vI t9), (7, vI cx)] [vI z168_50, vR 85] g140_48
            refine TT_cgI (b := 64 * (h 73 26) + 8 * y + x) (by omega) ?_
            refine TT_iload hK 0 rfl dX12_wake_171 ?_
            refine TT_iconst hK dX12_wake_173 ?_
            refine TT_icmp_ne hK (tgt := 181) (irm (by omega) (by omega)) (by decide) dX12_wake_174 (by decide) (fun hb174_51 => ?_) (fun hb174_51 => ?_)
            · refine TT_iconst hK dX12_wake_181 ?_
              refine TT_zast hK (o := 85) (n := 1280) (by decide) rfl (by omega) (by omega) (by first | decide | omega) dX12_wake_182 ?_
              refine TT_hp (h' := setO g140_48 85 (fup (h 85) (64 * (h 73 26) + 8 * y + x) 0)) (up_can (hG_48.1 85 (by decide)) rfl rfl) ?_
              have hT_52 : TY (setO g140_48 85 (fup (h 85) (64 * (h 73 26) + 8 * y + x) 0)) := tu_85 hT_48 (show up g140_48 85 (64 * (h 73 26) + 8 * y + x) 0 = (setO g140_48 85 (fup (h 85) (64 * (h 73 26) + 8 * y + x) 0)) from up_can (hG_48.1 85 (by decide)) rfl rfl) (by omega)
              have hF_52 : FRM [73, 85, 93, 96, 97, 98] [28, 32, 33, 34, 36, 39] h (setO g140_48 85 (fup (h 85) (64 * (h 73 26) + 8 * y + x) 0)) := FRM_up (show up g140_48 85 (64 * (h 73 26) + 8 * y + x) 0 = (setO g140_48 85 (fup (h 85) (64 * (h 73 26) + 8 * y + x) 0)) from up_can (hG_48.1 85 (by decide)) rfl rfl) hF_48 (by decide) (by decide)
              refine TT_aload_n hK rfl 2 rfl dX12_wake_183 ?_
              refine gf_X12_75 hK (by decide) rfl (q := 93) rfl rfl dX12_wake_184 ?_
              refine TT_iload_n hK rfl 5 rfl dX12_wake_187 ?_
              refine TT_iload hK 0 rfl dX12_wake_188 ?_
              refine TT_iconst hK dX12_wake_190 ?_
              refine TT_icmp_ne hK (tgt := 198) (irm (by omega) (by omega)) (by decide) dX12_wake_191 (by decide) (fun hb191_53 => ?_) (fun hb191_53 => ?_)
              · refine TT_iconst hK dX12_wake_198 ?_
                refine TT_iast hK (o := 93) (n := 100) (by decide) rfl (by omega) (by omega) dX12_wake_199 ?_
                refine TT_hp (h' := setO (setO g140_48 85 (fup (h 85) (64 * (h 73 26) + 8 * y + x) 0)) 93 (fup (h 93) (10 * y + x + 11) 1)) (up_can ((sOf_ne _ _ (by decide)).trans (hG_48.1 93 (by decide))) rfl rfl) ?_
                have hT_54 : TY (setO (setO g140_48 85 (fup (h 85) (64 * (h 73 26) + 8 * y + x) 0)) 93 (fup (h 93) (10 * y + x + 11) 1)) := tu_93 hT_52 (show up (setO g140_48 85 (fup (h 85) (64 * (h 73 26) + 8 * y + x) 0)) 93 (10 * y + x + 11) 1 = (setO (setO g140_48 85 (fup (h 85) (64 * (h 73 26) + 8 * y + x) 0)) 93 (fup (h 93) (10 * y + x + 11) 1)) from up_can ((sOf_ne _ _ (by decide)).trans (hG_48.1 93 (by decide))) rfl rfl) (by omega)
                have hF_54 : FRM [73, 85, 93, 96, 97, 98] [28, 32, 33, 34, 36, 39] h (setO (setO g140_48 85 (fup (h 85) (64 * (h 73 26) + 8 * y + x) 0)) 93 (fup (h 93) (10 * y + x + 11) 1)) := FRM_up (show up (setO g140_48 85 (fup (h 85) (64 * (h 73 26) + 8 * y + x) 0)) 93 (10 * y + x + 11) 1 = (setO (setO g140_48 85 (fup (h 85) (64 * (h 73 26) + 8 * y + x) 0)) 93 (fup (h 93) (10 * y + x + 11) 1)) from up_can ((sOf_ne _ _ (by decide)).trans (hG_48.1 93 (by decide))) rfl rfl) hF_52 (by decide) (by decide)
                refine TT_aload_n hK rfl 2 rfl dX12_wake_200 ?_
                refine gf_X12_163 hK (by decide) rfl (v := (h 73) 29) ((rd_ ((sOf_ne _ _ (by decide)).trans (sOf_ne _ _ (by decide))) rfl).trans (hG_48.2 29 (by decide))) dX12_wake_201 ?_
                have r55 := ty_73_29 (v := (h 73) 29) hT_54 ((rd_ ((sOf_ne _ _ (by decide)).trans (sOf_ne _ _ (by decide))) rfl).trans (hG_48.2 29 (by decide)))
                refine TT_iconst hK dX12_wake_204 ?_
                refine TT_icmp_ne hK (tgt := 237) (irm (by omega) (by omega)) (by decide) dX12_wake_205 (by decide) (fun hb205_56 => ?_) (fun hb205_56 => ?_)
                · refine TT_vret hK hQ ?_ dX12_wake_237
                  have e57_73_32 : (setO (setO g140_48 85 (fup (h 85) (64 * (h 73 26) + 8 * y + x) 0)) 93 (fup (h 93) (10 * y + x + 11) 1)) 73 32 = (g140_48 73) 32 := rd_ ((sOf_ne _ _ (by decide)).trans (sOf_ne _ _ (by decide))) rfl
                  have e58_73_34 : (setO (setO g140_48 85 (fup (h 85) (64 * (h 73 26) + 8 * y + x) 0)) 93 (fup (h 93) (10 * y + x + 11) 1)) 73 34 = (g140_48 73) 34 := rd_ ((sOf_ne _ _ (by decide)).trans (sOf_ne _ _ (by decide))) rfl
                  have e59_73_36 : (setO (setO g140_48 85 (fup (h 85) (64 * (h 73 26) + 8 * y + x) 0)) 93 (fup (h 93) (10 * y + x + 11) 1)) 73 36 = (g140_48 73) 36 := rd_ ((sOf_ne _ _ (by decide)).trans (sOf_ne _ _ (by decide))) rfl
                  have e60_96 : (setO (setO g140_48 85 (fup (h 85) (64 * (h 73 26) + 8 * y + x) 0)) 93 (fup (h 93) (10 * y + x + 11) 1)) 96 = g140_48 96 := (sOf_ne _ _ (by decide)).trans (sOf_ne _ _ (by decide))
                  have e61_93 : (setO (setO g140_48 85 (fup (h 85) (64 * (h 73 26) + 8 * y + x) 0)) 93 (fup (h 93) (10 * y + x + 11) 1)) 93 = fup (h 93) (10 * y + x + 11) 1 := sOf_eq _ _ _
                  have e62_84 : (setO (setO g140_48 85 (fup (h 85) (64 * (h 73 26) + 8 * y + x) 0)) 93 (fup (h 93) (10 * y + x + 11) 1)) 84 = h 84 := (sOf_ne _ _ (by decide)).trans ((sOf_ne _ _ (by decide)).trans (hG_48.1 84 (by decide)))
                  have e63_85 : (setO (setO g140_48 85 (fup (h 85) (64 * (h 73 26) + 8 * y + x) 0)) 93 (fup (h 93) (10 * y + x + 11) 1)) 85 = fup (h 85) (64 * (h 73 26) + 8 * y + x) 0 := (sOf_ne _ _ (by decide)).trans (sOf_eq _ _ _)
                  exact ⟨⟨hT_54, hF_54⟩, rfl, (by rewrite [e57_73_32]; omega), (by rewrite [e58_73_34, e59_73_36, e60_96]; omega), (by rewrite [e61_93]; intro w e h1 h2 h3 h4 h5; exact ZC_up ⟨hx.1, h1⟩ h2 ⟨hy.1, h3⟩ h4 h5 (by decide)), (by rewrite [e62_84, e63_85]; first | (intro j hj; exact ⟨(by first | rfl | exact fup_ne _ _ (by omega)), (by by_cases e : j = 64 * (h 73 26) + 8 * y + x; (rw [e, fup_eq]; omega); exact fup_ne _ _ e)⟩) | (intro j hj; exact ⟨rfl, (pki j hj).2⟩) | (intro j hj; exact ⟨rfl, rfl⟩)), (by exact RRQ_wk hR (CQ_cg cq_at140.2.2.2.2.2 (congrFun ((sOf_ne _ _ (by decide)).trans (sOf_ne _ _ (by decide))) 28) (congrFun ((sOf_ne _ _ (by decide)).trans (sOf_ne _ _ (by decide))) 29) (congrFun ((sOf_ne _ _ (by decide)).trans (sOf_ne _ _ (by decide))) 32) (congrFun ((sOf_ne _ _ (by decide)).trans (sOf_ne _ _ (by decide))) 33) (congrFun ((sOf_ne _ _ (by decide)).trans (sOf_ne _ _ (by decide))) 34) (congrFun ((sOf_ne _ _ (by decide)).trans (sOf_ne _ _ (by decide))) 36) (congrFun ((sOf_ne _ _ (by decide)).trans (sOf_ne _ _ (by decide))) 38) (congrFun ((sOf_ne _ _ (by decide)).trans (sOf_ne _ _ (by decide))) 39) ((sOf_ne _ _ (by decide)).trans (sOf_ne _ _ (by decide))) ((sOf_ne _ _ (by decide)).trans (sOf_ne _ _ (by decide))) ((sOf_ne _ _ (by decide)).trans (sOf_ne _ _ (by decide))) ((sOf_ne _ _ (by decide)).trans (sOf_ne _ _ (by decide)))) ⟨hx.1, hxw⟩ ⟨hy.1, hyg⟩ h8 hcx9 (by rw [← hsg9, ← ht9x]) (sOf_eq _ _ _) (by first | rw [if_pos (by omega)] | rw [if_neg (by omega)]) ((sOf_ne _ _ (by decide)).trans (sOf_eq _ _ _)) (by omega) ((sOf_ne _ _ (by decide)).trans ((sOf_ne _ _ (by decide)).trans (hG_48.1 84 (by decide)))) ((sOf_ne _ _ (by decide)).trans ((sOf_ne _ _ (by decide)).trans (hG_48.1 94 (by decide)))) ((sOf_ne _ _ (by decide)).trans ((sOf_ne _ _ (by decide)).trans (hG_48.1 95 (by decide)))) ((sOf_ne _ _ (by decide)).trans ((sOf_ne _ _ (by decide)).trans (hG_48.1 80 (by decide)))) ((sOf_ne _ _ (by decide)).trans ((sOf_ne _ _ (by decide)).trans (hG_48.1 81 (by decide)))) ((rd_ ((sOf_ne _ _ (by decide)).trans (sOf_ne _ _ (by decide))) rfl).trans (hG_48.2 26 (by decide))))⟩
                · exfalso; omega
              · exfalso; omega
            · refine TT_iconst hK dX12_wake_177 ?_
              refine TT_goto hK (tgt := 182) dX12_wake_178 (by decide) ?_
              refine TT_zast hK (o := 85) (n := 1280) (by decide) rfl (by omega) (by omega) (by first | decide | omega) dX12_wake_182 ?_
              refine TT_hp (h' := setO g140_48 85 (fup (h 85) (64 * (h 73 26) + 8 * y + x) 1)) (up_can (hG_48.1 85 (by decide)) rfl rfl) ?_
              have hT_64 : TY (setO g140_48 85 (fup (h 85) (64 * (h 73 26) + 8 * y + x) 1)) := tu_85 hT_48 (show up g140_48 85 (64 * (h 73 26) + 8 * y + x) 1 = (setO g140_48 85 (fup (h 85) (64 * (h 73 26) + 8 * y + x) 1)) from up_can (hG_48.1 85 (by decide)) rfl rfl) (by omega)
              have hF_64 : FRM [73, 85, 93, 96, 97, 98] [28, 32, 33, 34, 36, 39] h (setO g140_48 85 (fup (h 85) (64 * (h 73 26) + 8 * y + x) 1)) := FRM_up (show up g140_48 85 (64 * (h 73 26) + 8 * y + x) 1 = (setO g140_48 85 (fup (h 85) (64 * (h 73 26) + 8 * y + x) 1)) from up_can (hG_48.1 85 (by decide)) rfl rfl) hF_48 (by decide) (by decide)
              refine TT_aload_n hK rfl 2 rfl dX12_wake_183 ?_
              refine gf_X12_75 hK (by decide) rfl (q := 93) rfl rfl dX12_wake_184 ?_
              refine TT_iload_n hK rfl 5 rfl dX12_wake_187 ?_
              refine TT_iload hK 0 rfl dX12_wake_188 ?_
              refine TT_iconst hK dX12_wake_190 ?_
              refine TT_icmp_ne hK (tgt := 198) (irm (by omega) (by omega)) (by decide) dX12_wake_191 (by decide) (fun hb191_65 => ?_) (fun hb191_65 => ?_)
              · exfalso; omega
              · refine TT_iconst hK dX12_wake_194 ?_
                refine TT_goto hK (tgt := 199) dX12_wake_195 (by decide) ?_
                refine TT_iast hK (o := 93) (n := 100) (by decide) rfl (by omega) (by omega) dX12_wake_199 ?_
                refine TT_hp (h' := setO (setO g140_48 85 (fup (h 85) (64 * (h 73 26) + 8 * y + x) 1)) 93 (fup (h 93) (10 * y + x + 11) (-1))) (up_can ((sOf_ne _ _ (by decide)).trans (hG_48.1 93 (by decide))) rfl rfl) ?_
                have hT_66 : TY (setO (setO g140_48 85 (fup (h 85) (64 * (h 73 26) + 8 * y + x) 1)) 93 (fup (h 93) (10 * y + x + 11) (-1))) := tu_93 hT_64 (show up (setO g140_48 85 (fup (h 85) (64 * (h 73 26) + 8 * y + x) 1)) 93 (10 * y + x + 11) (-1) = (setO (setO g140_48 85 (fup (h 85) (64 * (h 73 26) + 8 * y + x) 1)) 93 (fup (h 93) (10 * y + x + 11) (-1))) from up_can ((sOf_ne _ _ (by decide)).trans (hG_48.1 93 (by decide))) rfl rfl) (by omega)
                have hF_66 : FRM [73, 85, 93, 96, 97, 98] [28, 32, 33, 34, 36, 39] h (setO (setO g140_48 85 (fup (h 85) (64 * (h 73 26) + 8 * y + x) 1)) 93 (fup (h 93) (10 * y + x + 11) (-1))) := FRM_up (show up (setO g140_48 85 (fup (h 85) (64 * (h 73 26) + 8 * y + x) 1)) 93 (10 * y + x + 11) (-1) = (setO (setO g140_48 85 (fup (h 85) (64 * (h 73 26) + 8 * y + x) 1)) 93 (fup (h 93) (10 * y + x + 11) (-1))) from up_can ((sOf_ne _ _ (by decide)).trans (hG_48.1 93 (by decide))) rfl rfl) hF_64 (by decide) (by decide)
                refine TT_aload_n hK rfl 2 rfl dX12_wake_200 ?_
                refine gf_X12_163 hK (by decide) rfl (v := (h 73) 29) ((rd_ ((sOf_ne _ _ (by decide)).trans (sOf_ne _ _ (by decide))) rfl).trans (hG_48.2 29 (by decide))) dX12_wake_201 ?_
                have r67 := ty_73_29 (v := (h 73) 29) hT_66 ((rd_ ((sOf_ne _ _ (by decide)).trans (sOf_ne _ _ (by decide))) rfl).trans (hG_48.2 29 (by decide)))
                refine TT_iconst hK dX12_wake_204 ?_
                refine TT_icmp_ne hK (tgt := 237) (irm (by omega) (by omega)) (by decide) dX12_wake_205 (by decide) (fun hb205_68 => ?_) (fun hb205_68 => ?_)
                · refine TT_vret hK hQ ?_ dX12_wake_237
                  have e69_73_32 : (setO (setO g140_48 85 (fup (h 85) (64 * (h 73 26) + 8 * y + x) 1)) 93 (fup (h 93) (10 * y + x + 11) (-1))) 73 32 = (g140_48 73) 32 := rd_ ((sOf_ne _ _ (by decide)).trans (sOf_ne _ _ (by decide))) rfl
                  have e70_73_34 : (setO (setO g140_48 85 (fup (h 85) (64 * (h 73 26) + 8 * y + x) 1)) 93 (fup (h 93) (10 * y + x + 11) (-1))) 73 34 = (g140_48 73) 34 := rd_ ((sOf_ne _ _ (by decide)).trans (sOf_ne _ _ (by decide))) rfl
                  have e71_73_36 : (setO (setO g140_48 85 (fup (h 85) (64 * (h 73 26) + 8 * y + x) 1)) 93 (fup (h 93) (10 * y + x + 11) (-1))) 73 36 = (g140_48 73) 36 := rd_ ((sOf_ne _ _ (by decide)).trans (sOf_ne _ _ (by decide))) rfl
                  have e72_96 : (setO (setO g140_48 85 (fup (h 85) (64 * (h 73 26) + 8 * y + x) 1)) 93 (fup (h 93) (10 * y + x + 11) (-1))) 96 = g140_48 96 := (sOf_ne _ _ (by decide)).trans (sOf_ne _ _ (by decide))
                  have e73_93 : (setO (setO g140_48 85 (fup (h 85) (64 * (h 73 26) + 8 * y + x) 1)) 93 (fup (h 93) (10 * y + x + 11) (-1))) 93 = fup (h 93) (10 * y + x + 11) (-1) := sOf_eq _ _ _
                  have e74_84 : (setO (setO g140_48 85 (fup (h 85) (64 * (h 73 26) + 8 * y + x) 1)) 93 (fup (h 93) (10 * y + x + 11) (-1))) 84 = h 84 := (sOf_ne _ _ (by decide)).trans ((sOf_ne _ _ (by decide)).trans (hG_48.1 84 (by decide)))
                  have e75_85 : (setO (setO g140_48 85 (fup (h 85) (64 * (h 73 26) + 8 * y + x) 1)) 93 (fup (h 93) (10 * y + x + 11) (-1))) 85 = fup (h 85) (64 * (h 73 26) + 8 * y + x) 1 := (sOf_ne _ _ (by decide)).trans (sOf_eq _ _ _)
                  exact ⟨⟨hT_66, hF_66⟩, rfl, (by rewrite [e69_73_32]; omega), (by rewrite [e70_73_34, e71_73_36, e72_96]; omega), (by rewrite [e73_93]; intro w e h1 h2 h3 h4 h5; exact ZC_up ⟨hx.1, h1⟩ h2 ⟨hy.1, h3⟩ h4 h5 (by decide)), (by rewrite [e74_84, e75_85]; first | (intro j hj; exact ⟨(by first | rfl | exact fup_ne _ _ (by omega)), (by by_cases e : j = 64 * (h 73 26) + 8 * y + x; (rw [e, fup_eq]; omega); exact fup_ne _ _ e)⟩) | (intro j hj; exact ⟨rfl, (pki j hj).2⟩) | (intro j hj; exact ⟨rfl, rfl⟩)), (by exact RRQ_wk hR (CQ_cg cq_at140.2.2.2.2.2 (congrFun ((sOf_ne _ _ (by decide)).trans (sOf_ne _ _ (by decide))) 28) (congrFun ((sOf_ne _ _ (by decide)).trans (sOf_ne _ _ (by decide))) 29) (congrFun ((sOf_ne _ _ (by decide)).trans (sOf_ne _ _ (by decide))) 32) (congrFun ((sOf_ne _ _ (by decide)).trans (sOf_ne _ _ (by decide))) 33) (congrFun ((sOf_ne _ _ (by decide)).trans (sOf_ne _ _ (by decide))) 34) (congrFun ((sOf_ne _ _ (by decide)).trans (sOf_ne _ _ (by decide))) 36) (congrFun ((sOf_ne _ _ (by decide)).trans (sOf_ne _ _ (by decide))) 38) (congrFun ((sOf_ne _ _ (by decide)).trans (sOf_ne _ _ (by decide))) 39) ((sOf_ne _ _ (by decide)).trans (sOf_ne _ _ (by decide))) ((sOf_ne _ _ (by decide)).trans (sOf_ne _ _ (by decide))) ((sOf_ne _ _ (by decide)).trans (sOf_ne _ _ (by decide))) ((sOf_ne _ _ (by decide)).trans (sOf_ne _ _ (by decide)))) ⟨hx.1, hxw⟩ ⟨hy.1, hyg⟩ h8 hcx9 (by rw [← hsg9, ← ht9x]) (sOf_eq _ _ _) (by first | rw [if_pos (by omega)] | rw [if_neg (by omega)]) ((sOf_ne _ _ (by decide)).trans (sOf_eq _ _ _)) (by omega) ((sOf_ne _ _ (by decide)).trans ((sOf_ne _ _ (by decide)).trans (hG_48.1 84 (by decide)))) ((sOf_ne _ _ (by decide)).trans ((sOf_ne _ _ (by decide)).trans (hG_48.1 94 (by decide)))) ((sOf_ne _ _ (by decide)).trans ((sOf_ne _ _ (by decide)).trans (hG_48.1 95 (by decide)))) ((sOf_ne _ _ (by decide)).trans ((sOf_ne _ _ (by decide)).trans (hG_48.1 80 (by decide)))) ((sOf_ne _ _ (by decide)).trans ((sOf_ne _ _ (by decide)).trans (hG_48.1 81 (by decide)))) ((rd_ ((sOf_ne _ _ (by decide)).trans (sOf_ne _ _ (by decide))) rfl).trans (hG_48.2 26 (by decide))))⟩
                · exfalso; omega
      refine TT_aload_n hK rfl 0 rfl dX12_wake_102 ?_
      refine gf_X12_50 hK (by decide) rfl (q := 85) rfl rfl dX12_wake_103 ?_
      refine TT_aload_n hK rfl 0 rfl dX12_wake_106 ?_
      refine TT_iload_n hK rfl 1 rfl dX12_wake_107 ?_
      refine TT_iload_n hK rfl 2 rfl dX12_wake_108 ?_
      refine iv_X12_249 hK (s_X12_cell_73 x y h hT (by first | omega | (simp [up, setR] <;> omega)) (by first | omega | (simp [up, setR] <;> omega))) (by decide) rfl ⟨by decide, by decide⟩ (by decide) rfl rfl (Nat.le_of_ble_eq_true rfl) ⟨by decide, by decide⟩ dX12_wake_109 ?_
      intro r9 g109_76 hp9
      obtain ⟨⟨hT_76, hG_76⟩, z109_76, hr9, hz_76, p1_76⟩ := hp9
      rw [hr9]
      have hE_76 : h = g109_76 := (funext (fun o9 => hG_76.1 o9 (List.not_mem_nil))).symm
      subst hE_76
      rw [show h 73 26 = (h 73) 26 from rfl] at p1_76
      show TT K ly 0 0 112 [(0, vR 73), (1, vI x), (2, vI y), (3, vI (10 * y + x + 11)), (4, vI a), (5, vI b), (6, vI t9), (7, vI cx)] [vI z109_76, vR 85] h
      refine TT_cgI (b := 64 * (h 73 26) + 8 * y + x) (by omega) ?_
      refine TT_zald hK (o := 85) (n := 1280) (by decide) rfl (by first | omega | (simp [up, setR] <;> omega)) (by first | omega | (simp [up, setR] <;> omega)) (v := (h 85) (64 * (h 73 26) + 8 * y + x)) rfl dX12_wake_112 ?_
      have r77 := ty_85 (i := 64 * (h 73 26) + 8 * y + x) (v := (h 85) (64 * (h 73 26) + 8 * y + x)) hT rfl (by omega) (by omega)
      refine TT_if_eq hK (tgt := 120) (irm (by omega) (by omega)) dX12_wake_113 (by decide) (fun hb113_78 => ?_) (fun hb113_78 => ?_)
      · refine TT_iconst hK dX12_wake_120 ?_
        refine TT_istore hK (lv' := [(8, vI 0), (0, vR 73), (1, vI x), (2, vI y), (3, vI (10 * y + x + 11)), (4, vI a), (5, vI b), (6, vI t9), (7, vI cx)]) (by decide) rfl dX12_wake_121 ?_
        refine TT_sub [1, 2, 3, 4, 5, 6, 7, 8, 0] rfl ?_
        exact J123_10 0 (by first | omega | (simp [up, setR] <;> omega)) (by first | omega | (simp [up, setR] <;> omega))
      · refine TT_iconst hK dX12_wake_116 ?_
        refine TT_goto hK (tgt := 121) dX12_wake_117 (by decide) ?_
        refine TT_istore hK (lv' := [(8, vI 1), (0, vR 73), (1, vI x), (2, vI y), (3, vI (10 * y + x + 11)), (4, vI a), (5, vI b), (6, vI t9), (7, vI cx)]) (by decide) rfl dX12_wake_121 ?_
        refine TT_sub [1, 2, 3, 4, 5, 6, 7, 8, 0] rfl ?_
        exact J123_10 1 (by first | omega | (simp [up, setR] <;> omega)) (by first | omega | (simp [up, setR] <;> omega))
    refine TT_bipush hK (by decide) dX12_wake_74 ?_
    refine TT_iload hK 6 rfl dX12_wake_76 ?_
    refine TT_if_eq hK (tgt := 92) (irm (by omega) (by omega)) dX12_wake_78 (by decide) (fun hb78_79 => ?_) (fun hb78_79 => ?_)
    · refine TT_iconst hK dX12_wake_92 ?_
      refine TT_iload hK 4 rfl dX12_wake_93 ?_
      refine TT_imul hK dX12_wake_95 ?_
      refine TT_iload hK 5 rfl dX12_wake_96 ?_
      refine TT_iadd hK dX12_wake_98 ?_
      refine TT_iadd hK dX12_wake_99 ?_
      refine TT_istore hK (lv' := [(7, vI (9 + ((3 * a) + b))), (0, vR 73), (1, vI x), (2, vI y), (3, vI (10 * y + x + 11)), (4, vI a), (5, vI b), (6, vI t9)]) (by decide) rfl dX12_wake_100 ?_
      refine TT_sub [1, 2, 3, 4, 5, 6, 7, 0] rfl ?_
      exact J102_9 (9 + ((3 * a) + b)) (by first | omega | (simp [up, setR] <;> omega)) (by unfold sgX; rw [← ht9x, ← ha9, ← hb9]; split <;> omega)
    · refine TT_bipush hK (by decide) dX12_wake_81 ?_
      refine TT_iload hK 4 rfl dX12_wake_83 ?_
      refine TT_imul hK dX12_wake_85 ?_
      refine TT_iload hK 5 rfl dX12_wake_86 ?_
      refine TT_isub hK dX12_wake_88 ?_
      refine TT_goto hK (tgt := 99) dX12_wake_89 (by decide) ?_
      refine TT_iadd hK dX12_wake_99 ?_
      refine TT_istore hK (lv' := [(7, vI (9 + (((-3) * a) - b))), (0, vR 73), (1, vI x), (2, vI y), (3, vI (10 * y + x + 11)), (4, vI a), (5, vI b), (6, vI t9)]) (by decide) rfl dX12_wake_100 ?_
      refine TT_sub [1, 2, 3, 4, 5, 6, 7, 0] rfl ?_
      exact J102_9 (9 + (((-3) * a) - b)) (by first | omega | (simp [up, setR] <;> omega)) (by unfold sgX; rw [← ht9x, ← ha9, ← hb9]; split <;> omega)
  refine TT_iload hK 1 rfl dX12_wake_52 ?_
  refine TT_if_lt hK (tgt := 67) (irm (by omega) (by omega)) dX12_wake_54 (by decide) (fun hb54_80 => ?_) (fun hb54_80 => ?_)
  · refine TT_iconst hK dX12_wake_67 ?_
    refine TT_goto hK (tgt := 72) dX12_wake_68 (by decide) ?_
    refine TT_istore hK (lv' := [(6, vI 1), (5, vI z47_7), (4, vI z23_4), (3, vI (10 * y + x + 11)), (0, vR 73), (1, vI x), (2, vI y)]) (by decide) rfl dX12_wake_72 ?_
    refine TT_sub [4, 5, 6, 3, 2, 1, 0] rfl ?_
    exact J74_8 z23_4 z47_7 1 (by first | omega | (simp [up, setR] <;> omega)) (by first | omega | (simp [up, setR] <;> omega)) (by first | omega | (simp [up, setR] <;> omega)) (by exact e_at23) (by exact e_at47) (by unfold sgT sgA sgB; rw [← e_at23, ← e_at47]; (repeat' split) <;> omega)
  · refine TT_iload hK 1 rfl dX12_wake_57 ?_
    refine TT_if_ne hK (tgt := 71) (irm (by omega) (by omega)) dX12_wake_59 (by decide) (fun hb59_81 => ?_) (fun hb59_81 => ?_)
    · refine TT_iconst hK dX12_wake_71 ?_
      refine TT_istore hK (lv' := [(6, vI 0), (5, vI z47_7), (4, vI z23_4), (3, vI (10 * y + x + 11)), (0, vR 73), (1, vI x), (2, vI y)]) (by decide) rfl dX12_wake_72 ?_
      refine TT_sub [4, 5, 6, 3, 2, 1, 0] rfl ?_
      exact J74_8 z23_4 z47_7 0 (by first | omega | (simp [up, setR] <;> omega)) (by first | omega | (simp [up, setR] <;> omega)) (by first | omega | (simp [up, setR] <;> omega)) (by exact e_at23) (by exact e_at47) (by unfold sgT sgA sgB; rw [← e_at23, ← e_at47]; (repeat' split) <;> omega)
    · refine TT_iload hK 0 rfl dX12_wake_62 ?_
      refine TT_if_ge hK (tgt := 71) (irm (by omega) (by omega)) dX12_wake_64 (by decide) (fun hb64_82 => ?_) (fun hb64_82 => ?_)
      · refine TT_iconst hK dX12_wake_71 ?_
        refine TT_istore hK (lv' := [(6, vI 0), (5, vI z47_7), (4, vI z23_4), (3, vI (10 * y + x + 11)), (0, vR 73), (1, vI x), (2, vI y)]) (by decide) rfl dX12_wake_72 ?_
        refine TT_sub [4, 5, 6, 3, 2, 1, 0] rfl ?_
        exact J74_8 z23_4 z47_7 0 (by first | omega | (simp [up, setR] <;> omega)) (by first | omega | (simp [up, setR] <;> omega)) (by first | omega | (simp [up, setR] <;> omega)) (by exact e_at23) (by exact e_at47) (by unfold sgT sgA sgB; rw [← e_at23, ← e_at47]; (repeat' split) <;> omega)
      · refine TT_iconst hK dX12_wake_67 ?_
        refine TT_goto hK (tgt := 72) dX12_wake_68 (by decide) ?_
        refine TT_istore hK (lv' := [(6, vI 1), (5, vI z47_7), (4, vI z23_4), (3, vI (10 * y + x + 11)), (0, vR 73), (1, vI x), (2, vI y)]) (by decide) rfl dX12_wake_72 ?_
        refine TT_sub [4, 5, 6, 3, 2, 1, 0] rfl ?_
        exact J74_8 z23_4 z47_7 1 (by first | omega | (simp [up, setR] <;> omega)) (by first | omega | (simp [up, setR] <;> omega)) (by first | omega | (simp [up, setR] <;> omega)) (by exact e_at23) (by exact e_at47) (by unfold sgT sgA sgB; rw [← e_at23, ← e_at47]; (repeat' split) <;> omega)

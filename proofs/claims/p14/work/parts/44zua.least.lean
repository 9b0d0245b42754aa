/-! the least length: the wrong flag alone matters -/
def EQD (D F : DS_) : Prop := D.1 = F.1 ∧ D.2.1 = F.2.1 ∧ D.2.2.1 = F.2.2.1 ∧ D.2.2.2.1 = F.2.2.2.1 ∧ AGR 19 D.2.2.2.2.1 F.2.2.2.2.1 ∧ AGR 19 D.2.2.2.2.2 F.2.2.2.2.2
theorem byS_q {s1 s2 : Int → Int} {m k : Int} (h : ∀ j : Int, 0 ≤ j → j < m → s1 j = s2 j) (hk : 0 ≤ k) : byS s1 m k = byS s2 m k := by
  unfold byS
  split
  · exact h k hk (by omega)
  · rfl
theorem inS_q {s1 s2 : Int → Int} {m c p : Int} (h : ∀ j : Int, 0 ≤ j → j < m → s1 j = s2 j) (hp : 0 ≤ p) : inS s1 m c p = inS s2 m c p := by
  unfold inS
  rw [byS_q h hp, byS_q h (show 0 ≤ p + 1 by omega)]
theorem inS_p {s : Int → Int} {m c p : Int} (hp : 0 ≤ p) : 0 ≤ (inS s m c p).2.2 := by
  unfold inS
  (repeat' split)
  · exact hp
  · show 0 ≤ p + 1; omega
  · show 0 ≤ p + 1; omega
theorem rmS_q {fx : Int → Int} {s1 s2 : Int → Int} {m : Int} (h : ∀ j : Int, 0 ≤ j → j < m → s1 j = s2 j) : ∀ (k : Nat) {a c t p : Int}, 0 ≤ p → rmS fx s1 m k a c t p = rmS fx s2 m k a c t p ∧ 0 ≤ (rmS fx s2 m k a c t p).2.2.2
  | 0, a, c, t, p, hp => ⟨rfl, hp⟩
  | k + 1, a, c, t, p, hp => by
    unfold rmS
    by_cases q : 32768 ≤ a
    · rw [if_pos q, if_pos q]
      exact ⟨rfl, hp⟩
    · rw [if_neg q, if_neg q]
      by_cases z : t = 0
      · rw [if_pos z, if_pos z, inS_q h hp]
        exact rmS_q h k (inS_p hp)
      · rw [if_neg z, if_neg z]
        exact rmS_q h k hp
theorem rdS_q {fx : Int → Int} {s1 s2 : Int → Int} {m x : Int} {D F : DS_} (h : ∀ j : Int, 0 ≤ j → j < m → s1 j = s2 j) (hD : EQD D F) (hp : 0 ≤ F.2.2.2.1) (hx : 0 ≤ x ∧ x ≤ 18) : (rdS lwC fx s1 m D x).1 = (rdS lwC fx s2 m F x).1 ∧ EQD (rdS lwC fx s1 m D x).2 (rdS lwC fx s2 m F x).2 ∧ 0 ≤ (rdS lwC fx s2 m F x).2.2.2.2.1 := by
  obtain ⟨a, c, t, p, st, lk⟩ := D
  obtain ⟨a2, c2, t2, p2, st2, lk2⟩ := F
  obtain ⟨e1, e2, e3, e4, e5, e6⟩ := hD
  dsimp only at e1 e2 e3 e4 e5 e6 hp
  subst e1 e2 e3 e4
  have es := e5 x hx.1 (by omega)
  have el := e6 x hx.1 (by omega)
  by_cases h0 : ¬ lwC c < qS (st x) ∧ 32768 ≤ a - qS (st x)
  · rw [rdS_1 h0, rdS_1 (by rw [← es]; exact h0), es, el]
    exact ⟨rfl, ⟨rfl, rfl, rfl, rfl, e5, e6⟩, hp⟩
  · have h1 : ¬ (¬ lwC c < qS (st2 x) ∧ 32768 ≤ a - qS (st2 x)) := by rw [← es]; exact h0
    rw [rdS_m (P := (lwC c < qS (st x) ↔ ¬ a - qS (st x) < qS (st x))) h0 rfl rfl Iff.rfl rfl, rdS_m (P := (lwC c < qS (st x) ↔ ¬ a - qS (st x) < qS (st x))) h1 rfl rfl (by rw [← es]) rfl]
    rw [← es, ← el]
    have r := rmS_q (fx := fx) h 15 (a := if lwC c < qS (st x) then qS (st x) else a - qS (st x)) (c := if lwC c < qS (st x) then c else c - 65536 * qS (st x)) (t := t) hp
    rw [r.1]
    have g := AGR_lr (P := (lwC c < qS (st x) ↔ ¬ a - qS (st x) < qS (st x))) es el e5 e6
    exact ⟨rfl, ⟨rfl, rfl, rfl, rfl, g.1, g.2⟩, r.2⟩
theorem rdF_q {s1 s2 : Int → Int} {m : Int} (h : ∀ j : Int, 0 ≤ j → j < m → s1 j = s2 j) : ∀ (T : List (Int × Int)) {w : Int} {D F : DS_}, EQD D F → 0 ≤ F.2.2.2.1 → (∀ z, z ∈ T → 0 ≤ z.1 ∧ z.1 ≤ 18) → (rdF s1 m T (w, D)).1 = (rdF s2 m T (w, F)).1
  | [], w, D, F, _, _, _ => rfl
  | z :: T, w, D, F, hD, hp, hT => by
    have r := rdS_q (fx := fxM) h hD hp (hT z (List.mem_cons_self ..))
    show (rdF s1 m T (rdW s1 m (w, D) z.1 z.2)).1 = (rdF s2 m T (rdW s2 m (w, F) z.1 z.2)).1
    unfold rdW
    dsimp only
    rw [r.1]
    exact rdF_q h T r.2.1 r.2.2 (fun u hu => hT u (List.mem_cons_of_mem _ hu))
/-- with the class's cap nothing else is read, while C is small -/
theorem rmS_c {src : Int → Int} {m : Int} (hs : ∀ j : Int, 0 ≤ j → j < m → 0 ≤ src j ∧ src j ≤ 255) : ∀ (k : Nat) {a c t p : Int}, 0 ≤ c → 0 ≤ p → (rmS fxM src m k a c t p).2.1 < 1099511627776 → rmS fxC src m k a c t p = rmS fxM src m k a c t p ∧ c ≤ (rmS fxM src m k a c t p).2.1
  | 0, a, c, t, p, hc, hp, h => ⟨rfl, Int.le_refl c⟩
  | k + 1, a, c, t, p, hc, hp, h => by
    unfold rmS at h ⊢
    by_cases q : 32768 ≤ a
    · rw [if_pos q, if_pos q]
      exact ⟨rfl, Int.le_refl c⟩
    · rw [if_neg q] at h
      rw [if_neg q, if_neg q]
      by_cases z : t = 0
      · rw [if_pos z] at h
        rw [if_pos z, if_pos z]
        have b1 := byS_r hs (k := p + 1) (by omega)
        have ci : c ≤ (inS src m c p).1 := by
          unfold inS
          (repeat' split)
          · show c ≤ c + 65280; omega
          · show c ≤ c + _; omega
          · show c ≤ c + _; omega
        have ih := rmS_c hs k (a := 2 * a) (c := fxM (2 * (inS src m c p).1)) (t := (inS src m c p).2.1 - 1) (p := (inS src m c p).2.2) (by show 0 ≤ 2 * _; omega) (inS_p hp) h
        have b : 2 * (inS src m c p).1 < 1099511627776 := Int.lt_of_le_of_lt ih.2 h
        have e : fxC (2 * (inS src m c p).1) = fxM (2 * (inS src m c p).1) := by unfold fxC fxM; omega
        rw [e]
        refine ⟨ih.1, Int.le_trans ?_ ih.2⟩
        show c ≤ 2 * (inS src m c p).1
        omega
      · rw [if_neg z] at h
        rw [if_neg z, if_neg z]
        have ih := rmS_c hs k (a := 2 * a) (c := fxM (2 * c)) (t := t - 1) (p := p) (by show 0 ≤ 2 * c; omega) hp h
        have b : 2 * c < 1099511627776 := Int.lt_of_le_of_lt ih.2 h
        have e : fxC (2 * c) = fxM (2 * c) := by unfold fxC fxM; omega
        rw [e]
        refine ⟨ih.1, Int.le_trans ?_ ih.2⟩
        show c ≤ 2 * c
        omega
theorem rdS_c {src : Int → Int} {m x : Int} {D : DS_} (hs : ∀ j : Int, 0 ≤ j → j < m → 0 ≤ src j ∧ src j ≤ 255) (hc : 0 ≤ D.2.1) (hp : 0 ≤ D.2.2.2.1) (hst : 0 ≤ qS (D.2.2.2.2.1 x)) (h : (rdS lwC fxM src m D x).2.2.1 < 1099511627776) : rdS lwC fxC src m D x = rdS lwC fxM src m D x := by
  obtain ⟨a, c, t, p, st, lk⟩ := D
  dsimp only at hc hp hst
  by_cases h0 : ¬ lwC c < qS (st x) ∧ 32768 ≤ a - qS (st x)
  · rw [rdS_1 h0, rdS_1 h0]
  · rw [rdS_m (P := (lwC c < qS (st x) ↔ ¬ a - qS (st x) < qS (st x))) h0 rfl rfl Iff.rfl rfl] at h
    rw [rdS_m (P := (lwC c < qS (st x) ↔ ¬ a - qS (st x) < qS (st x))) h0 rfl rfl Iff.rfl rfl, rdS_m (P := (lwC c < qS (st x) ↔ ¬ a - qS (st x) < qS (st x))) h0 rfl rfl Iff.rfl rfl]
    have lw : lwC c = c / 65536 := rfl
    have e := (rmS_c hs 15 (by split <;> omega) hp h).1
    rw [e]
/-! what is told grows -/
def PX (s u : TS_) : Prop := ∃ l : List (Int × Int), u.2.2.2 = s.2.2.2 ++ l
theorem PX_rf (s : TS_) : PX s s := ⟨[], (List.append_nil _).symm⟩
theorem PX_tr {s u v : TS_} (h : PX s u) (g : PX u v) : PX s v := by
  obtain ⟨l, h⟩ := h
  obtain ⟨m, g⟩ := g
  exact ⟨l ++ m, by rw [g, h, List.append_assoc]⟩
theorem PX_ev (s : TS_) (x b : Int) : PX s (evT s x b) := ⟨[(x, b)], rfl⟩
theorem PX_wk (M : Int → Int) (p : Int) (s : TS_) : PX s (wkT M p s) := ⟨_, rfl⟩
theorem PX_sp (M : Int → Int) (kd pl p : Int) (s : TS_) : PX s (spT M kd pl p s) := by
  unfold spT
  split
  · split
    · exact PX_tr (PX_tr (show PX s (tdT s p) from ⟨[], (List.append_nil _).symm⟩) (PX_ev _ _ _)) (PX_wk _ _ _)
    · exact PX_tr (show PX s (tdT s p) from ⟨[], (List.append_nil _).symm⟩) (PX_ev _ _ _)
  · exact PX_rf s
theorem PX_rfn (M : Int → Int) (pl p : Int) (s : TS_) : PX s (rfnT M pl p s) := by
  unfold rfnT
  split
  · exact ⟨_, rfl⟩
  · exact PX_rf s
theorem PX_cl (M : Int → Int) (kd pl p : Int) (s : TS_) : PX s (clT M kd pl p s) := by
  unfold clT
  split
  · split
    · exact PX_tr (PX_ev _ _ _) (PX_wk _ _ _)
    · exact PX_ev _ _ _
  · exact PX_rf s
theorem PX_it {g : Int → TS_ → TS_} (hg : ∀ p s, PX s (g p s)) (f : Int) : ∀ (k : Nat) (s : TS_), PX s (itT g f k s)
  | 0, s => PX_rf s
  | k + 1, s => PX_tr (PX_it hg f k s) (hg _ _)
theorem PX_qv (M : Int → Int) (pl f : Int) (s : TS_) : PX s (qvT M pl f s) := by
  unfold qvT
  split
  · exact PX_tr (PX_tr (PX_ev _ _ _) (PX_ev _ _ _)) (PX_ev _ _ _)
  · exact PX_ev _ _ _
theorem PX_pre (M : Int → Int) (kd pl f n : Int) (s : TS_) : PX s (preT M kd pl f n s) := by
  unfold preT
  split
  · split
    · exact PX_tr (PX_qv M pl f s) (PX_wk _ _ _)
    · exact PX_qv M pl f s
  · exact PX_rf s
theorem PX_cn (M : Int → Int) (kd pl f n : Int) (s : TS_) : PX s (cnT M kd pl f n s) := by
  unfold cnT
  exact PX_tr (PX_pre M kd pl f n s) (PX_it (fun p s => PX_cl M kd pl p s) _ _ _)
theorem PX_col (M : Int → Int) (kd pl sort f n : Int) (s : TS_) : PX s (colP M kd pl sort f n s) := by
  unfold colP
  split
  · exact PX_it (fun p s => PX_sp M kd pl p s) _ _ _
  · split
    · exact PX_it (fun p s => PX_rfn M pl p s) _ _ _
    · exact PX_cn M kd pl f n s
theorem PX_row (M : Int → Int) (kd pl sort n y : Int) : ∀ (x : Nat) (s : TS_), PX s (rowP M kd pl sort n y x s)
  | 0, s => PX_rf s
  | x + 1, s => PX_tr (PX_row M kd pl sort n y x s) (PX_col _ _ _ _ _ _ _)
theorem PX_str (M : Int → Int) (kd pl sort w g : Int) : ∀ (j : Nat) (s : TS_), PX s (strP M kd pl sort w g j s)
  | 0, s => PX_rf s
  | j + 1, s => PX_tr (PX_str M kd pl sort w g j s) (PX_row _ _ _ _ _ _ _ _)
theorem PX_ps (M : Int → Int) (kd w g k q : Int) (s : TS_) : PX s (passT M kd w g k q s) := by
  unfold passT
  split
  · obtain ⟨l, h⟩ := PX_str M kd (q - 1 - (k + 2) / 3) ((k + 2) % 3) w g ((g + 3) / 4).toNat s
    exact ⟨l, h⟩
  · exact PX_str M kd _ _ w g _ s
theorem PX_psN (M : Int → Int) (kd w g q : Int) (s : TS_) (i : Nat) : ∀ d : Nat, PX (psN M kd w g q i s) (psN M kd w g q (i + d) s)
  | 0 => PX_rf _
  | d + 1 => PX_tr (PX_psN M kd w g q s i d) (PX_ps M kd w g ((i + d : Nat) : Int) q _)
/-! the bytes are bytes -/
def BYR (n : Int) (o : Int → Int) : Prop := ∀ j : Int, 0 ≤ j → j < n → 0 ≤ o j ∧ o j ≤ 255
theorem outS_by {c n : Int} {o : Int → Int} (hn : 1 ≤ n) (h : BYR n o) : (outS c n o).2.2.1 = n + 1 ∧ BYR (n + 1) (outS c n o).2.2.2 := by
  have hl := h (n - 1) (by omega) (by omega)
  by_cases h1 : o (n - 1) = 255
  · rw [outS_1 h1]
    refine ⟨rfl, fun j j0 j1 => ?_⟩
    show 0 ≤ fup _ _ _ j ∧ fup _ _ _ j ≤ 255
    by_cases e : j = n
    · rw [e, fup_eq]; omega
    · rw [fup_ne _ _ e]; exact h j j0 (by omega)
  · by_cases h2 : c < 134217728
    · rw [outS_2 h1 h2]
      refine ⟨rfl, fun j j0 j1 => ?_⟩
      show 0 ≤ fup _ _ _ j ∧ fup _ _ _ j ≤ 255
      by_cases e : j = n
      · rw [e, fup_eq]; omega
      · rw [fup_ne _ _ e]; exact h j j0 (by omega)
    · by_cases h3 : o (n - 1) + 1 = 255
      · rw [outS_3 h1 (by omega) h3]
        refine ⟨rfl, fun j j0 j1 => ?_⟩
        show 0 ≤ fup _ _ _ j ∧ fup _ _ _ j ≤ 255
        by_cases e : j = n
        · rw [e, fup_eq]; omega
        · rw [fup_ne _ _ e]
          by_cases e2 : j = n - 1
          · rw [e2, fup_eq]; omega
          · rw [fup_ne _ _ e2]; exact h j j0 (by omega)
      · rw [outS_4 h1 (by omega) h3]
        refine ⟨rfl, fun j j0 j1 => ?_⟩
        show 0 ≤ fup _ _ _ j ∧ fup _ _ _ j ≤ 255
        by_cases e : j = n
        · rw [e, fup_eq]; omega
        · rw [fup_ne _ _ e]
          by_cases e2 : j = n - 1
          · rw [e2, fup_eq]; omega
          · rw [fup_ne _ _ e2]; exact h j j0 (by omega)
theorem mendS_by : ∀ (k : Nat) {a c t n : Int} {o : Int → Int}, 1 ≤ n → BYR n o → 1 ≤ (mendS k a c t n o).2.2.2.1 ∧ BYR (mendS k a c t n o).2.2.2.1 (mendS k a c t n o).2.2.2.2
  | 0, a, c, t, n, o, hn, h => ⟨hn, h⟩
  | k + 1, a, c, t, n, o, hn, h => by
    unfold mendS
    by_cases q : 32768 ≤ a
    · rw [if_pos q]
      exact ⟨hn, h⟩
    · rw [if_neg q]
      by_cases z : t - 1 = 0
      · rw [if_pos z]
        have g := outS_by (c := 2 * c) hn h
        rw [g.1]
        exact mendS_by k (by omega) g.2
      · rw [if_neg z]
        exact mendS_by k hn h
theorem tellS_by {E : ES_} {x b : Int} (hn : 1 ≤ E.2.2.2.1) (h : BYR E.2.2.2.1 E.2.2.2.2.2.2) : 1 ≤ (tellS E x b).2.2.2.1 ∧ BYR (tellS E x b).2.2.2.1 (tellS E x b).2.2.2.2.2.2 := by
  obtain ⟨a, c, t, n, st, lk, o⟩ := E
  by_cases h0 : b = lk x ∧ 32768 ≤ a - qS (st x)
  · rw [tellS_1 h0]
    exact ⟨hn, h⟩
  · rw [tellS_m (P := b ≠ lk x) h0 rfl rfl Iff.rfl]
    exact mendS_by 15 hn h
theorem tlF_by : ∀ (T : List (Int × Int)) {E : ES_}, 1 ≤ E.2.2.2.1 → BYR E.2.2.2.1 E.2.2.2.2.2.2 → 1 ≤ (tlF T E).2.2.2.1 ∧ BYR (tlF T E).2.2.2.1 (tlF T E).2.2.2.2.2.2
  | [], _, hn, h => ⟨hn, h⟩
  | z :: T, _, hn, h => tlF_by T (tellS_by (x := z.1) (b := z.2) hn h).1 (tellS_by (x := z.1) (b := z.2) hn h).2
/-- a word's bytes -/
theorem WRD_by {E : ES_} {T : List (Int × Int)} {src : Int → Int} {L : Int} (hE : ES0 E) (h : WRD (endE (tlF T E)) src L) : ∀ j : Int, 0 ≤ j → j < L → 0 ≤ src j ∧ src j ≤ 255 := by
  obtain ⟨g1, g2, g3, g4, g5, g6, g7⟩ := hE
  have k := tlF_by T (E := E) (by omega) (fun j j0 j1 => by rw [g4] at j1; rw [show j = 0 by omega, g7]; omega)
  generalize tlF T E = F at h k
  have a := outS_by (c := endC F.1 F.2.1 * 2 ^ F.2.2.1.toNat) k.1 k.2
  have b := outS_by (c := (outS (endC F.1 F.2.1 * 2 ^ F.2.2.1.toNat) F.2.2.2.1 F.2.2.2.2.2.2).1 * 2 ^ (outS (endC F.1 F.2.1 * 2 ^ F.2.2.1.toNat) F.2.2.2.1 F.2.2.2.2.2.2).2.1.toNat) (n := (outS (endC F.1 F.2.1 * 2 ^ F.2.2.1.toNat) F.2.2.2.1 F.2.2.2.2.2.2).2.2.1) (by rw [a.1]; have := k.1; omega) (by rw [a.1]; exact a.2)
  have e : endE F = outS ((outS (endC F.1 F.2.1 * 2 ^ F.2.2.1.toNat) F.2.2.2.1 F.2.2.2.2.2.2).1 * 2 ^ (outS (endC F.1 F.2.1 * 2 ^ F.2.2.1.toNat) F.2.2.2.1 F.2.2.2.2.2.2).2.1.toNat) (outS (endC F.1 F.2.1 * 2 ^ F.2.2.1.toNat) F.2.2.2.1 F.2.2.2.2.2.2).2.2.1 (outS (endC F.1 F.2.1 * 2 ^ F.2.2.1.toNat) F.2.2.2.1 F.2.2.2.2.2.2).2.2.2 := rfl
  rw [← e] at b
  intro j j0 j1
  obtain ⟨w1, w2⟩ := h
  have q := w2 (j + 1) (by omega) (by omega)
  rw [show j + 1 - 1 = j by omega] at q
  rw [q]
  refine b.2 _ (by omega) ?_
  rw [← b.1]
  split at w1 <;> omega
/-! the least length of a word from which so much is read right -/
def RTM (src : Int → Int) (n : Int) (T : List (Int × Int)) : Prop := (rdF src n T (0, bgD src n st0 (fun _ => 0))).1 = 0
def LSP (src : Int → Int) (T : List (Int × Int)) (n : Int) : Prop := 0 ≤ n ∧ RTM src n T ∧ ∀ m : Int, 0 ≤ m → m < n → ¬ RTM src m T
theorem LSP_u {src : Int → Int} {T : List (Int × Int)} {n m : Int} (h : LSP src T n) (g : LSP src T m) : n = m := by
  obtain ⟨h1, h2, h3⟩ := h
  obtain ⟨g1, g2, g3⟩ := g
  by_cases a : n < m
  · exact absurd h2 (g3 n h1 a)
  · by_cases b : m < n
    · exact absurd g2 (h3 m g1 b)
    · omega
theorem rdF_1 {src : Int → Int} {n : Int} : ∀ (T : List (Int × Int)) (D : DS_), (rdF src n T (1, D)).1 = 1
  | [], _ => rfl
  | z :: T, D => by
    show (rdF src n T (rdW src n (1, D) z.1 z.2)).1 = 1
    have e : rdW src n (1, D) z.1 z.2 = (1, (rdS lwC fxM src n D z.1).2) := by
      unfold rdW
      congr 1
      split <;> rfl
    rw [e]
    exact rdF_1 T _
theorem rdF_w {src : Int → Int} {n w : Int} : ∀ (T : List (Int × Int)) (D : DS_), (rdF src n T (w, D)).1 = w ∨ (rdF src n T (w, D)).1 = 1
  | [], _ => Or.inl rfl
  | z :: T, D => by
    show (rdF src n T (rdW src n (w, D) z.1 z.2)).1 = w ∨ (rdF src n T (rdW src n (w, D) z.1 z.2)).1 = 1
    unfold rdW
    dsimp only
    split
    · exact rdF_w T _
    · exact Or.inr (rdF_1 T _)
theorem RTM_p {src : Int → Int} {n : Int} {T l : List (Int × Int)} (h : RTM src n (T ++ l)) : RTM src n T := by
  unfold RTM at h ⊢
  unfold rdF at h ⊢
  rw [List.foldl_append] at h
  generalize hR : List.foldl (fun R z => rdW src n R z.1 z.2) (0, bgD src n st0 (fun _ => 0)) T = R at h ⊢
  have w := rdF_w (src := src) (n := n) (w := 0) T (bgD src n st0 (fun _ => 0))
  unfold rdF at w
  rw [hR] at w
  rcases w with w | w
  · exact w
  · exfalso
    have g := rdF_1 (src := src) (n := n) l R.2
    unfold rdF at g
    rw [show ((1 : Int), R.2) = R by rw [← w]] at g
    rw [g] at h
    exact absurd h (by decide)
theorem bgD_q {s1 s2 sd ld : Int → Int} {m : Int} (h : ∀ j : Int, 0 ≤ j → j < m → s1 j = s2 j) (hs : ∀ j : Int, 0 ≤ j → j < 19 → sd j = st0 j) (hl : ∀ j : Int, 0 ≤ j → j < 19 → ld j = 0) : EQD (bgD s1 m sd ld) (bgD s2 m st0 (fun _ => 0)) ∧ 0 ≤ (bgD s2 m st0 (fun _ => 0)).2.2.2.1 := by
  unfold bgD
  rw [byS_q h (Int.le_refl 0), inS_q h (Int.le_refl 0)]
  exact ⟨⟨rfl, rfl, rfl, rfl, hs, hl⟩, inS_p (Int.le_refl 0)⟩
/-- what a reader of any source with these bytes finds -/
theorem RTM_q {s1 s2 sd ld : Int → Int} {m : Int} {T : List (Int × Int)} (h : ∀ j : Int, 0 ≤ j → j < m → s1 j = s2 j) (hs : ∀ j : Int, 0 ≤ j → j < 19 → sd j = st0 j) (hl : ∀ j : Int, 0 ≤ j → j < 19 → ld j = 0) (hT : ∀ z, z ∈ T → 0 ≤ z.1 ∧ z.1 ≤ 18) : (rdF s1 m T (0, bgD s1 m sd ld)).1 = 0 ↔ RTM s2 m T := by
  have b := bgD_q (m := m) h hs hl
  unfold RTM
  rw [rdF_q h T b.1 b.2 hT]

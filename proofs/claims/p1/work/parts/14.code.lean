/-! THE CODERS behind a bit: what holds, still holds -/
theorem lrS_r {st : Int → Int} {x : Int} {P : Prop} [Decidable P] (h : ∀ j, 0 ≤ j → j < 19 → 0 ≤ st j ∧ st j < 47) (hx : 0 ≤ x ∧ x < 19) : ∀ j, 0 ≤ j → j < 19 → 0 ≤ lrS st x P j ∧ lrS st x P j < 47 := by
  intro j h0 h1
  have hs := tab_r (h x hx.1 hx.2)
  unfold lrS
  by_cases q : j = x
  · subst q; rw [fup_eq]
    by_cases p : P
    · rw [if_pos p]; exact hs.2.2
    · rw [if_neg p]; exact hs.2.1
  · rw [fup_ne _ _ q]; exact h j h0 h1
theorem lrL_r {st lk : Int → Int} {x : Int} {P : Prop} [Decidable P] (h : ∀ j, 0 ≤ j → j < 19 → lk j = 0 ∨ lk j = 1) (hx : 0 ≤ x ∧ x < 19) : ∀ j, 0 ≤ j → j < 19 → lrL st lk x P j = 0 ∨ lrL st lk x P j = 1 := by
  intro j h0 h1
  have hl := h x hx.1 hx.2
  unfold lrL
  by_cases p : P ∧ (st x = 0 ∨ st x = 6 ∨ st x = 14)
  · rw [if_pos p]
    by_cases q : j = x
    · subst q; rw [fup_eq]; omega
    · rw [fup_ne _ _ q]; exact h j h0 h1
  · rw [if_neg p]; exact h j h0 h1
theorem MI_end (f : Nat) : ∀ {a c t n X : Int} {o : Int → Int} {R : Int × Int × Int × Int × (Int → Int)}, MI_ f a c t n o R X → 32768 ≤ R.1 ∧ MQ_ R.1 R.2.1 R.2.2.1 R.2.2.2.1 R.2.2.2.2 ∧ 7 * R.2.2.2.1 - R.2.2.1 ≤ X := by
  induction f with
  | zero =>
    intro a c t n X o R h
    have ha := MI_z h
    have e := MI_done h ha
    rw [← e]
    exact ⟨ha, h.2.2.2, by have := h.2.2.1; show 7 * n - t ≤ X; omega⟩
  | succ f ih =>
    intro a c t n X o R h
    by_cases ha : 32768 ≤ a
    · have e := MI_done h ha
      rw [← e]
      exact ⟨ha, h.2.2.2, by have := h.2.2.1; show 7 * n - t ≤ X; omega⟩
    · by_cases ht : t - 1 = 0
      · exact ih (MI_out h (by omega) ht)
      · exact ih (MI_next h (by omega) ht)
theorem RJ_end (f : Nat) {fx : Int → Int} {src : Int → Int} {m : Int} (hs : ∀ j, 0 ≤ j → j < m → 0 ≤ src j ∧ src j ≤ 255) : ∀ {a c t p : Int} {R : Int × Int × Int × Int}, RJ_ fx src m f a c t p R → 32768 ≤ R.1 ∧ RQ_ m R.1 R.2.2.1 R.2.2.2 := by
  induction f with
  | zero =>
    intro a c t p R h
    have ha := RJ_z h
    have e := RJ_done h ha
    rw [← e]
    exact ⟨ha, h.2.2⟩
  | succ f ih =>
    intro a c t p R h
    by_cases ha : 32768 ≤ a
    · have e := RJ_done h ha
      rw [← e]
      exact ⟨ha, h.2.2⟩
    · by_cases ht : t = 0
      · exact ih (RJ_in hs h (by omega) ht rfl)
      · exact ih (RJ_next h (by omega) ht rfl)
theorem z01 {P : Prop} [Decidable P] {l : Int} (h : l = 0 ∨ l = 1) : (if P then 1 - l else l) = 0 ∨ (if P then 1 - l else l) = 1 := by
  by_cases q : P
  · rw [if_pos q]; omega
  · rw [if_neg q]; exact h
theorem tellS_r {a c t n x b B : Int} {st lk o : Int → Int} (hx : 0 ≤ x ∧ x < 19) (ha : 32768 ≤ a) (hst : ∀ j, 0 ≤ j → j < 19 → 0 ≤ st j ∧ st j < 47) (hlk : ∀ j, 0 ≤ j → j < 19 → lk j = 0 ∨ lk j = 1) (hq : MQ_ a c t n o) (hB : 7 * n - t + 15 ≤ B) :
    let E := tellS (a, c, t, n, st, lk, o) x b
    32768 ≤ E.1 ∧ (∀ j, 0 ≤ j → j < 19 → 0 ≤ E.2.2.2.2.1 j ∧ E.2.2.2.2.1 j < 47) ∧ (∀ j, 0 ≤ j → j < 19 → E.2.2.2.2.2.1 j = 0 ∨ E.2.2.2.2.2.1 j = 1) ∧ MQ_ E.1 E.2.1 E.2.2.1 E.2.2.2.1 E.2.2.2.2.2.2 ∧ 7 * E.2.2.2.1 - E.2.2.1 ≤ B := by
  have hs := hst x hx.1 hx.2
  by_cases h : b = lk x ∧ 32768 ≤ a - qS (st x)
  · rw [tellS_1 h]
    exact ⟨h.2, hst, hlk, MQ_tell (P := False) hq ha hs (if_neg (fun z => z)).symm (if_neg (fun z => z)).symm, by show 7 * n - t ≤ B; omega⟩
  · rw [tellS_m (P := b ≠ lk x) h rfl rfl Iff.rfl]
    have hm := MI_end 15 (MI_0 (MQ_tell (P := (b = lk x ↔ a - qS (st x) < qS (st x))) hq ha hs rfl rfl))
    exact ⟨hm.1, lrS_r hst hx, lrL_r hlk hx, hm.2.1, Int.le_trans hm.2.2 hB⟩
theorem rdS_r {lw fx : Int → Int} {src : Int → Int} {m a c t p x : Int} {st lk : Int → Int} (hs : ∀ j, 0 ≤ j → j < m → 0 ≤ src j ∧ src j ≤ 255) (hx : 0 ≤ x ∧ x < 19) (ha : 32768 ≤ a) (hst : ∀ j, 0 ≤ j → j < 19 → 0 ≤ st j ∧ st j < 47) (hlk : ∀ j, 0 ≤ j → j < 19 → lk j = 0 ∨ lk j = 1) (hq : RQ_ m a t p) :
    let E := rdS lw fx src m (a, c, t, p, st, lk) x
    (E.1 = 0 ∨ E.1 = 1) ∧ 32768 ≤ E.2.1 ∧ (∀ j, 0 ≤ j → j < 19 → 0 ≤ E.2.2.2.2.2.1 j ∧ E.2.2.2.2.2.1 j < 47) ∧ (∀ j, 0 ≤ j → j < 19 → E.2.2.2.2.2.2 j = 0 ∨ E.2.2.2.2.2.2 j = 1) ∧ RQ_ m E.2.1 E.2.2.2.1 E.2.2.2.2.1 := by
  have hsx := hst x hx.1 hx.2
  have hl := hlk x hx.1 hx.2
  by_cases h : ¬ lw c < qS (st x) ∧ 32768 ≤ a - qS (st x)
  · rw [rdS_1 h]
    exact ⟨hl, h.2, hst, hlk, RQ_rd (P := False) hq ha hsx (if_neg (fun z => z)).symm⟩
  · rw [rdS_m (P := (lw c < qS (st x) ↔ ¬ a - qS (st x) < qS (st x))) h rfl rfl Iff.rfl rfl]
    have hm := RJ_end 15 hs (RJ_0 (fx := fx) (src := src) (c := if lw c < qS (st x) then c else c - 65536 * qS (st x)) (RQ_rd (P := lw c < qS (st x)) hq ha hsx rfl))
    exact ⟨z01 hl, hm.1, lrS_r hst hx, lrL_r hlk hx, hm.2⟩
/-- the reference's coder in its three modes: A, C, T, how many bytes, the place, whether wrong, the states, the likely bits, the bytes -/
abbrev KM_ : Type := Int × Int × Int × Int × Int × Int × (Int → Int) × (Int → Int) × (Int → Int)
def cdM (md : Int) (src : Int → Int) (m : Int) (K : KM_) (x b : Int) : Int × KM_ := match K with
  | (a, c, t, n, p, wr, st, lk, o) =>
    if md = 0 then (b, (tellS (a, c, t, n, st, lk, o) x b).1, (tellS (a, c, t, n, st, lk, o) x b).2.1, (tellS (a, c, t, n, st, lk, o) x b).2.2.1, (tellS (a, c, t, n, st, lk, o) x b).2.2.2.1, p, wr, (tellS (a, c, t, n, st, lk, o) x b).2.2.2.2.1, (tellS (a, c, t, n, st, lk, o) x b).2.2.2.2.2.1, (tellS (a, c, t, n, st, lk, o) x b).2.2.2.2.2.2)
    else (if md = 1 then (rdS lwM fxM src m (a, c, t, p, st, lk) x).1 else b, (rdS lwM fxM src m (a, c, t, p, st, lk) x).2.1, (rdS lwM fxM src m (a, c, t, p, st, lk) x).2.2.1, (rdS lwM fxM src m (a, c, t, p, st, lk) x).2.2.2.1, n, (rdS lwM fxM src m (a, c, t, p, st, lk) x).2.2.2.2.1,
      if md = 1 then wr else if wr = 0 ∧ (rdS lwM fxM src m (a, c, t, p, st, lk) x).1 = b then 0 else 1, (rdS lwM fxM src m (a, c, t, p, st, lk) x).2.2.2.2.2.1, (rdS lwM fxM src m (a, c, t, p, st, lk) x).2.2.2.2.2.2, o)
/-- what holds of it; B: how many bits may still be told -/
def KQ_ (md m B : Int) (K : KM_) : Prop := 32768 ≤ K.1 ∧ (∀ j, 0 ≤ j → j < 19 → 0 ≤ K.2.2.2.2.2.2.1 j ∧ K.2.2.2.2.2.2.1 j < 47) ∧ (∀ j, 0 ≤ j → j < 19 → K.2.2.2.2.2.2.2.1 j = 0 ∨ K.2.2.2.2.2.2.2.1 j = 1) ∧ (md = 0 → MQ_ K.1 K.2.1 K.2.2.1 K.2.2.2.1 K.2.2.2.2.2.2.2.2 ∧ 7 * K.2.2.2.1 - K.2.2.1 + 15 * B ≤ 22300) ∧ (md ≠ 0 → RQ_ m K.1 K.2.2.1 K.2.2.2.2.1) ∧ (K.2.2.2.2.2.1 = 0 ∨ K.2.2.2.2.2.1 = 1)
theorem cdM_r {md m B x b : Int} {src : Int → Int} {K : KM_} (hs : ∀ j, 0 ≤ j → j < m → 0 ≤ src j ∧ src j ≤ 255) (hx : 0 ≤ x ∧ x < 19) (hb : b = 0 ∨ b = 1) (h : KQ_ md m (B + 1) K) : ((cdM md src m K x b).1 = 0 ∨ (cdM md src m K x b).1 = 1) ∧ KQ_ md m B (cdM md src m K x b).2 := by
  obtain ⟨a, c, t, n, p, wr, st, lk, o⟩ := K
  obtain ⟨h1, h2, h3, h4, h5, h6⟩ := h
  have h1 : 32768 ≤ a := h1
  have h2 : ∀ j, 0 ≤ j → j < 19 → 0 ≤ st j ∧ st j < 47 := h2
  have h3 : ∀ j, 0 ≤ j → j < 19 → lk j = 0 ∨ lk j = 1 := h3
  have h4 : md = 0 → MQ_ a c t n o ∧ 7 * n - t + 15 * (B + 1) ≤ 22300 := h4
  have h5 : md ≠ 0 → RQ_ m a t p := h5
  by_cases q : md = 0
  · have e : cdM md src m (a, c, t, n, p, wr, st, lk, o) x b = _ := if_pos q
    rw [e]
    have r := tellS_r (b := b) hx h1 h2 h3 (h4 q).1 (B := 7 * n - t + 15) (Int.le_refl _)
    have h4' := (h4 q).2
    refine ⟨hb, r.1, r.2.1, r.2.2.1, fun _ => ⟨r.2.2.2.1, ?_⟩, fun z => absurd q z, h6⟩
    have r5 := r.2.2.2.2
    have h7 : 7 * n - t + 15 * (B + 1) ≤ 22300 := h4'
    show 7 * (tellS (a, c, t, n, st, lk, o) x b).2.2.2.1 - (tellS (a, c, t, n, st, lk, o) x b).2.2.1 + 15 * B ≤ 22300
    omega
  · have e : cdM md src m (a, c, t, n, p, wr, st, lk, o) x b = _ := if_neg q
    rw [e]
    have r := rdS_r (lw := lwM) (fx := fxM) (c := c) hs hx h1 h2 h3 (h5 q)
    refine ⟨?_, r.2.1, r.2.2.1, r.2.2.2.1, fun z => absurd z q, fun _ => r.2.2.2.2, ?_⟩
    · show (if md = 1 then _ else b) = 0 ∨ (if md = 1 then _ else b) = 1
      by_cases q1 : md = 1
      · rw [if_pos q1]; exact r.1
      · rw [if_neg q1]; exact hb
    · show (if md = 1 then wr else _) = 0 ∨ (if md = 1 then wr else _) = 1
      by_cases q1 : md = 1
      · rw [if_pos q1]; exact h6
      · rw [if_neg q1]
        split
        · exact Or.inl rfl
        · exact Or.inr rfl
section CD
variable {md m a c t n p wr x b : Int} {src st lk o : Int → Int}
theorem cdM_0 (q : md = 0) : cdM md src m (a, c, t, n, p, wr, st, lk, o) x b = (b, (tellS (a, c, t, n, st, lk, o) x b).1, (tellS (a, c, t, n, st, lk, o) x b).2.1, (tellS (a, c, t, n, st, lk, o) x b).2.2.1, (tellS (a, c, t, n, st, lk, o) x b).2.2.2.1, p, wr, (tellS (a, c, t, n, st, lk, o) x b).2.2.2.2.1, (tellS (a, c, t, n, st, lk, o) x b).2.2.2.2.2.1, (tellS (a, c, t, n, st, lk, o) x b).2.2.2.2.2.2) := if_pos q
theorem cdM_1 (q : md = 1) : cdM md src m (a, c, t, n, p, wr, st, lk, o) x b = ((rdS lwM fxM src m (a, c, t, p, st, lk) x).1, (rdS lwM fxM src m (a, c, t, p, st, lk) x).2.1, (rdS lwM fxM src m (a, c, t, p, st, lk) x).2.2.1, (rdS lwM fxM src m (a, c, t, p, st, lk) x).2.2.2.1, n, (rdS lwM fxM src m (a, c, t, p, st, lk) x).2.2.2.2.1, wr, (rdS lwM fxM src m (a, c, t, p, st, lk) x).2.2.2.2.2.1, (rdS lwM fxM src m (a, c, t, p, st, lk) x).2.2.2.2.2.2, o) := by
  subst q; rfl
theorem cdM_2 {w : Int} (q : md ≠ 0) (q1 : md ≠ 1) (hw : w = if wr = 0 ∧ (rdS lwM fxM src m (a, c, t, p, st, lk) x).1 = b then 0 else 1) : cdM md src m (a, c, t, n, p, wr, st, lk, o) x b = (b, (rdS lwM fxM src m (a, c, t, p, st, lk) x).2.1, (rdS lwM fxM src m (a, c, t, p, st, lk) x).2.2.1, (rdS lwM fxM src m (a, c, t, p, st, lk) x).2.2.2.1, n, (rdS lwM fxM src m (a, c, t, p, st, lk) x).2.2.2.2.1, w, (rdS lwM fxM src m (a, c, t, p, st, lk) x).2.2.2.2.2.1, (rdS lwM fxM src m (a, c, t, p, st, lk) x).2.2.2.2.2.2, o) := by
  subst hw
  show (if md = 0 then _ else _) = _
  rw [if_neg q, if_neg q1, if_neg q1]
end CD
theorem fup_code0 (f : Int → Int) (a c t n : Int) : fup (fup (fup (fup f 32 a) 33 c) 34 t) 36 n = fup (fup (fup (fup (fup (fup f 28 (f 28)) 32 a) 33 c) 34 t) 36 n) 39 (f 39) := by
  rw [← fup_self (f := f) (i := 28) rfl]
  exact fup_self rfl
theorem fup_code1 (f : Int → Int) (a c t p : Int) : fup (fup (fup (fup f 32 a) 33 c) 34 t) 39 p = fup (fup (fup (fup (fup (fup f 28 (f 28)) 32 a) 33 c) 34 t) 36 (f 36)) 39 p := by
  rw [← fup_self (f := f) (i := 28) rfl]
  exact congrArg (fun z => fup z 39 p) (fup_self rfl)
theorem fup_code2 (f : Int → Int) (w a c t p : Int) : fup (fup (fup (fup (fup f 28 w) 32 a) 33 c) 34 t) 39 p = fup (fup (fup (fup (fup (fup f 28 w) 32 a) 33 c) 34 t) 36 (f 36)) 39 p := congrArg (fun z => fup z 39 p) (fup_self rfl)

/-! both words are one -/
theorem ES0_eq {E F : ES_} (h : ES0 E) (h' : ES0 F) : EQE E F := by
  obtain ⟨h1, h2, h3, h4, h5, h6, h7⟩ := h
  obtain ⟨g1, g2, g3, g4, g5, g6, g7⟩ := h'
  refine ⟨by rw [h1, g1], by rw [h2, g2], by rw [h3, g3], by rw [h4, g4], by rw [h4]; decide, fun j j1 j2 => by rw [h5 j j1 j2, g5 j j1 j2], fun j j1 j2 => by rw [h6 j j1 j2, g6 j j1 j2], fun j j1 j2 => ?_⟩
  rw [h4] at j2
  rw [show j = 0 by omega, h7, g7]
theorem CW_eq {T : List (Int × Int)} {B B' : Int → Int} {n n' : Int} (h : ∃ E : ES_, ES0 E ∧ WRD (endE (tlF T E)) B n) (h' : ∃ E : ES_, ES0 E ∧ WRD (endE (tlF T E)) B' n') (hT : ∀ z ∈ T, 0 ≤ z.1 ∧ z.1 ≤ 18) : n = n' ∧ ∀ i : Int, 0 ≤ i → i < n' → B i = B' i := by
  obtain ⟨E, hE, h1, h2⟩ := h
  obtain ⟨F, hF, g1, g2⟩ := h'
  have q := tellS_qf T (ES0_eq hE hF) hT
  obtain ⟨e1, e2, e3, e4, e5, -, -, e8⟩ := q
  have r := endS_q (a := (tlF T E).1) (c := (tlF T E).2.1) (t := (tlF T E).2.2.1) e8 e5
  have eF : endE (tlF T F) = endS (tlF T E).1 (tlF T E).2.1 (tlF T E).2.2.1 (tlF T E).2.2.2.1 (tlF T F).2.2.2.2.2.2 := by
    unfold endE tlF
    rw [← e1, ← e2, ← e3, ← e4]
  have eE : endE (tlF T E) = endS (tlF T E).1 (tlF T E).2.1 (tlF T E).2.2.1 (tlF T E).2.2.2.1 (tlF T E).2.2.2.2.2.2 := rfl
  rw [eE] at h1 h2
  rw [eF] at g1 g2
  have e5' : 1 ≤ (tlF T E).2.2.2.1 := e5
  have r1 : (endS (tlF T E).1 (tlF T E).2.1 (tlF T E).2.2.1 (tlF T E).2.2.2.1 (tlF T E).2.2.2.2.2.2).2.2.1 = (tlF T E).2.2.2.1 + 2 := r.1
  have r2 : (endS (tlF T E).1 (tlF T E).2.1 (tlF T E).2.2.1 (tlF T E).2.2.2.1 (tlF T F).2.2.2.2.2.2).2.2.1 = (tlF T E).2.2.2.1 + 2 := r.2.1
  have r3 : AGR ((tlF T E).2.2.2.1 + 2) (endS (tlF T E).1 (tlF T E).2.1 (tlF T E).2.2.1 (tlF T E).2.2.2.1 (tlF T E).2.2.2.2.2.2).2.2.2 (endS (tlF T E).1 (tlF T E).2.1 (tlF T E).2.2.1 (tlF T E).2.2.2.1 (tlF T F).2.2.2.2.2.2).2.2.2 := r.2.2
  rw [r1] at h1
  rw [r2] at g1
  rw [r3 _ (by omega) (by omega)] at h1
  have en : n = n' := by rw [h1, g1]
  refine ⟨en, fun i i1 i2 => ?_⟩
  have a := h2 (i + 1) (by omega) (by omega)
  have b := g2 (i + 1) (by omega) (by omega)
  rw [show i + 1 - 1 = i by omega] at a b
  rw [a, b]
  refine r3 _ (by omega) ?_
  have : n' ≤ (tlF T E).2.2.2.1 + 1 := by
    rw [g1]
    split <;> omega
  omega
theorem ENC_ch {V : Prop} {W H l : Int} {f g pl cd cs cl : Int → Int} (hv : V → 0 ≤ l ∧ l ≤ 3) (hW : 1 ≤ W ∧ W ≤ 8) (hH : 1 ≤ H ∧ H ≤ 8) (hf : ∀ c x y : Int, 0 ≤ l → l ≤ 3 → 0 ≤ c → c < 3 * l + 1 → 0 ≤ x → x < BW W l c → 0 ≤ y → y < BH H l c → NBE W H f l c x y = NBE W H g l c x y) (h : V → CPQ W H f l (3 * l + 1) pl cd cs cl) :
    ∃ (Mf : Int → Int → Int) (sf : Int → TS_), (∀ c : Int, TS0 (sf c)) ∧ (V → ∀ c : Int, 0 ≤ c → c < 3 * l + 1 → MRN (NBE W H g l c) (BW W l c) (BH H l c) (Mf c)) ∧ (V → ∀ c : Int, 0 ≤ c → c < 3 * l + 1 → pl c ≠ 0 → ∃ E : ES_, ES0 E ∧ WRD (endE (tlF (psN (Mf c) (kdB c) (BW W l c) (BH H l c) (pl c) (pas (pl c)).toNat (sf c)).2.2.2 E)) (fun i => cd (cs c + i)) (cl c)) := by
  have key : ∀ c : Int, ∃ p : (Int → Int) × TS_, TS0 p.2 ∧ (V → 0 ≤ c → c < 3 * l + 1 → MRN (NBE W H g l c) (BW W l c) (BH H l c) p.1) ∧ (V → 0 ≤ c → c < 3 * l + 1 → pl c ≠ 0 → ∃ E : ES_, ES0 E ∧ WRD (endE (tlF (psN p.1 (kdB c) (BW W l c) (BH H l c) (pl c) (pas (pl c)).toNat p.2).2.2.2 E)) (fun i => cd (cs c + i)) (cl c)) := by
    intro c
    by_cases q : V ∧ 0 ≤ c ∧ c < 3 * l + 1
    · have hl := hv q.1
      have bw := BWr hW hl c q.2
      have k := h q.1 c q.2.1 q.2.2
      by_cases z : pl c = 0
      · refine ⟨(fun p => NBE W H g l c ((p - 11) % 10) ((p - 11) / 10), (fun _ => 0, fun _ => 0, fun _ => 0, [])), ⟨fun j _ _ => ⟨rfl, rfl, rfl⟩, rfl⟩, fun _ _ _ x y x1 x2 y1 y2 => ?_, fun _ _ _ n => absurd z n⟩
        show NBE W H g l c ((10 * y + x + 11 - 11) % 10) ((10 * y + x + 11 - 11) / 10) = _
        rw [show (10 * y + x + 11 - 11) % 10 = x by omega, show (10 * y + x + 11 - 11) / 10 = y by omega]
      · obtain ⟨M, s, E, h1, h2, h3, h4⟩ := k.1.2 z
        exact ⟨(M, s), h2, fun _ _ _ x y x1 x2 y1 y2 => by rw [← hf c x y hl.1 hl.2 q.2.1 q.2.2 x1 x2 y1 y2]; exact h1 x y x1 x2 y1 y2, fun _ _ _ _ => ⟨E, h3, h4⟩⟩
    · exact ⟨(fun _ => 0, (fun _ => 0, fun _ => 0, fun _ => 0, [])), ⟨fun j _ _ => ⟨rfl, rfl, rfl⟩, rfl⟩, fun a b d => absurd ⟨a, b, d⟩ q, fun a b d => absurd ⟨a, b, d⟩ q⟩
  exact ⟨fun c => (Classical.choose (key c)).1, fun c => (Classical.choose (key c)).2, fun c => (Classical.choose_spec (key c)).1, fun v c => (Classical.choose_spec (key c)).2.1 v, fun v c => (Classical.choose_spec (key c)).2.2 v⟩
theorem ENC_eq {N N' : Int → Int → Int} {w g kd q q' n n' : Int} {B B' M : Int → Int} {s : TS_} (hN : ∀ x y : Int, 0 ≤ x → x < w → 0 ≤ y → y < g → N x y = N' x y) (h : CWC N w g kd q B n ∧ PLN N w g q) (h' : CWR M s w g kd q' B' n' ∧ PLN N' w g q') (hs : TS0 s) (hE : q ≠ 0 → ∃ E : ES_, ES0 E ∧ WRD (endE (tlF (psN M kd w g q (pas q).toNat s).2.2.2 E)) B n) : q = q' ∧ n = n' ∧ ∀ i : Int, 0 ≤ i → i < n' → B i = B' i := by
  have e : q = q' := PLN_u (fun x y x1 x2 y1 y2 => by rw [hN x y x1 x2 y1 y2]) h.2 h'.2
  subst e
  refine ⟨rfl, ?_⟩
  by_cases z : q = 0
  · have a := h.1.1 z
    have b := h'.1.1 z
    exact ⟨by omega, fun i i1 i2 => by omega⟩
  · exact CW_eq (hE z) (h'.1.2 z) (fun z hz => (EVR_ps M kd w g q _ (EVR_0 hs) z hz).1)

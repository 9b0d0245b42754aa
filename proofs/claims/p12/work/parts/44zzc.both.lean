/-! the law's choice: one run of passes a band, both least lengths -/
theorem ENC_chL {V : Prop} {W H l : Int} {f g pl cd cs cl ll : Int → Int} (hv : V → 0 ≤ l ∧ l ≤ 3) (hW : 1 ≤ W ∧ W ≤ 8) (hH : 1 ≤ H ∧ H ≤ 8) (hf : ∀ c x y : Int, 0 ≤ l → l ≤ 3 → 0 ≤ c → c < 3 * l + 1 → 0 ≤ x → x < BW W l c → 0 ≤ y → y < BH H l c → NBE W H f l c x y = NBE W H g l c x y) (h : V → LSQ W H f l (3 * l + 1) pl cd cs cl ll) :
    ∃ (Mf : Int → Int → Int) (sf : Int → TS_), (∀ c : Int, TS0 (sf c)) ∧ (V → ∀ c : Int, 0 ≤ c → c < 3 * l + 1 → MRN (NBE W H g l c) (BW W l c) (BH H l c) (Mf c)) ∧ (V → ∀ c : Int, 0 ≤ c → c < 3 * l + 1 → CWR (Mf c) (sf c) (BW W l c) (BH H l c) (kdB c) (pl c) (fun i => cd (cs c + i)) (cl c) ∧ LSX (Mf c) (sf c) (BW W l c) (BH H l c) (kdB c) (pl c) (fun i => cd (cs c + i)) ll (35 * c) (pas (pl c) + 1) ∧ ll (35 * c) = 0) := by
  have key : ∀ c : Int, ∃ p : (Int → Int) × TS_, TS0 p.2 ∧ (V → 0 ≤ c → c < 3 * l + 1 → MRN (NBE W H g l c) (BW W l c) (BH H l c) p.1) ∧ (V → 0 ≤ c → c < 3 * l + 1 → CWR p.1 p.2 (BW W l c) (BH H l c) (kdB c) (pl c) (fun i => cd (cs c + i)) (cl c) ∧ LSX p.1 p.2 (BW W l c) (BH H l c) (kdB c) (pl c) (fun i => cd (cs c + i)) ll (35 * c) (pas (pl c) + 1) ∧ ll (35 * c) = 0) := by
    intro c
    by_cases q : V ∧ 0 ≤ c ∧ c < 3 * l + 1
    · have hl := hv q.1
      have bw := BWr hW hl c q.2
      obtain ⟨hq, M, s, h1, h2, h3, h4, h5⟩ := h q.1 c q.2.1 q.2.2
      by_cases z : pl c = 0
      · refine ⟨(fun p => NBE W H g l c ((p - 11) % 10) ((p - 11) / 10), s), h2, fun _ _ _ x y x1 x2 y1 y2 => ?_, fun _ _ _ => ⟨⟨h3.1, fun n => absurd z n⟩, LSX_0 z, h5⟩⟩
        show NBE W H g l c ((10 * y + x + 11 - 11) % 10) ((10 * y + x + 11 - 11) / 10) = _
        rw [show (10 * y + x + 11 - 11) % 10 = x by omega, show (10 * y + x + 11 - 11) / 10 = y by omega]
      · exact ⟨(M, s), h2, fun _ _ _ x y x1 x2 y1 y2 => by rw [← hf c x y hl.1 hl.2 q.2.1 q.2.2 x1 x2 y1 y2]; exact h1 z x y x1 x2 y1 y2, fun _ _ _ => ⟨h3, h4, h5⟩⟩
    · exact ⟨(fun _ => 0, (fun _ => 0, fun _ => 0, fun _ => 0, [])), ⟨fun j _ _ => ⟨rfl, rfl, rfl⟩, rfl⟩, fun a b d => absurd ⟨a, b, d⟩ q, fun a b d => absurd ⟨a, b, d⟩ q⟩
  exact ⟨fun c => (Classical.choose (key c)).1, fun c => (Classical.choose (key c)).2, fun c => (Classical.choose_spec (key c)).1, fun v c => (Classical.choose_spec (key c)).2.1 v, fun v c => (Classical.choose_spec (key c)).2.2 v⟩
theorem LS_fin {M : Int → Int} {s : TS_} {w g kd q q' n n' o : Int} {B B' ll ll' : Int → Int} (hs : TS0 s) (hC : CWR M s w g kd q B n) (e : q = q' ∧ n = n' ∧ ∀ i : Int, 0 ≤ i → i < n' → B i = B' i) (h : LSX M s w g kd q B ll o (pas q + 1)) (h0 : ll o = 0) (h' : LSX M s w g kd q' B' ll' o (pas q' + 1)) (h0' : ll' o = 0) : ∀ p : Int, 0 ≤ p → p ≤ pas q' → ll (o + p) = ll' (o + p) := by
  obtain ⟨rfl, rfl, e3⟩ := e
  exact LS_eq hs hC (fun i i0 i1 => (e3 i i0 i1).symm) h h0 h' h0'

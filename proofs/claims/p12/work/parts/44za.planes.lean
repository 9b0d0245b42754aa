section UE
variable {own : String} {cc : ByteArray} {nL : Nat} {ret : Option FieldType} {pc : Nat}
theorem TT_iushr_e {K : TC_} {rm : Room} {nn : Nat} {w : Ly_} {kc ks : Nat} {lv : List (Nat × PV_)} {st : List PV_} {h : Hp_} (hK : TOk K own cc nL ret rm nn) {a b d : Int} {n : Nat} (ha : 0 ≤ a ∧ a ≤ 2147483647) (hb : b = ((n : Nat) : Int)) (hn : n = 1 ∨ n = 2 ∨ n = 4 ∨ n = 8 ∨ n = 16) (h9 : d = ((2 ^ n : Nat) : Int)) (hd : decode cc pc = .ok (.iushr, 1)) (k : TT K w kc ks (pc + 1) lv (vI (a / d) :: st) h) : TT K w kc ks pc lv (vI b :: vI a :: st) h := by
  obtain ⟨m, rfl⟩ := Int.eq_ofNat_of_zero_le ha.1
  subst hb h9
  exact TT_iushr hK (by omega) hn hd k
end UE
def kdB (b : Int) : Int := if b = 0 then 0 else if (b - 1) % 3 = 0 then 1 else if (b - 1) % 3 = 1 then 0 else 2
def bl (v : Int) : Int := if v < 1 then 0 else if v < 2 then 1 else if v < 4 then 2 else if v < 8 then 3 else if v < 16 then 4 else if v < 32 then 5 else if v < 64 then 6 else if v < 128 then 7 else if v < 256 then 8 else if v < 512 then 9 else if v < 1024 then 10 else if v < 2048 then 11 else 12
theorem bl_e1 {v : Int} (h : 1 ≤ v ∧ v < 2) : bl v = 1 := by
  unfold bl
  rw [if_neg (by omega), if_pos (by omega)]
theorem bl_e2 {v : Int} (h : 2 ≤ v ∧ v < 4) : bl v = 2 := by
  unfold bl
  rw [if_neg (by omega), if_neg (by omega), if_pos (by omega)]
theorem bl_e3 {v : Int} (h : 4 ≤ v ∧ v < 8) : bl v = 3 := by
  unfold bl
  rw [if_neg (by omega), if_neg (by omega), if_neg (by omega), if_pos (by omega)]
theorem bl_e4 {v : Int} (h : 8 ≤ v ∧ v < 16) : bl v = 4 := by
  unfold bl
  rw [if_neg (by omega), if_neg (by omega), if_neg (by omega), if_neg (by omega), if_pos (by omega)]
theorem bl_e5 {v : Int} (h : 16 ≤ v ∧ v < 32) : bl v = 5 := by
  unfold bl
  rw [if_neg (by omega), if_neg (by omega), if_neg (by omega), if_neg (by omega), if_neg (by omega), if_pos (by omega)]
theorem bl_e6 {v : Int} (h : 32 ≤ v ∧ v < 64) : bl v = 6 := by
  unfold bl
  rw [if_neg (by omega), if_neg (by omega), if_neg (by omega), if_neg (by omega), if_neg (by omega), if_neg (by omega), if_pos (by omega)]
theorem bl_e7 {v : Int} (h : 64 ≤ v ∧ v < 128) : bl v = 7 := by
  unfold bl
  rw [if_neg (by omega), if_neg (by omega), if_neg (by omega), if_neg (by omega), if_neg (by omega), if_neg (by omega), if_neg (by omega), if_pos (by omega)]
theorem bl_e8 {v : Int} (h : 128 ≤ v ∧ v < 256) : bl v = 8 := by
  unfold bl
  rw [if_neg (by omega), if_neg (by omega), if_neg (by omega), if_neg (by omega), if_neg (by omega), if_neg (by omega), if_neg (by omega), if_neg (by omega), if_pos (by omega)]
theorem bl_e9 {v : Int} (h : 256 ≤ v ∧ v < 512) : bl v = 9 := by
  unfold bl
  rw [if_neg (by omega), if_neg (by omega), if_neg (by omega), if_neg (by omega), if_neg (by omega), if_neg (by omega), if_neg (by omega), if_neg (by omega), if_neg (by omega), if_pos (by omega)]
theorem bl_e10 {v : Int} (h : 512 ≤ v ∧ v < 1024) : bl v = 10 := by
  unfold bl
  rw [if_neg (by omega), if_neg (by omega), if_neg (by omega), if_neg (by omega), if_neg (by omega), if_neg (by omega), if_neg (by omega), if_neg (by omega), if_neg (by omega), if_neg (by omega), if_pos (by omega)]
theorem bl_e11 {v : Int} (h : 1024 ≤ v ∧ v < 2048) : bl v = 11 := by
  unfold bl
  rw [if_neg (by omega), if_neg (by omega), if_neg (by omega), if_neg (by omega), if_neg (by omega), if_neg (by omega), if_neg (by omega), if_neg (by omega), if_neg (by omega), if_neg (by omega), if_neg (by omega), if_pos (by omega)]
theorem bl_e12 {v : Int} (h : 2048 ≤ v ∧ v < 4096) : bl v = 12 := by
  unfold bl
  rw [if_neg (by omega), if_neg (by omega), if_neg (by omega), if_neg (by omega), if_neg (by omega), if_neg (by omega), if_neg (by omega), if_neg (by omega), if_neg (by omega), if_neg (by omega), if_neg (by omega), if_neg (by omega)]
theorem bl_r {v : Int} (h : 0 ≤ v ∧ v ≤ 4095) : (0 ≤ bl v ∧ bl v ≤ 12) ∧ v < 2 ^ (bl v).toNat ∧ (bl v = 0 ∨ (2 : Int) ^ (bl v - 1).toNat ≤ v) := by
  by_cases h0 : v < 1
  · have e : v = 0 := by omega
    subst e
    decide
  by_cases h1 : v < 2
  · rw [bl_e1 ⟨by omega, by omega⟩]
    exact ⟨by decide, by rw [show (2 : Int) ^ (1 : Int).toNat = 2 from rfl]; omega, Or.inr (by rw [show (2 : Int) ^ ((1 : Int) - 1).toNat = 1 from rfl]; omega)⟩
  by_cases h2 : v < 4
  · rw [bl_e2 ⟨by omega, by omega⟩]
    exact ⟨by decide, by rw [show (2 : Int) ^ (2 : Int).toNat = 4 from rfl]; omega, Or.inr (by rw [show (2 : Int) ^ ((2 : Int) - 1).toNat = 2 from rfl]; omega)⟩
  by_cases h3 : v < 8
  · rw [bl_e3 ⟨by omega, by omega⟩]
    exact ⟨by decide, by rw [show (2 : Int) ^ (3 : Int).toNat = 8 from rfl]; omega, Or.inr (by rw [show (2 : Int) ^ ((3 : Int) - 1).toNat = 4 from rfl]; omega)⟩
  by_cases h4 : v < 16
  · rw [bl_e4 ⟨by omega, by omega⟩]
    exact ⟨by decide, by rw [show (2 : Int) ^ (4 : Int).toNat = 16 from rfl]; omega, Or.inr (by rw [show (2 : Int) ^ ((4 : Int) - 1).toNat = 8 from rfl]; omega)⟩
  by_cases h5 : v < 32
  · rw [bl_e5 ⟨by omega, by omega⟩]
    exact ⟨by decide, by rw [show (2 : Int) ^ (5 : Int).toNat = 32 from rfl]; omega, Or.inr (by rw [show (2 : Int) ^ ((5 : Int) - 1).toNat = 16 from rfl]; omega)⟩
  by_cases h6 : v < 64
  · rw [bl_e6 ⟨by omega, by omega⟩]
    exact ⟨by decide, by rw [show (2 : Int) ^ (6 : Int).toNat = 64 from rfl]; omega, Or.inr (by rw [show (2 : Int) ^ ((6 : Int) - 1).toNat = 32 from rfl]; omega)⟩
  by_cases h7 : v < 128
  · rw [bl_e7 ⟨by omega, by omega⟩]
    exact ⟨by decide, by rw [show (2 : Int) ^ (7 : Int).toNat = 128 from rfl]; omega, Or.inr (by rw [show (2 : Int) ^ ((7 : Int) - 1).toNat = 64 from rfl]; omega)⟩
  by_cases h8 : v < 256
  · rw [bl_e8 ⟨by omega, by omega⟩]
    exact ⟨by decide, by rw [show (2 : Int) ^ (8 : Int).toNat = 256 from rfl]; omega, Or.inr (by rw [show (2 : Int) ^ ((8 : Int) - 1).toNat = 128 from rfl]; omega)⟩
  by_cases h9 : v < 512
  · rw [bl_e9 ⟨by omega, by omega⟩]
    exact ⟨by decide, by rw [show (2 : Int) ^ (9 : Int).toNat = 512 from rfl]; omega, Or.inr (by rw [show (2 : Int) ^ ((9 : Int) - 1).toNat = 256 from rfl]; omega)⟩
  by_cases h10 : v < 1024
  · rw [bl_e10 ⟨by omega, by omega⟩]
    exact ⟨by decide, by rw [show (2 : Int) ^ (10 : Int).toNat = 1024 from rfl]; omega, Or.inr (by rw [show (2 : Int) ^ ((10 : Int) - 1).toNat = 512 from rfl]; omega)⟩
  by_cases h11 : v < 2048
  · rw [bl_e11 ⟨by omega, by omega⟩]
    exact ⟨by decide, by rw [show (2 : Int) ^ (11 : Int).toNat = 2048 from rfl]; omega, Or.inr (by rw [show (2 : Int) ^ ((11 : Int) - 1).toNat = 1024 from rfl]; omega)⟩
  rw [bl_e12 ⟨by omega, by omega⟩]
  exact ⟨by decide, by rw [show (2 : Int) ^ (12 : Int).toNat = 4096 from rfl]; omega, Or.inr (by rw [show (2 : Int) ^ ((12 : Int) - 1).toNat = 2048 from rfl]; omega)⟩
theorem bl_s8 {v : Int} (h : 256 ≤ v ∧ v < 4096) : bl (v / 256) + 8 = bl v := by
  by_cases h9 : v < 512
  · rw [bl_e1 ⟨by omega, by omega⟩, bl_e9 ⟨by omega, by omega⟩]
    decide
  by_cases h10 : v < 1024
  · rw [bl_e2 ⟨by omega, by omega⟩, bl_e10 ⟨by omega, by omega⟩]
    decide
  by_cases h11 : v < 2048
  · rw [bl_e3 ⟨by omega, by omega⟩, bl_e11 ⟨by omega, by omega⟩]
    decide
  rw [bl_e4 ⟨by omega, by omega⟩, bl_e12 ⟨by omega, by omega⟩]
  decide
theorem bl_s4 {v : Int} (h : 16 ≤ v ∧ v < 256) : bl (v / 16) + 4 = bl v := by
  by_cases h5 : v < 32
  · rw [bl_e1 ⟨by omega, by omega⟩, bl_e5 ⟨by omega, by omega⟩]
    decide
  by_cases h6 : v < 64
  · rw [bl_e2 ⟨by omega, by omega⟩, bl_e6 ⟨by omega, by omega⟩]
    decide
  by_cases h7 : v < 128
  · rw [bl_e3 ⟨by omega, by omega⟩, bl_e7 ⟨by omega, by omega⟩]
    decide
  rw [bl_e4 ⟨by omega, by omega⟩, bl_e8 ⟨by omega, by omega⟩]
  decide
theorem bl_s2 {v : Int} (h : 4 ≤ v ∧ v < 16) : bl (v / 4) + 2 = bl v := by
  by_cases h3 : v < 8
  · rw [bl_e1 ⟨by omega, by omega⟩, bl_e3 ⟨by omega, by omega⟩]
    decide
  rw [bl_e2 ⟨by omega, by omega⟩, bl_e4 ⟨by omega, by omega⟩]
  decide
def NBQ (N : Int → Int → Int) (w g : Int) : Prop := ∀ x y : Int, 0 ≤ x → x < w → 0 ≤ y → y < g → -4095 ≤ N x y ∧ N x y ≤ 4095
/-- so many planes has a band -/
def PLN (N : Int → Int → Int) (w g z : Int) : Prop := (0 ≤ z ∧ z ≤ 12) ∧ (∀ x y : Int, 0 ≤ x → x < w → 0 ≤ y → y < g → ((N x y).natAbs : Int) < 2 ^ z.toNat) ∧ (z = 0 ∨ ∃ x y : Int, (0 ≤ x ∧ x < w ∧ 0 ≤ y ∧ y < g) ∧ (2 : Int) ^ (z - 1).toNat ≤ ((N x y).natAbs : Int))
theorem p2_le {a b : Int} (h : a ≤ b) : (2 : Int) ^ a.toNat ≤ 2 ^ b.toNat := by
  have h4 : ((2 ^ a.toNat : Nat) : Int) ≤ ((2 ^ b.toNat : Nat) : Int) := Int.ofNat_le.mpr (Nat.pow_le_pow_right (show 0 < 2 by decide) (by omega))
  rw [Int.natCast_pow, Int.natCast_pow] at h4
  exact h4
theorem PLN_le {N N' : Int → Int → Int} {w g z z' : Int} (hN : ∀ x y : Int, 0 ≤ x → x < w → 0 ≤ y → y < g → (N x y).natAbs = (N' x y).natAbs) (h : PLN N w g z) (h' : PLN N' w g z') : z' ≤ z := by
  rcases h'.2.2 with e | ⟨x, y, hr, hp⟩
  · have := h.1.1
    omega
  · have k := h.2.1 x y hr.1 hr.2.1 hr.2.2.1 hr.2.2.2
    rw [hN x y hr.1 hr.2.1 hr.2.2.1 hr.2.2.2] at k
    by_cases q : z' ≤ z
    · exact q
    · have := p2_le (show z ≤ z' - 1 by omega)
      omega
theorem PLN_u {N N' : Int → Int → Int} {w g z z' : Int} (hN : ∀ x y : Int, 0 ≤ x → x < w → 0 ≤ y → y < g → (N x y).natAbs = (N' x y).natAbs) (h : PLN N w g z) (h' : PLN N' w g z') : z = z' := by
  have a := PLN_le hN h h'
  have b := PLN_le (fun x y h1 h2 h3 h4 => (hN x y h1 h2 h3 h4).symm) h' h
  omega
def GRQ (N : Int → Int → Int) (w g y x gr : Int) : Prop := (∀ x2 y2 : Int, 0 ≤ x2 → x2 < w → 0 ≤ y2 → y2 < g → (y2 < y ∨ (y2 = y ∧ x2 < x)) → ((N x2 y2).natAbs : Int) ≤ gr) ∧ (gr = 0 ∨ ∃ x2 y2 : Int, (0 ≤ x2 ∧ x2 < w ∧ 0 ≤ y2 ∧ y2 < g) ∧ ((N x2 y2).natAbs : Int) = gr)
theorem GRQ_0 (N : Int → Int → Int) (w g : Int) : GRQ N w g 0 0 0 := ⟨fun x2 y2 _ _ _ _ _ => by omega, Or.inl rfl⟩
theorem GRQ_r {N : Int → Int → Int} {w g y x gr : Int} (h : GRQ N w g y x gr) (hx : w ≤ x) : GRQ N w g (y + 1) 0 gr := ⟨fun x2 y2 h1 h2 h3 h4 h5 => h.1 x2 y2 h1 h2 h3 h4 (by omega), h.2⟩
theorem GRQ_s {N : Int → Int → Int} {w g y x gr z : Int} (h : GRQ N w g y x gr) (hx : 0 ≤ x ∧ x < w) (hy : 0 ≤ y ∧ y < g) (hz : z = N x y) : GRQ N w g y (x + 1) (max gr ((z.natAbs : Nat) : Int)) := by
  subst hz
  refine ⟨fun x2 y2 h1 h2 h3 h4 h5 => ?_, ?_⟩
  · by_cases e : x2 = x ∧ y2 = y
    · obtain ⟨rfl, rfl⟩ := e
      omega
    · have := h.1 x2 y2 h1 h2 h3 h4 (by omega)
      omega
  · by_cases e : gr ≤ (((N x y).natAbs : Nat) : Int)
    · exact Or.inr ⟨x, y, ⟨hx.1, hx.2, hy.1, hy.2⟩, by omega⟩
    · rcases h.2 with q | ⟨x2, y2, q1, q2⟩
      · exact Or.inl (by omega)
      · exact Or.inr ⟨x2, y2, q1, by omega⟩
theorem GRQ_e {N : Int → Int → Int} {w g y x gr z : Int} (h : GRQ N w g y x gr) (hy : g ≤ y) (hg : 0 ≤ gr ∧ gr ≤ 4095) (hz : z = bl gr) : PLN N w g (min 12 z) := by
  have b := bl_r hg
  rw [show min 12 z = bl gr by omega]
  refine ⟨b.1, fun x2 y2 h1 h2 h3 h4 => ?_, ?_⟩
  · have := h.1 x2 y2 h1 h2 h3 h4 (by omega)
    omega
  · rcases b.2.2 with q | q
    · exact Or.inl q
    · rcases h.2 with e | ⟨x2, y2, q1, q2⟩
      · refine Or.inl ?_
        rw [e]
        decide
      · exact Or.inr ⟨x2, y2, q1, by omega⟩
theorem pas_3 {q : Int} (h : 0 ≤ q) : pas q + 2 ≤ 3 * q ∨ pas q = 0 := by
  unfold pas
  split <;> omega
theorem pas_r12 {q : Int} (h : 0 ≤ q ∧ q ≤ 12) : 0 ≤ pas q ∧ pas q ≤ 34 := by
  unfold pas
  split <;> omega
/-! a band's word, from its numbers -/
def MRN (N : Int → Int → Int) (w g : Int) (M : Int → Int) : Prop := ∀ x y : Int, 0 ≤ x → x < w → 0 ≤ y → y < g → M (10 * y + x + 11) = N x y
def TS0 (s : TS_) : Prop := (∀ j : Int, 0 ≤ j → j < 100 → s.1 j = 0 ∧ s.2.1 j = 0 ∧ s.2.2.1 j = 0) ∧ s.2.2.2 = []
def ES0 (E : ES_) : Prop := E.1 = 32768 ∧ E.2.1 = 0 ∧ E.2.2.1 = 12 ∧ E.2.2.2.1 = 1 ∧ (∀ j : Int, 0 ≤ j → j < 19 → E.2.2.2.2.1 j = st0 j) ∧ (∀ j : Int, 0 ≤ j → j < 19 → E.2.2.2.2.2.1 j = 0) ∧ E.2.2.2.2.2.2 0 = 0
def endE (E : ES_) : Int × Int × Int × (Int → Int) := endS E.1 E.2.1 E.2.2.1 E.2.2.2.1 E.2.2.2.2.2.2
def WRD (R : Int × Int × Int × (Int → Int)) (B : Int → Int) (n : Int) : Prop := n = (if R.2.2.2 (R.2.2.1 - 1) = 255 then R.2.2.1 - 1 else R.2.2.1) - 1 ∧ ∀ j : Int, 1 ≤ j → j ≤ n → B (j - 1) = R.2.2.2 j
def tlF (T : List (Int × Int)) (E : ES_) : ES_ := T.foldl (fun E z => tellS E z.1 z.2) E
def CWX (N : Int → Int → Int) (w g kd q : Int) (B : Int → Int) (n tn tp : Int) (tc tb te : Int → Int) : Prop :=
  (q = 0 → n = 0 ∧ tn = 0 ∧ tp = 0) ∧ (q ≠ 0 → ∃ (M : Int → Int) (s : TS_) (E : ES_), MRN N w g M ∧ TS0 s ∧ ES0 E ∧ WRD (endE (tlF (psN M kd w g q (pas q).toNat s).2.2.2 E)) B n ∧
    tp = pas q ∧ TPE tn tc tb (psN M kd w g q (pas q).toNat s).2.2.2 ∧ ∀ j : Nat, (j : Int) < pas q → te (j : Int) = min ((psN M kd w g q (j + 1) s).2.2.2.length : Int) 1024)
theorem TPE_0 {c b : Int → Int} : TPE 0 c b [] := ⟨by decide, fun i hi => by omega⟩
theorem AGR_rf (n : Int) (o : Int → Int) : AGR n o o := fun _ _ _ => rfl
theorem EVR_0 {s : TS_} (h : TS0 s) : EVR s := fun z hz => by
  rw [h.2] at hz
  exact absurd hz (List.not_mem_nil)
theorem PSn_cg {f g : Int → Int} : ∀ k : Nat, (∀ j : Int, 0 ≤ j → j < (k : Int) → f j = g j) → PSn f k = PSn g k
  | 0, _ => rfl
  | k + 1, h => by
    show PSn f k + potS (f (k : Int)) = PSn g k + potS (g (k : Int))
    rw [PSn_cg k (fun j h1 h2 => h j h1 (by omega)), h (k : Int) (by omega) (by omega)]
theorem st0_k : PSn st0 19 = 0 := by decide +kernel
theorem st0_r (j : Int) : 0 ≤ st0 j ∧ st0 j < 47 := by
  unfold st0
  (repeat' split) <;> omega
theorem ES0_q {E : ES_} (h : ES0 E) : MQE E := by
  obtain ⟨h1, h2, h3, h4, h5, h6, h7⟩ := h
  refine ⟨?_, by rw [h1]; decide, fun j h0 h8 => by rw [h5 j h0 h8]; exact st0_r j⟩
  rw [h1, h2, h3, h4]
  refine ⟨by decide, by decide, by decide, by decide, by decide, by decide +kernel, by decide, ?_, ?_⟩
  · rw [show (1 : Int) - 1 = 0 by decide, h7]
    decide
  · rw [show (1 : Int) - 1 = 0 by decide, h7]
    decide
theorem ES0_w {E : ES_} (h : ES0 E) : WE E = -5 := by
  obtain ⟨h1, h2, h3, h4, h5, h6, h7⟩ := h
  unfold WE
  rw [h3, h4, PSn_cg 19 (fun j h0 h8 => h5 j h0 (by omega)), st0_k]
  decide
theorem pas_n {q : Int} (h : 1 ≤ q) : (pas q).toNat = 3 * (q - 1).toNat + 1 := by
  unfold pas
  rw [if_neg (by omega)]
  omega
theorem CW_len {M : Int → Int} {kd w g q : Int} {s : TS_} (hw : 0 ≤ w ∧ w ≤ 8) (hg : 0 ≤ g ∧ g ≤ 8) (hq : 1 ≤ q ∧ q ≤ 12) (hs : TS0 s) : ((psN M kd w g q (pas q).toNat s).2.2.2.length : Int) ≤ 15 * (w * g) := by
  have k := psN_m (M := M) (kd := kd) (s := s) hw hg hq (fun r hr => by
    obtain ⟨i, k, h1, h2, h3, h4⟩ := stL_m hr
    exact (hs.1 r (by omega) (by omega)).1) hs.2
  rw [← pas_n hq.1, stL_l w g _ (by omega)] at k
  have e : min ((((g + 3) / 4).toNat : Nat) * 4 : Int) (max 0 g) = g := by omega
  rw [e, show ((w.toNat : Nat) : Int) = w by omega] at k
  have := Int.mul_le_mul_of_nonneg_right (show q + 3 ≤ 15 by omega) (Int.mul_nonneg hw.1 hg.1)
  omega
/-- a tape told to the coder: the coder's fold, and how many bytes -/
theorem CW_T {n : Int} {c b : Int → Int} {T : List (Int × Int)} {E : ES_} {s : TS_} (hT : TPE n c b T) (hE : ES0 E) (hr : EVR s) (hs : s.2.2.2 = T) (hl : (T.length : Int) ≤ 1024) : tlN c b n.toNat E = tlF T E ∧ MQE (tlN c b n.toNat E) ∧ 7 * (tlN c b n.toNat E).2.2.2.1 ≤ 6 * (T.length : Int) + 7 := by
  subst hs
  have e : n.toNat = s.2.2.2.length := by have := hT.1; omega
  have f : tlN c b n.toNat E = tlF s.2.2.2 E := tlN_f e.symm (fun i hi => hT.2 i (by omega))
  have g := tellS_f s.2.2.2 (ES0_q hE) (fun z hz => (hr z hz).1)
  have u := tellS_n (ES0_q hE) (fun z hz => (hr z hz).1)
  rw [ES0_w hE] at u
  rw [f]
  exact ⟨rfl, g.1, by unfold tlF; omega⟩
theorem CWX_0 {N : Int → Int → Int} {w g kd q n tn tp : Int} {B tc tb te : Int → Int} (hq : q = 0) (hn : n = 0) (ht : tn = 0) (hp : tp = 0) : CWX N w g kd q B n tn tp tc tb te := ⟨fun _ => ⟨hn, ht, hp⟩, fun h => absurd hq h⟩
theorem CWX_1 {N : Int → Int → Int} {w g kd q n tn tp L z : Int} {F tc tb te M : Int → Int} {s : TS_} {E E1 : ES_} {R : Int × Int × Int × (Int → Int)} (hq : q ≠ 0) (hm : MRN N w g M) (hs : TS0 s) (hE : ES0 E) (hp : tp = pas q)
    (hT : TPE tn tc tb (psN M kd w g q (pas q).toNat s).2.2.2) (he : ∀ j : Nat, (j : Int) < pas q → te (j : Int) = min ((psN M kd w g q (j + 1) s).2.2.2.length : Int) 1024)
    (hf : E1 = tlF (psN M kd w g q (pas q).toNat s).2.2.2 E) (hR : R = endE E1) (hz : z = (if R.2.2.2 (R.2.2.1 - 1) = 255 then R.2.2.1 - 1 else R.2.2.1) - 1) (hn : n = z) (hB : ∀ j : Int, 1 ≤ j → j ≤ z → F (L + j - 1) = R.2.2.2 j) : CWX N w g kd q (fun i => F (L + i)) n tn tp tc tb te := by
  subst hn hz hR hf
  refine ⟨fun h => absurd h hq, fun _ => ⟨M, s, E, hm, hs, hE, ⟨rfl, fun j h1 h2 => ?_⟩, hp, hT, he⟩⟩
  show F (L + (j - 1)) = _
  rw [show L + (j - 1) = L + j - 1 by omega]
  exact hB j h1 h2
set_option maxRecDepth 20000 in
theorem s_kindOf_e (b : Int) (h : Hp_) (hT : TY h) (hb : 0 ≤ b ∧ b ≤ 9) : Ctr yX0_kindOf cX0_kindOf 3 (some .int) (rmd 0) ly ly 0 0 [vR 8, vI b] h (fun r h' => (TY h' ∧ FR [] h h') ∧ ∃ z : Int, r = some (vI z) ∧ (0 ≤ z ∧ z ≤ 2) ∧ (z = kdB b)) := by
  refine Ctr_of (by decide) (Nat.le_of_ble_eq_true rfl) ⟨Nat.le_refl _, Nat.le_refl _⟩ (fun K hK hQ _ => ?_)
  show TT K ly 0 0 0 [(0, vR 8), (1, vI b)] [] h
  have hF : FR [] h h := FR_rf _ _
  refine TT_iload_n hK rfl 1 rfl dX0_kindOf_0 ?_
  refine TT_if_ne hK (tgt := 6) (irm (by omega) (by omega)) dX0_kindOf_1 (by decide) (fun hb1_1 => ?_) (fun hb1_1 => ?_)
  · refine TT_iload_n hK rfl 1 rfl dX0_kindOf_6 ?_
    refine TT_iconst hK dX0_kindOf_7 ?_
    refine TT_isub hK dX0_kindOf_8 ?_
    refine TT_iconst hK dX0_kindOf_9 ?_
    refine TT_iremn hK (irm (by omega) (by omega)) (by decide) (by first | omega | (simp [up, setR] <;> omega)) (by first | omega | (simp [up, setR] <;> omega)) dX0_kindOf_10 ?_
    refine TT_istore_n hK rfl (lv' := [(2, vI ((b - 1) % 3)), (0, vR 8), (1, vI b)]) (by decide) rfl dX0_kindOf_11 ?_
    refine TT_iload_n hK rfl 0 rfl dX0_kindOf_12 ?_
    refine TT_if_ne hK (tgt := 20) (irm (by omega) (by omega)) dX0_kindOf_13 (by decide) (fun hb13_2 => ?_) (fun hb13_2 => ?_)
    · refine TT_iload_n hK rfl 0 rfl dX0_kindOf_20 ?_
      refine TT_iconst hK dX0_kindOf_21 ?_
      refine TT_icmp_ne hK (tgt := 29) (irm (by omega) (by omega)) (by decide) dX0_kindOf_22 (by decide) (fun hb22_3 => ?_) (fun hb22_3 => ?_)
      · refine TT_iconst hK dX0_kindOf_29 ?_
        refine TT_iret hK hQ ?_ dX0_kindOf_30
        exact ⟨⟨hT, hF⟩, 2, rfl, (by omega), (by unfold kdB; (repeat' split) <;> omega)⟩
      · refine TT_iconst hK dX0_kindOf_25 ?_
        refine TT_goto hK (tgt := 30) dX0_kindOf_26 (by decide) ?_
        refine TT_iret hK hQ ?_ dX0_kindOf_30
        exact ⟨⟨hT, hF⟩, 0, rfl, (by omega), (by unfold kdB; (repeat' split) <;> omega)⟩
    · refine TT_iconst hK dX0_kindOf_16 ?_
      refine TT_goto hK (tgt := 30) dX0_kindOf_17 (by decide) ?_
      refine TT_iret hK hQ ?_ dX0_kindOf_30
      exact ⟨⟨hT, hF⟩, 1, rfl, (by omega), (by unfold kdB; (repeat' split) <;> omega)⟩
  · refine TT_iconst hK dX0_kindOf_4 ?_
    refine TT_iret hK hQ ?_ dX0_kindOf_5
    exact ⟨⟨hT, hF⟩, 0, rfl, (by omega), (by unfold kdB; (repeat' split) <;> omega)⟩
set_option maxRecDepth 20000 in
theorem s_endPass_x (h : Hp_) (hT : TY h)  : Ctr yX7_endPass cX7_endPass 1 none (rmd 0) ly ly 0 0 [vR 24] h (fun r h' => (TY h' ∧ FR [24, 27] h h') ∧ r = none ∧ ((h' 24 3) = (h 24 3)) ∧ ((h 24 4) < 34 → (h' 24 4) = (h 24 4) + 1 ∧ (h' 27) = fup (h 27) (h 24 4) (h 24 3))) := by
  refine Ctr_of (by decide) (Nat.le_of_ble_eq_true rfl) ⟨Nat.le_refl _, Nat.le_refl _⟩ (fun K hK hQ _ => ?_)
  show TT K ly 0 0 0 [(0, vR 24)] [] h
  have hF : FR [24, 27] h h := FR_rf _ _
  refine TT_aload_n hK rfl 0 rfl dX7_endPass_0 ?_
  refine gf_X7_25 hK (by decide) rfl (v := (h 24) 4) rfl dX7_endPass_1 ?_
  have r1 := ty_24_4 (v := (h 24) 4) hT rfl
  refine TT_bipush hK (by decide) dX7_endPass_4 ?_
  refine TT_icmp_ge hK (tgt := 32) (irm (by omega) (by omega)) (by decide) dX7_endPass_6 (by decide) (fun hb6_2 => ?_) (fun hb6_2 => ?_)
  · refine TT_vret hK hQ ?_ dX7_endPass_32
    have e3_24_3 : h 24 3 = (h 24) 3 := rfl
    have e4_24_4 : h 24 4 = (h 24) 4 := rfl
    exact ⟨⟨hT, hF⟩, rfl, (by rewrite [e3_24_3]; omega), (by rewrite [e4_24_4]; first | (intro q; exact ⟨rfl, rfl⟩) | (intro q; exfalso; omega))⟩
  · refine TT_aload_n hK rfl 0 rfl dX7_endPass_9 ?_
    refine gf_X7_18 hK (by decide) rfl (q := 27) rfl rfl dX7_endPass_10 ?_
    refine TT_aload_n hK rfl 0 rfl dX7_endPass_13 ?_
    refine gf_X7_25 hK (by decide) rfl (v := (h 24) 4) rfl dX7_endPass_14 ?_
    refine TT_aload_n hK rfl 0 rfl dX7_endPass_17 ?_
    refine gf_X7_21 hK (by decide) rfl (v := (h 24) 3) rfl dX7_endPass_18 ?_
    have r5 := ty_24_3 (v := (h 24) 3) hT rfl
    refine TT_iast hK (o := 27) (n := 34) (by decide) rfl (by omega) (by omega) dX7_endPass_21 ?_
    refine TT_hp (h' := setO h 27 (fup (h 27) ((h 24) 4) ((h 24) 3))) (up_can rfl rfl rfl) ?_
    have hT_6 : TY (setO h 27 (fup (h 27) ((h 24) 4) ((h 24) 3))) := tu_27 hT (show up h 27 ((h 24) 4) ((h 24) 3) = (setO h 27 (fup (h 27) ((h 24) 4) ((h 24) 3))) from up_can rfl rfl rfl) (by omega)
    have hF_6 : FR [24, 27] h (setO h 27 (fup (h 27) ((h 24) 4) ((h 24) 3))) := FR_up (show up h 27 ((h 24) 4) ((h 24) 3) = (setO h 27 (fup (h 27) ((h 24) 4) ((h 24) 3))) from up_can rfl rfl rfl) hF (by decide)
    refine TT_aload_n hK rfl 0 rfl dX7_endPass_22 ?_
    refine TT_dup hK rfl dX7_endPass_23 ?_
    refine gf_X7_25 hK (by decide) rfl (v := (h 24) 4) (rd_ (sOf_ne _ _ (by decide)) rfl) dX7_endPass_24 ?_
    refine TT_iconst hK dX7_endPass_27 ?_
    refine TT_iadd hK dX7_endPass_28 ?_
    refine pf_X7_25 hK (by decide) rfl dX7_endPass_29 ?_
    refine TT_hp (h' := setO (setO h 24 (fup (h 24) 4 (((h 24) 4) + 1))) 27 (fup (h 27) ((h 24) 4) ((h 24) 3))) (up_can (sOf_ne _ _ (by decide)) rfl ((setO_comm _ _ _ (by decide)).trans (setO_cg rfl rfl))) ?_
    have hT_7 : TY (setO (setO h 24 (fup (h 24) 4 (((h 24) 4) + 1))) 27 (fup (h 27) ((h 24) 4) ((h 24) 3))) := tu_24_4 hT_6 (show up (setO h 27 (fup (h 27) ((h 24) 4) ((h 24) 3))) 24 4 (((h 24) 4) + 1) = (setO (setO h 24 (fup (h 24) 4 (((h 24) 4) + 1))) 27 (fup (h 27) ((h 24) 4) ((h 24) 3))) from up_can (sOf_ne _ _ (by decide)) rfl ((setO_comm _ _ _ (by decide)).trans (setO_cg rfl rfl))) (by omega)
    have hF_7 : FR [24, 27] h (setO (setO h 24 (fup (h 24) 4 (((h 24) 4) + 1))) 27 (fup (h 27) ((h 24) 4) ((h 24) 3))) := FR_up (show up (setO h 27 (fup (h 27) ((h 24) 4) ((h 24) 3))) 24 4 (((h 24) 4) + 1) = (setO (setO h 24 (fup (h 24) 4 (((h 24) 4) + 1))) 27 (fup (h 27) ((h 24) 4) ((h 24) 3))) from up_can (sOf_ne _ _ (by decide)) rfl ((setO_comm _ _ _ (by decide)).trans (setO_cg rfl rfl))) hF_6 (by decide)
    refine TT_vret hK hQ ?_ dX7_endPass_32
    have e8_24_3 : (setO (setO h 24 (fup (h 24) 4 (((h 24) 4) + 1))) 27 (fup (h 27) ((h 24) 4) ((h 24) 3))) 24 3 = (h 24) 3 := rd_ ((sOf_ne _ _ (by decide)).trans (sOf_eq _ _ _)) (fup_ne _ _ (by decide))
    have e9_24_4 : (setO (setO h 24 (fup (h 24) 4 (((h 24) 4) + 1))) 27 (fup (h 27) ((h 24) 4) ((h 24) 3))) 24 4 = ((h 24) 4) + 1 := rd_ ((sOf_ne _ _ (by decide)).trans (sOf_eq _ _ _)) (fup_eq _ _ _)
    have e10_27 : (setO (setO h 24 (fup (h 24) 4 (((h 24) 4) + 1))) 27 (fup (h 27) ((h 24) 4) ((h 24) 3))) 27 = fup (h 27) ((h 24) 4) ((h 24) 3) := sOf_eq _ _ _
    exact ⟨⟨hT_7, hF_7⟩, rfl, (by rewrite [e8_24_3]; omega), (by rewrite [e9_24_4, e10_27]; first | (intro q; exact ⟨rfl, rfl⟩) | (intro q; exfalso; omega))⟩
set_option maxRecDepth 20000 in
theorem s_len22_e (h : Hp_) (hT : TY h)  : Ctr yX1_length cX1_length 1 (some .int) (rmd 0) ly ly 0 0 [vR 22] h (fun r h' => (TY h' ∧ FR [] h h') ∧ ∃ z : Int, r = some (vI z) ∧ (0 ≤ z ∧ z ≤ 1024) ∧ (z = (h 22 1))) := by
  refine Ctr_of (by decide) (Nat.le_of_ble_eq_true rfl) ⟨Nat.le_refl _, Nat.le_refl _⟩ (fun K hK hQ _ => ?_)
  show TT K ly 0 0 0 [(0, vR 22)] [] h
  have hF : FR [] h h := FR_rf _ _
  refine TT_aload_n hK rfl 0 rfl dX1_length_0 ?_
  refine gf_X1_15 hK (by decide) rfl (v := (h 22) 1) rfl dX1_length_1 ?_
  have r1 := ty_22_1 (v := (h 22) 1) hT rfl
  refine TT_iret hK hQ ?_ dX1_length_4
  exact ⟨⟨hT, hF⟩, ((h 22) 1), rfl, (by omega), (by rfl)⟩
set_option maxRecDepth 20000 in
theorem s_cpassesOf_e (n : Int) (h : Hp_) (hT : TY h) (hn : 0 ≤ n ∧ n ≤ 12) : Ctr yX11_passesOf cX11_passesOf 1 (some .int) (rmd 0) ly ly 0 0 [vI n] h (fun r h' => (TY h' ∧ FR [] h h') ∧ ∃ z : Int, r = some (vI z) ∧ (0 ≤ z ∧ z ≤ 34) ∧ (z = pas n)) := by
  refine Ctr_of (by decide) (Nat.le_of_ble_eq_true rfl) ⟨Nat.le_refl _, Nat.le_refl _⟩ (fun K hK hQ _ => ?_)
  show TT K ly 0 0 0 [(0, vI n)] [] h
  have hF : FR [] h h := FR_rf _ _
  refine TT_iload_n hK rfl 0 rfl dX11_passesOf_0 ?_
  refine TT_if_ne hK (tgt := 8) (irm (by omega) (by omega)) dX11_passesOf_1 (by decide) (fun hb1_1 => ?_) (fun hb1_1 => ?_)
  · refine TT_iconst hK dX11_passesOf_8 ?_
    refine TT_iload_n hK rfl 0 rfl dX11_passesOf_9 ?_
    refine TT_imul hK dX11_passesOf_10 ?_
    refine TT_iconst hK dX11_passesOf_11 ?_
    refine TT_isub hK dX11_passesOf_12 ?_
    refine TT_iret hK hQ ?_ dX11_passesOf_13
    exact ⟨⟨hT, hF⟩, ((3 * n) - 2), rfl, (by omega), (by unfold pas; split <;> omega)⟩
  · refine TT_iconst hK dX11_passesOf_4 ?_
    refine TT_goto hK (tgt := 13) dX11_passesOf_5 (by decide) ?_
    refine TT_iret hK hQ ?_ dX11_passesOf_13
    exact ⟨⟨hT, hF⟩, 0, rfl, (by omega), (by unfold pas; split <;> omega)⟩
set_option maxRecDepth 20000 in
theorem s_nlz_e (v : Int) (h : Hp_) (hT : TY h) (hv : -2147483648 ≤ v ∧ v ≤ 2147483647) (hv2 : 0 ≤ v ∧ v ≤ 4095) : Ctr yJ6_numberOfLeadingZeros_0f7a4 cJ6_numberOfLeadingZeros_0f7a4 2 (some .int) (rmd 0) ly ly 0 0 [vI v] h (fun r h' => (TY h' ∧ FR [] h h') ∧ ∃ z : Int, r = some (vI z) ∧ (-1073741824 ≤ z ∧ z ≤ 32) ∧ (z = 32 - bl v)) := by
  refine Ctr_of (by decide) (Nat.le_of_ble_eq_true rfl) ⟨Nat.le_refl _, Nat.le_refl _⟩ (fun K hK hQ _ => ?_)
  show TT K ly 0 0 0 [(0, vI v)] [] h
  have hF : FR [] h h := FR_rf _ _
  refine TT_iload_n hK rfl 0 rfl dJ6_numberOfLeadingZeros_0f7a4_0 ?_
  refine TT_if_gt hK (tgt := 15) (irm (by omega) (by omega)) dJ6_numberOfLeadingZeros_0f7a4_1 (by decide) (fun hb1_1 => ?_) (fun hb1_1 => ?_)
  · refine TT_bipush hK (by decide) dJ6_numberOfLeadingZeros_0f7a4_15 ?_
    refine TT_istore_n hK rfl (lv' := [(1, vI 31), (0, vI v)]) (by decide) rfl dJ6_numberOfLeadingZeros_0f7a4_17 ?_
    have J33_2 : ∀ (n : Int) (i : Int) (w33_2 : Hp_), TY w33_2 → FR [] h w33_2 → ((15 ≤ n ∧ n ≤ 31) ∧ 1 ≤ i ∧ i < 4096 ∧ bl v + n = bl i + 31) → TT K ly 0 0 33 [(0, vI i), (1, vI n)] [] w33_2 := by
      intro n i w33_2 hT33_2 hF33_2 hn
      have J48_3 : ∀ (n : Int) (i : Int) (w48_3 : Hp_), TY w48_3 → FR [] h w48_3 → ((7 ≤ n ∧ n ≤ 31) ∧ 1 ≤ i ∧ i < 256 ∧ bl v + n = bl i + 31) → TT K ly 0 0 48 [(0, vI i), (1, vI n)] [] w48_3 := by
        intro n i w48_3 hT48_3 hF48_3 hn
        have J61_4 : ∀ (n : Int) (i : Int) (w61_4 : Hp_), TY w61_4 → FR [] h w61_4 → ((3 ≤ n ∧ n ≤ 31) ∧ 1 ≤ i ∧ i < 16 ∧ bl v + n = bl i + 31) → TT K ly 0 0 61 [(0, vI i), (1, vI n)] [] w61_4 := by
          intro n i w61_4 hT61_4 hF61_4 hn
          have J73_5 : ∀ (n : Int) (i : Int) (w73_5 : Hp_), TY w73_5 → FR [] h w73_5 → ((1 ≤ n ∧ n ≤ 31) ∧ 1 ≤ i ∧ i < 4 ∧ bl v + n = bl i + 31) → TT K ly 0 0 73 [(0, vI i), (1, vI n)] [] w73_5 := by
            intro n i w73_5 hT73_5 hF73_5 hn
            refine TT_iload_n hK rfl 1 rfl dJ6_numberOfLeadingZeros_0f7a4_73 ?_
            refine TT_iload_n hK rfl 0 rfl dJ6_numberOfLeadingZeros_0f7a4_74 ?_
            refine TT_iconst hK dJ6_numberOfLeadingZeros_0f7a4_75 ?_
            refine TT_iushr_e hK (n := 1) (d := 2) (by omega) rfl (by decide) rfl dJ6_numberOfLeadingZeros_0f7a4_76 ?_
            refine TT_isub hK dJ6_numberOfLeadingZeros_0f7a4_77 ?_
            refine TT_iret hK hQ ?_ dJ6_numberOfLeadingZeros_0f7a4_78
            exact ⟨⟨hT73_5, hF73_5⟩, (n - (i / 2)), rfl, (by omega), (by first | (rw [show v = 0 by omega]; decide) | (exfalso; omega) | (by_cases i1 : i < 2; (have b9 := bl_e1 (v := i) ⟨by omega, by omega⟩; omega); (have b9 := bl_e2 (v := i) ⟨by omega, by omega⟩; omega)))⟩
          refine TT_iload_n hK rfl 0 rfl dJ6_numberOfLeadingZeros_0f7a4_61 ?_
          refine TT_iconst hK dJ6_numberOfLeadingZeros_0f7a4_62 ?_
          refine TT_icmp_lt hK (tgt := 73) (irm (by omega) (by omega)) (by decide) dJ6_numberOfLeadingZeros_0f7a4_63 (by decide) (fun hb63_6 => ?_) (fun hb63_6 => ?_)
          · exact J73_5 n i w61_4 hT61_4 hF61_4 (by first | omega | (have b9 := bl_s2 (v := i) ⟨by omega, by omega⟩; omega))
          · refine TT_iinc hK (v := n - 2) (lv' := [(1, vI (n - 2)), (0, vI i)]) 1 rfl (by omega) (by decide) rfl dJ6_numberOfLeadingZeros_0f7a4_66 ?_
            refine TT_iload_n hK rfl 1 rfl dJ6_numberOfLeadingZeros_0f7a4_69 ?_
            refine TT_iconst hK dJ6_numberOfLeadingZeros_0f7a4_70 ?_
            refine TT_iushr_e hK (n := 2) (d := 4) (by omega) rfl (by decide) rfl dJ6_numberOfLeadingZeros_0f7a4_71 ?_
            refine TT_istore_n hK rfl (lv' := [(0, vI (i / 4)), (1, vI (n - 2))]) (by decide) rfl dJ6_numberOfLeadingZeros_0f7a4_72 ?_
            exact J73_5 (n - 2) (i / 4) w61_4 hT61_4 hF61_4 (by first | omega | (have b9 := bl_s2 (v := i) ⟨by omega, by omega⟩; omega))
        refine TT_iload_n hK rfl 0 rfl dJ6_numberOfLeadingZeros_0f7a4_48 ?_
        refine TT_bipush hK (by decide) dJ6_numberOfLeadingZeros_0f7a4_49 ?_
        refine TT_icmp_lt hK (tgt := 61) (irm (by omega) (by omega)) (by decide) dJ6_numberOfLeadingZeros_0f7a4_51 (by decide) (fun hb51_7 => ?_) (fun hb51_7 => ?_)
        · exact J61_4 n i w48_3 hT48_3 hF48_3 (by first | omega | (have b9 := bl_s4 (v := i) ⟨by omega, by omega⟩; omega))
        · refine TT_iinc hK (v := n - 4) (lv' := [(1, vI (n - 4)), (0, vI i)]) 1 rfl (by omega) (by decide) rfl dJ6_numberOfLeadingZeros_0f7a4_54 ?_
          refine TT_iload_n hK rfl 1 rfl dJ6_numberOfLeadingZeros_0f7a4_57 ?_
          refine TT_iconst hK dJ6_numberOfLeadingZeros_0f7a4_58 ?_
          refine TT_iushr_e hK (n := 4) (d := 16) (by omega) rfl (by decide) rfl dJ6_numberOfLeadingZeros_0f7a4_59 ?_
          refine TT_istore_n hK rfl (lv' := [(0, vI (i / 16)), (1, vI (n - 4))]) (by decide) rfl dJ6_numberOfLeadingZeros_0f7a4_60 ?_
          exact J61_4 (n - 4) (i / 16) w48_3 hT48_3 hF48_3 (by first | omega | (have b9 := bl_s4 (v := i) ⟨by omega, by omega⟩; omega))
      refine TT_iload_n hK rfl 0 rfl dJ6_numberOfLeadingZeros_0f7a4_33 ?_
      refine TT_sipush hK (by decide) dJ6_numberOfLeadingZeros_0f7a4_34 ?_
      refine TT_icmp_lt hK (tgt := 48) (irm (by omega) (by omega)) (by decide) dJ6_numberOfLeadingZeros_0f7a4_37 (by decide) (fun hb37_8 => ?_) (fun hb37_8 => ?_)
      · exact J48_3 n i w33_2 hT33_2 hF33_2 (by first | omega | (have b9 := bl_s8 (v := i) ⟨by omega, by omega⟩; omega))
      · refine TT_iinc hK (v := n - 8) (lv' := [(1, vI (n - 8)), (0, vI i)]) 1 rfl (by omega) (by decide) rfl dJ6_numberOfLeadingZeros_0f7a4_40 ?_
        refine TT_iload_n hK rfl 1 rfl dJ6_numberOfLeadingZeros_0f7a4_43 ?_
        refine TT_bipush hK (by decide) dJ6_numberOfLeadingZeros_0f7a4_44 ?_
        refine TT_iushr_e hK (n := 8) (d := 256) (by omega) rfl (by decide) rfl dJ6_numberOfLeadingZeros_0f7a4_46 ?_
        refine TT_istore_n hK rfl (lv' := [(0, vI (i / 256)), (1, vI (n - 8))]) (by decide) rfl dJ6_numberOfLeadingZeros_0f7a4_47 ?_
        exact J48_3 (n - 8) (i / 256) w33_2 hT33_2 hF33_2 (by first | omega | (have b9 := bl_s8 (v := i) ⟨by omega, by omega⟩; omega))
    refine TT_iload_n hK rfl 1 rfl dJ6_numberOfLeadingZeros_0f7a4_18 ?_
    refine TT_ldcw hK lc_J6_264 dJ6_numberOfLeadingZeros_0f7a4_19 ?_
    refine TT_icmp_lt hK (tgt := 33) (irm (by omega) (by omega)) (by decide) dJ6_numberOfLeadingZeros_0f7a4_22 (by decide) (fun hb22_9 => ?_) (fun hb22_9 => ?_)
    · refine TT_sub [1, 0] rfl ?_
      exact J33_2 31 v h hT hF (by first | omega | (simp [up, setR] <;> omega))
    · exfalso; omega
  · refine TT_iload_n hK rfl 0 rfl dJ6_numberOfLeadingZeros_0f7a4_4 ?_
    refine TT_if_ne hK (tgt := 13) (irm (by omega) (by omega)) dJ6_numberOfLeadingZeros_0f7a4_5 (by decide) (fun hb5_10 => ?_) (fun hb5_10 => ?_)
    · refine TT_iconst hK dJ6_numberOfLeadingZeros_0f7a4_13 ?_
      refine TT_iret hK hQ ?_ dJ6_numberOfLeadingZeros_0f7a4_14
      exact ⟨⟨hT, hF⟩, 0, rfl, (by omega), (by first | (rw [show v = 0 by omega]; decide) | (exfalso; omega) | (by_cases i1 : i < 2; (have b9 := bl_e1 (v := i) ⟨by omega, by omega⟩; omega); (have b9 := bl_e2 (v := i) ⟨by omega, by omega⟩; omega)))⟩
    · refine TT_bipush hK (by decide) dJ6_numberOfLeadingZeros_0f7a4_8 ?_
      refine TT_goto hK (tgt := 14) dJ6_numberOfLeadingZeros_0f7a4_10 (by decide) ?_
      refine TT_iret hK hQ ?_ dJ6_numberOfLeadingZeros_0f7a4_14
      exact ⟨⟨hT, hF⟩, 32, rfl, (by omega), (by first | (rw [show v = 0 by omega]; decide) | (exfalso; omega) | (by_cases i1 : i < 2; (have b9 := bl_e1 (v := i) ⟨by omega, by omega⟩; omega); (have b9 := bl_e2 (v := i) ⟨by omega, by omega⟩; omega)))⟩
set_option maxRecDepth 20000 in
theorem s_bitsOf_e (n : Int) (h : Hp_) (hT : TY h) (hn : -2147483648 ≤ n ∧ n ≤ 2147483647) (hv2 : 0 ≤ n ∧ n ≤ 4095) : Ctr yX11_bitsOf cX11_bitsOf 1 (some .int) (rmd 1) ly ly 0 0 [vI n] h (fun r h' => (TY h' ∧ FR [] h h') ∧ ∃ z : Int, r = some (vI z) ∧ (0 ≤ z ∧ z ≤ 1073741856) ∧ (z = bl n)) := by
  refine Ctr_of (by decide) (Nat.le_of_ble_eq_true rfl) ⟨Nat.le_refl _, Nat.le_refl _⟩ (fun K hK hQ _ => ?_)
  show TT K ly 0 0 0 [(0, vI n)] [] h
  have hF : FR [] h h := FR_rf _ _
  refine TT_bipush hK (by decide) dX11_bitsOf_0 ?_
  refine TT_iload_n hK rfl 0 rfl dX11_bitsOf_2 ?_
  refine iv_X11_125 hK (s_nlz_e n h hT (by first | omega | (simp [up, setR] <;> omega)) (by first | omega | (simp [up, setR] <;> omega))) ⟨by decide, by decide⟩ (by decide) rfl rfl (Nat.le_of_ble_eq_true rfl) ⟨by decide, by decide⟩ dX11_bitsOf_3 ?_
  intro r9 g3_1 hp9
  obtain ⟨⟨hT_1, hG_1⟩, z3_1, hr9, hz_1, e_1⟩ := hp9
  rw [hr9]
  have hF_1 : FR [] h g3_1 := FR_tr hF hG_1 (by decide)
  have e_at3 := e_1
  show TT K ly 0 0 6 [(0, vI n)] [vI z3_1, vI 32] g3_1
  refine TT_isub hK dX11_bitsOf_6 ?_
  refine TT_iret hK hQ ?_ dX11_bitsOf_7
  exact ⟨⟨hT_1, hF_1⟩, (32 - z3_1), rfl, (by omega), (by omega)⟩
set_option maxRecDepth 20000 in
theorem s_planesOf_e (b : Int) (h : Hp_) (hT : TY h) (hb : 0 ≤ b ∧ b ≤ 9) (hbd : BDQ (h 10) (h 12) (h 11) (h 13)) (hhb : 0 ≤ b ∧ b < (h 8 10)) (hnb : NBQ (fun x y : Int => (h 9) (((h 11) b + y) * 8 + (h 10) b + x)) ((h 12) b) ((h 13) b)) : Ctr yX3_planesOf cX3_planesOf 5 (some .int) (rmd 3) ly ly 0 0 [vR 7, vI b] h (fun r h' => (TY h' ∧ FR [] h h') ∧ ∃ z : Int, r = some (vI z) ∧ (0 ≤ z ∧ z ≤ 12) ∧ (PLN (fun x y : Int => (h 9) (((h 11) b + y) * 8 + (h 10) b + x)) ((h 12) b) ((h 13) b) z)) := by
  refine Ctr_of (by decide) (Nat.le_of_ble_eq_true rfl) ⟨Nat.le_refl _, Nat.le_refl _⟩ (fun K hK hQ _ => ?_)
  show TT K ly 0 0 0 [(0, vR 7), (1, vI b)] [] h
  have hF : FR [] h h := FR_rf _ _
  have rw12 := ty_12 (i := b) (v := h 12 b) hT rfl (by omega) (by omega)
  have rw13 := ty_13 (i := b) (v := h 13 b) hT rfl (by omega) (by omega)
  refine TT_iconst hK dX3_planesOf_0 ?_
  refine TT_istore_n hK rfl (lv' := [(2, vI 0), (0, vR 7), (1, vI b)]) (by decide) rfl dX3_planesOf_1 ?_
  refine TT_iconst hK dX3_planesOf_2 ?_
  refine TT_istore_n hK rfl (lv' := [(3, vI 0), (2, vI 0), (0, vR 7), (1, vI b)]) (by decide) rfl dX3_planesOf_3 ?_
  have L4_1 : ∀ (k1 : Nat) (gr : Int) (y : Int) (w4_1 : Hp_), TY w4_1 → FR [] h w4_1 → (0 ≤ gr ∧ gr ≤ 4095) → (0 ≤ y ∧ y ≤ h 13 b) → (GRQ (fun x y : Int => h 9 ((h 11 b + y) * 8 + h 10 b + x)) (h 12 b) (h 13 b) y 0 gr) → ((8 : Int) - y).toNat < k1 → TT K ly 0 0 4 [(0, vR 7), (1, vI b), (2, vI gr), (3, vI y)] [] w4_1 := by
    intro k1
    induction k1 with
    | zero => intro gr y w4_1 hT4_1 hF4_1 hgr hy hG hk1; exact absurd hk1 (Nat.not_lt_zero _)
    | succ k1 ih1 =>
      intro gr y w4_1 hT4_1 hF4_1 hgr hy hG hk1
      refine TT_iload_n hK rfl 3 rfl dX3_planesOf_4 ?_
      refine TT_aload_n hK rfl 0 rfl dX3_planesOf_5 ?_
      refine gf_X3_12 hK (by decide) rfl (q := 8) rfl rfl dX3_planesOf_6 ?_
      refine gf_X3_82 hK (by decide) rfl (q := 13) rfl rfl dX3_planesOf_9 ?_
      refine TT_iload_n hK rfl 1 rfl dX3_planesOf_12 ?_
      refine TT_iald hK (o := 13) (n := 10) (by decide) rfl (by first | omega | (simp [up, setR] <;> omega)) (by first | omega | (simp [up, setR] <;> omega)) (v := (h 13) b) (rd_ (hF4_1 13 (by decide)) rfl) dX3_planesOf_13 ?_
      have r2 := ty_13 (i := b) (v := (h 13) b) hT4_1 (rd_ (hF4_1 13 (by decide)) rfl) (by omega) (by omega)
      refine TT_icmp_ge hK (tgt := 65) (irm (by omega) (by omega)) (irm (by omega) (by omega)) dX3_planesOf_14 (by decide) (fun hb14_3 => ?_) (fun hb14_3 => ?_)
      · refine TT_bipush hK (by decide) dX3_planesOf_65 ?_
        refine TT_iload_n hK rfl 2 rfl dX3_planesOf_67 ?_
        refine iv_X3_147 hK (s_bitsOf_e gr w4_1 hT4_1 (by first | omega | (simp [up, setR] <;> omega)) (by first | omega | (simp [up, setR] <;> omega))) ⟨by decide, by decide⟩ (by decide) rfl rfl (Nat.le_of_ble_eq_true rfl) ⟨by decide, by decide⟩ dX3_planesOf_68 ?_
        intro r9 g68_4 hp9
        obtain ⟨⟨hT_4, hG_4⟩, z68_4, hr9, hz_4, e_4⟩ := hp9
        rw [hr9]
        have hF_4 : FR [] h g68_4 := FR_tr hF4_1 hG_4 (by decide)
        have e_at68 := e_4
        show TT K ly 0 0 71 [(0, vR 7), (1, vI b), (2, vI gr), (3, vI y)] [vI z68_4, vI 12] g68_4
        refine TT_mmin hK (by decide) (irm (by omega) (by omega)) iw_X3_150 (by decide) (Nat.le_of_ble_eq_true rfl) ⟨by decide, by decide⟩ dX3_planesOf_71 ?_
        refine TT_iret hK hQ ?_ dX3_planesOf_74
        exact ⟨⟨hT_4, hF_4⟩, (min 12 z68_4), rfl, (by omega), (by exact GRQ_e hG (by omega) hgr e_at68)⟩
      · refine TT_iconst hK dX3_planesOf_17 ?_
        refine TT_istore hK (lv' := [(4, vI 0), (0, vR 7), (1, vI b), (2, vI gr), (3, vI y)]) (by decide) rfl dX3_planesOf_18 ?_
        have L20_5 : ∀ (k5 : Nat) (gr : Int) (x : Int) (w20_5 : Hp_), TY w20_5 → FR [] h w20_5 → (0 ≤ gr ∧ gr ≤ 4095) → (0 ≤ x ∧ x ≤ h 12 b) → (GRQ (fun x y : Int => h 9 ((h 11 b + y) * 8 + h 10 b + x)) (h 12 b) (h 13 b) y x gr) → ((8 : Int) - x).toNat < k5 → TT K ly 0 0 20 [(0, vR 7), (1, vI b), (2, vI gr), (3, vI y), (4, vI x)] [] w20_5 := by
          intro k5
          induction k5 with
          | zero => intro gr x w20_5 hT20_5 hF20_5 hgr hx hG hk5; exact absurd hk5 (Nat.not_lt_zero _)
          | succ k5 ih5 =>
            intro gr x w20_5 hT20_5 hF20_5 hgr hx hG hk5
            refine TT_iload hK 4 rfl dX3_planesOf_20 ?_
            refine TT_aload_n hK rfl 0 rfl dX3_planesOf_22 ?_
            refine gf_X3_12 hK (by decide) rfl (q := 8) rfl rfl dX3_planesOf_23 ?_
            refine gf_X3_79 hK (by decide) rfl (q := 12) rfl rfl dX3_planesOf_26 ?_
            refine TT_iload_n hK rfl 1 rfl dX3_planesOf_29 ?_
            refine TT_iald hK (o := 12) (n := 10) (by decide) rfl (by first | omega | (simp [up, setR] <;> omega)) (by first | omega | (simp [up, setR] <;> omega)) (v := (h 12) b) (rd_ (hF20_5 12 (by decide)) rfl) dX3_planesOf_30 ?_
            have r6 := ty_12 (i := b) (v := (h 12) b) hT20_5 (rd_ (hF20_5 12 (by decide)) rfl) (by omega) (by omega)
            refine TT_icmp_ge hK (tgt := 59) (irm (by omega) (by omega)) (irm (by omega) (by omega)) dX3_planesOf_31 (by decide) (fun hb31_7 => ?_) (fun hb31_7 => ?_)
            · refine TT_iinc hK (v := y + 1) (lv' := [(3, vI (y + 1)), (0, vR 7), (1, vI b), (2, vI gr), (4, vI x)]) 3 rfl rfl (by decide) rfl dX3_planesOf_59 ?_
              refine TT_goto hK (tgt := 4) dX3_planesOf_62 (by decide) ?_
              refine TT_sub [1, 2, 3, 0] rfl ?_
              exact ih1 gr (y + 1) w20_5 hT20_5 hF20_5 (by first | omega | (simp [up, setR] <;> omega)) (by first | omega | (simp [up, setR] <;> omega)) (by exact GRQ_r hG (by omega)) (by first | omega | (simp [up, setR] <;> omega))
            · refine TT_iload_n hK rfl 2 rfl dX3_planesOf_34 ?_
              refine TT_aload_n hK rfl 0 rfl dX3_planesOf_35 ?_
              refine gf_X3_12 hK (by decide) rfl (q := 8) rfl rfl dX3_planesOf_36 ?_
              refine TT_iload_n hK rfl 1 rfl dX3_planesOf_39 ?_
              refine TT_iload hK 4 rfl dX3_planesOf_40 ?_
              refine TT_iload_n hK rfl 3 rfl dX3_planesOf_42 ?_
              have e8_10 : w20_5 10 = h 10 := (hF20_5 10 (by decide))
              have e9_11 : w20_5 11 = h 11 := (hF20_5 11 (by decide))
              have e10_12 : w20_5 12 = h 12 := (hF20_5 12 (by decide))
              have e11_13 : w20_5 13 = h 13 := (hF20_5 13 (by decide))
              refine iv_X3_89 hK (s_at_x8 b x y w20_5 hT20_5 (by first | omega | (simp [up, setR] <;> omega)) (by first | omega | (simp [up, setR] <;> omega)) (by first | omega | (simp [up, setR] <;> omega)) (by rewrite [e8_10, e9_11, e10_12, e11_13]; first | assumption | exact hbd)) (by decide) rfl ⟨by decide, by decide⟩ (by decide) rfl rfl (Nat.le_of_ble_eq_true rfl) ⟨by decide, by decide⟩ dX3_planesOf_43 ?_
              intro r9 g43_12 hp9
              obtain ⟨⟨hT_12, hG_12⟩, z43_12, hr9, hz_12, q1_12⟩ := hp9
              rw [hr9]
              have hF_12 : FR [] h g43_12 := FR_tr hF20_5 hG_12 (by decide)
              rw [show w20_5 10 = h 10 from (hF20_5 10 (by decide))] at q1_12
              rw [show w20_5 11 = h 11 from (hF20_5 11 (by decide))] at q1_12
              rw [show w20_5 12 = h 12 from (hF20_5 12 (by decide))] at q1_12
              rw [show w20_5 13 = h 13 from (hF20_5 13 (by decide))] at q1_12
              rw [show w20_5 8 10 = (h 8) 10 from rd_ (hF20_5 8 (by decide)) rfl] at q1_12
              rw [show w20_5 9 = h 9 from (hF20_5 9 (by decide))] at q1_12
              have q1_at43 := q1_12
              show TT K ly 0 0 46 [(0, vR 7), (1, vI b), (2, vI gr), (3, vI y), (4, vI x)] [vI z43_12, vI gr] g43_12
              have v9 : -4095 ≤ h 9 ((h 11 b + y) * 8 + h 10 b + x) ∧ h 9 ((h 11 b + y) * 8 + h 10 b + x) ≤ 4095 := hnb x y (by omega) (by omega) (by omega) (by omega)
              have v8 := q1_at43.1 (by omega)
              refine TT_mabs hK (irm (by omega) (by omega)) iw_X3_138 (by decide) (Nat.le_of_ble_eq_true rfl) ⟨by decide, by decide⟩ dX3_planesOf_46 ?_
              refine TT_mmax hK (irm (by omega) (by omega)) (irm (by omega) (by omega)) iw_X3_143 (by decide) (Nat.le_of_ble_eq_true rfl) ⟨by decide, by decide⟩ dX3_planesOf_49 ?_
              refine TT_istore_n hK rfl (lv' := [(2, vI (max gr (Int.natAbs z43_12 : Int))), (0, vR 7), (1, vI b), (3, vI y), (4, vI x)]) (by decide) rfl dX3_planesOf_52 ?_
              refine TT_iinc hK (v := x + 1) (lv' := [(4, vI (x + 1)), (2, vI (max gr (Int.natAbs z43_12 : Int))), (0, vR 7), (1, vI b), (3, vI y)]) 4 rfl rfl (by decide) rfl dX3_planesOf_53 ?_
              refine TT_goto hK (tgt := 20) dX3_planesOf_56 (by decide) ?_
              refine TT_sub [2, 3, 1, 4, 0] rfl ?_
              exact ih5 (max gr (Int.natAbs z43_12 : Int)) (x + 1) g43_12 hT_12 hF_12 (by first | omega | (simp [up, setR] <;> omega)) (by first | omega | (simp [up, setR] <;> omega)) (by exact GRQ_s hG (by omega) (by omega) v8) (by first | omega | (simp [up, setR] <;> omega))
        refine TT_sub [1, 2, 3, 4, 0] rfl ?_
        exact L20_5 ((((8 : Int) - 0).toNat) + 1) gr 0 w4_1 hT4_1 hF4_1 (by first | omega | (simp [up, setR] <;> omega)) (by first | omega | (simp [up, setR] <;> omega)) (by exact hG) (Nat.lt_succ_self _)
  refine TT_sub [2, 3, 1, 0] rfl ?_
  exact L4_1 ((((8 : Int) - 0).toNat) + 1) 0 0 h hT hF (by first | omega | (simp [up, setR] <;> omega)) (by first | omega | (simp [up, setR] <;> omega)) (by exact GRQ_0 _ _ _) (Nat.lt_succ_self _)

/-! THE WAVELET of a line, in numbers -/
/-- d(k) of a line of n, k at least 0 and below n / 2 -/
def dl (f : Int → Int) (n k : Int) : Int := f (2 * k + 1) - (f (2 * k) + f (if 2 * k + 2 < n then 2 * k + 2 else 2 * k)) / 2
def ck (k n : Int) : Int := if k < 0 then 0 else if k < n / 2 then k else n / 2 - 1
/-- a line's s, then its d -/
def fw (f : Int → Int) (n j : Int) : Int := if n = 1 then f 0 else if j < (n + 1) / 2 then f (2 * j) + (dl f n (ck (j - 1) n) + dl f n (ck j n) + 2) / 4 else dl f n (j - (n + 1) / 2)
def gvn (f : Int → Int) (n k : Int) : Int := f ((n + 1) / 2 + ck k n)
def evn (f : Int → Int) (n k : Int) : Int := if n = 1 then f 0 else f k - (gvn f n (k - 1) + gvn f n k + 2) / 4
/-- and back -/
def bkw (f : Int → Int) (n j : Int) : Int := if j % 2 = 0 then evn f n (j / 2) else gvn f n (j / 2) + (evn f n (j / 2) + evn f n (if j + 1 < n then (j + 1) / 2 else (n - 2) / 2)) / 2
theorem dl_cg {f g : Int → Int} {n k : Int} (h : ∀ j, 0 ≤ j → j < n → f j = g j) (h0 : 0 ≤ k) (h1 : k < n / 2) : dl f n k = dl g n k := by
  unfold dl
  rw [h (2 * k + 1) (by omega) (by omega), h (2 * k) (by omega) (by omega)]
  split
  · rw [h (2 * k + 2) (by omega) (by omega)]
  · rw [h (2 * k) (by omega) (by omega)]
theorem ck_r (k : Int) {n : Int} (hn : 2 ≤ n) : 0 ≤ ck k n ∧ ck k n < n / 2 := by
  unfold ck
  (repeat' split) <;> omega
theorem fw_cg {f g : Int → Int} {n j : Int} (hn : 1 ≤ n) (h : ∀ j, 0 ≤ j → j < n → f j = g j) (h0 : 0 ≤ j) (h1 : j < n) : fw f n j = fw g n j := by
  unfold fw
  by_cases q : n = 1
  · rw [if_pos q, if_pos q, h 0 (by omega) (by omega)]
  · rw [if_neg q, if_neg q]
    split
    · have c1 := ck_r (j - 1) (n := n) (by omega)
      have c2 := ck_r j (n := n) (by omega)
      rw [h (2 * j) (by omega) (by omega), dl_cg h c1.1 c1.2, dl_cg h c2.1 c2.2]
    · exact dl_cg h (by omega) (by omega)
theorem dl_bd {f : Int → Int} {n B k : Int} (h : bdr f n B) (h0 : 0 ≤ k) (h1 : k < n / 2) : -(2 * B + 1) ≤ dl f n k ∧ dl f n k ≤ 2 * B + 1 := by
  unfold dl
  have a1 := h (2 * k + 1) (by omega) (by omega)
  have a2 := h (2 * k) (by omega) (by omega)
  split
  · have a3 := h (2 * k + 2) (by omega) (by omega)
    omega
  · omega
/-- the places from, from + step .. of a row become f 0, f 1 .. -/
def wrs (s : Int → Int) (a b : Int) (f : Int → Int) : Nat → (Int → Int)
  | 0 => s
  | n + 1 => fup (wrs s a b f n) (a + b * n) (f n)
theorem wrs_cg (s : Int → Int) (a b : Int) {f g : Int → Int} : ∀ n : Nat, (∀ j : Int, 0 ≤ j → j < n → f j = g j) → wrs s a b f n = wrs s a b g n := by
  intro n
  induction n with
  | zero => intro _; rfl
  | succ n ih =>
    intro h
    show fup _ _ _ = fup _ _ _
    rw [ih (fun j h0 h1 => h j h0 (by omega)), h n (by omega) (by omega)]
theorem wrs_step (s : Int → Int) (a b : Int) {f : Int → Int} {m v : Int} (h0 : 0 ≤ m) (hv : v = f m) : fup (wrs s a b f m.toNat) (a + b * m) v = wrs s a b f (m + 1).toNat := by
  obtain ⟨k, rfl⟩ := Int.eq_ofNat_of_zero_le h0
  subst hv
  have e : ((k : Int) + 1).toNat = k + 1 := by omega
  rw [e]
  rfl
theorem wrs_out (s : Int → Int) (a b : Int) (f : Int → Int) {p : Int} : ∀ n : Nat, (∀ j : Int, 0 ≤ j → j < n → p ≠ a + b * j) → wrs s a b f n p = s p := by
  intro n
  induction n with
  | zero => intro _; rfl
  | succ n ih =>
    intro h
    show fup _ _ _ p = _
    rw [fup_ne _ _ (h n (by omega) (by omega)), ih (fun j h0 h1 => h j h0 (by omega))]
theorem wrs_in (s : Int → Int) (a : Int) {b : Int} (hb : 0 < b) (f : Int → Int) {j : Int} (h0 : 0 ≤ j) : ∀ n : Nat, j < n → wrs s a b f n (a + b * j) = f j := by
  intro n
  induction n with
  | zero => intro h; omega
  | succ n ih =>
    intro h
    show fup _ _ _ _ = _
    by_cases q : j = n
    · subst q; exact fup_eq _ _ _
    · rw [fup_ne, ih (by omega)]
      intro e
      have : b * j = b * n := by omega
      exact q (Int.eq_of_mul_eq_mul_left (by omega) this)
/-- the columns of a square of rows of eight, then its rows, forth -/
def colF (s : Int → Int) (hh : Int) : Nat → (Int → Int)
  | 0 => s
  | x + 1 => wrs (colF s hh x) x 8 (fw (fun k => colF s hh x (x + 8 * k)) hh) hh.toNat
def rowF (s : Int → Int) (ww : Int) : Nat → (Int → Int)
  | 0 => s
  | y + 1 => wrs (rowF s ww y) (8 * y) 1 (fw (fun k => rowF s ww y (8 * y + 1 * k)) ww) ww.toNat
theorem colF_out (s : Int → Int) (hh : Int) {x k : Int} (hx : x < 8) : ∀ n : Nat, (n : Int) ≤ x → colF s hh n (x + 8 * k) = s (x + 8 * k) := by
  intro n
  induction n with
  | zero => intro _; rfl
  | succ n ih =>
    intro h
    show wrs _ _ _ _ _ _ = _
    rw [wrs_out _ _ _ _ _ (fun j h0 h1 => by omega), ih (by omega)]
theorem rowF_out (s : Int → Int) {ww y k : Int} (hw : ww ≤ 8) (hk : 0 ≤ k) : ∀ n : Nat, (n : Int) ≤ y → rowF s ww n (8 * y + k) = s (8 * y + k) := by
  intro n
  induction n with
  | zero => intro _; rfl
  | succ n ih =>
    intro h
    show wrs _ _ _ _ _ _ = _
    rw [wrs_out _ _ _ _ _ (fun j h0 h1 => by omega), ih (by omega)]
theorem colF_step (s : Int → Int) (hh : Int) {x : Int} (h0 : 0 ≤ x) : wrs (colF s hh x.toNat) x 8 (fw (fun k => colF s hh x.toNat (x + 8 * k)) hh) hh.toNat = colF s hh (x + 1).toNat := by
  obtain ⟨k, rfl⟩ := Int.eq_ofNat_of_zero_le h0
  have e : ((k : Int) + 1).toNat = k + 1 := by omega
  rw [e]
  rfl
theorem rowF_step (s : Int → Int) (ww : Int) {y : Int} (h0 : 0 ≤ y) : wrs (rowF s ww y.toNat) (8 * y) 1 (fw (fun k => rowF s ww y.toNat (8 * y + 1 * k)) ww) ww.toNat = rowF s ww (y + 1).toNat := by
  obtain ⟨k, rfl⟩ := Int.eq_ofNat_of_zero_le h0
  have e : ((k : Int) + 1).toNat = k + 1 := by omega
  rw [e]
  rfl
theorem pw4 {l : Int} (h0 : 0 ≤ l) (h1 : l ≤ 4) : (2 : Int) ^ l.toNat ≤ 16 ∧ 1 ≤ (2 : Int) ^ l.toNat := by
  have : l.toNat = 0 ∨ l.toNat = 1 ∨ l.toNat = 2 ∨ l.toNat = 3 ∨ l.toNat = 4 := by omega
  rcases this with h | h | h | h | h <;> rw [h] <;> decide
/-- what is left of a side behind l levels -/
def lft (n l : Int) : Int := (n + 1 * 2 ^ l.toNat - 1) / 2 ^ l.toNat
theorem fw_bd {f : Int → Int} {n B j : Int} (hn : 1 ≤ n) (h : bdr f n B) (hB : 0 ≤ B) (h0 : 0 ≤ j) (h1 : j < n) : -(2 * B + 1) ≤ fw f n j ∧ fw f n j ≤ 2 * B + 1 := by
  unfold fw
  by_cases q : n = 1
  · rw [if_pos q]
    have := h 0 (by omega) (by omega)
    omega
  · rw [if_neg q]
    split
    · have c1 := ck_r (j - 1) (n := n) (by omega)
      have c2 := ck_r j (n := n) (by omega)
      have b1 := dl_bd h c1.1 c1.2
      have b2 := dl_bd h c2.1 c2.2
      have b3 := h (2 * j) (by omega) (by omega)
      omega
    · exact dl_bd h (by omega) (by omega)
theorem colF_all (s : Int → Int) {hh B : Int} (hs : bdr s 64 B) (hB : 0 ≤ B) (h1 : 1 ≤ hh) (h8 : hh ≤ 8) : ∀ n : Nat, n ≤ 8 → ∀ p : Int, 0 ≤ p → p < 64 → (p % 8 < n → -(2 * B + 1) ≤ colF s hh n p ∧ colF s hh n p ≤ 2 * B + 1) ∧ ((n : Int) ≤ p % 8 → colF s hh n p = s p) := by
  intro n
  induction n with
  | zero => intro _ p h0 h1; exact ⟨fun q => by omega, fun _ => rfl⟩
  | succ n ih =>
    intro hn p hp0 hp1
    obtain ⟨i1, i2⟩ := ih (by omega) p hp0 hp1
    show (_ → _ ≤ wrs _ _ _ _ _ _ ∧ wrs _ _ _ _ _ _ ≤ _) ∧ (_ → wrs _ _ _ _ _ _ = _)
    by_cases q : p % 8 = n
    · by_cases q2 : p / 8 < hh
      · have e : p = n + 8 * (p / 8) := by omega
        refine ⟨fun _ => ?_, fun z => by omega⟩
        rw [e, wrs_in _ _ (by omega) _ (by omega) _ (by omega)]
        refine fw_bd h1 (fun k k0 k1 => ?_) hB (by omega) q2
        show _ ≤ colF s hh n (n + 8 * k) ∧ colF s hh n (n + 8 * k) ≤ _
        rw [colF_out _ _ (by omega) _ (by omega)]
        exact hs _ (by omega) (by omega)
      · rw [wrs_out _ _ _ _ _ (fun j h0 h1 => by omega)]
        refine ⟨fun _ => ?_, fun z => by omega⟩
        rw [i2 (by omega)]
        have := hs p hp0 hp1
        omega
    · rw [wrs_out _ _ _ _ _ (fun j h0 h1 => by omega)]
      exact ⟨fun z => i1 (by omega), fun z => i2 (by omega)⟩
theorem colF_bd {s : Int → Int} {hh B : Int} (hs : bdr s 64 B) (hB : 0 ≤ B) (h1 : 1 ≤ hh) (h8 : hh ≤ 8) {n : Nat} (hn : n ≤ 8) : bdr (colF s hh n) 64 (2 * B + 1) := by
  intro p h0 h1
  obtain ⟨i1, i2⟩ := colF_all s hs hB ‹_› h8 n hn p h0 h1
  by_cases q : p % 8 < n
  · exact i1 q
  · rw [i2 (by omega)]
    have := hs p h0 h1
    omega
theorem rowF_all (s : Int → Int) {ww B : Int} (hs : bdr s 64 B) (hB : 0 ≤ B) (h1 : 1 ≤ ww) (h8 : ww ≤ 8) : ∀ n : Nat, n ≤ 8 → ∀ p : Int, 0 ≤ p → p < 64 → (p / 8 < n → -(2 * B + 1) ≤ rowF s ww n p ∧ rowF s ww n p ≤ 2 * B + 1) ∧ ((n : Int) ≤ p / 8 → rowF s ww n p = s p) := by
  intro n
  induction n with
  | zero => intro _ p h0 h1; exact ⟨fun q => by omega, fun _ => rfl⟩
  | succ n ih =>
    intro hn p hp0 hp1
    obtain ⟨i1, i2⟩ := ih (by omega) p hp0 hp1
    show (_ → _ ≤ wrs _ _ _ _ _ _ ∧ wrs _ _ _ _ _ _ ≤ _) ∧ (_ → wrs _ _ _ _ _ _ = _)
    by_cases q : p / 8 = n
    · by_cases q2 : p % 8 < ww
      · have e : p = 8 * n + 1 * (p % 8) := by omega
        refine ⟨fun _ => ?_, fun z => by omega⟩
        rw [e, wrs_in _ _ (by omega) _ (by omega) _ (by omega)]
        refine fw_bd h1 (fun k k0 k1 => ?_) hB (by omega) q2
        show _ ≤ rowF s ww n (8 * n + 1 * k) ∧ rowF s ww n (8 * n + 1 * k) ≤ _
        rw [Int.one_mul, rowF_out _ h8 (by omega) _ (by omega)]
        exact hs _ (by omega) (by omega)
      · rw [wrs_out _ _ _ _ _ (fun j h0 h1 => by omega)]
        refine ⟨fun _ => ?_, fun z => by omega⟩
        rw [i2 (by omega)]
        have := hs p hp0 hp1
        omega
    · rw [wrs_out _ _ _ _ _ (fun j h0 h1 => by omega)]
      exact ⟨fun z => i1 (by omega), fun z => i2 (by omega)⟩
theorem rowF_bd {s : Int → Int} {ww B : Int} (hs : bdr s 64 B) (hB : 0 ≤ B) (h1 : 1 ≤ ww) (h8 : ww ≤ 8) {n : Nat} (hn : n ≤ 8) : bdr (rowF s ww n) 64 (2 * B + 1) := by
  intro p h0 h1
  obtain ⟨i1, i2⟩ := rowF_all s hs hB ‹_› h8 n hn p h0 h1
  by_cases q : p / 8 < n
  · exact i1 q
  · rw [i2 (by omega)]
    have := hs p h0 h1
    omega
/-- the levels forth -/
def fwdL (s : Int → Int) (W E : Int) : Nat → (Int → Int)
  | 0 => s
  | l + 1 => rowF (colF (fwdL s W E l) (lft E l) (lft W l).toNat) (lft W l) (lft E l).toNat
theorem lft_r {n l : Int} (hn : 1 ≤ n ∧ n ≤ 8) (hl : 0 ≤ l ∧ l ≤ 4) : 1 ≤ lft n l ∧ lft n l ≤ 8 := by
  unfold lft
  obtain ⟨h0, h1⟩ := hl
  have : l.toNat = 0 ∨ l.toNat = 1 ∨ l.toNat = 2 ∨ l.toNat = 3 ∨ l.toNat = 4 := by omega
  rcases this with h | h | h | h | h <;> rw [h]
  · rw [show (2 : Int) ^ 0 = 1 from rfl]; omega
  · rw [show (2 : Int) ^ 1 = 2 from rfl]; omega
  · rw [show (2 : Int) ^ 2 = 4 from rfl]; omega
  · rw [show (2 : Int) ^ 3 = 8 from rfl]; omega
  · rw [show (2 : Int) ^ 4 = 16 from rfl]; omega
theorem bdr_le {f : Int → Int} {n B B' : Int} (h : bdr f n B) (hB : B ≤ B') : bdr f n B' := fun j h0 h1 => by
  have := h j h0 h1
  omega
def bL : Nat → Int
  | 0 => 128
  | l + 1 => 4 * bL l + 3
theorem fwdL_bd {s : Int → Int} {W E : Int} (hs : bdr s 64 128) (hW : 1 ≤ W ∧ W ≤ 8) (hE : 1 ≤ E ∧ E ≤ 8) : ∀ l : Nat, l ≤ 4 → 0 ≤ bL l ∧ bdr (fwdL s W E l) 64 (bL l) := by
  intro l
  induction l with
  | zero => intro _; exact ⟨by decide, hs⟩
  | succ l ih =>
    intro hl
    obtain ⟨i1, i2⟩ := ih (by omega)
    have r1 := lft_r hW (l := l) (by omega)
    have r2 := lft_r hE (l := l) (by omega)
    have h1 := colF_bd i2 i1 r2.1 r2.2 (n := (lft W l).toNat) (by omega)
    have h2 := rowF_bd h1 (by omega) r1.1 r1.2 (n := (lft E l).toNat) (by omega)
    refine ⟨by show 0 ≤ 4 * bL l + 3; omega, bdr_le h2 (by show _ ≤ 4 * bL l + 3; omega)⟩
theorem fwdL_step (s : Int → Int) (W E : Int) {l : Int} (h0 : 0 ≤ l) : rowF (colF (fwdL s W E l.toNat) (lft E l) (lft W l).toNat) (lft W l) (lft E l).toNat = fwdL s W E (l + 1).toNat := by
  obtain ⟨k, rfl⟩ := Int.eq_ofNat_of_zero_le h0
  have e : ((k : Int) + 1).toNat = k + 1 := by omega
  rw [e]
  rfl
theorem bL_le {l : Int} (h0 : 0 ≤ l) (h1 : l ≤ 3) : bL l.toNat ≤ 8255 := by
  have : l.toNat = 0 ∨ l.toNat = 1 ∨ l.toNat = 2 ∨ l.toNat = 3 := by omega
  rcases this with h | h | h | h <;> rw [h] <;> decide

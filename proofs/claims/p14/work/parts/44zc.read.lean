/-! READING, in numbers; src the bytes, n how many; lw: what stands above the lowest sixteen bits of C, fx: C behind a doubling -/
def byS (src : Int → Int) (n k : Int) : Int := if k < n then src k else 255
def inS (src : Int → Int) (n c p : Int) : Int × Int × Int := if byS src n p = 255 then (if 143 < byS src n (p + 1) then (c + 65280, 8, p) else (c + byS src n (p + 1) * 512, 7, p + 1)) else (c + byS src n (p + 1) * 256, 8, p + 1)
theorem byS_r {src : Int → Int} {n k : Int} (h : ∀ j, 0 ≤ j → j < n → 0 ≤ src j ∧ src j ≤ 255) (h0 : 0 ≤ k) : 0 ≤ byS src n k ∧ byS src n k ≤ 255 := by
  unfold byS; split
  · exact h k h0 (by omega)
  · omega
theorem inS_r {src : Int → Int} {n c p : Int} (h : ∀ j, 0 ≤ j → j < n → 0 ≤ src j ∧ src j ≤ 255) (h0 : 0 ≤ p) (h1 : p ≤ n) : ((inS src n c p).2.1 = 7 ∨ (inS src n c p).2.1 = 8) ∧ (0 ≤ (inS src n c p).2.2 ∧ (inS src n c p).2.2 ≤ n) ∧ (c ≤ (inS src n c p).1 ∧ (inS src n c p).1 ≤ c + 130560) := by
  have b1 := byS_r h h0
  have b2 := byS_r h (k := p + 1) (by omega)
  by_cases q : p < n
  · unfold inS
    split
    · split
      · exact ⟨Or.inr rfl, ⟨h0, h1⟩, by show c ≤ c + 65280; omega, by show c + 65280 ≤ _; omega⟩
      · exact ⟨Or.inl rfl, ⟨by show 0 ≤ p + 1; omega, by show p + 1 ≤ n; omega⟩, by show c ≤ c + _; omega, by show c + _ ≤ _; omega⟩
    · exact ⟨Or.inr rfl, ⟨by show 0 ≤ p + 1; omega, by show p + 1 ≤ n; omega⟩, by show c ≤ c + _; omega, by show c + _ ≤ _; omega⟩
  · have e1 : byS src n p = 255 := if_neg q
    have e2 : byS src n (p + 1) = 255 := if_neg (by omega)
    unfold inS
    rw [if_pos e1, if_pos (by omega)]
    exact ⟨Or.inr rfl, ⟨h0, h1⟩, by show c ≤ c + 65280; omega, by show c + 65280 ≤ _; omega⟩
def rmS (fx : Int → Int) (src : Int → Int) (m : Int) : Nat → Int → Int → Int → Int → Int × Int × Int × Int
  | 0, a, c, t, p => (a, c, t, p)
  | k + 1, a, c, t, p => if 32768 ≤ a then (a, c, t, p) else if t = 0 then rmS fx src m k (2 * a) (fx (2 * (inS src m c p).1)) ((inS src m c p).2.1 - 1) (inS src m c p).2.2 else rmS fx src m k (2 * a) (fx (2 * c)) (t - 1) p
/-- what holds while the coder reads -/
def RQ_ (n a t p : Int) : Prop := 1 ≤ a ∧ a ≤ 65535 ∧ 0 ≤ t ∧ t ≤ 8 ∧ 0 ≤ p ∧ p ≤ n
def RJ_ (fx : Int → Int) (src : Int → Int) (m : Int) (f : Nat) (a c t p : Int) (R : Int × Int × Int × Int) : Prop := rmS fx src m f a c t p = R ∧ 32768 ≤ a * 2 ^ f ∧ RQ_ m a t p
section RJ
variable {fx : Int → Int} {src : Int → Int} {m a c t p : Int} {R : Int × Int × Int × Int}
theorem RJ_0 (h : RQ_ m a t p) : RJ_ fx src m 15 a c t p (rmS fx src m 15 a c t p) := by
  refine ⟨rfl, ?_, h⟩
  have := h.1
  rw [show (2 : Int) ^ 15 = 32768 by decide]
  omega
theorem RJ_done {f : Nat} (h : RJ_ fx src m f a c t p R) (ha : 32768 ≤ a) : (a, c, t, p) = R := by
  rw [← h.1]
  cases f with
  | zero => rfl
  | succ f => unfold rmS; rw [if_pos ha]
theorem RJ_z (h : RJ_ fx src m 0 a c t p R) : 32768 ≤ a := by
  have := h.2.1
  rw [show (2 : Int) ^ 0 = 1 from rfl] at this
  omega
theorem RJ_next {f : Nat} {c2 : Int} (h : RJ_ fx src m (f + 1) a c t p R) (ha : a < 32768) (ht : t ≠ 0) (hc : c2 = fx (2 * c)) : RJ_ fx src m f (2 * a) c2 (t - 1) p R := by
  subst hc
  obtain ⟨h1, h2, q1, q2, q3, q4, q5⟩ := h
  unfold rmS at h1
  rw [if_neg (by omega), if_neg ht] at h1
  refine ⟨h1, ?_, by omega, by omega, by omega, by omega, q5⟩
  rw [Int.pow_succ] at h2
  rw [Int.mul_comm 2 a, Int.mul_assoc, Int.mul_comm 2 (2 ^ f)]
  exact h2
theorem RJ_in {f : Nat} {c2 : Int} (hs : ∀ j, 0 ≤ j → j < m → 0 ≤ src j ∧ src j ≤ 255) (h : RJ_ fx src m (f + 1) a c t p R) (ha : a < 32768) (ht : t = 0) (hc : c2 = fx (2 * (inS src m c p).1)) : RJ_ fx src m f (2 * a) c2 ((inS src m c p).2.1 - 1) (inS src m c p).2.2 R := by
  subst hc
  obtain ⟨h1, h2, q1, q2, q3, q4, q5, q6⟩ := h
  unfold rmS at h1
  rw [if_neg (by omega), if_pos ht] at h1
  have hr := inS_r hs (c := c) q5 q6
  refine ⟨h1, ?_, by omega, by omega, by omega, by omega, hr.2.1⟩
  rw [Int.pow_succ] at h2
  rw [Int.mul_comm 2 a, Int.mul_assoc, Int.mul_comm 2 (2 ^ f)]
  exact h2
end RJ
abbrev DS_ : Type := Int × Int × Int × Int × (Int → Int) × (Int → Int)
/-- a bit is read: the bit; A, C, T, the place, the states, the likely bits -/
def rdS (lw fx : Int → Int) (src : Int → Int) (m : Int) (D : DS_) (x : Int) : Int × DS_ := match D with
  | (a, c, t, p, st, lk) => if ¬ lw c < qS (st x) ∧ 32768 ≤ a - qS (st x) then (lk x, a - qS (st x), c - 65536 * qS (st x), t, p, st, lk) else
    match rmS fx src m 15 (if lw c < qS (st x) then qS (st x) else a - qS (st x)) (if lw c < qS (st x) then c else c - 65536 * qS (st x)) t p with
    | (a2, c2, t2, p2) => (if (lw c < qS (st x) ↔ ¬ a - qS (st x) < qS (st x)) then 1 - lk x else lk x, a2, c2, t2, p2, lrS st x (lw c < qS (st x) ↔ ¬ a - qS (st x) < qS (st x)), lrL st lk x (lw c < qS (st x) ↔ ¬ a - qS (st x) < qS (st x)))
section RD
variable {lw fx : Int → Int} {src : Int → Int} {m a c t p x : Int} {st lk : Int → Int}
theorem rdS_1 (h : ¬ lw c < qS (st x) ∧ 32768 ≤ a - qS (st x)) : rdS lw fx src m (a, c, t, p, st, lk) x = (lk x, a - qS (st x), c - 65536 * qS (st x), t, p, st, lk) := if_pos h
theorem rdS_m {a2 c2 b : Int} {P : Prop} [Decidable P] (h : ¬ (¬ lw c < qS (st x) ∧ 32768 ≤ a - qS (st x))) (ha : a2 = if lw c < qS (st x) then qS (st x) else a - qS (st x)) (hc : c2 = if lw c < qS (st x) then c else c - 65536 * qS (st x)) (hP : P ↔ (lw c < qS (st x) ↔ ¬ a - qS (st x) < qS (st x))) (hb : b = if P then 1 - lk x else lk x) :
    rdS lw fx src m (a, c, t, p, st, lk) x = (b, (rmS fx src m 15 a2 c2 t p).1, (rmS fx src m 15 a2 c2 t p).2.1, (rmS fx src m 15 a2 c2 t p).2.2.1, (rmS fx src m 15 a2 c2 t p).2.2.2, lrS st x P, lrL st lk x P) := by
  subst ha hc hb
  rw [lrS_cg hP, lrL_cg hP]
  have e : (if P then 1 - lk x else lk x) = (if (lw c < qS (st x) ↔ ¬ a - qS (st x) < qS (st x)) then 1 - lk x else lk x) := by
    by_cases q : P
    · rw [if_pos q, if_pos (hP.mp q)]
    · rw [if_neg q, if_neg (fun z => q (hP.mpr z))]
  rw [e]
  exact if_neg h
end RD
theorem RQ_rd {m a t p x a2 : Int} {st : Int → Int} {P : Prop} [Decidable P] (h : RQ_ m a t p) (ha : 32768 ≤ a) (hs : 0 ≤ st x ∧ st x < 47) (h2 : a2 = if P then qS (st x) else a - qS (st x)) : RQ_ m a2 t p := by
  obtain ⟨q1, q2, q3⟩ := h
  have tq := (tab_r hs).1
  by_cases q : P
  · rw [if_pos q] at h2; subst h2; exact ⟨by omega, by omega, q3⟩
  · rw [if_neg q] at h2; subst h2; exact ⟨by omega, by omega, q3⟩
/-- the beginning of reading: C, T, the place -/
def bgS (src : Int → Int) (n : Int) : Int × Int × Int := inS src n (65536 * byS src n 0) 0
def lwM (c : Int) : Int := (w64 c).tdiv 65536
def lwC (c : Int) : Int := c / 65536
def fxC (c : Int) : Int := min c 1099511627776
def fxM (c : Int) : Int := c
theorem lwM_r (c : Int) : lr_ (lwM c) := by
  have h := w64_r c
  unfold lwM
  generalize w64 c = z at *
  unfold lr_ at *
  rcases Int.le_total 0 z with q | q
  · rw [Int.tdiv_eq_ediv_of_nonneg q]; omega
  · have e : z.tdiv 65536 = -((-z).tdiv 65536) := by rw [Int.neg_tdiv]; omega
    rw [e, Int.tdiv_eq_ediv_of_nonneg (by omega)]
    omega
section WG
variable {K : TC_} {w : Ly_} {kc ks pc : Nat} {lv : List (Nat × PV_)} {st : List PV_} {h : Hp_}
theorem i64_fix {a : Int} (h : -9223372036854775808 ≤ a ∧ a ≤ 9223372036854775807) : (Int64.ofInt a).toInt = a := Int64.toInt_ofInt_of_le h.1 (by omega)
theorem TT_w64g {a : Int} (kk : ∀ x : Int, -9223372036854775808 ≤ x ∧ x ≤ 9223372036854775807 → (-9223372036854775808 ≤ a ∧ a ≤ 9223372036854775807 → x = a) → TT K w kc ks pc lv (vJ x :: st) h) : TT K w kc ks pc lv (vJ a :: st) h := by
  have k1 := kk (Int64.ofInt a).toInt (by have := lr_of (Int64.ofInt a); exact ⟨this.1, by have := this.2; omega⟩) i64_fix
  obtain ⟨⟨p, l, e, R, s, m, args, below, meth, c, Q⟩, ⟨o1, c1, n1, D, cy, A, n0, ad0⟩⟩ := K
  intro ad H locs ls had hP hD hS hl
  have k2 := k1 ad H locs ls had hP hD hS hl
  have e1 : cv_ ad (vJ (Int64.ofInt a).toInt) = cv_ ad (vJ a) := by
    show Value.long (Int64.ofInt (Int64.ofInt a).toInt) = Value.long (Int64.ofInt a)
    rw [Int64.ofInt_toInt]
  rw [List.map_cons, e1] at k2
  exact k2
end WG
theorem tdvR {c : Int} (h : -9223372036854775808 ≤ c ∧ c ≤ 9223372036854775807) : (-140737488355328 ≤ c.tdiv 65536 ∧ c.tdiv 65536 ≤ 140737488355328) ∧ (0 ≤ c → c.tdiv 65536 = c / 65536) := by
  rcases Int.le_total 0 c with q | q
  · rw [Int.tdiv_eq_ediv_of_nonneg q]
    omega
  · have e : c.tdiv 65536 = -((-c).tdiv 65536) := by rw [Int.neg_tdiv]; omega
    rw [e, Int.tdiv_eq_ediv_of_nonneg (by omega)]
    refine ⟨by omega, fun z => ?_⟩
    have : c = 0 := by omega
    subst this
    decide
/-- the bytes of a source are bytes -/
def SRB (src : Int → Int) (n : Int) : Prop := ∀ j : Int, 0 ≤ j → j < n → 0 ≤ src j ∧ src j ≤ 255
def RJC (src : Int → Int) (m : Int) (f : Nat) (a c t p : Int) (R : Int × Int × Int × Int) : Prop := RJ_ fxM src m f a c t p R ∧ 0 ≤ c ∧ (c + 261120) * 2 ^ f ≤ 144115188075855872
theorem RJC_0 {src : Int → Int} {m a c t p : Int} (h : RQ_ m a t p) (hc : 0 ≤ c ∧ c < 1099511627776) : RJC src m 15 a c t p (rmS fxM src m 15 a c t p) := by
  refine ⟨RJ_0 h, hc.1, ?_⟩
  rw [show (2 : Int) ^ 15 = 32768 by decide]
  omega
theorem p2_1 (f : Nat) : (1 : Int) ≤ 2 ^ f := by
  have h4 : ((1 : Nat) : Int) ≤ ((2 ^ f : Nat) : Int) := Int.ofNat_le.mpr (Nat.one_le_two_pow)
  rw [Int.natCast_pow] at h4
  exact h4
theorem RJC_b {src : Int → Int} {m a c t p : Int} {f : Nat} {R : Int × Int × Int × Int} (h : RJC src m f a c t p R) : 0 ≤ c ∧ c ≤ 144115188075855872 := by
  obtain ⟨h1, h2, h3⟩ := h
  have := Int.mul_le_mul_of_nonneg_left (p2_1 f) (show 0 ≤ c + 261120 by omega)
  omega
theorem RJC_next {src : Int → Int} {m a c c2 t p : Int} {f : Nat} {R : Int × Int × Int × Int} (h : RJC src m (f + 1) a c t p R) (ha : a < 32768) (ht : t ≠ 0) (hc : c2 = 2 * c) : RJC src m f (2 * a) c2 (t - 1) p R := by
  obtain ⟨h1, h2, h3⟩ := h
  refine ⟨RJ_next h1 ha ht hc, by omega, ?_⟩
  rw [Int.pow_succ, Int.mul_comm (2 ^ f) 2, ← Int.mul_assoc] at h3
  have := Int.mul_le_mul_of_nonneg_right (show c2 + 261120 ≤ (c + 261120) * 2 by omega) (show (0 : Int) ≤ 2 ^ f by have := p2_1 f; omega)
  omega
theorem RJC_in {src : Int → Int} {m a c c1 c2 t t1 p p1 : Int} {f : Nat} {R : Int × Int × Int × Int} (hs : SRB src m) (h : RJC src m (f + 1) a c t p R) (ha : a < 32768) (ht : t = 0) (e : (c1, t1, p1) = inS src m c p) (hc : 0 ≤ c1 ∧ c1 ≤ 288230376151711744 → c2 = 2 * c1) : RJC src m f (2 * a) c2 (t1 - 1) p1 R := by
  have hb := RJC_b h
  obtain ⟨h1, h2, h3⟩ := h
  have r := inS_r hs (c := c) (p := p) h1.2.2.2.2.2.2.1 h1.2.2.2.2.2.2.2
  rw [← e] at r
  have r1 : c ≤ c1 ∧ c1 ≤ c + 130560 := r.2.2
  have hc := hc (by omega)
  have g := RJ_in hs h1 ha ht (show c2 = fxM (2 * (inS src m c p).1) by rw [← e]; exact hc)
  rw [← e] at g
  refine ⟨g, by omega, ?_⟩
  rw [Int.pow_succ, Int.mul_comm (2 ^ f) 2, ← Int.mul_assoc] at h3
  have := Int.mul_le_mul_of_nonneg_right (show c2 + 261120 ≤ (c + 261120) * 2 by omega) (show (0 : Int) ≤ 2 ^ f by have := p2_1 f; omega)
  omega
theorem inS_e {src : Int → Int} {n c p c1 t1 p1 : Int} (h : (byS src n p = 255 ∧ 143 < byS src n (p + 1) ∧ c1 = c + 65280 ∧ t1 = 8 ∧ p1 = p) ∨ (byS src n p = 255 ∧ byS src n (p + 1) ≤ 143 ∧ c1 = c + byS src n (p + 1) * 512 ∧ t1 = 7 ∧ p1 = p + 1) ∨ (byS src n p ≠ 255 ∧ c1 = c + byS src n (p + 1) * 256 ∧ t1 = 8 ∧ p1 = p + 1)) : (c1, t1, p1) = inS src n c p := by
  unfold inS
  rcases h with ⟨h1, h2, rfl, rfl, rfl⟩ | ⟨h1, h2, rfl, rfl, rfl⟩ | ⟨h1, rfl, rfl, rfl⟩
  · rw [if_pos h1, if_pos h2]
  · rw [if_pos h1, if_neg (by omega)]
  · rw [if_neg h1]
theorem rdS_1q {src st lk : Int → Int} {m a a1 c c1 t p x z : Int} (h : ¬ lwC c < qS (st x) ∧ 32768 ≤ a - qS (st x)) (hz : z = lk x) (ha : a1 = a - qS (st x)) (hc : c1 = c - 65536 * qS (st x)) : (z, a1, c1, t, p, st, lk) = rdS lwC fxM src m (a, c, t, p, st, lk) x := by
  subst hz ha hc
  exact (rdS_1 h).symm
set_option maxRecDepth 20000 in
theorem s_byteAt_e (k : Int) (h : Hp_) (hT : TY h) (hk : 0 ≤ k ∧ k ≤ 5000) : Ctr yX12_byteAt cX12_byteAt 2 (some .int) (rmd 0) ly ly 0 0 [vR 73, vI k] h (fun r h' => (TY h' ∧ FRM [] [] h h') ∧ ∃ z : Int, r = some (vI z) ∧ (-2147483648 ≤ z ∧ z ≤ 2147483647) ∧ (z ≠ 255 → k < 4400) ∧ (z = byS (h 99) (h 73 38) k)) := by
  refine Ctr_of (by decide) (Nat.le_of_ble_eq_true rfl) ⟨Nat.le_refl _, Nat.le_refl _⟩ (fun K hK hQ _ => ?_)
  show TT K ly 0 0 0 [(0, vR 73), (1, vI k)] [] h
  have hF : FRM [] [] h h := FRM_rf _ _ _
  refine TT_iload_n hK rfl 1 rfl dX12_byteAt_0 ?_
  refine TT_aload_n hK rfl 0 rfl dX12_byteAt_1 ?_
  refine gf_X12_202 hK (by decide) rfl (v := (h 73) 38) rfl dX12_byteAt_2 ?_
  have r1 := ty_73_38 (v := (h 73) 38) hT rfl
  refine TT_icmp_ge hK (tgt := 17) (irm (by omega) (by omega)) (irm (by omega) (by omega)) dX12_byteAt_5 (by decide) (fun hb5_2 => ?_) (fun hb5_2 => ?_)
  · refine TT_sipush hK (by decide) dX12_byteAt_17 ?_
    refine TT_iret hK hQ ?_ dX12_byteAt_20
    exact ⟨⟨hT, hF⟩, 255, rfl, (by omega), (by omega), (by unfold byS; first | rw [if_pos (by omega)] | rw [if_neg (by omega)])⟩
  · refine TT_aload_n hK rfl 0 rfl dX12_byteAt_8 ?_
    refine gf_X12_93 hK (by decide) rfl (q := 99) rfl rfl dX12_byteAt_9 ?_
    refine TT_iload_n hK rfl 1 rfl dX12_byteAt_12 ?_
    refine TT_iald hK (o := 99) (n := 4400) (by decide) rfl (by first | omega | (simp [up, setR] <;> omega)) (by first | omega | (simp [up, setR] <;> omega)) (v := (h 99) k) rfl dX12_byteAt_13 ?_
    have r3 := ty_99 (i := k) (v := (h 99) k) hT rfl (by omega) (by omega)
    refine TT_goto hK (tgt := 20) dX12_byteAt_14 (by decide) ?_
    refine TT_iret hK hQ ?_ dX12_byteAt_20
    exact ⟨⟨hT, hF⟩, ((h 99) k), rfl, (by omega), (by omega), (by unfold byS; first | rw [if_pos (by omega)] | rw [if_neg (by omega)])⟩
set_option maxRecDepth 20000 in
theorem s_takeIn_e (h : Hp_) (hT : TY h)  : Ctr yX12_takeIn cX12_takeIn 2 none (rmd 1) ly ly 0 0 [vR 73] h (fun r h' => (TY h' ∧ FRM [73] [33, 34, 39] h h') ∧ r = none ∧ (7 ≤ (h' 73 34)) ∧ (0 ≤ (h 73 33) ∧ (h 73 33) ≤ 288230376151711744 → ((h' 73 33), (h' 73 34), (h' 73 39)) = inS (h 99) (h 73 38) (h 73 33) (h 73 39))) := by
  refine Ctr_of (by decide) (Nat.le_of_ble_eq_true rfl) ⟨Nat.le_refl _, Nat.le_refl _⟩ (fun K hK hQ _ => ?_)
  show TT K ly 0 0 0 [(0, vR 73)] [] h
  have hF : FRM [73] [33, 34, 39] h h := FRM_rf _ _ _
  refine TT_aload_n hK rfl 0 rfl dX12_takeIn_0 ?_
  refine TT_aload_n hK rfl 0 rfl dX12_takeIn_1 ?_
  refine gf_X12_205 hK (by decide) rfl (v := (h 73) 39) rfl dX12_takeIn_2 ?_
  have r1 := ty_73_39 (v := (h 73) 39) hT rfl
  refine iv_X12_208 hK (s_byteAt_e ((h 73) 39) h hT (by first | omega | (simp [up, setR] <;> omega))) (by decide) rfl ⟨by decide, by decide⟩ (by decide) rfl rfl (Nat.le_of_ble_eq_true rfl) ⟨by decide, by decide⟩ dX12_takeIn_5 ?_
  intro r9 g5_2 hp9
  obtain ⟨⟨hT_2, hG_2⟩, z5_2, hr9, hz_2, p1_2, e_2⟩ := hp9
  rw [hr9]
  have hF_2 : FRM [73] [33, 34, 39] h g5_2 := FRM_tr hF hG_2 (by decide) (by decide)
  rw [show h 73 38 = (h 73) 38 from rfl] at e_2
  have e_at5 := e_2
  show TT K ly 0 0 8 [(0, vR 73)] [vI z5_2] g5_2
  refine TT_sipush hK (by decide) dX12_takeIn_8 ?_
  refine TT_icmp_ne hK (tgt := 18) (irm (by omega) (by omega)) (by decide) dX12_takeIn_11 (by decide) (fun hb11_3 => ?_) (fun hb11_3 => ?_)
  · refine TT_iconst hK dX12_takeIn_18 ?_
    refine TT_istore_n hK rfl (lv' := [(1, vI 0), (0, vR 73)]) (by decide) rfl dX12_takeIn_19 ?_
    refine TT_iload_n hK rfl 0 rfl dX12_takeIn_20 ?_
    refine TT_if_eq hK (tgt := 59) (by decide) dX12_takeIn_21 (by decide) (fun hb21_4 => ?_) (fun hb21_4 => ?_)
    · refine TT_aload_n hK rfl 1 rfl dX12_takeIn_59 ?_
      refine TT_dup hK rfl dX12_takeIn_60 ?_
      refine gf_X12_205 hK (by decide) rfl (v := (h 73) 39) (congrFun (hG_2.1 73 (by decide)) 39) dX12_takeIn_61 ?_
      refine TT_iconst hK dX12_takeIn_64 ?_
      refine TT_iadd hK dX12_takeIn_65 ?_
      refine pf_X12_205 hK (by decide) rfl dX12_takeIn_66 ?_
      refine TT_hp (h' := setO g5_2 73 (fup (h 73) 39 (((h 73) 39) + 1))) (up_can (hG_2.1 73 (by decide)) rfl rfl) ?_
      have hT_5 : TY (setO g5_2 73 (fup (h 73) 39 (((h 73) 39) + 1))) := tu_73_39 hT_2 (show up g5_2 73 39 (((h 73) 39) + 1) = (setO g5_2 73 (fup (h 73) 39 (((h 73) 39) + 1))) from up_can (hG_2.1 73 (by decide)) rfl rfl) (by omega)
      have hF_5 : FRM [73] [33, 34, 39] h (setO g5_2 73 (fup (h 73) 39 (((h 73) 39) + 1))) := FRM_f (show up g5_2 73 39 (((h 73) 39) + 1) = (setO g5_2 73 (fup (h 73) 39 (((h 73) 39) + 1))) from up_can (hG_2.1 73 (by decide)) rfl rfl) hF_2 (by decide) (by decide)
      refine TT_aload_n hK rfl 1 rfl dX12_takeIn_69 ?_
      refine TT_aload_n hK rfl 1 rfl dX12_takeIn_70 ?_
      refine gf_X12_175 hK (by decide) rfl (v := (h 73) 33) (rd_ (sOf_eq _ _ _) (fup_ne _ _ (by decide))) dX12_takeIn_71 ?_
      have r6 := ty_73_33 (v := (h 73) 33) hT_5 (rd_ (sOf_eq _ _ _) (fup_ne _ _ (by decide)))
      refine TT_aload_n hK rfl 1 rfl dX12_takeIn_74 ?_
      refine TT_aload_n hK rfl 1 rfl dX12_takeIn_75 ?_
      refine gf_X12_205 hK (by decide) rfl (v := ((h 73) 39) + 1) (rd_ (sOf_eq _ _ _) (fup_eq _ _ _)) dX12_takeIn_76 ?_
      have r7 := ty_73_39 (v := ((h 73) 39) + 1) hT_5 (rd_ (sOf_eq _ _ _) (fup_eq _ _ _))
      refine iv_X12_208 hK (s_byteAt_e (((h 73) 39) + 1) (setO g5_2 73 (fup (h 73) 39 (((h 73) 39) + 1))) hT_5 (by first | omega | (simp [up, setR] <;> omega))) (by decide) rfl ⟨by decide, by decide⟩ (by decide) rfl rfl (Nat.le_of_ble_eq_true rfl) ⟨by decide, by decide⟩ dX12_takeIn_79 ?_
      intro r9 g79_8 hp9
      obtain ⟨⟨hT_8, hG_8⟩, z79_8, hr9, hz_8, p1_8, e_8⟩ := hp9
      rw [hr9]
      have hF_8 : FRM [73] [33, 34, 39] h g79_8 := FRM_tr hF_5 hG_8 (by decide) (by decide)
      rw [show (setO g5_2 73 (fup (h 73) 39 (((h 73) 39) + 1))) 73 38 = (h 73) 38 from rd_ (sOf_eq _ _ _) (fup_ne _ _ (by decide))] at e_8
      rw [show (setO g5_2 73 (fup (h 73) 39 (((h 73) 39) + 1))) 99 = h 99 from (sOf_ne _ _ (by decide)).trans (hG_2.1 99 (by decide))] at e_8
      have e_at79 := e_8
      show TT K ly 0 0 82 [(1, vI 0), (0, vR 73)] [vI z79_8, vJ ((h 73) 33), vR 73] g79_8
      refine TT_i2l hK (irm (by omega) (by omega)) dX12_takeIn_82 ?_
      refine TT_iload_n hK rfl 0 rfl dX12_takeIn_83 ?_
      refine TT_if_eq hK (tgt := 93) (by decide) dX12_takeIn_84 (by decide) (fun hb84_9 => ?_) (fun hb84_9 => ?_)
      · refine TT_ldc2 hK lc_X12_187 dX12_takeIn_93 ?_
        refine TT_lmul hK dX12_takeIn_96 ?_
        refine TT_ladd hK dX12_takeIn_97 ?_
        refine TT_w64g (fun x98_10 hx10 hy98_10 => ?_)
        refine pf_X12_175 hK (by decide) rfl dX12_takeIn_98 ?_
        refine TT_hp (h' := setO g79_8 73 (fup (fup (h 73) 33 x98_10) 39 (((h 73) 39) + 1))) (up_can (((hG_8.1 73 (by decide))).trans (sOf_eq _ _ _)) (fup_comm _ _ _ (by decide)) rfl) ?_
        have hT_11 : TY (setO g79_8 73 (fup (fup (h 73) 33 x98_10) 39 (((h 73) 39) + 1))) := tu_73_33 hT_8 (show up g79_8 73 33 x98_10 = (setO g79_8 73 (fup (fup (h 73) 33 x98_10) 39 (((h 73) 39) + 1))) from up_can (((hG_8.1 73 (by decide))).trans (sOf_eq _ _ _)) (fup_comm _ _ _ (by decide)) rfl) (by omega)
        have hF_11 : FRM [73] [33, 34, 39] h (setO g79_8 73 (fup (fup (h 73) 33 x98_10) 39 (((h 73) 39) + 1))) := FRM_f (show up g79_8 73 33 x98_10 = (setO g79_8 73 (fup (fup (h 73) 33 x98_10) 39 (((h 73) 39) + 1))) from up_can (((hG_8.1 73 (by decide))).trans (sOf_eq _ _ _)) (fup_comm _ _ _ (by decide)) rfl) hF_8 (by decide) (by decide)
        refine TT_aload_n hK rfl 1 rfl dX12_takeIn_101 ?_
        refine TT_iload_n hK rfl 0 rfl dX12_takeIn_102 ?_
        refine TT_if_eq hK (tgt := 111) (by decide) dX12_takeIn_103 (by decide) (fun hb103_12 => ?_) (fun hb103_12 => ?_)
        · refine TT_bipush hK (by decide) dX12_takeIn_111 ?_
          refine pf_X12_178 hK (by decide) rfl dX12_takeIn_113 ?_
          refine TT_hp (h' := setO g79_8 73 (fup (fup (fup (h 73) 33 x98_10) 34 8) 39 (((h 73) 39) + 1))) (up_can (sOf_eq _ _ _) (fup_comm _ _ _ (by decide)) (setO_same _ _ _ _)) ?_
          have hT_13 : TY (setO g79_8 73 (fup (fup (fup (h 73) 33 x98_10) 34 8) 39 (((h 73) 39) + 1))) := tu_73_34 hT_11 (show up (setO g79_8 73 (fup (fup (h 73) 33 x98_10) 39 (((h 73) 39) + 1))) 73 34 8 = (setO g79_8 73 (fup (fup (fup (h 73) 33 x98_10) 34 8) 39 (((h 73) 39) + 1))) from up_can (sOf_eq _ _ _) (fup_comm _ _ _ (by decide)) (setO_same _ _ _ _)) (by omega)
          have hF_13 : FRM [73] [33, 34, 39] h (setO g79_8 73 (fup (fup (fup (h 73) 33 x98_10) 34 8) 39 (((h 73) 39) + 1))) := FRM_f (show up (setO g79_8 73 (fup (fup (h 73) 33 x98_10) 39 (((h 73) 39) + 1))) 73 34 8 = (setO g79_8 73 (fup (fup (fup (h 73) 33 x98_10) 34 8) 39 (((h 73) 39) + 1))) from up_can (sOf_eq _ _ _) (fup_comm _ _ _ (by decide)) (setO_same _ _ _ _)) hF_11 (by decide) (by decide)
          refine TT_vret hK hQ ?_ dX12_takeIn_116
          have e14_73_34 : (setO g79_8 73 (fup (fup (fup (h 73) 33 x98_10) 34 8) 39 (((h 73) 39) + 1))) 73 34 = 8 := rd_ (sOf_eq _ _ _) ((fup_ne _ _ (by decide)).trans (fup_eq _ _ _))
          have e15_73_33 : (setO g79_8 73 (fup (fup (fup (h 73) 33 x98_10) 34 8) 39 (((h 73) 39) + 1))) 73 33 = x98_10 := rd_ (sOf_eq _ _ _) ((fup_ne _ _ (by decide)).trans ((fup_ne _ _ (by decide)).trans (fup_eq _ _ _)))
          have e16_73_34 : (setO g79_8 73 (fup (fup (fup (h 73) 33 x98_10) 34 8) 39 (((h 73) 39) + 1))) 73 34 = 8 := rd_ (sOf_eq _ _ _) ((fup_ne _ _ (by decide)).trans (fup_eq _ _ _))
          have e17_73_39 : (setO g79_8 73 (fup (fup (fup (h 73) 33 x98_10) 34 8) 39 (((h 73) 39) + 1))) 73 39 = ((h 73) 39) + 1 := rd_ (sOf_eq _ _ _) (fup_eq _ _ _)
          exact ⟨⟨hT_13, hF_13⟩, rfl, (by rewrite [e14_73_34]; omega), (by rewrite [e15_73_33, e16_73_34, e17_73_39]; intro hc; refine inS_e ?_; first | (refine Or.inl ⟨?_, ?_, ?_, ?_, ?_⟩ <;> omega) | (refine Or.inr (Or.inl ⟨?_, ?_, ?_, ?_, ?_⟩) <;> omega) | (refine Or.inr (Or.inr ⟨?_, ?_, ?_, ?_⟩) <;> omega))⟩
        · exact absurd hb103_12 (by decide)
      · exact absurd hb84_9 (by decide)
    · exact absurd hb21_4 (by decide)
  · refine TT_iconst hK dX12_takeIn_14 ?_
    refine TT_goto hK (tgt := 19) dX12_takeIn_15 (by decide) ?_
    refine TT_istore_n hK rfl (lv' := [(1, vI 1), (0, vR 73)]) (by decide) rfl dX12_takeIn_19 ?_
    refine TT_iload_n hK rfl 0 rfl dX12_takeIn_20 ?_
    refine TT_if_eq hK (tgt := 59) (by decide) dX12_takeIn_21 (by decide) (fun hb21_18 => ?_) (fun hb21_18 => ?_)
    · exact absurd hb21_18 (by decide)
    · refine TT_aload_n hK rfl 1 rfl dX12_takeIn_24 ?_
      refine TT_aload_n hK rfl 1 rfl dX12_takeIn_25 ?_
      refine gf_X12_205 hK (by decide) rfl (v := (h 73) 39) (congrFun (hG_2.1 73 (by decide)) 39) dX12_takeIn_26 ?_
      refine TT_iconst hK dX12_takeIn_29 ?_
      refine TT_iadd hK dX12_takeIn_30 ?_
      refine iv_X12_208 hK (s_byteAt_e (((h 73) 39) + 1) g5_2 hT_2 (by first | omega | (simp [up, setR] <;> omega))) (by decide) rfl ⟨by decide, by decide⟩ (by decide) rfl rfl (Nat.le_of_ble_eq_true rfl) ⟨by decide, by decide⟩ dX12_takeIn_31 ?_
      intro r9 g31_19 hp9
      obtain ⟨⟨hT_19, hG_19⟩, z31_19, hr9, hz_19, p1_19, e_19⟩ := hp9
      rw [hr9]
      have hF_19 : FRM [73] [33, 34, 39] h g31_19 := FRM_tr hF_2 hG_19 (by decide) (by decide)
      rw [show g5_2 73 38 = (h 73) 38 from congrFun (hG_2.1 73 (by decide)) 38] at e_19
      rw [show g5_2 99 = h 99 from (hG_2.1 99 (by decide))] at e_19
      have e_at31 := e_19
      show TT K ly 0 0 34 [(1, vI 1), (0, vR 73)] [vI z31_19] g31_19
      refine TT_sipush hK (by decide) dX12_takeIn_34 ?_
      refine TT_icmp_le hK (tgt := 59) (irm (by omega) (by omega)) (by decide) dX12_takeIn_37 (by decide) (fun hb37_20 => ?_) (fun hb37_20 => ?_)
      · refine TT_aload_n hK rfl 1 rfl dX12_takeIn_59 ?_
        refine TT_dup hK rfl dX12_takeIn_60 ?_
        refine gf_X12_205 hK (by decide) rfl (v := (h 73) 39) ((congrFun (hG_19.1 73 (by decide)) 39).trans (congrFun (hG_2.1 73 (by decide)) 39)) dX12_takeIn_61 ?_
        refine TT_iconst hK dX12_takeIn_64 ?_
        refine TT_iadd hK dX12_takeIn_65 ?_
        refine pf_X12_205 hK (by decide) rfl dX12_takeIn_66 ?_
        refine TT_hp (h' := setO g31_19 73 (fup (h 73) 39 (((h 73) 39) + 1))) (up_can (((hG_19.1 73 (by decide))).trans (hG_2.1 73 (by decide))) rfl rfl) ?_
        have hT_21 : TY (setO g31_19 73 (fup (h 73) 39 (((h 73) 39) + 1))) := tu_73_39 hT_19 (show up g31_19 73 39 (((h 73) 39) + 1) = (setO g31_19 73 (fup (h 73) 39 (((h 73) 39) + 1))) from up_can (((hG_19.1 73 (by decide))).trans (hG_2.1 73 (by decide))) rfl rfl) (by omega)
        have hF_21 : FRM [73] [33, 34, 39] h (setO g31_19 73 (fup (h 73) 39 (((h 73) 39) + 1))) := FRM_f (show up g31_19 73 39 (((h 73) 39) + 1) = (setO g31_19 73 (fup (h 73) 39 (((h 73) 39) + 1))) from up_can (((hG_19.1 73 (by decide))).trans (hG_2.1 73 (by decide))) rfl rfl) hF_19 (by decide) (by decide)
        refine TT_aload_n hK rfl 1 rfl dX12_takeIn_69 ?_
        refine TT_aload_n hK rfl 1 rfl dX12_takeIn_70 ?_
        refine gf_X12_175 hK (by decide) rfl (v := (h 73) 33) (rd_ (sOf_eq _ _ _) (fup_ne _ _ (by decide))) dX12_takeIn_71 ?_
        have r22 := ty_73_33 (v := (h 73) 33) hT_21 (rd_ (sOf_eq _ _ _) (fup_ne _ _ (by decide)))
        refine TT_aload_n hK rfl 1 rfl dX12_takeIn_74 ?_
        refine TT_aload_n hK rfl 1 rfl dX12_takeIn_75 ?_
        refine gf_X12_205 hK (by decide) rfl (v := ((h 73) 39) + 1) (rd_ (sOf_eq _ _ _) (fup_eq _ _ _)) dX12_takeIn_76 ?_
        have r23 := ty_73_39 (v := ((h 73) 39) + 1) hT_21 (rd_ (sOf_eq _ _ _) (fup_eq _ _ _))
        refine iv_X12_208 hK (s_byteAt_e (((h 73) 39) + 1) (setO g31_19 73 (fup (h 73) 39 (((h 73) 39) + 1))) hT_21 (by first | omega | (simp [up, setR] <;> omega))) (by decide) rfl ⟨by decide, by decide⟩ (by decide) rfl rfl (Nat.le_of_ble_eq_true rfl) ⟨by decide, by decide⟩ dX12_takeIn_79 ?_
        intro r9 g79_24 hp9
        obtain ⟨⟨hT_24, hG_24⟩, z79_24, hr9, hz_24, p1_24, e_24⟩ := hp9
        rw [hr9]
        have hF_24 : FRM [73] [33, 34, 39] h g79_24 := FRM_tr hF_21 hG_24 (by decide) (by decide)
        rw [show (setO g31_19 73 (fup (h 73) 39 (((h 73) 39) + 1))) 73 38 = (h 73) 38 from rd_ (sOf_eq _ _ _) (fup_ne _ _ (by decide))] at e_24
        rw [show (setO g31_19 73 (fup (h 73) 39 (((h 73) 39) + 1))) 99 = h 99 from (sOf_ne _ _ (by decide)).trans (((hG_19.1 99 (by decide))).trans (hG_2.1 99 (by decide)))] at e_24
        have e_at79 := e_24
        show TT K ly 0 0 82 [(1, vI 1), (0, vR 73)] [vI z79_24, vJ ((h 73) 33), vR 73] g79_24
        refine TT_i2l hK (irm (by omega) (by omega)) dX12_takeIn_82 ?_
        refine TT_iload_n hK rfl 0 rfl dX12_takeIn_83 ?_
        refine TT_if_eq hK (tgt := 93) (by decide) dX12_takeIn_84 (by decide) (fun hb84_25 => ?_) (fun hb84_25 => ?_)
        · exact absurd hb84_25 (by decide)
        · refine TT_ldc2 hK lc_X12_214 dX12_takeIn_87 ?_
          refine TT_goto hK (tgt := 96) dX12_takeIn_90 (by decide) ?_
          refine TT_lmul hK dX12_takeIn_96 ?_
          refine TT_ladd hK dX12_takeIn_97 ?_
          refine TT_w64g (fun x98_26 hx26 hy98_26 => ?_)
          refine pf_X12_175 hK (by decide) rfl dX12_takeIn_98 ?_
          refine TT_hp (h' := setO g79_24 73 (fup (fup (h 73) 33 x98_26) 39 (((h 73) 39) + 1))) (up_can (((hG_24.1 73 (by decide))).trans (sOf_eq _ _ _)) (fup_comm _ _ _ (by decide)) rfl) ?_
          have hT_27 : TY (setO g79_24 73 (fup (fup (h 73) 33 x98_26) 39 (((h 73) 39) + 1))) := tu_73_33 hT_24 (show up g79_24 73 33 x98_26 = (setO g79_24 73 (fup (fup (h 73) 33 x98_26) 39 (((h 73) 39) + 1))) from up_can (((hG_24.1 73 (by decide))).trans (sOf_eq _ _ _)) (fup_comm _ _ _ (by decide)) rfl) (by omega)
          have hF_27 : FRM [73] [33, 34, 39] h (setO g79_24 73 (fup (fup (h 73) 33 x98_26) 39 (((h 73) 39) + 1))) := FRM_f (show up g79_24 73 33 x98_26 = (setO g79_24 73 (fup (fup (h 73) 33 x98_26) 39 (((h 73) 39) + 1))) from up_can (((hG_24.1 73 (by decide))).trans (sOf_eq _ _ _)) (fup_comm _ _ _ (by decide)) rfl) hF_24 (by decide) (by decide)
          refine TT_aload_n hK rfl 1 rfl dX12_takeIn_101 ?_
          refine TT_iload_n hK rfl 0 rfl dX12_takeIn_102 ?_
          refine TT_if_eq hK (tgt := 111) (by decide) dX12_takeIn_103 (by decide) (fun hb103_28 => ?_) (fun hb103_28 => ?_)
          · exact absurd hb103_28 (by decide)
          · refine TT_bipush hK (by decide) dX12_takeIn_106 ?_
            refine TT_goto hK (tgt := 113) dX12_takeIn_108 (by decide) ?_
            refine pf_X12_178 hK (by decide) rfl dX12_takeIn_113 ?_
            refine TT_hp (h' := setO g79_24 73 (fup (fup (fup (h 73) 33 x98_26) 34 7) 39 (((h 73) 39) + 1))) (up_can (sOf_eq _ _ _) (fup_comm _ _ _ (by decide)) (setO_same _ _ _ _)) ?_
            have hT_29 : TY (setO g79_24 73 (fup (fup (fup (h 73) 33 x98_26) 34 7) 39 (((h 73) 39) + 1))) := tu_73_34 hT_27 (show up (setO g79_24 73 (fup (fup (h 73) 33 x98_26) 39 (((h 73) 39) + 1))) 73 34 7 = (setO g79_24 73 (fup (fup (fup (h 73) 33 x98_26) 34 7) 39 (((h 73) 39) + 1))) from up_can (sOf_eq _ _ _) (fup_comm _ _ _ (by decide)) (setO_same _ _ _ _)) (by omega)
            have hF_29 : FRM [73] [33, 34, 39] h (setO g79_24 73 (fup (fup (fup (h 73) 33 x98_26) 34 7) 39 (((h 73) 39) + 1))) := FRM_f (show up (setO g79_24 73 (fup (fup (h 73) 33 x98_26) 39 (((h 73) 39) + 1))) 73 34 7 = (setO g79_24 73 (fup (fup (fup (h 73) 33 x98_26) 34 7) 39 (((h 73) 39) + 1))) from up_can (sOf_eq _ _ _) (fup_comm _ _ _ (by decide)) (setO_same _ _ _ _)) hF_27 (by decide) (by decide)
            refine TT_vret hK hQ ?_ dX12_takeIn_116
            have e30_73_34 : (setO g79_24 73 (fup (fup (fup (h 73) 33 x98_26) 34 7) 39 (((h 73) 39) + 1))) 73 34 = 7 := rd_ (sOf_eq _ _ _) ((fup_ne _ _ (by decide)).trans (fup_eq _ _ _))
            have e31_73_33 : (setO g79_24 73 (fup (fup (fup (h 73) 33 x98_26) 34 7) 39 (((h 73) 39) + 1))) 73 33 = x98_26 := rd_ (sOf_eq _ _ _) ((fup_ne _ _ (by decide)).trans ((fup_ne _ _ (by decide)).trans (fup_eq _ _ _)))
            have e32_73_34 : (setO g79_24 73 (fup (fup (fup (h 73) 33 x98_26) 34 7) 39 (((h 73) 39) + 1))) 73 34 = 7 := rd_ (sOf_eq _ _ _) ((fup_ne _ _ (by decide)).trans (fup_eq _ _ _))
            have e33_73_39 : (setO g79_24 73 (fup (fup (fup (h 73) 33 x98_26) 34 7) 39 (((h 73) 39) + 1))) 73 39 = ((h 73) 39) + 1 := rd_ (sOf_eq _ _ _) (fup_eq _ _ _)
            exact ⟨⟨hT_29, hF_29⟩, rfl, (by rewrite [e30_73_34]; omega), (by rewrite [e31_73_33, e32_73_34, e33_73_39]; intro hc; refine inS_e ?_; first | (refine Or.inl ⟨?_, ?_, ?_, ?_, ?_⟩ <;> omega) | (refine Or.inr (Or.inl ⟨?_, ?_, ?_, ?_, ?_⟩) <;> omega) | (refine Or.inr (Or.inr ⟨?_, ?_, ?_, ?_⟩) <;> omega))⟩
      · refine TT_aload_n hK rfl 1 rfl dX12_takeIn_40 ?_
        refine TT_aload_n hK rfl 1 rfl dX12_takeIn_41 ?_
        refine gf_X12_175 hK (by decide) rfl (v := (h 73) 33) ((congrFun (hG_19.1 73 (by decide)) 33).trans (congrFun (hG_2.1 73 (by decide)) 33)) dX12_takeIn_42 ?_
        have r34 := ty_73_33 (v := (h 73) 33) hT_19 ((congrFun (hG_19.1 73 (by decide)) 33).trans (congrFun (hG_2.1 73 (by decide)) 33))
        refine TT_ldc2 hK lc_X12_212 dX12_takeIn_45 ?_
        refine TT_ladd hK dX12_takeIn_48 ?_
        refine TT_w64g (fun x49_35 hx35 hy49_35 => ?_)
        refine pf_X12_175 hK (by decide) rfl dX12_takeIn_49 ?_
        refine TT_hp (h' := setO g31_19 73 (fup (h 73) 33 x49_35)) (up_can (((hG_19.1 73 (by decide))).trans (hG_2.1 73 (by decide))) rfl rfl) ?_
        have hT_36 : TY (setO g31_19 73 (fup (h 73) 33 x49_35)) := tu_73_33 hT_19 (show up g31_19 73 33 x49_35 = (setO g31_19 73 (fup (h 73) 33 x49_35)) from up_can (((hG_19.1 73 (by decide))).trans (hG_2.1 73 (by decide))) rfl rfl) (by omega)
        have hF_36 : FRM [73] [33, 34, 39] h (setO g31_19 73 (fup (h 73) 33 x49_35)) := FRM_f (show up g31_19 73 33 x49_35 = (setO g31_19 73 (fup (h 73) 33 x49_35)) from up_can (((hG_19.1 73 (by decide))).trans (hG_2.1 73 (by decide))) rfl rfl) hF_19 (by decide) (by decide)
        refine TT_aload_n hK rfl 1 rfl dX12_takeIn_52 ?_
        refine TT_bipush hK (by decide) dX12_takeIn_53 ?_
        refine pf_X12_178 hK (by decide) rfl dX12_takeIn_55 ?_
        refine TT_hp (h' := setO g31_19 73 (fup (fup (h 73) 33 x49_35) 34 8)) (up_can (sOf_eq _ _ _) rfl (setO_same _ _ _ _)) ?_
        have hT_37 : TY (setO g31_19 73 (fup (fup (h 73) 33 x49_35) 34 8)) := tu_73_34 hT_36 (show up (setO g31_19 73 (fup (h 73) 33 x49_35)) 73 34 8 = (setO g31_19 73 (fup (fup (h 73) 33 x49_35) 34 8)) from up_can (sOf_eq _ _ _) rfl (setO_same _ _ _ _)) (by omega)
        have hF_37 : FRM [73] [33, 34, 39] h (setO g31_19 73 (fup (fup (h 73) 33 x49_35) 34 8)) := FRM_f (show up (setO g31_19 73 (fup (h 73) 33 x49_35)) 73 34 8 = (setO g31_19 73 (fup (fup (h 73) 33 x49_35) 34 8)) from up_can (sOf_eq _ _ _) rfl (setO_same _ _ _ _)) hF_36 (by decide) (by decide)
        refine TT_vret hK hQ ?_ dX12_takeIn_58
        have e38_73_34 : (setO g31_19 73 (fup (fup (h 73) 33 x49_35) 34 8)) 73 34 = 8 := rd_ (sOf_eq _ _ _) (fup_eq _ _ _)
        have e39_73_33 : (setO g31_19 73 (fup (fup (h 73) 33 x49_35) 34 8)) 73 33 = x49_35 := rd_ (sOf_eq _ _ _) ((fup_ne _ _ (by decide)).trans (fup_eq _ _ _))
        have e40_73_34 : (setO g31_19 73 (fup (fup (h 73) 33 x49_35) 34 8)) 73 34 = 8 := rd_ (sOf_eq _ _ _) (fup_eq _ _ _)
        have e41_73_39 : (setO g31_19 73 (fup (fup (h 73) 33 x49_35) 34 8)) 73 39 = (h 73) 39 := rd_ (sOf_eq _ _ _) ((fup_ne _ _ (by decide)).trans (fup_ne _ _ (by decide)))
        exact ⟨⟨hT_37, hF_37⟩, rfl, (by rewrite [e38_73_34]; omega), (by rewrite [e39_73_33, e40_73_34, e41_73_39]; intro hc; refine inS_e ?_; first | (refine Or.inl ⟨?_, ?_, ?_, ?_, ?_⟩ <;> omega) | (refine Or.inr (Or.inl ⟨?_, ?_, ?_, ?_, ?_⟩) <;> omega) | (refine Or.inr (Or.inr ⟨?_, ?_, ?_, ?_⟩) <;> omega))⟩
set_option maxRecDepth 20000 in
theorem s_readBit_e (x : Int) (h : Hp_) (hT : TY h) (hx : 0 ≤ x ∧ x ≤ 18) (htb : TBL (h 74) (h 75)) (ha : 32768 ≤ (h 73 32) ∧ (h 73 32) < 65536) : Ctr yX12_readBit cX12_readBit 7 (some .int) (rmd 2) ly ly 0 0 [vR 73, vI x] h (fun r h' => (TY h' ∧ FRM [73, 96, 97] [32, 33, 34, 39] h h') ∧ ∃ z : Int, r = some (vI z) ∧ (0 ≤ z ∧ z ≤ 1) ∧ (32768 ≤ (h' 73 32) ∧ (h' 73 32) < 65536) ∧ ((0 ≤ (h 73 33) ∧ (h 73 33) < 1099511627776) ∧ SRB (h 99) (h 73 38) ∧ RQ_ (h 73 38) (h 73 32) (h 73 34) (h 73 39) → (z, ((h' 73 32), (h' 73 33), (h' 73 34), (h' 73 39), (h' 96), (h' 97))) = rdS lwC fxM (h 99) (h 73 38) ((h 73 32), (h 73 33), (h 73 34), (h 73 39), (h 96), (h 97)) x ∧ RQ_ (h 73 38) (h' 73 32) (h' 73 34) (h' 73 39) ∧ 0 ≤ (h' 73 33))) := by
  refine Ctr_of (by decide) (Nat.le_of_ble_eq_true rfl) ⟨Nat.le_refl _, Nat.le_refl _⟩ (fun K hK hQ _ => ?_)
  show TT K ly 0 0 0 [(0, vR 73), (1, vI x)] [] h
  have hF : FRM [73, 96, 97] [32, 33, 34, 39] h h := FRM_rf _ _ _
  have hs0 := ty_96 (i := x) (v := h 96 x) hT rfl (by omega) (by omega)
  have hs : 0 ≤ h 96 x ∧ h 96 x < 47 := by omega
  have ht := (tab_r hs).1
  have hl := ty_97 (i := x) (v := h 97 x) hT rfl (by omega) (by omega)
  have tqS : h 74 (h 96 x) = qS (h 96 x) := (htb _ hs.1 hs.2).1.trans (qT_S hs)
  have hc33 := ty_73_33 (v := h 73 33) hT rfl
  have htv := tdvR hc33
  have elw : lwC (h 73 33) = h 73 33 / 65536 := rfl
  refine TT_aload_n hK rfl 0 rfl dX12_readBit_0 ?_
  refine gf_X12_7 hK (by decide) rfl (q := 74) rfl rfl dX12_readBit_1 ?_
  refine TT_aload_n hK rfl 0 rfl dX12_readBit_4 ?_
  refine gf_X12_84 hK (by decide) rfl (q := 96) rfl rfl dX12_readBit_5 ?_
  refine TT_iload_n hK rfl 1 rfl dX12_readBit_8 ?_
  refine TT_iald hK (o := 96) (n := 19) (by decide) rfl (by first | omega | (simp [up, setR] <;> omega)) (by first | omega | (simp [up, setR] <;> omega)) (v := (h 96) x) rfl dX12_readBit_9 ?_
  have r1 := ty_96 (i := x) (v := (h 96) x) hT rfl (by omega) (by omega)
  refine TT_iald hK (o := 74) (n := 47) (by decide) rfl (by first | omega | (simp [up, setR] <;> omega)) (by first | omega | (simp [up, setR] <;> omega)) (v := (h 74) ((h 96) x)) rfl dX12_readBit_10 ?_
  have r2 := ty_74 (i := (h 96) x) (v := (h 74) ((h 96) x)) hT rfl (by omega) (by omega)
  have tq := TBL_r htb (s := h 96 x) (by omega) (by omega)
  refine TT_cgI (b := qS (h 96 x)) (by exact tqS) ?_
  refine TT_istore_n hK rfl (lv' := [(2, vI (qS (h 96 x))), (0, vR 73), (1, vI x)]) (by decide) rfl dX12_readBit_11 ?_
  refine TT_aload_n hK rfl 1 rfl dX12_readBit_12 ?_
  refine TT_aload_n hK rfl 1 rfl dX12_readBit_13 ?_
  refine gf_X12_171 hK (by decide) rfl (v := (h 73) 32) rfl dX12_readBit_14 ?_
  have r3 := ty_73_32 (v := (h 73) 32) hT rfl
  refine TT_iload_n hK rfl 0 rfl dX12_readBit_17 ?_
  refine TT_i2l hK (irm (by omega) (by omega)) dX12_readBit_18 ?_
  refine TT_lsub hK dX12_readBit_19 ?_
  refine pf_X12_171 hK (by decide) rfl dX12_readBit_20 ?_
  refine TT_hp (h' := setO h 73 (fup (h 73) 32 (((h 73) 32) - (qS (h 96 x))))) (up_can rfl rfl rfl) ?_
  have hT_4 : TY (setO h 73 (fup (h 73) 32 (((h 73) 32) - (qS (h 96 x))))) := tu_73_32 hT (show up h 73 32 (((h 73) 32) - (qS (h 96 x))) = (setO h 73 (fup (h 73) 32 (((h 73) 32) - (qS (h 96 x))))) from up_can rfl rfl rfl) (by omega)
  have hF_4 : FRM [73, 96, 97] [32, 33, 34, 39] h (setO h 73 (fup (h 73) 32 (((h 73) 32) - (qS (h 96 x))))) := FRM_f (show up h 73 32 (((h 73) 32) - (qS (h 96 x))) = (setO h 73 (fup (h 73) 32 (((h 73) 32) - (qS (h 96 x))))) from up_can rfl rfl rfl) hF (by decide) (by decide)
  refine TT_aload_n hK rfl 1 rfl dX12_readBit_23 ?_
  refine gf_X12_175 hK (by decide) rfl (v := (h 73) 33) (rd_ (sOf_eq _ _ _) (fup_ne _ _ (by decide))) dX12_readBit_24 ?_
  have r5 := ty_73_33 (v := (h 73) 33) hT_4 (rd_ (sOf_eq _ _ _) (fup_ne _ _ (by decide)))
  refine TT_ldc2 hK lc_X12_198 dX12_readBit_27 ?_
  refine TT_ldiv hK (lrm (by omega) (by omega)) (by decide) (by omega) dX12_readBit_30 ?_
  refine TT_iload_n hK rfl 0 rfl dX12_readBit_31 ?_
  refine TT_i2l hK (irm (by omega) (by omega)) dX12_readBit_32 ?_
  refine TT_lcmp hK (lrm (by omega) (by omega)) (lrm (by omega) (by omega)) dX12_readBit_33 ?_
  refine TT_if_ge hK (tgt := 41) (lcmp_ir _ _) dX12_readBit_34 (by decide) (fun hb34_6 => ?_) (fun hb34_6 => ?_)
  · have hb34_6 := lcmp_ge hb34_6
    refine TT_iconst hK dX12_readBit_41 ?_
    refine TT_istore_n hK rfl (lv' := [(3, vI 0), (2, vI (qS (h 96 x))), (0, vR 73), (1, vI x)]) (by decide) rfl dX12_readBit_42 ?_
    refine TT_iload_n hK rfl 0 rfl dX12_readBit_43 ?_
    refine TT_if_ne hK (tgt := 80) (by decide) dX12_readBit_44 (by decide) (fun hb44_7 => ?_) (fun hb44_7 => ?_)
    · exact absurd hb44_7 (by decide)
    · refine TT_aload_n hK rfl 2 rfl dX12_readBit_47 ?_
      refine TT_aload_n hK rfl 2 rfl dX12_readBit_48 ?_
      refine gf_X12_175 hK (by decide) rfl (v := (h 73) 33) (rd_ (sOf_eq _ _ _) (fup_ne _ _ (by decide))) dX12_readBit_49 ?_
      refine TT_ldc2 hK lc_X12_198 dX12_readBit_52 ?_
      refine TT_iload_n hK rfl 1 rfl dX12_readBit_55 ?_
      refine TT_i2l hK (irm (by omega) (by omega)) dX12_readBit_56 ?_
      refine TT_lmul hK dX12_readBit_57 ?_
      refine TT_lsub hK dX12_readBit_58 ?_
      refine TT_w64g (fun x59_8 hx8 hy59_8 => ?_)
      refine pf_X12_175 hK (by decide) rfl dX12_readBit_59 ?_
      refine TT_hp (h' := setO h 73 (fup (fup (h 73) 32 (((h 73) 32) - (qS (h 96 x)))) 33 x59_8)) (up_can (sOf_eq _ _ _) rfl (setO_same _ _ _ _)) ?_
      have hT_9 : TY (setO h 73 (fup (fup (h 73) 32 (((h 73) 32) - (qS (h 96 x)))) 33 x59_8)) := tu_73_33 hT_4 (show up (setO h 73 (fup (h 73) 32 (((h 73) 32) - (qS (h 96 x))))) 73 33 x59_8 = (setO h 73 (fup (fup (h 73) 32 (((h 73) 32) - (qS (h 96 x)))) 33 x59_8)) from up_can (sOf_eq _ _ _) rfl (setO_same _ _ _ _)) (by omega)
      have hF_9 : FRM [73, 96, 97] [32, 33, 34, 39] h (setO h 73 (fup (fup (h 73) 32 (((h 73) 32) - (qS (h 96 x)))) 33 x59_8)) := FRM_f (show up (setO h 73 (fup (h 73) 32 (((h 73) 32) - (qS (h 96 x))))) 73 33 x59_8 = (setO h 73 (fup (fup (h 73) 32 (((h 73) 32) - (qS (h 96 x)))) 33 x59_8)) from up_can (sOf_eq _ _ _) rfl (setO_same _ _ _ _)) hF_4 (by decide) (by decide)
      refine TT_aload_n hK rfl 2 rfl dX12_readBit_62 ?_
      refine gf_X12_171 hK (by decide) rfl (v := ((h 73) 32) - (qS (h 96 x))) (rd_ (sOf_eq _ _ _) ((fup_ne _ _ (by decide)).trans (fup_eq _ _ _))) dX12_readBit_63 ?_
      have r10 := ty_73_32 (v := ((h 73) 32) - (qS (h 96 x))) hT_9 (rd_ (sOf_eq _ _ _) ((fup_ne _ _ (by decide)).trans (fup_eq _ _ _)))
      refine TT_ldc2 hK lc_X12_169 dX12_readBit_66 ?_
      refine TT_lcmp hK (lrm (by omega) (by omega)) (by decide) dX12_readBit_69 ?_
      refine TT_if_lt hK (tgt := 80) (lcmp_ir _ _) dX12_readBit_70 (by decide) (fun hb70_11 => ?_) (fun hb70_11 => ?_)
      · have hb70_11 := lcmp_lt hb70_11
        refine TT_aload_n hK rfl 2 rfl dX12_readBit_80 ?_
        refine gf_X12_171 hK (by decide) rfl (v := ((h 73) 32) - (qS (h 96 x))) (rd_ (sOf_eq _ _ _) ((fup_ne _ _ (by decide)).trans (fup_eq _ _ _))) dX12_readBit_81 ?_
        refine TT_iload_n hK rfl 1 rfl dX12_readBit_84 ?_
        refine TT_i2l hK (irm (by omega) (by omega)) dX12_readBit_85 ?_
        refine TT_lcmp hK (lrm (by omega) (by omega)) (lrm (by omega) (by omega)) dX12_readBit_86 ?_
        refine TT_if_ge hK (tgt := 94) (lcmp_ir _ _) dX12_readBit_87 (by decide) (fun hb87_12 => ?_) (fun hb87_12 => ?_)
        · have hb87_12 := lcmp_ge hb87_12
          refine TT_iconst hK dX12_readBit_94 ?_
          refine TT_istore hK (lv' := [(4, vI 0), (3, vI 0), (2, vI (qS (h 96 x))), (0, vR 73), (1, vI x)]) (by decide) rfl dX12_readBit_95 ?_
          refine TT_iload_n hK rfl 1 rfl dX12_readBit_97 ?_
          refine TT_if_eq hK (tgt := 114) (by decide) dX12_readBit_98 (by decide) (fun hb98_13 => ?_) (fun hb98_13 => ?_)
          · refine TT_iload hK 0 rfl dX12_readBit_114 ?_
            refine TT_istore hK (lv' := [(5, vI 0), (4, vI 0), (3, vI 0), (2, vI (qS (h 96 x))), (0, vR 73), (1, vI x)]) (by decide) rfl dX12_readBit_116 ?_
            refine TT_iload hK 0 rfl dX12_readBit_118 ?_
            refine TT_if_eq hK (tgt := 134) (by decide) dX12_readBit_120 (by decide) (fun hb120_14 => ?_) (fun hb120_14 => ?_)
            · refine TT_aload_n hK rfl 4 rfl dX12_readBit_134 ?_
              refine gf_X12_87 hK (by decide) rfl (q := 97) rfl rfl dX12_readBit_135 ?_
              refine TT_iload_n hK rfl 5 rfl dX12_readBit_138 ?_
              refine TT_iald hK (o := 97) (n := 19) (by decide) rfl (by first | omega | (simp [up, setR] <;> omega)) (by first | omega | (simp [up, setR] <;> omega)) (v := (h 97) x) (rd_ (sOf_ne _ _ (by decide)) rfl) dX12_readBit_139 ?_
              have r15 := ty_97 (i := x) (v := (h 97) x) hT_9 (rd_ (sOf_ne _ _ (by decide)) rfl) (by omega) (by omega)
              refine TT_istore hK (lv' := [(6, vI ((h 97) x)), (5, vI 0), (4, vI 0), (3, vI 0), (2, vI (qS (h 96 x))), (0, vR 73), (1, vI x)]) (by decide) rfl dX12_readBit_140 ?_
              refine TT_aload_n hK rfl 5 rfl dX12_readBit_142 ?_
              refine TT_iload_n hK rfl 3 rfl dX12_readBit_143 ?_
              refine TT_if_eq hK (tgt := 152) (by decide) dX12_readBit_144 (by decide) (fun hb144_16 => ?_) (fun hb144_16 => ?_)
              · refine TT_aload_n hK rfl 5 rfl dX12_readBit_152 ?_
                refine gf_X12_171 hK (by decide) rfl (v := ((h 73) 32) - (qS (h 96 x))) (rd_ (sOf_eq _ _ _) ((fup_ne _ _ (by decide)).trans (fup_eq _ _ _))) dX12_readBit_153 ?_
                refine pf_X12_171 hK (by decide) rfl dX12_readBit_156 ?_
                refine TT_hp (h' := setO h 73 (fup (fup (h 73) 32 (((h 73) 32) - (qS (h 96 x)))) 33 x59_8)) (up_can (sOf_eq _ _ _) ((fup_comm _ _ _ (by decide)).trans (fup_cg (fup_same _ _ _ _))) (setO_same _ _ _ _)) ?_
                have hT_17 : TY (setO h 73 (fup (fup (h 73) 32 (((h 73) 32) - (qS (h 96 x)))) 33 x59_8)) := tu_73_32 hT_9 (show up (setO h 73 (fup (fup (h 73) 32 (((h 73) 32) - (qS (h 96 x)))) 33 x59_8)) 73 32 (((h 73) 32) - (qS (h 96 x))) = (setO h 73 (fup (fup (h 73) 32 (((h 73) 32) - (qS (h 96 x)))) 33 x59_8)) from up_can (sOf_eq _ _ _) ((fup_comm _ _ _ (by decide)).trans (fup_cg (fup_same _ _ _ _))) (setO_same _ _ _ _)) (by omega)
                have hF_17 : FRM [73, 96, 97] [32, 33, 34, 39] h (setO h 73 (fup (fup (h 73) 32 (((h 73) 32) - (qS (h 96 x)))) 33 x59_8)) := FRM_f (show up (setO h 73 (fup (fup (h 73) 32 (((h 73) 32) - (qS (h 96 x)))) 33 x59_8)) 73 32 (((h 73) 32) - (qS (h 96 x))) = (setO h 73 (fup (fup (h 73) 32 (((h 73) 32) - (qS (h 96 x)))) 33 x59_8)) from up_can (sOf_eq _ _ _) ((fup_comm _ _ _ (by decide)).trans (fup_cg (fup_same _ _ _ _))) (setO_same _ _ _ _)) hF_9 (by decide) (by decide)
                refine TT_aload_n hK rfl 5 rfl dX12_readBit_159 ?_
                refine TT_iload_n hK rfl 6 rfl dX12_readBit_160 ?_
                refine TT_iload hK 1 rfl dX12_readBit_161 ?_
                have e18_74 : (setO h 73 (fup (fup (h 73) 32 (((h 73) 32) - (qS (h 96 x)))) 33 x59_8)) 74 = h 74 := sOf_ne _ _ (by decide)
                have e19_75 : (setO h 73 (fup (fup (h 73) 32 (((h 73) 32) - (qS (h 96 x)))) 33 x59_8)) 75 = h 75 := sOf_ne _ _ (by decide)
                refine iv_X12_189 hK (s_learn_e x 0 (setO h 73 (fup (fup (h 73) 32 (((h 73) 32) - (qS (h 96 x)))) 33 x59_8)) hT_17 (by first | omega | (simp [up, setR] <;> omega)) (by first | omega | (simp [up, setR] <;> omega)) (by rewrite [e18_74, e19_75]; first | assumption | exact htb)) (by decide) rfl ⟨by decide, by decide⟩ (by decide) rfl rfl (Nat.le_of_ble_eq_true rfl) ⟨by decide, by decide⟩ dX12_readBit_163 ?_
                intro r9 g163_20 hp9
                obtain ⟨⟨hT_20, hG_20⟩, hr9, p1_20, l1_20, l2_20⟩ := hp9
                rw [hr9]
                have hF_20 : FRM [73, 96, 97] [32, 33, 34, 39] h g163_20 := FRM_tr hF_17 hG_20 (by decide) (by decide)
                rw [show (setO h 73 (fup (fup (h 73) 32 (((h 73) 32) - (qS (h 96 x)))) 33 x59_8)) 75 = h 75 from sOf_ne _ _ (by decide)] at p1_20
                rw [show (setO h 73 (fup (fup (h 73) 32 (((h 73) 32) - (qS (h 96 x)))) 33 x59_8)) 96 = h 96 from sOf_ne _ _ (by decide)] at p1_20
                rw [show (setO h 73 (fup (fup (h 73) 32 (((h 73) 32) - (qS (h 96 x)))) 33 x59_8)) 96 = h 96 from sOf_ne _ _ (by decide)] at l1_20
                rw [show (setO h 73 (fup (fup (h 73) 32 (((h 73) 32) - (qS (h 96 x)))) 33 x59_8)) 96 = h 96 from sOf_ne _ _ (by decide)] at l2_20
                rw [show (setO h 73 (fup (fup (h 73) 32 (((h 73) 32) - (qS (h 96 x)))) 33 x59_8)) 97 = h 97 from sOf_ne _ _ (by decide)] at l2_20
                have l1_at163 := l1_20
                have l2_at163 := l2_20
                show TT K ly 0 0 166 [(6, vI ((h 97) x)), (5, vI 0), (4, vI 0), (3, vI 0), (2, vI (qS (h 96 x))), (0, vR 73), (1, vI x)] [] g163_20
                have L166_21 : ∀ (k21 : Nat) (bt : Int) (R9 : Int × Int × Int × Int) (w166_21 : Hp_), TY w166_21 → FRM [73, 96, 97] [32, 33, 34, 39] h w166_21 → (0 ≤ bt ∧ bt ≤ 1) → (1 ≤ (w166_21 73 32) ∧ (w166_21 73 32) < 65536) → ((0 ≤ (h 73 33) ∧ (h 73 33) < 1099511627776) ∧ SRB (h 99) (h 73 38) ∧ RQ_ (h 73 38) (h 73 32) (h 73 34) (h 73 39) → ∃ f, RJC (h 99) (h 73 38) f (w166_21 73 32) (w166_21 73 33) (w166_21 73 34) (w166_21 73 39) R9) → ((0 ≤ (h 73 33) ∧ (h 73 33) < 1099511627776) ∧ SRB (h 99) (h 73 38) ∧ RQ_ (h 73 38) (h 73 32) (h 73 34) (h 73 39) → rdS lwC fxM (h 99) (h 73 38) ((h 73 32), (h 73 33), (h 73 34), (h 73 39), (h 96), (h 97)) x = (bt, R9.1, R9.2.1, R9.2.2.1, R9.2.2.2, (w166_21 96), (w166_21 97))) → ((65536 : Int) - (w166_21 73 32)).toNat < k21 → TT K ly 0 0 166 [(0, vR 73), (1, vI x), (6, vI bt)] [] w166_21 := by
                  intro k21
                  induction k21 with
                  | zero => intro bt R9 w166_21 hT166_21 hF166_21 hbt ha1 hC hR hk21; exact absurd hk21 (Nat.not_lt_zero _)
                  | succ k21 ih21 =>
                    intro bt R9 w166_21 hT166_21 hF166_21 hbt ha1 hC hR hk21
                    refine TT_aload_n hK rfl 0 rfl dX12_readBit_166 ?_
                    refine gf_X12_171 hK (by decide) rfl (v := (w166_21 73) 32) rfl dX12_readBit_167 ?_
                    have r22 := ty_73_32 (v := (w166_21 73) 32) hT166_21 rfl
                    refine TT_ldc2 hK lc_X12_169 dX12_readBit_170 ?_
                    refine TT_lcmp hK (lrm (by omega) (by omega)) (by decide) dX12_readBit_173 ?_
                    refine TT_if_ge hK (tgt := 225) (lcmp_ir _ _) dX12_readBit_174 (by decide) (fun hb174_23 => ?_) (fun hb174_23 => ?_)
                    · have hb174_23 := lcmp_ge hb174_23
                      refine TT_iload hK 2 rfl dX12_readBit_225 ?_
                      refine TT_iret hK hQ ?_ dX12_readBit_227
                      have e24_73_32 : w166_21 73 32 = (w166_21 73) 32 := rfl
                      have e25_73_32 : w166_21 73 32 = (w166_21 73) 32 := rfl
                      have e26_73_33 : w166_21 73 33 = (w166_21 73) 33 := rfl
                      have e27_73_34 : w166_21 73 34 = (w166_21 73) 34 := rfl
                      have e28_73_39 : w166_21 73 39 = (w166_21 73) 39 := rfl
                      exact ⟨⟨hT166_21, hF166_21⟩, bt, rfl, (by omega), (by rewrite [e24_73_32]; omega), (by rewrite [e25_73_32, e26_73_33, e27_73_34, e28_73_39]; intro hc9; first | (obtain ⟨⟨u1, u2⟩, u3, u4, u5, u6, u7, u8, u9⟩ := hc9; exact ⟨rdS_1q (by omega) (by omega) (by omega) (by omega), ⟨by omega, by omega, by omega, by omega, by omega, by omega⟩, by omega⟩) | (obtain ⟨f, hf⟩ := hC hc9; have hd := RJ_done hf.1 (by omega); exact ⟨by rw [hR hc9, ← hd], hf.1.2.2, hf.2.1⟩))⟩
                    · have hb174_23 := lcmp_lt hb174_23
                      refine TT_aload_n hK rfl 0 rfl dX12_readBit_177 ?_
                      refine gf_X12_178 hK (by decide) rfl (v := (w166_21 73) 34) rfl dX12_readBit_178 ?_
                      have r29 := ty_73_34 (v := (w166_21 73) 34) hT166_21 rfl
                      refine TT_if_ne hK (tgt := 188) (irm (by omega) (by omega)) dX12_readBit_181 (by decide) (fun hb181_30 => ?_) (fun hb181_30 => ?_)
                      · refine TT_aload_n hK rfl 0 rfl dX12_readBit_188 ?_
                        refine TT_ldc2 hK lc_X12_193 dX12_readBit_189 ?_
                        refine TT_aload_n hK rfl 0 rfl dX12_readBit_192 ?_
                        refine gf_X12_171 hK (by decide) rfl (v := (w166_21 73) 32) rfl dX12_readBit_193 ?_
                        refine TT_lmul hK dX12_readBit_196 ?_
                        refine pf_X12_171 hK (by decide) rfl dX12_readBit_197 ?_
                        refine TT_hp (h' := setO w166_21 73 (fup (w166_21 73) 32 (2 * ((w166_21 73) 32)))) (up_can rfl rfl rfl) ?_
                        have hT_31 : TY (setO w166_21 73 (fup (w166_21 73) 32 (2 * ((w166_21 73) 32)))) := tu_73_32 hT166_21 (show up w166_21 73 32 (2 * ((w166_21 73) 32)) = (setO w166_21 73 (fup (w166_21 73) 32 (2 * ((w166_21 73) 32)))) from up_can rfl rfl rfl) (by omega)
                        have hF_31 : FRM [73, 96, 97] [32, 33, 34, 39] h (setO w166_21 73 (fup (w166_21 73) 32 (2 * ((w166_21 73) 32)))) := FRM_f (show up w166_21 73 32 (2 * ((w166_21 73) 32)) = (setO w166_21 73 (fup (w166_21 73) 32 (2 * ((w166_21 73) 32)))) from up_can rfl rfl rfl) hF166_21 (by decide) (by decide)
                        refine TT_aload_n hK rfl 0 rfl dX12_readBit_200 ?_
                        refine TT_ldc2 hK lc_X12_193 dX12_readBit_201 ?_
                        refine TT_aload_n hK rfl 0 rfl dX12_readBit_204 ?_
                        refine gf_X12_175 hK (by decide) rfl (v := (w166_21 73) 33) (rd_ (sOf_eq _ _ _) (fup_ne _ _ (by decide))) dX12_readBit_205 ?_
                        have r32 := ty_73_33 (v := (w166_21 73) 33) hT_31 (rd_ (sOf_eq _ _ _) (fup_ne _ _ (by decide)))
                        refine TT_lmul hK dX12_readBit_208 ?_
                        refine TT_w64g (fun x209_33 hx33 hy209_33 => ?_)
                        refine pf_X12_175 hK (by decide) rfl dX12_readBit_209 ?_
                        refine TT_hp (h' := setO w166_21 73 (fup (fup (w166_21 73) 32 (2 * ((w166_21 73) 32))) 33 x209_33)) (up_can (sOf_eq _ _ _) rfl (setO_same _ _ _ _)) ?_
                        have hT_34 : TY (setO w166_21 73 (fup (fup (w166_21 73) 32 (2 * ((w166_21 73) 32))) 33 x209_33)) := tu_73_33 hT_31 (show up (setO w166_21 73 (fup (w166_21 73) 32 (2 * ((w166_21 73) 32)))) 73 33 x209_33 = (setO w166_21 73 (fup (fup (w166_21 73) 32 (2 * ((w166_21 73) 32))) 33 x209_33)) from up_can (sOf_eq _ _ _) rfl (setO_same _ _ _ _)) (by omega)
                        have hF_34 : FRM [73, 96, 97] [32, 33, 34, 39] h (setO w166_21 73 (fup (fup (w166_21 73) 32 (2 * ((w166_21 73) 32))) 33 x209_33)) := FRM_f (show up (setO w166_21 73 (fup (w166_21 73) 32 (2 * ((w166_21 73) 32)))) 73 33 x209_33 = (setO w166_21 73 (fup (fup (w166_21 73) 32 (2 * ((w166_21 73) 32))) 33 x209_33)) from up_can (sOf_eq _ _ _) rfl (setO_same _ _ _ _)) hF_31 (by decide) (by decide)
                        refine TT_aload_n hK rfl 0 rfl dX12_readBit_212 ?_
                        refine TT_dup hK rfl dX12_readBit_213 ?_
                        refine gf_X12_178 hK (by decide) rfl (v := (w166_21 73) 34) (rd_ (sOf_eq _ _ _) ((fup_ne _ _ (by decide)).trans (fup_ne _ _ (by decide)))) dX12_readBit_214 ?_
                        refine TT_iconst hK dX12_readBit_217 ?_
                        refine TT_isub hK dX12_readBit_218 ?_
                        refine pf_X12_178 hK (by decide) rfl dX12_readBit_219 ?_
                        refine TT_hp (h' := setO w166_21 73 (fup (fup (fup (w166_21 73) 32 (2 * ((w166_21 73) 32))) 33 x209_33) 34 (((w166_21 73) 34) - 1))) (up_can (sOf_eq _ _ _) rfl (setO_same _ _ _ _)) ?_
                        have hT_35 : TY (setO w166_21 73 (fup (fup (fup (w166_21 73) 32 (2 * ((w166_21 73) 32))) 33 x209_33) 34 (((w166_21 73) 34) - 1))) := tu_73_34 hT_34 (show up (setO w166_21 73 (fup (fup (w166_21 73) 32 (2 * ((w166_21 73) 32))) 33 x209_33)) 73 34 (((w166_21 73) 34) - 1) = (setO w166_21 73 (fup (fup (fup (w166_21 73) 32 (2 * ((w166_21 73) 32))) 33 x209_33) 34 (((w166_21 73) 34) - 1))) from up_can (sOf_eq _ _ _) rfl (setO_same _ _ _ _)) (by omega)
                        have hF_35 : FRM [73, 96, 97] [32, 33, 34, 39] h (setO w166_21 73 (fup (fup (fup (w166_21 73) 32 (2 * ((w166_21 73) 32))) 33 x209_33) 34 (((w166_21 73) 34) - 1))) := FRM_f (show up (setO w166_21 73 (fup (fup (w166_21 73) 32 (2 * ((w166_21 73) 32))) 33 x209_33)) 73 34 (((w166_21 73) 34) - 1) = (setO w166_21 73 (fup (fup (fup (w166_21 73) 32 (2 * ((w166_21 73) 32))) 33 x209_33) 34 (((w166_21 73) 34) - 1))) from up_can (sOf_eq _ _ _) rfl (setO_same _ _ _ _)) hF_34 (by decide) (by decide)
                        refine TT_goto hK (tgt := 166) dX12_readBit_222 (by decide) ?_
                        have e36_73_32 : (setO w166_21 73 (fup (fup (fup (w166_21 73) 32 (2 * ((w166_21 73) 32))) 33 x209_33) 34 (((w166_21 73) 34) - 1))) 73 32 = 2 * ((w166_21 73) 32) := rd_ (sOf_eq _ _ _) ((fup_ne _ _ (by decide)).trans ((fup_ne _ _ (by decide)).trans (fup_eq _ _ _)))
                        have e37_73_32 : (setO w166_21 73 (fup (fup (fup (w166_21 73) 32 (2 * ((w166_21 73) 32))) 33 x209_33) 34 (((w166_21 73) 34) - 1))) 73 32 = 2 * ((w166_21 73) 32) := rd_ (sOf_eq _ _ _) ((fup_ne _ _ (by decide)).trans ((fup_ne _ _ (by decide)).trans (fup_eq _ _ _)))
                        have e38_73_33 : (setO w166_21 73 (fup (fup (fup (w166_21 73) 32 (2 * ((w166_21 73) 32))) 33 x209_33) 34 (((w166_21 73) 34) - 1))) 73 33 = x209_33 := rd_ (sOf_eq _ _ _) ((fup_ne _ _ (by decide)).trans (fup_eq _ _ _))
                        have e39_73_34 : (setO w166_21 73 (fup (fup (fup (w166_21 73) 32 (2 * ((w166_21 73) 32))) 33 x209_33) 34 (((w166_21 73) 34) - 1))) 73 34 = ((w166_21 73) 34) - 1 := rd_ (sOf_eq _ _ _) (fup_eq _ _ _)
                        have e40_73_39 : (setO w166_21 73 (fup (fup (fup (w166_21 73) 32 (2 * ((w166_21 73) 32))) 33 x209_33) 34 (((w166_21 73) 34) - 1))) 73 39 = (w166_21 73) 39 := rd_ (sOf_eq _ _ _) ((fup_ne _ _ (by decide)).trans ((fup_ne _ _ (by decide)).trans (fup_ne _ _ (by decide))))
                        have e41_96 : (setO w166_21 73 (fup (fup (fup (w166_21 73) 32 (2 * ((w166_21 73) 32))) 33 x209_33) 34 (((w166_21 73) 34) - 1))) 96 = w166_21 96 := sOf_ne _ _ (by decide)
                        have e42_97 : (setO w166_21 73 (fup (fup (fup (w166_21 73) 32 (2 * ((w166_21 73) 32))) 33 x209_33) 34 (((w166_21 73) 34) - 1))) 97 = w166_21 97 := sOf_ne _ _ (by decide)
                        have e43_73_32 : (setO w166_21 73 (fup (fup (fup (w166_21 73) 32 (2 * ((w166_21 73) 32))) 33 x209_33) 34 (((w166_21 73) 34) - 1))) 73 32 = 2 * ((w166_21 73) 32) := rd_ (sOf_eq _ _ _) ((fup_ne _ _ (by decide)).trans ((fup_ne _ _ (by decide)).trans (fup_eq _ _ _)))
                        exact ih21 bt R9 (setO w166_21 73 (fup (fup (fup (w166_21 73) 32 (2 * ((w166_21 73) 32))) 33 x209_33) 34 (((w166_21 73) 34) - 1))) hT_35 hF_35 (by first | omega | (simp [up, setR] <;> omega)) (by rewrite [e36_73_32]; first | omega | (simp [up, setR] <;> omega)) (by rewrite [e37_73_32, e38_73_33, e39_73_34, e40_73_39]; intro hc9; obtain ⟨f, hf⟩ := hC hc9; have hb9 := RJC_b hf; cases f with | zero => exact absurd (RJ_z hf.1) (by omega) | succ f => first | exact ⟨f, RJC_next hf (by omega) (by omega) (by omega)⟩ | exact ⟨f, RJC_in hc9.2.1 hf (by omega) (by omega) (in_at185 (by omega)) (fun q => by omega)⟩) (by rewrite [e41_96, e42_97]; exact hR) (by rewrite [e43_73_32]; first | omega | (simp [up, setR] <;> omega))
                      · refine TT_aload_n hK rfl 0 rfl dX12_readBit_184 ?_
                        refine iv_X12_216 hK (s_takeIn_e w166_21 hT166_21 ) (by decide) rfl ⟨by decide, by decide⟩ (by decide) rfl rfl (Nat.le_of_ble_eq_true rfl) ⟨by decide, by decide⟩ dX12_readBit_185 ?_
                        intro r9 g185_44 hp9
                        obtain ⟨⟨hT_44, hG_44⟩, hr9, p1_44, in_44⟩ := hp9
                        rw [hr9]
                        have hF_44 : FRM [73, 96, 97] [32, 33, 34, 39] h g185_44 := FRM_tr hF166_21 hG_44 (by decide) (by decide)
                        rw [show w166_21 73 33 = (w166_21 73) 33 from rfl] at in_44
                        rw [show w166_21 73 38 = (h 73) 38 from (hF166_21.2 38 (by decide))] at in_44
                        rw [show w166_21 73 39 = (w166_21 73) 39 from rfl] at in_44
                        rw [show w166_21 99 = h 99 from (hF166_21.1 99 (by decide))] at in_44
                        have in_at185 := in_44
                        show TT K ly 0 0 188 [(0, vR 73), (1, vI x), (6, vI bt)] [] g185_44
                        refine TT_aload_n hK rfl 0 rfl dX12_readBit_188 ?_
                        refine TT_ldc2 hK lc_X12_193 dX12_readBit_189 ?_
                        refine TT_aload_n hK rfl 0 rfl dX12_readBit_192 ?_
                        refine gf_X12_171 hK (by decide) rfl (v := (w166_21 73) 32) (hG_44.2 32 (by decide)) dX12_readBit_193 ?_
                        refine TT_lmul hK dX12_readBit_196 ?_
                        refine pf_X12_171 hK (by decide) rfl dX12_readBit_197 ?_
                        refine TT_hp (h' := setO g185_44 73 (fup (g185_44 73) 32 (2 * ((w166_21 73) 32)))) (up_can rfl rfl rfl) ?_
                        have hT_45 : TY (setO g185_44 73 (fup (g185_44 73) 32 (2 * ((w166_21 73) 32)))) := tu_73_32 hT_44 (show up g185_44 73 32 (2 * ((w166_21 73) 32)) = (setO g185_44 73 (fup (g185_44 73) 32 (2 * ((w166_21 73) 32)))) from up_can rfl rfl rfl) (by omega)
                        have hF_45 : FRM [73, 96, 97] [32, 33, 34, 39] h (setO g185_44 73 (fup (g185_44 73) 32 (2 * ((w166_21 73) 32)))) := FRM_f (show up g185_44 73 32 (2 * ((w166_21 73) 32)) = (setO g185_44 73 (fup (g185_44 73) 32 (2 * ((w166_21 73) 32)))) from up_can rfl rfl rfl) hF_44 (by decide) (by decide)
                        refine TT_aload_n hK rfl 0 rfl dX12_readBit_200 ?_
                        refine TT_ldc2 hK lc_X12_193 dX12_readBit_201 ?_
                        refine TT_aload_n hK rfl 0 rfl dX12_readBit_204 ?_
                        refine gf_X12_175 hK (by decide) rfl (v := (g185_44 73) 33) (rd_ (sOf_eq _ _ _) (fup_ne _ _ (by decide))) dX12_readBit_205 ?_
                        have r46 := ty_73_33 (v := (g185_44 73) 33) hT_45 (rd_ (sOf_eq _ _ _) (fup_ne _ _ (by decide)))
                        refine TT_lmul hK dX12_readBit_208 ?_
                        refine TT_w64g (fun x209_47 hx47 hy209_47 => ?_)
                        refine pf_X12_175 hK (by decide) rfl dX12_readBit_209 ?_
                        refine TT_hp (h' := setO g185_44 73 (fup (fup (g185_44 73) 32 (2 * ((w166_21 73) 32))) 33 x209_47)) (up_can (sOf_eq _ _ _) rfl (setO_same _ _ _ _)) ?_
                        have hT_48 : TY (setO g185_44 73 (fup (fup (g185_44 73) 32 (2 * ((w166_21 73) 32))) 33 x209_47)) := tu_73_33 hT_45 (show up (setO g185_44 73 (fup (g185_44 73) 32 (2 * ((w166_21 73) 32)))) 73 33 x209_47 = (setO g185_44 73 (fup (fup (g185_44 73) 32 (2 * ((w166_21 73) 32))) 33 x209_47)) from up_can (sOf_eq _ _ _) rfl (setO_same _ _ _ _)) (by omega)
                        have hF_48 : FRM [73, 96, 97] [32, 33, 34, 39] h (setO g185_44 73 (fup (fup (g185_44 73) 32 (2 * ((w166_21 73) 32))) 33 x209_47)) := FRM_f (show up (setO g185_44 73 (fup (g185_44 73) 32 (2 * ((w166_21 73) 32)))) 73 33 x209_47 = (setO g185_44 73 (fup (fup (g185_44 73) 32 (2 * ((w166_21 73) 32))) 33 x209_47)) from up_can (sOf_eq _ _ _) rfl (setO_same _ _ _ _)) hF_45 (by decide) (by decide)
                        refine TT_aload_n hK rfl 0 rfl dX12_readBit_212 ?_
                        refine TT_dup hK rfl dX12_readBit_213 ?_
                        refine gf_X12_178 hK (by decide) rfl (v := (g185_44 73) 34) (rd_ (sOf_eq _ _ _) ((fup_ne _ _ (by decide)).trans (fup_ne _ _ (by decide)))) dX12_readBit_214 ?_
                        have r49 := ty_73_34 (v := (g185_44 73) 34) hT_48 (rd_ (sOf_eq _ _ _) ((fup_ne _ _ (by decide)).trans (fup_ne _ _ (by decide))))
                        refine TT_iconst hK dX12_readBit_217 ?_
                        refine TT_isub hK dX12_readBit_218 ?_
                        refine pf_X12_178 hK (by decide) rfl dX12_readBit_219 ?_
                        refine TT_hp (h' := setO g185_44 73 (fup (fup (fup (g185_44 73) 32 (2 * ((w166_21 73) 32))) 33 x209_47) 34 (((g185_44 73) 34) - 1))) (up_can (sOf_eq _ _ _) rfl (setO_same _ _ _ _)) ?_
                        have hT_50 : TY (setO g185_44 73 (fup (fup (fup (g185_44 73) 32 (2 * ((w166_21 73) 32))) 33 x209_47) 34 (((g185_44 73) 34) - 1))) := tu_73_34 hT_48 (show up (setO g185_44 73 (fup (fup (g185_44 73) 32 (2 * ((w166_21 73) 32))) 33 x209_47)) 73 34 (((g185_44 73) 34) - 1) = (setO g185_44 73 (fup (fup (fup (g185_44 73) 32 (2 * ((w166_21 73) 32))) 33 x209_47) 34 (((g185_44 73) 34) - 1))) from up_can (sOf_eq _ _ _) rfl (setO_same _ _ _ _)) (by omega)
                        have hF_50 : FRM [73, 96, 97] [32, 33, 34, 39] h (setO g185_44 73 (fup (fup (fup (g185_44 73) 32 (2 * ((w166_21 73) 32))) 33 x209_47) 34 (((g185_44 73) 34) - 1))) := FRM_f (show up (setO g185_44 73 (fup (fup (g185_44 73) 32 (2 * ((w166_21 73) 32))) 33 x209_47)) 73 34 (((g185_44 73) 34) - 1) = (setO g185_44 73 (fup (fup (fup (g185_44 73) 32 (2 * ((w166_21 73) 32))) 33 x209_47) 34 (((g185_44 73) 34) - 1))) from up_can (sOf_eq _ _ _) rfl (setO_same _ _ _ _)) hF_48 (by decide) (by decide)
                        refine TT_goto hK (tgt := 166) dX12_readBit_222 (by decide) ?_
                        have e51_73_32 : (setO g185_44 73 (fup (fup (fup (g185_44 73) 32 (2 * ((w166_21 73) 32))) 33 x209_47) 34 (((g185_44 73) 34) - 1))) 73 32 = 2 * ((w166_21 73) 32) := rd_ (sOf_eq _ _ _) ((fup_ne _ _ (by decide)).trans ((fup_ne _ _ (by decide)).trans (fup_eq _ _ _)))
                        have e52_73_32 : (setO g185_44 73 (fup (fup (fup (g185_44 73) 32 (2 * ((w166_21 73) 32))) 33 x209_47) 34 (((g185_44 73) 34) - 1))) 73 32 = 2 * ((w166_21 73) 32) := rd_ (sOf_eq _ _ _) ((fup_ne _ _ (by decide)).trans ((fup_ne _ _ (by decide)).trans (fup_eq _ _ _)))
                        have e53_73_33 : (setO g185_44 73 (fup (fup (fup (g185_44 73) 32 (2 * ((w166_21 73) 32))) 33 x209_47) 34 (((g185_44 73) 34) - 1))) 73 33 = x209_47 := rd_ (sOf_eq _ _ _) ((fup_ne _ _ (by decide)).trans (fup_eq _ _ _))
                        have e54_73_34 : (setO g185_44 73 (fup (fup (fup (g185_44 73) 32 (2 * ((w166_21 73) 32))) 33 x209_47) 34 (((g185_44 73) 34) - 1))) 73 34 = ((g185_44 73) 34) - 1 := rd_ (sOf_eq _ _ _) (fup_eq _ _ _)
                        have e55_73_39 : (setO g185_44 73 (fup (fup (fup (g185_44 73) 32 (2 * ((w166_21 73) 32))) 33 x209_47) 34 (((g185_44 73) 34) - 1))) 73 39 = (g185_44 73) 39 := rd_ (sOf_eq _ _ _) ((fup_ne _ _ (by decide)).trans ((fup_ne _ _ (by decide)).trans (fup_ne _ _ (by decide))))
                        have e56_96 : (setO g185_44 73 (fup (fup (fup (g185_44 73) 32 (2 * ((w166_21 73) 32))) 33 x209_47) 34 (((g185_44 73) 34) - 1))) 96 = w166_21 96 := (sOf_ne _ _ (by decide)).trans (hG_44.1 96 (by decide))
                        have e57_97 : (setO g185_44 73 (fup (fup (fup (g185_44 73) 32 (2 * ((w166_21 73) 32))) 33 x209_47) 34 (((g185_44 73) 34) - 1))) 97 = w166_21 97 := (sOf_ne _ _ (by decide)).trans (hG_44.1 97 (by decide))
                        have e58_73_32 : (setO g185_44 73 (fup (fup (fup (g185_44 73) 32 (2 * ((w166_21 73) 32))) 33 x209_47) 34 (((g185_44 73) 34) - 1))) 73 32 = 2 * ((w166_21 73) 32) := rd_ (sOf_eq _ _ _) ((fup_ne _ _ (by decide)).trans ((fup_ne _ _ (by decide)).trans (fup_eq _ _ _)))
                        exact ih21 bt R9 (setO g185_44 73 (fup (fup (fup (g185_44 73) 32 (2 * ((w166_21 73) 32))) 33 x209_47) 34 (((g185_44 73) 34) - 1))) hT_50 hF_50 (by first | omega | (simp [up, setR] <;> omega)) (by rewrite [e51_73_32]; first | omega | (simp [up, setR] <;> omega)) (by rewrite [e52_73_32, e53_73_33, e54_73_34, e55_73_39]; intro hc9; obtain ⟨f, hf⟩ := hC hc9; have hb9 := RJC_b hf; cases f with | zero => exact absurd (RJ_z hf.1) (by omega) | succ f => first | exact ⟨f, RJC_next hf (by omega) (by omega) (by omega)⟩ | exact ⟨f, RJC_in hc9.2.1 hf (by omega) (by omega) (in_at185 (by omega)) (fun q => by omega)⟩) (by rewrite [e56_96, e57_97]; exact hR) (by rewrite [e58_73_32]; first | omega | (simp [up, setR] <;> omega))
                refine TT_sub [5, 6, 0] rfl ?_
                have e59_73_32 : g163_20 73 32 = ((h 73) 32) - (qS (h 96 x)) := (congrFun (hG_20.1 73 (by decide)) 32).trans (rd_ (sOf_eq _ _ _) ((fup_ne _ _ (by decide)).trans (fup_eq _ _ _)))
                have e60_73_32 : g163_20 73 32 = ((h 73) 32) - (qS (h 96 x)) := (congrFun (hG_20.1 73 (by decide)) 32).trans (rd_ (sOf_eq _ _ _) ((fup_ne _ _ (by decide)).trans (fup_eq _ _ _)))
                have e61_73_33 : g163_20 73 33 = x59_8 := (congrFun (hG_20.1 73 (by decide)) 33).trans (rd_ (sOf_eq _ _ _) (fup_eq _ _ _))
                have e62_73_34 : g163_20 73 34 = (h 73) 34 := (congrFun (hG_20.1 73 (by decide)) 34).trans (rd_ (sOf_eq _ _ _) ((fup_ne _ _ (by decide)).trans (fup_ne _ _ (by decide))))
                have e63_73_39 : g163_20 73 39 = (h 73) 39 := (congrFun (hG_20.1 73 (by decide)) 39).trans (rd_ (sOf_eq _ _ _) ((fup_ne _ _ (by decide)).trans (fup_ne _ _ (by decide))))
                exact L166_21 ((((65536 : Int) - (g163_20 73 32)).toNat) + 1) ((h 97) x) (rmS fxM (h 99) (h 73 38) 15 (((h 73) 32) - (qS (h 96 x))) x59_8 ((h 73) 34) ((h 73) 39)) g163_20 hT_20 hF_20 (by first | omega | (simp [up, setR] <;> omega)) (by rewrite [e59_73_32]; first | omega | (simp [up, setR] <;> omega)) (by rewrite [e60_73_32, e61_73_33, e62_73_34, e63_73_39]; intro hc9; obtain ⟨⟨u1, u2⟩, u3, u4⟩ := hc9; exact ⟨15, RJC_0 (RQ_rd (x := x) (st := h 96) (P := lwC (h 73 33) < qS (h 96 x)) u4 ha.1 hs (by first | exact (if_pos (by omega)).symm | exact (if_neg (by omega)).symm)) (by omega)⟩) (by intro hc9; obtain ⟨⟨u1, u2⟩, u3, u4⟩ := hc9; rw [l1_at163, l2_at163]; exact rdS_m (by omega) (by first | exact (if_pos (by omega)).symm | exact (if_neg (by omega)).symm) (by split <;> omega) (by omega) (by first | exact (if_pos (by omega)).symm | exact (if_neg (by omega)).symm)) (Nat.lt_succ_self _)
              · exact absurd hb144_16 (by decide)
            · exact absurd hb120_14 (by decide)
          · exact absurd hb98_13 (by decide)
        · have hb87_12 := lcmp_lt hb87_12
          refine TT_iconst hK dX12_readBit_90 ?_
          refine TT_goto hK (tgt := 95) dX12_readBit_91 (by decide) ?_
          refine TT_istore hK (lv' := [(4, vI 1), (3, vI 0), (2, vI (qS (h 96 x))), (0, vR 73), (1, vI x)]) (by decide) rfl dX12_readBit_95 ?_
          refine TT_iload_n hK rfl 1 rfl dX12_readBit_97 ?_
          refine TT_if_eq hK (tgt := 114) (by decide) dX12_readBit_98 (by decide) (fun hb98_64 => ?_) (fun hb98_64 => ?_)
          · refine TT_iload hK 0 rfl dX12_readBit_114 ?_
            refine TT_istore hK (lv' := [(5, vI 1), (4, vI 1), (3, vI 0), (2, vI (qS (h 96 x))), (0, vR 73), (1, vI x)]) (by decide) rfl dX12_readBit_116 ?_
            refine TT_iload hK 0 rfl dX12_readBit_118 ?_
            refine TT_if_eq hK (tgt := 134) (by decide) dX12_readBit_120 (by decide) (fun hb120_65 => ?_) (fun hb120_65 => ?_)
            · exact absurd hb120_65 (by decide)
            · refine TT_iconst hK dX12_readBit_123 ?_
              refine TT_aload_n hK rfl 4 rfl dX12_readBit_124 ?_
              refine gf_X12_87 hK (by decide) rfl (q := 97) rfl rfl dX12_readBit_125 ?_
              refine TT_iload_n hK rfl 5 rfl dX12_readBit_128 ?_
              refine TT_iald hK (o := 97) (n := 19) (by decide) rfl (by first | omega | (simp [up, setR] <;> omega)) (by first | omega | (simp [up, setR] <;> omega)) (v := (h 97) x) (rd_ (sOf_ne _ _ (by decide)) rfl) dX12_readBit_129 ?_
              have r66 := ty_97 (i := x) (v := (h 97) x) hT_9 (rd_ (sOf_ne _ _ (by decide)) rfl) (by omega) (by omega)
              refine TT_isub hK dX12_readBit_130 ?_
              refine TT_goto hK (tgt := 140) dX12_readBit_131 (by decide) ?_
              refine TT_istore hK (lv' := [(6, vI (1 - ((h 97) x))), (5, vI 1), (4, vI 1), (3, vI 0), (2, vI (qS (h 96 x))), (0, vR 73), (1, vI x)]) (by decide) rfl dX12_readBit_140 ?_
              refine TT_aload_n hK rfl 5 rfl dX12_readBit_142 ?_
              refine TT_iload_n hK rfl 3 rfl dX12_readBit_143 ?_
              refine TT_if_eq hK (tgt := 152) (by decide) dX12_readBit_144 (by decide) (fun hb144_67 => ?_) (fun hb144_67 => ?_)
              · refine TT_aload_n hK rfl 5 rfl dX12_readBit_152 ?_
                refine gf_X12_171 hK (by decide) rfl (v := ((h 73) 32) - (qS (h 96 x))) (rd_ (sOf_eq _ _ _) ((fup_ne _ _ (by decide)).trans (fup_eq _ _ _))) dX12_readBit_153 ?_
                refine pf_X12_171 hK (by decide) rfl dX12_readBit_156 ?_
                refine TT_hp (h' := setO h 73 (fup (fup (h 73) 32 (((h 73) 32) - (qS (h 96 x)))) 33 x59_8)) (up_can (sOf_eq _ _ _) ((fup_comm _ _ _ (by decide)).trans (fup_cg (fup_same _ _ _ _))) (setO_same _ _ _ _)) ?_
                have hT_68 : TY (setO h 73 (fup (fup (h 73) 32 (((h 73) 32) - (qS (h 96 x)))) 33 x59_8)) := tu_73_32 hT_9 (show up (setO h 73 (fup (fup (h 73) 32 (((h 73) 32) - (qS (h 96 x)))) 33 x59_8)) 73 32 (((h 73) 32) - (qS (h 96 x))) = (setO h 73 (fup (fup (h 73) 32 (((h 73) 32) - (qS (h 96 x)))) 33 x59_8)) from up_can (sOf_eq _ _ _) ((fup_comm _ _ _ (by decide)).trans (fup_cg (fup_same _ _ _ _))) (setO_same _ _ _ _)) (by omega)
                have hF_68 : FRM [73, 96, 97] [32, 33, 34, 39] h (setO h 73 (fup (fup (h 73) 32 (((h 73) 32) - (qS (h 96 x)))) 33 x59_8)) := FRM_f (show up (setO h 73 (fup (fup (h 73) 32 (((h 73) 32) - (qS (h 96 x)))) 33 x59_8)) 73 32 (((h 73) 32) - (qS (h 96 x))) = (setO h 73 (fup (fup (h 73) 32 (((h 73) 32) - (qS (h 96 x)))) 33 x59_8)) from up_can (sOf_eq _ _ _) ((fup_comm _ _ _ (by decide)).trans (fup_cg (fup_same _ _ _ _))) (setO_same _ _ _ _)) hF_9 (by decide) (by decide)
                refine TT_aload_n hK rfl 5 rfl dX12_readBit_159 ?_
                refine TT_iload_n hK rfl 6 rfl dX12_readBit_160 ?_
                refine TT_iload hK 1 rfl dX12_readBit_161 ?_
                have e69_74 : (setO h 73 (fup (fup (h 73) 32 (((h 73) 32) - (qS (h 96 x)))) 33 x59_8)) 74 = h 74 := sOf_ne _ _ (by decide)
                have e70_75 : (setO h 73 (fup (fup (h 73) 32 (((h 73) 32) - (qS (h 96 x)))) 33 x59_8)) 75 = h 75 := sOf_ne _ _ (by decide)
                refine iv_X12_189 hK (s_learn_e x 1 (setO h 73 (fup (fup (h 73) 32 (((h 73) 32) - (qS (h 96 x)))) 33 x59_8)) hT_68 (by first | omega | (simp [up, setR] <;> omega)) (by first | omega | (simp [up, setR] <;> omega)) (by rewrite [e69_74, e70_75]; first | assumption | exact htb)) (by decide) rfl ⟨by decide, by decide⟩ (by decide) rfl rfl (Nat.le_of_ble_eq_true rfl) ⟨by decide, by decide⟩ dX12_readBit_163 ?_
                intro r9 g163_71 hp9
                obtain ⟨⟨hT_71, hG_71⟩, hr9, p1_71, l1_71, l2_71⟩ := hp9
                rw [hr9]
                have hF_71 : FRM [73, 96, 97] [32, 33, 34, 39] h g163_71 := FRM_tr hF_68 hG_71 (by decide) (by decide)
                rw [show (setO h 73 (fup (fup (h 73) 32 (((h 73) 32) - (qS (h 96 x)))) 33 x59_8)) 75 = h 75 from sOf_ne _ _ (by decide)] at p1_71
                rw [show (setO h 73 (fup (fup (h 73) 32 (((h 73) 32) - (qS (h 96 x)))) 33 x59_8)) 96 = h 96 from sOf_ne _ _ (by decide)] at p1_71
                rw [show (setO h 73 (fup (fup (h 73) 32 (((h 73) 32) - (qS (h 96 x)))) 33 x59_8)) 96 = h 96 from sOf_ne _ _ (by decide)] at l1_71
                rw [show (setO h 73 (fup (fup (h 73) 32 (((h 73) 32) - (qS (h 96 x)))) 33 x59_8)) 96 = h 96 from sOf_ne _ _ (by decide)] at l2_71
                rw [show (setO h 73 (fup (fup (h 73) 32 (((h 73) 32) - (qS (h 96 x)))) 33 x59_8)) 97 = h 97 from sOf_ne _ _ (by decide)] at l2_71
                have l1_at163 := l1_71
                have l2_at163 := l2_71
                show TT K ly 0 0 166 [(6, vI (1 - ((h 97) x))), (5, vI 1), (4, vI 1), (3, vI 0), (2, vI (qS (h 96 x))), (0, vR 73), (1, vI x)] [] g163_71
                have L166_72 : ∀ (k72 : Nat) (bt : Int) (R9 : Int × Int × Int × Int) (w166_72 : Hp_), TY w166_72 → FRM [73, 96, 97] [32, 33, 34, 39] h w166_72 → (0 ≤ bt ∧ bt ≤ 1) → (1 ≤ (w166_72 73 32) ∧ (w166_72 73 32) < 65536) → ((0 ≤ (h 73 33) ∧ (h 73 33) < 1099511627776) ∧ SRB (h 99) (h 73 38) ∧ RQ_ (h 73 38) (h 73 32) (h 73 34) (h 73 39) → ∃ f, RJC (h 99) (h 73 38) f (w166_72 73 32) (w166_72 73 33) (w166_72 73 34) (w166_72 73 39) R9) → ((0 ≤ (h 73 33) ∧ (h 73 33) < 1099511627776) ∧ SRB (h 99) (h 73 38) ∧ RQ_ (h 73 38) (h 73 32) (h 73 34) (h 73 39) → rdS lwC fxM (h 99) (h 73 38) ((h 73 32), (h 73 33), (h 73 34), (h 73 39), (h 96), (h 97)) x = (bt, R9.1, R9.2.1, R9.2.2.1, R9.2.2.2, (w166_72 96), (w166_72 97))) → ((65536 : Int) - (w166_72 73 32)).toNat < k72 → TT K ly 0 0 166 [(0, vR 73), (1, vI x), (6, vI bt)] [] w166_72 := by
                  intro k72
                  induction k72 with
                  | zero => intro bt R9 w166_72 hT166_72 hF166_72 hbt ha1 hC hR hk72; exact absurd hk72 (Nat.not_lt_zero _)
                  | succ k72 ih72 =>
                    intro bt R9 w166_72 hT166_72 hF166_72 hbt ha1 hC hR hk72
                    refine TT_aload_n hK rfl 0 rfl dX12_readBit_166 ?_
                    refine gf_X12_171 hK (by decide) rfl (v := (w166_72 73) 32) rfl dX12_readBit_167 ?_
                    have r73 := ty_73_32 (v := (w166_72 73) 32) hT166_72 rfl
                    refine TT_ldc2 hK lc_X12_169 dX12_readBit_170 ?_
                    refine TT_lcmp hK (lrm (by omega) (by omega)) (by decide) dX12_readBit_173 ?_
                    refine TT_if_ge hK (tgt := 225) (lcmp_ir _ _) dX12_readBit_174 (by decide) (fun hb174_74 => ?_) (fun hb174_74 => ?_)
                    · have hb174_74 := lcmp_ge hb174_74
                      refine TT_iload hK 2 rfl dX12_readBit_225 ?_
                      refine TT_iret hK hQ ?_ dX12_readBit_227
                      have e75_73_32 : w166_72 73 32 = (w166_72 73) 32 := rfl
                      have e76_73_32 : w166_72 73 32 = (w166_72 73) 32 := rfl
                      have e77_73_33 : w166_72 73 33 = (w166_72 73) 33 := rfl
                      have e78_73_34 : w166_72 73 34 = (w166_72 73) 34 := rfl
                      have e79_73_39 : w166_72 73 39 = (w166_72 73) 39 := rfl
                      exact ⟨⟨hT166_72, hF166_72⟩, bt, rfl, (by omega), (by rewrite [e75_73_32]; omega), (by rewrite [e76_73_32, e77_73_33, e78_73_34, e79_73_39]; intro hc9; first | (obtain ⟨⟨u1, u2⟩, u3, u4, u5, u6, u7, u8, u9⟩ := hc9; exact ⟨rdS_1q (by omega) (by omega) (by omega) (by omega), ⟨by omega, by omega, by omega, by omega, by omega, by omega⟩, by omega⟩) | (obtain ⟨f, hf⟩ := hC hc9; have hd := RJ_done hf.1 (by omega); exact ⟨by rw [hR hc9, ← hd], hf.1.2.2, hf.2.1⟩))⟩
                    · have hb174_74 := lcmp_lt hb174_74
                      refine TT_aload_n hK rfl 0 rfl dX12_readBit_177 ?_
                      refine gf_X12_178 hK (by decide) rfl (v := (w166_72 73) 34) rfl dX12_readBit_178 ?_
                      have r80 := ty_73_34 (v := (w166_72 73) 34) hT166_72 rfl
                      refine TT_if_ne hK (tgt := 188) (irm (by omega) (by omega)) dX12_readBit_181 (by decide) (fun hb181_81 => ?_) (fun hb181_81 => ?_)
                      · refine TT_aload_n hK rfl 0 rfl dX12_readBit_188 ?_
                        refine TT_ldc2 hK lc_X12_193 dX12_readBit_189 ?_
                        refine TT_aload_n hK rfl 0 rfl dX12_readBit_192 ?_
                        refine gf_X12_171 hK (by decide) rfl (v := (w166_72 73) 32) rfl dX12_readBit_193 ?_
                        refine TT_lmul hK dX12_readBit_196 ?_
                        refine pf_X12_171 hK (by decide) rfl dX12_readBit_197 ?_
                        refine TT_hp (h' := setO w166_72 73 (fup (w166_72 73) 32 (2 * ((w166_72 73) 32)))) (up_can rfl rfl rfl) ?_
                        have hT_82 : TY (setO w166_72 73 (fup (w166_72 73) 32 (2 * ((w166_72 73) 32)))) := tu_73_32 hT166_72 (show up w166_72 73 32 (2 * ((w166_72 73) 32)) = (setO w166_72 73 (fup (w166_72 73) 32 (2 * ((w166_72 73) 32)))) from up_can rfl rfl rfl) (by omega)
                        have hF_82 : FRM [73, 96, 97] [32, 33, 34, 39] h (setO w166_72 73 (fup (w166_72 73) 32 (2 * ((w166_72 73) 32)))) := FRM_f (show up w166_72 73 32 (2 * ((w166_72 73) 32)) = (setO w166_72 73 (fup (w166_72 73) 32 (2 * ((w166_72 73) 32)))) from up_can rfl rfl rfl) hF166_72 (by decide) (by decide)
                        refine TT_aload_n hK rfl 0 rfl dX12_readBit_200 ?_
                        refine TT_ldc2 hK lc_X12_193 dX12_readBit_201 ?_
                        refine TT_aload_n hK rfl 0 rfl dX12_readBit_204 ?_
                        refine gf_X12_175 hK (by decide) rfl (v := (w166_72 73) 33) (rd_ (sOf_eq _ _ _) (fup_ne _ _ (by decide))) dX12_readBit_205 ?_
                        have r83 := ty_73_33 (v := (w166_72 73) 33) hT_82 (rd_ (sOf_eq _ _ _) (fup_ne _ _ (by decide)))
                        refine TT_lmul hK dX12_readBit_208 ?_
                        refine TT_w64g (fun x209_84 hx84 hy209_84 => ?_)
                        refine pf_X12_175 hK (by decide) rfl dX12_readBit_209 ?_
                        refine TT_hp (h' := setO w166_72 73 (fup (fup (w166_72 73) 32 (2 * ((w166_72 73) 32))) 33 x209_84)) (up_can (sOf_eq _ _ _) rfl (setO_same _ _ _ _)) ?_
                        have hT_85 : TY (setO w166_72 73 (fup (fup (w166_72 73) 32 (2 * ((w166_72 73) 32))) 33 x209_84)) := tu_73_33 hT_82 (show up (setO w166_72 73 (fup (w166_72 73) 32 (2 * ((w166_72 73) 32)))) 73 33 x209_84 = (setO w166_72 73 (fup (fup (w166_72 73) 32 (2 * ((w166_72 73) 32))) 33 x209_84)) from up_can (sOf_eq _ _ _) rfl (setO_same _ _ _ _)) (by omega)
                        have hF_85 : FRM [73, 96, 97] [32, 33, 34, 39] h (setO w166_72 73 (fup (fup (w166_72 73) 32 (2 * ((w166_72 73) 32))) 33 x209_84)) := FRM_f (show up (setO w166_72 73 (fup (w166_72 73) 32 (2 * ((w166_72 73) 32)))) 73 33 x209_84 = (setO w166_72 73 (fup (fup (w166_72 73) 32 (2 * ((w166_72 73) 32))) 33 x209_84)) from up_can (sOf_eq _ _ _) rfl (setO_same _ _ _ _)) hF_82 (by decide) (by decide)
                        refine TT_aload_n hK rfl 0 rfl dX12_readBit_212 ?_
                        refine TT_dup hK rfl dX12_readBit_213 ?_
                        refine gf_X12_178 hK (by decide) rfl (v := (w166_72 73) 34) (rd_ (sOf_eq _ _ _) ((fup_ne _ _ (by decide)).trans (fup_ne _ _ (by decide)))) dX12_readBit_214 ?_
                        refine TT_iconst hK dX12_readBit_217 ?_
                        refine TT_isub hK dX12_readBit_218 ?_
                        refine pf_X12_178 hK (by decide) rfl dX12_readBit_219 ?_
                        refine TT_hp (h' := setO w166_72 73 (fup (fup (fup (w166_72 73) 32 (2 * ((w166_72 73) 32))) 33 x209_84) 34 (((w166_72 73) 34) - 1))) (up_can (sOf_eq _ _ _) rfl (setO_same _ _ _ _)) ?_
                        have hT_86 : TY (setO w166_72 73 (fup (fup (fup (w166_72 73) 32 (2 * ((w166_72 73) 32))) 33 x209_84) 34 (((w166_72 73) 34) - 1))) := tu_73_34 hT_85 (show up (setO w166_72 73 (fup (fup (w166_72 73) 32 (2 * ((w166_72 73) 32))) 33 x209_84)) 73 34 (((w166_72 73) 34) - 1) = (setO w166_72 73 (fup (fup (fup (w166_72 73) 32 (2 * ((w166_72 73) 32))) 33 x209_84) 34 (((w166_72 73) 34) - 1))) from up_can (sOf_eq _ _ _) rfl (setO_same _ _ _ _)) (by omega)
                        have hF_86 : FRM [73, 96, 97] [32, 33, 34, 39] h (setO w166_72 73 (fup (fup (fup (w166_72 73) 32 (2 * ((w166_72 73) 32))) 33 x209_84) 34 (((w166_72 73) 34) - 1))) := FRM_f (show up (setO w166_72 73 (fup (fup (w166_72 73) 32 (2 * ((w166_72 73) 32))) 33 x209_84)) 73 34 (((w166_72 73) 34) - 1) = (setO w166_72 73 (fup (fup (fup (w166_72 73) 32 (2 * ((w166_72 73) 32))) 33 x209_84) 34 (((w166_72 73) 34) - 1))) from up_can (sOf_eq _ _ _) rfl (setO_same _ _ _ _)) hF_85 (by decide) (by decide)
                        refine TT_goto hK (tgt := 166) dX12_readBit_222 (by decide) ?_
                        have e87_73_32 : (setO w166_72 73 (fup (fup (fup (w166_72 73) 32 (2 * ((w166_72 73) 32))) 33 x209_84) 34 (((w166_72 73) 34) - 1))) 73 32 = 2 * ((w166_72 73) 32) := rd_ (sOf_eq _ _ _) ((fup_ne _ _ (by decide)).trans ((fup_ne _ _ (by decide)).trans (fup_eq _ _ _)))
                        have e88_73_32 : (setO w166_72 73 (fup (fup (fup (w166_72 73) 32 (2 * ((w166_72 73) 32))) 33 x209_84) 34 (((w166_72 73) 34) - 1))) 73 32 = 2 * ((w166_72 73) 32) := rd_ (sOf_eq _ _ _) ((fup_ne _ _ (by decide)).trans ((fup_ne _ _ (by decide)).trans (fup_eq _ _ _)))
                        have e89_73_33 : (setO w166_72 73 (fup (fup (fup (w166_72 73) 32 (2 * ((w166_72 73) 32))) 33 x209_84) 34 (((w166_72 73) 34) - 1))) 73 33 = x209_84 := rd_ (sOf_eq _ _ _) ((fup_ne _ _ (by decide)).trans (fup_eq _ _ _))
                        have e90_73_34 : (setO w166_72 73 (fup (fup (fup (w166_72 73) 32 (2 * ((w166_72 73) 32))) 33 x209_84) 34 (((w166_72 73) 34) - 1))) 73 34 = ((w166_72 73) 34) - 1 := rd_ (sOf_eq _ _ _) (fup_eq _ _ _)
                        have e91_73_39 : (setO w166_72 73 (fup (fup (fup (w166_72 73) 32 (2 * ((w166_72 73) 32))) 33 x209_84) 34 (((w166_72 73) 34) - 1))) 73 39 = (w166_72 73) 39 := rd_ (sOf_eq _ _ _) ((fup_ne _ _ (by decide)).trans ((fup_ne _ _ (by decide)).trans (fup_ne _ _ (by decide))))
                        have e92_96 : (setO w166_72 73 (fup (fup (fup (w166_72 73) 32 (2 * ((w166_72 73) 32))) 33 x209_84) 34 (((w166_72 73) 34) - 1))) 96 = w166_72 96 := sOf_ne _ _ (by decide)
                        have e93_97 : (setO w166_72 73 (fup (fup (fup (w166_72 73) 32 (2 * ((w166_72 73) 32))) 33 x209_84) 34 (((w166_72 73) 34) - 1))) 97 = w166_72 97 := sOf_ne _ _ (by decide)
                        have e94_73_32 : (setO w166_72 73 (fup (fup (fup (w166_72 73) 32 (2 * ((w166_72 73) 32))) 33 x209_84) 34 (((w166_72 73) 34) - 1))) 73 32 = 2 * ((w166_72 73) 32) := rd_ (sOf_eq _ _ _) ((fup_ne _ _ (by decide)).trans ((fup_ne _ _ (by decide)).trans (fup_eq _ _ _)))
                        exact ih72 bt R9 (setO w166_72 73 (fup (fup (fup (w166_72 73) 32 (2 * ((w166_72 73) 32))) 33 x209_84) 34 (((w166_72 73) 34) - 1))) hT_86 hF_86 (by first | omega | (simp [up, setR] <;> omega)) (by rewrite [e87_73_32]; first | omega | (simp [up, setR] <;> omega)) (by rewrite [e88_73_32, e89_73_33, e90_73_34, e91_73_39]; intro hc9; obtain ⟨f, hf⟩ := hC hc9; have hb9 := RJC_b hf; cases f with | zero => exact absurd (RJ_z hf.1) (by omega) | succ f => first | exact ⟨f, RJC_next hf (by omega) (by omega) (by omega)⟩ | exact ⟨f, RJC_in hc9.2.1 hf (by omega) (by omega) (in_at185 (by omega)) (fun q => by omega)⟩) (by rewrite [e92_96, e93_97]; exact hR) (by rewrite [e94_73_32]; first | omega | (simp [up, setR] <;> omega))
                      · refine TT_aload_n hK rfl 0 rfl dX12_readBit_184 ?_
                        refine iv_X12_216 hK (s_takeIn_e w166_72 hT166_72 ) (by decide) rfl ⟨by decide, by decide⟩ (by decide) rfl rfl (Nat.le_of_ble_eq_true rfl) ⟨by decide, by decide⟩ dX12_readBit_185 ?_
                        intro r9 g185_95 hp9
                        obtain ⟨⟨hT_95, hG_95⟩, hr9, p1_95, in_95⟩ := hp9
                        rw [hr9]
                        have hF_95 : FRM [73, 96, 97] [32, 33, 34, 39] h g185_95 := FRM_tr hF166_72 hG_95 (by decide) (by decide)
                        rw [show w166_72 73 33 = (w166_72 73) 33 from rfl] at in_95
                        rw [show w166_72 73 38 = (h 73) 38 from (hF166_72.2 38 (by decide))] at in_95
                        rw [show w166_72 73 39 = (w166_72 73) 39 from rfl] at in_95
                        rw [show w166_72 99 = h 99 from (hF166_72.1 99 (by decide))] at in_95
                        have in_at185 := in_95
                        show TT K ly 0 0 188 [(0, vR 73), (1, vI x), (6, vI bt)] [] g185_95
                        refine TT_aload_n hK rfl 0 rfl dX12_readBit_188 ?_
                        refine TT_ldc2 hK lc_X12_193 dX12_readBit_189 ?_
                        refine TT_aload_n hK rfl 0 rfl dX12_readBit_192 ?_
                        refine gf_X12_171 hK (by decide) rfl (v := (w166_72 73) 32) (hG_95.2 32 (by decide)) dX12_readBit_193 ?_
                        refine TT_lmul hK dX12_readBit_196 ?_
                        refine pf_X12_171 hK (by decide) rfl dX12_readBit_197 ?_
                        refine TT_hp (h' := setO g185_95 73 (fup (g185_95 73) 32 (2 * ((w166_72 73) 32)))) (up_can rfl rfl rfl) ?_
                        have hT_96 : TY (setO g185_95 73 (fup (g185_95 73) 32 (2 * ((w166_72 73) 32)))) := tu_73_32 hT_95 (show up g185_95 73 32 (2 * ((w166_72 73) 32)) = (setO g185_95 73 (fup (g185_95 73) 32 (2 * ((w166_72 73) 32)))) from up_can rfl rfl rfl) (by omega)
                        have hF_96 : FRM [73, 96, 97] [32, 33, 34, 39] h (setO g185_95 73 (fup (g185_95 73) 32 (2 * ((w166_72 73) 32)))) := FRM_f (show up g185_95 73 32 (2 * ((w166_72 73) 32)) = (setO g185_95 73 (fup (g185_95 73) 32 (2 * ((w166_72 73) 32)))) from up_can rfl rfl rfl) hF_95 (by decide) (by decide)
                        refine TT_aload_n hK rfl 0 rfl dX12_readBit_200 ?_
                        refine TT_ldc2 hK lc_X12_193 dX12_readBit_201 ?_
                        refine TT_aload_n hK rfl 0 rfl dX12_readBit_204 ?_
                        refine gf_X12_175 hK (by decide) rfl (v := (g185_95 73) 33) (rd_ (sOf_eq _ _ _) (fup_ne _ _ (by decide))) dX12_readBit_205 ?_
                        have r97 := ty_73_33 (v := (g185_95 73) 33) hT_96 (rd_ (sOf_eq _ _ _) (fup_ne _ _ (by decide)))
                        refine TT_lmul hK dX12_readBit_208 ?_
                        refine TT_w64g (fun x209_98 hx98 hy209_98 => ?_)
                        refine pf_X12_175 hK (by decide) rfl dX12_readBit_209 ?_
                        refine TT_hp (h' := setO g185_95 73 (fup (fup (g185_95 73) 32 (2 * ((w166_72 73) 32))) 33 x209_98)) (up_can (sOf_eq _ _ _) rfl (setO_same _ _ _ _)) ?_
                        have hT_99 : TY (setO g185_95 73 (fup (fup (g185_95 73) 32 (2 * ((w166_72 73) 32))) 33 x209_98)) := tu_73_33 hT_96 (show up (setO g185_95 73 (fup (g185_95 73) 32 (2 * ((w166_72 73) 32)))) 73 33 x209_98 = (setO g185_95 73 (fup (fup (g185_95 73) 32 (2 * ((w166_72 73) 32))) 33 x209_98)) from up_can (sOf_eq _ _ _) rfl (setO_same _ _ _ _)) (by omega)
                        have hF_99 : FRM [73, 96, 97] [32, 33, 34, 39] h (setO g185_95 73 (fup (fup (g185_95 73) 32 (2 * ((w166_72 73) 32))) 33 x209_98)) := FRM_f (show up (setO g185_95 73 (fup (g185_95 73) 32 (2 * ((w166_72 73) 32)))) 73 33 x209_98 = (setO g185_95 73 (fup (fup (g185_95 73) 32 (2 * ((w166_72 73) 32))) 33 x209_98)) from up_can (sOf_eq _ _ _) rfl (setO_same _ _ _ _)) hF_96 (by decide) (by decide)
                        refine TT_aload_n hK rfl 0 rfl dX12_readBit_212 ?_
                        refine TT_dup hK rfl dX12_readBit_213 ?_
                        refine gf_X12_178 hK (by decide) rfl (v := (g185_95 73) 34) (rd_ (sOf_eq _ _ _) ((fup_ne _ _ (by decide)).trans (fup_ne _ _ (by decide)))) dX12_readBit_214 ?_
                        have r100 := ty_73_34 (v := (g185_95 73) 34) hT_99 (rd_ (sOf_eq _ _ _) ((fup_ne _ _ (by decide)).trans (fup_ne _ _ (by decide))))
                        refine TT_iconst hK dX12_readBit_217 ?_
                        refine TT_isub hK dX12_readBit_218 ?_
                        refine pf_X12_178 hK (by decide) rfl dX12_readBit_219 ?_
                        refine TT_hp (h' := setO g185_95 73 (fup (fup (fup (g185_95 73) 32 (2 * ((w166_72 73) 32))) 33 x209_98) 34 (((g185_95 73) 34) - 1))) (up_can (sOf_eq _ _ _) rfl (setO_same _ _ _ _)) ?_
                        have hT_101 : TY (setO g185_95 73 (fup (fup (fup (g185_95 73) 32 (2 * ((w166_72 73) 32))) 33 x209_98) 34 (((g185_95 73) 34) - 1))) := tu_73_34 hT_99 (show up (setO g185_95 73 (fup (fup (g185_95 73) 32 (2 * ((w166_72 73) 32))) 33 x209_98)) 73 34 (((g185_95 73) 34) - 1) = (setO g185_95 73 (fup (fup (fup (g185_95 73) 32 (2 * ((w166_72 73) 32))) 33 x209_98) 34 (((g185_95 73) 34) - 1))) from up_can (sOf_eq _ _ _) rfl (setO_same _ _ _ _)) (by omega)
                        have hF_101 : FRM [73, 96, 97] [32, 33, 34, 39] h (setO g185_95 73 (fup (fup (fup (g185_95 73) 32 (2 * ((w166_72 73) 32))) 33 x209_98) 34 (((g185_95 73) 34) - 1))) := FRM_f (show up (setO g185_95 73 (fup (fup (g185_95 73) 32 (2 * ((w166_72 73) 32))) 33 x209_98)) 73 34 (((g185_95 73) 34) - 1) = (setO g185_95 73 (fup (fup (fup (g185_95 73) 32 (2 * ((w166_72 73) 32))) 33 x209_98) 34 (((g185_95 73) 34) - 1))) from up_can (sOf_eq _ _ _) rfl (setO_same _ _ _ _)) hF_99 (by decide) (by decide)
                        refine TT_goto hK (tgt := 166) dX12_readBit_222 (by decide) ?_
                        have e102_73_32 : (setO g185_95 73 (fup (fup (fup (g185_95 73) 32 (2 * ((w166_72 73) 32))) 33 x209_98) 34 (((g185_95 73) 34) - 1))) 73 32 = 2 * ((w166_72 73) 32) := rd_ (sOf_eq _ _ _) ((fup_ne _ _ (by decide)).trans ((fup_ne _ _ (by decide)).trans (fup_eq _ _ _)))
                        have e103_73_32 : (setO g185_95 73 (fup (fup (fup (g185_95 73) 32 (2 * ((w166_72 73) 32))) 33 x209_98) 34 (((g185_95 73) 34) - 1))) 73 32 = 2 * ((w166_72 73) 32) := rd_ (sOf_eq _ _ _) ((fup_ne _ _ (by decide)).trans ((fup_ne _ _ (by decide)).trans (fup_eq _ _ _)))
                        have e104_73_33 : (setO g185_95 73 (fup (fup (fup (g185_95 73) 32 (2 * ((w166_72 73) 32))) 33 x209_98) 34 (((g185_95 73) 34) - 1))) 73 33 = x209_98 := rd_ (sOf_eq _ _ _) ((fup_ne _ _ (by decide)).trans (fup_eq _ _ _))
                        have e105_73_34 : (setO g185_95 73 (fup (fup (fup (g185_95 73) 32 (2 * ((w166_72 73) 32))) 33 x209_98) 34 (((g185_95 73) 34) - 1))) 73 34 = ((g185_95 73) 34) - 1 := rd_ (sOf_eq _ _ _) (fup_eq _ _ _)
                        have e106_73_39 : (setO g185_95 73 (fup (fup (fup (g185_95 73) 32 (2 * ((w166_72 73) 32))) 33 x209_98) 34 (((g185_95 73) 34) - 1))) 73 39 = (g185_95 73) 39 := rd_ (sOf_eq _ _ _) ((fup_ne _ _ (by decide)).trans ((fup_ne _ _ (by decide)).trans (fup_ne _ _ (by decide))))
                        have e107_96 : (setO g185_95 73 (fup (fup (fup (g185_95 73) 32 (2 * ((w166_72 73) 32))) 33 x209_98) 34 (((g185_95 73) 34) - 1))) 96 = w166_72 96 := (sOf_ne _ _ (by decide)).trans (hG_95.1 96 (by decide))
                        have e108_97 : (setO g185_95 73 (fup (fup (fup (g185_95 73) 32 (2 * ((w166_72 73) 32))) 33 x209_98) 34 (((g185_95 73) 34) - 1))) 97 = w166_72 97 := (sOf_ne _ _ (by decide)).trans (hG_95.1 97 (by decide))
                        have e109_73_32 : (setO g185_95 73 (fup (fup (fup (g185_95 73) 32 (2 * ((w166_72 73) 32))) 33 x209_98) 34 (((g185_95 73) 34) - 1))) 73 32 = 2 * ((w166_72 73) 32) := rd_ (sOf_eq _ _ _) ((fup_ne _ _ (by decide)).trans ((fup_ne _ _ (by decide)).trans (fup_eq _ _ _)))
                        exact ih72 bt R9 (setO g185_95 73 (fup (fup (fup (g185_95 73) 32 (2 * ((w166_72 73) 32))) 33 x209_98) 34 (((g185_95 73) 34) - 1))) hT_101 hF_101 (by first | omega | (simp [up, setR] <;> omega)) (by rewrite [e102_73_32]; first | omega | (simp [up, setR] <;> omega)) (by rewrite [e103_73_32, e104_73_33, e105_73_34, e106_73_39]; intro hc9; obtain ⟨f, hf⟩ := hC hc9; have hb9 := RJC_b hf; cases f with | zero => exact absurd (RJ_z hf.1) (by omega) | succ f => first | exact ⟨f, RJC_next hf (by omega) (by omega) (by omega)⟩ | exact ⟨f, RJC_in hc9.2.1 hf (by omega) (by omega) (in_at185 (by omega)) (fun q => by omega)⟩) (by rewrite [e107_96, e108_97]; exact hR) (by rewrite [e109_73_32]; first | omega | (simp [up, setR] <;> omega))
                refine TT_sub [5, 6, 0] rfl ?_
                have e110_73_32 : g163_71 73 32 = ((h 73) 32) - (qS (h 96 x)) := (congrFun (hG_71.1 73 (by decide)) 32).trans (rd_ (sOf_eq _ _ _) ((fup_ne _ _ (by decide)).trans (fup_eq _ _ _)))
                have e111_73_32 : g163_71 73 32 = ((h 73) 32) - (qS (h 96 x)) := (congrFun (hG_71.1 73 (by decide)) 32).trans (rd_ (sOf_eq _ _ _) ((fup_ne _ _ (by decide)).trans (fup_eq _ _ _)))
                have e112_73_33 : g163_71 73 33 = x59_8 := (congrFun (hG_71.1 73 (by decide)) 33).trans (rd_ (sOf_eq _ _ _) (fup_eq _ _ _))
                have e113_73_34 : g163_71 73 34 = (h 73) 34 := (congrFun (hG_71.1 73 (by decide)) 34).trans (rd_ (sOf_eq _ _ _) ((fup_ne _ _ (by decide)).trans (fup_ne _ _ (by decide))))
                have e114_73_39 : g163_71 73 39 = (h 73) 39 := (congrFun (hG_71.1 73 (by decide)) 39).trans (rd_ (sOf_eq _ _ _) ((fup_ne _ _ (by decide)).trans (fup_ne _ _ (by decide))))
                exact L166_72 ((((65536 : Int) - (g163_71 73 32)).toNat) + 1) (1 - ((h 97) x)) (rmS fxM (h 99) (h 73 38) 15 (((h 73) 32) - (qS (h 96 x))) x59_8 ((h 73) 34) ((h 73) 39)) g163_71 hT_71 hF_71 (by first | omega | (simp [up, setR] <;> omega)) (by rewrite [e110_73_32]; first | omega | (simp [up, setR] <;> omega)) (by rewrite [e111_73_32, e112_73_33, e113_73_34, e114_73_39]; intro hc9; obtain ⟨⟨u1, u2⟩, u3, u4⟩ := hc9; exact ⟨15, RJC_0 (RQ_rd (x := x) (st := h 96) (P := lwC (h 73 33) < qS (h 96 x)) u4 ha.1 hs (by first | exact (if_pos (by omega)).symm | exact (if_neg (by omega)).symm)) (by omega)⟩) (by intro hc9; obtain ⟨⟨u1, u2⟩, u3, u4⟩ := hc9; rw [l1_at163, l2_at163]; exact rdS_m (by omega) (by first | exact (if_pos (by omega)).symm | exact (if_neg (by omega)).symm) (by split <;> omega) (by omega) (by first | exact (if_pos (by omega)).symm | exact (if_neg (by omega)).symm)) (Nat.lt_succ_self _)
              · exact absurd hb144_67 (by decide)
          · exact absurd hb98_64 (by decide)
      · have hb70_11 := lcmp_ge hb70_11
        refine TT_aload_n hK rfl 2 rfl dX12_readBit_73 ?_
        refine gf_X12_87 hK (by decide) rfl (q := 97) rfl rfl dX12_readBit_74 ?_
        refine TT_iload_n hK rfl 3 rfl dX12_readBit_77 ?_
        refine TT_iald hK (o := 97) (n := 19) (by decide) rfl (by first | omega | (simp [up, setR] <;> omega)) (by first | omega | (simp [up, setR] <;> omega)) (v := (h 97) x) (rd_ (sOf_ne _ _ (by decide)) rfl) dX12_readBit_78 ?_
        have r115 := ty_97 (i := x) (v := (h 97) x) hT_9 (rd_ (sOf_ne _ _ (by decide)) rfl) (by omega) (by omega)
        refine TT_iret hK hQ ?_ dX12_readBit_79
        have e116_73_32 : (setO h 73 (fup (fup (h 73) 32 (((h 73) 32) - (qS (h 96 x)))) 33 x59_8)) 73 32 = ((h 73) 32) - (qS (h 96 x)) := rd_ (sOf_eq _ _ _) ((fup_ne _ _ (by decide)).trans (fup_eq _ _ _))
        have e117_73_32 : (setO h 73 (fup (fup (h 73) 32 (((h 73) 32) - (qS (h 96 x)))) 33 x59_8)) 73 32 = ((h 73) 32) - (qS (h 96 x)) := rd_ (sOf_eq _ _ _) ((fup_ne _ _ (by decide)).trans (fup_eq _ _ _))
        have e118_73_33 : (setO h 73 (fup (fup (h 73) 32 (((h 73) 32) - (qS (h 96 x)))) 33 x59_8)) 73 33 = x59_8 := rd_ (sOf_eq _ _ _) (fup_eq _ _ _)
        have e119_73_34 : (setO h 73 (fup (fup (h 73) 32 (((h 73) 32) - (qS (h 96 x)))) 33 x59_8)) 73 34 = (h 73) 34 := rd_ (sOf_eq _ _ _) ((fup_ne _ _ (by decide)).trans (fup_ne _ _ (by decide)))
        have e120_73_39 : (setO h 73 (fup (fup (h 73) 32 (((h 73) 32) - (qS (h 96 x)))) 33 x59_8)) 73 39 = (h 73) 39 := rd_ (sOf_eq _ _ _) ((fup_ne _ _ (by decide)).trans (fup_ne _ _ (by decide)))
        have e121_96 : (setO h 73 (fup (fup (h 73) 32 (((h 73) 32) - (qS (h 96 x)))) 33 x59_8)) 96 = h 96 := sOf_ne _ _ (by decide)
        have e122_97 : (setO h 73 (fup (fup (h 73) 32 (((h 73) 32) - (qS (h 96 x)))) 33 x59_8)) 97 = h 97 := sOf_ne _ _ (by decide)
        exact ⟨⟨hT_9, hF_9⟩, ((h 97) x), rfl, (by omega), (by rewrite [e116_73_32]; omega), (by rewrite [e117_73_32, e118_73_33, e119_73_34, e120_73_39, e121_96, e122_97]; intro hc9; first | (obtain ⟨⟨u1, u2⟩, u3, u4, u5, u6, u7, u8, u9⟩ := hc9; exact ⟨rdS_1q (by omega) (by omega) (by omega) (by omega), ⟨by omega, by omega, by omega, by omega, by omega, by omega⟩, by omega⟩) | (obtain ⟨f, hf⟩ := hC hc9; have hd := RJ_done hf.1 (by omega); exact ⟨by rw [hR hc9, ← hd], hf.1.2.2, hf.2.1⟩))⟩
  · have hb34_6 := lcmp_lt hb34_6
    refine TT_iconst hK dX12_readBit_37 ?_
    refine TT_goto hK (tgt := 42) dX12_readBit_38 (by decide) ?_
    refine TT_istore_n hK rfl (lv' := [(3, vI 1), (2, vI (qS (h 96 x))), (0, vR 73), (1, vI x)]) (by decide) rfl dX12_readBit_42 ?_
    refine TT_iload_n hK rfl 0 rfl dX12_readBit_43 ?_
    refine TT_if_ne hK (tgt := 80) (by decide) dX12_readBit_44 (by decide) (fun hb44_123 => ?_) (fun hb44_123 => ?_)
    · refine TT_aload_n hK rfl 2 rfl dX12_readBit_80 ?_
      refine gf_X12_171 hK (by decide) rfl (v := ((h 73) 32) - (qS (h 96 x))) (rd_ (sOf_eq _ _ _) (fup_eq _ _ _)) dX12_readBit_81 ?_
      have r124 := ty_73_32 (v := ((h 73) 32) - (qS (h 96 x))) hT_4 (rd_ (sOf_eq _ _ _) (fup_eq _ _ _))
      refine TT_iload_n hK rfl 1 rfl dX12_readBit_84 ?_
      refine TT_i2l hK (irm (by omega) (by omega)) dX12_readBit_85 ?_
      refine TT_lcmp hK (lrm (by omega) (by omega)) (lrm (by omega) (by omega)) dX12_readBit_86 ?_
      refine TT_if_ge hK (tgt := 94) (lcmp_ir _ _) dX12_readBit_87 (by decide) (fun hb87_125 => ?_) (fun hb87_125 => ?_)
      · have hb87_125 := lcmp_ge hb87_125
        refine TT_iconst hK dX12_readBit_94 ?_
        refine TT_istore hK (lv' := [(4, vI 0), (3, vI 1), (2, vI (qS (h 96 x))), (0, vR 73), (1, vI x)]) (by decide) rfl dX12_readBit_95 ?_
        refine TT_iload_n hK rfl 1 rfl dX12_readBit_97 ?_
        refine TT_if_eq hK (tgt := 114) (by decide) dX12_readBit_98 (by decide) (fun hb98_126 => ?_) (fun hb98_126 => ?_)
        · exact absurd hb98_126 (by decide)
        · refine TT_iload hK 0 rfl dX12_readBit_101 ?_
          refine TT_if_ne hK (tgt := 110) (by decide) dX12_readBit_103 (by decide) (fun hb103_127 => ?_) (fun hb103_127 => ?_)
          · exact absurd hb103_127 (by decide)
          · refine TT_iconst hK dX12_readBit_106 ?_
            refine TT_goto hK (tgt := 116) dX12_readBit_107 (by decide) ?_
            refine TT_istore hK (lv' := [(5, vI 1), (4, vI 0), (3, vI 1), (2, vI (qS (h 96 x))), (0, vR 73), (1, vI x)]) (by decide) rfl dX12_readBit_116 ?_
            refine TT_iload hK 0 rfl dX12_readBit_118 ?_
            refine TT_if_eq hK (tgt := 134) (by decide) dX12_readBit_120 (by decide) (fun hb120_128 => ?_) (fun hb120_128 => ?_)
            · exact absurd hb120_128 (by decide)
            · refine TT_iconst hK dX12_readBit_123 ?_
              refine TT_aload_n hK rfl 4 rfl dX12_readBit_124 ?_
              refine gf_X12_87 hK (by decide) rfl (q := 97) rfl rfl dX12_readBit_125 ?_
              refine TT_iload_n hK rfl 5 rfl dX12_readBit_128 ?_
              refine TT_iald hK (o := 97) (n := 19) (by decide) rfl (by first | omega | (simp [up, setR] <;> omega)) (by first | omega | (simp [up, setR] <;> omega)) (v := (h 97) x) (rd_ (sOf_ne _ _ (by decide)) rfl) dX12_readBit_129 ?_
              have r129 := ty_97 (i := x) (v := (h 97) x) hT_4 (rd_ (sOf_ne _ _ (by decide)) rfl) (by omega) (by omega)
              refine TT_isub hK dX12_readBit_130 ?_
              refine TT_goto hK (tgt := 140) dX12_readBit_131 (by decide) ?_
              refine TT_istore hK (lv' := [(6, vI (1 - ((h 97) x))), (5, vI 1), (4, vI 0), (3, vI 1), (2, vI (qS (h 96 x))), (0, vR 73), (1, vI x)]) (by decide) rfl dX12_readBit_140 ?_
              refine TT_aload_n hK rfl 5 rfl dX12_readBit_142 ?_
              refine TT_iload_n hK rfl 3 rfl dX12_readBit_143 ?_
              refine TT_if_eq hK (tgt := 152) (by decide) dX12_readBit_144 (by decide) (fun hb144_130 => ?_) (fun hb144_130 => ?_)
              · exact absurd hb144_130 (by decide)
              · refine TT_iload_n hK rfl 4 rfl dX12_readBit_147 ?_
                refine TT_i2l hK (irm (by omega) (by omega)) dX12_readBit_148 ?_
                refine TT_goto hK (tgt := 156) dX12_readBit_149 (by decide) ?_
                refine pf_X12_171 hK (by decide) rfl dX12_readBit_156 ?_
                refine TT_hp (h' := setO h 73 (fup (h 73) 32 (qS (h 96 x)))) (up_can (sOf_eq _ _ _) (fup_same _ _ _ _) (setO_same _ _ _ _)) ?_
                have hT_131 : TY (setO h 73 (fup (h 73) 32 (qS (h 96 x)))) := tu_73_32 hT_4 (show up (setO h 73 (fup (h 73) 32 (((h 73) 32) - (qS (h 96 x))))) 73 32 (qS (h 96 x)) = (setO h 73 (fup (h 73) 32 (qS (h 96 x)))) from up_can (sOf_eq _ _ _) (fup_same _ _ _ _) (setO_same _ _ _ _)) (by omega)
                have hF_131 : FRM [73, 96, 97] [32, 33, 34, 39] h (setO h 73 (fup (h 73) 32 (qS (h 96 x)))) := FRM_f (show up (setO h 73 (fup (h 73) 32 (((h 73) 32) - (qS (h 96 x))))) 73 32 (qS (h 96 x)) = (setO h 73 (fup (h 73) 32 (qS (h 96 x)))) from up_can (sOf_eq _ _ _) (fup_same _ _ _ _) (setO_same _ _ _ _)) hF_4 (by decide) (by decide)
                refine TT_aload_n hK rfl 5 rfl dX12_readBit_159 ?_
                refine TT_iload_n hK rfl 6 rfl dX12_readBit_160 ?_
                refine TT_iload hK 1 rfl dX12_readBit_161 ?_
                have e132_74 : (setO h 73 (fup (h 73) 32 (qS (h 96 x)))) 74 = h 74 := sOf_ne _ _ (by decide)
                have e133_75 : (setO h 73 (fup (h 73) 32 (qS (h 96 x)))) 75 = h 75 := sOf_ne _ _ (by decide)
                refine iv_X12_189 hK (s_learn_e x 1 (setO h 73 (fup (h 73) 32 (qS (h 96 x)))) hT_131 (by first | omega | (simp [up, setR] <;> omega)) (by first | omega | (simp [up, setR] <;> omega)) (by rewrite [e132_74, e133_75]; first | assumption | exact htb)) (by decide) rfl ⟨by decide, by decide⟩ (by decide) rfl rfl (Nat.le_of_ble_eq_true rfl) ⟨by decide, by decide⟩ dX12_readBit_163 ?_
                intro r9 g163_134 hp9
                obtain ⟨⟨hT_134, hG_134⟩, hr9, p1_134, l1_134, l2_134⟩ := hp9
                rw [hr9]
                have hF_134 : FRM [73, 96, 97] [32, 33, 34, 39] h g163_134 := FRM_tr hF_131 hG_134 (by decide) (by decide)
                rw [show (setO h 73 (fup (h 73) 32 (qS (h 96 x)))) 75 = h 75 from sOf_ne _ _ (by decide)] at p1_134
                rw [show (setO h 73 (fup (h 73) 32 (qS (h 96 x)))) 96 = h 96 from sOf_ne _ _ (by decide)] at p1_134
                rw [show (setO h 73 (fup (h 73) 32 (qS (h 96 x)))) 96 = h 96 from sOf_ne _ _ (by decide)] at l1_134
                rw [show (setO h 73 (fup (h 73) 32 (qS (h 96 x)))) 96 = h 96 from sOf_ne _ _ (by decide)] at l2_134
                rw [show (setO h 73 (fup (h 73) 32 (qS (h 96 x)))) 97 = h 97 from sOf_ne _ _ (by decide)] at l2_134
                have l1_at163 := l1_134
                have l2_at163 := l2_134
                show TT K ly 0 0 166 [(6, vI (1 - ((h 97) x))), (5, vI 1), (4, vI 0), (3, vI 1), (2, vI (qS (h 96 x))), (0, vR 73), (1, vI x)] [] g163_134
                have L166_135 : ∀ (k135 : Nat) (bt : Int) (R9 : Int × Int × Int × Int) (w166_135 : Hp_), TY w166_135 → FRM [73, 96, 97] [32, 33, 34, 39] h w166_135 → (0 ≤ bt ∧ bt ≤ 1) → (1 ≤ (w166_135 73 32) ∧ (w166_135 73 32) < 65536) → ((0 ≤ (h 73 33) ∧ (h 73 33) < 1099511627776) ∧ SRB (h 99) (h 73 38) ∧ RQ_ (h 73 38) (h 73 32) (h 73 34) (h 73 39) → ∃ f, RJC (h 99) (h 73 38) f (w166_135 73 32) (w166_135 73 33) (w166_135 73 34) (w166_135 73 39) R9) → ((0 ≤ (h 73 33) ∧ (h 73 33) < 1099511627776) ∧ SRB (h 99) (h 73 38) ∧ RQ_ (h 73 38) (h 73 32) (h 73 34) (h 73 39) → rdS lwC fxM (h 99) (h 73 38) ((h 73 32), (h 73 33), (h 73 34), (h 73 39), (h 96), (h 97)) x = (bt, R9.1, R9.2.1, R9.2.2.1, R9.2.2.2, (w166_135 96), (w166_135 97))) → ((65536 : Int) - (w166_135 73 32)).toNat < k135 → TT K ly 0 0 166 [(0, vR 73), (1, vI x), (6, vI bt)] [] w166_135 := by
                  intro k135
                  induction k135 with
                  | zero => intro bt R9 w166_135 hT166_135 hF166_135 hbt ha1 hC hR hk135; exact absurd hk135 (Nat.not_lt_zero _)
                  | succ k135 ih135 =>
                    intro bt R9 w166_135 hT166_135 hF166_135 hbt ha1 hC hR hk135
                    refine TT_aload_n hK rfl 0 rfl dX12_readBit_166 ?_
                    refine gf_X12_171 hK (by decide) rfl (v := (w166_135 73) 32) rfl dX12_readBit_167 ?_
                    have r136 := ty_73_32 (v := (w166_135 73) 32) hT166_135 rfl
                    refine TT_ldc2 hK lc_X12_169 dX12_readBit_170 ?_
                    refine TT_lcmp hK (lrm (by omega) (by omega)) (by decide) dX12_readBit_173 ?_
                    refine TT_if_ge hK (tgt := 225) (lcmp_ir _ _) dX12_readBit_174 (by decide) (fun hb174_137 => ?_) (fun hb174_137 => ?_)
                    · have hb174_137 := lcmp_ge hb174_137
                      refine TT_iload hK 2 rfl dX12_readBit_225 ?_
                      refine TT_iret hK hQ ?_ dX12_readBit_227
                      have e138_73_32 : w166_135 73 32 = (w166_135 73) 32 := rfl
                      have e139_73_32 : w166_135 73 32 = (w166_135 73) 32 := rfl
                      have e140_73_33 : w166_135 73 33 = (w166_135 73) 33 := rfl
                      have e141_73_34 : w166_135 73 34 = (w166_135 73) 34 := rfl
                      have e142_73_39 : w166_135 73 39 = (w166_135 73) 39 := rfl
                      exact ⟨⟨hT166_135, hF166_135⟩, bt, rfl, (by omega), (by rewrite [e138_73_32]; omega), (by rewrite [e139_73_32, e140_73_33, e141_73_34, e142_73_39]; intro hc9; first | (obtain ⟨⟨u1, u2⟩, u3, u4, u5, u6, u7, u8, u9⟩ := hc9; exact ⟨rdS_1q (by omega) (by omega) (by omega) (by omega), ⟨by omega, by omega, by omega, by omega, by omega, by omega⟩, by omega⟩) | (obtain ⟨f, hf⟩ := hC hc9; have hd := RJ_done hf.1 (by omega); exact ⟨by rw [hR hc9, ← hd], hf.1.2.2, hf.2.1⟩))⟩
                    · have hb174_137 := lcmp_lt hb174_137
                      refine TT_aload_n hK rfl 0 rfl dX12_readBit_177 ?_
                      refine gf_X12_178 hK (by decide) rfl (v := (w166_135 73) 34) rfl dX12_readBit_178 ?_
                      have r143 := ty_73_34 (v := (w166_135 73) 34) hT166_135 rfl
                      refine TT_if_ne hK (tgt := 188) (irm (by omega) (by omega)) dX12_readBit_181 (by decide) (fun hb181_144 => ?_) (fun hb181_144 => ?_)
                      · refine TT_aload_n hK rfl 0 rfl dX12_readBit_188 ?_
                        refine TT_ldc2 hK lc_X12_193 dX12_readBit_189 ?_
                        refine TT_aload_n hK rfl 0 rfl dX12_readBit_192 ?_
                        refine gf_X12_171 hK (by decide) rfl (v := (w166_135 73) 32) rfl dX12_readBit_193 ?_
                        refine TT_lmul hK dX12_readBit_196 ?_
                        refine pf_X12_171 hK (by decide) rfl dX12_readBit_197 ?_
                        refine TT_hp (h' := setO w166_135 73 (fup (w166_135 73) 32 (2 * ((w166_135 73) 32)))) (up_can rfl rfl rfl) ?_
                        have hT_145 : TY (setO w166_135 73 (fup (w166_135 73) 32 (2 * ((w166_135 73) 32)))) := tu_73_32 hT166_135 (show up w166_135 73 32 (2 * ((w166_135 73) 32)) = (setO w166_135 73 (fup (w166_135 73) 32 (2 * ((w166_135 73) 32)))) from up_can rfl rfl rfl) (by omega)
                        have hF_145 : FRM [73, 96, 97] [32, 33, 34, 39] h (setO w166_135 73 (fup (w166_135 73) 32 (2 * ((w166_135 73) 32)))) := FRM_f (show up w166_135 73 32 (2 * ((w166_135 73) 32)) = (setO w166_135 73 (fup (w166_135 73) 32 (2 * ((w166_135 73) 32)))) from up_can rfl rfl rfl) hF166_135 (by decide) (by decide)
                        refine TT_aload_n hK rfl 0 rfl dX12_readBit_200 ?_
                        refine TT_ldc2 hK lc_X12_193 dX12_readBit_201 ?_
                        refine TT_aload_n hK rfl 0 rfl dX12_readBit_204 ?_
                        refine gf_X12_175 hK (by decide) rfl (v := (w166_135 73) 33) (rd_ (sOf_eq _ _ _) (fup_ne _ _ (by decide))) dX12_readBit_205 ?_
                        have r146 := ty_73_33 (v := (w166_135 73) 33) hT_145 (rd_ (sOf_eq _ _ _) (fup_ne _ _ (by decide)))
                        refine TT_lmul hK dX12_readBit_208 ?_
                        refine TT_w64g (fun x209_147 hx147 hy209_147 => ?_)
                        refine pf_X12_175 hK (by decide) rfl dX12_readBit_209 ?_
                        refine TT_hp (h' := setO w166_135 73 (fup (fup (w166_135 73) 32 (2 * ((w166_135 73) 32))) 33 x209_147)) (up_can (sOf_eq _ _ _) rfl (setO_same _ _ _ _)) ?_
                        have hT_148 : TY (setO w166_135 73 (fup (fup (w166_135 73) 32 (2 * ((w166_135 73) 32))) 33 x209_147)) := tu_73_33 hT_145 (show up (setO w166_135 73 (fup (w166_135 73) 32 (2 * ((w166_135 73) 32)))) 73 33 x209_147 = (setO w166_135 73 (fup (fup (w166_135 73) 32 (2 * ((w166_135 73) 32))) 33 x209_147)) from up_can (sOf_eq _ _ _) rfl (setO_same _ _ _ _)) (by omega)
                        have hF_148 : FRM [73, 96, 97] [32, 33, 34, 39] h (setO w166_135 73 (fup (fup (w166_135 73) 32 (2 * ((w166_135 73) 32))) 33 x209_147)) := FRM_f (show up (setO w166_135 73 (fup (w166_135 73) 32 (2 * ((w166_135 73) 32)))) 73 33 x209_147 = (setO w166_135 73 (fup (fup (w166_135 73) 32 (2 * ((w166_135 73) 32))) 33 x209_147)) from up_can (sOf_eq _ _ _) rfl (setO_same _ _ _ _)) hF_145 (by decide) (by decide)
                        refine TT_aload_n hK rfl 0 rfl dX12_readBit_212 ?_
                        refine TT_dup hK rfl dX12_readBit_213 ?_
                        refine gf_X12_178 hK (by decide) rfl (v := (w166_135 73) 34) (rd_ (sOf_eq _ _ _) ((fup_ne _ _ (by decide)).trans (fup_ne _ _ (by decide)))) dX12_readBit_214 ?_
                        refine TT_iconst hK dX12_readBit_217 ?_
                        refine TT_isub hK dX12_readBit_218 ?_
                        refine pf_X12_178 hK (by decide) rfl dX12_readBit_219 ?_
                        refine TT_hp (h' := setO w166_135 73 (fup (fup (fup (w166_135 73) 32 (2 * ((w166_135 73) 32))) 33 x209_147) 34 (((w166_135 73) 34) - 1))) (up_can (sOf_eq _ _ _) rfl (setO_same _ _ _ _)) ?_
                        have hT_149 : TY (setO w166_135 73 (fup (fup (fup (w166_135 73) 32 (2 * ((w166_135 73) 32))) 33 x209_147) 34 (((w166_135 73) 34) - 1))) := tu_73_34 hT_148 (show up (setO w166_135 73 (fup (fup (w166_135 73) 32 (2 * ((w166_135 73) 32))) 33 x209_147)) 73 34 (((w166_135 73) 34) - 1) = (setO w166_135 73 (fup (fup (fup (w166_135 73) 32 (2 * ((w166_135 73) 32))) 33 x209_147) 34 (((w166_135 73) 34) - 1))) from up_can (sOf_eq _ _ _) rfl (setO_same _ _ _ _)) (by omega)
                        have hF_149 : FRM [73, 96, 97] [32, 33, 34, 39] h (setO w166_135 73 (fup (fup (fup (w166_135 73) 32 (2 * ((w166_135 73) 32))) 33 x209_147) 34 (((w166_135 73) 34) - 1))) := FRM_f (show up (setO w166_135 73 (fup (fup (w166_135 73) 32 (2 * ((w166_135 73) 32))) 33 x209_147)) 73 34 (((w166_135 73) 34) - 1) = (setO w166_135 73 (fup (fup (fup (w166_135 73) 32 (2 * ((w166_135 73) 32))) 33 x209_147) 34 (((w166_135 73) 34) - 1))) from up_can (sOf_eq _ _ _) rfl (setO_same _ _ _ _)) hF_148 (by decide) (by decide)
                        refine TT_goto hK (tgt := 166) dX12_readBit_222 (by decide) ?_
                        have e150_73_32 : (setO w166_135 73 (fup (fup (fup (w166_135 73) 32 (2 * ((w166_135 73) 32))) 33 x209_147) 34 (((w166_135 73) 34) - 1))) 73 32 = 2 * ((w166_135 73) 32) := rd_ (sOf_eq _ _ _) ((fup_ne _ _ (by decide)).trans ((fup_ne _ _ (by decide)).trans (fup_eq _ _ _)))
                        have e151_73_32 : (setO w166_135 73 (fup (fup (fup (w166_135 73) 32 (2 * ((w166_135 73) 32))) 33 x209_147) 34 (((w166_135 73) 34) - 1))) 73 32 = 2 * ((w166_135 73) 32) := rd_ (sOf_eq _ _ _) ((fup_ne _ _ (by decide)).trans ((fup_ne _ _ (by decide)).trans (fup_eq _ _ _)))
                        have e152_73_33 : (setO w166_135 73 (fup (fup (fup (w166_135 73) 32 (2 * ((w166_135 73) 32))) 33 x209_147) 34 (((w166_135 73) 34) - 1))) 73 33 = x209_147 := rd_ (sOf_eq _ _ _) ((fup_ne _ _ (by decide)).trans (fup_eq _ _ _))
                        have e153_73_34 : (setO w166_135 73 (fup (fup (fup (w166_135 73) 32 (2 * ((w166_135 73) 32))) 33 x209_147) 34 (((w166_135 73) 34) - 1))) 73 34 = ((w166_135 73) 34) - 1 := rd_ (sOf_eq _ _ _) (fup_eq _ _ _)
                        have e154_73_39 : (setO w166_135 73 (fup (fup (fup (w166_135 73) 32 (2 * ((w166_135 73) 32))) 33 x209_147) 34 (((w166_135 73) 34) - 1))) 73 39 = (w166_135 73) 39 := rd_ (sOf_eq _ _ _) ((fup_ne _ _ (by decide)).trans ((fup_ne _ _ (by decide)).trans (fup_ne _ _ (by decide))))
                        have e155_96 : (setO w166_135 73 (fup (fup (fup (w166_135 73) 32 (2 * ((w166_135 73) 32))) 33 x209_147) 34 (((w166_135 73) 34) - 1))) 96 = w166_135 96 := sOf_ne _ _ (by decide)
                        have e156_97 : (setO w166_135 73 (fup (fup (fup (w166_135 73) 32 (2 * ((w166_135 73) 32))) 33 x209_147) 34 (((w166_135 73) 34) - 1))) 97 = w166_135 97 := sOf_ne _ _ (by decide)
                        have e157_73_32 : (setO w166_135 73 (fup (fup (fup (w166_135 73) 32 (2 * ((w166_135 73) 32))) 33 x209_147) 34 (((w166_135 73) 34) - 1))) 73 32 = 2 * ((w166_135 73) 32) := rd_ (sOf_eq _ _ _) ((fup_ne _ _ (by decide)).trans ((fup_ne _ _ (by decide)).trans (fup_eq _ _ _)))
                        exact ih135 bt R9 (setO w166_135 73 (fup (fup (fup (w166_135 73) 32 (2 * ((w166_135 73) 32))) 33 x209_147) 34 (((w166_135 73) 34) - 1))) hT_149 hF_149 (by first | omega | (simp [up, setR] <;> omega)) (by rewrite [e150_73_32]; first | omega | (simp [up, setR] <;> omega)) (by rewrite [e151_73_32, e152_73_33, e153_73_34, e154_73_39]; intro hc9; obtain ⟨f, hf⟩ := hC hc9; have hb9 := RJC_b hf; cases f with | zero => exact absurd (RJ_z hf.1) (by omega) | succ f => first | exact ⟨f, RJC_next hf (by omega) (by omega) (by omega)⟩ | exact ⟨f, RJC_in hc9.2.1 hf (by omega) (by omega) (in_at185 (by omega)) (fun q => by omega)⟩) (by rewrite [e155_96, e156_97]; exact hR) (by rewrite [e157_73_32]; first | omega | (simp [up, setR] <;> omega))
                      · refine TT_aload_n hK rfl 0 rfl dX12_readBit_184 ?_
                        refine iv_X12_216 hK (s_takeIn_e w166_135 hT166_135 ) (by decide) rfl ⟨by decide, by decide⟩ (by decide) rfl rfl (Nat.le_of_ble_eq_true rfl) ⟨by decide, by decide⟩ dX12_readBit_185 ?_
                        intro r9 g185_158 hp9
                        obtain ⟨⟨hT_158, hG_158⟩, hr9, p1_158, in_158⟩ := hp9
                        rw [hr9]
                        have hF_158 : FRM [73, 96, 97] [32, 33, 34, 39] h g185_158 := FRM_tr hF166_135 hG_158 (by decide) (by decide)
                        rw [show w166_135 73 33 = (w166_135 73) 33 from rfl] at in_158
                        rw [show w166_135 73 38 = (h 73) 38 from (hF166_135.2 38 (by decide))] at in_158
                        rw [show w166_135 73 39 = (w166_135 73) 39 from rfl] at in_158
                        rw [show w166_135 99 = h 99 from (hF166_135.1 99 (by decide))] at in_158
                        have in_at185 := in_158
                        show TT K ly 0 0 188 [(0, vR 73), (1, vI x), (6, vI bt)] [] g185_158
                        refine TT_aload_n hK rfl 0 rfl dX12_readBit_188 ?_
                        refine TT_ldc2 hK lc_X12_193 dX12_readBit_189 ?_
                        refine TT_aload_n hK rfl 0 rfl dX12_readBit_192 ?_
                        refine gf_X12_171 hK (by decide) rfl (v := (w166_135 73) 32) (hG_158.2 32 (by decide)) dX12_readBit_193 ?_
                        refine TT_lmul hK dX12_readBit_196 ?_
                        refine pf_X12_171 hK (by decide) rfl dX12_readBit_197 ?_
                        refine TT_hp (h' := setO g185_158 73 (fup (g185_158 73) 32 (2 * ((w166_135 73) 32)))) (up_can rfl rfl rfl) ?_
                        have hT_159 : TY (setO g185_158 73 (fup (g185_158 73) 32 (2 * ((w166_135 73) 32)))) := tu_73_32 hT_158 (show up g185_158 73 32 (2 * ((w166_135 73) 32)) = (setO g185_158 73 (fup (g185_158 73) 32 (2 * ((w166_135 73) 32)))) from up_can rfl rfl rfl) (by omega)
                        have hF_159 : FRM [73, 96, 97] [32, 33, 34, 39] h (setO g185_158 73 (fup (g185_158 73) 32 (2 * ((w166_135 73) 32)))) := FRM_f (show up g185_158 73 32 (2 * ((w166_135 73) 32)) = (setO g185_158 73 (fup (g185_158 73) 32 (2 * ((w166_135 73) 32)))) from up_can rfl rfl rfl) hF_158 (by decide) (by decide)
                        refine TT_aload_n hK rfl 0 rfl dX12_readBit_200 ?_
                        refine TT_ldc2 hK lc_X12_193 dX12_readBit_201 ?_
                        refine TT_aload_n hK rfl 0 rfl dX12_readBit_204 ?_
                        refine gf_X12_175 hK (by decide) rfl (v := (g185_158 73) 33) (rd_ (sOf_eq _ _ _) (fup_ne _ _ (by decide))) dX12_readBit_205 ?_
                        have r160 := ty_73_33 (v := (g185_158 73) 33) hT_159 (rd_ (sOf_eq _ _ _) (fup_ne _ _ (by decide)))
                        refine TT_lmul hK dX12_readBit_208 ?_
                        refine TT_w64g (fun x209_161 hx161 hy209_161 => ?_)
                        refine pf_X12_175 hK (by decide) rfl dX12_readBit_209 ?_
                        refine TT_hp (h' := setO g185_158 73 (fup (fup (g185_158 73) 32 (2 * ((w166_135 73) 32))) 33 x209_161)) (up_can (sOf_eq _ _ _) rfl (setO_same _ _ _ _)) ?_
                        have hT_162 : TY (setO g185_158 73 (fup (fup (g185_158 73) 32 (2 * ((w166_135 73) 32))) 33 x209_161)) := tu_73_33 hT_159 (show up (setO g185_158 73 (fup (g185_158 73) 32 (2 * ((w166_135 73) 32)))) 73 33 x209_161 = (setO g185_158 73 (fup (fup (g185_158 73) 32 (2 * ((w166_135 73) 32))) 33 x209_161)) from up_can (sOf_eq _ _ _) rfl (setO_same _ _ _ _)) (by omega)
                        have hF_162 : FRM [73, 96, 97] [32, 33, 34, 39] h (setO g185_158 73 (fup (fup (g185_158 73) 32 (2 * ((w166_135 73) 32))) 33 x209_161)) := FRM_f (show up (setO g185_158 73 (fup (g185_158 73) 32 (2 * ((w166_135 73) 32)))) 73 33 x209_161 = (setO g185_158 73 (fup (fup (g185_158 73) 32 (2 * ((w166_135 73) 32))) 33 x209_161)) from up_can (sOf_eq _ _ _) rfl (setO_same _ _ _ _)) hF_159 (by decide) (by decide)
                        refine TT_aload_n hK rfl 0 rfl dX12_readBit_212 ?_
                        refine TT_dup hK rfl dX12_readBit_213 ?_
                        refine gf_X12_178 hK (by decide) rfl (v := (g185_158 73) 34) (rd_ (sOf_eq _ _ _) ((fup_ne _ _ (by decide)).trans (fup_ne _ _ (by decide)))) dX12_readBit_214 ?_
                        have r163 := ty_73_34 (v := (g185_158 73) 34) hT_162 (rd_ (sOf_eq _ _ _) ((fup_ne _ _ (by decide)).trans (fup_ne _ _ (by decide))))
                        refine TT_iconst hK dX12_readBit_217 ?_
                        refine TT_isub hK dX12_readBit_218 ?_
                        refine pf_X12_178 hK (by decide) rfl dX12_readBit_219 ?_
                        refine TT_hp (h' := setO g185_158 73 (fup (fup (fup (g185_158 73) 32 (2 * ((w166_135 73) 32))) 33 x209_161) 34 (((g185_158 73) 34) - 1))) (up_can (sOf_eq _ _ _) rfl (setO_same _ _ _ _)) ?_
                        have hT_164 : TY (setO g185_158 73 (fup (fup (fup (g185_158 73) 32 (2 * ((w166_135 73) 32))) 33 x209_161) 34 (((g185_158 73) 34) - 1))) := tu_73_34 hT_162 (show up (setO g185_158 73 (fup (fup (g185_158 73) 32 (2 * ((w166_135 73) 32))) 33 x209_161)) 73 34 (((g185_158 73) 34) - 1) = (setO g185_158 73 (fup (fup (fup (g185_158 73) 32 (2 * ((w166_135 73) 32))) 33 x209_161) 34 (((g185_158 73) 34) - 1))) from up_can (sOf_eq _ _ _) rfl (setO_same _ _ _ _)) (by omega)
                        have hF_164 : FRM [73, 96, 97] [32, 33, 34, 39] h (setO g185_158 73 (fup (fup (fup (g185_158 73) 32 (2 * ((w166_135 73) 32))) 33 x209_161) 34 (((g185_158 73) 34) - 1))) := FRM_f (show up (setO g185_158 73 (fup (fup (g185_158 73) 32 (2 * ((w166_135 73) 32))) 33 x209_161)) 73 34 (((g185_158 73) 34) - 1) = (setO g185_158 73 (fup (fup (fup (g185_158 73) 32 (2 * ((w166_135 73) 32))) 33 x209_161) 34 (((g185_158 73) 34) - 1))) from up_can (sOf_eq _ _ _) rfl (setO_same _ _ _ _)) hF_162 (by decide) (by decide)
                        refine TT_goto hK (tgt := 166) dX12_readBit_222 (by decide) ?_
                        have e165_73_32 : (setO g185_158 73 (fup (fup (fup (g185_158 73) 32 (2 * ((w166_135 73) 32))) 33 x209_161) 34 (((g185_158 73) 34) - 1))) 73 32 = 2 * ((w166_135 73) 32) := rd_ (sOf_eq _ _ _) ((fup_ne _ _ (by decide)).trans ((fup_ne _ _ (by decide)).trans (fup_eq _ _ _)))
                        have e166_73_32 : (setO g185_158 73 (fup (fup (fup (g185_158 73) 32 (2 * ((w166_135 73) 32))) 33 x209_161) 34 (((g185_158 73) 34) - 1))) 73 32 = 2 * ((w166_135 73) 32) := rd_ (sOf_eq _ _ _) ((fup_ne _ _ (by decide)).trans ((fup_ne _ _ (by decide)).trans (fup_eq _ _ _)))
                        have e167_73_33 : (setO g185_158 73 (fup (fup (fup (g185_158 73) 32 (2 * ((w166_135 73) 32))) 33 x209_161) 34 (((g185_158 73) 34) - 1))) 73 33 = x209_161 := rd_ (sOf_eq _ _ _) ((fup_ne _ _ (by decide)).trans (fup_eq _ _ _))
                        have e168_73_34 : (setO g185_158 73 (fup (fup (fup (g185_158 73) 32 (2 * ((w166_135 73) 32))) 33 x209_161) 34 (((g185_158 73) 34) - 1))) 73 34 = ((g185_158 73) 34) - 1 := rd_ (sOf_eq _ _ _) (fup_eq _ _ _)
                        have e169_73_39 : (setO g185_158 73 (fup (fup (fup (g185_158 73) 32 (2 * ((w166_135 73) 32))) 33 x209_161) 34 (((g185_158 73) 34) - 1))) 73 39 = (g185_158 73) 39 := rd_ (sOf_eq _ _ _) ((fup_ne _ _ (by decide)).trans ((fup_ne _ _ (by decide)).trans (fup_ne _ _ (by decide))))
                        have e170_96 : (setO g185_158 73 (fup (fup (fup (g185_158 73) 32 (2 * ((w166_135 73) 32))) 33 x209_161) 34 (((g185_158 73) 34) - 1))) 96 = w166_135 96 := (sOf_ne _ _ (by decide)).trans (hG_158.1 96 (by decide))
                        have e171_97 : (setO g185_158 73 (fup (fup (fup (g185_158 73) 32 (2 * ((w166_135 73) 32))) 33 x209_161) 34 (((g185_158 73) 34) - 1))) 97 = w166_135 97 := (sOf_ne _ _ (by decide)).trans (hG_158.1 97 (by decide))
                        have e172_73_32 : (setO g185_158 73 (fup (fup (fup (g185_158 73) 32 (2 * ((w166_135 73) 32))) 33 x209_161) 34 (((g185_158 73) 34) - 1))) 73 32 = 2 * ((w166_135 73) 32) := rd_ (sOf_eq _ _ _) ((fup_ne _ _ (by decide)).trans ((fup_ne _ _ (by decide)).trans (fup_eq _ _ _)))
                        exact ih135 bt R9 (setO g185_158 73 (fup (fup (fup (g185_158 73) 32 (2 * ((w166_135 73) 32))) 33 x209_161) 34 (((g185_158 73) 34) - 1))) hT_164 hF_164 (by first | omega | (simp [up, setR] <;> omega)) (by rewrite [e165_73_32]; first | omega | (simp [up, setR] <;> omega)) (by rewrite [e166_73_32, e167_73_33, e168_73_34, e169_73_39]; intro hc9; obtain ⟨f, hf⟩ := hC hc9; have hb9 := RJC_b hf; cases f with | zero => exact absurd (RJ_z hf.1) (by omega) | succ f => first | exact ⟨f, RJC_next hf (by omega) (by omega) (by omega)⟩ | exact ⟨f, RJC_in hc9.2.1 hf (by omega) (by omega) (in_at185 (by omega)) (fun q => by omega)⟩) (by rewrite [e170_96, e171_97]; exact hR) (by rewrite [e172_73_32]; first | omega | (simp [up, setR] <;> omega))
                refine TT_sub [5, 6, 0] rfl ?_
                have e173_73_32 : g163_134 73 32 = qS (h 96 x) := (congrFun (hG_134.1 73 (by decide)) 32).trans (rd_ (sOf_eq _ _ _) (fup_eq _ _ _))
                have e174_73_32 : g163_134 73 32 = qS (h 96 x) := (congrFun (hG_134.1 73 (by decide)) 32).trans (rd_ (sOf_eq _ _ _) (fup_eq _ _ _))
                have e175_73_33 : g163_134 73 33 = (h 73) 33 := (congrFun (hG_134.1 73 (by decide)) 33).trans (rd_ (sOf_eq _ _ _) (fup_ne _ _ (by decide)))
                have e176_73_34 : g163_134 73 34 = (h 73) 34 := (congrFun (hG_134.1 73 (by decide)) 34).trans (rd_ (sOf_eq _ _ _) (fup_ne _ _ (by decide)))
                have e177_73_39 : g163_134 73 39 = (h 73) 39 := (congrFun (hG_134.1 73 (by decide)) 39).trans (rd_ (sOf_eq _ _ _) (fup_ne _ _ (by decide)))
                exact L166_135 ((((65536 : Int) - (g163_134 73 32)).toNat) + 1) (1 - ((h 97) x)) (rmS fxM (h 99) (h 73 38) 15 (qS (h 96 x)) ((h 73) 33) ((h 73) 34) ((h 73) 39)) g163_134 hT_134 hF_134 (by first | omega | (simp [up, setR] <;> omega)) (by rewrite [e173_73_32]; first | omega | (simp [up, setR] <;> omega)) (by rewrite [e174_73_32, e175_73_33, e176_73_34, e177_73_39]; intro hc9; obtain ⟨⟨u1, u2⟩, u3, u4⟩ := hc9; exact ⟨15, RJC_0 (RQ_rd (x := x) (st := h 96) (P := lwC (h 73 33) < qS (h 96 x)) u4 ha.1 hs (by first | exact (if_pos (by omega)).symm | exact (if_neg (by omega)).symm)) (by omega)⟩) (by intro hc9; obtain ⟨⟨u1, u2⟩, u3, u4⟩ := hc9; rw [l1_at163, l2_at163]; exact rdS_m (by omega) (by first | exact (if_pos (by omega)).symm | exact (if_neg (by omega)).symm) (by split <;> omega) (by omega) (by first | exact (if_pos (by omega)).symm | exact (if_neg (by omega)).symm)) (Nat.lt_succ_self _)
      · have hb87_125 := lcmp_lt hb87_125
        refine TT_iconst hK dX12_readBit_90 ?_
        refine TT_goto hK (tgt := 95) dX12_readBit_91 (by decide) ?_
        refine TT_istore hK (lv' := [(4, vI 1), (3, vI 1), (2, vI (qS (h 96 x))), (0, vR 73), (1, vI x)]) (by decide) rfl dX12_readBit_95 ?_
        refine TT_iload_n hK rfl 1 rfl dX12_readBit_97 ?_
        refine TT_if_eq hK (tgt := 114) (by decide) dX12_readBit_98 (by decide) (fun hb98_178 => ?_) (fun hb98_178 => ?_)
        · exact absurd hb98_178 (by decide)
        · refine TT_iload hK 0 rfl dX12_readBit_101 ?_
          refine TT_if_ne hK (tgt := 110) (by decide) dX12_readBit_103 (by decide) (fun hb103_179 => ?_) (fun hb103_179 => ?_)
          · refine TT_iconst hK dX12_readBit_110 ?_
            refine TT_goto hK (tgt := 116) dX12_readBit_111 (by decide) ?_
            refine TT_istore hK (lv' := [(5, vI 0), (4, vI 1), (3, vI 1), (2, vI (qS (h 96 x))), (0, vR 73), (1, vI x)]) (by decide) rfl dX12_readBit_116 ?_
            refine TT_iload hK 0 rfl dX12_readBit_118 ?_
            refine TT_if_eq hK (tgt := 134) (by decide) dX12_readBit_120 (by decide) (fun hb120_180 => ?_) (fun hb120_180 => ?_)
            · refine TT_aload_n hK rfl 4 rfl dX12_readBit_134 ?_
              refine gf_X12_87 hK (by decide) rfl (q := 97) rfl rfl dX12_readBit_135 ?_
              refine TT_iload_n hK rfl 5 rfl dX12_readBit_138 ?_
              refine TT_iald hK (o := 97) (n := 19) (by decide) rfl (by first | omega | (simp [up, setR] <;> omega)) (by first | omega | (simp [up, setR] <;> omega)) (v := (h 97) x) (rd_ (sOf_ne _ _ (by decide)) rfl) dX12_readBit_139 ?_
              have r181 := ty_97 (i := x) (v := (h 97) x) hT_4 (rd_ (sOf_ne _ _ (by decide)) rfl) (by omega) (by omega)
              refine TT_istore hK (lv' := [(6, vI ((h 97) x)), (5, vI 0), (4, vI 1), (3, vI 1), (2, vI (qS (h 96 x))), (0, vR 73), (1, vI x)]) (by decide) rfl dX12_readBit_140 ?_
              refine TT_aload_n hK rfl 5 rfl dX12_readBit_142 ?_
              refine TT_iload_n hK rfl 3 rfl dX12_readBit_143 ?_
              refine TT_if_eq hK (tgt := 152) (by decide) dX12_readBit_144 (by decide) (fun hb144_182 => ?_) (fun hb144_182 => ?_)
              · exact absurd hb144_182 (by decide)
              · refine TT_iload_n hK rfl 4 rfl dX12_readBit_147 ?_
                refine TT_i2l hK (irm (by omega) (by omega)) dX12_readBit_148 ?_
                refine TT_goto hK (tgt := 156) dX12_readBit_149 (by decide) ?_
                refine pf_X12_171 hK (by decide) rfl dX12_readBit_156 ?_
                refine TT_hp (h' := setO h 73 (fup (h 73) 32 (qS (h 96 x)))) (up_can (sOf_eq _ _ _) (fup_same _ _ _ _) (setO_same _ _ _ _)) ?_
                have hT_183 : TY (setO h 73 (fup (h 73) 32 (qS (h 96 x)))) := tu_73_32 hT_4 (show up (setO h 73 (fup (h 73) 32 (((h 73) 32) - (qS (h 96 x))))) 73 32 (qS (h 96 x)) = (setO h 73 (fup (h 73) 32 (qS (h 96 x)))) from up_can (sOf_eq _ _ _) (fup_same _ _ _ _) (setO_same _ _ _ _)) (by omega)
                have hF_183 : FRM [73, 96, 97] [32, 33, 34, 39] h (setO h 73 (fup (h 73) 32 (qS (h 96 x)))) := FRM_f (show up (setO h 73 (fup (h 73) 32 (((h 73) 32) - (qS (h 96 x))))) 73 32 (qS (h 96 x)) = (setO h 73 (fup (h 73) 32 (qS (h 96 x)))) from up_can (sOf_eq _ _ _) (fup_same _ _ _ _) (setO_same _ _ _ _)) hF_4 (by decide) (by decide)
                refine TT_aload_n hK rfl 5 rfl dX12_readBit_159 ?_
                refine TT_iload_n hK rfl 6 rfl dX12_readBit_160 ?_
                refine TT_iload hK 1 rfl dX12_readBit_161 ?_
                have e184_74 : (setO h 73 (fup (h 73) 32 (qS (h 96 x)))) 74 = h 74 := sOf_ne _ _ (by decide)
                have e185_75 : (setO h 73 (fup (h 73) 32 (qS (h 96 x)))) 75 = h 75 := sOf_ne _ _ (by decide)
                refine iv_X12_189 hK (s_learn_e x 0 (setO h 73 (fup (h 73) 32 (qS (h 96 x)))) hT_183 (by first | omega | (simp [up, setR] <;> omega)) (by first | omega | (simp [up, setR] <;> omega)) (by rewrite [e184_74, e185_75]; first | assumption | exact htb)) (by decide) rfl ⟨by decide, by decide⟩ (by decide) rfl rfl (Nat.le_of_ble_eq_true rfl) ⟨by decide, by decide⟩ dX12_readBit_163 ?_
                intro r9 g163_186 hp9
                obtain ⟨⟨hT_186, hG_186⟩, hr9, p1_186, l1_186, l2_186⟩ := hp9
                rw [hr9]
                have hF_186 : FRM [73, 96, 97] [32, 33, 34, 39] h g163_186 := FRM_tr hF_183 hG_186 (by decide) (by decide)
                rw [show (setO h 73 (fup (h 73) 32 (qS (h 96 x)))) 75 = h 75 from sOf_ne _ _ (by decide)] at p1_186
                rw [show (setO h 73 (fup (h 73) 32 (qS (h 96 x)))) 96 = h 96 from sOf_ne _ _ (by decide)] at p1_186
                rw [show (setO h 73 (fup (h 73) 32 (qS (h 96 x)))) 96 = h 96 from sOf_ne _ _ (by decide)] at l1_186
                rw [show (setO h 73 (fup (h 73) 32 (qS (h 96 x)))) 96 = h 96 from sOf_ne _ _ (by decide)] at l2_186
                rw [show (setO h 73 (fup (h 73) 32 (qS (h 96 x)))) 97 = h 97 from sOf_ne _ _ (by decide)] at l2_186
                have l1_at163 := l1_186
                have l2_at163 := l2_186
                show TT K ly 0 0 166 [(6, vI ((h 97) x)), (5, vI 0), (4, vI 1), (3, vI 1), (2, vI (qS (h 96 x))), (0, vR 73), (1, vI x)] [] g163_186
                have L166_187 : ∀ (k187 : Nat) (bt : Int) (R9 : Int × Int × Int × Int) (w166_187 : Hp_), TY w166_187 → FRM [73, 96, 97] [32, 33, 34, 39] h w166_187 → (0 ≤ bt ∧ bt ≤ 1) → (1 ≤ (w166_187 73 32) ∧ (w166_187 73 32) < 65536) → ((0 ≤ (h 73 33) ∧ (h 73 33) < 1099511627776) ∧ SRB (h 99) (h 73 38) ∧ RQ_ (h 73 38) (h 73 32) (h 73 34) (h 73 39) → ∃ f, RJC (h 99) (h 73 38) f (w166_187 73 32) (w166_187 73 33) (w166_187 73 34) (w166_187 73 39) R9) → ((0 ≤ (h 73 33) ∧ (h 73 33) < 1099511627776) ∧ SRB (h 99) (h 73 38) ∧ RQ_ (h 73 38) (h 73 32) (h 73 34) (h 73 39) → rdS lwC fxM (h 99) (h 73 38) ((h 73 32), (h 73 33), (h 73 34), (h 73 39), (h 96), (h 97)) x = (bt, R9.1, R9.2.1, R9.2.2.1, R9.2.2.2, (w166_187 96), (w166_187 97))) → ((65536 : Int) - (w166_187 73 32)).toNat < k187 → TT K ly 0 0 166 [(0, vR 73), (1, vI x), (6, vI bt)] [] w166_187 := by
                  intro k187
                  induction k187 with
                  | zero => intro bt R9 w166_187 hT166_187 hF166_187 hbt ha1 hC hR hk187; exact absurd hk187 (Nat.not_lt_zero _)
                  | succ k187 ih187 =>
                    intro bt R9 w166_187 hT166_187 hF166_187 hbt ha1 hC hR hk187
                    refine TT_aload_n hK rfl 0 rfl dX12_readBit_166 ?_
                    refine gf_X12_171 hK (by decide) rfl (v := (w166_187 73) 32) rfl dX12_readBit_167 ?_
                    have r188 := ty_73_32 (v := (w166_187 73) 32) hT166_187 rfl
                    refine TT_ldc2 hK lc_X12_169 dX12_readBit_170 ?_
                    refine TT_lcmp hK (lrm (by omega) (by omega)) (by decide) dX12_readBit_173 ?_
                    refine TT_if_ge hK (tgt := 225) (lcmp_ir _ _) dX12_readBit_174 (by decide) (fun hb174_189 => ?_) (fun hb174_189 => ?_)
                    · have hb174_189 := lcmp_ge hb174_189
                      refine TT_iload hK 2 rfl dX12_readBit_225 ?_
                      refine TT_iret hK hQ ?_ dX12_readBit_227
                      have e190_73_32 : w166_187 73 32 = (w166_187 73) 32 := rfl
                      have e191_73_32 : w166_187 73 32 = (w166_187 73) 32 := rfl
                      have e192_73_33 : w166_187 73 33 = (w166_187 73) 33 := rfl
                      have e193_73_34 : w166_187 73 34 = (w166_187 73) 34 := rfl
                      have e194_73_39 : w166_187 73 39 = (w166_187 73) 39 := rfl
                      exact ⟨⟨hT166_187, hF166_187⟩, bt, rfl, (by omega), (by rewrite [e190_73_32]; omega), (by rewrite [e191_73_32, e192_73_33, e193_73_34, e194_73_39]; intro hc9; first | (obtain ⟨⟨u1, u2⟩, u3, u4, u5, u6, u7, u8, u9⟩ := hc9; exact ⟨rdS_1q (by omega) (by omega) (by omega) (by omega), ⟨by omega, by omega, by omega, by omega, by omega, by omega⟩, by omega⟩) | (obtain ⟨f, hf⟩ := hC hc9; have hd := RJ_done hf.1 (by omega); exact ⟨by rw [hR hc9, ← hd], hf.1.2.2, hf.2.1⟩))⟩
                    · have hb174_189 := lcmp_lt hb174_189
                      refine TT_aload_n hK rfl 0 rfl dX12_readBit_177 ?_
                      refine gf_X12_178 hK (by decide) rfl (v := (w166_187 73) 34) rfl dX12_readBit_178 ?_
                      have r195 := ty_73_34 (v := (w166_187 73) 34) hT166_187 rfl
                      refine TT_if_ne hK (tgt := 188) (irm (by omega) (by omega)) dX12_readBit_181 (by decide) (fun hb181_196 => ?_) (fun hb181_196 => ?_)
                      · refine TT_aload_n hK rfl 0 rfl dX12_readBit_188 ?_
                        refine TT_ldc2 hK lc_X12_193 dX12_readBit_189 ?_
                        refine TT_aload_n hK rfl 0 rfl dX12_readBit_192 ?_
                        refine gf_X12_171 hK (by decide) rfl (v := (w166_187 73) 32) rfl dX12_readBit_193 ?_
                        refine TT_lmul hK dX12_readBit_196 ?_
                        refine pf_X12_171 hK (by decide) rfl dX12_readBit_197 ?_
                        refine TT_hp (h' := setO w166_187 73 (fup (w166_187 73) 32 (2 * ((w166_187 73) 32)))) (up_can rfl rfl rfl) ?_
                        have hT_197 : TY (setO w166_187 73 (fup (w166_187 73) 32 (2 * ((w166_187 73) 32)))) := tu_73_32 hT166_187 (show up w166_187 73 32 (2 * ((w166_187 73) 32)) = (setO w166_187 73 (fup (w166_187 73) 32 (2 * ((w166_187 73) 32)))) from up_can rfl rfl rfl) (by omega)
                        have hF_197 : FRM [73, 96, 97] [32, 33, 34, 39] h (setO w166_187 73 (fup (w166_187 73) 32 (2 * ((w166_187 73) 32)))) := FRM_f (show up w166_187 73 32 (2 * ((w166_187 73) 32)) = (setO w166_187 73 (fup (w166_187 73) 32 (2 * ((w166_187 73) 32)))) from up_can rfl rfl rfl) hF166_187 (by decide) (by decide)
                        refine TT_aload_n hK rfl 0 rfl dX12_readBit_200 ?_
                        refine TT_ldc2 hK lc_X12_193 dX12_readBit_201 ?_
                        refine TT_aload_n hK rfl 0 rfl dX12_readBit_204 ?_
                        refine gf_X12_175 hK (by decide) rfl (v := (w166_187 73) 33) (rd_ (sOf_eq _ _ _) (fup_ne _ _ (by decide))) dX12_readBit_205 ?_
                        have r198 := ty_73_33 (v := (w166_187 73) 33) hT_197 (rd_ (sOf_eq _ _ _) (fup_ne _ _ (by decide)))
                        refine TT_lmul hK dX12_readBit_208 ?_
                        refine TT_w64g (fun x209_199 hx199 hy209_199 => ?_)
                        refine pf_X12_175 hK (by decide) rfl dX12_readBit_209 ?_
                        refine TT_hp (h' := setO w166_187 73 (fup (fup (w166_187 73) 32 (2 * ((w166_187 73) 32))) 33 x209_199)) (up_can (sOf_eq _ _ _) rfl (setO_same _ _ _ _)) ?_
                        have hT_200 : TY (setO w166_187 73 (fup (fup (w166_187 73) 32 (2 * ((w166_187 73) 32))) 33 x209_199)) := tu_73_33 hT_197 (show up (setO w166_187 73 (fup (w166_187 73) 32 (2 * ((w166_187 73) 32)))) 73 33 x209_199 = (setO w166_187 73 (fup (fup (w166_187 73) 32 (2 * ((w166_187 73) 32))) 33 x209_199)) from up_can (sOf_eq _ _ _) rfl (setO_same _ _ _ _)) (by omega)
                        have hF_200 : FRM [73, 96, 97] [32, 33, 34, 39] h (setO w166_187 73 (fup (fup (w166_187 73) 32 (2 * ((w166_187 73) 32))) 33 x209_199)) := FRM_f (show up (setO w166_187 73 (fup (w166_187 73) 32 (2 * ((w166_187 73) 32)))) 73 33 x209_199 = (setO w166_187 73 (fup (fup (w166_187 73) 32 (2 * ((w166_187 73) 32))) 33 x209_199)) from up_can (sOf_eq _ _ _) rfl (setO_same _ _ _ _)) hF_197 (by decide) (by decide)
                        refine TT_aload_n hK rfl 0 rfl dX12_readBit_212 ?_
                        refine TT_dup hK rfl dX12_readBit_213 ?_
                        refine gf_X12_178 hK (by decide) rfl (v := (w166_187 73) 34) (rd_ (sOf_eq _ _ _) ((fup_ne _ _ (by decide)).trans (fup_ne _ _ (by decide)))) dX12_readBit_214 ?_
                        refine TT_iconst hK dX12_readBit_217 ?_
                        refine TT_isub hK dX12_readBit_218 ?_
                        refine pf_X12_178 hK (by decide) rfl dX12_readBit_219 ?_
                        refine TT_hp (h' := setO w166_187 73 (fup (fup (fup (w166_187 73) 32 (2 * ((w166_187 73) 32))) 33 x209_199) 34 (((w166_187 73) 34) - 1))) (up_can (sOf_eq _ _ _) rfl (setO_same _ _ _ _)) ?_
                        have hT_201 : TY (setO w166_187 73 (fup (fup (fup (w166_187 73) 32 (2 * ((w166_187 73) 32))) 33 x209_199) 34 (((w166_187 73) 34) - 1))) := tu_73_34 hT_200 (show up (setO w166_187 73 (fup (fup (w166_187 73) 32 (2 * ((w166_187 73) 32))) 33 x209_199)) 73 34 (((w166_187 73) 34) - 1) = (setO w166_187 73 (fup (fup (fup (w166_187 73) 32 (2 * ((w166_187 73) 32))) 33 x209_199) 34 (((w166_187 73) 34) - 1))) from up_can (sOf_eq _ _ _) rfl (setO_same _ _ _ _)) (by omega)
                        have hF_201 : FRM [73, 96, 97] [32, 33, 34, 39] h (setO w166_187 73 (fup (fup (fup (w166_187 73) 32 (2 * ((w166_187 73) 32))) 33 x209_199) 34 (((w166_187 73) 34) - 1))) := FRM_f (show up (setO w166_187 73 (fup (fup (w166_187 73) 32 (2 * ((w166_187 73) 32))) 33 x209_199)) 73 34 (((w166_187 73) 34) - 1) = (setO w166_187 73 (fup (fup (fup (w166_187 73) 32 (2 * ((w166_187 73) 32))) 33 x209_199) 34 (((w166_187 73) 34) - 1))) from up_can (sOf_eq _ _ _) rfl (setO_same _ _ _ _)) hF_200 (by decide) (by decide)
                        refine TT_goto hK (tgt := 166) dX12_readBit_222 (by decide) ?_
                        have e202_73_32 : (setO w166_187 73 (fup (fup (fup (w166_187 73) 32 (2 * ((w166_187 73) 32))) 33 x209_199) 34 (((w166_187 73) 34) - 1))) 73 32 = 2 * ((w166_187 73) 32) := rd_ (sOf_eq _ _ _) ((fup_ne _ _ (by decide)).trans ((fup_ne _ _ (by decide)).trans (fup_eq _ _ _)))
                        have e203_73_32 : (setO w166_187 73 (fup (fup (fup (w166_187 73) 32 (2 * ((w166_187 73) 32))) 33 x209_199) 34 (((w166_187 73) 34) - 1))) 73 32 = 2 * ((w166_187 73) 32) := rd_ (sOf_eq _ _ _) ((fup_ne _ _ (by decide)).trans ((fup_ne _ _ (by decide)).trans (fup_eq _ _ _)))
                        have e204_73_33 : (setO w166_187 73 (fup (fup (fup (w166_187 73) 32 (2 * ((w166_187 73) 32))) 33 x209_199) 34 (((w166_187 73) 34) - 1))) 73 33 = x209_199 := rd_ (sOf_eq _ _ _) ((fup_ne _ _ (by decide)).trans (fup_eq _ _ _))
                        have e205_73_34 : (setO w166_187 73 (fup (fup (fup (w166_187 73) 32 (2 * ((w166_187 73) 32))) 33 x209_199) 34 (((w166_187 73) 34) - 1))) 73 34 = ((w166_187 73) 34) - 1 := rd_ (sOf_eq _ _ _) (fup_eq _ _ _)
                        have e206_73_39 : (setO w166_187 73 (fup (fup (fup (w166_187 73) 32 (2 * ((w166_187 73) 32))) 33 x209_199) 34 (((w166_187 73) 34) - 1))) 73 39 = (w166_187 73) 39 := rd_ (sOf_eq _ _ _) ((fup_ne _ _ (by decide)).trans ((fup_ne _ _ (by decide)).trans (fup_ne _ _ (by decide))))
                        have e207_96 : (setO w166_187 73 (fup (fup (fup (w166_187 73) 32 (2 * ((w166_187 73) 32))) 33 x209_199) 34 (((w166_187 73) 34) - 1))) 96 = w166_187 96 := sOf_ne _ _ (by decide)
                        have e208_97 : (setO w166_187 73 (fup (fup (fup (w166_187 73) 32 (2 * ((w166_187 73) 32))) 33 x209_199) 34 (((w166_187 73) 34) - 1))) 97 = w166_187 97 := sOf_ne _ _ (by decide)
                        have e209_73_32 : (setO w166_187 73 (fup (fup (fup (w166_187 73) 32 (2 * ((w166_187 73) 32))) 33 x209_199) 34 (((w166_187 73) 34) - 1))) 73 32 = 2 * ((w166_187 73) 32) := rd_ (sOf_eq _ _ _) ((fup_ne _ _ (by decide)).trans ((fup_ne _ _ (by decide)).trans (fup_eq _ _ _)))
                        exact ih187 bt R9 (setO w166_187 73 (fup (fup (fup (w166_187 73) 32 (2 * ((w166_187 73) 32))) 33 x209_199) 34 (((w166_187 73) 34) - 1))) hT_201 hF_201 (by first | omega | (simp [up, setR] <;> omega)) (by rewrite [e202_73_32]; first | omega | (simp [up, setR] <;> omega)) (by rewrite [e203_73_32, e204_73_33, e205_73_34, e206_73_39]; intro hc9; obtain ⟨f, hf⟩ := hC hc9; have hb9 := RJC_b hf; cases f with | zero => exact absurd (RJ_z hf.1) (by omega) | succ f => first | exact ⟨f, RJC_next hf (by omega) (by omega) (by omega)⟩ | exact ⟨f, RJC_in hc9.2.1 hf (by omega) (by omega) (in_at185 (by omega)) (fun q => by omega)⟩) (by rewrite [e207_96, e208_97]; exact hR) (by rewrite [e209_73_32]; first | omega | (simp [up, setR] <;> omega))
                      · refine TT_aload_n hK rfl 0 rfl dX12_readBit_184 ?_
                        refine iv_X12_216 hK (s_takeIn_e w166_187 hT166_187 ) (by decide) rfl ⟨by decide, by decide⟩ (by decide) rfl rfl (Nat.le_of_ble_eq_true rfl) ⟨by decide, by decide⟩ dX12_readBit_185 ?_
                        intro r9 g185_210 hp9
                        obtain ⟨⟨hT_210, hG_210⟩, hr9, p1_210, in_210⟩ := hp9
                        rw [hr9]
                        have hF_210 : FRM [73, 96, 97] [32, 33, 34, 39] h g185_210 := FRM_tr hF166_187 hG_210 (by decide) (by decide)
                        rw [show w166_187 73 33 = (w166_187 73) 33 from rfl] at in_210
                        rw [show w166_187 73 38 = (h 73) 38 from (hF166_187.2 38 (by decide))] at in_210
                        rw [show w166_187 73 39 = (w166_187 73) 39 from rfl] at in_210
                        rw [show w166_187 99 = h 99 from (hF166_187.1 99 (by decide))] at in_210
                        have in_at185 := in_210
                        show TT K ly 0 0 188 [(0, vR 73), (1, vI x), (6, vI bt)] [] g185_210
                        refine TT_aload_n hK rfl 0 rfl dX12_readBit_188 ?_
                        refine TT_ldc2 hK lc_X12_193 dX12_readBit_189 ?_
                        refine TT_aload_n hK rfl 0 rfl dX12_readBit_192 ?_
                        refine gf_X12_171 hK (by decide) rfl (v := (w166_187 73) 32) (hG_210.2 32 (by decide)) dX12_readBit_193 ?_
                        refine TT_lmul hK dX12_readBit_196 ?_
                        refine pf_X12_171 hK (by decide) rfl dX12_readBit_197 ?_
                        refine TT_hp (h' := setO g185_210 73 (fup (g185_210 73) 32 (2 * ((w166_187 73) 32)))) (up_can rfl rfl rfl) ?_
                        have hT_211 : TY (setO g185_210 73 (fup (g185_210 73) 32 (2 * ((w166_187 73) 32)))) := tu_73_32 hT_210 (show up g185_210 73 32 (2 * ((w166_187 73) 32)) = (setO g185_210 73 (fup (g185_210 73) 32 (2 * ((w166_187 73) 32)))) from up_can rfl rfl rfl) (by omega)
                        have hF_211 : FRM [73, 96, 97] [32, 33, 34, 39] h (setO g185_210 73 (fup (g185_210 73) 32 (2 * ((w166_187 73) 32)))) := FRM_f (show up g185_210 73 32 (2 * ((w166_187 73) 32)) = (setO g185_210 73 (fup (g185_210 73) 32 (2 * ((w166_187 73) 32)))) from up_can rfl rfl rfl) hF_210 (by decide) (by decide)
                        refine TT_aload_n hK rfl 0 rfl dX12_readBit_200 ?_
                        refine TT_ldc2 hK lc_X12_193 dX12_readBit_201 ?_
                        refine TT_aload_n hK rfl 0 rfl dX12_readBit_204 ?_
                        refine gf_X12_175 hK (by decide) rfl (v := (g185_210 73) 33) (rd_ (sOf_eq _ _ _) (fup_ne _ _ (by decide))) dX12_readBit_205 ?_
                        have r212 := ty_73_33 (v := (g185_210 73) 33) hT_211 (rd_ (sOf_eq _ _ _) (fup_ne _ _ (by decide)))
                        refine TT_lmul hK dX12_readBit_208 ?_
                        refine TT_w64g (fun x209_213 hx213 hy209_213 => ?_)
                        refine pf_X12_175 hK (by decide) rfl dX12_readBit_209 ?_
                        refine TT_hp (h' := setO g185_210 73 (fup (fup (g185_210 73) 32 (2 * ((w166_187 73) 32))) 33 x209_213)) (up_can (sOf_eq _ _ _) rfl (setO_same _ _ _ _)) ?_
                        have hT_214 : TY (setO g185_210 73 (fup (fup (g185_210 73) 32 (2 * ((w166_187 73) 32))) 33 x209_213)) := tu_73_33 hT_211 (show up (setO g185_210 73 (fup (g185_210 73) 32 (2 * ((w166_187 73) 32)))) 73 33 x209_213 = (setO g185_210 73 (fup (fup (g185_210 73) 32 (2 * ((w166_187 73) 32))) 33 x209_213)) from up_can (sOf_eq _ _ _) rfl (setO_same _ _ _ _)) (by omega)
                        have hF_214 : FRM [73, 96, 97] [32, 33, 34, 39] h (setO g185_210 73 (fup (fup (g185_210 73) 32 (2 * ((w166_187 73) 32))) 33 x209_213)) := FRM_f (show up (setO g185_210 73 (fup (g185_210 73) 32 (2 * ((w166_187 73) 32)))) 73 33 x209_213 = (setO g185_210 73 (fup (fup (g185_210 73) 32 (2 * ((w166_187 73) 32))) 33 x209_213)) from up_can (sOf_eq _ _ _) rfl (setO_same _ _ _ _)) hF_211 (by decide) (by decide)
                        refine TT_aload_n hK rfl 0 rfl dX12_readBit_212 ?_
                        refine TT_dup hK rfl dX12_readBit_213 ?_
                        refine gf_X12_178 hK (by decide) rfl (v := (g185_210 73) 34) (rd_ (sOf_eq _ _ _) ((fup_ne _ _ (by decide)).trans (fup_ne _ _ (by decide)))) dX12_readBit_214 ?_
                        have r215 := ty_73_34 (v := (g185_210 73) 34) hT_214 (rd_ (sOf_eq _ _ _) ((fup_ne _ _ (by decide)).trans (fup_ne _ _ (by decide))))
                        refine TT_iconst hK dX12_readBit_217 ?_
                        refine TT_isub hK dX12_readBit_218 ?_
                        refine pf_X12_178 hK (by decide) rfl dX12_readBit_219 ?_
                        refine TT_hp (h' := setO g185_210 73 (fup (fup (fup (g185_210 73) 32 (2 * ((w166_187 73) 32))) 33 x209_213) 34 (((g185_210 73) 34) - 1))) (up_can (sOf_eq _ _ _) rfl (setO_same _ _ _ _)) ?_
                        have hT_216 : TY (setO g185_210 73 (fup (fup (fup (g185_210 73) 32 (2 * ((w166_187 73) 32))) 33 x209_213) 34 (((g185_210 73) 34) - 1))) := tu_73_34 hT_214 (show up (setO g185_210 73 (fup (fup (g185_210 73) 32 (2 * ((w166_187 73) 32))) 33 x209_213)) 73 34 (((g185_210 73) 34) - 1) = (setO g185_210 73 (fup (fup (fup (g185_210 73) 32 (2 * ((w166_187 73) 32))) 33 x209_213) 34 (((g185_210 73) 34) - 1))) from up_can (sOf_eq _ _ _) rfl (setO_same _ _ _ _)) (by omega)
                        have hF_216 : FRM [73, 96, 97] [32, 33, 34, 39] h (setO g185_210 73 (fup (fup (fup (g185_210 73) 32 (2 * ((w166_187 73) 32))) 33 x209_213) 34 (((g185_210 73) 34) - 1))) := FRM_f (show up (setO g185_210 73 (fup (fup (g185_210 73) 32 (2 * ((w166_187 73) 32))) 33 x209_213)) 73 34 (((g185_210 73) 34) - 1) = (setO g185_210 73 (fup (fup (fup (g185_210 73) 32 (2 * ((w166_187 73) 32))) 33 x209_213) 34 (((g185_210 73) 34) - 1))) from up_can (sOf_eq _ _ _) rfl (setO_same _ _ _ _)) hF_214 (by decide) (by decide)
                        refine TT_goto hK (tgt := 166) dX12_readBit_222 (by decide) ?_
                        have e217_73_32 : (setO g185_210 73 (fup (fup (fup (g185_210 73) 32 (2 * ((w166_187 73) 32))) 33 x209_213) 34 (((g185_210 73) 34) - 1))) 73 32 = 2 * ((w166_187 73) 32) := rd_ (sOf_eq _ _ _) ((fup_ne _ _ (by decide)).trans ((fup_ne _ _ (by decide)).trans (fup_eq _ _ _)))
                        have e218_73_32 : (setO g185_210 73 (fup (fup (fup (g185_210 73) 32 (2 * ((w166_187 73) 32))) 33 x209_213) 34 (((g185_210 73) 34) - 1))) 73 32 = 2 * ((w166_187 73) 32) := rd_ (sOf_eq _ _ _) ((fup_ne _ _ (by decide)).trans ((fup_ne _ _ (by decide)).trans (fup_eq _ _ _)))
                        have e219_73_33 : (setO g185_210 73 (fup (fup (fup (g185_210 73) 32 (2 * ((w166_187 73) 32))) 33 x209_213) 34 (((g185_210 73) 34) - 1))) 73 33 = x209_213 := rd_ (sOf_eq _ _ _) ((fup_ne _ _ (by decide)).trans (fup_eq _ _ _))
                        have e220_73_34 : (setO g185_210 73 (fup (fup (fup (g185_210 73) 32 (2 * ((w166_187 73) 32))) 33 x209_213) 34 (((g185_210 73) 34) - 1))) 73 34 = ((g185_210 73) 34) - 1 := rd_ (sOf_eq _ _ _) (fup_eq _ _ _)
                        have e221_73_39 : (setO g185_210 73 (fup (fup (fup (g185_210 73) 32 (2 * ((w166_187 73) 32))) 33 x209_213) 34 (((g185_210 73) 34) - 1))) 73 39 = (g185_210 73) 39 := rd_ (sOf_eq _ _ _) ((fup_ne _ _ (by decide)).trans ((fup_ne _ _ (by decide)).trans (fup_ne _ _ (by decide))))
                        have e222_96 : (setO g185_210 73 (fup (fup (fup (g185_210 73) 32 (2 * ((w166_187 73) 32))) 33 x209_213) 34 (((g185_210 73) 34) - 1))) 96 = w166_187 96 := (sOf_ne _ _ (by decide)).trans (hG_210.1 96 (by decide))
                        have e223_97 : (setO g185_210 73 (fup (fup (fup (g185_210 73) 32 (2 * ((w166_187 73) 32))) 33 x209_213) 34 (((g185_210 73) 34) - 1))) 97 = w166_187 97 := (sOf_ne _ _ (by decide)).trans (hG_210.1 97 (by decide))
                        have e224_73_32 : (setO g185_210 73 (fup (fup (fup (g185_210 73) 32 (2 * ((w166_187 73) 32))) 33 x209_213) 34 (((g185_210 73) 34) - 1))) 73 32 = 2 * ((w166_187 73) 32) := rd_ (sOf_eq _ _ _) ((fup_ne _ _ (by decide)).trans ((fup_ne _ _ (by decide)).trans (fup_eq _ _ _)))
                        exact ih187 bt R9 (setO g185_210 73 (fup (fup (fup (g185_210 73) 32 (2 * ((w166_187 73) 32))) 33 x209_213) 34 (((g185_210 73) 34) - 1))) hT_216 hF_216 (by first | omega | (simp [up, setR] <;> omega)) (by rewrite [e217_73_32]; first | omega | (simp [up, setR] <;> omega)) (by rewrite [e218_73_32, e219_73_33, e220_73_34, e221_73_39]; intro hc9; obtain ⟨f, hf⟩ := hC hc9; have hb9 := RJC_b hf; cases f with | zero => exact absurd (RJ_z hf.1) (by omega) | succ f => first | exact ⟨f, RJC_next hf (by omega) (by omega) (by omega)⟩ | exact ⟨f, RJC_in hc9.2.1 hf (by omega) (by omega) (in_at185 (by omega)) (fun q => by omega)⟩) (by rewrite [e222_96, e223_97]; exact hR) (by rewrite [e224_73_32]; first | omega | (simp [up, setR] <;> omega))
                refine TT_sub [5, 6, 0] rfl ?_
                have e225_73_32 : g163_186 73 32 = qS (h 96 x) := (congrFun (hG_186.1 73 (by decide)) 32).trans (rd_ (sOf_eq _ _ _) (fup_eq _ _ _))
                have e226_73_32 : g163_186 73 32 = qS (h 96 x) := (congrFun (hG_186.1 73 (by decide)) 32).trans (rd_ (sOf_eq _ _ _) (fup_eq _ _ _))
                have e227_73_33 : g163_186 73 33 = (h 73) 33 := (congrFun (hG_186.1 73 (by decide)) 33).trans (rd_ (sOf_eq _ _ _) (fup_ne _ _ (by decide)))
                have e228_73_34 : g163_186 73 34 = (h 73) 34 := (congrFun (hG_186.1 73 (by decide)) 34).trans (rd_ (sOf_eq _ _ _) (fup_ne _ _ (by decide)))
                have e229_73_39 : g163_186 73 39 = (h 73) 39 := (congrFun (hG_186.1 73 (by decide)) 39).trans (rd_ (sOf_eq _ _ _) (fup_ne _ _ (by decide)))
                exact L166_187 ((((65536 : Int) - (g163_186 73 32)).toNat) + 1) ((h 97) x) (rmS fxM (h 99) (h 73 38) 15 (qS (h 96 x)) ((h 73) 33) ((h 73) 34) ((h 73) 39)) g163_186 hT_186 hF_186 (by first | omega | (simp [up, setR] <;> omega)) (by rewrite [e225_73_32]; first | omega | (simp [up, setR] <;> omega)) (by rewrite [e226_73_32, e227_73_33, e228_73_34, e229_73_39]; intro hc9; obtain ⟨⟨u1, u2⟩, u3, u4⟩ := hc9; exact ⟨15, RJC_0 (RQ_rd (x := x) (st := h 96) (P := lwC (h 73 33) < qS (h 96 x)) u4 ha.1 hs (by first | exact (if_pos (by omega)).symm | exact (if_neg (by omega)).symm)) (by omega)⟩) (by intro hc9; obtain ⟨⟨u1, u2⟩, u3, u4⟩ := hc9; rw [l1_at163, l2_at163]; exact rdS_m (by omega) (by first | exact (if_pos (by omega)).symm | exact (if_neg (by omega)).symm) (by split <;> omega) (by omega) (by first | exact (if_pos (by omega)).symm | exact (if_neg (by omega)).symm)) (Nat.lt_succ_self _)
            · exact absurd hb120_180 (by decide)
          · exact absurd hb103_179 (by decide)
    · exact absurd hb44_123 (by decide)

/-! the reference reads heads: missing bits are 0, its values are capped elsewhere -/
def IM2 (p q r : Prop) : Prop := p → q → r
def HID (p : Prop) : Prop := p
theorem HI_e {p : Prop} (h : HID p) : p := h
def RVQ (r c : Int) : Prop := (c < 1048576 → r = c) ∧ (1048576 ≤ c → 1048576 ≤ r)
theorem RVQ_t (o : Int → Int) (p : Int) (k : Nat) : RVQ (rbS o p k) (tbS o p k) := tb_rb k
theorem bt_o {o : Int → Int} {a u p x : Int} (hu : 0 ≤ u ∧ u ≤ 7) (hp : p = 8 * a + u) (hx : x = o a) : x / 2 ^ (7 - u).toNat % 2 = bitO o p := by
  unfold bitO
  rw [hp, show (8 * a + u) / 8 = a by omega, show (8 * a + u) % 8 = u by omega, hx]
/-- a reading of n bits at p: m says whether bits are missing -/
def GBQ (o : Int → Int) (e m p n z m2 p2 : Int) : Prop := (m = 0 → n ≤ e - p → (z = rbS o p n.toNat ∧ m2 = 0) ∧ p2 = p + n) ∧ (m = 0 → e - p < n → m2 = 1) ∧ (m = 1 → z = 0 ∧ m2 = 1) ∧ (n = 1 → m2 = 1 → z = 0)
theorem GB_c {o : Int → Int} {e m p n z m2 p2 : Int} {k : Nat} (h : GBQ o e m p n z m2 p2) (hm : 0 ≤ m ∧ m ≤ 1) (hk : n = (k : Int)) (hk5 : k ≤ 5) : (m = 0 ∧ n ≤ e - p ∧ z = tbS o p k ∧ m2 = 0 ∧ p2 = p + n) ∨ (m2 = 1 ∧ (m = 1 ∨ (m = 0 ∧ e - p < n))) := by
  unfold GBQ at h
  rcases (show m = 0 ∨ m = 1 by omega) with m0 | m1
  · by_cases c : n ≤ e - p
    · have u := h.1 m0 c
      refine Or.inl ⟨m0, c, ?_, u.1.2, u.2⟩
      rw [u.1.1, show n.toNat = k by omega, rb_5 hk5]
    · exact Or.inr ⟨h.2.1 m0 (by omega), Or.inr ⟨m0, by omega⟩⟩
  · exact Or.inr ⟨(h.2.2.1 m1).2, Or.inl m1⟩
theorem GBQ_p {o : Int → Int} {e m p q n z m2 p2 : Int} (h : GBQ o e m p n z m2 p2) (hp : p = q) : GBQ o e m q n z m2 p2 := hp ▸ h
theorem GB_1 {o : Int → Int} {e m p n z m2 p2 : Int} (h : GBQ o e m p n z m2 p2) (hm : m = 1) : m2 = 1 := (h.2.2.1 hm).2
/-- a count: n passes, m2 says whether it is missing -/
def GPQ (o : Int → Int) (e m p n m2 p2 : Int) : Prop := (m = 0 → 0 ≤ (ctS o e p).1 → (n = (ctS o e p).1 ∧ m2 = 0) ∧ p2 = (ctS o e p).2) ∧ (m = 0 → (ctS o e p).1 < 0 → m2 = 1) ∧ (m = 1 → m2 = 1)
theorem GP_y {o : Int → Int} {e m p n m2 p2 : Int} (hm : m = 0) (he : ctS o e p = (n, p2)) (hn : 0 ≤ n) (h2 : m2 = 0) : GPQ o e m p n m2 p2 := by
  unfold GPQ
  rw [he]
  exact ⟨fun _ _ => ⟨⟨rfl, h2⟩, rfl⟩, fun _ q => absurd q (show ¬ n < 0 by omega), fun q => by omega⟩
theorem GP_z {o : Int → Int} {e m p n m2 p2 : Int} (h2 : m2 = 1) (h : m = 1 ∨ (ctS o e p).1 = -1) : GPQ o e m p n m2 p2 := by
  refine ⟨fun q q2 => ?_, fun _ _ => h2, fun _ => h2⟩
  exfalso
  rcases h with h | h
  · rw [q] at h
    exact absurd h (by decide)
  · rw [h] at q2
    exact absurd q2 (by decide)
theorem ct_1 {o : Int → Int} {e p : Int} (c1 : e - p < 1) : (ctS o e p).1 = -1 := by
  unfold ctS
  rw [if_pos c1]
theorem ct_2 {o : Int → Int} {e p : Int} (c1 : 1 ≤ e - p) (b1 : tbS o p 1 = 0) : ctS o e p = (1, p + 1) := by
  unfold ctS
  rw [if_neg (by omega), if_pos (by omega)]
theorem ct_3 {o : Int → Int} {e p : Int} (c1 : 1 ≤ e - p) (b1 : tbS o p 1 = 1) (c2 : e - (p + 1) < 1) : (ctS o e p).1 = -1 := by
  unfold ctS
  rw [if_neg (by omega), if_neg (by omega), if_pos c2]
theorem ct_4 {o : Int → Int} {e p : Int} (c1 : 1 ≤ e - p) (b1 : tbS o p 1 = 1) (c2 : 1 ≤ e - (p + 1)) (b2 : tbS o (p + 1) 1 = 0) : ctS o e p = (2, p + 2) := by
  unfold ctS
  rw [if_neg (by omega), if_neg (by omega), if_neg (by omega), if_pos (by omega)]
theorem ct_5 {o : Int → Int} {e p : Int} (c1 : 1 ≤ e - p) (b1 : tbS o p 1 = 1) (c2 : 1 ≤ e - (p + 1)) (b2 : tbS o (p + 1) 1 = 1) (c3 : e - (p + 2) < 2) : (ctS o e p).1 = -1 := by
  unfold ctS
  rw [if_neg (by omega), if_neg (by omega), if_neg (by omega), if_neg (by omega), if_pos c3]
theorem ct_6 {o : Int → Int} {e p : Int} (c1 : 1 ≤ e - p) (b1 : tbS o p 1 = 1) (c2 : 1 ≤ e - (p + 1)) (b2 : tbS o (p + 1) 1 = 1) (c3 : 2 ≤ e - (p + 2)) (b3 : tbS o (p + 2) 2 < 3) : ctS o e p = (3 + tbS o (p + 2) 2, p + 4) := by
  unfold ctS
  rw [if_neg (by omega), if_neg (by omega), if_neg (by omega), if_neg (by omega), if_neg (by omega), if_pos (by omega)]
theorem ct_7 {o : Int → Int} {e p : Int} (c1 : 1 ≤ e - p) (b1 : tbS o p 1 = 1) (c2 : 1 ≤ e - (p + 1)) (b2 : tbS o (p + 1) 1 = 1) (c3 : 2 ≤ e - (p + 2)) (b3 : tbS o (p + 2) 2 = 3) (c4 : e - (p + 4) < 5) : (ctS o e p).1 = -1 := by
  unfold ctS
  rw [if_neg (by omega), if_neg (by omega), if_neg (by omega), if_neg (by omega), if_neg (by omega), if_neg (by omega), if_pos c4]
theorem ct_8 {o : Int → Int} {e p : Int} (c1 : 1 ≤ e - p) (b1 : tbS o p 1 = 1) (c2 : 1 ≤ e - (p + 1)) (b2 : tbS o (p + 1) 1 = 1) (c3 : 2 ≤ e - (p + 2)) (b3 : tbS o (p + 2) 2 = 3) (c4 : 5 ≤ e - (p + 4)) : ctS o e p = (6 + tbS o (p + 4) 5, p + 9) := by
  unfold ctS
  rw [if_neg (by omega), if_neg (by omega), if_neg (by omega), if_neg (by omega), if_neg (by omega), if_neg (by omega), if_neg (by omega)]
theorem GP_A {o : Int → Int} {e m p z1 m1 p1 : Int} (hm : 0 ≤ m ∧ m ≤ 1) (g1 : GBQ o e m p 1 z1 m1 p1) (h1 : z1 = 0) : GPQ o e m p 1 m1 p1 := by
  have t := tb_24 o p
  rcases GB_c (k := 1) g1 hm rfl (by decide) with ⟨m0, c1, e1, m10, ep1⟩ | ⟨m11, c⟩
  · exact GP_y m0 (by rw [ct_2 c1 (by omega), ep1]) (by decide) m10
  · rcases c with c | c
    · exact GP_z m11 (Or.inl c)
    · exact GP_z m11 (Or.inr (ct_1 c.2))
theorem GP_B {o : Int → Int} {e m p z1 m1 p1 z2 m2 p2 : Int} (hm : 0 ≤ m ∧ m ≤ 1) (g1 : GBQ o e m p 1 z1 m1 p1) (h1 : z1 ≠ 0) (g2 : GBQ o e m1 p1 1 z2 m2 p2) (h2 : z2 = 0) : GPQ o e m p 2 m2 p2 := by
  have t := tb_24 o p
  have t2 := tb_24 o (p + 1)
  rcases GB_c (k := 1) g1 hm rfl (by decide) with ⟨m0, c1, e1, m10, ep1⟩ | ⟨m11, c⟩
  · rw [ep1] at g2
    rcases GB_c (k := 1) g2 (by omega) rfl (by decide) with ⟨_, c2, e2, m20, ep2⟩ | ⟨m21, c⟩
    · exact GP_y m0 (by rw [ct_4 c1 (by omega) c2 (by omega), ep2]; exact Prod.ext rfl (show p + 2 = p + 1 + 1 by omega)) (by decide) m20
    · rcases c with c | c
      · exfalso; omega
      · exact GP_z m21 (Or.inr (ct_3 c1 (by omega) c.2))
  · have m21 := GB_1 g2 m11
    rcases c with c | c
    · exact GP_z m21 (Or.inl c)
    · exact GP_z m21 (Or.inr (ct_1 c.2))
theorem GP_C {o : Int → Int} {e m p z1 m1 p1 z2 m2 p2 z3 m3 p3 : Int} (hm : 0 ≤ m ∧ m ≤ 1) (g1 : GBQ o e m p 1 z1 m1 p1) (h1 : z1 ≠ 0) (g2 : GBQ o e m1 p1 1 z2 m2 p2) (h2 : z2 ≠ 0) (g3 : GBQ o e m2 p2 2 z3 m3 p3) (h3 : z3 < 3) : GPQ o e m p (3 + z3) m3 p3 := by
  have t := tb_24 o p
  have t2 := tb_24 o (p + 1)
  have t3 := tb_24 o (p + 2)
  rcases GB_c (k := 1) g1 hm rfl (by decide) with ⟨m0, c1, e1, m10, ep1⟩ | ⟨m11, c⟩
  · rw [ep1] at g2
    rcases GB_c (k := 1) g2 (by omega) rfl (by decide) with ⟨_, c2, e2, m20, ep2⟩ | ⟨m21, c⟩
    · rw [ep2, show p + 1 + 1 = p + 2 by omega] at g3
      rcases GB_c (k := 2) g3 (by omega) rfl (by decide) with ⟨_, c3, e3, m30, ep3⟩ | ⟨m31, c⟩
      · exact GP_y m0 (by rw [ct_6 c1 (by omega) c2 (by omega) c3 (by omega), ep3, e3]; exact Prod.ext rfl (show p + 4 = p + 2 + 2 by omega)) (by omega) m30
      · rcases c with c | c
        · exfalso; omega
        · exact GP_z m31 (Or.inr (ct_5 c1 (by omega) c2 (by omega) c.2))
    · have m31 := GB_1 g3 m21
      rcases c with c | c
      · exfalso; omega
      · exact GP_z m31 (Or.inr (ct_3 c1 (by omega) c.2))
  · have m31 := GB_1 g3 (GB_1 g2 m11)
    rcases c with c | c
    · exact GP_z m31 (Or.inl c)
    · exact GP_z m31 (Or.inr (ct_1 c.2))
theorem GP_D {o : Int → Int} {e m p z1 m1 p1 z2 m2 p2 z3 m3 p3 z4 m4 p4 : Int} (hm : 0 ≤ m ∧ m ≤ 1) (g1 : GBQ o e m p 1 z1 m1 p1) (h1 : z1 ≠ 0) (g2 : GBQ o e m1 p1 1 z2 m2 p2) (h2 : z2 ≠ 0) (g3 : GBQ o e m2 p2 2 z3 m3 p3) (h3 : 3 ≤ z3) (g4 : GBQ o e m3 p3 5 z4 m4 p4) : GPQ o e m p (6 + z4) m4 p4 := by
  have t := tb_24 o p
  have t2 := tb_24 o (p + 1)
  have t3 := tb_24 o (p + 2)
  have t4 := tb_24 o (p + 4)
  rcases GB_c (k := 1) g1 hm rfl (by decide) with ⟨m0, c1, e1, m10, ep1⟩ | ⟨m11, c⟩
  · rw [ep1] at g2
    rcases GB_c (k := 1) g2 (by omega) rfl (by decide) with ⟨_, c2, e2, m20, ep2⟩ | ⟨m21, c⟩
    · rw [ep2, show p + 1 + 1 = p + 2 by omega] at g3
      rcases GB_c (k := 2) g3 (by omega) rfl (by decide) with ⟨_, c3, e3, m30, ep3⟩ | ⟨m31, c⟩
      · rw [ep3, show p + 2 + 2 = p + 4 by omega] at g4
        rcases GB_c (k := 5) g4 (by omega) rfl (by decide) with ⟨_, c4, e4, m40, ep4⟩ | ⟨m41, c⟩
        · exact GP_y m0 (by rw [ct_8 c1 (by omega) c2 (by omega) c3 (by omega) c4, ep4, e4]; exact Prod.ext rfl (show p + 9 = p + 4 + 5 by omega)) (by omega) m40
        · rcases c with c | c
          · exfalso; omega
          · exact GP_z m41 (Or.inr (ct_7 c1 (by omega) c2 (by omega) c3 (by omega) c.2))
      · have m41 := GB_1 g4 m31
        rcases c with c | c
        · exfalso; omega
        · exact GP_z m41 (Or.inr (ct_5 c1 (by omega) c2 (by omega) c.2))
    · have m41 := GB_1 g4 (GB_1 g3 m21)
      rcases c with c | c
      · exfalso; omega
      · exact GP_z m41 (Or.inr (ct_3 c1 (by omega) c.2))
  · have m41 := GB_1 g4 (GB_1 g3 (GB_1 g2 m11))
    rcases c with c | c
    · exact GP_z m41 (Or.inl c)
    · exact GP_z m41 (Or.inr (ct_1 c.2))
set_option maxRecDepth 20000 in
theorem s_getBits_e (n : Int) (h : Hp_) (hT : TY h) (hn : -2147483648 ≤ n ∧ n ≤ 2147483647) (hn0 : 1 ≤ n ∧ n ≤ 40000) (h44 : (h 73 44) ≤ 4400) (hm9 : 0 ≤ (h 73 45) ∧ (h 73 45) ≤ 1) : Ctr yX12_getBits cX12_getBits 5 (some .int) (rmd 1) ly ly 0 0 [vR 73, vI n] h (fun r h' => (TY h' ∧ FRM [73] [42, 43, 45] h h') ∧ ∃ z : Int, r = some (vI z) ∧ (0 ≤ z ∧ z ≤ 536870911) ∧ ((n = 1 → z ≤ 1) ∧ (n = 2 → z ≤ 3) ∧ (n = 4 → z ≤ 15) ∧ (n = 5 → z ≤ 31)) ∧ ((h' 73 45) = 0 → n = 1 → 8 * (h' 73 42) + (h' 73 43) = 8 * (h 73 42) + (h 73 43) + 1 ∧ 8 * (h' 73 42) + (h' 73 43) ≤ 8 * (h 73 44)) ∧ (8 * (h 73 42) + (h 73 43) ≤ 8 * (h' 73 42) + (h' 73 43)) ∧ (GBQ (h 100) (8 * (h 73 44)) (h 73 45) (8 * (h 73 42) + (h 73 43)) n z (h' 73 45) (8 * (h' 73 42) + (h' 73 43))) ∧ (0 ≤ (h' 73 45) ∧ (h' 73 45) ≤ 1)) := by
  refine Ctr_of (by decide) (Nat.le_of_ble_eq_true rfl) ⟨Nat.le_refl _, Nat.le_refl _⟩ (fun K hK hQ _ => ?_)
  show TT K ly 0 0 0 [(0, vR 73), (1, vI n)] [] h
  have hF : FRM [73] [42, 43, 45] h h := FRM_rf _ _ _
  refine TT_iconst hK dX12_getBits_0 ?_
  refine TT_istore_n hK rfl (lv' := [(2, vI 0), (0, vR 73), (1, vI n)]) (by decide) rfl dX12_getBits_1 ?_
  refine TT_iconst hK dX12_getBits_2 ?_
  refine TT_istore_n hK rfl (lv' := [(3, vI 0), (2, vI 0), (0, vR 73), (1, vI n)]) (by decide) rfl dX12_getBits_3 ?_
  have L4_1 : ∀ (k1 : Nat) (v : Int) (k : Int) (w4_1 : Hp_), TY w4_1 → FRM [73] [42, 43, 45] h w4_1 → (0 ≤ k ∧ (k ≤ n ∨ k = 0)) → (0 ≤ v ∧ v ≤ 536870911) → (v ≤ pwB k) → ((w4_1 73 45) = 0 → 8 * (w4_1 73 42) + (w4_1 73 43) = 8 * (h 73 42) + (h 73 43) + k ∧ (k = 0 ∨ 8 * (w4_1 73 42) + (w4_1 73 43) ≤ 8 * h 73 44)) → (8 * (h 73 42) + (h 73 43) ≤ 8 * (w4_1 73 42) + (w4_1 73 43)) → (k ≤ n) → (0 ≤ (w4_1 73 45) ∧ (w4_1 73 45) ≤ 1) → ((w4_1 73 45) = 0 → v = rbS (h 100) (8 * (h 73 42) + h 73 43) k.toNat) → (h 73 45 = 1 → v = 0 ∧ (w4_1 73 45) = 1) → ((w4_1 73 45) = 0 → h 73 45 = 0 ∧ (8 * (w4_1 73 42) + (w4_1 73 43)) = (8 * (h 73 42) + h 73 43) + k ∧ (k = 0 ∨ (8 * (h 73 42) + h 73 43) + k ≤ (8 * (h 73 44)))) → (h 73 45 = 0 → (w4_1 73 45) = 1 → (8 * (h 73 44)) < (8 * (h 73 42) + h 73 43) + k) → (k = 0 → v = 0) → ((w4_1 73 45) = 1 → k ≤ 1 → v = 0) → (n - k).toNat < k1 → TT K ly 0 0 4 [(0, vR 73), (1, vI n), (2, vI v), (3, vI k)] [] w4_1 := by
    intro k1
    induction k1 with
    | zero => intro v k w4_1 hT4_1 hF4_1 hk hv hpv hu hu2 hkn9 hm01 hv1 hm0 hm1 hm2 hv0 hv2 hk1; exact absurd hk1 (Nat.not_lt_zero _)
    | succ k1 ih1 =>
      intro v k w4_1 hT4_1 hF4_1 hk hv hpv hu hu2 hkn9 hm01 hv1 hm0 hm1 hm2 hv0 hv2 hk1
      refine TT_iload_n hK rfl 3 rfl dX12_getBits_4 ?_
      refine TT_iload_n hK rfl 1 rfl dX12_getBits_5 ?_
      refine TT_icmp_ge hK (tgt := 103) (irm (by omega) (by omega)) (irm (by omega) (by omega)) dX12_getBits_6 (by decide) (fun hb6_2 => ?_) (fun hb6_2 => ?_)
      · refine TT_iload_n hK rfl 2 rfl dX12_getBits_103 ?_
        refine TT_iret hK hQ ?_ dX12_getBits_104
        have e3_73_42 : w4_1 73 42 = (w4_1 73) 42 := rfl
        have e4_73_43 : w4_1 73 43 = (w4_1 73) 43 := rfl
        have e5_73_45 : w4_1 73 45 = (w4_1 73) 45 := rfl
        have e6_73_42 : w4_1 73 42 = (w4_1 73) 42 := rfl
        have e7_73_43 : w4_1 73 43 = (w4_1 73) 43 := rfl
        have e8_73_42 : w4_1 73 42 = (w4_1 73) 42 := rfl
        have e9_73_43 : w4_1 73 43 = (w4_1 73) 43 := rfl
        have e10_73_45 : w4_1 73 45 = (w4_1 73) 45 := rfl
        have e11_73_45 : w4_1 73 45 = (w4_1 73) 45 := rfl
        exact ⟨⟨hT4_1, hF4_1⟩, v, rfl, (by omega), (by exact pwX (by omega) (by omega) hpv), (by rewrite [e3_73_42, e4_73_43, e5_73_45]; omega), (by rewrite [e6_73_42, e7_73_43]; omega), (by rewrite [e8_73_42, e9_73_43, e10_73_45]; exact ⟨fun q1 q2 => ⟨⟨by rw [show n = k by omega]; exact hv1 (by omega), by omega⟩, by omega⟩, fun q1 q2 => by omega, fun q1 => by omega, fun q1 q2 => by omega⟩), (by rewrite [e11_73_45]; omega)⟩
      · refine TT_aload_n hK rfl 0 rfl dX12_getBits_9 ?_
        refine TT_aload_n hK rfl 0 rfl dX12_getBits_10 ?_
        refine gf_X12_365 hK (by decide) rfl (v := (w4_1 73) 45) rfl dX12_getBits_11 ?_
        have r12 := ty_73_45 (v := (w4_1 73) 45) hT4_1 rfl
        refine TT_if_ne hK (tgt := 28) (irm (by omega) (by omega)) dX12_getBits_14 (by decide) (fun hb14_13 => ?_) (fun hb14_13 => ?_)
        · refine TT_iconst hK dX12_getBits_28 ?_
          refine TT_goto hK (tgt := 33) dX12_getBits_29 (by decide) ?_
          refine pf_X12_365 hK (by decide) rfl (by first | decide | omega) dX12_getBits_33 ?_
          refine TT_hp (h' := setO w4_1 73 (fup (w4_1 73) 45 1)) (up_can rfl rfl rfl) ?_
          have hT_14 : TY (setO w4_1 73 (fup (w4_1 73) 45 1)) := tu_73_45 hT4_1 (show up w4_1 73 45 1 = (setO w4_1 73 (fup (w4_1 73) 45 1)) from up_can rfl rfl rfl) (by omega)
          have hF_14 : FRM [73] [42, 43, 45] h (setO w4_1 73 (fup (w4_1 73) 45 1)) := FRM_f (show up w4_1 73 45 1 = (setO w4_1 73 (fup (w4_1 73) 45 1)) from up_can rfl rfl rfl) hF4_1 (by decide) (by decide)
          refine TT_aload_n hK rfl 0 rfl dX12_getBits_36 ?_
          refine gf_X12_365 hK (by decide) rfl (v := 1) (rd_ (sOf_eq _ _ _) (fup_eq _ _ _)) dX12_getBits_37 ?_
          refine TT_if_eq hK (tgt := 47) (by decide) dX12_getBits_40 (by decide) (fun hb40_15 => ?_) (fun hb40_15 => ?_)
          · exact absurd hb40_15 (by decide)
          · refine TT_iconst hK dX12_getBits_43 ?_
            refine TT_goto hK (tgt := 66) dX12_getBits_44 (by decide) ?_
            have u43 := ty_73_43 (v := (w4_1 73) 43) hT4_1 rfl
            refine TT_istore hK (lv' := [(4, vI 0), (0, vR 73), (1, vI n), (2, vI v), (3, vI k)]) (by decide) rfl dX12_getBits_66 ?_
            refine TT_iload_n hK rfl 3 rfl dX12_getBits_68 ?_
            refine TT_ldcw hK lc_X12_371 dX12_getBits_69 ?_
            refine TT_icmp_lt hK (tgt := 79) (irm (by omega) (by omega)) (by decide) dX12_getBits_72 (by decide) (fun hb72_16 => ?_) (fun hb72_16 => ?_)
            · refine TT_iconst hK dX12_getBits_79 ?_
              refine TT_iload_n hK rfl 3 rfl dX12_getBits_80 ?_
              refine TT_imul hK dX12_getBits_81 ?_
              refine TT_iload hK 0 rfl dX12_getBits_82 ?_
              refine TT_iadd hK dX12_getBits_84 ?_
              refine TT_istore_n hK rfl (lv' := [(2, vI ((2 * v) + 0)), (4, vI 0), (0, vR 73), (1, vI n), (3, vI k)]) (by decide) rfl dX12_getBits_85 ?_
              refine TT_aload_n hK rfl 2 rfl dX12_getBits_86 ?_
              refine gf_X12_365 hK (by decide) rfl (v := 1) (rd_ (sOf_eq _ _ _) (fup_eq _ _ _)) dX12_getBits_87 ?_
              refine TT_if_ne hK (tgt := 97) (by decide) dX12_getBits_90 (by decide) (fun hb90_17 => ?_) (fun hb90_17 => ?_)
              · refine TT_iinc hK (v := k + 1) (lv' := [(3, vI (k + 1)), (2, vI ((2 * v) + 0)), (4, vI 0), (0, vR 73), (1, vI n)]) 4 rfl rfl (by decide) rfl dX12_getBits_97 ?_
                refine TT_goto hK (tgt := 4) dX12_getBits_100 (by decide) ?_
                refine TT_sub [3, 4, 1, 0] rfl ?_
                have e18_73_42 : (setO w4_1 73 (fup (w4_1 73) 45 1)) 73 42 = (w4_1 73) 42 := rd_ (sOf_eq _ _ _) (fup_ne _ _ (by decide))
                have e19_73_43 : (setO w4_1 73 (fup (w4_1 73) 45 1)) 73 43 = (w4_1 73) 43 := rd_ (sOf_eq _ _ _) (fup_ne _ _ (by decide))
                have e20_73_45 : (setO w4_1 73 (fup (w4_1 73) 45 1)) 73 45 = 1 := rd_ (sOf_eq _ _ _) (fup_eq _ _ _)
                have e21_73_42 : (setO w4_1 73 (fup (w4_1 73) 45 1)) 73 42 = (w4_1 73) 42 := rd_ (sOf_eq _ _ _) (fup_ne _ _ (by decide))
                have e22_73_43 : (setO w4_1 73 (fup (w4_1 73) 45 1)) 73 43 = (w4_1 73) 43 := rd_ (sOf_eq _ _ _) (fup_ne _ _ (by decide))
                have e23_73_45 : (setO w4_1 73 (fup (w4_1 73) 45 1)) 73 45 = 1 := rd_ (sOf_eq _ _ _) (fup_eq _ _ _)
                have e24_73_45 : (setO w4_1 73 (fup (w4_1 73) 45 1)) 73 45 = 1 := rd_ (sOf_eq _ _ _) (fup_eq _ _ _)
                have e25_73_45 : (setO w4_1 73 (fup (w4_1 73) 45 1)) 73 45 = 1 := rd_ (sOf_eq _ _ _) (fup_eq _ _ _)
                have e26_73_42 : (setO w4_1 73 (fup (w4_1 73) 45 1)) 73 42 = (w4_1 73) 42 := rd_ (sOf_eq _ _ _) (fup_ne _ _ (by decide))
                have e27_73_43 : (setO w4_1 73 (fup (w4_1 73) 45 1)) 73 43 = (w4_1 73) 43 := rd_ (sOf_eq _ _ _) (fup_ne _ _ (by decide))
                have e28_73_45 : (setO w4_1 73 (fup (w4_1 73) 45 1)) 73 45 = 1 := rd_ (sOf_eq _ _ _) (fup_eq _ _ _)
                have e29_73_45 : (setO w4_1 73 (fup (w4_1 73) 45 1)) 73 45 = 1 := rd_ (sOf_eq _ _ _) (fup_eq _ _ _)
                have e30_73_45 : (setO w4_1 73 (fup (w4_1 73) 45 1)) 73 45 = 1 := rd_ (sOf_eq _ _ _) (fup_eq _ _ _)
                exact ih1 ((2 * v) + 0) (k + 1) (setO w4_1 73 (fup (w4_1 73) 45 1)) hT_14 hF_14 (by first | omega | (simp [up, setR] <;> omega)) (by first | omega | (simp [up, setR] <;> omega)) (by first | exact pwS (by omega) hv hpv (by omega) (by omega) | exact pwT (by omega) hpv (by omega)) (by rewrite [e18_73_42, e19_73_43, e20_73_45]; first | omega | (simp [up, setR] <;> omega)) (by rewrite [e21_73_42, e22_73_43]; first | omega | (simp [up, setR] <;> omega)) (by first | omega | (simp [up, setR] <;> omega)) (by rewrite [e23_73_45]; first | omega | (simp [up, setR] <;> omega)) (by rewrite [e24_73_45]; intro q9; first | (exfalso; omega) | (rw [show (k + 1).toNat = k.toNat + 1 by omega, rbS_s, ← hv1 (by omega)]; first | (rw [if_pos (by omega)]) | (rw [if_neg (by omega), ← bz9]))) (by rewrite [e25_73_45]; first | omega | (simp [up, setR] <;> omega)) (by rewrite [e26_73_42, e27_73_43, e28_73_45]; first | omega | (simp [up, setR] <;> omega)) (by rewrite [e29_73_45]; first | omega | (simp [up, setR] <;> omega)) (by first | omega | (simp [up, setR] <;> omega)) (by rewrite [e30_73_45]; first | omega | (simp [up, setR] <;> omega)) (by first | omega | (simp [up, setR] <;> omega))
              · exact absurd hb90_17 (by decide)
            · refine TT_iload_n hK rfl 3 rfl dX12_getBits_75 ?_
              refine TT_goto hK (tgt := 85) dX12_getBits_76 (by decide) ?_
              refine TT_istore_n hK rfl (lv' := [(2, vI v), (4, vI 0), (0, vR 73), (1, vI n), (3, vI k)]) (by decide) rfl dX12_getBits_85 ?_
              refine TT_aload_n hK rfl 2 rfl dX12_getBits_86 ?_
              refine gf_X12_365 hK (by decide) rfl (v := 1) (rd_ (sOf_eq _ _ _) (fup_eq _ _ _)) dX12_getBits_87 ?_
              refine TT_if_ne hK (tgt := 97) (by decide) dX12_getBits_90 (by decide) (fun hb90_31 => ?_) (fun hb90_31 => ?_)
              · refine TT_iinc hK (v := k + 1) (lv' := [(3, vI (k + 1)), (2, vI v), (4, vI 0), (0, vR 73), (1, vI n)]) 4 rfl rfl (by decide) rfl dX12_getBits_97 ?_
                refine TT_goto hK (tgt := 4) dX12_getBits_100 (by decide) ?_
                refine TT_sub [3, 4, 1, 0] rfl ?_
                have e32_73_42 : (setO w4_1 73 (fup (w4_1 73) 45 1)) 73 42 = (w4_1 73) 42 := rd_ (sOf_eq _ _ _) (fup_ne _ _ (by decide))
                have e33_73_43 : (setO w4_1 73 (fup (w4_1 73) 45 1)) 73 43 = (w4_1 73) 43 := rd_ (sOf_eq _ _ _) (fup_ne _ _ (by decide))
                have e34_73_45 : (setO w4_1 73 (fup (w4_1 73) 45 1)) 73 45 = 1 := rd_ (sOf_eq _ _ _) (fup_eq _ _ _)
                have e35_73_42 : (setO w4_1 73 (fup (w4_1 73) 45 1)) 73 42 = (w4_1 73) 42 := rd_ (sOf_eq _ _ _) (fup_ne _ _ (by decide))
                have e36_73_43 : (setO w4_1 73 (fup (w4_1 73) 45 1)) 73 43 = (w4_1 73) 43 := rd_ (sOf_eq _ _ _) (fup_ne _ _ (by decide))
                have e37_73_45 : (setO w4_1 73 (fup (w4_1 73) 45 1)) 73 45 = 1 := rd_ (sOf_eq _ _ _) (fup_eq _ _ _)
                have e38_73_45 : (setO w4_1 73 (fup (w4_1 73) 45 1)) 73 45 = 1 := rd_ (sOf_eq _ _ _) (fup_eq _ _ _)
                have e39_73_45 : (setO w4_1 73 (fup (w4_1 73) 45 1)) 73 45 = 1 := rd_ (sOf_eq _ _ _) (fup_eq _ _ _)
                have e40_73_42 : (setO w4_1 73 (fup (w4_1 73) 45 1)) 73 42 = (w4_1 73) 42 := rd_ (sOf_eq _ _ _) (fup_ne _ _ (by decide))
                have e41_73_43 : (setO w4_1 73 (fup (w4_1 73) 45 1)) 73 43 = (w4_1 73) 43 := rd_ (sOf_eq _ _ _) (fup_ne _ _ (by decide))
                have e42_73_45 : (setO w4_1 73 (fup (w4_1 73) 45 1)) 73 45 = 1 := rd_ (sOf_eq _ _ _) (fup_eq _ _ _)
                have e43_73_45 : (setO w4_1 73 (fup (w4_1 73) 45 1)) 73 45 = 1 := rd_ (sOf_eq _ _ _) (fup_eq _ _ _)
                have e44_73_45 : (setO w4_1 73 (fup (w4_1 73) 45 1)) 73 45 = 1 := rd_ (sOf_eq _ _ _) (fup_eq _ _ _)
                exact ih1 v (k + 1) (setO w4_1 73 (fup (w4_1 73) 45 1)) hT_14 hF_14 (by first | omega | (simp [up, setR] <;> omega)) (by first | omega | (simp [up, setR] <;> omega)) (by first | exact pwS (by omega) hv hpv (by omega) (by omega) | exact pwT (by omega) hpv (by omega)) (by rewrite [e32_73_42, e33_73_43, e34_73_45]; first | omega | (simp [up, setR] <;> omega)) (by rewrite [e35_73_42, e36_73_43]; first | omega | (simp [up, setR] <;> omega)) (by first | omega | (simp [up, setR] <;> omega)) (by rewrite [e37_73_45]; first | omega | (simp [up, setR] <;> omega)) (by rewrite [e38_73_45]; intro q9; first | (exfalso; omega) | (rw [show (k + 1).toNat = k.toNat + 1 by omega, rbS_s, ← hv1 (by omega)]; first | (rw [if_pos (by omega)]) | (rw [if_neg (by omega), ← bz9]))) (by rewrite [e39_73_45]; first | omega | (simp [up, setR] <;> omega)) (by rewrite [e40_73_42, e41_73_43, e42_73_45]; first | omega | (simp [up, setR] <;> omega)) (by rewrite [e43_73_45]; first | omega | (simp [up, setR] <;> omega)) (by first | omega | (simp [up, setR] <;> omega)) (by rewrite [e44_73_45]; first | omega | (simp [up, setR] <;> omega)) (by first | omega | (simp [up, setR] <;> omega))
              · exact absurd hb90_31 (by decide)
        · refine TT_aload_n hK rfl 0 rfl dX12_getBits_17 ?_
          refine gf_X12_311 hK (by decide) rfl (v := (w4_1 73) 42) rfl dX12_getBits_18 ?_
          have r45 := ty_73_42 (v := (w4_1 73) 42) hT4_1 rfl
          refine TT_aload_n hK rfl 0 rfl dX12_getBits_21 ?_
          refine gf_X12_368 hK (by decide) rfl (v := (h 73) 44) (hF4_1.2 44 (by decide)) dX12_getBits_22 ?_
          have r46 := ty_73_44 (v := (h 73) 44) hT4_1 (hF4_1.2 44 (by decide))
          refine TT_icmp_lt hK (tgt := 32) (irm (by omega) (by omega)) (irm (by omega) (by omega)) dX12_getBits_25 (by decide) (fun hb25_47 => ?_) (fun hb25_47 => ?_)
          · refine TT_iconst hK dX12_getBits_32 ?_
            refine pf_X12_365 hK (by decide) rfl (by first | decide | omega) dX12_getBits_33 ?_
            refine TT_hp (h' := setO w4_1 73 (fup (w4_1 73) 45 0)) (up_can rfl rfl rfl) ?_
            have hT_48 : TY (setO w4_1 73 (fup (w4_1 73) 45 0)) := tu_73_45 hT4_1 (show up w4_1 73 45 0 = (setO w4_1 73 (fup (w4_1 73) 45 0)) from up_can rfl rfl rfl) (by omega)
            have hF_48 : FRM [73] [42, 43, 45] h (setO w4_1 73 (fup (w4_1 73) 45 0)) := FRM_f (show up w4_1 73 45 0 = (setO w4_1 73 (fup (w4_1 73) 45 0)) from up_can rfl rfl rfl) hF4_1 (by decide) (by decide)
            refine TT_aload_n hK rfl 0 rfl dX12_getBits_36 ?_
            refine gf_X12_365 hK (by decide) rfl (v := 0) (rd_ (sOf_eq _ _ _) (fup_eq _ _ _)) dX12_getBits_37 ?_
            refine TT_if_eq hK (tgt := 47) (by decide) dX12_getBits_40 (by decide) (fun hb40_49 => ?_) (fun hb40_49 => ?_)
            · refine TT_aload_n hK rfl 0 rfl dX12_getBits_47 ?_
              refine gf_X12_96 hK (by decide) rfl (q := 100) rfl rfl dX12_getBits_48 ?_
              refine TT_aload_n hK rfl 0 rfl dX12_getBits_51 ?_
              refine gf_X12_311 hK (by decide) rfl (v := (w4_1 73) 42) (rd_ (sOf_eq _ _ _) (fup_ne _ _ (by decide))) dX12_getBits_52 ?_
              refine TT_iald hK (o := 100) (n := 4700) (by decide) rfl (by first | omega | (simp [up, setR] <;> omega)) (by first | omega | (simp [up, setR] <;> omega)) (v := (h 100) ((w4_1 73) 42)) (rd_ ((sOf_ne _ _ (by decide)).trans (hF4_1.1 100 (by decide))) rfl) dX12_getBits_55 ?_
              have r50 := ty_100 (i := (w4_1 73) 42) (v := (h 100) ((w4_1 73) 42)) hT_48 (rd_ ((sOf_ne _ _ (by decide)).trans (hF4_1.1 100 (by decide))) rfl) (by omega) (by omega)
              refine TT_bipush hK (by decide) dX12_getBits_56 ?_
              refine TT_aload_n hK rfl 0 rfl dX12_getBits_58 ?_
              refine gf_X12_314 hK (by decide) rfl (v := (w4_1 73) 43) (rd_ (sOf_eq _ _ _) (fup_ne _ _ (by decide))) dX12_getBits_59 ?_
              have r51 := ty_73_43 (v := (w4_1 73) 43) hT_48 (rd_ (sOf_eq _ _ _) (fup_ne _ _ (by decide)))
              refine TT_isub hK dX12_getBits_62 ?_
              refine TT_ishr hK (irm (by omega) (by omega)) (by omega) (by omega) dX12_getBits_63 ?_
              refine TT_iconst hK dX12_getBits_64 ?_
              refine TT_iand hK dX12_getBits_65 ?_
              refine TT_cgI (iand_m (((h 100) ((w4_1 73) 42)) / 2 ^ (7 - ((w4_1 73) 43)).toNat) 1 (by decide)) ?_
              show TT K ly 0 0 66 [(0, vR 73), (1, vI n), (2, vI v), (3, vI k)] (vI ((((h 100) ((w4_1 73) 42)) / 2 ^ (7 - ((w4_1 73) 43)).toNat) % 2) :: []) (setO w4_1 73 (fup (w4_1 73) 45 0))
              have bz9 : (((h 100) ((w4_1 73) 42)) / 2 ^ (7 - ((w4_1 73) 43)).toNat) % 2 = bitO (h 100) ((8 * (h 73 42) + h 73 43) + (k.toNat : Int)) := bt_o (by omega) (by omega) rfl
              refine TT_istore hK (lv' := [(4, vI ((((h 100) ((w4_1 73) 42)) / 2 ^ (7 - ((w4_1 73) 43)).toNat) % 2)), (0, vR 73), (1, vI n), (2, vI v), (3, vI k)]) (by decide) rfl dX12_getBits_66 ?_
              refine TT_iload_n hK rfl 3 rfl dX12_getBits_68 ?_
              refine TT_ldcw hK lc_X12_371 dX12_getBits_69 ?_
              refine TT_icmp_lt hK (tgt := 79) (irm (by omega) (by omega)) (by decide) dX12_getBits_72 (by decide) (fun hb72_52 => ?_) (fun hb72_52 => ?_)
              · refine TT_iconst hK dX12_getBits_79 ?_
                refine TT_iload_n hK rfl 3 rfl dX12_getBits_80 ?_
                refine TT_imul hK dX12_getBits_81 ?_
                refine TT_iload hK 0 rfl dX12_getBits_82 ?_
                refine TT_iadd hK dX12_getBits_84 ?_
                refine TT_istore_n hK rfl (lv' := [(2, vI ((2 * v) + ((((h 100) ((w4_1 73) 42)) / 2 ^ (7 - ((w4_1 73) 43)).toNat) % 2))), (4, vI ((((h 100) ((w4_1 73) 42)) / 2 ^ (7 - ((w4_1 73) 43)).toNat) % 2)), (0, vR 73), (1, vI n), (3, vI k)]) (by decide) rfl dX12_getBits_85 ?_
                refine TT_aload_n hK rfl 2 rfl dX12_getBits_86 ?_
                refine gf_X12_365 hK (by decide) rfl (v := 0) (rd_ (sOf_eq _ _ _) (fup_eq _ _ _)) dX12_getBits_87 ?_
                refine TT_if_ne hK (tgt := 97) (by decide) dX12_getBits_90 (by decide) (fun hb90_53 => ?_) (fun hb90_53 => ?_)
                · exact absurd hb90_53 (by decide)
                · refine TT_aload_n hK rfl 2 rfl dX12_getBits_93 ?_
                  have e54_73_42 : (setO w4_1 73 (fup (w4_1 73) 45 0)) 73 42 = (w4_1 73) 42 := rd_ (sOf_eq _ _ _) (fup_ne _ _ (by decide))
                  refine iv_X12_317 hK (s_stepBit_e (setO w4_1 73 (fup (w4_1 73) 45 0)) hT_48 (by rewrite [e54_73_42]; first | omega | (simp [up, setR] <;> omega))) (by decide) rfl ⟨by decide, by decide⟩ (by decide) rfl rfl (Nat.le_of_ble_eq_true rfl) ⟨by decide, by decide⟩ dX12_getBits_94 ?_
                  intro r9 g94_55 hp9
                  obtain ⟨⟨hT_55, hG_55⟩, hr9, p1_55, sb_55⟩ := hp9
                  rw [hr9]
                  have hF_55 : FRM [73] [42, 43, 45] h g94_55 := FRM_tr hF_48 hG_55 (by decide) (by decide)
                  rw [show (setO w4_1 73 (fup (w4_1 73) 45 0)) 73 42 = (w4_1 73) 42 from rd_ (sOf_eq _ _ _) (fup_ne _ _ (by decide))] at p1_55
                  rw [show (setO w4_1 73 (fup (w4_1 73) 45 0)) 73 43 = (w4_1 73) 43 from rd_ (sOf_eq _ _ _) (fup_ne _ _ (by decide))] at p1_55
                  rw [show (setO w4_1 73 (fup (w4_1 73) 45 0)) 73 42 = (w4_1 73) 42 from rd_ (sOf_eq _ _ _) (fup_ne _ _ (by decide))] at sb_55
                  rw [show (setO w4_1 73 (fup (w4_1 73) 45 0)) 73 43 = (w4_1 73) 43 from rd_ (sOf_eq _ _ _) (fup_ne _ _ (by decide))] at sb_55
                  have sb_at94 := sb_55
                  show TT K ly 0 0 97 [(2, vI ((2 * v) + ((((h 100) ((w4_1 73) 42)) / 2 ^ (7 - ((w4_1 73) 43)).toNat) % 2))), (4, vI ((((h 100) ((w4_1 73) 42)) / 2 ^ (7 - ((w4_1 73) 43)).toNat) % 2)), (0, vR 73), (1, vI n), (3, vI k)] [] g94_55
                  refine TT_iinc hK (v := k + 1) (lv' := [(3, vI (k + 1)), (2, vI ((2 * v) + ((((h 100) ((w4_1 73) 42)) / 2 ^ (7 - ((w4_1 73) 43)).toNat) % 2))), (4, vI ((((h 100) ((w4_1 73) 42)) / 2 ^ (7 - ((w4_1 73) 43)).toNat) % 2)), (0, vR 73), (1, vI n)]) 4 rfl rfl (by decide) rfl dX12_getBits_97 ?_
                  refine TT_goto hK (tgt := 4) dX12_getBits_100 (by decide) ?_
                  refine TT_sub [3, 4, 1, 0] rfl ?_
                  have e56_73_42 : g94_55 73 42 = (g94_55 73) 42 := rfl
                  have e57_73_43 : g94_55 73 43 = (g94_55 73) 43 := rfl
                  have e58_73_45 : g94_55 73 45 = 0 := ((hG_55.2 45 (by decide))).trans (rd_ (sOf_eq _ _ _) (fup_eq _ _ _))
                  have e59_73_42 : g94_55 73 42 = (g94_55 73) 42 := rfl
                  have e60_73_43 : g94_55 73 43 = (g94_55 73) 43 := rfl
                  have e61_73_45 : g94_55 73 45 = 0 := ((hG_55.2 45 (by decide))).trans (rd_ (sOf_eq _ _ _) (fup_eq _ _ _))
                  have e62_73_45 : g94_55 73 45 = 0 := ((hG_55.2 45 (by decide))).trans (rd_ (sOf_eq _ _ _) (fup_eq _ _ _))
                  have e63_73_45 : g94_55 73 45 = 0 := ((hG_55.2 45 (by decide))).trans (rd_ (sOf_eq _ _ _) (fup_eq _ _ _))
                  have e64_73_42 : g94_55 73 42 = (g94_55 73) 42 := rfl
                  have e65_73_43 : g94_55 73 43 = (g94_55 73) 43 := rfl
                  have e66_73_45 : g94_55 73 45 = 0 := ((hG_55.2 45 (by decide))).trans (rd_ (sOf_eq _ _ _) (fup_eq _ _ _))
                  have e67_73_45 : g94_55 73 45 = 0 := ((hG_55.2 45 (by decide))).trans (rd_ (sOf_eq _ _ _) (fup_eq _ _ _))
                  have e68_73_45 : g94_55 73 45 = 0 := ((hG_55.2 45 (by decide))).trans (rd_ (sOf_eq _ _ _) (fup_eq _ _ _))
                  exact ih1 ((2 * v) + ((((h 100) ((w4_1 73) 42)) / 2 ^ (7 - ((w4_1 73) 43)).toNat) % 2)) (k + 1) g94_55 hT_55 hF_55 (by first | omega | (simp [up, setR] <;> omega)) (by first | omega | (simp [up, setR] <;> omega)) (by first | exact pwS (by omega) hv hpv (by omega) (by omega) | exact pwT (by omega) hpv (by omega)) (by rewrite [e56_73_42, e57_73_43, e58_73_45]; first | omega | (simp [up, setR] <;> omega)) (by rewrite [e59_73_42, e60_73_43]; first | omega | (simp [up, setR] <;> omega)) (by first | omega | (simp [up, setR] <;> omega)) (by rewrite [e61_73_45]; first | omega | (simp [up, setR] <;> omega)) (by rewrite [e62_73_45]; intro q9; first | (exfalso; omega) | (rw [show (k + 1).toNat = k.toNat + 1 by omega, rbS_s, ← hv1 (by omega)]; first | (rw [if_pos (by omega)]) | (rw [if_neg (by omega), ← bz9]))) (by rewrite [e63_73_45]; first | omega | (simp [up, setR] <;> omega)) (by rewrite [e64_73_42, e65_73_43, e66_73_45]; first | omega | (simp [up, setR] <;> omega)) (by rewrite [e67_73_45]; first | omega | (simp [up, setR] <;> omega)) (by first | omega | (simp [up, setR] <;> omega)) (by rewrite [e68_73_45]; first | omega | (simp [up, setR] <;> omega)) (by first | omega | (simp [up, setR] <;> omega))
              · refine TT_iload_n hK rfl 3 rfl dX12_getBits_75 ?_
                refine TT_goto hK (tgt := 85) dX12_getBits_76 (by decide) ?_
                refine TT_istore_n hK rfl (lv' := [(2, vI v), (4, vI ((((h 100) ((w4_1 73) 42)) / 2 ^ (7 - ((w4_1 73) 43)).toNat) % 2)), (0, vR 73), (1, vI n), (3, vI k)]) (by decide) rfl dX12_getBits_85 ?_
                refine TT_aload_n hK rfl 2 rfl dX12_getBits_86 ?_
                refine gf_X12_365 hK (by decide) rfl (v := 0) (rd_ (sOf_eq _ _ _) (fup_eq _ _ _)) dX12_getBits_87 ?_
                refine TT_if_ne hK (tgt := 97) (by decide) dX12_getBits_90 (by decide) (fun hb90_69 => ?_) (fun hb90_69 => ?_)
                · exact absurd hb90_69 (by decide)
                · refine TT_aload_n hK rfl 2 rfl dX12_getBits_93 ?_
                  have e70_73_42 : (setO w4_1 73 (fup (w4_1 73) 45 0)) 73 42 = (w4_1 73) 42 := rd_ (sOf_eq _ _ _) (fup_ne _ _ (by decide))
                  refine iv_X12_317 hK (s_stepBit_e (setO w4_1 73 (fup (w4_1 73) 45 0)) hT_48 (by rewrite [e70_73_42]; first | omega | (simp [up, setR] <;> omega))) (by decide) rfl ⟨by decide, by decide⟩ (by decide) rfl rfl (Nat.le_of_ble_eq_true rfl) ⟨by decide, by decide⟩ dX12_getBits_94 ?_
                  intro r9 g94_71 hp9
                  obtain ⟨⟨hT_71, hG_71⟩, hr9, p1_71, sb_71⟩ := hp9
                  rw [hr9]
                  have hF_71 : FRM [73] [42, 43, 45] h g94_71 := FRM_tr hF_48 hG_71 (by decide) (by decide)
                  rw [show (setO w4_1 73 (fup (w4_1 73) 45 0)) 73 42 = (w4_1 73) 42 from rd_ (sOf_eq _ _ _) (fup_ne _ _ (by decide))] at p1_71
                  rw [show (setO w4_1 73 (fup (w4_1 73) 45 0)) 73 43 = (w4_1 73) 43 from rd_ (sOf_eq _ _ _) (fup_ne _ _ (by decide))] at p1_71
                  rw [show (setO w4_1 73 (fup (w4_1 73) 45 0)) 73 42 = (w4_1 73) 42 from rd_ (sOf_eq _ _ _) (fup_ne _ _ (by decide))] at sb_71
                  rw [show (setO w4_1 73 (fup (w4_1 73) 45 0)) 73 43 = (w4_1 73) 43 from rd_ (sOf_eq _ _ _) (fup_ne _ _ (by decide))] at sb_71
                  have sb_at94 := sb_71
                  show TT K ly 0 0 97 [(2, vI v), (4, vI ((((h 100) ((w4_1 73) 42)) / 2 ^ (7 - ((w4_1 73) 43)).toNat) % 2)), (0, vR 73), (1, vI n), (3, vI k)] [] g94_71
                  refine TT_iinc hK (v := k + 1) (lv' := [(3, vI (k + 1)), (2, vI v), (4, vI ((((h 100) ((w4_1 73) 42)) / 2 ^ (7 - ((w4_1 73) 43)).toNat) % 2)), (0, vR 73), (1, vI n)]) 4 rfl rfl (by decide) rfl dX12_getBits_97 ?_
                  refine TT_goto hK (tgt := 4) dX12_getBits_100 (by decide) ?_
                  refine TT_sub [3, 4, 1, 0] rfl ?_
                  have e72_73_42 : g94_71 73 42 = (g94_71 73) 42 := rfl
                  have e73_73_43 : g94_71 73 43 = (g94_71 73) 43 := rfl
                  have e74_73_45 : g94_71 73 45 = 0 := ((hG_71.2 45 (by decide))).trans (rd_ (sOf_eq _ _ _) (fup_eq _ _ _))
                  have e75_73_42 : g94_71 73 42 = (g94_71 73) 42 := rfl
                  have e76_73_43 : g94_71 73 43 = (g94_71 73) 43 := rfl
                  have e77_73_45 : g94_71 73 45 = 0 := ((hG_71.2 45 (by decide))).trans (rd_ (sOf_eq _ _ _) (fup_eq _ _ _))
                  have e78_73_45 : g94_71 73 45 = 0 := ((hG_71.2 45 (by decide))).trans (rd_ (sOf_eq _ _ _) (fup_eq _ _ _))
                  have e79_73_45 : g94_71 73 45 = 0 := ((hG_71.2 45 (by decide))).trans (rd_ (sOf_eq _ _ _) (fup_eq _ _ _))
                  have e80_73_42 : g94_71 73 42 = (g94_71 73) 42 := rfl
                  have e81_73_43 : g94_71 73 43 = (g94_71 73) 43 := rfl
                  have e82_73_45 : g94_71 73 45 = 0 := ((hG_71.2 45 (by decide))).trans (rd_ (sOf_eq _ _ _) (fup_eq _ _ _))
                  have e83_73_45 : g94_71 73 45 = 0 := ((hG_71.2 45 (by decide))).trans (rd_ (sOf_eq _ _ _) (fup_eq _ _ _))
                  have e84_73_45 : g94_71 73 45 = 0 := ((hG_71.2 45 (by decide))).trans (rd_ (sOf_eq _ _ _) (fup_eq _ _ _))
                  exact ih1 v (k + 1) g94_71 hT_71 hF_71 (by first | omega | (simp [up, setR] <;> omega)) (by first | omega | (simp [up, setR] <;> omega)) (by first | exact pwS (by omega) hv hpv (by omega) (by omega) | exact pwT (by omega) hpv (by omega)) (by rewrite [e72_73_42, e73_73_43, e74_73_45]; first | omega | (simp [up, setR] <;> omega)) (by rewrite [e75_73_42, e76_73_43]; first | omega | (simp [up, setR] <;> omega)) (by first | omega | (simp [up, setR] <;> omega)) (by rewrite [e77_73_45]; first | omega | (simp [up, setR] <;> omega)) (by rewrite [e78_73_45]; intro q9; first | (exfalso; omega) | (rw [show (k + 1).toNat = k.toNat + 1 by omega, rbS_s, ← hv1 (by omega)]; first | (rw [if_pos (by omega)]) | (rw [if_neg (by omega), ← bz9]))) (by rewrite [e79_73_45]; first | omega | (simp [up, setR] <;> omega)) (by rewrite [e80_73_42, e81_73_43, e82_73_45]; first | omega | (simp [up, setR] <;> omega)) (by rewrite [e83_73_45]; first | omega | (simp [up, setR] <;> omega)) (by first | omega | (simp [up, setR] <;> omega)) (by rewrite [e84_73_45]; first | omega | (simp [up, setR] <;> omega)) (by first | omega | (simp [up, setR] <;> omega))
            · exact absurd hb40_49 (by decide)
          · refine TT_iconst hK dX12_getBits_28 ?_
            refine TT_goto hK (tgt := 33) dX12_getBits_29 (by decide) ?_
            refine pf_X12_365 hK (by decide) rfl (by first | decide | omega) dX12_getBits_33 ?_
            refine TT_hp (h' := setO w4_1 73 (fup (w4_1 73) 45 1)) (up_can rfl rfl rfl) ?_
            have hT_85 : TY (setO w4_1 73 (fup (w4_1 73) 45 1)) := tu_73_45 hT4_1 (show up w4_1 73 45 1 = (setO w4_1 73 (fup (w4_1 73) 45 1)) from up_can rfl rfl rfl) (by omega)
            have hF_85 : FRM [73] [42, 43, 45] h (setO w4_1 73 (fup (w4_1 73) 45 1)) := FRM_f (show up w4_1 73 45 1 = (setO w4_1 73 (fup (w4_1 73) 45 1)) from up_can rfl rfl rfl) hF4_1 (by decide) (by decide)
            refine TT_aload_n hK rfl 0 rfl dX12_getBits_36 ?_
            refine gf_X12_365 hK (by decide) rfl (v := 1) (rd_ (sOf_eq _ _ _) (fup_eq _ _ _)) dX12_getBits_37 ?_
            refine TT_if_eq hK (tgt := 47) (by decide) dX12_getBits_40 (by decide) (fun hb40_86 => ?_) (fun hb40_86 => ?_)
            · exact absurd hb40_86 (by decide)
            · refine TT_iconst hK dX12_getBits_43 ?_
              refine TT_goto hK (tgt := 66) dX12_getBits_44 (by decide) ?_
              have u43 := ty_73_43 (v := (w4_1 73) 43) hT4_1 rfl
              refine TT_istore hK (lv' := [(4, vI 0), (0, vR 73), (1, vI n), (2, vI v), (3, vI k)]) (by decide) rfl dX12_getBits_66 ?_
              refine TT_iload_n hK rfl 3 rfl dX12_getBits_68 ?_
              refine TT_ldcw hK lc_X12_371 dX12_getBits_69 ?_
              refine TT_icmp_lt hK (tgt := 79) (irm (by omega) (by omega)) (by decide) dX12_getBits_72 (by decide) (fun hb72_87 => ?_) (fun hb72_87 => ?_)
              · refine TT_iconst hK dX12_getBits_79 ?_
                refine TT_iload_n hK rfl 3 rfl dX12_getBits_80 ?_
                refine TT_imul hK dX12_getBits_81 ?_
                refine TT_iload hK 0 rfl dX12_getBits_82 ?_
                refine TT_iadd hK dX12_getBits_84 ?_
                refine TT_istore_n hK rfl (lv' := [(2, vI ((2 * v) + 0)), (4, vI 0), (0, vR 73), (1, vI n), (3, vI k)]) (by decide) rfl dX12_getBits_85 ?_
                refine TT_aload_n hK rfl 2 rfl dX12_getBits_86 ?_
                refine gf_X12_365 hK (by decide) rfl (v := 1) (rd_ (sOf_eq _ _ _) (fup_eq _ _ _)) dX12_getBits_87 ?_
                refine TT_if_ne hK (tgt := 97) (by decide) dX12_getBits_90 (by decide) (fun hb90_88 => ?_) (fun hb90_88 => ?_)
                · refine TT_iinc hK (v := k + 1) (lv' := [(3, vI (k + 1)), (2, vI ((2 * v) + 0)), (4, vI 0), (0, vR 73), (1, vI n)]) 4 rfl rfl (by decide) rfl dX12_getBits_97 ?_
                  refine TT_goto hK (tgt := 4) dX12_getBits_100 (by decide) ?_
                  refine TT_sub [3, 4, 1, 0] rfl ?_
                  have e89_73_42 : (setO w4_1 73 (fup (w4_1 73) 45 1)) 73 42 = (w4_1 73) 42 := rd_ (sOf_eq _ _ _) (fup_ne _ _ (by decide))
                  have e90_73_43 : (setO w4_1 73 (fup (w4_1 73) 45 1)) 73 43 = (w4_1 73) 43 := rd_ (sOf_eq _ _ _) (fup_ne _ _ (by decide))
                  have e91_73_45 : (setO w4_1 73 (fup (w4_1 73) 45 1)) 73 45 = 1 := rd_ (sOf_eq _ _ _) (fup_eq _ _ _)
                  have e92_73_42 : (setO w4_1 73 (fup (w4_1 73) 45 1)) 73 42 = (w4_1 73) 42 := rd_ (sOf_eq _ _ _) (fup_ne _ _ (by decide))
                  have e93_73_43 : (setO w4_1 73 (fup (w4_1 73) 45 1)) 73 43 = (w4_1 73) 43 := rd_ (sOf_eq _ _ _) (fup_ne _ _ (by decide))
                  have e94_73_45 : (setO w4_1 73 (fup (w4_1 73) 45 1)) 73 45 = 1 := rd_ (sOf_eq _ _ _) (fup_eq _ _ _)
                  have e95_73_45 : (setO w4_1 73 (fup (w4_1 73) 45 1)) 73 45 = 1 := rd_ (sOf_eq _ _ _) (fup_eq _ _ _)
                  have e96_73_45 : (setO w4_1 73 (fup (w4_1 73) 45 1)) 73 45 = 1 := rd_ (sOf_eq _ _ _) (fup_eq _ _ _)
                  have e97_73_42 : (setO w4_1 73 (fup (w4_1 73) 45 1)) 73 42 = (w4_1 73) 42 := rd_ (sOf_eq _ _ _) (fup_ne _ _ (by decide))
                  have e98_73_43 : (setO w4_1 73 (fup (w4_1 73) 45 1)) 73 43 = (w4_1 73) 43 := rd_ (sOf_eq _ _ _) (fup_ne _ _ (by decide))
                  have e99_73_45 : (setO w4_1 73 (fup (w4_1 73) 45 1)) 73 45 = 1 := rd_ (sOf_eq _ _ _) (fup_eq _ _ _)
                  have e100_73_45 : (setO w4_1 73 (fup (w4_1 73) 45 1)) 73 45 = 1 := rd_ (sOf_eq _ _ _) (fup_eq _ _ _)
                  have e101_73_45 : (setO w4_1 73 (fup (w4_1 73) 45 1)) 73 45 = 1 := rd_ (sOf_eq _ _ _) (fup_eq _ _ _)
                  exact ih1 ((2 * v) + 0) (k + 1) (setO w4_1 73 (fup (w4_1 73) 45 1)) hT_85 hF_85 (by first | omega | (simp [up, setR] <;> omega)) (by first | omega | (simp [up, setR] <;> omega)) (by first | exact pwS (by omega) hv hpv (by omega) (by omega) | exact pwT (by omega) hpv (by omega)) (by rewrite [e89_73_42, e90_73_43, e91_73_45]; first | omega | (simp [up, setR] <;> omega)) (by rewrite [e92_73_42, e93_73_43]; first | omega | (simp [up, setR] <;> omega)) (by first | omega | (simp [up, setR] <;> omega)) (by rewrite [e94_73_45]; first | omega | (simp [up, setR] <;> omega)) (by rewrite [e95_73_45]; intro q9; first | (exfalso; omega) | (rw [show (k + 1).toNat = k.toNat + 1 by omega, rbS_s, ← hv1 (by omega)]; first | (rw [if_pos (by omega)]) | (rw [if_neg (by omega), ← bz9]))) (by rewrite [e96_73_45]; first | omega | (simp [up, setR] <;> omega)) (by rewrite [e97_73_42, e98_73_43, e99_73_45]; first | omega | (simp [up, setR] <;> omega)) (by rewrite [e100_73_45]; first | omega | (simp [up, setR] <;> omega)) (by first | omega | (simp [up, setR] <;> omega)) (by rewrite [e101_73_45]; first | omega | (simp [up, setR] <;> omega)) (by first | omega | (simp [up, setR] <;> omega))
                · exact absurd hb90_88 (by decide)
              · refine TT_iload_n hK rfl 3 rfl dX12_getBits_75 ?_
                refine TT_goto hK (tgt := 85) dX12_getBits_76 (by decide) ?_
                refine TT_istore_n hK rfl (lv' := [(2, vI v), (4, vI 0), (0, vR 73), (1, vI n), (3, vI k)]) (by decide) rfl dX12_getBits_85 ?_
                refine TT_aload_n hK rfl 2 rfl dX12_getBits_86 ?_
                refine gf_X12_365 hK (by decide) rfl (v := 1) (rd_ (sOf_eq _ _ _) (fup_eq _ _ _)) dX12_getBits_87 ?_
                refine TT_if_ne hK (tgt := 97) (by decide) dX12_getBits_90 (by decide) (fun hb90_102 => ?_) (fun hb90_102 => ?_)
                · refine TT_iinc hK (v := k + 1) (lv' := [(3, vI (k + 1)), (2, vI v), (4, vI 0), (0, vR 73), (1, vI n)]) 4 rfl rfl (by decide) rfl dX12_getBits_97 ?_
                  refine TT_goto hK (tgt := 4) dX12_getBits_100 (by decide) ?_
                  refine TT_sub [3, 4, 1, 0] rfl ?_
                  have e103_73_42 : (setO w4_1 73 (fup (w4_1 73) 45 1)) 73 42 = (w4_1 73) 42 := rd_ (sOf_eq _ _ _) (fup_ne _ _ (by decide))
                  have e104_73_43 : (setO w4_1 73 (fup (w4_1 73) 45 1)) 73 43 = (w4_1 73) 43 := rd_ (sOf_eq _ _ _) (fup_ne _ _ (by decide))
                  have e105_73_45 : (setO w4_1 73 (fup (w4_1 73) 45 1)) 73 45 = 1 := rd_ (sOf_eq _ _ _) (fup_eq _ _ _)
                  have e106_73_42 : (setO w4_1 73 (fup (w4_1 73) 45 1)) 73 42 = (w4_1 73) 42 := rd_ (sOf_eq _ _ _) (fup_ne _ _ (by decide))
                  have e107_73_43 : (setO w4_1 73 (fup (w4_1 73) 45 1)) 73 43 = (w4_1 73) 43 := rd_ (sOf_eq _ _ _) (fup_ne _ _ (by decide))
                  have e108_73_45 : (setO w4_1 73 (fup (w4_1 73) 45 1)) 73 45 = 1 := rd_ (sOf_eq _ _ _) (fup_eq _ _ _)
                  have e109_73_45 : (setO w4_1 73 (fup (w4_1 73) 45 1)) 73 45 = 1 := rd_ (sOf_eq _ _ _) (fup_eq _ _ _)
                  have e110_73_45 : (setO w4_1 73 (fup (w4_1 73) 45 1)) 73 45 = 1 := rd_ (sOf_eq _ _ _) (fup_eq _ _ _)
                  have e111_73_42 : (setO w4_1 73 (fup (w4_1 73) 45 1)) 73 42 = (w4_1 73) 42 := rd_ (sOf_eq _ _ _) (fup_ne _ _ (by decide))
                  have e112_73_43 : (setO w4_1 73 (fup (w4_1 73) 45 1)) 73 43 = (w4_1 73) 43 := rd_ (sOf_eq _ _ _) (fup_ne _ _ (by decide))
                  have e113_73_45 : (setO w4_1 73 (fup (w4_1 73) 45 1)) 73 45 = 1 := rd_ (sOf_eq _ _ _) (fup_eq _ _ _)
                  have e114_73_45 : (setO w4_1 73 (fup (w4_1 73) 45 1)) 73 45 = 1 := rd_ (sOf_eq _ _ _) (fup_eq _ _ _)
                  have e115_73_45 : (setO w4_1 73 (fup (w4_1 73) 45 1)) 73 45 = 1 := rd_ (sOf_eq _ _ _) (fup_eq _ _ _)
                  exact ih1 v (k + 1) (setO w4_1 73 (fup (w4_1 73) 45 1)) hT_85 hF_85 (by first | omega | (simp [up, setR] <;> omega)) (by first | omega | (simp [up, setR] <;> omega)) (by first | exact pwS (by omega) hv hpv (by omega) (by omega) | exact pwT (by omega) hpv (by omega)) (by rewrite [e103_73_42, e104_73_43, e105_73_45]; first | omega | (simp [up, setR] <;> omega)) (by rewrite [e106_73_42, e107_73_43]; first | omega | (simp [up, setR] <;> omega)) (by first | omega | (simp [up, setR] <;> omega)) (by rewrite [e108_73_45]; first | omega | (simp [up, setR] <;> omega)) (by rewrite [e109_73_45]; intro q9; first | (exfalso; omega) | (rw [show (k + 1).toNat = k.toNat + 1 by omega, rbS_s, ← hv1 (by omega)]; first | (rw [if_pos (by omega)]) | (rw [if_neg (by omega), ← bz9]))) (by rewrite [e110_73_45]; first | omega | (simp [up, setR] <;> omega)) (by rewrite [e111_73_42, e112_73_43, e113_73_45]; first | omega | (simp [up, setR] <;> omega)) (by rewrite [e114_73_45]; first | omega | (simp [up, setR] <;> omega)) (by first | omega | (simp [up, setR] <;> omega)) (by rewrite [e115_73_45]; first | omega | (simp [up, setR] <;> omega)) (by first | omega | (simp [up, setR] <;> omega))
                · exact absurd hb90_102 (by decide)
  refine TT_sub [2, 3, 1, 0] rfl ?_
  have e116_73_42 : h 73 42 = (h 73) 42 := rfl
  have e117_73_43 : h 73 43 = (h 73) 43 := rfl
  have e118_73_45 : h 73 45 = (h 73) 45 := rfl
  have e119_73_42 : h 73 42 = (h 73) 42 := rfl
  have e120_73_43 : h 73 43 = (h 73) 43 := rfl
  have e121_73_45 : h 73 45 = (h 73) 45 := rfl
  have e122_73_45 : h 73 45 = (h 73) 45 := rfl
  have e123_73_45 : h 73 45 = (h 73) 45 := rfl
  have e124_73_42 : h 73 42 = (h 73) 42 := rfl
  have e125_73_43 : h 73 43 = (h 73) 43 := rfl
  have e126_73_45 : h 73 45 = (h 73) 45 := rfl
  have e127_73_45 : h 73 45 = (h 73) 45 := rfl
  have e128_73_45 : h 73 45 = (h 73) 45 := rfl
  exact L4_1 (((n - 0).toNat) + 1) 0 0 h hT hF (by first | omega | (simp [up, setR] <;> omega)) (by first | omega | (simp [up, setR] <;> omega)) (by exact pwB0) (by rewrite [e116_73_42, e117_73_43, e118_73_45]; first | omega | (simp [up, setR] <;> omega)) (by rewrite [e119_73_42, e120_73_43]; first | omega | (simp [up, setR] <;> omega)) (by first | omega | (simp [up, setR] <;> omega)) (by rewrite [e121_73_45]; first | omega | (simp [up, setR] <;> omega)) (by rewrite [e122_73_45]; intro _; rfl) (by rewrite [e123_73_45]; first | omega | (simp [up, setR] <;> omega)) (by rewrite [e124_73_42, e125_73_43, e126_73_45]; first | omega | (simp [up, setR] <;> omega)) (by rewrite [e127_73_45]; first | omega | (simp [up, setR] <;> omega)) (by first | omega | (simp [up, setR] <;> omega)) (by rewrite [e128_73_45]; first | omega | (simp [up, setR] <;> omega)) (Nat.lt_succ_self _)
set_option maxRecDepth 20000 in
theorem s_getPasses_e (h : Hp_) (hT : TY h) (h44 : (h 73 44) ≤ 4400) (hm9 : 0 ≤ (h 73 45) ∧ (h 73 45) ≤ 1) : Ctr yX12_getPasses cX12_getPasses 2 (some .int) (rmd 2) ly ly 0 0 [vR 73] h (fun r h' => (TY h' ∧ FRM [73] [42, 43, 45] h h') ∧ ∃ z : Int, r = some (vI z) ∧ (1 ≤ z ∧ z ≤ 37) ∧ (8 * (h 73 42) + (h 73 43) ≤ 8 * (h' 73 42) + (h' 73 43)) ∧ (GPQ (h 100) (8 * (h 73 44)) (h 73 45) (8 * (h 73 42) + (h 73 43)) z (h' 73 45) (8 * (h' 73 42) + (h' 73 43))) ∧ (0 ≤ (h' 73 45) ∧ (h' 73 45) ≤ 1)) := by
  refine Ctr_of (by decide) (Nat.le_of_ble_eq_true rfl) ⟨Nat.le_refl _, Nat.le_refl _⟩ (fun K hK hQ _ => ?_)
  show TT K ly 0 0 0 [(0, vR 73)] [] h
  have hF : FRM [73] [42, 43, 45] h h := FRM_rf _ _ _
  refine TT_aload_n hK rfl 0 rfl dX12_getPasses_0 ?_
  refine TT_iconst hK dX12_getPasses_1 ?_
  have e1_73_44 : h 73 44 = (h 73) 44 := rfl
  have e2_73_45 : h 73 45 = (h 73) 45 := rfl
  refine iv_X12_372 hK (s_getBits_e 1 h hT (by first | omega | (simp [up, setR] <;> omega)) (by first | omega | (simp [up, setR] <;> omega)) (by rewrite [e1_73_44]; first | omega | (simp [up, setR] <;> omega)) (by rewrite [e2_73_45]; first | omega | (simp [up, setR] <;> omega))) (by decide) rfl ⟨by decide, by decide⟩ (by decide) rfl rfl (Nat.le_of_ble_eq_true rfl) ⟨by decide, by decide⟩ dX12_getPasses_2 ?_
  intro r9 g2_3 hp9
  obtain ⟨⟨hT_3, hG_3⟩, z2_3, hr9, hz_3, p2_3, p3_3, p6_3, gb_3, g01_3⟩ := hp9
  rw [hr9]
  have hF_3 : FRM [73] [42, 43, 45] h g2_3 := FRM_tr hF hG_3 (by decide) (by decide)
  rw [show h 73 42 = (h 73) 42 from rfl] at p3_3
  rw [show h 73 43 = (h 73) 43 from rfl] at p3_3
  rw [show h 73 44 = (h 73) 44 from rfl] at p3_3
  rw [show h 73 42 = (h 73) 42 from rfl] at p6_3
  rw [show h 73 43 = (h 73) 43 from rfl] at p6_3
  rw [show h 73 42 = (h 73) 42 from rfl] at gb_3
  rw [show h 73 43 = (h 73) 43 from rfl] at gb_3
  rw [show h 73 44 = (h 73) 44 from rfl] at gb_3
  rw [show h 73 45 = (h 73) 45 from rfl] at gb_3
  have gb_at2 := gb_3
  have g01_at2 := g01_3
  show TT K ly 0 0 5 [(0, vR 73)] [vI z2_3] g2_3
  refine TT_if_ne hK (tgt := 10) (irm (by omega) (by omega)) dX12_getPasses_5 (by decide) (fun hb5_4 => ?_) (fun hb5_4 => ?_)
  · refine TT_aload_n hK rfl 0 rfl dX12_getPasses_10 ?_
    refine TT_iconst hK dX12_getPasses_11 ?_
    have e5_73_44 : g2_3 73 44 = (h 73) 44 := (hG_3.2 44 (by decide))
    have e6_73_45 : g2_3 73 45 = (g2_3 73) 45 := rfl
    refine iv_X12_372 hK (s_getBits_e 1 g2_3 hT_3 (by first | omega | (simp [up, setR] <;> omega)) (by first | omega | (simp [up, setR] <;> omega)) (by rewrite [e5_73_44]; first | omega | (simp [up, setR] <;> omega)) (by rewrite [e6_73_45]; first | omega | (simp [up, setR] <;> omega))) (by decide) rfl ⟨by decide, by decide⟩ (by decide) rfl rfl (Nat.le_of_ble_eq_true rfl) ⟨by decide, by decide⟩ dX12_getPasses_12 ?_
    intro r9 g12_7 hp9
    obtain ⟨⟨hT_7, hG_7⟩, z12_7, hr9, hz_7, p2_7, p3_7, p6_7, gb_7, g01_7⟩ := hp9
    rw [hr9]
    have hF_7 : FRM [73] [42, 43, 45] h g12_7 := FRM_tr hF_3 hG_7 (by decide) (by decide)
    rw [show g2_3 73 42 = (g2_3 73) 42 from rfl] at p3_7
    rw [show g2_3 73 43 = (g2_3 73) 43 from rfl] at p3_7
    rw [show g2_3 73 44 = (h 73) 44 from (hG_3.2 44 (by decide))] at p3_7
    rw [show g2_3 73 42 = (g2_3 73) 42 from rfl] at p6_7
    rw [show g2_3 73 43 = (g2_3 73) 43 from rfl] at p6_7
    rw [show g2_3 100 = h 100 from (hG_3.1 100 (by decide))] at gb_7
    rw [show g2_3 73 42 = (g2_3 73) 42 from rfl] at gb_7
    rw [show g2_3 73 43 = (g2_3 73) 43 from rfl] at gb_7
    rw [show g2_3 73 44 = (h 73) 44 from (hG_3.2 44 (by decide))] at gb_7
    rw [show g2_3 73 45 = (g2_3 73) 45 from rfl] at gb_7
    have gb_at12 := gb_7
    have g01_at12 := g01_7
    show TT K ly 0 0 15 [(0, vR 73)] [vI z12_7] g12_7
    refine TT_if_ne hK (tgt := 20) (irm (by omega) (by omega)) dX12_getPasses_15 (by decide) (fun hb15_8 => ?_) (fun hb15_8 => ?_)
    · refine TT_aload_n hK rfl 0 rfl dX12_getPasses_20 ?_
      refine TT_iconst hK dX12_getPasses_21 ?_
      have e9_73_44 : g12_7 73 44 = (h 73) 44 := ((hG_7.2 44 (by decide))).trans (hG_3.2 44 (by decide))
      have e10_73_45 : g12_7 73 45 = (g12_7 73) 45 := rfl
      refine iv_X12_372 hK (s_getBits_e 2 g12_7 hT_7 (by first | omega | (simp [up, setR] <;> omega)) (by first | omega | (simp [up, setR] <;> omega)) (by rewrite [e9_73_44]; first | omega | (simp [up, setR] <;> omega)) (by rewrite [e10_73_45]; first | omega | (simp [up, setR] <;> omega))) (by decide) rfl ⟨by decide, by decide⟩ (by decide) rfl rfl (Nat.le_of_ble_eq_true rfl) ⟨by decide, by decide⟩ dX12_getPasses_22 ?_
      intro r9 g22_11 hp9
      obtain ⟨⟨hT_11, hG_11⟩, z22_11, hr9, hz_11, p2_11, p3_11, p6_11, gb_11, g01_11⟩ := hp9
      rw [hr9]
      have hF_11 : FRM [73] [42, 43, 45] h g22_11 := FRM_tr hF_7 hG_11 (by decide) (by decide)
      rw [show g12_7 73 42 = (g12_7 73) 42 from rfl] at p3_11
      rw [show g12_7 73 43 = (g12_7 73) 43 from rfl] at p3_11
      rw [show g12_7 73 44 = (h 73) 44 from ((hG_7.2 44 (by decide))).trans (hG_3.2 44 (by decide))] at p3_11
      rw [show g12_7 73 42 = (g12_7 73) 42 from rfl] at p6_11
      rw [show g12_7 73 43 = (g12_7 73) 43 from rfl] at p6_11
      rw [show g12_7 100 = h 100 from ((hG_7.1 100 (by decide))).trans (hG_3.1 100 (by decide))] at gb_11
      rw [show g12_7 73 42 = (g12_7 73) 42 from rfl] at gb_11
      rw [show g12_7 73 43 = (g12_7 73) 43 from rfl] at gb_11
      rw [show g12_7 73 44 = (h 73) 44 from ((hG_7.2 44 (by decide))).trans (hG_3.2 44 (by decide))] at gb_11
      rw [show g12_7 73 45 = (g12_7 73) 45 from rfl] at gb_11
      have gb_at22 := gb_11
      have g01_at22 := g01_11
      show TT K ly 0 0 25 [(0, vR 73)] [vI z22_11] g22_11
      refine TT_istore_n hK rfl (lv' := [(1, vI z22_11), (0, vR 73)]) (by decide) rfl dX12_getPasses_25 ?_
      refine TT_iload_n hK rfl 0 rfl dX12_getPasses_26 ?_
      refine TT_iconst hK dX12_getPasses_27 ?_
      refine TT_icmp_ge hK (tgt := 37) (irm (by omega) (by omega)) (by decide) dX12_getPasses_28 (by decide) (fun hb28_12 => ?_) (fun hb28_12 => ?_)
      · refine TT_bipush hK (by decide) dX12_getPasses_37 ?_
        refine TT_aload_n hK rfl 1 rfl dX12_getPasses_39 ?_
        refine TT_iconst hK dX12_getPasses_40 ?_
        have e13_73_44 : g22_11 73 44 = (h 73) 44 := ((hG_11.2 44 (by decide))).trans (((hG_7.2 44 (by decide))).trans (hG_3.2 44 (by decide)))
        have e14_73_45 : g22_11 73 45 = (g22_11 73) 45 := rfl
        refine iv_X12_372 hK (s_getBits_e 5 g22_11 hT_11 (by first | omega | (simp [up, setR] <;> omega)) (by first | omega | (simp [up, setR] <;> omega)) (by rewrite [e13_73_44]; first | omega | (simp [up, setR] <;> omega)) (by rewrite [e14_73_45]; first | omega | (simp [up, setR] <;> omega))) (by decide) rfl ⟨by decide, by decide⟩ (by decide) rfl rfl (Nat.le_of_ble_eq_true rfl) ⟨by decide, by decide⟩ dX12_getPasses_41 ?_
        intro r9 g41_15 hp9
        obtain ⟨⟨hT_15, hG_15⟩, z41_15, hr9, hz_15, p2_15, p3_15, p6_15, gb_15, g01_15⟩ := hp9
        rw [hr9]
        have hF_15 : FRM [73] [42, 43, 45] h g41_15 := FRM_tr hF_11 hG_15 (by decide) (by decide)
        rw [show g22_11 73 42 = (g22_11 73) 42 from rfl] at p3_15
        rw [show g22_11 73 43 = (g22_11 73) 43 from rfl] at p3_15
        rw [show g22_11 73 44 = (h 73) 44 from ((hG_11.2 44 (by decide))).trans (((hG_7.2 44 (by decide))).trans (hG_3.2 44 (by decide)))] at p3_15
        rw [show g22_11 73 42 = (g22_11 73) 42 from rfl] at p6_15
        rw [show g22_11 73 43 = (g22_11 73) 43 from rfl] at p6_15
        rw [show g22_11 100 = h 100 from ((hG_11.1 100 (by decide))).trans (((hG_7.1 100 (by decide))).trans (hG_3.1 100 (by decide)))] at gb_15
        rw [show g22_11 73 42 = (g22_11 73) 42 from rfl] at gb_15
        rw [show g22_11 73 43 = (g22_11 73) 43 from rfl] at gb_15
        rw [show g22_11 73 44 = (h 73) 44 from ((hG_11.2 44 (by decide))).trans (((hG_7.2 44 (by decide))).trans (hG_3.2 44 (by decide)))] at gb_15
        rw [show g22_11 73 45 = (g22_11 73) 45 from rfl] at gb_15
        have gb_at41 := gb_15
        have g01_at41 := g01_15
        show TT K ly 0 0 44 [(1, vI z22_11), (0, vR 73)] [vI z41_15, vI 6] g41_15
        refine TT_iadd hK dX12_getPasses_44 ?_
        refine TT_iret hK hQ ?_ dX12_getPasses_45
        have e16_73_42 : g41_15 73 42 = (g41_15 73) 42 := rfl
        have e17_73_43 : g41_15 73 43 = (g41_15 73) 43 := rfl
        have e18_73_42 : g41_15 73 42 = (g41_15 73) 42 := rfl
        have e19_73_43 : g41_15 73 43 = (g41_15 73) 43 := rfl
        have e20_73_45 : g41_15 73 45 = (g41_15 73) 45 := rfl
        have e21_73_45 : g41_15 73 45 = (g41_15 73) 45 := rfl
        exact ⟨⟨hT_15, hF_15⟩, (6 + z41_15), rfl, (by omega), (by rewrite [e16_73_42, e17_73_43]; omega), (by rewrite [e18_73_42, e19_73_43, e20_73_45]; exact GP_D hm9 gb_at2 (by omega) gb_at12 (by omega) gb_at22 (by omega) gb_at41), (by rewrite [e21_73_45]; omega)⟩
      · refine TT_iconst hK dX12_getPasses_31 ?_
        refine TT_iload_n hK rfl 0 rfl dX12_getPasses_32 ?_
        refine TT_iadd hK dX12_getPasses_33 ?_
        refine TT_goto hK (tgt := 45) dX12_getPasses_34 (by decide) ?_
        refine TT_iret hK hQ ?_ dX12_getPasses_45
        have e22_73_42 : g22_11 73 42 = (g22_11 73) 42 := rfl
        have e23_73_43 : g22_11 73 43 = (g22_11 73) 43 := rfl
        have e24_73_42 : g22_11 73 42 = (g22_11 73) 42 := rfl
        have e25_73_43 : g22_11 73 43 = (g22_11 73) 43 := rfl
        have e26_73_45 : g22_11 73 45 = (g22_11 73) 45 := rfl
        have e27_73_45 : g22_11 73 45 = (g22_11 73) 45 := rfl
        exact ⟨⟨hT_11, hF_11⟩, (3 + z22_11), rfl, (by omega), (by rewrite [e22_73_42, e23_73_43]; omega), (by rewrite [e24_73_42, e25_73_43, e26_73_45]; exact GP_C hm9 gb_at2 (by omega) gb_at12 (by omega) gb_at22 (by omega)), (by rewrite [e27_73_45]; omega)⟩
    · refine TT_iconst hK dX12_getPasses_18 ?_
      refine TT_iret hK hQ ?_ dX12_getPasses_19
      have e28_73_42 : g12_7 73 42 = (g12_7 73) 42 := rfl
      have e29_73_43 : g12_7 73 43 = (g12_7 73) 43 := rfl
      have e30_73_42 : g12_7 73 42 = (g12_7 73) 42 := rfl
      have e31_73_43 : g12_7 73 43 = (g12_7 73) 43 := rfl
      have e32_73_45 : g12_7 73 45 = (g12_7 73) 45 := rfl
      have e33_73_45 : g12_7 73 45 = (g12_7 73) 45 := rfl
      exact ⟨⟨hT_7, hF_7⟩, 2, rfl, (by omega), (by rewrite [e28_73_42, e29_73_43]; omega), (by rewrite [e30_73_42, e31_73_43, e32_73_45]; exact GP_B hm9 gb_at2 (by omega) gb_at12 (by omega)), (by rewrite [e33_73_45]; omega)⟩
  · refine TT_iconst hK dX12_getPasses_8 ?_
    refine TT_iret hK hQ ?_ dX12_getPasses_9
    have e34_73_42 : g2_3 73 42 = (g2_3 73) 42 := rfl
    have e35_73_43 : g2_3 73 43 = (g2_3 73) 43 := rfl
    have e36_73_42 : g2_3 73 42 = (g2_3 73) 42 := rfl
    have e37_73_43 : g2_3 73 43 = (g2_3 73) 43 := rfl
    have e38_73_45 : g2_3 73 45 = (g2_3 73) 45 := rfl
    have e39_73_45 : g2_3 73 45 = (g2_3 73) 45 := rfl
    exact ⟨⟨hT_3, hF_3⟩, 1, rfl, (by omega), (by rewrite [e34_73_42, e35_73_43]; omega), (by rewrite [e36_73_42, e37_73_43, e38_73_45]; exact GP_A hm9 gb_at2 (by omega)), (by rewrite [e39_73_45]; omega)⟩

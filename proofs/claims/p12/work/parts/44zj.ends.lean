def etS (a c t n : Int) (o : Int → Int) : Nat → Int × Int × Int × (Int → Int)
  | 0 => (endC a c, t, n, o)
  | k + 1 => outS ((etS a c t n o k).1 * 2 ^ (etS a c t n o k).2.1.toNat) (etS a c t n o k).2.2.1 (etS a c t n o k).2.2.2
theorem etS_r {a c t n : Int} {o : Int → Int} (hq : MQ_ a c t n o) (ha : 32768 ≤ a) {k : Nat} (hk : k < 2) : (0 ≤ (etS a c t n o k).1 ∧ (etS a c t n o k).1 * 2 ^ (etS a c t n o k).2.1.toNat < 150994944) ∧ (1 ≤ (etS a c t n o k).2.1 ∧ (etS a c t n o k).2.1 ≤ 12) ∧ (0 ≤ (etS a c t n o k).2.2.2 ((etS a c t n o k).2.2.1 - 1) ∧ (etS a c t n o k).2.2.2 ((etS a c t n o k).2.2.1 - 1) ≤ 255) ∧ (etS a c t n o k).2.2.1 = n + (k : Int) := by
  have hr := endC_r hq ha
  obtain ⟨m1, m2, m3, m4, m5, m6, m7, m8, m9⟩ := hq
  match k, hk with
  | 0, _ => exact ⟨⟨hr.1, hr.2.2.2⟩, ⟨m4, m5⟩, ⟨m8, m9⟩, by show n = n + ((0 : Nat) : Int); omega⟩
  | 1, _ =>
    obtain ⟨w1, w2, w3⟩ := outS_r (c := endC a c * 2 ^ t.toNat) (n := n) (o := o) hr.2.2 ⟨m8, m9⟩
    show (0 ≤ (outS (endC a c * 2 ^ t.toNat) n o).1 ∧ (outS (endC a c * 2 ^ t.toNat) n o).1 * 2 ^ (outS (endC a c * 2 ^ t.toNat) n o).2.1.toNat < 150994944) ∧ (1 ≤ (outS (endC a c * 2 ^ t.toNat) n o).2.1 ∧ (outS (endC a c * 2 ^ t.toNat) n o).2.1 ≤ 12) ∧ (0 ≤ (outS (endC a c * 2 ^ t.toNat) n o).2.2.2 ((outS (endC a c * 2 ^ t.toNat) n o).2.2.1 - 1) ∧ (outS (endC a c * 2 ^ t.toNat) n o).2.2.2 ((outS (endC a c * 2 ^ t.toNat) n o).2.2.1 - 1) ≤ 255) ∧ (outS (endC a c * 2 ^ t.toNat) n o).2.2.1 = n + ((1 : Nat) : Int)
    rw [w1, show n + 1 - 1 = n by omega]
    refine ⟨?_, ?_, w3, by omega⟩
    · rcases w2 with ⟨u1, u2, u3⟩ | ⟨u1, u2, u3⟩ <;> rw [u1]
      · rw [show (2 : Int) ^ (7 : Int).toNat = 128 by decide]; omega
      · rw [show (2 : Int) ^ (8 : Int).toNat = 256 by decide]; omega
    · rcases w2 with ⟨u1, u2, u3⟩ | ⟨u1, u2, u3⟩ <;> rw [u1] <;> omega
theorem dblP {c i : Int} (hi : 1 ≤ i) : 2 * c * 2 ^ (i - 1).toNat = c * 2 ^ i.toNat := by
  rw [show i.toNat = (i - 1).toNat + 1 by omega, Int.pow_succ, Int.mul_comm 2 c, Int.mul_assoc, Int.mul_comm 2]
theorem le_dbl {c i : Int} (hc : 0 ≤ c) : c ≤ c * 2 ^ i.toNat := by
  have := Int.mul_le_mul_of_nonneg_left (p2_1 i.toNat) hc
  omega
theorem p2_0 (c : Int) : c * 2 ^ (0 : Int).toNat = c := by
  rw [show (2 : Int) ^ (0 : Int).toNat = 1 by decide, Int.mul_one]
def PZQ (z : Int → Int) (b k p : Int) : Prop := (0 ≤ p ∧ p ≤ 12) ∧ (∀ j : Int, 64 * b ≤ j → j < k → z j < 2 ^ p.toNat) ∧ (p = 0 ∨ ∃ j : Int, (64 * b ≤ j ∧ j < 64 * b + 64) ∧ (2 : Int) ^ (p - 1).toNat ≤ z j)
theorem PZQ_0 (z : Int → Int) (b : Int) : PZQ z b (64 * b) 0 := ⟨by decide, fun j h1 h2 => by omega, Or.inl rfl⟩
theorem PZQ_s {z : Int → Int} {b k p q : Int} (h : PZQ z b k p) (hk : 64 * b ≤ k ∧ k < 64 * b + 64) (hq : q = 1 * 2 ^ p.toNat) (hz : q ≤ z k) (hp : p + 1 ≤ 12) : PZQ z b k (p + 1) := by
  have e := p2_le (show p ≤ p + 1 by omega)
  have p0 := h.1.1
  refine ⟨by omega, fun j h1 h2 => ?_, Or.inr ⟨k, hk, ?_⟩⟩
  · have := h.2.1 j h1 h2
    omega
  · rw [show p + 1 - 1 = p by omega]
    omega
theorem PZQ_n {z : Int → Int} {b k p q : Int} (h : PZQ z b k p) (hq : q = 1 * 2 ^ p.toNat) (hz : z k < q) : PZQ z b (k + 1) p := by
  refine ⟨h.1, fun j h1 h2 => ?_, h.2.2⟩
  by_cases e : j = k
  · rw [e]
    omega
  · exact h.2.1 j h1 (by omega)
/-- outside of the band nothing -/
def OUQ (z : Int → Int) (b w g : Int) : Prop := ∀ x y : Int, 0 ≤ x → x < 8 → 0 ≤ y → y < 8 → (w ≤ x ∨ g ≤ y) → z (64 * b + 8 * y + x) = 0
theorem PZQ_P {z : Int → Int} {N : Int → Int → Int} {b w g p : Int} (h : PZQ z b (64 * b + 64) p) (hw : w ≤ 8 ∧ g ≤ 8) (ho : OUQ z b w g) (hN : ∀ x y : Int, 0 ≤ x → x < w → 0 ≤ y → y < g → ((N x y).natAbs : Int) = z (64 * b + 8 * y + x)) : PLN N w g p := by
  refine ⟨h.1, fun x y h1 h2 h3 h4 => ?_, ?_⟩
  · rw [hN x y h1 h2 h3 h4]
    exact h.2.1 _ (by omega) (by omega)
  · rcases h.2.2 with e | ⟨j, hj, hp⟩
    · exact Or.inl e
    · by_cases e : p = 0
      · exact Or.inl e
      have pp := p2_le (show (0 : Int) ≤ p - 1 by have := h.1.1; omega)
      rw [show (2 : Int) ^ (0 : Int).toNat = 1 by decide] at pp
      have ej : j = 64 * b + 8 * ((j - 64 * b) / 8) + (j - 64 * b) % 8 := by omega
      refine Or.inr ⟨(j - 64 * b) % 8, (j - 64 * b) / 8, ?_, ?_⟩
      · refine Classical.byContradiction (fun q => ?_)
        have := ho ((j - 64 * b) % 8) ((j - 64 * b) / 8) (by omega) (by omega) (by omega) (by omega) (by omega)
        rw [← ej] at this
        omega
      · have hr : (0 ≤ (j - 64 * b) % 8 ∧ (j - 64 * b) % 8 < w) ∧ (0 ≤ (j - 64 * b) / 8 ∧ (j - 64 * b) / 8 < g) := by
          refine Classical.byContradiction (fun q => ?_)
          have := ho ((j - 64 * b) % 8) ((j - 64 * b) / 8) (by omega) (by omega) (by omega) (by omega) (by omega)
          rw [← ej] at this
          omega
        rw [hN _ _ hr.1.1 hr.1.2 hr.2.1 hr.2.2, ← ej]
        exact hp
set_option maxRecDepth 20000 in
theorem s_forget_e (h : Hp_) (hT : TY h)  : Ctr yX12_forget cX12_forget 2 none (rmd 0) ly ly 0 0 [vR 73] h (fun r h' => (TY h' ∧ FRM [96, 97] [] h h') ∧ r = none ∧ (∀ j : Int, 0 ≤ j → j < 19 → (h' 96) j = st0 j) ∧ (∀ j : Int, 0 ≤ j → j < 19 → (h' 97) j = 0)) := by
  refine Ctr_of (by decide) (Nat.le_of_ble_eq_true rfl) ⟨Nat.le_refl _, Nat.le_refl _⟩ (fun K hK hQ _ => ?_)
  show TT K ly 0 0 0 [(0, vR 73)] [] h
  have hF : FRM [96, 97] [] h h := FRM_rf _ _ _
  refine TT_iconst hK dX12_forget_0 ?_
  refine TT_istore_n hK rfl (lv' := [(1, vI 0), (0, vR 73)]) (by decide) rfl dX12_forget_1 ?_
  have L2_1 : ∀ (k1 : Nat) (i : Int) (w2_1 : Hp_), TY w2_1 → FRM [96, 97] [] h w2_1 → (0 ≤ i ∧ i ≤ 19) → (∀ j : Int, 0 ≤ j → j < i → (w2_1 96) j = st0 j) → (∀ j : Int, 0 ≤ j → j < i → (w2_1 97) j = 0) → ((19 : Int) - i).toNat < k1 → TT K ly 0 0 2 [(0, vR 73), (1, vI i)] [] w2_1 := by
    intro k1
    induction k1 with
    | zero => intro i w2_1 hT2_1 hF2_1 hi hst hlk hk1; exact absurd hk1 (Nat.not_lt_zero _)
    | succ k1 ih1 =>
      intro i w2_1 hT2_1 hF2_1 hi hst hlk hk1
      refine TT_iload_n hK rfl 1 rfl dX12_forget_2 ?_
      refine TT_bipush hK (by decide) dX12_forget_3 ?_
      refine TT_icmp_ge hK (tgt := 57) (irm (by omega) (by omega)) (by decide) dX12_forget_5 (by decide) (fun hb5_2 => ?_) (fun hb5_2 => ?_)
      · refine TT_vret hK hQ ?_ dX12_forget_57
        exact ⟨⟨hT2_1, hF2_1⟩, rfl, (by intro j h1 h2; exact hst j h1 (by omega)), (by intro j h1 h2; exact hlk j h1 (by omega))⟩
      · refine TT_aload_n hK rfl 0 rfl dX12_forget_8 ?_
        refine gf_X12_84 hK (by decide) rfl (q := 96) rfl rfl dX12_forget_9 ?_
        refine TT_iload_n hK rfl 1 rfl dX12_forget_12 ?_
        refine TT_iload_n hK rfl 1 rfl dX12_forget_13 ?_
        refine TT_bipush hK (by decide) dX12_forget_14 ?_
        refine TT_icmp_ne hK (tgt := 24) (irm (by omega) (by omega)) (by decide) dX12_forget_16 (by decide) (fun hb16_3 => ?_) (fun hb16_3 => ?_)
        · refine TT_iload_n hK rfl 1 rfl dX12_forget_24 ?_
          refine TT_bipush hK (by decide) dX12_forget_25 ?_
          refine TT_icmp_ne hK (tgt := 34) (irm (by omega) (by omega)) (by decide) dX12_forget_27 (by decide) (fun hb27_4 => ?_) (fun hb27_4 => ?_)
          · refine TT_iload_n hK rfl 1 rfl dX12_forget_34 ?_
            refine TT_if_ne hK (tgt := 42) (irm (by omega) (by omega)) dX12_forget_35 (by decide) (fun hb35_5 => ?_) (fun hb35_5 => ?_)
            · refine TT_iconst hK dX12_forget_42 ?_
              refine TT_iast hK (o := 96) (n := 19) (by decide) rfl (by omega) (by omega) dX12_forget_43 ?_
              refine TT_hp (h' := setO w2_1 96 (fup (w2_1 96) i 0)) (up_can rfl rfl rfl) ?_
              have hT_6 : TY (setO w2_1 96 (fup (w2_1 96) i 0)) := tu_96 hT2_1 (show up w2_1 96 i 0 = (setO w2_1 96 (fup (w2_1 96) i 0)) from up_can rfl rfl rfl) (by omega)
              have hF_6 : FRM [96, 97] [] h (setO w2_1 96 (fup (w2_1 96) i 0)) := FRM_up (show up w2_1 96 i 0 = (setO w2_1 96 (fup (w2_1 96) i 0)) from up_can rfl rfl rfl) hF2_1 (by decide) (by decide)
              refine TT_aload_n hK rfl 0 rfl dX12_forget_44 ?_
              refine gf_X12_87 hK (by decide) rfl (q := 97) rfl rfl dX12_forget_45 ?_
              refine TT_iload_n hK rfl 1 rfl dX12_forget_48 ?_
              refine TT_iconst hK dX12_forget_49 ?_
              refine TT_iast hK (o := 97) (n := 19) (by decide) rfl (by omega) (by omega) dX12_forget_50 ?_
              refine TT_hp (h' := setO (setO w2_1 96 (fup (w2_1 96) i 0)) 97 (fup (w2_1 97) i 0)) (up_can (sOf_ne _ _ (by decide)) rfl rfl) ?_
              have hT_7 : TY (setO (setO w2_1 96 (fup (w2_1 96) i 0)) 97 (fup (w2_1 97) i 0)) := tu_97 hT_6 (show up (setO w2_1 96 (fup (w2_1 96) i 0)) 97 i 0 = (setO (setO w2_1 96 (fup (w2_1 96) i 0)) 97 (fup (w2_1 97) i 0)) from up_can (sOf_ne _ _ (by decide)) rfl rfl) (by omega)
              have hF_7 : FRM [96, 97] [] h (setO (setO w2_1 96 (fup (w2_1 96) i 0)) 97 (fup (w2_1 97) i 0)) := FRM_up (show up (setO w2_1 96 (fup (w2_1 96) i 0)) 97 i 0 = (setO (setO w2_1 96 (fup (w2_1 96) i 0)) 97 (fup (w2_1 97) i 0)) from up_can (sOf_ne _ _ (by decide)) rfl rfl) hF_6 (by decide) (by decide)
              refine TT_iinc hK (v := i + 1) (lv' := [(1, vI (i + 1)), (0, vR 73)]) 1 rfl rfl (by decide) rfl dX12_forget_51 ?_
              refine TT_goto hK (tgt := 2) dX12_forget_54 (by decide) ?_
              refine TT_sub [1, 0] rfl ?_
              have e8_96 : (setO (setO w2_1 96 (fup (w2_1 96) i 0)) 97 (fup (w2_1 97) i 0)) 96 = fup (w2_1 96) i 0 := (sOf_ne _ _ (by decide)).trans (sOf_eq _ _ _)
              have e9_97 : (setO (setO w2_1 96 (fup (w2_1 96) i 0)) 97 (fup (w2_1 97) i 0)) 97 = fup (w2_1 97) i 0 := sOf_eq _ _ _
              exact ih1 (i + 1) (setO (setO w2_1 96 (fup (w2_1 96) i 0)) 97 (fup (w2_1 97) i 0)) hT_7 hF_7 (by first | omega | (simp [up, setR] <;> omega)) (by rewrite [e8_96]; intro j h1 h2; by_cases e : j = i; (rw [e, fup_eq]; unfold st0; (repeat' split) <;> omega); (rw [fup_ne _ _ e]; exact hst j h1 (by omega))) (by rewrite [e9_97]; intro j h1 h2; by_cases e : j = i; (rw [e, fup_eq]); (rw [fup_ne _ _ e]; exact hlk j h1 (by omega))) (by first | omega | (simp [up, setR] <;> omega))
            · refine TT_iconst hK dX12_forget_38 ?_
              refine TT_goto hK (tgt := 43) dX12_forget_39 (by decide) ?_
              refine TT_iast hK (o := 96) (n := 19) (by decide) rfl (by omega) (by omega) dX12_forget_43 ?_
              refine TT_hp (h' := setO w2_1 96 (fup (w2_1 96) i 4)) (up_can rfl rfl rfl) ?_
              have hT_10 : TY (setO w2_1 96 (fup (w2_1 96) i 4)) := tu_96 hT2_1 (show up w2_1 96 i 4 = (setO w2_1 96 (fup (w2_1 96) i 4)) from up_can rfl rfl rfl) (by omega)
              have hF_10 : FRM [96, 97] [] h (setO w2_1 96 (fup (w2_1 96) i 4)) := FRM_up (show up w2_1 96 i 4 = (setO w2_1 96 (fup (w2_1 96) i 4)) from up_can rfl rfl rfl) hF2_1 (by decide) (by decide)
              refine TT_aload_n hK rfl 0 rfl dX12_forget_44 ?_
              refine gf_X12_87 hK (by decide) rfl (q := 97) rfl rfl dX12_forget_45 ?_
              refine TT_iload_n hK rfl 1 rfl dX12_forget_48 ?_
              refine TT_iconst hK dX12_forget_49 ?_
              refine TT_iast hK (o := 97) (n := 19) (by decide) rfl (by omega) (by omega) dX12_forget_50 ?_
              refine TT_hp (h' := setO (setO w2_1 96 (fup (w2_1 96) i 4)) 97 (fup (w2_1 97) i 0)) (up_can (sOf_ne _ _ (by decide)) rfl rfl) ?_
              have hT_11 : TY (setO (setO w2_1 96 (fup (w2_1 96) i 4)) 97 (fup (w2_1 97) i 0)) := tu_97 hT_10 (show up (setO w2_1 96 (fup (w2_1 96) i 4)) 97 i 0 = (setO (setO w2_1 96 (fup (w2_1 96) i 4)) 97 (fup (w2_1 97) i 0)) from up_can (sOf_ne _ _ (by decide)) rfl rfl) (by omega)
              have hF_11 : FRM [96, 97] [] h (setO (setO w2_1 96 (fup (w2_1 96) i 4)) 97 (fup (w2_1 97) i 0)) := FRM_up (show up (setO w2_1 96 (fup (w2_1 96) i 4)) 97 i 0 = (setO (setO w2_1 96 (fup (w2_1 96) i 4)) 97 (fup (w2_1 97) i 0)) from up_can (sOf_ne _ _ (by decide)) rfl rfl) hF_10 (by decide) (by decide)
              refine TT_iinc hK (v := i + 1) (lv' := [(1, vI (i + 1)), (0, vR 73)]) 1 rfl rfl (by decide) rfl dX12_forget_51 ?_
              refine TT_goto hK (tgt := 2) dX12_forget_54 (by decide) ?_
              refine TT_sub [1, 0] rfl ?_
              have e12_96 : (setO (setO w2_1 96 (fup (w2_1 96) i 4)) 97 (fup (w2_1 97) i 0)) 96 = fup (w2_1 96) i 4 := (sOf_ne _ _ (by decide)).trans (sOf_eq _ _ _)
              have e13_97 : (setO (setO w2_1 96 (fup (w2_1 96) i 4)) 97 (fup (w2_1 97) i 0)) 97 = fup (w2_1 97) i 0 := sOf_eq _ _ _
              exact ih1 (i + 1) (setO (setO w2_1 96 (fup (w2_1 96) i 4)) 97 (fup (w2_1 97) i 0)) hT_11 hF_11 (by first | omega | (simp [up, setR] <;> omega)) (by rewrite [e12_96]; intro j h1 h2; by_cases e : j = i; (rw [e, fup_eq]; unfold st0; (repeat' split) <;> omega); (rw [fup_ne _ _ e]; exact hst j h1 (by omega))) (by rewrite [e13_97]; intro j h1 h2; by_cases e : j = i; (rw [e, fup_eq]); (rw [fup_ne _ _ e]; exact hlk j h1 (by omega))) (by first | omega | (simp [up, setR] <;> omega))
          · refine TT_iconst hK dX12_forget_30 ?_
            refine TT_goto hK (tgt := 43) dX12_forget_31 (by decide) ?_
            refine TT_iast hK (o := 96) (n := 19) (by decide) rfl (by omega) (by omega) dX12_forget_43 ?_
            refine TT_hp (h' := setO w2_1 96 (fup (w2_1 96) i 3)) (up_can rfl rfl rfl) ?_
            have hT_14 : TY (setO w2_1 96 (fup (w2_1 96) i 3)) := tu_96 hT2_1 (show up w2_1 96 i 3 = (setO w2_1 96 (fup (w2_1 96) i 3)) from up_can rfl rfl rfl) (by omega)
            have hF_14 : FRM [96, 97] [] h (setO w2_1 96 (fup (w2_1 96) i 3)) := FRM_up (show up w2_1 96 i 3 = (setO w2_1 96 (fup (w2_1 96) i 3)) from up_can rfl rfl rfl) hF2_1 (by decide) (by decide)
            refine TT_aload_n hK rfl 0 rfl dX12_forget_44 ?_
            refine gf_X12_87 hK (by decide) rfl (q := 97) rfl rfl dX12_forget_45 ?_
            refine TT_iload_n hK rfl 1 rfl dX12_forget_48 ?_
            refine TT_iconst hK dX12_forget_49 ?_
            refine TT_iast hK (o := 97) (n := 19) (by decide) rfl (by omega) (by omega) dX12_forget_50 ?_
            refine TT_hp (h' := setO (setO w2_1 96 (fup (w2_1 96) i 3)) 97 (fup (w2_1 97) i 0)) (up_can (sOf_ne _ _ (by decide)) rfl rfl) ?_
            have hT_15 : TY (setO (setO w2_1 96 (fup (w2_1 96) i 3)) 97 (fup (w2_1 97) i 0)) := tu_97 hT_14 (show up (setO w2_1 96 (fup (w2_1 96) i 3)) 97 i 0 = (setO (setO w2_1 96 (fup (w2_1 96) i 3)) 97 (fup (w2_1 97) i 0)) from up_can (sOf_ne _ _ (by decide)) rfl rfl) (by omega)
            have hF_15 : FRM [96, 97] [] h (setO (setO w2_1 96 (fup (w2_1 96) i 3)) 97 (fup (w2_1 97) i 0)) := FRM_up (show up (setO w2_1 96 (fup (w2_1 96) i 3)) 97 i 0 = (setO (setO w2_1 96 (fup (w2_1 96) i 3)) 97 (fup (w2_1 97) i 0)) from up_can (sOf_ne _ _ (by decide)) rfl rfl) hF_14 (by decide) (by decide)
            refine TT_iinc hK (v := i + 1) (lv' := [(1, vI (i + 1)), (0, vR 73)]) 1 rfl rfl (by decide) rfl dX12_forget_51 ?_
            refine TT_goto hK (tgt := 2) dX12_forget_54 (by decide) ?_
            refine TT_sub [1, 0] rfl ?_
            have e16_96 : (setO (setO w2_1 96 (fup (w2_1 96) i 3)) 97 (fup (w2_1 97) i 0)) 96 = fup (w2_1 96) i 3 := (sOf_ne _ _ (by decide)).trans (sOf_eq _ _ _)
            have e17_97 : (setO (setO w2_1 96 (fup (w2_1 96) i 3)) 97 (fup (w2_1 97) i 0)) 97 = fup (w2_1 97) i 0 := sOf_eq _ _ _
            exact ih1 (i + 1) (setO (setO w2_1 96 (fup (w2_1 96) i 3)) 97 (fup (w2_1 97) i 0)) hT_15 hF_15 (by first | omega | (simp [up, setR] <;> omega)) (by rewrite [e16_96]; intro j h1 h2; by_cases e : j = i; (rw [e, fup_eq]; unfold st0; (repeat' split) <;> omega); (rw [fup_ne _ _ e]; exact hst j h1 (by omega))) (by rewrite [e17_97]; intro j h1 h2; by_cases e : j = i; (rw [e, fup_eq]); (rw [fup_ne _ _ e]; exact hlk j h1 (by omega))) (by first | omega | (simp [up, setR] <;> omega))
        · refine TT_bipush hK (by decide) dX12_forget_19 ?_
          refine TT_goto hK (tgt := 43) dX12_forget_21 (by decide) ?_
          refine TT_iast hK (o := 96) (n := 19) (by decide) rfl (by omega) (by omega) dX12_forget_43 ?_
          refine TT_hp (h' := setO w2_1 96 (fup (w2_1 96) i 46)) (up_can rfl rfl rfl) ?_
          have hT_18 : TY (setO w2_1 96 (fup (w2_1 96) i 46)) := tu_96 hT2_1 (show up w2_1 96 i 46 = (setO w2_1 96 (fup (w2_1 96) i 46)) from up_can rfl rfl rfl) (by omega)
          have hF_18 : FRM [96, 97] [] h (setO w2_1 96 (fup (w2_1 96) i 46)) := FRM_up (show up w2_1 96 i 46 = (setO w2_1 96 (fup (w2_1 96) i 46)) from up_can rfl rfl rfl) hF2_1 (by decide) (by decide)
          refine TT_aload_n hK rfl 0 rfl dX12_forget_44 ?_
          refine gf_X12_87 hK (by decide) rfl (q := 97) rfl rfl dX12_forget_45 ?_
          refine TT_iload_n hK rfl 1 rfl dX12_forget_48 ?_
          refine TT_iconst hK dX12_forget_49 ?_
          refine TT_iast hK (o := 97) (n := 19) (by decide) rfl (by omega) (by omega) dX12_forget_50 ?_
          refine TT_hp (h' := setO (setO w2_1 96 (fup (w2_1 96) i 46)) 97 (fup (w2_1 97) i 0)) (up_can (sOf_ne _ _ (by decide)) rfl rfl) ?_
          have hT_19 : TY (setO (setO w2_1 96 (fup (w2_1 96) i 46)) 97 (fup (w2_1 97) i 0)) := tu_97 hT_18 (show up (setO w2_1 96 (fup (w2_1 96) i 46)) 97 i 0 = (setO (setO w2_1 96 (fup (w2_1 96) i 46)) 97 (fup (w2_1 97) i 0)) from up_can (sOf_ne _ _ (by decide)) rfl rfl) (by omega)
          have hF_19 : FRM [96, 97] [] h (setO (setO w2_1 96 (fup (w2_1 96) i 46)) 97 (fup (w2_1 97) i 0)) := FRM_up (show up (setO w2_1 96 (fup (w2_1 96) i 46)) 97 i 0 = (setO (setO w2_1 96 (fup (w2_1 96) i 46)) 97 (fup (w2_1 97) i 0)) from up_can (sOf_ne _ _ (by decide)) rfl rfl) hF_18 (by decide) (by decide)
          refine TT_iinc hK (v := i + 1) (lv' := [(1, vI (i + 1)), (0, vR 73)]) 1 rfl rfl (by decide) rfl dX12_forget_51 ?_
          refine TT_goto hK (tgt := 2) dX12_forget_54 (by decide) ?_
          refine TT_sub [1, 0] rfl ?_
          have e20_96 : (setO (setO w2_1 96 (fup (w2_1 96) i 46)) 97 (fup (w2_1 97) i 0)) 96 = fup (w2_1 96) i 46 := (sOf_ne _ _ (by decide)).trans (sOf_eq _ _ _)
          have e21_97 : (setO (setO w2_1 96 (fup (w2_1 96) i 46)) 97 (fup (w2_1 97) i 0)) 97 = fup (w2_1 97) i 0 := sOf_eq _ _ _
          exact ih1 (i + 1) (setO (setO w2_1 96 (fup (w2_1 96) i 46)) 97 (fup (w2_1 97) i 0)) hT_19 hF_19 (by first | omega | (simp [up, setR] <;> omega)) (by rewrite [e20_96]; intro j h1 h2; by_cases e : j = i; (rw [e, fup_eq]; unfold st0; (repeat' split) <;> omega); (rw [fup_ne _ _ e]; exact hst j h1 (by omega))) (by rewrite [e21_97]; intro j h1 h2; by_cases e : j = i; (rw [e, fup_eq]); (rw [fup_ne _ _ e]; exact hlk j h1 (by omega))) (by first | omega | (simp [up, setR] <;> omega))
  refine TT_sub [1, 0] rfl ?_
  exact L2_1 ((((19 : Int) - 0).toNat) + 1) 0 h hT hF (by first | omega | (simp [up, setR] <;> omega)) (by intro j h1 h2; exfalso; omega) (by intro j h1 h2; exfalso; omega) (Nat.lt_succ_self _)
set_option maxRecDepth 20000 in
theorem s_begT_e (h : Hp_) (hT : TY h)  : Ctr yX12_beginTelling cX12_beginTelling 1 none (rmd 1) ly ly 0 0 [vR 73] h (fun r h' => (TY h' ∧ FRM [73, 96, 97, 98] [29, 32, 33, 34, 36] h h') ∧ r = none ∧ ((h' 73 32) = 32768) ∧ ((h' 73 34) = 12) ∧ ((h' 73 36) = 1) ∧ ((h' 73 29) = 0) ∧ (ES0 ((h' 73 32), (h' 73 33), (h' 73 34), (h' 73 36), (h' 96), (h' 97), (h' 98)))) := by
  refine Ctr_of (by decide) (Nat.le_of_ble_eq_true rfl) ⟨Nat.le_refl _, Nat.le_refl _⟩ (fun K hK hQ _ => ?_)
  show TT K ly 0 0 0 [(0, vR 73)] [] h
  have hF : FRM [73, 96, 97, 98] [29, 32, 33, 34, 36] h h := FRM_rf _ _ _
  refine TT_aload_n hK rfl 0 rfl dX12_beginTelling_0 ?_
  refine iv_X12_160 hK (s_forget_e h hT ) (by decide) rfl ⟨by decide, by decide⟩ (by decide) rfl rfl (Nat.le_of_ble_eq_true rfl) ⟨by decide, by decide⟩ dX12_beginTelling_1 ?_
  intro r9 g1_1 hp9
  obtain ⟨⟨hT_1, hG_1⟩, hr9, st_1, lk_1⟩ := hp9
  rw [hr9]
  have hF_1 : FRM [73, 96, 97, 98] [29, 32, 33, 34, 36] h g1_1 := FRM_tr hF hG_1 (by decide) (by decide)
  have st_at1 := st_1
  have lk_at1 := lk_1
  show TT K ly 0 0 4 [(0, vR 73)] [] g1_1
  refine TT_aload_n hK rfl 0 rfl dX12_beginTelling_4 ?_
  refine TT_iconst hK dX12_beginTelling_5 ?_
  refine pf_X12_163 hK (by decide) rfl dX12_beginTelling_6 ?_
  refine TT_hp (h' := setO g1_1 73 (fup (h 73) 29 0)) (up_can (hG_1.1 73 (by decide)) rfl rfl) ?_
  have hT_2 : TY (setO g1_1 73 (fup (h 73) 29 0)) := tu_73_29 hT_1 (show up g1_1 73 29 0 = (setO g1_1 73 (fup (h 73) 29 0)) from up_can (hG_1.1 73 (by decide)) rfl rfl) (by omega)
  have hF_2 : FRM [73, 96, 97, 98] [29, 32, 33, 34, 36] h (setO g1_1 73 (fup (h 73) 29 0)) := FRM_f (show up g1_1 73 29 0 = (setO g1_1 73 (fup (h 73) 29 0)) from up_can (hG_1.1 73 (by decide)) rfl rfl) hF_1 (by decide) (by decide)
  refine TT_aload_n hK rfl 0 rfl dX12_beginTelling_9 ?_
  refine gf_X12_90 hK (by decide) rfl (q := 98) rfl rfl dX12_beginTelling_10 ?_
  refine TT_iconst hK dX12_beginTelling_13 ?_
  refine TT_iconst hK dX12_beginTelling_14 ?_
  refine TT_iast hK (o := 98) (n := 3200) (by decide) rfl (by omega) (by omega) dX12_beginTelling_15 ?_
  refine TT_hp (h' := setO (setO g1_1 73 (fup (h 73) 29 0)) 98 (fup (h 98) 0 0)) (up_can ((sOf_ne _ _ (by decide)).trans (hG_1.1 98 (by decide))) rfl rfl) ?_
  have hT_3 : TY (setO (setO g1_1 73 (fup (h 73) 29 0)) 98 (fup (h 98) 0 0)) := tu_98 hT_2 (show up (setO g1_1 73 (fup (h 73) 29 0)) 98 0 0 = (setO (setO g1_1 73 (fup (h 73) 29 0)) 98 (fup (h 98) 0 0)) from up_can ((sOf_ne _ _ (by decide)).trans (hG_1.1 98 (by decide))) rfl rfl) (by omega)
  have hF_3 : FRM [73, 96, 97, 98] [29, 32, 33, 34, 36] h (setO (setO g1_1 73 (fup (h 73) 29 0)) 98 (fup (h 98) 0 0)) := FRM_up (show up (setO g1_1 73 (fup (h 73) 29 0)) 98 0 0 = (setO (setO g1_1 73 (fup (h 73) 29 0)) 98 (fup (h 98) 0 0)) from up_can ((sOf_ne _ _ (by decide)).trans (hG_1.1 98 (by decide))) rfl rfl) hF_2 (by decide) (by decide)
  refine TT_aload_n hK rfl 0 rfl dX12_beginTelling_16 ?_
  refine TT_iconst hK dX12_beginTelling_17 ?_
  refine pf_X12_166 hK (by decide) rfl dX12_beginTelling_18 ?_
  refine TT_hp (h' := setO (setO g1_1 73 (fup (fup (h 73) 29 0) 36 1)) 98 (fup (h 98) 0 0)) (up_can ((sOf_ne _ _ (by decide)).trans (sOf_eq _ _ _)) rfl ((setO_comm _ _ _ (by decide)).trans (setO_cg (setO_same _ _ _ _) rfl))) ?_
  have hT_4 : TY (setO (setO g1_1 73 (fup (fup (h 73) 29 0) 36 1)) 98 (fup (h 98) 0 0)) := tu_73_36 hT_3 (show up (setO (setO g1_1 73 (fup (h 73) 29 0)) 98 (fup (h 98) 0 0)) 73 36 1 = (setO (setO g1_1 73 (fup (fup (h 73) 29 0) 36 1)) 98 (fup (h 98) 0 0)) from up_can ((sOf_ne _ _ (by decide)).trans (sOf_eq _ _ _)) rfl ((setO_comm _ _ _ (by decide)).trans (setO_cg (setO_same _ _ _ _) rfl))) (by omega)
  have hF_4 : FRM [73, 96, 97, 98] [29, 32, 33, 34, 36] h (setO (setO g1_1 73 (fup (fup (h 73) 29 0) 36 1)) 98 (fup (h 98) 0 0)) := FRM_f (show up (setO (setO g1_1 73 (fup (h 73) 29 0)) 98 (fup (h 98) 0 0)) 73 36 1 = (setO (setO g1_1 73 (fup (fup (h 73) 29 0) 36 1)) 98 (fup (h 98) 0 0)) from up_can ((sOf_ne _ _ (by decide)).trans (sOf_eq _ _ _)) rfl ((setO_comm _ _ _ (by decide)).trans (setO_cg (setO_same _ _ _ _) rfl))) hF_3 (by decide) (by decide)
  refine TT_aload_n hK rfl 0 rfl dX12_beginTelling_21 ?_
  refine TT_ldc2 hK lc_X12_169 dX12_beginTelling_22 ?_
  refine pf_X12_171 hK (by decide) rfl dX12_beginTelling_25 ?_
  refine TT_hp (h' := setO (setO g1_1 73 (fup (fup (fup (h 73) 29 0) 32 32768) 36 1)) 98 (fup (h 98) 0 0)) (up_can ((sOf_ne _ _ (by decide)).trans (sOf_eq _ _ _)) (fup_comm _ _ _ (by decide)) ((setO_comm _ _ _ (by decide)).trans (setO_cg (setO_same _ _ _ _) rfl))) ?_
  have hT_5 : TY (setO (setO g1_1 73 (fup (fup (fup (h 73) 29 0) 32 32768) 36 1)) 98 (fup (h 98) 0 0)) := tu_73_32 hT_4 (show up (setO (setO g1_1 73 (fup (fup (h 73) 29 0) 36 1)) 98 (fup (h 98) 0 0)) 73 32 32768 = (setO (setO g1_1 73 (fup (fup (fup (h 73) 29 0) 32 32768) 36 1)) 98 (fup (h 98) 0 0)) from up_can ((sOf_ne _ _ (by decide)).trans (sOf_eq _ _ _)) (fup_comm _ _ _ (by decide)) ((setO_comm _ _ _ (by decide)).trans (setO_cg (setO_same _ _ _ _) rfl))) (by omega)
  have hF_5 : FRM [73, 96, 97, 98] [29, 32, 33, 34, 36] h (setO (setO g1_1 73 (fup (fup (fup (h 73) 29 0) 32 32768) 36 1)) 98 (fup (h 98) 0 0)) := FRM_f (show up (setO (setO g1_1 73 (fup (fup (h 73) 29 0) 36 1)) 98 (fup (h 98) 0 0)) 73 32 32768 = (setO (setO g1_1 73 (fup (fup (fup (h 73) 29 0) 32 32768) 36 1)) 98 (fup (h 98) 0 0)) from up_can ((sOf_ne _ _ (by decide)).trans (sOf_eq _ _ _)) (fup_comm _ _ _ (by decide)) ((setO_comm _ _ _ (by decide)).trans (setO_cg (setO_same _ _ _ _) rfl))) hF_4 (by decide) (by decide)
  refine TT_aload_n hK rfl 0 rfl dX12_beginTelling_28 ?_
  refine TT_lconst hK (v := 0) (by decide) dX12_beginTelling_29 ?_
  refine pf_X12_175 hK (by decide) rfl dX12_beginTelling_30 ?_
  refine TT_hp (h' := setO (setO g1_1 73 (fup (fup (fup (fup (h 73) 29 0) 32 32768) 33 0) 36 1)) 98 (fup (h 98) 0 0)) (up_can ((sOf_ne _ _ (by decide)).trans (sOf_eq _ _ _)) (fup_comm _ _ _ (by decide)) ((setO_comm _ _ _ (by decide)).trans (setO_cg (setO_same _ _ _ _) rfl))) ?_
  have hT_6 : TY (setO (setO g1_1 73 (fup (fup (fup (fup (h 73) 29 0) 32 32768) 33 0) 36 1)) 98 (fup (h 98) 0 0)) := tu_73_33 hT_5 (show up (setO (setO g1_1 73 (fup (fup (fup (h 73) 29 0) 32 32768) 36 1)) 98 (fup (h 98) 0 0)) 73 33 0 = (setO (setO g1_1 73 (fup (fup (fup (fup (h 73) 29 0) 32 32768) 33 0) 36 1)) 98 (fup (h 98) 0 0)) from up_can ((sOf_ne _ _ (by decide)).trans (sOf_eq _ _ _)) (fup_comm _ _ _ (by decide)) ((setO_comm _ _ _ (by decide)).trans (setO_cg (setO_same _ _ _ _) rfl))) (by omega)
  have hF_6 : FRM [73, 96, 97, 98] [29, 32, 33, 34, 36] h (setO (setO g1_1 73 (fup (fup (fup (fup (h 73) 29 0) 32 32768) 33 0) 36 1)) 98 (fup (h 98) 0 0)) := FRM_f (show up (setO (setO g1_1 73 (fup (fup (fup (h 73) 29 0) 32 32768) 36 1)) 98 (fup (h 98) 0 0)) 73 33 0 = (setO (setO g1_1 73 (fup (fup (fup (fup (h 73) 29 0) 32 32768) 33 0) 36 1)) 98 (fup (h 98) 0 0)) from up_can ((sOf_ne _ _ (by decide)).trans (sOf_eq _ _ _)) (fup_comm _ _ _ (by decide)) ((setO_comm _ _ _ (by decide)).trans (setO_cg (setO_same _ _ _ _) rfl))) hF_5 (by decide) (by decide)
  refine TT_aload_n hK rfl 0 rfl dX12_beginTelling_33 ?_
  refine TT_bipush hK (by decide) dX12_beginTelling_34 ?_
  refine pf_X12_178 hK (by decide) rfl dX12_beginTelling_36 ?_
  refine TT_hp (h' := setO (setO g1_1 73 (fup (fup (fup (fup (fup (h 73) 29 0) 32 32768) 33 0) 34 12) 36 1)) 98 (fup (h 98) 0 0)) (up_can ((sOf_ne _ _ (by decide)).trans (sOf_eq _ _ _)) (fup_comm _ _ _ (by decide)) ((setO_comm _ _ _ (by decide)).trans (setO_cg (setO_same _ _ _ _) rfl))) ?_
  have hT_7 : TY (setO (setO g1_1 73 (fup (fup (fup (fup (fup (h 73) 29 0) 32 32768) 33 0) 34 12) 36 1)) 98 (fup (h 98) 0 0)) := tu_73_34 hT_6 (show up (setO (setO g1_1 73 (fup (fup (fup (fup (h 73) 29 0) 32 32768) 33 0) 36 1)) 98 (fup (h 98) 0 0)) 73 34 12 = (setO (setO g1_1 73 (fup (fup (fup (fup (fup (h 73) 29 0) 32 32768) 33 0) 34 12) 36 1)) 98 (fup (h 98) 0 0)) from up_can ((sOf_ne _ _ (by decide)).trans (sOf_eq _ _ _)) (fup_comm _ _ _ (by decide)) ((setO_comm _ _ _ (by decide)).trans (setO_cg (setO_same _ _ _ _) rfl))) (by omega)
  have hF_7 : FRM [73, 96, 97, 98] [29, 32, 33, 34, 36] h (setO (setO g1_1 73 (fup (fup (fup (fup (fup (h 73) 29 0) 32 32768) 33 0) 34 12) 36 1)) 98 (fup (h 98) 0 0)) := FRM_f (show up (setO (setO g1_1 73 (fup (fup (fup (fup (h 73) 29 0) 32 32768) 33 0) 36 1)) 98 (fup (h 98) 0 0)) 73 34 12 = (setO (setO g1_1 73 (fup (fup (fup (fup (fup (h 73) 29 0) 32 32768) 33 0) 34 12) 36 1)) 98 (fup (h 98) 0 0)) from up_can ((sOf_ne _ _ (by decide)).trans (sOf_eq _ _ _)) (fup_comm _ _ _ (by decide)) ((setO_comm _ _ _ (by decide)).trans (setO_cg (setO_same _ _ _ _) rfl))) hF_6 (by decide) (by decide)
  refine TT_vret hK hQ ?_ dX12_beginTelling_39
  have e8_73_32 : (setO (setO g1_1 73 (fup (fup (fup (fup (fup (h 73) 29 0) 32 32768) 33 0) 34 12) 36 1)) 98 (fup (h 98) 0 0)) 73 32 = 32768 := rd_ ((sOf_ne _ _ (by decide)).trans (sOf_eq _ _ _)) ((fup_ne _ _ (by decide)).trans ((fup_ne _ _ (by decide)).trans ((fup_ne _ _ (by decide)).trans (fup_eq _ _ _))))
  have e9_73_34 : (setO (setO g1_1 73 (fup (fup (fup (fup (fup (h 73) 29 0) 32 32768) 33 0) 34 12) 36 1)) 98 (fup (h 98) 0 0)) 73 34 = 12 := rd_ ((sOf_ne _ _ (by decide)).trans (sOf_eq _ _ _)) ((fup_ne _ _ (by decide)).trans (fup_eq _ _ _))
  have e10_73_36 : (setO (setO g1_1 73 (fup (fup (fup (fup (fup (h 73) 29 0) 32 32768) 33 0) 34 12) 36 1)) 98 (fup (h 98) 0 0)) 73 36 = 1 := rd_ ((sOf_ne _ _ (by decide)).trans (sOf_eq _ _ _)) (fup_eq _ _ _)
  have e11_73_29 : (setO (setO g1_1 73 (fup (fup (fup (fup (fup (h 73) 29 0) 32 32768) 33 0) 34 12) 36 1)) 98 (fup (h 98) 0 0)) 73 29 = 0 := rd_ ((sOf_ne _ _ (by decide)).trans (sOf_eq _ _ _)) ((fup_ne _ _ (by decide)).trans ((fup_ne _ _ (by decide)).trans ((fup_ne _ _ (by decide)).trans ((fup_ne _ _ (by decide)).trans (fup_eq _ _ _)))))
  have e12_73_32 : (setO (setO g1_1 73 (fup (fup (fup (fup (fup (h 73) 29 0) 32 32768) 33 0) 34 12) 36 1)) 98 (fup (h 98) 0 0)) 73 32 = 32768 := rd_ ((sOf_ne _ _ (by decide)).trans (sOf_eq _ _ _)) ((fup_ne _ _ (by decide)).trans ((fup_ne _ _ (by decide)).trans ((fup_ne _ _ (by decide)).trans (fup_eq _ _ _))))
  have e13_73_33 : (setO (setO g1_1 73 (fup (fup (fup (fup (fup (h 73) 29 0) 32 32768) 33 0) 34 12) 36 1)) 98 (fup (h 98) 0 0)) 73 33 = 0 := rd_ ((sOf_ne _ _ (by decide)).trans (sOf_eq _ _ _)) ((fup_ne _ _ (by decide)).trans ((fup_ne _ _ (by decide)).trans (fup_eq _ _ _)))
  have e14_73_34 : (setO (setO g1_1 73 (fup (fup (fup (fup (fup (h 73) 29 0) 32 32768) 33 0) 34 12) 36 1)) 98 (fup (h 98) 0 0)) 73 34 = 12 := rd_ ((sOf_ne _ _ (by decide)).trans (sOf_eq _ _ _)) ((fup_ne _ _ (by decide)).trans (fup_eq _ _ _))
  have e15_73_36 : (setO (setO g1_1 73 (fup (fup (fup (fup (fup (h 73) 29 0) 32 32768) 33 0) 34 12) 36 1)) 98 (fup (h 98) 0 0)) 73 36 = 1 := rd_ ((sOf_ne _ _ (by decide)).trans (sOf_eq _ _ _)) (fup_eq _ _ _)
  have e16_96 : (setO (setO g1_1 73 (fup (fup (fup (fup (fup (h 73) 29 0) 32 32768) 33 0) 34 12) 36 1)) 98 (fup (h 98) 0 0)) 96 = g1_1 96 := (sOf_ne _ _ (by decide)).trans (sOf_ne _ _ (by decide))
  have e17_97 : (setO (setO g1_1 73 (fup (fup (fup (fup (fup (h 73) 29 0) 32 32768) 33 0) 34 12) 36 1)) 98 (fup (h 98) 0 0)) 97 = g1_1 97 := (sOf_ne _ _ (by decide)).trans (sOf_ne _ _ (by decide))
  have e18_98 : (setO (setO g1_1 73 (fup (fup (fup (fup (fup (h 73) 29 0) 32 32768) 33 0) 34 12) 36 1)) 98 (fup (h 98) 0 0)) 98 = fup (h 98) 0 0 := sOf_eq _ _ _
  exact ⟨⟨hT_7, hF_7⟩, rfl, (by rewrite [e8_73_32]; omega), (by rewrite [e9_73_34]; omega), (by rewrite [e10_73_36]; omega), (by rewrite [e11_73_29]; omega), (by rewrite [e12_73_32, e13_73_33, e14_73_34, e15_73_36, e16_96, e17_97, e18_98]; exact ⟨rfl, rfl, rfl, rfl, st_at1, lk_at1, show fup (h 98) 0 0 0 = 0 from fup_eq _ _ _⟩)⟩
set_option maxRecDepth 20000 in
theorem s_endT_e (h : Hp_) (hT : TY h) (hn : 1 ≤ (h 73 36) ∧ (h 73 36) ≤ 3190) (hq : MQ_ (h 73 32) (h 73 33) (h 73 34) (h 73 36) (h 98)) (ha : 32768 ≤ (h 73 32)) : Ctr yX12_endTelling cX12_endTelling 5 none (rmd 1) ly ly 0 0 [vR 73] h (fun r h' => (TY h' ∧ FRM [73, 98] [33, 34, 36] h h') ∧ r = none ∧ (2 ≤ (h' 73 36) ∧ (h' 73 36) ≤ (h 73 36) + 2) ∧ ((h' 98) = (endS (h 73 32) (h 73 33) (h 73 34) (h 73 36) (h 98)).2.2.2 ∧ (h' 73 36) = if (endS (h 73 32) (h 73 33) (h 73 34) (h 73 36) (h 98)).2.2.2 ((endS (h 73 32) (h 73 33) (h 73 34) (h 73 36) (h 98)).2.2.1 - 1) = 255 then (endS (h 73 32) (h 73 33) (h 73 34) (h 73 36) (h 98)).2.2.1 - 1 else (endS (h 73 32) (h 73 33) (h 73 34) (h 73 36) (h 98)).2.2.1)) := by
  refine Ctr_of (by decide) (Nat.le_of_ble_eq_true rfl) ⟨Nat.le_refl _, Nat.le_refl _⟩ (fun K hK hQ _ => ?_)
  show TT K ly 0 0 0 [(0, vR 73)] [] h
  have hF : FRM [73, 98] [33, 34, 36] h h := FRM_rf _ _ _
  have hc := hq.c_r
  have hq2 := hq.2.1
  have hec := endC_r hq ha
  have hec2 := hec.1
  have hec3 := hec.2.1
  refine TT_aload_n hK rfl 0 rfl dX12_endTelling_0 ?_
  refine gf_X12_175 hK (by decide) rfl (v := (h 73) 33) rfl dX12_endTelling_1 ?_
  have r1 := ty_73_33 (v := (h 73) 33) hT rfl
  refine TT_aload_n hK rfl 0 rfl dX12_endTelling_4 ?_
  refine gf_X12_171 hK (by decide) rfl (v := (h 73) 32) rfl dX12_endTelling_5 ?_
  have r2 := ty_73_32 (v := (h 73) 32) hT rfl
  refine TT_ladd hK dX12_endTelling_8 ?_
  refine TT_lstore_n hK rfl (lv' := [(1, vJ (((h 73) 33) + ((h 73) 32))), (0, vR 73)]) (by decide) rfl dX12_endTelling_9 ?_
  refine TT_aload_n hK rfl 1 rfl dX12_endTelling_10 ?_
  refine TT_aload_n hK rfl 1 rfl dX12_endTelling_11 ?_
  refine gf_X12_175 hK (by decide) rfl (v := (h 73) 33) rfl dX12_endTelling_12 ?_
  refine TT_ldc2 hK lc_X12_198 dX12_endTelling_15 ?_
  refine TT_ldivn hK (lrm (by omega) (by omega)) (by decide) (by first | omega | (simp [up, setR] <;> omega)) (by first | omega | (simp [up, setR] <;> omega)) dX12_endTelling_18 ?_
  refine TT_ldc2 hK lc_X12_198 dX12_endTelling_19 ?_
  refine TT_lmul hK dX12_endTelling_22 ?_
  refine TT_ldc2 hK lc_X12_200 dX12_endTelling_23 ?_
  refine TT_ladd hK dX12_endTelling_26 ?_
  refine pf_X12_175 hK (by decide) rfl dX12_endTelling_27 ?_
  refine TT_hp (h' := setO h 73 (fup (h 73) 33 (((((h 73) 33) / 65536) * 65536) + 65535))) (up_can rfl rfl rfl) ?_
  have hT_3 : TY (setO h 73 (fup (h 73) 33 (((((h 73) 33) / 65536) * 65536) + 65535))) := tu_73_33 hT (show up h 73 33 (((((h 73) 33) / 65536) * 65536) + 65535) = (setO h 73 (fup (h 73) 33 (((((h 73) 33) / 65536) * 65536) + 65535))) from up_can rfl rfl rfl) (by omega)
  have hF_3 : FRM [73, 98] [33, 34, 36] h (setO h 73 (fup (h 73) 33 (((((h 73) 33) / 65536) * 65536) + 65535))) := FRM_f (show up h 73 33 (((((h 73) 33) / 65536) * 65536) + 65535) = (setO h 73 (fup (h 73) 33 (((((h 73) 33) / 65536) * 65536) + 65535))) from up_can rfl rfl rfl) hF (by decide) (by decide)
  refine TT_aload_n hK rfl 1 rfl dX12_endTelling_30 ?_
  refine TT_aload_n hK rfl 1 rfl dX12_endTelling_31 ?_
  refine gf_X12_175 hK (by decide) rfl (v := ((((h 73) 33) / 65536) * 65536) + 65535) (rd_ (sOf_eq _ _ _) (fup_eq _ _ _)) dX12_endTelling_32 ?_
  have r4 := ty_73_33 (v := ((((h 73) 33) / 65536) * 65536) + 65535) hT_3 (rd_ (sOf_eq _ _ _) (fup_eq _ _ _))
  refine TT_lload_n hK rfl 0 rfl dX12_endTelling_35 ?_
  refine TT_lcmp hK (lrm (by omega) (by omega)) (lrm (by omega) (by omega)) dX12_endTelling_36 ?_
  refine TT_if_lt hK (tgt := 51) (lcmp_ir _ _) dX12_endTelling_37 (by decide) (fun hb37_5 => ?_) (fun hb37_5 => ?_)
  · have hb37_5 := lcmp_lt hb37_5
    refine TT_aload_n hK rfl 1 rfl dX12_endTelling_51 ?_
    refine gf_X12_175 hK (by decide) rfl (v := ((((h 73) 33) / 65536) * 65536) + 65535) (rd_ (sOf_eq _ _ _) (fup_eq _ _ _)) dX12_endTelling_52 ?_
    refine TT_cgJ (b := endC (h 73 32) (h 73 33)) (by unfold endC; first | rw [if_pos (by omega)] | rw [if_neg (by omega)]) ?_
    refine pf_X12_175 hK (by decide) rfl dX12_endTelling_55 ?_
    refine TT_hp (h' := setO h 73 (fup (h 73) 33 (endC (h 73 32) (h 73 33)))) (up_can (sOf_eq _ _ _) (fup_same _ _ _ _) (setO_same _ _ _ _)) ?_
    have hT_6 : TY (setO h 73 (fup (h 73) 33 (endC (h 73 32) (h 73 33)))) := tu_73_33 hT_3 (show up (setO h 73 (fup (h 73) 33 (((((h 73) 33) / 65536) * 65536) + 65535))) 73 33 (endC (h 73 32) (h 73 33)) = (setO h 73 (fup (h 73) 33 (endC (h 73 32) (h 73 33)))) from up_can (sOf_eq _ _ _) (fup_same _ _ _ _) (setO_same _ _ _ _)) (by omega)
    have hF_6 : FRM [73, 98] [33, 34, 36] h (setO h 73 (fup (h 73) 33 (endC (h 73 32) (h 73 33)))) := FRM_f (show up (setO h 73 (fup (h 73) 33 (((((h 73) 33) / 65536) * 65536) + 65535))) 73 33 (endC (h 73 32) (h 73 33)) = (setO h 73 (fup (h 73) 33 (endC (h 73 32) (h 73 33)))) from up_can (sOf_eq _ _ _) (fup_same _ _ _ _) (setO_same _ _ _ _)) hF_3 (by decide) (by decide)
    refine TT_iconst hK dX12_endTelling_58 ?_
    refine TT_istore_n hK rfl (lv' := [(3, vI 0), (1, vJ (((h 73) 33) + ((h 73) 32))), (0, vR 73)]) (by decide) rfl dX12_endTelling_59 ?_
    have L60_7 : ∀ (k7 : Nat) (k : Int) (w60_7 : Hp_), TY w60_7 → FRM [73, 98] [33, 34, 36] h w60_7 → (0 ≤ k ∧ k ≤ 2) → ((w60_7 73 36) = h 73 36 + k) → (((w60_7 73 33), (w60_7 73 34), (w60_7 73 36), (w60_7 98)) = etS (h 73 32) (h 73 33) (h 73 34) (h 73 36) (h 98) k.toNat) → ((2 : Int) - k).toNat < k7 → TT K ly 0 0 60 [(0, vR 73), (3, vI k)] [] w60_7 := by
      intro k7
      induction k7 with
      | zero => intro k w60_7 hT60_7 hF60_7 hk hn1 hS hk7; exact absurd hk7 (Nat.not_lt_zero _)
      | succ k7 ih7 =>
        intro k w60_7 hT60_7 hF60_7 hk hn1 hS hk7
        refine TT_iload_n hK rfl 1 rfl dX12_endTelling_60 ?_
        refine TT_iconst hK dX12_endTelling_61 ?_
        refine TT_icmp_ge hK (tgt := 104) (irm (by omega) (by omega)) (by decide) dX12_endTelling_62 (by decide) (fun hb62_8 => ?_) (fun hb62_8 => ?_)
        · refine TT_aload_n hK rfl 0 rfl dX12_endTelling_104 ?_
          refine TT_aload_n hK rfl 0 rfl dX12_endTelling_105 ?_
          refine gf_X12_90 hK (by decide) rfl (q := 98) rfl rfl dX12_endTelling_106 ?_
          refine TT_aload_n hK rfl 0 rfl dX12_endTelling_109 ?_
          refine gf_X12_166 hK (by decide) rfl (v := (w60_7 73) 36) rfl dX12_endTelling_110 ?_
          have r9 := ty_73_36 (v := (w60_7 73) 36) hT60_7 rfl
          refine TT_iconst hK dX12_endTelling_113 ?_
          refine TT_isub hK dX12_endTelling_114 ?_
          refine TT_iald hK (o := 98) (n := 3200) (by decide) rfl (by first | omega | (simp [up, setR] <;> omega)) (by first | omega | (simp [up, setR] <;> omega)) (v := (w60_7 98) (((w60_7 73) 36) - 1)) rfl dX12_endTelling_115 ?_
          have r10 := ty_98 (i := ((w60_7 73) 36) - 1) (v := (w60_7 98) (((w60_7 73) 36) - 1)) hT60_7 rfl (by omega) (by omega)
          refine TT_sipush hK (by decide) dX12_endTelling_116 ?_
          refine TT_icmp_ne hK (tgt := 131) (irm (by omega) (by omega)) (by decide) dX12_endTelling_119 (by decide) (fun hb119_11 => ?_) (fun hb119_11 => ?_)
          · refine TT_aload_n hK rfl 0 rfl dX12_endTelling_131 ?_
            refine gf_X12_166 hK (by decide) rfl (v := (w60_7 73) 36) rfl dX12_endTelling_132 ?_
            refine pf_X12_166 hK (by decide) rfl dX12_endTelling_135 ?_
            refine TT_hp (h' := setO w60_7 73 (fup (w60_7 73) 36 ((w60_7 73) 36))) (up_can rfl rfl rfl) ?_
            have hT_12 : TY (setO w60_7 73 (fup (w60_7 73) 36 ((w60_7 73) 36))) := tu_73_36 hT60_7 (show up w60_7 73 36 ((w60_7 73) 36) = (setO w60_7 73 (fup (w60_7 73) 36 ((w60_7 73) 36))) from up_can rfl rfl rfl) (by omega)
            have hF_12 : FRM [73, 98] [33, 34, 36] h (setO w60_7 73 (fup (w60_7 73) 36 ((w60_7 73) 36))) := FRM_f (show up w60_7 73 36 ((w60_7 73) 36) = (setO w60_7 73 (fup (w60_7 73) 36 ((w60_7 73) 36))) from up_can rfl rfl rfl) hF60_7 (by decide) (by decide)
            refine TT_vret hK hQ ?_ dX12_endTelling_138
            have e13_73_36 : (setO w60_7 73 (fup (w60_7 73) 36 ((w60_7 73) 36))) 73 36 = (w60_7 73) 36 := rd_ (sOf_eq _ _ _) (fup_eq _ _ _)
            have e14_73_36 : (setO w60_7 73 (fup (w60_7 73) 36 ((w60_7 73) 36))) 73 36 = (w60_7 73) 36 := rd_ (sOf_eq _ _ _) (fup_eq _ _ _)
            have e15_98 : (setO w60_7 73 (fup (w60_7 73) 36 ((w60_7 73) 36))) 98 = w60_7 98 := sOf_ne _ _ (by decide)
            exact ⟨⟨hT_12, hF_12⟩, rfl, (by rewrite [e13_73_36]; omega), (by rewrite [e14_73_36, e15_98]; have e2 : etS (h 73 32) (h 73 33) (h 73 34) (h 73 36) (h 98) k.toNat = endS (h 73 32) (h 73 33) (h 73 34) (h 73 36) (h 98) := (by rw [show k.toNat = 2 by omega]; rfl); rw [← e2, ← hS]; exact ⟨rfl, by dsimp only; first | rw [if_pos (by omega)] | rw [if_neg (by omega)]⟩)⟩
          · refine TT_aload_n hK rfl 0 rfl dX12_endTelling_122 ?_
            refine gf_X12_166 hK (by decide) rfl (v := (w60_7 73) 36) rfl dX12_endTelling_123 ?_
            refine TT_iconst hK dX12_endTelling_126 ?_
            refine TT_isub hK dX12_endTelling_127 ?_
            refine TT_goto hK (tgt := 135) dX12_endTelling_128 (by decide) ?_
            refine pf_X12_166 hK (by decide) rfl dX12_endTelling_135 ?_
            refine TT_hp (h' := setO w60_7 73 (fup (w60_7 73) 36 (((w60_7 73) 36) - 1))) (up_can rfl rfl rfl) ?_
            have hT_16 : TY (setO w60_7 73 (fup (w60_7 73) 36 (((w60_7 73) 36) - 1))) := tu_73_36 hT60_7 (show up w60_7 73 36 (((w60_7 73) 36) - 1) = (setO w60_7 73 (fup (w60_7 73) 36 (((w60_7 73) 36) - 1))) from up_can rfl rfl rfl) (by omega)
            have hF_16 : FRM [73, 98] [33, 34, 36] h (setO w60_7 73 (fup (w60_7 73) 36 (((w60_7 73) 36) - 1))) := FRM_f (show up w60_7 73 36 (((w60_7 73) 36) - 1) = (setO w60_7 73 (fup (w60_7 73) 36 (((w60_7 73) 36) - 1))) from up_can rfl rfl rfl) hF60_7 (by decide) (by decide)
            refine TT_vret hK hQ ?_ dX12_endTelling_138
            have e17_73_36 : (setO w60_7 73 (fup (w60_7 73) 36 (((w60_7 73) 36) - 1))) 73 36 = ((w60_7 73) 36) - 1 := rd_ (sOf_eq _ _ _) (fup_eq _ _ _)
            have e18_73_36 : (setO w60_7 73 (fup (w60_7 73) 36 (((w60_7 73) 36) - 1))) 73 36 = ((w60_7 73) 36) - 1 := rd_ (sOf_eq _ _ _) (fup_eq _ _ _)
            have e19_98 : (setO w60_7 73 (fup (w60_7 73) 36 (((w60_7 73) 36) - 1))) 98 = w60_7 98 := sOf_ne _ _ (by decide)
            exact ⟨⟨hT_16, hF_16⟩, rfl, (by rewrite [e17_73_36]; omega), (by rewrite [e18_73_36, e19_98]; have e2 : etS (h 73 32) (h 73 33) (h 73 34) (h 73 36) (h 98) k.toNat = endS (h 73 32) (h 73 33) (h 73 34) (h 73 36) (h 98) := (by rw [show k.toNat = 2 by omega]; rfl); rw [← e2, ← hS]; exact ⟨rfl, by dsimp only; first | rw [if_pos (by omega)] | rw [if_neg (by omega)]⟩)⟩
        · have eR := etS_r hq ha (k := k.toNat) (by omega)
          rw [← hS] at eR
          dsimp only at eR
          refine TT_aload_n hK rfl 0 rfl dX12_endTelling_65 ?_
          refine gf_X12_178 hK (by decide) rfl (v := (w60_7 73) 34) rfl dX12_endTelling_66 ?_
          have r20 := ty_73_34 (v := (w60_7 73) 34) hT60_7 rfl
          refine TT_istore hK (lv' := [(4, vI ((w60_7 73) 34)), (0, vR 73), (3, vI k)]) (by decide) rfl dX12_endTelling_69 ?_
          have L71_21 : ∀ (k21 : Nat) (i : Int) (C9 : Int) (T9 : Int) (N9 : Int) (O9 : Int → Int) (w71_21 : Hp_), TY w71_21 → FRM [73, 98] [33, 34, 36] h w71_21 → (0 ≤ i ∧ i ≤ 12) → ((w71_21 73 36) = h 73 36 + k) → ((w71_21 73 34) = T9) → ((w71_21 73 36) = N9) → ((w71_21 98) = O9) → ((C9, T9, N9, O9) = etS (h 73 32) (h 73 33) (h 73 34) (h 73 36) (h 98) k.toNat) → ((w71_21 73 33) * 2 ^ i.toNat = C9 * 2 ^ T9.toNat) → (0 ≤ (w71_21 73 33)) → (C9 * 2 ^ T9.toNat < 150994944) → ((0 ≤ C9 ∧ C9 * 2 ^ T9.toNat < 150994944) ∧ (1 ≤ T9 ∧ T9 ≤ 12) ∧ (0 ≤ O9 (N9 - 1) ∧ O9 (N9 - 1) ≤ 255) ∧ N9 = h 73 36 + ((k.toNat : Nat) : Int)) → i.toNat < k21 → TT K ly 0 0 71 [(0, vR 73), (3, vI k), (4, vI i)] [] w71_21 := by
            intro k21
            induction k21 with
            | zero => intro i C9 T9 N9 O9 w71_21 hT71_21 hF71_21 hi hn2 h34 h36 h98 hS9 hCT hc0 hb9 eR hk21; exact absurd hk21 (Nat.not_lt_zero _)
            | succ k21 ih21 =>
              intro i C9 T9 N9 O9 w71_21 hT71_21 hF71_21 hi hn2 h34 h36 h98 hS9 hCT hc0 hb9 eR hk21
              have ld := le_dbl (i := i) hc0
              refine TT_iload hK 2 rfl dX12_endTelling_71 ?_
              refine TT_if_le hK (tgt := 94) (irm (by omega) (by omega)) dX12_endTelling_73 (by decide) (fun hb73_22 => ?_) (fun hb73_22 => ?_)
              · have hcz := hCT
                rw [show i = 0 by omega, p2_0] at hcz
                refine TT_aload_n hK rfl 0 rfl dX12_endTelling_94 ?_
                have e23_73_36 : w71_21 73 36 = (w71_21 73) 36 := rfl
                have e24_73_33 : w71_21 73 33 = (w71_21 73) 33 := rfl
                have e25_73_36 : w71_21 73 36 = (w71_21 73) 36 := rfl
                refine iv_X12_195 hK (s_putOut_e w71_21 hT71_21 (by rewrite [e23_73_36]; first | omega | (simp [up, setR] <;> omega)) (by rewrite [e24_73_33]; omega) (by rewrite [e25_73_36]; rw [h98, h36]; exact eR.2.2.1)) (by decide) rfl ⟨by decide, by decide⟩ (by decide) rfl rfl (Nat.le_of_ble_eq_true rfl) ⟨by decide, by decide⟩ dX12_endTelling_95 ?_
                intro r9 g95_26 hp9
                obtain ⟨⟨hT_26, hG_26⟩, hr9, p1_26, p2_26, o1_26, o2_26, o3_26, o4_26⟩ := hp9
                rw [hr9]
                have hF_26 : FRM [73, 98] [33, 34, 36] h g95_26 := FRM_tr hF71_21 hG_26 (by decide) (by decide)
                rw [show w71_21 73 36 = (w71_21 73) 36 from rfl] at p1_26
                rw [show w71_21 73 33 = (w71_21 73) 33 from rfl] at o1_26
                rw [show w71_21 73 36 = (w71_21 73) 36 from rfl] at o1_26
                rw [show w71_21 73 33 = (w71_21 73) 33 from rfl] at o2_26
                rw [show w71_21 73 36 = (w71_21 73) 36 from rfl] at o2_26
                rw [show w71_21 73 33 = (w71_21 73) 33 from rfl] at o3_26
                rw [show w71_21 73 36 = (w71_21 73) 36 from rfl] at o3_26
                rw [show w71_21 73 33 = (w71_21 73) 33 from rfl] at o4_26
                rw [show w71_21 73 36 = (w71_21 73) 36 from rfl] at o4_26
                have o1_at95 := o1_26
                have o2_at95 := o2_26
                have o3_at95 := o3_26
                have o4_at95 := o4_26
                show TT K ly 0 0 98 [(0, vR 73), (3, vI k), (4, vI i)] [] g95_26
                refine TT_iinc hK (v := k + 1) (lv' := [(3, vI (k + 1)), (0, vR 73), (4, vI i)]) 1 rfl rfl (by decide) rfl dX12_endTelling_98 ?_
                refine TT_goto hK (tgt := 60) dX12_endTelling_101 (by decide) ?_
                refine TT_sub [1, 0] rfl ?_
                have e27_73_36 : g95_26 73 36 = (g95_26 73) 36 := rfl
                have e28_73_33 : g95_26 73 33 = (g95_26 73) 33 := rfl
                have e29_73_34 : g95_26 73 34 = (g95_26 73) 34 := rfl
                have e30_73_36 : g95_26 73 36 = (g95_26 73) 36 := rfl
                exact ih7 (k + 1) g95_26 hT_26 hF_26 (by first | omega | (simp [up, setR] <;> omega)) (by rewrite [e27_73_36]; first | omega | (simp [up, setR] <;> omega)) (by rewrite [e28_73_33, e29_73_34, e30_73_36]; rw [show (k + 1).toNat = k.toNat + 1 by omega, o1_at95, o2_at95, o3_at95, o4_at95, hcz, h36, h98]; show _ = outS ((etS (h 73 32) (h 73 33) (h 73 34) (h 73 36) (h 98) k.toNat).1 * 2 ^ (etS (h 73 32) (h 73 33) (h 73 34) (h 73 36) (h 98) k.toNat).2.1.toNat) (etS (h 73 32) (h 73 33) (h 73 34) (h 73 36) (h 98) k.toNat).2.2.1 (etS (h 73 32) (h 73 33) (h 73 34) (h 73 36) (h 98) k.toNat).2.2.2; rw [← hS9]) (by first | omega | (simp [up, setR] <;> omega))
              · refine TT_aload_n hK rfl 0 rfl dX12_endTelling_76 ?_
                refine TT_ldc2 hK lc_X12_193 dX12_endTelling_77 ?_
                refine TT_aload_n hK rfl 0 rfl dX12_endTelling_80 ?_
                refine gf_X12_175 hK (by decide) rfl (v := (w71_21 73) 33) rfl dX12_endTelling_81 ?_
                have r31 := ty_73_33 (v := (w71_21 73) 33) hT71_21 rfl
                refine TT_lmul hK dX12_endTelling_84 ?_
                refine pf_X12_175 hK (by decide) rfl dX12_endTelling_85 ?_
                refine TT_hp (h' := setO w71_21 73 (fup (w71_21 73) 33 (2 * ((w71_21 73) 33)))) (up_can rfl rfl rfl) ?_
                have hT_32 : TY (setO w71_21 73 (fup (w71_21 73) 33 (2 * ((w71_21 73) 33)))) := tu_73_33 hT71_21 (show up w71_21 73 33 (2 * ((w71_21 73) 33)) = (setO w71_21 73 (fup (w71_21 73) 33 (2 * ((w71_21 73) 33)))) from up_can rfl rfl rfl) (by omega)
                have hF_32 : FRM [73, 98] [33, 34, 36] h (setO w71_21 73 (fup (w71_21 73) 33 (2 * ((w71_21 73) 33)))) := FRM_f (show up w71_21 73 33 (2 * ((w71_21 73) 33)) = (setO w71_21 73 (fup (w71_21 73) 33 (2 * ((w71_21 73) 33)))) from up_can rfl rfl rfl) hF71_21 (by decide) (by decide)
                refine TT_iinc hK (v := i - 1) (lv' := [(4, vI (i - 1)), (0, vR 73), (3, vI k)]) 2 rfl (by omega) (by decide) rfl dX12_endTelling_88 ?_
                refine TT_goto hK (tgt := 71) dX12_endTelling_91 (by decide) ?_
                refine TT_sub [1, 2, 0] rfl ?_
                have e33_73_36 : (setO w71_21 73 (fup (w71_21 73) 33 (2 * ((w71_21 73) 33)))) 73 36 = (w71_21 73) 36 := rd_ (sOf_eq _ _ _) (fup_ne _ _ (by decide))
                have e34_73_34 : (setO w71_21 73 (fup (w71_21 73) 33 (2 * ((w71_21 73) 33)))) 73 34 = (w71_21 73) 34 := rd_ (sOf_eq _ _ _) (fup_ne _ _ (by decide))
                have e35_73_36 : (setO w71_21 73 (fup (w71_21 73) 33 (2 * ((w71_21 73) 33)))) 73 36 = (w71_21 73) 36 := rd_ (sOf_eq _ _ _) (fup_ne _ _ (by decide))
                have e36_98 : (setO w71_21 73 (fup (w71_21 73) 33 (2 * ((w71_21 73) 33)))) 98 = w71_21 98 := sOf_ne _ _ (by decide)
                have e37_73_33 : (setO w71_21 73 (fup (w71_21 73) 33 (2 * ((w71_21 73) 33)))) 73 33 = 2 * ((w71_21 73) 33) := rd_ (sOf_eq _ _ _) (fup_eq _ _ _)
                have e38_73_33 : (setO w71_21 73 (fup (w71_21 73) 33 (2 * ((w71_21 73) 33)))) 73 33 = 2 * ((w71_21 73) 33) := rd_ (sOf_eq _ _ _) (fup_eq _ _ _)
                exact ih21 (i - 1) C9 T9 N9 O9 (setO w71_21 73 (fup (w71_21 73) 33 (2 * ((w71_21 73) 33)))) hT_32 hF_32 (by first | omega | (simp [up, setR] <;> omega)) (by rewrite [e33_73_36]; first | omega | (simp [up, setR] <;> omega)) (by rewrite [e34_73_34]; first | omega | (simp [up, setR] <;> omega)) (by rewrite [e35_73_36]; first | omega | (simp [up, setR] <;> omega)) (by rewrite [e36_98]; exact h98) (by exact hS9) (by rewrite [e37_73_33]; rw [← hCT]; exact dblP (by omega)) (by rewrite [e38_73_33]; omega) (by exact hb9) (by exact eR) (by first | omega | (simp [up, setR] <;> omega))
          refine TT_sub [1, 2, 0] rfl ?_
          have e39_73_36 : w60_7 73 36 = (w60_7 73) 36 := rfl
          have e40_73_34 : w60_7 73 34 = (w60_7 73) 34 := rfl
          have e41_73_36 : w60_7 73 36 = (w60_7 73) 36 := rfl
          have e42_73_33 : w60_7 73 33 = (w60_7 73) 33 := rfl
          have e43_73_33 : w60_7 73 33 = (w60_7 73) 33 := rfl
          exact L71_21 ((((w60_7 73) 34).toNat) + 1) ((w60_7 73) 34) ((w60_7 73) 33) ((w60_7 73) 34) ((w60_7 73) 36) (w60_7 98) w60_7 hT60_7 hF60_7 (by first | omega | (simp [up, setR] <;> omega)) (by rewrite [e39_73_36]; first | omega | (simp [up, setR] <;> omega)) (by rewrite [e40_73_34]; first | omega | (simp [up, setR] <;> omega)) (by rewrite [e41_73_36]; first | omega | (simp [up, setR] <;> omega)) (by rfl) (by exact hS) (by rewrite [e42_73_33]; rfl) (by rewrite [e43_73_33]; omega) (by exact eR.1.2) (by exact eR) (Nat.lt_succ_self _)
    refine TT_sub [2, 0] rfl ?_
    have e44_73_36 : (setO h 73 (fup (h 73) 33 (endC (h 73 32) (h 73 33)))) 73 36 = (h 73) 36 := rd_ (sOf_eq _ _ _) (fup_ne _ _ (by decide))
    have e45_73_33 : (setO h 73 (fup (h 73) 33 (endC (h 73 32) (h 73 33)))) 73 33 = endC (h 73 32) (h 73 33) := rd_ (sOf_eq _ _ _) (fup_eq _ _ _)
    have e46_73_34 : (setO h 73 (fup (h 73) 33 (endC (h 73 32) (h 73 33)))) 73 34 = (h 73) 34 := rd_ (sOf_eq _ _ _) (fup_ne _ _ (by decide))
    have e47_73_36 : (setO h 73 (fup (h 73) 33 (endC (h 73 32) (h 73 33)))) 73 36 = (h 73) 36 := rd_ (sOf_eq _ _ _) (fup_ne _ _ (by decide))
    have e48_98 : (setO h 73 (fup (h 73) 33 (endC (h 73 32) (h 73 33)))) 98 = h 98 := sOf_ne _ _ (by decide)
    exact L60_7 ((((2 : Int) - 0).toNat) + 1) 0 (setO h 73 (fup (h 73) 33 (endC (h 73 32) (h 73 33)))) hT_6 hF_6 (by first | omega | (simp [up, setR] <;> omega)) (by rewrite [e44_73_36]; first | omega | (simp [up, setR] <;> omega)) (by rewrite [e45_73_33, e46_73_34, e47_73_36, e48_98]; rfl) (Nat.lt_succ_self _)
  · have hb37_5 := lcmp_ge hb37_5
    refine TT_aload_n hK rfl 1 rfl dX12_endTelling_40 ?_
    refine gf_X12_175 hK (by decide) rfl (v := ((((h 73) 33) / 65536) * 65536) + 65535) (rd_ (sOf_eq _ _ _) (fup_eq _ _ _)) dX12_endTelling_41 ?_
    refine TT_ldc2 hK lc_X12_169 dX12_endTelling_44 ?_
    refine TT_lsub hK dX12_endTelling_47 ?_
    refine TT_goto hK (tgt := 55) dX12_endTelling_48 (by decide) ?_
    refine TT_cgJ (b := endC (h 73 32) (h 73 33)) (by unfold endC; first | rw [if_pos (by omega)] | rw [if_neg (by omega)]) ?_
    refine pf_X12_175 hK (by decide) rfl dX12_endTelling_55 ?_
    refine TT_hp (h' := setO h 73 (fup (h 73) 33 (endC (h 73 32) (h 73 33)))) (up_can (sOf_eq _ _ _) (fup_same _ _ _ _) (setO_same _ _ _ _)) ?_
    have hT_49 : TY (setO h 73 (fup (h 73) 33 (endC (h 73 32) (h 73 33)))) := tu_73_33 hT_3 (show up (setO h 73 (fup (h 73) 33 (((((h 73) 33) / 65536) * 65536) + 65535))) 73 33 (endC (h 73 32) (h 73 33)) = (setO h 73 (fup (h 73) 33 (endC (h 73 32) (h 73 33)))) from up_can (sOf_eq _ _ _) (fup_same _ _ _ _) (setO_same _ _ _ _)) (by omega)
    have hF_49 : FRM [73, 98] [33, 34, 36] h (setO h 73 (fup (h 73) 33 (endC (h 73 32) (h 73 33)))) := FRM_f (show up (setO h 73 (fup (h 73) 33 (((((h 73) 33) / 65536) * 65536) + 65535))) 73 33 (endC (h 73 32) (h 73 33)) = (setO h 73 (fup (h 73) 33 (endC (h 73 32) (h 73 33)))) from up_can (sOf_eq _ _ _) (fup_same _ _ _ _) (setO_same _ _ _ _)) hF_3 (by decide) (by decide)
    refine TT_iconst hK dX12_endTelling_58 ?_
    refine TT_istore_n hK rfl (lv' := [(3, vI 0), (1, vJ (((h 73) 33) + ((h 73) 32))), (0, vR 73)]) (by decide) rfl dX12_endTelling_59 ?_
    have L60_50 : ∀ (k50 : Nat) (k : Int) (w60_50 : Hp_), TY w60_50 → FRM [73, 98] [33, 34, 36] h w60_50 → (0 ≤ k ∧ k ≤ 2) → ((w60_50 73 36) = h 73 36 + k) → (((w60_50 73 33), (w60_50 73 34), (w60_50 73 36), (w60_50 98)) = etS (h 73 32) (h 73 33) (h 73 34) (h 73 36) (h 98) k.toNat) → ((2 : Int) - k).toNat < k50 → TT K ly 0 0 60 [(0, vR 73), (3, vI k)] [] w60_50 := by
      intro k50
      induction k50 with
      | zero => intro k w60_50 hT60_50 hF60_50 hk hn1 hS hk50; exact absurd hk50 (Nat.not_lt_zero _)
      | succ k50 ih50 =>
        intro k w60_50 hT60_50 hF60_50 hk hn1 hS hk50
        refine TT_iload_n hK rfl 1 rfl dX12_endTelling_60 ?_
        refine TT_iconst hK dX12_endTelling_61 ?_
        refine TT_icmp_ge hK (tgt := 104) (irm (by omega) (by omega)) (by decide) dX12_endTelling_62 (by decide) (fun hb62_51 => ?_) (fun hb62_51 => ?_)
        · refine TT_aload_n hK rfl 0 rfl dX12_endTelling_104 ?_
          refine TT_aload_n hK rfl 0 rfl dX12_endTelling_105 ?_
          refine gf_X12_90 hK (by decide) rfl (q := 98) rfl rfl dX12_endTelling_106 ?_
          refine TT_aload_n hK rfl 0 rfl dX12_endTelling_109 ?_
          refine gf_X12_166 hK (by decide) rfl (v := (w60_50 73) 36) rfl dX12_endTelling_110 ?_
          have r52 := ty_73_36 (v := (w60_50 73) 36) hT60_50 rfl
          refine TT_iconst hK dX12_endTelling_113 ?_
          refine TT_isub hK dX12_endTelling_114 ?_
          refine TT_iald hK (o := 98) (n := 3200) (by decide) rfl (by first | omega | (simp [up, setR] <;> omega)) (by first | omega | (simp [up, setR] <;> omega)) (v := (w60_50 98) (((w60_50 73) 36) - 1)) rfl dX12_endTelling_115 ?_
          have r53 := ty_98 (i := ((w60_50 73) 36) - 1) (v := (w60_50 98) (((w60_50 73) 36) - 1)) hT60_50 rfl (by omega) (by omega)
          refine TT_sipush hK (by decide) dX12_endTelling_116 ?_
          refine TT_icmp_ne hK (tgt := 131) (irm (by omega) (by omega)) (by decide) dX12_endTelling_119 (by decide) (fun hb119_54 => ?_) (fun hb119_54 => ?_)
          · refine TT_aload_n hK rfl 0 rfl dX12_endTelling_131 ?_
            refine gf_X12_166 hK (by decide) rfl (v := (w60_50 73) 36) rfl dX12_endTelling_132 ?_
            refine pf_X12_166 hK (by decide) rfl dX12_endTelling_135 ?_
            refine TT_hp (h' := setO w60_50 73 (fup (w60_50 73) 36 ((w60_50 73) 36))) (up_can rfl rfl rfl) ?_
            have hT_55 : TY (setO w60_50 73 (fup (w60_50 73) 36 ((w60_50 73) 36))) := tu_73_36 hT60_50 (show up w60_50 73 36 ((w60_50 73) 36) = (setO w60_50 73 (fup (w60_50 73) 36 ((w60_50 73) 36))) from up_can rfl rfl rfl) (by omega)
            have hF_55 : FRM [73, 98] [33, 34, 36] h (setO w60_50 73 (fup (w60_50 73) 36 ((w60_50 73) 36))) := FRM_f (show up w60_50 73 36 ((w60_50 73) 36) = (setO w60_50 73 (fup (w60_50 73) 36 ((w60_50 73) 36))) from up_can rfl rfl rfl) hF60_50 (by decide) (by decide)
            refine TT_vret hK hQ ?_ dX12_endTelling_138
            have e56_73_36 : (setO w60_50 73 (fup (w60_50 73) 36 ((w60_50 73) 36))) 73 36 = (w60_50 73) 36 := rd_ (sOf_eq _ _ _) (fup_eq _ _ _)
            have e57_73_36 : (setO w60_50 73 (fup (w60_50 73) 36 ((w60_50 73) 36))) 73 36 = (w60_50 73) 36 := rd_ (sOf_eq _ _ _) (fup_eq _ _ _)
            have e58_98 : (setO w60_50 73 (fup (w60_50 73) 36 ((w60_50 73) 36))) 98 = w60_50 98 := sOf_ne _ _ (by decide)
            exact ⟨⟨hT_55, hF_55⟩, rfl, (by rewrite [e56_73_36]; omega), (by rewrite [e57_73_36, e58_98]; have e2 : etS (h 73 32) (h 73 33) (h 73 34) (h 73 36) (h 98) k.toNat = endS (h 73 32) (h 73 33) (h 73 34) (h 73 36) (h 98) := (by rw [show k.toNat = 2 by omega]; rfl); rw [← e2, ← hS]; exact ⟨rfl, by dsimp only; first | rw [if_pos (by omega)] | rw [if_neg (by omega)]⟩)⟩
          · refine TT_aload_n hK rfl 0 rfl dX12_endTelling_122 ?_
            refine gf_X12_166 hK (by decide) rfl (v := (w60_50 73) 36) rfl dX12_endTelling_123 ?_
            refine TT_iconst hK dX12_endTelling_126 ?_
            refine TT_isub hK dX12_endTelling_127 ?_
            refine TT_goto hK (tgt := 135) dX12_endTelling_128 (by decide) ?_
            refine pf_X12_166 hK (by decide) rfl dX12_endTelling_135 ?_
            refine TT_hp (h' := setO w60_50 73 (fup (w60_50 73) 36 (((w60_50 73) 36) - 1))) (up_can rfl rfl rfl) ?_
            have hT_59 : TY (setO w60_50 73 (fup (w60_50 73) 36 (((w60_50 73) 36) - 1))) := tu_73_36 hT60_50 (show up w60_50 73 36 (((w60_50 73) 36) - 1) = (setO w60_50 73 (fup (w60_50 73) 36 (((w60_50 73) 36) - 1))) from up_can rfl rfl rfl) (by omega)
            have hF_59 : FRM [73, 98] [33, 34, 36] h (setO w60_50 73 (fup (w60_50 73) 36 (((w60_50 73) 36) - 1))) := FRM_f (show up w60_50 73 36 (((w60_50 73) 36) - 1) = (setO w60_50 73 (fup (w60_50 73) 36 (((w60_50 73) 36) - 1))) from up_can rfl rfl rfl) hF60_50 (by decide) (by decide)
            refine TT_vret hK hQ ?_ dX12_endTelling_138
            have e60_73_36 : (setO w60_50 73 (fup (w60_50 73) 36 (((w60_50 73) 36) - 1))) 73 36 = ((w60_50 73) 36) - 1 := rd_ (sOf_eq _ _ _) (fup_eq _ _ _)
            have e61_73_36 : (setO w60_50 73 (fup (w60_50 73) 36 (((w60_50 73) 36) - 1))) 73 36 = ((w60_50 73) 36) - 1 := rd_ (sOf_eq _ _ _) (fup_eq _ _ _)
            have e62_98 : (setO w60_50 73 (fup (w60_50 73) 36 (((w60_50 73) 36) - 1))) 98 = w60_50 98 := sOf_ne _ _ (by decide)
            exact ⟨⟨hT_59, hF_59⟩, rfl, (by rewrite [e60_73_36]; omega), (by rewrite [e61_73_36, e62_98]; have e2 : etS (h 73 32) (h 73 33) (h 73 34) (h 73 36) (h 98) k.toNat = endS (h 73 32) (h 73 33) (h 73 34) (h 73 36) (h 98) := (by rw [show k.toNat = 2 by omega]; rfl); rw [← e2, ← hS]; exact ⟨rfl, by dsimp only; first | rw [if_pos (by omega)] | rw [if_neg (by omega)]⟩)⟩
        · have eR := etS_r hq ha (k := k.toNat) (by omega)
          rw [← hS] at eR
          dsimp only at eR
          refine TT_aload_n hK rfl 0 rfl dX12_endTelling_65 ?_
          refine gf_X12_178 hK (by decide) rfl (v := (w60_50 73) 34) rfl dX12_endTelling_66 ?_
          have r63 := ty_73_34 (v := (w60_50 73) 34) hT60_50 rfl
          refine TT_istore hK (lv' := [(4, vI ((w60_50 73) 34)), (0, vR 73), (3, vI k)]) (by decide) rfl dX12_endTelling_69 ?_
          have L71_64 : ∀ (k64 : Nat) (i : Int) (C9 : Int) (T9 : Int) (N9 : Int) (O9 : Int → Int) (w71_64 : Hp_), TY w71_64 → FRM [73, 98] [33, 34, 36] h w71_64 → (0 ≤ i ∧ i ≤ 12) → ((w71_64 73 36) = h 73 36 + k) → ((w71_64 73 34) = T9) → ((w71_64 73 36) = N9) → ((w71_64 98) = O9) → ((C9, T9, N9, O9) = etS (h 73 32) (h 73 33) (h 73 34) (h 73 36) (h 98) k.toNat) → ((w71_64 73 33) * 2 ^ i.toNat = C9 * 2 ^ T9.toNat) → (0 ≤ (w71_64 73 33)) → (C9 * 2 ^ T9.toNat < 150994944) → ((0 ≤ C9 ∧ C9 * 2 ^ T9.toNat < 150994944) ∧ (1 ≤ T9 ∧ T9 ≤ 12) ∧ (0 ≤ O9 (N9 - 1) ∧ O9 (N9 - 1) ≤ 255) ∧ N9 = h 73 36 + ((k.toNat : Nat) : Int)) → i.toNat < k64 → TT K ly 0 0 71 [(0, vR 73), (3, vI k), (4, vI i)] [] w71_64 := by
            intro k64
            induction k64 with
            | zero => intro i C9 T9 N9 O9 w71_64 hT71_64 hF71_64 hi hn2 h34 h36 h98 hS9 hCT hc0 hb9 eR hk64; exact absurd hk64 (Nat.not_lt_zero _)
            | succ k64 ih64 =>
              intro i C9 T9 N9 O9 w71_64 hT71_64 hF71_64 hi hn2 h34 h36 h98 hS9 hCT hc0 hb9 eR hk64
              have ld := le_dbl (i := i) hc0
              refine TT_iload hK 2 rfl dX12_endTelling_71 ?_
              refine TT_if_le hK (tgt := 94) (irm (by omega) (by omega)) dX12_endTelling_73 (by decide) (fun hb73_65 => ?_) (fun hb73_65 => ?_)
              · have hcz := hCT
                rw [show i = 0 by omega, p2_0] at hcz
                refine TT_aload_n hK rfl 0 rfl dX12_endTelling_94 ?_
                have e66_73_36 : w71_64 73 36 = (w71_64 73) 36 := rfl
                have e67_73_33 : w71_64 73 33 = (w71_64 73) 33 := rfl
                have e68_73_36 : w71_64 73 36 = (w71_64 73) 36 := rfl
                refine iv_X12_195 hK (s_putOut_e w71_64 hT71_64 (by rewrite [e66_73_36]; first | omega | (simp [up, setR] <;> omega)) (by rewrite [e67_73_33]; omega) (by rewrite [e68_73_36]; rw [h98, h36]; exact eR.2.2.1)) (by decide) rfl ⟨by decide, by decide⟩ (by decide) rfl rfl (Nat.le_of_ble_eq_true rfl) ⟨by decide, by decide⟩ dX12_endTelling_95 ?_
                intro r9 g95_69 hp9
                obtain ⟨⟨hT_69, hG_69⟩, hr9, p1_69, p2_69, o1_69, o2_69, o3_69, o4_69⟩ := hp9
                rw [hr9]
                have hF_69 : FRM [73, 98] [33, 34, 36] h g95_69 := FRM_tr hF71_64 hG_69 (by decide) (by decide)
                rw [show w71_64 73 36 = (w71_64 73) 36 from rfl] at p1_69
                rw [show w71_64 73 33 = (w71_64 73) 33 from rfl] at o1_69
                rw [show w71_64 73 36 = (w71_64 73) 36 from rfl] at o1_69
                rw [show w71_64 73 33 = (w71_64 73) 33 from rfl] at o2_69
                rw [show w71_64 73 36 = (w71_64 73) 36 from rfl] at o2_69
                rw [show w71_64 73 33 = (w71_64 73) 33 from rfl] at o3_69
                rw [show w71_64 73 36 = (w71_64 73) 36 from rfl] at o3_69
                rw [show w71_64 73 33 = (w71_64 73) 33 from rfl] at o4_69
                rw [show w71_64 73 36 = (w71_64 73) 36 from rfl] at o4_69
                have o1_at95 := o1_69
                have o2_at95 := o2_69
                have o3_at95 := o3_69
                have o4_at95 := o4_69
                show TT K ly 0 0 98 [(0, vR 73), (3, vI k), (4, vI i)] [] g95_69
                refine TT_iinc hK (v := k + 1) (lv' := [(3, vI (k + 1)), (0, vR 73), (4, vI i)]) 1 rfl rfl (by decide) rfl dX12_endTelling_98 ?_
                refine TT_goto hK (tgt := 60) dX12_endTelling_101 (by decide) ?_
                refine TT_sub [1, 0] rfl ?_
                have e70_73_36 : g95_69 73 36 = (g95_69 73) 36 := rfl
                have e71_73_33 : g95_69 73 33 = (g95_69 73) 33 := rfl
                have e72_73_34 : g95_69 73 34 = (g95_69 73) 34 := rfl
                have e73_73_36 : g95_69 73 36 = (g95_69 73) 36 := rfl
                exact ih50 (k + 1) g95_69 hT_69 hF_69 (by first | omega | (simp [up, setR] <;> omega)) (by rewrite [e70_73_36]; first | omega | (simp [up, setR] <;> omega)) (by rewrite [e71_73_33, e72_73_34, e73_73_36]; rw [show (k + 1).toNat = k.toNat + 1 by omega, o1_at95, o2_at95, o3_at95, o4_at95, hcz, h36, h98]; show _ = outS ((etS (h 73 32) (h 73 33) (h 73 34) (h 73 36) (h 98) k.toNat).1 * 2 ^ (etS (h 73 32) (h 73 33) (h 73 34) (h 73 36) (h 98) k.toNat).2.1.toNat) (etS (h 73 32) (h 73 33) (h 73 34) (h 73 36) (h 98) k.toNat).2.2.1 (etS (h 73 32) (h 73 33) (h 73 34) (h 73 36) (h 98) k.toNat).2.2.2; rw [← hS9]) (by first | omega | (simp [up, setR] <;> omega))
              · refine TT_aload_n hK rfl 0 rfl dX12_endTelling_76 ?_
                refine TT_ldc2 hK lc_X12_193 dX12_endTelling_77 ?_
                refine TT_aload_n hK rfl 0 rfl dX12_endTelling_80 ?_
                refine gf_X12_175 hK (by decide) rfl (v := (w71_64 73) 33) rfl dX12_endTelling_81 ?_
                have r74 := ty_73_33 (v := (w71_64 73) 33) hT71_64 rfl
                refine TT_lmul hK dX12_endTelling_84 ?_
                refine pf_X12_175 hK (by decide) rfl dX12_endTelling_85 ?_
                refine TT_hp (h' := setO w71_64 73 (fup (w71_64 73) 33 (2 * ((w71_64 73) 33)))) (up_can rfl rfl rfl) ?_
                have hT_75 : TY (setO w71_64 73 (fup (w71_64 73) 33 (2 * ((w71_64 73) 33)))) := tu_73_33 hT71_64 (show up w71_64 73 33 (2 * ((w71_64 73) 33)) = (setO w71_64 73 (fup (w71_64 73) 33 (2 * ((w71_64 73) 33)))) from up_can rfl rfl rfl) (by omega)
                have hF_75 : FRM [73, 98] [33, 34, 36] h (setO w71_64 73 (fup (w71_64 73) 33 (2 * ((w71_64 73) 33)))) := FRM_f (show up w71_64 73 33 (2 * ((w71_64 73) 33)) = (setO w71_64 73 (fup (w71_64 73) 33 (2 * ((w71_64 73) 33)))) from up_can rfl rfl rfl) hF71_64 (by decide) (by decide)
                refine TT_iinc hK (v := i - 1) (lv' := [(4, vI (i - 1)), (0, vR 73), (3, vI k)]) 2 rfl (by omega) (by decide) rfl dX12_endTelling_88 ?_
                refine TT_goto hK (tgt := 71) dX12_endTelling_91 (by decide) ?_
                refine TT_sub [1, 2, 0] rfl ?_
                have e76_73_36 : (setO w71_64 73 (fup (w71_64 73) 33 (2 * ((w71_64 73) 33)))) 73 36 = (w71_64 73) 36 := rd_ (sOf_eq _ _ _) (fup_ne _ _ (by decide))
                have e77_73_34 : (setO w71_64 73 (fup (w71_64 73) 33 (2 * ((w71_64 73) 33)))) 73 34 = (w71_64 73) 34 := rd_ (sOf_eq _ _ _) (fup_ne _ _ (by decide))
                have e78_73_36 : (setO w71_64 73 (fup (w71_64 73) 33 (2 * ((w71_64 73) 33)))) 73 36 = (w71_64 73) 36 := rd_ (sOf_eq _ _ _) (fup_ne _ _ (by decide))
                have e79_98 : (setO w71_64 73 (fup (w71_64 73) 33 (2 * ((w71_64 73) 33)))) 98 = w71_64 98 := sOf_ne _ _ (by decide)
                have e80_73_33 : (setO w71_64 73 (fup (w71_64 73) 33 (2 * ((w71_64 73) 33)))) 73 33 = 2 * ((w71_64 73) 33) := rd_ (sOf_eq _ _ _) (fup_eq _ _ _)
                have e81_73_33 : (setO w71_64 73 (fup (w71_64 73) 33 (2 * ((w71_64 73) 33)))) 73 33 = 2 * ((w71_64 73) 33) := rd_ (sOf_eq _ _ _) (fup_eq _ _ _)
                exact ih64 (i - 1) C9 T9 N9 O9 (setO w71_64 73 (fup (w71_64 73) 33 (2 * ((w71_64 73) 33)))) hT_75 hF_75 (by first | omega | (simp [up, setR] <;> omega)) (by rewrite [e76_73_36]; first | omega | (simp [up, setR] <;> omega)) (by rewrite [e77_73_34]; first | omega | (simp [up, setR] <;> omega)) (by rewrite [e78_73_36]; first | omega | (simp [up, setR] <;> omega)) (by rewrite [e79_98]; exact h98) (by exact hS9) (by rewrite [e80_73_33]; rw [← hCT]; exact dblP (by omega)) (by rewrite [e81_73_33]; omega) (by exact hb9) (by exact eR) (by first | omega | (simp [up, setR] <;> omega))
          refine TT_sub [1, 2, 0] rfl ?_
          have e82_73_36 : w60_50 73 36 = (w60_50 73) 36 := rfl
          have e83_73_34 : w60_50 73 34 = (w60_50 73) 34 := rfl
          have e84_73_36 : w60_50 73 36 = (w60_50 73) 36 := rfl
          have e85_73_33 : w60_50 73 33 = (w60_50 73) 33 := rfl
          have e86_73_33 : w60_50 73 33 = (w60_50 73) 33 := rfl
          exact L71_64 ((((w60_50 73) 34).toNat) + 1) ((w60_50 73) 34) ((w60_50 73) 33) ((w60_50 73) 34) ((w60_50 73) 36) (w60_50 98) w60_50 hT60_50 hF60_50 (by first | omega | (simp [up, setR] <;> omega)) (by rewrite [e82_73_36]; first | omega | (simp [up, setR] <;> omega)) (by rewrite [e83_73_34]; first | omega | (simp [up, setR] <;> omega)) (by rewrite [e84_73_36]; first | omega | (simp [up, setR] <;> omega)) (by rfl) (by exact hS) (by rewrite [e85_73_33]; rfl) (by rewrite [e86_73_33]; omega) (by exact eR.1.2) (by exact eR) (Nat.lt_succ_self _)
    refine TT_sub [2, 0] rfl ?_
    have e87_73_36 : (setO h 73 (fup (h 73) 33 (endC (h 73 32) (h 73 33)))) 73 36 = (h 73) 36 := rd_ (sOf_eq _ _ _) (fup_ne _ _ (by decide))
    have e88_73_33 : (setO h 73 (fup (h 73) 33 (endC (h 73 32) (h 73 33)))) 73 33 = endC (h 73 32) (h 73 33) := rd_ (sOf_eq _ _ _) (fup_eq _ _ _)
    have e89_73_34 : (setO h 73 (fup (h 73) 33 (endC (h 73 32) (h 73 33)))) 73 34 = (h 73) 34 := rd_ (sOf_eq _ _ _) (fup_ne _ _ (by decide))
    have e90_73_36 : (setO h 73 (fup (h 73) 33 (endC (h 73 32) (h 73 33)))) 73 36 = (h 73) 36 := rd_ (sOf_eq _ _ _) (fup_ne _ _ (by decide))
    have e91_98 : (setO h 73 (fup (h 73) 33 (endC (h 73 32) (h 73 33)))) 98 = h 98 := sOf_ne _ _ (by decide)
    exact L60_50 ((((2 : Int) - 0).toNat) + 1) 0 (setO h 73 (fup (h 73) 33 (endC (h 73 32) (h 73 33)))) hT_49 hF_49 (by first | omega | (simp [up, setR] <;> omega)) (by rewrite [e87_73_36]; first | omega | (simp [up, setR] <;> omega)) (by rewrite [e88_73_33, e89_73_34, e90_73_36, e91_98]; rfl) (Nat.lt_succ_self _)
set_option maxRecDepth 20000 in
theorem s_findPlanes_e (b : Int) (h : Hp_) (hT : TY h) (hb : 0 ≤ b ∧ b ≤ 9) (hs4 : ∀ j : Int, 64 * b ≤ j → j < 64 * b + 64 → 0 ≤ (h 84) j ∧ (h 84) j ≤ 4095) : Ctr yX12_findPlanes cX12_findPlanes 3 none (rmd 0) ly ly 0 0 [vR 73, vI b] h (fun r h' => (TY h' ∧ FRM [83] [] h h') ∧ r = none ∧ (∀ j : Int, j ≠ b → (h' 83) j = (h 83) j) ∧ (PZQ (h 84) b (64 * b + 64) ((h' 83) b))) := by
  refine Ctr_of (by decide) (Nat.le_of_ble_eq_true rfl) ⟨Nat.le_refl _, Nat.le_refl _⟩ (fun K hK hQ _ => ?_)
  show TT K ly 0 0 0 [(0, vR 73), (1, vI b)] [] h
  have hF : FRM [83] [] h h := FRM_rf _ _ _
  refine TT_aload_n hK rfl 0 rfl dX12_findPlanes_0 ?_
  refine gf_X12_44 hK (by decide) rfl (q := 83) rfl rfl dX12_findPlanes_1 ?_
  refine TT_iload_n hK rfl 1 rfl dX12_findPlanes_4 ?_
  refine TT_iconst hK dX12_findPlanes_5 ?_
  refine TT_iast hK (o := 83) (n := 20) (by decide) rfl (by omega) (by omega) dX12_findPlanes_6 ?_
  refine TT_hp (h' := setO h 83 (fup (h 83) b 0)) (up_can rfl rfl rfl) ?_
  have hT_1 : TY (setO h 83 (fup (h 83) b 0)) := tu_83 hT (show up h 83 b 0 = (setO h 83 (fup (h 83) b 0)) from up_can rfl rfl rfl) (by omega)
  have hF_1 : FRM [83] [] h (setO h 83 (fup (h 83) b 0)) := FRM_up (show up h 83 b 0 = (setO h 83 (fup (h 83) b 0)) from up_can rfl rfl rfl) hF (by decide) (by decide)
  refine TT_bipush hK (by decide) dX12_findPlanes_7 ?_
  refine TT_iload_n hK rfl 1 rfl dX12_findPlanes_9 ?_
  refine TT_imul hK dX12_findPlanes_10 ?_
  refine TT_istore_n hK rfl (lv' := [(2, vI (64 * b)), (0, vR 73), (1, vI b)]) (by decide) rfl dX12_findPlanes_11 ?_
  have L12_2 : ∀ (k2 : Nat) (k : Int) (w12_2 : Hp_), TY w12_2 → FRM [83] [] h w12_2 → (64 * b ≤ k ∧ k ≤ 64 * b + 64) → (∀ j : Int, j ≠ b → (w12_2 83) j = h 83 j) → (PZQ (h 84) b k ((w12_2 83) b)) → (64 * b + 64 - k).toNat < k2 → TT K ly 0 0 12 [(0, vR 73), (1, vI b), (2, vI k)] [] w12_2 := by
    intro k2
    induction k2 with
    | zero => intro k w12_2 hT12_2 hF12_2 hk hfr hPZ hk2; exact absurd hk2 (Nat.not_lt_zero _)
    | succ k2 ih2 =>
      intro k w12_2 hT12_2 hF12_2 hk hfr hPZ hk2
      refine TT_iload_n hK rfl 2 rfl dX12_findPlanes_12 ?_
      refine TT_bipush hK (by decide) dX12_findPlanes_13 ?_
      refine TT_iload_n hK rfl 1 rfl dX12_findPlanes_15 ?_
      refine TT_imul hK dX12_findPlanes_16 ?_
      refine TT_bipush hK (by decide) dX12_findPlanes_17 ?_
      refine TT_iadd hK dX12_findPlanes_19 ?_
      refine TT_icmp_ge hK (tgt := 59) (irm (by omega) (by omega)) (irm (by omega) (by omega)) dX12_findPlanes_20 (by decide) (fun hb20_3 => ?_) (fun hb20_3 => ?_)
      · refine TT_vret hK hQ ?_ dX12_findPlanes_59
        exact ⟨⟨hT12_2, hF12_2⟩, rfl, (by exact hfr), (by rw [show 64 * b + 64 = k by omega]; exact hPZ)⟩
      · have L23_4 : ∀ (k4 : Nat) (pl : Int) (w23_4 : Hp_), TY w23_4 → FRM [83] [] h w23_4 → ((w23_4 83) b = pl) → (0 ≤ pl ∧ pl ≤ 12) → (∀ j : Int, j ≠ b → (w23_4 83) j = h 83 j) → (PZQ (h 84) b k pl) → ((13 : Int) - pl).toNat < k4 → TT K ly 0 0 23 [(0, vR 73), (1, vI b), (2, vI k)] [] w23_4 := by
          intro k4
          induction k4 with
          | zero => intro pl w23_4 hT23_4 hF23_4 hpl hpl2 hfr2 hPZ2 hk4; exact absurd hk4 (Nat.not_lt_zero _)
          | succ k4 ih4 =>
            intro pl w23_4 hT23_4 hF23_4 hpl hpl2 hfr2 hPZ2 hk4
            refine TT_aload_n hK rfl 0 rfl dX12_findPlanes_23 ?_
            refine gf_X12_47 hK (by decide) rfl (q := 84) rfl rfl dX12_findPlanes_24 ?_
            refine TT_iload_n hK rfl 2 rfl dX12_findPlanes_27 ?_
            refine TT_iald hK (o := 84) (n := 1280) (by decide) rfl (by first | omega | (simp [up, setR] <;> omega)) (by first | omega | (simp [up, setR] <;> omega)) (v := (h 84) k) (rd_ (hF23_4.1 84 (by decide)) rfl) dX12_findPlanes_28 ?_
            have r5 := ty_84 (i := k) (v := (h 84) k) hT23_4 (rd_ (hF23_4.1 84 (by decide)) rfl) (by omega) (by omega)
            have s9 := hs4 k (by omega) (by omega)
            refine TT_iconst hK dX12_findPlanes_29 ?_
            refine TT_aload_n hK rfl 0 rfl dX12_findPlanes_30 ?_
            refine gf_X12_44 hK (by decide) rfl (q := 83) rfl rfl dX12_findPlanes_31 ?_
            refine TT_iload_n hK rfl 1 rfl dX12_findPlanes_34 ?_
            refine TT_iald hK (o := 83) (n := 20) (by decide) rfl (by first | omega | (simp [up, setR] <;> omega)) (by first | omega | (simp [up, setR] <;> omega)) (v := (w23_4 83) b) rfl dX12_findPlanes_35 ?_
            have r6 := ty_83 (i := b) (v := (w23_4 83) b) hT23_4 rfl (by omega) (by omega)
            refine TT_cgI (b := pl) (by first | exact hpl | rfl) ?_
            refine TT_ishl hK (by omega) (by omega) dX12_findPlanes_36 ?_
            refine TT_nmI (fun q9 hq9 => ?_)
            refine TT_icmp_lt hK (tgt := 53) (irm (by have k9 := fpP (p := pl) (by omega) hq9; omega) (by have k9 := fpP (p := pl) (by omega) hq9; omega)) (irm (by have k9 := fpP (p := pl) (by omega) hq9; omega) (by have k9 := fpP (p := pl) (by omega) hq9; omega)) dX12_findPlanes_37 (by decide) (fun hb37_7 => ?_) (fun hb37_7 => ?_)
            · refine TT_iinc hK (v := k + 1) (lv' := [(2, vI (k + 1)), (0, vR 73), (1, vI b)]) 2 rfl rfl (by decide) rfl dX12_findPlanes_53 ?_
              refine TT_goto hK (tgt := 12) dX12_findPlanes_56 (by decide) ?_
              refine TT_sub [1, 2, 0] rfl ?_
              exact ih2 (k + 1) w23_4 hT23_4 hF23_4 (by first | omega | (simp [up, setR] <;> omega)) (by exact hfr2) (by rw [hpl]; exact PZQ_n hPZ2 hq9 (by omega)) (by first | omega | (simp [up, setR] <;> omega))
            · have k9 := fpP (p := pl) (by omega) hq9
              refine TT_aload_n hK rfl 0 rfl dX12_findPlanes_40 ?_
              refine gf_X12_44 hK (by decide) rfl (q := 83) rfl rfl dX12_findPlanes_41 ?_
              refine TT_iload_n hK rfl 1 rfl dX12_findPlanes_44 ?_
              refine TT_dup2 hK rfl rfl dX12_findPlanes_45 ?_
              refine TT_iald hK (o := 83) (n := 20) (by decide) rfl (by first | omega | (simp [up, setR] <;> omega)) (by first | omega | (simp [up, setR] <;> omega)) (v := (w23_4 83) b) rfl dX12_findPlanes_46 ?_
              refine TT_iconst hK dX12_findPlanes_47 ?_
              refine TT_iadd hK dX12_findPlanes_48 ?_
              refine TT_iast hK (o := 83) (n := 20) (by decide) rfl (by omega) (by omega) dX12_findPlanes_49 ?_
              refine TT_hp (h' := setO w23_4 83 (fup (w23_4 83) b (((w23_4 83) b) + 1))) (up_can rfl rfl rfl) ?_
              have hT_8 : TY (setO w23_4 83 (fup (w23_4 83) b (((w23_4 83) b) + 1))) := tu_83 hT23_4 (show up w23_4 83 b (((w23_4 83) b) + 1) = (setO w23_4 83 (fup (w23_4 83) b (((w23_4 83) b) + 1))) from up_can rfl rfl rfl) (by omega)
              have hF_8 : FRM [83] [] h (setO w23_4 83 (fup (w23_4 83) b (((w23_4 83) b) + 1))) := FRM_up (show up w23_4 83 b (((w23_4 83) b) + 1) = (setO w23_4 83 (fup (w23_4 83) b (((w23_4 83) b) + 1))) from up_can rfl rfl rfl) hF23_4 (by decide) (by decide)
              refine TT_goto hK (tgt := 23) dX12_findPlanes_50 (by decide) ?_
              have e9_83 : (setO w23_4 83 (fup (w23_4 83) b (((w23_4 83) b) + 1))) 83 = fup (w23_4 83) b (((w23_4 83) b) + 1) := sOf_eq _ _ _
              have e10_83 : (setO w23_4 83 (fup (w23_4 83) b (((w23_4 83) b) + 1))) 83 = fup (w23_4 83) b (((w23_4 83) b) + 1) := sOf_eq _ _ _
              exact ih4 (((w23_4 83) b) + 1) (setO w23_4 83 (fup (w23_4 83) b (((w23_4 83) b) + 1))) hT_8 hF_8 (by rewrite [e9_83]; exact fup_eq _ _ _) (by first | omega | (simp [up, setR] <;> omega)) (by rewrite [e10_83]; intro j hj; rw [fup_ne _ _ hj]; exact hfr2 j hj) (by rw [hpl]; exact PZQ_s hPZ2 (by omega) hq9 (by omega) (by omega)) (by first | omega | (simp [up, setR] <;> omega))
        have r9 := ty_83 (i := b) (v := (w12_2 83) b) hT12_2 rfl (by omega) (by omega)
        exact L23_4 ((((13 : Int) - ((w12_2 83) b)).toNat) + 1) ((w12_2 83) b) w12_2 hT12_2 hF12_2 (by rfl) (by first | omega | (simp [up, setR] <;> omega)) (by exact hfr) (by exact hPZ) (Nat.lt_succ_self _)
  refine TT_sub [1, 2, 0] rfl ?_
  have e11_83 : (setO h 83 (fup (h 83) b 0)) 83 = fup (h 83) b 0 := sOf_eq _ _ _
  have e12_83 : (setO h 83 (fup (h 83) b 0)) 83 = fup (h 83) b 0 := sOf_eq _ _ _
  exact L12_2 (((64 * b + 64 - (64 * b)).toNat) + 1) (64 * b) (setO h 83 (fup (h 83) b 0)) hT_1 hF_1 (by first | omega | (simp [up, setR] <;> omega)) (by rewrite [e11_83]; intro j hj; exact fup_ne _ _ hj) (by rewrite [e12_83]; rw [fup_eq]; exact PZQ_0 _ _) (Nat.lt_succ_self _)

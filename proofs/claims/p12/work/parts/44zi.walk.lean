def MD2 (m : Int) : Prop := m = 0 ∨ m = 2
section WK
variable {m : Int} {E0 : ES_} {D0 : Int × DS_} {M : Int → Int} {h w W : Hp_} {s S : TS_} {b kd g w0 p q Q y x k : Int} {cnd cnd2 : Prop}
theorem psN_z (hs : TS0 s) (hq : q = (p + 2) % 3) (hp : 0 ≤ p) (hz : q = 0 ∨ p = 0) : ∀ j : Int, 0 ≤ j → j < 100 → (psN M kd w0 g Q p.toNat s).2.1 j = 0 := by
  intro j h1 h2
  by_cases p0 : p = 0
  · subst p0
    exact (hs.1 j h1 h2).2.1
  · obtain ⟨n, e⟩ : ∃ n : Nat, p = (n : Int) + 1 := ⟨(p - 1).toNat, by omega⟩
    subst e
    rw [show ((n : Int) + 1).toNat = n + 1 by omega]
    show (passT M kd w0 g (n : Int) Q (psN M kd w0 g Q n s)).2.1 j = 0
    rw [(passT_2 (by omega)).2.1]
    unfold clrT
    rw [if_pos ⟨h1, h2⟩]
theorem RRP_0 {a84 a85 : Int → Int} (e84 : W 84 = a84) (e85 : W 85 = a85) (e80 : W 80 = h 80) (e81 : W 81 = h 81) (e93 : W 93 = w 93) (e95 : W 95 = w 95) (kw : W 73 26 = b) (hms : MSQ M a84 a85 b (h 80 b) (h 81 b)) (hs : TS0 s) (h93 : ∀ j : Int, 0 ≤ j → j < 100 → w 93 j = 0) (h95 : ∀ j : Int, 0 ≤ j → j < 64 → w 95 j = 0) (hcq : CQ m E0 D0 W []) (hc : ¬ cnd) : RRP cnd m E0 D0 M W (psN M kd w0 g Q (0 : Int).toNat s) := by
  show RRP cnd m E0 D0 M W s
  refine ⟨?_, fun j h1 h2 => ?_, fun z => absurd z hc, fun x y h1 h2 h3 h4 => ?_, ?_⟩
  · rw [e84, e85, e80, e81, kw]; exact hms
  · rw [e93, h93 j h1 h2, (hs.1 j h1 h2).1]
  · rw [e95, h95 _ (by omega) (by omega), (hs.1 _ (by omega) (by omega)).2.2]
  · rw [hs.2]; exact hcq
theorem RRP_94 (hR : RRP cnd m E0 D0 M w s) (hc : ¬ cnd) (e84 : W 84 = w 84) (e85 : W 85 = w 85) (e93 : W 93 = w 93) (e95 : W 95 = w 95) (e80 : W 80 = w 80) (e81 : W 81 = w 81) (e26 : W 73 26 = w 73 26) (hcq : CQ m E0 D0 W s.2.2.2) : RRP cnd m E0 D0 M W s := by
  obtain ⟨h1, h2, h3, h4, h5⟩ := hR
  refine ⟨?_, ?_, fun z => absurd z hc, ?_, hcq⟩
  · rw [e84, e85, e80, e81, e26]; exact h1
  · rw [e93]; exact h2
  · rw [e95]; exact h4
theorem RRP_m (hR : RRP (q ≠ 0 ∧ p ≠ 0) m E0 D0 M w s) (hz : q = 0 ∨ p = 0 → ∀ j : Int, 0 ≤ j → j < 64 → w 94 j = 0) (hs : q = 0 ∨ p = 0 → ∀ j : Int, 0 ≤ j → j < 100 → s.2.1 j = 0) : RRQ m E0 D0 M w s := by
  refine ⟨hR.1, hR.2.1, fun _ => ?_, hR.2.2.2⟩
  by_cases c : q ≠ 0 ∧ p ≠ 0
  · exact hR.2.2.1 c
  · intro x y h1 h2 h3 h4
    rw [hz (by omega) _ (by omega) (by omega), hs (by omega) _ (by omega) (by omega)]
theorem strP_0 {pl : Int} (h : RRQ m E0 D0 M w s) : RRQ m E0 D0 M w (strP M kd pl q w0 g ((0 : Int) / 4).toNat s) := by
  rw [show ((0 : Int) / 4).toNat = 0 by decide]
  exact h
theorem rowP_0 {pl n : Int} (h : RRQ m E0 D0 M w s) : RRQ m E0 D0 M w (rowP M kd pl q n y (0 : Int).toNat s) := by
  rw [show (0 : Int).toNat = 0 by decide]
  exact h
theorem rowP_s {pl n : Int} (hx : 0 ≤ x) (h : RRQ m E0 D0 M w (colP M kd pl q (10 * y + x + 11) n (rowP M kd pl q n y x.toNat s))) : RRQ m E0 D0 M w (rowP M kd pl q n y (x + 1).toNat s) := by
  rw [show (x + 1).toNat = x.toNat + 1 by omega]
  show RRQ m E0 D0 M w (colP M kd pl q (10 * y + ((x.toNat : Nat) : Int) + 11) n (rowP M kd pl q n y x.toNat s))
  rw [show ((x.toNat : Nat) : Int) = x by omega]
  exact h
theorem strP_s {pl : Int} (hy : y = 0 ∨ y = 4) (hx : x = w0) (h : RRQ m E0 D0 M w (rowP M kd pl q (min 4 (g - y)) y x.toNat (strP M kd pl q w0 g (y / 4).toNat s))) : RRQ m E0 D0 M w (strP M kd pl q w0 g ((y + 4) / 4).toNat s) := by
  subst hx
  rw [show ((y + 4) / 4).toNat = (y / 4).toNat + 1 by omega]
  show RRQ m E0 D0 M w (rowP M kd pl q (min 4 (g - (((y / 4).toNat : Nat) : Int) * 4)) ((((y / 4).toNat : Nat) : Int) * 4) x.toNat (strP M kd pl q x g (y / 4).toNat s))
  rw [show (((y / 4).toNat : Nat) : Int) * 4 = y by omega]
  exact h
theorem psN_s (hp : 0 ≤ p) (hq : q = (p + 2) % 3) (hy : y / 4 = (g + 3) / 4) (hR : RRQ m E0 D0 M w (strP M kd (Q - 1 - (p + 2) / 3) q w0 g (y / 4).toNat (psN M kd w0 g Q p.toNat s))) (hc : cnd → q ≠ 2)
    (e84 : W 84 = w 84) (e85 : W 85 = w 85) (e93 : W 93 = w 93) (e94 : W 94 = w 94) (e95 : W 95 = w 95) (e80 : W 80 = w 80) (e81 : W 81 = w 81) (e26 : W 73 26 = w 73 26) (hcq : ∀ T, CQ m E0 D0 w T → CQ m E0 D0 W T) : RRP cnd m E0 D0 M W (psN M kd w0 g Q (p + 1).toNat s) := by
  rw [show (p + 1).toNat = p.toNat + 1 by omega]
  show RRP cnd m E0 D0 M W (passT M kd w0 g ((p.toNat : Nat) : Int) Q (psN M kd w0 g Q p.toNat s))
  rw [show ((p.toNat : Nat) : Int) = p by omega]
  rw [hy, hq] at hR
  generalize psN M kd w0 g Q p.toNat s = S at hR ⊢
  obtain ⟨h1, h2, h3, h4, h5⟩ := hR
  unfold passT
  by_cases c : (p + 2) % 3 = 2
  · rw [if_pos c]
    refine ⟨?_, ?_, fun z => absurd (hq.trans c) (hc z), ?_, hcq _ h5⟩
    · rw [e84, e85, e80, e81, e26]; exact h1
    · rw [e93]; exact h2
    · rw [e95]; exact h4
  · rw [if_neg c]
    refine ⟨?_, ?_, fun z => ?_, ?_, hcq _ h5⟩
    · rw [e84, e85, e80, e81, e26]; exact h1
    · rw [e93]; exact h2
    · rw [e94]; exact h3 trivial
    · rw [e95]; exact h4
end WK
set_option maxRecDepth 20000 in
set_option maxHeartbeats 8000000 in
theorem s_walk_x (m : Int) (E0 : ES_) (D0 : Int × DS_) (M : Int → Int) (s : TS_) (b n : Int) (h : Hp_) (hT : TY h) (hb : 0 ≤ b ∧ b ≤ 19) (hn : -2147483648 ≤ n ∧ n ≤ 2147483647) (htb : TBL (h 74) (h 75)) (ha : 32768 ≤ (h 73 32) ∧ (h 73 32) < 65536) (hw2 : (h 73 29) = 1 → 10 ≤ b) (hm : (h 73 29) = 0 → 0 ≤ n ∧ 1 ≤ (h 73 34) ∧ 1 ≤ (h 73 36) ∧ 7 * (h 73 36) - (h 73 34) + PhS (h 96) + 27 * ((h 80) b * (h 81) b) + 9 * (n * ((h 80) b * (h 81) b)) + 108 ≤ 22300) (hmd : MD2 m) (hs0 : TS0 s) (hms : MSQ M (h 84) (h 85) b ((h 80) b) ((h 81) b)) (hcq : CQ m E0 D0 h []) (hb9 : b ≤ 9) (hnp : n ≤ pas ((h 83) b)) (hq12 : (h 83) b ≤ 12) : Ctr yX12_walk cX12_walk 7 none (rmd 8) ly ly 0 0 [vR 73, vI b, vI n] h (fun r h' => (TY h' ∧ FRM [73, 85, 93, 94, 95, 96, 97, 98] [26, 27, 28, 32, 33, 34, 36, 39] h h') ∧ r = none ∧ (32768 ≤ (h' 73 32) ∧ (h' 73 32) < 65536) ∧ ((h 73 29) = 0 → 1 ≤ (h' 73 34) ∧ 1 ≤ (h' 73 36) ∧ 7 * (h' 73 36) - (h' 73 34) + PhS (h' 96) ≤ 7 * (h 73 36) - (h 73 34) + PhS (h 96) + 27 * ((h 80) b * (h 81) b) + 9 * (n * ((h 80) b * (h 81) b))) ∧ (∀ j : Int, j < 640 → (h' 84) j = (h 84) j ∧ (h' 85) j = (h 85) j) ∧ (CQ m E0 D0 h' (psN M ((h 82) b) ((h 80) b) ((h 81) b) ((h 83) b) n.toNat s).2.2.2)) := by
  refine Ctr_of (by decide) (Nat.le_of_ble_eq_true rfl) ⟨Nat.le_refl _, Nat.le_refl _⟩ (fun K hK hQ _ => ?_)
  show TT K ly 0 0 0 [(0, vR 73), (1, vI b), (2, vI n)] [] h
  have hF : FRM [73, 85, 93, 94, 95, 96, 97, 98] [26, 27, 28, 32, 33, 34, 36, 39] h h := FRM_rf _ _ _
  have rw0 := ty_80 (i := b) (v := h 80 b) hT rfl (by omega) (by omega)
  have re0 := ty_81 (i := b) (v := h 81 b) hT rfl (by omega) (by omega)
  have ra0 : 0 ≤ h 80 b * h 81 b := Int.mul_nonneg rw0.1 re0.1
  have hmq : h 73 29 = m := hcq.1
  have rq0 := ty_83 (i := b) (v := h 83 b) hT rfl (by omega) (by omega)
  refine TT_aload_n hK rfl 0 rfl dX12_walk_0 ?_
  refine TT_iload_n hK rfl 1 rfl dX12_walk_1 ?_
  refine pf_X12_246 hK (by decide) rfl dX12_walk_2 ?_
  refine TT_hp (h' := setO h 73 (fup (h 73) 26 b)) (up_can rfl rfl rfl) ?_
  have hT_1 : TY (setO h 73 (fup (h 73) 26 b)) := tu_73_26 hT (show up h 73 26 b = (setO h 73 (fup (h 73) 26 b)) from up_can rfl rfl rfl) (by omega)
  have hF_1 : FRM [73, 85, 93, 94, 95, 96, 97, 98] [26, 27, 28, 32, 33, 34, 36, 39] h (setO h 73 (fup (h 73) 26 b)) := FRM_f (show up h 73 26 b = (setO h 73 (fup (h 73) 26 b)) from up_can rfl rfl rfl) hF (by decide) (by decide)
  refine TT_iconst hK dX12_walk_5 ?_
  refine TT_istore_n hK rfl (lv' := [(3, vI 0), (0, vR 73), (1, vI b), (2, vI n)]) (by decide) rfl dX12_walk_6 ?_
  have L7_2 : ∀ (k2 : Nat) (i : Int) (w7_2 : Hp_), TY w7_2 → FRM [73, 85, 93, 94, 95, 96, 97, 98] [26, 27, 28, 32, 33, 34, 36, 39] h w7_2 → (0 ≤ i ∧ i ≤ 100) → (∀ j : Int, 0 ≤ j → j < i → (w7_2 93) j = 0) → ((w7_2 73 26) = b) → (PhS (w7_2 96) = PhS (h 96)) → ((w7_2 73 34) = h 73 34) → ((w7_2 73 36) = h 73 36) → ((w7_2 73 32) = h 73 32) → (∀ j : Int, j < 640 → (w7_2 84) j = h 84 j ∧ (w7_2 85) j = h 85 j) → (MSQ M (h 84) (w7_2 85) b (h 80 b) (h 81 b)) → (CQ m E0 D0 w7_2 []) → ((100 : Int) - i).toNat < k2 → TT K ly 0 0 7 [(0, vR 73), (1, vI b), (2, vI n), (3, vI i)] [] w7_2 := by
    intro k2
    induction k2 with
    | zero => intro i w7_2 hT7_2 hF7_2 hi hz1 kw k96 k34 k36 k32 pki hms9 hcq9 hk2; exact absurd hk2 (Nat.not_lt_zero _)
    | succ k2 ih2 =>
      intro i w7_2 hT7_2 hF7_2 hi hz1 kw k96 k34 k36 k32 pki hms9 hcq9 hk2
      refine TT_iload_n hK rfl 3 rfl dX12_walk_7 ?_
      refine TT_bipush hK (by decide) dX12_walk_8 ?_
      refine TT_icmp_ge hK (tgt := 26) (irm (by omega) (by omega)) (by decide) dX12_walk_10 (by decide) (fun hb10_3 => ?_) (fun hb10_3 => ?_)
      · refine TT_iconst hK dX12_walk_26 ?_
        refine TT_istore_n hK rfl (lv' := [(3, vI 0), (0, vR 73), (1, vI b), (2, vI n)]) (by decide) rfl dX12_walk_27 ?_
        have L28_4 : ∀ (k4 : Nat) (i2 : Int) (w28_4 : Hp_), TY w28_4 → FRM [73, 85, 93, 94, 95, 96, 97, 98] [26, 27, 28, 32, 33, 34, 36, 39] h w28_4 → (0 ≤ i2 ∧ i2 ≤ 64) → (∀ j : Int, 0 ≤ j → j < 100 → (w28_4 93) j = 0) → ((w28_4 73 26) = b) → (PhS (w28_4 96) = PhS (h 96)) → ((w28_4 73 34) = h 73 34) → ((w28_4 73 36) = h 73 36) → ((w28_4 73 32) = h 73 32) → (∀ j : Int, j < 640 → (w28_4 84) j = h 84 j ∧ (w28_4 85) j = h 85 j) → (MSQ M (h 84) (w28_4 85) b (h 80 b) (h 81 b)) → (CQ m E0 D0 w28_4 []) → (∀ j : Int, 0 ≤ j → j < i2 → (w28_4 95) j = 0) → ((64 : Int) - i2).toNat < k4 → TT K ly 0 0 28 [(0, vR 73), (1, vI b), (2, vI n), (3, vI i2)] [] w28_4 := by
          intro k4
          induction k4 with
          | zero => intro i2 w28_4 hT28_4 hF28_4 hi2 hz2 kw k96 k34 k36 k32 pki hms9 hcq9 hz5 hk4; exact absurd hk4 (Nat.not_lt_zero _)
          | succ k4 ih4 =>
            intro i2 w28_4 hT28_4 hF28_4 hi2 hz2 kw k96 k34 k36 k32 pki hms9 hcq9 hz5 hk4
            refine TT_iload_n hK rfl 3 rfl dX12_walk_28 ?_
            refine TT_bipush hK (by decide) dX12_walk_29 ?_
            refine TT_icmp_ge hK (tgt := 47) (irm (by omega) (by omega)) (by decide) dX12_walk_31 (by decide) (fun hb31_5 => ?_) (fun hb31_5 => ?_)
            · refine TT_aload_n hK rfl 0 rfl dX12_walk_47 ?_
              refine TT_aload_n hK rfl 0 rfl dX12_walk_48 ?_
              refine gf_X12_44 hK (by decide) rfl (q := 83) rfl rfl dX12_walk_49 ?_
              refine TT_iload_n hK rfl 1 rfl dX12_walk_52 ?_
              refine TT_iald hK (o := 83) (n := 20) (by decide) rfl (by first | omega | (simp [up, setR] <;> omega)) (by first | omega | (simp [up, setR] <;> omega)) (v := (h 83) b) (rd_ (hF28_4.1 83 (by decide)) rfl) dX12_walk_53 ?_
              have r6 := ty_83 (i := b) (v := (h 83) b) hT28_4 (rd_ (hF28_4.1 83 (by decide)) rfl) (by omega) (by omega)
              refine TT_iconst hK dX12_walk_54 ?_
              refine TT_isub hK dX12_walk_55 ?_
              refine pf_X12_252 hK (by decide) rfl dX12_walk_56 ?_
              refine TT_hp (h' := setO w28_4 73 (fup (w28_4 73) 27 (((h 83) b) - 1))) (up_can rfl rfl rfl) ?_
              have hT_7 : TY (setO w28_4 73 (fup (w28_4 73) 27 (((h 83) b) - 1))) := tu_73_27 hT28_4 (show up w28_4 73 27 (((h 83) b) - 1) = (setO w28_4 73 (fup (w28_4 73) 27 (((h 83) b) - 1))) from up_can rfl rfl rfl) (by omega)
              have hF_7 : FRM [73, 85, 93, 94, 95, 96, 97, 98] [26, 27, 28, 32, 33, 34, 36, 39] h (setO w28_4 73 (fup (w28_4 73) 27 (((h 83) b) - 1))) := FRM_f (show up w28_4 73 27 (((h 83) b) - 1) = (setO w28_4 73 (fup (w28_4 73) 27 (((h 83) b) - 1))) from up_can rfl rfl rfl) hF28_4 (by decide) (by decide)
              refine TT_iconst hK dX12_walk_59 ?_
              refine TT_istore_n hK rfl (lv' := [(3, vI 2), (0, vR 73), (1, vI b), (2, vI n)]) (by decide) rfl dX12_walk_60 ?_
              refine TT_iconst hK dX12_walk_61 ?_
              refine TT_istore hK (lv' := [(4, vI 0), (3, vI 2), (0, vR 73), (1, vI b), (2, vI n)]) (by decide) rfl dX12_walk_62 ?_
              have L64_8 : ∀ (k8 : Nat) (q : Int) (p : Int) (w64_8 : Hp_), TY w64_8 → FRM [73, 85, 93, 94, 95, 96, 97, 98] [26, 27, 28, 32, 33, 34, 36, 39] h w64_8 → (0 ≤ q ∧ q ≤ 2) → (0 ≤ p ∧ (p ≤ n ∨ p = 0)) → (32768 ≤ (w64_8 73 32) ∧ (w64_8 73 32) < 65536) → ((w64_8 73 26) = b) → (h 73 29 = 0 → 1 ≤ (w64_8 73 34) ∧ 1 ≤ (w64_8 73 36) ∧ 7 * (w64_8 73 36) - (w64_8 73 34) + PhS (w64_8 96) + 27 * ZC (h 80 b) (h 81 b) (w64_8 93) ≤ 7 * (h 73 36) - (h 73 34) + PhS (h 96) + 27 * (h 80 b * h 81 b) + 9 * (p * (h 80 b * h 81 b))) → (∀ j : Int, j < 640 → (w64_8 84) j = h 84 j ∧ (w64_8 85) j = h 85 j) → (p ≤ n ∨ p = 0) → (q = (p + 2) % 3) → ((w64_8 73 27) = (h 83 b - 1 - (p + 2) / 3)) → (RRP (q ≠ 0 ∧ p ≠ 0) m E0 D0 M w64_8 (psN M (h 82 b) (h 80 b) (h 81 b) (h 83 b) p.toNat s)) → (n - p).toNat < k8 → TT K ly 0 0 64 [(0, vR 73), (1, vI b), (2, vI n), (3, vI q), (4, vI p)] [] w64_8 := by
                intro k8
                induction k8 with
                | zero => intro q p w64_8 hT64_8 hF64_8 hq hp ha1 kw hv pki hp0 hq9 hpl9 hRw hk8; exact absurd hk8 (Nat.not_lt_zero _)
                | succ k8 ih8 =>
                  intro q p w64_8 hT64_8 hF64_8 hq hp ha1 kw hv pki hp0 hq9 hpl9 hRw hk8
                  refine TT_iload hK 4 rfl dX12_walk_64 ?_
                  refine TT_iload_n hK rfl 2 rfl dX12_walk_66 ?_
                  refine TT_icmp_ge hK (tgt := 193) (irm (by omega) (by omega)) (irm (by omega) (by omega)) dX12_walk_67 (by decide) (fun hb67_9 => ?_) (fun hb67_9 => ?_)
                  · refine TT_vret hK hQ ?_ dX12_walk_193
                    have e10_73_32 : w64_8 73 32 = (w64_8 73) 32 := rfl
                    have e11_73_34 : w64_8 73 34 = (w64_8 73) 34 := rfl
                    have e12_73_36 : w64_8 73 36 = (w64_8 73) 36 := rfl
                    have e13_84 : w64_8 84 = h 84 := (hF64_8.1 84 (by decide))
                    exact ⟨⟨hT64_8, hF64_8⟩, rfl, (by rewrite [e10_73_32]; omega), (by rewrite [e11_73_34, e12_73_36]; intro h5; have hv5 := hv h5; rw [show p = n by omega] at hv5; have z9 := ZC_nn (h 80 b) (h 81 b) (w64_8 93); omega), (by rewrite [e13_84]; first | (exact pki) | (intro j hj; exact ⟨rfl, (pki j hj).2⟩) | (intro j hj; exact ⟨rfl, rfl⟩)), (by rw [show n.toNat = p.toNat by omega]; exact hRw.2.2.2.2)⟩
                  · refine TT_iconst hK dX12_walk_70 ?_
                    refine TT_istore hK (lv' := [(5, vI 0), (0, vR 73), (1, vI b), (2, vI n), (3, vI q), (4, vI p)]) (by decide) rfl dX12_walk_71 ?_
                    have L73_14 : ∀ (k14 : Nat) (k : Int) (w73_14 : Hp_), TY w73_14 → FRM [73, 85, 93, 94, 95, 96, 97, 98] [26, 27, 28, 32, 33, 34, 36, 39] h w73_14 → (0 ≤ k ∧ k ≤ 64) → (32768 ≤ (w73_14 73 32) ∧ (w73_14 73 32) < 65536) → ((w73_14 73 26) = b) → (h 73 29 = 0 → 1 ≤ (w73_14 73 34) ∧ 1 ≤ (w73_14 73 36) ∧ 7 * (w73_14 73 36) - (w73_14 73 34) + PhS (w73_14 96) + 27 * ZC (h 80 b) (h 81 b) (w73_14 93) ≤ 7 * (h 73 36) - (h 73 34) + PhS (h 96) + 27 * (h 80 b * h 81 b) + 9 * (p * (h 80 b * h 81 b))) → (∀ j : Int, j < 640 → (w73_14 84) j = h 84 j ∧ (w73_14 85) j = h 85 j) → ((w73_14 73 27) = (h 83 b - 1 - (p + 2) / 3)) → (RRP (q ≠ 0 ∧ p ≠ 0) m E0 D0 M w73_14 (psN M (h 82 b) (h 80 b) (h 81 b) (h 83 b) p.toNat s)) → (q = 0 ∨ p = 0 → ∀ j : Int, 0 ≤ j → j < k → (w73_14 94) j = 0) → ((64 : Int) - k).toNat < k14 → TT K ly 0 0 73 [(0, vR 73), (1, vI b), (2, vI n), (3, vI q), (4, vI p), (5, vI k)] [] w73_14 := by
                      intro k14
                      induction k14 with
                      | zero => intro k w73_14 hT73_14 hF73_14 hk ha1 kw hv pki hpl9 hRw htd hk14; exact absurd hk14 (Nat.not_lt_zero _)
                      | succ k14 ih14 =>
                        intro k w73_14 hT73_14 hF73_14 hk ha1 kw hv pki hpl9 hRw htd hk14
                        have J103_15 : (RRQ m E0 D0 M w73_14 (psN M (h 82 b) (h 80 b) (h 81 b) (h 83 b) p.toNat s)) → TT K ly 0 0 103 [(0, vR 73), (1, vI b), (2, vI n), (3, vI q), (4, vI p)] [] w73_14 := by
                          intro hRq
                          refine TT_iconst hK dX12_walk_103 ?_
                          refine TT_istore hK (lv' := [(5, vI 0), (0, vR 73), (1, vI b), (2, vI n), (3, vI q), (4, vI p)]) (by decide) rfl dX12_walk_104 ?_
                          have L106_16 : ∀ (k16 : Nat) (y : Int) (w106_16 : Hp_), TY w106_16 → FRM [73, 85, 93, 94, 95, 96, 97, 98] [26, 27, 28, 32, 33, 34, 36, 39] h w106_16 → (y = 0 ∨ y = 4 ∨ y = 8) → (32768 ≤ (w106_16 73 32) ∧ (w106_16 73 32) < 65536) → ((w106_16 73 26) = b) → (h 73 29 = 0 → 1 ≤ (w106_16 73 34) ∧ 1 ≤ (w106_16 73 36) ∧ 7 * (w106_16 73 36) - (w106_16 73 34) + PhS (w106_16 96) + 27 * ZC (h 80 b) (h 81 b) (w106_16 93) ≤ 7 * (h 73 36) - (h 73 34) + PhS (h 96) + 27 * (h 80 b * h 81 b) + 9 * (p * (h 80 b * h 81 b)) + 9 * (h 80 b * min y (h 81 b))) → (∀ j : Int, j < 640 → (w106_16 84) j = h 84 j ∧ (w106_16 85) j = h 85 j) → (y ≤ h 81 b + 3) → ((w106_16 73 27) = (h 83 b - 1 - (p + 2) / 3)) → (RRQ m E0 D0 M w106_16 (strP M (h 82 b) (h 83 b - 1 - (p + 2) / 3) q (h 80 b) (h 81 b) (y / 4).toNat (psN M (h 82 b) (h 80 b) (h 81 b) (h 83 b) p.toNat s))) → ((8 : Int) - y).toNat < k16 → TT K ly 0 0 106 [(0, vR 73), (1, vI b), (2, vI n), (3, vI q), (4, vI p), (5, vI y)] [] w106_16 := by
                            intro k16
                            induction k16 with
                            | zero => intro y w106_16 hT106_16 hF106_16 hy ha1 kw hv pki hyg9 hpl9 hRq hk16; exact absurd hk16 (Nat.not_lt_zero _)
                            | succ k16 ih16 =>
                              intro y w106_16 hT106_16 hF106_16 hy ha1 kw hv pki hyg9 hpl9 hRq hk16
                              refine TT_iload hK 5 rfl dX12_walk_106 ?_
                              refine TT_aload_n hK rfl 0 rfl dX12_walk_108 ?_
                              refine gf_X12_38 hK (by decide) rfl (q := 81) rfl rfl dX12_walk_109 ?_
                              refine TT_iload_n hK rfl 1 rfl dX12_walk_112 ?_
                              refine TT_iald hK (o := 81) (n := 20) (by decide) rfl (by first | omega | (simp [up, setR] <;> omega)) (by first | omega | (simp [up, setR] <;> omega)) (v := (h 81) b) (rd_ (hF106_16.1 81 (by decide)) rfl) dX12_walk_113 ?_
                              have r17 := ty_81 (i := b) (v := (h 81) b) hT106_16 (rd_ (hF106_16.1 81 (by decide)) rfl) (by omega) (by omega)
                              refine TT_icmp_ge hK (tgt := 152) (irm (by omega) (by omega)) (irm (by omega) (by omega)) dX12_walk_114 (by decide) (fun hb114_18 => ?_) (fun hb114_18 => ?_)
                              · refine TT_aload_n hK rfl 0 rfl dX12_walk_152 ?_
                                refine TT_iload_n hK rfl 3 rfl dX12_walk_153 ?_
                                refine TT_iconst hK dX12_walk_154 ?_
                                refine TT_icmp_ne hK (tgt := 167) (irm (by omega) (by omega)) (by decide) dX12_walk_155 (by decide) (fun hb155_19 => ?_) (fun hb155_19 => ?_)
                                · refine TT_aload_n hK rfl 0 rfl dX12_walk_167 ?_
                                  refine gf_X12_252 hK (by decide) rfl (v := (w106_16 73) 27) rfl dX12_walk_168 ?_
                                  have r20 := ty_73_27 (v := (w106_16 73) 27) hT106_16 rfl
                                  refine pf_X12_252 hK (by decide) rfl dX12_walk_171 ?_
                                  refine TT_hp (h' := setO w106_16 73 (fup (w106_16 73) 27 ((w106_16 73) 27))) (up_can rfl rfl rfl) ?_
                                  have hT_21 : TY (setO w106_16 73 (fup (w106_16 73) 27 ((w106_16 73) 27))) := tu_73_27 hT106_16 (show up w106_16 73 27 ((w106_16 73) 27) = (setO w106_16 73 (fup (w106_16 73) 27 ((w106_16 73) 27))) from up_can rfl rfl rfl) (by omega)
                                  have hF_21 : FRM [73, 85, 93, 94, 95, 96, 97, 98] [26, 27, 28, 32, 33, 34, 36, 39] h (setO w106_16 73 (fup (w106_16 73) 27 ((w106_16 73) 27))) := FRM_f (show up w106_16 73 27 ((w106_16 73) 27) = (setO w106_16 73 (fup (w106_16 73) 27 ((w106_16 73) 27))) from up_can rfl rfl rfl) hF106_16 (by decide) (by decide)
                                  refine TT_iload_n hK rfl 3 rfl dX12_walk_174 ?_
                                  refine TT_iconst hK dX12_walk_175 ?_
                                  refine TT_icmp_ne hK (tgt := 183) (irm (by omega) (by omega)) (by decide) dX12_walk_176 (by decide) (fun hb176_22 => ?_) (fun hb176_22 => ?_)
                                  · refine TT_iload_n hK rfl 3 rfl dX12_walk_183 ?_
                                    refine TT_iconst hK dX12_walk_184 ?_
                                    refine TT_iadd hK dX12_walk_185 ?_
                                    refine TT_istore_n hK rfl (lv' := [(3, vI (q + 1)), (0, vR 73), (1, vI b), (2, vI n), (4, vI p), (5, vI y)]) (by decide) rfl dX12_walk_186 ?_
                                    refine TT_iinc hK (v := p + 1) (lv' := [(4, vI (p + 1)), (3, vI (q + 1)), (0, vR 73), (1, vI b), (2, vI n), (5, vI y)]) 4 rfl rfl (by decide) rfl dX12_walk_187 ?_
                                    refine TT_goto hK (tgt := 64) dX12_walk_190 (by decide) ?_
                                    refine TT_sub [2, 3, 4, 1, 0] rfl ?_
                                    have e23_73_32 : (setO w106_16 73 (fup (w106_16 73) 27 ((w106_16 73) 27))) 73 32 = (w106_16 73) 32 := rd_ (sOf_eq _ _ _) (fup_ne _ _ (by decide))
                                    have e24_73_26 : (setO w106_16 73 (fup (w106_16 73) 27 ((w106_16 73) 27))) 73 26 = (w106_16 73) 26 := rd_ (sOf_eq _ _ _) (fup_ne _ _ (by decide))
                                    have e25_73_34 : (setO w106_16 73 (fup (w106_16 73) 27 ((w106_16 73) 27))) 73 34 = (w106_16 73) 34 := rd_ (sOf_eq _ _ _) (fup_ne _ _ (by decide))
                                    have e26_73_36 : (setO w106_16 73 (fup (w106_16 73) 27 ((w106_16 73) 27))) 73 36 = (w106_16 73) 36 := rd_ (sOf_eq _ _ _) (fup_ne _ _ (by decide))
                                    have e27_93 : (setO w106_16 73 (fup (w106_16 73) 27 ((w106_16 73) 27))) 93 = w106_16 93 := sOf_ne _ _ (by decide)
                                    have e28_96 : (setO w106_16 73 (fup (w106_16 73) 27 ((w106_16 73) 27))) 96 = w106_16 96 := sOf_ne _ _ (by decide)
                                    have e29_84 : (setO w106_16 73 (fup (w106_16 73) 27 ((w106_16 73) 27))) 84 = h 84 := (sOf_ne _ _ (by decide)).trans (hF106_16.1 84 (by decide))
                                    have e30_85 : (setO w106_16 73 (fup (w106_16 73) 27 ((w106_16 73) 27))) 85 = w106_16 85 := sOf_ne _ _ (by decide)
                                    have e31_73_27 : (setO w106_16 73 (fup (w106_16 73) 27 ((w106_16 73) 27))) 73 27 = (w106_16 73) 27 := rd_ (sOf_eq _ _ _) (fup_eq _ _ _)
                                    have v5 : h 80 b * min y (h 81 b) = h 80 b * h 81 b := by rw [show min y (h 81 b) = h 81 b by omega]
                                    have v6 := Int.add_mul p 1 (h 80 b * h 81 b)
                                    exact ih8 (q + 1) (p + 1) (setO w106_16 73 (fup (w106_16 73) 27 ((w106_16 73) 27))) hT_21 hF_21 (by first | omega | (simp [up, setR] <;> omega)) (by first | omega | (simp [up, setR] <;> omega)) (by rewrite [e23_73_32]; first | omega | (simp [up, setR] <;> omega)) (by rewrite [e24_73_26]; first | omega | (simp [up, setR] <;> omega)) (by rewrite [e25_73_34, e26_73_36, e27_93, e28_96]; first | omega | (simp [up, setR] <;> omega)) (by rewrite [e29_84, e30_85]; first | (exact pki) | (intro j hj; exact ⟨rfl, (pki j hj).2⟩) | (intro j hj; exact ⟨rfl, rfl⟩)) (by first | omega | (simp [up, setR] <;> omega)) (by first | omega | (simp [up, setR] <;> omega)) (by rewrite [e31_73_27]; first | omega | (simp [up, setR] <;> omega)) (by exact psN_s (by omega) hq9 (by omega) hRq (by omega) (sOf_ne _ _ (by decide)) (sOf_ne _ _ (by decide)) (sOf_ne _ _ (by decide)) (sOf_ne _ _ (by decide)) (sOf_ne _ _ (by decide)) (sOf_ne _ _ (by decide)) (sOf_ne _ _ (by decide)) (rd_ (sOf_eq _ _ _) (fup_ne _ _ (by decide))) (fun T hT9 => (CQ_cg hT9 (rd_ (sOf_eq _ _ _) (fup_ne _ _ (by decide))) (rd_ (sOf_eq _ _ _) (fup_ne _ _ (by decide))) (rd_ (sOf_eq _ _ _) (fup_ne _ _ (by decide))) (rd_ (sOf_eq _ _ _) (fup_ne _ _ (by decide))) (rd_ (sOf_eq _ _ _) (fup_ne _ _ (by decide))) (rd_ (sOf_eq _ _ _) (fup_ne _ _ (by decide))) (rd_ (sOf_eq _ _ _) (fup_ne _ _ (by decide))) (rd_ (sOf_eq _ _ _) (fup_ne _ _ (by decide))) (sOf_ne _ _ (by decide)) (sOf_ne _ _ (by decide)) (sOf_ne _ _ (by decide)) (sOf_ne _ _ (by decide))))) (by first | omega | (simp [up, setR] <;> omega))
                                  · exfalso; omega
                                · refine TT_aload_n hK rfl 0 rfl dX12_walk_158 ?_
                                  refine gf_X12_252 hK (by decide) rfl (v := (w106_16 73) 27) rfl dX12_walk_159 ?_
                                  have r32 := ty_73_27 (v := (w106_16 73) 27) hT106_16 rfl
                                  refine TT_iconst hK dX12_walk_162 ?_
                                  refine TT_isub hK dX12_walk_163 ?_
                                  refine TT_goto hK (tgt := 171) dX12_walk_164 (by decide) ?_
                                  refine pf_X12_252 hK (by decide) rfl dX12_walk_171 ?_
                                  refine TT_hp (h' := setO w106_16 73 (fup (w106_16 73) 27 (((w106_16 73) 27) - 1))) (up_can rfl rfl rfl) ?_
                                  have hT_33 : TY (setO w106_16 73 (fup (w106_16 73) 27 (((w106_16 73) 27) - 1))) := tu_73_27 hT106_16 (show up w106_16 73 27 (((w106_16 73) 27) - 1) = (setO w106_16 73 (fup (w106_16 73) 27 (((w106_16 73) 27) - 1))) from up_can rfl rfl rfl) (by omega)
                                  have hF_33 : FRM [73, 85, 93, 94, 95, 96, 97, 98] [26, 27, 28, 32, 33, 34, 36, 39] h (setO w106_16 73 (fup (w106_16 73) 27 (((w106_16 73) 27) - 1))) := FRM_f (show up w106_16 73 27 (((w106_16 73) 27) - 1) = (setO w106_16 73 (fup (w106_16 73) 27 (((w106_16 73) 27) - 1))) from up_can rfl rfl rfl) hF106_16 (by decide) (by decide)
                                  refine TT_iload_n hK rfl 3 rfl dX12_walk_174 ?_
                                  refine TT_iconst hK dX12_walk_175 ?_
                                  refine TT_icmp_ne hK (tgt := 183) (irm (by omega) (by omega)) (by decide) dX12_walk_176 (by decide) (fun hb176_34 => ?_) (fun hb176_34 => ?_)
                                  · exfalso; omega
                                  · refine TT_iconst hK dX12_walk_179 ?_
                                    refine TT_goto hK (tgt := 186) dX12_walk_180 (by decide) ?_
                                    refine TT_istore_n hK rfl (lv' := [(3, vI 0), (0, vR 73), (1, vI b), (2, vI n), (4, vI p), (5, vI y)]) (by decide) rfl dX12_walk_186 ?_
                                    refine TT_iinc hK (v := p + 1) (lv' := [(4, vI (p + 1)), (3, vI 0), (0, vR 73), (1, vI b), (2, vI n), (5, vI y)]) 4 rfl rfl (by decide) rfl dX12_walk_187 ?_
                                    refine TT_goto hK (tgt := 64) dX12_walk_190 (by decide) ?_
                                    refine TT_sub [2, 3, 4, 1, 0] rfl ?_
                                    have e35_73_32 : (setO w106_16 73 (fup (w106_16 73) 27 (((w106_16 73) 27) - 1))) 73 32 = (w106_16 73) 32 := rd_ (sOf_eq _ _ _) (fup_ne _ _ (by decide))
                                    have e36_73_26 : (setO w106_16 73 (fup (w106_16 73) 27 (((w106_16 73) 27) - 1))) 73 26 = (w106_16 73) 26 := rd_ (sOf_eq _ _ _) (fup_ne _ _ (by decide))
                                    have e37_73_34 : (setO w106_16 73 (fup (w106_16 73) 27 (((w106_16 73) 27) - 1))) 73 34 = (w106_16 73) 34 := rd_ (sOf_eq _ _ _) (fup_ne _ _ (by decide))
                                    have e38_73_36 : (setO w106_16 73 (fup (w106_16 73) 27 (((w106_16 73) 27) - 1))) 73 36 = (w106_16 73) 36 := rd_ (sOf_eq _ _ _) (fup_ne _ _ (by decide))
                                    have e39_93 : (setO w106_16 73 (fup (w106_16 73) 27 (((w106_16 73) 27) - 1))) 93 = w106_16 93 := sOf_ne _ _ (by decide)
                                    have e40_96 : (setO w106_16 73 (fup (w106_16 73) 27 (((w106_16 73) 27) - 1))) 96 = w106_16 96 := sOf_ne _ _ (by decide)
                                    have e41_84 : (setO w106_16 73 (fup (w106_16 73) 27 (((w106_16 73) 27) - 1))) 84 = h 84 := (sOf_ne _ _ (by decide)).trans (hF106_16.1 84 (by decide))
                                    have e42_85 : (setO w106_16 73 (fup (w106_16 73) 27 (((w106_16 73) 27) - 1))) 85 = w106_16 85 := sOf_ne _ _ (by decide)
                                    have e43_73_27 : (setO w106_16 73 (fup (w106_16 73) 27 (((w106_16 73) 27) - 1))) 73 27 = ((w106_16 73) 27) - 1 := rd_ (sOf_eq _ _ _) (fup_eq _ _ _)
                                    have v5 : h 80 b * min y (h 81 b) = h 80 b * h 81 b := by rw [show min y (h 81 b) = h 81 b by omega]
                                    have v6 := Int.add_mul p 1 (h 80 b * h 81 b)
                                    exact ih8 0 (p + 1) (setO w106_16 73 (fup (w106_16 73) 27 (((w106_16 73) 27) - 1))) hT_33 hF_33 (by first | omega | (simp [up, setR] <;> omega)) (by first | omega | (simp [up, setR] <;> omega)) (by rewrite [e35_73_32]; first | omega | (simp [up, setR] <;> omega)) (by rewrite [e36_73_26]; first | omega | (simp [up, setR] <;> omega)) (by rewrite [e37_73_34, e38_73_36, e39_93, e40_96]; first | omega | (simp [up, setR] <;> omega)) (by rewrite [e41_84, e42_85]; first | (exact pki) | (intro j hj; exact ⟨rfl, (pki j hj).2⟩) | (intro j hj; exact ⟨rfl, rfl⟩)) (by first | omega | (simp [up, setR] <;> omega)) (by first | omega | (simp [up, setR] <;> omega)) (by rewrite [e43_73_27]; first | omega | (simp [up, setR] <;> omega)) (by exact psN_s (by omega) hq9 (by omega) hRq (by omega) (sOf_ne _ _ (by decide)) (sOf_ne _ _ (by decide)) (sOf_ne _ _ (by decide)) (sOf_ne _ _ (by decide)) (sOf_ne _ _ (by decide)) (sOf_ne _ _ (by decide)) (sOf_ne _ _ (by decide)) (rd_ (sOf_eq _ _ _) (fup_ne _ _ (by decide))) (fun T hT9 => (CQ_cg hT9 (rd_ (sOf_eq _ _ _) (fup_ne _ _ (by decide))) (rd_ (sOf_eq _ _ _) (fup_ne _ _ (by decide))) (rd_ (sOf_eq _ _ _) (fup_ne _ _ (by decide))) (rd_ (sOf_eq _ _ _) (fup_ne _ _ (by decide))) (rd_ (sOf_eq _ _ _) (fup_ne _ _ (by decide))) (rd_ (sOf_eq _ _ _) (fup_ne _ _ (by decide))) (rd_ (sOf_eq _ _ _) (fup_ne _ _ (by decide))) (rd_ (sOf_eq _ _ _) (fup_ne _ _ (by decide))) (sOf_ne _ _ (by decide)) (sOf_ne _ _ (by decide)) (sOf_ne _ _ (by decide)) (sOf_ne _ _ (by decide))))) (by first | omega | (simp [up, setR] <;> omega))
                              · refine TT_iconst hK dX12_walk_117 ?_
                                refine TT_istore hK (lv' := [(6, vI 0), (0, vR 73), (1, vI b), (2, vI n), (3, vI q), (4, vI p), (5, vI y)]) (by decide) rfl dX12_walk_118 ?_
                                have L120_44 : ∀ (k44 : Nat) (x : Int) (w120_44 : Hp_), TY w120_44 → FRM [73, 85, 93, 94, 95, 96, 97, 98] [26, 27, 28, 32, 33, 34, 36, 39] h w120_44 → (0 ≤ x ∧ x ≤ h 80 b) → (32768 ≤ (w120_44 73 32) ∧ (w120_44 73 32) < 65536) → ((w120_44 73 26) = b) → (h 73 29 = 0 → 1 ≤ (w120_44 73 34) ∧ 1 ≤ (w120_44 73 36) ∧ 7 * (w120_44 73 36) - (w120_44 73 34) + PhS (w120_44 96) + 27 * ZC (h 80 b) (h 81 b) (w120_44 93) ≤ 7 * (h 73 36) - (h 73 34) + PhS (h 96) + 27 * (h 80 b * h 81 b) + 9 * (p * (h 80 b * h 81 b)) + 9 * (h 80 b * min y (h 81 b)) + 9 * (x * min 4 (h 81 b - y))) → (∀ j : Int, j < 640 → (w120_44 84) j = h 84 j ∧ (w120_44 85) j = h 85 j) → ((w120_44 73 27) = (h 83 b - 1 - (p + 2) / 3)) → (RRQ m E0 D0 M w120_44 (rowP M (h 82 b) (h 83 b - 1 - (p + 2) / 3) q (min 4 (h 81 b - y)) y x.toNat (strP M (h 82 b) (h 83 b - 1 - (p + 2) / 3) q (h 80 b) (h 81 b) (y / 4).toNat (psN M (h 82 b) (h 80 b) (h 81 b) (h 83 b) p.toNat s)))) → ((8 : Int) - x).toNat < k44 → TT K ly 0 0 120 [(0, vR 73), (1, vI b), (2, vI n), (3, vI q), (4, vI p), (5, vI y), (6, vI x)] [] w120_44 := by
                                  intro k44
                                  induction k44 with
                                  | zero => intro x w120_44 hT120_44 hF120_44 hx ha1 kw hv pki hpl9 hRx hk44; exact absurd hk44 (Nat.not_lt_zero _)
                                  | succ k44 ih44 =>
                                    intro x w120_44 hT120_44 hF120_44 hx ha1 kw hv pki hpl9 hRx hk44
                                    refine TT_iload hK 6 rfl dX12_walk_120 ?_
                                    refine TT_aload_n hK rfl 0 rfl dX12_walk_122 ?_
                                    refine gf_X12_35 hK (by decide) rfl (q := 80) rfl rfl dX12_walk_123 ?_
                                    refine TT_iload_n hK rfl 1 rfl dX12_walk_126 ?_
                                    refine TT_iald hK (o := 80) (n := 20) (by decide) rfl (by first | omega | (simp [up, setR] <;> omega)) (by first | omega | (simp [up, setR] <;> omega)) (v := (h 80) b) (rd_ (hF120_44.1 80 (by decide)) rfl) dX12_walk_127 ?_
                                    have r45 := ty_80 (i := b) (v := (h 80) b) hT120_44 (rd_ (hF120_44.1 80 (by decide)) rfl) (by omega) (by omega)
                                    refine TT_icmp_ge hK (tgt := 146) (irm (by omega) (by omega)) (irm (by omega) (by omega)) dX12_walk_128 (by decide) (fun hb128_46 => ?_) (fun hb128_46 => ?_)
                                    · refine TT_iinc hK (v := y + 4) (lv' := [(5, vI (y + 4)), (0, vR 73), (1, vI b), (2, vI n), (3, vI q), (4, vI p), (6, vI x)]) 5 rfl rfl (by decide) rfl dX12_walk_146 ?_
                                      refine TT_goto hK (tgt := 106) dX12_walk_149 (by decide) ?_
                                      refine TT_sub [1, 2, 3, 4, 5, 0] rfl ?_
                                      have e47_73_32 : w120_44 73 32 = (w120_44 73) 32 := rfl
                                      have e48_73_26 : w120_44 73 26 = (w120_44 73) 26 := rfl
                                      have e49_73_34 : w120_44 73 34 = (w120_44 73) 34 := rfl
                                      have e50_73_36 : w120_44 73 36 = (w120_44 73) 36 := rfl
                                      have e51_84 : w120_44 84 = h 84 := (hF120_44.1 84 (by decide))
                                      have e52_73_27 : w120_44 73 27 = (w120_44 73) 27 := rfl
                                      have v4 : x * min 4 (h 81 b - y) = h 80 b * min 4 (h 81 b - y) := by rw [show x = h 80 b by omega]
                                      have v8 := VS (w := h 80 b) (e := h 81 b) (y := y) (by omega) (by omega)
                                      exact ih16 (y + 4) w120_44 hT120_44 hF120_44 (by first | omega | (simp [up, setR] <;> omega)) (by rewrite [e47_73_32]; first | omega | (simp [up, setR] <;> omega)) (by rewrite [e48_73_26]; first | omega | (simp [up, setR] <;> omega)) (by rewrite [e49_73_34, e50_73_36]; first | omega | (simp [up, setR] <;> omega)) (by rewrite [e51_84]; first | (exact pki) | (intro j hj; exact ⟨rfl, (pki j hj).2⟩) | (intro j hj; exact ⟨rfl, rfl⟩)) (by first | omega | (simp [up, setR] <;> omega)) (by rewrite [e52_73_27]; first | omega | (simp [up, setR] <;> omega)) (by exact strP_s (by omega) (by omega) hRx) (by first | omega | (simp [up, setR] <;> omega))
                                    · refine TT_aload_n hK rfl 0 rfl dX12_walk_131 ?_
                                      refine TT_iload_n hK rfl 3 rfl dX12_walk_132 ?_
                                      refine TT_iload hK 6 rfl dX12_walk_133 ?_
                                      refine TT_iload hK 5 rfl dX12_walk_135 ?_
                                      have e53_73_26 : w120_44 73 26 = (w120_44 73) 26 := rfl
                                      have e54_80 : w120_44 80 = h 80 := (hF120_44.1 80 (by decide))
                                      have e55_73_26 : w120_44 73 26 = (w120_44 73) 26 := rfl
                                      have e56_81 : w120_44 81 = h 81 := (hF120_44.1 81 (by decide))
                                      have e57_73_26 : w120_44 73 26 = (w120_44 73) 26 := rfl
                                      have e58_80 : w120_44 80 = h 80 := (hF120_44.1 80 (by decide))
                                      have e59_73_26 : w120_44 73 26 = (w120_44 73) 26 := rfl
                                      have e60_81 : w120_44 81 = h 81 := (hF120_44.1 81 (by decide))
                                      have e61_74 : w120_44 74 = h 74 := (hF120_44.1 74 (by decide))
                                      have e62_75 : w120_44 75 = h 75 := (hF120_44.1 75 (by decide))
                                      have e63_73_32 : w120_44 73 32 = (w120_44 73) 32 := rfl
                                      have e64_73_26 : w120_44 73 26 = (w120_44 73) 26 := rfl
                                      have e65_73_29 : w120_44 73 29 = (h 73) 29 := (hF120_44.2 29 (by decide))
                                      have e66_73_34 : w120_44 73 34 = (w120_44 73) 34 := rfl
                                      have e67_73_36 : w120_44 73 36 = (w120_44 73) 36 := rfl
                                      have e68_80 : w120_44 80 = h 80 := (hF120_44.1 80 (by decide))
                                      have e69_81 : w120_44 81 = h 81 := (hF120_44.1 81 (by decide))
                                      have e70_73_26 : w120_44 73 26 = (w120_44 73) 26 := rfl
                                      have e71_73_29 : w120_44 73 29 = (h 73) 29 := (hF120_44.2 29 (by decide))
                                      have e72_73_27 : w120_44 73 27 = (w120_44 73) 27 := rfl
                                      refine iv_X12_286 hK (s_column_x m E0 D0 M (rowP M (h 82 b) (h 83 b - 1 - (p + 2) / 3) q (min 4 (h 81 b - y)) y x.toNat (strP M (h 82 b) (h 83 b - 1 - (p + 2) / 3) q (h 80 b) (h 81 b) (y / 4).toNat (psN M (h 82 b) (h 80 b) (h 81 b) (h 83 b) p.toNat s))) q x y w120_44 hT120_44 (by first | omega | (simp [up, setR] <;> omega)) (by first | omega | (simp [up, setR] <;> omega)) (by first | omega | (simp [up, setR] <;> omega)) (by rewrite [e53_73_26, e54_80]; rw [kw]; omega) (by rewrite [e55_73_26, e56_81]; rw [kw]; omega) (by rewrite [e57_73_26, e58_80]; rw [kw]; omega) (by rewrite [e59_73_26, e60_81]; rw [kw]; omega) (by rewrite [e61_74, e62_75]; first | assumption | exact htb) (by rewrite [e63_73_32]; first | omega | (simp [up, setR] <;> omega)) (by rewrite [e64_73_26, e65_73_29, e66_73_34, e67_73_36, e68_80, e69_81]; rw [kw]; have v1 := VB (w := h 80 b) (e := h 81 b) (x := x) (y := y) (by omega) (by omega) (by omega); have v2 := VP (p := p) (n := n) (A := (h 80 b * h 81 b)) (by omega) ra0; omega) (by rewrite [e70_73_26, e71_73_29]; rw [kw]; omega) (by exact hmd) (by exact hRx) (by rewrite [e72_73_27]; have p3 := pas_3 (q := h 83 b) rq0.1.1; omega)) (by decide) rfl ⟨by decide, by decide⟩ (by decide) rfl rfl (Nat.le_of_ble_eq_true rfl) ⟨by decide, by decide⟩ dX12_walk_137 ?_
                                      intro r9 g137_73 hp9
                                      obtain ⟨⟨hT_73, hG_73⟩, hr9, pa_73, pm_73, pk_73, co9_73⟩ := hp9
                                      rw [hr9]
                                      have hF_73 : FRM [73, 85, 93, 94, 95, 96, 97, 98] [26, 27, 28, 32, 33, 34, 36, 39] h g137_73 := FRM_tr hF120_44 hG_73 (by decide) (by decide)
                                      rw [show w120_44 73 26 = (w120_44 73) 26 from rfl] at pm_73
                                      rw [show w120_44 73 29 = (h 73) 29 from (hF120_44.2 29 (by decide))] at pm_73
                                      rw [show w120_44 73 34 = (w120_44 73) 34 from rfl] at pm_73
                                      rw [show w120_44 73 36 = (w120_44 73) 36 from rfl] at pm_73
                                      rw [show w120_44 80 = h 80 from (hF120_44.1 80 (by decide))] at pm_73
                                      rw [show w120_44 81 = h 81 from (hF120_44.1 81 (by decide))] at pm_73
                                      rw [show w120_44 84 = h 84 from (hF120_44.1 84 (by decide))] at pk_73
                                      rw [show w120_44 73 26 = (w120_44 73) 26 from rfl] at co9_73
                                      rw [show w120_44 73 27 = (w120_44 73) 27 from rfl] at co9_73
                                      rw [show w120_44 81 = h 81 from (hF120_44.1 81 (by decide))] at co9_73
                                      rw [show w120_44 82 = h 82 from (hF120_44.1 82 (by decide))] at co9_73
                                      have pm_at137 := pm_73
                                      have pk_at137 := pk_73
                                      have co9_at137 := co9_73
                                      show TT K ly 0 0 140 [(0, vR 73), (1, vI b), (2, vI n), (3, vI q), (4, vI p), (5, vI y), (6, vI x)] [] g137_73
                                      refine TT_iinc hK (v := x + 1) (lv' := [(6, vI (x + 1)), (0, vR 73), (1, vI b), (2, vI n), (3, vI q), (4, vI p), (5, vI y)]) 6 rfl rfl (by decide) rfl dX12_walk_140 ?_
                                      refine TT_goto hK (tgt := 120) dX12_walk_143 (by decide) ?_
                                      refine TT_sub [1, 2, 3, 4, 5, 6, 0] rfl ?_
                                      have e74_73_32 : g137_73 73 32 = (g137_73 73) 32 := rfl
                                      have e75_73_26 : g137_73 73 26 = (w120_44 73) 26 := (hG_73.2 26 (by decide))
                                      have e76_73_34 : g137_73 73 34 = (g137_73 73) 34 := rfl
                                      have e77_73_36 : g137_73 73 36 = (g137_73 73) 36 := rfl
                                      have e78_84 : g137_73 84 = h 84 := ((hG_73.1 84 (by decide))).trans (hF120_44.1 84 (by decide))
                                      have e79_73_27 : g137_73 73 27 = (w120_44 73) 27 := (hG_73.2 27 (by decide))
                                      rw [kw] at pm_at137
                                      have v3 := Int.add_mul x 1 (min 4 (h 81 b - y))
                                      exact ih44 (x + 1) g137_73 hT_73 hF_73 (by first | omega | (simp [up, setR] <;> omega)) (by rewrite [e74_73_32]; first | omega | (simp [up, setR] <;> omega)) (by rewrite [e75_73_26]; first | omega | (simp [up, setR] <;> omega)) (by rewrite [e76_73_34, e77_73_36]; first | omega | (simp [up, setR] <;> omega)) (by rewrite [e78_84]; first | ((intro j hj; have k1 := pk_at137 j hj; have k2 := pki j hj; exact ⟨k1.1.trans k2.1, k1.2.trans k2.2⟩)) | (intro j hj; exact ⟨rfl, (pk_at137 j hj).2.trans (pki j hj).2⟩) | (intro j hj; exact ⟨rfl, (pk_at137 j hj).2⟩) | (intro j hj; exact ⟨rfl, (pki j hj).2⟩) | (intro j hj; exact ⟨rfl, rfl⟩)) (by rewrite [e79_73_27]; first | omega | (simp [up, setR] <;> omega)) (by rw [kw, hpl9] at co9_at137; exact rowP_s (by omega) co9_at137) (by first | omega | (simp [up, setR] <;> omega))
                                refine TT_sub [1, 2, 3, 4, 5, 6, 0] rfl ?_
                                have e80_73_32 : w106_16 73 32 = (w106_16 73) 32 := rfl
                                have e81_73_26 : w106_16 73 26 = (w106_16 73) 26 := rfl
                                have e82_73_34 : w106_16 73 34 = (w106_16 73) 34 := rfl
                                have e83_73_36 : w106_16 73 36 = (w106_16 73) 36 := rfl
                                have e84_84 : w106_16 84 = h 84 := (hF106_16.1 84 (by decide))
                                have e85_73_27 : w106_16 73 27 = (w106_16 73) 27 := rfl
                                exact L120_44 ((((8 : Int) - 0).toNat) + 1) 0 w106_16 hT106_16 hF106_16 (by first | omega | (simp [up, setR] <;> omega)) (by rewrite [e80_73_32]; first | omega | (simp [up, setR] <;> omega)) (by rewrite [e81_73_26]; first | omega | (simp [up, setR] <;> omega)) (by rewrite [e82_73_34, e83_73_36]; first | omega | (simp [up, setR] <;> omega)) (by rewrite [e84_84]; first | (exact pki) | (intro j hj; exact ⟨rfl, (pki j hj).2⟩) | (intro j hj; exact ⟨rfl, rfl⟩)) (by rewrite [e85_73_27]; first | omega | (simp [up, setR] <;> omega)) (by exact rowP_0 hRq) (Nat.lt_succ_self _)
                          refine TT_sub [1, 2, 3, 4, 5, 0] rfl ?_
                          have e86_73_32 : w73_14 73 32 = (w73_14 73) 32 := rfl
                          have e87_73_26 : w73_14 73 26 = (w73_14 73) 26 := rfl
                          have e88_73_34 : w73_14 73 34 = (w73_14 73) 34 := rfl
                          have e89_73_36 : w73_14 73 36 = (w73_14 73) 36 := rfl
                          have e90_84 : w73_14 84 = h 84 := (hF73_14.1 84 (by decide))
                          have e91_73_27 : w73_14 73 27 = (w73_14 73) 27 := rfl
                          have v7 : h 80 b * min 0 (h 81 b) = 0 := by rw [show min 0 (h 81 b) = 0 by omega]; exact Int.mul_zero _
                          exact L106_16 ((((8 : Int) - 0).toNat) + 1) 0 w73_14 hT73_14 hF73_14 (by first | omega | (simp [up, setR] <;> omega)) (by rewrite [e86_73_32]; first | omega | (simp [up, setR] <;> omega)) (by rewrite [e87_73_26]; first | omega | (simp [up, setR] <;> omega)) (by rewrite [e88_73_34, e89_73_36]; first | omega | (simp [up, setR] <;> omega)) (by rewrite [e90_84]; first | (exact pki) | (intro j hj; exact ⟨rfl, (pki j hj).2⟩) | (intro j hj; exact ⟨rfl, rfl⟩)) (by first | omega | (simp [up, setR] <;> omega)) (by rewrite [e91_73_27]; first | omega | (simp [up, setR] <;> omega)) (by exact strP_0 hRq) (Nat.lt_succ_self _)
                        refine TT_iload hK 5 rfl dX12_walk_73 ?_
                        refine TT_bipush hK (by decide) dX12_walk_75 ?_
                        refine TT_icmp_ge hK (tgt := 103) (irm (by omega) (by omega)) (by decide) dX12_walk_77 (by decide) (fun hb77_92 => ?_) (fun hb77_92 => ?_)
                        · refine TT_sub [0, 1, 2, 3, 4] rfl ?_
                          exact J103_15  (by exact RRP_m hRw (fun z j h1 h2 => by first | exact htd z j h1 (by omega) | (exfalso; omega)) (psN_z hs0 hq9 (by omega)))
                        · refine TT_iload_n hK rfl 3 rfl dX12_walk_80 ?_
                          refine TT_if_eq hK (tgt := 89) (irm (by omega) (by omega)) dX12_walk_81 (by decide) (fun hb81_93 => ?_) (fun hb81_93 => ?_)
                          · refine TT_aload_n hK rfl 0 rfl dX12_walk_89 ?_
                            refine gf_X12_78 hK (by decide) rfl (q := 94) rfl rfl dX12_walk_90 ?_
                            refine TT_iload hK 5 rfl dX12_walk_93 ?_
                            refine TT_iconst hK dX12_walk_95 ?_
                            refine TT_zast hK (o := 94) (n := 64) (by decide) rfl (by omega) (by omega) (by first | decide | omega) dX12_walk_96 ?_
                            refine TT_hp (h' := setO w73_14 94 (fup (w73_14 94) k 0)) (up_can rfl rfl rfl) ?_
                            have hT_94 : TY (setO w73_14 94 (fup (w73_14 94) k 0)) := tu_94 hT73_14 (show up w73_14 94 k 0 = (setO w73_14 94 (fup (w73_14 94) k 0)) from up_can rfl rfl rfl) (by omega)
                            have hF_94 : FRM [73, 85, 93, 94, 95, 96, 97, 98] [26, 27, 28, 32, 33, 34, 36, 39] h (setO w73_14 94 (fup (w73_14 94) k 0)) := FRM_up (show up w73_14 94 k 0 = (setO w73_14 94 (fup (w73_14 94) k 0)) from up_can rfl rfl rfl) hF73_14 (by decide) (by decide)
                            refine TT_iinc hK (v := k + 1) (lv' := [(5, vI (k + 1)), (0, vR 73), (1, vI b), (2, vI n), (3, vI q), (4, vI p)]) 5 rfl rfl (by decide) rfl dX12_walk_97 ?_
                            refine TT_goto hK (tgt := 73) dX12_walk_100 (by decide) ?_
                            refine TT_sub [1, 2, 3, 4, 5, 0] rfl ?_
                            have e95_73_32 : (setO w73_14 94 (fup (w73_14 94) k 0)) 73 32 = (w73_14 73) 32 := rd_ (sOf_ne _ _ (by decide)) rfl
                            have e96_73_26 : (setO w73_14 94 (fup (w73_14 94) k 0)) 73 26 = (w73_14 73) 26 := rd_ (sOf_ne _ _ (by decide)) rfl
                            have e97_73_34 : (setO w73_14 94 (fup (w73_14 94) k 0)) 73 34 = (w73_14 73) 34 := rd_ (sOf_ne _ _ (by decide)) rfl
                            have e98_73_36 : (setO w73_14 94 (fup (w73_14 94) k 0)) 73 36 = (w73_14 73) 36 := rd_ (sOf_ne _ _ (by decide)) rfl
                            have e99_93 : (setO w73_14 94 (fup (w73_14 94) k 0)) 93 = w73_14 93 := sOf_ne _ _ (by decide)
                            have e100_96 : (setO w73_14 94 (fup (w73_14 94) k 0)) 96 = w73_14 96 := sOf_ne _ _ (by decide)
                            have e101_84 : (setO w73_14 94 (fup (w73_14 94) k 0)) 84 = h 84 := (sOf_ne _ _ (by decide)).trans (hF73_14.1 84 (by decide))
                            have e102_85 : (setO w73_14 94 (fup (w73_14 94) k 0)) 85 = w73_14 85 := sOf_ne _ _ (by decide)
                            have e103_73_27 : (setO w73_14 94 (fup (w73_14 94) k 0)) 73 27 = (w73_14 73) 27 := rd_ (sOf_ne _ _ (by decide)) rfl
                            have e104_94 : (setO w73_14 94 (fup (w73_14 94) k 0)) 94 = fup (w73_14 94) k 0 := sOf_eq _ _ _
                            exact ih14 (k + 1) (setO w73_14 94 (fup (w73_14 94) k 0)) hT_94 hF_94 (by first | omega | (simp [up, setR] <;> omega)) (by rewrite [e95_73_32]; first | omega | (simp [up, setR] <;> omega)) (by rewrite [e96_73_26]; first | omega | (simp [up, setR] <;> omega)) (by rewrite [e97_73_34, e98_73_36, e99_93, e100_96]; first | omega | (simp [up, setR] <;> omega)) (by rewrite [e101_84, e102_85]; first | (exact pki) | (intro j hj; exact ⟨rfl, (pki j hj).2⟩) | (intro j hj; exact ⟨rfl, rfl⟩)) (by rewrite [e103_73_27]; first | omega | (simp [up, setR] <;> omega)) (by exact RRP_94 hRw (by omega) (sOf_ne _ _ (by decide)) (sOf_ne _ _ (by decide)) (sOf_ne _ _ (by decide)) (sOf_ne _ _ (by decide)) (sOf_ne _ _ (by decide)) (sOf_ne _ _ (by decide)) (rd_ (sOf_ne _ _ (by decide)) rfl) (CQ_cg hRw.2.2.2.2 (rd_ (sOf_ne _ _ (by decide)) rfl) (rd_ (sOf_ne _ _ (by decide)) rfl) (rd_ (sOf_ne _ _ (by decide)) rfl) (rd_ (sOf_ne _ _ (by decide)) rfl) (rd_ (sOf_ne _ _ (by decide)) rfl) (rd_ (sOf_ne _ _ (by decide)) rfl) (rd_ (sOf_ne _ _ (by decide)) rfl) (rd_ (sOf_ne _ _ (by decide)) rfl) (sOf_ne _ _ (by decide)) (sOf_ne _ _ (by decide)) (sOf_ne _ _ (by decide)) (sOf_ne _ _ (by decide)))) (by rewrite [e104_94]; intro z j h1 h2; by_cases e : j = k; (rw [e, fup_eq]); (rw [fup_ne _ _ e]; exact htd z j h1 (by omega))) (by first | omega | (simp [up, setR] <;> omega))
                          · refine TT_iload hK 4 rfl dX12_walk_84 ?_
                            refine TT_if_ne hK (tgt := 103) (irm (by omega) (by omega)) dX12_walk_86 (by decide) (fun hb86_105 => ?_) (fun hb86_105 => ?_)
                            · refine TT_sub [0, 1, 2, 3, 4] rfl ?_
                              exact J103_15  (by exact RRP_m hRw (fun z j h1 h2 => by first | exact htd z j h1 (by omega) | (exfalso; omega)) (psN_z hs0 hq9 (by omega)))
                            · refine TT_aload_n hK rfl 0 rfl dX12_walk_89 ?_
                              refine gf_X12_78 hK (by decide) rfl (q := 94) rfl rfl dX12_walk_90 ?_
                              refine TT_iload hK 5 rfl dX12_walk_93 ?_
                              refine TT_iconst hK dX12_walk_95 ?_
                              refine TT_zast hK (o := 94) (n := 64) (by decide) rfl (by omega) (by omega) (by first | decide | omega) dX12_walk_96 ?_
                              refine TT_hp (h' := setO w73_14 94 (fup (w73_14 94) k 0)) (up_can rfl rfl rfl) ?_
                              have hT_106 : TY (setO w73_14 94 (fup (w73_14 94) k 0)) := tu_94 hT73_14 (show up w73_14 94 k 0 = (setO w73_14 94 (fup (w73_14 94) k 0)) from up_can rfl rfl rfl) (by omega)
                              have hF_106 : FRM [73, 85, 93, 94, 95, 96, 97, 98] [26, 27, 28, 32, 33, 34, 36, 39] h (setO w73_14 94 (fup (w73_14 94) k 0)) := FRM_up (show up w73_14 94 k 0 = (setO w73_14 94 (fup (w73_14 94) k 0)) from up_can rfl rfl rfl) hF73_14 (by decide) (by decide)
                              refine TT_iinc hK (v := k + 1) (lv' := [(5, vI (k + 1)), (0, vR 73), (1, vI b), (2, vI n), (3, vI q), (4, vI p)]) 5 rfl rfl (by decide) rfl dX12_walk_97 ?_
                              refine TT_goto hK (tgt := 73) dX12_walk_100 (by decide) ?_
                              refine TT_sub [1, 2, 3, 4, 5, 0] rfl ?_
                              have e107_73_32 : (setO w73_14 94 (fup (w73_14 94) k 0)) 73 32 = (w73_14 73) 32 := rd_ (sOf_ne _ _ (by decide)) rfl
                              have e108_73_26 : (setO w73_14 94 (fup (w73_14 94) k 0)) 73 26 = (w73_14 73) 26 := rd_ (sOf_ne _ _ (by decide)) rfl
                              have e109_73_34 : (setO w73_14 94 (fup (w73_14 94) k 0)) 73 34 = (w73_14 73) 34 := rd_ (sOf_ne _ _ (by decide)) rfl
                              have e110_73_36 : (setO w73_14 94 (fup (w73_14 94) k 0)) 73 36 = (w73_14 73) 36 := rd_ (sOf_ne _ _ (by decide)) rfl
                              have e111_93 : (setO w73_14 94 (fup (w73_14 94) k 0)) 93 = w73_14 93 := sOf_ne _ _ (by decide)
                              have e112_96 : (setO w73_14 94 (fup (w73_14 94) k 0)) 96 = w73_14 96 := sOf_ne _ _ (by decide)
                              have e113_84 : (setO w73_14 94 (fup (w73_14 94) k 0)) 84 = h 84 := (sOf_ne _ _ (by decide)).trans (hF73_14.1 84 (by decide))
                              have e114_85 : (setO w73_14 94 (fup (w73_14 94) k 0)) 85 = w73_14 85 := sOf_ne _ _ (by decide)
                              have e115_73_27 : (setO w73_14 94 (fup (w73_14 94) k 0)) 73 27 = (w73_14 73) 27 := rd_ (sOf_ne _ _ (by decide)) rfl
                              have e116_94 : (setO w73_14 94 (fup (w73_14 94) k 0)) 94 = fup (w73_14 94) k 0 := sOf_eq _ _ _
                              exact ih14 (k + 1) (setO w73_14 94 (fup (w73_14 94) k 0)) hT_106 hF_106 (by first | omega | (simp [up, setR] <;> omega)) (by rewrite [e107_73_32]; first | omega | (simp [up, setR] <;> omega)) (by rewrite [e108_73_26]; first | omega | (simp [up, setR] <;> omega)) (by rewrite [e109_73_34, e110_73_36, e111_93, e112_96]; first | omega | (simp [up, setR] <;> omega)) (by rewrite [e113_84, e114_85]; first | (exact pki) | (intro j hj; exact ⟨rfl, (pki j hj).2⟩) | (intro j hj; exact ⟨rfl, rfl⟩)) (by rewrite [e115_73_27]; first | omega | (simp [up, setR] <;> omega)) (by exact RRP_94 hRw (by omega) (sOf_ne _ _ (by decide)) (sOf_ne _ _ (by decide)) (sOf_ne _ _ (by decide)) (sOf_ne _ _ (by decide)) (sOf_ne _ _ (by decide)) (sOf_ne _ _ (by decide)) (rd_ (sOf_ne _ _ (by decide)) rfl) (CQ_cg hRw.2.2.2.2 (rd_ (sOf_ne _ _ (by decide)) rfl) (rd_ (sOf_ne _ _ (by decide)) rfl) (rd_ (sOf_ne _ _ (by decide)) rfl) (rd_ (sOf_ne _ _ (by decide)) rfl) (rd_ (sOf_ne _ _ (by decide)) rfl) (rd_ (sOf_ne _ _ (by decide)) rfl) (rd_ (sOf_ne _ _ (by decide)) rfl) (rd_ (sOf_ne _ _ (by decide)) rfl) (sOf_ne _ _ (by decide)) (sOf_ne _ _ (by decide)) (sOf_ne _ _ (by decide)) (sOf_ne _ _ (by decide)))) (by rewrite [e116_94]; intro z j h1 h2; by_cases e : j = k; (rw [e, fup_eq]); (rw [fup_ne _ _ e]; exact htd z j h1 (by omega))) (by first | omega | (simp [up, setR] <;> omega))
                    refine TT_sub [1, 2, 3, 4, 5, 0] rfl ?_
                    have e117_73_32 : w64_8 73 32 = (w64_8 73) 32 := rfl
                    have e118_73_26 : w64_8 73 26 = (w64_8 73) 26 := rfl
                    have e119_73_34 : w64_8 73 34 = (w64_8 73) 34 := rfl
                    have e120_73_36 : w64_8 73 36 = (w64_8 73) 36 := rfl
                    have e121_84 : w64_8 84 = h 84 := (hF64_8.1 84 (by decide))
                    have e122_73_27 : w64_8 73 27 = (w64_8 73) 27 := rfl
                    exact L73_14 ((((64 : Int) - 0).toNat) + 1) 0 w64_8 hT64_8 hF64_8 (by first | omega | (simp [up, setR] <;> omega)) (by rewrite [e117_73_32]; first | omega | (simp [up, setR] <;> omega)) (by rewrite [e118_73_26]; first | omega | (simp [up, setR] <;> omega)) (by rewrite [e119_73_34, e120_73_36]; first | omega | (simp [up, setR] <;> omega)) (by rewrite [e121_84]; first | (exact pki) | (intro j hj; exact ⟨rfl, (pki j hj).2⟩) | (intro j hj; exact ⟨rfl, rfl⟩)) (by rewrite [e122_73_27]; first | omega | (simp [up, setR] <;> omega)) (by exact hRw) (by intro z j h1 h2; exfalso; omega) (Nat.lt_succ_self _)
              refine TT_sub [2, 3, 4, 1, 0] rfl ?_
              have e123_73_32 : (setO w28_4 73 (fup (w28_4 73) 27 (((h 83) b) - 1))) 73 32 = (w28_4 73) 32 := rd_ (sOf_eq _ _ _) (fup_ne _ _ (by decide))
              have e124_73_26 : (setO w28_4 73 (fup (w28_4 73) 27 (((h 83) b) - 1))) 73 26 = (w28_4 73) 26 := rd_ (sOf_eq _ _ _) (fup_ne _ _ (by decide))
              have e125_73_34 : (setO w28_4 73 (fup (w28_4 73) 27 (((h 83) b) - 1))) 73 34 = (w28_4 73) 34 := rd_ (sOf_eq _ _ _) (fup_ne _ _ (by decide))
              have e126_73_36 : (setO w28_4 73 (fup (w28_4 73) 27 (((h 83) b) - 1))) 73 36 = (w28_4 73) 36 := rd_ (sOf_eq _ _ _) (fup_ne _ _ (by decide))
              have e127_93 : (setO w28_4 73 (fup (w28_4 73) 27 (((h 83) b) - 1))) 93 = w28_4 93 := sOf_ne _ _ (by decide)
              have e128_96 : (setO w28_4 73 (fup (w28_4 73) 27 (((h 83) b) - 1))) 96 = w28_4 96 := sOf_ne _ _ (by decide)
              have e129_84 : (setO w28_4 73 (fup (w28_4 73) 27 (((h 83) b) - 1))) 84 = h 84 := (sOf_ne _ _ (by decide)).trans (hF28_4.1 84 (by decide))
              have e130_85 : (setO w28_4 73 (fup (w28_4 73) 27 (((h 83) b) - 1))) 85 = w28_4 85 := sOf_ne _ _ (by decide)
              have e131_73_27 : (setO w28_4 73 (fup (w28_4 73) 27 (((h 83) b) - 1))) 73 27 = ((h 83) b) - 1 := rd_ (sOf_eq _ _ _) (fup_eq _ _ _)
              have z0 := ZC_0 (w := h 80 b) (e := h 81 b) (aw := w28_4 93) rw0 re0 (by assumption)
              exact L64_8 (((n - 0).toNat) + 1) 2 0 (setO w28_4 73 (fup (w28_4 73) 27 (((h 83) b) - 1))) hT_7 hF_7 (by first | omega | (simp [up, setR] <;> omega)) (by first | omega | (simp [up, setR] <;> omega)) (by rewrite [e123_73_32]; first | omega | (simp [up, setR] <;> omega)) (by rewrite [e124_73_26]; first | omega | (simp [up, setR] <;> omega)) (by rewrite [e125_73_34, e126_73_36, e127_93, e128_96]; first | omega | (simp [up, setR] <;> omega)) (by rewrite [e129_84, e130_85]; first | (exact pki) | (intro j hj; exact ⟨rfl, (pki j hj).2⟩) | (intro j hj; exact ⟨rfl, rfl⟩)) (by first | omega | (simp [up, setR] <;> omega)) (by first | omega | (simp [up, setR] <;> omega)) (by rewrite [e131_73_27]; first | omega | (simp [up, setR] <;> omega)) (by exact RRP_0 ((sOf_ne _ _ (by decide)).trans (hF28_4.1 84 (by decide))) (sOf_ne _ _ (by decide)) ((sOf_ne _ _ (by decide)).trans (hF28_4.1 80 (by decide))) ((sOf_ne _ _ (by decide)).trans (hF28_4.1 81 (by decide))) (sOf_ne _ _ (by decide)) (sOf_ne _ _ (by decide)) (by first | rfl | omega) hms9 hs0 hz2 (fun j h1 h2 => hz5 j h1 (by omega)) (CQ_cg hcq9 (rd_ (sOf_eq _ _ _) (fup_ne _ _ (by decide))) (rd_ (sOf_eq _ _ _) (fup_ne _ _ (by decide))) (rd_ (sOf_eq _ _ _) (fup_ne _ _ (by decide))) (rd_ (sOf_eq _ _ _) (fup_ne _ _ (by decide))) (rd_ (sOf_eq _ _ _) (fup_ne _ _ (by decide))) (rd_ (sOf_eq _ _ _) (fup_ne _ _ (by decide))) (rd_ (sOf_eq _ _ _) (fup_ne _ _ (by decide))) (rd_ (sOf_eq _ _ _) (fup_ne _ _ (by decide))) (sOf_ne _ _ (by decide)) (sOf_ne _ _ (by decide)) (sOf_ne _ _ (by decide)) (sOf_ne _ _ (by decide))) (by omega)) (Nat.lt_succ_self _)
            · refine TT_aload_n hK rfl 0 rfl dX12_walk_34 ?_
              refine gf_X12_81 hK (by decide) rfl (q := 95) rfl rfl dX12_walk_35 ?_
              refine TT_iload_n hK rfl 3 rfl dX12_walk_38 ?_
              refine TT_iconst hK dX12_walk_39 ?_
              refine TT_zast hK (o := 95) (n := 64) (by decide) rfl (by omega) (by omega) (by first | decide | omega) dX12_walk_40 ?_
              refine TT_hp (h' := setO w28_4 95 (fup (w28_4 95) i2 0)) (up_can rfl rfl rfl) ?_
              have hT_132 : TY (setO w28_4 95 (fup (w28_4 95) i2 0)) := tu_95 hT28_4 (show up w28_4 95 i2 0 = (setO w28_4 95 (fup (w28_4 95) i2 0)) from up_can rfl rfl rfl) (by omega)
              have hF_132 : FRM [73, 85, 93, 94, 95, 96, 97, 98] [26, 27, 28, 32, 33, 34, 36, 39] h (setO w28_4 95 (fup (w28_4 95) i2 0)) := FRM_up (show up w28_4 95 i2 0 = (setO w28_4 95 (fup (w28_4 95) i2 0)) from up_can rfl rfl rfl) hF28_4 (by decide) (by decide)
              refine TT_iinc hK (v := i2 + 1) (lv' := [(3, vI (i2 + 1)), (0, vR 73), (1, vI b), (2, vI n)]) 3 rfl rfl (by decide) rfl dX12_walk_41 ?_
              refine TT_goto hK (tgt := 28) dX12_walk_44 (by decide) ?_
              refine TT_sub [1, 2, 3, 0] rfl ?_
              have e133_93 : (setO w28_4 95 (fup (w28_4 95) i2 0)) 93 = w28_4 93 := sOf_ne _ _ (by decide)
              have e134_73_26 : (setO w28_4 95 (fup (w28_4 95) i2 0)) 73 26 = (w28_4 73) 26 := rd_ (sOf_ne _ _ (by decide)) rfl
              have e135_96 : (setO w28_4 95 (fup (w28_4 95) i2 0)) 96 = w28_4 96 := sOf_ne _ _ (by decide)
              have e136_73_34 : (setO w28_4 95 (fup (w28_4 95) i2 0)) 73 34 = (w28_4 73) 34 := rd_ (sOf_ne _ _ (by decide)) rfl
              have e137_73_36 : (setO w28_4 95 (fup (w28_4 95) i2 0)) 73 36 = (w28_4 73) 36 := rd_ (sOf_ne _ _ (by decide)) rfl
              have e138_73_32 : (setO w28_4 95 (fup (w28_4 95) i2 0)) 73 32 = (w28_4 73) 32 := rd_ (sOf_ne _ _ (by decide)) rfl
              have e139_84 : (setO w28_4 95 (fup (w28_4 95) i2 0)) 84 = h 84 := (sOf_ne _ _ (by decide)).trans (hF28_4.1 84 (by decide))
              have e140_85 : (setO w28_4 95 (fup (w28_4 95) i2 0)) 85 = w28_4 85 := sOf_ne _ _ (by decide)
              have e141_85 : (setO w28_4 95 (fup (w28_4 95) i2 0)) 85 = w28_4 85 := sOf_ne _ _ (by decide)
              have e142_95 : (setO w28_4 95 (fup (w28_4 95) i2 0)) 95 = fup (w28_4 95) i2 0 := sOf_eq _ _ _
              exact ih4 (i2 + 1) (setO w28_4 95 (fup (w28_4 95) i2 0)) hT_132 hF_132 (by first | omega | (simp [up, setR] <;> omega)) (by rewrite [e133_93]; intro j h1 h2; exact hz2 j h1 h2) (by rewrite [e134_73_26]; first | omega | (simp [up, setR] <;> omega)) (by rewrite [e135_96]; first | omega | (simp [up, setR] <;> omega)) (by rewrite [e136_73_34]; first | omega | (simp [up, setR] <;> omega)) (by rewrite [e137_73_36]; first | omega | (simp [up, setR] <;> omega)) (by rewrite [e138_73_32]; first | omega | (simp [up, setR] <;> omega)) (by rewrite [e139_84, e140_85]; first | (exact pki) | (intro j hj; exact ⟨rfl, (pki j hj).2⟩) | (intro j hj; exact ⟨rfl, rfl⟩)) (by rewrite [e141_85]; first | exact hms9 | exact hms) (by exact (CQ_cg hcq9 (rd_ (sOf_ne _ _ (by decide)) rfl) (rd_ (sOf_ne _ _ (by decide)) rfl) (rd_ (sOf_ne _ _ (by decide)) rfl) (rd_ (sOf_ne _ _ (by decide)) rfl) (rd_ (sOf_ne _ _ (by decide)) rfl) (rd_ (sOf_ne _ _ (by decide)) rfl) (rd_ (sOf_ne _ _ (by decide)) rfl) (rd_ (sOf_ne _ _ (by decide)) rfl) (sOf_ne _ _ (by decide)) (sOf_ne _ _ (by decide)) (sOf_ne _ _ (by decide)) (sOf_ne _ _ (by decide)))) (by rewrite [e142_95]; intro j h1 h2; by_cases e : j = i2; (rw [e, fup_eq]); (rw [fup_ne _ _ e]; exact hz5 j h1 (by omega))) (by first | omega | (simp [up, setR] <;> omega))
        refine TT_sub [1, 2, 3, 0] rfl ?_
        have e143_73_26 : w7_2 73 26 = (w7_2 73) 26 := rfl
        have e144_73_34 : w7_2 73 34 = (w7_2 73) 34 := rfl
        have e145_73_36 : w7_2 73 36 = (w7_2 73) 36 := rfl
        have e146_73_32 : w7_2 73 32 = (w7_2 73) 32 := rfl
        have e147_84 : w7_2 84 = h 84 := (hF7_2.1 84 (by decide))
        exact L28_4 ((((64 : Int) - 0).toNat) + 1) 0 w7_2 hT7_2 hF7_2 (by first | omega | (simp [up, setR] <;> omega)) (by intro j h1 h2; exact hz1 j h1 (by omega)) (by rewrite [e143_73_26]; first | omega | (simp [up, setR] <;> omega)) (by first | omega | (simp [up, setR] <;> omega)) (by rewrite [e144_73_34]; first | omega | (simp [up, setR] <;> omega)) (by rewrite [e145_73_36]; first | omega | (simp [up, setR] <;> omega)) (by rewrite [e146_73_32]; first | omega | (simp [up, setR] <;> omega)) (by rewrite [e147_84]; first | (exact pki) | (intro j hj; exact ⟨rfl, (pki j hj).2⟩) | (intro j hj; exact ⟨rfl, rfl⟩)) (by first | exact hms | exact hms9) (by exact hcq9) (by intro j h1 h2; exfalso; omega) (Nat.lt_succ_self _)
      · refine TT_aload_n hK rfl 0 rfl dX12_walk_13 ?_
        refine gf_X12_75 hK (by decide) rfl (q := 93) rfl rfl dX12_walk_14 ?_
        refine TT_iload_n hK rfl 3 rfl dX12_walk_17 ?_
        refine TT_iconst hK dX12_walk_18 ?_
        refine TT_iast hK (o := 93) (n := 100) (by decide) rfl (by omega) (by omega) dX12_walk_19 ?_
        refine TT_hp (h' := setO w7_2 93 (fup (w7_2 93) i 0)) (up_can rfl rfl rfl) ?_
        have hT_148 : TY (setO w7_2 93 (fup (w7_2 93) i 0)) := tu_93 hT7_2 (show up w7_2 93 i 0 = (setO w7_2 93 (fup (w7_2 93) i 0)) from up_can rfl rfl rfl) (by omega)
        have hF_148 : FRM [73, 85, 93, 94, 95, 96, 97, 98] [26, 27, 28, 32, 33, 34, 36, 39] h (setO w7_2 93 (fup (w7_2 93) i 0)) := FRM_up (show up w7_2 93 i 0 = (setO w7_2 93 (fup (w7_2 93) i 0)) from up_can rfl rfl rfl) hF7_2 (by decide) (by decide)
        refine TT_iinc hK (v := i + 1) (lv' := [(3, vI (i + 1)), (0, vR 73), (1, vI b), (2, vI n)]) 3 rfl rfl (by decide) rfl dX12_walk_20 ?_
        refine TT_goto hK (tgt := 7) dX12_walk_23 (by decide) ?_
        refine TT_sub [1, 2, 3, 0] rfl ?_
        have e149_93 : (setO w7_2 93 (fup (w7_2 93) i 0)) 93 = fup (w7_2 93) i 0 := sOf_eq _ _ _
        have e150_73_26 : (setO w7_2 93 (fup (w7_2 93) i 0)) 73 26 = (w7_2 73) 26 := rd_ (sOf_ne _ _ (by decide)) rfl
        have e151_96 : (setO w7_2 93 (fup (w7_2 93) i 0)) 96 = w7_2 96 := sOf_ne _ _ (by decide)
        have e152_73_34 : (setO w7_2 93 (fup (w7_2 93) i 0)) 73 34 = (w7_2 73) 34 := rd_ (sOf_ne _ _ (by decide)) rfl
        have e153_73_36 : (setO w7_2 93 (fup (w7_2 93) i 0)) 73 36 = (w7_2 73) 36 := rd_ (sOf_ne _ _ (by decide)) rfl
        have e154_73_32 : (setO w7_2 93 (fup (w7_2 93) i 0)) 73 32 = (w7_2 73) 32 := rd_ (sOf_ne _ _ (by decide)) rfl
        have e155_84 : (setO w7_2 93 (fup (w7_2 93) i 0)) 84 = h 84 := (sOf_ne _ _ (by decide)).trans (hF7_2.1 84 (by decide))
        have e156_85 : (setO w7_2 93 (fup (w7_2 93) i 0)) 85 = w7_2 85 := sOf_ne _ _ (by decide)
        have e157_85 : (setO w7_2 93 (fup (w7_2 93) i 0)) 85 = w7_2 85 := sOf_ne _ _ (by decide)
        exact ih2 (i + 1) (setO w7_2 93 (fup (w7_2 93) i 0)) hT_148 hF_148 (by first | omega | (simp [up, setR] <;> omega)) (by rewrite [e149_93]; intro j h1 h2; by_cases e : j = i; (subst e; exact fup_eq _ _ _); (rw [fup_ne _ _ e]; exact hz1 j h1 (by omega))) (by rewrite [e150_73_26]; first | omega | (simp [up, setR] <;> omega)) (by rewrite [e151_96]; first | omega | (simp [up, setR] <;> omega)) (by rewrite [e152_73_34]; first | omega | (simp [up, setR] <;> omega)) (by rewrite [e153_73_36]; first | omega | (simp [up, setR] <;> omega)) (by rewrite [e154_73_32]; first | omega | (simp [up, setR] <;> omega)) (by rewrite [e155_84, e156_85]; first | (exact pki) | (intro j hj; exact ⟨rfl, (pki j hj).2⟩) | (intro j hj; exact ⟨rfl, rfl⟩)) (by rewrite [e157_85]; first | exact hms9 | exact hms) (by exact (CQ_cg hcq9 (rd_ (sOf_ne _ _ (by decide)) rfl) (rd_ (sOf_ne _ _ (by decide)) rfl) (rd_ (sOf_ne _ _ (by decide)) rfl) (rd_ (sOf_ne _ _ (by decide)) rfl) (rd_ (sOf_ne _ _ (by decide)) rfl) (rd_ (sOf_ne _ _ (by decide)) rfl) (rd_ (sOf_ne _ _ (by decide)) rfl) (rd_ (sOf_ne _ _ (by decide)) rfl) (sOf_ne _ _ (by decide)) (sOf_ne _ _ (by decide)) (sOf_ne _ _ (by decide)) (sOf_ne _ _ (by decide)))) (by first | omega | (simp [up, setR] <;> omega))
  refine TT_sub [1, 2, 3, 0] rfl ?_
  have e158_93 : (setO h 73 (fup (h 73) 26 b)) 93 = h 93 := sOf_ne _ _ (by decide)
  have e159_73_26 : (setO h 73 (fup (h 73) 26 b)) 73 26 = b := rd_ (sOf_eq _ _ _) (fup_eq _ _ _)
  have e160_96 : (setO h 73 (fup (h 73) 26 b)) 96 = h 96 := sOf_ne _ _ (by decide)
  have e161_73_34 : (setO h 73 (fup (h 73) 26 b)) 73 34 = (h 73) 34 := rd_ (sOf_eq _ _ _) (fup_ne _ _ (by decide))
  have e162_73_36 : (setO h 73 (fup (h 73) 26 b)) 73 36 = (h 73) 36 := rd_ (sOf_eq _ _ _) (fup_ne _ _ (by decide))
  have e163_73_32 : (setO h 73 (fup (h 73) 26 b)) 73 32 = (h 73) 32 := rd_ (sOf_eq _ _ _) (fup_ne _ _ (by decide))
  have e164_84 : (setO h 73 (fup (h 73) 26 b)) 84 = h 84 := sOf_ne _ _ (by decide)
  have e165_85 : (setO h 73 (fup (h 73) 26 b)) 85 = h 85 := sOf_ne _ _ (by decide)
  have e166_85 : (setO h 73 (fup (h 73) 26 b)) 85 = h 85 := sOf_ne _ _ (by decide)
  exact L7_2 ((((100 : Int) - 0).toNat) + 1) 0 (setO h 73 (fup (h 73) 26 b)) hT_1 hF_1 (by first | omega | (simp [up, setR] <;> omega)) (by rewrite [e158_93]; intro j h1 h2; omega) (by rewrite [e159_73_26]; first | omega | (simp [up, setR] <;> omega)) (by rewrite [e160_96]; first | omega | (simp [up, setR] <;> omega)) (by rewrite [e161_73_34]; first | omega | (simp [up, setR] <;> omega)) (by rewrite [e162_73_36]; first | omega | (simp [up, setR] <;> omega)) (by rewrite [e163_73_32]; first | omega | (simp [up, setR] <;> omega)) (by rewrite [e164_84, e165_85]; first | ((intro j hj; exact ⟨rfl, rfl⟩)) | (intro j hj; exact ⟨rfl, rfl⟩)) (by rewrite [e166_85]; first | exact hms) (by exact (CQ_cg hcq (rd_ (sOf_eq _ _ _) (fup_ne _ _ (by decide))) (rd_ (sOf_eq _ _ _) (fup_ne _ _ (by decide))) (rd_ (sOf_eq _ _ _) (fup_ne _ _ (by decide))) (rd_ (sOf_eq _ _ _) (fup_ne _ _ (by decide))) (rd_ (sOf_eq _ _ _) (fup_ne _ _ (by decide))) (rd_ (sOf_eq _ _ _) (fup_ne _ _ (by decide))) (rd_ (sOf_eq _ _ _) (fup_ne _ _ (by decide))) (rd_ (sOf_eq _ _ _) (fup_ne _ _ (by decide))) (sOf_ne _ _ (by decide)) (sOf_ne _ _ (by decide)) (sOf_ne _ _ (by decide)) (sOf_ne _ _ (by decide)))) (Nat.lt_succ_self _)

def tlN (c b : Int → Int) : Nat → ES_ → ES_
  | 0, E => E
  | k + 1, E => tellS (tlN c b k E) (c (k : Int)) (b (k : Int))
theorem tlN_w {c b : Int → Int} {E : ES_} (h : MQE E) : ∀ k : Nat, (∀ j : Int, 0 ≤ j → j < (k : Int) → 0 ≤ c j ∧ c j ≤ 18) → MQE (tlN c b k E) ∧ WE (tlN c b k E) ≤ WE E + 6 * (k : Int)
  | 0, _ => ⟨h, by show WE E ≤ WE E + 6 * ((0 : Nat) : Int); omega⟩
  | k + 1, hc => by
    have ih := tlN_w (b := b) h k (fun j h1 h2 => hc j h1 (by omega))
    have q := tellS_w (b := b (k : Int)) ih.1 (hc (k : Int) (by omega) (by omega))
    refine ⟨q.1, ?_⟩
    have := q.2
    have := ih.2
    show WE (tellS (tlN c b k E) (c (k : Int)) (b (k : Int))) ≤ _
    omega
theorem MQE_n {E : ES_} {X : Int} (h : MQE E) (hX : WE E ≤ X) : 7 * E.2.2.2.1 ≤ X + 12 := by
  have p := PSn_0 h.2.2 19 (by omega)
  have t := h.1.2.2.2.2.1
  unfold WE at hX
  omega
theorem tlN_f {c b : Int → Int} : ∀ {k : Nat} {T : List (Int × Int)} {E : ES_}, T.length = k → (∀ i : Nat, i < k → T[i]? = some (c (i : Int), b (i : Int))) → tlN c b k E = T.foldl (fun E z => tellS E z.1 z.2) E
  | 0, T, E, h, _ => by
    rw [List.length_eq_zero_iff.mp h]
    rfl
  | k + 1, T, E, h, hT => by
    have e : T = T.take k ++ [(c (k : Int), b (k : Int))] := by
      have h2 := hT k (by omega)
      rw [List.getElem?_eq_some_iff] at h2
      obtain ⟨h3, h4⟩ := h2
      rw [← h4, List.take_append_getElem h3, List.take_of_length_le (by omega)]
    rw [e, List.foldl_append]
    show tellS (tlN c b k E) (c (k : Int)) (b (k : Int)) = tellS _ _ _
    rw [← tlN_f (k := k) (T := T.take k) (E := E) (by rw [List.length_take]; omega) (fun i hi => by rw [List.getElem?_take_of_lt hi]; exact hT i (by omega))]
set_option maxRecDepth 20000 in
theorem s_tellTo_e (h : Hp_) (hT : TY h) (ht : 1 ≤ (h 34 5)) (hl : 1 ≤ (h 34 2)) (hm : MQE ((h 34 3), (h 34 4), (h 34 5), (h 34 2), (h 36), (h 37), (h 38))) (hl24 : 0 ≤ (h 24 3) ∧ (h 24 3) ≤ 1024) (hw : WE ((h 34 3), (h 34 4), (h 34 5), (h 34 2), (h 36), (h 37), (h 38)) + 6 * (h 24 3) ≤ 7100) : Ctr yX7_tellTo cX7_tellTo 3 none (rmd 3) ly ly 0 0 [vR 24, vR 34] h (fun r h' => (TY h' ∧ FR [34, 36, 37, 38] h h') ∧ r = none ∧ (1 ≤ (h' 34 5)) ∧ (1 ≤ (h' 34 2)) ∧ (((h' 34 3), (h' 34 4), (h' 34 5), (h' 34 2), (h' 36), (h' 37), (h' 38)) = tlN (h 25) (h 26) (h 24 3).toNat ((h 34 3), (h 34 4), (h 34 5), (h 34 2), (h 36), (h 37), (h 38)))) := by
  refine Ctr_of (by decide) (Nat.le_of_ble_eq_true rfl) ⟨Nat.le_refl _, Nat.le_refl _⟩ (fun K hK hQ _ => ?_)
  show TT K ly 0 0 0 [(0, vR 24), (1, vR 34)] [] h
  have hF : FR [34, 36, 37, 38] h h := FR_rf _ _
  refine TT_iconst hK dX7_tellTo_0 ?_
  refine TT_istore_n hK rfl (lv' := [(2, vI 0), (0, vR 24), (1, vR 34)]) (by decide) rfl dX7_tellTo_1 ?_
  have L2_1 : ∀ (k1 : Nat) (i : Int) (w2_1 : Hp_), TY w2_1 → FR [34, 36, 37, 38] h w2_1 → (0 ≤ i ∧ i ≤ h 24 3) → (1 ≤ (w2_1 34 5)) → (1 ≤ (w2_1 34 2)) → (((w2_1 34 3), (w2_1 34 4), (w2_1 34 5), (w2_1 34 2), (w2_1 36), (w2_1 37), (w2_1 38)) = tlN (h 25) (h 26) i.toNat (h 34 3, h 34 4, h 34 5, h 34 2, h 36, h 37, h 38)) → ((1024 : Int) - i).toNat < k1 → TT K ly 0 0 2 [(0, vR 24), (1, vR 34), (2, vI i)] [] w2_1 := by
    intro k1
    induction k1 with
    | zero => intro i w2_1 hT2_1 hF2_1 hi hv1 hv2 hE hk1; exact absurd hk1 (Nat.not_lt_zero _)
    | succ k1 ih1 =>
      intro i w2_1 hT2_1 hF2_1 hi hv1 hv2 hE hk1
      have kE := tlN_w (c := h 25) (b := h 26) hm i.toNat (fun j j1 j2 => ty_25 hT rfl j1 (by omega))
      rw [← hE] at kE
      have kM := kE.1.1
      dsimp only at kM
      have kA := kE.1.2.1
      dsimp only at kA
      have kN := MQE_n kE.1 kE.2
      dsimp only at kN
      refine TT_iload_n hK rfl 2 rfl dX7_tellTo_2 ?_
      refine TT_aload_n hK rfl 0 rfl dX7_tellTo_3 ?_
      refine gf_X7_21 hK (by decide) rfl (v := (h 24) 3) (rd_ (hF2_1 24 (by decide)) rfl) dX7_tellTo_4 ?_
      have r2 := ty_24_3 (v := (h 24) 3) hT2_1 (rd_ (hF2_1 24 (by decide)) rfl)
      refine TT_icmp_ge hK (tgt := 32) (irm (by omega) (by omega)) (irm (by omega) (by omega)) dX7_tellTo_7 (by decide) (fun hb7_3 => ?_) (fun hb7_3 => ?_)
      · refine TT_vret hK hQ ?_ dX7_tellTo_32
        have e4_34_5 : w2_1 34 5 = (w2_1 34) 5 := rfl
        have e5_34_2 : w2_1 34 2 = (w2_1 34) 2 := rfl
        have e6_34_2 : w2_1 34 2 = (w2_1 34) 2 := rfl
        have e7_34_3 : w2_1 34 3 = (w2_1 34) 3 := rfl
        have e8_34_4 : w2_1 34 4 = (w2_1 34) 4 := rfl
        have e9_34_5 : w2_1 34 5 = (w2_1 34) 5 := rfl
        exact ⟨⟨hT2_1, hF2_1⟩, rfl, (by rewrite [e4_34_5]; omega), (by rewrite [e5_34_2]; omega), (by rewrite [e6_34_2, e7_34_3, e8_34_4, e9_34_5]; rw [show i = h 24 3 by omega] at hE; exact hE)⟩
      · refine TT_aload_n hK rfl 1 rfl dX7_tellTo_10 ?_
        refine TT_aload_n hK rfl 0 rfl dX7_tellTo_11 ?_
        refine gf_X7_9 hK (by decide) rfl (q := 25) rfl rfl dX7_tellTo_12 ?_
        refine TT_iload_n hK rfl 2 rfl dX7_tellTo_15 ?_
        refine TT_iald hK (o := 25) (n := 1024) (by decide) rfl (by first | omega | (simp [up, setR] <;> omega)) (by first | omega | (simp [up, setR] <;> omega)) (v := (h 25) i) (rd_ (hF2_1 25 (by decide)) rfl) dX7_tellTo_16 ?_
        have r10 := ty_25 (i := i) (v := (h 25) i) hT2_1 (rd_ (hF2_1 25 (by decide)) rfl) (by omega) (by omega)
        refine TT_aload_n hK rfl 0 rfl dX7_tellTo_17 ?_
        refine gf_X7_15 hK (by decide) rfl (q := 26) rfl rfl dX7_tellTo_18 ?_
        refine TT_iload_n hK rfl 2 rfl dX7_tellTo_21 ?_
        refine TT_iald hK (o := 26) (n := 1024) (by decide) rfl (by first | omega | (simp [up, setR] <;> omega)) (by first | omega | (simp [up, setR] <;> omega)) (v := (h 26) i) (rd_ (hF2_1 26 (by decide)) rfl) dX7_tellTo_22 ?_
        have r11 := ty_26 (i := i) (v := (h 26) i) hT2_1 (rd_ (hF2_1 26 (by decide)) rfl) (by omega) (by omega)
        have e12_34_5 : w2_1 34 5 = (w2_1 34) 5 := rfl
        have e13_34_2 : w2_1 34 2 = (w2_1 34) 2 := rfl
        have e14_34_2 : w2_1 34 2 = (w2_1 34) 2 := rfl
        have e15_34_3 : w2_1 34 3 = (w2_1 34) 3 := rfl
        have e16_34_4 : w2_1 34 4 = (w2_1 34) 4 := rfl
        have e17_34_5 : w2_1 34 5 = (w2_1 34) 5 := rfl
        have e18_34_3 : w2_1 34 3 = (w2_1 34) 3 := rfl
        have e19_34_2 : w2_1 34 2 = (w2_1 34) 2 := rfl
        refine iv_X7_28 hK (s_tell_e ((h 25) i) ((h 26) i) w2_1 hT2_1 (by first | omega | (simp [up, setR] <;> omega)) (by first | omega | (simp [up, setR] <;> omega)) (by rewrite [e12_34_5]; first | omega | (simp [up, setR] <;> omega)) (by rewrite [e13_34_2]; first | omega | (simp [up, setR] <;> omega)) (by rewrite [e14_34_2, e15_34_3, e16_34_4, e17_34_5]; exact kM) (by rewrite [e18_34_3]; exact kA) (by rewrite [e19_34_2]; omega)) (by decide) rfl ⟨by decide, by decide⟩ (by decide) rfl rfl (Nat.le_of_ble_eq_true rfl) ⟨by decide, by decide⟩ dX7_tellTo_23 ?_
        intro r9 g23_20 hp9
        obtain ⟨⟨hT_20, hG_20⟩, hr9, p1_20, p2_20, te_20⟩ := hp9
        rw [hr9]
        have hF_20 : FR [34, 36, 37, 38] h g23_20 := FR_tr hF2_1 hG_20 (by decide)
        rw [show w2_1 34 2 = (w2_1 34) 2 from rfl] at te_20
        rw [show w2_1 34 3 = (w2_1 34) 3 from rfl] at te_20
        rw [show w2_1 34 4 = (w2_1 34) 4 from rfl] at te_20
        rw [show w2_1 34 5 = (w2_1 34) 5 from rfl] at te_20
        have te_at23 := te_20
        show TT K ly 0 0 26 [(0, vR 24), (1, vR 34), (2, vI i)] [] g23_20
        refine TT_iinc hK (v := i + 1) (lv' := [(2, vI (i + 1)), (0, vR 24), (1, vR 34)]) 2 rfl rfl (by decide) rfl dX7_tellTo_26 ?_
        refine TT_goto hK (tgt := 2) dX7_tellTo_29 (by decide) ?_
        refine TT_sub [1, 2, 0] rfl ?_
        have e21_34_5 : g23_20 34 5 = (g23_20 34) 5 := rfl
        have e22_34_2 : g23_20 34 2 = (g23_20 34) 2 := rfl
        have e23_34_2 : g23_20 34 2 = (g23_20 34) 2 := rfl
        have e24_34_3 : g23_20 34 3 = (g23_20 34) 3 := rfl
        have e25_34_4 : g23_20 34 4 = (g23_20 34) 4 := rfl
        have e26_34_5 : g23_20 34 5 = (g23_20 34) 5 := rfl
        exact ih1 (i + 1) g23_20 hT_20 hF_20 (by first | omega | (simp [up, setR] <;> omega)) (by rewrite [e21_34_5]; first | omega | (simp [up, setR] <;> omega)) (by rewrite [e22_34_2]; first | omega | (simp [up, setR] <;> omega)) (by rewrite [e23_34_2, e24_34_3, e25_34_4, e26_34_5]; rw [show (i + 1).toNat = i.toNat + 1 by omega]; unfold tlN; rw [← hE, show ((i.toNat : Nat) : Int) = i by omega]; exact te_at23) (by first | omega | (simp [up, setR] <;> omega))
  refine TT_sub [1, 2, 0] rfl ?_
  have e27_34_5 : h 34 5 = (h 34) 5 := rfl
  have e28_34_2 : h 34 2 = (h 34) 2 := rfl
  have e29_34_2 : h 34 2 = (h 34) 2 := rfl
  have e30_34_3 : h 34 3 = (h 34) 3 := rfl
  have e31_34_4 : h 34 4 = (h 34) 4 := rfl
  have e32_34_5 : h 34 5 = (h 34) 5 := rfl
  exact L2_1 ((((1024 : Int) - 0).toNat) + 1) 0 h hT hF (by first | omega | (simp [up, setR] <;> omega)) (by rewrite [e27_34_5]; first | omega | (simp [up, setR] <;> omega)) (by rewrite [e28_34_2]; first | omega | (simp [up, setR] <;> omega)) (by rewrite [e29_34_2, e30_34_3, e31_34_4, e32_34_5]; rfl) (Nat.lt_succ_self _)

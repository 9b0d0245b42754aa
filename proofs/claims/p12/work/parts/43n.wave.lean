set_option maxRecDepth 20000 in
theorem s_workx_8 (f n : Int) (h : Hp_) (hT : TY h) (hf : 0 ≤ f ∧ f ≤ 7) (hn : 1 ≤ n ∧ n ≤ 8) (hs : ∀ j : Int, 0 ≤ j → j < n → -4095 ≤ (h 77) (f + 8 * j) ∧ (h 77) (f + 8 * j) ≤ 4095) : Ctr yX12_work cX12_work 6 none (rmd 4) ly ly 0 0 [vR 73, vI f, vI 8, vI n, vI 0] h (fun r h' => (TY h' ∧ FRM [77, 78, 79] [] h h') ∧ r = none ∧ (∀ i : Int, 0 ≤ i → i < 64 → (h' 77) i = wE8 f n n (h 77) i)) := by
  refine Ctr_of (by decide) (Nat.le_of_ble_eq_true rfl) ⟨Nat.le_refl _, Nat.le_refl _⟩ (fun K hK hQ _ => ?_)
  show TT K ly 0 0 0 [(0, vR 73), (1, vI f), (2, vI 8), (3, vI n), (4, vI 0)] [] h
  have hF : FRM [77, 78, 79] [] h h := FRM_rf _ _ _
  refine TT_iconst hK dX12_work_0 ?_
  refine TT_istore hK (lv' := [(5, vI 0), (0, vR 73), (1, vI f), (2, vI 8), (3, vI n), (4, vI 0)]) (by decide) rfl dX12_work_1 ?_
  have L3_1 : ∀ (k1 : Nat) (k : Int) (w3_1 : Hp_), TY w3_1 → FRM [77, 78, 79] [] h w3_1 → (0 ≤ k ∧ k ≤ n) → ((w3_1 77) = h 77) → (∀ j : Int, 0 ≤ j → j < k → (w3_1 78) j = h 77 (f + 8 * j)) → ((8 : Int) - k).toNat < k1 → TT K ly 0 0 3 [(0, vR 73), (1, vI f), (2, vI 8), (3, vI n), (4, vI 0), (5, vI k)] [] w3_1 := by
    intro k1
    induction k1 with
    | zero => intro k w3_1 hT3_1 hF3_1 hk k77 h78 hk1; exact absurd hk1 (Nat.not_lt_zero _)
    | succ k1 ih1 =>
      intro k w3_1 hT3_1 hF3_1 hk k77 h78 hk1
      refine TT_iload hK 5 rfl dX12_work_3 ?_
      refine TT_iload_n hK rfl 3 rfl dX12_work_5 ?_
      refine TT_icmp_ge hK (tgt := 33) (irm (by omega) (by omega)) (irm (by omega) (by omega)) dX12_work_6 (by decide) (fun hb6_2 => ?_) (fun hb6_2 => ?_)
      · refine TT_iload hK 4 rfl dX12_work_33 ?_
        refine TT_if_eq hK (tgt := 46) (by decide) dX12_work_35 (by decide) (fun hb35_3 => ?_) (fun hb35_3 => ?_)
        · refine TT_aload_n hK rfl 0 rfl dX12_work_46 ?_
          refine TT_iload_n hK rfl 3 rfl dX12_work_47 ?_
          refine iv_X12_146 hK (s_forward_x n w3_1 hT3_1 (by first | omega | (simp [up, setR] <;> omega)) (by intro j h1 h2; rw [h78 j h1 (by omega)]; exact hs j h1 h2)) (by decide) rfl ⟨by decide, by decide⟩ (by decide) rfl rfl (Nat.le_of_ble_eq_true rfl) ⟨by decide, by decide⟩ dX12_work_48 ?_
          intro r9 g48_4 hp9
          obtain ⟨⟨hT_4, hG_4⟩, hr9, p1_4⟩ := hp9
          rw [hr9]
          have hF_4 : FRM [77, 78, 79] [] h g48_4 := FRM_tr hF3_1 hG_4 (by decide) (by decide)
          have p1_at48 := p1_4
          show TT K ly 0 0 51 [(0, vR 73), (1, vI f), (2, vI 8), (3, vI n), (4, vI 0), (5, vI k)] [] g48_4
          refine TT_iconst hK dX12_work_51 ?_
          refine TT_istore hK (lv' := [(5, vI 0), (0, vR 73), (1, vI f), (2, vI 8), (3, vI n), (4, vI 0)]) (by decide) rfl dX12_work_52 ?_
          have L54_5 : ∀ (k5 : Nat) (k2 : Int) (w54_5 : Hp_), TY w54_5 → FRM [77, 78, 79] [] h w54_5 → (0 ≤ k2 ∧ k2 ≤ n) → (∀ j : Int, 0 ≤ j → j < n → (w54_5 79) j = fE (fun j => h 77 (f + 8 * j)) n j) → (∀ i : Int, 0 ≤ i → i < 64 → (w54_5 77) i = wE8 f n k2 (h 77) i) → ((8 : Int) - k2).toNat < k5 → TT K ly 0 0 54 [(0, vR 73), (1, vI f), (2, vI 8), (3, vI n), (4, vI 0), (5, vI k2)] [] w54_5 := by
            intro k5
            induction k5 with
            | zero => intro k2 w54_5 hT54_5 hF54_5 hk2 h79 hsq hk5; exact absurd hk5 (Nat.not_lt_zero _)
            | succ k5 ih5 =>
              intro k2 w54_5 hT54_5 hF54_5 hk2 h79 hsq hk5
              refine TT_iload hK 5 rfl dX12_work_54 ?_
              refine TT_iload_n hK rfl 3 rfl dX12_work_56 ?_
              refine TT_icmp_ge hK (tgt := 84) (irm (by omega) (by omega)) (irm (by omega) (by omega)) dX12_work_57 (by decide) (fun hb57_6 => ?_) (fun hb57_6 => ?_)
              · refine TT_vret hK hQ ?_ dX12_work_84
                exact ⟨⟨hT54_5, hF54_5⟩, rfl, (by intro i h1 h2; rw [hsq i h1 h2, show k2 = n by omega])⟩
              · refine TT_aload_n hK rfl 0 rfl dX12_work_60 ?_
                refine gf_X12_26 hK (by decide) rfl (q := 77) rfl rfl dX12_work_61 ?_
                refine TT_iload_n hK rfl 1 rfl dX12_work_64 ?_
                refine TT_iload_n hK rfl 2 rfl dX12_work_65 ?_
                refine TT_iload hK 5 rfl dX12_work_66 ?_
                refine TT_imul hK dX12_work_68 ?_
                refine TT_iadd hK dX12_work_69 ?_
                refine TT_aload_n hK rfl 0 rfl dX12_work_70 ?_
                refine gf_X12_32 hK (by decide) rfl (q := 79) rfl rfl dX12_work_71 ?_
                refine TT_iload hK 5 rfl dX12_work_74 ?_
                refine TT_iald hK (o := 79) (n := 8) (by decide) rfl (by first | omega | (simp [up, setR] <;> omega)) (by first | omega | (simp [up, setR] <;> omega)) (v := (w54_5 79) k2) rfl dX12_work_76 ?_
                have r7 := ty_79 (i := k2) (v := (w54_5 79) k2) hT54_5 rfl (by omega) (by omega)
                refine TT_iast hK (o := 77) (n := 64) (by decide) rfl (by omega) (by omega) dX12_work_77 ?_
                refine TT_hp (h' := setO w54_5 77 (fup (w54_5 77) (f + (8 * k2)) ((w54_5 79) k2))) (up_can rfl rfl rfl) ?_
                have hT_8 : TY (setO w54_5 77 (fup (w54_5 77) (f + (8 * k2)) ((w54_5 79) k2))) := tu_77 hT54_5 (show up w54_5 77 (f + (8 * k2)) ((w54_5 79) k2) = (setO w54_5 77 (fup (w54_5 77) (f + (8 * k2)) ((w54_5 79) k2))) from up_can rfl rfl rfl) (by omega)
                have hF_8 : FRM [77, 78, 79] [] h (setO w54_5 77 (fup (w54_5 77) (f + (8 * k2)) ((w54_5 79) k2))) := FRM_up (show up w54_5 77 (f + (8 * k2)) ((w54_5 79) k2) = (setO w54_5 77 (fup (w54_5 77) (f + (8 * k2)) ((w54_5 79) k2))) from up_can rfl rfl rfl) hF54_5 (by decide) (by decide)
                refine TT_iinc hK (v := k2 + 1) (lv' := [(5, vI (k2 + 1)), (0, vR 73), (1, vI f), (2, vI 8), (3, vI n), (4, vI 0)]) 5 rfl rfl (by decide) rfl dX12_work_78 ?_
                refine TT_goto hK (tgt := 54) dX12_work_81 (by decide) ?_
                refine TT_sub [1, 2, 3, 4, 5, 0] rfl ?_
                have e9_79 : (setO w54_5 77 (fup (w54_5 77) (f + (8 * k2)) ((w54_5 79) k2))) 79 = w54_5 79 := sOf_ne _ _ (by decide)
                have e10_77 : (setO w54_5 77 (fup (w54_5 77) (f + (8 * k2)) ((w54_5 79) k2))) 77 = fup (w54_5 77) (f + (8 * k2)) ((w54_5 79) k2) := sOf_eq _ _ _
                exact ih5 (k2 + 1) (setO w54_5 77 (fup (w54_5 77) (f + (8 * k2)) ((w54_5 79) k2))) hT_8 hF_8 (by first | omega | (simp [up, setR] <;> omega)) (by rewrite [e9_79]; exact h79) (by rewrite [e10_77]; intro i h1 h2; by_cases e : i = f + 8 * k2; (rw [e, fup_eq, h79 k2 (by omega) (by omega)]; unfold wE8; rw [if_pos (by omega), show (f + 8 * k2) / 8 = k2 by omega]); (rw [fup_ne _ _ e, hsq i h1 h2]; unfold wE8; by_cases c : i % 8 = f ∧ i / 8 < k2; (rw [if_pos c, if_pos (by omega)]); (rw [if_neg c, if_neg (by omega)]))) (by first | omega | (simp [up, setR] <;> omega))
          refine TT_sub [1, 2, 3, 4, 5, 0] rfl ?_
          have e11_77 : g48_4 77 = w3_1 77 := (hG_4.1 77 (by decide))
          exact L54_5 ((((8 : Int) - 0).toNat) + 1) 0 g48_4 hT_4 hF_4 (by first | omega | (simp [up, setR] <;> omega)) (by intro j h1 h2; rw [p1_at48 j h1 h2]; exact fE_cg (by omega) ⟨h1, h2⟩ (fun i h3 h4 => h78 i h3 (by omega))) (by rewrite [e11_77]; intro i h1 h2; unfold wE8; rw [if_neg (by omega), k77]) (Nat.lt_succ_self _)
        · exact absurd hb35_3 (by decide)
      · refine TT_aload_n hK rfl 0 rfl dX12_work_9 ?_
        refine gf_X12_29 hK (by decide) rfl (q := 78) rfl rfl dX12_work_10 ?_
        refine TT_iload hK 5 rfl dX12_work_13 ?_
        refine TT_aload_n hK rfl 0 rfl dX12_work_15 ?_
        refine gf_X12_26 hK (by decide) rfl (q := 77) rfl rfl dX12_work_16 ?_
        refine TT_iload_n hK rfl 1 rfl dX12_work_19 ?_
        refine TT_iload_n hK rfl 2 rfl dX12_work_20 ?_
        refine TT_iload hK 5 rfl dX12_work_21 ?_
        refine TT_imul hK dX12_work_23 ?_
        refine TT_iadd hK dX12_work_24 ?_
        refine TT_iald hK (o := 77) (n := 64) (by decide) rfl (by first | omega | (simp [up, setR] <;> omega)) (by first | omega | (simp [up, setR] <;> omega)) (v := (w3_1 77) (f + (8 * k))) rfl dX12_work_25 ?_
        have r12 := ty_77 (i := f + (8 * k)) (v := (w3_1 77) (f + (8 * k))) hT3_1 rfl (by omega) (by omega)
        refine TT_iast hK (o := 78) (n := 8) (by decide) rfl (by omega) (by omega) dX12_work_26 ?_
        refine TT_hp (h' := setO w3_1 78 (fup (w3_1 78) k ((w3_1 77) (f + (8 * k))))) (up_can rfl rfl rfl) ?_
        have hT_13 : TY (setO w3_1 78 (fup (w3_1 78) k ((w3_1 77) (f + (8 * k))))) := tu_78 hT3_1 (show up w3_1 78 k ((w3_1 77) (f + (8 * k))) = (setO w3_1 78 (fup (w3_1 78) k ((w3_1 77) (f + (8 * k))))) from up_can rfl rfl rfl) (by omega)
        have hF_13 : FRM [77, 78, 79] [] h (setO w3_1 78 (fup (w3_1 78) k ((w3_1 77) (f + (8 * k))))) := FRM_up (show up w3_1 78 k ((w3_1 77) (f + (8 * k))) = (setO w3_1 78 (fup (w3_1 78) k ((w3_1 77) (f + (8 * k))))) from up_can rfl rfl rfl) hF3_1 (by decide) (by decide)
        refine TT_iinc hK (v := k + 1) (lv' := [(5, vI (k + 1)), (0, vR 73), (1, vI f), (2, vI 8), (3, vI n), (4, vI 0)]) 5 rfl rfl (by decide) rfl dX12_work_27 ?_
        refine TT_goto hK (tgt := 3) dX12_work_30 (by decide) ?_
        refine TT_sub [1, 2, 3, 4, 5, 0] rfl ?_
        have e14_77 : (setO w3_1 78 (fup (w3_1 78) k ((w3_1 77) (f + (8 * k))))) 77 = w3_1 77 := sOf_ne _ _ (by decide)
        have e15_78 : (setO w3_1 78 (fup (w3_1 78) k ((w3_1 77) (f + (8 * k))))) 78 = fup (w3_1 78) k ((w3_1 77) (f + (8 * k))) := sOf_eq _ _ _
        exact ih1 (k + 1) (setO w3_1 78 (fup (w3_1 78) k ((w3_1 77) (f + (8 * k))))) hT_13 hF_13 (by first | omega | (simp [up, setR] <;> omega)) (by rewrite [e14_77]; first | assumption | exact k77) (by rewrite [e15_78]; intro j h1 h2; by_cases e : j = k; (rw [e, fup_eq, k77]); (rw [fup_ne _ _ e]; exact h78 j h1 (by omega))) (by first | omega | (simp [up, setR] <;> omega))
  refine TT_sub [1, 2, 3, 4, 5, 0] rfl ?_
  exact L3_1 ((((8 : Int) - 0).toNat) + 1) 0 h hT hF (by first | omega | (simp [up, setR] <;> omega)) (by rfl) (by intro j h1 h2; omega) (Nat.lt_succ_self _)
set_option maxRecDepth 20000 in
theorem s_workx_1 (f n : Int) (h : Hp_) (hT : TY h) (hf : 0 ≤ f ∧ f ≤ 56) (hn : 1 ≤ n ∧ n ≤ 8) (hs : ∀ j : Int, 0 ≤ j → j < n → -4095 ≤ (h 77) (f + 1 * j) ∧ (h 77) (f + 1 * j) ≤ 4095) : Ctr yX12_work cX12_work 6 none (rmd 4) ly ly 0 0 [vR 73, vI f, vI 1, vI n, vI 0] h (fun r h' => (TY h' ∧ FRM [77, 78, 79] [] h h') ∧ r = none ∧ (∀ i : Int, 0 ≤ i → i < 64 → (h' 77) i = wE1 f n n (h 77) i)) := by
  refine Ctr_of (by decide) (Nat.le_of_ble_eq_true rfl) ⟨Nat.le_refl _, Nat.le_refl _⟩ (fun K hK hQ _ => ?_)
  show TT K ly 0 0 0 [(0, vR 73), (1, vI f), (2, vI 1), (3, vI n), (4, vI 0)] [] h
  have hF : FRM [77, 78, 79] [] h h := FRM_rf _ _ _
  refine TT_iconst hK dX12_work_0 ?_
  refine TT_istore hK (lv' := [(5, vI 0), (0, vR 73), (1, vI f), (2, vI 1), (3, vI n), (4, vI 0)]) (by decide) rfl dX12_work_1 ?_
  have L3_1 : ∀ (k1 : Nat) (k : Int) (w3_1 : Hp_), TY w3_1 → FRM [77, 78, 79] [] h w3_1 → (0 ≤ k ∧ k ≤ n) → ((w3_1 77) = h 77) → (∀ j : Int, 0 ≤ j → j < k → (w3_1 78) j = h 77 (f + 1 * j)) → ((8 : Int) - k).toNat < k1 → TT K ly 0 0 3 [(0, vR 73), (1, vI f), (2, vI 1), (3, vI n), (4, vI 0), (5, vI k)] [] w3_1 := by
    intro k1
    induction k1 with
    | zero => intro k w3_1 hT3_1 hF3_1 hk k77 h78 hk1; exact absurd hk1 (Nat.not_lt_zero _)
    | succ k1 ih1 =>
      intro k w3_1 hT3_1 hF3_1 hk k77 h78 hk1
      refine TT_iload hK 5 rfl dX12_work_3 ?_
      refine TT_iload_n hK rfl 3 rfl dX12_work_5 ?_
      refine TT_icmp_ge hK (tgt := 33) (irm (by omega) (by omega)) (irm (by omega) (by omega)) dX12_work_6 (by decide) (fun hb6_2 => ?_) (fun hb6_2 => ?_)
      · refine TT_iload hK 4 rfl dX12_work_33 ?_
        refine TT_if_eq hK (tgt := 46) (by decide) dX12_work_35 (by decide) (fun hb35_3 => ?_) (fun hb35_3 => ?_)
        · refine TT_aload_n hK rfl 0 rfl dX12_work_46 ?_
          refine TT_iload_n hK rfl 3 rfl dX12_work_47 ?_
          refine iv_X12_146 hK (s_forward_x n w3_1 hT3_1 (by first | omega | (simp [up, setR] <;> omega)) (by intro j h1 h2; rw [h78 j h1 (by omega)]; exact hs j h1 h2)) (by decide) rfl ⟨by decide, by decide⟩ (by decide) rfl rfl (Nat.le_of_ble_eq_true rfl) ⟨by decide, by decide⟩ dX12_work_48 ?_
          intro r9 g48_4 hp9
          obtain ⟨⟨hT_4, hG_4⟩, hr9, p1_4⟩ := hp9
          rw [hr9]
          have hF_4 : FRM [77, 78, 79] [] h g48_4 := FRM_tr hF3_1 hG_4 (by decide) (by decide)
          have p1_at48 := p1_4
          show TT K ly 0 0 51 [(0, vR 73), (1, vI f), (2, vI 1), (3, vI n), (4, vI 0), (5, vI k)] [] g48_4
          refine TT_iconst hK dX12_work_51 ?_
          refine TT_istore hK (lv' := [(5, vI 0), (0, vR 73), (1, vI f), (2, vI 1), (3, vI n), (4, vI 0)]) (by decide) rfl dX12_work_52 ?_
          have L54_5 : ∀ (k5 : Nat) (k2 : Int) (w54_5 : Hp_), TY w54_5 → FRM [77, 78, 79] [] h w54_5 → (0 ≤ k2 ∧ k2 ≤ n) → (∀ j : Int, 0 ≤ j → j < n → (w54_5 79) j = fE (fun j => h 77 (f + 1 * j)) n j) → (∀ i : Int, 0 ≤ i → i < 64 → (w54_5 77) i = wE1 f n k2 (h 77) i) → ((8 : Int) - k2).toNat < k5 → TT K ly 0 0 54 [(0, vR 73), (1, vI f), (2, vI 1), (3, vI n), (4, vI 0), (5, vI k2)] [] w54_5 := by
            intro k5
            induction k5 with
            | zero => intro k2 w54_5 hT54_5 hF54_5 hk2 h79 hsq hk5; exact absurd hk5 (Nat.not_lt_zero _)
            | succ k5 ih5 =>
              intro k2 w54_5 hT54_5 hF54_5 hk2 h79 hsq hk5
              refine TT_iload hK 5 rfl dX12_work_54 ?_
              refine TT_iload_n hK rfl 3 rfl dX12_work_56 ?_
              refine TT_icmp_ge hK (tgt := 84) (irm (by omega) (by omega)) (irm (by omega) (by omega)) dX12_work_57 (by decide) (fun hb57_6 => ?_) (fun hb57_6 => ?_)
              · refine TT_vret hK hQ ?_ dX12_work_84
                exact ⟨⟨hT54_5, hF54_5⟩, rfl, (by intro i h1 h2; rw [hsq i h1 h2, show k2 = n by omega])⟩
              · refine TT_aload_n hK rfl 0 rfl dX12_work_60 ?_
                refine gf_X12_26 hK (by decide) rfl (q := 77) rfl rfl dX12_work_61 ?_
                refine TT_iload_n hK rfl 1 rfl dX12_work_64 ?_
                refine TT_iload_n hK rfl 2 rfl dX12_work_65 ?_
                refine TT_iload hK 5 rfl dX12_work_66 ?_
                refine TT_imul hK dX12_work_68 ?_
                refine TT_iadd hK dX12_work_69 ?_
                refine TT_aload_n hK rfl 0 rfl dX12_work_70 ?_
                refine gf_X12_32 hK (by decide) rfl (q := 79) rfl rfl dX12_work_71 ?_
                refine TT_iload hK 5 rfl dX12_work_74 ?_
                refine TT_iald hK (o := 79) (n := 8) (by decide) rfl (by first | omega | (simp [up, setR] <;> omega)) (by first | omega | (simp [up, setR] <;> omega)) (v := (w54_5 79) k2) rfl dX12_work_76 ?_
                have r7 := ty_79 (i := k2) (v := (w54_5 79) k2) hT54_5 rfl (by omega) (by omega)
                refine TT_iast hK (o := 77) (n := 64) (by decide) rfl (by omega) (by omega) dX12_work_77 ?_
                refine TT_hp (h' := setO w54_5 77 (fup (w54_5 77) (f + (1 * k2)) ((w54_5 79) k2))) (up_can rfl rfl rfl) ?_
                have hT_8 : TY (setO w54_5 77 (fup (w54_5 77) (f + (1 * k2)) ((w54_5 79) k2))) := tu_77 hT54_5 (show up w54_5 77 (f + (1 * k2)) ((w54_5 79) k2) = (setO w54_5 77 (fup (w54_5 77) (f + (1 * k2)) ((w54_5 79) k2))) from up_can rfl rfl rfl) (by omega)
                have hF_8 : FRM [77, 78, 79] [] h (setO w54_5 77 (fup (w54_5 77) (f + (1 * k2)) ((w54_5 79) k2))) := FRM_up (show up w54_5 77 (f + (1 * k2)) ((w54_5 79) k2) = (setO w54_5 77 (fup (w54_5 77) (f + (1 * k2)) ((w54_5 79) k2))) from up_can rfl rfl rfl) hF54_5 (by decide) (by decide)
                refine TT_iinc hK (v := k2 + 1) (lv' := [(5, vI (k2 + 1)), (0, vR 73), (1, vI f), (2, vI 1), (3, vI n), (4, vI 0)]) 5 rfl rfl (by decide) rfl dX12_work_78 ?_
                refine TT_goto hK (tgt := 54) dX12_work_81 (by decide) ?_
                refine TT_sub [1, 2, 3, 4, 5, 0] rfl ?_
                have e9_79 : (setO w54_5 77 (fup (w54_5 77) (f + (1 * k2)) ((w54_5 79) k2))) 79 = w54_5 79 := sOf_ne _ _ (by decide)
                have e10_77 : (setO w54_5 77 (fup (w54_5 77) (f + (1 * k2)) ((w54_5 79) k2))) 77 = fup (w54_5 77) (f + (1 * k2)) ((w54_5 79) k2) := sOf_eq _ _ _
                exact ih5 (k2 + 1) (setO w54_5 77 (fup (w54_5 77) (f + (1 * k2)) ((w54_5 79) k2))) hT_8 hF_8 (by first | omega | (simp [up, setR] <;> omega)) (by rewrite [e9_79]; exact h79) (by rewrite [e10_77]; intro i h1 h2; by_cases e : i = f + 1 * k2; (rw [e, fup_eq, h79 k2 (by omega) (by omega)]; unfold wE1; rw [if_pos (by omega), show f + 1 * k2 - f = k2 by omega]); (rw [fup_ne _ _ e, hsq i h1 h2]; unfold wE1; by_cases c : f ≤ i ∧ i < f + k2; (rw [if_pos c, if_pos (by omega)]); (rw [if_neg c, if_neg (by omega)]))) (by first | omega | (simp [up, setR] <;> omega))
          refine TT_sub [1, 2, 3, 4, 5, 0] rfl ?_
          have e11_77 : g48_4 77 = w3_1 77 := (hG_4.1 77 (by decide))
          exact L54_5 ((((8 : Int) - 0).toNat) + 1) 0 g48_4 hT_4 hF_4 (by first | omega | (simp [up, setR] <;> omega)) (by intro j h1 h2; rw [p1_at48 j h1 h2]; exact fE_cg (by omega) ⟨h1, h2⟩ (fun i h3 h4 => h78 i h3 (by omega))) (by rewrite [e11_77]; intro i h1 h2; unfold wE1; rw [if_neg (by omega), k77]) (Nat.lt_succ_self _)
        · exact absurd hb35_3 (by decide)
      · refine TT_aload_n hK rfl 0 rfl dX12_work_9 ?_
        refine gf_X12_29 hK (by decide) rfl (q := 78) rfl rfl dX12_work_10 ?_
        refine TT_iload hK 5 rfl dX12_work_13 ?_
        refine TT_aload_n hK rfl 0 rfl dX12_work_15 ?_
        refine gf_X12_26 hK (by decide) rfl (q := 77) rfl rfl dX12_work_16 ?_
        refine TT_iload_n hK rfl 1 rfl dX12_work_19 ?_
        refine TT_iload_n hK rfl 2 rfl dX12_work_20 ?_
        refine TT_iload hK 5 rfl dX12_work_21 ?_
        refine TT_imul hK dX12_work_23 ?_
        refine TT_iadd hK dX12_work_24 ?_
        refine TT_iald hK (o := 77) (n := 64) (by decide) rfl (by first | omega | (simp [up, setR] <;> omega)) (by first | omega | (simp [up, setR] <;> omega)) (v := (w3_1 77) (f + (1 * k))) rfl dX12_work_25 ?_
        have r12 := ty_77 (i := f + (1 * k)) (v := (w3_1 77) (f + (1 * k))) hT3_1 rfl (by omega) (by omega)
        refine TT_iast hK (o := 78) (n := 8) (by decide) rfl (by omega) (by omega) dX12_work_26 ?_
        refine TT_hp (h' := setO w3_1 78 (fup (w3_1 78) k ((w3_1 77) (f + (1 * k))))) (up_can rfl rfl rfl) ?_
        have hT_13 : TY (setO w3_1 78 (fup (w3_1 78) k ((w3_1 77) (f + (1 * k))))) := tu_78 hT3_1 (show up w3_1 78 k ((w3_1 77) (f + (1 * k))) = (setO w3_1 78 (fup (w3_1 78) k ((w3_1 77) (f + (1 * k))))) from up_can rfl rfl rfl) (by omega)
        have hF_13 : FRM [77, 78, 79] [] h (setO w3_1 78 (fup (w3_1 78) k ((w3_1 77) (f + (1 * k))))) := FRM_up (show up w3_1 78 k ((w3_1 77) (f + (1 * k))) = (setO w3_1 78 (fup (w3_1 78) k ((w3_1 77) (f + (1 * k))))) from up_can rfl rfl rfl) hF3_1 (by decide) (by decide)
        refine TT_iinc hK (v := k + 1) (lv' := [(5, vI (k + 1)), (0, vR 73), (1, vI f), (2, vI 1), (3, vI n), (4, vI 0)]) 5 rfl rfl (by decide) rfl dX12_work_27 ?_
        refine TT_goto hK (tgt := 3) dX12_work_30 (by decide) ?_
        refine TT_sub [1, 2, 3, 4, 5, 0] rfl ?_
        have e14_77 : (setO w3_1 78 (fup (w3_1 78) k ((w3_1 77) (f + (1 * k))))) 77 = w3_1 77 := sOf_ne _ _ (by decide)
        have e15_78 : (setO w3_1 78 (fup (w3_1 78) k ((w3_1 77) (f + (1 * k))))) 78 = fup (w3_1 78) k ((w3_1 77) (f + (1 * k))) := sOf_eq _ _ _
        exact ih1 (k + 1) (setO w3_1 78 (fup (w3_1 78) k ((w3_1 77) (f + (1 * k))))) hT_13 hF_13 (by first | omega | (simp [up, setR] <;> omega)) (by rewrite [e14_77]; first | assumption | exact k77) (by rewrite [e15_78]; intro j h1 h2; by_cases e : j = k; (rw [e, fup_eq, k77]); (rw [fup_ne _ _ e]; exact h78 j h1 (by omega))) (by first | omega | (simp [up, setR] <;> omega))
  refine TT_sub [1, 2, 3, 4, 5, 0] rfl ?_
  exact L3_1 ((((8 : Int) - 0).toNat) + 1) 0 h hT hF (by first | omega | (simp [up, setR] <;> omega)) (by rfl) (by intro j h1 h2; omega) (Nat.lt_succ_self _)
set_option maxRecDepth 20000 in
theorem s_columnsx (w e : Int) (h : Hp_) (hT : TY h) (hw : 0 ≤ w ∧ w ≤ 8) (he : 1 ≤ e ∧ e ≤ 8) (hB : ∀ i : Int, 0 ≤ i → i < 64 → -4095 ≤ (h 77) i ∧ (h 77) i ≤ 4095) : Ctr yX12_columns cX12_columns 5 none (rmd 5) ly ly 0 0 [vR 73, vI w, vI e, vI 0] h (fun r h' => (TY h' ∧ FRM [77, 78, 79] [] h h') ∧ r = none ∧ (∀ t : Int, 0 ≤ t → t < 64 → (h' 77) t = cE w e (h 77) t)) := by
  refine Ctr_of (by decide) (Nat.le_of_ble_eq_true rfl) ⟨Nat.le_refl _, Nat.le_refl _⟩ (fun K hK hQ _ => ?_)
  show TT K ly 0 0 0 [(0, vR 73), (1, vI w), (2, vI e), (3, vI 0)] [] h
  have hF : FRM [77, 78, 79] [] h h := FRM_rf _ _ _
  refine TT_iconst hK dX12_columns_0 ?_
  refine TT_istore hK (lv' := [(4, vI 0), (0, vR 73), (1, vI w), (2, vI e), (3, vI 0)]) (by decide) rfl dX12_columns_1 ?_
  have L3_1 : ∀ (k1 : Nat) (x : Int) (w3_1 : Hp_), TY w3_1 → FRM [77, 78, 79] [] h w3_1 → (0 ≤ x ∧ x ≤ w) → (∀ t : Int, 0 ≤ t → t < 64 → (w3_1 77) t = cE x e (h 77) t) → ((8 : Int) - x).toNat < k1 → TT K ly 0 0 3 [(0, vR 73), (1, vI w), (2, vI e), (3, vI 0), (4, vI x)] [] w3_1 := by
    intro k1
    induction k1 with
    | zero => intro x w3_1 hT3_1 hF3_1 hx hsq hk1; exact absurd hk1 (Nat.not_lt_zero _)
    | succ k1 ih1 =>
      intro x w3_1 hT3_1 hF3_1 hx hsq hk1
      refine TT_iload hK 4 rfl dX12_columns_3 ?_
      refine TT_iload_n hK rfl 1 rfl dX12_columns_5 ?_
      refine TT_icmp_ge hK (tgt := 25) (irm (by omega) (by omega)) (irm (by omega) (by omega)) dX12_columns_6 (by decide) (fun hb6_2 => ?_) (fun hb6_2 => ?_)
      · refine TT_vret hK hQ ?_ dX12_columns_25
        exact ⟨⟨hT3_1, hF3_1⟩, rfl, (by intro t h1 h2; rw [hsq t h1 h2, show x = w by omega])⟩
      · refine TT_aload_n hK rfl 0 rfl dX12_columns_9 ?_
        refine TT_iload hK 4 rfl dX12_columns_10 ?_
        refine TT_bipush hK (by decide) dX12_columns_12 ?_
        refine TT_iload_n hK rfl 2 rfl dX12_columns_14 ?_
        refine TT_iload_n hK rfl 3 rfl dX12_columns_15 ?_
        refine iv_X12_149 hK (s_workx_8 x e w3_1 hT3_1 (by first | omega | (simp [up, setR] <;> omega)) (by first | omega | (simp [up, setR] <;> omega)) (by intro j h1 h2; rw [hsq _ (by omega) (by omega)]; unfold cE; rw [if_neg (by omega)]; exact hB _ (by omega) (by omega))) (by decide) rfl ⟨by decide, by decide⟩ (by decide) rfl rfl (Nat.le_of_ble_eq_true rfl) ⟨by decide, by decide⟩ dX12_columns_16 ?_
        intro r9 g16_3 hp9
        obtain ⟨⟨hT_3, hG_3⟩, hr9, p1_3⟩ := hp9
        rw [hr9]
        have hF_3 : FRM [77, 78, 79] [] h g16_3 := FRM_tr hF3_1 hG_3 (by decide) (by decide)
        have p1_at16 := p1_3
        show TT K ly 0 0 19 [(0, vR 73), (1, vI w), (2, vI e), (3, vI 0), (4, vI x)] [] g16_3
        refine TT_iinc hK (v := x + 1) (lv' := [(4, vI (x + 1)), (0, vR 73), (1, vI w), (2, vI e), (3, vI 0)]) 4 rfl rfl (by decide) rfl dX12_columns_19 ?_
        refine TT_goto hK (tgt := 3) dX12_columns_22 (by decide) ?_
        refine TT_sub [1, 2, 3, 4, 0] rfl ?_
        exact ih1 (x + 1) g16_3 hT_3 hF_3 (by first | omega | (simp [up, setR] <;> omega)) (by intro t h1 h2; rw [p1_at16 t h1 h2]; exact cES hsq (by omega) (by omega) ⟨h1, h2⟩) (by first | omega | (simp [up, setR] <;> omega))
  refine TT_sub [1, 2, 3, 4, 0] rfl ?_
  exact L3_1 ((((8 : Int) - 0).toNat) + 1) 0 h hT hF (by first | omega | (simp [up, setR] <;> omega)) (by intro t h1 h2; exact (cE0 _ _ _ h1).symm) (Nat.lt_succ_self _)
set_option maxRecDepth 20000 in
theorem s_rowsx (w e : Int) (h : Hp_) (hT : TY h) (hw : 1 ≤ w ∧ w ≤ 8) (he : 0 ≤ e ∧ e ≤ 8) (hB : ∀ i : Int, 0 ≤ i → i < 64 → -4095 ≤ (h 77) i ∧ (h 77) i ≤ 4095) : Ctr yX12_rows cX12_rows 5 none (rmd 5) ly ly 0 0 [vR 73, vI w, vI e, vI 0] h (fun r h' => (TY h' ∧ FRM [77, 78, 79] [] h h') ∧ r = none ∧ (∀ t : Int, 0 ≤ t → t < 64 → (h' 77) t = rE w e (h 77) t)) := by
  refine Ctr_of (by decide) (Nat.le_of_ble_eq_true rfl) ⟨Nat.le_refl _, Nat.le_refl _⟩ (fun K hK hQ _ => ?_)
  show TT K ly 0 0 0 [(0, vR 73), (1, vI w), (2, vI e), (3, vI 0)] [] h
  have hF : FRM [77, 78, 79] [] h h := FRM_rf _ _ _
  refine TT_iconst hK dX12_rows_0 ?_
  refine TT_istore hK (lv' := [(4, vI 0), (0, vR 73), (1, vI w), (2, vI e), (3, vI 0)]) (by decide) rfl dX12_rows_1 ?_
  have L3_1 : ∀ (k1 : Nat) (x : Int) (w3_1 : Hp_), TY w3_1 → FRM [77, 78, 79] [] h w3_1 → (0 ≤ x ∧ x ≤ e) → (∀ t : Int, 0 ≤ t → t < 64 → (w3_1 77) t = rE w x (h 77) t) → ((8 : Int) - x).toNat < k1 → TT K ly 0 0 3 [(0, vR 73), (1, vI w), (2, vI e), (3, vI 0), (4, vI x)] [] w3_1 := by
    intro k1
    induction k1 with
    | zero => intro x w3_1 hT3_1 hF3_1 hx hsq hk1; exact absurd hk1 (Nat.not_lt_zero _)
    | succ k1 ih1 =>
      intro x w3_1 hT3_1 hF3_1 hx hsq hk1
      refine TT_iload hK 4 rfl dX12_rows_3 ?_
      refine TT_iload_n hK rfl 2 rfl dX12_rows_5 ?_
      refine TT_icmp_ge hK (tgt := 27) (irm (by omega) (by omega)) (irm (by omega) (by omega)) dX12_rows_6 (by decide) (fun hb6_2 => ?_) (fun hb6_2 => ?_)
      · refine TT_vret hK hQ ?_ dX12_rows_27
        exact ⟨⟨hT3_1, hF3_1⟩, rfl, (by intro t h1 h2; rw [hsq t h1 h2, show x = e by omega])⟩
      · refine TT_aload_n hK rfl 0 rfl dX12_rows_9 ?_
        refine TT_bipush hK (by decide) dX12_rows_10 ?_
        refine TT_iload hK 4 rfl dX12_rows_12 ?_
        refine TT_imul hK dX12_rows_14 ?_
        refine TT_iconst hK dX12_rows_15 ?_
        refine TT_iload_n hK rfl 1 rfl dX12_rows_16 ?_
        refine TT_iload_n hK rfl 3 rfl dX12_rows_17 ?_
        refine iv_X12_149 hK (s_workx_1 (8 * x) w w3_1 hT3_1 (by first | omega | (simp [up, setR] <;> omega)) (by first | omega | (simp [up, setR] <;> omega)) (by intro j h1 h2; rw [hsq _ (by omega) (by omega)]; unfold rE; rw [if_neg (by omega)]; exact hB _ (by omega) (by omega))) (by decide) rfl ⟨by decide, by decide⟩ (by decide) rfl rfl (Nat.le_of_ble_eq_true rfl) ⟨by decide, by decide⟩ dX12_rows_18 ?_
        intro r9 g18_3 hp9
        obtain ⟨⟨hT_3, hG_3⟩, hr9, p1_3⟩ := hp9
        rw [hr9]
        have hF_3 : FRM [77, 78, 79] [] h g18_3 := FRM_tr hF3_1 hG_3 (by decide) (by decide)
        have p1_at18 := p1_3
        show TT K ly 0 0 21 [(0, vR 73), (1, vI w), (2, vI e), (3, vI 0), (4, vI x)] [] g18_3
        refine TT_iinc hK (v := x + 1) (lv' := [(4, vI (x + 1)), (0, vR 73), (1, vI w), (2, vI e), (3, vI 0)]) 4 rfl rfl (by decide) rfl dX12_rows_21 ?_
        refine TT_goto hK (tgt := 3) dX12_rows_24 (by decide) ?_
        refine TT_sub [1, 2, 3, 4, 0] rfl ?_
        exact ih1 (x + 1) g18_3 hT_3 hF_3 (by first | omega | (simp [up, setR] <;> omega)) (by intro t h1 h2; rw [p1_at18 t h1 h2]; exact rES hsq (by omega) (by omega) ⟨h1, h2⟩) (by first | omega | (simp [up, setR] <;> omega))
  refine TT_sub [1, 2, 3, 4, 0] rfl ?_
  exact L3_1 ((((8 : Int) - 0).toNat) + 1) 0 h hT hF (by first | omega | (simp [up, setR] <;> omega)) (by intro t h1 h2; exact (rE0 _ _ _ h1).symm) (Nat.lt_succ_self _)

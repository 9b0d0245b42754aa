set_option maxRecDepth 20000 in
theorem c_X0_sideAfter (n l : Int) (h : Hp_) (hn : 0 ≤ n ∧ n ≤ 8) (hl : 0 ≤ l ∧ l ≤ 4) : Ctr yX0_sideAfter cX0_sideAfter 2 (some .int) (rmd 0) ly ly 0 0 [vI n, vI l] h (fun r h' => r = some (vI (lft n l)) ∧ h' = h) := by
  refine Ctr_of (by decide) (Nat.le_of_ble_eq_true rfl) ⟨Nat.le_refl _, Nat.le_refl _⟩ (fun K hK hQ _ => ?_)
  show TT K ly 0 0 0 [(0, vI n), (1, vI l)] [] h
  refine TT_iload_n hK rfl 0 rfl dX0_sideAfter_0 ?_
  refine TT_iconst hK dX0_sideAfter_1 ?_
  refine TT_iload_n hK rfl 1 rfl dX0_sideAfter_2 ?_
  refine TT_ishl hK (by omega) (by omega) dX0_sideAfter_3 ?_
  refine TT_iadd hK dX0_sideAfter_4 ?_
  refine TT_iconst hK dX0_sideAfter_5 ?_
  refine TT_isub hK dX0_sideAfter_6 ?_
  refine TT_iload_n hK rfl 1 rfl dX0_sideAfter_7 ?_
  have p4 : (2 : Int) ^ l.toNat ≤ 16 ∧ 1 ≤ (2 : Int) ^ l.toNat := pw4 hl.1 hl.2
  refine TT_ishr hK (irm (by omega) (by omega)) (by omega) (by omega) dX0_sideAfter_8 ?_
  refine TT_iret hK hQ ?_ dX0_sideAfter_9
  exact ⟨congrArg (fun z => some (vI z)) (by rfl), rfl⟩
set_option maxRecDepth 20000 in
theorem c_fourth_15 (k n B : Int) (h : Hp_) (hk : 0 ≤ k ∧ k < (n + 1) / 2) (hn : 2 ≤ n ∧ n ≤ 8) (hbd : ∀ j, (n + 1) / 2 ≤ j → j < n → -B ≤ (h 15) j ∧ (h 15) j ≤ B) (hB : 0 ≤ B ∧ B ≤ 1000000000) : Ctr yX0_fourth cX0_fourth 6 (some .int) (rmd 1) ly ly 0 0 [vR 15, vI k, vI n] h (fun r h' => r = some (vI (((h 15) ((n + 1) / 2 + max (k - 1) 0) + (h 15) ((n + 1) / 2 + min k (n / 2 - 1)) + 2) / 4)) ∧ h' = h) := by
  refine Ctr_of (by decide) (Nat.le_of_ble_eq_true rfl) ⟨Nat.le_refl _, Nat.le_refl _⟩ (fun K hK hQ _ => ?_)
  show TT K ly 0 0 0 [(0, vR 15), (1, vI k), (2, vI n)] [] h
  refine TT_iload_n hK rfl 2 rfl dX0_fourth_0 ?_
  refine TT_iconst hK dX0_fourth_1 ?_
  refine TT_iadd hK dX0_fourth_2 ?_
  refine TT_iconst hK dX0_fourth_3 ?_
  refine TT_idivn hK (irm (by omega) (by omega)) (by decide) (by first | omega | (simp [up, setR] <;> omega)) (by first | omega | (simp [up, setR] <;> omega)) dX0_fourth_4 ?_
  refine TT_istore_n hK rfl (lv' := [(3, vI ((n + 1) / 2)), (0, vR 15), (1, vI k), (2, vI n)]) (by decide) rfl dX0_fourth_5 ?_
  refine TT_aload_n hK rfl 1 rfl dX0_fourth_6 ?_
  refine TT_iload_n hK rfl 0 rfl dX0_fourth_7 ?_
  refine TT_iload_n hK rfl 2 rfl dX0_fourth_8 ?_
  refine TT_iconst hK dX0_fourth_9 ?_
  refine TT_isub hK dX0_fourth_10 ?_
  refine TT_iconst hK dX0_fourth_11 ?_
  refine TT_mmax hK (irm (by omega) (by omega)) (by decide) iw_X0_77 (by decide) (Nat.le_of_ble_eq_true rfl) ⟨by decide, by decide⟩ dX0_fourth_12 ?_
  refine TT_iadd hK dX0_fourth_15 ?_
  refine TT_iald hK (o := 15) (n := 8) (by decide) rfl (by first | omega | (simp [up, setR] <;> omega)) (by first | omega | (simp [up, setR] <;> omega)) (v := (h 15) (((n + 1) / 2) + (max (k - 1) 0))) rfl dX0_fourth_16 ?_
  refine TT_istore hK (lv' := [(4, vI ((h 15) (((n + 1) / 2) + (max (k - 1) 0)))), (3, vI ((n + 1) / 2)), (0, vR 15), (1, vI k), (2, vI n)]) (by decide) rfl dX0_fourth_17 ?_
  refine TT_aload_n hK rfl 2 rfl dX0_fourth_19 ?_
  refine TT_iload_n hK rfl 1 rfl dX0_fourth_20 ?_
  refine TT_iload_n hK rfl 3 rfl dX0_fourth_21 ?_
  refine TT_iload_n hK rfl 4 rfl dX0_fourth_22 ?_
  refine TT_iconst hK dX0_fourth_23 ?_
  refine TT_idivn hK (irm (by omega) (by omega)) (by decide) (by first | omega | (simp [up, setR] <;> omega)) (by first | omega | (simp [up, setR] <;> omega)) dX0_fourth_24 ?_
  refine TT_iconst hK dX0_fourth_25 ?_
  refine TT_isub hK dX0_fourth_26 ?_
  refine TT_mmin hK (irm (by omega) (by omega)) (irm (by omega) (by omega)) iw_X0_72 (by decide) (Nat.le_of_ble_eq_true rfl) ⟨by decide, by decide⟩ dX0_fourth_27 ?_
  refine TT_iadd hK dX0_fourth_30 ?_
  refine TT_iald hK (o := 15) (n := 8) (by decide) rfl (by first | omega | (simp [up, setR] <;> omega)) (by first | omega | (simp [up, setR] <;> omega)) (v := (h 15) (((n + 1) / 2) + (min k ((n / 2) - 1)))) rfl dX0_fourth_31 ?_
  refine TT_istore hK (lv' := [(5, vI ((h 15) (((n + 1) / 2) + (min k ((n / 2) - 1))))), (4, vI ((h 15) (((n + 1) / 2) + (max (k - 1) 0)))), (3, vI ((n + 1) / 2)), (0, vR 15), (1, vI k), (2, vI n)]) (by decide) rfl dX0_fourth_32 ?_
  refine TT_iload hK 1 rfl dX0_fourth_34 ?_
  refine TT_iload hK 0 rfl dX0_fourth_36 ?_
  refine TT_iadd hK dX0_fourth_38 ?_
  refine TT_iconst hK dX0_fourth_39 ?_
  refine TT_iadd hK dX0_fourth_40 ?_
  have b1 := hbd ((n + 1) / 2 + max (k - 1) 0) (by omega) (by omega)
  have b2 := hbd ((n + 1) / 2 + min k (n / 2 - 1)) (by omega) (by omega)
  refine TT_iconst hK dX0_fourth_41 ?_
  refine TT_ishr hK (irm (by omega) (by omega)) (by omega) (by omega) dX0_fourth_42 ?_
  refine TT_cgI (b := ((((h 15) (((n + 1) / 2) + (max (k - 1) 0))) + ((h 15) (((n + 1) / 2) + (min k ((n / 2) - 1))))) + 2) / 4) rfl ?_
  refine TT_iret hK hQ ?_ dX0_fourth_43
  exact ⟨congrArg (fun z => some (vI z)) (by rfl), rfl⟩
set_option maxRecDepth 20000 in
theorem c_fourth_51 (k n B : Int) (h : Hp_) (hk : 0 ≤ k ∧ k < (n + 1) / 2) (hn : 2 ≤ n ∧ n ≤ 8) (hbd : ∀ j, (n + 1) / 2 ≤ j → j < n → -B ≤ (h 51) j ∧ (h 51) j ≤ B) (hB : 0 ≤ B ∧ B ≤ 1000000000) : Ctr yX0_fourth cX0_fourth 6 (some .int) (rmd 1) ly ly 0 0 [vR 51, vI k, vI n] h (fun r h' => r = some (vI (((h 51) ((n + 1) / 2 + max (k - 1) 0) + (h 51) ((n + 1) / 2 + min k (n / 2 - 1)) + 2) / 4)) ∧ h' = h) := by
  refine Ctr_of (by decide) (Nat.le_of_ble_eq_true rfl) ⟨Nat.le_refl _, Nat.le_refl _⟩ (fun K hK hQ _ => ?_)
  show TT K ly 0 0 0 [(0, vR 51), (1, vI k), (2, vI n)] [] h
  refine TT_iload_n hK rfl 2 rfl dX0_fourth_0 ?_
  refine TT_iconst hK dX0_fourth_1 ?_
  refine TT_iadd hK dX0_fourth_2 ?_
  refine TT_iconst hK dX0_fourth_3 ?_
  refine TT_idivn hK (irm (by omega) (by omega)) (by decide) (by first | omega | (simp [up, setR] <;> omega)) (by first | omega | (simp [up, setR] <;> omega)) dX0_fourth_4 ?_
  refine TT_istore_n hK rfl (lv' := [(3, vI ((n + 1) / 2)), (0, vR 51), (1, vI k), (2, vI n)]) (by decide) rfl dX0_fourth_5 ?_
  refine TT_aload_n hK rfl 1 rfl dX0_fourth_6 ?_
  refine TT_iload_n hK rfl 0 rfl dX0_fourth_7 ?_
  refine TT_iload_n hK rfl 2 rfl dX0_fourth_8 ?_
  refine TT_iconst hK dX0_fourth_9 ?_
  refine TT_isub hK dX0_fourth_10 ?_
  refine TT_iconst hK dX0_fourth_11 ?_
  refine TT_mmax hK (irm (by omega) (by omega)) (by decide) iw_X0_77 (by decide) (Nat.le_of_ble_eq_true rfl) ⟨by decide, by decide⟩ dX0_fourth_12 ?_
  refine TT_iadd hK dX0_fourth_15 ?_
  refine TT_iald hK (o := 51) (n := 8) (by decide) rfl (by first | omega | (simp [up, setR] <;> omega)) (by first | omega | (simp [up, setR] <;> omega)) (v := (h 51) (((n + 1) / 2) + (max (k - 1) 0))) rfl dX0_fourth_16 ?_
  refine TT_istore hK (lv' := [(4, vI ((h 51) (((n + 1) / 2) + (max (k - 1) 0)))), (3, vI ((n + 1) / 2)), (0, vR 51), (1, vI k), (2, vI n)]) (by decide) rfl dX0_fourth_17 ?_
  refine TT_aload_n hK rfl 2 rfl dX0_fourth_19 ?_
  refine TT_iload_n hK rfl 1 rfl dX0_fourth_20 ?_
  refine TT_iload_n hK rfl 3 rfl dX0_fourth_21 ?_
  refine TT_iload_n hK rfl 4 rfl dX0_fourth_22 ?_
  refine TT_iconst hK dX0_fourth_23 ?_
  refine TT_idivn hK (irm (by omega) (by omega)) (by decide) (by first | omega | (simp [up, setR] <;> omega)) (by first | omega | (simp [up, setR] <;> omega)) dX0_fourth_24 ?_
  refine TT_iconst hK dX0_fourth_25 ?_
  refine TT_isub hK dX0_fourth_26 ?_
  refine TT_mmin hK (irm (by omega) (by omega)) (irm (by omega) (by omega)) iw_X0_72 (by decide) (Nat.le_of_ble_eq_true rfl) ⟨by decide, by decide⟩ dX0_fourth_27 ?_
  refine TT_iadd hK dX0_fourth_30 ?_
  refine TT_iald hK (o := 51) (n := 8) (by decide) rfl (by first | omega | (simp [up, setR] <;> omega)) (by first | omega | (simp [up, setR] <;> omega)) (v := (h 51) (((n + 1) / 2) + (min k ((n / 2) - 1)))) rfl dX0_fourth_31 ?_
  refine TT_istore hK (lv' := [(5, vI ((h 51) (((n + 1) / 2) + (min k ((n / 2) - 1))))), (4, vI ((h 51) (((n + 1) / 2) + (max (k - 1) 0)))), (3, vI ((n + 1) / 2)), (0, vR 51), (1, vI k), (2, vI n)]) (by decide) rfl dX0_fourth_32 ?_
  refine TT_iload hK 1 rfl dX0_fourth_34 ?_
  refine TT_iload hK 0 rfl dX0_fourth_36 ?_
  refine TT_iadd hK dX0_fourth_38 ?_
  refine TT_iconst hK dX0_fourth_39 ?_
  refine TT_iadd hK dX0_fourth_40 ?_
  have b1 := hbd ((n + 1) / 2 + max (k - 1) 0) (by omega) (by omega)
  have b2 := hbd ((n + 1) / 2 + min k (n / 2 - 1)) (by omega) (by omega)
  refine TT_iconst hK dX0_fourth_41 ?_
  refine TT_ishr hK (irm (by omega) (by omega)) (by omega) (by omega) dX0_fourth_42 ?_
  refine TT_cgI (b := ((((h 51) (((n + 1) / 2) + (max (k - 1) 0))) + ((h 51) (((n + 1) / 2) + (min k ((n / 2) - 1))))) + 2) / 4) rfl ?_
  refine TT_iret hK hQ ?_ dX0_fourth_43
  exact ⟨congrArg (fun z => some (vI z)) (by rfl), rfl⟩
set_option maxRecDepth 20000 in
theorem c_readLine_8_8 (a n : Int) (h : Hp_) (ha : 0 ≤ a) (ha2 : a + 8 * (n - 1) ≤ 63) (hn : 1 ≤ n ∧ n ≤ 8) : Ctr yX0_readLine cX0_readLine 5 none (rmd 0) ly ly 0 0 [vR 8, vI a, vI 8, vI n] h (fun r h' => r = none ∧ h' = setO h 14 (fsr (h 14) 0 n (fun t => (h 9) (a + 8 * t)))) := by
  refine Ctr_of (by decide) (Nat.le_of_ble_eq_true rfl) ⟨Nat.le_refl _, Nat.le_refl _⟩ (fun K hK hQ _ => ?_)
  show TT K ly 0 0 0 [(0, vR 8), (1, vI a), (2, vI 8), (3, vI n)] [] h
  refine TT_iconst hK dX0_readLine_0 ?_
  refine TT_istore hK (lv' := [(4, vI 0), (0, vR 8), (1, vI a), (2, vI 8), (3, vI n)]) (by decide) rfl dX0_readLine_1 ?_
  have L3_1 : ∀ (k1 : Nat) (i : Int), (0 ≤ i) → (i ≤ n) → ((9 : Int) - i).toNat < k1 → TT K ly 0 0 3 [(0, vR 8), (1, vI a), (2, vI 8), (3, vI n), (4, vI i)] [] (setO h 14 (fsr (h 14) 0 i (fun t => (h 9) (a + 8 * t)))) := by
    intro k1
    induction k1 with
    | zero => intro i hi0 hi1 hk1; exact absurd hk1 (Nat.not_lt_zero _)
    | succ k1 ih1 =>
      intro i hi0 hi1 hk1
      refine TT_iload hK 4 rfl dX0_readLine_3 ?_
      refine TT_iload_n hK rfl 3 rfl dX0_readLine_5 ?_
      refine TT_icmp_ge hK (tgt := 33) (irm (by omega) (by omega)) (irm (by omega) (by omega)) dX0_readLine_6 (by decide) (fun hb6 => ?_) (fun hb6 => ?_)
      · refine TT_vret hK hQ ?_ dX0_readLine_33
        exact ⟨rfl, setO_cg rfl (by rw [show i = n by omega])⟩
      · refine TT_aload_n hK rfl 0 rfl dX0_readLine_9 ?_
        refine gf_X0_27 hK (by decide) rfl (q := 14) rfl rfl dX0_readLine_10 ?_
        refine TT_iload hK 4 rfl dX0_readLine_13 ?_
        refine TT_aload_n hK rfl 0 rfl dX0_readLine_15 ?_
        refine gf_X0_9 hK (by decide) rfl (q := 9) rfl rfl dX0_readLine_16 ?_
        refine TT_iload_n hK rfl 1 rfl dX0_readLine_19 ?_
        refine TT_iload hK 4 rfl dX0_readLine_20 ?_
        refine TT_iload_n hK rfl 2 rfl dX0_readLine_22 ?_
        refine TT_imul hK dX0_readLine_23 ?_
        refine TT_iadd hK dX0_readLine_24 ?_
        refine TT_iald hK (o := 9) (n := 64) (by decide) rfl (by first | omega | (simp [up, setR] <;> omega)) (by first | omega | (simp [up, setR] <;> omega)) (v := (h 9) (a + (i * 8))) (rd_ (sOf_ne _ _ (by decide)) rfl) dX0_readLine_25 ?_
        refine TT_iast hK (o := 14) (n := 8) (by decide) rfl (by first | omega | (simp [up, setR] <;> omega)) (by first | omega | (simp [up, setR] <;> omega)) dX0_readLine_26 ?_
        refine TT_hp (h' := setO h 14 (fup (fsr (h 14) 0 i (fun t => (h 9) (a + 8 * t))) i ((h 9) (a + (i * 8))))) (up_can (sOf_eq _ _ _) rfl (setO_same _ _ _ _)) ?_
        refine TT_iinc hK (v := i + 1) (lv' := [(4, vI (i + 1)), (0, vR 8), (1, vI a), (2, vI 8), (3, vI n)]) 4 rfl rfl (by decide) rfl dX0_readLine_27 ?_
        refine TT_goto hK (tgt := 3) dX0_readLine_30 (by decide) ?_
        refine TT_sub [1, 2, 3, 4, 0] rfl ?_
        refine TT_hp (h' := setO h 14 (fsr (h 14) 0 (i + 1) (fun t => (h 9) (a + 8 * t)))) (setO_cg rfl (by refine fsr_step _ (by omega) ?_; show h 9 _ = h 9 _; congr 1; omega)) ?_
        exact ih1 (i + 1) (by first | omega | (simp [up, setR] <;> omega)) (by first | omega | (simp [up, setR] <;> omega)) (by first | omega | (simp [up, setR] <;> omega))
  refine TT_sub [1, 2, 3, 4, 0] rfl ?_
  refine TT_hp (h' := setO h 14 (fsr (h 14) 0 0 (fun t => (h 9) (a + 8 * t)))) ((setO_new (by first | rfl | exact fsr_0 _ _ _)).trans (setO_cg rfl rfl)) ?_
  exact L3_1 ((((9 : Int) - 0).toNat) + 1) 0 (by first | omega | (simp [up, setR] <;> omega)) (by first | omega | (simp [up, setR] <;> omega)) (Nat.lt_succ_self _)
set_option maxRecDepth 20000 in
theorem c_writeLine_8_8 (a n : Int) (h : Hp_) (ha : 0 ≤ a) (ha2 : a + 8 * (n - 1) ≤ 63) (hn : 1 ≤ n ∧ n ≤ 8) : Ctr yX0_writeLine cX0_writeLine 5 none (rmd 0) ly ly 0 0 [vR 8, vI a, vI 8, vI n] h (fun r h' => r = none ∧ h' = setO h 9 (wrs (h 9) a 8 (h 15) n.toNat)) := by
  refine Ctr_of (by decide) (Nat.le_of_ble_eq_true rfl) ⟨Nat.le_refl _, Nat.le_refl _⟩ (fun K hK hQ _ => ?_)
  show TT K ly 0 0 0 [(0, vR 8), (1, vI a), (2, vI 8), (3, vI n)] [] h
  refine TT_iconst hK dX0_writeLine_0 ?_
  refine TT_istore hK (lv' := [(4, vI 0), (0, vR 8), (1, vI a), (2, vI 8), (3, vI n)]) (by decide) rfl dX0_writeLine_1 ?_
  have L3_1 : ∀ (k1 : Nat) (i : Int), (0 ≤ i) → (i ≤ n) → ((9 : Int) - i).toNat < k1 → TT K ly 0 0 3 [(0, vR 8), (1, vI a), (2, vI 8), (3, vI n), (4, vI i)] [] (setO h 9 (wrs (h 9) a 8 (h 15) i.toNat)) := by
    intro k1
    induction k1 with
    | zero => intro i hi0 hi1 hk1; exact absurd hk1 (Nat.not_lt_zero _)
    | succ k1 ih1 =>
      intro i hi0 hi1 hk1
      refine TT_iload hK 4 rfl dX0_writeLine_3 ?_
      refine TT_iload_n hK rfl 3 rfl dX0_writeLine_5 ?_
      refine TT_icmp_ge hK (tgt := 33) (irm (by omega) (by omega)) (irm (by omega) (by omega)) dX0_writeLine_6 (by decide) (fun hb6 => ?_) (fun hb6 => ?_)
      · refine TT_vret hK hQ ?_ dX0_writeLine_33
        exact ⟨rfl, setO_cg rfl (by rw [show i = n by omega])⟩
      · refine TT_aload_n hK rfl 0 rfl dX0_writeLine_9 ?_
        refine gf_X0_9 hK (by decide) rfl (q := 9) rfl rfl dX0_writeLine_10 ?_
        refine TT_iload_n hK rfl 1 rfl dX0_writeLine_13 ?_
        refine TT_iload hK 4 rfl dX0_writeLine_14 ?_
        refine TT_iload_n hK rfl 2 rfl dX0_writeLine_16 ?_
        refine TT_imul hK dX0_writeLine_17 ?_
        refine TT_iadd hK dX0_writeLine_18 ?_
        refine TT_aload_n hK rfl 0 rfl dX0_writeLine_19 ?_
        refine gf_X0_30 hK (by decide) rfl (q := 15) rfl rfl dX0_writeLine_20 ?_
        refine TT_iload hK 4 rfl dX0_writeLine_23 ?_
        refine TT_iald hK (o := 15) (n := 8) (by decide) rfl (by first | omega | (simp [up, setR] <;> omega)) (by first | omega | (simp [up, setR] <;> omega)) (v := (h 15) i) (rd_ (sOf_ne _ _ (by decide)) rfl) dX0_writeLine_25 ?_
        refine TT_iast hK (o := 9) (n := 64) (by decide) rfl (by first | omega | (simp [up, setR] <;> omega)) (by first | omega | (simp [up, setR] <;> omega)) dX0_writeLine_26 ?_
        refine TT_hp (h' := setO h 9 (fup (wrs (h 9) a 8 (h 15) i.toNat) (a + (i * 8)) ((h 15) i))) (up_can (sOf_eq _ _ _) rfl (setO_same _ _ _ _)) ?_
        refine TT_iinc hK (v := i + 1) (lv' := [(4, vI (i + 1)), (0, vR 8), (1, vI a), (2, vI 8), (3, vI n)]) 4 rfl rfl (by decide) rfl dX0_writeLine_27 ?_
        refine TT_goto hK (tgt := 3) dX0_writeLine_30 (by decide) ?_
        refine TT_sub [1, 2, 3, 4, 0] rfl ?_
        refine TT_hp (h' := setO h 9 (wrs (h 9) a 8 (h 15) (i + 1).toNat)) (setO_cg rfl (by rw [show a + i * 8 = a + 8 * i by omega]; exact wrs_step _ _ _ (by omega) rfl)) ?_
        exact ih1 (i + 1) (by first | omega | (simp [up, setR] <;> omega)) (by first | omega | (simp [up, setR] <;> omega)) (by first | omega | (simp [up, setR] <;> omega))
  refine TT_sub [1, 2, 3, 4, 0] rfl ?_
  refine TT_hp (h' := setO h 9 (wrs (h 9) a 8 (h 15) (0 : Int).toNat)) ((setO_new (by rfl)).trans (setO_cg rfl rfl)) ?_
  exact L3_1 ((((9 : Int) - 0).toNat) + 1) 0 (by first | omega | (simp [up, setR] <;> omega)) (by first | omega | (simp [up, setR] <;> omega)) (Nat.lt_succ_self _)
set_option maxRecDepth 20000 in
theorem c_readLine_8_1 (a n : Int) (h : Hp_) (ha : 0 ≤ a) (ha2 : a + 1 * (n - 1) ≤ 63) (hn : 1 ≤ n ∧ n ≤ 8) : Ctr yX0_readLine cX0_readLine 5 none (rmd 0) ly ly 0 0 [vR 8, vI a, vI 1, vI n] h (fun r h' => r = none ∧ h' = setO h 14 (fsr (h 14) 0 n (fun t => (h 9) (a + 1 * t)))) := by
  refine Ctr_of (by decide) (Nat.le_of_ble_eq_true rfl) ⟨Nat.le_refl _, Nat.le_refl _⟩ (fun K hK hQ _ => ?_)
  show TT K ly 0 0 0 [(0, vR 8), (1, vI a), (2, vI 1), (3, vI n)] [] h
  refine TT_iconst hK dX0_readLine_0 ?_
  refine TT_istore hK (lv' := [(4, vI 0), (0, vR 8), (1, vI a), (2, vI 1), (3, vI n)]) (by decide) rfl dX0_readLine_1 ?_
  have L3_1 : ∀ (k1 : Nat) (i : Int), (0 ≤ i) → (i ≤ n) → ((9 : Int) - i).toNat < k1 → TT K ly 0 0 3 [(0, vR 8), (1, vI a), (2, vI 1), (3, vI n), (4, vI i)] [] (setO h 14 (fsr (h 14) 0 i (fun t => (h 9) (a + 1 * t)))) := by
    intro k1
    induction k1 with
    | zero => intro i hi0 hi1 hk1; exact absurd hk1 (Nat.not_lt_zero _)
    | succ k1 ih1 =>
      intro i hi0 hi1 hk1
      refine TT_iload hK 4 rfl dX0_readLine_3 ?_
      refine TT_iload_n hK rfl 3 rfl dX0_readLine_5 ?_
      refine TT_icmp_ge hK (tgt := 33) (irm (by omega) (by omega)) (irm (by omega) (by omega)) dX0_readLine_6 (by decide) (fun hb6 => ?_) (fun hb6 => ?_)
      · refine TT_vret hK hQ ?_ dX0_readLine_33
        exact ⟨rfl, setO_cg rfl (by rw [show i = n by omega])⟩
      · refine TT_aload_n hK rfl 0 rfl dX0_readLine_9 ?_
        refine gf_X0_27 hK (by decide) rfl (q := 14) rfl rfl dX0_readLine_10 ?_
        refine TT_iload hK 4 rfl dX0_readLine_13 ?_
        refine TT_aload_n hK rfl 0 rfl dX0_readLine_15 ?_
        refine gf_X0_9 hK (by decide) rfl (q := 9) rfl rfl dX0_readLine_16 ?_
        refine TT_iload_n hK rfl 1 rfl dX0_readLine_19 ?_
        refine TT_iload hK 4 rfl dX0_readLine_20 ?_
        refine TT_iload_n hK rfl 2 rfl dX0_readLine_22 ?_
        refine TT_imul hK dX0_readLine_23 ?_
        refine TT_iadd hK dX0_readLine_24 ?_
        refine TT_iald hK (o := 9) (n := 64) (by decide) rfl (by first | omega | (simp [up, setR] <;> omega)) (by first | omega | (simp [up, setR] <;> omega)) (v := (h 9) (a + (i * 1))) (rd_ (sOf_ne _ _ (by decide)) rfl) dX0_readLine_25 ?_
        refine TT_iast hK (o := 14) (n := 8) (by decide) rfl (by first | omega | (simp [up, setR] <;> omega)) (by first | omega | (simp [up, setR] <;> omega)) dX0_readLine_26 ?_
        refine TT_hp (h' := setO h 14 (fup (fsr (h 14) 0 i (fun t => (h 9) (a + 1 * t))) i ((h 9) (a + (i * 1))))) (up_can (sOf_eq _ _ _) rfl (setO_same _ _ _ _)) ?_
        refine TT_iinc hK (v := i + 1) (lv' := [(4, vI (i + 1)), (0, vR 8), (1, vI a), (2, vI 1), (3, vI n)]) 4 rfl rfl (by decide) rfl dX0_readLine_27 ?_
        refine TT_goto hK (tgt := 3) dX0_readLine_30 (by decide) ?_
        refine TT_sub [1, 2, 3, 4, 0] rfl ?_
        refine TT_hp (h' := setO h 14 (fsr (h 14) 0 (i + 1) (fun t => (h 9) (a + 1 * t)))) (setO_cg rfl (by refine fsr_step _ (by omega) ?_; show h 9 _ = h 9 _; congr 1; omega)) ?_
        exact ih1 (i + 1) (by first | omega | (simp [up, setR] <;> omega)) (by first | omega | (simp [up, setR] <;> omega)) (by first | omega | (simp [up, setR] <;> omega))
  refine TT_sub [1, 2, 3, 4, 0] rfl ?_
  refine TT_hp (h' := setO h 14 (fsr (h 14) 0 0 (fun t => (h 9) (a + 1 * t)))) ((setO_new (by first | rfl | exact fsr_0 _ _ _)).trans (setO_cg rfl rfl)) ?_
  exact L3_1 ((((9 : Int) - 0).toNat) + 1) 0 (by first | omega | (simp [up, setR] <;> omega)) (by first | omega | (simp [up, setR] <;> omega)) (Nat.lt_succ_self _)
set_option maxRecDepth 20000 in
theorem c_writeLine_8_1 (a n : Int) (h : Hp_) (ha : 0 ≤ a) (ha2 : a + 1 * (n - 1) ≤ 63) (hn : 1 ≤ n ∧ n ≤ 8) : Ctr yX0_writeLine cX0_writeLine 5 none (rmd 0) ly ly 0 0 [vR 8, vI a, vI 1, vI n] h (fun r h' => r = none ∧ h' = setO h 9 (wrs (h 9) a 1 (h 15) n.toNat)) := by
  refine Ctr_of (by decide) (Nat.le_of_ble_eq_true rfl) ⟨Nat.le_refl _, Nat.le_refl _⟩ (fun K hK hQ _ => ?_)
  show TT K ly 0 0 0 [(0, vR 8), (1, vI a), (2, vI 1), (3, vI n)] [] h
  refine TT_iconst hK dX0_writeLine_0 ?_
  refine TT_istore hK (lv' := [(4, vI 0), (0, vR 8), (1, vI a), (2, vI 1), (3, vI n)]) (by decide) rfl dX0_writeLine_1 ?_
  have L3_1 : ∀ (k1 : Nat) (i : Int), (0 ≤ i) → (i ≤ n) → ((9 : Int) - i).toNat < k1 → TT K ly 0 0 3 [(0, vR 8), (1, vI a), (2, vI 1), (3, vI n), (4, vI i)] [] (setO h 9 (wrs (h 9) a 1 (h 15) i.toNat)) := by
    intro k1
    induction k1 with
    | zero => intro i hi0 hi1 hk1; exact absurd hk1 (Nat.not_lt_zero _)
    | succ k1 ih1 =>
      intro i hi0 hi1 hk1
      refine TT_iload hK 4 rfl dX0_writeLine_3 ?_
      refine TT_iload_n hK rfl 3 rfl dX0_writeLine_5 ?_
      refine TT_icmp_ge hK (tgt := 33) (irm (by omega) (by omega)) (irm (by omega) (by omega)) dX0_writeLine_6 (by decide) (fun hb6 => ?_) (fun hb6 => ?_)
      · refine TT_vret hK hQ ?_ dX0_writeLine_33
        exact ⟨rfl, setO_cg rfl (by rw [show i = n by omega])⟩
      · refine TT_aload_n hK rfl 0 rfl dX0_writeLine_9 ?_
        refine gf_X0_9 hK (by decide) rfl (q := 9) rfl rfl dX0_writeLine_10 ?_
        refine TT_iload_n hK rfl 1 rfl dX0_writeLine_13 ?_
        refine TT_iload hK 4 rfl dX0_writeLine_14 ?_
        refine TT_iload_n hK rfl 2 rfl dX0_writeLine_16 ?_
        refine TT_imul hK dX0_writeLine_17 ?_
        refine TT_iadd hK dX0_writeLine_18 ?_
        refine TT_aload_n hK rfl 0 rfl dX0_writeLine_19 ?_
        refine gf_X0_30 hK (by decide) rfl (q := 15) rfl rfl dX0_writeLine_20 ?_
        refine TT_iload hK 4 rfl dX0_writeLine_23 ?_
        refine TT_iald hK (o := 15) (n := 8) (by decide) rfl (by first | omega | (simp [up, setR] <;> omega)) (by first | omega | (simp [up, setR] <;> omega)) (v := (h 15) i) (rd_ (sOf_ne _ _ (by decide)) rfl) dX0_writeLine_25 ?_
        refine TT_iast hK (o := 9) (n := 64) (by decide) rfl (by first | omega | (simp [up, setR] <;> omega)) (by first | omega | (simp [up, setR] <;> omega)) dX0_writeLine_26 ?_
        refine TT_hp (h' := setO h 9 (fup (wrs (h 9) a 1 (h 15) i.toNat) (a + (i * 1)) ((h 15) i))) (up_can (sOf_eq _ _ _) rfl (setO_same _ _ _ _)) ?_
        refine TT_iinc hK (v := i + 1) (lv' := [(4, vI (i + 1)), (0, vR 8), (1, vI a), (2, vI 1), (3, vI n)]) 4 rfl rfl (by decide) rfl dX0_writeLine_27 ?_
        refine TT_goto hK (tgt := 3) dX0_writeLine_30 (by decide) ?_
        refine TT_sub [1, 2, 3, 4, 0] rfl ?_
        refine TT_hp (h' := setO h 9 (wrs (h 9) a 1 (h 15) (i + 1).toNat)) (setO_cg rfl (by rw [show a + i * 1 = a + 1 * i by omega]; exact wrs_step _ _ _ (by omega) rfl)) ?_
        exact ih1 (i + 1) (by first | omega | (simp [up, setR] <;> omega)) (by first | omega | (simp [up, setR] <;> omega)) (by first | omega | (simp [up, setR] <;> omega))
  refine TT_sub [1, 2, 3, 4, 0] rfl ?_
  refine TT_hp (h' := setO h 9 (wrs (h 9) a 1 (h 15) (0 : Int).toNat)) ((setO_new (by rfl)).trans (setO_cg rfl rfl)) ?_
  exact L3_1 ((((9 : Int) - 0).toNat) + 1) 0 (by first | omega | (simp [up, setR] <;> omega)) (by first | omega | (simp [up, setR] <;> omega)) (Nat.lt_succ_self _)
set_option maxRecDepth 20000 in
theorem c_readLine_45_8 (a n : Int) (h : Hp_) (ha : 0 ≤ a) (ha2 : a + 8 * (n - 1) ≤ 63) (hn : 1 ≤ n ∧ n ≤ 8) : Ctr yX0_readLine cX0_readLine 5 none (rmd 0) ly ly 0 0 [vR 45, vI a, vI 8, vI n] h (fun r h' => r = none ∧ h' = setO h 51 (fsr (h 51) 0 n (fun t => (h 46) (a + 8 * t)))) := by
  refine Ctr_of (by decide) (Nat.le_of_ble_eq_true rfl) ⟨Nat.le_refl _, Nat.le_refl _⟩ (fun K hK hQ _ => ?_)
  show TT K ly 0 0 0 [(0, vR 45), (1, vI a), (2, vI 8), (3, vI n)] [] h
  refine TT_iconst hK dX0_readLine_0 ?_
  refine TT_istore hK (lv' := [(4, vI 0), (0, vR 45), (1, vI a), (2, vI 8), (3, vI n)]) (by decide) rfl dX0_readLine_1 ?_
  have L3_1 : ∀ (k1 : Nat) (i : Int), (0 ≤ i) → (i ≤ n) → ((9 : Int) - i).toNat < k1 → TT K ly 0 0 3 [(0, vR 45), (1, vI a), (2, vI 8), (3, vI n), (4, vI i)] [] (setO h 51 (fsr (h 51) 0 i (fun t => (h 46) (a + 8 * t)))) := by
    intro k1
    induction k1 with
    | zero => intro i hi0 hi1 hk1; exact absurd hk1 (Nat.not_lt_zero _)
    | succ k1 ih1 =>
      intro i hi0 hi1 hk1
      refine TT_iload hK 4 rfl dX0_readLine_3 ?_
      refine TT_iload_n hK rfl 3 rfl dX0_readLine_5 ?_
      refine TT_icmp_ge hK (tgt := 33) (irm (by omega) (by omega)) (irm (by omega) (by omega)) dX0_readLine_6 (by decide) (fun hb6 => ?_) (fun hb6 => ?_)
      · refine TT_vret hK hQ ?_ dX0_readLine_33
        exact ⟨rfl, setO_cg rfl (by rw [show i = n by omega])⟩
      · refine TT_aload_n hK rfl 0 rfl dX0_readLine_9 ?_
        refine gf_X0_27 hK (by decide) rfl (q := 51) rfl rfl dX0_readLine_10 ?_
        refine TT_iload hK 4 rfl dX0_readLine_13 ?_
        refine TT_aload_n hK rfl 0 rfl dX0_readLine_15 ?_
        refine gf_X0_9 hK (by decide) rfl (q := 46) rfl rfl dX0_readLine_16 ?_
        refine TT_iload_n hK rfl 1 rfl dX0_readLine_19 ?_
        refine TT_iload hK 4 rfl dX0_readLine_20 ?_
        refine TT_iload_n hK rfl 2 rfl dX0_readLine_22 ?_
        refine TT_imul hK dX0_readLine_23 ?_
        refine TT_iadd hK dX0_readLine_24 ?_
        refine TT_iald hK (o := 46) (n := 64) (by decide) rfl (by first | omega | (simp [up, setR] <;> omega)) (by first | omega | (simp [up, setR] <;> omega)) (v := (h 46) (a + (i * 8))) (rd_ (sOf_ne _ _ (by decide)) rfl) dX0_readLine_25 ?_
        refine TT_iast hK (o := 51) (n := 8) (by decide) rfl (by first | omega | (simp [up, setR] <;> omega)) (by first | omega | (simp [up, setR] <;> omega)) dX0_readLine_26 ?_
        refine TT_hp (h' := setO h 51 (fup (fsr (h 51) 0 i (fun t => (h 46) (a + 8 * t))) i ((h 46) (a + (i * 8))))) (up_can (sOf_eq _ _ _) rfl (setO_same _ _ _ _)) ?_
        refine TT_iinc hK (v := i + 1) (lv' := [(4, vI (i + 1)), (0, vR 45), (1, vI a), (2, vI 8), (3, vI n)]) 4 rfl rfl (by decide) rfl dX0_readLine_27 ?_
        refine TT_goto hK (tgt := 3) dX0_readLine_30 (by decide) ?_
        refine TT_sub [1, 2, 3, 4, 0] rfl ?_
        refine TT_hp (h' := setO h 51 (fsr (h 51) 0 (i + 1) (fun t => (h 46) (a + 8 * t)))) (setO_cg rfl (by refine fsr_step _ (by omega) ?_; show h 46 _ = h 46 _; congr 1; omega)) ?_
        exact ih1 (i + 1) (by first | omega | (simp [up, setR] <;> omega)) (by first | omega | (simp [up, setR] <;> omega)) (by first | omega | (simp [up, setR] <;> omega))
  refine TT_sub [1, 2, 3, 4, 0] rfl ?_
  refine TT_hp (h' := setO h 51 (fsr (h 51) 0 0 (fun t => (h 46) (a + 8 * t)))) ((setO_new (by first | rfl | exact fsr_0 _ _ _)).trans (setO_cg rfl rfl)) ?_
  exact L3_1 ((((9 : Int) - 0).toNat) + 1) 0 (by first | omega | (simp [up, setR] <;> omega)) (by first | omega | (simp [up, setR] <;> omega)) (Nat.lt_succ_self _)
set_option maxRecDepth 20000 in
theorem c_writeLine_45_8 (a n : Int) (h : Hp_) (ha : 0 ≤ a) (ha2 : a + 8 * (n - 1) ≤ 63) (hn : 1 ≤ n ∧ n ≤ 8) : Ctr yX0_writeLine cX0_writeLine 5 none (rmd 0) ly ly 0 0 [vR 45, vI a, vI 8, vI n] h (fun r h' => r = none ∧ h' = setO h 46 (wrs (h 46) a 8 (h 52) n.toNat)) := by
  refine Ctr_of (by decide) (Nat.le_of_ble_eq_true rfl) ⟨Nat.le_refl _, Nat.le_refl _⟩ (fun K hK hQ _ => ?_)
  show TT K ly 0 0 0 [(0, vR 45), (1, vI a), (2, vI 8), (3, vI n)] [] h
  refine TT_iconst hK dX0_writeLine_0 ?_
  refine TT_istore hK (lv' := [(4, vI 0), (0, vR 45), (1, vI a), (2, vI 8), (3, vI n)]) (by decide) rfl dX0_writeLine_1 ?_
  have L3_1 : ∀ (k1 : Nat) (i : Int), (0 ≤ i) → (i ≤ n) → ((9 : Int) - i).toNat < k1 → TT K ly 0 0 3 [(0, vR 45), (1, vI a), (2, vI 8), (3, vI n), (4, vI i)] [] (setO h 46 (wrs (h 46) a 8 (h 52) i.toNat)) := by
    intro k1
    induction k1 with
    | zero => intro i hi0 hi1 hk1; exact absurd hk1 (Nat.not_lt_zero _)
    | succ k1 ih1 =>
      intro i hi0 hi1 hk1
      refine TT_iload hK 4 rfl dX0_writeLine_3 ?_
      refine TT_iload_n hK rfl 3 rfl dX0_writeLine_5 ?_
      refine TT_icmp_ge hK (tgt := 33) (irm (by omega) (by omega)) (irm (by omega) (by omega)) dX0_writeLine_6 (by decide) (fun hb6 => ?_) (fun hb6 => ?_)
      · refine TT_vret hK hQ ?_ dX0_writeLine_33
        exact ⟨rfl, setO_cg rfl (by rw [show i = n by omega])⟩
      · refine TT_aload_n hK rfl 0 rfl dX0_writeLine_9 ?_
        refine gf_X0_9 hK (by decide) rfl (q := 46) rfl rfl dX0_writeLine_10 ?_
        refine TT_iload_n hK rfl 1 rfl dX0_writeLine_13 ?_
        refine TT_iload hK 4 rfl dX0_writeLine_14 ?_
        refine TT_iload_n hK rfl 2 rfl dX0_writeLine_16 ?_
        refine TT_imul hK dX0_writeLine_17 ?_
        refine TT_iadd hK dX0_writeLine_18 ?_
        refine TT_aload_n hK rfl 0 rfl dX0_writeLine_19 ?_
        refine gf_X0_30 hK (by decide) rfl (q := 52) rfl rfl dX0_writeLine_20 ?_
        refine TT_iload hK 4 rfl dX0_writeLine_23 ?_
        refine TT_iald hK (o := 52) (n := 8) (by decide) rfl (by first | omega | (simp [up, setR] <;> omega)) (by first | omega | (simp [up, setR] <;> omega)) (v := (h 52) i) (rd_ (sOf_ne _ _ (by decide)) rfl) dX0_writeLine_25 ?_
        refine TT_iast hK (o := 46) (n := 64) (by decide) rfl (by first | omega | (simp [up, setR] <;> omega)) (by first | omega | (simp [up, setR] <;> omega)) dX0_writeLine_26 ?_
        refine TT_hp (h' := setO h 46 (fup (wrs (h 46) a 8 (h 52) i.toNat) (a + (i * 8)) ((h 52) i))) (up_can (sOf_eq _ _ _) rfl (setO_same _ _ _ _)) ?_
        refine TT_iinc hK (v := i + 1) (lv' := [(4, vI (i + 1)), (0, vR 45), (1, vI a), (2, vI 8), (3, vI n)]) 4 rfl rfl (by decide) rfl dX0_writeLine_27 ?_
        refine TT_goto hK (tgt := 3) dX0_writeLine_30 (by decide) ?_
        refine TT_sub [1, 2, 3, 4, 0] rfl ?_
        refine TT_hp (h' := setO h 46 (wrs (h 46) a 8 (h 52) (i + 1).toNat)) (setO_cg rfl (by rw [show a + i * 8 = a + 8 * i by omega]; exact wrs_step _ _ _ (by omega) rfl)) ?_
        exact ih1 (i + 1) (by first | omega | (simp [up, setR] <;> omega)) (by first | omega | (simp [up, setR] <;> omega)) (by first | omega | (simp [up, setR] <;> omega))
  refine TT_sub [1, 2, 3, 4, 0] rfl ?_
  refine TT_hp (h' := setO h 46 (wrs (h 46) a 8 (h 52) (0 : Int).toNat)) ((setO_new (by rfl)).trans (setO_cg rfl rfl)) ?_
  exact L3_1 ((((9 : Int) - 0).toNat) + 1) 0 (by first | omega | (simp [up, setR] <;> omega)) (by first | omega | (simp [up, setR] <;> omega)) (Nat.lt_succ_self _)
set_option maxRecDepth 20000 in
theorem c_readLine_45_1 (a n : Int) (h : Hp_) (ha : 0 ≤ a) (ha2 : a + 1 * (n - 1) ≤ 63) (hn : 1 ≤ n ∧ n ≤ 8) : Ctr yX0_readLine cX0_readLine 5 none (rmd 0) ly ly 0 0 [vR 45, vI a, vI 1, vI n] h (fun r h' => r = none ∧ h' = setO h 51 (fsr (h 51) 0 n (fun t => (h 46) (a + 1 * t)))) := by
  refine Ctr_of (by decide) (Nat.le_of_ble_eq_true rfl) ⟨Nat.le_refl _, Nat.le_refl _⟩ (fun K hK hQ _ => ?_)
  show TT K ly 0 0 0 [(0, vR 45), (1, vI a), (2, vI 1), (3, vI n)] [] h
  refine TT_iconst hK dX0_readLine_0 ?_
  refine TT_istore hK (lv' := [(4, vI 0), (0, vR 45), (1, vI a), (2, vI 1), (3, vI n)]) (by decide) rfl dX0_readLine_1 ?_
  have L3_1 : ∀ (k1 : Nat) (i : Int), (0 ≤ i) → (i ≤ n) → ((9 : Int) - i).toNat < k1 → TT K ly 0 0 3 [(0, vR 45), (1, vI a), (2, vI 1), (3, vI n), (4, vI i)] [] (setO h 51 (fsr (h 51) 0 i (fun t => (h 46) (a + 1 * t)))) := by
    intro k1
    induction k1 with
    | zero => intro i hi0 hi1 hk1; exact absurd hk1 (Nat.not_lt_zero _)
    | succ k1 ih1 =>
      intro i hi0 hi1 hk1
      refine TT_iload hK 4 rfl dX0_readLine_3 ?_
      refine TT_iload_n hK rfl 3 rfl dX0_readLine_5 ?_
      refine TT_icmp_ge hK (tgt := 33) (irm (by omega) (by omega)) (irm (by omega) (by omega)) dX0_readLine_6 (by decide) (fun hb6 => ?_) (fun hb6 => ?_)
      · refine TT_vret hK hQ ?_ dX0_readLine_33
        exact ⟨rfl, setO_cg rfl (by rw [show i = n by omega])⟩
      · refine TT_aload_n hK rfl 0 rfl dX0_readLine_9 ?_
        refine gf_X0_27 hK (by decide) rfl (q := 51) rfl rfl dX0_readLine_10 ?_
        refine TT_iload hK 4 rfl dX0_readLine_13 ?_
        refine TT_aload_n hK rfl 0 rfl dX0_readLine_15 ?_
        refine gf_X0_9 hK (by decide) rfl (q := 46) rfl rfl dX0_readLine_16 ?_
        refine TT_iload_n hK rfl 1 rfl dX0_readLine_19 ?_
        refine TT_iload hK 4 rfl dX0_readLine_20 ?_
        refine TT_iload_n hK rfl 2 rfl dX0_readLine_22 ?_
        refine TT_imul hK dX0_readLine_23 ?_
        refine TT_iadd hK dX0_readLine_24 ?_
        refine TT_iald hK (o := 46) (n := 64) (by decide) rfl (by first | omega | (simp [up, setR] <;> omega)) (by first | omega | (simp [up, setR] <;> omega)) (v := (h 46) (a + (i * 1))) (rd_ (sOf_ne _ _ (by decide)) rfl) dX0_readLine_25 ?_
        refine TT_iast hK (o := 51) (n := 8) (by decide) rfl (by first | omega | (simp [up, setR] <;> omega)) (by first | omega | (simp [up, setR] <;> omega)) dX0_readLine_26 ?_
        refine TT_hp (h' := setO h 51 (fup (fsr (h 51) 0 i (fun t => (h 46) (a + 1 * t))) i ((h 46) (a + (i * 1))))) (up_can (sOf_eq _ _ _) rfl (setO_same _ _ _ _)) ?_
        refine TT_iinc hK (v := i + 1) (lv' := [(4, vI (i + 1)), (0, vR 45), (1, vI a), (2, vI 1), (3, vI n)]) 4 rfl rfl (by decide) rfl dX0_readLine_27 ?_
        refine TT_goto hK (tgt := 3) dX0_readLine_30 (by decide) ?_
        refine TT_sub [1, 2, 3, 4, 0] rfl ?_
        refine TT_hp (h' := setO h 51 (fsr (h 51) 0 (i + 1) (fun t => (h 46) (a + 1 * t)))) (setO_cg rfl (by refine fsr_step _ (by omega) ?_; show h 46 _ = h 46 _; congr 1; omega)) ?_
        exact ih1 (i + 1) (by first | omega | (simp [up, setR] <;> omega)) (by first | omega | (simp [up, setR] <;> omega)) (by first | omega | (simp [up, setR] <;> omega))
  refine TT_sub [1, 2, 3, 4, 0] rfl ?_
  refine TT_hp (h' := setO h 51 (fsr (h 51) 0 0 (fun t => (h 46) (a + 1 * t)))) ((setO_new (by first | rfl | exact fsr_0 _ _ _)).trans (setO_cg rfl rfl)) ?_
  exact L3_1 ((((9 : Int) - 0).toNat) + 1) 0 (by first | omega | (simp [up, setR] <;> omega)) (by first | omega | (simp [up, setR] <;> omega)) (Nat.lt_succ_self _)
set_option maxRecDepth 20000 in
theorem c_writeLine_45_1 (a n : Int) (h : Hp_) (ha : 0 ≤ a) (ha2 : a + 1 * (n - 1) ≤ 63) (hn : 1 ≤ n ∧ n ≤ 8) : Ctr yX0_writeLine cX0_writeLine 5 none (rmd 0) ly ly 0 0 [vR 45, vI a, vI 1, vI n] h (fun r h' => r = none ∧ h' = setO h 46 (wrs (h 46) a 1 (h 52) n.toNat)) := by
  refine Ctr_of (by decide) (Nat.le_of_ble_eq_true rfl) ⟨Nat.le_refl _, Nat.le_refl _⟩ (fun K hK hQ _ => ?_)
  show TT K ly 0 0 0 [(0, vR 45), (1, vI a), (2, vI 1), (3, vI n)] [] h
  refine TT_iconst hK dX0_writeLine_0 ?_
  refine TT_istore hK (lv' := [(4, vI 0), (0, vR 45), (1, vI a), (2, vI 1), (3, vI n)]) (by decide) rfl dX0_writeLine_1 ?_
  have L3_1 : ∀ (k1 : Nat) (i : Int), (0 ≤ i) → (i ≤ n) → ((9 : Int) - i).toNat < k1 → TT K ly 0 0 3 [(0, vR 45), (1, vI a), (2, vI 1), (3, vI n), (4, vI i)] [] (setO h 46 (wrs (h 46) a 1 (h 52) i.toNat)) := by
    intro k1
    induction k1 with
    | zero => intro i hi0 hi1 hk1; exact absurd hk1 (Nat.not_lt_zero _)
    | succ k1 ih1 =>
      intro i hi0 hi1 hk1
      refine TT_iload hK 4 rfl dX0_writeLine_3 ?_
      refine TT_iload_n hK rfl 3 rfl dX0_writeLine_5 ?_
      refine TT_icmp_ge hK (tgt := 33) (irm (by omega) (by omega)) (irm (by omega) (by omega)) dX0_writeLine_6 (by decide) (fun hb6 => ?_) (fun hb6 => ?_)
      · refine TT_vret hK hQ ?_ dX0_writeLine_33
        exact ⟨rfl, setO_cg rfl (by rw [show i = n by omega])⟩
      · refine TT_aload_n hK rfl 0 rfl dX0_writeLine_9 ?_
        refine gf_X0_9 hK (by decide) rfl (q := 46) rfl rfl dX0_writeLine_10 ?_
        refine TT_iload_n hK rfl 1 rfl dX0_writeLine_13 ?_
        refine TT_iload hK 4 rfl dX0_writeLine_14 ?_
        refine TT_iload_n hK rfl 2 rfl dX0_writeLine_16 ?_
        refine TT_imul hK dX0_writeLine_17 ?_
        refine TT_iadd hK dX0_writeLine_18 ?_
        refine TT_aload_n hK rfl 0 rfl dX0_writeLine_19 ?_
        refine gf_X0_30 hK (by decide) rfl (q := 52) rfl rfl dX0_writeLine_20 ?_
        refine TT_iload hK 4 rfl dX0_writeLine_23 ?_
        refine TT_iald hK (o := 52) (n := 8) (by decide) rfl (by first | omega | (simp [up, setR] <;> omega)) (by first | omega | (simp [up, setR] <;> omega)) (v := (h 52) i) (rd_ (sOf_ne _ _ (by decide)) rfl) dX0_writeLine_25 ?_
        refine TT_iast hK (o := 46) (n := 64) (by decide) rfl (by first | omega | (simp [up, setR] <;> omega)) (by first | omega | (simp [up, setR] <;> omega)) dX0_writeLine_26 ?_
        refine TT_hp (h' := setO h 46 (fup (wrs (h 46) a 1 (h 52) i.toNat) (a + (i * 1)) ((h 52) i))) (up_can (sOf_eq _ _ _) rfl (setO_same _ _ _ _)) ?_
        refine TT_iinc hK (v := i + 1) (lv' := [(4, vI (i + 1)), (0, vR 45), (1, vI a), (2, vI 1), (3, vI n)]) 4 rfl rfl (by decide) rfl dX0_writeLine_27 ?_
        refine TT_goto hK (tgt := 3) dX0_writeLine_30 (by decide) ?_
        refine TT_sub [1, 2, 3, 4, 0] rfl ?_
        refine TT_hp (h' := setO h 46 (wrs (h 46) a 1 (h 52) (i + 1).toNat)) (setO_cg rfl (by rw [show a + i * 1 = a + 1 * i by omega]; exact wrs_step _ _ _ (by omega) rfl)) ?_
        exact ih1 (i + 1) (by first | omega | (simp [up, setR] <;> omega)) (by first | omega | (simp [up, setR] <;> omega)) (by first | omega | (simp [up, setR] <;> omega))
  refine TT_sub [1, 2, 3, 4, 0] rfl ?_
  refine TT_hp (h' := setO h 46 (wrs (h 46) a 1 (h 52) (0 : Int).toNat)) ((setO_new (by rfl)).trans (setO_cg rfl rfl)) ?_
  exact L3_1 ((((9 : Int) - 0).toNat) + 1) 0 (by first | omega | (simp [up, setR] <;> omega)) (by first | omega | (simp [up, setR] <;> omega)) (Nat.lt_succ_self _)
set_option maxRecDepth 20000 in
theorem c_splitLine_8_8 (a n B : Int) (h : Hp_) (ha : 0 ≤ a) (ha2 : a + 8 * (n - 1) ≤ 63) (hn : 1 ≤ n ∧ n ≤ 8) (hbd : bdr (fun t => (h 9) (a + 8 * t)) n B) (hB : 0 ≤ B ∧ B ≤ 100000000) : Ctr yX0_splitLine cX0_splitLine 7 none (rmd 2) ly ly 0 0 [vR 8, vI a, vI 8, vI n] h (fun r h' => ∃ j14 : Int → Int, ∃ j15 : Int → Int, r = none ∧ h' = setO (setO (setO h 9 (wrs (h 9) a 8 (fw (fun t => (h 9) (a + 8 * t)) n) n.toNat)) 14 j14) 15 j15) := by
  refine Ctr_of (by decide) (Nat.le_of_ble_eq_true rfl) ⟨Nat.le_refl _, Nat.le_refl _⟩ (fun K hK hQ _ => ?_)
  show TT K ly 0 0 0 [(0, vR 8), (1, vI a), (2, vI 8), (3, vI n)] [] h
  refine TT_iload_n hK rfl 3 rfl dX0_splitLine_0 ?_
  refine TT_iconst hK dX0_splitLine_1 ?_
  refine TT_icmp_ge hK (tgt := 6) (irm (by omega) (by omega)) (by decide) dX0_splitLine_2 (by decide) (fun hb2 => ?_) (fun hb2 => ?_)
  · refine TT_aload_n hK rfl 0 rfl dX0_splitLine_6 ?_
    refine TT_iload_n hK rfl 1 rfl dX0_splitLine_7 ?_
    refine TT_iload_n hK rfl 2 rfl dX0_splitLine_8 ?_
    refine TT_iload_n hK rfl 3 rfl dX0_splitLine_9 ?_
    refine iv_X0_90 hK (c_readLine_8_8 a n h (by first | omega | (simp [up, setR] <;> omega)) (by first | omega | (simp [up, setR] <;> omega)) (by first | omega | (simp [up, setR] <;> omega))) (by decide) rfl ⟨by decide, by decide⟩ (by decide) rfl rfl (Nat.le_of_ble_eq_true rfl) ⟨by decide, by decide⟩ dX0_splitLine_10 ?_
    intro r9 h9 hp9
    rw [hp9.1, hp9.2]
    show TT K ly 0 0 13 [(0, vR 8), (1, vI a), (2, vI 8), (3, vI n)] [] (setO h 14 (fsr (h 14) 0 n (fun t => (h 9) (a + 8 * t))))
    refine TT_iload_n hK rfl 3 rfl dX0_splitLine_13 ?_
    refine TT_iconst hK dX0_splitLine_14 ?_
    refine TT_iadd hK dX0_splitLine_15 ?_
    refine TT_iconst hK dX0_splitLine_16 ?_
    refine TT_idivn hK (irm (by omega) (by omega)) (by decide) (by first | omega | (simp [up, setR] <;> omega)) (by first | omega | (simp [up, setR] <;> omega)) dX0_splitLine_17 ?_
    refine TT_istore hK (lv' := [(4, vI ((n + 1) / 2)), (0, vR 8), (1, vI a), (2, vI 8), (3, vI n)]) (by decide) rfl dX0_splitLine_18 ?_
    refine TT_iconst hK dX0_splitLine_20 ?_
    refine TT_istore hK (lv' := [(5, vI 0), (4, vI ((n + 1) / 2)), (0, vR 8), (1, vI a), (2, vI 8), (3, vI n)]) (by decide) rfl dX0_splitLine_21 ?_
    have L23_2 : ∀ (k2 : Nat) (k : Int), (0 ≤ k) → (k ≤ n / 2) → ((9 : Int) - k).toNat < k2 → TT K ly 0 0 23 [(0, vR 8), (1, vI a), (2, vI 8), (3, vI n), (4, vI ((n + 1) / 2)), (5, vI k)] [] (setO (setO h 14 (fsr (h 14) 0 n (fun t => (h 9) (a + 8 * t)))) 15 (fsr (h 15) ((n + 1) / 2) ((n + 1) / 2 + k) (fun j => dl (fun t => (h 9) (a + 8 * t)) n (j - (n + 1) / 2)))) := by
      intro k2
      induction k2 with
      | zero => intro k hk0 hk1 hk2; exact absurd hk2 (Nat.not_lt_zero _)
      | succ k2 ih2 =>
        intro k hk0 hk1 hk2
        refine TT_iload hK 5 rfl dX0_splitLine_23 ?_
        refine TT_iload_n hK rfl 3 rfl dX0_splitLine_25 ?_
        refine TT_iconst hK dX0_splitLine_26 ?_
        refine TT_idivn hK (irm (by omega) (by omega)) (by decide) (by first | omega | (simp [up, setR] <;> omega)) (by first | omega | (simp [up, setR] <;> omega)) dX0_splitLine_27 ?_
        refine TT_icmp_ge hK (tgt := 108) (irm (by omega) (by omega)) (irm (by omega) (by omega)) dX0_splitLine_28 (by decide) (fun hb28 => ?_) (fun hb28 => ?_)
        · refine TT_iconst hK dX0_splitLine_108 ?_
          refine TT_istore hK (lv' := [(5, vI 0), (0, vR 8), (1, vI a), (2, vI 8), (3, vI n), (4, vI ((n + 1) / 2))]) (by decide) rfl dX0_splitLine_109 ?_
          have L111_4 : ∀ (k4 : Nat) (m : Int), (0 ≤ m) → (m ≤ (n + 1) / 2) → ((9 : Int) - m).toNat < k4 → TT K ly 0 0 111 [(0, vR 8), (1, vI a), (2, vI 8), (3, vI n), (4, vI ((n + 1) / 2)), (5, vI m)] [] (setO (setO h 14 (fsr (h 14) 0 n (fun t => (h 9) (a + 8 * t)))) 15 (fsr (fsr (h 15) ((n + 1) / 2) n (fun j => dl (fun t => (h 9) (a + 8 * t)) n (j - (n + 1) / 2))) 0 m (fun j => fw (fun t => (h 9) (a + 8 * t)) n j))) := by
            intro k4
            induction k4 with
            | zero => intro m hm0 hm1 hk4; exact absurd hk4 (Nat.not_lt_zero _)
            | succ k4 ih4 =>
              intro m hm0 hm1 hk4
              refine TT_iload hK 5 rfl dX0_splitLine_111 ?_
              refine TT_iload hK 4 rfl dX0_splitLine_113 ?_
              refine TT_icmp_ge hK (tgt := 151) (irm (by omega) (by omega)) (irm (by omega) (by omega)) dX0_splitLine_115 (by decide) (fun hb115 => ?_) (fun hb115 => ?_)
              · refine TT_aload_n hK rfl 0 rfl dX0_splitLine_151 ?_
                refine TT_iload_n hK rfl 1 rfl dX0_splitLine_152 ?_
                refine TT_iload_n hK rfl 2 rfl dX0_splitLine_153 ?_
                refine TT_iload_n hK rfl 3 rfl dX0_splitLine_154 ?_
                have q155_15 : (setO (setO h 14 (fsr (h 14) 0 n (fun t => (h 9) (a + 8 * t)))) 15 (fsr (fsr (h 15) ((n + 1) / 2) n (fun j => dl (fun t => (h 9) (a + 8 * t)) n (j - (n + 1) / 2))) 0 m (fun j => fw (fun t => (h 9) (a + 8 * t)) n j))) 15 = fsr (fsr (h 15) ((n + 1) / 2) n (fun j => dl (fun t => (h 9) (a + 8 * t)) n (j - (n + 1) / 2))) 0 m (fun j => fw (fun t => (h 9) (a + 8 * t)) n j) := sOf_eq _ _ _
                have q155_9 : (setO (setO h 14 (fsr (h 14) 0 n (fun t => (h 9) (a + 8 * t)))) 15 (fsr (fsr (h 15) ((n + 1) / 2) n (fun j => dl (fun t => (h 9) (a + 8 * t)) n (j - (n + 1) / 2))) 0 m (fun j => fw (fun t => (h 9) (a + 8 * t)) n j))) 9 = h 9 := (sOf_ne _ _ (by decide)).trans (sOf_ne _ _ (by decide))
                refine iv_X0_97 hK (c_writeLine_8_8 a n (setO (setO h 14 (fsr (h 14) 0 n (fun t => (h 9) (a + 8 * t)))) 15 (fsr (fsr (h 15) ((n + 1) / 2) n (fun j => dl (fun t => (h 9) (a + 8 * t)) n (j - (n + 1) / 2))) 0 m (fun j => fw (fun t => (h 9) (a + 8 * t)) n j))) (by first | omega | (simp [up, setR] <;> omega)) (by first | omega | (simp [up, setR] <;> omega)) (by first | omega | (simp [up, setR] <;> omega))) (by decide) rfl ⟨by decide, by decide⟩ (by decide) rfl rfl (Nat.le_of_ble_eq_true rfl) ⟨by decide, by decide⟩ dX0_splitLine_155 ?_
                intro r9 h9 hp9
                rw [q155_15, q155_9] at hp9
                rw [hp9.1, hp9.2]
                refine TT_hp (h' := setO (setO (setO h 9 (wrs (h 9) a 8 (fsr (fsr (h 15) ((n + 1) / 2) n (fun j => dl (fun t => (h 9) (a + 8 * t)) n (j - (n + 1) / 2))) 0 m (fun j => fw (fun t => (h 9) (a + 8 * t)) n j)) n.toNat)) 14 (fsr (h 14) 0 n (fun t => (h 9) (a + 8 * t)))) 15 (fsr (fsr (h 15) ((n + 1) / 2) n (fun j => dl (fun t => (h 9) (a + 8 * t)) n (j - (n + 1) / 2))) 0 m (fun j => fw (fun t => (h 9) (a + 8 * t)) n j))) ((setO_comm _ _ _ (by decide)).trans (setO_cg ((setO_comm _ _ _ (by decide)).trans (setO_cg rfl rfl)) rfl)) ?_
                show TT K ly 0 0 158 [(0, vR 8), (1, vI a), (2, vI 8), (3, vI n), (4, vI ((n + 1) / 2)), (5, vI m)] [] (setO (setO (setO h 9 (wrs (h 9) a 8 (fsr (fsr (h 15) ((n + 1) / 2) n (fun j => dl (fun t => (h 9) (a + 8 * t)) n (j - (n + 1) / 2))) 0 m (fun j => fw (fun t => (h 9) (a + 8 * t)) n j)) n.toNat)) 14 (fsr (h 14) 0 n (fun t => (h 9) (a + 8 * t)))) 15 (fsr (fsr (h 15) ((n + 1) / 2) n (fun j => dl (fun t => (h 9) (a + 8 * t)) n (j - (n + 1) / 2))) 0 m (fun j => fw (fun t => (h 9) (a + 8 * t)) n j)))
                refine TT_vret hK hQ ?_ dX0_splitLine_158
                exact ⟨(fsr (h 14) 0 n (fun t => (h 9) (a + 8 * t))), (fsr (fsr (h 15) ((n + 1) / 2) n (fun j => dl (fun t => (h 9) (a + 8 * t)) n (j - (n + 1) / 2))) 0 m (fun j => fw (fun t => (h 9) (a + 8 * t)) n j)), rfl, setO_cg (setO_cg (setO_cg rfl (by obtain rfl : m = (n + 1) / 2 := (by omega); exact wrs_cg _ _ _ _ (fun j h0 h1 => split_out _ _ (by omega) h0 (by omega)))) (by rfl)) (by rfl)⟩
              · refine TT_aload_n hK rfl 0 rfl dX0_splitLine_118 ?_
                refine gf_X0_30 hK (by decide) rfl (q := 15) rfl rfl dX0_splitLine_119 ?_
                refine TT_iload hK 5 rfl dX0_splitLine_122 ?_
                refine TT_aload_n hK rfl 0 rfl dX0_splitLine_124 ?_
                refine gf_X0_27 hK (by decide) rfl (q := 14) rfl rfl dX0_splitLine_125 ?_
                refine TT_iconst hK dX0_splitLine_128 ?_
                refine TT_iload hK 5 rfl dX0_splitLine_129 ?_
                refine TT_imul hK dX0_splitLine_131 ?_
                refine TT_iald hK (o := 14) (n := 8) (by decide) rfl (by first | omega | (simp [up, setR] <;> omega)) (by first | omega | (simp [up, setR] <;> omega)) (v := (fsr (h 14) 0 n (fun t => (h 9) (a + 8 * t))) (2 * m)) (rd_ ((sOf_ne _ _ (by decide)).trans (sOf_eq _ _ _)) rfl) dX0_splitLine_132 ?_
                refine TT_cgI (b := h 9 (a + 8 * (2 * m))) (by rw [fsr_in _ _ (by omega) (by omega)]) ?_
                refine TT_aload_n hK rfl 0 rfl dX0_splitLine_133 ?_
                refine gf_X0_30 hK (by decide) rfl (q := 15) rfl rfl dX0_splitLine_134 ?_
                refine TT_iload hK 5 rfl dX0_splitLine_137 ?_
                refine TT_iload_n hK rfl 3 rfl dX0_splitLine_139 ?_
                have q140_15 : (setO (setO h 14 (fsr (h 14) 0 n (fun t => (h 9) (a + 8 * t)))) 15 (fsr (fsr (h 15) ((n + 1) / 2) n (fun j => dl (fun t => (h 9) (a + 8 * t)) n (j - (n + 1) / 2))) 0 m (fun j => fw (fun t => (h 9) (a + 8 * t)) n j))) 15 = fsr (fsr (h 15) ((n + 1) / 2) n (fun j => dl (fun t => (h 9) (a + 8 * t)) n (j - (n + 1) / 2))) 0 m (fun j => fw (fun t => (h 9) (a + 8 * t)) n j) := sOf_eq _ _ _
                refine iv_X0_93 hK (c_fourth_15 m n (2 * B + 1) (setO (setO h 14 (fsr (h 14) 0 n (fun t => (h 9) (a + 8 * t)))) 15 (fsr (fsr (h 15) ((n + 1) / 2) n (fun j => dl (fun t => (h 9) (a + 8 * t)) n (j - (n + 1) / 2))) 0 m (fun j => fw (fun t => (h 9) (a + 8 * t)) n j))) (by first | omega | (simp [up, setR] <;> omega)) (by first | omega | (simp [up, setR] <;> omega)) (by rw [q140_15]; intro j h0 h1; rw [fsr_out _ _ (by omega), fsr_in _ _ h0 h1]; exact dl_bd hbd (by omega) (by omega)) (by omega)) ⟨by decide, by decide⟩ (by decide) rfl rfl (Nat.le_of_ble_eq_true rfl) ⟨by decide, by decide⟩ dX0_splitLine_140 ?_
                intro r9 h9 hp9
                rw [q140_15] at hp9
                rw [hp9.1, hp9.2]
                show TT K ly 0 0 143 [(0, vR 8), (1, vI a), (2, vI 8), (3, vI n), (4, vI ((n + 1) / 2)), (5, vI m)] [vI (((fsr (fsr (h 15) ((n + 1) / 2) n (fun j => dl (fun t => (h 9) (a + 8 * t)) n (j - (n + 1) / 2))) 0 m (fun j => fw (fun t => (h 9) (a + 8 * t)) n j)) ((n + 1) / 2 + max (m - 1) 0) + (fsr (fsr (h 15) ((n + 1) / 2) n (fun j => dl (fun t => (h 9) (a + 8 * t)) n (j - (n + 1) / 2))) 0 m (fun j => fw (fun t => (h 9) (a + 8 * t)) n j)) ((n + 1) / 2 + min m (n / 2 - 1)) + 2) / 4), vI (h 9 (a + 8 * (2 * m))), vI m, vR 15] (setO (setO h 14 (fsr (h 14) 0 n (fun t => (h 9) (a + 8 * t)))) 15 (fsr (fsr (h 15) ((n + 1) / 2) n (fun j => dl (fun t => (h 9) (a + 8 * t)) n (j - (n + 1) / 2))) 0 m (fun j => fw (fun t => (h 9) (a + 8 * t)) n j)))
                refine TT_cgI (b := (dl (fun t => h 9 (a + 8 * t)) n (ck (m - 1) n) + dl (fun t => h 9 (a + 8 * t)) n (ck m n) + 2) / 4) (by exact fourth_s _ (by omega) (by omega) (by omega) (fun _ => rfl)) ?_
                refine TT_iadd hK dX0_splitLine_143 ?_
                refine TT_iast hK (o := 15) (n := 8) (by decide) rfl (by first | omega | (simp [up, setR] <;> omega)) (by first | omega | (simp [up, setR] <;> omega)) dX0_splitLine_144 ?_
                refine TT_hp (h' := setO (setO h 14 (fsr (h 14) 0 n (fun t => (h 9) (a + 8 * t)))) 15 (fup (fsr (fsr (h 15) ((n + 1) / 2) n (fun j => dl (fun t => (h 9) (a + 8 * t)) n (j - (n + 1) / 2))) 0 m (fun j => fw (fun t => (h 9) (a + 8 * t)) n j)) m ((h 9 (a + 8 * (2 * m))) + ((dl (fun t => h 9 (a + 8 * t)) n (ck (m - 1) n) + dl (fun t => h 9 (a + 8 * t)) n (ck m n) + 2) / 4)))) (up_can (sOf_eq _ _ _) rfl (setO_same _ _ _ _)) ?_
                refine TT_iinc hK (v := m + 1) (lv' := [(5, vI (m + 1)), (0, vR 8), (1, vI a), (2, vI 8), (3, vI n), (4, vI ((n + 1) / 2))]) 5 rfl rfl (by decide) rfl dX0_splitLine_145 ?_
                refine TT_goto hK (tgt := 111) dX0_splitLine_148 (by decide) ?_
                refine TT_sub [1, 2, 3, 4, 5, 0] rfl ?_
                refine TT_hp (h' := setO (setO h 14 (fsr (h 14) 0 n (fun t => (h 9) (a + 8 * t)))) 15 (fsr (fsr (h 15) ((n + 1) / 2) n (fun j => dl (fun t => (h 9) (a + 8 * t)) n (j - (n + 1) / 2))) 0 (m + 1) (fun j => fw (fun t => (h 9) (a + 8 * t)) n j))) (setO_cg rfl (by refine fsr_step _ (by omega) ?_; show _ = fw (fun t => h 9 (a + 8 * t)) n m; unfold fw; rw [if_neg (by omega), if_pos (by omega)])) ?_
                exact ih4 (m + 1) (by first | omega | (simp [up, setR] <;> omega)) (by first | omega | (simp [up, setR] <;> omega)) (by first | omega | (simp [up, setR] <;> omega))
          refine TT_sub [1, 2, 3, 4, 5, 0] rfl ?_
          refine TT_hp (h' := setO (setO h 14 (fsr (h 14) 0 n (fun t => (h 9) (a + 8 * t)))) 15 (fsr (fsr (h 15) ((n + 1) / 2) n (fun j => dl (fun t => (h 9) (a + 8 * t)) n (j - (n + 1) / 2))) 0 0 (fun j => fw (fun t => (h 9) (a + 8 * t)) n j))) (setO_cg rfl (by rw [show (n + 1) / 2 + k = n by omega]; exact fsr_0 _ _ _)) ?_
          exact L111_4 ((((9 : Int) - 0).toNat) + 1) 0 (by first | omega | (simp [up, setR] <;> omega)) (by first | omega | (simp [up, setR] <;> omega)) (Nat.lt_succ_self _)
        · refine TT_iconst hK dX0_splitLine_31 ?_
          refine TT_iload hK 5 rfl dX0_splitLine_32 ?_
          refine TT_imul hK dX0_splitLine_34 ?_
          refine TT_iconst hK dX0_splitLine_35 ?_
          refine TT_iadd hK dX0_splitLine_36 ?_
          refine TT_iload_n hK rfl 3 rfl dX0_splitLine_37 ?_
          refine TT_icmp_ge hK (tgt := 55) (irm (by omega) (by omega)) (irm (by omega) (by omega)) dX0_splitLine_38 (by decide) (fun hb38 => ?_) (fun hb38 => ?_)
          · refine TT_aload_n hK rfl 0 rfl dX0_splitLine_55 ?_
            refine gf_X0_27 hK (by decide) rfl (q := 14) rfl rfl dX0_splitLine_56 ?_
            refine TT_iconst hK dX0_splitLine_59 ?_
            refine TT_iload hK 5 rfl dX0_splitLine_60 ?_
            refine TT_imul hK dX0_splitLine_62 ?_
            refine TT_iald hK (o := 14) (n := 8) (by decide) rfl (by first | omega | (simp [up, setR] <;> omega)) (by first | omega | (simp [up, setR] <;> omega)) (v := (fsr (h 14) 0 n (fun t => (h 9) (a + 8 * t))) (2 * k)) (rd_ ((sOf_ne _ _ (by decide)).trans (sOf_eq _ _ _)) rfl) dX0_splitLine_63 ?_
            refine TT_cgI (b := h 9 (a + 8 * (2 * k))) (by rw [fsr_in _ _ (by omega) (by omega)]) ?_
            refine TT_nmI (fun nx hnx => ?_)
            refine TT_istore hK (lv' := [(6, vI nx), (0, vR 8), (1, vI a), (2, vI 8), (3, vI n), (4, vI ((n + 1) / 2)), (5, vI k)]) (by decide) rfl dX0_splitLine_64 ?_
            refine TT_aload_n hK rfl 1 rfl dX0_splitLine_66 ?_
            refine gf_X0_30 hK (by decide) rfl (q := 15) rfl rfl dX0_splitLine_67 ?_
            refine TT_iload hK 5 rfl dX0_splitLine_70 ?_
            refine TT_iload hK 6 rfl dX0_splitLine_72 ?_
            refine TT_iadd hK dX0_splitLine_74 ?_
            refine TT_aload_n hK rfl 1 rfl dX0_splitLine_75 ?_
            refine gf_X0_27 hK (by decide) rfl (q := 14) rfl rfl dX0_splitLine_76 ?_
            refine TT_iconst hK dX0_splitLine_79 ?_
            refine TT_iload hK 6 rfl dX0_splitLine_80 ?_
            refine TT_imul hK dX0_splitLine_82 ?_
            refine TT_iconst hK dX0_splitLine_83 ?_
            refine TT_iadd hK dX0_splitLine_84 ?_
            refine TT_iald hK (o := 14) (n := 8) (by decide) rfl (by first | omega | (simp [up, setR] <;> omega)) (by first | omega | (simp [up, setR] <;> omega)) (v := (fsr (h 14) 0 n (fun t => (h 9) (a + 8 * t))) ((2 * k) + 1)) (rd_ ((sOf_ne _ _ (by decide)).trans (sOf_eq _ _ _)) rfl) dX0_splitLine_85 ?_
            refine TT_cgI (b := h 9 (a + 8 * (2 * k + 1))) (by rw [fsr_in _ _ (by omega) (by omega)]) ?_
            refine TT_aload_n hK rfl 1 rfl dX0_splitLine_86 ?_
            refine gf_X0_27 hK (by decide) rfl (q := 14) rfl rfl dX0_splitLine_87 ?_
            refine TT_iconst hK dX0_splitLine_90 ?_
            refine TT_iload hK 6 rfl dX0_splitLine_91 ?_
            refine TT_imul hK dX0_splitLine_93 ?_
            refine TT_iald hK (o := 14) (n := 8) (by decide) rfl (by first | omega | (simp [up, setR] <;> omega)) (by first | omega | (simp [up, setR] <;> omega)) (v := (fsr (h 14) 0 n (fun t => (h 9) (a + 8 * t))) (2 * k)) (rd_ ((sOf_ne _ _ (by decide)).trans (sOf_eq _ _ _)) rfl) dX0_splitLine_94 ?_
            refine TT_cgI (b := h 9 (a + 8 * (2 * k))) (by rw [fsr_in _ _ (by omega) (by omega)]) ?_
            refine TT_iload hK 0 rfl dX0_splitLine_95 ?_
            refine TT_iadd hK dX0_splitLine_97 ?_
            have b1 : -B ≤ h 9 (a + 8 * (2 * k)) ∧ h 9 (a + 8 * (2 * k)) ≤ B := hbd (2 * k) (by omega) (by omega)
            have b2 : -B ≤ nx ∧ nx ≤ B := by rw [hnx]; first | exact hbd (2 * k + 2) (by omega) (by omega) | exact hbd (2 * k) (by omega) (by omega)
            refine TT_iconst hK dX0_splitLine_98 ?_
            refine TT_ishr hK (irm (by omega) (by omega)) (by omega) (by omega) dX0_splitLine_99 ?_
            refine TT_cgI (b := ((h 9 (a + 8 * (2 * k))) + nx) / 2) rfl ?_
            refine TT_isub hK dX0_splitLine_100 ?_
            refine TT_iast hK (o := 15) (n := 8) (by decide) rfl (by first | omega | (simp [up, setR] <;> omega)) (by first | omega | (simp [up, setR] <;> omega)) dX0_splitLine_101 ?_
            refine TT_hp (h' := setO (setO h 14 (fsr (h 14) 0 n (fun t => (h 9) (a + 8 * t)))) 15 (fup (fsr (h 15) ((n + 1) / 2) ((n + 1) / 2 + k) (fun j => dl (fun t => (h 9) (a + 8 * t)) n (j - (n + 1) / 2))) (((n + 1) / 2) + k) ((h 9 (a + 8 * (2 * k + 1))) - (((h 9 (a + 8 * (2 * k))) + nx) / 2)))) (up_can (sOf_eq _ _ _) rfl (setO_same _ _ _ _)) ?_
            refine TT_iinc hK (v := k + 1) (lv' := [(5, vI (k + 1)), (6, vI nx), (0, vR 8), (1, vI a), (2, vI 8), (3, vI n), (4, vI ((n + 1) / 2))]) 6 rfl rfl (by decide) rfl dX0_splitLine_102 ?_
            refine TT_goto hK (tgt := 23) dX0_splitLine_105 (by decide) ?_
            refine TT_sub [2, 3, 4, 5, 6, 0] rfl ?_
            refine TT_hp (h' := setO (setO h 14 (fsr (h 14) 0 n (fun t => (h 9) (a + 8 * t)))) 15 (fsr (h 15) ((n + 1) / 2) ((n + 1) / 2 + (k + 1)) (fun j => dl (fun t => (h 9) (a + 8 * t)) n (j - (n + 1) / 2)))) (setO_cg rfl (by rw [show (n + 1) / 2 + (k + 1) = ((n + 1) / 2 + k) + 1 by omega]; refine fsr_step _ (by omega) ?_; show _ = dl (fun t => h 9 (a + 8 * t)) n ((n + 1) / 2 + k - (n + 1) / 2); rw [show (n + 1) / 2 + k - (n + 1) / 2 = k by omega, hnx]; unfold dl; first | rw [if_pos (by omega)] | rw [if_neg (by omega)])) ?_
            exact ih2 (k + 1) (by first | omega | (simp [up, setR] <;> omega)) (by first | omega | (simp [up, setR] <;> omega)) (by first | omega | (simp [up, setR] <;> omega))
          · refine TT_aload_n hK rfl 0 rfl dX0_splitLine_41 ?_
            refine gf_X0_27 hK (by decide) rfl (q := 14) rfl rfl dX0_splitLine_42 ?_
            refine TT_iconst hK dX0_splitLine_45 ?_
            refine TT_iload hK 5 rfl dX0_splitLine_46 ?_
            refine TT_imul hK dX0_splitLine_48 ?_
            refine TT_iconst hK dX0_splitLine_49 ?_
            refine TT_iadd hK dX0_splitLine_50 ?_
            refine TT_iald hK (o := 14) (n := 8) (by decide) rfl (by first | omega | (simp [up, setR] <;> omega)) (by first | omega | (simp [up, setR] <;> omega)) (v := (fsr (h 14) 0 n (fun t => (h 9) (a + 8 * t))) ((2 * k) + 2)) (rd_ ((sOf_ne _ _ (by decide)).trans (sOf_eq _ _ _)) rfl) dX0_splitLine_51 ?_
            refine TT_cgI (b := h 9 (a + 8 * (2 * k + 2))) (by rw [fsr_in _ _ (by omega) (by omega)]) ?_
            refine TT_goto hK (tgt := 64) dX0_splitLine_52 (by decide) ?_
            refine TT_nmI (fun nx hnx => ?_)
            refine TT_istore hK (lv' := [(6, vI nx), (0, vR 8), (1, vI a), (2, vI 8), (3, vI n), (4, vI ((n + 1) / 2)), (5, vI k)]) (by decide) rfl dX0_splitLine_64 ?_
            refine TT_aload_n hK rfl 1 rfl dX0_splitLine_66 ?_
            refine gf_X0_30 hK (by decide) rfl (q := 15) rfl rfl dX0_splitLine_67 ?_
            refine TT_iload hK 5 rfl dX0_splitLine_70 ?_
            refine TT_iload hK 6 rfl dX0_splitLine_72 ?_
            refine TT_iadd hK dX0_splitLine_74 ?_
            refine TT_aload_n hK rfl 1 rfl dX0_splitLine_75 ?_
            refine gf_X0_27 hK (by decide) rfl (q := 14) rfl rfl dX0_splitLine_76 ?_
            refine TT_iconst hK dX0_splitLine_79 ?_
            refine TT_iload hK 6 rfl dX0_splitLine_80 ?_
            refine TT_imul hK dX0_splitLine_82 ?_
            refine TT_iconst hK dX0_splitLine_83 ?_
            refine TT_iadd hK dX0_splitLine_84 ?_
            refine TT_iald hK (o := 14) (n := 8) (by decide) rfl (by first | omega | (simp [up, setR] <;> omega)) (by first | omega | (simp [up, setR] <;> omega)) (v := (fsr (h 14) 0 n (fun t => (h 9) (a + 8 * t))) ((2 * k) + 1)) (rd_ ((sOf_ne _ _ (by decide)).trans (sOf_eq _ _ _)) rfl) dX0_splitLine_85 ?_
            refine TT_cgI (b := h 9 (a + 8 * (2 * k + 1))) (by rw [fsr_in _ _ (by omega) (by omega)]) ?_
            refine TT_aload_n hK rfl 1 rfl dX0_splitLine_86 ?_
            refine gf_X0_27 hK (by decide) rfl (q := 14) rfl rfl dX0_splitLine_87 ?_
            refine TT_iconst hK dX0_splitLine_90 ?_
            refine TT_iload hK 6 rfl dX0_splitLine_91 ?_
            refine TT_imul hK dX0_splitLine_93 ?_
            refine TT_iald hK (o := 14) (n := 8) (by decide) rfl (by first | omega | (simp [up, setR] <;> omega)) (by first | omega | (simp [up, setR] <;> omega)) (v := (fsr (h 14) 0 n (fun t => (h 9) (a + 8 * t))) (2 * k)) (rd_ ((sOf_ne _ _ (by decide)).trans (sOf_eq _ _ _)) rfl) dX0_splitLine_94 ?_
            refine TT_cgI (b := h 9 (a + 8 * (2 * k))) (by rw [fsr_in _ _ (by omega) (by omega)]) ?_
            refine TT_iload hK 0 rfl dX0_splitLine_95 ?_
            refine TT_iadd hK dX0_splitLine_97 ?_
            have b1 : -B ≤ h 9 (a + 8 * (2 * k)) ∧ h 9 (a + 8 * (2 * k)) ≤ B := hbd (2 * k) (by omega) (by omega)
            have b2 : -B ≤ nx ∧ nx ≤ B := by rw [hnx]; first | exact hbd (2 * k + 2) (by omega) (by omega) | exact hbd (2 * k) (by omega) (by omega)
            refine TT_iconst hK dX0_splitLine_98 ?_
            refine TT_ishr hK (irm (by omega) (by omega)) (by omega) (by omega) dX0_splitLine_99 ?_
            refine TT_cgI (b := ((h 9 (a + 8 * (2 * k))) + nx) / 2) rfl ?_
            refine TT_isub hK dX0_splitLine_100 ?_
            refine TT_iast hK (o := 15) (n := 8) (by decide) rfl (by first | omega | (simp [up, setR] <;> omega)) (by first | omega | (simp [up, setR] <;> omega)) dX0_splitLine_101 ?_
            refine TT_hp (h' := setO (setO h 14 (fsr (h 14) 0 n (fun t => (h 9) (a + 8 * t)))) 15 (fup (fsr (h 15) ((n + 1) / 2) ((n + 1) / 2 + k) (fun j => dl (fun t => (h 9) (a + 8 * t)) n (j - (n + 1) / 2))) (((n + 1) / 2) + k) ((h 9 (a + 8 * (2 * k + 1))) - (((h 9 (a + 8 * (2 * k))) + nx) / 2)))) (up_can (sOf_eq _ _ _) rfl (setO_same _ _ _ _)) ?_
            refine TT_iinc hK (v := k + 1) (lv' := [(5, vI (k + 1)), (6, vI nx), (0, vR 8), (1, vI a), (2, vI 8), (3, vI n), (4, vI ((n + 1) / 2))]) 6 rfl rfl (by decide) rfl dX0_splitLine_102 ?_
            refine TT_goto hK (tgt := 23) dX0_splitLine_105 (by decide) ?_
            refine TT_sub [2, 3, 4, 5, 6, 0] rfl ?_
            refine TT_hp (h' := setO (setO h 14 (fsr (h 14) 0 n (fun t => (h 9) (a + 8 * t)))) 15 (fsr (h 15) ((n + 1) / 2) ((n + 1) / 2 + (k + 1)) (fun j => dl (fun t => (h 9) (a + 8 * t)) n (j - (n + 1) / 2)))) (setO_cg rfl (by rw [show (n + 1) / 2 + (k + 1) = ((n + 1) / 2 + k) + 1 by omega]; refine fsr_step _ (by omega) ?_; show _ = dl (fun t => h 9 (a + 8 * t)) n ((n + 1) / 2 + k - (n + 1) / 2); rw [show (n + 1) / 2 + k - (n + 1) / 2 = k by omega, hnx]; unfold dl; first | rw [if_pos (by omega)] | rw [if_neg (by omega)])) ?_
            exact ih2 (k + 1) (by first | omega | (simp [up, setR] <;> omega)) (by first | omega | (simp [up, setR] <;> omega)) (by first | omega | (simp [up, setR] <;> omega))
    refine TT_sub [2, 3, 4, 5, 1, 0] rfl ?_
    refine TT_hp (h' := setO (setO h 14 (fsr (h 14) 0 n (fun t => (h 9) (a + 8 * t)))) 15 (fsr (h 15) ((n + 1) / 2) ((n + 1) / 2 + 0) (fun j => dl (fun t => (h 9) (a + 8 * t)) n (j - (n + 1) / 2)))) ((setO_new ((sOf_ne _ _ (by decide)).trans (by rw [show (n + 1) / 2 + 0 = (n + 1) / 2 by omega]; exact fsr_0 _ _ _))).trans (setO_cg rfl rfl)) ?_
    exact L23_2 ((((9 : Int) - 0).toNat) + 1) 0 (by first | omega | (simp [up, setR] <;> omega)) (by first | omega | (simp [up, setR] <;> omega)) (Nat.lt_succ_self _)
  · refine TT_vret hK hQ ?_ dX0_splitLine_5
    exact ⟨(h 14), (h 15), rfl, (setO_new (by rfl)).trans (setO_cg ((setO_new (by rfl)).trans (setO_cg ((setO_new (by obtain rfl : n = 1 := (by omega); exact wrs1 _ _ _)).trans (setO_cg rfl rfl)) rfl)) rfl)⟩
set_option maxRecDepth 20000 in
theorem c_splitLine_8_1 (a n B : Int) (h : Hp_) (ha : 0 ≤ a) (ha2 : a + 1 * (n - 1) ≤ 63) (hn : 1 ≤ n ∧ n ≤ 8) (hbd : bdr (fun t => (h 9) (a + 1 * t)) n B) (hB : 0 ≤ B ∧ B ≤ 100000000) : Ctr yX0_splitLine cX0_splitLine 7 none (rmd 2) ly ly 0 0 [vR 8, vI a, vI 1, vI n] h (fun r h' => ∃ j14 : Int → Int, ∃ j15 : Int → Int, r = none ∧ h' = setO (setO (setO h 9 (wrs (h 9) a 1 (fw (fun t => (h 9) (a + 1 * t)) n) n.toNat)) 14 j14) 15 j15) := by
  refine Ctr_of (by decide) (Nat.le_of_ble_eq_true rfl) ⟨Nat.le_refl _, Nat.le_refl _⟩ (fun K hK hQ _ => ?_)
  show TT K ly 0 0 0 [(0, vR 8), (1, vI a), (2, vI 1), (3, vI n)] [] h
  refine TT_iload_n hK rfl 3 rfl dX0_splitLine_0 ?_
  refine TT_iconst hK dX0_splitLine_1 ?_
  refine TT_icmp_ge hK (tgt := 6) (irm (by omega) (by omega)) (by decide) dX0_splitLine_2 (by decide) (fun hb2 => ?_) (fun hb2 => ?_)
  · refine TT_aload_n hK rfl 0 rfl dX0_splitLine_6 ?_
    refine TT_iload_n hK rfl 1 rfl dX0_splitLine_7 ?_
    refine TT_iload_n hK rfl 2 rfl dX0_splitLine_8 ?_
    refine TT_iload_n hK rfl 3 rfl dX0_splitLine_9 ?_
    refine iv_X0_90 hK (c_readLine_8_1 a n h (by first | omega | (simp [up, setR] <;> omega)) (by first | omega | (simp [up, setR] <;> omega)) (by first | omega | (simp [up, setR] <;> omega))) (by decide) rfl ⟨by decide, by decide⟩ (by decide) rfl rfl (Nat.le_of_ble_eq_true rfl) ⟨by decide, by decide⟩ dX0_splitLine_10 ?_
    intro r9 h9 hp9
    rw [hp9.1, hp9.2]
    show TT K ly 0 0 13 [(0, vR 8), (1, vI a), (2, vI 1), (3, vI n)] [] (setO h 14 (fsr (h 14) 0 n (fun t => (h 9) (a + 1 * t))))
    refine TT_iload_n hK rfl 3 rfl dX0_splitLine_13 ?_
    refine TT_iconst hK dX0_splitLine_14 ?_
    refine TT_iadd hK dX0_splitLine_15 ?_
    refine TT_iconst hK dX0_splitLine_16 ?_
    refine TT_idivn hK (irm (by omega) (by omega)) (by decide) (by first | omega | (simp [up, setR] <;> omega)) (by first | omega | (simp [up, setR] <;> omega)) dX0_splitLine_17 ?_
    refine TT_istore hK (lv' := [(4, vI ((n + 1) / 2)), (0, vR 8), (1, vI a), (2, vI 1), (3, vI n)]) (by decide) rfl dX0_splitLine_18 ?_
    refine TT_iconst hK dX0_splitLine_20 ?_
    refine TT_istore hK (lv' := [(5, vI 0), (4, vI ((n + 1) / 2)), (0, vR 8), (1, vI a), (2, vI 1), (3, vI n)]) (by decide) rfl dX0_splitLine_21 ?_
    have L23_2 : ∀ (k2 : Nat) (k : Int), (0 ≤ k) → (k ≤ n / 2) → ((9 : Int) - k).toNat < k2 → TT K ly 0 0 23 [(0, vR 8), (1, vI a), (2, vI 1), (3, vI n), (4, vI ((n + 1) / 2)), (5, vI k)] [] (setO (setO h 14 (fsr (h 14) 0 n (fun t => (h 9) (a + 1 * t)))) 15 (fsr (h 15) ((n + 1) / 2) ((n + 1) / 2 + k) (fun j => dl (fun t => (h 9) (a + 1 * t)) n (j - (n + 1) / 2)))) := by
      intro k2
      induction k2 with
      | zero => intro k hk0 hk1 hk2; exact absurd hk2 (Nat.not_lt_zero _)
      | succ k2 ih2 =>
        intro k hk0 hk1 hk2
        refine TT_iload hK 5 rfl dX0_splitLine_23 ?_
        refine TT_iload_n hK rfl 3 rfl dX0_splitLine_25 ?_
        refine TT_iconst hK dX0_splitLine_26 ?_
        refine TT_idivn hK (irm (by omega) (by omega)) (by decide) (by first | omega | (simp [up, setR] <;> omega)) (by first | omega | (simp [up, setR] <;> omega)) dX0_splitLine_27 ?_
        refine TT_icmp_ge hK (tgt := 108) (irm (by omega) (by omega)) (irm (by omega) (by omega)) dX0_splitLine_28 (by decide) (fun hb28 => ?_) (fun hb28 => ?_)
        · refine TT_iconst hK dX0_splitLine_108 ?_
          refine TT_istore hK (lv' := [(5, vI 0), (0, vR 8), (1, vI a), (2, vI 1), (3, vI n), (4, vI ((n + 1) / 2))]) (by decide) rfl dX0_splitLine_109 ?_
          have L111_4 : ∀ (k4 : Nat) (m : Int), (0 ≤ m) → (m ≤ (n + 1) / 2) → ((9 : Int) - m).toNat < k4 → TT K ly 0 0 111 [(0, vR 8), (1, vI a), (2, vI 1), (3, vI n), (4, vI ((n + 1) / 2)), (5, vI m)] [] (setO (setO h 14 (fsr (h 14) 0 n (fun t => (h 9) (a + 1 * t)))) 15 (fsr (fsr (h 15) ((n + 1) / 2) n (fun j => dl (fun t => (h 9) (a + 1 * t)) n (j - (n + 1) / 2))) 0 m (fun j => fw (fun t => (h 9) (a + 1 * t)) n j))) := by
            intro k4
            induction k4 with
            | zero => intro m hm0 hm1 hk4; exact absurd hk4 (Nat.not_lt_zero _)
            | succ k4 ih4 =>
              intro m hm0 hm1 hk4
              refine TT_iload hK 5 rfl dX0_splitLine_111 ?_
              refine TT_iload hK 4 rfl dX0_splitLine_113 ?_
              refine TT_icmp_ge hK (tgt := 151) (irm (by omega) (by omega)) (irm (by omega) (by omega)) dX0_splitLine_115 (by decide) (fun hb115 => ?_) (fun hb115 => ?_)
              · refine TT_aload_n hK rfl 0 rfl dX0_splitLine_151 ?_
                refine TT_iload_n hK rfl 1 rfl dX0_splitLine_152 ?_
                refine TT_iload_n hK rfl 2 rfl dX0_splitLine_153 ?_
                refine TT_iload_n hK rfl 3 rfl dX0_splitLine_154 ?_
                have q155_15 : (setO (setO h 14 (fsr (h 14) 0 n (fun t => (h 9) (a + 1 * t)))) 15 (fsr (fsr (h 15) ((n + 1) / 2) n (fun j => dl (fun t => (h 9) (a + 1 * t)) n (j - (n + 1) / 2))) 0 m (fun j => fw (fun t => (h 9) (a + 1 * t)) n j))) 15 = fsr (fsr (h 15) ((n + 1) / 2) n (fun j => dl (fun t => (h 9) (a + 1 * t)) n (j - (n + 1) / 2))) 0 m (fun j => fw (fun t => (h 9) (a + 1 * t)) n j) := sOf_eq _ _ _
                have q155_9 : (setO (setO h 14 (fsr (h 14) 0 n (fun t => (h 9) (a + 1 * t)))) 15 (fsr (fsr (h 15) ((n + 1) / 2) n (fun j => dl (fun t => (h 9) (a + 1 * t)) n (j - (n + 1) / 2))) 0 m (fun j => fw (fun t => (h 9) (a + 1 * t)) n j))) 9 = h 9 := (sOf_ne _ _ (by decide)).trans (sOf_ne _ _ (by decide))
                refine iv_X0_97 hK (c_writeLine_8_1 a n (setO (setO h 14 (fsr (h 14) 0 n (fun t => (h 9) (a + 1 * t)))) 15 (fsr (fsr (h 15) ((n + 1) / 2) n (fun j => dl (fun t => (h 9) (a + 1 * t)) n (j - (n + 1) / 2))) 0 m (fun j => fw (fun t => (h 9) (a + 1 * t)) n j))) (by first | omega | (simp [up, setR] <;> omega)) (by first | omega | (simp [up, setR] <;> omega)) (by first | omega | (simp [up, setR] <;> omega))) (by decide) rfl ⟨by decide, by decide⟩ (by decide) rfl rfl (Nat.le_of_ble_eq_true rfl) ⟨by decide, by decide⟩ dX0_splitLine_155 ?_
                intro r9 h9 hp9
                rw [q155_15, q155_9] at hp9
                rw [hp9.1, hp9.2]
                refine TT_hp (h' := setO (setO (setO h 9 (wrs (h 9) a 1 (fsr (fsr (h 15) ((n + 1) / 2) n (fun j => dl (fun t => (h 9) (a + 1 * t)) n (j - (n + 1) / 2))) 0 m (fun j => fw (fun t => (h 9) (a + 1 * t)) n j)) n.toNat)) 14 (fsr (h 14) 0 n (fun t => (h 9) (a + 1 * t)))) 15 (fsr (fsr (h 15) ((n + 1) / 2) n (fun j => dl (fun t => (h 9) (a + 1 * t)) n (j - (n + 1) / 2))) 0 m (fun j => fw (fun t => (h 9) (a + 1 * t)) n j))) ((setO_comm _ _ _ (by decide)).trans (setO_cg ((setO_comm _ _ _ (by decide)).trans (setO_cg rfl rfl)) rfl)) ?_
                show TT K ly 0 0 158 [(0, vR 8), (1, vI a), (2, vI 1), (3, vI n), (4, vI ((n + 1) / 2)), (5, vI m)] [] (setO (setO (setO h 9 (wrs (h 9) a 1 (fsr (fsr (h 15) ((n + 1) / 2) n (fun j => dl (fun t => (h 9) (a + 1 * t)) n (j - (n + 1) / 2))) 0 m (fun j => fw (fun t => (h 9) (a + 1 * t)) n j)) n.toNat)) 14 (fsr (h 14) 0 n (fun t => (h 9) (a + 1 * t)))) 15 (fsr (fsr (h 15) ((n + 1) / 2) n (fun j => dl (fun t => (h 9) (a + 1 * t)) n (j - (n + 1) / 2))) 0 m (fun j => fw (fun t => (h 9) (a + 1 * t)) n j)))
                refine TT_vret hK hQ ?_ dX0_splitLine_158
                exact ⟨(fsr (h 14) 0 n (fun t => (h 9) (a + 1 * t))), (fsr (fsr (h 15) ((n + 1) / 2) n (fun j => dl (fun t => (h 9) (a + 1 * t)) n (j - (n + 1) / 2))) 0 m (fun j => fw (fun t => (h 9) (a + 1 * t)) n j)), rfl, setO_cg (setO_cg (setO_cg rfl (by obtain rfl : m = (n + 1) / 2 := (by omega); exact wrs_cg _ _ _ _ (fun j h0 h1 => split_out _ _ (by omega) h0 (by omega)))) (by rfl)) (by rfl)⟩
              · refine TT_aload_n hK rfl 0 rfl dX0_splitLine_118 ?_
                refine gf_X0_30 hK (by decide) rfl (q := 15) rfl rfl dX0_splitLine_119 ?_
                refine TT_iload hK 5 rfl dX0_splitLine_122 ?_
                refine TT_aload_n hK rfl 0 rfl dX0_splitLine_124 ?_
                refine gf_X0_27 hK (by decide) rfl (q := 14) rfl rfl dX0_splitLine_125 ?_
                refine TT_iconst hK dX0_splitLine_128 ?_
                refine TT_iload hK 5 rfl dX0_splitLine_129 ?_
                refine TT_imul hK dX0_splitLine_131 ?_
                refine TT_iald hK (o := 14) (n := 8) (by decide) rfl (by first | omega | (simp [up, setR] <;> omega)) (by first | omega | (simp [up, setR] <;> omega)) (v := (fsr (h 14) 0 n (fun t => (h 9) (a + 1 * t))) (2 * m)) (rd_ ((sOf_ne _ _ (by decide)).trans (sOf_eq _ _ _)) rfl) dX0_splitLine_132 ?_
                refine TT_cgI (b := h 9 (a + 1 * (2 * m))) (by rw [fsr_in _ _ (by omega) (by omega)]) ?_
                refine TT_aload_n hK rfl 0 rfl dX0_splitLine_133 ?_
                refine gf_X0_30 hK (by decide) rfl (q := 15) rfl rfl dX0_splitLine_134 ?_
                refine TT_iload hK 5 rfl dX0_splitLine_137 ?_
                refine TT_iload_n hK rfl 3 rfl dX0_splitLine_139 ?_
                have q140_15 : (setO (setO h 14 (fsr (h 14) 0 n (fun t => (h 9) (a + 1 * t)))) 15 (fsr (fsr (h 15) ((n + 1) / 2) n (fun j => dl (fun t => (h 9) (a + 1 * t)) n (j - (n + 1) / 2))) 0 m (fun j => fw (fun t => (h 9) (a + 1 * t)) n j))) 15 = fsr (fsr (h 15) ((n + 1) / 2) n (fun j => dl (fun t => (h 9) (a + 1 * t)) n (j - (n + 1) / 2))) 0 m (fun j => fw (fun t => (h 9) (a + 1 * t)) n j) := sOf_eq _ _ _
                refine iv_X0_93 hK (c_fourth_15 m n (2 * B + 1) (setO (setO h 14 (fsr (h 14) 0 n (fun t => (h 9) (a + 1 * t)))) 15 (fsr (fsr (h 15) ((n + 1) / 2) n (fun j => dl (fun t => (h 9) (a + 1 * t)) n (j - (n + 1) / 2))) 0 m (fun j => fw (fun t => (h 9) (a + 1 * t)) n j))) (by first | omega | (simp [up, setR] <;> omega)) (by first | omega | (simp [up, setR] <;> omega)) (by rw [q140_15]; intro j h0 h1; rw [fsr_out _ _ (by omega), fsr_in _ _ h0 h1]; exact dl_bd hbd (by omega) (by omega)) (by omega)) ⟨by decide, by decide⟩ (by decide) rfl rfl (Nat.le_of_ble_eq_true rfl) ⟨by decide, by decide⟩ dX0_splitLine_140 ?_
                intro r9 h9 hp9
                rw [q140_15] at hp9
                rw [hp9.1, hp9.2]
                show TT K ly 0 0 143 [(0, vR 8), (1, vI a), (2, vI 1), (3, vI n), (4, vI ((n + 1) / 2)), (5, vI m)] [vI (((fsr (fsr (h 15) ((n + 1) / 2) n (fun j => dl (fun t => (h 9) (a + 1 * t)) n (j - (n + 1) / 2))) 0 m (fun j => fw (fun t => (h 9) (a + 1 * t)) n j)) ((n + 1) / 2 + max (m - 1) 0) + (fsr (fsr (h 15) ((n + 1) / 2) n (fun j => dl (fun t => (h 9) (a + 1 * t)) n (j - (n + 1) / 2))) 0 m (fun j => fw (fun t => (h 9) (a + 1 * t)) n j)) ((n + 1) / 2 + min m (n / 2 - 1)) + 2) / 4), vI (h 9 (a + 1 * (2 * m))), vI m, vR 15] (setO (setO h 14 (fsr (h 14) 0 n (fun t => (h 9) (a + 1 * t)))) 15 (fsr (fsr (h 15) ((n + 1) / 2) n (fun j => dl (fun t => (h 9) (a + 1 * t)) n (j - (n + 1) / 2))) 0 m (fun j => fw (fun t => (h 9) (a + 1 * t)) n j)))
                refine TT_cgI (b := (dl (fun t => h 9 (a + 1 * t)) n (ck (m - 1) n) + dl (fun t => h 9 (a + 1 * t)) n (ck m n) + 2) / 4) (by exact fourth_s _ (by omega) (by omega) (by omega) (fun _ => rfl)) ?_
                refine TT_iadd hK dX0_splitLine_143 ?_
                refine TT_iast hK (o := 15) (n := 8) (by decide) rfl (by first | omega | (simp [up, setR] <;> omega)) (by first | omega | (simp [up, setR] <;> omega)) dX0_splitLine_144 ?_
                refine TT_hp (h' := setO (setO h 14 (fsr (h 14) 0 n (fun t => (h 9) (a + 1 * t)))) 15 (fup (fsr (fsr (h 15) ((n + 1) / 2) n (fun j => dl (fun t => (h 9) (a + 1 * t)) n (j - (n + 1) / 2))) 0 m (fun j => fw (fun t => (h 9) (a + 1 * t)) n j)) m ((h 9 (a + 1 * (2 * m))) + ((dl (fun t => h 9 (a + 1 * t)) n (ck (m - 1) n) + dl (fun t => h 9 (a + 1 * t)) n (ck m n) + 2) / 4)))) (up_can (sOf_eq _ _ _) rfl (setO_same _ _ _ _)) ?_
                refine TT_iinc hK (v := m + 1) (lv' := [(5, vI (m + 1)), (0, vR 8), (1, vI a), (2, vI 1), (3, vI n), (4, vI ((n + 1) / 2))]) 5 rfl rfl (by decide) rfl dX0_splitLine_145 ?_
                refine TT_goto hK (tgt := 111) dX0_splitLine_148 (by decide) ?_
                refine TT_sub [1, 2, 3, 4, 5, 0] rfl ?_
                refine TT_hp (h' := setO (setO h 14 (fsr (h 14) 0 n (fun t => (h 9) (a + 1 * t)))) 15 (fsr (fsr (h 15) ((n + 1) / 2) n (fun j => dl (fun t => (h 9) (a + 1 * t)) n (j - (n + 1) / 2))) 0 (m + 1) (fun j => fw (fun t => (h 9) (a + 1 * t)) n j))) (setO_cg rfl (by refine fsr_step _ (by omega) ?_; show _ = fw (fun t => h 9 (a + 1 * t)) n m; unfold fw; rw [if_neg (by omega), if_pos (by omega)])) ?_
                exact ih4 (m + 1) (by first | omega | (simp [up, setR] <;> omega)) (by first | omega | (simp [up, setR] <;> omega)) (by first | omega | (simp [up, setR] <;> omega))
          refine TT_sub [1, 2, 3, 4, 5, 0] rfl ?_
          refine TT_hp (h' := setO (setO h 14 (fsr (h 14) 0 n (fun t => (h 9) (a + 1 * t)))) 15 (fsr (fsr (h 15) ((n + 1) / 2) n (fun j => dl (fun t => (h 9) (a + 1 * t)) n (j - (n + 1) / 2))) 0 0 (fun j => fw (fun t => (h 9) (a + 1 * t)) n j))) (setO_cg rfl (by rw [show (n + 1) / 2 + k = n by omega]; exact fsr_0 _ _ _)) ?_
          exact L111_4 ((((9 : Int) - 0).toNat) + 1) 0 (by first | omega | (simp [up, setR] <;> omega)) (by first | omega | (simp [up, setR] <;> omega)) (Nat.lt_succ_self _)
        · refine TT_iconst hK dX0_splitLine_31 ?_
          refine TT_iload hK 5 rfl dX0_splitLine_32 ?_
          refine TT_imul hK dX0_splitLine_34 ?_
          refine TT_iconst hK dX0_splitLine_35 ?_
          refine TT_iadd hK dX0_splitLine_36 ?_
          refine TT_iload_n hK rfl 3 rfl dX0_splitLine_37 ?_
          refine TT_icmp_ge hK (tgt := 55) (irm (by omega) (by omega)) (irm (by omega) (by omega)) dX0_splitLine_38 (by decide) (fun hb38 => ?_) (fun hb38 => ?_)
          · refine TT_aload_n hK rfl 0 rfl dX0_splitLine_55 ?_
            refine gf_X0_27 hK (by decide) rfl (q := 14) rfl rfl dX0_splitLine_56 ?_
            refine TT_iconst hK dX0_splitLine_59 ?_
            refine TT_iload hK 5 rfl dX0_splitLine_60 ?_
            refine TT_imul hK dX0_splitLine_62 ?_
            refine TT_iald hK (o := 14) (n := 8) (by decide) rfl (by first | omega | (simp [up, setR] <;> omega)) (by first | omega | (simp [up, setR] <;> omega)) (v := (fsr (h 14) 0 n (fun t => (h 9) (a + 1 * t))) (2 * k)) (rd_ ((sOf_ne _ _ (by decide)).trans (sOf_eq _ _ _)) rfl) dX0_splitLine_63 ?_
            refine TT_cgI (b := h 9 (a + 1 * (2 * k))) (by rw [fsr_in _ _ (by omega) (by omega)]) ?_
            refine TT_nmI (fun nx hnx => ?_)
            refine TT_istore hK (lv' := [(6, vI nx), (0, vR 8), (1, vI a), (2, vI 1), (3, vI n), (4, vI ((n + 1) / 2)), (5, vI k)]) (by decide) rfl dX0_splitLine_64 ?_
            refine TT_aload_n hK rfl 1 rfl dX0_splitLine_66 ?_
            refine gf_X0_30 hK (by decide) rfl (q := 15) rfl rfl dX0_splitLine_67 ?_
            refine TT_iload hK 5 rfl dX0_splitLine_70 ?_
            refine TT_iload hK 6 rfl dX0_splitLine_72 ?_
            refine TT_iadd hK dX0_splitLine_74 ?_
            refine TT_aload_n hK rfl 1 rfl dX0_splitLine_75 ?_
            refine gf_X0_27 hK (by decide) rfl (q := 14) rfl rfl dX0_splitLine_76 ?_
            refine TT_iconst hK dX0_splitLine_79 ?_
            refine TT_iload hK 6 rfl dX0_splitLine_80 ?_
            refine TT_imul hK dX0_splitLine_82 ?_
            refine TT_iconst hK dX0_splitLine_83 ?_
            refine TT_iadd hK dX0_splitLine_84 ?_
            refine TT_iald hK (o := 14) (n := 8) (by decide) rfl (by first | omega | (simp [up, setR] <;> omega)) (by first | omega | (simp [up, setR] <;> omega)) (v := (fsr (h 14) 0 n (fun t => (h 9) (a + 1 * t))) ((2 * k) + 1)) (rd_ ((sOf_ne _ _ (by decide)).trans (sOf_eq _ _ _)) rfl) dX0_splitLine_85 ?_
            refine TT_cgI (b := h 9 (a + 1 * (2 * k + 1))) (by rw [fsr_in _ _ (by omega) (by omega)]) ?_
            refine TT_aload_n hK rfl 1 rfl dX0_splitLine_86 ?_
            refine gf_X0_27 hK (by decide) rfl (q := 14) rfl rfl dX0_splitLine_87 ?_
            refine TT_iconst hK dX0_splitLine_90 ?_
            refine TT_iload hK 6 rfl dX0_splitLine_91 ?_
            refine TT_imul hK dX0_splitLine_93 ?_
            refine TT_iald hK (o := 14) (n := 8) (by decide) rfl (by first | omega | (simp [up, setR] <;> omega)) (by first | omega | (simp [up, setR] <;> omega)) (v := (fsr (h 14) 0 n (fun t => (h 9) (a + 1 * t))) (2 * k)) (rd_ ((sOf_ne _ _ (by decide)).trans (sOf_eq _ _ _)) rfl) dX0_splitLine_94 ?_
            refine TT_cgI (b := h 9 (a + 1 * (2 * k))) (by rw [fsr_in _ _ (by omega) (by omega)]) ?_
            refine TT_iload hK 0 rfl dX0_splitLine_95 ?_
            refine TT_iadd hK dX0_splitLine_97 ?_
            have b1 : -B ≤ h 9 (a + 1 * (2 * k)) ∧ h 9 (a + 1 * (2 * k)) ≤ B := hbd (2 * k) (by omega) (by omega)
            have b2 : -B ≤ nx ∧ nx ≤ B := by rw [hnx]; first | exact hbd (2 * k + 2) (by omega) (by omega) | exact hbd (2 * k) (by omega) (by omega)
            refine TT_iconst hK dX0_splitLine_98 ?_
            refine TT_ishr hK (irm (by omega) (by omega)) (by omega) (by omega) dX0_splitLine_99 ?_
            refine TT_cgI (b := ((h 9 (a + 1 * (2 * k))) + nx) / 2) rfl ?_
            refine TT_isub hK dX0_splitLine_100 ?_
            refine TT_iast hK (o := 15) (n := 8) (by decide) rfl (by first | omega | (simp [up, setR] <;> omega)) (by first | omega | (simp [up, setR] <;> omega)) dX0_splitLine_101 ?_
            refine TT_hp (h' := setO (setO h 14 (fsr (h 14) 0 n (fun t => (h 9) (a + 1 * t)))) 15 (fup (fsr (h 15) ((n + 1) / 2) ((n + 1) / 2 + k) (fun j => dl (fun t => (h 9) (a + 1 * t)) n (j - (n + 1) / 2))) (((n + 1) / 2) + k) ((h 9 (a + 1 * (2 * k + 1))) - (((h 9 (a + 1 * (2 * k))) + nx) / 2)))) (up_can (sOf_eq _ _ _) rfl (setO_same _ _ _ _)) ?_
            refine TT_iinc hK (v := k + 1) (lv' := [(5, vI (k + 1)), (6, vI nx), (0, vR 8), (1, vI a), (2, vI 1), (3, vI n), (4, vI ((n + 1) / 2))]) 6 rfl rfl (by decide) rfl dX0_splitLine_102 ?_
            refine TT_goto hK (tgt := 23) dX0_splitLine_105 (by decide) ?_
            refine TT_sub [2, 3, 4, 5, 6, 0] rfl ?_
            refine TT_hp (h' := setO (setO h 14 (fsr (h 14) 0 n (fun t => (h 9) (a + 1 * t)))) 15 (fsr (h 15) ((n + 1) / 2) ((n + 1) / 2 + (k + 1)) (fun j => dl (fun t => (h 9) (a + 1 * t)) n (j - (n + 1) / 2)))) (setO_cg rfl (by rw [show (n + 1) / 2 + (k + 1) = ((n + 1) / 2 + k) + 1 by omega]; refine fsr_step _ (by omega) ?_; show _ = dl (fun t => h 9 (a + 1 * t)) n ((n + 1) / 2 + k - (n + 1) / 2); rw [show (n + 1) / 2 + k - (n + 1) / 2 = k by omega, hnx]; unfold dl; first | rw [if_pos (by omega)] | rw [if_neg (by omega)])) ?_
            exact ih2 (k + 1) (by first | omega | (simp [up, setR] <;> omega)) (by first | omega | (simp [up, setR] <;> omega)) (by first | omega | (simp [up, setR] <;> omega))
          · refine TT_aload_n hK rfl 0 rfl dX0_splitLine_41 ?_
            refine gf_X0_27 hK (by decide) rfl (q := 14) rfl rfl dX0_splitLine_42 ?_
            refine TT_iconst hK dX0_splitLine_45 ?_
            refine TT_iload hK 5 rfl dX0_splitLine_46 ?_
            refine TT_imul hK dX0_splitLine_48 ?_
            refine TT_iconst hK dX0_splitLine_49 ?_
            refine TT_iadd hK dX0_splitLine_50 ?_
            refine TT_iald hK (o := 14) (n := 8) (by decide) rfl (by first | omega | (simp [up, setR] <;> omega)) (by first | omega | (simp [up, setR] <;> omega)) (v := (fsr (h 14) 0 n (fun t => (h 9) (a + 1 * t))) ((2 * k) + 2)) (rd_ ((sOf_ne _ _ (by decide)).trans (sOf_eq _ _ _)) rfl) dX0_splitLine_51 ?_
            refine TT_cgI (b := h 9 (a + 1 * (2 * k + 2))) (by rw [fsr_in _ _ (by omega) (by omega)]) ?_
            refine TT_goto hK (tgt := 64) dX0_splitLine_52 (by decide) ?_
            refine TT_nmI (fun nx hnx => ?_)
            refine TT_istore hK (lv' := [(6, vI nx), (0, vR 8), (1, vI a), (2, vI 1), (3, vI n), (4, vI ((n + 1) / 2)), (5, vI k)]) (by decide) rfl dX0_splitLine_64 ?_
            refine TT_aload_n hK rfl 1 rfl dX0_splitLine_66 ?_
            refine gf_X0_30 hK (by decide) rfl (q := 15) rfl rfl dX0_splitLine_67 ?_
            refine TT_iload hK 5 rfl dX0_splitLine_70 ?_
            refine TT_iload hK 6 rfl dX0_splitLine_72 ?_
            refine TT_iadd hK dX0_splitLine_74 ?_
            refine TT_aload_n hK rfl 1 rfl dX0_splitLine_75 ?_
            refine gf_X0_27 hK (by decide) rfl (q := 14) rfl rfl dX0_splitLine_76 ?_
            refine TT_iconst hK dX0_splitLine_79 ?_
            refine TT_iload hK 6 rfl dX0_splitLine_80 ?_
            refine TT_imul hK dX0_splitLine_82 ?_
            refine TT_iconst hK dX0_splitLine_83 ?_
            refine TT_iadd hK dX0_splitLine_84 ?_
            refine TT_iald hK (o := 14) (n := 8) (by decide) rfl (by first | omega | (simp [up, setR] <;> omega)) (by first | omega | (simp [up, setR] <;> omega)) (v := (fsr (h 14) 0 n (fun t => (h 9) (a + 1 * t))) ((2 * k) + 1)) (rd_ ((sOf_ne _ _ (by decide)).trans (sOf_eq _ _ _)) rfl) dX0_splitLine_85 ?_
            refine TT_cgI (b := h 9 (a + 1 * (2 * k + 1))) (by rw [fsr_in _ _ (by omega) (by omega)]) ?_
            refine TT_aload_n hK rfl 1 rfl dX0_splitLine_86 ?_
            refine gf_X0_27 hK (by decide) rfl (q := 14) rfl rfl dX0_splitLine_87 ?_
            refine TT_iconst hK dX0_splitLine_90 ?_
            refine TT_iload hK 6 rfl dX0_splitLine_91 ?_
            refine TT_imul hK dX0_splitLine_93 ?_
            refine TT_iald hK (o := 14) (n := 8) (by decide) rfl (by first | omega | (simp [up, setR] <;> omega)) (by first | omega | (simp [up, setR] <;> omega)) (v := (fsr (h 14) 0 n (fun t => (h 9) (a + 1 * t))) (2 * k)) (rd_ ((sOf_ne _ _ (by decide)).trans (sOf_eq _ _ _)) rfl) dX0_splitLine_94 ?_
            refine TT_cgI (b := h 9 (a + 1 * (2 * k))) (by rw [fsr_in _ _ (by omega) (by omega)]) ?_
            refine TT_iload hK 0 rfl dX0_splitLine_95 ?_
            refine TT_iadd hK dX0_splitLine_97 ?_
            have b1 : -B ≤ h 9 (a + 1 * (2 * k)) ∧ h 9 (a + 1 * (2 * k)) ≤ B := hbd (2 * k) (by omega) (by omega)
            have b2 : -B ≤ nx ∧ nx ≤ B := by rw [hnx]; first | exact hbd (2 * k + 2) (by omega) (by omega) | exact hbd (2 * k) (by omega) (by omega)
            refine TT_iconst hK dX0_splitLine_98 ?_
            refine TT_ishr hK (irm (by omega) (by omega)) (by omega) (by omega) dX0_splitLine_99 ?_
            refine TT_cgI (b := ((h 9 (a + 1 * (2 * k))) + nx) / 2) rfl ?_
            refine TT_isub hK dX0_splitLine_100 ?_
            refine TT_iast hK (o := 15) (n := 8) (by decide) rfl (by first | omega | (simp [up, setR] <;> omega)) (by first | omega | (simp [up, setR] <;> omega)) dX0_splitLine_101 ?_
            refine TT_hp (h' := setO (setO h 14 (fsr (h 14) 0 n (fun t => (h 9) (a + 1 * t)))) 15 (fup (fsr (h 15) ((n + 1) / 2) ((n + 1) / 2 + k) (fun j => dl (fun t => (h 9) (a + 1 * t)) n (j - (n + 1) / 2))) (((n + 1) / 2) + k) ((h 9 (a + 1 * (2 * k + 1))) - (((h 9 (a + 1 * (2 * k))) + nx) / 2)))) (up_can (sOf_eq _ _ _) rfl (setO_same _ _ _ _)) ?_
            refine TT_iinc hK (v := k + 1) (lv' := [(5, vI (k + 1)), (6, vI nx), (0, vR 8), (1, vI a), (2, vI 1), (3, vI n), (4, vI ((n + 1) / 2))]) 6 rfl rfl (by decide) rfl dX0_splitLine_102 ?_
            refine TT_goto hK (tgt := 23) dX0_splitLine_105 (by decide) ?_
            refine TT_sub [2, 3, 4, 5, 6, 0] rfl ?_
            refine TT_hp (h' := setO (setO h 14 (fsr (h 14) 0 n (fun t => (h 9) (a + 1 * t)))) 15 (fsr (h 15) ((n + 1) / 2) ((n + 1) / 2 + (k + 1)) (fun j => dl (fun t => (h 9) (a + 1 * t)) n (j - (n + 1) / 2)))) (setO_cg rfl (by rw [show (n + 1) / 2 + (k + 1) = ((n + 1) / 2 + k) + 1 by omega]; refine fsr_step _ (by omega) ?_; show _ = dl (fun t => h 9 (a + 1 * t)) n ((n + 1) / 2 + k - (n + 1) / 2); rw [show (n + 1) / 2 + k - (n + 1) / 2 = k by omega, hnx]; unfold dl; first | rw [if_pos (by omega)] | rw [if_neg (by omega)])) ?_
            exact ih2 (k + 1) (by first | omega | (simp [up, setR] <;> omega)) (by first | omega | (simp [up, setR] <;> omega)) (by first | omega | (simp [up, setR] <;> omega))
    refine TT_sub [2, 3, 4, 5, 1, 0] rfl ?_
    refine TT_hp (h' := setO (setO h 14 (fsr (h 14) 0 n (fun t => (h 9) (a + 1 * t)))) 15 (fsr (h 15) ((n + 1) / 2) ((n + 1) / 2 + 0) (fun j => dl (fun t => (h 9) (a + 1 * t)) n (j - (n + 1) / 2)))) ((setO_new ((sOf_ne _ _ (by decide)).trans (by rw [show (n + 1) / 2 + 0 = (n + 1) / 2 by omega]; exact fsr_0 _ _ _))).trans (setO_cg rfl rfl)) ?_
    exact L23_2 ((((9 : Int) - 0).toNat) + 1) 0 (by first | omega | (simp [up, setR] <;> omega)) (by first | omega | (simp [up, setR] <;> omega)) (Nat.lt_succ_self _)
  · refine TT_vret hK hQ ?_ dX0_splitLine_5
    exact ⟨(h 14), (h 15), rfl, (setO_new (by rfl)).trans (setO_cg ((setO_new (by rfl)).trans (setO_cg ((setO_new (by obtain rfl : n = 1 := (by omega); exact wrs1 _ _ _)).trans (setO_cg rfl rfl)) rfl)) rfl)⟩
set_option maxRecDepth 20000 in
theorem c_X0_goForth_8 (h : Hp_) (hW : 1 ≤ (h 8 7) ∧ (h 8 7) ≤ 8) (hE : 1 ≤ (h 8 8) ∧ (h 8 8) ≤ 8) (hL : 0 ≤ (h 8 9) ∧ (h 8 9) ≤ 3) (hs : bdr (h 9) 64 128) : Ctr yX0_goForth cX0_goForth 5 none (rmd 3) ly ly 0 0 [vR 8] h (fun r h' => ∃ j14 : Int → Int, ∃ j15 : Int → Int, r = none ∧ h' = setO (setO (setO h 9 (fwdL (h 9) (h 8 7) (h 8 8) ((h 8 9)).toNat)) 14 j14) 15 j15) := by
  refine Ctr_of (by decide) (Nat.le_of_ble_eq_true rfl) ⟨Nat.le_refl _, Nat.le_refl _⟩ (fun K hK hQ _ => ?_)
  show TT K ly 0 0 0 [(0, vR 8)] [] h
  refine TT_iconst hK dX0_goForth_0 ?_
  refine TT_istore_n hK rfl (lv' := [(1, vI 0), (0, vR 8)]) (by decide) rfl dX0_goForth_1 ?_
  have L2_1 : ∀ (k1 : Nat) (l : Int) (k14 : Int → Int) (k15 : Int → Int), (0 ≤ l) → (l ≤ h 8 9) → ((9 : Int) - l).toNat < k1 → TT K ly 0 0 2 [(0, vR 8), (1, vI l)] [] (setO (setO (setO h 9 (fwdL (h 9) (h 8 7) (h 8 8) l.toNat)) 14 k14) 15 k15) := by
    intro k1
    induction k1 with
    | zero => intro l k14 k15 hl0 hl1 hk1; exact absurd hk1 (Nat.not_lt_zero _)
    | succ k1 ih1 =>
      intro l k14 k15 hl0 hl1 hk1
      refine TT_iload_n hK rfl 1 rfl dX0_goForth_2 ?_
      refine TT_aload_n hK rfl 0 rfl dX0_goForth_3 ?_
      refine gf_X0_40 hK (by decide) rfl (v := (h 8) 9) (rd_ ((sOf_ne _ _ (by decide)).trans ((sOf_ne _ _ (by decide)).trans (sOf_ne _ _ (by decide)))) rfl) dX0_goForth_4 ?_
      refine TT_icmp_ge hK (tgt := 84) (irm (by omega) (by omega)) (irm (by omega) (by omega)) dX0_goForth_7 (by decide) (fun hb7 => ?_) (fun hb7 => ?_)
      · refine TT_vret hK hQ ?_ dX0_goForth_84
        exact ⟨k14, k15, rfl, setO_cg (setO_cg (setO_cg rfl (by rw [show l = h 8 9 by omega])) rfl) rfl⟩
      · refine TT_aload_n hK rfl 0 rfl dX0_goForth_10 ?_
        refine gf_X0_33 hK (by decide) rfl (v := (h 8) 7) (rd_ ((sOf_ne _ _ (by decide)).trans ((sOf_ne _ _ (by decide)).trans (sOf_ne _ _ (by decide)))) rfl) dX0_goForth_11 ?_
        refine TT_iload_n hK rfl 1 rfl dX0_goForth_14 ?_
        refine iv_X0_46 hK (c_X0_sideAfter ((h 8) 7) l (setO (setO (setO h 9 (fwdL (h 9) (h 8 7) (h 8 8) l.toNat)) 14 k14) 15 k15) (by first | omega | (simp [up, setR] <;> omega)) (by first | omega | (simp [up, setR] <;> omega))) ⟨by decide, by decide⟩ (by decide) rfl rfl (Nat.le_of_ble_eq_true rfl) ⟨by decide, by decide⟩ dX0_goForth_15 ?_
        intro r9 h9 hp9
        rw [hp9.1, hp9.2]
        show TT K ly 0 0 18 [(0, vR 8), (1, vI l)] [vI (lft ((h 8) 7) l)] (setO (setO (setO h 9 (fwdL (h 9) (h 8 7) (h 8 8) l.toNat)) 14 k14) 15 k15)
        refine TT_istore_n hK rfl (lv' := [(2, vI (lft ((h 8) 7) l)), (0, vR 8), (1, vI l)]) (by decide) rfl dX0_goForth_18 ?_
        refine TT_aload_n hK rfl 1 rfl dX0_goForth_19 ?_
        refine gf_X0_37 hK (by decide) rfl (v := (h 8) 8) (rd_ ((sOf_ne _ _ (by decide)).trans ((sOf_ne _ _ (by decide)).trans (sOf_ne _ _ (by decide)))) rfl) dX0_goForth_20 ?_
        refine TT_iload_n hK rfl 2 rfl dX0_goForth_23 ?_
        refine iv_X0_46 hK (c_X0_sideAfter ((h 8) 8) l (setO (setO (setO h 9 (fwdL (h 9) (h 8 7) (h 8 8) l.toNat)) 14 k14) 15 k15) (by first | omega | (simp [up, setR] <;> omega)) (by first | omega | (simp [up, setR] <;> omega))) ⟨by decide, by decide⟩ (by decide) rfl rfl (Nat.le_of_ble_eq_true rfl) ⟨by decide, by decide⟩ dX0_goForth_24 ?_
        intro r9 h9 hp9
        rw [hp9.1, hp9.2]
        show TT K ly 0 0 27 [(2, vI (lft ((h 8) 7) l)), (0, vR 8), (1, vI l)] [vI (lft ((h 8) 8) l)] (setO (setO (setO h 9 (fwdL (h 9) (h 8 7) (h 8 8) l.toNat)) 14 k14) 15 k15)
        refine TT_istore_n hK rfl (lv' := [(3, vI (lft ((h 8) 8) l)), (2, vI (lft ((h 8) 7) l)), (0, vR 8), (1, vI l)]) (by decide) rfl dX0_goForth_27 ?_
        have r1 := lft_r hW (l := l) (by omega)
        have r2 := lft_r hE (l := l) (by omega)
        have f0 := fwdL_bd hs hW hE l.toNat (by omega)
        have f1 := bL_le hl0 (by omega)
        have f2 := colF_bd f0.2 f0.1 r2.1 r2.2 (n := (lft (h 8 7) l).toNat) (by omega)
        refine TT_iconst hK dX0_goForth_28 ?_
        refine TT_istore hK (lv' := [(4, vI 0), (3, vI (lft ((h 8) 8) l)), (2, vI (lft ((h 8) 7) l)), (0, vR 8), (1, vI l)]) (by decide) rfl dX0_goForth_29 ?_
        have L31_3 : ∀ (k3 : Nat) (x : Int) (m14 : Int → Int) (m15 : Int → Int), (0 ≤ x) → (x ≤ lft (h 8 7) l) → ((9 : Int) - x).toNat < k3 → TT K ly 0 0 31 [(0, vR 8), (1, vI l), (2, vI (lft ((h 8) 7) l)), (3, vI (lft ((h 8) 8) l)), (4, vI x)] [] (setO (setO (setO h 9 (colF (fwdL (h 9) (h 8 7) (h 8 8) l.toNat) (lft (h 8 8) l) x.toNat)) 14 m14) 15 m15) := by
          intro k3
          induction k3 with
          | zero => intro x m14 m15 hx0 hx1 hk3; exact absurd hk3 (Nat.not_lt_zero _)
          | succ k3 ih3 =>
            intro x m14 m15 hx0 hx1 hk3
            refine TT_iload hK 4 rfl dX0_goForth_31 ?_
            refine TT_iload_n hK rfl 2 rfl dX0_goForth_33 ?_
            refine TT_icmp_ge hK (tgt := 52) (irm (by omega) (by omega)) (irm (by omega) (by omega)) dX0_goForth_34 (by decide) (fun hb34 => ?_) (fun hb34 => ?_)
            · refine TT_iconst hK dX0_goForth_52 ?_
              refine TT_istore hK (lv' := [(4, vI 0), (0, vR 8), (1, vI l), (2, vI (lft ((h 8) 7) l)), (3, vI (lft ((h 8) 8) l))]) (by decide) rfl dX0_goForth_53 ?_
              have L55_5 : ∀ (k5 : Nat) (y : Int) (n14 : Int → Int) (n15 : Int → Int), (0 ≤ y) → (y ≤ lft (h 8 8) l) → ((9 : Int) - y).toNat < k5 → TT K ly 0 0 55 [(0, vR 8), (1, vI l), (2, vI (lft ((h 8) 7) l)), (3, vI (lft ((h 8) 8) l)), (4, vI y)] [] (setO (setO (setO h 9 (rowF (colF (fwdL (h 9) (h 8 7) (h 8 8) l.toNat) (lft (h 8 8) l) (lft (h 8 7) l).toNat) (lft (h 8 7) l) y.toNat)) 14 n14) 15 n15) := by
                intro k5
                induction k5 with
                | zero => intro y n14 n15 hy0 hy1 hk5; exact absurd hk5 (Nat.not_lt_zero _)
                | succ k5 ih5 =>
                  intro y n14 n15 hy0 hy1 hk5
                  refine TT_iload hK 4 rfl dX0_goForth_55 ?_
                  refine TT_iload_n hK rfl 3 rfl dX0_goForth_57 ?_
                  refine TT_icmp_ge hK (tgt := 78) (irm (by omega) (by omega)) (irm (by omega) (by omega)) dX0_goForth_58 (by decide) (fun hb58 => ?_) (fun hb58 => ?_)
                  · refine TT_iinc hK (v := l + 1) (lv' := [(1, vI (l + 1)), (0, vR 8), (2, vI (lft ((h 8) 7) l)), (3, vI (lft ((h 8) 8) l)), (4, vI y)]) 1 rfl rfl (by decide) rfl dX0_goForth_78 ?_
                    refine TT_goto hK (tgt := 2) dX0_goForth_81 (by decide) ?_
                    refine TT_sub [1, 0] rfl ?_
                    refine TT_hp (h' := setO (setO (setO h 9 (fwdL (h 9) (h 8 7) (h 8 8) (l + 1).toNat)) 14 n14) 15 n15) (setO_cg (setO_cg (setO_cg rfl (by rw [show y = lft (h 8 8) l by omega]; exact fwdL_step _ _ _ (by omega))) rfl) rfl) ?_
                    exact ih1 (l + 1) n14 n15 (by first | omega | (simp [up, setR] <;> omega)) (by first | omega | (simp [up, setR] <;> omega)) (by first | omega | (simp [up, setR] <;> omega))
                  · refine TT_aload_n hK rfl 0 rfl dX0_goForth_61 ?_
                    refine TT_iload hK 4 rfl dX0_goForth_62 ?_
                    refine TT_bipush hK (by decide) dX0_goForth_64 ?_
                    refine TT_imul hK dX0_goForth_66 ?_
                    refine TT_iconst hK dX0_goForth_67 ?_
                    refine TT_iload_n hK rfl 2 rfl dX0_goForth_68 ?_
                    have q69_9 : (setO (setO (setO h 9 (rowF (colF (fwdL (h 9) (h 8 7) (h 8 8) l.toNat) (lft (h 8 8) l) (lft (h 8 7) l).toNat) (lft (h 8 7) l) y.toNat)) 14 n14) 15 n15) 9 = rowF (colF (fwdL (h 9) (h 8 7) (h 8 8) l.toNat) (lft (h 8 8) l) (lft (h 8 7) l).toNat) (lft (h 8 7) l) y.toNat := (sOf_ne _ _ (by decide)).trans ((sOf_ne _ _ (by decide)).trans (sOf_eq _ _ _))
                    refine iv_X0_84 hK (c_splitLine_8_1 (y * 8) (lft ((h 8) 7) l) 20000 (setO (setO (setO h 9 (rowF (colF (fwdL (h 9) (h 8 7) (h 8 8) l.toNat) (lft (h 8 8) l) (lft (h 8 7) l).toNat) (lft (h 8 7) l) y.toNat)) 14 n14) 15 n15) (by first | omega | (simp [up, setR] <;> omega)) (by first | omega | (simp [up, setR] <;> omega)) (by first | omega | (simp [up, setR] <;> omega)) (by rw [q69_9]; intro k k0 k1; show _ ≤ rowF _ _ _ (y * 8 + 1 * k) ∧ rowF _ _ _ (y * 8 + 1 * k) ≤ _; rw [show y * 8 + 1 * k = 8 * y + k by omega, rowF_out _ (by omega) (by omega) _ (by omega)]; exact bdr_le f2 (by omega) _ (by omega) (by omega)) (by omega)) (by decide) rfl ⟨by decide, by decide⟩ (by decide) rfl rfl (Nat.le_of_ble_eq_true rfl) ⟨by decide, by decide⟩ dX0_goForth_69 ?_
                    intro r9 h9 hp9
                    obtain ⟨j14_69, hp9⟩ := hp9
                    obtain ⟨j15_69, hp9⟩ := hp9
                    rw [q69_9] at hp9
                    rw [hp9.1, hp9.2]
                    refine TT_hp (h' := setO (setO (setO h 9 (wrs (rowF (colF (fwdL (h 9) (h 8 7) (h 8 8) l.toNat) (lft (h 8 8) l) (lft (h 8 7) l).toNat) (lft (h 8 7) l) y.toNat) (y * 8) 1 (fw (fun t => (rowF (colF (fwdL (h 9) (h 8 7) (h 8 8) l.toNat) (lft (h 8 8) l) (lft (h 8 7) l).toNat) (lft (h 8 7) l) y.toNat) ((y * 8) + 1 * t)) (lft ((h 8) 7) l)) (lft ((h 8) 7) l).toNat)) 14 j14_69) 15 j15_69) ((setO_cg ((setO_cg ((setO_comm _ _ _ (by decide)).trans (setO_cg ((setO_comm _ _ _ (by decide)).trans (setO_cg (setO_same _ _ _ _) rfl)) rfl)) rfl).trans ((setO_comm _ _ _ (by decide)).trans (setO_cg (setO_same _ _ _ _) rfl))) rfl).trans (setO_same _ _ _ _)) ?_
                    show TT K ly 0 0 72 [(0, vR 8), (1, vI l), (2, vI (lft ((h 8) 7) l)), (3, vI (lft ((h 8) 8) l)), (4, vI y)] [] (setO (setO (setO h 9 (wrs (rowF (colF (fwdL (h 9) (h 8 7) (h 8 8) l.toNat) (lft (h 8 8) l) (lft (h 8 7) l).toNat) (lft (h 8 7) l) y.toNat) (y * 8) 1 (fw (fun t => (rowF (colF (fwdL (h 9) (h 8 7) (h 8 8) l.toNat) (lft (h 8 8) l) (lft (h 8 7) l).toNat) (lft (h 8 7) l) y.toNat) ((y * 8) + 1 * t)) (lft ((h 8) 7) l)) (lft ((h 8) 7) l).toNat)) 14 j14_69) 15 j15_69)
                    refine TT_iinc hK (v := y + 1) (lv' := [(4, vI (y + 1)), (0, vR 8), (1, vI l), (2, vI (lft ((h 8) 7) l)), (3, vI (lft ((h 8) 8) l))]) 4 rfl rfl (by decide) rfl dX0_goForth_72 ?_
                    refine TT_goto hK (tgt := 55) dX0_goForth_75 (by decide) ?_
                    refine TT_sub [1, 2, 3, 4, 0] rfl ?_
                    refine TT_hp (h' := setO (setO (setO h 9 (rowF (colF (fwdL (h 9) (h 8 7) (h 8 8) l.toNat) (lft (h 8 8) l) (lft (h 8 7) l).toNat) (lft (h 8 7) l) (y + 1).toNat)) 14 j14_69) 15 j15_69) (setO_cg (setO_cg (setO_cg rfl (by rw [show y * 8 = 8 * y by omega]; exact rowF_step _ _ (by omega))) rfl) rfl) ?_
                    exact ih5 (y + 1) j14_69 j15_69 (by first | omega | (simp [up, setR] <;> omega)) (by first | omega | (simp [up, setR] <;> omega)) (by first | omega | (simp [up, setR] <;> omega))
              refine TT_sub [1, 2, 3, 4, 0] rfl ?_
              refine TT_hp (h' := setO (setO (setO h 9 (rowF (colF (fwdL (h 9) (h 8 7) (h 8 8) l.toNat) (lft (h 8 8) l) (lft (h 8 7) l).toNat) (lft (h 8 7) l) (0 : Int).toNat)) 14 m14) 15 m15) (setO_cg (setO_cg (setO_cg rfl (by rw [show x = lft (h 8 7) l by omega]; rfl)) rfl) rfl) ?_
              exact L55_5 ((((9 : Int) - 0).toNat) + 1) 0 m14 m15 (by first | omega | (simp [up, setR] <;> omega)) (by first | omega | (simp [up, setR] <;> omega)) (Nat.lt_succ_self _)
            · refine TT_aload_n hK rfl 0 rfl dX0_goForth_37 ?_
              refine TT_iload hK 4 rfl dX0_goForth_38 ?_
              refine TT_bipush hK (by decide) dX0_goForth_40 ?_
              refine TT_iload_n hK rfl 3 rfl dX0_goForth_42 ?_
              have q43_9 : (setO (setO (setO h 9 (colF (fwdL (h 9) (h 8 7) (h 8 8) l.toNat) (lft (h 8 8) l) x.toNat)) 14 m14) 15 m15) 9 = colF (fwdL (h 9) (h 8 7) (h 8 8) l.toNat) (lft (h 8 8) l) x.toNat := (sOf_ne _ _ (by decide)).trans ((sOf_ne _ _ (by decide)).trans (sOf_eq _ _ _))
              refine iv_X0_84 hK (c_splitLine_8_8 x (lft ((h 8) 8) l) 20000 (setO (setO (setO h 9 (colF (fwdL (h 9) (h 8 7) (h 8 8) l.toNat) (lft (h 8 8) l) x.toNat)) 14 m14) 15 m15) (by first | omega | (simp [up, setR] <;> omega)) (by first | omega | (simp [up, setR] <;> omega)) (by first | omega | (simp [up, setR] <;> omega)) (by rw [q43_9]; intro k k0 k1; show _ ≤ colF _ _ _ (x + 8 * k) ∧ colF _ _ _ (x + 8 * k) ≤ _; rw [colF_out _ _ (by omega) _ (by omega)]; exact bdr_le f0.2 (by omega) _ (by omega) (by omega)) (by omega)) (by decide) rfl ⟨by decide, by decide⟩ (by decide) rfl rfl (Nat.le_of_ble_eq_true rfl) ⟨by decide, by decide⟩ dX0_goForth_43 ?_
              intro r9 h9 hp9
              obtain ⟨j14_43, hp9⟩ := hp9
              obtain ⟨j15_43, hp9⟩ := hp9
              rw [q43_9] at hp9
              rw [hp9.1, hp9.2]
              refine TT_hp (h' := setO (setO (setO h 9 (wrs (colF (fwdL (h 9) (h 8 7) (h 8 8) l.toNat) (lft (h 8 8) l) x.toNat) x 8 (fw (fun t => (colF (fwdL (h 9) (h 8 7) (h 8 8) l.toNat) (lft (h 8 8) l) x.toNat) (x + 8 * t)) (lft ((h 8) 8) l)) (lft ((h 8) 8) l).toNat)) 14 j14_43) 15 j15_43) ((setO_cg ((setO_cg ((setO_comm _ _ _ (by decide)).trans (setO_cg ((setO_comm _ _ _ (by decide)).trans (setO_cg (setO_same _ _ _ _) rfl)) rfl)) rfl).trans ((setO_comm _ _ _ (by decide)).trans (setO_cg (setO_same _ _ _ _) rfl))) rfl).trans (setO_same _ _ _ _)) ?_
              show TT K ly 0 0 46 [(0, vR 8), (1, vI l), (2, vI (lft ((h 8) 7) l)), (3, vI (lft ((h 8) 8) l)), (4, vI x)] [] (setO (setO (setO h 9 (wrs (colF (fwdL (h 9) (h 8 7) (h 8 8) l.toNat) (lft (h 8 8) l) x.toNat) x 8 (fw (fun t => (colF (fwdL (h 9) (h 8 7) (h 8 8) l.toNat) (lft (h 8 8) l) x.toNat) (x + 8 * t)) (lft ((h 8) 8) l)) (lft ((h 8) 8) l).toNat)) 14 j14_43) 15 j15_43)
              refine TT_iinc hK (v := x + 1) (lv' := [(4, vI (x + 1)), (0, vR 8), (1, vI l), (2, vI (lft ((h 8) 7) l)), (3, vI (lft ((h 8) 8) l))]) 4 rfl rfl (by decide) rfl dX0_goForth_46 ?_
              refine TT_goto hK (tgt := 31) dX0_goForth_49 (by decide) ?_
              refine TT_sub [1, 2, 3, 4, 0] rfl ?_
              refine TT_hp (h' := setO (setO (setO h 9 (colF (fwdL (h 9) (h 8 7) (h 8 8) l.toNat) (lft (h 8 8) l) (x + 1).toNat)) 14 j14_43) 15 j15_43) (setO_cg (setO_cg (setO_cg rfl (by exact colF_step _ _ (by omega))) rfl) rfl) ?_
              exact ih3 (x + 1) j14_43 j15_43 (by first | omega | (simp [up, setR] <;> omega)) (by first | omega | (simp [up, setR] <;> omega)) (by first | omega | (simp [up, setR] <;> omega))
        refine TT_sub [3, 4, 2, 1, 0] rfl ?_
        refine TT_hp (h' := setO (setO (setO h 9 (colF (fwdL (h 9) (h 8 7) (h 8 8) l.toNat) (lft (h 8 8) l) (0 : Int).toNat)) 14 k14) 15 k15) (setO_cg (setO_cg (setO_cg rfl (by rfl)) rfl) rfl) ?_
        exact L31_3 ((((9 : Int) - 0).toNat) + 1) 0 k14 k15 (by first | omega | (simp [up, setR] <;> omega)) (by first | omega | (simp [up, setR] <;> omega)) (Nat.lt_succ_self _)
  refine TT_sub [1, 0] rfl ?_
  refine TT_hp (h' := setO (setO (setO h 9 (fwdL (h 9) (h 8 7) (h 8 8) (0 : Int).toNat)) 14 (h 14)) 15 (h 15)) ((setO_new (by rfl)).trans (setO_cg ((setO_new (by rfl)).trans (setO_cg ((setO_new (by rfl)).trans (setO_cg rfl rfl)) rfl)) rfl)) ?_
  exact L2_1 ((((9 : Int) - 0).toNat) + 1) 0 (h 14) (h 15) (by first | omega | (simp [up, setR] <;> omega)) (by first | omega | (simp [up, setR] <;> omega)) (Nat.lt_succ_self _)

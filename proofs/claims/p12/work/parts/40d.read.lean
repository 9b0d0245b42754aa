set_option maxRecDepth 20000 in
theorem s_X7_tellTo_24 (h : Hp_) (hT : TY h) (ht : 1 ≤ (h 34 5)) (hl : 1 ≤ (h 34 2)) : Ctr yX7_tellTo cX7_tellTo 3 none (rmd 3) ly ly 0 0 [vR 24, vR 34] h (fun r h' => (TY h' ∧ FR [34, 36, 37, 38] h h') ∧ r = none ∧ (1 ≤ (h' 34 5)) ∧ (1 ≤ (h' 34 2))) := by
  refine Ctr_of (by decide) (Nat.le_of_ble_eq_true rfl) ⟨Nat.le_refl _, Nat.le_refl _⟩ (fun K hK hQ _ => ?_)
  show TT K ly 0 0 0 [(0, vR 24), (1, vR 34)] [] h
  have hF : FR [34, 36, 37, 38] h h := FR_rf _ _
  refine TT_iconst hK dX7_tellTo_0 ?_
  refine TT_istore_n hK rfl (lv' := [(2, vI 0), (0, vR 24), (1, vR 34)]) (by decide) rfl dX7_tellTo_1 ?_
  have L2_1 : ∀ (k1 : Nat) (i : Int) (w2_1 : Hp_), TY w2_1 → FR [34, 36, 37, 38] h w2_1 → (0 ≤ i ∧ i ≤ 1024) → (1 ≤ (w2_1 34 5)) → (1 ≤ (w2_1 34 2)) → ((1024 : Int) - i).toNat < k1 → TT K ly 0 0 2 [(0, vR 24), (1, vR 34), (2, vI i)] [] w2_1 := by
    intro k1
    induction k1 with
    | zero => intro i w2_1 hT2_1 hF2_1 hi hv1 hv2 hk1; exact absurd hk1 (Nat.not_lt_zero _)
    | succ k1 ih1 =>
      intro i w2_1 hT2_1 hF2_1 hi hv1 hv2 hk1
      refine TT_iload_n hK rfl 2 rfl dX7_tellTo_2 ?_
      refine TT_aload_n hK rfl 0 rfl dX7_tellTo_3 ?_
      refine gf_X7_21 hK (by decide) rfl (v := (h 24) 3) (rd_ (hF2_1 24 (by decide)) rfl) dX7_tellTo_4 ?_
      have r2 := ty_24_3 (v := (h 24) 3) hT2_1 (rd_ (hF2_1 24 (by decide)) rfl)
      refine TT_icmp_ge hK (tgt := 32) (irm (by omega) (by omega)) (irm (by omega) (by omega)) dX7_tellTo_7 (by decide) (fun hb7_3 => ?_) (fun hb7_3 => ?_)
      · refine TT_vret hK hQ ?_ dX7_tellTo_32
        have e4_34_5 : w2_1 34 5 = (w2_1 34) 5 := rfl
        have e5_34_2 : w2_1 34 2 = (w2_1 34) 2 := rfl
        exact ⟨⟨hT2_1, hF2_1⟩, rfl, (by rw [e4_34_5]; omega), (by rw [e5_34_2]; omega)⟩
      · refine TT_aload_n hK rfl 1 rfl dX7_tellTo_10 ?_
        refine TT_aload_n hK rfl 0 rfl dX7_tellTo_11 ?_
        refine gf_X7_9 hK (by decide) rfl (q := 25) rfl rfl dX7_tellTo_12 ?_
        refine TT_iload_n hK rfl 2 rfl dX7_tellTo_15 ?_
        refine TT_iald hK (o := 25) (n := 1024) (by decide) rfl (by first | omega | (simp [up, setR] <;> omega)) (by first | omega | (simp [up, setR] <;> omega)) (v := (h 25) i) (rd_ (hF2_1 25 (by decide)) rfl) dX7_tellTo_16 ?_
        have r6 := ty_25 (i := i) (v := (h 25) i) hT2_1 (rd_ (hF2_1 25 (by decide)) rfl) (by omega) (by omega)
        refine TT_aload_n hK rfl 0 rfl dX7_tellTo_17 ?_
        refine gf_X7_15 hK (by decide) rfl (q := 26) rfl rfl dX7_tellTo_18 ?_
        refine TT_iload_n hK rfl 2 rfl dX7_tellTo_21 ?_
        refine TT_iald hK (o := 26) (n := 1024) (by decide) rfl (by first | omega | (simp [up, setR] <;> omega)) (by first | omega | (simp [up, setR] <;> omega)) (v := (h 26) i) (rd_ (hF2_1 26 (by decide)) rfl) dX7_tellTo_22 ?_
        have r7 := ty_26 (i := i) (v := (h 26) i) hT2_1 (rd_ (hF2_1 26 (by decide)) rfl) (by omega) (by omega)
        have e8_34_5 : w2_1 34 5 = (w2_1 34) 5 := rfl
        have e9_34_2 : w2_1 34 2 = (w2_1 34) 2 := rfl
        refine iv_X7_28 hK (s_X8_tell_34 ((h 25) i) ((h 26) i) w2_1 hT2_1 (by first | omega | (simp [up, setR] <;> omega)) (by first | omega | (simp [up, setR] <;> omega)) (by rw [e8_34_5]; first | omega | (simp [up, setR] <;> omega)) (by rw [e9_34_2]; first | omega | (simp [up, setR] <;> omega))) (by decide) rfl ⟨by decide, by decide⟩ (by decide) rfl rfl (Nat.le_of_ble_eq_true rfl) ⟨by decide, by decide⟩ dX7_tellTo_23 ?_
        intro r9 g23_10 hp9
        obtain ⟨⟨hT_10, hG_10⟩, hr9, p1_10, p2_10⟩ := hp9
        rw [hr9]
        have hF_10 : FR [34, 36, 37, 38] h g23_10 := FR_tr hF2_1 hG_10 (by decide)
        show TT K ly 0 0 26 [(0, vR 24), (1, vR 34), (2, vI i)] [] g23_10
        refine TT_iinc hK (v := i + 1) (lv' := [(2, vI (i + 1)), (0, vR 24), (1, vR 34)]) 2 rfl rfl (by decide) rfl dX7_tellTo_26 ?_
        refine TT_goto hK (tgt := 2) dX7_tellTo_29 (by decide) ?_
        refine TT_sub [1, 2, 0] rfl ?_
        have e11_34_5 : g23_10 34 5 = (g23_10 34) 5 := rfl
        have e12_34_2 : g23_10 34 2 = (g23_10 34) 2 := rfl
        exact ih1 (i + 1) g23_10 hT_10 hF_10 (by first | omega | (simp [up, setR] <;> omega)) (by rw [e11_34_5]; first | omega | (simp [up, setR] <;> omega)) (by rw [e12_34_2]; first | omega | (simp [up, setR] <;> omega)) (by first | omega | (simp [up, setR] <;> omega))
  refine TT_sub [1, 2, 0] rfl ?_
  have e13_34_5 : h 34 5 = (h 34) 5 := rfl
  have e14_34_2 : h 34 2 = (h 34) 2 := rfl
  exact L2_1 ((((1024 : Int) - 0).toNat) + 1) 0 h hT hF (by first | omega | (simp [up, setR] <;> omega)) (by rw [e13_34_5]; first | omega | (simp [up, setR] <;> omega)) (by rw [e14_34_2]; first | omega | (simp [up, setR] <;> omega)) (Nat.lt_succ_self _)
set_option maxRecDepth 20000 in
theorem s_X6_clear_39 (h : Hp_) (hT : TY h)  : Ctr yX6_clear cX6_clear 1 none (rmd 0) ly ly 0 0 [vR 39] h (fun r h' => (TY h' ∧ FR [39] h h') ∧ r = none) := by
  refine Ctr_of (by decide) (Nat.le_of_ble_eq_true rfl) ⟨Nat.le_refl _, Nat.le_refl _⟩ (fun K hK hQ _ => ?_)
  show TT K ly 0 0 0 [(0, vR 39)] [] h
  have hF : FR [39] h h := FR_rf _ _
  refine TT_aload_n hK rfl 0 rfl dX6_clear_0 ?_
  refine TT_iconst hK dX6_clear_1 ?_
  refine pf_X6_22 hK (by decide) rfl dX6_clear_2 ?_
  refine TT_hp (h' := setO h 39 (fup (h 39) 2 0)) (up_can rfl rfl rfl) ?_
  have hT_1 : TY (setO h 39 (fup (h 39) 2 0)) := tu_39_2 hT (show up h 39 2 0 = (setO h 39 (fup (h 39) 2 0)) from up_can rfl rfl rfl) (by omega)
  have hF_1 : FR [39] h (setO h 39 (fup (h 39) 2 0)) := FR_up (show up h 39 2 0 = (setO h 39 (fup (h 39) 2 0)) from up_can rfl rfl rfl) hF (by decide)
  refine TT_vret hK hQ ?_ dX6_clear_5
  exact ⟨⟨hT_1, hF_1⟩, rfl⟩
set_option maxRecDepth 20000 in
theorem s_X6_given_39 (h : Hp_) (hT : TY h)  : Ctr yX6_given cX6_given 1 (some .int) (rmd 0) ly ly 0 0 [vR 39] h (fun r h' => (TY h' ∧ FR [] h h') ∧ ∃ z : Int, r = some (vI z) ∧ (0 ≤ z ∧ z ≤ 1024)) := by
  refine Ctr_of (by decide) (Nat.le_of_ble_eq_true rfl) ⟨Nat.le_refl _, Nat.le_refl _⟩ (fun K hK hQ _ => ?_)
  show TT K ly 0 0 0 [(0, vR 39)] [] h
  have hF : FR [] h h := FR_rf _ _
  refine TT_aload_n hK rfl 0 rfl dX6_given_0 ?_
  refine gf_X6_22 hK (by decide) rfl (v := (h 39) 2) rfl dX6_given_1 ?_
  have r1 := ty_39_2 (v := (h 39) 2) hT rfl
  refine TT_iret hK hQ ?_ dX6_given_4
  exact ⟨⟨hT, hF⟩, ((h 39) 2), rfl, (by omega)⟩
set_option maxRecDepth 20000 in
theorem s_X6_addFrom_39 (s n : Int) (h : Hp_) (hT : TY h) (hs : -2147483648 ≤ s ∧ s ≤ 2147483647) (hn : -2147483648 ≤ n ∧ n ≤ 2147483647) : Ctr yX6_addFrom cX6_addFrom 5 none (rmd 1) ly ly 0 0 [vR 39, vR 22, vI s, vI n] h (fun r h' => (TY h' ∧ FR [39, 43] h h') ∧ r = none) := by
  refine Ctr_of (by decide) (Nat.le_of_ble_eq_true rfl) ⟨Nat.le_refl _, Nat.le_refl _⟩ (fun K hK hQ _ => ?_)
  show TT K ly 0 0 0 [(0, vR 39), (1, vR 22), (2, vI s), (3, vI n)] [] h
  have hF : FR [39, 43] h h := FR_rf _ _
  refine TT_iconst hK dX6_addFrom_0 ?_
  refine TT_istore hK (lv' := [(4, vI 0), (0, vR 39), (1, vR 22), (2, vI s), (3, vI n)]) (by decide) rfl dX6_addFrom_1 ?_
  have L3_1 : ∀ (k1 : Nat) (i : Int) (w3_1 : Hp_), TY w3_1 → FR [39, 43] h w3_1 → (0 ≤ i ∧ (i ≤ n ∨ i = 0)) → (n - i).toNat < k1 → TT K ly 0 0 3 [(0, vR 39), (1, vR 22), (2, vI s), (3, vI n), (4, vI i)] [] w3_1 := by
    intro k1
    induction k1 with
    | zero => intro i w3_1 hT3_1 hF3_1 hi hk1; exact absurd hk1 (Nat.not_lt_zero _)
    | succ k1 ih1 =>
      intro i w3_1 hT3_1 hF3_1 hi hk1
      refine TT_iload hK 4 rfl dX6_addFrom_3 ?_
      refine TT_iload_n hK rfl 3 rfl dX6_addFrom_5 ?_
      refine TT_icmp_ge hK (tgt := 52) (irm (by omega) (by omega)) (irm (by omega) (by omega)) dX6_addFrom_6 (by decide) (fun hb6_2 => ?_) (fun hb6_2 => ?_)
      · refine TT_vret hK hQ ?_ dX6_addFrom_52
        exact ⟨⟨hT3_1, hF3_1⟩, rfl⟩
      · refine TT_aload_n hK rfl 0 rfl dX6_addFrom_9 ?_
        refine gf_X6_22 hK (by decide) rfl (v := (w3_1 39) 2) rfl dX6_addFrom_10 ?_
        have r3 := ty_39_2 (v := (w3_1 39) 2) hT3_1 rfl
        refine TT_sipush hK (by decide) dX6_addFrom_13 ?_
        refine TT_icmp_ge hK (tgt := 52) (irm (by omega) (by omega)) (by decide) dX6_addFrom_16 (by decide) (fun hb16_4 => ?_) (fun hb16_4 => ?_)
        · refine TT_vret hK hQ ?_ dX6_addFrom_52
          exact ⟨⟨hT3_1, hF3_1⟩, rfl⟩
        · refine TT_aload_n hK rfl 0 rfl dX6_addFrom_19 ?_
          refine gf_X6_18 hK (by decide) rfl (q := 43) rfl rfl dX6_addFrom_20 ?_
          refine TT_aload_n hK rfl 0 rfl dX6_addFrom_23 ?_
          refine gf_X6_22 hK (by decide) rfl (v := (w3_1 39) 2) rfl dX6_addFrom_24 ?_
          refine TT_aload_n hK rfl 1 rfl dX6_addFrom_27 ?_
          refine TT_iload_n hK rfl 2 rfl dX6_addFrom_28 ?_
          refine TT_iload hK 4 rfl dX6_addFrom_29 ?_
          refine TT_iadd hK dX6_addFrom_31 ?_
          refine TT_w32 (fun x32_5 hx5 => ?_)
          refine iv_X6_26 hK (s_X1_at_22 x32_5 w3_1 hT3_1 (by first | omega | (simp [up, setR] <;> omega))) (by decide) rfl ⟨by decide, by decide⟩ (by decide) rfl rfl (Nat.le_of_ble_eq_true rfl) ⟨by decide, by decide⟩ dX6_addFrom_32 ?_
          intro r9 g32_6 hp9
          obtain ⟨⟨hT_6, hG_6⟩, z32_6, hr9, hz_6, p1_6⟩ := hp9
          rw [hr9]
          have hF_6 : FR [39, 43] h g32_6 := FR_tr hF3_1 hG_6 (by decide)
          rw [show w3_1 22 1 = (h 22) 1 from rd_ (hF3_1 22 (by decide)) rfl] at p1_6
          rw [show w3_1 23 = h 23 from (hF3_1 23 (by decide))] at p1_6
          show TT K ly 0 0 35 [(0, vR 39), (1, vR 22), (2, vI s), (3, vI n), (4, vI i)] [vI z32_6, vI ((w3_1 39) 2), vR 43] g32_6
          refine TT_iast hK (o := 43) (n := 1024) (by decide) rfl (by omega) (by omega) dX6_addFrom_35 ?_
          refine TT_hp (h' := setO g32_6 43 (fup (w3_1 43) ((w3_1 39) 2) z32_6)) (up_can (hG_6 43 (by decide)) rfl rfl) ?_
          have hT_7 : TY (setO g32_6 43 (fup (w3_1 43) ((w3_1 39) 2) z32_6)) := tu_43 hT_6 (show up g32_6 43 ((w3_1 39) 2) z32_6 = (setO g32_6 43 (fup (w3_1 43) ((w3_1 39) 2) z32_6)) from up_can (hG_6 43 (by decide)) rfl rfl) (by omega)
          have hF_7 : FR [39, 43] h (setO g32_6 43 (fup (w3_1 43) ((w3_1 39) 2) z32_6)) := FR_up (show up g32_6 43 ((w3_1 39) 2) z32_6 = (setO g32_6 43 (fup (w3_1 43) ((w3_1 39) 2) z32_6)) from up_can (hG_6 43 (by decide)) rfl rfl) hF_6 (by decide)
          refine TT_aload_n hK rfl 0 rfl dX6_addFrom_36 ?_
          refine TT_dup hK rfl dX6_addFrom_37 ?_
          refine gf_X6_22 hK (by decide) rfl (v := (w3_1 39) 2) (rd_ ((sOf_ne _ _ (by decide)).trans (hG_6 39 (by decide))) rfl) dX6_addFrom_38 ?_
          refine TT_iconst hK dX6_addFrom_41 ?_
          refine TT_iadd hK dX6_addFrom_42 ?_
          refine pf_X6_22 hK (by decide) rfl dX6_addFrom_43 ?_
          refine TT_hp (h' := setO (setO g32_6 39 (fup (w3_1 39) 2 (((w3_1 39) 2) + 1))) 43 (fup (w3_1 43) ((w3_1 39) 2) z32_6)) (up_can ((sOf_ne _ _ (by decide)).trans (hG_6 39 (by decide))) rfl ((setO_comm _ _ _ (by decide)).trans (setO_cg rfl rfl))) ?_
          have hT_8 : TY (setO (setO g32_6 39 (fup (w3_1 39) 2 (((w3_1 39) 2) + 1))) 43 (fup (w3_1 43) ((w3_1 39) 2) z32_6)) := tu_39_2 hT_7 (show up (setO g32_6 43 (fup (w3_1 43) ((w3_1 39) 2) z32_6)) 39 2 (((w3_1 39) 2) + 1) = (setO (setO g32_6 39 (fup (w3_1 39) 2 (((w3_1 39) 2) + 1))) 43 (fup (w3_1 43) ((w3_1 39) 2) z32_6)) from up_can ((sOf_ne _ _ (by decide)).trans (hG_6 39 (by decide))) rfl ((setO_comm _ _ _ (by decide)).trans (setO_cg rfl rfl))) (by omega)
          have hF_8 : FR [39, 43] h (setO (setO g32_6 39 (fup (w3_1 39) 2 (((w3_1 39) 2) + 1))) 43 (fup (w3_1 43) ((w3_1 39) 2) z32_6)) := FR_up (show up (setO g32_6 43 (fup (w3_1 43) ((w3_1 39) 2) z32_6)) 39 2 (((w3_1 39) 2) + 1) = (setO (setO g32_6 39 (fup (w3_1 39) 2 (((w3_1 39) 2) + 1))) 43 (fup (w3_1 43) ((w3_1 39) 2) z32_6)) from up_can ((sOf_ne _ _ (by decide)).trans (hG_6 39 (by decide))) rfl ((setO_comm _ _ _ (by decide)).trans (setO_cg rfl rfl))) hF_7 (by decide)
          refine TT_iinc hK (v := i + 1) (lv' := [(4, vI (i + 1)), (0, vR 39), (1, vR 22), (2, vI s), (3, vI n)]) 4 rfl rfl (by decide) rfl dX6_addFrom_46 ?_
          refine TT_goto hK (tgt := 3) dX6_addFrom_49 (by decide) ?_
          refine TT_sub [1, 2, 3, 4, 0] rfl ?_
          exact ih1 (i + 1) (setO (setO g32_6 39 (fup (w3_1 39) 2 (((w3_1 39) 2) + 1))) 43 (fup (w3_1 43) ((w3_1 39) 2) z32_6)) hT_8 hF_8 (by first | omega | (simp [up, setR] <;> omega)) (by first | omega | (simp [up, setR] <;> omega))
  refine TT_sub [1, 2, 3, 4, 0] rfl ?_
  exact L3_1 (((n - 0).toNat) + 1) 0 h hT hF (by first | omega | (simp [up, setR] <;> omega)) (Nat.lt_succ_self _)
set_option maxRecDepth 20000 in
theorem s_X6_comeIn_39 (h : Hp_) (hT : TY h)  : Ctr yX6_comeIn cX6_comeIn 3 none (rmd 0) ly ly 0 0 [vR 39] h (fun r h' => (TY h' ∧ FR [39] h h') ∧ r = none ∧ (7 ≤ (h' 39 6))) := by
  refine Ctr_of (by decide) (Nat.le_of_ble_eq_true rfl) ⟨Nat.le_refl _, Nat.le_refl _⟩ (fun K hK hQ _ => ?_)
  show TT K ly 0 0 0 [(0, vR 39)] [] h
  have hF : FR [39] h h := FR_rf _ _
  have J27_1 : ∀ (a : Int) (w27_1 : Hp_), TY w27_1 → FR [39] h w27_1 → (0 ≤ a ∧ a ≤ 255) → (a = 255 ∨ (w27_1 39 4) < 1024) → TT K ly 0 0 27 [(0, vR 39), (1, vI a)] [] w27_1 := by
    intro a w27_1 hT27_1 hF27_1 ha ha2
    have J58_2 : ∀ (b : Int) (w58_2 : Hp_), TY w58_2 → FR [39] h w58_2 → (0 ≤ b ∧ b ≤ 255) → ((a ≠ 255 ∨ b ≤ 143) → (w58_2 39 4) < 1024) → TT K ly 0 0 58 [(0, vR 39), (1, vI a), (2, vI b)] [] w58_2 := by
      intro b w58_2 hT58_2 hF58_2 hb hb2
      refine TT_iload_n hK rfl 1 rfl dX6_comeIn_58 ?_
      refine TT_sipush hK (by decide) dX6_comeIn_59 ?_
      refine TT_icmp_ne hK (tgt := 91) (irm (by omega) (by omega)) (by decide) dX6_comeIn_62 (by decide) (fun hb62_3 => ?_) (fun hb62_3 => ?_)
      · refine TT_aload_n hK rfl 0 rfl dX6_comeIn_91 ?_
        refine TT_dup hK rfl dX6_comeIn_92 ?_
        refine gf_X6_44 hK (by decide) rfl (v := (w58_2 39) 4) rfl dX6_comeIn_93 ?_
        have r4 := ty_39_4 (v := (w58_2 39) 4) hT58_2 rfl
        refine TT_iconst hK dX6_comeIn_96 ?_
        refine TT_iadd hK dX6_comeIn_97 ?_
        refine pf_X6_44 hK (by decide) rfl dX6_comeIn_98 ?_
        refine TT_hp (h' := setO w58_2 39 (fup (w58_2 39) 4 (((w58_2 39) 4) + 1))) (up_can rfl rfl rfl) ?_
        have hT_5 : TY (setO w58_2 39 (fup (w58_2 39) 4 (((w58_2 39) 4) + 1))) := tu_39_4 hT58_2 (show up w58_2 39 4 (((w58_2 39) 4) + 1) = (setO w58_2 39 (fup (w58_2 39) 4 (((w58_2 39) 4) + 1))) from up_can rfl rfl rfl) (by omega)
        have hF_5 : FR [39] h (setO w58_2 39 (fup (w58_2 39) 4 (((w58_2 39) 4) + 1))) := FR_up (show up w58_2 39 4 (((w58_2 39) 4) + 1) = (setO w58_2 39 (fup (w58_2 39) 4 (((w58_2 39) 4) + 1))) from up_can rfl rfl rfl) hF58_2 (by decide)
        refine TT_aload_n hK rfl 0 rfl dX6_comeIn_101 ?_
        refine TT_dup hK rfl dX6_comeIn_102 ?_
        refine gf_X6_49 hK (by decide) rfl (v := (w58_2 39) 7) (rd_ (sOf_eq _ _ _) (fup_ne _ _ (by decide))) dX6_comeIn_103 ?_
        have r6 := ty_39_7 (v := (w58_2 39) 7) hT_5 (rd_ (sOf_eq _ _ _) (fup_ne _ _ (by decide)))
        refine TT_iload_n hK rfl 2 rfl dX6_comeIn_106 ?_
        refine TT_iload_n hK rfl 1 rfl dX6_comeIn_107 ?_
        refine TT_sipush hK (by decide) dX6_comeIn_108 ?_
        refine TT_icmp_ne hK (tgt := 120) (irm (by omega) (by omega)) (by decide) dX6_comeIn_111 (by decide) (fun hb111_7 => ?_) (fun hb111_7 => ?_)
        · refine TT_sipush hK (by decide) dX6_comeIn_120 ?_
          refine TT_imul hK dX6_comeIn_123 ?_
          refine TT_i2l hK (irm (by omega) (by omega)) dX6_comeIn_124 ?_
          refine TT_ladd hK dX6_comeIn_125 ?_
          refine TT_w64f (fun x126_8 hx8 => ?_)
          refine pf_X6_49 hK (by decide) rfl dX6_comeIn_126 ?_
          refine TT_hp (h' := setO w58_2 39 (fup (fup (w58_2 39) 4 (((w58_2 39) 4) + 1)) 7 x126_8)) (up_can (sOf_eq _ _ _) rfl (setO_same _ _ _ _)) ?_
          have hT_9 : TY (setO w58_2 39 (fup (fup (w58_2 39) 4 (((w58_2 39) 4) + 1)) 7 x126_8)) := tu_39_7 hT_5 (show up (setO w58_2 39 (fup (w58_2 39) 4 (((w58_2 39) 4) + 1))) 39 7 x126_8 = (setO w58_2 39 (fup (fup (w58_2 39) 4 (((w58_2 39) 4) + 1)) 7 x126_8)) from up_can (sOf_eq _ _ _) rfl (setO_same _ _ _ _)) (by omega)
          have hF_9 : FR [39] h (setO w58_2 39 (fup (fup (w58_2 39) 4 (((w58_2 39) 4) + 1)) 7 x126_8)) := FR_up (show up (setO w58_2 39 (fup (w58_2 39) 4 (((w58_2 39) 4) + 1))) 39 7 x126_8 = (setO w58_2 39 (fup (fup (w58_2 39) 4 (((w58_2 39) 4) + 1)) 7 x126_8)) from up_can (sOf_eq _ _ _) rfl (setO_same _ _ _ _)) hF_5 (by decide)
          refine TT_aload_n hK rfl 0 rfl dX6_comeIn_129 ?_
          refine TT_iload_n hK rfl 1 rfl dX6_comeIn_130 ?_
          refine TT_sipush hK (by decide) dX6_comeIn_131 ?_
          refine TT_icmp_ne hK (tgt := 142) (irm (by omega) (by omega)) (by decide) dX6_comeIn_134 (by decide) (fun hb134_10 => ?_) (fun hb134_10 => ?_)
          · refine TT_bipush hK (by decide) dX6_comeIn_142 ?_
            refine pf_X6_56 hK (by decide) rfl dX6_comeIn_144 ?_
            refine TT_hp (h' := setO w58_2 39 (fup (fup (fup (w58_2 39) 4 (((w58_2 39) 4) + 1)) 6 8) 7 x126_8)) (up_can (sOf_eq _ _ _) (fup_comm _ _ _ (by decide)) (setO_same _ _ _ _)) ?_
            have hT_11 : TY (setO w58_2 39 (fup (fup (fup (w58_2 39) 4 (((w58_2 39) 4) + 1)) 6 8) 7 x126_8)) := tu_39_6 hT_9 (show up (setO w58_2 39 (fup (fup (w58_2 39) 4 (((w58_2 39) 4) + 1)) 7 x126_8)) 39 6 8 = (setO w58_2 39 (fup (fup (fup (w58_2 39) 4 (((w58_2 39) 4) + 1)) 6 8) 7 x126_8)) from up_can (sOf_eq _ _ _) (fup_comm _ _ _ (by decide)) (setO_same _ _ _ _)) (by omega)
            have hF_11 : FR [39] h (setO w58_2 39 (fup (fup (fup (w58_2 39) 4 (((w58_2 39) 4) + 1)) 6 8) 7 x126_8)) := FR_up (show up (setO w58_2 39 (fup (fup (w58_2 39) 4 (((w58_2 39) 4) + 1)) 7 x126_8)) 39 6 8 = (setO w58_2 39 (fup (fup (fup (w58_2 39) 4 (((w58_2 39) 4) + 1)) 6 8) 7 x126_8)) from up_can (sOf_eq _ _ _) (fup_comm _ _ _ (by decide)) (setO_same _ _ _ _)) hF_9 (by decide)
            refine TT_vret hK hQ ?_ dX6_comeIn_147
            have e12_39_6 : (setO w58_2 39 (fup (fup (fup (w58_2 39) 4 (((w58_2 39) 4) + 1)) 6 8) 7 x126_8)) 39 6 = 8 := rd_ (sOf_eq _ _ _) ((fup_ne _ _ (by decide)).trans (fup_eq _ _ _))
            exact ⟨⟨hT_11, hF_11⟩, rfl, (by rw [e12_39_6]; omega)⟩
          · exfalso; omega
        · exfalso; omega
      · refine TT_iload_n hK rfl 2 rfl dX6_comeIn_65 ?_
        refine TT_sipush hK (by decide) dX6_comeIn_66 ?_
        refine TT_icmp_le hK (tgt := 91) (irm (by omega) (by omega)) (by decide) dX6_comeIn_69 (by decide) (fun hb69_13 => ?_) (fun hb69_13 => ?_)
        · refine TT_aload_n hK rfl 0 rfl dX6_comeIn_91 ?_
          refine TT_dup hK rfl dX6_comeIn_92 ?_
          refine gf_X6_44 hK (by decide) rfl (v := (w58_2 39) 4) rfl dX6_comeIn_93 ?_
          have r14 := ty_39_4 (v := (w58_2 39) 4) hT58_2 rfl
          refine TT_iconst hK dX6_comeIn_96 ?_
          refine TT_iadd hK dX6_comeIn_97 ?_
          refine pf_X6_44 hK (by decide) rfl dX6_comeIn_98 ?_
          refine TT_hp (h' := setO w58_2 39 (fup (w58_2 39) 4 (((w58_2 39) 4) + 1))) (up_can rfl rfl rfl) ?_
          have hT_15 : TY (setO w58_2 39 (fup (w58_2 39) 4 (((w58_2 39) 4) + 1))) := tu_39_4 hT58_2 (show up w58_2 39 4 (((w58_2 39) 4) + 1) = (setO w58_2 39 (fup (w58_2 39) 4 (((w58_2 39) 4) + 1))) from up_can rfl rfl rfl) (by omega)
          have hF_15 : FR [39] h (setO w58_2 39 (fup (w58_2 39) 4 (((w58_2 39) 4) + 1))) := FR_up (show up w58_2 39 4 (((w58_2 39) 4) + 1) = (setO w58_2 39 (fup (w58_2 39) 4 (((w58_2 39) 4) + 1))) from up_can rfl rfl rfl) hF58_2 (by decide)
          refine TT_aload_n hK rfl 0 rfl dX6_comeIn_101 ?_
          refine TT_dup hK rfl dX6_comeIn_102 ?_
          refine gf_X6_49 hK (by decide) rfl (v := (w58_2 39) 7) (rd_ (sOf_eq _ _ _) (fup_ne _ _ (by decide))) dX6_comeIn_103 ?_
          have r16 := ty_39_7 (v := (w58_2 39) 7) hT_15 (rd_ (sOf_eq _ _ _) (fup_ne _ _ (by decide)))
          refine TT_iload_n hK rfl 2 rfl dX6_comeIn_106 ?_
          refine TT_iload_n hK rfl 1 rfl dX6_comeIn_107 ?_
          refine TT_sipush hK (by decide) dX6_comeIn_108 ?_
          refine TT_icmp_ne hK (tgt := 120) (irm (by omega) (by omega)) (by decide) dX6_comeIn_111 (by decide) (fun hb111_17 => ?_) (fun hb111_17 => ?_)
          · exfalso; omega
          · refine TT_sipush hK (by decide) dX6_comeIn_114 ?_
            refine TT_goto hK (tgt := 123) dX6_comeIn_117 (by decide) ?_
            refine TT_imul hK dX6_comeIn_123 ?_
            refine TT_i2l hK (irm (by omega) (by omega)) dX6_comeIn_124 ?_
            refine TT_ladd hK dX6_comeIn_125 ?_
            refine TT_w64f (fun x126_18 hx18 => ?_)
            refine pf_X6_49 hK (by decide) rfl dX6_comeIn_126 ?_
            refine TT_hp (h' := setO w58_2 39 (fup (fup (w58_2 39) 4 (((w58_2 39) 4) + 1)) 7 x126_18)) (up_can (sOf_eq _ _ _) rfl (setO_same _ _ _ _)) ?_
            have hT_19 : TY (setO w58_2 39 (fup (fup (w58_2 39) 4 (((w58_2 39) 4) + 1)) 7 x126_18)) := tu_39_7 hT_15 (show up (setO w58_2 39 (fup (w58_2 39) 4 (((w58_2 39) 4) + 1))) 39 7 x126_18 = (setO w58_2 39 (fup (fup (w58_2 39) 4 (((w58_2 39) 4) + 1)) 7 x126_18)) from up_can (sOf_eq _ _ _) rfl (setO_same _ _ _ _)) (by omega)
            have hF_19 : FR [39] h (setO w58_2 39 (fup (fup (w58_2 39) 4 (((w58_2 39) 4) + 1)) 7 x126_18)) := FR_up (show up (setO w58_2 39 (fup (w58_2 39) 4 (((w58_2 39) 4) + 1))) 39 7 x126_18 = (setO w58_2 39 (fup (fup (w58_2 39) 4 (((w58_2 39) 4) + 1)) 7 x126_18)) from up_can (sOf_eq _ _ _) rfl (setO_same _ _ _ _)) hF_15 (by decide)
            refine TT_aload_n hK rfl 0 rfl dX6_comeIn_129 ?_
            refine TT_iload_n hK rfl 1 rfl dX6_comeIn_130 ?_
            refine TT_sipush hK (by decide) dX6_comeIn_131 ?_
            refine TT_icmp_ne hK (tgt := 142) (irm (by omega) (by omega)) (by decide) dX6_comeIn_134 (by decide) (fun hb134_20 => ?_) (fun hb134_20 => ?_)
            · exfalso; omega
            · refine TT_bipush hK (by decide) dX6_comeIn_137 ?_
              refine TT_goto hK (tgt := 144) dX6_comeIn_139 (by decide) ?_
              refine pf_X6_56 hK (by decide) rfl dX6_comeIn_144 ?_
              refine TT_hp (h' := setO w58_2 39 (fup (fup (fup (w58_2 39) 4 (((w58_2 39) 4) + 1)) 6 7) 7 x126_18)) (up_can (sOf_eq _ _ _) (fup_comm _ _ _ (by decide)) (setO_same _ _ _ _)) ?_
              have hT_21 : TY (setO w58_2 39 (fup (fup (fup (w58_2 39) 4 (((w58_2 39) 4) + 1)) 6 7) 7 x126_18)) := tu_39_6 hT_19 (show up (setO w58_2 39 (fup (fup (w58_2 39) 4 (((w58_2 39) 4) + 1)) 7 x126_18)) 39 6 7 = (setO w58_2 39 (fup (fup (fup (w58_2 39) 4 (((w58_2 39) 4) + 1)) 6 7) 7 x126_18)) from up_can (sOf_eq _ _ _) (fup_comm _ _ _ (by decide)) (setO_same _ _ _ _)) (by omega)
              have hF_21 : FR [39] h (setO w58_2 39 (fup (fup (fup (w58_2 39) 4 (((w58_2 39) 4) + 1)) 6 7) 7 x126_18)) := FR_up (show up (setO w58_2 39 (fup (fup (w58_2 39) 4 (((w58_2 39) 4) + 1)) 7 x126_18)) 39 6 7 = (setO w58_2 39 (fup (fup (fup (w58_2 39) 4 (((w58_2 39) 4) + 1)) 6 7) 7 x126_18)) from up_can (sOf_eq _ _ _) (fup_comm _ _ _ (by decide)) (setO_same _ _ _ _)) hF_19 (by decide)
              refine TT_vret hK hQ ?_ dX6_comeIn_147
              have e22_39_6 : (setO w58_2 39 (fup (fup (fup (w58_2 39) 4 (((w58_2 39) 4) + 1)) 6 7) 7 x126_18)) 39 6 = 7 := rd_ (sOf_eq _ _ _) ((fup_ne _ _ (by decide)).trans (fup_eq _ _ _))
              exact ⟨⟨hT_21, hF_21⟩, rfl, (by rw [e22_39_6]; omega)⟩
        · refine TT_aload_n hK rfl 0 rfl dX6_comeIn_72 ?_
          refine TT_dup hK rfl dX6_comeIn_73 ?_
          refine gf_X6_49 hK (by decide) rfl (v := (w58_2 39) 7) rfl dX6_comeIn_74 ?_
          have r23 := ty_39_7 (v := (w58_2 39) 7) hT58_2 rfl
          refine TT_ldc2 hK lc_X6_63 dX6_comeIn_77 ?_
          refine TT_ladd hK dX6_comeIn_80 ?_
          refine TT_w64f (fun x81_24 hx24 => ?_)
          refine pf_X6_49 hK (by decide) rfl dX6_comeIn_81 ?_
          refine TT_hp (h' := setO w58_2 39 (fup (w58_2 39) 7 x81_24)) (up_can rfl rfl rfl) ?_
          have hT_25 : TY (setO w58_2 39 (fup (w58_2 39) 7 x81_24)) := tu_39_7 hT58_2 (show up w58_2 39 7 x81_24 = (setO w58_2 39 (fup (w58_2 39) 7 x81_24)) from up_can rfl rfl rfl) (by omega)
          have hF_25 : FR [39] h (setO w58_2 39 (fup (w58_2 39) 7 x81_24)) := FR_up (show up w58_2 39 7 x81_24 = (setO w58_2 39 (fup (w58_2 39) 7 x81_24)) from up_can rfl rfl rfl) hF58_2 (by decide)
          refine TT_aload_n hK rfl 0 rfl dX6_comeIn_84 ?_
          refine TT_bipush hK (by decide) dX6_comeIn_85 ?_
          refine pf_X6_56 hK (by decide) rfl dX6_comeIn_87 ?_
          refine TT_hp (h' := setO w58_2 39 (fup (fup (w58_2 39) 6 8) 7 x81_24)) (up_can (sOf_eq _ _ _) (fup_comm _ _ _ (by decide)) (setO_same _ _ _ _)) ?_
          have hT_26 : TY (setO w58_2 39 (fup (fup (w58_2 39) 6 8) 7 x81_24)) := tu_39_6 hT_25 (show up (setO w58_2 39 (fup (w58_2 39) 7 x81_24)) 39 6 8 = (setO w58_2 39 (fup (fup (w58_2 39) 6 8) 7 x81_24)) from up_can (sOf_eq _ _ _) (fup_comm _ _ _ (by decide)) (setO_same _ _ _ _)) (by omega)
          have hF_26 : FR [39] h (setO w58_2 39 (fup (fup (w58_2 39) 6 8) 7 x81_24)) := FR_up (show up (setO w58_2 39 (fup (w58_2 39) 7 x81_24)) 39 6 8 = (setO w58_2 39 (fup (fup (w58_2 39) 6 8) 7 x81_24)) from up_can (sOf_eq _ _ _) (fup_comm _ _ _ (by decide)) (setO_same _ _ _ _)) hF_25 (by decide)
          refine TT_vret hK hQ ?_ dX6_comeIn_90
          have e27_39_6 : (setO w58_2 39 (fup (fup (w58_2 39) 6 8) 7 x81_24)) 39 6 = 8 := rd_ (sOf_eq _ _ _) ((fup_ne _ _ (by decide)).trans (fup_eq _ _ _))
          exact ⟨⟨hT_26, hF_26⟩, rfl, (by rw [e27_39_6]; omega)⟩
    refine TT_aload_n hK rfl 0 rfl dX6_comeIn_27 ?_
    refine gf_X6_44 hK (by decide) rfl (v := (w27_1 39) 4) rfl dX6_comeIn_28 ?_
    have r28 := ty_39_4 (v := (w27_1 39) 4) hT27_1 rfl
    refine TT_iconst hK dX6_comeIn_31 ?_
    refine TT_iadd hK dX6_comeIn_32 ?_
    refine TT_aload_n hK rfl 0 rfl dX6_comeIn_33 ?_
    refine gf_X6_41 hK (by decide) rfl (v := (w27_1 39) 3) rfl dX6_comeIn_34 ?_
    have r29 := ty_39_3 (v := (w27_1 39) 3) hT27_1 rfl
    refine TT_icmp_ge hK (tgt := 54) (irm (by omega) (by omega)) (irm (by omega) (by omega)) dX6_comeIn_37 (by decide) (fun hb37_30 => ?_) (fun hb37_30 => ?_)
    · refine TT_sipush hK (by decide) dX6_comeIn_54 ?_
      refine TT_istore_n hK rfl (lv' := [(2, vI 255), (0, vR 39), (1, vI a)]) (by decide) rfl dX6_comeIn_57 ?_
      refine TT_sub [1, 2, 0] rfl ?_
      have e31_39_4 : w27_1 39 4 = (w27_1 39) 4 := rfl
      exact J58_2 255 w27_1 hT27_1 hF27_1 (by first | omega | (simp [up, setR] <;> omega)) (by rw [e31_39_4]; first | omega | (simp [up, setR] <;> omega))
    · refine TT_aload_n hK rfl 0 rfl dX6_comeIn_40 ?_
      refine gf_X6_18 hK (by decide) rfl (q := 43) rfl rfl dX6_comeIn_41 ?_
      refine TT_aload_n hK rfl 0 rfl dX6_comeIn_44 ?_
      refine gf_X6_44 hK (by decide) rfl (v := (w27_1 39) 4) rfl dX6_comeIn_45 ?_
      refine TT_iconst hK dX6_comeIn_48 ?_
      refine TT_iadd hK dX6_comeIn_49 ?_
      refine TT_iald hK (o := 43) (n := 1024) (by decide) rfl (by first | omega | (simp [up, setR] <;> omega)) (by first | omega | (simp [up, setR] <;> omega)) (v := (h 43) (((w27_1 39) 4) + 1)) (rd_ (hF27_1 43 (by decide)) rfl) dX6_comeIn_50 ?_
      have r32 := ty_43 (i := ((w27_1 39) 4) + 1) (v := (h 43) (((w27_1 39) 4) + 1)) hT27_1 (rd_ (hF27_1 43 (by decide)) rfl) (by omega) (by omega)
      refine TT_goto hK (tgt := 57) dX6_comeIn_51 (by decide) ?_
      refine TT_istore_n hK rfl (lv' := [(2, vI ((h 43) (((w27_1 39) 4) + 1))), (0, vR 39), (1, vI a)]) (by decide) rfl dX6_comeIn_57 ?_
      refine TT_sub [1, 2, 0] rfl ?_
      have e33_39_4 : w27_1 39 4 = (w27_1 39) 4 := rfl
      exact J58_2 ((h 43) (((w27_1 39) 4) + 1)) w27_1 hT27_1 hF27_1 (by first | omega | (simp [up, setR] <;> omega)) (by rw [e33_39_4]; first | omega | (simp [up, setR] <;> omega))
  refine TT_aload_n hK rfl 0 rfl dX6_comeIn_0 ?_
  refine gf_X6_44 hK (by decide) rfl (v := (h 39) 4) rfl dX6_comeIn_1 ?_
  have r34 := ty_39_4 (v := (h 39) 4) hT rfl
  refine TT_aload_n hK rfl 0 rfl dX6_comeIn_4 ?_
  refine gf_X6_41 hK (by decide) rfl (v := (h 39) 3) rfl dX6_comeIn_5 ?_
  have r35 := ty_39_3 (v := (h 39) 3) hT rfl
  refine TT_icmp_ge hK (tgt := 23) (irm (by omega) (by omega)) (irm (by omega) (by omega)) dX6_comeIn_8 (by decide) (fun hb8_36 => ?_) (fun hb8_36 => ?_)
  · refine TT_sipush hK (by decide) dX6_comeIn_23 ?_
    refine TT_istore_n hK rfl (lv' := [(1, vI 255), (0, vR 39)]) (by decide) rfl dX6_comeIn_26 ?_
    refine TT_sub [1, 0] rfl ?_
    have e37_39_4 : h 39 4 = (h 39) 4 := rfl
    exact J27_1 255 h hT hF (by first | omega | (simp [up, setR] <;> omega)) (by rw [e37_39_4]; first | omega | (simp [up, setR] <;> omega))
  · refine TT_aload_n hK rfl 0 rfl dX6_comeIn_11 ?_
    refine gf_X6_18 hK (by decide) rfl (q := 43) rfl rfl dX6_comeIn_12 ?_
    refine TT_aload_n hK rfl 0 rfl dX6_comeIn_15 ?_
    refine gf_X6_44 hK (by decide) rfl (v := (h 39) 4) rfl dX6_comeIn_16 ?_
    refine TT_iald hK (o := 43) (n := 1024) (by decide) rfl (by first | omega | (simp [up, setR] <;> omega)) (by first | omega | (simp [up, setR] <;> omega)) (v := (h 43) ((h 39) 4)) rfl dX6_comeIn_19 ?_
    have r38 := ty_43 (i := (h 39) 4) (v := (h 43) ((h 39) 4)) hT rfl (by omega) (by omega)
    refine TT_goto hK (tgt := 26) dX6_comeIn_20 (by decide) ?_
    refine TT_istore_n hK rfl (lv' := [(1, vI ((h 43) ((h 39) 4))), (0, vR 39)]) (by decide) rfl dX6_comeIn_26 ?_
    refine TT_sub [1, 0] rfl ?_
    have e39_39_4 : h 39 4 = (h 39) 4 := rfl
    exact J27_1 ((h 43) ((h 39) 4)) h hT hF (by first | omega | (simp [up, setR] <;> omega)) (by rw [e39_39_4]; first | omega | (simp [up, setR] <;> omega))
set_option maxRecDepth 20000 in
theorem s_X6_begin_39 (n : Int) (h : Hp_) (hT : TY h) (hn : 0 ≤ n ∧ n ≤ 2147483647) : Ctr yX6_begin cX6_begin 2 none (rmd 2) ly ly 0 0 [vR 39, vI n] h (fun r h' => (TY h' ∧ FR [39, 41, 42] h h') ∧ r = none) := by
  refine Ctr_of (by decide) (Nat.le_of_ble_eq_true rfl) ⟨Nat.le_refl _, Nat.le_refl _⟩ (fun K hK hQ _ => ?_)
  show TT K ly 0 0 0 [(0, vR 39), (1, vI n)] [] h
  have hF : FR [39, 41, 42] h h := FR_rf _ _
  refine TT_aload_n hK rfl 0 rfl dX6_begin_0 ?_
  refine gf_X6_12 hK (by decide) rfl (q := 40) rfl rfl dX6_begin_1 ?_
  refine iv_X6_32 hK (s_X2_begin_40 h hT ) (by decide) rfl ⟨by decide, by decide⟩ (by decide) rfl rfl (Nat.le_of_ble_eq_true rfl) ⟨by decide, by decide⟩ dX6_begin_4 ?_
  intro r9 g4_1 hp9
  obtain ⟨⟨hT_1, hG_1⟩, hr9⟩ := hp9
  rw [hr9]
  have hF_1 : FR [39, 41, 42] h g4_1 := FR_tr hF hG_1 (by decide)
  show TT K ly 0 0 7 [(0, vR 39), (1, vI n)] [] g4_1
  refine TT_aload_n hK rfl 0 rfl dX6_begin_7 ?_
  refine TT_iload_n hK rfl 1 rfl dX6_begin_8 ?_
  refine TT_aload_n hK rfl 0 rfl dX6_begin_9 ?_
  refine gf_X6_22 hK (by decide) rfl (v := (h 39) 2) (rd_ (hG_1 39 (by decide)) rfl) dX6_begin_10 ?_
  have r2 := ty_39_2 (v := (h 39) 2) hT_1 (rd_ (hG_1 39 (by decide)) rfl)
  refine TT_mmin hK (irm (by omega) (by omega)) (irm (by omega) (by omega)) iw_X6_35 (by decide) (Nat.le_of_ble_eq_true rfl) ⟨by decide, by decide⟩ dX6_begin_13 ?_
  refine pf_X6_41 hK (by decide) rfl dX6_begin_16 ?_
  refine TT_hp (h' := setO g4_1 39 (fup (h 39) 3 (min n ((h 39) 2)))) (up_can (hG_1 39 (by decide)) rfl rfl) ?_
  have hT_3 : TY (setO g4_1 39 (fup (h 39) 3 (min n ((h 39) 2)))) := tu_39_3 hT_1 (show up g4_1 39 3 (min n ((h 39) 2)) = (setO g4_1 39 (fup (h 39) 3 (min n ((h 39) 2)))) from up_can (hG_1 39 (by decide)) rfl rfl) (by omega)
  have hF_3 : FR [39, 41, 42] h (setO g4_1 39 (fup (h 39) 3 (min n ((h 39) 2)))) := FR_up (show up g4_1 39 3 (min n ((h 39) 2)) = (setO g4_1 39 (fup (h 39) 3 (min n ((h 39) 2)))) from up_can (hG_1 39 (by decide)) rfl rfl) hF_1 (by decide)
  refine TT_aload_n hK rfl 0 rfl dX6_begin_19 ?_
  refine TT_iconst hK dX6_begin_20 ?_
  refine pf_X6_44 hK (by decide) rfl dX6_begin_21 ?_
  refine TT_hp (h' := setO g4_1 39 (fup (fup (h 39) 3 (min n ((h 39) 2))) 4 0)) (up_can (sOf_eq _ _ _) rfl (setO_same _ _ _ _)) ?_
  have hT_4 : TY (setO g4_1 39 (fup (fup (h 39) 3 (min n ((h 39) 2))) 4 0)) := tu_39_4 hT_3 (show up (setO g4_1 39 (fup (h 39) 3 (min n ((h 39) 2)))) 39 4 0 = (setO g4_1 39 (fup (fup (h 39) 3 (min n ((h 39) 2))) 4 0)) from up_can (sOf_eq _ _ _) rfl (setO_same _ _ _ _)) (by omega)
  have hF_4 : FR [39, 41, 42] h (setO g4_1 39 (fup (fup (h 39) 3 (min n ((h 39) 2))) 4 0)) := FR_up (show up (setO g4_1 39 (fup (h 39) 3 (min n ((h 39) 2)))) 39 4 0 = (setO g4_1 39 (fup (fup (h 39) 3 (min n ((h 39) 2))) 4 0)) from up_can (sOf_eq _ _ _) rfl (setO_same _ _ _ _)) hF_3 (by decide)
  refine TT_aload_n hK rfl 0 rfl dX6_begin_24 ?_
  refine TT_aload_n hK rfl 0 rfl dX6_begin_25 ?_
  refine gf_X6_41 hK (by decide) rfl (v := min n ((h 39) 2)) (rd_ (sOf_eq _ _ _) ((fup_ne _ _ (by decide)).trans (fup_eq _ _ _))) dX6_begin_26 ?_
  have r5 := ty_39_3 (v := min n ((h 39) 2)) hT_4 (rd_ (sOf_eq _ _ _) ((fup_ne _ _ (by decide)).trans (fup_eq _ _ _)))
  refine TT_if_le hK (tgt := 41) (irm (by omega) (by omega)) dX6_begin_29 (by decide) (fun hb29_6 => ?_) (fun hb29_6 => ?_)
  · refine TT_sipush hK (by decide) dX6_begin_41 ?_
    refine TT_i2l hK (by decide) dX6_begin_44 ?_
    refine TT_ldc2 hK lc_X6_47 dX6_begin_45 ?_
    refine TT_lmul hK dX6_begin_48 ?_
    refine pf_X6_49 hK (by decide) rfl dX6_begin_49 ?_
    refine TT_hp (h' := setO g4_1 39 (fup (fup (fup (h 39) 3 (min n ((h 39) 2))) 4 0) 7 (255 * 65536))) (up_can (sOf_eq _ _ _) rfl (setO_same _ _ _ _)) ?_
    have hT_7 : TY (setO g4_1 39 (fup (fup (fup (h 39) 3 (min n ((h 39) 2))) 4 0) 7 (255 * 65536))) := tu_39_7 hT_4 (show up (setO g4_1 39 (fup (fup (h 39) 3 (min n ((h 39) 2))) 4 0)) 39 7 (255 * 65536) = (setO g4_1 39 (fup (fup (fup (h 39) 3 (min n ((h 39) 2))) 4 0) 7 (255 * 65536))) from up_can (sOf_eq _ _ _) rfl (setO_same _ _ _ _)) (by omega)
    have hF_7 : FR [39, 41, 42] h (setO g4_1 39 (fup (fup (fup (h 39) 3 (min n ((h 39) 2))) 4 0) 7 (255 * 65536))) := FR_up (show up (setO g4_1 39 (fup (fup (h 39) 3 (min n ((h 39) 2))) 4 0)) 39 7 (255 * 65536) = (setO g4_1 39 (fup (fup (fup (h 39) 3 (min n ((h 39) 2))) 4 0) 7 (255 * 65536))) from up_can (sOf_eq _ _ _) rfl (setO_same _ _ _ _)) hF_4 (by decide)
    refine TT_aload_n hK rfl 0 rfl dX6_begin_52 ?_
    refine iv_X6_53 hK (s_X6_comeIn_39 (setO g4_1 39 (fup (fup (fup (h 39) 3 (min n ((h 39) 2))) 4 0) 7 (255 * 65536))) hT_7 ) (by decide) rfl ⟨by decide, by decide⟩ (by decide) rfl rfl (Nat.le_of_ble_eq_true rfl) ⟨by decide, by decide⟩ dX6_begin_53 ?_
    intro r9 g53_8 hp9
    obtain ⟨⟨hT_8, hG_8⟩, hr9, p1_8⟩ := hp9
    rw [hr9]
    have hF_8 : FR [39, 41, 42] h g53_8 := FR_tr hF_7 hG_8 (by decide)
    show TT K ly 0 0 56 [(0, vR 39), (1, vI n)] [] g53_8
    refine TT_aload_n hK rfl 0 rfl dX6_begin_56 ?_
    refine TT_dup hK rfl dX6_begin_57 ?_
    refine gf_X6_49 hK (by decide) rfl (v := (g53_8 39) 7) rfl dX6_begin_58 ?_
    have r9 := ty_39_7 (v := (g53_8 39) 7) hT_8 rfl
    refine TT_bipush hK (by decide) dX6_begin_61 ?_
    refine TT_lshl hK (by decide) dX6_begin_63 ?_
    refine TT_cgJ (b := ((g53_8 39) 7) * 128) rfl ?_
    refine TT_w64f (fun x64_10 hx10 => ?_)
    refine pf_X6_49 hK (by decide) rfl dX6_begin_64 ?_
    refine TT_hp (h' := setO g53_8 39 (fup (g53_8 39) 7 x64_10)) (up_can rfl rfl rfl) ?_
    have hT_11 : TY (setO g53_8 39 (fup (g53_8 39) 7 x64_10)) := tu_39_7 hT_8 (show up g53_8 39 7 x64_10 = (setO g53_8 39 (fup (g53_8 39) 7 x64_10)) from up_can rfl rfl rfl) (by omega)
    have hF_11 : FR [39, 41, 42] h (setO g53_8 39 (fup (g53_8 39) 7 x64_10)) := FR_up (show up g53_8 39 7 x64_10 = (setO g53_8 39 (fup (g53_8 39) 7 x64_10)) from up_can rfl rfl rfl) hF_8 (by decide)
    refine TT_aload_n hK rfl 0 rfl dX6_begin_67 ?_
    refine TT_dup hK rfl dX6_begin_68 ?_
    refine gf_X6_56 hK (by decide) rfl (v := (g53_8 39) 6) (rd_ (sOf_eq _ _ _) (fup_ne _ _ (by decide))) dX6_begin_69 ?_
    have r12 := ty_39_6 (v := (g53_8 39) 6) hT_11 (rd_ (sOf_eq _ _ _) (fup_ne _ _ (by decide)))
    refine TT_bipush hK (by decide) dX6_begin_72 ?_
    refine TT_isub hK dX6_begin_74 ?_
    refine pf_X6_56 hK (by decide) rfl dX6_begin_75 ?_
    refine TT_hp (h' := setO g53_8 39 (fup (fup (g53_8 39) 6 (((g53_8 39) 6) - 7)) 7 x64_10)) (up_can (sOf_eq _ _ _) (fup_comm _ _ _ (by decide)) (setO_same _ _ _ _)) ?_
    have hT_13 : TY (setO g53_8 39 (fup (fup (g53_8 39) 6 (((g53_8 39) 6) - 7)) 7 x64_10)) := tu_39_6 hT_11 (show up (setO g53_8 39 (fup (g53_8 39) 7 x64_10)) 39 6 (((g53_8 39) 6) - 7) = (setO g53_8 39 (fup (fup (g53_8 39) 6 (((g53_8 39) 6) - 7)) 7 x64_10)) from up_can (sOf_eq _ _ _) (fup_comm _ _ _ (by decide)) (setO_same _ _ _ _)) (by omega)
    have hF_13 : FR [39, 41, 42] h (setO g53_8 39 (fup (fup (g53_8 39) 6 (((g53_8 39) 6) - 7)) 7 x64_10)) := FR_up (show up (setO g53_8 39 (fup (g53_8 39) 7 x64_10)) 39 6 (((g53_8 39) 6) - 7) = (setO g53_8 39 (fup (fup (g53_8 39) 6 (((g53_8 39) 6) - 7)) 7 x64_10)) from up_can (sOf_eq _ _ _) (fup_comm _ _ _ (by decide)) (setO_same _ _ _ _)) hF_11 (by decide)
    refine TT_aload_n hK rfl 0 rfl dX6_begin_78 ?_
    refine TT_ldc hK lc_X6_59 dX6_begin_79 ?_
    refine pf_X6_60 hK (by decide) rfl dX6_begin_81 ?_
    refine TT_hp (h' := setO g53_8 39 (fup (fup (fup (g53_8 39) 5 32768) 6 (((g53_8 39) 6) - 7)) 7 x64_10)) (up_can (sOf_eq _ _ _) ((fup_comm _ _ _ (by decide)).trans (fup_cg (fup_comm _ _ _ (by decide)))) (setO_same _ _ _ _)) ?_
    have hT_14 : TY (setO g53_8 39 (fup (fup (fup (g53_8 39) 5 32768) 6 (((g53_8 39) 6) - 7)) 7 x64_10)) := tu_39_5 hT_13 (show up (setO g53_8 39 (fup (fup (g53_8 39) 6 (((g53_8 39) 6) - 7)) 7 x64_10)) 39 5 32768 = (setO g53_8 39 (fup (fup (fup (g53_8 39) 5 32768) 6 (((g53_8 39) 6) - 7)) 7 x64_10)) from up_can (sOf_eq _ _ _) ((fup_comm _ _ _ (by decide)).trans (fup_cg (fup_comm _ _ _ (by decide)))) (setO_same _ _ _ _)) (by omega)
    have hF_14 : FR [39, 41, 42] h (setO g53_8 39 (fup (fup (fup (g53_8 39) 5 32768) 6 (((g53_8 39) 6) - 7)) 7 x64_10)) := FR_up (show up (setO g53_8 39 (fup (fup (g53_8 39) 6 (((g53_8 39) 6) - 7)) 7 x64_10)) 39 5 32768 = (setO g53_8 39 (fup (fup (fup (g53_8 39) 5 32768) 6 (((g53_8 39) 6) - 7)) 7 x64_10)) from up_can (sOf_eq _ _ _) ((fup_comm _ _ _ (by decide)).trans (fup_cg (fup_comm _ _ _ (by decide)))) (setO_same _ _ _ _)) hF_13 (by decide)
    refine TT_vret hK hQ ?_ dX6_begin_84
    exact ⟨⟨hT_14, hF_14⟩, rfl⟩
  · refine TT_aload_n hK rfl 0 rfl dX6_begin_32 ?_
    refine gf_X6_18 hK (by decide) rfl (q := 43) rfl rfl dX6_begin_33 ?_
    refine TT_iconst hK dX6_begin_36 ?_
    refine TT_iald hK (o := 43) (n := 1024) (by decide) rfl (by first | omega | (simp [up, setR] <;> omega)) (by first | omega | (simp [up, setR] <;> omega)) (v := (h 43) 0) (rd_ ((sOf_ne _ _ (by decide)).trans (hG_1 43 (by decide))) rfl) dX6_begin_37 ?_
    have r15 := ty_43 (i := 0) (v := (h 43) 0) hT_4 (rd_ ((sOf_ne _ _ (by decide)).trans (hG_1 43 (by decide))) rfl) (by omega) (by omega)
    refine TT_goto hK (tgt := 44) dX6_begin_38 (by decide) ?_
    refine TT_i2l hK (irm (by omega) (by omega)) dX6_begin_44 ?_
    refine TT_ldc2 hK lc_X6_47 dX6_begin_45 ?_
    refine TT_lmul hK dX6_begin_48 ?_
    refine pf_X6_49 hK (by decide) rfl dX6_begin_49 ?_
    refine TT_hp (h' := setO g4_1 39 (fup (fup (fup (h 39) 3 (min n ((h 39) 2))) 4 0) 7 (((h 43) 0) * 65536))) (up_can (sOf_eq _ _ _) rfl (setO_same _ _ _ _)) ?_
    have hT_16 : TY (setO g4_1 39 (fup (fup (fup (h 39) 3 (min n ((h 39) 2))) 4 0) 7 (((h 43) 0) * 65536))) := tu_39_7 hT_4 (show up (setO g4_1 39 (fup (fup (h 39) 3 (min n ((h 39) 2))) 4 0)) 39 7 (((h 43) 0) * 65536) = (setO g4_1 39 (fup (fup (fup (h 39) 3 (min n ((h 39) 2))) 4 0) 7 (((h 43) 0) * 65536))) from up_can (sOf_eq _ _ _) rfl (setO_same _ _ _ _)) (by omega)
    have hF_16 : FR [39, 41, 42] h (setO g4_1 39 (fup (fup (fup (h 39) 3 (min n ((h 39) 2))) 4 0) 7 (((h 43) 0) * 65536))) := FR_up (show up (setO g4_1 39 (fup (fup (h 39) 3 (min n ((h 39) 2))) 4 0)) 39 7 (((h 43) 0) * 65536) = (setO g4_1 39 (fup (fup (fup (h 39) 3 (min n ((h 39) 2))) 4 0) 7 (((h 43) 0) * 65536))) from up_can (sOf_eq _ _ _) rfl (setO_same _ _ _ _)) hF_4 (by decide)
    refine TT_aload_n hK rfl 0 rfl dX6_begin_52 ?_
    refine iv_X6_53 hK (s_X6_comeIn_39 (setO g4_1 39 (fup (fup (fup (h 39) 3 (min n ((h 39) 2))) 4 0) 7 (((h 43) 0) * 65536))) hT_16 ) (by decide) rfl ⟨by decide, by decide⟩ (by decide) rfl rfl (Nat.le_of_ble_eq_true rfl) ⟨by decide, by decide⟩ dX6_begin_53 ?_
    intro r9 g53_17 hp9
    obtain ⟨⟨hT_17, hG_17⟩, hr9, p1_17⟩ := hp9
    rw [hr9]
    have hF_17 : FR [39, 41, 42] h g53_17 := FR_tr hF_16 hG_17 (by decide)
    show TT K ly 0 0 56 [(0, vR 39), (1, vI n)] [] g53_17
    refine TT_aload_n hK rfl 0 rfl dX6_begin_56 ?_
    refine TT_dup hK rfl dX6_begin_57 ?_
    refine gf_X6_49 hK (by decide) rfl (v := (g53_17 39) 7) rfl dX6_begin_58 ?_
    have r18 := ty_39_7 (v := (g53_17 39) 7) hT_17 rfl
    refine TT_bipush hK (by decide) dX6_begin_61 ?_
    refine TT_lshl hK (by decide) dX6_begin_63 ?_
    refine TT_cgJ (b := ((g53_17 39) 7) * 128) rfl ?_
    refine TT_w64f (fun x64_19 hx19 => ?_)
    refine pf_X6_49 hK (by decide) rfl dX6_begin_64 ?_
    refine TT_hp (h' := setO g53_17 39 (fup (g53_17 39) 7 x64_19)) (up_can rfl rfl rfl) ?_
    have hT_20 : TY (setO g53_17 39 (fup (g53_17 39) 7 x64_19)) := tu_39_7 hT_17 (show up g53_17 39 7 x64_19 = (setO g53_17 39 (fup (g53_17 39) 7 x64_19)) from up_can rfl rfl rfl) (by omega)
    have hF_20 : FR [39, 41, 42] h (setO g53_17 39 (fup (g53_17 39) 7 x64_19)) := FR_up (show up g53_17 39 7 x64_19 = (setO g53_17 39 (fup (g53_17 39) 7 x64_19)) from up_can rfl rfl rfl) hF_17 (by decide)
    refine TT_aload_n hK rfl 0 rfl dX6_begin_67 ?_
    refine TT_dup hK rfl dX6_begin_68 ?_
    refine gf_X6_56 hK (by decide) rfl (v := (g53_17 39) 6) (rd_ (sOf_eq _ _ _) (fup_ne _ _ (by decide))) dX6_begin_69 ?_
    have r21 := ty_39_6 (v := (g53_17 39) 6) hT_20 (rd_ (sOf_eq _ _ _) (fup_ne _ _ (by decide)))
    refine TT_bipush hK (by decide) dX6_begin_72 ?_
    refine TT_isub hK dX6_begin_74 ?_
    refine pf_X6_56 hK (by decide) rfl dX6_begin_75 ?_
    refine TT_hp (h' := setO g53_17 39 (fup (fup (g53_17 39) 6 (((g53_17 39) 6) - 7)) 7 x64_19)) (up_can (sOf_eq _ _ _) (fup_comm _ _ _ (by decide)) (setO_same _ _ _ _)) ?_
    have hT_22 : TY (setO g53_17 39 (fup (fup (g53_17 39) 6 (((g53_17 39) 6) - 7)) 7 x64_19)) := tu_39_6 hT_20 (show up (setO g53_17 39 (fup (g53_17 39) 7 x64_19)) 39 6 (((g53_17 39) 6) - 7) = (setO g53_17 39 (fup (fup (g53_17 39) 6 (((g53_17 39) 6) - 7)) 7 x64_19)) from up_can (sOf_eq _ _ _) (fup_comm _ _ _ (by decide)) (setO_same _ _ _ _)) (by omega)
    have hF_22 : FR [39, 41, 42] h (setO g53_17 39 (fup (fup (g53_17 39) 6 (((g53_17 39) 6) - 7)) 7 x64_19)) := FR_up (show up (setO g53_17 39 (fup (g53_17 39) 7 x64_19)) 39 6 (((g53_17 39) 6) - 7) = (setO g53_17 39 (fup (fup (g53_17 39) 6 (((g53_17 39) 6) - 7)) 7 x64_19)) from up_can (sOf_eq _ _ _) (fup_comm _ _ _ (by decide)) (setO_same _ _ _ _)) hF_20 (by decide)
    refine TT_aload_n hK rfl 0 rfl dX6_begin_78 ?_
    refine TT_ldc hK lc_X6_59 dX6_begin_79 ?_
    refine pf_X6_60 hK (by decide) rfl dX6_begin_81 ?_
    refine TT_hp (h' := setO g53_17 39 (fup (fup (fup (g53_17 39) 5 32768) 6 (((g53_17 39) 6) - 7)) 7 x64_19)) (up_can (sOf_eq _ _ _) ((fup_comm _ _ _ (by decide)).trans (fup_cg (fup_comm _ _ _ (by decide)))) (setO_same _ _ _ _)) ?_
    have hT_23 : TY (setO g53_17 39 (fup (fup (fup (g53_17 39) 5 32768) 6 (((g53_17 39) 6) - 7)) 7 x64_19)) := tu_39_5 hT_22 (show up (setO g53_17 39 (fup (fup (g53_17 39) 6 (((g53_17 39) 6) - 7)) 7 x64_19)) 39 5 32768 = (setO g53_17 39 (fup (fup (fup (g53_17 39) 5 32768) 6 (((g53_17 39) 6) - 7)) 7 x64_19)) from up_can (sOf_eq _ _ _) ((fup_comm _ _ _ (by decide)).trans (fup_cg (fup_comm _ _ _ (by decide)))) (setO_same _ _ _ _)) (by omega)
    have hF_23 : FR [39, 41, 42] h (setO g53_17 39 (fup (fup (fup (g53_17 39) 5 32768) 6 (((g53_17 39) 6) - 7)) 7 x64_19)) := FR_up (show up (setO g53_17 39 (fup (fup (g53_17 39) 6 (((g53_17 39) 6) - 7)) 7 x64_19)) 39 5 32768 = (setO g53_17 39 (fup (fup (fup (g53_17 39) 5 32768) 6 (((g53_17 39) 6) - 7)) 7 x64_19)) from up_can (sOf_eq _ _ _) ((fup_comm _ _ _ (by decide)).trans (fup_cg (fup_comm _ _ _ (by decide)))) (setO_same _ _ _ _)) hF_22 (by decide)
    refine TT_vret hK hQ ?_ dX6_begin_84
    exact ⟨⟨hT_23, hF_23⟩, rfl⟩
set_option maxRecDepth 20000 in
theorem s_X6_tellBit_39 (x b : Int) (h : Hp_) (hT : TY h) (hx : 0 ≤ x ∧ x ≤ 18) (hb : -2147483648 ≤ b ∧ b ≤ 2147483647) : Ctr yX6_tellBit cX6_tellBit 7 (some .int) (rmd 1) ly ly 0 0 [vR 39, vI x, vI b] h (fun r h' => (TY h' ∧ FR [39, 41, 42] h h') ∧ ∃ z : Int, r = some (vI z) ∧ (0 ≤ z ∧ z ≤ 1)) := by
  refine Ctr_of (by decide) (Nat.le_of_ble_eq_true rfl) ⟨Nat.le_refl _, Nat.le_refl _⟩ (fun K hK hQ _ => ?_)
  show TT K ly 0 0 0 [(0, vR 39), (1, vI x), (2, vI b)] [] h
  have hF : FR [39, 41, 42] h h := FR_rf _ _
  refine TT_aload_n hK rfl 0 rfl dX6_tellBit_0 ?_
  refine gf_X6_12 hK (by decide) rfl (q := 40) rfl rfl dX6_tellBit_1 ?_
  refine TT_iload_n hK rfl 1 rfl dX6_tellBit_4 ?_
  refine iv_X6_65 hK (s_X2_sizeOf_40 x h hT (by first | omega | (simp [up, setR] <;> omega))) (by decide) rfl ⟨by decide, by decide⟩ (by decide) rfl rfl (Nat.le_of_ble_eq_true rfl) ⟨by decide, by decide⟩ dX6_tellBit_5 ?_
  intro r9 g5_1 hp9
  obtain ⟨⟨hT_1, hG_1⟩, z5_1, hr9, hz_1⟩ := hp9
  rw [hr9]
  have hF_1 : FR [39, 41, 42] h g5_1 := FR_tr hF hG_1 (by decide)
  show TT K ly 0 0 8 [(0, vR 39), (1, vI x), (2, vI b)] [vI z5_1] g5_1
  refine TT_istore_n hK rfl (lv' := [(3, vI z5_1), (0, vR 39), (1, vI x), (2, vI b)]) (by decide) rfl dX6_tellBit_8 ?_
  refine TT_aload_n hK rfl 1 rfl dX6_tellBit_9 ?_
  refine gf_X6_12 hK (by decide) rfl (q := 40) rfl rfl dX6_tellBit_10 ?_
  refine TT_iload_n hK rfl 2 rfl dX6_tellBit_13 ?_
  refine iv_X6_68 hK (s_X2_likelyBit_40 x g5_1 hT_1 (by first | omega | (simp [up, setR] <;> omega))) (by decide) rfl ⟨by decide, by decide⟩ (by decide) rfl rfl (Nat.le_of_ble_eq_true rfl) ⟨by decide, by decide⟩ dX6_tellBit_14 ?_
  intro r9 g14_2 hp9
  obtain ⟨⟨hT_2, hG_2⟩, z14_2, hr9, hz_2⟩ := hp9
  rw [hr9]
  have hF_2 : FR [39, 41, 42] h g14_2 := FR_tr hF_1 hG_2 (by decide)
  show TT K ly 0 0 17 [(3, vI z5_1), (0, vR 39), (1, vI x), (2, vI b)] [vI z14_2] g14_2
  refine TT_istore hK (lv' := [(4, vI z14_2), (3, vI z5_1), (0, vR 39), (1, vI x), (2, vI b)]) (by decide) rfl dX6_tellBit_17 ?_
  refine TT_aload_n hK rfl 2 rfl dX6_tellBit_19 ?_
  refine TT_dup hK rfl dX6_tellBit_20 ?_
  refine gf_X6_60 hK (by decide) rfl (v := (h 39) 5) (rd_ (((hG_2 39 (by decide))).trans (hG_1 39 (by decide))) rfl) dX6_tellBit_21 ?_
  have r3 := ty_39_5 (v := (h 39) 5) hT_2 (rd_ (((hG_2 39 (by decide))).trans (hG_1 39 (by decide))) rfl)
  refine TT_iload_n hK rfl 1 rfl dX6_tellBit_24 ?_
  refine TT_isub hK dX6_tellBit_25 ?_
  refine TT_w32 (fun x26_4 hx4 => ?_)
  refine pf_X6_60 hK (by decide) rfl dX6_tellBit_26 ?_
  refine TT_hp (h' := setO g14_2 39 (fup (h 39) 5 x26_4)) (up_can (((hG_2 39 (by decide))).trans (hG_1 39 (by decide))) rfl rfl) ?_
  have hT_5 : TY (setO g14_2 39 (fup (h 39) 5 x26_4)) := tu_39_5 hT_2 (show up g14_2 39 5 x26_4 = (setO g14_2 39 (fup (h 39) 5 x26_4)) from up_can (((hG_2 39 (by decide))).trans (hG_1 39 (by decide))) rfl rfl) (by omega)
  have hF_5 : FR [39, 41, 42] h (setO g14_2 39 (fup (h 39) 5 x26_4)) := FR_up (show up g14_2 39 5 x26_4 = (setO g14_2 39 (fup (h 39) 5 x26_4)) from up_can (((hG_2 39 (by decide))).trans (hG_1 39 (by decide))) rfl rfl) hF_2 (by decide)
  refine TT_aload_n hK rfl 2 rfl dX6_tellBit_29 ?_
  refine gf_X6_49 hK (by decide) rfl (v := (h 39) 7) (rd_ (sOf_eq _ _ _) (fup_ne _ _ (by decide))) dX6_tellBit_30 ?_
  have r6 := ty_39_7 (v := (h 39) 7) hT_5 (rd_ (sOf_eq _ _ _) (fup_ne _ _ (by decide)))
  refine TT_bipush hK (by decide) dX6_tellBit_33 ?_
  refine TT_lshr hK (lrm (by omega) (by omega)) rfl dX6_tellBit_35 ?_
  refine TT_cgJ (b := ((h 39) 7) / 65536) rfl ?_
  refine TT_iload_n hK rfl 1 rfl dX6_tellBit_36 ?_
  refine TT_i2l hK (irm (by omega) (by omega)) dX6_tellBit_37 ?_
  refine TT_lcmp hK (lrm (by omega) (by omega)) (lrm (by omega) (by omega)) dX6_tellBit_38 ?_
  refine TT_if_ge hK (tgt := 69) (lcmp_ir _ _) dX6_tellBit_39 (by decide) (fun hb39_7 => ?_) (fun hb39_7 => ?_)
  · have hb39_7 := lcmp_ge hb39_7
    refine TT_aload_n hK rfl 2 rfl dX6_tellBit_69 ?_
    refine TT_dup hK rfl dX6_tellBit_70 ?_
    refine gf_X6_49 hK (by decide) rfl (v := (h 39) 7) (rd_ (sOf_eq _ _ _) (fup_ne _ _ (by decide))) dX6_tellBit_71 ?_
    refine TT_iload_n hK rfl 1 rfl dX6_tellBit_74 ?_
    refine TT_i2l hK (irm (by omega) (by omega)) dX6_tellBit_75 ?_
    refine TT_bipush hK (by decide) dX6_tellBit_76 ?_
    refine TT_lshl hK (by decide) dX6_tellBit_78 ?_
    refine TT_cgJ (b := z5_1 * 65536) rfl ?_
    refine TT_lsub hK dX6_tellBit_79 ?_
    refine TT_w64f (fun x80_8 hx8 => ?_)
    refine pf_X6_49 hK (by decide) rfl dX6_tellBit_80 ?_
    refine TT_hp (h' := setO g14_2 39 (fup (fup (h 39) 5 x26_4) 7 x80_8)) (up_can (sOf_eq _ _ _) rfl (setO_same _ _ _ _)) ?_
    have hT_9 : TY (setO g14_2 39 (fup (fup (h 39) 5 x26_4) 7 x80_8)) := tu_39_7 hT_5 (show up (setO g14_2 39 (fup (h 39) 5 x26_4)) 39 7 x80_8 = (setO g14_2 39 (fup (fup (h 39) 5 x26_4) 7 x80_8)) from up_can (sOf_eq _ _ _) rfl (setO_same _ _ _ _)) (by omega)
    have hF_9 : FR [39, 41, 42] h (setO g14_2 39 (fup (fup (h 39) 5 x26_4) 7 x80_8)) := FR_up (show up (setO g14_2 39 (fup (h 39) 5 x26_4)) 39 7 x80_8 = (setO g14_2 39 (fup (fup (h 39) 5 x26_4) 7 x80_8)) from up_can (sOf_eq _ _ _) rfl (setO_same _ _ _ _)) hF_5 (by decide)
    refine TT_aload_n hK rfl 2 rfl dX6_tellBit_83 ?_
    refine gf_X6_60 hK (by decide) rfl (v := x26_4) (rd_ (sOf_eq _ _ _) ((fup_ne _ _ (by decide)).trans (fup_eq _ _ _))) dX6_tellBit_84 ?_
    have r10 := ty_39_5 (v := x26_4) hT_9 (rd_ (sOf_eq _ _ _) ((fup_ne _ _ (by decide)).trans (fup_eq _ _ _)))
    refine TT_ldc hK lc_X6_59 dX6_tellBit_87 ?_
    refine TT_icmp_lt hK (tgt := 95) (irm (by omega) (by omega)) (by decide) dX6_tellBit_89 (by decide) (fun hb89_11 => ?_) (fun hb89_11 => ?_)
    · refine TT_aload_n hK rfl 2 rfl dX6_tellBit_95 ?_
      refine gf_X6_60 hK (by decide) rfl (v := x26_4) (rd_ (sOf_eq _ _ _) ((fup_ne _ _ (by decide)).trans (fup_eq _ _ _))) dX6_tellBit_96 ?_
      refine TT_iload_n hK rfl 1 rfl dX6_tellBit_99 ?_
      refine TT_icmp_ge hK (tgt := 110) (irm (by omega) (by omega)) (irm (by omega) (by omega)) dX6_tellBit_100 (by decide) (fun hb100_12 => ?_) (fun hb100_12 => ?_)
      · refine TT_iload hK 0 rfl dX6_tellBit_110 ?_
        refine TT_istore hK (lv' := [(5, vI z14_2), (4, vI z14_2), (3, vI z5_1), (0, vR 39), (1, vI x), (2, vI b)]) (by decide) rfl dX6_tellBit_112 ?_
        refine TT_aload_n hK rfl 3 rfl dX6_tellBit_114 ?_
        refine gf_X6_12 hK (by decide) rfl (q := 40) rfl rfl dX6_tellBit_115 ?_
        refine TT_iload_n hK rfl 4 rfl dX6_tellBit_118 ?_
        refine TT_iload hK 0 rfl dX6_tellBit_119 ?_
        refine iv_X6_71 hK (s_X2_learn_40 x z14_2 (setO g14_2 39 (fup (fup (h 39) 5 x26_4) 7 x80_8)) hT_9 (by first | omega | (simp [up, setR] <;> omega)) (by first | omega | (simp [up, setR] <;> omega))) (by decide) rfl ⟨by decide, by decide⟩ (by decide) rfl rfl (Nat.le_of_ble_eq_true rfl) ⟨by decide, by decide⟩ dX6_tellBit_121 ?_
        intro r9 g121_13 hp9
        obtain ⟨⟨hT_13, hG_13⟩, hr9⟩ := hp9
        rw [hr9]
        have hF_13 : FR [39, 41, 42] h g121_13 := FR_tr hF_9 hG_13 (by decide)
        show TT K ly 0 0 124 [(5, vI z14_2), (4, vI z14_2), (3, vI z5_1), (0, vR 39), (1, vI x), (2, vI b)] [] g121_13
        refine TT_iconst hK dX6_tellBit_124 ?_
        refine TT_istore hK (lv' := [(6, vI 0), (5, vI z14_2), (4, vI z14_2), (3, vI z5_1), (0, vR 39), (1, vI x), (2, vI b)]) (by decide) rfl dX6_tellBit_125 ?_
        have L127_14 : ∀ (k14 : Nat) (k : Int) (b9 : Int) (w127_14 : Hp_), TY w127_14 → FR [39, 41, 42] h w127_14 → (0 ≤ k ∧ k ≤ 15) → (0 ≤ b9 ∧ b9 ≤ 1) → ((15 : Int) - k).toNat < k14 → TT K ly 0 0 127 [(0, vR 39), (1, vI x), (5, vI b9), (6, vI k)] [] w127_14 := by
          intro k14
          induction k14 with
          | zero => intro k b9 w127_14 hT127_14 hF127_14 hk hb9 hk14; exact absurd hk14 (Nat.not_lt_zero _)
          | succ k14 ih14 =>
            intro k b9 w127_14 hT127_14 hF127_14 hk hb9 hk14
            refine TT_iload hK 3 rfl dX6_tellBit_127 ?_
            refine TT_bipush hK (by decide) dX6_tellBit_129 ?_
            refine TT_icmp_ge hK (tgt := 196) (irm (by omega) (by omega)) (by decide) dX6_tellBit_131 (by decide) (fun hb131_15 => ?_) (fun hb131_15 => ?_)
            · refine TT_iload hK 2 rfl dX6_tellBit_196 ?_
              refine TT_iret hK hQ ?_ dX6_tellBit_198
              exact ⟨⟨hT127_14, hF127_14⟩, b9, rfl, (by omega)⟩
            · refine TT_aload_n hK rfl 0 rfl dX6_tellBit_134 ?_
              refine gf_X6_60 hK (by decide) rfl (v := (w127_14 39) 5) rfl dX6_tellBit_135 ?_
              have r16 := ty_39_5 (v := (w127_14 39) 5) hT127_14 rfl
              refine TT_ldc hK lc_X6_59 dX6_tellBit_138 ?_
              refine TT_icmp_ge hK (tgt := 196) (irm (by omega) (by omega)) (by decide) dX6_tellBit_140 (by decide) (fun hb140_17 => ?_) (fun hb140_17 => ?_)
              · refine TT_iload hK 2 rfl dX6_tellBit_196 ?_
                refine TT_iret hK hQ ?_ dX6_tellBit_198
                exact ⟨⟨hT127_14, hF127_14⟩, b9, rfl, (by omega)⟩
              · refine TT_aload_n hK rfl 0 rfl dX6_tellBit_143 ?_
                refine gf_X6_56 hK (by decide) rfl (v := (w127_14 39) 6) rfl dX6_tellBit_144 ?_
                have r18 := ty_39_6 (v := (w127_14 39) 6) hT127_14 rfl
                refine TT_if_ne hK (tgt := 154) (irm (by omega) (by omega)) dX6_tellBit_147 (by decide) (fun hb147_19 => ?_) (fun hb147_19 => ?_)
                · refine TT_aload_n hK rfl 0 rfl dX6_tellBit_154 ?_
                  refine TT_dup hK rfl dX6_tellBit_155 ?_
                  refine gf_X6_60 hK (by decide) rfl (v := (w127_14 39) 5) rfl dX6_tellBit_156 ?_
                  refine TT_iconst hK dX6_tellBit_159 ?_
                  refine TT_ishl hK (by omega) (by omega) dX6_tellBit_160 ?_
                  refine TT_cgI (b := ((w127_14 39) 5) * 2) rfl ?_
                  refine TT_w32 (fun x161_20 hx20 => ?_)
                  refine pf_X6_60 hK (by decide) rfl dX6_tellBit_161 ?_
                  refine TT_hp (h' := setO w127_14 39 (fup (w127_14 39) 5 x161_20)) (up_can rfl rfl rfl) ?_
                  have hT_21 : TY (setO w127_14 39 (fup (w127_14 39) 5 x161_20)) := tu_39_5 hT127_14 (show up w127_14 39 5 x161_20 = (setO w127_14 39 (fup (w127_14 39) 5 x161_20)) from up_can rfl rfl rfl) (by omega)
                  have hF_21 : FR [39, 41, 42] h (setO w127_14 39 (fup (w127_14 39) 5 x161_20)) := FR_up (show up w127_14 39 5 x161_20 = (setO w127_14 39 (fup (w127_14 39) 5 x161_20)) from up_can rfl rfl rfl) hF127_14 (by decide)
                  refine TT_aload_n hK rfl 0 rfl dX6_tellBit_164 ?_
                  refine TT_aload_n hK rfl 0 rfl dX6_tellBit_165 ?_
                  refine gf_X6_49 hK (by decide) rfl (v := (w127_14 39) 7) (rd_ (sOf_eq _ _ _) (fup_ne _ _ (by decide))) dX6_tellBit_166 ?_
                  have r22 := ty_39_7 (v := (w127_14 39) 7) hT_21 (rd_ (sOf_eq _ _ _) (fup_ne _ _ (by decide)))
                  refine TT_iconst hK dX6_tellBit_169 ?_
                  refine TT_lshl hK (by decide) dX6_tellBit_170 ?_
                  refine TT_cgJ (b := ((w127_14 39) 7) * 2) rfl ?_
                  refine TT_w64f (fun x171_23 hx23 => ?_)
                  refine TT_ldc2 hK lc_X6_75 dX6_tellBit_171 ?_
                  refine TT_mminl hK (lrm (by omega) (by omega)) (by decide) iw_X6_77 (by decide) (Nat.le_of_ble_eq_true rfl) ⟨by decide, by decide⟩ dX6_tellBit_174 ?_
                  refine pf_X6_49 hK (by decide) rfl dX6_tellBit_177 ?_
                  refine TT_hp (h' := setO w127_14 39 (fup (fup (w127_14 39) 5 x161_20) 7 (min x171_23 1099511627776))) (up_can (sOf_eq _ _ _) rfl (setO_same _ _ _ _)) ?_
                  have hT_24 : TY (setO w127_14 39 (fup (fup (w127_14 39) 5 x161_20) 7 (min x171_23 1099511627776))) := tu_39_7 hT_21 (show up (setO w127_14 39 (fup (w127_14 39) 5 x161_20)) 39 7 (min x171_23 1099511627776) = (setO w127_14 39 (fup (fup (w127_14 39) 5 x161_20) 7 (min x171_23 1099511627776))) from up_can (sOf_eq _ _ _) rfl (setO_same _ _ _ _)) (by omega)
                  have hF_24 : FR [39, 41, 42] h (setO w127_14 39 (fup (fup (w127_14 39) 5 x161_20) 7 (min x171_23 1099511627776))) := FR_up (show up (setO w127_14 39 (fup (w127_14 39) 5 x161_20)) 39 7 (min x171_23 1099511627776) = (setO w127_14 39 (fup (fup (w127_14 39) 5 x161_20) 7 (min x171_23 1099511627776))) from up_can (sOf_eq _ _ _) rfl (setO_same _ _ _ _)) hF_21 (by decide)
                  refine TT_aload_n hK rfl 0 rfl dX6_tellBit_180 ?_
                  refine TT_dup hK rfl dX6_tellBit_181 ?_
                  refine gf_X6_56 hK (by decide) rfl (v := (w127_14 39) 6) (rd_ (sOf_eq _ _ _) ((fup_ne _ _ (by decide)).trans (fup_ne _ _ (by decide)))) dX6_tellBit_182 ?_
                  refine TT_iconst hK dX6_tellBit_185 ?_
                  refine TT_isub hK dX6_tellBit_186 ?_
                  refine pf_X6_56 hK (by decide) rfl dX6_tellBit_187 ?_
                  refine TT_hp (h' := setO w127_14 39 (fup (fup (fup (w127_14 39) 5 x161_20) 6 (((w127_14 39) 6) - 1)) 7 (min x171_23 1099511627776))) (up_can (sOf_eq _ _ _) (fup_comm _ _ _ (by decide)) (setO_same _ _ _ _)) ?_
                  have hT_25 : TY (setO w127_14 39 (fup (fup (fup (w127_14 39) 5 x161_20) 6 (((w127_14 39) 6) - 1)) 7 (min x171_23 1099511627776))) := tu_39_6 hT_24 (show up (setO w127_14 39 (fup (fup (w127_14 39) 5 x161_20) 7 (min x171_23 1099511627776))) 39 6 (((w127_14 39) 6) - 1) = (setO w127_14 39 (fup (fup (fup (w127_14 39) 5 x161_20) 6 (((w127_14 39) 6) - 1)) 7 (min x171_23 1099511627776))) from up_can (sOf_eq _ _ _) (fup_comm _ _ _ (by decide)) (setO_same _ _ _ _)) (by omega)
                  have hF_25 : FR [39, 41, 42] h (setO w127_14 39 (fup (fup (fup (w127_14 39) 5 x161_20) 6 (((w127_14 39) 6) - 1)) 7 (min x171_23 1099511627776))) := FR_up (show up (setO w127_14 39 (fup (fup (w127_14 39) 5 x161_20) 7 (min x171_23 1099511627776))) 39 6 (((w127_14 39) 6) - 1) = (setO w127_14 39 (fup (fup (fup (w127_14 39) 5 x161_20) 6 (((w127_14 39) 6) - 1)) 7 (min x171_23 1099511627776))) from up_can (sOf_eq _ _ _) (fup_comm _ _ _ (by decide)) (setO_same _ _ _ _)) hF_24 (by decide)
                  refine TT_iinc hK (v := k + 1) (lv' := [(6, vI (k + 1)), (0, vR 39), (1, vI x), (5, vI b9)]) 3 rfl rfl (by decide) rfl dX6_tellBit_190 ?_
                  refine TT_goto hK (tgt := 127) dX6_tellBit_193 (by decide) ?_
                  refine TT_sub [1, 2, 3, 0] rfl ?_
                  exact ih14 (k + 1) b9 (setO w127_14 39 (fup (fup (fup (w127_14 39) 5 x161_20) 6 (((w127_14 39) 6) - 1)) 7 (min x171_23 1099511627776))) hT_25 hF_25 (by first | omega | (simp [up, setR] <;> omega)) (by first | omega | (simp [up, setR] <;> omega)) (by first | omega | (simp [up, setR] <;> omega))
                · refine TT_aload_n hK rfl 0 rfl dX6_tellBit_150 ?_
                  refine iv_X6_53 hK (s_X6_comeIn_39 w127_14 hT127_14 ) (by decide) rfl ⟨by decide, by decide⟩ (by decide) rfl rfl (Nat.le_of_ble_eq_true rfl) ⟨by decide, by decide⟩ dX6_tellBit_151 ?_
                  intro r9 g151_26 hp9
                  obtain ⟨⟨hT_26, hG_26⟩, hr9, p1_26⟩ := hp9
                  rw [hr9]
                  have hF_26 : FR [39, 41, 42] h g151_26 := FR_tr hF127_14 hG_26 (by decide)
                  show TT K ly 0 0 154 [(0, vR 39), (1, vI x), (5, vI b9), (6, vI k)] [] g151_26
                  refine TT_aload_n hK rfl 0 rfl dX6_tellBit_154 ?_
                  refine TT_dup hK rfl dX6_tellBit_155 ?_
                  refine gf_X6_60 hK (by decide) rfl (v := (g151_26 39) 5) rfl dX6_tellBit_156 ?_
                  have r27 := ty_39_5 (v := (g151_26 39) 5) hT_26 rfl
                  refine TT_iconst hK dX6_tellBit_159 ?_
                  refine TT_ishl hK (by omega) (by omega) dX6_tellBit_160 ?_
                  refine TT_cgI (b := ((g151_26 39) 5) * 2) rfl ?_
                  refine TT_w32 (fun x161_28 hx28 => ?_)
                  refine pf_X6_60 hK (by decide) rfl dX6_tellBit_161 ?_
                  refine TT_hp (h' := setO g151_26 39 (fup (g151_26 39) 5 x161_28)) (up_can rfl rfl rfl) ?_
                  have hT_29 : TY (setO g151_26 39 (fup (g151_26 39) 5 x161_28)) := tu_39_5 hT_26 (show up g151_26 39 5 x161_28 = (setO g151_26 39 (fup (g151_26 39) 5 x161_28)) from up_can rfl rfl rfl) (by omega)
                  have hF_29 : FR [39, 41, 42] h (setO g151_26 39 (fup (g151_26 39) 5 x161_28)) := FR_up (show up g151_26 39 5 x161_28 = (setO g151_26 39 (fup (g151_26 39) 5 x161_28)) from up_can rfl rfl rfl) hF_26 (by decide)
                  refine TT_aload_n hK rfl 0 rfl dX6_tellBit_164 ?_
                  refine TT_aload_n hK rfl 0 rfl dX6_tellBit_165 ?_
                  refine gf_X6_49 hK (by decide) rfl (v := (g151_26 39) 7) (rd_ (sOf_eq _ _ _) (fup_ne _ _ (by decide))) dX6_tellBit_166 ?_
                  have r30 := ty_39_7 (v := (g151_26 39) 7) hT_29 (rd_ (sOf_eq _ _ _) (fup_ne _ _ (by decide)))
                  refine TT_iconst hK dX6_tellBit_169 ?_
                  refine TT_lshl hK (by decide) dX6_tellBit_170 ?_
                  refine TT_cgJ (b := ((g151_26 39) 7) * 2) rfl ?_
                  refine TT_w64f (fun x171_31 hx31 => ?_)
                  refine TT_ldc2 hK lc_X6_75 dX6_tellBit_171 ?_
                  refine TT_mminl hK (lrm (by omega) (by omega)) (by decide) iw_X6_77 (by decide) (Nat.le_of_ble_eq_true rfl) ⟨by decide, by decide⟩ dX6_tellBit_174 ?_
                  refine pf_X6_49 hK (by decide) rfl dX6_tellBit_177 ?_
                  refine TT_hp (h' := setO g151_26 39 (fup (fup (g151_26 39) 5 x161_28) 7 (min x171_31 1099511627776))) (up_can (sOf_eq _ _ _) rfl (setO_same _ _ _ _)) ?_
                  have hT_32 : TY (setO g151_26 39 (fup (fup (g151_26 39) 5 x161_28) 7 (min x171_31 1099511627776))) := tu_39_7 hT_29 (show up (setO g151_26 39 (fup (g151_26 39) 5 x161_28)) 39 7 (min x171_31 1099511627776) = (setO g151_26 39 (fup (fup (g151_26 39) 5 x161_28) 7 (min x171_31 1099511627776))) from up_can (sOf_eq _ _ _) rfl (setO_same _ _ _ _)) (by omega)
                  have hF_32 : FR [39, 41, 42] h (setO g151_26 39 (fup (fup (g151_26 39) 5 x161_28) 7 (min x171_31 1099511627776))) := FR_up (show up (setO g151_26 39 (fup (g151_26 39) 5 x161_28)) 39 7 (min x171_31 1099511627776) = (setO g151_26 39 (fup (fup (g151_26 39) 5 x161_28) 7 (min x171_31 1099511627776))) from up_can (sOf_eq _ _ _) rfl (setO_same _ _ _ _)) hF_29 (by decide)
                  refine TT_aload_n hK rfl 0 rfl dX6_tellBit_180 ?_
                  refine TT_dup hK rfl dX6_tellBit_181 ?_
                  refine gf_X6_56 hK (by decide) rfl (v := (g151_26 39) 6) (rd_ (sOf_eq _ _ _) ((fup_ne _ _ (by decide)).trans (fup_ne _ _ (by decide)))) dX6_tellBit_182 ?_
                  have r33 := ty_39_6 (v := (g151_26 39) 6) hT_32 (rd_ (sOf_eq _ _ _) ((fup_ne _ _ (by decide)).trans (fup_ne _ _ (by decide))))
                  refine TT_iconst hK dX6_tellBit_185 ?_
                  refine TT_isub hK dX6_tellBit_186 ?_
                  refine pf_X6_56 hK (by decide) rfl dX6_tellBit_187 ?_
                  refine TT_hp (h' := setO g151_26 39 (fup (fup (fup (g151_26 39) 5 x161_28) 6 (((g151_26 39) 6) - 1)) 7 (min x171_31 1099511627776))) (up_can (sOf_eq _ _ _) (fup_comm _ _ _ (by decide)) (setO_same _ _ _ _)) ?_
                  have hT_34 : TY (setO g151_26 39 (fup (fup (fup (g151_26 39) 5 x161_28) 6 (((g151_26 39) 6) - 1)) 7 (min x171_31 1099511627776))) := tu_39_6 hT_32 (show up (setO g151_26 39 (fup (fup (g151_26 39) 5 x161_28) 7 (min x171_31 1099511627776))) 39 6 (((g151_26 39) 6) - 1) = (setO g151_26 39 (fup (fup (fup (g151_26 39) 5 x161_28) 6 (((g151_26 39) 6) - 1)) 7 (min x171_31 1099511627776))) from up_can (sOf_eq _ _ _) (fup_comm _ _ _ (by decide)) (setO_same _ _ _ _)) (by omega)
                  have hF_34 : FR [39, 41, 42] h (setO g151_26 39 (fup (fup (fup (g151_26 39) 5 x161_28) 6 (((g151_26 39) 6) - 1)) 7 (min x171_31 1099511627776))) := FR_up (show up (setO g151_26 39 (fup (fup (g151_26 39) 5 x161_28) 7 (min x171_31 1099511627776))) 39 6 (((g151_26 39) 6) - 1) = (setO g151_26 39 (fup (fup (fup (g151_26 39) 5 x161_28) 6 (((g151_26 39) 6) - 1)) 7 (min x171_31 1099511627776))) from up_can (sOf_eq _ _ _) (fup_comm _ _ _ (by decide)) (setO_same _ _ _ _)) hF_32 (by decide)
                  refine TT_iinc hK (v := k + 1) (lv' := [(6, vI (k + 1)), (0, vR 39), (1, vI x), (5, vI b9)]) 3 rfl rfl (by decide) rfl dX6_tellBit_190 ?_
                  refine TT_goto hK (tgt := 127) dX6_tellBit_193 (by decide) ?_
                  refine TT_sub [1, 2, 3, 0] rfl ?_
                  exact ih14 (k + 1) b9 (setO g151_26 39 (fup (fup (fup (g151_26 39) 5 x161_28) 6 (((g151_26 39) 6) - 1)) 7 (min x171_31 1099511627776))) hT_34 hF_34 (by first | omega | (simp [up, setR] <;> omega)) (by first | omega | (simp [up, setR] <;> omega)) (by first | omega | (simp [up, setR] <;> omega))
        refine TT_sub [4, 5, 1, 0] rfl ?_
        exact L127_14 ((((15 : Int) - 0).toNat) + 1) 0 z14_2 g121_13 hT_13 hF_13 (by first | omega | (simp [up, setR] <;> omega)) (by first | omega | (simp [up, setR] <;> omega)) (Nat.lt_succ_self _)
      · refine TT_iconst hK dX6_tellBit_103 ?_
        refine TT_iload hK 0 rfl dX6_tellBit_104 ?_
        refine TT_isub hK dX6_tellBit_106 ?_
        refine TT_goto hK (tgt := 112) dX6_tellBit_107 (by decide) ?_
        refine TT_istore hK (lv' := [(5, vI (1 - z14_2)), (4, vI z14_2), (3, vI z5_1), (0, vR 39), (1, vI x), (2, vI b)]) (by decide) rfl dX6_tellBit_112 ?_
        refine TT_aload_n hK rfl 3 rfl dX6_tellBit_114 ?_
        refine gf_X6_12 hK (by decide) rfl (q := 40) rfl rfl dX6_tellBit_115 ?_
        refine TT_iload_n hK rfl 4 rfl dX6_tellBit_118 ?_
        refine TT_iload hK 0 rfl dX6_tellBit_119 ?_
        refine iv_X6_71 hK (s_X2_learn_40 x (1 - z14_2) (setO g14_2 39 (fup (fup (h 39) 5 x26_4) 7 x80_8)) hT_9 (by first | omega | (simp [up, setR] <;> omega)) (by first | omega | (simp [up, setR] <;> omega))) (by decide) rfl ⟨by decide, by decide⟩ (by decide) rfl rfl (Nat.le_of_ble_eq_true rfl) ⟨by decide, by decide⟩ dX6_tellBit_121 ?_
        intro r9 g121_35 hp9
        obtain ⟨⟨hT_35, hG_35⟩, hr9⟩ := hp9
        rw [hr9]
        have hF_35 : FR [39, 41, 42] h g121_35 := FR_tr hF_9 hG_35 (by decide)
        show TT K ly 0 0 124 [(5, vI (1 - z14_2)), (4, vI z14_2), (3, vI z5_1), (0, vR 39), (1, vI x), (2, vI b)] [] g121_35
        refine TT_iconst hK dX6_tellBit_124 ?_
        refine TT_istore hK (lv' := [(6, vI 0), (5, vI (1 - z14_2)), (4, vI z14_2), (3, vI z5_1), (0, vR 39), (1, vI x), (2, vI b)]) (by decide) rfl dX6_tellBit_125 ?_
        have L127_36 : ∀ (k36 : Nat) (k : Int) (b9 : Int) (w127_36 : Hp_), TY w127_36 → FR [39, 41, 42] h w127_36 → (0 ≤ k ∧ k ≤ 15) → (0 ≤ b9 ∧ b9 ≤ 1) → ((15 : Int) - k).toNat < k36 → TT K ly 0 0 127 [(0, vR 39), (1, vI x), (5, vI b9), (6, vI k)] [] w127_36 := by
          intro k36
          induction k36 with
          | zero => intro k b9 w127_36 hT127_36 hF127_36 hk hb9 hk36; exact absurd hk36 (Nat.not_lt_zero _)
          | succ k36 ih36 =>
            intro k b9 w127_36 hT127_36 hF127_36 hk hb9 hk36
            refine TT_iload hK 3 rfl dX6_tellBit_127 ?_
            refine TT_bipush hK (by decide) dX6_tellBit_129 ?_
            refine TT_icmp_ge hK (tgt := 196) (irm (by omega) (by omega)) (by decide) dX6_tellBit_131 (by decide) (fun hb131_37 => ?_) (fun hb131_37 => ?_)
            · refine TT_iload hK 2 rfl dX6_tellBit_196 ?_
              refine TT_iret hK hQ ?_ dX6_tellBit_198
              exact ⟨⟨hT127_36, hF127_36⟩, b9, rfl, (by omega)⟩
            · refine TT_aload_n hK rfl 0 rfl dX6_tellBit_134 ?_
              refine gf_X6_60 hK (by decide) rfl (v := (w127_36 39) 5) rfl dX6_tellBit_135 ?_
              have r38 := ty_39_5 (v := (w127_36 39) 5) hT127_36 rfl
              refine TT_ldc hK lc_X6_59 dX6_tellBit_138 ?_
              refine TT_icmp_ge hK (tgt := 196) (irm (by omega) (by omega)) (by decide) dX6_tellBit_140 (by decide) (fun hb140_39 => ?_) (fun hb140_39 => ?_)
              · refine TT_iload hK 2 rfl dX6_tellBit_196 ?_
                refine TT_iret hK hQ ?_ dX6_tellBit_198
                exact ⟨⟨hT127_36, hF127_36⟩, b9, rfl, (by omega)⟩
              · refine TT_aload_n hK rfl 0 rfl dX6_tellBit_143 ?_
                refine gf_X6_56 hK (by decide) rfl (v := (w127_36 39) 6) rfl dX6_tellBit_144 ?_
                have r40 := ty_39_6 (v := (w127_36 39) 6) hT127_36 rfl
                refine TT_if_ne hK (tgt := 154) (irm (by omega) (by omega)) dX6_tellBit_147 (by decide) (fun hb147_41 => ?_) (fun hb147_41 => ?_)
                · refine TT_aload_n hK rfl 0 rfl dX6_tellBit_154 ?_
                  refine TT_dup hK rfl dX6_tellBit_155 ?_
                  refine gf_X6_60 hK (by decide) rfl (v := (w127_36 39) 5) rfl dX6_tellBit_156 ?_
                  refine TT_iconst hK dX6_tellBit_159 ?_
                  refine TT_ishl hK (by omega) (by omega) dX6_tellBit_160 ?_
                  refine TT_cgI (b := ((w127_36 39) 5) * 2) rfl ?_
                  refine TT_w32 (fun x161_42 hx42 => ?_)
                  refine pf_X6_60 hK (by decide) rfl dX6_tellBit_161 ?_
                  refine TT_hp (h' := setO w127_36 39 (fup (w127_36 39) 5 x161_42)) (up_can rfl rfl rfl) ?_
                  have hT_43 : TY (setO w127_36 39 (fup (w127_36 39) 5 x161_42)) := tu_39_5 hT127_36 (show up w127_36 39 5 x161_42 = (setO w127_36 39 (fup (w127_36 39) 5 x161_42)) from up_can rfl rfl rfl) (by omega)
                  have hF_43 : FR [39, 41, 42] h (setO w127_36 39 (fup (w127_36 39) 5 x161_42)) := FR_up (show up w127_36 39 5 x161_42 = (setO w127_36 39 (fup (w127_36 39) 5 x161_42)) from up_can rfl rfl rfl) hF127_36 (by decide)
                  refine TT_aload_n hK rfl 0 rfl dX6_tellBit_164 ?_
                  refine TT_aload_n hK rfl 0 rfl dX6_tellBit_165 ?_
                  refine gf_X6_49 hK (by decide) rfl (v := (w127_36 39) 7) (rd_ (sOf_eq _ _ _) (fup_ne _ _ (by decide))) dX6_tellBit_166 ?_
                  have r44 := ty_39_7 (v := (w127_36 39) 7) hT_43 (rd_ (sOf_eq _ _ _) (fup_ne _ _ (by decide)))
                  refine TT_iconst hK dX6_tellBit_169 ?_
                  refine TT_lshl hK (by decide) dX6_tellBit_170 ?_
                  refine TT_cgJ (b := ((w127_36 39) 7) * 2) rfl ?_
                  refine TT_w64f (fun x171_45 hx45 => ?_)
                  refine TT_ldc2 hK lc_X6_75 dX6_tellBit_171 ?_
                  refine TT_mminl hK (lrm (by omega) (by omega)) (by decide) iw_X6_77 (by decide) (Nat.le_of_ble_eq_true rfl) ⟨by decide, by decide⟩ dX6_tellBit_174 ?_
                  refine pf_X6_49 hK (by decide) rfl dX6_tellBit_177 ?_
                  refine TT_hp (h' := setO w127_36 39 (fup (fup (w127_36 39) 5 x161_42) 7 (min x171_45 1099511627776))) (up_can (sOf_eq _ _ _) rfl (setO_same _ _ _ _)) ?_
                  have hT_46 : TY (setO w127_36 39 (fup (fup (w127_36 39) 5 x161_42) 7 (min x171_45 1099511627776))) := tu_39_7 hT_43 (show up (setO w127_36 39 (fup (w127_36 39) 5 x161_42)) 39 7 (min x171_45 1099511627776) = (setO w127_36 39 (fup (fup (w127_36 39) 5 x161_42) 7 (min x171_45 1099511627776))) from up_can (sOf_eq _ _ _) rfl (setO_same _ _ _ _)) (by omega)
                  have hF_46 : FR [39, 41, 42] h (setO w127_36 39 (fup (fup (w127_36 39) 5 x161_42) 7 (min x171_45 1099511627776))) := FR_up (show up (setO w127_36 39 (fup (w127_36 39) 5 x161_42)) 39 7 (min x171_45 1099511627776) = (setO w127_36 39 (fup (fup (w127_36 39) 5 x161_42) 7 (min x171_45 1099511627776))) from up_can (sOf_eq _ _ _) rfl (setO_same _ _ _ _)) hF_43 (by decide)
                  refine TT_aload_n hK rfl 0 rfl dX6_tellBit_180 ?_
                  refine TT_dup hK rfl dX6_tellBit_181 ?_
                  refine gf_X6_56 hK (by decide) rfl (v := (w127_36 39) 6) (rd_ (sOf_eq _ _ _) ((fup_ne _ _ (by decide)).trans (fup_ne _ _ (by decide)))) dX6_tellBit_182 ?_
                  refine TT_iconst hK dX6_tellBit_185 ?_
                  refine TT_isub hK dX6_tellBit_186 ?_
                  refine pf_X6_56 hK (by decide) rfl dX6_tellBit_187 ?_
                  refine TT_hp (h' := setO w127_36 39 (fup (fup (fup (w127_36 39) 5 x161_42) 6 (((w127_36 39) 6) - 1)) 7 (min x171_45 1099511627776))) (up_can (sOf_eq _ _ _) (fup_comm _ _ _ (by decide)) (setO_same _ _ _ _)) ?_
                  have hT_47 : TY (setO w127_36 39 (fup (fup (fup (w127_36 39) 5 x161_42) 6 (((w127_36 39) 6) - 1)) 7 (min x171_45 1099511627776))) := tu_39_6 hT_46 (show up (setO w127_36 39 (fup (fup (w127_36 39) 5 x161_42) 7 (min x171_45 1099511627776))) 39 6 (((w127_36 39) 6) - 1) = (setO w127_36 39 (fup (fup (fup (w127_36 39) 5 x161_42) 6 (((w127_36 39) 6) - 1)) 7 (min x171_45 1099511627776))) from up_can (sOf_eq _ _ _) (fup_comm _ _ _ (by decide)) (setO_same _ _ _ _)) (by omega)
                  have hF_47 : FR [39, 41, 42] h (setO w127_36 39 (fup (fup (fup (w127_36 39) 5 x161_42) 6 (((w127_36 39) 6) - 1)) 7 (min x171_45 1099511627776))) := FR_up (show up (setO w127_36 39 (fup (fup (w127_36 39) 5 x161_42) 7 (min x171_45 1099511627776))) 39 6 (((w127_36 39) 6) - 1) = (setO w127_36 39 (fup (fup (fup (w127_36 39) 5 x161_42) 6 (((w127_36 39) 6) - 1)) 7 (min x171_45 1099511627776))) from up_can (sOf_eq _ _ _) (fup_comm _ _ _ (by decide)) (setO_same _ _ _ _)) hF_46 (by decide)
                  refine TT_iinc hK (v := k + 1) (lv' := [(6, vI (k + 1)), (0, vR 39), (1, vI x), (5, vI b9)]) 3 rfl rfl (by decide) rfl dX6_tellBit_190 ?_
                  refine TT_goto hK (tgt := 127) dX6_tellBit_193 (by decide) ?_
                  refine TT_sub [1, 2, 3, 0] rfl ?_
                  exact ih36 (k + 1) b9 (setO w127_36 39 (fup (fup (fup (w127_36 39) 5 x161_42) 6 (((w127_36 39) 6) - 1)) 7 (min x171_45 1099511627776))) hT_47 hF_47 (by first | omega | (simp [up, setR] <;> omega)) (by first | omega | (simp [up, setR] <;> omega)) (by first | omega | (simp [up, setR] <;> omega))
                · refine TT_aload_n hK rfl 0 rfl dX6_tellBit_150 ?_
                  refine iv_X6_53 hK (s_X6_comeIn_39 w127_36 hT127_36 ) (by decide) rfl ⟨by decide, by decide⟩ (by decide) rfl rfl (Nat.le_of_ble_eq_true rfl) ⟨by decide, by decide⟩ dX6_tellBit_151 ?_
                  intro r9 g151_48 hp9
                  obtain ⟨⟨hT_48, hG_48⟩, hr9, p1_48⟩ := hp9
                  rw [hr9]
                  have hF_48 : FR [39, 41, 42] h g151_48 := FR_tr hF127_36 hG_48 (by decide)
                  show TT K ly 0 0 154 [(0, vR 39), (1, vI x), (5, vI b9), (6, vI k)] [] g151_48
                  refine TT_aload_n hK rfl 0 rfl dX6_tellBit_154 ?_
                  refine TT_dup hK rfl dX6_tellBit_155 ?_
                  refine gf_X6_60 hK (by decide) rfl (v := (g151_48 39) 5) rfl dX6_tellBit_156 ?_
                  have r49 := ty_39_5 (v := (g151_48 39) 5) hT_48 rfl
                  refine TT_iconst hK dX6_tellBit_159 ?_
                  refine TT_ishl hK (by omega) (by omega) dX6_tellBit_160 ?_
                  refine TT_cgI (b := ((g151_48 39) 5) * 2) rfl ?_
                  refine TT_w32 (fun x161_50 hx50 => ?_)
                  refine pf_X6_60 hK (by decide) rfl dX6_tellBit_161 ?_
                  refine TT_hp (h' := setO g151_48 39 (fup (g151_48 39) 5 x161_50)) (up_can rfl rfl rfl) ?_
                  have hT_51 : TY (setO g151_48 39 (fup (g151_48 39) 5 x161_50)) := tu_39_5 hT_48 (show up g151_48 39 5 x161_50 = (setO g151_48 39 (fup (g151_48 39) 5 x161_50)) from up_can rfl rfl rfl) (by omega)
                  have hF_51 : FR [39, 41, 42] h (setO g151_48 39 (fup (g151_48 39) 5 x161_50)) := FR_up (show up g151_48 39 5 x161_50 = (setO g151_48 39 (fup (g151_48 39) 5 x161_50)) from up_can rfl rfl rfl) hF_48 (by decide)
                  refine TT_aload_n hK rfl 0 rfl dX6_tellBit_164 ?_
                  refine TT_aload_n hK rfl 0 rfl dX6_tellBit_165 ?_
                  refine gf_X6_49 hK (by decide) rfl (v := (g151_48 39) 7) (rd_ (sOf_eq _ _ _) (fup_ne _ _ (by decide))) dX6_tellBit_166 ?_
                  have r52 := ty_39_7 (v := (g151_48 39) 7) hT_51 (rd_ (sOf_eq _ _ _) (fup_ne _ _ (by decide)))
                  refine TT_iconst hK dX6_tellBit_169 ?_
                  refine TT_lshl hK (by decide) dX6_tellBit_170 ?_
                  refine TT_cgJ (b := ((g151_48 39) 7) * 2) rfl ?_
                  refine TT_w64f (fun x171_53 hx53 => ?_)
                  refine TT_ldc2 hK lc_X6_75 dX6_tellBit_171 ?_
                  refine TT_mminl hK (lrm (by omega) (by omega)) (by decide) iw_X6_77 (by decide) (Nat.le_of_ble_eq_true rfl) ⟨by decide, by decide⟩ dX6_tellBit_174 ?_
                  refine pf_X6_49 hK (by decide) rfl dX6_tellBit_177 ?_
                  refine TT_hp (h' := setO g151_48 39 (fup (fup (g151_48 39) 5 x161_50) 7 (min x171_53 1099511627776))) (up_can (sOf_eq _ _ _) rfl (setO_same _ _ _ _)) ?_
                  have hT_54 : TY (setO g151_48 39 (fup (fup (g151_48 39) 5 x161_50) 7 (min x171_53 1099511627776))) := tu_39_7 hT_51 (show up (setO g151_48 39 (fup (g151_48 39) 5 x161_50)) 39 7 (min x171_53 1099511627776) = (setO g151_48 39 (fup (fup (g151_48 39) 5 x161_50) 7 (min x171_53 1099511627776))) from up_can (sOf_eq _ _ _) rfl (setO_same _ _ _ _)) (by omega)
                  have hF_54 : FR [39, 41, 42] h (setO g151_48 39 (fup (fup (g151_48 39) 5 x161_50) 7 (min x171_53 1099511627776))) := FR_up (show up (setO g151_48 39 (fup (g151_48 39) 5 x161_50)) 39 7 (min x171_53 1099511627776) = (setO g151_48 39 (fup (fup (g151_48 39) 5 x161_50) 7 (min x171_53 1099511627776))) from up_can (sOf_eq _ _ _) rfl (setO_same _ _ _ _)) hF_51 (by decide)
                  refine TT_aload_n hK rfl 0 rfl dX6_tellBit_180 ?_
                  refine TT_dup hK rfl dX6_tellBit_181 ?_
                  refine gf_X6_56 hK (by decide) rfl (v := (g151_48 39) 6) (rd_ (sOf_eq _ _ _) ((fup_ne _ _ (by decide)).trans (fup_ne _ _ (by decide)))) dX6_tellBit_182 ?_
                  have r55 := ty_39_6 (v := (g151_48 39) 6) hT_54 (rd_ (sOf_eq _ _ _) ((fup_ne _ _ (by decide)).trans (fup_ne _ _ (by decide))))
                  refine TT_iconst hK dX6_tellBit_185 ?_
                  refine TT_isub hK dX6_tellBit_186 ?_
                  refine pf_X6_56 hK (by decide) rfl dX6_tellBit_187 ?_
                  refine TT_hp (h' := setO g151_48 39 (fup (fup (fup (g151_48 39) 5 x161_50) 6 (((g151_48 39) 6) - 1)) 7 (min x171_53 1099511627776))) (up_can (sOf_eq _ _ _) (fup_comm _ _ _ (by decide)) (setO_same _ _ _ _)) ?_
                  have hT_56 : TY (setO g151_48 39 (fup (fup (fup (g151_48 39) 5 x161_50) 6 (((g151_48 39) 6) - 1)) 7 (min x171_53 1099511627776))) := tu_39_6 hT_54 (show up (setO g151_48 39 (fup (fup (g151_48 39) 5 x161_50) 7 (min x171_53 1099511627776))) 39 6 (((g151_48 39) 6) - 1) = (setO g151_48 39 (fup (fup (fup (g151_48 39) 5 x161_50) 6 (((g151_48 39) 6) - 1)) 7 (min x171_53 1099511627776))) from up_can (sOf_eq _ _ _) (fup_comm _ _ _ (by decide)) (setO_same _ _ _ _)) (by omega)
                  have hF_56 : FR [39, 41, 42] h (setO g151_48 39 (fup (fup (fup (g151_48 39) 5 x161_50) 6 (((g151_48 39) 6) - 1)) 7 (min x171_53 1099511627776))) := FR_up (show up (setO g151_48 39 (fup (fup (g151_48 39) 5 x161_50) 7 (min x171_53 1099511627776))) 39 6 (((g151_48 39) 6) - 1) = (setO g151_48 39 (fup (fup (fup (g151_48 39) 5 x161_50) 6 (((g151_48 39) 6) - 1)) 7 (min x171_53 1099511627776))) from up_can (sOf_eq _ _ _) (fup_comm _ _ _ (by decide)) (setO_same _ _ _ _)) hF_54 (by decide)
                  refine TT_iinc hK (v := k + 1) (lv' := [(6, vI (k + 1)), (0, vR 39), (1, vI x), (5, vI b9)]) 3 rfl rfl (by decide) rfl dX6_tellBit_190 ?_
                  refine TT_goto hK (tgt := 127) dX6_tellBit_193 (by decide) ?_
                  refine TT_sub [1, 2, 3, 0] rfl ?_
                  exact ih36 (k + 1) b9 (setO g151_48 39 (fup (fup (fup (g151_48 39) 5 x161_50) 6 (((g151_48 39) 6) - 1)) 7 (min x171_53 1099511627776))) hT_56 hF_56 (by first | omega | (simp [up, setR] <;> omega)) (by first | omega | (simp [up, setR] <;> omega)) (by first | omega | (simp [up, setR] <;> omega))
        refine TT_sub [4, 5, 1, 0] rfl ?_
        exact L127_36 ((((15 : Int) - 0).toNat) + 1) 0 (1 - z14_2) g121_35 hT_35 hF_35 (by first | omega | (simp [up, setR] <;> omega)) (by first | omega | (simp [up, setR] <;> omega)) (Nat.lt_succ_self _)
    · refine TT_iload hK 0 rfl dX6_tellBit_92 ?_
      refine TT_iret hK hQ ?_ dX6_tellBit_94
      exact ⟨⟨hT_9, hF_9⟩, z14_2, rfl, (by omega)⟩
  · have hb39_7 := lcmp_lt hb39_7
    refine TT_aload_n hK rfl 2 rfl dX6_tellBit_42 ?_
    refine gf_X6_60 hK (by decide) rfl (v := x26_4) (rd_ (sOf_eq _ _ _) (fup_eq _ _ _)) dX6_tellBit_43 ?_
    have r57 := ty_39_5 (v := x26_4) hT_5 (rd_ (sOf_eq _ _ _) (fup_eq _ _ _))
    refine TT_iload_n hK rfl 1 rfl dX6_tellBit_46 ?_
    refine TT_icmp_ge hK (tgt := 55) (irm (by omega) (by omega)) (irm (by omega) (by omega)) dX6_tellBit_47 (by decide) (fun hb47_58 => ?_) (fun hb47_58 => ?_)
    · refine TT_iconst hK dX6_tellBit_55 ?_
      refine TT_iload hK 0 rfl dX6_tellBit_56 ?_
      refine TT_isub hK dX6_tellBit_58 ?_
      refine TT_istore hK (lv' := [(5, vI (1 - z14_2)), (4, vI z14_2), (3, vI z5_1), (0, vR 39), (1, vI x), (2, vI b)]) (by decide) rfl dX6_tellBit_59 ?_
      refine TT_aload_n hK rfl 3 rfl dX6_tellBit_61 ?_
      refine TT_iload_n hK rfl 2 rfl dX6_tellBit_62 ?_
      refine pf_X6_60 hK (by decide) rfl dX6_tellBit_63 ?_
      refine TT_hp (h' := setO g14_2 39 (fup (h 39) 5 z5_1)) (up_can (sOf_eq _ _ _) (fup_same _ _ _ _) (setO_same _ _ _ _)) ?_
      have hT_59 : TY (setO g14_2 39 (fup (h 39) 5 z5_1)) := tu_39_5 hT_5 (show up (setO g14_2 39 (fup (h 39) 5 x26_4)) 39 5 z5_1 = (setO g14_2 39 (fup (h 39) 5 z5_1)) from up_can (sOf_eq _ _ _) (fup_same _ _ _ _) (setO_same _ _ _ _)) (by omega)
      have hF_59 : FR [39, 41, 42] h (setO g14_2 39 (fup (h 39) 5 z5_1)) := FR_up (show up (setO g14_2 39 (fup (h 39) 5 x26_4)) 39 5 z5_1 = (setO g14_2 39 (fup (h 39) 5 z5_1)) from up_can (sOf_eq _ _ _) (fup_same _ _ _ _) (setO_same _ _ _ _)) hF_5 (by decide)
      refine TT_goto hK (tgt := 114) dX6_tellBit_66 (by decide) ?_
      refine TT_aload_n hK rfl 3 rfl dX6_tellBit_114 ?_
      refine gf_X6_12 hK (by decide) rfl (q := 40) rfl rfl dX6_tellBit_115 ?_
      refine TT_iload_n hK rfl 4 rfl dX6_tellBit_118 ?_
      refine TT_iload hK 0 rfl dX6_tellBit_119 ?_
      refine iv_X6_71 hK (s_X2_learn_40 x (1 - z14_2) (setO g14_2 39 (fup (h 39) 5 z5_1)) hT_59 (by first | omega | (simp [up, setR] <;> omega)) (by first | omega | (simp [up, setR] <;> omega))) (by decide) rfl ⟨by decide, by decide⟩ (by decide) rfl rfl (Nat.le_of_ble_eq_true rfl) ⟨by decide, by decide⟩ dX6_tellBit_121 ?_
      intro r9 g121_60 hp9
      obtain ⟨⟨hT_60, hG_60⟩, hr9⟩ := hp9
      rw [hr9]
      have hF_60 : FR [39, 41, 42] h g121_60 := FR_tr hF_59 hG_60 (by decide)
      show TT K ly 0 0 124 [(5, vI (1 - z14_2)), (4, vI z14_2), (3, vI z5_1), (0, vR 39), (1, vI x), (2, vI b)] [] g121_60
      refine TT_iconst hK dX6_tellBit_124 ?_
      refine TT_istore hK (lv' := [(6, vI 0), (5, vI (1 - z14_2)), (4, vI z14_2), (3, vI z5_1), (0, vR 39), (1, vI x), (2, vI b)]) (by decide) rfl dX6_tellBit_125 ?_
      have L127_61 : ∀ (k61 : Nat) (k : Int) (b9 : Int) (w127_61 : Hp_), TY w127_61 → FR [39, 41, 42] h w127_61 → (0 ≤ k ∧ k ≤ 15) → (0 ≤ b9 ∧ b9 ≤ 1) → ((15 : Int) - k).toNat < k61 → TT K ly 0 0 127 [(0, vR 39), (1, vI x), (5, vI b9), (6, vI k)] [] w127_61 := by
        intro k61
        induction k61 with
        | zero => intro k b9 w127_61 hT127_61 hF127_61 hk hb9 hk61; exact absurd hk61 (Nat.not_lt_zero _)
        | succ k61 ih61 =>
          intro k b9 w127_61 hT127_61 hF127_61 hk hb9 hk61
          refine TT_iload hK 3 rfl dX6_tellBit_127 ?_
          refine TT_bipush hK (by decide) dX6_tellBit_129 ?_
          refine TT_icmp_ge hK (tgt := 196) (irm (by omega) (by omega)) (by decide) dX6_tellBit_131 (by decide) (fun hb131_62 => ?_) (fun hb131_62 => ?_)
          · refine TT_iload hK 2 rfl dX6_tellBit_196 ?_
            refine TT_iret hK hQ ?_ dX6_tellBit_198
            exact ⟨⟨hT127_61, hF127_61⟩, b9, rfl, (by omega)⟩
          · refine TT_aload_n hK rfl 0 rfl dX6_tellBit_134 ?_
            refine gf_X6_60 hK (by decide) rfl (v := (w127_61 39) 5) rfl dX6_tellBit_135 ?_
            have r63 := ty_39_5 (v := (w127_61 39) 5) hT127_61 rfl
            refine TT_ldc hK lc_X6_59 dX6_tellBit_138 ?_
            refine TT_icmp_ge hK (tgt := 196) (irm (by omega) (by omega)) (by decide) dX6_tellBit_140 (by decide) (fun hb140_64 => ?_) (fun hb140_64 => ?_)
            · refine TT_iload hK 2 rfl dX6_tellBit_196 ?_
              refine TT_iret hK hQ ?_ dX6_tellBit_198
              exact ⟨⟨hT127_61, hF127_61⟩, b9, rfl, (by omega)⟩
            · refine TT_aload_n hK rfl 0 rfl dX6_tellBit_143 ?_
              refine gf_X6_56 hK (by decide) rfl (v := (w127_61 39) 6) rfl dX6_tellBit_144 ?_
              have r65 := ty_39_6 (v := (w127_61 39) 6) hT127_61 rfl
              refine TT_if_ne hK (tgt := 154) (irm (by omega) (by omega)) dX6_tellBit_147 (by decide) (fun hb147_66 => ?_) (fun hb147_66 => ?_)
              · refine TT_aload_n hK rfl 0 rfl dX6_tellBit_154 ?_
                refine TT_dup hK rfl dX6_tellBit_155 ?_
                refine gf_X6_60 hK (by decide) rfl (v := (w127_61 39) 5) rfl dX6_tellBit_156 ?_
                refine TT_iconst hK dX6_tellBit_159 ?_
                refine TT_ishl hK (by omega) (by omega) dX6_tellBit_160 ?_
                refine TT_cgI (b := ((w127_61 39) 5) * 2) rfl ?_
                refine TT_w32 (fun x161_67 hx67 => ?_)
                refine pf_X6_60 hK (by decide) rfl dX6_tellBit_161 ?_
                refine TT_hp (h' := setO w127_61 39 (fup (w127_61 39) 5 x161_67)) (up_can rfl rfl rfl) ?_
                have hT_68 : TY (setO w127_61 39 (fup (w127_61 39) 5 x161_67)) := tu_39_5 hT127_61 (show up w127_61 39 5 x161_67 = (setO w127_61 39 (fup (w127_61 39) 5 x161_67)) from up_can rfl rfl rfl) (by omega)
                have hF_68 : FR [39, 41, 42] h (setO w127_61 39 (fup (w127_61 39) 5 x161_67)) := FR_up (show up w127_61 39 5 x161_67 = (setO w127_61 39 (fup (w127_61 39) 5 x161_67)) from up_can rfl rfl rfl) hF127_61 (by decide)
                refine TT_aload_n hK rfl 0 rfl dX6_tellBit_164 ?_
                refine TT_aload_n hK rfl 0 rfl dX6_tellBit_165 ?_
                refine gf_X6_49 hK (by decide) rfl (v := (w127_61 39) 7) (rd_ (sOf_eq _ _ _) (fup_ne _ _ (by decide))) dX6_tellBit_166 ?_
                have r69 := ty_39_7 (v := (w127_61 39) 7) hT_68 (rd_ (sOf_eq _ _ _) (fup_ne _ _ (by decide)))
                refine TT_iconst hK dX6_tellBit_169 ?_
                refine TT_lshl hK (by decide) dX6_tellBit_170 ?_
                refine TT_cgJ (b := ((w127_61 39) 7) * 2) rfl ?_
                refine TT_w64f (fun x171_70 hx70 => ?_)
                refine TT_ldc2 hK lc_X6_75 dX6_tellBit_171 ?_
                refine TT_mminl hK (lrm (by omega) (by omega)) (by decide) iw_X6_77 (by decide) (Nat.le_of_ble_eq_true rfl) ⟨by decide, by decide⟩ dX6_tellBit_174 ?_
                refine pf_X6_49 hK (by decide) rfl dX6_tellBit_177 ?_
                refine TT_hp (h' := setO w127_61 39 (fup (fup (w127_61 39) 5 x161_67) 7 (min x171_70 1099511627776))) (up_can (sOf_eq _ _ _) rfl (setO_same _ _ _ _)) ?_
                have hT_71 : TY (setO w127_61 39 (fup (fup (w127_61 39) 5 x161_67) 7 (min x171_70 1099511627776))) := tu_39_7 hT_68 (show up (setO w127_61 39 (fup (w127_61 39) 5 x161_67)) 39 7 (min x171_70 1099511627776) = (setO w127_61 39 (fup (fup (w127_61 39) 5 x161_67) 7 (min x171_70 1099511627776))) from up_can (sOf_eq _ _ _) rfl (setO_same _ _ _ _)) (by omega)
                have hF_71 : FR [39, 41, 42] h (setO w127_61 39 (fup (fup (w127_61 39) 5 x161_67) 7 (min x171_70 1099511627776))) := FR_up (show up (setO w127_61 39 (fup (w127_61 39) 5 x161_67)) 39 7 (min x171_70 1099511627776) = (setO w127_61 39 (fup (fup (w127_61 39) 5 x161_67) 7 (min x171_70 1099511627776))) from up_can (sOf_eq _ _ _) rfl (setO_same _ _ _ _)) hF_68 (by decide)
                refine TT_aload_n hK rfl 0 rfl dX6_tellBit_180 ?_
                refine TT_dup hK rfl dX6_tellBit_181 ?_
                refine gf_X6_56 hK (by decide) rfl (v := (w127_61 39) 6) (rd_ (sOf_eq _ _ _) ((fup_ne _ _ (by decide)).trans (fup_ne _ _ (by decide)))) dX6_tellBit_182 ?_
                refine TT_iconst hK dX6_tellBit_185 ?_
                refine TT_isub hK dX6_tellBit_186 ?_
                refine pf_X6_56 hK (by decide) rfl dX6_tellBit_187 ?_
                refine TT_hp (h' := setO w127_61 39 (fup (fup (fup (w127_61 39) 5 x161_67) 6 (((w127_61 39) 6) - 1)) 7 (min x171_70 1099511627776))) (up_can (sOf_eq _ _ _) (fup_comm _ _ _ (by decide)) (setO_same _ _ _ _)) ?_
                have hT_72 : TY (setO w127_61 39 (fup (fup (fup (w127_61 39) 5 x161_67) 6 (((w127_61 39) 6) - 1)) 7 (min x171_70 1099511627776))) := tu_39_6 hT_71 (show up (setO w127_61 39 (fup (fup (w127_61 39) 5 x161_67) 7 (min x171_70 1099511627776))) 39 6 (((w127_61 39) 6) - 1) = (setO w127_61 39 (fup (fup (fup (w127_61 39) 5 x161_67) 6 (((w127_61 39) 6) - 1)) 7 (min x171_70 1099511627776))) from up_can (sOf_eq _ _ _) (fup_comm _ _ _ (by decide)) (setO_same _ _ _ _)) (by omega)
                have hF_72 : FR [39, 41, 42] h (setO w127_61 39 (fup (fup (fup (w127_61 39) 5 x161_67) 6 (((w127_61 39) 6) - 1)) 7 (min x171_70 1099511627776))) := FR_up (show up (setO w127_61 39 (fup (fup (w127_61 39) 5 x161_67) 7 (min x171_70 1099511627776))) 39 6 (((w127_61 39) 6) - 1) = (setO w127_61 39 (fup (fup (fup (w127_61 39) 5 x161_67) 6 (((w127_61 39) 6) - 1)) 7 (min x171_70 1099511627776))) from up_can (sOf_eq _ _ _) (fup_comm _ _ _ (by decide)) (setO_same _ _ _ _)) hF_71 (by decide)
                refine TT_iinc hK (v := k + 1) (lv' := [(6, vI (k + 1)), (0, vR 39), (1, vI x), (5, vI b9)]) 3 rfl rfl (by decide) rfl dX6_tellBit_190 ?_
                refine TT_goto hK (tgt := 127) dX6_tellBit_193 (by decide) ?_
                refine TT_sub [1, 2, 3, 0] rfl ?_
                exact ih61 (k + 1) b9 (setO w127_61 39 (fup (fup (fup (w127_61 39) 5 x161_67) 6 (((w127_61 39) 6) - 1)) 7 (min x171_70 1099511627776))) hT_72 hF_72 (by first | omega | (simp [up, setR] <;> omega)) (by first | omega | (simp [up, setR] <;> omega)) (by first | omega | (simp [up, setR] <;> omega))
              · refine TT_aload_n hK rfl 0 rfl dX6_tellBit_150 ?_
                refine iv_X6_53 hK (s_X6_comeIn_39 w127_61 hT127_61 ) (by decide) rfl ⟨by decide, by decide⟩ (by decide) rfl rfl (Nat.le_of_ble_eq_true rfl) ⟨by decide, by decide⟩ dX6_tellBit_151 ?_
                intro r9 g151_73 hp9
                obtain ⟨⟨hT_73, hG_73⟩, hr9, p1_73⟩ := hp9
                rw [hr9]
                have hF_73 : FR [39, 41, 42] h g151_73 := FR_tr hF127_61 hG_73 (by decide)
                show TT K ly 0 0 154 [(0, vR 39), (1, vI x), (5, vI b9), (6, vI k)] [] g151_73
                refine TT_aload_n hK rfl 0 rfl dX6_tellBit_154 ?_
                refine TT_dup hK rfl dX6_tellBit_155 ?_
                refine gf_X6_60 hK (by decide) rfl (v := (g151_73 39) 5) rfl dX6_tellBit_156 ?_
                have r74 := ty_39_5 (v := (g151_73 39) 5) hT_73 rfl
                refine TT_iconst hK dX6_tellBit_159 ?_
                refine TT_ishl hK (by omega) (by omega) dX6_tellBit_160 ?_
                refine TT_cgI (b := ((g151_73 39) 5) * 2) rfl ?_
                refine TT_w32 (fun x161_75 hx75 => ?_)
                refine pf_X6_60 hK (by decide) rfl dX6_tellBit_161 ?_
                refine TT_hp (h' := setO g151_73 39 (fup (g151_73 39) 5 x161_75)) (up_can rfl rfl rfl) ?_
                have hT_76 : TY (setO g151_73 39 (fup (g151_73 39) 5 x161_75)) := tu_39_5 hT_73 (show up g151_73 39 5 x161_75 = (setO g151_73 39 (fup (g151_73 39) 5 x161_75)) from up_can rfl rfl rfl) (by omega)
                have hF_76 : FR [39, 41, 42] h (setO g151_73 39 (fup (g151_73 39) 5 x161_75)) := FR_up (show up g151_73 39 5 x161_75 = (setO g151_73 39 (fup (g151_73 39) 5 x161_75)) from up_can rfl rfl rfl) hF_73 (by decide)
                refine TT_aload_n hK rfl 0 rfl dX6_tellBit_164 ?_
                refine TT_aload_n hK rfl 0 rfl dX6_tellBit_165 ?_
                refine gf_X6_49 hK (by decide) rfl (v := (g151_73 39) 7) (rd_ (sOf_eq _ _ _) (fup_ne _ _ (by decide))) dX6_tellBit_166 ?_
                have r77 := ty_39_7 (v := (g151_73 39) 7) hT_76 (rd_ (sOf_eq _ _ _) (fup_ne _ _ (by decide)))
                refine TT_iconst hK dX6_tellBit_169 ?_
                refine TT_lshl hK (by decide) dX6_tellBit_170 ?_
                refine TT_cgJ (b := ((g151_73 39) 7) * 2) rfl ?_
                refine TT_w64f (fun x171_78 hx78 => ?_)
                refine TT_ldc2 hK lc_X6_75 dX6_tellBit_171 ?_
                refine TT_mminl hK (lrm (by omega) (by omega)) (by decide) iw_X6_77 (by decide) (Nat.le_of_ble_eq_true rfl) ⟨by decide, by decide⟩ dX6_tellBit_174 ?_
                refine pf_X6_49 hK (by decide) rfl dX6_tellBit_177 ?_
                refine TT_hp (h' := setO g151_73 39 (fup (fup (g151_73 39) 5 x161_75) 7 (min x171_78 1099511627776))) (up_can (sOf_eq _ _ _) rfl (setO_same _ _ _ _)) ?_
                have hT_79 : TY (setO g151_73 39 (fup (fup (g151_73 39) 5 x161_75) 7 (min x171_78 1099511627776))) := tu_39_7 hT_76 (show up (setO g151_73 39 (fup (g151_73 39) 5 x161_75)) 39 7 (min x171_78 1099511627776) = (setO g151_73 39 (fup (fup (g151_73 39) 5 x161_75) 7 (min x171_78 1099511627776))) from up_can (sOf_eq _ _ _) rfl (setO_same _ _ _ _)) (by omega)
                have hF_79 : FR [39, 41, 42] h (setO g151_73 39 (fup (fup (g151_73 39) 5 x161_75) 7 (min x171_78 1099511627776))) := FR_up (show up (setO g151_73 39 (fup (g151_73 39) 5 x161_75)) 39 7 (min x171_78 1099511627776) = (setO g151_73 39 (fup (fup (g151_73 39) 5 x161_75) 7 (min x171_78 1099511627776))) from up_can (sOf_eq _ _ _) rfl (setO_same _ _ _ _)) hF_76 (by decide)
                refine TT_aload_n hK rfl 0 rfl dX6_tellBit_180 ?_
                refine TT_dup hK rfl dX6_tellBit_181 ?_
                refine gf_X6_56 hK (by decide) rfl (v := (g151_73 39) 6) (rd_ (sOf_eq _ _ _) ((fup_ne _ _ (by decide)).trans (fup_ne _ _ (by decide)))) dX6_tellBit_182 ?_
                have r80 := ty_39_6 (v := (g151_73 39) 6) hT_79 (rd_ (sOf_eq _ _ _) ((fup_ne _ _ (by decide)).trans (fup_ne _ _ (by decide))))
                refine TT_iconst hK dX6_tellBit_185 ?_
                refine TT_isub hK dX6_tellBit_186 ?_
                refine pf_X6_56 hK (by decide) rfl dX6_tellBit_187 ?_
                refine TT_hp (h' := setO g151_73 39 (fup (fup (fup (g151_73 39) 5 x161_75) 6 (((g151_73 39) 6) - 1)) 7 (min x171_78 1099511627776))) (up_can (sOf_eq _ _ _) (fup_comm _ _ _ (by decide)) (setO_same _ _ _ _)) ?_
                have hT_81 : TY (setO g151_73 39 (fup (fup (fup (g151_73 39) 5 x161_75) 6 (((g151_73 39) 6) - 1)) 7 (min x171_78 1099511627776))) := tu_39_6 hT_79 (show up (setO g151_73 39 (fup (fup (g151_73 39) 5 x161_75) 7 (min x171_78 1099511627776))) 39 6 (((g151_73 39) 6) - 1) = (setO g151_73 39 (fup (fup (fup (g151_73 39) 5 x161_75) 6 (((g151_73 39) 6) - 1)) 7 (min x171_78 1099511627776))) from up_can (sOf_eq _ _ _) (fup_comm _ _ _ (by decide)) (setO_same _ _ _ _)) (by omega)
                have hF_81 : FR [39, 41, 42] h (setO g151_73 39 (fup (fup (fup (g151_73 39) 5 x161_75) 6 (((g151_73 39) 6) - 1)) 7 (min x171_78 1099511627776))) := FR_up (show up (setO g151_73 39 (fup (fup (g151_73 39) 5 x161_75) 7 (min x171_78 1099511627776))) 39 6 (((g151_73 39) 6) - 1) = (setO g151_73 39 (fup (fup (fup (g151_73 39) 5 x161_75) 6 (((g151_73 39) 6) - 1)) 7 (min x171_78 1099511627776))) from up_can (sOf_eq _ _ _) (fup_comm _ _ _ (by decide)) (setO_same _ _ _ _)) hF_79 (by decide)
                refine TT_iinc hK (v := k + 1) (lv' := [(6, vI (k + 1)), (0, vR 39), (1, vI x), (5, vI b9)]) 3 rfl rfl (by decide) rfl dX6_tellBit_190 ?_
                refine TT_goto hK (tgt := 127) dX6_tellBit_193 (by decide) ?_
                refine TT_sub [1, 2, 3, 0] rfl ?_
                exact ih61 (k + 1) b9 (setO g151_73 39 (fup (fup (fup (g151_73 39) 5 x161_75) 6 (((g151_73 39) 6) - 1)) 7 (min x171_78 1099511627776))) hT_81 hF_81 (by first | omega | (simp [up, setR] <;> omega)) (by first | omega | (simp [up, setR] <;> omega)) (by first | omega | (simp [up, setR] <;> omega))
      refine TT_sub [4, 5, 1, 0] rfl ?_
      exact L127_61 ((((15 : Int) - 0).toNat) + 1) 0 (1 - z14_2) g121_60 hT_60 hF_60 (by first | omega | (simp [up, setR] <;> omega)) (by first | omega | (simp [up, setR] <;> omega)) (Nat.lt_succ_self _)
    · refine TT_iload hK 0 rfl dX6_tellBit_50 ?_
      refine TT_goto hK (tgt := 59) dX6_tellBit_52 (by decide) ?_
      refine TT_istore hK (lv' := [(5, vI z14_2), (4, vI z14_2), (3, vI z5_1), (0, vR 39), (1, vI x), (2, vI b)]) (by decide) rfl dX6_tellBit_59 ?_
      refine TT_aload_n hK rfl 3 rfl dX6_tellBit_61 ?_
      refine TT_iload_n hK rfl 2 rfl dX6_tellBit_62 ?_
      refine pf_X6_60 hK (by decide) rfl dX6_tellBit_63 ?_
      refine TT_hp (h' := setO g14_2 39 (fup (h 39) 5 z5_1)) (up_can (sOf_eq _ _ _) (fup_same _ _ _ _) (setO_same _ _ _ _)) ?_
      have hT_82 : TY (setO g14_2 39 (fup (h 39) 5 z5_1)) := tu_39_5 hT_5 (show up (setO g14_2 39 (fup (h 39) 5 x26_4)) 39 5 z5_1 = (setO g14_2 39 (fup (h 39) 5 z5_1)) from up_can (sOf_eq _ _ _) (fup_same _ _ _ _) (setO_same _ _ _ _)) (by omega)
      have hF_82 : FR [39, 41, 42] h (setO g14_2 39 (fup (h 39) 5 z5_1)) := FR_up (show up (setO g14_2 39 (fup (h 39) 5 x26_4)) 39 5 z5_1 = (setO g14_2 39 (fup (h 39) 5 z5_1)) from up_can (sOf_eq _ _ _) (fup_same _ _ _ _) (setO_same _ _ _ _)) hF_5 (by decide)
      refine TT_goto hK (tgt := 114) dX6_tellBit_66 (by decide) ?_
      refine TT_aload_n hK rfl 3 rfl dX6_tellBit_114 ?_
      refine gf_X6_12 hK (by decide) rfl (q := 40) rfl rfl dX6_tellBit_115 ?_
      refine TT_iload_n hK rfl 4 rfl dX6_tellBit_118 ?_
      refine TT_iload hK 0 rfl dX6_tellBit_119 ?_
      refine iv_X6_71 hK (s_X2_learn_40 x z14_2 (setO g14_2 39 (fup (h 39) 5 z5_1)) hT_82 (by first | omega | (simp [up, setR] <;> omega)) (by first | omega | (simp [up, setR] <;> omega))) (by decide) rfl ⟨by decide, by decide⟩ (by decide) rfl rfl (Nat.le_of_ble_eq_true rfl) ⟨by decide, by decide⟩ dX6_tellBit_121 ?_
      intro r9 g121_83 hp9
      obtain ⟨⟨hT_83, hG_83⟩, hr9⟩ := hp9
      rw [hr9]
      have hF_83 : FR [39, 41, 42] h g121_83 := FR_tr hF_82 hG_83 (by decide)
      show TT K ly 0 0 124 [(5, vI z14_2), (4, vI z14_2), (3, vI z5_1), (0, vR 39), (1, vI x), (2, vI b)] [] g121_83
      refine TT_iconst hK dX6_tellBit_124 ?_
      refine TT_istore hK (lv' := [(6, vI 0), (5, vI z14_2), (4, vI z14_2), (3, vI z5_1), (0, vR 39), (1, vI x), (2, vI b)]) (by decide) rfl dX6_tellBit_125 ?_
      have L127_84 : ∀ (k84 : Nat) (k : Int) (b9 : Int) (w127_84 : Hp_), TY w127_84 → FR [39, 41, 42] h w127_84 → (0 ≤ k ∧ k ≤ 15) → (0 ≤ b9 ∧ b9 ≤ 1) → ((15 : Int) - k).toNat < k84 → TT K ly 0 0 127 [(0, vR 39), (1, vI x), (5, vI b9), (6, vI k)] [] w127_84 := by
        intro k84
        induction k84 with
        | zero => intro k b9 w127_84 hT127_84 hF127_84 hk hb9 hk84; exact absurd hk84 (Nat.not_lt_zero _)
        | succ k84 ih84 =>
          intro k b9 w127_84 hT127_84 hF127_84 hk hb9 hk84
          refine TT_iload hK 3 rfl dX6_tellBit_127 ?_
          refine TT_bipush hK (by decide) dX6_tellBit_129 ?_
          refine TT_icmp_ge hK (tgt := 196) (irm (by omega) (by omega)) (by decide) dX6_tellBit_131 (by decide) (fun hb131_85 => ?_) (fun hb131_85 => ?_)
          · refine TT_iload hK 2 rfl dX6_tellBit_196 ?_
            refine TT_iret hK hQ ?_ dX6_tellBit_198
            exact ⟨⟨hT127_84, hF127_84⟩, b9, rfl, (by omega)⟩
          · refine TT_aload_n hK rfl 0 rfl dX6_tellBit_134 ?_
            refine gf_X6_60 hK (by decide) rfl (v := (w127_84 39) 5) rfl dX6_tellBit_135 ?_
            have r86 := ty_39_5 (v := (w127_84 39) 5) hT127_84 rfl
            refine TT_ldc hK lc_X6_59 dX6_tellBit_138 ?_
            refine TT_icmp_ge hK (tgt := 196) (irm (by omega) (by omega)) (by decide) dX6_tellBit_140 (by decide) (fun hb140_87 => ?_) (fun hb140_87 => ?_)
            · refine TT_iload hK 2 rfl dX6_tellBit_196 ?_
              refine TT_iret hK hQ ?_ dX6_tellBit_198
              exact ⟨⟨hT127_84, hF127_84⟩, b9, rfl, (by omega)⟩
            · refine TT_aload_n hK rfl 0 rfl dX6_tellBit_143 ?_
              refine gf_X6_56 hK (by decide) rfl (v := (w127_84 39) 6) rfl dX6_tellBit_144 ?_
              have r88 := ty_39_6 (v := (w127_84 39) 6) hT127_84 rfl
              refine TT_if_ne hK (tgt := 154) (irm (by omega) (by omega)) dX6_tellBit_147 (by decide) (fun hb147_89 => ?_) (fun hb147_89 => ?_)
              · refine TT_aload_n hK rfl 0 rfl dX6_tellBit_154 ?_
                refine TT_dup hK rfl dX6_tellBit_155 ?_
                refine gf_X6_60 hK (by decide) rfl (v := (w127_84 39) 5) rfl dX6_tellBit_156 ?_
                refine TT_iconst hK dX6_tellBit_159 ?_
                refine TT_ishl hK (by omega) (by omega) dX6_tellBit_160 ?_
                refine TT_cgI (b := ((w127_84 39) 5) * 2) rfl ?_
                refine TT_w32 (fun x161_90 hx90 => ?_)
                refine pf_X6_60 hK (by decide) rfl dX6_tellBit_161 ?_
                refine TT_hp (h' := setO w127_84 39 (fup (w127_84 39) 5 x161_90)) (up_can rfl rfl rfl) ?_
                have hT_91 : TY (setO w127_84 39 (fup (w127_84 39) 5 x161_90)) := tu_39_5 hT127_84 (show up w127_84 39 5 x161_90 = (setO w127_84 39 (fup (w127_84 39) 5 x161_90)) from up_can rfl rfl rfl) (by omega)
                have hF_91 : FR [39, 41, 42] h (setO w127_84 39 (fup (w127_84 39) 5 x161_90)) := FR_up (show up w127_84 39 5 x161_90 = (setO w127_84 39 (fup (w127_84 39) 5 x161_90)) from up_can rfl rfl rfl) hF127_84 (by decide)
                refine TT_aload_n hK rfl 0 rfl dX6_tellBit_164 ?_
                refine TT_aload_n hK rfl 0 rfl dX6_tellBit_165 ?_
                refine gf_X6_49 hK (by decide) rfl (v := (w127_84 39) 7) (rd_ (sOf_eq _ _ _) (fup_ne _ _ (by decide))) dX6_tellBit_166 ?_
                have r92 := ty_39_7 (v := (w127_84 39) 7) hT_91 (rd_ (sOf_eq _ _ _) (fup_ne _ _ (by decide)))
                refine TT_iconst hK dX6_tellBit_169 ?_
                refine TT_lshl hK (by decide) dX6_tellBit_170 ?_
                refine TT_cgJ (b := ((w127_84 39) 7) * 2) rfl ?_
                refine TT_w64f (fun x171_93 hx93 => ?_)
                refine TT_ldc2 hK lc_X6_75 dX6_tellBit_171 ?_
                refine TT_mminl hK (lrm (by omega) (by omega)) (by decide) iw_X6_77 (by decide) (Nat.le_of_ble_eq_true rfl) ⟨by decide, by decide⟩ dX6_tellBit_174 ?_
                refine pf_X6_49 hK (by decide) rfl dX6_tellBit_177 ?_
                refine TT_hp (h' := setO w127_84 39 (fup (fup (w127_84 39) 5 x161_90) 7 (min x171_93 1099511627776))) (up_can (sOf_eq _ _ _) rfl (setO_same _ _ _ _)) ?_
                have hT_94 : TY (setO w127_84 39 (fup (fup (w127_84 39) 5 x161_90) 7 (min x171_93 1099511627776))) := tu_39_7 hT_91 (show up (setO w127_84 39 (fup (w127_84 39) 5 x161_90)) 39 7 (min x171_93 1099511627776) = (setO w127_84 39 (fup (fup (w127_84 39) 5 x161_90) 7 (min x171_93 1099511627776))) from up_can (sOf_eq _ _ _) rfl (setO_same _ _ _ _)) (by omega)
                have hF_94 : FR [39, 41, 42] h (setO w127_84 39 (fup (fup (w127_84 39) 5 x161_90) 7 (min x171_93 1099511627776))) := FR_up (show up (setO w127_84 39 (fup (w127_84 39) 5 x161_90)) 39 7 (min x171_93 1099511627776) = (setO w127_84 39 (fup (fup (w127_84 39) 5 x161_90) 7 (min x171_93 1099511627776))) from up_can (sOf_eq _ _ _) rfl (setO_same _ _ _ _)) hF_91 (by decide)
                refine TT_aload_n hK rfl 0 rfl dX6_tellBit_180 ?_
                refine TT_dup hK rfl dX6_tellBit_181 ?_
                refine gf_X6_56 hK (by decide) rfl (v := (w127_84 39) 6) (rd_ (sOf_eq _ _ _) ((fup_ne _ _ (by decide)).trans (fup_ne _ _ (by decide)))) dX6_tellBit_182 ?_
                refine TT_iconst hK dX6_tellBit_185 ?_
                refine TT_isub hK dX6_tellBit_186 ?_
                refine pf_X6_56 hK (by decide) rfl dX6_tellBit_187 ?_
                refine TT_hp (h' := setO w127_84 39 (fup (fup (fup (w127_84 39) 5 x161_90) 6 (((w127_84 39) 6) - 1)) 7 (min x171_93 1099511627776))) (up_can (sOf_eq _ _ _) (fup_comm _ _ _ (by decide)) (setO_same _ _ _ _)) ?_
                have hT_95 : TY (setO w127_84 39 (fup (fup (fup (w127_84 39) 5 x161_90) 6 (((w127_84 39) 6) - 1)) 7 (min x171_93 1099511627776))) := tu_39_6 hT_94 (show up (setO w127_84 39 (fup (fup (w127_84 39) 5 x161_90) 7 (min x171_93 1099511627776))) 39 6 (((w127_84 39) 6) - 1) = (setO w127_84 39 (fup (fup (fup (w127_84 39) 5 x161_90) 6 (((w127_84 39) 6) - 1)) 7 (min x171_93 1099511627776))) from up_can (sOf_eq _ _ _) (fup_comm _ _ _ (by decide)) (setO_same _ _ _ _)) (by omega)
                have hF_95 : FR [39, 41, 42] h (setO w127_84 39 (fup (fup (fup (w127_84 39) 5 x161_90) 6 (((w127_84 39) 6) - 1)) 7 (min x171_93 1099511627776))) := FR_up (show up (setO w127_84 39 (fup (fup (w127_84 39) 5 x161_90) 7 (min x171_93 1099511627776))) 39 6 (((w127_84 39) 6) - 1) = (setO w127_84 39 (fup (fup (fup (w127_84 39) 5 x161_90) 6 (((w127_84 39) 6) - 1)) 7 (min x171_93 1099511627776))) from up_can (sOf_eq _ _ _) (fup_comm _ _ _ (by decide)) (setO_same _ _ _ _)) hF_94 (by decide)
                refine TT_iinc hK (v := k + 1) (lv' := [(6, vI (k + 1)), (0, vR 39), (1, vI x), (5, vI b9)]) 3 rfl rfl (by decide) rfl dX6_tellBit_190 ?_
                refine TT_goto hK (tgt := 127) dX6_tellBit_193 (by decide) ?_
                refine TT_sub [1, 2, 3, 0] rfl ?_
                exact ih84 (k + 1) b9 (setO w127_84 39 (fup (fup (fup (w127_84 39) 5 x161_90) 6 (((w127_84 39) 6) - 1)) 7 (min x171_93 1099511627776))) hT_95 hF_95 (by first | omega | (simp [up, setR] <;> omega)) (by first | omega | (simp [up, setR] <;> omega)) (by first | omega | (simp [up, setR] <;> omega))
              · refine TT_aload_n hK rfl 0 rfl dX6_tellBit_150 ?_
                refine iv_X6_53 hK (s_X6_comeIn_39 w127_84 hT127_84 ) (by decide) rfl ⟨by decide, by decide⟩ (by decide) rfl rfl (Nat.le_of_ble_eq_true rfl) ⟨by decide, by decide⟩ dX6_tellBit_151 ?_
                intro r9 g151_96 hp9
                obtain ⟨⟨hT_96, hG_96⟩, hr9, p1_96⟩ := hp9
                rw [hr9]
                have hF_96 : FR [39, 41, 42] h g151_96 := FR_tr hF127_84 hG_96 (by decide)
                show TT K ly 0 0 154 [(0, vR 39), (1, vI x), (5, vI b9), (6, vI k)] [] g151_96
                refine TT_aload_n hK rfl 0 rfl dX6_tellBit_154 ?_
                refine TT_dup hK rfl dX6_tellBit_155 ?_
                refine gf_X6_60 hK (by decide) rfl (v := (g151_96 39) 5) rfl dX6_tellBit_156 ?_
                have r97 := ty_39_5 (v := (g151_96 39) 5) hT_96 rfl
                refine TT_iconst hK dX6_tellBit_159 ?_
                refine TT_ishl hK (by omega) (by omega) dX6_tellBit_160 ?_
                refine TT_cgI (b := ((g151_96 39) 5) * 2) rfl ?_
                refine TT_w32 (fun x161_98 hx98 => ?_)
                refine pf_X6_60 hK (by decide) rfl dX6_tellBit_161 ?_
                refine TT_hp (h' := setO g151_96 39 (fup (g151_96 39) 5 x161_98)) (up_can rfl rfl rfl) ?_
                have hT_99 : TY (setO g151_96 39 (fup (g151_96 39) 5 x161_98)) := tu_39_5 hT_96 (show up g151_96 39 5 x161_98 = (setO g151_96 39 (fup (g151_96 39) 5 x161_98)) from up_can rfl rfl rfl) (by omega)
                have hF_99 : FR [39, 41, 42] h (setO g151_96 39 (fup (g151_96 39) 5 x161_98)) := FR_up (show up g151_96 39 5 x161_98 = (setO g151_96 39 (fup (g151_96 39) 5 x161_98)) from up_can rfl rfl rfl) hF_96 (by decide)
                refine TT_aload_n hK rfl 0 rfl dX6_tellBit_164 ?_
                refine TT_aload_n hK rfl 0 rfl dX6_tellBit_165 ?_
                refine gf_X6_49 hK (by decide) rfl (v := (g151_96 39) 7) (rd_ (sOf_eq _ _ _) (fup_ne _ _ (by decide))) dX6_tellBit_166 ?_
                have r100 := ty_39_7 (v := (g151_96 39) 7) hT_99 (rd_ (sOf_eq _ _ _) (fup_ne _ _ (by decide)))
                refine TT_iconst hK dX6_tellBit_169 ?_
                refine TT_lshl hK (by decide) dX6_tellBit_170 ?_
                refine TT_cgJ (b := ((g151_96 39) 7) * 2) rfl ?_
                refine TT_w64f (fun x171_101 hx101 => ?_)
                refine TT_ldc2 hK lc_X6_75 dX6_tellBit_171 ?_
                refine TT_mminl hK (lrm (by omega) (by omega)) (by decide) iw_X6_77 (by decide) (Nat.le_of_ble_eq_true rfl) ⟨by decide, by decide⟩ dX6_tellBit_174 ?_
                refine pf_X6_49 hK (by decide) rfl dX6_tellBit_177 ?_
                refine TT_hp (h' := setO g151_96 39 (fup (fup (g151_96 39) 5 x161_98) 7 (min x171_101 1099511627776))) (up_can (sOf_eq _ _ _) rfl (setO_same _ _ _ _)) ?_
                have hT_102 : TY (setO g151_96 39 (fup (fup (g151_96 39) 5 x161_98) 7 (min x171_101 1099511627776))) := tu_39_7 hT_99 (show up (setO g151_96 39 (fup (g151_96 39) 5 x161_98)) 39 7 (min x171_101 1099511627776) = (setO g151_96 39 (fup (fup (g151_96 39) 5 x161_98) 7 (min x171_101 1099511627776))) from up_can (sOf_eq _ _ _) rfl (setO_same _ _ _ _)) (by omega)
                have hF_102 : FR [39, 41, 42] h (setO g151_96 39 (fup (fup (g151_96 39) 5 x161_98) 7 (min x171_101 1099511627776))) := FR_up (show up (setO g151_96 39 (fup (g151_96 39) 5 x161_98)) 39 7 (min x171_101 1099511627776) = (setO g151_96 39 (fup (fup (g151_96 39) 5 x161_98) 7 (min x171_101 1099511627776))) from up_can (sOf_eq _ _ _) rfl (setO_same _ _ _ _)) hF_99 (by decide)
                refine TT_aload_n hK rfl 0 rfl dX6_tellBit_180 ?_
                refine TT_dup hK rfl dX6_tellBit_181 ?_
                refine gf_X6_56 hK (by decide) rfl (v := (g151_96 39) 6) (rd_ (sOf_eq _ _ _) ((fup_ne _ _ (by decide)).trans (fup_ne _ _ (by decide)))) dX6_tellBit_182 ?_
                have r103 := ty_39_6 (v := (g151_96 39) 6) hT_102 (rd_ (sOf_eq _ _ _) ((fup_ne _ _ (by decide)).trans (fup_ne _ _ (by decide))))
                refine TT_iconst hK dX6_tellBit_185 ?_
                refine TT_isub hK dX6_tellBit_186 ?_
                refine pf_X6_56 hK (by decide) rfl dX6_tellBit_187 ?_
                refine TT_hp (h' := setO g151_96 39 (fup (fup (fup (g151_96 39) 5 x161_98) 6 (((g151_96 39) 6) - 1)) 7 (min x171_101 1099511627776))) (up_can (sOf_eq _ _ _) (fup_comm _ _ _ (by decide)) (setO_same _ _ _ _)) ?_
                have hT_104 : TY (setO g151_96 39 (fup (fup (fup (g151_96 39) 5 x161_98) 6 (((g151_96 39) 6) - 1)) 7 (min x171_101 1099511627776))) := tu_39_6 hT_102 (show up (setO g151_96 39 (fup (fup (g151_96 39) 5 x161_98) 7 (min x171_101 1099511627776))) 39 6 (((g151_96 39) 6) - 1) = (setO g151_96 39 (fup (fup (fup (g151_96 39) 5 x161_98) 6 (((g151_96 39) 6) - 1)) 7 (min x171_101 1099511627776))) from up_can (sOf_eq _ _ _) (fup_comm _ _ _ (by decide)) (setO_same _ _ _ _)) (by omega)
                have hF_104 : FR [39, 41, 42] h (setO g151_96 39 (fup (fup (fup (g151_96 39) 5 x161_98) 6 (((g151_96 39) 6) - 1)) 7 (min x171_101 1099511627776))) := FR_up (show up (setO g151_96 39 (fup (fup (g151_96 39) 5 x161_98) 7 (min x171_101 1099511627776))) 39 6 (((g151_96 39) 6) - 1) = (setO g151_96 39 (fup (fup (fup (g151_96 39) 5 x161_98) 6 (((g151_96 39) 6) - 1)) 7 (min x171_101 1099511627776))) from up_can (sOf_eq _ _ _) (fup_comm _ _ _ (by decide)) (setO_same _ _ _ _)) hF_102 (by decide)
                refine TT_iinc hK (v := k + 1) (lv' := [(6, vI (k + 1)), (0, vR 39), (1, vI x), (5, vI b9)]) 3 rfl rfl (by decide) rfl dX6_tellBit_190 ?_
                refine TT_goto hK (tgt := 127) dX6_tellBit_193 (by decide) ?_
                refine TT_sub [1, 2, 3, 0] rfl ?_
                exact ih84 (k + 1) b9 (setO g151_96 39 (fup (fup (fup (g151_96 39) 5 x161_98) 6 (((g151_96 39) 6) - 1)) 7 (min x171_101 1099511627776))) hT_104 hF_104 (by first | omega | (simp [up, setR] <;> omega)) (by first | omega | (simp [up, setR] <;> omega)) (by first | omega | (simp [up, setR] <;> omega))
      refine TT_sub [4, 5, 1, 0] rfl ?_
      exact L127_84 ((((15 : Int) - 0).toNat) + 1) 0 z14_2 g121_83 hT_83 hF_83 (by first | omega | (simp [up, setR] <;> omega)) (by first | omega | (simp [up, setR] <;> omega)) (Nat.lt_succ_self _)
set_option maxRecDepth 20000 in
theorem s_X6_clear_62 (h : Hp_) (hT : TY h)  : Ctr yX6_clear cX6_clear 1 none (rmd 0) ly ly 0 0 [vR 62] h (fun r h' => (TY h' ∧ FR [62] h h') ∧ r = none) := by
  refine Ctr_of (by decide) (Nat.le_of_ble_eq_true rfl) ⟨Nat.le_refl _, Nat.le_refl _⟩ (fun K hK hQ _ => ?_)
  show TT K ly 0 0 0 [(0, vR 62)] [] h
  have hF : FR [62] h h := FR_rf _ _
  refine TT_aload_n hK rfl 0 rfl dX6_clear_0 ?_
  refine TT_iconst hK dX6_clear_1 ?_
  refine pf_X6_22 hK (by decide) rfl dX6_clear_2 ?_
  refine TT_hp (h' := setO h 62 (fup (h 62) 2 0)) (up_can rfl rfl rfl) ?_
  have hT_1 : TY (setO h 62 (fup (h 62) 2 0)) := tu_62_2 hT (show up h 62 2 0 = (setO h 62 (fup (h 62) 2 0)) from up_can rfl rfl rfl) (by omega)
  have hF_1 : FR [62] h (setO h 62 (fup (h 62) 2 0)) := FR_up (show up h 62 2 0 = (setO h 62 (fup (h 62) 2 0)) from up_can rfl rfl rfl) hF (by decide)
  refine TT_vret hK hQ ?_ dX6_clear_5
  exact ⟨⟨hT_1, hF_1⟩, rfl⟩
set_option maxRecDepth 20000 in
theorem s_X6_given_62 (h : Hp_) (hT : TY h)  : Ctr yX6_given cX6_given 1 (some .int) (rmd 0) ly ly 0 0 [vR 62] h (fun r h' => (TY h' ∧ FR [] h h') ∧ ∃ z : Int, r = some (vI z) ∧ (0 ≤ z ∧ z ≤ 1024)) := by
  refine Ctr_of (by decide) (Nat.le_of_ble_eq_true rfl) ⟨Nat.le_refl _, Nat.le_refl _⟩ (fun K hK hQ _ => ?_)
  show TT K ly 0 0 0 [(0, vR 62)] [] h
  have hF : FR [] h h := FR_rf _ _
  refine TT_aload_n hK rfl 0 rfl dX6_given_0 ?_
  refine gf_X6_22 hK (by decide) rfl (v := (h 62) 2) rfl dX6_given_1 ?_
  have r1 := ty_62_2 (v := (h 62) 2) hT rfl
  refine TT_iret hK hQ ?_ dX6_given_4
  exact ⟨⟨hT, hF⟩, ((h 62) 2), rfl, (by omega)⟩
set_option maxRecDepth 20000 in
theorem s_X6_addFrom_62 (s n : Int) (h : Hp_) (hT : TY h) (hs : -2147483648 ≤ s ∧ s ≤ 2147483647) (hn : -2147483648 ≤ n ∧ n ≤ 2147483647) : Ctr yX6_addFrom cX6_addFrom 5 none (rmd 1) ly ly 0 0 [vR 62, vR 5, vI s, vI n] h (fun r h' => (TY h' ∧ FR [62, 66] h h') ∧ r = none) := by
  refine Ctr_of (by decide) (Nat.le_of_ble_eq_true rfl) ⟨Nat.le_refl _, Nat.le_refl _⟩ (fun K hK hQ _ => ?_)
  show TT K ly 0 0 0 [(0, vR 62), (1, vR 5), (2, vI s), (3, vI n)] [] h
  have hF : FR [62, 66] h h := FR_rf _ _
  refine TT_iconst hK dX6_addFrom_0 ?_
  refine TT_istore hK (lv' := [(4, vI 0), (0, vR 62), (1, vR 5), (2, vI s), (3, vI n)]) (by decide) rfl dX6_addFrom_1 ?_
  have L3_1 : ∀ (k1 : Nat) (i : Int) (w3_1 : Hp_), TY w3_1 → FR [62, 66] h w3_1 → (0 ≤ i ∧ (i ≤ n ∨ i = 0)) → (n - i).toNat < k1 → TT K ly 0 0 3 [(0, vR 62), (1, vR 5), (2, vI s), (3, vI n), (4, vI i)] [] w3_1 := by
    intro k1
    induction k1 with
    | zero => intro i w3_1 hT3_1 hF3_1 hi hk1; exact absurd hk1 (Nat.not_lt_zero _)
    | succ k1 ih1 =>
      intro i w3_1 hT3_1 hF3_1 hi hk1
      refine TT_iload hK 4 rfl dX6_addFrom_3 ?_
      refine TT_iload_n hK rfl 3 rfl dX6_addFrom_5 ?_
      refine TT_icmp_ge hK (tgt := 52) (irm (by omega) (by omega)) (irm (by omega) (by omega)) dX6_addFrom_6 (by decide) (fun hb6_2 => ?_) (fun hb6_2 => ?_)
      · refine TT_vret hK hQ ?_ dX6_addFrom_52
        exact ⟨⟨hT3_1, hF3_1⟩, rfl⟩
      · refine TT_aload_n hK rfl 0 rfl dX6_addFrom_9 ?_
        refine gf_X6_22 hK (by decide) rfl (v := (w3_1 62) 2) rfl dX6_addFrom_10 ?_
        have r3 := ty_62_2 (v := (w3_1 62) 2) hT3_1 rfl
        refine TT_sipush hK (by decide) dX6_addFrom_13 ?_
        refine TT_icmp_ge hK (tgt := 52) (irm (by omega) (by omega)) (by decide) dX6_addFrom_16 (by decide) (fun hb16_4 => ?_) (fun hb16_4 => ?_)
        · refine TT_vret hK hQ ?_ dX6_addFrom_52
          exact ⟨⟨hT3_1, hF3_1⟩, rfl⟩
        · refine TT_aload_n hK rfl 0 rfl dX6_addFrom_19 ?_
          refine gf_X6_18 hK (by decide) rfl (q := 66) rfl rfl dX6_addFrom_20 ?_
          refine TT_aload_n hK rfl 0 rfl dX6_addFrom_23 ?_
          refine gf_X6_22 hK (by decide) rfl (v := (w3_1 62) 2) rfl dX6_addFrom_24 ?_
          refine TT_aload_n hK rfl 1 rfl dX6_addFrom_27 ?_
          refine TT_iload_n hK rfl 2 rfl dX6_addFrom_28 ?_
          refine TT_iload hK 4 rfl dX6_addFrom_29 ?_
          refine TT_iadd hK dX6_addFrom_31 ?_
          refine TT_w32 (fun x32_5 hx5 => ?_)
          refine iv_X6_26 hK (s_X1_at_5 x32_5 w3_1 hT3_1 (by first | omega | (simp [up, setR] <;> omega))) (by decide) rfl ⟨by decide, by decide⟩ (by decide) rfl rfl (Nat.le_of_ble_eq_true rfl) ⟨by decide, by decide⟩ dX6_addFrom_32 ?_
          intro r9 g32_6 hp9
          obtain ⟨⟨hT_6, hG_6⟩, z32_6, hr9, hz_6, p1_6⟩ := hp9
          rw [hr9]
          have hF_6 : FR [62, 66] h g32_6 := FR_tr hF3_1 hG_6 (by decide)
          rw [show w3_1 5 1 = (h 5) 1 from rd_ (hF3_1 5 (by decide)) rfl] at p1_6
          rw [show w3_1 6 = h 6 from (hF3_1 6 (by decide))] at p1_6
          show TT K ly 0 0 35 [(0, vR 62), (1, vR 5), (2, vI s), (3, vI n), (4, vI i)] [vI z32_6, vI ((w3_1 62) 2), vR 66] g32_6
          refine TT_iast hK (o := 66) (n := 1024) (by decide) rfl (by omega) (by omega) dX6_addFrom_35 ?_
          refine TT_hp (h' := setO g32_6 66 (fup (w3_1 66) ((w3_1 62) 2) z32_6)) (up_can (hG_6 66 (by decide)) rfl rfl) ?_
          have hT_7 : TY (setO g32_6 66 (fup (w3_1 66) ((w3_1 62) 2) z32_6)) := tu_66 hT_6 (show up g32_6 66 ((w3_1 62) 2) z32_6 = (setO g32_6 66 (fup (w3_1 66) ((w3_1 62) 2) z32_6)) from up_can (hG_6 66 (by decide)) rfl rfl) (by omega)
          have hF_7 : FR [62, 66] h (setO g32_6 66 (fup (w3_1 66) ((w3_1 62) 2) z32_6)) := FR_up (show up g32_6 66 ((w3_1 62) 2) z32_6 = (setO g32_6 66 (fup (w3_1 66) ((w3_1 62) 2) z32_6)) from up_can (hG_6 66 (by decide)) rfl rfl) hF_6 (by decide)
          refine TT_aload_n hK rfl 0 rfl dX6_addFrom_36 ?_
          refine TT_dup hK rfl dX6_addFrom_37 ?_
          refine gf_X6_22 hK (by decide) rfl (v := (w3_1 62) 2) (rd_ ((sOf_ne _ _ (by decide)).trans (hG_6 62 (by decide))) rfl) dX6_addFrom_38 ?_
          refine TT_iconst hK dX6_addFrom_41 ?_
          refine TT_iadd hK dX6_addFrom_42 ?_
          refine pf_X6_22 hK (by decide) rfl dX6_addFrom_43 ?_
          refine TT_hp (h' := setO (setO g32_6 62 (fup (w3_1 62) 2 (((w3_1 62) 2) + 1))) 66 (fup (w3_1 66) ((w3_1 62) 2) z32_6)) (up_can ((sOf_ne _ _ (by decide)).trans (hG_6 62 (by decide))) rfl ((setO_comm _ _ _ (by decide)).trans (setO_cg rfl rfl))) ?_
          have hT_8 : TY (setO (setO g32_6 62 (fup (w3_1 62) 2 (((w3_1 62) 2) + 1))) 66 (fup (w3_1 66) ((w3_1 62) 2) z32_6)) := tu_62_2 hT_7 (show up (setO g32_6 66 (fup (w3_1 66) ((w3_1 62) 2) z32_6)) 62 2 (((w3_1 62) 2) + 1) = (setO (setO g32_6 62 (fup (w3_1 62) 2 (((w3_1 62) 2) + 1))) 66 (fup (w3_1 66) ((w3_1 62) 2) z32_6)) from up_can ((sOf_ne _ _ (by decide)).trans (hG_6 62 (by decide))) rfl ((setO_comm _ _ _ (by decide)).trans (setO_cg rfl rfl))) (by omega)
          have hF_8 : FR [62, 66] h (setO (setO g32_6 62 (fup (w3_1 62) 2 (((w3_1 62) 2) + 1))) 66 (fup (w3_1 66) ((w3_1 62) 2) z32_6)) := FR_up (show up (setO g32_6 66 (fup (w3_1 66) ((w3_1 62) 2) z32_6)) 62 2 (((w3_1 62) 2) + 1) = (setO (setO g32_6 62 (fup (w3_1 62) 2 (((w3_1 62) 2) + 1))) 66 (fup (w3_1 66) ((w3_1 62) 2) z32_6)) from up_can ((sOf_ne _ _ (by decide)).trans (hG_6 62 (by decide))) rfl ((setO_comm _ _ _ (by decide)).trans (setO_cg rfl rfl))) hF_7 (by decide)
          refine TT_iinc hK (v := i + 1) (lv' := [(4, vI (i + 1)), (0, vR 62), (1, vR 5), (2, vI s), (3, vI n)]) 4 rfl rfl (by decide) rfl dX6_addFrom_46 ?_
          refine TT_goto hK (tgt := 3) dX6_addFrom_49 (by decide) ?_
          refine TT_sub [1, 2, 3, 4, 0] rfl ?_
          exact ih1 (i + 1) (setO (setO g32_6 62 (fup (w3_1 62) 2 (((w3_1 62) 2) + 1))) 66 (fup (w3_1 66) ((w3_1 62) 2) z32_6)) hT_8 hF_8 (by first | omega | (simp [up, setR] <;> omega)) (by first | omega | (simp [up, setR] <;> omega))
  refine TT_sub [1, 2, 3, 4, 0] rfl ?_
  exact L3_1 (((n - 0).toNat) + 1) 0 h hT hF (by first | omega | (simp [up, setR] <;> omega)) (Nat.lt_succ_self _)
set_option maxRecDepth 20000 in
theorem s_X6_comeIn_62 (h : Hp_) (hT : TY h)  : Ctr yX6_comeIn cX6_comeIn 3 none (rmd 0) ly ly 0 0 [vR 62] h (fun r h' => (TY h' ∧ FR [62] h h') ∧ r = none ∧ (7 ≤ (h' 62 6))) := by
  refine Ctr_of (by decide) (Nat.le_of_ble_eq_true rfl) ⟨Nat.le_refl _, Nat.le_refl _⟩ (fun K hK hQ _ => ?_)
  show TT K ly 0 0 0 [(0, vR 62)] [] h
  have hF : FR [62] h h := FR_rf _ _
  have J27_1 : ∀ (a : Int) (w27_1 : Hp_), TY w27_1 → FR [62] h w27_1 → (0 ≤ a ∧ a ≤ 255) → (a = 255 ∨ (w27_1 62 4) < 1024) → TT K ly 0 0 27 [(0, vR 62), (1, vI a)] [] w27_1 := by
    intro a w27_1 hT27_1 hF27_1 ha ha2
    have J58_2 : ∀ (b : Int) (w58_2 : Hp_), TY w58_2 → FR [62] h w58_2 → (0 ≤ b ∧ b ≤ 255) → ((a ≠ 255 ∨ b ≤ 143) → (w58_2 62 4) < 1024) → TT K ly 0 0 58 [(0, vR 62), (1, vI a), (2, vI b)] [] w58_2 := by
      intro b w58_2 hT58_2 hF58_2 hb hb2
      refine TT_iload_n hK rfl 1 rfl dX6_comeIn_58 ?_
      refine TT_sipush hK (by decide) dX6_comeIn_59 ?_
      refine TT_icmp_ne hK (tgt := 91) (irm (by omega) (by omega)) (by decide) dX6_comeIn_62 (by decide) (fun hb62_3 => ?_) (fun hb62_3 => ?_)
      · refine TT_aload_n hK rfl 0 rfl dX6_comeIn_91 ?_
        refine TT_dup hK rfl dX6_comeIn_92 ?_
        refine gf_X6_44 hK (by decide) rfl (v := (w58_2 62) 4) rfl dX6_comeIn_93 ?_
        have r4 := ty_62_4 (v := (w58_2 62) 4) hT58_2 rfl
        refine TT_iconst hK dX6_comeIn_96 ?_
        refine TT_iadd hK dX6_comeIn_97 ?_
        refine pf_X6_44 hK (by decide) rfl dX6_comeIn_98 ?_
        refine TT_hp (h' := setO w58_2 62 (fup (w58_2 62) 4 (((w58_2 62) 4) + 1))) (up_can rfl rfl rfl) ?_
        have hT_5 : TY (setO w58_2 62 (fup (w58_2 62) 4 (((w58_2 62) 4) + 1))) := tu_62_4 hT58_2 (show up w58_2 62 4 (((w58_2 62) 4) + 1) = (setO w58_2 62 (fup (w58_2 62) 4 (((w58_2 62) 4) + 1))) from up_can rfl rfl rfl) (by omega)
        have hF_5 : FR [62] h (setO w58_2 62 (fup (w58_2 62) 4 (((w58_2 62) 4) + 1))) := FR_up (show up w58_2 62 4 (((w58_2 62) 4) + 1) = (setO w58_2 62 (fup (w58_2 62) 4 (((w58_2 62) 4) + 1))) from up_can rfl rfl rfl) hF58_2 (by decide)
        refine TT_aload_n hK rfl 0 rfl dX6_comeIn_101 ?_
        refine TT_dup hK rfl dX6_comeIn_102 ?_
        refine gf_X6_49 hK (by decide) rfl (v := (w58_2 62) 7) (rd_ (sOf_eq _ _ _) (fup_ne _ _ (by decide))) dX6_comeIn_103 ?_
        have r6 := ty_62_7 (v := (w58_2 62) 7) hT_5 (rd_ (sOf_eq _ _ _) (fup_ne _ _ (by decide)))
        refine TT_iload_n hK rfl 2 rfl dX6_comeIn_106 ?_
        refine TT_iload_n hK rfl 1 rfl dX6_comeIn_107 ?_
        refine TT_sipush hK (by decide) dX6_comeIn_108 ?_
        refine TT_icmp_ne hK (tgt := 120) (irm (by omega) (by omega)) (by decide) dX6_comeIn_111 (by decide) (fun hb111_7 => ?_) (fun hb111_7 => ?_)
        · refine TT_sipush hK (by decide) dX6_comeIn_120 ?_
          refine TT_imul hK dX6_comeIn_123 ?_
          refine TT_i2l hK (irm (by omega) (by omega)) dX6_comeIn_124 ?_
          refine TT_ladd hK dX6_comeIn_125 ?_
          refine TT_w64f (fun x126_8 hx8 => ?_)
          refine pf_X6_49 hK (by decide) rfl dX6_comeIn_126 ?_
          refine TT_hp (h' := setO w58_2 62 (fup (fup (w58_2 62) 4 (((w58_2 62) 4) + 1)) 7 x126_8)) (up_can (sOf_eq _ _ _) rfl (setO_same _ _ _ _)) ?_
          have hT_9 : TY (setO w58_2 62 (fup (fup (w58_2 62) 4 (((w58_2 62) 4) + 1)) 7 x126_8)) := tu_62_7 hT_5 (show up (setO w58_2 62 (fup (w58_2 62) 4 (((w58_2 62) 4) + 1))) 62 7 x126_8 = (setO w58_2 62 (fup (fup (w58_2 62) 4 (((w58_2 62) 4) + 1)) 7 x126_8)) from up_can (sOf_eq _ _ _) rfl (setO_same _ _ _ _)) (by omega)
          have hF_9 : FR [62] h (setO w58_2 62 (fup (fup (w58_2 62) 4 (((w58_2 62) 4) + 1)) 7 x126_8)) := FR_up (show up (setO w58_2 62 (fup (w58_2 62) 4 (((w58_2 62) 4) + 1))) 62 7 x126_8 = (setO w58_2 62 (fup (fup (w58_2 62) 4 (((w58_2 62) 4) + 1)) 7 x126_8)) from up_can (sOf_eq _ _ _) rfl (setO_same _ _ _ _)) hF_5 (by decide)
          refine TT_aload_n hK rfl 0 rfl dX6_comeIn_129 ?_
          refine TT_iload_n hK rfl 1 rfl dX6_comeIn_130 ?_
          refine TT_sipush hK (by decide) dX6_comeIn_131 ?_
          refine TT_icmp_ne hK (tgt := 142) (irm (by omega) (by omega)) (by decide) dX6_comeIn_134 (by decide) (fun hb134_10 => ?_) (fun hb134_10 => ?_)
          · refine TT_bipush hK (by decide) dX6_comeIn_142 ?_
            refine pf_X6_56 hK (by decide) rfl dX6_comeIn_144 ?_
            refine TT_hp (h' := setO w58_2 62 (fup (fup (fup (w58_2 62) 4 (((w58_2 62) 4) + 1)) 6 8) 7 x126_8)) (up_can (sOf_eq _ _ _) (fup_comm _ _ _ (by decide)) (setO_same _ _ _ _)) ?_
            have hT_11 : TY (setO w58_2 62 (fup (fup (fup (w58_2 62) 4 (((w58_2 62) 4) + 1)) 6 8) 7 x126_8)) := tu_62_6 hT_9 (show up (setO w58_2 62 (fup (fup (w58_2 62) 4 (((w58_2 62) 4) + 1)) 7 x126_8)) 62 6 8 = (setO w58_2 62 (fup (fup (fup (w58_2 62) 4 (((w58_2 62) 4) + 1)) 6 8) 7 x126_8)) from up_can (sOf_eq _ _ _) (fup_comm _ _ _ (by decide)) (setO_same _ _ _ _)) (by omega)
            have hF_11 : FR [62] h (setO w58_2 62 (fup (fup (fup (w58_2 62) 4 (((w58_2 62) 4) + 1)) 6 8) 7 x126_8)) := FR_up (show up (setO w58_2 62 (fup (fup (w58_2 62) 4 (((w58_2 62) 4) + 1)) 7 x126_8)) 62 6 8 = (setO w58_2 62 (fup (fup (fup (w58_2 62) 4 (((w58_2 62) 4) + 1)) 6 8) 7 x126_8)) from up_can (sOf_eq _ _ _) (fup_comm _ _ _ (by decide)) (setO_same _ _ _ _)) hF_9 (by decide)
            refine TT_vret hK hQ ?_ dX6_comeIn_147
            have e12_62_6 : (setO w58_2 62 (fup (fup (fup (w58_2 62) 4 (((w58_2 62) 4) + 1)) 6 8) 7 x126_8)) 62 6 = 8 := rd_ (sOf_eq _ _ _) ((fup_ne _ _ (by decide)).trans (fup_eq _ _ _))
            exact ⟨⟨hT_11, hF_11⟩, rfl, (by rw [e12_62_6]; omega)⟩
          · exfalso; omega
        · exfalso; omega
      · refine TT_iload_n hK rfl 2 rfl dX6_comeIn_65 ?_
        refine TT_sipush hK (by decide) dX6_comeIn_66 ?_
        refine TT_icmp_le hK (tgt := 91) (irm (by omega) (by omega)) (by decide) dX6_comeIn_69 (by decide) (fun hb69_13 => ?_) (fun hb69_13 => ?_)
        · refine TT_aload_n hK rfl 0 rfl dX6_comeIn_91 ?_
          refine TT_dup hK rfl dX6_comeIn_92 ?_
          refine gf_X6_44 hK (by decide) rfl (v := (w58_2 62) 4) rfl dX6_comeIn_93 ?_
          have r14 := ty_62_4 (v := (w58_2 62) 4) hT58_2 rfl
          refine TT_iconst hK dX6_comeIn_96 ?_
          refine TT_iadd hK dX6_comeIn_97 ?_
          refine pf_X6_44 hK (by decide) rfl dX6_comeIn_98 ?_
          refine TT_hp (h' := setO w58_2 62 (fup (w58_2 62) 4 (((w58_2 62) 4) + 1))) (up_can rfl rfl rfl) ?_
          have hT_15 : TY (setO w58_2 62 (fup (w58_2 62) 4 (((w58_2 62) 4) + 1))) := tu_62_4 hT58_2 (show up w58_2 62 4 (((w58_2 62) 4) + 1) = (setO w58_2 62 (fup (w58_2 62) 4 (((w58_2 62) 4) + 1))) from up_can rfl rfl rfl) (by omega)
          have hF_15 : FR [62] h (setO w58_2 62 (fup (w58_2 62) 4 (((w58_2 62) 4) + 1))) := FR_up (show up w58_2 62 4 (((w58_2 62) 4) + 1) = (setO w58_2 62 (fup (w58_2 62) 4 (((w58_2 62) 4) + 1))) from up_can rfl rfl rfl) hF58_2 (by decide)
          refine TT_aload_n hK rfl 0 rfl dX6_comeIn_101 ?_
          refine TT_dup hK rfl dX6_comeIn_102 ?_
          refine gf_X6_49 hK (by decide) rfl (v := (w58_2 62) 7) (rd_ (sOf_eq _ _ _) (fup_ne _ _ (by decide))) dX6_comeIn_103 ?_
          have r16 := ty_62_7 (v := (w58_2 62) 7) hT_15 (rd_ (sOf_eq _ _ _) (fup_ne _ _ (by decide)))
          refine TT_iload_n hK rfl 2 rfl dX6_comeIn_106 ?_
          refine TT_iload_n hK rfl 1 rfl dX6_comeIn_107 ?_
          refine TT_sipush hK (by decide) dX6_comeIn_108 ?_
          refine TT_icmp_ne hK (tgt := 120) (irm (by omega) (by omega)) (by decide) dX6_comeIn_111 (by decide) (fun hb111_17 => ?_) (fun hb111_17 => ?_)
          · exfalso; omega
          · refine TT_sipush hK (by decide) dX6_comeIn_114 ?_
            refine TT_goto hK (tgt := 123) dX6_comeIn_117 (by decide) ?_
            refine TT_imul hK dX6_comeIn_123 ?_
            refine TT_i2l hK (irm (by omega) (by omega)) dX6_comeIn_124 ?_
            refine TT_ladd hK dX6_comeIn_125 ?_
            refine TT_w64f (fun x126_18 hx18 => ?_)
            refine pf_X6_49 hK (by decide) rfl dX6_comeIn_126 ?_
            refine TT_hp (h' := setO w58_2 62 (fup (fup (w58_2 62) 4 (((w58_2 62) 4) + 1)) 7 x126_18)) (up_can (sOf_eq _ _ _) rfl (setO_same _ _ _ _)) ?_
            have hT_19 : TY (setO w58_2 62 (fup (fup (w58_2 62) 4 (((w58_2 62) 4) + 1)) 7 x126_18)) := tu_62_7 hT_15 (show up (setO w58_2 62 (fup (w58_2 62) 4 (((w58_2 62) 4) + 1))) 62 7 x126_18 = (setO w58_2 62 (fup (fup (w58_2 62) 4 (((w58_2 62) 4) + 1)) 7 x126_18)) from up_can (sOf_eq _ _ _) rfl (setO_same _ _ _ _)) (by omega)
            have hF_19 : FR [62] h (setO w58_2 62 (fup (fup (w58_2 62) 4 (((w58_2 62) 4) + 1)) 7 x126_18)) := FR_up (show up (setO w58_2 62 (fup (w58_2 62) 4 (((w58_2 62) 4) + 1))) 62 7 x126_18 = (setO w58_2 62 (fup (fup (w58_2 62) 4 (((w58_2 62) 4) + 1)) 7 x126_18)) from up_can (sOf_eq _ _ _) rfl (setO_same _ _ _ _)) hF_15 (by decide)
            refine TT_aload_n hK rfl 0 rfl dX6_comeIn_129 ?_
            refine TT_iload_n hK rfl 1 rfl dX6_comeIn_130 ?_
            refine TT_sipush hK (by decide) dX6_comeIn_131 ?_
            refine TT_icmp_ne hK (tgt := 142) (irm (by omega) (by omega)) (by decide) dX6_comeIn_134 (by decide) (fun hb134_20 => ?_) (fun hb134_20 => ?_)
            · exfalso; omega
            · refine TT_bipush hK (by decide) dX6_comeIn_137 ?_
              refine TT_goto hK (tgt := 144) dX6_comeIn_139 (by decide) ?_
              refine pf_X6_56 hK (by decide) rfl dX6_comeIn_144 ?_
              refine TT_hp (h' := setO w58_2 62 (fup (fup (fup (w58_2 62) 4 (((w58_2 62) 4) + 1)) 6 7) 7 x126_18)) (up_can (sOf_eq _ _ _) (fup_comm _ _ _ (by decide)) (setO_same _ _ _ _)) ?_
              have hT_21 : TY (setO w58_2 62 (fup (fup (fup (w58_2 62) 4 (((w58_2 62) 4) + 1)) 6 7) 7 x126_18)) := tu_62_6 hT_19 (show up (setO w58_2 62 (fup (fup (w58_2 62) 4 (((w58_2 62) 4) + 1)) 7 x126_18)) 62 6 7 = (setO w58_2 62 (fup (fup (fup (w58_2 62) 4 (((w58_2 62) 4) + 1)) 6 7) 7 x126_18)) from up_can (sOf_eq _ _ _) (fup_comm _ _ _ (by decide)) (setO_same _ _ _ _)) (by omega)
              have hF_21 : FR [62] h (setO w58_2 62 (fup (fup (fup (w58_2 62) 4 (((w58_2 62) 4) + 1)) 6 7) 7 x126_18)) := FR_up (show up (setO w58_2 62 (fup (fup (w58_2 62) 4 (((w58_2 62) 4) + 1)) 7 x126_18)) 62 6 7 = (setO w58_2 62 (fup (fup (fup (w58_2 62) 4 (((w58_2 62) 4) + 1)) 6 7) 7 x126_18)) from up_can (sOf_eq _ _ _) (fup_comm _ _ _ (by decide)) (setO_same _ _ _ _)) hF_19 (by decide)
              refine TT_vret hK hQ ?_ dX6_comeIn_147
              have e22_62_6 : (setO w58_2 62 (fup (fup (fup (w58_2 62) 4 (((w58_2 62) 4) + 1)) 6 7) 7 x126_18)) 62 6 = 7 := rd_ (sOf_eq _ _ _) ((fup_ne _ _ (by decide)).trans (fup_eq _ _ _))
              exact ⟨⟨hT_21, hF_21⟩, rfl, (by rw [e22_62_6]; omega)⟩
        · refine TT_aload_n hK rfl 0 rfl dX6_comeIn_72 ?_
          refine TT_dup hK rfl dX6_comeIn_73 ?_
          refine gf_X6_49 hK (by decide) rfl (v := (w58_2 62) 7) rfl dX6_comeIn_74 ?_
          have r23 := ty_62_7 (v := (w58_2 62) 7) hT58_2 rfl
          refine TT_ldc2 hK lc_X6_63 dX6_comeIn_77 ?_
          refine TT_ladd hK dX6_comeIn_80 ?_
          refine TT_w64f (fun x81_24 hx24 => ?_)
          refine pf_X6_49 hK (by decide) rfl dX6_comeIn_81 ?_
          refine TT_hp (h' := setO w58_2 62 (fup (w58_2 62) 7 x81_24)) (up_can rfl rfl rfl) ?_
          have hT_25 : TY (setO w58_2 62 (fup (w58_2 62) 7 x81_24)) := tu_62_7 hT58_2 (show up w58_2 62 7 x81_24 = (setO w58_2 62 (fup (w58_2 62) 7 x81_24)) from up_can rfl rfl rfl) (by omega)
          have hF_25 : FR [62] h (setO w58_2 62 (fup (w58_2 62) 7 x81_24)) := FR_up (show up w58_2 62 7 x81_24 = (setO w58_2 62 (fup (w58_2 62) 7 x81_24)) from up_can rfl rfl rfl) hF58_2 (by decide)
          refine TT_aload_n hK rfl 0 rfl dX6_comeIn_84 ?_
          refine TT_bipush hK (by decide) dX6_comeIn_85 ?_
          refine pf_X6_56 hK (by decide) rfl dX6_comeIn_87 ?_
          refine TT_hp (h' := setO w58_2 62 (fup (fup (w58_2 62) 6 8) 7 x81_24)) (up_can (sOf_eq _ _ _) (fup_comm _ _ _ (by decide)) (setO_same _ _ _ _)) ?_
          have hT_26 : TY (setO w58_2 62 (fup (fup (w58_2 62) 6 8) 7 x81_24)) := tu_62_6 hT_25 (show up (setO w58_2 62 (fup (w58_2 62) 7 x81_24)) 62 6 8 = (setO w58_2 62 (fup (fup (w58_2 62) 6 8) 7 x81_24)) from up_can (sOf_eq _ _ _) (fup_comm _ _ _ (by decide)) (setO_same _ _ _ _)) (by omega)
          have hF_26 : FR [62] h (setO w58_2 62 (fup (fup (w58_2 62) 6 8) 7 x81_24)) := FR_up (show up (setO w58_2 62 (fup (w58_2 62) 7 x81_24)) 62 6 8 = (setO w58_2 62 (fup (fup (w58_2 62) 6 8) 7 x81_24)) from up_can (sOf_eq _ _ _) (fup_comm _ _ _ (by decide)) (setO_same _ _ _ _)) hF_25 (by decide)
          refine TT_vret hK hQ ?_ dX6_comeIn_90
          have e27_62_6 : (setO w58_2 62 (fup (fup (w58_2 62) 6 8) 7 x81_24)) 62 6 = 8 := rd_ (sOf_eq _ _ _) ((fup_ne _ _ (by decide)).trans (fup_eq _ _ _))
          exact ⟨⟨hT_26, hF_26⟩, rfl, (by rw [e27_62_6]; omega)⟩
    refine TT_aload_n hK rfl 0 rfl dX6_comeIn_27 ?_
    refine gf_X6_44 hK (by decide) rfl (v := (w27_1 62) 4) rfl dX6_comeIn_28 ?_
    have r28 := ty_62_4 (v := (w27_1 62) 4) hT27_1 rfl
    refine TT_iconst hK dX6_comeIn_31 ?_
    refine TT_iadd hK dX6_comeIn_32 ?_
    refine TT_aload_n hK rfl 0 rfl dX6_comeIn_33 ?_
    refine gf_X6_41 hK (by decide) rfl (v := (w27_1 62) 3) rfl dX6_comeIn_34 ?_
    have r29 := ty_62_3 (v := (w27_1 62) 3) hT27_1 rfl
    refine TT_icmp_ge hK (tgt := 54) (irm (by omega) (by omega)) (irm (by omega) (by omega)) dX6_comeIn_37 (by decide) (fun hb37_30 => ?_) (fun hb37_30 => ?_)
    · refine TT_sipush hK (by decide) dX6_comeIn_54 ?_
      refine TT_istore_n hK rfl (lv' := [(2, vI 255), (0, vR 62), (1, vI a)]) (by decide) rfl dX6_comeIn_57 ?_
      refine TT_sub [1, 2, 0] rfl ?_
      have e31_62_4 : w27_1 62 4 = (w27_1 62) 4 := rfl
      exact J58_2 255 w27_1 hT27_1 hF27_1 (by first | omega | (simp [up, setR] <;> omega)) (by rw [e31_62_4]; first | omega | (simp [up, setR] <;> omega))
    · refine TT_aload_n hK rfl 0 rfl dX6_comeIn_40 ?_
      refine gf_X6_18 hK (by decide) rfl (q := 66) rfl rfl dX6_comeIn_41 ?_
      refine TT_aload_n hK rfl 0 rfl dX6_comeIn_44 ?_
      refine gf_X6_44 hK (by decide) rfl (v := (w27_1 62) 4) rfl dX6_comeIn_45 ?_
      refine TT_iconst hK dX6_comeIn_48 ?_
      refine TT_iadd hK dX6_comeIn_49 ?_
      refine TT_iald hK (o := 66) (n := 1024) (by decide) rfl (by first | omega | (simp [up, setR] <;> omega)) (by first | omega | (simp [up, setR] <;> omega)) (v := (h 66) (((w27_1 62) 4) + 1)) (rd_ (hF27_1 66 (by decide)) rfl) dX6_comeIn_50 ?_
      have r32 := ty_66 (i := ((w27_1 62) 4) + 1) (v := (h 66) (((w27_1 62) 4) + 1)) hT27_1 (rd_ (hF27_1 66 (by decide)) rfl) (by omega) (by omega)
      refine TT_goto hK (tgt := 57) dX6_comeIn_51 (by decide) ?_
      refine TT_istore_n hK rfl (lv' := [(2, vI ((h 66) (((w27_1 62) 4) + 1))), (0, vR 62), (1, vI a)]) (by decide) rfl dX6_comeIn_57 ?_
      refine TT_sub [1, 2, 0] rfl ?_
      have e33_62_4 : w27_1 62 4 = (w27_1 62) 4 := rfl
      exact J58_2 ((h 66) (((w27_1 62) 4) + 1)) w27_1 hT27_1 hF27_1 (by first | omega | (simp [up, setR] <;> omega)) (by rw [e33_62_4]; first | omega | (simp [up, setR] <;> omega))
  refine TT_aload_n hK rfl 0 rfl dX6_comeIn_0 ?_
  refine gf_X6_44 hK (by decide) rfl (v := (h 62) 4) rfl dX6_comeIn_1 ?_
  have r34 := ty_62_4 (v := (h 62) 4) hT rfl
  refine TT_aload_n hK rfl 0 rfl dX6_comeIn_4 ?_
  refine gf_X6_41 hK (by decide) rfl (v := (h 62) 3) rfl dX6_comeIn_5 ?_
  have r35 := ty_62_3 (v := (h 62) 3) hT rfl
  refine TT_icmp_ge hK (tgt := 23) (irm (by omega) (by omega)) (irm (by omega) (by omega)) dX6_comeIn_8 (by decide) (fun hb8_36 => ?_) (fun hb8_36 => ?_)
  · refine TT_sipush hK (by decide) dX6_comeIn_23 ?_
    refine TT_istore_n hK rfl (lv' := [(1, vI 255), (0, vR 62)]) (by decide) rfl dX6_comeIn_26 ?_
    refine TT_sub [1, 0] rfl ?_
    have e37_62_4 : h 62 4 = (h 62) 4 := rfl
    exact J27_1 255 h hT hF (by first | omega | (simp [up, setR] <;> omega)) (by rw [e37_62_4]; first | omega | (simp [up, setR] <;> omega))
  · refine TT_aload_n hK rfl 0 rfl dX6_comeIn_11 ?_
    refine gf_X6_18 hK (by decide) rfl (q := 66) rfl rfl dX6_comeIn_12 ?_
    refine TT_aload_n hK rfl 0 rfl dX6_comeIn_15 ?_
    refine gf_X6_44 hK (by decide) rfl (v := (h 62) 4) rfl dX6_comeIn_16 ?_
    refine TT_iald hK (o := 66) (n := 1024) (by decide) rfl (by first | omega | (simp [up, setR] <;> omega)) (by first | omega | (simp [up, setR] <;> omega)) (v := (h 66) ((h 62) 4)) rfl dX6_comeIn_19 ?_
    have r38 := ty_66 (i := (h 62) 4) (v := (h 66) ((h 62) 4)) hT rfl (by omega) (by omega)
    refine TT_goto hK (tgt := 26) dX6_comeIn_20 (by decide) ?_
    refine TT_istore_n hK rfl (lv' := [(1, vI ((h 66) ((h 62) 4))), (0, vR 62)]) (by decide) rfl dX6_comeIn_26 ?_
    refine TT_sub [1, 0] rfl ?_
    have e39_62_4 : h 62 4 = (h 62) 4 := rfl
    exact J27_1 ((h 66) ((h 62) 4)) h hT hF (by first | omega | (simp [up, setR] <;> omega)) (by rw [e39_62_4]; first | omega | (simp [up, setR] <;> omega))
set_option maxRecDepth 20000 in
theorem s_X6_begin_62 (n : Int) (h : Hp_) (hT : TY h) (hn : 0 ≤ n ∧ n ≤ 2147483647) : Ctr yX6_begin cX6_begin 2 none (rmd 2) ly ly 0 0 [vR 62, vI n] h (fun r h' => (TY h' ∧ FR [62, 64, 65] h h') ∧ r = none) := by
  refine Ctr_of (by decide) (Nat.le_of_ble_eq_true rfl) ⟨Nat.le_refl _, Nat.le_refl _⟩ (fun K hK hQ _ => ?_)
  show TT K ly 0 0 0 [(0, vR 62), (1, vI n)] [] h
  have hF : FR [62, 64, 65] h h := FR_rf _ _
  refine TT_aload_n hK rfl 0 rfl dX6_begin_0 ?_
  refine gf_X6_12 hK (by decide) rfl (q := 63) rfl rfl dX6_begin_1 ?_
  refine iv_X6_32 hK (s_X2_begin_63 h hT ) (by decide) rfl ⟨by decide, by decide⟩ (by decide) rfl rfl (Nat.le_of_ble_eq_true rfl) ⟨by decide, by decide⟩ dX6_begin_4 ?_
  intro r9 g4_1 hp9
  obtain ⟨⟨hT_1, hG_1⟩, hr9⟩ := hp9
  rw [hr9]
  have hF_1 : FR [62, 64, 65] h g4_1 := FR_tr hF hG_1 (by decide)
  show TT K ly 0 0 7 [(0, vR 62), (1, vI n)] [] g4_1
  refine TT_aload_n hK rfl 0 rfl dX6_begin_7 ?_
  refine TT_iload_n hK rfl 1 rfl dX6_begin_8 ?_
  refine TT_aload_n hK rfl 0 rfl dX6_begin_9 ?_
  refine gf_X6_22 hK (by decide) rfl (v := (h 62) 2) (rd_ (hG_1 62 (by decide)) rfl) dX6_begin_10 ?_
  have r2 := ty_62_2 (v := (h 62) 2) hT_1 (rd_ (hG_1 62 (by decide)) rfl)
  refine TT_mmin hK (irm (by omega) (by omega)) (irm (by omega) (by omega)) iw_X6_35 (by decide) (Nat.le_of_ble_eq_true rfl) ⟨by decide, by decide⟩ dX6_begin_13 ?_
  refine pf_X6_41 hK (by decide) rfl dX6_begin_16 ?_
  refine TT_hp (h' := setO g4_1 62 (fup (h 62) 3 (min n ((h 62) 2)))) (up_can (hG_1 62 (by decide)) rfl rfl) ?_
  have hT_3 : TY (setO g4_1 62 (fup (h 62) 3 (min n ((h 62) 2)))) := tu_62_3 hT_1 (show up g4_1 62 3 (min n ((h 62) 2)) = (setO g4_1 62 (fup (h 62) 3 (min n ((h 62) 2)))) from up_can (hG_1 62 (by decide)) rfl rfl) (by omega)
  have hF_3 : FR [62, 64, 65] h (setO g4_1 62 (fup (h 62) 3 (min n ((h 62) 2)))) := FR_up (show up g4_1 62 3 (min n ((h 62) 2)) = (setO g4_1 62 (fup (h 62) 3 (min n ((h 62) 2)))) from up_can (hG_1 62 (by decide)) rfl rfl) hF_1 (by decide)
  refine TT_aload_n hK rfl 0 rfl dX6_begin_19 ?_
  refine TT_iconst hK dX6_begin_20 ?_
  refine pf_X6_44 hK (by decide) rfl dX6_begin_21 ?_
  refine TT_hp (h' := setO g4_1 62 (fup (fup (h 62) 3 (min n ((h 62) 2))) 4 0)) (up_can (sOf_eq _ _ _) rfl (setO_same _ _ _ _)) ?_
  have hT_4 : TY (setO g4_1 62 (fup (fup (h 62) 3 (min n ((h 62) 2))) 4 0)) := tu_62_4 hT_3 (show up (setO g4_1 62 (fup (h 62) 3 (min n ((h 62) 2)))) 62 4 0 = (setO g4_1 62 (fup (fup (h 62) 3 (min n ((h 62) 2))) 4 0)) from up_can (sOf_eq _ _ _) rfl (setO_same _ _ _ _)) (by omega)
  have hF_4 : FR [62, 64, 65] h (setO g4_1 62 (fup (fup (h 62) 3 (min n ((h 62) 2))) 4 0)) := FR_up (show up (setO g4_1 62 (fup (h 62) 3 (min n ((h 62) 2)))) 62 4 0 = (setO g4_1 62 (fup (fup (h 62) 3 (min n ((h 62) 2))) 4 0)) from up_can (sOf_eq _ _ _) rfl (setO_same _ _ _ _)) hF_3 (by decide)
  refine TT_aload_n hK rfl 0 rfl dX6_begin_24 ?_
  refine TT_aload_n hK rfl 0 rfl dX6_begin_25 ?_
  refine gf_X6_41 hK (by decide) rfl (v := min n ((h 62) 2)) (rd_ (sOf_eq _ _ _) ((fup_ne _ _ (by decide)).trans (fup_eq _ _ _))) dX6_begin_26 ?_
  have r5 := ty_62_3 (v := min n ((h 62) 2)) hT_4 (rd_ (sOf_eq _ _ _) ((fup_ne _ _ (by decide)).trans (fup_eq _ _ _)))
  refine TT_if_le hK (tgt := 41) (irm (by omega) (by omega)) dX6_begin_29 (by decide) (fun hb29_6 => ?_) (fun hb29_6 => ?_)
  · refine TT_sipush hK (by decide) dX6_begin_41 ?_
    refine TT_i2l hK (by decide) dX6_begin_44 ?_
    refine TT_ldc2 hK lc_X6_47 dX6_begin_45 ?_
    refine TT_lmul hK dX6_begin_48 ?_
    refine pf_X6_49 hK (by decide) rfl dX6_begin_49 ?_
    refine TT_hp (h' := setO g4_1 62 (fup (fup (fup (h 62) 3 (min n ((h 62) 2))) 4 0) 7 (255 * 65536))) (up_can (sOf_eq _ _ _) rfl (setO_same _ _ _ _)) ?_
    have hT_7 : TY (setO g4_1 62 (fup (fup (fup (h 62) 3 (min n ((h 62) 2))) 4 0) 7 (255 * 65536))) := tu_62_7 hT_4 (show up (setO g4_1 62 (fup (fup (h 62) 3 (min n ((h 62) 2))) 4 0)) 62 7 (255 * 65536) = (setO g4_1 62 (fup (fup (fup (h 62) 3 (min n ((h 62) 2))) 4 0) 7 (255 * 65536))) from up_can (sOf_eq _ _ _) rfl (setO_same _ _ _ _)) (by omega)
    have hF_7 : FR [62, 64, 65] h (setO g4_1 62 (fup (fup (fup (h 62) 3 (min n ((h 62) 2))) 4 0) 7 (255 * 65536))) := FR_up (show up (setO g4_1 62 (fup (fup (h 62) 3 (min n ((h 62) 2))) 4 0)) 62 7 (255 * 65536) = (setO g4_1 62 (fup (fup (fup (h 62) 3 (min n ((h 62) 2))) 4 0) 7 (255 * 65536))) from up_can (sOf_eq _ _ _) rfl (setO_same _ _ _ _)) hF_4 (by decide)
    refine TT_aload_n hK rfl 0 rfl dX6_begin_52 ?_
    refine iv_X6_53 hK (s_X6_comeIn_62 (setO g4_1 62 (fup (fup (fup (h 62) 3 (min n ((h 62) 2))) 4 0) 7 (255 * 65536))) hT_7 ) (by decide) rfl ⟨by decide, by decide⟩ (by decide) rfl rfl (Nat.le_of_ble_eq_true rfl) ⟨by decide, by decide⟩ dX6_begin_53 ?_
    intro r9 g53_8 hp9
    obtain ⟨⟨hT_8, hG_8⟩, hr9, p1_8⟩ := hp9
    rw [hr9]
    have hF_8 : FR [62, 64, 65] h g53_8 := FR_tr hF_7 hG_8 (by decide)
    show TT K ly 0 0 56 [(0, vR 62), (1, vI n)] [] g53_8
    refine TT_aload_n hK rfl 0 rfl dX6_begin_56 ?_
    refine TT_dup hK rfl dX6_begin_57 ?_
    refine gf_X6_49 hK (by decide) rfl (v := (g53_8 62) 7) rfl dX6_begin_58 ?_
    have r9 := ty_62_7 (v := (g53_8 62) 7) hT_8 rfl
    refine TT_bipush hK (by decide) dX6_begin_61 ?_
    refine TT_lshl hK (by decide) dX6_begin_63 ?_
    refine TT_cgJ (b := ((g53_8 62) 7) * 128) rfl ?_
    refine TT_w64f (fun x64_10 hx10 => ?_)
    refine pf_X6_49 hK (by decide) rfl dX6_begin_64 ?_
    refine TT_hp (h' := setO g53_8 62 (fup (g53_8 62) 7 x64_10)) (up_can rfl rfl rfl) ?_
    have hT_11 : TY (setO g53_8 62 (fup (g53_8 62) 7 x64_10)) := tu_62_7 hT_8 (show up g53_8 62 7 x64_10 = (setO g53_8 62 (fup (g53_8 62) 7 x64_10)) from up_can rfl rfl rfl) (by omega)
    have hF_11 : FR [62, 64, 65] h (setO g53_8 62 (fup (g53_8 62) 7 x64_10)) := FR_up (show up g53_8 62 7 x64_10 = (setO g53_8 62 (fup (g53_8 62) 7 x64_10)) from up_can rfl rfl rfl) hF_8 (by decide)
    refine TT_aload_n hK rfl 0 rfl dX6_begin_67 ?_
    refine TT_dup hK rfl dX6_begin_68 ?_
    refine gf_X6_56 hK (by decide) rfl (v := (g53_8 62) 6) (rd_ (sOf_eq _ _ _) (fup_ne _ _ (by decide))) dX6_begin_69 ?_
    have r12 := ty_62_6 (v := (g53_8 62) 6) hT_11 (rd_ (sOf_eq _ _ _) (fup_ne _ _ (by decide)))
    refine TT_bipush hK (by decide) dX6_begin_72 ?_
    refine TT_isub hK dX6_begin_74 ?_
    refine pf_X6_56 hK (by decide) rfl dX6_begin_75 ?_
    refine TT_hp (h' := setO g53_8 62 (fup (fup (g53_8 62) 6 (((g53_8 62) 6) - 7)) 7 x64_10)) (up_can (sOf_eq _ _ _) (fup_comm _ _ _ (by decide)) (setO_same _ _ _ _)) ?_
    have hT_13 : TY (setO g53_8 62 (fup (fup (g53_8 62) 6 (((g53_8 62) 6) - 7)) 7 x64_10)) := tu_62_6 hT_11 (show up (setO g53_8 62 (fup (g53_8 62) 7 x64_10)) 62 6 (((g53_8 62) 6) - 7) = (setO g53_8 62 (fup (fup (g53_8 62) 6 (((g53_8 62) 6) - 7)) 7 x64_10)) from up_can (sOf_eq _ _ _) (fup_comm _ _ _ (by decide)) (setO_same _ _ _ _)) (by omega)
    have hF_13 : FR [62, 64, 65] h (setO g53_8 62 (fup (fup (g53_8 62) 6 (((g53_8 62) 6) - 7)) 7 x64_10)) := FR_up (show up (setO g53_8 62 (fup (g53_8 62) 7 x64_10)) 62 6 (((g53_8 62) 6) - 7) = (setO g53_8 62 (fup (fup (g53_8 62) 6 (((g53_8 62) 6) - 7)) 7 x64_10)) from up_can (sOf_eq _ _ _) (fup_comm _ _ _ (by decide)) (setO_same _ _ _ _)) hF_11 (by decide)
    refine TT_aload_n hK rfl 0 rfl dX6_begin_78 ?_
    refine TT_ldc hK lc_X6_59 dX6_begin_79 ?_
    refine pf_X6_60 hK (by decide) rfl dX6_begin_81 ?_
    refine TT_hp (h' := setO g53_8 62 (fup (fup (fup (g53_8 62) 5 32768) 6 (((g53_8 62) 6) - 7)) 7 x64_10)) (up_can (sOf_eq _ _ _) ((fup_comm _ _ _ (by decide)).trans (fup_cg (fup_comm _ _ _ (by decide)))) (setO_same _ _ _ _)) ?_
    have hT_14 : TY (setO g53_8 62 (fup (fup (fup (g53_8 62) 5 32768) 6 (((g53_8 62) 6) - 7)) 7 x64_10)) := tu_62_5 hT_13 (show up (setO g53_8 62 (fup (fup (g53_8 62) 6 (((g53_8 62) 6) - 7)) 7 x64_10)) 62 5 32768 = (setO g53_8 62 (fup (fup (fup (g53_8 62) 5 32768) 6 (((g53_8 62) 6) - 7)) 7 x64_10)) from up_can (sOf_eq _ _ _) ((fup_comm _ _ _ (by decide)).trans (fup_cg (fup_comm _ _ _ (by decide)))) (setO_same _ _ _ _)) (by omega)
    have hF_14 : FR [62, 64, 65] h (setO g53_8 62 (fup (fup (fup (g53_8 62) 5 32768) 6 (((g53_8 62) 6) - 7)) 7 x64_10)) := FR_up (show up (setO g53_8 62 (fup (fup (g53_8 62) 6 (((g53_8 62) 6) - 7)) 7 x64_10)) 62 5 32768 = (setO g53_8 62 (fup (fup (fup (g53_8 62) 5 32768) 6 (((g53_8 62) 6) - 7)) 7 x64_10)) from up_can (sOf_eq _ _ _) ((fup_comm _ _ _ (by decide)).trans (fup_cg (fup_comm _ _ _ (by decide)))) (setO_same _ _ _ _)) hF_13 (by decide)
    refine TT_vret hK hQ ?_ dX6_begin_84
    exact ⟨⟨hT_14, hF_14⟩, rfl⟩
  · refine TT_aload_n hK rfl 0 rfl dX6_begin_32 ?_
    refine gf_X6_18 hK (by decide) rfl (q := 66) rfl rfl dX6_begin_33 ?_
    refine TT_iconst hK dX6_begin_36 ?_
    refine TT_iald hK (o := 66) (n := 1024) (by decide) rfl (by first | omega | (simp [up, setR] <;> omega)) (by first | omega | (simp [up, setR] <;> omega)) (v := (h 66) 0) (rd_ ((sOf_ne _ _ (by decide)).trans (hG_1 66 (by decide))) rfl) dX6_begin_37 ?_
    have r15 := ty_66 (i := 0) (v := (h 66) 0) hT_4 (rd_ ((sOf_ne _ _ (by decide)).trans (hG_1 66 (by decide))) rfl) (by omega) (by omega)
    refine TT_goto hK (tgt := 44) dX6_begin_38 (by decide) ?_
    refine TT_i2l hK (irm (by omega) (by omega)) dX6_begin_44 ?_
    refine TT_ldc2 hK lc_X6_47 dX6_begin_45 ?_
    refine TT_lmul hK dX6_begin_48 ?_
    refine pf_X6_49 hK (by decide) rfl dX6_begin_49 ?_
    refine TT_hp (h' := setO g4_1 62 (fup (fup (fup (h 62) 3 (min n ((h 62) 2))) 4 0) 7 (((h 66) 0) * 65536))) (up_can (sOf_eq _ _ _) rfl (setO_same _ _ _ _)) ?_
    have hT_16 : TY (setO g4_1 62 (fup (fup (fup (h 62) 3 (min n ((h 62) 2))) 4 0) 7 (((h 66) 0) * 65536))) := tu_62_7 hT_4 (show up (setO g4_1 62 (fup (fup (h 62) 3 (min n ((h 62) 2))) 4 0)) 62 7 (((h 66) 0) * 65536) = (setO g4_1 62 (fup (fup (fup (h 62) 3 (min n ((h 62) 2))) 4 0) 7 (((h 66) 0) * 65536))) from up_can (sOf_eq _ _ _) rfl (setO_same _ _ _ _)) (by omega)
    have hF_16 : FR [62, 64, 65] h (setO g4_1 62 (fup (fup (fup (h 62) 3 (min n ((h 62) 2))) 4 0) 7 (((h 66) 0) * 65536))) := FR_up (show up (setO g4_1 62 (fup (fup (h 62) 3 (min n ((h 62) 2))) 4 0)) 62 7 (((h 66) 0) * 65536) = (setO g4_1 62 (fup (fup (fup (h 62) 3 (min n ((h 62) 2))) 4 0) 7 (((h 66) 0) * 65536))) from up_can (sOf_eq _ _ _) rfl (setO_same _ _ _ _)) hF_4 (by decide)
    refine TT_aload_n hK rfl 0 rfl dX6_begin_52 ?_
    refine iv_X6_53 hK (s_X6_comeIn_62 (setO g4_1 62 (fup (fup (fup (h 62) 3 (min n ((h 62) 2))) 4 0) 7 (((h 66) 0) * 65536))) hT_16 ) (by decide) rfl ⟨by decide, by decide⟩ (by decide) rfl rfl (Nat.le_of_ble_eq_true rfl) ⟨by decide, by decide⟩ dX6_begin_53 ?_
    intro r9 g53_17 hp9
    obtain ⟨⟨hT_17, hG_17⟩, hr9, p1_17⟩ := hp9
    rw [hr9]
    have hF_17 : FR [62, 64, 65] h g53_17 := FR_tr hF_16 hG_17 (by decide)
    show TT K ly 0 0 56 [(0, vR 62), (1, vI n)] [] g53_17
    refine TT_aload_n hK rfl 0 rfl dX6_begin_56 ?_
    refine TT_dup hK rfl dX6_begin_57 ?_
    refine gf_X6_49 hK (by decide) rfl (v := (g53_17 62) 7) rfl dX6_begin_58 ?_
    have r18 := ty_62_7 (v := (g53_17 62) 7) hT_17 rfl
    refine TT_bipush hK (by decide) dX6_begin_61 ?_
    refine TT_lshl hK (by decide) dX6_begin_63 ?_
    refine TT_cgJ (b := ((g53_17 62) 7) * 128) rfl ?_
    refine TT_w64f (fun x64_19 hx19 => ?_)
    refine pf_X6_49 hK (by decide) rfl dX6_begin_64 ?_
    refine TT_hp (h' := setO g53_17 62 (fup (g53_17 62) 7 x64_19)) (up_can rfl rfl rfl) ?_
    have hT_20 : TY (setO g53_17 62 (fup (g53_17 62) 7 x64_19)) := tu_62_7 hT_17 (show up g53_17 62 7 x64_19 = (setO g53_17 62 (fup (g53_17 62) 7 x64_19)) from up_can rfl rfl rfl) (by omega)
    have hF_20 : FR [62, 64, 65] h (setO g53_17 62 (fup (g53_17 62) 7 x64_19)) := FR_up (show up g53_17 62 7 x64_19 = (setO g53_17 62 (fup (g53_17 62) 7 x64_19)) from up_can rfl rfl rfl) hF_17 (by decide)
    refine TT_aload_n hK rfl 0 rfl dX6_begin_67 ?_
    refine TT_dup hK rfl dX6_begin_68 ?_
    refine gf_X6_56 hK (by decide) rfl (v := (g53_17 62) 6) (rd_ (sOf_eq _ _ _) (fup_ne _ _ (by decide))) dX6_begin_69 ?_
    have r21 := ty_62_6 (v := (g53_17 62) 6) hT_20 (rd_ (sOf_eq _ _ _) (fup_ne _ _ (by decide)))
    refine TT_bipush hK (by decide) dX6_begin_72 ?_
    refine TT_isub hK dX6_begin_74 ?_
    refine pf_X6_56 hK (by decide) rfl dX6_begin_75 ?_
    refine TT_hp (h' := setO g53_17 62 (fup (fup (g53_17 62) 6 (((g53_17 62) 6) - 7)) 7 x64_19)) (up_can (sOf_eq _ _ _) (fup_comm _ _ _ (by decide)) (setO_same _ _ _ _)) ?_
    have hT_22 : TY (setO g53_17 62 (fup (fup (g53_17 62) 6 (((g53_17 62) 6) - 7)) 7 x64_19)) := tu_62_6 hT_20 (show up (setO g53_17 62 (fup (g53_17 62) 7 x64_19)) 62 6 (((g53_17 62) 6) - 7) = (setO g53_17 62 (fup (fup (g53_17 62) 6 (((g53_17 62) 6) - 7)) 7 x64_19)) from up_can (sOf_eq _ _ _) (fup_comm _ _ _ (by decide)) (setO_same _ _ _ _)) (by omega)
    have hF_22 : FR [62, 64, 65] h (setO g53_17 62 (fup (fup (g53_17 62) 6 (((g53_17 62) 6) - 7)) 7 x64_19)) := FR_up (show up (setO g53_17 62 (fup (g53_17 62) 7 x64_19)) 62 6 (((g53_17 62) 6) - 7) = (setO g53_17 62 (fup (fup (g53_17 62) 6 (((g53_17 62) 6) - 7)) 7 x64_19)) from up_can (sOf_eq _ _ _) (fup_comm _ _ _ (by decide)) (setO_same _ _ _ _)) hF_20 (by decide)
    refine TT_aload_n hK rfl 0 rfl dX6_begin_78 ?_
    refine TT_ldc hK lc_X6_59 dX6_begin_79 ?_
    refine pf_X6_60 hK (by decide) rfl dX6_begin_81 ?_
    refine TT_hp (h' := setO g53_17 62 (fup (fup (fup (g53_17 62) 5 32768) 6 (((g53_17 62) 6) - 7)) 7 x64_19)) (up_can (sOf_eq _ _ _) ((fup_comm _ _ _ (by decide)).trans (fup_cg (fup_comm _ _ _ (by decide)))) (setO_same _ _ _ _)) ?_
    have hT_23 : TY (setO g53_17 62 (fup (fup (fup (g53_17 62) 5 32768) 6 (((g53_17 62) 6) - 7)) 7 x64_19)) := tu_62_5 hT_22 (show up (setO g53_17 62 (fup (fup (g53_17 62) 6 (((g53_17 62) 6) - 7)) 7 x64_19)) 62 5 32768 = (setO g53_17 62 (fup (fup (fup (g53_17 62) 5 32768) 6 (((g53_17 62) 6) - 7)) 7 x64_19)) from up_can (sOf_eq _ _ _) ((fup_comm _ _ _ (by decide)).trans (fup_cg (fup_comm _ _ _ (by decide)))) (setO_same _ _ _ _)) (by omega)
    have hF_23 : FR [62, 64, 65] h (setO g53_17 62 (fup (fup (fup (g53_17 62) 5 32768) 6 (((g53_17 62) 6) - 7)) 7 x64_19)) := FR_up (show up (setO g53_17 62 (fup (fup (g53_17 62) 6 (((g53_17 62) 6) - 7)) 7 x64_19)) 62 5 32768 = (setO g53_17 62 (fup (fup (fup (g53_17 62) 5 32768) 6 (((g53_17 62) 6) - 7)) 7 x64_19)) from up_can (sOf_eq _ _ _) ((fup_comm _ _ _ (by decide)).trans (fup_cg (fup_comm _ _ _ (by decide)))) (setO_same _ _ _ _)) hF_22 (by decide)
    refine TT_vret hK hQ ?_ dX6_begin_84
    exact ⟨⟨hT_23, hF_23⟩, rfl⟩
set_option maxRecDepth 20000 in
theorem s_X6_tellBit_62 (x b : Int) (h : Hp_) (hT : TY h) (hx : 0 ≤ x ∧ x ≤ 18) (hb : -2147483648 ≤ b ∧ b ≤ 2147483647) : Ctr yX6_tellBit cX6_tellBit 7 (some .int) (rmd 1) ly ly 0 0 [vR 62, vI x, vI b] h (fun r h' => (TY h' ∧ FR [62, 64, 65] h h') ∧ ∃ z : Int, r = some (vI z) ∧ (0 ≤ z ∧ z ≤ 1)) := by
  refine Ctr_of (by decide) (Nat.le_of_ble_eq_true rfl) ⟨Nat.le_refl _, Nat.le_refl _⟩ (fun K hK hQ _ => ?_)
  show TT K ly 0 0 0 [(0, vR 62), (1, vI x), (2, vI b)] [] h
  have hF : FR [62, 64, 65] h h := FR_rf _ _
  refine TT_aload_n hK rfl 0 rfl dX6_tellBit_0 ?_
  refine gf_X6_12 hK (by decide) rfl (q := 63) rfl rfl dX6_tellBit_1 ?_
  refine TT_iload_n hK rfl 1 rfl dX6_tellBit_4 ?_
  refine iv_X6_65 hK (s_X2_sizeOf_63 x h hT (by first | omega | (simp [up, setR] <;> omega))) (by decide) rfl ⟨by decide, by decide⟩ (by decide) rfl rfl (Nat.le_of_ble_eq_true rfl) ⟨by decide, by decide⟩ dX6_tellBit_5 ?_
  intro r9 g5_1 hp9
  obtain ⟨⟨hT_1, hG_1⟩, z5_1, hr9, hz_1⟩ := hp9
  rw [hr9]
  have hF_1 : FR [62, 64, 65] h g5_1 := FR_tr hF hG_1 (by decide)
  show TT K ly 0 0 8 [(0, vR 62), (1, vI x), (2, vI b)] [vI z5_1] g5_1
  refine TT_istore_n hK rfl (lv' := [(3, vI z5_1), (0, vR 62), (1, vI x), (2, vI b)]) (by decide) rfl dX6_tellBit_8 ?_
  refine TT_aload_n hK rfl 1 rfl dX6_tellBit_9 ?_
  refine gf_X6_12 hK (by decide) rfl (q := 63) rfl rfl dX6_tellBit_10 ?_
  refine TT_iload_n hK rfl 2 rfl dX6_tellBit_13 ?_
  refine iv_X6_68 hK (s_X2_likelyBit_63 x g5_1 hT_1 (by first | omega | (simp [up, setR] <;> omega))) (by decide) rfl ⟨by decide, by decide⟩ (by decide) rfl rfl (Nat.le_of_ble_eq_true rfl) ⟨by decide, by decide⟩ dX6_tellBit_14 ?_
  intro r9 g14_2 hp9
  obtain ⟨⟨hT_2, hG_2⟩, z14_2, hr9, hz_2⟩ := hp9
  rw [hr9]
  have hF_2 : FR [62, 64, 65] h g14_2 := FR_tr hF_1 hG_2 (by decide)
  show TT K ly 0 0 17 [(3, vI z5_1), (0, vR 62), (1, vI x), (2, vI b)] [vI z14_2] g14_2
  refine TT_istore hK (lv' := [(4, vI z14_2), (3, vI z5_1), (0, vR 62), (1, vI x), (2, vI b)]) (by decide) rfl dX6_tellBit_17 ?_
  refine TT_aload_n hK rfl 2 rfl dX6_tellBit_19 ?_
  refine TT_dup hK rfl dX6_tellBit_20 ?_
  refine gf_X6_60 hK (by decide) rfl (v := (h 62) 5) (rd_ (((hG_2 62 (by decide))).trans (hG_1 62 (by decide))) rfl) dX6_tellBit_21 ?_
  have r3 := ty_62_5 (v := (h 62) 5) hT_2 (rd_ (((hG_2 62 (by decide))).trans (hG_1 62 (by decide))) rfl)
  refine TT_iload_n hK rfl 1 rfl dX6_tellBit_24 ?_
  refine TT_isub hK dX6_tellBit_25 ?_
  refine TT_w32 (fun x26_4 hx4 => ?_)
  refine pf_X6_60 hK (by decide) rfl dX6_tellBit_26 ?_
  refine TT_hp (h' := setO g14_2 62 (fup (h 62) 5 x26_4)) (up_can (((hG_2 62 (by decide))).trans (hG_1 62 (by decide))) rfl rfl) ?_
  have hT_5 : TY (setO g14_2 62 (fup (h 62) 5 x26_4)) := tu_62_5 hT_2 (show up g14_2 62 5 x26_4 = (setO g14_2 62 (fup (h 62) 5 x26_4)) from up_can (((hG_2 62 (by decide))).trans (hG_1 62 (by decide))) rfl rfl) (by omega)
  have hF_5 : FR [62, 64, 65] h (setO g14_2 62 (fup (h 62) 5 x26_4)) := FR_up (show up g14_2 62 5 x26_4 = (setO g14_2 62 (fup (h 62) 5 x26_4)) from up_can (((hG_2 62 (by decide))).trans (hG_1 62 (by decide))) rfl rfl) hF_2 (by decide)
  refine TT_aload_n hK rfl 2 rfl dX6_tellBit_29 ?_
  refine gf_X6_49 hK (by decide) rfl (v := (h 62) 7) (rd_ (sOf_eq _ _ _) (fup_ne _ _ (by decide))) dX6_tellBit_30 ?_
  have r6 := ty_62_7 (v := (h 62) 7) hT_5 (rd_ (sOf_eq _ _ _) (fup_ne _ _ (by decide)))
  refine TT_bipush hK (by decide) dX6_tellBit_33 ?_
  refine TT_lshr hK (lrm (by omega) (by omega)) rfl dX6_tellBit_35 ?_
  refine TT_cgJ (b := ((h 62) 7) / 65536) rfl ?_
  refine TT_iload_n hK rfl 1 rfl dX6_tellBit_36 ?_
  refine TT_i2l hK (irm (by omega) (by omega)) dX6_tellBit_37 ?_
  refine TT_lcmp hK (lrm (by omega) (by omega)) (lrm (by omega) (by omega)) dX6_tellBit_38 ?_
  refine TT_if_ge hK (tgt := 69) (lcmp_ir _ _) dX6_tellBit_39 (by decide) (fun hb39_7 => ?_) (fun hb39_7 => ?_)
  · have hb39_7 := lcmp_ge hb39_7
    refine TT_aload_n hK rfl 2 rfl dX6_tellBit_69 ?_
    refine TT_dup hK rfl dX6_tellBit_70 ?_
    refine gf_X6_49 hK (by decide) rfl (v := (h 62) 7) (rd_ (sOf_eq _ _ _) (fup_ne _ _ (by decide))) dX6_tellBit_71 ?_
    refine TT_iload_n hK rfl 1 rfl dX6_tellBit_74 ?_
    refine TT_i2l hK (irm (by omega) (by omega)) dX6_tellBit_75 ?_
    refine TT_bipush hK (by decide) dX6_tellBit_76 ?_
    refine TT_lshl hK (by decide) dX6_tellBit_78 ?_
    refine TT_cgJ (b := z5_1 * 65536) rfl ?_
    refine TT_lsub hK dX6_tellBit_79 ?_
    refine TT_w64f (fun x80_8 hx8 => ?_)
    refine pf_X6_49 hK (by decide) rfl dX6_tellBit_80 ?_
    refine TT_hp (h' := setO g14_2 62 (fup (fup (h 62) 5 x26_4) 7 x80_8)) (up_can (sOf_eq _ _ _) rfl (setO_same _ _ _ _)) ?_
    have hT_9 : TY (setO g14_2 62 (fup (fup (h 62) 5 x26_4) 7 x80_8)) := tu_62_7 hT_5 (show up (setO g14_2 62 (fup (h 62) 5 x26_4)) 62 7 x80_8 = (setO g14_2 62 (fup (fup (h 62) 5 x26_4) 7 x80_8)) from up_can (sOf_eq _ _ _) rfl (setO_same _ _ _ _)) (by omega)
    have hF_9 : FR [62, 64, 65] h (setO g14_2 62 (fup (fup (h 62) 5 x26_4) 7 x80_8)) := FR_up (show up (setO g14_2 62 (fup (h 62) 5 x26_4)) 62 7 x80_8 = (setO g14_2 62 (fup (fup (h 62) 5 x26_4) 7 x80_8)) from up_can (sOf_eq _ _ _) rfl (setO_same _ _ _ _)) hF_5 (by decide)
    refine TT_aload_n hK rfl 2 rfl dX6_tellBit_83 ?_
    refine gf_X6_60 hK (by decide) rfl (v := x26_4) (rd_ (sOf_eq _ _ _) ((fup_ne _ _ (by decide)).trans (fup_eq _ _ _))) dX6_tellBit_84 ?_
    have r10 := ty_62_5 (v := x26_4) hT_9 (rd_ (sOf_eq _ _ _) ((fup_ne _ _ (by decide)).trans (fup_eq _ _ _)))
    refine TT_ldc hK lc_X6_59 dX6_tellBit_87 ?_
    refine TT_icmp_lt hK (tgt := 95) (irm (by omega) (by omega)) (by decide) dX6_tellBit_89 (by decide) (fun hb89_11 => ?_) (fun hb89_11 => ?_)
    · refine TT_aload_n hK rfl 2 rfl dX6_tellBit_95 ?_
      refine gf_X6_60 hK (by decide) rfl (v := x26_4) (rd_ (sOf_eq _ _ _) ((fup_ne _ _ (by decide)).trans (fup_eq _ _ _))) dX6_tellBit_96 ?_
      refine TT_iload_n hK rfl 1 rfl dX6_tellBit_99 ?_
      refine TT_icmp_ge hK (tgt := 110) (irm (by omega) (by omega)) (irm (by omega) (by omega)) dX6_tellBit_100 (by decide) (fun hb100_12 => ?_) (fun hb100_12 => ?_)
      · refine TT_iload hK 0 rfl dX6_tellBit_110 ?_
        refine TT_istore hK (lv' := [(5, vI z14_2), (4, vI z14_2), (3, vI z5_1), (0, vR 62), (1, vI x), (2, vI b)]) (by decide) rfl dX6_tellBit_112 ?_
        refine TT_aload_n hK rfl 3 rfl dX6_tellBit_114 ?_
        refine gf_X6_12 hK (by decide) rfl (q := 63) rfl rfl dX6_tellBit_115 ?_
        refine TT_iload_n hK rfl 4 rfl dX6_tellBit_118 ?_
        refine TT_iload hK 0 rfl dX6_tellBit_119 ?_
        refine iv_X6_71 hK (s_X2_learn_63 x z14_2 (setO g14_2 62 (fup (fup (h 62) 5 x26_4) 7 x80_8)) hT_9 (by first | omega | (simp [up, setR] <;> omega)) (by first | omega | (simp [up, setR] <;> omega))) (by decide) rfl ⟨by decide, by decide⟩ (by decide) rfl rfl (Nat.le_of_ble_eq_true rfl) ⟨by decide, by decide⟩ dX6_tellBit_121 ?_
        intro r9 g121_13 hp9
        obtain ⟨⟨hT_13, hG_13⟩, hr9⟩ := hp9
        rw [hr9]
        have hF_13 : FR [62, 64, 65] h g121_13 := FR_tr hF_9 hG_13 (by decide)
        show TT K ly 0 0 124 [(5, vI z14_2), (4, vI z14_2), (3, vI z5_1), (0, vR 62), (1, vI x), (2, vI b)] [] g121_13
        refine TT_iconst hK dX6_tellBit_124 ?_
        refine TT_istore hK (lv' := [(6, vI 0), (5, vI z14_2), (4, vI z14_2), (3, vI z5_1), (0, vR 62), (1, vI x), (2, vI b)]) (by decide) rfl dX6_tellBit_125 ?_
        have L127_14 : ∀ (k14 : Nat) (k : Int) (b9 : Int) (w127_14 : Hp_), TY w127_14 → FR [62, 64, 65] h w127_14 → (0 ≤ k ∧ k ≤ 15) → (0 ≤ b9 ∧ b9 ≤ 1) → ((15 : Int) - k).toNat < k14 → TT K ly 0 0 127 [(0, vR 62), (1, vI x), (5, vI b9), (6, vI k)] [] w127_14 := by
          intro k14
          induction k14 with
          | zero => intro k b9 w127_14 hT127_14 hF127_14 hk hb9 hk14; exact absurd hk14 (Nat.not_lt_zero _)
          | succ k14 ih14 =>
            intro k b9 w127_14 hT127_14 hF127_14 hk hb9 hk14
            refine TT_iload hK 3 rfl dX6_tellBit_127 ?_
            refine TT_bipush hK (by decide) dX6_tellBit_129 ?_
            refine TT_icmp_ge hK (tgt := 196) (irm (by omega) (by omega)) (by decide) dX6_tellBit_131 (by decide) (fun hb131_15 => ?_) (fun hb131_15 => ?_)
            · refine TT_iload hK 2 rfl dX6_tellBit_196 ?_
              refine TT_iret hK hQ ?_ dX6_tellBit_198
              exact ⟨⟨hT127_14, hF127_14⟩, b9, rfl, (by omega)⟩
            · refine TT_aload_n hK rfl 0 rfl dX6_tellBit_134 ?_
              refine gf_X6_60 hK (by decide) rfl (v := (w127_14 62) 5) rfl dX6_tellBit_135 ?_
              have r16 := ty_62_5 (v := (w127_14 62) 5) hT127_14 rfl
              refine TT_ldc hK lc_X6_59 dX6_tellBit_138 ?_
              refine TT_icmp_ge hK (tgt := 196) (irm (by omega) (by omega)) (by decide) dX6_tellBit_140 (by decide) (fun hb140_17 => ?_) (fun hb140_17 => ?_)
              · refine TT_iload hK 2 rfl dX6_tellBit_196 ?_
                refine TT_iret hK hQ ?_ dX6_tellBit_198
                exact ⟨⟨hT127_14, hF127_14⟩, b9, rfl, (by omega)⟩
              · refine TT_aload_n hK rfl 0 rfl dX6_tellBit_143 ?_
                refine gf_X6_56 hK (by decide) rfl (v := (w127_14 62) 6) rfl dX6_tellBit_144 ?_
                have r18 := ty_62_6 (v := (w127_14 62) 6) hT127_14 rfl
                refine TT_if_ne hK (tgt := 154) (irm (by omega) (by omega)) dX6_tellBit_147 (by decide) (fun hb147_19 => ?_) (fun hb147_19 => ?_)
                · refine TT_aload_n hK rfl 0 rfl dX6_tellBit_154 ?_
                  refine TT_dup hK rfl dX6_tellBit_155 ?_
                  refine gf_X6_60 hK (by decide) rfl (v := (w127_14 62) 5) rfl dX6_tellBit_156 ?_
                  refine TT_iconst hK dX6_tellBit_159 ?_
                  refine TT_ishl hK (by omega) (by omega) dX6_tellBit_160 ?_
                  refine TT_cgI (b := ((w127_14 62) 5) * 2) rfl ?_
                  refine TT_w32 (fun x161_20 hx20 => ?_)
                  refine pf_X6_60 hK (by decide) rfl dX6_tellBit_161 ?_
                  refine TT_hp (h' := setO w127_14 62 (fup (w127_14 62) 5 x161_20)) (up_can rfl rfl rfl) ?_
                  have hT_21 : TY (setO w127_14 62 (fup (w127_14 62) 5 x161_20)) := tu_62_5 hT127_14 (show up w127_14 62 5 x161_20 = (setO w127_14 62 (fup (w127_14 62) 5 x161_20)) from up_can rfl rfl rfl) (by omega)
                  have hF_21 : FR [62, 64, 65] h (setO w127_14 62 (fup (w127_14 62) 5 x161_20)) := FR_up (show up w127_14 62 5 x161_20 = (setO w127_14 62 (fup (w127_14 62) 5 x161_20)) from up_can rfl rfl rfl) hF127_14 (by decide)
                  refine TT_aload_n hK rfl 0 rfl dX6_tellBit_164 ?_
                  refine TT_aload_n hK rfl 0 rfl dX6_tellBit_165 ?_
                  refine gf_X6_49 hK (by decide) rfl (v := (w127_14 62) 7) (rd_ (sOf_eq _ _ _) (fup_ne _ _ (by decide))) dX6_tellBit_166 ?_
                  have r22 := ty_62_7 (v := (w127_14 62) 7) hT_21 (rd_ (sOf_eq _ _ _) (fup_ne _ _ (by decide)))
                  refine TT_iconst hK dX6_tellBit_169 ?_
                  refine TT_lshl hK (by decide) dX6_tellBit_170 ?_
                  refine TT_cgJ (b := ((w127_14 62) 7) * 2) rfl ?_
                  refine TT_w64f (fun x171_23 hx23 => ?_)
                  refine TT_ldc2 hK lc_X6_75 dX6_tellBit_171 ?_
                  refine TT_mminl hK (lrm (by omega) (by omega)) (by decide) iw_X6_77 (by decide) (Nat.le_of_ble_eq_true rfl) ⟨by decide, by decide⟩ dX6_tellBit_174 ?_
                  refine pf_X6_49 hK (by decide) rfl dX6_tellBit_177 ?_
                  refine TT_hp (h' := setO w127_14 62 (fup (fup (w127_14 62) 5 x161_20) 7 (min x171_23 1099511627776))) (up_can (sOf_eq _ _ _) rfl (setO_same _ _ _ _)) ?_
                  have hT_24 : TY (setO w127_14 62 (fup (fup (w127_14 62) 5 x161_20) 7 (min x171_23 1099511627776))) := tu_62_7 hT_21 (show up (setO w127_14 62 (fup (w127_14 62) 5 x161_20)) 62 7 (min x171_23 1099511627776) = (setO w127_14 62 (fup (fup (w127_14 62) 5 x161_20) 7 (min x171_23 1099511627776))) from up_can (sOf_eq _ _ _) rfl (setO_same _ _ _ _)) (by omega)
                  have hF_24 : FR [62, 64, 65] h (setO w127_14 62 (fup (fup (w127_14 62) 5 x161_20) 7 (min x171_23 1099511627776))) := FR_up (show up (setO w127_14 62 (fup (w127_14 62) 5 x161_20)) 62 7 (min x171_23 1099511627776) = (setO w127_14 62 (fup (fup (w127_14 62) 5 x161_20) 7 (min x171_23 1099511627776))) from up_can (sOf_eq _ _ _) rfl (setO_same _ _ _ _)) hF_21 (by decide)
                  refine TT_aload_n hK rfl 0 rfl dX6_tellBit_180 ?_
                  refine TT_dup hK rfl dX6_tellBit_181 ?_
                  refine gf_X6_56 hK (by decide) rfl (v := (w127_14 62) 6) (rd_ (sOf_eq _ _ _) ((fup_ne _ _ (by decide)).trans (fup_ne _ _ (by decide)))) dX6_tellBit_182 ?_
                  refine TT_iconst hK dX6_tellBit_185 ?_
                  refine TT_isub hK dX6_tellBit_186 ?_
                  refine pf_X6_56 hK (by decide) rfl dX6_tellBit_187 ?_
                  refine TT_hp (h' := setO w127_14 62 (fup (fup (fup (w127_14 62) 5 x161_20) 6 (((w127_14 62) 6) - 1)) 7 (min x171_23 1099511627776))) (up_can (sOf_eq _ _ _) (fup_comm _ _ _ (by decide)) (setO_same _ _ _ _)) ?_
                  have hT_25 : TY (setO w127_14 62 (fup (fup (fup (w127_14 62) 5 x161_20) 6 (((w127_14 62) 6) - 1)) 7 (min x171_23 1099511627776))) := tu_62_6 hT_24 (show up (setO w127_14 62 (fup (fup (w127_14 62) 5 x161_20) 7 (min x171_23 1099511627776))) 62 6 (((w127_14 62) 6) - 1) = (setO w127_14 62 (fup (fup (fup (w127_14 62) 5 x161_20) 6 (((w127_14 62) 6) - 1)) 7 (min x171_23 1099511627776))) from up_can (sOf_eq _ _ _) (fup_comm _ _ _ (by decide)) (setO_same _ _ _ _)) (by omega)
                  have hF_25 : FR [62, 64, 65] h (setO w127_14 62 (fup (fup (fup (w127_14 62) 5 x161_20) 6 (((w127_14 62) 6) - 1)) 7 (min x171_23 1099511627776))) := FR_up (show up (setO w127_14 62 (fup (fup (w127_14 62) 5 x161_20) 7 (min x171_23 1099511627776))) 62 6 (((w127_14 62) 6) - 1) = (setO w127_14 62 (fup (fup (fup (w127_14 62) 5 x161_20) 6 (((w127_14 62) 6) - 1)) 7 (min x171_23 1099511627776))) from up_can (sOf_eq _ _ _) (fup_comm _ _ _ (by decide)) (setO_same _ _ _ _)) hF_24 (by decide)
                  refine TT_iinc hK (v := k + 1) (lv' := [(6, vI (k + 1)), (0, vR 62), (1, vI x), (5, vI b9)]) 3 rfl rfl (by decide) rfl dX6_tellBit_190 ?_
                  refine TT_goto hK (tgt := 127) dX6_tellBit_193 (by decide) ?_
                  refine TT_sub [1, 2, 3, 0] rfl ?_
                  exact ih14 (k + 1) b9 (setO w127_14 62 (fup (fup (fup (w127_14 62) 5 x161_20) 6 (((w127_14 62) 6) - 1)) 7 (min x171_23 1099511627776))) hT_25 hF_25 (by first | omega | (simp [up, setR] <;> omega)) (by first | omega | (simp [up, setR] <;> omega)) (by first | omega | (simp [up, setR] <;> omega))
                · refine TT_aload_n hK rfl 0 rfl dX6_tellBit_150 ?_
                  refine iv_X6_53 hK (s_X6_comeIn_62 w127_14 hT127_14 ) (by decide) rfl ⟨by decide, by decide⟩ (by decide) rfl rfl (Nat.le_of_ble_eq_true rfl) ⟨by decide, by decide⟩ dX6_tellBit_151 ?_
                  intro r9 g151_26 hp9
                  obtain ⟨⟨hT_26, hG_26⟩, hr9, p1_26⟩ := hp9
                  rw [hr9]
                  have hF_26 : FR [62, 64, 65] h g151_26 := FR_tr hF127_14 hG_26 (by decide)
                  show TT K ly 0 0 154 [(0, vR 62), (1, vI x), (5, vI b9), (6, vI k)] [] g151_26
                  refine TT_aload_n hK rfl 0 rfl dX6_tellBit_154 ?_
                  refine TT_dup hK rfl dX6_tellBit_155 ?_
                  refine gf_X6_60 hK (by decide) rfl (v := (g151_26 62) 5) rfl dX6_tellBit_156 ?_
                  have r27 := ty_62_5 (v := (g151_26 62) 5) hT_26 rfl
                  refine TT_iconst hK dX6_tellBit_159 ?_
                  refine TT_ishl hK (by omega) (by omega) dX6_tellBit_160 ?_
                  refine TT_cgI (b := ((g151_26 62) 5) * 2) rfl ?_
                  refine TT_w32 (fun x161_28 hx28 => ?_)
                  refine pf_X6_60 hK (by decide) rfl dX6_tellBit_161 ?_
                  refine TT_hp (h' := setO g151_26 62 (fup (g151_26 62) 5 x161_28)) (up_can rfl rfl rfl) ?_
                  have hT_29 : TY (setO g151_26 62 (fup (g151_26 62) 5 x161_28)) := tu_62_5 hT_26 (show up g151_26 62 5 x161_28 = (setO g151_26 62 (fup (g151_26 62) 5 x161_28)) from up_can rfl rfl rfl) (by omega)
                  have hF_29 : FR [62, 64, 65] h (setO g151_26 62 (fup (g151_26 62) 5 x161_28)) := FR_up (show up g151_26 62 5 x161_28 = (setO g151_26 62 (fup (g151_26 62) 5 x161_28)) from up_can rfl rfl rfl) hF_26 (by decide)
                  refine TT_aload_n hK rfl 0 rfl dX6_tellBit_164 ?_
                  refine TT_aload_n hK rfl 0 rfl dX6_tellBit_165 ?_
                  refine gf_X6_49 hK (by decide) rfl (v := (g151_26 62) 7) (rd_ (sOf_eq _ _ _) (fup_ne _ _ (by decide))) dX6_tellBit_166 ?_
                  have r30 := ty_62_7 (v := (g151_26 62) 7) hT_29 (rd_ (sOf_eq _ _ _) (fup_ne _ _ (by decide)))
                  refine TT_iconst hK dX6_tellBit_169 ?_
                  refine TT_lshl hK (by decide) dX6_tellBit_170 ?_
                  refine TT_cgJ (b := ((g151_26 62) 7) * 2) rfl ?_
                  refine TT_w64f (fun x171_31 hx31 => ?_)
                  refine TT_ldc2 hK lc_X6_75 dX6_tellBit_171 ?_
                  refine TT_mminl hK (lrm (by omega) (by omega)) (by decide) iw_X6_77 (by decide) (Nat.le_of_ble_eq_true rfl) ⟨by decide, by decide⟩ dX6_tellBit_174 ?_
                  refine pf_X6_49 hK (by decide) rfl dX6_tellBit_177 ?_
                  refine TT_hp (h' := setO g151_26 62 (fup (fup (g151_26 62) 5 x161_28) 7 (min x171_31 1099511627776))) (up_can (sOf_eq _ _ _) rfl (setO_same _ _ _ _)) ?_
                  have hT_32 : TY (setO g151_26 62 (fup (fup (g151_26 62) 5 x161_28) 7 (min x171_31 1099511627776))) := tu_62_7 hT_29 (show up (setO g151_26 62 (fup (g151_26 62) 5 x161_28)) 62 7 (min x171_31 1099511627776) = (setO g151_26 62 (fup (fup (g151_26 62) 5 x161_28) 7 (min x171_31 1099511627776))) from up_can (sOf_eq _ _ _) rfl (setO_same _ _ _ _)) (by omega)
                  have hF_32 : FR [62, 64, 65] h (setO g151_26 62 (fup (fup (g151_26 62) 5 x161_28) 7 (min x171_31 1099511627776))) := FR_up (show up (setO g151_26 62 (fup (g151_26 62) 5 x161_28)) 62 7 (min x171_31 1099511627776) = (setO g151_26 62 (fup (fup (g151_26 62) 5 x161_28) 7 (min x171_31 1099511627776))) from up_can (sOf_eq _ _ _) rfl (setO_same _ _ _ _)) hF_29 (by decide)
                  refine TT_aload_n hK rfl 0 rfl dX6_tellBit_180 ?_
                  refine TT_dup hK rfl dX6_tellBit_181 ?_
                  refine gf_X6_56 hK (by decide) rfl (v := (g151_26 62) 6) (rd_ (sOf_eq _ _ _) ((fup_ne _ _ (by decide)).trans (fup_ne _ _ (by decide)))) dX6_tellBit_182 ?_
                  have r33 := ty_62_6 (v := (g151_26 62) 6) hT_32 (rd_ (sOf_eq _ _ _) ((fup_ne _ _ (by decide)).trans (fup_ne _ _ (by decide))))
                  refine TT_iconst hK dX6_tellBit_185 ?_
                  refine TT_isub hK dX6_tellBit_186 ?_
                  refine pf_X6_56 hK (by decide) rfl dX6_tellBit_187 ?_
                  refine TT_hp (h' := setO g151_26 62 (fup (fup (fup (g151_26 62) 5 x161_28) 6 (((g151_26 62) 6) - 1)) 7 (min x171_31 1099511627776))) (up_can (sOf_eq _ _ _) (fup_comm _ _ _ (by decide)) (setO_same _ _ _ _)) ?_
                  have hT_34 : TY (setO g151_26 62 (fup (fup (fup (g151_26 62) 5 x161_28) 6 (((g151_26 62) 6) - 1)) 7 (min x171_31 1099511627776))) := tu_62_6 hT_32 (show up (setO g151_26 62 (fup (fup (g151_26 62) 5 x161_28) 7 (min x171_31 1099511627776))) 62 6 (((g151_26 62) 6) - 1) = (setO g151_26 62 (fup (fup (fup (g151_26 62) 5 x161_28) 6 (((g151_26 62) 6) - 1)) 7 (min x171_31 1099511627776))) from up_can (sOf_eq _ _ _) (fup_comm _ _ _ (by decide)) (setO_same _ _ _ _)) (by omega)
                  have hF_34 : FR [62, 64, 65] h (setO g151_26 62 (fup (fup (fup (g151_26 62) 5 x161_28) 6 (((g151_26 62) 6) - 1)) 7 (min x171_31 1099511627776))) := FR_up (show up (setO g151_26 62 (fup (fup (g151_26 62) 5 x161_28) 7 (min x171_31 1099511627776))) 62 6 (((g151_26 62) 6) - 1) = (setO g151_26 62 (fup (fup (fup (g151_26 62) 5 x161_28) 6 (((g151_26 62) 6) - 1)) 7 (min x171_31 1099511627776))) from up_can (sOf_eq _ _ _) (fup_comm _ _ _ (by decide)) (setO_same _ _ _ _)) hF_32 (by decide)
                  refine TT_iinc hK (v := k + 1) (lv' := [(6, vI (k + 1)), (0, vR 62), (1, vI x), (5, vI b9)]) 3 rfl rfl (by decide) rfl dX6_tellBit_190 ?_
                  refine TT_goto hK (tgt := 127) dX6_tellBit_193 (by decide) ?_
                  refine TT_sub [1, 2, 3, 0] rfl ?_
                  exact ih14 (k + 1) b9 (setO g151_26 62 (fup (fup (fup (g151_26 62) 5 x161_28) 6 (((g151_26 62) 6) - 1)) 7 (min x171_31 1099511627776))) hT_34 hF_34 (by first | omega | (simp [up, setR] <;> omega)) (by first | omega | (simp [up, setR] <;> omega)) (by first | omega | (simp [up, setR] <;> omega))
        refine TT_sub [4, 5, 1, 0] rfl ?_
        exact L127_14 ((((15 : Int) - 0).toNat) + 1) 0 z14_2 g121_13 hT_13 hF_13 (by first | omega | (simp [up, setR] <;> omega)) (by first | omega | (simp [up, setR] <;> omega)) (Nat.lt_succ_self _)
      · refine TT_iconst hK dX6_tellBit_103 ?_
        refine TT_iload hK 0 rfl dX6_tellBit_104 ?_
        refine TT_isub hK dX6_tellBit_106 ?_
        refine TT_goto hK (tgt := 112) dX6_tellBit_107 (by decide) ?_
        refine TT_istore hK (lv' := [(5, vI (1 - z14_2)), (4, vI z14_2), (3, vI z5_1), (0, vR 62), (1, vI x), (2, vI b)]) (by decide) rfl dX6_tellBit_112 ?_
        refine TT_aload_n hK rfl 3 rfl dX6_tellBit_114 ?_
        refine gf_X6_12 hK (by decide) rfl (q := 63) rfl rfl dX6_tellBit_115 ?_
        refine TT_iload_n hK rfl 4 rfl dX6_tellBit_118 ?_
        refine TT_iload hK 0 rfl dX6_tellBit_119 ?_
        refine iv_X6_71 hK (s_X2_learn_63 x (1 - z14_2) (setO g14_2 62 (fup (fup (h 62) 5 x26_4) 7 x80_8)) hT_9 (by first | omega | (simp [up, setR] <;> omega)) (by first | omega | (simp [up, setR] <;> omega))) (by decide) rfl ⟨by decide, by decide⟩ (by decide) rfl rfl (Nat.le_of_ble_eq_true rfl) ⟨by decide, by decide⟩ dX6_tellBit_121 ?_
        intro r9 g121_35 hp9
        obtain ⟨⟨hT_35, hG_35⟩, hr9⟩ := hp9
        rw [hr9]
        have hF_35 : FR [62, 64, 65] h g121_35 := FR_tr hF_9 hG_35 (by decide)
        show TT K ly 0 0 124 [(5, vI (1 - z14_2)), (4, vI z14_2), (3, vI z5_1), (0, vR 62), (1, vI x), (2, vI b)] [] g121_35
        refine TT_iconst hK dX6_tellBit_124 ?_
        refine TT_istore hK (lv' := [(6, vI 0), (5, vI (1 - z14_2)), (4, vI z14_2), (3, vI z5_1), (0, vR 62), (1, vI x), (2, vI b)]) (by decide) rfl dX6_tellBit_125 ?_
        have L127_36 : ∀ (k36 : Nat) (k : Int) (b9 : Int) (w127_36 : Hp_), TY w127_36 → FR [62, 64, 65] h w127_36 → (0 ≤ k ∧ k ≤ 15) → (0 ≤ b9 ∧ b9 ≤ 1) → ((15 : Int) - k).toNat < k36 → TT K ly 0 0 127 [(0, vR 62), (1, vI x), (5, vI b9), (6, vI k)] [] w127_36 := by
          intro k36
          induction k36 with
          | zero => intro k b9 w127_36 hT127_36 hF127_36 hk hb9 hk36; exact absurd hk36 (Nat.not_lt_zero _)
          | succ k36 ih36 =>
            intro k b9 w127_36 hT127_36 hF127_36 hk hb9 hk36
            refine TT_iload hK 3 rfl dX6_tellBit_127 ?_
            refine TT_bipush hK (by decide) dX6_tellBit_129 ?_
            refine TT_icmp_ge hK (tgt := 196) (irm (by omega) (by omega)) (by decide) dX6_tellBit_131 (by decide) (fun hb131_37 => ?_) (fun hb131_37 => ?_)
            · refine TT_iload hK 2 rfl dX6_tellBit_196 ?_
              refine TT_iret hK hQ ?_ dX6_tellBit_198
              exact ⟨⟨hT127_36, hF127_36⟩, b9, rfl, (by omega)⟩
            · refine TT_aload_n hK rfl 0 rfl dX6_tellBit_134 ?_
              refine gf_X6_60 hK (by decide) rfl (v := (w127_36 62) 5) rfl dX6_tellBit_135 ?_
              have r38 := ty_62_5 (v := (w127_36 62) 5) hT127_36 rfl
              refine TT_ldc hK lc_X6_59 dX6_tellBit_138 ?_
              refine TT_icmp_ge hK (tgt := 196) (irm (by omega) (by omega)) (by decide) dX6_tellBit_140 (by decide) (fun hb140_39 => ?_) (fun hb140_39 => ?_)
              · refine TT_iload hK 2 rfl dX6_tellBit_196 ?_
                refine TT_iret hK hQ ?_ dX6_tellBit_198
                exact ⟨⟨hT127_36, hF127_36⟩, b9, rfl, (by omega)⟩
              · refine TT_aload_n hK rfl 0 rfl dX6_tellBit_143 ?_
                refine gf_X6_56 hK (by decide) rfl (v := (w127_36 62) 6) rfl dX6_tellBit_144 ?_
                have r40 := ty_62_6 (v := (w127_36 62) 6) hT127_36 rfl
                refine TT_if_ne hK (tgt := 154) (irm (by omega) (by omega)) dX6_tellBit_147 (by decide) (fun hb147_41 => ?_) (fun hb147_41 => ?_)
                · refine TT_aload_n hK rfl 0 rfl dX6_tellBit_154 ?_
                  refine TT_dup hK rfl dX6_tellBit_155 ?_
                  refine gf_X6_60 hK (by decide) rfl (v := (w127_36 62) 5) rfl dX6_tellBit_156 ?_
                  refine TT_iconst hK dX6_tellBit_159 ?_
                  refine TT_ishl hK (by omega) (by omega) dX6_tellBit_160 ?_
                  refine TT_cgI (b := ((w127_36 62) 5) * 2) rfl ?_
                  refine TT_w32 (fun x161_42 hx42 => ?_)
                  refine pf_X6_60 hK (by decide) rfl dX6_tellBit_161 ?_
                  refine TT_hp (h' := setO w127_36 62 (fup (w127_36 62) 5 x161_42)) (up_can rfl rfl rfl) ?_
                  have hT_43 : TY (setO w127_36 62 (fup (w127_36 62) 5 x161_42)) := tu_62_5 hT127_36 (show up w127_36 62 5 x161_42 = (setO w127_36 62 (fup (w127_36 62) 5 x161_42)) from up_can rfl rfl rfl) (by omega)
                  have hF_43 : FR [62, 64, 65] h (setO w127_36 62 (fup (w127_36 62) 5 x161_42)) := FR_up (show up w127_36 62 5 x161_42 = (setO w127_36 62 (fup (w127_36 62) 5 x161_42)) from up_can rfl rfl rfl) hF127_36 (by decide)
                  refine TT_aload_n hK rfl 0 rfl dX6_tellBit_164 ?_
                  refine TT_aload_n hK rfl 0 rfl dX6_tellBit_165 ?_
                  refine gf_X6_49 hK (by decide) rfl (v := (w127_36 62) 7) (rd_ (sOf_eq _ _ _) (fup_ne _ _ (by decide))) dX6_tellBit_166 ?_
                  have r44 := ty_62_7 (v := (w127_36 62) 7) hT_43 (rd_ (sOf_eq _ _ _) (fup_ne _ _ (by decide)))
                  refine TT_iconst hK dX6_tellBit_169 ?_
                  refine TT_lshl hK (by decide) dX6_tellBit_170 ?_
                  refine TT_cgJ (b := ((w127_36 62) 7) * 2) rfl ?_
                  refine TT_w64f (fun x171_45 hx45 => ?_)
                  refine TT_ldc2 hK lc_X6_75 dX6_tellBit_171 ?_
                  refine TT_mminl hK (lrm (by omega) (by omega)) (by decide) iw_X6_77 (by decide) (Nat.le_of_ble_eq_true rfl) ⟨by decide, by decide⟩ dX6_tellBit_174 ?_
                  refine pf_X6_49 hK (by decide) rfl dX6_tellBit_177 ?_
                  refine TT_hp (h' := setO w127_36 62 (fup (fup (w127_36 62) 5 x161_42) 7 (min x171_45 1099511627776))) (up_can (sOf_eq _ _ _) rfl (setO_same _ _ _ _)) ?_
                  have hT_46 : TY (setO w127_36 62 (fup (fup (w127_36 62) 5 x161_42) 7 (min x171_45 1099511627776))) := tu_62_7 hT_43 (show up (setO w127_36 62 (fup (w127_36 62) 5 x161_42)) 62 7 (min x171_45 1099511627776) = (setO w127_36 62 (fup (fup (w127_36 62) 5 x161_42) 7 (min x171_45 1099511627776))) from up_can (sOf_eq _ _ _) rfl (setO_same _ _ _ _)) (by omega)
                  have hF_46 : FR [62, 64, 65] h (setO w127_36 62 (fup (fup (w127_36 62) 5 x161_42) 7 (min x171_45 1099511627776))) := FR_up (show up (setO w127_36 62 (fup (w127_36 62) 5 x161_42)) 62 7 (min x171_45 1099511627776) = (setO w127_36 62 (fup (fup (w127_36 62) 5 x161_42) 7 (min x171_45 1099511627776))) from up_can (sOf_eq _ _ _) rfl (setO_same _ _ _ _)) hF_43 (by decide)
                  refine TT_aload_n hK rfl 0 rfl dX6_tellBit_180 ?_
                  refine TT_dup hK rfl dX6_tellBit_181 ?_
                  refine gf_X6_56 hK (by decide) rfl (v := (w127_36 62) 6) (rd_ (sOf_eq _ _ _) ((fup_ne _ _ (by decide)).trans (fup_ne _ _ (by decide)))) dX6_tellBit_182 ?_
                  refine TT_iconst hK dX6_tellBit_185 ?_
                  refine TT_isub hK dX6_tellBit_186 ?_
                  refine pf_X6_56 hK (by decide) rfl dX6_tellBit_187 ?_
                  refine TT_hp (h' := setO w127_36 62 (fup (fup (fup (w127_36 62) 5 x161_42) 6 (((w127_36 62) 6) - 1)) 7 (min x171_45 1099511627776))) (up_can (sOf_eq _ _ _) (fup_comm _ _ _ (by decide)) (setO_same _ _ _ _)) ?_
                  have hT_47 : TY (setO w127_36 62 (fup (fup (fup (w127_36 62) 5 x161_42) 6 (((w127_36 62) 6) - 1)) 7 (min x171_45 1099511627776))) := tu_62_6 hT_46 (show up (setO w127_36 62 (fup (fup (w127_36 62) 5 x161_42) 7 (min x171_45 1099511627776))) 62 6 (((w127_36 62) 6) - 1) = (setO w127_36 62 (fup (fup (fup (w127_36 62) 5 x161_42) 6 (((w127_36 62) 6) - 1)) 7 (min x171_45 1099511627776))) from up_can (sOf_eq _ _ _) (fup_comm _ _ _ (by decide)) (setO_same _ _ _ _)) (by omega)
                  have hF_47 : FR [62, 64, 65] h (setO w127_36 62 (fup (fup (fup (w127_36 62) 5 x161_42) 6 (((w127_36 62) 6) - 1)) 7 (min x171_45 1099511627776))) := FR_up (show up (setO w127_36 62 (fup (fup (w127_36 62) 5 x161_42) 7 (min x171_45 1099511627776))) 62 6 (((w127_36 62) 6) - 1) = (setO w127_36 62 (fup (fup (fup (w127_36 62) 5 x161_42) 6 (((w127_36 62) 6) - 1)) 7 (min x171_45 1099511627776))) from up_can (sOf_eq _ _ _) (fup_comm _ _ _ (by decide)) (setO_same _ _ _ _)) hF_46 (by decide)
                  refine TT_iinc hK (v := k + 1) (lv' := [(6, vI (k + 1)), (0, vR 62), (1, vI x), (5, vI b9)]) 3 rfl rfl (by decide) rfl dX6_tellBit_190 ?_
                  refine TT_goto hK (tgt := 127) dX6_tellBit_193 (by decide) ?_
                  refine TT_sub [1, 2, 3, 0] rfl ?_
                  exact ih36 (k + 1) b9 (setO w127_36 62 (fup (fup (fup (w127_36 62) 5 x161_42) 6 (((w127_36 62) 6) - 1)) 7 (min x171_45 1099511627776))) hT_47 hF_47 (by first | omega | (simp [up, setR] <;> omega)) (by first | omega | (simp [up, setR] <;> omega)) (by first | omega | (simp [up, setR] <;> omega))
                · refine TT_aload_n hK rfl 0 rfl dX6_tellBit_150 ?_
                  refine iv_X6_53 hK (s_X6_comeIn_62 w127_36 hT127_36 ) (by decide) rfl ⟨by decide, by decide⟩ (by decide) rfl rfl (Nat.le_of_ble_eq_true rfl) ⟨by decide, by decide⟩ dX6_tellBit_151 ?_
                  intro r9 g151_48 hp9
                  obtain ⟨⟨hT_48, hG_48⟩, hr9, p1_48⟩ := hp9
                  rw [hr9]
                  have hF_48 : FR [62, 64, 65] h g151_48 := FR_tr hF127_36 hG_48 (by decide)
                  show TT K ly 0 0 154 [(0, vR 62), (1, vI x), (5, vI b9), (6, vI k)] [] g151_48
                  refine TT_aload_n hK rfl 0 rfl dX6_tellBit_154 ?_
                  refine TT_dup hK rfl dX6_tellBit_155 ?_
                  refine gf_X6_60 hK (by decide) rfl (v := (g151_48 62) 5) rfl dX6_tellBit_156 ?_
                  have r49 := ty_62_5 (v := (g151_48 62) 5) hT_48 rfl
                  refine TT_iconst hK dX6_tellBit_159 ?_
                  refine TT_ishl hK (by omega) (by omega) dX6_tellBit_160 ?_
                  refine TT_cgI (b := ((g151_48 62) 5) * 2) rfl ?_
                  refine TT_w32 (fun x161_50 hx50 => ?_)
                  refine pf_X6_60 hK (by decide) rfl dX6_tellBit_161 ?_
                  refine TT_hp (h' := setO g151_48 62 (fup (g151_48 62) 5 x161_50)) (up_can rfl rfl rfl) ?_
                  have hT_51 : TY (setO g151_48 62 (fup (g151_48 62) 5 x161_50)) := tu_62_5 hT_48 (show up g151_48 62 5 x161_50 = (setO g151_48 62 (fup (g151_48 62) 5 x161_50)) from up_can rfl rfl rfl) (by omega)
                  have hF_51 : FR [62, 64, 65] h (setO g151_48 62 (fup (g151_48 62) 5 x161_50)) := FR_up (show up g151_48 62 5 x161_50 = (setO g151_48 62 (fup (g151_48 62) 5 x161_50)) from up_can rfl rfl rfl) hF_48 (by decide)
                  refine TT_aload_n hK rfl 0 rfl dX6_tellBit_164 ?_
                  refine TT_aload_n hK rfl 0 rfl dX6_tellBit_165 ?_
                  refine gf_X6_49 hK (by decide) rfl (v := (g151_48 62) 7) (rd_ (sOf_eq _ _ _) (fup_ne _ _ (by decide))) dX6_tellBit_166 ?_
                  have r52 := ty_62_7 (v := (g151_48 62) 7) hT_51 (rd_ (sOf_eq _ _ _) (fup_ne _ _ (by decide)))
                  refine TT_iconst hK dX6_tellBit_169 ?_
                  refine TT_lshl hK (by decide) dX6_tellBit_170 ?_
                  refine TT_cgJ (b := ((g151_48 62) 7) * 2) rfl ?_
                  refine TT_w64f (fun x171_53 hx53 => ?_)
                  refine TT_ldc2 hK lc_X6_75 dX6_tellBit_171 ?_
                  refine TT_mminl hK (lrm (by omega) (by omega)) (by decide) iw_X6_77 (by decide) (Nat.le_of_ble_eq_true rfl) ⟨by decide, by decide⟩ dX6_tellBit_174 ?_
                  refine pf_X6_49 hK (by decide) rfl dX6_tellBit_177 ?_
                  refine TT_hp (h' := setO g151_48 62 (fup (fup (g151_48 62) 5 x161_50) 7 (min x171_53 1099511627776))) (up_can (sOf_eq _ _ _) rfl (setO_same _ _ _ _)) ?_
                  have hT_54 : TY (setO g151_48 62 (fup (fup (g151_48 62) 5 x161_50) 7 (min x171_53 1099511627776))) := tu_62_7 hT_51 (show up (setO g151_48 62 (fup (g151_48 62) 5 x161_50)) 62 7 (min x171_53 1099511627776) = (setO g151_48 62 (fup (fup (g151_48 62) 5 x161_50) 7 (min x171_53 1099511627776))) from up_can (sOf_eq _ _ _) rfl (setO_same _ _ _ _)) (by omega)
                  have hF_54 : FR [62, 64, 65] h (setO g151_48 62 (fup (fup (g151_48 62) 5 x161_50) 7 (min x171_53 1099511627776))) := FR_up (show up (setO g151_48 62 (fup (g151_48 62) 5 x161_50)) 62 7 (min x171_53 1099511627776) = (setO g151_48 62 (fup (fup (g151_48 62) 5 x161_50) 7 (min x171_53 1099511627776))) from up_can (sOf_eq _ _ _) rfl (setO_same _ _ _ _)) hF_51 (by decide)
                  refine TT_aload_n hK rfl 0 rfl dX6_tellBit_180 ?_
                  refine TT_dup hK rfl dX6_tellBit_181 ?_
                  refine gf_X6_56 hK (by decide) rfl (v := (g151_48 62) 6) (rd_ (sOf_eq _ _ _) ((fup_ne _ _ (by decide)).trans (fup_ne _ _ (by decide)))) dX6_tellBit_182 ?_
                  have r55 := ty_62_6 (v := (g151_48 62) 6) hT_54 (rd_ (sOf_eq _ _ _) ((fup_ne _ _ (by decide)).trans (fup_ne _ _ (by decide))))
                  refine TT_iconst hK dX6_tellBit_185 ?_
                  refine TT_isub hK dX6_tellBit_186 ?_
                  refine pf_X6_56 hK (by decide) rfl dX6_tellBit_187 ?_
                  refine TT_hp (h' := setO g151_48 62 (fup (fup (fup (g151_48 62) 5 x161_50) 6 (((g151_48 62) 6) - 1)) 7 (min x171_53 1099511627776))) (up_can (sOf_eq _ _ _) (fup_comm _ _ _ (by decide)) (setO_same _ _ _ _)) ?_
                  have hT_56 : TY (setO g151_48 62 (fup (fup (fup (g151_48 62) 5 x161_50) 6 (((g151_48 62) 6) - 1)) 7 (min x171_53 1099511627776))) := tu_62_6 hT_54 (show up (setO g151_48 62 (fup (fup (g151_48 62) 5 x161_50) 7 (min x171_53 1099511627776))) 62 6 (((g151_48 62) 6) - 1) = (setO g151_48 62 (fup (fup (fup (g151_48 62) 5 x161_50) 6 (((g151_48 62) 6) - 1)) 7 (min x171_53 1099511627776))) from up_can (sOf_eq _ _ _) (fup_comm _ _ _ (by decide)) (setO_same _ _ _ _)) (by omega)
                  have hF_56 : FR [62, 64, 65] h (setO g151_48 62 (fup (fup (fup (g151_48 62) 5 x161_50) 6 (((g151_48 62) 6) - 1)) 7 (min x171_53 1099511627776))) := FR_up (show up (setO g151_48 62 (fup (fup (g151_48 62) 5 x161_50) 7 (min x171_53 1099511627776))) 62 6 (((g151_48 62) 6) - 1) = (setO g151_48 62 (fup (fup (fup (g151_48 62) 5 x161_50) 6 (((g151_48 62) 6) - 1)) 7 (min x171_53 1099511627776))) from up_can (sOf_eq _ _ _) (fup_comm _ _ _ (by decide)) (setO_same _ _ _ _)) hF_54 (by decide)
                  refine TT_iinc hK (v := k + 1) (lv' := [(6, vI (k + 1)), (0, vR 62), (1, vI x), (5, vI b9)]) 3 rfl rfl (by decide) rfl dX6_tellBit_190 ?_
                  refine TT_goto hK (tgt := 127) dX6_tellBit_193 (by decide) ?_
                  refine TT_sub [1, 2, 3, 0] rfl ?_
                  exact ih36 (k + 1) b9 (setO g151_48 62 (fup (fup (fup (g151_48 62) 5 x161_50) 6 (((g151_48 62) 6) - 1)) 7 (min x171_53 1099511627776))) hT_56 hF_56 (by first | omega | (simp [up, setR] <;> omega)) (by first | omega | (simp [up, setR] <;> omega)) (by first | omega | (simp [up, setR] <;> omega))
        refine TT_sub [4, 5, 1, 0] rfl ?_
        exact L127_36 ((((15 : Int) - 0).toNat) + 1) 0 (1 - z14_2) g121_35 hT_35 hF_35 (by first | omega | (simp [up, setR] <;> omega)) (by first | omega | (simp [up, setR] <;> omega)) (Nat.lt_succ_self _)
    · refine TT_iload hK 0 rfl dX6_tellBit_92 ?_
      refine TT_iret hK hQ ?_ dX6_tellBit_94
      exact ⟨⟨hT_9, hF_9⟩, z14_2, rfl, (by omega)⟩
  · have hb39_7 := lcmp_lt hb39_7
    refine TT_aload_n hK rfl 2 rfl dX6_tellBit_42 ?_
    refine gf_X6_60 hK (by decide) rfl (v := x26_4) (rd_ (sOf_eq _ _ _) (fup_eq _ _ _)) dX6_tellBit_43 ?_
    have r57 := ty_62_5 (v := x26_4) hT_5 (rd_ (sOf_eq _ _ _) (fup_eq _ _ _))
    refine TT_iload_n hK rfl 1 rfl dX6_tellBit_46 ?_
    refine TT_icmp_ge hK (tgt := 55) (irm (by omega) (by omega)) (irm (by omega) (by omega)) dX6_tellBit_47 (by decide) (fun hb47_58 => ?_) (fun hb47_58 => ?_)
    · refine TT_iconst hK dX6_tellBit_55 ?_
      refine TT_iload hK 0 rfl dX6_tellBit_56 ?_
      refine TT_isub hK dX6_tellBit_58 ?_
      refine TT_istore hK (lv' := [(5, vI (1 - z14_2)), (4, vI z14_2), (3, vI z5_1), (0, vR 62), (1, vI x), (2, vI b)]) (by decide) rfl dX6_tellBit_59 ?_
      refine TT_aload_n hK rfl 3 rfl dX6_tellBit_61 ?_
      refine TT_iload_n hK rfl 2 rfl dX6_tellBit_62 ?_
      refine pf_X6_60 hK (by decide) rfl dX6_tellBit_63 ?_
      refine TT_hp (h' := setO g14_2 62 (fup (h 62) 5 z5_1)) (up_can (sOf_eq _ _ _) (fup_same _ _ _ _) (setO_same _ _ _ _)) ?_
      have hT_59 : TY (setO g14_2 62 (fup (h 62) 5 z5_1)) := tu_62_5 hT_5 (show up (setO g14_2 62 (fup (h 62) 5 x26_4)) 62 5 z5_1 = (setO g14_2 62 (fup (h 62) 5 z5_1)) from up_can (sOf_eq _ _ _) (fup_same _ _ _ _) (setO_same _ _ _ _)) (by omega)
      have hF_59 : FR [62, 64, 65] h (setO g14_2 62 (fup (h 62) 5 z5_1)) := FR_up (show up (setO g14_2 62 (fup (h 62) 5 x26_4)) 62 5 z5_1 = (setO g14_2 62 (fup (h 62) 5 z5_1)) from up_can (sOf_eq _ _ _) (fup_same _ _ _ _) (setO_same _ _ _ _)) hF_5 (by decide)
      refine TT_goto hK (tgt := 114) dX6_tellBit_66 (by decide) ?_
      refine TT_aload_n hK rfl 3 rfl dX6_tellBit_114 ?_
      refine gf_X6_12 hK (by decide) rfl (q := 63) rfl rfl dX6_tellBit_115 ?_
      refine TT_iload_n hK rfl 4 rfl dX6_tellBit_118 ?_
      refine TT_iload hK 0 rfl dX6_tellBit_119 ?_
      refine iv_X6_71 hK (s_X2_learn_63 x (1 - z14_2) (setO g14_2 62 (fup (h 62) 5 z5_1)) hT_59 (by first | omega | (simp [up, setR] <;> omega)) (by first | omega | (simp [up, setR] <;> omega))) (by decide) rfl ⟨by decide, by decide⟩ (by decide) rfl rfl (Nat.le_of_ble_eq_true rfl) ⟨by decide, by decide⟩ dX6_tellBit_121 ?_
      intro r9 g121_60 hp9
      obtain ⟨⟨hT_60, hG_60⟩, hr9⟩ := hp9
      rw [hr9]
      have hF_60 : FR [62, 64, 65] h g121_60 := FR_tr hF_59 hG_60 (by decide)
      show TT K ly 0 0 124 [(5, vI (1 - z14_2)), (4, vI z14_2), (3, vI z5_1), (0, vR 62), (1, vI x), (2, vI b)] [] g121_60
      refine TT_iconst hK dX6_tellBit_124 ?_
      refine TT_istore hK (lv' := [(6, vI 0), (5, vI (1 - z14_2)), (4, vI z14_2), (3, vI z5_1), (0, vR 62), (1, vI x), (2, vI b)]) (by decide) rfl dX6_tellBit_125 ?_
      have L127_61 : ∀ (k61 : Nat) (k : Int) (b9 : Int) (w127_61 : Hp_), TY w127_61 → FR [62, 64, 65] h w127_61 → (0 ≤ k ∧ k ≤ 15) → (0 ≤ b9 ∧ b9 ≤ 1) → ((15 : Int) - k).toNat < k61 → TT K ly 0 0 127 [(0, vR 62), (1, vI x), (5, vI b9), (6, vI k)] [] w127_61 := by
        intro k61
        induction k61 with
        | zero => intro k b9 w127_61 hT127_61 hF127_61 hk hb9 hk61; exact absurd hk61 (Nat.not_lt_zero _)
        | succ k61 ih61 =>
          intro k b9 w127_61 hT127_61 hF127_61 hk hb9 hk61
          refine TT_iload hK 3 rfl dX6_tellBit_127 ?_
          refine TT_bipush hK (by decide) dX6_tellBit_129 ?_
          refine TT_icmp_ge hK (tgt := 196) (irm (by omega) (by omega)) (by decide) dX6_tellBit_131 (by decide) (fun hb131_62 => ?_) (fun hb131_62 => ?_)
          · refine TT_iload hK 2 rfl dX6_tellBit_196 ?_
            refine TT_iret hK hQ ?_ dX6_tellBit_198
            exact ⟨⟨hT127_61, hF127_61⟩, b9, rfl, (by omega)⟩
          · refine TT_aload_n hK rfl 0 rfl dX6_tellBit_134 ?_
            refine gf_X6_60 hK (by decide) rfl (v := (w127_61 62) 5) rfl dX6_tellBit_135 ?_
            have r63 := ty_62_5 (v := (w127_61 62) 5) hT127_61 rfl
            refine TT_ldc hK lc_X6_59 dX6_tellBit_138 ?_
            refine TT_icmp_ge hK (tgt := 196) (irm (by omega) (by omega)) (by decide) dX6_tellBit_140 (by decide) (fun hb140_64 => ?_) (fun hb140_64 => ?_)
            · refine TT_iload hK 2 rfl dX6_tellBit_196 ?_
              refine TT_iret hK hQ ?_ dX6_tellBit_198
              exact ⟨⟨hT127_61, hF127_61⟩, b9, rfl, (by omega)⟩
            · refine TT_aload_n hK rfl 0 rfl dX6_tellBit_143 ?_
              refine gf_X6_56 hK (by decide) rfl (v := (w127_61 62) 6) rfl dX6_tellBit_144 ?_
              have r65 := ty_62_6 (v := (w127_61 62) 6) hT127_61 rfl
              refine TT_if_ne hK (tgt := 154) (irm (by omega) (by omega)) dX6_tellBit_147 (by decide) (fun hb147_66 => ?_) (fun hb147_66 => ?_)
              · refine TT_aload_n hK rfl 0 rfl dX6_tellBit_154 ?_
                refine TT_dup hK rfl dX6_tellBit_155 ?_
                refine gf_X6_60 hK (by decide) rfl (v := (w127_61 62) 5) rfl dX6_tellBit_156 ?_
                refine TT_iconst hK dX6_tellBit_159 ?_
                refine TT_ishl hK (by omega) (by omega) dX6_tellBit_160 ?_
                refine TT_cgI (b := ((w127_61 62) 5) * 2) rfl ?_
                refine TT_w32 (fun x161_67 hx67 => ?_)
                refine pf_X6_60 hK (by decide) rfl dX6_tellBit_161 ?_
                refine TT_hp (h' := setO w127_61 62 (fup (w127_61 62) 5 x161_67)) (up_can rfl rfl rfl) ?_
                have hT_68 : TY (setO w127_61 62 (fup (w127_61 62) 5 x161_67)) := tu_62_5 hT127_61 (show up w127_61 62 5 x161_67 = (setO w127_61 62 (fup (w127_61 62) 5 x161_67)) from up_can rfl rfl rfl) (by omega)
                have hF_68 : FR [62, 64, 65] h (setO w127_61 62 (fup (w127_61 62) 5 x161_67)) := FR_up (show up w127_61 62 5 x161_67 = (setO w127_61 62 (fup (w127_61 62) 5 x161_67)) from up_can rfl rfl rfl) hF127_61 (by decide)
                refine TT_aload_n hK rfl 0 rfl dX6_tellBit_164 ?_
                refine TT_aload_n hK rfl 0 rfl dX6_tellBit_165 ?_
                refine gf_X6_49 hK (by decide) rfl (v := (w127_61 62) 7) (rd_ (sOf_eq _ _ _) (fup_ne _ _ (by decide))) dX6_tellBit_166 ?_
                have r69 := ty_62_7 (v := (w127_61 62) 7) hT_68 (rd_ (sOf_eq _ _ _) (fup_ne _ _ (by decide)))
                refine TT_iconst hK dX6_tellBit_169 ?_
                refine TT_lshl hK (by decide) dX6_tellBit_170 ?_
                refine TT_cgJ (b := ((w127_61 62) 7) * 2) rfl ?_
                refine TT_w64f (fun x171_70 hx70 => ?_)
                refine TT_ldc2 hK lc_X6_75 dX6_tellBit_171 ?_
                refine TT_mminl hK (lrm (by omega) (by omega)) (by decide) iw_X6_77 (by decide) (Nat.le_of_ble_eq_true rfl) ⟨by decide, by decide⟩ dX6_tellBit_174 ?_
                refine pf_X6_49 hK (by decide) rfl dX6_tellBit_177 ?_
                refine TT_hp (h' := setO w127_61 62 (fup (fup (w127_61 62) 5 x161_67) 7 (min x171_70 1099511627776))) (up_can (sOf_eq _ _ _) rfl (setO_same _ _ _ _)) ?_
                have hT_71 : TY (setO w127_61 62 (fup (fup (w127_61 62) 5 x161_67) 7 (min x171_70 1099511627776))) := tu_62_7 hT_68 (show up (setO w127_61 62 (fup (w127_61 62) 5 x161_67)) 62 7 (min x171_70 1099511627776) = (setO w127_61 62 (fup (fup (w127_61 62) 5 x161_67) 7 (min x171_70 1099511627776))) from up_can (sOf_eq _ _ _) rfl (setO_same _ _ _ _)) (by omega)
                have hF_71 : FR [62, 64, 65] h (setO w127_61 62 (fup (fup (w127_61 62) 5 x161_67) 7 (min x171_70 1099511627776))) := FR_up (show up (setO w127_61 62 (fup (w127_61 62) 5 x161_67)) 62 7 (min x171_70 1099511627776) = (setO w127_61 62 (fup (fup (w127_61 62) 5 x161_67) 7 (min x171_70 1099511627776))) from up_can (sOf_eq _ _ _) rfl (setO_same _ _ _ _)) hF_68 (by decide)
                refine TT_aload_n hK rfl 0 rfl dX6_tellBit_180 ?_
                refine TT_dup hK rfl dX6_tellBit_181 ?_
                refine gf_X6_56 hK (by decide) rfl (v := (w127_61 62) 6) (rd_ (sOf_eq _ _ _) ((fup_ne _ _ (by decide)).trans (fup_ne _ _ (by decide)))) dX6_tellBit_182 ?_
                refine TT_iconst hK dX6_tellBit_185 ?_
                refine TT_isub hK dX6_tellBit_186 ?_
                refine pf_X6_56 hK (by decide) rfl dX6_tellBit_187 ?_
                refine TT_hp (h' := setO w127_61 62 (fup (fup (fup (w127_61 62) 5 x161_67) 6 (((w127_61 62) 6) - 1)) 7 (min x171_70 1099511627776))) (up_can (sOf_eq _ _ _) (fup_comm _ _ _ (by decide)) (setO_same _ _ _ _)) ?_
                have hT_72 : TY (setO w127_61 62 (fup (fup (fup (w127_61 62) 5 x161_67) 6 (((w127_61 62) 6) - 1)) 7 (min x171_70 1099511627776))) := tu_62_6 hT_71 (show up (setO w127_61 62 (fup (fup (w127_61 62) 5 x161_67) 7 (min x171_70 1099511627776))) 62 6 (((w127_61 62) 6) - 1) = (setO w127_61 62 (fup (fup (fup (w127_61 62) 5 x161_67) 6 (((w127_61 62) 6) - 1)) 7 (min x171_70 1099511627776))) from up_can (sOf_eq _ _ _) (fup_comm _ _ _ (by decide)) (setO_same _ _ _ _)) (by omega)
                have hF_72 : FR [62, 64, 65] h (setO w127_61 62 (fup (fup (fup (w127_61 62) 5 x161_67) 6 (((w127_61 62) 6) - 1)) 7 (min x171_70 1099511627776))) := FR_up (show up (setO w127_61 62 (fup (fup (w127_61 62) 5 x161_67) 7 (min x171_70 1099511627776))) 62 6 (((w127_61 62) 6) - 1) = (setO w127_61 62 (fup (fup (fup (w127_61 62) 5 x161_67) 6 (((w127_61 62) 6) - 1)) 7 (min x171_70 1099511627776))) from up_can (sOf_eq _ _ _) (fup_comm _ _ _ (by decide)) (setO_same _ _ _ _)) hF_71 (by decide)
                refine TT_iinc hK (v := k + 1) (lv' := [(6, vI (k + 1)), (0, vR 62), (1, vI x), (5, vI b9)]) 3 rfl rfl (by decide) rfl dX6_tellBit_190 ?_
                refine TT_goto hK (tgt := 127) dX6_tellBit_193 (by decide) ?_
                refine TT_sub [1, 2, 3, 0] rfl ?_
                exact ih61 (k + 1) b9 (setO w127_61 62 (fup (fup (fup (w127_61 62) 5 x161_67) 6 (((w127_61 62) 6) - 1)) 7 (min x171_70 1099511627776))) hT_72 hF_72 (by first | omega | (simp [up, setR] <;> omega)) (by first | omega | (simp [up, setR] <;> omega)) (by first | omega | (simp [up, setR] <;> omega))
              · refine TT_aload_n hK rfl 0 rfl dX6_tellBit_150 ?_
                refine iv_X6_53 hK (s_X6_comeIn_62 w127_61 hT127_61 ) (by decide) rfl ⟨by decide, by decide⟩ (by decide) rfl rfl (Nat.le_of_ble_eq_true rfl) ⟨by decide, by decide⟩ dX6_tellBit_151 ?_
                intro r9 g151_73 hp9
                obtain ⟨⟨hT_73, hG_73⟩, hr9, p1_73⟩ := hp9
                rw [hr9]
                have hF_73 : FR [62, 64, 65] h g151_73 := FR_tr hF127_61 hG_73 (by decide)
                show TT K ly 0 0 154 [(0, vR 62), (1, vI x), (5, vI b9), (6, vI k)] [] g151_73
                refine TT_aload_n hK rfl 0 rfl dX6_tellBit_154 ?_
                refine TT_dup hK rfl dX6_tellBit_155 ?_
                refine gf_X6_60 hK (by decide) rfl (v := (g151_73 62) 5) rfl dX6_tellBit_156 ?_
                have r74 := ty_62_5 (v := (g151_73 62) 5) hT_73 rfl
                refine TT_iconst hK dX6_tellBit_159 ?_
                refine TT_ishl hK (by omega) (by omega) dX6_tellBit_160 ?_
                refine TT_cgI (b := ((g151_73 62) 5) * 2) rfl ?_
                refine TT_w32 (fun x161_75 hx75 => ?_)
                refine pf_X6_60 hK (by decide) rfl dX6_tellBit_161 ?_
                refine TT_hp (h' := setO g151_73 62 (fup (g151_73 62) 5 x161_75)) (up_can rfl rfl rfl) ?_
                have hT_76 : TY (setO g151_73 62 (fup (g151_73 62) 5 x161_75)) := tu_62_5 hT_73 (show up g151_73 62 5 x161_75 = (setO g151_73 62 (fup (g151_73 62) 5 x161_75)) from up_can rfl rfl rfl) (by omega)
                have hF_76 : FR [62, 64, 65] h (setO g151_73 62 (fup (g151_73 62) 5 x161_75)) := FR_up (show up g151_73 62 5 x161_75 = (setO g151_73 62 (fup (g151_73 62) 5 x161_75)) from up_can rfl rfl rfl) hF_73 (by decide)
                refine TT_aload_n hK rfl 0 rfl dX6_tellBit_164 ?_
                refine TT_aload_n hK rfl 0 rfl dX6_tellBit_165 ?_
                refine gf_X6_49 hK (by decide) rfl (v := (g151_73 62) 7) (rd_ (sOf_eq _ _ _) (fup_ne _ _ (by decide))) dX6_tellBit_166 ?_
                have r77 := ty_62_7 (v := (g151_73 62) 7) hT_76 (rd_ (sOf_eq _ _ _) (fup_ne _ _ (by decide)))
                refine TT_iconst hK dX6_tellBit_169 ?_
                refine TT_lshl hK (by decide) dX6_tellBit_170 ?_
                refine TT_cgJ (b := ((g151_73 62) 7) * 2) rfl ?_
                refine TT_w64f (fun x171_78 hx78 => ?_)
                refine TT_ldc2 hK lc_X6_75 dX6_tellBit_171 ?_
                refine TT_mminl hK (lrm (by omega) (by omega)) (by decide) iw_X6_77 (by decide) (Nat.le_of_ble_eq_true rfl) ⟨by decide, by decide⟩ dX6_tellBit_174 ?_
                refine pf_X6_49 hK (by decide) rfl dX6_tellBit_177 ?_
                refine TT_hp (h' := setO g151_73 62 (fup (fup (g151_73 62) 5 x161_75) 7 (min x171_78 1099511627776))) (up_can (sOf_eq _ _ _) rfl (setO_same _ _ _ _)) ?_
                have hT_79 : TY (setO g151_73 62 (fup (fup (g151_73 62) 5 x161_75) 7 (min x171_78 1099511627776))) := tu_62_7 hT_76 (show up (setO g151_73 62 (fup (g151_73 62) 5 x161_75)) 62 7 (min x171_78 1099511627776) = (setO g151_73 62 (fup (fup (g151_73 62) 5 x161_75) 7 (min x171_78 1099511627776))) from up_can (sOf_eq _ _ _) rfl (setO_same _ _ _ _)) (by omega)
                have hF_79 : FR [62, 64, 65] h (setO g151_73 62 (fup (fup (g151_73 62) 5 x161_75) 7 (min x171_78 1099511627776))) := FR_up (show up (setO g151_73 62 (fup (g151_73 62) 5 x161_75)) 62 7 (min x171_78 1099511627776) = (setO g151_73 62 (fup (fup (g151_73 62) 5 x161_75) 7 (min x171_78 1099511627776))) from up_can (sOf_eq _ _ _) rfl (setO_same _ _ _ _)) hF_76 (by decide)
                refine TT_aload_n hK rfl 0 rfl dX6_tellBit_180 ?_
                refine TT_dup hK rfl dX6_tellBit_181 ?_
                refine gf_X6_56 hK (by decide) rfl (v := (g151_73 62) 6) (rd_ (sOf_eq _ _ _) ((fup_ne _ _ (by decide)).trans (fup_ne _ _ (by decide)))) dX6_tellBit_182 ?_
                have r80 := ty_62_6 (v := (g151_73 62) 6) hT_79 (rd_ (sOf_eq _ _ _) ((fup_ne _ _ (by decide)).trans (fup_ne _ _ (by decide))))
                refine TT_iconst hK dX6_tellBit_185 ?_
                refine TT_isub hK dX6_tellBit_186 ?_
                refine pf_X6_56 hK (by decide) rfl dX6_tellBit_187 ?_
                refine TT_hp (h' := setO g151_73 62 (fup (fup (fup (g151_73 62) 5 x161_75) 6 (((g151_73 62) 6) - 1)) 7 (min x171_78 1099511627776))) (up_can (sOf_eq _ _ _) (fup_comm _ _ _ (by decide)) (setO_same _ _ _ _)) ?_
                have hT_81 : TY (setO g151_73 62 (fup (fup (fup (g151_73 62) 5 x161_75) 6 (((g151_73 62) 6) - 1)) 7 (min x171_78 1099511627776))) := tu_62_6 hT_79 (show up (setO g151_73 62 (fup (fup (g151_73 62) 5 x161_75) 7 (min x171_78 1099511627776))) 62 6 (((g151_73 62) 6) - 1) = (setO g151_73 62 (fup (fup (fup (g151_73 62) 5 x161_75) 6 (((g151_73 62) 6) - 1)) 7 (min x171_78 1099511627776))) from up_can (sOf_eq _ _ _) (fup_comm _ _ _ (by decide)) (setO_same _ _ _ _)) (by omega)
                have hF_81 : FR [62, 64, 65] h (setO g151_73 62 (fup (fup (fup (g151_73 62) 5 x161_75) 6 (((g151_73 62) 6) - 1)) 7 (min x171_78 1099511627776))) := FR_up (show up (setO g151_73 62 (fup (fup (g151_73 62) 5 x161_75) 7 (min x171_78 1099511627776))) 62 6 (((g151_73 62) 6) - 1) = (setO g151_73 62 (fup (fup (fup (g151_73 62) 5 x161_75) 6 (((g151_73 62) 6) - 1)) 7 (min x171_78 1099511627776))) from up_can (sOf_eq _ _ _) (fup_comm _ _ _ (by decide)) (setO_same _ _ _ _)) hF_79 (by decide)
                refine TT_iinc hK (v := k + 1) (lv' := [(6, vI (k + 1)), (0, vR 62), (1, vI x), (5, vI b9)]) 3 rfl rfl (by decide) rfl dX6_tellBit_190 ?_
                refine TT_goto hK (tgt := 127) dX6_tellBit_193 (by decide) ?_
                refine TT_sub [1, 2, 3, 0] rfl ?_
                exact ih61 (k + 1) b9 (setO g151_73 62 (fup (fup (fup (g151_73 62) 5 x161_75) 6 (((g151_73 62) 6) - 1)) 7 (min x171_78 1099511627776))) hT_81 hF_81 (by first | omega | (simp [up, setR] <;> omega)) (by first | omega | (simp [up, setR] <;> omega)) (by first | omega | (simp [up, setR] <;> omega))
      refine TT_sub [4, 5, 1, 0] rfl ?_
      exact L127_61 ((((15 : Int) - 0).toNat) + 1) 0 (1 - z14_2) g121_60 hT_60 hF_60 (by first | omega | (simp [up, setR] <;> omega)) (by first | omega | (simp [up, setR] <;> omega)) (Nat.lt_succ_self _)
    · refine TT_iload hK 0 rfl dX6_tellBit_50 ?_
      refine TT_goto hK (tgt := 59) dX6_tellBit_52 (by decide) ?_
      refine TT_istore hK (lv' := [(5, vI z14_2), (4, vI z14_2), (3, vI z5_1), (0, vR 62), (1, vI x), (2, vI b)]) (by decide) rfl dX6_tellBit_59 ?_
      refine TT_aload_n hK rfl 3 rfl dX6_tellBit_61 ?_
      refine TT_iload_n hK rfl 2 rfl dX6_tellBit_62 ?_
      refine pf_X6_60 hK (by decide) rfl dX6_tellBit_63 ?_
      refine TT_hp (h' := setO g14_2 62 (fup (h 62) 5 z5_1)) (up_can (sOf_eq _ _ _) (fup_same _ _ _ _) (setO_same _ _ _ _)) ?_
      have hT_82 : TY (setO g14_2 62 (fup (h 62) 5 z5_1)) := tu_62_5 hT_5 (show up (setO g14_2 62 (fup (h 62) 5 x26_4)) 62 5 z5_1 = (setO g14_2 62 (fup (h 62) 5 z5_1)) from up_can (sOf_eq _ _ _) (fup_same _ _ _ _) (setO_same _ _ _ _)) (by omega)
      have hF_82 : FR [62, 64, 65] h (setO g14_2 62 (fup (h 62) 5 z5_1)) := FR_up (show up (setO g14_2 62 (fup (h 62) 5 x26_4)) 62 5 z5_1 = (setO g14_2 62 (fup (h 62) 5 z5_1)) from up_can (sOf_eq _ _ _) (fup_same _ _ _ _) (setO_same _ _ _ _)) hF_5 (by decide)
      refine TT_goto hK (tgt := 114) dX6_tellBit_66 (by decide) ?_
      refine TT_aload_n hK rfl 3 rfl dX6_tellBit_114 ?_
      refine gf_X6_12 hK (by decide) rfl (q := 63) rfl rfl dX6_tellBit_115 ?_
      refine TT_iload_n hK rfl 4 rfl dX6_tellBit_118 ?_
      refine TT_iload hK 0 rfl dX6_tellBit_119 ?_
      refine iv_X6_71 hK (s_X2_learn_63 x z14_2 (setO g14_2 62 (fup (h 62) 5 z5_1)) hT_82 (by first | omega | (simp [up, setR] <;> omega)) (by first | omega | (simp [up, setR] <;> omega))) (by decide) rfl ⟨by decide, by decide⟩ (by decide) rfl rfl (Nat.le_of_ble_eq_true rfl) ⟨by decide, by decide⟩ dX6_tellBit_121 ?_
      intro r9 g121_83 hp9
      obtain ⟨⟨hT_83, hG_83⟩, hr9⟩ := hp9
      rw [hr9]
      have hF_83 : FR [62, 64, 65] h g121_83 := FR_tr hF_82 hG_83 (by decide)
      show TT K ly 0 0 124 [(5, vI z14_2), (4, vI z14_2), (3, vI z5_1), (0, vR 62), (1, vI x), (2, vI b)] [] g121_83
      refine TT_iconst hK dX6_tellBit_124 ?_
      refine TT_istore hK (lv' := [(6, vI 0), (5, vI z14_2), (4, vI z14_2), (3, vI z5_1), (0, vR 62), (1, vI x), (2, vI b)]) (by decide) rfl dX6_tellBit_125 ?_
      have L127_84 : ∀ (k84 : Nat) (k : Int) (b9 : Int) (w127_84 : Hp_), TY w127_84 → FR [62, 64, 65] h w127_84 → (0 ≤ k ∧ k ≤ 15) → (0 ≤ b9 ∧ b9 ≤ 1) → ((15 : Int) - k).toNat < k84 → TT K ly 0 0 127 [(0, vR 62), (1, vI x), (5, vI b9), (6, vI k)] [] w127_84 := by
        intro k84
        induction k84 with
        | zero => intro k b9 w127_84 hT127_84 hF127_84 hk hb9 hk84; exact absurd hk84 (Nat.not_lt_zero _)
        | succ k84 ih84 =>
          intro k b9 w127_84 hT127_84 hF127_84 hk hb9 hk84
          refine TT_iload hK 3 rfl dX6_tellBit_127 ?_
          refine TT_bipush hK (by decide) dX6_tellBit_129 ?_
          refine TT_icmp_ge hK (tgt := 196) (irm (by omega) (by omega)) (by decide) dX6_tellBit_131 (by decide) (fun hb131_85 => ?_) (fun hb131_85 => ?_)
          · refine TT_iload hK 2 rfl dX6_tellBit_196 ?_
            refine TT_iret hK hQ ?_ dX6_tellBit_198
            exact ⟨⟨hT127_84, hF127_84⟩, b9, rfl, (by omega)⟩
          · refine TT_aload_n hK rfl 0 rfl dX6_tellBit_134 ?_
            refine gf_X6_60 hK (by decide) rfl (v := (w127_84 62) 5) rfl dX6_tellBit_135 ?_
            have r86 := ty_62_5 (v := (w127_84 62) 5) hT127_84 rfl
            refine TT_ldc hK lc_X6_59 dX6_tellBit_138 ?_
            refine TT_icmp_ge hK (tgt := 196) (irm (by omega) (by omega)) (by decide) dX6_tellBit_140 (by decide) (fun hb140_87 => ?_) (fun hb140_87 => ?_)
            · refine TT_iload hK 2 rfl dX6_tellBit_196 ?_
              refine TT_iret hK hQ ?_ dX6_tellBit_198
              exact ⟨⟨hT127_84, hF127_84⟩, b9, rfl, (by omega)⟩
            · refine TT_aload_n hK rfl 0 rfl dX6_tellBit_143 ?_
              refine gf_X6_56 hK (by decide) rfl (v := (w127_84 62) 6) rfl dX6_tellBit_144 ?_
              have r88 := ty_62_6 (v := (w127_84 62) 6) hT127_84 rfl
              refine TT_if_ne hK (tgt := 154) (irm (by omega) (by omega)) dX6_tellBit_147 (by decide) (fun hb147_89 => ?_) (fun hb147_89 => ?_)
              · refine TT_aload_n hK rfl 0 rfl dX6_tellBit_154 ?_
                refine TT_dup hK rfl dX6_tellBit_155 ?_
                refine gf_X6_60 hK (by decide) rfl (v := (w127_84 62) 5) rfl dX6_tellBit_156 ?_
                refine TT_iconst hK dX6_tellBit_159 ?_
                refine TT_ishl hK (by omega) (by omega) dX6_tellBit_160 ?_
                refine TT_cgI (b := ((w127_84 62) 5) * 2) rfl ?_
                refine TT_w32 (fun x161_90 hx90 => ?_)
                refine pf_X6_60 hK (by decide) rfl dX6_tellBit_161 ?_
                refine TT_hp (h' := setO w127_84 62 (fup (w127_84 62) 5 x161_90)) (up_can rfl rfl rfl) ?_
                have hT_91 : TY (setO w127_84 62 (fup (w127_84 62) 5 x161_90)) := tu_62_5 hT127_84 (show up w127_84 62 5 x161_90 = (setO w127_84 62 (fup (w127_84 62) 5 x161_90)) from up_can rfl rfl rfl) (by omega)
                have hF_91 : FR [62, 64, 65] h (setO w127_84 62 (fup (w127_84 62) 5 x161_90)) := FR_up (show up w127_84 62 5 x161_90 = (setO w127_84 62 (fup (w127_84 62) 5 x161_90)) from up_can rfl rfl rfl) hF127_84 (by decide)
                refine TT_aload_n hK rfl 0 rfl dX6_tellBit_164 ?_
                refine TT_aload_n hK rfl 0 rfl dX6_tellBit_165 ?_
                refine gf_X6_49 hK (by decide) rfl (v := (w127_84 62) 7) (rd_ (sOf_eq _ _ _) (fup_ne _ _ (by decide))) dX6_tellBit_166 ?_
                have r92 := ty_62_7 (v := (w127_84 62) 7) hT_91 (rd_ (sOf_eq _ _ _) (fup_ne _ _ (by decide)))
                refine TT_iconst hK dX6_tellBit_169 ?_
                refine TT_lshl hK (by decide) dX6_tellBit_170 ?_
                refine TT_cgJ (b := ((w127_84 62) 7) * 2) rfl ?_
                refine TT_w64f (fun x171_93 hx93 => ?_)
                refine TT_ldc2 hK lc_X6_75 dX6_tellBit_171 ?_
                refine TT_mminl hK (lrm (by omega) (by omega)) (by decide) iw_X6_77 (by decide) (Nat.le_of_ble_eq_true rfl) ⟨by decide, by decide⟩ dX6_tellBit_174 ?_
                refine pf_X6_49 hK (by decide) rfl dX6_tellBit_177 ?_
                refine TT_hp (h' := setO w127_84 62 (fup (fup (w127_84 62) 5 x161_90) 7 (min x171_93 1099511627776))) (up_can (sOf_eq _ _ _) rfl (setO_same _ _ _ _)) ?_
                have hT_94 : TY (setO w127_84 62 (fup (fup (w127_84 62) 5 x161_90) 7 (min x171_93 1099511627776))) := tu_62_7 hT_91 (show up (setO w127_84 62 (fup (w127_84 62) 5 x161_90)) 62 7 (min x171_93 1099511627776) = (setO w127_84 62 (fup (fup (w127_84 62) 5 x161_90) 7 (min x171_93 1099511627776))) from up_can (sOf_eq _ _ _) rfl (setO_same _ _ _ _)) (by omega)
                have hF_94 : FR [62, 64, 65] h (setO w127_84 62 (fup (fup (w127_84 62) 5 x161_90) 7 (min x171_93 1099511627776))) := FR_up (show up (setO w127_84 62 (fup (w127_84 62) 5 x161_90)) 62 7 (min x171_93 1099511627776) = (setO w127_84 62 (fup (fup (w127_84 62) 5 x161_90) 7 (min x171_93 1099511627776))) from up_can (sOf_eq _ _ _) rfl (setO_same _ _ _ _)) hF_91 (by decide)
                refine TT_aload_n hK rfl 0 rfl dX6_tellBit_180 ?_
                refine TT_dup hK rfl dX6_tellBit_181 ?_
                refine gf_X6_56 hK (by decide) rfl (v := (w127_84 62) 6) (rd_ (sOf_eq _ _ _) ((fup_ne _ _ (by decide)).trans (fup_ne _ _ (by decide)))) dX6_tellBit_182 ?_
                refine TT_iconst hK dX6_tellBit_185 ?_
                refine TT_isub hK dX6_tellBit_186 ?_
                refine pf_X6_56 hK (by decide) rfl dX6_tellBit_187 ?_
                refine TT_hp (h' := setO w127_84 62 (fup (fup (fup (w127_84 62) 5 x161_90) 6 (((w127_84 62) 6) - 1)) 7 (min x171_93 1099511627776))) (up_can (sOf_eq _ _ _) (fup_comm _ _ _ (by decide)) (setO_same _ _ _ _)) ?_
                have hT_95 : TY (setO w127_84 62 (fup (fup (fup (w127_84 62) 5 x161_90) 6 (((w127_84 62) 6) - 1)) 7 (min x171_93 1099511627776))) := tu_62_6 hT_94 (show up (setO w127_84 62 (fup (fup (w127_84 62) 5 x161_90) 7 (min x171_93 1099511627776))) 62 6 (((w127_84 62) 6) - 1) = (setO w127_84 62 (fup (fup (fup (w127_84 62) 5 x161_90) 6 (((w127_84 62) 6) - 1)) 7 (min x171_93 1099511627776))) from up_can (sOf_eq _ _ _) (fup_comm _ _ _ (by decide)) (setO_same _ _ _ _)) (by omega)
                have hF_95 : FR [62, 64, 65] h (setO w127_84 62 (fup (fup (fup (w127_84 62) 5 x161_90) 6 (((w127_84 62) 6) - 1)) 7 (min x171_93 1099511627776))) := FR_up (show up (setO w127_84 62 (fup (fup (w127_84 62) 5 x161_90) 7 (min x171_93 1099511627776))) 62 6 (((w127_84 62) 6) - 1) = (setO w127_84 62 (fup (fup (fup (w127_84 62) 5 x161_90) 6 (((w127_84 62) 6) - 1)) 7 (min x171_93 1099511627776))) from up_can (sOf_eq _ _ _) (fup_comm _ _ _ (by decide)) (setO_same _ _ _ _)) hF_94 (by decide)
                refine TT_iinc hK (v := k + 1) (lv' := [(6, vI (k + 1)), (0, vR 62), (1, vI x), (5, vI b9)]) 3 rfl rfl (by decide) rfl dX6_tellBit_190 ?_
                refine TT_goto hK (tgt := 127) dX6_tellBit_193 (by decide) ?_
                refine TT_sub [1, 2, 3, 0] rfl ?_
                exact ih84 (k + 1) b9 (setO w127_84 62 (fup (fup (fup (w127_84 62) 5 x161_90) 6 (((w127_84 62) 6) - 1)) 7 (min x171_93 1099511627776))) hT_95 hF_95 (by first | omega | (simp [up, setR] <;> omega)) (by first | omega | (simp [up, setR] <;> omega)) (by first | omega | (simp [up, setR] <;> omega))
              · refine TT_aload_n hK rfl 0 rfl dX6_tellBit_150 ?_
                refine iv_X6_53 hK (s_X6_comeIn_62 w127_84 hT127_84 ) (by decide) rfl ⟨by decide, by decide⟩ (by decide) rfl rfl (Nat.le_of_ble_eq_true rfl) ⟨by decide, by decide⟩ dX6_tellBit_151 ?_
                intro r9 g151_96 hp9
                obtain ⟨⟨hT_96, hG_96⟩, hr9, p1_96⟩ := hp9
                rw [hr9]
                have hF_96 : FR [62, 64, 65] h g151_96 := FR_tr hF127_84 hG_96 (by decide)
                show TT K ly 0 0 154 [(0, vR 62), (1, vI x), (5, vI b9), (6, vI k)] [] g151_96
                refine TT_aload_n hK rfl 0 rfl dX6_tellBit_154 ?_
                refine TT_dup hK rfl dX6_tellBit_155 ?_
                refine gf_X6_60 hK (by decide) rfl (v := (g151_96 62) 5) rfl dX6_tellBit_156 ?_
                have r97 := ty_62_5 (v := (g151_96 62) 5) hT_96 rfl
                refine TT_iconst hK dX6_tellBit_159 ?_
                refine TT_ishl hK (by omega) (by omega) dX6_tellBit_160 ?_
                refine TT_cgI (b := ((g151_96 62) 5) * 2) rfl ?_
                refine TT_w32 (fun x161_98 hx98 => ?_)
                refine pf_X6_60 hK (by decide) rfl dX6_tellBit_161 ?_
                refine TT_hp (h' := setO g151_96 62 (fup (g151_96 62) 5 x161_98)) (up_can rfl rfl rfl) ?_
                have hT_99 : TY (setO g151_96 62 (fup (g151_96 62) 5 x161_98)) := tu_62_5 hT_96 (show up g151_96 62 5 x161_98 = (setO g151_96 62 (fup (g151_96 62) 5 x161_98)) from up_can rfl rfl rfl) (by omega)
                have hF_99 : FR [62, 64, 65] h (setO g151_96 62 (fup (g151_96 62) 5 x161_98)) := FR_up (show up g151_96 62 5 x161_98 = (setO g151_96 62 (fup (g151_96 62) 5 x161_98)) from up_can rfl rfl rfl) hF_96 (by decide)
                refine TT_aload_n hK rfl 0 rfl dX6_tellBit_164 ?_
                refine TT_aload_n hK rfl 0 rfl dX6_tellBit_165 ?_
                refine gf_X6_49 hK (by decide) rfl (v := (g151_96 62) 7) (rd_ (sOf_eq _ _ _) (fup_ne _ _ (by decide))) dX6_tellBit_166 ?_
                have r100 := ty_62_7 (v := (g151_96 62) 7) hT_99 (rd_ (sOf_eq _ _ _) (fup_ne _ _ (by decide)))
                refine TT_iconst hK dX6_tellBit_169 ?_
                refine TT_lshl hK (by decide) dX6_tellBit_170 ?_
                refine TT_cgJ (b := ((g151_96 62) 7) * 2) rfl ?_
                refine TT_w64f (fun x171_101 hx101 => ?_)
                refine TT_ldc2 hK lc_X6_75 dX6_tellBit_171 ?_
                refine TT_mminl hK (lrm (by omega) (by omega)) (by decide) iw_X6_77 (by decide) (Nat.le_of_ble_eq_true rfl) ⟨by decide, by decide⟩ dX6_tellBit_174 ?_
                refine pf_X6_49 hK (by decide) rfl dX6_tellBit_177 ?_
                refine TT_hp (h' := setO g151_96 62 (fup (fup (g151_96 62) 5 x161_98) 7 (min x171_101 1099511627776))) (up_can (sOf_eq _ _ _) rfl (setO_same _ _ _ _)) ?_
                have hT_102 : TY (setO g151_96 62 (fup (fup (g151_96 62) 5 x161_98) 7 (min x171_101 1099511627776))) := tu_62_7 hT_99 (show up (setO g151_96 62 (fup (g151_96 62) 5 x161_98)) 62 7 (min x171_101 1099511627776) = (setO g151_96 62 (fup (fup (g151_96 62) 5 x161_98) 7 (min x171_101 1099511627776))) from up_can (sOf_eq _ _ _) rfl (setO_same _ _ _ _)) (by omega)
                have hF_102 : FR [62, 64, 65] h (setO g151_96 62 (fup (fup (g151_96 62) 5 x161_98) 7 (min x171_101 1099511627776))) := FR_up (show up (setO g151_96 62 (fup (g151_96 62) 5 x161_98)) 62 7 (min x171_101 1099511627776) = (setO g151_96 62 (fup (fup (g151_96 62) 5 x161_98) 7 (min x171_101 1099511627776))) from up_can (sOf_eq _ _ _) rfl (setO_same _ _ _ _)) hF_99 (by decide)
                refine TT_aload_n hK rfl 0 rfl dX6_tellBit_180 ?_
                refine TT_dup hK rfl dX6_tellBit_181 ?_
                refine gf_X6_56 hK (by decide) rfl (v := (g151_96 62) 6) (rd_ (sOf_eq _ _ _) ((fup_ne _ _ (by decide)).trans (fup_ne _ _ (by decide)))) dX6_tellBit_182 ?_
                have r103 := ty_62_6 (v := (g151_96 62) 6) hT_102 (rd_ (sOf_eq _ _ _) ((fup_ne _ _ (by decide)).trans (fup_ne _ _ (by decide))))
                refine TT_iconst hK dX6_tellBit_185 ?_
                refine TT_isub hK dX6_tellBit_186 ?_
                refine pf_X6_56 hK (by decide) rfl dX6_tellBit_187 ?_
                refine TT_hp (h' := setO g151_96 62 (fup (fup (fup (g151_96 62) 5 x161_98) 6 (((g151_96 62) 6) - 1)) 7 (min x171_101 1099511627776))) (up_can (sOf_eq _ _ _) (fup_comm _ _ _ (by decide)) (setO_same _ _ _ _)) ?_
                have hT_104 : TY (setO g151_96 62 (fup (fup (fup (g151_96 62) 5 x161_98) 6 (((g151_96 62) 6) - 1)) 7 (min x171_101 1099511627776))) := tu_62_6 hT_102 (show up (setO g151_96 62 (fup (fup (g151_96 62) 5 x161_98) 7 (min x171_101 1099511627776))) 62 6 (((g151_96 62) 6) - 1) = (setO g151_96 62 (fup (fup (fup (g151_96 62) 5 x161_98) 6 (((g151_96 62) 6) - 1)) 7 (min x171_101 1099511627776))) from up_can (sOf_eq _ _ _) (fup_comm _ _ _ (by decide)) (setO_same _ _ _ _)) (by omega)
                have hF_104 : FR [62, 64, 65] h (setO g151_96 62 (fup (fup (fup (g151_96 62) 5 x161_98) 6 (((g151_96 62) 6) - 1)) 7 (min x171_101 1099511627776))) := FR_up (show up (setO g151_96 62 (fup (fup (g151_96 62) 5 x161_98) 7 (min x171_101 1099511627776))) 62 6 (((g151_96 62) 6) - 1) = (setO g151_96 62 (fup (fup (fup (g151_96 62) 5 x161_98) 6 (((g151_96 62) 6) - 1)) 7 (min x171_101 1099511627776))) from up_can (sOf_eq _ _ _) (fup_comm _ _ _ (by decide)) (setO_same _ _ _ _)) hF_102 (by decide)
                refine TT_iinc hK (v := k + 1) (lv' := [(6, vI (k + 1)), (0, vR 62), (1, vI x), (5, vI b9)]) 3 rfl rfl (by decide) rfl dX6_tellBit_190 ?_
                refine TT_goto hK (tgt := 127) dX6_tellBit_193 (by decide) ?_
                refine TT_sub [1, 2, 3, 0] rfl ?_
                exact ih84 (k + 1) b9 (setO g151_96 62 (fup (fup (fup (g151_96 62) 5 x161_98) 6 (((g151_96 62) 6) - 1)) 7 (min x171_101 1099511627776))) hT_104 hF_104 (by first | omega | (simp [up, setR] <;> omega)) (by first | omega | (simp [up, setR] <;> omega)) (by first | omega | (simp [up, setR] <;> omega))
      refine TT_sub [4, 5, 1, 0] rfl ?_
      exact L127_84 ((((15 : Int) - 0).toNat) + 1) 0 z14_2 g121_83 hT_83 hF_83 (by first | omega | (simp [up, setR] <;> omega)) (by first | omega | (simp [up, setR] <;> omega)) (Nat.lt_succ_self _)
set_option maxRecDepth 20000 in
theorem s_X7_passesReadRight_24 (h : Hp_) (hT : TY h)  : Ctr yX7_passesReadRight cX7_passesReadRight 4 (some .int) (rmd 2) ly ly 0 0 [vR 24, vR 39] h (fun r h' => (TY h' ∧ FR [39, 41, 42] h h') ∧ ∃ z : Int, r = some (vI z) ∧ (0 ≤ z ∧ z ≤ 34)) := by
  refine Ctr_of (by decide) (Nat.le_of_ble_eq_true rfl) ⟨Nat.le_refl _, Nat.le_refl _⟩ (fun K hK hQ _ => ?_)
  show TT K ly 0 0 0 [(0, vR 24), (1, vR 39)] [] h
  have hF : FR [39, 41, 42] h h := FR_rf _ _
  refine TT_iconst hK dX7_passesReadRight_0 ?_
  refine TT_istore_n hK rfl (lv' := [(2, vI 0), (0, vR 24), (1, vR 39)]) (by decide) rfl dX7_passesReadRight_1 ?_
  refine TT_iconst hK dX7_passesReadRight_2 ?_
  refine TT_istore_n hK rfl (lv' := [(3, vI 0), (2, vI 0), (0, vR 24), (1, vR 39)]) (by decide) rfl dX7_passesReadRight_3 ?_
  have L4_1 : ∀ (k1 : Nat) (i : Int) (k : Int) (w4_1 : Hp_), TY w4_1 → FR [39, 41, 42] h w4_1 → (0 ≤ i ∧ i ≤ 1024) → (0 ≤ k ∧ k ≤ 34) → ((34 : Int) - k).toNat < k1 → TT K ly 0 0 4 [(0, vR 24), (1, vR 39), (2, vI i), (3, vI k)] [] w4_1 := by
    intro k1
    induction k1 with
    | zero => intro i k w4_1 hT4_1 hF4_1 hi hk hk1; exact absurd hk1 (Nat.not_lt_zero _)
    | succ k1 ih1 =>
      intro i k w4_1 hT4_1 hF4_1 hi hk hk1
      refine TT_iload_n hK rfl 3 rfl dX7_passesReadRight_4 ?_
      refine TT_aload_n hK rfl 0 rfl dX7_passesReadRight_5 ?_
      refine gf_X7_25 hK (by decide) rfl (v := (h 24) 4) (rd_ (hF4_1 24 (by decide)) rfl) dX7_passesReadRight_6 ?_
      have r2 := ty_24_4 (v := (h 24) 4) hT4_1 (rd_ (hF4_1 24 (by decide)) rfl)
      refine TT_icmp_ge hK (tgt := 56) (irm (by omega) (by omega)) (irm (by omega) (by omega)) dX7_passesReadRight_9 (by decide) (fun hb9_3 => ?_) (fun hb9_3 => ?_)
      · refine TT_aload_n hK rfl 0 rfl dX7_passesReadRight_56 ?_
        refine gf_X7_25 hK (by decide) rfl (v := (h 24) 4) (rd_ (hF4_1 24 (by decide)) rfl) dX7_passesReadRight_57 ?_
        refine TT_iret hK hQ ?_ dX7_passesReadRight_60
        exact ⟨⟨hT4_1, hF4_1⟩, ((h 24) 4), rfl, (by omega)⟩
      · have L12_4 : ∀ (k4 : Nat) (i2 : Int) (w12_4 : Hp_), TY w12_4 → FR [39, 41, 42] h w12_4 → (0 ≤ i2 ∧ i2 ≤ 1024) → (k < (w12_4 24 4)) → ((1024 : Int) - i2).toNat < k4 → TT K ly 0 0 12 [(0, vR 24), (1, vR 39), (2, vI i2), (3, vI k)] [] w12_4 := by
          intro k4
          induction k4 with
          | zero => intro i2 w12_4 hT12_4 hF12_4 hi2 hk2 hk4; exact absurd hk4 (Nat.not_lt_zero _)
          | succ k4 ih4 =>
            intro i2 w12_4 hT12_4 hF12_4 hi2 hk2 hk4
            refine TT_iload_n hK rfl 2 rfl dX7_passesReadRight_12 ?_
            refine TT_aload_n hK rfl 0 rfl dX7_passesReadRight_13 ?_
            refine gf_X7_18 hK (by decide) rfl (q := 27) rfl rfl dX7_passesReadRight_14 ?_
            refine TT_iload_n hK rfl 3 rfl dX7_passesReadRight_17 ?_
            refine TT_iald hK (o := 27) (n := 34) (by decide) rfl (by first | omega | (simp [up, setR] <;> omega)) (by first | omega | (simp [up, setR] <;> omega)) (v := (h 27) k) (rd_ (hF12_4 27 (by decide)) rfl) dX7_passesReadRight_18 ?_
            have r5 := ty_27 (i := k) (v := (h 27) k) hT12_4 (rd_ (hF12_4 27 (by decide)) rfl) (by omega) (by omega)
            refine TT_icmp_ge hK (tgt := 50) (irm (by omega) (by omega)) (irm (by omega) (by omega)) dX7_passesReadRight_19 (by decide) (fun hb19_6 => ?_) (fun hb19_6 => ?_)
            · refine TT_iinc hK (v := k + 1) (lv' := [(3, vI (k + 1)), (0, vR 24), (1, vR 39), (2, vI i2)]) 3 rfl rfl (by decide) rfl dX7_passesReadRight_50 ?_
              refine TT_goto hK (tgt := 4) dX7_passesReadRight_53 (by decide) ?_
              refine TT_sub [1, 2, 3, 0] rfl ?_
              exact ih1 i2 (k + 1) w12_4 hT12_4 hF12_4 (by first | omega | (simp [up, setR] <;> omega)) (by first | omega | (simp [up, setR] <;> omega)) (by first | omega | (simp [up, setR] <;> omega))
            · refine TT_aload_n hK rfl 1 rfl dX7_passesReadRight_22 ?_
              refine TT_aload_n hK rfl 0 rfl dX7_passesReadRight_23 ?_
              refine gf_X7_9 hK (by decide) rfl (q := 25) rfl rfl dX7_passesReadRight_24 ?_
              refine TT_iload_n hK rfl 2 rfl dX7_passesReadRight_27 ?_
              refine TT_iald hK (o := 25) (n := 1024) (by decide) rfl (by first | omega | (simp [up, setR] <;> omega)) (by first | omega | (simp [up, setR] <;> omega)) (v := (h 25) i2) (rd_ (hF12_4 25 (by decide)) rfl) dX7_passesReadRight_28 ?_
              have r7 := ty_25 (i := i2) (v := (h 25) i2) hT12_4 (rd_ (hF12_4 25 (by decide)) rfl) (by omega) (by omega)
              refine TT_iconst hK dX7_passesReadRight_29 ?_
              refine iv_X7_34 hK (s_X6_tellBit_39 ((h 25) i2) 0 w12_4 hT12_4 (by first | omega | (simp [up, setR] <;> omega)) (by first | omega | (simp [up, setR] <;> omega))) (by decide) rfl ⟨by decide, by decide⟩ (by decide) rfl rfl (Nat.le_of_ble_eq_true rfl) ⟨by decide, by decide⟩ dX7_passesReadRight_30 ?_
              intro r9 g30_8 hp9
              obtain ⟨⟨hT_8, hG_8⟩, z30_8, hr9, hz_8⟩ := hp9
              rw [hr9]
              have hF_8 : FR [39, 41, 42] h g30_8 := FR_tr hF12_4 hG_8 (by decide)
              show TT K ly 0 0 33 [(0, vR 24), (1, vR 39), (2, vI i2), (3, vI k)] [vI z30_8] g30_8
              refine TT_aload_n hK rfl 0 rfl dX7_passesReadRight_33 ?_
              refine gf_X7_15 hK (by decide) rfl (q := 26) rfl rfl dX7_passesReadRight_34 ?_
              refine TT_iload_n hK rfl 2 rfl dX7_passesReadRight_37 ?_
              refine TT_iald hK (o := 26) (n := 1024) (by decide) rfl (by first | omega | (simp [up, setR] <;> omega)) (by first | omega | (simp [up, setR] <;> omega)) (v := (h 26) i2) (rd_ (((hG_8 26 (by decide))).trans (hF12_4 26 (by decide))) rfl) dX7_passesReadRight_38 ?_
              have r9 := ty_26 (i := i2) (v := (h 26) i2) hT_8 (rd_ (((hG_8 26 (by decide))).trans (hF12_4 26 (by decide))) rfl) (by omega) (by omega)
              refine TT_icmp_eq hK (tgt := 44) (irm (by omega) (by omega)) (irm (by omega) (by omega)) dX7_passesReadRight_39 (by decide) (fun hb39_10 => ?_) (fun hb39_10 => ?_)
              · refine TT_iinc hK (v := i2 + 1) (lv' := [(2, vI (i2 + 1)), (0, vR 24), (1, vR 39), (3, vI k)]) 2 rfl rfl (by decide) rfl dX7_passesReadRight_44 ?_
                refine TT_goto hK (tgt := 12) dX7_passesReadRight_47 (by decide) ?_
                refine TT_sub [1, 2, 0, 3] rfl ?_
                have e11_24_4 : g30_8 24 4 = (h 24) 4 := rd_ (((hG_8 24 (by decide))).trans (hF12_4 24 (by decide))) rfl
                exact ih4 (i2 + 1) g30_8 hT_8 hF_8 (by first | omega | (simp [up, setR] <;> omega)) (by rw [e11_24_4]; first | omega | (simp [up, setR] <;> omega)) (by first | omega | (simp [up, setR] <;> omega))
              · refine TT_iload_n hK rfl 3 rfl dX7_passesReadRight_42 ?_
                refine TT_iret hK hQ ?_ dX7_passesReadRight_43
                exact ⟨⟨hT_8, hF_8⟩, k, rfl, (by omega)⟩
        have e12_24_4 : w4_1 24 4 = (h 24) 4 := rd_ (hF4_1 24 (by decide)) rfl
        exact L12_4 ((((1024 : Int) - i).toNat) + 1) i w4_1 hT4_1 hF4_1 (by first | omega | (simp [up, setR] <;> omega)) (by rw [e12_24_4]; first | omega | (simp [up, setR] <;> omega)) (Nat.lt_succ_self _)
  refine TT_sub [2, 3, 1, 0] rfl ?_
  exact L4_1 ((((34 : Int) - 0).toNat) + 1) 0 0 h hT hF (by first | omega | (simp [up, setR] <;> omega)) (by first | omega | (simp [up, setR] <;> omega)) (Nat.lt_succ_self _)

set_option maxRecDepth 20000 in
theorem s_ctellBand_e (b : Int) (h : Hp_) (hT : TY h) (hb : 0 ≤ b ∧ b ≤ 9) (hbd : BDQ (h 10) (h 12) (h 11) (h 13)) (hhb : 0 ≤ b ∧ b < (h 8 10)) (hnb : NBQ (fun x y : Int => (h 9) (((h 11) b + y) * 8 + (h 10) b + x)) ((h 12) b) ((h 13) b)) (hroom : 0 ≤ (h 22 1) ∧ (h 22 1) + 13 * ((h 12) b * (h 13) b) + 2 ≤ 1024) : Ctr yX3_tellBand cX3_tellBand 4 none (rmd 5) ly ly 0 0 [vR 7, vI b] h (fun r h' => (TY h' ∧ FR [17, 18, 22, 23, 24, 25, 26, 27, 28, 29, 30, 31, 32, 33, 34, 36, 37, 38] h h') ∧ r = none ∧ (CWX (fun x y : Int => (h 9) (((h 11) b + y) * 8 + (h 10) b + x)) ((h 12) b) ((h 13) b) (kdB b) ((h 16) b) (fun i => (h' 23) ((h 22 1) + i)) ((h' 18) b) (h' 24 3) (h' 24 4) (h' 25) (h' 26) (h' 27)) ∧ ((0 ≤ (h' 18) b ∧ (h' 18) b ≤ 13 * ((h 12) b * (h 13) b) + 2) ∧ (h' 22 1) = (h 22 1) + (h' 18) b) ∧ (∀ j : Int, j < (h 22 1) → (h' 23) j = (h 23) j) ∧ ((h' 17) = fup (h 17) b (h 22 1)) ∧ (∀ j : Int, j ≠ b → (h' 18) j = (h 18) j)) := by
  refine Ctr_of (by decide) (Nat.le_of_ble_eq_true rfl) ⟨Nat.le_refl _, Nat.le_refl _⟩ (fun K hK hQ _ => ?_)
  show TT K ly 0 0 0 [(0, vR 7), (1, vI b)] [] h
  have hF : FR [17, 18, 22, 23, 24, 25, 26, 27, 28, 29, 30, 31, 32, 33, 34, 36, 37, 38] h h := FR_rf _ _
  have rw12 := ty_12 (i := b) (v := h 12 b) hT rfl (by omega) (by omega)
  have rw13 := ty_13 (i := b) (v := h 13 b) hT rfl (by omega) (by omega)
  have ra0 : 0 ≤ h 12 b * h 13 b := Int.mul_nonneg rw12.1 rw13.1
  refine TT_aload_n hK rfl 0 rfl dX3_tellBand_0 ?_
  refine gf_X3_22 hK (by decide) rfl (q := 17) rfl rfl dX3_tellBand_1 ?_
  refine TT_iload_n hK rfl 1 rfl dX3_tellBand_4 ?_
  refine TT_aload_n hK rfl 0 rfl dX3_tellBand_5 ?_
  refine gf_X3_40 hK (by decide) rfl (q := 22) rfl rfl dX3_tellBand_6 ?_
  refine iv_X3_153 hK (s_len22_e h hT ) (by decide) rfl ⟨by decide, by decide⟩ (by decide) rfl rfl (Nat.le_of_ble_eq_true rfl) ⟨by decide, by decide⟩ dX3_tellBand_9 ?_
  intro r9 g9_1 hp9
  obtain ⟨⟨hT_1, hG_1⟩, z9_1, hr9, hz_1, e_1⟩ := hp9
  rw [hr9]
  have hF_1 : FR [17, 18, 22, 23, 24, 25, 26, 27, 28, 29, 30, 31, 32, 33, 34, 36, 37, 38] h g9_1 := FR_tr hF hG_1 (by decide)
  rw [show h 22 1 = (h 22) 1 from rfl] at e_1
  have e_at9 := e_1
  show TT K ly 0 0 12 [(0, vR 7), (1, vI b)] [vI z9_1, vI b, vR 17] g9_1
  refine TT_cgI (b := (h 22) 1) (by exact e_at9) ?_
  refine TT_iast hK (o := 17) (n := 10) (by decide) rfl (by omega) (by omega) dX3_tellBand_12 ?_
  refine TT_hp (h' := setO g9_1 17 (fup (h 17) b ((h 22) 1))) (up_can (hG_1 17 (by decide)) rfl rfl) ?_
  have hT_2 : TY (setO g9_1 17 (fup (h 17) b ((h 22) 1))) := tu_17 hT_1 (show up g9_1 17 b ((h 22) 1) = (setO g9_1 17 (fup (h 17) b ((h 22) 1))) from up_can (hG_1 17 (by decide)) rfl rfl) (by omega)
  have hF_2 : FR [17, 18, 22, 23, 24, 25, 26, 27, 28, 29, 30, 31, 32, 33, 34, 36, 37, 38] h (setO g9_1 17 (fup (h 17) b ((h 22) 1))) := FR_up (show up g9_1 17 b ((h 22) 1) = (setO g9_1 17 (fup (h 17) b ((h 22) 1))) from up_can (hG_1 17 (by decide)) rfl rfl) hF_1 (by decide)
  refine TT_aload_n hK rfl 0 rfl dX3_tellBand_13 ?_
  refine gf_X3_25 hK (by decide) rfl (q := 18) rfl rfl dX3_tellBand_14 ?_
  refine TT_iload_n hK rfl 1 rfl dX3_tellBand_17 ?_
  refine TT_iconst hK dX3_tellBand_18 ?_
  refine TT_iast hK (o := 18) (n := 10) (by decide) rfl (by omega) (by omega) dX3_tellBand_19 ?_
  refine TT_hp (h' := setO (setO g9_1 17 (fup (h 17) b ((h 22) 1))) 18 (fup (h 18) b 0)) (up_can ((sOf_ne _ _ (by decide)).trans (hG_1 18 (by decide))) rfl rfl) ?_
  have hT_3 : TY (setO (setO g9_1 17 (fup (h 17) b ((h 22) 1))) 18 (fup (h 18) b 0)) := tu_18 hT_2 (show up (setO g9_1 17 (fup (h 17) b ((h 22) 1))) 18 b 0 = (setO (setO g9_1 17 (fup (h 17) b ((h 22) 1))) 18 (fup (h 18) b 0)) from up_can ((sOf_ne _ _ (by decide)).trans (hG_1 18 (by decide))) rfl rfl) (by omega)
  have hF_3 : FR [17, 18, 22, 23, 24, 25, 26, 27, 28, 29, 30, 31, 32, 33, 34, 36, 37, 38] h (setO (setO g9_1 17 (fup (h 17) b ((h 22) 1))) 18 (fup (h 18) b 0)) := FR_up (show up (setO g9_1 17 (fup (h 17) b ((h 22) 1))) 18 b 0 = (setO (setO g9_1 17 (fup (h 17) b ((h 22) 1))) 18 (fup (h 18) b 0)) from up_can ((sOf_ne _ _ (by decide)).trans (hG_1 18 (by decide))) rfl rfl) hF_2 (by decide)
  refine TT_aload_n hK rfl 0 rfl dX3_tellBand_20 ?_
  refine gf_X3_47 hK (by decide) rfl (q := 24) rfl rfl dX3_tellBand_21 ?_
  refine iv_X3_157 hK (s_tclear_e (setO (setO g9_1 17 (fup (h 17) b ((h 22) 1))) 18 (fup (h 18) b 0)) hT_3 ) (by decide) rfl ⟨by decide, by decide⟩ (by decide) rfl rfl (Nat.le_of_ble_eq_true rfl) ⟨by decide, by decide⟩ dX3_tellBand_24 ?_
  intro r9 g24_4 hp9
  obtain ⟨⟨hT_4, hG_4⟩, hr9, c3_4, c4_4⟩ := hp9
  rw [hr9]
  have hF_4 : FR [17, 18, 22, 23, 24, 25, 26, 27, 28, 29, 30, 31, 32, 33, 34, 36, 37, 38] h g24_4 := FR_tr hF_3 hG_4 (by decide)
  have c3_at24 := c3_4
  have c4_at24 := c4_4
  show TT K ly 0 0 27 [(0, vR 7), (1, vI b)] [] g24_4
  refine TT_aload_n hK rfl 0 rfl dX3_tellBand_27 ?_
  refine gf_X3_18 hK (by decide) rfl (q := 16) rfl rfl dX3_tellBand_28 ?_
  refine TT_iload_n hK rfl 1 rfl dX3_tellBand_31 ?_
  refine TT_iald hK (o := 16) (n := 10) (by decide) rfl (by first | omega | (simp [up, setR] <;> omega)) (by first | omega | (simp [up, setR] <;> omega)) (v := (h 16) b) (rd_ (((hG_4 16 (by decide))).trans ((sOf_ne _ _ (by decide)).trans ((sOf_ne _ _ (by decide)).trans (hG_1 16 (by decide))))) rfl) dX3_tellBand_32 ?_
  have r5 := ty_16 (i := b) (v := (h 16) b) hT_4 (rd_ (((hG_4 16 (by decide))).trans ((sOf_ne _ _ (by decide)).trans ((sOf_ne _ _ (by decide)).trans (hG_1 16 (by decide))))) rfl) (by omega) (by omega)
  refine TT_if_ne hK (tgt := 37) (irm (by omega) (by omega)) dX3_tellBand_33 (by decide) (fun hb33_6 => ?_) (fun hb33_6 => ?_)
  · refine TT_aload_n hK rfl 0 rfl dX3_tellBand_37 ?_
    refine gf_X3_56 hK (by decide) rfl (q := 28) rfl rfl dX3_tellBand_38 ?_
    refine TT_aload_n hK rfl 0 rfl dX3_tellBand_41 ?_
    refine gf_X3_12 hK (by decide) rfl (q := 8) rfl rfl dX3_tellBand_42 ?_
    refine gf_X3_79 hK (by decide) rfl (q := 12) rfl rfl dX3_tellBand_45 ?_
    refine TT_iload_n hK rfl 1 rfl dX3_tellBand_48 ?_
    refine TT_iald hK (o := 12) (n := 10) (by decide) rfl (by first | omega | (simp [up, setR] <;> omega)) (by first | omega | (simp [up, setR] <;> omega)) (v := (h 12) b) (rd_ (((hG_4 12 (by decide))).trans ((sOf_ne _ _ (by decide)).trans ((sOf_ne _ _ (by decide)).trans (hG_1 12 (by decide))))) rfl) dX3_tellBand_49 ?_
    have r7 := ty_12 (i := b) (v := (h 12) b) hT_4 (rd_ (((hG_4 12 (by decide))).trans ((sOf_ne _ _ (by decide)).trans ((sOf_ne _ _ (by decide)).trans (hG_1 12 (by decide))))) rfl) (by omega) (by omega)
    refine TT_aload_n hK rfl 0 rfl dX3_tellBand_50 ?_
    refine gf_X3_12 hK (by decide) rfl (q := 8) rfl rfl dX3_tellBand_51 ?_
    refine gf_X3_82 hK (by decide) rfl (q := 13) rfl rfl dX3_tellBand_54 ?_
    refine TT_iload_n hK rfl 1 rfl dX3_tellBand_57 ?_
    refine TT_iald hK (o := 13) (n := 10) (by decide) rfl (by first | omega | (simp [up, setR] <;> omega)) (by first | omega | (simp [up, setR] <;> omega)) (v := (h 13) b) (rd_ (((hG_4 13 (by decide))).trans ((sOf_ne _ _ (by decide)).trans ((sOf_ne _ _ (by decide)).trans (hG_1 13 (by decide))))) rfl) dX3_tellBand_58 ?_
    have r8 := ty_13 (i := b) (v := (h 13) b) hT_4 (rd_ (((hG_4 13 (by decide))).trans ((sOf_ne _ _ (by decide)).trans ((sOf_ne _ _ (by decide)).trans (hG_1 13 (by decide))))) rfl) (by omega) (by omega)
    refine TT_aload_n hK rfl 0 rfl dX3_tellBand_59 ?_
    refine gf_X3_12 hK (by decide) rfl (q := 8) rfl rfl dX3_tellBand_60 ?_
    refine TT_iload_n hK rfl 1 rfl dX3_tellBand_63 ?_
    refine iv_X3_158 hK (s_kindOf_e b g24_4 hT_4 (by first | omega | (simp [up, setR] <;> omega))) (by decide) rfl ⟨by decide, by decide⟩ (by decide) rfl rfl (Nat.le_of_ble_eq_true rfl) ⟨by decide, by decide⟩ dX3_tellBand_64 ?_
    intro r9 g64_9 hp9
    obtain ⟨⟨hT_9, hG_9⟩, z64_9, hr9, hz_9, e_9⟩ := hp9
    rw [hr9]
    have hF_9 : FR [17, 18, 22, 23, 24, 25, 26, 27, 28, 29, 30, 31, 32, 33, 34, 36, 37, 38] h g64_9 := FR_tr hF_4 hG_9 (by decide)
    have e_at64 := e_9
    show TT K ly 0 0 67 [(0, vR 7), (1, vI b)] [vI z64_9, vI ((h 13) b), vI ((h 12) b), vR 28] g64_9
    refine iv_X3_161 hK (s_pbegin_e ((h 12) b) ((h 13) b) z64_9 g64_9 hT_9 (by first | omega | (simp [up, setR] <;> omega)) (by first | omega | (simp [up, setR] <;> omega)) (by first | omega | (simp [up, setR] <;> omega))) (by decide) rfl ⟨by decide, by decide⟩ (by decide) rfl rfl (Nat.le_of_ble_eq_true rfl) ⟨by decide, by decide⟩ dX3_tellBand_67 ?_
    intro r9 g67_10 hp9
    obtain ⟨⟨hT_10, hG_10⟩, hr9, w6_10, z29_10, z31_10, z32_10, z33_10⟩ := hp9
    rw [hr9]
    have hF_10 : FR [17, 18, 22, 23, 24, 25, 26, 27, 28, 29, 30, 31, 32, 33, 34, 36, 37, 38] h g67_10 := FR_tr hF_9 hG_10 (by decide)
    have w6_at67 := w6_10
    have z29_at67 := z29_10
    have z31_at67 := z31_10
    have z32_at67 := z32_10
    have z33_at67 := z33_10
    show TT K ly 0 0 70 [(0, vR 7), (1, vI b)] [] g67_10
    refine TT_iconst hK dX3_tellBand_70 ?_
    refine TT_istore_n hK rfl (lv' := [(2, vI 0), (0, vR 7), (1, vI b)]) (by decide) rfl dX3_tellBand_71 ?_
    have L72_11 : ∀ (k11 : Nat) (y : Int) (w72_11 : Hp_), TY w72_11 → FR [17, 18, 22, 23, 24, 25, 26, 27, 28, 29, 30, 31, 32, 33, 34, 36, 37, 38] h w72_11 → (0 ≤ y ∧ y ≤ h 13 b) → (∀ x2 y2 : Int, 0 ≤ x2 → x2 < h 12 b → 0 ≤ y2 → y2 < y → (w72_11 29) (10 * y2 + x2 + 11) = h 9 ((h 11 b + y2) * 8 + h 10 b + x2)) → (∀ q : Int, 0 ≤ q → q < 100 → -4095 ≤ (w72_11 29) q ∧ (w72_11 29) q ≤ 4095) → ((w72_11 17) = fup (h 17) b (h 22 1)) → ((w72_11 18) = fup (h 18) b 0) → ((w72_11 22 1) = h 22 1) → ((w72_11 23) = h 23) → ((w72_11 24 3) = 0 ∧ (w72_11 24 4) = 0) → ((w72_11 28 6) = h 12 b ∧ (w72_11 28 7) = h 13 b ∧ (w72_11 28 8) = kdB b) → (∀ j : Int, 0 ≤ j → j < 100 → (w72_11 31) j = 0) → (∀ j : Int, 0 ≤ j → j < 100 → (w72_11 32) j = 0) → (∀ j : Int, 0 ≤ j → j < 100 → (w72_11 33) j = 0) → ((8 : Int) - y).toNat < k11 → TT K ly 0 0 72 [(0, vR 7), (1, vI b), (2, vI y)] [] w72_11 := by
      intro k11
      induction k11 with
      | zero => intro y w72_11 hT72_11 hF72_11 hy hmm hB9 k17 k18 k22 k23 k24 k28 z31 z32 z33 hk11; exact absurd hk11 (Nat.not_lt_zero _)
      | succ k11 ih11 =>
        intro y w72_11 hT72_11 hF72_11 hy hmm hB9 k17 k18 k22 k23 k24 k28 z31 z32 z33 hk11
        refine TT_iload_n hK rfl 2 rfl dX3_tellBand_72 ?_
        refine TT_aload_n hK rfl 0 rfl dX3_tellBand_73 ?_
        refine gf_X3_12 hK (by decide) rfl (q := 8) rfl rfl dX3_tellBand_74 ?_
        refine gf_X3_82 hK (by decide) rfl (q := 13) rfl rfl dX3_tellBand_77 ?_
        refine TT_iload_n hK rfl 1 rfl dX3_tellBand_80 ?_
        refine TT_iald hK (o := 13) (n := 10) (by decide) rfl (by first | omega | (simp [up, setR] <;> omega)) (by first | omega | (simp [up, setR] <;> omega)) (v := (h 13) b) (rd_ (hF72_11 13 (by decide)) rfl) dX3_tellBand_81 ?_
        have r12 := ty_13 (i := b) (v := (h 13) b) hT72_11 (rd_ (hF72_11 13 (by decide)) rfl) (by omega) (by omega)
        refine TT_icmp_ge hK (tgt := 131) (irm (by omega) (by omega)) (irm (by omega) (by omega)) dX3_tellBand_82 (by decide) (fun hb82_13 => ?_) (fun hb82_13 => ?_)
        · refine TT_iconst hK dX3_tellBand_131 ?_
          refine TT_istore_n hK rfl (lv' := [(2, vI 0), (0, vR 7), (1, vI b)]) (by decide) rfl dX3_tellBand_132 ?_
          have L133_14 : ∀ (k14 : Nat) (k : Int) (M0 : Int → Int) (s0 : TS_) (w133_14 : Hp_), TY w133_14 → FR [17, 18, 22, 23, 24, 25, 26, 27, 28, 29, 30, 31, 32, 33, 34, 36, 37, 38] h w133_14 → (0 ≤ k ∧ k ≤ pas (h 16 b)) → ((w133_14 17) = fup (h 17) b (h 22 1)) → ((w133_14 18) = fup (h 18) b 0) → ((w133_14 22 1) = h 22 1) → ((w133_14 23) = h 23) → ((w133_14 28 6) = h 12 b ∧ (w133_14 28 7) = h 13 b ∧ (w133_14 28 8) = kdB b) → ((w133_14 29) = M0) → (∀ q : Int, 0 ≤ q → q < 100 → -4095 ≤ M0 q ∧ M0 q ≤ 4095) → (MRN (fun x y : Int => h 9 ((h 11 b + y) * 8 + h 10 b + x)) (h 12 b) (h 13 b) M0) → (TS0 s0) → ((w133_14 24 4) = k) → (RPQ (w133_14 31) (w133_14 32) (w133_14 33) (w133_14 24 3) (w133_14 25) (w133_14 26) (psN M0 (kdB b) (h 12 b) (h 13 b) (h 16 b) k.toNat s0)) → (∀ j : Nat, (j : Int) < k → (w133_14 27) (j : Int) = min ((psN M0 (kdB b) (h 12 b) (h 13 b) (h 16 b) (j + 1) s0).2.2.2.length : Int) 1024) → ((34 : Int) - k).toNat < k14 → TT K ly 0 0 133 [(0, vR 7), (1, vI b), (2, vI k)] [] w133_14 := by
            intro k14
            induction k14 with
            | zero => intro k M0 s0 w133_14 hT133_14 hF133_14 hk k17 k18 k22 k23 k28 k29 hb0 hm0 hs0 k244 hR hen hk14; exact absurd hk14 (Nat.not_lt_zero _)
            | succ k14 ih14 =>
              intro k M0 s0 w133_14 hT133_14 hF133_14 hk k17 k18 k22 k23 k28 k29 hb0 hm0 hs0 k244 hR hen hk14
              refine TT_iload_n hK rfl 2 rfl dX3_tellBand_133 ?_
              refine TT_aload_n hK rfl 0 rfl dX3_tellBand_134 ?_
              refine gf_X3_18 hK (by decide) rfl (q := 16) rfl rfl dX3_tellBand_135 ?_
              refine TT_iload_n hK rfl 1 rfl dX3_tellBand_138 ?_
              refine TT_iald hK (o := 16) (n := 10) (by decide) rfl (by first | omega | (simp [up, setR] <;> omega)) (by first | omega | (simp [up, setR] <;> omega)) (v := (h 16) b) (rd_ (hF133_14 16 (by decide)) rfl) dX3_tellBand_139 ?_
              have r15 := ty_16 (i := b) (v := (h 16) b) hT133_14 (rd_ (hF133_14 16 (by decide)) rfl) (by omega) (by omega)
              refine iv_X3_85 hK (s_cpassesOf_e ((h 16) b) w133_14 hT133_14 (by first | omega | (simp [up, setR] <;> omega))) ⟨by decide, by decide⟩ (by decide) rfl rfl (Nat.le_of_ble_eq_true rfl) ⟨by decide, by decide⟩ dX3_tellBand_140 ?_
              intro r9 g140_16 hp9
              obtain ⟨⟨hT_16, hG_16⟩, z140_16, hr9, hz_16, e_16⟩ := hp9
              rw [hr9]
              have hF_16 : FR [17, 18, 22, 23, 24, 25, 26, 27, 28, 29, 30, 31, 32, 33, 34, 36, 37, 38] h g140_16 := FR_tr hF133_14 hG_16 (by decide)
              have e_at140 := e_16
              show TT K ly 0 0 143 [(0, vR 7), (1, vI b), (2, vI k)] [vI z140_16, vI k] g140_16
              refine TT_icmp_ge hK (tgt := 173) (irm (by omega) (by omega)) (irm (by omega) (by omega)) dX3_tellBand_143 (by decide) (fun hb143_17 => ?_) (fun hb143_17 => ?_)
              · refine TT_aload_n hK rfl 0 rfl dX3_tellBand_173 ?_
                refine gf_X3_63 hK (by decide) rfl (q := 34) rfl rfl dX3_tellBand_174 ?_
                refine iv_X3_174 hK (s_tbegin_e g140_16 hT_16 ) (by decide) rfl ⟨by decide, by decide⟩ (by decide) rfl rfl (Nat.le_of_ble_eq_true rfl) ⟨by decide, by decide⟩ dX3_tellBand_177 ?_
                intro r9 g177_18 hp9
                obtain ⟨⟨hT_18, hG_18⟩, hr9, p1_18, p2_18, b3_18, b4_18, b5_18, b2_18, b8_18, st_18, lk_18⟩ := hp9
                rw [hr9]
                have hF_18 : FR [17, 18, 22, 23, 24, 25, 26, 27, 28, 29, 30, 31, 32, 33, 34, 36, 37, 38] h g177_18 := FR_tr hF_16 hG_18 (by decide)
                rw [show g140_16 38 = w133_14 38 from (hG_16 38 (by decide))] at b8_18
                have b3_at177 := b3_18
                have b4_at177 := b4_18
                have b5_at177 := b5_18
                have b2_at177 := b2_18
                have b8_at177 := b8_18
                have st_at177 := st_18
                have lk_at177 := lk_18
                show TT K ly 0 0 180 [(0, vR 7), (1, vI b), (2, vI k)] [] g177_18
                have cE0 : ES0 (((g177_18 34) 3), ((g177_18 34) 4), ((g177_18 34) 5), ((g177_18 34) 2), (g177_18 36), (g177_18 37), (g177_18 38)) := ⟨b3_at177, b4_at177, b5_at177, b2_at177, st_at177, lk_at177, by dsimp only; rw [b8_at177]; exact fup_eq _ _ _⟩
                have e16 : k = pas (h 16 b) := by omega
                rw [e16] at hR
                have cL := CW_len (M := M0) (kd := kdB b) (w := h 12 b) (g := h 13 b) (q := h 16 b) (s := s0) rw12 rw13 (by omega) hs0
                have a64 := A64 rw12 rw13
                have cT := CW_T hR.2.2.2 cE0 (EVR_ps M0 (kdB b) (h 12 b) (h 13 b) (h 16 b) (pas (h 16 b)).toNat (EVR_0 hs0)) rfl (by omega)
                have t3 := hR.2.2.2.1
                refine TT_aload_n hK rfl 0 rfl dX3_tellBand_180 ?_
                refine gf_X3_47 hK (by decide) rfl (q := 24) rfl rfl dX3_tellBand_181 ?_
                refine TT_aload_n hK rfl 0 rfl dX3_tellBand_184 ?_
                refine gf_X3_63 hK (by decide) rfl (q := 34) rfl rfl dX3_tellBand_185 ?_
                have e19_34_5 : g177_18 34 5 = (g177_18 34) 5 := rfl
                have e20_34_2 : g177_18 34 2 = (g177_18 34) 2 := rfl
                have e21_34_2 : g177_18 34 2 = (g177_18 34) 2 := rfl
                have e22_34_3 : g177_18 34 3 = (g177_18 34) 3 := rfl
                have e23_34_4 : g177_18 34 4 = (g177_18 34) 4 := rfl
                have e24_34_5 : g177_18 34 5 = (g177_18 34) 5 := rfl
                have e25_24_3 : g177_18 24 3 = (w133_14 24) 3 := rd_ (((hG_18 24 (by decide))).trans (hG_16 24 (by decide))) rfl
                have e26_24_3 : g177_18 24 3 = (w133_14 24) 3 := rd_ (((hG_18 24 (by decide))).trans (hG_16 24 (by decide))) rfl
                have e27_34_2 : g177_18 34 2 = (g177_18 34) 2 := rfl
                have e28_34_3 : g177_18 34 3 = (g177_18 34) 3 := rfl
                have e29_34_4 : g177_18 34 4 = (g177_18 34) 4 := rfl
                have e30_34_5 : g177_18 34 5 = (g177_18 34) 5 := rfl
                refine iv_X3_176 hK (s_tellTo_e g177_18 hT_18 (by rewrite [e19_34_5]; first | omega | (simp [up, setR] <;> omega)) (by rewrite [e20_34_2]; first | omega | (simp [up, setR] <;> omega)) (by rewrite [e21_34_2, e22_34_3, e23_34_4, e24_34_5]; exact ES0_q cE0) (by rewrite [e25_24_3]; omega) (by rewrite [e26_24_3, e27_34_2, e28_34_3, e29_34_4, e30_34_5]; rw [ES0_w cE0]; omega)) (by decide) rfl ⟨by decide, by decide⟩ (by decide) rfl rfl (Nat.le_of_ble_eq_true rfl) ⟨by decide, by decide⟩ dX3_tellBand_188 ?_
                intro r9 g188_31 hp9
                obtain ⟨⟨hT_31, hG_31⟩, hr9, p1_31, p2_31, tt_31⟩ := hp9
                rw [hr9]
                have hF_31 : FR [17, 18, 22, 23, 24, 25, 26, 27, 28, 29, 30, 31, 32, 33, 34, 36, 37, 38] h g188_31 := FR_tr hF_18 hG_31 (by decide)
                rw [show g177_18 24 3 = (w133_14 24) 3 from rd_ (((hG_18 24 (by decide))).trans (hG_16 24 (by decide))) rfl] at tt_31
                rw [show g177_18 25 = w133_14 25 from ((hG_18 25 (by decide))).trans (hG_16 25 (by decide))] at tt_31
                rw [show g177_18 26 = w133_14 26 from ((hG_18 26 (by decide))).trans (hG_16 26 (by decide))] at tt_31
                rw [show g177_18 34 2 = (g177_18 34) 2 from rfl] at tt_31
                rw [show g177_18 34 3 = (g177_18 34) 3 from rfl] at tt_31
                rw [show g177_18 34 4 = (g177_18 34) 4 from rfl] at tt_31
                rw [show g177_18 34 5 = (g177_18 34) 5 from rfl] at tt_31
                have tt_at188 := tt_31
                show TT K ly 0 0 191 [(0, vR 7), (1, vI b), (2, vI k)] [] g188_31
                rw [← tt_at188] at cT
                have kM := cT.2.1.1
                dsimp only at kM
                have kA := cT.2.1.2.1
                dsimp only at kA
                have kN := cT.2.2
                dsimp only at kN
                refine TT_aload_n hK rfl 0 rfl dX3_tellBand_191 ?_
                refine gf_X3_63 hK (by decide) rfl (q := 34) rfl rfl dX3_tellBand_192 ?_
                have e32_34_5 : g188_31 34 5 = (g188_31 34) 5 := rfl
                have e33_34_2 : g188_31 34 2 = (g188_31 34) 2 := rfl
                have e34_34_2 : g188_31 34 2 = (g188_31 34) 2 := rfl
                have e35_34_3 : g188_31 34 3 = (g188_31 34) 3 := rfl
                have e36_34_4 : g188_31 34 4 = (g188_31 34) 4 := rfl
                have e37_34_5 : g188_31 34 5 = (g188_31 34) 5 := rfl
                have e38_34_3 : g188_31 34 3 = (g188_31 34) 3 := rfl
                have e39_34_2 : g188_31 34 2 = (g188_31 34) 2 := rfl
                refine iv_X3_180 hK (s_end_e g188_31 hT_31 (by rewrite [e32_34_5]; first | omega | (simp [up, setR] <;> omega)) (by rewrite [e33_34_2]; first | omega | (simp [up, setR] <;> omega)) (by rewrite [e34_34_2, e35_34_3, e36_34_4, e37_34_5]; exact kM) (by rewrite [e38_34_3]; exact kA) (by rewrite [e39_34_2]; omega)) (by decide) rfl ⟨by decide, by decide⟩ (by decide) rfl rfl (Nat.le_of_ble_eq_true rfl) ⟨by decide, by decide⟩ dX3_tellBand_195 ?_
                intro r9 g195_40 hp9
                obtain ⟨⟨hT_40, hG_40⟩, hr9, p1_40, p2_40, en_40⟩ := hp9
                rw [hr9]
                have hF_40 : FR [17, 18, 22, 23, 24, 25, 26, 27, 28, 29, 30, 31, 32, 33, 34, 36, 37, 38] h g195_40 := FR_tr hF_31 hG_40 (by decide)
                rw [show g188_31 34 2 = (g188_31 34) 2 from rfl] at en_40
                rw [show g188_31 34 3 = (g188_31 34) 3 from rfl] at en_40
                rw [show g188_31 34 4 = (g188_31 34) 4 from rfl] at en_40
                rw [show g188_31 34 5 = (g188_31 34) 5 from rfl] at en_40
                have en_at195 := en_40
                show TT K ly 0 0 198 [(0, vR 7), (1, vI b), (2, vI k)] [] g195_40
                have en3 := congrArg (fun q => q.2.2.1) en_at195
                dsimp only at en3
                rw [(endS_q (AGR_rf _ _) kM.2.2.2.2.2.2.1).1] at en3
                refine TT_aload_n hK rfl 0 rfl dX3_tellBand_198 ?_
                refine gf_X3_25 hK (by decide) rfl (q := 18) rfl rfl dX3_tellBand_199 ?_
                refine TT_iload_n hK rfl 1 rfl dX3_tellBand_202 ?_
                refine TT_aload_n hK rfl 0 rfl dX3_tellBand_203 ?_
                refine gf_X3_63 hK (by decide) rfl (q := 34) rfl rfl dX3_tellBand_204 ?_
                refine TT_aload_n hK rfl 0 rfl dX3_tellBand_207 ?_
                refine gf_X3_40 hK (by decide) rfl (q := 22) rfl rfl dX3_tellBand_208 ?_
                have e41_34_2 : g195_40 34 2 = (g195_40 34) 2 := rfl
                have e42_22_1 : g195_40 22 1 = (w133_14 22) 1 := rd_ (((hG_40 22 (by decide))).trans (((hG_31 22 (by decide))).trans (((hG_18 22 (by decide))).trans (hG_16 22 (by decide))))) rfl
                have e43_34_2 : g195_40 34 2 = (g195_40 34) 2 := rfl
                have e44_34_2 : g195_40 34 2 = (g195_40 34) 2 := rfl
                refine iv_X3_183 hK (s_addBytes_e g195_40 hT_40 (by rewrite [e41_34_2]; first | omega | (simp [up, setR] <;> omega)) (by rewrite [e42_22_1, e43_34_2]; omega) (by rewrite [e44_34_2]; omega)) (by decide) rfl ⟨by decide, by decide⟩ (by decide) rfl rfl (Nat.le_of_ble_eq_true rfl) ⟨by decide, by decide⟩ dX3_tellBand_211 ?_
                intro r9 g211_45 hp9
                obtain ⟨⟨hT_45, hG_45⟩, z211_45, hr9, hz_45, z9_45, l9_45, z8_45, k8_45⟩ := hp9
                rw [hr9]
                have hF_45 : FR [17, 18, 22, 23, 24, 25, 26, 27, 28, 29, 30, 31, 32, 33, 34, 36, 37, 38] h g211_45 := FR_tr hF_40 hG_45 (by decide)
                rw [show g195_40 34 2 = (g195_40 34) 2 from rfl] at z9_45
                rw [show g195_40 22 1 = (w133_14 22) 1 from rd_ (((hG_40 22 (by decide))).trans (((hG_31 22 (by decide))).trans (((hG_18 22 (by decide))).trans (hG_16 22 (by decide))))) rfl] at l9_45
                rw [show g195_40 22 1 = (w133_14 22) 1 from rd_ (((hG_40 22 (by decide))).trans (((hG_31 22 (by decide))).trans (((hG_18 22 (by decide))).trans (hG_16 22 (by decide))))) rfl] at z8_45
                rw [show g195_40 22 1 = (w133_14 22) 1 from rd_ (((hG_40 22 (by decide))).trans (((hG_31 22 (by decide))).trans (((hG_18 22 (by decide))).trans (hG_16 22 (by decide))))) rfl] at k8_45
                rw [show g195_40 23 = w133_14 23 from ((hG_40 23 (by decide))).trans (((hG_31 23 (by decide))).trans (((hG_18 23 (by decide))).trans (hG_16 23 (by decide))))] at k8_45
                have z9_at211 := z9_45
                have l9_at211 := l9_45
                have z8_at211 := z8_45
                have k8_at211 := k8_45
                show TT K ly 0 0 214 [(0, vR 7), (1, vI b), (2, vI k)] [vI z211_45, vI b, vR 18] g211_45
                refine TT_iast hK (o := 18) (n := 10) (by decide) rfl (by omega) (by omega) dX3_tellBand_214 ?_
                refine TT_hp (h' := setO g211_45 18 (fup (w133_14 18) b z211_45)) (up_can (((hG_45 18 (by decide))).trans (((hG_40 18 (by decide))).trans (((hG_31 18 (by decide))).trans (((hG_18 18 (by decide))).trans (hG_16 18 (by decide)))))) rfl rfl) ?_
                have hT_46 : TY (setO g211_45 18 (fup (w133_14 18) b z211_45)) := tu_18 hT_45 (show up g211_45 18 b z211_45 = (setO g211_45 18 (fup (w133_14 18) b z211_45)) from up_can (((hG_45 18 (by decide))).trans (((hG_40 18 (by decide))).trans (((hG_31 18 (by decide))).trans (((hG_18 18 (by decide))).trans (hG_16 18 (by decide)))))) rfl rfl) (by omega)
                have hF_46 : FR [17, 18, 22, 23, 24, 25, 26, 27, 28, 29, 30, 31, 32, 33, 34, 36, 37, 38] h (setO g211_45 18 (fup (w133_14 18) b z211_45)) := FR_up (show up g211_45 18 b z211_45 = (setO g211_45 18 (fup (w133_14 18) b z211_45)) from up_can (((hG_45 18 (by decide))).trans (((hG_40 18 (by decide))).trans (((hG_31 18 (by decide))).trans (((hG_18 18 (by decide))).trans (hG_16 18 (by decide)))))) rfl rfl) hF_45 (by decide)
                refine TT_vret hK hQ ?_ dX3_tellBand_215
                have e47_18 : (setO g211_45 18 (fup (w133_14 18) b z211_45)) 18 = fup (w133_14 18) b z211_45 := sOf_eq _ _ _
                have e48_23 : (setO g211_45 18 (fup (w133_14 18) b z211_45)) 23 = g211_45 23 := sOf_ne _ _ (by decide)
                have e49_24_3 : (setO g211_45 18 (fup (w133_14 18) b z211_45)) 24 3 = (w133_14 24) 3 := rd_ ((sOf_ne _ _ (by decide)).trans (((hG_45 24 (by decide))).trans (((hG_40 24 (by decide))).trans (((hG_31 24 (by decide))).trans (((hG_18 24 (by decide))).trans (hG_16 24 (by decide))))))) rfl
                have e50_24_4 : (setO g211_45 18 (fup (w133_14 18) b z211_45)) 24 4 = (w133_14 24) 4 := rd_ ((sOf_ne _ _ (by decide)).trans (((hG_45 24 (by decide))).trans (((hG_40 24 (by decide))).trans (((hG_31 24 (by decide))).trans (((hG_18 24 (by decide))).trans (hG_16 24 (by decide))))))) rfl
                have e51_25 : (setO g211_45 18 (fup (w133_14 18) b z211_45)) 25 = w133_14 25 := (sOf_ne _ _ (by decide)).trans (((hG_45 25 (by decide))).trans (((hG_40 25 (by decide))).trans (((hG_31 25 (by decide))).trans (((hG_18 25 (by decide))).trans (hG_16 25 (by decide))))))
                have e52_26 : (setO g211_45 18 (fup (w133_14 18) b z211_45)) 26 = w133_14 26 := (sOf_ne _ _ (by decide)).trans (((hG_45 26 (by decide))).trans (((hG_40 26 (by decide))).trans (((hG_31 26 (by decide))).trans (((hG_18 26 (by decide))).trans (hG_16 26 (by decide))))))
                have e53_27 : (setO g211_45 18 (fup (w133_14 18) b z211_45)) 27 = w133_14 27 := (sOf_ne _ _ (by decide)).trans (((hG_45 27 (by decide))).trans (((hG_40 27 (by decide))).trans (((hG_31 27 (by decide))).trans (((hG_18 27 (by decide))).trans (hG_16 27 (by decide))))))
                have e54_18 : (setO g211_45 18 (fup (w133_14 18) b z211_45)) 18 = fup (w133_14 18) b z211_45 := sOf_eq _ _ _
                have e55_22_1 : (setO g211_45 18 (fup (w133_14 18) b z211_45)) 22 1 = (g211_45 22) 1 := rd_ (sOf_ne _ _ (by decide)) rfl
                have e56_23 : (setO g211_45 18 (fup (w133_14 18) b z211_45)) 23 = g211_45 23 := sOf_ne _ _ (by decide)
                have e57_17 : (setO g211_45 18 (fup (w133_14 18) b z211_45)) 17 = w133_14 17 := (sOf_ne _ _ (by decide)).trans (((hG_45 17 (by decide))).trans (((hG_40 17 (by decide))).trans (((hG_31 17 (by decide))).trans (((hG_18 17 (by decide))).trans (hG_16 17 (by decide))))))
                have e58_18 : (setO g211_45 18 (fup (w133_14 18) b z211_45)) 18 = fup (w133_14 18) b z211_45 := sOf_eq _ _ _
                exact ⟨⟨hT_46, hF_46⟩, rfl, (by rewrite [e47_18, e48_23, e49_24_3, e50_24_4, e51_25, e52_26, e53_27]; first | exact CWX_0 (by omega) (fup_eq _ _ _) (by first | rfl | assumption | omega) (by first | rfl | assumption | omega) | (rw [k22] at z8_at211; exact CWX_1 (by omega) hm0 hs0 cE0 (by omega) hR.2.2.2 (fun j hj => hen j (by omega)) cT.1 en_at195 z9_at211 (fup_eq _ _ _) z8_at211)), (by rewrite [e54_18, e55_22_1]; first | (rw [fup_eq]; omega) | (rw [fup_eq]; have l9 := l9_at211; have z9 := z9_at211; split at z9 <;> (have l8 := l9 (by omega); omega))), (by rewrite [e56_23]; first | (intro j hj; rfl) | (intro j hj; rw [k22] at k8_at211; rw [k8_at211 j hj, k23])), (by rewrite [e57_17]; first | rfl | exact k17), (by rewrite [e58_18]; intro j hj; first | exact fup_ne _ _ hj | (rw [fup_ne _ _ hj, k18]; exact fup_ne _ _ hj))⟩
              · refine TT_aload_n hK rfl 0 rfl dX3_tellBand_146 ?_
                refine gf_X3_56 hK (by decide) rfl (q := 28) rfl rfl dX3_tellBand_147 ?_
                refine TT_iload_n hK rfl 2 rfl dX3_tellBand_150 ?_
                refine TT_aload_n hK rfl 0 rfl dX3_tellBand_151 ?_
                refine gf_X3_18 hK (by decide) rfl (q := 16) rfl rfl dX3_tellBand_152 ?_
                refine TT_iload_n hK rfl 1 rfl dX3_tellBand_155 ?_
                refine TT_iald hK (o := 16) (n := 10) (by decide) rfl (by first | omega | (simp [up, setR] <;> omega)) (by first | omega | (simp [up, setR] <;> omega)) (v := (h 16) b) (rd_ (((hG_16 16 (by decide))).trans (hF133_14 16 (by decide))) rfl) dX3_tellBand_156 ?_
                have e59_29 : g140_16 29 = w133_14 29 := (hG_16 29 (by decide))
                have e60_28_6 : g140_16 28 6 = (w133_14 28) 6 := rd_ (hG_16 28 (by decide)) rfl
                have e61_28_7 : g140_16 28 7 = (w133_14 28) 7 := rd_ (hG_16 28 (by decide)) rfl
                refine iv_X3_167 hK (s_runPass_e k ((h 16) b) g140_16 hT_16 (by first | omega | (simp [up, setR] <;> omega)) (by first | omega | (simp [up, setR] <;> omega)) (by rewrite [e59_29]; rw [k29]; exact hb0) (by rewrite [e60_28_6, e61_28_7]; omega) (by have k9 := pas_3 (q := h 16 b) (by omega); omega)) (by decide) rfl ⟨by decide, by decide⟩ (by decide) rfl rfl (Nat.le_of_ble_eq_true rfl) ⟨by decide, by decide⟩ dX3_tellBand_157 ?_
                intro r9 g157_62 hp9
                obtain ⟨⟨hT_62, hG_62⟩, hr9, ps_62, k28_62, k24_62⟩ := hp9
                rw [hr9]
                have hF_62 : FR [17, 18, 22, 23, 24, 25, 26, 27, 28, 29, 30, 31, 32, 33, 34, 36, 37, 38] h g157_62 := FR_tr hF_16 hG_62 (by decide)
                rw [show g140_16 24 3 = (w133_14 24) 3 from rd_ (hG_16 24 (by decide)) rfl] at ps_62
                rw [show g140_16 25 = w133_14 25 from (hG_16 25 (by decide))] at ps_62
                rw [show g140_16 26 = w133_14 26 from (hG_16 26 (by decide))] at ps_62
                rw [show g140_16 28 6 = (w133_14 28) 6 from rd_ (hG_16 28 (by decide)) rfl] at ps_62
                rw [show g140_16 28 7 = (w133_14 28) 7 from rd_ (hG_16 28 (by decide)) rfl] at ps_62
                rw [show g140_16 28 8 = (w133_14 28) 8 from rd_ (hG_16 28 (by decide)) rfl] at ps_62
                rw [show g140_16 29 = w133_14 29 from (hG_16 29 (by decide))] at ps_62
                rw [show g140_16 31 = w133_14 31 from (hG_16 31 (by decide))] at ps_62
                rw [show g140_16 32 = w133_14 32 from (hG_16 32 (by decide))] at ps_62
                rw [show g140_16 33 = w133_14 33 from (hG_16 33 (by decide))] at ps_62
                rw [show g140_16 28 6 = (w133_14 28) 6 from rd_ (hG_16 28 (by decide)) rfl] at k28_62
                rw [show g140_16 28 7 = (w133_14 28) 7 from rd_ (hG_16 28 (by decide)) rfl] at k28_62
                rw [show g140_16 28 8 = (w133_14 28) 8 from rd_ (hG_16 28 (by decide)) rfl] at k28_62
                rw [show g140_16 24 4 = (w133_14 24) 4 from rd_ (hG_16 24 (by decide)) rfl] at k24_62
                have ps_at157 := ps_62
                have k28_at157 := k28_62
                have k24_at157 := k24_62
                show TT K ly 0 0 160 [(0, vR 7), (1, vI b), (2, vI k)] [] g157_62
                refine TT_aload_n hK rfl 0 rfl dX3_tellBand_160 ?_
                refine gf_X3_47 hK (by decide) rfl (q := 24) rfl rfl dX3_tellBand_161 ?_
                refine iv_X3_171 hK (s_endPass_x g157_62 hT_62 ) (by decide) rfl ⟨by decide, by decide⟩ (by decide) rfl rfl (Nat.le_of_ble_eq_true rfl) ⟨by decide, by decide⟩ dX3_tellBand_164 ?_
                intro r9 g164_63 hp9
                obtain ⟨⟨hT_63, hG_63⟩, hr9, n3_63, n4_63⟩ := hp9
                rw [hr9]
                have hF_63 : FR [17, 18, 22, 23, 24, 25, 26, 27, 28, 29, 30, 31, 32, 33, 34, 36, 37, 38] h g164_63 := FR_tr hF_62 hG_63 (by decide)
                rw [show g157_62 24 3 = (g157_62 24) 3 from rfl] at n3_63
                rw [show g157_62 24 3 = (g157_62 24) 3 from rfl] at n4_63
                rw [show g157_62 24 4 = (g157_62 24) 4 from rfl] at n4_63
                rw [show g157_62 27 = w133_14 27 from ((hG_62 27 (by decide))).trans (hG_16 27 (by decide))] at n4_63
                have n3_at164 := n3_63
                have n4_at164 := n4_63
                show TT K ly 0 0 167 [(0, vR 7), (1, vI b), (2, vI k)] [] g164_63
                refine TT_iinc hK (v := k + 1) (lv' := [(2, vI (k + 1)), (0, vR 7), (1, vI b)]) 2 rfl rfl (by decide) rfl dX3_tellBand_167 ?_
                refine TT_goto hK (tgt := 133) dX3_tellBand_170 (by decide) ?_
                refine TT_sub [1, 2, 0] rfl ?_
                have e64_17 : g164_63 17 = w133_14 17 := ((hG_63 17 (by decide))).trans (((hG_62 17 (by decide))).trans (hG_16 17 (by decide)))
                have e65_18 : g164_63 18 = w133_14 18 := ((hG_63 18 (by decide))).trans (((hG_62 18 (by decide))).trans (hG_16 18 (by decide)))
                have e66_22_1 : g164_63 22 1 = (w133_14 22) 1 := rd_ (((hG_63 22 (by decide))).trans (((hG_62 22 (by decide))).trans (hG_16 22 (by decide)))) rfl
                have e67_23 : g164_63 23 = w133_14 23 := ((hG_63 23 (by decide))).trans (((hG_62 23 (by decide))).trans (hG_16 23 (by decide)))
                have e68_28_6 : g164_63 28 6 = (g157_62 28) 6 := rd_ (hG_63 28 (by decide)) rfl
                have e69_28_7 : g164_63 28 7 = (g157_62 28) 7 := rd_ (hG_63 28 (by decide)) rfl
                have e70_28_8 : g164_63 28 8 = (g157_62 28) 8 := rd_ (hG_63 28 (by decide)) rfl
                have e71_29 : g164_63 29 = w133_14 29 := ((hG_63 29 (by decide))).trans (((hG_62 29 (by decide))).trans (hG_16 29 (by decide)))
                have e72_24_4 : g164_63 24 4 = (g164_63 24) 4 := rfl
                have e73_24_3 : g164_63 24 3 = (g164_63 24) 3 := rfl
                have e74_25 : g164_63 25 = g157_62 25 := (hG_63 25 (by decide))
                have e75_26 : g164_63 26 = g157_62 26 := (hG_63 26 (by decide))
                have e76_31 : g164_63 31 = g157_62 31 := (hG_63 31 (by decide))
                have e77_32 : g164_63 32 = g157_62 32 := (hG_63 32 (by decide))
                have e78_33 : g164_63 33 = g157_62 33 := (hG_63 33 (by decide))
                exact ih14 (k + 1) M0 s0 g164_63 hT_63 hF_63 (by omega) (by rewrite [e64_17]; first | rfl | exact k17) (by rewrite [e65_18]; first | rfl | exact k18) (by rewrite [e66_22_1]; first | omega | (simp [up, setR] <;> omega)) (by rewrite [e67_23]; first | rfl | exact k23) (by rewrite [e68_28_6, e69_28_7, e70_28_8]; rw [k28_at157.1, k28_at157.2.1, k28_at157.2.2]; exact k28) (by rewrite [e71_29]; first | exact k29 | rfl) (by exact hb0) (by exact hm0) (by exact hs0) (by rewrite [e72_24_4]; first | omega | (simp [up, setR] <;> omega)) (by rewrite [e73_24_3, e74_25, e75_26, e76_31, e77_32, e78_33]; have qq := ps_at157 _ hR; rw [k29, k28.1, k28.2.1, k28.2.2] at qq; rw [show (k + 1).toNat = k.toNat + 1 by omega]; unfold psN; rw [show ((k.toNat : Nat) : Int) = k by omega, n3_at164]; exact qq) (by intro j g1; have qq := ps_at157 _ hR; rw [k29, k28.1, k28.2.1, k28.2.2] at qq; have q4 := qq.2.2.2.1; have n4 := n4_at164 (by omega); rw [n4.2, k24_at157, k244]; by_cases e : (j : Int) = k; (have ej : j = k.toNat := (by omega); subst ej; rw [e, fup_eq, q4]; show _ = min ((passT M0 (kdB b) (h 12 b) (h 13 b) ((k.toNat : Nat) : Int) (h 16 b) (psN M0 (kdB b) (h 12 b) (h 13 b) (h 16 b) k.toNat s0)).2.2.2.length : Int) 1024; rw [e]); (rw [fup_ne _ _ e]; exact hen j (by omega))) (by first | omega | (simp [up, setR] <;> omega))
          refine TT_sub [1, 2, 0] rfl ?_
          have e79_22_1 : w72_11 22 1 = (w72_11 22) 1 := rfl
          have e80_28_6 : w72_11 28 6 = (w72_11 28) 6 := rfl
          have e81_28_7 : w72_11 28 7 = (w72_11 28) 7 := rfl
          have e82_28_8 : w72_11 28 8 = (w72_11 28) 8 := rfl
          have e83_24_4 : w72_11 24 4 = (w72_11 24) 4 := rfl
          have e84_24_3 : w72_11 24 3 = (w72_11 24) 3 := rfl
          exact L133_14 ((((34 : Int) - 0).toNat) + 1) 0 (w72_11 29) (w72_11 31, w72_11 32, w72_11 33, []) w72_11 hT72_11 hF72_11 (by have := pas_r12 (q := h 16 b) (by omega); omega) (by first | rfl | exact k17) (by first | rfl | exact k18) (by rewrite [e79_22_1]; first | omega | (simp [up, setR] <;> omega)) (by first | rfl | exact k23) (by rewrite [e80_28_6, e81_28_7, e82_28_8]; exact k28) (by rfl) (by exact hB9) (by intro x2 y2 g1 g2 g3 g4; exact hmm x2 y2 g1 g2 g3 (by omega)) (by exact ⟨fun j g1 g2 => ⟨z31 j g1 g2, z32 j g1 g2, z33 j g1 g2⟩, rfl⟩) (by rewrite [e83_24_4]; first | omega | (simp [up, setR] <;> omega)) (by rewrite [e84_24_3]; exact ⟨rfl, rfl, rfl, by rw [k24.1]; exact TPE_0⟩) (by intro j g1; exfalso; omega) (Nat.lt_succ_self _)
        · refine TT_iconst hK dX3_tellBand_85 ?_
          refine TT_istore_n hK rfl (lv' := [(3, vI 0), (0, vR 7), (1, vI b), (2, vI y)]) (by decide) rfl dX3_tellBand_86 ?_
          have L87_85 : ∀ (k85 : Nat) (x : Int) (w87_85 : Hp_), TY w87_85 → FR [17, 18, 22, 23, 24, 25, 26, 27, 28, 29, 30, 31, 32, 33, 34, 36, 37, 38] h w87_85 → (0 ≤ x ∧ x ≤ h 12 b) → (∀ x2 y2 : Int, 0 ≤ x2 → x2 < h 12 b → 0 ≤ y2 → y2 < y → (w87_85 29) (10 * y2 + x2 + 11) = h 9 ((h 11 b + y2) * 8 + h 10 b + x2)) → (∀ x2 : Int, 0 ≤ x2 → x2 < x → (w87_85 29) (10 * y + x2 + 11) = h 9 ((h 11 b + y) * 8 + h 10 b + x2)) → (∀ q : Int, 0 ≤ q → q < 100 → -4095 ≤ (w87_85 29) q ∧ (w87_85 29) q ≤ 4095) → ((w87_85 17) = fup (h 17) b (h 22 1)) → ((w87_85 18) = fup (h 18) b 0) → ((w87_85 22 1) = h 22 1) → ((w87_85 23) = h 23) → ((w87_85 24 3) = 0 ∧ (w87_85 24 4) = 0) → ((w87_85 28 6) = h 12 b ∧ (w87_85 28 7) = h 13 b ∧ (w87_85 28 8) = kdB b) → (∀ j : Int, 0 ≤ j → j < 100 → (w87_85 31) j = 0) → (∀ j : Int, 0 ≤ j → j < 100 → (w87_85 32) j = 0) → (∀ j : Int, 0 ≤ j → j < 100 → (w87_85 33) j = 0) → ((8 : Int) - x).toNat < k85 → TT K ly 0 0 87 [(0, vR 7), (1, vI b), (2, vI y), (3, vI x)] [] w87_85 := by
            intro k85
            induction k85 with
            | zero => intro x w87_85 hT87_85 hF87_85 hx hmm hm1 hB9 k17 k18 k22 k23 k24 k28 z31 z32 z33 hk85; exact absurd hk85 (Nat.not_lt_zero _)
            | succ k85 ih85 =>
              intro x w87_85 hT87_85 hF87_85 hx hmm hm1 hB9 k17 k18 k22 k23 k24 k28 z31 z32 z33 hk85
              refine TT_iload_n hK rfl 3 rfl dX3_tellBand_87 ?_
              refine TT_aload_n hK rfl 0 rfl dX3_tellBand_88 ?_
              refine gf_X3_12 hK (by decide) rfl (q := 8) rfl rfl dX3_tellBand_89 ?_
              refine gf_X3_79 hK (by decide) rfl (q := 12) rfl rfl dX3_tellBand_92 ?_
              refine TT_iload_n hK rfl 1 rfl dX3_tellBand_95 ?_
              refine TT_iald hK (o := 12) (n := 10) (by decide) rfl (by first | omega | (simp [up, setR] <;> omega)) (by first | omega | (simp [up, setR] <;> omega)) (v := (h 12) b) (rd_ (hF87_85 12 (by decide)) rfl) dX3_tellBand_96 ?_
              have r86 := ty_12 (i := b) (v := (h 12) b) hT87_85 (rd_ (hF87_85 12 (by decide)) rfl) (by omega) (by omega)
              refine TT_icmp_ge hK (tgt := 125) (irm (by omega) (by omega)) (irm (by omega) (by omega)) dX3_tellBand_97 (by decide) (fun hb97_87 => ?_) (fun hb97_87 => ?_)
              · refine TT_iinc hK (v := y + 1) (lv' := [(2, vI (y + 1)), (0, vR 7), (1, vI b), (3, vI x)]) 2 rfl rfl (by decide) rfl dX3_tellBand_125 ?_
                refine TT_goto hK (tgt := 72) dX3_tellBand_128 (by decide) ?_
                refine TT_sub [1, 2, 0] rfl ?_
                have e88_22_1 : w87_85 22 1 = (w87_85 22) 1 := rfl
                have e89_24_3 : w87_85 24 3 = (w87_85 24) 3 := rfl
                have e90_24_4 : w87_85 24 4 = (w87_85 24) 4 := rfl
                have e91_28_6 : w87_85 28 6 = (w87_85 28) 6 := rfl
                have e92_28_7 : w87_85 28 7 = (w87_85 28) 7 := rfl
                have e93_28_8 : w87_85 28 8 = (w87_85 28) 8 := rfl
                exact ih11 (y + 1) w87_85 hT87_85 hF87_85 (by first | omega | (simp [up, setR] <;> omega)) (by intro x2 y2 g1 g2 g3 g4; by_cases e : y2 = y; (rw [e]; exact hm1 x2 g1 (by omega)); exact hmm x2 y2 g1 g2 g3 (by omega)) (by exact hB9) (by first | rfl | exact k17) (by first | rfl | exact k18) (by rewrite [e88_22_1]; first | omega | (simp [up, setR] <;> omega)) (by first | rfl | exact k23) (by rewrite [e89_24_3, e90_24_4]; first | omega | (simp [up, setR] <;> omega)) (by rewrite [e91_28_6, e92_28_7, e93_28_8]; exact k28) (by exact z31) (by exact z32) (by exact z33) (by first | omega | (simp [up, setR] <;> omega))
              · refine TT_aload_n hK rfl 0 rfl dX3_tellBand_100 ?_
                refine gf_X3_56 hK (by decide) rfl (q := 28) rfl rfl dX3_tellBand_101 ?_
                refine TT_iload_n hK rfl 3 rfl dX3_tellBand_104 ?_
                refine TT_iload_n hK rfl 2 rfl dX3_tellBand_105 ?_
                refine TT_aload_n hK rfl 0 rfl dX3_tellBand_106 ?_
                refine gf_X3_12 hK (by decide) rfl (q := 8) rfl rfl dX3_tellBand_107 ?_
                refine TT_iload_n hK rfl 1 rfl dX3_tellBand_110 ?_
                refine TT_iload_n hK rfl 3 rfl dX3_tellBand_111 ?_
                refine TT_iload_n hK rfl 2 rfl dX3_tellBand_112 ?_
                have e94_10 : w87_85 10 = h 10 := (hF87_85 10 (by decide))
                have e95_11 : w87_85 11 = h 11 := (hF87_85 11 (by decide))
                have e96_12 : w87_85 12 = h 12 := (hF87_85 12 (by decide))
                have e97_13 : w87_85 13 = h 13 := (hF87_85 13 (by decide))
                refine iv_X3_89 hK (s_at_x8 b x y w87_85 hT87_85 (by first | omega | (simp [up, setR] <;> omega)) (by first | omega | (simp [up, setR] <;> omega)) (by first | omega | (simp [up, setR] <;> omega)) (by rewrite [e94_10, e95_11, e96_12, e97_13]; first | assumption | exact hbd)) (by decide) rfl ⟨by decide, by decide⟩ (by decide) rfl rfl (Nat.le_of_ble_eq_true rfl) ⟨by decide, by decide⟩ dX3_tellBand_113 ?_
                intro r9 g113_98 hp9
                obtain ⟨⟨hT_98, hG_98⟩, z113_98, hr9, hz_98, q1_98⟩ := hp9
                rw [hr9]
                have hF_98 : FR [17, 18, 22, 23, 24, 25, 26, 27, 28, 29, 30, 31, 32, 33, 34, 36, 37, 38] h g113_98 := FR_tr hF87_85 hG_98 (by decide)
                rw [show w87_85 10 = h 10 from (hF87_85 10 (by decide))] at q1_98
                rw [show w87_85 11 = h 11 from (hF87_85 11 (by decide))] at q1_98
                rw [show w87_85 12 = h 12 from (hF87_85 12 (by decide))] at q1_98
                rw [show w87_85 13 = h 13 from (hF87_85 13 (by decide))] at q1_98
                rw [show w87_85 8 10 = (h 8) 10 from rd_ (hF87_85 8 (by decide)) rfl] at q1_98
                rw [show w87_85 9 = h 9 from (hF87_85 9 (by decide))] at q1_98
                have q1_at113 := q1_98
                show TT K ly 0 0 116 [(0, vR 7), (1, vI b), (2, vI y), (3, vI x)] [vI z113_98, vI y, vI x, vR 28] g113_98
                refine iv_X3_164 hK (s_mean_e x y z113_98 g113_98 hT_98 (by first | omega | (simp [up, setR] <;> omega)) (by first | omega | (simp [up, setR] <;> omega)) (by first | omega | (simp [up, setR] <;> omega))) (by decide) rfl ⟨by decide, by decide⟩ (by decide) rfl rfl (Nat.le_of_ble_eq_true rfl) ⟨by decide, by decide⟩ dX3_tellBand_116 ?_
                intro r9 g116_99 hp9
                obtain ⟨⟨hT_99, hG_99⟩, hr9, mn_99⟩ := hp9
                rw [hr9]
                have hF_99 : FR [17, 18, 22, 23, 24, 25, 26, 27, 28, 29, 30, 31, 32, 33, 34, 36, 37, 38] h g116_99 := FR_tr hF_98 hG_99 (by decide)
                rw [show g113_98 29 = w87_85 29 from (hG_98 29 (by decide))] at mn_99
                have mn_at116 := mn_99
                show TT K ly 0 0 119 [(0, vR 7), (1, vI b), (2, vI y), (3, vI x)] [] g116_99
                refine TT_iinc hK (v := x + 1) (lv' := [(3, vI (x + 1)), (0, vR 7), (1, vI b), (2, vI y)]) 3 rfl rfl (by decide) rfl dX3_tellBand_119 ?_
                refine TT_goto hK (tgt := 87) dX3_tellBand_122 (by decide) ?_
                refine TT_sub [1, 2, 3, 0] rfl ?_
                have e100_17 : g116_99 17 = w87_85 17 := ((hG_99 17 (by decide))).trans (hG_98 17 (by decide))
                have e101_18 : g116_99 18 = w87_85 18 := ((hG_99 18 (by decide))).trans (hG_98 18 (by decide))
                have e102_22_1 : g116_99 22 1 = (w87_85 22) 1 := rd_ (((hG_99 22 (by decide))).trans (hG_98 22 (by decide))) rfl
                have e103_23 : g116_99 23 = w87_85 23 := ((hG_99 23 (by decide))).trans (hG_98 23 (by decide))
                have e104_24_3 : g116_99 24 3 = (w87_85 24) 3 := rd_ (((hG_99 24 (by decide))).trans (hG_98 24 (by decide))) rfl
                have e105_24_4 : g116_99 24 4 = (w87_85 24) 4 := rd_ (((hG_99 24 (by decide))).trans (hG_98 24 (by decide))) rfl
                have e106_28_6 : g116_99 28 6 = (w87_85 28) 6 := rd_ (((hG_99 28 (by decide))).trans (hG_98 28 (by decide))) rfl
                have e107_28_7 : g116_99 28 7 = (w87_85 28) 7 := rd_ (((hG_99 28 (by decide))).trans (hG_98 28 (by decide))) rfl
                have e108_28_8 : g116_99 28 8 = (w87_85 28) 8 := rd_ (((hG_99 28 (by decide))).trans (hG_98 28 (by decide))) rfl
                have e109_31 : g116_99 31 = w87_85 31 := ((hG_99 31 (by decide))).trans (hG_98 31 (by decide))
                have e110_32 : g116_99 32 = w87_85 32 := ((hG_99 32 (by decide))).trans (hG_98 32 (by decide))
                have e111_33 : g116_99 33 = w87_85 33 := ((hG_99 33 (by decide))).trans (hG_98 33 (by decide))
                exact ih85 (x + 1) g116_99 hT_99 hF_99 (by first | omega | (simp [up, setR] <;> omega)) (by intro x2 y2 g1 g2 g3 g4; rw [mn_at116, fup_ne _ _ (by omega)]; exact hmm x2 y2 g1 g2 g3 g4) (by intro x2 g1 g2; rw [mn_at116]; by_cases e : x2 = x; (rw [e, fup_eq]; exact q1_at113.1 (by omega)); (rw [fup_ne _ _ (by omega)]; exact hm1 x2 g1 (by omega))) (by intro q g1 g2; rw [mn_at116]; by_cases e : q = 10 * y + x + 11; (rw [e, fup_eq]; have v9 : -4095 ≤ h 9 ((h 11 b + y) * 8 + h 10 b + x) ∧ h 9 ((h 11 b + y) * 8 + h 10 b + x) ≤ 4095 := hnb x y (by omega) (by omega) (by omega) (by omega); have v8 := q1_at113.1 (by omega); omega); (rw [fup_ne _ _ e]; exact hB9 q g1 g2)) (by rewrite [e100_17]; first | rfl | exact k17) (by rewrite [e101_18]; first | rfl | exact k18) (by rewrite [e102_22_1]; first | omega | (simp [up, setR] <;> omega)) (by rewrite [e103_23]; first | rfl | exact k23) (by rewrite [e104_24_3, e105_24_4]; first | omega | (simp [up, setR] <;> omega)) (by rewrite [e106_28_6, e107_28_7, e108_28_8]; exact k28) (by rewrite [e109_31]; exact z31) (by rewrite [e110_32]; exact z32) (by rewrite [e111_33]; exact z33) (by first | omega | (simp [up, setR] <;> omega))
          refine TT_sub [1, 2, 3, 0] rfl ?_
          have e112_22_1 : w72_11 22 1 = (w72_11 22) 1 := rfl
          have e113_24_3 : w72_11 24 3 = (w72_11 24) 3 := rfl
          have e114_24_4 : w72_11 24 4 = (w72_11 24) 4 := rfl
          have e115_28_6 : w72_11 28 6 = (w72_11 28) 6 := rfl
          have e116_28_7 : w72_11 28 7 = (w72_11 28) 7 := rfl
          have e117_28_8 : w72_11 28 8 = (w72_11 28) 8 := rfl
          exact L87_85 ((((8 : Int) - 0).toNat) + 1) 0 w72_11 hT72_11 hF72_11 (by first | omega | (simp [up, setR] <;> omega)) (by exact hmm) (by intro x2 g1 g2; exfalso; omega) (by exact hB9) (by first | rfl | exact k17) (by first | rfl | exact k18) (by rewrite [e112_22_1]; first | omega | (simp [up, setR] <;> omega)) (by first | rfl | exact k23) (by rewrite [e113_24_3, e114_24_4]; first | omega | (simp [up, setR] <;> omega)) (by rewrite [e115_28_6, e116_28_7, e117_28_8]; first | exact k28 | exact ⟨w6_at67.1, w6_at67.2.1, w6_at67.2.2.trans e_at64⟩) (by first | exact z31 | exact z31_at67) (by first | exact z32 | exact z32_at67) (by first | exact z33 | exact z33_at67) (Nat.lt_succ_self _)
    refine TT_sub [1, 2, 0] rfl ?_
    have e118_17 : g67_10 17 = fup (h 17) b ((h 22) 1) := ((hG_10 17 (by decide))).trans (((hG_9 17 (by decide))).trans (((hG_4 17 (by decide))).trans ((sOf_ne _ _ (by decide)).trans (sOf_eq _ _ _))))
    have e119_18 : g67_10 18 = fup (h 18) b 0 := ((hG_10 18 (by decide))).trans (((hG_9 18 (by decide))).trans (((hG_4 18 (by decide))).trans (sOf_eq _ _ _)))
    have e120_22_1 : g67_10 22 1 = (h 22) 1 := rd_ (((hG_10 22 (by decide))).trans (((hG_9 22 (by decide))).trans (((hG_4 22 (by decide))).trans ((sOf_ne _ _ (by decide)).trans ((sOf_ne _ _ (by decide)).trans (hG_1 22 (by decide))))))) rfl
    have e121_23 : g67_10 23 = h 23 := ((hG_10 23 (by decide))).trans (((hG_9 23 (by decide))).trans (((hG_4 23 (by decide))).trans ((sOf_ne _ _ (by decide)).trans ((sOf_ne _ _ (by decide)).trans (hG_1 23 (by decide))))))
    have e122_24_3 : g67_10 24 3 = (g24_4 24) 3 := rd_ (((hG_10 24 (by decide))).trans (hG_9 24 (by decide))) rfl
    have e123_24_4 : g67_10 24 4 = (g24_4 24) 4 := rd_ (((hG_10 24 (by decide))).trans (hG_9 24 (by decide))) rfl
    have e124_28_6 : g67_10 28 6 = (g67_10 28) 6 := rfl
    have e125_28_7 : g67_10 28 7 = (g67_10 28) 7 := rfl
    have e126_28_8 : g67_10 28 8 = (g67_10 28) 8 := rfl
    exact L72_11 ((((8 : Int) - 0).toNat) + 1) 0 g67_10 hT_10 hF_10 (by first | omega | (simp [up, setR] <;> omega)) (by intro x2 y2 g1 g2 g3 g4; exfalso; omega) (by intro q g1 g2; rw [z29_at67 q g1 g2]; omega) (by rewrite [e118_17]; first | rfl | exact k17) (by rewrite [e119_18]; first | rfl | exact k18) (by rewrite [e120_22_1]; first | omega | (simp [up, setR] <;> omega)) (by rewrite [e121_23]; first | rfl | exact k23) (by rewrite [e122_24_3, e123_24_4]; first | omega | (simp [up, setR] <;> omega)) (by rewrite [e124_28_6, e125_28_7, e126_28_8]; first | exact k28 | exact ⟨w6_at67.1, w6_at67.2.1, w6_at67.2.2.trans e_at64⟩) (by first | exact z31 | exact z31_at67) (by first | exact z32 | exact z32_at67) (by first | exact z33 | exact z33_at67) (Nat.lt_succ_self _)
  · refine TT_vret hK hQ ?_ dX3_tellBand_36
    have e127_18 : g24_4 18 = fup (h 18) b 0 := ((hG_4 18 (by decide))).trans (sOf_eq _ _ _)
    have e128_23 : g24_4 23 = h 23 := ((hG_4 23 (by decide))).trans ((sOf_ne _ _ (by decide)).trans ((sOf_ne _ _ (by decide)).trans (hG_1 23 (by decide))))
    have e129_24_3 : g24_4 24 3 = (g24_4 24) 3 := rfl
    have e130_24_4 : g24_4 24 4 = (g24_4 24) 4 := rfl
    have e131_25 : g24_4 25 = h 25 := ((hG_4 25 (by decide))).trans ((sOf_ne _ _ (by decide)).trans ((sOf_ne _ _ (by decide)).trans (hG_1 25 (by decide))))
    have e132_26 : g24_4 26 = h 26 := ((hG_4 26 (by decide))).trans ((sOf_ne _ _ (by decide)).trans ((sOf_ne _ _ (by decide)).trans (hG_1 26 (by decide))))
    have e133_27 : g24_4 27 = h 27 := ((hG_4 27 (by decide))).trans ((sOf_ne _ _ (by decide)).trans ((sOf_ne _ _ (by decide)).trans (hG_1 27 (by decide))))
    have e134_18 : g24_4 18 = fup (h 18) b 0 := ((hG_4 18 (by decide))).trans (sOf_eq _ _ _)
    have e135_22_1 : g24_4 22 1 = (h 22) 1 := rd_ (((hG_4 22 (by decide))).trans ((sOf_ne _ _ (by decide)).trans ((sOf_ne _ _ (by decide)).trans (hG_1 22 (by decide))))) rfl
    have e136_23 : g24_4 23 = h 23 := ((hG_4 23 (by decide))).trans ((sOf_ne _ _ (by decide)).trans ((sOf_ne _ _ (by decide)).trans (hG_1 23 (by decide))))
    have e137_17 : g24_4 17 = fup (h 17) b ((h 22) 1) := ((hG_4 17 (by decide))).trans ((sOf_ne _ _ (by decide)).trans (sOf_eq _ _ _))
    have e138_18 : g24_4 18 = fup (h 18) b 0 := ((hG_4 18 (by decide))).trans (sOf_eq _ _ _)
    exact ⟨⟨hT_4, hF_4⟩, rfl, (by rewrite [e127_18, e128_23, e129_24_3, e130_24_4, e131_25, e132_26, e133_27]; first | exact CWX_0 (by omega) (fup_eq _ _ _) (by first | rfl | assumption | omega) (by first | rfl | assumption | omega) | (rw [k22] at z8_at211; exact CWX_1 (by omega) hm0 hs0 cE0 (by omega) hR.2.2.2 (fun j hj => hen j (by omega)) cT.1 en_at195 z9_at211 (fup_eq _ _ _) z8_at211)), (by rewrite [e134_18, e135_22_1]; first | (rw [fup_eq]; omega) | (rw [fup_eq]; have l9 := l9_at211; have z9 := z9_at211; split at z9 <;> (have l8 := l9 (by omega); omega))), (by rewrite [e136_23]; first | (intro j hj; rfl) | (intro j hj; rw [k22] at k8_at211; rw [k8_at211 j hj, k23])), (by rewrite [e137_17]; first | rfl | exact k17), (by rewrite [e138_18]; intro j hj; first | exact fup_ne _ _ hj | (rw [fup_ne _ _ hj, k18]; exact fup_ne _ _ hj))⟩

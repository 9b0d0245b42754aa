theorem lf_W {n l : Int} (hn : 1 ≤ n ∧ n ≤ 8) (hl : 0 ≤ l ∧ l ≤ 4) : lf n l ≤ n := by
  unfold lf
  (repeat' split) <;> omega
theorem LE_LV {W H l : Int} {f : Int → Int} (hW : 1 ≤ W ∧ W ≤ 8) (hH : 1 ≤ H ∧ H ≤ 8) (hl : 0 ≤ l ∧ l ≤ 3) (hf : ∀ j : Int, 0 ≤ j → j < 64 → -128 ≤ f j ∧ f j ≤ 128) : LV (lf W l) (lf H l) (BL l) (LE W H f l) := by
  have h0 : LV (lf W 0) (lf H 0) (BL 0) (LE W H f 0) := LV_0 hf
  have st : ∀ m : Int, 0 ≤ m → m ≤ 2 → LV (lf W m) (lf H m) (BL m) (LE W H f m) → LV (lf W (m + 1)) (lf H (m + 1)) (BL (m + 1)) (LE W H f (m + 1)) := fun m h1 h2 k => by
    rw [LE_1 h1]
    exact LV_n ⟨h1, h2⟩ hW hH k (fun _ _ _ => rfl) (fun _ _ _ => rfl)
  rcases (show l = 0 ∨ l = 1 ∨ l = 2 ∨ l = 3 by omega) with rfl | rfl | rfl | rfl
  · exact h0
  · exact st 0 (by decide) (by decide) h0
  · exact st 1 (by decide) (by decide) (st 0 (by decide) (by decide) h0)
  · exact st 2 (by decide) (by decide) (st 1 (by decide) (by decide) (st 0 (by decide) (by decide) h0))
theorem cE_R {w e W H : Int} {f g : Int → Int} (hw : w ≤ W) (he : 1 ≤ e ∧ e ≤ 8 ∧ e ≤ H) (h : ∀ i : Int, 0 ≤ i → i < 64 → i % 8 < W → i / 8 < H → f i = g i) {t : Int} (h0 : 0 ≤ t) (h1 : t < 64) (h2 : t % 8 < W) (h3 : t / 8 < H) : cE w e f t = cE w e g t := by
  unfold cE
  by_cases c : t % 8 < w ∧ t / 8 < e
  · rw [if_pos c, if_pos c]
    exact fE_cg he.1 (by omega) (fun j h4 h5 => h _ (by omega) (by omega) (by omega) (by omega))
  · rw [if_neg c, if_neg c]
    exact h t h0 h1 h2 h3
theorem rE_R {w e W H : Int} {f g : Int → Int} (hw : 1 ≤ w ∧ w ≤ 8 ∧ w ≤ W) (he : e ≤ H) (h : ∀ i : Int, 0 ≤ i → i < 64 → i % 8 < W → i / 8 < H → f i = g i) {t : Int} (h0 : 0 ≤ t) (h1 : t < 64) (h2 : t % 8 < W) (h3 : t / 8 < H) : rE w e f t = rE w e g t := by
  unfold rE
  by_cases c : t % 8 < w ∧ t / 8 < e
  · rw [if_pos c, if_pos c]
    exact fE_cg hw.1 (by omega) (fun j h4 h5 => h _ (by omega) (by omega) (by omega) (by omega))
  · rw [if_neg c, if_neg c]
    exact h t h0 h1 h2 h3
theorem LE_R {W H l : Int} {f N0 N1 N2 : Int → Int} (hl : 0 ≤ l ∧ l ≤ 3) (hW : 1 ≤ W ∧ W ≤ 8) (hH : 1 ≤ H ∧ H ≤ 8) (h : ∀ i : Int, 0 ≤ i → i < 64 → i % 8 < W → i / 8 < H → N0 i = LE W H f l i) (h1 : ∀ t : Int, 0 ≤ t → t < 64 → N1 t = cE (lf W l) (lf H l) N0 t) (h2 : ∀ t : Int, 0 ≤ t → t < 64 → N2 t = rE (lf W l) (lf H l) N1 t) : ∀ i : Int, 0 ≤ i → i < 64 → i % 8 < W → i / 8 < H → N2 i = LE W H f (l + 1) i := by
  intro i g0 g1 g2 g3
  have a1 := lf_1 (n := W) (l := l) hW (by omega)
  have a2 := lf_1 (n := H) (l := l) hH (by omega)
  have b1 := lf_W (n := W) (l := l) hW (by omega)
  have b2 := lf_W (n := H) (l := l) hH (by omega)
  rw [LE_1 hl.1, h2 i g0 g1]
  refine rE_R ⟨a1.1, a1.2, b1⟩ b2 (fun j k0 k1 k2 k3 => ?_) g0 g1 g2 g3
  rw [h1 j k0 k1]
  exact cE_R b1 ⟨a2.1, a2.2, b2⟩ h k0 k1 k2 k3
theorem cE_bd {W H w e B : Int} {N0 F : Int → Int} (h : ∀ i : Int, 0 ≤ i → i < 64 → i % 8 < W → i / 8 < H → N0 i = F i) (hF : LV w e B F) (hw : 1 ≤ w ∧ w ≤ 8) (he : 1 ≤ e ∧ e ≤ 8) (hB : 1 ≤ B ∧ B ≤ 1000) (hwW : w ≤ W) (heH : e ≤ H) {t : Int} (h0 : 0 ≤ t) (h1 : t < 64) (h2 : t % 8 < W) (h3 : t / 8 < H) : -4095 ≤ cE w e N0 t ∧ cE w e N0 t ≤ 4095 := by
  rw [cE_R hwW ⟨he.1, he.2, heH⟩ h h0 h1 h2 h3]
  exact (cEb hw he hB hF h0 h1).1
theorem XY_k : ∀ w e : Fin 9, ∀ l : Fin 4, ∀ b : Fin 10, (b.val : Int) ≤ 3 * (l.val : Int) → CX (w.val : Int) (l.val : Int) (b.val : Int) + BW (w.val : Int) (l.val : Int) (b.val : Int) ≤ (w.val : Int) ∧ CY (e.val : Int) (l.val : Int) (b.val : Int) + BH (e.val : Int) (l.val : Int) (b.val : Int) ≤ (e.val : Int) := by decide +kernel
theorem XY_l {w e l b : Int} (hw : 1 ≤ w ∧ w ≤ 8) (he : 1 ≤ e ∧ e ≤ 8) (hl : 0 ≤ l ∧ l ≤ 3) (hb : 0 ≤ b ∧ b < 3 * l + 1) : CX w l b + BW w l b ≤ w ∧ CY e l b + BH e l b ≤ e := by
  obtain ⟨wn, rfl⟩ := Int.eq_ofNat_of_zero_le (show 0 ≤ w by omega)
  obtain ⟨en, rfl⟩ := Int.eq_ofNat_of_zero_le (show 0 ≤ e by omega)
  obtain ⟨ln, rfl⟩ := Int.eq_ofNat_of_zero_le hl.1
  obtain ⟨bn, rfl⟩ := Int.eq_ofNat_of_zero_le hb.1
  exact XY_k ⟨wn, by omega⟩ ⟨en, by omega⟩ ⟨ln, by omega⟩ ⟨bn, by omega⟩ (by show (bn : Int) ≤ 3 * (ln : Int); omega)
theorem xLT {w e l b x y : Int} (hw : 1 ≤ w ∧ w ≤ 8) (he : 1 ≤ e ∧ e ≤ 8) (hl : 0 ≤ l ∧ l ≤ 3) (hb : 0 ≤ b ∧ b < 3 * l + 1) (hx : 0 ≤ x ∧ x < BW w l b) (hy : 0 ≤ y ∧ y < BH e l b) : ((CY e l b + y) * 8 + CX w l b + x) % 8 < w := by
  have k1 := XY_l hw he hl hb
  have k2 := CXr hw he hl b hb
  omega
theorem yLT {w e l b x y : Int} (hw : 1 ≤ w ∧ w ≤ 8) (he : 1 ≤ e ∧ e ≤ 8) (hl : 0 ≤ l ∧ l ≤ 3) (hb : 0 ≤ b ∧ b < 3 * l + 1) (hx : 0 ≤ x ∧ x < BW w l b) (hy : 0 ≤ y ∧ y < BH e l b) : ((CY e l b + y) * 8 + CX w l b + x) / 8 < e := by
  have k1 := XY_l hw he hl hb
  have k2 := CXr hw he hl b hb
  omega
set_option maxRecDepth 20000 in
theorem s_goForth_x (h : Hp_) (hT : TY h) (hsd : (1 ≤ (h 8 7) ∧ (h 8 7) ≤ 8) ∧ (1 ≤ (h 8 8) ∧ (h 8 8) ≤ 8)) (hp : ∀ i : Int, 0 ≤ i → i < 64 → i % 8 < (h 8 7) → i / 8 < (h 8 8) → (h 9) i = (h 2) i - 128) : Ctr yX0_goForth cX0_goForth 5 none (rmd 3) ly ly 0 0 [vR 8] h (fun r h' => (TY h' ∧ FR [9, 14, 15] h h') ∧ r = none ∧ (∀ i : Int, 0 ≤ i → i < 64 → i % 8 < (h 8 7) → i / 8 < (h 8 8) → (h' 9) i = LE (h 8 7) (h 8 8) (fun i => (h 2) i - 128) (h 8 9) i)) := by
  refine Ctr_of (by decide) (Nat.le_of_ble_eq_true rfl) ⟨Nat.le_refl _, Nat.le_refl _⟩ (fun K hK hQ _ => ?_)
  show TT K ly 0 0 0 [(0, vR 8)] [] h
  have hF : FR [9, 14, 15] h h := FR_rf _ _
  have rW := hsd.1
  have rH := hsd.2
  have r89 := ty_8_9 (v := h 8 9) hT rfl
  have hp2 : ∀ j : Int, 0 ≤ j → j < 64 → -128 ≤ h 2 j - 128 ∧ h 2 j - 128 ≤ 128 := fun j h0 h1 => by have := ty_2 (i := j) (v := h 2 j) hT rfl h0 h1; omega
  refine TT_iconst hK dX0_goForth_0 ?_
  refine TT_istore_n hK rfl (lv' := [(1, vI 0), (0, vR 8)]) (by decide) rfl dX0_goForth_1 ?_
  have L2_1 : ∀ (k1 : Nat) (l : Int) (w2_1 : Hp_), TY w2_1 → FR [9, 14, 15] h w2_1 → (0 ≤ l ∧ l ≤ h 8 9) → (∀ i : Int, 0 ≤ i → i < 64 → i % 8 < (h 8 7) → i / 8 < (h 8 8) → (w2_1 9) i = LE (h 8 7) (h 8 8) (fun i => h 2 i - 128) l i) → ((3 : Int) - l).toNat < k1 → TT K ly 0 0 2 [(0, vR 8), (1, vI l)] [] w2_1 := by
    intro k1
    induction k1 with
    | zero => intro l w2_1 hT2_1 hF2_1 hl hN hk1; exact absurd hk1 (Nat.not_lt_zero _)
    | succ k1 ih1 =>
      intro l w2_1 hT2_1 hF2_1 hl hN hk1
      have l1 := lf_1 (n := h 8 7) (l := l) rW (by omega)
      have l2 := lf_1 (n := h 8 8) (l := l) rH (by omega)
      have lw1 := lf_W (n := h 8 7) (l := l) rW (by omega)
      have lw2 := lf_W (n := h 8 8) (l := l) rH (by omega)
      have bq := LE_LV (f := (fun i => h 2 i - 128)) rW rH (l := l) (by omega) hp2
      have blr : l ≤ 2 → 1 ≤ BL l ∧ BL l ≤ 1000 := fun q => BL_r (by omega)
      refine TT_iload_n hK rfl 1 rfl dX0_goForth_2 ?_
      refine TT_aload_n hK rfl 0 rfl dX0_goForth_3 ?_
      refine gf_X0_40 hK (by decide) rfl (v := (h 8) 9) (rd_ (hF2_1 8 (by decide)) rfl) dX0_goForth_4 ?_
      have r2 := ty_8_9 (v := (h 8) 9) hT2_1 (rd_ (hF2_1 8 (by decide)) rfl)
      refine TT_icmp_ge hK (tgt := 84) (irm (by omega) (by omega)) (irm (by omega) (by omega)) dX0_goForth_7 (by decide) (fun hb7_3 => ?_) (fun hb7_3 => ?_)
      · refine TT_vret hK hQ ?_ dX0_goForth_84
        exact ⟨⟨hT2_1, hF2_1⟩, rfl, (by intro i h0 h1 h2 h3; rw [hN i h0 h1 h2 h3, show l = h 8 9 by omega])⟩
      · refine TT_aload_n hK rfl 0 rfl dX0_goForth_10 ?_
        refine gf_X0_33 hK (by decide) rfl (v := (h 8) 7) (rd_ (hF2_1 8 (by decide)) rfl) dX0_goForth_11 ?_
        have r4 := ty_8_7 (v := (h 8) 7) hT2_1 (rd_ (hF2_1 8 (by decide)) rfl)
        refine TT_iload_n hK rfl 1 rfl dX0_goForth_14 ?_
        refine iv_X0_46 hK (s_sideAfter_x ((h 8) 7) l w2_1 hT2_1 (by first | omega | (simp [up, setR] <;> omega)) (by first | omega | (simp [up, setR] <;> omega))) ⟨by decide, by decide⟩ (by decide) rfl rfl (Nat.le_of_ble_eq_true rfl) ⟨by decide, by decide⟩ dX0_goForth_15 ?_
        intro r9 g15_5 hp9
        obtain ⟨⟨hT_5, hG_5⟩, z15_5, hr9, hz_5, p1_5⟩ := hp9
        rw [hr9]
        have hF_5 : FR [9, 14, 15] h g15_5 := FR_tr hF2_1 hG_5 (by decide)
        have p1_at15 := p1_5
        show TT K ly 0 0 18 [(0, vR 8), (1, vI l)] [vI z15_5] g15_5
        refine TT_istore_n hK rfl (lv' := [(2, vI z15_5), (0, vR 8), (1, vI l)]) (by decide) rfl dX0_goForth_18 ?_
        refine TT_aload_n hK rfl 1 rfl dX0_goForth_19 ?_
        refine gf_X0_37 hK (by decide) rfl (v := (h 8) 8) (rd_ (((hG_5 8 (by decide))).trans (hF2_1 8 (by decide))) rfl) dX0_goForth_20 ?_
        have r6 := ty_8_8 (v := (h 8) 8) hT_5 (rd_ (((hG_5 8 (by decide))).trans (hF2_1 8 (by decide))) rfl)
        refine TT_iload_n hK rfl 2 rfl dX0_goForth_23 ?_
        refine iv_X0_46 hK (s_sideAfter_x ((h 8) 8) l g15_5 hT_5 (by first | omega | (simp [up, setR] <;> omega)) (by first | omega | (simp [up, setR] <;> omega))) ⟨by decide, by decide⟩ (by decide) rfl rfl (Nat.le_of_ble_eq_true rfl) ⟨by decide, by decide⟩ dX0_goForth_24 ?_
        intro r9 g24_7 hp9
        obtain ⟨⟨hT_7, hG_7⟩, z24_7, hr9, hz_7, p1_7⟩ := hp9
        rw [hr9]
        have hF_7 : FR [9, 14, 15] h g24_7 := FR_tr hF_5 hG_7 (by decide)
        have p1_at24 := p1_7
        show TT K ly 0 0 27 [(2, vI z15_5), (0, vR 8), (1, vI l)] [vI z24_7] g24_7
        refine TT_istore_n hK rfl (lv' := [(3, vI z24_7), (2, vI z15_5), (0, vR 8), (1, vI l)]) (by decide) rfl dX0_goForth_27 ?_
        refine TT_iconst hK dX0_goForth_28 ?_
        refine TT_istore hK (lv' := [(4, vI 0), (3, vI z24_7), (2, vI z15_5), (0, vR 8), (1, vI l)]) (by decide) rfl dX0_goForth_29 ?_
        have L31_8 : ∀ (k8 : Nat) (x : Int) (N0 : Int → Int) (w31_8 : Hp_), TY w31_8 → FR [9, 14, 15] h w31_8 → (0 ≤ x ∧ x ≤ lf (h 8 7) l) → (∀ i : Int, 0 ≤ i → i < 64 → i % 8 < (h 8 7) → i / 8 < (h 8 8) → N0 i = LE (h 8 7) (h 8 8) (fun i => h 2 i - 128) l i) → (∀ t : Int, 0 ≤ t → t < 64 → (w31_8 9) t = cE x (lf (h 8 8) l) N0 t) → ((8 : Int) - x).toNat < k8 → TT K ly 0 0 31 [(0, vR 8), (1, vI l), (2, vI z15_5), (3, vI z24_7), (4, vI x)] [] w31_8 := by
          intro k8
          induction k8 with
          | zero => intro x N0 w31_8 hT31_8 hF31_8 hx hNr hN1 hk8; exact absurd hk8 (Nat.not_lt_zero _)
          | succ k8 ih8 =>
            intro x N0 w31_8 hT31_8 hF31_8 hx hNr hN1 hk8
            refine TT_iload hK 4 rfl dX0_goForth_31 ?_
            refine TT_iload_n hK rfl 2 rfl dX0_goForth_33 ?_
            refine TT_icmp_ge hK (tgt := 52) (irm (by omega) (by omega)) (irm (by omega) (by omega)) dX0_goForth_34 (by decide) (fun hb34_9 => ?_) (fun hb34_9 => ?_)
            · refine TT_iconst hK dX0_goForth_52 ?_
              refine TT_istore hK (lv' := [(4, vI 0), (0, vR 8), (1, vI l), (2, vI z15_5), (3, vI z24_7)]) (by decide) rfl dX0_goForth_53 ?_
              have L55_10 : ∀ (k10 : Nat) (y : Int) (N1 : Int → Int) (w55_10 : Hp_), TY w55_10 → FR [9, 14, 15] h w55_10 → (0 ≤ y ∧ y ≤ lf (h 8 8) l) → (∀ t : Int, 0 ≤ t → t < 64 → N1 t = cE (lf (h 8 7) l) (lf (h 8 8) l) N0 t) → (∀ t : Int, 0 ≤ t → t < 64 → (w55_10 9) t = rE (lf (h 8 7) l) y N1 t) → ((8 : Int) - y).toNat < k10 → TT K ly 0 0 55 [(0, vR 8), (1, vI l), (2, vI z15_5), (3, vI z24_7), (4, vI y)] [] w55_10 := by
                intro k10
                induction k10 with
                | zero => intro y N1 w55_10 hT55_10 hF55_10 hy hN1f hN2 hk10; exact absurd hk10 (Nat.not_lt_zero _)
                | succ k10 ih10 =>
                  intro y N1 w55_10 hT55_10 hF55_10 hy hN1f hN2 hk10
                  refine TT_iload hK 4 rfl dX0_goForth_55 ?_
                  refine TT_iload_n hK rfl 3 rfl dX0_goForth_57 ?_
                  refine TT_icmp_ge hK (tgt := 78) (irm (by omega) (by omega)) (irm (by omega) (by omega)) dX0_goForth_58 (by decide) (fun hb58_11 => ?_) (fun hb58_11 => ?_)
                  · refine TT_iinc hK (v := l + 1) (lv' := [(1, vI (l + 1)), (0, vR 8), (2, vI z15_5), (3, vI z24_7), (4, vI y)]) 1 rfl rfl (by decide) rfl dX0_goForth_78 ?_
                    refine TT_goto hK (tgt := 2) dX0_goForth_81 (by decide) ?_
                    refine TT_sub [1, 0] rfl ?_
                    have hN2f : ∀ t : Int, 0 ≤ t → t < 64 → _ = rE (lf (h 8 7) l) (lf (h 8 8) l) N1 t := fun t h1 h2 => (hN2 t h1 h2).trans (by rw [show y = lf (h 8 8) l by omega])
                    exact ih1 (l + 1) w55_10 hT55_10 hF55_10 (by first | omega | (simp [up, setR] <;> omega)) (by exact LE_R (by omega) rW rH hNr hN1f hN2f) (by first | omega | (simp [up, setR] <;> omega))
                  · refine TT_aload_n hK rfl 0 rfl dX0_goForth_61 ?_
                    refine TT_iload hK 4 rfl dX0_goForth_62 ?_
                    refine TT_bipush hK (by decide) dX0_goForth_64 ?_
                    refine TT_imul hK dX0_goForth_66 ?_
                    refine TT_iconst hK dX0_goForth_67 ?_
                    refine TT_iload_n hK rfl 2 rfl dX0_goForth_68 ?_
                    refine iv_X0_84 hK (s_splitLine_x1 (y * 8) z15_5 w55_10 hT55_10 (by first | omega | (simp [up, setR] <;> omega)) (by first | omega | (simp [up, setR] <;> omega)) (by intro j g1 g2; rw [hN2 _ (by omega) (by omega)]; unfold rE; rw [if_neg (by omega), hN1f _ (by omega) (by omega)]; exact cE_bd hNr bq l1 l2 (blr (by omega)) lw1 lw2 (by omega) (by omega) (by omega) (by omega))) (by decide) rfl ⟨by decide, by decide⟩ (by decide) rfl rfl (Nat.le_of_ble_eq_true rfl) ⟨by decide, by decide⟩ dX0_goForth_69 ?_
                    intro r9 g69_12 hp9
                    obtain ⟨⟨hT_12, hG_12⟩, hr9, p1_12⟩ := hp9
                    rw [hr9]
                    have hF_12 : FR [9, 14, 15] h g69_12 := FR_tr hF55_10 hG_12 (by decide)
                    have p1_at69 := p1_12
                    show TT K ly 0 0 72 [(0, vR 8), (1, vI l), (2, vI z15_5), (3, vI z24_7), (4, vI y)] [] g69_12
                    refine TT_iinc hK (v := y + 1) (lv' := [(4, vI (y + 1)), (0, vR 8), (1, vI l), (2, vI z15_5), (3, vI z24_7)]) 4 rfl rfl (by decide) rfl dX0_goForth_72 ?_
                    refine TT_goto hK (tgt := 55) dX0_goForth_75 (by decide) ?_
                    refine TT_sub [1, 2, 3, 4, 0] rfl ?_
                    exact ih10 (y + 1) N1 g69_12 hT_12 hF_12 (by first | omega | (simp [up, setR] <;> omega)) (by exact hN1f) (by intro t h1 h2; rw [p1_at69 t h1 h2, p1_at15, Int.mul_comm y 8]; exact rES hN2 (by omega) (by omega) ⟨h1, h2⟩) (by first | omega | (simp [up, setR] <;> omega))
              refine TT_sub [1, 2, 3, 4, 0] rfl ?_
              exact L55_10 ((((8 : Int) - 0).toNat) + 1) 0 (w31_8 9) w31_8 hT31_8 hF31_8 (by first | omega | (simp [up, setR] <;> omega)) (by intro t h1 h2; rw [hN1 t h1 h2, show x = lf (h 8 7) l by omega]) (by intro t h1 h2; exact (rE0 _ _ _ h1).symm) (Nat.lt_succ_self _)
            · refine TT_aload_n hK rfl 0 rfl dX0_goForth_37 ?_
              refine TT_iload hK 4 rfl dX0_goForth_38 ?_
              refine TT_bipush hK (by decide) dX0_goForth_40 ?_
              refine TT_iload_n hK rfl 3 rfl dX0_goForth_42 ?_
              refine iv_X0_84 hK (s_splitLine_x8 x z24_7 w31_8 hT31_8 (by first | omega | (simp [up, setR] <;> omega)) (by first | omega | (simp [up, setR] <;> omega)) (by intro j g1 g2; rw [hN1 _ (by omega) (by omega)]; unfold cE; rw [if_neg (by omega), hNr _ (by omega) (by omega) (by omega) (by omega)]; exact (bq _ (by omega) (by omega)).1)) (by decide) rfl ⟨by decide, by decide⟩ (by decide) rfl rfl (Nat.le_of_ble_eq_true rfl) ⟨by decide, by decide⟩ dX0_goForth_43 ?_
              intro r9 g43_13 hp9
              obtain ⟨⟨hT_13, hG_13⟩, hr9, p1_13⟩ := hp9
              rw [hr9]
              have hF_13 : FR [9, 14, 15] h g43_13 := FR_tr hF31_8 hG_13 (by decide)
              have p1_at43 := p1_13
              show TT K ly 0 0 46 [(0, vR 8), (1, vI l), (2, vI z15_5), (3, vI z24_7), (4, vI x)] [] g43_13
              refine TT_iinc hK (v := x + 1) (lv' := [(4, vI (x + 1)), (0, vR 8), (1, vI l), (2, vI z15_5), (3, vI z24_7)]) 4 rfl rfl (by decide) rfl dX0_goForth_46 ?_
              refine TT_goto hK (tgt := 31) dX0_goForth_49 (by decide) ?_
              refine TT_sub [1, 2, 3, 4, 0] rfl ?_
              exact ih8 (x + 1) N0 g43_13 hT_13 hF_13 (by first | omega | (simp [up, setR] <;> omega)) (by exact hNr) (by intro t h1 h2; rw [p1_at43 t h1 h2, p1_at24]; exact cES hN1 (by omega) (by omega) ⟨h1, h2⟩) (by first | omega | (simp [up, setR] <;> omega))
        refine TT_sub [3, 4, 2, 1, 0] rfl ?_
        have e14_9 : g24_7 9 = w2_1 9 := ((hG_7 9 (by decide))).trans (hG_5 9 (by decide))
        exact L31_8 ((((8 : Int) - 0).toNat) + 1) 0 (w2_1 9) g24_7 hT_7 hF_7 (by first | omega | (simp [up, setR] <;> omega)) (by exact hN) (by rewrite [e14_9]; intro t h1 h2; exact (cE0 _ _ _ h1).symm) (Nat.lt_succ_self _)
  refine TT_sub [1, 0] rfl ?_
  exact L2_1 ((((3 : Int) - 0).toNat) + 1) 0 h hT hF (by first | omega | (simp [up, setR] <;> omega)) (by intro i h0 h1 h2 h3; exact hp i h0 h1 h2 h3) (Nat.lt_succ_self _)
set_option maxRecDepth 20000 in
theorem s_pack_x (l n : Int) (h : Hp_) (hT : TY h) (hl : 0 ≤ l ∧ l ≤ 3) (hn : 1 ≤ n ∧ n ≤ 3) (hbd : BDQ (h 10) (h 12) (h 11) (h 13)) (hsd : (1 ≤ (h 1 1) ∧ (h 1 1) ≤ 8) ∧ (1 ≤ (h 1 2) ∧ (h 1 2) ≤ 8)) : Ctr yX3_pack cX3_pack 7 none (rmd 6) ly ly 0 0 [vR 7, vR 1, vI l, vI n, vR 5] h (fun r h' => (TY h' ∧ FR [5, 6, 8, 9, 10, 11, 12, 13, 14, 15, 16, 17, 18, 19, 20, 21, 22, 23, 24, 25, 26, 27, 28, 29, 30, 31, 32, 33, 34, 36, 37, 38, 39, 41, 42, 43] h h') ∧ r = none ∧ (BDQ (h' 10) (h' 12) (h' 11) (h' 13)) ∧ ((h' 8 10) = 3 * l + 1) ∧ (∀ b : Int, 0 ≤ b → b < 3 * l + 1 → (h' 12) b = BW (h 1 1) l b ∧ (h' 13) b = BH (h 1 2) l b) ∧ (∀ b x2 y2 : Int, 0 ≤ b → b < 3 * l + 1 → 0 ≤ x2 → x2 < BW (h 1 1) l b → 0 ≤ y2 → y2 < BH (h 1 2) l b → (h' 9) (((h' 11) b + y2) * 8 + (h' 10) b + x2) = LE (h 1 1) (h 1 2) (fun i => (h 2) i - 128) l (8 * CY (h 1 2) l b + CX (h 1 1) l b + 8 * y2 + x2))) := by
  refine Ctr_of (by decide) (Nat.le_of_ble_eq_true rfl) ⟨Nat.le_refl _, Nat.le_refl _⟩ (fun K hK hQ _ => ?_)
  show TT K ly 0 0 0 [(0, vR 7), (1, vR 1), (2, vI l), (3, vI n), (4, vR 5)] [] h
  have hF : FR [5, 6, 8, 9, 10, 11, 12, 13, 14, 15, 16, 17, 18, 19, 20, 21, 22, 23, 24, 25, 26, 27, 28, 29, 30, 31, 32, 33, 34, 36, 37, 38, 39, 41, 42, 43] h h := FR_rf _ _
  refine TT_aload_n hK rfl 0 rfl dX3_pack_0 ?_
  refine gf_X3_12 hK (by decide) rfl (q := 8) rfl rfl dX3_pack_1 ?_
  refine TT_aload_n hK rfl 1 rfl dX3_pack_4 ?_
  refine gf_X3_95 hK (by decide) rfl (v := (h 1) 1) rfl dX3_pack_5 ?_
  have r1 := ty_1_1 (v := (h 1) 1) hT rfl
  refine TT_aload_n hK rfl 1 rfl dX3_pack_8 ?_
  refine gf_X3_101 hK (by decide) rfl (v := (h 1) 2) rfl dX3_pack_9 ?_
  have r2 := ty_1_2 (v := (h 1) 2) hT rfl
  refine TT_iload_n hK rfl 2 rfl dX3_pack_12 ?_
  refine iv_X3_104 hK (s_lay_x ((h 1) 1) ((h 1) 2) l h hT (by first | omega | (simp [up, setR] <;> omega)) (by first | omega | (simp [up, setR] <;> omega)) (by first | omega | (simp [up, setR] <;> omega)) (by first | assumption | exact hbd)) (by decide) rfl ⟨by decide, by decide⟩ (by decide) rfl rfl (Nat.le_of_ble_eq_true rfl) ⟨by decide, by decide⟩ dX3_pack_13 ?_
  intro r9 g13_3 hp9
  obtain ⟨⟨hT_3, hG_3⟩, hr9, p1_3, k1_3, lay_3⟩ := hp9
  rw [hr9]
  have hF_3 : FR [5, 6, 8, 9, 10, 11, 12, 13, 14, 15, 16, 17, 18, 19, 20, 21, 22, 23, 24, 25, 26, 27, 28, 29, 30, 31, 32, 33, 34, 36, 37, 38, 39, 41, 42, 43] h g13_3 := FR_tr hF hG_3 (by decide)
  have k1_at13 := k1_3
  have lay_at13 := lay_3
  show TT K ly 0 0 16 [(0, vR 7), (1, vR 1), (2, vI l), (3, vI n), (4, vR 5)] [] g13_3
  refine TT_aload_n hK rfl 0 rfl dX3_pack_16 ?_
  refine gf_X3_12 hK (by decide) rfl (q := 8) rfl rfl dX3_pack_17 ?_
  refine TT_aload_n hK rfl 1 rfl dX3_pack_20 ?_
  have e4_1_1 : g13_3 1 1 = (h 1) 1 := rd_ (hG_3 1 (by decide)) rfl
  have e5_8_7 : g13_3 8 7 = (g13_3 8) 7 := rfl
  have e6_1_2 : g13_3 1 2 = (h 1) 2 := rd_ (hG_3 1 (by decide)) rfl
  have e7_8_8 : g13_3 8 8 = (g13_3 8) 8 := rfl
  refine iv_X3_108 hK (s_readPicture_x g13_3 hT_3 (by rewrite [e4_1_1, e5_8_7]; exact k1_at13.1) (by rewrite [e6_1_2, e7_8_8]; exact k1_at13.2.1)) (by decide) rfl ⟨by decide, by decide⟩ (by decide) rfl rfl (Nat.le_of_ble_eq_true rfl) ⟨by decide, by decide⟩ dX3_pack_21 ?_
  intro r9 g21_8 hp9
  obtain ⟨⟨hT_8, hG_8⟩, hr9, rx_8⟩ := hp9
  rw [hr9]
  have hF_8 : FR [5, 6, 8, 9, 10, 11, 12, 13, 14, 15, 16, 17, 18, 19, 20, 21, 22, 23, 24, 25, 26, 27, 28, 29, 30, 31, 32, 33, 34, 36, 37, 38, 39, 41, 42, 43] h g21_8 := FR_tr hF_3 hG_8 (by decide)
  rw [show g13_3 2 = h 2 from (hG_3 2 (by decide))] at rx_8
  rw [show g13_3 8 7 = (g13_3 8) 7 from rfl] at rx_8
  rw [show g13_3 8 8 = (g13_3 8) 8 from rfl] at rx_8
  have rx_at21 := rx_8
  show TT K ly 0 0 24 [(0, vR 7), (1, vR 1), (2, vI l), (3, vI n), (4, vR 5)] [] g21_8
  refine TT_aload_n hK rfl 0 rfl dX3_pack_24 ?_
  refine gf_X3_12 hK (by decide) rfl (q := 8) rfl rfl dX3_pack_25 ?_
  have e9_8_7 : g21_8 8 7 = (g13_3 8) 7 := rd_ (hG_8 8 (by decide)) rfl
  have e10_8_8 : g21_8 8 8 = (g13_3 8) 8 := rd_ (hG_8 8 (by decide)) rfl
  have e11_2 : g21_8 2 = h 2 := ((hG_8 2 (by decide))).trans (hG_3 2 (by decide))
  have e12_8_7 : g21_8 8 7 = (g13_3 8) 7 := rd_ (hG_8 8 (by decide)) rfl
  have e13_8_8 : g21_8 8 8 = (g13_3 8) 8 := rd_ (hG_8 8 (by decide)) rfl
  refine iv_X3_112 hK (s_goForth_x g21_8 hT_8 (by rewrite [e9_8_7, e10_8_8]; rw [k1_at13.1, k1_at13.2.1]; exact hsd) (by rewrite [e11_2, e12_8_7, e13_8_8]; intro i h0 h1 h2 h3; have k9 := rx_at21 (i % 8) (i / 8) (by omega) h2 (by omega) h3; rw [show i / 8 * 8 + i % 8 = i by omega] at k9; exact k9)) (by decide) rfl ⟨by decide, by decide⟩ (by decide) rfl rfl (Nat.le_of_ble_eq_true rfl) ⟨by decide, by decide⟩ dX3_pack_28 ?_
  intro r9 g28_14 hp9
  obtain ⟨⟨hT_14, hG_14⟩, hr9, p1_14⟩ := hp9
  rw [hr9]
  have hF_14 : FR [5, 6, 8, 9, 10, 11, 12, 13, 14, 15, 16, 17, 18, 19, 20, 21, 22, 23, 24, 25, 26, 27, 28, 29, 30, 31, 32, 33, 34, 36, 37, 38, 39, 41, 42, 43] h g28_14 := FR_tr hF_8 hG_14 (by decide)
  rw [show g21_8 2 = h 2 from ((hG_8 2 (by decide))).trans (hG_3 2 (by decide))] at p1_14
  rw [show g21_8 8 7 = (g13_3 8) 7 from rd_ (hG_8 8 (by decide)) rfl] at p1_14
  rw [show g21_8 8 8 = (g13_3 8) 8 from rd_ (hG_8 8 (by decide)) rfl] at p1_14
  rw [show g21_8 8 9 = (g13_3 8) 9 from rd_ (hG_8 8 (by decide)) rfl] at p1_14
  have p1_at28 := p1_14
  show TT K ly 0 0 31 [(0, vR 7), (1, vR 1), (2, vI l), (3, vI n), (4, vR 5)] [] g28_14
  refine TT_aload_n hK rfl 0 rfl dX3_pack_31 ?_
  refine gf_X3_40 hK (by decide) rfl (q := 22) rfl rfl dX3_pack_32 ?_
  refine iv_X3_115 hK (s_X1_clear_22 g28_14 hT_14 ) (by decide) rfl ⟨by decide, by decide⟩ (by decide) rfl rfl (Nat.le_of_ble_eq_true rfl) ⟨by decide, by decide⟩ dX3_pack_35 ?_
  intro r9 g35_15 hp9
  obtain ⟨⟨hT_15, hG_15⟩, hr9⟩ := hp9
  rw [hr9]
  have hF_15 : FR [5, 6, 8, 9, 10, 11, 12, 13, 14, 15, 16, 17, 18, 19, 20, 21, 22, 23, 24, 25, 26, 27, 28, 29, 30, 31, 32, 33, 34, 36, 37, 38, 39, 41, 42, 43] h g35_15 := FR_tr hF_14 hG_15 (by decide)
  show TT K ly 0 0 38 [(0, vR 7), (1, vR 1), (2, vI l), (3, vI n), (4, vR 5)] [] g35_15
  refine TT_iconst hK dX3_pack_38 ?_
  refine TT_istore hK (lv' := [(5, vI 0), (0, vR 7), (1, vR 1), (2, vI l), (3, vI n), (4, vR 5)]) (by decide) rfl dX3_pack_39 ?_
  have L41_16 : ∀ (k16 : Nat) (b : Int) (w41_16 : Hp_), TY w41_16 → FR [5, 6, 8, 9, 10, 11, 12, 13, 14, 15, 16, 17, 18, 19, 20, 21, 22, 23, 24, 25, 26, 27, 28, 29, 30, 31, 32, 33, 34, 36, 37, 38, 39, 41, 42, 43] h w41_16 → (0 ≤ b ∧ b ≤ 10) → (BDQ (w41_16 10) (w41_16 12) (w41_16 11) (w41_16 13)) → ((w41_16 8 10) = 3 * l + 1) → (∀ b : Int, 0 ≤ b → b < 3 * l + 1 → (w41_16 12) b = BW (h 1 1) l b ∧ (w41_16 13) b = BH (h 1 2) l b) → (∀ b x2 y2 : Int, 0 ≤ b → b < 3 * l + 1 → 0 ≤ x2 → x2 < BW (h 1 1) l b → 0 ≤ y2 → y2 < BH (h 1 2) l b → (w41_16 9) (((w41_16 11) b + y2) * 8 + (w41_16 10) b + x2) = LE (h 1 1) (h 1 2) (fun i => h 2 i - 128) l (8 * CY (h 1 2) l b + CX (h 1 1) l b + 8 * y2 + x2)) → ((10 : Int) - b).toNat < k16 → TT K ly 0 0 41 [(0, vR 7), (1, vR 1), (2, vI l), (3, vI n), (4, vR 5), (5, vI b)] [] w41_16 := by
    intro k16
    induction k16 with
    | zero => intro b w41_16 hT41_16 hF41_16 hb hbd2 kcn hbw hnm hk16; exact absurd hk16 (Nat.not_lt_zero _)
    | succ k16 ih16 =>
      intro b w41_16 hT41_16 hF41_16 hb hbd2 kcn hbw hnm hk16
      refine TT_iload hK 5 rfl dX3_pack_41 ?_
      refine TT_aload_n hK rfl 0 rfl dX3_pack_43 ?_
      refine gf_X3_12 hK (by decide) rfl (q := 8) rfl rfl dX3_pack_44 ?_
      refine gf_X3_118 hK (by decide) rfl (v := (w41_16 8) 10) rfl dX3_pack_47 ?_
      have r17 := ty_8_10 (v := (w41_16 8) 10) hT41_16 rfl
      refine TT_icmp_ge hK (tgt := 100) (irm (by omega) (by omega)) (irm (by omega) (by omega)) dX3_pack_50 (by decide) (fun hb50_18 => ?_) (fun hb50_18 => ?_)
      · refine TT_aload hK 4 rfl dX3_pack_100 ?_
        refine iv_X3_115 hK (s_X1_clear_5 w41_16 hT41_16 ) (by decide) rfl ⟨by decide, by decide⟩ (by decide) rfl rfl (Nat.le_of_ble_eq_true rfl) ⟨by decide, by decide⟩ dX3_pack_102 ?_
        intro r9 g102_19 hp9
        obtain ⟨⟨hT_19, hG_19⟩, hr9⟩ := hp9
        rw [hr9]
        have hF_19 : FR [5, 6, 8, 9, 10, 11, 12, 13, 14, 15, 16, 17, 18, 19, 20, 21, 22, 23, 24, 25, 26, 27, 28, 29, 30, 31, 32, 33, 34, 36, 37, 38, 39, 41, 42, 43] h g102_19 := FR_tr hF41_16 hG_19 (by decide)
        show TT K ly 0 0 105 [(0, vR 7), (1, vR 1), (2, vI l), (3, vI n), (4, vR 5), (5, vI b)] [] g102_19
        refine TT_aload hK 4 rfl dX3_pack_105 ?_
        refine TT_aload_n hK rfl 1 rfl dX3_pack_107 ?_
        refine gf_X3_95 hK (by decide) rfl (v := (h 1) 1) (rd_ (((hG_19 1 (by decide))).trans (hF41_16 1 (by decide))) rfl) dX3_pack_108 ?_
        have r20 := ty_1_1 (v := (h 1) 1) hT_19 (rd_ (((hG_19 1 (by decide))).trans (hF41_16 1 (by decide))) rfl)
        refine iv_X3_131 hK (s_X1_add_5 ((h 1) 1) g102_19 hT_19 (by first | omega | (simp [up, setR] <;> omega))) (by decide) rfl ⟨by decide, by decide⟩ (by decide) rfl rfl (Nat.le_of_ble_eq_true rfl) ⟨by decide, by decide⟩ dX3_pack_111 ?_
        intro r9 g111_21 hp9
        obtain ⟨⟨hT_21, hG_21⟩, hr9⟩ := hp9
        rw [hr9]
        have hF_21 : FR [5, 6, 8, 9, 10, 11, 12, 13, 14, 15, 16, 17, 18, 19, 20, 21, 22, 23, 24, 25, 26, 27, 28, 29, 30, 31, 32, 33, 34, 36, 37, 38, 39, 41, 42, 43] h g111_21 := FR_tr hF_19 hG_21 (by decide)
        show TT K ly 0 0 114 [(0, vR 7), (1, vR 1), (2, vI l), (3, vI n), (4, vR 5), (5, vI b)] [] g111_21
        refine TT_aload hK 4 rfl dX3_pack_114 ?_
        refine TT_aload_n hK rfl 1 rfl dX3_pack_116 ?_
        refine gf_X3_101 hK (by decide) rfl (v := (h 1) 2) (rd_ (((hG_21 1 (by decide))).trans (((hG_19 1 (by decide))).trans (hF41_16 1 (by decide)))) rfl) dX3_pack_117 ?_
        have r22 := ty_1_2 (v := (h 1) 2) hT_21 (rd_ (((hG_21 1 (by decide))).trans (((hG_19 1 (by decide))).trans (hF41_16 1 (by decide)))) rfl)
        refine iv_X3_131 hK (s_X1_add_5 ((h 1) 2) g111_21 hT_21 (by first | omega | (simp [up, setR] <;> omega))) (by decide) rfl ⟨by decide, by decide⟩ (by decide) rfl rfl (Nat.le_of_ble_eq_true rfl) ⟨by decide, by decide⟩ dX3_pack_120 ?_
        intro r9 g120_23 hp9
        obtain ⟨⟨hT_23, hG_23⟩, hr9⟩ := hp9
        rw [hr9]
        have hF_23 : FR [5, 6, 8, 9, 10, 11, 12, 13, 14, 15, 16, 17, 18, 19, 20, 21, 22, 23, 24, 25, 26, 27, 28, 29, 30, 31, 32, 33, 34, 36, 37, 38, 39, 41, 42, 43] h g120_23 := FR_tr hF_21 hG_23 (by decide)
        show TT K ly 0 0 123 [(0, vR 7), (1, vR 1), (2, vI l), (3, vI n), (4, vR 5), (5, vI b)] [] g120_23
        refine TT_aload hK 4 rfl dX3_pack_123 ?_
        refine TT_iload_n hK rfl 2 rfl dX3_pack_125 ?_
        refine iv_X3_131 hK (s_X1_add_5 l g120_23 hT_23 (by first | omega | (simp [up, setR] <;> omega))) (by decide) rfl ⟨by decide, by decide⟩ (by decide) rfl rfl (Nat.le_of_ble_eq_true rfl) ⟨by decide, by decide⟩ dX3_pack_126 ?_
        intro r9 g126_24 hp9
        obtain ⟨⟨hT_24, hG_24⟩, hr9⟩ := hp9
        rw [hr9]
        have hF_24 : FR [5, 6, 8, 9, 10, 11, 12, 13, 14, 15, 16, 17, 18, 19, 20, 21, 22, 23, 24, 25, 26, 27, 28, 29, 30, 31, 32, 33, 34, 36, 37, 38, 39, 41, 42, 43] h g126_24 := FR_tr hF_23 hG_24 (by decide)
        show TT K ly 0 0 129 [(0, vR 7), (1, vR 1), (2, vI l), (3, vI n), (4, vR 5), (5, vI b)] [] g126_24
        refine TT_aload hK 4 rfl dX3_pack_129 ?_
        refine TT_iload_n hK rfl 3 rfl dX3_pack_131 ?_
        refine iv_X3_131 hK (s_X1_add_5 n g126_24 hT_24 (by first | omega | (simp [up, setR] <;> omega))) (by decide) rfl ⟨by decide, by decide⟩ (by decide) rfl rfl (Nat.le_of_ble_eq_true rfl) ⟨by decide, by decide⟩ dX3_pack_132 ?_
        intro r9 g132_25 hp9
        obtain ⟨⟨hT_25, hG_25⟩, hr9⟩ := hp9
        rw [hr9]
        have hF_25 : FR [5, 6, 8, 9, 10, 11, 12, 13, 14, 15, 16, 17, 18, 19, 20, 21, 22, 23, 24, 25, 26, 27, 28, 29, 30, 31, 32, 33, 34, 36, 37, 38, 39, 41, 42, 43] h g132_25 := FR_tr hF_24 hG_25 (by decide)
        show TT K ly 0 0 135 [(0, vR 7), (1, vR 1), (2, vI l), (3, vI n), (4, vR 5), (5, vI b)] [] g132_25
        refine TT_iconst hK dX3_pack_135 ?_
        refine TT_istore hK (lv' := [(5, vI 1), (0, vR 7), (1, vR 1), (2, vI l), (3, vI n), (4, vR 5)]) (by decide) rfl dX3_pack_136 ?_
        have L138_26 : ∀ (k26 : Nat) (y1 : Int) (w138_26 : Hp_), TY w138_26 → FR [5, 6, 8, 9, 10, 11, 12, 13, 14, 15, 16, 17, 18, 19, 20, 21, 22, 23, 24, 25, 26, 27, 28, 29, 30, 31, 32, 33, 34, 36, 37, 38, 39, 41, 42, 43] h w138_26 → (1 ≤ y1 ∧ y1 ≤ 4) → (BDQ (w138_26 10) (w138_26 12) (w138_26 11) (w138_26 13)) → ((w138_26 8 10) = 3 * l + 1) → (∀ b : Int, 0 ≤ b → b < 3 * l + 1 → (w138_26 12) b = BW (h 1 1) l b ∧ (w138_26 13) b = BH (h 1 2) l b) → (∀ b x2 y2 : Int, 0 ≤ b → b < 3 * l + 1 → 0 ≤ x2 → x2 < BW (h 1 1) l b → 0 ≤ y2 → y2 < BH (h 1 2) l b → (w138_26 9) (((w138_26 11) b + y2) * 8 + (w138_26 10) b + x2) = LE (h 1 1) (h 1 2) (fun i => h 2 i - 128) l (8 * CY (h 1 2) l b + CX (h 1 1) l b + 8 * y2 + x2)) → ((4 : Int) - y1).toNat < k26 → TT K ly 0 0 138 [(0, vR 7), (1, vR 1), (2, vI l), (3, vI n), (4, vR 5), (5, vI y1)] [] w138_26 := by
          intro k26
          induction k26 with
          | zero => intro y1 w138_26 hT138_26 hF138_26 hy1 hbd3 kcn hbw hnm hk26; exact absurd hk26 (Nat.not_lt_zero _)
          | succ k26 ih26 =>
            intro y1 w138_26 hT138_26 hF138_26 hy1 hbd3 kcn hbw hnm hk26
            refine TT_iload hK 5 rfl dX3_pack_138 ?_
            refine TT_iload_n hK rfl 3 rfl dX3_pack_140 ?_
            refine TT_icmp_gt hK (tgt := 176) (irm (by omega) (by omega)) (irm (by omega) (by omega)) dX3_pack_141 (by decide) (fun hb141_27 => ?_) (fun hb141_27 => ?_)
            · refine TT_vret hK hQ ?_ dX3_pack_176
              have e28_8_10 : w138_26 8 10 = (w138_26 8) 10 := rfl
              exact ⟨⟨hT138_26, hF138_26⟩, rfl, (by assumption), (by rewrite [e28_8_10]; exact kcn), (by exact hbw), (by exact hnm)⟩
            · refine TT_iconst hK dX3_pack_144 ?_
              refine TT_istore hK (lv' := [(6, vI 0), (0, vR 7), (1, vR 1), (2, vI l), (3, vI n), (4, vR 5), (5, vI y1)]) (by decide) rfl dX3_pack_145 ?_
              have L147_29 : ∀ (k29 : Nat) (r1 : Int) (w147_29 : Hp_), TY w147_29 → FR [5, 6, 8, 9, 10, 11, 12, 13, 14, 15, 16, 17, 18, 19, 20, 21, 22, 23, 24, 25, 26, 27, 28, 29, 30, 31, 32, 33, 34, 36, 37, 38, 39, 41, 42, 43] h w147_29 → (0 ≤ r1 ∧ r1 ≤ 4) → (BDQ (w147_29 10) (w147_29 12) (w147_29 11) (w147_29 13)) → ((w147_29 8 10) = 3 * l + 1) → (∀ b : Int, 0 ≤ b → b < 3 * l + 1 → (w147_29 12) b = BW (h 1 1) l b ∧ (w147_29 13) b = BH (h 1 2) l b) → (∀ b x2 y2 : Int, 0 ≤ b → b < 3 * l + 1 → 0 ≤ x2 → x2 < BW (h 1 1) l b → 0 ≤ y2 → y2 < BH (h 1 2) l b → (w147_29 9) (((w147_29 11) b + y2) * 8 + (w147_29 10) b + x2) = LE (h 1 1) (h 1 2) (fun i => h 2 i - 128) l (8 * CY (h 1 2) l b + CX (h 1 1) l b + 8 * y2 + x2)) → ((4 : Int) - r1).toNat < k29 → TT K ly 0 0 147 [(0, vR 7), (1, vR 1), (2, vI l), (3, vI n), (4, vR 5), (5, vI y1), (6, vI r1)] [] w147_29 := by
                intro k29
                induction k29 with
                | zero => intro r1 w147_29 hT147_29 hF147_29 hr1 hbd4 kcn hbw hnm hk29; exact absurd hk29 (Nat.not_lt_zero _)
                | succ k29 ih29 =>
                  intro r1 w147_29 hT147_29 hF147_29 hr1 hbd4 kcn hbw hnm hk29
                  refine TT_iload hK 6 rfl dX3_pack_147 ?_
                  refine TT_iload_n hK rfl 2 rfl dX3_pack_149 ?_
                  refine TT_icmp_gt hK (tgt := 170) (irm (by omega) (by omega)) (irm (by omega) (by omega)) dX3_pack_150 (by decide) (fun hb150_30 => ?_) (fun hb150_30 => ?_)
                  · refine TT_iinc hK (v := y1 + 1) (lv' := [(5, vI (y1 + 1)), (0, vR 7), (1, vR 1), (2, vI l), (3, vI n), (4, vR 5), (6, vI r1)]) 5 rfl rfl (by decide) rfl dX3_pack_170 ?_
                    refine TT_goto hK (tgt := 138) dX3_pack_173 (by decide) ?_
                    refine TT_sub [1, 2, 3, 4, 5, 0] rfl ?_
                    have e31_8_10 : w147_29 8 10 = (w147_29 8) 10 := rfl
                    exact ih26 (y1 + 1) w147_29 hT147_29 hF147_29 (by first | omega | (simp [up, setR] <;> omega)) (by assumption) (by rewrite [e31_8_10]; exact kcn) (by exact hbw) (by exact hnm) (by first | omega | (simp [up, setR] <;> omega))
                  · refine TT_aload_n hK rfl 0 rfl dX3_pack_153 ?_
                    refine TT_iload hK 6 rfl dX3_pack_154 ?_
                    refine TT_iload hK 5 rfl dX3_pack_156 ?_
                    refine TT_iload_n hK rfl 3 rfl dX3_pack_158 ?_
                    refine TT_aload hK 4 rfl dX3_pack_159 ?_
                    refine iv_X3_134 hK (s_X3_writePacket_7 r1 y1 n w147_29 hT147_29 (by first | omega | (simp [up, setR] <;> omega)) (by first | omega | (simp [up, setR] <;> omega)) (by first | omega | (simp [up, setR] <;> omega))) (by decide) rfl ⟨by decide, by decide⟩ (by decide) rfl rfl (Nat.le_of_ble_eq_true rfl) ⟨by decide, by decide⟩ dX3_pack_161 ?_
                    intro r9 g161_32 hp9
                    obtain ⟨⟨hT_32, hG_32⟩, hr9⟩ := hp9
                    rw [hr9]
                    have hF_32 : FR [5, 6, 8, 9, 10, 11, 12, 13, 14, 15, 16, 17, 18, 19, 20, 21, 22, 23, 24, 25, 26, 27, 28, 29, 30, 31, 32, 33, 34, 36, 37, 38, 39, 41, 42, 43] h g161_32 := FR_tr hF147_29 hG_32 (by decide)
                    show TT K ly 0 0 164 [(0, vR 7), (1, vR 1), (2, vI l), (3, vI n), (4, vR 5), (5, vI y1), (6, vI r1)] [] g161_32
                    refine TT_iinc hK (v := r1 + 1) (lv' := [(6, vI (r1 + 1)), (0, vR 7), (1, vR 1), (2, vI l), (3, vI n), (4, vR 5), (5, vI y1)]) 6 rfl rfl (by decide) rfl dX3_pack_164 ?_
                    refine TT_goto hK (tgt := 147) dX3_pack_167 (by decide) ?_
                    refine TT_sub [1, 2, 3, 4, 5, 6, 0] rfl ?_
                    have e33_10 : g161_32 10 = w147_29 10 := (hG_32 10 (by decide))
                    have e34_11 : g161_32 11 = w147_29 11 := (hG_32 11 (by decide))
                    have e35_12 : g161_32 12 = w147_29 12 := (hG_32 12 (by decide))
                    have e36_13 : g161_32 13 = w147_29 13 := (hG_32 13 (by decide))
                    have e37_8_10 : g161_32 8 10 = (w147_29 8) 10 := rd_ (hG_32 8 (by decide)) rfl
                    have e38_12 : g161_32 12 = w147_29 12 := (hG_32 12 (by decide))
                    have e39_13 : g161_32 13 = w147_29 13 := (hG_32 13 (by decide))
                    have e40_10 : g161_32 10 = w147_29 10 := (hG_32 10 (by decide))
                    have e41_11 : g161_32 11 = w147_29 11 := (hG_32 11 (by decide))
                    have e42_9 : g161_32 9 = w147_29 9 := (hG_32 9 (by decide))
                    exact ih29 (r1 + 1) g161_32 hT_32 hF_32 (by first | omega | (simp [up, setR] <;> omega)) (by rewrite [e33_10, e34_11, e35_12, e36_13]; assumption) (by rewrite [e37_8_10]; exact kcn) (by rewrite [e38_12, e39_13]; exact hbw) (by rewrite [e40_10, e41_11, e42_9]; exact hnm) (by first | omega | (simp [up, setR] <;> omega))
              refine TT_sub [1, 2, 3, 4, 5, 6, 0] rfl ?_
              have e43_8_10 : w138_26 8 10 = (w138_26 8) 10 := rfl
              exact L147_29 ((((4 : Int) - 0).toNat) + 1) 0 w138_26 hT138_26 hF138_26 (by first | omega | (simp [up, setR] <;> omega)) (by assumption) (by rewrite [e43_8_10]; exact kcn) (by exact hbw) (by exact hnm) (Nat.lt_succ_self _)
        refine TT_sub [1, 2, 3, 4, 5, 0] rfl ?_
        have e44_10 : g132_25 10 = w41_16 10 := ((hG_25 10 (by decide))).trans (((hG_24 10 (by decide))).trans (((hG_23 10 (by decide))).trans (((hG_21 10 (by decide))).trans (hG_19 10 (by decide)))))
        have e45_11 : g132_25 11 = w41_16 11 := ((hG_25 11 (by decide))).trans (((hG_24 11 (by decide))).trans (((hG_23 11 (by decide))).trans (((hG_21 11 (by decide))).trans (hG_19 11 (by decide)))))
        have e46_12 : g132_25 12 = w41_16 12 := ((hG_25 12 (by decide))).trans (((hG_24 12 (by decide))).trans (((hG_23 12 (by decide))).trans (((hG_21 12 (by decide))).trans (hG_19 12 (by decide)))))
        have e47_13 : g132_25 13 = w41_16 13 := ((hG_25 13 (by decide))).trans (((hG_24 13 (by decide))).trans (((hG_23 13 (by decide))).trans (((hG_21 13 (by decide))).trans (hG_19 13 (by decide)))))
        have e48_8_10 : g132_25 8 10 = (w41_16 8) 10 := rd_ (((hG_25 8 (by decide))).trans (((hG_24 8 (by decide))).trans (((hG_23 8 (by decide))).trans (((hG_21 8 (by decide))).trans (hG_19 8 (by decide)))))) rfl
        have e49_12 : g132_25 12 = w41_16 12 := ((hG_25 12 (by decide))).trans (((hG_24 12 (by decide))).trans (((hG_23 12 (by decide))).trans (((hG_21 12 (by decide))).trans (hG_19 12 (by decide)))))
        have e50_13 : g132_25 13 = w41_16 13 := ((hG_25 13 (by decide))).trans (((hG_24 13 (by decide))).trans (((hG_23 13 (by decide))).trans (((hG_21 13 (by decide))).trans (hG_19 13 (by decide)))))
        have e51_10 : g132_25 10 = w41_16 10 := ((hG_25 10 (by decide))).trans (((hG_24 10 (by decide))).trans (((hG_23 10 (by decide))).trans (((hG_21 10 (by decide))).trans (hG_19 10 (by decide)))))
        have e52_11 : g132_25 11 = w41_16 11 := ((hG_25 11 (by decide))).trans (((hG_24 11 (by decide))).trans (((hG_23 11 (by decide))).trans (((hG_21 11 (by decide))).trans (hG_19 11 (by decide)))))
        have e53_9 : g132_25 9 = w41_16 9 := ((hG_25 9 (by decide))).trans (((hG_24 9 (by decide))).trans (((hG_23 9 (by decide))).trans (((hG_21 9 (by decide))).trans (hG_19 9 (by decide)))))
        exact L138_26 ((((4 : Int) - 1).toNat) + 1) 1 g132_25 hT_25 hF_25 (by first | omega | (simp [up, setR] <;> omega)) (by rewrite [e44_10, e45_11, e46_12, e47_13]; assumption) (by rewrite [e48_8_10]; exact kcn) (by rewrite [e49_12, e50_13]; exact hbw) (by rewrite [e51_10, e52_11, e53_9]; exact hnm) (Nat.lt_succ_self _)
      · refine TT_aload_n hK rfl 0 rfl dX3_pack_53 ?_
        refine gf_X3_18 hK (by decide) rfl (q := 16) rfl rfl dX3_pack_54 ?_
        refine TT_iload hK 5 rfl dX3_pack_57 ?_
        refine TT_aload_n hK rfl 0 rfl dX3_pack_59 ?_
        refine TT_iload hK 5 rfl dX3_pack_60 ?_
        refine iv_X3_121 hK (s_X3_planesOf_7 b w41_16 hT41_16 (by first | omega | (simp [up, setR] <;> omega)) (by first | assumption | exact hbd)) (by decide) rfl ⟨by decide, by decide⟩ (by decide) rfl rfl (Nat.le_of_ble_eq_true rfl) ⟨by decide, by decide⟩ dX3_pack_62 ?_
        intro r9 g62_54 hp9
        obtain ⟨⟨hT_54, hG_54⟩, z62_54, hr9, hz_54⟩ := hp9
        rw [hr9]
        have hF_54 : FR [5, 6, 8, 9, 10, 11, 12, 13, 14, 15, 16, 17, 18, 19, 20, 21, 22, 23, 24, 25, 26, 27, 28, 29, 30, 31, 32, 33, 34, 36, 37, 38, 39, 41, 42, 43] h g62_54 := FR_tr hF41_16 hG_54 (by decide)
        show TT K ly 0 0 65 [(0, vR 7), (1, vR 1), (2, vI l), (3, vI n), (4, vR 5), (5, vI b)] [vI z62_54, vI b, vR 16] g62_54
        refine TT_iast hK (o := 16) (n := 10) (by decide) rfl (by omega) (by omega) dX3_pack_65 ?_
        refine TT_hp (h' := setO g62_54 16 (fup (w41_16 16) b z62_54)) (up_can (hG_54 16 (by decide)) rfl rfl) ?_
        have hT_55 : TY (setO g62_54 16 (fup (w41_16 16) b z62_54)) := tu_16 hT_54 (show up g62_54 16 b z62_54 = (setO g62_54 16 (fup (w41_16 16) b z62_54)) from up_can (hG_54 16 (by decide)) rfl rfl) (by omega)
        have hF_55 : FR [5, 6, 8, 9, 10, 11, 12, 13, 14, 15, 16, 17, 18, 19, 20, 21, 22, 23, 24, 25, 26, 27, 28, 29, 30, 31, 32, 33, 34, 36, 37, 38, 39, 41, 42, 43] h (setO g62_54 16 (fup (w41_16 16) b z62_54)) := FR_up (show up g62_54 16 b z62_54 = (setO g62_54 16 (fup (w41_16 16) b z62_54)) from up_can (hG_54 16 (by decide)) rfl rfl) hF_54 (by decide)
        refine TT_aload_n hK rfl 0 rfl dX3_pack_66 ?_
        refine gf_X3_31 hK (by decide) rfl (q := 20) rfl rfl dX3_pack_67 ?_
        refine TT_iload hK 5 rfl dX3_pack_70 ?_
        refine TT_iconst hK dX3_pack_72 ?_
        refine TT_iast hK (o := 20) (n := 10) (by decide) rfl (by omega) (by omega) dX3_pack_73 ?_
        refine TT_hp (h' := setO (setO g62_54 16 (fup (w41_16 16) b z62_54)) 20 (fup (w41_16 20) b 0)) (up_can ((sOf_ne _ _ (by decide)).trans (hG_54 20 (by decide))) rfl rfl) ?_
        have hT_56 : TY (setO (setO g62_54 16 (fup (w41_16 16) b z62_54)) 20 (fup (w41_16 20) b 0)) := tu_20 hT_55 (show up (setO g62_54 16 (fup (w41_16 16) b z62_54)) 20 b 0 = (setO (setO g62_54 16 (fup (w41_16 16) b z62_54)) 20 (fup (w41_16 20) b 0)) from up_can ((sOf_ne _ _ (by decide)).trans (hG_54 20 (by decide))) rfl rfl) (by omega)
        have hF_56 : FR [5, 6, 8, 9, 10, 11, 12, 13, 14, 15, 16, 17, 18, 19, 20, 21, 22, 23, 24, 25, 26, 27, 28, 29, 30, 31, 32, 33, 34, 36, 37, 38, 39, 41, 42, 43] h (setO (setO g62_54 16 (fup (w41_16 16) b z62_54)) 20 (fup (w41_16 20) b 0)) := FR_up (show up (setO g62_54 16 (fup (w41_16 16) b z62_54)) 20 b 0 = (setO (setO g62_54 16 (fup (w41_16 16) b z62_54)) 20 (fup (w41_16 20) b 0)) from up_can ((sOf_ne _ _ (by decide)).trans (hG_54 20 (by decide))) rfl rfl) hF_55 (by decide)
        refine TT_aload_n hK rfl 0 rfl dX3_pack_74 ?_
        refine gf_X3_34 hK (by decide) rfl (q := 21) rfl rfl dX3_pack_75 ?_
        refine TT_iload hK 5 rfl dX3_pack_78 ?_
        refine TT_iconst hK dX3_pack_80 ?_
        refine TT_iast hK (o := 21) (n := 10) (by decide) rfl (by omega) (by omega) dX3_pack_81 ?_
        refine TT_hp (h' := setO (setO (setO g62_54 16 (fup (w41_16 16) b z62_54)) 20 (fup (w41_16 20) b 0)) 21 (fup (w41_16 21) b 3)) (up_can ((sOf_ne _ _ (by decide)).trans ((sOf_ne _ _ (by decide)).trans (hG_54 21 (by decide)))) rfl rfl) ?_
        have hT_57 : TY (setO (setO (setO g62_54 16 (fup (w41_16 16) b z62_54)) 20 (fup (w41_16 20) b 0)) 21 (fup (w41_16 21) b 3)) := tu_21 hT_56 (show up (setO (setO g62_54 16 (fup (w41_16 16) b z62_54)) 20 (fup (w41_16 20) b 0)) 21 b 3 = (setO (setO (setO g62_54 16 (fup (w41_16 16) b z62_54)) 20 (fup (w41_16 20) b 0)) 21 (fup (w41_16 21) b 3)) from up_can ((sOf_ne _ _ (by decide)).trans ((sOf_ne _ _ (by decide)).trans (hG_54 21 (by decide)))) rfl rfl) (by omega)
        have hF_57 : FR [5, 6, 8, 9, 10, 11, 12, 13, 14, 15, 16, 17, 18, 19, 20, 21, 22, 23, 24, 25, 26, 27, 28, 29, 30, 31, 32, 33, 34, 36, 37, 38, 39, 41, 42, 43] h (setO (setO (setO g62_54 16 (fup (w41_16 16) b z62_54)) 20 (fup (w41_16 20) b 0)) 21 (fup (w41_16 21) b 3)) := FR_up (show up (setO (setO g62_54 16 (fup (w41_16 16) b z62_54)) 20 (fup (w41_16 20) b 0)) 21 b 3 = (setO (setO (setO g62_54 16 (fup (w41_16 16) b z62_54)) 20 (fup (w41_16 20) b 0)) 21 (fup (w41_16 21) b 3)) from up_can ((sOf_ne _ _ (by decide)).trans ((sOf_ne _ _ (by decide)).trans (hG_54 21 (by decide)))) rfl rfl) hF_56 (by decide)
        refine TT_aload_n hK rfl 0 rfl dX3_pack_82 ?_
        refine TT_iload hK 5 rfl dX3_pack_83 ?_
        have e58_10 : (setO (setO (setO g62_54 16 (fup (w41_16 16) b z62_54)) 20 (fup (w41_16 20) b 0)) 21 (fup (w41_16 21) b 3)) 10 = w41_16 10 := (sOf_ne _ _ (by decide)).trans ((sOf_ne _ _ (by decide)).trans ((sOf_ne _ _ (by decide)).trans (hG_54 10 (by decide))))
        have e59_11 : (setO (setO (setO g62_54 16 (fup (w41_16 16) b z62_54)) 20 (fup (w41_16 20) b 0)) 21 (fup (w41_16 21) b 3)) 11 = w41_16 11 := (sOf_ne _ _ (by decide)).trans ((sOf_ne _ _ (by decide)).trans ((sOf_ne _ _ (by decide)).trans (hG_54 11 (by decide))))
        have e60_12 : (setO (setO (setO g62_54 16 (fup (w41_16 16) b z62_54)) 20 (fup (w41_16 20) b 0)) 21 (fup (w41_16 21) b 3)) 12 = w41_16 12 := (sOf_ne _ _ (by decide)).trans ((sOf_ne _ _ (by decide)).trans ((sOf_ne _ _ (by decide)).trans (hG_54 12 (by decide))))
        have e61_13 : (setO (setO (setO g62_54 16 (fup (w41_16 16) b z62_54)) 20 (fup (w41_16 20) b 0)) 21 (fup (w41_16 21) b 3)) 13 = w41_16 13 := (sOf_ne _ _ (by decide)).trans ((sOf_ne _ _ (by decide)).trans ((sOf_ne _ _ (by decide)).trans (hG_54 13 (by decide))))
        refine iv_X3_124 hK (s_X3_tellBand_7 b (setO (setO (setO g62_54 16 (fup (w41_16 16) b z62_54)) 20 (fup (w41_16 20) b 0)) 21 (fup (w41_16 21) b 3)) hT_57 (by first | omega | (simp [up, setR] <;> omega)) (by rewrite [e58_10, e59_11, e60_12, e61_13]; first | assumption | exact hbd)) (by decide) rfl ⟨by decide, by decide⟩ (by decide) rfl rfl (Nat.le_of_ble_eq_true rfl) ⟨by decide, by decide⟩ dX3_pack_85 ?_
        intro r9 g85_62 hp9
        obtain ⟨⟨hT_62, hG_62⟩, hr9⟩ := hp9
        rw [hr9]
        have hF_62 : FR [5, 6, 8, 9, 10, 11, 12, 13, 14, 15, 16, 17, 18, 19, 20, 21, 22, 23, 24, 25, 26, 27, 28, 29, 30, 31, 32, 33, 34, 36, 37, 38, 39, 41, 42, 43] h g85_62 := FR_tr hF_57 hG_62 (by decide)
        show TT K ly 0 0 88 [(0, vR 7), (1, vR 1), (2, vI l), (3, vI n), (4, vR 5), (5, vI b)] [] g85_62
        refine TT_aload_n hK rfl 0 rfl dX3_pack_88 ?_
        refine TT_iload hK 5 rfl dX3_pack_89 ?_
        refine iv_X3_128 hK (s_X3_findLeasts_7 b g85_62 hT_62 (by first | omega | (simp [up, setR] <;> omega))) (by decide) rfl ⟨by decide, by decide⟩ (by decide) rfl rfl (Nat.le_of_ble_eq_true rfl) ⟨by decide, by decide⟩ dX3_pack_91 ?_
        intro r9 g91_63 hp9
        obtain ⟨⟨hT_63, hG_63⟩, hr9⟩ := hp9
        rw [hr9]
        have hF_63 : FR [5, 6, 8, 9, 10, 11, 12, 13, 14, 15, 16, 17, 18, 19, 20, 21, 22, 23, 24, 25, 26, 27, 28, 29, 30, 31, 32, 33, 34, 36, 37, 38, 39, 41, 42, 43] h g91_63 := FR_tr hF_62 hG_63 (by decide)
        show TT K ly 0 0 94 [(0, vR 7), (1, vR 1), (2, vI l), (3, vI n), (4, vR 5), (5, vI b)] [] g91_63
        refine TT_iinc hK (v := b + 1) (lv' := [(5, vI (b + 1)), (0, vR 7), (1, vR 1), (2, vI l), (3, vI n), (4, vR 5)]) 5 rfl rfl (by decide) rfl dX3_pack_94 ?_
        refine TT_goto hK (tgt := 41) dX3_pack_97 (by decide) ?_
        refine TT_sub [1, 2, 3, 4, 5, 0] rfl ?_
        have e64_10 : g91_63 10 = w41_16 10 := ((hG_63 10 (by decide))).trans (((hG_62 10 (by decide))).trans ((sOf_ne _ _ (by decide)).trans ((sOf_ne _ _ (by decide)).trans ((sOf_ne _ _ (by decide)).trans (hG_54 10 (by decide))))))
        have e65_11 : g91_63 11 = w41_16 11 := ((hG_63 11 (by decide))).trans (((hG_62 11 (by decide))).trans ((sOf_ne _ _ (by decide)).trans ((sOf_ne _ _ (by decide)).trans ((sOf_ne _ _ (by decide)).trans (hG_54 11 (by decide))))))
        have e66_12 : g91_63 12 = w41_16 12 := ((hG_63 12 (by decide))).trans (((hG_62 12 (by decide))).trans ((sOf_ne _ _ (by decide)).trans ((sOf_ne _ _ (by decide)).trans ((sOf_ne _ _ (by decide)).trans (hG_54 12 (by decide))))))
        have e67_13 : g91_63 13 = w41_16 13 := ((hG_63 13 (by decide))).trans (((hG_62 13 (by decide))).trans ((sOf_ne _ _ (by decide)).trans ((sOf_ne _ _ (by decide)).trans ((sOf_ne _ _ (by decide)).trans (hG_54 13 (by decide))))))
        have e68_8_10 : g91_63 8 10 = (w41_16 8) 10 := rd_ (((hG_63 8 (by decide))).trans (((hG_62 8 (by decide))).trans ((sOf_ne _ _ (by decide)).trans ((sOf_ne _ _ (by decide)).trans ((sOf_ne _ _ (by decide)).trans (hG_54 8 (by decide))))))) rfl
        have e69_12 : g91_63 12 = w41_16 12 := ((hG_63 12 (by decide))).trans (((hG_62 12 (by decide))).trans ((sOf_ne _ _ (by decide)).trans ((sOf_ne _ _ (by decide)).trans ((sOf_ne _ _ (by decide)).trans (hG_54 12 (by decide))))))
        have e70_13 : g91_63 13 = w41_16 13 := ((hG_63 13 (by decide))).trans (((hG_62 13 (by decide))).trans ((sOf_ne _ _ (by decide)).trans ((sOf_ne _ _ (by decide)).trans ((sOf_ne _ _ (by decide)).trans (hG_54 13 (by decide))))))
        have e71_10 : g91_63 10 = w41_16 10 := ((hG_63 10 (by decide))).trans (((hG_62 10 (by decide))).trans ((sOf_ne _ _ (by decide)).trans ((sOf_ne _ _ (by decide)).trans ((sOf_ne _ _ (by decide)).trans (hG_54 10 (by decide))))))
        have e72_11 : g91_63 11 = w41_16 11 := ((hG_63 11 (by decide))).trans (((hG_62 11 (by decide))).trans ((sOf_ne _ _ (by decide)).trans ((sOf_ne _ _ (by decide)).trans ((sOf_ne _ _ (by decide)).trans (hG_54 11 (by decide))))))
        have e73_9 : g91_63 9 = w41_16 9 := ((hG_63 9 (by decide))).trans (((hG_62 9 (by decide))).trans ((sOf_ne _ _ (by decide)).trans ((sOf_ne _ _ (by decide)).trans ((sOf_ne _ _ (by decide)).trans (hG_54 9 (by decide))))))
        exact ih16 (b + 1) g91_63 hT_63 hF_63 (by first | omega | (simp [up, setR] <;> omega)) (by rewrite [e64_10, e65_11, e66_12, e67_13]; assumption) (by rewrite [e68_8_10]; exact kcn) (by rewrite [e69_12, e70_13]; exact hbw) (by rewrite [e71_10, e72_11, e73_9]; exact hnm) (by first | omega | (simp [up, setR] <;> omega))
  refine TT_sub [1, 2, 3, 4, 5, 0] rfl ?_
  have e74_10 : g35_15 10 = g13_3 10 := ((hG_15 10 (by decide))).trans (((hG_14 10 (by decide))).trans (hG_8 10 (by decide)))
  have e75_11 : g35_15 11 = g13_3 11 := ((hG_15 11 (by decide))).trans (((hG_14 11 (by decide))).trans (hG_8 11 (by decide)))
  have e76_12 : g35_15 12 = g13_3 12 := ((hG_15 12 (by decide))).trans (((hG_14 12 (by decide))).trans (hG_8 12 (by decide)))
  have e77_13 : g35_15 13 = g13_3 13 := ((hG_15 13 (by decide))).trans (((hG_14 13 (by decide))).trans (hG_8 13 (by decide)))
  have e78_8_10 : g35_15 8 10 = (g13_3 8) 10 := rd_ (((hG_15 8 (by decide))).trans (((hG_14 8 (by decide))).trans (hG_8 8 (by decide)))) rfl
  have e79_12 : g35_15 12 = g13_3 12 := ((hG_15 12 (by decide))).trans (((hG_14 12 (by decide))).trans (hG_8 12 (by decide)))
  have e80_13 : g35_15 13 = g13_3 13 := ((hG_15 13 (by decide))).trans (((hG_14 13 (by decide))).trans (hG_8 13 (by decide)))
  have e81_10 : g35_15 10 = g13_3 10 := ((hG_15 10 (by decide))).trans (((hG_14 10 (by decide))).trans (hG_8 10 (by decide)))
  have e82_11 : g35_15 11 = g13_3 11 := ((hG_15 11 (by decide))).trans (((hG_14 11 (by decide))).trans (hG_8 11 (by decide)))
  have e83_9 : g35_15 9 = g28_14 9 := (hG_15 9 (by decide))
  exact L41_16 ((((10 : Int) - 0).toNat) + 1) 0 g35_15 hT_15 hF_15 (by first | omega | (simp [up, setR] <;> omega)) (by rewrite [e74_10, e75_11, e76_12, e77_13]; assumption) (by rewrite [e78_8_10]; exact k1_at13.2.2.2) (by rewrite [e79_12, e80_13]; intro b g1 g2; have k9 := lay_at13 b g1 g2; exact ⟨k9.2.2.1, k9.2.2.2⟩) (by rewrite [e81_10, e82_11, e83_9]; intro b x2 y2 g1 g2 g3 g4 g5 g6; have k9 := lay_at13 b g1 g2; have f1 := CXr hsd.1 hsd.2 hl b ⟨g1, g2⟩; rw [k9.1, k9.2.1]; have k8 := p1_at28 ((CY (h 1 2) l b + y2) * 8 + CX (h 1 1) l b + x2) (by omega) (by omega) (by rw [k1_at13.1]; exact xLT hsd.1 hsd.2 hl ⟨g1, g2⟩ ⟨g3, g4⟩ ⟨g5, g6⟩) (by rw [k1_at13.2.1]; exact yLT hsd.1 hsd.2 hl ⟨g1, g2⟩ ⟨g3, g4⟩ ⟨g5, g6⟩); rw [k1_at13.1, k1_at13.2.1, k1_at13.2.2.1] at k8; rw [k8, show (CY (h 1 2) l b + y2) * 8 + CX (h 1 1) l b + x2 = 8 * CY (h 1 2) l b + CX (h 1 1) l b + 8 * y2 + x2 by omega]) (Nat.lt_succ_self _)
set_option maxRecDepth 20000 in
theorem s_hasBand_x (b : Int) (h : Hp_) (hT : TY h) (hb : -2147483648 ≤ b ∧ b ≤ 2147483647) : Ctr yX0_hasBand cX0_hasBand 2 (some .boolean) (rmd 0) ly ly 0 0 [vR 8, vI b] h (fun r h' => (TY h' ∧ FR [] h h') ∧ ∃ z : Int, r = some (vI z) ∧ (0 ≤ z ∧ z ≤ 1) ∧ (z = 1 → (0 ≤ b ∧ b < (h 8 10)) ∧ b < 10) ∧ (z = 0 → ¬(0 ≤ b ∧ b < (h 8 10)))) := by
  refine Ctr_of (by decide) (Nat.le_of_ble_eq_true rfl) ⟨Nat.le_refl _, Nat.le_refl _⟩ (fun K hK hQ _ => ?_)
  show TT K ly 0 0 0 [(0, vR 8), (1, vI b)] [] h
  have hF : FR [] h h := FR_rf _ _
  refine TT_iload_n hK rfl 1 rfl dX0_hasBand_0 ?_
  refine TT_if_lt hK (tgt := 16) (irm (by omega) (by omega)) dX0_hasBand_1 (by decide) (fun hb1_1 => ?_) (fun hb1_1 => ?_)
  · refine TT_iconst hK dX0_hasBand_16 ?_
    refine TT_zret hK hQ (by decide) ?_ dX0_hasBand_17
    exact ⟨⟨hT, hF⟩, 0, rfl, (by omega), (by omega), (by omega)⟩
  · refine TT_iload_n hK rfl 1 rfl dX0_hasBand_4 ?_
    refine TT_aload_n hK rfl 0 rfl dX0_hasBand_5 ?_
    refine gf_X0_43 hK (by decide) rfl (v := (h 8) 10) rfl dX0_hasBand_6 ?_
    have r2 := ty_8_10 (v := (h 8) 10) hT rfl
    refine TT_icmp_ge hK (tgt := 16) (irm (by omega) (by omega)) (irm (by omega) (by omega)) dX0_hasBand_9 (by decide) (fun hb9_3 => ?_) (fun hb9_3 => ?_)
    · refine TT_iconst hK dX0_hasBand_16 ?_
      refine TT_zret hK hQ (by decide) ?_ dX0_hasBand_17
      exact ⟨⟨hT, hF⟩, 0, rfl, (by omega), (by omega), (by omega)⟩
    · refine TT_iconst hK dX0_hasBand_12 ?_
      refine TT_goto hK (tgt := 17) dX0_hasBand_13 (by decide) ?_
      refine TT_zret hK hQ (by decide) ?_ dX0_hasBand_17
      exact ⟨⟨hT, hF⟩, 1, rfl, (by omega), (by omega), (by omega)⟩
set_option maxRecDepth 20000 in
theorem s_hasNumber_x (b x y : Int) (h : Hp_) (hT : TY h) (hb : -2147483648 ≤ b ∧ b ≤ 2147483647) (hx : -2147483648 ≤ x ∧ x ≤ 2147483647) (hy : -2147483648 ≤ y ∧ y ≤ 2147483647) : Ctr yX0_hasNumber cX0_hasNumber 4 (some .boolean) (rmd 1) ly ly 0 0 [vR 8, vI b, vI x, vI y] h (fun r h' => (TY h' ∧ FR [] h h') ∧ ∃ z : Int, r = some (vI z) ∧ (0 ≤ z ∧ z ≤ 1) ∧ (z = 1 → ((0 ≤ b ∧ b < (h 8 10)) ∧ (0 ≤ x ∧ x < (h 12) b) ∧ (0 ≤ y ∧ y < (h 13) b)) ∧ b < 10) ∧ (z = 0 → ¬((0 ≤ b ∧ b < (h 8 10)) ∧ (0 ≤ x ∧ x < (h 12) b) ∧ (0 ≤ y ∧ y < (h 13) b)))) := by
  refine Ctr_of (by decide) (Nat.le_of_ble_eq_true rfl) ⟨Nat.le_refl _, Nat.le_refl _⟩ (fun K hK hQ _ => ?_)
  show TT K ly 0 0 0 [(0, vR 8), (1, vI b), (2, vI x), (3, vI y)] [] h
  have hF : FR [] h h := FR_rf _ _
  refine TT_aload_n hK rfl 0 rfl dX0_hasNumber_0 ?_
  refine TT_iload_n hK rfl 1 rfl dX0_hasNumber_1 ?_
  refine iv_X0_54 hK (s_hasBand_x b h hT (by first | omega | (simp [up, setR] <;> omega))) (by decide) rfl ⟨by decide, by decide⟩ (by decide) rfl rfl (Nat.le_of_ble_eq_true rfl) ⟨by decide, by decide⟩ dX0_hasNumber_2 ?_
  intro r9 g2_1 hp9
  obtain ⟨⟨hT_1, hG_1⟩, z2_1, hr9, hz_1, p1_1, p2_1⟩ := hp9
  rw [hr9]
  have hF_1 : FR [] h g2_1 := FR_tr hF hG_1 (by decide)
  rw [show h 8 10 = (h 8) 10 from rfl] at p1_1
  rw [show h 8 10 = (h 8) 10 from rfl] at p2_1
  show TT K ly 0 0 5 [(0, vR 8), (1, vI b), (2, vI x), (3, vI y)] [vI z2_1] g2_1
  refine TT_if_eq hK (tgt := 40) (irm (by omega) (by omega)) dX0_hasNumber_5 (by decide) (fun hb5_2 => ?_) (fun hb5_2 => ?_)
  · refine TT_iconst hK dX0_hasNumber_40 ?_
    refine TT_zret hK hQ (by decide) ?_ dX0_hasNumber_41
    exact ⟨⟨hT_1, hF_1⟩, 0, rfl, (by omega), (by omega), (by omega)⟩
  · refine TT_iload_n hK rfl 2 rfl dX0_hasNumber_8 ?_
    refine TT_if_lt hK (tgt := 40) (irm (by omega) (by omega)) dX0_hasNumber_9 (by decide) (fun hb9_3 => ?_) (fun hb9_3 => ?_)
    · refine TT_iconst hK dX0_hasNumber_40 ?_
      refine TT_zret hK hQ (by decide) ?_ dX0_hasNumber_41
      exact ⟨⟨hT_1, hF_1⟩, 0, rfl, (by omega), (by omega), (by omega)⟩
    · refine TT_iload_n hK rfl 2 rfl dX0_hasNumber_12 ?_
      refine TT_aload_n hK rfl 0 rfl dX0_hasNumber_13 ?_
      refine gf_X0_21 hK (by decide) rfl (q := 12) rfl rfl dX0_hasNumber_14 ?_
      refine TT_iload_n hK rfl 1 rfl dX0_hasNumber_17 ?_
      refine TT_iald hK (o := 12) (n := 10) (by decide) rfl (by first | omega | (simp [up, setR] <;> omega)) (by first | omega | (simp [up, setR] <;> omega)) (v := (h 12) b) (rd_ (hG_1 12 (by decide)) rfl) dX0_hasNumber_18 ?_
      have r4 := ty_12 (i := b) (v := (h 12) b) hT_1 (rd_ (hG_1 12 (by decide)) rfl) (by omega) (by omega)
      refine TT_icmp_ge hK (tgt := 40) (irm (by omega) (by omega)) (irm (by omega) (by omega)) dX0_hasNumber_19 (by decide) (fun hb19_5 => ?_) (fun hb19_5 => ?_)
      · refine TT_iconst hK dX0_hasNumber_40 ?_
        refine TT_zret hK hQ (by decide) ?_ dX0_hasNumber_41
        exact ⟨⟨hT_1, hF_1⟩, 0, rfl, (by omega), (by omega), (by omega)⟩
      · refine TT_iload_n hK rfl 3 rfl dX0_hasNumber_22 ?_
        refine TT_if_lt hK (tgt := 40) (irm (by omega) (by omega)) dX0_hasNumber_23 (by decide) (fun hb23_6 => ?_) (fun hb23_6 => ?_)
        · refine TT_iconst hK dX0_hasNumber_40 ?_
          refine TT_zret hK hQ (by decide) ?_ dX0_hasNumber_41
          exact ⟨⟨hT_1, hF_1⟩, 0, rfl, (by omega), (by omega), (by omega)⟩
        · refine TT_iload_n hK rfl 3 rfl dX0_hasNumber_26 ?_
          refine TT_aload_n hK rfl 0 rfl dX0_hasNumber_27 ?_
          refine gf_X0_24 hK (by decide) rfl (q := 13) rfl rfl dX0_hasNumber_28 ?_
          refine TT_iload_n hK rfl 1 rfl dX0_hasNumber_31 ?_
          refine TT_iald hK (o := 13) (n := 10) (by decide) rfl (by first | omega | (simp [up, setR] <;> omega)) (by first | omega | (simp [up, setR] <;> omega)) (v := (h 13) b) (rd_ (hG_1 13 (by decide)) rfl) dX0_hasNumber_32 ?_
          have r7 := ty_13 (i := b) (v := (h 13) b) hT_1 (rd_ (hG_1 13 (by decide)) rfl) (by omega) (by omega)
          refine TT_icmp_ge hK (tgt := 40) (irm (by omega) (by omega)) (irm (by omega) (by omega)) dX0_hasNumber_33 (by decide) (fun hb33_8 => ?_) (fun hb33_8 => ?_)
          · refine TT_iconst hK dX0_hasNumber_40 ?_
            refine TT_zret hK hQ (by decide) ?_ dX0_hasNumber_41
            exact ⟨⟨hT_1, hF_1⟩, 0, rfl, (by omega), (by omega), (by omega)⟩
          · refine TT_iconst hK dX0_hasNumber_36 ?_
            refine TT_goto hK (tgt := 41) dX0_hasNumber_37 (by decide) ?_
            refine TT_zret hK hQ (by decide) ?_ dX0_hasNumber_41
            exact ⟨⟨hT_1, hF_1⟩, 1, rfl, (by omega), (by omega), (by omega)⟩
set_option maxRecDepth 20000 in
theorem s_at_x8 (b x y : Int) (h : Hp_) (hT : TY h) (hb : -2147483648 ≤ b ∧ b ≤ 2147483647) (hx : -2147483648 ≤ x ∧ x ≤ 2147483647) (hy : -2147483648 ≤ y ∧ y ≤ 2147483647) (hbd : BDQ (h 10) (h 12) (h 11) (h 13)) : Ctr yX0_at cX0_at 4 (some .int) (rmd 2) ly ly 0 0 [vR 8, vI b, vI x, vI y] h (fun r h' => (TY h' ∧ FR [] h h') ∧ ∃ z : Int, r = some (vI z) ∧ (-2147483648 ≤ z ∧ z ≤ 2147483647) ∧ (((0 ≤ b ∧ b < (h 8 10)) ∧ (0 ≤ x ∧ x < (h 12) b) ∧ (0 ≤ y ∧ y < (h 13) b) → z = (h 9) (((h 11) b + y) * 8 + (h 10) b + x)) ∧ (¬((0 ≤ b ∧ b < (h 8 10)) ∧ (0 ≤ x ∧ x < (h 12) b) ∧ (0 ≤ y ∧ y < (h 13) b)) → z = -100000))) := by
  refine Ctr_of (by decide) (Nat.le_of_ble_eq_true rfl) ⟨Nat.le_refl _, Nat.le_refl _⟩ (fun K hK hQ _ => ?_)
  show TT K ly 0 0 0 [(0, vR 8), (1, vI b), (2, vI x), (3, vI y)] [] h
  have hF : FR [] h h := FR_rf _ _
  refine TT_aload_n hK rfl 0 rfl dX0_at_0 ?_
  refine TT_iload_n hK rfl 1 rfl dX0_at_1 ?_
  refine TT_iload_n hK rfl 2 rfl dX0_at_2 ?_
  refine TT_iload_n hK rfl 3 rfl dX0_at_3 ?_
  refine iv_X0_58 hK (s_hasNumber_x b x y h hT (by first | omega | (simp [up, setR] <;> omega)) (by first | omega | (simp [up, setR] <;> omega)) (by first | omega | (simp [up, setR] <;> omega))) (by decide) rfl ⟨by decide, by decide⟩ (by decide) rfl rfl (Nat.le_of_ble_eq_true rfl) ⟨by decide, by decide⟩ dX0_at_4 ?_
  intro r9 g4_1 hp9
  obtain ⟨⟨hT_1, hG_1⟩, z4_1, hr9, hz_1, p1_1, p2_1⟩ := hp9
  rw [hr9]
  have hF_1 : FR [] h g4_1 := FR_tr hF hG_1 (by decide)
  rw [show h 8 10 = (h 8) 10 from rfl] at p1_1
  rw [show h 8 10 = (h 8) 10 from rfl] at p2_1
  show TT K ly 0 0 7 [(0, vR 8), (1, vI b), (2, vI x), (3, vI y)] [vI z4_1] g4_1
  refine TT_if_eq hK (tgt := 38) (irm (by omega) (by omega)) dX0_at_7 (by decide) (fun hb7_2 => ?_) (fun hb7_2 => ?_)
  · refine TT_ldc hK lc_X0_62 dX0_at_38 ?_
    refine TT_iret hK hQ ?_ dX0_at_40
    exact ⟨⟨hT_1, hF_1⟩, (-100000), rfl, (by omega), (by first | exact ⟨fun q => by exfalso; omega, fun _ => rfl⟩ | exact ⟨fun _ => rfl, fun q => absurd (by omega) q⟩)⟩
  · have bq := hbd b (by omega) (by omega)
    refine TT_aload_n hK rfl 0 rfl dX0_at_10 ?_
    refine gf_X0_9 hK (by decide) rfl (q := 9) rfl rfl dX0_at_11 ?_
    refine TT_aload_n hK rfl 0 rfl dX0_at_14 ?_
    refine gf_X0_18 hK (by decide) rfl (q := 11) rfl rfl dX0_at_15 ?_
    refine TT_iload_n hK rfl 1 rfl dX0_at_18 ?_
    refine TT_iald hK (o := 11) (n := 10) (by decide) rfl (by first | omega | (simp [up, setR] <;> omega)) (by first | omega | (simp [up, setR] <;> omega)) (v := (h 11) b) (rd_ (hG_1 11 (by decide)) rfl) dX0_at_19 ?_
    have r3 := ty_11 (i := b) (v := (h 11) b) hT_1 (rd_ (hG_1 11 (by decide)) rfl) (by omega) (by omega)
    refine TT_iload_n hK rfl 3 rfl dX0_at_20 ?_
    refine TT_iadd hK dX0_at_21 ?_
    refine TT_bipush hK (by decide) dX0_at_22 ?_
    refine TT_imul hK dX0_at_24 ?_
    refine TT_aload_n hK rfl 0 rfl dX0_at_25 ?_
    refine gf_X0_15 hK (by decide) rfl (q := 10) rfl rfl dX0_at_26 ?_
    refine TT_iload_n hK rfl 1 rfl dX0_at_29 ?_
    refine TT_iald hK (o := 10) (n := 10) (by decide) rfl (by first | omega | (simp [up, setR] <;> omega)) (by first | omega | (simp [up, setR] <;> omega)) (v := (h 10) b) (rd_ (hG_1 10 (by decide)) rfl) dX0_at_30 ?_
    have r4 := ty_10 (i := b) (v := (h 10) b) hT_1 (rd_ (hG_1 10 (by decide)) rfl) (by omega) (by omega)
    refine TT_iadd hK dX0_at_31 ?_
    refine TT_iload_n hK rfl 2 rfl dX0_at_32 ?_
    refine TT_iadd hK dX0_at_33 ?_
    refine TT_iald hK (o := 9) (n := 64) (by decide) rfl (by first | omega | (simp [up, setR] <;> omega)) (by first | omega | (simp [up, setR] <;> omega)) (v := (h 9) ((((((h 11) b) + y) * 8) + ((h 10) b)) + x)) (rd_ (hG_1 9 (by decide)) rfl) dX0_at_34 ?_
    have r5 := ty_9 (i := (((((h 11) b) + y) * 8) + ((h 10) b)) + x) (v := (h 9) ((((((h 11) b) + y) * 8) + ((h 10) b)) + x)) hT_1 (rd_ (hG_1 9 (by decide)) rfl) (by omega) (by omega)
    refine TT_goto hK (tgt := 40) dX0_at_35 (by decide) ?_
    refine TT_iret hK hQ ?_ dX0_at_40
    exact ⟨⟨hT_1, hF_1⟩, ((h 9) ((((((h 11) b) + y) * 8) + ((h 10) b)) + x)), rfl, (by omega), (by first | exact ⟨fun q => by exfalso; omega, fun _ => rfl⟩ | exact ⟨fun _ => rfl, fun q => absurd (by omega) q⟩)⟩
set_option maxRecDepth 20000 in
theorem s_numberOf_x (b x y : Int) (h : Hp_) (hT : TY h) (hb : -2147483648 ≤ b ∧ b ≤ 2147483647) (hx : -2147483648 ≤ x ∧ x ≤ 2147483647) (hy : -2147483648 ≤ y ∧ y ≤ 2147483647) (hbd : BDQ (h 10) (h 12) (h 11) (h 13)) : Ctr yX3_numberOf cX3_numberOf 4 (some .int) (rmd 3) ly ly 0 0 [vR 7, vI b, vI x, vI y] h (fun r h' => (TY h' ∧ FR [] h h') ∧ ∃ z : Int, r = some (vI z) ∧ (-2147483648 ≤ z ∧ z ≤ 2147483647) ∧ (((0 ≤ b ∧ b < (h 8 10)) ∧ (0 ≤ x ∧ x < (h 12) b) ∧ (0 ≤ y ∧ y < (h 13) b) → z = (h 9) (((h 11) b + y) * 8 + (h 10) b + x)) ∧ (¬((0 ≤ b ∧ b < (h 8 10)) ∧ (0 ≤ x ∧ x < (h 12) b) ∧ (0 ≤ y ∧ y < (h 13) b)) → z = -100000))) := by
  refine Ctr_of (by decide) (Nat.le_of_ble_eq_true rfl) ⟨Nat.le_refl _, Nat.le_refl _⟩ (fun K hK hQ _ => ?_)
  show TT K ly 0 0 0 [(0, vR 7), (1, vI b), (2, vI x), (3, vI y)] [] h
  have hF : FR [] h h := FR_rf _ _
  refine TT_aload_n hK rfl 0 rfl dX3_numberOf_0 ?_
  refine gf_X3_12 hK (by decide) rfl (q := 8) rfl rfl dX3_numberOf_1 ?_
  refine TT_iload_n hK rfl 1 rfl dX3_numberOf_4 ?_
  refine TT_iload_n hK rfl 2 rfl dX3_numberOf_5 ?_
  refine TT_iload_n hK rfl 3 rfl dX3_numberOf_6 ?_
  refine iv_X3_89 hK (s_at_x8 b x y h hT (by first | omega | (simp [up, setR] <;> omega)) (by first | omega | (simp [up, setR] <;> omega)) (by first | omega | (simp [up, setR] <;> omega)) (by first | assumption | exact hbd)) (by decide) rfl ⟨by decide, by decide⟩ (by decide) rfl rfl (Nat.le_of_ble_eq_true rfl) ⟨by decide, by decide⟩ dX3_numberOf_7 ?_
  intro r9 g7_1 hp9
  obtain ⟨⟨hT_1, hG_1⟩, z7_1, hr9, hz_1, q1_1⟩ := hp9
  rw [hr9]
  have hF_1 : FR [] h g7_1 := FR_tr hF hG_1 (by decide)
  rw [show h 8 10 = (h 8) 10 from rfl] at q1_1
  show TT K ly 0 0 10 [(0, vR 7), (1, vI b), (2, vI x), (3, vI y)] [vI z7_1] g7_1
  refine TT_iret hK hQ ?_ dX3_numberOf_10
  exact ⟨⟨hT_1, hF_1⟩, z7_1, rfl, (by omega), (by assumption)⟩
set_option maxRecDepth 20000 in
theorem s_cnumber_x (b x y : Int) (h : Hp_) (hT : TY h) (hb : -2147483648 ≤ b ∧ b ≤ 2147483647) (hx : -2147483648 ≤ x ∧ x ≤ 2147483647) (hy : -2147483648 ≤ y ∧ y ≤ 2147483647) (hbd : BDQ (h 10) (h 12) (h 11) (h 13)) : Ctr yX11_number cX11_number 4 (some .int) (rmd 4) ly ly 0 0 [vR 0, vI b, vI x, vI y] h (fun r h' => (TY h' ∧ FR [] h h') ∧ ∃ z : Int, r = some (vI z) ∧ (-2147483648 ≤ z ∧ z ≤ 2147483647) ∧ (((0 ≤ b ∧ b < (h 8 10)) ∧ (0 ≤ x ∧ x < (h 12) b) ∧ (0 ≤ y ∧ y < (h 13) b) → z = (h 9) (((h 11) b + y) * 8 + (h 10) b + x)) ∧ (¬((0 ≤ b ∧ b < (h 8 10)) ∧ (0 ≤ x ∧ x < (h 12) b) ∧ (0 ≤ y ∧ y < (h 13) b)) → z = -100000))) := by
  refine Ctr_of (by decide) (Nat.le_of_ble_eq_true rfl) ⟨Nat.le_refl _, Nat.le_refl _⟩ (fun K hK hQ _ => ?_)
  show TT K ly 0 0 0 [(0, vR 0), (1, vI b), (2, vI x), (3, vI y)] [] h
  have hF : FR [] h h := FR_rf _ _
  refine TT_aload_n hK rfl 0 rfl dX11_number_0 ?_
  refine gf_X11_29 hK (by decide) rfl (q := 7) rfl rfl dX11_number_1 ?_
  refine TT_iload_n hK rfl 1 rfl dX11_number_4 ?_
  refine TT_iload_n hK rfl 2 rfl dX11_number_5 ?_
  refine TT_iload_n hK rfl 3 rfl dX11_number_6 ?_
  refine iv_X11_96 hK (s_numberOf_x b x y h hT (by first | omega | (simp [up, setR] <;> omega)) (by first | omega | (simp [up, setR] <;> omega)) (by first | omega | (simp [up, setR] <;> omega)) (by first | assumption | exact hbd)) (by decide) rfl ⟨by decide, by decide⟩ (by decide) rfl rfl (Nat.le_of_ble_eq_true rfl) ⟨by decide, by decide⟩ dX11_number_7 ?_
  intro r9 g7_1 hp9
  obtain ⟨⟨hT_1, hG_1⟩, z7_1, hr9, hz_1, q1_1⟩ := hp9
  rw [hr9]
  have hF_1 : FR [] h g7_1 := FR_tr hF hG_1 (by decide)
  rw [show h 8 10 = (h 8) 10 from rfl] at q1_1
  show TT K ly 0 0 10 [(0, vR 0), (1, vI b), (2, vI x), (3, vI y)] [vI z7_1] g7_1
  refine TT_iret hK hQ ?_ dX11_number_10
  exact ⟨⟨hT_1, hF_1⟩, z7_1, rfl, (by omega), (by assumption)⟩
set_option maxRecDepth 20000 in
theorem s_areLevels_x (n : Int) (h : Hp_) (hT : TY h) (hn : -2147483648 ≤ n ∧ n ≤ 2147483647) : Ctr yX11_areLevels cX11_areLevels 1 (some .boolean) (rmd 0) ly ly 0 0 [vI n] h (fun r h' => (TY h' ∧ FR [] h h') ∧ ∃ z : Int, r = some (vI z) ∧ (0 ≤ z ∧ z ≤ 1) ∧ (z = 1 → 0 ≤ n ∧ n ≤ 3) ∧ (z = 0 → ¬(0 ≤ n ∧ n ≤ 3))) := by
  refine Ctr_of (by decide) (Nat.le_of_ble_eq_true rfl) ⟨Nat.le_refl _, Nat.le_refl _⟩ (fun K hK hQ _ => ?_)
  show TT K ly 0 0 0 [(0, vI n)] [] h
  have hF : FR [] h h := FR_rf _ _
  refine TT_iload_n hK rfl 0 rfl dX11_areLevels_0 ?_
  refine TT_if_lt hK (tgt := 13) (irm (by omega) (by omega)) dX11_areLevels_1 (by decide) (fun hb1_1 => ?_) (fun hb1_1 => ?_)
  · refine TT_iconst hK dX11_areLevels_13 ?_
    refine TT_zret hK hQ (by decide) ?_ dX11_areLevels_14
    exact ⟨⟨hT, hF⟩, 0, rfl, (by omega), (by omega), (by omega)⟩
  · refine TT_iload_n hK rfl 0 rfl dX11_areLevels_4 ?_
    refine TT_iconst hK dX11_areLevels_5 ?_
    refine TT_icmp_gt hK (tgt := 13) (irm (by omega) (by omega)) (by decide) dX11_areLevels_6 (by decide) (fun hb6_2 => ?_) (fun hb6_2 => ?_)
    · refine TT_iconst hK dX11_areLevels_13 ?_
      refine TT_zret hK hQ (by decide) ?_ dX11_areLevels_14
      exact ⟨⟨hT, hF⟩, 0, rfl, (by omega), (by omega), (by omega)⟩
    · refine TT_iconst hK dX11_areLevels_9 ?_
      refine TT_goto hK (tgt := 14) dX11_areLevels_10 (by decide) ?_
      refine TT_zret hK hQ (by decide) ?_ dX11_areLevels_14
      exact ⟨⟨hT, hF⟩, 1, rfl, (by omega), (by omega), (by omega)⟩
set_option maxRecDepth 20000 in
theorem s_areLayers_x (n : Int) (h : Hp_) (hT : TY h) (hn : -2147483648 ≤ n ∧ n ≤ 2147483647) : Ctr yX11_areLayers cX11_areLayers 1 (some .boolean) (rmd 0) ly ly 0 0 [vI n] h (fun r h' => (TY h' ∧ FR [] h h') ∧ ∃ z : Int, r = some (vI z) ∧ (0 ≤ z ∧ z ≤ 1) ∧ (z = 1 → 1 ≤ n ∧ n ≤ 3) ∧ (z = 0 → ¬(1 ≤ n ∧ n ≤ 3))) := by
  refine Ctr_of (by decide) (Nat.le_of_ble_eq_true rfl) ⟨Nat.le_refl _, Nat.le_refl _⟩ (fun K hK hQ _ => ?_)
  show TT K ly 0 0 0 [(0, vI n)] [] h
  have hF : FR [] h h := FR_rf _ _
  refine TT_iload_n hK rfl 0 rfl dX11_areLayers_0 ?_
  refine TT_iconst hK dX11_areLayers_1 ?_
  refine TT_icmp_lt hK (tgt := 14) (irm (by omega) (by omega)) (by decide) dX11_areLayers_2 (by decide) (fun hb2_1 => ?_) (fun hb2_1 => ?_)
  · refine TT_iconst hK dX11_areLayers_14 ?_
    refine TT_zret hK hQ (by decide) ?_ dX11_areLayers_15
    exact ⟨⟨hT, hF⟩, 0, rfl, (by omega), (by omega), (by omega)⟩
  · refine TT_iload_n hK rfl 0 rfl dX11_areLayers_5 ?_
    refine TT_iconst hK dX11_areLayers_6 ?_
    refine TT_icmp_gt hK (tgt := 14) (irm (by omega) (by omega)) (by decide) dX11_areLayers_7 (by decide) (fun hb7_2 => ?_) (fun hb7_2 => ?_)
    · refine TT_iconst hK dX11_areLayers_14 ?_
      refine TT_zret hK hQ (by decide) ?_ dX11_areLayers_15
      exact ⟨⟨hT, hF⟩, 0, rfl, (by omega), (by omega), (by omega)⟩
    · refine TT_iconst hK dX11_areLayers_10 ?_
      refine TT_goto hK (tgt := 15) dX11_areLayers_11 (by decide) ?_
      refine TT_zret hK hQ (by decide) ?_ dX11_areLayers_15
      exact ⟨⟨hT, hF⟩, 1, rfl, (by omega), (by omega), (by omega)⟩
set_option maxRecDepth 20000 in
theorem s_cencode_x (l n : Int) (h : Hp_) (hT : TY h) (hl : -2147483648 ≤ l ∧ l ≤ 2147483647) (hn : -2147483648 ≤ n ∧ n ≤ 2147483647) (hbd : BDQ (h 10) (h 12) (h 11) (h 13)) (hsd : (1 ≤ (h 1 1) ∧ (h 1 1) ≤ 8) ∧ (1 ≤ (h 1 2) ∧ (h 1 2) ≤ 8)) : CtrB yX11_encode cX11_encode 3 (some .int) rmB ly 1 6 [vR 0, vI l, vI n] h (fun r h' => (TY h' ∧ FR [5, 6, 8, 9, 10, 11, 12, 13, 14, 15, 16, 17, 18, 19, 20, 21, 22, 23, 24, 25, 26, 27, 28, 29, 30, 31, 32, 33, 34, 36, 37, 38, 39, 41, 42, 43] h h') ∧ ∃ z : Int, r = some (vI z) ∧ (0 ≤ z ∧ z ≤ 1024) ∧ (BDQ (h' 10) (h' 12) (h' 11) (h' 13)) ∧ ((0 ≤ l ∧ l ≤ 3) ∧ (1 ≤ n ∧ n ≤ 3)) ∧ ((h' 8 10) = 3 * l + 1) ∧ (∀ b : Int, 0 ≤ b → b < 3 * l + 1 → (h' 12) b = BW (h 1 1) l b ∧ (h' 13) b = BH (h 1 2) l b) ∧ (∀ b x2 y2 : Int, 0 ≤ b → b < 3 * l + 1 → 0 ≤ x2 → x2 < BW (h 1 1) l b → 0 ≤ y2 → y2 < BH (h 1 2) l b → (h' 9) (((h' 11) b + y2) * 8 + (h' 10) b + x2) = LE (h 1 1) (h 1 2) (fun i => (h 2) i - 128) l (8 * CY (h 1 2) l b + CX (h 1 1) l b + 8 * y2 + x2))) (fun h' => (TY h' ∧ FR [5, 6, 8, 9, 10, 11, 12, 13, 14, 15, 16, 17, 18, 19, 20, 21, 22, 23, 24, 25, 26, 27, 28, 29, 30, 31, 32, 33, 34, 36, 37, 38, 39, 41, 42, 43] h h') ∧ (BDQ (h' 10) (h' 12) (h' 11) (h' 13)) ∧ (¬((0 ≤ l ∧ l ≤ 3) ∧ (1 ≤ n ∧ n ≤ 3))) ∧ ((h' 8) = (h 8)) ∧ ((h' 9) = (h 9) ∧ (h' 10) = (h 10) ∧ (h' 11) = (h 11)) ∧ ((h' 12) = (h 12) ∧ (h' 13) = (h 13))) := by
  refine CtrB_of (by decide) (Nat.le_of_ble_eq_true rfl) ⟨by decide, by decide⟩ (fun K hK hQ => ?_)
  show TT K ly 0 0 0 [(0, vR 0), (1, vI l), (2, vI n)] [] h
  have hF : FR [5, 6, 8, 9, 10, 11, 12, 13, 14, 15, 16, 17, 18, 19, 20, 21, 22, 23, 24, 25, 26, 27, 28, 29, 30, 31, 32, 33, 34, 36, 37, 38, 39, 41, 42, 43] h h := FR_rf _ _
  refine TT_iload_n hK rfl 1 rfl dX11_encode_0 ?_
  refine iv_X11_69 hK (s_areLevels_x l h hT (by first | omega | (simp [up, setR] <;> omega))) ⟨by decide, by decide⟩ (by decide) rfl rfl (Nat.le_of_ble_eq_true rfl) ⟨by decide, by decide⟩ dX11_encode_1 ?_
  intro r9 g1_1 hp9
  obtain ⟨⟨hT_1, hG_1⟩, z1_1, hr9, hz_1, p1_1, p2_1⟩ := hp9
  rw [hr9]
  have hF_1 : FR [5, 6, 8, 9, 10, 11, 12, 13, 14, 15, 16, 17, 18, 19, 20, 21, 22, 23, 24, 25, 26, 27, 28, 29, 30, 31, 32, 33, 34, 36, 37, 38, 39, 41, 42, 43] h g1_1 := FR_tr hF hG_1 (by decide)
  show TT K ly 0 0 4 [(0, vR 0), (1, vI l), (2, vI n)] [vI z1_1] g1_1
  refine TT_if_eq hK (tgt := 14) (irm (by omega) (by omega)) dX11_encode_4 (by decide) (fun hb4_2 => ?_) (fun hb4_2 => ?_)
  · have e3_10 : g1_1 10 = h 10 := (hG_1 10 (by decide))
    have e4_11 : g1_1 11 = h 11 := (hG_1 11 (by decide))
    have e5_12 : g1_1 12 = h 12 := (hG_1 12 (by decide))
    have e6_13 : g1_1 13 = h 13 := (hG_1 13 (by decide))
    have e7_8 : g1_1 8 = h 8 := (hG_1 8 (by decide))
    have e8_10 : g1_1 10 = h 10 := (hG_1 10 (by decide))
    have e9_11 : g1_1 11 = h 11 := (hG_1 11 (by decide))
    have e10_9 : g1_1 9 = h 9 := (hG_1 9 (by decide))
    have e11_12 : g1_1 12 = h 12 := (hG_1 12 (by decide))
    have e12_13 : g1_1 13 = h 13 := (hG_1 13 (by decide))
    exact TT_throwB hK hQ 2 (by decide) ⟨⟨hT_1, hF_1⟩, (by rewrite [e3_10, e4_11, e5_12, e6_13]; first | assumption | exact hbd), (by omega), (by rewrite [e7_8]; rfl), (by rewrite [e8_10, e9_11, e10_9]; exact ⟨rfl, rfl, rfl⟩), (by rewrite [e11_12, e12_13]; exact ⟨rfl, rfl⟩)⟩ (Nat.le_of_ble_eq_true rfl) ⟨by decide, by decide⟩ dX11_encode_14 dX11_encode_17 dX11_encode_18 dX11_encode_20 dX11_encode_23
  · refine TT_iload_n hK rfl 2 rfl dX11_encode_7 ?_
    refine iv_X11_72 hK (s_areLayers_x n g1_1 hT_1 (by first | omega | (simp [up, setR] <;> omega))) ⟨by decide, by decide⟩ (by decide) rfl rfl (Nat.le_of_ble_eq_true rfl) ⟨by decide, by decide⟩ dX11_encode_8 ?_
    intro r9 g8_13 hp9
    obtain ⟨⟨hT_13, hG_13⟩, z8_13, hr9, hz_13, p1_13, p2_13⟩ := hp9
    rw [hr9]
    have hF_13 : FR [5, 6, 8, 9, 10, 11, 12, 13, 14, 15, 16, 17, 18, 19, 20, 21, 22, 23, 24, 25, 26, 27, 28, 29, 30, 31, 32, 33, 34, 36, 37, 38, 39, 41, 42, 43] h g8_13 := FR_tr hF_1 hG_13 (by decide)
    show TT K ly 0 0 11 [(0, vR 0), (1, vI l), (2, vI n)] [vI z8_13] g8_13
    refine TT_if_ne hK (tgt := 24) (irm (by omega) (by omega)) dX11_encode_11 (by decide) (fun hb11_14 => ?_) (fun hb11_14 => ?_)
    · refine TT_aload_n hK rfl 0 rfl dX11_encode_24 ?_
      refine gf_X11_29 hK (by decide) rfl (q := 7) rfl rfl dX11_encode_25 ?_
      refine TT_aload_n hK rfl 0 rfl dX11_encode_28 ?_
      refine gf_X11_10 hK (by decide) rfl (q := 1) rfl rfl dX11_encode_29 ?_
      refine TT_iload_n hK rfl 1 rfl dX11_encode_32 ?_
      refine TT_iload_n hK rfl 2 rfl dX11_encode_33 ?_
      refine TT_aload_n hK rfl 0 rfl dX11_encode_34 ?_
      refine gf_X11_22 hK (by decide) rfl (q := 5) rfl rfl dX11_encode_35 ?_
      have e15_10 : g8_13 10 = h 10 := ((hG_13 10 (by decide))).trans (hG_1 10 (by decide))
      have e16_11 : g8_13 11 = h 11 := ((hG_13 11 (by decide))).trans (hG_1 11 (by decide))
      have e17_12 : g8_13 12 = h 12 := ((hG_13 12 (by decide))).trans (hG_1 12 (by decide))
      have e18_13 : g8_13 13 = h 13 := ((hG_13 13 (by decide))).trans (hG_1 13 (by decide))
      have e19_1_1 : g8_13 1 1 = (h 1) 1 := rd_ (((hG_13 1 (by decide))).trans (hG_1 1 (by decide))) rfl
      have e20_1_2 : g8_13 1 2 = (h 1) 2 := rd_ (((hG_13 1 (by decide))).trans (hG_1 1 (by decide))) rfl
      refine iv_X11_77 hK (s_pack_x l n g8_13 hT_13 (by first | omega | (simp [up, setR] <;> omega)) (by first | omega | (simp [up, setR] <;> omega)) (by rewrite [e15_10, e16_11, e17_12, e18_13]; first | assumption | exact hbd) (by rewrite [e19_1_1, e20_1_2]; first | omega | (simp [up, setR] <;> omega))) (by decide) rfl ⟨by decide, by decide⟩ (by decide) rfl rfl (Nat.le_of_ble_eq_true rfl) ⟨by decide, by decide⟩ dX11_encode_38 ?_
      intro r9 g38_21 hp9
      obtain ⟨⟨hT_21, hG_21⟩, hr9, p1_21, c1_21, c2_21, c3_21⟩ := hp9
      rw [hr9]
      have hF_21 : FR [5, 6, 8, 9, 10, 11, 12, 13, 14, 15, 16, 17, 18, 19, 20, 21, 22, 23, 24, 25, 26, 27, 28, 29, 30, 31, 32, 33, 34, 36, 37, 38, 39, 41, 42, 43] h g38_21 := FR_tr hF_13 hG_21 (by decide)
      rw [show g8_13 1 1 = (h 1) 1 from rd_ (((hG_13 1 (by decide))).trans (hG_1 1 (by decide))) rfl] at c2_21
      rw [show g8_13 1 2 = (h 1) 2 from rd_ (((hG_13 1 (by decide))).trans (hG_1 1 (by decide))) rfl] at c2_21
      rw [show g8_13 1 1 = (h 1) 1 from rd_ (((hG_13 1 (by decide))).trans (hG_1 1 (by decide))) rfl] at c3_21
      rw [show g8_13 1 2 = (h 1) 2 from rd_ (((hG_13 1 (by decide))).trans (hG_1 1 (by decide))) rfl] at c3_21
      rw [show g8_13 2 = h 2 from ((hG_13 2 (by decide))).trans (hG_1 2 (by decide))] at c3_21
      have c1_at38 := c1_21
      have c2_at38 := c2_21
      have c3_at38 := c3_21
      show TT K ly 0 0 41 [(0, vR 0), (1, vI l), (2, vI n)] [] g38_21
      refine TT_aload_n hK rfl 0 rfl dX11_encode_41 ?_
      refine gf_X11_22 hK (by decide) rfl (q := 5) rfl rfl dX11_encode_42 ?_
      refine iv_X11_81 hK (s_X1_length_5 g38_21 hT_21 ) (by decide) rfl ⟨by decide, by decide⟩ (by decide) rfl rfl (Nat.le_of_ble_eq_true rfl) ⟨by decide, by decide⟩ dX11_encode_45 ?_
      intro r9 g45_22 hp9
      obtain ⟨⟨hT_22, hG_22⟩, z45_22, hr9, hz_22⟩ := hp9
      rw [hr9]
      have hF_22 : FR [5, 6, 8, 9, 10, 11, 12, 13, 14, 15, 16, 17, 18, 19, 20, 21, 22, 23, 24, 25, 26, 27, 28, 29, 30, 31, 32, 33, 34, 36, 37, 38, 39, 41, 42, 43] h g45_22 := FR_tr hF_21 hG_22 (by decide)
      show TT K ly 0 0 48 [(0, vR 0), (1, vI l), (2, vI n)] [vI z45_22] g45_22
      refine TT_widen (kc' := 1) (ks' := 6) (by decide) (by decide) ?_
      refine TT_iretB hK hQ ?_ dX11_encode_48
      have e23_10 : g45_22 10 = g38_21 10 := (hG_22 10 (by decide))
      have e24_11 : g45_22 11 = g38_21 11 := (hG_22 11 (by decide))
      have e25_12 : g45_22 12 = g38_21 12 := (hG_22 12 (by decide))
      have e26_13 : g45_22 13 = g38_21 13 := (hG_22 13 (by decide))
      have e27_8_10 : g45_22 8 10 = (g38_21 8) 10 := rd_ (hG_22 8 (by decide)) rfl
      have e28_12 : g45_22 12 = g38_21 12 := (hG_22 12 (by decide))
      have e29_13 : g45_22 13 = g38_21 13 := (hG_22 13 (by decide))
      have e30_10 : g45_22 10 = g38_21 10 := (hG_22 10 (by decide))
      have e31_11 : g45_22 11 = g38_21 11 := (hG_22 11 (by decide))
      have e32_9 : g45_22 9 = g38_21 9 := (hG_22 9 (by decide))
      exact ⟨⟨hT_22, hF_22⟩, z45_22, rfl, (by omega), (by rewrite [e23_10, e24_11, e25_12, e26_13]; first | assumption | exact hbd), (by omega), (by rewrite [e27_8_10]; exact c1_at38), (by rewrite [e28_12, e29_13]; exact c2_at38), (by rewrite [e30_10, e31_11, e32_9]; exact c3_at38)⟩
    · have e33_10 : g8_13 10 = h 10 := ((hG_13 10 (by decide))).trans (hG_1 10 (by decide))
      have e34_11 : g8_13 11 = h 11 := ((hG_13 11 (by decide))).trans (hG_1 11 (by decide))
      have e35_12 : g8_13 12 = h 12 := ((hG_13 12 (by decide))).trans (hG_1 12 (by decide))
      have e36_13 : g8_13 13 = h 13 := ((hG_13 13 (by decide))).trans (hG_1 13 (by decide))
      have e37_8 : g8_13 8 = h 8 := ((hG_13 8 (by decide))).trans (hG_1 8 (by decide))
      have e38_10 : g8_13 10 = h 10 := ((hG_13 10 (by decide))).trans (hG_1 10 (by decide))
      have e39_11 : g8_13 11 = h 11 := ((hG_13 11 (by decide))).trans (hG_1 11 (by decide))
      have e40_9 : g8_13 9 = h 9 := ((hG_13 9 (by decide))).trans (hG_1 9 (by decide))
      have e41_12 : g8_13 12 = h 12 := ((hG_13 12 (by decide))).trans (hG_1 12 (by decide))
      have e42_13 : g8_13 13 = h 13 := ((hG_13 13 (by decide))).trans (hG_1 13 (by decide))
      exact TT_throwB hK hQ 2 (by decide) ⟨⟨hT_13, hF_13⟩, (by rewrite [e33_10, e34_11, e35_12, e36_13]; first | assumption | exact hbd), (by omega), (by rewrite [e37_8]; rfl), (by rewrite [e38_10, e39_11, e40_9]; exact ⟨rfl, rfl, rfl⟩), (by rewrite [e41_12, e42_13]; exact ⟨rfl, rfl⟩)⟩ (Nat.le_of_ble_eq_true rfl) ⟨by decide, by decide⟩ dX11_encode_14 dX11_encode_17 dX11_encode_18 dX11_encode_20 dX11_encode_23

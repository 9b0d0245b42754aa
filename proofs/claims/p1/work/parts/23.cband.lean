set_option maxRecDepth 20000 in
theorem c_X0_layBand_8 (b x y w e : Int) (h : Hp_) (hb : 0 ≤ b ∧ b < 10) : Ctr yX0_layBand cX0_layBand 6 none (rmd 0) ly ly 0 0 [vR 8, vI b, vI x, vI y, vI w, vI e] h (fun r h' => r = none ∧ h' = setO (setO (setO (setO h 10 (fup (h 10) b x)) 11 (fup (h 11) b y)) 12 (fup (h 12) b w)) 13 (fup (h 13) b e)) := by
  refine Ctr_of (by decide) (Nat.le_of_ble_eq_true rfl) ⟨Nat.le_refl _, Nat.le_refl _⟩ (fun K hK hQ _ => ?_)
  show TT K ly 0 0 0 [(0, vR 8), (1, vI b), (2, vI x), (3, vI y), (4, vI w), (5, vI e)] [] h
  refine TT_aload_n hK rfl 0 rfl dX0_layBand_0 ?_
  refine gf_X0_15 hK (by decide) rfl (q := 10) rfl rfl dX0_layBand_1 ?_
  refine TT_iload_n hK rfl 1 rfl dX0_layBand_4 ?_
  refine TT_iload_n hK rfl 2 rfl dX0_layBand_5 ?_
  refine TT_iast hK (o := 10) (n := 10) (by decide) rfl (by first | omega | (simp [up, setR] <;> omega)) (by first | omega | (simp [up, setR] <;> omega)) dX0_layBand_6 ?_
  refine TT_hp (h' := setO h 10 (fup (h 10) b x)) (up_can rfl rfl rfl) ?_
  refine TT_aload_n hK rfl 0 rfl dX0_layBand_7 ?_
  refine gf_X0_18 hK (by decide) rfl (q := 11) rfl rfl dX0_layBand_8 ?_
  refine TT_iload_n hK rfl 1 rfl dX0_layBand_11 ?_
  refine TT_iload_n hK rfl 3 rfl dX0_layBand_12 ?_
  refine TT_iast hK (o := 11) (n := 10) (by decide) rfl (by first | omega | (simp [up, setR] <;> omega)) (by first | omega | (simp [up, setR] <;> omega)) dX0_layBand_13 ?_
  refine TT_hp (h' := setO (setO h 10 (fup (h 10) b x)) 11 (fup (h 11) b y)) (up_can (sOf_ne _ _ (by decide)) rfl rfl) ?_
  refine TT_aload_n hK rfl 0 rfl dX0_layBand_14 ?_
  refine gf_X0_21 hK (by decide) rfl (q := 12) rfl rfl dX0_layBand_15 ?_
  refine TT_iload_n hK rfl 1 rfl dX0_layBand_18 ?_
  refine TT_iload hK 4 rfl dX0_layBand_19 ?_
  refine TT_iast hK (o := 12) (n := 10) (by decide) rfl (by first | omega | (simp [up, setR] <;> omega)) (by first | omega | (simp [up, setR] <;> omega)) dX0_layBand_21 ?_
  refine TT_hp (h' := setO (setO (setO h 10 (fup (h 10) b x)) 11 (fup (h 11) b y)) 12 (fup (h 12) b w)) (up_can ((sOf_ne _ _ (by decide)).trans (sOf_ne _ _ (by decide))) rfl rfl) ?_
  refine TT_aload_n hK rfl 0 rfl dX0_layBand_22 ?_
  refine gf_X0_24 hK (by decide) rfl (q := 13) rfl rfl dX0_layBand_23 ?_
  refine TT_iload_n hK rfl 1 rfl dX0_layBand_26 ?_
  refine TT_iload hK 5 rfl dX0_layBand_27 ?_
  refine TT_iast hK (o := 13) (n := 10) (by decide) rfl (by first | omega | (simp [up, setR] <;> omega)) (by first | omega | (simp [up, setR] <;> omega)) dX0_layBand_29 ?_
  refine TT_hp (h' := setO (setO (setO (setO h 10 (fup (h 10) b x)) 11 (fup (h 11) b y)) 12 (fup (h 12) b w)) 13 (fup (h 13) b e)) (up_can ((sOf_ne _ _ (by decide)).trans ((sOf_ne _ _ (by decide)).trans (sOf_ne _ _ (by decide)))) rfl rfl) ?_
  refine TT_vret hK hQ ?_ dX0_layBand_30
  exact ⟨rfl, rfl⟩
set_option maxRecDepth 20000 in
theorem c_X0_lay_8 (W E L : Int) (h : Hp_) (hW : 1 ≤ W ∧ W ≤ 8) (hE : 1 ≤ E ∧ E ≤ 8) (hL : 0 ≤ L ∧ L ≤ 3) : Ctr yX0_lay cX0_lay 10 none (rmd 1) ly ly 0 0 [vR 8, vI W, vI E, vI L] h (fun r h' => r = none ∧ h' = setO (setO (setO (setO (setO h 8 (fup (fup (fup (fup (h 8) 7 W) 8 E) 9 L) 10 (3 * L + 1))) 10 (fsr (h 10) (0) (3 * L + 1) (fun j => lfS W L j))) 11 (fsr (h 11) (0) (3 * L + 1) (fun j => tpS E L j))) 12 (fsr (h 12) (0) (3 * L + 1) (fun j => bwS W L j))) 13 (fsr (h 13) (0) (3 * L + 1) (fun j => bhS E L j))) := by
  refine Ctr_of (by decide) (Nat.le_of_ble_eq_true rfl) ⟨Nat.le_refl _, Nat.le_refl _⟩ (fun K hK hQ _ => ?_)
  show TT K ly 0 0 0 [(0, vR 8), (1, vI W), (2, vI E), (3, vI L)] [] h
  refine TT_aload_n hK rfl 0 rfl dX0_lay_0 ?_
  refine TT_iload_n hK rfl 1 rfl dX0_lay_1 ?_
  refine pf_X0_33 hK (by decide) rfl dX0_lay_2 ?_
  refine TT_hp (h' := setO h 8 (fup (h 8) 7 W)) (up_can rfl rfl rfl) ?_
  refine TT_aload_n hK rfl 0 rfl dX0_lay_5 ?_
  refine TT_iload_n hK rfl 2 rfl dX0_lay_6 ?_
  refine pf_X0_37 hK (by decide) rfl dX0_lay_7 ?_
  refine TT_hp (h' := setO h 8 (fup (fup (h 8) 7 W) 8 E)) (up_can (sOf_eq _ _ _) rfl (setO_same _ _ _ _)) ?_
  refine TT_aload_n hK rfl 0 rfl dX0_lay_10 ?_
  refine TT_iload_n hK rfl 3 rfl dX0_lay_11 ?_
  refine pf_X0_40 hK (by decide) rfl dX0_lay_12 ?_
  refine TT_hp (h' := setO h 8 (fup (fup (fup (h 8) 7 W) 8 E) 9 L)) (up_can (sOf_eq _ _ _) rfl (setO_same _ _ _ _)) ?_
  refine TT_aload_n hK rfl 0 rfl dX0_lay_15 ?_
  refine TT_iconst hK dX0_lay_16 ?_
  refine TT_aload_n hK rfl 0 rfl dX0_lay_17 ?_
  refine gf_X0_40 hK (by decide) rfl (v := L) (rd_ (sOf_eq _ _ _) (fup_eq _ _ _)) dX0_lay_18 ?_
  refine TT_imul hK dX0_lay_21 ?_
  refine TT_iconst hK dX0_lay_22 ?_
  refine TT_iadd hK dX0_lay_23 ?_
  refine pf_X0_43 hK (by decide) rfl dX0_lay_24 ?_
  refine TT_hp (h' := setO h 8 (fup (fup (fup (fup (h 8) 7 W) 8 E) 9 L) 10 ((3 * L) + 1))) (up_can (sOf_eq _ _ _) rfl (setO_same _ _ _ _)) ?_
  refine TT_iconst hK dX0_lay_27 ?_
  refine TT_istore hK (lv' := [(4, vI 1), (0, vR 8), (1, vI W), (2, vI E), (3, vI L)]) (by decide) rfl dX0_lay_28 ?_
  have L30_1 : ∀ (k1 : Nat) (l : Int), (1 ≤ l) → (l ≤ L + 1) → ((9 : Int) - l).toNat < k1 → TT K ly 0 0 30 [(0, vR 8), (1, vI W), (2, vI E), (3, vI L), (4, vI l)] [] (setO (setO (setO (setO (setO h 8 (fup (fup (fup (fup (h 8) 7 W) 8 E) 9 L) 10 ((3 * L) + 1))) 10 (fsr (h 10) (3 * (L - l + 1) + 1) (3 * L + 1) (fun j => lfS W L j))) 11 (fsr (h 11) (3 * (L - l + 1) + 1) (3 * L + 1) (fun j => tpS E L j))) 12 (fsr (h 12) (3 * (L - l + 1) + 1) (3 * L + 1) (fun j => bwS W L j))) 13 (fsr (h 13) (3 * (L - l + 1) + 1) (3 * L + 1) (fun j => bhS E L j))) := by
    intro k1
    induction k1 with
    | zero => intro l hl0 hl1 hk1; exact absurd hk1 (Nat.not_lt_zero _)
    | succ k1 ih1 =>
      intro l hl0 hl1 hk1
      refine TT_iload hK 4 rfl dX0_lay_30 ?_
      refine TT_aload_n hK rfl 0 rfl dX0_lay_32 ?_
      refine gf_X0_40 hK (by decide) rfl (v := L) (rd_ ((sOf_ne _ _ (by decide)).trans ((sOf_ne _ _ (by decide)).trans ((sOf_ne _ _ (by decide)).trans ((sOf_ne _ _ (by decide)).trans (sOf_eq _ _ _))))) ((fup_ne _ _ (by decide)).trans (fup_eq _ _ _))) dX0_lay_33 ?_
      refine TT_icmp_gt hK (tgt := 162) (irm (by omega) (by omega)) (irm (by omega) (by omega)) dX0_lay_36 (by decide) (fun hb36 => ?_) (fun hb36 => ?_)
      · refine TT_aload_n hK rfl 0 rfl dX0_lay_162 ?_
        refine TT_iconst hK dX0_lay_163 ?_
        refine TT_iconst hK dX0_lay_164 ?_
        refine TT_iconst hK dX0_lay_165 ?_
        refine TT_aload_n hK rfl 0 rfl dX0_lay_166 ?_
        refine gf_X0_33 hK (by decide) rfl (v := W) (rd_ ((sOf_ne _ _ (by decide)).trans ((sOf_ne _ _ (by decide)).trans ((sOf_ne _ _ (by decide)).trans ((sOf_ne _ _ (by decide)).trans (sOf_eq _ _ _))))) ((fup_ne _ _ (by decide)).trans ((fup_ne _ _ (by decide)).trans ((fup_ne _ _ (by decide)).trans (fup_eq _ _ _))))) dX0_lay_167 ?_
        refine TT_aload_n hK rfl 0 rfl dX0_lay_170 ?_
        refine gf_X0_40 hK (by decide) rfl (v := L) (rd_ ((sOf_ne _ _ (by decide)).trans ((sOf_ne _ _ (by decide)).trans ((sOf_ne _ _ (by decide)).trans ((sOf_ne _ _ (by decide)).trans (sOf_eq _ _ _))))) ((fup_ne _ _ (by decide)).trans (fup_eq _ _ _))) dX0_lay_171 ?_
        refine iv_X0_46 hK (c_X0_sideAfter W L (setO (setO (setO (setO (setO h 8 (fup (fup (fup (fup (h 8) 7 W) 8 E) 9 L) 10 ((3 * L) + 1))) 10 (fsr (h 10) (3 * (L - l + 1) + 1) (3 * L + 1) (fun j => lfS W L j))) 11 (fsr (h 11) (3 * (L - l + 1) + 1) (3 * L + 1) (fun j => tpS E L j))) 12 (fsr (h 12) (3 * (L - l + 1) + 1) (3 * L + 1) (fun j => bwS W L j))) 13 (fsr (h 13) (3 * (L - l + 1) + 1) (3 * L + 1) (fun j => bhS E L j))) (by first | omega | (simp [up, setR] <;> omega)) (by first | omega | (simp [up, setR] <;> omega))) ⟨by decide, by decide⟩ (by decide) rfl rfl (Nat.le_of_ble_eq_true rfl) ⟨by decide, by decide⟩ dX0_lay_174 ?_
        intro r9 h9 hp9
        rw [hp9.1, hp9.2]
        show TT K ly 0 0 177 [(0, vR 8), (1, vI W), (2, vI E), (3, vI L), (4, vI l)] [vI (lft W L), vI 0, vI 0, vI 0, vR 8] (setO (setO (setO (setO (setO h 8 (fup (fup (fup (fup (h 8) 7 W) 8 E) 9 L) 10 ((3 * L) + 1))) 10 (fsr (h 10) (3 * (L - l + 1) + 1) (3 * L + 1) (fun j => lfS W L j))) 11 (fsr (h 11) (3 * (L - l + 1) + 1) (3 * L + 1) (fun j => tpS E L j))) 12 (fsr (h 12) (3 * (L - l + 1) + 1) (3 * L + 1) (fun j => bwS W L j))) 13 (fsr (h 13) (3 * (L - l + 1) + 1) (3 * L + 1) (fun j => bhS E L j)))
        refine TT_aload_n hK rfl 0 rfl dX0_lay_177 ?_
        refine gf_X0_37 hK (by decide) rfl (v := E) (rd_ ((sOf_ne _ _ (by decide)).trans ((sOf_ne _ _ (by decide)).trans ((sOf_ne _ _ (by decide)).trans ((sOf_ne _ _ (by decide)).trans (sOf_eq _ _ _))))) ((fup_ne _ _ (by decide)).trans ((fup_ne _ _ (by decide)).trans (fup_eq _ _ _)))) dX0_lay_178 ?_
        refine TT_aload_n hK rfl 0 rfl dX0_lay_181 ?_
        refine gf_X0_40 hK (by decide) rfl (v := L) (rd_ ((sOf_ne _ _ (by decide)).trans ((sOf_ne _ _ (by decide)).trans ((sOf_ne _ _ (by decide)).trans ((sOf_ne _ _ (by decide)).trans (sOf_eq _ _ _))))) ((fup_ne _ _ (by decide)).trans (fup_eq _ _ _))) dX0_lay_182 ?_
        refine iv_X0_46 hK (c_X0_sideAfter E L (setO (setO (setO (setO (setO h 8 (fup (fup (fup (fup (h 8) 7 W) 8 E) 9 L) 10 ((3 * L) + 1))) 10 (fsr (h 10) (3 * (L - l + 1) + 1) (3 * L + 1) (fun j => lfS W L j))) 11 (fsr (h 11) (3 * (L - l + 1) + 1) (3 * L + 1) (fun j => tpS E L j))) 12 (fsr (h 12) (3 * (L - l + 1) + 1) (3 * L + 1) (fun j => bwS W L j))) 13 (fsr (h 13) (3 * (L - l + 1) + 1) (3 * L + 1) (fun j => bhS E L j))) (by first | omega | (simp [up, setR] <;> omega)) (by first | omega | (simp [up, setR] <;> omega))) ⟨by decide, by decide⟩ (by decide) rfl rfl (Nat.le_of_ble_eq_true rfl) ⟨by decide, by decide⟩ dX0_lay_185 ?_
        intro r9 h9 hp9
        rw [hp9.1, hp9.2]
        show TT K ly 0 0 188 [(0, vR 8), (1, vI W), (2, vI E), (3, vI L), (4, vI l)] [vI (lft E L), vI (lft W L), vI 0, vI 0, vI 0, vR 8] (setO (setO (setO (setO (setO h 8 (fup (fup (fup (fup (h 8) 7 W) 8 E) 9 L) 10 ((3 * L) + 1))) 10 (fsr (h 10) (3 * (L - l + 1) + 1) (3 * L + 1) (fun j => lfS W L j))) 11 (fsr (h 11) (3 * (L - l + 1) + 1) (3 * L + 1) (fun j => tpS E L j))) 12 (fsr (h 12) (3 * (L - l + 1) + 1) (3 * L + 1) (fun j => bwS W L j))) 13 (fsr (h 13) (3 * (L - l + 1) + 1) (3 * L + 1) (fun j => bhS E L j)))
        have q188_10 : (setO (setO (setO (setO (setO h 8 (fup (fup (fup (fup (h 8) 7 W) 8 E) 9 L) 10 ((3 * L) + 1))) 10 (fsr (h 10) (3 * (L - l + 1) + 1) (3 * L + 1) (fun j => lfS W L j))) 11 (fsr (h 11) (3 * (L - l + 1) + 1) (3 * L + 1) (fun j => tpS E L j))) 12 (fsr (h 12) (3 * (L - l + 1) + 1) (3 * L + 1) (fun j => bwS W L j))) 13 (fsr (h 13) (3 * (L - l + 1) + 1) (3 * L + 1) (fun j => bhS E L j))) 10 = fsr (h 10) (3 * (L - l + 1) + 1) (3 * L + 1) (fun j => lfS W L j) := (sOf_ne _ _ (by decide)).trans ((sOf_ne _ _ (by decide)).trans ((sOf_ne _ _ (by decide)).trans (sOf_eq _ _ _)))
        have q188_11 : (setO (setO (setO (setO (setO h 8 (fup (fup (fup (fup (h 8) 7 W) 8 E) 9 L) 10 ((3 * L) + 1))) 10 (fsr (h 10) (3 * (L - l + 1) + 1) (3 * L + 1) (fun j => lfS W L j))) 11 (fsr (h 11) (3 * (L - l + 1) + 1) (3 * L + 1) (fun j => tpS E L j))) 12 (fsr (h 12) (3 * (L - l + 1) + 1) (3 * L + 1) (fun j => bwS W L j))) 13 (fsr (h 13) (3 * (L - l + 1) + 1) (3 * L + 1) (fun j => bhS E L j))) 11 = fsr (h 11) (3 * (L - l + 1) + 1) (3 * L + 1) (fun j => tpS E L j) := (sOf_ne _ _ (by decide)).trans ((sOf_ne _ _ (by decide)).trans (sOf_eq _ _ _))
        have q188_12 : (setO (setO (setO (setO (setO h 8 (fup (fup (fup (fup (h 8) 7 W) 8 E) 9 L) 10 ((3 * L) + 1))) 10 (fsr (h 10) (3 * (L - l + 1) + 1) (3 * L + 1) (fun j => lfS W L j))) 11 (fsr (h 11) (3 * (L - l + 1) + 1) (3 * L + 1) (fun j => tpS E L j))) 12 (fsr (h 12) (3 * (L - l + 1) + 1) (3 * L + 1) (fun j => bwS W L j))) 13 (fsr (h 13) (3 * (L - l + 1) + 1) (3 * L + 1) (fun j => bhS E L j))) 12 = fsr (h 12) (3 * (L - l + 1) + 1) (3 * L + 1) (fun j => bwS W L j) := (sOf_ne _ _ (by decide)).trans (sOf_eq _ _ _)
        have q188_13 : (setO (setO (setO (setO (setO h 8 (fup (fup (fup (fup (h 8) 7 W) 8 E) 9 L) 10 ((3 * L) + 1))) 10 (fsr (h 10) (3 * (L - l + 1) + 1) (3 * L + 1) (fun j => lfS W L j))) 11 (fsr (h 11) (3 * (L - l + 1) + 1) (3 * L + 1) (fun j => tpS E L j))) 12 (fsr (h 12) (3 * (L - l + 1) + 1) (3 * L + 1) (fun j => bwS W L j))) 13 (fsr (h 13) (3 * (L - l + 1) + 1) (3 * L + 1) (fun j => bhS E L j))) 13 = fsr (h 13) (3 * (L - l + 1) + 1) (3 * L + 1) (fun j => bhS E L j) := sOf_eq _ _ _
        refine iv_X0_50 hK (c_X0_layBand_8 0 0 0 (lft W L) (lft E L) (setO (setO (setO (setO (setO h 8 (fup (fup (fup (fup (h 8) 7 W) 8 E) 9 L) 10 ((3 * L) + 1))) 10 (fsr (h 10) (3 * (L - l + 1) + 1) (3 * L + 1) (fun j => lfS W L j))) 11 (fsr (h 11) (3 * (L - l + 1) + 1) (3 * L + 1) (fun j => tpS E L j))) 12 (fsr (h 12) (3 * (L - l + 1) + 1) (3 * L + 1) (fun j => bwS W L j))) 13 (fsr (h 13) (3 * (L - l + 1) + 1) (3 * L + 1) (fun j => bhS E L j))) (by first | omega | (simp [up, setR] <;> omega))) (by decide) rfl ⟨by decide, by decide⟩ (by decide) rfl rfl (Nat.le_of_ble_eq_true rfl) ⟨by decide, by decide⟩ dX0_lay_188 ?_
        intro r9 h9 hp9
        rw [q188_10, q188_11, q188_12, q188_13] at hp9
        rw [hp9.1, hp9.2]
        refine TT_hp (h' := setO (setO (setO (setO (setO h 8 (fup (fup (fup (fup (h 8) 7 W) 8 E) 9 L) 10 ((3 * L) + 1))) 10 (fup (fsr (h 10) (3 * (L - l + 1) + 1) (3 * L + 1) (fun j => lfS W L j)) 0 0)) 11 (fup (fsr (h 11) (3 * (L - l + 1) + 1) (3 * L + 1) (fun j => tpS E L j)) 0 0)) 12 (fup (fsr (h 12) (3 * (L - l + 1) + 1) (3 * L + 1) (fun j => bwS W L j)) 0 (lft W L))) 13 (fup (fsr (h 13) (3 * (L - l + 1) + 1) (3 * L + 1) (fun j => bhS E L j)) 0 (lft E L))) ((setO_cg ((setO_cg ((setO_cg ((setO_comm _ _ _ (by decide)).trans (setO_cg ((setO_comm _ _ _ (by decide)).trans (setO_cg ((setO_comm _ _ _ (by decide)).trans (setO_cg (setO_same _ _ _ _) rfl)) rfl)) rfl)) rfl).trans ((setO_comm _ _ _ (by decide)).trans (setO_cg ((setO_comm _ _ _ (by decide)).trans (setO_cg (setO_same _ _ _ _) rfl)) rfl))) rfl).trans ((setO_comm _ _ _ (by decide)).trans (setO_cg (setO_same _ _ _ _) rfl))) rfl).trans (setO_same _ _ _ _)) ?_
        show TT K ly 0 0 191 [(0, vR 8), (1, vI W), (2, vI E), (3, vI L), (4, vI l)] [] (setO (setO (setO (setO (setO h 8 (fup (fup (fup (fup (h 8) 7 W) 8 E) 9 L) 10 ((3 * L) + 1))) 10 (fup (fsr (h 10) (3 * (L - l + 1) + 1) (3 * L + 1) (fun j => lfS W L j)) 0 0)) 11 (fup (fsr (h 11) (3 * (L - l + 1) + 1) (3 * L + 1) (fun j => tpS E L j)) 0 0)) 12 (fup (fsr (h 12) (3 * (L - l + 1) + 1) (3 * L + 1) (fun j => bwS W L j)) 0 (lft W L))) 13 (fup (fsr (h 13) (3 * (L - l + 1) + 1) (3 * L + 1) (fun j => bhS E L j)) 0 (lft E L)))
        refine TT_vret hK hQ ?_ dX0_lay_191
        exact ⟨rfl, setO_cg (setO_cg (setO_cg (setO_cg (setO_cg rfl (by rfl)) (by rw [show l = L + 1 by omega]; exact fsr_pre1 _ (by omega) (by omega) rfl)) (by rw [show l = L + 1 by omega]; exact fsr_pre1 _ (by omega) (by omega) rfl)) (by rw [show l = L + 1 by omega]; exact fsr_pre1 _ (by omega) (by omega) rfl)) (by rw [show l = L + 1 by omega]; exact fsr_pre1 _ (by omega) (by omega) rfl)⟩
      · refine TT_iconst hK dX0_lay_39 ?_
        refine TT_aload_n hK rfl 0 rfl dX0_lay_40 ?_
        refine gf_X0_40 hK (by decide) rfl (v := L) (rd_ ((sOf_ne _ _ (by decide)).trans ((sOf_ne _ _ (by decide)).trans ((sOf_ne _ _ (by decide)).trans ((sOf_ne _ _ (by decide)).trans (sOf_eq _ _ _))))) ((fup_ne _ _ (by decide)).trans (fup_eq _ _ _))) dX0_lay_41 ?_
        refine TT_iload hK 4 rfl dX0_lay_44 ?_
        refine TT_isub hK dX0_lay_46 ?_
        refine TT_imul hK dX0_lay_47 ?_
        refine TT_iconst hK dX0_lay_48 ?_
        refine TT_iadd hK dX0_lay_49 ?_
        refine TT_istore hK (lv' := [(5, vI ((3 * (L - l)) + 1)), (0, vR 8), (1, vI W), (2, vI E), (3, vI L), (4, vI l)]) (by decide) rfl dX0_lay_50 ?_
        refine TT_aload_n hK rfl 1 rfl dX0_lay_52 ?_
        refine gf_X0_33 hK (by decide) rfl (v := W) (rd_ ((sOf_ne _ _ (by decide)).trans ((sOf_ne _ _ (by decide)).trans ((sOf_ne _ _ (by decide)).trans ((sOf_ne _ _ (by decide)).trans (sOf_eq _ _ _))))) ((fup_ne _ _ (by decide)).trans ((fup_ne _ _ (by decide)).trans ((fup_ne _ _ (by decide)).trans (fup_eq _ _ _))))) dX0_lay_53 ?_
        refine TT_iload hK 5 rfl dX0_lay_56 ?_
        refine TT_iconst hK dX0_lay_58 ?_
        refine TT_isub hK dX0_lay_59 ?_
        refine iv_X0_46 hK (c_X0_sideAfter W (l - 1) (setO (setO (setO (setO (setO h 8 (fup (fup (fup (fup (h 8) 7 W) 8 E) 9 L) 10 ((3 * L) + 1))) 10 (fsr (h 10) (3 * (L - l + 1) + 1) (3 * L + 1) (fun j => lfS W L j))) 11 (fsr (h 11) (3 * (L - l + 1) + 1) (3 * L + 1) (fun j => tpS E L j))) 12 (fsr (h 12) (3 * (L - l + 1) + 1) (3 * L + 1) (fun j => bwS W L j))) 13 (fsr (h 13) (3 * (L - l + 1) + 1) (3 * L + 1) (fun j => bhS E L j))) (by first | omega | (simp [up, setR] <;> omega)) (by first | omega | (simp [up, setR] <;> omega))) ⟨by decide, by decide⟩ (by decide) rfl rfl (Nat.le_of_ble_eq_true rfl) ⟨by decide, by decide⟩ dX0_lay_60 ?_
        intro r9 h9 hp9
        rw [hp9.1, hp9.2]
        show TT K ly 0 0 63 [(5, vI ((3 * (L - l)) + 1)), (0, vR 8), (1, vI W), (2, vI E), (3, vI L), (4, vI l)] [vI (lft W (l - 1))] (setO (setO (setO (setO (setO h 8 (fup (fup (fup (fup (h 8) 7 W) 8 E) 9 L) 10 ((3 * L) + 1))) 10 (fsr (h 10) (3 * (L - l + 1) + 1) (3 * L + 1) (fun j => lfS W L j))) 11 (fsr (h 11) (3 * (L - l + 1) + 1) (3 * L + 1) (fun j => tpS E L j))) 12 (fsr (h 12) (3 * (L - l + 1) + 1) (3 * L + 1) (fun j => bwS W L j))) 13 (fsr (h 13) (3 * (L - l + 1) + 1) (3 * L + 1) (fun j => bhS E L j)))
        refine TT_istore hK (lv' := [(6, vI (lft W (l - 1))), (5, vI ((3 * (L - l)) + 1)), (0, vR 8), (1, vI W), (2, vI E), (3, vI L), (4, vI l)]) (by decide) rfl dX0_lay_63 ?_
        refine TT_aload_n hK rfl 2 rfl dX0_lay_65 ?_
        refine gf_X0_37 hK (by decide) rfl (v := E) (rd_ ((sOf_ne _ _ (by decide)).trans ((sOf_ne _ _ (by decide)).trans ((sOf_ne _ _ (by decide)).trans ((sOf_ne _ _ (by decide)).trans (sOf_eq _ _ _))))) ((fup_ne _ _ (by decide)).trans ((fup_ne _ _ (by decide)).trans (fup_eq _ _ _)))) dX0_lay_66 ?_
        refine TT_iload hK 6 rfl dX0_lay_69 ?_
        refine TT_iconst hK dX0_lay_71 ?_
        refine TT_isub hK dX0_lay_72 ?_
        refine iv_X0_46 hK (c_X0_sideAfter E (l - 1) (setO (setO (setO (setO (setO h 8 (fup (fup (fup (fup (h 8) 7 W) 8 E) 9 L) 10 ((3 * L) + 1))) 10 (fsr (h 10) (3 * (L - l + 1) + 1) (3 * L + 1) (fun j => lfS W L j))) 11 (fsr (h 11) (3 * (L - l + 1) + 1) (3 * L + 1) (fun j => tpS E L j))) 12 (fsr (h 12) (3 * (L - l + 1) + 1) (3 * L + 1) (fun j => bwS W L j))) 13 (fsr (h 13) (3 * (L - l + 1) + 1) (3 * L + 1) (fun j => bhS E L j))) (by first | omega | (simp [up, setR] <;> omega)) (by first | omega | (simp [up, setR] <;> omega))) ⟨by decide, by decide⟩ (by decide) rfl rfl (Nat.le_of_ble_eq_true rfl) ⟨by decide, by decide⟩ dX0_lay_73 ?_
        intro r9 h9 hp9
        rw [hp9.1, hp9.2]
        show TT K ly 0 0 76 [(6, vI (lft W (l - 1))), (5, vI ((3 * (L - l)) + 1)), (0, vR 8), (1, vI W), (2, vI E), (3, vI L), (4, vI l)] [vI (lft E (l - 1))] (setO (setO (setO (setO (setO h 8 (fup (fup (fup (fup (h 8) 7 W) 8 E) 9 L) 10 ((3 * L) + 1))) 10 (fsr (h 10) (3 * (L - l + 1) + 1) (3 * L + 1) (fun j => lfS W L j))) 11 (fsr (h 11) (3 * (L - l + 1) + 1) (3 * L + 1) (fun j => tpS E L j))) 12 (fsr (h 12) (3 * (L - l + 1) + 1) (3 * L + 1) (fun j => bwS W L j))) 13 (fsr (h 13) (3 * (L - l + 1) + 1) (3 * L + 1) (fun j => bhS E L j)))
        refine TT_istore hK (lv' := [(7, vI (lft E (l - 1))), (6, vI (lft W (l - 1))), (5, vI ((3 * (L - l)) + 1)), (0, vR 8), (1, vI W), (2, vI E), (3, vI L), (4, vI l)]) (by decide) rfl dX0_lay_76 ?_
        refine TT_aload_n hK rfl 3 rfl dX0_lay_78 ?_
        refine gf_X0_33 hK (by decide) rfl (v := W) (rd_ ((sOf_ne _ _ (by decide)).trans ((sOf_ne _ _ (by decide)).trans ((sOf_ne _ _ (by decide)).trans ((sOf_ne _ _ (by decide)).trans (sOf_eq _ _ _))))) ((fup_ne _ _ (by decide)).trans ((fup_ne _ _ (by decide)).trans ((fup_ne _ _ (by decide)).trans (fup_eq _ _ _))))) dX0_lay_79 ?_
        refine TT_iload hK 7 rfl dX0_lay_82 ?_
        refine iv_X0_46 hK (c_X0_sideAfter W l (setO (setO (setO (setO (setO h 8 (fup (fup (fup (fup (h 8) 7 W) 8 E) 9 L) 10 ((3 * L) + 1))) 10 (fsr (h 10) (3 * (L - l + 1) + 1) (3 * L + 1) (fun j => lfS W L j))) 11 (fsr (h 11) (3 * (L - l + 1) + 1) (3 * L + 1) (fun j => tpS E L j))) 12 (fsr (h 12) (3 * (L - l + 1) + 1) (3 * L + 1) (fun j => bwS W L j))) 13 (fsr (h 13) (3 * (L - l + 1) + 1) (3 * L + 1) (fun j => bhS E L j))) (by first | omega | (simp [up, setR] <;> omega)) (by first | omega | (simp [up, setR] <;> omega))) ⟨by decide, by decide⟩ (by decide) rfl rfl (Nat.le_of_ble_eq_true rfl) ⟨by decide, by decide⟩ dX0_lay_84 ?_
        intro r9 h9 hp9
        rw [hp9.1, hp9.2]
        show TT K ly 0 0 87 [(7, vI (lft E (l - 1))), (6, vI (lft W (l - 1))), (5, vI ((3 * (L - l)) + 1)), (0, vR 8), (1, vI W), (2, vI E), (3, vI L), (4, vI l)] [vI (lft W l)] (setO (setO (setO (setO (setO h 8 (fup (fup (fup (fup (h 8) 7 W) 8 E) 9 L) 10 ((3 * L) + 1))) 10 (fsr (h 10) (3 * (L - l + 1) + 1) (3 * L + 1) (fun j => lfS W L j))) 11 (fsr (h 11) (3 * (L - l + 1) + 1) (3 * L + 1) (fun j => tpS E L j))) 12 (fsr (h 12) (3 * (L - l + 1) + 1) (3 * L + 1) (fun j => bwS W L j))) 13 (fsr (h 13) (3 * (L - l + 1) + 1) (3 * L + 1) (fun j => bhS E L j)))
        refine TT_istore hK (lv' := [(8, vI (lft W l)), (7, vI (lft E (l - 1))), (6, vI (lft W (l - 1))), (5, vI ((3 * (L - l)) + 1)), (0, vR 8), (1, vI W), (2, vI E), (3, vI L), (4, vI l)]) (by decide) rfl dX0_lay_87 ?_
        refine TT_aload_n hK rfl 4 rfl dX0_lay_89 ?_
        refine gf_X0_37 hK (by decide) rfl (v := E) (rd_ ((sOf_ne _ _ (by decide)).trans ((sOf_ne _ _ (by decide)).trans ((sOf_ne _ _ (by decide)).trans ((sOf_ne _ _ (by decide)).trans (sOf_eq _ _ _))))) ((fup_ne _ _ (by decide)).trans ((fup_ne _ _ (by decide)).trans (fup_eq _ _ _)))) dX0_lay_90 ?_
        refine TT_iload hK 8 rfl dX0_lay_93 ?_
        refine iv_X0_46 hK (c_X0_sideAfter E l (setO (setO (setO (setO (setO h 8 (fup (fup (fup (fup (h 8) 7 W) 8 E) 9 L) 10 ((3 * L) + 1))) 10 (fsr (h 10) (3 * (L - l + 1) + 1) (3 * L + 1) (fun j => lfS W L j))) 11 (fsr (h 11) (3 * (L - l + 1) + 1) (3 * L + 1) (fun j => tpS E L j))) 12 (fsr (h 12) (3 * (L - l + 1) + 1) (3 * L + 1) (fun j => bwS W L j))) 13 (fsr (h 13) (3 * (L - l + 1) + 1) (3 * L + 1) (fun j => bhS E L j))) (by first | omega | (simp [up, setR] <;> omega)) (by first | omega | (simp [up, setR] <;> omega))) ⟨by decide, by decide⟩ (by decide) rfl rfl (Nat.le_of_ble_eq_true rfl) ⟨by decide, by decide⟩ dX0_lay_95 ?_
        intro r9 h9 hp9
        rw [hp9.1, hp9.2]
        show TT K ly 0 0 98 [(8, vI (lft W l)), (7, vI (lft E (l - 1))), (6, vI (lft W (l - 1))), (5, vI ((3 * (L - l)) + 1)), (0, vR 8), (1, vI W), (2, vI E), (3, vI L), (4, vI l)] [vI (lft E l)] (setO (setO (setO (setO (setO h 8 (fup (fup (fup (fup (h 8) 7 W) 8 E) 9 L) 10 ((3 * L) + 1))) 10 (fsr (h 10) (3 * (L - l + 1) + 1) (3 * L + 1) (fun j => lfS W L j))) 11 (fsr (h 11) (3 * (L - l + 1) + 1) (3 * L + 1) (fun j => tpS E L j))) 12 (fsr (h 12) (3 * (L - l + 1) + 1) (3 * L + 1) (fun j => bwS W L j))) 13 (fsr (h 13) (3 * (L - l + 1) + 1) (3 * L + 1) (fun j => bhS E L j)))
        refine TT_istore hK (lv' := [(9, vI (lft E l)), (8, vI (lft W l)), (7, vI (lft E (l - 1))), (6, vI (lft W (l - 1))), (5, vI ((3 * (L - l)) + 1)), (0, vR 8), (1, vI W), (2, vI E), (3, vI L), (4, vI l)]) (by decide) rfl dX0_lay_98 ?_
        have g0 := lft_r hW (l := l) (by omega)
        have g1 := lft_r hE (l := l) (by omega)
        refine TT_aload_n hK rfl 5 rfl dX0_lay_100 ?_
        refine TT_iload hK 4 rfl dX0_lay_101 ?_
        refine TT_iload hK 1 rfl dX0_lay_103 ?_
        refine TT_iconst hK dX0_lay_105 ?_
        refine TT_iload hK 3 rfl dX0_lay_106 ?_
        refine TT_iload hK 1 rfl dX0_lay_108 ?_
        refine TT_isub hK dX0_lay_110 ?_
        refine TT_iload hK 0 rfl dX0_lay_111 ?_
        have q113_10 : (setO (setO (setO (setO (setO h 8 (fup (fup (fup (fup (h 8) 7 W) 8 E) 9 L) 10 ((3 * L) + 1))) 10 (fsr (h 10) (3 * (L - l + 1) + 1) (3 * L + 1) (fun j => lfS W L j))) 11 (fsr (h 11) (3 * (L - l + 1) + 1) (3 * L + 1) (fun j => tpS E L j))) 12 (fsr (h 12) (3 * (L - l + 1) + 1) (3 * L + 1) (fun j => bwS W L j))) 13 (fsr (h 13) (3 * (L - l + 1) + 1) (3 * L + 1) (fun j => bhS E L j))) 10 = fsr (h 10) (3 * (L - l + 1) + 1) (3 * L + 1) (fun j => lfS W L j) := (sOf_ne _ _ (by decide)).trans ((sOf_ne _ _ (by decide)).trans ((sOf_ne _ _ (by decide)).trans (sOf_eq _ _ _)))
        have q113_11 : (setO (setO (setO (setO (setO h 8 (fup (fup (fup (fup (h 8) 7 W) 8 E) 9 L) 10 ((3 * L) + 1))) 10 (fsr (h 10) (3 * (L - l + 1) + 1) (3 * L + 1) (fun j => lfS W L j))) 11 (fsr (h 11) (3 * (L - l + 1) + 1) (3 * L + 1) (fun j => tpS E L j))) 12 (fsr (h 12) (3 * (L - l + 1) + 1) (3 * L + 1) (fun j => bwS W L j))) 13 (fsr (h 13) (3 * (L - l + 1) + 1) (3 * L + 1) (fun j => bhS E L j))) 11 = fsr (h 11) (3 * (L - l + 1) + 1) (3 * L + 1) (fun j => tpS E L j) := (sOf_ne _ _ (by decide)).trans ((sOf_ne _ _ (by decide)).trans (sOf_eq _ _ _))
        have q113_12 : (setO (setO (setO (setO (setO h 8 (fup (fup (fup (fup (h 8) 7 W) 8 E) 9 L) 10 ((3 * L) + 1))) 10 (fsr (h 10) (3 * (L - l + 1) + 1) (3 * L + 1) (fun j => lfS W L j))) 11 (fsr (h 11) (3 * (L - l + 1) + 1) (3 * L + 1) (fun j => tpS E L j))) 12 (fsr (h 12) (3 * (L - l + 1) + 1) (3 * L + 1) (fun j => bwS W L j))) 13 (fsr (h 13) (3 * (L - l + 1) + 1) (3 * L + 1) (fun j => bhS E L j))) 12 = fsr (h 12) (3 * (L - l + 1) + 1) (3 * L + 1) (fun j => bwS W L j) := (sOf_ne _ _ (by decide)).trans (sOf_eq _ _ _)
        have q113_13 : (setO (setO (setO (setO (setO h 8 (fup (fup (fup (fup (h 8) 7 W) 8 E) 9 L) 10 ((3 * L) + 1))) 10 (fsr (h 10) (3 * (L - l + 1) + 1) (3 * L + 1) (fun j => lfS W L j))) 11 (fsr (h 11) (3 * (L - l + 1) + 1) (3 * L + 1) (fun j => tpS E L j))) 12 (fsr (h 12) (3 * (L - l + 1) + 1) (3 * L + 1) (fun j => bwS W L j))) 13 (fsr (h 13) (3 * (L - l + 1) + 1) (3 * L + 1) (fun j => bhS E L j))) 13 = fsr (h 13) (3 * (L - l + 1) + 1) (3 * L + 1) (fun j => bhS E L j) := sOf_eq _ _ _
        refine iv_X0_50 hK (c_X0_layBand_8 ((3 * (L - l)) + 1) (lft W l) 0 ((lft W (l - 1)) - (lft W l)) (lft E l) (setO (setO (setO (setO (setO h 8 (fup (fup (fup (fup (h 8) 7 W) 8 E) 9 L) 10 ((3 * L) + 1))) 10 (fsr (h 10) (3 * (L - l + 1) + 1) (3 * L + 1) (fun j => lfS W L j))) 11 (fsr (h 11) (3 * (L - l + 1) + 1) (3 * L + 1) (fun j => tpS E L j))) 12 (fsr (h 12) (3 * (L - l + 1) + 1) (3 * L + 1) (fun j => bwS W L j))) 13 (fsr (h 13) (3 * (L - l + 1) + 1) (3 * L + 1) (fun j => bhS E L j))) (by first | omega | (simp [up, setR] <;> omega))) (by decide) rfl ⟨by decide, by decide⟩ (by decide) rfl rfl (Nat.le_of_ble_eq_true rfl) ⟨by decide, by decide⟩ dX0_lay_113 ?_
        intro r9 h9 hp9
        rw [q113_10, q113_11, q113_12, q113_13] at hp9
        rw [hp9.1, hp9.2]
        refine TT_hp (h' := setO (setO (setO (setO (setO h 8 (fup (fup (fup (fup (h 8) 7 W) 8 E) 9 L) 10 ((3 * L) + 1))) 10 (fup (fsr (h 10) (3 * (L - l + 1) + 1) (3 * L + 1) (fun j => lfS W L j)) ((3 * (L - l)) + 1) (lft W l))) 11 (fup (fsr (h 11) (3 * (L - l + 1) + 1) (3 * L + 1) (fun j => tpS E L j)) ((3 * (L - l)) + 1) 0)) 12 (fup (fsr (h 12) (3 * (L - l + 1) + 1) (3 * L + 1) (fun j => bwS W L j)) ((3 * (L - l)) + 1) ((lft W (l - 1)) - (lft W l)))) 13 (fup (fsr (h 13) (3 * (L - l + 1) + 1) (3 * L + 1) (fun j => bhS E L j)) ((3 * (L - l)) + 1) (lft E l))) ((setO_cg ((setO_cg ((setO_cg ((setO_comm _ _ _ (by decide)).trans (setO_cg ((setO_comm _ _ _ (by decide)).trans (setO_cg ((setO_comm _ _ _ (by decide)).trans (setO_cg (setO_same _ _ _ _) rfl)) rfl)) rfl)) rfl).trans ((setO_comm _ _ _ (by decide)).trans (setO_cg ((setO_comm _ _ _ (by decide)).trans (setO_cg (setO_same _ _ _ _) rfl)) rfl))) rfl).trans ((setO_comm _ _ _ (by decide)).trans (setO_cg (setO_same _ _ _ _) rfl))) rfl).trans (setO_same _ _ _ _)) ?_
        show TT K ly 0 0 116 [(9, vI (lft E l)), (8, vI (lft W l)), (7, vI (lft E (l - 1))), (6, vI (lft W (l - 1))), (5, vI ((3 * (L - l)) + 1)), (0, vR 8), (1, vI W), (2, vI E), (3, vI L), (4, vI l)] [] (setO (setO (setO (setO (setO h 8 (fup (fup (fup (fup (h 8) 7 W) 8 E) 9 L) 10 ((3 * L) + 1))) 10 (fup (fsr (h 10) (3 * (L - l + 1) + 1) (3 * L + 1) (fun j => lfS W L j)) ((3 * (L - l)) + 1) (lft W l))) 11 (fup (fsr (h 11) (3 * (L - l + 1) + 1) (3 * L + 1) (fun j => tpS E L j)) ((3 * (L - l)) + 1) 0)) 12 (fup (fsr (h 12) (3 * (L - l + 1) + 1) (3 * L + 1) (fun j => bwS W L j)) ((3 * (L - l)) + 1) ((lft W (l - 1)) - (lft W l)))) 13 (fup (fsr (h 13) (3 * (L - l + 1) + 1) (3 * L + 1) (fun j => bhS E L j)) ((3 * (L - l)) + 1) (lft E l)))
        refine TT_aload_n hK rfl 5 rfl dX0_lay_116 ?_
        refine TT_iload hK 4 rfl dX0_lay_117 ?_
        refine TT_iconst hK dX0_lay_119 ?_
        refine TT_iadd hK dX0_lay_120 ?_
        refine TT_iconst hK dX0_lay_121 ?_
        refine TT_iload hK 0 rfl dX0_lay_122 ?_
        refine TT_iload hK 1 rfl dX0_lay_124 ?_
        refine TT_iload hK 2 rfl dX0_lay_126 ?_
        refine TT_iload hK 0 rfl dX0_lay_128 ?_
        refine TT_isub hK dX0_lay_130 ?_
        have q131_10 : (setO (setO (setO (setO (setO h 8 (fup (fup (fup (fup (h 8) 7 W) 8 E) 9 L) 10 ((3 * L) + 1))) 10 (fup (fsr (h 10) (3 * (L - l + 1) + 1) (3 * L + 1) (fun j => lfS W L j)) ((3 * (L - l)) + 1) (lft W l))) 11 (fup (fsr (h 11) (3 * (L - l + 1) + 1) (3 * L + 1) (fun j => tpS E L j)) ((3 * (L - l)) + 1) 0)) 12 (fup (fsr (h 12) (3 * (L - l + 1) + 1) (3 * L + 1) (fun j => bwS W L j)) ((3 * (L - l)) + 1) ((lft W (l - 1)) - (lft W l)))) 13 (fup (fsr (h 13) (3 * (L - l + 1) + 1) (3 * L + 1) (fun j => bhS E L j)) ((3 * (L - l)) + 1) (lft E l))) 10 = fup (fsr (h 10) (3 * (L - l + 1) + 1) (3 * L + 1) (fun j => lfS W L j)) ((3 * (L - l)) + 1) (lft W l) := (sOf_ne _ _ (by decide)).trans ((sOf_ne _ _ (by decide)).trans ((sOf_ne _ _ (by decide)).trans (sOf_eq _ _ _)))
        have q131_11 : (setO (setO (setO (setO (setO h 8 (fup (fup (fup (fup (h 8) 7 W) 8 E) 9 L) 10 ((3 * L) + 1))) 10 (fup (fsr (h 10) (3 * (L - l + 1) + 1) (3 * L + 1) (fun j => lfS W L j)) ((3 * (L - l)) + 1) (lft W l))) 11 (fup (fsr (h 11) (3 * (L - l + 1) + 1) (3 * L + 1) (fun j => tpS E L j)) ((3 * (L - l)) + 1) 0)) 12 (fup (fsr (h 12) (3 * (L - l + 1) + 1) (3 * L + 1) (fun j => bwS W L j)) ((3 * (L - l)) + 1) ((lft W (l - 1)) - (lft W l)))) 13 (fup (fsr (h 13) (3 * (L - l + 1) + 1) (3 * L + 1) (fun j => bhS E L j)) ((3 * (L - l)) + 1) (lft E l))) 11 = fup (fsr (h 11) (3 * (L - l + 1) + 1) (3 * L + 1) (fun j => tpS E L j)) ((3 * (L - l)) + 1) 0 := (sOf_ne _ _ (by decide)).trans ((sOf_ne _ _ (by decide)).trans (sOf_eq _ _ _))
        have q131_12 : (setO (setO (setO (setO (setO h 8 (fup (fup (fup (fup (h 8) 7 W) 8 E) 9 L) 10 ((3 * L) + 1))) 10 (fup (fsr (h 10) (3 * (L - l + 1) + 1) (3 * L + 1) (fun j => lfS W L j)) ((3 * (L - l)) + 1) (lft W l))) 11 (fup (fsr (h 11) (3 * (L - l + 1) + 1) (3 * L + 1) (fun j => tpS E L j)) ((3 * (L - l)) + 1) 0)) 12 (fup (fsr (h 12) (3 * (L - l + 1) + 1) (3 * L + 1) (fun j => bwS W L j)) ((3 * (L - l)) + 1) ((lft W (l - 1)) - (lft W l)))) 13 (fup (fsr (h 13) (3 * (L - l + 1) + 1) (3 * L + 1) (fun j => bhS E L j)) ((3 * (L - l)) + 1) (lft E l))) 12 = fup (fsr (h 12) (3 * (L - l + 1) + 1) (3 * L + 1) (fun j => bwS W L j)) ((3 * (L - l)) + 1) ((lft W (l - 1)) - (lft W l)) := (sOf_ne _ _ (by decide)).trans (sOf_eq _ _ _)
        have q131_13 : (setO (setO (setO (setO (setO h 8 (fup (fup (fup (fup (h 8) 7 W) 8 E) 9 L) 10 ((3 * L) + 1))) 10 (fup (fsr (h 10) (3 * (L - l + 1) + 1) (3 * L + 1) (fun j => lfS W L j)) ((3 * (L - l)) + 1) (lft W l))) 11 (fup (fsr (h 11) (3 * (L - l + 1) + 1) (3 * L + 1) (fun j => tpS E L j)) ((3 * (L - l)) + 1) 0)) 12 (fup (fsr (h 12) (3 * (L - l + 1) + 1) (3 * L + 1) (fun j => bwS W L j)) ((3 * (L - l)) + 1) ((lft W (l - 1)) - (lft W l)))) 13 (fup (fsr (h 13) (3 * (L - l + 1) + 1) (3 * L + 1) (fun j => bhS E L j)) ((3 * (L - l)) + 1) (lft E l))) 13 = fup (fsr (h 13) (3 * (L - l + 1) + 1) (3 * L + 1) (fun j => bhS E L j)) ((3 * (L - l)) + 1) (lft E l) := sOf_eq _ _ _
        refine iv_X0_50 hK (c_X0_layBand_8 (((3 * (L - l)) + 1) + 1) 0 (lft E l) (lft W l) ((lft E (l - 1)) - (lft E l)) (setO (setO (setO (setO (setO h 8 (fup (fup (fup (fup (h 8) 7 W) 8 E) 9 L) 10 ((3 * L) + 1))) 10 (fup (fsr (h 10) (3 * (L - l + 1) + 1) (3 * L + 1) (fun j => lfS W L j)) ((3 * (L - l)) + 1) (lft W l))) 11 (fup (fsr (h 11) (3 * (L - l + 1) + 1) (3 * L + 1) (fun j => tpS E L j)) ((3 * (L - l)) + 1) 0)) 12 (fup (fsr (h 12) (3 * (L - l + 1) + 1) (3 * L + 1) (fun j => bwS W L j)) ((3 * (L - l)) + 1) ((lft W (l - 1)) - (lft W l)))) 13 (fup (fsr (h 13) (3 * (L - l + 1) + 1) (3 * L + 1) (fun j => bhS E L j)) ((3 * (L - l)) + 1) (lft E l))) (by first | omega | (simp [up, setR] <;> omega))) (by decide) rfl ⟨by decide, by decide⟩ (by decide) rfl rfl (Nat.le_of_ble_eq_true rfl) ⟨by decide, by decide⟩ dX0_lay_131 ?_
        intro r9 h9 hp9
        rw [q131_10, q131_11, q131_12, q131_13] at hp9
        rw [hp9.1, hp9.2]
        refine TT_hp (h' := setO (setO (setO (setO (setO h 8 (fup (fup (fup (fup (h 8) 7 W) 8 E) 9 L) 10 ((3 * L) + 1))) 10 (fup (fup (fsr (h 10) (3 * (L - l + 1) + 1) (3 * L + 1) (fun j => lfS W L j)) ((3 * (L - l)) + 1) (lft W l)) (((3 * (L - l)) + 1) + 1) 0)) 11 (fup (fup (fsr (h 11) (3 * (L - l + 1) + 1) (3 * L + 1) (fun j => tpS E L j)) ((3 * (L - l)) + 1) 0) (((3 * (L - l)) + 1) + 1) (lft E l))) 12 (fup (fup (fsr (h 12) (3 * (L - l + 1) + 1) (3 * L + 1) (fun j => bwS W L j)) ((3 * (L - l)) + 1) ((lft W (l - 1)) - (lft W l))) (((3 * (L - l)) + 1) + 1) (lft W l))) 13 (fup (fup (fsr (h 13) (3 * (L - l + 1) + 1) (3 * L + 1) (fun j => bhS E L j)) ((3 * (L - l)) + 1) (lft E l)) (((3 * (L - l)) + 1) + 1) ((lft E (l - 1)) - (lft E l)))) ((setO_cg ((setO_cg ((setO_cg ((setO_comm _ _ _ (by decide)).trans (setO_cg ((setO_comm _ _ _ (by decide)).trans (setO_cg ((setO_comm _ _ _ (by decide)).trans (setO_cg (setO_same _ _ _ _) rfl)) rfl)) rfl)) rfl).trans ((setO_comm _ _ _ (by decide)).trans (setO_cg ((setO_comm _ _ _ (by decide)).trans (setO_cg (setO_same _ _ _ _) rfl)) rfl))) rfl).trans ((setO_comm _ _ _ (by decide)).trans (setO_cg (setO_same _ _ _ _) rfl))) rfl).trans (setO_same _ _ _ _)) ?_
        show TT K ly 0 0 134 [(9, vI (lft E l)), (8, vI (lft W l)), (7, vI (lft E (l - 1))), (6, vI (lft W (l - 1))), (5, vI ((3 * (L - l)) + 1)), (0, vR 8), (1, vI W), (2, vI E), (3, vI L), (4, vI l)] [] (setO (setO (setO (setO (setO h 8 (fup (fup (fup (fup (h 8) 7 W) 8 E) 9 L) 10 ((3 * L) + 1))) 10 (fup (fup (fsr (h 10) (3 * (L - l + 1) + 1) (3 * L + 1) (fun j => lfS W L j)) ((3 * (L - l)) + 1) (lft W l)) (((3 * (L - l)) + 1) + 1) 0)) 11 (fup (fup (fsr (h 11) (3 * (L - l + 1) + 1) (3 * L + 1) (fun j => tpS E L j)) ((3 * (L - l)) + 1) 0) (((3 * (L - l)) + 1) + 1) (lft E l))) 12 (fup (fup (fsr (h 12) (3 * (L - l + 1) + 1) (3 * L + 1) (fun j => bwS W L j)) ((3 * (L - l)) + 1) ((lft W (l - 1)) - (lft W l))) (((3 * (L - l)) + 1) + 1) (lft W l))) 13 (fup (fup (fsr (h 13) (3 * (L - l + 1) + 1) (3 * L + 1) (fun j => bhS E L j)) ((3 * (L - l)) + 1) (lft E l)) (((3 * (L - l)) + 1) + 1) ((lft E (l - 1)) - (lft E l))))
        refine TT_aload_n hK rfl 5 rfl dX0_lay_134 ?_
        refine TT_iload hK 4 rfl dX0_lay_135 ?_
        refine TT_iconst hK dX0_lay_137 ?_
        refine TT_iadd hK dX0_lay_138 ?_
        refine TT_iload hK 1 rfl dX0_lay_139 ?_
        refine TT_iload hK 0 rfl dX0_lay_141 ?_
        refine TT_iload hK 3 rfl dX0_lay_143 ?_
        refine TT_iload hK 1 rfl dX0_lay_145 ?_
        refine TT_isub hK dX0_lay_147 ?_
        refine TT_iload hK 2 rfl dX0_lay_148 ?_
        refine TT_iload hK 0 rfl dX0_lay_150 ?_
        refine TT_isub hK dX0_lay_152 ?_
        have q153_10 : (setO (setO (setO (setO (setO h 8 (fup (fup (fup (fup (h 8) 7 W) 8 E) 9 L) 10 ((3 * L) + 1))) 10 (fup (fup (fsr (h 10) (3 * (L - l + 1) + 1) (3 * L + 1) (fun j => lfS W L j)) ((3 * (L - l)) + 1) (lft W l)) (((3 * (L - l)) + 1) + 1) 0)) 11 (fup (fup (fsr (h 11) (3 * (L - l + 1) + 1) (3 * L + 1) (fun j => tpS E L j)) ((3 * (L - l)) + 1) 0) (((3 * (L - l)) + 1) + 1) (lft E l))) 12 (fup (fup (fsr (h 12) (3 * (L - l + 1) + 1) (3 * L + 1) (fun j => bwS W L j)) ((3 * (L - l)) + 1) ((lft W (l - 1)) - (lft W l))) (((3 * (L - l)) + 1) + 1) (lft W l))) 13 (fup (fup (fsr (h 13) (3 * (L - l + 1) + 1) (3 * L + 1) (fun j => bhS E L j)) ((3 * (L - l)) + 1) (lft E l)) (((3 * (L - l)) + 1) + 1) ((lft E (l - 1)) - (lft E l)))) 10 = fup (fup (fsr (h 10) (3 * (L - l + 1) + 1) (3 * L + 1) (fun j => lfS W L j)) ((3 * (L - l)) + 1) (lft W l)) (((3 * (L - l)) + 1) + 1) 0 := (sOf_ne _ _ (by decide)).trans ((sOf_ne _ _ (by decide)).trans ((sOf_ne _ _ (by decide)).trans (sOf_eq _ _ _)))
        have q153_11 : (setO (setO (setO (setO (setO h 8 (fup (fup (fup (fup (h 8) 7 W) 8 E) 9 L) 10 ((3 * L) + 1))) 10 (fup (fup (fsr (h 10) (3 * (L - l + 1) + 1) (3 * L + 1) (fun j => lfS W L j)) ((3 * (L - l)) + 1) (lft W l)) (((3 * (L - l)) + 1) + 1) 0)) 11 (fup (fup (fsr (h 11) (3 * (L - l + 1) + 1) (3 * L + 1) (fun j => tpS E L j)) ((3 * (L - l)) + 1) 0) (((3 * (L - l)) + 1) + 1) (lft E l))) 12 (fup (fup (fsr (h 12) (3 * (L - l + 1) + 1) (3 * L + 1) (fun j => bwS W L j)) ((3 * (L - l)) + 1) ((lft W (l - 1)) - (lft W l))) (((3 * (L - l)) + 1) + 1) (lft W l))) 13 (fup (fup (fsr (h 13) (3 * (L - l + 1) + 1) (3 * L + 1) (fun j => bhS E L j)) ((3 * (L - l)) + 1) (lft E l)) (((3 * (L - l)) + 1) + 1) ((lft E (l - 1)) - (lft E l)))) 11 = fup (fup (fsr (h 11) (3 * (L - l + 1) + 1) (3 * L + 1) (fun j => tpS E L j)) ((3 * (L - l)) + 1) 0) (((3 * (L - l)) + 1) + 1) (lft E l) := (sOf_ne _ _ (by decide)).trans ((sOf_ne _ _ (by decide)).trans (sOf_eq _ _ _))
        have q153_12 : (setO (setO (setO (setO (setO h 8 (fup (fup (fup (fup (h 8) 7 W) 8 E) 9 L) 10 ((3 * L) + 1))) 10 (fup (fup (fsr (h 10) (3 * (L - l + 1) + 1) (3 * L + 1) (fun j => lfS W L j)) ((3 * (L - l)) + 1) (lft W l)) (((3 * (L - l)) + 1) + 1) 0)) 11 (fup (fup (fsr (h 11) (3 * (L - l + 1) + 1) (3 * L + 1) (fun j => tpS E L j)) ((3 * (L - l)) + 1) 0) (((3 * (L - l)) + 1) + 1) (lft E l))) 12 (fup (fup (fsr (h 12) (3 * (L - l + 1) + 1) (3 * L + 1) (fun j => bwS W L j)) ((3 * (L - l)) + 1) ((lft W (l - 1)) - (lft W l))) (((3 * (L - l)) + 1) + 1) (lft W l))) 13 (fup (fup (fsr (h 13) (3 * (L - l + 1) + 1) (3 * L + 1) (fun j => bhS E L j)) ((3 * (L - l)) + 1) (lft E l)) (((3 * (L - l)) + 1) + 1) ((lft E (l - 1)) - (lft E l)))) 12 = fup (fup (fsr (h 12) (3 * (L - l + 1) + 1) (3 * L + 1) (fun j => bwS W L j)) ((3 * (L - l)) + 1) ((lft W (l - 1)) - (lft W l))) (((3 * (L - l)) + 1) + 1) (lft W l) := (sOf_ne _ _ (by decide)).trans (sOf_eq _ _ _)
        have q153_13 : (setO (setO (setO (setO (setO h 8 (fup (fup (fup (fup (h 8) 7 W) 8 E) 9 L) 10 ((3 * L) + 1))) 10 (fup (fup (fsr (h 10) (3 * (L - l + 1) + 1) (3 * L + 1) (fun j => lfS W L j)) ((3 * (L - l)) + 1) (lft W l)) (((3 * (L - l)) + 1) + 1) 0)) 11 (fup (fup (fsr (h 11) (3 * (L - l + 1) + 1) (3 * L + 1) (fun j => tpS E L j)) ((3 * (L - l)) + 1) 0) (((3 * (L - l)) + 1) + 1) (lft E l))) 12 (fup (fup (fsr (h 12) (3 * (L - l + 1) + 1) (3 * L + 1) (fun j => bwS W L j)) ((3 * (L - l)) + 1) ((lft W (l - 1)) - (lft W l))) (((3 * (L - l)) + 1) + 1) (lft W l))) 13 (fup (fup (fsr (h 13) (3 * (L - l + 1) + 1) (3 * L + 1) (fun j => bhS E L j)) ((3 * (L - l)) + 1) (lft E l)) (((3 * (L - l)) + 1) + 1) ((lft E (l - 1)) - (lft E l)))) 13 = fup (fup (fsr (h 13) (3 * (L - l + 1) + 1) (3 * L + 1) (fun j => bhS E L j)) ((3 * (L - l)) + 1) (lft E l)) (((3 * (L - l)) + 1) + 1) ((lft E (l - 1)) - (lft E l)) := sOf_eq _ _ _
        refine iv_X0_50 hK (c_X0_layBand_8 (((3 * (L - l)) + 1) + 2) (lft W l) (lft E l) ((lft W (l - 1)) - (lft W l)) ((lft E (l - 1)) - (lft E l)) (setO (setO (setO (setO (setO h 8 (fup (fup (fup (fup (h 8) 7 W) 8 E) 9 L) 10 ((3 * L) + 1))) 10 (fup (fup (fsr (h 10) (3 * (L - l + 1) + 1) (3 * L + 1) (fun j => lfS W L j)) ((3 * (L - l)) + 1) (lft W l)) (((3 * (L - l)) + 1) + 1) 0)) 11 (fup (fup (fsr (h 11) (3 * (L - l + 1) + 1) (3 * L + 1) (fun j => tpS E L j)) ((3 * (L - l)) + 1) 0) (((3 * (L - l)) + 1) + 1) (lft E l))) 12 (fup (fup (fsr (h 12) (3 * (L - l + 1) + 1) (3 * L + 1) (fun j => bwS W L j)) ((3 * (L - l)) + 1) ((lft W (l - 1)) - (lft W l))) (((3 * (L - l)) + 1) + 1) (lft W l))) 13 (fup (fup (fsr (h 13) (3 * (L - l + 1) + 1) (3 * L + 1) (fun j => bhS E L j)) ((3 * (L - l)) + 1) (lft E l)) (((3 * (L - l)) + 1) + 1) ((lft E (l - 1)) - (lft E l)))) (by first | omega | (simp [up, setR] <;> omega))) (by decide) rfl ⟨by decide, by decide⟩ (by decide) rfl rfl (Nat.le_of_ble_eq_true rfl) ⟨by decide, by decide⟩ dX0_lay_153 ?_
        intro r9 h9 hp9
        rw [q153_10, q153_11, q153_12, q153_13] at hp9
        rw [hp9.1, hp9.2]
        refine TT_hp (h' := setO (setO (setO (setO (setO h 8 (fup (fup (fup (fup (h 8) 7 W) 8 E) 9 L) 10 ((3 * L) + 1))) 10 (fup (fup (fup (fsr (h 10) (3 * (L - l + 1) + 1) (3 * L + 1) (fun j => lfS W L j)) ((3 * (L - l)) + 1) (lft W l)) (((3 * (L - l)) + 1) + 1) 0) (((3 * (L - l)) + 1) + 2) (lft W l))) 11 (fup (fup (fup (fsr (h 11) (3 * (L - l + 1) + 1) (3 * L + 1) (fun j => tpS E L j)) ((3 * (L - l)) + 1) 0) (((3 * (L - l)) + 1) + 1) (lft E l)) (((3 * (L - l)) + 1) + 2) (lft E l))) 12 (fup (fup (fup (fsr (h 12) (3 * (L - l + 1) + 1) (3 * L + 1) (fun j => bwS W L j)) ((3 * (L - l)) + 1) ((lft W (l - 1)) - (lft W l))) (((3 * (L - l)) + 1) + 1) (lft W l)) (((3 * (L - l)) + 1) + 2) ((lft W (l - 1)) - (lft W l)))) 13 (fup (fup (fup (fsr (h 13) (3 * (L - l + 1) + 1) (3 * L + 1) (fun j => bhS E L j)) ((3 * (L - l)) + 1) (lft E l)) (((3 * (L - l)) + 1) + 1) ((lft E (l - 1)) - (lft E l))) (((3 * (L - l)) + 1) + 2) ((lft E (l - 1)) - (lft E l)))) ((setO_cg ((setO_cg ((setO_cg ((setO_comm _ _ _ (by decide)).trans (setO_cg ((setO_comm _ _ _ (by decide)).trans (setO_cg ((setO_comm _ _ _ (by decide)).trans (setO_cg (setO_same _ _ _ _) rfl)) rfl)) rfl)) rfl).trans ((setO_comm _ _ _ (by decide)).trans (setO_cg ((setO_comm _ _ _ (by decide)).trans (setO_cg (setO_same _ _ _ _) rfl)) rfl))) rfl).trans ((setO_comm _ _ _ (by decide)).trans (setO_cg (setO_same _ _ _ _) rfl))) rfl).trans (setO_same _ _ _ _)) ?_
        show TT K ly 0 0 156 [(9, vI (lft E l)), (8, vI (lft W l)), (7, vI (lft E (l - 1))), (6, vI (lft W (l - 1))), (5, vI ((3 * (L - l)) + 1)), (0, vR 8), (1, vI W), (2, vI E), (3, vI L), (4, vI l)] [] (setO (setO (setO (setO (setO h 8 (fup (fup (fup (fup (h 8) 7 W) 8 E) 9 L) 10 ((3 * L) + 1))) 10 (fup (fup (fup (fsr (h 10) (3 * (L - l + 1) + 1) (3 * L + 1) (fun j => lfS W L j)) ((3 * (L - l)) + 1) (lft W l)) (((3 * (L - l)) + 1) + 1) 0) (((3 * (L - l)) + 1) + 2) (lft W l))) 11 (fup (fup (fup (fsr (h 11) (3 * (L - l + 1) + 1) (3 * L + 1) (fun j => tpS E L j)) ((3 * (L - l)) + 1) 0) (((3 * (L - l)) + 1) + 1) (lft E l)) (((3 * (L - l)) + 1) + 2) (lft E l))) 12 (fup (fup (fup (fsr (h 12) (3 * (L - l + 1) + 1) (3 * L + 1) (fun j => bwS W L j)) ((3 * (L - l)) + 1) ((lft W (l - 1)) - (lft W l))) (((3 * (L - l)) + 1) + 1) (lft W l)) (((3 * (L - l)) + 1) + 2) ((lft W (l - 1)) - (lft W l)))) 13 (fup (fup (fup (fsr (h 13) (3 * (L - l + 1) + 1) (3 * L + 1) (fun j => bhS E L j)) ((3 * (L - l)) + 1) (lft E l)) (((3 * (L - l)) + 1) + 1) ((lft E (l - 1)) - (lft E l))) (((3 * (L - l)) + 1) + 2) ((lft E (l - 1)) - (lft E l))))
        refine TT_iinc hK (v := l + 1) (lv' := [(4, vI (l + 1)), (9, vI (lft E l)), (8, vI (lft W l)), (7, vI (lft E (l - 1))), (6, vI (lft W (l - 1))), (5, vI ((3 * (L - l)) + 1)), (0, vR 8), (1, vI W), (2, vI E), (3, vI L)]) 9 rfl rfl (by decide) rfl dX0_lay_156 ?_
        refine TT_goto hK (tgt := 30) dX0_lay_159 (by decide) ?_
        refine TT_sub [6, 7, 8, 9, 0] rfl ?_
        refine TT_hp (h' := setO (setO (setO (setO (setO h 8 (fup (fup (fup (fup (h 8) 7 W) 8 E) 9 L) 10 ((3 * L) + 1))) 10 (fsr (h 10) (3 * (L - (l + 1) + 1) + 1) (3 * L + 1) (fun j => lfS W L j))) 11 (fsr (h 11) (3 * (L - (l + 1) + 1) + 1) (3 * L + 1) (fun j => tpS E L j))) 12 (fsr (h 12) (3 * (L - (l + 1) + 1) + 1) (3 * L + 1) (fun j => bwS W L j))) 13 (fsr (h 13) (3 * (L - (l + 1) + 1) + 1) (3 * L + 1) (fun j => bhS E L j))) (setO_cg (setO_cg (setO_cg (setO_cg rfl (by exact fsr_pre3 _ (b := 3 * (L - l) + 1) (by omega) (by omega) (by omega) (by omega) (by omega) (geo0 (W := W) (E := E) (L := L) (m := L - l) (l := l) _ (by omega) (by omega) (by omega)).2.2.2.1.symm (geo1 (W := W) (E := E) (L := L) (m := L - l) (l := l) _ (by omega) (by omega) (by omega)).2.2.2.1.symm (geo2 (W := W) (E := E) (L := L) (m := L - l) (l := l) _ (by omega) (by omega) (by omega)).2.2.2.1.symm)) (by exact fsr_pre3 _ (b := 3 * (L - l) + 1) (by omega) (by omega) (by omega) (by omega) (by omega) (geo0 (W := W) (E := E) (L := L) (m := L - l) (l := l) _ (by omega) (by omega) (by omega)).2.2.2.2.symm (geo1 (W := W) (E := E) (L := L) (m := L - l) (l := l) _ (by omega) (by omega) (by omega)).2.2.2.2.symm (geo2 (W := W) (E := E) (L := L) (m := L - l) (l := l) _ (by omega) (by omega) (by omega)).2.2.2.2.symm)) (by exact fsr_pre3 _ (b := 3 * (L - l) + 1) (by omega) (by omega) (by omega) (by omega) (by omega) (geo0 (W := W) (E := E) (L := L) (m := L - l) (l := l) _ (by omega) (by omega) (by omega)).1.symm (geo1 (W := W) (E := E) (L := L) (m := L - l) (l := l) _ (by omega) (by omega) (by omega)).1.symm (geo2 (W := W) (E := E) (L := L) (m := L - l) (l := l) _ (by omega) (by omega) (by omega)).1.symm)) (by exact fsr_pre3 _ (b := 3 * (L - l) + 1) (by omega) (by omega) (by omega) (by omega) (by omega) (geo0 (W := W) (E := E) (L := L) (m := L - l) (l := l) _ (by omega) (by omega) (by omega)).2.1.symm (geo1 (W := W) (E := E) (L := L) (m := L - l) (l := l) _ (by omega) (by omega) (by omega)).2.1.symm (geo2 (W := W) (E := E) (L := L) (m := L - l) (l := l) _ (by omega) (by omega) (by omega)).2.1.symm)) ?_
        exact ih1 (l + 1) (by first | omega | (simp [up, setR] <;> omega)) (by first | omega | (simp [up, setR] <;> omega)) (by first | omega | (simp [up, setR] <;> omega))
  refine TT_sub [1, 2, 3, 4, 0] rfl ?_
  refine TT_hp (h' := setO (setO (setO (setO (setO h 8 (fup (fup (fup (fup (h 8) 7 W) 8 E) 9 L) 10 ((3 * L) + 1))) 10 (fsr (h 10) (3 * (L - 1 + 1) + 1) (3 * L + 1) (fun j => lfS W L j))) 11 (fsr (h 11) (3 * (L - 1 + 1) + 1) (3 * L + 1) (fun j => tpS E L j))) 12 (fsr (h 12) (3 * (L - 1 + 1) + 1) (3 * L + 1) (fun j => bwS W L j))) 13 (fsr (h 13) (3 * (L - 1 + 1) + 1) (3 * L + 1) (fun j => bhS E L j))) ((setO_new ((sOf_ne _ _ (by decide)).trans (by rw [show 3 * (L - 1 + 1) + 1 = 3 * L + 1 by omega]; exact fsr_0 _ _ _))).trans (setO_cg ((setO_new ((sOf_ne _ _ (by decide)).trans (by rw [show 3 * (L - 1 + 1) + 1 = 3 * L + 1 by omega]; exact fsr_0 _ _ _))).trans (setO_cg ((setO_new ((sOf_ne _ _ (by decide)).trans (by rw [show 3 * (L - 1 + 1) + 1 = 3 * L + 1 by omega]; exact fsr_0 _ _ _))).trans (setO_cg ((setO_new ((sOf_ne _ _ (by decide)).trans (by rw [show 3 * (L - 1 + 1) + 1 = 3 * L + 1 by omega]; exact fsr_0 _ _ _))).trans (setO_cg rfl rfl)) rfl)) rfl)) rfl)) ?_
  exact L30_1 ((((9 : Int) - 1).toNat) + 1) 1 (by first | omega | (simp [up, setR] <;> omega)) (by first | omega | (simp [up, setR] <;> omega)) (Nat.lt_succ_self _)
set_option maxRecDepth 20000 in
theorem c_X0_hasBand_8 (b : Int) (h : Hp_) (hb : ir_ b) (hc : ir_ (h 8 10)) : Ctr yX0_hasBand cX0_hasBand 2 (some .boolean) (rmd 0) ly ly 0 0 [vR 8, vI b] h (fun r h' => r = some (vI (if 0 ≤ b ∧ b < (h 8 10) then 1 else 0)) ∧ h' = h) := by
  refine Ctr_of (by decide) (Nat.le_of_ble_eq_true rfl) ⟨Nat.le_refl _, Nat.le_refl _⟩ (fun K hK hQ _ => ?_)
  show TT K ly 0 0 0 [(0, vR 8), (1, vI b)] [] h
  refine TT_iload_n hK rfl 1 rfl dX0_hasBand_0 ?_
  refine TT_if_lt hK (tgt := 16) (irm (by omega) (by omega)) dX0_hasBand_1 (by decide) (fun hb1 => ?_) (fun hb1 => ?_)
  · refine TT_iconst hK dX0_hasBand_16 ?_
    refine TT_zret hK hQ (by decide) ?_ dX0_hasBand_17
    exact ⟨congrArg (fun z => some (vI z)) (by first | exact (if_pos (by omega)).symm | exact (if_neg (by omega)).symm | (split <;> first | rfl | omega)), rfl⟩
  · refine TT_iload_n hK rfl 1 rfl dX0_hasBand_4 ?_
    refine TT_aload_n hK rfl 0 rfl dX0_hasBand_5 ?_
    refine gf_X0_43 hK (by decide) rfl (v := (h 8) 10) rfl dX0_hasBand_6 ?_
    refine TT_icmp_ge hK (tgt := 16) (irm (by omega) (by omega)) (irm (by omega) (by omega)) dX0_hasBand_9 (by decide) (fun hb9 => ?_) (fun hb9 => ?_)
    · refine TT_iconst hK dX0_hasBand_16 ?_
      refine TT_zret hK hQ (by decide) ?_ dX0_hasBand_17
      exact ⟨congrArg (fun z => some (vI z)) (by first | exact (if_pos (by omega)).symm | exact (if_neg (by omega)).symm | (split <;> first | rfl | omega)), rfl⟩
    · refine TT_iconst hK dX0_hasBand_12 ?_
      refine TT_goto hK (tgt := 17) dX0_hasBand_13 (by decide) ?_
      refine TT_zret hK hQ (by decide) ?_ dX0_hasBand_17
      exact ⟨congrArg (fun z => some (vI z)) (by first | exact (if_pos (by omega)).symm | exact (if_neg (by omega)).symm | (split <;> first | rfl | omega)), rfl⟩
set_option maxRecDepth 20000 in
theorem c_X0_isEmpty_8 (b w e : Int) (h : Hp_) (hb : 0 ≤ b ∧ b < 10) (hw : (h 12) b = w ∧ ir_ w) (he : (h 13) b = e ∧ ir_ e) : Ctr yX0_isEmpty cX0_isEmpty 2 (some .boolean) (rmd 0) ly ly 0 0 [vR 8, vI b] h (fun r h' => r = some (vI (if w = 0 ∨ e = 0 then 1 else 0)) ∧ h' = h) := by
  refine Ctr_of (by decide) (Nat.le_of_ble_eq_true rfl) ⟨Nat.le_refl _, Nat.le_refl _⟩ (fun K hK hQ _ => ?_)
  show TT K ly 0 0 0 [(0, vR 8), (1, vI b)] [] h
  refine TT_aload_n hK rfl 0 rfl dX0_isEmpty_0 ?_
  refine gf_X0_21 hK (by decide) rfl (q := 12) rfl rfl dX0_isEmpty_1 ?_
  refine TT_iload_n hK rfl 1 rfl dX0_isEmpty_4 ?_
  refine TT_iald hK (o := 12) (n := 10) (by decide) rfl (by first | omega | (simp [up, setR] <;> omega)) (by first | omega | (simp [up, setR] <;> omega)) (v := (h 12) b) rfl dX0_isEmpty_5 ?_
  refine TT_if_eq hK (tgt := 18) (irm (by omega) (by omega)) dX0_isEmpty_6 (by decide) (fun hb6 => ?_) (fun hb6 => ?_)
  · refine TT_iconst hK dX0_isEmpty_18 ?_
    refine TT_goto hK (tgt := 23) dX0_isEmpty_19 (by decide) ?_
    refine TT_zret hK hQ (by decide) ?_ dX0_isEmpty_23
    exact ⟨congrArg (fun z => some (vI z)) (by first | exact (if_pos (by omega)).symm | exact (if_neg (by omega)).symm | (split <;> first | rfl | omega)), rfl⟩
  · refine TT_aload_n hK rfl 0 rfl dX0_isEmpty_9 ?_
    refine gf_X0_24 hK (by decide) rfl (q := 13) rfl rfl dX0_isEmpty_10 ?_
    refine TT_iload_n hK rfl 1 rfl dX0_isEmpty_13 ?_
    refine TT_iald hK (o := 13) (n := 10) (by decide) rfl (by first | omega | (simp [up, setR] <;> omega)) (by first | omega | (simp [up, setR] <;> omega)) (v := (h 13) b) rfl dX0_isEmpty_14 ?_
    refine TT_if_ne hK (tgt := 22) (irm (by omega) (by omega)) dX0_isEmpty_15 (by decide) (fun hb15 => ?_) (fun hb15 => ?_)
    · refine TT_iconst hK dX0_isEmpty_22 ?_
      refine TT_zret hK hQ (by decide) ?_ dX0_isEmpty_23
      exact ⟨congrArg (fun z => some (vI z)) (by first | exact (if_pos (by omega)).symm | exact (if_neg (by omega)).symm | (split <;> first | rfl | omega)), rfl⟩
    · refine TT_iconst hK dX0_isEmpty_18 ?_
      refine TT_goto hK (tgt := 23) dX0_isEmpty_19 (by decide) ?_
      refine TT_zret hK hQ (by decide) ?_ dX0_isEmpty_23
      exact ⟨congrArg (fun z => some (vI z)) (by first | exact (if_pos (by omega)).symm | exact (if_neg (by omega)).symm | (split <;> first | rfl | omega)), rfl⟩
set_option maxRecDepth 20000 in
theorem c_X0_kindOf_8 (b : Int) (h : Hp_) (hb : 0 ≤ b ∧ b < 10) : Ctr yX0_kindOf cX0_kindOf 3 (some .int) (rmd 0) ly ly 0 0 [vR 8, vI b] h (fun r h' => r = some (vI (kdS b)) ∧ h' = h) := by
  refine Ctr_of (by decide) (Nat.le_of_ble_eq_true rfl) ⟨Nat.le_refl _, Nat.le_refl _⟩ (fun K hK hQ _ => ?_)
  show TT K ly 0 0 0 [(0, vR 8), (1, vI b)] [] h
  refine TT_iload_n hK rfl 1 rfl dX0_kindOf_0 ?_
  refine TT_if_ne hK (tgt := 6) (irm (by omega) (by omega)) dX0_kindOf_1 (by decide) (fun hb1 => ?_) (fun hb1 => ?_)
  · refine TT_iload_n hK rfl 1 rfl dX0_kindOf_6 ?_
    refine TT_iconst hK dX0_kindOf_7 ?_
    refine TT_isub hK dX0_kindOf_8 ?_
    refine TT_iconst hK dX0_kindOf_9 ?_
    refine TT_iremn hK (irm (by omega) (by omega)) (by decide) (by first | omega | (simp [up, setR] <;> omega)) (by first | omega | (simp [up, setR] <;> omega)) dX0_kindOf_10 ?_
    refine TT_nmI (fun c hc => ?_)
    refine TT_istore_n hK rfl (lv' := [(2, vI c), (0, vR 8), (1, vI b)]) (by decide) rfl dX0_kindOf_11 ?_
    refine TT_iload_n hK rfl 0 rfl dX0_kindOf_12 ?_
    refine TT_if_ne hK (tgt := 20) (irm (by omega) (by omega)) dX0_kindOf_13 (by decide) (fun hb13 => ?_) (fun hb13 => ?_)
    · refine TT_iload_n hK rfl 0 rfl dX0_kindOf_20 ?_
      refine TT_iconst hK dX0_kindOf_21 ?_
      refine TT_icmp_ne hK (tgt := 29) (irm (by omega) (by omega)) (by decide) dX0_kindOf_22 (by decide) (fun hb22 => ?_) (fun hb22 => ?_)
      · refine TT_iconst hK dX0_kindOf_29 ?_
        refine TT_iret hK hQ ?_ dX0_kindOf_30
        exact ⟨congrArg (fun z => some (vI z)) (by unfold kdS; rw [if_neg (by omega)]; first | rw [if_pos (by omega)] | rw [if_neg (by omega), if_pos (by omega)] | rw [if_neg (by omega), if_neg (by omega)]), rfl⟩
      · refine TT_iconst hK dX0_kindOf_25 ?_
        refine TT_goto hK (tgt := 30) dX0_kindOf_26 (by decide) ?_
        refine TT_iret hK hQ ?_ dX0_kindOf_30
        exact ⟨congrArg (fun z => some (vI z)) (by unfold kdS; rw [if_neg (by omega)]; first | rw [if_pos (by omega)] | rw [if_neg (by omega), if_pos (by omega)] | rw [if_neg (by omega), if_neg (by omega)]), rfl⟩
    · refine TT_iconst hK dX0_kindOf_16 ?_
      refine TT_goto hK (tgt := 30) dX0_kindOf_17 (by decide) ?_
      refine TT_iret hK hQ ?_ dX0_kindOf_30
      exact ⟨congrArg (fun z => some (vI z)) (by unfold kdS; rw [if_neg (by omega)]; first | rw [if_pos (by omega)] | rw [if_neg (by omega), if_pos (by omega)] | rw [if_neg (by omega), if_neg (by omega)]), rfl⟩
  · refine TT_iconst hK dX0_kindOf_4 ?_
    refine TT_iret hK hQ ?_ dX0_kindOf_5
    exact ⟨congrArg (fun z => some (vI z)) (by subst hb1; rfl), rfl⟩
set_option maxRecDepth 20000 in
theorem c_X0_hasNumber_8 (b x y : Int) (h : Hp_) (hb : ir_ b) (hx : ir_ x) (hy : ir_ y) (hc : 0 ≤ (h 8 10) ∧ (h 8 10) ≤ 10) (hr : ∀ j, 0 ≤ j → j < (h 8 10) → (0 ≤ (h 10) j ∧ 0 ≤ (h 11) j ∧ 0 ≤ (h 12) j ∧ 0 ≤ (h 13) j) ∧ ((h 10) j + (h 12) j ≤ 8 ∧ (h 11) j + (h 13) j ≤ 8)) : Ctr yX0_hasNumber cX0_hasNumber 4 (some .boolean) (rmd 1) ly ly 0 0 [vR 8, vI b, vI x, vI y] h (fun r h' => r = some (vI (if (0 ≤ b ∧ b < (h 8 10)) ∧ (0 ≤ x ∧ x < (h 12) b) ∧ (0 ≤ y ∧ y < (h 13) b) then 1 else 0)) ∧ h' = h) := by
  refine Ctr_of (by decide) (Nat.le_of_ble_eq_true rfl) ⟨Nat.le_refl _, Nat.le_refl _⟩ (fun K hK hQ _ => ?_)
  show TT K ly 0 0 0 [(0, vR 8), (1, vI b), (2, vI x), (3, vI y)] [] h
  refine TT_aload_n hK rfl 0 rfl dX0_hasNumber_0 ?_
  refine TT_iload_n hK rfl 1 rfl dX0_hasNumber_1 ?_
  refine iv_X0_54 hK (c_X0_hasBand_8 b h (by first | omega | (simp [up, setR] <;> omega)) (by first | omega | (simp [up, setR] <;> omega))) (by decide) rfl ⟨by decide, by decide⟩ (by decide) rfl rfl (Nat.le_of_ble_eq_true rfl) ⟨by decide, by decide⟩ dX0_hasNumber_2 ?_
  intro r9 h9 hp9
  rw [hp9.1, hp9.2]
  by_cases hz2 : 0 ≤ b ∧ b < ((h 8) 10)
  · rw [if_pos hz2]
    have hrb := hr b hz2.1 hz2.2
    show TT K ly 0 0 5 [(0, vR 8), (1, vI b), (2, vI x), (3, vI y)] [vI 1] h
    refine TT_if_eq hK (tgt := 40) (by decide) dX0_hasNumber_5 (by decide) (fun hb5 => ?_) (fun hb5 => ?_)
    · exact absurd hb5 (by decide)
    · refine TT_iload_n hK rfl 2 rfl dX0_hasNumber_8 ?_
      refine TT_if_lt hK (tgt := 40) (irm (by omega) (by omega)) dX0_hasNumber_9 (by decide) (fun hb9 => ?_) (fun hb9 => ?_)
      · refine TT_iconst hK dX0_hasNumber_40 ?_
        refine TT_zret hK hQ (by decide) ?_ dX0_hasNumber_41
        exact ⟨congrArg (fun z => some (vI z)) (by first | exact (if_pos (by omega)).symm | exact (if_neg (by omega)).symm | (split <;> first | rfl | omega)), rfl⟩
      · refine TT_iload_n hK rfl 2 rfl dX0_hasNumber_12 ?_
        refine TT_aload_n hK rfl 0 rfl dX0_hasNumber_13 ?_
        refine gf_X0_21 hK (by decide) rfl (q := 12) rfl rfl dX0_hasNumber_14 ?_
        refine TT_iload_n hK rfl 1 rfl dX0_hasNumber_17 ?_
        refine TT_iald hK (o := 12) (n := 10) (by decide) rfl (by first | omega | (simp [up, setR] <;> omega)) (by first | omega | (simp [up, setR] <;> omega)) (v := (h 12) b) rfl dX0_hasNumber_18 ?_
        refine TT_icmp_ge hK (tgt := 40) (irm (by omega) (by omega)) (irm (by omega) (by omega)) dX0_hasNumber_19 (by decide) (fun hb19 => ?_) (fun hb19 => ?_)
        · refine TT_iconst hK dX0_hasNumber_40 ?_
          refine TT_zret hK hQ (by decide) ?_ dX0_hasNumber_41
          exact ⟨congrArg (fun z => some (vI z)) (by first | exact (if_pos (by omega)).symm | exact (if_neg (by omega)).symm | (split <;> first | rfl | omega)), rfl⟩
        · refine TT_iload_n hK rfl 3 rfl dX0_hasNumber_22 ?_
          refine TT_if_lt hK (tgt := 40) (irm (by omega) (by omega)) dX0_hasNumber_23 (by decide) (fun hb23 => ?_) (fun hb23 => ?_)
          · refine TT_iconst hK dX0_hasNumber_40 ?_
            refine TT_zret hK hQ (by decide) ?_ dX0_hasNumber_41
            exact ⟨congrArg (fun z => some (vI z)) (by first | exact (if_pos (by omega)).symm | exact (if_neg (by omega)).symm | (split <;> first | rfl | omega)), rfl⟩
          · refine TT_iload_n hK rfl 3 rfl dX0_hasNumber_26 ?_
            refine TT_aload_n hK rfl 0 rfl dX0_hasNumber_27 ?_
            refine gf_X0_24 hK (by decide) rfl (q := 13) rfl rfl dX0_hasNumber_28 ?_
            refine TT_iload_n hK rfl 1 rfl dX0_hasNumber_31 ?_
            refine TT_iald hK (o := 13) (n := 10) (by decide) rfl (by first | omega | (simp [up, setR] <;> omega)) (by first | omega | (simp [up, setR] <;> omega)) (v := (h 13) b) rfl dX0_hasNumber_32 ?_
            refine TT_icmp_ge hK (tgt := 40) (irm (by omega) (by omega)) (irm (by omega) (by omega)) dX0_hasNumber_33 (by decide) (fun hb33 => ?_) (fun hb33 => ?_)
            · refine TT_iconst hK dX0_hasNumber_40 ?_
              refine TT_zret hK hQ (by decide) ?_ dX0_hasNumber_41
              exact ⟨congrArg (fun z => some (vI z)) (by first | exact (if_pos (by omega)).symm | exact (if_neg (by omega)).symm | (split <;> first | rfl | omega)), rfl⟩
            · refine TT_iconst hK dX0_hasNumber_36 ?_
              refine TT_goto hK (tgt := 41) dX0_hasNumber_37 (by decide) ?_
              refine TT_zret hK hQ (by decide) ?_ dX0_hasNumber_41
              exact ⟨congrArg (fun z => some (vI z)) (by first | exact (if_pos (by omega)).symm | exact (if_neg (by omega)).symm | (split <;> first | rfl | omega)), rfl⟩
  · rw [if_neg hz2]
    show TT K ly 0 0 5 [(0, vR 8), (1, vI b), (2, vI x), (3, vI y)] [vI 0] h
    refine TT_if_eq hK (tgt := 40) (by decide) dX0_hasNumber_5 (by decide) (fun hb5 => ?_) (fun hb5 => ?_)
    · refine TT_iconst hK dX0_hasNumber_40 ?_
      refine TT_zret hK hQ (by decide) ?_ dX0_hasNumber_41
      exact ⟨congrArg (fun z => some (vI z)) (by first | exact (if_pos (by omega)).symm | exact (if_neg (by omega)).symm | (split <;> first | rfl | omega)), rfl⟩
    · exact absurd hb5 (by decide)
set_option maxRecDepth 20000 in
theorem c_X0_at_8 (b x y : Int) (h : Hp_) (hb : ir_ b) (hx : ir_ x) (hy : ir_ y) (hc : 0 ≤ (h 8 10) ∧ (h 8 10) ≤ 10) (hr : ∀ j, 0 ≤ j → j < (h 8 10) → (0 ≤ (h 10) j ∧ 0 ≤ (h 11) j ∧ 0 ≤ (h 12) j ∧ 0 ≤ (h 13) j) ∧ ((h 10) j + (h 12) j ≤ 8 ∧ (h 11) j + (h 13) j ≤ 8)) : Ctr yX0_at cX0_at 4 (some .int) (rmd 2) ly ly 0 0 [vR 8, vI b, vI x, vI y] h (fun r h' => r = some (vI (if (0 ≤ b ∧ b < (h 8 10)) ∧ (0 ≤ x ∧ x < (h 12) b) ∧ (0 ≤ y ∧ y < (h 13) b) then (h 9) (((((h 11) b) + y) * 8 + (h 10) b) + x) else -100000)) ∧ h' = h) := by
  refine Ctr_of (by decide) (Nat.le_of_ble_eq_true rfl) ⟨Nat.le_refl _, Nat.le_refl _⟩ (fun K hK hQ _ => ?_)
  show TT K ly 0 0 0 [(0, vR 8), (1, vI b), (2, vI x), (3, vI y)] [] h
  refine TT_aload_n hK rfl 0 rfl dX0_at_0 ?_
  refine TT_iload_n hK rfl 1 rfl dX0_at_1 ?_
  refine TT_iload_n hK rfl 2 rfl dX0_at_2 ?_
  refine TT_iload_n hK rfl 3 rfl dX0_at_3 ?_
  refine iv_X0_58 hK (c_X0_hasNumber_8 b x y h (by first | omega | (simp [up, setR] <;> omega)) (by first | omega | (simp [up, setR] <;> omega)) (by first | omega | (simp [up, setR] <;> omega)) (by first | omega | (simp [up, setR] <;> omega)) (by exact hr)) (by decide) rfl ⟨by decide, by decide⟩ (by decide) rfl rfl (Nat.le_of_ble_eq_true rfl) ⟨by decide, by decide⟩ dX0_at_4 ?_
  intro r9 h9 hp9
  rw [hp9.1, hp9.2]
  by_cases hz4 : (0 ≤ b ∧ b < ((h 8) 10)) ∧ (0 ≤ x ∧ x < (h 12) b) ∧ (0 ≤ y ∧ y < (h 13) b)
  · rw [if_pos hz4]
    have hrb := hr b hz4.1.1 hz4.1.2
    show TT K ly 0 0 7 [(0, vR 8), (1, vI b), (2, vI x), (3, vI y)] [vI 1] h
    refine TT_if_eq hK (tgt := 38) (by decide) dX0_at_7 (by decide) (fun hb7 => ?_) (fun hb7 => ?_)
    · exact absurd hb7 (by decide)
    · refine TT_aload_n hK rfl 0 rfl dX0_at_10 ?_
      refine gf_X0_9 hK (by decide) rfl (q := 9) rfl rfl dX0_at_11 ?_
      refine TT_aload_n hK rfl 0 rfl dX0_at_14 ?_
      refine gf_X0_18 hK (by decide) rfl (q := 11) rfl rfl dX0_at_15 ?_
      refine TT_iload_n hK rfl 1 rfl dX0_at_18 ?_
      refine TT_iald hK (o := 11) (n := 10) (by decide) rfl (by first | omega | (simp [up, setR] <;> omega)) (by first | omega | (simp [up, setR] <;> omega)) (v := (h 11) b) rfl dX0_at_19 ?_
      refine TT_iload_n hK rfl 3 rfl dX0_at_20 ?_
      refine TT_iadd hK dX0_at_21 ?_
      refine TT_bipush hK (by decide) dX0_at_22 ?_
      refine TT_imul hK dX0_at_24 ?_
      refine TT_aload_n hK rfl 0 rfl dX0_at_25 ?_
      refine gf_X0_15 hK (by decide) rfl (q := 10) rfl rfl dX0_at_26 ?_
      refine TT_iload_n hK rfl 1 rfl dX0_at_29 ?_
      refine TT_iald hK (o := 10) (n := 10) (by decide) rfl (by first | omega | (simp [up, setR] <;> omega)) (by first | omega | (simp [up, setR] <;> omega)) (v := (h 10) b) rfl dX0_at_30 ?_
      refine TT_iadd hK dX0_at_31 ?_
      refine TT_iload_n hK rfl 2 rfl dX0_at_32 ?_
      refine TT_iadd hK dX0_at_33 ?_
      refine TT_iald hK (o := 9) (n := 64) (by decide) rfl (by first | omega | (simp [up, setR] <;> omega)) (by first | omega | (simp [up, setR] <;> omega)) (v := (h 9) ((((((h 11) b) + y) * 8) + ((h 10) b)) + x)) rfl dX0_at_34 ?_
      refine TT_goto hK (tgt := 40) dX0_at_35 (by decide) ?_
      refine TT_iret hK hQ ?_ dX0_at_40
      exact ⟨congrArg (fun z => some (vI z)) (by first | exact (if_pos hz4).symm | exact (if_neg hz4).symm), rfl⟩
  · rw [if_neg hz4]
    show TT K ly 0 0 7 [(0, vR 8), (1, vI b), (2, vI x), (3, vI y)] [vI 0] h
    refine TT_if_eq hK (tgt := 38) (by decide) dX0_at_7 (by decide) (fun hb7 => ?_) (fun hb7 => ?_)
    · refine TT_ldc hK lc_X0_62 dX0_at_38 ?_
      refine TT_iret hK hQ ?_ dX0_at_40
      exact ⟨congrArg (fun z => some (vI z)) (by first | exact (if_pos hz4).symm | exact (if_neg hz4).symm), rfl⟩
    · exact absurd hb7 (by decide)
set_option maxRecDepth 20000 in
theorem c_X0_set_8 (b x y v : Int) (h : Hp_) (hb : ir_ b) (hx : ir_ x) (hy : ir_ y) (hc : 0 ≤ (h 8 10) ∧ (h 8 10) ≤ 10) (hr : ∀ j, 0 ≤ j → j < (h 8 10) → (0 ≤ (h 10) j ∧ 0 ≤ (h 11) j ∧ 0 ≤ (h 12) j ∧ 0 ≤ (h 13) j) ∧ ((h 10) j + (h 12) j ≤ 8 ∧ (h 11) j + (h 13) j ≤ 8)) (hin : (0 ≤ b ∧ b < (h 8 10)) ∧ (0 ≤ x ∧ x < (h 12) b) ∧ (0 ≤ y ∧ y < (h 13) b)) : Ctr yX0_set cX0_set 5 none (rmd 2) ly ly 0 0 [vR 8, vI b, vI x, vI y, vI v] h (fun r h' => r = none ∧ h' = setO h 9 (fup (h 9) ((((((h 11) b) + y) * 8) + ((h 10) b)) + x) v)) := by
  refine Ctr_of (by decide) (Nat.le_of_ble_eq_true rfl) ⟨Nat.le_refl _, Nat.le_refl _⟩ (fun K hK hQ _ => ?_)
  show TT K ly 0 0 0 [(0, vR 8), (1, vI b), (2, vI x), (3, vI y), (4, vI v)] [] h
  refine TT_aload_n hK rfl 0 rfl dX0_set_0 ?_
  refine TT_iload_n hK rfl 1 rfl dX0_set_1 ?_
  refine TT_iload_n hK rfl 2 rfl dX0_set_2 ?_
  refine TT_iload_n hK rfl 3 rfl dX0_set_3 ?_
  refine iv_X0_58 hK (c_X0_hasNumber_8 b x y h (by first | omega | (simp [up, setR] <;> omega)) (by first | omega | (simp [up, setR] <;> omega)) (by first | omega | (simp [up, setR] <;> omega)) (by first | omega | (simp [up, setR] <;> omega)) (by exact hr)) (by decide) rfl ⟨by decide, by decide⟩ (by decide) rfl rfl (Nat.le_of_ble_eq_true rfl) ⟨by decide, by decide⟩ dX0_set_4 ?_
  intro r9 h9 hp9
  rw [hp9.1, hp9.2]
  by_cases hz4 : (0 ≤ b ∧ b < ((h 8) 10)) ∧ (0 ≤ x ∧ x < (h 12) b) ∧ (0 ≤ y ∧ y < (h 13) b)
  · rw [if_pos hz4]
    have hrb := hr b hz4.1.1 hz4.1.2
    show TT K ly 0 0 7 [(0, vR 8), (1, vI b), (2, vI x), (3, vI y), (4, vI v)] [vI 1] h
    refine TT_if_eq hK (tgt := 37) (by decide) dX0_set_7 (by decide) (fun hb7 => ?_) (fun hb7 => ?_)
    · exact absurd hb7 (by decide)
    · refine TT_aload_n hK rfl 0 rfl dX0_set_10 ?_
      refine gf_X0_9 hK (by decide) rfl (q := 9) rfl rfl dX0_set_11 ?_
      refine TT_aload_n hK rfl 0 rfl dX0_set_14 ?_
      refine gf_X0_18 hK (by decide) rfl (q := 11) rfl rfl dX0_set_15 ?_
      refine TT_iload_n hK rfl 1 rfl dX0_set_18 ?_
      refine TT_iald hK (o := 11) (n := 10) (by decide) rfl (by first | omega | (simp [up, setR] <;> omega)) (by first | omega | (simp [up, setR] <;> omega)) (v := (h 11) b) rfl dX0_set_19 ?_
      refine TT_iload_n hK rfl 3 rfl dX0_set_20 ?_
      refine TT_iadd hK dX0_set_21 ?_
      refine TT_bipush hK (by decide) dX0_set_22 ?_
      refine TT_imul hK dX0_set_24 ?_
      refine TT_aload_n hK rfl 0 rfl dX0_set_25 ?_
      refine gf_X0_15 hK (by decide) rfl (q := 10) rfl rfl dX0_set_26 ?_
      refine TT_iload_n hK rfl 1 rfl dX0_set_29 ?_
      refine TT_iald hK (o := 10) (n := 10) (by decide) rfl (by first | omega | (simp [up, setR] <;> omega)) (by first | omega | (simp [up, setR] <;> omega)) (v := (h 10) b) rfl dX0_set_30 ?_
      refine TT_iadd hK dX0_set_31 ?_
      refine TT_iload_n hK rfl 2 rfl dX0_set_32 ?_
      refine TT_iadd hK dX0_set_33 ?_
      refine TT_iload hK 4 rfl dX0_set_34 ?_
      refine TT_iast hK (o := 9) (n := 64) (by decide) rfl (by first | omega | (simp [up, setR] <;> omega)) (by first | omega | (simp [up, setR] <;> omega)) dX0_set_36 ?_
      refine TT_hp (h' := setO h 9 (fup (h 9) ((((((h 11) b) + y) * 8) + ((h 10) b)) + x) v)) (up_can rfl rfl rfl) ?_
      refine TT_vret hK hQ ?_ dX0_set_37
      exact ⟨rfl, rfl⟩
  · rw [if_neg hz4]
    exact absurd hin hz4
set_option maxRecDepth 20000 in
theorem c_X0_layBand_45 (b x y w e : Int) (h : Hp_) (hb : 0 ≤ b ∧ b < 10) : Ctr yX0_layBand cX0_layBand 6 none (rmd 0) ly ly 0 0 [vR 45, vI b, vI x, vI y, vI w, vI e] h (fun r h' => r = none ∧ h' = setO (setO (setO (setO h 47 (fup (h 47) b x)) 48 (fup (h 48) b y)) 49 (fup (h 49) b w)) 50 (fup (h 50) b e)) := by
  refine Ctr_of (by decide) (Nat.le_of_ble_eq_true rfl) ⟨Nat.le_refl _, Nat.le_refl _⟩ (fun K hK hQ _ => ?_)
  show TT K ly 0 0 0 [(0, vR 45), (1, vI b), (2, vI x), (3, vI y), (4, vI w), (5, vI e)] [] h
  refine TT_aload_n hK rfl 0 rfl dX0_layBand_0 ?_
  refine gf_X0_15 hK (by decide) rfl (q := 47) rfl rfl dX0_layBand_1 ?_
  refine TT_iload_n hK rfl 1 rfl dX0_layBand_4 ?_
  refine TT_iload_n hK rfl 2 rfl dX0_layBand_5 ?_
  refine TT_iast hK (o := 47) (n := 10) (by decide) rfl (by first | omega | (simp [up, setR] <;> omega)) (by first | omega | (simp [up, setR] <;> omega)) dX0_layBand_6 ?_
  refine TT_hp (h' := setO h 47 (fup (h 47) b x)) (up_can rfl rfl rfl) ?_
  refine TT_aload_n hK rfl 0 rfl dX0_layBand_7 ?_
  refine gf_X0_18 hK (by decide) rfl (q := 48) rfl rfl dX0_layBand_8 ?_
  refine TT_iload_n hK rfl 1 rfl dX0_layBand_11 ?_
  refine TT_iload_n hK rfl 3 rfl dX0_layBand_12 ?_
  refine TT_iast hK (o := 48) (n := 10) (by decide) rfl (by first | omega | (simp [up, setR] <;> omega)) (by first | omega | (simp [up, setR] <;> omega)) dX0_layBand_13 ?_
  refine TT_hp (h' := setO (setO h 47 (fup (h 47) b x)) 48 (fup (h 48) b y)) (up_can (sOf_ne _ _ (by decide)) rfl rfl) ?_
  refine TT_aload_n hK rfl 0 rfl dX0_layBand_14 ?_
  refine gf_X0_21 hK (by decide) rfl (q := 49) rfl rfl dX0_layBand_15 ?_
  refine TT_iload_n hK rfl 1 rfl dX0_layBand_18 ?_
  refine TT_iload hK 4 rfl dX0_layBand_19 ?_
  refine TT_iast hK (o := 49) (n := 10) (by decide) rfl (by first | omega | (simp [up, setR] <;> omega)) (by first | omega | (simp [up, setR] <;> omega)) dX0_layBand_21 ?_
  refine TT_hp (h' := setO (setO (setO h 47 (fup (h 47) b x)) 48 (fup (h 48) b y)) 49 (fup (h 49) b w)) (up_can ((sOf_ne _ _ (by decide)).trans (sOf_ne _ _ (by decide))) rfl rfl) ?_
  refine TT_aload_n hK rfl 0 rfl dX0_layBand_22 ?_
  refine gf_X0_24 hK (by decide) rfl (q := 50) rfl rfl dX0_layBand_23 ?_
  refine TT_iload_n hK rfl 1 rfl dX0_layBand_26 ?_
  refine TT_iload hK 5 rfl dX0_layBand_27 ?_
  refine TT_iast hK (o := 50) (n := 10) (by decide) rfl (by first | omega | (simp [up, setR] <;> omega)) (by first | omega | (simp [up, setR] <;> omega)) dX0_layBand_29 ?_
  refine TT_hp (h' := setO (setO (setO (setO h 47 (fup (h 47) b x)) 48 (fup (h 48) b y)) 49 (fup (h 49) b w)) 50 (fup (h 50) b e)) (up_can ((sOf_ne _ _ (by decide)).trans ((sOf_ne _ _ (by decide)).trans (sOf_ne _ _ (by decide)))) rfl rfl) ?_
  refine TT_vret hK hQ ?_ dX0_layBand_30
  exact ⟨rfl, rfl⟩
set_option maxRecDepth 20000 in
theorem c_X0_lay_45 (W E L : Int) (h : Hp_) (hW : 1 ≤ W ∧ W ≤ 8) (hE : 1 ≤ E ∧ E ≤ 8) (hL : 0 ≤ L ∧ L ≤ 3) : Ctr yX0_lay cX0_lay 10 none (rmd 1) ly ly 0 0 [vR 45, vI W, vI E, vI L] h (fun r h' => r = none ∧ h' = setO (setO (setO (setO (setO h 45 (fup (fup (fup (fup (h 45) 7 W) 8 E) 9 L) 10 (3 * L + 1))) 47 (fsr (h 47) (0) (3 * L + 1) (fun j => lfS W L j))) 48 (fsr (h 48) (0) (3 * L + 1) (fun j => tpS E L j))) 49 (fsr (h 49) (0) (3 * L + 1) (fun j => bwS W L j))) 50 (fsr (h 50) (0) (3 * L + 1) (fun j => bhS E L j))) := by
  refine Ctr_of (by decide) (Nat.le_of_ble_eq_true rfl) ⟨Nat.le_refl _, Nat.le_refl _⟩ (fun K hK hQ _ => ?_)
  show TT K ly 0 0 0 [(0, vR 45), (1, vI W), (2, vI E), (3, vI L)] [] h
  refine TT_aload_n hK rfl 0 rfl dX0_lay_0 ?_
  refine TT_iload_n hK rfl 1 rfl dX0_lay_1 ?_
  refine pf_X0_33 hK (by decide) rfl dX0_lay_2 ?_
  refine TT_hp (h' := setO h 45 (fup (h 45) 7 W)) (up_can rfl rfl rfl) ?_
  refine TT_aload_n hK rfl 0 rfl dX0_lay_5 ?_
  refine TT_iload_n hK rfl 2 rfl dX0_lay_6 ?_
  refine pf_X0_37 hK (by decide) rfl dX0_lay_7 ?_
  refine TT_hp (h' := setO h 45 (fup (fup (h 45) 7 W) 8 E)) (up_can (sOf_eq _ _ _) rfl (setO_same _ _ _ _)) ?_
  refine TT_aload_n hK rfl 0 rfl dX0_lay_10 ?_
  refine TT_iload_n hK rfl 3 rfl dX0_lay_11 ?_
  refine pf_X0_40 hK (by decide) rfl dX0_lay_12 ?_
  refine TT_hp (h' := setO h 45 (fup (fup (fup (h 45) 7 W) 8 E) 9 L)) (up_can (sOf_eq _ _ _) rfl (setO_same _ _ _ _)) ?_
  refine TT_aload_n hK rfl 0 rfl dX0_lay_15 ?_
  refine TT_iconst hK dX0_lay_16 ?_
  refine TT_aload_n hK rfl 0 rfl dX0_lay_17 ?_
  refine gf_X0_40 hK (by decide) rfl (v := L) (rd_ (sOf_eq _ _ _) (fup_eq _ _ _)) dX0_lay_18 ?_
  refine TT_imul hK dX0_lay_21 ?_
  refine TT_iconst hK dX0_lay_22 ?_
  refine TT_iadd hK dX0_lay_23 ?_
  refine pf_X0_43 hK (by decide) rfl dX0_lay_24 ?_
  refine TT_hp (h' := setO h 45 (fup (fup (fup (fup (h 45) 7 W) 8 E) 9 L) 10 ((3 * L) + 1))) (up_can (sOf_eq _ _ _) rfl (setO_same _ _ _ _)) ?_
  refine TT_iconst hK dX0_lay_27 ?_
  refine TT_istore hK (lv' := [(4, vI 1), (0, vR 45), (1, vI W), (2, vI E), (3, vI L)]) (by decide) rfl dX0_lay_28 ?_
  have L30_1 : ∀ (k1 : Nat) (l : Int), (1 ≤ l) → (l ≤ L + 1) → ((9 : Int) - l).toNat < k1 → TT K ly 0 0 30 [(0, vR 45), (1, vI W), (2, vI E), (3, vI L), (4, vI l)] [] (setO (setO (setO (setO (setO h 45 (fup (fup (fup (fup (h 45) 7 W) 8 E) 9 L) 10 ((3 * L) + 1))) 47 (fsr (h 47) (3 * (L - l + 1) + 1) (3 * L + 1) (fun j => lfS W L j))) 48 (fsr (h 48) (3 * (L - l + 1) + 1) (3 * L + 1) (fun j => tpS E L j))) 49 (fsr (h 49) (3 * (L - l + 1) + 1) (3 * L + 1) (fun j => bwS W L j))) 50 (fsr (h 50) (3 * (L - l + 1) + 1) (3 * L + 1) (fun j => bhS E L j))) := by
    intro k1
    induction k1 with
    | zero => intro l hl0 hl1 hk1; exact absurd hk1 (Nat.not_lt_zero _)
    | succ k1 ih1 =>
      intro l hl0 hl1 hk1
      refine TT_iload hK 4 rfl dX0_lay_30 ?_
      refine TT_aload_n hK rfl 0 rfl dX0_lay_32 ?_
      refine gf_X0_40 hK (by decide) rfl (v := L) (rd_ ((sOf_ne _ _ (by decide)).trans ((sOf_ne _ _ (by decide)).trans ((sOf_ne _ _ (by decide)).trans ((sOf_ne _ _ (by decide)).trans (sOf_eq _ _ _))))) ((fup_ne _ _ (by decide)).trans (fup_eq _ _ _))) dX0_lay_33 ?_
      refine TT_icmp_gt hK (tgt := 162) (irm (by omega) (by omega)) (irm (by omega) (by omega)) dX0_lay_36 (by decide) (fun hb36 => ?_) (fun hb36 => ?_)
      · refine TT_aload_n hK rfl 0 rfl dX0_lay_162 ?_
        refine TT_iconst hK dX0_lay_163 ?_
        refine TT_iconst hK dX0_lay_164 ?_
        refine TT_iconst hK dX0_lay_165 ?_
        refine TT_aload_n hK rfl 0 rfl dX0_lay_166 ?_
        refine gf_X0_33 hK (by decide) rfl (v := W) (rd_ ((sOf_ne _ _ (by decide)).trans ((sOf_ne _ _ (by decide)).trans ((sOf_ne _ _ (by decide)).trans ((sOf_ne _ _ (by decide)).trans (sOf_eq _ _ _))))) ((fup_ne _ _ (by decide)).trans ((fup_ne _ _ (by decide)).trans ((fup_ne _ _ (by decide)).trans (fup_eq _ _ _))))) dX0_lay_167 ?_
        refine TT_aload_n hK rfl 0 rfl dX0_lay_170 ?_
        refine gf_X0_40 hK (by decide) rfl (v := L) (rd_ ((sOf_ne _ _ (by decide)).trans ((sOf_ne _ _ (by decide)).trans ((sOf_ne _ _ (by decide)).trans ((sOf_ne _ _ (by decide)).trans (sOf_eq _ _ _))))) ((fup_ne _ _ (by decide)).trans (fup_eq _ _ _))) dX0_lay_171 ?_
        refine iv_X0_46 hK (c_X0_sideAfter W L (setO (setO (setO (setO (setO h 45 (fup (fup (fup (fup (h 45) 7 W) 8 E) 9 L) 10 ((3 * L) + 1))) 47 (fsr (h 47) (3 * (L - l + 1) + 1) (3 * L + 1) (fun j => lfS W L j))) 48 (fsr (h 48) (3 * (L - l + 1) + 1) (3 * L + 1) (fun j => tpS E L j))) 49 (fsr (h 49) (3 * (L - l + 1) + 1) (3 * L + 1) (fun j => bwS W L j))) 50 (fsr (h 50) (3 * (L - l + 1) + 1) (3 * L + 1) (fun j => bhS E L j))) (by first | omega | (simp [up, setR] <;> omega)) (by first | omega | (simp [up, setR] <;> omega))) ⟨by decide, by decide⟩ (by decide) rfl rfl (Nat.le_of_ble_eq_true rfl) ⟨by decide, by decide⟩ dX0_lay_174 ?_
        intro r9 h9 hp9
        rw [hp9.1, hp9.2]
        show TT K ly 0 0 177 [(0, vR 45), (1, vI W), (2, vI E), (3, vI L), (4, vI l)] [vI (lft W L), vI 0, vI 0, vI 0, vR 45] (setO (setO (setO (setO (setO h 45 (fup (fup (fup (fup (h 45) 7 W) 8 E) 9 L) 10 ((3 * L) + 1))) 47 (fsr (h 47) (3 * (L - l + 1) + 1) (3 * L + 1) (fun j => lfS W L j))) 48 (fsr (h 48) (3 * (L - l + 1) + 1) (3 * L + 1) (fun j => tpS E L j))) 49 (fsr (h 49) (3 * (L - l + 1) + 1) (3 * L + 1) (fun j => bwS W L j))) 50 (fsr (h 50) (3 * (L - l + 1) + 1) (3 * L + 1) (fun j => bhS E L j)))
        refine TT_aload_n hK rfl 0 rfl dX0_lay_177 ?_
        refine gf_X0_37 hK (by decide) rfl (v := E) (rd_ ((sOf_ne _ _ (by decide)).trans ((sOf_ne _ _ (by decide)).trans ((sOf_ne _ _ (by decide)).trans ((sOf_ne _ _ (by decide)).trans (sOf_eq _ _ _))))) ((fup_ne _ _ (by decide)).trans ((fup_ne _ _ (by decide)).trans (fup_eq _ _ _)))) dX0_lay_178 ?_
        refine TT_aload_n hK rfl 0 rfl dX0_lay_181 ?_
        refine gf_X0_40 hK (by decide) rfl (v := L) (rd_ ((sOf_ne _ _ (by decide)).trans ((sOf_ne _ _ (by decide)).trans ((sOf_ne _ _ (by decide)).trans ((sOf_ne _ _ (by decide)).trans (sOf_eq _ _ _))))) ((fup_ne _ _ (by decide)).trans (fup_eq _ _ _))) dX0_lay_182 ?_
        refine iv_X0_46 hK (c_X0_sideAfter E L (setO (setO (setO (setO (setO h 45 (fup (fup (fup (fup (h 45) 7 W) 8 E) 9 L) 10 ((3 * L) + 1))) 47 (fsr (h 47) (3 * (L - l + 1) + 1) (3 * L + 1) (fun j => lfS W L j))) 48 (fsr (h 48) (3 * (L - l + 1) + 1) (3 * L + 1) (fun j => tpS E L j))) 49 (fsr (h 49) (3 * (L - l + 1) + 1) (3 * L + 1) (fun j => bwS W L j))) 50 (fsr (h 50) (3 * (L - l + 1) + 1) (3 * L + 1) (fun j => bhS E L j))) (by first | omega | (simp [up, setR] <;> omega)) (by first | omega | (simp [up, setR] <;> omega))) ⟨by decide, by decide⟩ (by decide) rfl rfl (Nat.le_of_ble_eq_true rfl) ⟨by decide, by decide⟩ dX0_lay_185 ?_
        intro r9 h9 hp9
        rw [hp9.1, hp9.2]
        show TT K ly 0 0 188 [(0, vR 45), (1, vI W), (2, vI E), (3, vI L), (4, vI l)] [vI (lft E L), vI (lft W L), vI 0, vI 0, vI 0, vR 45] (setO (setO (setO (setO (setO h 45 (fup (fup (fup (fup (h 45) 7 W) 8 E) 9 L) 10 ((3 * L) + 1))) 47 (fsr (h 47) (3 * (L - l + 1) + 1) (3 * L + 1) (fun j => lfS W L j))) 48 (fsr (h 48) (3 * (L - l + 1) + 1) (3 * L + 1) (fun j => tpS E L j))) 49 (fsr (h 49) (3 * (L - l + 1) + 1) (3 * L + 1) (fun j => bwS W L j))) 50 (fsr (h 50) (3 * (L - l + 1) + 1) (3 * L + 1) (fun j => bhS E L j)))
        have q188_47 : (setO (setO (setO (setO (setO h 45 (fup (fup (fup (fup (h 45) 7 W) 8 E) 9 L) 10 ((3 * L) + 1))) 47 (fsr (h 47) (3 * (L - l + 1) + 1) (3 * L + 1) (fun j => lfS W L j))) 48 (fsr (h 48) (3 * (L - l + 1) + 1) (3 * L + 1) (fun j => tpS E L j))) 49 (fsr (h 49) (3 * (L - l + 1) + 1) (3 * L + 1) (fun j => bwS W L j))) 50 (fsr (h 50) (3 * (L - l + 1) + 1) (3 * L + 1) (fun j => bhS E L j))) 47 = fsr (h 47) (3 * (L - l + 1) + 1) (3 * L + 1) (fun j => lfS W L j) := (sOf_ne _ _ (by decide)).trans ((sOf_ne _ _ (by decide)).trans ((sOf_ne _ _ (by decide)).trans (sOf_eq _ _ _)))
        have q188_48 : (setO (setO (setO (setO (setO h 45 (fup (fup (fup (fup (h 45) 7 W) 8 E) 9 L) 10 ((3 * L) + 1))) 47 (fsr (h 47) (3 * (L - l + 1) + 1) (3 * L + 1) (fun j => lfS W L j))) 48 (fsr (h 48) (3 * (L - l + 1) + 1) (3 * L + 1) (fun j => tpS E L j))) 49 (fsr (h 49) (3 * (L - l + 1) + 1) (3 * L + 1) (fun j => bwS W L j))) 50 (fsr (h 50) (3 * (L - l + 1) + 1) (3 * L + 1) (fun j => bhS E L j))) 48 = fsr (h 48) (3 * (L - l + 1) + 1) (3 * L + 1) (fun j => tpS E L j) := (sOf_ne _ _ (by decide)).trans ((sOf_ne _ _ (by decide)).trans (sOf_eq _ _ _))
        have q188_49 : (setO (setO (setO (setO (setO h 45 (fup (fup (fup (fup (h 45) 7 W) 8 E) 9 L) 10 ((3 * L) + 1))) 47 (fsr (h 47) (3 * (L - l + 1) + 1) (3 * L + 1) (fun j => lfS W L j))) 48 (fsr (h 48) (3 * (L - l + 1) + 1) (3 * L + 1) (fun j => tpS E L j))) 49 (fsr (h 49) (3 * (L - l + 1) + 1) (3 * L + 1) (fun j => bwS W L j))) 50 (fsr (h 50) (3 * (L - l + 1) + 1) (3 * L + 1) (fun j => bhS E L j))) 49 = fsr (h 49) (3 * (L - l + 1) + 1) (3 * L + 1) (fun j => bwS W L j) := (sOf_ne _ _ (by decide)).trans (sOf_eq _ _ _)
        have q188_50 : (setO (setO (setO (setO (setO h 45 (fup (fup (fup (fup (h 45) 7 W) 8 E) 9 L) 10 ((3 * L) + 1))) 47 (fsr (h 47) (3 * (L - l + 1) + 1) (3 * L + 1) (fun j => lfS W L j))) 48 (fsr (h 48) (3 * (L - l + 1) + 1) (3 * L + 1) (fun j => tpS E L j))) 49 (fsr (h 49) (3 * (L - l + 1) + 1) (3 * L + 1) (fun j => bwS W L j))) 50 (fsr (h 50) (3 * (L - l + 1) + 1) (3 * L + 1) (fun j => bhS E L j))) 50 = fsr (h 50) (3 * (L - l + 1) + 1) (3 * L + 1) (fun j => bhS E L j) := sOf_eq _ _ _
        refine iv_X0_50 hK (c_X0_layBand_45 0 0 0 (lft W L) (lft E L) (setO (setO (setO (setO (setO h 45 (fup (fup (fup (fup (h 45) 7 W) 8 E) 9 L) 10 ((3 * L) + 1))) 47 (fsr (h 47) (3 * (L - l + 1) + 1) (3 * L + 1) (fun j => lfS W L j))) 48 (fsr (h 48) (3 * (L - l + 1) + 1) (3 * L + 1) (fun j => tpS E L j))) 49 (fsr (h 49) (3 * (L - l + 1) + 1) (3 * L + 1) (fun j => bwS W L j))) 50 (fsr (h 50) (3 * (L - l + 1) + 1) (3 * L + 1) (fun j => bhS E L j))) (by first | omega | (simp [up, setR] <;> omega))) (by decide) rfl ⟨by decide, by decide⟩ (by decide) rfl rfl (Nat.le_of_ble_eq_true rfl) ⟨by decide, by decide⟩ dX0_lay_188 ?_
        intro r9 h9 hp9
        rw [q188_47, q188_48, q188_49, q188_50] at hp9
        rw [hp9.1, hp9.2]
        refine TT_hp (h' := setO (setO (setO (setO (setO h 45 (fup (fup (fup (fup (h 45) 7 W) 8 E) 9 L) 10 ((3 * L) + 1))) 47 (fup (fsr (h 47) (3 * (L - l + 1) + 1) (3 * L + 1) (fun j => lfS W L j)) 0 0)) 48 (fup (fsr (h 48) (3 * (L - l + 1) + 1) (3 * L + 1) (fun j => tpS E L j)) 0 0)) 49 (fup (fsr (h 49) (3 * (L - l + 1) + 1) (3 * L + 1) (fun j => bwS W L j)) 0 (lft W L))) 50 (fup (fsr (h 50) (3 * (L - l + 1) + 1) (3 * L + 1) (fun j => bhS E L j)) 0 (lft E L))) ((setO_cg ((setO_cg ((setO_cg ((setO_comm _ _ _ (by decide)).trans (setO_cg ((setO_comm _ _ _ (by decide)).trans (setO_cg ((setO_comm _ _ _ (by decide)).trans (setO_cg (setO_same _ _ _ _) rfl)) rfl)) rfl)) rfl).trans ((setO_comm _ _ _ (by decide)).trans (setO_cg ((setO_comm _ _ _ (by decide)).trans (setO_cg (setO_same _ _ _ _) rfl)) rfl))) rfl).trans ((setO_comm _ _ _ (by decide)).trans (setO_cg (setO_same _ _ _ _) rfl))) rfl).trans (setO_same _ _ _ _)) ?_
        show TT K ly 0 0 191 [(0, vR 45), (1, vI W), (2, vI E), (3, vI L), (4, vI l)] [] (setO (setO (setO (setO (setO h 45 (fup (fup (fup (fup (h 45) 7 W) 8 E) 9 L) 10 ((3 * L) + 1))) 47 (fup (fsr (h 47) (3 * (L - l + 1) + 1) (3 * L + 1) (fun j => lfS W L j)) 0 0)) 48 (fup (fsr (h 48) (3 * (L - l + 1) + 1) (3 * L + 1) (fun j => tpS E L j)) 0 0)) 49 (fup (fsr (h 49) (3 * (L - l + 1) + 1) (3 * L + 1) (fun j => bwS W L j)) 0 (lft W L))) 50 (fup (fsr (h 50) (3 * (L - l + 1) + 1) (3 * L + 1) (fun j => bhS E L j)) 0 (lft E L)))
        refine TT_vret hK hQ ?_ dX0_lay_191
        exact ⟨rfl, setO_cg (setO_cg (setO_cg (setO_cg (setO_cg rfl (by rfl)) (by rw [show l = L + 1 by omega]; exact fsr_pre1 _ (by omega) (by omega) rfl)) (by rw [show l = L + 1 by omega]; exact fsr_pre1 _ (by omega) (by omega) rfl)) (by rw [show l = L + 1 by omega]; exact fsr_pre1 _ (by omega) (by omega) rfl)) (by rw [show l = L + 1 by omega]; exact fsr_pre1 _ (by omega) (by omega) rfl)⟩
      · refine TT_iconst hK dX0_lay_39 ?_
        refine TT_aload_n hK rfl 0 rfl dX0_lay_40 ?_
        refine gf_X0_40 hK (by decide) rfl (v := L) (rd_ ((sOf_ne _ _ (by decide)).trans ((sOf_ne _ _ (by decide)).trans ((sOf_ne _ _ (by decide)).trans ((sOf_ne _ _ (by decide)).trans (sOf_eq _ _ _))))) ((fup_ne _ _ (by decide)).trans (fup_eq _ _ _))) dX0_lay_41 ?_
        refine TT_iload hK 4 rfl dX0_lay_44 ?_
        refine TT_isub hK dX0_lay_46 ?_
        refine TT_imul hK dX0_lay_47 ?_
        refine TT_iconst hK dX0_lay_48 ?_
        refine TT_iadd hK dX0_lay_49 ?_
        refine TT_istore hK (lv' := [(5, vI ((3 * (L - l)) + 1)), (0, vR 45), (1, vI W), (2, vI E), (3, vI L), (4, vI l)]) (by decide) rfl dX0_lay_50 ?_
        refine TT_aload_n hK rfl 1 rfl dX0_lay_52 ?_
        refine gf_X0_33 hK (by decide) rfl (v := W) (rd_ ((sOf_ne _ _ (by decide)).trans ((sOf_ne _ _ (by decide)).trans ((sOf_ne _ _ (by decide)).trans ((sOf_ne _ _ (by decide)).trans (sOf_eq _ _ _))))) ((fup_ne _ _ (by decide)).trans ((fup_ne _ _ (by decide)).trans ((fup_ne _ _ (by decide)).trans (fup_eq _ _ _))))) dX0_lay_53 ?_
        refine TT_iload hK 5 rfl dX0_lay_56 ?_
        refine TT_iconst hK dX0_lay_58 ?_
        refine TT_isub hK dX0_lay_59 ?_
        refine iv_X0_46 hK (c_X0_sideAfter W (l - 1) (setO (setO (setO (setO (setO h 45 (fup (fup (fup (fup (h 45) 7 W) 8 E) 9 L) 10 ((3 * L) + 1))) 47 (fsr (h 47) (3 * (L - l + 1) + 1) (3 * L + 1) (fun j => lfS W L j))) 48 (fsr (h 48) (3 * (L - l + 1) + 1) (3 * L + 1) (fun j => tpS E L j))) 49 (fsr (h 49) (3 * (L - l + 1) + 1) (3 * L + 1) (fun j => bwS W L j))) 50 (fsr (h 50) (3 * (L - l + 1) + 1) (3 * L + 1) (fun j => bhS E L j))) (by first | omega | (simp [up, setR] <;> omega)) (by first | omega | (simp [up, setR] <;> omega))) ⟨by decide, by decide⟩ (by decide) rfl rfl (Nat.le_of_ble_eq_true rfl) ⟨by decide, by decide⟩ dX0_lay_60 ?_
        intro r9 h9 hp9
        rw [hp9.1, hp9.2]
        show TT K ly 0 0 63 [(5, vI ((3 * (L - l)) + 1)), (0, vR 45), (1, vI W), (2, vI E), (3, vI L), (4, vI l)] [vI (lft W (l - 1))] (setO (setO (setO (setO (setO h 45 (fup (fup (fup (fup (h 45) 7 W) 8 E) 9 L) 10 ((3 * L) + 1))) 47 (fsr (h 47) (3 * (L - l + 1) + 1) (3 * L + 1) (fun j => lfS W L j))) 48 (fsr (h 48) (3 * (L - l + 1) + 1) (3 * L + 1) (fun j => tpS E L j))) 49 (fsr (h 49) (3 * (L - l + 1) + 1) (3 * L + 1) (fun j => bwS W L j))) 50 (fsr (h 50) (3 * (L - l + 1) + 1) (3 * L + 1) (fun j => bhS E L j)))
        refine TT_istore hK (lv' := [(6, vI (lft W (l - 1))), (5, vI ((3 * (L - l)) + 1)), (0, vR 45), (1, vI W), (2, vI E), (3, vI L), (4, vI l)]) (by decide) rfl dX0_lay_63 ?_
        refine TT_aload_n hK rfl 2 rfl dX0_lay_65 ?_
        refine gf_X0_37 hK (by decide) rfl (v := E) (rd_ ((sOf_ne _ _ (by decide)).trans ((sOf_ne _ _ (by decide)).trans ((sOf_ne _ _ (by decide)).trans ((sOf_ne _ _ (by decide)).trans (sOf_eq _ _ _))))) ((fup_ne _ _ (by decide)).trans ((fup_ne _ _ (by decide)).trans (fup_eq _ _ _)))) dX0_lay_66 ?_
        refine TT_iload hK 6 rfl dX0_lay_69 ?_
        refine TT_iconst hK dX0_lay_71 ?_
        refine TT_isub hK dX0_lay_72 ?_
        refine iv_X0_46 hK (c_X0_sideAfter E (l - 1) (setO (setO (setO (setO (setO h 45 (fup (fup (fup (fup (h 45) 7 W) 8 E) 9 L) 10 ((3 * L) + 1))) 47 (fsr (h 47) (3 * (L - l + 1) + 1) (3 * L + 1) (fun j => lfS W L j))) 48 (fsr (h 48) (3 * (L - l + 1) + 1) (3 * L + 1) (fun j => tpS E L j))) 49 (fsr (h 49) (3 * (L - l + 1) + 1) (3 * L + 1) (fun j => bwS W L j))) 50 (fsr (h 50) (3 * (L - l + 1) + 1) (3 * L + 1) (fun j => bhS E L j))) (by first | omega | (simp [up, setR] <;> omega)) (by first | omega | (simp [up, setR] <;> omega))) ⟨by decide, by decide⟩ (by decide) rfl rfl (Nat.le_of_ble_eq_true rfl) ⟨by decide, by decide⟩ dX0_lay_73 ?_
        intro r9 h9 hp9
        rw [hp9.1, hp9.2]
        show TT K ly 0 0 76 [(6, vI (lft W (l - 1))), (5, vI ((3 * (L - l)) + 1)), (0, vR 45), (1, vI W), (2, vI E), (3, vI L), (4, vI l)] [vI (lft E (l - 1))] (setO (setO (setO (setO (setO h 45 (fup (fup (fup (fup (h 45) 7 W) 8 E) 9 L) 10 ((3 * L) + 1))) 47 (fsr (h 47) (3 * (L - l + 1) + 1) (3 * L + 1) (fun j => lfS W L j))) 48 (fsr (h 48) (3 * (L - l + 1) + 1) (3 * L + 1) (fun j => tpS E L j))) 49 (fsr (h 49) (3 * (L - l + 1) + 1) (3 * L + 1) (fun j => bwS W L j))) 50 (fsr (h 50) (3 * (L - l + 1) + 1) (3 * L + 1) (fun j => bhS E L j)))
        refine TT_istore hK (lv' := [(7, vI (lft E (l - 1))), (6, vI (lft W (l - 1))), (5, vI ((3 * (L - l)) + 1)), (0, vR 45), (1, vI W), (2, vI E), (3, vI L), (4, vI l)]) (by decide) rfl dX0_lay_76 ?_
        refine TT_aload_n hK rfl 3 rfl dX0_lay_78 ?_
        refine gf_X0_33 hK (by decide) rfl (v := W) (rd_ ((sOf_ne _ _ (by decide)).trans ((sOf_ne _ _ (by decide)).trans ((sOf_ne _ _ (by decide)).trans ((sOf_ne _ _ (by decide)).trans (sOf_eq _ _ _))))) ((fup_ne _ _ (by decide)).trans ((fup_ne _ _ (by decide)).trans ((fup_ne _ _ (by decide)).trans (fup_eq _ _ _))))) dX0_lay_79 ?_
        refine TT_iload hK 7 rfl dX0_lay_82 ?_
        refine iv_X0_46 hK (c_X0_sideAfter W l (setO (setO (setO (setO (setO h 45 (fup (fup (fup (fup (h 45) 7 W) 8 E) 9 L) 10 ((3 * L) + 1))) 47 (fsr (h 47) (3 * (L - l + 1) + 1) (3 * L + 1) (fun j => lfS W L j))) 48 (fsr (h 48) (3 * (L - l + 1) + 1) (3 * L + 1) (fun j => tpS E L j))) 49 (fsr (h 49) (3 * (L - l + 1) + 1) (3 * L + 1) (fun j => bwS W L j))) 50 (fsr (h 50) (3 * (L - l + 1) + 1) (3 * L + 1) (fun j => bhS E L j))) (by first | omega | (simp [up, setR] <;> omega)) (by first | omega | (simp [up, setR] <;> omega))) ⟨by decide, by decide⟩ (by decide) rfl rfl (Nat.le_of_ble_eq_true rfl) ⟨by decide, by decide⟩ dX0_lay_84 ?_
        intro r9 h9 hp9
        rw [hp9.1, hp9.2]
        show TT K ly 0 0 87 [(7, vI (lft E (l - 1))), (6, vI (lft W (l - 1))), (5, vI ((3 * (L - l)) + 1)), (0, vR 45), (1, vI W), (2, vI E), (3, vI L), (4, vI l)] [vI (lft W l)] (setO (setO (setO (setO (setO h 45 (fup (fup (fup (fup (h 45) 7 W) 8 E) 9 L) 10 ((3 * L) + 1))) 47 (fsr (h 47) (3 * (L - l + 1) + 1) (3 * L + 1) (fun j => lfS W L j))) 48 (fsr (h 48) (3 * (L - l + 1) + 1) (3 * L + 1) (fun j => tpS E L j))) 49 (fsr (h 49) (3 * (L - l + 1) + 1) (3 * L + 1) (fun j => bwS W L j))) 50 (fsr (h 50) (3 * (L - l + 1) + 1) (3 * L + 1) (fun j => bhS E L j)))
        refine TT_istore hK (lv' := [(8, vI (lft W l)), (7, vI (lft E (l - 1))), (6, vI (lft W (l - 1))), (5, vI ((3 * (L - l)) + 1)), (0, vR 45), (1, vI W), (2, vI E), (3, vI L), (4, vI l)]) (by decide) rfl dX0_lay_87 ?_
        refine TT_aload_n hK rfl 4 rfl dX0_lay_89 ?_
        refine gf_X0_37 hK (by decide) rfl (v := E) (rd_ ((sOf_ne _ _ (by decide)).trans ((sOf_ne _ _ (by decide)).trans ((sOf_ne _ _ (by decide)).trans ((sOf_ne _ _ (by decide)).trans (sOf_eq _ _ _))))) ((fup_ne _ _ (by decide)).trans ((fup_ne _ _ (by decide)).trans (fup_eq _ _ _)))) dX0_lay_90 ?_
        refine TT_iload hK 8 rfl dX0_lay_93 ?_
        refine iv_X0_46 hK (c_X0_sideAfter E l (setO (setO (setO (setO (setO h 45 (fup (fup (fup (fup (h 45) 7 W) 8 E) 9 L) 10 ((3 * L) + 1))) 47 (fsr (h 47) (3 * (L - l + 1) + 1) (3 * L + 1) (fun j => lfS W L j))) 48 (fsr (h 48) (3 * (L - l + 1) + 1) (3 * L + 1) (fun j => tpS E L j))) 49 (fsr (h 49) (3 * (L - l + 1) + 1) (3 * L + 1) (fun j => bwS W L j))) 50 (fsr (h 50) (3 * (L - l + 1) + 1) (3 * L + 1) (fun j => bhS E L j))) (by first | omega | (simp [up, setR] <;> omega)) (by first | omega | (simp [up, setR] <;> omega))) ⟨by decide, by decide⟩ (by decide) rfl rfl (Nat.le_of_ble_eq_true rfl) ⟨by decide, by decide⟩ dX0_lay_95 ?_
        intro r9 h9 hp9
        rw [hp9.1, hp9.2]
        show TT K ly 0 0 98 [(8, vI (lft W l)), (7, vI (lft E (l - 1))), (6, vI (lft W (l - 1))), (5, vI ((3 * (L - l)) + 1)), (0, vR 45), (1, vI W), (2, vI E), (3, vI L), (4, vI l)] [vI (lft E l)] (setO (setO (setO (setO (setO h 45 (fup (fup (fup (fup (h 45) 7 W) 8 E) 9 L) 10 ((3 * L) + 1))) 47 (fsr (h 47) (3 * (L - l + 1) + 1) (3 * L + 1) (fun j => lfS W L j))) 48 (fsr (h 48) (3 * (L - l + 1) + 1) (3 * L + 1) (fun j => tpS E L j))) 49 (fsr (h 49) (3 * (L - l + 1) + 1) (3 * L + 1) (fun j => bwS W L j))) 50 (fsr (h 50) (3 * (L - l + 1) + 1) (3 * L + 1) (fun j => bhS E L j)))
        refine TT_istore hK (lv' := [(9, vI (lft E l)), (8, vI (lft W l)), (7, vI (lft E (l - 1))), (6, vI (lft W (l - 1))), (5, vI ((3 * (L - l)) + 1)), (0, vR 45), (1, vI W), (2, vI E), (3, vI L), (4, vI l)]) (by decide) rfl dX0_lay_98 ?_
        have g0 := lft_r hW (l := l) (by omega)
        have g1 := lft_r hE (l := l) (by omega)
        refine TT_aload_n hK rfl 5 rfl dX0_lay_100 ?_
        refine TT_iload hK 4 rfl dX0_lay_101 ?_
        refine TT_iload hK 1 rfl dX0_lay_103 ?_
        refine TT_iconst hK dX0_lay_105 ?_
        refine TT_iload hK 3 rfl dX0_lay_106 ?_
        refine TT_iload hK 1 rfl dX0_lay_108 ?_
        refine TT_isub hK dX0_lay_110 ?_
        refine TT_iload hK 0 rfl dX0_lay_111 ?_
        have q113_47 : (setO (setO (setO (setO (setO h 45 (fup (fup (fup (fup (h 45) 7 W) 8 E) 9 L) 10 ((3 * L) + 1))) 47 (fsr (h 47) (3 * (L - l + 1) + 1) (3 * L + 1) (fun j => lfS W L j))) 48 (fsr (h 48) (3 * (L - l + 1) + 1) (3 * L + 1) (fun j => tpS E L j))) 49 (fsr (h 49) (3 * (L - l + 1) + 1) (3 * L + 1) (fun j => bwS W L j))) 50 (fsr (h 50) (3 * (L - l + 1) + 1) (3 * L + 1) (fun j => bhS E L j))) 47 = fsr (h 47) (3 * (L - l + 1) + 1) (3 * L + 1) (fun j => lfS W L j) := (sOf_ne _ _ (by decide)).trans ((sOf_ne _ _ (by decide)).trans ((sOf_ne _ _ (by decide)).trans (sOf_eq _ _ _)))
        have q113_48 : (setO (setO (setO (setO (setO h 45 (fup (fup (fup (fup (h 45) 7 W) 8 E) 9 L) 10 ((3 * L) + 1))) 47 (fsr (h 47) (3 * (L - l + 1) + 1) (3 * L + 1) (fun j => lfS W L j))) 48 (fsr (h 48) (3 * (L - l + 1) + 1) (3 * L + 1) (fun j => tpS E L j))) 49 (fsr (h 49) (3 * (L - l + 1) + 1) (3 * L + 1) (fun j => bwS W L j))) 50 (fsr (h 50) (3 * (L - l + 1) + 1) (3 * L + 1) (fun j => bhS E L j))) 48 = fsr (h 48) (3 * (L - l + 1) + 1) (3 * L + 1) (fun j => tpS E L j) := (sOf_ne _ _ (by decide)).trans ((sOf_ne _ _ (by decide)).trans (sOf_eq _ _ _))
        have q113_49 : (setO (setO (setO (setO (setO h 45 (fup (fup (fup (fup (h 45) 7 W) 8 E) 9 L) 10 ((3 * L) + 1))) 47 (fsr (h 47) (3 * (L - l + 1) + 1) (3 * L + 1) (fun j => lfS W L j))) 48 (fsr (h 48) (3 * (L - l + 1) + 1) (3 * L + 1) (fun j => tpS E L j))) 49 (fsr (h 49) (3 * (L - l + 1) + 1) (3 * L + 1) (fun j => bwS W L j))) 50 (fsr (h 50) (3 * (L - l + 1) + 1) (3 * L + 1) (fun j => bhS E L j))) 49 = fsr (h 49) (3 * (L - l + 1) + 1) (3 * L + 1) (fun j => bwS W L j) := (sOf_ne _ _ (by decide)).trans (sOf_eq _ _ _)
        have q113_50 : (setO (setO (setO (setO (setO h 45 (fup (fup (fup (fup (h 45) 7 W) 8 E) 9 L) 10 ((3 * L) + 1))) 47 (fsr (h 47) (3 * (L - l + 1) + 1) (3 * L + 1) (fun j => lfS W L j))) 48 (fsr (h 48) (3 * (L - l + 1) + 1) (3 * L + 1) (fun j => tpS E L j))) 49 (fsr (h 49) (3 * (L - l + 1) + 1) (3 * L + 1) (fun j => bwS W L j))) 50 (fsr (h 50) (3 * (L - l + 1) + 1) (3 * L + 1) (fun j => bhS E L j))) 50 = fsr (h 50) (3 * (L - l + 1) + 1) (3 * L + 1) (fun j => bhS E L j) := sOf_eq _ _ _
        refine iv_X0_50 hK (c_X0_layBand_45 ((3 * (L - l)) + 1) (lft W l) 0 ((lft W (l - 1)) - (lft W l)) (lft E l) (setO (setO (setO (setO (setO h 45 (fup (fup (fup (fup (h 45) 7 W) 8 E) 9 L) 10 ((3 * L) + 1))) 47 (fsr (h 47) (3 * (L - l + 1) + 1) (3 * L + 1) (fun j => lfS W L j))) 48 (fsr (h 48) (3 * (L - l + 1) + 1) (3 * L + 1) (fun j => tpS E L j))) 49 (fsr (h 49) (3 * (L - l + 1) + 1) (3 * L + 1) (fun j => bwS W L j))) 50 (fsr (h 50) (3 * (L - l + 1) + 1) (3 * L + 1) (fun j => bhS E L j))) (by first | omega | (simp [up, setR] <;> omega))) (by decide) rfl ⟨by decide, by decide⟩ (by decide) rfl rfl (Nat.le_of_ble_eq_true rfl) ⟨by decide, by decide⟩ dX0_lay_113 ?_
        intro r9 h9 hp9
        rw [q113_47, q113_48, q113_49, q113_50] at hp9
        rw [hp9.1, hp9.2]
        refine TT_hp (h' := setO (setO (setO (setO (setO h 45 (fup (fup (fup (fup (h 45) 7 W) 8 E) 9 L) 10 ((3 * L) + 1))) 47 (fup (fsr (h 47) (3 * (L - l + 1) + 1) (3 * L + 1) (fun j => lfS W L j)) ((3 * (L - l)) + 1) (lft W l))) 48 (fup (fsr (h 48) (3 * (L - l + 1) + 1) (3 * L + 1) (fun j => tpS E L j)) ((3 * (L - l)) + 1) 0)) 49 (fup (fsr (h 49) (3 * (L - l + 1) + 1) (3 * L + 1) (fun j => bwS W L j)) ((3 * (L - l)) + 1) ((lft W (l - 1)) - (lft W l)))) 50 (fup (fsr (h 50) (3 * (L - l + 1) + 1) (3 * L + 1) (fun j => bhS E L j)) ((3 * (L - l)) + 1) (lft E l))) ((setO_cg ((setO_cg ((setO_cg ((setO_comm _ _ _ (by decide)).trans (setO_cg ((setO_comm _ _ _ (by decide)).trans (setO_cg ((setO_comm _ _ _ (by decide)).trans (setO_cg (setO_same _ _ _ _) rfl)) rfl)) rfl)) rfl).trans ((setO_comm _ _ _ (by decide)).trans (setO_cg ((setO_comm _ _ _ (by decide)).trans (setO_cg (setO_same _ _ _ _) rfl)) rfl))) rfl).trans ((setO_comm _ _ _ (by decide)).trans (setO_cg (setO_same _ _ _ _) rfl))) rfl).trans (setO_same _ _ _ _)) ?_
        show TT K ly 0 0 116 [(9, vI (lft E l)), (8, vI (lft W l)), (7, vI (lft E (l - 1))), (6, vI (lft W (l - 1))), (5, vI ((3 * (L - l)) + 1)), (0, vR 45), (1, vI W), (2, vI E), (3, vI L), (4, vI l)] [] (setO (setO (setO (setO (setO h 45 (fup (fup (fup (fup (h 45) 7 W) 8 E) 9 L) 10 ((3 * L) + 1))) 47 (fup (fsr (h 47) (3 * (L - l + 1) + 1) (3 * L + 1) (fun j => lfS W L j)) ((3 * (L - l)) + 1) (lft W l))) 48 (fup (fsr (h 48) (3 * (L - l + 1) + 1) (3 * L + 1) (fun j => tpS E L j)) ((3 * (L - l)) + 1) 0)) 49 (fup (fsr (h 49) (3 * (L - l + 1) + 1) (3 * L + 1) (fun j => bwS W L j)) ((3 * (L - l)) + 1) ((lft W (l - 1)) - (lft W l)))) 50 (fup (fsr (h 50) (3 * (L - l + 1) + 1) (3 * L + 1) (fun j => bhS E L j)) ((3 * (L - l)) + 1) (lft E l)))
        refine TT_aload_n hK rfl 5 rfl dX0_lay_116 ?_
        refine TT_iload hK 4 rfl dX0_lay_117 ?_
        refine TT_iconst hK dX0_lay_119 ?_
        refine TT_iadd hK dX0_lay_120 ?_
        refine TT_iconst hK dX0_lay_121 ?_
        refine TT_iload hK 0 rfl dX0_lay_122 ?_
        refine TT_iload hK 1 rfl dX0_lay_124 ?_
        refine TT_iload hK 2 rfl dX0_lay_126 ?_
        refine TT_iload hK 0 rfl dX0_lay_128 ?_
        refine TT_isub hK dX0_lay_130 ?_
        have q131_47 : (setO (setO (setO (setO (setO h 45 (fup (fup (fup (fup (h 45) 7 W) 8 E) 9 L) 10 ((3 * L) + 1))) 47 (fup (fsr (h 47) (3 * (L - l + 1) + 1) (3 * L + 1) (fun j => lfS W L j)) ((3 * (L - l)) + 1) (lft W l))) 48 (fup (fsr (h 48) (3 * (L - l + 1) + 1) (3 * L + 1) (fun j => tpS E L j)) ((3 * (L - l)) + 1) 0)) 49 (fup (fsr (h 49) (3 * (L - l + 1) + 1) (3 * L + 1) (fun j => bwS W L j)) ((3 * (L - l)) + 1) ((lft W (l - 1)) - (lft W l)))) 50 (fup (fsr (h 50) (3 * (L - l + 1) + 1) (3 * L + 1) (fun j => bhS E L j)) ((3 * (L - l)) + 1) (lft E l))) 47 = fup (fsr (h 47) (3 * (L - l + 1) + 1) (3 * L + 1) (fun j => lfS W L j)) ((3 * (L - l)) + 1) (lft W l) := (sOf_ne _ _ (by decide)).trans ((sOf_ne _ _ (by decide)).trans ((sOf_ne _ _ (by decide)).trans (sOf_eq _ _ _)))
        have q131_48 : (setO (setO (setO (setO (setO h 45 (fup (fup (fup (fup (h 45) 7 W) 8 E) 9 L) 10 ((3 * L) + 1))) 47 (fup (fsr (h 47) (3 * (L - l + 1) + 1) (3 * L + 1) (fun j => lfS W L j)) ((3 * (L - l)) + 1) (lft W l))) 48 (fup (fsr (h 48) (3 * (L - l + 1) + 1) (3 * L + 1) (fun j => tpS E L j)) ((3 * (L - l)) + 1) 0)) 49 (fup (fsr (h 49) (3 * (L - l + 1) + 1) (3 * L + 1) (fun j => bwS W L j)) ((3 * (L - l)) + 1) ((lft W (l - 1)) - (lft W l)))) 50 (fup (fsr (h 50) (3 * (L - l + 1) + 1) (3 * L + 1) (fun j => bhS E L j)) ((3 * (L - l)) + 1) (lft E l))) 48 = fup (fsr (h 48) (3 * (L - l + 1) + 1) (3 * L + 1) (fun j => tpS E L j)) ((3 * (L - l)) + 1) 0 := (sOf_ne _ _ (by decide)).trans ((sOf_ne _ _ (by decide)).trans (sOf_eq _ _ _))
        have q131_49 : (setO (setO (setO (setO (setO h 45 (fup (fup (fup (fup (h 45) 7 W) 8 E) 9 L) 10 ((3 * L) + 1))) 47 (fup (fsr (h 47) (3 * (L - l + 1) + 1) (3 * L + 1) (fun j => lfS W L j)) ((3 * (L - l)) + 1) (lft W l))) 48 (fup (fsr (h 48) (3 * (L - l + 1) + 1) (3 * L + 1) (fun j => tpS E L j)) ((3 * (L - l)) + 1) 0)) 49 (fup (fsr (h 49) (3 * (L - l + 1) + 1) (3 * L + 1) (fun j => bwS W L j)) ((3 * (L - l)) + 1) ((lft W (l - 1)) - (lft W l)))) 50 (fup (fsr (h 50) (3 * (L - l + 1) + 1) (3 * L + 1) (fun j => bhS E L j)) ((3 * (L - l)) + 1) (lft E l))) 49 = fup (fsr (h 49) (3 * (L - l + 1) + 1) (3 * L + 1) (fun j => bwS W L j)) ((3 * (L - l)) + 1) ((lft W (l - 1)) - (lft W l)) := (sOf_ne _ _ (by decide)).trans (sOf_eq _ _ _)
        have q131_50 : (setO (setO (setO (setO (setO h 45 (fup (fup (fup (fup (h 45) 7 W) 8 E) 9 L) 10 ((3 * L) + 1))) 47 (fup (fsr (h 47) (3 * (L - l + 1) + 1) (3 * L + 1) (fun j => lfS W L j)) ((3 * (L - l)) + 1) (lft W l))) 48 (fup (fsr (h 48) (3 * (L - l + 1) + 1) (3 * L + 1) (fun j => tpS E L j)) ((3 * (L - l)) + 1) 0)) 49 (fup (fsr (h 49) (3 * (L - l + 1) + 1) (3 * L + 1) (fun j => bwS W L j)) ((3 * (L - l)) + 1) ((lft W (l - 1)) - (lft W l)))) 50 (fup (fsr (h 50) (3 * (L - l + 1) + 1) (3 * L + 1) (fun j => bhS E L j)) ((3 * (L - l)) + 1) (lft E l))) 50 = fup (fsr (h 50) (3 * (L - l + 1) + 1) (3 * L + 1) (fun j => bhS E L j)) ((3 * (L - l)) + 1) (lft E l) := sOf_eq _ _ _
        refine iv_X0_50 hK (c_X0_layBand_45 (((3 * (L - l)) + 1) + 1) 0 (lft E l) (lft W l) ((lft E (l - 1)) - (lft E l)) (setO (setO (setO (setO (setO h 45 (fup (fup (fup (fup (h 45) 7 W) 8 E) 9 L) 10 ((3 * L) + 1))) 47 (fup (fsr (h 47) (3 * (L - l + 1) + 1) (3 * L + 1) (fun j => lfS W L j)) ((3 * (L - l)) + 1) (lft W l))) 48 (fup (fsr (h 48) (3 * (L - l + 1) + 1) (3 * L + 1) (fun j => tpS E L j)) ((3 * (L - l)) + 1) 0)) 49 (fup (fsr (h 49) (3 * (L - l + 1) + 1) (3 * L + 1) (fun j => bwS W L j)) ((3 * (L - l)) + 1) ((lft W (l - 1)) - (lft W l)))) 50 (fup (fsr (h 50) (3 * (L - l + 1) + 1) (3 * L + 1) (fun j => bhS E L j)) ((3 * (L - l)) + 1) (lft E l))) (by first | omega | (simp [up, setR] <;> omega))) (by decide) rfl ⟨by decide, by decide⟩ (by decide) rfl rfl (Nat.le_of_ble_eq_true rfl) ⟨by decide, by decide⟩ dX0_lay_131 ?_
        intro r9 h9 hp9
        rw [q131_47, q131_48, q131_49, q131_50] at hp9
        rw [hp9.1, hp9.2]
        refine TT_hp (h' := setO (setO (setO (setO (setO h 45 (fup (fup (fup (fup (h 45) 7 W) 8 E) 9 L) 10 ((3 * L) + 1))) 47 (fup (fup (fsr (h 47) (3 * (L - l + 1) + 1) (3 * L + 1) (fun j => lfS W L j)) ((3 * (L - l)) + 1) (lft W l)) (((3 * (L - l)) + 1) + 1) 0)) 48 (fup (fup (fsr (h 48) (3 * (L - l + 1) + 1) (3 * L + 1) (fun j => tpS E L j)) ((3 * (L - l)) + 1) 0) (((3 * (L - l)) + 1) + 1) (lft E l))) 49 (fup (fup (fsr (h 49) (3 * (L - l + 1) + 1) (3 * L + 1) (fun j => bwS W L j)) ((3 * (L - l)) + 1) ((lft W (l - 1)) - (lft W l))) (((3 * (L - l)) + 1) + 1) (lft W l))) 50 (fup (fup (fsr (h 50) (3 * (L - l + 1) + 1) (3 * L + 1) (fun j => bhS E L j)) ((3 * (L - l)) + 1) (lft E l)) (((3 * (L - l)) + 1) + 1) ((lft E (l - 1)) - (lft E l)))) ((setO_cg ((setO_cg ((setO_cg ((setO_comm _ _ _ (by decide)).trans (setO_cg ((setO_comm _ _ _ (by decide)).trans (setO_cg ((setO_comm _ _ _ (by decide)).trans (setO_cg (setO_same _ _ _ _) rfl)) rfl)) rfl)) rfl).trans ((setO_comm _ _ _ (by decide)).trans (setO_cg ((setO_comm _ _ _ (by decide)).trans (setO_cg (setO_same _ _ _ _) rfl)) rfl))) rfl).trans ((setO_comm _ _ _ (by decide)).trans (setO_cg (setO_same _ _ _ _) rfl))) rfl).trans (setO_same _ _ _ _)) ?_
        show TT K ly 0 0 134 [(9, vI (lft E l)), (8, vI (lft W l)), (7, vI (lft E (l - 1))), (6, vI (lft W (l - 1))), (5, vI ((3 * (L - l)) + 1)), (0, vR 45), (1, vI W), (2, vI E), (3, vI L), (4, vI l)] [] (setO (setO (setO (setO (setO h 45 (fup (fup (fup (fup (h 45) 7 W) 8 E) 9 L) 10 ((3 * L) + 1))) 47 (fup (fup (fsr (h 47) (3 * (L - l + 1) + 1) (3 * L + 1) (fun j => lfS W L j)) ((3 * (L - l)) + 1) (lft W l)) (((3 * (L - l)) + 1) + 1) 0)) 48 (fup (fup (fsr (h 48) (3 * (L - l + 1) + 1) (3 * L + 1) (fun j => tpS E L j)) ((3 * (L - l)) + 1) 0) (((3 * (L - l)) + 1) + 1) (lft E l))) 49 (fup (fup (fsr (h 49) (3 * (L - l + 1) + 1) (3 * L + 1) (fun j => bwS W L j)) ((3 * (L - l)) + 1) ((lft W (l - 1)) - (lft W l))) (((3 * (L - l)) + 1) + 1) (lft W l))) 50 (fup (fup (fsr (h 50) (3 * (L - l + 1) + 1) (3 * L + 1) (fun j => bhS E L j)) ((3 * (L - l)) + 1) (lft E l)) (((3 * (L - l)) + 1) + 1) ((lft E (l - 1)) - (lft E l))))
        refine TT_aload_n hK rfl 5 rfl dX0_lay_134 ?_
        refine TT_iload hK 4 rfl dX0_lay_135 ?_
        refine TT_iconst hK dX0_lay_137 ?_
        refine TT_iadd hK dX0_lay_138 ?_
        refine TT_iload hK 1 rfl dX0_lay_139 ?_
        refine TT_iload hK 0 rfl dX0_lay_141 ?_
        refine TT_iload hK 3 rfl dX0_lay_143 ?_
        refine TT_iload hK 1 rfl dX0_lay_145 ?_
        refine TT_isub hK dX0_lay_147 ?_
        refine TT_iload hK 2 rfl dX0_lay_148 ?_
        refine TT_iload hK 0 rfl dX0_lay_150 ?_
        refine TT_isub hK dX0_lay_152 ?_
        have q153_47 : (setO (setO (setO (setO (setO h 45 (fup (fup (fup (fup (h 45) 7 W) 8 E) 9 L) 10 ((3 * L) + 1))) 47 (fup (fup (fsr (h 47) (3 * (L - l + 1) + 1) (3 * L + 1) (fun j => lfS W L j)) ((3 * (L - l)) + 1) (lft W l)) (((3 * (L - l)) + 1) + 1) 0)) 48 (fup (fup (fsr (h 48) (3 * (L - l + 1) + 1) (3 * L + 1) (fun j => tpS E L j)) ((3 * (L - l)) + 1) 0) (((3 * (L - l)) + 1) + 1) (lft E l))) 49 (fup (fup (fsr (h 49) (3 * (L - l + 1) + 1) (3 * L + 1) (fun j => bwS W L j)) ((3 * (L - l)) + 1) ((lft W (l - 1)) - (lft W l))) (((3 * (L - l)) + 1) + 1) (lft W l))) 50 (fup (fup (fsr (h 50) (3 * (L - l + 1) + 1) (3 * L + 1) (fun j => bhS E L j)) ((3 * (L - l)) + 1) (lft E l)) (((3 * (L - l)) + 1) + 1) ((lft E (l - 1)) - (lft E l)))) 47 = fup (fup (fsr (h 47) (3 * (L - l + 1) + 1) (3 * L + 1) (fun j => lfS W L j)) ((3 * (L - l)) + 1) (lft W l)) (((3 * (L - l)) + 1) + 1) 0 := (sOf_ne _ _ (by decide)).trans ((sOf_ne _ _ (by decide)).trans ((sOf_ne _ _ (by decide)).trans (sOf_eq _ _ _)))
        have q153_48 : (setO (setO (setO (setO (setO h 45 (fup (fup (fup (fup (h 45) 7 W) 8 E) 9 L) 10 ((3 * L) + 1))) 47 (fup (fup (fsr (h 47) (3 * (L - l + 1) + 1) (3 * L + 1) (fun j => lfS W L j)) ((3 * (L - l)) + 1) (lft W l)) (((3 * (L - l)) + 1) + 1) 0)) 48 (fup (fup (fsr (h 48) (3 * (L - l + 1) + 1) (3 * L + 1) (fun j => tpS E L j)) ((3 * (L - l)) + 1) 0) (((3 * (L - l)) + 1) + 1) (lft E l))) 49 (fup (fup (fsr (h 49) (3 * (L - l + 1) + 1) (3 * L + 1) (fun j => bwS W L j)) ((3 * (L - l)) + 1) ((lft W (l - 1)) - (lft W l))) (((3 * (L - l)) + 1) + 1) (lft W l))) 50 (fup (fup (fsr (h 50) (3 * (L - l + 1) + 1) (3 * L + 1) (fun j => bhS E L j)) ((3 * (L - l)) + 1) (lft E l)) (((3 * (L - l)) + 1) + 1) ((lft E (l - 1)) - (lft E l)))) 48 = fup (fup (fsr (h 48) (3 * (L - l + 1) + 1) (3 * L + 1) (fun j => tpS E L j)) ((3 * (L - l)) + 1) 0) (((3 * (L - l)) + 1) + 1) (lft E l) := (sOf_ne _ _ (by decide)).trans ((sOf_ne _ _ (by decide)).trans (sOf_eq _ _ _))
        have q153_49 : (setO (setO (setO (setO (setO h 45 (fup (fup (fup (fup (h 45) 7 W) 8 E) 9 L) 10 ((3 * L) + 1))) 47 (fup (fup (fsr (h 47) (3 * (L - l + 1) + 1) (3 * L + 1) (fun j => lfS W L j)) ((3 * (L - l)) + 1) (lft W l)) (((3 * (L - l)) + 1) + 1) 0)) 48 (fup (fup (fsr (h 48) (3 * (L - l + 1) + 1) (3 * L + 1) (fun j => tpS E L j)) ((3 * (L - l)) + 1) 0) (((3 * (L - l)) + 1) + 1) (lft E l))) 49 (fup (fup (fsr (h 49) (3 * (L - l + 1) + 1) (3 * L + 1) (fun j => bwS W L j)) ((3 * (L - l)) + 1) ((lft W (l - 1)) - (lft W l))) (((3 * (L - l)) + 1) + 1) (lft W l))) 50 (fup (fup (fsr (h 50) (3 * (L - l + 1) + 1) (3 * L + 1) (fun j => bhS E L j)) ((3 * (L - l)) + 1) (lft E l)) (((3 * (L - l)) + 1) + 1) ((lft E (l - 1)) - (lft E l)))) 49 = fup (fup (fsr (h 49) (3 * (L - l + 1) + 1) (3 * L + 1) (fun j => bwS W L j)) ((3 * (L - l)) + 1) ((lft W (l - 1)) - (lft W l))) (((3 * (L - l)) + 1) + 1) (lft W l) := (sOf_ne _ _ (by decide)).trans (sOf_eq _ _ _)
        have q153_50 : (setO (setO (setO (setO (setO h 45 (fup (fup (fup (fup (h 45) 7 W) 8 E) 9 L) 10 ((3 * L) + 1))) 47 (fup (fup (fsr (h 47) (3 * (L - l + 1) + 1) (3 * L + 1) (fun j => lfS W L j)) ((3 * (L - l)) + 1) (lft W l)) (((3 * (L - l)) + 1) + 1) 0)) 48 (fup (fup (fsr (h 48) (3 * (L - l + 1) + 1) (3 * L + 1) (fun j => tpS E L j)) ((3 * (L - l)) + 1) 0) (((3 * (L - l)) + 1) + 1) (lft E l))) 49 (fup (fup (fsr (h 49) (3 * (L - l + 1) + 1) (3 * L + 1) (fun j => bwS W L j)) ((3 * (L - l)) + 1) ((lft W (l - 1)) - (lft W l))) (((3 * (L - l)) + 1) + 1) (lft W l))) 50 (fup (fup (fsr (h 50) (3 * (L - l + 1) + 1) (3 * L + 1) (fun j => bhS E L j)) ((3 * (L - l)) + 1) (lft E l)) (((3 * (L - l)) + 1) + 1) ((lft E (l - 1)) - (lft E l)))) 50 = fup (fup (fsr (h 50) (3 * (L - l + 1) + 1) (3 * L + 1) (fun j => bhS E L j)) ((3 * (L - l)) + 1) (lft E l)) (((3 * (L - l)) + 1) + 1) ((lft E (l - 1)) - (lft E l)) := sOf_eq _ _ _
        refine iv_X0_50 hK (c_X0_layBand_45 (((3 * (L - l)) + 1) + 2) (lft W l) (lft E l) ((lft W (l - 1)) - (lft W l)) ((lft E (l - 1)) - (lft E l)) (setO (setO (setO (setO (setO h 45 (fup (fup (fup (fup (h 45) 7 W) 8 E) 9 L) 10 ((3 * L) + 1))) 47 (fup (fup (fsr (h 47) (3 * (L - l + 1) + 1) (3 * L + 1) (fun j => lfS W L j)) ((3 * (L - l)) + 1) (lft W l)) (((3 * (L - l)) + 1) + 1) 0)) 48 (fup (fup (fsr (h 48) (3 * (L - l + 1) + 1) (3 * L + 1) (fun j => tpS E L j)) ((3 * (L - l)) + 1) 0) (((3 * (L - l)) + 1) + 1) (lft E l))) 49 (fup (fup (fsr (h 49) (3 * (L - l + 1) + 1) (3 * L + 1) (fun j => bwS W L j)) ((3 * (L - l)) + 1) ((lft W (l - 1)) - (lft W l))) (((3 * (L - l)) + 1) + 1) (lft W l))) 50 (fup (fup (fsr (h 50) (3 * (L - l + 1) + 1) (3 * L + 1) (fun j => bhS E L j)) ((3 * (L - l)) + 1) (lft E l)) (((3 * (L - l)) + 1) + 1) ((lft E (l - 1)) - (lft E l)))) (by first | omega | (simp [up, setR] <;> omega))) (by decide) rfl ⟨by decide, by decide⟩ (by decide) rfl rfl (Nat.le_of_ble_eq_true rfl) ⟨by decide, by decide⟩ dX0_lay_153 ?_
        intro r9 h9 hp9
        rw [q153_47, q153_48, q153_49, q153_50] at hp9
        rw [hp9.1, hp9.2]
        refine TT_hp (h' := setO (setO (setO (setO (setO h 45 (fup (fup (fup (fup (h 45) 7 W) 8 E) 9 L) 10 ((3 * L) + 1))) 47 (fup (fup (fup (fsr (h 47) (3 * (L - l + 1) + 1) (3 * L + 1) (fun j => lfS W L j)) ((3 * (L - l)) + 1) (lft W l)) (((3 * (L - l)) + 1) + 1) 0) (((3 * (L - l)) + 1) + 2) (lft W l))) 48 (fup (fup (fup (fsr (h 48) (3 * (L - l + 1) + 1) (3 * L + 1) (fun j => tpS E L j)) ((3 * (L - l)) + 1) 0) (((3 * (L - l)) + 1) + 1) (lft E l)) (((3 * (L - l)) + 1) + 2) (lft E l))) 49 (fup (fup (fup (fsr (h 49) (3 * (L - l + 1) + 1) (3 * L + 1) (fun j => bwS W L j)) ((3 * (L - l)) + 1) ((lft W (l - 1)) - (lft W l))) (((3 * (L - l)) + 1) + 1) (lft W l)) (((3 * (L - l)) + 1) + 2) ((lft W (l - 1)) - (lft W l)))) 50 (fup (fup (fup (fsr (h 50) (3 * (L - l + 1) + 1) (3 * L + 1) (fun j => bhS E L j)) ((3 * (L - l)) + 1) (lft E l)) (((3 * (L - l)) + 1) + 1) ((lft E (l - 1)) - (lft E l))) (((3 * (L - l)) + 1) + 2) ((lft E (l - 1)) - (lft E l)))) ((setO_cg ((setO_cg ((setO_cg ((setO_comm _ _ _ (by decide)).trans (setO_cg ((setO_comm _ _ _ (by decide)).trans (setO_cg ((setO_comm _ _ _ (by decide)).trans (setO_cg (setO_same _ _ _ _) rfl)) rfl)) rfl)) rfl).trans ((setO_comm _ _ _ (by decide)).trans (setO_cg ((setO_comm _ _ _ (by decide)).trans (setO_cg (setO_same _ _ _ _) rfl)) rfl))) rfl).trans ((setO_comm _ _ _ (by decide)).trans (setO_cg (setO_same _ _ _ _) rfl))) rfl).trans (setO_same _ _ _ _)) ?_
        show TT K ly 0 0 156 [(9, vI (lft E l)), (8, vI (lft W l)), (7, vI (lft E (l - 1))), (6, vI (lft W (l - 1))), (5, vI ((3 * (L - l)) + 1)), (0, vR 45), (1, vI W), (2, vI E), (3, vI L), (4, vI l)] [] (setO (setO (setO (setO (setO h 45 (fup (fup (fup (fup (h 45) 7 W) 8 E) 9 L) 10 ((3 * L) + 1))) 47 (fup (fup (fup (fsr (h 47) (3 * (L - l + 1) + 1) (3 * L + 1) (fun j => lfS W L j)) ((3 * (L - l)) + 1) (lft W l)) (((3 * (L - l)) + 1) + 1) 0) (((3 * (L - l)) + 1) + 2) (lft W l))) 48 (fup (fup (fup (fsr (h 48) (3 * (L - l + 1) + 1) (3 * L + 1) (fun j => tpS E L j)) ((3 * (L - l)) + 1) 0) (((3 * (L - l)) + 1) + 1) (lft E l)) (((3 * (L - l)) + 1) + 2) (lft E l))) 49 (fup (fup (fup (fsr (h 49) (3 * (L - l + 1) + 1) (3 * L + 1) (fun j => bwS W L j)) ((3 * (L - l)) + 1) ((lft W (l - 1)) - (lft W l))) (((3 * (L - l)) + 1) + 1) (lft W l)) (((3 * (L - l)) + 1) + 2) ((lft W (l - 1)) - (lft W l)))) 50 (fup (fup (fup (fsr (h 50) (3 * (L - l + 1) + 1) (3 * L + 1) (fun j => bhS E L j)) ((3 * (L - l)) + 1) (lft E l)) (((3 * (L - l)) + 1) + 1) ((lft E (l - 1)) - (lft E l))) (((3 * (L - l)) + 1) + 2) ((lft E (l - 1)) - (lft E l))))
        refine TT_iinc hK (v := l + 1) (lv' := [(4, vI (l + 1)), (9, vI (lft E l)), (8, vI (lft W l)), (7, vI (lft E (l - 1))), (6, vI (lft W (l - 1))), (5, vI ((3 * (L - l)) + 1)), (0, vR 45), (1, vI W), (2, vI E), (3, vI L)]) 9 rfl rfl (by decide) rfl dX0_lay_156 ?_
        refine TT_goto hK (tgt := 30) dX0_lay_159 (by decide) ?_
        refine TT_sub [6, 7, 8, 9, 0] rfl ?_
        refine TT_hp (h' := setO (setO (setO (setO (setO h 45 (fup (fup (fup (fup (h 45) 7 W) 8 E) 9 L) 10 ((3 * L) + 1))) 47 (fsr (h 47) (3 * (L - (l + 1) + 1) + 1) (3 * L + 1) (fun j => lfS W L j))) 48 (fsr (h 48) (3 * (L - (l + 1) + 1) + 1) (3 * L + 1) (fun j => tpS E L j))) 49 (fsr (h 49) (3 * (L - (l + 1) + 1) + 1) (3 * L + 1) (fun j => bwS W L j))) 50 (fsr (h 50) (3 * (L - (l + 1) + 1) + 1) (3 * L + 1) (fun j => bhS E L j))) (setO_cg (setO_cg (setO_cg (setO_cg rfl (by exact fsr_pre3 _ (b := 3 * (L - l) + 1) (by omega) (by omega) (by omega) (by omega) (by omega) (geo0 (W := W) (E := E) (L := L) (m := L - l) (l := l) _ (by omega) (by omega) (by omega)).2.2.2.1.symm (geo1 (W := W) (E := E) (L := L) (m := L - l) (l := l) _ (by omega) (by omega) (by omega)).2.2.2.1.symm (geo2 (W := W) (E := E) (L := L) (m := L - l) (l := l) _ (by omega) (by omega) (by omega)).2.2.2.1.symm)) (by exact fsr_pre3 _ (b := 3 * (L - l) + 1) (by omega) (by omega) (by omega) (by omega) (by omega) (geo0 (W := W) (E := E) (L := L) (m := L - l) (l := l) _ (by omega) (by omega) (by omega)).2.2.2.2.symm (geo1 (W := W) (E := E) (L := L) (m := L - l) (l := l) _ (by omega) (by omega) (by omega)).2.2.2.2.symm (geo2 (W := W) (E := E) (L := L) (m := L - l) (l := l) _ (by omega) (by omega) (by omega)).2.2.2.2.symm)) (by exact fsr_pre3 _ (b := 3 * (L - l) + 1) (by omega) (by omega) (by omega) (by omega) (by omega) (geo0 (W := W) (E := E) (L := L) (m := L - l) (l := l) _ (by omega) (by omega) (by omega)).1.symm (geo1 (W := W) (E := E) (L := L) (m := L - l) (l := l) _ (by omega) (by omega) (by omega)).1.symm (geo2 (W := W) (E := E) (L := L) (m := L - l) (l := l) _ (by omega) (by omega) (by omega)).1.symm)) (by exact fsr_pre3 _ (b := 3 * (L - l) + 1) (by omega) (by omega) (by omega) (by omega) (by omega) (geo0 (W := W) (E := E) (L := L) (m := L - l) (l := l) _ (by omega) (by omega) (by omega)).2.1.symm (geo1 (W := W) (E := E) (L := L) (m := L - l) (l := l) _ (by omega) (by omega) (by omega)).2.1.symm (geo2 (W := W) (E := E) (L := L) (m := L - l) (l := l) _ (by omega) (by omega) (by omega)).2.1.symm)) ?_
        exact ih1 (l + 1) (by first | omega | (simp [up, setR] <;> omega)) (by first | omega | (simp [up, setR] <;> omega)) (by first | omega | (simp [up, setR] <;> omega))
  refine TT_sub [1, 2, 3, 4, 0] rfl ?_
  refine TT_hp (h' := setO (setO (setO (setO (setO h 45 (fup (fup (fup (fup (h 45) 7 W) 8 E) 9 L) 10 ((3 * L) + 1))) 47 (fsr (h 47) (3 * (L - 1 + 1) + 1) (3 * L + 1) (fun j => lfS W L j))) 48 (fsr (h 48) (3 * (L - 1 + 1) + 1) (3 * L + 1) (fun j => tpS E L j))) 49 (fsr (h 49) (3 * (L - 1 + 1) + 1) (3 * L + 1) (fun j => bwS W L j))) 50 (fsr (h 50) (3 * (L - 1 + 1) + 1) (3 * L + 1) (fun j => bhS E L j))) ((setO_new ((sOf_ne _ _ (by decide)).trans (by rw [show 3 * (L - 1 + 1) + 1 = 3 * L + 1 by omega]; exact fsr_0 _ _ _))).trans (setO_cg ((setO_new ((sOf_ne _ _ (by decide)).trans (by rw [show 3 * (L - 1 + 1) + 1 = 3 * L + 1 by omega]; exact fsr_0 _ _ _))).trans (setO_cg ((setO_new ((sOf_ne _ _ (by decide)).trans (by rw [show 3 * (L - 1 + 1) + 1 = 3 * L + 1 by omega]; exact fsr_0 _ _ _))).trans (setO_cg ((setO_new ((sOf_ne _ _ (by decide)).trans (by rw [show 3 * (L - 1 + 1) + 1 = 3 * L + 1 by omega]; exact fsr_0 _ _ _))).trans (setO_cg rfl rfl)) rfl)) rfl)) rfl)) ?_
  exact L30_1 ((((9 : Int) - 1).toNat) + 1) 1 (by first | omega | (simp [up, setR] <;> omega)) (by first | omega | (simp [up, setR] <;> omega)) (Nat.lt_succ_self _)
set_option maxRecDepth 20000 in
theorem c_X0_hasBand_45 (b : Int) (h : Hp_) (hb : ir_ b) (hc : ir_ (h 45 10)) : Ctr yX0_hasBand cX0_hasBand 2 (some .boolean) (rmd 0) ly ly 0 0 [vR 45, vI b] h (fun r h' => r = some (vI (if 0 ≤ b ∧ b < (h 45 10) then 1 else 0)) ∧ h' = h) := by
  refine Ctr_of (by decide) (Nat.le_of_ble_eq_true rfl) ⟨Nat.le_refl _, Nat.le_refl _⟩ (fun K hK hQ _ => ?_)
  show TT K ly 0 0 0 [(0, vR 45), (1, vI b)] [] h
  refine TT_iload_n hK rfl 1 rfl dX0_hasBand_0 ?_
  refine TT_if_lt hK (tgt := 16) (irm (by omega) (by omega)) dX0_hasBand_1 (by decide) (fun hb1 => ?_) (fun hb1 => ?_)
  · refine TT_iconst hK dX0_hasBand_16 ?_
    refine TT_zret hK hQ (by decide) ?_ dX0_hasBand_17
    exact ⟨congrArg (fun z => some (vI z)) (by first | exact (if_pos (by omega)).symm | exact (if_neg (by omega)).symm | (split <;> first | rfl | omega)), rfl⟩
  · refine TT_iload_n hK rfl 1 rfl dX0_hasBand_4 ?_
    refine TT_aload_n hK rfl 0 rfl dX0_hasBand_5 ?_
    refine gf_X0_43 hK (by decide) rfl (v := (h 45) 10) rfl dX0_hasBand_6 ?_
    refine TT_icmp_ge hK (tgt := 16) (irm (by omega) (by omega)) (irm (by omega) (by omega)) dX0_hasBand_9 (by decide) (fun hb9 => ?_) (fun hb9 => ?_)
    · refine TT_iconst hK dX0_hasBand_16 ?_
      refine TT_zret hK hQ (by decide) ?_ dX0_hasBand_17
      exact ⟨congrArg (fun z => some (vI z)) (by first | exact (if_pos (by omega)).symm | exact (if_neg (by omega)).symm | (split <;> first | rfl | omega)), rfl⟩
    · refine TT_iconst hK dX0_hasBand_12 ?_
      refine TT_goto hK (tgt := 17) dX0_hasBand_13 (by decide) ?_
      refine TT_zret hK hQ (by decide) ?_ dX0_hasBand_17
      exact ⟨congrArg (fun z => some (vI z)) (by first | exact (if_pos (by omega)).symm | exact (if_neg (by omega)).symm | (split <;> first | rfl | omega)), rfl⟩
set_option maxRecDepth 20000 in
theorem c_X0_isEmpty_45 (b w e : Int) (h : Hp_) (hb : 0 ≤ b ∧ b < 10) (hw : (h 49) b = w ∧ ir_ w) (he : (h 50) b = e ∧ ir_ e) : Ctr yX0_isEmpty cX0_isEmpty 2 (some .boolean) (rmd 0) ly ly 0 0 [vR 45, vI b] h (fun r h' => r = some (vI (if w = 0 ∨ e = 0 then 1 else 0)) ∧ h' = h) := by
  refine Ctr_of (by decide) (Nat.le_of_ble_eq_true rfl) ⟨Nat.le_refl _, Nat.le_refl _⟩ (fun K hK hQ _ => ?_)
  show TT K ly 0 0 0 [(0, vR 45), (1, vI b)] [] h
  refine TT_aload_n hK rfl 0 rfl dX0_isEmpty_0 ?_
  refine gf_X0_21 hK (by decide) rfl (q := 49) rfl rfl dX0_isEmpty_1 ?_
  refine TT_iload_n hK rfl 1 rfl dX0_isEmpty_4 ?_
  refine TT_iald hK (o := 49) (n := 10) (by decide) rfl (by first | omega | (simp [up, setR] <;> omega)) (by first | omega | (simp [up, setR] <;> omega)) (v := (h 49) b) rfl dX0_isEmpty_5 ?_
  refine TT_if_eq hK (tgt := 18) (irm (by omega) (by omega)) dX0_isEmpty_6 (by decide) (fun hb6 => ?_) (fun hb6 => ?_)
  · refine TT_iconst hK dX0_isEmpty_18 ?_
    refine TT_goto hK (tgt := 23) dX0_isEmpty_19 (by decide) ?_
    refine TT_zret hK hQ (by decide) ?_ dX0_isEmpty_23
    exact ⟨congrArg (fun z => some (vI z)) (by first | exact (if_pos (by omega)).symm | exact (if_neg (by omega)).symm | (split <;> first | rfl | omega)), rfl⟩
  · refine TT_aload_n hK rfl 0 rfl dX0_isEmpty_9 ?_
    refine gf_X0_24 hK (by decide) rfl (q := 50) rfl rfl dX0_isEmpty_10 ?_
    refine TT_iload_n hK rfl 1 rfl dX0_isEmpty_13 ?_
    refine TT_iald hK (o := 50) (n := 10) (by decide) rfl (by first | omega | (simp [up, setR] <;> omega)) (by first | omega | (simp [up, setR] <;> omega)) (v := (h 50) b) rfl dX0_isEmpty_14 ?_
    refine TT_if_ne hK (tgt := 22) (irm (by omega) (by omega)) dX0_isEmpty_15 (by decide) (fun hb15 => ?_) (fun hb15 => ?_)
    · refine TT_iconst hK dX0_isEmpty_22 ?_
      refine TT_zret hK hQ (by decide) ?_ dX0_isEmpty_23
      exact ⟨congrArg (fun z => some (vI z)) (by first | exact (if_pos (by omega)).symm | exact (if_neg (by omega)).symm | (split <;> first | rfl | omega)), rfl⟩
    · refine TT_iconst hK dX0_isEmpty_18 ?_
      refine TT_goto hK (tgt := 23) dX0_isEmpty_19 (by decide) ?_
      refine TT_zret hK hQ (by decide) ?_ dX0_isEmpty_23
      exact ⟨congrArg (fun z => some (vI z)) (by first | exact (if_pos (by omega)).symm | exact (if_neg (by omega)).symm | (split <;> first | rfl | omega)), rfl⟩
set_option maxRecDepth 20000 in
theorem c_X0_kindOf_45 (b : Int) (h : Hp_) (hb : 0 ≤ b ∧ b < 10) : Ctr yX0_kindOf cX0_kindOf 3 (some .int) (rmd 0) ly ly 0 0 [vR 45, vI b] h (fun r h' => r = some (vI (kdS b)) ∧ h' = h) := by
  refine Ctr_of (by decide) (Nat.le_of_ble_eq_true rfl) ⟨Nat.le_refl _, Nat.le_refl _⟩ (fun K hK hQ _ => ?_)
  show TT K ly 0 0 0 [(0, vR 45), (1, vI b)] [] h
  refine TT_iload_n hK rfl 1 rfl dX0_kindOf_0 ?_
  refine TT_if_ne hK (tgt := 6) (irm (by omega) (by omega)) dX0_kindOf_1 (by decide) (fun hb1 => ?_) (fun hb1 => ?_)
  · refine TT_iload_n hK rfl 1 rfl dX0_kindOf_6 ?_
    refine TT_iconst hK dX0_kindOf_7 ?_
    refine TT_isub hK dX0_kindOf_8 ?_
    refine TT_iconst hK dX0_kindOf_9 ?_
    refine TT_iremn hK (irm (by omega) (by omega)) (by decide) (by first | omega | (simp [up, setR] <;> omega)) (by first | omega | (simp [up, setR] <;> omega)) dX0_kindOf_10 ?_
    refine TT_nmI (fun c hc => ?_)
    refine TT_istore_n hK rfl (lv' := [(2, vI c), (0, vR 45), (1, vI b)]) (by decide) rfl dX0_kindOf_11 ?_
    refine TT_iload_n hK rfl 0 rfl dX0_kindOf_12 ?_
    refine TT_if_ne hK (tgt := 20) (irm (by omega) (by omega)) dX0_kindOf_13 (by decide) (fun hb13 => ?_) (fun hb13 => ?_)
    · refine TT_iload_n hK rfl 0 rfl dX0_kindOf_20 ?_
      refine TT_iconst hK dX0_kindOf_21 ?_
      refine TT_icmp_ne hK (tgt := 29) (irm (by omega) (by omega)) (by decide) dX0_kindOf_22 (by decide) (fun hb22 => ?_) (fun hb22 => ?_)
      · refine TT_iconst hK dX0_kindOf_29 ?_
        refine TT_iret hK hQ ?_ dX0_kindOf_30
        exact ⟨congrArg (fun z => some (vI z)) (by unfold kdS; rw [if_neg (by omega)]; first | rw [if_pos (by omega)] | rw [if_neg (by omega), if_pos (by omega)] | rw [if_neg (by omega), if_neg (by omega)]), rfl⟩
      · refine TT_iconst hK dX0_kindOf_25 ?_
        refine TT_goto hK (tgt := 30) dX0_kindOf_26 (by decide) ?_
        refine TT_iret hK hQ ?_ dX0_kindOf_30
        exact ⟨congrArg (fun z => some (vI z)) (by unfold kdS; rw [if_neg (by omega)]; first | rw [if_pos (by omega)] | rw [if_neg (by omega), if_pos (by omega)] | rw [if_neg (by omega), if_neg (by omega)]), rfl⟩
    · refine TT_iconst hK dX0_kindOf_16 ?_
      refine TT_goto hK (tgt := 30) dX0_kindOf_17 (by decide) ?_
      refine TT_iret hK hQ ?_ dX0_kindOf_30
      exact ⟨congrArg (fun z => some (vI z)) (by unfold kdS; rw [if_neg (by omega)]; first | rw [if_pos (by omega)] | rw [if_neg (by omega), if_pos (by omega)] | rw [if_neg (by omega), if_neg (by omega)]), rfl⟩
  · refine TT_iconst hK dX0_kindOf_4 ?_
    refine TT_iret hK hQ ?_ dX0_kindOf_5
    exact ⟨congrArg (fun z => some (vI z)) (by subst hb1; rfl), rfl⟩
set_option maxRecDepth 20000 in
theorem c_X0_hasNumber_45 (b x y : Int) (h : Hp_) (hb : ir_ b) (hx : ir_ x) (hy : ir_ y) (hc : 0 ≤ (h 45 10) ∧ (h 45 10) ≤ 10) (hr : ∀ j, 0 ≤ j → j < (h 45 10) → (0 ≤ (h 47) j ∧ 0 ≤ (h 48) j ∧ 0 ≤ (h 49) j ∧ 0 ≤ (h 50) j) ∧ ((h 47) j + (h 49) j ≤ 8 ∧ (h 48) j + (h 50) j ≤ 8)) : Ctr yX0_hasNumber cX0_hasNumber 4 (some .boolean) (rmd 1) ly ly 0 0 [vR 45, vI b, vI x, vI y] h (fun r h' => r = some (vI (if (0 ≤ b ∧ b < (h 45 10)) ∧ (0 ≤ x ∧ x < (h 49) b) ∧ (0 ≤ y ∧ y < (h 50) b) then 1 else 0)) ∧ h' = h) := by
  refine Ctr_of (by decide) (Nat.le_of_ble_eq_true rfl) ⟨Nat.le_refl _, Nat.le_refl _⟩ (fun K hK hQ _ => ?_)
  show TT K ly 0 0 0 [(0, vR 45), (1, vI b), (2, vI x), (3, vI y)] [] h
  refine TT_aload_n hK rfl 0 rfl dX0_hasNumber_0 ?_
  refine TT_iload_n hK rfl 1 rfl dX0_hasNumber_1 ?_
  refine iv_X0_54 hK (c_X0_hasBand_45 b h (by first | omega | (simp [up, setR] <;> omega)) (by first | omega | (simp [up, setR] <;> omega))) (by decide) rfl ⟨by decide, by decide⟩ (by decide) rfl rfl (Nat.le_of_ble_eq_true rfl) ⟨by decide, by decide⟩ dX0_hasNumber_2 ?_
  intro r9 h9 hp9
  rw [hp9.1, hp9.2]
  by_cases hz2 : 0 ≤ b ∧ b < ((h 45) 10)
  · rw [if_pos hz2]
    have hrb := hr b hz2.1 hz2.2
    show TT K ly 0 0 5 [(0, vR 45), (1, vI b), (2, vI x), (3, vI y)] [vI 1] h
    refine TT_if_eq hK (tgt := 40) (by decide) dX0_hasNumber_5 (by decide) (fun hb5 => ?_) (fun hb5 => ?_)
    · exact absurd hb5 (by decide)
    · refine TT_iload_n hK rfl 2 rfl dX0_hasNumber_8 ?_
      refine TT_if_lt hK (tgt := 40) (irm (by omega) (by omega)) dX0_hasNumber_9 (by decide) (fun hb9 => ?_) (fun hb9 => ?_)
      · refine TT_iconst hK dX0_hasNumber_40 ?_
        refine TT_zret hK hQ (by decide) ?_ dX0_hasNumber_41
        exact ⟨congrArg (fun z => some (vI z)) (by first | exact (if_pos (by omega)).symm | exact (if_neg (by omega)).symm | (split <;> first | rfl | omega)), rfl⟩
      · refine TT_iload_n hK rfl 2 rfl dX0_hasNumber_12 ?_
        refine TT_aload_n hK rfl 0 rfl dX0_hasNumber_13 ?_
        refine gf_X0_21 hK (by decide) rfl (q := 49) rfl rfl dX0_hasNumber_14 ?_
        refine TT_iload_n hK rfl 1 rfl dX0_hasNumber_17 ?_
        refine TT_iald hK (o := 49) (n := 10) (by decide) rfl (by first | omega | (simp [up, setR] <;> omega)) (by first | omega | (simp [up, setR] <;> omega)) (v := (h 49) b) rfl dX0_hasNumber_18 ?_
        refine TT_icmp_ge hK (tgt := 40) (irm (by omega) (by omega)) (irm (by omega) (by omega)) dX0_hasNumber_19 (by decide) (fun hb19 => ?_) (fun hb19 => ?_)
        · refine TT_iconst hK dX0_hasNumber_40 ?_
          refine TT_zret hK hQ (by decide) ?_ dX0_hasNumber_41
          exact ⟨congrArg (fun z => some (vI z)) (by first | exact (if_pos (by omega)).symm | exact (if_neg (by omega)).symm | (split <;> first | rfl | omega)), rfl⟩
        · refine TT_iload_n hK rfl 3 rfl dX0_hasNumber_22 ?_
          refine TT_if_lt hK (tgt := 40) (irm (by omega) (by omega)) dX0_hasNumber_23 (by decide) (fun hb23 => ?_) (fun hb23 => ?_)
          · refine TT_iconst hK dX0_hasNumber_40 ?_
            refine TT_zret hK hQ (by decide) ?_ dX0_hasNumber_41
            exact ⟨congrArg (fun z => some (vI z)) (by first | exact (if_pos (by omega)).symm | exact (if_neg (by omega)).symm | (split <;> first | rfl | omega)), rfl⟩
          · refine TT_iload_n hK rfl 3 rfl dX0_hasNumber_26 ?_
            refine TT_aload_n hK rfl 0 rfl dX0_hasNumber_27 ?_
            refine gf_X0_24 hK (by decide) rfl (q := 50) rfl rfl dX0_hasNumber_28 ?_
            refine TT_iload_n hK rfl 1 rfl dX0_hasNumber_31 ?_
            refine TT_iald hK (o := 50) (n := 10) (by decide) rfl (by first | omega | (simp [up, setR] <;> omega)) (by first | omega | (simp [up, setR] <;> omega)) (v := (h 50) b) rfl dX0_hasNumber_32 ?_
            refine TT_icmp_ge hK (tgt := 40) (irm (by omega) (by omega)) (irm (by omega) (by omega)) dX0_hasNumber_33 (by decide) (fun hb33 => ?_) (fun hb33 => ?_)
            · refine TT_iconst hK dX0_hasNumber_40 ?_
              refine TT_zret hK hQ (by decide) ?_ dX0_hasNumber_41
              exact ⟨congrArg (fun z => some (vI z)) (by first | exact (if_pos (by omega)).symm | exact (if_neg (by omega)).symm | (split <;> first | rfl | omega)), rfl⟩
            · refine TT_iconst hK dX0_hasNumber_36 ?_
              refine TT_goto hK (tgt := 41) dX0_hasNumber_37 (by decide) ?_
              refine TT_zret hK hQ (by decide) ?_ dX0_hasNumber_41
              exact ⟨congrArg (fun z => some (vI z)) (by first | exact (if_pos (by omega)).symm | exact (if_neg (by omega)).symm | (split <;> first | rfl | omega)), rfl⟩
  · rw [if_neg hz2]
    show TT K ly 0 0 5 [(0, vR 45), (1, vI b), (2, vI x), (3, vI y)] [vI 0] h
    refine TT_if_eq hK (tgt := 40) (by decide) dX0_hasNumber_5 (by decide) (fun hb5 => ?_) (fun hb5 => ?_)
    · refine TT_iconst hK dX0_hasNumber_40 ?_
      refine TT_zret hK hQ (by decide) ?_ dX0_hasNumber_41
      exact ⟨congrArg (fun z => some (vI z)) (by first | exact (if_pos (by omega)).symm | exact (if_neg (by omega)).symm | (split <;> first | rfl | omega)), rfl⟩
    · exact absurd hb5 (by decide)
set_option maxRecDepth 20000 in
theorem c_X0_at_45 (b x y : Int) (h : Hp_) (hb : ir_ b) (hx : ir_ x) (hy : ir_ y) (hc : 0 ≤ (h 45 10) ∧ (h 45 10) ≤ 10) (hr : ∀ j, 0 ≤ j → j < (h 45 10) → (0 ≤ (h 47) j ∧ 0 ≤ (h 48) j ∧ 0 ≤ (h 49) j ∧ 0 ≤ (h 50) j) ∧ ((h 47) j + (h 49) j ≤ 8 ∧ (h 48) j + (h 50) j ≤ 8)) : Ctr yX0_at cX0_at 4 (some .int) (rmd 2) ly ly 0 0 [vR 45, vI b, vI x, vI y] h (fun r h' => r = some (vI (if (0 ≤ b ∧ b < (h 45 10)) ∧ (0 ≤ x ∧ x < (h 49) b) ∧ (0 ≤ y ∧ y < (h 50) b) then (h 46) (((((h 48) b) + y) * 8 + (h 47) b) + x) else -100000)) ∧ h' = h) := by
  refine Ctr_of (by decide) (Nat.le_of_ble_eq_true rfl) ⟨Nat.le_refl _, Nat.le_refl _⟩ (fun K hK hQ _ => ?_)
  show TT K ly 0 0 0 [(0, vR 45), (1, vI b), (2, vI x), (3, vI y)] [] h
  refine TT_aload_n hK rfl 0 rfl dX0_at_0 ?_
  refine TT_iload_n hK rfl 1 rfl dX0_at_1 ?_
  refine TT_iload_n hK rfl 2 rfl dX0_at_2 ?_
  refine TT_iload_n hK rfl 3 rfl dX0_at_3 ?_
  refine iv_X0_58 hK (c_X0_hasNumber_45 b x y h (by first | omega | (simp [up, setR] <;> omega)) (by first | omega | (simp [up, setR] <;> omega)) (by first | omega | (simp [up, setR] <;> omega)) (by first | omega | (simp [up, setR] <;> omega)) (by exact hr)) (by decide) rfl ⟨by decide, by decide⟩ (by decide) rfl rfl (Nat.le_of_ble_eq_true rfl) ⟨by decide, by decide⟩ dX0_at_4 ?_
  intro r9 h9 hp9
  rw [hp9.1, hp9.2]
  by_cases hz4 : (0 ≤ b ∧ b < ((h 45) 10)) ∧ (0 ≤ x ∧ x < (h 49) b) ∧ (0 ≤ y ∧ y < (h 50) b)
  · rw [if_pos hz4]
    have hrb := hr b hz4.1.1 hz4.1.2
    show TT K ly 0 0 7 [(0, vR 45), (1, vI b), (2, vI x), (3, vI y)] [vI 1] h
    refine TT_if_eq hK (tgt := 38) (by decide) dX0_at_7 (by decide) (fun hb7 => ?_) (fun hb7 => ?_)
    · exact absurd hb7 (by decide)
    · refine TT_aload_n hK rfl 0 rfl dX0_at_10 ?_
      refine gf_X0_9 hK (by decide) rfl (q := 46) rfl rfl dX0_at_11 ?_
      refine TT_aload_n hK rfl 0 rfl dX0_at_14 ?_
      refine gf_X0_18 hK (by decide) rfl (q := 48) rfl rfl dX0_at_15 ?_
      refine TT_iload_n hK rfl 1 rfl dX0_at_18 ?_
      refine TT_iald hK (o := 48) (n := 10) (by decide) rfl (by first | omega | (simp [up, setR] <;> omega)) (by first | omega | (simp [up, setR] <;> omega)) (v := (h 48) b) rfl dX0_at_19 ?_
      refine TT_iload_n hK rfl 3 rfl dX0_at_20 ?_
      refine TT_iadd hK dX0_at_21 ?_
      refine TT_bipush hK (by decide) dX0_at_22 ?_
      refine TT_imul hK dX0_at_24 ?_
      refine TT_aload_n hK rfl 0 rfl dX0_at_25 ?_
      refine gf_X0_15 hK (by decide) rfl (q := 47) rfl rfl dX0_at_26 ?_
      refine TT_iload_n hK rfl 1 rfl dX0_at_29 ?_
      refine TT_iald hK (o := 47) (n := 10) (by decide) rfl (by first | omega | (simp [up, setR] <;> omega)) (by first | omega | (simp [up, setR] <;> omega)) (v := (h 47) b) rfl dX0_at_30 ?_
      refine TT_iadd hK dX0_at_31 ?_
      refine TT_iload_n hK rfl 2 rfl dX0_at_32 ?_
      refine TT_iadd hK dX0_at_33 ?_
      refine TT_iald hK (o := 46) (n := 64) (by decide) rfl (by first | omega | (simp [up, setR] <;> omega)) (by first | omega | (simp [up, setR] <;> omega)) (v := (h 46) ((((((h 48) b) + y) * 8) + ((h 47) b)) + x)) rfl dX0_at_34 ?_
      refine TT_goto hK (tgt := 40) dX0_at_35 (by decide) ?_
      refine TT_iret hK hQ ?_ dX0_at_40
      exact ⟨congrArg (fun z => some (vI z)) (by first | exact (if_pos hz4).symm | exact (if_neg hz4).symm), rfl⟩
  · rw [if_neg hz4]
    show TT K ly 0 0 7 [(0, vR 45), (1, vI b), (2, vI x), (3, vI y)] [vI 0] h
    refine TT_if_eq hK (tgt := 38) (by decide) dX0_at_7 (by decide) (fun hb7 => ?_) (fun hb7 => ?_)
    · refine TT_ldc hK lc_X0_62 dX0_at_38 ?_
      refine TT_iret hK hQ ?_ dX0_at_40
      exact ⟨congrArg (fun z => some (vI z)) (by first | exact (if_pos hz4).symm | exact (if_neg hz4).symm), rfl⟩
    · exact absurd hb7 (by decide)
set_option maxRecDepth 20000 in
theorem c_X0_set_45 (b x y v : Int) (h : Hp_) (hb : ir_ b) (hx : ir_ x) (hy : ir_ y) (hc : 0 ≤ (h 45 10) ∧ (h 45 10) ≤ 10) (hr : ∀ j, 0 ≤ j → j < (h 45 10) → (0 ≤ (h 47) j ∧ 0 ≤ (h 48) j ∧ 0 ≤ (h 49) j ∧ 0 ≤ (h 50) j) ∧ ((h 47) j + (h 49) j ≤ 8 ∧ (h 48) j + (h 50) j ≤ 8)) (hin : (0 ≤ b ∧ b < (h 45 10)) ∧ (0 ≤ x ∧ x < (h 49) b) ∧ (0 ≤ y ∧ y < (h 50) b)) : Ctr yX0_set cX0_set 5 none (rmd 2) ly ly 0 0 [vR 45, vI b, vI x, vI y, vI v] h (fun r h' => r = none ∧ h' = setO h 46 (fup (h 46) ((((((h 48) b) + y) * 8) + ((h 47) b)) + x) v)) := by
  refine Ctr_of (by decide) (Nat.le_of_ble_eq_true rfl) ⟨Nat.le_refl _, Nat.le_refl _⟩ (fun K hK hQ _ => ?_)
  show TT K ly 0 0 0 [(0, vR 45), (1, vI b), (2, vI x), (3, vI y), (4, vI v)] [] h
  refine TT_aload_n hK rfl 0 rfl dX0_set_0 ?_
  refine TT_iload_n hK rfl 1 rfl dX0_set_1 ?_
  refine TT_iload_n hK rfl 2 rfl dX0_set_2 ?_
  refine TT_iload_n hK rfl 3 rfl dX0_set_3 ?_
  refine iv_X0_58 hK (c_X0_hasNumber_45 b x y h (by first | omega | (simp [up, setR] <;> omega)) (by first | omega | (simp [up, setR] <;> omega)) (by first | omega | (simp [up, setR] <;> omega)) (by first | omega | (simp [up, setR] <;> omega)) (by exact hr)) (by decide) rfl ⟨by decide, by decide⟩ (by decide) rfl rfl (Nat.le_of_ble_eq_true rfl) ⟨by decide, by decide⟩ dX0_set_4 ?_
  intro r9 h9 hp9
  rw [hp9.1, hp9.2]
  by_cases hz4 : (0 ≤ b ∧ b < ((h 45) 10)) ∧ (0 ≤ x ∧ x < (h 49) b) ∧ (0 ≤ y ∧ y < (h 50) b)
  · rw [if_pos hz4]
    have hrb := hr b hz4.1.1 hz4.1.2
    show TT K ly 0 0 7 [(0, vR 45), (1, vI b), (2, vI x), (3, vI y), (4, vI v)] [vI 1] h
    refine TT_if_eq hK (tgt := 37) (by decide) dX0_set_7 (by decide) (fun hb7 => ?_) (fun hb7 => ?_)
    · exact absurd hb7 (by decide)
    · refine TT_aload_n hK rfl 0 rfl dX0_set_10 ?_
      refine gf_X0_9 hK (by decide) rfl (q := 46) rfl rfl dX0_set_11 ?_
      refine TT_aload_n hK rfl 0 rfl dX0_set_14 ?_
      refine gf_X0_18 hK (by decide) rfl (q := 48) rfl rfl dX0_set_15 ?_
      refine TT_iload_n hK rfl 1 rfl dX0_set_18 ?_
      refine TT_iald hK (o := 48) (n := 10) (by decide) rfl (by first | omega | (simp [up, setR] <;> omega)) (by first | omega | (simp [up, setR] <;> omega)) (v := (h 48) b) rfl dX0_set_19 ?_
      refine TT_iload_n hK rfl 3 rfl dX0_set_20 ?_
      refine TT_iadd hK dX0_set_21 ?_
      refine TT_bipush hK (by decide) dX0_set_22 ?_
      refine TT_imul hK dX0_set_24 ?_
      refine TT_aload_n hK rfl 0 rfl dX0_set_25 ?_
      refine gf_X0_15 hK (by decide) rfl (q := 47) rfl rfl dX0_set_26 ?_
      refine TT_iload_n hK rfl 1 rfl dX0_set_29 ?_
      refine TT_iald hK (o := 47) (n := 10) (by decide) rfl (by first | omega | (simp [up, setR] <;> omega)) (by first | omega | (simp [up, setR] <;> omega)) (v := (h 47) b) rfl dX0_set_30 ?_
      refine TT_iadd hK dX0_set_31 ?_
      refine TT_iload_n hK rfl 2 rfl dX0_set_32 ?_
      refine TT_iadd hK dX0_set_33 ?_
      refine TT_iload hK 4 rfl dX0_set_34 ?_
      refine TT_iast hK (o := 46) (n := 64) (by decide) rfl (by first | omega | (simp [up, setR] <;> omega)) (by first | omega | (simp [up, setR] <;> omega)) dX0_set_36 ?_
      refine TT_hp (h' := setO h 46 (fup (h 46) ((((((h 48) b) + y) * 8) + ((h 47) b)) + x) v)) (up_can rfl rfl rfl) ?_
      refine TT_vret hK hQ ?_ dX0_set_37
      exact ⟨rfl, rfl⟩
  · rw [if_neg hz4]
    exact absurd hin hz4

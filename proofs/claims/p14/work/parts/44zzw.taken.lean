set_option maxRecDepth 20000 in
theorem s_restore_t (h : Hp_) (hT : TY h) (hbd : BDQ (h 47) (h 49) (h 48) (h 50)) : Ctr yX10_restore cX10_restore 5 none (rmd 5) ly ly 0 0 [vR 44, vR 5, vR 3] h (fun r h' => (TY h' ∧ FR [3, 4, 44, 46, 51, 52, 61, 62, 64, 65, 66, 67, 68, 69, 70, 71, 72] h h') ∧ r = none ∧ (BDQ (h' 47) (h' 49) (h' 48) (h' 50)) ∧ ((∀ j : Int, 0 ≤ j → j < (h 45 10) → (h' 61) j = (h 54) j) ∧ (h' 44 12) = (h 45 10))) := by
  refine Ctr_of (by decide) (Nat.le_of_ble_eq_true rfl) ⟨Nat.le_refl _, Nat.le_refl _⟩ (fun K hK hQ _ => ?_)
  show TT K ly 0 0 0 [(0, vR 44), (1, vR 5), (2, vR 3)] [] h
  have hF : FR [3, 4, 44, 46, 51, 52, 61, 62, 64, 65, 66, 67, 68, 69, 70, 71, 72] h h := FR_rf _ _
  refine TT_iconst hK dX10_restore_0 ?_
  refine TT_istore_n hK rfl (lv' := [(3, vI 0), (0, vR 44), (1, vR 5), (2, vR 3)]) (by decide) rfl dX10_restore_1 ?_
  have L2_1 : ∀ (k1 : Nat) (b : Int) (w2_1 : Hp_), TY w2_1 → FR [3, 4, 44, 46, 51, 52, 61, 62, 64, 65, 66, 67, 68, 69, 70, 71, 72] h w2_1 → (0 ≤ b ∧ b ≤ 10) → (∀ j : Int, 0 ≤ j → j < b → (w2_1 61) j = h 54 j) → ((10 : Int) - b).toNat < k1 → TT K ly 0 0 2 [(0, vR 44), (1, vR 5), (2, vR 3), (3, vI b)] [] w2_1 := by
    intro k1
    induction k1 with
    | zero => intro b w2_1 hT2_1 hF2_1 hb ht hk1; exact absurd hk1 (Nat.not_lt_zero _)
    | succ k1 ih1 =>
      intro b w2_1 hT2_1 hF2_1 hb ht hk1
      refine TT_iload_n hK rfl 3 rfl dX10_restore_2 ?_
      refine TT_aload_n hK rfl 0 rfl dX10_restore_3 ?_
      refine gf_X10_12 hK (by decide) rfl (q := 45) rfl rfl dX10_restore_4 ?_
      refine gf_X10_141 hK (by decide) rfl (v := (h 45) 10) (rd_ (hF2_1 45 (by decide)) rfl) dX10_restore_7 ?_
      have r2 := ty_45_10 (v := (h 45) 10) hT2_1 (rd_ (hF2_1 45 (by decide)) rfl)
      refine TT_icmp_ge hK (tgt := 110) (irm (by omega) (by omega)) (irm (by omega) (by omega)) dX10_restore_10 (by decide) (fun hb10_3 => ?_) (fun hb10_3 => ?_)
      · refine TT_aload_n hK rfl 0 rfl dX10_restore_110 ?_
        refine TT_aload_n hK rfl 0 rfl dX10_restore_111 ?_
        refine gf_X10_12 hK (by decide) rfl (q := 45) rfl rfl dX10_restore_112 ?_
        refine gf_X10_141 hK (by decide) rfl (v := (h 45) 10) (rd_ (hF2_1 45 (by decide)) rfl) dX10_restore_115 ?_
        refine pf_X10_62 hK (by decide) rfl dX10_restore_118 ?_
        refine TT_hp (h' := setO w2_1 44 (fup (w2_1 44) 12 ((h 45) 10))) (up_can rfl rfl rfl) ?_
        have hT_4 : TY (setO w2_1 44 (fup (w2_1 44) 12 ((h 45) 10))) := tu_44_12 hT2_1 (show up w2_1 44 12 ((h 45) 10) = (setO w2_1 44 (fup (w2_1 44) 12 ((h 45) 10))) from up_can rfl rfl rfl) (by omega)
        have hF_4 : FR [3, 4, 44, 46, 51, 52, 61, 62, 64, 65, 66, 67, 68, 69, 70, 71, 72] h (setO w2_1 44 (fup (w2_1 44) 12 ((h 45) 10))) := FR_up (show up w2_1 44 12 ((h 45) 10) = (setO w2_1 44 (fup (w2_1 44) 12 ((h 45) 10))) from up_can rfl rfl rfl) hF2_1 (by decide)
        refine TT_aload_n hK rfl 0 rfl dX10_restore_121 ?_
        refine gf_X10_12 hK (by decide) rfl (q := 45) rfl rfl dX10_restore_122 ?_
        refine iv_X10_166 hK (s_X0_goBack_45 (setO w2_1 44 (fup (w2_1 44) 12 ((h 45) 10))) hT_4 ) (by decide) rfl ⟨by decide, by decide⟩ (by decide) rfl rfl (Nat.le_of_ble_eq_true rfl) ⟨by decide, by decide⟩ dX10_restore_125 ?_
        intro r9 g125_5 hp9
        obtain ⟨⟨hT_5, hG_5⟩, hr9⟩ := hp9
        rw [hr9]
        have hF_5 : FR [3, 4, 44, 46, 51, 52, 61, 62, 64, 65, 66, 67, 68, 69, 70, 71, 72] h g125_5 := FR_tr hF_4 hG_5 (by decide)
        show TT K ly 0 0 128 [(0, vR 44), (1, vR 5), (2, vR 3), (3, vI b)] [] g125_5
        refine TT_aload_n hK rfl 0 rfl dX10_restore_128 ?_
        refine gf_X10_12 hK (by decide) rfl (q := 45) rfl rfl dX10_restore_129 ?_
        refine TT_aload_n hK rfl 2 rfl dX10_restore_132 ?_
        refine iv_X10_169 hK (s_X0_writePicture_45 g125_5 hT_5 ) (by decide) rfl ⟨by decide, by decide⟩ (by decide) rfl rfl (Nat.le_of_ble_eq_true rfl) ⟨by decide, by decide⟩ dX10_restore_133 ?_
        intro r9 g133_6 hp9
        obtain ⟨⟨hT_6, hG_6⟩, hr9⟩ := hp9
        rw [hr9]
        have hF_6 : FR [3, 4, 44, 46, 51, 52, 61, 62, 64, 65, 66, 67, 68, 69, 70, 71, 72] h g133_6 := FR_tr hF_5 hG_6 (by decide)
        show TT K ly 0 0 136 [(0, vR 44), (1, vR 5), (2, vR 3), (3, vI b)] [] g133_6
        refine TT_vret hK hQ ?_ dX10_restore_136
        have e7_47 : g133_6 47 = h 47 := ((hG_6 47 (by decide))).trans (((hG_5 47 (by decide))).trans ((sOf_ne _ _ (by decide)).trans (hF2_1 47 (by decide))))
        have e8_48 : g133_6 48 = h 48 := ((hG_6 48 (by decide))).trans (((hG_5 48 (by decide))).trans ((sOf_ne _ _ (by decide)).trans (hF2_1 48 (by decide))))
        have e9_49 : g133_6 49 = h 49 := ((hG_6 49 (by decide))).trans (((hG_5 49 (by decide))).trans ((sOf_ne _ _ (by decide)).trans (hF2_1 49 (by decide))))
        have e10_50 : g133_6 50 = h 50 := ((hG_6 50 (by decide))).trans (((hG_5 50 (by decide))).trans ((sOf_ne _ _ (by decide)).trans (hF2_1 50 (by decide))))
        have e11_44_12 : g133_6 44 12 = (h 45) 10 := rd_ (((hG_6 44 (by decide))).trans (((hG_5 44 (by decide))).trans (sOf_eq _ _ _))) (fup_eq _ _ _)
        have e12_61 : g133_6 61 = w2_1 61 := ((hG_6 61 (by decide))).trans (((hG_5 61 (by decide))).trans (sOf_ne _ _ (by decide)))
        exact ⟨⟨hT_6, hF_6⟩, rfl, (by rewrite [e7_47, e8_48, e9_49, e10_50]; assumption), (by rewrite [e11_44_12, e12_61]; exact ⟨fun j j0 j1 => ht j j0 (by omega), by omega⟩)⟩
      · refine TT_aload_n hK rfl 0 rfl dX10_restore_13 ?_
        refine TT_aload_n hK rfl 1 rfl dX10_restore_14 ?_
        refine TT_iload_n hK rfl 3 rfl dX10_restore_15 ?_
        refine iv_X10_144 hK (s_X10_gatherBytes_44 b w2_1 hT2_1 (by first | omega | (simp [up, setR] <;> omega))) (by decide) rfl ⟨by decide, by decide⟩ (by decide) rfl rfl (Nat.le_of_ble_eq_true rfl) ⟨by decide, by decide⟩ dX10_restore_16 ?_
        intro r9 g16_13 hp9
        obtain ⟨⟨hT_13, hG_13⟩, hr9⟩ := hp9
        rw [hr9]
        have hF_13 : FR [3, 4, 44, 46, 51, 52, 61, 62, 64, 65, 66, 67, 68, 69, 70, 71, 72] h g16_13 := FR_tr hF2_1 hG_13 (by decide)
        show TT K ly 0 0 19 [(0, vR 44), (1, vR 5), (2, vR 3), (3, vI b)] [] g16_13
        refine TT_aload_n hK rfl 0 rfl dX10_restore_19 ?_
        refine gf_X10_58 hK (by decide) rfl (q := 67) rfl rfl dX10_restore_20 ?_
        refine TT_aload_n hK rfl 0 rfl dX10_restore_23 ?_
        refine gf_X10_12 hK (by decide) rfl (q := 45) rfl rfl dX10_restore_24 ?_
        refine gf_X10_147 hK (by decide) rfl (q := 49) rfl rfl dX10_restore_27 ?_
        refine TT_iload_n hK rfl 3 rfl dX10_restore_30 ?_
        refine TT_iald hK (o := 49) (n := 10) (by decide) rfl (by first | omega | (simp [up, setR] <;> omega)) (by first | omega | (simp [up, setR] <;> omega)) (v := (h 49) b) (rd_ (((hG_13 49 (by decide))).trans (hF2_1 49 (by decide))) rfl) dX10_restore_31 ?_
        have r14 := ty_49 (i := b) (v := (h 49) b) hT_13 (rd_ (((hG_13 49 (by decide))).trans (hF2_1 49 (by decide))) rfl) (by omega) (by omega)
        refine TT_aload_n hK rfl 0 rfl dX10_restore_32 ?_
        refine gf_X10_12 hK (by decide) rfl (q := 45) rfl rfl dX10_restore_33 ?_
        refine gf_X10_150 hK (by decide) rfl (q := 50) rfl rfl dX10_restore_36 ?_
        refine TT_iload_n hK rfl 3 rfl dX10_restore_39 ?_
        refine TT_iald hK (o := 50) (n := 10) (by decide) rfl (by first | omega | (simp [up, setR] <;> omega)) (by first | omega | (simp [up, setR] <;> omega)) (v := (h 50) b) (rd_ (((hG_13 50 (by decide))).trans (hF2_1 50 (by decide))) rfl) dX10_restore_40 ?_
        have r15 := ty_50 (i := b) (v := (h 50) b) hT_13 (rd_ (((hG_13 50 (by decide))).trans (hF2_1 50 (by decide))) rfl) (by omega) (by omega)
        refine TT_aload_n hK rfl 0 rfl dX10_restore_41 ?_
        refine gf_X10_12 hK (by decide) rfl (q := 45) rfl rfl dX10_restore_42 ?_
        refine TT_iload_n hK rfl 3 rfl dX10_restore_45 ?_
        refine iv_X10_153 hK (s_X0_kindOf_45 b g16_13 hT_13 (by first | omega | (simp [up, setR] <;> omega))) (by decide) rfl ⟨by decide, by decide⟩ (by decide) rfl rfl (Nat.le_of_ble_eq_true rfl) ⟨by decide, by decide⟩ dX10_restore_46 ?_
        intro r9 g46_16 hp9
        obtain ⟨⟨hT_16, hG_16⟩, z46_16, hr9, hz_16⟩ := hp9
        rw [hr9]
        have hF_16 : FR [3, 4, 44, 46, 51, 52, 61, 62, 64, 65, 66, 67, 68, 69, 70, 71, 72] h g46_16 := FR_tr hF_13 hG_16 (by decide)
        show TT K ly 0 0 49 [(0, vR 44), (1, vR 5), (2, vR 3), (3, vI b)] [vI z46_16, vI ((h 50) b), vI ((h 49) b), vR 67] g46_16
        refine iv_X10_156 hK (s_X4_begin_67 ((h 49) b) ((h 50) b) z46_16 g46_16 hT_16 (by first | omega | (simp [up, setR] <;> omega)) (by first | omega | (simp [up, setR] <;> omega)) (by first | omega | (simp [up, setR] <;> omega))) (by decide) rfl ⟨by decide, by decide⟩ (by decide) rfl rfl (Nat.le_of_ble_eq_true rfl) ⟨by decide, by decide⟩ dX10_restore_49 ?_
        intro r9 g49_17 hp9
        obtain ⟨⟨hT_17, hG_17⟩, hr9⟩ := hp9
        rw [hr9]
        have hF_17 : FR [3, 4, 44, 46, 51, 52, 61, 62, 64, 65, 66, 67, 68, 69, 70, 71, 72] h g49_17 := FR_tr hF_16 hG_17 (by decide)
        show TT K ly 0 0 52 [(0, vR 44), (1, vR 5), (2, vR 3), (3, vI b)] [] g49_17
        refine TT_iconst hK dX10_restore_52 ?_
        refine TT_istore hK (lv' := [(4, vI 0), (0, vR 44), (1, vR 5), (2, vR 3), (3, vI b)]) (by decide) rfl dX10_restore_53 ?_
        have L55_18 : ∀ (k18 : Nat) (k : Int) (w55_18 : Hp_), TY w55_18 → FR [3, 4, 44, 46, 51, 52, 61, 62, 64, 65, 66, 67, 68, 69, 70, 71, 72] h w55_18 → (0 ≤ k ∧ k ≤ 2147483647) → (∀ j : Int, 0 ≤ j → j < b → (w55_18 61) j = h 54 j) → ((2147483647 : Int) - k).toNat < k18 → TT K ly 0 0 55 [(0, vR 44), (1, vR 5), (2, vR 3), (3, vI b), (4, vI k)] [] w55_18 := by
          intro k18
          induction k18 with
          | zero => intro k w55_18 hT55_18 hF55_18 hk ht hk18; exact absurd hk18 (Nat.not_lt_zero _)
          | succ k18 ih18 =>
            intro k w55_18 hT55_18 hF55_18 hk ht hk18
            refine TT_iload hK 4 rfl dX10_restore_55 ?_
            refine TT_aload_n hK rfl 0 rfl dX10_restore_57 ?_
            refine gf_X10_22 hK (by decide) rfl (q := 54) rfl rfl dX10_restore_58 ?_
            refine TT_iload_n hK rfl 3 rfl dX10_restore_61 ?_
            refine TT_iald hK (o := 54) (n := 10) (by decide) rfl (by first | omega | (simp [up, setR] <;> omega)) (by first | omega | (simp [up, setR] <;> omega)) (v := (h 54) b) (rd_ (hF55_18 54 (by decide)) rfl) dX10_restore_62 ?_
            have r19 := ty_54 (i := b) (v := (h 54) b) hT55_18 (rd_ (hF55_18 54 (by decide)) rfl) (by omega) (by omega)
            refine TT_icmp_ge hK (tgt := 87) (irm (by omega) (by omega)) (irm (by omega) (by omega)) dX10_restore_63 (by decide) (fun hb63_20 => ?_) (fun hb63_20 => ?_)
            · refine TT_aload_n hK rfl 0 rfl dX10_restore_87 ?_
              refine TT_iload_n hK rfl 3 rfl dX10_restore_88 ?_
              have e21_47 : w55_18 47 = h 47 := (hF55_18 47 (by decide))
              have e22_48 : w55_18 48 = h 48 := (hF55_18 48 (by decide))
              have e23_49 : w55_18 49 = h 49 := (hF55_18 49 (by decide))
              have e24_50 : w55_18 50 = h 50 := (hF55_18 50 (by decide))
              refine iv_X10_162 hK (s_X10_keepNumbers_44 b w55_18 hT55_18 (by first | omega | (simp [up, setR] <;> omega)) (by rewrite [e21_47, e22_48, e23_49, e24_50]; first | assumption | exact hbd)) (by decide) rfl ⟨by decide, by decide⟩ (by decide) rfl rfl (Nat.le_of_ble_eq_true rfl) ⟨by decide, by decide⟩ dX10_restore_89 ?_
              intro r9 g89_25 hp9
              obtain ⟨⟨hT_25, hG_25⟩, hr9⟩ := hp9
              rw [hr9]
              have hF_25 : FR [3, 4, 44, 46, 51, 52, 61, 62, 64, 65, 66, 67, 68, 69, 70, 71, 72] h g89_25 := FR_tr hF55_18 hG_25 (by decide)
              show TT K ly 0 0 92 [(0, vR 44), (1, vR 5), (2, vR 3), (3, vI b), (4, vI k)] [] g89_25
              refine TT_aload_n hK rfl 0 rfl dX10_restore_92 ?_
              refine gf_X10_43 hK (by decide) rfl (q := 61) rfl rfl dX10_restore_93 ?_
              refine TT_iload_n hK rfl 3 rfl dX10_restore_96 ?_
              refine TT_aload_n hK rfl 0 rfl dX10_restore_97 ?_
              refine gf_X10_22 hK (by decide) rfl (q := 54) rfl rfl dX10_restore_98 ?_
              refine TT_iload_n hK rfl 3 rfl dX10_restore_101 ?_
              refine TT_iald hK (o := 54) (n := 10) (by decide) rfl (by first | omega | (simp [up, setR] <;> omega)) (by first | omega | (simp [up, setR] <;> omega)) (v := (h 54) b) (rd_ (((hG_25 54 (by decide))).trans (hF55_18 54 (by decide))) rfl) dX10_restore_102 ?_
              refine TT_iast hK (o := 61) (n := 10) (by decide) rfl (by omega) (by omega) dX10_restore_103 ?_
              refine TT_hp (h' := setO g89_25 61 (fup (w55_18 61) b ((h 54) b))) (up_can (hG_25 61 (by decide)) rfl rfl) ?_
              have hT_26 : TY (setO g89_25 61 (fup (w55_18 61) b ((h 54) b))) := tu_61 hT_25 (show up g89_25 61 b ((h 54) b) = (setO g89_25 61 (fup (w55_18 61) b ((h 54) b))) from up_can (hG_25 61 (by decide)) rfl rfl) (by omega)
              have hF_26 : FR [3, 4, 44, 46, 51, 52, 61, 62, 64, 65, 66, 67, 68, 69, 70, 71, 72] h (setO g89_25 61 (fup (w55_18 61) b ((h 54) b))) := FR_up (show up g89_25 61 b ((h 54) b) = (setO g89_25 61 (fup (w55_18 61) b ((h 54) b))) from up_can (hG_25 61 (by decide)) rfl rfl) hF_25 (by decide)
              refine TT_iinc hK (v := b + 1) (lv' := [(3, vI (b + 1)), (0, vR 44), (1, vR 5), (2, vR 3), (4, vI k)]) 3 rfl rfl (by decide) rfl dX10_restore_104 ?_
              refine TT_goto hK (tgt := 2) dX10_restore_107 (by decide) ?_
              refine TT_sub [1, 2, 3, 0] rfl ?_
              have e27_61 : (setO g89_25 61 (fup (w55_18 61) b ((h 54) b))) 61 = fup (w55_18 61) b ((h 54) b) := sOf_eq _ _ _
              exact ih1 (b + 1) (setO g89_25 61 (fup (w55_18 61) b ((h 54) b))) hT_26 hF_26 (by first | omega | (simp [up, setR] <;> omega)) (by rewrite [e27_61]; intro j j0 j1; by_cases e : j = b; (rw [e, fup_eq]); (rw [fup_ne _ _ e]; exact ht j j0 (by omega))) (by first | omega | (simp [up, setR] <;> omega))
            · refine TT_aload_n hK rfl 0 rfl dX10_restore_66 ?_
              refine gf_X10_58 hK (by decide) rfl (q := 67) rfl rfl dX10_restore_67 ?_
              refine TT_iload hK 4 rfl dX10_restore_70 ?_
              refine TT_aload_n hK rfl 0 rfl dX10_restore_72 ?_
              refine gf_X10_18 hK (by decide) rfl (q := 53) rfl rfl dX10_restore_73 ?_
              refine TT_iload_n hK rfl 3 rfl dX10_restore_76 ?_
              refine TT_iald hK (o := 53) (n := 10) (by decide) rfl (by first | omega | (simp [up, setR] <;> omega)) (by first | omega | (simp [up, setR] <;> omega)) (v := (h 53) b) (rd_ (hF55_18 53 (by decide)) rfl) dX10_restore_77 ?_
              have r28 := ty_53 (i := b) (v := (h 53) b) hT55_18 (rd_ (hF55_18 53 (by decide)) rfl) (by omega) (by omega)
              refine iv_X10_159 hK (s_X4_runPass_67 k ((h 53) b) w55_18 hT55_18 (by first | omega | (simp [up, setR] <;> omega)) (by first | omega | (simp [up, setR] <;> omega))) (by decide) rfl ⟨by decide, by decide⟩ (by decide) rfl rfl (Nat.le_of_ble_eq_true rfl) ⟨by decide, by decide⟩ dX10_restore_78 ?_
              intro r9 g78_29 hp9
              obtain ⟨⟨hT_29, hG_29⟩, hr9⟩ := hp9
              rw [hr9]
              have hF_29 : FR [3, 4, 44, 46, 51, 52, 61, 62, 64, 65, 66, 67, 68, 69, 70, 71, 72] h g78_29 := FR_tr hF55_18 hG_29 (by decide)
              show TT K ly 0 0 81 [(0, vR 44), (1, vR 5), (2, vR 3), (3, vI b), (4, vI k)] [] g78_29
              refine TT_iinc hK (v := k + 1) (lv' := [(4, vI (k + 1)), (0, vR 44), (1, vR 5), (2, vR 3), (3, vI b)]) 4 rfl rfl (by decide) rfl dX10_restore_81 ?_
              refine TT_goto hK (tgt := 55) dX10_restore_84 (by decide) ?_
              refine TT_sub [1, 2, 3, 4, 0] rfl ?_
              have e30_61 : g78_29 61 = w55_18 61 := (hG_29 61 (by decide))
              exact ih18 (k + 1) g78_29 hT_29 hF_29 (by first | omega | (simp [up, setR] <;> omega)) (by rewrite [e30_61]; exact ht) (by first | omega | (simp [up, setR] <;> omega))
        refine TT_sub [1, 2, 3, 4, 0] rfl ?_
        have e31_61 : g49_17 61 = w2_1 61 := ((hG_17 61 (by decide))).trans (((hG_16 61 (by decide))).trans (hG_13 61 (by decide)))
        exact L55_18 ((((2147483647 : Int) - 0).toNat) + 1) 0 g49_17 hT_17 hF_17 (by first | omega | (simp [up, setR] <;> omega)) (by rewrite [e31_61]; exact ht) (Nat.lt_succ_self _)
  refine TT_sub [1, 2, 3, 0] rfl ?_
  exact L2_1 ((((10 : Int) - 0).toNat) + 1) 0 h hT hF (by first | omega | (simp [up, setR] <;> omega)) (by intro j j0 j1; exfalso; omega) (Nat.lt_succ_self _)
set_option maxRecDepth 20000 in
theorem s_passesTaken_e (b : Int) (h : Hp_) (hT : TY h) (hb : -2147483648 ≤ b ∧ b ≤ 2147483647) : Ctr yX10_passesTaken cX10_passesTaken 2 (some .int) (rmd 0) ly ly 0 0 [vR 44, vI b] h (fun r h' => (TY h' ∧ FR [] h h') ∧ ∃ z : Int, r = some (vI z) ∧ (-2147483648 ≤ z ∧ z ≤ 2147483647) ∧ (((0 ≤ b ∧ b < (h 44 12)) → z = (h 61) b) ∧ (¬(0 ≤ b ∧ b < (h 44 12)) → z = -100000))) := by
  refine Ctr_of (by decide) (Nat.le_of_ble_eq_true rfl) ⟨Nat.le_refl _, Nat.le_refl _⟩ (fun K hK hQ _ => ?_)
  show TT K ly 0 0 0 [(0, vR 44), (1, vI b)] [] h
  have hF : FR [] h h := FR_rf _ _
  refine TT_iload_n hK rfl 1 rfl dX10_passesTaken_0 ?_
  refine TT_if_lt hK (tgt := 21) (irm (by omega) (by omega)) dX10_passesTaken_1 (by decide) (fun hb1_1 => ?_) (fun hb1_1 => ?_)
  · refine TT_ldc hK lc_X10_66 dX10_passesTaken_21 ?_
    refine TT_iret hK hQ ?_ dX10_passesTaken_23
    exact ⟨⟨hT, hF⟩, (-100000), rfl, (by omega), (by first | exact ⟨fun _ => rfl, fun q => absurd (by omega) q⟩ | exact ⟨fun q => by exfalso; omega, fun _ => rfl⟩)⟩
  · refine TT_iload_n hK rfl 1 rfl dX10_passesTaken_4 ?_
    refine TT_aload_n hK rfl 0 rfl dX10_passesTaken_5 ?_
    refine gf_X10_62 hK (by decide) rfl (v := (h 44) 12) rfl dX10_passesTaken_6 ?_
    have r2 := ty_44_12 (v := (h 44) 12) hT rfl
    refine TT_icmp_ge hK (tgt := 21) (irm (by omega) (by omega)) (irm (by omega) (by omega)) dX10_passesTaken_9 (by decide) (fun hb9_3 => ?_) (fun hb9_3 => ?_)
    · refine TT_ldc hK lc_X10_66 dX10_passesTaken_21 ?_
      refine TT_iret hK hQ ?_ dX10_passesTaken_23
      exact ⟨⟨hT, hF⟩, (-100000), rfl, (by omega), (by first | exact ⟨fun _ => rfl, fun q => absurd (by omega) q⟩ | exact ⟨fun q => by exfalso; omega, fun _ => rfl⟩)⟩
    · refine TT_aload_n hK rfl 0 rfl dX10_passesTaken_12 ?_
      refine gf_X10_43 hK (by decide) rfl (q := 61) rfl rfl dX10_passesTaken_13 ?_
      refine TT_iload_n hK rfl 1 rfl dX10_passesTaken_16 ?_
      refine TT_iald hK (o := 61) (n := 10) (by decide) rfl (by first | omega | (simp [up, setR] <;> omega)) (by first | omega | (simp [up, setR] <;> omega)) (v := (h 61) b) rfl dX10_passesTaken_17 ?_
      have r4 := ty_61 (i := b) (v := (h 61) b) hT rfl (by omega) (by omega)
      refine TT_goto hK (tgt := 23) dX10_passesTaken_18 (by decide) ?_
      refine TT_iret hK hQ ?_ dX10_passesTaken_23
      exact ⟨⟨hT, hF⟩, ((h 61) b), rfl, (by omega), (by first | exact ⟨fun _ => rfl, fun q => absurd (by omega) q⟩ | exact ⟨fun q => by exfalso; omega, fun _ => rfl⟩)⟩
set_option maxRecDepth 20000 in
theorem s_ctaken_e (b : Int) (h : Hp_) (hT : TY h) (hb : -2147483648 ≤ b ∧ b ≤ 2147483647) : Ctr yX11_taken cX11_taken 2 (some .int) (rmd 1) ly ly 0 0 [vR 0, vI b] h (fun r h' => (TY h' ∧ FR [] h h') ∧ ∃ z : Int, r = some (vI z) ∧ (-2147483648 ≤ z ∧ z ≤ 2147483647) ∧ (((0 ≤ b ∧ b < (h 44 12)) → z = (h 61) b) ∧ (¬(0 ≤ b ∧ b < (h 44 12)) → z = -100000))) := by
  refine Ctr_of (by decide) (Nat.le_of_ble_eq_true rfl) ⟨Nat.le_refl _, Nat.le_refl _⟩ (fun K hK hQ _ => ?_)
  show TT K ly 0 0 0 [(0, vR 0), (1, vI b)] [] h
  have hF : FR [] h h := FR_rf _ _
  refine TT_aload_n hK rfl 0 rfl dX11_taken_0 ?_
  refine gf_X11_36 hK (by decide) rfl (q := 44) rfl rfl dX11_taken_1 ?_
  refine TT_iload_n hK rfl 1 rfl dX11_taken_4 ?_
  refine iv_X11_118 hK (s_passesTaken_e b h hT (by first | omega | (simp [up, setR] <;> omega))) (by decide) rfl ⟨by decide, by decide⟩ (by decide) rfl rfl (Nat.le_of_ble_eq_true rfl) ⟨by decide, by decide⟩ dX11_taken_5 ?_
  intro r9 g5_1 hp9
  obtain ⟨⟨hT_1, hG_1⟩, z5_1, hr9, hz_1, q1_1⟩ := hp9
  rw [hr9]
  have hF_1 : FR [] h g5_1 := FR_tr hF hG_1 (by decide)
  rw [show h 44 12 = (h 44) 12 from rfl] at q1_1
  show TT K ly 0 0 8 [(0, vR 0), (1, vI b)] [vI z5_1] g5_1
  refine TT_iret hK hQ ?_ dX11_taken_8
  exact ⟨⟨hT_1, hF_1⟩, z5_1, rfl, (by omega), (by assumption)⟩
set_option maxRecDepth 20000 in
theorem s_taken_e (b : Int) (h : Hp_) (hT : TY h) (hb : -2147483648 ≤ b ∧ b ≤ 2147483647) : Ctr yX12_taken cX12_taken 2 (some .int) (rmd 1) ly ly 0 0 [vR 73, vI b] h (fun r h' => (TY h' ∧ FRM [73] [2] h h') ∧ ∃ z : Int, r = some (vI z) ∧ (-2147483648 ≤ z ∧ z ≤ 2147483647) ∧ (((0 ≤ b ∧ b < (h 73 55)) → z = (h 106) b) ∧ (¬(0 ≤ b ∧ b < (h 73 55)) → z = -100000))) := by
  refine Ctr_of (by decide) (Nat.le_of_ble_eq_true rfl) ⟨Nat.le_refl _, Nat.le_refl _⟩ (fun K hK hQ _ => ?_)
  show TT K ly 0 0 0 [(0, vR 73), (1, vI b)] [] h
  have hF : FRM [73] [2] h h := FRM_rf _ _ _
  refine TT_aload_n hK rfl 0 rfl dX12_taken_0 ?_
  refine TT_iconst hK dX12_taken_1 ?_
  refine pf_X12_117 hK (by decide) rfl dX12_taken_2 ?_
  refine TT_hp (h' := setO h 73 (fup (h 73) 2 0)) (up_can rfl rfl rfl) ?_
  have hT_1 : TY (setO h 73 (fup (h 73) 2 0)) := tu_73_2 hT (show up h 73 2 0 = (setO h 73 (fup (h 73) 2 0)) from up_can rfl rfl rfl) (by omega)
  have hF_1 : FRM [73] [2] h (setO h 73 (fup (h 73) 2 0)) := FRM_f (show up h 73 2 0 = (setO h 73 (fup (h 73) 2 0)) from up_can rfl rfl rfl) hF (by decide) (by decide)
  refine TT_iload_n hK rfl 1 rfl dX12_taken_5 ?_
  refine TT_iconst hK dX12_taken_6 ?_
  refine TT_aload_n hK rfl 0 rfl dX12_taken_7 ?_
  refine gf_X12_398 hK (by decide) rfl (v := (h 73) 55) (rd_ (sOf_eq _ _ _) (fup_ne _ _ (by decide))) dX12_taken_8 ?_
  have r2 := ty_73_55 (v := (h 73) 55) hT_1 (rd_ (sOf_eq _ _ _) (fup_ne _ _ (by decide)))
  refine TT_iconst hK dX12_taken_11 ?_
  refine TT_isub hK dX12_taken_12 ?_
  refine iv_X12_120 hK (s_X12_within b 0 (((h 73) 55) - 1) (setO h 73 (fup (h 73) 2 0)) hT_1 (by first | omega | (simp [up, setR] <;> omega)) (by first | omega | (simp [up, setR] <;> omega)) (by first | omega | (simp [up, setR] <;> omega))) ⟨by decide, by decide⟩ (by decide) rfl rfl (Nat.le_of_ble_eq_true rfl) ⟨by decide, by decide⟩ dX12_taken_13 ?_
  intro r9 g13_3 hp9
  obtain ⟨⟨hT_3, hG_3⟩, z13_3, hr9, hz_3, p1_3, p2_3⟩ := hp9
  rw [hr9]
  have hF_3 : FRM [73] [2] h g13_3 := FRM_tr hF_1 hG_3 (by decide) (by decide)
  show TT K ly 0 0 16 [(0, vR 73), (1, vI b)] [vI z13_3] g13_3
  refine TT_if_eq hK (tgt := 28) (irm (by omega) (by omega)) dX12_taken_16 (by decide) (fun hb16_4 => ?_) (fun hb16_4 => ?_)
  · refine TT_ldc hK lc_X12_128 dX12_taken_28 ?_
    refine TT_iret hK hQ ?_ dX12_taken_30
    exact ⟨⟨hT_3, hF_3⟩, (-100000), rfl, (by omega), (by first | exact ⟨fun _ => rfl, fun q => absurd (by omega) q⟩ | exact ⟨fun q => by exfalso; omega, fun _ => rfl⟩)⟩
  · refine TT_aload_n hK rfl 0 rfl dX12_taken_19 ?_
    refine gf_X12_114 hK (by decide) rfl (q := 106) rfl rfl dX12_taken_20 ?_
    refine TT_iload_n hK rfl 1 rfl dX12_taken_23 ?_
    refine TT_iald hK (o := 106) (n := 10) (by decide) rfl (by first | omega | (simp [up, setR] <;> omega)) (by first | omega | (simp [up, setR] <;> omega)) (v := (h 106) b) (rd_ (((hG_3.1 106 (by decide))).trans (sOf_ne _ _ (by decide))) rfl) dX12_taken_24 ?_
    have r5 := ty_106 (i := b) (v := (h 106) b) hT_3 (rd_ (((hG_3.1 106 (by decide))).trans (sOf_ne _ _ (by decide))) rfl) (by omega) (by omega)
    refine TT_goto hK (tgt := 30) dX12_taken_25 (by decide) ?_
    refine TT_iret hK hQ ?_ dX12_taken_30
    exact ⟨⟨hT_3, hF_3⟩, ((h 106) b), rfl, (by omega), (by first | exact ⟨fun _ => rfl, fun q => absurd (by omega) q⟩ | exact ⟨fun q => by exfalso; omega, fun _ => rfl⟩)⟩
set_option maxRecDepth 20000 in
theorem s_cdecode_t (o9 : Int → Int) (n : Int) (h : Hp_) (hT : TY h) (hn : -2147483648 ≤ n ∧ n ≤ 2147483647) (hbd : BDQ (h 47) (h 49) (h 48) (h 50)) (ho : ∀ j : Int, 0 ≤ j → j < (h 5 1) → (h 6) j = o9 j) : CtrB yX11_decode cX11_decode 3 (some .int) rmB ly 1 6 [vR 0, vI n] h (fun r h' => (TY h' ∧ FR [3, 4, 5, 44, 45, 46, 47, 48, 49, 50, 51, 52, 53, 54, 55, 56, 57, 58, 59, 60, 61, 62, 64, 65, 66, 67, 68, 69, 70, 71, 72] h h') ∧ ∃ z : Int, r = some (vI z) ∧ (0 ≤ z ∧ z ≤ 12) ∧ (BDQ (h' 47) (h' 49) (h' 48) (h' 50)) ∧ (((4 ≤ n ∧ n ≤ (h 5 1)) ∧ 0 ≤ (tpZ o9 n)) ∧ z = (tpZ o9 n)) ∧ ((h' 5 1) = (h 5 1)) ∧ ((∀ j : Int, 0 ≤ j → j < 3 * o9 2 + 1 → (h' 61) j = (tpS o9 n).2 j) ∧ (h' 44 12) = 3 * o9 2 + 1)) (fun h' => (TY h' ∧ FR [3, 4, 5, 44, 45, 46, 47, 48, 49, 50, 51, 52, 53, 54, 55, 56, 57, 58, 59, 60, 61, 62, 64, 65, 66, 67, 68, 69, 70, 71, 72] h h') ∧ (BDQ (h' 47) (h' 49) (h' 48) (h' 50)) ∧ (¬((4 ≤ n ∧ n ≤ (h 5 1)) ∧ 0 ≤ (tpZ o9 n))) ∧ ((h' 5 1) = (h 5 1)) ∧ ((h' 61) = (h 61) ∧ (h' 44 12) = (h 44 12))) := by
  refine CtrB_of (by decide) (Nat.le_of_ble_eq_true rfl) ⟨by decide, by decide⟩ (fun K hK hQ => ?_)
  show TT K ly 0 0 0 [(0, vR 0), (1, vI n)] [] h
  have hF : FR [3, 4, 5, 44, 45, 46, 47, 48, 49, 50, 51, 52, 53, 54, 55, 56, 57, 58, 59, 60, 61, 62, 64, 65, 66, 67, 68, 69, 70, 71, 72] h h := FR_rf _ _
  refine TT_iload_n hK rfl 1 rfl dX11_decode_0 ?_
  refine TT_iconst hK dX11_decode_1 ?_
  refine TT_icmp_lt hK (tgt := 16) (irm (by omega) (by omega)) (by decide) dX11_decode_2 (by decide) (fun hb2_1 => ?_) (fun hb2_1 => ?_)
  · have e2_5_1 : h 5 1 = (h 5) 1 := rfl
    have e3_44_12 : h 44 12 = (h 44) 12 := rfl
    exact TT_throwB hK hQ 3 (by decide) ⟨⟨hT, hF⟩, (by first | assumption | exact hbd), (by intro q; omega), (by rewrite [e2_5_1]; omega), (by rewrite [e3_44_12]; exact ⟨rfl, rfl⟩)⟩ (Nat.le_of_ble_eq_true rfl) ⟨by decide, by decide⟩ dX11_decode_16 dX11_decode_19 dX11_decode_20 dX11_decode_22 dX11_decode_25
  · refine TT_iload_n hK rfl 1 rfl dX11_decode_5 ?_
    refine TT_aload_n hK rfl 0 rfl dX11_decode_6 ?_
    refine gf_X11_22 hK (by decide) rfl (q := 5) rfl rfl dX11_decode_7 ?_
    refine iv_X11_81 hK (s_len5_e h hT ) (by decide) rfl ⟨by decide, by decide⟩ (by decide) rfl rfl (Nat.le_of_ble_eq_true rfl) ⟨by decide, by decide⟩ dX11_decode_10 ?_
    intro r9 g10_4 hp9
    obtain ⟨⟨hT_4, hG_4⟩, z10_4, hr9, hz_4, e_4⟩ := hp9
    rw [hr9]
    have hF_4 : FR [3, 4, 5, 44, 45, 46, 47, 48, 49, 50, 51, 52, 53, 54, 55, 56, 57, 58, 59, 60, 61, 62, 64, 65, 66, 67, 68, 69, 70, 71, 72] h g10_4 := FR_tr hF hG_4 (by decide)
    rw [show h 5 1 = (h 5) 1 from rfl] at e_4
    have e_at10 := e_4
    show TT K ly 0 0 13 [(0, vR 0), (1, vI n)] [vI z10_4, vI n] g10_4
    refine TT_icmp_le hK (tgt := 26) (irm (by omega) (by omega)) (irm (by omega) (by omega)) dX11_decode_13 (by decide) (fun hb13_5 => ?_) (fun hb13_5 => ?_)
    · refine TT_aload_n hK rfl 0 rfl dX11_decode_26 ?_
      refine gf_X11_36 hK (by decide) rfl (q := 44) rfl rfl dX11_decode_27 ?_
      refine TT_aload_n hK rfl 0 rfl dX11_decode_30 ?_
      refine gf_X11_22 hK (by decide) rfl (q := 5) rfl rfl dX11_decode_31 ?_
      refine TT_iload_n hK rfl 1 rfl dX11_decode_34 ?_
      have e6_47 : g10_4 47 = h 47 := (hG_4 47 (by decide))
      have e7_48 : g10_4 48 = h 48 := (hG_4 48 (by decide))
      have e8_49 : g10_4 49 = h 49 := (hG_4 49 (by decide))
      have e9_50 : g10_4 50 = h 50 := (hG_4 50 (by decide))
      have e10_5_1 : g10_4 5 1 = (h 5) 1 := rd_ (hG_4 5 (by decide)) rfl
      have e11_6 : g10_4 6 = h 6 := (hG_4 6 (by decide))
      have e12_5_1 : g10_4 5 1 = (h 5) 1 := rd_ (hG_4 5 (by decide)) rfl
      refine iv_X11_108 hK (s_takePackets_e o9 n g10_4 hT_4 (by first | omega | (simp [up, setR] <;> omega)) (by rewrite [e6_47, e7_48, e8_49, e9_50]; first | assumption | exact hbd) (by rewrite [e10_5_1, e11_6]; first | assumption | (intro j j0 j1; exact ho j j0 (by omega))) (by rewrite [e12_5_1]; first | omega | (simp [up, setR] <;> omega))) (by decide) rfl ⟨by decide, by decide⟩ (by decide) rfl rfl (Nat.le_of_ble_eq_true rfl) ⟨by decide, by decide⟩ dX11_decode_35 ?_
      intro r9 g35_13 hp9
      obtain ⟨⟨hT_13, hG_13⟩, z35_13, hr9, hz_13, p1_13, tp_13, tk_13, k51_13⟩ := hp9
      rw [hr9]
      have hF_13 : FR [3, 4, 5, 44, 45, 46, 47, 48, 49, 50, 51, 52, 53, 54, 55, 56, 57, 58, 59, 60, 61, 62, 64, 65, 66, 67, 68, 69, 70, 71, 72] h g35_13 := FR_tr hF_4 hG_13 (by decide)
      rw [show g10_4 5 1 = (h 5) 1 from rd_ (hG_4 5 (by decide)) rfl] at k51_13
      have tp_at35 := tp_13
      have tk_at35 := tk_13
      have k51_at35 := k51_13
      show TT K ly 0 0 38 [(0, vR 0), (1, vI n)] [vI z35_13] g35_13
      refine TT_istore_n hK rfl (lv' := [(2, vI z35_13), (0, vR 0), (1, vI n)]) (by decide) rfl dX11_decode_38 ?_
      refine TT_iload_n hK rfl 0 rfl dX11_decode_39 ?_
      refine TT_if_ge hK (tgt := 53) (irm (by omega) (by omega)) dX11_decode_40 (by decide) (fun hb40_14 => ?_) (fun hb40_14 => ?_)
      · refine TT_aload_n hK rfl 1 rfl dX11_decode_53 ?_
        refine gf_X11_36 hK (by decide) rfl (q := 44) rfl rfl dX11_decode_54 ?_
        refine TT_aload_n hK rfl 1 rfl dX11_decode_57 ?_
        refine gf_X11_22 hK (by decide) rfl (q := 5) rfl rfl dX11_decode_58 ?_
        refine TT_aload_n hK rfl 1 rfl dX11_decode_61 ?_
        refine gf_X11_16 hK (by decide) rfl (q := 3) rfl rfl dX11_decode_62 ?_
        refine iv_X11_114 hK (s_restore_t g35_13 hT_13 (by first | assumption | exact hbd)) (by decide) rfl ⟨by decide, by decide⟩ (by decide) rfl rfl (Nat.le_of_ble_eq_true rfl) ⟨by decide, by decide⟩ dX11_decode_65 ?_
        intro r9 g65_15 hp9
        obtain ⟨⟨hT_15, hG_15⟩, hr9, p1_15, rt_15⟩ := hp9
        rw [hr9]
        have hF_15 : FR [3, 4, 5, 44, 45, 46, 47, 48, 49, 50, 51, 52, 53, 54, 55, 56, 57, 58, 59, 60, 61, 62, 64, 65, 66, 67, 68, 69, 70, 71, 72] h g65_15 := FR_tr hF_13 hG_15 (by decide)
        rw [show g35_13 45 10 = (g35_13 45) 10 from rfl] at rt_15
        have rt_at65 := rt_15
        show TT K ly 0 0 68 [(2, vI z35_13), (0, vR 0), (1, vI n)] [] g65_15
        refine TT_iload_n hK rfl 0 rfl dX11_decode_68 ?_
        refine TT_widen (kc' := 1) (ks' := 6) (by decide) (by decide) ?_
        refine TT_iretB hK hQ ?_ dX11_decode_69
        have e16_47 : g65_15 47 = g35_13 47 := (hG_15 47 (by decide))
        have e17_48 : g65_15 48 = g35_13 48 := (hG_15 48 (by decide))
        have e18_49 : g65_15 49 = g35_13 49 := (hG_15 49 (by decide))
        have e19_50 : g65_15 50 = g35_13 50 := (hG_15 50 (by decide))
        have e20_5_1 : g65_15 5 1 = (g35_13 5) 1 := rd_ (hG_15 5 (by decide)) rfl
        have e21_44_12 : g65_15 44 12 = (g65_15 44) 12 := rfl
        exact ⟨⟨hT_15, hF_15⟩, z35_13, rfl, (by omega), (by rewrite [e16_47, e17_48, e18_49, e19_50]; first | assumption | exact hbd), (by exact ⟨⟨by omega, by omega⟩, by omega⟩), (by rewrite [e20_5_1]; omega), (by rewrite [e21_44_12]; have k9 := tk_at35 (by omega); rw [k9.2] at rt_at65; exact ⟨fun j j0 j1 => (rt_at65.1 j j0 j1).trans (k9.1 j j0 j1), rt_at65.2⟩)⟩
      · have e22_5_1 : g35_13 5 1 = (g35_13 5) 1 := rfl
        have e23_44_12 : g35_13 44 12 = (h 44) 12 := rd_ (((hG_13 44 (by decide))).trans (hG_4 44 (by decide))) rfl
        have e24_61 : g35_13 61 = h 61 := ((hG_13 61 (by decide))).trans (hG_4 61 (by decide))
        exact TT_throwB hK hQ 4 (by decide) ⟨⟨hT_13, hF_13⟩, (by first | assumption | exact hbd), (by intro q; omega), (by rewrite [e22_5_1]; omega), (by rewrite [e23_44_12, e24_61]; exact ⟨rfl, rfl⟩)⟩ (Nat.le_of_ble_eq_true rfl) ⟨by decide, by decide⟩ dX11_decode_43 dX11_decode_46 dX11_decode_47 dX11_decode_49 dX11_decode_52
    · have e25_47 : g10_4 47 = h 47 := (hG_4 47 (by decide))
      have e26_48 : g10_4 48 = h 48 := (hG_4 48 (by decide))
      have e27_49 : g10_4 49 = h 49 := (hG_4 49 (by decide))
      have e28_50 : g10_4 50 = h 50 := (hG_4 50 (by decide))
      have e29_5_1 : g10_4 5 1 = (h 5) 1 := rd_ (hG_4 5 (by decide)) rfl
      have e30_44_12 : g10_4 44 12 = (h 44) 12 := rd_ (hG_4 44 (by decide)) rfl
      have e31_61 : g10_4 61 = h 61 := (hG_4 61 (by decide))
      exact TT_throwB hK hQ 3 (by decide) ⟨⟨hT_4, hF_4⟩, (by rewrite [e25_47, e26_48, e27_49, e28_50]; first | assumption | exact hbd), (by intro q; omega), (by rewrite [e29_5_1]; omega), (by rewrite [e30_44_12, e31_61]; exact ⟨rfl, rfl⟩)⟩ (Nat.le_of_ble_eq_true rfl) ⟨by decide, by decide⟩ dX11_decode_16 dX11_decode_19 dX11_decode_20 dX11_decode_22 dX11_decode_25

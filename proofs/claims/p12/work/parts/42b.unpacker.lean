set_option maxRecDepth 20000 in
theorem s_X10_addPart_44 (b s n : Int) (h : Hp_) (hT : TY h) (hb : 0 ≤ b ∧ b ≤ 9) (hs : -2147483648 ≤ s ∧ s ≤ 2147483647) (hn : 0 ≤ n ∧ n ≤ 1048576) : Ctr yX10_addPart cX10_addPart 4 none (rmd 0) ly ly 0 0 [vR 44, vI b, vI s, vI n] h (fun r h' => (TY h' ∧ FR [58, 59, 60] h h') ∧ r = none) := by
  refine Ctr_of (by decide) (Nat.le_of_ble_eq_true rfl) ⟨Nat.le_refl _, Nat.le_refl _⟩ (fun K hK hQ _ => ?_)
  show TT K ly 0 0 0 [(0, vR 44), (1, vI b), (2, vI s), (3, vI n)] [] h
  have hF : FR [58, 59, 60] h h := FR_rf _ _
  refine TT_aload_n hK rfl 0 rfl dX10_addPart_0 ?_
  refine gf_X10_34 hK (by decide) rfl (q := 58) rfl rfl dX10_addPart_1 ?_
  refine TT_iload_n hK rfl 1 rfl dX10_addPart_4 ?_
  refine TT_iald hK (o := 58) (n := 10) (by decide) rfl (by first | omega | (simp [up, setR] <;> omega)) (by first | omega | (simp [up, setR] <;> omega)) (v := (h 58) b) rfl dX10_addPart_5 ?_
  have r1 := ty_58 (i := b) (v := (h 58) b) hT rfl (by omega) (by omega)
  refine TT_iconst hK dX10_addPart_6 ?_
  refine TT_icmp_ge hK (tgt := 52) (irm (by omega) (by omega)) (by decide) dX10_addPart_7 (by decide) (fun hb7_2 => ?_) (fun hb7_2 => ?_)
  · refine TT_vret hK hQ ?_ dX10_addPart_52
    exact ⟨⟨hT, hF⟩, rfl⟩
  · refine TT_aload_n hK rfl 0 rfl dX10_addPart_10 ?_
    refine gf_X10_37 hK (by decide) rfl (q := 59) rfl rfl dX10_addPart_11 ?_
    refine TT_iload_n hK rfl 1 rfl dX10_addPart_14 ?_
    refine TT_iconst hK dX10_addPart_15 ?_
    refine TT_imul hK dX10_addPart_16 ?_
    refine TT_aload_n hK rfl 0 rfl dX10_addPart_17 ?_
    refine gf_X10_34 hK (by decide) rfl (q := 58) rfl rfl dX10_addPart_18 ?_
    refine TT_iload_n hK rfl 1 rfl dX10_addPart_21 ?_
    refine TT_iald hK (o := 58) (n := 10) (by decide) rfl (by first | omega | (simp [up, setR] <;> omega)) (by first | omega | (simp [up, setR] <;> omega)) (v := (h 58) b) rfl dX10_addPart_22 ?_
    refine TT_iadd hK dX10_addPart_23 ?_
    refine TT_iload_n hK rfl 2 rfl dX10_addPart_24 ?_
    refine TT_iast hK (o := 59) (n := 30) (by decide) rfl (by omega) (by omega) dX10_addPart_25 ?_
    refine TT_hp (h' := setO h 59 (fup (h 59) ((b * 3) + ((h 58) b)) s)) (up_can rfl rfl rfl) ?_
    have hT_3 : TY (setO h 59 (fup (h 59) ((b * 3) + ((h 58) b)) s)) := tu_59 hT (show up h 59 ((b * 3) + ((h 58) b)) s = (setO h 59 (fup (h 59) ((b * 3) + ((h 58) b)) s)) from up_can rfl rfl rfl) (by omega)
    have hF_3 : FR [58, 59, 60] h (setO h 59 (fup (h 59) ((b * 3) + ((h 58) b)) s)) := FR_up (show up h 59 ((b * 3) + ((h 58) b)) s = (setO h 59 (fup (h 59) ((b * 3) + ((h 58) b)) s)) from up_can rfl rfl rfl) hF (by decide)
    refine TT_aload_n hK rfl 0 rfl dX10_addPart_26 ?_
    refine gf_X10_40 hK (by decide) rfl (q := 60) rfl rfl dX10_addPart_27 ?_
    refine TT_iload_n hK rfl 1 rfl dX10_addPart_30 ?_
    refine TT_iconst hK dX10_addPart_31 ?_
    refine TT_imul hK dX10_addPart_32 ?_
    refine TT_aload_n hK rfl 0 rfl dX10_addPart_33 ?_
    refine gf_X10_34 hK (by decide) rfl (q := 58) rfl rfl dX10_addPart_34 ?_
    refine TT_iload_n hK rfl 1 rfl dX10_addPart_37 ?_
    refine TT_iald hK (o := 58) (n := 10) (by decide) rfl (by first | omega | (simp [up, setR] <;> omega)) (by first | omega | (simp [up, setR] <;> omega)) (v := (h 58) b) (rd_ (sOf_ne _ _ (by decide)) rfl) dX10_addPart_38 ?_
    refine TT_iadd hK dX10_addPart_39 ?_
    refine TT_iload_n hK rfl 3 rfl dX10_addPart_40 ?_
    refine TT_iast hK (o := 60) (n := 30) (by decide) rfl (by omega) (by omega) dX10_addPart_41 ?_
    refine TT_hp (h' := setO (setO h 59 (fup (h 59) ((b * 3) + ((h 58) b)) s)) 60 (fup (h 60) ((b * 3) + ((h 58) b)) n)) (up_can (sOf_ne _ _ (by decide)) rfl rfl) ?_
    have hT_4 : TY (setO (setO h 59 (fup (h 59) ((b * 3) + ((h 58) b)) s)) 60 (fup (h 60) ((b * 3) + ((h 58) b)) n)) := tu_60 hT_3 (show up (setO h 59 (fup (h 59) ((b * 3) + ((h 58) b)) s)) 60 ((b * 3) + ((h 58) b)) n = (setO (setO h 59 (fup (h 59) ((b * 3) + ((h 58) b)) s)) 60 (fup (h 60) ((b * 3) + ((h 58) b)) n)) from up_can (sOf_ne _ _ (by decide)) rfl rfl) (by omega)
    have hF_4 : FR [58, 59, 60] h (setO (setO h 59 (fup (h 59) ((b * 3) + ((h 58) b)) s)) 60 (fup (h 60) ((b * 3) + ((h 58) b)) n)) := FR_up (show up (setO h 59 (fup (h 59) ((b * 3) + ((h 58) b)) s)) 60 ((b * 3) + ((h 58) b)) n = (setO (setO h 59 (fup (h 59) ((b * 3) + ((h 58) b)) s)) 60 (fup (h 60) ((b * 3) + ((h 58) b)) n)) from up_can (sOf_ne _ _ (by decide)) rfl rfl) hF_3 (by decide)
    refine TT_aload_n hK rfl 0 rfl dX10_addPart_42 ?_
    refine gf_X10_34 hK (by decide) rfl (q := 58) rfl rfl dX10_addPart_43 ?_
    refine TT_iload_n hK rfl 1 rfl dX10_addPart_46 ?_
    refine TT_dup2 hK rfl rfl dX10_addPart_47 ?_
    refine TT_iald hK (o := 58) (n := 10) (by decide) rfl (by first | omega | (simp [up, setR] <;> omega)) (by first | omega | (simp [up, setR] <;> omega)) (v := (h 58) b) (rd_ ((sOf_ne _ _ (by decide)).trans (sOf_ne _ _ (by decide))) rfl) dX10_addPart_48 ?_
    refine TT_iconst hK dX10_addPart_49 ?_
    refine TT_iadd hK dX10_addPart_50 ?_
    refine TT_iast hK (o := 58) (n := 10) (by decide) rfl (by omega) (by omega) dX10_addPart_51 ?_
    refine TT_hp (h' := setO (setO (setO h 58 (fup (h 58) b (((h 58) b) + 1))) 59 (fup (h 59) ((b * 3) + ((h 58) b)) s)) 60 (fup (h 60) ((b * 3) + ((h 58) b)) n)) (up_can ((sOf_ne _ _ (by decide)).trans (sOf_ne _ _ (by decide))) rfl ((setO_comm _ _ _ (by decide)).trans (setO_cg ((setO_comm _ _ _ (by decide)).trans (setO_cg rfl rfl)) rfl))) ?_
    have hT_5 : TY (setO (setO (setO h 58 (fup (h 58) b (((h 58) b) + 1))) 59 (fup (h 59) ((b * 3) + ((h 58) b)) s)) 60 (fup (h 60) ((b * 3) + ((h 58) b)) n)) := tu_58 hT_4 (show up (setO (setO h 59 (fup (h 59) ((b * 3) + ((h 58) b)) s)) 60 (fup (h 60) ((b * 3) + ((h 58) b)) n)) 58 b (((h 58) b) + 1) = (setO (setO (setO h 58 (fup (h 58) b (((h 58) b) + 1))) 59 (fup (h 59) ((b * 3) + ((h 58) b)) s)) 60 (fup (h 60) ((b * 3) + ((h 58) b)) n)) from up_can ((sOf_ne _ _ (by decide)).trans (sOf_ne _ _ (by decide))) rfl ((setO_comm _ _ _ (by decide)).trans (setO_cg ((setO_comm _ _ _ (by decide)).trans (setO_cg rfl rfl)) rfl))) (by omega)
    have hF_5 : FR [58, 59, 60] h (setO (setO (setO h 58 (fup (h 58) b (((h 58) b) + 1))) 59 (fup (h 59) ((b * 3) + ((h 58) b)) s)) 60 (fup (h 60) ((b * 3) + ((h 58) b)) n)) := FR_up (show up (setO (setO h 59 (fup (h 59) ((b * 3) + ((h 58) b)) s)) 60 (fup (h 60) ((b * 3) + ((h 58) b)) n)) 58 b (((h 58) b) + 1) = (setO (setO (setO h 58 (fup (h 58) b (((h 58) b) + 1))) 59 (fup (h 59) ((b * 3) + ((h 58) b)) s)) 60 (fup (h 60) ((b * 3) + ((h 58) b)) n)) from up_can ((sOf_ne _ _ (by decide)).trans (sOf_ne _ _ (by decide))) rfl ((setO_comm _ _ _ (by decide)).trans (setO_cg ((setO_comm _ _ _ (by decide)).trans (setO_cg rfl rfl)) rfl))) hF_4 (by decide)
    refine TT_vret hK hQ ?_ dX10_addPart_52
    exact ⟨⟨hT_5, hF_5⟩, rfl⟩
set_option maxRecDepth 20000 in
theorem s_X10_gatherBytes_44 (b : Int) (h : Hp_) (hT : TY h) (hb : 0 ≤ b ∧ b ≤ 9) : Ctr yX10_gatherBytes cX10_gatherBytes 5 none (rmd 3) ly ly 0 0 [vR 44, vR 5, vI b] h (fun r h' => (TY h' ∧ FR [62, 64, 65, 66] h h') ∧ r = none) := by
  refine Ctr_of (by decide) (Nat.le_of_ble_eq_true rfl) ⟨Nat.le_refl _, Nat.le_refl _⟩ (fun K hK hQ _ => ?_)
  show TT K ly 0 0 0 [(0, vR 44), (1, vR 5), (2, vI b)] [] h
  have hF : FR [62, 64, 65, 66] h h := FR_rf _ _
  refine TT_aload_n hK rfl 0 rfl dX10_gatherBytes_0 ?_
  refine gf_X10_49 hK (by decide) rfl (q := 62) rfl rfl dX10_gatherBytes_1 ?_
  refine iv_X10_173 hK (s_X6_clear_62 h hT ) (by decide) rfl ⟨by decide, by decide⟩ (by decide) rfl rfl (Nat.le_of_ble_eq_true rfl) ⟨by decide, by decide⟩ dX10_gatherBytes_4 ?_
  intro r9 g4_1 hp9
  obtain ⟨⟨hT_1, hG_1⟩, hr9⟩ := hp9
  rw [hr9]
  have hF_1 : FR [62, 64, 65, 66] h g4_1 := FR_tr hF hG_1 (by decide)
  show TT K ly 0 0 7 [(0, vR 44), (1, vR 5), (2, vI b)] [] g4_1
  refine TT_iconst hK dX10_gatherBytes_7 ?_
  refine TT_istore_n hK rfl (lv' := [(3, vI 0), (0, vR 44), (1, vR 5), (2, vI b)]) (by decide) rfl dX10_gatherBytes_8 ?_
  have L9_2 : ∀ (k2 : Nat) (i : Int) (w9_2 : Hp_), TY w9_2 → FR [62, 64, 65, 66] h w9_2 → (0 ≤ i ∧ i ≤ 3) → ((3 : Int) - i).toNat < k2 → TT K ly 0 0 9 [(0, vR 44), (1, vR 5), (2, vI b), (3, vI i)] [] w9_2 := by
    intro k2
    induction k2 with
    | zero => intro i w9_2 hT9_2 hF9_2 hi hk2; exact absurd hk2 (Nat.not_lt_zero _)
    | succ k2 ih2 =>
      intro i w9_2 hT9_2 hF9_2 hi hk2
      refine TT_iload_n hK rfl 3 rfl dX10_gatherBytes_9 ?_
      refine TT_aload_n hK rfl 0 rfl dX10_gatherBytes_10 ?_
      refine gf_X10_34 hK (by decide) rfl (q := 58) rfl rfl dX10_gatherBytes_11 ?_
      refine TT_iload_n hK rfl 2 rfl dX10_gatherBytes_14 ?_
      refine TT_iald hK (o := 58) (n := 10) (by decide) rfl (by first | omega | (simp [up, setR] <;> omega)) (by first | omega | (simp [up, setR] <;> omega)) (v := (h 58) b) (rd_ (hF9_2 58 (by decide)) rfl) dX10_gatherBytes_15 ?_
      have r3 := ty_58 (i := b) (v := (h 58) b) hT9_2 (rd_ (hF9_2 58 (by decide)) rfl) (by omega) (by omega)
      refine TT_icmp_ge hK (tgt := 54) (irm (by omega) (by omega)) (irm (by omega) (by omega)) dX10_gatherBytes_16 (by decide) (fun hb16_4 => ?_) (fun hb16_4 => ?_)
      · refine TT_aload_n hK rfl 0 rfl dX10_gatherBytes_54 ?_
        refine gf_X10_49 hK (by decide) rfl (q := 62) rfl rfl dX10_gatherBytes_55 ?_
        refine TT_aload_n hK rfl 0 rfl dX10_gatherBytes_58 ?_
        refine gf_X10_49 hK (by decide) rfl (q := 62) rfl rfl dX10_gatherBytes_59 ?_
        refine iv_X10_180 hK (s_X6_given_62 w9_2 hT9_2 ) (by decide) rfl ⟨by decide, by decide⟩ (by decide) rfl rfl (Nat.le_of_ble_eq_true rfl) ⟨by decide, by decide⟩ dX10_gatherBytes_62 ?_
        intro r9 g62_5 hp9
        obtain ⟨⟨hT_5, hG_5⟩, z62_5, hr9, hz_5⟩ := hp9
        rw [hr9]
        have hF_5 : FR [62, 64, 65, 66] h g62_5 := FR_tr hF9_2 hG_5 (by decide)
        show TT K ly 0 0 65 [(0, vR 44), (1, vR 5), (2, vI b), (3, vI i)] [vI z62_5, vR 62] g62_5
        refine iv_X10_183 hK (s_X6_begin_62 z62_5 g62_5 hT_5 (by first | omega | (simp [up, setR] <;> omega))) (by decide) rfl ⟨by decide, by decide⟩ (by decide) rfl rfl (Nat.le_of_ble_eq_true rfl) ⟨by decide, by decide⟩ dX10_gatherBytes_65 ?_
        intro r9 g65_6 hp9
        obtain ⟨⟨hT_6, hG_6⟩, hr9⟩ := hp9
        rw [hr9]
        have hF_6 : FR [62, 64, 65, 66] h g65_6 := FR_tr hF_5 hG_6 (by decide)
        show TT K ly 0 0 68 [(0, vR 44), (1, vR 5), (2, vI b), (3, vI i)] [] g65_6
        refine TT_vret hK hQ ?_ dX10_gatherBytes_68
        exact ⟨⟨hT_6, hF_6⟩, rfl⟩
      · refine TT_iload_n hK rfl 2 rfl dX10_gatherBytes_19 ?_
        refine TT_iconst hK dX10_gatherBytes_20 ?_
        refine TT_imul hK dX10_gatherBytes_21 ?_
        refine TT_iload_n hK rfl 3 rfl dX10_gatherBytes_22 ?_
        refine TT_iadd hK dX10_gatherBytes_23 ?_
        refine TT_istore hK (lv' := [(4, vI ((b * 3) + i)), (0, vR 44), (1, vR 5), (2, vI b), (3, vI i)]) (by decide) rfl dX10_gatherBytes_24 ?_
        refine TT_aload_n hK rfl 1 rfl dX10_gatherBytes_26 ?_
        refine gf_X10_49 hK (by decide) rfl (q := 62) rfl rfl dX10_gatherBytes_27 ?_
        refine TT_aload_n hK rfl 2 rfl dX10_gatherBytes_30 ?_
        refine TT_aload_n hK rfl 1 rfl dX10_gatherBytes_31 ?_
        refine gf_X10_37 hK (by decide) rfl (q := 59) rfl rfl dX10_gatherBytes_32 ?_
        refine TT_iload hK 0 rfl dX10_gatherBytes_35 ?_
        refine TT_iald hK (o := 59) (n := 30) (by decide) rfl (by first | omega | (simp [up, setR] <;> omega)) (by first | omega | (simp [up, setR] <;> omega)) (v := (h 59) ((b * 3) + i)) (rd_ (hF9_2 59 (by decide)) rfl) dX10_gatherBytes_37 ?_
        have r7 := ty_59 (i := (b * 3) + i) (v := (h 59) ((b * 3) + i)) hT9_2 (rd_ (hF9_2 59 (by decide)) rfl) (by omega) (by omega)
        refine TT_aload_n hK rfl 1 rfl dX10_gatherBytes_38 ?_
        refine gf_X10_40 hK (by decide) rfl (q := 60) rfl rfl dX10_gatherBytes_39 ?_
        refine TT_iload hK 0 rfl dX10_gatherBytes_42 ?_
        refine TT_iald hK (o := 60) (n := 30) (by decide) rfl (by first | omega | (simp [up, setR] <;> omega)) (by first | omega | (simp [up, setR] <;> omega)) (v := (h 60) ((b * 3) + i)) (rd_ (hF9_2 60 (by decide)) rfl) dX10_gatherBytes_44 ?_
        have r8 := ty_60 (i := (b * 3) + i) (v := (h 60) ((b * 3) + i)) hT9_2 (rd_ (hF9_2 60 (by decide)) rfl) (by omega) (by omega)
        refine iv_X10_176 hK (s_X6_addFrom_62 ((h 59) ((b * 3) + i)) ((h 60) ((b * 3) + i)) w9_2 hT9_2 (by first | omega | (simp [up, setR] <;> omega)) (by first | omega | (simp [up, setR] <;> omega))) (by decide) rfl ⟨by decide, by decide⟩ (by decide) rfl rfl (Nat.le_of_ble_eq_true rfl) ⟨by decide, by decide⟩ dX10_gatherBytes_45 ?_
        intro r9 g45_9 hp9
        obtain ⟨⟨hT_9, hG_9⟩, hr9⟩ := hp9
        rw [hr9]
        have hF_9 : FR [62, 64, 65, 66] h g45_9 := FR_tr hF9_2 hG_9 (by decide)
        show TT K ly 0 0 48 [(4, vI ((b * 3) + i)), (0, vR 44), (1, vR 5), (2, vI b), (3, vI i)] [] g45_9
        refine TT_iinc hK (v := i + 1) (lv' := [(3, vI (i + 1)), (4, vI ((b * 3) + i)), (0, vR 44), (1, vR 5), (2, vI b)]) 4 rfl rfl (by decide) rfl dX10_gatherBytes_48 ?_
        refine TT_goto hK (tgt := 9) dX10_gatherBytes_51 (by decide) ?_
        refine TT_sub [2, 3, 4, 0] rfl ?_
        exact ih2 (i + 1) g45_9 hT_9 hF_9 (by first | omega | (simp [up, setR] <;> omega)) (by first | omega | (simp [up, setR] <;> omega))
  refine TT_sub [1, 2, 3, 0] rfl ?_
  exact L9_2 ((((3 : Int) - 0).toNat) + 1) 0 g4_1 hT_1 hF_1 (by first | omega | (simp [up, setR] <;> omega)) (Nat.lt_succ_self _)
set_option maxRecDepth 20000 in
theorem s_X10_growWidth_44 (b : Int) (h : Hp_) (hT : TY h) (hb : 0 ≤ b ∧ b ≤ 9) : Ctr yX10_growWidth cX10_growWidth 4 none (rmd 2) ly ly 0 0 [vR 44, vR 5, vI b] h (fun r h' => (TY h' ∧ FR [5, 55] h h') ∧ r = none) := by
  refine Ctr_of (by decide) (Nat.le_of_ble_eq_true rfl) ⟨Nat.le_refl _, Nat.le_refl _⟩ (fun K hK hQ _ => ?_)
  show TT K ly 0 0 0 [(0, vR 44), (1, vR 5), (2, vI b)] [] h
  have hF : FR [5, 55] h h := FR_rf _ _
  refine TT_iconst hK dX10_growWidth_0 ?_
  refine TT_istore_n hK rfl (lv' := [(3, vI 0), (0, vR 44), (1, vR 5), (2, vI b)]) (by decide) rfl dX10_growWidth_1 ?_
  have L2_1 : ∀ (k1 : Nat) (i : Int) (w2_1 : Hp_), TY w2_1 → FR [5, 55] h w2_1 → (0 ≤ i ∧ i ≤ 8192) → ((8192 : Int) - i).toNat < k1 → TT K ly 0 0 2 [(0, vR 44), (1, vR 5), (2, vI b), (3, vI i)] [] w2_1 := by
    intro k1
    induction k1 with
    | zero => intro i w2_1 hT2_1 hF2_1 hi hk1; exact absurd hk1 (Nat.not_lt_zero _)
    | succ k1 ih1 =>
      intro i w2_1 hT2_1 hF2_1 hi hk1
      refine TT_iload_n hK rfl 3 rfl dX10_growWidth_2 ?_
      refine TT_sipush hK (by decide) dX10_growWidth_3 ?_
      refine TT_icmp_ge hK (tgt := 34) (irm (by omega) (by omega)) (by decide) dX10_growWidth_6 (by decide) (fun hb6_2 => ?_) (fun hb6_2 => ?_)
      · refine TT_vret hK hQ ?_ dX10_growWidth_34
        exact ⟨⟨hT2_1, hF2_1⟩, rfl⟩
      · refine TT_aload_n hK rfl 1 rfl dX10_growWidth_9 ?_
        refine TT_iconst hK dX10_growWidth_10 ?_
        refine iv_X10_118 hK (s_X1_takeBits_5 1 w2_1 hT2_1 (by first | omega | (simp [up, setR] <;> omega))) (by decide) rfl ⟨by decide, by decide⟩ (by decide) rfl rfl (Nat.le_of_ble_eq_true rfl) ⟨by decide, by decide⟩ dX10_growWidth_11 ?_
        intro r9 g11_3 hp9
        obtain ⟨⟨hT_3, hG_3⟩, z11_3, hr9, hz_3⟩ := hp9
        rw [hr9]
        have hF_3 : FR [5, 55] h g11_3 := FR_tr hF2_1 hG_3 (by decide)
        show TT K ly 0 0 14 [(0, vR 44), (1, vR 5), (2, vI b), (3, vI i)] [vI z11_3] g11_3
        refine TT_iconst hK dX10_growWidth_14 ?_
        refine TT_icmp_ne hK (tgt := 34) (irm (by omega) (by omega)) (by decide) dX10_growWidth_15 (by decide) (fun hb15_4 => ?_) (fun hb15_4 => ?_)
        · refine TT_vret hK hQ ?_ dX10_growWidth_34
          exact ⟨⟨hT_3, hF_3⟩, rfl⟩
        · refine TT_aload_n hK rfl 0 rfl dX10_growWidth_18 ?_
          refine gf_X10_25 hK (by decide) rfl (q := 55) rfl rfl dX10_growWidth_19 ?_
          refine TT_iload_n hK rfl 2 rfl dX10_growWidth_22 ?_
          refine TT_dup2 hK rfl rfl dX10_growWidth_23 ?_
          refine TT_iald hK (o := 55) (n := 10) (by decide) rfl (by first | omega | (simp [up, setR] <;> omega)) (by first | omega | (simp [up, setR] <;> omega)) (v := (w2_1 55) b) (rd_ (hG_3 55 (by decide)) rfl) dX10_growWidth_24 ?_
          have r5 := ty_55 (i := b) (v := (w2_1 55) b) hT_3 (rd_ (hG_3 55 (by decide)) rfl) (by omega) (by omega)
          refine TT_iconst hK dX10_growWidth_25 ?_
          refine TT_iadd hK dX10_growWidth_26 ?_
          refine TT_w32 (fun x27_6 hx6 => ?_)
          refine TT_iast hK (o := 55) (n := 10) (by decide) rfl (by omega) (by omega) dX10_growWidth_27 ?_
          refine TT_hp (h' := setO g11_3 55 (fup (w2_1 55) b x27_6)) (up_can (hG_3 55 (by decide)) rfl rfl) ?_
          have hT_7 : TY (setO g11_3 55 (fup (w2_1 55) b x27_6)) := tu_55 hT_3 (show up g11_3 55 b x27_6 = (setO g11_3 55 (fup (w2_1 55) b x27_6)) from up_can (hG_3 55 (by decide)) rfl rfl) (by omega)
          have hF_7 : FR [5, 55] h (setO g11_3 55 (fup (w2_1 55) b x27_6)) := FR_up (show up g11_3 55 b x27_6 = (setO g11_3 55 (fup (w2_1 55) b x27_6)) from up_can (hG_3 55 (by decide)) rfl rfl) hF_3 (by decide)
          refine TT_iinc hK (v := i + 1) (lv' := [(3, vI (i + 1)), (0, vR 44), (1, vR 5), (2, vI b)]) 3 rfl rfl (by decide) rfl dX10_growWidth_28 ?_
          refine TT_goto hK (tgt := 2) dX10_growWidth_31 (by decide) ?_
          refine TT_sub [1, 2, 3, 0] rfl ?_
          exact ih1 (i + 1) (setO g11_3 55 (fup (w2_1 55) b x27_6)) hT_7 hF_7 (by first | omega | (simp [up, setR] <;> omega)) (by first | omega | (simp [up, setR] <;> omega))
  refine TT_sub [1, 2, 3, 0] rfl ?_
  exact L2_1 ((((8192 : Int) - 0).toNat) + 1) 0 h hT hF (by first | omega | (simp [up, setR] <;> omega)) (Nat.lt_succ_self _)
set_option maxRecDepth 20000 in
theorem s_X10_keepNumbers_44 (b : Int) (h : Hp_) (hT : TY h) (hb : 0 ≤ b ∧ b ≤ 9) (hbd : BDQ (h 47) (h 49) (h 48) (h 50)) : Ctr yX10_keepNumbers cX10_keepNumbers 4 none (rmd 3) ly ly 0 0 [vR 44, vI b] h (fun r h' => (TY h' ∧ FR [46] h h') ∧ r = none) := by
  refine Ctr_of (by decide) (Nat.le_of_ble_eq_true rfl) ⟨Nat.le_refl _, Nat.le_refl _⟩ (fun K hK hQ _ => ?_)
  show TT K ly 0 0 0 [(0, vR 44), (1, vI b)] [] h
  have hF : FR [46] h h := FR_rf _ _
  refine TT_iconst hK dX10_keepNumbers_0 ?_
  refine TT_istore_n hK rfl (lv' := [(2, vI 0), (0, vR 44), (1, vI b)]) (by decide) rfl dX10_keepNumbers_1 ?_
  have L2_1 : ∀ (k1 : Nat) (y : Int) (w2_1 : Hp_), TY w2_1 → FR [46] h w2_1 → (0 ≤ y ∧ y ≤ 8) → ((8 : Int) - y).toNat < k1 → TT K ly 0 0 2 [(0, vR 44), (1, vI b), (2, vI y)] [] w2_1 := by
    intro k1
    induction k1 with
    | zero => intro y w2_1 hT2_1 hF2_1 hy hk1; exact absurd hk1 (Nat.not_lt_zero _)
    | succ k1 ih1 =>
      intro y w2_1 hT2_1 hF2_1 hy hk1
      refine TT_iload_n hK rfl 2 rfl dX10_keepNumbers_2 ?_
      refine TT_aload_n hK rfl 0 rfl dX10_keepNumbers_3 ?_
      refine gf_X10_12 hK (by decide) rfl (q := 45) rfl rfl dX10_keepNumbers_4 ?_
      refine gf_X10_150 hK (by decide) rfl (q := 50) rfl rfl dX10_keepNumbers_7 ?_
      refine TT_iload_n hK rfl 1 rfl dX10_keepNumbers_10 ?_
      refine TT_iald hK (o := 50) (n := 10) (by decide) rfl (by first | omega | (simp [up, setR] <;> omega)) (by first | omega | (simp [up, setR] <;> omega)) (v := (h 50) b) (rd_ (hF2_1 50 (by decide)) rfl) dX10_keepNumbers_11 ?_
      have r2 := ty_50 (i := b) (v := (h 50) b) hT2_1 (rd_ (hF2_1 50 (by decide)) rfl) (by omega) (by omega)
      refine TT_icmp_ge hK (tgt := 61) (irm (by omega) (by omega)) (irm (by omega) (by omega)) dX10_keepNumbers_12 (by decide) (fun hb12_3 => ?_) (fun hb12_3 => ?_)
      · refine TT_vret hK hQ ?_ dX10_keepNumbers_61
        exact ⟨⟨hT2_1, hF2_1⟩, rfl⟩
      · refine TT_iconst hK dX10_keepNumbers_15 ?_
        refine TT_istore_n hK rfl (lv' := [(3, vI 0), (0, vR 44), (1, vI b), (2, vI y)]) (by decide) rfl dX10_keepNumbers_16 ?_
        have L17_4 : ∀ (k4 : Nat) (x : Int) (w17_4 : Hp_), TY w17_4 → FR [46] h w17_4 → (0 ≤ x ∧ x ≤ 8) → ((8 : Int) - x).toNat < k4 → TT K ly 0 0 17 [(0, vR 44), (1, vI b), (2, vI y), (3, vI x)] [] w17_4 := by
          intro k4
          induction k4 with
          | zero => intro x w17_4 hT17_4 hF17_4 hx hk4; exact absurd hk4 (Nat.not_lt_zero _)
          | succ k4 ih4 =>
            intro x w17_4 hT17_4 hF17_4 hx hk4
            refine TT_iload_n hK rfl 3 rfl dX10_keepNumbers_17 ?_
            refine TT_aload_n hK rfl 0 rfl dX10_keepNumbers_18 ?_
            refine gf_X10_12 hK (by decide) rfl (q := 45) rfl rfl dX10_keepNumbers_19 ?_
            refine gf_X10_147 hK (by decide) rfl (q := 49) rfl rfl dX10_keepNumbers_22 ?_
            refine TT_iload_n hK rfl 1 rfl dX10_keepNumbers_25 ?_
            refine TT_iald hK (o := 49) (n := 10) (by decide) rfl (by first | omega | (simp [up, setR] <;> omega)) (by first | omega | (simp [up, setR] <;> omega)) (v := (h 49) b) (rd_ (hF17_4 49 (by decide)) rfl) dX10_keepNumbers_26 ?_
            have r5 := ty_49 (i := b) (v := (h 49) b) hT17_4 (rd_ (hF17_4 49 (by decide)) rfl) (by omega) (by omega)
            refine TT_icmp_ge hK (tgt := 55) (irm (by omega) (by omega)) (irm (by omega) (by omega)) dX10_keepNumbers_27 (by decide) (fun hb27_6 => ?_) (fun hb27_6 => ?_)
            · refine TT_iinc hK (v := y + 1) (lv' := [(2, vI (y + 1)), (0, vR 44), (1, vI b), (3, vI x)]) 2 rfl rfl (by decide) rfl dX10_keepNumbers_55 ?_
              refine TT_goto hK (tgt := 2) dX10_keepNumbers_58 (by decide) ?_
              refine TT_sub [1, 2, 0] rfl ?_
              exact ih1 (y + 1) w17_4 hT17_4 hF17_4 (by first | omega | (simp [up, setR] <;> omega)) (by first | omega | (simp [up, setR] <;> omega))
            · refine TT_aload_n hK rfl 0 rfl dX10_keepNumbers_30 ?_
              refine gf_X10_12 hK (by decide) rfl (q := 45) rfl rfl dX10_keepNumbers_31 ?_
              refine TT_iload_n hK rfl 1 rfl dX10_keepNumbers_34 ?_
              refine TT_iload_n hK rfl 3 rfl dX10_keepNumbers_35 ?_
              refine TT_iload_n hK rfl 2 rfl dX10_keepNumbers_36 ?_
              refine TT_aload_n hK rfl 0 rfl dX10_keepNumbers_37 ?_
              refine gf_X10_58 hK (by decide) rfl (q := 67) rfl rfl dX10_keepNumbers_38 ?_
              refine TT_iload_n hK rfl 3 rfl dX10_keepNumbers_41 ?_
              refine TT_iload_n hK rfl 2 rfl dX10_keepNumbers_42 ?_
              refine iv_X10_185 hK (s_X4_numberAt_67 x y w17_4 hT17_4 (by first | omega | (simp [up, setR] <;> omega)) (by first | omega | (simp [up, setR] <;> omega))) (by decide) rfl ⟨by decide, by decide⟩ (by decide) rfl rfl (Nat.le_of_ble_eq_true rfl) ⟨by decide, by decide⟩ dX10_keepNumbers_43 ?_
              intro r9 g43_7 hp9
              obtain ⟨⟨hT_7, hG_7⟩, z43_7, hr9, hz_7⟩ := hp9
              rw [hr9]
              have hF_7 : FR [46] h g43_7 := FR_tr hF17_4 hG_7 (by decide)
              show TT K ly 0 0 46 [(0, vR 44), (1, vI b), (2, vI y), (3, vI x)] [vI z43_7, vI y, vI x, vI b, vR 45] g43_7
              have e8_47 : g43_7 47 = h 47 := ((hG_7 47 (by decide))).trans (hF17_4 47 (by decide))
              have e9_48 : g43_7 48 = h 48 := ((hG_7 48 (by decide))).trans (hF17_4 48 (by decide))
              have e10_49 : g43_7 49 = h 49 := ((hG_7 49 (by decide))).trans (hF17_4 49 (by decide))
              have e11_50 : g43_7 50 = h 50 := ((hG_7 50 (by decide))).trans (hF17_4 50 (by decide))
              refine iv_X10_189 hK (s_X0_set_45 b x y z43_7 g43_7 hT_7 (by first | omega | (simp [up, setR] <;> omega)) (by first | omega | (simp [up, setR] <;> omega)) (by first | omega | (simp [up, setR] <;> omega)) (by first | omega | (simp [up, setR] <;> omega)) (by rw [e8_47, e9_48, e10_49, e11_50]; exact hbd)) (by decide) rfl ⟨by decide, by decide⟩ (by decide) rfl rfl (Nat.le_of_ble_eq_true rfl) ⟨by decide, by decide⟩ dX10_keepNumbers_46 ?_
              intro r9 g46_12 hp9
              obtain ⟨⟨hT_12, hG_12⟩, hr9⟩ := hp9
              rw [hr9]
              have hF_12 : FR [46] h g46_12 := FR_tr hF_7 hG_12 (by decide)
              show TT K ly 0 0 49 [(0, vR 44), (1, vI b), (2, vI y), (3, vI x)] [] g46_12
              refine TT_iinc hK (v := x + 1) (lv' := [(3, vI (x + 1)), (0, vR 44), (1, vI b), (2, vI y)]) 3 rfl rfl (by decide) rfl dX10_keepNumbers_49 ?_
              refine TT_goto hK (tgt := 17) dX10_keepNumbers_52 (by decide) ?_
              refine TT_sub [1, 2, 3, 0] rfl ?_
              exact ih4 (x + 1) g46_12 hT_12 hF_12 (by first | omega | (simp [up, setR] <;> omega)) (by first | omega | (simp [up, setR] <;> omega))
        refine TT_sub [1, 2, 3, 0] rfl ?_
        exact L17_4 ((((8 : Int) - 0).toNat) + 1) 0 w2_1 hT2_1 hF2_1 (by first | omega | (simp [up, setR] <;> omega)) (Nat.lt_succ_self _)
  refine TT_sub [1, 2, 0] rfl ?_
  exact L2_1 ((((8 : Int) - 0).toNat) + 1) 0 h hT hF (by first | omega | (simp [up, setR] <;> omega)) (Nat.lt_succ_self _)
set_option maxRecDepth 20000 in
theorem s_X10_passesTaken_44 (b : Int) (h : Hp_) (hT : TY h) (hb : -2147483648 ≤ b ∧ b ≤ 2147483647) : Ctr yX10_passesTaken cX10_passesTaken 2 (some .int) (rmd 0) ly ly 0 0 [vR 44, vI b] h (fun r h' => (TY h' ∧ FR [] h h') ∧ ∃ z : Int, r = some (vI z) ∧ (-2147483648 ≤ z ∧ z ≤ 2147483647)) := by
  refine Ctr_of (by decide) (Nat.le_of_ble_eq_true rfl) ⟨Nat.le_refl _, Nat.le_refl _⟩ (fun K hK hQ _ => ?_)
  show TT K ly 0 0 0 [(0, vR 44), (1, vI b)] [] h
  have hF : FR [] h h := FR_rf _ _
  refine TT_iload_n hK rfl 1 rfl dX10_passesTaken_0 ?_
  refine TT_if_lt hK (tgt := 21) (irm (by omega) (by omega)) dX10_passesTaken_1 (by decide) (fun hb1_1 => ?_) (fun hb1_1 => ?_)
  · refine TT_ldc hK lc_X10_66 dX10_passesTaken_21 ?_
    refine TT_iret hK hQ ?_ dX10_passesTaken_23
    exact ⟨⟨hT, hF⟩, (-100000), rfl, (by omega)⟩
  · refine TT_iload_n hK rfl 1 rfl dX10_passesTaken_4 ?_
    refine TT_aload_n hK rfl 0 rfl dX10_passesTaken_5 ?_
    refine gf_X10_62 hK (by decide) rfl (v := (h 44) 12) rfl dX10_passesTaken_6 ?_
    have r2 := ty_44_12 (v := (h 44) 12) hT rfl
    refine TT_icmp_ge hK (tgt := 21) (irm (by omega) (by omega)) (irm (by omega) (by omega)) dX10_passesTaken_9 (by decide) (fun hb9_3 => ?_) (fun hb9_3 => ?_)
    · refine TT_ldc hK lc_X10_66 dX10_passesTaken_21 ?_
      refine TT_iret hK hQ ?_ dX10_passesTaken_23
      exact ⟨⟨hT, hF⟩, (-100000), rfl, (by omega)⟩
    · refine TT_aload_n hK rfl 0 rfl dX10_passesTaken_12 ?_
      refine gf_X10_43 hK (by decide) rfl (q := 61) rfl rfl dX10_passesTaken_13 ?_
      refine TT_iload_n hK rfl 1 rfl dX10_passesTaken_16 ?_
      refine TT_iald hK (o := 61) (n := 10) (by decide) rfl (by first | omega | (simp [up, setR] <;> omega)) (by first | omega | (simp [up, setR] <;> omega)) (v := (h 61) b) rfl dX10_passesTaken_17 ?_
      have r4 := ty_61 (i := b) (v := (h 61) b) hT rfl (by omega) (by omega)
      refine TT_goto hK (tgt := 23) dX10_passesTaken_18 (by decide) ?_
      refine TT_iret hK hQ ?_ dX10_passesTaken_23
      exact ⟨⟨hT, hF⟩, ((h 61) b), rfl, (by omega)⟩
set_option maxRecDepth 20000 in
theorem s_readCount_5 (h : Hp_) (hT : TY h)  : Ctr yX10_readCount cX10_readCount 4 (some .int) (rmd 2) ly ly 0 0 [vR 5] h (fun r h' => (TY h' ∧ FR [5] h h') ∧ ∃ z : Int, r = some (vI z) ∧ (-1 ≤ z ∧ z ≤ 1048582)) := by
  refine Ctr_of (by decide) (Nat.le_of_ble_eq_true rfl) ⟨Nat.le_refl _, Nat.le_refl _⟩ (fun K hK hQ _ => ?_)
  show TT K ly 0 0 0 [(0, vR 5)] [] h
  have hF : FR [5] h h := FR_rf _ _
  refine TT_aload_n hK rfl 0 rfl dX10_readCount_0 ?_
  refine TT_iconst hK dX10_readCount_1 ?_
  refine iv_X10_118 hK (s_X1_takeBits_5 1 h hT (by first | omega | (simp [up, setR] <;> omega))) (by decide) rfl ⟨by decide, by decide⟩ (by decide) rfl rfl (Nat.le_of_ble_eq_true rfl) ⟨by decide, by decide⟩ dX10_readCount_2 ?_
  intro r9 g2_1 hp9
  obtain ⟨⟨hT_1, hG_1⟩, z2_1, hr9, hz_1⟩ := hp9
  rw [hr9]
  have hF_1 : FR [5] h g2_1 := FR_tr hF hG_1 (by decide)
  show TT K ly 0 0 5 [(0, vR 5)] [vI z2_1] g2_1
  refine TT_istore_n hK rfl (lv' := [(1, vI z2_1), (0, vR 5)]) (by decide) rfl dX10_readCount_5 ?_
  refine TT_iload_n hK rfl 0 rfl dX10_readCount_6 ?_
  refine TT_iconst hK dX10_readCount_7 ?_
  refine TT_icmp_eq hK (tgt := 21) (irm (by omega) (by omega)) (by decide) dX10_readCount_8 (by decide) (fun hb8_2 => ?_) (fun hb8_2 => ?_)
  · refine TT_aload_n hK rfl 1 rfl dX10_readCount_21 ?_
    refine TT_iconst hK dX10_readCount_22 ?_
    refine iv_X10_118 hK (s_X1_takeBits_5 1 g2_1 hT_1 (by first | omega | (simp [up, setR] <;> omega))) (by decide) rfl ⟨by decide, by decide⟩ (by decide) rfl rfl (Nat.le_of_ble_eq_true rfl) ⟨by decide, by decide⟩ dX10_readCount_23 ?_
    intro r9 g23_3 hp9
    obtain ⟨⟨hT_3, hG_3⟩, z23_3, hr9, hz_3⟩ := hp9
    rw [hr9]
    have hF_3 : FR [5] h g23_3 := FR_tr hF_1 hG_3 (by decide)
    show TT K ly 0 0 26 [(1, vI z2_1), (0, vR 5)] [vI z23_3] g23_3
    refine TT_istore_n hK rfl (lv' := [(1, vI z23_3), (0, vR 5)]) (by decide) rfl dX10_readCount_26 ?_
    refine TT_iload_n hK rfl 0 rfl dX10_readCount_27 ?_
    refine TT_iconst hK dX10_readCount_28 ?_
    refine TT_icmp_eq hK (tgt := 42) (irm (by omega) (by omega)) (by decide) dX10_readCount_29 (by decide) (fun hb29_4 => ?_) (fun hb29_4 => ?_)
    · refine TT_aload_n hK rfl 1 rfl dX10_readCount_42 ?_
      refine TT_iconst hK dX10_readCount_43 ?_
      refine iv_X10_118 hK (s_X1_takeBits_5 2 g23_3 hT_3 (by first | omega | (simp [up, setR] <;> omega))) (by decide) rfl ⟨by decide, by decide⟩ (by decide) rfl rfl (Nat.le_of_ble_eq_true rfl) ⟨by decide, by decide⟩ dX10_readCount_44 ?_
      intro r9 g44_5 hp9
      obtain ⟨⟨hT_5, hG_5⟩, z44_5, hr9, hz_5⟩ := hp9
      rw [hr9]
      have hF_5 : FR [5] h g44_5 := FR_tr hF_3 hG_5 (by decide)
      show TT K ly 0 0 47 [(1, vI z23_3), (0, vR 5)] [vI z44_5] g44_5
      refine TT_istore_n hK rfl (lv' := [(2, vI z44_5), (1, vI z23_3), (0, vR 5)]) (by decide) rfl dX10_readCount_47 ?_
      refine TT_iload_n hK rfl 0 rfl dX10_readCount_48 ?_
      refine TT_iconst hK dX10_readCount_49 ?_
      refine TT_icmp_eq hK (tgt := 65) (irm (by omega) (by omega)) (by decide) dX10_readCount_50 (by decide) (fun hb50_6 => ?_) (fun hb50_6 => ?_)
      · refine TT_aload_n hK rfl 2 rfl dX10_readCount_65 ?_
        refine TT_iconst hK dX10_readCount_66 ?_
        refine iv_X10_118 hK (s_X1_takeBits_5 5 g44_5 hT_5 (by first | omega | (simp [up, setR] <;> omega))) (by decide) rfl ⟨by decide, by decide⟩ (by decide) rfl rfl (Nat.le_of_ble_eq_true rfl) ⟨by decide, by decide⟩ dX10_readCount_67 ?_
        intro r9 g67_7 hp9
        obtain ⟨⟨hT_7, hG_7⟩, z67_7, hr9, hz_7⟩ := hp9
        rw [hr9]
        have hF_7 : FR [5] h g67_7 := FR_tr hF_5 hG_7 (by decide)
        show TT K ly 0 0 70 [(2, vI z44_5), (1, vI z23_3), (0, vR 5)] [vI z67_7] g67_7
        refine TT_istore_n hK rfl (lv' := [(3, vI z67_7), (2, vI z44_5), (1, vI z23_3), (0, vR 5)]) (by decide) rfl dX10_readCount_70 ?_
        refine TT_iload_n hK rfl 0 rfl dX10_readCount_71 ?_
        refine TT_if_ge hK (tgt := 79) (irm (by omega) (by omega)) dX10_readCount_72 (by decide) (fun hb72_8 => ?_) (fun hb72_8 => ?_)
        · refine TT_bipush hK (by decide) dX10_readCount_79 ?_
          refine TT_iload_n hK rfl 0 rfl dX10_readCount_81 ?_
          refine TT_iadd hK dX10_readCount_82 ?_
          refine TT_iret hK hQ ?_ dX10_readCount_83
          exact ⟨⟨hT_7, hF_7⟩, (6 + z67_7), rfl, (by omega)⟩
        · refine TT_iload_n hK rfl 0 rfl dX10_readCount_75 ?_
          refine TT_goto hK (tgt := 83) dX10_readCount_76 (by decide) ?_
          refine TT_iret hK hQ ?_ dX10_readCount_83
          exact ⟨⟨hT_7, hF_7⟩, z67_7, rfl, (by omega)⟩
      · refine TT_iload_n hK rfl 0 rfl dX10_readCount_53 ?_
        refine TT_if_ge hK (tgt := 61) (irm (by omega) (by omega)) dX10_readCount_54 (by decide) (fun hb54_9 => ?_) (fun hb54_9 => ?_)
        · refine TT_iconst hK dX10_readCount_61 ?_
          refine TT_iload_n hK rfl 0 rfl dX10_readCount_62 ?_
          refine TT_iadd hK dX10_readCount_63 ?_
          refine TT_iret hK hQ ?_ dX10_readCount_64
          exact ⟨⟨hT_5, hF_5⟩, (3 + z44_5), rfl, (by omega)⟩
        · refine TT_iload_n hK rfl 0 rfl dX10_readCount_57 ?_
          refine TT_goto hK (tgt := 64) dX10_readCount_58 (by decide) ?_
          refine TT_iret hK hQ ?_ dX10_readCount_64
          exact ⟨⟨hT_5, hF_5⟩, z44_5, rfl, (by omega)⟩
    · refine TT_iload_n hK rfl 0 rfl dX10_readCount_32 ?_
      refine TT_if_ne hK (tgt := 40) (irm (by omega) (by omega)) dX10_readCount_33 (by decide) (fun hb33_10 => ?_) (fun hb33_10 => ?_)
      · refine TT_iload_n hK rfl 0 rfl dX10_readCount_40 ?_
        refine TT_iret hK hQ ?_ dX10_readCount_41
        exact ⟨⟨hT_3, hF_3⟩, z23_3, rfl, (by omega)⟩
      · refine TT_iconst hK dX10_readCount_36 ?_
        refine TT_goto hK (tgt := 41) dX10_readCount_37 (by decide) ?_
        refine TT_iret hK hQ ?_ dX10_readCount_41
        exact ⟨⟨hT_3, hF_3⟩, 2, rfl, (by omega)⟩
  · refine TT_iload_n hK rfl 0 rfl dX10_readCount_11 ?_
    refine TT_if_ne hK (tgt := 19) (irm (by omega) (by omega)) dX10_readCount_12 (by decide) (fun hb12_11 => ?_) (fun hb12_11 => ?_)
    · refine TT_iload_n hK rfl 0 rfl dX10_readCount_19 ?_
      refine TT_iret hK hQ ?_ dX10_readCount_20
      exact ⟨⟨hT_1, hF_1⟩, z2_1, rfl, (by omega)⟩
    · refine TT_iconst hK dX10_readCount_15 ?_
      refine TT_goto hK (tgt := 20) dX10_readCount_16 (by decide) ?_
      refine TT_iret hK hQ ?_ dX10_readCount_20
      exact ⟨⟨hT_1, hF_1⟩, 1, rfl, (by omega)⟩
set_option maxRecDepth 20000 in
theorem s_X10_readBandHead_44 (b : Int) (h : Hp_) (hT : TY h) (hb : 0 ≤ b ∧ b ≤ 9) : Ctr yX10_readBandHead cX10_readBandHead 6 (some .int) (rmd 3) ly ly 0 0 [vR 44, vR 5, vI b] h (fun r h' => (TY h' ∧ FR [5, 53, 55, 56, 57] h h') ∧ ∃ z : Int, r = some (vI z) ∧ (-1 ≤ z ∧ z ≤ 1)) := by
  refine Ctr_of (by decide) (Nat.le_of_ble_eq_true rfl) ⟨Nat.le_refl _, Nat.le_refl _⟩ (fun K hK hQ _ => ?_)
  show TT K ly 0 0 0 [(0, vR 44), (1, vR 5), (2, vI b)] [] h
  have hF : FR [5, 53, 55, 56, 57] h h := FR_rf _ _
  refine TT_aload_n hK rfl 1 rfl dX10_readBandHead_0 ?_
  refine TT_iconst hK dX10_readBandHead_1 ?_
  refine iv_X10_118 hK (s_X1_takeBits_5 1 h hT (by first | omega | (simp [up, setR] <;> omega))) (by decide) rfl ⟨by decide, by decide⟩ (by decide) rfl rfl (Nat.le_of_ble_eq_true rfl) ⟨by decide, by decide⟩ dX10_readBandHead_2 ?_
  intro r9 g2_1 hp9
  obtain ⟨⟨hT_1, hG_1⟩, z2_1, hr9, hz_1⟩ := hp9
  rw [hr9]
  have hF_1 : FR [5, 53, 55, 56, 57] h g2_1 := FR_tr hF hG_1 (by decide)
  show TT K ly 0 0 5 [(0, vR 44), (1, vR 5), (2, vI b)] [vI z2_1] g2_1
  refine TT_istore_n hK rfl (lv' := [(3, vI z2_1), (0, vR 44), (1, vR 5), (2, vI b)]) (by decide) rfl dX10_readBandHead_5 ?_
  refine TT_iload_n hK rfl 0 rfl dX10_readBandHead_6 ?_
  refine TT_iconst hK dX10_readBandHead_7 ?_
  refine TT_icmp_eq hK (tgt := 21) (irm (by omega) (by omega)) (by decide) dX10_readBandHead_8 (by decide) (fun hb8_2 => ?_) (fun hb8_2 => ?_)
  · have J66_3 : ∀ (w66_3 : Hp_), TY w66_3 → FR [5, 53, 55, 56, 57] h w66_3 → TT K ly 0 0 66 [(0, vR 44), (1, vR 5), (2, vI b)] [] w66_3 := by
      intro w66_3 hT66_3 hF66_3
      refine TT_aload_n hK rfl 1 rfl dX10_readBandHead_66 ?_
      refine iv_X10_127 hK (s_readCount_5 w66_3 hT66_3 ) ⟨by decide, by decide⟩ (by decide) rfl rfl (Nat.le_of_ble_eq_true rfl) ⟨by decide, by decide⟩ dX10_readBandHead_67 ?_
      intro r9 g67_4 hp9
      obtain ⟨⟨hT_4, hG_4⟩, z67_4, hr9, hz_4⟩ := hp9
      rw [hr9]
      have hF_4 : FR [5, 53, 55, 56, 57] h g67_4 := FR_tr hF66_3 hG_4 (by decide)
      show TT K ly 0 0 70 [(0, vR 44), (1, vR 5), (2, vI b)] [vI z67_4] g67_4
      refine TT_istore hK (lv' := [(4, vI z67_4), (0, vR 44), (1, vR 5), (2, vI b)]) (by decide) rfl dX10_readBandHead_70 ?_
      refine TT_iload hK 0 rfl dX10_readBandHead_72 ?_
      refine TT_if_ge hK (tgt := 79) (irm (by omega) (by omega)) dX10_readBandHead_74 (by decide) (fun hb74_5 => ?_) (fun hb74_5 => ?_)
      · refine TT_aload_n hK rfl 1 rfl dX10_readBandHead_79 ?_
        refine gf_X10_22 hK (by decide) rfl (q := 54) rfl rfl dX10_readBandHead_80 ?_
        refine TT_iload_n hK rfl 3 rfl dX10_readBandHead_83 ?_
        refine TT_iald hK (o := 54) (n := 10) (by decide) rfl (by first | omega | (simp [up, setR] <;> omega)) (by first | omega | (simp [up, setR] <;> omega)) (v := (h 54) b) (rd_ (((hG_4 54 (by decide))).trans (hF66_3 54 (by decide))) rfl) dX10_readBandHead_84 ?_
        have r6 := ty_54 (i := b) (v := (h 54) b) hT_4 (rd_ (((hG_4 54 (by decide))).trans (hF66_3 54 (by decide))) rfl) (by omega) (by omega)
        refine TT_iload hK 0 rfl dX10_readBandHead_85 ?_
        refine TT_iadd hK dX10_readBandHead_87 ?_
        refine TT_w32 (fun x88_7 hx7 => ?_)
        refine TT_aload_n hK rfl 1 rfl dX10_readBandHead_88 ?_
        refine gf_X10_18 hK (by decide) rfl (q := 53) rfl rfl dX10_readBandHead_89 ?_
        refine TT_iload_n hK rfl 3 rfl dX10_readBandHead_92 ?_
        refine TT_iald hK (o := 53) (n := 10) (by decide) rfl (by first | omega | (simp [up, setR] <;> omega)) (by first | omega | (simp [up, setR] <;> omega)) (v := (w66_3 53) b) (rd_ (hG_4 53 (by decide)) rfl) dX10_readBandHead_93 ?_
        have r8 := ty_53 (i := b) (v := (w66_3 53) b) hT_4 (rd_ (hG_4 53 (by decide)) rfl) (by omega) (by omega)
        refine iv_X10_131 hK (s_X11_passesOf ((w66_3 53) b) g67_4 hT_4 (by first | omega | (simp [up, setR] <;> omega))) ⟨by decide, by decide⟩ (by decide) rfl rfl (Nat.le_of_ble_eq_true rfl) ⟨by decide, by decide⟩ dX10_readBandHead_94 ?_
        intro r9 g94_9 hp9
        obtain ⟨⟨hT_9, hG_9⟩, z94_9, hr9, hz_9⟩ := hp9
        rw [hr9]
        have hF_9 : FR [5, 53, 55, 56, 57] h g94_9 := FR_tr hF_4 hG_9 (by decide)
        show TT K ly 0 0 97 [(4, vI z67_4), (0, vR 44), (1, vR 5), (2, vI b)] [vI z94_9, vI x88_7] g94_9
        refine TT_icmp_le hK (tgt := 102) (irm (by omega) (by omega)) (irm (by omega) (by omega)) dX10_readBandHead_97 (by decide) (fun hb97_10 => ?_) (fun hb97_10 => ?_)
        · refine TT_aload_n hK rfl 1 rfl dX10_readBandHead_102 ?_
          refine TT_aload_n hK rfl 2 rfl dX10_readBandHead_103 ?_
          refine TT_iload_n hK rfl 3 rfl dX10_readBandHead_104 ?_
          refine iv_X10_134 hK (s_X10_growWidth_44 b g94_9 hT_9 (by first | omega | (simp [up, setR] <;> omega))) (by decide) rfl ⟨by decide, by decide⟩ (by decide) rfl rfl (Nat.le_of_ble_eq_true rfl) ⟨by decide, by decide⟩ dX10_readBandHead_105 ?_
          intro r9 g105_11 hp9
          obtain ⟨⟨hT_11, hG_11⟩, hr9⟩ := hp9
          rw [hr9]
          have hF_11 : FR [5, 53, 55, 56, 57] h g105_11 := FR_tr hF_9 hG_11 (by decide)
          show TT K ly 0 0 108 [(4, vI z67_4), (0, vR 44), (1, vR 5), (2, vI b)] [] g105_11
          refine TT_aload_n hK rfl 2 rfl dX10_readBandHead_108 ?_
          refine TT_aload_n hK rfl 1 rfl dX10_readBandHead_109 ?_
          refine gf_X10_25 hK (by decide) rfl (q := 55) rfl rfl dX10_readBandHead_110 ?_
          refine TT_iload_n hK rfl 3 rfl dX10_readBandHead_113 ?_
          refine TT_iald hK (o := 55) (n := 10) (by decide) rfl (by first | omega | (simp [up, setR] <;> omega)) (by first | omega | (simp [up, setR] <;> omega)) (v := (g105_11 55) b) rfl dX10_readBandHead_114 ?_
          have r12 := ty_55 (i := b) (v := (g105_11 55) b) hT_11 rfl (by omega) (by omega)
          refine TT_iload hK 0 rfl dX10_readBandHead_115 ?_
          refine iv_X10_138 hK (s_X11_bitsOf z67_4 g105_11 hT_11 (by first | omega | (simp [up, setR] <;> omega))) ⟨by decide, by decide⟩ (by decide) rfl rfl (Nat.le_of_ble_eq_true rfl) ⟨by decide, by decide⟩ dX10_readBandHead_117 ?_
          intro r9 g117_13 hp9
          obtain ⟨⟨hT_13, hG_13⟩, z117_13, hr9, hz_13⟩ := hp9
          rw [hr9]
          have hF_13 : FR [5, 53, 55, 56, 57] h g117_13 := FR_tr hF_11 hG_13 (by decide)
          show TT K ly 0 0 120 [(4, vI z67_4), (0, vR 44), (1, vR 5), (2, vI b)] [vI z117_13, vI ((g105_11 55) b), vR 5] g117_13
          refine TT_iadd hK dX10_readBandHead_120 ?_
          refine TT_w32 (fun x121_14 hx14 => ?_)
          refine TT_iconst hK dX10_readBandHead_121 ?_
          refine TT_isub hK dX10_readBandHead_122 ?_
          refine TT_w32 (fun x123_15 hx15 => ?_)
          refine iv_X10_118 hK (s_X1_takeBits_5 x123_15 g117_13 hT_13 (by first | omega | (simp [up, setR] <;> omega))) (by decide) rfl ⟨by decide, by decide⟩ (by decide) rfl rfl (Nat.le_of_ble_eq_true rfl) ⟨by decide, by decide⟩ dX10_readBandHead_123 ?_
          intro r9 g123_16 hp9
          obtain ⟨⟨hT_16, hG_16⟩, z123_16, hr9, hz_16⟩ := hp9
          rw [hr9]
          have hF_16 : FR [5, 53, 55, 56, 57] h g123_16 := FR_tr hF_13 hG_16 (by decide)
          show TT K ly 0 0 126 [(4, vI z67_4), (0, vR 44), (1, vR 5), (2, vI b)] [vI z123_16] g123_16
          refine TT_istore hK (lv' := [(5, vI z123_16), (4, vI z67_4), (0, vR 44), (1, vR 5), (2, vI b)]) (by decide) rfl dX10_readBandHead_126 ?_
          refine TT_iload hK 0 rfl dX10_readBandHead_128 ?_
          refine TT_if_ge hK (tgt := 135) (irm (by omega) (by omega)) dX10_readBandHead_130 (by decide) (fun hb130_17 => ?_) (fun hb130_17 => ?_)
          · refine TT_aload_n hK rfl 2 rfl dX10_readBandHead_135 ?_
            refine gf_X10_28 hK (by decide) rfl (q := 56) rfl rfl dX10_readBandHead_136 ?_
            refine TT_iload_n hK rfl 4 rfl dX10_readBandHead_139 ?_
            refine TT_iload hK 1 rfl dX10_readBandHead_140 ?_
            refine TT_iast hK (o := 56) (n := 10) (by decide) rfl (by omega) (by omega) dX10_readBandHead_142 ?_
            refine TT_hp (h' := setO g123_16 56 (fup (w66_3 56) b z67_4)) (up_can (((hG_16 56 (by decide))).trans (((hG_13 56 (by decide))).trans (((hG_11 56 (by decide))).trans (((hG_9 56 (by decide))).trans (hG_4 56 (by decide)))))) rfl rfl) ?_
            have hT_18 : TY (setO g123_16 56 (fup (w66_3 56) b z67_4)) := tu_56 hT_16 (show up g123_16 56 b z67_4 = (setO g123_16 56 (fup (w66_3 56) b z67_4)) from up_can (((hG_16 56 (by decide))).trans (((hG_13 56 (by decide))).trans (((hG_11 56 (by decide))).trans (((hG_9 56 (by decide))).trans (hG_4 56 (by decide)))))) rfl rfl) (by omega)
            have hF_18 : FR [5, 53, 55, 56, 57] h (setO g123_16 56 (fup (w66_3 56) b z67_4)) := FR_up (show up g123_16 56 b z67_4 = (setO g123_16 56 (fup (w66_3 56) b z67_4)) from up_can (((hG_16 56 (by decide))).trans (((hG_13 56 (by decide))).trans (((hG_11 56 (by decide))).trans (((hG_9 56 (by decide))).trans (hG_4 56 (by decide)))))) rfl rfl) hF_16 (by decide)
            refine TT_aload_n hK rfl 2 rfl dX10_readBandHead_143 ?_
            refine gf_X10_31 hK (by decide) rfl (q := 57) rfl rfl dX10_readBandHead_144 ?_
            refine TT_iload_n hK rfl 4 rfl dX10_readBandHead_147 ?_
            refine TT_iload hK 0 rfl dX10_readBandHead_148 ?_
            refine TT_iast hK (o := 57) (n := 10) (by decide) rfl (by omega) (by omega) dX10_readBandHead_150 ?_
            refine TT_hp (h' := setO (setO g123_16 56 (fup (w66_3 56) b z67_4)) 57 (fup (w66_3 57) b z123_16)) (up_can ((sOf_ne _ _ (by decide)).trans (((hG_16 57 (by decide))).trans (((hG_13 57 (by decide))).trans (((hG_11 57 (by decide))).trans (((hG_9 57 (by decide))).trans (hG_4 57 (by decide))))))) rfl rfl) ?_
            have hT_19 : TY (setO (setO g123_16 56 (fup (w66_3 56) b z67_4)) 57 (fup (w66_3 57) b z123_16)) := tu_57 hT_18 (show up (setO g123_16 56 (fup (w66_3 56) b z67_4)) 57 b z123_16 = (setO (setO g123_16 56 (fup (w66_3 56) b z67_4)) 57 (fup (w66_3 57) b z123_16)) from up_can ((sOf_ne _ _ (by decide)).trans (((hG_16 57 (by decide))).trans (((hG_13 57 (by decide))).trans (((hG_11 57 (by decide))).trans (((hG_9 57 (by decide))).trans (hG_4 57 (by decide))))))) rfl rfl) (by omega)
            have hF_19 : FR [5, 53, 55, 56, 57] h (setO (setO g123_16 56 (fup (w66_3 56) b z67_4)) 57 (fup (w66_3 57) b z123_16)) := FR_up (show up (setO g123_16 56 (fup (w66_3 56) b z67_4)) 57 b z123_16 = (setO (setO g123_16 56 (fup (w66_3 56) b z67_4)) 57 (fup (w66_3 57) b z123_16)) from up_can ((sOf_ne _ _ (by decide)).trans (((hG_16 57 (by decide))).trans (((hG_13 57 (by decide))).trans (((hG_11 57 (by decide))).trans (((hG_9 57 (by decide))).trans (hG_4 57 (by decide))))))) rfl rfl) hF_18 (by decide)
            refine TT_iconst hK dX10_readBandHead_151 ?_
            refine TT_iret hK hQ ?_ dX10_readBandHead_152
            exact ⟨⟨hT_19, hF_19⟩, 0, rfl, (by omega)⟩
          · refine TT_iconst hK dX10_readBandHead_133 ?_
            refine TT_iret hK hQ ?_ dX10_readBandHead_134
            exact ⟨⟨hT_16, hF_16⟩, 1, rfl, (by omega)⟩
        · refine TT_iconst hK dX10_readBandHead_100 ?_
          refine TT_iret hK hQ ?_ dX10_readBandHead_101
          exact ⟨⟨hT_9, hF_9⟩, (-1), rfl, (by omega)⟩
      · refine TT_iconst hK dX10_readBandHead_77 ?_
        refine TT_iret hK hQ ?_ dX10_readBandHead_78
        exact ⟨⟨hT_4, hF_4⟩, 1, rfl, (by omega)⟩
    refine TT_aload_n hK rfl 1 rfl dX10_readBandHead_21 ?_
    refine gf_X10_22 hK (by decide) rfl (q := 54) rfl rfl dX10_readBandHead_22 ?_
    refine TT_iload_n hK rfl 3 rfl dX10_readBandHead_25 ?_
    refine TT_iald hK (o := 54) (n := 10) (by decide) rfl (by first | omega | (simp [up, setR] <;> omega)) (by first | omega | (simp [up, setR] <;> omega)) (v := (h 54) b) (rd_ (hG_1 54 (by decide)) rfl) dX10_readBandHead_26 ?_
    have r20 := ty_54 (i := b) (v := (h 54) b) hT_1 (rd_ (hG_1 54 (by decide)) rfl) (by omega) (by omega)
    refine TT_if_ne hK (tgt := 66) (irm (by omega) (by omega)) dX10_readBandHead_27 (by decide) (fun hb27_21 => ?_) (fun hb27_21 => ?_)
    · refine TT_sub [1, 2, 3] rfl ?_
      exact J66_3 g2_1 hT_1 hF_1 
    · refine TT_aload_n hK rfl 2 rfl dX10_readBandHead_30 ?_
      refine TT_iconst hK dX10_readBandHead_31 ?_
      refine iv_X10_118 hK (s_X1_takeBits_5 4 g2_1 hT_1 (by first | omega | (simp [up, setR] <;> omega))) (by decide) rfl ⟨by decide, by decide⟩ (by decide) rfl rfl (Nat.le_of_ble_eq_true rfl) ⟨by decide, by decide⟩ dX10_readBandHead_32 ?_
      intro r9 g32_22 hp9
      obtain ⟨⟨hT_22, hG_22⟩, z32_22, hr9, hz_22⟩ := hp9
      rw [hr9]
      have hF_22 : FR [5, 53, 55, 56, 57] h g32_22 := FR_tr hF_1 hG_22 (by decide)
      show TT K ly 0 0 35 [(3, vI z2_1), (0, vR 44), (1, vR 5), (2, vI b)] [vI z32_22] g32_22
      refine TT_istore hK (lv' := [(4, vI z32_22), (3, vI z2_1), (0, vR 44), (1, vR 5), (2, vI b)]) (by decide) rfl dX10_readBandHead_35 ?_
      refine TT_iload hK 0 rfl dX10_readBandHead_37 ?_
      refine TT_if_ge hK (tgt := 44) (irm (by omega) (by omega)) dX10_readBandHead_39 (by decide) (fun hb39_23 => ?_) (fun hb39_23 => ?_)
      · refine TT_iload hK 0 rfl dX10_readBandHead_44 ?_
        refine TT_if_eq hK (tgt := 56) (irm (by omega) (by omega)) dX10_readBandHead_46 (by decide) (fun hb46_24 => ?_) (fun hb46_24 => ?_)
        · refine TT_iconst hK dX10_readBandHead_56 ?_
          refine TT_iret hK hQ ?_ dX10_readBandHead_57
          exact ⟨⟨hT_22, hF_22⟩, (-1), rfl, (by omega)⟩
        · refine TT_iload hK 0 rfl dX10_readBandHead_49 ?_
          refine TT_bipush hK (by decide) dX10_readBandHead_51 ?_
          refine TT_icmp_le hK (tgt := 58) (irm (by omega) (by omega)) (by decide) dX10_readBandHead_53 (by decide) (fun hb53_25 => ?_) (fun hb53_25 => ?_)
          · refine TT_aload_n hK rfl 2 rfl dX10_readBandHead_58 ?_
            refine gf_X10_18 hK (by decide) rfl (q := 53) rfl rfl dX10_readBandHead_59 ?_
            refine TT_iload_n hK rfl 4 rfl dX10_readBandHead_62 ?_
            refine TT_iload hK 0 rfl dX10_readBandHead_63 ?_
            refine TT_iast hK (o := 53) (n := 10) (by decide) rfl (by omega) (by omega) dX10_readBandHead_65 ?_
            refine TT_hp (h' := setO g32_22 53 (fup (h 53) b z32_22)) (up_can (((hG_22 53 (by decide))).trans (hG_1 53 (by decide))) rfl rfl) ?_
            have hT_26 : TY (setO g32_22 53 (fup (h 53) b z32_22)) := tu_53 hT_22 (show up g32_22 53 b z32_22 = (setO g32_22 53 (fup (h 53) b z32_22)) from up_can (((hG_22 53 (by decide))).trans (hG_1 53 (by decide))) rfl rfl) (by omega)
            have hF_26 : FR [5, 53, 55, 56, 57] h (setO g32_22 53 (fup (h 53) b z32_22)) := FR_up (show up g32_22 53 b z32_22 = (setO g32_22 53 (fup (h 53) b z32_22)) from up_can (((hG_22 53 (by decide))).trans (hG_1 53 (by decide))) rfl rfl) hF_22 (by decide)
            refine TT_sub [2, 3, 4] rfl ?_
            exact J66_3 (setO g32_22 53 (fup (h 53) b z32_22)) hT_26 hF_26 
          · refine TT_iconst hK dX10_readBandHead_56 ?_
            refine TT_iret hK hQ ?_ dX10_readBandHead_57
            exact ⟨⟨hT_22, hF_22⟩, (-1), rfl, (by omega)⟩
      · refine TT_iconst hK dX10_readBandHead_42 ?_
        refine TT_iret hK hQ ?_ dX10_readBandHead_43
        exact ⟨⟨hT_22, hF_22⟩, 1, rfl, (by omega)⟩
  · refine TT_iload_n hK rfl 0 rfl dX10_readBandHead_11 ?_
    refine TT_if_ne hK (tgt := 19) (irm (by omega) (by omega)) dX10_readBandHead_12 (by decide) (fun hb12_27 => ?_) (fun hb12_27 => ?_)
    · refine TT_iconst hK dX10_readBandHead_19 ?_
      refine TT_iret hK hQ ?_ dX10_readBandHead_20
      exact ⟨⟨hT_1, hF_1⟩, 1, rfl, (by omega)⟩
    · refine TT_iconst hK dX10_readBandHead_15 ?_
      refine TT_goto hK (tgt := 20) dX10_readBandHead_16 (by decide) ?_
      refine TT_iret hK hQ ?_ dX10_readBandHead_20
      exact ⟨⟨hT_1, hF_1⟩, 0, rfl, (by omega)⟩
set_option maxRecDepth 20000 in
theorem s_X10_readHead_44 (r : Int) (h : Hp_) (hT : TY h) (hr : 0 ≤ r ∧ r ≤ 3) : Ctr yX10_readHead cX10_readHead 6 (some .int) (rmd 4) ly ly 0 0 [vR 44, vR 5, vI r] h (fun r h' => (TY h' ∧ FR [5, 53, 55, 56, 57] h h') ∧ ∃ z : Int, r = some (vI z) ∧ (-1 ≤ z ∧ z ≤ 1)) := by
  refine Ctr_of (by decide) (Nat.le_of_ble_eq_true rfl) ⟨Nat.le_refl _, Nat.le_refl _⟩ (fun K hK hQ _ => ?_)
  show TT K ly 0 0 0 [(0, vR 44), (1, vR 5), (2, vI r)] [] h
  have hF : FR [5, 53, 55, 56, 57] h h := FR_rf _ _
  refine TT_iload_n hK rfl 2 rfl dX10_readHead_0 ?_
  refine iv_X10_109 hK (s_X11_firstBandOf r h hT (by first | omega | (simp [up, setR] <;> omega))) ⟨by decide, by decide⟩ (by decide) rfl rfl (Nat.le_of_ble_eq_true rfl) ⟨by decide, by decide⟩ dX10_readHead_1 ?_
  intro r9 g1_1 hp9
  obtain ⟨⟨hT_1, hG_1⟩, z1_1, hr9, hz_1⟩ := hp9
  rw [hr9]
  have hF_1 : FR [5, 53, 55, 56, 57] h g1_1 := FR_tr hF hG_1 (by decide)
  show TT K ly 0 0 4 [(0, vR 44), (1, vR 5), (2, vI r)] [vI z1_1] g1_1
  refine TT_istore_n hK rfl (lv' := [(3, vI z1_1), (0, vR 44), (1, vR 5), (2, vI r)]) (by decide) rfl dX10_readHead_4 ?_
  have L5_2 : ∀ (k2 : Nat) (b1 : Int) (w5_2 : Hp_), TY w5_2 → FR [5, 53, 55, 56, 57] h w5_2 → (0 ≤ b1 ∧ b1 ≤ 10) → ((10 : Int) - b1).toNat < k2 → TT K ly 0 0 5 [(0, vR 44), (1, vR 5), (2, vI r), (3, vI b1)] [] w5_2 := by
    intro k2
    induction k2 with
    | zero => intro b1 w5_2 hT5_2 hF5_2 hb1 hk2; exact absurd hk2 (Nat.not_lt_zero _)
    | succ k2 ih2 =>
      intro b1 w5_2 hT5_2 hF5_2 hb1 hk2
      refine TT_iload_n hK rfl 3 rfl dX10_readHead_5 ?_
      refine TT_iload_n hK rfl 2 rfl dX10_readHead_6 ?_
      refine iv_X10_112 hK (s_X11_lastBandOf r w5_2 hT5_2 (by first | omega | (simp [up, setR] <;> omega))) ⟨by decide, by decide⟩ (by decide) rfl rfl (Nat.le_of_ble_eq_true rfl) ⟨by decide, by decide⟩ dX10_readHead_7 ?_
      intro r9 g7_3 hp9
      obtain ⟨⟨hT_3, hG_3⟩, z7_3, hr9, hz_3⟩ := hp9
      rw [hr9]
      have hF_3 : FR [5, 53, 55, 56, 57] h g7_3 := FR_tr hF5_2 hG_3 (by decide)
      show TT K ly 0 0 10 [(0, vR 44), (1, vR 5), (2, vI r), (3, vI b1)] [vI z7_3, vI b1] g7_3
      refine TT_icmp_gt hK (tgt := 33) (irm (by omega) (by omega)) (irm (by omega) (by omega)) dX10_readHead_10 (by decide) (fun hb10_4 => ?_) (fun hb10_4 => ?_)
      · refine TT_aload_n hK rfl 1 rfl dX10_readHead_33 ?_
        refine TT_iconst hK dX10_readHead_34 ?_
        refine iv_X10_118 hK (s_X1_takeBits_5 1 g7_3 hT_3 (by first | omega | (simp [up, setR] <;> omega))) (by decide) rfl ⟨by decide, by decide⟩ (by decide) rfl rfl (Nat.le_of_ble_eq_true rfl) ⟨by decide, by decide⟩ dX10_readHead_35 ?_
        intro r9 g35_5 hp9
        obtain ⟨⟨hT_5, hG_5⟩, z35_5, hr9, hz_5⟩ := hp9
        rw [hr9]
        have hF_5 : FR [5, 53, 55, 56, 57] h g35_5 := FR_tr hF_3 hG_5 (by decide)
        show TT K ly 0 0 38 [(0, vR 44), (1, vR 5), (2, vI r), (3, vI b1)] [vI z35_5] g35_5
        refine TT_istore_n hK rfl (lv' := [(3, vI z35_5), (0, vR 44), (1, vR 5), (2, vI r)]) (by decide) rfl dX10_readHead_38 ?_
        refine TT_iload_n hK rfl 0 rfl dX10_readHead_39 ?_
        refine TT_iconst hK dX10_readHead_40 ?_
        refine TT_icmp_eq hK (tgt := 54) (irm (by omega) (by omega)) (by decide) dX10_readHead_41 (by decide) (fun hb41_6 => ?_) (fun hb41_6 => ?_)
        · refine TT_iload_n hK rfl 3 rfl dX10_readHead_54 ?_
          refine iv_X10_109 hK (s_X11_firstBandOf r g35_5 hT_5 (by first | omega | (simp [up, setR] <;> omega))) ⟨by decide, by decide⟩ (by decide) rfl rfl (Nat.le_of_ble_eq_true rfl) ⟨by decide, by decide⟩ dX10_readHead_55 ?_
          intro r9 g55_7 hp9
          obtain ⟨⟨hT_7, hG_7⟩, z55_7, hr9, hz_7⟩ := hp9
          rw [hr9]
          have hF_7 : FR [5, 53, 55, 56, 57] h g55_7 := FR_tr hF_5 hG_7 (by decide)
          show TT K ly 0 0 58 [(3, vI z35_5), (0, vR 44), (1, vR 5), (2, vI r)] [vI z55_7] g55_7
          refine TT_istore hK (lv' := [(4, vI z55_7), (3, vI z35_5), (0, vR 44), (1, vR 5), (2, vI r)]) (by decide) rfl dX10_readHead_58 ?_
          have L60_8 : ∀ (k8 : Nat) (b2 : Int) (w60_8 : Hp_), TY w60_8 → FR [5, 53, 55, 56, 57] h w60_8 → (0 ≤ b2 ∧ b2 ≤ 10) → ((10 : Int) - b2).toNat < k8 → TT K ly 0 0 60 [(0, vR 44), (1, vR 5), (2, vI r), (3, vI z35_5), (4, vI b2)] [] w60_8 := by
            intro k8
            induction k8 with
            | zero => intro b2 w60_8 hT60_8 hF60_8 hb2 hk8; exact absurd hk8 (Nat.not_lt_zero _)
            | succ k8 ih8 =>
              intro b2 w60_8 hT60_8 hF60_8 hb2 hk8
              refine TT_iload hK 4 rfl dX10_readHead_60 ?_
              refine TT_iload_n hK rfl 2 rfl dX10_readHead_62 ?_
              refine iv_X10_112 hK (s_X11_lastBandOf r w60_8 hT60_8 (by first | omega | (simp [up, setR] <;> omega))) ⟨by decide, by decide⟩ (by decide) rfl rfl (Nat.le_of_ble_eq_true rfl) ⟨by decide, by decide⟩ dX10_readHead_63 ?_
              intro r9 g63_9 hp9
              obtain ⟨⟨hT_9, hG_9⟩, z63_9, hr9, hz_9⟩ := hp9
              rw [hr9]
              have hF_9 : FR [5, 53, 55, 56, 57] h g63_9 := FR_tr hF60_8 hG_9 (by decide)
              show TT K ly 0 0 66 [(0, vR 44), (1, vR 5), (2, vI r), (3, vI z35_5), (4, vI b2)] [vI z63_9, vI b2] g63_9
              refine TT_icmp_gt hK (tgt := 108) (irm (by omega) (by omega)) (irm (by omega) (by omega)) dX10_readHead_66 (by decide) (fun hb66_10 => ?_) (fun hb66_10 => ?_)
              · refine TT_iconst hK dX10_readHead_108 ?_
                refine TT_iret hK hQ ?_ dX10_readHead_109
                exact ⟨⟨hT_9, hF_9⟩, 0, rfl, (by omega)⟩
              · refine TT_aload_n hK rfl 0 rfl dX10_readHead_69 ?_
                refine gf_X10_12 hK (by decide) rfl (q := 45) rfl rfl dX10_readHead_70 ?_
                refine TT_iload hK 4 rfl dX10_readHead_73 ?_
                refine iv_X10_121 hK (s_X0_isEmpty_45 b2 g63_9 hT_9 (by first | omega | (simp [up, setR] <;> omega))) (by decide) rfl ⟨by decide, by decide⟩ (by decide) rfl rfl (Nat.le_of_ble_eq_true rfl) ⟨by decide, by decide⟩ dX10_readHead_75 ?_
                intro r9 g75_11 hp9
                obtain ⟨⟨hT_11, hG_11⟩, z75_11, hr9, hz_11⟩ := hp9
                rw [hr9]
                have hF_11 : FR [5, 53, 55, 56, 57] h g75_11 := FR_tr hF_9 hG_11 (by decide)
                show TT K ly 0 0 78 [(0, vR 44), (1, vR 5), (2, vI r), (3, vI z35_5), (4, vI b2)] [vI z75_11] g75_11
                refine TT_if_eq hK (tgt := 85) (irm (by omega) (by omega)) dX10_readHead_78 (by decide) (fun hb78_12 => ?_) (fun hb78_12 => ?_)
                · refine TT_aload_n hK rfl 0 rfl dX10_readHead_85 ?_
                  refine TT_aload_n hK rfl 1 rfl dX10_readHead_86 ?_
                  refine TT_iload hK 4 rfl dX10_readHead_87 ?_
                  refine iv_X10_124 hK (s_X10_readBandHead_44 b2 g75_11 hT_11 (by first | omega | (simp [up, setR] <;> omega))) (by decide) rfl ⟨by decide, by decide⟩ (by decide) rfl rfl (Nat.le_of_ble_eq_true rfl) ⟨by decide, by decide⟩ dX10_readHead_89 ?_
                  intro r9 g89_13 hp9
                  obtain ⟨⟨hT_13, hG_13⟩, z89_13, hr9, hz_13⟩ := hp9
                  rw [hr9]
                  have hF_13 : FR [5, 53, 55, 56, 57] h g89_13 := FR_tr hF_11 hG_13 (by decide)
                  show TT K ly 0 0 92 [(0, vR 44), (1, vR 5), (2, vI r), (3, vI z35_5), (4, vI b2)] [vI z89_13] g89_13
                  refine TT_istore hK (lv' := [(5, vI z89_13), (0, vR 44), (1, vR 5), (2, vI r), (3, vI z35_5), (4, vI b2)]) (by decide) rfl dX10_readHead_92 ?_
                  refine TT_iload hK 0 rfl dX10_readHead_94 ?_
                  refine TT_if_eq hK (tgt := 102) (irm (by omega) (by omega)) dX10_readHead_96 (by decide) (fun hb96_14 => ?_) (fun hb96_14 => ?_)
                  · refine TT_iinc hK (v := b2 + 1) (lv' := [(4, vI (b2 + 1)), (5, vI z89_13), (0, vR 44), (1, vR 5), (2, vI r), (3, vI z35_5)]) 5 rfl rfl (by decide) rfl dX10_readHead_102 ?_
                    refine TT_goto hK (tgt := 60) dX10_readHead_105 (by decide) ?_
                    refine TT_sub [2, 3, 4, 5, 0] rfl ?_
                    exact ih8 (b2 + 1) g89_13 hT_13 hF_13 (by first | omega | (simp [up, setR] <;> omega)) (by first | omega | (simp [up, setR] <;> omega))
                  · refine TT_iload hK 0 rfl dX10_readHead_99 ?_
                    refine TT_iret hK hQ ?_ dX10_readHead_101
                    exact ⟨⟨hT_13, hF_13⟩, z89_13, rfl, (by omega)⟩
                · refine TT_iconst hK dX10_readHead_81 ?_
                  refine TT_goto hK (tgt := 92) dX10_readHead_82 (by decide) ?_
                  refine TT_istore hK (lv' := [(5, vI 0), (0, vR 44), (1, vR 5), (2, vI r), (3, vI z35_5), (4, vI b2)]) (by decide) rfl dX10_readHead_92 ?_
                  refine TT_iload hK 0 rfl dX10_readHead_94 ?_
                  refine TT_if_eq hK (tgt := 102) (by decide) dX10_readHead_96 (by decide) (fun hb96_15 => ?_) (fun hb96_15 => ?_)
                  · refine TT_iinc hK (v := b2 + 1) (lv' := [(4, vI (b2 + 1)), (5, vI 0), (0, vR 44), (1, vR 5), (2, vI r), (3, vI z35_5)]) 5 rfl rfl (by decide) rfl dX10_readHead_102 ?_
                    refine TT_goto hK (tgt := 60) dX10_readHead_105 (by decide) ?_
                    refine TT_sub [2, 3, 4, 5, 0] rfl ?_
                    exact ih8 (b2 + 1) g75_11 hT_11 hF_11 (by first | omega | (simp [up, setR] <;> omega)) (by first | omega | (simp [up, setR] <;> omega))
                  · exact absurd hb96_15 (by decide)
          refine TT_sub [2, 3, 4, 1, 0] rfl ?_
          exact L60_8 ((((10 : Int) - z55_7).toNat) + 1) z55_7 g55_7 hT_7 hF_7 (by first | omega | (simp [up, setR] <;> omega)) (Nat.lt_succ_self _)
        · refine TT_iload_n hK rfl 0 rfl dX10_readHead_44 ?_
          refine TT_if_ne hK (tgt := 52) (irm (by omega) (by omega)) dX10_readHead_45 (by decide) (fun hb45_16 => ?_) (fun hb45_16 => ?_)
          · refine TT_iconst hK dX10_readHead_52 ?_
            refine TT_iret hK hQ ?_ dX10_readHead_53
            exact ⟨⟨hT_5, hF_5⟩, 1, rfl, (by omega)⟩
          · refine TT_iconst hK dX10_readHead_48 ?_
            refine TT_goto hK (tgt := 53) dX10_readHead_49 (by decide) ?_
            refine TT_iret hK hQ ?_ dX10_readHead_53
            exact ⟨⟨hT_5, hF_5⟩, 0, rfl, (by omega)⟩
      · refine TT_aload_n hK rfl 0 rfl dX10_readHead_13 ?_
        refine gf_X10_28 hK (by decide) rfl (q := 56) rfl rfl dX10_readHead_14 ?_
        refine TT_iload_n hK rfl 3 rfl dX10_readHead_17 ?_
        refine TT_iconst hK dX10_readHead_18 ?_
        refine TT_iast hK (o := 56) (n := 10) (by decide) rfl (by omega) (by omega) dX10_readHead_19 ?_
        refine TT_hp (h' := setO g7_3 56 (fup (w5_2 56) b1 0)) (up_can (hG_3 56 (by decide)) rfl rfl) ?_
        have hT_17 : TY (setO g7_3 56 (fup (w5_2 56) b1 0)) := tu_56 hT_3 (show up g7_3 56 b1 0 = (setO g7_3 56 (fup (w5_2 56) b1 0)) from up_can (hG_3 56 (by decide)) rfl rfl) (by omega)
        have hF_17 : FR [5, 53, 55, 56, 57] h (setO g7_3 56 (fup (w5_2 56) b1 0)) := FR_up (show up g7_3 56 b1 0 = (setO g7_3 56 (fup (w5_2 56) b1 0)) from up_can (hG_3 56 (by decide)) rfl rfl) hF_3 (by decide)
        refine TT_aload_n hK rfl 0 rfl dX10_readHead_20 ?_
        refine gf_X10_31 hK (by decide) rfl (q := 57) rfl rfl dX10_readHead_21 ?_
        refine TT_iload_n hK rfl 3 rfl dX10_readHead_24 ?_
        refine TT_iconst hK dX10_readHead_25 ?_
        refine TT_iast hK (o := 57) (n := 10) (by decide) rfl (by omega) (by omega) dX10_readHead_26 ?_
        refine TT_hp (h' := setO (setO g7_3 56 (fup (w5_2 56) b1 0)) 57 (fup (w5_2 57) b1 0)) (up_can ((sOf_ne _ _ (by decide)).trans (hG_3 57 (by decide))) rfl rfl) ?_
        have hT_18 : TY (setO (setO g7_3 56 (fup (w5_2 56) b1 0)) 57 (fup (w5_2 57) b1 0)) := tu_57 hT_17 (show up (setO g7_3 56 (fup (w5_2 56) b1 0)) 57 b1 0 = (setO (setO g7_3 56 (fup (w5_2 56) b1 0)) 57 (fup (w5_2 57) b1 0)) from up_can ((sOf_ne _ _ (by decide)).trans (hG_3 57 (by decide))) rfl rfl) (by omega)
        have hF_18 : FR [5, 53, 55, 56, 57] h (setO (setO g7_3 56 (fup (w5_2 56) b1 0)) 57 (fup (w5_2 57) b1 0)) := FR_up (show up (setO g7_3 56 (fup (w5_2 56) b1 0)) 57 b1 0 = (setO (setO g7_3 56 (fup (w5_2 56) b1 0)) 57 (fup (w5_2 57) b1 0)) from up_can ((sOf_ne _ _ (by decide)).trans (hG_3 57 (by decide))) rfl rfl) hF_17 (by decide)
        refine TT_iinc hK (v := b1 + 1) (lv' := [(3, vI (b1 + 1)), (0, vR 44), (1, vR 5), (2, vI r)]) 3 rfl rfl (by decide) rfl dX10_readHead_27 ?_
        refine TT_goto hK (tgt := 5) dX10_readHead_30 (by decide) ?_
        refine TT_sub [1, 2, 3, 0] rfl ?_
        exact ih2 (b1 + 1) (setO (setO g7_3 56 (fup (w5_2 56) b1 0)) 57 (fup (w5_2 57) b1 0)) hT_18 hF_18 (by first | omega | (simp [up, setR] <;> omega)) (by first | omega | (simp [up, setR] <;> omega))
  refine TT_sub [1, 2, 3, 0] rfl ?_
  exact L5_2 ((((10 : Int) - z1_1).toNat) + 1) z1_1 g1_1 hT_1 hF_1 (by first | omega | (simp [up, setR] <;> omega)) (Nat.lt_succ_self _)
set_option maxRecDepth 20000 in
theorem s_X10_takePacket_44 (n r : Int) (h : Hp_) (hT : TY h) (hn : -2147483648 ≤ n ∧ n ≤ 2147483647) (hr : 0 ≤ r ∧ r ≤ 3) : Ctr yX10_takePacket cX10_takePacket 8 (some .int) (rmd 5) ly ly 0 0 [vR 44, vR 5, vI n, vI r] h (fun r h' => (TY h' ∧ FR [5, 53, 54, 55, 56, 57, 58, 59, 60] h h') ∧ ∃ z : Int, r = some (vI z) ∧ (-1 ≤ z ∧ z ≤ 1)) := by
  refine Ctr_of (by decide) (Nat.le_of_ble_eq_true rfl) ⟨Nat.le_refl _, Nat.le_refl _⟩ (fun K hK hQ _ => ?_)
  show TT K ly 0 0 0 [(0, vR 44), (1, vR 5), (2, vI n), (3, vI r)] [] h
  have hF : FR [5, 53, 54, 55, 56, 57, 58, 59, 60] h h := FR_rf _ _
  refine TT_aload_n hK rfl 0 rfl dX10_takePacket_0 ?_
  refine TT_aload_n hK rfl 1 rfl dX10_takePacket_1 ?_
  refine TT_iload_n hK rfl 3 rfl dX10_takePacket_2 ?_
  refine iv_X10_101 hK (s_X10_readHead_44 r h hT (by first | omega | (simp [up, setR] <;> omega))) (by decide) rfl ⟨by decide, by decide⟩ (by decide) rfl rfl (Nat.le_of_ble_eq_true rfl) ⟨by decide, by decide⟩ dX10_takePacket_3 ?_
  intro r9 g3_1 hp9
  obtain ⟨⟨hT_1, hG_1⟩, z3_1, hr9, hz_1⟩ := hp9
  rw [hr9]
  have hF_1 : FR [5, 53, 54, 55, 56, 57, 58, 59, 60] h g3_1 := FR_tr hF hG_1 (by decide)
  show TT K ly 0 0 6 [(0, vR 44), (1, vR 5), (2, vI n), (3, vI r)] [vI z3_1] g3_1
  refine TT_istore hK (lv' := [(4, vI z3_1), (0, vR 44), (1, vR 5), (2, vI n), (3, vI r)]) (by decide) rfl dX10_takePacket_6 ?_
  refine TT_iload hK 0 rfl dX10_takePacket_8 ?_
  refine TT_if_eq hK (tgt := 16) (irm (by omega) (by omega)) dX10_takePacket_10 (by decide) (fun hb10_2 => ?_) (fun hb10_2 => ?_)
  · refine TT_aload_n hK rfl 2 rfl dX10_takePacket_16 ?_
    refine iv_X10_105 hK (s_X1_byteBehindBits_5 g3_1 hT_1 ) (by decide) rfl ⟨by decide, by decide⟩ (by decide) rfl rfl (Nat.le_of_ble_eq_true rfl) ⟨by decide, by decide⟩ dX10_takePacket_17 ?_
    intro r9 g17_3 hp9
    obtain ⟨⟨hT_3, hG_3⟩, z17_3, hr9, hz_3⟩ := hp9
    rw [hr9]
    have hF_3 : FR [5, 53, 54, 55, 56, 57, 58, 59, 60] h g17_3 := FR_tr hF_1 hG_3 (by decide)
    show TT K ly 0 0 20 [(4, vI z3_1), (0, vR 44), (1, vR 5), (2, vI n), (3, vI r)] [vI z17_3] g17_3
    refine TT_istore hK (lv' := [(5, vI z17_3), (4, vI z3_1), (0, vR 44), (1, vR 5), (2, vI n), (3, vI r)]) (by decide) rfl dX10_takePacket_20 ?_
    refine TT_iconst hK dX10_takePacket_22 ?_
    refine TT_istore hK (lv' := [(6, vI 0), (5, vI z17_3), (4, vI z3_1), (0, vR 44), (1, vR 5), (2, vI n), (3, vI r)]) (by decide) rfl dX10_takePacket_23 ?_
    refine TT_iload_n hK rfl 6 rfl dX10_takePacket_25 ?_
    refine iv_X10_109 hK (s_X11_firstBandOf r g17_3 hT_3 (by first | omega | (simp [up, setR] <;> omega))) ⟨by decide, by decide⟩ (by decide) rfl rfl (Nat.le_of_ble_eq_true rfl) ⟨by decide, by decide⟩ dX10_takePacket_26 ?_
    intro r9 g26_4 hp9
    obtain ⟨⟨hT_4, hG_4⟩, z26_4, hr9, hz_4⟩ := hp9
    rw [hr9]
    have hF_4 : FR [5, 53, 54, 55, 56, 57, 58, 59, 60] h g26_4 := FR_tr hF_3 hG_4 (by decide)
    show TT K ly 0 0 29 [(6, vI 0), (5, vI z17_3), (4, vI z3_1), (0, vR 44), (1, vR 5), (2, vI n), (3, vI r)] [vI z26_4] g26_4
    refine TT_istore hK (lv' := [(7, vI z26_4), (6, vI 0), (5, vI z17_3), (4, vI z3_1), (0, vR 44), (1, vR 5), (2, vI n), (3, vI r)]) (by decide) rfl dX10_takePacket_29 ?_
    have L31_5 : ∀ (k5 : Nat) (sm : Int) (b1 : Int) (w31_5 : Hp_), TY w31_5 → FR [5, 53, 54, 55, 56, 57, 58, 59, 60] h w31_5 → (-2147483648 ≤ sm ∧ sm ≤ 2147483647) → (0 ≤ b1 ∧ b1 ≤ 10) → ((10 : Int) - b1).toNat < k5 → TT K ly 0 0 31 [(0, vR 44), (1, vR 5), (2, vI n), (3, vI r), (4, vI z3_1), (5, vI z17_3), (6, vI sm), (7, vI b1)] [] w31_5 := by
      intro k5
      induction k5 with
      | zero => intro sm b1 w31_5 hT31_5 hF31_5 hsm hb1 hk5; exact absurd hk5 (Nat.not_lt_zero _)
      | succ k5 ih5 =>
        intro sm b1 w31_5 hT31_5 hF31_5 hsm hb1 hk5
        refine TT_iload hK 7 rfl dX10_takePacket_31 ?_
        refine TT_iload_n hK rfl 3 rfl dX10_takePacket_33 ?_
        refine iv_X10_112 hK (s_X11_lastBandOf r w31_5 hT31_5 (by first | omega | (simp [up, setR] <;> omega))) ⟨by decide, by decide⟩ (by decide) rfl rfl (Nat.le_of_ble_eq_true rfl) ⟨by decide, by decide⟩ dX10_takePacket_34 ?_
        intro r9 g34_6 hp9
        obtain ⟨⟨hT_6, hG_6⟩, z34_6, hr9, hz_6⟩ := hp9
        rw [hr9]
        have hF_6 : FR [5, 53, 54, 55, 56, 57, 58, 59, 60] h g34_6 := FR_tr hF31_5 hG_6 (by decide)
        show TT K ly 0 0 37 [(0, vR 44), (1, vR 5), (2, vI n), (3, vI r), (4, vI z3_1), (5, vI z17_3), (6, vI sm), (7, vI b1)] [vI z34_6, vI b1] g34_6
        refine TT_icmp_gt hK (tgt := 58) (irm (by omega) (by omega)) (irm (by omega) (by omega)) dX10_takePacket_37 (by decide) (fun hb37_7 => ?_) (fun hb37_7 => ?_)
        · refine TT_iload hK 6 rfl dX10_takePacket_58 ?_
          refine TT_iload_n hK rfl 2 rfl dX10_takePacket_60 ?_
          refine TT_iload hK 5 rfl dX10_takePacket_61 ?_
          refine TT_isub hK dX10_takePacket_63 ?_
          refine TT_w32 (fun x64_8 hx8 => ?_)
          refine TT_icmp_le hK (tgt := 69) (irm (by omega) (by omega)) (irm (by omega) (by omega)) dX10_takePacket_64 (by decide) (fun hb64_9 => ?_) (fun hb64_9 => ?_)
          · refine TT_iload_n hK rfl 3 rfl dX10_takePacket_69 ?_
            refine iv_X10_109 hK (s_X11_firstBandOf r g34_6 hT_6 (by first | omega | (simp [up, setR] <;> omega))) ⟨by decide, by decide⟩ (by decide) rfl rfl (Nat.le_of_ble_eq_true rfl) ⟨by decide, by decide⟩ dX10_takePacket_70 ?_
            intro r9 g70_10 hp9
            obtain ⟨⟨hT_10, hG_10⟩, z70_10, hr9, hz_10⟩ := hp9
            rw [hr9]
            have hF_10 : FR [5, 53, 54, 55, 56, 57, 58, 59, 60] h g70_10 := FR_tr hF_6 hG_10 (by decide)
            show TT K ly 0 0 73 [(0, vR 44), (1, vR 5), (2, vI n), (3, vI r), (4, vI z3_1), (5, vI z17_3), (6, vI sm), (7, vI b1)] [vI z70_10] g70_10
            refine TT_istore hK (lv' := [(7, vI z70_10), (0, vR 44), (1, vR 5), (2, vI n), (3, vI r), (4, vI z3_1), (5, vI z17_3), (6, vI sm)]) (by decide) rfl dX10_takePacket_73 ?_
            have L75_11 : ∀ (k11 : Nat) (st9 : Int) (b2 : Int) (w75_11 : Hp_), TY w75_11 → FR [5, 53, 54, 55, 56, 57, 58, 59, 60] h w75_11 → (-2147483648 ≤ st9 ∧ st9 ≤ 2147483647) → (0 ≤ b2 ∧ b2 ≤ 10) → ((10 : Int) - b2).toNat < k11 → TT K ly 0 0 75 [(0, vR 44), (1, vR 5), (2, vI n), (3, vI r), (4, vI z3_1), (5, vI st9), (6, vI sm), (7, vI b2)] [] w75_11 := by
              intro k11
              induction k11 with
              | zero => intro st9 b2 w75_11 hT75_11 hF75_11 hst9 hb2 hk11; exact absurd hk11 (Nat.not_lt_zero _)
              | succ k11 ih11 =>
                intro st9 b2 w75_11 hT75_11 hF75_11 hst9 hb2 hk11
                refine TT_iload hK 7 rfl dX10_takePacket_75 ?_
                refine TT_iload_n hK rfl 3 rfl dX10_takePacket_77 ?_
                refine iv_X10_112 hK (s_X11_lastBandOf r w75_11 hT75_11 (by first | omega | (simp [up, setR] <;> omega))) ⟨by decide, by decide⟩ (by decide) rfl rfl (Nat.le_of_ble_eq_true rfl) ⟨by decide, by decide⟩ dX10_takePacket_78 ?_
                intro r9 g78_12 hp9
                obtain ⟨⟨hT_12, hG_12⟩, z78_12, hr9, hz_12⟩ := hp9
                rw [hr9]
                have hF_12 : FR [5, 53, 54, 55, 56, 57, 58, 59, 60] h g78_12 := FR_tr hF75_11 hG_12 (by decide)
                show TT K ly 0 0 81 [(0, vR 44), (1, vR 5), (2, vI n), (3, vI r), (4, vI z3_1), (5, vI st9), (6, vI sm), (7, vI b2)] [vI z78_12, vI b2] g78_12
                refine TT_icmp_gt hK (tgt := 134) (irm (by omega) (by omega)) (irm (by omega) (by omega)) dX10_takePacket_81 (by decide) (fun hb81_13 => ?_) (fun hb81_13 => ?_)
                · refine TT_aload_n hK rfl 1 rfl dX10_takePacket_134 ?_
                  refine TT_iload hK 5 rfl dX10_takePacket_135 ?_
                  refine TT_iload_n hK rfl 2 rfl dX10_takePacket_137 ?_
                  refine iv_X10_93 hK (s_X1_takeFrom_5 st9 n g78_12 hT_12 (by first | omega | (simp [up, setR] <;> omega)) (by first | omega | (simp [up, setR] <;> omega))) (by decide) rfl ⟨by decide, by decide⟩ (by decide) rfl rfl (Nat.le_of_ble_eq_true rfl) ⟨by decide, by decide⟩ dX10_takePacket_138 ?_
                  intro r9 g138_14 hp9
                  obtain ⟨⟨hT_14, hG_14⟩, hr9⟩ := hp9
                  rw [hr9]
                  have hF_14 : FR [5, 53, 54, 55, 56, 57, 58, 59, 60] h g138_14 := FR_tr hF_12 hG_14 (by decide)
                  show TT K ly 0 0 141 [(0, vR 44), (1, vR 5), (2, vI n), (3, vI r), (4, vI z3_1), (5, vI st9), (6, vI sm), (7, vI b2)] [] g138_14
                  refine TT_iconst hK dX10_takePacket_141 ?_
                  refine TT_iret hK hQ ?_ dX10_takePacket_142
                  exact ⟨⟨hT_14, hF_14⟩, 0, rfl, (by omega)⟩
                · refine TT_aload_n hK rfl 0 rfl dX10_takePacket_84 ?_
                  refine gf_X10_22 hK (by decide) rfl (q := 54) rfl rfl dX10_takePacket_85 ?_
                  refine TT_iload hK 7 rfl dX10_takePacket_88 ?_
                  refine TT_dup2 hK rfl rfl dX10_takePacket_90 ?_
                  refine TT_iald hK (o := 54) (n := 10) (by decide) rfl (by first | omega | (simp [up, setR] <;> omega)) (by first | omega | (simp [up, setR] <;> omega)) (v := (w75_11 54) b2) (rd_ (hG_12 54 (by decide)) rfl) dX10_takePacket_91 ?_
                  have r15 := ty_54 (i := b2) (v := (w75_11 54) b2) hT_12 (rd_ (hG_12 54 (by decide)) rfl) (by omega) (by omega)
                  refine TT_aload_n hK rfl 0 rfl dX10_takePacket_92 ?_
                  refine gf_X10_28 hK (by decide) rfl (q := 56) rfl rfl dX10_takePacket_93 ?_
                  refine TT_iload hK 7 rfl dX10_takePacket_96 ?_
                  refine TT_iald hK (o := 56) (n := 10) (by decide) rfl (by first | omega | (simp [up, setR] <;> omega)) (by first | omega | (simp [up, setR] <;> omega)) (v := (w75_11 56) b2) (rd_ (hG_12 56 (by decide)) rfl) dX10_takePacket_98 ?_
                  have r16 := ty_56 (i := b2) (v := (w75_11 56) b2) hT_12 (rd_ (hG_12 56 (by decide)) rfl) (by omega) (by omega)
                  refine TT_iadd hK dX10_takePacket_99 ?_
                  refine TT_w32 (fun x100_17 hx17 => ?_)
                  refine TT_iast hK (o := 54) (n := 10) (by decide) rfl (by omega) (by omega) dX10_takePacket_100 ?_
                  refine TT_hp (h' := setO g78_12 54 (fup (w75_11 54) b2 x100_17)) (up_can (hG_12 54 (by decide)) rfl rfl) ?_
                  have hT_18 : TY (setO g78_12 54 (fup (w75_11 54) b2 x100_17)) := tu_54 hT_12 (show up g78_12 54 b2 x100_17 = (setO g78_12 54 (fup (w75_11 54) b2 x100_17)) from up_can (hG_12 54 (by decide)) rfl rfl) (by omega)
                  have hF_18 : FR [5, 53, 54, 55, 56, 57, 58, 59, 60] h (setO g78_12 54 (fup (w75_11 54) b2 x100_17)) := FR_up (show up g78_12 54 b2 x100_17 = (setO g78_12 54 (fup (w75_11 54) b2 x100_17)) from up_can (hG_12 54 (by decide)) rfl rfl) hF_12 (by decide)
                  refine TT_aload_n hK rfl 0 rfl dX10_takePacket_101 ?_
                  refine TT_iload hK 7 rfl dX10_takePacket_102 ?_
                  refine TT_iload hK 5 rfl dX10_takePacket_104 ?_
                  refine TT_aload_n hK rfl 0 rfl dX10_takePacket_106 ?_
                  refine gf_X10_31 hK (by decide) rfl (q := 57) rfl rfl dX10_takePacket_107 ?_
                  refine TT_iload hK 7 rfl dX10_takePacket_110 ?_
                  refine TT_iald hK (o := 57) (n := 10) (by decide) rfl (by first | omega | (simp [up, setR] <;> omega)) (by first | omega | (simp [up, setR] <;> omega)) (v := (w75_11 57) b2) (rd_ ((sOf_ne _ _ (by decide)).trans (hG_12 57 (by decide))) rfl) dX10_takePacket_112 ?_
                  have r19 := ty_57 (i := b2) (v := (w75_11 57) b2) hT_18 (rd_ ((sOf_ne _ _ (by decide)).trans (hG_12 57 (by decide))) rfl) (by omega) (by omega)
                  refine iv_X10_115 hK (s_X10_addPart_44 b2 st9 ((w75_11 57) b2) (setO g78_12 54 (fup (w75_11 54) b2 x100_17)) hT_18 (by first | omega | (simp [up, setR] <;> omega)) (by first | omega | (simp [up, setR] <;> omega)) (by first | omega | (simp [up, setR] <;> omega))) (by decide) rfl ⟨by decide, by decide⟩ (by decide) rfl rfl (Nat.le_of_ble_eq_true rfl) ⟨by decide, by decide⟩ dX10_takePacket_113 ?_
                  intro r9 g113_20 hp9
                  obtain ⟨⟨hT_20, hG_20⟩, hr9⟩ := hp9
                  rw [hr9]
                  have hF_20 : FR [5, 53, 54, 55, 56, 57, 58, 59, 60] h g113_20 := FR_tr hF_18 hG_20 (by decide)
                  show TT K ly 0 0 116 [(0, vR 44), (1, vR 5), (2, vI n), (3, vI r), (4, vI z3_1), (5, vI st9), (6, vI sm), (7, vI b2)] [] g113_20
                  refine TT_iload hK 5 rfl dX10_takePacket_116 ?_
                  refine TT_aload_n hK rfl 0 rfl dX10_takePacket_118 ?_
                  refine gf_X10_31 hK (by decide) rfl (q := 57) rfl rfl dX10_takePacket_119 ?_
                  refine TT_iload hK 7 rfl dX10_takePacket_122 ?_
                  refine TT_iald hK (o := 57) (n := 10) (by decide) rfl (by first | omega | (simp [up, setR] <;> omega)) (by first | omega | (simp [up, setR] <;> omega)) (v := (w75_11 57) b2) (rd_ (((hG_20 57 (by decide))).trans ((sOf_ne _ _ (by decide)).trans (hG_12 57 (by decide)))) rfl) dX10_takePacket_124 ?_
                  refine TT_iadd hK dX10_takePacket_125 ?_
                  refine TT_w32 (fun x126_21 hx21 => ?_)
                  refine TT_istore hK (lv' := [(5, vI x126_21), (0, vR 44), (1, vR 5), (2, vI n), (3, vI r), (4, vI z3_1), (6, vI sm), (7, vI b2)]) (by decide) rfl dX10_takePacket_126 ?_
                  refine TT_iinc hK (v := b2 + 1) (lv' := [(7, vI (b2 + 1)), (5, vI x126_21), (0, vR 44), (1, vR 5), (2, vI n), (3, vI r), (4, vI z3_1), (6, vI sm)]) 7 rfl rfl (by decide) rfl dX10_takePacket_128 ?_
                  refine TT_goto hK (tgt := 75) dX10_takePacket_131 (by decide) ?_
                  refine TT_sub [2, 3, 4, 5, 6, 1, 7, 0] rfl ?_
                  exact ih11 x126_21 (b2 + 1) g113_20 hT_20 hF_20 (by first | omega | (simp [up, setR] <;> omega)) (by first | omega | (simp [up, setR] <;> omega)) (by first | omega | (simp [up, setR] <;> omega))
            refine TT_sub [1, 2, 3, 4, 5, 6, 7, 0] rfl ?_
            exact L75_11 ((((10 : Int) - z70_10).toNat) + 1) z17_3 z70_10 g70_10 hT_10 hF_10 (by first | omega | (simp [up, setR] <;> omega)) (by first | omega | (simp [up, setR] <;> omega)) (Nat.lt_succ_self _)
          · refine TT_iconst hK dX10_takePacket_67 ?_
            refine TT_iret hK hQ ?_ dX10_takePacket_68
            exact ⟨⟨hT_6, hF_6⟩, 1, rfl, (by omega)⟩
        · refine TT_iload hK 6 rfl dX10_takePacket_40 ?_
          refine TT_aload_n hK rfl 0 rfl dX10_takePacket_42 ?_
          refine gf_X10_31 hK (by decide) rfl (q := 57) rfl rfl dX10_takePacket_43 ?_
          refine TT_iload hK 7 rfl dX10_takePacket_46 ?_
          refine TT_iald hK (o := 57) (n := 10) (by decide) rfl (by first | omega | (simp [up, setR] <;> omega)) (by first | omega | (simp [up, setR] <;> omega)) (v := (w31_5 57) b1) (rd_ (hG_6 57 (by decide)) rfl) dX10_takePacket_48 ?_
          have r22 := ty_57 (i := b1) (v := (w31_5 57) b1) hT_6 (rd_ (hG_6 57 (by decide)) rfl) (by omega) (by omega)
          refine TT_iadd hK dX10_takePacket_49 ?_
          refine TT_w32 (fun x50_23 hx23 => ?_)
          refine TT_istore hK (lv' := [(6, vI x50_23), (0, vR 44), (1, vR 5), (2, vI n), (3, vI r), (4, vI z3_1), (5, vI z17_3), (7, vI b1)]) (by decide) rfl dX10_takePacket_50 ?_
          refine TT_iinc hK (v := b1 + 1) (lv' := [(7, vI (b1 + 1)), (6, vI x50_23), (0, vR 44), (1, vR 5), (2, vI n), (3, vI r), (4, vI z3_1), (5, vI z17_3)]) 7 rfl rfl (by decide) rfl dX10_takePacket_52 ?_
          refine TT_goto hK (tgt := 31) dX10_takePacket_55 (by decide) ?_
          refine TT_sub [2, 3, 4, 5, 6, 7, 1, 0] rfl ?_
          exact ih5 x50_23 (b1 + 1) g34_6 hT_6 hF_6 (by first | omega | (simp [up, setR] <;> omega)) (by first | omega | (simp [up, setR] <;> omega)) (by first | omega | (simp [up, setR] <;> omega))
    refine TT_sub [4, 5, 6, 7, 3, 2, 1, 0] rfl ?_
    exact L31_5 ((((10 : Int) - z26_4).toNat) + 1) 0 z26_4 g26_4 hT_4 hF_4 (by first | omega | (simp [up, setR] <;> omega)) (by first | omega | (simp [up, setR] <;> omega)) (Nat.lt_succ_self _)
  · refine TT_iload hK 0 rfl dX10_takePacket_13 ?_
    refine TT_iret hK hQ ?_ dX10_takePacket_15
    exact ⟨⟨hT_1, hF_1⟩, z3_1, rfl, (by omega)⟩
set_option maxRecDepth 20000 in
theorem s_X10_takePackets_44 (n : Int) (h : Hp_) (hT : TY h) (hn : -2147483648 ≤ n ∧ n ≤ 2147483647) (hbd : BDQ (h 47) (h 49) (h 48) (h 50)) : Ctr yX10_takePackets cX10_takePackets 7 (some .int) (rmd 6) ly ly 0 0 [vR 44, vR 5, vI n] h (fun r h' => (TY h' ∧ FR [5, 45, 47, 48, 49, 50, 53, 54, 55, 56, 57, 58, 59, 60] h h') ∧ ∃ z : Int, r = some (vI z) ∧ (-1 ≤ z ∧ z ≤ 12) ∧ (BDQ (h' 47) (h' 49) (h' 48) (h' 50))) := by
  refine Ctr_of (by decide) (Nat.le_of_ble_eq_true rfl) ⟨Nat.le_refl _, Nat.le_refl _⟩ (fun K hK hQ _ => ?_)
  show TT K ly 0 0 0 [(0, vR 44), (1, vR 5), (2, vI n)] [] h
  have hF : FR [5, 45, 47, 48, 49, 50, 53, 54, 55, 56, 57, 58, 59, 60] h h := FR_rf _ _
  refine TT_aload_n hK rfl 1 rfl dX10_takePackets_0 ?_
  refine TT_iconst hK dX10_takePackets_1 ?_
  refine iv_X10_67 hK (s_X1_at_5 2 h hT (by first | omega | (simp [up, setR] <;> omega))) (by decide) rfl ⟨by decide, by decide⟩ (by decide) rfl rfl (Nat.le_of_ble_eq_true rfl) ⟨by decide, by decide⟩ dX10_takePackets_2 ?_
  intro r9 g2_1 hp9
  obtain ⟨⟨hT_1, hG_1⟩, z2_1, hr9, hz_1, p1_1⟩ := hp9
  rw [hr9]
  have hF_1 : FR [5, 45, 47, 48, 49, 50, 53, 54, 55, 56, 57, 58, 59, 60] h g2_1 := FR_tr hF hG_1 (by decide)
  rw [show h 5 1 = (h 5) 1 from rfl] at p1_1
  show TT K ly 0 0 5 [(0, vR 44), (1, vR 5), (2, vI n)] [vI z2_1] g2_1
  refine TT_istore_n hK rfl (lv' := [(3, vI z2_1), (0, vR 44), (1, vR 5), (2, vI n)]) (by decide) rfl dX10_takePackets_5 ?_
  refine TT_aload_n hK rfl 2 rfl dX10_takePackets_6 ?_
  refine TT_iconst hK dX10_takePackets_7 ?_
  refine iv_X10_67 hK (s_X1_at_5 3 g2_1 hT_1 (by first | omega | (simp [up, setR] <;> omega))) (by decide) rfl ⟨by decide, by decide⟩ (by decide) rfl rfl (Nat.le_of_ble_eq_true rfl) ⟨by decide, by decide⟩ dX10_takePackets_8 ?_
  intro r9 g8_2 hp9
  obtain ⟨⟨hT_2, hG_2⟩, z8_2, hr9, hz_2, p1_2⟩ := hp9
  rw [hr9]
  have hF_2 : FR [5, 45, 47, 48, 49, 50, 53, 54, 55, 56, 57, 58, 59, 60] h g8_2 := FR_tr hF_1 hG_2 (by decide)
  rw [show g2_1 5 1 = (h 5) 1 from rd_ (hG_1 5 (by decide)) rfl] at p1_2
  rw [show g2_1 6 = h 6 from (hG_1 6 (by decide))] at p1_2
  show TT K ly 0 0 11 [(3, vI z2_1), (0, vR 44), (1, vR 5), (2, vI n)] [vI z8_2] g8_2
  refine TT_istore hK (lv' := [(4, vI z8_2), (3, vI z2_1), (0, vR 44), (1, vR 5), (2, vI n)]) (by decide) rfl dX10_takePackets_11 ?_
  refine TT_aload_n hK rfl 3 rfl dX10_takePackets_13 ?_
  refine TT_iconst hK dX10_takePackets_14 ?_
  refine iv_X10_67 hK (s_X1_at_5 0 g8_2 hT_2 (by first | omega | (simp [up, setR] <;> omega))) (by decide) rfl ⟨by decide, by decide⟩ (by decide) rfl rfl (Nat.le_of_ble_eq_true rfl) ⟨by decide, by decide⟩ dX10_takePackets_15 ?_
  intro r9 g15_3 hp9
  obtain ⟨⟨hT_3, hG_3⟩, z15_3, hr9, hz_3, p1_3⟩ := hp9
  rw [hr9]
  have hF_3 : FR [5, 45, 47, 48, 49, 50, 53, 54, 55, 56, 57, 58, 59, 60] h g15_3 := FR_tr hF_2 hG_3 (by decide)
  rw [show g8_2 5 1 = (h 5) 1 from rd_ (((hG_2 5 (by decide))).trans (hG_1 5 (by decide))) rfl] at p1_3
  rw [show g8_2 6 = h 6 from ((hG_2 6 (by decide))).trans (hG_1 6 (by decide))] at p1_3
  show TT K ly 0 0 18 [(4, vI z8_2), (3, vI z2_1), (0, vR 44), (1, vR 5), (2, vI n)] [vI z15_3] g15_3
  refine iv_X10_73 hK (s_X11_isSide z15_3 g15_3 hT_3 (by first | omega | (simp [up, setR] <;> omega))) ⟨by decide, by decide⟩ (by decide) rfl rfl (Nat.le_of_ble_eq_true rfl) ⟨by decide, by decide⟩ dX10_takePackets_18 ?_
  intro r9 g18_4 hp9
  obtain ⟨⟨hT_4, hG_4⟩, z18_4, hr9, hz_4, p1_4⟩ := hp9
  rw [hr9]
  have hF_4 : FR [5, 45, 47, 48, 49, 50, 53, 54, 55, 56, 57, 58, 59, 60] h g18_4 := FR_tr hF_3 hG_4 (by decide)
  show TT K ly 0 0 21 [(4, vI z8_2), (3, vI z2_1), (0, vR 44), (1, vR 5), (2, vI n)] [vI z18_4] g18_4
  refine TT_if_eq hK (tgt := 50) (irm (by omega) (by omega)) dX10_takePackets_21 (by decide) (fun hb21_5 => ?_) (fun hb21_5 => ?_)
  · refine TT_iconst hK dX10_takePackets_50 ?_
    refine TT_iret hK hQ ?_ dX10_takePackets_51
    have e6_47 : g18_4 47 = h 47 := ((hG_4 47 (by decide))).trans (((hG_3 47 (by decide))).trans (((hG_2 47 (by decide))).trans (hG_1 47 (by decide))))
    have e7_48 : g18_4 48 = h 48 := ((hG_4 48 (by decide))).trans (((hG_3 48 (by decide))).trans (((hG_2 48 (by decide))).trans (hG_1 48 (by decide))))
    have e8_49 : g18_4 49 = h 49 := ((hG_4 49 (by decide))).trans (((hG_3 49 (by decide))).trans (((hG_2 49 (by decide))).trans (hG_1 49 (by decide))))
    have e9_50 : g18_4 50 = h 50 := ((hG_4 50 (by decide))).trans (((hG_3 50 (by decide))).trans (((hG_2 50 (by decide))).trans (hG_1 50 (by decide))))
    exact ⟨⟨hT_4, hF_4⟩, (-1), rfl, (by omega), (by rw [e6_47, e7_48, e8_49, e9_50]; assumption)⟩
  · refine TT_aload_n hK rfl 3 rfl dX10_takePackets_24 ?_
    refine TT_iconst hK dX10_takePackets_25 ?_
    refine iv_X10_67 hK (s_X1_at_5 1 g18_4 hT_4 (by first | omega | (simp [up, setR] <;> omega))) (by decide) rfl ⟨by decide, by decide⟩ (by decide) rfl rfl (Nat.le_of_ble_eq_true rfl) ⟨by decide, by decide⟩ dX10_takePackets_26 ?_
    intro r9 g26_10 hp9
    obtain ⟨⟨hT_10, hG_10⟩, z26_10, hr9, hz_10, p1_10⟩ := hp9
    rw [hr9]
    have hF_10 : FR [5, 45, 47, 48, 49, 50, 53, 54, 55, 56, 57, 58, 59, 60] h g26_10 := FR_tr hF_4 hG_10 (by decide)
    rw [show g18_4 5 1 = (h 5) 1 from rd_ (((hG_4 5 (by decide))).trans (((hG_3 5 (by decide))).trans (((hG_2 5 (by decide))).trans (hG_1 5 (by decide))))) rfl] at p1_10
    rw [show g18_4 6 = h 6 from ((hG_4 6 (by decide))).trans (((hG_3 6 (by decide))).trans (((hG_2 6 (by decide))).trans (hG_1 6 (by decide))))] at p1_10
    show TT K ly 0 0 29 [(4, vI z8_2), (3, vI z2_1), (0, vR 44), (1, vR 5), (2, vI n)] [vI z26_10] g26_10
    refine iv_X10_73 hK (s_X11_isSide z26_10 g26_10 hT_10 (by first | omega | (simp [up, setR] <;> omega))) ⟨by decide, by decide⟩ (by decide) rfl rfl (Nat.le_of_ble_eq_true rfl) ⟨by decide, by decide⟩ dX10_takePackets_29 ?_
    intro r9 g29_11 hp9
    obtain ⟨⟨hT_11, hG_11⟩, z29_11, hr9, hz_11, p1_11⟩ := hp9
    rw [hr9]
    have hF_11 : FR [5, 45, 47, 48, 49, 50, 53, 54, 55, 56, 57, 58, 59, 60] h g29_11 := FR_tr hF_10 hG_11 (by decide)
    show TT K ly 0 0 32 [(4, vI z8_2), (3, vI z2_1), (0, vR 44), (1, vR 5), (2, vI n)] [vI z29_11] g29_11
    refine TT_if_eq hK (tgt := 50) (irm (by omega) (by omega)) dX10_takePackets_32 (by decide) (fun hb32_12 => ?_) (fun hb32_12 => ?_)
    · refine TT_iconst hK dX10_takePackets_50 ?_
      refine TT_iret hK hQ ?_ dX10_takePackets_51
      have e13_47 : g29_11 47 = h 47 := ((hG_11 47 (by decide))).trans (((hG_10 47 (by decide))).trans (((hG_4 47 (by decide))).trans (((hG_3 47 (by decide))).trans (((hG_2 47 (by decide))).trans (hG_1 47 (by decide))))))
      have e14_48 : g29_11 48 = h 48 := ((hG_11 48 (by decide))).trans (((hG_10 48 (by decide))).trans (((hG_4 48 (by decide))).trans (((hG_3 48 (by decide))).trans (((hG_2 48 (by decide))).trans (hG_1 48 (by decide))))))
      have e15_49 : g29_11 49 = h 49 := ((hG_11 49 (by decide))).trans (((hG_10 49 (by decide))).trans (((hG_4 49 (by decide))).trans (((hG_3 49 (by decide))).trans (((hG_2 49 (by decide))).trans (hG_1 49 (by decide))))))
      have e16_50 : g29_11 50 = h 50 := ((hG_11 50 (by decide))).trans (((hG_10 50 (by decide))).trans (((hG_4 50 (by decide))).trans (((hG_3 50 (by decide))).trans (((hG_2 50 (by decide))).trans (hG_1 50 (by decide))))))
      exact ⟨⟨hT_11, hF_11⟩, (-1), rfl, (by omega), (by rw [e13_47, e14_48, e15_49, e16_50]; assumption)⟩
    · refine TT_iload_n hK rfl 1 rfl dX10_takePackets_35 ?_
      refine iv_X10_77 hK (s_X11_areLevels z2_1 g29_11 hT_11 (by first | omega | (simp [up, setR] <;> omega))) ⟨by decide, by decide⟩ (by decide) rfl rfl (Nat.le_of_ble_eq_true rfl) ⟨by decide, by decide⟩ dX10_takePackets_36 ?_
      intro r9 g36_17 hp9
      obtain ⟨⟨hT_17, hG_17⟩, z36_17, hr9, hz_17, p1_17⟩ := hp9
      rw [hr9]
      have hF_17 : FR [5, 45, 47, 48, 49, 50, 53, 54, 55, 56, 57, 58, 59, 60] h g36_17 := FR_tr hF_11 hG_17 (by decide)
      show TT K ly 0 0 39 [(4, vI z8_2), (3, vI z2_1), (0, vR 44), (1, vR 5), (2, vI n)] [vI z36_17] g36_17
      refine TT_if_eq hK (tgt := 50) (irm (by omega) (by omega)) dX10_takePackets_39 (by decide) (fun hb39_18 => ?_) (fun hb39_18 => ?_)
      · refine TT_iconst hK dX10_takePackets_50 ?_
        refine TT_iret hK hQ ?_ dX10_takePackets_51
        have e19_47 : g36_17 47 = h 47 := ((hG_17 47 (by decide))).trans (((hG_11 47 (by decide))).trans (((hG_10 47 (by decide))).trans (((hG_4 47 (by decide))).trans (((hG_3 47 (by decide))).trans (((hG_2 47 (by decide))).trans (hG_1 47 (by decide)))))))
        have e20_48 : g36_17 48 = h 48 := ((hG_17 48 (by decide))).trans (((hG_11 48 (by decide))).trans (((hG_10 48 (by decide))).trans (((hG_4 48 (by decide))).trans (((hG_3 48 (by decide))).trans (((hG_2 48 (by decide))).trans (hG_1 48 (by decide)))))))
        have e21_49 : g36_17 49 = h 49 := ((hG_17 49 (by decide))).trans (((hG_11 49 (by decide))).trans (((hG_10 49 (by decide))).trans (((hG_4 49 (by decide))).trans (((hG_3 49 (by decide))).trans (((hG_2 49 (by decide))).trans (hG_1 49 (by decide)))))))
        have e22_50 : g36_17 50 = h 50 := ((hG_17 50 (by decide))).trans (((hG_11 50 (by decide))).trans (((hG_10 50 (by decide))).trans (((hG_4 50 (by decide))).trans (((hG_3 50 (by decide))).trans (((hG_2 50 (by decide))).trans (hG_1 50 (by decide)))))))
        exact ⟨⟨hT_17, hF_17⟩, (-1), rfl, (by omega), (by rw [e19_47, e20_48, e21_49, e22_50]; assumption)⟩
      · refine TT_iload hK 0 rfl dX10_takePackets_42 ?_
        refine iv_X10_80 hK (s_X11_areLayers z8_2 g36_17 hT_17 (by first | omega | (simp [up, setR] <;> omega))) ⟨by decide, by decide⟩ (by decide) rfl rfl (Nat.le_of_ble_eq_true rfl) ⟨by decide, by decide⟩ dX10_takePackets_44 ?_
        intro r9 g44_23 hp9
        obtain ⟨⟨hT_23, hG_23⟩, z44_23, hr9, hz_23, p1_23⟩ := hp9
        rw [hr9]
        have hF_23 : FR [5, 45, 47, 48, 49, 50, 53, 54, 55, 56, 57, 58, 59, 60] h g44_23 := FR_tr hF_17 hG_23 (by decide)
        show TT K ly 0 0 47 [(4, vI z8_2), (3, vI z2_1), (0, vR 44), (1, vR 5), (2, vI n)] [vI z44_23] g44_23
        refine TT_if_ne hK (tgt := 52) (irm (by omega) (by omega)) dX10_takePackets_47 (by decide) (fun hb47_24 => ?_) (fun hb47_24 => ?_)
        · refine TT_aload_n hK rfl 2 rfl dX10_takePackets_52 ?_
          refine gf_X10_12 hK (by decide) rfl (q := 45) rfl rfl dX10_takePackets_53 ?_
          refine TT_aload_n hK rfl 3 rfl dX10_takePackets_56 ?_
          refine TT_iconst hK dX10_takePackets_57 ?_
          refine iv_X10_67 hK (s_X1_at_5 0 g44_23 hT_23 (by first | omega | (simp [up, setR] <;> omega))) (by decide) rfl ⟨by decide, by decide⟩ (by decide) rfl rfl (Nat.le_of_ble_eq_true rfl) ⟨by decide, by decide⟩ dX10_takePackets_58 ?_
          intro r9 g58_25 hp9
          obtain ⟨⟨hT_25, hG_25⟩, z58_25, hr9, hz_25, p1_25⟩ := hp9
          rw [hr9]
          have hF_25 : FR [5, 45, 47, 48, 49, 50, 53, 54, 55, 56, 57, 58, 59, 60] h g58_25 := FR_tr hF_23 hG_25 (by decide)
          rw [show g44_23 5 1 = (h 5) 1 from rd_ (((hG_23 5 (by decide))).trans (((hG_17 5 (by decide))).trans (((hG_11 5 (by decide))).trans (((hG_10 5 (by decide))).trans (((hG_4 5 (by decide))).trans (((hG_3 5 (by decide))).trans (((hG_2 5 (by decide))).trans (hG_1 5 (by decide))))))))) rfl] at p1_25
          rw [show g44_23 6 = h 6 from ((hG_23 6 (by decide))).trans (((hG_17 6 (by decide))).trans (((hG_11 6 (by decide))).trans (((hG_10 6 (by decide))).trans (((hG_4 6 (by decide))).trans (((hG_3 6 (by decide))).trans (((hG_2 6 (by decide))).trans (hG_1 6 (by decide))))))))] at p1_25
          show TT K ly 0 0 61 [(4, vI z8_2), (3, vI z2_1), (0, vR 44), (1, vR 5), (2, vI n)] [vI z58_25, vR 45] g58_25
          refine TT_aload_n hK rfl 3 rfl dX10_takePackets_61 ?_
          refine TT_iconst hK dX10_takePackets_62 ?_
          refine iv_X10_67 hK (s_X1_at_5 1 g58_25 hT_25 (by first | omega | (simp [up, setR] <;> omega))) (by decide) rfl ⟨by decide, by decide⟩ (by decide) rfl rfl (Nat.le_of_ble_eq_true rfl) ⟨by decide, by decide⟩ dX10_takePackets_63 ?_
          intro r9 g63_26 hp9
          obtain ⟨⟨hT_26, hG_26⟩, z63_26, hr9, hz_26, p1_26⟩ := hp9
          rw [hr9]
          have hF_26 : FR [5, 45, 47, 48, 49, 50, 53, 54, 55, 56, 57, 58, 59, 60] h g63_26 := FR_tr hF_25 hG_26 (by decide)
          rw [show g58_25 5 1 = (h 5) 1 from rd_ (((hG_25 5 (by decide))).trans (((hG_23 5 (by decide))).trans (((hG_17 5 (by decide))).trans (((hG_11 5 (by decide))).trans (((hG_10 5 (by decide))).trans (((hG_4 5 (by decide))).trans (((hG_3 5 (by decide))).trans (((hG_2 5 (by decide))).trans (hG_1 5 (by decide)))))))))) rfl] at p1_26
          rw [show g58_25 6 = h 6 from ((hG_25 6 (by decide))).trans (((hG_23 6 (by decide))).trans (((hG_17 6 (by decide))).trans (((hG_11 6 (by decide))).trans (((hG_10 6 (by decide))).trans (((hG_4 6 (by decide))).trans (((hG_3 6 (by decide))).trans (((hG_2 6 (by decide))).trans (hG_1 6 (by decide)))))))))] at p1_26
          show TT K ly 0 0 66 [(4, vI z8_2), (3, vI z2_1), (0, vR 44), (1, vR 5), (2, vI n)] [vI z63_26, vI z58_25, vR 45] g63_26
          refine TT_iload_n hK rfl 1 rfl dX10_takePackets_66 ?_
          have e27_47 : g63_26 47 = h 47 := ((hG_26 47 (by decide))).trans (((hG_25 47 (by decide))).trans (((hG_23 47 (by decide))).trans (((hG_17 47 (by decide))).trans (((hG_11 47 (by decide))).trans (((hG_10 47 (by decide))).trans (((hG_4 47 (by decide))).trans (((hG_3 47 (by decide))).trans (((hG_2 47 (by decide))).trans (hG_1 47 (by decide))))))))))
          have e28_48 : g63_26 48 = h 48 := ((hG_26 48 (by decide))).trans (((hG_25 48 (by decide))).trans (((hG_23 48 (by decide))).trans (((hG_17 48 (by decide))).trans (((hG_11 48 (by decide))).trans (((hG_10 48 (by decide))).trans (((hG_4 48 (by decide))).trans (((hG_3 48 (by decide))).trans (((hG_2 48 (by decide))).trans (hG_1 48 (by decide))))))))))
          have e29_49 : g63_26 49 = h 49 := ((hG_26 49 (by decide))).trans (((hG_25 49 (by decide))).trans (((hG_23 49 (by decide))).trans (((hG_17 49 (by decide))).trans (((hG_11 49 (by decide))).trans (((hG_10 49 (by decide))).trans (((hG_4 49 (by decide))).trans (((hG_3 49 (by decide))).trans (((hG_2 49 (by decide))).trans (hG_1 49 (by decide))))))))))
          have e30_50 : g63_26 50 = h 50 := ((hG_26 50 (by decide))).trans (((hG_25 50 (by decide))).trans (((hG_23 50 (by decide))).trans (((hG_17 50 (by decide))).trans (((hG_11 50 (by decide))).trans (((hG_10 50 (by decide))).trans (((hG_4 50 (by decide))).trans (((hG_3 50 (by decide))).trans (((hG_2 50 (by decide))).trans (hG_1 50 (by decide))))))))))
          refine iv_X10_83 hK (s_X0_lay_45 z58_25 z63_26 z2_1 g63_26 hT_26 (by first | omega | (simp [up, setR] <;> omega)) (by first | omega | (simp [up, setR] <;> omega)) (by first | omega | (simp [up, setR] <;> omega)) (by rw [e27_47, e28_48, e29_49, e30_50]; exact hbd)) (by decide) rfl ⟨by decide, by decide⟩ (by decide) rfl rfl (Nat.le_of_ble_eq_true rfl) ⟨by decide, by decide⟩ dX10_takePackets_67 ?_
          intro r9 g67_31 hp9
          obtain ⟨⟨hT_31, hG_31⟩, hr9, p1_31⟩ := hp9
          rw [hr9]
          have hF_31 : FR [5, 45, 47, 48, 49, 50, 53, 54, 55, 56, 57, 58, 59, 60] h g67_31 := FR_tr hF_26 hG_31 (by decide)
          show TT K ly 0 0 70 [(4, vI z8_2), (3, vI z2_1), (0, vR 44), (1, vR 5), (2, vI n)] [] g67_31
          refine TT_aload_n hK rfl 2 rfl dX10_takePackets_70 ?_
          refine gf_X10_22 hK (by decide) rfl (q := 54) rfl rfl dX10_takePackets_71 ?_
          refine TT_iconst hK dX10_takePackets_74 ?_
          refine iv_X10_87 hK (s_fill_54 0 g67_31 hT_31 (by first | omega | (simp [up, setR] <;> omega))) ⟨by decide, by decide⟩ (by decide) rfl rfl (Nat.le_of_ble_eq_true rfl) ⟨by decide, by decide⟩ dX10_takePackets_75 ?_
          intro r9 g75_32 hp9
          obtain ⟨⟨hT_32, hG_32⟩, hr9⟩ := hp9
          rw [hr9]
          have hF_32 : FR [5, 45, 47, 48, 49, 50, 53, 54, 55, 56, 57, 58, 59, 60] h g75_32 := FR_tr hF_31 hG_32 (by decide)
          show TT K ly 0 0 78 [(4, vI z8_2), (3, vI z2_1), (0, vR 44), (1, vR 5), (2, vI n)] [] g75_32
          refine TT_aload_n hK rfl 2 rfl dX10_takePackets_78 ?_
          refine gf_X10_25 hK (by decide) rfl (q := 55) rfl rfl dX10_takePackets_79 ?_
          refine TT_iconst hK dX10_takePackets_82 ?_
          refine iv_X10_87 hK (s_fill_55 3 g75_32 hT_32 (by first | omega | (simp [up, setR] <;> omega))) ⟨by decide, by decide⟩ (by decide) rfl rfl (Nat.le_of_ble_eq_true rfl) ⟨by decide, by decide⟩ dX10_takePackets_83 ?_
          intro r9 g83_33 hp9
          obtain ⟨⟨hT_33, hG_33⟩, hr9⟩ := hp9
          rw [hr9]
          have hF_33 : FR [5, 45, 47, 48, 49, 50, 53, 54, 55, 56, 57, 58, 59, 60] h g83_33 := FR_tr hF_32 hG_33 (by decide)
          show TT K ly 0 0 86 [(4, vI z8_2), (3, vI z2_1), (0, vR 44), (1, vR 5), (2, vI n)] [] g83_33
          refine TT_aload_n hK rfl 2 rfl dX10_takePackets_86 ?_
          refine gf_X10_34 hK (by decide) rfl (q := 58) rfl rfl dX10_takePackets_87 ?_
          refine TT_iconst hK dX10_takePackets_90 ?_
          refine iv_X10_87 hK (s_fill_58 0 g83_33 hT_33 (by first | omega | (simp [up, setR] <;> omega))) ⟨by decide, by decide⟩ (by decide) rfl rfl (Nat.le_of_ble_eq_true rfl) ⟨by decide, by decide⟩ dX10_takePackets_91 ?_
          intro r9 g91_34 hp9
          obtain ⟨⟨hT_34, hG_34⟩, hr9⟩ := hp9
          rw [hr9]
          have hF_34 : FR [5, 45, 47, 48, 49, 50, 53, 54, 55, 56, 57, 58, 59, 60] h g91_34 := FR_tr hF_33 hG_34 (by decide)
          show TT K ly 0 0 94 [(4, vI z8_2), (3, vI z2_1), (0, vR 44), (1, vR 5), (2, vI n)] [] g91_34
          refine TT_aload_n hK rfl 3 rfl dX10_takePackets_94 ?_
          refine TT_iconst hK dX10_takePackets_95 ?_
          refine TT_iload_n hK rfl 4 rfl dX10_takePackets_96 ?_
          refine iv_X10_93 hK (s_X1_takeFrom_5 4 n g91_34 hT_34 (by first | omega | (simp [up, setR] <;> omega)) (by first | omega | (simp [up, setR] <;> omega))) (by decide) rfl ⟨by decide, by decide⟩ (by decide) rfl rfl (Nat.le_of_ble_eq_true rfl) ⟨by decide, by decide⟩ dX10_takePackets_97 ?_
          intro r9 g97_35 hp9
          obtain ⟨⟨hT_35, hG_35⟩, hr9⟩ := hp9
          rw [hr9]
          have hF_35 : FR [5, 45, 47, 48, 49, 50, 53, 54, 55, 56, 57, 58, 59, 60] h g97_35 := FR_tr hF_34 hG_35 (by decide)
          show TT K ly 0 0 100 [(4, vI z8_2), (3, vI z2_1), (0, vR 44), (1, vR 5), (2, vI n)] [] g97_35
          refine TT_iconst hK dX10_takePackets_100 ?_
          refine TT_istore hK (lv' := [(5, vI 0), (4, vI z8_2), (3, vI z2_1), (0, vR 44), (1, vR 5), (2, vI n)]) (by decide) rfl dX10_takePackets_101 ?_
          have L103_36 : ∀ (k36 : Nat) (k : Int) (w103_36 : Hp_), TY w103_36 → FR [5, 45, 47, 48, 49, 50, 53, 54, 55, 56, 57, 58, 59, 60] h w103_36 → (0 ≤ k ∧ k ≤ 12) → (BDQ (w103_36 47) (w103_36 49) (w103_36 48) (w103_36 50)) → ((12 : Int) - k).toNat < k36 → TT K ly 0 0 103 [(0, vR 44), (1, vR 5), (2, vI n), (3, vI z2_1), (4, vI z8_2), (5, vI k)] [] w103_36 := by
            intro k36
            induction k36 with
            | zero => intro k w103_36 hT103_36 hF103_36 hk hbd2 hk36; exact absurd hk36 (Nat.not_lt_zero _)
            | succ k36 ih36 =>
              intro k w103_36 hT103_36 hF103_36 hk hbd2 hk36
              refine TT_iload hK 5 rfl dX10_takePackets_103 ?_
              refine TT_iload hK 4 rfl dX10_takePackets_105 ?_
              refine TT_iload_n hK rfl 3 rfl dX10_takePackets_107 ?_
              refine TT_iconst hK dX10_takePackets_108 ?_
              refine TT_iadd hK dX10_takePackets_109 ?_
              refine TT_imul hK dX10_takePackets_110 ?_
              refine TT_nmI (fun m9 hm9 => ?_)
              refine TT_icmp_ge hK (tgt := 152) (irm (by have := pu2 hm9 (by omega) (by omega); omega) (by have := pu2 hm9 (by omega) (by omega); omega)) (irm (by have := pu2 hm9 (by omega) (by omega); omega) (by have := pu2 hm9 (by omega) (by omega); omega)) dX10_takePackets_111 (by decide) (fun hb111_37 => ?_) (fun hb111_37 => ?_)
              · refine TT_iload hK 4 rfl dX10_takePackets_152 ?_
                refine TT_iload_n hK rfl 3 rfl dX10_takePackets_154 ?_
                refine TT_iconst hK dX10_takePackets_155 ?_
                refine TT_iadd hK dX10_takePackets_156 ?_
                refine TT_imul hK dX10_takePackets_157 ?_
                refine TT_nmI (fun m8 hm8 => ?_)
                refine TT_iret hK hQ ?_ dX10_takePackets_158
                exact ⟨⟨hT103_36, hF103_36⟩, m8, rfl, (by have := pu2 hm8 (by omega) (by omega); omega), (by assumption)⟩
              · have hm8 := pu2 hm9 (by omega) (by omega)
                refine TT_aload_n hK rfl 0 rfl dX10_takePackets_114 ?_
                refine TT_aload_n hK rfl 1 rfl dX10_takePackets_115 ?_
                refine TT_iload_n hK rfl 2 rfl dX10_takePackets_116 ?_
                refine TT_iload hK 5 rfl dX10_takePackets_117 ?_
                refine TT_iload_n hK rfl 3 rfl dX10_takePackets_119 ?_
                refine TT_iconst hK dX10_takePackets_120 ?_
                refine TT_iadd hK dX10_takePackets_121 ?_
                refine TT_iremn hK (irm (by omega) (by omega)) (irm (by omega) (by omega)) (by first | omega | (simp [up, setR] <;> omega)) (by first | omega | (simp [up, setR] <;> omega)) dX10_takePackets_122 ?_
                have hq8 := pu3 k (l := z2_1) (by omega)
                refine iv_X10_97 hK (s_X10_takePacket_44 n (k % (z2_1 + 1)) w103_36 hT103_36 (by first | omega | (simp [up, setR] <;> omega)) (by first | omega | (simp [up, setR] <;> omega))) (by decide) rfl ⟨by decide, by decide⟩ (by decide) rfl rfl (Nat.le_of_ble_eq_true rfl) ⟨by decide, by decide⟩ dX10_takePackets_123 ?_
                intro r9 g123_38 hp9
                obtain ⟨⟨hT_38, hG_38⟩, z123_38, hr9, hz_38⟩ := hp9
                rw [hr9]
                have hF_38 : FR [5, 45, 47, 48, 49, 50, 53, 54, 55, 56, 57, 58, 59, 60] h g123_38 := FR_tr hF103_36 hG_38 (by decide)
                show TT K ly 0 0 126 [(0, vR 44), (1, vR 5), (2, vI n), (3, vI z2_1), (4, vI z8_2), (5, vI k)] [vI z123_38] g123_38
                refine TT_istore hK (lv' := [(6, vI z123_38), (0, vR 44), (1, vR 5), (2, vI n), (3, vI z2_1), (4, vI z8_2), (5, vI k)]) (by decide) rfl dX10_takePackets_126 ?_
                refine TT_iload hK 0 rfl dX10_takePackets_128 ?_
                refine TT_if_eq hK (tgt := 146) (irm (by omega) (by omega)) dX10_takePackets_130 (by decide) (fun hb130_39 => ?_) (fun hb130_39 => ?_)
                · refine TT_iinc hK (v := k + 1) (lv' := [(5, vI (k + 1)), (6, vI z123_38), (0, vR 44), (1, vR 5), (2, vI n), (3, vI z2_1), (4, vI z8_2)]) 6 rfl rfl (by decide) rfl dX10_takePackets_146 ?_
                  refine TT_goto hK (tgt := 103) dX10_takePackets_149 (by decide) ?_
                  refine TT_sub [2, 3, 4, 5, 6, 0] rfl ?_
                  have e40_47 : g123_38 47 = w103_36 47 := (hG_38 47 (by decide))
                  have e41_48 : g123_38 48 = w103_36 48 := (hG_38 48 (by decide))
                  have e42_49 : g123_38 49 = w103_36 49 := (hG_38 49 (by decide))
                  have e43_50 : g123_38 50 = w103_36 50 := (hG_38 50 (by decide))
                  exact ih36 (k + 1) g123_38 hT_38 hF_38 (by first | omega | (simp [up, setR] <;> omega)) (by rw [e40_47, e41_48, e42_49, e43_50]; assumption) (by first | omega | (simp [up, setR] <;> omega))
                · refine TT_iload hK 0 rfl dX10_takePackets_133 ?_
                  refine TT_iconst hK dX10_takePackets_135 ?_
                  refine TT_icmp_ne hK (tgt := 144) (irm (by omega) (by omega)) (by decide) dX10_takePackets_136 (by decide) (fun hb136_44 => ?_) (fun hb136_44 => ?_)
                  · refine TT_iconst hK dX10_takePackets_144 ?_
                    refine TT_iret hK hQ ?_ dX10_takePackets_145
                    have e45_47 : g123_38 47 = w103_36 47 := (hG_38 47 (by decide))
                    have e46_48 : g123_38 48 = w103_36 48 := (hG_38 48 (by decide))
                    have e47_49 : g123_38 49 = w103_36 49 := (hG_38 49 (by decide))
                    have e48_50 : g123_38 50 = w103_36 50 := (hG_38 50 (by decide))
                    exact ⟨⟨hT_38, hF_38⟩, (-1), rfl, (by omega), (by rw [e45_47, e46_48, e47_49, e48_50]; assumption)⟩
                  · refine TT_iload hK 6 rfl dX10_takePackets_139 ?_
                    refine TT_goto hK (tgt := 145) dX10_takePackets_141 (by decide) ?_
                    refine TT_iret hK hQ ?_ dX10_takePackets_145
                    have e49_47 : g123_38 47 = w103_36 47 := (hG_38 47 (by decide))
                    have e50_48 : g123_38 48 = w103_36 48 := (hG_38 48 (by decide))
                    have e51_49 : g123_38 49 = w103_36 49 := (hG_38 49 (by decide))
                    have e52_50 : g123_38 50 = w103_36 50 := (hG_38 50 (by decide))
                    exact ⟨⟨hT_38, hF_38⟩, k, rfl, (by omega), (by rw [e49_47, e50_48, e51_49, e52_50]; assumption)⟩
          refine TT_sub [3, 4, 5, 2, 1, 0] rfl ?_
          have e53_47 : g97_35 47 = g67_31 47 := ((hG_35 47 (by decide))).trans (((hG_34 47 (by decide))).trans (((hG_33 47 (by decide))).trans (hG_32 47 (by decide))))
          have e54_48 : g97_35 48 = g67_31 48 := ((hG_35 48 (by decide))).trans (((hG_34 48 (by decide))).trans (((hG_33 48 (by decide))).trans (hG_32 48 (by decide))))
          have e55_49 : g97_35 49 = g67_31 49 := ((hG_35 49 (by decide))).trans (((hG_34 49 (by decide))).trans (((hG_33 49 (by decide))).trans (hG_32 49 (by decide))))
          have e56_50 : g97_35 50 = g67_31 50 := ((hG_35 50 (by decide))).trans (((hG_34 50 (by decide))).trans (((hG_33 50 (by decide))).trans (hG_32 50 (by decide))))
          exact L103_36 ((((12 : Int) - 0).toNat) + 1) 0 g97_35 hT_35 hF_35 (by first | omega | (simp [up, setR] <;> omega)) (by rw [e53_47, e54_48, e55_49, e56_50]; assumption) (Nat.lt_succ_self _)
        · refine TT_iconst hK dX10_takePackets_50 ?_
          refine TT_iret hK hQ ?_ dX10_takePackets_51
          have e57_47 : g44_23 47 = h 47 := ((hG_23 47 (by decide))).trans (((hG_17 47 (by decide))).trans (((hG_11 47 (by decide))).trans (((hG_10 47 (by decide))).trans (((hG_4 47 (by decide))).trans (((hG_3 47 (by decide))).trans (((hG_2 47 (by decide))).trans (hG_1 47 (by decide))))))))
          have e58_48 : g44_23 48 = h 48 := ((hG_23 48 (by decide))).trans (((hG_17 48 (by decide))).trans (((hG_11 48 (by decide))).trans (((hG_10 48 (by decide))).trans (((hG_4 48 (by decide))).trans (((hG_3 48 (by decide))).trans (((hG_2 48 (by decide))).trans (hG_1 48 (by decide))))))))
          have e59_49 : g44_23 49 = h 49 := ((hG_23 49 (by decide))).trans (((hG_17 49 (by decide))).trans (((hG_11 49 (by decide))).trans (((hG_10 49 (by decide))).trans (((hG_4 49 (by decide))).trans (((hG_3 49 (by decide))).trans (((hG_2 49 (by decide))).trans (hG_1 49 (by decide))))))))
          have e60_50 : g44_23 50 = h 50 := ((hG_23 50 (by decide))).trans (((hG_17 50 (by decide))).trans (((hG_11 50 (by decide))).trans (((hG_10 50 (by decide))).trans (((hG_4 50 (by decide))).trans (((hG_3 50 (by decide))).trans (((hG_2 50 (by decide))).trans (hG_1 50 (by decide))))))))
          exact ⟨⟨hT_23, hF_23⟩, (-1), rfl, (by omega), (by rw [e57_47, e58_48, e59_49, e60_50]; assumption)⟩
set_option maxRecDepth 20000 in
theorem s_X10_restore_44 (h : Hp_) (hT : TY h) (hbd : BDQ (h 47) (h 49) (h 48) (h 50)) : Ctr yX10_restore cX10_restore 5 none (rmd 5) ly ly 0 0 [vR 44, vR 5, vR 3] h (fun r h' => (TY h' ∧ FR [3, 4, 44, 46, 51, 52, 61, 62, 64, 65, 66, 67, 68, 69, 70, 71, 72] h h') ∧ r = none ∧ (BDQ (h' 47) (h' 49) (h' 48) (h' 50))) := by
  refine Ctr_of (by decide) (Nat.le_of_ble_eq_true rfl) ⟨Nat.le_refl _, Nat.le_refl _⟩ (fun K hK hQ _ => ?_)
  show TT K ly 0 0 0 [(0, vR 44), (1, vR 5), (2, vR 3)] [] h
  have hF : FR [3, 4, 44, 46, 51, 52, 61, 62, 64, 65, 66, 67, 68, 69, 70, 71, 72] h h := FR_rf _ _
  refine TT_iconst hK dX10_restore_0 ?_
  refine TT_istore_n hK rfl (lv' := [(3, vI 0), (0, vR 44), (1, vR 5), (2, vR 3)]) (by decide) rfl dX10_restore_1 ?_
  have L2_1 : ∀ (k1 : Nat) (b : Int) (w2_1 : Hp_), TY w2_1 → FR [3, 4, 44, 46, 51, 52, 61, 62, 64, 65, 66, 67, 68, 69, 70, 71, 72] h w2_1 → (0 ≤ b ∧ b ≤ 10) → ((10 : Int) - b).toNat < k1 → TT K ly 0 0 2 [(0, vR 44), (1, vR 5), (2, vR 3), (3, vI b)] [] w2_1 := by
    intro k1
    induction k1 with
    | zero => intro b w2_1 hT2_1 hF2_1 hb hk1; exact absurd hk1 (Nat.not_lt_zero _)
    | succ k1 ih1 =>
      intro b w2_1 hT2_1 hF2_1 hb hk1
      refine TT_iload_n hK rfl 3 rfl dX10_restore_2 ?_
      refine TT_aload_n hK rfl 0 rfl dX10_restore_3 ?_
      refine gf_X10_12 hK (by decide) rfl (q := 45) rfl rfl dX10_restore_4 ?_
      refine gf_X10_141 hK (by decide) rfl (v := (h 45) 10) (rd_ (hF2_1 45 (by decide)) rfl) dX10_restore_7 ?_
      have r2 := ty_45_10 (v := (h 45) 10) hT2_1 (rd_ (hF2_1 45 (by decide)) rfl)
      refine TT_icmp_ge hK (tgt := 110) (irm (by omega) (by omega)) (irm (by omega) (by omega)) dX10_restore_10 (by decide) (fun hb10_3 => ?_) (fun hb10_3 => ?_)
      · refine TT_aload_n hK rfl 0 rfl dX10_restore_110 ?_
        refine TT_aload_n hK rfl 0 rfl dX10_restore_111 ?_
        refine gf_X10_12 hK (by decide) rfl (q := 45) rfl rfl dX10_restore_112 ?_
        refine gf_X10_141 hK (by decide) rfl (v := (h 45) 10) (rd_ (hF2_1 45 (by decide)) rfl) dX10_restore_115 ?_
        refine pf_X10_62 hK (by decide) rfl dX10_restore_118 ?_
        refine TT_hp (h' := setO w2_1 44 (fup (w2_1 44) 12 ((h 45) 10))) (up_can rfl rfl rfl) ?_
        have hT_4 : TY (setO w2_1 44 (fup (w2_1 44) 12 ((h 45) 10))) := tu_44_12 hT2_1 (show up w2_1 44 12 ((h 45) 10) = (setO w2_1 44 (fup (w2_1 44) 12 ((h 45) 10))) from up_can rfl rfl rfl) (by omega)
        have hF_4 : FR [3, 4, 44, 46, 51, 52, 61, 62, 64, 65, 66, 67, 68, 69, 70, 71, 72] h (setO w2_1 44 (fup (w2_1 44) 12 ((h 45) 10))) := FR_up (show up w2_1 44 12 ((h 45) 10) = (setO w2_1 44 (fup (w2_1 44) 12 ((h 45) 10))) from up_can rfl rfl rfl) hF2_1 (by decide)
        refine TT_aload_n hK rfl 0 rfl dX10_restore_121 ?_
        refine gf_X10_12 hK (by decide) rfl (q := 45) rfl rfl dX10_restore_122 ?_
        refine iv_X10_166 hK (s_X0_goBack_45 (setO w2_1 44 (fup (w2_1 44) 12 ((h 45) 10))) hT_4 ) (by decide) rfl ⟨by decide, by decide⟩ (by decide) rfl rfl (Nat.le_of_ble_eq_true rfl) ⟨by decide, by decide⟩ dX10_restore_125 ?_
        intro r9 g125_5 hp9
        obtain ⟨⟨hT_5, hG_5⟩, hr9⟩ := hp9
        rw [hr9]
        have hF_5 : FR [3, 4, 44, 46, 51, 52, 61, 62, 64, 65, 66, 67, 68, 69, 70, 71, 72] h g125_5 := FR_tr hF_4 hG_5 (by decide)
        show TT K ly 0 0 128 [(0, vR 44), (1, vR 5), (2, vR 3), (3, vI b)] [] g125_5
        refine TT_aload_n hK rfl 0 rfl dX10_restore_128 ?_
        refine gf_X10_12 hK (by decide) rfl (q := 45) rfl rfl dX10_restore_129 ?_
        refine TT_aload_n hK rfl 2 rfl dX10_restore_132 ?_
        refine iv_X10_169 hK (s_X0_writePicture_45 g125_5 hT_5 ) (by decide) rfl ⟨by decide, by decide⟩ (by decide) rfl rfl (Nat.le_of_ble_eq_true rfl) ⟨by decide, by decide⟩ dX10_restore_133 ?_
        intro r9 g133_6 hp9
        obtain ⟨⟨hT_6, hG_6⟩, hr9⟩ := hp9
        rw [hr9]
        have hF_6 : FR [3, 4, 44, 46, 51, 52, 61, 62, 64, 65, 66, 67, 68, 69, 70, 71, 72] h g133_6 := FR_tr hF_5 hG_6 (by decide)
        show TT K ly 0 0 136 [(0, vR 44), (1, vR 5), (2, vR 3), (3, vI b)] [] g133_6
        refine TT_vret hK hQ ?_ dX10_restore_136
        have e7_47 : g133_6 47 = h 47 := ((hG_6 47 (by decide))).trans (((hG_5 47 (by decide))).trans ((sOf_ne _ _ (by decide)).trans (hF2_1 47 (by decide))))
        have e8_48 : g133_6 48 = h 48 := ((hG_6 48 (by decide))).trans (((hG_5 48 (by decide))).trans ((sOf_ne _ _ (by decide)).trans (hF2_1 48 (by decide))))
        have e9_49 : g133_6 49 = h 49 := ((hG_6 49 (by decide))).trans (((hG_5 49 (by decide))).trans ((sOf_ne _ _ (by decide)).trans (hF2_1 49 (by decide))))
        have e10_50 : g133_6 50 = h 50 := ((hG_6 50 (by decide))).trans (((hG_5 50 (by decide))).trans ((sOf_ne _ _ (by decide)).trans (hF2_1 50 (by decide))))
        exact ⟨⟨hT_6, hF_6⟩, rfl, (by rw [e7_47, e8_48, e9_49, e10_50]; assumption)⟩
      · refine TT_aload_n hK rfl 0 rfl dX10_restore_13 ?_
        refine TT_aload_n hK rfl 1 rfl dX10_restore_14 ?_
        refine TT_iload_n hK rfl 3 rfl dX10_restore_15 ?_
        refine iv_X10_144 hK (s_X10_gatherBytes_44 b w2_1 hT2_1 (by first | omega | (simp [up, setR] <;> omega))) (by decide) rfl ⟨by decide, by decide⟩ (by decide) rfl rfl (Nat.le_of_ble_eq_true rfl) ⟨by decide, by decide⟩ dX10_restore_16 ?_
        intro r9 g16_11 hp9
        obtain ⟨⟨hT_11, hG_11⟩, hr9⟩ := hp9
        rw [hr9]
        have hF_11 : FR [3, 4, 44, 46, 51, 52, 61, 62, 64, 65, 66, 67, 68, 69, 70, 71, 72] h g16_11 := FR_tr hF2_1 hG_11 (by decide)
        show TT K ly 0 0 19 [(0, vR 44), (1, vR 5), (2, vR 3), (3, vI b)] [] g16_11
        refine TT_aload_n hK rfl 0 rfl dX10_restore_19 ?_
        refine gf_X10_58 hK (by decide) rfl (q := 67) rfl rfl dX10_restore_20 ?_
        refine TT_aload_n hK rfl 0 rfl dX10_restore_23 ?_
        refine gf_X10_12 hK (by decide) rfl (q := 45) rfl rfl dX10_restore_24 ?_
        refine gf_X10_147 hK (by decide) rfl (q := 49) rfl rfl dX10_restore_27 ?_
        refine TT_iload_n hK rfl 3 rfl dX10_restore_30 ?_
        refine TT_iald hK (o := 49) (n := 10) (by decide) rfl (by first | omega | (simp [up, setR] <;> omega)) (by first | omega | (simp [up, setR] <;> omega)) (v := (h 49) b) (rd_ (((hG_11 49 (by decide))).trans (hF2_1 49 (by decide))) rfl) dX10_restore_31 ?_
        have r12 := ty_49 (i := b) (v := (h 49) b) hT_11 (rd_ (((hG_11 49 (by decide))).trans (hF2_1 49 (by decide))) rfl) (by omega) (by omega)
        refine TT_aload_n hK rfl 0 rfl dX10_restore_32 ?_
        refine gf_X10_12 hK (by decide) rfl (q := 45) rfl rfl dX10_restore_33 ?_
        refine gf_X10_150 hK (by decide) rfl (q := 50) rfl rfl dX10_restore_36 ?_
        refine TT_iload_n hK rfl 3 rfl dX10_restore_39 ?_
        refine TT_iald hK (o := 50) (n := 10) (by decide) rfl (by first | omega | (simp [up, setR] <;> omega)) (by first | omega | (simp [up, setR] <;> omega)) (v := (h 50) b) (rd_ (((hG_11 50 (by decide))).trans (hF2_1 50 (by decide))) rfl) dX10_restore_40 ?_
        have r13 := ty_50 (i := b) (v := (h 50) b) hT_11 (rd_ (((hG_11 50 (by decide))).trans (hF2_1 50 (by decide))) rfl) (by omega) (by omega)
        refine TT_aload_n hK rfl 0 rfl dX10_restore_41 ?_
        refine gf_X10_12 hK (by decide) rfl (q := 45) rfl rfl dX10_restore_42 ?_
        refine TT_iload_n hK rfl 3 rfl dX10_restore_45 ?_
        refine iv_X10_153 hK (s_X0_kindOf_45 b g16_11 hT_11 (by first | omega | (simp [up, setR] <;> omega))) (by decide) rfl ⟨by decide, by decide⟩ (by decide) rfl rfl (Nat.le_of_ble_eq_true rfl) ⟨by decide, by decide⟩ dX10_restore_46 ?_
        intro r9 g46_14 hp9
        obtain ⟨⟨hT_14, hG_14⟩, z46_14, hr9, hz_14⟩ := hp9
        rw [hr9]
        have hF_14 : FR [3, 4, 44, 46, 51, 52, 61, 62, 64, 65, 66, 67, 68, 69, 70, 71, 72] h g46_14 := FR_tr hF_11 hG_14 (by decide)
        show TT K ly 0 0 49 [(0, vR 44), (1, vR 5), (2, vR 3), (3, vI b)] [vI z46_14, vI ((h 50) b), vI ((h 49) b), vR 67] g46_14
        refine iv_X10_156 hK (s_X4_begin_67 ((h 49) b) ((h 50) b) z46_14 g46_14 hT_14 (by first | omega | (simp [up, setR] <;> omega)) (by first | omega | (simp [up, setR] <;> omega)) (by first | omega | (simp [up, setR] <;> omega))) (by decide) rfl ⟨by decide, by decide⟩ (by decide) rfl rfl (Nat.le_of_ble_eq_true rfl) ⟨by decide, by decide⟩ dX10_restore_49 ?_
        intro r9 g49_15 hp9
        obtain ⟨⟨hT_15, hG_15⟩, hr9⟩ := hp9
        rw [hr9]
        have hF_15 : FR [3, 4, 44, 46, 51, 52, 61, 62, 64, 65, 66, 67, 68, 69, 70, 71, 72] h g49_15 := FR_tr hF_14 hG_15 (by decide)
        show TT K ly 0 0 52 [(0, vR 44), (1, vR 5), (2, vR 3), (3, vI b)] [] g49_15
        refine TT_iconst hK dX10_restore_52 ?_
        refine TT_istore hK (lv' := [(4, vI 0), (0, vR 44), (1, vR 5), (2, vR 3), (3, vI b)]) (by decide) rfl dX10_restore_53 ?_
        have L55_16 : ∀ (k16 : Nat) (k : Int) (w55_16 : Hp_), TY w55_16 → FR [3, 4, 44, 46, 51, 52, 61, 62, 64, 65, 66, 67, 68, 69, 70, 71, 72] h w55_16 → (0 ≤ k ∧ k ≤ 2147483647) → ((2147483647 : Int) - k).toNat < k16 → TT K ly 0 0 55 [(0, vR 44), (1, vR 5), (2, vR 3), (3, vI b), (4, vI k)] [] w55_16 := by
          intro k16
          induction k16 with
          | zero => intro k w55_16 hT55_16 hF55_16 hk hk16; exact absurd hk16 (Nat.not_lt_zero _)
          | succ k16 ih16 =>
            intro k w55_16 hT55_16 hF55_16 hk hk16
            refine TT_iload hK 4 rfl dX10_restore_55 ?_
            refine TT_aload_n hK rfl 0 rfl dX10_restore_57 ?_
            refine gf_X10_22 hK (by decide) rfl (q := 54) rfl rfl dX10_restore_58 ?_
            refine TT_iload_n hK rfl 3 rfl dX10_restore_61 ?_
            refine TT_iald hK (o := 54) (n := 10) (by decide) rfl (by first | omega | (simp [up, setR] <;> omega)) (by first | omega | (simp [up, setR] <;> omega)) (v := (h 54) b) (rd_ (hF55_16 54 (by decide)) rfl) dX10_restore_62 ?_
            have r17 := ty_54 (i := b) (v := (h 54) b) hT55_16 (rd_ (hF55_16 54 (by decide)) rfl) (by omega) (by omega)
            refine TT_icmp_ge hK (tgt := 87) (irm (by omega) (by omega)) (irm (by omega) (by omega)) dX10_restore_63 (by decide) (fun hb63_18 => ?_) (fun hb63_18 => ?_)
            · refine TT_aload_n hK rfl 0 rfl dX10_restore_87 ?_
              refine TT_iload_n hK rfl 3 rfl dX10_restore_88 ?_
              have e19_47 : w55_16 47 = h 47 := (hF55_16 47 (by decide))
              have e20_48 : w55_16 48 = h 48 := (hF55_16 48 (by decide))
              have e21_49 : w55_16 49 = h 49 := (hF55_16 49 (by decide))
              have e22_50 : w55_16 50 = h 50 := (hF55_16 50 (by decide))
              refine iv_X10_162 hK (s_X10_keepNumbers_44 b w55_16 hT55_16 (by first | omega | (simp [up, setR] <;> omega)) (by rw [e19_47, e20_48, e21_49, e22_50]; first | assumption | exact hbd)) (by decide) rfl ⟨by decide, by decide⟩ (by decide) rfl rfl (Nat.le_of_ble_eq_true rfl) ⟨by decide, by decide⟩ dX10_restore_89 ?_
              intro r9 g89_23 hp9
              obtain ⟨⟨hT_23, hG_23⟩, hr9⟩ := hp9
              rw [hr9]
              have hF_23 : FR [3, 4, 44, 46, 51, 52, 61, 62, 64, 65, 66, 67, 68, 69, 70, 71, 72] h g89_23 := FR_tr hF55_16 hG_23 (by decide)
              show TT K ly 0 0 92 [(0, vR 44), (1, vR 5), (2, vR 3), (3, vI b), (4, vI k)] [] g89_23
              refine TT_aload_n hK rfl 0 rfl dX10_restore_92 ?_
              refine gf_X10_43 hK (by decide) rfl (q := 61) rfl rfl dX10_restore_93 ?_
              refine TT_iload_n hK rfl 3 rfl dX10_restore_96 ?_
              refine TT_aload_n hK rfl 0 rfl dX10_restore_97 ?_
              refine gf_X10_22 hK (by decide) rfl (q := 54) rfl rfl dX10_restore_98 ?_
              refine TT_iload_n hK rfl 3 rfl dX10_restore_101 ?_
              refine TT_iald hK (o := 54) (n := 10) (by decide) rfl (by first | omega | (simp [up, setR] <;> omega)) (by first | omega | (simp [up, setR] <;> omega)) (v := (h 54) b) (rd_ (((hG_23 54 (by decide))).trans (hF55_16 54 (by decide))) rfl) dX10_restore_102 ?_
              refine TT_iast hK (o := 61) (n := 10) (by decide) rfl (by omega) (by omega) dX10_restore_103 ?_
              refine TT_hp (h' := setO g89_23 61 (fup (w55_16 61) b ((h 54) b))) (up_can (hG_23 61 (by decide)) rfl rfl) ?_
              have hT_24 : TY (setO g89_23 61 (fup (w55_16 61) b ((h 54) b))) := tu_61 hT_23 (show up g89_23 61 b ((h 54) b) = (setO g89_23 61 (fup (w55_16 61) b ((h 54) b))) from up_can (hG_23 61 (by decide)) rfl rfl) (by omega)
              have hF_24 : FR [3, 4, 44, 46, 51, 52, 61, 62, 64, 65, 66, 67, 68, 69, 70, 71, 72] h (setO g89_23 61 (fup (w55_16 61) b ((h 54) b))) := FR_up (show up g89_23 61 b ((h 54) b) = (setO g89_23 61 (fup (w55_16 61) b ((h 54) b))) from up_can (hG_23 61 (by decide)) rfl rfl) hF_23 (by decide)
              refine TT_iinc hK (v := b + 1) (lv' := [(3, vI (b + 1)), (0, vR 44), (1, vR 5), (2, vR 3), (4, vI k)]) 3 rfl rfl (by decide) rfl dX10_restore_104 ?_
              refine TT_goto hK (tgt := 2) dX10_restore_107 (by decide) ?_
              refine TT_sub [1, 2, 3, 0] rfl ?_
              exact ih1 (b + 1) (setO g89_23 61 (fup (w55_16 61) b ((h 54) b))) hT_24 hF_24 (by first | omega | (simp [up, setR] <;> omega)) (by first | omega | (simp [up, setR] <;> omega))
            · refine TT_aload_n hK rfl 0 rfl dX10_restore_66 ?_
              refine gf_X10_58 hK (by decide) rfl (q := 67) rfl rfl dX10_restore_67 ?_
              refine TT_iload hK 4 rfl dX10_restore_70 ?_
              refine TT_aload_n hK rfl 0 rfl dX10_restore_72 ?_
              refine gf_X10_18 hK (by decide) rfl (q := 53) rfl rfl dX10_restore_73 ?_
              refine TT_iload_n hK rfl 3 rfl dX10_restore_76 ?_
              refine TT_iald hK (o := 53) (n := 10) (by decide) rfl (by first | omega | (simp [up, setR] <;> omega)) (by first | omega | (simp [up, setR] <;> omega)) (v := (h 53) b) (rd_ (hF55_16 53 (by decide)) rfl) dX10_restore_77 ?_
              have r25 := ty_53 (i := b) (v := (h 53) b) hT55_16 (rd_ (hF55_16 53 (by decide)) rfl) (by omega) (by omega)
              refine iv_X10_159 hK (s_X4_runPass_67 k ((h 53) b) w55_16 hT55_16 (by first | omega | (simp [up, setR] <;> omega)) (by first | omega | (simp [up, setR] <;> omega))) (by decide) rfl ⟨by decide, by decide⟩ (by decide) rfl rfl (Nat.le_of_ble_eq_true rfl) ⟨by decide, by decide⟩ dX10_restore_78 ?_
              intro r9 g78_26 hp9
              obtain ⟨⟨hT_26, hG_26⟩, hr9⟩ := hp9
              rw [hr9]
              have hF_26 : FR [3, 4, 44, 46, 51, 52, 61, 62, 64, 65, 66, 67, 68, 69, 70, 71, 72] h g78_26 := FR_tr hF55_16 hG_26 (by decide)
              show TT K ly 0 0 81 [(0, vR 44), (1, vR 5), (2, vR 3), (3, vI b), (4, vI k)] [] g78_26
              refine TT_iinc hK (v := k + 1) (lv' := [(4, vI (k + 1)), (0, vR 44), (1, vR 5), (2, vR 3), (3, vI b)]) 4 rfl rfl (by decide) rfl dX10_restore_81 ?_
              refine TT_goto hK (tgt := 55) dX10_restore_84 (by decide) ?_
              refine TT_sub [1, 2, 3, 4, 0] rfl ?_
              exact ih16 (k + 1) g78_26 hT_26 hF_26 (by first | omega | (simp [up, setR] <;> omega)) (by first | omega | (simp [up, setR] <;> omega))
        refine TT_sub [1, 2, 3, 4, 0] rfl ?_
        exact L55_16 ((((2147483647 : Int) - 0).toNat) + 1) 0 g49_15 hT_15 hF_15 (by first | omega | (simp [up, setR] <;> omega)) (Nat.lt_succ_self _)
  refine TT_sub [1, 2, 3, 0] rfl ?_
  exact L2_1 ((((10 : Int) - 0).toNat) + 1) 0 h hT hF (by first | omega | (simp [up, setR] <;> omega)) (Nat.lt_succ_self _)

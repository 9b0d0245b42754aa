set_option maxRecDepth 20000 in
theorem s_end_e (h : Hp_) (hT : TY h) (ht : 1 ≤ (h 34 5)) (hl : 1 ≤ (h 34 2)) (hq : MQ_ (h 34 3) (h 34 4) (h 34 5) (h 34 2) (h 38)) (ha : 32768 ≤ (h 34 3)) (hn : (h 34 2) ≤ 1019) : Ctr yX8_end cX8_end 2 none (rmd 1) ly ly 0 0 [vR 34] h (fun r h' => (TY h' ∧ FR [34, 38] h h') ∧ r = none ∧ (1 ≤ (h' 34 5)) ∧ (1 ≤ (h' 34 2)) ∧ (((h' 34 4), (h' 34 5), (h' 34 2), (h' 38)) = (endS (h 34 3) (h 34 4) (h 34 5) (h 34 2) (h 38)))) := by
  refine Ctr_of (by decide) (Nat.le_of_ble_eq_true rfl) ⟨Nat.le_refl _, Nat.le_refl _⟩ (fun K hK hQ _ => ?_)
  show TT K ly 0 0 0 [(0, vR 34)] [] h
  have hF : FR [34, 38] h h := FR_rf _ _
  have hc := hq.c_r
  have hr := endC_r hq ha
  obtain ⟨m1, m2, m3, m4, m5, m6, m7, m8, m9⟩ := hq
  obtain ⟨w91, w92, w93⟩ := outS_r (c := endC (h 34 3) (h 34 4) * 2 ^ (h 34 5).toNat) (n := h 34 2) (o := h 38) hr.2.2 ⟨m8, m9⟩
  have hz : 0 ≤ (outS (endC (h 34 3) (h 34 4) * 2 ^ (h 34 5).toNat) (h 34 2) (h 38)).1 * 2 ^ (outS (endC (h 34 3) (h 34 4) * 2 ^ (h 34 5).toNat) (h 34 2) (h 38)).2.1.toNat ∧ (outS (endC (h 34 3) (h 34 4) * 2 ^ (h 34 5).toNat) (h 34 2) (h 38)).1 * 2 ^ (outS (endC (h 34 3) (h 34 4) * 2 ^ (h 34 5).toNat) (h 34 2) (h 38)).2.1.toNat < 150994944 := by
    rcases w92 with ⟨u1, u2, u3⟩ | ⟨u1, u2, u3⟩ <;> rw [u1]
    · rw [show (2 : Int) ^ (7 : Int).toNat = 128 by decide]; omega
    · rw [show (2 : Int) ^ (8 : Int).toNat = 256 by decide]; omega
  refine TT_aload_n hK rfl 0 rfl dX8_end_0 ?_
  refine gf_X8_33 hK (by decide) rfl (v := (h 34) 4) rfl dX8_end_1 ?_
  have r1 := ty_34_4 (v := (h 34) 4) hT rfl
  refine TT_aload_n hK rfl 0 rfl dX8_end_4 ?_
  refine gf_X8_30 hK (by decide) rfl (v := (h 34) 3) rfl dX8_end_5 ?_
  have r2 := ty_34_3 (v := (h 34) 3) hT rfl
  refine TT_iadd hK dX8_end_8 ?_
  refine TT_istore_n hK rfl (lv' := [(1, vI (((h 34) 4) + ((h 34) 3))), (0, vR 34)]) (by decide) rfl dX8_end_9 ?_
  refine TT_aload_n hK rfl 1 rfl dX8_end_10 ?_
  refine TT_dup hK rfl dX8_end_11 ?_
  refine gf_X8_33 hK (by decide) rfl (v := (h 34) 4) rfl dX8_end_12 ?_
  refine TT_ldc hK lc_X8_60 dX8_end_15 ?_
  refine TT_ior hK dX8_end_17 ?_
  refine TT_cgI (b := h 34 4 / 65536 * 65536 + 65535) (by exact ior_m hc.1 (by omega)) ?_
  refine pf_X8_33 hK (by decide) rfl dX8_end_18 ?_
  refine TT_hp (h' := setO h 34 (fup (h 34) 4 (h 34 4 / 65536 * 65536 + 65535))) (up_can rfl rfl rfl) ?_
  have hT_3 : TY (setO h 34 (fup (h 34) 4 (h 34 4 / 65536 * 65536 + 65535))) := tu_34_4 hT (show up h 34 4 (h 34 4 / 65536 * 65536 + 65535) = (setO h 34 (fup (h 34) 4 (h 34 4 / 65536 * 65536 + 65535))) from up_can rfl rfl rfl) (by omega)
  have hF_3 : FR [34, 38] h (setO h 34 (fup (h 34) 4 (h 34 4 / 65536 * 65536 + 65535))) := FR_up (show up h 34 4 (h 34 4 / 65536 * 65536 + 65535) = (setO h 34 (fup (h 34) 4 (h 34 4 / 65536 * 65536 + 65535))) from up_can rfl rfl rfl) hF (by decide)
  refine TT_aload_n hK rfl 1 rfl dX8_end_21 ?_
  refine gf_X8_33 hK (by decide) rfl (v := h 34 4 / 65536 * 65536 + 65535) (rd_ (sOf_eq _ _ _) (fup_eq _ _ _)) dX8_end_22 ?_
  have r4 := ty_34_4 (v := h 34 4 / 65536 * 65536 + 65535) hT_3 (rd_ (sOf_eq _ _ _) (fup_eq _ _ _))
  refine TT_iload_n hK rfl 0 rfl dX8_end_25 ?_
  refine TT_icmp_lt hK (tgt := 40) (irm (by omega) (by omega)) (irm (by omega) (by omega)) dX8_end_26 (by decide) (fun hb26_5 => ?_) (fun hb26_5 => ?_)
  · refine TT_aload_n hK rfl 1 rfl dX8_end_40 ?_
    refine TT_dup hK rfl dX8_end_41 ?_
    refine gf_X8_33 hK (by decide) rfl (v := h 34 4 / 65536 * 65536 + 65535) (rd_ (sOf_eq _ _ _) (fup_eq _ _ _)) dX8_end_42 ?_
    refine TT_cgI (b := endC (h 34 3) (h 34 4)) (by unfold endC; first | rw [if_pos (by omega)] | rw [if_neg (by omega)]) ?_
    refine TT_aload_n hK rfl 1 rfl dX8_end_45 ?_
    refine gf_X8_36 hK (by decide) rfl (v := (h 34) 5) (rd_ (sOf_eq _ _ _) (fup_ne _ _ (by decide))) dX8_end_46 ?_
    have r6 := ty_34_5 (v := (h 34) 5) hT_3 (rd_ (sOf_eq _ _ _) (fup_ne _ _ (by decide)))
    refine TT_ishl hK (by omega) (by omega) dX8_end_49 ?_
    refine pf_X8_33 hK (by decide) rfl dX8_end_50 ?_
    refine TT_hp (h' := setO h 34 (fup (h 34) 4 ((endC (h 34 3) (h 34 4)) * 2 ^ ((h 34) 5).toNat))) (up_can (sOf_eq _ _ _) (fup_same _ _ _ _) (setO_same _ _ _ _)) ?_
    have hT_7 : TY (setO h 34 (fup (h 34) 4 ((endC (h 34 3) (h 34 4)) * 2 ^ ((h 34) 5).toNat))) := tu_34_4 hT_3 (show up (setO h 34 (fup (h 34) 4 (h 34 4 / 65536 * 65536 + 65535))) 34 4 ((endC (h 34 3) (h 34 4)) * 2 ^ ((h 34) 5).toNat) = (setO h 34 (fup (h 34) 4 ((endC (h 34 3) (h 34 4)) * 2 ^ ((h 34) 5).toNat))) from up_can (sOf_eq _ _ _) (fup_same _ _ _ _) (setO_same _ _ _ _)) (by omega)
    have hF_7 : FR [34, 38] h (setO h 34 (fup (h 34) 4 ((endC (h 34 3) (h 34 4)) * 2 ^ ((h 34) 5).toNat))) := FR_up (show up (setO h 34 (fup (h 34) 4 (h 34 4 / 65536 * 65536 + 65535))) 34 4 ((endC (h 34 3) (h 34 4)) * 2 ^ ((h 34) 5).toNat) = (setO h 34 (fup (h 34) 4 ((endC (h 34 3) (h 34 4)) * 2 ^ ((h 34) 5).toNat))) from up_can (sOf_eq _ _ _) (fup_same _ _ _ _) (setO_same _ _ _ _)) hF_3 (by decide)
    refine TT_aload_n hK rfl 1 rfl dX8_end_53 ?_
    have e8_34_2 : (setO h 34 (fup (h 34) 4 ((endC (h 34 3) (h 34 4)) * 2 ^ ((h 34) 5).toNat))) 34 2 = (h 34) 2 := rd_ (sOf_eq _ _ _) (fup_ne _ _ (by decide))
    have e9_34_2 : (setO h 34 (fup (h 34) 4 ((endC (h 34 3) (h 34 4)) * 2 ^ ((h 34) 5).toNat))) 34 2 = (h 34) 2 := rd_ (sOf_eq _ _ _) (fup_ne _ _ (by decide))
    have e10_34_4 : (setO h 34 (fup (h 34) 4 ((endC (h 34 3) (h 34 4)) * 2 ^ ((h 34) 5).toNat))) 34 4 = (endC (h 34 3) (h 34 4)) * 2 ^ ((h 34) 5).toNat := rd_ (sOf_eq _ _ _) (fup_eq _ _ _)
    have e11_34_2 : (setO h 34 (fup (h 34) 4 ((endC (h 34 3) (h 34 4)) * 2 ^ ((h 34) 5).toNat))) 34 2 = (h 34) 2 := rd_ (sOf_eq _ _ _) (fup_ne _ _ (by decide))
    have e12_38 : (setO h 34 (fup (h 34) 4 ((endC (h 34 3) (h 34 4)) * 2 ^ ((h 34) 5).toNat))) 38 = h 38 := sOf_ne _ _ (by decide)
    refine iv_X8_53 hK (s_goOut_e (setO h 34 (fup (h 34) 4 ((endC (h 34 3) (h 34 4)) * 2 ^ ((h 34) 5).toNat))) hT_7 (by rewrite [e8_34_2]; first | omega | (simp [up, setR] <;> omega)) (by rewrite [e9_34_2]; first | omega | (simp [up, setR] <;> omega)) (by rewrite [e10_34_4]; first | omega | (simp [up, setR] <;> omega)) (by rewrite [e11_34_2, e12_38]; first | omega | (simp [up, setR] <;> omega))) (by decide) rfl ⟨by decide, by decide⟩ (by decide) rfl rfl (Nat.le_of_ble_eq_true rfl) ⟨by decide, by decide⟩ dX8_end_54 ?_
    intro r9 g54_13 hp9
    obtain ⟨⟨hT_13, hG_13⟩, hr9, p1_13, p2_13, o0_13, o1_13, o2_13, o3_13, o4_13⟩ := hp9
    rw [hr9]
    have hF_13 : FR [34, 38] h g54_13 := FR_tr hF_7 hG_13 (by decide)
    rw [show (setO h 34 (fup (h 34) 4 ((endC (h 34 3) (h 34 4)) * 2 ^ ((h 34) 5).toNat))) 34 3 = (h 34) 3 from rd_ (sOf_eq _ _ _) (fup_ne _ _ (by decide))] at o0_13
    rw [show (setO h 34 (fup (h 34) 4 ((endC (h 34 3) (h 34 4)) * 2 ^ ((h 34) 5).toNat))) 34 2 = (h 34) 2 from rd_ (sOf_eq _ _ _) (fup_ne _ _ (by decide))] at o1_13
    rw [show (setO h 34 (fup (h 34) 4 ((endC (h 34 3) (h 34 4)) * 2 ^ ((h 34) 5).toNat))) 34 4 = (endC (h 34 3) (h 34 4)) * 2 ^ ((h 34) 5).toNat from rd_ (sOf_eq _ _ _) (fup_eq _ _ _)] at o1_13
    rw [show (setO h 34 (fup (h 34) 4 ((endC (h 34 3) (h 34 4)) * 2 ^ ((h 34) 5).toNat))) 38 = h 38 from sOf_ne _ _ (by decide)] at o1_13
    rw [show (setO h 34 (fup (h 34) 4 ((endC (h 34 3) (h 34 4)) * 2 ^ ((h 34) 5).toNat))) 34 2 = (h 34) 2 from rd_ (sOf_eq _ _ _) (fup_ne _ _ (by decide))] at o2_13
    rw [show (setO h 34 (fup (h 34) 4 ((endC (h 34 3) (h 34 4)) * 2 ^ ((h 34) 5).toNat))) 34 4 = (endC (h 34 3) (h 34 4)) * 2 ^ ((h 34) 5).toNat from rd_ (sOf_eq _ _ _) (fup_eq _ _ _)] at o2_13
    rw [show (setO h 34 (fup (h 34) 4 ((endC (h 34 3) (h 34 4)) * 2 ^ ((h 34) 5).toNat))) 38 = h 38 from sOf_ne _ _ (by decide)] at o2_13
    rw [show (setO h 34 (fup (h 34) 4 ((endC (h 34 3) (h 34 4)) * 2 ^ ((h 34) 5).toNat))) 34 2 = (h 34) 2 from rd_ (sOf_eq _ _ _) (fup_ne _ _ (by decide))] at o3_13
    rw [show (setO h 34 (fup (h 34) 4 ((endC (h 34 3) (h 34 4)) * 2 ^ ((h 34) 5).toNat))) 34 4 = (endC (h 34 3) (h 34 4)) * 2 ^ ((h 34) 5).toNat from rd_ (sOf_eq _ _ _) (fup_eq _ _ _)] at o3_13
    rw [show (setO h 34 (fup (h 34) 4 ((endC (h 34 3) (h 34 4)) * 2 ^ ((h 34) 5).toNat))) 38 = h 38 from sOf_ne _ _ (by decide)] at o3_13
    rw [show (setO h 34 (fup (h 34) 4 ((endC (h 34 3) (h 34 4)) * 2 ^ ((h 34) 5).toNat))) 34 2 = (h 34) 2 from rd_ (sOf_eq _ _ _) (fup_ne _ _ (by decide))] at o4_13
    rw [show (setO h 34 (fup (h 34) 4 ((endC (h 34 3) (h 34 4)) * 2 ^ ((h 34) 5).toNat))) 34 4 = (endC (h 34 3) (h 34 4)) * 2 ^ ((h 34) 5).toNat from rd_ (sOf_eq _ _ _) (fup_eq _ _ _)] at o4_13
    rw [show (setO h 34 (fup (h 34) 4 ((endC (h 34 3) (h 34 4)) * 2 ^ ((h 34) 5).toNat))) 38 = h 38 from sOf_ne _ _ (by decide)] at o4_13
    have o0_at54 := o0_13
    have o1_at54 := o1_13
    have o2_at54 := o2_13
    have o3_at54 := o3_13
    have o4_at54 := o4_13
    show TT K ly 0 0 57 [(1, vI (((h 34) 4) + ((h 34) 3))), (0, vR 34)] [] g54_13
    refine TT_aload_n hK rfl 1 rfl dX8_end_57 ?_
    refine TT_dup hK rfl dX8_end_58 ?_
    refine gf_X8_33 hK (by decide) rfl (v := (g54_13 34) 4) rfl dX8_end_59 ?_
    have r14 := ty_34_4 (v := (g54_13 34) 4) hT_13 rfl
    refine TT_cgI (b := (outS (endC (h 34 3) (h 34 4) * 2 ^ (h 34 5).toNat) (h 34 2) (h 38)).1) (by exact o1_at54) ?_
    refine TT_aload_n hK rfl 1 rfl dX8_end_62 ?_
    refine gf_X8_36 hK (by decide) rfl (v := (g54_13 34) 5) rfl dX8_end_63 ?_
    have r15 := ty_34_5 (v := (g54_13 34) 5) hT_13 rfl
    refine TT_cgI (b := (outS (endC (h 34 3) (h 34 4) * 2 ^ (h 34 5).toNat) (h 34 2) (h 38)).2.1) (by exact o2_at54) ?_
    refine TT_ishl hK (by omega) (by omega) dX8_end_66 ?_
    refine pf_X8_33 hK (by decide) rfl dX8_end_67 ?_
    refine TT_hp (h' := setO g54_13 34 (fup (g54_13 34) 4 (((outS (endC (h 34 3) (h 34 4) * 2 ^ (h 34 5).toNat) (h 34 2) (h 38)).1) * 2 ^ ((outS (endC (h 34 3) (h 34 4) * 2 ^ (h 34 5).toNat) (h 34 2) (h 38)).2.1).toNat))) (up_can rfl rfl rfl) ?_
    have hT_16 : TY (setO g54_13 34 (fup (g54_13 34) 4 (((outS (endC (h 34 3) (h 34 4) * 2 ^ (h 34 5).toNat) (h 34 2) (h 38)).1) * 2 ^ ((outS (endC (h 34 3) (h 34 4) * 2 ^ (h 34 5).toNat) (h 34 2) (h 38)).2.1).toNat))) := tu_34_4 hT_13 (show up g54_13 34 4 (((outS (endC (h 34 3) (h 34 4) * 2 ^ (h 34 5).toNat) (h 34 2) (h 38)).1) * 2 ^ ((outS (endC (h 34 3) (h 34 4) * 2 ^ (h 34 5).toNat) (h 34 2) (h 38)).2.1).toNat) = (setO g54_13 34 (fup (g54_13 34) 4 (((outS (endC (h 34 3) (h 34 4) * 2 ^ (h 34 5).toNat) (h 34 2) (h 38)).1) * 2 ^ ((outS (endC (h 34 3) (h 34 4) * 2 ^ (h 34 5).toNat) (h 34 2) (h 38)).2.1).toNat))) from up_can rfl rfl rfl) (by omega)
    have hF_16 : FR [34, 38] h (setO g54_13 34 (fup (g54_13 34) 4 (((outS (endC (h 34 3) (h 34 4) * 2 ^ (h 34 5).toNat) (h 34 2) (h 38)).1) * 2 ^ ((outS (endC (h 34 3) (h 34 4) * 2 ^ (h 34 5).toNat) (h 34 2) (h 38)).2.1).toNat))) := FR_up (show up g54_13 34 4 (((outS (endC (h 34 3) (h 34 4) * 2 ^ (h 34 5).toNat) (h 34 2) (h 38)).1) * 2 ^ ((outS (endC (h 34 3) (h 34 4) * 2 ^ (h 34 5).toNat) (h 34 2) (h 38)).2.1).toNat) = (setO g54_13 34 (fup (g54_13 34) 4 (((outS (endC (h 34 3) (h 34 4) * 2 ^ (h 34 5).toNat) (h 34 2) (h 38)).1) * 2 ^ ((outS (endC (h 34 3) (h 34 4) * 2 ^ (h 34 5).toNat) (h 34 2) (h 38)).2.1).toNat))) from up_can rfl rfl rfl) hF_13 (by decide)
    refine TT_aload_n hK rfl 1 rfl dX8_end_70 ?_
    have e17_34_2 : (setO g54_13 34 (fup (g54_13 34) 4 (((outS (endC (h 34 3) (h 34 4) * 2 ^ (h 34 5).toNat) (h 34 2) (h 38)).1) * 2 ^ ((outS (endC (h 34 3) (h 34 4) * 2 ^ (h 34 5).toNat) (h 34 2) (h 38)).2.1).toNat))) 34 2 = (g54_13 34) 2 := rd_ (sOf_eq _ _ _) (fup_ne _ _ (by decide))
    have e18_34_2 : (setO g54_13 34 (fup (g54_13 34) 4 (((outS (endC (h 34 3) (h 34 4) * 2 ^ (h 34 5).toNat) (h 34 2) (h 38)).1) * 2 ^ ((outS (endC (h 34 3) (h 34 4) * 2 ^ (h 34 5).toNat) (h 34 2) (h 38)).2.1).toNat))) 34 2 = (g54_13 34) 2 := rd_ (sOf_eq _ _ _) (fup_ne _ _ (by decide))
    have e19_34_4 : (setO g54_13 34 (fup (g54_13 34) 4 (((outS (endC (h 34 3) (h 34 4) * 2 ^ (h 34 5).toNat) (h 34 2) (h 38)).1) * 2 ^ ((outS (endC (h 34 3) (h 34 4) * 2 ^ (h 34 5).toNat) (h 34 2) (h 38)).2.1).toNat))) 34 4 = ((outS (endC (h 34 3) (h 34 4) * 2 ^ (h 34 5).toNat) (h 34 2) (h 38)).1) * 2 ^ ((outS (endC (h 34 3) (h 34 4) * 2 ^ (h 34 5).toNat) (h 34 2) (h 38)).2.1).toNat := rd_ (sOf_eq _ _ _) (fup_eq _ _ _)
    have e20_34_2 : (setO g54_13 34 (fup (g54_13 34) 4 (((outS (endC (h 34 3) (h 34 4) * 2 ^ (h 34 5).toNat) (h 34 2) (h 38)).1) * 2 ^ ((outS (endC (h 34 3) (h 34 4) * 2 ^ (h 34 5).toNat) (h 34 2) (h 38)).2.1).toNat))) 34 2 = (g54_13 34) 2 := rd_ (sOf_eq _ _ _) (fup_ne _ _ (by decide))
    have e21_38 : (setO g54_13 34 (fup (g54_13 34) 4 (((outS (endC (h 34 3) (h 34 4) * 2 ^ (h 34 5).toNat) (h 34 2) (h 38)).1) * 2 ^ ((outS (endC (h 34 3) (h 34 4) * 2 ^ (h 34 5).toNat) (h 34 2) (h 38)).2.1).toNat))) 38 = g54_13 38 := sOf_ne _ _ (by decide)
    refine iv_X8_53 hK (s_goOut_e (setO g54_13 34 (fup (g54_13 34) 4 (((outS (endC (h 34 3) (h 34 4) * 2 ^ (h 34 5).toNat) (h 34 2) (h 38)).1) * 2 ^ ((outS (endC (h 34 3) (h 34 4) * 2 ^ (h 34 5).toNat) (h 34 2) (h 38)).2.1).toNat))) hT_16 (by rewrite [e17_34_2]; first | omega | (simp [up, setR] <;> omega)) (by rewrite [e18_34_2]; rw [o3_at54]; omega) (by rewrite [e19_34_4]; first | omega | (simp [up, setR] <;> omega)) (by rewrite [e20_34_2, e21_38]; rw [o3_at54, o4_at54, w91, show h 34 2 + 1 - 1 = h 34 2 by omega]; exact w93)) (by decide) rfl ⟨by decide, by decide⟩ (by decide) rfl rfl (Nat.le_of_ble_eq_true rfl) ⟨by decide, by decide⟩ dX8_end_71 ?_
    intro r9 g71_22 hp9
    obtain ⟨⟨hT_22, hG_22⟩, hr9, p1_22, p2_22, o0_22, o1_22, o2_22, o3_22, o4_22⟩ := hp9
    rw [hr9]
    have hF_22 : FR [34, 38] h g71_22 := FR_tr hF_16 hG_22 (by decide)
    rw [show (setO g54_13 34 (fup (g54_13 34) 4 (((outS (endC (h 34 3) (h 34 4) * 2 ^ (h 34 5).toNat) (h 34 2) (h 38)).1) * 2 ^ ((outS (endC (h 34 3) (h 34 4) * 2 ^ (h 34 5).toNat) (h 34 2) (h 38)).2.1).toNat))) 34 3 = (g54_13 34) 3 from rd_ (sOf_eq _ _ _) (fup_ne _ _ (by decide))] at o0_22
    rw [show (setO g54_13 34 (fup (g54_13 34) 4 (((outS (endC (h 34 3) (h 34 4) * 2 ^ (h 34 5).toNat) (h 34 2) (h 38)).1) * 2 ^ ((outS (endC (h 34 3) (h 34 4) * 2 ^ (h 34 5).toNat) (h 34 2) (h 38)).2.1).toNat))) 34 2 = (g54_13 34) 2 from rd_ (sOf_eq _ _ _) (fup_ne _ _ (by decide))] at o1_22
    rw [show (setO g54_13 34 (fup (g54_13 34) 4 (((outS (endC (h 34 3) (h 34 4) * 2 ^ (h 34 5).toNat) (h 34 2) (h 38)).1) * 2 ^ ((outS (endC (h 34 3) (h 34 4) * 2 ^ (h 34 5).toNat) (h 34 2) (h 38)).2.1).toNat))) 34 4 = ((outS (endC (h 34 3) (h 34 4) * 2 ^ (h 34 5).toNat) (h 34 2) (h 38)).1) * 2 ^ ((outS (endC (h 34 3) (h 34 4) * 2 ^ (h 34 5).toNat) (h 34 2) (h 38)).2.1).toNat from rd_ (sOf_eq _ _ _) (fup_eq _ _ _)] at o1_22
    rw [show (setO g54_13 34 (fup (g54_13 34) 4 (((outS (endC (h 34 3) (h 34 4) * 2 ^ (h 34 5).toNat) (h 34 2) (h 38)).1) * 2 ^ ((outS (endC (h 34 3) (h 34 4) * 2 ^ (h 34 5).toNat) (h 34 2) (h 38)).2.1).toNat))) 38 = g54_13 38 from sOf_ne _ _ (by decide)] at o1_22
    rw [show (setO g54_13 34 (fup (g54_13 34) 4 (((outS (endC (h 34 3) (h 34 4) * 2 ^ (h 34 5).toNat) (h 34 2) (h 38)).1) * 2 ^ ((outS (endC (h 34 3) (h 34 4) * 2 ^ (h 34 5).toNat) (h 34 2) (h 38)).2.1).toNat))) 34 2 = (g54_13 34) 2 from rd_ (sOf_eq _ _ _) (fup_ne _ _ (by decide))] at o2_22
    rw [show (setO g54_13 34 (fup (g54_13 34) 4 (((outS (endC (h 34 3) (h 34 4) * 2 ^ (h 34 5).toNat) (h 34 2) (h 38)).1) * 2 ^ ((outS (endC (h 34 3) (h 34 4) * 2 ^ (h 34 5).toNat) (h 34 2) (h 38)).2.1).toNat))) 34 4 = ((outS (endC (h 34 3) (h 34 4) * 2 ^ (h 34 5).toNat) (h 34 2) (h 38)).1) * 2 ^ ((outS (endC (h 34 3) (h 34 4) * 2 ^ (h 34 5).toNat) (h 34 2) (h 38)).2.1).toNat from rd_ (sOf_eq _ _ _) (fup_eq _ _ _)] at o2_22
    rw [show (setO g54_13 34 (fup (g54_13 34) 4 (((outS (endC (h 34 3) (h 34 4) * 2 ^ (h 34 5).toNat) (h 34 2) (h 38)).1) * 2 ^ ((outS (endC (h 34 3) (h 34 4) * 2 ^ (h 34 5).toNat) (h 34 2) (h 38)).2.1).toNat))) 38 = g54_13 38 from sOf_ne _ _ (by decide)] at o2_22
    rw [show (setO g54_13 34 (fup (g54_13 34) 4 (((outS (endC (h 34 3) (h 34 4) * 2 ^ (h 34 5).toNat) (h 34 2) (h 38)).1) * 2 ^ ((outS (endC (h 34 3) (h 34 4) * 2 ^ (h 34 5).toNat) (h 34 2) (h 38)).2.1).toNat))) 34 2 = (g54_13 34) 2 from rd_ (sOf_eq _ _ _) (fup_ne _ _ (by decide))] at o3_22
    rw [show (setO g54_13 34 (fup (g54_13 34) 4 (((outS (endC (h 34 3) (h 34 4) * 2 ^ (h 34 5).toNat) (h 34 2) (h 38)).1) * 2 ^ ((outS (endC (h 34 3) (h 34 4) * 2 ^ (h 34 5).toNat) (h 34 2) (h 38)).2.1).toNat))) 34 4 = ((outS (endC (h 34 3) (h 34 4) * 2 ^ (h 34 5).toNat) (h 34 2) (h 38)).1) * 2 ^ ((outS (endC (h 34 3) (h 34 4) * 2 ^ (h 34 5).toNat) (h 34 2) (h 38)).2.1).toNat from rd_ (sOf_eq _ _ _) (fup_eq _ _ _)] at o3_22
    rw [show (setO g54_13 34 (fup (g54_13 34) 4 (((outS (endC (h 34 3) (h 34 4) * 2 ^ (h 34 5).toNat) (h 34 2) (h 38)).1) * 2 ^ ((outS (endC (h 34 3) (h 34 4) * 2 ^ (h 34 5).toNat) (h 34 2) (h 38)).2.1).toNat))) 38 = g54_13 38 from sOf_ne _ _ (by decide)] at o3_22
    rw [show (setO g54_13 34 (fup (g54_13 34) 4 (((outS (endC (h 34 3) (h 34 4) * 2 ^ (h 34 5).toNat) (h 34 2) (h 38)).1) * 2 ^ ((outS (endC (h 34 3) (h 34 4) * 2 ^ (h 34 5).toNat) (h 34 2) (h 38)).2.1).toNat))) 34 2 = (g54_13 34) 2 from rd_ (sOf_eq _ _ _) (fup_ne _ _ (by decide))] at o4_22
    rw [show (setO g54_13 34 (fup (g54_13 34) 4 (((outS (endC (h 34 3) (h 34 4) * 2 ^ (h 34 5).toNat) (h 34 2) (h 38)).1) * 2 ^ ((outS (endC (h 34 3) (h 34 4) * 2 ^ (h 34 5).toNat) (h 34 2) (h 38)).2.1).toNat))) 34 4 = ((outS (endC (h 34 3) (h 34 4) * 2 ^ (h 34 5).toNat) (h 34 2) (h 38)).1) * 2 ^ ((outS (endC (h 34 3) (h 34 4) * 2 ^ (h 34 5).toNat) (h 34 2) (h 38)).2.1).toNat from rd_ (sOf_eq _ _ _) (fup_eq _ _ _)] at o4_22
    rw [show (setO g54_13 34 (fup (g54_13 34) 4 (((outS (endC (h 34 3) (h 34 4) * 2 ^ (h 34 5).toNat) (h 34 2) (h 38)).1) * 2 ^ ((outS (endC (h 34 3) (h 34 4) * 2 ^ (h 34 5).toNat) (h 34 2) (h 38)).2.1).toNat))) 38 = g54_13 38 from sOf_ne _ _ (by decide)] at o4_22
    have o0_at71 := o0_22
    have o1_at71 := o1_22
    have o2_at71 := o2_22
    have o3_at71 := o3_22
    have o4_at71 := o4_22
    show TT K ly 0 0 74 [(1, vI (((h 34) 4) + ((h 34) 3))), (0, vR 34)] [] g71_22
    refine TT_vret hK hQ ?_ dX8_end_74
    have e23_34_5 : g71_22 34 5 = (g71_22 34) 5 := rfl
    have e24_34_2 : g71_22 34 2 = (g71_22 34) 2 := rfl
    have e25_34_2 : g71_22 34 2 = (g71_22 34) 2 := rfl
    have e26_34_4 : g71_22 34 4 = (g71_22 34) 4 := rfl
    have e27_34_5 : g71_22 34 5 = (g71_22 34) 5 := rfl
    exact ⟨⟨hT_22, hF_22⟩, rfl, (by rewrite [e23_34_5]; omega), (by rewrite [e24_34_2]; omega), (by rewrite [e25_34_2, e26_34_4, e27_34_5]; unfold endS; rw [o1_at71, o2_at71, o3_at71, o4_at71, o3_at54, o4_at54])⟩
  · refine TT_aload_n hK rfl 1 rfl dX8_end_29 ?_
    refine TT_dup hK rfl dX8_end_30 ?_
    refine gf_X8_33 hK (by decide) rfl (v := h 34 4 / 65536 * 65536 + 65535) (rd_ (sOf_eq _ _ _) (fup_eq _ _ _)) dX8_end_31 ?_
    refine TT_ldc hK lc_X8_29 dX8_end_34 ?_
    refine TT_isub hK dX8_end_36 ?_
    refine pf_X8_33 hK (by decide) rfl dX8_end_37 ?_
    refine TT_hp (h' := setO h 34 (fup (h 34) 4 ((h 34 4 / 65536 * 65536 + 65535) - 32768))) (up_can (sOf_eq _ _ _) (fup_same _ _ _ _) (setO_same _ _ _ _)) ?_
    have hT_28 : TY (setO h 34 (fup (h 34) 4 ((h 34 4 / 65536 * 65536 + 65535) - 32768))) := tu_34_4 hT_3 (show up (setO h 34 (fup (h 34) 4 (h 34 4 / 65536 * 65536 + 65535))) 34 4 ((h 34 4 / 65536 * 65536 + 65535) - 32768) = (setO h 34 (fup (h 34) 4 ((h 34 4 / 65536 * 65536 + 65535) - 32768))) from up_can (sOf_eq _ _ _) (fup_same _ _ _ _) (setO_same _ _ _ _)) (by omega)
    have hF_28 : FR [34, 38] h (setO h 34 (fup (h 34) 4 ((h 34 4 / 65536 * 65536 + 65535) - 32768))) := FR_up (show up (setO h 34 (fup (h 34) 4 (h 34 4 / 65536 * 65536 + 65535))) 34 4 ((h 34 4 / 65536 * 65536 + 65535) - 32768) = (setO h 34 (fup (h 34) 4 ((h 34 4 / 65536 * 65536 + 65535) - 32768))) from up_can (sOf_eq _ _ _) (fup_same _ _ _ _) (setO_same _ _ _ _)) hF_3 (by decide)
    refine TT_aload_n hK rfl 1 rfl dX8_end_40 ?_
    refine TT_dup hK rfl dX8_end_41 ?_
    refine gf_X8_33 hK (by decide) rfl (v := (h 34 4 / 65536 * 65536 + 65535) - 32768) (rd_ (sOf_eq _ _ _) (fup_eq _ _ _)) dX8_end_42 ?_
    have r29 := ty_34_4 (v := (h 34 4 / 65536 * 65536 + 65535) - 32768) hT_28 (rd_ (sOf_eq _ _ _) (fup_eq _ _ _))
    refine TT_cgI (b := endC (h 34 3) (h 34 4)) (by unfold endC; first | rw [if_pos (by omega)] | rw [if_neg (by omega)]) ?_
    refine TT_aload_n hK rfl 1 rfl dX8_end_45 ?_
    refine gf_X8_36 hK (by decide) rfl (v := (h 34) 5) (rd_ (sOf_eq _ _ _) (fup_ne _ _ (by decide))) dX8_end_46 ?_
    have r30 := ty_34_5 (v := (h 34) 5) hT_28 (rd_ (sOf_eq _ _ _) (fup_ne _ _ (by decide)))
    refine TT_ishl hK (by omega) (by omega) dX8_end_49 ?_
    refine pf_X8_33 hK (by decide) rfl dX8_end_50 ?_
    refine TT_hp (h' := setO h 34 (fup (h 34) 4 ((endC (h 34 3) (h 34 4)) * 2 ^ ((h 34) 5).toNat))) (up_can (sOf_eq _ _ _) (fup_same _ _ _ _) (setO_same _ _ _ _)) ?_
    have hT_31 : TY (setO h 34 (fup (h 34) 4 ((endC (h 34 3) (h 34 4)) * 2 ^ ((h 34) 5).toNat))) := tu_34_4 hT_28 (show up (setO h 34 (fup (h 34) 4 ((h 34 4 / 65536 * 65536 + 65535) - 32768))) 34 4 ((endC (h 34 3) (h 34 4)) * 2 ^ ((h 34) 5).toNat) = (setO h 34 (fup (h 34) 4 ((endC (h 34 3) (h 34 4)) * 2 ^ ((h 34) 5).toNat))) from up_can (sOf_eq _ _ _) (fup_same _ _ _ _) (setO_same _ _ _ _)) (by omega)
    have hF_31 : FR [34, 38] h (setO h 34 (fup (h 34) 4 ((endC (h 34 3) (h 34 4)) * 2 ^ ((h 34) 5).toNat))) := FR_up (show up (setO h 34 (fup (h 34) 4 ((h 34 4 / 65536 * 65536 + 65535) - 32768))) 34 4 ((endC (h 34 3) (h 34 4)) * 2 ^ ((h 34) 5).toNat) = (setO h 34 (fup (h 34) 4 ((endC (h 34 3) (h 34 4)) * 2 ^ ((h 34) 5).toNat))) from up_can (sOf_eq _ _ _) (fup_same _ _ _ _) (setO_same _ _ _ _)) hF_28 (by decide)
    refine TT_aload_n hK rfl 1 rfl dX8_end_53 ?_
    have e32_34_2 : (setO h 34 (fup (h 34) 4 ((endC (h 34 3) (h 34 4)) * 2 ^ ((h 34) 5).toNat))) 34 2 = (h 34) 2 := rd_ (sOf_eq _ _ _) (fup_ne _ _ (by decide))
    have e33_34_2 : (setO h 34 (fup (h 34) 4 ((endC (h 34 3) (h 34 4)) * 2 ^ ((h 34) 5).toNat))) 34 2 = (h 34) 2 := rd_ (sOf_eq _ _ _) (fup_ne _ _ (by decide))
    have e34_34_4 : (setO h 34 (fup (h 34) 4 ((endC (h 34 3) (h 34 4)) * 2 ^ ((h 34) 5).toNat))) 34 4 = (endC (h 34 3) (h 34 4)) * 2 ^ ((h 34) 5).toNat := rd_ (sOf_eq _ _ _) (fup_eq _ _ _)
    have e35_34_2 : (setO h 34 (fup (h 34) 4 ((endC (h 34 3) (h 34 4)) * 2 ^ ((h 34) 5).toNat))) 34 2 = (h 34) 2 := rd_ (sOf_eq _ _ _) (fup_ne _ _ (by decide))
    have e36_38 : (setO h 34 (fup (h 34) 4 ((endC (h 34 3) (h 34 4)) * 2 ^ ((h 34) 5).toNat))) 38 = h 38 := sOf_ne _ _ (by decide)
    refine iv_X8_53 hK (s_goOut_e (setO h 34 (fup (h 34) 4 ((endC (h 34 3) (h 34 4)) * 2 ^ ((h 34) 5).toNat))) hT_31 (by rewrite [e32_34_2]; first | omega | (simp [up, setR] <;> omega)) (by rewrite [e33_34_2]; first | omega | (simp [up, setR] <;> omega)) (by rewrite [e34_34_4]; first | omega | (simp [up, setR] <;> omega)) (by rewrite [e35_34_2, e36_38]; first | omega | (simp [up, setR] <;> omega))) (by decide) rfl ⟨by decide, by decide⟩ (by decide) rfl rfl (Nat.le_of_ble_eq_true rfl) ⟨by decide, by decide⟩ dX8_end_54 ?_
    intro r9 g54_37 hp9
    obtain ⟨⟨hT_37, hG_37⟩, hr9, p1_37, p2_37, o0_37, o1_37, o2_37, o3_37, o4_37⟩ := hp9
    rw [hr9]
    have hF_37 : FR [34, 38] h g54_37 := FR_tr hF_31 hG_37 (by decide)
    rw [show (setO h 34 (fup (h 34) 4 ((endC (h 34 3) (h 34 4)) * 2 ^ ((h 34) 5).toNat))) 34 3 = (h 34) 3 from rd_ (sOf_eq _ _ _) (fup_ne _ _ (by decide))] at o0_37
    rw [show (setO h 34 (fup (h 34) 4 ((endC (h 34 3) (h 34 4)) * 2 ^ ((h 34) 5).toNat))) 34 2 = (h 34) 2 from rd_ (sOf_eq _ _ _) (fup_ne _ _ (by decide))] at o1_37
    rw [show (setO h 34 (fup (h 34) 4 ((endC (h 34 3) (h 34 4)) * 2 ^ ((h 34) 5).toNat))) 34 4 = (endC (h 34 3) (h 34 4)) * 2 ^ ((h 34) 5).toNat from rd_ (sOf_eq _ _ _) (fup_eq _ _ _)] at o1_37
    rw [show (setO h 34 (fup (h 34) 4 ((endC (h 34 3) (h 34 4)) * 2 ^ ((h 34) 5).toNat))) 38 = h 38 from sOf_ne _ _ (by decide)] at o1_37
    rw [show (setO h 34 (fup (h 34) 4 ((endC (h 34 3) (h 34 4)) * 2 ^ ((h 34) 5).toNat))) 34 2 = (h 34) 2 from rd_ (sOf_eq _ _ _) (fup_ne _ _ (by decide))] at o2_37
    rw [show (setO h 34 (fup (h 34) 4 ((endC (h 34 3) (h 34 4)) * 2 ^ ((h 34) 5).toNat))) 34 4 = (endC (h 34 3) (h 34 4)) * 2 ^ ((h 34) 5).toNat from rd_ (sOf_eq _ _ _) (fup_eq _ _ _)] at o2_37
    rw [show (setO h 34 (fup (h 34) 4 ((endC (h 34 3) (h 34 4)) * 2 ^ ((h 34) 5).toNat))) 38 = h 38 from sOf_ne _ _ (by decide)] at o2_37
    rw [show (setO h 34 (fup (h 34) 4 ((endC (h 34 3) (h 34 4)) * 2 ^ ((h 34) 5).toNat))) 34 2 = (h 34) 2 from rd_ (sOf_eq _ _ _) (fup_ne _ _ (by decide))] at o3_37
    rw [show (setO h 34 (fup (h 34) 4 ((endC (h 34 3) (h 34 4)) * 2 ^ ((h 34) 5).toNat))) 34 4 = (endC (h 34 3) (h 34 4)) * 2 ^ ((h 34) 5).toNat from rd_ (sOf_eq _ _ _) (fup_eq _ _ _)] at o3_37
    rw [show (setO h 34 (fup (h 34) 4 ((endC (h 34 3) (h 34 4)) * 2 ^ ((h 34) 5).toNat))) 38 = h 38 from sOf_ne _ _ (by decide)] at o3_37
    rw [show (setO h 34 (fup (h 34) 4 ((endC (h 34 3) (h 34 4)) * 2 ^ ((h 34) 5).toNat))) 34 2 = (h 34) 2 from rd_ (sOf_eq _ _ _) (fup_ne _ _ (by decide))] at o4_37
    rw [show (setO h 34 (fup (h 34) 4 ((endC (h 34 3) (h 34 4)) * 2 ^ ((h 34) 5).toNat))) 34 4 = (endC (h 34 3) (h 34 4)) * 2 ^ ((h 34) 5).toNat from rd_ (sOf_eq _ _ _) (fup_eq _ _ _)] at o4_37
    rw [show (setO h 34 (fup (h 34) 4 ((endC (h 34 3) (h 34 4)) * 2 ^ ((h 34) 5).toNat))) 38 = h 38 from sOf_ne _ _ (by decide)] at o4_37
    have o0_at54 := o0_37
    have o1_at54 := o1_37
    have o2_at54 := o2_37
    have o3_at54 := o3_37
    have o4_at54 := o4_37
    show TT K ly 0 0 57 [(1, vI (((h 34) 4) + ((h 34) 3))), (0, vR 34)] [] g54_37
    refine TT_aload_n hK rfl 1 rfl dX8_end_57 ?_
    refine TT_dup hK rfl dX8_end_58 ?_
    refine gf_X8_33 hK (by decide) rfl (v := (g54_37 34) 4) rfl dX8_end_59 ?_
    have r38 := ty_34_4 (v := (g54_37 34) 4) hT_37 rfl
    refine TT_cgI (b := (outS (endC (h 34 3) (h 34 4) * 2 ^ (h 34 5).toNat) (h 34 2) (h 38)).1) (by exact o1_at54) ?_
    refine TT_aload_n hK rfl 1 rfl dX8_end_62 ?_
    refine gf_X8_36 hK (by decide) rfl (v := (g54_37 34) 5) rfl dX8_end_63 ?_
    have r39 := ty_34_5 (v := (g54_37 34) 5) hT_37 rfl
    refine TT_cgI (b := (outS (endC (h 34 3) (h 34 4) * 2 ^ (h 34 5).toNat) (h 34 2) (h 38)).2.1) (by exact o2_at54) ?_
    refine TT_ishl hK (by omega) (by omega) dX8_end_66 ?_
    refine pf_X8_33 hK (by decide) rfl dX8_end_67 ?_
    refine TT_hp (h' := setO g54_37 34 (fup (g54_37 34) 4 (((outS (endC (h 34 3) (h 34 4) * 2 ^ (h 34 5).toNat) (h 34 2) (h 38)).1) * 2 ^ ((outS (endC (h 34 3) (h 34 4) * 2 ^ (h 34 5).toNat) (h 34 2) (h 38)).2.1).toNat))) (up_can rfl rfl rfl) ?_
    have hT_40 : TY (setO g54_37 34 (fup (g54_37 34) 4 (((outS (endC (h 34 3) (h 34 4) * 2 ^ (h 34 5).toNat) (h 34 2) (h 38)).1) * 2 ^ ((outS (endC (h 34 3) (h 34 4) * 2 ^ (h 34 5).toNat) (h 34 2) (h 38)).2.1).toNat))) := tu_34_4 hT_37 (show up g54_37 34 4 (((outS (endC (h 34 3) (h 34 4) * 2 ^ (h 34 5).toNat) (h 34 2) (h 38)).1) * 2 ^ ((outS (endC (h 34 3) (h 34 4) * 2 ^ (h 34 5).toNat) (h 34 2) (h 38)).2.1).toNat) = (setO g54_37 34 (fup (g54_37 34) 4 (((outS (endC (h 34 3) (h 34 4) * 2 ^ (h 34 5).toNat) (h 34 2) (h 38)).1) * 2 ^ ((outS (endC (h 34 3) (h 34 4) * 2 ^ (h 34 5).toNat) (h 34 2) (h 38)).2.1).toNat))) from up_can rfl rfl rfl) (by omega)
    have hF_40 : FR [34, 38] h (setO g54_37 34 (fup (g54_37 34) 4 (((outS (endC (h 34 3) (h 34 4) * 2 ^ (h 34 5).toNat) (h 34 2) (h 38)).1) * 2 ^ ((outS (endC (h 34 3) (h 34 4) * 2 ^ (h 34 5).toNat) (h 34 2) (h 38)).2.1).toNat))) := FR_up (show up g54_37 34 4 (((outS (endC (h 34 3) (h 34 4) * 2 ^ (h 34 5).toNat) (h 34 2) (h 38)).1) * 2 ^ ((outS (endC (h 34 3) (h 34 4) * 2 ^ (h 34 5).toNat) (h 34 2) (h 38)).2.1).toNat) = (setO g54_37 34 (fup (g54_37 34) 4 (((outS (endC (h 34 3) (h 34 4) * 2 ^ (h 34 5).toNat) (h 34 2) (h 38)).1) * 2 ^ ((outS (endC (h 34 3) (h 34 4) * 2 ^ (h 34 5).toNat) (h 34 2) (h 38)).2.1).toNat))) from up_can rfl rfl rfl) hF_37 (by decide)
    refine TT_aload_n hK rfl 1 rfl dX8_end_70 ?_
    have e41_34_2 : (setO g54_37 34 (fup (g54_37 34) 4 (((outS (endC (h 34 3) (h 34 4) * 2 ^ (h 34 5).toNat) (h 34 2) (h 38)).1) * 2 ^ ((outS (endC (h 34 3) (h 34 4) * 2 ^ (h 34 5).toNat) (h 34 2) (h 38)).2.1).toNat))) 34 2 = (g54_37 34) 2 := rd_ (sOf_eq _ _ _) (fup_ne _ _ (by decide))
    have e42_34_2 : (setO g54_37 34 (fup (g54_37 34) 4 (((outS (endC (h 34 3) (h 34 4) * 2 ^ (h 34 5).toNat) (h 34 2) (h 38)).1) * 2 ^ ((outS (endC (h 34 3) (h 34 4) * 2 ^ (h 34 5).toNat) (h 34 2) (h 38)).2.1).toNat))) 34 2 = (g54_37 34) 2 := rd_ (sOf_eq _ _ _) (fup_ne _ _ (by decide))
    have e43_34_4 : (setO g54_37 34 (fup (g54_37 34) 4 (((outS (endC (h 34 3) (h 34 4) * 2 ^ (h 34 5).toNat) (h 34 2) (h 38)).1) * 2 ^ ((outS (endC (h 34 3) (h 34 4) * 2 ^ (h 34 5).toNat) (h 34 2) (h 38)).2.1).toNat))) 34 4 = ((outS (endC (h 34 3) (h 34 4) * 2 ^ (h 34 5).toNat) (h 34 2) (h 38)).1) * 2 ^ ((outS (endC (h 34 3) (h 34 4) * 2 ^ (h 34 5).toNat) (h 34 2) (h 38)).2.1).toNat := rd_ (sOf_eq _ _ _) (fup_eq _ _ _)
    have e44_34_2 : (setO g54_37 34 (fup (g54_37 34) 4 (((outS (endC (h 34 3) (h 34 4) * 2 ^ (h 34 5).toNat) (h 34 2) (h 38)).1) * 2 ^ ((outS (endC (h 34 3) (h 34 4) * 2 ^ (h 34 5).toNat) (h 34 2) (h 38)).2.1).toNat))) 34 2 = (g54_37 34) 2 := rd_ (sOf_eq _ _ _) (fup_ne _ _ (by decide))
    have e45_38 : (setO g54_37 34 (fup (g54_37 34) 4 (((outS (endC (h 34 3) (h 34 4) * 2 ^ (h 34 5).toNat) (h 34 2) (h 38)).1) * 2 ^ ((outS (endC (h 34 3) (h 34 4) * 2 ^ (h 34 5).toNat) (h 34 2) (h 38)).2.1).toNat))) 38 = g54_37 38 := sOf_ne _ _ (by decide)
    refine iv_X8_53 hK (s_goOut_e (setO g54_37 34 (fup (g54_37 34) 4 (((outS (endC (h 34 3) (h 34 4) * 2 ^ (h 34 5).toNat) (h 34 2) (h 38)).1) * 2 ^ ((outS (endC (h 34 3) (h 34 4) * 2 ^ (h 34 5).toNat) (h 34 2) (h 38)).2.1).toNat))) hT_40 (by rewrite [e41_34_2]; first | omega | (simp [up, setR] <;> omega)) (by rewrite [e42_34_2]; rw [o3_at54]; omega) (by rewrite [e43_34_4]; first | omega | (simp [up, setR] <;> omega)) (by rewrite [e44_34_2, e45_38]; rw [o3_at54, o4_at54, w91, show h 34 2 + 1 - 1 = h 34 2 by omega]; exact w93)) (by decide) rfl ⟨by decide, by decide⟩ (by decide) rfl rfl (Nat.le_of_ble_eq_true rfl) ⟨by decide, by decide⟩ dX8_end_71 ?_
    intro r9 g71_46 hp9
    obtain ⟨⟨hT_46, hG_46⟩, hr9, p1_46, p2_46, o0_46, o1_46, o2_46, o3_46, o4_46⟩ := hp9
    rw [hr9]
    have hF_46 : FR [34, 38] h g71_46 := FR_tr hF_40 hG_46 (by decide)
    rw [show (setO g54_37 34 (fup (g54_37 34) 4 (((outS (endC (h 34 3) (h 34 4) * 2 ^ (h 34 5).toNat) (h 34 2) (h 38)).1) * 2 ^ ((outS (endC (h 34 3) (h 34 4) * 2 ^ (h 34 5).toNat) (h 34 2) (h 38)).2.1).toNat))) 34 3 = (g54_37 34) 3 from rd_ (sOf_eq _ _ _) (fup_ne _ _ (by decide))] at o0_46
    rw [show (setO g54_37 34 (fup (g54_37 34) 4 (((outS (endC (h 34 3) (h 34 4) * 2 ^ (h 34 5).toNat) (h 34 2) (h 38)).1) * 2 ^ ((outS (endC (h 34 3) (h 34 4) * 2 ^ (h 34 5).toNat) (h 34 2) (h 38)).2.1).toNat))) 34 2 = (g54_37 34) 2 from rd_ (sOf_eq _ _ _) (fup_ne _ _ (by decide))] at o1_46
    rw [show (setO g54_37 34 (fup (g54_37 34) 4 (((outS (endC (h 34 3) (h 34 4) * 2 ^ (h 34 5).toNat) (h 34 2) (h 38)).1) * 2 ^ ((outS (endC (h 34 3) (h 34 4) * 2 ^ (h 34 5).toNat) (h 34 2) (h 38)).2.1).toNat))) 34 4 = ((outS (endC (h 34 3) (h 34 4) * 2 ^ (h 34 5).toNat) (h 34 2) (h 38)).1) * 2 ^ ((outS (endC (h 34 3) (h 34 4) * 2 ^ (h 34 5).toNat) (h 34 2) (h 38)).2.1).toNat from rd_ (sOf_eq _ _ _) (fup_eq _ _ _)] at o1_46
    rw [show (setO g54_37 34 (fup (g54_37 34) 4 (((outS (endC (h 34 3) (h 34 4) * 2 ^ (h 34 5).toNat) (h 34 2) (h 38)).1) * 2 ^ ((outS (endC (h 34 3) (h 34 4) * 2 ^ (h 34 5).toNat) (h 34 2) (h 38)).2.1).toNat))) 38 = g54_37 38 from sOf_ne _ _ (by decide)] at o1_46
    rw [show (setO g54_37 34 (fup (g54_37 34) 4 (((outS (endC (h 34 3) (h 34 4) * 2 ^ (h 34 5).toNat) (h 34 2) (h 38)).1) * 2 ^ ((outS (endC (h 34 3) (h 34 4) * 2 ^ (h 34 5).toNat) (h 34 2) (h 38)).2.1).toNat))) 34 2 = (g54_37 34) 2 from rd_ (sOf_eq _ _ _) (fup_ne _ _ (by decide))] at o2_46
    rw [show (setO g54_37 34 (fup (g54_37 34) 4 (((outS (endC (h 34 3) (h 34 4) * 2 ^ (h 34 5).toNat) (h 34 2) (h 38)).1) * 2 ^ ((outS (endC (h 34 3) (h 34 4) * 2 ^ (h 34 5).toNat) (h 34 2) (h 38)).2.1).toNat))) 34 4 = ((outS (endC (h 34 3) (h 34 4) * 2 ^ (h 34 5).toNat) (h 34 2) (h 38)).1) * 2 ^ ((outS (endC (h 34 3) (h 34 4) * 2 ^ (h 34 5).toNat) (h 34 2) (h 38)).2.1).toNat from rd_ (sOf_eq _ _ _) (fup_eq _ _ _)] at o2_46
    rw [show (setO g54_37 34 (fup (g54_37 34) 4 (((outS (endC (h 34 3) (h 34 4) * 2 ^ (h 34 5).toNat) (h 34 2) (h 38)).1) * 2 ^ ((outS (endC (h 34 3) (h 34 4) * 2 ^ (h 34 5).toNat) (h 34 2) (h 38)).2.1).toNat))) 38 = g54_37 38 from sOf_ne _ _ (by decide)] at o2_46
    rw [show (setO g54_37 34 (fup (g54_37 34) 4 (((outS (endC (h 34 3) (h 34 4) * 2 ^ (h 34 5).toNat) (h 34 2) (h 38)).1) * 2 ^ ((outS (endC (h 34 3) (h 34 4) * 2 ^ (h 34 5).toNat) (h 34 2) (h 38)).2.1).toNat))) 34 2 = (g54_37 34) 2 from rd_ (sOf_eq _ _ _) (fup_ne _ _ (by decide))] at o3_46
    rw [show (setO g54_37 34 (fup (g54_37 34) 4 (((outS (endC (h 34 3) (h 34 4) * 2 ^ (h 34 5).toNat) (h 34 2) (h 38)).1) * 2 ^ ((outS (endC (h 34 3) (h 34 4) * 2 ^ (h 34 5).toNat) (h 34 2) (h 38)).2.1).toNat))) 34 4 = ((outS (endC (h 34 3) (h 34 4) * 2 ^ (h 34 5).toNat) (h 34 2) (h 38)).1) * 2 ^ ((outS (endC (h 34 3) (h 34 4) * 2 ^ (h 34 5).toNat) (h 34 2) (h 38)).2.1).toNat from rd_ (sOf_eq _ _ _) (fup_eq _ _ _)] at o3_46
    rw [show (setO g54_37 34 (fup (g54_37 34) 4 (((outS (endC (h 34 3) (h 34 4) * 2 ^ (h 34 5).toNat) (h 34 2) (h 38)).1) * 2 ^ ((outS (endC (h 34 3) (h 34 4) * 2 ^ (h 34 5).toNat) (h 34 2) (h 38)).2.1).toNat))) 38 = g54_37 38 from sOf_ne _ _ (by decide)] at o3_46
    rw [show (setO g54_37 34 (fup (g54_37 34) 4 (((outS (endC (h 34 3) (h 34 4) * 2 ^ (h 34 5).toNat) (h 34 2) (h 38)).1) * 2 ^ ((outS (endC (h 34 3) (h 34 4) * 2 ^ (h 34 5).toNat) (h 34 2) (h 38)).2.1).toNat))) 34 2 = (g54_37 34) 2 from rd_ (sOf_eq _ _ _) (fup_ne _ _ (by decide))] at o4_46
    rw [show (setO g54_37 34 (fup (g54_37 34) 4 (((outS (endC (h 34 3) (h 34 4) * 2 ^ (h 34 5).toNat) (h 34 2) (h 38)).1) * 2 ^ ((outS (endC (h 34 3) (h 34 4) * 2 ^ (h 34 5).toNat) (h 34 2) (h 38)).2.1).toNat))) 34 4 = ((outS (endC (h 34 3) (h 34 4) * 2 ^ (h 34 5).toNat) (h 34 2) (h 38)).1) * 2 ^ ((outS (endC (h 34 3) (h 34 4) * 2 ^ (h 34 5).toNat) (h 34 2) (h 38)).2.1).toNat from rd_ (sOf_eq _ _ _) (fup_eq _ _ _)] at o4_46
    rw [show (setO g54_37 34 (fup (g54_37 34) 4 (((outS (endC (h 34 3) (h 34 4) * 2 ^ (h 34 5).toNat) (h 34 2) (h 38)).1) * 2 ^ ((outS (endC (h 34 3) (h 34 4) * 2 ^ (h 34 5).toNat) (h 34 2) (h 38)).2.1).toNat))) 38 = g54_37 38 from sOf_ne _ _ (by decide)] at o4_46
    have o0_at71 := o0_46
    have o1_at71 := o1_46
    have o2_at71 := o2_46
    have o3_at71 := o3_46
    have o4_at71 := o4_46
    show TT K ly 0 0 74 [(1, vI (((h 34) 4) + ((h 34) 3))), (0, vR 34)] [] g71_46
    refine TT_vret hK hQ ?_ dX8_end_74
    have e47_34_5 : g71_46 34 5 = (g71_46 34) 5 := rfl
    have e48_34_2 : g71_46 34 2 = (g71_46 34) 2 := rfl
    have e49_34_2 : g71_46 34 2 = (g71_46 34) 2 := rfl
    have e50_34_4 : g71_46 34 4 = (g71_46 34) 4 := rfl
    have e51_34_5 : g71_46 34 5 = (g71_46 34) 5 := rfl
    exact ⟨⟨hT_46, hF_46⟩, rfl, (by rewrite [e47_34_5]; omega), (by rewrite [e48_34_2]; omega), (by rewrite [e49_34_2, e50_34_4, e51_34_5]; unfold endS; rw [o1_at71, o2_at71, o3_at71, o4_at71, o3_at54, o4_at54])⟩

theorem S_all : ∀ n : Fin 47, qT (n.val : Int) = qS (n.val : Int) ∧ pT (n.val : Int) = nmS (n.val : Int) * 100 + nlS (n.val : Int) := by decide +kernel
theorem qT_S {s : Int} (h : 0 ≤ s ∧ s < 47) : qT s = qS s := by
  obtain ⟨n, rfl⟩ := Int.eq_ofNat_of_zero_le h.1
  exact (S_all ⟨n, by omega⟩).1
theorem pT_S {s : Int} (h : 0 ≤ s ∧ s < 47) : pT s = nmS s * 100 + nlS s := by
  obtain ⟨n, rfl⟩ := Int.eq_ofNat_of_zero_le h.1
  exact (S_all ⟨n, by omega⟩).2
set_option maxRecDepth 20000 in
theorem s_learn_e (x o : Int) (h : Hp_) (hT : TY h) (hx : 0 ≤ x ∧ x ≤ 18) (ho : 0 ≤ o ∧ o ≤ 1) (htb : TBL (h 74) (h 75)) : Ctr yX12_learn cX12_learn 4 none (rmd 0) ly ly 0 0 [vR 73, vI x, vI o] h (fun r h' => (TY h' ∧ FRM [96, 97] [] h h') ∧ r = none ∧ (PhS (h' 96) = PhS (h 96) - phS ((h 96) x) + phS (if o = 0 then (h 75) ((h 96) x) / 100 else (h 75) ((h 96) x) % 100)) ∧ ((h' 96) = lrS (h 96) x (o = (1 : Int))) ∧ ((h' 97) = lrL (h 96) (h 97) x (o = (1 : Int)))) := by
  refine Ctr_of (by decide) (Nat.le_of_ble_eq_true rfl) ⟨Nat.le_refl _, Nat.le_refl _⟩ (fun K hK hQ _ => ?_)
  show TT K ly 0 0 0 [(0, vR 73), (1, vI x), (2, vI o)] [] h
  have hF : FRM [96, 97] [] h h := FRM_rf _ _ _
  have hs0 := ty_96 (i := x) (v := h 96 x) hT rfl (by omega) (by omega)
  have hs : 0 ≤ h 96 x ∧ h 96 x < 47 := by omega
  have ht := tab_r hs
  have hl := ty_97 (i := x) (v := h 97 x) hT rfl (by omega) (by omega)
  have tx : h 75 (h 96 x) = nmS (h 96 x) * 100 + nlS (h 96 x) := (htb _ hs.1 hs.2).2.trans (pT_S hs)
  refine TT_aload_n hK rfl 0 rfl dX12_learn_0 ?_
  refine gf_X12_84 hK (by decide) rfl (q := 96) rfl rfl dX12_learn_1 ?_
  refine TT_iload_n hK rfl 1 rfl dX12_learn_4 ?_
  refine TT_iald hK (o := 96) (n := 19) (by decide) rfl (by first | omega | (simp [up, setR] <;> omega)) (by first | omega | (simp [up, setR] <;> omega)) (v := (h 96) x) rfl dX12_learn_5 ?_
  have r1 := ty_96 (i := x) (v := (h 96) x) hT rfl (by omega) (by omega)
  refine TT_istore_n hK rfl (lv' := [(3, vI ((h 96) x)), (0, vR 73), (1, vI x), (2, vI o)]) (by decide) rfl dX12_learn_6 ?_
  have tq := TBL_r htb (s := h 96 x) (by omega) (by omega)
  refine TT_iload_n hK rfl 3 rfl dX12_learn_7 ?_
  refine TT_if_eq hK (tgt := 41) (irm (by omega) (by omega)) dX12_learn_8 (by decide) (fun hb8_2 => ?_) (fun hb8_2 => ?_)
  · refine TT_aload_n hK rfl 1 rfl dX12_learn_41 ?_
    refine gf_X12_84 hK (by decide) rfl (q := 96) rfl rfl dX12_learn_42 ?_
    refine TT_iload_n hK rfl 2 rfl dX12_learn_45 ?_
    refine TT_iload_n hK rfl 3 rfl dX12_learn_46 ?_
    refine TT_if_eq hK (tgt := 62) (irm (by omega) (by omega)) dX12_learn_47 (by decide) (fun hb47_3 => ?_) (fun hb47_3 => ?_)
    · refine TT_aload_n hK rfl 1 rfl dX12_learn_62 ?_
      refine gf_X12_13 hK (by decide) rfl (q := 75) rfl rfl dX12_learn_63 ?_
      refine TT_iload_n hK rfl 0 rfl dX12_learn_66 ?_
      refine TT_iald hK (o := 75) (n := 47) (by decide) rfl (by first | omega | (simp [up, setR] <;> omega)) (by first | omega | (simp [up, setR] <;> omega)) (v := (h 75) ((h 96) x)) rfl dX12_learn_67 ?_
      have r4 := ty_75 (i := (h 96) x) (v := (h 75) ((h 96) x)) hT rfl (by omega) (by omega)
      refine TT_bipush hK (by decide) dX12_learn_68 ?_
      refine TT_idivn hK (irm (by omega) (by omega)) (by decide) (by first | omega | (simp [up, setR] <;> omega)) (by first | omega | (simp [up, setR] <;> omega)) dX12_learn_70 ?_
      refine TT_cgI (b := nmS (h 96 x)) (by rw [tx]; omega) ?_
      refine TT_iast hK (o := 96) (n := 19) (by decide) rfl (by omega) (by omega) dX12_learn_71 ?_
      refine TT_hp (h' := setO h 96 (fup (h 96) x (nmS (h 96 x)))) (up_can rfl rfl rfl) ?_
      have hT_5 : TY (setO h 96 (fup (h 96) x (nmS (h 96 x)))) := tu_96 hT (show up h 96 x (nmS (h 96 x)) = (setO h 96 (fup (h 96) x (nmS (h 96 x)))) from up_can rfl rfl rfl) (by omega)
      have hF_5 : FRM [96, 97] [] h (setO h 96 (fup (h 96) x (nmS (h 96 x)))) := FRM_up (show up h 96 x (nmS (h 96 x)) = (setO h 96 (fup (h 96) x (nmS (h 96 x)))) from up_can rfl rfl rfl) hF (by decide) (by decide)
      refine TT_vret hK hQ ?_ dX12_learn_72
      have e6_96 : (setO h 96 (fup (h 96) x (nmS (h 96 x)))) 96 = fup (h 96) x (nmS (h 96 x)) := sOf_eq _ _ _
      have e7_96 : (setO h 96 (fup (h 96) x (nmS (h 96 x)))) 96 = fup (h 96) x (nmS (h 96 x)) := sOf_eq _ _ _
      have e8_97 : (setO h 96 (fup (h 96) x (nmS (h 96 x)))) 97 = h 97 := sOf_ne _ _ (by decide)
      exact ⟨⟨hT_5, hF_5⟩, rfl, (by rewrite [e6_96]; rw [PhS_up (by omega)]; first | (rw [if_pos (by omega)]; rw [tx]; congr 2; omega) | (rw [if_neg (by omega)]; rw [tx]; congr 2; omega)), (by rewrite [e7_96]; unfold lrS; first | rw [if_pos (by omega)] | rw [if_neg (by omega)]), (by rewrite [e8_97]; unfold lrL; first | rw [if_pos (by omega)] | rw [if_neg (by omega)])⟩
    · exfalso; omega
  · refine TT_iload_n hK rfl 0 rfl dX12_learn_11 ?_
    refine TT_if_eq hK (tgt := 27) (irm (by omega) (by omega)) dX12_learn_12 (by decide) (fun hb12_9 => ?_) (fun hb12_9 => ?_)
    · refine TT_aload_n hK rfl 1 rfl dX12_learn_27 ?_
      refine gf_X12_87 hK (by decide) rfl (q := 97) rfl rfl dX12_learn_28 ?_
      refine TT_iload_n hK rfl 2 rfl dX12_learn_31 ?_
      refine TT_iconst hK dX12_learn_32 ?_
      refine TT_aload_n hK rfl 1 rfl dX12_learn_33 ?_
      refine gf_X12_87 hK (by decide) rfl (q := 97) rfl rfl dX12_learn_34 ?_
      refine TT_iload_n hK rfl 2 rfl dX12_learn_37 ?_
      refine TT_iald hK (o := 97) (n := 19) (by decide) rfl (by first | omega | (simp [up, setR] <;> omega)) (by first | omega | (simp [up, setR] <;> omega)) (v := (h 97) x) rfl dX12_learn_38 ?_
      have r10 := ty_97 (i := x) (v := (h 97) x) hT rfl (by omega) (by omega)
      refine TT_isub hK dX12_learn_39 ?_
      refine TT_iast hK (o := 97) (n := 19) (by decide) rfl (by omega) (by omega) dX12_learn_40 ?_
      refine TT_hp (h' := setO h 97 (fup (h 97) x (1 - ((h 97) x)))) (up_can rfl rfl rfl) ?_
      have hT_11 : TY (setO h 97 (fup (h 97) x (1 - ((h 97) x)))) := tu_97 hT (show up h 97 x (1 - ((h 97) x)) = (setO h 97 (fup (h 97) x (1 - ((h 97) x)))) from up_can rfl rfl rfl) (by omega)
      have hF_11 : FRM [96, 97] [] h (setO h 97 (fup (h 97) x (1 - ((h 97) x)))) := FRM_up (show up h 97 x (1 - ((h 97) x)) = (setO h 97 (fup (h 97) x (1 - ((h 97) x)))) from up_can rfl rfl rfl) hF (by decide) (by decide)
      refine TT_aload_n hK rfl 1 rfl dX12_learn_41 ?_
      refine gf_X12_84 hK (by decide) rfl (q := 96) rfl rfl dX12_learn_42 ?_
      refine TT_iload_n hK rfl 2 rfl dX12_learn_45 ?_
      refine TT_iload_n hK rfl 3 rfl dX12_learn_46 ?_
      refine TT_if_eq hK (tgt := 62) (irm (by omega) (by omega)) dX12_learn_47 (by decide) (fun hb47_12 => ?_) (fun hb47_12 => ?_)
      · exfalso; omega
      · refine TT_aload_n hK rfl 1 rfl dX12_learn_50 ?_
        refine gf_X12_13 hK (by decide) rfl (q := 75) rfl rfl dX12_learn_51 ?_
        refine TT_iload_n hK rfl 0 rfl dX12_learn_54 ?_
        refine TT_iald hK (o := 75) (n := 47) (by decide) rfl (by first | omega | (simp [up, setR] <;> omega)) (by first | omega | (simp [up, setR] <;> omega)) (v := (h 75) ((h 96) x)) (rd_ (sOf_ne _ _ (by decide)) rfl) dX12_learn_55 ?_
        have r13 := ty_75 (i := (h 96) x) (v := (h 75) ((h 96) x)) hT_11 (rd_ (sOf_ne _ _ (by decide)) rfl) (by omega) (by omega)
        refine TT_bipush hK (by decide) dX12_learn_56 ?_
        refine TT_iremn hK (irm (by omega) (by omega)) (by decide) (by first | omega | (simp [up, setR] <;> omega)) (by first | omega | (simp [up, setR] <;> omega)) dX12_learn_58 ?_
        refine TT_cgI (b := nlS (h 96 x)) (by rw [tx]; omega) ?_
        refine TT_goto hK (tgt := 71) dX12_learn_59 (by decide) ?_
        refine TT_iast hK (o := 96) (n := 19) (by decide) rfl (by omega) (by omega) dX12_learn_71 ?_
        refine TT_hp (h' := setO (setO h 96 (fup (h 96) x (nlS (h 96 x)))) 97 (fup (h 97) x (1 - ((h 97) x)))) (up_can (sOf_ne _ _ (by decide)) rfl ((setO_comm _ _ _ (by decide)).trans (setO_cg rfl rfl))) ?_
        have hT_14 : TY (setO (setO h 96 (fup (h 96) x (nlS (h 96 x)))) 97 (fup (h 97) x (1 - ((h 97) x)))) := tu_96 hT_11 (show up (setO h 97 (fup (h 97) x (1 - ((h 97) x)))) 96 x (nlS (h 96 x)) = (setO (setO h 96 (fup (h 96) x (nlS (h 96 x)))) 97 (fup (h 97) x (1 - ((h 97) x)))) from up_can (sOf_ne _ _ (by decide)) rfl ((setO_comm _ _ _ (by decide)).trans (setO_cg rfl rfl))) (by omega)
        have hF_14 : FRM [96, 97] [] h (setO (setO h 96 (fup (h 96) x (nlS (h 96 x)))) 97 (fup (h 97) x (1 - ((h 97) x)))) := FRM_up (show up (setO h 97 (fup (h 97) x (1 - ((h 97) x)))) 96 x (nlS (h 96 x)) = (setO (setO h 96 (fup (h 96) x (nlS (h 96 x)))) 97 (fup (h 97) x (1 - ((h 97) x)))) from up_can (sOf_ne _ _ (by decide)) rfl ((setO_comm _ _ _ (by decide)).trans (setO_cg rfl rfl))) hF_11 (by decide) (by decide)
        refine TT_vret hK hQ ?_ dX12_learn_72
        have e15_96 : (setO (setO h 96 (fup (h 96) x (nlS (h 96 x)))) 97 (fup (h 97) x (1 - ((h 97) x)))) 96 = fup (h 96) x (nlS (h 96 x)) := (sOf_ne _ _ (by decide)).trans (sOf_eq _ _ _)
        have e16_96 : (setO (setO h 96 (fup (h 96) x (nlS (h 96 x)))) 97 (fup (h 97) x (1 - ((h 97) x)))) 96 = fup (h 96) x (nlS (h 96 x)) := (sOf_ne _ _ (by decide)).trans (sOf_eq _ _ _)
        have e17_97 : (setO (setO h 96 (fup (h 96) x (nlS (h 96 x)))) 97 (fup (h 97) x (1 - ((h 97) x)))) 97 = fup (h 97) x (1 - ((h 97) x)) := sOf_eq _ _ _
        exact ⟨⟨hT_14, hF_14⟩, rfl, (by rewrite [e15_96]; rw [PhS_up (by omega)]; first | (rw [if_pos (by omega)]; rw [tx]; congr 2; omega) | (rw [if_neg (by omega)]; rw [tx]; congr 2; omega)), (by rewrite [e16_96]; unfold lrS; first | rw [if_pos (by omega)] | rw [if_neg (by omega)]), (by rewrite [e17_97]; unfold lrL; first | rw [if_pos (by omega)] | rw [if_neg (by omega)])⟩
    · refine TT_iload_n hK rfl 0 rfl dX12_learn_15 ?_
      refine TT_bipush hK (by decide) dX12_learn_16 ?_
      refine TT_icmp_eq hK (tgt := 27) (irm (by omega) (by omega)) (by decide) dX12_learn_18 (by decide) (fun hb18_18 => ?_) (fun hb18_18 => ?_)
      · refine TT_aload_n hK rfl 1 rfl dX12_learn_27 ?_
        refine gf_X12_87 hK (by decide) rfl (q := 97) rfl rfl dX12_learn_28 ?_
        refine TT_iload_n hK rfl 2 rfl dX12_learn_31 ?_
        refine TT_iconst hK dX12_learn_32 ?_
        refine TT_aload_n hK rfl 1 rfl dX12_learn_33 ?_
        refine gf_X12_87 hK (by decide) rfl (q := 97) rfl rfl dX12_learn_34 ?_
        refine TT_iload_n hK rfl 2 rfl dX12_learn_37 ?_
        refine TT_iald hK (o := 97) (n := 19) (by decide) rfl (by first | omega | (simp [up, setR] <;> omega)) (by first | omega | (simp [up, setR] <;> omega)) (v := (h 97) x) rfl dX12_learn_38 ?_
        have r19 := ty_97 (i := x) (v := (h 97) x) hT rfl (by omega) (by omega)
        refine TT_isub hK dX12_learn_39 ?_
        refine TT_iast hK (o := 97) (n := 19) (by decide) rfl (by omega) (by omega) dX12_learn_40 ?_
        refine TT_hp (h' := setO h 97 (fup (h 97) x (1 - ((h 97) x)))) (up_can rfl rfl rfl) ?_
        have hT_20 : TY (setO h 97 (fup (h 97) x (1 - ((h 97) x)))) := tu_97 hT (show up h 97 x (1 - ((h 97) x)) = (setO h 97 (fup (h 97) x (1 - ((h 97) x)))) from up_can rfl rfl rfl) (by omega)
        have hF_20 : FRM [96, 97] [] h (setO h 97 (fup (h 97) x (1 - ((h 97) x)))) := FRM_up (show up h 97 x (1 - ((h 97) x)) = (setO h 97 (fup (h 97) x (1 - ((h 97) x)))) from up_can rfl rfl rfl) hF (by decide) (by decide)
        refine TT_aload_n hK rfl 1 rfl dX12_learn_41 ?_
        refine gf_X12_84 hK (by decide) rfl (q := 96) rfl rfl dX12_learn_42 ?_
        refine TT_iload_n hK rfl 2 rfl dX12_learn_45 ?_
        refine TT_iload_n hK rfl 3 rfl dX12_learn_46 ?_
        refine TT_if_eq hK (tgt := 62) (irm (by omega) (by omega)) dX12_learn_47 (by decide) (fun hb47_21 => ?_) (fun hb47_21 => ?_)
        · exfalso; omega
        · refine TT_aload_n hK rfl 1 rfl dX12_learn_50 ?_
          refine gf_X12_13 hK (by decide) rfl (q := 75) rfl rfl dX12_learn_51 ?_
          refine TT_iload_n hK rfl 0 rfl dX12_learn_54 ?_
          refine TT_iald hK (o := 75) (n := 47) (by decide) rfl (by first | omega | (simp [up, setR] <;> omega)) (by first | omega | (simp [up, setR] <;> omega)) (v := (h 75) ((h 96) x)) (rd_ (sOf_ne _ _ (by decide)) rfl) dX12_learn_55 ?_
          have r22 := ty_75 (i := (h 96) x) (v := (h 75) ((h 96) x)) hT_20 (rd_ (sOf_ne _ _ (by decide)) rfl) (by omega) (by omega)
          refine TT_bipush hK (by decide) dX12_learn_56 ?_
          refine TT_iremn hK (irm (by omega) (by omega)) (by decide) (by first | omega | (simp [up, setR] <;> omega)) (by first | omega | (simp [up, setR] <;> omega)) dX12_learn_58 ?_
          refine TT_cgI (b := nlS (h 96 x)) (by rw [tx]; omega) ?_
          refine TT_goto hK (tgt := 71) dX12_learn_59 (by decide) ?_
          refine TT_iast hK (o := 96) (n := 19) (by decide) rfl (by omega) (by omega) dX12_learn_71 ?_
          refine TT_hp (h' := setO (setO h 96 (fup (h 96) x (nlS (h 96 x)))) 97 (fup (h 97) x (1 - ((h 97) x)))) (up_can (sOf_ne _ _ (by decide)) rfl ((setO_comm _ _ _ (by decide)).trans (setO_cg rfl rfl))) ?_
          have hT_23 : TY (setO (setO h 96 (fup (h 96) x (nlS (h 96 x)))) 97 (fup (h 97) x (1 - ((h 97) x)))) := tu_96 hT_20 (show up (setO h 97 (fup (h 97) x (1 - ((h 97) x)))) 96 x (nlS (h 96 x)) = (setO (setO h 96 (fup (h 96) x (nlS (h 96 x)))) 97 (fup (h 97) x (1 - ((h 97) x)))) from up_can (sOf_ne _ _ (by decide)) rfl ((setO_comm _ _ _ (by decide)).trans (setO_cg rfl rfl))) (by omega)
          have hF_23 : FRM [96, 97] [] h (setO (setO h 96 (fup (h 96) x (nlS (h 96 x)))) 97 (fup (h 97) x (1 - ((h 97) x)))) := FRM_up (show up (setO h 97 (fup (h 97) x (1 - ((h 97) x)))) 96 x (nlS (h 96 x)) = (setO (setO h 96 (fup (h 96) x (nlS (h 96 x)))) 97 (fup (h 97) x (1 - ((h 97) x)))) from up_can (sOf_ne _ _ (by decide)) rfl ((setO_comm _ _ _ (by decide)).trans (setO_cg rfl rfl))) hF_20 (by decide) (by decide)
          refine TT_vret hK hQ ?_ dX12_learn_72
          have e24_96 : (setO (setO h 96 (fup (h 96) x (nlS (h 96 x)))) 97 (fup (h 97) x (1 - ((h 97) x)))) 96 = fup (h 96) x (nlS (h 96 x)) := (sOf_ne _ _ (by decide)).trans (sOf_eq _ _ _)
          have e25_96 : (setO (setO h 96 (fup (h 96) x (nlS (h 96 x)))) 97 (fup (h 97) x (1 - ((h 97) x)))) 96 = fup (h 96) x (nlS (h 96 x)) := (sOf_ne _ _ (by decide)).trans (sOf_eq _ _ _)
          have e26_97 : (setO (setO h 96 (fup (h 96) x (nlS (h 96 x)))) 97 (fup (h 97) x (1 - ((h 97) x)))) 97 = fup (h 97) x (1 - ((h 97) x)) := sOf_eq _ _ _
          exact ⟨⟨hT_23, hF_23⟩, rfl, (by rewrite [e24_96]; rw [PhS_up (by omega)]; first | (rw [if_pos (by omega)]; rw [tx]; congr 2; omega) | (rw [if_neg (by omega)]; rw [tx]; congr 2; omega)), (by rewrite [e25_96]; unfold lrS; first | rw [if_pos (by omega)] | rw [if_neg (by omega)]), (by rewrite [e26_97]; unfold lrL; first | rw [if_pos (by omega)] | rw [if_neg (by omega)])⟩
      · refine TT_iload_n hK rfl 0 rfl dX12_learn_21 ?_
        refine TT_bipush hK (by decide) dX12_learn_22 ?_
        refine TT_icmp_ne hK (tgt := 41) (irm (by omega) (by omega)) (by decide) dX12_learn_24 (by decide) (fun hb24_27 => ?_) (fun hb24_27 => ?_)
        · refine TT_aload_n hK rfl 1 rfl dX12_learn_41 ?_
          refine gf_X12_84 hK (by decide) rfl (q := 96) rfl rfl dX12_learn_42 ?_
          refine TT_iload_n hK rfl 2 rfl dX12_learn_45 ?_
          refine TT_iload_n hK rfl 3 rfl dX12_learn_46 ?_
          refine TT_if_eq hK (tgt := 62) (irm (by omega) (by omega)) dX12_learn_47 (by decide) (fun hb47_28 => ?_) (fun hb47_28 => ?_)
          · exfalso; omega
          · refine TT_aload_n hK rfl 1 rfl dX12_learn_50 ?_
            refine gf_X12_13 hK (by decide) rfl (q := 75) rfl rfl dX12_learn_51 ?_
            refine TT_iload_n hK rfl 0 rfl dX12_learn_54 ?_
            refine TT_iald hK (o := 75) (n := 47) (by decide) rfl (by first | omega | (simp [up, setR] <;> omega)) (by first | omega | (simp [up, setR] <;> omega)) (v := (h 75) ((h 96) x)) rfl dX12_learn_55 ?_
            have r29 := ty_75 (i := (h 96) x) (v := (h 75) ((h 96) x)) hT rfl (by omega) (by omega)
            refine TT_bipush hK (by decide) dX12_learn_56 ?_
            refine TT_iremn hK (irm (by omega) (by omega)) (by decide) (by first | omega | (simp [up, setR] <;> omega)) (by first | omega | (simp [up, setR] <;> omega)) dX12_learn_58 ?_
            refine TT_cgI (b := nlS (h 96 x)) (by rw [tx]; omega) ?_
            refine TT_goto hK (tgt := 71) dX12_learn_59 (by decide) ?_
            refine TT_iast hK (o := 96) (n := 19) (by decide) rfl (by omega) (by omega) dX12_learn_71 ?_
            refine TT_hp (h' := setO h 96 (fup (h 96) x (nlS (h 96 x)))) (up_can rfl rfl rfl) ?_
            have hT_30 : TY (setO h 96 (fup (h 96) x (nlS (h 96 x)))) := tu_96 hT (show up h 96 x (nlS (h 96 x)) = (setO h 96 (fup (h 96) x (nlS (h 96 x)))) from up_can rfl rfl rfl) (by omega)
            have hF_30 : FRM [96, 97] [] h (setO h 96 (fup (h 96) x (nlS (h 96 x)))) := FRM_up (show up h 96 x (nlS (h 96 x)) = (setO h 96 (fup (h 96) x (nlS (h 96 x)))) from up_can rfl rfl rfl) hF (by decide) (by decide)
            refine TT_vret hK hQ ?_ dX12_learn_72
            have e31_96 : (setO h 96 (fup (h 96) x (nlS (h 96 x)))) 96 = fup (h 96) x (nlS (h 96 x)) := sOf_eq _ _ _
            have e32_96 : (setO h 96 (fup (h 96) x (nlS (h 96 x)))) 96 = fup (h 96) x (nlS (h 96 x)) := sOf_eq _ _ _
            have e33_97 : (setO h 96 (fup (h 96) x (nlS (h 96 x)))) 97 = h 97 := sOf_ne _ _ (by decide)
            exact ⟨⟨hT_30, hF_30⟩, rfl, (by rewrite [e31_96]; rw [PhS_up (by omega)]; first | (rw [if_pos (by omega)]; rw [tx]; congr 2; omega) | (rw [if_neg (by omega)]; rw [tx]; congr 2; omega)), (by rewrite [e32_96]; unfold lrS; first | rw [if_pos (by omega)] | rw [if_neg (by omega)]), (by rewrite [e33_97]; unfold lrL; first | rw [if_pos (by omega)] | rw [if_neg (by omega)])⟩
        · refine TT_aload_n hK rfl 1 rfl dX12_learn_27 ?_
          refine gf_X12_87 hK (by decide) rfl (q := 97) rfl rfl dX12_learn_28 ?_
          refine TT_iload_n hK rfl 2 rfl dX12_learn_31 ?_
          refine TT_iconst hK dX12_learn_32 ?_
          refine TT_aload_n hK rfl 1 rfl dX12_learn_33 ?_
          refine gf_X12_87 hK (by decide) rfl (q := 97) rfl rfl dX12_learn_34 ?_
          refine TT_iload_n hK rfl 2 rfl dX12_learn_37 ?_
          refine TT_iald hK (o := 97) (n := 19) (by decide) rfl (by first | omega | (simp [up, setR] <;> omega)) (by first | omega | (simp [up, setR] <;> omega)) (v := (h 97) x) rfl dX12_learn_38 ?_
          have r34 := ty_97 (i := x) (v := (h 97) x) hT rfl (by omega) (by omega)
          refine TT_isub hK dX12_learn_39 ?_
          refine TT_iast hK (o := 97) (n := 19) (by decide) rfl (by omega) (by omega) dX12_learn_40 ?_
          refine TT_hp (h' := setO h 97 (fup (h 97) x (1 - ((h 97) x)))) (up_can rfl rfl rfl) ?_
          have hT_35 : TY (setO h 97 (fup (h 97) x (1 - ((h 97) x)))) := tu_97 hT (show up h 97 x (1 - ((h 97) x)) = (setO h 97 (fup (h 97) x (1 - ((h 97) x)))) from up_can rfl rfl rfl) (by omega)
          have hF_35 : FRM [96, 97] [] h (setO h 97 (fup (h 97) x (1 - ((h 97) x)))) := FRM_up (show up h 97 x (1 - ((h 97) x)) = (setO h 97 (fup (h 97) x (1 - ((h 97) x)))) from up_can rfl rfl rfl) hF (by decide) (by decide)
          refine TT_aload_n hK rfl 1 rfl dX12_learn_41 ?_
          refine gf_X12_84 hK (by decide) rfl (q := 96) rfl rfl dX12_learn_42 ?_
          refine TT_iload_n hK rfl 2 rfl dX12_learn_45 ?_
          refine TT_iload_n hK rfl 3 rfl dX12_learn_46 ?_
          refine TT_if_eq hK (tgt := 62) (irm (by omega) (by omega)) dX12_learn_47 (by decide) (fun hb47_36 => ?_) (fun hb47_36 => ?_)
          · exfalso; omega
          · refine TT_aload_n hK rfl 1 rfl dX12_learn_50 ?_
            refine gf_X12_13 hK (by decide) rfl (q := 75) rfl rfl dX12_learn_51 ?_
            refine TT_iload_n hK rfl 0 rfl dX12_learn_54 ?_
            refine TT_iald hK (o := 75) (n := 47) (by decide) rfl (by first | omega | (simp [up, setR] <;> omega)) (by first | omega | (simp [up, setR] <;> omega)) (v := (h 75) ((h 96) x)) (rd_ (sOf_ne _ _ (by decide)) rfl) dX12_learn_55 ?_
            have r37 := ty_75 (i := (h 96) x) (v := (h 75) ((h 96) x)) hT_35 (rd_ (sOf_ne _ _ (by decide)) rfl) (by omega) (by omega)
            refine TT_bipush hK (by decide) dX12_learn_56 ?_
            refine TT_iremn hK (irm (by omega) (by omega)) (by decide) (by first | omega | (simp [up, setR] <;> omega)) (by first | omega | (simp [up, setR] <;> omega)) dX12_learn_58 ?_
            refine TT_cgI (b := nlS (h 96 x)) (by rw [tx]; omega) ?_
            refine TT_goto hK (tgt := 71) dX12_learn_59 (by decide) ?_
            refine TT_iast hK (o := 96) (n := 19) (by decide) rfl (by omega) (by omega) dX12_learn_71 ?_
            refine TT_hp (h' := setO (setO h 96 (fup (h 96) x (nlS (h 96 x)))) 97 (fup (h 97) x (1 - ((h 97) x)))) (up_can (sOf_ne _ _ (by decide)) rfl ((setO_comm _ _ _ (by decide)).trans (setO_cg rfl rfl))) ?_
            have hT_38 : TY (setO (setO h 96 (fup (h 96) x (nlS (h 96 x)))) 97 (fup (h 97) x (1 - ((h 97) x)))) := tu_96 hT_35 (show up (setO h 97 (fup (h 97) x (1 - ((h 97) x)))) 96 x (nlS (h 96 x)) = (setO (setO h 96 (fup (h 96) x (nlS (h 96 x)))) 97 (fup (h 97) x (1 - ((h 97) x)))) from up_can (sOf_ne _ _ (by decide)) rfl ((setO_comm _ _ _ (by decide)).trans (setO_cg rfl rfl))) (by omega)
            have hF_38 : FRM [96, 97] [] h (setO (setO h 96 (fup (h 96) x (nlS (h 96 x)))) 97 (fup (h 97) x (1 - ((h 97) x)))) := FRM_up (show up (setO h 97 (fup (h 97) x (1 - ((h 97) x)))) 96 x (nlS (h 96 x)) = (setO (setO h 96 (fup (h 96) x (nlS (h 96 x)))) 97 (fup (h 97) x (1 - ((h 97) x)))) from up_can (sOf_ne _ _ (by decide)) rfl ((setO_comm _ _ _ (by decide)).trans (setO_cg rfl rfl))) hF_35 (by decide) (by decide)
            refine TT_vret hK hQ ?_ dX12_learn_72
            have e39_96 : (setO (setO h 96 (fup (h 96) x (nlS (h 96 x)))) 97 (fup (h 97) x (1 - ((h 97) x)))) 96 = fup (h 96) x (nlS (h 96 x)) := (sOf_ne _ _ (by decide)).trans (sOf_eq _ _ _)
            have e40_96 : (setO (setO h 96 (fup (h 96) x (nlS (h 96 x)))) 97 (fup (h 97) x (1 - ((h 97) x)))) 96 = fup (h 96) x (nlS (h 96 x)) := (sOf_ne _ _ (by decide)).trans (sOf_eq _ _ _)
            have e41_97 : (setO (setO h 96 (fup (h 96) x (nlS (h 96 x)))) 97 (fup (h 97) x (1 - ((h 97) x)))) 97 = fup (h 97) x (1 - ((h 97) x)) := sOf_eq _ _ _
            exact ⟨⟨hT_38, hF_38⟩, rfl, (by rewrite [e39_96]; rw [PhS_up (by omega)]; first | (rw [if_pos (by omega)]; rw [tx]; congr 2; omega) | (rw [if_neg (by omega)]; rw [tx]; congr 2; omega)), (by rewrite [e40_96]; unfold lrS; first | rw [if_pos (by omega)] | rw [if_neg (by omega)]), (by rewrite [e41_97]; unfold lrL; first | rw [if_pos (by omega)] | rw [if_neg (by omega)])⟩
set_option maxRecDepth 20000 in
theorem s_putOut_e (h : Hp_) (hT : TY h) (hn : 1 ≤ (h 73 36) ∧ (h 73 36) ≤ 3199) (hc : 0 ≤ (h 73 33) ∧ (h 73 33) < 150994944) (hl : 0 ≤ (h 98) ((h 73 36) - 1) ∧ (h 98) ((h 73 36) - 1) ≤ 255) : Ctr yX12_putOut cX12_putOut 4 none (rmd 0) ly ly 0 0 [vR 73] h (fun r h' => (TY h' ∧ FRM [73, 98] [33, 34, 36] h h') ∧ r = none ∧ ((h' 73 36) = (h 73 36) + 1) ∧ (7 ≤ (h' 73 34)) ∧ ((h' 73 33) = (outS (h 73 33) (h 73 36) (h 98)).1) ∧ ((h' 73 34) = (outS (h 73 33) (h 73 36) (h 98)).2.1) ∧ ((h' 73 36) = (outS (h 73 33) (h 73 36) (h 98)).2.2.1) ∧ ((h' 98) = (outS (h 73 33) (h 73 36) (h 98)).2.2.2)) := by
  refine Ctr_of (by decide) (Nat.le_of_ble_eq_true rfl) ⟨Nat.le_refl _, Nat.le_refl _⟩ (fun K hK hQ _ => ?_)
  show TT K ly 0 0 0 [(0, vR 73)] [] h
  have hF : FRM [73, 98] [33, 34, 36] h h := FRM_rf _ _ _
  refine TT_aload_n hK rfl 0 rfl dX12_putOut_0 ?_
  refine gf_X12_90 hK (by decide) rfl (q := 98) rfl rfl dX12_putOut_1 ?_
  refine TT_aload_n hK rfl 0 rfl dX12_putOut_4 ?_
  refine gf_X12_166 hK (by decide) rfl (v := (h 73) 36) rfl dX12_putOut_5 ?_
  have r1 := ty_73_36 (v := (h 73) 36) hT rfl
  refine TT_iconst hK dX12_putOut_8 ?_
  refine TT_isub hK dX12_putOut_9 ?_
  refine TT_iald hK (o := 98) (n := 3200) (by decide) rfl (by first | omega | (simp [up, setR] <;> omega)) (by first | omega | (simp [up, setR] <;> omega)) (v := (h 98) (((h 73) 36) - 1)) rfl dX12_putOut_10 ?_
  have r2 := ty_98 (i := ((h 73) 36) - 1) (v := (h 98) (((h 73) 36) - 1)) hT rfl (by omega) (by omega)
  refine TT_sipush hK (by decide) dX12_putOut_11 ?_
  refine TT_icmp_eq hK (tgt := 79) (irm (by omega) (by omega)) (by decide) dX12_putOut_14 (by decide) (fun hb14_3 => ?_) (fun hb14_3 => ?_)
  · refine TT_aload_n hK rfl 0 rfl dX12_putOut_79 ?_
    refine gf_X12_90 hK (by decide) rfl (q := 98) rfl rfl dX12_putOut_80 ?_
    refine TT_aload_n hK rfl 0 rfl dX12_putOut_83 ?_
    refine gf_X12_166 hK (by decide) rfl (v := (h 73) 36) rfl dX12_putOut_84 ?_
    refine TT_iconst hK dX12_putOut_87 ?_
    refine TT_isub hK dX12_putOut_88 ?_
    refine TT_iald hK (o := 98) (n := 3200) (by decide) rfl (by first | omega | (simp [up, setR] <;> omega)) (by first | omega | (simp [up, setR] <;> omega)) (v := (h 98) (((h 73) 36) - 1)) rfl dX12_putOut_89 ?_
    refine TT_sipush hK (by decide) dX12_putOut_90 ?_
    refine TT_icmp_ne hK (tgt := 100) (irm (by omega) (by omega)) (by decide) dX12_putOut_93 (by decide) (fun hb93_4 => ?_) (fun hb93_4 => ?_)
    · exfalso; omega
    · refine TT_iconst hK dX12_putOut_96 ?_
      refine TT_goto hK (tgt := 101) dX12_putOut_97 (by decide) ?_
      refine TT_istore_n hK rfl (lv' := [(1, vI 1), (0, vR 73)]) (by decide) rfl dX12_putOut_101 ?_
      refine TT_iload_n hK rfl 0 rfl dX12_putOut_102 ?_
      refine TT_if_eq hK (tgt := 112) (by decide) dX12_putOut_103 (by decide) (fun hb103_5 => ?_) (fun hb103_5 => ?_)
      · exact absurd hb103_5 (by decide)
      · refine TT_ldc2 hK lc_X12_183 dX12_putOut_106 ?_
        refine TT_goto hK (tgt := 115) dX12_putOut_109 (by decide) ?_
        refine TT_lstore_n hK rfl (lv' := [(2, vJ 1048576), (1, vI 1), (0, vR 73)]) (by decide) rfl dX12_putOut_115 ?_
        refine TT_aload_n hK rfl 2 rfl dX12_putOut_116 ?_
        refine gf_X12_90 hK (by decide) rfl (q := 98) rfl rfl dX12_putOut_117 ?_
        refine TT_aload_n hK rfl 2 rfl dX12_putOut_120 ?_
        refine gf_X12_166 hK (by decide) rfl (v := (h 73) 36) rfl dX12_putOut_121 ?_
        refine TT_aload_n hK rfl 2 rfl dX12_putOut_124 ?_
        refine gf_X12_175 hK (by decide) rfl (v := (h 73) 33) rfl dX12_putOut_125 ?_
        have r6 := ty_73_33 (v := (h 73) 33) hT rfl
        refine TT_lload_n hK rfl 0 rfl dX12_putOut_128 ?_
        refine TT_ldivn hK (lrm (by omega) (by omega)) (by decide) (by first | omega | (simp [up, setR] <;> omega)) (by first | omega | (simp [up, setR] <;> omega)) dX12_putOut_129 ?_
        refine TT_ldc2 hK lc_X12_187 dX12_putOut_130 ?_
        refine TT_lremn hK (lrm (by omega) (by omega)) (by decide) (by first | omega | (simp [up, setR] <;> omega)) (by first | omega | (simp [up, setR] <;> omega)) dX12_putOut_133 ?_
        refine TT_l2i hK dX12_putOut_134 ?_
        refine TT_iast hK (o := 98) (n := 3200) (by decide) rfl (by omega) (by omega) dX12_putOut_135 ?_
        refine TT_hp (h' := setO h 98 (fup (h 98) ((h 73) 36) ((((h 73) 33) / 1048576) % 256))) (up_can rfl rfl rfl) ?_
        have hT_7 : TY (setO h 98 (fup (h 98) ((h 73) 36) ((((h 73) 33) / 1048576) % 256))) := tu_98 hT (show up h 98 ((h 73) 36) ((((h 73) 33) / 1048576) % 256) = (setO h 98 (fup (h 98) ((h 73) 36) ((((h 73) 33) / 1048576) % 256))) from up_can rfl rfl rfl) (by omega)
        have hF_7 : FRM [73, 98] [33, 34, 36] h (setO h 98 (fup (h 98) ((h 73) 36) ((((h 73) 33) / 1048576) % 256))) := FRM_up (show up h 98 ((h 73) 36) ((((h 73) 33) / 1048576) % 256) = (setO h 98 (fup (h 98) ((h 73) 36) ((((h 73) 33) / 1048576) % 256))) from up_can rfl rfl rfl) hF (by decide) (by decide)
        refine TT_aload_n hK rfl 2 rfl dX12_putOut_136 ?_
        refine TT_dup hK rfl dX12_putOut_137 ?_
        refine gf_X12_166 hK (by decide) rfl (v := (h 73) 36) (rd_ (sOf_ne _ _ (by decide)) rfl) dX12_putOut_138 ?_
        refine TT_iconst hK dX12_putOut_141 ?_
        refine TT_iadd hK dX12_putOut_142 ?_
        refine pf_X12_166 hK (by decide) rfl dX12_putOut_143 ?_
        refine TT_hp (h' := setO (setO h 73 (fup (h 73) 36 (((h 73) 36) + 1))) 98 (fup (h 98) ((h 73) 36) ((((h 73) 33) / 1048576) % 256))) (up_can (sOf_ne _ _ (by decide)) rfl ((setO_comm _ _ _ (by decide)).trans (setO_cg rfl rfl))) ?_
        have hT_8 : TY (setO (setO h 73 (fup (h 73) 36 (((h 73) 36) + 1))) 98 (fup (h 98) ((h 73) 36) ((((h 73) 33) / 1048576) % 256))) := tu_73_36 hT_7 (show up (setO h 98 (fup (h 98) ((h 73) 36) ((((h 73) 33) / 1048576) % 256))) 73 36 (((h 73) 36) + 1) = (setO (setO h 73 (fup (h 73) 36 (((h 73) 36) + 1))) 98 (fup (h 98) ((h 73) 36) ((((h 73) 33) / 1048576) % 256))) from up_can (sOf_ne _ _ (by decide)) rfl ((setO_comm _ _ _ (by decide)).trans (setO_cg rfl rfl))) (by omega)
        have hF_8 : FRM [73, 98] [33, 34, 36] h (setO (setO h 73 (fup (h 73) 36 (((h 73) 36) + 1))) 98 (fup (h 98) ((h 73) 36) ((((h 73) 33) / 1048576) % 256))) := FRM_f (show up (setO h 98 (fup (h 98) ((h 73) 36) ((((h 73) 33) / 1048576) % 256))) 73 36 (((h 73) 36) + 1) = (setO (setO h 73 (fup (h 73) 36 (((h 73) 36) + 1))) 98 (fup (h 98) ((h 73) 36) ((((h 73) 33) / 1048576) % 256))) from up_can (sOf_ne _ _ (by decide)) rfl ((setO_comm _ _ _ (by decide)).trans (setO_cg rfl rfl))) hF_7 (by decide) (by decide)
        refine TT_aload_n hK rfl 2 rfl dX12_putOut_146 ?_
        refine TT_aload_n hK rfl 2 rfl dX12_putOut_147 ?_
        refine gf_X12_175 hK (by decide) rfl (v := (h 73) 33) (rd_ ((sOf_ne _ _ (by decide)).trans (sOf_eq _ _ _)) (fup_ne _ _ (by decide))) dX12_putOut_148 ?_
        refine TT_lload_n hK rfl 0 rfl dX12_putOut_151 ?_
        refine TT_lremn hK (lrm (by omega) (by omega)) (by decide) (by first | omega | (simp [up, setR] <;> omega)) (by first | omega | (simp [up, setR] <;> omega)) dX12_putOut_152 ?_
        refine pf_X12_175 hK (by decide) rfl dX12_putOut_153 ?_
        refine TT_hp (h' := setO (setO h 73 (fup (fup (h 73) 33 (((h 73) 33) % 1048576)) 36 (((h 73) 36) + 1))) 98 (fup (h 98) ((h 73) 36) ((((h 73) 33) / 1048576) % 256))) (up_can ((sOf_ne _ _ (by decide)).trans (sOf_eq _ _ _)) (fup_comm _ _ _ (by decide)) ((setO_comm _ _ _ (by decide)).trans (setO_cg (setO_same _ _ _ _) rfl))) ?_
        have hT_9 : TY (setO (setO h 73 (fup (fup (h 73) 33 (((h 73) 33) % 1048576)) 36 (((h 73) 36) + 1))) 98 (fup (h 98) ((h 73) 36) ((((h 73) 33) / 1048576) % 256))) := tu_73_33 hT_8 (show up (setO (setO h 73 (fup (h 73) 36 (((h 73) 36) + 1))) 98 (fup (h 98) ((h 73) 36) ((((h 73) 33) / 1048576) % 256))) 73 33 (((h 73) 33) % 1048576) = (setO (setO h 73 (fup (fup (h 73) 33 (((h 73) 33) % 1048576)) 36 (((h 73) 36) + 1))) 98 (fup (h 98) ((h 73) 36) ((((h 73) 33) / 1048576) % 256))) from up_can ((sOf_ne _ _ (by decide)).trans (sOf_eq _ _ _)) (fup_comm _ _ _ (by decide)) ((setO_comm _ _ _ (by decide)).trans (setO_cg (setO_same _ _ _ _) rfl))) (by omega)
        have hF_9 : FRM [73, 98] [33, 34, 36] h (setO (setO h 73 (fup (fup (h 73) 33 (((h 73) 33) % 1048576)) 36 (((h 73) 36) + 1))) 98 (fup (h 98) ((h 73) 36) ((((h 73) 33) / 1048576) % 256))) := FRM_f (show up (setO (setO h 73 (fup (h 73) 36 (((h 73) 36) + 1))) 98 (fup (h 98) ((h 73) 36) ((((h 73) 33) / 1048576) % 256))) 73 33 (((h 73) 33) % 1048576) = (setO (setO h 73 (fup (fup (h 73) 33 (((h 73) 33) % 1048576)) 36 (((h 73) 36) + 1))) 98 (fup (h 98) ((h 73) 36) ((((h 73) 33) / 1048576) % 256))) from up_can ((sOf_ne _ _ (by decide)).trans (sOf_eq _ _ _)) (fup_comm _ _ _ (by decide)) ((setO_comm _ _ _ (by decide)).trans (setO_cg (setO_same _ _ _ _) rfl))) hF_8 (by decide) (by decide)
        refine TT_aload_n hK rfl 2 rfl dX12_putOut_156 ?_
        refine TT_iload_n hK rfl 1 rfl dX12_putOut_157 ?_
        refine TT_if_eq hK (tgt := 166) (by decide) dX12_putOut_158 (by decide) (fun hb158_10 => ?_) (fun hb158_10 => ?_)
        · exact absurd hb158_10 (by decide)
        · refine TT_bipush hK (by decide) dX12_putOut_161 ?_
          refine TT_goto hK (tgt := 168) dX12_putOut_163 (by decide) ?_
          refine pf_X12_178 hK (by decide) rfl dX12_putOut_168 ?_
          refine TT_hp (h' := setO (setO h 73 (fup (fup (fup (h 73) 33 (((h 73) 33) % 1048576)) 34 7) 36 (((h 73) 36) + 1))) 98 (fup (h 98) ((h 73) 36) ((((h 73) 33) / 1048576) % 256))) (up_can ((sOf_ne _ _ (by decide)).trans (sOf_eq _ _ _)) (fup_comm _ _ _ (by decide)) ((setO_comm _ _ _ (by decide)).trans (setO_cg (setO_same _ _ _ _) rfl))) ?_
          have hT_11 : TY (setO (setO h 73 (fup (fup (fup (h 73) 33 (((h 73) 33) % 1048576)) 34 7) 36 (((h 73) 36) + 1))) 98 (fup (h 98) ((h 73) 36) ((((h 73) 33) / 1048576) % 256))) := tu_73_34 hT_9 (show up (setO (setO h 73 (fup (fup (h 73) 33 (((h 73) 33) % 1048576)) 36 (((h 73) 36) + 1))) 98 (fup (h 98) ((h 73) 36) ((((h 73) 33) / 1048576) % 256))) 73 34 7 = (setO (setO h 73 (fup (fup (fup (h 73) 33 (((h 73) 33) % 1048576)) 34 7) 36 (((h 73) 36) + 1))) 98 (fup (h 98) ((h 73) 36) ((((h 73) 33) / 1048576) % 256))) from up_can ((sOf_ne _ _ (by decide)).trans (sOf_eq _ _ _)) (fup_comm _ _ _ (by decide)) ((setO_comm _ _ _ (by decide)).trans (setO_cg (setO_same _ _ _ _) rfl))) (by omega)
          have hF_11 : FRM [73, 98] [33, 34, 36] h (setO (setO h 73 (fup (fup (fup (h 73) 33 (((h 73) 33) % 1048576)) 34 7) 36 (((h 73) 36) + 1))) 98 (fup (h 98) ((h 73) 36) ((((h 73) 33) / 1048576) % 256))) := FRM_f (show up (setO (setO h 73 (fup (fup (h 73) 33 (((h 73) 33) % 1048576)) 36 (((h 73) 36) + 1))) 98 (fup (h 98) ((h 73) 36) ((((h 73) 33) / 1048576) % 256))) 73 34 7 = (setO (setO h 73 (fup (fup (fup (h 73) 33 (((h 73) 33) % 1048576)) 34 7) 36 (((h 73) 36) + 1))) 98 (fup (h 98) ((h 73) 36) ((((h 73) 33) / 1048576) % 256))) from up_can ((sOf_ne _ _ (by decide)).trans (sOf_eq _ _ _)) (fup_comm _ _ _ (by decide)) ((setO_comm _ _ _ (by decide)).trans (setO_cg (setO_same _ _ _ _) rfl))) hF_9 (by decide) (by decide)
          refine TT_vret hK hQ ?_ dX12_putOut_171
          have e12_73_36 : (setO (setO h 73 (fup (fup (fup (h 73) 33 (((h 73) 33) % 1048576)) 34 7) 36 (((h 73) 36) + 1))) 98 (fup (h 98) ((h 73) 36) ((((h 73) 33) / 1048576) % 256))) 73 36 = ((h 73) 36) + 1 := rd_ ((sOf_ne _ _ (by decide)).trans (sOf_eq _ _ _)) (fup_eq _ _ _)
          have e13_73_34 : (setO (setO h 73 (fup (fup (fup (h 73) 33 (((h 73) 33) % 1048576)) 34 7) 36 (((h 73) 36) + 1))) 98 (fup (h 98) ((h 73) 36) ((((h 73) 33) / 1048576) % 256))) 73 34 = 7 := rd_ ((sOf_ne _ _ (by decide)).trans (sOf_eq _ _ _)) ((fup_ne _ _ (by decide)).trans (fup_eq _ _ _))
          have e14_73_33 : (setO (setO h 73 (fup (fup (fup (h 73) 33 (((h 73) 33) % 1048576)) 34 7) 36 (((h 73) 36) + 1))) 98 (fup (h 98) ((h 73) 36) ((((h 73) 33) / 1048576) % 256))) 73 33 = ((h 73) 33) % 1048576 := rd_ ((sOf_ne _ _ (by decide)).trans (sOf_eq _ _ _)) ((fup_ne _ _ (by decide)).trans ((fup_ne _ _ (by decide)).trans (fup_eq _ _ _)))
          have e15_73_34 : (setO (setO h 73 (fup (fup (fup (h 73) 33 (((h 73) 33) % 1048576)) 34 7) 36 (((h 73) 36) + 1))) 98 (fup (h 98) ((h 73) 36) ((((h 73) 33) / 1048576) % 256))) 73 34 = 7 := rd_ ((sOf_ne _ _ (by decide)).trans (sOf_eq _ _ _)) ((fup_ne _ _ (by decide)).trans (fup_eq _ _ _))
          have e16_73_36 : (setO (setO h 73 (fup (fup (fup (h 73) 33 (((h 73) 33) % 1048576)) 34 7) 36 (((h 73) 36) + 1))) 98 (fup (h 98) ((h 73) 36) ((((h 73) 33) / 1048576) % 256))) 73 36 = ((h 73) 36) + 1 := rd_ ((sOf_ne _ _ (by decide)).trans (sOf_eq _ _ _)) (fup_eq _ _ _)
          have e17_98 : (setO (setO h 73 (fup (fup (fup (h 73) 33 (((h 73) 33) % 1048576)) 34 7) 36 (((h 73) 36) + 1))) 98 (fup (h 98) ((h 73) 36) ((((h 73) 33) / 1048576) % 256))) 98 = fup (h 98) ((h 73) 36) ((((h 73) 33) / 1048576) % 256) := sOf_eq _ _ _
          exact ⟨⟨hT_11, hF_11⟩, rfl, (by rewrite [e12_73_36]; omega), (by rewrite [e13_73_34]; omega), (by rewrite [e14_73_33]; first | rw [outS_1 (by omega)] | rw [outS_2 (by omega) (by omega)] | rw [outS_3 (by omega) (by omega) (by omega)] | rw [outS_4 (by omega) (by omega) (by omega)]), (by rewrite [e15_73_34]; first | rw [outS_1 (by omega)] | rw [outS_2 (by omega) (by omega)] | rw [outS_3 (by omega) (by omega) (by omega)] | rw [outS_4 (by omega) (by omega) (by omega)]), (by rewrite [e16_73_36]; first | rw [outS_1 (by omega)] | rw [outS_2 (by omega) (by omega)] | rw [outS_3 (by omega) (by omega) (by omega)] | rw [outS_4 (by omega) (by omega) (by omega)]), (by rewrite [e17_98]; first | rw [outS_1 (by omega)] | rw [outS_2 (by omega) (by omega)] | rw [outS_3 (by omega) (by omega) (by omega)] | rw [outS_4 (by omega) (by omega) (by omega)])⟩
  · refine TT_aload_n hK rfl 0 rfl dX12_putOut_17 ?_
    refine gf_X12_175 hK (by decide) rfl (v := (h 73) 33) rfl dX12_putOut_18 ?_
    have r18 := ty_73_33 (v := (h 73) 33) hT rfl
    refine TT_ldc2 hK lc_X12_181 dX12_putOut_21 ?_
    refine TT_lcmp hK (lrm (by omega) (by omega)) (by decide) dX12_putOut_24 ?_
    refine TT_if_lt hK (tgt := 79) (lcmp_ir _ _) dX12_putOut_25 (by decide) (fun hb25_19 => ?_) (fun hb25_19 => ?_)
    · have hb25_19 := lcmp_lt hb25_19
      refine TT_aload_n hK rfl 0 rfl dX12_putOut_79 ?_
      refine gf_X12_90 hK (by decide) rfl (q := 98) rfl rfl dX12_putOut_80 ?_
      refine TT_aload_n hK rfl 0 rfl dX12_putOut_83 ?_
      refine gf_X12_166 hK (by decide) rfl (v := (h 73) 36) rfl dX12_putOut_84 ?_
      refine TT_iconst hK dX12_putOut_87 ?_
      refine TT_isub hK dX12_putOut_88 ?_
      refine TT_iald hK (o := 98) (n := 3200) (by decide) rfl (by first | omega | (simp [up, setR] <;> omega)) (by first | omega | (simp [up, setR] <;> omega)) (v := (h 98) (((h 73) 36) - 1)) rfl dX12_putOut_89 ?_
      refine TT_sipush hK (by decide) dX12_putOut_90 ?_
      refine TT_icmp_ne hK (tgt := 100) (irm (by omega) (by omega)) (by decide) dX12_putOut_93 (by decide) (fun hb93_20 => ?_) (fun hb93_20 => ?_)
      · refine TT_iconst hK dX12_putOut_100 ?_
        refine TT_istore_n hK rfl (lv' := [(1, vI 0), (0, vR 73)]) (by decide) rfl dX12_putOut_101 ?_
        refine TT_iload_n hK rfl 0 rfl dX12_putOut_102 ?_
        refine TT_if_eq hK (tgt := 112) (by decide) dX12_putOut_103 (by decide) (fun hb103_21 => ?_) (fun hb103_21 => ?_)
        · refine TT_ldc2 hK lc_X12_185 dX12_putOut_112 ?_
          refine TT_lstore_n hK rfl (lv' := [(2, vJ 524288), (1, vI 0), (0, vR 73)]) (by decide) rfl dX12_putOut_115 ?_
          refine TT_aload_n hK rfl 2 rfl dX12_putOut_116 ?_
          refine gf_X12_90 hK (by decide) rfl (q := 98) rfl rfl dX12_putOut_117 ?_
          refine TT_aload_n hK rfl 2 rfl dX12_putOut_120 ?_
          refine gf_X12_166 hK (by decide) rfl (v := (h 73) 36) rfl dX12_putOut_121 ?_
          refine TT_aload_n hK rfl 2 rfl dX12_putOut_124 ?_
          refine gf_X12_175 hK (by decide) rfl (v := (h 73) 33) rfl dX12_putOut_125 ?_
          refine TT_lload_n hK rfl 0 rfl dX12_putOut_128 ?_
          refine TT_ldivn hK (lrm (by omega) (by omega)) (by decide) (by first | omega | (simp [up, setR] <;> omega)) (by first | omega | (simp [up, setR] <;> omega)) dX12_putOut_129 ?_
          refine TT_ldc2 hK lc_X12_187 dX12_putOut_130 ?_
          refine TT_lremn hK (lrm (by omega) (by omega)) (by decide) (by first | omega | (simp [up, setR] <;> omega)) (by first | omega | (simp [up, setR] <;> omega)) dX12_putOut_133 ?_
          refine TT_l2i hK dX12_putOut_134 ?_
          refine TT_iast hK (o := 98) (n := 3200) (by decide) rfl (by omega) (by omega) dX12_putOut_135 ?_
          refine TT_hp (h' := setO h 98 (fup (h 98) ((h 73) 36) ((((h 73) 33) / 524288) % 256))) (up_can rfl rfl rfl) ?_
          have hT_22 : TY (setO h 98 (fup (h 98) ((h 73) 36) ((((h 73) 33) / 524288) % 256))) := tu_98 hT (show up h 98 ((h 73) 36) ((((h 73) 33) / 524288) % 256) = (setO h 98 (fup (h 98) ((h 73) 36) ((((h 73) 33) / 524288) % 256))) from up_can rfl rfl rfl) (by omega)
          have hF_22 : FRM [73, 98] [33, 34, 36] h (setO h 98 (fup (h 98) ((h 73) 36) ((((h 73) 33) / 524288) % 256))) := FRM_up (show up h 98 ((h 73) 36) ((((h 73) 33) / 524288) % 256) = (setO h 98 (fup (h 98) ((h 73) 36) ((((h 73) 33) / 524288) % 256))) from up_can rfl rfl rfl) hF (by decide) (by decide)
          refine TT_aload_n hK rfl 2 rfl dX12_putOut_136 ?_
          refine TT_dup hK rfl dX12_putOut_137 ?_
          refine gf_X12_166 hK (by decide) rfl (v := (h 73) 36) (rd_ (sOf_ne _ _ (by decide)) rfl) dX12_putOut_138 ?_
          refine TT_iconst hK dX12_putOut_141 ?_
          refine TT_iadd hK dX12_putOut_142 ?_
          refine pf_X12_166 hK (by decide) rfl dX12_putOut_143 ?_
          refine TT_hp (h' := setO (setO h 73 (fup (h 73) 36 (((h 73) 36) + 1))) 98 (fup (h 98) ((h 73) 36) ((((h 73) 33) / 524288) % 256))) (up_can (sOf_ne _ _ (by decide)) rfl ((setO_comm _ _ _ (by decide)).trans (setO_cg rfl rfl))) ?_
          have hT_23 : TY (setO (setO h 73 (fup (h 73) 36 (((h 73) 36) + 1))) 98 (fup (h 98) ((h 73) 36) ((((h 73) 33) / 524288) % 256))) := tu_73_36 hT_22 (show up (setO h 98 (fup (h 98) ((h 73) 36) ((((h 73) 33) / 524288) % 256))) 73 36 (((h 73) 36) + 1) = (setO (setO h 73 (fup (h 73) 36 (((h 73) 36) + 1))) 98 (fup (h 98) ((h 73) 36) ((((h 73) 33) / 524288) % 256))) from up_can (sOf_ne _ _ (by decide)) rfl ((setO_comm _ _ _ (by decide)).trans (setO_cg rfl rfl))) (by omega)
          have hF_23 : FRM [73, 98] [33, 34, 36] h (setO (setO h 73 (fup (h 73) 36 (((h 73) 36) + 1))) 98 (fup (h 98) ((h 73) 36) ((((h 73) 33) / 524288) % 256))) := FRM_f (show up (setO h 98 (fup (h 98) ((h 73) 36) ((((h 73) 33) / 524288) % 256))) 73 36 (((h 73) 36) + 1) = (setO (setO h 73 (fup (h 73) 36 (((h 73) 36) + 1))) 98 (fup (h 98) ((h 73) 36) ((((h 73) 33) / 524288) % 256))) from up_can (sOf_ne _ _ (by decide)) rfl ((setO_comm _ _ _ (by decide)).trans (setO_cg rfl rfl))) hF_22 (by decide) (by decide)
          refine TT_aload_n hK rfl 2 rfl dX12_putOut_146 ?_
          refine TT_aload_n hK rfl 2 rfl dX12_putOut_147 ?_
          refine gf_X12_175 hK (by decide) rfl (v := (h 73) 33) (rd_ ((sOf_ne _ _ (by decide)).trans (sOf_eq _ _ _)) (fup_ne _ _ (by decide))) dX12_putOut_148 ?_
          refine TT_lload_n hK rfl 0 rfl dX12_putOut_151 ?_
          refine TT_lremn hK (lrm (by omega) (by omega)) (by decide) (by first | omega | (simp [up, setR] <;> omega)) (by first | omega | (simp [up, setR] <;> omega)) dX12_putOut_152 ?_
          refine pf_X12_175 hK (by decide) rfl dX12_putOut_153 ?_
          refine TT_hp (h' := setO (setO h 73 (fup (fup (h 73) 33 (((h 73) 33) % 524288)) 36 (((h 73) 36) + 1))) 98 (fup (h 98) ((h 73) 36) ((((h 73) 33) / 524288) % 256))) (up_can ((sOf_ne _ _ (by decide)).trans (sOf_eq _ _ _)) (fup_comm _ _ _ (by decide)) ((setO_comm _ _ _ (by decide)).trans (setO_cg (setO_same _ _ _ _) rfl))) ?_
          have hT_24 : TY (setO (setO h 73 (fup (fup (h 73) 33 (((h 73) 33) % 524288)) 36 (((h 73) 36) + 1))) 98 (fup (h 98) ((h 73) 36) ((((h 73) 33) / 524288) % 256))) := tu_73_33 hT_23 (show up (setO (setO h 73 (fup (h 73) 36 (((h 73) 36) + 1))) 98 (fup (h 98) ((h 73) 36) ((((h 73) 33) / 524288) % 256))) 73 33 (((h 73) 33) % 524288) = (setO (setO h 73 (fup (fup (h 73) 33 (((h 73) 33) % 524288)) 36 (((h 73) 36) + 1))) 98 (fup (h 98) ((h 73) 36) ((((h 73) 33) / 524288) % 256))) from up_can ((sOf_ne _ _ (by decide)).trans (sOf_eq _ _ _)) (fup_comm _ _ _ (by decide)) ((setO_comm _ _ _ (by decide)).trans (setO_cg (setO_same _ _ _ _) rfl))) (by omega)
          have hF_24 : FRM [73, 98] [33, 34, 36] h (setO (setO h 73 (fup (fup (h 73) 33 (((h 73) 33) % 524288)) 36 (((h 73) 36) + 1))) 98 (fup (h 98) ((h 73) 36) ((((h 73) 33) / 524288) % 256))) := FRM_f (show up (setO (setO h 73 (fup (h 73) 36 (((h 73) 36) + 1))) 98 (fup (h 98) ((h 73) 36) ((((h 73) 33) / 524288) % 256))) 73 33 (((h 73) 33) % 524288) = (setO (setO h 73 (fup (fup (h 73) 33 (((h 73) 33) % 524288)) 36 (((h 73) 36) + 1))) 98 (fup (h 98) ((h 73) 36) ((((h 73) 33) / 524288) % 256))) from up_can ((sOf_ne _ _ (by decide)).trans (sOf_eq _ _ _)) (fup_comm _ _ _ (by decide)) ((setO_comm _ _ _ (by decide)).trans (setO_cg (setO_same _ _ _ _) rfl))) hF_23 (by decide) (by decide)
          refine TT_aload_n hK rfl 2 rfl dX12_putOut_156 ?_
          refine TT_iload_n hK rfl 1 rfl dX12_putOut_157 ?_
          refine TT_if_eq hK (tgt := 166) (by decide) dX12_putOut_158 (by decide) (fun hb158_25 => ?_) (fun hb158_25 => ?_)
          · refine TT_bipush hK (by decide) dX12_putOut_166 ?_
            refine pf_X12_178 hK (by decide) rfl dX12_putOut_168 ?_
            refine TT_hp (h' := setO (setO h 73 (fup (fup (fup (h 73) 33 (((h 73) 33) % 524288)) 34 8) 36 (((h 73) 36) + 1))) 98 (fup (h 98) ((h 73) 36) ((((h 73) 33) / 524288) % 256))) (up_can ((sOf_ne _ _ (by decide)).trans (sOf_eq _ _ _)) (fup_comm _ _ _ (by decide)) ((setO_comm _ _ _ (by decide)).trans (setO_cg (setO_same _ _ _ _) rfl))) ?_
            have hT_26 : TY (setO (setO h 73 (fup (fup (fup (h 73) 33 (((h 73) 33) % 524288)) 34 8) 36 (((h 73) 36) + 1))) 98 (fup (h 98) ((h 73) 36) ((((h 73) 33) / 524288) % 256))) := tu_73_34 hT_24 (show up (setO (setO h 73 (fup (fup (h 73) 33 (((h 73) 33) % 524288)) 36 (((h 73) 36) + 1))) 98 (fup (h 98) ((h 73) 36) ((((h 73) 33) / 524288) % 256))) 73 34 8 = (setO (setO h 73 (fup (fup (fup (h 73) 33 (((h 73) 33) % 524288)) 34 8) 36 (((h 73) 36) + 1))) 98 (fup (h 98) ((h 73) 36) ((((h 73) 33) / 524288) % 256))) from up_can ((sOf_ne _ _ (by decide)).trans (sOf_eq _ _ _)) (fup_comm _ _ _ (by decide)) ((setO_comm _ _ _ (by decide)).trans (setO_cg (setO_same _ _ _ _) rfl))) (by omega)
            have hF_26 : FRM [73, 98] [33, 34, 36] h (setO (setO h 73 (fup (fup (fup (h 73) 33 (((h 73) 33) % 524288)) 34 8) 36 (((h 73) 36) + 1))) 98 (fup (h 98) ((h 73) 36) ((((h 73) 33) / 524288) % 256))) := FRM_f (show up (setO (setO h 73 (fup (fup (h 73) 33 (((h 73) 33) % 524288)) 36 (((h 73) 36) + 1))) 98 (fup (h 98) ((h 73) 36) ((((h 73) 33) / 524288) % 256))) 73 34 8 = (setO (setO h 73 (fup (fup (fup (h 73) 33 (((h 73) 33) % 524288)) 34 8) 36 (((h 73) 36) + 1))) 98 (fup (h 98) ((h 73) 36) ((((h 73) 33) / 524288) % 256))) from up_can ((sOf_ne _ _ (by decide)).trans (sOf_eq _ _ _)) (fup_comm _ _ _ (by decide)) ((setO_comm _ _ _ (by decide)).trans (setO_cg (setO_same _ _ _ _) rfl))) hF_24 (by decide) (by decide)
            refine TT_vret hK hQ ?_ dX12_putOut_171
            have e27_73_36 : (setO (setO h 73 (fup (fup (fup (h 73) 33 (((h 73) 33) % 524288)) 34 8) 36 (((h 73) 36) + 1))) 98 (fup (h 98) ((h 73) 36) ((((h 73) 33) / 524288) % 256))) 73 36 = ((h 73) 36) + 1 := rd_ ((sOf_ne _ _ (by decide)).trans (sOf_eq _ _ _)) (fup_eq _ _ _)
            have e28_73_34 : (setO (setO h 73 (fup (fup (fup (h 73) 33 (((h 73) 33) % 524288)) 34 8) 36 (((h 73) 36) + 1))) 98 (fup (h 98) ((h 73) 36) ((((h 73) 33) / 524288) % 256))) 73 34 = 8 := rd_ ((sOf_ne _ _ (by decide)).trans (sOf_eq _ _ _)) ((fup_ne _ _ (by decide)).trans (fup_eq _ _ _))
            have e29_73_33 : (setO (setO h 73 (fup (fup (fup (h 73) 33 (((h 73) 33) % 524288)) 34 8) 36 (((h 73) 36) + 1))) 98 (fup (h 98) ((h 73) 36) ((((h 73) 33) / 524288) % 256))) 73 33 = ((h 73) 33) % 524288 := rd_ ((sOf_ne _ _ (by decide)).trans (sOf_eq _ _ _)) ((fup_ne _ _ (by decide)).trans ((fup_ne _ _ (by decide)).trans (fup_eq _ _ _)))
            have e30_73_34 : (setO (setO h 73 (fup (fup (fup (h 73) 33 (((h 73) 33) % 524288)) 34 8) 36 (((h 73) 36) + 1))) 98 (fup (h 98) ((h 73) 36) ((((h 73) 33) / 524288) % 256))) 73 34 = 8 := rd_ ((sOf_ne _ _ (by decide)).trans (sOf_eq _ _ _)) ((fup_ne _ _ (by decide)).trans (fup_eq _ _ _))
            have e31_73_36 : (setO (setO h 73 (fup (fup (fup (h 73) 33 (((h 73) 33) % 524288)) 34 8) 36 (((h 73) 36) + 1))) 98 (fup (h 98) ((h 73) 36) ((((h 73) 33) / 524288) % 256))) 73 36 = ((h 73) 36) + 1 := rd_ ((sOf_ne _ _ (by decide)).trans (sOf_eq _ _ _)) (fup_eq _ _ _)
            have e32_98 : (setO (setO h 73 (fup (fup (fup (h 73) 33 (((h 73) 33) % 524288)) 34 8) 36 (((h 73) 36) + 1))) 98 (fup (h 98) ((h 73) 36) ((((h 73) 33) / 524288) % 256))) 98 = fup (h 98) ((h 73) 36) ((((h 73) 33) / 524288) % 256) := sOf_eq _ _ _
            exact ⟨⟨hT_26, hF_26⟩, rfl, (by rewrite [e27_73_36]; omega), (by rewrite [e28_73_34]; omega), (by rewrite [e29_73_33]; first | rw [outS_1 (by omega)] | rw [outS_2 (by omega) (by omega)] | rw [outS_3 (by omega) (by omega) (by omega)] | rw [outS_4 (by omega) (by omega) (by omega)]), (by rewrite [e30_73_34]; first | rw [outS_1 (by omega)] | rw [outS_2 (by omega) (by omega)] | rw [outS_3 (by omega) (by omega) (by omega)] | rw [outS_4 (by omega) (by omega) (by omega)]), (by rewrite [e31_73_36]; first | rw [outS_1 (by omega)] | rw [outS_2 (by omega) (by omega)] | rw [outS_3 (by omega) (by omega) (by omega)] | rw [outS_4 (by omega) (by omega) (by omega)]), (by rewrite [e32_98]; first | rw [outS_1 (by omega)] | rw [outS_2 (by omega) (by omega)] | rw [outS_3 (by omega) (by omega) (by omega)] | rw [outS_4 (by omega) (by omega) (by omega)])⟩
          · exact absurd hb158_25 (by decide)
        · exact absurd hb103_21 (by decide)
      · exfalso; omega
    · have hb25_19 := lcmp_ge hb25_19
      refine TT_aload_n hK rfl 0 rfl dX12_putOut_28 ?_
      refine gf_X12_90 hK (by decide) rfl (q := 98) rfl rfl dX12_putOut_29 ?_
      refine TT_aload_n hK rfl 0 rfl dX12_putOut_32 ?_
      refine gf_X12_166 hK (by decide) rfl (v := (h 73) 36) rfl dX12_putOut_33 ?_
      refine TT_iconst hK dX12_putOut_36 ?_
      refine TT_isub hK dX12_putOut_37 ?_
      refine TT_dup2 hK rfl rfl dX12_putOut_38 ?_
      refine TT_iald hK (o := 98) (n := 3200) (by decide) rfl (by first | omega | (simp [up, setR] <;> omega)) (by first | omega | (simp [up, setR] <;> omega)) (v := (h 98) (((h 73) 36) - 1)) rfl dX12_putOut_39 ?_
      refine TT_iconst hK dX12_putOut_40 ?_
      refine TT_iadd hK dX12_putOut_41 ?_
      refine TT_iast hK (o := 98) (n := 3200) (by decide) rfl (by omega) (by omega) dX12_putOut_42 ?_
      refine TT_hp (h' := setO h 98 (fup (h 98) (((h 73) 36) - 1) (((h 98) (((h 73) 36) - 1)) + 1))) (up_can rfl rfl rfl) ?_
      have hT_33 : TY (setO h 98 (fup (h 98) (((h 73) 36) - 1) (((h 98) (((h 73) 36) - 1)) + 1))) := tu_98 hT (show up h 98 (((h 73) 36) - 1) (((h 98) (((h 73) 36) - 1)) + 1) = (setO h 98 (fup (h 98) (((h 73) 36) - 1) (((h 98) (((h 73) 36) - 1)) + 1))) from up_can rfl rfl rfl) (by omega)
      have hF_33 : FRM [73, 98] [33, 34, 36] h (setO h 98 (fup (h 98) (((h 73) 36) - 1) (((h 98) (((h 73) 36) - 1)) + 1))) := FRM_up (show up h 98 (((h 73) 36) - 1) (((h 98) (((h 73) 36) - 1)) + 1) = (setO h 98 (fup (h 98) (((h 73) 36) - 1) (((h 98) (((h 73) 36) - 1)) + 1))) from up_can rfl rfl rfl) hF (by decide) (by decide)
      refine TT_aload_n hK rfl 0 rfl dX12_putOut_43 ?_
      refine TT_aload_n hK rfl 0 rfl dX12_putOut_44 ?_
      refine gf_X12_90 hK (by decide) rfl (q := 98) rfl rfl dX12_putOut_45 ?_
      refine TT_aload_n hK rfl 0 rfl dX12_putOut_48 ?_
      refine gf_X12_166 hK (by decide) rfl (v := (h 73) 36) (rd_ (sOf_ne _ _ (by decide)) rfl) dX12_putOut_49 ?_
      refine TT_iconst hK dX12_putOut_52 ?_
      refine TT_isub hK dX12_putOut_53 ?_
      refine TT_iald hK (o := 98) (n := 3200) (by decide) rfl (by first | omega | (simp [up, setR] <;> omega)) (by first | omega | (simp [up, setR] <;> omega)) (v := ((h 98) (((h 73) 36) - 1)) + 1) (rd_ (sOf_eq _ _ _) (fup_eq _ _ _)) dX12_putOut_54 ?_
      have r34 := ty_98 (i := ((h 73) 36) - 1) (v := ((h 98) (((h 73) 36) - 1)) + 1) hT_33 (rd_ (sOf_eq _ _ _) (fup_eq _ _ _)) (by omega) (by omega)
      refine TT_sipush hK (by decide) dX12_putOut_55 ?_
      refine TT_icmp_ne hK (tgt := 72) (irm (by omega) (by omega)) (by decide) dX12_putOut_58 (by decide) (fun hb58_35 => ?_) (fun hb58_35 => ?_)
      · refine TT_aload_n hK rfl 0 rfl dX12_putOut_72 ?_
        refine gf_X12_175 hK (by decide) rfl (v := (h 73) 33) (rd_ (sOf_ne _ _ (by decide)) rfl) dX12_putOut_73 ?_
        refine pf_X12_175 hK (by decide) rfl dX12_putOut_76 ?_
        refine TT_hp (h' := setO (setO h 73 (fup (h 73) 33 ((h 73) 33))) 98 (fup (h 98) (((h 73) 36) - 1) (((h 98) (((h 73) 36) - 1)) + 1))) (up_can (sOf_ne _ _ (by decide)) rfl ((setO_comm _ _ _ (by decide)).trans (setO_cg rfl rfl))) ?_
        have hT_36 : TY (setO (setO h 73 (fup (h 73) 33 ((h 73) 33))) 98 (fup (h 98) (((h 73) 36) - 1) (((h 98) (((h 73) 36) - 1)) + 1))) := tu_73_33 hT_33 (show up (setO h 98 (fup (h 98) (((h 73) 36) - 1) (((h 98) (((h 73) 36) - 1)) + 1))) 73 33 ((h 73) 33) = (setO (setO h 73 (fup (h 73) 33 ((h 73) 33))) 98 (fup (h 98) (((h 73) 36) - 1) (((h 98) (((h 73) 36) - 1)) + 1))) from up_can (sOf_ne _ _ (by decide)) rfl ((setO_comm _ _ _ (by decide)).trans (setO_cg rfl rfl))) (by omega)
        have hF_36 : FRM [73, 98] [33, 34, 36] h (setO (setO h 73 (fup (h 73) 33 ((h 73) 33))) 98 (fup (h 98) (((h 73) 36) - 1) (((h 98) (((h 73) 36) - 1)) + 1))) := FRM_f (show up (setO h 98 (fup (h 98) (((h 73) 36) - 1) (((h 98) (((h 73) 36) - 1)) + 1))) 73 33 ((h 73) 33) = (setO (setO h 73 (fup (h 73) 33 ((h 73) 33))) 98 (fup (h 98) (((h 73) 36) - 1) (((h 98) (((h 73) 36) - 1)) + 1))) from up_can (sOf_ne _ _ (by decide)) rfl ((setO_comm _ _ _ (by decide)).trans (setO_cg rfl rfl))) hF_33 (by decide) (by decide)
        refine TT_aload_n hK rfl 0 rfl dX12_putOut_79 ?_
        refine gf_X12_90 hK (by decide) rfl (q := 98) rfl rfl dX12_putOut_80 ?_
        refine TT_aload_n hK rfl 0 rfl dX12_putOut_83 ?_
        refine gf_X12_166 hK (by decide) rfl (v := (h 73) 36) (rd_ ((sOf_ne _ _ (by decide)).trans (sOf_eq _ _ _)) (fup_ne _ _ (by decide))) dX12_putOut_84 ?_
        refine TT_iconst hK dX12_putOut_87 ?_
        refine TT_isub hK dX12_putOut_88 ?_
        refine TT_iald hK (o := 98) (n := 3200) (by decide) rfl (by first | omega | (simp [up, setR] <;> omega)) (by first | omega | (simp [up, setR] <;> omega)) (v := ((h 98) (((h 73) 36) - 1)) + 1) (rd_ (sOf_eq _ _ _) (fup_eq _ _ _)) dX12_putOut_89 ?_
        refine TT_sipush hK (by decide) dX12_putOut_90 ?_
        refine TT_icmp_ne hK (tgt := 100) (irm (by omega) (by omega)) (by decide) dX12_putOut_93 (by decide) (fun hb93_37 => ?_) (fun hb93_37 => ?_)
        · refine TT_iconst hK dX12_putOut_100 ?_
          refine TT_istore_n hK rfl (lv' := [(1, vI 0), (0, vR 73)]) (by decide) rfl dX12_putOut_101 ?_
          refine TT_iload_n hK rfl 0 rfl dX12_putOut_102 ?_
          refine TT_if_eq hK (tgt := 112) (by decide) dX12_putOut_103 (by decide) (fun hb103_38 => ?_) (fun hb103_38 => ?_)
          · refine TT_ldc2 hK lc_X12_185 dX12_putOut_112 ?_
            refine TT_lstore_n hK rfl (lv' := [(2, vJ 524288), (1, vI 0), (0, vR 73)]) (by decide) rfl dX12_putOut_115 ?_
            refine TT_aload_n hK rfl 2 rfl dX12_putOut_116 ?_
            refine gf_X12_90 hK (by decide) rfl (q := 98) rfl rfl dX12_putOut_117 ?_
            refine TT_aload_n hK rfl 2 rfl dX12_putOut_120 ?_
            refine gf_X12_166 hK (by decide) rfl (v := (h 73) 36) (rd_ ((sOf_ne _ _ (by decide)).trans (sOf_eq _ _ _)) (fup_ne _ _ (by decide))) dX12_putOut_121 ?_
            refine TT_aload_n hK rfl 2 rfl dX12_putOut_124 ?_
            refine gf_X12_175 hK (by decide) rfl (v := (h 73) 33) (rd_ ((sOf_ne _ _ (by decide)).trans (sOf_eq _ _ _)) (fup_eq _ _ _)) dX12_putOut_125 ?_
            refine TT_lload_n hK rfl 0 rfl dX12_putOut_128 ?_
            refine TT_ldivn hK (lrm (by omega) (by omega)) (by decide) (by first | omega | (simp [up, setR] <;> omega)) (by first | omega | (simp [up, setR] <;> omega)) dX12_putOut_129 ?_
            refine TT_ldc2 hK lc_X12_187 dX12_putOut_130 ?_
            refine TT_lremn hK (lrm (by omega) (by omega)) (by decide) (by first | omega | (simp [up, setR] <;> omega)) (by first | omega | (simp [up, setR] <;> omega)) dX12_putOut_133 ?_
            refine TT_l2i hK dX12_putOut_134 ?_
            refine TT_iast hK (o := 98) (n := 3200) (by decide) rfl (by omega) (by omega) dX12_putOut_135 ?_
            refine TT_hp (h' := setO (setO h 73 (fup (h 73) 33 ((h 73) 33))) 98 (fup (fup (h 98) (((h 73) 36) - 1) (((h 98) (((h 73) 36) - 1)) + 1)) ((h 73) 36) ((((h 73) 33) / 524288) % 256))) (up_can (sOf_eq _ _ _) rfl (setO_same _ _ _ _)) ?_
            have hT_39 : TY (setO (setO h 73 (fup (h 73) 33 ((h 73) 33))) 98 (fup (fup (h 98) (((h 73) 36) - 1) (((h 98) (((h 73) 36) - 1)) + 1)) ((h 73) 36) ((((h 73) 33) / 524288) % 256))) := tu_98 hT_36 (show up (setO (setO h 73 (fup (h 73) 33 ((h 73) 33))) 98 (fup (h 98) (((h 73) 36) - 1) (((h 98) (((h 73) 36) - 1)) + 1))) 98 ((h 73) 36) ((((h 73) 33) / 524288) % 256) = (setO (setO h 73 (fup (h 73) 33 ((h 73) 33))) 98 (fup (fup (h 98) (((h 73) 36) - 1) (((h 98) (((h 73) 36) - 1)) + 1)) ((h 73) 36) ((((h 73) 33) / 524288) % 256))) from up_can (sOf_eq _ _ _) rfl (setO_same _ _ _ _)) (by omega)
            have hF_39 : FRM [73, 98] [33, 34, 36] h (setO (setO h 73 (fup (h 73) 33 ((h 73) 33))) 98 (fup (fup (h 98) (((h 73) 36) - 1) (((h 98) (((h 73) 36) - 1)) + 1)) ((h 73) 36) ((((h 73) 33) / 524288) % 256))) := FRM_up (show up (setO (setO h 73 (fup (h 73) 33 ((h 73) 33))) 98 (fup (h 98) (((h 73) 36) - 1) (((h 98) (((h 73) 36) - 1)) + 1))) 98 ((h 73) 36) ((((h 73) 33) / 524288) % 256) = (setO (setO h 73 (fup (h 73) 33 ((h 73) 33))) 98 (fup (fup (h 98) (((h 73) 36) - 1) (((h 98) (((h 73) 36) - 1)) + 1)) ((h 73) 36) ((((h 73) 33) / 524288) % 256))) from up_can (sOf_eq _ _ _) rfl (setO_same _ _ _ _)) hF_36 (by decide) (by decide)
            refine TT_aload_n hK rfl 2 rfl dX12_putOut_136 ?_
            refine TT_dup hK rfl dX12_putOut_137 ?_
            refine gf_X12_166 hK (by decide) rfl (v := (h 73) 36) (rd_ ((sOf_ne _ _ (by decide)).trans (sOf_eq _ _ _)) (fup_ne _ _ (by decide))) dX12_putOut_138 ?_
            refine TT_iconst hK dX12_putOut_141 ?_
            refine TT_iadd hK dX12_putOut_142 ?_
            refine pf_X12_166 hK (by decide) rfl dX12_putOut_143 ?_
            refine TT_hp (h' := setO (setO h 73 (fup (fup (h 73) 33 ((h 73) 33)) 36 (((h 73) 36) + 1))) 98 (fup (fup (h 98) (((h 73) 36) - 1) (((h 98) (((h 73) 36) - 1)) + 1)) ((h 73) 36) ((((h 73) 33) / 524288) % 256))) (up_can ((sOf_ne _ _ (by decide)).trans (sOf_eq _ _ _)) rfl ((setO_comm _ _ _ (by decide)).trans (setO_cg (setO_same _ _ _ _) rfl))) ?_
            have hT_40 : TY (setO (setO h 73 (fup (fup (h 73) 33 ((h 73) 33)) 36 (((h 73) 36) + 1))) 98 (fup (fup (h 98) (((h 73) 36) - 1) (((h 98) (((h 73) 36) - 1)) + 1)) ((h 73) 36) ((((h 73) 33) / 524288) % 256))) := tu_73_36 hT_39 (show up (setO (setO h 73 (fup (h 73) 33 ((h 73) 33))) 98 (fup (fup (h 98) (((h 73) 36) - 1) (((h 98) (((h 73) 36) - 1)) + 1)) ((h 73) 36) ((((h 73) 33) / 524288) % 256))) 73 36 (((h 73) 36) + 1) = (setO (setO h 73 (fup (fup (h 73) 33 ((h 73) 33)) 36 (((h 73) 36) + 1))) 98 (fup (fup (h 98) (((h 73) 36) - 1) (((h 98) (((h 73) 36) - 1)) + 1)) ((h 73) 36) ((((h 73) 33) / 524288) % 256))) from up_can ((sOf_ne _ _ (by decide)).trans (sOf_eq _ _ _)) rfl ((setO_comm _ _ _ (by decide)).trans (setO_cg (setO_same _ _ _ _) rfl))) (by omega)
            have hF_40 : FRM [73, 98] [33, 34, 36] h (setO (setO h 73 (fup (fup (h 73) 33 ((h 73) 33)) 36 (((h 73) 36) + 1))) 98 (fup (fup (h 98) (((h 73) 36) - 1) (((h 98) (((h 73) 36) - 1)) + 1)) ((h 73) 36) ((((h 73) 33) / 524288) % 256))) := FRM_f (show up (setO (setO h 73 (fup (h 73) 33 ((h 73) 33))) 98 (fup (fup (h 98) (((h 73) 36) - 1) (((h 98) (((h 73) 36) - 1)) + 1)) ((h 73) 36) ((((h 73) 33) / 524288) % 256))) 73 36 (((h 73) 36) + 1) = (setO (setO h 73 (fup (fup (h 73) 33 ((h 73) 33)) 36 (((h 73) 36) + 1))) 98 (fup (fup (h 98) (((h 73) 36) - 1) (((h 98) (((h 73) 36) - 1)) + 1)) ((h 73) 36) ((((h 73) 33) / 524288) % 256))) from up_can ((sOf_ne _ _ (by decide)).trans (sOf_eq _ _ _)) rfl ((setO_comm _ _ _ (by decide)).trans (setO_cg (setO_same _ _ _ _) rfl))) hF_39 (by decide) (by decide)
            refine TT_aload_n hK rfl 2 rfl dX12_putOut_146 ?_
            refine TT_aload_n hK rfl 2 rfl dX12_putOut_147 ?_
            refine gf_X12_175 hK (by decide) rfl (v := (h 73) 33) (rd_ ((sOf_ne _ _ (by decide)).trans (sOf_eq _ _ _)) ((fup_ne _ _ (by decide)).trans (fup_eq _ _ _))) dX12_putOut_148 ?_
            refine TT_lload_n hK rfl 0 rfl dX12_putOut_151 ?_
            refine TT_lremn hK (lrm (by omega) (by omega)) (by decide) (by first | omega | (simp [up, setR] <;> omega)) (by first | omega | (simp [up, setR] <;> omega)) dX12_putOut_152 ?_
            refine pf_X12_175 hK (by decide) rfl dX12_putOut_153 ?_
            refine TT_hp (h' := setO (setO h 73 (fup (fup (h 73) 33 (((h 73) 33) % 524288)) 36 (((h 73) 36) + 1))) 98 (fup (fup (h 98) (((h 73) 36) - 1) (((h 98) (((h 73) 36) - 1)) + 1)) ((h 73) 36) ((((h 73) 33) / 524288) % 256))) (up_can ((sOf_ne _ _ (by decide)).trans (sOf_eq _ _ _)) ((fup_comm _ _ _ (by decide)).trans (fup_cg (fup_same _ _ _ _))) ((setO_comm _ _ _ (by decide)).trans (setO_cg (setO_same _ _ _ _) rfl))) ?_
            have hT_41 : TY (setO (setO h 73 (fup (fup (h 73) 33 (((h 73) 33) % 524288)) 36 (((h 73) 36) + 1))) 98 (fup (fup (h 98) (((h 73) 36) - 1) (((h 98) (((h 73) 36) - 1)) + 1)) ((h 73) 36) ((((h 73) 33) / 524288) % 256))) := tu_73_33 hT_40 (show up (setO (setO h 73 (fup (fup (h 73) 33 ((h 73) 33)) 36 (((h 73) 36) + 1))) 98 (fup (fup (h 98) (((h 73) 36) - 1) (((h 98) (((h 73) 36) - 1)) + 1)) ((h 73) 36) ((((h 73) 33) / 524288) % 256))) 73 33 (((h 73) 33) % 524288) = (setO (setO h 73 (fup (fup (h 73) 33 (((h 73) 33) % 524288)) 36 (((h 73) 36) + 1))) 98 (fup (fup (h 98) (((h 73) 36) - 1) (((h 98) (((h 73) 36) - 1)) + 1)) ((h 73) 36) ((((h 73) 33) / 524288) % 256))) from up_can ((sOf_ne _ _ (by decide)).trans (sOf_eq _ _ _)) ((fup_comm _ _ _ (by decide)).trans (fup_cg (fup_same _ _ _ _))) ((setO_comm _ _ _ (by decide)).trans (setO_cg (setO_same _ _ _ _) rfl))) (by omega)
            have hF_41 : FRM [73, 98] [33, 34, 36] h (setO (setO h 73 (fup (fup (h 73) 33 (((h 73) 33) % 524288)) 36 (((h 73) 36) + 1))) 98 (fup (fup (h 98) (((h 73) 36) - 1) (((h 98) (((h 73) 36) - 1)) + 1)) ((h 73) 36) ((((h 73) 33) / 524288) % 256))) := FRM_f (show up (setO (setO h 73 (fup (fup (h 73) 33 ((h 73) 33)) 36 (((h 73) 36) + 1))) 98 (fup (fup (h 98) (((h 73) 36) - 1) (((h 98) (((h 73) 36) - 1)) + 1)) ((h 73) 36) ((((h 73) 33) / 524288) % 256))) 73 33 (((h 73) 33) % 524288) = (setO (setO h 73 (fup (fup (h 73) 33 (((h 73) 33) % 524288)) 36 (((h 73) 36) + 1))) 98 (fup (fup (h 98) (((h 73) 36) - 1) (((h 98) (((h 73) 36) - 1)) + 1)) ((h 73) 36) ((((h 73) 33) / 524288) % 256))) from up_can ((sOf_ne _ _ (by decide)).trans (sOf_eq _ _ _)) ((fup_comm _ _ _ (by decide)).trans (fup_cg (fup_same _ _ _ _))) ((setO_comm _ _ _ (by decide)).trans (setO_cg (setO_same _ _ _ _) rfl))) hF_40 (by decide) (by decide)
            refine TT_aload_n hK rfl 2 rfl dX12_putOut_156 ?_
            refine TT_iload_n hK rfl 1 rfl dX12_putOut_157 ?_
            refine TT_if_eq hK (tgt := 166) (by decide) dX12_putOut_158 (by decide) (fun hb158_42 => ?_) (fun hb158_42 => ?_)
            · refine TT_bipush hK (by decide) dX12_putOut_166 ?_
              refine pf_X12_178 hK (by decide) rfl dX12_putOut_168 ?_
              refine TT_hp (h' := setO (setO h 73 (fup (fup (fup (h 73) 33 (((h 73) 33) % 524288)) 34 8) 36 (((h 73) 36) + 1))) 98 (fup (fup (h 98) (((h 73) 36) - 1) (((h 98) (((h 73) 36) - 1)) + 1)) ((h 73) 36) ((((h 73) 33) / 524288) % 256))) (up_can ((sOf_ne _ _ (by decide)).trans (sOf_eq _ _ _)) (fup_comm _ _ _ (by decide)) ((setO_comm _ _ _ (by decide)).trans (setO_cg (setO_same _ _ _ _) rfl))) ?_
              have hT_43 : TY (setO (setO h 73 (fup (fup (fup (h 73) 33 (((h 73) 33) % 524288)) 34 8) 36 (((h 73) 36) + 1))) 98 (fup (fup (h 98) (((h 73) 36) - 1) (((h 98) (((h 73) 36) - 1)) + 1)) ((h 73) 36) ((((h 73) 33) / 524288) % 256))) := tu_73_34 hT_41 (show up (setO (setO h 73 (fup (fup (h 73) 33 (((h 73) 33) % 524288)) 36 (((h 73) 36) + 1))) 98 (fup (fup (h 98) (((h 73) 36) - 1) (((h 98) (((h 73) 36) - 1)) + 1)) ((h 73) 36) ((((h 73) 33) / 524288) % 256))) 73 34 8 = (setO (setO h 73 (fup (fup (fup (h 73) 33 (((h 73) 33) % 524288)) 34 8) 36 (((h 73) 36) + 1))) 98 (fup (fup (h 98) (((h 73) 36) - 1) (((h 98) (((h 73) 36) - 1)) + 1)) ((h 73) 36) ((((h 73) 33) / 524288) % 256))) from up_can ((sOf_ne _ _ (by decide)).trans (sOf_eq _ _ _)) (fup_comm _ _ _ (by decide)) ((setO_comm _ _ _ (by decide)).trans (setO_cg (setO_same _ _ _ _) rfl))) (by omega)
              have hF_43 : FRM [73, 98] [33, 34, 36] h (setO (setO h 73 (fup (fup (fup (h 73) 33 (((h 73) 33) % 524288)) 34 8) 36 (((h 73) 36) + 1))) 98 (fup (fup (h 98) (((h 73) 36) - 1) (((h 98) (((h 73) 36) - 1)) + 1)) ((h 73) 36) ((((h 73) 33) / 524288) % 256))) := FRM_f (show up (setO (setO h 73 (fup (fup (h 73) 33 (((h 73) 33) % 524288)) 36 (((h 73) 36) + 1))) 98 (fup (fup (h 98) (((h 73) 36) - 1) (((h 98) (((h 73) 36) - 1)) + 1)) ((h 73) 36) ((((h 73) 33) / 524288) % 256))) 73 34 8 = (setO (setO h 73 (fup (fup (fup (h 73) 33 (((h 73) 33) % 524288)) 34 8) 36 (((h 73) 36) + 1))) 98 (fup (fup (h 98) (((h 73) 36) - 1) (((h 98) (((h 73) 36) - 1)) + 1)) ((h 73) 36) ((((h 73) 33) / 524288) % 256))) from up_can ((sOf_ne _ _ (by decide)).trans (sOf_eq _ _ _)) (fup_comm _ _ _ (by decide)) ((setO_comm _ _ _ (by decide)).trans (setO_cg (setO_same _ _ _ _) rfl))) hF_41 (by decide) (by decide)
              refine TT_vret hK hQ ?_ dX12_putOut_171
              have e44_73_36 : (setO (setO h 73 (fup (fup (fup (h 73) 33 (((h 73) 33) % 524288)) 34 8) 36 (((h 73) 36) + 1))) 98 (fup (fup (h 98) (((h 73) 36) - 1) (((h 98) (((h 73) 36) - 1)) + 1)) ((h 73) 36) ((((h 73) 33) / 524288) % 256))) 73 36 = ((h 73) 36) + 1 := rd_ ((sOf_ne _ _ (by decide)).trans (sOf_eq _ _ _)) (fup_eq _ _ _)
              have e45_73_34 : (setO (setO h 73 (fup (fup (fup (h 73) 33 (((h 73) 33) % 524288)) 34 8) 36 (((h 73) 36) + 1))) 98 (fup (fup (h 98) (((h 73) 36) - 1) (((h 98) (((h 73) 36) - 1)) + 1)) ((h 73) 36) ((((h 73) 33) / 524288) % 256))) 73 34 = 8 := rd_ ((sOf_ne _ _ (by decide)).trans (sOf_eq _ _ _)) ((fup_ne _ _ (by decide)).trans (fup_eq _ _ _))
              have e46_73_33 : (setO (setO h 73 (fup (fup (fup (h 73) 33 (((h 73) 33) % 524288)) 34 8) 36 (((h 73) 36) + 1))) 98 (fup (fup (h 98) (((h 73) 36) - 1) (((h 98) (((h 73) 36) - 1)) + 1)) ((h 73) 36) ((((h 73) 33) / 524288) % 256))) 73 33 = ((h 73) 33) % 524288 := rd_ ((sOf_ne _ _ (by decide)).trans (sOf_eq _ _ _)) ((fup_ne _ _ (by decide)).trans ((fup_ne _ _ (by decide)).trans (fup_eq _ _ _)))
              have e47_73_34 : (setO (setO h 73 (fup (fup (fup (h 73) 33 (((h 73) 33) % 524288)) 34 8) 36 (((h 73) 36) + 1))) 98 (fup (fup (h 98) (((h 73) 36) - 1) (((h 98) (((h 73) 36) - 1)) + 1)) ((h 73) 36) ((((h 73) 33) / 524288) % 256))) 73 34 = 8 := rd_ ((sOf_ne _ _ (by decide)).trans (sOf_eq _ _ _)) ((fup_ne _ _ (by decide)).trans (fup_eq _ _ _))
              have e48_73_36 : (setO (setO h 73 (fup (fup (fup (h 73) 33 (((h 73) 33) % 524288)) 34 8) 36 (((h 73) 36) + 1))) 98 (fup (fup (h 98) (((h 73) 36) - 1) (((h 98) (((h 73) 36) - 1)) + 1)) ((h 73) 36) ((((h 73) 33) / 524288) % 256))) 73 36 = ((h 73) 36) + 1 := rd_ ((sOf_ne _ _ (by decide)).trans (sOf_eq _ _ _)) (fup_eq _ _ _)
              have e49_98 : (setO (setO h 73 (fup (fup (fup (h 73) 33 (((h 73) 33) % 524288)) 34 8) 36 (((h 73) 36) + 1))) 98 (fup (fup (h 98) (((h 73) 36) - 1) (((h 98) (((h 73) 36) - 1)) + 1)) ((h 73) 36) ((((h 73) 33) / 524288) % 256))) 98 = fup (fup (h 98) (((h 73) 36) - 1) (((h 98) (((h 73) 36) - 1)) + 1)) ((h 73) 36) ((((h 73) 33) / 524288) % 256) := sOf_eq _ _ _
              exact ⟨⟨hT_43, hF_43⟩, rfl, (by rewrite [e44_73_36]; omega), (by rewrite [e45_73_34]; omega), (by rewrite [e46_73_33]; first | rw [outS_1 (by omega)] | rw [outS_2 (by omega) (by omega)] | rw [outS_3 (by omega) (by omega) (by omega)] | rw [outS_4 (by omega) (by omega) (by omega)]), (by rewrite [e47_73_34]; first | rw [outS_1 (by omega)] | rw [outS_2 (by omega) (by omega)] | rw [outS_3 (by omega) (by omega) (by omega)] | rw [outS_4 (by omega) (by omega) (by omega)]), (by rewrite [e48_73_36]; first | rw [outS_1 (by omega)] | rw [outS_2 (by omega) (by omega)] | rw [outS_3 (by omega) (by omega) (by omega)] | rw [outS_4 (by omega) (by omega) (by omega)]), (by rewrite [e49_98]; first | rw [outS_1 (by omega)] | rw [outS_2 (by omega) (by omega)] | rw [outS_3 (by omega) (by omega) (by omega)] | rw [outS_4 (by omega) (by omega) (by omega)])⟩
            · exact absurd hb158_42 (by decide)
          · exact absurd hb103_38 (by decide)
        · exfalso; omega
      · refine TT_aload_n hK rfl 0 rfl dX12_putOut_61 ?_
        refine gf_X12_175 hK (by decide) rfl (v := (h 73) 33) (rd_ (sOf_ne _ _ (by decide)) rfl) dX12_putOut_62 ?_
        refine TT_ldc2 hK lc_X12_181 dX12_putOut_65 ?_
        refine TT_lsub hK dX12_putOut_68 ?_
        refine TT_goto hK (tgt := 76) dX12_putOut_69 (by decide) ?_
        refine pf_X12_175 hK (by decide) rfl dX12_putOut_76 ?_
        refine TT_hp (h' := setO (setO h 73 (fup (h 73) 33 (((h 73) 33) - 134217728))) 98 (fup (h 98) (((h 73) 36) - 1) (((h 98) (((h 73) 36) - 1)) + 1))) (up_can (sOf_ne _ _ (by decide)) rfl ((setO_comm _ _ _ (by decide)).trans (setO_cg rfl rfl))) ?_
        have hT_50 : TY (setO (setO h 73 (fup (h 73) 33 (((h 73) 33) - 134217728))) 98 (fup (h 98) (((h 73) 36) - 1) (((h 98) (((h 73) 36) - 1)) + 1))) := tu_73_33 hT_33 (show up (setO h 98 (fup (h 98) (((h 73) 36) - 1) (((h 98) (((h 73) 36) - 1)) + 1))) 73 33 (((h 73) 33) - 134217728) = (setO (setO h 73 (fup (h 73) 33 (((h 73) 33) - 134217728))) 98 (fup (h 98) (((h 73) 36) - 1) (((h 98) (((h 73) 36) - 1)) + 1))) from up_can (sOf_ne _ _ (by decide)) rfl ((setO_comm _ _ _ (by decide)).trans (setO_cg rfl rfl))) (by omega)
        have hF_50 : FRM [73, 98] [33, 34, 36] h (setO (setO h 73 (fup (h 73) 33 (((h 73) 33) - 134217728))) 98 (fup (h 98) (((h 73) 36) - 1) (((h 98) (((h 73) 36) - 1)) + 1))) := FRM_f (show up (setO h 98 (fup (h 98) (((h 73) 36) - 1) (((h 98) (((h 73) 36) - 1)) + 1))) 73 33 (((h 73) 33) - 134217728) = (setO (setO h 73 (fup (h 73) 33 (((h 73) 33) - 134217728))) 98 (fup (h 98) (((h 73) 36) - 1) (((h 98) (((h 73) 36) - 1)) + 1))) from up_can (sOf_ne _ _ (by decide)) rfl ((setO_comm _ _ _ (by decide)).trans (setO_cg rfl rfl))) hF_33 (by decide) (by decide)
        refine TT_aload_n hK rfl 0 rfl dX12_putOut_79 ?_
        refine gf_X12_90 hK (by decide) rfl (q := 98) rfl rfl dX12_putOut_80 ?_
        refine TT_aload_n hK rfl 0 rfl dX12_putOut_83 ?_
        refine gf_X12_166 hK (by decide) rfl (v := (h 73) 36) (rd_ ((sOf_ne _ _ (by decide)).trans (sOf_eq _ _ _)) (fup_ne _ _ (by decide))) dX12_putOut_84 ?_
        refine TT_iconst hK dX12_putOut_87 ?_
        refine TT_isub hK dX12_putOut_88 ?_
        refine TT_iald hK (o := 98) (n := 3200) (by decide) rfl (by first | omega | (simp [up, setR] <;> omega)) (by first | omega | (simp [up, setR] <;> omega)) (v := ((h 98) (((h 73) 36) - 1)) + 1) (rd_ (sOf_eq _ _ _) (fup_eq _ _ _)) dX12_putOut_89 ?_
        refine TT_sipush hK (by decide) dX12_putOut_90 ?_
        refine TT_icmp_ne hK (tgt := 100) (irm (by omega) (by omega)) (by decide) dX12_putOut_93 (by decide) (fun hb93_51 => ?_) (fun hb93_51 => ?_)
        · exfalso; omega
        · refine TT_iconst hK dX12_putOut_96 ?_
          refine TT_goto hK (tgt := 101) dX12_putOut_97 (by decide) ?_
          refine TT_istore_n hK rfl (lv' := [(1, vI 1), (0, vR 73)]) (by decide) rfl dX12_putOut_101 ?_
          refine TT_iload_n hK rfl 0 rfl dX12_putOut_102 ?_
          refine TT_if_eq hK (tgt := 112) (by decide) dX12_putOut_103 (by decide) (fun hb103_52 => ?_) (fun hb103_52 => ?_)
          · exact absurd hb103_52 (by decide)
          · refine TT_ldc2 hK lc_X12_183 dX12_putOut_106 ?_
            refine TT_goto hK (tgt := 115) dX12_putOut_109 (by decide) ?_
            refine TT_lstore_n hK rfl (lv' := [(2, vJ 1048576), (1, vI 1), (0, vR 73)]) (by decide) rfl dX12_putOut_115 ?_
            refine TT_aload_n hK rfl 2 rfl dX12_putOut_116 ?_
            refine gf_X12_90 hK (by decide) rfl (q := 98) rfl rfl dX12_putOut_117 ?_
            refine TT_aload_n hK rfl 2 rfl dX12_putOut_120 ?_
            refine gf_X12_166 hK (by decide) rfl (v := (h 73) 36) (rd_ ((sOf_ne _ _ (by decide)).trans (sOf_eq _ _ _)) (fup_ne _ _ (by decide))) dX12_putOut_121 ?_
            refine TT_aload_n hK rfl 2 rfl dX12_putOut_124 ?_
            refine gf_X12_175 hK (by decide) rfl (v := ((h 73) 33) - 134217728) (rd_ ((sOf_ne _ _ (by decide)).trans (sOf_eq _ _ _)) (fup_eq _ _ _)) dX12_putOut_125 ?_
            have r53 := ty_73_33 (v := ((h 73) 33) - 134217728) hT_50 (rd_ ((sOf_ne _ _ (by decide)).trans (sOf_eq _ _ _)) (fup_eq _ _ _))
            refine TT_lload_n hK rfl 0 rfl dX12_putOut_128 ?_
            refine TT_ldivn hK (lrm (by omega) (by omega)) (by decide) (by first | omega | (simp [up, setR] <;> omega)) (by first | omega | (simp [up, setR] <;> omega)) dX12_putOut_129 ?_
            refine TT_ldc2 hK lc_X12_187 dX12_putOut_130 ?_
            refine TT_lremn hK (lrm (by omega) (by omega)) (by decide) (by first | omega | (simp [up, setR] <;> omega)) (by first | omega | (simp [up, setR] <;> omega)) dX12_putOut_133 ?_
            refine TT_l2i hK dX12_putOut_134 ?_
            refine TT_iast hK (o := 98) (n := 3200) (by decide) rfl (by omega) (by omega) dX12_putOut_135 ?_
            refine TT_hp (h' := setO (setO h 73 (fup (h 73) 33 (((h 73) 33) - 134217728))) 98 (fup (fup (h 98) (((h 73) 36) - 1) (((h 98) (((h 73) 36) - 1)) + 1)) ((h 73) 36) (((((h 73) 33) - 134217728) / 1048576) % 256))) (up_can (sOf_eq _ _ _) rfl (setO_same _ _ _ _)) ?_
            have hT_54 : TY (setO (setO h 73 (fup (h 73) 33 (((h 73) 33) - 134217728))) 98 (fup (fup (h 98) (((h 73) 36) - 1) (((h 98) (((h 73) 36) - 1)) + 1)) ((h 73) 36) (((((h 73) 33) - 134217728) / 1048576) % 256))) := tu_98 hT_50 (show up (setO (setO h 73 (fup (h 73) 33 (((h 73) 33) - 134217728))) 98 (fup (h 98) (((h 73) 36) - 1) (((h 98) (((h 73) 36) - 1)) + 1))) 98 ((h 73) 36) (((((h 73) 33) - 134217728) / 1048576) % 256) = (setO (setO h 73 (fup (h 73) 33 (((h 73) 33) - 134217728))) 98 (fup (fup (h 98) (((h 73) 36) - 1) (((h 98) (((h 73) 36) - 1)) + 1)) ((h 73) 36) (((((h 73) 33) - 134217728) / 1048576) % 256))) from up_can (sOf_eq _ _ _) rfl (setO_same _ _ _ _)) (by omega)
            have hF_54 : FRM [73, 98] [33, 34, 36] h (setO (setO h 73 (fup (h 73) 33 (((h 73) 33) - 134217728))) 98 (fup (fup (h 98) (((h 73) 36) - 1) (((h 98) (((h 73) 36) - 1)) + 1)) ((h 73) 36) (((((h 73) 33) - 134217728) / 1048576) % 256))) := FRM_up (show up (setO (setO h 73 (fup (h 73) 33 (((h 73) 33) - 134217728))) 98 (fup (h 98) (((h 73) 36) - 1) (((h 98) (((h 73) 36) - 1)) + 1))) 98 ((h 73) 36) (((((h 73) 33) - 134217728) / 1048576) % 256) = (setO (setO h 73 (fup (h 73) 33 (((h 73) 33) - 134217728))) 98 (fup (fup (h 98) (((h 73) 36) - 1) (((h 98) (((h 73) 36) - 1)) + 1)) ((h 73) 36) (((((h 73) 33) - 134217728) / 1048576) % 256))) from up_can (sOf_eq _ _ _) rfl (setO_same _ _ _ _)) hF_50 (by decide) (by decide)
            refine TT_aload_n hK rfl 2 rfl dX12_putOut_136 ?_
            refine TT_dup hK rfl dX12_putOut_137 ?_
            refine gf_X12_166 hK (by decide) rfl (v := (h 73) 36) (rd_ ((sOf_ne _ _ (by decide)).trans (sOf_eq _ _ _)) (fup_ne _ _ (by decide))) dX12_putOut_138 ?_
            refine TT_iconst hK dX12_putOut_141 ?_
            refine TT_iadd hK dX12_putOut_142 ?_
            refine pf_X12_166 hK (by decide) rfl dX12_putOut_143 ?_
            refine TT_hp (h' := setO (setO h 73 (fup (fup (h 73) 33 (((h 73) 33) - 134217728)) 36 (((h 73) 36) + 1))) 98 (fup (fup (h 98) (((h 73) 36) - 1) (((h 98) (((h 73) 36) - 1)) + 1)) ((h 73) 36) (((((h 73) 33) - 134217728) / 1048576) % 256))) (up_can ((sOf_ne _ _ (by decide)).trans (sOf_eq _ _ _)) rfl ((setO_comm _ _ _ (by decide)).trans (setO_cg (setO_same _ _ _ _) rfl))) ?_
            have hT_55 : TY (setO (setO h 73 (fup (fup (h 73) 33 (((h 73) 33) - 134217728)) 36 (((h 73) 36) + 1))) 98 (fup (fup (h 98) (((h 73) 36) - 1) (((h 98) (((h 73) 36) - 1)) + 1)) ((h 73) 36) (((((h 73) 33) - 134217728) / 1048576) % 256))) := tu_73_36 hT_54 (show up (setO (setO h 73 (fup (h 73) 33 (((h 73) 33) - 134217728))) 98 (fup (fup (h 98) (((h 73) 36) - 1) (((h 98) (((h 73) 36) - 1)) + 1)) ((h 73) 36) (((((h 73) 33) - 134217728) / 1048576) % 256))) 73 36 (((h 73) 36) + 1) = (setO (setO h 73 (fup (fup (h 73) 33 (((h 73) 33) - 134217728)) 36 (((h 73) 36) + 1))) 98 (fup (fup (h 98) (((h 73) 36) - 1) (((h 98) (((h 73) 36) - 1)) + 1)) ((h 73) 36) (((((h 73) 33) - 134217728) / 1048576) % 256))) from up_can ((sOf_ne _ _ (by decide)).trans (sOf_eq _ _ _)) rfl ((setO_comm _ _ _ (by decide)).trans (setO_cg (setO_same _ _ _ _) rfl))) (by omega)
            have hF_55 : FRM [73, 98] [33, 34, 36] h (setO (setO h 73 (fup (fup (h 73) 33 (((h 73) 33) - 134217728)) 36 (((h 73) 36) + 1))) 98 (fup (fup (h 98) (((h 73) 36) - 1) (((h 98) (((h 73) 36) - 1)) + 1)) ((h 73) 36) (((((h 73) 33) - 134217728) / 1048576) % 256))) := FRM_f (show up (setO (setO h 73 (fup (h 73) 33 (((h 73) 33) - 134217728))) 98 (fup (fup (h 98) (((h 73) 36) - 1) (((h 98) (((h 73) 36) - 1)) + 1)) ((h 73) 36) (((((h 73) 33) - 134217728) / 1048576) % 256))) 73 36 (((h 73) 36) + 1) = (setO (setO h 73 (fup (fup (h 73) 33 (((h 73) 33) - 134217728)) 36 (((h 73) 36) + 1))) 98 (fup (fup (h 98) (((h 73) 36) - 1) (((h 98) (((h 73) 36) - 1)) + 1)) ((h 73) 36) (((((h 73) 33) - 134217728) / 1048576) % 256))) from up_can ((sOf_ne _ _ (by decide)).trans (sOf_eq _ _ _)) rfl ((setO_comm _ _ _ (by decide)).trans (setO_cg (setO_same _ _ _ _) rfl))) hF_54 (by decide) (by decide)
            refine TT_aload_n hK rfl 2 rfl dX12_putOut_146 ?_
            refine TT_aload_n hK rfl 2 rfl dX12_putOut_147 ?_
            refine gf_X12_175 hK (by decide) rfl (v := ((h 73) 33) - 134217728) (rd_ ((sOf_ne _ _ (by decide)).trans (sOf_eq _ _ _)) ((fup_ne _ _ (by decide)).trans (fup_eq _ _ _))) dX12_putOut_148 ?_
            refine TT_lload_n hK rfl 0 rfl dX12_putOut_151 ?_
            refine TT_lremn hK (lrm (by omega) (by omega)) (by decide) (by first | omega | (simp [up, setR] <;> omega)) (by first | omega | (simp [up, setR] <;> omega)) dX12_putOut_152 ?_
            refine pf_X12_175 hK (by decide) rfl dX12_putOut_153 ?_
            refine TT_hp (h' := setO (setO h 73 (fup (fup (h 73) 33 ((((h 73) 33) - 134217728) % 1048576)) 36 (((h 73) 36) + 1))) 98 (fup (fup (h 98) (((h 73) 36) - 1) (((h 98) (((h 73) 36) - 1)) + 1)) ((h 73) 36) (((((h 73) 33) - 134217728) / 1048576) % 256))) (up_can ((sOf_ne _ _ (by decide)).trans (sOf_eq _ _ _)) ((fup_comm _ _ _ (by decide)).trans (fup_cg (fup_same _ _ _ _))) ((setO_comm _ _ _ (by decide)).trans (setO_cg (setO_same _ _ _ _) rfl))) ?_
            have hT_56 : TY (setO (setO h 73 (fup (fup (h 73) 33 ((((h 73) 33) - 134217728) % 1048576)) 36 (((h 73) 36) + 1))) 98 (fup (fup (h 98) (((h 73) 36) - 1) (((h 98) (((h 73) 36) - 1)) + 1)) ((h 73) 36) (((((h 73) 33) - 134217728) / 1048576) % 256))) := tu_73_33 hT_55 (show up (setO (setO h 73 (fup (fup (h 73) 33 (((h 73) 33) - 134217728)) 36 (((h 73) 36) + 1))) 98 (fup (fup (h 98) (((h 73) 36) - 1) (((h 98) (((h 73) 36) - 1)) + 1)) ((h 73) 36) (((((h 73) 33) - 134217728) / 1048576) % 256))) 73 33 ((((h 73) 33) - 134217728) % 1048576) = (setO (setO h 73 (fup (fup (h 73) 33 ((((h 73) 33) - 134217728) % 1048576)) 36 (((h 73) 36) + 1))) 98 (fup (fup (h 98) (((h 73) 36) - 1) (((h 98) (((h 73) 36) - 1)) + 1)) ((h 73) 36) (((((h 73) 33) - 134217728) / 1048576) % 256))) from up_can ((sOf_ne _ _ (by decide)).trans (sOf_eq _ _ _)) ((fup_comm _ _ _ (by decide)).trans (fup_cg (fup_same _ _ _ _))) ((setO_comm _ _ _ (by decide)).trans (setO_cg (setO_same _ _ _ _) rfl))) (by omega)
            have hF_56 : FRM [73, 98] [33, 34, 36] h (setO (setO h 73 (fup (fup (h 73) 33 ((((h 73) 33) - 134217728) % 1048576)) 36 (((h 73) 36) + 1))) 98 (fup (fup (h 98) (((h 73) 36) - 1) (((h 98) (((h 73) 36) - 1)) + 1)) ((h 73) 36) (((((h 73) 33) - 134217728) / 1048576) % 256))) := FRM_f (show up (setO (setO h 73 (fup (fup (h 73) 33 (((h 73) 33) - 134217728)) 36 (((h 73) 36) + 1))) 98 (fup (fup (h 98) (((h 73) 36) - 1) (((h 98) (((h 73) 36) - 1)) + 1)) ((h 73) 36) (((((h 73) 33) - 134217728) / 1048576) % 256))) 73 33 ((((h 73) 33) - 134217728) % 1048576) = (setO (setO h 73 (fup (fup (h 73) 33 ((((h 73) 33) - 134217728) % 1048576)) 36 (((h 73) 36) + 1))) 98 (fup (fup (h 98) (((h 73) 36) - 1) (((h 98) (((h 73) 36) - 1)) + 1)) ((h 73) 36) (((((h 73) 33) - 134217728) / 1048576) % 256))) from up_can ((sOf_ne _ _ (by decide)).trans (sOf_eq _ _ _)) ((fup_comm _ _ _ (by decide)).trans (fup_cg (fup_same _ _ _ _))) ((setO_comm _ _ _ (by decide)).trans (setO_cg (setO_same _ _ _ _) rfl))) hF_55 (by decide) (by decide)
            refine TT_aload_n hK rfl 2 rfl dX12_putOut_156 ?_
            refine TT_iload_n hK rfl 1 rfl dX12_putOut_157 ?_
            refine TT_if_eq hK (tgt := 166) (by decide) dX12_putOut_158 (by decide) (fun hb158_57 => ?_) (fun hb158_57 => ?_)
            · exact absurd hb158_57 (by decide)
            · refine TT_bipush hK (by decide) dX12_putOut_161 ?_
              refine TT_goto hK (tgt := 168) dX12_putOut_163 (by decide) ?_
              refine pf_X12_178 hK (by decide) rfl dX12_putOut_168 ?_
              refine TT_hp (h' := setO (setO h 73 (fup (fup (fup (h 73) 33 ((((h 73) 33) - 134217728) % 1048576)) 34 7) 36 (((h 73) 36) + 1))) 98 (fup (fup (h 98) (((h 73) 36) - 1) (((h 98) (((h 73) 36) - 1)) + 1)) ((h 73) 36) (((((h 73) 33) - 134217728) / 1048576) % 256))) (up_can ((sOf_ne _ _ (by decide)).trans (sOf_eq _ _ _)) (fup_comm _ _ _ (by decide)) ((setO_comm _ _ _ (by decide)).trans (setO_cg (setO_same _ _ _ _) rfl))) ?_
              have hT_58 : TY (setO (setO h 73 (fup (fup (fup (h 73) 33 ((((h 73) 33) - 134217728) % 1048576)) 34 7) 36 (((h 73) 36) + 1))) 98 (fup (fup (h 98) (((h 73) 36) - 1) (((h 98) (((h 73) 36) - 1)) + 1)) ((h 73) 36) (((((h 73) 33) - 134217728) / 1048576) % 256))) := tu_73_34 hT_56 (show up (setO (setO h 73 (fup (fup (h 73) 33 ((((h 73) 33) - 134217728) % 1048576)) 36 (((h 73) 36) + 1))) 98 (fup (fup (h 98) (((h 73) 36) - 1) (((h 98) (((h 73) 36) - 1)) + 1)) ((h 73) 36) (((((h 73) 33) - 134217728) / 1048576) % 256))) 73 34 7 = (setO (setO h 73 (fup (fup (fup (h 73) 33 ((((h 73) 33) - 134217728) % 1048576)) 34 7) 36 (((h 73) 36) + 1))) 98 (fup (fup (h 98) (((h 73) 36) - 1) (((h 98) (((h 73) 36) - 1)) + 1)) ((h 73) 36) (((((h 73) 33) - 134217728) / 1048576) % 256))) from up_can ((sOf_ne _ _ (by decide)).trans (sOf_eq _ _ _)) (fup_comm _ _ _ (by decide)) ((setO_comm _ _ _ (by decide)).trans (setO_cg (setO_same _ _ _ _) rfl))) (by omega)
              have hF_58 : FRM [73, 98] [33, 34, 36] h (setO (setO h 73 (fup (fup (fup (h 73) 33 ((((h 73) 33) - 134217728) % 1048576)) 34 7) 36 (((h 73) 36) + 1))) 98 (fup (fup (h 98) (((h 73) 36) - 1) (((h 98) (((h 73) 36) - 1)) + 1)) ((h 73) 36) (((((h 73) 33) - 134217728) / 1048576) % 256))) := FRM_f (show up (setO (setO h 73 (fup (fup (h 73) 33 ((((h 73) 33) - 134217728) % 1048576)) 36 (((h 73) 36) + 1))) 98 (fup (fup (h 98) (((h 73) 36) - 1) (((h 98) (((h 73) 36) - 1)) + 1)) ((h 73) 36) (((((h 73) 33) - 134217728) / 1048576) % 256))) 73 34 7 = (setO (setO h 73 (fup (fup (fup (h 73) 33 ((((h 73) 33) - 134217728) % 1048576)) 34 7) 36 (((h 73) 36) + 1))) 98 (fup (fup (h 98) (((h 73) 36) - 1) (((h 98) (((h 73) 36) - 1)) + 1)) ((h 73) 36) (((((h 73) 33) - 134217728) / 1048576) % 256))) from up_can ((sOf_ne _ _ (by decide)).trans (sOf_eq _ _ _)) (fup_comm _ _ _ (by decide)) ((setO_comm _ _ _ (by decide)).trans (setO_cg (setO_same _ _ _ _) rfl))) hF_56 (by decide) (by decide)
              refine TT_vret hK hQ ?_ dX12_putOut_171
              have e59_73_36 : (setO (setO h 73 (fup (fup (fup (h 73) 33 ((((h 73) 33) - 134217728) % 1048576)) 34 7) 36 (((h 73) 36) + 1))) 98 (fup (fup (h 98) (((h 73) 36) - 1) (((h 98) (((h 73) 36) - 1)) + 1)) ((h 73) 36) (((((h 73) 33) - 134217728) / 1048576) % 256))) 73 36 = ((h 73) 36) + 1 := rd_ ((sOf_ne _ _ (by decide)).trans (sOf_eq _ _ _)) (fup_eq _ _ _)
              have e60_73_34 : (setO (setO h 73 (fup (fup (fup (h 73) 33 ((((h 73) 33) - 134217728) % 1048576)) 34 7) 36 (((h 73) 36) + 1))) 98 (fup (fup (h 98) (((h 73) 36) - 1) (((h 98) (((h 73) 36) - 1)) + 1)) ((h 73) 36) (((((h 73) 33) - 134217728) / 1048576) % 256))) 73 34 = 7 := rd_ ((sOf_ne _ _ (by decide)).trans (sOf_eq _ _ _)) ((fup_ne _ _ (by decide)).trans (fup_eq _ _ _))
              have e61_73_33 : (setO (setO h 73 (fup (fup (fup (h 73) 33 ((((h 73) 33) - 134217728) % 1048576)) 34 7) 36 (((h 73) 36) + 1))) 98 (fup (fup (h 98) (((h 73) 36) - 1) (((h 98) (((h 73) 36) - 1)) + 1)) ((h 73) 36) (((((h 73) 33) - 134217728) / 1048576) % 256))) 73 33 = (((h 73) 33) - 134217728) % 1048576 := rd_ ((sOf_ne _ _ (by decide)).trans (sOf_eq _ _ _)) ((fup_ne _ _ (by decide)).trans ((fup_ne _ _ (by decide)).trans (fup_eq _ _ _)))
              have e62_73_34 : (setO (setO h 73 (fup (fup (fup (h 73) 33 ((((h 73) 33) - 134217728) % 1048576)) 34 7) 36 (((h 73) 36) + 1))) 98 (fup (fup (h 98) (((h 73) 36) - 1) (((h 98) (((h 73) 36) - 1)) + 1)) ((h 73) 36) (((((h 73) 33) - 134217728) / 1048576) % 256))) 73 34 = 7 := rd_ ((sOf_ne _ _ (by decide)).trans (sOf_eq _ _ _)) ((fup_ne _ _ (by decide)).trans (fup_eq _ _ _))
              have e63_73_36 : (setO (setO h 73 (fup (fup (fup (h 73) 33 ((((h 73) 33) - 134217728) % 1048576)) 34 7) 36 (((h 73) 36) + 1))) 98 (fup (fup (h 98) (((h 73) 36) - 1) (((h 98) (((h 73) 36) - 1)) + 1)) ((h 73) 36) (((((h 73) 33) - 134217728) / 1048576) % 256))) 73 36 = ((h 73) 36) + 1 := rd_ ((sOf_ne _ _ (by decide)).trans (sOf_eq _ _ _)) (fup_eq _ _ _)
              have e64_98 : (setO (setO h 73 (fup (fup (fup (h 73) 33 ((((h 73) 33) - 134217728) % 1048576)) 34 7) 36 (((h 73) 36) + 1))) 98 (fup (fup (h 98) (((h 73) 36) - 1) (((h 98) (((h 73) 36) - 1)) + 1)) ((h 73) 36) (((((h 73) 33) - 134217728) / 1048576) % 256))) 98 = fup (fup (h 98) (((h 73) 36) - 1) (((h 98) (((h 73) 36) - 1)) + 1)) ((h 73) 36) (((((h 73) 33) - 134217728) / 1048576) % 256) := sOf_eq _ _ _
              exact ⟨⟨hT_58, hF_58⟩, rfl, (by rewrite [e59_73_36]; omega), (by rewrite [e60_73_34]; omega), (by rewrite [e61_73_33]; first | rw [outS_1 (by omega)] | rw [outS_2 (by omega) (by omega)] | rw [outS_3 (by omega) (by omega) (by omega)] | rw [outS_4 (by omega) (by omega) (by omega)]), (by rewrite [e62_73_34]; first | rw [outS_1 (by omega)] | rw [outS_2 (by omega) (by omega)] | rw [outS_3 (by omega) (by omega) (by omega)] | rw [outS_4 (by omega) (by omega) (by omega)]), (by rewrite [e63_73_36]; first | rw [outS_1 (by omega)] | rw [outS_2 (by omega) (by omega)] | rw [outS_3 (by omega) (by omega) (by omega)] | rw [outS_4 (by omega) (by omega) (by omega)]), (by rewrite [e64_98]; first | rw [outS_1 (by omega)] | rw [outS_2 (by omega) (by omega)] | rw [outS_3 (by omega) (by omega) (by omega)] | rw [outS_4 (by omega) (by omega) (by omega)])⟩
set_option maxRecDepth 20000 in
theorem s_tellBit_e (x b : Int) (h : Hp_) (hT : TY h) (hx : 0 ≤ x ∧ x ≤ 18) (hb : 0 ≤ b ∧ b ≤ 1) (htb : TBL (h 74) (h 75)) (ha : 32768 ≤ (h 73 32) ∧ (h 73 32) < 65536) (ht : 1 ≤ (h 73 34)) (hn : 1 ≤ (h 73 36)) (hp : 7 * (h 73 36) - (h 73 34) + PhS (h 96) + 9 ≤ 22300) (hq : MQ_ (h 73 32) (h 73 33) (h 73 34) (h 73 36) (h 98)) : Ctr yX12_tellBit cX12_tellBit 7 (some .int) (rmd 1) ly ly 0 0 [vR 73, vI x, vI b] h (fun r h' => (TY h' ∧ FRM [73, 96, 97, 98] [32, 33, 34, 36] h h') ∧ ∃ z : Int, r = some (vI z) ∧ (0 ≤ z ∧ z ≤ 1) ∧ (z = b) ∧ (32768 ≤ (h' 73 32) ∧ (h' 73 32) < 65536) ∧ (1 ≤ (h' 73 34)) ∧ (1 ≤ (h' 73 36)) ∧ (7 * (h' 73 36) - (h' 73 34) + PhS (h' 96) ≤ 7 * (h 73 36) - (h 73 34) + PhS (h 96) + 9) ∧ (((h' 73 32), (h' 73 33), (h' 73 34), (h' 73 36), (h' 96), (h' 97), (h' 98)) = tellS ((h 73 32), (h 73 33), (h 73 34), (h 73 36), (h 96), (h 97), (h 98)) x b)) := by
  refine Ctr_of (by decide) (Nat.le_of_ble_eq_true rfl) ⟨Nat.le_refl _, Nat.le_refl _⟩ (fun K hK hQ _ => ?_)
  show TT K ly 0 0 0 [(0, vR 73), (1, vI x), (2, vI b)] [] h
  have hF : FRM [73, 96, 97, 98] [32, 33, 34, 36] h h := FRM_rf _ _ _
  have hs0 := ty_96 (i := x) (v := h 96 x) hT rfl (by omega) (by omega)
  have hs : 0 ≤ h 96 x ∧ h 96 x < 47 := by omega
  have ht := (tab_r hs).1
  have hl := ty_97 (i := x) (v := h 97 x) hT rfl (by omega) (by omega)
  have hc := hq.c_r
  have tqS : h 74 (h 96 x) = qS (h 96 x) := (htb _ hs.1 hs.2).1.trans (qT_S hs)
  have hq2 := hq.2.1
  have hq4 := hq.2.2.2.1
  have hq5 := hq.2.2.2.2.1
  have hph := (PhS_r (h 96)).1
  refine TT_aload_n hK rfl 0 rfl dX12_tellBit_0 ?_
  refine gf_X12_7 hK (by decide) rfl (q := 74) rfl rfl dX12_tellBit_1 ?_
  refine TT_aload_n hK rfl 0 rfl dX12_tellBit_4 ?_
  refine gf_X12_84 hK (by decide) rfl (q := 96) rfl rfl dX12_tellBit_5 ?_
  refine TT_iload_n hK rfl 1 rfl dX12_tellBit_8 ?_
  refine TT_iald hK (o := 96) (n := 19) (by decide) rfl (by first | omega | (simp [up, setR] <;> omega)) (by first | omega | (simp [up, setR] <;> omega)) (v := (h 96) x) rfl dX12_tellBit_9 ?_
  have r1 := ty_96 (i := x) (v := (h 96) x) hT rfl (by omega) (by omega)
  refine TT_iald hK (o := 74) (n := 47) (by decide) rfl (by first | omega | (simp [up, setR] <;> omega)) (by first | omega | (simp [up, setR] <;> omega)) (v := (h 74) ((h 96) x)) rfl dX12_tellBit_10 ?_
  have r2 := ty_74 (i := (h 96) x) (v := (h 74) ((h 96) x)) hT rfl (by omega) (by omega)
  have tq := TBL_r htb (s := h 96 x) (by omega) (by omega)
  rw [tqS] at tq
  refine TT_cgI (b := qS (h 96 x)) (by exact tqS) ?_
  refine TT_istore_n hK rfl (lv' := [(3, vI (qS (h 96 x))), (0, vR 73), (1, vI x), (2, vI b)]) (by decide) rfl dX12_tellBit_11 ?_
  refine TT_iload_n hK rfl 3 rfl dX12_tellBit_12 ?_
  refine TT_aload_n hK rfl 1 rfl dX12_tellBit_13 ?_
  refine gf_X12_87 hK (by decide) rfl (q := 97) rfl rfl dX12_tellBit_14 ?_
  refine TT_iload_n hK rfl 2 rfl dX12_tellBit_17 ?_
  refine TT_iald hK (o := 97) (n := 19) (by decide) rfl (by first | omega | (simp [up, setR] <;> omega)) (by first | omega | (simp [up, setR] <;> omega)) (v := (h 97) x) rfl dX12_tellBit_18 ?_
  have r3 := ty_97 (i := x) (v := (h 97) x) hT rfl (by omega) (by omega)
  refine TT_icmp_eq hK (tgt := 26) (irm (by omega) (by omega)) (irm (by omega) (by omega)) dX12_tellBit_19 (by decide) (fun hb19_4 => ?_) (fun hb19_4 => ?_)
  · refine TT_iconst hK dX12_tellBit_26 ?_
    refine TT_istore hK (lv' := [(4, vI 0), (3, vI (qS (h 96 x))), (0, vR 73), (1, vI x), (2, vI b)]) (by decide) rfl dX12_tellBit_27 ?_
    refine TT_aload_n hK rfl 2 rfl dX12_tellBit_29 ?_
    refine TT_aload_n hK rfl 2 rfl dX12_tellBit_30 ?_
    refine gf_X12_171 hK (by decide) rfl (v := (h 73) 32) rfl dX12_tellBit_31 ?_
    have r5 := ty_73_32 (v := (h 73) 32) hT rfl
    refine TT_iload_n hK rfl 1 rfl dX12_tellBit_34 ?_
    refine TT_i2l hK (irm (by omega) (by omega)) dX12_tellBit_35 ?_
    refine TT_lsub hK dX12_tellBit_36 ?_
    refine pf_X12_171 hK (by decide) rfl dX12_tellBit_37 ?_
    refine TT_hp (h' := setO h 73 (fup (h 73) 32 (((h 73) 32) - (qS (h 96 x))))) (up_can rfl rfl rfl) ?_
    have hT_6 : TY (setO h 73 (fup (h 73) 32 (((h 73) 32) - (qS (h 96 x))))) := tu_73_32 hT (show up h 73 32 (((h 73) 32) - (qS (h 96 x))) = (setO h 73 (fup (h 73) 32 (((h 73) 32) - (qS (h 96 x))))) from up_can rfl rfl rfl) (by omega)
    have hF_6 : FRM [73, 96, 97, 98] [32, 33, 34, 36] h (setO h 73 (fup (h 73) 32 (((h 73) 32) - (qS (h 96 x))))) := FRM_f (show up h 73 32 (((h 73) 32) - (qS (h 96 x))) = (setO h 73 (fup (h 73) 32 (((h 73) 32) - (qS (h 96 x))))) from up_can rfl rfl rfl) hF (by decide) (by decide)
    refine TT_iload hK 0 rfl dX12_tellBit_40 ?_
    refine TT_if_ne hK (tgt := 69) (by decide) dX12_tellBit_42 (by decide) (fun hb42_7 => ?_) (fun hb42_7 => ?_)
    · exact absurd hb42_7 (by decide)
    · refine TT_aload_n hK rfl 2 rfl dX12_tellBit_45 ?_
      refine gf_X12_171 hK (by decide) rfl (v := ((h 73) 32) - (qS (h 96 x))) (rd_ (sOf_eq _ _ _) (fup_eq _ _ _)) dX12_tellBit_46 ?_
      have r8 := ty_73_32 (v := ((h 73) 32) - (qS (h 96 x))) hT_6 (rd_ (sOf_eq _ _ _) (fup_eq _ _ _))
      refine TT_ldc2 hK lc_X12_169 dX12_tellBit_49 ?_
      refine TT_lcmp hK (lrm (by omega) (by omega)) (by decide) dX12_tellBit_52 ?_
      refine TT_if_lt hK (tgt := 69) (lcmp_ir _ _) dX12_tellBit_53 (by decide) (fun hb53_9 => ?_) (fun hb53_9 => ?_)
      · have hb53_9 := lcmp_lt hb53_9
        refine TT_aload_n hK rfl 2 rfl dX12_tellBit_69 ?_
        refine gf_X12_171 hK (by decide) rfl (v := ((h 73) 32) - (qS (h 96 x))) (rd_ (sOf_eq _ _ _) (fup_eq _ _ _)) dX12_tellBit_70 ?_
        refine TT_iload_n hK rfl 1 rfl dX12_tellBit_73 ?_
        refine TT_i2l hK (irm (by omega) (by omega)) dX12_tellBit_74 ?_
        refine TT_lcmp hK (lrm (by omega) (by omega)) (lrm (by omega) (by omega)) dX12_tellBit_75 ?_
        refine TT_if_ge hK (tgt := 83) (lcmp_ir _ _) dX12_tellBit_76 (by decide) (fun hb76_10 => ?_) (fun hb76_10 => ?_)
        · have hb76_10 := lcmp_ge hb76_10
          refine TT_iconst hK dX12_tellBit_83 ?_
          refine TT_istore hK (lv' := [(5, vI 0), (4, vI 0), (3, vI (qS (h 96 x))), (0, vR 73), (1, vI x), (2, vI b)]) (by decide) rfl dX12_tellBit_84 ?_
          refine TT_iload hK 1 rfl dX12_tellBit_86 ?_
          refine TT_iload hK 0 rfl dX12_tellBit_88 ?_
          refine TT_icmp_eq hK (tgt := 97) (by decide) (by decide) dX12_tellBit_90 (by decide) (fun hb90_11 => ?_) (fun hb90_11 => ?_)
          · refine TT_iconst hK dX12_tellBit_97 ?_
            refine TT_istore hK (lv' := [(6, vI 0), (5, vI 0), (4, vI 0), (3, vI (qS (h 96 x))), (0, vR 73), (1, vI x), (2, vI b)]) (by decide) rfl dX12_tellBit_98 ?_
            refine TT_aload_n hK rfl 4 rfl dX12_tellBit_100 ?_
            refine TT_iload hK 0 rfl dX12_tellBit_101 ?_
            refine TT_if_eq hK (tgt := 113) (by decide) dX12_tellBit_103 (by decide) (fun hb103_12 => ?_) (fun hb103_12 => ?_)
            · refine TT_aload_n hK rfl 4 rfl dX12_tellBit_113 ?_
              refine gf_X12_175 hK (by decide) rfl (v := (h 73) 33) (rd_ (sOf_eq _ _ _) (fup_ne _ _ (by decide))) dX12_tellBit_114 ?_
              have r13 := ty_73_33 (v := (h 73) 33) hT_6 (rd_ (sOf_eq _ _ _) (fup_ne _ _ (by decide)))
              refine TT_iload_n hK rfl 3 rfl dX12_tellBit_117 ?_
              refine TT_i2l hK (irm (by omega) (by omega)) dX12_tellBit_118 ?_
              refine TT_ladd hK dX12_tellBit_119 ?_
              refine pf_X12_175 hK (by decide) rfl dX12_tellBit_120 ?_
              refine TT_hp (h' := setO h 73 (fup (fup (h 73) 32 (((h 73) 32) - (qS (h 96 x)))) 33 (((h 73) 33) + (qS (h 96 x))))) (up_can (sOf_eq _ _ _) rfl (setO_same _ _ _ _)) ?_
              have hT_14 : TY (setO h 73 (fup (fup (h 73) 32 (((h 73) 32) - (qS (h 96 x)))) 33 (((h 73) 33) + (qS (h 96 x))))) := tu_73_33 hT_6 (show up (setO h 73 (fup (h 73) 32 (((h 73) 32) - (qS (h 96 x))))) 73 33 (((h 73) 33) + (qS (h 96 x))) = (setO h 73 (fup (fup (h 73) 32 (((h 73) 32) - (qS (h 96 x)))) 33 (((h 73) 33) + (qS (h 96 x))))) from up_can (sOf_eq _ _ _) rfl (setO_same _ _ _ _)) (by omega)
              have hF_14 : FRM [73, 96, 97, 98] [32, 33, 34, 36] h (setO h 73 (fup (fup (h 73) 32 (((h 73) 32) - (qS (h 96 x)))) 33 (((h 73) 33) + (qS (h 96 x))))) := FRM_f (show up (setO h 73 (fup (h 73) 32 (((h 73) 32) - (qS (h 96 x))))) 73 33 (((h 73) 33) + (qS (h 96 x))) = (setO h 73 (fup (fup (h 73) 32 (((h 73) 32) - (qS (h 96 x)))) 33 (((h 73) 33) + (qS (h 96 x))))) from up_can (sOf_eq _ _ _) rfl (setO_same _ _ _ _)) hF_6 (by decide) (by decide)
              refine TT_aload_n hK rfl 4 rfl dX12_tellBit_123 ?_
              refine TT_iload hK 0 rfl dX12_tellBit_124 ?_
              refine TT_if_eq hK (tgt := 134) (by decide) dX12_tellBit_126 (by decide) (fun hb126_15 => ?_) (fun hb126_15 => ?_)
              · refine TT_aload_n hK rfl 4 rfl dX12_tellBit_134 ?_
                refine gf_X12_171 hK (by decide) rfl (v := ((h 73) 32) - (qS (h 96 x))) (rd_ (sOf_eq _ _ _) ((fup_ne _ _ (by decide)).trans (fup_eq _ _ _))) dX12_tellBit_135 ?_
                refine pf_X12_171 hK (by decide) rfl dX12_tellBit_138 ?_
                refine TT_hp (h' := setO h 73 (fup (fup (h 73) 32 (((h 73) 32) - (qS (h 96 x)))) 33 (((h 73) 33) + (qS (h 96 x))))) (up_can (sOf_eq _ _ _) ((fup_comm _ _ _ (by decide)).trans (fup_cg (fup_same _ _ _ _))) (setO_same _ _ _ _)) ?_
                have hT_16 : TY (setO h 73 (fup (fup (h 73) 32 (((h 73) 32) - (qS (h 96 x)))) 33 (((h 73) 33) + (qS (h 96 x))))) := tu_73_32 hT_14 (show up (setO h 73 (fup (fup (h 73) 32 (((h 73) 32) - (qS (h 96 x)))) 33 (((h 73) 33) + (qS (h 96 x))))) 73 32 (((h 73) 32) - (qS (h 96 x))) = (setO h 73 (fup (fup (h 73) 32 (((h 73) 32) - (qS (h 96 x)))) 33 (((h 73) 33) + (qS (h 96 x))))) from up_can (sOf_eq _ _ _) ((fup_comm _ _ _ (by decide)).trans (fup_cg (fup_same _ _ _ _))) (setO_same _ _ _ _)) (by omega)
                have hF_16 : FRM [73, 96, 97, 98] [32, 33, 34, 36] h (setO h 73 (fup (fup (h 73) 32 (((h 73) 32) - (qS (h 96 x)))) 33 (((h 73) 33) + (qS (h 96 x))))) := FRM_f (show up (setO h 73 (fup (fup (h 73) 32 (((h 73) 32) - (qS (h 96 x)))) 33 (((h 73) 33) + (qS (h 96 x))))) 73 32 (((h 73) 32) - (qS (h 96 x))) = (setO h 73 (fup (fup (h 73) 32 (((h 73) 32) - (qS (h 96 x)))) 33 (((h 73) 33) + (qS (h 96 x))))) from up_can (sOf_eq _ _ _) ((fup_comm _ _ _ (by decide)).trans (fup_cg (fup_same _ _ _ _))) (setO_same _ _ _ _)) hF_14 (by decide) (by decide)
                refine TT_aload_n hK rfl 4 rfl dX12_tellBit_141 ?_
                refine TT_iload_n hK rfl 5 rfl dX12_tellBit_142 ?_
                refine TT_iload hK 2 rfl dX12_tellBit_143 ?_
                have e17_74 : (setO h 73 (fup (fup (h 73) 32 (((h 73) 32) - (qS (h 96 x)))) 33 (((h 73) 33) + (qS (h 96 x))))) 74 = h 74 := sOf_ne _ _ (by decide)
                have e18_75 : (setO h 73 (fup (fup (h 73) 32 (((h 73) 32) - (qS (h 96 x)))) 33 (((h 73) 33) + (qS (h 96 x))))) 75 = h 75 := sOf_ne _ _ (by decide)
                refine iv_X12_189 hK (s_learn_e x 0 (setO h 73 (fup (fup (h 73) 32 (((h 73) 32) - (qS (h 96 x)))) 33 (((h 73) 33) + (qS (h 96 x))))) hT_16 (by first | omega | (simp [up, setR] <;> omega)) (by first | omega | (simp [up, setR] <;> omega)) (by rewrite [e17_74, e18_75]; first | assumption | exact htb)) (by decide) rfl ⟨by decide, by decide⟩ (by decide) rfl rfl (Nat.le_of_ble_eq_true rfl) ⟨by decide, by decide⟩ dX12_tellBit_145 ?_
                intro r9 g145_19 hp9
                obtain ⟨⟨hT_19, hG_19⟩, hr9, p1_19, l1_19, l2_19⟩ := hp9
                rw [hr9]
                have hF_19 : FRM [73, 96, 97, 98] [32, 33, 34, 36] h g145_19 := FRM_tr hF_16 hG_19 (by decide) (by decide)
                rw [show (setO h 73 (fup (fup (h 73) 32 (((h 73) 32) - (qS (h 96 x)))) 33 (((h 73) 33) + (qS (h 96 x))))) 75 = h 75 from sOf_ne _ _ (by decide)] at p1_19
                rw [show (setO h 73 (fup (fup (h 73) 32 (((h 73) 32) - (qS (h 96 x)))) 33 (((h 73) 33) + (qS (h 96 x))))) 96 = h 96 from sOf_ne _ _ (by decide)] at p1_19
                rw [show (setO h 73 (fup (fup (h 73) 32 (((h 73) 32) - (qS (h 96 x)))) 33 (((h 73) 33) + (qS (h 96 x))))) 96 = h 96 from sOf_ne _ _ (by decide)] at l1_19
                rw [show (setO h 73 (fup (fup (h 73) 32 (((h 73) 32) - (qS (h 96 x)))) 33 (((h 73) 33) + (qS (h 96 x))))) 96 = h 96 from sOf_ne _ _ (by decide)] at l2_19
                rw [show (setO h 73 (fup (fup (h 73) 32 (((h 73) 32) - (qS (h 96 x)))) 33 (((h 73) 33) + (qS (h 96 x))))) 97 = h 97 from sOf_ne _ _ (by decide)] at l2_19
                have l1_at145 := l1_19
                have l2_at145 := l2_19
                show TT K ly 0 0 148 [(6, vI 0), (5, vI 0), (4, vI 0), (3, vI (qS (h 96 x))), (0, vR 73), (1, vI x), (2, vI b)] [] g145_19
                have L148_20 : ∀ (k20 : Nat) (R9 : Int × Int × Int × Int × (Int → Int)) (X9 : Int) (w148_20 : Hp_), TY w148_20 → FRM [73, 96, 97, 98] [32, 33, 34, 36] h w148_20 → (1 ≤ (w148_20 73 32) ∧ (w148_20 73 32) < 65536) → (1 ≤ (w148_20 73 34)) → (1 ≤ (w148_20 73 36)) → (7 * (w148_20 73 36) - (w148_20 73 34) + ndb (w148_20 73 32) + PhS (w148_20 96) ≤ 7 * (h 73 36) - (h 73 34) + PhS (h 96) + 9) → (0 ≤ PhS (w148_20 96)) → (0 ≤ ndb (w148_20 73 32)) → (∃ f, MIE_ f (w148_20 73 32) (w148_20 73 33) (w148_20 73 34) (w148_20 73 36) (w148_20 98) R9 X9) → (X9 ≤ 22400) → (tellS (h 73 32, h 73 33, h 73 34, h 73 36, h 96, h 97, h 98) x b = (R9.1, R9.2.1, R9.2.2.1, R9.2.2.2.1, (w148_20 96), (w148_20 97), R9.2.2.2.2)) → ((65536 : Int) - (w148_20 73 32)).toNat < k20 → TT K ly 0 0 148 [(0, vR 73), (1, vI x), (2, vI b)] [] w148_20 := by
                  intro k20
                  induction k20 with
                  | zero => intro R9 X9 w148_20 hT148_20 hF148_20 ha1 ht1 hn1 hp1 hz1 hz2 hM hX hR hk20; exact absurd hk20 (Nat.not_lt_zero _)
                  | succ k20 ih20 =>
                    intro R9 X9 w148_20 hT148_20 hF148_20 ha1 ht1 hn1 hp1 hz1 hz2 hM hX hR hk20
                    obtain ⟨f, hf⟩ := hM
                    have hcr := hf.2.2.2.c_r
                    obtain ⟨m1, m2, m3, m4, m5, m6, m7, m8, m9⟩ := hf.2.2.2
                    have hM : ∃ f, MIE_ f _ _ _ _ _ R9 X9 := ⟨f, hf⟩
                    refine TT_aload_n hK rfl 0 rfl dX12_tellBit_148 ?_
                    refine gf_X12_171 hK (by decide) rfl (v := (w148_20 73) 32) rfl dX12_tellBit_149 ?_
                    have r21 := ty_73_32 (v := (w148_20 73) 32) hT148_20 rfl
                    refine TT_ldc2 hK lc_X12_169 dX12_tellBit_152 ?_
                    refine TT_lcmp hK (lrm (by omega) (by omega)) (by decide) dX12_tellBit_155 ?_
                    refine TT_if_ge hK (tgt := 207) (lcmp_ir _ _) dX12_tellBit_156 (by decide) (fun hb156_22 => ?_) (fun hb156_22 => ?_)
                    · have hb156_22 := lcmp_ge hb156_22
                      refine TT_iload_n hK rfl 2 rfl dX12_tellBit_207 ?_
                      refine TT_iret hK hQ ?_ dX12_tellBit_208
                      have e23_73_32 : w148_20 73 32 = (w148_20 73) 32 := rfl
                      have e24_73_34 : w148_20 73 34 = (w148_20 73) 34 := rfl
                      have e25_73_36 : w148_20 73 36 = (w148_20 73) 36 := rfl
                      have e26_73_34 : w148_20 73 34 = (w148_20 73) 34 := rfl
                      have e27_73_36 : w148_20 73 36 = (w148_20 73) 36 := rfl
                      have e28_73_32 : w148_20 73 32 = (w148_20 73) 32 := rfl
                      have e29_73_33 : w148_20 73 33 = (w148_20 73) 33 := rfl
                      have e30_73_34 : w148_20 73 34 = (w148_20 73) 34 := rfl
                      have e31_73_36 : w148_20 73 36 = (w148_20 73) 36 := rfl
                      exact ⟨⟨hT148_20, hF148_20⟩, b, rfl, (by omega), (by omega), (by rewrite [e23_73_32]; omega), (by rewrite [e24_73_34]; omega), (by rewrite [e25_73_36]; omega), (by rewrite [e26_73_34, e27_73_36]; omega), (by rewrite [e28_73_32, e29_73_33, e30_73_34, e31_73_36]; first | (exact (tellS_1 (by omega)).symm) | (rw [hR, ← MI_done hM.choose_spec (by omega)]))⟩
                    · have hb156_22 := lcmp_lt hb156_22
                      have hd9 := ndb_2 (a := (w148_20 73) 32) (by omega) (by omega)
                      refine TT_aload_n hK rfl 0 rfl dX12_tellBit_159 ?_
                      refine TT_ldc2 hK lc_X12_193 dX12_tellBit_160 ?_
                      refine TT_aload_n hK rfl 0 rfl dX12_tellBit_163 ?_
                      refine gf_X12_171 hK (by decide) rfl (v := (w148_20 73) 32) rfl dX12_tellBit_164 ?_
                      refine TT_lmul hK dX12_tellBit_167 ?_
                      refine pf_X12_171 hK (by decide) rfl dX12_tellBit_168 ?_
                      refine TT_hp (h' := setO w148_20 73 (fup (w148_20 73) 32 (2 * ((w148_20 73) 32)))) (up_can rfl rfl rfl) ?_
                      have hT_32 : TY (setO w148_20 73 (fup (w148_20 73) 32 (2 * ((w148_20 73) 32)))) := tu_73_32 hT148_20 (show up w148_20 73 32 (2 * ((w148_20 73) 32)) = (setO w148_20 73 (fup (w148_20 73) 32 (2 * ((w148_20 73) 32)))) from up_can rfl rfl rfl) (by omega)
                      have hF_32 : FRM [73, 96, 97, 98] [32, 33, 34, 36] h (setO w148_20 73 (fup (w148_20 73) 32 (2 * ((w148_20 73) 32)))) := FRM_f (show up w148_20 73 32 (2 * ((w148_20 73) 32)) = (setO w148_20 73 (fup (w148_20 73) 32 (2 * ((w148_20 73) 32)))) from up_can rfl rfl rfl) hF148_20 (by decide) (by decide)
                      refine TT_aload_n hK rfl 0 rfl dX12_tellBit_171 ?_
                      refine TT_ldc2 hK lc_X12_193 dX12_tellBit_172 ?_
                      refine TT_aload_n hK rfl 0 rfl dX12_tellBit_175 ?_
                      refine gf_X12_175 hK (by decide) rfl (v := (w148_20 73) 33) (rd_ (sOf_eq _ _ _) (fup_ne _ _ (by decide))) dX12_tellBit_176 ?_
                      have r33 := ty_73_33 (v := (w148_20 73) 33) hT_32 (rd_ (sOf_eq _ _ _) (fup_ne _ _ (by decide)))
                      refine TT_lmul hK dX12_tellBit_179 ?_
                      refine pf_X12_175 hK (by decide) rfl dX12_tellBit_180 ?_
                      refine TT_hp (h' := setO w148_20 73 (fup (fup (w148_20 73) 32 (2 * ((w148_20 73) 32))) 33 (2 * ((w148_20 73) 33)))) (up_can (sOf_eq _ _ _) rfl (setO_same _ _ _ _)) ?_
                      have hT_34 : TY (setO w148_20 73 (fup (fup (w148_20 73) 32 (2 * ((w148_20 73) 32))) 33 (2 * ((w148_20 73) 33)))) := tu_73_33 hT_32 (show up (setO w148_20 73 (fup (w148_20 73) 32 (2 * ((w148_20 73) 32)))) 73 33 (2 * ((w148_20 73) 33)) = (setO w148_20 73 (fup (fup (w148_20 73) 32 (2 * ((w148_20 73) 32))) 33 (2 * ((w148_20 73) 33)))) from up_can (sOf_eq _ _ _) rfl (setO_same _ _ _ _)) (by omega)
                      have hF_34 : FRM [73, 96, 97, 98] [32, 33, 34, 36] h (setO w148_20 73 (fup (fup (w148_20 73) 32 (2 * ((w148_20 73) 32))) 33 (2 * ((w148_20 73) 33)))) := FRM_f (show up (setO w148_20 73 (fup (w148_20 73) 32 (2 * ((w148_20 73) 32)))) 73 33 (2 * ((w148_20 73) 33)) = (setO w148_20 73 (fup (fup (w148_20 73) 32 (2 * ((w148_20 73) 32))) 33 (2 * ((w148_20 73) 33)))) from up_can (sOf_eq _ _ _) rfl (setO_same _ _ _ _)) hF_32 (by decide) (by decide)
                      refine TT_aload_n hK rfl 0 rfl dX12_tellBit_183 ?_
                      refine TT_dup hK rfl dX12_tellBit_184 ?_
                      refine gf_X12_178 hK (by decide) rfl (v := (w148_20 73) 34) (rd_ (sOf_eq _ _ _) ((fup_ne _ _ (by decide)).trans (fup_ne _ _ (by decide)))) dX12_tellBit_185 ?_
                      have r35 := ty_73_34 (v := (w148_20 73) 34) hT_34 (rd_ (sOf_eq _ _ _) ((fup_ne _ _ (by decide)).trans (fup_ne _ _ (by decide))))
                      refine TT_iconst hK dX12_tellBit_188 ?_
                      refine TT_isub hK dX12_tellBit_189 ?_
                      refine pf_X12_178 hK (by decide) rfl dX12_tellBit_190 ?_
                      refine TT_hp (h' := setO w148_20 73 (fup (fup (fup (w148_20 73) 32 (2 * ((w148_20 73) 32))) 33 (2 * ((w148_20 73) 33))) 34 (((w148_20 73) 34) - 1))) (up_can (sOf_eq _ _ _) rfl (setO_same _ _ _ _)) ?_
                      have hT_36 : TY (setO w148_20 73 (fup (fup (fup (w148_20 73) 32 (2 * ((w148_20 73) 32))) 33 (2 * ((w148_20 73) 33))) 34 (((w148_20 73) 34) - 1))) := tu_73_34 hT_34 (show up (setO w148_20 73 (fup (fup (w148_20 73) 32 (2 * ((w148_20 73) 32))) 33 (2 * ((w148_20 73) 33)))) 73 34 (((w148_20 73) 34) - 1) = (setO w148_20 73 (fup (fup (fup (w148_20 73) 32 (2 * ((w148_20 73) 32))) 33 (2 * ((w148_20 73) 33))) 34 (((w148_20 73) 34) - 1))) from up_can (sOf_eq _ _ _) rfl (setO_same _ _ _ _)) (by omega)
                      have hF_36 : FRM [73, 96, 97, 98] [32, 33, 34, 36] h (setO w148_20 73 (fup (fup (fup (w148_20 73) 32 (2 * ((w148_20 73) 32))) 33 (2 * ((w148_20 73) 33))) 34 (((w148_20 73) 34) - 1))) := FRM_f (show up (setO w148_20 73 (fup (fup (w148_20 73) 32 (2 * ((w148_20 73) 32))) 33 (2 * ((w148_20 73) 33)))) 73 34 (((w148_20 73) 34) - 1) = (setO w148_20 73 (fup (fup (fup (w148_20 73) 32 (2 * ((w148_20 73) 32))) 33 (2 * ((w148_20 73) 33))) 34 (((w148_20 73) 34) - 1))) from up_can (sOf_eq _ _ _) rfl (setO_same _ _ _ _)) hF_34 (by decide) (by decide)
                      refine TT_aload_n hK rfl 0 rfl dX12_tellBit_193 ?_
                      refine gf_X12_178 hK (by decide) rfl (v := ((w148_20 73) 34) - 1) (rd_ (sOf_eq _ _ _) (fup_eq _ _ _)) dX12_tellBit_194 ?_
                      have r37 := ty_73_34 (v := ((w148_20 73) 34) - 1) hT_36 (rd_ (sOf_eq _ _ _) (fup_eq _ _ _))
                      refine TT_if_ne hK (tgt := 148) (irm (by omega) (by omega)) dX12_tellBit_197 (by decide) (fun hb197_38 => ?_) (fun hb197_38 => ?_)
                      · have e39_73_32 : (setO w148_20 73 (fup (fup (fup (w148_20 73) 32 (2 * ((w148_20 73) 32))) 33 (2 * ((w148_20 73) 33))) 34 (((w148_20 73) 34) - 1))) 73 32 = 2 * ((w148_20 73) 32) := rd_ (sOf_eq _ _ _) ((fup_ne _ _ (by decide)).trans ((fup_ne _ _ (by decide)).trans (fup_eq _ _ _)))
                        have e40_73_34 : (setO w148_20 73 (fup (fup (fup (w148_20 73) 32 (2 * ((w148_20 73) 32))) 33 (2 * ((w148_20 73) 33))) 34 (((w148_20 73) 34) - 1))) 73 34 = ((w148_20 73) 34) - 1 := rd_ (sOf_eq _ _ _) (fup_eq _ _ _)
                        have e41_73_36 : (setO w148_20 73 (fup (fup (fup (w148_20 73) 32 (2 * ((w148_20 73) 32))) 33 (2 * ((w148_20 73) 33))) 34 (((w148_20 73) 34) - 1))) 73 36 = (w148_20 73) 36 := rd_ (sOf_eq _ _ _) ((fup_ne _ _ (by decide)).trans ((fup_ne _ _ (by decide)).trans (fup_ne _ _ (by decide))))
                        have e42_73_32 : (setO w148_20 73 (fup (fup (fup (w148_20 73) 32 (2 * ((w148_20 73) 32))) 33 (2 * ((w148_20 73) 33))) 34 (((w148_20 73) 34) - 1))) 73 32 = 2 * ((w148_20 73) 32) := rd_ (sOf_eq _ _ _) ((fup_ne _ _ (by decide)).trans ((fup_ne _ _ (by decide)).trans (fup_eq _ _ _)))
                        have e43_73_34 : (setO w148_20 73 (fup (fup (fup (w148_20 73) 32 (2 * ((w148_20 73) 32))) 33 (2 * ((w148_20 73) 33))) 34 (((w148_20 73) 34) - 1))) 73 34 = ((w148_20 73) 34) - 1 := rd_ (sOf_eq _ _ _) (fup_eq _ _ _)
                        have e44_73_36 : (setO w148_20 73 (fup (fup (fup (w148_20 73) 32 (2 * ((w148_20 73) 32))) 33 (2 * ((w148_20 73) 33))) 34 (((w148_20 73) 34) - 1))) 73 36 = (w148_20 73) 36 := rd_ (sOf_eq _ _ _) ((fup_ne _ _ (by decide)).trans ((fup_ne _ _ (by decide)).trans (fup_ne _ _ (by decide))))
                        have e45_96 : (setO w148_20 73 (fup (fup (fup (w148_20 73) 32 (2 * ((w148_20 73) 32))) 33 (2 * ((w148_20 73) 33))) 34 (((w148_20 73) 34) - 1))) 96 = w148_20 96 := sOf_ne _ _ (by decide)
                        have e46_96 : (setO w148_20 73 (fup (fup (fup (w148_20 73) 32 (2 * ((w148_20 73) 32))) 33 (2 * ((w148_20 73) 33))) 34 (((w148_20 73) 34) - 1))) 96 = w148_20 96 := sOf_ne _ _ (by decide)
                        have e47_73_32 : (setO w148_20 73 (fup (fup (fup (w148_20 73) 32 (2 * ((w148_20 73) 32))) 33 (2 * ((w148_20 73) 33))) 34 (((w148_20 73) 34) - 1))) 73 32 = 2 * ((w148_20 73) 32) := rd_ (sOf_eq _ _ _) ((fup_ne _ _ (by decide)).trans ((fup_ne _ _ (by decide)).trans (fup_eq _ _ _)))
                        have e48_73_32 : (setO w148_20 73 (fup (fup (fup (w148_20 73) 32 (2 * ((w148_20 73) 32))) 33 (2 * ((w148_20 73) 33))) 34 (((w148_20 73) 34) - 1))) 73 32 = 2 * ((w148_20 73) 32) := rd_ (sOf_eq _ _ _) ((fup_ne _ _ (by decide)).trans ((fup_ne _ _ (by decide)).trans (fup_eq _ _ _)))
                        have e49_73_33 : (setO w148_20 73 (fup (fup (fup (w148_20 73) 32 (2 * ((w148_20 73) 32))) 33 (2 * ((w148_20 73) 33))) 34 (((w148_20 73) 34) - 1))) 73 33 = 2 * ((w148_20 73) 33) := rd_ (sOf_eq _ _ _) ((fup_ne _ _ (by decide)).trans (fup_eq _ _ _))
                        have e50_73_34 : (setO w148_20 73 (fup (fup (fup (w148_20 73) 32 (2 * ((w148_20 73) 32))) 33 (2 * ((w148_20 73) 33))) 34 (((w148_20 73) 34) - 1))) 73 34 = ((w148_20 73) 34) - 1 := rd_ (sOf_eq _ _ _) (fup_eq _ _ _)
                        have e51_73_36 : (setO w148_20 73 (fup (fup (fup (w148_20 73) 32 (2 * ((w148_20 73) 32))) 33 (2 * ((w148_20 73) 33))) 34 (((w148_20 73) 34) - 1))) 73 36 = (w148_20 73) 36 := rd_ (sOf_eq _ _ _) ((fup_ne _ _ (by decide)).trans ((fup_ne _ _ (by decide)).trans (fup_ne _ _ (by decide))))
                        have e52_98 : (setO w148_20 73 (fup (fup (fup (w148_20 73) 32 (2 * ((w148_20 73) 32))) 33 (2 * ((w148_20 73) 33))) 34 (((w148_20 73) 34) - 1))) 98 = w148_20 98 := sOf_ne _ _ (by decide)
                        have e53_96 : (setO w148_20 73 (fup (fup (fup (w148_20 73) 32 (2 * ((w148_20 73) 32))) 33 (2 * ((w148_20 73) 33))) 34 (((w148_20 73) 34) - 1))) 96 = w148_20 96 := sOf_ne _ _ (by decide)
                        have e54_97 : (setO w148_20 73 (fup (fup (fup (w148_20 73) 32 (2 * ((w148_20 73) 32))) 33 (2 * ((w148_20 73) 33))) 34 (((w148_20 73) 34) - 1))) 97 = w148_20 97 := sOf_ne _ _ (by decide)
                        have e55_73_32 : (setO w148_20 73 (fup (fup (fup (w148_20 73) 32 (2 * ((w148_20 73) 32))) 33 (2 * ((w148_20 73) 33))) 34 (((w148_20 73) 34) - 1))) 73 32 = 2 * ((w148_20 73) 32) := rd_ (sOf_eq _ _ _) ((fup_ne _ _ (by decide)).trans ((fup_ne _ _ (by decide)).trans (fup_eq _ _ _)))
                        exact ih20 R9 X9 (setO w148_20 73 (fup (fup (fup (w148_20 73) 32 (2 * ((w148_20 73) 32))) 33 (2 * ((w148_20 73) 33))) 34 (((w148_20 73) 34) - 1))) hT_36 hF_36 (by rewrite [e39_73_32]; first | omega | (simp [up, setR] <;> omega)) (by rewrite [e40_73_34]; first | omega | (simp [up, setR] <;> omega)) (by rewrite [e41_73_36]; first | omega | (simp [up, setR] <;> omega)) (by rewrite [e42_73_32, e43_73_34, e44_73_36, e45_96]; first | omega | (simp [up, setR] <;> omega)) (by rewrite [e46_96]; exact (PhS_r _).1) (by rewrite [e47_73_32]; exact (ndb_r _).1) (by rewrite [e48_73_32, e49_73_33, e50_73_34, e51_73_36, e52_98]; cases f with | zero => exact absurd (MI_z hf) (by omega) | succ f => first | exact ⟨f, MI_next hf (by omega) (by omega)⟩ | (rw [o1_at201, o2_at201, o3_at201, o4_at201]; exact ⟨f, MI_out hf (by omega) (by omega)⟩)) (by first | omega | (simp [up, setR] <;> omega)) (by rewrite [e53_96, e54_97]; exact hR) (by rewrite [e55_73_32]; first | omega | (simp [up, setR] <;> omega))
                      · refine TT_aload_n hK rfl 0 rfl dX12_tellBit_200 ?_
                        have e56_73_36 : (setO w148_20 73 (fup (fup (fup (w148_20 73) 32 (2 * ((w148_20 73) 32))) 33 (2 * ((w148_20 73) 33))) 34 (((w148_20 73) 34) - 1))) 73 36 = (w148_20 73) 36 := rd_ (sOf_eq _ _ _) ((fup_ne _ _ (by decide)).trans ((fup_ne _ _ (by decide)).trans (fup_ne _ _ (by decide))))
                        have e57_73_33 : (setO w148_20 73 (fup (fup (fup (w148_20 73) 32 (2 * ((w148_20 73) 32))) 33 (2 * ((w148_20 73) 33))) 34 (((w148_20 73) 34) - 1))) 73 33 = 2 * ((w148_20 73) 33) := rd_ (sOf_eq _ _ _) ((fup_ne _ _ (by decide)).trans (fup_eq _ _ _))
                        have e58_73_36 : (setO w148_20 73 (fup (fup (fup (w148_20 73) 32 (2 * ((w148_20 73) 32))) 33 (2 * ((w148_20 73) 33))) 34 (((w148_20 73) 34) - 1))) 73 36 = (w148_20 73) 36 := rd_ (sOf_eq _ _ _) ((fup_ne _ _ (by decide)).trans ((fup_ne _ _ (by decide)).trans (fup_ne _ _ (by decide))))
                        have e59_98 : (setO w148_20 73 (fup (fup (fup (w148_20 73) 32 (2 * ((w148_20 73) 32))) 33 (2 * ((w148_20 73) 33))) 34 (((w148_20 73) 34) - 1))) 98 = w148_20 98 := sOf_ne _ _ (by decide)
                        refine iv_X12_195 hK (s_putOut_e (setO w148_20 73 (fup (fup (fup (w148_20 73) 32 (2 * ((w148_20 73) 32))) 33 (2 * ((w148_20 73) 33))) 34 (((w148_20 73) 34) - 1))) hT_36 (by rewrite [e56_73_36]; first | omega | (simp [up, setR] <;> omega)) (by rewrite [e57_73_33]; first | omega | (simp [up, setR] <;> omega)) (by rewrite [e58_73_36, e59_98]; first | omega | (simp [up, setR] <;> omega))) (by decide) rfl ⟨by decide, by decide⟩ (by decide) rfl rfl (Nat.le_of_ble_eq_true rfl) ⟨by decide, by decide⟩ dX12_tellBit_201 ?_
                        intro r9 g201_60 hp9
                        obtain ⟨⟨hT_60, hG_60⟩, hr9, p1_60, p2_60, o1_60, o2_60, o3_60, o4_60⟩ := hp9
                        rw [hr9]
                        have hF_60 : FRM [73, 96, 97, 98] [32, 33, 34, 36] h g201_60 := FRM_tr hF_36 hG_60 (by decide) (by decide)
                        rw [show (setO w148_20 73 (fup (fup (fup (w148_20 73) 32 (2 * ((w148_20 73) 32))) 33 (2 * ((w148_20 73) 33))) 34 (((w148_20 73) 34) - 1))) 73 36 = (w148_20 73) 36 from rd_ (sOf_eq _ _ _) ((fup_ne _ _ (by decide)).trans ((fup_ne _ _ (by decide)).trans (fup_ne _ _ (by decide))))] at p1_60
                        rw [show (setO w148_20 73 (fup (fup (fup (w148_20 73) 32 (2 * ((w148_20 73) 32))) 33 (2 * ((w148_20 73) 33))) 34 (((w148_20 73) 34) - 1))) 73 33 = 2 * ((w148_20 73) 33) from rd_ (sOf_eq _ _ _) ((fup_ne _ _ (by decide)).trans (fup_eq _ _ _))] at o1_60
                        rw [show (setO w148_20 73 (fup (fup (fup (w148_20 73) 32 (2 * ((w148_20 73) 32))) 33 (2 * ((w148_20 73) 33))) 34 (((w148_20 73) 34) - 1))) 73 36 = (w148_20 73) 36 from rd_ (sOf_eq _ _ _) ((fup_ne _ _ (by decide)).trans ((fup_ne _ _ (by decide)).trans (fup_ne _ _ (by decide))))] at o1_60
                        rw [show (setO w148_20 73 (fup (fup (fup (w148_20 73) 32 (2 * ((w148_20 73) 32))) 33 (2 * ((w148_20 73) 33))) 34 (((w148_20 73) 34) - 1))) 98 = w148_20 98 from sOf_ne _ _ (by decide)] at o1_60
                        rw [show (setO w148_20 73 (fup (fup (fup (w148_20 73) 32 (2 * ((w148_20 73) 32))) 33 (2 * ((w148_20 73) 33))) 34 (((w148_20 73) 34) - 1))) 73 33 = 2 * ((w148_20 73) 33) from rd_ (sOf_eq _ _ _) ((fup_ne _ _ (by decide)).trans (fup_eq _ _ _))] at o2_60
                        rw [show (setO w148_20 73 (fup (fup (fup (w148_20 73) 32 (2 * ((w148_20 73) 32))) 33 (2 * ((w148_20 73) 33))) 34 (((w148_20 73) 34) - 1))) 73 36 = (w148_20 73) 36 from rd_ (sOf_eq _ _ _) ((fup_ne _ _ (by decide)).trans ((fup_ne _ _ (by decide)).trans (fup_ne _ _ (by decide))))] at o2_60
                        rw [show (setO w148_20 73 (fup (fup (fup (w148_20 73) 32 (2 * ((w148_20 73) 32))) 33 (2 * ((w148_20 73) 33))) 34 (((w148_20 73) 34) - 1))) 98 = w148_20 98 from sOf_ne _ _ (by decide)] at o2_60
                        rw [show (setO w148_20 73 (fup (fup (fup (w148_20 73) 32 (2 * ((w148_20 73) 32))) 33 (2 * ((w148_20 73) 33))) 34 (((w148_20 73) 34) - 1))) 73 33 = 2 * ((w148_20 73) 33) from rd_ (sOf_eq _ _ _) ((fup_ne _ _ (by decide)).trans (fup_eq _ _ _))] at o3_60
                        rw [show (setO w148_20 73 (fup (fup (fup (w148_20 73) 32 (2 * ((w148_20 73) 32))) 33 (2 * ((w148_20 73) 33))) 34 (((w148_20 73) 34) - 1))) 73 36 = (w148_20 73) 36 from rd_ (sOf_eq _ _ _) ((fup_ne _ _ (by decide)).trans ((fup_ne _ _ (by decide)).trans (fup_ne _ _ (by decide))))] at o3_60
                        rw [show (setO w148_20 73 (fup (fup (fup (w148_20 73) 32 (2 * ((w148_20 73) 32))) 33 (2 * ((w148_20 73) 33))) 34 (((w148_20 73) 34) - 1))) 98 = w148_20 98 from sOf_ne _ _ (by decide)] at o3_60
                        rw [show (setO w148_20 73 (fup (fup (fup (w148_20 73) 32 (2 * ((w148_20 73) 32))) 33 (2 * ((w148_20 73) 33))) 34 (((w148_20 73) 34) - 1))) 73 33 = 2 * ((w148_20 73) 33) from rd_ (sOf_eq _ _ _) ((fup_ne _ _ (by decide)).trans (fup_eq _ _ _))] at o4_60
                        rw [show (setO w148_20 73 (fup (fup (fup (w148_20 73) 32 (2 * ((w148_20 73) 32))) 33 (2 * ((w148_20 73) 33))) 34 (((w148_20 73) 34) - 1))) 73 36 = (w148_20 73) 36 from rd_ (sOf_eq _ _ _) ((fup_ne _ _ (by decide)).trans ((fup_ne _ _ (by decide)).trans (fup_ne _ _ (by decide))))] at o4_60
                        rw [show (setO w148_20 73 (fup (fup (fup (w148_20 73) 32 (2 * ((w148_20 73) 32))) 33 (2 * ((w148_20 73) 33))) 34 (((w148_20 73) 34) - 1))) 98 = w148_20 98 from sOf_ne _ _ (by decide)] at o4_60
                        have o1_at201 := o1_60
                        have o2_at201 := o2_60
                        have o3_at201 := o3_60
                        have o4_at201 := o4_60
                        show TT K ly 0 0 204 [(0, vR 73), (1, vI x), (2, vI b)] [] g201_60
                        refine TT_goto hK (tgt := 148) dX12_tellBit_204 (by decide) ?_
                        have e61_73_32 : g201_60 73 32 = 2 * ((w148_20 73) 32) := ((hG_60.2 32 (by decide))).trans (rd_ (sOf_eq _ _ _) ((fup_ne _ _ (by decide)).trans ((fup_ne _ _ (by decide)).trans (fup_eq _ _ _))))
                        have e62_73_34 : g201_60 73 34 = (g201_60 73) 34 := rfl
                        have e63_73_36 : g201_60 73 36 = (g201_60 73) 36 := rfl
                        have e64_73_32 : g201_60 73 32 = 2 * ((w148_20 73) 32) := ((hG_60.2 32 (by decide))).trans (rd_ (sOf_eq _ _ _) ((fup_ne _ _ (by decide)).trans ((fup_ne _ _ (by decide)).trans (fup_eq _ _ _))))
                        have e65_73_34 : g201_60 73 34 = (g201_60 73) 34 := rfl
                        have e66_73_36 : g201_60 73 36 = (g201_60 73) 36 := rfl
                        have e67_96 : g201_60 96 = w148_20 96 := ((hG_60.1 96 (by decide))).trans (sOf_ne _ _ (by decide))
                        have e68_96 : g201_60 96 = w148_20 96 := ((hG_60.1 96 (by decide))).trans (sOf_ne _ _ (by decide))
                        have e69_73_32 : g201_60 73 32 = 2 * ((w148_20 73) 32) := ((hG_60.2 32 (by decide))).trans (rd_ (sOf_eq _ _ _) ((fup_ne _ _ (by decide)).trans ((fup_ne _ _ (by decide)).trans (fup_eq _ _ _))))
                        have e70_73_32 : g201_60 73 32 = 2 * ((w148_20 73) 32) := ((hG_60.2 32 (by decide))).trans (rd_ (sOf_eq _ _ _) ((fup_ne _ _ (by decide)).trans ((fup_ne _ _ (by decide)).trans (fup_eq _ _ _))))
                        have e71_73_33 : g201_60 73 33 = (g201_60 73) 33 := rfl
                        have e72_73_34 : g201_60 73 34 = (g201_60 73) 34 := rfl
                        have e73_73_36 : g201_60 73 36 = (g201_60 73) 36 := rfl
                        have e74_96 : g201_60 96 = w148_20 96 := ((hG_60.1 96 (by decide))).trans (sOf_ne _ _ (by decide))
                        have e75_97 : g201_60 97 = w148_20 97 := ((hG_60.1 97 (by decide))).trans (sOf_ne _ _ (by decide))
                        have e76_73_32 : g201_60 73 32 = 2 * ((w148_20 73) 32) := ((hG_60.2 32 (by decide))).trans (rd_ (sOf_eq _ _ _) ((fup_ne _ _ (by decide)).trans ((fup_ne _ _ (by decide)).trans (fup_eq _ _ _))))
                        exact ih20 R9 X9 g201_60 hT_60 hF_60 (by rewrite [e61_73_32]; first | omega | (simp [up, setR] <;> omega)) (by rewrite [e62_73_34]; first | omega | (simp [up, setR] <;> omega)) (by rewrite [e63_73_36]; first | omega | (simp [up, setR] <;> omega)) (by rewrite [e64_73_32, e65_73_34, e66_73_36, e67_96]; first | omega | (simp [up, setR] <;> omega)) (by rewrite [e68_96]; exact (PhS_r _).1) (by rewrite [e69_73_32]; exact (ndb_r _).1) (by rewrite [e70_73_32, e71_73_33, e72_73_34, e73_73_36]; cases f with | zero => exact absurd (MI_z hf) (by omega) | succ f => first | exact ⟨f, MI_next hf (by omega) (by omega)⟩ | (rw [o1_at201, o2_at201, o3_at201, o4_at201]; exact ⟨f, MI_out hf (by omega) (by omega)⟩)) (by first | omega | (simp [up, setR] <;> omega)) (by rewrite [e74_96, e75_97]; exact hR) (by rewrite [e76_73_32]; first | omega | (simp [up, setR] <;> omega))
                refine TT_sub [4, 5, 6] rfl ?_
                have e77_73_32 : g145_19 73 32 = ((h 73) 32) - (qS (h 96 x)) := (congrFun (hG_19.1 73 (by decide)) 32).trans (rd_ (sOf_eq _ _ _) ((fup_ne _ _ (by decide)).trans (fup_eq _ _ _)))
                have e78_73_34 : g145_19 73 34 = (h 73) 34 := (congrFun (hG_19.1 73 (by decide)) 34).trans (rd_ (sOf_eq _ _ _) ((fup_ne _ _ (by decide)).trans (fup_ne _ _ (by decide))))
                have e79_73_36 : g145_19 73 36 = (h 73) 36 := (congrFun (hG_19.1 73 (by decide)) 36).trans (rd_ (sOf_eq _ _ _) ((fup_ne _ _ (by decide)).trans (fup_ne _ _ (by decide))))
                have e80_73_32 : g145_19 73 32 = ((h 73) 32) - (qS (h 96 x)) := (congrFun (hG_19.1 73 (by decide)) 32).trans (rd_ (sOf_eq _ _ _) ((fup_ne _ _ (by decide)).trans (fup_eq _ _ _)))
                have e81_73_34 : g145_19 73 34 = (h 73) 34 := (congrFun (hG_19.1 73 (by decide)) 34).trans (rd_ (sOf_eq _ _ _) ((fup_ne _ _ (by decide)).trans (fup_ne _ _ (by decide))))
                have e82_73_36 : g145_19 73 36 = (h 73) 36 := (congrFun (hG_19.1 73 (by decide)) 36).trans (rd_ (sOf_eq _ _ _) ((fup_ne _ _ (by decide)).trans (fup_ne _ _ (by decide))))
                have e83_73_32 : g145_19 73 32 = ((h 73) 32) - (qS (h 96 x)) := (congrFun (hG_19.1 73 (by decide)) 32).trans (rd_ (sOf_eq _ _ _) ((fup_ne _ _ (by decide)).trans (fup_eq _ _ _)))
                have e84_73_32 : g145_19 73 32 = ((h 73) 32) - (qS (h 96 x)) := (congrFun (hG_19.1 73 (by decide)) 32).trans (rd_ (sOf_eq _ _ _) ((fup_ne _ _ (by decide)).trans (fup_eq _ _ _)))
                have e85_73_33 : g145_19 73 33 = ((h 73) 33) + (qS (h 96 x)) := (congrFun (hG_19.1 73 (by decide)) 33).trans (rd_ (sOf_eq _ _ _) (fup_eq _ _ _))
                have e86_73_34 : g145_19 73 34 = (h 73) 34 := (congrFun (hG_19.1 73 (by decide)) 34).trans (rd_ (sOf_eq _ _ _) ((fup_ne _ _ (by decide)).trans (fup_ne _ _ (by decide))))
                have e87_73_36 : g145_19 73 36 = (h 73) 36 := (congrFun (hG_19.1 73 (by decide)) 36).trans (rd_ (sOf_eq _ _ _) ((fup_ne _ _ (by decide)).trans (fup_ne _ _ (by decide))))
                have e88_98 : g145_19 98 = h 98 := ((hG_19.1 98 (by decide))).trans (sOf_ne _ _ (by decide))
                have k9 := NDC (a := ((h 73) 32) - (qS (h 96 x))) (ot := 0) tq (by omega) (by omega)
                exact L148_20 ((((65536 : Int) - (g145_19 73 32)).toNat) + 1) (mendS 15 (((h 73) 32) - (qS (h 96 x))) (((h 73) 33) + (qS (h 96 x))) ((h 73) 34) ((h 73) 36) (h 98)) (7 * h 73 36 - h 73 34 + 15) g145_19 hT_19 hF_19 (by rewrite [e77_73_32]; first | omega | (simp [up, setR] <;> omega)) (by rewrite [e78_73_34]; first | omega | (simp [up, setR] <;> omega)) (by rewrite [e79_73_36]; first | omega | (simp [up, setR] <;> omega)) (by rewrite [e80_73_32, e81_73_34, e82_73_36]; first | omega | (simp [up, setR] <;> omega)) (by exact (PhS_r _).1) (by rewrite [e83_73_32]; exact (ndb_r _).1) (by rewrite [e84_73_32, e85_73_33, e86_73_34, e87_73_36, e88_98]; exact ⟨15, MI_0 (MQ_tell (x := x) (st := h 96) (P := (b = h 97 x ↔ h 73 32 - qS (h 96 x) < qS (h 96 x))) hq ha.1 hs (by first | exact (if_pos (by omega)).symm | exact (if_neg (by omega)).symm) (by first | exact (if_pos (by omega)).symm | exact (if_neg (by omega)).symm))⟩) (by first | omega | (simp [up, setR] <;> omega)) (by rw [l1_at145, l2_at145]; exact tellS_m (by omega) (by first | exact (if_pos (by omega)).symm | exact (if_neg (by omega)).symm) (by first | exact (if_pos (by omega)).symm | exact (if_neg (by omega)).symm) (by omega)) (Nat.lt_succ_self _)
              · exact absurd hb126_15 (by decide)
            · exact absurd hb103_12 (by decide)
          · exact absurd hb90_11 (by decide)
        · have hb76_10 := lcmp_lt hb76_10
          refine TT_iconst hK dX12_tellBit_79 ?_
          refine TT_goto hK (tgt := 84) dX12_tellBit_80 (by decide) ?_
          refine TT_istore hK (lv' := [(5, vI 1), (4, vI 0), (3, vI (qS (h 96 x))), (0, vR 73), (1, vI x), (2, vI b)]) (by decide) rfl dX12_tellBit_84 ?_
          refine TT_iload hK 1 rfl dX12_tellBit_86 ?_
          refine TT_iload hK 0 rfl dX12_tellBit_88 ?_
          refine TT_icmp_eq hK (tgt := 97) (by decide) (by decide) dX12_tellBit_90 (by decide) (fun hb90_89 => ?_) (fun hb90_89 => ?_)
          · exact absurd hb90_89 (by decide)
          · refine TT_iconst hK dX12_tellBit_93 ?_
            refine TT_goto hK (tgt := 98) dX12_tellBit_94 (by decide) ?_
            refine TT_istore hK (lv' := [(6, vI 1), (5, vI 1), (4, vI 0), (3, vI (qS (h 96 x))), (0, vR 73), (1, vI x), (2, vI b)]) (by decide) rfl dX12_tellBit_98 ?_
            refine TT_aload_n hK rfl 4 rfl dX12_tellBit_100 ?_
            refine TT_iload hK 0 rfl dX12_tellBit_101 ?_
            refine TT_if_eq hK (tgt := 113) (by decide) dX12_tellBit_103 (by decide) (fun hb103_90 => ?_) (fun hb103_90 => ?_)
            · exact absurd hb103_90 (by decide)
            · refine TT_aload_n hK rfl 4 rfl dX12_tellBit_106 ?_
              refine gf_X12_175 hK (by decide) rfl (v := (h 73) 33) (rd_ (sOf_eq _ _ _) (fup_ne _ _ (by decide))) dX12_tellBit_107 ?_
              have r91 := ty_73_33 (v := (h 73) 33) hT_6 (rd_ (sOf_eq _ _ _) (fup_ne _ _ (by decide)))
              refine TT_goto hK (tgt := 120) dX12_tellBit_110 (by decide) ?_
              refine pf_X12_175 hK (by decide) rfl dX12_tellBit_120 ?_
              refine TT_hp (h' := setO h 73 (fup (fup (h 73) 32 (((h 73) 32) - (qS (h 96 x)))) 33 ((h 73) 33))) (up_can (sOf_eq _ _ _) rfl (setO_same _ _ _ _)) ?_
              have hT_92 : TY (setO h 73 (fup (fup (h 73) 32 (((h 73) 32) - (qS (h 96 x)))) 33 ((h 73) 33))) := tu_73_33 hT_6 (show up (setO h 73 (fup (h 73) 32 (((h 73) 32) - (qS (h 96 x))))) 73 33 ((h 73) 33) = (setO h 73 (fup (fup (h 73) 32 (((h 73) 32) - (qS (h 96 x)))) 33 ((h 73) 33))) from up_can (sOf_eq _ _ _) rfl (setO_same _ _ _ _)) (by omega)
              have hF_92 : FRM [73, 96, 97, 98] [32, 33, 34, 36] h (setO h 73 (fup (fup (h 73) 32 (((h 73) 32) - (qS (h 96 x)))) 33 ((h 73) 33))) := FRM_f (show up (setO h 73 (fup (h 73) 32 (((h 73) 32) - (qS (h 96 x))))) 73 33 ((h 73) 33) = (setO h 73 (fup (fup (h 73) 32 (((h 73) 32) - (qS (h 96 x)))) 33 ((h 73) 33))) from up_can (sOf_eq _ _ _) rfl (setO_same _ _ _ _)) hF_6 (by decide) (by decide)
              refine TT_aload_n hK rfl 4 rfl dX12_tellBit_123 ?_
              refine TT_iload hK 0 rfl dX12_tellBit_124 ?_
              refine TT_if_eq hK (tgt := 134) (by decide) dX12_tellBit_126 (by decide) (fun hb126_93 => ?_) (fun hb126_93 => ?_)
              · exact absurd hb126_93 (by decide)
              · refine TT_iload_n hK rfl 3 rfl dX12_tellBit_129 ?_
                refine TT_i2l hK (irm (by omega) (by omega)) dX12_tellBit_130 ?_
                refine TT_goto hK (tgt := 138) dX12_tellBit_131 (by decide) ?_
                refine pf_X12_171 hK (by decide) rfl dX12_tellBit_138 ?_
                refine TT_hp (h' := setO h 73 (fup (fup (h 73) 32 (qS (h 96 x))) 33 ((h 73) 33))) (up_can (sOf_eq _ _ _) ((fup_comm _ _ _ (by decide)).trans (fup_cg (fup_same _ _ _ _))) (setO_same _ _ _ _)) ?_
                have hT_94 : TY (setO h 73 (fup (fup (h 73) 32 (qS (h 96 x))) 33 ((h 73) 33))) := tu_73_32 hT_92 (show up (setO h 73 (fup (fup (h 73) 32 (((h 73) 32) - (qS (h 96 x)))) 33 ((h 73) 33))) 73 32 (qS (h 96 x)) = (setO h 73 (fup (fup (h 73) 32 (qS (h 96 x))) 33 ((h 73) 33))) from up_can (sOf_eq _ _ _) ((fup_comm _ _ _ (by decide)).trans (fup_cg (fup_same _ _ _ _))) (setO_same _ _ _ _)) (by omega)
                have hF_94 : FRM [73, 96, 97, 98] [32, 33, 34, 36] h (setO h 73 (fup (fup (h 73) 32 (qS (h 96 x))) 33 ((h 73) 33))) := FRM_f (show up (setO h 73 (fup (fup (h 73) 32 (((h 73) 32) - (qS (h 96 x)))) 33 ((h 73) 33))) 73 32 (qS (h 96 x)) = (setO h 73 (fup (fup (h 73) 32 (qS (h 96 x))) 33 ((h 73) 33))) from up_can (sOf_eq _ _ _) ((fup_comm _ _ _ (by decide)).trans (fup_cg (fup_same _ _ _ _))) (setO_same _ _ _ _)) hF_92 (by decide) (by decide)
                refine TT_aload_n hK rfl 4 rfl dX12_tellBit_141 ?_
                refine TT_iload_n hK rfl 5 rfl dX12_tellBit_142 ?_
                refine TT_iload hK 2 rfl dX12_tellBit_143 ?_
                have e95_74 : (setO h 73 (fup (fup (h 73) 32 (qS (h 96 x))) 33 ((h 73) 33))) 74 = h 74 := sOf_ne _ _ (by decide)
                have e96_75 : (setO h 73 (fup (fup (h 73) 32 (qS (h 96 x))) 33 ((h 73) 33))) 75 = h 75 := sOf_ne _ _ (by decide)
                refine iv_X12_189 hK (s_learn_e x 0 (setO h 73 (fup (fup (h 73) 32 (qS (h 96 x))) 33 ((h 73) 33))) hT_94 (by first | omega | (simp [up, setR] <;> omega)) (by first | omega | (simp [up, setR] <;> omega)) (by rewrite [e95_74, e96_75]; first | assumption | exact htb)) (by decide) rfl ⟨by decide, by decide⟩ (by decide) rfl rfl (Nat.le_of_ble_eq_true rfl) ⟨by decide, by decide⟩ dX12_tellBit_145 ?_
                intro r9 g145_97 hp9
                obtain ⟨⟨hT_97, hG_97⟩, hr9, p1_97, l1_97, l2_97⟩ := hp9
                rw [hr9]
                have hF_97 : FRM [73, 96, 97, 98] [32, 33, 34, 36] h g145_97 := FRM_tr hF_94 hG_97 (by decide) (by decide)
                rw [show (setO h 73 (fup (fup (h 73) 32 (qS (h 96 x))) 33 ((h 73) 33))) 75 = h 75 from sOf_ne _ _ (by decide)] at p1_97
                rw [show (setO h 73 (fup (fup (h 73) 32 (qS (h 96 x))) 33 ((h 73) 33))) 96 = h 96 from sOf_ne _ _ (by decide)] at p1_97
                rw [show (setO h 73 (fup (fup (h 73) 32 (qS (h 96 x))) 33 ((h 73) 33))) 96 = h 96 from sOf_ne _ _ (by decide)] at l1_97
                rw [show (setO h 73 (fup (fup (h 73) 32 (qS (h 96 x))) 33 ((h 73) 33))) 96 = h 96 from sOf_ne _ _ (by decide)] at l2_97
                rw [show (setO h 73 (fup (fup (h 73) 32 (qS (h 96 x))) 33 ((h 73) 33))) 97 = h 97 from sOf_ne _ _ (by decide)] at l2_97
                have l1_at145 := l1_97
                have l2_at145 := l2_97
                show TT K ly 0 0 148 [(6, vI 1), (5, vI 1), (4, vI 0), (3, vI (qS (h 96 x))), (0, vR 73), (1, vI x), (2, vI b)] [] g145_97
                have L148_98 : ∀ (k98 : Nat) (R9 : Int × Int × Int × Int × (Int → Int)) (X9 : Int) (w148_98 : Hp_), TY w148_98 → FRM [73, 96, 97, 98] [32, 33, 34, 36] h w148_98 → (1 ≤ (w148_98 73 32) ∧ (w148_98 73 32) < 65536) → (1 ≤ (w148_98 73 34)) → (1 ≤ (w148_98 73 36)) → (7 * (w148_98 73 36) - (w148_98 73 34) + ndb (w148_98 73 32) + PhS (w148_98 96) ≤ 7 * (h 73 36) - (h 73 34) + PhS (h 96) + 9) → (0 ≤ PhS (w148_98 96)) → (0 ≤ ndb (w148_98 73 32)) → (∃ f, MIE_ f (w148_98 73 32) (w148_98 73 33) (w148_98 73 34) (w148_98 73 36) (w148_98 98) R9 X9) → (X9 ≤ 22400) → (tellS (h 73 32, h 73 33, h 73 34, h 73 36, h 96, h 97, h 98) x b = (R9.1, R9.2.1, R9.2.2.1, R9.2.2.2.1, (w148_98 96), (w148_98 97), R9.2.2.2.2)) → ((65536 : Int) - (w148_98 73 32)).toNat < k98 → TT K ly 0 0 148 [(0, vR 73), (1, vI x), (2, vI b)] [] w148_98 := by
                  intro k98
                  induction k98 with
                  | zero => intro R9 X9 w148_98 hT148_98 hF148_98 ha1 ht1 hn1 hp1 hz1 hz2 hM hX hR hk98; exact absurd hk98 (Nat.not_lt_zero _)
                  | succ k98 ih98 =>
                    intro R9 X9 w148_98 hT148_98 hF148_98 ha1 ht1 hn1 hp1 hz1 hz2 hM hX hR hk98
                    obtain ⟨f, hf⟩ := hM
                    have hcr := hf.2.2.2.c_r
                    obtain ⟨m1, m2, m3, m4, m5, m6, m7, m8, m9⟩ := hf.2.2.2
                    have hM : ∃ f, MIE_ f _ _ _ _ _ R9 X9 := ⟨f, hf⟩
                    refine TT_aload_n hK rfl 0 rfl dX12_tellBit_148 ?_
                    refine gf_X12_171 hK (by decide) rfl (v := (w148_98 73) 32) rfl dX12_tellBit_149 ?_
                    have r99 := ty_73_32 (v := (w148_98 73) 32) hT148_98 rfl
                    refine TT_ldc2 hK lc_X12_169 dX12_tellBit_152 ?_
                    refine TT_lcmp hK (lrm (by omega) (by omega)) (by decide) dX12_tellBit_155 ?_
                    refine TT_if_ge hK (tgt := 207) (lcmp_ir _ _) dX12_tellBit_156 (by decide) (fun hb156_100 => ?_) (fun hb156_100 => ?_)
                    · have hb156_100 := lcmp_ge hb156_100
                      refine TT_iload_n hK rfl 2 rfl dX12_tellBit_207 ?_
                      refine TT_iret hK hQ ?_ dX12_tellBit_208
                      have e101_73_32 : w148_98 73 32 = (w148_98 73) 32 := rfl
                      have e102_73_34 : w148_98 73 34 = (w148_98 73) 34 := rfl
                      have e103_73_36 : w148_98 73 36 = (w148_98 73) 36 := rfl
                      have e104_73_34 : w148_98 73 34 = (w148_98 73) 34 := rfl
                      have e105_73_36 : w148_98 73 36 = (w148_98 73) 36 := rfl
                      have e106_73_32 : w148_98 73 32 = (w148_98 73) 32 := rfl
                      have e107_73_33 : w148_98 73 33 = (w148_98 73) 33 := rfl
                      have e108_73_34 : w148_98 73 34 = (w148_98 73) 34 := rfl
                      have e109_73_36 : w148_98 73 36 = (w148_98 73) 36 := rfl
                      exact ⟨⟨hT148_98, hF148_98⟩, b, rfl, (by omega), (by omega), (by rewrite [e101_73_32]; omega), (by rewrite [e102_73_34]; omega), (by rewrite [e103_73_36]; omega), (by rewrite [e104_73_34, e105_73_36]; omega), (by rewrite [e106_73_32, e107_73_33, e108_73_34, e109_73_36]; first | (exact (tellS_1 (by omega)).symm) | (rw [hR, ← MI_done hM.choose_spec (by omega)]))⟩
                    · have hb156_100 := lcmp_lt hb156_100
                      have hd9 := ndb_2 (a := (w148_98 73) 32) (by omega) (by omega)
                      refine TT_aload_n hK rfl 0 rfl dX12_tellBit_159 ?_
                      refine TT_ldc2 hK lc_X12_193 dX12_tellBit_160 ?_
                      refine TT_aload_n hK rfl 0 rfl dX12_tellBit_163 ?_
                      refine gf_X12_171 hK (by decide) rfl (v := (w148_98 73) 32) rfl dX12_tellBit_164 ?_
                      refine TT_lmul hK dX12_tellBit_167 ?_
                      refine pf_X12_171 hK (by decide) rfl dX12_tellBit_168 ?_
                      refine TT_hp (h' := setO w148_98 73 (fup (w148_98 73) 32 (2 * ((w148_98 73) 32)))) (up_can rfl rfl rfl) ?_
                      have hT_110 : TY (setO w148_98 73 (fup (w148_98 73) 32 (2 * ((w148_98 73) 32)))) := tu_73_32 hT148_98 (show up w148_98 73 32 (2 * ((w148_98 73) 32)) = (setO w148_98 73 (fup (w148_98 73) 32 (2 * ((w148_98 73) 32)))) from up_can rfl rfl rfl) (by omega)
                      have hF_110 : FRM [73, 96, 97, 98] [32, 33, 34, 36] h (setO w148_98 73 (fup (w148_98 73) 32 (2 * ((w148_98 73) 32)))) := FRM_f (show up w148_98 73 32 (2 * ((w148_98 73) 32)) = (setO w148_98 73 (fup (w148_98 73) 32 (2 * ((w148_98 73) 32)))) from up_can rfl rfl rfl) hF148_98 (by decide) (by decide)
                      refine TT_aload_n hK rfl 0 rfl dX12_tellBit_171 ?_
                      refine TT_ldc2 hK lc_X12_193 dX12_tellBit_172 ?_
                      refine TT_aload_n hK rfl 0 rfl dX12_tellBit_175 ?_
                      refine gf_X12_175 hK (by decide) rfl (v := (w148_98 73) 33) (rd_ (sOf_eq _ _ _) (fup_ne _ _ (by decide))) dX12_tellBit_176 ?_
                      have r111 := ty_73_33 (v := (w148_98 73) 33) hT_110 (rd_ (sOf_eq _ _ _) (fup_ne _ _ (by decide)))
                      refine TT_lmul hK dX12_tellBit_179 ?_
                      refine pf_X12_175 hK (by decide) rfl dX12_tellBit_180 ?_
                      refine TT_hp (h' := setO w148_98 73 (fup (fup (w148_98 73) 32 (2 * ((w148_98 73) 32))) 33 (2 * ((w148_98 73) 33)))) (up_can (sOf_eq _ _ _) rfl (setO_same _ _ _ _)) ?_
                      have hT_112 : TY (setO w148_98 73 (fup (fup (w148_98 73) 32 (2 * ((w148_98 73) 32))) 33 (2 * ((w148_98 73) 33)))) := tu_73_33 hT_110 (show up (setO w148_98 73 (fup (w148_98 73) 32 (2 * ((w148_98 73) 32)))) 73 33 (2 * ((w148_98 73) 33)) = (setO w148_98 73 (fup (fup (w148_98 73) 32 (2 * ((w148_98 73) 32))) 33 (2 * ((w148_98 73) 33)))) from up_can (sOf_eq _ _ _) rfl (setO_same _ _ _ _)) (by omega)
                      have hF_112 : FRM [73, 96, 97, 98] [32, 33, 34, 36] h (setO w148_98 73 (fup (fup (w148_98 73) 32 (2 * ((w148_98 73) 32))) 33 (2 * ((w148_98 73) 33)))) := FRM_f (show up (setO w148_98 73 (fup (w148_98 73) 32 (2 * ((w148_98 73) 32)))) 73 33 (2 * ((w148_98 73) 33)) = (setO w148_98 73 (fup (fup (w148_98 73) 32 (2 * ((w148_98 73) 32))) 33 (2 * ((w148_98 73) 33)))) from up_can (sOf_eq _ _ _) rfl (setO_same _ _ _ _)) hF_110 (by decide) (by decide)
                      refine TT_aload_n hK rfl 0 rfl dX12_tellBit_183 ?_
                      refine TT_dup hK rfl dX12_tellBit_184 ?_
                      refine gf_X12_178 hK (by decide) rfl (v := (w148_98 73) 34) (rd_ (sOf_eq _ _ _) ((fup_ne _ _ (by decide)).trans (fup_ne _ _ (by decide)))) dX12_tellBit_185 ?_
                      have r113 := ty_73_34 (v := (w148_98 73) 34) hT_112 (rd_ (sOf_eq _ _ _) ((fup_ne _ _ (by decide)).trans (fup_ne _ _ (by decide))))
                      refine TT_iconst hK dX12_tellBit_188 ?_
                      refine TT_isub hK dX12_tellBit_189 ?_
                      refine pf_X12_178 hK (by decide) rfl dX12_tellBit_190 ?_
                      refine TT_hp (h' := setO w148_98 73 (fup (fup (fup (w148_98 73) 32 (2 * ((w148_98 73) 32))) 33 (2 * ((w148_98 73) 33))) 34 (((w148_98 73) 34) - 1))) (up_can (sOf_eq _ _ _) rfl (setO_same _ _ _ _)) ?_
                      have hT_114 : TY (setO w148_98 73 (fup (fup (fup (w148_98 73) 32 (2 * ((w148_98 73) 32))) 33 (2 * ((w148_98 73) 33))) 34 (((w148_98 73) 34) - 1))) := tu_73_34 hT_112 (show up (setO w148_98 73 (fup (fup (w148_98 73) 32 (2 * ((w148_98 73) 32))) 33 (2 * ((w148_98 73) 33)))) 73 34 (((w148_98 73) 34) - 1) = (setO w148_98 73 (fup (fup (fup (w148_98 73) 32 (2 * ((w148_98 73) 32))) 33 (2 * ((w148_98 73) 33))) 34 (((w148_98 73) 34) - 1))) from up_can (sOf_eq _ _ _) rfl (setO_same _ _ _ _)) (by omega)
                      have hF_114 : FRM [73, 96, 97, 98] [32, 33, 34, 36] h (setO w148_98 73 (fup (fup (fup (w148_98 73) 32 (2 * ((w148_98 73) 32))) 33 (2 * ((w148_98 73) 33))) 34 (((w148_98 73) 34) - 1))) := FRM_f (show up (setO w148_98 73 (fup (fup (w148_98 73) 32 (2 * ((w148_98 73) 32))) 33 (2 * ((w148_98 73) 33)))) 73 34 (((w148_98 73) 34) - 1) = (setO w148_98 73 (fup (fup (fup (w148_98 73) 32 (2 * ((w148_98 73) 32))) 33 (2 * ((w148_98 73) 33))) 34 (((w148_98 73) 34) - 1))) from up_can (sOf_eq _ _ _) rfl (setO_same _ _ _ _)) hF_112 (by decide) (by decide)
                      refine TT_aload_n hK rfl 0 rfl dX12_tellBit_193 ?_
                      refine gf_X12_178 hK (by decide) rfl (v := ((w148_98 73) 34) - 1) (rd_ (sOf_eq _ _ _) (fup_eq _ _ _)) dX12_tellBit_194 ?_
                      have r115 := ty_73_34 (v := ((w148_98 73) 34) - 1) hT_114 (rd_ (sOf_eq _ _ _) (fup_eq _ _ _))
                      refine TT_if_ne hK (tgt := 148) (irm (by omega) (by omega)) dX12_tellBit_197 (by decide) (fun hb197_116 => ?_) (fun hb197_116 => ?_)
                      · have e117_73_32 : (setO w148_98 73 (fup (fup (fup (w148_98 73) 32 (2 * ((w148_98 73) 32))) 33 (2 * ((w148_98 73) 33))) 34 (((w148_98 73) 34) - 1))) 73 32 = 2 * ((w148_98 73) 32) := rd_ (sOf_eq _ _ _) ((fup_ne _ _ (by decide)).trans ((fup_ne _ _ (by decide)).trans (fup_eq _ _ _)))
                        have e118_73_34 : (setO w148_98 73 (fup (fup (fup (w148_98 73) 32 (2 * ((w148_98 73) 32))) 33 (2 * ((w148_98 73) 33))) 34 (((w148_98 73) 34) - 1))) 73 34 = ((w148_98 73) 34) - 1 := rd_ (sOf_eq _ _ _) (fup_eq _ _ _)
                        have e119_73_36 : (setO w148_98 73 (fup (fup (fup (w148_98 73) 32 (2 * ((w148_98 73) 32))) 33 (2 * ((w148_98 73) 33))) 34 (((w148_98 73) 34) - 1))) 73 36 = (w148_98 73) 36 := rd_ (sOf_eq _ _ _) ((fup_ne _ _ (by decide)).trans ((fup_ne _ _ (by decide)).trans (fup_ne _ _ (by decide))))
                        have e120_73_32 : (setO w148_98 73 (fup (fup (fup (w148_98 73) 32 (2 * ((w148_98 73) 32))) 33 (2 * ((w148_98 73) 33))) 34 (((w148_98 73) 34) - 1))) 73 32 = 2 * ((w148_98 73) 32) := rd_ (sOf_eq _ _ _) ((fup_ne _ _ (by decide)).trans ((fup_ne _ _ (by decide)).trans (fup_eq _ _ _)))
                        have e121_73_34 : (setO w148_98 73 (fup (fup (fup (w148_98 73) 32 (2 * ((w148_98 73) 32))) 33 (2 * ((w148_98 73) 33))) 34 (((w148_98 73) 34) - 1))) 73 34 = ((w148_98 73) 34) - 1 := rd_ (sOf_eq _ _ _) (fup_eq _ _ _)
                        have e122_73_36 : (setO w148_98 73 (fup (fup (fup (w148_98 73) 32 (2 * ((w148_98 73) 32))) 33 (2 * ((w148_98 73) 33))) 34 (((w148_98 73) 34) - 1))) 73 36 = (w148_98 73) 36 := rd_ (sOf_eq _ _ _) ((fup_ne _ _ (by decide)).trans ((fup_ne _ _ (by decide)).trans (fup_ne _ _ (by decide))))
                        have e123_96 : (setO w148_98 73 (fup (fup (fup (w148_98 73) 32 (2 * ((w148_98 73) 32))) 33 (2 * ((w148_98 73) 33))) 34 (((w148_98 73) 34) - 1))) 96 = w148_98 96 := sOf_ne _ _ (by decide)
                        have e124_96 : (setO w148_98 73 (fup (fup (fup (w148_98 73) 32 (2 * ((w148_98 73) 32))) 33 (2 * ((w148_98 73) 33))) 34 (((w148_98 73) 34) - 1))) 96 = w148_98 96 := sOf_ne _ _ (by decide)
                        have e125_73_32 : (setO w148_98 73 (fup (fup (fup (w148_98 73) 32 (2 * ((w148_98 73) 32))) 33 (2 * ((w148_98 73) 33))) 34 (((w148_98 73) 34) - 1))) 73 32 = 2 * ((w148_98 73) 32) := rd_ (sOf_eq _ _ _) ((fup_ne _ _ (by decide)).trans ((fup_ne _ _ (by decide)).trans (fup_eq _ _ _)))
                        have e126_73_32 : (setO w148_98 73 (fup (fup (fup (w148_98 73) 32 (2 * ((w148_98 73) 32))) 33 (2 * ((w148_98 73) 33))) 34 (((w148_98 73) 34) - 1))) 73 32 = 2 * ((w148_98 73) 32) := rd_ (sOf_eq _ _ _) ((fup_ne _ _ (by decide)).trans ((fup_ne _ _ (by decide)).trans (fup_eq _ _ _)))
                        have e127_73_33 : (setO w148_98 73 (fup (fup (fup (w148_98 73) 32 (2 * ((w148_98 73) 32))) 33 (2 * ((w148_98 73) 33))) 34 (((w148_98 73) 34) - 1))) 73 33 = 2 * ((w148_98 73) 33) := rd_ (sOf_eq _ _ _) ((fup_ne _ _ (by decide)).trans (fup_eq _ _ _))
                        have e128_73_34 : (setO w148_98 73 (fup (fup (fup (w148_98 73) 32 (2 * ((w148_98 73) 32))) 33 (2 * ((w148_98 73) 33))) 34 (((w148_98 73) 34) - 1))) 73 34 = ((w148_98 73) 34) - 1 := rd_ (sOf_eq _ _ _) (fup_eq _ _ _)
                        have e129_73_36 : (setO w148_98 73 (fup (fup (fup (w148_98 73) 32 (2 * ((w148_98 73) 32))) 33 (2 * ((w148_98 73) 33))) 34 (((w148_98 73) 34) - 1))) 73 36 = (w148_98 73) 36 := rd_ (sOf_eq _ _ _) ((fup_ne _ _ (by decide)).trans ((fup_ne _ _ (by decide)).trans (fup_ne _ _ (by decide))))
                        have e130_98 : (setO w148_98 73 (fup (fup (fup (w148_98 73) 32 (2 * ((w148_98 73) 32))) 33 (2 * ((w148_98 73) 33))) 34 (((w148_98 73) 34) - 1))) 98 = w148_98 98 := sOf_ne _ _ (by decide)
                        have e131_96 : (setO w148_98 73 (fup (fup (fup (w148_98 73) 32 (2 * ((w148_98 73) 32))) 33 (2 * ((w148_98 73) 33))) 34 (((w148_98 73) 34) - 1))) 96 = w148_98 96 := sOf_ne _ _ (by decide)
                        have e132_97 : (setO w148_98 73 (fup (fup (fup (w148_98 73) 32 (2 * ((w148_98 73) 32))) 33 (2 * ((w148_98 73) 33))) 34 (((w148_98 73) 34) - 1))) 97 = w148_98 97 := sOf_ne _ _ (by decide)
                        have e133_73_32 : (setO w148_98 73 (fup (fup (fup (w148_98 73) 32 (2 * ((w148_98 73) 32))) 33 (2 * ((w148_98 73) 33))) 34 (((w148_98 73) 34) - 1))) 73 32 = 2 * ((w148_98 73) 32) := rd_ (sOf_eq _ _ _) ((fup_ne _ _ (by decide)).trans ((fup_ne _ _ (by decide)).trans (fup_eq _ _ _)))
                        exact ih98 R9 X9 (setO w148_98 73 (fup (fup (fup (w148_98 73) 32 (2 * ((w148_98 73) 32))) 33 (2 * ((w148_98 73) 33))) 34 (((w148_98 73) 34) - 1))) hT_114 hF_114 (by rewrite [e117_73_32]; first | omega | (simp [up, setR] <;> omega)) (by rewrite [e118_73_34]; first | omega | (simp [up, setR] <;> omega)) (by rewrite [e119_73_36]; first | omega | (simp [up, setR] <;> omega)) (by rewrite [e120_73_32, e121_73_34, e122_73_36, e123_96]; first | omega | (simp [up, setR] <;> omega)) (by rewrite [e124_96]; exact (PhS_r _).1) (by rewrite [e125_73_32]; exact (ndb_r _).1) (by rewrite [e126_73_32, e127_73_33, e128_73_34, e129_73_36, e130_98]; cases f with | zero => exact absurd (MI_z hf) (by omega) | succ f => first | exact ⟨f, MI_next hf (by omega) (by omega)⟩ | (rw [o1_at201, o2_at201, o3_at201, o4_at201]; exact ⟨f, MI_out hf (by omega) (by omega)⟩)) (by first | omega | (simp [up, setR] <;> omega)) (by rewrite [e131_96, e132_97]; exact hR) (by rewrite [e133_73_32]; first | omega | (simp [up, setR] <;> omega))
                      · refine TT_aload_n hK rfl 0 rfl dX12_tellBit_200 ?_
                        have e134_73_36 : (setO w148_98 73 (fup (fup (fup (w148_98 73) 32 (2 * ((w148_98 73) 32))) 33 (2 * ((w148_98 73) 33))) 34 (((w148_98 73) 34) - 1))) 73 36 = (w148_98 73) 36 := rd_ (sOf_eq _ _ _) ((fup_ne _ _ (by decide)).trans ((fup_ne _ _ (by decide)).trans (fup_ne _ _ (by decide))))
                        have e135_73_33 : (setO w148_98 73 (fup (fup (fup (w148_98 73) 32 (2 * ((w148_98 73) 32))) 33 (2 * ((w148_98 73) 33))) 34 (((w148_98 73) 34) - 1))) 73 33 = 2 * ((w148_98 73) 33) := rd_ (sOf_eq _ _ _) ((fup_ne _ _ (by decide)).trans (fup_eq _ _ _))
                        have e136_73_36 : (setO w148_98 73 (fup (fup (fup (w148_98 73) 32 (2 * ((w148_98 73) 32))) 33 (2 * ((w148_98 73) 33))) 34 (((w148_98 73) 34) - 1))) 73 36 = (w148_98 73) 36 := rd_ (sOf_eq _ _ _) ((fup_ne _ _ (by decide)).trans ((fup_ne _ _ (by decide)).trans (fup_ne _ _ (by decide))))
                        have e137_98 : (setO w148_98 73 (fup (fup (fup (w148_98 73) 32 (2 * ((w148_98 73) 32))) 33 (2 * ((w148_98 73) 33))) 34 (((w148_98 73) 34) - 1))) 98 = w148_98 98 := sOf_ne _ _ (by decide)
                        refine iv_X12_195 hK (s_putOut_e (setO w148_98 73 (fup (fup (fup (w148_98 73) 32 (2 * ((w148_98 73) 32))) 33 (2 * ((w148_98 73) 33))) 34 (((w148_98 73) 34) - 1))) hT_114 (by rewrite [e134_73_36]; first | omega | (simp [up, setR] <;> omega)) (by rewrite [e135_73_33]; first | omega | (simp [up, setR] <;> omega)) (by rewrite [e136_73_36, e137_98]; first | omega | (simp [up, setR] <;> omega))) (by decide) rfl ⟨by decide, by decide⟩ (by decide) rfl rfl (Nat.le_of_ble_eq_true rfl) ⟨by decide, by decide⟩ dX12_tellBit_201 ?_
                        intro r9 g201_138 hp9
                        obtain ⟨⟨hT_138, hG_138⟩, hr9, p1_138, p2_138, o1_138, o2_138, o3_138, o4_138⟩ := hp9
                        rw [hr9]
                        have hF_138 : FRM [73, 96, 97, 98] [32, 33, 34, 36] h g201_138 := FRM_tr hF_114 hG_138 (by decide) (by decide)
                        rw [show (setO w148_98 73 (fup (fup (fup (w148_98 73) 32 (2 * ((w148_98 73) 32))) 33 (2 * ((w148_98 73) 33))) 34 (((w148_98 73) 34) - 1))) 73 36 = (w148_98 73) 36 from rd_ (sOf_eq _ _ _) ((fup_ne _ _ (by decide)).trans ((fup_ne _ _ (by decide)).trans (fup_ne _ _ (by decide))))] at p1_138
                        rw [show (setO w148_98 73 (fup (fup (fup (w148_98 73) 32 (2 * ((w148_98 73) 32))) 33 (2 * ((w148_98 73) 33))) 34 (((w148_98 73) 34) - 1))) 73 33 = 2 * ((w148_98 73) 33) from rd_ (sOf_eq _ _ _) ((fup_ne _ _ (by decide)).trans (fup_eq _ _ _))] at o1_138
                        rw [show (setO w148_98 73 (fup (fup (fup (w148_98 73) 32 (2 * ((w148_98 73) 32))) 33 (2 * ((w148_98 73) 33))) 34 (((w148_98 73) 34) - 1))) 73 36 = (w148_98 73) 36 from rd_ (sOf_eq _ _ _) ((fup_ne _ _ (by decide)).trans ((fup_ne _ _ (by decide)).trans (fup_ne _ _ (by decide))))] at o1_138
                        rw [show (setO w148_98 73 (fup (fup (fup (w148_98 73) 32 (2 * ((w148_98 73) 32))) 33 (2 * ((w148_98 73) 33))) 34 (((w148_98 73) 34) - 1))) 98 = w148_98 98 from sOf_ne _ _ (by decide)] at o1_138
                        rw [show (setO w148_98 73 (fup (fup (fup (w148_98 73) 32 (2 * ((w148_98 73) 32))) 33 (2 * ((w148_98 73) 33))) 34 (((w148_98 73) 34) - 1))) 73 33 = 2 * ((w148_98 73) 33) from rd_ (sOf_eq _ _ _) ((fup_ne _ _ (by decide)).trans (fup_eq _ _ _))] at o2_138
                        rw [show (setO w148_98 73 (fup (fup (fup (w148_98 73) 32 (2 * ((w148_98 73) 32))) 33 (2 * ((w148_98 73) 33))) 34 (((w148_98 73) 34) - 1))) 73 36 = (w148_98 73) 36 from rd_ (sOf_eq _ _ _) ((fup_ne _ _ (by decide)).trans ((fup_ne _ _ (by decide)).trans (fup_ne _ _ (by decide))))] at o2_138
                        rw [show (setO w148_98 73 (fup (fup (fup (w148_98 73) 32 (2 * ((w148_98 73) 32))) 33 (2 * ((w148_98 73) 33))) 34 (((w148_98 73) 34) - 1))) 98 = w148_98 98 from sOf_ne _ _ (by decide)] at o2_138
                        rw [show (setO w148_98 73 (fup (fup (fup (w148_98 73) 32 (2 * ((w148_98 73) 32))) 33 (2 * ((w148_98 73) 33))) 34 (((w148_98 73) 34) - 1))) 73 33 = 2 * ((w148_98 73) 33) from rd_ (sOf_eq _ _ _) ((fup_ne _ _ (by decide)).trans (fup_eq _ _ _))] at o3_138
                        rw [show (setO w148_98 73 (fup (fup (fup (w148_98 73) 32 (2 * ((w148_98 73) 32))) 33 (2 * ((w148_98 73) 33))) 34 (((w148_98 73) 34) - 1))) 73 36 = (w148_98 73) 36 from rd_ (sOf_eq _ _ _) ((fup_ne _ _ (by decide)).trans ((fup_ne _ _ (by decide)).trans (fup_ne _ _ (by decide))))] at o3_138
                        rw [show (setO w148_98 73 (fup (fup (fup (w148_98 73) 32 (2 * ((w148_98 73) 32))) 33 (2 * ((w148_98 73) 33))) 34 (((w148_98 73) 34) - 1))) 98 = w148_98 98 from sOf_ne _ _ (by decide)] at o3_138
                        rw [show (setO w148_98 73 (fup (fup (fup (w148_98 73) 32 (2 * ((w148_98 73) 32))) 33 (2 * ((w148_98 73) 33))) 34 (((w148_98 73) 34) - 1))) 73 33 = 2 * ((w148_98 73) 33) from rd_ (sOf_eq _ _ _) ((fup_ne _ _ (by decide)).trans (fup_eq _ _ _))] at o4_138
                        rw [show (setO w148_98 73 (fup (fup (fup (w148_98 73) 32 (2 * ((w148_98 73) 32))) 33 (2 * ((w148_98 73) 33))) 34 (((w148_98 73) 34) - 1))) 73 36 = (w148_98 73) 36 from rd_ (sOf_eq _ _ _) ((fup_ne _ _ (by decide)).trans ((fup_ne _ _ (by decide)).trans (fup_ne _ _ (by decide))))] at o4_138
                        rw [show (setO w148_98 73 (fup (fup (fup (w148_98 73) 32 (2 * ((w148_98 73) 32))) 33 (2 * ((w148_98 73) 33))) 34 (((w148_98 73) 34) - 1))) 98 = w148_98 98 from sOf_ne _ _ (by decide)] at o4_138
                        have o1_at201 := o1_138
                        have o2_at201 := o2_138
                        have o3_at201 := o3_138
                        have o4_at201 := o4_138
                        show TT K ly 0 0 204 [(0, vR 73), (1, vI x), (2, vI b)] [] g201_138
                        refine TT_goto hK (tgt := 148) dX12_tellBit_204 (by decide) ?_
                        have e139_73_32 : g201_138 73 32 = 2 * ((w148_98 73) 32) := ((hG_138.2 32 (by decide))).trans (rd_ (sOf_eq _ _ _) ((fup_ne _ _ (by decide)).trans ((fup_ne _ _ (by decide)).trans (fup_eq _ _ _))))
                        have e140_73_34 : g201_138 73 34 = (g201_138 73) 34 := rfl
                        have e141_73_36 : g201_138 73 36 = (g201_138 73) 36 := rfl
                        have e142_73_32 : g201_138 73 32 = 2 * ((w148_98 73) 32) := ((hG_138.2 32 (by decide))).trans (rd_ (sOf_eq _ _ _) ((fup_ne _ _ (by decide)).trans ((fup_ne _ _ (by decide)).trans (fup_eq _ _ _))))
                        have e143_73_34 : g201_138 73 34 = (g201_138 73) 34 := rfl
                        have e144_73_36 : g201_138 73 36 = (g201_138 73) 36 := rfl
                        have e145_96 : g201_138 96 = w148_98 96 := ((hG_138.1 96 (by decide))).trans (sOf_ne _ _ (by decide))
                        have e146_96 : g201_138 96 = w148_98 96 := ((hG_138.1 96 (by decide))).trans (sOf_ne _ _ (by decide))
                        have e147_73_32 : g201_138 73 32 = 2 * ((w148_98 73) 32) := ((hG_138.2 32 (by decide))).trans (rd_ (sOf_eq _ _ _) ((fup_ne _ _ (by decide)).trans ((fup_ne _ _ (by decide)).trans (fup_eq _ _ _))))
                        have e148_73_32 : g201_138 73 32 = 2 * ((w148_98 73) 32) := ((hG_138.2 32 (by decide))).trans (rd_ (sOf_eq _ _ _) ((fup_ne _ _ (by decide)).trans ((fup_ne _ _ (by decide)).trans (fup_eq _ _ _))))
                        have e149_73_33 : g201_138 73 33 = (g201_138 73) 33 := rfl
                        have e150_73_34 : g201_138 73 34 = (g201_138 73) 34 := rfl
                        have e151_73_36 : g201_138 73 36 = (g201_138 73) 36 := rfl
                        have e152_96 : g201_138 96 = w148_98 96 := ((hG_138.1 96 (by decide))).trans (sOf_ne _ _ (by decide))
                        have e153_97 : g201_138 97 = w148_98 97 := ((hG_138.1 97 (by decide))).trans (sOf_ne _ _ (by decide))
                        have e154_73_32 : g201_138 73 32 = 2 * ((w148_98 73) 32) := ((hG_138.2 32 (by decide))).trans (rd_ (sOf_eq _ _ _) ((fup_ne _ _ (by decide)).trans ((fup_ne _ _ (by decide)).trans (fup_eq _ _ _))))
                        exact ih98 R9 X9 g201_138 hT_138 hF_138 (by rewrite [e139_73_32]; first | omega | (simp [up, setR] <;> omega)) (by rewrite [e140_73_34]; first | omega | (simp [up, setR] <;> omega)) (by rewrite [e141_73_36]; first | omega | (simp [up, setR] <;> omega)) (by rewrite [e142_73_32, e143_73_34, e144_73_36, e145_96]; first | omega | (simp [up, setR] <;> omega)) (by rewrite [e146_96]; exact (PhS_r _).1) (by rewrite [e147_73_32]; exact (ndb_r _).1) (by rewrite [e148_73_32, e149_73_33, e150_73_34, e151_73_36]; cases f with | zero => exact absurd (MI_z hf) (by omega) | succ f => first | exact ⟨f, MI_next hf (by omega) (by omega)⟩ | (rw [o1_at201, o2_at201, o3_at201, o4_at201]; exact ⟨f, MI_out hf (by omega) (by omega)⟩)) (by first | omega | (simp [up, setR] <;> omega)) (by rewrite [e152_96, e153_97]; exact hR) (by rewrite [e154_73_32]; first | omega | (simp [up, setR] <;> omega))
                refine TT_sub [4, 5, 6] rfl ?_
                have e155_73_32 : g145_97 73 32 = qS (h 96 x) := (congrFun (hG_97.1 73 (by decide)) 32).trans (rd_ (sOf_eq _ _ _) ((fup_ne _ _ (by decide)).trans (fup_eq _ _ _)))
                have e156_73_34 : g145_97 73 34 = (h 73) 34 := (congrFun (hG_97.1 73 (by decide)) 34).trans (rd_ (sOf_eq _ _ _) ((fup_ne _ _ (by decide)).trans (fup_ne _ _ (by decide))))
                have e157_73_36 : g145_97 73 36 = (h 73) 36 := (congrFun (hG_97.1 73 (by decide)) 36).trans (rd_ (sOf_eq _ _ _) ((fup_ne _ _ (by decide)).trans (fup_ne _ _ (by decide))))
                have e158_73_32 : g145_97 73 32 = qS (h 96 x) := (congrFun (hG_97.1 73 (by decide)) 32).trans (rd_ (sOf_eq _ _ _) ((fup_ne _ _ (by decide)).trans (fup_eq _ _ _)))
                have e159_73_34 : g145_97 73 34 = (h 73) 34 := (congrFun (hG_97.1 73 (by decide)) 34).trans (rd_ (sOf_eq _ _ _) ((fup_ne _ _ (by decide)).trans (fup_ne _ _ (by decide))))
                have e160_73_36 : g145_97 73 36 = (h 73) 36 := (congrFun (hG_97.1 73 (by decide)) 36).trans (rd_ (sOf_eq _ _ _) ((fup_ne _ _ (by decide)).trans (fup_ne _ _ (by decide))))
                have e161_73_32 : g145_97 73 32 = qS (h 96 x) := (congrFun (hG_97.1 73 (by decide)) 32).trans (rd_ (sOf_eq _ _ _) ((fup_ne _ _ (by decide)).trans (fup_eq _ _ _)))
                have e162_73_32 : g145_97 73 32 = qS (h 96 x) := (congrFun (hG_97.1 73 (by decide)) 32).trans (rd_ (sOf_eq _ _ _) ((fup_ne _ _ (by decide)).trans (fup_eq _ _ _)))
                have e163_73_33 : g145_97 73 33 = (h 73) 33 := (congrFun (hG_97.1 73 (by decide)) 33).trans (rd_ (sOf_eq _ _ _) (fup_eq _ _ _))
                have e164_73_34 : g145_97 73 34 = (h 73) 34 := (congrFun (hG_97.1 73 (by decide)) 34).trans (rd_ (sOf_eq _ _ _) ((fup_ne _ _ (by decide)).trans (fup_ne _ _ (by decide))))
                have e165_73_36 : g145_97 73 36 = (h 73) 36 := (congrFun (hG_97.1 73 (by decide)) 36).trans (rd_ (sOf_eq _ _ _) ((fup_ne _ _ (by decide)).trans (fup_ne _ _ (by decide))))
                have e166_98 : g145_97 98 = h 98 := ((hG_97.1 98 (by decide))).trans (sOf_ne _ _ (by decide))
                have k9 := NDC (a := qS (h 96 x)) (ot := 0) tq (by omega) (by omega)
                exact L148_98 ((((65536 : Int) - (g145_97 73 32)).toNat) + 1) (mendS 15 (qS (h 96 x)) ((h 73) 33) ((h 73) 34) ((h 73) 36) (h 98)) (7 * h 73 36 - h 73 34 + 15) g145_97 hT_97 hF_97 (by rewrite [e155_73_32]; first | omega | (simp [up, setR] <;> omega)) (by rewrite [e156_73_34]; first | omega | (simp [up, setR] <;> omega)) (by rewrite [e157_73_36]; first | omega | (simp [up, setR] <;> omega)) (by rewrite [e158_73_32, e159_73_34, e160_73_36]; first | omega | (simp [up, setR] <;> omega)) (by exact (PhS_r _).1) (by rewrite [e161_73_32]; exact (ndb_r _).1) (by rewrite [e162_73_32, e163_73_33, e164_73_34, e165_73_36, e166_98]; exact ⟨15, MI_0 (MQ_tell (x := x) (st := h 96) (P := (b = h 97 x ↔ h 73 32 - qS (h 96 x) < qS (h 96 x))) hq ha.1 hs (by first | exact (if_pos (by omega)).symm | exact (if_neg (by omega)).symm) (by first | exact (if_pos (by omega)).symm | exact (if_neg (by omega)).symm))⟩) (by first | omega | (simp [up, setR] <;> omega)) (by rw [l1_at145, l2_at145]; exact tellS_m (by omega) (by first | exact (if_pos (by omega)).symm | exact (if_neg (by omega)).symm) (by first | exact (if_pos (by omega)).symm | exact (if_neg (by omega)).symm) (by omega)) (Nat.lt_succ_self _)
      · have hb53_9 := lcmp_ge hb53_9
        refine TT_aload_n hK rfl 2 rfl dX12_tellBit_56 ?_
        refine TT_aload_n hK rfl 2 rfl dX12_tellBit_57 ?_
        refine gf_X12_175 hK (by decide) rfl (v := (h 73) 33) (rd_ (sOf_eq _ _ _) (fup_ne _ _ (by decide))) dX12_tellBit_58 ?_
        have r167 := ty_73_33 (v := (h 73) 33) hT_6 (rd_ (sOf_eq _ _ _) (fup_ne _ _ (by decide)))
        refine TT_iload_n hK rfl 1 rfl dX12_tellBit_61 ?_
        refine TT_i2l hK (irm (by omega) (by omega)) dX12_tellBit_62 ?_
        refine TT_ladd hK dX12_tellBit_63 ?_
        refine pf_X12_175 hK (by decide) rfl dX12_tellBit_64 ?_
        refine TT_hp (h' := setO h 73 (fup (fup (h 73) 32 (((h 73) 32) - (qS (h 96 x)))) 33 (((h 73) 33) + (qS (h 96 x))))) (up_can (sOf_eq _ _ _) rfl (setO_same _ _ _ _)) ?_
        have hT_168 : TY (setO h 73 (fup (fup (h 73) 32 (((h 73) 32) - (qS (h 96 x)))) 33 (((h 73) 33) + (qS (h 96 x))))) := tu_73_33 hT_6 (show up (setO h 73 (fup (h 73) 32 (((h 73) 32) - (qS (h 96 x))))) 73 33 (((h 73) 33) + (qS (h 96 x))) = (setO h 73 (fup (fup (h 73) 32 (((h 73) 32) - (qS (h 96 x)))) 33 (((h 73) 33) + (qS (h 96 x))))) from up_can (sOf_eq _ _ _) rfl (setO_same _ _ _ _)) (by omega)
        have hF_168 : FRM [73, 96, 97, 98] [32, 33, 34, 36] h (setO h 73 (fup (fup (h 73) 32 (((h 73) 32) - (qS (h 96 x)))) 33 (((h 73) 33) + (qS (h 96 x))))) := FRM_f (show up (setO h 73 (fup (h 73) 32 (((h 73) 32) - (qS (h 96 x))))) 73 33 (((h 73) 33) + (qS (h 96 x))) = (setO h 73 (fup (fup (h 73) 32 (((h 73) 32) - (qS (h 96 x)))) 33 (((h 73) 33) + (qS (h 96 x))))) from up_can (sOf_eq _ _ _) rfl (setO_same _ _ _ _)) hF_6 (by decide) (by decide)
        refine TT_iload_n hK rfl 4 rfl dX12_tellBit_67 ?_
        refine TT_iret hK hQ ?_ dX12_tellBit_68
        have e169_73_32 : (setO h 73 (fup (fup (h 73) 32 (((h 73) 32) - (qS (h 96 x)))) 33 (((h 73) 33) + (qS (h 96 x))))) 73 32 = ((h 73) 32) - (qS (h 96 x)) := rd_ (sOf_eq _ _ _) ((fup_ne _ _ (by decide)).trans (fup_eq _ _ _))
        have e170_73_34 : (setO h 73 (fup (fup (h 73) 32 (((h 73) 32) - (qS (h 96 x)))) 33 (((h 73) 33) + (qS (h 96 x))))) 73 34 = (h 73) 34 := rd_ (sOf_eq _ _ _) ((fup_ne _ _ (by decide)).trans (fup_ne _ _ (by decide)))
        have e171_73_36 : (setO h 73 (fup (fup (h 73) 32 (((h 73) 32) - (qS (h 96 x)))) 33 (((h 73) 33) + (qS (h 96 x))))) 73 36 = (h 73) 36 := rd_ (sOf_eq _ _ _) ((fup_ne _ _ (by decide)).trans (fup_ne _ _ (by decide)))
        have e172_73_34 : (setO h 73 (fup (fup (h 73) 32 (((h 73) 32) - (qS (h 96 x)))) 33 (((h 73) 33) + (qS (h 96 x))))) 73 34 = (h 73) 34 := rd_ (sOf_eq _ _ _) ((fup_ne _ _ (by decide)).trans (fup_ne _ _ (by decide)))
        have e173_73_36 : (setO h 73 (fup (fup (h 73) 32 (((h 73) 32) - (qS (h 96 x)))) 33 (((h 73) 33) + (qS (h 96 x))))) 73 36 = (h 73) 36 := rd_ (sOf_eq _ _ _) ((fup_ne _ _ (by decide)).trans (fup_ne _ _ (by decide)))
        have e174_96 : (setO h 73 (fup (fup (h 73) 32 (((h 73) 32) - (qS (h 96 x)))) 33 (((h 73) 33) + (qS (h 96 x))))) 96 = h 96 := sOf_ne _ _ (by decide)
        have e175_73_32 : (setO h 73 (fup (fup (h 73) 32 (((h 73) 32) - (qS (h 96 x)))) 33 (((h 73) 33) + (qS (h 96 x))))) 73 32 = ((h 73) 32) - (qS (h 96 x)) := rd_ (sOf_eq _ _ _) ((fup_ne _ _ (by decide)).trans (fup_eq _ _ _))
        have e176_73_33 : (setO h 73 (fup (fup (h 73) 32 (((h 73) 32) - (qS (h 96 x)))) 33 (((h 73) 33) + (qS (h 96 x))))) 73 33 = ((h 73) 33) + (qS (h 96 x)) := rd_ (sOf_eq _ _ _) (fup_eq _ _ _)
        have e177_73_34 : (setO h 73 (fup (fup (h 73) 32 (((h 73) 32) - (qS (h 96 x)))) 33 (((h 73) 33) + (qS (h 96 x))))) 73 34 = (h 73) 34 := rd_ (sOf_eq _ _ _) ((fup_ne _ _ (by decide)).trans (fup_ne _ _ (by decide)))
        have e178_73_36 : (setO h 73 (fup (fup (h 73) 32 (((h 73) 32) - (qS (h 96 x)))) 33 (((h 73) 33) + (qS (h 96 x))))) 73 36 = (h 73) 36 := rd_ (sOf_eq _ _ _) ((fup_ne _ _ (by decide)).trans (fup_ne _ _ (by decide)))
        have e179_96 : (setO h 73 (fup (fup (h 73) 32 (((h 73) 32) - (qS (h 96 x)))) 33 (((h 73) 33) + (qS (h 96 x))))) 96 = h 96 := sOf_ne _ _ (by decide)
        have e180_97 : (setO h 73 (fup (fup (h 73) 32 (((h 73) 32) - (qS (h 96 x)))) 33 (((h 73) 33) + (qS (h 96 x))))) 97 = h 97 := sOf_ne _ _ (by decide)
        have e181_98 : (setO h 73 (fup (fup (h 73) 32 (((h 73) 32) - (qS (h 96 x)))) 33 (((h 73) 33) + (qS (h 96 x))))) 98 = h 98 := sOf_ne _ _ (by decide)
        exact ⟨⟨hT_168, hF_168⟩, b, rfl, (by omega), (by omega), (by rewrite [e169_73_32]; omega), (by rewrite [e170_73_34]; omega), (by rewrite [e171_73_36]; omega), (by rewrite [e172_73_34, e173_73_36, e174_96]; omega), (by rewrite [e175_73_32, e176_73_33, e177_73_34, e178_73_36, e179_96, e180_97, e181_98]; first | (exact (tellS_1 (by omega)).symm) | (rw [hR, ← MI_done hM.choose_spec (by omega)]))⟩
  · refine TT_iconst hK dX12_tellBit_22 ?_
    refine TT_goto hK (tgt := 27) dX12_tellBit_23 (by decide) ?_
    refine TT_istore hK (lv' := [(4, vI 1), (3, vI (qS (h 96 x))), (0, vR 73), (1, vI x), (2, vI b)]) (by decide) rfl dX12_tellBit_27 ?_
    refine TT_aload_n hK rfl 2 rfl dX12_tellBit_29 ?_
    refine TT_aload_n hK rfl 2 rfl dX12_tellBit_30 ?_
    refine gf_X12_171 hK (by decide) rfl (v := (h 73) 32) rfl dX12_tellBit_31 ?_
    have r182 := ty_73_32 (v := (h 73) 32) hT rfl
    refine TT_iload_n hK rfl 1 rfl dX12_tellBit_34 ?_
    refine TT_i2l hK (irm (by omega) (by omega)) dX12_tellBit_35 ?_
    refine TT_lsub hK dX12_tellBit_36 ?_
    refine pf_X12_171 hK (by decide) rfl dX12_tellBit_37 ?_
    refine TT_hp (h' := setO h 73 (fup (h 73) 32 (((h 73) 32) - (qS (h 96 x))))) (up_can rfl rfl rfl) ?_
    have hT_183 : TY (setO h 73 (fup (h 73) 32 (((h 73) 32) - (qS (h 96 x))))) := tu_73_32 hT (show up h 73 32 (((h 73) 32) - (qS (h 96 x))) = (setO h 73 (fup (h 73) 32 (((h 73) 32) - (qS (h 96 x))))) from up_can rfl rfl rfl) (by omega)
    have hF_183 : FRM [73, 96, 97, 98] [32, 33, 34, 36] h (setO h 73 (fup (h 73) 32 (((h 73) 32) - (qS (h 96 x))))) := FRM_f (show up h 73 32 (((h 73) 32) - (qS (h 96 x))) = (setO h 73 (fup (h 73) 32 (((h 73) 32) - (qS (h 96 x))))) from up_can rfl rfl rfl) hF (by decide) (by decide)
    refine TT_iload hK 0 rfl dX12_tellBit_40 ?_
    refine TT_if_ne hK (tgt := 69) (by decide) dX12_tellBit_42 (by decide) (fun hb42_184 => ?_) (fun hb42_184 => ?_)
    · refine TT_aload_n hK rfl 2 rfl dX12_tellBit_69 ?_
      refine gf_X12_171 hK (by decide) rfl (v := ((h 73) 32) - (qS (h 96 x))) (rd_ (sOf_eq _ _ _) (fup_eq _ _ _)) dX12_tellBit_70 ?_
      have r185 := ty_73_32 (v := ((h 73) 32) - (qS (h 96 x))) hT_183 (rd_ (sOf_eq _ _ _) (fup_eq _ _ _))
      refine TT_iload_n hK rfl 1 rfl dX12_tellBit_73 ?_
      refine TT_i2l hK (irm (by omega) (by omega)) dX12_tellBit_74 ?_
      refine TT_lcmp hK (lrm (by omega) (by omega)) (lrm (by omega) (by omega)) dX12_tellBit_75 ?_
      refine TT_if_ge hK (tgt := 83) (lcmp_ir _ _) dX12_tellBit_76 (by decide) (fun hb76_186 => ?_) (fun hb76_186 => ?_)
      · have hb76_186 := lcmp_ge hb76_186
        refine TT_iconst hK dX12_tellBit_83 ?_
        refine TT_istore hK (lv' := [(5, vI 0), (4, vI 1), (3, vI (qS (h 96 x))), (0, vR 73), (1, vI x), (2, vI b)]) (by decide) rfl dX12_tellBit_84 ?_
        refine TT_iload hK 1 rfl dX12_tellBit_86 ?_
        refine TT_iload hK 0 rfl dX12_tellBit_88 ?_
        refine TT_icmp_eq hK (tgt := 97) (by decide) (by decide) dX12_tellBit_90 (by decide) (fun hb90_187 => ?_) (fun hb90_187 => ?_)
        · exact absurd hb90_187 (by decide)
        · refine TT_iconst hK dX12_tellBit_93 ?_
          refine TT_goto hK (tgt := 98) dX12_tellBit_94 (by decide) ?_
          refine TT_istore hK (lv' := [(6, vI 1), (5, vI 0), (4, vI 1), (3, vI (qS (h 96 x))), (0, vR 73), (1, vI x), (2, vI b)]) (by decide) rfl dX12_tellBit_98 ?_
          refine TT_aload_n hK rfl 4 rfl dX12_tellBit_100 ?_
          refine TT_iload hK 0 rfl dX12_tellBit_101 ?_
          refine TT_if_eq hK (tgt := 113) (by decide) dX12_tellBit_103 (by decide) (fun hb103_188 => ?_) (fun hb103_188 => ?_)
          · exact absurd hb103_188 (by decide)
          · refine TT_aload_n hK rfl 4 rfl dX12_tellBit_106 ?_
            refine gf_X12_175 hK (by decide) rfl (v := (h 73) 33) (rd_ (sOf_eq _ _ _) (fup_ne _ _ (by decide))) dX12_tellBit_107 ?_
            have r189 := ty_73_33 (v := (h 73) 33) hT_183 (rd_ (sOf_eq _ _ _) (fup_ne _ _ (by decide)))
            refine TT_goto hK (tgt := 120) dX12_tellBit_110 (by decide) ?_
            refine pf_X12_175 hK (by decide) rfl dX12_tellBit_120 ?_
            refine TT_hp (h' := setO h 73 (fup (fup (h 73) 32 (((h 73) 32) - (qS (h 96 x)))) 33 ((h 73) 33))) (up_can (sOf_eq _ _ _) rfl (setO_same _ _ _ _)) ?_
            have hT_190 : TY (setO h 73 (fup (fup (h 73) 32 (((h 73) 32) - (qS (h 96 x)))) 33 ((h 73) 33))) := tu_73_33 hT_183 (show up (setO h 73 (fup (h 73) 32 (((h 73) 32) - (qS (h 96 x))))) 73 33 ((h 73) 33) = (setO h 73 (fup (fup (h 73) 32 (((h 73) 32) - (qS (h 96 x)))) 33 ((h 73) 33))) from up_can (sOf_eq _ _ _) rfl (setO_same _ _ _ _)) (by omega)
            have hF_190 : FRM [73, 96, 97, 98] [32, 33, 34, 36] h (setO h 73 (fup (fup (h 73) 32 (((h 73) 32) - (qS (h 96 x)))) 33 ((h 73) 33))) := FRM_f (show up (setO h 73 (fup (h 73) 32 (((h 73) 32) - (qS (h 96 x))))) 73 33 ((h 73) 33) = (setO h 73 (fup (fup (h 73) 32 (((h 73) 32) - (qS (h 96 x)))) 33 ((h 73) 33))) from up_can (sOf_eq _ _ _) rfl (setO_same _ _ _ _)) hF_183 (by decide) (by decide)
            refine TT_aload_n hK rfl 4 rfl dX12_tellBit_123 ?_
            refine TT_iload hK 0 rfl dX12_tellBit_124 ?_
            refine TT_if_eq hK (tgt := 134) (by decide) dX12_tellBit_126 (by decide) (fun hb126_191 => ?_) (fun hb126_191 => ?_)
            · exact absurd hb126_191 (by decide)
            · refine TT_iload_n hK rfl 3 rfl dX12_tellBit_129 ?_
              refine TT_i2l hK (irm (by omega) (by omega)) dX12_tellBit_130 ?_
              refine TT_goto hK (tgt := 138) dX12_tellBit_131 (by decide) ?_
              refine pf_X12_171 hK (by decide) rfl dX12_tellBit_138 ?_
              refine TT_hp (h' := setO h 73 (fup (fup (h 73) 32 (qS (h 96 x))) 33 ((h 73) 33))) (up_can (sOf_eq _ _ _) ((fup_comm _ _ _ (by decide)).trans (fup_cg (fup_same _ _ _ _))) (setO_same _ _ _ _)) ?_
              have hT_192 : TY (setO h 73 (fup (fup (h 73) 32 (qS (h 96 x))) 33 ((h 73) 33))) := tu_73_32 hT_190 (show up (setO h 73 (fup (fup (h 73) 32 (((h 73) 32) - (qS (h 96 x)))) 33 ((h 73) 33))) 73 32 (qS (h 96 x)) = (setO h 73 (fup (fup (h 73) 32 (qS (h 96 x))) 33 ((h 73) 33))) from up_can (sOf_eq _ _ _) ((fup_comm _ _ _ (by decide)).trans (fup_cg (fup_same _ _ _ _))) (setO_same _ _ _ _)) (by omega)
              have hF_192 : FRM [73, 96, 97, 98] [32, 33, 34, 36] h (setO h 73 (fup (fup (h 73) 32 (qS (h 96 x))) 33 ((h 73) 33))) := FRM_f (show up (setO h 73 (fup (fup (h 73) 32 (((h 73) 32) - (qS (h 96 x)))) 33 ((h 73) 33))) 73 32 (qS (h 96 x)) = (setO h 73 (fup (fup (h 73) 32 (qS (h 96 x))) 33 ((h 73) 33))) from up_can (sOf_eq _ _ _) ((fup_comm _ _ _ (by decide)).trans (fup_cg (fup_same _ _ _ _))) (setO_same _ _ _ _)) hF_190 (by decide) (by decide)
              refine TT_aload_n hK rfl 4 rfl dX12_tellBit_141 ?_
              refine TT_iload_n hK rfl 5 rfl dX12_tellBit_142 ?_
              refine TT_iload hK 2 rfl dX12_tellBit_143 ?_
              have e193_74 : (setO h 73 (fup (fup (h 73) 32 (qS (h 96 x))) 33 ((h 73) 33))) 74 = h 74 := sOf_ne _ _ (by decide)
              have e194_75 : (setO h 73 (fup (fup (h 73) 32 (qS (h 96 x))) 33 ((h 73) 33))) 75 = h 75 := sOf_ne _ _ (by decide)
              refine iv_X12_189 hK (s_learn_e x 1 (setO h 73 (fup (fup (h 73) 32 (qS (h 96 x))) 33 ((h 73) 33))) hT_192 (by first | omega | (simp [up, setR] <;> omega)) (by first | omega | (simp [up, setR] <;> omega)) (by rewrite [e193_74, e194_75]; first | assumption | exact htb)) (by decide) rfl ⟨by decide, by decide⟩ (by decide) rfl rfl (Nat.le_of_ble_eq_true rfl) ⟨by decide, by decide⟩ dX12_tellBit_145 ?_
              intro r9 g145_195 hp9
              obtain ⟨⟨hT_195, hG_195⟩, hr9, p1_195, l1_195, l2_195⟩ := hp9
              rw [hr9]
              have hF_195 : FRM [73, 96, 97, 98] [32, 33, 34, 36] h g145_195 := FRM_tr hF_192 hG_195 (by decide) (by decide)
              rw [show (setO h 73 (fup (fup (h 73) 32 (qS (h 96 x))) 33 ((h 73) 33))) 75 = h 75 from sOf_ne _ _ (by decide)] at p1_195
              rw [show (setO h 73 (fup (fup (h 73) 32 (qS (h 96 x))) 33 ((h 73) 33))) 96 = h 96 from sOf_ne _ _ (by decide)] at p1_195
              rw [show (setO h 73 (fup (fup (h 73) 32 (qS (h 96 x))) 33 ((h 73) 33))) 96 = h 96 from sOf_ne _ _ (by decide)] at l1_195
              rw [show (setO h 73 (fup (fup (h 73) 32 (qS (h 96 x))) 33 ((h 73) 33))) 96 = h 96 from sOf_ne _ _ (by decide)] at l2_195
              rw [show (setO h 73 (fup (fup (h 73) 32 (qS (h 96 x))) 33 ((h 73) 33))) 97 = h 97 from sOf_ne _ _ (by decide)] at l2_195
              have l1_at145 := l1_195
              have l2_at145 := l2_195
              show TT K ly 0 0 148 [(6, vI 1), (5, vI 0), (4, vI 1), (3, vI (qS (h 96 x))), (0, vR 73), (1, vI x), (2, vI b)] [] g145_195
              have L148_196 : ∀ (k196 : Nat) (R9 : Int × Int × Int × Int × (Int → Int)) (X9 : Int) (w148_196 : Hp_), TY w148_196 → FRM [73, 96, 97, 98] [32, 33, 34, 36] h w148_196 → (1 ≤ (w148_196 73 32) ∧ (w148_196 73 32) < 65536) → (1 ≤ (w148_196 73 34)) → (1 ≤ (w148_196 73 36)) → (7 * (w148_196 73 36) - (w148_196 73 34) + ndb (w148_196 73 32) + PhS (w148_196 96) ≤ 7 * (h 73 36) - (h 73 34) + PhS (h 96) + 9) → (0 ≤ PhS (w148_196 96)) → (0 ≤ ndb (w148_196 73 32)) → (∃ f, MIE_ f (w148_196 73 32) (w148_196 73 33) (w148_196 73 34) (w148_196 73 36) (w148_196 98) R9 X9) → (X9 ≤ 22400) → (tellS (h 73 32, h 73 33, h 73 34, h 73 36, h 96, h 97, h 98) x b = (R9.1, R9.2.1, R9.2.2.1, R9.2.2.2.1, (w148_196 96), (w148_196 97), R9.2.2.2.2)) → ((65536 : Int) - (w148_196 73 32)).toNat < k196 → TT K ly 0 0 148 [(0, vR 73), (1, vI x), (2, vI b)] [] w148_196 := by
                intro k196
                induction k196 with
                | zero => intro R9 X9 w148_196 hT148_196 hF148_196 ha1 ht1 hn1 hp1 hz1 hz2 hM hX hR hk196; exact absurd hk196 (Nat.not_lt_zero _)
                | succ k196 ih196 =>
                  intro R9 X9 w148_196 hT148_196 hF148_196 ha1 ht1 hn1 hp1 hz1 hz2 hM hX hR hk196
                  obtain ⟨f, hf⟩ := hM
                  have hcr := hf.2.2.2.c_r
                  obtain ⟨m1, m2, m3, m4, m5, m6, m7, m8, m9⟩ := hf.2.2.2
                  have hM : ∃ f, MIE_ f _ _ _ _ _ R9 X9 := ⟨f, hf⟩
                  refine TT_aload_n hK rfl 0 rfl dX12_tellBit_148 ?_
                  refine gf_X12_171 hK (by decide) rfl (v := (w148_196 73) 32) rfl dX12_tellBit_149 ?_
                  have r197 := ty_73_32 (v := (w148_196 73) 32) hT148_196 rfl
                  refine TT_ldc2 hK lc_X12_169 dX12_tellBit_152 ?_
                  refine TT_lcmp hK (lrm (by omega) (by omega)) (by decide) dX12_tellBit_155 ?_
                  refine TT_if_ge hK (tgt := 207) (lcmp_ir _ _) dX12_tellBit_156 (by decide) (fun hb156_198 => ?_) (fun hb156_198 => ?_)
                  · have hb156_198 := lcmp_ge hb156_198
                    refine TT_iload_n hK rfl 2 rfl dX12_tellBit_207 ?_
                    refine TT_iret hK hQ ?_ dX12_tellBit_208
                    have e199_73_32 : w148_196 73 32 = (w148_196 73) 32 := rfl
                    have e200_73_34 : w148_196 73 34 = (w148_196 73) 34 := rfl
                    have e201_73_36 : w148_196 73 36 = (w148_196 73) 36 := rfl
                    have e202_73_34 : w148_196 73 34 = (w148_196 73) 34 := rfl
                    have e203_73_36 : w148_196 73 36 = (w148_196 73) 36 := rfl
                    have e204_73_32 : w148_196 73 32 = (w148_196 73) 32 := rfl
                    have e205_73_33 : w148_196 73 33 = (w148_196 73) 33 := rfl
                    have e206_73_34 : w148_196 73 34 = (w148_196 73) 34 := rfl
                    have e207_73_36 : w148_196 73 36 = (w148_196 73) 36 := rfl
                    exact ⟨⟨hT148_196, hF148_196⟩, b, rfl, (by omega), (by omega), (by rewrite [e199_73_32]; omega), (by rewrite [e200_73_34]; omega), (by rewrite [e201_73_36]; omega), (by rewrite [e202_73_34, e203_73_36]; omega), (by rewrite [e204_73_32, e205_73_33, e206_73_34, e207_73_36]; first | (exact (tellS_1 (by omega)).symm) | (rw [hR, ← MI_done hM.choose_spec (by omega)]))⟩
                  · have hb156_198 := lcmp_lt hb156_198
                    have hd9 := ndb_2 (a := (w148_196 73) 32) (by omega) (by omega)
                    refine TT_aload_n hK rfl 0 rfl dX12_tellBit_159 ?_
                    refine TT_ldc2 hK lc_X12_193 dX12_tellBit_160 ?_
                    refine TT_aload_n hK rfl 0 rfl dX12_tellBit_163 ?_
                    refine gf_X12_171 hK (by decide) rfl (v := (w148_196 73) 32) rfl dX12_tellBit_164 ?_
                    refine TT_lmul hK dX12_tellBit_167 ?_
                    refine pf_X12_171 hK (by decide) rfl dX12_tellBit_168 ?_
                    refine TT_hp (h' := setO w148_196 73 (fup (w148_196 73) 32 (2 * ((w148_196 73) 32)))) (up_can rfl rfl rfl) ?_
                    have hT_208 : TY (setO w148_196 73 (fup (w148_196 73) 32 (2 * ((w148_196 73) 32)))) := tu_73_32 hT148_196 (show up w148_196 73 32 (2 * ((w148_196 73) 32)) = (setO w148_196 73 (fup (w148_196 73) 32 (2 * ((w148_196 73) 32)))) from up_can rfl rfl rfl) (by omega)
                    have hF_208 : FRM [73, 96, 97, 98] [32, 33, 34, 36] h (setO w148_196 73 (fup (w148_196 73) 32 (2 * ((w148_196 73) 32)))) := FRM_f (show up w148_196 73 32 (2 * ((w148_196 73) 32)) = (setO w148_196 73 (fup (w148_196 73) 32 (2 * ((w148_196 73) 32)))) from up_can rfl rfl rfl) hF148_196 (by decide) (by decide)
                    refine TT_aload_n hK rfl 0 rfl dX12_tellBit_171 ?_
                    refine TT_ldc2 hK lc_X12_193 dX12_tellBit_172 ?_
                    refine TT_aload_n hK rfl 0 rfl dX12_tellBit_175 ?_
                    refine gf_X12_175 hK (by decide) rfl (v := (w148_196 73) 33) (rd_ (sOf_eq _ _ _) (fup_ne _ _ (by decide))) dX12_tellBit_176 ?_
                    have r209 := ty_73_33 (v := (w148_196 73) 33) hT_208 (rd_ (sOf_eq _ _ _) (fup_ne _ _ (by decide)))
                    refine TT_lmul hK dX12_tellBit_179 ?_
                    refine pf_X12_175 hK (by decide) rfl dX12_tellBit_180 ?_
                    refine TT_hp (h' := setO w148_196 73 (fup (fup (w148_196 73) 32 (2 * ((w148_196 73) 32))) 33 (2 * ((w148_196 73) 33)))) (up_can (sOf_eq _ _ _) rfl (setO_same _ _ _ _)) ?_
                    have hT_210 : TY (setO w148_196 73 (fup (fup (w148_196 73) 32 (2 * ((w148_196 73) 32))) 33 (2 * ((w148_196 73) 33)))) := tu_73_33 hT_208 (show up (setO w148_196 73 (fup (w148_196 73) 32 (2 * ((w148_196 73) 32)))) 73 33 (2 * ((w148_196 73) 33)) = (setO w148_196 73 (fup (fup (w148_196 73) 32 (2 * ((w148_196 73) 32))) 33 (2 * ((w148_196 73) 33)))) from up_can (sOf_eq _ _ _) rfl (setO_same _ _ _ _)) (by omega)
                    have hF_210 : FRM [73, 96, 97, 98] [32, 33, 34, 36] h (setO w148_196 73 (fup (fup (w148_196 73) 32 (2 * ((w148_196 73) 32))) 33 (2 * ((w148_196 73) 33)))) := FRM_f (show up (setO w148_196 73 (fup (w148_196 73) 32 (2 * ((w148_196 73) 32)))) 73 33 (2 * ((w148_196 73) 33)) = (setO w148_196 73 (fup (fup (w148_196 73) 32 (2 * ((w148_196 73) 32))) 33 (2 * ((w148_196 73) 33)))) from up_can (sOf_eq _ _ _) rfl (setO_same _ _ _ _)) hF_208 (by decide) (by decide)
                    refine TT_aload_n hK rfl 0 rfl dX12_tellBit_183 ?_
                    refine TT_dup hK rfl dX12_tellBit_184 ?_
                    refine gf_X12_178 hK (by decide) rfl (v := (w148_196 73) 34) (rd_ (sOf_eq _ _ _) ((fup_ne _ _ (by decide)).trans (fup_ne _ _ (by decide)))) dX12_tellBit_185 ?_
                    have r211 := ty_73_34 (v := (w148_196 73) 34) hT_210 (rd_ (sOf_eq _ _ _) ((fup_ne _ _ (by decide)).trans (fup_ne _ _ (by decide))))
                    refine TT_iconst hK dX12_tellBit_188 ?_
                    refine TT_isub hK dX12_tellBit_189 ?_
                    refine pf_X12_178 hK (by decide) rfl dX12_tellBit_190 ?_
                    refine TT_hp (h' := setO w148_196 73 (fup (fup (fup (w148_196 73) 32 (2 * ((w148_196 73) 32))) 33 (2 * ((w148_196 73) 33))) 34 (((w148_196 73) 34) - 1))) (up_can (sOf_eq _ _ _) rfl (setO_same _ _ _ _)) ?_
                    have hT_212 : TY (setO w148_196 73 (fup (fup (fup (w148_196 73) 32 (2 * ((w148_196 73) 32))) 33 (2 * ((w148_196 73) 33))) 34 (((w148_196 73) 34) - 1))) := tu_73_34 hT_210 (show up (setO w148_196 73 (fup (fup (w148_196 73) 32 (2 * ((w148_196 73) 32))) 33 (2 * ((w148_196 73) 33)))) 73 34 (((w148_196 73) 34) - 1) = (setO w148_196 73 (fup (fup (fup (w148_196 73) 32 (2 * ((w148_196 73) 32))) 33 (2 * ((w148_196 73) 33))) 34 (((w148_196 73) 34) - 1))) from up_can (sOf_eq _ _ _) rfl (setO_same _ _ _ _)) (by omega)
                    have hF_212 : FRM [73, 96, 97, 98] [32, 33, 34, 36] h (setO w148_196 73 (fup (fup (fup (w148_196 73) 32 (2 * ((w148_196 73) 32))) 33 (2 * ((w148_196 73) 33))) 34 (((w148_196 73) 34) - 1))) := FRM_f (show up (setO w148_196 73 (fup (fup (w148_196 73) 32 (2 * ((w148_196 73) 32))) 33 (2 * ((w148_196 73) 33)))) 73 34 (((w148_196 73) 34) - 1) = (setO w148_196 73 (fup (fup (fup (w148_196 73) 32 (2 * ((w148_196 73) 32))) 33 (2 * ((w148_196 73) 33))) 34 (((w148_196 73) 34) - 1))) from up_can (sOf_eq _ _ _) rfl (setO_same _ _ _ _)) hF_210 (by decide) (by decide)
                    refine TT_aload_n hK rfl 0 rfl dX12_tellBit_193 ?_
                    refine gf_X12_178 hK (by decide) rfl (v := ((w148_196 73) 34) - 1) (rd_ (sOf_eq _ _ _) (fup_eq _ _ _)) dX12_tellBit_194 ?_
                    have r213 := ty_73_34 (v := ((w148_196 73) 34) - 1) hT_212 (rd_ (sOf_eq _ _ _) (fup_eq _ _ _))
                    refine TT_if_ne hK (tgt := 148) (irm (by omega) (by omega)) dX12_tellBit_197 (by decide) (fun hb197_214 => ?_) (fun hb197_214 => ?_)
                    · have e215_73_32 : (setO w148_196 73 (fup (fup (fup (w148_196 73) 32 (2 * ((w148_196 73) 32))) 33 (2 * ((w148_196 73) 33))) 34 (((w148_196 73) 34) - 1))) 73 32 = 2 * ((w148_196 73) 32) := rd_ (sOf_eq _ _ _) ((fup_ne _ _ (by decide)).trans ((fup_ne _ _ (by decide)).trans (fup_eq _ _ _)))
                      have e216_73_34 : (setO w148_196 73 (fup (fup (fup (w148_196 73) 32 (2 * ((w148_196 73) 32))) 33 (2 * ((w148_196 73) 33))) 34 (((w148_196 73) 34) - 1))) 73 34 = ((w148_196 73) 34) - 1 := rd_ (sOf_eq _ _ _) (fup_eq _ _ _)
                      have e217_73_36 : (setO w148_196 73 (fup (fup (fup (w148_196 73) 32 (2 * ((w148_196 73) 32))) 33 (2 * ((w148_196 73) 33))) 34 (((w148_196 73) 34) - 1))) 73 36 = (w148_196 73) 36 := rd_ (sOf_eq _ _ _) ((fup_ne _ _ (by decide)).trans ((fup_ne _ _ (by decide)).trans (fup_ne _ _ (by decide))))
                      have e218_73_32 : (setO w148_196 73 (fup (fup (fup (w148_196 73) 32 (2 * ((w148_196 73) 32))) 33 (2 * ((w148_196 73) 33))) 34 (((w148_196 73) 34) - 1))) 73 32 = 2 * ((w148_196 73) 32) := rd_ (sOf_eq _ _ _) ((fup_ne _ _ (by decide)).trans ((fup_ne _ _ (by decide)).trans (fup_eq _ _ _)))
                      have e219_73_34 : (setO w148_196 73 (fup (fup (fup (w148_196 73) 32 (2 * ((w148_196 73) 32))) 33 (2 * ((w148_196 73) 33))) 34 (((w148_196 73) 34) - 1))) 73 34 = ((w148_196 73) 34) - 1 := rd_ (sOf_eq _ _ _) (fup_eq _ _ _)
                      have e220_73_36 : (setO w148_196 73 (fup (fup (fup (w148_196 73) 32 (2 * ((w148_196 73) 32))) 33 (2 * ((w148_196 73) 33))) 34 (((w148_196 73) 34) - 1))) 73 36 = (w148_196 73) 36 := rd_ (sOf_eq _ _ _) ((fup_ne _ _ (by decide)).trans ((fup_ne _ _ (by decide)).trans (fup_ne _ _ (by decide))))
                      have e221_96 : (setO w148_196 73 (fup (fup (fup (w148_196 73) 32 (2 * ((w148_196 73) 32))) 33 (2 * ((w148_196 73) 33))) 34 (((w148_196 73) 34) - 1))) 96 = w148_196 96 := sOf_ne _ _ (by decide)
                      have e222_96 : (setO w148_196 73 (fup (fup (fup (w148_196 73) 32 (2 * ((w148_196 73) 32))) 33 (2 * ((w148_196 73) 33))) 34 (((w148_196 73) 34) - 1))) 96 = w148_196 96 := sOf_ne _ _ (by decide)
                      have e223_73_32 : (setO w148_196 73 (fup (fup (fup (w148_196 73) 32 (2 * ((w148_196 73) 32))) 33 (2 * ((w148_196 73) 33))) 34 (((w148_196 73) 34) - 1))) 73 32 = 2 * ((w148_196 73) 32) := rd_ (sOf_eq _ _ _) ((fup_ne _ _ (by decide)).trans ((fup_ne _ _ (by decide)).trans (fup_eq _ _ _)))
                      have e224_73_32 : (setO w148_196 73 (fup (fup (fup (w148_196 73) 32 (2 * ((w148_196 73) 32))) 33 (2 * ((w148_196 73) 33))) 34 (((w148_196 73) 34) - 1))) 73 32 = 2 * ((w148_196 73) 32) := rd_ (sOf_eq _ _ _) ((fup_ne _ _ (by decide)).trans ((fup_ne _ _ (by decide)).trans (fup_eq _ _ _)))
                      have e225_73_33 : (setO w148_196 73 (fup (fup (fup (w148_196 73) 32 (2 * ((w148_196 73) 32))) 33 (2 * ((w148_196 73) 33))) 34 (((w148_196 73) 34) - 1))) 73 33 = 2 * ((w148_196 73) 33) := rd_ (sOf_eq _ _ _) ((fup_ne _ _ (by decide)).trans (fup_eq _ _ _))
                      have e226_73_34 : (setO w148_196 73 (fup (fup (fup (w148_196 73) 32 (2 * ((w148_196 73) 32))) 33 (2 * ((w148_196 73) 33))) 34 (((w148_196 73) 34) - 1))) 73 34 = ((w148_196 73) 34) - 1 := rd_ (sOf_eq _ _ _) (fup_eq _ _ _)
                      have e227_73_36 : (setO w148_196 73 (fup (fup (fup (w148_196 73) 32 (2 * ((w148_196 73) 32))) 33 (2 * ((w148_196 73) 33))) 34 (((w148_196 73) 34) - 1))) 73 36 = (w148_196 73) 36 := rd_ (sOf_eq _ _ _) ((fup_ne _ _ (by decide)).trans ((fup_ne _ _ (by decide)).trans (fup_ne _ _ (by decide))))
                      have e228_98 : (setO w148_196 73 (fup (fup (fup (w148_196 73) 32 (2 * ((w148_196 73) 32))) 33 (2 * ((w148_196 73) 33))) 34 (((w148_196 73) 34) - 1))) 98 = w148_196 98 := sOf_ne _ _ (by decide)
                      have e229_96 : (setO w148_196 73 (fup (fup (fup (w148_196 73) 32 (2 * ((w148_196 73) 32))) 33 (2 * ((w148_196 73) 33))) 34 (((w148_196 73) 34) - 1))) 96 = w148_196 96 := sOf_ne _ _ (by decide)
                      have e230_97 : (setO w148_196 73 (fup (fup (fup (w148_196 73) 32 (2 * ((w148_196 73) 32))) 33 (2 * ((w148_196 73) 33))) 34 (((w148_196 73) 34) - 1))) 97 = w148_196 97 := sOf_ne _ _ (by decide)
                      have e231_73_32 : (setO w148_196 73 (fup (fup (fup (w148_196 73) 32 (2 * ((w148_196 73) 32))) 33 (2 * ((w148_196 73) 33))) 34 (((w148_196 73) 34) - 1))) 73 32 = 2 * ((w148_196 73) 32) := rd_ (sOf_eq _ _ _) ((fup_ne _ _ (by decide)).trans ((fup_ne _ _ (by decide)).trans (fup_eq _ _ _)))
                      exact ih196 R9 X9 (setO w148_196 73 (fup (fup (fup (w148_196 73) 32 (2 * ((w148_196 73) 32))) 33 (2 * ((w148_196 73) 33))) 34 (((w148_196 73) 34) - 1))) hT_212 hF_212 (by rewrite [e215_73_32]; first | omega | (simp [up, setR] <;> omega)) (by rewrite [e216_73_34]; first | omega | (simp [up, setR] <;> omega)) (by rewrite [e217_73_36]; first | omega | (simp [up, setR] <;> omega)) (by rewrite [e218_73_32, e219_73_34, e220_73_36, e221_96]; first | omega | (simp [up, setR] <;> omega)) (by rewrite [e222_96]; exact (PhS_r _).1) (by rewrite [e223_73_32]; exact (ndb_r _).1) (by rewrite [e224_73_32, e225_73_33, e226_73_34, e227_73_36, e228_98]; cases f with | zero => exact absurd (MI_z hf) (by omega) | succ f => first | exact ⟨f, MI_next hf (by omega) (by omega)⟩ | (rw [o1_at201, o2_at201, o3_at201, o4_at201]; exact ⟨f, MI_out hf (by omega) (by omega)⟩)) (by first | omega | (simp [up, setR] <;> omega)) (by rewrite [e229_96, e230_97]; exact hR) (by rewrite [e231_73_32]; first | omega | (simp [up, setR] <;> omega))
                    · refine TT_aload_n hK rfl 0 rfl dX12_tellBit_200 ?_
                      have e232_73_36 : (setO w148_196 73 (fup (fup (fup (w148_196 73) 32 (2 * ((w148_196 73) 32))) 33 (2 * ((w148_196 73) 33))) 34 (((w148_196 73) 34) - 1))) 73 36 = (w148_196 73) 36 := rd_ (sOf_eq _ _ _) ((fup_ne _ _ (by decide)).trans ((fup_ne _ _ (by decide)).trans (fup_ne _ _ (by decide))))
                      have e233_73_33 : (setO w148_196 73 (fup (fup (fup (w148_196 73) 32 (2 * ((w148_196 73) 32))) 33 (2 * ((w148_196 73) 33))) 34 (((w148_196 73) 34) - 1))) 73 33 = 2 * ((w148_196 73) 33) := rd_ (sOf_eq _ _ _) ((fup_ne _ _ (by decide)).trans (fup_eq _ _ _))
                      have e234_73_36 : (setO w148_196 73 (fup (fup (fup (w148_196 73) 32 (2 * ((w148_196 73) 32))) 33 (2 * ((w148_196 73) 33))) 34 (((w148_196 73) 34) - 1))) 73 36 = (w148_196 73) 36 := rd_ (sOf_eq _ _ _) ((fup_ne _ _ (by decide)).trans ((fup_ne _ _ (by decide)).trans (fup_ne _ _ (by decide))))
                      have e235_98 : (setO w148_196 73 (fup (fup (fup (w148_196 73) 32 (2 * ((w148_196 73) 32))) 33 (2 * ((w148_196 73) 33))) 34 (((w148_196 73) 34) - 1))) 98 = w148_196 98 := sOf_ne _ _ (by decide)
                      refine iv_X12_195 hK (s_putOut_e (setO w148_196 73 (fup (fup (fup (w148_196 73) 32 (2 * ((w148_196 73) 32))) 33 (2 * ((w148_196 73) 33))) 34 (((w148_196 73) 34) - 1))) hT_212 (by rewrite [e232_73_36]; first | omega | (simp [up, setR] <;> omega)) (by rewrite [e233_73_33]; first | omega | (simp [up, setR] <;> omega)) (by rewrite [e234_73_36, e235_98]; first | omega | (simp [up, setR] <;> omega))) (by decide) rfl ⟨by decide, by decide⟩ (by decide) rfl rfl (Nat.le_of_ble_eq_true rfl) ⟨by decide, by decide⟩ dX12_tellBit_201 ?_
                      intro r9 g201_236 hp9
                      obtain ⟨⟨hT_236, hG_236⟩, hr9, p1_236, p2_236, o1_236, o2_236, o3_236, o4_236⟩ := hp9
                      rw [hr9]
                      have hF_236 : FRM [73, 96, 97, 98] [32, 33, 34, 36] h g201_236 := FRM_tr hF_212 hG_236 (by decide) (by decide)
                      rw [show (setO w148_196 73 (fup (fup (fup (w148_196 73) 32 (2 * ((w148_196 73) 32))) 33 (2 * ((w148_196 73) 33))) 34 (((w148_196 73) 34) - 1))) 73 36 = (w148_196 73) 36 from rd_ (sOf_eq _ _ _) ((fup_ne _ _ (by decide)).trans ((fup_ne _ _ (by decide)).trans (fup_ne _ _ (by decide))))] at p1_236
                      rw [show (setO w148_196 73 (fup (fup (fup (w148_196 73) 32 (2 * ((w148_196 73) 32))) 33 (2 * ((w148_196 73) 33))) 34 (((w148_196 73) 34) - 1))) 73 33 = 2 * ((w148_196 73) 33) from rd_ (sOf_eq _ _ _) ((fup_ne _ _ (by decide)).trans (fup_eq _ _ _))] at o1_236
                      rw [show (setO w148_196 73 (fup (fup (fup (w148_196 73) 32 (2 * ((w148_196 73) 32))) 33 (2 * ((w148_196 73) 33))) 34 (((w148_196 73) 34) - 1))) 73 36 = (w148_196 73) 36 from rd_ (sOf_eq _ _ _) ((fup_ne _ _ (by decide)).trans ((fup_ne _ _ (by decide)).trans (fup_ne _ _ (by decide))))] at o1_236
                      rw [show (setO w148_196 73 (fup (fup (fup (w148_196 73) 32 (2 * ((w148_196 73) 32))) 33 (2 * ((w148_196 73) 33))) 34 (((w148_196 73) 34) - 1))) 98 = w148_196 98 from sOf_ne _ _ (by decide)] at o1_236
                      rw [show (setO w148_196 73 (fup (fup (fup (w148_196 73) 32 (2 * ((w148_196 73) 32))) 33 (2 * ((w148_196 73) 33))) 34 (((w148_196 73) 34) - 1))) 73 33 = 2 * ((w148_196 73) 33) from rd_ (sOf_eq _ _ _) ((fup_ne _ _ (by decide)).trans (fup_eq _ _ _))] at o2_236
                      rw [show (setO w148_196 73 (fup (fup (fup (w148_196 73) 32 (2 * ((w148_196 73) 32))) 33 (2 * ((w148_196 73) 33))) 34 (((w148_196 73) 34) - 1))) 73 36 = (w148_196 73) 36 from rd_ (sOf_eq _ _ _) ((fup_ne _ _ (by decide)).trans ((fup_ne _ _ (by decide)).trans (fup_ne _ _ (by decide))))] at o2_236
                      rw [show (setO w148_196 73 (fup (fup (fup (w148_196 73) 32 (2 * ((w148_196 73) 32))) 33 (2 * ((w148_196 73) 33))) 34 (((w148_196 73) 34) - 1))) 98 = w148_196 98 from sOf_ne _ _ (by decide)] at o2_236
                      rw [show (setO w148_196 73 (fup (fup (fup (w148_196 73) 32 (2 * ((w148_196 73) 32))) 33 (2 * ((w148_196 73) 33))) 34 (((w148_196 73) 34) - 1))) 73 33 = 2 * ((w148_196 73) 33) from rd_ (sOf_eq _ _ _) ((fup_ne _ _ (by decide)).trans (fup_eq _ _ _))] at o3_236
                      rw [show (setO w148_196 73 (fup (fup (fup (w148_196 73) 32 (2 * ((w148_196 73) 32))) 33 (2 * ((w148_196 73) 33))) 34 (((w148_196 73) 34) - 1))) 73 36 = (w148_196 73) 36 from rd_ (sOf_eq _ _ _) ((fup_ne _ _ (by decide)).trans ((fup_ne _ _ (by decide)).trans (fup_ne _ _ (by decide))))] at o3_236
                      rw [show (setO w148_196 73 (fup (fup (fup (w148_196 73) 32 (2 * ((w148_196 73) 32))) 33 (2 * ((w148_196 73) 33))) 34 (((w148_196 73) 34) - 1))) 98 = w148_196 98 from sOf_ne _ _ (by decide)] at o3_236
                      rw [show (setO w148_196 73 (fup (fup (fup (w148_196 73) 32 (2 * ((w148_196 73) 32))) 33 (2 * ((w148_196 73) 33))) 34 (((w148_196 73) 34) - 1))) 73 33 = 2 * ((w148_196 73) 33) from rd_ (sOf_eq _ _ _) ((fup_ne _ _ (by decide)).trans (fup_eq _ _ _))] at o4_236
                      rw [show (setO w148_196 73 (fup (fup (fup (w148_196 73) 32 (2 * ((w148_196 73) 32))) 33 (2 * ((w148_196 73) 33))) 34 (((w148_196 73) 34) - 1))) 73 36 = (w148_196 73) 36 from rd_ (sOf_eq _ _ _) ((fup_ne _ _ (by decide)).trans ((fup_ne _ _ (by decide)).trans (fup_ne _ _ (by decide))))] at o4_236
                      rw [show (setO w148_196 73 (fup (fup (fup (w148_196 73) 32 (2 * ((w148_196 73) 32))) 33 (2 * ((w148_196 73) 33))) 34 (((w148_196 73) 34) - 1))) 98 = w148_196 98 from sOf_ne _ _ (by decide)] at o4_236
                      have o1_at201 := o1_236
                      have o2_at201 := o2_236
                      have o3_at201 := o3_236
                      have o4_at201 := o4_236
                      show TT K ly 0 0 204 [(0, vR 73), (1, vI x), (2, vI b)] [] g201_236
                      refine TT_goto hK (tgt := 148) dX12_tellBit_204 (by decide) ?_
                      have e237_73_32 : g201_236 73 32 = 2 * ((w148_196 73) 32) := ((hG_236.2 32 (by decide))).trans (rd_ (sOf_eq _ _ _) ((fup_ne _ _ (by decide)).trans ((fup_ne _ _ (by decide)).trans (fup_eq _ _ _))))
                      have e238_73_34 : g201_236 73 34 = (g201_236 73) 34 := rfl
                      have e239_73_36 : g201_236 73 36 = (g201_236 73) 36 := rfl
                      have e240_73_32 : g201_236 73 32 = 2 * ((w148_196 73) 32) := ((hG_236.2 32 (by decide))).trans (rd_ (sOf_eq _ _ _) ((fup_ne _ _ (by decide)).trans ((fup_ne _ _ (by decide)).trans (fup_eq _ _ _))))
                      have e241_73_34 : g201_236 73 34 = (g201_236 73) 34 := rfl
                      have e242_73_36 : g201_236 73 36 = (g201_236 73) 36 := rfl
                      have e243_96 : g201_236 96 = w148_196 96 := ((hG_236.1 96 (by decide))).trans (sOf_ne _ _ (by decide))
                      have e244_96 : g201_236 96 = w148_196 96 := ((hG_236.1 96 (by decide))).trans (sOf_ne _ _ (by decide))
                      have e245_73_32 : g201_236 73 32 = 2 * ((w148_196 73) 32) := ((hG_236.2 32 (by decide))).trans (rd_ (sOf_eq _ _ _) ((fup_ne _ _ (by decide)).trans ((fup_ne _ _ (by decide)).trans (fup_eq _ _ _))))
                      have e246_73_32 : g201_236 73 32 = 2 * ((w148_196 73) 32) := ((hG_236.2 32 (by decide))).trans (rd_ (sOf_eq _ _ _) ((fup_ne _ _ (by decide)).trans ((fup_ne _ _ (by decide)).trans (fup_eq _ _ _))))
                      have e247_73_33 : g201_236 73 33 = (g201_236 73) 33 := rfl
                      have e248_73_34 : g201_236 73 34 = (g201_236 73) 34 := rfl
                      have e249_73_36 : g201_236 73 36 = (g201_236 73) 36 := rfl
                      have e250_96 : g201_236 96 = w148_196 96 := ((hG_236.1 96 (by decide))).trans (sOf_ne _ _ (by decide))
                      have e251_97 : g201_236 97 = w148_196 97 := ((hG_236.1 97 (by decide))).trans (sOf_ne _ _ (by decide))
                      have e252_73_32 : g201_236 73 32 = 2 * ((w148_196 73) 32) := ((hG_236.2 32 (by decide))).trans (rd_ (sOf_eq _ _ _) ((fup_ne _ _ (by decide)).trans ((fup_ne _ _ (by decide)).trans (fup_eq _ _ _))))
                      exact ih196 R9 X9 g201_236 hT_236 hF_236 (by rewrite [e237_73_32]; first | omega | (simp [up, setR] <;> omega)) (by rewrite [e238_73_34]; first | omega | (simp [up, setR] <;> omega)) (by rewrite [e239_73_36]; first | omega | (simp [up, setR] <;> omega)) (by rewrite [e240_73_32, e241_73_34, e242_73_36, e243_96]; first | omega | (simp [up, setR] <;> omega)) (by rewrite [e244_96]; exact (PhS_r _).1) (by rewrite [e245_73_32]; exact (ndb_r _).1) (by rewrite [e246_73_32, e247_73_33, e248_73_34, e249_73_36]; cases f with | zero => exact absurd (MI_z hf) (by omega) | succ f => first | exact ⟨f, MI_next hf (by omega) (by omega)⟩ | (rw [o1_at201, o2_at201, o3_at201, o4_at201]; exact ⟨f, MI_out hf (by omega) (by omega)⟩)) (by first | omega | (simp [up, setR] <;> omega)) (by rewrite [e250_96, e251_97]; exact hR) (by rewrite [e252_73_32]; first | omega | (simp [up, setR] <;> omega))
              refine TT_sub [4, 5, 6] rfl ?_
              have e253_73_32 : g145_195 73 32 = qS (h 96 x) := (congrFun (hG_195.1 73 (by decide)) 32).trans (rd_ (sOf_eq _ _ _) ((fup_ne _ _ (by decide)).trans (fup_eq _ _ _)))
              have e254_73_34 : g145_195 73 34 = (h 73) 34 := (congrFun (hG_195.1 73 (by decide)) 34).trans (rd_ (sOf_eq _ _ _) ((fup_ne _ _ (by decide)).trans (fup_ne _ _ (by decide))))
              have e255_73_36 : g145_195 73 36 = (h 73) 36 := (congrFun (hG_195.1 73 (by decide)) 36).trans (rd_ (sOf_eq _ _ _) ((fup_ne _ _ (by decide)).trans (fup_ne _ _ (by decide))))
              have e256_73_32 : g145_195 73 32 = qS (h 96 x) := (congrFun (hG_195.1 73 (by decide)) 32).trans (rd_ (sOf_eq _ _ _) ((fup_ne _ _ (by decide)).trans (fup_eq _ _ _)))
              have e257_73_34 : g145_195 73 34 = (h 73) 34 := (congrFun (hG_195.1 73 (by decide)) 34).trans (rd_ (sOf_eq _ _ _) ((fup_ne _ _ (by decide)).trans (fup_ne _ _ (by decide))))
              have e258_73_36 : g145_195 73 36 = (h 73) 36 := (congrFun (hG_195.1 73 (by decide)) 36).trans (rd_ (sOf_eq _ _ _) ((fup_ne _ _ (by decide)).trans (fup_ne _ _ (by decide))))
              have e259_73_32 : g145_195 73 32 = qS (h 96 x) := (congrFun (hG_195.1 73 (by decide)) 32).trans (rd_ (sOf_eq _ _ _) ((fup_ne _ _ (by decide)).trans (fup_eq _ _ _)))
              have e260_73_32 : g145_195 73 32 = qS (h 96 x) := (congrFun (hG_195.1 73 (by decide)) 32).trans (rd_ (sOf_eq _ _ _) ((fup_ne _ _ (by decide)).trans (fup_eq _ _ _)))
              have e261_73_33 : g145_195 73 33 = (h 73) 33 := (congrFun (hG_195.1 73 (by decide)) 33).trans (rd_ (sOf_eq _ _ _) (fup_eq _ _ _))
              have e262_73_34 : g145_195 73 34 = (h 73) 34 := (congrFun (hG_195.1 73 (by decide)) 34).trans (rd_ (sOf_eq _ _ _) ((fup_ne _ _ (by decide)).trans (fup_ne _ _ (by decide))))
              have e263_73_36 : g145_195 73 36 = (h 73) 36 := (congrFun (hG_195.1 73 (by decide)) 36).trans (rd_ (sOf_eq _ _ _) ((fup_ne _ _ (by decide)).trans (fup_ne _ _ (by decide))))
              have e264_98 : g145_195 98 = h 98 := ((hG_195.1 98 (by decide))).trans (sOf_ne _ _ (by decide))
              have k9 := NDC (a := qS (h 96 x)) (ot := 1) tq (by omega) (by omega)
              exact L148_196 ((((65536 : Int) - (g145_195 73 32)).toNat) + 1) (mendS 15 (qS (h 96 x)) ((h 73) 33) ((h 73) 34) ((h 73) 36) (h 98)) (7 * h 73 36 - h 73 34 + 15) g145_195 hT_195 hF_195 (by rewrite [e253_73_32]; first | omega | (simp [up, setR] <;> omega)) (by rewrite [e254_73_34]; first | omega | (simp [up, setR] <;> omega)) (by rewrite [e255_73_36]; first | omega | (simp [up, setR] <;> omega)) (by rewrite [e256_73_32, e257_73_34, e258_73_36]; first | omega | (simp [up, setR] <;> omega)) (by exact (PhS_r _).1) (by rewrite [e259_73_32]; exact (ndb_r _).1) (by rewrite [e260_73_32, e261_73_33, e262_73_34, e263_73_36, e264_98]; exact ⟨15, MI_0 (MQ_tell (x := x) (st := h 96) (P := (b = h 97 x ↔ h 73 32 - qS (h 96 x) < qS (h 96 x))) hq ha.1 hs (by first | exact (if_pos (by omega)).symm | exact (if_neg (by omega)).symm) (by first | exact (if_pos (by omega)).symm | exact (if_neg (by omega)).symm))⟩) (by first | omega | (simp [up, setR] <;> omega)) (by rw [l1_at145, l2_at145]; exact tellS_m (by omega) (by first | exact (if_pos (by omega)).symm | exact (if_neg (by omega)).symm) (by first | exact (if_pos (by omega)).symm | exact (if_neg (by omega)).symm) (by omega)) (Nat.lt_succ_self _)
      · have hb76_186 := lcmp_lt hb76_186
        refine TT_iconst hK dX12_tellBit_79 ?_
        refine TT_goto hK (tgt := 84) dX12_tellBit_80 (by decide) ?_
        refine TT_istore hK (lv' := [(5, vI 1), (4, vI 1), (3, vI (qS (h 96 x))), (0, vR 73), (1, vI x), (2, vI b)]) (by decide) rfl dX12_tellBit_84 ?_
        refine TT_iload hK 1 rfl dX12_tellBit_86 ?_
        refine TT_iload hK 0 rfl dX12_tellBit_88 ?_
        refine TT_icmp_eq hK (tgt := 97) (by decide) (by decide) dX12_tellBit_90 (by decide) (fun hb90_265 => ?_) (fun hb90_265 => ?_)
        · refine TT_iconst hK dX12_tellBit_97 ?_
          refine TT_istore hK (lv' := [(6, vI 0), (5, vI 1), (4, vI 1), (3, vI (qS (h 96 x))), (0, vR 73), (1, vI x), (2, vI b)]) (by decide) rfl dX12_tellBit_98 ?_
          refine TT_aload_n hK rfl 4 rfl dX12_tellBit_100 ?_
          refine TT_iload hK 0 rfl dX12_tellBit_101 ?_
          refine TT_if_eq hK (tgt := 113) (by decide) dX12_tellBit_103 (by decide) (fun hb103_266 => ?_) (fun hb103_266 => ?_)
          · refine TT_aload_n hK rfl 4 rfl dX12_tellBit_113 ?_
            refine gf_X12_175 hK (by decide) rfl (v := (h 73) 33) (rd_ (sOf_eq _ _ _) (fup_ne _ _ (by decide))) dX12_tellBit_114 ?_
            have r267 := ty_73_33 (v := (h 73) 33) hT_183 (rd_ (sOf_eq _ _ _) (fup_ne _ _ (by decide)))
            refine TT_iload_n hK rfl 3 rfl dX12_tellBit_117 ?_
            refine TT_i2l hK (irm (by omega) (by omega)) dX12_tellBit_118 ?_
            refine TT_ladd hK dX12_tellBit_119 ?_
            refine pf_X12_175 hK (by decide) rfl dX12_tellBit_120 ?_
            refine TT_hp (h' := setO h 73 (fup (fup (h 73) 32 (((h 73) 32) - (qS (h 96 x)))) 33 (((h 73) 33) + (qS (h 96 x))))) (up_can (sOf_eq _ _ _) rfl (setO_same _ _ _ _)) ?_
            have hT_268 : TY (setO h 73 (fup (fup (h 73) 32 (((h 73) 32) - (qS (h 96 x)))) 33 (((h 73) 33) + (qS (h 96 x))))) := tu_73_33 hT_183 (show up (setO h 73 (fup (h 73) 32 (((h 73) 32) - (qS (h 96 x))))) 73 33 (((h 73) 33) + (qS (h 96 x))) = (setO h 73 (fup (fup (h 73) 32 (((h 73) 32) - (qS (h 96 x)))) 33 (((h 73) 33) + (qS (h 96 x))))) from up_can (sOf_eq _ _ _) rfl (setO_same _ _ _ _)) (by omega)
            have hF_268 : FRM [73, 96, 97, 98] [32, 33, 34, 36] h (setO h 73 (fup (fup (h 73) 32 (((h 73) 32) - (qS (h 96 x)))) 33 (((h 73) 33) + (qS (h 96 x))))) := FRM_f (show up (setO h 73 (fup (h 73) 32 (((h 73) 32) - (qS (h 96 x))))) 73 33 (((h 73) 33) + (qS (h 96 x))) = (setO h 73 (fup (fup (h 73) 32 (((h 73) 32) - (qS (h 96 x)))) 33 (((h 73) 33) + (qS (h 96 x))))) from up_can (sOf_eq _ _ _) rfl (setO_same _ _ _ _)) hF_183 (by decide) (by decide)
            refine TT_aload_n hK rfl 4 rfl dX12_tellBit_123 ?_
            refine TT_iload hK 0 rfl dX12_tellBit_124 ?_
            refine TT_if_eq hK (tgt := 134) (by decide) dX12_tellBit_126 (by decide) (fun hb126_269 => ?_) (fun hb126_269 => ?_)
            · refine TT_aload_n hK rfl 4 rfl dX12_tellBit_134 ?_
              refine gf_X12_171 hK (by decide) rfl (v := ((h 73) 32) - (qS (h 96 x))) (rd_ (sOf_eq _ _ _) ((fup_ne _ _ (by decide)).trans (fup_eq _ _ _))) dX12_tellBit_135 ?_
              refine pf_X12_171 hK (by decide) rfl dX12_tellBit_138 ?_
              refine TT_hp (h' := setO h 73 (fup (fup (h 73) 32 (((h 73) 32) - (qS (h 96 x)))) 33 (((h 73) 33) + (qS (h 96 x))))) (up_can (sOf_eq _ _ _) ((fup_comm _ _ _ (by decide)).trans (fup_cg (fup_same _ _ _ _))) (setO_same _ _ _ _)) ?_
              have hT_270 : TY (setO h 73 (fup (fup (h 73) 32 (((h 73) 32) - (qS (h 96 x)))) 33 (((h 73) 33) + (qS (h 96 x))))) := tu_73_32 hT_268 (show up (setO h 73 (fup (fup (h 73) 32 (((h 73) 32) - (qS (h 96 x)))) 33 (((h 73) 33) + (qS (h 96 x))))) 73 32 (((h 73) 32) - (qS (h 96 x))) = (setO h 73 (fup (fup (h 73) 32 (((h 73) 32) - (qS (h 96 x)))) 33 (((h 73) 33) + (qS (h 96 x))))) from up_can (sOf_eq _ _ _) ((fup_comm _ _ _ (by decide)).trans (fup_cg (fup_same _ _ _ _))) (setO_same _ _ _ _)) (by omega)
              have hF_270 : FRM [73, 96, 97, 98] [32, 33, 34, 36] h (setO h 73 (fup (fup (h 73) 32 (((h 73) 32) - (qS (h 96 x)))) 33 (((h 73) 33) + (qS (h 96 x))))) := FRM_f (show up (setO h 73 (fup (fup (h 73) 32 (((h 73) 32) - (qS (h 96 x)))) 33 (((h 73) 33) + (qS (h 96 x))))) 73 32 (((h 73) 32) - (qS (h 96 x))) = (setO h 73 (fup (fup (h 73) 32 (((h 73) 32) - (qS (h 96 x)))) 33 (((h 73) 33) + (qS (h 96 x))))) from up_can (sOf_eq _ _ _) ((fup_comm _ _ _ (by decide)).trans (fup_cg (fup_same _ _ _ _))) (setO_same _ _ _ _)) hF_268 (by decide) (by decide)
              refine TT_aload_n hK rfl 4 rfl dX12_tellBit_141 ?_
              refine TT_iload_n hK rfl 5 rfl dX12_tellBit_142 ?_
              refine TT_iload hK 2 rfl dX12_tellBit_143 ?_
              have e271_74 : (setO h 73 (fup (fup (h 73) 32 (((h 73) 32) - (qS (h 96 x)))) 33 (((h 73) 33) + (qS (h 96 x))))) 74 = h 74 := sOf_ne _ _ (by decide)
              have e272_75 : (setO h 73 (fup (fup (h 73) 32 (((h 73) 32) - (qS (h 96 x)))) 33 (((h 73) 33) + (qS (h 96 x))))) 75 = h 75 := sOf_ne _ _ (by decide)
              refine iv_X12_189 hK (s_learn_e x 1 (setO h 73 (fup (fup (h 73) 32 (((h 73) 32) - (qS (h 96 x)))) 33 (((h 73) 33) + (qS (h 96 x))))) hT_270 (by first | omega | (simp [up, setR] <;> omega)) (by first | omega | (simp [up, setR] <;> omega)) (by rewrite [e271_74, e272_75]; first | assumption | exact htb)) (by decide) rfl ⟨by decide, by decide⟩ (by decide) rfl rfl (Nat.le_of_ble_eq_true rfl) ⟨by decide, by decide⟩ dX12_tellBit_145 ?_
              intro r9 g145_273 hp9
              obtain ⟨⟨hT_273, hG_273⟩, hr9, p1_273, l1_273, l2_273⟩ := hp9
              rw [hr9]
              have hF_273 : FRM [73, 96, 97, 98] [32, 33, 34, 36] h g145_273 := FRM_tr hF_270 hG_273 (by decide) (by decide)
              rw [show (setO h 73 (fup (fup (h 73) 32 (((h 73) 32) - (qS (h 96 x)))) 33 (((h 73) 33) + (qS (h 96 x))))) 75 = h 75 from sOf_ne _ _ (by decide)] at p1_273
              rw [show (setO h 73 (fup (fup (h 73) 32 (((h 73) 32) - (qS (h 96 x)))) 33 (((h 73) 33) + (qS (h 96 x))))) 96 = h 96 from sOf_ne _ _ (by decide)] at p1_273
              rw [show (setO h 73 (fup (fup (h 73) 32 (((h 73) 32) - (qS (h 96 x)))) 33 (((h 73) 33) + (qS (h 96 x))))) 96 = h 96 from sOf_ne _ _ (by decide)] at l1_273
              rw [show (setO h 73 (fup (fup (h 73) 32 (((h 73) 32) - (qS (h 96 x)))) 33 (((h 73) 33) + (qS (h 96 x))))) 96 = h 96 from sOf_ne _ _ (by decide)] at l2_273
              rw [show (setO h 73 (fup (fup (h 73) 32 (((h 73) 32) - (qS (h 96 x)))) 33 (((h 73) 33) + (qS (h 96 x))))) 97 = h 97 from sOf_ne _ _ (by decide)] at l2_273
              have l1_at145 := l1_273
              have l2_at145 := l2_273
              show TT K ly 0 0 148 [(6, vI 0), (5, vI 1), (4, vI 1), (3, vI (qS (h 96 x))), (0, vR 73), (1, vI x), (2, vI b)] [] g145_273
              have L148_274 : ∀ (k274 : Nat) (R9 : Int × Int × Int × Int × (Int → Int)) (X9 : Int) (w148_274 : Hp_), TY w148_274 → FRM [73, 96, 97, 98] [32, 33, 34, 36] h w148_274 → (1 ≤ (w148_274 73 32) ∧ (w148_274 73 32) < 65536) → (1 ≤ (w148_274 73 34)) → (1 ≤ (w148_274 73 36)) → (7 * (w148_274 73 36) - (w148_274 73 34) + ndb (w148_274 73 32) + PhS (w148_274 96) ≤ 7 * (h 73 36) - (h 73 34) + PhS (h 96) + 9) → (0 ≤ PhS (w148_274 96)) → (0 ≤ ndb (w148_274 73 32)) → (∃ f, MIE_ f (w148_274 73 32) (w148_274 73 33) (w148_274 73 34) (w148_274 73 36) (w148_274 98) R9 X9) → (X9 ≤ 22400) → (tellS (h 73 32, h 73 33, h 73 34, h 73 36, h 96, h 97, h 98) x b = (R9.1, R9.2.1, R9.2.2.1, R9.2.2.2.1, (w148_274 96), (w148_274 97), R9.2.2.2.2)) → ((65536 : Int) - (w148_274 73 32)).toNat < k274 → TT K ly 0 0 148 [(0, vR 73), (1, vI x), (2, vI b)] [] w148_274 := by
                intro k274
                induction k274 with
                | zero => intro R9 X9 w148_274 hT148_274 hF148_274 ha1 ht1 hn1 hp1 hz1 hz2 hM hX hR hk274; exact absurd hk274 (Nat.not_lt_zero _)
                | succ k274 ih274 =>
                  intro R9 X9 w148_274 hT148_274 hF148_274 ha1 ht1 hn1 hp1 hz1 hz2 hM hX hR hk274
                  obtain ⟨f, hf⟩ := hM
                  have hcr := hf.2.2.2.c_r
                  obtain ⟨m1, m2, m3, m4, m5, m6, m7, m8, m9⟩ := hf.2.2.2
                  have hM : ∃ f, MIE_ f _ _ _ _ _ R9 X9 := ⟨f, hf⟩
                  refine TT_aload_n hK rfl 0 rfl dX12_tellBit_148 ?_
                  refine gf_X12_171 hK (by decide) rfl (v := (w148_274 73) 32) rfl dX12_tellBit_149 ?_
                  have r275 := ty_73_32 (v := (w148_274 73) 32) hT148_274 rfl
                  refine TT_ldc2 hK lc_X12_169 dX12_tellBit_152 ?_
                  refine TT_lcmp hK (lrm (by omega) (by omega)) (by decide) dX12_tellBit_155 ?_
                  refine TT_if_ge hK (tgt := 207) (lcmp_ir _ _) dX12_tellBit_156 (by decide) (fun hb156_276 => ?_) (fun hb156_276 => ?_)
                  · have hb156_276 := lcmp_ge hb156_276
                    refine TT_iload_n hK rfl 2 rfl dX12_tellBit_207 ?_
                    refine TT_iret hK hQ ?_ dX12_tellBit_208
                    have e277_73_32 : w148_274 73 32 = (w148_274 73) 32 := rfl
                    have e278_73_34 : w148_274 73 34 = (w148_274 73) 34 := rfl
                    have e279_73_36 : w148_274 73 36 = (w148_274 73) 36 := rfl
                    have e280_73_34 : w148_274 73 34 = (w148_274 73) 34 := rfl
                    have e281_73_36 : w148_274 73 36 = (w148_274 73) 36 := rfl
                    have e282_73_32 : w148_274 73 32 = (w148_274 73) 32 := rfl
                    have e283_73_33 : w148_274 73 33 = (w148_274 73) 33 := rfl
                    have e284_73_34 : w148_274 73 34 = (w148_274 73) 34 := rfl
                    have e285_73_36 : w148_274 73 36 = (w148_274 73) 36 := rfl
                    exact ⟨⟨hT148_274, hF148_274⟩, b, rfl, (by omega), (by omega), (by rewrite [e277_73_32]; omega), (by rewrite [e278_73_34]; omega), (by rewrite [e279_73_36]; omega), (by rewrite [e280_73_34, e281_73_36]; omega), (by rewrite [e282_73_32, e283_73_33, e284_73_34, e285_73_36]; first | (exact (tellS_1 (by omega)).symm) | (rw [hR, ← MI_done hM.choose_spec (by omega)]))⟩
                  · have hb156_276 := lcmp_lt hb156_276
                    have hd9 := ndb_2 (a := (w148_274 73) 32) (by omega) (by omega)
                    refine TT_aload_n hK rfl 0 rfl dX12_tellBit_159 ?_
                    refine TT_ldc2 hK lc_X12_193 dX12_tellBit_160 ?_
                    refine TT_aload_n hK rfl 0 rfl dX12_tellBit_163 ?_
                    refine gf_X12_171 hK (by decide) rfl (v := (w148_274 73) 32) rfl dX12_tellBit_164 ?_
                    refine TT_lmul hK dX12_tellBit_167 ?_
                    refine pf_X12_171 hK (by decide) rfl dX12_tellBit_168 ?_
                    refine TT_hp (h' := setO w148_274 73 (fup (w148_274 73) 32 (2 * ((w148_274 73) 32)))) (up_can rfl rfl rfl) ?_
                    have hT_286 : TY (setO w148_274 73 (fup (w148_274 73) 32 (2 * ((w148_274 73) 32)))) := tu_73_32 hT148_274 (show up w148_274 73 32 (2 * ((w148_274 73) 32)) = (setO w148_274 73 (fup (w148_274 73) 32 (2 * ((w148_274 73) 32)))) from up_can rfl rfl rfl) (by omega)
                    have hF_286 : FRM [73, 96, 97, 98] [32, 33, 34, 36] h (setO w148_274 73 (fup (w148_274 73) 32 (2 * ((w148_274 73) 32)))) := FRM_f (show up w148_274 73 32 (2 * ((w148_274 73) 32)) = (setO w148_274 73 (fup (w148_274 73) 32 (2 * ((w148_274 73) 32)))) from up_can rfl rfl rfl) hF148_274 (by decide) (by decide)
                    refine TT_aload_n hK rfl 0 rfl dX12_tellBit_171 ?_
                    refine TT_ldc2 hK lc_X12_193 dX12_tellBit_172 ?_
                    refine TT_aload_n hK rfl 0 rfl dX12_tellBit_175 ?_
                    refine gf_X12_175 hK (by decide) rfl (v := (w148_274 73) 33) (rd_ (sOf_eq _ _ _) (fup_ne _ _ (by decide))) dX12_tellBit_176 ?_
                    have r287 := ty_73_33 (v := (w148_274 73) 33) hT_286 (rd_ (sOf_eq _ _ _) (fup_ne _ _ (by decide)))
                    refine TT_lmul hK dX12_tellBit_179 ?_
                    refine pf_X12_175 hK (by decide) rfl dX12_tellBit_180 ?_
                    refine TT_hp (h' := setO w148_274 73 (fup (fup (w148_274 73) 32 (2 * ((w148_274 73) 32))) 33 (2 * ((w148_274 73) 33)))) (up_can (sOf_eq _ _ _) rfl (setO_same _ _ _ _)) ?_
                    have hT_288 : TY (setO w148_274 73 (fup (fup (w148_274 73) 32 (2 * ((w148_274 73) 32))) 33 (2 * ((w148_274 73) 33)))) := tu_73_33 hT_286 (show up (setO w148_274 73 (fup (w148_274 73) 32 (2 * ((w148_274 73) 32)))) 73 33 (2 * ((w148_274 73) 33)) = (setO w148_274 73 (fup (fup (w148_274 73) 32 (2 * ((w148_274 73) 32))) 33 (2 * ((w148_274 73) 33)))) from up_can (sOf_eq _ _ _) rfl (setO_same _ _ _ _)) (by omega)
                    have hF_288 : FRM [73, 96, 97, 98] [32, 33, 34, 36] h (setO w148_274 73 (fup (fup (w148_274 73) 32 (2 * ((w148_274 73) 32))) 33 (2 * ((w148_274 73) 33)))) := FRM_f (show up (setO w148_274 73 (fup (w148_274 73) 32 (2 * ((w148_274 73) 32)))) 73 33 (2 * ((w148_274 73) 33)) = (setO w148_274 73 (fup (fup (w148_274 73) 32 (2 * ((w148_274 73) 32))) 33 (2 * ((w148_274 73) 33)))) from up_can (sOf_eq _ _ _) rfl (setO_same _ _ _ _)) hF_286 (by decide) (by decide)
                    refine TT_aload_n hK rfl 0 rfl dX12_tellBit_183 ?_
                    refine TT_dup hK rfl dX12_tellBit_184 ?_
                    refine gf_X12_178 hK (by decide) rfl (v := (w148_274 73) 34) (rd_ (sOf_eq _ _ _) ((fup_ne _ _ (by decide)).trans (fup_ne _ _ (by decide)))) dX12_tellBit_185 ?_
                    have r289 := ty_73_34 (v := (w148_274 73) 34) hT_288 (rd_ (sOf_eq _ _ _) ((fup_ne _ _ (by decide)).trans (fup_ne _ _ (by decide))))
                    refine TT_iconst hK dX12_tellBit_188 ?_
                    refine TT_isub hK dX12_tellBit_189 ?_
                    refine pf_X12_178 hK (by decide) rfl dX12_tellBit_190 ?_
                    refine TT_hp (h' := setO w148_274 73 (fup (fup (fup (w148_274 73) 32 (2 * ((w148_274 73) 32))) 33 (2 * ((w148_274 73) 33))) 34 (((w148_274 73) 34) - 1))) (up_can (sOf_eq _ _ _) rfl (setO_same _ _ _ _)) ?_
                    have hT_290 : TY (setO w148_274 73 (fup (fup (fup (w148_274 73) 32 (2 * ((w148_274 73) 32))) 33 (2 * ((w148_274 73) 33))) 34 (((w148_274 73) 34) - 1))) := tu_73_34 hT_288 (show up (setO w148_274 73 (fup (fup (w148_274 73) 32 (2 * ((w148_274 73) 32))) 33 (2 * ((w148_274 73) 33)))) 73 34 (((w148_274 73) 34) - 1) = (setO w148_274 73 (fup (fup (fup (w148_274 73) 32 (2 * ((w148_274 73) 32))) 33 (2 * ((w148_274 73) 33))) 34 (((w148_274 73) 34) - 1))) from up_can (sOf_eq _ _ _) rfl (setO_same _ _ _ _)) (by omega)
                    have hF_290 : FRM [73, 96, 97, 98] [32, 33, 34, 36] h (setO w148_274 73 (fup (fup (fup (w148_274 73) 32 (2 * ((w148_274 73) 32))) 33 (2 * ((w148_274 73) 33))) 34 (((w148_274 73) 34) - 1))) := FRM_f (show up (setO w148_274 73 (fup (fup (w148_274 73) 32 (2 * ((w148_274 73) 32))) 33 (2 * ((w148_274 73) 33)))) 73 34 (((w148_274 73) 34) - 1) = (setO w148_274 73 (fup (fup (fup (w148_274 73) 32 (2 * ((w148_274 73) 32))) 33 (2 * ((w148_274 73) 33))) 34 (((w148_274 73) 34) - 1))) from up_can (sOf_eq _ _ _) rfl (setO_same _ _ _ _)) hF_288 (by decide) (by decide)
                    refine TT_aload_n hK rfl 0 rfl dX12_tellBit_193 ?_
                    refine gf_X12_178 hK (by decide) rfl (v := ((w148_274 73) 34) - 1) (rd_ (sOf_eq _ _ _) (fup_eq _ _ _)) dX12_tellBit_194 ?_
                    have r291 := ty_73_34 (v := ((w148_274 73) 34) - 1) hT_290 (rd_ (sOf_eq _ _ _) (fup_eq _ _ _))
                    refine TT_if_ne hK (tgt := 148) (irm (by omega) (by omega)) dX12_tellBit_197 (by decide) (fun hb197_292 => ?_) (fun hb197_292 => ?_)
                    · have e293_73_32 : (setO w148_274 73 (fup (fup (fup (w148_274 73) 32 (2 * ((w148_274 73) 32))) 33 (2 * ((w148_274 73) 33))) 34 (((w148_274 73) 34) - 1))) 73 32 = 2 * ((w148_274 73) 32) := rd_ (sOf_eq _ _ _) ((fup_ne _ _ (by decide)).trans ((fup_ne _ _ (by decide)).trans (fup_eq _ _ _)))
                      have e294_73_34 : (setO w148_274 73 (fup (fup (fup (w148_274 73) 32 (2 * ((w148_274 73) 32))) 33 (2 * ((w148_274 73) 33))) 34 (((w148_274 73) 34) - 1))) 73 34 = ((w148_274 73) 34) - 1 := rd_ (sOf_eq _ _ _) (fup_eq _ _ _)
                      have e295_73_36 : (setO w148_274 73 (fup (fup (fup (w148_274 73) 32 (2 * ((w148_274 73) 32))) 33 (2 * ((w148_274 73) 33))) 34 (((w148_274 73) 34) - 1))) 73 36 = (w148_274 73) 36 := rd_ (sOf_eq _ _ _) ((fup_ne _ _ (by decide)).trans ((fup_ne _ _ (by decide)).trans (fup_ne _ _ (by decide))))
                      have e296_73_32 : (setO w148_274 73 (fup (fup (fup (w148_274 73) 32 (2 * ((w148_274 73) 32))) 33 (2 * ((w148_274 73) 33))) 34 (((w148_274 73) 34) - 1))) 73 32 = 2 * ((w148_274 73) 32) := rd_ (sOf_eq _ _ _) ((fup_ne _ _ (by decide)).trans ((fup_ne _ _ (by decide)).trans (fup_eq _ _ _)))
                      have e297_73_34 : (setO w148_274 73 (fup (fup (fup (w148_274 73) 32 (2 * ((w148_274 73) 32))) 33 (2 * ((w148_274 73) 33))) 34 (((w148_274 73) 34) - 1))) 73 34 = ((w148_274 73) 34) - 1 := rd_ (sOf_eq _ _ _) (fup_eq _ _ _)
                      have e298_73_36 : (setO w148_274 73 (fup (fup (fup (w148_274 73) 32 (2 * ((w148_274 73) 32))) 33 (2 * ((w148_274 73) 33))) 34 (((w148_274 73) 34) - 1))) 73 36 = (w148_274 73) 36 := rd_ (sOf_eq _ _ _) ((fup_ne _ _ (by decide)).trans ((fup_ne _ _ (by decide)).trans (fup_ne _ _ (by decide))))
                      have e299_96 : (setO w148_274 73 (fup (fup (fup (w148_274 73) 32 (2 * ((w148_274 73) 32))) 33 (2 * ((w148_274 73) 33))) 34 (((w148_274 73) 34) - 1))) 96 = w148_274 96 := sOf_ne _ _ (by decide)
                      have e300_96 : (setO w148_274 73 (fup (fup (fup (w148_274 73) 32 (2 * ((w148_274 73) 32))) 33 (2 * ((w148_274 73) 33))) 34 (((w148_274 73) 34) - 1))) 96 = w148_274 96 := sOf_ne _ _ (by decide)
                      have e301_73_32 : (setO w148_274 73 (fup (fup (fup (w148_274 73) 32 (2 * ((w148_274 73) 32))) 33 (2 * ((w148_274 73) 33))) 34 (((w148_274 73) 34) - 1))) 73 32 = 2 * ((w148_274 73) 32) := rd_ (sOf_eq _ _ _) ((fup_ne _ _ (by decide)).trans ((fup_ne _ _ (by decide)).trans (fup_eq _ _ _)))
                      have e302_73_32 : (setO w148_274 73 (fup (fup (fup (w148_274 73) 32 (2 * ((w148_274 73) 32))) 33 (2 * ((w148_274 73) 33))) 34 (((w148_274 73) 34) - 1))) 73 32 = 2 * ((w148_274 73) 32) := rd_ (sOf_eq _ _ _) ((fup_ne _ _ (by decide)).trans ((fup_ne _ _ (by decide)).trans (fup_eq _ _ _)))
                      have e303_73_33 : (setO w148_274 73 (fup (fup (fup (w148_274 73) 32 (2 * ((w148_274 73) 32))) 33 (2 * ((w148_274 73) 33))) 34 (((w148_274 73) 34) - 1))) 73 33 = 2 * ((w148_274 73) 33) := rd_ (sOf_eq _ _ _) ((fup_ne _ _ (by decide)).trans (fup_eq _ _ _))
                      have e304_73_34 : (setO w148_274 73 (fup (fup (fup (w148_274 73) 32 (2 * ((w148_274 73) 32))) 33 (2 * ((w148_274 73) 33))) 34 (((w148_274 73) 34) - 1))) 73 34 = ((w148_274 73) 34) - 1 := rd_ (sOf_eq _ _ _) (fup_eq _ _ _)
                      have e305_73_36 : (setO w148_274 73 (fup (fup (fup (w148_274 73) 32 (2 * ((w148_274 73) 32))) 33 (2 * ((w148_274 73) 33))) 34 (((w148_274 73) 34) - 1))) 73 36 = (w148_274 73) 36 := rd_ (sOf_eq _ _ _) ((fup_ne _ _ (by decide)).trans ((fup_ne _ _ (by decide)).trans (fup_ne _ _ (by decide))))
                      have e306_98 : (setO w148_274 73 (fup (fup (fup (w148_274 73) 32 (2 * ((w148_274 73) 32))) 33 (2 * ((w148_274 73) 33))) 34 (((w148_274 73) 34) - 1))) 98 = w148_274 98 := sOf_ne _ _ (by decide)
                      have e307_96 : (setO w148_274 73 (fup (fup (fup (w148_274 73) 32 (2 * ((w148_274 73) 32))) 33 (2 * ((w148_274 73) 33))) 34 (((w148_274 73) 34) - 1))) 96 = w148_274 96 := sOf_ne _ _ (by decide)
                      have e308_97 : (setO w148_274 73 (fup (fup (fup (w148_274 73) 32 (2 * ((w148_274 73) 32))) 33 (2 * ((w148_274 73) 33))) 34 (((w148_274 73) 34) - 1))) 97 = w148_274 97 := sOf_ne _ _ (by decide)
                      have e309_73_32 : (setO w148_274 73 (fup (fup (fup (w148_274 73) 32 (2 * ((w148_274 73) 32))) 33 (2 * ((w148_274 73) 33))) 34 (((w148_274 73) 34) - 1))) 73 32 = 2 * ((w148_274 73) 32) := rd_ (sOf_eq _ _ _) ((fup_ne _ _ (by decide)).trans ((fup_ne _ _ (by decide)).trans (fup_eq _ _ _)))
                      exact ih274 R9 X9 (setO w148_274 73 (fup (fup (fup (w148_274 73) 32 (2 * ((w148_274 73) 32))) 33 (2 * ((w148_274 73) 33))) 34 (((w148_274 73) 34) - 1))) hT_290 hF_290 (by rewrite [e293_73_32]; first | omega | (simp [up, setR] <;> omega)) (by rewrite [e294_73_34]; first | omega | (simp [up, setR] <;> omega)) (by rewrite [e295_73_36]; first | omega | (simp [up, setR] <;> omega)) (by rewrite [e296_73_32, e297_73_34, e298_73_36, e299_96]; first | omega | (simp [up, setR] <;> omega)) (by rewrite [e300_96]; exact (PhS_r _).1) (by rewrite [e301_73_32]; exact (ndb_r _).1) (by rewrite [e302_73_32, e303_73_33, e304_73_34, e305_73_36, e306_98]; cases f with | zero => exact absurd (MI_z hf) (by omega) | succ f => first | exact ⟨f, MI_next hf (by omega) (by omega)⟩ | (rw [o1_at201, o2_at201, o3_at201, o4_at201]; exact ⟨f, MI_out hf (by omega) (by omega)⟩)) (by first | omega | (simp [up, setR] <;> omega)) (by rewrite [e307_96, e308_97]; exact hR) (by rewrite [e309_73_32]; first | omega | (simp [up, setR] <;> omega))
                    · refine TT_aload_n hK rfl 0 rfl dX12_tellBit_200 ?_
                      have e310_73_36 : (setO w148_274 73 (fup (fup (fup (w148_274 73) 32 (2 * ((w148_274 73) 32))) 33 (2 * ((w148_274 73) 33))) 34 (((w148_274 73) 34) - 1))) 73 36 = (w148_274 73) 36 := rd_ (sOf_eq _ _ _) ((fup_ne _ _ (by decide)).trans ((fup_ne _ _ (by decide)).trans (fup_ne _ _ (by decide))))
                      have e311_73_33 : (setO w148_274 73 (fup (fup (fup (w148_274 73) 32 (2 * ((w148_274 73) 32))) 33 (2 * ((w148_274 73) 33))) 34 (((w148_274 73) 34) - 1))) 73 33 = 2 * ((w148_274 73) 33) := rd_ (sOf_eq _ _ _) ((fup_ne _ _ (by decide)).trans (fup_eq _ _ _))
                      have e312_73_36 : (setO w148_274 73 (fup (fup (fup (w148_274 73) 32 (2 * ((w148_274 73) 32))) 33 (2 * ((w148_274 73) 33))) 34 (((w148_274 73) 34) - 1))) 73 36 = (w148_274 73) 36 := rd_ (sOf_eq _ _ _) ((fup_ne _ _ (by decide)).trans ((fup_ne _ _ (by decide)).trans (fup_ne _ _ (by decide))))
                      have e313_98 : (setO w148_274 73 (fup (fup (fup (w148_274 73) 32 (2 * ((w148_274 73) 32))) 33 (2 * ((w148_274 73) 33))) 34 (((w148_274 73) 34) - 1))) 98 = w148_274 98 := sOf_ne _ _ (by decide)
                      refine iv_X12_195 hK (s_putOut_e (setO w148_274 73 (fup (fup (fup (w148_274 73) 32 (2 * ((w148_274 73) 32))) 33 (2 * ((w148_274 73) 33))) 34 (((w148_274 73) 34) - 1))) hT_290 (by rewrite [e310_73_36]; first | omega | (simp [up, setR] <;> omega)) (by rewrite [e311_73_33]; first | omega | (simp [up, setR] <;> omega)) (by rewrite [e312_73_36, e313_98]; first | omega | (simp [up, setR] <;> omega))) (by decide) rfl ⟨by decide, by decide⟩ (by decide) rfl rfl (Nat.le_of_ble_eq_true rfl) ⟨by decide, by decide⟩ dX12_tellBit_201 ?_
                      intro r9 g201_314 hp9
                      obtain ⟨⟨hT_314, hG_314⟩, hr9, p1_314, p2_314, o1_314, o2_314, o3_314, o4_314⟩ := hp9
                      rw [hr9]
                      have hF_314 : FRM [73, 96, 97, 98] [32, 33, 34, 36] h g201_314 := FRM_tr hF_290 hG_314 (by decide) (by decide)
                      rw [show (setO w148_274 73 (fup (fup (fup (w148_274 73) 32 (2 * ((w148_274 73) 32))) 33 (2 * ((w148_274 73) 33))) 34 (((w148_274 73) 34) - 1))) 73 36 = (w148_274 73) 36 from rd_ (sOf_eq _ _ _) ((fup_ne _ _ (by decide)).trans ((fup_ne _ _ (by decide)).trans (fup_ne _ _ (by decide))))] at p1_314
                      rw [show (setO w148_274 73 (fup (fup (fup (w148_274 73) 32 (2 * ((w148_274 73) 32))) 33 (2 * ((w148_274 73) 33))) 34 (((w148_274 73) 34) - 1))) 73 33 = 2 * ((w148_274 73) 33) from rd_ (sOf_eq _ _ _) ((fup_ne _ _ (by decide)).trans (fup_eq _ _ _))] at o1_314
                      rw [show (setO w148_274 73 (fup (fup (fup (w148_274 73) 32 (2 * ((w148_274 73) 32))) 33 (2 * ((w148_274 73) 33))) 34 (((w148_274 73) 34) - 1))) 73 36 = (w148_274 73) 36 from rd_ (sOf_eq _ _ _) ((fup_ne _ _ (by decide)).trans ((fup_ne _ _ (by decide)).trans (fup_ne _ _ (by decide))))] at o1_314
                      rw [show (setO w148_274 73 (fup (fup (fup (w148_274 73) 32 (2 * ((w148_274 73) 32))) 33 (2 * ((w148_274 73) 33))) 34 (((w148_274 73) 34) - 1))) 98 = w148_274 98 from sOf_ne _ _ (by decide)] at o1_314
                      rw [show (setO w148_274 73 (fup (fup (fup (w148_274 73) 32 (2 * ((w148_274 73) 32))) 33 (2 * ((w148_274 73) 33))) 34 (((w148_274 73) 34) - 1))) 73 33 = 2 * ((w148_274 73) 33) from rd_ (sOf_eq _ _ _) ((fup_ne _ _ (by decide)).trans (fup_eq _ _ _))] at o2_314
                      rw [show (setO w148_274 73 (fup (fup (fup (w148_274 73) 32 (2 * ((w148_274 73) 32))) 33 (2 * ((w148_274 73) 33))) 34 (((w148_274 73) 34) - 1))) 73 36 = (w148_274 73) 36 from rd_ (sOf_eq _ _ _) ((fup_ne _ _ (by decide)).trans ((fup_ne _ _ (by decide)).trans (fup_ne _ _ (by decide))))] at o2_314
                      rw [show (setO w148_274 73 (fup (fup (fup (w148_274 73) 32 (2 * ((w148_274 73) 32))) 33 (2 * ((w148_274 73) 33))) 34 (((w148_274 73) 34) - 1))) 98 = w148_274 98 from sOf_ne _ _ (by decide)] at o2_314
                      rw [show (setO w148_274 73 (fup (fup (fup (w148_274 73) 32 (2 * ((w148_274 73) 32))) 33 (2 * ((w148_274 73) 33))) 34 (((w148_274 73) 34) - 1))) 73 33 = 2 * ((w148_274 73) 33) from rd_ (sOf_eq _ _ _) ((fup_ne _ _ (by decide)).trans (fup_eq _ _ _))] at o3_314
                      rw [show (setO w148_274 73 (fup (fup (fup (w148_274 73) 32 (2 * ((w148_274 73) 32))) 33 (2 * ((w148_274 73) 33))) 34 (((w148_274 73) 34) - 1))) 73 36 = (w148_274 73) 36 from rd_ (sOf_eq _ _ _) ((fup_ne _ _ (by decide)).trans ((fup_ne _ _ (by decide)).trans (fup_ne _ _ (by decide))))] at o3_314
                      rw [show (setO w148_274 73 (fup (fup (fup (w148_274 73) 32 (2 * ((w148_274 73) 32))) 33 (2 * ((w148_274 73) 33))) 34 (((w148_274 73) 34) - 1))) 98 = w148_274 98 from sOf_ne _ _ (by decide)] at o3_314
                      rw [show (setO w148_274 73 (fup (fup (fup (w148_274 73) 32 (2 * ((w148_274 73) 32))) 33 (2 * ((w148_274 73) 33))) 34 (((w148_274 73) 34) - 1))) 73 33 = 2 * ((w148_274 73) 33) from rd_ (sOf_eq _ _ _) ((fup_ne _ _ (by decide)).trans (fup_eq _ _ _))] at o4_314
                      rw [show (setO w148_274 73 (fup (fup (fup (w148_274 73) 32 (2 * ((w148_274 73) 32))) 33 (2 * ((w148_274 73) 33))) 34 (((w148_274 73) 34) - 1))) 73 36 = (w148_274 73) 36 from rd_ (sOf_eq _ _ _) ((fup_ne _ _ (by decide)).trans ((fup_ne _ _ (by decide)).trans (fup_ne _ _ (by decide))))] at o4_314
                      rw [show (setO w148_274 73 (fup (fup (fup (w148_274 73) 32 (2 * ((w148_274 73) 32))) 33 (2 * ((w148_274 73) 33))) 34 (((w148_274 73) 34) - 1))) 98 = w148_274 98 from sOf_ne _ _ (by decide)] at o4_314
                      have o1_at201 := o1_314
                      have o2_at201 := o2_314
                      have o3_at201 := o3_314
                      have o4_at201 := o4_314
                      show TT K ly 0 0 204 [(0, vR 73), (1, vI x), (2, vI b)] [] g201_314
                      refine TT_goto hK (tgt := 148) dX12_tellBit_204 (by decide) ?_
                      have e315_73_32 : g201_314 73 32 = 2 * ((w148_274 73) 32) := ((hG_314.2 32 (by decide))).trans (rd_ (sOf_eq _ _ _) ((fup_ne _ _ (by decide)).trans ((fup_ne _ _ (by decide)).trans (fup_eq _ _ _))))
                      have e316_73_34 : g201_314 73 34 = (g201_314 73) 34 := rfl
                      have e317_73_36 : g201_314 73 36 = (g201_314 73) 36 := rfl
                      have e318_73_32 : g201_314 73 32 = 2 * ((w148_274 73) 32) := ((hG_314.2 32 (by decide))).trans (rd_ (sOf_eq _ _ _) ((fup_ne _ _ (by decide)).trans ((fup_ne _ _ (by decide)).trans (fup_eq _ _ _))))
                      have e319_73_34 : g201_314 73 34 = (g201_314 73) 34 := rfl
                      have e320_73_36 : g201_314 73 36 = (g201_314 73) 36 := rfl
                      have e321_96 : g201_314 96 = w148_274 96 := ((hG_314.1 96 (by decide))).trans (sOf_ne _ _ (by decide))
                      have e322_96 : g201_314 96 = w148_274 96 := ((hG_314.1 96 (by decide))).trans (sOf_ne _ _ (by decide))
                      have e323_73_32 : g201_314 73 32 = 2 * ((w148_274 73) 32) := ((hG_314.2 32 (by decide))).trans (rd_ (sOf_eq _ _ _) ((fup_ne _ _ (by decide)).trans ((fup_ne _ _ (by decide)).trans (fup_eq _ _ _))))
                      have e324_73_32 : g201_314 73 32 = 2 * ((w148_274 73) 32) := ((hG_314.2 32 (by decide))).trans (rd_ (sOf_eq _ _ _) ((fup_ne _ _ (by decide)).trans ((fup_ne _ _ (by decide)).trans (fup_eq _ _ _))))
                      have e325_73_33 : g201_314 73 33 = (g201_314 73) 33 := rfl
                      have e326_73_34 : g201_314 73 34 = (g201_314 73) 34 := rfl
                      have e327_73_36 : g201_314 73 36 = (g201_314 73) 36 := rfl
                      have e328_96 : g201_314 96 = w148_274 96 := ((hG_314.1 96 (by decide))).trans (sOf_ne _ _ (by decide))
                      have e329_97 : g201_314 97 = w148_274 97 := ((hG_314.1 97 (by decide))).trans (sOf_ne _ _ (by decide))
                      have e330_73_32 : g201_314 73 32 = 2 * ((w148_274 73) 32) := ((hG_314.2 32 (by decide))).trans (rd_ (sOf_eq _ _ _) ((fup_ne _ _ (by decide)).trans ((fup_ne _ _ (by decide)).trans (fup_eq _ _ _))))
                      exact ih274 R9 X9 g201_314 hT_314 hF_314 (by rewrite [e315_73_32]; first | omega | (simp [up, setR] <;> omega)) (by rewrite [e316_73_34]; first | omega | (simp [up, setR] <;> omega)) (by rewrite [e317_73_36]; first | omega | (simp [up, setR] <;> omega)) (by rewrite [e318_73_32, e319_73_34, e320_73_36, e321_96]; first | omega | (simp [up, setR] <;> omega)) (by rewrite [e322_96]; exact (PhS_r _).1) (by rewrite [e323_73_32]; exact (ndb_r _).1) (by rewrite [e324_73_32, e325_73_33, e326_73_34, e327_73_36]; cases f with | zero => exact absurd (MI_z hf) (by omega) | succ f => first | exact ⟨f, MI_next hf (by omega) (by omega)⟩ | (rw [o1_at201, o2_at201, o3_at201, o4_at201]; exact ⟨f, MI_out hf (by omega) (by omega)⟩)) (by first | omega | (simp [up, setR] <;> omega)) (by rewrite [e328_96, e329_97]; exact hR) (by rewrite [e330_73_32]; first | omega | (simp [up, setR] <;> omega))
              refine TT_sub [4, 5, 6] rfl ?_
              have e331_73_32 : g145_273 73 32 = ((h 73) 32) - (qS (h 96 x)) := (congrFun (hG_273.1 73 (by decide)) 32).trans (rd_ (sOf_eq _ _ _) ((fup_ne _ _ (by decide)).trans (fup_eq _ _ _)))
              have e332_73_34 : g145_273 73 34 = (h 73) 34 := (congrFun (hG_273.1 73 (by decide)) 34).trans (rd_ (sOf_eq _ _ _) ((fup_ne _ _ (by decide)).trans (fup_ne _ _ (by decide))))
              have e333_73_36 : g145_273 73 36 = (h 73) 36 := (congrFun (hG_273.1 73 (by decide)) 36).trans (rd_ (sOf_eq _ _ _) ((fup_ne _ _ (by decide)).trans (fup_ne _ _ (by decide))))
              have e334_73_32 : g145_273 73 32 = ((h 73) 32) - (qS (h 96 x)) := (congrFun (hG_273.1 73 (by decide)) 32).trans (rd_ (sOf_eq _ _ _) ((fup_ne _ _ (by decide)).trans (fup_eq _ _ _)))
              have e335_73_34 : g145_273 73 34 = (h 73) 34 := (congrFun (hG_273.1 73 (by decide)) 34).trans (rd_ (sOf_eq _ _ _) ((fup_ne _ _ (by decide)).trans (fup_ne _ _ (by decide))))
              have e336_73_36 : g145_273 73 36 = (h 73) 36 := (congrFun (hG_273.1 73 (by decide)) 36).trans (rd_ (sOf_eq _ _ _) ((fup_ne _ _ (by decide)).trans (fup_ne _ _ (by decide))))
              have e337_73_32 : g145_273 73 32 = ((h 73) 32) - (qS (h 96 x)) := (congrFun (hG_273.1 73 (by decide)) 32).trans (rd_ (sOf_eq _ _ _) ((fup_ne _ _ (by decide)).trans (fup_eq _ _ _)))
              have e338_73_32 : g145_273 73 32 = ((h 73) 32) - (qS (h 96 x)) := (congrFun (hG_273.1 73 (by decide)) 32).trans (rd_ (sOf_eq _ _ _) ((fup_ne _ _ (by decide)).trans (fup_eq _ _ _)))
              have e339_73_33 : g145_273 73 33 = ((h 73) 33) + (qS (h 96 x)) := (congrFun (hG_273.1 73 (by decide)) 33).trans (rd_ (sOf_eq _ _ _) (fup_eq _ _ _))
              have e340_73_34 : g145_273 73 34 = (h 73) 34 := (congrFun (hG_273.1 73 (by decide)) 34).trans (rd_ (sOf_eq _ _ _) ((fup_ne _ _ (by decide)).trans (fup_ne _ _ (by decide))))
              have e341_73_36 : g145_273 73 36 = (h 73) 36 := (congrFun (hG_273.1 73 (by decide)) 36).trans (rd_ (sOf_eq _ _ _) ((fup_ne _ _ (by decide)).trans (fup_ne _ _ (by decide))))
              have e342_98 : g145_273 98 = h 98 := ((hG_273.1 98 (by decide))).trans (sOf_ne _ _ (by decide))
              have k9 := NDC (a := ((h 73) 32) - (qS (h 96 x))) (ot := 1) tq (by omega) (by omega)
              exact L148_274 ((((65536 : Int) - (g145_273 73 32)).toNat) + 1) (mendS 15 (((h 73) 32) - (qS (h 96 x))) (((h 73) 33) + (qS (h 96 x))) ((h 73) 34) ((h 73) 36) (h 98)) (7 * h 73 36 - h 73 34 + 15) g145_273 hT_273 hF_273 (by rewrite [e331_73_32]; first | omega | (simp [up, setR] <;> omega)) (by rewrite [e332_73_34]; first | omega | (simp [up, setR] <;> omega)) (by rewrite [e333_73_36]; first | omega | (simp [up, setR] <;> omega)) (by rewrite [e334_73_32, e335_73_34, e336_73_36]; first | omega | (simp [up, setR] <;> omega)) (by exact (PhS_r _).1) (by rewrite [e337_73_32]; exact (ndb_r _).1) (by rewrite [e338_73_32, e339_73_33, e340_73_34, e341_73_36, e342_98]; exact ⟨15, MI_0 (MQ_tell (x := x) (st := h 96) (P := (b = h 97 x ↔ h 73 32 - qS (h 96 x) < qS (h 96 x))) hq ha.1 hs (by first | exact (if_pos (by omega)).symm | exact (if_neg (by omega)).symm) (by first | exact (if_pos (by omega)).symm | exact (if_neg (by omega)).symm))⟩) (by first | omega | (simp [up, setR] <;> omega)) (by rw [l1_at145, l2_at145]; exact tellS_m (by omega) (by first | exact (if_pos (by omega)).symm | exact (if_neg (by omega)).symm) (by first | exact (if_pos (by omega)).symm | exact (if_neg (by omega)).symm) (by omega)) (Nat.lt_succ_self _)
            · exact absurd hb126_269 (by decide)
          · exact absurd hb103_266 (by decide)
        · exact absurd hb90_265 (by decide)
    · exact absurd hb42_184 (by decide)

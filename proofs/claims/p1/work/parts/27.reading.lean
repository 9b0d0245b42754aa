set_option maxRecDepth 20000 in
theorem c_X12_byteAt_73 (k : Int) (h : Hp_) (hk : 0 ≤ k ∧ k ≤ 5000) (hsn : 0 ≤ (h 73 38) ∧ (h 73 38) ≤ 4400) : Ctr yX12_byteAt cX12_byteAt 2 (some .int) (rmd 0) ly ly 0 0 [vR 73, vI k] h (fun r h' => r = some (vI (byS (h 99) (h 73 38) k)) ∧ h' = h) := by
  refine Ctr_of (by decide) (Nat.le_of_ble_eq_true rfl) ⟨Nat.le_refl _, Nat.le_refl _⟩ (fun K hK hQ _ => ?_)
  show TT K ly 0 0 0 [(0, vR 73), (1, vI k)] [] h
  refine TT_iload_n hK rfl 1 rfl dX12_byteAt_0 ?_
  refine TT_aload_n hK rfl 0 rfl dX12_byteAt_1 ?_
  refine gf_X12_202 hK (by decide) rfl (v := (h 73) 38) rfl dX12_byteAt_2 ?_
  refine TT_icmp_ge hK (tgt := 17) (irm (by omega) (by omega)) (irm (by omega) (by omega)) dX12_byteAt_5 (by decide) (fun hb5 => ?_) (fun hb5 => ?_)
  · refine TT_sipush hK (by decide) dX12_byteAt_17 ?_
    refine TT_iret hK hQ ?_ dX12_byteAt_20
    exact ⟨congrArg (fun z => some (vI z)) (by unfold byS; first | rw [if_pos (by omega)] | rw [if_neg (by omega)]), rfl⟩
  · refine TT_aload_n hK rfl 0 rfl dX12_byteAt_8 ?_
    refine gf_X12_93 hK (by decide) rfl (q := 99) rfl rfl dX12_byteAt_9 ?_
    refine TT_iload_n hK rfl 1 rfl dX12_byteAt_12 ?_
    refine TT_iald hK (o := 99) (n := 4400) (by decide) rfl (by first | omega | (simp [up, setR] <;> omega)) (by first | omega | (simp [up, setR] <;> omega)) (v := (h 99) k) rfl dX12_byteAt_13 ?_
    refine TT_goto hK (tgt := 20) dX12_byteAt_14 (by decide) ?_
    refine TT_iret hK hQ ?_ dX12_byteAt_20
    exact ⟨congrArg (fun z => some (vI z)) (by unfold byS; first | rw [if_pos (by omega)] | rw [if_neg (by omega)]), rfl⟩
set_option maxRecDepth 20000 in
theorem c_X12_takeIn_73 (h : Hp_) (hsrc : ∀ j, 0 ≤ j → j < (h 73 38) → 0 ≤ (h 99) j ∧ (h 99) j ≤ 255) (hsn : 0 ≤ (h 73 38) ∧ (h 73 38) ≤ 4400) (hp : 0 ≤ (h 73 39) ∧ (h 73 39) ≤ (h 73 38)) : Ctr yX12_takeIn cX12_takeIn 2 none (rmd 1) ly ly 0 0 [vR 73] h (fun r h' => r = none ∧ h' = setO h 73 (fup (fup (fup (h 73) 33 ((inS (h 99) (h 73 38) (h 73 33) (h 73 39)).1)) 34 ((inS (h 99) (h 73 38) (h 73 33) (h 73 39)).2.1)) 39 ((inS (h 99) (h 73 38) (h 73 33) (h 73 39)).2.2))) := by
  refine Ctr_of (by decide) (Nat.le_of_ble_eq_true rfl) ⟨Nat.le_refl _, Nat.le_refl _⟩ (fun K hK hQ _ => ?_)
  show TT K ly 0 0 0 [(0, vR 73)] [] h
  have b1 := byS_r hsrc hp.1
  have b2 := byS_r hsrc (k := h 73 39 + 1) (by omega)
  refine TT_aload_n hK rfl 0 rfl dX12_takeIn_0 ?_
  refine TT_aload_n hK rfl 0 rfl dX12_takeIn_1 ?_
  refine gf_X12_205 hK (by decide) rfl (v := (h 73) 39) rfl dX12_takeIn_2 ?_
  refine iv_X12_208 hK (c_X12_byteAt_73 ((h 73) 39) h (by first | omega | (simp [up, setR] <;> omega)) (by first | omega | (simp [up, setR] <;> omega))) (by decide) rfl ⟨by decide, by decide⟩ (by decide) rfl rfl (Nat.le_of_ble_eq_true rfl) ⟨by decide, by decide⟩ dX12_takeIn_5 ?_
  intro r9 h9 hp9
  rw [hp9.1, hp9.2]
  show TT K ly 0 0 8 [(0, vR 73)] [vI (byS (h 99) ((h 73) 38) ((h 73) 39))] h
  refine TT_sipush hK (by decide) dX12_takeIn_8 ?_
  refine TT_icmp_ne hK (tgt := 18) (irm (by omega) (by omega)) (by decide) dX12_takeIn_11 (by decide) (fun hb11 => ?_) (fun hb11 => ?_)
  · refine TT_iconst hK dX12_takeIn_18 ?_
    refine TT_istore_n hK rfl (lv' := [(1, vI 0), (0, vR 73)]) (by decide) rfl dX12_takeIn_19 ?_
    refine TT_iload_n hK rfl 0 rfl dX12_takeIn_20 ?_
    refine TT_if_eq hK (tgt := 59) (by decide) dX12_takeIn_21 (by decide) (fun hb21 => ?_) (fun hb21 => ?_)
    · refine TT_aload_n hK rfl 1 rfl dX12_takeIn_59 ?_
      refine TT_dup hK rfl dX12_takeIn_60 ?_
      refine gf_X12_205 hK (by decide) rfl (v := (h 73) 39) rfl dX12_takeIn_61 ?_
      refine TT_iconst hK dX12_takeIn_64 ?_
      refine TT_iadd hK dX12_takeIn_65 ?_
      refine pf_X12_205 hK (by decide) rfl dX12_takeIn_66 ?_
      refine TT_hp (h' := setO h 73 (fup (h 73) 39 (((h 73) 39) + 1))) (up_can rfl rfl rfl) ?_
      refine TT_aload_n hK rfl 1 rfl dX12_takeIn_69 ?_
      refine TT_aload_n hK rfl 1 rfl dX12_takeIn_70 ?_
      refine gf_X12_175 hK (by decide) rfl (v := (h 73) 33) (rd_ (sOf_eq _ _ _) (fup_ne _ _ (by decide))) dX12_takeIn_71 ?_
      refine TT_aload_n hK rfl 1 rfl dX12_takeIn_74 ?_
      refine TT_aload_n hK rfl 1 rfl dX12_takeIn_75 ?_
      refine gf_X12_205 hK (by decide) rfl (v := ((h 73) 39) + 1) (rd_ (sOf_eq _ _ _) (fup_eq _ _ _)) dX12_takeIn_76 ?_
      have q79_73_38 : (setO h 73 (fup (h 73) 39 (((h 73) 39) + 1))) 73 38 = (h 73) 38 := rd_ (sOf_eq _ _ _) (fup_ne _ _ (by decide))
      have q79_99 : (setO h 73 (fup (h 73) 39 (((h 73) 39) + 1))) 99 = h 99 := sOf_ne _ _ (by decide)
      refine iv_X12_208 hK (c_X12_byteAt_73 (((h 73) 39) + 1) (setO h 73 (fup (h 73) 39 (((h 73) 39) + 1))) (by first | omega | (simp [up, setR] <;> omega)) (by rw [q79_73_38]; first | omega | (simp [up, setR] <;> omega))) (by decide) rfl ⟨by decide, by decide⟩ (by decide) rfl rfl (Nat.le_of_ble_eq_true rfl) ⟨by decide, by decide⟩ dX12_takeIn_79 ?_
      intro r9 h9 hp9
      rw [q79_73_38, q79_99] at hp9
      rw [hp9.1, hp9.2]
      show TT K ly 0 0 82 [(1, vI 0), (0, vR 73)] [vI (byS (h 99) ((h 73) 38) (((h 73) 39) + 1)), vJ ((h 73) 33), vR 73] (setO h 73 (fup (h 73) 39 (((h 73) 39) + 1)))
      refine TT_i2l hK (irm (by omega) (by omega)) dX12_takeIn_82 ?_
      refine TT_iload_n hK rfl 0 rfl dX12_takeIn_83 ?_
      refine TT_if_eq hK (tgt := 93) (by decide) dX12_takeIn_84 (by decide) (fun hb84 => ?_) (fun hb84 => ?_)
      · refine TT_ldc2 hK lc_X12_187 dX12_takeIn_93 ?_
        refine TT_lmul hK dX12_takeIn_96 ?_
        refine TT_ladd hK dX12_takeIn_97 ?_
        refine pf_X12_175 hK (by decide) rfl dX12_takeIn_98 ?_
        refine TT_hp (h' := setO h 73 (fup (fup (h 73) 33 (((h 73) 33) + ((byS (h 99) ((h 73) 38) (((h 73) 39) + 1)) * 256))) 39 (((h 73) 39) + 1))) (up_can (sOf_eq _ _ _) (fup_comm _ _ _ (by decide)) (setO_same _ _ _ _)) ?_
        refine TT_aload_n hK rfl 1 rfl dX12_takeIn_101 ?_
        refine TT_iload_n hK rfl 0 rfl dX12_takeIn_102 ?_
        refine TT_if_eq hK (tgt := 111) (by decide) dX12_takeIn_103 (by decide) (fun hb103 => ?_) (fun hb103 => ?_)
        · refine TT_bipush hK (by decide) dX12_takeIn_111 ?_
          refine pf_X12_178 hK (by decide) rfl dX12_takeIn_113 ?_
          refine TT_hp (h' := setO h 73 (fup (fup (fup (h 73) 33 (((h 73) 33) + ((byS (h 99) ((h 73) 38) (((h 73) 39) + 1)) * 256))) 34 8) 39 (((h 73) 39) + 1))) (up_can (sOf_eq _ _ _) (fup_comm _ _ _ (by decide)) (setO_same _ _ _ _)) ?_
          refine TT_vret hK hQ ?_ dX12_takeIn_116
          exact ⟨rfl, setO_cg rfl (by unfold inS; first | rw [if_neg (by omega)] | rw [if_pos (by omega), if_pos (by omega)] | rw [if_pos (by omega), if_neg (by omega)])⟩
        · exact absurd hb103 (by decide)
      · exact absurd hb84 (by decide)
    · exact absurd hb21 (by decide)
  · refine TT_iconst hK dX12_takeIn_14 ?_
    refine TT_goto hK (tgt := 19) dX12_takeIn_15 (by decide) ?_
    refine TT_istore_n hK rfl (lv' := [(1, vI 1), (0, vR 73)]) (by decide) rfl dX12_takeIn_19 ?_
    refine TT_iload_n hK rfl 0 rfl dX12_takeIn_20 ?_
    refine TT_if_eq hK (tgt := 59) (by decide) dX12_takeIn_21 (by decide) (fun hb21 => ?_) (fun hb21 => ?_)
    · exact absurd hb21 (by decide)
    · refine TT_aload_n hK rfl 1 rfl dX12_takeIn_24 ?_
      refine TT_aload_n hK rfl 1 rfl dX12_takeIn_25 ?_
      refine gf_X12_205 hK (by decide) rfl (v := (h 73) 39) rfl dX12_takeIn_26 ?_
      refine TT_iconst hK dX12_takeIn_29 ?_
      refine TT_iadd hK dX12_takeIn_30 ?_
      refine iv_X12_208 hK (c_X12_byteAt_73 (((h 73) 39) + 1) h (by first | omega | (simp [up, setR] <;> omega)) (by first | omega | (simp [up, setR] <;> omega))) (by decide) rfl ⟨by decide, by decide⟩ (by decide) rfl rfl (Nat.le_of_ble_eq_true rfl) ⟨by decide, by decide⟩ dX12_takeIn_31 ?_
      intro r9 h9 hp9
      rw [hp9.1, hp9.2]
      show TT K ly 0 0 34 [(1, vI 1), (0, vR 73)] [vI (byS (h 99) ((h 73) 38) (((h 73) 39) + 1))] h
      refine TT_sipush hK (by decide) dX12_takeIn_34 ?_
      refine TT_icmp_le hK (tgt := 59) (irm (by omega) (by omega)) (by decide) dX12_takeIn_37 (by decide) (fun hb37 => ?_) (fun hb37 => ?_)
      · refine TT_aload_n hK rfl 1 rfl dX12_takeIn_59 ?_
        refine TT_dup hK rfl dX12_takeIn_60 ?_
        refine gf_X12_205 hK (by decide) rfl (v := (h 73) 39) rfl dX12_takeIn_61 ?_
        refine TT_iconst hK dX12_takeIn_64 ?_
        refine TT_iadd hK dX12_takeIn_65 ?_
        refine pf_X12_205 hK (by decide) rfl dX12_takeIn_66 ?_
        refine TT_hp (h' := setO h 73 (fup (h 73) 39 (((h 73) 39) + 1))) (up_can rfl rfl rfl) ?_
        refine TT_aload_n hK rfl 1 rfl dX12_takeIn_69 ?_
        refine TT_aload_n hK rfl 1 rfl dX12_takeIn_70 ?_
        refine gf_X12_175 hK (by decide) rfl (v := (h 73) 33) (rd_ (sOf_eq _ _ _) (fup_ne _ _ (by decide))) dX12_takeIn_71 ?_
        refine TT_aload_n hK rfl 1 rfl dX12_takeIn_74 ?_
        refine TT_aload_n hK rfl 1 rfl dX12_takeIn_75 ?_
        refine gf_X12_205 hK (by decide) rfl (v := ((h 73) 39) + 1) (rd_ (sOf_eq _ _ _) (fup_eq _ _ _)) dX12_takeIn_76 ?_
        have q79_73_38 : (setO h 73 (fup (h 73) 39 (((h 73) 39) + 1))) 73 38 = (h 73) 38 := rd_ (sOf_eq _ _ _) (fup_ne _ _ (by decide))
        have q79_99 : (setO h 73 (fup (h 73) 39 (((h 73) 39) + 1))) 99 = h 99 := sOf_ne _ _ (by decide)
        refine iv_X12_208 hK (c_X12_byteAt_73 (((h 73) 39) + 1) (setO h 73 (fup (h 73) 39 (((h 73) 39) + 1))) (by first | omega | (simp [up, setR] <;> omega)) (by rw [q79_73_38]; first | omega | (simp [up, setR] <;> omega))) (by decide) rfl ⟨by decide, by decide⟩ (by decide) rfl rfl (Nat.le_of_ble_eq_true rfl) ⟨by decide, by decide⟩ dX12_takeIn_79 ?_
        intro r9 h9 hp9
        rw [q79_73_38, q79_99] at hp9
        rw [hp9.1, hp9.2]
        show TT K ly 0 0 82 [(1, vI 1), (0, vR 73)] [vI (byS (h 99) ((h 73) 38) (((h 73) 39) + 1)), vJ ((h 73) 33), vR 73] (setO h 73 (fup (h 73) 39 (((h 73) 39) + 1)))
        refine TT_i2l hK (irm (by omega) (by omega)) dX12_takeIn_82 ?_
        refine TT_iload_n hK rfl 0 rfl dX12_takeIn_83 ?_
        refine TT_if_eq hK (tgt := 93) (by decide) dX12_takeIn_84 (by decide) (fun hb84 => ?_) (fun hb84 => ?_)
        · exact absurd hb84 (by decide)
        · refine TT_ldc2 hK lc_X12_214 dX12_takeIn_87 ?_
          refine TT_goto hK (tgt := 96) dX12_takeIn_90 (by decide) ?_
          refine TT_lmul hK dX12_takeIn_96 ?_
          refine TT_ladd hK dX12_takeIn_97 ?_
          refine pf_X12_175 hK (by decide) rfl dX12_takeIn_98 ?_
          refine TT_hp (h' := setO h 73 (fup (fup (h 73) 33 (((h 73) 33) + ((byS (h 99) ((h 73) 38) (((h 73) 39) + 1)) * 512))) 39 (((h 73) 39) + 1))) (up_can (sOf_eq _ _ _) (fup_comm _ _ _ (by decide)) (setO_same _ _ _ _)) ?_
          refine TT_aload_n hK rfl 1 rfl dX12_takeIn_101 ?_
          refine TT_iload_n hK rfl 0 rfl dX12_takeIn_102 ?_
          refine TT_if_eq hK (tgt := 111) (by decide) dX12_takeIn_103 (by decide) (fun hb103 => ?_) (fun hb103 => ?_)
          · exact absurd hb103 (by decide)
          · refine TT_bipush hK (by decide) dX12_takeIn_106 ?_
            refine TT_goto hK (tgt := 113) dX12_takeIn_108 (by decide) ?_
            refine pf_X12_178 hK (by decide) rfl dX12_takeIn_113 ?_
            refine TT_hp (h' := setO h 73 (fup (fup (fup (h 73) 33 (((h 73) 33) + ((byS (h 99) ((h 73) 38) (((h 73) 39) + 1)) * 512))) 34 7) 39 (((h 73) 39) + 1))) (up_can (sOf_eq _ _ _) (fup_comm _ _ _ (by decide)) (setO_same _ _ _ _)) ?_
            refine TT_vret hK hQ ?_ dX12_takeIn_116
            exact ⟨rfl, setO_cg rfl (by unfold inS; first | rw [if_neg (by omega)] | rw [if_pos (by omega), if_pos (by omega)] | rw [if_pos (by omega), if_neg (by omega)])⟩
      · refine TT_aload_n hK rfl 1 rfl dX12_takeIn_40 ?_
        refine TT_aload_n hK rfl 1 rfl dX12_takeIn_41 ?_
        refine gf_X12_175 hK (by decide) rfl (v := (h 73) 33) rfl dX12_takeIn_42 ?_
        refine TT_ldc2 hK lc_X12_212 dX12_takeIn_45 ?_
        refine TT_ladd hK dX12_takeIn_48 ?_
        refine pf_X12_175 hK (by decide) rfl dX12_takeIn_49 ?_
        refine TT_hp (h' := setO h 73 (fup (h 73) 33 (((h 73) 33) + 65280))) (up_can rfl rfl rfl) ?_
        refine TT_aload_n hK rfl 1 rfl dX12_takeIn_52 ?_
        refine TT_bipush hK (by decide) dX12_takeIn_53 ?_
        refine pf_X12_178 hK (by decide) rfl dX12_takeIn_55 ?_
        refine TT_hp (h' := setO h 73 (fup (fup (h 73) 33 (((h 73) 33) + 65280)) 34 8)) (up_can (sOf_eq _ _ _) rfl (setO_same _ _ _ _)) ?_
        refine TT_vret hK hQ ?_ dX12_takeIn_58
        exact ⟨rfl, setO_cg rfl (by unfold inS; (first | rw [if_neg (by omega)] | rw [if_pos (by omega), if_pos (by omega)] | rw [if_pos (by omega), if_neg (by omega)]); exact fup_self (by rfl))⟩
set_option maxRecDepth 20000 in
theorem c_X12_beginReading_73 (n how : Int) (h : Hp_) (hn : 0 ≤ n ∧ n ≤ 4400) (hsrc : ∀ j, 0 ≤ j → j < n → 0 ≤ (h 99) j ∧ (h 99) j ≤ 255) (hh : ir_ how) : Ctr yX12_beginReading cX12_beginReading 3 none (rmd 2) ly ly 0 0 [vR 73, vI n, vI how] h (fun r h' => r = none ∧ h' = setO (setO (setO h 73 (fup (fup (fup (fup (fup (fup (h 73) 29 how) 32 32768) 33 (128 * (bgS (h 99) n).1)) 34 ((bgS (h 99) n).2.1 - 7)) 38 n) 39 ((bgS (h 99) n).2.2))) 96 (fsr (h 96) 0 19 st0)) 97 (fsr (h 97) 0 19 (fun _ => 0))) := by
  refine Ctr_of (by decide) (Nat.le_of_ble_eq_true rfl) ⟨Nat.le_refl _, Nat.le_refl _⟩ (fun K hK hQ _ => ?_)
  show TT K ly 0 0 0 [(0, vR 73), (1, vI n), (2, vI how)] [] h
  have b1 := byS_r hsrc (k := 0) (by decide)
  have r1 := inS_r hsrc (c := 65536 * byS (h 99) n 0) (p := 0) (by decide) hn.1
  refine TT_aload_n hK rfl 0 rfl dX12_beginReading_0 ?_
  refine iv_X12_160 hK (c_X12_forget_73 h ) (by decide) rfl ⟨by decide, by decide⟩ (by decide) rfl rfl (Nat.le_of_ble_eq_true rfl) ⟨by decide, by decide⟩ dX12_beginReading_1 ?_
  intro r9 h9 hp9
  rw [hp9.1, hp9.2]
  show TT K ly 0 0 4 [(0, vR 73), (1, vI n), (2, vI how)] [] (setO (setO h 96 (fsr (h 96) 0 19 st0)) 97 (fsr (h 97) 0 19 (fun _ => 0)))
  refine TT_aload_n hK rfl 0 rfl dX12_beginReading_4 ?_
  refine TT_iload_n hK rfl 2 rfl dX12_beginReading_5 ?_
  refine pf_X12_163 hK (by decide) rfl dX12_beginReading_6 ?_
  refine TT_hp (h' := setO (setO (setO h 73 (fup (h 73) 29 how)) 96 (fsr (h 96) 0 19 st0)) 97 (fsr (h 97) 0 19 (fun _ => 0))) (up_can ((sOf_ne _ _ (by decide)).trans (sOf_ne _ _ (by decide))) rfl ((setO_comm _ _ _ (by decide)).trans (setO_cg ((setO_comm _ _ _ (by decide)).trans (setO_cg rfl rfl)) rfl))) ?_
  refine TT_aload_n hK rfl 0 rfl dX12_beginReading_9 ?_
  refine TT_iload_n hK rfl 1 rfl dX12_beginReading_10 ?_
  refine pf_X12_202 hK (by decide) rfl dX12_beginReading_11 ?_
  refine TT_hp (h' := setO (setO (setO h 73 (fup (fup (h 73) 29 how) 38 n)) 96 (fsr (h 96) 0 19 st0)) 97 (fsr (h 97) 0 19 (fun _ => 0))) (up_can ((sOf_ne _ _ (by decide)).trans ((sOf_ne _ _ (by decide)).trans (sOf_eq _ _ _))) rfl ((setO_comm _ _ _ (by decide)).trans (setO_cg ((setO_comm _ _ _ (by decide)).trans (setO_cg (setO_same _ _ _ _) rfl)) rfl))) ?_
  refine TT_aload_n hK rfl 0 rfl dX12_beginReading_14 ?_
  refine TT_iconst hK dX12_beginReading_15 ?_
  refine pf_X12_205 hK (by decide) rfl dX12_beginReading_16 ?_
  refine TT_hp (h' := setO (setO (setO h 73 (fup (fup (fup (h 73) 29 how) 38 n) 39 0)) 96 (fsr (h 96) 0 19 st0)) 97 (fsr (h 97) 0 19 (fun _ => 0))) (up_can ((sOf_ne _ _ (by decide)).trans ((sOf_ne _ _ (by decide)).trans (sOf_eq _ _ _))) rfl ((setO_comm _ _ _ (by decide)).trans (setO_cg ((setO_comm _ _ _ (by decide)).trans (setO_cg (setO_same _ _ _ _) rfl)) rfl))) ?_
  refine TT_aload_n hK rfl 0 rfl dX12_beginReading_19 ?_
  refine TT_ldc2 hK lc_X12_198 dX12_beginReading_20 ?_
  refine TT_aload_n hK rfl 0 rfl dX12_beginReading_23 ?_
  refine TT_iconst hK dX12_beginReading_24 ?_
  have q25_73_38 : (setO (setO (setO h 73 (fup (fup (fup (h 73) 29 how) 38 n) 39 0)) 96 (fsr (h 96) 0 19 st0)) 97 (fsr (h 97) 0 19 (fun _ => 0))) 73 38 = n := rd_ ((sOf_ne _ _ (by decide)).trans ((sOf_ne _ _ (by decide)).trans (sOf_eq _ _ _))) ((fup_ne _ _ (by decide)).trans (fup_eq _ _ _))
  have q25_99 : (setO (setO (setO h 73 (fup (fup (fup (h 73) 29 how) 38 n) 39 0)) 96 (fsr (h 96) 0 19 st0)) 97 (fsr (h 97) 0 19 (fun _ => 0))) 99 = h 99 := (sOf_ne _ _ (by decide)).trans ((sOf_ne _ _ (by decide)).trans (sOf_ne _ _ (by decide)))
  refine iv_X12_208 hK (c_X12_byteAt_73 0 (setO (setO (setO h 73 (fup (fup (fup (h 73) 29 how) 38 n) 39 0)) 96 (fsr (h 96) 0 19 st0)) 97 (fsr (h 97) 0 19 (fun _ => 0))) (by first | omega | (simp [up, setR] <;> omega)) (by rw [q25_73_38]; first | omega | (simp [up, setR] <;> omega))) (by decide) rfl ⟨by decide, by decide⟩ (by decide) rfl rfl (Nat.le_of_ble_eq_true rfl) ⟨by decide, by decide⟩ dX12_beginReading_25 ?_
  intro r9 h9 hp9
  rw [q25_73_38, q25_99] at hp9
  rw [hp9.1, hp9.2]
  show TT K ly 0 0 28 [(0, vR 73), (1, vI n), (2, vI how)] [vI (byS (h 99) n 0), vJ 65536, vR 73] (setO (setO (setO h 73 (fup (fup (fup (h 73) 29 how) 38 n) 39 0)) 96 (fsr (h 96) 0 19 st0)) 97 (fsr (h 97) 0 19 (fun _ => 0)))
  refine TT_i2l hK (irm (by omega) (by omega)) dX12_beginReading_28 ?_
  refine TT_lmul hK dX12_beginReading_29 ?_
  refine pf_X12_175 hK (by decide) rfl dX12_beginReading_30 ?_
  refine TT_hp (h' := setO (setO (setO h 73 (fup (fup (fup (fup (h 73) 29 how) 33 (65536 * (byS (h 99) n 0))) 38 n) 39 0)) 96 (fsr (h 96) 0 19 st0)) 97 (fsr (h 97) 0 19 (fun _ => 0))) (up_can ((sOf_ne _ _ (by decide)).trans ((sOf_ne _ _ (by decide)).trans (sOf_eq _ _ _))) ((fup_comm _ _ _ (by decide)).trans (fup_cg (fup_comm _ _ _ (by decide)))) ((setO_comm _ _ _ (by decide)).trans (setO_cg ((setO_comm _ _ _ (by decide)).trans (setO_cg (setO_same _ _ _ _) rfl)) rfl))) ?_
  refine TT_aload_n hK rfl 0 rfl dX12_beginReading_33 ?_
  have q34_73_33 : (setO (setO (setO h 73 (fup (fup (fup (fup (h 73) 29 how) 33 (65536 * (byS (h 99) n 0))) 38 n) 39 0)) 96 (fsr (h 96) 0 19 st0)) 97 (fsr (h 97) 0 19 (fun _ => 0))) 73 33 = 65536 * (byS (h 99) n 0) := rd_ ((sOf_ne _ _ (by decide)).trans ((sOf_ne _ _ (by decide)).trans (sOf_eq _ _ _))) ((fup_ne _ _ (by decide)).trans ((fup_ne _ _ (by decide)).trans (fup_eq _ _ _)))
  have q34_73_38 : (setO (setO (setO h 73 (fup (fup (fup (fup (h 73) 29 how) 33 (65536 * (byS (h 99) n 0))) 38 n) 39 0)) 96 (fsr (h 96) 0 19 st0)) 97 (fsr (h 97) 0 19 (fun _ => 0))) 73 38 = n := rd_ ((sOf_ne _ _ (by decide)).trans ((sOf_ne _ _ (by decide)).trans (sOf_eq _ _ _))) ((fup_ne _ _ (by decide)).trans (fup_eq _ _ _))
  have q34_73_39 : (setO (setO (setO h 73 (fup (fup (fup (fup (h 73) 29 how) 33 (65536 * (byS (h 99) n 0))) 38 n) 39 0)) 96 (fsr (h 96) 0 19 st0)) 97 (fsr (h 97) 0 19 (fun _ => 0))) 73 39 = 0 := rd_ ((sOf_ne _ _ (by decide)).trans ((sOf_ne _ _ (by decide)).trans (sOf_eq _ _ _))) (fup_eq _ _ _)
  have q34_73 : (setO (setO (setO h 73 (fup (fup (fup (fup (h 73) 29 how) 33 (65536 * (byS (h 99) n 0))) 38 n) 39 0)) 96 (fsr (h 96) 0 19 st0)) 97 (fsr (h 97) 0 19 (fun _ => 0))) 73 = fup (fup (fup (fup (h 73) 29 how) 33 (65536 * (byS (h 99) n 0))) 38 n) 39 0 := (sOf_ne _ _ (by decide)).trans ((sOf_ne _ _ (by decide)).trans (sOf_eq _ _ _))
  have q34_99 : (setO (setO (setO h 73 (fup (fup (fup (fup (h 73) 29 how) 33 (65536 * (byS (h 99) n 0))) 38 n) 39 0)) 96 (fsr (h 96) 0 19 st0)) 97 (fsr (h 97) 0 19 (fun _ => 0))) 99 = h 99 := (sOf_ne _ _ (by decide)).trans ((sOf_ne _ _ (by decide)).trans (sOf_ne _ _ (by decide)))
  refine iv_X12_216 hK (c_X12_takeIn_73 (setO (setO (setO h 73 (fup (fup (fup (fup (h 73) 29 how) 33 (65536 * (byS (h 99) n 0))) 38 n) 39 0)) 96 (fsr (h 96) 0 19 st0)) 97 (fsr (h 97) 0 19 (fun _ => 0))) (by rw [q34_73_38, q34_99]; exact hsrc) (by rw [q34_73_38]; first | omega | (simp [up, setR] <;> omega)) (by rw [q34_73_38, q34_73_39]; first | omega | (simp [up, setR] <;> omega))) (by decide) rfl ⟨by decide, by decide⟩ (by decide) rfl rfl (Nat.le_of_ble_eq_true rfl) ⟨by decide, by decide⟩ dX12_beginReading_34 ?_
  intro r9 h9 hp9
  rw [q34_73_33, q34_73_38, q34_73_39, q34_73, q34_99] at hp9
  rw [hp9.1, hp9.2]
  refine TT_hp (h' := setO (setO (setO h 73 (fup (fup (fup (fup (fup (h 73) 29 how) 33 ((inS (h 99) n (65536 * (byS (h 99) n 0)) 0).1)) 34 ((inS (h 99) n (65536 * (byS (h 99) n 0)) 0).2.1)) 38 n) 39 ((inS (h 99) n (65536 * (byS (h 99) n 0)) 0).2.2))) 96 (fsr (h 96) 0 19 st0)) 97 (fsr (h 97) 0 19 (fun _ => 0))) ((setO_cg rfl ((fup_cg ((fup_cg ((fup_comm _ _ _ (by decide)).trans (fup_cg ((fup_comm _ _ _ (by decide)).trans (fup_cg (fup_same _ _ _ _)))))).trans ((fup_comm _ _ _ (by decide)).trans (fup_cg (fup_comm _ _ _ (by decide)))))).trans (fup_same _ _ _ _))).trans ((setO_comm _ _ _ (by decide)).trans (setO_cg ((setO_comm _ _ _ (by decide)).trans (setO_cg (setO_same _ _ _ _) rfl)) rfl))) ?_
  show TT K ly 0 0 37 [(0, vR 73), (1, vI n), (2, vI how)] [] (setO (setO (setO h 73 (fup (fup (fup (fup (fup (h 73) 29 how) 33 ((inS (h 99) n (65536 * (byS (h 99) n 0)) 0).1)) 34 ((inS (h 99) n (65536 * (byS (h 99) n 0)) 0).2.1)) 38 n) 39 ((inS (h 99) n (65536 * (byS (h 99) n 0)) 0).2.2))) 96 (fsr (h 96) 0 19 st0)) 97 (fsr (h 97) 0 19 (fun _ => 0)))
  refine TT_aload_n hK rfl 0 rfl dX12_beginReading_37 ?_
  refine TT_ldc2 hK lc_X12_219 dX12_beginReading_38 ?_
  refine TT_aload_n hK rfl 0 rfl dX12_beginReading_41 ?_
  refine gf_X12_175 hK (by decide) rfl (v := (inS (h 99) n (65536 * (byS (h 99) n 0)) 0).1) (rd_ ((sOf_ne _ _ (by decide)).trans ((sOf_ne _ _ (by decide)).trans (sOf_eq _ _ _))) ((fup_ne _ _ (by decide)).trans ((fup_ne _ _ (by decide)).trans ((fup_ne _ _ (by decide)).trans (fup_eq _ _ _))))) dX12_beginReading_42 ?_
  refine TT_lmul hK dX12_beginReading_45 ?_
  refine pf_X12_175 hK (by decide) rfl dX12_beginReading_46 ?_
  refine TT_hp (h' := setO (setO (setO h 73 (fup (fup (fup (fup (fup (h 73) 29 how) 33 (128 * ((inS (h 99) n (65536 * (byS (h 99) n 0)) 0).1))) 34 ((inS (h 99) n (65536 * (byS (h 99) n 0)) 0).2.1)) 38 n) 39 ((inS (h 99) n (65536 * (byS (h 99) n 0)) 0).2.2))) 96 (fsr (h 96) 0 19 st0)) 97 (fsr (h 97) 0 19 (fun _ => 0))) (up_can ((sOf_ne _ _ (by decide)).trans ((sOf_ne _ _ (by decide)).trans (sOf_eq _ _ _))) ((fup_comm _ _ _ (by decide)).trans (fup_cg ((fup_comm _ _ _ (by decide)).trans (fup_cg ((fup_comm _ _ _ (by decide)).trans (fup_cg (fup_same _ _ _ _))))))) ((setO_comm _ _ _ (by decide)).trans (setO_cg ((setO_comm _ _ _ (by decide)).trans (setO_cg (setO_same _ _ _ _) rfl)) rfl))) ?_
  refine TT_aload_n hK rfl 0 rfl dX12_beginReading_49 ?_
  refine TT_aload_n hK rfl 0 rfl dX12_beginReading_50 ?_
  refine gf_X12_178 hK (by decide) rfl (v := (inS (h 99) n (65536 * (byS (h 99) n 0)) 0).2.1) (rd_ ((sOf_ne _ _ (by decide)).trans ((sOf_ne _ _ (by decide)).trans (sOf_eq _ _ _))) ((fup_ne _ _ (by decide)).trans ((fup_ne _ _ (by decide)).trans (fup_eq _ _ _)))) dX12_beginReading_51 ?_
  refine TT_bipush hK (by decide) dX12_beginReading_54 ?_
  refine TT_isub hK dX12_beginReading_56 ?_
  refine pf_X12_178 hK (by decide) rfl dX12_beginReading_57 ?_
  refine TT_hp (h' := setO (setO (setO h 73 (fup (fup (fup (fup (fup (h 73) 29 how) 33 (128 * ((inS (h 99) n (65536 * (byS (h 99) n 0)) 0).1))) 34 (((inS (h 99) n (65536 * (byS (h 99) n 0)) 0).2.1) - 7)) 38 n) 39 ((inS (h 99) n (65536 * (byS (h 99) n 0)) 0).2.2))) 96 (fsr (h 96) 0 19 st0)) 97 (fsr (h 97) 0 19 (fun _ => 0))) (up_can ((sOf_ne _ _ (by decide)).trans ((sOf_ne _ _ (by decide)).trans (sOf_eq _ _ _))) ((fup_comm _ _ _ (by decide)).trans (fup_cg ((fup_comm _ _ _ (by decide)).trans (fup_cg (fup_same _ _ _ _))))) ((setO_comm _ _ _ (by decide)).trans (setO_cg ((setO_comm _ _ _ (by decide)).trans (setO_cg (setO_same _ _ _ _) rfl)) rfl))) ?_
  refine TT_aload_n hK rfl 0 rfl dX12_beginReading_60 ?_
  refine TT_ldc2 hK lc_X12_169 dX12_beginReading_61 ?_
  refine pf_X12_171 hK (by decide) rfl dX12_beginReading_64 ?_
  refine TT_hp (h' := setO (setO (setO h 73 (fup (fup (fup (fup (fup (fup (h 73) 29 how) 32 32768) 33 (128 * ((inS (h 99) n (65536 * (byS (h 99) n 0)) 0).1))) 34 (((inS (h 99) n (65536 * (byS (h 99) n 0)) 0).2.1) - 7)) 38 n) 39 ((inS (h 99) n (65536 * (byS (h 99) n 0)) 0).2.2))) 96 (fsr (h 96) 0 19 st0)) 97 (fsr (h 97) 0 19 (fun _ => 0))) (up_can ((sOf_ne _ _ (by decide)).trans ((sOf_ne _ _ (by decide)).trans (sOf_eq _ _ _))) ((fup_comm _ _ _ (by decide)).trans (fup_cg ((fup_comm _ _ _ (by decide)).trans (fup_cg ((fup_comm _ _ _ (by decide)).trans (fup_cg (fup_comm _ _ _ (by decide)))))))) ((setO_comm _ _ _ (by decide)).trans (setO_cg ((setO_comm _ _ _ (by decide)).trans (setO_cg (setO_same _ _ _ _) rfl)) rfl))) ?_
  refine TT_vret hK hQ ?_ dX12_beginReading_67
  exact ⟨rfl, setO_cg (setO_cg (setO_cg rfl (by rfl)) rfl) rfl⟩
set_option maxRecDepth 20000 in
theorem c_X12_readBit_73 (x : Int) (h : Hp_) (hx : 0 ≤ x ∧ x < 19) (tb1 : ∀ j, 0 ≤ j → j < 47 → (h 74) j = qS j) (tb2 : ∀ j, 0 ≤ j → j < 47 → (h 75) j = nmS j * 100 + nlS j) (hst : ∀ j, 0 ≤ j → j < 19 → 0 ≤ (h 96) j ∧ (h 96) j < 47) (hlk : ∀ j, 0 ≤ j → j < 19 → (h 97) j = 0 ∨ (h 97) j = 1) (hsrc : ∀ j, 0 ≤ j → j < (h 73 38) → 0 ≤ (h 99) j ∧ (h 99) j ≤ 255) (hsn : 0 ≤ (h 73 38) ∧ (h 73 38) ≤ 4400) (hq : RQ_ (h 73 38) (h 73 32) (h 73 34) (h 73 39)) (ha : 32768 ≤ (h 73 32)) : Ctr yX12_readBit cX12_readBit 7 (some .int) (rmd 2) ly ly 0 0 [vR 73, vI x] h (fun r h' => r = some (vI ((rdS lwM fxM (h 99) (h 73 38) ((h 73 32), (h 73 33), (h 73 34), (h 73 39), (h 96), (h 97)) x).1)) ∧ h' = setO (setO (setO h 73 (fup (fup (fup (fup (h 73) 32 ((rdS lwM fxM (h 99) (h 73 38) ((h 73 32), (h 73 33), (h 73 34), (h 73 39), (h 96), (h 97)) x).2.1)) 33 ((rdS lwM fxM (h 99) (h 73 38) ((h 73 32), (h 73 33), (h 73 34), (h 73 39), (h 96), (h 97)) x).2.2.1)) 34 ((rdS lwM fxM (h 99) (h 73 38) ((h 73 32), (h 73 33), (h 73 34), (h 73 39), (h 96), (h 97)) x).2.2.2.1)) 39 ((rdS lwM fxM (h 99) (h 73 38) ((h 73 32), (h 73 33), (h 73 34), (h 73 39), (h 96), (h 97)) x).2.2.2.2.1))) 96 ((rdS lwM fxM (h 99) (h 73 38) ((h 73 32), (h 73 33), (h 73 34), (h 73 39), (h 96), (h 97)) x).2.2.2.2.2.1)) 97 ((rdS lwM fxM (h 99) (h 73 38) ((h 73 32), (h 73 33), (h 73 34), (h 73 39), (h 96), (h 97)) x).2.2.2.2.2.2)) := by
  refine Ctr_of (by decide) (Nat.le_of_ble_eq_true rfl) ⟨Nat.le_refl _, Nat.le_refl _⟩ (fun K hK hQ _ => ?_)
  show TT K ly 0 0 0 [(0, vR 73), (1, vI x)] [] h
  have hs := hst x hx.1 hx.2
  have ht := (tab_r hs).1
  have hl := hlk x hx.1 hx.2
  have tq := tb1 (h 96 x) hs.1 hs.2
  have hq2 := hq.2.1
  refine TT_aload_n hK rfl 0 rfl dX12_readBit_0 ?_
  refine gf_X12_7 hK (by decide) rfl (q := 74) rfl rfl dX12_readBit_1 ?_
  refine TT_aload_n hK rfl 0 rfl dX12_readBit_4 ?_
  refine gf_X12_84 hK (by decide) rfl (q := 96) rfl rfl dX12_readBit_5 ?_
  refine TT_iload_n hK rfl 1 rfl dX12_readBit_8 ?_
  refine TT_iald hK (o := 96) (n := 19) (by decide) rfl (by first | omega | (simp [up, setR] <;> omega)) (by first | omega | (simp [up, setR] <;> omega)) (v := (h 96) x) rfl dX12_readBit_9 ?_
  refine TT_iald hK (o := 74) (n := 47) (by decide) rfl (by first | omega | (simp [up, setR] <;> omega)) (by first | omega | (simp [up, setR] <;> omega)) (v := (h 74) ((h 96) x)) rfl dX12_readBit_10 ?_
  refine TT_cgI (b := qS (h 96 x)) (by exact tq) ?_
  refine TT_istore_n hK rfl (lv' := [(2, vI (qS (h 96 x))), (0, vR 73), (1, vI x)]) (by decide) rfl dX12_readBit_11 ?_
  refine TT_aload_n hK rfl 1 rfl dX12_readBit_12 ?_
  refine TT_aload_n hK rfl 1 rfl dX12_readBit_13 ?_
  refine gf_X12_171 hK (by decide) rfl (v := (h 73) 32) rfl dX12_readBit_14 ?_
  refine TT_iload_n hK rfl 0 rfl dX12_readBit_17 ?_
  refine TT_i2l hK (irm (by omega) (by omega)) dX12_readBit_18 ?_
  refine TT_lsub hK dX12_readBit_19 ?_
  refine pf_X12_171 hK (by decide) rfl dX12_readBit_20 ?_
  refine TT_hp (h' := setO h 73 (fup (h 73) 32 (((h 73) 32) - (qS (h 96 x))))) (up_can rfl rfl rfl) ?_
  refine TT_aload_n hK rfl 1 rfl dX12_readBit_23 ?_
  refine gf_X12_175 hK (by decide) rfl (v := (h 73) 33) (rd_ (sOf_eq _ _ _) (fup_ne _ _ (by decide))) dX12_readBit_24 ?_
  refine TT_w64 ?_
  refine TT_ldc2 hK lc_X12_198 dX12_readBit_27 ?_
  refine TT_ldiv hK (w64_r _) (by decide) (by omega) dX12_readBit_30 ?_
  refine TT_cgJ (b := lwM (h 73 33)) (by rfl) ?_
  refine TT_iload_n hK rfl 0 rfl dX12_readBit_31 ?_
  refine TT_i2l hK (irm (by omega) (by omega)) dX12_readBit_32 ?_
  refine TT_lcmp hK (lwM_r _) (lrm (by omega) (by omega)) dX12_readBit_33 ?_
  refine TT_if_ge hK (tgt := 41) (lcmp_ir _ _) dX12_readBit_34 (by decide) (fun hb34 => ?_) (fun hb34 => ?_)
  · have hb34 := lcmp_ge hb34
    refine TT_iconst hK dX12_readBit_41 ?_
    refine TT_istore_n hK rfl (lv' := [(3, vI 0), (2, vI (qS (h 96 x))), (0, vR 73), (1, vI x)]) (by decide) rfl dX12_readBit_42 ?_
    refine TT_iload_n hK rfl 0 rfl dX12_readBit_43 ?_
    refine TT_if_ne hK (tgt := 80) (by decide) dX12_readBit_44 (by decide) (fun hb44 => ?_) (fun hb44 => ?_)
    · exact absurd hb44 (by decide)
    · refine TT_aload_n hK rfl 2 rfl dX12_readBit_47 ?_
      refine TT_aload_n hK rfl 2 rfl dX12_readBit_48 ?_
      refine gf_X12_175 hK (by decide) rfl (v := (h 73) 33) (rd_ (sOf_eq _ _ _) (fup_ne _ _ (by decide))) dX12_readBit_49 ?_
      refine TT_ldc2 hK lc_X12_198 dX12_readBit_52 ?_
      refine TT_iload_n hK rfl 1 rfl dX12_readBit_55 ?_
      refine TT_i2l hK (irm (by omega) (by omega)) dX12_readBit_56 ?_
      refine TT_lmul hK dX12_readBit_57 ?_
      refine TT_lsub hK dX12_readBit_58 ?_
      refine pf_X12_175 hK (by decide) rfl dX12_readBit_59 ?_
      refine TT_hp (h' := setO h 73 (fup (fup (h 73) 32 (((h 73) 32) - (qS (h 96 x)))) 33 (((h 73) 33) - (65536 * (qS (h 96 x)))))) (up_can (sOf_eq _ _ _) rfl (setO_same _ _ _ _)) ?_
      refine TT_aload_n hK rfl 2 rfl dX12_readBit_62 ?_
      refine gf_X12_171 hK (by decide) rfl (v := ((h 73) 32) - (qS (h 96 x))) (rd_ (sOf_eq _ _ _) ((fup_ne _ _ (by decide)).trans (fup_eq _ _ _))) dX12_readBit_63 ?_
      refine TT_ldc2 hK lc_X12_169 dX12_readBit_66 ?_
      refine TT_lcmp hK (lrm (by omega) (by omega)) (by decide) dX12_readBit_69 ?_
      refine TT_if_lt hK (tgt := 80) (lcmp_ir _ _) dX12_readBit_70 (by decide) (fun hb70 => ?_) (fun hb70 => ?_)
      · have hb70 := lcmp_lt hb70
        refine TT_aload_n hK rfl 2 rfl dX12_readBit_80 ?_
        refine gf_X12_171 hK (by decide) rfl (v := ((h 73) 32) - (qS (h 96 x))) (rd_ (sOf_eq _ _ _) ((fup_ne _ _ (by decide)).trans (fup_eq _ _ _))) dX12_readBit_81 ?_
        refine TT_iload_n hK rfl 1 rfl dX12_readBit_84 ?_
        refine TT_i2l hK (irm (by omega) (by omega)) dX12_readBit_85 ?_
        refine TT_lcmp hK (lrm (by omega) (by omega)) (lrm (by omega) (by omega)) dX12_readBit_86 ?_
        refine TT_if_ge hK (tgt := 94) (lcmp_ir _ _) dX12_readBit_87 (by decide) (fun hb87 => ?_) (fun hb87 => ?_)
        · have hb87 := lcmp_ge hb87
          refine TT_iconst hK dX12_readBit_94 ?_
          refine TT_istore hK (lv' := [(4, vI 0), (3, vI 0), (2, vI (qS (h 96 x))), (0, vR 73), (1, vI x)]) (by decide) rfl dX12_readBit_95 ?_
          refine TT_iload_n hK rfl 1 rfl dX12_readBit_97 ?_
          refine TT_if_eq hK (tgt := 114) (by decide) dX12_readBit_98 (by decide) (fun hb98 => ?_) (fun hb98 => ?_)
          · refine TT_iload hK 0 rfl dX12_readBit_114 ?_
            refine TT_istore hK (lv' := [(5, vI 0), (4, vI 0), (3, vI 0), (2, vI (qS (h 96 x))), (0, vR 73), (1, vI x)]) (by decide) rfl dX12_readBit_116 ?_
            refine TT_iload hK 0 rfl dX12_readBit_118 ?_
            refine TT_if_eq hK (tgt := 134) (by decide) dX12_readBit_120 (by decide) (fun hb120 => ?_) (fun hb120 => ?_)
            · refine TT_aload_n hK rfl 4 rfl dX12_readBit_134 ?_
              refine gf_X12_87 hK (by decide) rfl (q := 97) rfl rfl dX12_readBit_135 ?_
              refine TT_iload_n hK rfl 5 rfl dX12_readBit_138 ?_
              refine TT_iald hK (o := 97) (n := 19) (by decide) rfl (by first | omega | (simp [up, setR] <;> omega)) (by first | omega | (simp [up, setR] <;> omega)) (v := (h 97) x) (rd_ (sOf_ne _ _ (by decide)) rfl) dX12_readBit_139 ?_
              refine TT_istore hK (lv' := [(6, vI ((h 97) x)), (5, vI 0), (4, vI 0), (3, vI 0), (2, vI (qS (h 96 x))), (0, vR 73), (1, vI x)]) (by decide) rfl dX12_readBit_140 ?_
              refine TT_aload_n hK rfl 5 rfl dX12_readBit_142 ?_
              refine TT_iload_n hK rfl 3 rfl dX12_readBit_143 ?_
              refine TT_if_eq hK (tgt := 152) (by decide) dX12_readBit_144 (by decide) (fun hb144 => ?_) (fun hb144 => ?_)
              · refine TT_aload_n hK rfl 5 rfl dX12_readBit_152 ?_
                refine gf_X12_171 hK (by decide) rfl (v := ((h 73) 32) - (qS (h 96 x))) (rd_ (sOf_eq _ _ _) ((fup_ne _ _ (by decide)).trans (fup_eq _ _ _))) dX12_readBit_153 ?_
                refine pf_X12_171 hK (by decide) rfl dX12_readBit_156 ?_
                refine TT_hp (h' := setO h 73 (fup (fup (h 73) 32 (((h 73) 32) - (qS (h 96 x)))) 33 (((h 73) 33) - (65536 * (qS (h 96 x)))))) (up_can (sOf_eq _ _ _) ((fup_comm _ _ _ (by decide)).trans (fup_cg (fup_same _ _ _ _))) (setO_same _ _ _ _)) ?_
                refine TT_aload_n hK rfl 5 rfl dX12_readBit_159 ?_
                refine TT_iload_n hK rfl 6 rfl dX12_readBit_160 ?_
                refine TT_iload hK 1 rfl dX12_readBit_161 ?_
                have q163_75 : (setO h 73 (fup (fup (h 73) 32 (((h 73) 32) - (qS (h 96 x)))) 33 (((h 73) 33) - (65536 * (qS (h 96 x)))))) 75 = h 75 := sOf_ne _ _ (by decide)
                have q163_96 : (setO h 73 (fup (fup (h 73) 32 (((h 73) 32) - (qS (h 96 x)))) 33 (((h 73) 33) - (65536 * (qS (h 96 x)))))) 96 = h 96 := sOf_ne _ _ (by decide)
                have q163_97 : (setO h 73 (fup (fup (h 73) 32 (((h 73) 32) - (qS (h 96 x)))) 33 (((h 73) 33) - (65536 * (qS (h 96 x)))))) 97 = h 97 := sOf_ne _ _ (by decide)
                refine iv_X12_189 hK (c_X12_learn_73 x 0 (setO h 73 (fup (fup (h 73) 32 (((h 73) 32) - (qS (h 96 x)))) 33 (((h 73) 33) - (65536 * (qS (h 96 x)))))) (by first | omega | (simp [up, setR] <;> omega)) (by decide) (by rw [q163_75]; exact tb2) (by rw [q163_96]; exact hst) (by rw [q163_97]; exact hlk)) (by decide) rfl ⟨by decide, by decide⟩ (by decide) rfl rfl (Nat.le_of_ble_eq_true rfl) ⟨by decide, by decide⟩ dX12_readBit_163 ?_
                intro r9 h9 hp9
                rw [q163_96, q163_97] at hp9
                rw [hp9.1, hp9.2]
                show TT K ly 0 0 166 [(6, vI ((h 97) x)), (5, vI 0), (4, vI 0), (3, vI 0), (2, vI (qS (h 96 x))), (0, vR 73), (1, vI x)] [] (setO (setO (setO h 73 (fup (fup (h 73) 32 (((h 73) 32) - (qS (h 96 x)))) 33 (((h 73) 33) - (65536 * (qS (h 96 x)))))) 96 (lrS (h 96) x (0 = (1 : Int)))) 97 (lrL (h 96) (h 97) x (0 = (1 : Int))))
                have L166_8 : ∀ (k8 : Nat) (a1 : Int) (c1 : Int) (t1 : Int) (p1 : Int) (s1 : Int → Int) (l1 : Int → Int) (b9 : Int) (R9 : Int × Int × Int × Int), (∃ f, RJ_ fxM (h 99) (h 73 38) f a1 c1 t1 p1 R9) → ((rdS lwM fxM (h 99) (h 73 38) ((h 73 32), (h 73 33), (h 73 34), (h 73 39), (h 96), (h 97)) x) = (b9, R9.1, R9.2.1, R9.2.2.1, R9.2.2.2, s1, l1)) → ((65536 : Int) - a1).toNat < k8 → TT K ly 0 0 166 [(0, vR 73), (1, vI x), (6, vI b9)] [] (setO (setO (setO h 73 (fup (fup (fup (fup (h 73) 32 a1) 33 c1) 34 t1) 39 p1)) 96 s1) 97 l1) := by
                  intro k8
                  induction k8 with
                  | zero => intro a1 c1 t1 p1 s1 l1 b9 R9 hM hR hk8; exact absurd hk8 (Nat.not_lt_zero _)
                  | succ k8 ih8 =>
                    intro a1 c1 t1 p1 s1 l1 b9 R9 hM hR hk8
                    obtain ⟨f, hf⟩ := hM
                    obtain ⟨m1, m2, m3, m4, m5, m6⟩ := hf.2.2
                    have hM : ∃ f, RJ_ fxM (h 99) (h 73 38) f a1 c1 t1 p1 R9 := ⟨f, hf⟩
                    have hin := inS_r hsrc (c := c1) m5 m6
                    refine TT_aload_n hK rfl 0 rfl dX12_readBit_166 ?_
                    refine gf_X12_171 hK (by decide) rfl (v := a1) (rd_ ((sOf_ne _ _ (by decide)).trans ((sOf_ne _ _ (by decide)).trans (sOf_eq _ _ _))) ((fup_ne _ _ (by decide)).trans ((fup_ne _ _ (by decide)).trans ((fup_ne _ _ (by decide)).trans (fup_eq _ _ _))))) dX12_readBit_167 ?_
                    refine TT_ldc2 hK lc_X12_169 dX12_readBit_170 ?_
                    refine TT_lcmp hK (lrm (by omega) (by omega)) (by decide) dX12_readBit_173 ?_
                    refine TT_if_ge hK (tgt := 225) (lcmp_ir _ _) dX12_readBit_174 (by decide) (fun hb174 => ?_) (fun hb174 => ?_)
                    · have hb174 := lcmp_ge hb174
                      refine TT_iload hK 2 rfl dX12_readBit_225 ?_
                      refine TT_iret hK hQ ?_ dX12_readBit_227
                      have hE := RJ_done hM.choose_spec (by omega)
                      exact ⟨congrArg (fun z => some (vI z)) (by rw [hR]), setO_cg (setO_cg (setO_cg rfl (by rw [hR, ← hE])) (by rw [hR])) (by rw [hR])⟩
                    · have hb174 := lcmp_lt hb174
                      refine TT_aload_n hK rfl 0 rfl dX12_readBit_177 ?_
                      refine gf_X12_178 hK (by decide) rfl (v := t1) (rd_ ((sOf_ne _ _ (by decide)).trans ((sOf_ne _ _ (by decide)).trans (sOf_eq _ _ _))) ((fup_ne _ _ (by decide)).trans (fup_eq _ _ _))) dX12_readBit_178 ?_
                      refine TT_if_ne hK (tgt := 188) (irm (by omega) (by omega)) dX12_readBit_181 (by decide) (fun hb181 => ?_) (fun hb181 => ?_)
                      · refine TT_aload_n hK rfl 0 rfl dX12_readBit_188 ?_
                        refine TT_ldc2 hK lc_X12_193 dX12_readBit_189 ?_
                        refine TT_aload_n hK rfl 0 rfl dX12_readBit_192 ?_
                        refine gf_X12_171 hK (by decide) rfl (v := a1) (rd_ ((sOf_ne _ _ (by decide)).trans ((sOf_ne _ _ (by decide)).trans (sOf_eq _ _ _))) ((fup_ne _ _ (by decide)).trans ((fup_ne _ _ (by decide)).trans ((fup_ne _ _ (by decide)).trans (fup_eq _ _ _))))) dX12_readBit_193 ?_
                        refine TT_lmul hK dX12_readBit_196 ?_
                        refine pf_X12_171 hK (by decide) rfl dX12_readBit_197 ?_
                        refine TT_hp (h' := setO (setO (setO h 73 (fup (fup (fup (fup (h 73) 32 (2 * a1)) 33 c1) 34 t1) 39 p1)) 96 s1) 97 l1) (up_can ((sOf_ne _ _ (by decide)).trans ((sOf_ne _ _ (by decide)).trans (sOf_eq _ _ _))) ((fup_comm _ _ _ (by decide)).trans (fup_cg ((fup_comm _ _ _ (by decide)).trans (fup_cg ((fup_comm _ _ _ (by decide)).trans (fup_cg (fup_same _ _ _ _))))))) ((setO_comm _ _ _ (by decide)).trans (setO_cg ((setO_comm _ _ _ (by decide)).trans (setO_cg (setO_same _ _ _ _) rfl)) rfl))) ?_
                        refine TT_aload_n hK rfl 0 rfl dX12_readBit_200 ?_
                        refine TT_ldc2 hK lc_X12_193 dX12_readBit_201 ?_
                        refine TT_aload_n hK rfl 0 rfl dX12_readBit_204 ?_
                        refine gf_X12_175 hK (by decide) rfl (v := c1) (rd_ ((sOf_ne _ _ (by decide)).trans ((sOf_ne _ _ (by decide)).trans (sOf_eq _ _ _))) ((fup_ne _ _ (by decide)).trans ((fup_ne _ _ (by decide)).trans (fup_eq _ _ _)))) dX12_readBit_205 ?_
                        refine TT_lmul hK dX12_readBit_208 ?_
                        refine pf_X12_175 hK (by decide) rfl dX12_readBit_209 ?_
                        refine TT_hp (h' := setO (setO (setO h 73 (fup (fup (fup (fup (h 73) 32 (2 * a1)) 33 (2 * c1)) 34 t1) 39 p1)) 96 s1) 97 l1) (up_can ((sOf_ne _ _ (by decide)).trans ((sOf_ne _ _ (by decide)).trans (sOf_eq _ _ _))) ((fup_comm _ _ _ (by decide)).trans (fup_cg ((fup_comm _ _ _ (by decide)).trans (fup_cg (fup_same _ _ _ _))))) ((setO_comm _ _ _ (by decide)).trans (setO_cg ((setO_comm _ _ _ (by decide)).trans (setO_cg (setO_same _ _ _ _) rfl)) rfl))) ?_
                        refine TT_aload_n hK rfl 0 rfl dX12_readBit_212 ?_
                        refine TT_dup hK rfl dX12_readBit_213 ?_
                        refine gf_X12_178 hK (by decide) rfl (v := t1) (rd_ ((sOf_ne _ _ (by decide)).trans ((sOf_ne _ _ (by decide)).trans (sOf_eq _ _ _))) ((fup_ne _ _ (by decide)).trans (fup_eq _ _ _))) dX12_readBit_214 ?_
                        refine TT_iconst hK dX12_readBit_217 ?_
                        refine TT_isub hK dX12_readBit_218 ?_
                        refine pf_X12_178 hK (by decide) rfl dX12_readBit_219 ?_
                        refine TT_hp (h' := setO (setO (setO h 73 (fup (fup (fup (fup (h 73) 32 (2 * a1)) 33 (2 * c1)) 34 (t1 - 1)) 39 p1)) 96 s1) 97 l1) (up_can ((sOf_ne _ _ (by decide)).trans ((sOf_ne _ _ (by decide)).trans (sOf_eq _ _ _))) ((fup_comm _ _ _ (by decide)).trans (fup_cg (fup_same _ _ _ _))) ((setO_comm _ _ _ (by decide)).trans (setO_cg ((setO_comm _ _ _ (by decide)).trans (setO_cg (setO_same _ _ _ _) rfl)) rfl))) ?_
                        refine TT_goto hK (tgt := 166) dX12_readBit_222 (by decide) ?_
                        exact ih8 (2 * a1) (2 * c1) (t1 - 1) p1 s1 l1 b9 R9 (by cases f with | zero => exact absurd (RJ_z hf) (by omega) | succ f => first | exact ⟨f, RJ_next hf (by omega) (by omega) rfl⟩ | exact ⟨f, RJ_in hsrc hf (by omega) (by omega) rfl⟩) (by exact hR) (by first | omega | (simp [up, setR] <;> omega))
                      · refine TT_aload_n hK rfl 0 rfl dX12_readBit_184 ?_
                        have q185_73_33 : (setO (setO (setO h 73 (fup (fup (fup (fup (h 73) 32 a1) 33 c1) 34 t1) 39 p1)) 96 s1) 97 l1) 73 33 = c1 := rd_ ((sOf_ne _ _ (by decide)).trans ((sOf_ne _ _ (by decide)).trans (sOf_eq _ _ _))) ((fup_ne _ _ (by decide)).trans ((fup_ne _ _ (by decide)).trans (fup_eq _ _ _)))
                        have q185_73_38 : (setO (setO (setO h 73 (fup (fup (fup (fup (h 73) 32 a1) 33 c1) 34 t1) 39 p1)) 96 s1) 97 l1) 73 38 = (h 73) 38 := rd_ ((sOf_ne _ _ (by decide)).trans ((sOf_ne _ _ (by decide)).trans (sOf_eq _ _ _))) ((fup_ne _ _ (by decide)).trans ((fup_ne _ _ (by decide)).trans ((fup_ne _ _ (by decide)).trans (fup_ne _ _ (by decide)))))
                        have q185_73_39 : (setO (setO (setO h 73 (fup (fup (fup (fup (h 73) 32 a1) 33 c1) 34 t1) 39 p1)) 96 s1) 97 l1) 73 39 = p1 := rd_ ((sOf_ne _ _ (by decide)).trans ((sOf_ne _ _ (by decide)).trans (sOf_eq _ _ _))) (fup_eq _ _ _)
                        have q185_73 : (setO (setO (setO h 73 (fup (fup (fup (fup (h 73) 32 a1) 33 c1) 34 t1) 39 p1)) 96 s1) 97 l1) 73 = fup (fup (fup (fup (h 73) 32 a1) 33 c1) 34 t1) 39 p1 := (sOf_ne _ _ (by decide)).trans ((sOf_ne _ _ (by decide)).trans (sOf_eq _ _ _))
                        have q185_99 : (setO (setO (setO h 73 (fup (fup (fup (fup (h 73) 32 a1) 33 c1) 34 t1) 39 p1)) 96 s1) 97 l1) 99 = h 99 := (sOf_ne _ _ (by decide)).trans ((sOf_ne _ _ (by decide)).trans (sOf_ne _ _ (by decide)))
                        refine iv_X12_216 hK (c_X12_takeIn_73 (setO (setO (setO h 73 (fup (fup (fup (fup (h 73) 32 a1) 33 c1) 34 t1) 39 p1)) 96 s1) 97 l1) (by rw [q185_73_38, q185_99]; exact hsrc) (by rw [q185_73_38]; first | omega | (simp [up, setR] <;> omega)) (by rw [q185_73_38, q185_73_39]; first | omega | (simp [up, setR] <;> omega))) (by decide) rfl ⟨by decide, by decide⟩ (by decide) rfl rfl (Nat.le_of_ble_eq_true rfl) ⟨by decide, by decide⟩ dX12_readBit_185 ?_
                        intro r9 h9 hp9
                        rw [q185_73_33, q185_73_38, q185_73_39, q185_73, q185_99] at hp9
                        rw [hp9.1, hp9.2]
                        refine TT_hp (h' := setO (setO (setO h 73 (fup (fup (fup (fup (h 73) 32 a1) 33 ((inS (h 99) ((h 73) 38) c1 p1).1)) 34 ((inS (h 99) ((h 73) 38) c1 p1).2.1)) 39 ((inS (h 99) ((h 73) 38) c1 p1).2.2))) 96 s1) 97 l1) ((setO_cg rfl ((fup_cg ((fup_cg ((fup_comm _ _ _ (by decide)).trans (fup_cg ((fup_comm _ _ _ (by decide)).trans (fup_cg (fup_same _ _ _ _)))))).trans ((fup_comm _ _ _ (by decide)).trans (fup_cg (fup_same _ _ _ _))))).trans (fup_same _ _ _ _))).trans ((setO_comm _ _ _ (by decide)).trans (setO_cg ((setO_comm _ _ _ (by decide)).trans (setO_cg (setO_same _ _ _ _) rfl)) rfl))) ?_
                        show TT K ly 0 0 188 [(0, vR 73), (1, vI x), (6, vI b9)] [] (setO (setO (setO h 73 (fup (fup (fup (fup (h 73) 32 a1) 33 ((inS (h 99) ((h 73) 38) c1 p1).1)) 34 ((inS (h 99) ((h 73) 38) c1 p1).2.1)) 39 ((inS (h 99) ((h 73) 38) c1 p1).2.2))) 96 s1) 97 l1)
                        refine TT_aload_n hK rfl 0 rfl dX12_readBit_188 ?_
                        refine TT_ldc2 hK lc_X12_193 dX12_readBit_189 ?_
                        refine TT_aload_n hK rfl 0 rfl dX12_readBit_192 ?_
                        refine gf_X12_171 hK (by decide) rfl (v := a1) (rd_ ((sOf_ne _ _ (by decide)).trans ((sOf_ne _ _ (by decide)).trans (sOf_eq _ _ _))) ((fup_ne _ _ (by decide)).trans ((fup_ne _ _ (by decide)).trans ((fup_ne _ _ (by decide)).trans (fup_eq _ _ _))))) dX12_readBit_193 ?_
                        refine TT_lmul hK dX12_readBit_196 ?_
                        refine pf_X12_171 hK (by decide) rfl dX12_readBit_197 ?_
                        refine TT_hp (h' := setO (setO (setO h 73 (fup (fup (fup (fup (h 73) 32 (2 * a1)) 33 ((inS (h 99) ((h 73) 38) c1 p1).1)) 34 ((inS (h 99) ((h 73) 38) c1 p1).2.1)) 39 ((inS (h 99) ((h 73) 38) c1 p1).2.2))) 96 s1) 97 l1) (up_can ((sOf_ne _ _ (by decide)).trans ((sOf_ne _ _ (by decide)).trans (sOf_eq _ _ _))) ((fup_comm _ _ _ (by decide)).trans (fup_cg ((fup_comm _ _ _ (by decide)).trans (fup_cg ((fup_comm _ _ _ (by decide)).trans (fup_cg (fup_same _ _ _ _))))))) ((setO_comm _ _ _ (by decide)).trans (setO_cg ((setO_comm _ _ _ (by decide)).trans (setO_cg (setO_same _ _ _ _) rfl)) rfl))) ?_
                        refine TT_aload_n hK rfl 0 rfl dX12_readBit_200 ?_
                        refine TT_ldc2 hK lc_X12_193 dX12_readBit_201 ?_
                        refine TT_aload_n hK rfl 0 rfl dX12_readBit_204 ?_
                        refine gf_X12_175 hK (by decide) rfl (v := (inS (h 99) ((h 73) 38) c1 p1).1) (rd_ ((sOf_ne _ _ (by decide)).trans ((sOf_ne _ _ (by decide)).trans (sOf_eq _ _ _))) ((fup_ne _ _ (by decide)).trans ((fup_ne _ _ (by decide)).trans (fup_eq _ _ _)))) dX12_readBit_205 ?_
                        refine TT_lmul hK dX12_readBit_208 ?_
                        refine pf_X12_175 hK (by decide) rfl dX12_readBit_209 ?_
                        refine TT_hp (h' := setO (setO (setO h 73 (fup (fup (fup (fup (h 73) 32 (2 * a1)) 33 (2 * ((inS (h 99) ((h 73) 38) c1 p1).1))) 34 ((inS (h 99) ((h 73) 38) c1 p1).2.1)) 39 ((inS (h 99) ((h 73) 38) c1 p1).2.2))) 96 s1) 97 l1) (up_can ((sOf_ne _ _ (by decide)).trans ((sOf_ne _ _ (by decide)).trans (sOf_eq _ _ _))) ((fup_comm _ _ _ (by decide)).trans (fup_cg ((fup_comm _ _ _ (by decide)).trans (fup_cg (fup_same _ _ _ _))))) ((setO_comm _ _ _ (by decide)).trans (setO_cg ((setO_comm _ _ _ (by decide)).trans (setO_cg (setO_same _ _ _ _) rfl)) rfl))) ?_
                        refine TT_aload_n hK rfl 0 rfl dX12_readBit_212 ?_
                        refine TT_dup hK rfl dX12_readBit_213 ?_
                        refine gf_X12_178 hK (by decide) rfl (v := (inS (h 99) ((h 73) 38) c1 p1).2.1) (rd_ ((sOf_ne _ _ (by decide)).trans ((sOf_ne _ _ (by decide)).trans (sOf_eq _ _ _))) ((fup_ne _ _ (by decide)).trans (fup_eq _ _ _))) dX12_readBit_214 ?_
                        refine TT_iconst hK dX12_readBit_217 ?_
                        refine TT_isub hK dX12_readBit_218 ?_
                        refine pf_X12_178 hK (by decide) rfl dX12_readBit_219 ?_
                        refine TT_hp (h' := setO (setO (setO h 73 (fup (fup (fup (fup (h 73) 32 (2 * a1)) 33 (2 * ((inS (h 99) ((h 73) 38) c1 p1).1))) 34 (((inS (h 99) ((h 73) 38) c1 p1).2.1) - 1)) 39 ((inS (h 99) ((h 73) 38) c1 p1).2.2))) 96 s1) 97 l1) (up_can ((sOf_ne _ _ (by decide)).trans ((sOf_ne _ _ (by decide)).trans (sOf_eq _ _ _))) ((fup_comm _ _ _ (by decide)).trans (fup_cg (fup_same _ _ _ _))) ((setO_comm _ _ _ (by decide)).trans (setO_cg ((setO_comm _ _ _ (by decide)).trans (setO_cg (setO_same _ _ _ _) rfl)) rfl))) ?_
                        refine TT_goto hK (tgt := 166) dX12_readBit_222 (by decide) ?_
                        exact ih8 (2 * a1) (2 * ((inS (h 99) ((h 73) 38) c1 p1).1)) (((inS (h 99) ((h 73) 38) c1 p1).2.1) - 1) ((inS (h 99) ((h 73) 38) c1 p1).2.2) s1 l1 b9 R9 (by cases f with | zero => exact absurd (RJ_z hf) (by omega) | succ f => first | exact ⟨f, RJ_next hf (by omega) (by omega) rfl⟩ | exact ⟨f, RJ_in hsrc hf (by omega) (by omega) rfl⟩) (by exact hR) (by first | omega | (simp [up, setR] <;> omega))
                refine TT_sub [5, 6, 0] rfl ?_
                refine TT_hp (h' := setO (setO (setO h 73 (fup (fup (fup (fup (h 73) 32 (((h 73) 32) - (qS (h 96 x)))) 33 (((h 73) 33) - (65536 * (qS (h 96 x))))) 34 ((h 73) 34)) 39 ((h 73) 39))) 96 (lrS (h 96) x (0 = (1 : Int)))) 97 (lrL (h 96) (h 97) x (0 = (1 : Int)))) (setO_cg (setO_cg (setO_cg rfl (by first | exact fup_self3 (by decide) (by decide) (by decide) (by decide) (by decide) (by decide) rfl rfl rfl | exact fup_self2 (by decide) rfl rfl | exact fup_self rfl)) (by first | rfl | exact fsr_0 _ _ _)) (by first | rfl | exact fsr_0 _ _ _)) ?_
                exact L166_8 ((((65536 : Int) - (((h 73) 32) - (qS (h 96 x)))).toNat) + 1) (((h 73) 32) - (qS (h 96 x))) (((h 73) 33) - (65536 * (qS (h 96 x)))) ((h 73) 34) ((h 73) 39) (lrS (h 96) x (0 = (1 : Int))) (lrL (h 96) (h 97) x (0 = (1 : Int))) ((h 97) x) (rmS fxM (h 99) (h 73 38) 15 (((h 73) 32) - (qS (h 96 x))) (((h 73) 33) - (65536 * (qS (h 96 x)))) ((h 73) 34) ((h 73) 39)) (by exact ⟨15, RJ_0 (RQ_rd (x := x) (st := h 96) (P := lwM (h 73 33) < qS (h 96 x)) hq ha hs (by first | exact (if_pos (by omega)).symm | exact (if_neg (by omega)).symm))⟩) (by refine rdS_m (by omega) (by first | exact (if_pos (by omega)).symm | exact (if_neg (by omega)).symm) (by first | exact (if_pos (by omega)).symm | exact (if_neg (by omega)).symm) (by omega) (by first | exact (if_pos (by omega)).symm | exact (if_neg (by omega)).symm)) (Nat.lt_succ_self _)
              · exact absurd hb144 (by decide)
            · exact absurd hb120 (by decide)
          · exact absurd hb98 (by decide)
        · have hb87 := lcmp_lt hb87
          refine TT_iconst hK dX12_readBit_90 ?_
          refine TT_goto hK (tgt := 95) dX12_readBit_91 (by decide) ?_
          refine TT_istore hK (lv' := [(4, vI 1), (3, vI 0), (2, vI (qS (h 96 x))), (0, vR 73), (1, vI x)]) (by decide) rfl dX12_readBit_95 ?_
          refine TT_iload_n hK rfl 1 rfl dX12_readBit_97 ?_
          refine TT_if_eq hK (tgt := 114) (by decide) dX12_readBit_98 (by decide) (fun hb98 => ?_) (fun hb98 => ?_)
          · refine TT_iload hK 0 rfl dX12_readBit_114 ?_
            refine TT_istore hK (lv' := [(5, vI 1), (4, vI 1), (3, vI 0), (2, vI (qS (h 96 x))), (0, vR 73), (1, vI x)]) (by decide) rfl dX12_readBit_116 ?_
            refine TT_iload hK 0 rfl dX12_readBit_118 ?_
            refine TT_if_eq hK (tgt := 134) (by decide) dX12_readBit_120 (by decide) (fun hb120 => ?_) (fun hb120 => ?_)
            · exact absurd hb120 (by decide)
            · refine TT_iconst hK dX12_readBit_123 ?_
              refine TT_aload_n hK rfl 4 rfl dX12_readBit_124 ?_
              refine gf_X12_87 hK (by decide) rfl (q := 97) rfl rfl dX12_readBit_125 ?_
              refine TT_iload_n hK rfl 5 rfl dX12_readBit_128 ?_
              refine TT_iald hK (o := 97) (n := 19) (by decide) rfl (by first | omega | (simp [up, setR] <;> omega)) (by first | omega | (simp [up, setR] <;> omega)) (v := (h 97) x) (rd_ (sOf_ne _ _ (by decide)) rfl) dX12_readBit_129 ?_
              refine TT_isub hK dX12_readBit_130 ?_
              refine TT_goto hK (tgt := 140) dX12_readBit_131 (by decide) ?_
              refine TT_istore hK (lv' := [(6, vI (1 - ((h 97) x))), (5, vI 1), (4, vI 1), (3, vI 0), (2, vI (qS (h 96 x))), (0, vR 73), (1, vI x)]) (by decide) rfl dX12_readBit_140 ?_
              refine TT_aload_n hK rfl 5 rfl dX12_readBit_142 ?_
              refine TT_iload_n hK rfl 3 rfl dX12_readBit_143 ?_
              refine TT_if_eq hK (tgt := 152) (by decide) dX12_readBit_144 (by decide) (fun hb144 => ?_) (fun hb144 => ?_)
              · refine TT_aload_n hK rfl 5 rfl dX12_readBit_152 ?_
                refine gf_X12_171 hK (by decide) rfl (v := ((h 73) 32) - (qS (h 96 x))) (rd_ (sOf_eq _ _ _) ((fup_ne _ _ (by decide)).trans (fup_eq _ _ _))) dX12_readBit_153 ?_
                refine pf_X12_171 hK (by decide) rfl dX12_readBit_156 ?_
                refine TT_hp (h' := setO h 73 (fup (fup (h 73) 32 (((h 73) 32) - (qS (h 96 x)))) 33 (((h 73) 33) - (65536 * (qS (h 96 x)))))) (up_can (sOf_eq _ _ _) ((fup_comm _ _ _ (by decide)).trans (fup_cg (fup_same _ _ _ _))) (setO_same _ _ _ _)) ?_
                refine TT_aload_n hK rfl 5 rfl dX12_readBit_159 ?_
                refine TT_iload_n hK rfl 6 rfl dX12_readBit_160 ?_
                refine TT_iload hK 1 rfl dX12_readBit_161 ?_
                have q163_75 : (setO h 73 (fup (fup (h 73) 32 (((h 73) 32) - (qS (h 96 x)))) 33 (((h 73) 33) - (65536 * (qS (h 96 x)))))) 75 = h 75 := sOf_ne _ _ (by decide)
                have q163_96 : (setO h 73 (fup (fup (h 73) 32 (((h 73) 32) - (qS (h 96 x)))) 33 (((h 73) 33) - (65536 * (qS (h 96 x)))))) 96 = h 96 := sOf_ne _ _ (by decide)
                have q163_97 : (setO h 73 (fup (fup (h 73) 32 (((h 73) 32) - (qS (h 96 x)))) 33 (((h 73) 33) - (65536 * (qS (h 96 x)))))) 97 = h 97 := sOf_ne _ _ (by decide)
                refine iv_X12_189 hK (c_X12_learn_73 x 1 (setO h 73 (fup (fup (h 73) 32 (((h 73) 32) - (qS (h 96 x)))) 33 (((h 73) 33) - (65536 * (qS (h 96 x)))))) (by first | omega | (simp [up, setR] <;> omega)) (by decide) (by rw [q163_75]; exact tb2) (by rw [q163_96]; exact hst) (by rw [q163_97]; exact hlk)) (by decide) rfl ⟨by decide, by decide⟩ (by decide) rfl rfl (Nat.le_of_ble_eq_true rfl) ⟨by decide, by decide⟩ dX12_readBit_163 ?_
                intro r9 h9 hp9
                rw [q163_96, q163_97] at hp9
                rw [hp9.1, hp9.2]
                show TT K ly 0 0 166 [(6, vI (1 - ((h 97) x))), (5, vI 1), (4, vI 1), (3, vI 0), (2, vI (qS (h 96 x))), (0, vR 73), (1, vI x)] [] (setO (setO (setO h 73 (fup (fup (h 73) 32 (((h 73) 32) - (qS (h 96 x)))) 33 (((h 73) 33) - (65536 * (qS (h 96 x)))))) 96 (lrS (h 96) x (1 = (1 : Int)))) 97 (lrL (h 96) (h 97) x (1 = (1 : Int))))
                have L166_14 : ∀ (k14 : Nat) (a1 : Int) (c1 : Int) (t1 : Int) (p1 : Int) (s1 : Int → Int) (l1 : Int → Int) (b9 : Int) (R9 : Int × Int × Int × Int), (∃ f, RJ_ fxM (h 99) (h 73 38) f a1 c1 t1 p1 R9) → ((rdS lwM fxM (h 99) (h 73 38) ((h 73 32), (h 73 33), (h 73 34), (h 73 39), (h 96), (h 97)) x) = (b9, R9.1, R9.2.1, R9.2.2.1, R9.2.2.2, s1, l1)) → ((65536 : Int) - a1).toNat < k14 → TT K ly 0 0 166 [(0, vR 73), (1, vI x), (6, vI b9)] [] (setO (setO (setO h 73 (fup (fup (fup (fup (h 73) 32 a1) 33 c1) 34 t1) 39 p1)) 96 s1) 97 l1) := by
                  intro k14
                  induction k14 with
                  | zero => intro a1 c1 t1 p1 s1 l1 b9 R9 hM hR hk14; exact absurd hk14 (Nat.not_lt_zero _)
                  | succ k14 ih14 =>
                    intro a1 c1 t1 p1 s1 l1 b9 R9 hM hR hk14
                    obtain ⟨f, hf⟩ := hM
                    obtain ⟨m1, m2, m3, m4, m5, m6⟩ := hf.2.2
                    have hM : ∃ f, RJ_ fxM (h 99) (h 73 38) f a1 c1 t1 p1 R9 := ⟨f, hf⟩
                    have hin := inS_r hsrc (c := c1) m5 m6
                    refine TT_aload_n hK rfl 0 rfl dX12_readBit_166 ?_
                    refine gf_X12_171 hK (by decide) rfl (v := a1) (rd_ ((sOf_ne _ _ (by decide)).trans ((sOf_ne _ _ (by decide)).trans (sOf_eq _ _ _))) ((fup_ne _ _ (by decide)).trans ((fup_ne _ _ (by decide)).trans ((fup_ne _ _ (by decide)).trans (fup_eq _ _ _))))) dX12_readBit_167 ?_
                    refine TT_ldc2 hK lc_X12_169 dX12_readBit_170 ?_
                    refine TT_lcmp hK (lrm (by omega) (by omega)) (by decide) dX12_readBit_173 ?_
                    refine TT_if_ge hK (tgt := 225) (lcmp_ir _ _) dX12_readBit_174 (by decide) (fun hb174 => ?_) (fun hb174 => ?_)
                    · have hb174 := lcmp_ge hb174
                      refine TT_iload hK 2 rfl dX12_readBit_225 ?_
                      refine TT_iret hK hQ ?_ dX12_readBit_227
                      have hE := RJ_done hM.choose_spec (by omega)
                      exact ⟨congrArg (fun z => some (vI z)) (by rw [hR]), setO_cg (setO_cg (setO_cg rfl (by rw [hR, ← hE])) (by rw [hR])) (by rw [hR])⟩
                    · have hb174 := lcmp_lt hb174
                      refine TT_aload_n hK rfl 0 rfl dX12_readBit_177 ?_
                      refine gf_X12_178 hK (by decide) rfl (v := t1) (rd_ ((sOf_ne _ _ (by decide)).trans ((sOf_ne _ _ (by decide)).trans (sOf_eq _ _ _))) ((fup_ne _ _ (by decide)).trans (fup_eq _ _ _))) dX12_readBit_178 ?_
                      refine TT_if_ne hK (tgt := 188) (irm (by omega) (by omega)) dX12_readBit_181 (by decide) (fun hb181 => ?_) (fun hb181 => ?_)
                      · refine TT_aload_n hK rfl 0 rfl dX12_readBit_188 ?_
                        refine TT_ldc2 hK lc_X12_193 dX12_readBit_189 ?_
                        refine TT_aload_n hK rfl 0 rfl dX12_readBit_192 ?_
                        refine gf_X12_171 hK (by decide) rfl (v := a1) (rd_ ((sOf_ne _ _ (by decide)).trans ((sOf_ne _ _ (by decide)).trans (sOf_eq _ _ _))) ((fup_ne _ _ (by decide)).trans ((fup_ne _ _ (by decide)).trans ((fup_ne _ _ (by decide)).trans (fup_eq _ _ _))))) dX12_readBit_193 ?_
                        refine TT_lmul hK dX12_readBit_196 ?_
                        refine pf_X12_171 hK (by decide) rfl dX12_readBit_197 ?_
                        refine TT_hp (h' := setO (setO (setO h 73 (fup (fup (fup (fup (h 73) 32 (2 * a1)) 33 c1) 34 t1) 39 p1)) 96 s1) 97 l1) (up_can ((sOf_ne _ _ (by decide)).trans ((sOf_ne _ _ (by decide)).trans (sOf_eq _ _ _))) ((fup_comm _ _ _ (by decide)).trans (fup_cg ((fup_comm _ _ _ (by decide)).trans (fup_cg ((fup_comm _ _ _ (by decide)).trans (fup_cg (fup_same _ _ _ _))))))) ((setO_comm _ _ _ (by decide)).trans (setO_cg ((setO_comm _ _ _ (by decide)).trans (setO_cg (setO_same _ _ _ _) rfl)) rfl))) ?_
                        refine TT_aload_n hK rfl 0 rfl dX12_readBit_200 ?_
                        refine TT_ldc2 hK lc_X12_193 dX12_readBit_201 ?_
                        refine TT_aload_n hK rfl 0 rfl dX12_readBit_204 ?_
                        refine gf_X12_175 hK (by decide) rfl (v := c1) (rd_ ((sOf_ne _ _ (by decide)).trans ((sOf_ne _ _ (by decide)).trans (sOf_eq _ _ _))) ((fup_ne _ _ (by decide)).trans ((fup_ne _ _ (by decide)).trans (fup_eq _ _ _)))) dX12_readBit_205 ?_
                        refine TT_lmul hK dX12_readBit_208 ?_
                        refine pf_X12_175 hK (by decide) rfl dX12_readBit_209 ?_
                        refine TT_hp (h' := setO (setO (setO h 73 (fup (fup (fup (fup (h 73) 32 (2 * a1)) 33 (2 * c1)) 34 t1) 39 p1)) 96 s1) 97 l1) (up_can ((sOf_ne _ _ (by decide)).trans ((sOf_ne _ _ (by decide)).trans (sOf_eq _ _ _))) ((fup_comm _ _ _ (by decide)).trans (fup_cg ((fup_comm _ _ _ (by decide)).trans (fup_cg (fup_same _ _ _ _))))) ((setO_comm _ _ _ (by decide)).trans (setO_cg ((setO_comm _ _ _ (by decide)).trans (setO_cg (setO_same _ _ _ _) rfl)) rfl))) ?_
                        refine TT_aload_n hK rfl 0 rfl dX12_readBit_212 ?_
                        refine TT_dup hK rfl dX12_readBit_213 ?_
                        refine gf_X12_178 hK (by decide) rfl (v := t1) (rd_ ((sOf_ne _ _ (by decide)).trans ((sOf_ne _ _ (by decide)).trans (sOf_eq _ _ _))) ((fup_ne _ _ (by decide)).trans (fup_eq _ _ _))) dX12_readBit_214 ?_
                        refine TT_iconst hK dX12_readBit_217 ?_
                        refine TT_isub hK dX12_readBit_218 ?_
                        refine pf_X12_178 hK (by decide) rfl dX12_readBit_219 ?_
                        refine TT_hp (h' := setO (setO (setO h 73 (fup (fup (fup (fup (h 73) 32 (2 * a1)) 33 (2 * c1)) 34 (t1 - 1)) 39 p1)) 96 s1) 97 l1) (up_can ((sOf_ne _ _ (by decide)).trans ((sOf_ne _ _ (by decide)).trans (sOf_eq _ _ _))) ((fup_comm _ _ _ (by decide)).trans (fup_cg (fup_same _ _ _ _))) ((setO_comm _ _ _ (by decide)).trans (setO_cg ((setO_comm _ _ _ (by decide)).trans (setO_cg (setO_same _ _ _ _) rfl)) rfl))) ?_
                        refine TT_goto hK (tgt := 166) dX12_readBit_222 (by decide) ?_
                        exact ih14 (2 * a1) (2 * c1) (t1 - 1) p1 s1 l1 b9 R9 (by cases f with | zero => exact absurd (RJ_z hf) (by omega) | succ f => first | exact ⟨f, RJ_next hf (by omega) (by omega) rfl⟩ | exact ⟨f, RJ_in hsrc hf (by omega) (by omega) rfl⟩) (by exact hR) (by first | omega | (simp [up, setR] <;> omega))
                      · refine TT_aload_n hK rfl 0 rfl dX12_readBit_184 ?_
                        have q185_73_33 : (setO (setO (setO h 73 (fup (fup (fup (fup (h 73) 32 a1) 33 c1) 34 t1) 39 p1)) 96 s1) 97 l1) 73 33 = c1 := rd_ ((sOf_ne _ _ (by decide)).trans ((sOf_ne _ _ (by decide)).trans (sOf_eq _ _ _))) ((fup_ne _ _ (by decide)).trans ((fup_ne _ _ (by decide)).trans (fup_eq _ _ _)))
                        have q185_73_38 : (setO (setO (setO h 73 (fup (fup (fup (fup (h 73) 32 a1) 33 c1) 34 t1) 39 p1)) 96 s1) 97 l1) 73 38 = (h 73) 38 := rd_ ((sOf_ne _ _ (by decide)).trans ((sOf_ne _ _ (by decide)).trans (sOf_eq _ _ _))) ((fup_ne _ _ (by decide)).trans ((fup_ne _ _ (by decide)).trans ((fup_ne _ _ (by decide)).trans (fup_ne _ _ (by decide)))))
                        have q185_73_39 : (setO (setO (setO h 73 (fup (fup (fup (fup (h 73) 32 a1) 33 c1) 34 t1) 39 p1)) 96 s1) 97 l1) 73 39 = p1 := rd_ ((sOf_ne _ _ (by decide)).trans ((sOf_ne _ _ (by decide)).trans (sOf_eq _ _ _))) (fup_eq _ _ _)
                        have q185_73 : (setO (setO (setO h 73 (fup (fup (fup (fup (h 73) 32 a1) 33 c1) 34 t1) 39 p1)) 96 s1) 97 l1) 73 = fup (fup (fup (fup (h 73) 32 a1) 33 c1) 34 t1) 39 p1 := (sOf_ne _ _ (by decide)).trans ((sOf_ne _ _ (by decide)).trans (sOf_eq _ _ _))
                        have q185_99 : (setO (setO (setO h 73 (fup (fup (fup (fup (h 73) 32 a1) 33 c1) 34 t1) 39 p1)) 96 s1) 97 l1) 99 = h 99 := (sOf_ne _ _ (by decide)).trans ((sOf_ne _ _ (by decide)).trans (sOf_ne _ _ (by decide)))
                        refine iv_X12_216 hK (c_X12_takeIn_73 (setO (setO (setO h 73 (fup (fup (fup (fup (h 73) 32 a1) 33 c1) 34 t1) 39 p1)) 96 s1) 97 l1) (by rw [q185_73_38, q185_99]; exact hsrc) (by rw [q185_73_38]; first | omega | (simp [up, setR] <;> omega)) (by rw [q185_73_38, q185_73_39]; first | omega | (simp [up, setR] <;> omega))) (by decide) rfl ⟨by decide, by decide⟩ (by decide) rfl rfl (Nat.le_of_ble_eq_true rfl) ⟨by decide, by decide⟩ dX12_readBit_185 ?_
                        intro r9 h9 hp9
                        rw [q185_73_33, q185_73_38, q185_73_39, q185_73, q185_99] at hp9
                        rw [hp9.1, hp9.2]
                        refine TT_hp (h' := setO (setO (setO h 73 (fup (fup (fup (fup (h 73) 32 a1) 33 ((inS (h 99) ((h 73) 38) c1 p1).1)) 34 ((inS (h 99) ((h 73) 38) c1 p1).2.1)) 39 ((inS (h 99) ((h 73) 38) c1 p1).2.2))) 96 s1) 97 l1) ((setO_cg rfl ((fup_cg ((fup_cg ((fup_comm _ _ _ (by decide)).trans (fup_cg ((fup_comm _ _ _ (by decide)).trans (fup_cg (fup_same _ _ _ _)))))).trans ((fup_comm _ _ _ (by decide)).trans (fup_cg (fup_same _ _ _ _))))).trans (fup_same _ _ _ _))).trans ((setO_comm _ _ _ (by decide)).trans (setO_cg ((setO_comm _ _ _ (by decide)).trans (setO_cg (setO_same _ _ _ _) rfl)) rfl))) ?_
                        show TT K ly 0 0 188 [(0, vR 73), (1, vI x), (6, vI b9)] [] (setO (setO (setO h 73 (fup (fup (fup (fup (h 73) 32 a1) 33 ((inS (h 99) ((h 73) 38) c1 p1).1)) 34 ((inS (h 99) ((h 73) 38) c1 p1).2.1)) 39 ((inS (h 99) ((h 73) 38) c1 p1).2.2))) 96 s1) 97 l1)
                        refine TT_aload_n hK rfl 0 rfl dX12_readBit_188 ?_
                        refine TT_ldc2 hK lc_X12_193 dX12_readBit_189 ?_
                        refine TT_aload_n hK rfl 0 rfl dX12_readBit_192 ?_
                        refine gf_X12_171 hK (by decide) rfl (v := a1) (rd_ ((sOf_ne _ _ (by decide)).trans ((sOf_ne _ _ (by decide)).trans (sOf_eq _ _ _))) ((fup_ne _ _ (by decide)).trans ((fup_ne _ _ (by decide)).trans ((fup_ne _ _ (by decide)).trans (fup_eq _ _ _))))) dX12_readBit_193 ?_
                        refine TT_lmul hK dX12_readBit_196 ?_
                        refine pf_X12_171 hK (by decide) rfl dX12_readBit_197 ?_
                        refine TT_hp (h' := setO (setO (setO h 73 (fup (fup (fup (fup (h 73) 32 (2 * a1)) 33 ((inS (h 99) ((h 73) 38) c1 p1).1)) 34 ((inS (h 99) ((h 73) 38) c1 p1).2.1)) 39 ((inS (h 99) ((h 73) 38) c1 p1).2.2))) 96 s1) 97 l1) (up_can ((sOf_ne _ _ (by decide)).trans ((sOf_ne _ _ (by decide)).trans (sOf_eq _ _ _))) ((fup_comm _ _ _ (by decide)).trans (fup_cg ((fup_comm _ _ _ (by decide)).trans (fup_cg ((fup_comm _ _ _ (by decide)).trans (fup_cg (fup_same _ _ _ _))))))) ((setO_comm _ _ _ (by decide)).trans (setO_cg ((setO_comm _ _ _ (by decide)).trans (setO_cg (setO_same _ _ _ _) rfl)) rfl))) ?_
                        refine TT_aload_n hK rfl 0 rfl dX12_readBit_200 ?_
                        refine TT_ldc2 hK lc_X12_193 dX12_readBit_201 ?_
                        refine TT_aload_n hK rfl 0 rfl dX12_readBit_204 ?_
                        refine gf_X12_175 hK (by decide) rfl (v := (inS (h 99) ((h 73) 38) c1 p1).1) (rd_ ((sOf_ne _ _ (by decide)).trans ((sOf_ne _ _ (by decide)).trans (sOf_eq _ _ _))) ((fup_ne _ _ (by decide)).trans ((fup_ne _ _ (by decide)).trans (fup_eq _ _ _)))) dX12_readBit_205 ?_
                        refine TT_lmul hK dX12_readBit_208 ?_
                        refine pf_X12_175 hK (by decide) rfl dX12_readBit_209 ?_
                        refine TT_hp (h' := setO (setO (setO h 73 (fup (fup (fup (fup (h 73) 32 (2 * a1)) 33 (2 * ((inS (h 99) ((h 73) 38) c1 p1).1))) 34 ((inS (h 99) ((h 73) 38) c1 p1).2.1)) 39 ((inS (h 99) ((h 73) 38) c1 p1).2.2))) 96 s1) 97 l1) (up_can ((sOf_ne _ _ (by decide)).trans ((sOf_ne _ _ (by decide)).trans (sOf_eq _ _ _))) ((fup_comm _ _ _ (by decide)).trans (fup_cg ((fup_comm _ _ _ (by decide)).trans (fup_cg (fup_same _ _ _ _))))) ((setO_comm _ _ _ (by decide)).trans (setO_cg ((setO_comm _ _ _ (by decide)).trans (setO_cg (setO_same _ _ _ _) rfl)) rfl))) ?_
                        refine TT_aload_n hK rfl 0 rfl dX12_readBit_212 ?_
                        refine TT_dup hK rfl dX12_readBit_213 ?_
                        refine gf_X12_178 hK (by decide) rfl (v := (inS (h 99) ((h 73) 38) c1 p1).2.1) (rd_ ((sOf_ne _ _ (by decide)).trans ((sOf_ne _ _ (by decide)).trans (sOf_eq _ _ _))) ((fup_ne _ _ (by decide)).trans (fup_eq _ _ _))) dX12_readBit_214 ?_
                        refine TT_iconst hK dX12_readBit_217 ?_
                        refine TT_isub hK dX12_readBit_218 ?_
                        refine pf_X12_178 hK (by decide) rfl dX12_readBit_219 ?_
                        refine TT_hp (h' := setO (setO (setO h 73 (fup (fup (fup (fup (h 73) 32 (2 * a1)) 33 (2 * ((inS (h 99) ((h 73) 38) c1 p1).1))) 34 (((inS (h 99) ((h 73) 38) c1 p1).2.1) - 1)) 39 ((inS (h 99) ((h 73) 38) c1 p1).2.2))) 96 s1) 97 l1) (up_can ((sOf_ne _ _ (by decide)).trans ((sOf_ne _ _ (by decide)).trans (sOf_eq _ _ _))) ((fup_comm _ _ _ (by decide)).trans (fup_cg (fup_same _ _ _ _))) ((setO_comm _ _ _ (by decide)).trans (setO_cg ((setO_comm _ _ _ (by decide)).trans (setO_cg (setO_same _ _ _ _) rfl)) rfl))) ?_
                        refine TT_goto hK (tgt := 166) dX12_readBit_222 (by decide) ?_
                        exact ih14 (2 * a1) (2 * ((inS (h 99) ((h 73) 38) c1 p1).1)) (((inS (h 99) ((h 73) 38) c1 p1).2.1) - 1) ((inS (h 99) ((h 73) 38) c1 p1).2.2) s1 l1 b9 R9 (by cases f with | zero => exact absurd (RJ_z hf) (by omega) | succ f => first | exact ⟨f, RJ_next hf (by omega) (by omega) rfl⟩ | exact ⟨f, RJ_in hsrc hf (by omega) (by omega) rfl⟩) (by exact hR) (by first | omega | (simp [up, setR] <;> omega))
                refine TT_sub [5, 6, 0] rfl ?_
                refine TT_hp (h' := setO (setO (setO h 73 (fup (fup (fup (fup (h 73) 32 (((h 73) 32) - (qS (h 96 x)))) 33 (((h 73) 33) - (65536 * (qS (h 96 x))))) 34 ((h 73) 34)) 39 ((h 73) 39))) 96 (lrS (h 96) x (1 = (1 : Int)))) 97 (lrL (h 96) (h 97) x (1 = (1 : Int)))) (setO_cg (setO_cg (setO_cg rfl (by first | exact fup_self3 (by decide) (by decide) (by decide) (by decide) (by decide) (by decide) rfl rfl rfl | exact fup_self2 (by decide) rfl rfl | exact fup_self rfl)) (by first | rfl | exact fsr_0 _ _ _)) (by first | rfl | exact fsr_0 _ _ _)) ?_
                exact L166_14 ((((65536 : Int) - (((h 73) 32) - (qS (h 96 x)))).toNat) + 1) (((h 73) 32) - (qS (h 96 x))) (((h 73) 33) - (65536 * (qS (h 96 x)))) ((h 73) 34) ((h 73) 39) (lrS (h 96) x (1 = (1 : Int))) (lrL (h 96) (h 97) x (1 = (1 : Int))) (1 - ((h 97) x)) (rmS fxM (h 99) (h 73 38) 15 (((h 73) 32) - (qS (h 96 x))) (((h 73) 33) - (65536 * (qS (h 96 x)))) ((h 73) 34) ((h 73) 39)) (by exact ⟨15, RJ_0 (RQ_rd (x := x) (st := h 96) (P := lwM (h 73 33) < qS (h 96 x)) hq ha hs (by first | exact (if_pos (by omega)).symm | exact (if_neg (by omega)).symm))⟩) (by refine rdS_m (by omega) (by first | exact (if_pos (by omega)).symm | exact (if_neg (by omega)).symm) (by first | exact (if_pos (by omega)).symm | exact (if_neg (by omega)).symm) (by omega) (by first | exact (if_pos (by omega)).symm | exact (if_neg (by omega)).symm)) (Nat.lt_succ_self _)
              · exact absurd hb144 (by decide)
          · exact absurd hb98 (by decide)
      · have hb70 := lcmp_ge hb70
        refine TT_aload_n hK rfl 2 rfl dX12_readBit_73 ?_
        refine gf_X12_87 hK (by decide) rfl (q := 97) rfl rfl dX12_readBit_74 ?_
        refine TT_iload_n hK rfl 3 rfl dX12_readBit_77 ?_
        refine TT_iald hK (o := 97) (n := 19) (by decide) rfl (by first | omega | (simp [up, setR] <;> omega)) (by first | omega | (simp [up, setR] <;> omega)) (v := (h 97) x) (rd_ (sOf_ne _ _ (by decide)) rfl) dX12_readBit_78 ?_
        refine TT_iret hK hQ ?_ dX12_readBit_79
        have eT := rdS_1 (lw := lwM) (fx := fxM) (src := h 99) (m := h 73 38) (a := h 73 32) (c := h 73 33) (t := h 73 34) (p := h 73 39) (st := h 96) (lk := h 97) (x := x) (by omega)
        exact ⟨congrArg (fun z => some (vI z)) (by rw [eT]), (setO_new ((sOf_ne _ _ (by decide)).trans (by rw [eT]))).trans (setO_cg ((setO_new ((sOf_ne _ _ (by decide)).trans (by rw [eT]))).trans (setO_cg (setO_cg rfl (by rw [eT]; exact fup_self2 (by decide) rfl rfl)) rfl)) rfl)⟩
  · have hb34 := lcmp_lt hb34
    refine TT_iconst hK dX12_readBit_37 ?_
    refine TT_goto hK (tgt := 42) dX12_readBit_38 (by decide) ?_
    refine TT_istore_n hK rfl (lv' := [(3, vI 1), (2, vI (qS (h 96 x))), (0, vR 73), (1, vI x)]) (by decide) rfl dX12_readBit_42 ?_
    refine TT_iload_n hK rfl 0 rfl dX12_readBit_43 ?_
    refine TT_if_ne hK (tgt := 80) (by decide) dX12_readBit_44 (by decide) (fun hb44 => ?_) (fun hb44 => ?_)
    · refine TT_aload_n hK rfl 2 rfl dX12_readBit_80 ?_
      refine gf_X12_171 hK (by decide) rfl (v := ((h 73) 32) - (qS (h 96 x))) (rd_ (sOf_eq _ _ _) (fup_eq _ _ _)) dX12_readBit_81 ?_
      refine TT_iload_n hK rfl 1 rfl dX12_readBit_84 ?_
      refine TT_i2l hK (irm (by omega) (by omega)) dX12_readBit_85 ?_
      refine TT_lcmp hK (lrm (by omega) (by omega)) (lrm (by omega) (by omega)) dX12_readBit_86 ?_
      refine TT_if_ge hK (tgt := 94) (lcmp_ir _ _) dX12_readBit_87 (by decide) (fun hb87 => ?_) (fun hb87 => ?_)
      · have hb87 := lcmp_ge hb87
        refine TT_iconst hK dX12_readBit_94 ?_
        refine TT_istore hK (lv' := [(4, vI 0), (3, vI 1), (2, vI (qS (h 96 x))), (0, vR 73), (1, vI x)]) (by decide) rfl dX12_readBit_95 ?_
        refine TT_iload_n hK rfl 1 rfl dX12_readBit_97 ?_
        refine TT_if_eq hK (tgt := 114) (by decide) dX12_readBit_98 (by decide) (fun hb98 => ?_) (fun hb98 => ?_)
        · exact absurd hb98 (by decide)
        · refine TT_iload hK 0 rfl dX12_readBit_101 ?_
          refine TT_if_ne hK (tgt := 110) (by decide) dX12_readBit_103 (by decide) (fun hb103 => ?_) (fun hb103 => ?_)
          · exact absurd hb103 (by decide)
          · refine TT_iconst hK dX12_readBit_106 ?_
            refine TT_goto hK (tgt := 116) dX12_readBit_107 (by decide) ?_
            refine TT_istore hK (lv' := [(5, vI 1), (4, vI 0), (3, vI 1), (2, vI (qS (h 96 x))), (0, vR 73), (1, vI x)]) (by decide) rfl dX12_readBit_116 ?_
            refine TT_iload hK 0 rfl dX12_readBit_118 ?_
            refine TT_if_eq hK (tgt := 134) (by decide) dX12_readBit_120 (by decide) (fun hb120 => ?_) (fun hb120 => ?_)
            · exact absurd hb120 (by decide)
            · refine TT_iconst hK dX12_readBit_123 ?_
              refine TT_aload_n hK rfl 4 rfl dX12_readBit_124 ?_
              refine gf_X12_87 hK (by decide) rfl (q := 97) rfl rfl dX12_readBit_125 ?_
              refine TT_iload_n hK rfl 5 rfl dX12_readBit_128 ?_
              refine TT_iald hK (o := 97) (n := 19) (by decide) rfl (by first | omega | (simp [up, setR] <;> omega)) (by first | omega | (simp [up, setR] <;> omega)) (v := (h 97) x) (rd_ (sOf_ne _ _ (by decide)) rfl) dX12_readBit_129 ?_
              refine TT_isub hK dX12_readBit_130 ?_
              refine TT_goto hK (tgt := 140) dX12_readBit_131 (by decide) ?_
              refine TT_istore hK (lv' := [(6, vI (1 - ((h 97) x))), (5, vI 1), (4, vI 0), (3, vI 1), (2, vI (qS (h 96 x))), (0, vR 73), (1, vI x)]) (by decide) rfl dX12_readBit_140 ?_
              refine TT_aload_n hK rfl 5 rfl dX12_readBit_142 ?_
              refine TT_iload_n hK rfl 3 rfl dX12_readBit_143 ?_
              refine TT_if_eq hK (tgt := 152) (by decide) dX12_readBit_144 (by decide) (fun hb144 => ?_) (fun hb144 => ?_)
              · exact absurd hb144 (by decide)
              · refine TT_iload_n hK rfl 4 rfl dX12_readBit_147 ?_
                refine TT_i2l hK (irm (by omega) (by omega)) dX12_readBit_148 ?_
                refine TT_goto hK (tgt := 156) dX12_readBit_149 (by decide) ?_
                refine pf_X12_171 hK (by decide) rfl dX12_readBit_156 ?_
                refine TT_hp (h' := setO h 73 (fup (h 73) 32 (qS (h 96 x)))) (up_can (sOf_eq _ _ _) (fup_same _ _ _ _) (setO_same _ _ _ _)) ?_
                refine TT_aload_n hK rfl 5 rfl dX12_readBit_159 ?_
                refine TT_iload_n hK rfl 6 rfl dX12_readBit_160 ?_
                refine TT_iload hK 1 rfl dX12_readBit_161 ?_
                have q163_75 : (setO h 73 (fup (h 73) 32 (qS (h 96 x)))) 75 = h 75 := sOf_ne _ _ (by decide)
                have q163_96 : (setO h 73 (fup (h 73) 32 (qS (h 96 x)))) 96 = h 96 := sOf_ne _ _ (by decide)
                have q163_97 : (setO h 73 (fup (h 73) 32 (qS (h 96 x)))) 97 = h 97 := sOf_ne _ _ (by decide)
                refine iv_X12_189 hK (c_X12_learn_73 x 1 (setO h 73 (fup (h 73) 32 (qS (h 96 x)))) (by first | omega | (simp [up, setR] <;> omega)) (by decide) (by rw [q163_75]; exact tb2) (by rw [q163_96]; exact hst) (by rw [q163_97]; exact hlk)) (by decide) rfl ⟨by decide, by decide⟩ (by decide) rfl rfl (Nat.le_of_ble_eq_true rfl) ⟨by decide, by decide⟩ dX12_readBit_163 ?_
                intro r9 h9 hp9
                rw [q163_96, q163_97] at hp9
                rw [hp9.1, hp9.2]
                show TT K ly 0 0 166 [(6, vI (1 - ((h 97) x))), (5, vI 1), (4, vI 0), (3, vI 1), (2, vI (qS (h 96 x))), (0, vR 73), (1, vI x)] [] (setO (setO (setO h 73 (fup (h 73) 32 (qS (h 96 x)))) 96 (lrS (h 96) x (1 = (1 : Int)))) 97 (lrL (h 96) (h 97) x (1 = (1 : Int))))
                have L166_23 : ∀ (k23 : Nat) (a1 : Int) (c1 : Int) (t1 : Int) (p1 : Int) (s1 : Int → Int) (l1 : Int → Int) (b9 : Int) (R9 : Int × Int × Int × Int), (∃ f, RJ_ fxM (h 99) (h 73 38) f a1 c1 t1 p1 R9) → ((rdS lwM fxM (h 99) (h 73 38) ((h 73 32), (h 73 33), (h 73 34), (h 73 39), (h 96), (h 97)) x) = (b9, R9.1, R9.2.1, R9.2.2.1, R9.2.2.2, s1, l1)) → ((65536 : Int) - a1).toNat < k23 → TT K ly 0 0 166 [(0, vR 73), (1, vI x), (6, vI b9)] [] (setO (setO (setO h 73 (fup (fup (fup (fup (h 73) 32 a1) 33 c1) 34 t1) 39 p1)) 96 s1) 97 l1) := by
                  intro k23
                  induction k23 with
                  | zero => intro a1 c1 t1 p1 s1 l1 b9 R9 hM hR hk23; exact absurd hk23 (Nat.not_lt_zero _)
                  | succ k23 ih23 =>
                    intro a1 c1 t1 p1 s1 l1 b9 R9 hM hR hk23
                    obtain ⟨f, hf⟩ := hM
                    obtain ⟨m1, m2, m3, m4, m5, m6⟩ := hf.2.2
                    have hM : ∃ f, RJ_ fxM (h 99) (h 73 38) f a1 c1 t1 p1 R9 := ⟨f, hf⟩
                    have hin := inS_r hsrc (c := c1) m5 m6
                    refine TT_aload_n hK rfl 0 rfl dX12_readBit_166 ?_
                    refine gf_X12_171 hK (by decide) rfl (v := a1) (rd_ ((sOf_ne _ _ (by decide)).trans ((sOf_ne _ _ (by decide)).trans (sOf_eq _ _ _))) ((fup_ne _ _ (by decide)).trans ((fup_ne _ _ (by decide)).trans ((fup_ne _ _ (by decide)).trans (fup_eq _ _ _))))) dX12_readBit_167 ?_
                    refine TT_ldc2 hK lc_X12_169 dX12_readBit_170 ?_
                    refine TT_lcmp hK (lrm (by omega) (by omega)) (by decide) dX12_readBit_173 ?_
                    refine TT_if_ge hK (tgt := 225) (lcmp_ir _ _) dX12_readBit_174 (by decide) (fun hb174 => ?_) (fun hb174 => ?_)
                    · have hb174 := lcmp_ge hb174
                      refine TT_iload hK 2 rfl dX12_readBit_225 ?_
                      refine TT_iret hK hQ ?_ dX12_readBit_227
                      have hE := RJ_done hM.choose_spec (by omega)
                      exact ⟨congrArg (fun z => some (vI z)) (by rw [hR]), setO_cg (setO_cg (setO_cg rfl (by rw [hR, ← hE])) (by rw [hR])) (by rw [hR])⟩
                    · have hb174 := lcmp_lt hb174
                      refine TT_aload_n hK rfl 0 rfl dX12_readBit_177 ?_
                      refine gf_X12_178 hK (by decide) rfl (v := t1) (rd_ ((sOf_ne _ _ (by decide)).trans ((sOf_ne _ _ (by decide)).trans (sOf_eq _ _ _))) ((fup_ne _ _ (by decide)).trans (fup_eq _ _ _))) dX12_readBit_178 ?_
                      refine TT_if_ne hK (tgt := 188) (irm (by omega) (by omega)) dX12_readBit_181 (by decide) (fun hb181 => ?_) (fun hb181 => ?_)
                      · refine TT_aload_n hK rfl 0 rfl dX12_readBit_188 ?_
                        refine TT_ldc2 hK lc_X12_193 dX12_readBit_189 ?_
                        refine TT_aload_n hK rfl 0 rfl dX12_readBit_192 ?_
                        refine gf_X12_171 hK (by decide) rfl (v := a1) (rd_ ((sOf_ne _ _ (by decide)).trans ((sOf_ne _ _ (by decide)).trans (sOf_eq _ _ _))) ((fup_ne _ _ (by decide)).trans ((fup_ne _ _ (by decide)).trans ((fup_ne _ _ (by decide)).trans (fup_eq _ _ _))))) dX12_readBit_193 ?_
                        refine TT_lmul hK dX12_readBit_196 ?_
                        refine pf_X12_171 hK (by decide) rfl dX12_readBit_197 ?_
                        refine TT_hp (h' := setO (setO (setO h 73 (fup (fup (fup (fup (h 73) 32 (2 * a1)) 33 c1) 34 t1) 39 p1)) 96 s1) 97 l1) (up_can ((sOf_ne _ _ (by decide)).trans ((sOf_ne _ _ (by decide)).trans (sOf_eq _ _ _))) ((fup_comm _ _ _ (by decide)).trans (fup_cg ((fup_comm _ _ _ (by decide)).trans (fup_cg ((fup_comm _ _ _ (by decide)).trans (fup_cg (fup_same _ _ _ _))))))) ((setO_comm _ _ _ (by decide)).trans (setO_cg ((setO_comm _ _ _ (by decide)).trans (setO_cg (setO_same _ _ _ _) rfl)) rfl))) ?_
                        refine TT_aload_n hK rfl 0 rfl dX12_readBit_200 ?_
                        refine TT_ldc2 hK lc_X12_193 dX12_readBit_201 ?_
                        refine TT_aload_n hK rfl 0 rfl dX12_readBit_204 ?_
                        refine gf_X12_175 hK (by decide) rfl (v := c1) (rd_ ((sOf_ne _ _ (by decide)).trans ((sOf_ne _ _ (by decide)).trans (sOf_eq _ _ _))) ((fup_ne _ _ (by decide)).trans ((fup_ne _ _ (by decide)).trans (fup_eq _ _ _)))) dX12_readBit_205 ?_
                        refine TT_lmul hK dX12_readBit_208 ?_
                        refine pf_X12_175 hK (by decide) rfl dX12_readBit_209 ?_
                        refine TT_hp (h' := setO (setO (setO h 73 (fup (fup (fup (fup (h 73) 32 (2 * a1)) 33 (2 * c1)) 34 t1) 39 p1)) 96 s1) 97 l1) (up_can ((sOf_ne _ _ (by decide)).trans ((sOf_ne _ _ (by decide)).trans (sOf_eq _ _ _))) ((fup_comm _ _ _ (by decide)).trans (fup_cg ((fup_comm _ _ _ (by decide)).trans (fup_cg (fup_same _ _ _ _))))) ((setO_comm _ _ _ (by decide)).trans (setO_cg ((setO_comm _ _ _ (by decide)).trans (setO_cg (setO_same _ _ _ _) rfl)) rfl))) ?_
                        refine TT_aload_n hK rfl 0 rfl dX12_readBit_212 ?_
                        refine TT_dup hK rfl dX12_readBit_213 ?_
                        refine gf_X12_178 hK (by decide) rfl (v := t1) (rd_ ((sOf_ne _ _ (by decide)).trans ((sOf_ne _ _ (by decide)).trans (sOf_eq _ _ _))) ((fup_ne _ _ (by decide)).trans (fup_eq _ _ _))) dX12_readBit_214 ?_
                        refine TT_iconst hK dX12_readBit_217 ?_
                        refine TT_isub hK dX12_readBit_218 ?_
                        refine pf_X12_178 hK (by decide) rfl dX12_readBit_219 ?_
                        refine TT_hp (h' := setO (setO (setO h 73 (fup (fup (fup (fup (h 73) 32 (2 * a1)) 33 (2 * c1)) 34 (t1 - 1)) 39 p1)) 96 s1) 97 l1) (up_can ((sOf_ne _ _ (by decide)).trans ((sOf_ne _ _ (by decide)).trans (sOf_eq _ _ _))) ((fup_comm _ _ _ (by decide)).trans (fup_cg (fup_same _ _ _ _))) ((setO_comm _ _ _ (by decide)).trans (setO_cg ((setO_comm _ _ _ (by decide)).trans (setO_cg (setO_same _ _ _ _) rfl)) rfl))) ?_
                        refine TT_goto hK (tgt := 166) dX12_readBit_222 (by decide) ?_
                        exact ih23 (2 * a1) (2 * c1) (t1 - 1) p1 s1 l1 b9 R9 (by cases f with | zero => exact absurd (RJ_z hf) (by omega) | succ f => first | exact ⟨f, RJ_next hf (by omega) (by omega) rfl⟩ | exact ⟨f, RJ_in hsrc hf (by omega) (by omega) rfl⟩) (by exact hR) (by first | omega | (simp [up, setR] <;> omega))
                      · refine TT_aload_n hK rfl 0 rfl dX12_readBit_184 ?_
                        have q185_73_33 : (setO (setO (setO h 73 (fup (fup (fup (fup (h 73) 32 a1) 33 c1) 34 t1) 39 p1)) 96 s1) 97 l1) 73 33 = c1 := rd_ ((sOf_ne _ _ (by decide)).trans ((sOf_ne _ _ (by decide)).trans (sOf_eq _ _ _))) ((fup_ne _ _ (by decide)).trans ((fup_ne _ _ (by decide)).trans (fup_eq _ _ _)))
                        have q185_73_38 : (setO (setO (setO h 73 (fup (fup (fup (fup (h 73) 32 a1) 33 c1) 34 t1) 39 p1)) 96 s1) 97 l1) 73 38 = (h 73) 38 := rd_ ((sOf_ne _ _ (by decide)).trans ((sOf_ne _ _ (by decide)).trans (sOf_eq _ _ _))) ((fup_ne _ _ (by decide)).trans ((fup_ne _ _ (by decide)).trans ((fup_ne _ _ (by decide)).trans (fup_ne _ _ (by decide)))))
                        have q185_73_39 : (setO (setO (setO h 73 (fup (fup (fup (fup (h 73) 32 a1) 33 c1) 34 t1) 39 p1)) 96 s1) 97 l1) 73 39 = p1 := rd_ ((sOf_ne _ _ (by decide)).trans ((sOf_ne _ _ (by decide)).trans (sOf_eq _ _ _))) (fup_eq _ _ _)
                        have q185_73 : (setO (setO (setO h 73 (fup (fup (fup (fup (h 73) 32 a1) 33 c1) 34 t1) 39 p1)) 96 s1) 97 l1) 73 = fup (fup (fup (fup (h 73) 32 a1) 33 c1) 34 t1) 39 p1 := (sOf_ne _ _ (by decide)).trans ((sOf_ne _ _ (by decide)).trans (sOf_eq _ _ _))
                        have q185_99 : (setO (setO (setO h 73 (fup (fup (fup (fup (h 73) 32 a1) 33 c1) 34 t1) 39 p1)) 96 s1) 97 l1) 99 = h 99 := (sOf_ne _ _ (by decide)).trans ((sOf_ne _ _ (by decide)).trans (sOf_ne _ _ (by decide)))
                        refine iv_X12_216 hK (c_X12_takeIn_73 (setO (setO (setO h 73 (fup (fup (fup (fup (h 73) 32 a1) 33 c1) 34 t1) 39 p1)) 96 s1) 97 l1) (by rw [q185_73_38, q185_99]; exact hsrc) (by rw [q185_73_38]; first | omega | (simp [up, setR] <;> omega)) (by rw [q185_73_38, q185_73_39]; first | omega | (simp [up, setR] <;> omega))) (by decide) rfl ⟨by decide, by decide⟩ (by decide) rfl rfl (Nat.le_of_ble_eq_true rfl) ⟨by decide, by decide⟩ dX12_readBit_185 ?_
                        intro r9 h9 hp9
                        rw [q185_73_33, q185_73_38, q185_73_39, q185_73, q185_99] at hp9
                        rw [hp9.1, hp9.2]
                        refine TT_hp (h' := setO (setO (setO h 73 (fup (fup (fup (fup (h 73) 32 a1) 33 ((inS (h 99) ((h 73) 38) c1 p1).1)) 34 ((inS (h 99) ((h 73) 38) c1 p1).2.1)) 39 ((inS (h 99) ((h 73) 38) c1 p1).2.2))) 96 s1) 97 l1) ((setO_cg rfl ((fup_cg ((fup_cg ((fup_comm _ _ _ (by decide)).trans (fup_cg ((fup_comm _ _ _ (by decide)).trans (fup_cg (fup_same _ _ _ _)))))).trans ((fup_comm _ _ _ (by decide)).trans (fup_cg (fup_same _ _ _ _))))).trans (fup_same _ _ _ _))).trans ((setO_comm _ _ _ (by decide)).trans (setO_cg ((setO_comm _ _ _ (by decide)).trans (setO_cg (setO_same _ _ _ _) rfl)) rfl))) ?_
                        show TT K ly 0 0 188 [(0, vR 73), (1, vI x), (6, vI b9)] [] (setO (setO (setO h 73 (fup (fup (fup (fup (h 73) 32 a1) 33 ((inS (h 99) ((h 73) 38) c1 p1).1)) 34 ((inS (h 99) ((h 73) 38) c1 p1).2.1)) 39 ((inS (h 99) ((h 73) 38) c1 p1).2.2))) 96 s1) 97 l1)
                        refine TT_aload_n hK rfl 0 rfl dX12_readBit_188 ?_
                        refine TT_ldc2 hK lc_X12_193 dX12_readBit_189 ?_
                        refine TT_aload_n hK rfl 0 rfl dX12_readBit_192 ?_
                        refine gf_X12_171 hK (by decide) rfl (v := a1) (rd_ ((sOf_ne _ _ (by decide)).trans ((sOf_ne _ _ (by decide)).trans (sOf_eq _ _ _))) ((fup_ne _ _ (by decide)).trans ((fup_ne _ _ (by decide)).trans ((fup_ne _ _ (by decide)).trans (fup_eq _ _ _))))) dX12_readBit_193 ?_
                        refine TT_lmul hK dX12_readBit_196 ?_
                        refine pf_X12_171 hK (by decide) rfl dX12_readBit_197 ?_
                        refine TT_hp (h' := setO (setO (setO h 73 (fup (fup (fup (fup (h 73) 32 (2 * a1)) 33 ((inS (h 99) ((h 73) 38) c1 p1).1)) 34 ((inS (h 99) ((h 73) 38) c1 p1).2.1)) 39 ((inS (h 99) ((h 73) 38) c1 p1).2.2))) 96 s1) 97 l1) (up_can ((sOf_ne _ _ (by decide)).trans ((sOf_ne _ _ (by decide)).trans (sOf_eq _ _ _))) ((fup_comm _ _ _ (by decide)).trans (fup_cg ((fup_comm _ _ _ (by decide)).trans (fup_cg ((fup_comm _ _ _ (by decide)).trans (fup_cg (fup_same _ _ _ _))))))) ((setO_comm _ _ _ (by decide)).trans (setO_cg ((setO_comm _ _ _ (by decide)).trans (setO_cg (setO_same _ _ _ _) rfl)) rfl))) ?_
                        refine TT_aload_n hK rfl 0 rfl dX12_readBit_200 ?_
                        refine TT_ldc2 hK lc_X12_193 dX12_readBit_201 ?_
                        refine TT_aload_n hK rfl 0 rfl dX12_readBit_204 ?_
                        refine gf_X12_175 hK (by decide) rfl (v := (inS (h 99) ((h 73) 38) c1 p1).1) (rd_ ((sOf_ne _ _ (by decide)).trans ((sOf_ne _ _ (by decide)).trans (sOf_eq _ _ _))) ((fup_ne _ _ (by decide)).trans ((fup_ne _ _ (by decide)).trans (fup_eq _ _ _)))) dX12_readBit_205 ?_
                        refine TT_lmul hK dX12_readBit_208 ?_
                        refine pf_X12_175 hK (by decide) rfl dX12_readBit_209 ?_
                        refine TT_hp (h' := setO (setO (setO h 73 (fup (fup (fup (fup (h 73) 32 (2 * a1)) 33 (2 * ((inS (h 99) ((h 73) 38) c1 p1).1))) 34 ((inS (h 99) ((h 73) 38) c1 p1).2.1)) 39 ((inS (h 99) ((h 73) 38) c1 p1).2.2))) 96 s1) 97 l1) (up_can ((sOf_ne _ _ (by decide)).trans ((sOf_ne _ _ (by decide)).trans (sOf_eq _ _ _))) ((fup_comm _ _ _ (by decide)).trans (fup_cg ((fup_comm _ _ _ (by decide)).trans (fup_cg (fup_same _ _ _ _))))) ((setO_comm _ _ _ (by decide)).trans (setO_cg ((setO_comm _ _ _ (by decide)).trans (setO_cg (setO_same _ _ _ _) rfl)) rfl))) ?_
                        refine TT_aload_n hK rfl 0 rfl dX12_readBit_212 ?_
                        refine TT_dup hK rfl dX12_readBit_213 ?_
                        refine gf_X12_178 hK (by decide) rfl (v := (inS (h 99) ((h 73) 38) c1 p1).2.1) (rd_ ((sOf_ne _ _ (by decide)).trans ((sOf_ne _ _ (by decide)).trans (sOf_eq _ _ _))) ((fup_ne _ _ (by decide)).trans (fup_eq _ _ _))) dX12_readBit_214 ?_
                        refine TT_iconst hK dX12_readBit_217 ?_
                        refine TT_isub hK dX12_readBit_218 ?_
                        refine pf_X12_178 hK (by decide) rfl dX12_readBit_219 ?_
                        refine TT_hp (h' := setO (setO (setO h 73 (fup (fup (fup (fup (h 73) 32 (2 * a1)) 33 (2 * ((inS (h 99) ((h 73) 38) c1 p1).1))) 34 (((inS (h 99) ((h 73) 38) c1 p1).2.1) - 1)) 39 ((inS (h 99) ((h 73) 38) c1 p1).2.2))) 96 s1) 97 l1) (up_can ((sOf_ne _ _ (by decide)).trans ((sOf_ne _ _ (by decide)).trans (sOf_eq _ _ _))) ((fup_comm _ _ _ (by decide)).trans (fup_cg (fup_same _ _ _ _))) ((setO_comm _ _ _ (by decide)).trans (setO_cg ((setO_comm _ _ _ (by decide)).trans (setO_cg (setO_same _ _ _ _) rfl)) rfl))) ?_
                        refine TT_goto hK (tgt := 166) dX12_readBit_222 (by decide) ?_
                        exact ih23 (2 * a1) (2 * ((inS (h 99) ((h 73) 38) c1 p1).1)) (((inS (h 99) ((h 73) 38) c1 p1).2.1) - 1) ((inS (h 99) ((h 73) 38) c1 p1).2.2) s1 l1 b9 R9 (by cases f with | zero => exact absurd (RJ_z hf) (by omega) | succ f => first | exact ⟨f, RJ_next hf (by omega) (by omega) rfl⟩ | exact ⟨f, RJ_in hsrc hf (by omega) (by omega) rfl⟩) (by exact hR) (by first | omega | (simp [up, setR] <;> omega))
                refine TT_sub [5, 6, 0] rfl ?_
                refine TT_hp (h' := setO (setO (setO h 73 (fup (fup (fup (fup (h 73) 32 (qS (h 96 x))) 33 ((h 73) 33)) 34 ((h 73) 34)) 39 ((h 73) 39))) 96 (lrS (h 96) x (1 = (1 : Int)))) 97 (lrL (h 96) (h 97) x (1 = (1 : Int)))) (setO_cg (setO_cg (setO_cg rfl (by first | exact fup_self3 (by decide) (by decide) (by decide) (by decide) (by decide) (by decide) rfl rfl rfl | exact fup_self2 (by decide) rfl rfl | exact fup_self rfl)) (by first | rfl | exact fsr_0 _ _ _)) (by first | rfl | exact fsr_0 _ _ _)) ?_
                exact L166_23 ((((65536 : Int) - (qS (h 96 x))).toNat) + 1) (qS (h 96 x)) ((h 73) 33) ((h 73) 34) ((h 73) 39) (lrS (h 96) x (1 = (1 : Int))) (lrL (h 96) (h 97) x (1 = (1 : Int))) (1 - ((h 97) x)) (rmS fxM (h 99) (h 73 38) 15 (qS (h 96 x)) ((h 73) 33) ((h 73) 34) ((h 73) 39)) (by exact ⟨15, RJ_0 (RQ_rd (x := x) (st := h 96) (P := lwM (h 73 33) < qS (h 96 x)) hq ha hs (by first | exact (if_pos (by omega)).symm | exact (if_neg (by omega)).symm))⟩) (by refine rdS_m (by omega) (by first | exact (if_pos (by omega)).symm | exact (if_neg (by omega)).symm) (by first | exact (if_pos (by omega)).symm | exact (if_neg (by omega)).symm) (by omega) (by first | exact (if_pos (by omega)).symm | exact (if_neg (by omega)).symm)) (Nat.lt_succ_self _)
      · have hb87 := lcmp_lt hb87
        refine TT_iconst hK dX12_readBit_90 ?_
        refine TT_goto hK (tgt := 95) dX12_readBit_91 (by decide) ?_
        refine TT_istore hK (lv' := [(4, vI 1), (3, vI 1), (2, vI (qS (h 96 x))), (0, vR 73), (1, vI x)]) (by decide) rfl dX12_readBit_95 ?_
        refine TT_iload_n hK rfl 1 rfl dX12_readBit_97 ?_
        refine TT_if_eq hK (tgt := 114) (by decide) dX12_readBit_98 (by decide) (fun hb98 => ?_) (fun hb98 => ?_)
        · exact absurd hb98 (by decide)
        · refine TT_iload hK 0 rfl dX12_readBit_101 ?_
          refine TT_if_ne hK (tgt := 110) (by decide) dX12_readBit_103 (by decide) (fun hb103 => ?_) (fun hb103 => ?_)
          · refine TT_iconst hK dX12_readBit_110 ?_
            refine TT_goto hK (tgt := 116) dX12_readBit_111 (by decide) ?_
            refine TT_istore hK (lv' := [(5, vI 0), (4, vI 1), (3, vI 1), (2, vI (qS (h 96 x))), (0, vR 73), (1, vI x)]) (by decide) rfl dX12_readBit_116 ?_
            refine TT_iload hK 0 rfl dX12_readBit_118 ?_
            refine TT_if_eq hK (tgt := 134) (by decide) dX12_readBit_120 (by decide) (fun hb120 => ?_) (fun hb120 => ?_)
            · refine TT_aload_n hK rfl 4 rfl dX12_readBit_134 ?_
              refine gf_X12_87 hK (by decide) rfl (q := 97) rfl rfl dX12_readBit_135 ?_
              refine TT_iload_n hK rfl 5 rfl dX12_readBit_138 ?_
              refine TT_iald hK (o := 97) (n := 19) (by decide) rfl (by first | omega | (simp [up, setR] <;> omega)) (by first | omega | (simp [up, setR] <;> omega)) (v := (h 97) x) (rd_ (sOf_ne _ _ (by decide)) rfl) dX12_readBit_139 ?_
              refine TT_istore hK (lv' := [(6, vI ((h 97) x)), (5, vI 0), (4, vI 1), (3, vI 1), (2, vI (qS (h 96 x))), (0, vR 73), (1, vI x)]) (by decide) rfl dX12_readBit_140 ?_
              refine TT_aload_n hK rfl 5 rfl dX12_readBit_142 ?_
              refine TT_iload_n hK rfl 3 rfl dX12_readBit_143 ?_
              refine TT_if_eq hK (tgt := 152) (by decide) dX12_readBit_144 (by decide) (fun hb144 => ?_) (fun hb144 => ?_)
              · exact absurd hb144 (by decide)
              · refine TT_iload_n hK rfl 4 rfl dX12_readBit_147 ?_
                refine TT_i2l hK (irm (by omega) (by omega)) dX12_readBit_148 ?_
                refine TT_goto hK (tgt := 156) dX12_readBit_149 (by decide) ?_
                refine pf_X12_171 hK (by decide) rfl dX12_readBit_156 ?_
                refine TT_hp (h' := setO h 73 (fup (h 73) 32 (qS (h 96 x)))) (up_can (sOf_eq _ _ _) (fup_same _ _ _ _) (setO_same _ _ _ _)) ?_
                refine TT_aload_n hK rfl 5 rfl dX12_readBit_159 ?_
                refine TT_iload_n hK rfl 6 rfl dX12_readBit_160 ?_
                refine TT_iload hK 1 rfl dX12_readBit_161 ?_
                have q163_75 : (setO h 73 (fup (h 73) 32 (qS (h 96 x)))) 75 = h 75 := sOf_ne _ _ (by decide)
                have q163_96 : (setO h 73 (fup (h 73) 32 (qS (h 96 x)))) 96 = h 96 := sOf_ne _ _ (by decide)
                have q163_97 : (setO h 73 (fup (h 73) 32 (qS (h 96 x)))) 97 = h 97 := sOf_ne _ _ (by decide)
                refine iv_X12_189 hK (c_X12_learn_73 x 0 (setO h 73 (fup (h 73) 32 (qS (h 96 x)))) (by first | omega | (simp [up, setR] <;> omega)) (by decide) (by rw [q163_75]; exact tb2) (by rw [q163_96]; exact hst) (by rw [q163_97]; exact hlk)) (by decide) rfl ⟨by decide, by decide⟩ (by decide) rfl rfl (Nat.le_of_ble_eq_true rfl) ⟨by decide, by decide⟩ dX12_readBit_163 ?_
                intro r9 h9 hp9
                rw [q163_96, q163_97] at hp9
                rw [hp9.1, hp9.2]
                show TT K ly 0 0 166 [(6, vI ((h 97) x)), (5, vI 0), (4, vI 1), (3, vI 1), (2, vI (qS (h 96 x))), (0, vR 73), (1, vI x)] [] (setO (setO (setO h 73 (fup (h 73) 32 (qS (h 96 x)))) 96 (lrS (h 96) x (0 = (1 : Int)))) 97 (lrL (h 96) (h 97) x (0 = (1 : Int))))
                have L166_30 : ∀ (k30 : Nat) (a1 : Int) (c1 : Int) (t1 : Int) (p1 : Int) (s1 : Int → Int) (l1 : Int → Int) (b9 : Int) (R9 : Int × Int × Int × Int), (∃ f, RJ_ fxM (h 99) (h 73 38) f a1 c1 t1 p1 R9) → ((rdS lwM fxM (h 99) (h 73 38) ((h 73 32), (h 73 33), (h 73 34), (h 73 39), (h 96), (h 97)) x) = (b9, R9.1, R9.2.1, R9.2.2.1, R9.2.2.2, s1, l1)) → ((65536 : Int) - a1).toNat < k30 → TT K ly 0 0 166 [(0, vR 73), (1, vI x), (6, vI b9)] [] (setO (setO (setO h 73 (fup (fup (fup (fup (h 73) 32 a1) 33 c1) 34 t1) 39 p1)) 96 s1) 97 l1) := by
                  intro k30
                  induction k30 with
                  | zero => intro a1 c1 t1 p1 s1 l1 b9 R9 hM hR hk30; exact absurd hk30 (Nat.not_lt_zero _)
                  | succ k30 ih30 =>
                    intro a1 c1 t1 p1 s1 l1 b9 R9 hM hR hk30
                    obtain ⟨f, hf⟩ := hM
                    obtain ⟨m1, m2, m3, m4, m5, m6⟩ := hf.2.2
                    have hM : ∃ f, RJ_ fxM (h 99) (h 73 38) f a1 c1 t1 p1 R9 := ⟨f, hf⟩
                    have hin := inS_r hsrc (c := c1) m5 m6
                    refine TT_aload_n hK rfl 0 rfl dX12_readBit_166 ?_
                    refine gf_X12_171 hK (by decide) rfl (v := a1) (rd_ ((sOf_ne _ _ (by decide)).trans ((sOf_ne _ _ (by decide)).trans (sOf_eq _ _ _))) ((fup_ne _ _ (by decide)).trans ((fup_ne _ _ (by decide)).trans ((fup_ne _ _ (by decide)).trans (fup_eq _ _ _))))) dX12_readBit_167 ?_
                    refine TT_ldc2 hK lc_X12_169 dX12_readBit_170 ?_
                    refine TT_lcmp hK (lrm (by omega) (by omega)) (by decide) dX12_readBit_173 ?_
                    refine TT_if_ge hK (tgt := 225) (lcmp_ir _ _) dX12_readBit_174 (by decide) (fun hb174 => ?_) (fun hb174 => ?_)
                    · have hb174 := lcmp_ge hb174
                      refine TT_iload hK 2 rfl dX12_readBit_225 ?_
                      refine TT_iret hK hQ ?_ dX12_readBit_227
                      have hE := RJ_done hM.choose_spec (by omega)
                      exact ⟨congrArg (fun z => some (vI z)) (by rw [hR]), setO_cg (setO_cg (setO_cg rfl (by rw [hR, ← hE])) (by rw [hR])) (by rw [hR])⟩
                    · have hb174 := lcmp_lt hb174
                      refine TT_aload_n hK rfl 0 rfl dX12_readBit_177 ?_
                      refine gf_X12_178 hK (by decide) rfl (v := t1) (rd_ ((sOf_ne _ _ (by decide)).trans ((sOf_ne _ _ (by decide)).trans (sOf_eq _ _ _))) ((fup_ne _ _ (by decide)).trans (fup_eq _ _ _))) dX12_readBit_178 ?_
                      refine TT_if_ne hK (tgt := 188) (irm (by omega) (by omega)) dX12_readBit_181 (by decide) (fun hb181 => ?_) (fun hb181 => ?_)
                      · refine TT_aload_n hK rfl 0 rfl dX12_readBit_188 ?_
                        refine TT_ldc2 hK lc_X12_193 dX12_readBit_189 ?_
                        refine TT_aload_n hK rfl 0 rfl dX12_readBit_192 ?_
                        refine gf_X12_171 hK (by decide) rfl (v := a1) (rd_ ((sOf_ne _ _ (by decide)).trans ((sOf_ne _ _ (by decide)).trans (sOf_eq _ _ _))) ((fup_ne _ _ (by decide)).trans ((fup_ne _ _ (by decide)).trans ((fup_ne _ _ (by decide)).trans (fup_eq _ _ _))))) dX12_readBit_193 ?_
                        refine TT_lmul hK dX12_readBit_196 ?_
                        refine pf_X12_171 hK (by decide) rfl dX12_readBit_197 ?_
                        refine TT_hp (h' := setO (setO (setO h 73 (fup (fup (fup (fup (h 73) 32 (2 * a1)) 33 c1) 34 t1) 39 p1)) 96 s1) 97 l1) (up_can ((sOf_ne _ _ (by decide)).trans ((sOf_ne _ _ (by decide)).trans (sOf_eq _ _ _))) ((fup_comm _ _ _ (by decide)).trans (fup_cg ((fup_comm _ _ _ (by decide)).trans (fup_cg ((fup_comm _ _ _ (by decide)).trans (fup_cg (fup_same _ _ _ _))))))) ((setO_comm _ _ _ (by decide)).trans (setO_cg ((setO_comm _ _ _ (by decide)).trans (setO_cg (setO_same _ _ _ _) rfl)) rfl))) ?_
                        refine TT_aload_n hK rfl 0 rfl dX12_readBit_200 ?_
                        refine TT_ldc2 hK lc_X12_193 dX12_readBit_201 ?_
                        refine TT_aload_n hK rfl 0 rfl dX12_readBit_204 ?_
                        refine gf_X12_175 hK (by decide) rfl (v := c1) (rd_ ((sOf_ne _ _ (by decide)).trans ((sOf_ne _ _ (by decide)).trans (sOf_eq _ _ _))) ((fup_ne _ _ (by decide)).trans ((fup_ne _ _ (by decide)).trans (fup_eq _ _ _)))) dX12_readBit_205 ?_
                        refine TT_lmul hK dX12_readBit_208 ?_
                        refine pf_X12_175 hK (by decide) rfl dX12_readBit_209 ?_
                        refine TT_hp (h' := setO (setO (setO h 73 (fup (fup (fup (fup (h 73) 32 (2 * a1)) 33 (2 * c1)) 34 t1) 39 p1)) 96 s1) 97 l1) (up_can ((sOf_ne _ _ (by decide)).trans ((sOf_ne _ _ (by decide)).trans (sOf_eq _ _ _))) ((fup_comm _ _ _ (by decide)).trans (fup_cg ((fup_comm _ _ _ (by decide)).trans (fup_cg (fup_same _ _ _ _))))) ((setO_comm _ _ _ (by decide)).trans (setO_cg ((setO_comm _ _ _ (by decide)).trans (setO_cg (setO_same _ _ _ _) rfl)) rfl))) ?_
                        refine TT_aload_n hK rfl 0 rfl dX12_readBit_212 ?_
                        refine TT_dup hK rfl dX12_readBit_213 ?_
                        refine gf_X12_178 hK (by decide) rfl (v := t1) (rd_ ((sOf_ne _ _ (by decide)).trans ((sOf_ne _ _ (by decide)).trans (sOf_eq _ _ _))) ((fup_ne _ _ (by decide)).trans (fup_eq _ _ _))) dX12_readBit_214 ?_
                        refine TT_iconst hK dX12_readBit_217 ?_
                        refine TT_isub hK dX12_readBit_218 ?_
                        refine pf_X12_178 hK (by decide) rfl dX12_readBit_219 ?_
                        refine TT_hp (h' := setO (setO (setO h 73 (fup (fup (fup (fup (h 73) 32 (2 * a1)) 33 (2 * c1)) 34 (t1 - 1)) 39 p1)) 96 s1) 97 l1) (up_can ((sOf_ne _ _ (by decide)).trans ((sOf_ne _ _ (by decide)).trans (sOf_eq _ _ _))) ((fup_comm _ _ _ (by decide)).trans (fup_cg (fup_same _ _ _ _))) ((setO_comm _ _ _ (by decide)).trans (setO_cg ((setO_comm _ _ _ (by decide)).trans (setO_cg (setO_same _ _ _ _) rfl)) rfl))) ?_
                        refine TT_goto hK (tgt := 166) dX12_readBit_222 (by decide) ?_
                        exact ih30 (2 * a1) (2 * c1) (t1 - 1) p1 s1 l1 b9 R9 (by cases f with | zero => exact absurd (RJ_z hf) (by omega) | succ f => first | exact ⟨f, RJ_next hf (by omega) (by omega) rfl⟩ | exact ⟨f, RJ_in hsrc hf (by omega) (by omega) rfl⟩) (by exact hR) (by first | omega | (simp [up, setR] <;> omega))
                      · refine TT_aload_n hK rfl 0 rfl dX12_readBit_184 ?_
                        have q185_73_33 : (setO (setO (setO h 73 (fup (fup (fup (fup (h 73) 32 a1) 33 c1) 34 t1) 39 p1)) 96 s1) 97 l1) 73 33 = c1 := rd_ ((sOf_ne _ _ (by decide)).trans ((sOf_ne _ _ (by decide)).trans (sOf_eq _ _ _))) ((fup_ne _ _ (by decide)).trans ((fup_ne _ _ (by decide)).trans (fup_eq _ _ _)))
                        have q185_73_38 : (setO (setO (setO h 73 (fup (fup (fup (fup (h 73) 32 a1) 33 c1) 34 t1) 39 p1)) 96 s1) 97 l1) 73 38 = (h 73) 38 := rd_ ((sOf_ne _ _ (by decide)).trans ((sOf_ne _ _ (by decide)).trans (sOf_eq _ _ _))) ((fup_ne _ _ (by decide)).trans ((fup_ne _ _ (by decide)).trans ((fup_ne _ _ (by decide)).trans (fup_ne _ _ (by decide)))))
                        have q185_73_39 : (setO (setO (setO h 73 (fup (fup (fup (fup (h 73) 32 a1) 33 c1) 34 t1) 39 p1)) 96 s1) 97 l1) 73 39 = p1 := rd_ ((sOf_ne _ _ (by decide)).trans ((sOf_ne _ _ (by decide)).trans (sOf_eq _ _ _))) (fup_eq _ _ _)
                        have q185_73 : (setO (setO (setO h 73 (fup (fup (fup (fup (h 73) 32 a1) 33 c1) 34 t1) 39 p1)) 96 s1) 97 l1) 73 = fup (fup (fup (fup (h 73) 32 a1) 33 c1) 34 t1) 39 p1 := (sOf_ne _ _ (by decide)).trans ((sOf_ne _ _ (by decide)).trans (sOf_eq _ _ _))
                        have q185_99 : (setO (setO (setO h 73 (fup (fup (fup (fup (h 73) 32 a1) 33 c1) 34 t1) 39 p1)) 96 s1) 97 l1) 99 = h 99 := (sOf_ne _ _ (by decide)).trans ((sOf_ne _ _ (by decide)).trans (sOf_ne _ _ (by decide)))
                        refine iv_X12_216 hK (c_X12_takeIn_73 (setO (setO (setO h 73 (fup (fup (fup (fup (h 73) 32 a1) 33 c1) 34 t1) 39 p1)) 96 s1) 97 l1) (by rw [q185_73_38, q185_99]; exact hsrc) (by rw [q185_73_38]; first | omega | (simp [up, setR] <;> omega)) (by rw [q185_73_38, q185_73_39]; first | omega | (simp [up, setR] <;> omega))) (by decide) rfl ⟨by decide, by decide⟩ (by decide) rfl rfl (Nat.le_of_ble_eq_true rfl) ⟨by decide, by decide⟩ dX12_readBit_185 ?_
                        intro r9 h9 hp9
                        rw [q185_73_33, q185_73_38, q185_73_39, q185_73, q185_99] at hp9
                        rw [hp9.1, hp9.2]
                        refine TT_hp (h' := setO (setO (setO h 73 (fup (fup (fup (fup (h 73) 32 a1) 33 ((inS (h 99) ((h 73) 38) c1 p1).1)) 34 ((inS (h 99) ((h 73) 38) c1 p1).2.1)) 39 ((inS (h 99) ((h 73) 38) c1 p1).2.2))) 96 s1) 97 l1) ((setO_cg rfl ((fup_cg ((fup_cg ((fup_comm _ _ _ (by decide)).trans (fup_cg ((fup_comm _ _ _ (by decide)).trans (fup_cg (fup_same _ _ _ _)))))).trans ((fup_comm _ _ _ (by decide)).trans (fup_cg (fup_same _ _ _ _))))).trans (fup_same _ _ _ _))).trans ((setO_comm _ _ _ (by decide)).trans (setO_cg ((setO_comm _ _ _ (by decide)).trans (setO_cg (setO_same _ _ _ _) rfl)) rfl))) ?_
                        show TT K ly 0 0 188 [(0, vR 73), (1, vI x), (6, vI b9)] [] (setO (setO (setO h 73 (fup (fup (fup (fup (h 73) 32 a1) 33 ((inS (h 99) ((h 73) 38) c1 p1).1)) 34 ((inS (h 99) ((h 73) 38) c1 p1).2.1)) 39 ((inS (h 99) ((h 73) 38) c1 p1).2.2))) 96 s1) 97 l1)
                        refine TT_aload_n hK rfl 0 rfl dX12_readBit_188 ?_
                        refine TT_ldc2 hK lc_X12_193 dX12_readBit_189 ?_
                        refine TT_aload_n hK rfl 0 rfl dX12_readBit_192 ?_
                        refine gf_X12_171 hK (by decide) rfl (v := a1) (rd_ ((sOf_ne _ _ (by decide)).trans ((sOf_ne _ _ (by decide)).trans (sOf_eq _ _ _))) ((fup_ne _ _ (by decide)).trans ((fup_ne _ _ (by decide)).trans ((fup_ne _ _ (by decide)).trans (fup_eq _ _ _))))) dX12_readBit_193 ?_
                        refine TT_lmul hK dX12_readBit_196 ?_
                        refine pf_X12_171 hK (by decide) rfl dX12_readBit_197 ?_
                        refine TT_hp (h' := setO (setO (setO h 73 (fup (fup (fup (fup (h 73) 32 (2 * a1)) 33 ((inS (h 99) ((h 73) 38) c1 p1).1)) 34 ((inS (h 99) ((h 73) 38) c1 p1).2.1)) 39 ((inS (h 99) ((h 73) 38) c1 p1).2.2))) 96 s1) 97 l1) (up_can ((sOf_ne _ _ (by decide)).trans ((sOf_ne _ _ (by decide)).trans (sOf_eq _ _ _))) ((fup_comm _ _ _ (by decide)).trans (fup_cg ((fup_comm _ _ _ (by decide)).trans (fup_cg ((fup_comm _ _ _ (by decide)).trans (fup_cg (fup_same _ _ _ _))))))) ((setO_comm _ _ _ (by decide)).trans (setO_cg ((setO_comm _ _ _ (by decide)).trans (setO_cg (setO_same _ _ _ _) rfl)) rfl))) ?_
                        refine TT_aload_n hK rfl 0 rfl dX12_readBit_200 ?_
                        refine TT_ldc2 hK lc_X12_193 dX12_readBit_201 ?_
                        refine TT_aload_n hK rfl 0 rfl dX12_readBit_204 ?_
                        refine gf_X12_175 hK (by decide) rfl (v := (inS (h 99) ((h 73) 38) c1 p1).1) (rd_ ((sOf_ne _ _ (by decide)).trans ((sOf_ne _ _ (by decide)).trans (sOf_eq _ _ _))) ((fup_ne _ _ (by decide)).trans ((fup_ne _ _ (by decide)).trans (fup_eq _ _ _)))) dX12_readBit_205 ?_
                        refine TT_lmul hK dX12_readBit_208 ?_
                        refine pf_X12_175 hK (by decide) rfl dX12_readBit_209 ?_
                        refine TT_hp (h' := setO (setO (setO h 73 (fup (fup (fup (fup (h 73) 32 (2 * a1)) 33 (2 * ((inS (h 99) ((h 73) 38) c1 p1).1))) 34 ((inS (h 99) ((h 73) 38) c1 p1).2.1)) 39 ((inS (h 99) ((h 73) 38) c1 p1).2.2))) 96 s1) 97 l1) (up_can ((sOf_ne _ _ (by decide)).trans ((sOf_ne _ _ (by decide)).trans (sOf_eq _ _ _))) ((fup_comm _ _ _ (by decide)).trans (fup_cg ((fup_comm _ _ _ (by decide)).trans (fup_cg (fup_same _ _ _ _))))) ((setO_comm _ _ _ (by decide)).trans (setO_cg ((setO_comm _ _ _ (by decide)).trans (setO_cg (setO_same _ _ _ _) rfl)) rfl))) ?_
                        refine TT_aload_n hK rfl 0 rfl dX12_readBit_212 ?_
                        refine TT_dup hK rfl dX12_readBit_213 ?_
                        refine gf_X12_178 hK (by decide) rfl (v := (inS (h 99) ((h 73) 38) c1 p1).2.1) (rd_ ((sOf_ne _ _ (by decide)).trans ((sOf_ne _ _ (by decide)).trans (sOf_eq _ _ _))) ((fup_ne _ _ (by decide)).trans (fup_eq _ _ _))) dX12_readBit_214 ?_
                        refine TT_iconst hK dX12_readBit_217 ?_
                        refine TT_isub hK dX12_readBit_218 ?_
                        refine pf_X12_178 hK (by decide) rfl dX12_readBit_219 ?_
                        refine TT_hp (h' := setO (setO (setO h 73 (fup (fup (fup (fup (h 73) 32 (2 * a1)) 33 (2 * ((inS (h 99) ((h 73) 38) c1 p1).1))) 34 (((inS (h 99) ((h 73) 38) c1 p1).2.1) - 1)) 39 ((inS (h 99) ((h 73) 38) c1 p1).2.2))) 96 s1) 97 l1) (up_can ((sOf_ne _ _ (by decide)).trans ((sOf_ne _ _ (by decide)).trans (sOf_eq _ _ _))) ((fup_comm _ _ _ (by decide)).trans (fup_cg (fup_same _ _ _ _))) ((setO_comm _ _ _ (by decide)).trans (setO_cg ((setO_comm _ _ _ (by decide)).trans (setO_cg (setO_same _ _ _ _) rfl)) rfl))) ?_
                        refine TT_goto hK (tgt := 166) dX12_readBit_222 (by decide) ?_
                        exact ih30 (2 * a1) (2 * ((inS (h 99) ((h 73) 38) c1 p1).1)) (((inS (h 99) ((h 73) 38) c1 p1).2.1) - 1) ((inS (h 99) ((h 73) 38) c1 p1).2.2) s1 l1 b9 R9 (by cases f with | zero => exact absurd (RJ_z hf) (by omega) | succ f => first | exact ⟨f, RJ_next hf (by omega) (by omega) rfl⟩ | exact ⟨f, RJ_in hsrc hf (by omega) (by omega) rfl⟩) (by exact hR) (by first | omega | (simp [up, setR] <;> omega))
                refine TT_sub [5, 6, 0] rfl ?_
                refine TT_hp (h' := setO (setO (setO h 73 (fup (fup (fup (fup (h 73) 32 (qS (h 96 x))) 33 ((h 73) 33)) 34 ((h 73) 34)) 39 ((h 73) 39))) 96 (lrS (h 96) x (0 = (1 : Int)))) 97 (lrL (h 96) (h 97) x (0 = (1 : Int)))) (setO_cg (setO_cg (setO_cg rfl (by first | exact fup_self3 (by decide) (by decide) (by decide) (by decide) (by decide) (by decide) rfl rfl rfl | exact fup_self2 (by decide) rfl rfl | exact fup_self rfl)) (by first | rfl | exact fsr_0 _ _ _)) (by first | rfl | exact fsr_0 _ _ _)) ?_
                exact L166_30 ((((65536 : Int) - (qS (h 96 x))).toNat) + 1) (qS (h 96 x)) ((h 73) 33) ((h 73) 34) ((h 73) 39) (lrS (h 96) x (0 = (1 : Int))) (lrL (h 96) (h 97) x (0 = (1 : Int))) ((h 97) x) (rmS fxM (h 99) (h 73 38) 15 (qS (h 96 x)) ((h 73) 33) ((h 73) 34) ((h 73) 39)) (by exact ⟨15, RJ_0 (RQ_rd (x := x) (st := h 96) (P := lwM (h 73 33) < qS (h 96 x)) hq ha hs (by first | exact (if_pos (by omega)).symm | exact (if_neg (by omega)).symm))⟩) (by refine rdS_m (by omega) (by first | exact (if_pos (by omega)).symm | exact (if_neg (by omega)).symm) (by first | exact (if_pos (by omega)).symm | exact (if_neg (by omega)).symm) (by omega) (by first | exact (if_pos (by omega)).symm | exact (if_neg (by omega)).symm)) (Nat.lt_succ_self _)
            · exact absurd hb120 (by decide)
          · exact absurd hb103 (by decide)
    · exact absurd hb44 (by decide)
set_option maxRecDepth 20000 in
theorem c_X6_clear_39 (h : Hp_)  : Ctr yX6_clear cX6_clear 1 none (rmd 0) ly ly 0 0 [vR 39] h (fun r h' => r = none ∧ h' = setO h 39 (fup (h 39) 2 0)) := by
  refine Ctr_of (by decide) (Nat.le_of_ble_eq_true rfl) ⟨Nat.le_refl _, Nat.le_refl _⟩ (fun K hK hQ _ => ?_)
  show TT K ly 0 0 0 [(0, vR 39)] [] h
  refine TT_aload_n hK rfl 0 rfl dX6_clear_0 ?_
  refine TT_iconst hK dX6_clear_1 ?_
  refine pf_X6_22 hK (by decide) rfl dX6_clear_2 ?_
  refine TT_hp (h' := setO h 39 (fup (h 39) 2 0)) (up_can rfl rfl rfl) ?_
  refine TT_vret hK hQ ?_ dX6_clear_5
  exact ⟨rfl, rfl⟩
set_option maxRecDepth 20000 in
theorem c_X6_given_39 (h : Hp_)  : Ctr yX6_given cX6_given 1 (some .int) (rmd 0) ly ly 0 0 [vR 39] h (fun r h' => r = some (vI ((h 39 2))) ∧ h' = h) := by
  refine Ctr_of (by decide) (Nat.le_of_ble_eq_true rfl) ⟨Nat.le_refl _, Nat.le_refl _⟩ (fun K hK hQ _ => ?_)
  show TT K ly 0 0 0 [(0, vR 39)] [] h
  refine TT_aload_n hK rfl 0 rfl dX6_given_0 ?_
  refine gf_X6_22 hK (by decide) rfl (v := (h 39) 2) rfl dX6_given_1 ?_
  refine TT_iret hK hQ ?_ dX6_given_4
  exact ⟨congrArg (fun z => some (vI z)) (by first | rfl | omega | (split <;> first | rfl | omega)), rfl⟩
set_option maxRecDepth 20000 in
theorem c_X6_comeIn_39 (h : Hp_) (hsrc : ∀ j, 0 ≤ j → j < (h 39 3) → 0 ≤ (h 43) j ∧ (h 43) j ≤ 255) (hsn : 0 ≤ (h 39 3) ∧ (h 39 3) ≤ 1024) (hp : 0 ≤ (h 39 4) ∧ (h 39 4) ≤ (h 39 3)) (hcb : -1 ≤ (h 39 7) ∧ (h 39 7) ≤ 1100000000000) : Ctr yX6_comeIn cX6_comeIn 3 none (rmd 0) ly ly 0 0 [vR 39] h (fun r h' => r = none ∧ h' = setO h 39 (fup (fup (fup (h 39) 4 ((inS (h 43) (h 39 3) (h 39 7) (h 39 4)).2.2)) 6 ((inS (h 43) (h 39 3) (h 39 7) (h 39 4)).2.1)) 7 ((inS (h 43) (h 39 3) (h 39 7) (h 39 4)).1))) := by
  refine Ctr_of (by decide) (Nat.le_of_ble_eq_true rfl) ⟨Nat.le_refl _, Nat.le_refl _⟩ (fun K hK hQ _ => ?_)
  show TT K ly 0 0 0 [(0, vR 39)] [] h
  have q1 := byS_r hsrc hp.1
  have q2 := byS_r hsrc (k := h 39 4 + 1) (by omega)
  refine TT_aload_n hK rfl 0 rfl dX6_comeIn_0 ?_
  refine gf_X6_44 hK (by decide) rfl (v := (h 39) 4) rfl dX6_comeIn_1 ?_
  refine TT_aload_n hK rfl 0 rfl dX6_comeIn_4 ?_
  refine gf_X6_41 hK (by decide) rfl (v := (h 39) 3) rfl dX6_comeIn_5 ?_
  refine TT_icmp_ge hK (tgt := 23) (irm (by omega) (by omega)) (irm (by omega) (by omega)) dX6_comeIn_8 (by decide) (fun hb8 => ?_) (fun hb8 => ?_)
  · refine TT_sipush hK (by decide) dX6_comeIn_23 ?_
    refine TT_nmI (fun b1 hb1 => ?_)
    refine TT_istore_n hK rfl (lv' := [(1, vI b1), (0, vR 39)]) (by decide) rfl dX6_comeIn_26 ?_
    have e1 : byS (h 43) (h 39 3) (h 39 4) = b1 := by rw [hb1]; unfold byS; first | rw [if_pos (by omega)] | rw [if_neg (by omega)]
    refine TT_aload_n hK rfl 1 rfl dX6_comeIn_27 ?_
    refine gf_X6_44 hK (by decide) rfl (v := (h 39) 4) rfl dX6_comeIn_28 ?_
    refine TT_iconst hK dX6_comeIn_31 ?_
    refine TT_iadd hK dX6_comeIn_32 ?_
    refine TT_aload_n hK rfl 1 rfl dX6_comeIn_33 ?_
    refine gf_X6_41 hK (by decide) rfl (v := (h 39) 3) rfl dX6_comeIn_34 ?_
    refine TT_icmp_ge hK (tgt := 54) (irm (by omega) (by omega)) (irm (by omega) (by omega)) dX6_comeIn_37 (by decide) (fun hb37 => ?_) (fun hb37 => ?_)
    · refine TT_sipush hK (by decide) dX6_comeIn_54 ?_
      refine TT_nmI (fun b2 hb2 => ?_)
      refine TT_istore_n hK rfl (lv' := [(2, vI b2), (1, vI b1), (0, vR 39)]) (by decide) rfl dX6_comeIn_57 ?_
      have e2 : byS (h 43) (h 39 3) (h 39 4 + 1) = b2 := by rw [hb2]; unfold byS; first | rw [if_pos (by omega)] | rw [if_neg (by omega)]
      refine TT_iload_n hK rfl 1 rfl dX6_comeIn_58 ?_
      refine TT_sipush hK (by decide) dX6_comeIn_59 ?_
      refine TT_icmp_ne hK (tgt := 91) (irm (by omega) (by omega)) (by decide) dX6_comeIn_62 (by decide) (fun hb62 => ?_) (fun hb62 => ?_)
      · refine TT_aload_n hK rfl 2 rfl dX6_comeIn_91 ?_
        refine TT_dup hK rfl dX6_comeIn_92 ?_
        refine gf_X6_44 hK (by decide) rfl (v := (h 39) 4) rfl dX6_comeIn_93 ?_
        refine TT_iconst hK dX6_comeIn_96 ?_
        refine TT_iadd hK dX6_comeIn_97 ?_
        refine pf_X6_44 hK (by decide) rfl dX6_comeIn_98 ?_
        refine TT_hp (h' := setO h 39 (fup (h 39) 4 (((h 39) 4) + 1))) (up_can rfl rfl rfl) ?_
        refine TT_aload_n hK rfl 2 rfl dX6_comeIn_101 ?_
        refine TT_dup hK rfl dX6_comeIn_102 ?_
        refine gf_X6_49 hK (by decide) rfl (v := (h 39) 7) (rd_ (sOf_eq _ _ _) (fup_ne _ _ (by decide))) dX6_comeIn_103 ?_
        refine TT_iload_n hK rfl 0 rfl dX6_comeIn_106 ?_
        refine TT_iload_n hK rfl 1 rfl dX6_comeIn_107 ?_
        refine TT_sipush hK (by decide) dX6_comeIn_108 ?_
        refine TT_icmp_ne hK (tgt := 120) (irm (by omega) (by omega)) (by decide) dX6_comeIn_111 (by decide) (fun hb111 => ?_) (fun hb111 => ?_)
        · refine TT_sipush hK (by decide) dX6_comeIn_120 ?_
          refine TT_imul hK dX6_comeIn_123 ?_
          refine TT_i2l hK (irm (by omega) (by omega)) dX6_comeIn_124 ?_
          refine TT_ladd hK dX6_comeIn_125 ?_
          refine pf_X6_49 hK (by decide) rfl dX6_comeIn_126 ?_
          refine TT_hp (h' := setO h 39 (fup (fup (h 39) 4 (((h 39) 4) + 1)) 7 (((h 39) 7) + (b2 * 256)))) (up_can (sOf_eq _ _ _) rfl (setO_same _ _ _ _)) ?_
          refine TT_aload_n hK rfl 2 rfl dX6_comeIn_129 ?_
          refine TT_iload_n hK rfl 1 rfl dX6_comeIn_130 ?_
          refine TT_sipush hK (by decide) dX6_comeIn_131 ?_
          refine TT_icmp_ne hK (tgt := 142) (irm (by omega) (by omega)) (by decide) dX6_comeIn_134 (by decide) (fun hb134 => ?_) (fun hb134 => ?_)
          · refine TT_bipush hK (by decide) dX6_comeIn_142 ?_
            refine pf_X6_56 hK (by decide) rfl dX6_comeIn_144 ?_
            refine TT_hp (h' := setO h 39 (fup (fup (fup (h 39) 4 (((h 39) 4) + 1)) 6 8) 7 (((h 39) 7) + (b2 * 256)))) (up_can (sOf_eq _ _ _) (fup_comm _ _ _ (by decide)) (setO_same _ _ _ _)) ?_
            refine TT_vret hK hQ ?_ dX6_comeIn_147
            exact ⟨rfl, setO_cg rfl (by first | (exfalso; omega) | (unfold inS; rw [if_neg (by omega), e2]) | (unfold inS; rw [if_pos (by omega), if_neg (by omega), e2]))⟩
          · exfalso; omega
        · exfalso; omega
      · refine TT_iload_n hK rfl 0 rfl dX6_comeIn_65 ?_
        refine TT_sipush hK (by decide) dX6_comeIn_66 ?_
        refine TT_icmp_le hK (tgt := 91) (irm (by omega) (by omega)) (by decide) dX6_comeIn_69 (by decide) (fun hb69 => ?_) (fun hb69 => ?_)
        · refine TT_aload_n hK rfl 2 rfl dX6_comeIn_91 ?_
          refine TT_dup hK rfl dX6_comeIn_92 ?_
          refine gf_X6_44 hK (by decide) rfl (v := (h 39) 4) rfl dX6_comeIn_93 ?_
          refine TT_iconst hK dX6_comeIn_96 ?_
          refine TT_iadd hK dX6_comeIn_97 ?_
          refine pf_X6_44 hK (by decide) rfl dX6_comeIn_98 ?_
          refine TT_hp (h' := setO h 39 (fup (h 39) 4 (((h 39) 4) + 1))) (up_can rfl rfl rfl) ?_
          refine TT_aload_n hK rfl 2 rfl dX6_comeIn_101 ?_
          refine TT_dup hK rfl dX6_comeIn_102 ?_
          refine gf_X6_49 hK (by decide) rfl (v := (h 39) 7) (rd_ (sOf_eq _ _ _) (fup_ne _ _ (by decide))) dX6_comeIn_103 ?_
          refine TT_iload_n hK rfl 0 rfl dX6_comeIn_106 ?_
          refine TT_iload_n hK rfl 1 rfl dX6_comeIn_107 ?_
          refine TT_sipush hK (by decide) dX6_comeIn_108 ?_
          refine TT_icmp_ne hK (tgt := 120) (irm (by omega) (by omega)) (by decide) dX6_comeIn_111 (by decide) (fun hb111 => ?_) (fun hb111 => ?_)
          · exfalso; omega
          · refine TT_sipush hK (by decide) dX6_comeIn_114 ?_
            refine TT_goto hK (tgt := 123) dX6_comeIn_117 (by decide) ?_
            refine TT_imul hK dX6_comeIn_123 ?_
            refine TT_i2l hK (irm (by omega) (by omega)) dX6_comeIn_124 ?_
            refine TT_ladd hK dX6_comeIn_125 ?_
            refine pf_X6_49 hK (by decide) rfl dX6_comeIn_126 ?_
            refine TT_hp (h' := setO h 39 (fup (fup (h 39) 4 (((h 39) 4) + 1)) 7 (((h 39) 7) + (b2 * 512)))) (up_can (sOf_eq _ _ _) rfl (setO_same _ _ _ _)) ?_
            refine TT_aload_n hK rfl 2 rfl dX6_comeIn_129 ?_
            refine TT_iload_n hK rfl 1 rfl dX6_comeIn_130 ?_
            refine TT_sipush hK (by decide) dX6_comeIn_131 ?_
            refine TT_icmp_ne hK (tgt := 142) (irm (by omega) (by omega)) (by decide) dX6_comeIn_134 (by decide) (fun hb134 => ?_) (fun hb134 => ?_)
            · exfalso; omega
            · refine TT_bipush hK (by decide) dX6_comeIn_137 ?_
              refine TT_goto hK (tgt := 144) dX6_comeIn_139 (by decide) ?_
              refine pf_X6_56 hK (by decide) rfl dX6_comeIn_144 ?_
              refine TT_hp (h' := setO h 39 (fup (fup (fup (h 39) 4 (((h 39) 4) + 1)) 6 7) 7 (((h 39) 7) + (b2 * 512)))) (up_can (sOf_eq _ _ _) (fup_comm _ _ _ (by decide)) (setO_same _ _ _ _)) ?_
              refine TT_vret hK hQ ?_ dX6_comeIn_147
              exact ⟨rfl, setO_cg rfl (by first | (exfalso; omega) | (unfold inS; rw [if_neg (by omega), e2]) | (unfold inS; rw [if_pos (by omega), if_neg (by omega), e2]))⟩
        · refine TT_aload_n hK rfl 2 rfl dX6_comeIn_72 ?_
          refine TT_dup hK rfl dX6_comeIn_73 ?_
          refine gf_X6_49 hK (by decide) rfl (v := (h 39) 7) rfl dX6_comeIn_74 ?_
          refine TT_ldc2 hK lc_X6_63 dX6_comeIn_77 ?_
          refine TT_ladd hK dX6_comeIn_80 ?_
          refine pf_X6_49 hK (by decide) rfl dX6_comeIn_81 ?_
          refine TT_hp (h' := setO h 39 (fup (h 39) 7 (((h 39) 7) + 65280))) (up_can rfl rfl rfl) ?_
          refine TT_aload_n hK rfl 2 rfl dX6_comeIn_84 ?_
          refine TT_bipush hK (by decide) dX6_comeIn_85 ?_
          refine pf_X6_56 hK (by decide) rfl dX6_comeIn_87 ?_
          refine TT_hp (h' := setO h 39 (fup (fup (h 39) 6 8) 7 (((h 39) 7) + 65280))) (up_can (sOf_eq _ _ _) (fup_comm _ _ _ (by decide)) (setO_same _ _ _ _)) ?_
          refine TT_vret hK hQ ?_ dX6_comeIn_90
          exact ⟨rfl, setO_cg rfl (by first | (exfalso; omega) | (unfold inS; rw [if_pos (by omega), if_pos (by omega)]; exact fup_46 _ _ _))⟩
    · refine TT_aload_n hK rfl 1 rfl dX6_comeIn_40 ?_
      refine gf_X6_18 hK (by decide) rfl (q := 43) rfl rfl dX6_comeIn_41 ?_
      refine TT_aload_n hK rfl 1 rfl dX6_comeIn_44 ?_
      refine gf_X6_44 hK (by decide) rfl (v := (h 39) 4) rfl dX6_comeIn_45 ?_
      refine TT_iconst hK dX6_comeIn_48 ?_
      refine TT_iadd hK dX6_comeIn_49 ?_
      refine TT_iald hK (o := 43) (n := 1024) (by decide) rfl (by first | omega | (simp [up, setR] <;> omega)) (by first | omega | (simp [up, setR] <;> omega)) (v := (h 43) (((h 39) 4) + 1)) rfl dX6_comeIn_50 ?_
      refine TT_goto hK (tgt := 57) dX6_comeIn_51 (by decide) ?_
      refine TT_nmI (fun b2 hb2 => ?_)
      refine TT_istore_n hK rfl (lv' := [(2, vI b2), (1, vI b1), (0, vR 39)]) (by decide) rfl dX6_comeIn_57 ?_
      have e2 : byS (h 43) (h 39 3) (h 39 4 + 1) = b2 := by rw [hb2]; unfold byS; first | rw [if_pos (by omega)] | rw [if_neg (by omega)]
      refine TT_iload_n hK rfl 1 rfl dX6_comeIn_58 ?_
      refine TT_sipush hK (by decide) dX6_comeIn_59 ?_
      refine TT_icmp_ne hK (tgt := 91) (irm (by omega) (by omega)) (by decide) dX6_comeIn_62 (by decide) (fun hb62 => ?_) (fun hb62 => ?_)
      · refine TT_aload_n hK rfl 2 rfl dX6_comeIn_91 ?_
        refine TT_dup hK rfl dX6_comeIn_92 ?_
        refine gf_X6_44 hK (by decide) rfl (v := (h 39) 4) rfl dX6_comeIn_93 ?_
        refine TT_iconst hK dX6_comeIn_96 ?_
        refine TT_iadd hK dX6_comeIn_97 ?_
        refine pf_X6_44 hK (by decide) rfl dX6_comeIn_98 ?_
        refine TT_hp (h' := setO h 39 (fup (h 39) 4 (((h 39) 4) + 1))) (up_can rfl rfl rfl) ?_
        refine TT_aload_n hK rfl 2 rfl dX6_comeIn_101 ?_
        refine TT_dup hK rfl dX6_comeIn_102 ?_
        refine gf_X6_49 hK (by decide) rfl (v := (h 39) 7) (rd_ (sOf_eq _ _ _) (fup_ne _ _ (by decide))) dX6_comeIn_103 ?_
        refine TT_iload_n hK rfl 0 rfl dX6_comeIn_106 ?_
        refine TT_iload_n hK rfl 1 rfl dX6_comeIn_107 ?_
        refine TT_sipush hK (by decide) dX6_comeIn_108 ?_
        refine TT_icmp_ne hK (tgt := 120) (irm (by omega) (by omega)) (by decide) dX6_comeIn_111 (by decide) (fun hb111 => ?_) (fun hb111 => ?_)
        · refine TT_sipush hK (by decide) dX6_comeIn_120 ?_
          refine TT_imul hK dX6_comeIn_123 ?_
          refine TT_i2l hK (irm (by omega) (by omega)) dX6_comeIn_124 ?_
          refine TT_ladd hK dX6_comeIn_125 ?_
          refine pf_X6_49 hK (by decide) rfl dX6_comeIn_126 ?_
          refine TT_hp (h' := setO h 39 (fup (fup (h 39) 4 (((h 39) 4) + 1)) 7 (((h 39) 7) + (b2 * 256)))) (up_can (sOf_eq _ _ _) rfl (setO_same _ _ _ _)) ?_
          refine TT_aload_n hK rfl 2 rfl dX6_comeIn_129 ?_
          refine TT_iload_n hK rfl 1 rfl dX6_comeIn_130 ?_
          refine TT_sipush hK (by decide) dX6_comeIn_131 ?_
          refine TT_icmp_ne hK (tgt := 142) (irm (by omega) (by omega)) (by decide) dX6_comeIn_134 (by decide) (fun hb134 => ?_) (fun hb134 => ?_)
          · refine TT_bipush hK (by decide) dX6_comeIn_142 ?_
            refine pf_X6_56 hK (by decide) rfl dX6_comeIn_144 ?_
            refine TT_hp (h' := setO h 39 (fup (fup (fup (h 39) 4 (((h 39) 4) + 1)) 6 8) 7 (((h 39) 7) + (b2 * 256)))) (up_can (sOf_eq _ _ _) (fup_comm _ _ _ (by decide)) (setO_same _ _ _ _)) ?_
            refine TT_vret hK hQ ?_ dX6_comeIn_147
            exact ⟨rfl, setO_cg rfl (by first | (exfalso; omega) | (unfold inS; rw [if_neg (by omega), e2]) | (unfold inS; rw [if_pos (by omega), if_neg (by omega), e2]))⟩
          · exfalso; omega
        · exfalso; omega
      · refine TT_iload_n hK rfl 0 rfl dX6_comeIn_65 ?_
        refine TT_sipush hK (by decide) dX6_comeIn_66 ?_
        refine TT_icmp_le hK (tgt := 91) (irm (by omega) (by omega)) (by decide) dX6_comeIn_69 (by decide) (fun hb69 => ?_) (fun hb69 => ?_)
        · refine TT_aload_n hK rfl 2 rfl dX6_comeIn_91 ?_
          refine TT_dup hK rfl dX6_comeIn_92 ?_
          refine gf_X6_44 hK (by decide) rfl (v := (h 39) 4) rfl dX6_comeIn_93 ?_
          refine TT_iconst hK dX6_comeIn_96 ?_
          refine TT_iadd hK dX6_comeIn_97 ?_
          refine pf_X6_44 hK (by decide) rfl dX6_comeIn_98 ?_
          refine TT_hp (h' := setO h 39 (fup (h 39) 4 (((h 39) 4) + 1))) (up_can rfl rfl rfl) ?_
          refine TT_aload_n hK rfl 2 rfl dX6_comeIn_101 ?_
          refine TT_dup hK rfl dX6_comeIn_102 ?_
          refine gf_X6_49 hK (by decide) rfl (v := (h 39) 7) (rd_ (sOf_eq _ _ _) (fup_ne _ _ (by decide))) dX6_comeIn_103 ?_
          refine TT_iload_n hK rfl 0 rfl dX6_comeIn_106 ?_
          refine TT_iload_n hK rfl 1 rfl dX6_comeIn_107 ?_
          refine TT_sipush hK (by decide) dX6_comeIn_108 ?_
          refine TT_icmp_ne hK (tgt := 120) (irm (by omega) (by omega)) (by decide) dX6_comeIn_111 (by decide) (fun hb111 => ?_) (fun hb111 => ?_)
          · exfalso; omega
          · refine TT_sipush hK (by decide) dX6_comeIn_114 ?_
            refine TT_goto hK (tgt := 123) dX6_comeIn_117 (by decide) ?_
            refine TT_imul hK dX6_comeIn_123 ?_
            refine TT_i2l hK (irm (by omega) (by omega)) dX6_comeIn_124 ?_
            refine TT_ladd hK dX6_comeIn_125 ?_
            refine pf_X6_49 hK (by decide) rfl dX6_comeIn_126 ?_
            refine TT_hp (h' := setO h 39 (fup (fup (h 39) 4 (((h 39) 4) + 1)) 7 (((h 39) 7) + (b2 * 512)))) (up_can (sOf_eq _ _ _) rfl (setO_same _ _ _ _)) ?_
            refine TT_aload_n hK rfl 2 rfl dX6_comeIn_129 ?_
            refine TT_iload_n hK rfl 1 rfl dX6_comeIn_130 ?_
            refine TT_sipush hK (by decide) dX6_comeIn_131 ?_
            refine TT_icmp_ne hK (tgt := 142) (irm (by omega) (by omega)) (by decide) dX6_comeIn_134 (by decide) (fun hb134 => ?_) (fun hb134 => ?_)
            · exfalso; omega
            · refine TT_bipush hK (by decide) dX6_comeIn_137 ?_
              refine TT_goto hK (tgt := 144) dX6_comeIn_139 (by decide) ?_
              refine pf_X6_56 hK (by decide) rfl dX6_comeIn_144 ?_
              refine TT_hp (h' := setO h 39 (fup (fup (fup (h 39) 4 (((h 39) 4) + 1)) 6 7) 7 (((h 39) 7) + (b2 * 512)))) (up_can (sOf_eq _ _ _) (fup_comm _ _ _ (by decide)) (setO_same _ _ _ _)) ?_
              refine TT_vret hK hQ ?_ dX6_comeIn_147
              exact ⟨rfl, setO_cg rfl (by first | (exfalso; omega) | (unfold inS; rw [if_neg (by omega), e2]) | (unfold inS; rw [if_pos (by omega), if_neg (by omega), e2]))⟩
        · refine TT_aload_n hK rfl 2 rfl dX6_comeIn_72 ?_
          refine TT_dup hK rfl dX6_comeIn_73 ?_
          refine gf_X6_49 hK (by decide) rfl (v := (h 39) 7) rfl dX6_comeIn_74 ?_
          refine TT_ldc2 hK lc_X6_63 dX6_comeIn_77 ?_
          refine TT_ladd hK dX6_comeIn_80 ?_
          refine pf_X6_49 hK (by decide) rfl dX6_comeIn_81 ?_
          refine TT_hp (h' := setO h 39 (fup (h 39) 7 (((h 39) 7) + 65280))) (up_can rfl rfl rfl) ?_
          refine TT_aload_n hK rfl 2 rfl dX6_comeIn_84 ?_
          refine TT_bipush hK (by decide) dX6_comeIn_85 ?_
          refine pf_X6_56 hK (by decide) rfl dX6_comeIn_87 ?_
          refine TT_hp (h' := setO h 39 (fup (fup (h 39) 6 8) 7 (((h 39) 7) + 65280))) (up_can (sOf_eq _ _ _) (fup_comm _ _ _ (by decide)) (setO_same _ _ _ _)) ?_
          refine TT_vret hK hQ ?_ dX6_comeIn_90
          exact ⟨rfl, setO_cg rfl (by first | (exfalso; omega) | (unfold inS; rw [if_pos (by omega), if_pos (by omega)]; exact fup_46 _ _ _))⟩
  · refine TT_aload_n hK rfl 0 rfl dX6_comeIn_11 ?_
    refine gf_X6_18 hK (by decide) rfl (q := 43) rfl rfl dX6_comeIn_12 ?_
    refine TT_aload_n hK rfl 0 rfl dX6_comeIn_15 ?_
    refine gf_X6_44 hK (by decide) rfl (v := (h 39) 4) rfl dX6_comeIn_16 ?_
    refine TT_iald hK (o := 43) (n := 1024) (by decide) rfl (by first | omega | (simp [up, setR] <;> omega)) (by first | omega | (simp [up, setR] <;> omega)) (v := (h 43) ((h 39) 4)) rfl dX6_comeIn_19 ?_
    refine TT_goto hK (tgt := 26) dX6_comeIn_20 (by decide) ?_
    refine TT_nmI (fun b1 hb1 => ?_)
    refine TT_istore_n hK rfl (lv' := [(1, vI b1), (0, vR 39)]) (by decide) rfl dX6_comeIn_26 ?_
    have e1 : byS (h 43) (h 39 3) (h 39 4) = b1 := by rw [hb1]; unfold byS; first | rw [if_pos (by omega)] | rw [if_neg (by omega)]
    refine TT_aload_n hK rfl 1 rfl dX6_comeIn_27 ?_
    refine gf_X6_44 hK (by decide) rfl (v := (h 39) 4) rfl dX6_comeIn_28 ?_
    refine TT_iconst hK dX6_comeIn_31 ?_
    refine TT_iadd hK dX6_comeIn_32 ?_
    refine TT_aload_n hK rfl 1 rfl dX6_comeIn_33 ?_
    refine gf_X6_41 hK (by decide) rfl (v := (h 39) 3) rfl dX6_comeIn_34 ?_
    refine TT_icmp_ge hK (tgt := 54) (irm (by omega) (by omega)) (irm (by omega) (by omega)) dX6_comeIn_37 (by decide) (fun hb37 => ?_) (fun hb37 => ?_)
    · refine TT_sipush hK (by decide) dX6_comeIn_54 ?_
      refine TT_nmI (fun b2 hb2 => ?_)
      refine TT_istore_n hK rfl (lv' := [(2, vI b2), (1, vI b1), (0, vR 39)]) (by decide) rfl dX6_comeIn_57 ?_
      have e2 : byS (h 43) (h 39 3) (h 39 4 + 1) = b2 := by rw [hb2]; unfold byS; first | rw [if_pos (by omega)] | rw [if_neg (by omega)]
      refine TT_iload_n hK rfl 1 rfl dX6_comeIn_58 ?_
      refine TT_sipush hK (by decide) dX6_comeIn_59 ?_
      refine TT_icmp_ne hK (tgt := 91) (irm (by omega) (by omega)) (by decide) dX6_comeIn_62 (by decide) (fun hb62 => ?_) (fun hb62 => ?_)
      · refine TT_aload_n hK rfl 2 rfl dX6_comeIn_91 ?_
        refine TT_dup hK rfl dX6_comeIn_92 ?_
        refine gf_X6_44 hK (by decide) rfl (v := (h 39) 4) rfl dX6_comeIn_93 ?_
        refine TT_iconst hK dX6_comeIn_96 ?_
        refine TT_iadd hK dX6_comeIn_97 ?_
        refine pf_X6_44 hK (by decide) rfl dX6_comeIn_98 ?_
        refine TT_hp (h' := setO h 39 (fup (h 39) 4 (((h 39) 4) + 1))) (up_can rfl rfl rfl) ?_
        refine TT_aload_n hK rfl 2 rfl dX6_comeIn_101 ?_
        refine TT_dup hK rfl dX6_comeIn_102 ?_
        refine gf_X6_49 hK (by decide) rfl (v := (h 39) 7) (rd_ (sOf_eq _ _ _) (fup_ne _ _ (by decide))) dX6_comeIn_103 ?_
        refine TT_iload_n hK rfl 0 rfl dX6_comeIn_106 ?_
        refine TT_iload_n hK rfl 1 rfl dX6_comeIn_107 ?_
        refine TT_sipush hK (by decide) dX6_comeIn_108 ?_
        refine TT_icmp_ne hK (tgt := 120) (irm (by omega) (by omega)) (by decide) dX6_comeIn_111 (by decide) (fun hb111 => ?_) (fun hb111 => ?_)
        · refine TT_sipush hK (by decide) dX6_comeIn_120 ?_
          refine TT_imul hK dX6_comeIn_123 ?_
          refine TT_i2l hK (irm (by omega) (by omega)) dX6_comeIn_124 ?_
          refine TT_ladd hK dX6_comeIn_125 ?_
          refine pf_X6_49 hK (by decide) rfl dX6_comeIn_126 ?_
          refine TT_hp (h' := setO h 39 (fup (fup (h 39) 4 (((h 39) 4) + 1)) 7 (((h 39) 7) + (b2 * 256)))) (up_can (sOf_eq _ _ _) rfl (setO_same _ _ _ _)) ?_
          refine TT_aload_n hK rfl 2 rfl dX6_comeIn_129 ?_
          refine TT_iload_n hK rfl 1 rfl dX6_comeIn_130 ?_
          refine TT_sipush hK (by decide) dX6_comeIn_131 ?_
          refine TT_icmp_ne hK (tgt := 142) (irm (by omega) (by omega)) (by decide) dX6_comeIn_134 (by decide) (fun hb134 => ?_) (fun hb134 => ?_)
          · refine TT_bipush hK (by decide) dX6_comeIn_142 ?_
            refine pf_X6_56 hK (by decide) rfl dX6_comeIn_144 ?_
            refine TT_hp (h' := setO h 39 (fup (fup (fup (h 39) 4 (((h 39) 4) + 1)) 6 8) 7 (((h 39) 7) + (b2 * 256)))) (up_can (sOf_eq _ _ _) (fup_comm _ _ _ (by decide)) (setO_same _ _ _ _)) ?_
            refine TT_vret hK hQ ?_ dX6_comeIn_147
            exact ⟨rfl, setO_cg rfl (by first | (exfalso; omega) | (unfold inS; rw [if_neg (by omega), e2]) | (unfold inS; rw [if_pos (by omega), if_neg (by omega), e2]))⟩
          · exfalso; omega
        · exfalso; omega
      · refine TT_iload_n hK rfl 0 rfl dX6_comeIn_65 ?_
        refine TT_sipush hK (by decide) dX6_comeIn_66 ?_
        refine TT_icmp_le hK (tgt := 91) (irm (by omega) (by omega)) (by decide) dX6_comeIn_69 (by decide) (fun hb69 => ?_) (fun hb69 => ?_)
        · refine TT_aload_n hK rfl 2 rfl dX6_comeIn_91 ?_
          refine TT_dup hK rfl dX6_comeIn_92 ?_
          refine gf_X6_44 hK (by decide) rfl (v := (h 39) 4) rfl dX6_comeIn_93 ?_
          refine TT_iconst hK dX6_comeIn_96 ?_
          refine TT_iadd hK dX6_comeIn_97 ?_
          refine pf_X6_44 hK (by decide) rfl dX6_comeIn_98 ?_
          refine TT_hp (h' := setO h 39 (fup (h 39) 4 (((h 39) 4) + 1))) (up_can rfl rfl rfl) ?_
          refine TT_aload_n hK rfl 2 rfl dX6_comeIn_101 ?_
          refine TT_dup hK rfl dX6_comeIn_102 ?_
          refine gf_X6_49 hK (by decide) rfl (v := (h 39) 7) (rd_ (sOf_eq _ _ _) (fup_ne _ _ (by decide))) dX6_comeIn_103 ?_
          refine TT_iload_n hK rfl 0 rfl dX6_comeIn_106 ?_
          refine TT_iload_n hK rfl 1 rfl dX6_comeIn_107 ?_
          refine TT_sipush hK (by decide) dX6_comeIn_108 ?_
          refine TT_icmp_ne hK (tgt := 120) (irm (by omega) (by omega)) (by decide) dX6_comeIn_111 (by decide) (fun hb111 => ?_) (fun hb111 => ?_)
          · exfalso; omega
          · refine TT_sipush hK (by decide) dX6_comeIn_114 ?_
            refine TT_goto hK (tgt := 123) dX6_comeIn_117 (by decide) ?_
            refine TT_imul hK dX6_comeIn_123 ?_
            refine TT_i2l hK (irm (by omega) (by omega)) dX6_comeIn_124 ?_
            refine TT_ladd hK dX6_comeIn_125 ?_
            refine pf_X6_49 hK (by decide) rfl dX6_comeIn_126 ?_
            refine TT_hp (h' := setO h 39 (fup (fup (h 39) 4 (((h 39) 4) + 1)) 7 (((h 39) 7) + (b2 * 512)))) (up_can (sOf_eq _ _ _) rfl (setO_same _ _ _ _)) ?_
            refine TT_aload_n hK rfl 2 rfl dX6_comeIn_129 ?_
            refine TT_iload_n hK rfl 1 rfl dX6_comeIn_130 ?_
            refine TT_sipush hK (by decide) dX6_comeIn_131 ?_
            refine TT_icmp_ne hK (tgt := 142) (irm (by omega) (by omega)) (by decide) dX6_comeIn_134 (by decide) (fun hb134 => ?_) (fun hb134 => ?_)
            · exfalso; omega
            · refine TT_bipush hK (by decide) dX6_comeIn_137 ?_
              refine TT_goto hK (tgt := 144) dX6_comeIn_139 (by decide) ?_
              refine pf_X6_56 hK (by decide) rfl dX6_comeIn_144 ?_
              refine TT_hp (h' := setO h 39 (fup (fup (fup (h 39) 4 (((h 39) 4) + 1)) 6 7) 7 (((h 39) 7) + (b2 * 512)))) (up_can (sOf_eq _ _ _) (fup_comm _ _ _ (by decide)) (setO_same _ _ _ _)) ?_
              refine TT_vret hK hQ ?_ dX6_comeIn_147
              exact ⟨rfl, setO_cg rfl (by first | (exfalso; omega) | (unfold inS; rw [if_neg (by omega), e2]) | (unfold inS; rw [if_pos (by omega), if_neg (by omega), e2]))⟩
        · refine TT_aload_n hK rfl 2 rfl dX6_comeIn_72 ?_
          refine TT_dup hK rfl dX6_comeIn_73 ?_
          refine gf_X6_49 hK (by decide) rfl (v := (h 39) 7) rfl dX6_comeIn_74 ?_
          refine TT_ldc2 hK lc_X6_63 dX6_comeIn_77 ?_
          refine TT_ladd hK dX6_comeIn_80 ?_
          refine pf_X6_49 hK (by decide) rfl dX6_comeIn_81 ?_
          refine TT_hp (h' := setO h 39 (fup (h 39) 7 (((h 39) 7) + 65280))) (up_can rfl rfl rfl) ?_
          refine TT_aload_n hK rfl 2 rfl dX6_comeIn_84 ?_
          refine TT_bipush hK (by decide) dX6_comeIn_85 ?_
          refine pf_X6_56 hK (by decide) rfl dX6_comeIn_87 ?_
          refine TT_hp (h' := setO h 39 (fup (fup (h 39) 6 8) 7 (((h 39) 7) + 65280))) (up_can (sOf_eq _ _ _) (fup_comm _ _ _ (by decide)) (setO_same _ _ _ _)) ?_
          refine TT_vret hK hQ ?_ dX6_comeIn_90
          exact ⟨rfl, setO_cg rfl (by first | (exfalso; omega) | (unfold inS; rw [if_pos (by omega), if_pos (by omega)]; exact fup_46 _ _ _))⟩
    · refine TT_aload_n hK rfl 1 rfl dX6_comeIn_40 ?_
      refine gf_X6_18 hK (by decide) rfl (q := 43) rfl rfl dX6_comeIn_41 ?_
      refine TT_aload_n hK rfl 1 rfl dX6_comeIn_44 ?_
      refine gf_X6_44 hK (by decide) rfl (v := (h 39) 4) rfl dX6_comeIn_45 ?_
      refine TT_iconst hK dX6_comeIn_48 ?_
      refine TT_iadd hK dX6_comeIn_49 ?_
      refine TT_iald hK (o := 43) (n := 1024) (by decide) rfl (by first | omega | (simp [up, setR] <;> omega)) (by first | omega | (simp [up, setR] <;> omega)) (v := (h 43) (((h 39) 4) + 1)) rfl dX6_comeIn_50 ?_
      refine TT_goto hK (tgt := 57) dX6_comeIn_51 (by decide) ?_
      refine TT_nmI (fun b2 hb2 => ?_)
      refine TT_istore_n hK rfl (lv' := [(2, vI b2), (1, vI b1), (0, vR 39)]) (by decide) rfl dX6_comeIn_57 ?_
      have e2 : byS (h 43) (h 39 3) (h 39 4 + 1) = b2 := by rw [hb2]; unfold byS; first | rw [if_pos (by omega)] | rw [if_neg (by omega)]
      refine TT_iload_n hK rfl 1 rfl dX6_comeIn_58 ?_
      refine TT_sipush hK (by decide) dX6_comeIn_59 ?_
      refine TT_icmp_ne hK (tgt := 91) (irm (by omega) (by omega)) (by decide) dX6_comeIn_62 (by decide) (fun hb62 => ?_) (fun hb62 => ?_)
      · refine TT_aload_n hK rfl 2 rfl dX6_comeIn_91 ?_
        refine TT_dup hK rfl dX6_comeIn_92 ?_
        refine gf_X6_44 hK (by decide) rfl (v := (h 39) 4) rfl dX6_comeIn_93 ?_
        refine TT_iconst hK dX6_comeIn_96 ?_
        refine TT_iadd hK dX6_comeIn_97 ?_
        refine pf_X6_44 hK (by decide) rfl dX6_comeIn_98 ?_
        refine TT_hp (h' := setO h 39 (fup (h 39) 4 (((h 39) 4) + 1))) (up_can rfl rfl rfl) ?_
        refine TT_aload_n hK rfl 2 rfl dX6_comeIn_101 ?_
        refine TT_dup hK rfl dX6_comeIn_102 ?_
        refine gf_X6_49 hK (by decide) rfl (v := (h 39) 7) (rd_ (sOf_eq _ _ _) (fup_ne _ _ (by decide))) dX6_comeIn_103 ?_
        refine TT_iload_n hK rfl 0 rfl dX6_comeIn_106 ?_
        refine TT_iload_n hK rfl 1 rfl dX6_comeIn_107 ?_
        refine TT_sipush hK (by decide) dX6_comeIn_108 ?_
        refine TT_icmp_ne hK (tgt := 120) (irm (by omega) (by omega)) (by decide) dX6_comeIn_111 (by decide) (fun hb111 => ?_) (fun hb111 => ?_)
        · refine TT_sipush hK (by decide) dX6_comeIn_120 ?_
          refine TT_imul hK dX6_comeIn_123 ?_
          refine TT_i2l hK (irm (by omega) (by omega)) dX6_comeIn_124 ?_
          refine TT_ladd hK dX6_comeIn_125 ?_
          refine pf_X6_49 hK (by decide) rfl dX6_comeIn_126 ?_
          refine TT_hp (h' := setO h 39 (fup (fup (h 39) 4 (((h 39) 4) + 1)) 7 (((h 39) 7) + (b2 * 256)))) (up_can (sOf_eq _ _ _) rfl (setO_same _ _ _ _)) ?_
          refine TT_aload_n hK rfl 2 rfl dX6_comeIn_129 ?_
          refine TT_iload_n hK rfl 1 rfl dX6_comeIn_130 ?_
          refine TT_sipush hK (by decide) dX6_comeIn_131 ?_
          refine TT_icmp_ne hK (tgt := 142) (irm (by omega) (by omega)) (by decide) dX6_comeIn_134 (by decide) (fun hb134 => ?_) (fun hb134 => ?_)
          · refine TT_bipush hK (by decide) dX6_comeIn_142 ?_
            refine pf_X6_56 hK (by decide) rfl dX6_comeIn_144 ?_
            refine TT_hp (h' := setO h 39 (fup (fup (fup (h 39) 4 (((h 39) 4) + 1)) 6 8) 7 (((h 39) 7) + (b2 * 256)))) (up_can (sOf_eq _ _ _) (fup_comm _ _ _ (by decide)) (setO_same _ _ _ _)) ?_
            refine TT_vret hK hQ ?_ dX6_comeIn_147
            exact ⟨rfl, setO_cg rfl (by first | (exfalso; omega) | (unfold inS; rw [if_neg (by omega), e2]) | (unfold inS; rw [if_pos (by omega), if_neg (by omega), e2]))⟩
          · exfalso; omega
        · exfalso; omega
      · refine TT_iload_n hK rfl 0 rfl dX6_comeIn_65 ?_
        refine TT_sipush hK (by decide) dX6_comeIn_66 ?_
        refine TT_icmp_le hK (tgt := 91) (irm (by omega) (by omega)) (by decide) dX6_comeIn_69 (by decide) (fun hb69 => ?_) (fun hb69 => ?_)
        · refine TT_aload_n hK rfl 2 rfl dX6_comeIn_91 ?_
          refine TT_dup hK rfl dX6_comeIn_92 ?_
          refine gf_X6_44 hK (by decide) rfl (v := (h 39) 4) rfl dX6_comeIn_93 ?_
          refine TT_iconst hK dX6_comeIn_96 ?_
          refine TT_iadd hK dX6_comeIn_97 ?_
          refine pf_X6_44 hK (by decide) rfl dX6_comeIn_98 ?_
          refine TT_hp (h' := setO h 39 (fup (h 39) 4 (((h 39) 4) + 1))) (up_can rfl rfl rfl) ?_
          refine TT_aload_n hK rfl 2 rfl dX6_comeIn_101 ?_
          refine TT_dup hK rfl dX6_comeIn_102 ?_
          refine gf_X6_49 hK (by decide) rfl (v := (h 39) 7) (rd_ (sOf_eq _ _ _) (fup_ne _ _ (by decide))) dX6_comeIn_103 ?_
          refine TT_iload_n hK rfl 0 rfl dX6_comeIn_106 ?_
          refine TT_iload_n hK rfl 1 rfl dX6_comeIn_107 ?_
          refine TT_sipush hK (by decide) dX6_comeIn_108 ?_
          refine TT_icmp_ne hK (tgt := 120) (irm (by omega) (by omega)) (by decide) dX6_comeIn_111 (by decide) (fun hb111 => ?_) (fun hb111 => ?_)
          · exfalso; omega
          · refine TT_sipush hK (by decide) dX6_comeIn_114 ?_
            refine TT_goto hK (tgt := 123) dX6_comeIn_117 (by decide) ?_
            refine TT_imul hK dX6_comeIn_123 ?_
            refine TT_i2l hK (irm (by omega) (by omega)) dX6_comeIn_124 ?_
            refine TT_ladd hK dX6_comeIn_125 ?_
            refine pf_X6_49 hK (by decide) rfl dX6_comeIn_126 ?_
            refine TT_hp (h' := setO h 39 (fup (fup (h 39) 4 (((h 39) 4) + 1)) 7 (((h 39) 7) + (b2 * 512)))) (up_can (sOf_eq _ _ _) rfl (setO_same _ _ _ _)) ?_
            refine TT_aload_n hK rfl 2 rfl dX6_comeIn_129 ?_
            refine TT_iload_n hK rfl 1 rfl dX6_comeIn_130 ?_
            refine TT_sipush hK (by decide) dX6_comeIn_131 ?_
            refine TT_icmp_ne hK (tgt := 142) (irm (by omega) (by omega)) (by decide) dX6_comeIn_134 (by decide) (fun hb134 => ?_) (fun hb134 => ?_)
            · exfalso; omega
            · refine TT_bipush hK (by decide) dX6_comeIn_137 ?_
              refine TT_goto hK (tgt := 144) dX6_comeIn_139 (by decide) ?_
              refine pf_X6_56 hK (by decide) rfl dX6_comeIn_144 ?_
              refine TT_hp (h' := setO h 39 (fup (fup (fup (h 39) 4 (((h 39) 4) + 1)) 6 7) 7 (((h 39) 7) + (b2 * 512)))) (up_can (sOf_eq _ _ _) (fup_comm _ _ _ (by decide)) (setO_same _ _ _ _)) ?_
              refine TT_vret hK hQ ?_ dX6_comeIn_147
              exact ⟨rfl, setO_cg rfl (by first | (exfalso; omega) | (unfold inS; rw [if_neg (by omega), e2]) | (unfold inS; rw [if_pos (by omega), if_neg (by omega), e2]))⟩
        · refine TT_aload_n hK rfl 2 rfl dX6_comeIn_72 ?_
          refine TT_dup hK rfl dX6_comeIn_73 ?_
          refine gf_X6_49 hK (by decide) rfl (v := (h 39) 7) rfl dX6_comeIn_74 ?_
          refine TT_ldc2 hK lc_X6_63 dX6_comeIn_77 ?_
          refine TT_ladd hK dX6_comeIn_80 ?_
          refine pf_X6_49 hK (by decide) rfl dX6_comeIn_81 ?_
          refine TT_hp (h' := setO h 39 (fup (h 39) 7 (((h 39) 7) + 65280))) (up_can rfl rfl rfl) ?_
          refine TT_aload_n hK rfl 2 rfl dX6_comeIn_84 ?_
          refine TT_bipush hK (by decide) dX6_comeIn_85 ?_
          refine pf_X6_56 hK (by decide) rfl dX6_comeIn_87 ?_
          refine TT_hp (h' := setO h 39 (fup (fup (h 39) 6 8) 7 (((h 39) 7) + 65280))) (up_can (sOf_eq _ _ _) (fup_comm _ _ _ (by decide)) (setO_same _ _ _ _)) ?_
          refine TT_vret hK hQ ?_ dX6_comeIn_90
          exact ⟨rfl, setO_cg rfl (by first | (exfalso; omega) | (unfold inS; rw [if_pos (by omega), if_pos (by omega)]; exact fup_46 _ _ _))⟩
set_option maxRecDepth 20000 in
theorem c_X6_begin_39 (n : Int) (h : Hp_) (hn : 0 ≤ n ∧ n ≤ 1024) (hg : 0 ≤ (h 39 2) ∧ (h 39 2) ≤ 1024) (hsrc : ∀ j, 0 ≤ j → j < min n (h 39 2) → 0 ≤ (h 43) j ∧ (h 43) j ≤ 255) : Ctr yX6_begin cX6_begin 2 none (rmd 2) ly ly 0 0 [vR 39, vI n] h (fun r h' => r = none ∧ h' = setO (setO (setO h 39 (fup (fup (fup (fup (fup (h 39) 3 (min n (h 39 2))) 4 ((bgS (h 43) (min n (h 39 2))).2.2)) 5 32768) 6 ((bgS (h 43) (min n (h 39 2))).2.1 - 7)) 7 ((bgS (h 43) (min n (h 39 2))).1 * 128))) 41 (fup (fup (fup (fsr (h 41) 0 19 (fun _ => 0)) 0 4) 17 3) 18 46)) 42 (fsr (h 42) 0 19 (fun _ => 0))) := by
  refine Ctr_of (by decide) (Nat.le_of_ble_eq_true rfl) ⟨Nat.le_refl _, Nat.le_refl _⟩ (fun K hK hQ _ => ?_)
  show TT K ly 0 0 0 [(0, vR 39), (1, vI n)] [] h
  have b1 := byS_r hsrc (k := 0) (by decide)
  have bz : min n (h 39 2) ≤ 0 ∨ (0 ≤ h 43 0 ∧ h 43 0 ≤ 255) := (by by_cases q : min n (h 39 2) ≤ 0; exact Or.inl q; exact Or.inr (hsrc 0 (by decide) (by omega)))
  have r1 := inS_r hsrc (c := 65536 * byS (h 43) (min n (h 39 2)) 0) (p := 0) (by decide) (by omega)
  refine TT_aload_n hK rfl 0 rfl dX6_begin_0 ?_
  refine gf_X6_12 hK (by decide) rfl (q := 40) rfl rfl dX6_begin_1 ?_
  refine iv_X6_32 hK (c_X2_begin_40 h ) (by decide) rfl ⟨by decide, by decide⟩ (by decide) rfl rfl (Nat.le_of_ble_eq_true rfl) ⟨by decide, by decide⟩ dX6_begin_4 ?_
  intro r9 h9 hp9
  rw [hp9.1, hp9.2]
  show TT K ly 0 0 7 [(0, vR 39), (1, vI n)] [] (setO (setO h 41 (fup (fup (fup (fsr (h 41) 0 19 (fun _ => 0)) 0 4) 17 3) 18 46)) 42 (fsr (h 42) 0 19 (fun _ => 0)))
  refine TT_aload_n hK rfl 0 rfl dX6_begin_7 ?_
  refine TT_iload_n hK rfl 1 rfl dX6_begin_8 ?_
  refine TT_aload_n hK rfl 0 rfl dX6_begin_9 ?_
  refine gf_X6_22 hK (by decide) rfl (v := (h 39) 2) (rd_ ((sOf_ne _ _ (by decide)).trans (sOf_ne _ _ (by decide))) rfl) dX6_begin_10 ?_
  refine TT_mmin hK (irm (by omega) (by omega)) (irm (by omega) (by omega)) iw_X6_35 (by decide) (Nat.le_of_ble_eq_true rfl) ⟨by decide, by decide⟩ dX6_begin_13 ?_
  refine pf_X6_41 hK (by decide) rfl dX6_begin_16 ?_
  refine TT_hp (h' := setO (setO (setO h 39 (fup (h 39) 3 (min n ((h 39) 2)))) 41 (fup (fup (fup (fsr (h 41) 0 19 (fun _ => 0)) 0 4) 17 3) 18 46)) 42 (fsr (h 42) 0 19 (fun _ => 0))) (up_can ((sOf_ne _ _ (by decide)).trans (sOf_ne _ _ (by decide))) rfl ((setO_comm _ _ _ (by decide)).trans (setO_cg ((setO_comm _ _ _ (by decide)).trans (setO_cg rfl rfl)) rfl))) ?_
  refine TT_aload_n hK rfl 0 rfl dX6_begin_19 ?_
  refine TT_iconst hK dX6_begin_20 ?_
  refine pf_X6_44 hK (by decide) rfl dX6_begin_21 ?_
  refine TT_hp (h' := setO (setO (setO h 39 (fup (fup (h 39) 3 (min n ((h 39) 2))) 4 0)) 41 (fup (fup (fup (fsr (h 41) 0 19 (fun _ => 0)) 0 4) 17 3) 18 46)) 42 (fsr (h 42) 0 19 (fun _ => 0))) (up_can ((sOf_ne _ _ (by decide)).trans ((sOf_ne _ _ (by decide)).trans (sOf_eq _ _ _))) rfl ((setO_comm _ _ _ (by decide)).trans (setO_cg ((setO_comm _ _ _ (by decide)).trans (setO_cg (setO_same _ _ _ _) rfl)) rfl))) ?_
  refine TT_aload_n hK rfl 0 rfl dX6_begin_24 ?_
  refine TT_aload_n hK rfl 0 rfl dX6_begin_25 ?_
  refine gf_X6_41 hK (by decide) rfl (v := min n ((h 39) 2)) (rd_ ((sOf_ne _ _ (by decide)).trans ((sOf_ne _ _ (by decide)).trans (sOf_eq _ _ _))) ((fup_ne _ _ (by decide)).trans (fup_eq _ _ _))) dX6_begin_26 ?_
  refine TT_if_le hK (tgt := 41) (irm (by omega) (by omega)) dX6_begin_29 (by decide) (fun hb29 => ?_) (fun hb29 => ?_)
  · refine TT_sipush hK (by decide) dX6_begin_41 ?_
    refine TT_i2l hK (by decide) dX6_begin_44 ?_
    refine TT_ldc2 hK lc_X6_47 dX6_begin_45 ?_
    refine TT_lmul hK dX6_begin_48 ?_
    refine TT_cgJ (b := 65536 * byS (h 43) (min n (h 39 2)) 0) (by unfold byS; first | (rw [if_pos (by omega)]; omega) | (rw [if_neg (by omega)]; decide)) ?_
    refine pf_X6_49 hK (by decide) rfl dX6_begin_49 ?_
    refine TT_hp (h' := setO (setO (setO h 39 (fup (fup (fup (h 39) 3 (min n ((h 39) 2))) 4 0) 7 (65536 * byS (h 43) (min n (h 39 2)) 0))) 41 (fup (fup (fup (fsr (h 41) 0 19 (fun _ => 0)) 0 4) 17 3) 18 46)) 42 (fsr (h 42) 0 19 (fun _ => 0))) (up_can ((sOf_ne _ _ (by decide)).trans ((sOf_ne _ _ (by decide)).trans (sOf_eq _ _ _))) rfl ((setO_comm _ _ _ (by decide)).trans (setO_cg ((setO_comm _ _ _ (by decide)).trans (setO_cg (setO_same _ _ _ _) rfl)) rfl))) ?_
    refine TT_aload_n hK rfl 0 rfl dX6_begin_52 ?_
    have q53_39_3 : (setO (setO (setO h 39 (fup (fup (fup (h 39) 3 (min n ((h 39) 2))) 4 0) 7 (65536 * byS (h 43) (min n (h 39 2)) 0))) 41 (fup (fup (fup (fsr (h 41) 0 19 (fun _ => 0)) 0 4) 17 3) 18 46)) 42 (fsr (h 42) 0 19 (fun _ => 0))) 39 3 = min n ((h 39) 2) := rd_ ((sOf_ne _ _ (by decide)).trans ((sOf_ne _ _ (by decide)).trans (sOf_eq _ _ _))) ((fup_ne _ _ (by decide)).trans ((fup_ne _ _ (by decide)).trans (fup_eq _ _ _)))
    have q53_39_4 : (setO (setO (setO h 39 (fup (fup (fup (h 39) 3 (min n ((h 39) 2))) 4 0) 7 (65536 * byS (h 43) (min n (h 39 2)) 0))) 41 (fup (fup (fup (fsr (h 41) 0 19 (fun _ => 0)) 0 4) 17 3) 18 46)) 42 (fsr (h 42) 0 19 (fun _ => 0))) 39 4 = 0 := rd_ ((sOf_ne _ _ (by decide)).trans ((sOf_ne _ _ (by decide)).trans (sOf_eq _ _ _))) ((fup_ne _ _ (by decide)).trans (fup_eq _ _ _))
    have q53_39_7 : (setO (setO (setO h 39 (fup (fup (fup (h 39) 3 (min n ((h 39) 2))) 4 0) 7 (65536 * byS (h 43) (min n (h 39 2)) 0))) 41 (fup (fup (fup (fsr (h 41) 0 19 (fun _ => 0)) 0 4) 17 3) 18 46)) 42 (fsr (h 42) 0 19 (fun _ => 0))) 39 7 = 65536 * byS (h 43) (min n (h 39 2)) 0 := rd_ ((sOf_ne _ _ (by decide)).trans ((sOf_ne _ _ (by decide)).trans (sOf_eq _ _ _))) (fup_eq _ _ _)
    have q53_39 : (setO (setO (setO h 39 (fup (fup (fup (h 39) 3 (min n ((h 39) 2))) 4 0) 7 (65536 * byS (h 43) (min n (h 39 2)) 0))) 41 (fup (fup (fup (fsr (h 41) 0 19 (fun _ => 0)) 0 4) 17 3) 18 46)) 42 (fsr (h 42) 0 19 (fun _ => 0))) 39 = fup (fup (fup (h 39) 3 (min n ((h 39) 2))) 4 0) 7 (65536 * byS (h 43) (min n (h 39 2)) 0) := (sOf_ne _ _ (by decide)).trans ((sOf_ne _ _ (by decide)).trans (sOf_eq _ _ _))
    have q53_43 : (setO (setO (setO h 39 (fup (fup (fup (h 39) 3 (min n ((h 39) 2))) 4 0) 7 (65536 * byS (h 43) (min n (h 39 2)) 0))) 41 (fup (fup (fup (fsr (h 41) 0 19 (fun _ => 0)) 0 4) 17 3) 18 46)) 42 (fsr (h 42) 0 19 (fun _ => 0))) 43 = h 43 := (sOf_ne _ _ (by decide)).trans ((sOf_ne _ _ (by decide)).trans (sOf_ne _ _ (by decide)))
    refine iv_X6_53 hK (c_X6_comeIn_39 (setO (setO (setO h 39 (fup (fup (fup (h 39) 3 (min n ((h 39) 2))) 4 0) 7 (65536 * byS (h 43) (min n (h 39 2)) 0))) 41 (fup (fup (fup (fsr (h 41) 0 19 (fun _ => 0)) 0 4) 17 3) 18 46)) 42 (fsr (h 42) 0 19 (fun _ => 0))) (by rw [q53_39_3, q53_43]; exact hsrc) (by rw [q53_39_3]; first | omega | (simp [up, setR] <;> omega)) (by rw [q53_39_3, q53_39_4]; first | omega | (simp [up, setR] <;> omega)) (by rw [q53_39_7]; first | omega | (simp [up, setR] <;> omega))) (by decide) rfl ⟨by decide, by decide⟩ (by decide) rfl rfl (Nat.le_of_ble_eq_true rfl) ⟨by decide, by decide⟩ dX6_begin_53 ?_
    intro r9 h9 hp9
    rw [q53_39_3, q53_39_4, q53_39_7, q53_39, q53_43] at hp9
    rw [hp9.1, hp9.2]
    refine TT_hp (h' := setO (setO (setO h 39 (fup (fup (fup (fup (h 39) 3 (min n ((h 39) 2))) 4 ((inS (h 43) (min n ((h 39) 2)) (65536 * byS (h 43) (min n (h 39 2)) 0) 0).2.2)) 6 ((inS (h 43) (min n ((h 39) 2)) (65536 * byS (h 43) (min n (h 39 2)) 0) 0).2.1)) 7 ((inS (h 43) (min n ((h 39) 2)) (65536 * byS (h 43) (min n (h 39 2)) 0) 0).1))) 41 (fup (fup (fup (fsr (h 41) 0 19 (fun _ => 0)) 0 4) 17 3) 18 46)) 42 (fsr (h 42) 0 19 (fun _ => 0))) ((setO_cg rfl ((fup_cg ((fup_cg ((fup_comm _ _ _ (by decide)).trans (fup_cg (fup_same _ _ _ _)))).trans (fup_comm _ _ _ (by decide)))).trans (fup_same _ _ _ _))).trans ((setO_comm _ _ _ (by decide)).trans (setO_cg ((setO_comm _ _ _ (by decide)).trans (setO_cg (setO_same _ _ _ _) rfl)) rfl))) ?_
    show TT K ly 0 0 56 [(0, vR 39), (1, vI n)] [] (setO (setO (setO h 39 (fup (fup (fup (fup (h 39) 3 (min n ((h 39) 2))) 4 ((inS (h 43) (min n ((h 39) 2)) (65536 * byS (h 43) (min n (h 39 2)) 0) 0).2.2)) 6 ((inS (h 43) (min n ((h 39) 2)) (65536 * byS (h 43) (min n (h 39 2)) 0) 0).2.1)) 7 ((inS (h 43) (min n ((h 39) 2)) (65536 * byS (h 43) (min n (h 39 2)) 0) 0).1))) 41 (fup (fup (fup (fsr (h 41) 0 19 (fun _ => 0)) 0 4) 17 3) 18 46)) 42 (fsr (h 42) 0 19 (fun _ => 0)))
    refine TT_aload_n hK rfl 0 rfl dX6_begin_56 ?_
    refine TT_dup hK rfl dX6_begin_57 ?_
    refine gf_X6_49 hK (by decide) rfl (v := (inS (h 43) (min n ((h 39) 2)) (65536 * byS (h 43) (min n (h 39 2)) 0) 0).1) (rd_ ((sOf_ne _ _ (by decide)).trans ((sOf_ne _ _ (by decide)).trans (sOf_eq _ _ _))) (fup_eq _ _ _)) dX6_begin_58 ?_
    refine TT_bipush hK (by decide) dX6_begin_61 ?_
    refine TT_lshl hK (by decide) dX6_begin_63 ?_
    refine TT_cgJ (b := ((inS (h 43) (min n ((h 39) 2)) (65536 * byS (h 43) (min n (h 39 2)) 0) 0).1) * 128) rfl ?_
    refine pf_X6_49 hK (by decide) rfl dX6_begin_64 ?_
    refine TT_hp (h' := setO (setO (setO h 39 (fup (fup (fup (fup (h 39) 3 (min n ((h 39) 2))) 4 ((inS (h 43) (min n ((h 39) 2)) (65536 * byS (h 43) (min n (h 39 2)) 0) 0).2.2)) 6 ((inS (h 43) (min n ((h 39) 2)) (65536 * byS (h 43) (min n (h 39 2)) 0) 0).2.1)) 7 (((inS (h 43) (min n ((h 39) 2)) (65536 * byS (h 43) (min n (h 39 2)) 0) 0).1) * 128))) 41 (fup (fup (fup (fsr (h 41) 0 19 (fun _ => 0)) 0 4) 17 3) 18 46)) 42 (fsr (h 42) 0 19 (fun _ => 0))) (up_can ((sOf_ne _ _ (by decide)).trans ((sOf_ne _ _ (by decide)).trans (sOf_eq _ _ _))) (fup_same _ _ _ _) ((setO_comm _ _ _ (by decide)).trans (setO_cg ((setO_comm _ _ _ (by decide)).trans (setO_cg (setO_same _ _ _ _) rfl)) rfl))) ?_
    refine TT_aload_n hK rfl 0 rfl dX6_begin_67 ?_
    refine TT_dup hK rfl dX6_begin_68 ?_
    refine gf_X6_56 hK (by decide) rfl (v := (inS (h 43) (min n ((h 39) 2)) (65536 * byS (h 43) (min n (h 39 2)) 0) 0).2.1) (rd_ ((sOf_ne _ _ (by decide)).trans ((sOf_ne _ _ (by decide)).trans (sOf_eq _ _ _))) ((fup_ne _ _ (by decide)).trans (fup_eq _ _ _))) dX6_begin_69 ?_
    refine TT_bipush hK (by decide) dX6_begin_72 ?_
    refine TT_isub hK dX6_begin_74 ?_
    refine pf_X6_56 hK (by decide) rfl dX6_begin_75 ?_
    refine TT_hp (h' := setO (setO (setO h 39 (fup (fup (fup (fup (h 39) 3 (min n ((h 39) 2))) 4 ((inS (h 43) (min n ((h 39) 2)) (65536 * byS (h 43) (min n (h 39 2)) 0) 0).2.2)) 6 (((inS (h 43) (min n ((h 39) 2)) (65536 * byS (h 43) (min n (h 39 2)) 0) 0).2.1) - 7)) 7 (((inS (h 43) (min n ((h 39) 2)) (65536 * byS (h 43) (min n (h 39 2)) 0) 0).1) * 128))) 41 (fup (fup (fup (fsr (h 41) 0 19 (fun _ => 0)) 0 4) 17 3) 18 46)) 42 (fsr (h 42) 0 19 (fun _ => 0))) (up_can ((sOf_ne _ _ (by decide)).trans ((sOf_ne _ _ (by decide)).trans (sOf_eq _ _ _))) ((fup_comm _ _ _ (by decide)).trans (fup_cg (fup_same _ _ _ _))) ((setO_comm _ _ _ (by decide)).trans (setO_cg ((setO_comm _ _ _ (by decide)).trans (setO_cg (setO_same _ _ _ _) rfl)) rfl))) ?_
    refine TT_aload_n hK rfl 0 rfl dX6_begin_78 ?_
    refine TT_ldc hK lc_X6_59 dX6_begin_79 ?_
    refine pf_X6_60 hK (by decide) rfl dX6_begin_81 ?_
    refine TT_hp (h' := setO (setO (setO h 39 (fup (fup (fup (fup (fup (h 39) 3 (min n ((h 39) 2))) 4 ((inS (h 43) (min n ((h 39) 2)) (65536 * byS (h 43) (min n (h 39 2)) 0) 0).2.2)) 5 32768) 6 (((inS (h 43) (min n ((h 39) 2)) (65536 * byS (h 43) (min n (h 39 2)) 0) 0).2.1) - 7)) 7 (((inS (h 43) (min n ((h 39) 2)) (65536 * byS (h 43) (min n (h 39 2)) 0) 0).1) * 128))) 41 (fup (fup (fup (fsr (h 41) 0 19 (fun _ => 0)) 0 4) 17 3) 18 46)) 42 (fsr (h 42) 0 19 (fun _ => 0))) (up_can ((sOf_ne _ _ (by decide)).trans ((sOf_ne _ _ (by decide)).trans (sOf_eq _ _ _))) ((fup_comm _ _ _ (by decide)).trans (fup_cg (fup_comm _ _ _ (by decide)))) ((setO_comm _ _ _ (by decide)).trans (setO_cg ((setO_comm _ _ _ (by decide)).trans (setO_cg (setO_same _ _ _ _) rfl)) rfl))) ?_
    refine TT_vret hK hQ ?_ dX6_begin_84
    exact ⟨rfl, setO_cg (setO_cg (setO_cg rfl (by rfl)) rfl) rfl⟩
  · refine TT_aload_n hK rfl 0 rfl dX6_begin_32 ?_
    refine gf_X6_18 hK (by decide) rfl (q := 43) rfl rfl dX6_begin_33 ?_
    refine TT_iconst hK dX6_begin_36 ?_
    refine TT_iald hK (o := 43) (n := 1024) (by decide) rfl (by first | omega | (simp [up, setR] <;> omega)) (by first | omega | (simp [up, setR] <;> omega)) (v := (h 43) 0) (rd_ ((sOf_ne _ _ (by decide)).trans ((sOf_ne _ _ (by decide)).trans (sOf_ne _ _ (by decide)))) rfl) dX6_begin_37 ?_
    refine TT_goto hK (tgt := 44) dX6_begin_38 (by decide) ?_
    refine TT_i2l hK (irm (by omega) (by omega)) dX6_begin_44 ?_
    refine TT_ldc2 hK lc_X6_47 dX6_begin_45 ?_
    refine TT_lmul hK dX6_begin_48 ?_
    refine TT_cgJ (b := 65536 * byS (h 43) (min n (h 39 2)) 0) (by unfold byS; first | (rw [if_pos (by omega)]; omega) | (rw [if_neg (by omega)]; decide)) ?_
    refine pf_X6_49 hK (by decide) rfl dX6_begin_49 ?_
    refine TT_hp (h' := setO (setO (setO h 39 (fup (fup (fup (h 39) 3 (min n ((h 39) 2))) 4 0) 7 (65536 * byS (h 43) (min n (h 39 2)) 0))) 41 (fup (fup (fup (fsr (h 41) 0 19 (fun _ => 0)) 0 4) 17 3) 18 46)) 42 (fsr (h 42) 0 19 (fun _ => 0))) (up_can ((sOf_ne _ _ (by decide)).trans ((sOf_ne _ _ (by decide)).trans (sOf_eq _ _ _))) rfl ((setO_comm _ _ _ (by decide)).trans (setO_cg ((setO_comm _ _ _ (by decide)).trans (setO_cg (setO_same _ _ _ _) rfl)) rfl))) ?_
    refine TT_aload_n hK rfl 0 rfl dX6_begin_52 ?_
    have q53_39_3 : (setO (setO (setO h 39 (fup (fup (fup (h 39) 3 (min n ((h 39) 2))) 4 0) 7 (65536 * byS (h 43) (min n (h 39 2)) 0))) 41 (fup (fup (fup (fsr (h 41) 0 19 (fun _ => 0)) 0 4) 17 3) 18 46)) 42 (fsr (h 42) 0 19 (fun _ => 0))) 39 3 = min n ((h 39) 2) := rd_ ((sOf_ne _ _ (by decide)).trans ((sOf_ne _ _ (by decide)).trans (sOf_eq _ _ _))) ((fup_ne _ _ (by decide)).trans ((fup_ne _ _ (by decide)).trans (fup_eq _ _ _)))
    have q53_39_4 : (setO (setO (setO h 39 (fup (fup (fup (h 39) 3 (min n ((h 39) 2))) 4 0) 7 (65536 * byS (h 43) (min n (h 39 2)) 0))) 41 (fup (fup (fup (fsr (h 41) 0 19 (fun _ => 0)) 0 4) 17 3) 18 46)) 42 (fsr (h 42) 0 19 (fun _ => 0))) 39 4 = 0 := rd_ ((sOf_ne _ _ (by decide)).trans ((sOf_ne _ _ (by decide)).trans (sOf_eq _ _ _))) ((fup_ne _ _ (by decide)).trans (fup_eq _ _ _))
    have q53_39_7 : (setO (setO (setO h 39 (fup (fup (fup (h 39) 3 (min n ((h 39) 2))) 4 0) 7 (65536 * byS (h 43) (min n (h 39 2)) 0))) 41 (fup (fup (fup (fsr (h 41) 0 19 (fun _ => 0)) 0 4) 17 3) 18 46)) 42 (fsr (h 42) 0 19 (fun _ => 0))) 39 7 = 65536 * byS (h 43) (min n (h 39 2)) 0 := rd_ ((sOf_ne _ _ (by decide)).trans ((sOf_ne _ _ (by decide)).trans (sOf_eq _ _ _))) (fup_eq _ _ _)
    have q53_39 : (setO (setO (setO h 39 (fup (fup (fup (h 39) 3 (min n ((h 39) 2))) 4 0) 7 (65536 * byS (h 43) (min n (h 39 2)) 0))) 41 (fup (fup (fup (fsr (h 41) 0 19 (fun _ => 0)) 0 4) 17 3) 18 46)) 42 (fsr (h 42) 0 19 (fun _ => 0))) 39 = fup (fup (fup (h 39) 3 (min n ((h 39) 2))) 4 0) 7 (65536 * byS (h 43) (min n (h 39 2)) 0) := (sOf_ne _ _ (by decide)).trans ((sOf_ne _ _ (by decide)).trans (sOf_eq _ _ _))
    have q53_43 : (setO (setO (setO h 39 (fup (fup (fup (h 39) 3 (min n ((h 39) 2))) 4 0) 7 (65536 * byS (h 43) (min n (h 39 2)) 0))) 41 (fup (fup (fup (fsr (h 41) 0 19 (fun _ => 0)) 0 4) 17 3) 18 46)) 42 (fsr (h 42) 0 19 (fun _ => 0))) 43 = h 43 := (sOf_ne _ _ (by decide)).trans ((sOf_ne _ _ (by decide)).trans (sOf_ne _ _ (by decide)))
    refine iv_X6_53 hK (c_X6_comeIn_39 (setO (setO (setO h 39 (fup (fup (fup (h 39) 3 (min n ((h 39) 2))) 4 0) 7 (65536 * byS (h 43) (min n (h 39 2)) 0))) 41 (fup (fup (fup (fsr (h 41) 0 19 (fun _ => 0)) 0 4) 17 3) 18 46)) 42 (fsr (h 42) 0 19 (fun _ => 0))) (by rw [q53_39_3, q53_43]; exact hsrc) (by rw [q53_39_3]; first | omega | (simp [up, setR] <;> omega)) (by rw [q53_39_3, q53_39_4]; first | omega | (simp [up, setR] <;> omega)) (by rw [q53_39_7]; first | omega | (simp [up, setR] <;> omega))) (by decide) rfl ⟨by decide, by decide⟩ (by decide) rfl rfl (Nat.le_of_ble_eq_true rfl) ⟨by decide, by decide⟩ dX6_begin_53 ?_
    intro r9 h9 hp9
    rw [q53_39_3, q53_39_4, q53_39_7, q53_39, q53_43] at hp9
    rw [hp9.1, hp9.2]
    refine TT_hp (h' := setO (setO (setO h 39 (fup (fup (fup (fup (h 39) 3 (min n ((h 39) 2))) 4 ((inS (h 43) (min n ((h 39) 2)) (65536 * byS (h 43) (min n (h 39 2)) 0) 0).2.2)) 6 ((inS (h 43) (min n ((h 39) 2)) (65536 * byS (h 43) (min n (h 39 2)) 0) 0).2.1)) 7 ((inS (h 43) (min n ((h 39) 2)) (65536 * byS (h 43) (min n (h 39 2)) 0) 0).1))) 41 (fup (fup (fup (fsr (h 41) 0 19 (fun _ => 0)) 0 4) 17 3) 18 46)) 42 (fsr (h 42) 0 19 (fun _ => 0))) ((setO_cg rfl ((fup_cg ((fup_cg ((fup_comm _ _ _ (by decide)).trans (fup_cg (fup_same _ _ _ _)))).trans (fup_comm _ _ _ (by decide)))).trans (fup_same _ _ _ _))).trans ((setO_comm _ _ _ (by decide)).trans (setO_cg ((setO_comm _ _ _ (by decide)).trans (setO_cg (setO_same _ _ _ _) rfl)) rfl))) ?_
    show TT K ly 0 0 56 [(0, vR 39), (1, vI n)] [] (setO (setO (setO h 39 (fup (fup (fup (fup (h 39) 3 (min n ((h 39) 2))) 4 ((inS (h 43) (min n ((h 39) 2)) (65536 * byS (h 43) (min n (h 39 2)) 0) 0).2.2)) 6 ((inS (h 43) (min n ((h 39) 2)) (65536 * byS (h 43) (min n (h 39 2)) 0) 0).2.1)) 7 ((inS (h 43) (min n ((h 39) 2)) (65536 * byS (h 43) (min n (h 39 2)) 0) 0).1))) 41 (fup (fup (fup (fsr (h 41) 0 19 (fun _ => 0)) 0 4) 17 3) 18 46)) 42 (fsr (h 42) 0 19 (fun _ => 0)))
    refine TT_aload_n hK rfl 0 rfl dX6_begin_56 ?_
    refine TT_dup hK rfl dX6_begin_57 ?_
    refine gf_X6_49 hK (by decide) rfl (v := (inS (h 43) (min n ((h 39) 2)) (65536 * byS (h 43) (min n (h 39 2)) 0) 0).1) (rd_ ((sOf_ne _ _ (by decide)).trans ((sOf_ne _ _ (by decide)).trans (sOf_eq _ _ _))) (fup_eq _ _ _)) dX6_begin_58 ?_
    refine TT_bipush hK (by decide) dX6_begin_61 ?_
    refine TT_lshl hK (by decide) dX6_begin_63 ?_
    refine TT_cgJ (b := ((inS (h 43) (min n ((h 39) 2)) (65536 * byS (h 43) (min n (h 39 2)) 0) 0).1) * 128) rfl ?_
    refine pf_X6_49 hK (by decide) rfl dX6_begin_64 ?_
    refine TT_hp (h' := setO (setO (setO h 39 (fup (fup (fup (fup (h 39) 3 (min n ((h 39) 2))) 4 ((inS (h 43) (min n ((h 39) 2)) (65536 * byS (h 43) (min n (h 39 2)) 0) 0).2.2)) 6 ((inS (h 43) (min n ((h 39) 2)) (65536 * byS (h 43) (min n (h 39 2)) 0) 0).2.1)) 7 (((inS (h 43) (min n ((h 39) 2)) (65536 * byS (h 43) (min n (h 39 2)) 0) 0).1) * 128))) 41 (fup (fup (fup (fsr (h 41) 0 19 (fun _ => 0)) 0 4) 17 3) 18 46)) 42 (fsr (h 42) 0 19 (fun _ => 0))) (up_can ((sOf_ne _ _ (by decide)).trans ((sOf_ne _ _ (by decide)).trans (sOf_eq _ _ _))) (fup_same _ _ _ _) ((setO_comm _ _ _ (by decide)).trans (setO_cg ((setO_comm _ _ _ (by decide)).trans (setO_cg (setO_same _ _ _ _) rfl)) rfl))) ?_
    refine TT_aload_n hK rfl 0 rfl dX6_begin_67 ?_
    refine TT_dup hK rfl dX6_begin_68 ?_
    refine gf_X6_56 hK (by decide) rfl (v := (inS (h 43) (min n ((h 39) 2)) (65536 * byS (h 43) (min n (h 39 2)) 0) 0).2.1) (rd_ ((sOf_ne _ _ (by decide)).trans ((sOf_ne _ _ (by decide)).trans (sOf_eq _ _ _))) ((fup_ne _ _ (by decide)).trans (fup_eq _ _ _))) dX6_begin_69 ?_
    refine TT_bipush hK (by decide) dX6_begin_72 ?_
    refine TT_isub hK dX6_begin_74 ?_
    refine pf_X6_56 hK (by decide) rfl dX6_begin_75 ?_
    refine TT_hp (h' := setO (setO (setO h 39 (fup (fup (fup (fup (h 39) 3 (min n ((h 39) 2))) 4 ((inS (h 43) (min n ((h 39) 2)) (65536 * byS (h 43) (min n (h 39 2)) 0) 0).2.2)) 6 (((inS (h 43) (min n ((h 39) 2)) (65536 * byS (h 43) (min n (h 39 2)) 0) 0).2.1) - 7)) 7 (((inS (h 43) (min n ((h 39) 2)) (65536 * byS (h 43) (min n (h 39 2)) 0) 0).1) * 128))) 41 (fup (fup (fup (fsr (h 41) 0 19 (fun _ => 0)) 0 4) 17 3) 18 46)) 42 (fsr (h 42) 0 19 (fun _ => 0))) (up_can ((sOf_ne _ _ (by decide)).trans ((sOf_ne _ _ (by decide)).trans (sOf_eq _ _ _))) ((fup_comm _ _ _ (by decide)).trans (fup_cg (fup_same _ _ _ _))) ((setO_comm _ _ _ (by decide)).trans (setO_cg ((setO_comm _ _ _ (by decide)).trans (setO_cg (setO_same _ _ _ _) rfl)) rfl))) ?_
    refine TT_aload_n hK rfl 0 rfl dX6_begin_78 ?_
    refine TT_ldc hK lc_X6_59 dX6_begin_79 ?_
    refine pf_X6_60 hK (by decide) rfl dX6_begin_81 ?_
    refine TT_hp (h' := setO (setO (setO h 39 (fup (fup (fup (fup (fup (h 39) 3 (min n ((h 39) 2))) 4 ((inS (h 43) (min n ((h 39) 2)) (65536 * byS (h 43) (min n (h 39 2)) 0) 0).2.2)) 5 32768) 6 (((inS (h 43) (min n ((h 39) 2)) (65536 * byS (h 43) (min n (h 39 2)) 0) 0).2.1) - 7)) 7 (((inS (h 43) (min n ((h 39) 2)) (65536 * byS (h 43) (min n (h 39 2)) 0) 0).1) * 128))) 41 (fup (fup (fup (fsr (h 41) 0 19 (fun _ => 0)) 0 4) 17 3) 18 46)) 42 (fsr (h 42) 0 19 (fun _ => 0))) (up_can ((sOf_ne _ _ (by decide)).trans ((sOf_ne _ _ (by decide)).trans (sOf_eq _ _ _))) ((fup_comm _ _ _ (by decide)).trans (fup_cg (fup_comm _ _ _ (by decide)))) ((setO_comm _ _ _ (by decide)).trans (setO_cg ((setO_comm _ _ _ (by decide)).trans (setO_cg (setO_same _ _ _ _) rfl)) rfl))) ?_
    refine TT_vret hK hQ ?_ dX6_begin_84
    exact ⟨rfl, setO_cg (setO_cg (setO_cg rfl (by rfl)) rfl) rfl⟩
set_option maxRecDepth 20000 in
theorem c_X6_tellBit_39 (x b : Int) (h : Hp_) (hx : 0 ≤ x ∧ x < 19) (hst : ∀ j, 0 ≤ j → j < 19 → 0 ≤ (h 41) j ∧ (h 41) j < 47) (hlk : ∀ j, 0 ≤ j → j < 19 → (h 42) j = 0 ∨ (h 42) j = 1) (hsrc : ∀ j, 0 ≤ j → j < (h 39 3) → 0 ≤ (h 43) j ∧ (h 43) j ≤ 255) (hsn : 0 ≤ (h 39 3) ∧ (h 39 3) ≤ 1024) (hq : RQ_ (h 39 3) (h 39 5) (h 39 6) (h 39 4)) (ha : 32768 ≤ (h 39 5)) (hcb : 0 ≤ (h 39 7) ∧ (h 39 7) ≤ 1099511627776) : Ctr yX6_tellBit cX6_tellBit 7 (some .int) (rmd 1) ly ly 0 0 [vR 39, vI x, vI b] h (fun r h' => r = some (vI ((rdS lwC fxC (h 43) (h 39 3) ((h 39 5), (h 39 7), (h 39 6), (h 39 4), (h 41), (h 42)) x).1)) ∧ h' = setO (setO (setO h 39 (fup (fup (fup (fup (h 39) 4 ((rdS lwC fxC (h 43) (h 39 3) ((h 39 5), (h 39 7), (h 39 6), (h 39 4), (h 41), (h 42)) x).2.2.2.2.1)) 5 ((rdS lwC fxC (h 43) (h 39 3) ((h 39 5), (h 39 7), (h 39 6), (h 39 4), (h 41), (h 42)) x).2.1)) 6 ((rdS lwC fxC (h 43) (h 39 3) ((h 39 5), (h 39 7), (h 39 6), (h 39 4), (h 41), (h 42)) x).2.2.2.1)) 7 ((rdS lwC fxC (h 43) (h 39 3) ((h 39 5), (h 39 7), (h 39 6), (h 39 4), (h 41), (h 42)) x).2.2.1))) 41 ((rdS lwC fxC (h 43) (h 39 3) ((h 39 5), (h 39 7), (h 39 6), (h 39 4), (h 41), (h 42)) x).2.2.2.2.2.1)) 42 ((rdS lwC fxC (h 43) (h 39 3) ((h 39 5), (h 39 7), (h 39 6), (h 39 4), (h 41), (h 42)) x).2.2.2.2.2.2)) := by
  refine Ctr_of (by decide) (Nat.le_of_ble_eq_true rfl) ⟨Nat.le_refl _, Nat.le_refl _⟩ (fun K hK hQ _ => ?_)
  show TT K ly 0 0 0 [(0, vR 39), (1, vI x), (2, vI b)] [] h
  have hs := hst x hx.1 hx.2
  have ht := (tab_r hs).1
  have hl := hlk x hx.1 hx.2
  have hq2 := hq.2.1
  refine TT_aload_n hK rfl 0 rfl dX6_tellBit_0 ?_
  refine gf_X6_12 hK (by decide) rfl (q := 40) rfl rfl dX6_tellBit_1 ?_
  refine TT_iload_n hK rfl 1 rfl dX6_tellBit_4 ?_
  refine iv_X6_65 hK (c_X2_sizeOf_40 x h (by first | omega | (simp [up, setR] <;> omega)) (by exact hst)) (by decide) rfl ⟨by decide, by decide⟩ (by decide) rfl rfl (Nat.le_of_ble_eq_true rfl) ⟨by decide, by decide⟩ dX6_tellBit_5 ?_
  intro r9 h9 hp9
  rw [hp9.1, hp9.2]
  show TT K ly 0 0 8 [(0, vR 39), (1, vI x), (2, vI b)] [vI (qS ((h 41) x))] h
  refine TT_istore_n hK rfl (lv' := [(3, vI (qS ((h 41) x))), (0, vR 39), (1, vI x), (2, vI b)]) (by decide) rfl dX6_tellBit_8 ?_
  refine TT_aload_n hK rfl 1 rfl dX6_tellBit_9 ?_
  refine gf_X6_12 hK (by decide) rfl (q := 40) rfl rfl dX6_tellBit_10 ?_
  refine TT_iload_n hK rfl 2 rfl dX6_tellBit_13 ?_
  refine iv_X6_68 hK (c_X2_likelyBit_40 x h (by first | omega | (simp [up, setR] <;> omega))) (by decide) rfl ⟨by decide, by decide⟩ (by decide) rfl rfl (Nat.le_of_ble_eq_true rfl) ⟨by decide, by decide⟩ dX6_tellBit_14 ?_
  intro r9 h9 hp9
  rw [hp9.1, hp9.2]
  show TT K ly 0 0 17 [(3, vI (qS ((h 41) x))), (0, vR 39), (1, vI x), (2, vI b)] [vI ((h 42) x)] h
  refine TT_istore hK (lv' := [(4, vI ((h 42) x)), (3, vI (qS ((h 41) x))), (0, vR 39), (1, vI x), (2, vI b)]) (by decide) rfl dX6_tellBit_17 ?_
  refine TT_aload_n hK rfl 2 rfl dX6_tellBit_19 ?_
  refine TT_dup hK rfl dX6_tellBit_20 ?_
  refine gf_X6_60 hK (by decide) rfl (v := (h 39) 5) rfl dX6_tellBit_21 ?_
  refine TT_iload_n hK rfl 1 rfl dX6_tellBit_24 ?_
  refine TT_isub hK dX6_tellBit_25 ?_
  refine pf_X6_60 hK (by decide) rfl dX6_tellBit_26 ?_
  refine TT_hp (h' := setO h 39 (fup (h 39) 5 (((h 39) 5) - (qS ((h 41) x))))) (up_can rfl rfl rfl) ?_
  refine TT_aload_n hK rfl 2 rfl dX6_tellBit_29 ?_
  refine gf_X6_49 hK (by decide) rfl (v := (h 39) 7) (rd_ (sOf_eq _ _ _) (fup_ne _ _ (by decide))) dX6_tellBit_30 ?_
  refine TT_bipush hK (by decide) dX6_tellBit_33 ?_
  refine TT_lshr hK (lrm (by omega) (by omega)) rfl dX6_tellBit_35 ?_
  refine TT_cgJ (b := ((h 39) 7) / 65536) rfl ?_
  refine TT_iload_n hK rfl 1 rfl dX6_tellBit_36 ?_
  refine TT_i2l hK (irm (by omega) (by omega)) dX6_tellBit_37 ?_
  refine TT_lcmp hK (lrm (by omega) (by omega)) (lrm (by omega) (by omega)) dX6_tellBit_38 ?_
  refine TT_if_ge hK (tgt := 69) (lcmp_ir _ _) dX6_tellBit_39 (by decide) (fun hb39 => ?_) (fun hb39 => ?_)
  · have hb39 := lcmp_ge hb39
    refine TT_aload_n hK rfl 2 rfl dX6_tellBit_69 ?_
    refine TT_dup hK rfl dX6_tellBit_70 ?_
    refine gf_X6_49 hK (by decide) rfl (v := (h 39) 7) (rd_ (sOf_eq _ _ _) (fup_ne _ _ (by decide))) dX6_tellBit_71 ?_
    refine TT_iload_n hK rfl 1 rfl dX6_tellBit_74 ?_
    refine TT_i2l hK (irm (by omega) (by omega)) dX6_tellBit_75 ?_
    refine TT_bipush hK (by decide) dX6_tellBit_76 ?_
    refine TT_lshl hK (by decide) dX6_tellBit_78 ?_
    refine TT_cgJ (b := (qS ((h 41) x)) * 65536) rfl ?_
    refine TT_cgJ (b := 65536 * qS (h 41 x)) (by omega) ?_
    refine TT_lsub hK dX6_tellBit_79 ?_
    refine pf_X6_49 hK (by decide) rfl dX6_tellBit_80 ?_
    refine TT_hp (h' := setO h 39 (fup (fup (h 39) 5 (((h 39) 5) - (qS ((h 41) x)))) 7 (((h 39) 7) - (65536 * qS (h 41 x))))) (up_can (sOf_eq _ _ _) rfl (setO_same _ _ _ _)) ?_
    refine TT_aload_n hK rfl 2 rfl dX6_tellBit_83 ?_
    refine gf_X6_60 hK (by decide) rfl (v := ((h 39) 5) - (qS ((h 41) x))) (rd_ (sOf_eq _ _ _) ((fup_ne _ _ (by decide)).trans (fup_eq _ _ _))) dX6_tellBit_84 ?_
    refine TT_ldc hK lc_X6_59 dX6_tellBit_87 ?_
    refine TT_icmp_lt hK (tgt := 95) (irm (by omega) (by omega)) (by decide) dX6_tellBit_89 (by decide) (fun hb89 => ?_) (fun hb89 => ?_)
    · refine TT_aload_n hK rfl 2 rfl dX6_tellBit_95 ?_
      refine gf_X6_60 hK (by decide) rfl (v := ((h 39) 5) - (qS ((h 41) x))) (rd_ (sOf_eq _ _ _) ((fup_ne _ _ (by decide)).trans (fup_eq _ _ _))) dX6_tellBit_96 ?_
      refine TT_iload_n hK rfl 1 rfl dX6_tellBit_99 ?_
      refine TT_icmp_ge hK (tgt := 110) (irm (by omega) (by omega)) (irm (by omega) (by omega)) dX6_tellBit_100 (by decide) (fun hb100 => ?_) (fun hb100 => ?_)
      · refine TT_iload hK 0 rfl dX6_tellBit_110 ?_
        refine TT_istore hK (lv' := [(5, vI ((h 42) x)), (4, vI ((h 42) x)), (3, vI (qS ((h 41) x))), (0, vR 39), (1, vI x), (2, vI b)]) (by decide) rfl dX6_tellBit_112 ?_
        refine TT_aload_n hK rfl 3 rfl dX6_tellBit_114 ?_
        refine gf_X6_12 hK (by decide) rfl (q := 40) rfl rfl dX6_tellBit_115 ?_
        refine TT_iload_n hK rfl 4 rfl dX6_tellBit_118 ?_
        refine TT_iload hK 0 rfl dX6_tellBit_119 ?_
        have q121_41 : (setO h 39 (fup (fup (h 39) 5 (((h 39) 5) - (qS ((h 41) x)))) 7 (((h 39) 7) - (65536 * qS (h 41 x))))) 41 = h 41 := sOf_ne _ _ (by decide)
        have q121_42 : (setO h 39 (fup (fup (h 39) 5 (((h 39) 5) - (qS ((h 41) x)))) 7 (((h 39) 7) - (65536 * qS (h 41 x))))) 42 = h 42 := sOf_ne _ _ (by decide)
        refine iv_X6_71 hK (c_X2_learn_40 x ((h 42) x) (setO h 39 (fup (fup (h 39) 5 (((h 39) 5) - (qS ((h 41) x)))) 7 (((h 39) 7) - (65536 * qS (h 41 x))))) (by first | omega | (simp [up, setR] <;> omega)) (by first | omega | (simp [up, setR] <;> omega)) (by rw [q121_41]; exact hst) (by rw [q121_42]; exact hlk)) (by decide) rfl ⟨by decide, by decide⟩ (by decide) rfl rfl (Nat.le_of_ble_eq_true rfl) ⟨by decide, by decide⟩ dX6_tellBit_121 ?_
        intro r9 h9 hp9
        rw [q121_41, q121_42] at hp9
        rw [hp9.1, hp9.2]
        show TT K ly 0 0 124 [(5, vI ((h 42) x)), (4, vI ((h 42) x)), (3, vI (qS ((h 41) x))), (0, vR 39), (1, vI x), (2, vI b)] [] (setO (setO (setO h 39 (fup (fup (h 39) 5 (((h 39) 5) - (qS ((h 41) x)))) 7 (((h 39) 7) - (65536 * qS (h 41 x))))) 41 (lrS (h 41) x (((h 42) x) ≠ (h 42) x))) 42 (lrL (h 41) (h 42) x (((h 42) x) ≠ (h 42) x)))
        refine TT_iconst hK dX6_tellBit_124 ?_
        refine TT_istore hK (lv' := [(6, vI 0), (5, vI ((h 42) x)), (4, vI ((h 42) x)), (3, vI (qS ((h 41) x))), (0, vR 39), (1, vI x), (2, vI b)]) (by decide) rfl dX6_tellBit_125 ?_
        have L127_4 : ∀ (k4 : Nat) (k : Int) (a1 : Int) (c1 : Int) (t1 : Int) (p1 : Int) (s1 : Int → Int) (l1 : Int → Int) (b9 : Int) (R9 : Int × Int × Int × Int), (0 ≤ k) → (k ≤ 15) → (RJ_ fxC (h 43) (h 39 3) (15 - k).toNat a1 c1 t1 p1 R9) → (0 ≤ c1 ∧ c1 ≤ 1099511627776) → ((rdS lwC fxC (h 43) (h 39 3) ((h 39 5), (h 39 7), (h 39 6), (h 39 4), (h 41), (h 42)) x) = (b9, R9.1, R9.2.1, R9.2.2.1, R9.2.2.2, s1, l1)) → ((15 : Int) - k).toNat < k4 → TT K ly 0 0 127 [(0, vR 39), (1, vI x), (5, vI b9), (6, vI k)] [] (setO (setO (setO h 39 (fup (fup (fup (fup (h 39) 4 p1) 5 a1) 6 t1) 7 c1)) 41 s1) 42 l1) := by
          intro k4
          induction k4 with
          | zero => intro k a1 c1 t1 p1 s1 l1 b9 R9 hkk0 hkk1 hM hcb1 hR hk4; exact absurd hk4 (Nat.not_lt_zero _)
          | succ k4 ih4 =>
            intro k a1 c1 t1 p1 s1 l1 b9 R9 hkk0 hkk1 hM hcb1 hR hk4
            obtain ⟨m1, m2, m3, m4, m5, m6⟩ := hM.2.2
            have hin := inS_r hsrc (c := c1) m5 m6
            refine TT_iload hK 3 rfl dX6_tellBit_127 ?_
            refine TT_bipush hK (by decide) dX6_tellBit_129 ?_
            refine TT_icmp_ge hK (tgt := 196) (irm (by omega) (by omega)) (by decide) dX6_tellBit_131 (by decide) (fun hb131 => ?_) (fun hb131 => ?_)
            · refine TT_iload hK 2 rfl dX6_tellBit_196 ?_
              refine TT_iret hK hQ ?_ dX6_tellBit_198
              have hE := RJ_done hM (by first | omega | (have h0 : (15 - k).toNat = 0 := (by omega); rw [h0] at hM; exact RJ_z hM))
              exact ⟨congrArg (fun z => some (vI z)) (by rw [hR]), setO_cg (setO_cg (setO_cg rfl (by rw [hR, ← hE])) (by rw [hR])) (by rw [hR])⟩
            · refine TT_aload_n hK rfl 0 rfl dX6_tellBit_134 ?_
              refine gf_X6_60 hK (by decide) rfl (v := a1) (rd_ ((sOf_ne _ _ (by decide)).trans ((sOf_ne _ _ (by decide)).trans (sOf_eq _ _ _))) ((fup_ne _ _ (by decide)).trans ((fup_ne _ _ (by decide)).trans (fup_eq _ _ _)))) dX6_tellBit_135 ?_
              refine TT_ldc hK lc_X6_59 dX6_tellBit_138 ?_
              refine TT_icmp_ge hK (tgt := 196) (irm (by omega) (by omega)) (by decide) dX6_tellBit_140 (by decide) (fun hb140 => ?_) (fun hb140 => ?_)
              · refine TT_iload hK 2 rfl dX6_tellBit_196 ?_
                refine TT_iret hK hQ ?_ dX6_tellBit_198
                have hE := RJ_done hM (by first | omega | (have h0 : (15 - k).toNat = 0 := (by omega); rw [h0] at hM; exact RJ_z hM))
                exact ⟨congrArg (fun z => some (vI z)) (by rw [hR]), setO_cg (setO_cg (setO_cg rfl (by rw [hR, ← hE])) (by rw [hR])) (by rw [hR])⟩
              · refine TT_aload_n hK rfl 0 rfl dX6_tellBit_143 ?_
                refine gf_X6_56 hK (by decide) rfl (v := t1) (rd_ ((sOf_ne _ _ (by decide)).trans ((sOf_ne _ _ (by decide)).trans (sOf_eq _ _ _))) ((fup_ne _ _ (by decide)).trans (fup_eq _ _ _))) dX6_tellBit_144 ?_
                refine TT_if_ne hK (tgt := 154) (irm (by omega) (by omega)) dX6_tellBit_147 (by decide) (fun hb147 => ?_) (fun hb147 => ?_)
                · refine TT_aload_n hK rfl 0 rfl dX6_tellBit_154 ?_
                  refine TT_dup hK rfl dX6_tellBit_155 ?_
                  refine gf_X6_60 hK (by decide) rfl (v := a1) (rd_ ((sOf_ne _ _ (by decide)).trans ((sOf_ne _ _ (by decide)).trans (sOf_eq _ _ _))) ((fup_ne _ _ (by decide)).trans ((fup_ne _ _ (by decide)).trans (fup_eq _ _ _)))) dX6_tellBit_156 ?_
                  refine TT_iconst hK dX6_tellBit_159 ?_
                  refine TT_ishl hK (by omega) (by omega) dX6_tellBit_160 ?_
                  refine TT_cgI (b := a1 * 2) rfl ?_
                  refine TT_cgI (b := 2 * a1) (by omega) ?_
                  refine pf_X6_60 hK (by decide) rfl dX6_tellBit_161 ?_
                  refine TT_hp (h' := setO (setO (setO h 39 (fup (fup (fup (fup (h 39) 4 p1) 5 (2 * a1)) 6 t1) 7 c1)) 41 s1) 42 l1) (up_can ((sOf_ne _ _ (by decide)).trans ((sOf_ne _ _ (by decide)).trans (sOf_eq _ _ _))) ((fup_comm _ _ _ (by decide)).trans (fup_cg ((fup_comm _ _ _ (by decide)).trans (fup_cg (fup_same _ _ _ _))))) ((setO_comm _ _ _ (by decide)).trans (setO_cg ((setO_comm _ _ _ (by decide)).trans (setO_cg (setO_same _ _ _ _) rfl)) rfl))) ?_
                  refine TT_aload_n hK rfl 0 rfl dX6_tellBit_164 ?_
                  refine TT_aload_n hK rfl 0 rfl dX6_tellBit_165 ?_
                  refine gf_X6_49 hK (by decide) rfl (v := c1) (rd_ ((sOf_ne _ _ (by decide)).trans ((sOf_ne _ _ (by decide)).trans (sOf_eq _ _ _))) (fup_eq _ _ _)) dX6_tellBit_166 ?_
                  refine TT_iconst hK dX6_tellBit_169 ?_
                  refine TT_lshl hK (by decide) dX6_tellBit_170 ?_
                  refine TT_cgJ (b := c1 * 2) rfl ?_
                  refine TT_cgJ (b := 2 * c1) (by omega) ?_
                  refine TT_ldc2 hK lc_X6_75 dX6_tellBit_171 ?_
                  refine TT_mminl hK (lrm (by omega) (by omega)) (by decide) iw_X6_77 (by decide) (Nat.le_of_ble_eq_true rfl) ⟨by decide, by decide⟩ dX6_tellBit_174 ?_
                  refine pf_X6_49 hK (by decide) rfl dX6_tellBit_177 ?_
                  refine TT_hp (h' := setO (setO (setO h 39 (fup (fup (fup (fup (h 39) 4 p1) 5 (2 * a1)) 6 t1) 7 (min (2 * c1) 1099511627776))) 41 s1) 42 l1) (up_can ((sOf_ne _ _ (by decide)).trans ((sOf_ne _ _ (by decide)).trans (sOf_eq _ _ _))) (fup_same _ _ _ _) ((setO_comm _ _ _ (by decide)).trans (setO_cg ((setO_comm _ _ _ (by decide)).trans (setO_cg (setO_same _ _ _ _) rfl)) rfl))) ?_
                  refine TT_aload_n hK rfl 0 rfl dX6_tellBit_180 ?_
                  refine TT_dup hK rfl dX6_tellBit_181 ?_
                  refine gf_X6_56 hK (by decide) rfl (v := t1) (rd_ ((sOf_ne _ _ (by decide)).trans ((sOf_ne _ _ (by decide)).trans (sOf_eq _ _ _))) ((fup_ne _ _ (by decide)).trans (fup_eq _ _ _))) dX6_tellBit_182 ?_
                  refine TT_iconst hK dX6_tellBit_185 ?_
                  refine TT_isub hK dX6_tellBit_186 ?_
                  refine pf_X6_56 hK (by decide) rfl dX6_tellBit_187 ?_
                  refine TT_hp (h' := setO (setO (setO h 39 (fup (fup (fup (fup (h 39) 4 p1) 5 (2 * a1)) 6 (t1 - 1)) 7 (min (2 * c1) 1099511627776))) 41 s1) 42 l1) (up_can ((sOf_ne _ _ (by decide)).trans ((sOf_ne _ _ (by decide)).trans (sOf_eq _ _ _))) ((fup_comm _ _ _ (by decide)).trans (fup_cg (fup_same _ _ _ _))) ((setO_comm _ _ _ (by decide)).trans (setO_cg ((setO_comm _ _ _ (by decide)).trans (setO_cg (setO_same _ _ _ _) rfl)) rfl))) ?_
                  refine TT_iinc hK (v := k + 1) (lv' := [(6, vI (k + 1)), (0, vR 39), (1, vI x), (5, vI b9)]) 3 rfl rfl (by decide) rfl dX6_tellBit_190 ?_
                  refine TT_goto hK (tgt := 127) dX6_tellBit_193 (by decide) ?_
                  refine TT_sub [1, 2, 3, 0] rfl ?_
                  exact ih4 (k + 1) (2 * a1) (min (2 * c1) 1099511627776) (t1 - 1) p1 s1 l1 b9 R9 (by first | omega | (simp [up, setR] <;> omega)) (by first | omega | (simp [up, setR] <;> omega)) (by have h1 : (15 - k).toNat = (15 - (k + 1)).toNat + 1 := (by omega); rw [h1] at hM; first | exact RJ_next hM (by omega) (by omega) rfl | exact RJ_in hsrc hM (by omega) (by omega) rfl) (by omega) (by exact hR) (by first | omega | (simp [up, setR] <;> omega))
                · refine TT_aload_n hK rfl 0 rfl dX6_tellBit_150 ?_
                  have q151_39_3 : (setO (setO (setO h 39 (fup (fup (fup (fup (h 39) 4 p1) 5 a1) 6 t1) 7 c1)) 41 s1) 42 l1) 39 3 = (h 39) 3 := rd_ ((sOf_ne _ _ (by decide)).trans ((sOf_ne _ _ (by decide)).trans (sOf_eq _ _ _))) ((fup_ne _ _ (by decide)).trans ((fup_ne _ _ (by decide)).trans ((fup_ne _ _ (by decide)).trans (fup_ne _ _ (by decide)))))
                  have q151_39_4 : (setO (setO (setO h 39 (fup (fup (fup (fup (h 39) 4 p1) 5 a1) 6 t1) 7 c1)) 41 s1) 42 l1) 39 4 = p1 := rd_ ((sOf_ne _ _ (by decide)).trans ((sOf_ne _ _ (by decide)).trans (sOf_eq _ _ _))) ((fup_ne _ _ (by decide)).trans ((fup_ne _ _ (by decide)).trans ((fup_ne _ _ (by decide)).trans (fup_eq _ _ _))))
                  have q151_39_7 : (setO (setO (setO h 39 (fup (fup (fup (fup (h 39) 4 p1) 5 a1) 6 t1) 7 c1)) 41 s1) 42 l1) 39 7 = c1 := rd_ ((sOf_ne _ _ (by decide)).trans ((sOf_ne _ _ (by decide)).trans (sOf_eq _ _ _))) (fup_eq _ _ _)
                  have q151_39 : (setO (setO (setO h 39 (fup (fup (fup (fup (h 39) 4 p1) 5 a1) 6 t1) 7 c1)) 41 s1) 42 l1) 39 = fup (fup (fup (fup (h 39) 4 p1) 5 a1) 6 t1) 7 c1 := (sOf_ne _ _ (by decide)).trans ((sOf_ne _ _ (by decide)).trans (sOf_eq _ _ _))
                  have q151_43 : (setO (setO (setO h 39 (fup (fup (fup (fup (h 39) 4 p1) 5 a1) 6 t1) 7 c1)) 41 s1) 42 l1) 43 = h 43 := (sOf_ne _ _ (by decide)).trans ((sOf_ne _ _ (by decide)).trans (sOf_ne _ _ (by decide)))
                  refine iv_X6_53 hK (c_X6_comeIn_39 (setO (setO (setO h 39 (fup (fup (fup (fup (h 39) 4 p1) 5 a1) 6 t1) 7 c1)) 41 s1) 42 l1) (by rw [q151_39_3, q151_43]; exact hsrc) (by rw [q151_39_3]; first | omega | (simp [up, setR] <;> omega)) (by rw [q151_39_3, q151_39_4]; first | omega | (simp [up, setR] <;> omega)) (by rw [q151_39_7]; first | omega | (simp [up, setR] <;> omega))) (by decide) rfl ⟨by decide, by decide⟩ (by decide) rfl rfl (Nat.le_of_ble_eq_true rfl) ⟨by decide, by decide⟩ dX6_tellBit_151 ?_
                  intro r9 h9 hp9
                  rw [q151_39_3, q151_39_4, q151_39_7, q151_39, q151_43] at hp9
                  rw [hp9.1, hp9.2]
                  refine TT_hp (h' := setO (setO (setO h 39 (fup (fup (fup (fup (h 39) 4 ((inS (h 43) ((h 39) 3) c1 p1).2.2)) 5 a1) 6 ((inS (h 43) ((h 39) 3) c1 p1).2.1)) 7 ((inS (h 43) ((h 39) 3) c1 p1).1))) 41 s1) 42 l1) ((setO_cg rfl ((fup_cg ((fup_cg ((fup_comm _ _ _ (by decide)).trans (fup_cg ((fup_comm _ _ _ (by decide)).trans (fup_cg ((fup_comm _ _ _ (by decide)).trans (fup_cg (fup_same _ _ _ _)))))))).trans ((fup_comm _ _ _ (by decide)).trans (fup_cg (fup_same _ _ _ _))))).trans (fup_same _ _ _ _))).trans ((setO_comm _ _ _ (by decide)).trans (setO_cg ((setO_comm _ _ _ (by decide)).trans (setO_cg (setO_same _ _ _ _) rfl)) rfl))) ?_
                  show TT K ly 0 0 154 [(0, vR 39), (1, vI x), (5, vI b9), (6, vI k)] [] (setO (setO (setO h 39 (fup (fup (fup (fup (h 39) 4 ((inS (h 43) ((h 39) 3) c1 p1).2.2)) 5 a1) 6 ((inS (h 43) ((h 39) 3) c1 p1).2.1)) 7 ((inS (h 43) ((h 39) 3) c1 p1).1))) 41 s1) 42 l1)
                  refine TT_aload_n hK rfl 0 rfl dX6_tellBit_154 ?_
                  refine TT_dup hK rfl dX6_tellBit_155 ?_
                  refine gf_X6_60 hK (by decide) rfl (v := a1) (rd_ ((sOf_ne _ _ (by decide)).trans ((sOf_ne _ _ (by decide)).trans (sOf_eq _ _ _))) ((fup_ne _ _ (by decide)).trans ((fup_ne _ _ (by decide)).trans (fup_eq _ _ _)))) dX6_tellBit_156 ?_
                  refine TT_iconst hK dX6_tellBit_159 ?_
                  refine TT_ishl hK (by omega) (by omega) dX6_tellBit_160 ?_
                  refine TT_cgI (b := a1 * 2) rfl ?_
                  refine TT_cgI (b := 2 * a1) (by omega) ?_
                  refine pf_X6_60 hK (by decide) rfl dX6_tellBit_161 ?_
                  refine TT_hp (h' := setO (setO (setO h 39 (fup (fup (fup (fup (h 39) 4 ((inS (h 43) ((h 39) 3) c1 p1).2.2)) 5 (2 * a1)) 6 ((inS (h 43) ((h 39) 3) c1 p1).2.1)) 7 ((inS (h 43) ((h 39) 3) c1 p1).1))) 41 s1) 42 l1) (up_can ((sOf_ne _ _ (by decide)).trans ((sOf_ne _ _ (by decide)).trans (sOf_eq _ _ _))) ((fup_comm _ _ _ (by decide)).trans (fup_cg ((fup_comm _ _ _ (by decide)).trans (fup_cg (fup_same _ _ _ _))))) ((setO_comm _ _ _ (by decide)).trans (setO_cg ((setO_comm _ _ _ (by decide)).trans (setO_cg (setO_same _ _ _ _) rfl)) rfl))) ?_
                  refine TT_aload_n hK rfl 0 rfl dX6_tellBit_164 ?_
                  refine TT_aload_n hK rfl 0 rfl dX6_tellBit_165 ?_
                  refine gf_X6_49 hK (by decide) rfl (v := (inS (h 43) ((h 39) 3) c1 p1).1) (rd_ ((sOf_ne _ _ (by decide)).trans ((sOf_ne _ _ (by decide)).trans (sOf_eq _ _ _))) (fup_eq _ _ _)) dX6_tellBit_166 ?_
                  refine TT_iconst hK dX6_tellBit_169 ?_
                  refine TT_lshl hK (by decide) dX6_tellBit_170 ?_
                  refine TT_cgJ (b := ((inS (h 43) ((h 39) 3) c1 p1).1) * 2) rfl ?_
                  refine TT_cgJ (b := 2 * ((inS (h 43) ((h 39) 3) c1 p1).1)) (by omega) ?_
                  refine TT_ldc2 hK lc_X6_75 dX6_tellBit_171 ?_
                  refine TT_mminl hK (lrm (by omega) (by omega)) (by decide) iw_X6_77 (by decide) (Nat.le_of_ble_eq_true rfl) ⟨by decide, by decide⟩ dX6_tellBit_174 ?_
                  refine pf_X6_49 hK (by decide) rfl dX6_tellBit_177 ?_
                  refine TT_hp (h' := setO (setO (setO h 39 (fup (fup (fup (fup (h 39) 4 ((inS (h 43) ((h 39) 3) c1 p1).2.2)) 5 (2 * a1)) 6 ((inS (h 43) ((h 39) 3) c1 p1).2.1)) 7 (min (2 * ((inS (h 43) ((h 39) 3) c1 p1).1)) 1099511627776))) 41 s1) 42 l1) (up_can ((sOf_ne _ _ (by decide)).trans ((sOf_ne _ _ (by decide)).trans (sOf_eq _ _ _))) (fup_same _ _ _ _) ((setO_comm _ _ _ (by decide)).trans (setO_cg ((setO_comm _ _ _ (by decide)).trans (setO_cg (setO_same _ _ _ _) rfl)) rfl))) ?_
                  refine TT_aload_n hK rfl 0 rfl dX6_tellBit_180 ?_
                  refine TT_dup hK rfl dX6_tellBit_181 ?_
                  refine gf_X6_56 hK (by decide) rfl (v := (inS (h 43) ((h 39) 3) c1 p1).2.1) (rd_ ((sOf_ne _ _ (by decide)).trans ((sOf_ne _ _ (by decide)).trans (sOf_eq _ _ _))) ((fup_ne _ _ (by decide)).trans (fup_eq _ _ _))) dX6_tellBit_182 ?_
                  refine TT_iconst hK dX6_tellBit_185 ?_
                  refine TT_isub hK dX6_tellBit_186 ?_
                  refine pf_X6_56 hK (by decide) rfl dX6_tellBit_187 ?_
                  refine TT_hp (h' := setO (setO (setO h 39 (fup (fup (fup (fup (h 39) 4 ((inS (h 43) ((h 39) 3) c1 p1).2.2)) 5 (2 * a1)) 6 (((inS (h 43) ((h 39) 3) c1 p1).2.1) - 1)) 7 (min (2 * ((inS (h 43) ((h 39) 3) c1 p1).1)) 1099511627776))) 41 s1) 42 l1) (up_can ((sOf_ne _ _ (by decide)).trans ((sOf_ne _ _ (by decide)).trans (sOf_eq _ _ _))) ((fup_comm _ _ _ (by decide)).trans (fup_cg (fup_same _ _ _ _))) ((setO_comm _ _ _ (by decide)).trans (setO_cg ((setO_comm _ _ _ (by decide)).trans (setO_cg (setO_same _ _ _ _) rfl)) rfl))) ?_
                  refine TT_iinc hK (v := k + 1) (lv' := [(6, vI (k + 1)), (0, vR 39), (1, vI x), (5, vI b9)]) 3 rfl rfl (by decide) rfl dX6_tellBit_190 ?_
                  refine TT_goto hK (tgt := 127) dX6_tellBit_193 (by decide) ?_
                  refine TT_sub [1, 2, 3, 0] rfl ?_
                  exact ih4 (k + 1) (2 * a1) (min (2 * ((inS (h 43) ((h 39) 3) c1 p1).1)) 1099511627776) (((inS (h 43) ((h 39) 3) c1 p1).2.1) - 1) ((inS (h 43) ((h 39) 3) c1 p1).2.2) s1 l1 b9 R9 (by first | omega | (simp [up, setR] <;> omega)) (by first | omega | (simp [up, setR] <;> omega)) (by have h1 : (15 - k).toNat = (15 - (k + 1)).toNat + 1 := (by omega); rw [h1] at hM; first | exact RJ_next hM (by omega) (by omega) rfl | exact RJ_in hsrc hM (by omega) (by omega) rfl) (by omega) (by exact hR) (by first | omega | (simp [up, setR] <;> omega))
        refine TT_sub [4, 5, 1, 0] rfl ?_
        refine TT_hp (h' := setO (setO (setO h 39 (fup (fup (fup (fup (h 39) 4 ((h 39) 4)) 5 (((h 39) 5) - (qS ((h 41) x)))) 6 ((h 39) 6)) 7 (((h 39) 7) - (65536 * qS (h 41 x))))) 41 (lrS (h 41) x (((h 42) x) ≠ (h 42) x))) 42 (lrL (h 41) (h 42) x (((h 42) x) ≠ (h 42) x))) (setO_cg (setO_cg (setO_cg rfl (by first | exact fup_4567 _ _ _ | exact fup_4567b _ _)) (by first | rfl | exact fsr_0 _ _ _)) (by first | rfl | exact fsr_0 _ _ _)) ?_
        exact L127_4 ((((15 : Int) - 0).toNat) + 1) 0 (((h 39) 5) - (qS ((h 41) x))) (((h 39) 7) - (65536 * qS (h 41 x))) ((h 39) 6) ((h 39) 4) (lrS (h 41) x (((h 42) x) ≠ (h 42) x)) (lrL (h 41) (h 42) x (((h 42) x) ≠ (h 42) x)) ((h 42) x) (rmS fxC (h 43) (h 39 3) 15 (((h 39) 5) - (qS ((h 41) x))) (((h 39) 7) - (65536 * qS (h 41 x))) ((h 39) 6) ((h 39) 4)) (by first | omega | (simp [up, setR] <;> omega)) (by first | omega | (simp [up, setR] <;> omega)) (by exact RJ_0 (RQ_rd (x := x) (st := h 41) (P := lwC (h 39 7) < qS (h 41 x)) hq ha hs (by unfold lwC; first | exact (if_pos (by omega)).symm | exact (if_neg (by omega)).symm))) (by omega) (by refine rdS_m (by unfold lwC; omega) (by unfold lwC; first | exact (if_pos (by omega)).symm | exact (if_neg (by omega)).symm) (by unfold lwC; first | exact (if_pos (by omega)).symm | exact (if_neg (by omega)).symm) (by unfold lwC; omega) (by first | exact (if_pos (by omega)).symm | exact (if_neg (by omega)).symm)) (Nat.lt_succ_self _)
      · refine TT_iconst hK dX6_tellBit_103 ?_
        refine TT_iload hK 0 rfl dX6_tellBit_104 ?_
        refine TT_isub hK dX6_tellBit_106 ?_
        refine TT_goto hK (tgt := 112) dX6_tellBit_107 (by decide) ?_
        refine TT_istore hK (lv' := [(5, vI (1 - ((h 42) x))), (4, vI ((h 42) x)), (3, vI (qS ((h 41) x))), (0, vR 39), (1, vI x), (2, vI b)]) (by decide) rfl dX6_tellBit_112 ?_
        refine TT_aload_n hK rfl 3 rfl dX6_tellBit_114 ?_
        refine gf_X6_12 hK (by decide) rfl (q := 40) rfl rfl dX6_tellBit_115 ?_
        refine TT_iload_n hK rfl 4 rfl dX6_tellBit_118 ?_
        refine TT_iload hK 0 rfl dX6_tellBit_119 ?_
        have q121_41 : (setO h 39 (fup (fup (h 39) 5 (((h 39) 5) - (qS ((h 41) x)))) 7 (((h 39) 7) - (65536 * qS (h 41 x))))) 41 = h 41 := sOf_ne _ _ (by decide)
        have q121_42 : (setO h 39 (fup (fup (h 39) 5 (((h 39) 5) - (qS ((h 41) x)))) 7 (((h 39) 7) - (65536 * qS (h 41 x))))) 42 = h 42 := sOf_ne _ _ (by decide)
        refine iv_X6_71 hK (c_X2_learn_40 x (1 - ((h 42) x)) (setO h 39 (fup (fup (h 39) 5 (((h 39) 5) - (qS ((h 41) x)))) 7 (((h 39) 7) - (65536 * qS (h 41 x))))) (by first | omega | (simp [up, setR] <;> omega)) (by first | omega | (simp [up, setR] <;> omega)) (by rw [q121_41]; exact hst) (by rw [q121_42]; exact hlk)) (by decide) rfl ⟨by decide, by decide⟩ (by decide) rfl rfl (Nat.le_of_ble_eq_true rfl) ⟨by decide, by decide⟩ dX6_tellBit_121 ?_
        intro r9 h9 hp9
        rw [q121_41, q121_42] at hp9
        rw [hp9.1, hp9.2]
        show TT K ly 0 0 124 [(5, vI (1 - ((h 42) x))), (4, vI ((h 42) x)), (3, vI (qS ((h 41) x))), (0, vR 39), (1, vI x), (2, vI b)] [] (setO (setO (setO h 39 (fup (fup (h 39) 5 (((h 39) 5) - (qS ((h 41) x)))) 7 (((h 39) 7) - (65536 * qS (h 41 x))))) 41 (lrS (h 41) x ((1 - ((h 42) x)) ≠ (h 42) x))) 42 (lrL (h 41) (h 42) x ((1 - ((h 42) x)) ≠ (h 42) x)))
        refine TT_iconst hK dX6_tellBit_124 ?_
        refine TT_istore hK (lv' := [(6, vI 0), (5, vI (1 - ((h 42) x))), (4, vI ((h 42) x)), (3, vI (qS ((h 41) x))), (0, vR 39), (1, vI x), (2, vI b)]) (by decide) rfl dX6_tellBit_125 ?_
        have L127_8 : ∀ (k8 : Nat) (k : Int) (a1 : Int) (c1 : Int) (t1 : Int) (p1 : Int) (s1 : Int → Int) (l1 : Int → Int) (b9 : Int) (R9 : Int × Int × Int × Int), (0 ≤ k) → (k ≤ 15) → (RJ_ fxC (h 43) (h 39 3) (15 - k).toNat a1 c1 t1 p1 R9) → (0 ≤ c1 ∧ c1 ≤ 1099511627776) → ((rdS lwC fxC (h 43) (h 39 3) ((h 39 5), (h 39 7), (h 39 6), (h 39 4), (h 41), (h 42)) x) = (b9, R9.1, R9.2.1, R9.2.2.1, R9.2.2.2, s1, l1)) → ((15 : Int) - k).toNat < k8 → TT K ly 0 0 127 [(0, vR 39), (1, vI x), (5, vI b9), (6, vI k)] [] (setO (setO (setO h 39 (fup (fup (fup (fup (h 39) 4 p1) 5 a1) 6 t1) 7 c1)) 41 s1) 42 l1) := by
          intro k8
          induction k8 with
          | zero => intro k a1 c1 t1 p1 s1 l1 b9 R9 hkk0 hkk1 hM hcb1 hR hk8; exact absurd hk8 (Nat.not_lt_zero _)
          | succ k8 ih8 =>
            intro k a1 c1 t1 p1 s1 l1 b9 R9 hkk0 hkk1 hM hcb1 hR hk8
            obtain ⟨m1, m2, m3, m4, m5, m6⟩ := hM.2.2
            have hin := inS_r hsrc (c := c1) m5 m6
            refine TT_iload hK 3 rfl dX6_tellBit_127 ?_
            refine TT_bipush hK (by decide) dX6_tellBit_129 ?_
            refine TT_icmp_ge hK (tgt := 196) (irm (by omega) (by omega)) (by decide) dX6_tellBit_131 (by decide) (fun hb131 => ?_) (fun hb131 => ?_)
            · refine TT_iload hK 2 rfl dX6_tellBit_196 ?_
              refine TT_iret hK hQ ?_ dX6_tellBit_198
              have hE := RJ_done hM (by first | omega | (have h0 : (15 - k).toNat = 0 := (by omega); rw [h0] at hM; exact RJ_z hM))
              exact ⟨congrArg (fun z => some (vI z)) (by rw [hR]), setO_cg (setO_cg (setO_cg rfl (by rw [hR, ← hE])) (by rw [hR])) (by rw [hR])⟩
            · refine TT_aload_n hK rfl 0 rfl dX6_tellBit_134 ?_
              refine gf_X6_60 hK (by decide) rfl (v := a1) (rd_ ((sOf_ne _ _ (by decide)).trans ((sOf_ne _ _ (by decide)).trans (sOf_eq _ _ _))) ((fup_ne _ _ (by decide)).trans ((fup_ne _ _ (by decide)).trans (fup_eq _ _ _)))) dX6_tellBit_135 ?_
              refine TT_ldc hK lc_X6_59 dX6_tellBit_138 ?_
              refine TT_icmp_ge hK (tgt := 196) (irm (by omega) (by omega)) (by decide) dX6_tellBit_140 (by decide) (fun hb140 => ?_) (fun hb140 => ?_)
              · refine TT_iload hK 2 rfl dX6_tellBit_196 ?_
                refine TT_iret hK hQ ?_ dX6_tellBit_198
                have hE := RJ_done hM (by first | omega | (have h0 : (15 - k).toNat = 0 := (by omega); rw [h0] at hM; exact RJ_z hM))
                exact ⟨congrArg (fun z => some (vI z)) (by rw [hR]), setO_cg (setO_cg (setO_cg rfl (by rw [hR, ← hE])) (by rw [hR])) (by rw [hR])⟩
              · refine TT_aload_n hK rfl 0 rfl dX6_tellBit_143 ?_
                refine gf_X6_56 hK (by decide) rfl (v := t1) (rd_ ((sOf_ne _ _ (by decide)).trans ((sOf_ne _ _ (by decide)).trans (sOf_eq _ _ _))) ((fup_ne _ _ (by decide)).trans (fup_eq _ _ _))) dX6_tellBit_144 ?_
                refine TT_if_ne hK (tgt := 154) (irm (by omega) (by omega)) dX6_tellBit_147 (by decide) (fun hb147 => ?_) (fun hb147 => ?_)
                · refine TT_aload_n hK rfl 0 rfl dX6_tellBit_154 ?_
                  refine TT_dup hK rfl dX6_tellBit_155 ?_
                  refine gf_X6_60 hK (by decide) rfl (v := a1) (rd_ ((sOf_ne _ _ (by decide)).trans ((sOf_ne _ _ (by decide)).trans (sOf_eq _ _ _))) ((fup_ne _ _ (by decide)).trans ((fup_ne _ _ (by decide)).trans (fup_eq _ _ _)))) dX6_tellBit_156 ?_
                  refine TT_iconst hK dX6_tellBit_159 ?_
                  refine TT_ishl hK (by omega) (by omega) dX6_tellBit_160 ?_
                  refine TT_cgI (b := a1 * 2) rfl ?_
                  refine TT_cgI (b := 2 * a1) (by omega) ?_
                  refine pf_X6_60 hK (by decide) rfl dX6_tellBit_161 ?_
                  refine TT_hp (h' := setO (setO (setO h 39 (fup (fup (fup (fup (h 39) 4 p1) 5 (2 * a1)) 6 t1) 7 c1)) 41 s1) 42 l1) (up_can ((sOf_ne _ _ (by decide)).trans ((sOf_ne _ _ (by decide)).trans (sOf_eq _ _ _))) ((fup_comm _ _ _ (by decide)).trans (fup_cg ((fup_comm _ _ _ (by decide)).trans (fup_cg (fup_same _ _ _ _))))) ((setO_comm _ _ _ (by decide)).trans (setO_cg ((setO_comm _ _ _ (by decide)).trans (setO_cg (setO_same _ _ _ _) rfl)) rfl))) ?_
                  refine TT_aload_n hK rfl 0 rfl dX6_tellBit_164 ?_
                  refine TT_aload_n hK rfl 0 rfl dX6_tellBit_165 ?_
                  refine gf_X6_49 hK (by decide) rfl (v := c1) (rd_ ((sOf_ne _ _ (by decide)).trans ((sOf_ne _ _ (by decide)).trans (sOf_eq _ _ _))) (fup_eq _ _ _)) dX6_tellBit_166 ?_
                  refine TT_iconst hK dX6_tellBit_169 ?_
                  refine TT_lshl hK (by decide) dX6_tellBit_170 ?_
                  refine TT_cgJ (b := c1 * 2) rfl ?_
                  refine TT_cgJ (b := 2 * c1) (by omega) ?_
                  refine TT_ldc2 hK lc_X6_75 dX6_tellBit_171 ?_
                  refine TT_mminl hK (lrm (by omega) (by omega)) (by decide) iw_X6_77 (by decide) (Nat.le_of_ble_eq_true rfl) ⟨by decide, by decide⟩ dX6_tellBit_174 ?_
                  refine pf_X6_49 hK (by decide) rfl dX6_tellBit_177 ?_
                  refine TT_hp (h' := setO (setO (setO h 39 (fup (fup (fup (fup (h 39) 4 p1) 5 (2 * a1)) 6 t1) 7 (min (2 * c1) 1099511627776))) 41 s1) 42 l1) (up_can ((sOf_ne _ _ (by decide)).trans ((sOf_ne _ _ (by decide)).trans (sOf_eq _ _ _))) (fup_same _ _ _ _) ((setO_comm _ _ _ (by decide)).trans (setO_cg ((setO_comm _ _ _ (by decide)).trans (setO_cg (setO_same _ _ _ _) rfl)) rfl))) ?_
                  refine TT_aload_n hK rfl 0 rfl dX6_tellBit_180 ?_
                  refine TT_dup hK rfl dX6_tellBit_181 ?_
                  refine gf_X6_56 hK (by decide) rfl (v := t1) (rd_ ((sOf_ne _ _ (by decide)).trans ((sOf_ne _ _ (by decide)).trans (sOf_eq _ _ _))) ((fup_ne _ _ (by decide)).trans (fup_eq _ _ _))) dX6_tellBit_182 ?_
                  refine TT_iconst hK dX6_tellBit_185 ?_
                  refine TT_isub hK dX6_tellBit_186 ?_
                  refine pf_X6_56 hK (by decide) rfl dX6_tellBit_187 ?_
                  refine TT_hp (h' := setO (setO (setO h 39 (fup (fup (fup (fup (h 39) 4 p1) 5 (2 * a1)) 6 (t1 - 1)) 7 (min (2 * c1) 1099511627776))) 41 s1) 42 l1) (up_can ((sOf_ne _ _ (by decide)).trans ((sOf_ne _ _ (by decide)).trans (sOf_eq _ _ _))) ((fup_comm _ _ _ (by decide)).trans (fup_cg (fup_same _ _ _ _))) ((setO_comm _ _ _ (by decide)).trans (setO_cg ((setO_comm _ _ _ (by decide)).trans (setO_cg (setO_same _ _ _ _) rfl)) rfl))) ?_
                  refine TT_iinc hK (v := k + 1) (lv' := [(6, vI (k + 1)), (0, vR 39), (1, vI x), (5, vI b9)]) 3 rfl rfl (by decide) rfl dX6_tellBit_190 ?_
                  refine TT_goto hK (tgt := 127) dX6_tellBit_193 (by decide) ?_
                  refine TT_sub [1, 2, 3, 0] rfl ?_
                  exact ih8 (k + 1) (2 * a1) (min (2 * c1) 1099511627776) (t1 - 1) p1 s1 l1 b9 R9 (by first | omega | (simp [up, setR] <;> omega)) (by first | omega | (simp [up, setR] <;> omega)) (by have h1 : (15 - k).toNat = (15 - (k + 1)).toNat + 1 := (by omega); rw [h1] at hM; first | exact RJ_next hM (by omega) (by omega) rfl | exact RJ_in hsrc hM (by omega) (by omega) rfl) (by omega) (by exact hR) (by first | omega | (simp [up, setR] <;> omega))
                · refine TT_aload_n hK rfl 0 rfl dX6_tellBit_150 ?_
                  have q151_39_3 : (setO (setO (setO h 39 (fup (fup (fup (fup (h 39) 4 p1) 5 a1) 6 t1) 7 c1)) 41 s1) 42 l1) 39 3 = (h 39) 3 := rd_ ((sOf_ne _ _ (by decide)).trans ((sOf_ne _ _ (by decide)).trans (sOf_eq _ _ _))) ((fup_ne _ _ (by decide)).trans ((fup_ne _ _ (by decide)).trans ((fup_ne _ _ (by decide)).trans (fup_ne _ _ (by decide)))))
                  have q151_39_4 : (setO (setO (setO h 39 (fup (fup (fup (fup (h 39) 4 p1) 5 a1) 6 t1) 7 c1)) 41 s1) 42 l1) 39 4 = p1 := rd_ ((sOf_ne _ _ (by decide)).trans ((sOf_ne _ _ (by decide)).trans (sOf_eq _ _ _))) ((fup_ne _ _ (by decide)).trans ((fup_ne _ _ (by decide)).trans ((fup_ne _ _ (by decide)).trans (fup_eq _ _ _))))
                  have q151_39_7 : (setO (setO (setO h 39 (fup (fup (fup (fup (h 39) 4 p1) 5 a1) 6 t1) 7 c1)) 41 s1) 42 l1) 39 7 = c1 := rd_ ((sOf_ne _ _ (by decide)).trans ((sOf_ne _ _ (by decide)).trans (sOf_eq _ _ _))) (fup_eq _ _ _)
                  have q151_39 : (setO (setO (setO h 39 (fup (fup (fup (fup (h 39) 4 p1) 5 a1) 6 t1) 7 c1)) 41 s1) 42 l1) 39 = fup (fup (fup (fup (h 39) 4 p1) 5 a1) 6 t1) 7 c1 := (sOf_ne _ _ (by decide)).trans ((sOf_ne _ _ (by decide)).trans (sOf_eq _ _ _))
                  have q151_43 : (setO (setO (setO h 39 (fup (fup (fup (fup (h 39) 4 p1) 5 a1) 6 t1) 7 c1)) 41 s1) 42 l1) 43 = h 43 := (sOf_ne _ _ (by decide)).trans ((sOf_ne _ _ (by decide)).trans (sOf_ne _ _ (by decide)))
                  refine iv_X6_53 hK (c_X6_comeIn_39 (setO (setO (setO h 39 (fup (fup (fup (fup (h 39) 4 p1) 5 a1) 6 t1) 7 c1)) 41 s1) 42 l1) (by rw [q151_39_3, q151_43]; exact hsrc) (by rw [q151_39_3]; first | omega | (simp [up, setR] <;> omega)) (by rw [q151_39_3, q151_39_4]; first | omega | (simp [up, setR] <;> omega)) (by rw [q151_39_7]; first | omega | (simp [up, setR] <;> omega))) (by decide) rfl ⟨by decide, by decide⟩ (by decide) rfl rfl (Nat.le_of_ble_eq_true rfl) ⟨by decide, by decide⟩ dX6_tellBit_151 ?_
                  intro r9 h9 hp9
                  rw [q151_39_3, q151_39_4, q151_39_7, q151_39, q151_43] at hp9
                  rw [hp9.1, hp9.2]
                  refine TT_hp (h' := setO (setO (setO h 39 (fup (fup (fup (fup (h 39) 4 ((inS (h 43) ((h 39) 3) c1 p1).2.2)) 5 a1) 6 ((inS (h 43) ((h 39) 3) c1 p1).2.1)) 7 ((inS (h 43) ((h 39) 3) c1 p1).1))) 41 s1) 42 l1) ((setO_cg rfl ((fup_cg ((fup_cg ((fup_comm _ _ _ (by decide)).trans (fup_cg ((fup_comm _ _ _ (by decide)).trans (fup_cg ((fup_comm _ _ _ (by decide)).trans (fup_cg (fup_same _ _ _ _)))))))).trans ((fup_comm _ _ _ (by decide)).trans (fup_cg (fup_same _ _ _ _))))).trans (fup_same _ _ _ _))).trans ((setO_comm _ _ _ (by decide)).trans (setO_cg ((setO_comm _ _ _ (by decide)).trans (setO_cg (setO_same _ _ _ _) rfl)) rfl))) ?_
                  show TT K ly 0 0 154 [(0, vR 39), (1, vI x), (5, vI b9), (6, vI k)] [] (setO (setO (setO h 39 (fup (fup (fup (fup (h 39) 4 ((inS (h 43) ((h 39) 3) c1 p1).2.2)) 5 a1) 6 ((inS (h 43) ((h 39) 3) c1 p1).2.1)) 7 ((inS (h 43) ((h 39) 3) c1 p1).1))) 41 s1) 42 l1)
                  refine TT_aload_n hK rfl 0 rfl dX6_tellBit_154 ?_
                  refine TT_dup hK rfl dX6_tellBit_155 ?_
                  refine gf_X6_60 hK (by decide) rfl (v := a1) (rd_ ((sOf_ne _ _ (by decide)).trans ((sOf_ne _ _ (by decide)).trans (sOf_eq _ _ _))) ((fup_ne _ _ (by decide)).trans ((fup_ne _ _ (by decide)).trans (fup_eq _ _ _)))) dX6_tellBit_156 ?_
                  refine TT_iconst hK dX6_tellBit_159 ?_
                  refine TT_ishl hK (by omega) (by omega) dX6_tellBit_160 ?_
                  refine TT_cgI (b := a1 * 2) rfl ?_
                  refine TT_cgI (b := 2 * a1) (by omega) ?_
                  refine pf_X6_60 hK (by decide) rfl dX6_tellBit_161 ?_
                  refine TT_hp (h' := setO (setO (setO h 39 (fup (fup (fup (fup (h 39) 4 ((inS (h 43) ((h 39) 3) c1 p1).2.2)) 5 (2 * a1)) 6 ((inS (h 43) ((h 39) 3) c1 p1).2.1)) 7 ((inS (h 43) ((h 39) 3) c1 p1).1))) 41 s1) 42 l1) (up_can ((sOf_ne _ _ (by decide)).trans ((sOf_ne _ _ (by decide)).trans (sOf_eq _ _ _))) ((fup_comm _ _ _ (by decide)).trans (fup_cg ((fup_comm _ _ _ (by decide)).trans (fup_cg (fup_same _ _ _ _))))) ((setO_comm _ _ _ (by decide)).trans (setO_cg ((setO_comm _ _ _ (by decide)).trans (setO_cg (setO_same _ _ _ _) rfl)) rfl))) ?_
                  refine TT_aload_n hK rfl 0 rfl dX6_tellBit_164 ?_
                  refine TT_aload_n hK rfl 0 rfl dX6_tellBit_165 ?_
                  refine gf_X6_49 hK (by decide) rfl (v := (inS (h 43) ((h 39) 3) c1 p1).1) (rd_ ((sOf_ne _ _ (by decide)).trans ((sOf_ne _ _ (by decide)).trans (sOf_eq _ _ _))) (fup_eq _ _ _)) dX6_tellBit_166 ?_
                  refine TT_iconst hK dX6_tellBit_169 ?_
                  refine TT_lshl hK (by decide) dX6_tellBit_170 ?_
                  refine TT_cgJ (b := ((inS (h 43) ((h 39) 3) c1 p1).1) * 2) rfl ?_
                  refine TT_cgJ (b := 2 * ((inS (h 43) ((h 39) 3) c1 p1).1)) (by omega) ?_
                  refine TT_ldc2 hK lc_X6_75 dX6_tellBit_171 ?_
                  refine TT_mminl hK (lrm (by omega) (by omega)) (by decide) iw_X6_77 (by decide) (Nat.le_of_ble_eq_true rfl) ⟨by decide, by decide⟩ dX6_tellBit_174 ?_
                  refine pf_X6_49 hK (by decide) rfl dX6_tellBit_177 ?_
                  refine TT_hp (h' := setO (setO (setO h 39 (fup (fup (fup (fup (h 39) 4 ((inS (h 43) ((h 39) 3) c1 p1).2.2)) 5 (2 * a1)) 6 ((inS (h 43) ((h 39) 3) c1 p1).2.1)) 7 (min (2 * ((inS (h 43) ((h 39) 3) c1 p1).1)) 1099511627776))) 41 s1) 42 l1) (up_can ((sOf_ne _ _ (by decide)).trans ((sOf_ne _ _ (by decide)).trans (sOf_eq _ _ _))) (fup_same _ _ _ _) ((setO_comm _ _ _ (by decide)).trans (setO_cg ((setO_comm _ _ _ (by decide)).trans (setO_cg (setO_same _ _ _ _) rfl)) rfl))) ?_
                  refine TT_aload_n hK rfl 0 rfl dX6_tellBit_180 ?_
                  refine TT_dup hK rfl dX6_tellBit_181 ?_
                  refine gf_X6_56 hK (by decide) rfl (v := (inS (h 43) ((h 39) 3) c1 p1).2.1) (rd_ ((sOf_ne _ _ (by decide)).trans ((sOf_ne _ _ (by decide)).trans (sOf_eq _ _ _))) ((fup_ne _ _ (by decide)).trans (fup_eq _ _ _))) dX6_tellBit_182 ?_
                  refine TT_iconst hK dX6_tellBit_185 ?_
                  refine TT_isub hK dX6_tellBit_186 ?_
                  refine pf_X6_56 hK (by decide) rfl dX6_tellBit_187 ?_
                  refine TT_hp (h' := setO (setO (setO h 39 (fup (fup (fup (fup (h 39) 4 ((inS (h 43) ((h 39) 3) c1 p1).2.2)) 5 (2 * a1)) 6 (((inS (h 43) ((h 39) 3) c1 p1).2.1) - 1)) 7 (min (2 * ((inS (h 43) ((h 39) 3) c1 p1).1)) 1099511627776))) 41 s1) 42 l1) (up_can ((sOf_ne _ _ (by decide)).trans ((sOf_ne _ _ (by decide)).trans (sOf_eq _ _ _))) ((fup_comm _ _ _ (by decide)).trans (fup_cg (fup_same _ _ _ _))) ((setO_comm _ _ _ (by decide)).trans (setO_cg ((setO_comm _ _ _ (by decide)).trans (setO_cg (setO_same _ _ _ _) rfl)) rfl))) ?_
                  refine TT_iinc hK (v := k + 1) (lv' := [(6, vI (k + 1)), (0, vR 39), (1, vI x), (5, vI b9)]) 3 rfl rfl (by decide) rfl dX6_tellBit_190 ?_
                  refine TT_goto hK (tgt := 127) dX6_tellBit_193 (by decide) ?_
                  refine TT_sub [1, 2, 3, 0] rfl ?_
                  exact ih8 (k + 1) (2 * a1) (min (2 * ((inS (h 43) ((h 39) 3) c1 p1).1)) 1099511627776) (((inS (h 43) ((h 39) 3) c1 p1).2.1) - 1) ((inS (h 43) ((h 39) 3) c1 p1).2.2) s1 l1 b9 R9 (by first | omega | (simp [up, setR] <;> omega)) (by first | omega | (simp [up, setR] <;> omega)) (by have h1 : (15 - k).toNat = (15 - (k + 1)).toNat + 1 := (by omega); rw [h1] at hM; first | exact RJ_next hM (by omega) (by omega) rfl | exact RJ_in hsrc hM (by omega) (by omega) rfl) (by omega) (by exact hR) (by first | omega | (simp [up, setR] <;> omega))
        refine TT_sub [4, 5, 1, 0] rfl ?_
        refine TT_hp (h' := setO (setO (setO h 39 (fup (fup (fup (fup (h 39) 4 ((h 39) 4)) 5 (((h 39) 5) - (qS ((h 41) x)))) 6 ((h 39) 6)) 7 (((h 39) 7) - (65536 * qS (h 41 x))))) 41 (lrS (h 41) x ((1 - ((h 42) x)) ≠ (h 42) x))) 42 (lrL (h 41) (h 42) x ((1 - ((h 42) x)) ≠ (h 42) x))) (setO_cg (setO_cg (setO_cg rfl (by first | exact fup_4567 _ _ _ | exact fup_4567b _ _)) (by first | rfl | exact fsr_0 _ _ _)) (by first | rfl | exact fsr_0 _ _ _)) ?_
        exact L127_8 ((((15 : Int) - 0).toNat) + 1) 0 (((h 39) 5) - (qS ((h 41) x))) (((h 39) 7) - (65536 * qS (h 41 x))) ((h 39) 6) ((h 39) 4) (lrS (h 41) x ((1 - ((h 42) x)) ≠ (h 42) x)) (lrL (h 41) (h 42) x ((1 - ((h 42) x)) ≠ (h 42) x)) (1 - ((h 42) x)) (rmS fxC (h 43) (h 39 3) 15 (((h 39) 5) - (qS ((h 41) x))) (((h 39) 7) - (65536 * qS (h 41 x))) ((h 39) 6) ((h 39) 4)) (by first | omega | (simp [up, setR] <;> omega)) (by first | omega | (simp [up, setR] <;> omega)) (by exact RJ_0 (RQ_rd (x := x) (st := h 41) (P := lwC (h 39 7) < qS (h 41 x)) hq ha hs (by unfold lwC; first | exact (if_pos (by omega)).symm | exact (if_neg (by omega)).symm))) (by omega) (by refine rdS_m (by unfold lwC; omega) (by unfold lwC; first | exact (if_pos (by omega)).symm | exact (if_neg (by omega)).symm) (by unfold lwC; first | exact (if_pos (by omega)).symm | exact (if_neg (by omega)).symm) (by unfold lwC; omega) (by first | exact (if_pos (by omega)).symm | exact (if_neg (by omega)).symm)) (Nat.lt_succ_self _)
    · refine TT_iload hK 0 rfl dX6_tellBit_92 ?_
      refine TT_iret hK hQ ?_ dX6_tellBit_94
      have eT := rdS_1 (lw := lwC) (fx := fxC) (src := h 43) (m := h 39 3) (a := h 39 5) (c := h 39 7) (t := h 39 6) (p := h 39 4) (st := h 41) (lk := h 42) (x := x) (by unfold lwC; omega)
      exact ⟨congrArg (fun z => some (vI z)) (by rw [eT]), (setO_new ((sOf_ne _ _ (by decide)).trans (by rw [eT]))).trans (setO_cg ((setO_new ((sOf_ne _ _ (by decide)).trans (by rw [eT]))).trans (setO_cg (setO_cg rfl (by rw [eT]; first | exact fup_4567 _ _ _ | exact fup_4567b _ _)) rfl)) rfl)⟩
  · have hb39 := lcmp_lt hb39
    refine TT_aload_n hK rfl 2 rfl dX6_tellBit_42 ?_
    refine gf_X6_60 hK (by decide) rfl (v := ((h 39) 5) - (qS ((h 41) x))) (rd_ (sOf_eq _ _ _) (fup_eq _ _ _)) dX6_tellBit_43 ?_
    refine TT_iload_n hK rfl 1 rfl dX6_tellBit_46 ?_
    refine TT_icmp_ge hK (tgt := 55) (irm (by omega) (by omega)) (irm (by omega) (by omega)) dX6_tellBit_47 (by decide) (fun hb47 => ?_) (fun hb47 => ?_)
    · refine TT_iconst hK dX6_tellBit_55 ?_
      refine TT_iload hK 0 rfl dX6_tellBit_56 ?_
      refine TT_isub hK dX6_tellBit_58 ?_
      refine TT_istore hK (lv' := [(5, vI (1 - ((h 42) x))), (4, vI ((h 42) x)), (3, vI (qS ((h 41) x))), (0, vR 39), (1, vI x), (2, vI b)]) (by decide) rfl dX6_tellBit_59 ?_
      refine TT_aload_n hK rfl 3 rfl dX6_tellBit_61 ?_
      refine TT_iload_n hK rfl 2 rfl dX6_tellBit_62 ?_
      refine pf_X6_60 hK (by decide) rfl dX6_tellBit_63 ?_
      refine TT_hp (h' := setO h 39 (fup (h 39) 5 (qS ((h 41) x)))) (up_can (sOf_eq _ _ _) (fup_same _ _ _ _) (setO_same _ _ _ _)) ?_
      refine TT_goto hK (tgt := 114) dX6_tellBit_66 (by decide) ?_
      refine TT_aload_n hK rfl 3 rfl dX6_tellBit_114 ?_
      refine gf_X6_12 hK (by decide) rfl (q := 40) rfl rfl dX6_tellBit_115 ?_
      refine TT_iload_n hK rfl 4 rfl dX6_tellBit_118 ?_
      refine TT_iload hK 0 rfl dX6_tellBit_119 ?_
      have q121_41 : (setO h 39 (fup (h 39) 5 (qS ((h 41) x)))) 41 = h 41 := sOf_ne _ _ (by decide)
      have q121_42 : (setO h 39 (fup (h 39) 5 (qS ((h 41) x)))) 42 = h 42 := sOf_ne _ _ (by decide)
      refine iv_X6_71 hK (c_X2_learn_40 x (1 - ((h 42) x)) (setO h 39 (fup (h 39) 5 (qS ((h 41) x)))) (by first | omega | (simp [up, setR] <;> omega)) (by first | omega | (simp [up, setR] <;> omega)) (by rw [q121_41]; exact hst) (by rw [q121_42]; exact hlk)) (by decide) rfl ⟨by decide, by decide⟩ (by decide) rfl rfl (Nat.le_of_ble_eq_true rfl) ⟨by decide, by decide⟩ dX6_tellBit_121 ?_
      intro r9 h9 hp9
      rw [q121_41, q121_42] at hp9
      rw [hp9.1, hp9.2]
      show TT K ly 0 0 124 [(5, vI (1 - ((h 42) x))), (4, vI ((h 42) x)), (3, vI (qS ((h 41) x))), (0, vR 39), (1, vI x), (2, vI b)] [] (setO (setO (setO h 39 (fup (h 39) 5 (qS ((h 41) x)))) 41 (lrS (h 41) x ((1 - ((h 42) x)) ≠ (h 42) x))) 42 (lrL (h 41) (h 42) x ((1 - ((h 42) x)) ≠ (h 42) x)))
      refine TT_iconst hK dX6_tellBit_124 ?_
      refine TT_istore hK (lv' := [(6, vI 0), (5, vI (1 - ((h 42) x))), (4, vI ((h 42) x)), (3, vI (qS ((h 41) x))), (0, vR 39), (1, vI x), (2, vI b)]) (by decide) rfl dX6_tellBit_125 ?_
      have L127_13 : ∀ (k13 : Nat) (k : Int) (a1 : Int) (c1 : Int) (t1 : Int) (p1 : Int) (s1 : Int → Int) (l1 : Int → Int) (b9 : Int) (R9 : Int × Int × Int × Int), (0 ≤ k) → (k ≤ 15) → (RJ_ fxC (h 43) (h 39 3) (15 - k).toNat a1 c1 t1 p1 R9) → (0 ≤ c1 ∧ c1 ≤ 1099511627776) → ((rdS lwC fxC (h 43) (h 39 3) ((h 39 5), (h 39 7), (h 39 6), (h 39 4), (h 41), (h 42)) x) = (b9, R9.1, R9.2.1, R9.2.2.1, R9.2.2.2, s1, l1)) → ((15 : Int) - k).toNat < k13 → TT K ly 0 0 127 [(0, vR 39), (1, vI x), (5, vI b9), (6, vI k)] [] (setO (setO (setO h 39 (fup (fup (fup (fup (h 39) 4 p1) 5 a1) 6 t1) 7 c1)) 41 s1) 42 l1) := by
        intro k13
        induction k13 with
        | zero => intro k a1 c1 t1 p1 s1 l1 b9 R9 hkk0 hkk1 hM hcb1 hR hk13; exact absurd hk13 (Nat.not_lt_zero _)
        | succ k13 ih13 =>
          intro k a1 c1 t1 p1 s1 l1 b9 R9 hkk0 hkk1 hM hcb1 hR hk13
          obtain ⟨m1, m2, m3, m4, m5, m6⟩ := hM.2.2
          have hin := inS_r hsrc (c := c1) m5 m6
          refine TT_iload hK 3 rfl dX6_tellBit_127 ?_
          refine TT_bipush hK (by decide) dX6_tellBit_129 ?_
          refine TT_icmp_ge hK (tgt := 196) (irm (by omega) (by omega)) (by decide) dX6_tellBit_131 (by decide) (fun hb131 => ?_) (fun hb131 => ?_)
          · refine TT_iload hK 2 rfl dX6_tellBit_196 ?_
            refine TT_iret hK hQ ?_ dX6_tellBit_198
            have hE := RJ_done hM (by first | omega | (have h0 : (15 - k).toNat = 0 := (by omega); rw [h0] at hM; exact RJ_z hM))
            exact ⟨congrArg (fun z => some (vI z)) (by rw [hR]), setO_cg (setO_cg (setO_cg rfl (by rw [hR, ← hE])) (by rw [hR])) (by rw [hR])⟩
          · refine TT_aload_n hK rfl 0 rfl dX6_tellBit_134 ?_
            refine gf_X6_60 hK (by decide) rfl (v := a1) (rd_ ((sOf_ne _ _ (by decide)).trans ((sOf_ne _ _ (by decide)).trans (sOf_eq _ _ _))) ((fup_ne _ _ (by decide)).trans ((fup_ne _ _ (by decide)).trans (fup_eq _ _ _)))) dX6_tellBit_135 ?_
            refine TT_ldc hK lc_X6_59 dX6_tellBit_138 ?_
            refine TT_icmp_ge hK (tgt := 196) (irm (by omega) (by omega)) (by decide) dX6_tellBit_140 (by decide) (fun hb140 => ?_) (fun hb140 => ?_)
            · refine TT_iload hK 2 rfl dX6_tellBit_196 ?_
              refine TT_iret hK hQ ?_ dX6_tellBit_198
              have hE := RJ_done hM (by first | omega | (have h0 : (15 - k).toNat = 0 := (by omega); rw [h0] at hM; exact RJ_z hM))
              exact ⟨congrArg (fun z => some (vI z)) (by rw [hR]), setO_cg (setO_cg (setO_cg rfl (by rw [hR, ← hE])) (by rw [hR])) (by rw [hR])⟩
            · refine TT_aload_n hK rfl 0 rfl dX6_tellBit_143 ?_
              refine gf_X6_56 hK (by decide) rfl (v := t1) (rd_ ((sOf_ne _ _ (by decide)).trans ((sOf_ne _ _ (by decide)).trans (sOf_eq _ _ _))) ((fup_ne _ _ (by decide)).trans (fup_eq _ _ _))) dX6_tellBit_144 ?_
              refine TT_if_ne hK (tgt := 154) (irm (by omega) (by omega)) dX6_tellBit_147 (by decide) (fun hb147 => ?_) (fun hb147 => ?_)
              · refine TT_aload_n hK rfl 0 rfl dX6_tellBit_154 ?_
                refine TT_dup hK rfl dX6_tellBit_155 ?_
                refine gf_X6_60 hK (by decide) rfl (v := a1) (rd_ ((sOf_ne _ _ (by decide)).trans ((sOf_ne _ _ (by decide)).trans (sOf_eq _ _ _))) ((fup_ne _ _ (by decide)).trans ((fup_ne _ _ (by decide)).trans (fup_eq _ _ _)))) dX6_tellBit_156 ?_
                refine TT_iconst hK dX6_tellBit_159 ?_
                refine TT_ishl hK (by omega) (by omega) dX6_tellBit_160 ?_
                refine TT_cgI (b := a1 * 2) rfl ?_
                refine TT_cgI (b := 2 * a1) (by omega) ?_
                refine pf_X6_60 hK (by decide) rfl dX6_tellBit_161 ?_
                refine TT_hp (h' := setO (setO (setO h 39 (fup (fup (fup (fup (h 39) 4 p1) 5 (2 * a1)) 6 t1) 7 c1)) 41 s1) 42 l1) (up_can ((sOf_ne _ _ (by decide)).trans ((sOf_ne _ _ (by decide)).trans (sOf_eq _ _ _))) ((fup_comm _ _ _ (by decide)).trans (fup_cg ((fup_comm _ _ _ (by decide)).trans (fup_cg (fup_same _ _ _ _))))) ((setO_comm _ _ _ (by decide)).trans (setO_cg ((setO_comm _ _ _ (by decide)).trans (setO_cg (setO_same _ _ _ _) rfl)) rfl))) ?_
                refine TT_aload_n hK rfl 0 rfl dX6_tellBit_164 ?_
                refine TT_aload_n hK rfl 0 rfl dX6_tellBit_165 ?_
                refine gf_X6_49 hK (by decide) rfl (v := c1) (rd_ ((sOf_ne _ _ (by decide)).trans ((sOf_ne _ _ (by decide)).trans (sOf_eq _ _ _))) (fup_eq _ _ _)) dX6_tellBit_166 ?_
                refine TT_iconst hK dX6_tellBit_169 ?_
                refine TT_lshl hK (by decide) dX6_tellBit_170 ?_
                refine TT_cgJ (b := c1 * 2) rfl ?_
                refine TT_cgJ (b := 2 * c1) (by omega) ?_
                refine TT_ldc2 hK lc_X6_75 dX6_tellBit_171 ?_
                refine TT_mminl hK (lrm (by omega) (by omega)) (by decide) iw_X6_77 (by decide) (Nat.le_of_ble_eq_true rfl) ⟨by decide, by decide⟩ dX6_tellBit_174 ?_
                refine pf_X6_49 hK (by decide) rfl dX6_tellBit_177 ?_
                refine TT_hp (h' := setO (setO (setO h 39 (fup (fup (fup (fup (h 39) 4 p1) 5 (2 * a1)) 6 t1) 7 (min (2 * c1) 1099511627776))) 41 s1) 42 l1) (up_can ((sOf_ne _ _ (by decide)).trans ((sOf_ne _ _ (by decide)).trans (sOf_eq _ _ _))) (fup_same _ _ _ _) ((setO_comm _ _ _ (by decide)).trans (setO_cg ((setO_comm _ _ _ (by decide)).trans (setO_cg (setO_same _ _ _ _) rfl)) rfl))) ?_
                refine TT_aload_n hK rfl 0 rfl dX6_tellBit_180 ?_
                refine TT_dup hK rfl dX6_tellBit_181 ?_
                refine gf_X6_56 hK (by decide) rfl (v := t1) (rd_ ((sOf_ne _ _ (by decide)).trans ((sOf_ne _ _ (by decide)).trans (sOf_eq _ _ _))) ((fup_ne _ _ (by decide)).trans (fup_eq _ _ _))) dX6_tellBit_182 ?_
                refine TT_iconst hK dX6_tellBit_185 ?_
                refine TT_isub hK dX6_tellBit_186 ?_
                refine pf_X6_56 hK (by decide) rfl dX6_tellBit_187 ?_
                refine TT_hp (h' := setO (setO (setO h 39 (fup (fup (fup (fup (h 39) 4 p1) 5 (2 * a1)) 6 (t1 - 1)) 7 (min (2 * c1) 1099511627776))) 41 s1) 42 l1) (up_can ((sOf_ne _ _ (by decide)).trans ((sOf_ne _ _ (by decide)).trans (sOf_eq _ _ _))) ((fup_comm _ _ _ (by decide)).trans (fup_cg (fup_same _ _ _ _))) ((setO_comm _ _ _ (by decide)).trans (setO_cg ((setO_comm _ _ _ (by decide)).trans (setO_cg (setO_same _ _ _ _) rfl)) rfl))) ?_
                refine TT_iinc hK (v := k + 1) (lv' := [(6, vI (k + 1)), (0, vR 39), (1, vI x), (5, vI b9)]) 3 rfl rfl (by decide) rfl dX6_tellBit_190 ?_
                refine TT_goto hK (tgt := 127) dX6_tellBit_193 (by decide) ?_
                refine TT_sub [1, 2, 3, 0] rfl ?_
                exact ih13 (k + 1) (2 * a1) (min (2 * c1) 1099511627776) (t1 - 1) p1 s1 l1 b9 R9 (by first | omega | (simp [up, setR] <;> omega)) (by first | omega | (simp [up, setR] <;> omega)) (by have h1 : (15 - k).toNat = (15 - (k + 1)).toNat + 1 := (by omega); rw [h1] at hM; first | exact RJ_next hM (by omega) (by omega) rfl | exact RJ_in hsrc hM (by omega) (by omega) rfl) (by omega) (by exact hR) (by first | omega | (simp [up, setR] <;> omega))
              · refine TT_aload_n hK rfl 0 rfl dX6_tellBit_150 ?_
                have q151_39_3 : (setO (setO (setO h 39 (fup (fup (fup (fup (h 39) 4 p1) 5 a1) 6 t1) 7 c1)) 41 s1) 42 l1) 39 3 = (h 39) 3 := rd_ ((sOf_ne _ _ (by decide)).trans ((sOf_ne _ _ (by decide)).trans (sOf_eq _ _ _))) ((fup_ne _ _ (by decide)).trans ((fup_ne _ _ (by decide)).trans ((fup_ne _ _ (by decide)).trans (fup_ne _ _ (by decide)))))
                have q151_39_4 : (setO (setO (setO h 39 (fup (fup (fup (fup (h 39) 4 p1) 5 a1) 6 t1) 7 c1)) 41 s1) 42 l1) 39 4 = p1 := rd_ ((sOf_ne _ _ (by decide)).trans ((sOf_ne _ _ (by decide)).trans (sOf_eq _ _ _))) ((fup_ne _ _ (by decide)).trans ((fup_ne _ _ (by decide)).trans ((fup_ne _ _ (by decide)).trans (fup_eq _ _ _))))
                have q151_39_7 : (setO (setO (setO h 39 (fup (fup (fup (fup (h 39) 4 p1) 5 a1) 6 t1) 7 c1)) 41 s1) 42 l1) 39 7 = c1 := rd_ ((sOf_ne _ _ (by decide)).trans ((sOf_ne _ _ (by decide)).trans (sOf_eq _ _ _))) (fup_eq _ _ _)
                have q151_39 : (setO (setO (setO h 39 (fup (fup (fup (fup (h 39) 4 p1) 5 a1) 6 t1) 7 c1)) 41 s1) 42 l1) 39 = fup (fup (fup (fup (h 39) 4 p1) 5 a1) 6 t1) 7 c1 := (sOf_ne _ _ (by decide)).trans ((sOf_ne _ _ (by decide)).trans (sOf_eq _ _ _))
                have q151_43 : (setO (setO (setO h 39 (fup (fup (fup (fup (h 39) 4 p1) 5 a1) 6 t1) 7 c1)) 41 s1) 42 l1) 43 = h 43 := (sOf_ne _ _ (by decide)).trans ((sOf_ne _ _ (by decide)).trans (sOf_ne _ _ (by decide)))
                refine iv_X6_53 hK (c_X6_comeIn_39 (setO (setO (setO h 39 (fup (fup (fup (fup (h 39) 4 p1) 5 a1) 6 t1) 7 c1)) 41 s1) 42 l1) (by rw [q151_39_3, q151_43]; exact hsrc) (by rw [q151_39_3]; first | omega | (simp [up, setR] <;> omega)) (by rw [q151_39_3, q151_39_4]; first | omega | (simp [up, setR] <;> omega)) (by rw [q151_39_7]; first | omega | (simp [up, setR] <;> omega))) (by decide) rfl ⟨by decide, by decide⟩ (by decide) rfl rfl (Nat.le_of_ble_eq_true rfl) ⟨by decide, by decide⟩ dX6_tellBit_151 ?_
                intro r9 h9 hp9
                rw [q151_39_3, q151_39_4, q151_39_7, q151_39, q151_43] at hp9
                rw [hp9.1, hp9.2]
                refine TT_hp (h' := setO (setO (setO h 39 (fup (fup (fup (fup (h 39) 4 ((inS (h 43) ((h 39) 3) c1 p1).2.2)) 5 a1) 6 ((inS (h 43) ((h 39) 3) c1 p1).2.1)) 7 ((inS (h 43) ((h 39) 3) c1 p1).1))) 41 s1) 42 l1) ((setO_cg rfl ((fup_cg ((fup_cg ((fup_comm _ _ _ (by decide)).trans (fup_cg ((fup_comm _ _ _ (by decide)).trans (fup_cg ((fup_comm _ _ _ (by decide)).trans (fup_cg (fup_same _ _ _ _)))))))).trans ((fup_comm _ _ _ (by decide)).trans (fup_cg (fup_same _ _ _ _))))).trans (fup_same _ _ _ _))).trans ((setO_comm _ _ _ (by decide)).trans (setO_cg ((setO_comm _ _ _ (by decide)).trans (setO_cg (setO_same _ _ _ _) rfl)) rfl))) ?_
                show TT K ly 0 0 154 [(0, vR 39), (1, vI x), (5, vI b9), (6, vI k)] [] (setO (setO (setO h 39 (fup (fup (fup (fup (h 39) 4 ((inS (h 43) ((h 39) 3) c1 p1).2.2)) 5 a1) 6 ((inS (h 43) ((h 39) 3) c1 p1).2.1)) 7 ((inS (h 43) ((h 39) 3) c1 p1).1))) 41 s1) 42 l1)
                refine TT_aload_n hK rfl 0 rfl dX6_tellBit_154 ?_
                refine TT_dup hK rfl dX6_tellBit_155 ?_
                refine gf_X6_60 hK (by decide) rfl (v := a1) (rd_ ((sOf_ne _ _ (by decide)).trans ((sOf_ne _ _ (by decide)).trans (sOf_eq _ _ _))) ((fup_ne _ _ (by decide)).trans ((fup_ne _ _ (by decide)).trans (fup_eq _ _ _)))) dX6_tellBit_156 ?_
                refine TT_iconst hK dX6_tellBit_159 ?_
                refine TT_ishl hK (by omega) (by omega) dX6_tellBit_160 ?_
                refine TT_cgI (b := a1 * 2) rfl ?_
                refine TT_cgI (b := 2 * a1) (by omega) ?_
                refine pf_X6_60 hK (by decide) rfl dX6_tellBit_161 ?_
                refine TT_hp (h' := setO (setO (setO h 39 (fup (fup (fup (fup (h 39) 4 ((inS (h 43) ((h 39) 3) c1 p1).2.2)) 5 (2 * a1)) 6 ((inS (h 43) ((h 39) 3) c1 p1).2.1)) 7 ((inS (h 43) ((h 39) 3) c1 p1).1))) 41 s1) 42 l1) (up_can ((sOf_ne _ _ (by decide)).trans ((sOf_ne _ _ (by decide)).trans (sOf_eq _ _ _))) ((fup_comm _ _ _ (by decide)).trans (fup_cg ((fup_comm _ _ _ (by decide)).trans (fup_cg (fup_same _ _ _ _))))) ((setO_comm _ _ _ (by decide)).trans (setO_cg ((setO_comm _ _ _ (by decide)).trans (setO_cg (setO_same _ _ _ _) rfl)) rfl))) ?_
                refine TT_aload_n hK rfl 0 rfl dX6_tellBit_164 ?_
                refine TT_aload_n hK rfl 0 rfl dX6_tellBit_165 ?_
                refine gf_X6_49 hK (by decide) rfl (v := (inS (h 43) ((h 39) 3) c1 p1).1) (rd_ ((sOf_ne _ _ (by decide)).trans ((sOf_ne _ _ (by decide)).trans (sOf_eq _ _ _))) (fup_eq _ _ _)) dX6_tellBit_166 ?_
                refine TT_iconst hK dX6_tellBit_169 ?_
                refine TT_lshl hK (by decide) dX6_tellBit_170 ?_
                refine TT_cgJ (b := ((inS (h 43) ((h 39) 3) c1 p1).1) * 2) rfl ?_
                refine TT_cgJ (b := 2 * ((inS (h 43) ((h 39) 3) c1 p1).1)) (by omega) ?_
                refine TT_ldc2 hK lc_X6_75 dX6_tellBit_171 ?_
                refine TT_mminl hK (lrm (by omega) (by omega)) (by decide) iw_X6_77 (by decide) (Nat.le_of_ble_eq_true rfl) ⟨by decide, by decide⟩ dX6_tellBit_174 ?_
                refine pf_X6_49 hK (by decide) rfl dX6_tellBit_177 ?_
                refine TT_hp (h' := setO (setO (setO h 39 (fup (fup (fup (fup (h 39) 4 ((inS (h 43) ((h 39) 3) c1 p1).2.2)) 5 (2 * a1)) 6 ((inS (h 43) ((h 39) 3) c1 p1).2.1)) 7 (min (2 * ((inS (h 43) ((h 39) 3) c1 p1).1)) 1099511627776))) 41 s1) 42 l1) (up_can ((sOf_ne _ _ (by decide)).trans ((sOf_ne _ _ (by decide)).trans (sOf_eq _ _ _))) (fup_same _ _ _ _) ((setO_comm _ _ _ (by decide)).trans (setO_cg ((setO_comm _ _ _ (by decide)).trans (setO_cg (setO_same _ _ _ _) rfl)) rfl))) ?_
                refine TT_aload_n hK rfl 0 rfl dX6_tellBit_180 ?_
                refine TT_dup hK rfl dX6_tellBit_181 ?_
                refine gf_X6_56 hK (by decide) rfl (v := (inS (h 43) ((h 39) 3) c1 p1).2.1) (rd_ ((sOf_ne _ _ (by decide)).trans ((sOf_ne _ _ (by decide)).trans (sOf_eq _ _ _))) ((fup_ne _ _ (by decide)).trans (fup_eq _ _ _))) dX6_tellBit_182 ?_
                refine TT_iconst hK dX6_tellBit_185 ?_
                refine TT_isub hK dX6_tellBit_186 ?_
                refine pf_X6_56 hK (by decide) rfl dX6_tellBit_187 ?_
                refine TT_hp (h' := setO (setO (setO h 39 (fup (fup (fup (fup (h 39) 4 ((inS (h 43) ((h 39) 3) c1 p1).2.2)) 5 (2 * a1)) 6 (((inS (h 43) ((h 39) 3) c1 p1).2.1) - 1)) 7 (min (2 * ((inS (h 43) ((h 39) 3) c1 p1).1)) 1099511627776))) 41 s1) 42 l1) (up_can ((sOf_ne _ _ (by decide)).trans ((sOf_ne _ _ (by decide)).trans (sOf_eq _ _ _))) ((fup_comm _ _ _ (by decide)).trans (fup_cg (fup_same _ _ _ _))) ((setO_comm _ _ _ (by decide)).trans (setO_cg ((setO_comm _ _ _ (by decide)).trans (setO_cg (setO_same _ _ _ _) rfl)) rfl))) ?_
                refine TT_iinc hK (v := k + 1) (lv' := [(6, vI (k + 1)), (0, vR 39), (1, vI x), (5, vI b9)]) 3 rfl rfl (by decide) rfl dX6_tellBit_190 ?_
                refine TT_goto hK (tgt := 127) dX6_tellBit_193 (by decide) ?_
                refine TT_sub [1, 2, 3, 0] rfl ?_
                exact ih13 (k + 1) (2 * a1) (min (2 * ((inS (h 43) ((h 39) 3) c1 p1).1)) 1099511627776) (((inS (h 43) ((h 39) 3) c1 p1).2.1) - 1) ((inS (h 43) ((h 39) 3) c1 p1).2.2) s1 l1 b9 R9 (by first | omega | (simp [up, setR] <;> omega)) (by first | omega | (simp [up, setR] <;> omega)) (by have h1 : (15 - k).toNat = (15 - (k + 1)).toNat + 1 := (by omega); rw [h1] at hM; first | exact RJ_next hM (by omega) (by omega) rfl | exact RJ_in hsrc hM (by omega) (by omega) rfl) (by omega) (by exact hR) (by first | omega | (simp [up, setR] <;> omega))
      refine TT_sub [4, 5, 1, 0] rfl ?_
      refine TT_hp (h' := setO (setO (setO h 39 (fup (fup (fup (fup (h 39) 4 ((h 39) 4)) 5 (qS ((h 41) x))) 6 ((h 39) 6)) 7 ((h 39) 7))) 41 (lrS (h 41) x ((1 - ((h 42) x)) ≠ (h 42) x))) 42 (lrL (h 41) (h 42) x ((1 - ((h 42) x)) ≠ (h 42) x))) (setO_cg (setO_cg (setO_cg rfl (by first | exact fup_4567 _ _ _ | exact fup_4567b _ _)) (by first | rfl | exact fsr_0 _ _ _)) (by first | rfl | exact fsr_0 _ _ _)) ?_
      exact L127_13 ((((15 : Int) - 0).toNat) + 1) 0 (qS ((h 41) x)) ((h 39) 7) ((h 39) 6) ((h 39) 4) (lrS (h 41) x ((1 - ((h 42) x)) ≠ (h 42) x)) (lrL (h 41) (h 42) x ((1 - ((h 42) x)) ≠ (h 42) x)) (1 - ((h 42) x)) (rmS fxC (h 43) (h 39 3) 15 (qS ((h 41) x)) ((h 39) 7) ((h 39) 6) ((h 39) 4)) (by first | omega | (simp [up, setR] <;> omega)) (by first | omega | (simp [up, setR] <;> omega)) (by exact RJ_0 (RQ_rd (x := x) (st := h 41) (P := lwC (h 39 7) < qS (h 41 x)) hq ha hs (by unfold lwC; first | exact (if_pos (by omega)).symm | exact (if_neg (by omega)).symm))) (by omega) (by refine rdS_m (by unfold lwC; omega) (by unfold lwC; first | exact (if_pos (by omega)).symm | exact (if_neg (by omega)).symm) (by unfold lwC; first | exact (if_pos (by omega)).symm | exact (if_neg (by omega)).symm) (by unfold lwC; omega) (by first | exact (if_pos (by omega)).symm | exact (if_neg (by omega)).symm)) (Nat.lt_succ_self _)
    · refine TT_iload hK 0 rfl dX6_tellBit_50 ?_
      refine TT_goto hK (tgt := 59) dX6_tellBit_52 (by decide) ?_
      refine TT_istore hK (lv' := [(5, vI ((h 42) x)), (4, vI ((h 42) x)), (3, vI (qS ((h 41) x))), (0, vR 39), (1, vI x), (2, vI b)]) (by decide) rfl dX6_tellBit_59 ?_
      refine TT_aload_n hK rfl 3 rfl dX6_tellBit_61 ?_
      refine TT_iload_n hK rfl 2 rfl dX6_tellBit_62 ?_
      refine pf_X6_60 hK (by decide) rfl dX6_tellBit_63 ?_
      refine TT_hp (h' := setO h 39 (fup (h 39) 5 (qS ((h 41) x)))) (up_can (sOf_eq _ _ _) (fup_same _ _ _ _) (setO_same _ _ _ _)) ?_
      refine TT_goto hK (tgt := 114) dX6_tellBit_66 (by decide) ?_
      refine TT_aload_n hK rfl 3 rfl dX6_tellBit_114 ?_
      refine gf_X6_12 hK (by decide) rfl (q := 40) rfl rfl dX6_tellBit_115 ?_
      refine TT_iload_n hK rfl 4 rfl dX6_tellBit_118 ?_
      refine TT_iload hK 0 rfl dX6_tellBit_119 ?_
      have q121_41 : (setO h 39 (fup (h 39) 5 (qS ((h 41) x)))) 41 = h 41 := sOf_ne _ _ (by decide)
      have q121_42 : (setO h 39 (fup (h 39) 5 (qS ((h 41) x)))) 42 = h 42 := sOf_ne _ _ (by decide)
      refine iv_X6_71 hK (c_X2_learn_40 x ((h 42) x) (setO h 39 (fup (h 39) 5 (qS ((h 41) x)))) (by first | omega | (simp [up, setR] <;> omega)) (by first | omega | (simp [up, setR] <;> omega)) (by rw [q121_41]; exact hst) (by rw [q121_42]; exact hlk)) (by decide) rfl ⟨by decide, by decide⟩ (by decide) rfl rfl (Nat.le_of_ble_eq_true rfl) ⟨by decide, by decide⟩ dX6_tellBit_121 ?_
      intro r9 h9 hp9
      rw [q121_41, q121_42] at hp9
      rw [hp9.1, hp9.2]
      show TT K ly 0 0 124 [(5, vI ((h 42) x)), (4, vI ((h 42) x)), (3, vI (qS ((h 41) x))), (0, vR 39), (1, vI x), (2, vI b)] [] (setO (setO (setO h 39 (fup (h 39) 5 (qS ((h 41) x)))) 41 (lrS (h 41) x (((h 42) x) ≠ (h 42) x))) 42 (lrL (h 41) (h 42) x (((h 42) x) ≠ (h 42) x)))
      refine TT_iconst hK dX6_tellBit_124 ?_
      refine TT_istore hK (lv' := [(6, vI 0), (5, vI ((h 42) x)), (4, vI ((h 42) x)), (3, vI (qS ((h 41) x))), (0, vR 39), (1, vI x), (2, vI b)]) (by decide) rfl dX6_tellBit_125 ?_
      have L127_17 : ∀ (k17 : Nat) (k : Int) (a1 : Int) (c1 : Int) (t1 : Int) (p1 : Int) (s1 : Int → Int) (l1 : Int → Int) (b9 : Int) (R9 : Int × Int × Int × Int), (0 ≤ k) → (k ≤ 15) → (RJ_ fxC (h 43) (h 39 3) (15 - k).toNat a1 c1 t1 p1 R9) → (0 ≤ c1 ∧ c1 ≤ 1099511627776) → ((rdS lwC fxC (h 43) (h 39 3) ((h 39 5), (h 39 7), (h 39 6), (h 39 4), (h 41), (h 42)) x) = (b9, R9.1, R9.2.1, R9.2.2.1, R9.2.2.2, s1, l1)) → ((15 : Int) - k).toNat < k17 → TT K ly 0 0 127 [(0, vR 39), (1, vI x), (5, vI b9), (6, vI k)] [] (setO (setO (setO h 39 (fup (fup (fup (fup (h 39) 4 p1) 5 a1) 6 t1) 7 c1)) 41 s1) 42 l1) := by
        intro k17
        induction k17 with
        | zero => intro k a1 c1 t1 p1 s1 l1 b9 R9 hkk0 hkk1 hM hcb1 hR hk17; exact absurd hk17 (Nat.not_lt_zero _)
        | succ k17 ih17 =>
          intro k a1 c1 t1 p1 s1 l1 b9 R9 hkk0 hkk1 hM hcb1 hR hk17
          obtain ⟨m1, m2, m3, m4, m5, m6⟩ := hM.2.2
          have hin := inS_r hsrc (c := c1) m5 m6
          refine TT_iload hK 3 rfl dX6_tellBit_127 ?_
          refine TT_bipush hK (by decide) dX6_tellBit_129 ?_
          refine TT_icmp_ge hK (tgt := 196) (irm (by omega) (by omega)) (by decide) dX6_tellBit_131 (by decide) (fun hb131 => ?_) (fun hb131 => ?_)
          · refine TT_iload hK 2 rfl dX6_tellBit_196 ?_
            refine TT_iret hK hQ ?_ dX6_tellBit_198
            have hE := RJ_done hM (by first | omega | (have h0 : (15 - k).toNat = 0 := (by omega); rw [h0] at hM; exact RJ_z hM))
            exact ⟨congrArg (fun z => some (vI z)) (by rw [hR]), setO_cg (setO_cg (setO_cg rfl (by rw [hR, ← hE])) (by rw [hR])) (by rw [hR])⟩
          · refine TT_aload_n hK rfl 0 rfl dX6_tellBit_134 ?_
            refine gf_X6_60 hK (by decide) rfl (v := a1) (rd_ ((sOf_ne _ _ (by decide)).trans ((sOf_ne _ _ (by decide)).trans (sOf_eq _ _ _))) ((fup_ne _ _ (by decide)).trans ((fup_ne _ _ (by decide)).trans (fup_eq _ _ _)))) dX6_tellBit_135 ?_
            refine TT_ldc hK lc_X6_59 dX6_tellBit_138 ?_
            refine TT_icmp_ge hK (tgt := 196) (irm (by omega) (by omega)) (by decide) dX6_tellBit_140 (by decide) (fun hb140 => ?_) (fun hb140 => ?_)
            · refine TT_iload hK 2 rfl dX6_tellBit_196 ?_
              refine TT_iret hK hQ ?_ dX6_tellBit_198
              have hE := RJ_done hM (by first | omega | (have h0 : (15 - k).toNat = 0 := (by omega); rw [h0] at hM; exact RJ_z hM))
              exact ⟨congrArg (fun z => some (vI z)) (by rw [hR]), setO_cg (setO_cg (setO_cg rfl (by rw [hR, ← hE])) (by rw [hR])) (by rw [hR])⟩
            · refine TT_aload_n hK rfl 0 rfl dX6_tellBit_143 ?_
              refine gf_X6_56 hK (by decide) rfl (v := t1) (rd_ ((sOf_ne _ _ (by decide)).trans ((sOf_ne _ _ (by decide)).trans (sOf_eq _ _ _))) ((fup_ne _ _ (by decide)).trans (fup_eq _ _ _))) dX6_tellBit_144 ?_
              refine TT_if_ne hK (tgt := 154) (irm (by omega) (by omega)) dX6_tellBit_147 (by decide) (fun hb147 => ?_) (fun hb147 => ?_)
              · refine TT_aload_n hK rfl 0 rfl dX6_tellBit_154 ?_
                refine TT_dup hK rfl dX6_tellBit_155 ?_
                refine gf_X6_60 hK (by decide) rfl (v := a1) (rd_ ((sOf_ne _ _ (by decide)).trans ((sOf_ne _ _ (by decide)).trans (sOf_eq _ _ _))) ((fup_ne _ _ (by decide)).trans ((fup_ne _ _ (by decide)).trans (fup_eq _ _ _)))) dX6_tellBit_156 ?_
                refine TT_iconst hK dX6_tellBit_159 ?_
                refine TT_ishl hK (by omega) (by omega) dX6_tellBit_160 ?_
                refine TT_cgI (b := a1 * 2) rfl ?_
                refine TT_cgI (b := 2 * a1) (by omega) ?_
                refine pf_X6_60 hK (by decide) rfl dX6_tellBit_161 ?_
                refine TT_hp (h' := setO (setO (setO h 39 (fup (fup (fup (fup (h 39) 4 p1) 5 (2 * a1)) 6 t1) 7 c1)) 41 s1) 42 l1) (up_can ((sOf_ne _ _ (by decide)).trans ((sOf_ne _ _ (by decide)).trans (sOf_eq _ _ _))) ((fup_comm _ _ _ (by decide)).trans (fup_cg ((fup_comm _ _ _ (by decide)).trans (fup_cg (fup_same _ _ _ _))))) ((setO_comm _ _ _ (by decide)).trans (setO_cg ((setO_comm _ _ _ (by decide)).trans (setO_cg (setO_same _ _ _ _) rfl)) rfl))) ?_
                refine TT_aload_n hK rfl 0 rfl dX6_tellBit_164 ?_
                refine TT_aload_n hK rfl 0 rfl dX6_tellBit_165 ?_
                refine gf_X6_49 hK (by decide) rfl (v := c1) (rd_ ((sOf_ne _ _ (by decide)).trans ((sOf_ne _ _ (by decide)).trans (sOf_eq _ _ _))) (fup_eq _ _ _)) dX6_tellBit_166 ?_
                refine TT_iconst hK dX6_tellBit_169 ?_
                refine TT_lshl hK (by decide) dX6_tellBit_170 ?_
                refine TT_cgJ (b := c1 * 2) rfl ?_
                refine TT_cgJ (b := 2 * c1) (by omega) ?_
                refine TT_ldc2 hK lc_X6_75 dX6_tellBit_171 ?_
                refine TT_mminl hK (lrm (by omega) (by omega)) (by decide) iw_X6_77 (by decide) (Nat.le_of_ble_eq_true rfl) ⟨by decide, by decide⟩ dX6_tellBit_174 ?_
                refine pf_X6_49 hK (by decide) rfl dX6_tellBit_177 ?_
                refine TT_hp (h' := setO (setO (setO h 39 (fup (fup (fup (fup (h 39) 4 p1) 5 (2 * a1)) 6 t1) 7 (min (2 * c1) 1099511627776))) 41 s1) 42 l1) (up_can ((sOf_ne _ _ (by decide)).trans ((sOf_ne _ _ (by decide)).trans (sOf_eq _ _ _))) (fup_same _ _ _ _) ((setO_comm _ _ _ (by decide)).trans (setO_cg ((setO_comm _ _ _ (by decide)).trans (setO_cg (setO_same _ _ _ _) rfl)) rfl))) ?_
                refine TT_aload_n hK rfl 0 rfl dX6_tellBit_180 ?_
                refine TT_dup hK rfl dX6_tellBit_181 ?_
                refine gf_X6_56 hK (by decide) rfl (v := t1) (rd_ ((sOf_ne _ _ (by decide)).trans ((sOf_ne _ _ (by decide)).trans (sOf_eq _ _ _))) ((fup_ne _ _ (by decide)).trans (fup_eq _ _ _))) dX6_tellBit_182 ?_
                refine TT_iconst hK dX6_tellBit_185 ?_
                refine TT_isub hK dX6_tellBit_186 ?_
                refine pf_X6_56 hK (by decide) rfl dX6_tellBit_187 ?_
                refine TT_hp (h' := setO (setO (setO h 39 (fup (fup (fup (fup (h 39) 4 p1) 5 (2 * a1)) 6 (t1 - 1)) 7 (min (2 * c1) 1099511627776))) 41 s1) 42 l1) (up_can ((sOf_ne _ _ (by decide)).trans ((sOf_ne _ _ (by decide)).trans (sOf_eq _ _ _))) ((fup_comm _ _ _ (by decide)).trans (fup_cg (fup_same _ _ _ _))) ((setO_comm _ _ _ (by decide)).trans (setO_cg ((setO_comm _ _ _ (by decide)).trans (setO_cg (setO_same _ _ _ _) rfl)) rfl))) ?_
                refine TT_iinc hK (v := k + 1) (lv' := [(6, vI (k + 1)), (0, vR 39), (1, vI x), (5, vI b9)]) 3 rfl rfl (by decide) rfl dX6_tellBit_190 ?_
                refine TT_goto hK (tgt := 127) dX6_tellBit_193 (by decide) ?_
                refine TT_sub [1, 2, 3, 0] rfl ?_
                exact ih17 (k + 1) (2 * a1) (min (2 * c1) 1099511627776) (t1 - 1) p1 s1 l1 b9 R9 (by first | omega | (simp [up, setR] <;> omega)) (by first | omega | (simp [up, setR] <;> omega)) (by have h1 : (15 - k).toNat = (15 - (k + 1)).toNat + 1 := (by omega); rw [h1] at hM; first | exact RJ_next hM (by omega) (by omega) rfl | exact RJ_in hsrc hM (by omega) (by omega) rfl) (by omega) (by exact hR) (by first | omega | (simp [up, setR] <;> omega))
              · refine TT_aload_n hK rfl 0 rfl dX6_tellBit_150 ?_
                have q151_39_3 : (setO (setO (setO h 39 (fup (fup (fup (fup (h 39) 4 p1) 5 a1) 6 t1) 7 c1)) 41 s1) 42 l1) 39 3 = (h 39) 3 := rd_ ((sOf_ne _ _ (by decide)).trans ((sOf_ne _ _ (by decide)).trans (sOf_eq _ _ _))) ((fup_ne _ _ (by decide)).trans ((fup_ne _ _ (by decide)).trans ((fup_ne _ _ (by decide)).trans (fup_ne _ _ (by decide)))))
                have q151_39_4 : (setO (setO (setO h 39 (fup (fup (fup (fup (h 39) 4 p1) 5 a1) 6 t1) 7 c1)) 41 s1) 42 l1) 39 4 = p1 := rd_ ((sOf_ne _ _ (by decide)).trans ((sOf_ne _ _ (by decide)).trans (sOf_eq _ _ _))) ((fup_ne _ _ (by decide)).trans ((fup_ne _ _ (by decide)).trans ((fup_ne _ _ (by decide)).trans (fup_eq _ _ _))))
                have q151_39_7 : (setO (setO (setO h 39 (fup (fup (fup (fup (h 39) 4 p1) 5 a1) 6 t1) 7 c1)) 41 s1) 42 l1) 39 7 = c1 := rd_ ((sOf_ne _ _ (by decide)).trans ((sOf_ne _ _ (by decide)).trans (sOf_eq _ _ _))) (fup_eq _ _ _)
                have q151_39 : (setO (setO (setO h 39 (fup (fup (fup (fup (h 39) 4 p1) 5 a1) 6 t1) 7 c1)) 41 s1) 42 l1) 39 = fup (fup (fup (fup (h 39) 4 p1) 5 a1) 6 t1) 7 c1 := (sOf_ne _ _ (by decide)).trans ((sOf_ne _ _ (by decide)).trans (sOf_eq _ _ _))
                have q151_43 : (setO (setO (setO h 39 (fup (fup (fup (fup (h 39) 4 p1) 5 a1) 6 t1) 7 c1)) 41 s1) 42 l1) 43 = h 43 := (sOf_ne _ _ (by decide)).trans ((sOf_ne _ _ (by decide)).trans (sOf_ne _ _ (by decide)))
                refine iv_X6_53 hK (c_X6_comeIn_39 (setO (setO (setO h 39 (fup (fup (fup (fup (h 39) 4 p1) 5 a1) 6 t1) 7 c1)) 41 s1) 42 l1) (by rw [q151_39_3, q151_43]; exact hsrc) (by rw [q151_39_3]; first | omega | (simp [up, setR] <;> omega)) (by rw [q151_39_3, q151_39_4]; first | omega | (simp [up, setR] <;> omega)) (by rw [q151_39_7]; first | omega | (simp [up, setR] <;> omega))) (by decide) rfl ⟨by decide, by decide⟩ (by decide) rfl rfl (Nat.le_of_ble_eq_true rfl) ⟨by decide, by decide⟩ dX6_tellBit_151 ?_
                intro r9 h9 hp9
                rw [q151_39_3, q151_39_4, q151_39_7, q151_39, q151_43] at hp9
                rw [hp9.1, hp9.2]
                refine TT_hp (h' := setO (setO (setO h 39 (fup (fup (fup (fup (h 39) 4 ((inS (h 43) ((h 39) 3) c1 p1).2.2)) 5 a1) 6 ((inS (h 43) ((h 39) 3) c1 p1).2.1)) 7 ((inS (h 43) ((h 39) 3) c1 p1).1))) 41 s1) 42 l1) ((setO_cg rfl ((fup_cg ((fup_cg ((fup_comm _ _ _ (by decide)).trans (fup_cg ((fup_comm _ _ _ (by decide)).trans (fup_cg ((fup_comm _ _ _ (by decide)).trans (fup_cg (fup_same _ _ _ _)))))))).trans ((fup_comm _ _ _ (by decide)).trans (fup_cg (fup_same _ _ _ _))))).trans (fup_same _ _ _ _))).trans ((setO_comm _ _ _ (by decide)).trans (setO_cg ((setO_comm _ _ _ (by decide)).trans (setO_cg (setO_same _ _ _ _) rfl)) rfl))) ?_
                show TT K ly 0 0 154 [(0, vR 39), (1, vI x), (5, vI b9), (6, vI k)] [] (setO (setO (setO h 39 (fup (fup (fup (fup (h 39) 4 ((inS (h 43) ((h 39) 3) c1 p1).2.2)) 5 a1) 6 ((inS (h 43) ((h 39) 3) c1 p1).2.1)) 7 ((inS (h 43) ((h 39) 3) c1 p1).1))) 41 s1) 42 l1)
                refine TT_aload_n hK rfl 0 rfl dX6_tellBit_154 ?_
                refine TT_dup hK rfl dX6_tellBit_155 ?_
                refine gf_X6_60 hK (by decide) rfl (v := a1) (rd_ ((sOf_ne _ _ (by decide)).trans ((sOf_ne _ _ (by decide)).trans (sOf_eq _ _ _))) ((fup_ne _ _ (by decide)).trans ((fup_ne _ _ (by decide)).trans (fup_eq _ _ _)))) dX6_tellBit_156 ?_
                refine TT_iconst hK dX6_tellBit_159 ?_
                refine TT_ishl hK (by omega) (by omega) dX6_tellBit_160 ?_
                refine TT_cgI (b := a1 * 2) rfl ?_
                refine TT_cgI (b := 2 * a1) (by omega) ?_
                refine pf_X6_60 hK (by decide) rfl dX6_tellBit_161 ?_
                refine TT_hp (h' := setO (setO (setO h 39 (fup (fup (fup (fup (h 39) 4 ((inS (h 43) ((h 39) 3) c1 p1).2.2)) 5 (2 * a1)) 6 ((inS (h 43) ((h 39) 3) c1 p1).2.1)) 7 ((inS (h 43) ((h 39) 3) c1 p1).1))) 41 s1) 42 l1) (up_can ((sOf_ne _ _ (by decide)).trans ((sOf_ne _ _ (by decide)).trans (sOf_eq _ _ _))) ((fup_comm _ _ _ (by decide)).trans (fup_cg ((fup_comm _ _ _ (by decide)).trans (fup_cg (fup_same _ _ _ _))))) ((setO_comm _ _ _ (by decide)).trans (setO_cg ((setO_comm _ _ _ (by decide)).trans (setO_cg (setO_same _ _ _ _) rfl)) rfl))) ?_
                refine TT_aload_n hK rfl 0 rfl dX6_tellBit_164 ?_
                refine TT_aload_n hK rfl 0 rfl dX6_tellBit_165 ?_
                refine gf_X6_49 hK (by decide) rfl (v := (inS (h 43) ((h 39) 3) c1 p1).1) (rd_ ((sOf_ne _ _ (by decide)).trans ((sOf_ne _ _ (by decide)).trans (sOf_eq _ _ _))) (fup_eq _ _ _)) dX6_tellBit_166 ?_
                refine TT_iconst hK dX6_tellBit_169 ?_
                refine TT_lshl hK (by decide) dX6_tellBit_170 ?_
                refine TT_cgJ (b := ((inS (h 43) ((h 39) 3) c1 p1).1) * 2) rfl ?_
                refine TT_cgJ (b := 2 * ((inS (h 43) ((h 39) 3) c1 p1).1)) (by omega) ?_
                refine TT_ldc2 hK lc_X6_75 dX6_tellBit_171 ?_
                refine TT_mminl hK (lrm (by omega) (by omega)) (by decide) iw_X6_77 (by decide) (Nat.le_of_ble_eq_true rfl) ⟨by decide, by decide⟩ dX6_tellBit_174 ?_
                refine pf_X6_49 hK (by decide) rfl dX6_tellBit_177 ?_
                refine TT_hp (h' := setO (setO (setO h 39 (fup (fup (fup (fup (h 39) 4 ((inS (h 43) ((h 39) 3) c1 p1).2.2)) 5 (2 * a1)) 6 ((inS (h 43) ((h 39) 3) c1 p1).2.1)) 7 (min (2 * ((inS (h 43) ((h 39) 3) c1 p1).1)) 1099511627776))) 41 s1) 42 l1) (up_can ((sOf_ne _ _ (by decide)).trans ((sOf_ne _ _ (by decide)).trans (sOf_eq _ _ _))) (fup_same _ _ _ _) ((setO_comm _ _ _ (by decide)).trans (setO_cg ((setO_comm _ _ _ (by decide)).trans (setO_cg (setO_same _ _ _ _) rfl)) rfl))) ?_
                refine TT_aload_n hK rfl 0 rfl dX6_tellBit_180 ?_
                refine TT_dup hK rfl dX6_tellBit_181 ?_
                refine gf_X6_56 hK (by decide) rfl (v := (inS (h 43) ((h 39) 3) c1 p1).2.1) (rd_ ((sOf_ne _ _ (by decide)).trans ((sOf_ne _ _ (by decide)).trans (sOf_eq _ _ _))) ((fup_ne _ _ (by decide)).trans (fup_eq _ _ _))) dX6_tellBit_182 ?_
                refine TT_iconst hK dX6_tellBit_185 ?_
                refine TT_isub hK dX6_tellBit_186 ?_
                refine pf_X6_56 hK (by decide) rfl dX6_tellBit_187 ?_
                refine TT_hp (h' := setO (setO (setO h 39 (fup (fup (fup (fup (h 39) 4 ((inS (h 43) ((h 39) 3) c1 p1).2.2)) 5 (2 * a1)) 6 (((inS (h 43) ((h 39) 3) c1 p1).2.1) - 1)) 7 (min (2 * ((inS (h 43) ((h 39) 3) c1 p1).1)) 1099511627776))) 41 s1) 42 l1) (up_can ((sOf_ne _ _ (by decide)).trans ((sOf_ne _ _ (by decide)).trans (sOf_eq _ _ _))) ((fup_comm _ _ _ (by decide)).trans (fup_cg (fup_same _ _ _ _))) ((setO_comm _ _ _ (by decide)).trans (setO_cg ((setO_comm _ _ _ (by decide)).trans (setO_cg (setO_same _ _ _ _) rfl)) rfl))) ?_
                refine TT_iinc hK (v := k + 1) (lv' := [(6, vI (k + 1)), (0, vR 39), (1, vI x), (5, vI b9)]) 3 rfl rfl (by decide) rfl dX6_tellBit_190 ?_
                refine TT_goto hK (tgt := 127) dX6_tellBit_193 (by decide) ?_
                refine TT_sub [1, 2, 3, 0] rfl ?_
                exact ih17 (k + 1) (2 * a1) (min (2 * ((inS (h 43) ((h 39) 3) c1 p1).1)) 1099511627776) (((inS (h 43) ((h 39) 3) c1 p1).2.1) - 1) ((inS (h 43) ((h 39) 3) c1 p1).2.2) s1 l1 b9 R9 (by first | omega | (simp [up, setR] <;> omega)) (by first | omega | (simp [up, setR] <;> omega)) (by have h1 : (15 - k).toNat = (15 - (k + 1)).toNat + 1 := (by omega); rw [h1] at hM; first | exact RJ_next hM (by omega) (by omega) rfl | exact RJ_in hsrc hM (by omega) (by omega) rfl) (by omega) (by exact hR) (by first | omega | (simp [up, setR] <;> omega))
      refine TT_sub [4, 5, 1, 0] rfl ?_
      refine TT_hp (h' := setO (setO (setO h 39 (fup (fup (fup (fup (h 39) 4 ((h 39) 4)) 5 (qS ((h 41) x))) 6 ((h 39) 6)) 7 ((h 39) 7))) 41 (lrS (h 41) x (((h 42) x) ≠ (h 42) x))) 42 (lrL (h 41) (h 42) x (((h 42) x) ≠ (h 42) x))) (setO_cg (setO_cg (setO_cg rfl (by first | exact fup_4567 _ _ _ | exact fup_4567b _ _)) (by first | rfl | exact fsr_0 _ _ _)) (by first | rfl | exact fsr_0 _ _ _)) ?_
      exact L127_17 ((((15 : Int) - 0).toNat) + 1) 0 (qS ((h 41) x)) ((h 39) 7) ((h 39) 6) ((h 39) 4) (lrS (h 41) x (((h 42) x) ≠ (h 42) x)) (lrL (h 41) (h 42) x (((h 42) x) ≠ (h 42) x)) ((h 42) x) (rmS fxC (h 43) (h 39 3) 15 (qS ((h 41) x)) ((h 39) 7) ((h 39) 6) ((h 39) 4)) (by first | omega | (simp [up, setR] <;> omega)) (by first | omega | (simp [up, setR] <;> omega)) (by exact RJ_0 (RQ_rd (x := x) (st := h 41) (P := lwC (h 39 7) < qS (h 41 x)) hq ha hs (by unfold lwC; first | exact (if_pos (by omega)).symm | exact (if_neg (by omega)).symm))) (by omega) (by refine rdS_m (by unfold lwC; omega) (by unfold lwC; first | exact (if_pos (by omega)).symm | exact (if_neg (by omega)).symm) (by unfold lwC; first | exact (if_pos (by omega)).symm | exact (if_neg (by omega)).symm) (by unfold lwC; omega) (by first | exact (if_pos (by omega)).symm | exact (if_neg (by omega)).symm)) (Nat.lt_succ_self _)
set_option maxRecDepth 20000 in
theorem c_X6_clear_62 (h : Hp_)  : Ctr yX6_clear cX6_clear 1 none (rmd 0) ly ly 0 0 [vR 62] h (fun r h' => r = none ∧ h' = setO h 62 (fup (h 62) 2 0)) := by
  refine Ctr_of (by decide) (Nat.le_of_ble_eq_true rfl) ⟨Nat.le_refl _, Nat.le_refl _⟩ (fun K hK hQ _ => ?_)
  show TT K ly 0 0 0 [(0, vR 62)] [] h
  refine TT_aload_n hK rfl 0 rfl dX6_clear_0 ?_
  refine TT_iconst hK dX6_clear_1 ?_
  refine pf_X6_22 hK (by decide) rfl dX6_clear_2 ?_
  refine TT_hp (h' := setO h 62 (fup (h 62) 2 0)) (up_can rfl rfl rfl) ?_
  refine TT_vret hK hQ ?_ dX6_clear_5
  exact ⟨rfl, rfl⟩
set_option maxRecDepth 20000 in
theorem c_X6_given_62 (h : Hp_)  : Ctr yX6_given cX6_given 1 (some .int) (rmd 0) ly ly 0 0 [vR 62] h (fun r h' => r = some (vI ((h 62 2))) ∧ h' = h) := by
  refine Ctr_of (by decide) (Nat.le_of_ble_eq_true rfl) ⟨Nat.le_refl _, Nat.le_refl _⟩ (fun K hK hQ _ => ?_)
  show TT K ly 0 0 0 [(0, vR 62)] [] h
  refine TT_aload_n hK rfl 0 rfl dX6_given_0 ?_
  refine gf_X6_22 hK (by decide) rfl (v := (h 62) 2) rfl dX6_given_1 ?_
  refine TT_iret hK hQ ?_ dX6_given_4
  exact ⟨congrArg (fun z => some (vI z)) (by first | rfl | omega | (split <;> first | rfl | omega)), rfl⟩
set_option maxRecDepth 20000 in
theorem c_X6_comeIn_62 (h : Hp_) (hsrc : ∀ j, 0 ≤ j → j < (h 62 3) → 0 ≤ (h 66) j ∧ (h 66) j ≤ 255) (hsn : 0 ≤ (h 62 3) ∧ (h 62 3) ≤ 1024) (hp : 0 ≤ (h 62 4) ∧ (h 62 4) ≤ (h 62 3)) (hcb : -1 ≤ (h 62 7) ∧ (h 62 7) ≤ 1100000000000) : Ctr yX6_comeIn cX6_comeIn 3 none (rmd 0) ly ly 0 0 [vR 62] h (fun r h' => r = none ∧ h' = setO h 62 (fup (fup (fup (h 62) 4 ((inS (h 66) (h 62 3) (h 62 7) (h 62 4)).2.2)) 6 ((inS (h 66) (h 62 3) (h 62 7) (h 62 4)).2.1)) 7 ((inS (h 66) (h 62 3) (h 62 7) (h 62 4)).1))) := by
  refine Ctr_of (by decide) (Nat.le_of_ble_eq_true rfl) ⟨Nat.le_refl _, Nat.le_refl _⟩ (fun K hK hQ _ => ?_)
  show TT K ly 0 0 0 [(0, vR 62)] [] h
  have q1 := byS_r hsrc hp.1
  have q2 := byS_r hsrc (k := h 62 4 + 1) (by omega)
  refine TT_aload_n hK rfl 0 rfl dX6_comeIn_0 ?_
  refine gf_X6_44 hK (by decide) rfl (v := (h 62) 4) rfl dX6_comeIn_1 ?_
  refine TT_aload_n hK rfl 0 rfl dX6_comeIn_4 ?_
  refine gf_X6_41 hK (by decide) rfl (v := (h 62) 3) rfl dX6_comeIn_5 ?_
  refine TT_icmp_ge hK (tgt := 23) (irm (by omega) (by omega)) (irm (by omega) (by omega)) dX6_comeIn_8 (by decide) (fun hb8 => ?_) (fun hb8 => ?_)
  · refine TT_sipush hK (by decide) dX6_comeIn_23 ?_
    refine TT_nmI (fun b1 hb1 => ?_)
    refine TT_istore_n hK rfl (lv' := [(1, vI b1), (0, vR 62)]) (by decide) rfl dX6_comeIn_26 ?_
    have e1 : byS (h 66) (h 62 3) (h 62 4) = b1 := by rw [hb1]; unfold byS; first | rw [if_pos (by omega)] | rw [if_neg (by omega)]
    refine TT_aload_n hK rfl 1 rfl dX6_comeIn_27 ?_
    refine gf_X6_44 hK (by decide) rfl (v := (h 62) 4) rfl dX6_comeIn_28 ?_
    refine TT_iconst hK dX6_comeIn_31 ?_
    refine TT_iadd hK dX6_comeIn_32 ?_
    refine TT_aload_n hK rfl 1 rfl dX6_comeIn_33 ?_
    refine gf_X6_41 hK (by decide) rfl (v := (h 62) 3) rfl dX6_comeIn_34 ?_
    refine TT_icmp_ge hK (tgt := 54) (irm (by omega) (by omega)) (irm (by omega) (by omega)) dX6_comeIn_37 (by decide) (fun hb37 => ?_) (fun hb37 => ?_)
    · refine TT_sipush hK (by decide) dX6_comeIn_54 ?_
      refine TT_nmI (fun b2 hb2 => ?_)
      refine TT_istore_n hK rfl (lv' := [(2, vI b2), (1, vI b1), (0, vR 62)]) (by decide) rfl dX6_comeIn_57 ?_
      have e2 : byS (h 66) (h 62 3) (h 62 4 + 1) = b2 := by rw [hb2]; unfold byS; first | rw [if_pos (by omega)] | rw [if_neg (by omega)]
      refine TT_iload_n hK rfl 1 rfl dX6_comeIn_58 ?_
      refine TT_sipush hK (by decide) dX6_comeIn_59 ?_
      refine TT_icmp_ne hK (tgt := 91) (irm (by omega) (by omega)) (by decide) dX6_comeIn_62 (by decide) (fun hb62 => ?_) (fun hb62 => ?_)
      · refine TT_aload_n hK rfl 2 rfl dX6_comeIn_91 ?_
        refine TT_dup hK rfl dX6_comeIn_92 ?_
        refine gf_X6_44 hK (by decide) rfl (v := (h 62) 4) rfl dX6_comeIn_93 ?_
        refine TT_iconst hK dX6_comeIn_96 ?_
        refine TT_iadd hK dX6_comeIn_97 ?_
        refine pf_X6_44 hK (by decide) rfl dX6_comeIn_98 ?_
        refine TT_hp (h' := setO h 62 (fup (h 62) 4 (((h 62) 4) + 1))) (up_can rfl rfl rfl) ?_
        refine TT_aload_n hK rfl 2 rfl dX6_comeIn_101 ?_
        refine TT_dup hK rfl dX6_comeIn_102 ?_
        refine gf_X6_49 hK (by decide) rfl (v := (h 62) 7) (rd_ (sOf_eq _ _ _) (fup_ne _ _ (by decide))) dX6_comeIn_103 ?_
        refine TT_iload_n hK rfl 0 rfl dX6_comeIn_106 ?_
        refine TT_iload_n hK rfl 1 rfl dX6_comeIn_107 ?_
        refine TT_sipush hK (by decide) dX6_comeIn_108 ?_
        refine TT_icmp_ne hK (tgt := 120) (irm (by omega) (by omega)) (by decide) dX6_comeIn_111 (by decide) (fun hb111 => ?_) (fun hb111 => ?_)
        · refine TT_sipush hK (by decide) dX6_comeIn_120 ?_
          refine TT_imul hK dX6_comeIn_123 ?_
          refine TT_i2l hK (irm (by omega) (by omega)) dX6_comeIn_124 ?_
          refine TT_ladd hK dX6_comeIn_125 ?_
          refine pf_X6_49 hK (by decide) rfl dX6_comeIn_126 ?_
          refine TT_hp (h' := setO h 62 (fup (fup (h 62) 4 (((h 62) 4) + 1)) 7 (((h 62) 7) + (b2 * 256)))) (up_can (sOf_eq _ _ _) rfl (setO_same _ _ _ _)) ?_
          refine TT_aload_n hK rfl 2 rfl dX6_comeIn_129 ?_
          refine TT_iload_n hK rfl 1 rfl dX6_comeIn_130 ?_
          refine TT_sipush hK (by decide) dX6_comeIn_131 ?_
          refine TT_icmp_ne hK (tgt := 142) (irm (by omega) (by omega)) (by decide) dX6_comeIn_134 (by decide) (fun hb134 => ?_) (fun hb134 => ?_)
          · refine TT_bipush hK (by decide) dX6_comeIn_142 ?_
            refine pf_X6_56 hK (by decide) rfl dX6_comeIn_144 ?_
            refine TT_hp (h' := setO h 62 (fup (fup (fup (h 62) 4 (((h 62) 4) + 1)) 6 8) 7 (((h 62) 7) + (b2 * 256)))) (up_can (sOf_eq _ _ _) (fup_comm _ _ _ (by decide)) (setO_same _ _ _ _)) ?_
            refine TT_vret hK hQ ?_ dX6_comeIn_147
            exact ⟨rfl, setO_cg rfl (by first | (exfalso; omega) | (unfold inS; rw [if_neg (by omega), e2]) | (unfold inS; rw [if_pos (by omega), if_neg (by omega), e2]))⟩
          · exfalso; omega
        · exfalso; omega
      · refine TT_iload_n hK rfl 0 rfl dX6_comeIn_65 ?_
        refine TT_sipush hK (by decide) dX6_comeIn_66 ?_
        refine TT_icmp_le hK (tgt := 91) (irm (by omega) (by omega)) (by decide) dX6_comeIn_69 (by decide) (fun hb69 => ?_) (fun hb69 => ?_)
        · refine TT_aload_n hK rfl 2 rfl dX6_comeIn_91 ?_
          refine TT_dup hK rfl dX6_comeIn_92 ?_
          refine gf_X6_44 hK (by decide) rfl (v := (h 62) 4) rfl dX6_comeIn_93 ?_
          refine TT_iconst hK dX6_comeIn_96 ?_
          refine TT_iadd hK dX6_comeIn_97 ?_
          refine pf_X6_44 hK (by decide) rfl dX6_comeIn_98 ?_
          refine TT_hp (h' := setO h 62 (fup (h 62) 4 (((h 62) 4) + 1))) (up_can rfl rfl rfl) ?_
          refine TT_aload_n hK rfl 2 rfl dX6_comeIn_101 ?_
          refine TT_dup hK rfl dX6_comeIn_102 ?_
          refine gf_X6_49 hK (by decide) rfl (v := (h 62) 7) (rd_ (sOf_eq _ _ _) (fup_ne _ _ (by decide))) dX6_comeIn_103 ?_
          refine TT_iload_n hK rfl 0 rfl dX6_comeIn_106 ?_
          refine TT_iload_n hK rfl 1 rfl dX6_comeIn_107 ?_
          refine TT_sipush hK (by decide) dX6_comeIn_108 ?_
          refine TT_icmp_ne hK (tgt := 120) (irm (by omega) (by omega)) (by decide) dX6_comeIn_111 (by decide) (fun hb111 => ?_) (fun hb111 => ?_)
          · exfalso; omega
          · refine TT_sipush hK (by decide) dX6_comeIn_114 ?_
            refine TT_goto hK (tgt := 123) dX6_comeIn_117 (by decide) ?_
            refine TT_imul hK dX6_comeIn_123 ?_
            refine TT_i2l hK (irm (by omega) (by omega)) dX6_comeIn_124 ?_
            refine TT_ladd hK dX6_comeIn_125 ?_
            refine pf_X6_49 hK (by decide) rfl dX6_comeIn_126 ?_
            refine TT_hp (h' := setO h 62 (fup (fup (h 62) 4 (((h 62) 4) + 1)) 7 (((h 62) 7) + (b2 * 512)))) (up_can (sOf_eq _ _ _) rfl (setO_same _ _ _ _)) ?_
            refine TT_aload_n hK rfl 2 rfl dX6_comeIn_129 ?_
            refine TT_iload_n hK rfl 1 rfl dX6_comeIn_130 ?_
            refine TT_sipush hK (by decide) dX6_comeIn_131 ?_
            refine TT_icmp_ne hK (tgt := 142) (irm (by omega) (by omega)) (by decide) dX6_comeIn_134 (by decide) (fun hb134 => ?_) (fun hb134 => ?_)
            · exfalso; omega
            · refine TT_bipush hK (by decide) dX6_comeIn_137 ?_
              refine TT_goto hK (tgt := 144) dX6_comeIn_139 (by decide) ?_
              refine pf_X6_56 hK (by decide) rfl dX6_comeIn_144 ?_
              refine TT_hp (h' := setO h 62 (fup (fup (fup (h 62) 4 (((h 62) 4) + 1)) 6 7) 7 (((h 62) 7) + (b2 * 512)))) (up_can (sOf_eq _ _ _) (fup_comm _ _ _ (by decide)) (setO_same _ _ _ _)) ?_
              refine TT_vret hK hQ ?_ dX6_comeIn_147
              exact ⟨rfl, setO_cg rfl (by first | (exfalso; omega) | (unfold inS; rw [if_neg (by omega), e2]) | (unfold inS; rw [if_pos (by omega), if_neg (by omega), e2]))⟩
        · refine TT_aload_n hK rfl 2 rfl dX6_comeIn_72 ?_
          refine TT_dup hK rfl dX6_comeIn_73 ?_
          refine gf_X6_49 hK (by decide) rfl (v := (h 62) 7) rfl dX6_comeIn_74 ?_
          refine TT_ldc2 hK lc_X6_63 dX6_comeIn_77 ?_
          refine TT_ladd hK dX6_comeIn_80 ?_
          refine pf_X6_49 hK (by decide) rfl dX6_comeIn_81 ?_
          refine TT_hp (h' := setO h 62 (fup (h 62) 7 (((h 62) 7) + 65280))) (up_can rfl rfl rfl) ?_
          refine TT_aload_n hK rfl 2 rfl dX6_comeIn_84 ?_
          refine TT_bipush hK (by decide) dX6_comeIn_85 ?_
          refine pf_X6_56 hK (by decide) rfl dX6_comeIn_87 ?_
          refine TT_hp (h' := setO h 62 (fup (fup (h 62) 6 8) 7 (((h 62) 7) + 65280))) (up_can (sOf_eq _ _ _) (fup_comm _ _ _ (by decide)) (setO_same _ _ _ _)) ?_
          refine TT_vret hK hQ ?_ dX6_comeIn_90
          exact ⟨rfl, setO_cg rfl (by first | (exfalso; omega) | (unfold inS; rw [if_pos (by omega), if_pos (by omega)]; exact fup_46 _ _ _))⟩
    · refine TT_aload_n hK rfl 1 rfl dX6_comeIn_40 ?_
      refine gf_X6_18 hK (by decide) rfl (q := 66) rfl rfl dX6_comeIn_41 ?_
      refine TT_aload_n hK rfl 1 rfl dX6_comeIn_44 ?_
      refine gf_X6_44 hK (by decide) rfl (v := (h 62) 4) rfl dX6_comeIn_45 ?_
      refine TT_iconst hK dX6_comeIn_48 ?_
      refine TT_iadd hK dX6_comeIn_49 ?_
      refine TT_iald hK (o := 66) (n := 1024) (by decide) rfl (by first | omega | (simp [up, setR] <;> omega)) (by first | omega | (simp [up, setR] <;> omega)) (v := (h 66) (((h 62) 4) + 1)) rfl dX6_comeIn_50 ?_
      refine TT_goto hK (tgt := 57) dX6_comeIn_51 (by decide) ?_
      refine TT_nmI (fun b2 hb2 => ?_)
      refine TT_istore_n hK rfl (lv' := [(2, vI b2), (1, vI b1), (0, vR 62)]) (by decide) rfl dX6_comeIn_57 ?_
      have e2 : byS (h 66) (h 62 3) (h 62 4 + 1) = b2 := by rw [hb2]; unfold byS; first | rw [if_pos (by omega)] | rw [if_neg (by omega)]
      refine TT_iload_n hK rfl 1 rfl dX6_comeIn_58 ?_
      refine TT_sipush hK (by decide) dX6_comeIn_59 ?_
      refine TT_icmp_ne hK (tgt := 91) (irm (by omega) (by omega)) (by decide) dX6_comeIn_62 (by decide) (fun hb62 => ?_) (fun hb62 => ?_)
      · refine TT_aload_n hK rfl 2 rfl dX6_comeIn_91 ?_
        refine TT_dup hK rfl dX6_comeIn_92 ?_
        refine gf_X6_44 hK (by decide) rfl (v := (h 62) 4) rfl dX6_comeIn_93 ?_
        refine TT_iconst hK dX6_comeIn_96 ?_
        refine TT_iadd hK dX6_comeIn_97 ?_
        refine pf_X6_44 hK (by decide) rfl dX6_comeIn_98 ?_
        refine TT_hp (h' := setO h 62 (fup (h 62) 4 (((h 62) 4) + 1))) (up_can rfl rfl rfl) ?_
        refine TT_aload_n hK rfl 2 rfl dX6_comeIn_101 ?_
        refine TT_dup hK rfl dX6_comeIn_102 ?_
        refine gf_X6_49 hK (by decide) rfl (v := (h 62) 7) (rd_ (sOf_eq _ _ _) (fup_ne _ _ (by decide))) dX6_comeIn_103 ?_
        refine TT_iload_n hK rfl 0 rfl dX6_comeIn_106 ?_
        refine TT_iload_n hK rfl 1 rfl dX6_comeIn_107 ?_
        refine TT_sipush hK (by decide) dX6_comeIn_108 ?_
        refine TT_icmp_ne hK (tgt := 120) (irm (by omega) (by omega)) (by decide) dX6_comeIn_111 (by decide) (fun hb111 => ?_) (fun hb111 => ?_)
        · refine TT_sipush hK (by decide) dX6_comeIn_120 ?_
          refine TT_imul hK dX6_comeIn_123 ?_
          refine TT_i2l hK (irm (by omega) (by omega)) dX6_comeIn_124 ?_
          refine TT_ladd hK dX6_comeIn_125 ?_
          refine pf_X6_49 hK (by decide) rfl dX6_comeIn_126 ?_
          refine TT_hp (h' := setO h 62 (fup (fup (h 62) 4 (((h 62) 4) + 1)) 7 (((h 62) 7) + (b2 * 256)))) (up_can (sOf_eq _ _ _) rfl (setO_same _ _ _ _)) ?_
          refine TT_aload_n hK rfl 2 rfl dX6_comeIn_129 ?_
          refine TT_iload_n hK rfl 1 rfl dX6_comeIn_130 ?_
          refine TT_sipush hK (by decide) dX6_comeIn_131 ?_
          refine TT_icmp_ne hK (tgt := 142) (irm (by omega) (by omega)) (by decide) dX6_comeIn_134 (by decide) (fun hb134 => ?_) (fun hb134 => ?_)
          · refine TT_bipush hK (by decide) dX6_comeIn_142 ?_
            refine pf_X6_56 hK (by decide) rfl dX6_comeIn_144 ?_
            refine TT_hp (h' := setO h 62 (fup (fup (fup (h 62) 4 (((h 62) 4) + 1)) 6 8) 7 (((h 62) 7) + (b2 * 256)))) (up_can (sOf_eq _ _ _) (fup_comm _ _ _ (by decide)) (setO_same _ _ _ _)) ?_
            refine TT_vret hK hQ ?_ dX6_comeIn_147
            exact ⟨rfl, setO_cg rfl (by first | (exfalso; omega) | (unfold inS; rw [if_neg (by omega), e2]) | (unfold inS; rw [if_pos (by omega), if_neg (by omega), e2]))⟩
          · exfalso; omega
        · exfalso; omega
      · refine TT_iload_n hK rfl 0 rfl dX6_comeIn_65 ?_
        refine TT_sipush hK (by decide) dX6_comeIn_66 ?_
        refine TT_icmp_le hK (tgt := 91) (irm (by omega) (by omega)) (by decide) dX6_comeIn_69 (by decide) (fun hb69 => ?_) (fun hb69 => ?_)
        · refine TT_aload_n hK rfl 2 rfl dX6_comeIn_91 ?_
          refine TT_dup hK rfl dX6_comeIn_92 ?_
          refine gf_X6_44 hK (by decide) rfl (v := (h 62) 4) rfl dX6_comeIn_93 ?_
          refine TT_iconst hK dX6_comeIn_96 ?_
          refine TT_iadd hK dX6_comeIn_97 ?_
          refine pf_X6_44 hK (by decide) rfl dX6_comeIn_98 ?_
          refine TT_hp (h' := setO h 62 (fup (h 62) 4 (((h 62) 4) + 1))) (up_can rfl rfl rfl) ?_
          refine TT_aload_n hK rfl 2 rfl dX6_comeIn_101 ?_
          refine TT_dup hK rfl dX6_comeIn_102 ?_
          refine gf_X6_49 hK (by decide) rfl (v := (h 62) 7) (rd_ (sOf_eq _ _ _) (fup_ne _ _ (by decide))) dX6_comeIn_103 ?_
          refine TT_iload_n hK rfl 0 rfl dX6_comeIn_106 ?_
          refine TT_iload_n hK rfl 1 rfl dX6_comeIn_107 ?_
          refine TT_sipush hK (by decide) dX6_comeIn_108 ?_
          refine TT_icmp_ne hK (tgt := 120) (irm (by omega) (by omega)) (by decide) dX6_comeIn_111 (by decide) (fun hb111 => ?_) (fun hb111 => ?_)
          · exfalso; omega
          · refine TT_sipush hK (by decide) dX6_comeIn_114 ?_
            refine TT_goto hK (tgt := 123) dX6_comeIn_117 (by decide) ?_
            refine TT_imul hK dX6_comeIn_123 ?_
            refine TT_i2l hK (irm (by omega) (by omega)) dX6_comeIn_124 ?_
            refine TT_ladd hK dX6_comeIn_125 ?_
            refine pf_X6_49 hK (by decide) rfl dX6_comeIn_126 ?_
            refine TT_hp (h' := setO h 62 (fup (fup (h 62) 4 (((h 62) 4) + 1)) 7 (((h 62) 7) + (b2 * 512)))) (up_can (sOf_eq _ _ _) rfl (setO_same _ _ _ _)) ?_
            refine TT_aload_n hK rfl 2 rfl dX6_comeIn_129 ?_
            refine TT_iload_n hK rfl 1 rfl dX6_comeIn_130 ?_
            refine TT_sipush hK (by decide) dX6_comeIn_131 ?_
            refine TT_icmp_ne hK (tgt := 142) (irm (by omega) (by omega)) (by decide) dX6_comeIn_134 (by decide) (fun hb134 => ?_) (fun hb134 => ?_)
            · exfalso; omega
            · refine TT_bipush hK (by decide) dX6_comeIn_137 ?_
              refine TT_goto hK (tgt := 144) dX6_comeIn_139 (by decide) ?_
              refine pf_X6_56 hK (by decide) rfl dX6_comeIn_144 ?_
              refine TT_hp (h' := setO h 62 (fup (fup (fup (h 62) 4 (((h 62) 4) + 1)) 6 7) 7 (((h 62) 7) + (b2 * 512)))) (up_can (sOf_eq _ _ _) (fup_comm _ _ _ (by decide)) (setO_same _ _ _ _)) ?_
              refine TT_vret hK hQ ?_ dX6_comeIn_147
              exact ⟨rfl, setO_cg rfl (by first | (exfalso; omega) | (unfold inS; rw [if_neg (by omega), e2]) | (unfold inS; rw [if_pos (by omega), if_neg (by omega), e2]))⟩
        · refine TT_aload_n hK rfl 2 rfl dX6_comeIn_72 ?_
          refine TT_dup hK rfl dX6_comeIn_73 ?_
          refine gf_X6_49 hK (by decide) rfl (v := (h 62) 7) rfl dX6_comeIn_74 ?_
          refine TT_ldc2 hK lc_X6_63 dX6_comeIn_77 ?_
          refine TT_ladd hK dX6_comeIn_80 ?_
          refine pf_X6_49 hK (by decide) rfl dX6_comeIn_81 ?_
          refine TT_hp (h' := setO h 62 (fup (h 62) 7 (((h 62) 7) + 65280))) (up_can rfl rfl rfl) ?_
          refine TT_aload_n hK rfl 2 rfl dX6_comeIn_84 ?_
          refine TT_bipush hK (by decide) dX6_comeIn_85 ?_
          refine pf_X6_56 hK (by decide) rfl dX6_comeIn_87 ?_
          refine TT_hp (h' := setO h 62 (fup (fup (h 62) 6 8) 7 (((h 62) 7) + 65280))) (up_can (sOf_eq _ _ _) (fup_comm _ _ _ (by decide)) (setO_same _ _ _ _)) ?_
          refine TT_vret hK hQ ?_ dX6_comeIn_90
          exact ⟨rfl, setO_cg rfl (by first | (exfalso; omega) | (unfold inS; rw [if_pos (by omega), if_pos (by omega)]; exact fup_46 _ _ _))⟩
  · refine TT_aload_n hK rfl 0 rfl dX6_comeIn_11 ?_
    refine gf_X6_18 hK (by decide) rfl (q := 66) rfl rfl dX6_comeIn_12 ?_
    refine TT_aload_n hK rfl 0 rfl dX6_comeIn_15 ?_
    refine gf_X6_44 hK (by decide) rfl (v := (h 62) 4) rfl dX6_comeIn_16 ?_
    refine TT_iald hK (o := 66) (n := 1024) (by decide) rfl (by first | omega | (simp [up, setR] <;> omega)) (by first | omega | (simp [up, setR] <;> omega)) (v := (h 66) ((h 62) 4)) rfl dX6_comeIn_19 ?_
    refine TT_goto hK (tgt := 26) dX6_comeIn_20 (by decide) ?_
    refine TT_nmI (fun b1 hb1 => ?_)
    refine TT_istore_n hK rfl (lv' := [(1, vI b1), (0, vR 62)]) (by decide) rfl dX6_comeIn_26 ?_
    have e1 : byS (h 66) (h 62 3) (h 62 4) = b1 := by rw [hb1]; unfold byS; first | rw [if_pos (by omega)] | rw [if_neg (by omega)]
    refine TT_aload_n hK rfl 1 rfl dX6_comeIn_27 ?_
    refine gf_X6_44 hK (by decide) rfl (v := (h 62) 4) rfl dX6_comeIn_28 ?_
    refine TT_iconst hK dX6_comeIn_31 ?_
    refine TT_iadd hK dX6_comeIn_32 ?_
    refine TT_aload_n hK rfl 1 rfl dX6_comeIn_33 ?_
    refine gf_X6_41 hK (by decide) rfl (v := (h 62) 3) rfl dX6_comeIn_34 ?_
    refine TT_icmp_ge hK (tgt := 54) (irm (by omega) (by omega)) (irm (by omega) (by omega)) dX6_comeIn_37 (by decide) (fun hb37 => ?_) (fun hb37 => ?_)
    · refine TT_sipush hK (by decide) dX6_comeIn_54 ?_
      refine TT_nmI (fun b2 hb2 => ?_)
      refine TT_istore_n hK rfl (lv' := [(2, vI b2), (1, vI b1), (0, vR 62)]) (by decide) rfl dX6_comeIn_57 ?_
      have e2 : byS (h 66) (h 62 3) (h 62 4 + 1) = b2 := by rw [hb2]; unfold byS; first | rw [if_pos (by omega)] | rw [if_neg (by omega)]
      refine TT_iload_n hK rfl 1 rfl dX6_comeIn_58 ?_
      refine TT_sipush hK (by decide) dX6_comeIn_59 ?_
      refine TT_icmp_ne hK (tgt := 91) (irm (by omega) (by omega)) (by decide) dX6_comeIn_62 (by decide) (fun hb62 => ?_) (fun hb62 => ?_)
      · refine TT_aload_n hK rfl 2 rfl dX6_comeIn_91 ?_
        refine TT_dup hK rfl dX6_comeIn_92 ?_
        refine gf_X6_44 hK (by decide) rfl (v := (h 62) 4) rfl dX6_comeIn_93 ?_
        refine TT_iconst hK dX6_comeIn_96 ?_
        refine TT_iadd hK dX6_comeIn_97 ?_
        refine pf_X6_44 hK (by decide) rfl dX6_comeIn_98 ?_
        refine TT_hp (h' := setO h 62 (fup (h 62) 4 (((h 62) 4) + 1))) (up_can rfl rfl rfl) ?_
        refine TT_aload_n hK rfl 2 rfl dX6_comeIn_101 ?_
        refine TT_dup hK rfl dX6_comeIn_102 ?_
        refine gf_X6_49 hK (by decide) rfl (v := (h 62) 7) (rd_ (sOf_eq _ _ _) (fup_ne _ _ (by decide))) dX6_comeIn_103 ?_
        refine TT_iload_n hK rfl 0 rfl dX6_comeIn_106 ?_
        refine TT_iload_n hK rfl 1 rfl dX6_comeIn_107 ?_
        refine TT_sipush hK (by decide) dX6_comeIn_108 ?_
        refine TT_icmp_ne hK (tgt := 120) (irm (by omega) (by omega)) (by decide) dX6_comeIn_111 (by decide) (fun hb111 => ?_) (fun hb111 => ?_)
        · refine TT_sipush hK (by decide) dX6_comeIn_120 ?_
          refine TT_imul hK dX6_comeIn_123 ?_
          refine TT_i2l hK (irm (by omega) (by omega)) dX6_comeIn_124 ?_
          refine TT_ladd hK dX6_comeIn_125 ?_
          refine pf_X6_49 hK (by decide) rfl dX6_comeIn_126 ?_
          refine TT_hp (h' := setO h 62 (fup (fup (h 62) 4 (((h 62) 4) + 1)) 7 (((h 62) 7) + (b2 * 256)))) (up_can (sOf_eq _ _ _) rfl (setO_same _ _ _ _)) ?_
          refine TT_aload_n hK rfl 2 rfl dX6_comeIn_129 ?_
          refine TT_iload_n hK rfl 1 rfl dX6_comeIn_130 ?_
          refine TT_sipush hK (by decide) dX6_comeIn_131 ?_
          refine TT_icmp_ne hK (tgt := 142) (irm (by omega) (by omega)) (by decide) dX6_comeIn_134 (by decide) (fun hb134 => ?_) (fun hb134 => ?_)
          · refine TT_bipush hK (by decide) dX6_comeIn_142 ?_
            refine pf_X6_56 hK (by decide) rfl dX6_comeIn_144 ?_
            refine TT_hp (h' := setO h 62 (fup (fup (fup (h 62) 4 (((h 62) 4) + 1)) 6 8) 7 (((h 62) 7) + (b2 * 256)))) (up_can (sOf_eq _ _ _) (fup_comm _ _ _ (by decide)) (setO_same _ _ _ _)) ?_
            refine TT_vret hK hQ ?_ dX6_comeIn_147
            exact ⟨rfl, setO_cg rfl (by first | (exfalso; omega) | (unfold inS; rw [if_neg (by omega), e2]) | (unfold inS; rw [if_pos (by omega), if_neg (by omega), e2]))⟩
          · exfalso; omega
        · exfalso; omega
      · refine TT_iload_n hK rfl 0 rfl dX6_comeIn_65 ?_
        refine TT_sipush hK (by decide) dX6_comeIn_66 ?_
        refine TT_icmp_le hK (tgt := 91) (irm (by omega) (by omega)) (by decide) dX6_comeIn_69 (by decide) (fun hb69 => ?_) (fun hb69 => ?_)
        · refine TT_aload_n hK rfl 2 rfl dX6_comeIn_91 ?_
          refine TT_dup hK rfl dX6_comeIn_92 ?_
          refine gf_X6_44 hK (by decide) rfl (v := (h 62) 4) rfl dX6_comeIn_93 ?_
          refine TT_iconst hK dX6_comeIn_96 ?_
          refine TT_iadd hK dX6_comeIn_97 ?_
          refine pf_X6_44 hK (by decide) rfl dX6_comeIn_98 ?_
          refine TT_hp (h' := setO h 62 (fup (h 62) 4 (((h 62) 4) + 1))) (up_can rfl rfl rfl) ?_
          refine TT_aload_n hK rfl 2 rfl dX6_comeIn_101 ?_
          refine TT_dup hK rfl dX6_comeIn_102 ?_
          refine gf_X6_49 hK (by decide) rfl (v := (h 62) 7) (rd_ (sOf_eq _ _ _) (fup_ne _ _ (by decide))) dX6_comeIn_103 ?_
          refine TT_iload_n hK rfl 0 rfl dX6_comeIn_106 ?_
          refine TT_iload_n hK rfl 1 rfl dX6_comeIn_107 ?_
          refine TT_sipush hK (by decide) dX6_comeIn_108 ?_
          refine TT_icmp_ne hK (tgt := 120) (irm (by omega) (by omega)) (by decide) dX6_comeIn_111 (by decide) (fun hb111 => ?_) (fun hb111 => ?_)
          · exfalso; omega
          · refine TT_sipush hK (by decide) dX6_comeIn_114 ?_
            refine TT_goto hK (tgt := 123) dX6_comeIn_117 (by decide) ?_
            refine TT_imul hK dX6_comeIn_123 ?_
            refine TT_i2l hK (irm (by omega) (by omega)) dX6_comeIn_124 ?_
            refine TT_ladd hK dX6_comeIn_125 ?_
            refine pf_X6_49 hK (by decide) rfl dX6_comeIn_126 ?_
            refine TT_hp (h' := setO h 62 (fup (fup (h 62) 4 (((h 62) 4) + 1)) 7 (((h 62) 7) + (b2 * 512)))) (up_can (sOf_eq _ _ _) rfl (setO_same _ _ _ _)) ?_
            refine TT_aload_n hK rfl 2 rfl dX6_comeIn_129 ?_
            refine TT_iload_n hK rfl 1 rfl dX6_comeIn_130 ?_
            refine TT_sipush hK (by decide) dX6_comeIn_131 ?_
            refine TT_icmp_ne hK (tgt := 142) (irm (by omega) (by omega)) (by decide) dX6_comeIn_134 (by decide) (fun hb134 => ?_) (fun hb134 => ?_)
            · exfalso; omega
            · refine TT_bipush hK (by decide) dX6_comeIn_137 ?_
              refine TT_goto hK (tgt := 144) dX6_comeIn_139 (by decide) ?_
              refine pf_X6_56 hK (by decide) rfl dX6_comeIn_144 ?_
              refine TT_hp (h' := setO h 62 (fup (fup (fup (h 62) 4 (((h 62) 4) + 1)) 6 7) 7 (((h 62) 7) + (b2 * 512)))) (up_can (sOf_eq _ _ _) (fup_comm _ _ _ (by decide)) (setO_same _ _ _ _)) ?_
              refine TT_vret hK hQ ?_ dX6_comeIn_147
              exact ⟨rfl, setO_cg rfl (by first | (exfalso; omega) | (unfold inS; rw [if_neg (by omega), e2]) | (unfold inS; rw [if_pos (by omega), if_neg (by omega), e2]))⟩
        · refine TT_aload_n hK rfl 2 rfl dX6_comeIn_72 ?_
          refine TT_dup hK rfl dX6_comeIn_73 ?_
          refine gf_X6_49 hK (by decide) rfl (v := (h 62) 7) rfl dX6_comeIn_74 ?_
          refine TT_ldc2 hK lc_X6_63 dX6_comeIn_77 ?_
          refine TT_ladd hK dX6_comeIn_80 ?_
          refine pf_X6_49 hK (by decide) rfl dX6_comeIn_81 ?_
          refine TT_hp (h' := setO h 62 (fup (h 62) 7 (((h 62) 7) + 65280))) (up_can rfl rfl rfl) ?_
          refine TT_aload_n hK rfl 2 rfl dX6_comeIn_84 ?_
          refine TT_bipush hK (by decide) dX6_comeIn_85 ?_
          refine pf_X6_56 hK (by decide) rfl dX6_comeIn_87 ?_
          refine TT_hp (h' := setO h 62 (fup (fup (h 62) 6 8) 7 (((h 62) 7) + 65280))) (up_can (sOf_eq _ _ _) (fup_comm _ _ _ (by decide)) (setO_same _ _ _ _)) ?_
          refine TT_vret hK hQ ?_ dX6_comeIn_90
          exact ⟨rfl, setO_cg rfl (by first | (exfalso; omega) | (unfold inS; rw [if_pos (by omega), if_pos (by omega)]; exact fup_46 _ _ _))⟩
    · refine TT_aload_n hK rfl 1 rfl dX6_comeIn_40 ?_
      refine gf_X6_18 hK (by decide) rfl (q := 66) rfl rfl dX6_comeIn_41 ?_
      refine TT_aload_n hK rfl 1 rfl dX6_comeIn_44 ?_
      refine gf_X6_44 hK (by decide) rfl (v := (h 62) 4) rfl dX6_comeIn_45 ?_
      refine TT_iconst hK dX6_comeIn_48 ?_
      refine TT_iadd hK dX6_comeIn_49 ?_
      refine TT_iald hK (o := 66) (n := 1024) (by decide) rfl (by first | omega | (simp [up, setR] <;> omega)) (by first | omega | (simp [up, setR] <;> omega)) (v := (h 66) (((h 62) 4) + 1)) rfl dX6_comeIn_50 ?_
      refine TT_goto hK (tgt := 57) dX6_comeIn_51 (by decide) ?_
      refine TT_nmI (fun b2 hb2 => ?_)
      refine TT_istore_n hK rfl (lv' := [(2, vI b2), (1, vI b1), (0, vR 62)]) (by decide) rfl dX6_comeIn_57 ?_
      have e2 : byS (h 66) (h 62 3) (h 62 4 + 1) = b2 := by rw [hb2]; unfold byS; first | rw [if_pos (by omega)] | rw [if_neg (by omega)]
      refine TT_iload_n hK rfl 1 rfl dX6_comeIn_58 ?_
      refine TT_sipush hK (by decide) dX6_comeIn_59 ?_
      refine TT_icmp_ne hK (tgt := 91) (irm (by omega) (by omega)) (by decide) dX6_comeIn_62 (by decide) (fun hb62 => ?_) (fun hb62 => ?_)
      · refine TT_aload_n hK rfl 2 rfl dX6_comeIn_91 ?_
        refine TT_dup hK rfl dX6_comeIn_92 ?_
        refine gf_X6_44 hK (by decide) rfl (v := (h 62) 4) rfl dX6_comeIn_93 ?_
        refine TT_iconst hK dX6_comeIn_96 ?_
        refine TT_iadd hK dX6_comeIn_97 ?_
        refine pf_X6_44 hK (by decide) rfl dX6_comeIn_98 ?_
        refine TT_hp (h' := setO h 62 (fup (h 62) 4 (((h 62) 4) + 1))) (up_can rfl rfl rfl) ?_
        refine TT_aload_n hK rfl 2 rfl dX6_comeIn_101 ?_
        refine TT_dup hK rfl dX6_comeIn_102 ?_
        refine gf_X6_49 hK (by decide) rfl (v := (h 62) 7) (rd_ (sOf_eq _ _ _) (fup_ne _ _ (by decide))) dX6_comeIn_103 ?_
        refine TT_iload_n hK rfl 0 rfl dX6_comeIn_106 ?_
        refine TT_iload_n hK rfl 1 rfl dX6_comeIn_107 ?_
        refine TT_sipush hK (by decide) dX6_comeIn_108 ?_
        refine TT_icmp_ne hK (tgt := 120) (irm (by omega) (by omega)) (by decide) dX6_comeIn_111 (by decide) (fun hb111 => ?_) (fun hb111 => ?_)
        · refine TT_sipush hK (by decide) dX6_comeIn_120 ?_
          refine TT_imul hK dX6_comeIn_123 ?_
          refine TT_i2l hK (irm (by omega) (by omega)) dX6_comeIn_124 ?_
          refine TT_ladd hK dX6_comeIn_125 ?_
          refine pf_X6_49 hK (by decide) rfl dX6_comeIn_126 ?_
          refine TT_hp (h' := setO h 62 (fup (fup (h 62) 4 (((h 62) 4) + 1)) 7 (((h 62) 7) + (b2 * 256)))) (up_can (sOf_eq _ _ _) rfl (setO_same _ _ _ _)) ?_
          refine TT_aload_n hK rfl 2 rfl dX6_comeIn_129 ?_
          refine TT_iload_n hK rfl 1 rfl dX6_comeIn_130 ?_
          refine TT_sipush hK (by decide) dX6_comeIn_131 ?_
          refine TT_icmp_ne hK (tgt := 142) (irm (by omega) (by omega)) (by decide) dX6_comeIn_134 (by decide) (fun hb134 => ?_) (fun hb134 => ?_)
          · refine TT_bipush hK (by decide) dX6_comeIn_142 ?_
            refine pf_X6_56 hK (by decide) rfl dX6_comeIn_144 ?_
            refine TT_hp (h' := setO h 62 (fup (fup (fup (h 62) 4 (((h 62) 4) + 1)) 6 8) 7 (((h 62) 7) + (b2 * 256)))) (up_can (sOf_eq _ _ _) (fup_comm _ _ _ (by decide)) (setO_same _ _ _ _)) ?_
            refine TT_vret hK hQ ?_ dX6_comeIn_147
            exact ⟨rfl, setO_cg rfl (by first | (exfalso; omega) | (unfold inS; rw [if_neg (by omega), e2]) | (unfold inS; rw [if_pos (by omega), if_neg (by omega), e2]))⟩
          · exfalso; omega
        · exfalso; omega
      · refine TT_iload_n hK rfl 0 rfl dX6_comeIn_65 ?_
        refine TT_sipush hK (by decide) dX6_comeIn_66 ?_
        refine TT_icmp_le hK (tgt := 91) (irm (by omega) (by omega)) (by decide) dX6_comeIn_69 (by decide) (fun hb69 => ?_) (fun hb69 => ?_)
        · refine TT_aload_n hK rfl 2 rfl dX6_comeIn_91 ?_
          refine TT_dup hK rfl dX6_comeIn_92 ?_
          refine gf_X6_44 hK (by decide) rfl (v := (h 62) 4) rfl dX6_comeIn_93 ?_
          refine TT_iconst hK dX6_comeIn_96 ?_
          refine TT_iadd hK dX6_comeIn_97 ?_
          refine pf_X6_44 hK (by decide) rfl dX6_comeIn_98 ?_
          refine TT_hp (h' := setO h 62 (fup (h 62) 4 (((h 62) 4) + 1))) (up_can rfl rfl rfl) ?_
          refine TT_aload_n hK rfl 2 rfl dX6_comeIn_101 ?_
          refine TT_dup hK rfl dX6_comeIn_102 ?_
          refine gf_X6_49 hK (by decide) rfl (v := (h 62) 7) (rd_ (sOf_eq _ _ _) (fup_ne _ _ (by decide))) dX6_comeIn_103 ?_
          refine TT_iload_n hK rfl 0 rfl dX6_comeIn_106 ?_
          refine TT_iload_n hK rfl 1 rfl dX6_comeIn_107 ?_
          refine TT_sipush hK (by decide) dX6_comeIn_108 ?_
          refine TT_icmp_ne hK (tgt := 120) (irm (by omega) (by omega)) (by decide) dX6_comeIn_111 (by decide) (fun hb111 => ?_) (fun hb111 => ?_)
          · exfalso; omega
          · refine TT_sipush hK (by decide) dX6_comeIn_114 ?_
            refine TT_goto hK (tgt := 123) dX6_comeIn_117 (by decide) ?_
            refine TT_imul hK dX6_comeIn_123 ?_
            refine TT_i2l hK (irm (by omega) (by omega)) dX6_comeIn_124 ?_
            refine TT_ladd hK dX6_comeIn_125 ?_
            refine pf_X6_49 hK (by decide) rfl dX6_comeIn_126 ?_
            refine TT_hp (h' := setO h 62 (fup (fup (h 62) 4 (((h 62) 4) + 1)) 7 (((h 62) 7) + (b2 * 512)))) (up_can (sOf_eq _ _ _) rfl (setO_same _ _ _ _)) ?_
            refine TT_aload_n hK rfl 2 rfl dX6_comeIn_129 ?_
            refine TT_iload_n hK rfl 1 rfl dX6_comeIn_130 ?_
            refine TT_sipush hK (by decide) dX6_comeIn_131 ?_
            refine TT_icmp_ne hK (tgt := 142) (irm (by omega) (by omega)) (by decide) dX6_comeIn_134 (by decide) (fun hb134 => ?_) (fun hb134 => ?_)
            · exfalso; omega
            · refine TT_bipush hK (by decide) dX6_comeIn_137 ?_
              refine TT_goto hK (tgt := 144) dX6_comeIn_139 (by decide) ?_
              refine pf_X6_56 hK (by decide) rfl dX6_comeIn_144 ?_
              refine TT_hp (h' := setO h 62 (fup (fup (fup (h 62) 4 (((h 62) 4) + 1)) 6 7) 7 (((h 62) 7) + (b2 * 512)))) (up_can (sOf_eq _ _ _) (fup_comm _ _ _ (by decide)) (setO_same _ _ _ _)) ?_
              refine TT_vret hK hQ ?_ dX6_comeIn_147
              exact ⟨rfl, setO_cg rfl (by first | (exfalso; omega) | (unfold inS; rw [if_neg (by omega), e2]) | (unfold inS; rw [if_pos (by omega), if_neg (by omega), e2]))⟩
        · refine TT_aload_n hK rfl 2 rfl dX6_comeIn_72 ?_
          refine TT_dup hK rfl dX6_comeIn_73 ?_
          refine gf_X6_49 hK (by decide) rfl (v := (h 62) 7) rfl dX6_comeIn_74 ?_
          refine TT_ldc2 hK lc_X6_63 dX6_comeIn_77 ?_
          refine TT_ladd hK dX6_comeIn_80 ?_
          refine pf_X6_49 hK (by decide) rfl dX6_comeIn_81 ?_
          refine TT_hp (h' := setO h 62 (fup (h 62) 7 (((h 62) 7) + 65280))) (up_can rfl rfl rfl) ?_
          refine TT_aload_n hK rfl 2 rfl dX6_comeIn_84 ?_
          refine TT_bipush hK (by decide) dX6_comeIn_85 ?_
          refine pf_X6_56 hK (by decide) rfl dX6_comeIn_87 ?_
          refine TT_hp (h' := setO h 62 (fup (fup (h 62) 6 8) 7 (((h 62) 7) + 65280))) (up_can (sOf_eq _ _ _) (fup_comm _ _ _ (by decide)) (setO_same _ _ _ _)) ?_
          refine TT_vret hK hQ ?_ dX6_comeIn_90
          exact ⟨rfl, setO_cg rfl (by first | (exfalso; omega) | (unfold inS; rw [if_pos (by omega), if_pos (by omega)]; exact fup_46 _ _ _))⟩
set_option maxRecDepth 20000 in
theorem c_X6_begin_62 (n : Int) (h : Hp_) (hn : 0 ≤ n ∧ n ≤ 1024) (hg : 0 ≤ (h 62 2) ∧ (h 62 2) ≤ 1024) (hsrc : ∀ j, 0 ≤ j → j < min n (h 62 2) → 0 ≤ (h 66) j ∧ (h 66) j ≤ 255) : Ctr yX6_begin cX6_begin 2 none (rmd 2) ly ly 0 0 [vR 62, vI n] h (fun r h' => r = none ∧ h' = setO (setO (setO h 62 (fup (fup (fup (fup (fup (h 62) 3 (min n (h 62 2))) 4 ((bgS (h 66) (min n (h 62 2))).2.2)) 5 32768) 6 ((bgS (h 66) (min n (h 62 2))).2.1 - 7)) 7 ((bgS (h 66) (min n (h 62 2))).1 * 128))) 64 (fup (fup (fup (fsr (h 64) 0 19 (fun _ => 0)) 0 4) 17 3) 18 46)) 65 (fsr (h 65) 0 19 (fun _ => 0))) := by
  refine Ctr_of (by decide) (Nat.le_of_ble_eq_true rfl) ⟨Nat.le_refl _, Nat.le_refl _⟩ (fun K hK hQ _ => ?_)
  show TT K ly 0 0 0 [(0, vR 62), (1, vI n)] [] h
  have b1 := byS_r hsrc (k := 0) (by decide)
  have bz : min n (h 62 2) ≤ 0 ∨ (0 ≤ h 66 0 ∧ h 66 0 ≤ 255) := (by by_cases q : min n (h 62 2) ≤ 0; exact Or.inl q; exact Or.inr (hsrc 0 (by decide) (by omega)))
  have r1 := inS_r hsrc (c := 65536 * byS (h 66) (min n (h 62 2)) 0) (p := 0) (by decide) (by omega)
  refine TT_aload_n hK rfl 0 rfl dX6_begin_0 ?_
  refine gf_X6_12 hK (by decide) rfl (q := 63) rfl rfl dX6_begin_1 ?_
  refine iv_X6_32 hK (c_X2_begin_63 h ) (by decide) rfl ⟨by decide, by decide⟩ (by decide) rfl rfl (Nat.le_of_ble_eq_true rfl) ⟨by decide, by decide⟩ dX6_begin_4 ?_
  intro r9 h9 hp9
  rw [hp9.1, hp9.2]
  show TT K ly 0 0 7 [(0, vR 62), (1, vI n)] [] (setO (setO h 64 (fup (fup (fup (fsr (h 64) 0 19 (fun _ => 0)) 0 4) 17 3) 18 46)) 65 (fsr (h 65) 0 19 (fun _ => 0)))
  refine TT_aload_n hK rfl 0 rfl dX6_begin_7 ?_
  refine TT_iload_n hK rfl 1 rfl dX6_begin_8 ?_
  refine TT_aload_n hK rfl 0 rfl dX6_begin_9 ?_
  refine gf_X6_22 hK (by decide) rfl (v := (h 62) 2) (rd_ ((sOf_ne _ _ (by decide)).trans (sOf_ne _ _ (by decide))) rfl) dX6_begin_10 ?_
  refine TT_mmin hK (irm (by omega) (by omega)) (irm (by omega) (by omega)) iw_X6_35 (by decide) (Nat.le_of_ble_eq_true rfl) ⟨by decide, by decide⟩ dX6_begin_13 ?_
  refine pf_X6_41 hK (by decide) rfl dX6_begin_16 ?_
  refine TT_hp (h' := setO (setO (setO h 62 (fup (h 62) 3 (min n ((h 62) 2)))) 64 (fup (fup (fup (fsr (h 64) 0 19 (fun _ => 0)) 0 4) 17 3) 18 46)) 65 (fsr (h 65) 0 19 (fun _ => 0))) (up_can ((sOf_ne _ _ (by decide)).trans (sOf_ne _ _ (by decide))) rfl ((setO_comm _ _ _ (by decide)).trans (setO_cg ((setO_comm _ _ _ (by decide)).trans (setO_cg rfl rfl)) rfl))) ?_
  refine TT_aload_n hK rfl 0 rfl dX6_begin_19 ?_
  refine TT_iconst hK dX6_begin_20 ?_
  refine pf_X6_44 hK (by decide) rfl dX6_begin_21 ?_
  refine TT_hp (h' := setO (setO (setO h 62 (fup (fup (h 62) 3 (min n ((h 62) 2))) 4 0)) 64 (fup (fup (fup (fsr (h 64) 0 19 (fun _ => 0)) 0 4) 17 3) 18 46)) 65 (fsr (h 65) 0 19 (fun _ => 0))) (up_can ((sOf_ne _ _ (by decide)).trans ((sOf_ne _ _ (by decide)).trans (sOf_eq _ _ _))) rfl ((setO_comm _ _ _ (by decide)).trans (setO_cg ((setO_comm _ _ _ (by decide)).trans (setO_cg (setO_same _ _ _ _) rfl)) rfl))) ?_
  refine TT_aload_n hK rfl 0 rfl dX6_begin_24 ?_
  refine TT_aload_n hK rfl 0 rfl dX6_begin_25 ?_
  refine gf_X6_41 hK (by decide) rfl (v := min n ((h 62) 2)) (rd_ ((sOf_ne _ _ (by decide)).trans ((sOf_ne _ _ (by decide)).trans (sOf_eq _ _ _))) ((fup_ne _ _ (by decide)).trans (fup_eq _ _ _))) dX6_begin_26 ?_
  refine TT_if_le hK (tgt := 41) (irm (by omega) (by omega)) dX6_begin_29 (by decide) (fun hb29 => ?_) (fun hb29 => ?_)
  · refine TT_sipush hK (by decide) dX6_begin_41 ?_
    refine TT_i2l hK (by decide) dX6_begin_44 ?_
    refine TT_ldc2 hK lc_X6_47 dX6_begin_45 ?_
    refine TT_lmul hK dX6_begin_48 ?_
    refine TT_cgJ (b := 65536 * byS (h 66) (min n (h 62 2)) 0) (by unfold byS; first | (rw [if_pos (by omega)]; omega) | (rw [if_neg (by omega)]; decide)) ?_
    refine pf_X6_49 hK (by decide) rfl dX6_begin_49 ?_
    refine TT_hp (h' := setO (setO (setO h 62 (fup (fup (fup (h 62) 3 (min n ((h 62) 2))) 4 0) 7 (65536 * byS (h 66) (min n (h 62 2)) 0))) 64 (fup (fup (fup (fsr (h 64) 0 19 (fun _ => 0)) 0 4) 17 3) 18 46)) 65 (fsr (h 65) 0 19 (fun _ => 0))) (up_can ((sOf_ne _ _ (by decide)).trans ((sOf_ne _ _ (by decide)).trans (sOf_eq _ _ _))) rfl ((setO_comm _ _ _ (by decide)).trans (setO_cg ((setO_comm _ _ _ (by decide)).trans (setO_cg (setO_same _ _ _ _) rfl)) rfl))) ?_
    refine TT_aload_n hK rfl 0 rfl dX6_begin_52 ?_
    have q53_62_3 : (setO (setO (setO h 62 (fup (fup (fup (h 62) 3 (min n ((h 62) 2))) 4 0) 7 (65536 * byS (h 66) (min n (h 62 2)) 0))) 64 (fup (fup (fup (fsr (h 64) 0 19 (fun _ => 0)) 0 4) 17 3) 18 46)) 65 (fsr (h 65) 0 19 (fun _ => 0))) 62 3 = min n ((h 62) 2) := rd_ ((sOf_ne _ _ (by decide)).trans ((sOf_ne _ _ (by decide)).trans (sOf_eq _ _ _))) ((fup_ne _ _ (by decide)).trans ((fup_ne _ _ (by decide)).trans (fup_eq _ _ _)))
    have q53_62_4 : (setO (setO (setO h 62 (fup (fup (fup (h 62) 3 (min n ((h 62) 2))) 4 0) 7 (65536 * byS (h 66) (min n (h 62 2)) 0))) 64 (fup (fup (fup (fsr (h 64) 0 19 (fun _ => 0)) 0 4) 17 3) 18 46)) 65 (fsr (h 65) 0 19 (fun _ => 0))) 62 4 = 0 := rd_ ((sOf_ne _ _ (by decide)).trans ((sOf_ne _ _ (by decide)).trans (sOf_eq _ _ _))) ((fup_ne _ _ (by decide)).trans (fup_eq _ _ _))
    have q53_62_7 : (setO (setO (setO h 62 (fup (fup (fup (h 62) 3 (min n ((h 62) 2))) 4 0) 7 (65536 * byS (h 66) (min n (h 62 2)) 0))) 64 (fup (fup (fup (fsr (h 64) 0 19 (fun _ => 0)) 0 4) 17 3) 18 46)) 65 (fsr (h 65) 0 19 (fun _ => 0))) 62 7 = 65536 * byS (h 66) (min n (h 62 2)) 0 := rd_ ((sOf_ne _ _ (by decide)).trans ((sOf_ne _ _ (by decide)).trans (sOf_eq _ _ _))) (fup_eq _ _ _)
    have q53_62 : (setO (setO (setO h 62 (fup (fup (fup (h 62) 3 (min n ((h 62) 2))) 4 0) 7 (65536 * byS (h 66) (min n (h 62 2)) 0))) 64 (fup (fup (fup (fsr (h 64) 0 19 (fun _ => 0)) 0 4) 17 3) 18 46)) 65 (fsr (h 65) 0 19 (fun _ => 0))) 62 = fup (fup (fup (h 62) 3 (min n ((h 62) 2))) 4 0) 7 (65536 * byS (h 66) (min n (h 62 2)) 0) := (sOf_ne _ _ (by decide)).trans ((sOf_ne _ _ (by decide)).trans (sOf_eq _ _ _))
    have q53_66 : (setO (setO (setO h 62 (fup (fup (fup (h 62) 3 (min n ((h 62) 2))) 4 0) 7 (65536 * byS (h 66) (min n (h 62 2)) 0))) 64 (fup (fup (fup (fsr (h 64) 0 19 (fun _ => 0)) 0 4) 17 3) 18 46)) 65 (fsr (h 65) 0 19 (fun _ => 0))) 66 = h 66 := (sOf_ne _ _ (by decide)).trans ((sOf_ne _ _ (by decide)).trans (sOf_ne _ _ (by decide)))
    refine iv_X6_53 hK (c_X6_comeIn_62 (setO (setO (setO h 62 (fup (fup (fup (h 62) 3 (min n ((h 62) 2))) 4 0) 7 (65536 * byS (h 66) (min n (h 62 2)) 0))) 64 (fup (fup (fup (fsr (h 64) 0 19 (fun _ => 0)) 0 4) 17 3) 18 46)) 65 (fsr (h 65) 0 19 (fun _ => 0))) (by rw [q53_62_3, q53_66]; exact hsrc) (by rw [q53_62_3]; first | omega | (simp [up, setR] <;> omega)) (by rw [q53_62_3, q53_62_4]; first | omega | (simp [up, setR] <;> omega)) (by rw [q53_62_7]; first | omega | (simp [up, setR] <;> omega))) (by decide) rfl ⟨by decide, by decide⟩ (by decide) rfl rfl (Nat.le_of_ble_eq_true rfl) ⟨by decide, by decide⟩ dX6_begin_53 ?_
    intro r9 h9 hp9
    rw [q53_62_3, q53_62_4, q53_62_7, q53_62, q53_66] at hp9
    rw [hp9.1, hp9.2]
    refine TT_hp (h' := setO (setO (setO h 62 (fup (fup (fup (fup (h 62) 3 (min n ((h 62) 2))) 4 ((inS (h 66) (min n ((h 62) 2)) (65536 * byS (h 66) (min n (h 62 2)) 0) 0).2.2)) 6 ((inS (h 66) (min n ((h 62) 2)) (65536 * byS (h 66) (min n (h 62 2)) 0) 0).2.1)) 7 ((inS (h 66) (min n ((h 62) 2)) (65536 * byS (h 66) (min n (h 62 2)) 0) 0).1))) 64 (fup (fup (fup (fsr (h 64) 0 19 (fun _ => 0)) 0 4) 17 3) 18 46)) 65 (fsr (h 65) 0 19 (fun _ => 0))) ((setO_cg rfl ((fup_cg ((fup_cg ((fup_comm _ _ _ (by decide)).trans (fup_cg (fup_same _ _ _ _)))).trans (fup_comm _ _ _ (by decide)))).trans (fup_same _ _ _ _))).trans ((setO_comm _ _ _ (by decide)).trans (setO_cg ((setO_comm _ _ _ (by decide)).trans (setO_cg (setO_same _ _ _ _) rfl)) rfl))) ?_
    show TT K ly 0 0 56 [(0, vR 62), (1, vI n)] [] (setO (setO (setO h 62 (fup (fup (fup (fup (h 62) 3 (min n ((h 62) 2))) 4 ((inS (h 66) (min n ((h 62) 2)) (65536 * byS (h 66) (min n (h 62 2)) 0) 0).2.2)) 6 ((inS (h 66) (min n ((h 62) 2)) (65536 * byS (h 66) (min n (h 62 2)) 0) 0).2.1)) 7 ((inS (h 66) (min n ((h 62) 2)) (65536 * byS (h 66) (min n (h 62 2)) 0) 0).1))) 64 (fup (fup (fup (fsr (h 64) 0 19 (fun _ => 0)) 0 4) 17 3) 18 46)) 65 (fsr (h 65) 0 19 (fun _ => 0)))
    refine TT_aload_n hK rfl 0 rfl dX6_begin_56 ?_
    refine TT_dup hK rfl dX6_begin_57 ?_
    refine gf_X6_49 hK (by decide) rfl (v := (inS (h 66) (min n ((h 62) 2)) (65536 * byS (h 66) (min n (h 62 2)) 0) 0).1) (rd_ ((sOf_ne _ _ (by decide)).trans ((sOf_ne _ _ (by decide)).trans (sOf_eq _ _ _))) (fup_eq _ _ _)) dX6_begin_58 ?_
    refine TT_bipush hK (by decide) dX6_begin_61 ?_
    refine TT_lshl hK (by decide) dX6_begin_63 ?_
    refine TT_cgJ (b := ((inS (h 66) (min n ((h 62) 2)) (65536 * byS (h 66) (min n (h 62 2)) 0) 0).1) * 128) rfl ?_
    refine pf_X6_49 hK (by decide) rfl dX6_begin_64 ?_
    refine TT_hp (h' := setO (setO (setO h 62 (fup (fup (fup (fup (h 62) 3 (min n ((h 62) 2))) 4 ((inS (h 66) (min n ((h 62) 2)) (65536 * byS (h 66) (min n (h 62 2)) 0) 0).2.2)) 6 ((inS (h 66) (min n ((h 62) 2)) (65536 * byS (h 66) (min n (h 62 2)) 0) 0).2.1)) 7 (((inS (h 66) (min n ((h 62) 2)) (65536 * byS (h 66) (min n (h 62 2)) 0) 0).1) * 128))) 64 (fup (fup (fup (fsr (h 64) 0 19 (fun _ => 0)) 0 4) 17 3) 18 46)) 65 (fsr (h 65) 0 19 (fun _ => 0))) (up_can ((sOf_ne _ _ (by decide)).trans ((sOf_ne _ _ (by decide)).trans (sOf_eq _ _ _))) (fup_same _ _ _ _) ((setO_comm _ _ _ (by decide)).trans (setO_cg ((setO_comm _ _ _ (by decide)).trans (setO_cg (setO_same _ _ _ _) rfl)) rfl))) ?_
    refine TT_aload_n hK rfl 0 rfl dX6_begin_67 ?_
    refine TT_dup hK rfl dX6_begin_68 ?_
    refine gf_X6_56 hK (by decide) rfl (v := (inS (h 66) (min n ((h 62) 2)) (65536 * byS (h 66) (min n (h 62 2)) 0) 0).2.1) (rd_ ((sOf_ne _ _ (by decide)).trans ((sOf_ne _ _ (by decide)).trans (sOf_eq _ _ _))) ((fup_ne _ _ (by decide)).trans (fup_eq _ _ _))) dX6_begin_69 ?_
    refine TT_bipush hK (by decide) dX6_begin_72 ?_
    refine TT_isub hK dX6_begin_74 ?_
    refine pf_X6_56 hK (by decide) rfl dX6_begin_75 ?_
    refine TT_hp (h' := setO (setO (setO h 62 (fup (fup (fup (fup (h 62) 3 (min n ((h 62) 2))) 4 ((inS (h 66) (min n ((h 62) 2)) (65536 * byS (h 66) (min n (h 62 2)) 0) 0).2.2)) 6 (((inS (h 66) (min n ((h 62) 2)) (65536 * byS (h 66) (min n (h 62 2)) 0) 0).2.1) - 7)) 7 (((inS (h 66) (min n ((h 62) 2)) (65536 * byS (h 66) (min n (h 62 2)) 0) 0).1) * 128))) 64 (fup (fup (fup (fsr (h 64) 0 19 (fun _ => 0)) 0 4) 17 3) 18 46)) 65 (fsr (h 65) 0 19 (fun _ => 0))) (up_can ((sOf_ne _ _ (by decide)).trans ((sOf_ne _ _ (by decide)).trans (sOf_eq _ _ _))) ((fup_comm _ _ _ (by decide)).trans (fup_cg (fup_same _ _ _ _))) ((setO_comm _ _ _ (by decide)).trans (setO_cg ((setO_comm _ _ _ (by decide)).trans (setO_cg (setO_same _ _ _ _) rfl)) rfl))) ?_
    refine TT_aload_n hK rfl 0 rfl dX6_begin_78 ?_
    refine TT_ldc hK lc_X6_59 dX6_begin_79 ?_
    refine pf_X6_60 hK (by decide) rfl dX6_begin_81 ?_
    refine TT_hp (h' := setO (setO (setO h 62 (fup (fup (fup (fup (fup (h 62) 3 (min n ((h 62) 2))) 4 ((inS (h 66) (min n ((h 62) 2)) (65536 * byS (h 66) (min n (h 62 2)) 0) 0).2.2)) 5 32768) 6 (((inS (h 66) (min n ((h 62) 2)) (65536 * byS (h 66) (min n (h 62 2)) 0) 0).2.1) - 7)) 7 (((inS (h 66) (min n ((h 62) 2)) (65536 * byS (h 66) (min n (h 62 2)) 0) 0).1) * 128))) 64 (fup (fup (fup (fsr (h 64) 0 19 (fun _ => 0)) 0 4) 17 3) 18 46)) 65 (fsr (h 65) 0 19 (fun _ => 0))) (up_can ((sOf_ne _ _ (by decide)).trans ((sOf_ne _ _ (by decide)).trans (sOf_eq _ _ _))) ((fup_comm _ _ _ (by decide)).trans (fup_cg (fup_comm _ _ _ (by decide)))) ((setO_comm _ _ _ (by decide)).trans (setO_cg ((setO_comm _ _ _ (by decide)).trans (setO_cg (setO_same _ _ _ _) rfl)) rfl))) ?_
    refine TT_vret hK hQ ?_ dX6_begin_84
    exact ⟨rfl, setO_cg (setO_cg (setO_cg rfl (by rfl)) rfl) rfl⟩
  · refine TT_aload_n hK rfl 0 rfl dX6_begin_32 ?_
    refine gf_X6_18 hK (by decide) rfl (q := 66) rfl rfl dX6_begin_33 ?_
    refine TT_iconst hK dX6_begin_36 ?_
    refine TT_iald hK (o := 66) (n := 1024) (by decide) rfl (by first | omega | (simp [up, setR] <;> omega)) (by first | omega | (simp [up, setR] <;> omega)) (v := (h 66) 0) (rd_ ((sOf_ne _ _ (by decide)).trans ((sOf_ne _ _ (by decide)).trans (sOf_ne _ _ (by decide)))) rfl) dX6_begin_37 ?_
    refine TT_goto hK (tgt := 44) dX6_begin_38 (by decide) ?_
    refine TT_i2l hK (irm (by omega) (by omega)) dX6_begin_44 ?_
    refine TT_ldc2 hK lc_X6_47 dX6_begin_45 ?_
    refine TT_lmul hK dX6_begin_48 ?_
    refine TT_cgJ (b := 65536 * byS (h 66) (min n (h 62 2)) 0) (by unfold byS; first | (rw [if_pos (by omega)]; omega) | (rw [if_neg (by omega)]; decide)) ?_
    refine pf_X6_49 hK (by decide) rfl dX6_begin_49 ?_
    refine TT_hp (h' := setO (setO (setO h 62 (fup (fup (fup (h 62) 3 (min n ((h 62) 2))) 4 0) 7 (65536 * byS (h 66) (min n (h 62 2)) 0))) 64 (fup (fup (fup (fsr (h 64) 0 19 (fun _ => 0)) 0 4) 17 3) 18 46)) 65 (fsr (h 65) 0 19 (fun _ => 0))) (up_can ((sOf_ne _ _ (by decide)).trans ((sOf_ne _ _ (by decide)).trans (sOf_eq _ _ _))) rfl ((setO_comm _ _ _ (by decide)).trans (setO_cg ((setO_comm _ _ _ (by decide)).trans (setO_cg (setO_same _ _ _ _) rfl)) rfl))) ?_
    refine TT_aload_n hK rfl 0 rfl dX6_begin_52 ?_
    have q53_62_3 : (setO (setO (setO h 62 (fup (fup (fup (h 62) 3 (min n ((h 62) 2))) 4 0) 7 (65536 * byS (h 66) (min n (h 62 2)) 0))) 64 (fup (fup (fup (fsr (h 64) 0 19 (fun _ => 0)) 0 4) 17 3) 18 46)) 65 (fsr (h 65) 0 19 (fun _ => 0))) 62 3 = min n ((h 62) 2) := rd_ ((sOf_ne _ _ (by decide)).trans ((sOf_ne _ _ (by decide)).trans (sOf_eq _ _ _))) ((fup_ne _ _ (by decide)).trans ((fup_ne _ _ (by decide)).trans (fup_eq _ _ _)))
    have q53_62_4 : (setO (setO (setO h 62 (fup (fup (fup (h 62) 3 (min n ((h 62) 2))) 4 0) 7 (65536 * byS (h 66) (min n (h 62 2)) 0))) 64 (fup (fup (fup (fsr (h 64) 0 19 (fun _ => 0)) 0 4) 17 3) 18 46)) 65 (fsr (h 65) 0 19 (fun _ => 0))) 62 4 = 0 := rd_ ((sOf_ne _ _ (by decide)).trans ((sOf_ne _ _ (by decide)).trans (sOf_eq _ _ _))) ((fup_ne _ _ (by decide)).trans (fup_eq _ _ _))
    have q53_62_7 : (setO (setO (setO h 62 (fup (fup (fup (h 62) 3 (min n ((h 62) 2))) 4 0) 7 (65536 * byS (h 66) (min n (h 62 2)) 0))) 64 (fup (fup (fup (fsr (h 64) 0 19 (fun _ => 0)) 0 4) 17 3) 18 46)) 65 (fsr (h 65) 0 19 (fun _ => 0))) 62 7 = 65536 * byS (h 66) (min n (h 62 2)) 0 := rd_ ((sOf_ne _ _ (by decide)).trans ((sOf_ne _ _ (by decide)).trans (sOf_eq _ _ _))) (fup_eq _ _ _)
    have q53_62 : (setO (setO (setO h 62 (fup (fup (fup (h 62) 3 (min n ((h 62) 2))) 4 0) 7 (65536 * byS (h 66) (min n (h 62 2)) 0))) 64 (fup (fup (fup (fsr (h 64) 0 19 (fun _ => 0)) 0 4) 17 3) 18 46)) 65 (fsr (h 65) 0 19 (fun _ => 0))) 62 = fup (fup (fup (h 62) 3 (min n ((h 62) 2))) 4 0) 7 (65536 * byS (h 66) (min n (h 62 2)) 0) := (sOf_ne _ _ (by decide)).trans ((sOf_ne _ _ (by decide)).trans (sOf_eq _ _ _))
    have q53_66 : (setO (setO (setO h 62 (fup (fup (fup (h 62) 3 (min n ((h 62) 2))) 4 0) 7 (65536 * byS (h 66) (min n (h 62 2)) 0))) 64 (fup (fup (fup (fsr (h 64) 0 19 (fun _ => 0)) 0 4) 17 3) 18 46)) 65 (fsr (h 65) 0 19 (fun _ => 0))) 66 = h 66 := (sOf_ne _ _ (by decide)).trans ((sOf_ne _ _ (by decide)).trans (sOf_ne _ _ (by decide)))
    refine iv_X6_53 hK (c_X6_comeIn_62 (setO (setO (setO h 62 (fup (fup (fup (h 62) 3 (min n ((h 62) 2))) 4 0) 7 (65536 * byS (h 66) (min n (h 62 2)) 0))) 64 (fup (fup (fup (fsr (h 64) 0 19 (fun _ => 0)) 0 4) 17 3) 18 46)) 65 (fsr (h 65) 0 19 (fun _ => 0))) (by rw [q53_62_3, q53_66]; exact hsrc) (by rw [q53_62_3]; first | omega | (simp [up, setR] <;> omega)) (by rw [q53_62_3, q53_62_4]; first | omega | (simp [up, setR] <;> omega)) (by rw [q53_62_7]; first | omega | (simp [up, setR] <;> omega))) (by decide) rfl ⟨by decide, by decide⟩ (by decide) rfl rfl (Nat.le_of_ble_eq_true rfl) ⟨by decide, by decide⟩ dX6_begin_53 ?_
    intro r9 h9 hp9
    rw [q53_62_3, q53_62_4, q53_62_7, q53_62, q53_66] at hp9
    rw [hp9.1, hp9.2]
    refine TT_hp (h' := setO (setO (setO h 62 (fup (fup (fup (fup (h 62) 3 (min n ((h 62) 2))) 4 ((inS (h 66) (min n ((h 62) 2)) (65536 * byS (h 66) (min n (h 62 2)) 0) 0).2.2)) 6 ((inS (h 66) (min n ((h 62) 2)) (65536 * byS (h 66) (min n (h 62 2)) 0) 0).2.1)) 7 ((inS (h 66) (min n ((h 62) 2)) (65536 * byS (h 66) (min n (h 62 2)) 0) 0).1))) 64 (fup (fup (fup (fsr (h 64) 0 19 (fun _ => 0)) 0 4) 17 3) 18 46)) 65 (fsr (h 65) 0 19 (fun _ => 0))) ((setO_cg rfl ((fup_cg ((fup_cg ((fup_comm _ _ _ (by decide)).trans (fup_cg (fup_same _ _ _ _)))).trans (fup_comm _ _ _ (by decide)))).trans (fup_same _ _ _ _))).trans ((setO_comm _ _ _ (by decide)).trans (setO_cg ((setO_comm _ _ _ (by decide)).trans (setO_cg (setO_same _ _ _ _) rfl)) rfl))) ?_
    show TT K ly 0 0 56 [(0, vR 62), (1, vI n)] [] (setO (setO (setO h 62 (fup (fup (fup (fup (h 62) 3 (min n ((h 62) 2))) 4 ((inS (h 66) (min n ((h 62) 2)) (65536 * byS (h 66) (min n (h 62 2)) 0) 0).2.2)) 6 ((inS (h 66) (min n ((h 62) 2)) (65536 * byS (h 66) (min n (h 62 2)) 0) 0).2.1)) 7 ((inS (h 66) (min n ((h 62) 2)) (65536 * byS (h 66) (min n (h 62 2)) 0) 0).1))) 64 (fup (fup (fup (fsr (h 64) 0 19 (fun _ => 0)) 0 4) 17 3) 18 46)) 65 (fsr (h 65) 0 19 (fun _ => 0)))
    refine TT_aload_n hK rfl 0 rfl dX6_begin_56 ?_
    refine TT_dup hK rfl dX6_begin_57 ?_
    refine gf_X6_49 hK (by decide) rfl (v := (inS (h 66) (min n ((h 62) 2)) (65536 * byS (h 66) (min n (h 62 2)) 0) 0).1) (rd_ ((sOf_ne _ _ (by decide)).trans ((sOf_ne _ _ (by decide)).trans (sOf_eq _ _ _))) (fup_eq _ _ _)) dX6_begin_58 ?_
    refine TT_bipush hK (by decide) dX6_begin_61 ?_
    refine TT_lshl hK (by decide) dX6_begin_63 ?_
    refine TT_cgJ (b := ((inS (h 66) (min n ((h 62) 2)) (65536 * byS (h 66) (min n (h 62 2)) 0) 0).1) * 128) rfl ?_
    refine pf_X6_49 hK (by decide) rfl dX6_begin_64 ?_
    refine TT_hp (h' := setO (setO (setO h 62 (fup (fup (fup (fup (h 62) 3 (min n ((h 62) 2))) 4 ((inS (h 66) (min n ((h 62) 2)) (65536 * byS (h 66) (min n (h 62 2)) 0) 0).2.2)) 6 ((inS (h 66) (min n ((h 62) 2)) (65536 * byS (h 66) (min n (h 62 2)) 0) 0).2.1)) 7 (((inS (h 66) (min n ((h 62) 2)) (65536 * byS (h 66) (min n (h 62 2)) 0) 0).1) * 128))) 64 (fup (fup (fup (fsr (h 64) 0 19 (fun _ => 0)) 0 4) 17 3) 18 46)) 65 (fsr (h 65) 0 19 (fun _ => 0))) (up_can ((sOf_ne _ _ (by decide)).trans ((sOf_ne _ _ (by decide)).trans (sOf_eq _ _ _))) (fup_same _ _ _ _) ((setO_comm _ _ _ (by decide)).trans (setO_cg ((setO_comm _ _ _ (by decide)).trans (setO_cg (setO_same _ _ _ _) rfl)) rfl))) ?_
    refine TT_aload_n hK rfl 0 rfl dX6_begin_67 ?_
    refine TT_dup hK rfl dX6_begin_68 ?_
    refine gf_X6_56 hK (by decide) rfl (v := (inS (h 66) (min n ((h 62) 2)) (65536 * byS (h 66) (min n (h 62 2)) 0) 0).2.1) (rd_ ((sOf_ne _ _ (by decide)).trans ((sOf_ne _ _ (by decide)).trans (sOf_eq _ _ _))) ((fup_ne _ _ (by decide)).trans (fup_eq _ _ _))) dX6_begin_69 ?_
    refine TT_bipush hK (by decide) dX6_begin_72 ?_
    refine TT_isub hK dX6_begin_74 ?_
    refine pf_X6_56 hK (by decide) rfl dX6_begin_75 ?_
    refine TT_hp (h' := setO (setO (setO h 62 (fup (fup (fup (fup (h 62) 3 (min n ((h 62) 2))) 4 ((inS (h 66) (min n ((h 62) 2)) (65536 * byS (h 66) (min n (h 62 2)) 0) 0).2.2)) 6 (((inS (h 66) (min n ((h 62) 2)) (65536 * byS (h 66) (min n (h 62 2)) 0) 0).2.1) - 7)) 7 (((inS (h 66) (min n ((h 62) 2)) (65536 * byS (h 66) (min n (h 62 2)) 0) 0).1) * 128))) 64 (fup (fup (fup (fsr (h 64) 0 19 (fun _ => 0)) 0 4) 17 3) 18 46)) 65 (fsr (h 65) 0 19 (fun _ => 0))) (up_can ((sOf_ne _ _ (by decide)).trans ((sOf_ne _ _ (by decide)).trans (sOf_eq _ _ _))) ((fup_comm _ _ _ (by decide)).trans (fup_cg (fup_same _ _ _ _))) ((setO_comm _ _ _ (by decide)).trans (setO_cg ((setO_comm _ _ _ (by decide)).trans (setO_cg (setO_same _ _ _ _) rfl)) rfl))) ?_
    refine TT_aload_n hK rfl 0 rfl dX6_begin_78 ?_
    refine TT_ldc hK lc_X6_59 dX6_begin_79 ?_
    refine pf_X6_60 hK (by decide) rfl dX6_begin_81 ?_
    refine TT_hp (h' := setO (setO (setO h 62 (fup (fup (fup (fup (fup (h 62) 3 (min n ((h 62) 2))) 4 ((inS (h 66) (min n ((h 62) 2)) (65536 * byS (h 66) (min n (h 62 2)) 0) 0).2.2)) 5 32768) 6 (((inS (h 66) (min n ((h 62) 2)) (65536 * byS (h 66) (min n (h 62 2)) 0) 0).2.1) - 7)) 7 (((inS (h 66) (min n ((h 62) 2)) (65536 * byS (h 66) (min n (h 62 2)) 0) 0).1) * 128))) 64 (fup (fup (fup (fsr (h 64) 0 19 (fun _ => 0)) 0 4) 17 3) 18 46)) 65 (fsr (h 65) 0 19 (fun _ => 0))) (up_can ((sOf_ne _ _ (by decide)).trans ((sOf_ne _ _ (by decide)).trans (sOf_eq _ _ _))) ((fup_comm _ _ _ (by decide)).trans (fup_cg (fup_comm _ _ _ (by decide)))) ((setO_comm _ _ _ (by decide)).trans (setO_cg ((setO_comm _ _ _ (by decide)).trans (setO_cg (setO_same _ _ _ _) rfl)) rfl))) ?_
    refine TT_vret hK hQ ?_ dX6_begin_84
    exact ⟨rfl, setO_cg (setO_cg (setO_cg rfl (by rfl)) rfl) rfl⟩
set_option maxRecDepth 20000 in
theorem c_X6_tellBit_62 (x b : Int) (h : Hp_) (hx : 0 ≤ x ∧ x < 19) (hst : ∀ j, 0 ≤ j → j < 19 → 0 ≤ (h 64) j ∧ (h 64) j < 47) (hlk : ∀ j, 0 ≤ j → j < 19 → (h 65) j = 0 ∨ (h 65) j = 1) (hsrc : ∀ j, 0 ≤ j → j < (h 62 3) → 0 ≤ (h 66) j ∧ (h 66) j ≤ 255) (hsn : 0 ≤ (h 62 3) ∧ (h 62 3) ≤ 1024) (hq : RQ_ (h 62 3) (h 62 5) (h 62 6) (h 62 4)) (ha : 32768 ≤ (h 62 5)) (hcb : 0 ≤ (h 62 7) ∧ (h 62 7) ≤ 1099511627776) : Ctr yX6_tellBit cX6_tellBit 7 (some .int) (rmd 1) ly ly 0 0 [vR 62, vI x, vI b] h (fun r h' => r = some (vI ((rdS lwC fxC (h 66) (h 62 3) ((h 62 5), (h 62 7), (h 62 6), (h 62 4), (h 64), (h 65)) x).1)) ∧ h' = setO (setO (setO h 62 (fup (fup (fup (fup (h 62) 4 ((rdS lwC fxC (h 66) (h 62 3) ((h 62 5), (h 62 7), (h 62 6), (h 62 4), (h 64), (h 65)) x).2.2.2.2.1)) 5 ((rdS lwC fxC (h 66) (h 62 3) ((h 62 5), (h 62 7), (h 62 6), (h 62 4), (h 64), (h 65)) x).2.1)) 6 ((rdS lwC fxC (h 66) (h 62 3) ((h 62 5), (h 62 7), (h 62 6), (h 62 4), (h 64), (h 65)) x).2.2.2.1)) 7 ((rdS lwC fxC (h 66) (h 62 3) ((h 62 5), (h 62 7), (h 62 6), (h 62 4), (h 64), (h 65)) x).2.2.1))) 64 ((rdS lwC fxC (h 66) (h 62 3) ((h 62 5), (h 62 7), (h 62 6), (h 62 4), (h 64), (h 65)) x).2.2.2.2.2.1)) 65 ((rdS lwC fxC (h 66) (h 62 3) ((h 62 5), (h 62 7), (h 62 6), (h 62 4), (h 64), (h 65)) x).2.2.2.2.2.2)) := by
  refine Ctr_of (by decide) (Nat.le_of_ble_eq_true rfl) ⟨Nat.le_refl _, Nat.le_refl _⟩ (fun K hK hQ _ => ?_)
  show TT K ly 0 0 0 [(0, vR 62), (1, vI x), (2, vI b)] [] h
  have hs := hst x hx.1 hx.2
  have ht := (tab_r hs).1
  have hl := hlk x hx.1 hx.2
  have hq2 := hq.2.1
  refine TT_aload_n hK rfl 0 rfl dX6_tellBit_0 ?_
  refine gf_X6_12 hK (by decide) rfl (q := 63) rfl rfl dX6_tellBit_1 ?_
  refine TT_iload_n hK rfl 1 rfl dX6_tellBit_4 ?_
  refine iv_X6_65 hK (c_X2_sizeOf_63 x h (by first | omega | (simp [up, setR] <;> omega)) (by exact hst)) (by decide) rfl ⟨by decide, by decide⟩ (by decide) rfl rfl (Nat.le_of_ble_eq_true rfl) ⟨by decide, by decide⟩ dX6_tellBit_5 ?_
  intro r9 h9 hp9
  rw [hp9.1, hp9.2]
  show TT K ly 0 0 8 [(0, vR 62), (1, vI x), (2, vI b)] [vI (qS ((h 64) x))] h
  refine TT_istore_n hK rfl (lv' := [(3, vI (qS ((h 64) x))), (0, vR 62), (1, vI x), (2, vI b)]) (by decide) rfl dX6_tellBit_8 ?_
  refine TT_aload_n hK rfl 1 rfl dX6_tellBit_9 ?_
  refine gf_X6_12 hK (by decide) rfl (q := 63) rfl rfl dX6_tellBit_10 ?_
  refine TT_iload_n hK rfl 2 rfl dX6_tellBit_13 ?_
  refine iv_X6_68 hK (c_X2_likelyBit_63 x h (by first | omega | (simp [up, setR] <;> omega))) (by decide) rfl ⟨by decide, by decide⟩ (by decide) rfl rfl (Nat.le_of_ble_eq_true rfl) ⟨by decide, by decide⟩ dX6_tellBit_14 ?_
  intro r9 h9 hp9
  rw [hp9.1, hp9.2]
  show TT K ly 0 0 17 [(3, vI (qS ((h 64) x))), (0, vR 62), (1, vI x), (2, vI b)] [vI ((h 65) x)] h
  refine TT_istore hK (lv' := [(4, vI ((h 65) x)), (3, vI (qS ((h 64) x))), (0, vR 62), (1, vI x), (2, vI b)]) (by decide) rfl dX6_tellBit_17 ?_
  refine TT_aload_n hK rfl 2 rfl dX6_tellBit_19 ?_
  refine TT_dup hK rfl dX6_tellBit_20 ?_
  refine gf_X6_60 hK (by decide) rfl (v := (h 62) 5) rfl dX6_tellBit_21 ?_
  refine TT_iload_n hK rfl 1 rfl dX6_tellBit_24 ?_
  refine TT_isub hK dX6_tellBit_25 ?_
  refine pf_X6_60 hK (by decide) rfl dX6_tellBit_26 ?_
  refine TT_hp (h' := setO h 62 (fup (h 62) 5 (((h 62) 5) - (qS ((h 64) x))))) (up_can rfl rfl rfl) ?_
  refine TT_aload_n hK rfl 2 rfl dX6_tellBit_29 ?_
  refine gf_X6_49 hK (by decide) rfl (v := (h 62) 7) (rd_ (sOf_eq _ _ _) (fup_ne _ _ (by decide))) dX6_tellBit_30 ?_
  refine TT_bipush hK (by decide) dX6_tellBit_33 ?_
  refine TT_lshr hK (lrm (by omega) (by omega)) rfl dX6_tellBit_35 ?_
  refine TT_cgJ (b := ((h 62) 7) / 65536) rfl ?_
  refine TT_iload_n hK rfl 1 rfl dX6_tellBit_36 ?_
  refine TT_i2l hK (irm (by omega) (by omega)) dX6_tellBit_37 ?_
  refine TT_lcmp hK (lrm (by omega) (by omega)) (lrm (by omega) (by omega)) dX6_tellBit_38 ?_
  refine TT_if_ge hK (tgt := 69) (lcmp_ir _ _) dX6_tellBit_39 (by decide) (fun hb39 => ?_) (fun hb39 => ?_)
  · have hb39 := lcmp_ge hb39
    refine TT_aload_n hK rfl 2 rfl dX6_tellBit_69 ?_
    refine TT_dup hK rfl dX6_tellBit_70 ?_
    refine gf_X6_49 hK (by decide) rfl (v := (h 62) 7) (rd_ (sOf_eq _ _ _) (fup_ne _ _ (by decide))) dX6_tellBit_71 ?_
    refine TT_iload_n hK rfl 1 rfl dX6_tellBit_74 ?_
    refine TT_i2l hK (irm (by omega) (by omega)) dX6_tellBit_75 ?_
    refine TT_bipush hK (by decide) dX6_tellBit_76 ?_
    refine TT_lshl hK (by decide) dX6_tellBit_78 ?_
    refine TT_cgJ (b := (qS ((h 64) x)) * 65536) rfl ?_
    refine TT_cgJ (b := 65536 * qS (h 64 x)) (by omega) ?_
    refine TT_lsub hK dX6_tellBit_79 ?_
    refine pf_X6_49 hK (by decide) rfl dX6_tellBit_80 ?_
    refine TT_hp (h' := setO h 62 (fup (fup (h 62) 5 (((h 62) 5) - (qS ((h 64) x)))) 7 (((h 62) 7) - (65536 * qS (h 64 x))))) (up_can (sOf_eq _ _ _) rfl (setO_same _ _ _ _)) ?_
    refine TT_aload_n hK rfl 2 rfl dX6_tellBit_83 ?_
    refine gf_X6_60 hK (by decide) rfl (v := ((h 62) 5) - (qS ((h 64) x))) (rd_ (sOf_eq _ _ _) ((fup_ne _ _ (by decide)).trans (fup_eq _ _ _))) dX6_tellBit_84 ?_
    refine TT_ldc hK lc_X6_59 dX6_tellBit_87 ?_
    refine TT_icmp_lt hK (tgt := 95) (irm (by omega) (by omega)) (by decide) dX6_tellBit_89 (by decide) (fun hb89 => ?_) (fun hb89 => ?_)
    · refine TT_aload_n hK rfl 2 rfl dX6_tellBit_95 ?_
      refine gf_X6_60 hK (by decide) rfl (v := ((h 62) 5) - (qS ((h 64) x))) (rd_ (sOf_eq _ _ _) ((fup_ne _ _ (by decide)).trans (fup_eq _ _ _))) dX6_tellBit_96 ?_
      refine TT_iload_n hK rfl 1 rfl dX6_tellBit_99 ?_
      refine TT_icmp_ge hK (tgt := 110) (irm (by omega) (by omega)) (irm (by omega) (by omega)) dX6_tellBit_100 (by decide) (fun hb100 => ?_) (fun hb100 => ?_)
      · refine TT_iload hK 0 rfl dX6_tellBit_110 ?_
        refine TT_istore hK (lv' := [(5, vI ((h 65) x)), (4, vI ((h 65) x)), (3, vI (qS ((h 64) x))), (0, vR 62), (1, vI x), (2, vI b)]) (by decide) rfl dX6_tellBit_112 ?_
        refine TT_aload_n hK rfl 3 rfl dX6_tellBit_114 ?_
        refine gf_X6_12 hK (by decide) rfl (q := 63) rfl rfl dX6_tellBit_115 ?_
        refine TT_iload_n hK rfl 4 rfl dX6_tellBit_118 ?_
        refine TT_iload hK 0 rfl dX6_tellBit_119 ?_
        have q121_64 : (setO h 62 (fup (fup (h 62) 5 (((h 62) 5) - (qS ((h 64) x)))) 7 (((h 62) 7) - (65536 * qS (h 64 x))))) 64 = h 64 := sOf_ne _ _ (by decide)
        have q121_65 : (setO h 62 (fup (fup (h 62) 5 (((h 62) 5) - (qS ((h 64) x)))) 7 (((h 62) 7) - (65536 * qS (h 64 x))))) 65 = h 65 := sOf_ne _ _ (by decide)
        refine iv_X6_71 hK (c_X2_learn_63 x ((h 65) x) (setO h 62 (fup (fup (h 62) 5 (((h 62) 5) - (qS ((h 64) x)))) 7 (((h 62) 7) - (65536 * qS (h 64 x))))) (by first | omega | (simp [up, setR] <;> omega)) (by first | omega | (simp [up, setR] <;> omega)) (by rw [q121_64]; exact hst) (by rw [q121_65]; exact hlk)) (by decide) rfl ⟨by decide, by decide⟩ (by decide) rfl rfl (Nat.le_of_ble_eq_true rfl) ⟨by decide, by decide⟩ dX6_tellBit_121 ?_
        intro r9 h9 hp9
        rw [q121_64, q121_65] at hp9
        rw [hp9.1, hp9.2]
        show TT K ly 0 0 124 [(5, vI ((h 65) x)), (4, vI ((h 65) x)), (3, vI (qS ((h 64) x))), (0, vR 62), (1, vI x), (2, vI b)] [] (setO (setO (setO h 62 (fup (fup (h 62) 5 (((h 62) 5) - (qS ((h 64) x)))) 7 (((h 62) 7) - (65536 * qS (h 64 x))))) 64 (lrS (h 64) x (((h 65) x) ≠ (h 65) x))) 65 (lrL (h 64) (h 65) x (((h 65) x) ≠ (h 65) x)))
        refine TT_iconst hK dX6_tellBit_124 ?_
        refine TT_istore hK (lv' := [(6, vI 0), (5, vI ((h 65) x)), (4, vI ((h 65) x)), (3, vI (qS ((h 64) x))), (0, vR 62), (1, vI x), (2, vI b)]) (by decide) rfl dX6_tellBit_125 ?_
        have L127_4 : ∀ (k4 : Nat) (k : Int) (a1 : Int) (c1 : Int) (t1 : Int) (p1 : Int) (s1 : Int → Int) (l1 : Int → Int) (b9 : Int) (R9 : Int × Int × Int × Int), (0 ≤ k) → (k ≤ 15) → (RJ_ fxC (h 66) (h 62 3) (15 - k).toNat a1 c1 t1 p1 R9) → (0 ≤ c1 ∧ c1 ≤ 1099511627776) → ((rdS lwC fxC (h 66) (h 62 3) ((h 62 5), (h 62 7), (h 62 6), (h 62 4), (h 64), (h 65)) x) = (b9, R9.1, R9.2.1, R9.2.2.1, R9.2.2.2, s1, l1)) → ((15 : Int) - k).toNat < k4 → TT K ly 0 0 127 [(0, vR 62), (1, vI x), (5, vI b9), (6, vI k)] [] (setO (setO (setO h 62 (fup (fup (fup (fup (h 62) 4 p1) 5 a1) 6 t1) 7 c1)) 64 s1) 65 l1) := by
          intro k4
          induction k4 with
          | zero => intro k a1 c1 t1 p1 s1 l1 b9 R9 hkk0 hkk1 hM hcb1 hR hk4; exact absurd hk4 (Nat.not_lt_zero _)
          | succ k4 ih4 =>
            intro k a1 c1 t1 p1 s1 l1 b9 R9 hkk0 hkk1 hM hcb1 hR hk4
            obtain ⟨m1, m2, m3, m4, m5, m6⟩ := hM.2.2
            have hin := inS_r hsrc (c := c1) m5 m6
            refine TT_iload hK 3 rfl dX6_tellBit_127 ?_
            refine TT_bipush hK (by decide) dX6_tellBit_129 ?_
            refine TT_icmp_ge hK (tgt := 196) (irm (by omega) (by omega)) (by decide) dX6_tellBit_131 (by decide) (fun hb131 => ?_) (fun hb131 => ?_)
            · refine TT_iload hK 2 rfl dX6_tellBit_196 ?_
              refine TT_iret hK hQ ?_ dX6_tellBit_198
              have hE := RJ_done hM (by first | omega | (have h0 : (15 - k).toNat = 0 := (by omega); rw [h0] at hM; exact RJ_z hM))
              exact ⟨congrArg (fun z => some (vI z)) (by rw [hR]), setO_cg (setO_cg (setO_cg rfl (by rw [hR, ← hE])) (by rw [hR])) (by rw [hR])⟩
            · refine TT_aload_n hK rfl 0 rfl dX6_tellBit_134 ?_
              refine gf_X6_60 hK (by decide) rfl (v := a1) (rd_ ((sOf_ne _ _ (by decide)).trans ((sOf_ne _ _ (by decide)).trans (sOf_eq _ _ _))) ((fup_ne _ _ (by decide)).trans ((fup_ne _ _ (by decide)).trans (fup_eq _ _ _)))) dX6_tellBit_135 ?_
              refine TT_ldc hK lc_X6_59 dX6_tellBit_138 ?_
              refine TT_icmp_ge hK (tgt := 196) (irm (by omega) (by omega)) (by decide) dX6_tellBit_140 (by decide) (fun hb140 => ?_) (fun hb140 => ?_)
              · refine TT_iload hK 2 rfl dX6_tellBit_196 ?_
                refine TT_iret hK hQ ?_ dX6_tellBit_198
                have hE := RJ_done hM (by first | omega | (have h0 : (15 - k).toNat = 0 := (by omega); rw [h0] at hM; exact RJ_z hM))
                exact ⟨congrArg (fun z => some (vI z)) (by rw [hR]), setO_cg (setO_cg (setO_cg rfl (by rw [hR, ← hE])) (by rw [hR])) (by rw [hR])⟩
              · refine TT_aload_n hK rfl 0 rfl dX6_tellBit_143 ?_
                refine gf_X6_56 hK (by decide) rfl (v := t1) (rd_ ((sOf_ne _ _ (by decide)).trans ((sOf_ne _ _ (by decide)).trans (sOf_eq _ _ _))) ((fup_ne _ _ (by decide)).trans (fup_eq _ _ _))) dX6_tellBit_144 ?_
                refine TT_if_ne hK (tgt := 154) (irm (by omega) (by omega)) dX6_tellBit_147 (by decide) (fun hb147 => ?_) (fun hb147 => ?_)
                · refine TT_aload_n hK rfl 0 rfl dX6_tellBit_154 ?_
                  refine TT_dup hK rfl dX6_tellBit_155 ?_
                  refine gf_X6_60 hK (by decide) rfl (v := a1) (rd_ ((sOf_ne _ _ (by decide)).trans ((sOf_ne _ _ (by decide)).trans (sOf_eq _ _ _))) ((fup_ne _ _ (by decide)).trans ((fup_ne _ _ (by decide)).trans (fup_eq _ _ _)))) dX6_tellBit_156 ?_
                  refine TT_iconst hK dX6_tellBit_159 ?_
                  refine TT_ishl hK (by omega) (by omega) dX6_tellBit_160 ?_
                  refine TT_cgI (b := a1 * 2) rfl ?_
                  refine TT_cgI (b := 2 * a1) (by omega) ?_
                  refine pf_X6_60 hK (by decide) rfl dX6_tellBit_161 ?_
                  refine TT_hp (h' := setO (setO (setO h 62 (fup (fup (fup (fup (h 62) 4 p1) 5 (2 * a1)) 6 t1) 7 c1)) 64 s1) 65 l1) (up_can ((sOf_ne _ _ (by decide)).trans ((sOf_ne _ _ (by decide)).trans (sOf_eq _ _ _))) ((fup_comm _ _ _ (by decide)).trans (fup_cg ((fup_comm _ _ _ (by decide)).trans (fup_cg (fup_same _ _ _ _))))) ((setO_comm _ _ _ (by decide)).trans (setO_cg ((setO_comm _ _ _ (by decide)).trans (setO_cg (setO_same _ _ _ _) rfl)) rfl))) ?_
                  refine TT_aload_n hK rfl 0 rfl dX6_tellBit_164 ?_
                  refine TT_aload_n hK rfl 0 rfl dX6_tellBit_165 ?_
                  refine gf_X6_49 hK (by decide) rfl (v := c1) (rd_ ((sOf_ne _ _ (by decide)).trans ((sOf_ne _ _ (by decide)).trans (sOf_eq _ _ _))) (fup_eq _ _ _)) dX6_tellBit_166 ?_
                  refine TT_iconst hK dX6_tellBit_169 ?_
                  refine TT_lshl hK (by decide) dX6_tellBit_170 ?_
                  refine TT_cgJ (b := c1 * 2) rfl ?_
                  refine TT_cgJ (b := 2 * c1) (by omega) ?_
                  refine TT_ldc2 hK lc_X6_75 dX6_tellBit_171 ?_
                  refine TT_mminl hK (lrm (by omega) (by omega)) (by decide) iw_X6_77 (by decide) (Nat.le_of_ble_eq_true rfl) ⟨by decide, by decide⟩ dX6_tellBit_174 ?_
                  refine pf_X6_49 hK (by decide) rfl dX6_tellBit_177 ?_
                  refine TT_hp (h' := setO (setO (setO h 62 (fup (fup (fup (fup (h 62) 4 p1) 5 (2 * a1)) 6 t1) 7 (min (2 * c1) 1099511627776))) 64 s1) 65 l1) (up_can ((sOf_ne _ _ (by decide)).trans ((sOf_ne _ _ (by decide)).trans (sOf_eq _ _ _))) (fup_same _ _ _ _) ((setO_comm _ _ _ (by decide)).trans (setO_cg ((setO_comm _ _ _ (by decide)).trans (setO_cg (setO_same _ _ _ _) rfl)) rfl))) ?_
                  refine TT_aload_n hK rfl 0 rfl dX6_tellBit_180 ?_
                  refine TT_dup hK rfl dX6_tellBit_181 ?_
                  refine gf_X6_56 hK (by decide) rfl (v := t1) (rd_ ((sOf_ne _ _ (by decide)).trans ((sOf_ne _ _ (by decide)).trans (sOf_eq _ _ _))) ((fup_ne _ _ (by decide)).trans (fup_eq _ _ _))) dX6_tellBit_182 ?_
                  refine TT_iconst hK dX6_tellBit_185 ?_
                  refine TT_isub hK dX6_tellBit_186 ?_
                  refine pf_X6_56 hK (by decide) rfl dX6_tellBit_187 ?_
                  refine TT_hp (h' := setO (setO (setO h 62 (fup (fup (fup (fup (h 62) 4 p1) 5 (2 * a1)) 6 (t1 - 1)) 7 (min (2 * c1) 1099511627776))) 64 s1) 65 l1) (up_can ((sOf_ne _ _ (by decide)).trans ((sOf_ne _ _ (by decide)).trans (sOf_eq _ _ _))) ((fup_comm _ _ _ (by decide)).trans (fup_cg (fup_same _ _ _ _))) ((setO_comm _ _ _ (by decide)).trans (setO_cg ((setO_comm _ _ _ (by decide)).trans (setO_cg (setO_same _ _ _ _) rfl)) rfl))) ?_
                  refine TT_iinc hK (v := k + 1) (lv' := [(6, vI (k + 1)), (0, vR 62), (1, vI x), (5, vI b9)]) 3 rfl rfl (by decide) rfl dX6_tellBit_190 ?_
                  refine TT_goto hK (tgt := 127) dX6_tellBit_193 (by decide) ?_
                  refine TT_sub [1, 2, 3, 0] rfl ?_
                  exact ih4 (k + 1) (2 * a1) (min (2 * c1) 1099511627776) (t1 - 1) p1 s1 l1 b9 R9 (by first | omega | (simp [up, setR] <;> omega)) (by first | omega | (simp [up, setR] <;> omega)) (by have h1 : (15 - k).toNat = (15 - (k + 1)).toNat + 1 := (by omega); rw [h1] at hM; first | exact RJ_next hM (by omega) (by omega) rfl | exact RJ_in hsrc hM (by omega) (by omega) rfl) (by omega) (by exact hR) (by first | omega | (simp [up, setR] <;> omega))
                · refine TT_aload_n hK rfl 0 rfl dX6_tellBit_150 ?_
                  have q151_62_3 : (setO (setO (setO h 62 (fup (fup (fup (fup (h 62) 4 p1) 5 a1) 6 t1) 7 c1)) 64 s1) 65 l1) 62 3 = (h 62) 3 := rd_ ((sOf_ne _ _ (by decide)).trans ((sOf_ne _ _ (by decide)).trans (sOf_eq _ _ _))) ((fup_ne _ _ (by decide)).trans ((fup_ne _ _ (by decide)).trans ((fup_ne _ _ (by decide)).trans (fup_ne _ _ (by decide)))))
                  have q151_62_4 : (setO (setO (setO h 62 (fup (fup (fup (fup (h 62) 4 p1) 5 a1) 6 t1) 7 c1)) 64 s1) 65 l1) 62 4 = p1 := rd_ ((sOf_ne _ _ (by decide)).trans ((sOf_ne _ _ (by decide)).trans (sOf_eq _ _ _))) ((fup_ne _ _ (by decide)).trans ((fup_ne _ _ (by decide)).trans ((fup_ne _ _ (by decide)).trans (fup_eq _ _ _))))
                  have q151_62_7 : (setO (setO (setO h 62 (fup (fup (fup (fup (h 62) 4 p1) 5 a1) 6 t1) 7 c1)) 64 s1) 65 l1) 62 7 = c1 := rd_ ((sOf_ne _ _ (by decide)).trans ((sOf_ne _ _ (by decide)).trans (sOf_eq _ _ _))) (fup_eq _ _ _)
                  have q151_62 : (setO (setO (setO h 62 (fup (fup (fup (fup (h 62) 4 p1) 5 a1) 6 t1) 7 c1)) 64 s1) 65 l1) 62 = fup (fup (fup (fup (h 62) 4 p1) 5 a1) 6 t1) 7 c1 := (sOf_ne _ _ (by decide)).trans ((sOf_ne _ _ (by decide)).trans (sOf_eq _ _ _))
                  have q151_66 : (setO (setO (setO h 62 (fup (fup (fup (fup (h 62) 4 p1) 5 a1) 6 t1) 7 c1)) 64 s1) 65 l1) 66 = h 66 := (sOf_ne _ _ (by decide)).trans ((sOf_ne _ _ (by decide)).trans (sOf_ne _ _ (by decide)))
                  refine iv_X6_53 hK (c_X6_comeIn_62 (setO (setO (setO h 62 (fup (fup (fup (fup (h 62) 4 p1) 5 a1) 6 t1) 7 c1)) 64 s1) 65 l1) (by rw [q151_62_3, q151_66]; exact hsrc) (by rw [q151_62_3]; first | omega | (simp [up, setR] <;> omega)) (by rw [q151_62_3, q151_62_4]; first | omega | (simp [up, setR] <;> omega)) (by rw [q151_62_7]; first | omega | (simp [up, setR] <;> omega))) (by decide) rfl ⟨by decide, by decide⟩ (by decide) rfl rfl (Nat.le_of_ble_eq_true rfl) ⟨by decide, by decide⟩ dX6_tellBit_151 ?_
                  intro r9 h9 hp9
                  rw [q151_62_3, q151_62_4, q151_62_7, q151_62, q151_66] at hp9
                  rw [hp9.1, hp9.2]
                  refine TT_hp (h' := setO (setO (setO h 62 (fup (fup (fup (fup (h 62) 4 ((inS (h 66) ((h 62) 3) c1 p1).2.2)) 5 a1) 6 ((inS (h 66) ((h 62) 3) c1 p1).2.1)) 7 ((inS (h 66) ((h 62) 3) c1 p1).1))) 64 s1) 65 l1) ((setO_cg rfl ((fup_cg ((fup_cg ((fup_comm _ _ _ (by decide)).trans (fup_cg ((fup_comm _ _ _ (by decide)).trans (fup_cg ((fup_comm _ _ _ (by decide)).trans (fup_cg (fup_same _ _ _ _)))))))).trans ((fup_comm _ _ _ (by decide)).trans (fup_cg (fup_same _ _ _ _))))).trans (fup_same _ _ _ _))).trans ((setO_comm _ _ _ (by decide)).trans (setO_cg ((setO_comm _ _ _ (by decide)).trans (setO_cg (setO_same _ _ _ _) rfl)) rfl))) ?_
                  show TT K ly 0 0 154 [(0, vR 62), (1, vI x), (5, vI b9), (6, vI k)] [] (setO (setO (setO h 62 (fup (fup (fup (fup (h 62) 4 ((inS (h 66) ((h 62) 3) c1 p1).2.2)) 5 a1) 6 ((inS (h 66) ((h 62) 3) c1 p1).2.1)) 7 ((inS (h 66) ((h 62) 3) c1 p1).1))) 64 s1) 65 l1)
                  refine TT_aload_n hK rfl 0 rfl dX6_tellBit_154 ?_
                  refine TT_dup hK rfl dX6_tellBit_155 ?_
                  refine gf_X6_60 hK (by decide) rfl (v := a1) (rd_ ((sOf_ne _ _ (by decide)).trans ((sOf_ne _ _ (by decide)).trans (sOf_eq _ _ _))) ((fup_ne _ _ (by decide)).trans ((fup_ne _ _ (by decide)).trans (fup_eq _ _ _)))) dX6_tellBit_156 ?_
                  refine TT_iconst hK dX6_tellBit_159 ?_
                  refine TT_ishl hK (by omega) (by omega) dX6_tellBit_160 ?_
                  refine TT_cgI (b := a1 * 2) rfl ?_
                  refine TT_cgI (b := 2 * a1) (by omega) ?_
                  refine pf_X6_60 hK (by decide) rfl dX6_tellBit_161 ?_
                  refine TT_hp (h' := setO (setO (setO h 62 (fup (fup (fup (fup (h 62) 4 ((inS (h 66) ((h 62) 3) c1 p1).2.2)) 5 (2 * a1)) 6 ((inS (h 66) ((h 62) 3) c1 p1).2.1)) 7 ((inS (h 66) ((h 62) 3) c1 p1).1))) 64 s1) 65 l1) (up_can ((sOf_ne _ _ (by decide)).trans ((sOf_ne _ _ (by decide)).trans (sOf_eq _ _ _))) ((fup_comm _ _ _ (by decide)).trans (fup_cg ((fup_comm _ _ _ (by decide)).trans (fup_cg (fup_same _ _ _ _))))) ((setO_comm _ _ _ (by decide)).trans (setO_cg ((setO_comm _ _ _ (by decide)).trans (setO_cg (setO_same _ _ _ _) rfl)) rfl))) ?_
                  refine TT_aload_n hK rfl 0 rfl dX6_tellBit_164 ?_
                  refine TT_aload_n hK rfl 0 rfl dX6_tellBit_165 ?_
                  refine gf_X6_49 hK (by decide) rfl (v := (inS (h 66) ((h 62) 3) c1 p1).1) (rd_ ((sOf_ne _ _ (by decide)).trans ((sOf_ne _ _ (by decide)).trans (sOf_eq _ _ _))) (fup_eq _ _ _)) dX6_tellBit_166 ?_
                  refine TT_iconst hK dX6_tellBit_169 ?_
                  refine TT_lshl hK (by decide) dX6_tellBit_170 ?_
                  refine TT_cgJ (b := ((inS (h 66) ((h 62) 3) c1 p1).1) * 2) rfl ?_
                  refine TT_cgJ (b := 2 * ((inS (h 66) ((h 62) 3) c1 p1).1)) (by omega) ?_
                  refine TT_ldc2 hK lc_X6_75 dX6_tellBit_171 ?_
                  refine TT_mminl hK (lrm (by omega) (by omega)) (by decide) iw_X6_77 (by decide) (Nat.le_of_ble_eq_true rfl) ⟨by decide, by decide⟩ dX6_tellBit_174 ?_
                  refine pf_X6_49 hK (by decide) rfl dX6_tellBit_177 ?_
                  refine TT_hp (h' := setO (setO (setO h 62 (fup (fup (fup (fup (h 62) 4 ((inS (h 66) ((h 62) 3) c1 p1).2.2)) 5 (2 * a1)) 6 ((inS (h 66) ((h 62) 3) c1 p1).2.1)) 7 (min (2 * ((inS (h 66) ((h 62) 3) c1 p1).1)) 1099511627776))) 64 s1) 65 l1) (up_can ((sOf_ne _ _ (by decide)).trans ((sOf_ne _ _ (by decide)).trans (sOf_eq _ _ _))) (fup_same _ _ _ _) ((setO_comm _ _ _ (by decide)).trans (setO_cg ((setO_comm _ _ _ (by decide)).trans (setO_cg (setO_same _ _ _ _) rfl)) rfl))) ?_
                  refine TT_aload_n hK rfl 0 rfl dX6_tellBit_180 ?_
                  refine TT_dup hK rfl dX6_tellBit_181 ?_
                  refine gf_X6_56 hK (by decide) rfl (v := (inS (h 66) ((h 62) 3) c1 p1).2.1) (rd_ ((sOf_ne _ _ (by decide)).trans ((sOf_ne _ _ (by decide)).trans (sOf_eq _ _ _))) ((fup_ne _ _ (by decide)).trans (fup_eq _ _ _))) dX6_tellBit_182 ?_
                  refine TT_iconst hK dX6_tellBit_185 ?_
                  refine TT_isub hK dX6_tellBit_186 ?_
                  refine pf_X6_56 hK (by decide) rfl dX6_tellBit_187 ?_
                  refine TT_hp (h' := setO (setO (setO h 62 (fup (fup (fup (fup (h 62) 4 ((inS (h 66) ((h 62) 3) c1 p1).2.2)) 5 (2 * a1)) 6 (((inS (h 66) ((h 62) 3) c1 p1).2.1) - 1)) 7 (min (2 * ((inS (h 66) ((h 62) 3) c1 p1).1)) 1099511627776))) 64 s1) 65 l1) (up_can ((sOf_ne _ _ (by decide)).trans ((sOf_ne _ _ (by decide)).trans (sOf_eq _ _ _))) ((fup_comm _ _ _ (by decide)).trans (fup_cg (fup_same _ _ _ _))) ((setO_comm _ _ _ (by decide)).trans (setO_cg ((setO_comm _ _ _ (by decide)).trans (setO_cg (setO_same _ _ _ _) rfl)) rfl))) ?_
                  refine TT_iinc hK (v := k + 1) (lv' := [(6, vI (k + 1)), (0, vR 62), (1, vI x), (5, vI b9)]) 3 rfl rfl (by decide) rfl dX6_tellBit_190 ?_
                  refine TT_goto hK (tgt := 127) dX6_tellBit_193 (by decide) ?_
                  refine TT_sub [1, 2, 3, 0] rfl ?_
                  exact ih4 (k + 1) (2 * a1) (min (2 * ((inS (h 66) ((h 62) 3) c1 p1).1)) 1099511627776) (((inS (h 66) ((h 62) 3) c1 p1).2.1) - 1) ((inS (h 66) ((h 62) 3) c1 p1).2.2) s1 l1 b9 R9 (by first | omega | (simp [up, setR] <;> omega)) (by first | omega | (simp [up, setR] <;> omega)) (by have h1 : (15 - k).toNat = (15 - (k + 1)).toNat + 1 := (by omega); rw [h1] at hM; first | exact RJ_next hM (by omega) (by omega) rfl | exact RJ_in hsrc hM (by omega) (by omega) rfl) (by omega) (by exact hR) (by first | omega | (simp [up, setR] <;> omega))
        refine TT_sub [4, 5, 1, 0] rfl ?_
        refine TT_hp (h' := setO (setO (setO h 62 (fup (fup (fup (fup (h 62) 4 ((h 62) 4)) 5 (((h 62) 5) - (qS ((h 64) x)))) 6 ((h 62) 6)) 7 (((h 62) 7) - (65536 * qS (h 64 x))))) 64 (lrS (h 64) x (((h 65) x) ≠ (h 65) x))) 65 (lrL (h 64) (h 65) x (((h 65) x) ≠ (h 65) x))) (setO_cg (setO_cg (setO_cg rfl (by first | exact fup_4567 _ _ _ | exact fup_4567b _ _)) (by first | rfl | exact fsr_0 _ _ _)) (by first | rfl | exact fsr_0 _ _ _)) ?_
        exact L127_4 ((((15 : Int) - 0).toNat) + 1) 0 (((h 62) 5) - (qS ((h 64) x))) (((h 62) 7) - (65536 * qS (h 64 x))) ((h 62) 6) ((h 62) 4) (lrS (h 64) x (((h 65) x) ≠ (h 65) x)) (lrL (h 64) (h 65) x (((h 65) x) ≠ (h 65) x)) ((h 65) x) (rmS fxC (h 66) (h 62 3) 15 (((h 62) 5) - (qS ((h 64) x))) (((h 62) 7) - (65536 * qS (h 64 x))) ((h 62) 6) ((h 62) 4)) (by first | omega | (simp [up, setR] <;> omega)) (by first | omega | (simp [up, setR] <;> omega)) (by exact RJ_0 (RQ_rd (x := x) (st := h 64) (P := lwC (h 62 7) < qS (h 64 x)) hq ha hs (by unfold lwC; first | exact (if_pos (by omega)).symm | exact (if_neg (by omega)).symm))) (by omega) (by refine rdS_m (by unfold lwC; omega) (by unfold lwC; first | exact (if_pos (by omega)).symm | exact (if_neg (by omega)).symm) (by unfold lwC; first | exact (if_pos (by omega)).symm | exact (if_neg (by omega)).symm) (by unfold lwC; omega) (by first | exact (if_pos (by omega)).symm | exact (if_neg (by omega)).symm)) (Nat.lt_succ_self _)
      · refine TT_iconst hK dX6_tellBit_103 ?_
        refine TT_iload hK 0 rfl dX6_tellBit_104 ?_
        refine TT_isub hK dX6_tellBit_106 ?_
        refine TT_goto hK (tgt := 112) dX6_tellBit_107 (by decide) ?_
        refine TT_istore hK (lv' := [(5, vI (1 - ((h 65) x))), (4, vI ((h 65) x)), (3, vI (qS ((h 64) x))), (0, vR 62), (1, vI x), (2, vI b)]) (by decide) rfl dX6_tellBit_112 ?_
        refine TT_aload_n hK rfl 3 rfl dX6_tellBit_114 ?_
        refine gf_X6_12 hK (by decide) rfl (q := 63) rfl rfl dX6_tellBit_115 ?_
        refine TT_iload_n hK rfl 4 rfl dX6_tellBit_118 ?_
        refine TT_iload hK 0 rfl dX6_tellBit_119 ?_
        have q121_64 : (setO h 62 (fup (fup (h 62) 5 (((h 62) 5) - (qS ((h 64) x)))) 7 (((h 62) 7) - (65536 * qS (h 64 x))))) 64 = h 64 := sOf_ne _ _ (by decide)
        have q121_65 : (setO h 62 (fup (fup (h 62) 5 (((h 62) 5) - (qS ((h 64) x)))) 7 (((h 62) 7) - (65536 * qS (h 64 x))))) 65 = h 65 := sOf_ne _ _ (by decide)
        refine iv_X6_71 hK (c_X2_learn_63 x (1 - ((h 65) x)) (setO h 62 (fup (fup (h 62) 5 (((h 62) 5) - (qS ((h 64) x)))) 7 (((h 62) 7) - (65536 * qS (h 64 x))))) (by first | omega | (simp [up, setR] <;> omega)) (by first | omega | (simp [up, setR] <;> omega)) (by rw [q121_64]; exact hst) (by rw [q121_65]; exact hlk)) (by decide) rfl ⟨by decide, by decide⟩ (by decide) rfl rfl (Nat.le_of_ble_eq_true rfl) ⟨by decide, by decide⟩ dX6_tellBit_121 ?_
        intro r9 h9 hp9
        rw [q121_64, q121_65] at hp9
        rw [hp9.1, hp9.2]
        show TT K ly 0 0 124 [(5, vI (1 - ((h 65) x))), (4, vI ((h 65) x)), (3, vI (qS ((h 64) x))), (0, vR 62), (1, vI x), (2, vI b)] [] (setO (setO (setO h 62 (fup (fup (h 62) 5 (((h 62) 5) - (qS ((h 64) x)))) 7 (((h 62) 7) - (65536 * qS (h 64 x))))) 64 (lrS (h 64) x ((1 - ((h 65) x)) ≠ (h 65) x))) 65 (lrL (h 64) (h 65) x ((1 - ((h 65) x)) ≠ (h 65) x)))
        refine TT_iconst hK dX6_tellBit_124 ?_
        refine TT_istore hK (lv' := [(6, vI 0), (5, vI (1 - ((h 65) x))), (4, vI ((h 65) x)), (3, vI (qS ((h 64) x))), (0, vR 62), (1, vI x), (2, vI b)]) (by decide) rfl dX6_tellBit_125 ?_
        have L127_8 : ∀ (k8 : Nat) (k : Int) (a1 : Int) (c1 : Int) (t1 : Int) (p1 : Int) (s1 : Int → Int) (l1 : Int → Int) (b9 : Int) (R9 : Int × Int × Int × Int), (0 ≤ k) → (k ≤ 15) → (RJ_ fxC (h 66) (h 62 3) (15 - k).toNat a1 c1 t1 p1 R9) → (0 ≤ c1 ∧ c1 ≤ 1099511627776) → ((rdS lwC fxC (h 66) (h 62 3) ((h 62 5), (h 62 7), (h 62 6), (h 62 4), (h 64), (h 65)) x) = (b9, R9.1, R9.2.1, R9.2.2.1, R9.2.2.2, s1, l1)) → ((15 : Int) - k).toNat < k8 → TT K ly 0 0 127 [(0, vR 62), (1, vI x), (5, vI b9), (6, vI k)] [] (setO (setO (setO h 62 (fup (fup (fup (fup (h 62) 4 p1) 5 a1) 6 t1) 7 c1)) 64 s1) 65 l1) := by
          intro k8
          induction k8 with
          | zero => intro k a1 c1 t1 p1 s1 l1 b9 R9 hkk0 hkk1 hM hcb1 hR hk8; exact absurd hk8 (Nat.not_lt_zero _)
          | succ k8 ih8 =>
            intro k a1 c1 t1 p1 s1 l1 b9 R9 hkk0 hkk1 hM hcb1 hR hk8
            obtain ⟨m1, m2, m3, m4, m5, m6⟩ := hM.2.2
            have hin := inS_r hsrc (c := c1) m5 m6
            refine TT_iload hK 3 rfl dX6_tellBit_127 ?_
            refine TT_bipush hK (by decide) dX6_tellBit_129 ?_
            refine TT_icmp_ge hK (tgt := 196) (irm (by omega) (by omega)) (by decide) dX6_tellBit_131 (by decide) (fun hb131 => ?_) (fun hb131 => ?_)
            · refine TT_iload hK 2 rfl dX6_tellBit_196 ?_
              refine TT_iret hK hQ ?_ dX6_tellBit_198
              have hE := RJ_done hM (by first | omega | (have h0 : (15 - k).toNat = 0 := (by omega); rw [h0] at hM; exact RJ_z hM))
              exact ⟨congrArg (fun z => some (vI z)) (by rw [hR]), setO_cg (setO_cg (setO_cg rfl (by rw [hR, ← hE])) (by rw [hR])) (by rw [hR])⟩
            · refine TT_aload_n hK rfl 0 rfl dX6_tellBit_134 ?_
              refine gf_X6_60 hK (by decide) rfl (v := a1) (rd_ ((sOf_ne _ _ (by decide)).trans ((sOf_ne _ _ (by decide)).trans (sOf_eq _ _ _))) ((fup_ne _ _ (by decide)).trans ((fup_ne _ _ (by decide)).trans (fup_eq _ _ _)))) dX6_tellBit_135 ?_
              refine TT_ldc hK lc_X6_59 dX6_tellBit_138 ?_
              refine TT_icmp_ge hK (tgt := 196) (irm (by omega) (by omega)) (by decide) dX6_tellBit_140 (by decide) (fun hb140 => ?_) (fun hb140 => ?_)
              · refine TT_iload hK 2 rfl dX6_tellBit_196 ?_
                refine TT_iret hK hQ ?_ dX6_tellBit_198
                have hE := RJ_done hM (by first | omega | (have h0 : (15 - k).toNat = 0 := (by omega); rw [h0] at hM; exact RJ_z hM))
                exact ⟨congrArg (fun z => some (vI z)) (by rw [hR]), setO_cg (setO_cg (setO_cg rfl (by rw [hR, ← hE])) (by rw [hR])) (by rw [hR])⟩
              · refine TT_aload_n hK rfl 0 rfl dX6_tellBit_143 ?_
                refine gf_X6_56 hK (by decide) rfl (v := t1) (rd_ ((sOf_ne _ _ (by decide)).trans ((sOf_ne _ _ (by decide)).trans (sOf_eq _ _ _))) ((fup_ne _ _ (by decide)).trans (fup_eq _ _ _))) dX6_tellBit_144 ?_
                refine TT_if_ne hK (tgt := 154) (irm (by omega) (by omega)) dX6_tellBit_147 (by decide) (fun hb147 => ?_) (fun hb147 => ?_)
                · refine TT_aload_n hK rfl 0 rfl dX6_tellBit_154 ?_
                  refine TT_dup hK rfl dX6_tellBit_155 ?_
                  refine gf_X6_60 hK (by decide) rfl (v := a1) (rd_ ((sOf_ne _ _ (by decide)).trans ((sOf_ne _ _ (by decide)).trans (sOf_eq _ _ _))) ((fup_ne _ _ (by decide)).trans ((fup_ne _ _ (by decide)).trans (fup_eq _ _ _)))) dX6_tellBit_156 ?_
                  refine TT_iconst hK dX6_tellBit_159 ?_
                  refine TT_ishl hK (by omega) (by omega) dX6_tellBit_160 ?_
                  refine TT_cgI (b := a1 * 2) rfl ?_
                  refine TT_cgI (b := 2 * a1) (by omega) ?_
                  refine pf_X6_60 hK (by decide) rfl dX6_tellBit_161 ?_
                  refine TT_hp (h' := setO (setO (setO h 62 (fup (fup (fup (fup (h 62) 4 p1) 5 (2 * a1)) 6 t1) 7 c1)) 64 s1) 65 l1) (up_can ((sOf_ne _ _ (by decide)).trans ((sOf_ne _ _ (by decide)).trans (sOf_eq _ _ _))) ((fup_comm _ _ _ (by decide)).trans (fup_cg ((fup_comm _ _ _ (by decide)).trans (fup_cg (fup_same _ _ _ _))))) ((setO_comm _ _ _ (by decide)).trans (setO_cg ((setO_comm _ _ _ (by decide)).trans (setO_cg (setO_same _ _ _ _) rfl)) rfl))) ?_
                  refine TT_aload_n hK rfl 0 rfl dX6_tellBit_164 ?_
                  refine TT_aload_n hK rfl 0 rfl dX6_tellBit_165 ?_
                  refine gf_X6_49 hK (by decide) rfl (v := c1) (rd_ ((sOf_ne _ _ (by decide)).trans ((sOf_ne _ _ (by decide)).trans (sOf_eq _ _ _))) (fup_eq _ _ _)) dX6_tellBit_166 ?_
                  refine TT_iconst hK dX6_tellBit_169 ?_
                  refine TT_lshl hK (by decide) dX6_tellBit_170 ?_
                  refine TT_cgJ (b := c1 * 2) rfl ?_
                  refine TT_cgJ (b := 2 * c1) (by omega) ?_
                  refine TT_ldc2 hK lc_X6_75 dX6_tellBit_171 ?_
                  refine TT_mminl hK (lrm (by omega) (by omega)) (by decide) iw_X6_77 (by decide) (Nat.le_of_ble_eq_true rfl) ⟨by decide, by decide⟩ dX6_tellBit_174 ?_
                  refine pf_X6_49 hK (by decide) rfl dX6_tellBit_177 ?_
                  refine TT_hp (h' := setO (setO (setO h 62 (fup (fup (fup (fup (h 62) 4 p1) 5 (2 * a1)) 6 t1) 7 (min (2 * c1) 1099511627776))) 64 s1) 65 l1) (up_can ((sOf_ne _ _ (by decide)).trans ((sOf_ne _ _ (by decide)).trans (sOf_eq _ _ _))) (fup_same _ _ _ _) ((setO_comm _ _ _ (by decide)).trans (setO_cg ((setO_comm _ _ _ (by decide)).trans (setO_cg (setO_same _ _ _ _) rfl)) rfl))) ?_
                  refine TT_aload_n hK rfl 0 rfl dX6_tellBit_180 ?_
                  refine TT_dup hK rfl dX6_tellBit_181 ?_
                  refine gf_X6_56 hK (by decide) rfl (v := t1) (rd_ ((sOf_ne _ _ (by decide)).trans ((sOf_ne _ _ (by decide)).trans (sOf_eq _ _ _))) ((fup_ne _ _ (by decide)).trans (fup_eq _ _ _))) dX6_tellBit_182 ?_
                  refine TT_iconst hK dX6_tellBit_185 ?_
                  refine TT_isub hK dX6_tellBit_186 ?_
                  refine pf_X6_56 hK (by decide) rfl dX6_tellBit_187 ?_
                  refine TT_hp (h' := setO (setO (setO h 62 (fup (fup (fup (fup (h 62) 4 p1) 5 (2 * a1)) 6 (t1 - 1)) 7 (min (2 * c1) 1099511627776))) 64 s1) 65 l1) (up_can ((sOf_ne _ _ (by decide)).trans ((sOf_ne _ _ (by decide)).trans (sOf_eq _ _ _))) ((fup_comm _ _ _ (by decide)).trans (fup_cg (fup_same _ _ _ _))) ((setO_comm _ _ _ (by decide)).trans (setO_cg ((setO_comm _ _ _ (by decide)).trans (setO_cg (setO_same _ _ _ _) rfl)) rfl))) ?_
                  refine TT_iinc hK (v := k + 1) (lv' := [(6, vI (k + 1)), (0, vR 62), (1, vI x), (5, vI b9)]) 3 rfl rfl (by decide) rfl dX6_tellBit_190 ?_
                  refine TT_goto hK (tgt := 127) dX6_tellBit_193 (by decide) ?_
                  refine TT_sub [1, 2, 3, 0] rfl ?_
                  exact ih8 (k + 1) (2 * a1) (min (2 * c1) 1099511627776) (t1 - 1) p1 s1 l1 b9 R9 (by first | omega | (simp [up, setR] <;> omega)) (by first | omega | (simp [up, setR] <;> omega)) (by have h1 : (15 - k).toNat = (15 - (k + 1)).toNat + 1 := (by omega); rw [h1] at hM; first | exact RJ_next hM (by omega) (by omega) rfl | exact RJ_in hsrc hM (by omega) (by omega) rfl) (by omega) (by exact hR) (by first | omega | (simp [up, setR] <;> omega))
                · refine TT_aload_n hK rfl 0 rfl dX6_tellBit_150 ?_
                  have q151_62_3 : (setO (setO (setO h 62 (fup (fup (fup (fup (h 62) 4 p1) 5 a1) 6 t1) 7 c1)) 64 s1) 65 l1) 62 3 = (h 62) 3 := rd_ ((sOf_ne _ _ (by decide)).trans ((sOf_ne _ _ (by decide)).trans (sOf_eq _ _ _))) ((fup_ne _ _ (by decide)).trans ((fup_ne _ _ (by decide)).trans ((fup_ne _ _ (by decide)).trans (fup_ne _ _ (by decide)))))
                  have q151_62_4 : (setO (setO (setO h 62 (fup (fup (fup (fup (h 62) 4 p1) 5 a1) 6 t1) 7 c1)) 64 s1) 65 l1) 62 4 = p1 := rd_ ((sOf_ne _ _ (by decide)).trans ((sOf_ne _ _ (by decide)).trans (sOf_eq _ _ _))) ((fup_ne _ _ (by decide)).trans ((fup_ne _ _ (by decide)).trans ((fup_ne _ _ (by decide)).trans (fup_eq _ _ _))))
                  have q151_62_7 : (setO (setO (setO h 62 (fup (fup (fup (fup (h 62) 4 p1) 5 a1) 6 t1) 7 c1)) 64 s1) 65 l1) 62 7 = c1 := rd_ ((sOf_ne _ _ (by decide)).trans ((sOf_ne _ _ (by decide)).trans (sOf_eq _ _ _))) (fup_eq _ _ _)
                  have q151_62 : (setO (setO (setO h 62 (fup (fup (fup (fup (h 62) 4 p1) 5 a1) 6 t1) 7 c1)) 64 s1) 65 l1) 62 = fup (fup (fup (fup (h 62) 4 p1) 5 a1) 6 t1) 7 c1 := (sOf_ne _ _ (by decide)).trans ((sOf_ne _ _ (by decide)).trans (sOf_eq _ _ _))
                  have q151_66 : (setO (setO (setO h 62 (fup (fup (fup (fup (h 62) 4 p1) 5 a1) 6 t1) 7 c1)) 64 s1) 65 l1) 66 = h 66 := (sOf_ne _ _ (by decide)).trans ((sOf_ne _ _ (by decide)).trans (sOf_ne _ _ (by decide)))
                  refine iv_X6_53 hK (c_X6_comeIn_62 (setO (setO (setO h 62 (fup (fup (fup (fup (h 62) 4 p1) 5 a1) 6 t1) 7 c1)) 64 s1) 65 l1) (by rw [q151_62_3, q151_66]; exact hsrc) (by rw [q151_62_3]; first | omega | (simp [up, setR] <;> omega)) (by rw [q151_62_3, q151_62_4]; first | omega | (simp [up, setR] <;> omega)) (by rw [q151_62_7]; first | omega | (simp [up, setR] <;> omega))) (by decide) rfl ⟨by decide, by decide⟩ (by decide) rfl rfl (Nat.le_of_ble_eq_true rfl) ⟨by decide, by decide⟩ dX6_tellBit_151 ?_
                  intro r9 h9 hp9
                  rw [q151_62_3, q151_62_4, q151_62_7, q151_62, q151_66] at hp9
                  rw [hp9.1, hp9.2]
                  refine TT_hp (h' := setO (setO (setO h 62 (fup (fup (fup (fup (h 62) 4 ((inS (h 66) ((h 62) 3) c1 p1).2.2)) 5 a1) 6 ((inS (h 66) ((h 62) 3) c1 p1).2.1)) 7 ((inS (h 66) ((h 62) 3) c1 p1).1))) 64 s1) 65 l1) ((setO_cg rfl ((fup_cg ((fup_cg ((fup_comm _ _ _ (by decide)).trans (fup_cg ((fup_comm _ _ _ (by decide)).trans (fup_cg ((fup_comm _ _ _ (by decide)).trans (fup_cg (fup_same _ _ _ _)))))))).trans ((fup_comm _ _ _ (by decide)).trans (fup_cg (fup_same _ _ _ _))))).trans (fup_same _ _ _ _))).trans ((setO_comm _ _ _ (by decide)).trans (setO_cg ((setO_comm _ _ _ (by decide)).trans (setO_cg (setO_same _ _ _ _) rfl)) rfl))) ?_
                  show TT K ly 0 0 154 [(0, vR 62), (1, vI x), (5, vI b9), (6, vI k)] [] (setO (setO (setO h 62 (fup (fup (fup (fup (h 62) 4 ((inS (h 66) ((h 62) 3) c1 p1).2.2)) 5 a1) 6 ((inS (h 66) ((h 62) 3) c1 p1).2.1)) 7 ((inS (h 66) ((h 62) 3) c1 p1).1))) 64 s1) 65 l1)
                  refine TT_aload_n hK rfl 0 rfl dX6_tellBit_154 ?_
                  refine TT_dup hK rfl dX6_tellBit_155 ?_
                  refine gf_X6_60 hK (by decide) rfl (v := a1) (rd_ ((sOf_ne _ _ (by decide)).trans ((sOf_ne _ _ (by decide)).trans (sOf_eq _ _ _))) ((fup_ne _ _ (by decide)).trans ((fup_ne _ _ (by decide)).trans (fup_eq _ _ _)))) dX6_tellBit_156 ?_
                  refine TT_iconst hK dX6_tellBit_159 ?_
                  refine TT_ishl hK (by omega) (by omega) dX6_tellBit_160 ?_
                  refine TT_cgI (b := a1 * 2) rfl ?_
                  refine TT_cgI (b := 2 * a1) (by omega) ?_
                  refine pf_X6_60 hK (by decide) rfl dX6_tellBit_161 ?_
                  refine TT_hp (h' := setO (setO (setO h 62 (fup (fup (fup (fup (h 62) 4 ((inS (h 66) ((h 62) 3) c1 p1).2.2)) 5 (2 * a1)) 6 ((inS (h 66) ((h 62) 3) c1 p1).2.1)) 7 ((inS (h 66) ((h 62) 3) c1 p1).1))) 64 s1) 65 l1) (up_can ((sOf_ne _ _ (by decide)).trans ((sOf_ne _ _ (by decide)).trans (sOf_eq _ _ _))) ((fup_comm _ _ _ (by decide)).trans (fup_cg ((fup_comm _ _ _ (by decide)).trans (fup_cg (fup_same _ _ _ _))))) ((setO_comm _ _ _ (by decide)).trans (setO_cg ((setO_comm _ _ _ (by decide)).trans (setO_cg (setO_same _ _ _ _) rfl)) rfl))) ?_
                  refine TT_aload_n hK rfl 0 rfl dX6_tellBit_164 ?_
                  refine TT_aload_n hK rfl 0 rfl dX6_tellBit_165 ?_
                  refine gf_X6_49 hK (by decide) rfl (v := (inS (h 66) ((h 62) 3) c1 p1).1) (rd_ ((sOf_ne _ _ (by decide)).trans ((sOf_ne _ _ (by decide)).trans (sOf_eq _ _ _))) (fup_eq _ _ _)) dX6_tellBit_166 ?_
                  refine TT_iconst hK dX6_tellBit_169 ?_
                  refine TT_lshl hK (by decide) dX6_tellBit_170 ?_
                  refine TT_cgJ (b := ((inS (h 66) ((h 62) 3) c1 p1).1) * 2) rfl ?_
                  refine TT_cgJ (b := 2 * ((inS (h 66) ((h 62) 3) c1 p1).1)) (by omega) ?_
                  refine TT_ldc2 hK lc_X6_75 dX6_tellBit_171 ?_
                  refine TT_mminl hK (lrm (by omega) (by omega)) (by decide) iw_X6_77 (by decide) (Nat.le_of_ble_eq_true rfl) ⟨by decide, by decide⟩ dX6_tellBit_174 ?_
                  refine pf_X6_49 hK (by decide) rfl dX6_tellBit_177 ?_
                  refine TT_hp (h' := setO (setO (setO h 62 (fup (fup (fup (fup (h 62) 4 ((inS (h 66) ((h 62) 3) c1 p1).2.2)) 5 (2 * a1)) 6 ((inS (h 66) ((h 62) 3) c1 p1).2.1)) 7 (min (2 * ((inS (h 66) ((h 62) 3) c1 p1).1)) 1099511627776))) 64 s1) 65 l1) (up_can ((sOf_ne _ _ (by decide)).trans ((sOf_ne _ _ (by decide)).trans (sOf_eq _ _ _))) (fup_same _ _ _ _) ((setO_comm _ _ _ (by decide)).trans (setO_cg ((setO_comm _ _ _ (by decide)).trans (setO_cg (setO_same _ _ _ _) rfl)) rfl))) ?_
                  refine TT_aload_n hK rfl 0 rfl dX6_tellBit_180 ?_
                  refine TT_dup hK rfl dX6_tellBit_181 ?_
                  refine gf_X6_56 hK (by decide) rfl (v := (inS (h 66) ((h 62) 3) c1 p1).2.1) (rd_ ((sOf_ne _ _ (by decide)).trans ((sOf_ne _ _ (by decide)).trans (sOf_eq _ _ _))) ((fup_ne _ _ (by decide)).trans (fup_eq _ _ _))) dX6_tellBit_182 ?_
                  refine TT_iconst hK dX6_tellBit_185 ?_
                  refine TT_isub hK dX6_tellBit_186 ?_
                  refine pf_X6_56 hK (by decide) rfl dX6_tellBit_187 ?_
                  refine TT_hp (h' := setO (setO (setO h 62 (fup (fup (fup (fup (h 62) 4 ((inS (h 66) ((h 62) 3) c1 p1).2.2)) 5 (2 * a1)) 6 (((inS (h 66) ((h 62) 3) c1 p1).2.1) - 1)) 7 (min (2 * ((inS (h 66) ((h 62) 3) c1 p1).1)) 1099511627776))) 64 s1) 65 l1) (up_can ((sOf_ne _ _ (by decide)).trans ((sOf_ne _ _ (by decide)).trans (sOf_eq _ _ _))) ((fup_comm _ _ _ (by decide)).trans (fup_cg (fup_same _ _ _ _))) ((setO_comm _ _ _ (by decide)).trans (setO_cg ((setO_comm _ _ _ (by decide)).trans (setO_cg (setO_same _ _ _ _) rfl)) rfl))) ?_
                  refine TT_iinc hK (v := k + 1) (lv' := [(6, vI (k + 1)), (0, vR 62), (1, vI x), (5, vI b9)]) 3 rfl rfl (by decide) rfl dX6_tellBit_190 ?_
                  refine TT_goto hK (tgt := 127) dX6_tellBit_193 (by decide) ?_
                  refine TT_sub [1, 2, 3, 0] rfl ?_
                  exact ih8 (k + 1) (2 * a1) (min (2 * ((inS (h 66) ((h 62) 3) c1 p1).1)) 1099511627776) (((inS (h 66) ((h 62) 3) c1 p1).2.1) - 1) ((inS (h 66) ((h 62) 3) c1 p1).2.2) s1 l1 b9 R9 (by first | omega | (simp [up, setR] <;> omega)) (by first | omega | (simp [up, setR] <;> omega)) (by have h1 : (15 - k).toNat = (15 - (k + 1)).toNat + 1 := (by omega); rw [h1] at hM; first | exact RJ_next hM (by omega) (by omega) rfl | exact RJ_in hsrc hM (by omega) (by omega) rfl) (by omega) (by exact hR) (by first | omega | (simp [up, setR] <;> omega))
        refine TT_sub [4, 5, 1, 0] rfl ?_
        refine TT_hp (h' := setO (setO (setO h 62 (fup (fup (fup (fup (h 62) 4 ((h 62) 4)) 5 (((h 62) 5) - (qS ((h 64) x)))) 6 ((h 62) 6)) 7 (((h 62) 7) - (65536 * qS (h 64 x))))) 64 (lrS (h 64) x ((1 - ((h 65) x)) ≠ (h 65) x))) 65 (lrL (h 64) (h 65) x ((1 - ((h 65) x)) ≠ (h 65) x))) (setO_cg (setO_cg (setO_cg rfl (by first | exact fup_4567 _ _ _ | exact fup_4567b _ _)) (by first | rfl | exact fsr_0 _ _ _)) (by first | rfl | exact fsr_0 _ _ _)) ?_
        exact L127_8 ((((15 : Int) - 0).toNat) + 1) 0 (((h 62) 5) - (qS ((h 64) x))) (((h 62) 7) - (65536 * qS (h 64 x))) ((h 62) 6) ((h 62) 4) (lrS (h 64) x ((1 - ((h 65) x)) ≠ (h 65) x)) (lrL (h 64) (h 65) x ((1 - ((h 65) x)) ≠ (h 65) x)) (1 - ((h 65) x)) (rmS fxC (h 66) (h 62 3) 15 (((h 62) 5) - (qS ((h 64) x))) (((h 62) 7) - (65536 * qS (h 64 x))) ((h 62) 6) ((h 62) 4)) (by first | omega | (simp [up, setR] <;> omega)) (by first | omega | (simp [up, setR] <;> omega)) (by exact RJ_0 (RQ_rd (x := x) (st := h 64) (P := lwC (h 62 7) < qS (h 64 x)) hq ha hs (by unfold lwC; first | exact (if_pos (by omega)).symm | exact (if_neg (by omega)).symm))) (by omega) (by refine rdS_m (by unfold lwC; omega) (by unfold lwC; first | exact (if_pos (by omega)).symm | exact (if_neg (by omega)).symm) (by unfold lwC; first | exact (if_pos (by omega)).symm | exact (if_neg (by omega)).symm) (by unfold lwC; omega) (by first | exact (if_pos (by omega)).symm | exact (if_neg (by omega)).symm)) (Nat.lt_succ_self _)
    · refine TT_iload hK 0 rfl dX6_tellBit_92 ?_
      refine TT_iret hK hQ ?_ dX6_tellBit_94
      have eT := rdS_1 (lw := lwC) (fx := fxC) (src := h 66) (m := h 62 3) (a := h 62 5) (c := h 62 7) (t := h 62 6) (p := h 62 4) (st := h 64) (lk := h 65) (x := x) (by unfold lwC; omega)
      exact ⟨congrArg (fun z => some (vI z)) (by rw [eT]), (setO_new ((sOf_ne _ _ (by decide)).trans (by rw [eT]))).trans (setO_cg ((setO_new ((sOf_ne _ _ (by decide)).trans (by rw [eT]))).trans (setO_cg (setO_cg rfl (by rw [eT]; first | exact fup_4567 _ _ _ | exact fup_4567b _ _)) rfl)) rfl)⟩
  · have hb39 := lcmp_lt hb39
    refine TT_aload_n hK rfl 2 rfl dX6_tellBit_42 ?_
    refine gf_X6_60 hK (by decide) rfl (v := ((h 62) 5) - (qS ((h 64) x))) (rd_ (sOf_eq _ _ _) (fup_eq _ _ _)) dX6_tellBit_43 ?_
    refine TT_iload_n hK rfl 1 rfl dX6_tellBit_46 ?_
    refine TT_icmp_ge hK (tgt := 55) (irm (by omega) (by omega)) (irm (by omega) (by omega)) dX6_tellBit_47 (by decide) (fun hb47 => ?_) (fun hb47 => ?_)
    · refine TT_iconst hK dX6_tellBit_55 ?_
      refine TT_iload hK 0 rfl dX6_tellBit_56 ?_
      refine TT_isub hK dX6_tellBit_58 ?_
      refine TT_istore hK (lv' := [(5, vI (1 - ((h 65) x))), (4, vI ((h 65) x)), (3, vI (qS ((h 64) x))), (0, vR 62), (1, vI x), (2, vI b)]) (by decide) rfl dX6_tellBit_59 ?_
      refine TT_aload_n hK rfl 3 rfl dX6_tellBit_61 ?_
      refine TT_iload_n hK rfl 2 rfl dX6_tellBit_62 ?_
      refine pf_X6_60 hK (by decide) rfl dX6_tellBit_63 ?_
      refine TT_hp (h' := setO h 62 (fup (h 62) 5 (qS ((h 64) x)))) (up_can (sOf_eq _ _ _) (fup_same _ _ _ _) (setO_same _ _ _ _)) ?_
      refine TT_goto hK (tgt := 114) dX6_tellBit_66 (by decide) ?_
      refine TT_aload_n hK rfl 3 rfl dX6_tellBit_114 ?_
      refine gf_X6_12 hK (by decide) rfl (q := 63) rfl rfl dX6_tellBit_115 ?_
      refine TT_iload_n hK rfl 4 rfl dX6_tellBit_118 ?_
      refine TT_iload hK 0 rfl dX6_tellBit_119 ?_
      have q121_64 : (setO h 62 (fup (h 62) 5 (qS ((h 64) x)))) 64 = h 64 := sOf_ne _ _ (by decide)
      have q121_65 : (setO h 62 (fup (h 62) 5 (qS ((h 64) x)))) 65 = h 65 := sOf_ne _ _ (by decide)
      refine iv_X6_71 hK (c_X2_learn_63 x (1 - ((h 65) x)) (setO h 62 (fup (h 62) 5 (qS ((h 64) x)))) (by first | omega | (simp [up, setR] <;> omega)) (by first | omega | (simp [up, setR] <;> omega)) (by rw [q121_64]; exact hst) (by rw [q121_65]; exact hlk)) (by decide) rfl ⟨by decide, by decide⟩ (by decide) rfl rfl (Nat.le_of_ble_eq_true rfl) ⟨by decide, by decide⟩ dX6_tellBit_121 ?_
      intro r9 h9 hp9
      rw [q121_64, q121_65] at hp9
      rw [hp9.1, hp9.2]
      show TT K ly 0 0 124 [(5, vI (1 - ((h 65) x))), (4, vI ((h 65) x)), (3, vI (qS ((h 64) x))), (0, vR 62), (1, vI x), (2, vI b)] [] (setO (setO (setO h 62 (fup (h 62) 5 (qS ((h 64) x)))) 64 (lrS (h 64) x ((1 - ((h 65) x)) ≠ (h 65) x))) 65 (lrL (h 64) (h 65) x ((1 - ((h 65) x)) ≠ (h 65) x)))
      refine TT_iconst hK dX6_tellBit_124 ?_
      refine TT_istore hK (lv' := [(6, vI 0), (5, vI (1 - ((h 65) x))), (4, vI ((h 65) x)), (3, vI (qS ((h 64) x))), (0, vR 62), (1, vI x), (2, vI b)]) (by decide) rfl dX6_tellBit_125 ?_
      have L127_13 : ∀ (k13 : Nat) (k : Int) (a1 : Int) (c1 : Int) (t1 : Int) (p1 : Int) (s1 : Int → Int) (l1 : Int → Int) (b9 : Int) (R9 : Int × Int × Int × Int), (0 ≤ k) → (k ≤ 15) → (RJ_ fxC (h 66) (h 62 3) (15 - k).toNat a1 c1 t1 p1 R9) → (0 ≤ c1 ∧ c1 ≤ 1099511627776) → ((rdS lwC fxC (h 66) (h 62 3) ((h 62 5), (h 62 7), (h 62 6), (h 62 4), (h 64), (h 65)) x) = (b9, R9.1, R9.2.1, R9.2.2.1, R9.2.2.2, s1, l1)) → ((15 : Int) - k).toNat < k13 → TT K ly 0 0 127 [(0, vR 62), (1, vI x), (5, vI b9), (6, vI k)] [] (setO (setO (setO h 62 (fup (fup (fup (fup (h 62) 4 p1) 5 a1) 6 t1) 7 c1)) 64 s1) 65 l1) := by
        intro k13
        induction k13 with
        | zero => intro k a1 c1 t1 p1 s1 l1 b9 R9 hkk0 hkk1 hM hcb1 hR hk13; exact absurd hk13 (Nat.not_lt_zero _)
        | succ k13 ih13 =>
          intro k a1 c1 t1 p1 s1 l1 b9 R9 hkk0 hkk1 hM hcb1 hR hk13
          obtain ⟨m1, m2, m3, m4, m5, m6⟩ := hM.2.2
          have hin := inS_r hsrc (c := c1) m5 m6
          refine TT_iload hK 3 rfl dX6_tellBit_127 ?_
          refine TT_bipush hK (by decide) dX6_tellBit_129 ?_
          refine TT_icmp_ge hK (tgt := 196) (irm (by omega) (by omega)) (by decide) dX6_tellBit_131 (by decide) (fun hb131 => ?_) (fun hb131 => ?_)
          · refine TT_iload hK 2 rfl dX6_tellBit_196 ?_
            refine TT_iret hK hQ ?_ dX6_tellBit_198
            have hE := RJ_done hM (by first | omega | (have h0 : (15 - k).toNat = 0 := (by omega); rw [h0] at hM; exact RJ_z hM))
            exact ⟨congrArg (fun z => some (vI z)) (by rw [hR]), setO_cg (setO_cg (setO_cg rfl (by rw [hR, ← hE])) (by rw [hR])) (by rw [hR])⟩
          · refine TT_aload_n hK rfl 0 rfl dX6_tellBit_134 ?_
            refine gf_X6_60 hK (by decide) rfl (v := a1) (rd_ ((sOf_ne _ _ (by decide)).trans ((sOf_ne _ _ (by decide)).trans (sOf_eq _ _ _))) ((fup_ne _ _ (by decide)).trans ((fup_ne _ _ (by decide)).trans (fup_eq _ _ _)))) dX6_tellBit_135 ?_
            refine TT_ldc hK lc_X6_59 dX6_tellBit_138 ?_
            refine TT_icmp_ge hK (tgt := 196) (irm (by omega) (by omega)) (by decide) dX6_tellBit_140 (by decide) (fun hb140 => ?_) (fun hb140 => ?_)
            · refine TT_iload hK 2 rfl dX6_tellBit_196 ?_
              refine TT_iret hK hQ ?_ dX6_tellBit_198
              have hE := RJ_done hM (by first | omega | (have h0 : (15 - k).toNat = 0 := (by omega); rw [h0] at hM; exact RJ_z hM))
              exact ⟨congrArg (fun z => some (vI z)) (by rw [hR]), setO_cg (setO_cg (setO_cg rfl (by rw [hR, ← hE])) (by rw [hR])) (by rw [hR])⟩
            · refine TT_aload_n hK rfl 0 rfl dX6_tellBit_143 ?_
              refine gf_X6_56 hK (by decide) rfl (v := t1) (rd_ ((sOf_ne _ _ (by decide)).trans ((sOf_ne _ _ (by decide)).trans (sOf_eq _ _ _))) ((fup_ne _ _ (by decide)).trans (fup_eq _ _ _))) dX6_tellBit_144 ?_
              refine TT_if_ne hK (tgt := 154) (irm (by omega) (by omega)) dX6_tellBit_147 (by decide) (fun hb147 => ?_) (fun hb147 => ?_)
              · refine TT_aload_n hK rfl 0 rfl dX6_tellBit_154 ?_
                refine TT_dup hK rfl dX6_tellBit_155 ?_
                refine gf_X6_60 hK (by decide) rfl (v := a1) (rd_ ((sOf_ne _ _ (by decide)).trans ((sOf_ne _ _ (by decide)).trans (sOf_eq _ _ _))) ((fup_ne _ _ (by decide)).trans ((fup_ne _ _ (by decide)).trans (fup_eq _ _ _)))) dX6_tellBit_156 ?_
                refine TT_iconst hK dX6_tellBit_159 ?_
                refine TT_ishl hK (by omega) (by omega) dX6_tellBit_160 ?_
                refine TT_cgI (b := a1 * 2) rfl ?_
                refine TT_cgI (b := 2 * a1) (by omega) ?_
                refine pf_X6_60 hK (by decide) rfl dX6_tellBit_161 ?_
                refine TT_hp (h' := setO (setO (setO h 62 (fup (fup (fup (fup (h 62) 4 p1) 5 (2 * a1)) 6 t1) 7 c1)) 64 s1) 65 l1) (up_can ((sOf_ne _ _ (by decide)).trans ((sOf_ne _ _ (by decide)).trans (sOf_eq _ _ _))) ((fup_comm _ _ _ (by decide)).trans (fup_cg ((fup_comm _ _ _ (by decide)).trans (fup_cg (fup_same _ _ _ _))))) ((setO_comm _ _ _ (by decide)).trans (setO_cg ((setO_comm _ _ _ (by decide)).trans (setO_cg (setO_same _ _ _ _) rfl)) rfl))) ?_
                refine TT_aload_n hK rfl 0 rfl dX6_tellBit_164 ?_
                refine TT_aload_n hK rfl 0 rfl dX6_tellBit_165 ?_
                refine gf_X6_49 hK (by decide) rfl (v := c1) (rd_ ((sOf_ne _ _ (by decide)).trans ((sOf_ne _ _ (by decide)).trans (sOf_eq _ _ _))) (fup_eq _ _ _)) dX6_tellBit_166 ?_
                refine TT_iconst hK dX6_tellBit_169 ?_
                refine TT_lshl hK (by decide) dX6_tellBit_170 ?_
                refine TT_cgJ (b := c1 * 2) rfl ?_
                refine TT_cgJ (b := 2 * c1) (by omega) ?_
                refine TT_ldc2 hK lc_X6_75 dX6_tellBit_171 ?_
                refine TT_mminl hK (lrm (by omega) (by omega)) (by decide) iw_X6_77 (by decide) (Nat.le_of_ble_eq_true rfl) ⟨by decide, by decide⟩ dX6_tellBit_174 ?_
                refine pf_X6_49 hK (by decide) rfl dX6_tellBit_177 ?_
                refine TT_hp (h' := setO (setO (setO h 62 (fup (fup (fup (fup (h 62) 4 p1) 5 (2 * a1)) 6 t1) 7 (min (2 * c1) 1099511627776))) 64 s1) 65 l1) (up_can ((sOf_ne _ _ (by decide)).trans ((sOf_ne _ _ (by decide)).trans (sOf_eq _ _ _))) (fup_same _ _ _ _) ((setO_comm _ _ _ (by decide)).trans (setO_cg ((setO_comm _ _ _ (by decide)).trans (setO_cg (setO_same _ _ _ _) rfl)) rfl))) ?_
                refine TT_aload_n hK rfl 0 rfl dX6_tellBit_180 ?_
                refine TT_dup hK rfl dX6_tellBit_181 ?_
                refine gf_X6_56 hK (by decide) rfl (v := t1) (rd_ ((sOf_ne _ _ (by decide)).trans ((sOf_ne _ _ (by decide)).trans (sOf_eq _ _ _))) ((fup_ne _ _ (by decide)).trans (fup_eq _ _ _))) dX6_tellBit_182 ?_
                refine TT_iconst hK dX6_tellBit_185 ?_
                refine TT_isub hK dX6_tellBit_186 ?_
                refine pf_X6_56 hK (by decide) rfl dX6_tellBit_187 ?_
                refine TT_hp (h' := setO (setO (setO h 62 (fup (fup (fup (fup (h 62) 4 p1) 5 (2 * a1)) 6 (t1 - 1)) 7 (min (2 * c1) 1099511627776))) 64 s1) 65 l1) (up_can ((sOf_ne _ _ (by decide)).trans ((sOf_ne _ _ (by decide)).trans (sOf_eq _ _ _))) ((fup_comm _ _ _ (by decide)).trans (fup_cg (fup_same _ _ _ _))) ((setO_comm _ _ _ (by decide)).trans (setO_cg ((setO_comm _ _ _ (by decide)).trans (setO_cg (setO_same _ _ _ _) rfl)) rfl))) ?_
                refine TT_iinc hK (v := k + 1) (lv' := [(6, vI (k + 1)), (0, vR 62), (1, vI x), (5, vI b9)]) 3 rfl rfl (by decide) rfl dX6_tellBit_190 ?_
                refine TT_goto hK (tgt := 127) dX6_tellBit_193 (by decide) ?_
                refine TT_sub [1, 2, 3, 0] rfl ?_
                exact ih13 (k + 1) (2 * a1) (min (2 * c1) 1099511627776) (t1 - 1) p1 s1 l1 b9 R9 (by first | omega | (simp [up, setR] <;> omega)) (by first | omega | (simp [up, setR] <;> omega)) (by have h1 : (15 - k).toNat = (15 - (k + 1)).toNat + 1 := (by omega); rw [h1] at hM; first | exact RJ_next hM (by omega) (by omega) rfl | exact RJ_in hsrc hM (by omega) (by omega) rfl) (by omega) (by exact hR) (by first | omega | (simp [up, setR] <;> omega))
              · refine TT_aload_n hK rfl 0 rfl dX6_tellBit_150 ?_
                have q151_62_3 : (setO (setO (setO h 62 (fup (fup (fup (fup (h 62) 4 p1) 5 a1) 6 t1) 7 c1)) 64 s1) 65 l1) 62 3 = (h 62) 3 := rd_ ((sOf_ne _ _ (by decide)).trans ((sOf_ne _ _ (by decide)).trans (sOf_eq _ _ _))) ((fup_ne _ _ (by decide)).trans ((fup_ne _ _ (by decide)).trans ((fup_ne _ _ (by decide)).trans (fup_ne _ _ (by decide)))))
                have q151_62_4 : (setO (setO (setO h 62 (fup (fup (fup (fup (h 62) 4 p1) 5 a1) 6 t1) 7 c1)) 64 s1) 65 l1) 62 4 = p1 := rd_ ((sOf_ne _ _ (by decide)).trans ((sOf_ne _ _ (by decide)).trans (sOf_eq _ _ _))) ((fup_ne _ _ (by decide)).trans ((fup_ne _ _ (by decide)).trans ((fup_ne _ _ (by decide)).trans (fup_eq _ _ _))))
                have q151_62_7 : (setO (setO (setO h 62 (fup (fup (fup (fup (h 62) 4 p1) 5 a1) 6 t1) 7 c1)) 64 s1) 65 l1) 62 7 = c1 := rd_ ((sOf_ne _ _ (by decide)).trans ((sOf_ne _ _ (by decide)).trans (sOf_eq _ _ _))) (fup_eq _ _ _)
                have q151_62 : (setO (setO (setO h 62 (fup (fup (fup (fup (h 62) 4 p1) 5 a1) 6 t1) 7 c1)) 64 s1) 65 l1) 62 = fup (fup (fup (fup (h 62) 4 p1) 5 a1) 6 t1) 7 c1 := (sOf_ne _ _ (by decide)).trans ((sOf_ne _ _ (by decide)).trans (sOf_eq _ _ _))
                have q151_66 : (setO (setO (setO h 62 (fup (fup (fup (fup (h 62) 4 p1) 5 a1) 6 t1) 7 c1)) 64 s1) 65 l1) 66 = h 66 := (sOf_ne _ _ (by decide)).trans ((sOf_ne _ _ (by decide)).trans (sOf_ne _ _ (by decide)))
                refine iv_X6_53 hK (c_X6_comeIn_62 (setO (setO (setO h 62 (fup (fup (fup (fup (h 62) 4 p1) 5 a1) 6 t1) 7 c1)) 64 s1) 65 l1) (by rw [q151_62_3, q151_66]; exact hsrc) (by rw [q151_62_3]; first | omega | (simp [up, setR] <;> omega)) (by rw [q151_62_3, q151_62_4]; first | omega | (simp [up, setR] <;> omega)) (by rw [q151_62_7]; first | omega | (simp [up, setR] <;> omega))) (by decide) rfl ⟨by decide, by decide⟩ (by decide) rfl rfl (Nat.le_of_ble_eq_true rfl) ⟨by decide, by decide⟩ dX6_tellBit_151 ?_
                intro r9 h9 hp9
                rw [q151_62_3, q151_62_4, q151_62_7, q151_62, q151_66] at hp9
                rw [hp9.1, hp9.2]
                refine TT_hp (h' := setO (setO (setO h 62 (fup (fup (fup (fup (h 62) 4 ((inS (h 66) ((h 62) 3) c1 p1).2.2)) 5 a1) 6 ((inS (h 66) ((h 62) 3) c1 p1).2.1)) 7 ((inS (h 66) ((h 62) 3) c1 p1).1))) 64 s1) 65 l1) ((setO_cg rfl ((fup_cg ((fup_cg ((fup_comm _ _ _ (by decide)).trans (fup_cg ((fup_comm _ _ _ (by decide)).trans (fup_cg ((fup_comm _ _ _ (by decide)).trans (fup_cg (fup_same _ _ _ _)))))))).trans ((fup_comm _ _ _ (by decide)).trans (fup_cg (fup_same _ _ _ _))))).trans (fup_same _ _ _ _))).trans ((setO_comm _ _ _ (by decide)).trans (setO_cg ((setO_comm _ _ _ (by decide)).trans (setO_cg (setO_same _ _ _ _) rfl)) rfl))) ?_
                show TT K ly 0 0 154 [(0, vR 62), (1, vI x), (5, vI b9), (6, vI k)] [] (setO (setO (setO h 62 (fup (fup (fup (fup (h 62) 4 ((inS (h 66) ((h 62) 3) c1 p1).2.2)) 5 a1) 6 ((inS (h 66) ((h 62) 3) c1 p1).2.1)) 7 ((inS (h 66) ((h 62) 3) c1 p1).1))) 64 s1) 65 l1)
                refine TT_aload_n hK rfl 0 rfl dX6_tellBit_154 ?_
                refine TT_dup hK rfl dX6_tellBit_155 ?_
                refine gf_X6_60 hK (by decide) rfl (v := a1) (rd_ ((sOf_ne _ _ (by decide)).trans ((sOf_ne _ _ (by decide)).trans (sOf_eq _ _ _))) ((fup_ne _ _ (by decide)).trans ((fup_ne _ _ (by decide)).trans (fup_eq _ _ _)))) dX6_tellBit_156 ?_
                refine TT_iconst hK dX6_tellBit_159 ?_
                refine TT_ishl hK (by omega) (by omega) dX6_tellBit_160 ?_
                refine TT_cgI (b := a1 * 2) rfl ?_
                refine TT_cgI (b := 2 * a1) (by omega) ?_
                refine pf_X6_60 hK (by decide) rfl dX6_tellBit_161 ?_
                refine TT_hp (h' := setO (setO (setO h 62 (fup (fup (fup (fup (h 62) 4 ((inS (h 66) ((h 62) 3) c1 p1).2.2)) 5 (2 * a1)) 6 ((inS (h 66) ((h 62) 3) c1 p1).2.1)) 7 ((inS (h 66) ((h 62) 3) c1 p1).1))) 64 s1) 65 l1) (up_can ((sOf_ne _ _ (by decide)).trans ((sOf_ne _ _ (by decide)).trans (sOf_eq _ _ _))) ((fup_comm _ _ _ (by decide)).trans (fup_cg ((fup_comm _ _ _ (by decide)).trans (fup_cg (fup_same _ _ _ _))))) ((setO_comm _ _ _ (by decide)).trans (setO_cg ((setO_comm _ _ _ (by decide)).trans (setO_cg (setO_same _ _ _ _) rfl)) rfl))) ?_
                refine TT_aload_n hK rfl 0 rfl dX6_tellBit_164 ?_
                refine TT_aload_n hK rfl 0 rfl dX6_tellBit_165 ?_
                refine gf_X6_49 hK (by decide) rfl (v := (inS (h 66) ((h 62) 3) c1 p1).1) (rd_ ((sOf_ne _ _ (by decide)).trans ((sOf_ne _ _ (by decide)).trans (sOf_eq _ _ _))) (fup_eq _ _ _)) dX6_tellBit_166 ?_
                refine TT_iconst hK dX6_tellBit_169 ?_
                refine TT_lshl hK (by decide) dX6_tellBit_170 ?_
                refine TT_cgJ (b := ((inS (h 66) ((h 62) 3) c1 p1).1) * 2) rfl ?_
                refine TT_cgJ (b := 2 * ((inS (h 66) ((h 62) 3) c1 p1).1)) (by omega) ?_
                refine TT_ldc2 hK lc_X6_75 dX6_tellBit_171 ?_
                refine TT_mminl hK (lrm (by omega) (by omega)) (by decide) iw_X6_77 (by decide) (Nat.le_of_ble_eq_true rfl) ⟨by decide, by decide⟩ dX6_tellBit_174 ?_
                refine pf_X6_49 hK (by decide) rfl dX6_tellBit_177 ?_
                refine TT_hp (h' := setO (setO (setO h 62 (fup (fup (fup (fup (h 62) 4 ((inS (h 66) ((h 62) 3) c1 p1).2.2)) 5 (2 * a1)) 6 ((inS (h 66) ((h 62) 3) c1 p1).2.1)) 7 (min (2 * ((inS (h 66) ((h 62) 3) c1 p1).1)) 1099511627776))) 64 s1) 65 l1) (up_can ((sOf_ne _ _ (by decide)).trans ((sOf_ne _ _ (by decide)).trans (sOf_eq _ _ _))) (fup_same _ _ _ _) ((setO_comm _ _ _ (by decide)).trans (setO_cg ((setO_comm _ _ _ (by decide)).trans (setO_cg (setO_same _ _ _ _) rfl)) rfl))) ?_
                refine TT_aload_n hK rfl 0 rfl dX6_tellBit_180 ?_
                refine TT_dup hK rfl dX6_tellBit_181 ?_
                refine gf_X6_56 hK (by decide) rfl (v := (inS (h 66) ((h 62) 3) c1 p1).2.1) (rd_ ((sOf_ne _ _ (by decide)).trans ((sOf_ne _ _ (by decide)).trans (sOf_eq _ _ _))) ((fup_ne _ _ (by decide)).trans (fup_eq _ _ _))) dX6_tellBit_182 ?_
                refine TT_iconst hK dX6_tellBit_185 ?_
                refine TT_isub hK dX6_tellBit_186 ?_
                refine pf_X6_56 hK (by decide) rfl dX6_tellBit_187 ?_
                refine TT_hp (h' := setO (setO (setO h 62 (fup (fup (fup (fup (h 62) 4 ((inS (h 66) ((h 62) 3) c1 p1).2.2)) 5 (2 * a1)) 6 (((inS (h 66) ((h 62) 3) c1 p1).2.1) - 1)) 7 (min (2 * ((inS (h 66) ((h 62) 3) c1 p1).1)) 1099511627776))) 64 s1) 65 l1) (up_can ((sOf_ne _ _ (by decide)).trans ((sOf_ne _ _ (by decide)).trans (sOf_eq _ _ _))) ((fup_comm _ _ _ (by decide)).trans (fup_cg (fup_same _ _ _ _))) ((setO_comm _ _ _ (by decide)).trans (setO_cg ((setO_comm _ _ _ (by decide)).trans (setO_cg (setO_same _ _ _ _) rfl)) rfl))) ?_
                refine TT_iinc hK (v := k + 1) (lv' := [(6, vI (k + 1)), (0, vR 62), (1, vI x), (5, vI b9)]) 3 rfl rfl (by decide) rfl dX6_tellBit_190 ?_
                refine TT_goto hK (tgt := 127) dX6_tellBit_193 (by decide) ?_
                refine TT_sub [1, 2, 3, 0] rfl ?_
                exact ih13 (k + 1) (2 * a1) (min (2 * ((inS (h 66) ((h 62) 3) c1 p1).1)) 1099511627776) (((inS (h 66) ((h 62) 3) c1 p1).2.1) - 1) ((inS (h 66) ((h 62) 3) c1 p1).2.2) s1 l1 b9 R9 (by first | omega | (simp [up, setR] <;> omega)) (by first | omega | (simp [up, setR] <;> omega)) (by have h1 : (15 - k).toNat = (15 - (k + 1)).toNat + 1 := (by omega); rw [h1] at hM; first | exact RJ_next hM (by omega) (by omega) rfl | exact RJ_in hsrc hM (by omega) (by omega) rfl) (by omega) (by exact hR) (by first | omega | (simp [up, setR] <;> omega))
      refine TT_sub [4, 5, 1, 0] rfl ?_
      refine TT_hp (h' := setO (setO (setO h 62 (fup (fup (fup (fup (h 62) 4 ((h 62) 4)) 5 (qS ((h 64) x))) 6 ((h 62) 6)) 7 ((h 62) 7))) 64 (lrS (h 64) x ((1 - ((h 65) x)) ≠ (h 65) x))) 65 (lrL (h 64) (h 65) x ((1 - ((h 65) x)) ≠ (h 65) x))) (setO_cg (setO_cg (setO_cg rfl (by first | exact fup_4567 _ _ _ | exact fup_4567b _ _)) (by first | rfl | exact fsr_0 _ _ _)) (by first | rfl | exact fsr_0 _ _ _)) ?_
      exact L127_13 ((((15 : Int) - 0).toNat) + 1) 0 (qS ((h 64) x)) ((h 62) 7) ((h 62) 6) ((h 62) 4) (lrS (h 64) x ((1 - ((h 65) x)) ≠ (h 65) x)) (lrL (h 64) (h 65) x ((1 - ((h 65) x)) ≠ (h 65) x)) (1 - ((h 65) x)) (rmS fxC (h 66) (h 62 3) 15 (qS ((h 64) x)) ((h 62) 7) ((h 62) 6) ((h 62) 4)) (by first | omega | (simp [up, setR] <;> omega)) (by first | omega | (simp [up, setR] <;> omega)) (by exact RJ_0 (RQ_rd (x := x) (st := h 64) (P := lwC (h 62 7) < qS (h 64 x)) hq ha hs (by unfold lwC; first | exact (if_pos (by omega)).symm | exact (if_neg (by omega)).symm))) (by omega) (by refine rdS_m (by unfold lwC; omega) (by unfold lwC; first | exact (if_pos (by omega)).symm | exact (if_neg (by omega)).symm) (by unfold lwC; first | exact (if_pos (by omega)).symm | exact (if_neg (by omega)).symm) (by unfold lwC; omega) (by first | exact (if_pos (by omega)).symm | exact (if_neg (by omega)).symm)) (Nat.lt_succ_self _)
    · refine TT_iload hK 0 rfl dX6_tellBit_50 ?_
      refine TT_goto hK (tgt := 59) dX6_tellBit_52 (by decide) ?_
      refine TT_istore hK (lv' := [(5, vI ((h 65) x)), (4, vI ((h 65) x)), (3, vI (qS ((h 64) x))), (0, vR 62), (1, vI x), (2, vI b)]) (by decide) rfl dX6_tellBit_59 ?_
      refine TT_aload_n hK rfl 3 rfl dX6_tellBit_61 ?_
      refine TT_iload_n hK rfl 2 rfl dX6_tellBit_62 ?_
      refine pf_X6_60 hK (by decide) rfl dX6_tellBit_63 ?_
      refine TT_hp (h' := setO h 62 (fup (h 62) 5 (qS ((h 64) x)))) (up_can (sOf_eq _ _ _) (fup_same _ _ _ _) (setO_same _ _ _ _)) ?_
      refine TT_goto hK (tgt := 114) dX6_tellBit_66 (by decide) ?_
      refine TT_aload_n hK rfl 3 rfl dX6_tellBit_114 ?_
      refine gf_X6_12 hK (by decide) rfl (q := 63) rfl rfl dX6_tellBit_115 ?_
      refine TT_iload_n hK rfl 4 rfl dX6_tellBit_118 ?_
      refine TT_iload hK 0 rfl dX6_tellBit_119 ?_
      have q121_64 : (setO h 62 (fup (h 62) 5 (qS ((h 64) x)))) 64 = h 64 := sOf_ne _ _ (by decide)
      have q121_65 : (setO h 62 (fup (h 62) 5 (qS ((h 64) x)))) 65 = h 65 := sOf_ne _ _ (by decide)
      refine iv_X6_71 hK (c_X2_learn_63 x ((h 65) x) (setO h 62 (fup (h 62) 5 (qS ((h 64) x)))) (by first | omega | (simp [up, setR] <;> omega)) (by first | omega | (simp [up, setR] <;> omega)) (by rw [q121_64]; exact hst) (by rw [q121_65]; exact hlk)) (by decide) rfl ⟨by decide, by decide⟩ (by decide) rfl rfl (Nat.le_of_ble_eq_true rfl) ⟨by decide, by decide⟩ dX6_tellBit_121 ?_
      intro r9 h9 hp9
      rw [q121_64, q121_65] at hp9
      rw [hp9.1, hp9.2]
      show TT K ly 0 0 124 [(5, vI ((h 65) x)), (4, vI ((h 65) x)), (3, vI (qS ((h 64) x))), (0, vR 62), (1, vI x), (2, vI b)] [] (setO (setO (setO h 62 (fup (h 62) 5 (qS ((h 64) x)))) 64 (lrS (h 64) x (((h 65) x) ≠ (h 65) x))) 65 (lrL (h 64) (h 65) x (((h 65) x) ≠ (h 65) x)))
      refine TT_iconst hK dX6_tellBit_124 ?_
      refine TT_istore hK (lv' := [(6, vI 0), (5, vI ((h 65) x)), (4, vI ((h 65) x)), (3, vI (qS ((h 64) x))), (0, vR 62), (1, vI x), (2, vI b)]) (by decide) rfl dX6_tellBit_125 ?_
      have L127_17 : ∀ (k17 : Nat) (k : Int) (a1 : Int) (c1 : Int) (t1 : Int) (p1 : Int) (s1 : Int → Int) (l1 : Int → Int) (b9 : Int) (R9 : Int × Int × Int × Int), (0 ≤ k) → (k ≤ 15) → (RJ_ fxC (h 66) (h 62 3) (15 - k).toNat a1 c1 t1 p1 R9) → (0 ≤ c1 ∧ c1 ≤ 1099511627776) → ((rdS lwC fxC (h 66) (h 62 3) ((h 62 5), (h 62 7), (h 62 6), (h 62 4), (h 64), (h 65)) x) = (b9, R9.1, R9.2.1, R9.2.2.1, R9.2.2.2, s1, l1)) → ((15 : Int) - k).toNat < k17 → TT K ly 0 0 127 [(0, vR 62), (1, vI x), (5, vI b9), (6, vI k)] [] (setO (setO (setO h 62 (fup (fup (fup (fup (h 62) 4 p1) 5 a1) 6 t1) 7 c1)) 64 s1) 65 l1) := by
        intro k17
        induction k17 with
        | zero => intro k a1 c1 t1 p1 s1 l1 b9 R9 hkk0 hkk1 hM hcb1 hR hk17; exact absurd hk17 (Nat.not_lt_zero _)
        | succ k17 ih17 =>
          intro k a1 c1 t1 p1 s1 l1 b9 R9 hkk0 hkk1 hM hcb1 hR hk17
          obtain ⟨m1, m2, m3, m4, m5, m6⟩ := hM.2.2
          have hin := inS_r hsrc (c := c1) m5 m6
          refine TT_iload hK 3 rfl dX6_tellBit_127 ?_
          refine TT_bipush hK (by decide) dX6_tellBit_129 ?_
          refine TT_icmp_ge hK (tgt := 196) (irm (by omega) (by omega)) (by decide) dX6_tellBit_131 (by decide) (fun hb131 => ?_) (fun hb131 => ?_)
          · refine TT_iload hK 2 rfl dX6_tellBit_196 ?_
            refine TT_iret hK hQ ?_ dX6_tellBit_198
            have hE := RJ_done hM (by first | omega | (have h0 : (15 - k).toNat = 0 := (by omega); rw [h0] at hM; exact RJ_z hM))
            exact ⟨congrArg (fun z => some (vI z)) (by rw [hR]), setO_cg (setO_cg (setO_cg rfl (by rw [hR, ← hE])) (by rw [hR])) (by rw [hR])⟩
          · refine TT_aload_n hK rfl 0 rfl dX6_tellBit_134 ?_
            refine gf_X6_60 hK (by decide) rfl (v := a1) (rd_ ((sOf_ne _ _ (by decide)).trans ((sOf_ne _ _ (by decide)).trans (sOf_eq _ _ _))) ((fup_ne _ _ (by decide)).trans ((fup_ne _ _ (by decide)).trans (fup_eq _ _ _)))) dX6_tellBit_135 ?_
            refine TT_ldc hK lc_X6_59 dX6_tellBit_138 ?_
            refine TT_icmp_ge hK (tgt := 196) (irm (by omega) (by omega)) (by decide) dX6_tellBit_140 (by decide) (fun hb140 => ?_) (fun hb140 => ?_)
            · refine TT_iload hK 2 rfl dX6_tellBit_196 ?_
              refine TT_iret hK hQ ?_ dX6_tellBit_198
              have hE := RJ_done hM (by first | omega | (have h0 : (15 - k).toNat = 0 := (by omega); rw [h0] at hM; exact RJ_z hM))
              exact ⟨congrArg (fun z => some (vI z)) (by rw [hR]), setO_cg (setO_cg (setO_cg rfl (by rw [hR, ← hE])) (by rw [hR])) (by rw [hR])⟩
            · refine TT_aload_n hK rfl 0 rfl dX6_tellBit_143 ?_
              refine gf_X6_56 hK (by decide) rfl (v := t1) (rd_ ((sOf_ne _ _ (by decide)).trans ((sOf_ne _ _ (by decide)).trans (sOf_eq _ _ _))) ((fup_ne _ _ (by decide)).trans (fup_eq _ _ _))) dX6_tellBit_144 ?_
              refine TT_if_ne hK (tgt := 154) (irm (by omega) (by omega)) dX6_tellBit_147 (by decide) (fun hb147 => ?_) (fun hb147 => ?_)
              · refine TT_aload_n hK rfl 0 rfl dX6_tellBit_154 ?_
                refine TT_dup hK rfl dX6_tellBit_155 ?_
                refine gf_X6_60 hK (by decide) rfl (v := a1) (rd_ ((sOf_ne _ _ (by decide)).trans ((sOf_ne _ _ (by decide)).trans (sOf_eq _ _ _))) ((fup_ne _ _ (by decide)).trans ((fup_ne _ _ (by decide)).trans (fup_eq _ _ _)))) dX6_tellBit_156 ?_
                refine TT_iconst hK dX6_tellBit_159 ?_
                refine TT_ishl hK (by omega) (by omega) dX6_tellBit_160 ?_
                refine TT_cgI (b := a1 * 2) rfl ?_
                refine TT_cgI (b := 2 * a1) (by omega) ?_
                refine pf_X6_60 hK (by decide) rfl dX6_tellBit_161 ?_
                refine TT_hp (h' := setO (setO (setO h 62 (fup (fup (fup (fup (h 62) 4 p1) 5 (2 * a1)) 6 t1) 7 c1)) 64 s1) 65 l1) (up_can ((sOf_ne _ _ (by decide)).trans ((sOf_ne _ _ (by decide)).trans (sOf_eq _ _ _))) ((fup_comm _ _ _ (by decide)).trans (fup_cg ((fup_comm _ _ _ (by decide)).trans (fup_cg (fup_same _ _ _ _))))) ((setO_comm _ _ _ (by decide)).trans (setO_cg ((setO_comm _ _ _ (by decide)).trans (setO_cg (setO_same _ _ _ _) rfl)) rfl))) ?_
                refine TT_aload_n hK rfl 0 rfl dX6_tellBit_164 ?_
                refine TT_aload_n hK rfl 0 rfl dX6_tellBit_165 ?_
                refine gf_X6_49 hK (by decide) rfl (v := c1) (rd_ ((sOf_ne _ _ (by decide)).trans ((sOf_ne _ _ (by decide)).trans (sOf_eq _ _ _))) (fup_eq _ _ _)) dX6_tellBit_166 ?_
                refine TT_iconst hK dX6_tellBit_169 ?_
                refine TT_lshl hK (by decide) dX6_tellBit_170 ?_
                refine TT_cgJ (b := c1 * 2) rfl ?_
                refine TT_cgJ (b := 2 * c1) (by omega) ?_
                refine TT_ldc2 hK lc_X6_75 dX6_tellBit_171 ?_
                refine TT_mminl hK (lrm (by omega) (by omega)) (by decide) iw_X6_77 (by decide) (Nat.le_of_ble_eq_true rfl) ⟨by decide, by decide⟩ dX6_tellBit_174 ?_
                refine pf_X6_49 hK (by decide) rfl dX6_tellBit_177 ?_
                refine TT_hp (h' := setO (setO (setO h 62 (fup (fup (fup (fup (h 62) 4 p1) 5 (2 * a1)) 6 t1) 7 (min (2 * c1) 1099511627776))) 64 s1) 65 l1) (up_can ((sOf_ne _ _ (by decide)).trans ((sOf_ne _ _ (by decide)).trans (sOf_eq _ _ _))) (fup_same _ _ _ _) ((setO_comm _ _ _ (by decide)).trans (setO_cg ((setO_comm _ _ _ (by decide)).trans (setO_cg (setO_same _ _ _ _) rfl)) rfl))) ?_
                refine TT_aload_n hK rfl 0 rfl dX6_tellBit_180 ?_
                refine TT_dup hK rfl dX6_tellBit_181 ?_
                refine gf_X6_56 hK (by decide) rfl (v := t1) (rd_ ((sOf_ne _ _ (by decide)).trans ((sOf_ne _ _ (by decide)).trans (sOf_eq _ _ _))) ((fup_ne _ _ (by decide)).trans (fup_eq _ _ _))) dX6_tellBit_182 ?_
                refine TT_iconst hK dX6_tellBit_185 ?_
                refine TT_isub hK dX6_tellBit_186 ?_
                refine pf_X6_56 hK (by decide) rfl dX6_tellBit_187 ?_
                refine TT_hp (h' := setO (setO (setO h 62 (fup (fup (fup (fup (h 62) 4 p1) 5 (2 * a1)) 6 (t1 - 1)) 7 (min (2 * c1) 1099511627776))) 64 s1) 65 l1) (up_can ((sOf_ne _ _ (by decide)).trans ((sOf_ne _ _ (by decide)).trans (sOf_eq _ _ _))) ((fup_comm _ _ _ (by decide)).trans (fup_cg (fup_same _ _ _ _))) ((setO_comm _ _ _ (by decide)).trans (setO_cg ((setO_comm _ _ _ (by decide)).trans (setO_cg (setO_same _ _ _ _) rfl)) rfl))) ?_
                refine TT_iinc hK (v := k + 1) (lv' := [(6, vI (k + 1)), (0, vR 62), (1, vI x), (5, vI b9)]) 3 rfl rfl (by decide) rfl dX6_tellBit_190 ?_
                refine TT_goto hK (tgt := 127) dX6_tellBit_193 (by decide) ?_
                refine TT_sub [1, 2, 3, 0] rfl ?_
                exact ih17 (k + 1) (2 * a1) (min (2 * c1) 1099511627776) (t1 - 1) p1 s1 l1 b9 R9 (by first | omega | (simp [up, setR] <;> omega)) (by first | omega | (simp [up, setR] <;> omega)) (by have h1 : (15 - k).toNat = (15 - (k + 1)).toNat + 1 := (by omega); rw [h1] at hM; first | exact RJ_next hM (by omega) (by omega) rfl | exact RJ_in hsrc hM (by omega) (by omega) rfl) (by omega) (by exact hR) (by first | omega | (simp [up, setR] <;> omega))
              · refine TT_aload_n hK rfl 0 rfl dX6_tellBit_150 ?_
                have q151_62_3 : (setO (setO (setO h 62 (fup (fup (fup (fup (h 62) 4 p1) 5 a1) 6 t1) 7 c1)) 64 s1) 65 l1) 62 3 = (h 62) 3 := rd_ ((sOf_ne _ _ (by decide)).trans ((sOf_ne _ _ (by decide)).trans (sOf_eq _ _ _))) ((fup_ne _ _ (by decide)).trans ((fup_ne _ _ (by decide)).trans ((fup_ne _ _ (by decide)).trans (fup_ne _ _ (by decide)))))
                have q151_62_4 : (setO (setO (setO h 62 (fup (fup (fup (fup (h 62) 4 p1) 5 a1) 6 t1) 7 c1)) 64 s1) 65 l1) 62 4 = p1 := rd_ ((sOf_ne _ _ (by decide)).trans ((sOf_ne _ _ (by decide)).trans (sOf_eq _ _ _))) ((fup_ne _ _ (by decide)).trans ((fup_ne _ _ (by decide)).trans ((fup_ne _ _ (by decide)).trans (fup_eq _ _ _))))
                have q151_62_7 : (setO (setO (setO h 62 (fup (fup (fup (fup (h 62) 4 p1) 5 a1) 6 t1) 7 c1)) 64 s1) 65 l1) 62 7 = c1 := rd_ ((sOf_ne _ _ (by decide)).trans ((sOf_ne _ _ (by decide)).trans (sOf_eq _ _ _))) (fup_eq _ _ _)
                have q151_62 : (setO (setO (setO h 62 (fup (fup (fup (fup (h 62) 4 p1) 5 a1) 6 t1) 7 c1)) 64 s1) 65 l1) 62 = fup (fup (fup (fup (h 62) 4 p1) 5 a1) 6 t1) 7 c1 := (sOf_ne _ _ (by decide)).trans ((sOf_ne _ _ (by decide)).trans (sOf_eq _ _ _))
                have q151_66 : (setO (setO (setO h 62 (fup (fup (fup (fup (h 62) 4 p1) 5 a1) 6 t1) 7 c1)) 64 s1) 65 l1) 66 = h 66 := (sOf_ne _ _ (by decide)).trans ((sOf_ne _ _ (by decide)).trans (sOf_ne _ _ (by decide)))
                refine iv_X6_53 hK (c_X6_comeIn_62 (setO (setO (setO h 62 (fup (fup (fup (fup (h 62) 4 p1) 5 a1) 6 t1) 7 c1)) 64 s1) 65 l1) (by rw [q151_62_3, q151_66]; exact hsrc) (by rw [q151_62_3]; first | omega | (simp [up, setR] <;> omega)) (by rw [q151_62_3, q151_62_4]; first | omega | (simp [up, setR] <;> omega)) (by rw [q151_62_7]; first | omega | (simp [up, setR] <;> omega))) (by decide) rfl ⟨by decide, by decide⟩ (by decide) rfl rfl (Nat.le_of_ble_eq_true rfl) ⟨by decide, by decide⟩ dX6_tellBit_151 ?_
                intro r9 h9 hp9
                rw [q151_62_3, q151_62_4, q151_62_7, q151_62, q151_66] at hp9
                rw [hp9.1, hp9.2]
                refine TT_hp (h' := setO (setO (setO h 62 (fup (fup (fup (fup (h 62) 4 ((inS (h 66) ((h 62) 3) c1 p1).2.2)) 5 a1) 6 ((inS (h 66) ((h 62) 3) c1 p1).2.1)) 7 ((inS (h 66) ((h 62) 3) c1 p1).1))) 64 s1) 65 l1) ((setO_cg rfl ((fup_cg ((fup_cg ((fup_comm _ _ _ (by decide)).trans (fup_cg ((fup_comm _ _ _ (by decide)).trans (fup_cg ((fup_comm _ _ _ (by decide)).trans (fup_cg (fup_same _ _ _ _)))))))).trans ((fup_comm _ _ _ (by decide)).trans (fup_cg (fup_same _ _ _ _))))).trans (fup_same _ _ _ _))).trans ((setO_comm _ _ _ (by decide)).trans (setO_cg ((setO_comm _ _ _ (by decide)).trans (setO_cg (setO_same _ _ _ _) rfl)) rfl))) ?_
                show TT K ly 0 0 154 [(0, vR 62), (1, vI x), (5, vI b9), (6, vI k)] [] (setO (setO (setO h 62 (fup (fup (fup (fup (h 62) 4 ((inS (h 66) ((h 62) 3) c1 p1).2.2)) 5 a1) 6 ((inS (h 66) ((h 62) 3) c1 p1).2.1)) 7 ((inS (h 66) ((h 62) 3) c1 p1).1))) 64 s1) 65 l1)
                refine TT_aload_n hK rfl 0 rfl dX6_tellBit_154 ?_
                refine TT_dup hK rfl dX6_tellBit_155 ?_
                refine gf_X6_60 hK (by decide) rfl (v := a1) (rd_ ((sOf_ne _ _ (by decide)).trans ((sOf_ne _ _ (by decide)).trans (sOf_eq _ _ _))) ((fup_ne _ _ (by decide)).trans ((fup_ne _ _ (by decide)).trans (fup_eq _ _ _)))) dX6_tellBit_156 ?_
                refine TT_iconst hK dX6_tellBit_159 ?_
                refine TT_ishl hK (by omega) (by omega) dX6_tellBit_160 ?_
                refine TT_cgI (b := a1 * 2) rfl ?_
                refine TT_cgI (b := 2 * a1) (by omega) ?_
                refine pf_X6_60 hK (by decide) rfl dX6_tellBit_161 ?_
                refine TT_hp (h' := setO (setO (setO h 62 (fup (fup (fup (fup (h 62) 4 ((inS (h 66) ((h 62) 3) c1 p1).2.2)) 5 (2 * a1)) 6 ((inS (h 66) ((h 62) 3) c1 p1).2.1)) 7 ((inS (h 66) ((h 62) 3) c1 p1).1))) 64 s1) 65 l1) (up_can ((sOf_ne _ _ (by decide)).trans ((sOf_ne _ _ (by decide)).trans (sOf_eq _ _ _))) ((fup_comm _ _ _ (by decide)).trans (fup_cg ((fup_comm _ _ _ (by decide)).trans (fup_cg (fup_same _ _ _ _))))) ((setO_comm _ _ _ (by decide)).trans (setO_cg ((setO_comm _ _ _ (by decide)).trans (setO_cg (setO_same _ _ _ _) rfl)) rfl))) ?_
                refine TT_aload_n hK rfl 0 rfl dX6_tellBit_164 ?_
                refine TT_aload_n hK rfl 0 rfl dX6_tellBit_165 ?_
                refine gf_X6_49 hK (by decide) rfl (v := (inS (h 66) ((h 62) 3) c1 p1).1) (rd_ ((sOf_ne _ _ (by decide)).trans ((sOf_ne _ _ (by decide)).trans (sOf_eq _ _ _))) (fup_eq _ _ _)) dX6_tellBit_166 ?_
                refine TT_iconst hK dX6_tellBit_169 ?_
                refine TT_lshl hK (by decide) dX6_tellBit_170 ?_
                refine TT_cgJ (b := ((inS (h 66) ((h 62) 3) c1 p1).1) * 2) rfl ?_
                refine TT_cgJ (b := 2 * ((inS (h 66) ((h 62) 3) c1 p1).1)) (by omega) ?_
                refine TT_ldc2 hK lc_X6_75 dX6_tellBit_171 ?_
                refine TT_mminl hK (lrm (by omega) (by omega)) (by decide) iw_X6_77 (by decide) (Nat.le_of_ble_eq_true rfl) ⟨by decide, by decide⟩ dX6_tellBit_174 ?_
                refine pf_X6_49 hK (by decide) rfl dX6_tellBit_177 ?_
                refine TT_hp (h' := setO (setO (setO h 62 (fup (fup (fup (fup (h 62) 4 ((inS (h 66) ((h 62) 3) c1 p1).2.2)) 5 (2 * a1)) 6 ((inS (h 66) ((h 62) 3) c1 p1).2.1)) 7 (min (2 * ((inS (h 66) ((h 62) 3) c1 p1).1)) 1099511627776))) 64 s1) 65 l1) (up_can ((sOf_ne _ _ (by decide)).trans ((sOf_ne _ _ (by decide)).trans (sOf_eq _ _ _))) (fup_same _ _ _ _) ((setO_comm _ _ _ (by decide)).trans (setO_cg ((setO_comm _ _ _ (by decide)).trans (setO_cg (setO_same _ _ _ _) rfl)) rfl))) ?_
                refine TT_aload_n hK rfl 0 rfl dX6_tellBit_180 ?_
                refine TT_dup hK rfl dX6_tellBit_181 ?_
                refine gf_X6_56 hK (by decide) rfl (v := (inS (h 66) ((h 62) 3) c1 p1).2.1) (rd_ ((sOf_ne _ _ (by decide)).trans ((sOf_ne _ _ (by decide)).trans (sOf_eq _ _ _))) ((fup_ne _ _ (by decide)).trans (fup_eq _ _ _))) dX6_tellBit_182 ?_
                refine TT_iconst hK dX6_tellBit_185 ?_
                refine TT_isub hK dX6_tellBit_186 ?_
                refine pf_X6_56 hK (by decide) rfl dX6_tellBit_187 ?_
                refine TT_hp (h' := setO (setO (setO h 62 (fup (fup (fup (fup (h 62) 4 ((inS (h 66) ((h 62) 3) c1 p1).2.2)) 5 (2 * a1)) 6 (((inS (h 66) ((h 62) 3) c1 p1).2.1) - 1)) 7 (min (2 * ((inS (h 66) ((h 62) 3) c1 p1).1)) 1099511627776))) 64 s1) 65 l1) (up_can ((sOf_ne _ _ (by decide)).trans ((sOf_ne _ _ (by decide)).trans (sOf_eq _ _ _))) ((fup_comm _ _ _ (by decide)).trans (fup_cg (fup_same _ _ _ _))) ((setO_comm _ _ _ (by decide)).trans (setO_cg ((setO_comm _ _ _ (by decide)).trans (setO_cg (setO_same _ _ _ _) rfl)) rfl))) ?_
                refine TT_iinc hK (v := k + 1) (lv' := [(6, vI (k + 1)), (0, vR 62), (1, vI x), (5, vI b9)]) 3 rfl rfl (by decide) rfl dX6_tellBit_190 ?_
                refine TT_goto hK (tgt := 127) dX6_tellBit_193 (by decide) ?_
                refine TT_sub [1, 2, 3, 0] rfl ?_
                exact ih17 (k + 1) (2 * a1) (min (2 * ((inS (h 66) ((h 62) 3) c1 p1).1)) 1099511627776) (((inS (h 66) ((h 62) 3) c1 p1).2.1) - 1) ((inS (h 66) ((h 62) 3) c1 p1).2.2) s1 l1 b9 R9 (by first | omega | (simp [up, setR] <;> omega)) (by first | omega | (simp [up, setR] <;> omega)) (by have h1 : (15 - k).toNat = (15 - (k + 1)).toNat + 1 := (by omega); rw [h1] at hM; first | exact RJ_next hM (by omega) (by omega) rfl | exact RJ_in hsrc hM (by omega) (by omega) rfl) (by omega) (by exact hR) (by first | omega | (simp [up, setR] <;> omega))
      refine TT_sub [4, 5, 1, 0] rfl ?_
      refine TT_hp (h' := setO (setO (setO h 62 (fup (fup (fup (fup (h 62) 4 ((h 62) 4)) 5 (qS ((h 64) x))) 6 ((h 62) 6)) 7 ((h 62) 7))) 64 (lrS (h 64) x (((h 65) x) ≠ (h 65) x))) 65 (lrL (h 64) (h 65) x (((h 65) x) ≠ (h 65) x))) (setO_cg (setO_cg (setO_cg rfl (by first | exact fup_4567 _ _ _ | exact fup_4567b _ _)) (by first | rfl | exact fsr_0 _ _ _)) (by first | rfl | exact fsr_0 _ _ _)) ?_
      exact L127_17 ((((15 : Int) - 0).toNat) + 1) 0 (qS ((h 64) x)) ((h 62) 7) ((h 62) 6) ((h 62) 4) (lrS (h 64) x (((h 65) x) ≠ (h 65) x)) (lrL (h 64) (h 65) x (((h 65) x) ≠ (h 65) x)) ((h 65) x) (rmS fxC (h 66) (h 62 3) 15 (qS ((h 64) x)) ((h 62) 7) ((h 62) 6) ((h 62) 4)) (by first | omega | (simp [up, setR] <;> omega)) (by first | omega | (simp [up, setR] <;> omega)) (by exact RJ_0 (RQ_rd (x := x) (st := h 64) (P := lwC (h 62 7) < qS (h 64 x)) hq ha hs (by unfold lwC; first | exact (if_pos (by omega)).symm | exact (if_neg (by omega)).symm))) (by omega) (by refine rdS_m (by unfold lwC; omega) (by unfold lwC; first | exact (if_pos (by omega)).symm | exact (if_neg (by omega)).symm) (by unfold lwC; first | exact (if_pos (by omega)).symm | exact (if_neg (by omega)).symm) (by unfold lwC; omega) (by first | exact (if_pos (by omega)).symm | exact (if_neg (by omega)).symm)) (Nat.lt_succ_self _)

set_option maxRecDepth 20000 in
theorem s_takeFrom5_k (s t : Int) (h : Hp_) (hT : TY h) (hs : -2147483648 ≤ s ∧ s ≤ 2147483647) (ht : -2147483648 ≤ t ∧ t ≤ 2147483647) : Ctr yX1_takeFrom cX1_takeFrom 3 none (rmd 0) ly ly 0 0 [vR 5, vI s, vI t] h (fun r h' => (TY h' ∧ FR [5] h h') ∧ r = none ∧ ((h' 5 1) = (h 5 1))) := by
  refine Ctr_of (by decide) (Nat.le_of_ble_eq_true rfl) ⟨Nat.le_refl _, Nat.le_refl _⟩ (fun K hK hQ _ => ?_)
  show TT K ly 0 0 0 [(0, vR 5), (1, vI s), (2, vI t)] [] h
  have hF : FR [5] h h := FR_rf _ _
  refine TT_aload_n hK rfl 0 rfl dX1_takeFrom_0 ?_
  refine TT_bipush hK (by decide) dX1_takeFrom_1 ?_
  refine TT_iload_n hK rfl 1 rfl dX1_takeFrom_3 ?_
  refine TT_w32 (fun x4_1 hx1 => ?_)
  refine TT_imul hK dX1_takeFrom_4 ?_
  refine TT_w32 (fun x5_2 hx2 => ?_)
  refine pf_X1_38 hK (by decide) rfl dX1_takeFrom_5 ?_
  refine TT_hp (h' := setO h 5 (fup (h 5) 3 x5_2)) (up_can rfl rfl rfl) ?_
  have hT_3 : TY (setO h 5 (fup (h 5) 3 x5_2)) := tu_5_3 hT (show up h 5 3 x5_2 = (setO h 5 (fup (h 5) 3 x5_2)) from up_can rfl rfl rfl) (by omega)
  have hF_3 : FR [5] h (setO h 5 (fup (h 5) 3 x5_2)) := FR_up (show up h 5 3 x5_2 = (setO h 5 (fup (h 5) 3 x5_2)) from up_can rfl rfl rfl) hF (by decide)
  refine TT_aload_n hK rfl 0 rfl dX1_takeFrom_8 ?_
  refine TT_bipush hK (by decide) dX1_takeFrom_9 ?_
  refine TT_iload_n hK rfl 2 rfl dX1_takeFrom_11 ?_
  refine TT_w32 (fun x12_4 hx4 => ?_)
  refine TT_imul hK dX1_takeFrom_12 ?_
  refine TT_w32 (fun x13_5 hx5 => ?_)
  refine pf_X1_41 hK (by decide) rfl dX1_takeFrom_13 ?_
  refine TT_hp (h' := setO h 5 (fup (fup (h 5) 3 x5_2) 4 x13_5)) (up_can (sOf_eq _ _ _) rfl (setO_same _ _ _ _)) ?_
  have hT_6 : TY (setO h 5 (fup (fup (h 5) 3 x5_2) 4 x13_5)) := tu_5_4 hT_3 (show up (setO h 5 (fup (h 5) 3 x5_2)) 5 4 x13_5 = (setO h 5 (fup (fup (h 5) 3 x5_2) 4 x13_5)) from up_can (sOf_eq _ _ _) rfl (setO_same _ _ _ _)) (by omega)
  have hF_6 : FR [5] h (setO h 5 (fup (fup (h 5) 3 x5_2) 4 x13_5)) := FR_up (show up (setO h 5 (fup (h 5) 3 x5_2)) 5 4 x13_5 = (setO h 5 (fup (fup (h 5) 3 x5_2) 4 x13_5)) from up_can (sOf_eq _ _ _) rfl (setO_same _ _ _ _)) hF_3 (by decide)
  refine TT_vret hK hQ ?_ dX1_takeFrom_16
  have e7_5_1 : (setO h 5 (fup (fup (h 5) 3 x5_2) 4 x13_5)) 5 1 = (h 5) 1 := rd_ (sOf_eq _ _ _) ((fup_ne _ _ (by decide)).trans (fup_ne _ _ (by decide)))
  exact ⟨⟨hT_6, hF_6⟩, rfl, (by rewrite [e7_5_1]; omega)⟩
set_option maxRecDepth 20000 in
theorem s_takeBits5_k (n : Int) (h : Hp_) (hT : TY h) (hn : -2147483648 ≤ n ∧ n ≤ 2147483647) : Ctr yX1_takeBits cX1_takeBits 5 (some .int) (rmd 1) ly ly 0 0 [vR 5, vI n] h (fun r h' => (TY h' ∧ FR [5] h h') ∧ ∃ z : Int, r = some (vI z) ∧ (-1 ≤ z ∧ z ≤ 1048576) ∧ ((h' 5 1) = (h 5 1))) := by
  refine Ctr_of (by decide) (Nat.le_of_ble_eq_true rfl) ⟨Nat.le_refl _, Nat.le_refl _⟩ (fun K hK hQ _ => ?_)
  show TT K ly 0 0 0 [(0, vR 5), (1, vI n)] [] h
  have hF : FR [5] h h := FR_rf _ _
  refine TT_iload_n hK rfl 1 rfl dX1_takeBits_0 ?_
  refine TT_aload_n hK rfl 0 rfl dX1_takeBits_1 ?_
  refine gf_X1_41 hK (by decide) rfl (v := (h 5) 4) rfl dX1_takeBits_2 ?_
  have r1 := ty_5_4 (v := (h 5) 4) hT rfl
  refine TT_aload_n hK rfl 0 rfl dX1_takeBits_5 ?_
  refine gf_X1_38 hK (by decide) rfl (v := (h 5) 3) rfl dX1_takeBits_6 ?_
  have r2 := ty_5_3 (v := (h 5) 3) hT rfl
  refine TT_isub hK dX1_takeBits_9 ?_
  refine TT_w32 (fun x10_3 hx3 => ?_)
  refine TT_icmp_le hK (tgt := 15) (irm (by omega) (by omega)) (irm (by omega) (by omega)) dX1_takeBits_10 (by decide) (fun hb10_4 => ?_) (fun hb10_4 => ?_)
  · refine TT_iconst hK dX1_takeBits_15 ?_
    refine TT_istore_n hK rfl (lv' := [(2, vI 0), (0, vR 5), (1, vI n)]) (by decide) rfl dX1_takeBits_16 ?_
    refine TT_iconst hK dX1_takeBits_17 ?_
    refine TT_istore_n hK rfl (lv' := [(3, vI 0), (2, vI 0), (0, vR 5), (1, vI n)]) (by decide) rfl dX1_takeBits_18 ?_
    have L19_5 : ∀ (k5 : Nat) (v : Int) (k : Int) (w19_5 : Hp_), TY w19_5 → FR [5] h w19_5 → (0 ≤ v ∧ v ≤ 1048576) → (0 ≤ k ∧ (k ≤ n ∨ k = 0)) → ((w19_5 5 1) = h 5 1) → (n - k).toNat < k5 → TT K ly 0 0 19 [(0, vR 5), (1, vI n), (2, vI v), (3, vI k)] [] w19_5 := by
      intro k5
      induction k5 with
      | zero => intro v k w19_5 hT19_5 hF19_5 hv hk k51i hk5; exact absurd hk5 (Nat.not_lt_zero _)
      | succ k5 ih5 =>
        intro v k w19_5 hT19_5 hF19_5 hv hk k51i hk5
        refine TT_iload_n hK rfl 3 rfl dX1_takeBits_19 ?_
        refine TT_iload_n hK rfl 1 rfl dX1_takeBits_20 ?_
        refine TT_icmp_ge hK (tgt := 77) (irm (by omega) (by omega)) (irm (by omega) (by omega)) dX1_takeBits_21 (by decide) (fun hb21_6 => ?_) (fun hb21_6 => ?_)
        · refine TT_iload_n hK rfl 2 rfl dX1_takeBits_77 ?_
          refine TT_iret hK hQ ?_ dX1_takeBits_78
          have e7_5_1 : w19_5 5 1 = (w19_5 5) 1 := rfl
          exact ⟨⟨hT19_5, hF19_5⟩, v, rfl, (by omega), (by rewrite [e7_5_1]; omega)⟩
        · refine TT_aload_n hK rfl 0 rfl dX1_takeBits_24 ?_
          refine TT_aload_n hK rfl 0 rfl dX1_takeBits_25 ?_
          refine gf_X1_38 hK (by decide) rfl (v := (w19_5 5) 3) rfl dX1_takeBits_26 ?_
          have r8 := ty_5_3 (v := (w19_5 5) 3) hT19_5 rfl
          refine TT_iconst hK dX1_takeBits_29 ?_
          refine TT_ishr hK (irm (by omega) (by omega)) (by omega) (by omega) dX1_takeBits_30 ?_
          refine TT_cgI (b := ((w19_5 5) 3) / 8) rfl ?_
          refine iv_X1_26 hK (s_X1_at_5 (((w19_5 5) 3) / 8) w19_5 hT19_5 (by first | omega | (simp [up, setR] <;> omega))) (by decide) rfl ⟨by decide, by decide⟩ (by decide) rfl rfl (Nat.le_of_ble_eq_true rfl) ⟨by decide, by decide⟩ dX1_takeBits_31 ?_
          intro r9 g31_9 hp9
          obtain ⟨⟨hT_9, hG_9⟩, z31_9, hr9, hz_9, p1_9⟩ := hp9
          rw [hr9]
          have hF_9 : FR [5] h g31_9 := FR_tr hF19_5 hG_9 (by decide)
          rw [show w19_5 5 1 = (w19_5 5) 1 from rfl] at p1_9
          rw [show w19_5 6 = h 6 from (hF19_5 6 (by decide))] at p1_9
          show TT K ly 0 0 34 [(0, vR 5), (1, vI n), (2, vI v), (3, vI k)] [vI z31_9] g31_9
          refine TT_bipush hK (by decide) dX1_takeBits_34 ?_
          refine TT_aload_n hK rfl 0 rfl dX1_takeBits_36 ?_
          refine gf_X1_38 hK (by decide) rfl (v := (w19_5 5) 3) (rd_ (hG_9 5 (by decide)) rfl) dX1_takeBits_37 ?_
          refine TT_bipush hK (by decide) dX1_takeBits_40 ?_
          refine TT_iand hK dX1_takeBits_42 ?_
          refine TT_cgI (iand_m ((w19_5 5) 3) 3 (by decide)) ?_
          show TT K ly 0 0 43 [(0, vR 5), (1, vI n), (2, vI v), (3, vI k)] (vI (((w19_5 5) 3) % 8) :: [vI 7, vI z31_9]) g31_9
          refine TT_isub hK dX1_takeBits_43 ?_
          refine TT_ishr hK (irm (by omega) (by omega)) (by omega) (by omega) dX1_takeBits_44 ?_
          refine TT_iconst hK dX1_takeBits_45 ?_
          refine TT_iand hK dX1_takeBits_46 ?_
          refine TT_cgI (iand_m (z31_9 / 2 ^ (7 - (((w19_5 5) 3) % 8)).toNat) 1 (by decide)) ?_
          show TT K ly 0 0 47 [(0, vR 5), (1, vI n), (2, vI v), (3, vI k)] (vI ((z31_9 / 2 ^ (7 - (((w19_5 5) 3) % 8)).toNat) % 2) :: []) g31_9
          refine TT_istore hK (lv' := [(4, vI ((z31_9 / 2 ^ (7 - (((w19_5 5) 3) % 8)).toNat) % 2)), (0, vR 5), (1, vI n), (2, vI v), (3, vI k)]) (by decide) rfl dX1_takeBits_47 ?_
          refine TT_iconst hK dX1_takeBits_49 ?_
          refine TT_iload_n hK rfl 3 rfl dX1_takeBits_50 ?_
          refine TT_imul hK dX1_takeBits_51 ?_
          refine TT_iload hK 0 rfl dX1_takeBits_52 ?_
          refine TT_iadd hK dX1_takeBits_54 ?_
          refine TT_ldc hK lc_X1_44 dX1_takeBits_55 ?_
          refine TT_mmin hK (irm (by omega) (by omega)) (by decide) iw_X1_45 (by decide) (Nat.le_of_ble_eq_true rfl) ⟨by decide, by decide⟩ dX1_takeBits_57 ?_
          refine TT_istore_n hK rfl (lv' := [(2, vI (min ((2 * v) + ((z31_9 / 2 ^ (7 - (((w19_5 5) 3) % 8)).toNat) % 2)) 1048576)), (4, vI ((z31_9 / 2 ^ (7 - (((w19_5 5) 3) % 8)).toNat) % 2)), (0, vR 5), (1, vI n), (3, vI k)]) (by decide) rfl dX1_takeBits_60 ?_
          refine TT_aload_n hK rfl 2 rfl dX1_takeBits_61 ?_
          refine TT_dup hK rfl dX1_takeBits_62 ?_
          refine gf_X1_38 hK (by decide) rfl (v := (w19_5 5) 3) (rd_ (hG_9 5 (by decide)) rfl) dX1_takeBits_63 ?_
          refine TT_iconst hK dX1_takeBits_66 ?_
          refine TT_iadd hK dX1_takeBits_67 ?_
          refine TT_w32 (fun x68_10 hx10 => ?_)
          refine pf_X1_38 hK (by decide) rfl dX1_takeBits_68 ?_
          refine TT_hp (h' := setO g31_9 5 (fup (w19_5 5) 3 x68_10)) (up_can (hG_9 5 (by decide)) rfl rfl) ?_
          have hT_11 : TY (setO g31_9 5 (fup (w19_5 5) 3 x68_10)) := tu_5_3 hT_9 (show up g31_9 5 3 x68_10 = (setO g31_9 5 (fup (w19_5 5) 3 x68_10)) from up_can (hG_9 5 (by decide)) rfl rfl) (by omega)
          have hF_11 : FR [5] h (setO g31_9 5 (fup (w19_5 5) 3 x68_10)) := FR_up (show up g31_9 5 3 x68_10 = (setO g31_9 5 (fup (w19_5 5) 3 x68_10)) from up_can (hG_9 5 (by decide)) rfl rfl) hF_9 (by decide)
          refine TT_iinc hK (v := k + 1) (lv' := [(3, vI (k + 1)), (2, vI (min ((2 * v) + ((z31_9 / 2 ^ (7 - (((w19_5 5) 3) % 8)).toNat) % 2)) 1048576)), (4, vI ((z31_9 / 2 ^ (7 - (((w19_5 5) 3) % 8)).toNat) % 2)), (0, vR 5), (1, vI n)]) 4 rfl rfl (by decide) rfl dX1_takeBits_71 ?_
          refine TT_goto hK (tgt := 19) dX1_takeBits_74 (by decide) ?_
          refine TT_sub [3, 4, 1, 0] rfl ?_
          have e12_5_1 : (setO g31_9 5 (fup (w19_5 5) 3 x68_10)) 5 1 = (w19_5 5) 1 := rd_ (sOf_eq _ _ _) (fup_ne _ _ (by decide))
          exact ih5 (min ((2 * v) + ((z31_9 / 2 ^ (7 - (((w19_5 5) 3) % 8)).toNat) % 2)) 1048576) (k + 1) (setO g31_9 5 (fup (w19_5 5) 3 x68_10)) hT_11 hF_11 (by first | omega | (simp [up, setR] <;> omega)) (by first | omega | (simp [up, setR] <;> omega)) (by rewrite [e12_5_1]; first | omega | (simp [up, setR] <;> omega)) (by first | omega | (simp [up, setR] <;> omega))
    refine TT_sub [2, 3, 1, 0] rfl ?_
    have e13_5_1 : h 5 1 = (h 5) 1 := rfl
    exact L19_5 (((n - 0).toNat) + 1) 0 0 h hT hF (by first | omega | (simp [up, setR] <;> omega)) (by first | omega | (simp [up, setR] <;> omega)) (by rewrite [e13_5_1]; first | omega | (simp [up, setR] <;> omega)) (Nat.lt_succ_self _)
  · refine TT_iconst hK dX1_takeBits_13 ?_
    refine TT_iret hK hQ ?_ dX1_takeBits_14
    have e14_5_1 : h 5 1 = (h 5) 1 := rfl
    exact ⟨⟨hT, hF⟩, (-1), rfl, (by omega), (by rewrite [e14_5_1]; omega)⟩
set_option maxRecDepth 20000 in
theorem s_readCount5_k (h : Hp_) (hT : TY h)  : Ctr yX10_readCount cX10_readCount 4 (some .int) (rmd 2) ly ly 0 0 [vR 5] h (fun r h' => (TY h' ∧ FR [5] h h') ∧ ∃ z : Int, r = some (vI z) ∧ (-1 ≤ z ∧ z ≤ 1048582) ∧ ((h' 5 1) = (h 5 1))) := by
  refine Ctr_of (by decide) (Nat.le_of_ble_eq_true rfl) ⟨Nat.le_refl _, Nat.le_refl _⟩ (fun K hK hQ _ => ?_)
  show TT K ly 0 0 0 [(0, vR 5)] [] h
  have hF : FR [5] h h := FR_rf _ _
  refine TT_aload_n hK rfl 0 rfl dX10_readCount_0 ?_
  refine TT_iconst hK dX10_readCount_1 ?_
  refine iv_X10_118 hK (s_takeBits5_k 1 h hT (by first | omega | (simp [up, setR] <;> omega))) (by decide) rfl ⟨by decide, by decide⟩ (by decide) rfl rfl (Nat.le_of_ble_eq_true rfl) ⟨by decide, by decide⟩ dX10_readCount_2 ?_
  intro r9 g2_1 hp9
  obtain ⟨⟨hT_1, hG_1⟩, z2_1, hr9, hz_1, k51_1⟩ := hp9
  rw [hr9]
  have hF_1 : FR [5] h g2_1 := FR_tr hF hG_1 (by decide)
  rw [show h 5 1 = (h 5) 1 from rfl] at k51_1
  show TT K ly 0 0 5 [(0, vR 5)] [vI z2_1] g2_1
  refine TT_istore_n hK rfl (lv' := [(1, vI z2_1), (0, vR 5)]) (by decide) rfl dX10_readCount_5 ?_
  refine TT_iload_n hK rfl 0 rfl dX10_readCount_6 ?_
  refine TT_iconst hK dX10_readCount_7 ?_
  refine TT_icmp_eq hK (tgt := 21) (irm (by omega) (by omega)) (by decide) dX10_readCount_8 (by decide) (fun hb8_2 => ?_) (fun hb8_2 => ?_)
  · refine TT_aload_n hK rfl 1 rfl dX10_readCount_21 ?_
    refine TT_iconst hK dX10_readCount_22 ?_
    refine iv_X10_118 hK (s_takeBits5_k 1 g2_1 hT_1 (by first | omega | (simp [up, setR] <;> omega))) (by decide) rfl ⟨by decide, by decide⟩ (by decide) rfl rfl (Nat.le_of_ble_eq_true rfl) ⟨by decide, by decide⟩ dX10_readCount_23 ?_
    intro r9 g23_3 hp9
    obtain ⟨⟨hT_3, hG_3⟩, z23_3, hr9, hz_3, k51_3⟩ := hp9
    rw [hr9]
    have hF_3 : FR [5] h g23_3 := FR_tr hF_1 hG_3 (by decide)
    rw [show g2_1 5 1 = (g2_1 5) 1 from rfl] at k51_3
    show TT K ly 0 0 26 [(1, vI z2_1), (0, vR 5)] [vI z23_3] g23_3
    refine TT_istore_n hK rfl (lv' := [(1, vI z23_3), (0, vR 5)]) (by decide) rfl dX10_readCount_26 ?_
    refine TT_iload_n hK rfl 0 rfl dX10_readCount_27 ?_
    refine TT_iconst hK dX10_readCount_28 ?_
    refine TT_icmp_eq hK (tgt := 42) (irm (by omega) (by omega)) (by decide) dX10_readCount_29 (by decide) (fun hb29_4 => ?_) (fun hb29_4 => ?_)
    · refine TT_aload_n hK rfl 1 rfl dX10_readCount_42 ?_
      refine TT_iconst hK dX10_readCount_43 ?_
      refine iv_X10_118 hK (s_takeBits5_k 2 g23_3 hT_3 (by first | omega | (simp [up, setR] <;> omega))) (by decide) rfl ⟨by decide, by decide⟩ (by decide) rfl rfl (Nat.le_of_ble_eq_true rfl) ⟨by decide, by decide⟩ dX10_readCount_44 ?_
      intro r9 g44_5 hp9
      obtain ⟨⟨hT_5, hG_5⟩, z44_5, hr9, hz_5, k51_5⟩ := hp9
      rw [hr9]
      have hF_5 : FR [5] h g44_5 := FR_tr hF_3 hG_5 (by decide)
      rw [show g23_3 5 1 = (g23_3 5) 1 from rfl] at k51_5
      show TT K ly 0 0 47 [(1, vI z23_3), (0, vR 5)] [vI z44_5] g44_5
      refine TT_istore_n hK rfl (lv' := [(2, vI z44_5), (1, vI z23_3), (0, vR 5)]) (by decide) rfl dX10_readCount_47 ?_
      refine TT_iload_n hK rfl 0 rfl dX10_readCount_48 ?_
      refine TT_iconst hK dX10_readCount_49 ?_
      refine TT_icmp_eq hK (tgt := 65) (irm (by omega) (by omega)) (by decide) dX10_readCount_50 (by decide) (fun hb50_6 => ?_) (fun hb50_6 => ?_)
      · refine TT_aload_n hK rfl 2 rfl dX10_readCount_65 ?_
        refine TT_iconst hK dX10_readCount_66 ?_
        refine iv_X10_118 hK (s_takeBits5_k 5 g44_5 hT_5 (by first | omega | (simp [up, setR] <;> omega))) (by decide) rfl ⟨by decide, by decide⟩ (by decide) rfl rfl (Nat.le_of_ble_eq_true rfl) ⟨by decide, by decide⟩ dX10_readCount_67 ?_
        intro r9 g67_7 hp9
        obtain ⟨⟨hT_7, hG_7⟩, z67_7, hr9, hz_7, k51_7⟩ := hp9
        rw [hr9]
        have hF_7 : FR [5] h g67_7 := FR_tr hF_5 hG_7 (by decide)
        rw [show g44_5 5 1 = (g44_5 5) 1 from rfl] at k51_7
        show TT K ly 0 0 70 [(2, vI z44_5), (1, vI z23_3), (0, vR 5)] [vI z67_7] g67_7
        refine TT_istore_n hK rfl (lv' := [(3, vI z67_7), (2, vI z44_5), (1, vI z23_3), (0, vR 5)]) (by decide) rfl dX10_readCount_70 ?_
        refine TT_iload_n hK rfl 0 rfl dX10_readCount_71 ?_
        refine TT_if_ge hK (tgt := 79) (irm (by omega) (by omega)) dX10_readCount_72 (by decide) (fun hb72_8 => ?_) (fun hb72_8 => ?_)
        · refine TT_bipush hK (by decide) dX10_readCount_79 ?_
          refine TT_iload_n hK rfl 0 rfl dX10_readCount_81 ?_
          refine TT_iadd hK dX10_readCount_82 ?_
          refine TT_iret hK hQ ?_ dX10_readCount_83
          have e9_5_1 : g67_7 5 1 = (g67_7 5) 1 := rfl
          exact ⟨⟨hT_7, hF_7⟩, (6 + z67_7), rfl, (by omega), (by rewrite [e9_5_1]; omega)⟩
        · refine TT_iload_n hK rfl 0 rfl dX10_readCount_75 ?_
          refine TT_goto hK (tgt := 83) dX10_readCount_76 (by decide) ?_
          refine TT_iret hK hQ ?_ dX10_readCount_83
          have e10_5_1 : g67_7 5 1 = (g67_7 5) 1 := rfl
          exact ⟨⟨hT_7, hF_7⟩, z67_7, rfl, (by omega), (by rewrite [e10_5_1]; omega)⟩
      · refine TT_iload_n hK rfl 0 rfl dX10_readCount_53 ?_
        refine TT_if_ge hK (tgt := 61) (irm (by omega) (by omega)) dX10_readCount_54 (by decide) (fun hb54_11 => ?_) (fun hb54_11 => ?_)
        · refine TT_iconst hK dX10_readCount_61 ?_
          refine TT_iload_n hK rfl 0 rfl dX10_readCount_62 ?_
          refine TT_iadd hK dX10_readCount_63 ?_
          refine TT_iret hK hQ ?_ dX10_readCount_64
          have e12_5_1 : g44_5 5 1 = (g44_5 5) 1 := rfl
          exact ⟨⟨hT_5, hF_5⟩, (3 + z44_5), rfl, (by omega), (by rewrite [e12_5_1]; omega)⟩
        · refine TT_iload_n hK rfl 0 rfl dX10_readCount_57 ?_
          refine TT_goto hK (tgt := 64) dX10_readCount_58 (by decide) ?_
          refine TT_iret hK hQ ?_ dX10_readCount_64
          have e13_5_1 : g44_5 5 1 = (g44_5 5) 1 := rfl
          exact ⟨⟨hT_5, hF_5⟩, z44_5, rfl, (by omega), (by rewrite [e13_5_1]; omega)⟩
    · refine TT_iload_n hK rfl 0 rfl dX10_readCount_32 ?_
      refine TT_if_ne hK (tgt := 40) (irm (by omega) (by omega)) dX10_readCount_33 (by decide) (fun hb33_14 => ?_) (fun hb33_14 => ?_)
      · refine TT_iload_n hK rfl 0 rfl dX10_readCount_40 ?_
        refine TT_iret hK hQ ?_ dX10_readCount_41
        have e15_5_1 : g23_3 5 1 = (g23_3 5) 1 := rfl
        exact ⟨⟨hT_3, hF_3⟩, z23_3, rfl, (by omega), (by rewrite [e15_5_1]; omega)⟩
      · refine TT_iconst hK dX10_readCount_36 ?_
        refine TT_goto hK (tgt := 41) dX10_readCount_37 (by decide) ?_
        refine TT_iret hK hQ ?_ dX10_readCount_41
        have e16_5_1 : g23_3 5 1 = (g23_3 5) 1 := rfl
        exact ⟨⟨hT_3, hF_3⟩, 2, rfl, (by omega), (by rewrite [e16_5_1]; omega)⟩
  · refine TT_iload_n hK rfl 0 rfl dX10_readCount_11 ?_
    refine TT_if_ne hK (tgt := 19) (irm (by omega) (by omega)) dX10_readCount_12 (by decide) (fun hb12_17 => ?_) (fun hb12_17 => ?_)
    · refine TT_iload_n hK rfl 0 rfl dX10_readCount_19 ?_
      refine TT_iret hK hQ ?_ dX10_readCount_20
      have e18_5_1 : g2_1 5 1 = (g2_1 5) 1 := rfl
      exact ⟨⟨hT_1, hF_1⟩, z2_1, rfl, (by omega), (by rewrite [e18_5_1]; omega)⟩
    · refine TT_iconst hK dX10_readCount_15 ?_
      refine TT_goto hK (tgt := 20) dX10_readCount_16 (by decide) ?_
      refine TT_iret hK hQ ?_ dX10_readCount_20
      have e19_5_1 : g2_1 5 1 = (g2_1 5) 1 := rfl
      exact ⟨⟨hT_1, hF_1⟩, 1, rfl, (by omega), (by rewrite [e19_5_1]; omega)⟩
set_option maxRecDepth 20000 in
theorem s_growWidth_k (b : Int) (h : Hp_) (hT : TY h) (hb : 0 ≤ b ∧ b ≤ 9) : Ctr yX10_growWidth cX10_growWidth 4 none (rmd 2) ly ly 0 0 [vR 44, vR 5, vI b] h (fun r h' => (TY h' ∧ FR [5, 55] h h') ∧ r = none ∧ ((h' 5 1) = (h 5 1))) := by
  refine Ctr_of (by decide) (Nat.le_of_ble_eq_true rfl) ⟨Nat.le_refl _, Nat.le_refl _⟩ (fun K hK hQ _ => ?_)
  show TT K ly 0 0 0 [(0, vR 44), (1, vR 5), (2, vI b)] [] h
  have hF : FR [5, 55] h h := FR_rf _ _
  refine TT_iconst hK dX10_growWidth_0 ?_
  refine TT_istore_n hK rfl (lv' := [(3, vI 0), (0, vR 44), (1, vR 5), (2, vI b)]) (by decide) rfl dX10_growWidth_1 ?_
  have L2_1 : ∀ (k1 : Nat) (i : Int) (w2_1 : Hp_), TY w2_1 → FR [5, 55] h w2_1 → (0 ≤ i ∧ i ≤ 8192) → ((w2_1 5 1) = h 5 1) → ((8192 : Int) - i).toNat < k1 → TT K ly 0 0 2 [(0, vR 44), (1, vR 5), (2, vI b), (3, vI i)] [] w2_1 := by
    intro k1
    induction k1 with
    | zero => intro i w2_1 hT2_1 hF2_1 hi k51i hk1; exact absurd hk1 (Nat.not_lt_zero _)
    | succ k1 ih1 =>
      intro i w2_1 hT2_1 hF2_1 hi k51i hk1
      refine TT_iload_n hK rfl 3 rfl dX10_growWidth_2 ?_
      refine TT_sipush hK (by decide) dX10_growWidth_3 ?_
      refine TT_icmp_ge hK (tgt := 34) (irm (by omega) (by omega)) (by decide) dX10_growWidth_6 (by decide) (fun hb6_2 => ?_) (fun hb6_2 => ?_)
      · refine TT_vret hK hQ ?_ dX10_growWidth_34
        have e3_5_1 : w2_1 5 1 = (w2_1 5) 1 := rfl
        exact ⟨⟨hT2_1, hF2_1⟩, rfl, (by rewrite [e3_5_1]; omega)⟩
      · refine TT_aload_n hK rfl 1 rfl dX10_growWidth_9 ?_
        refine TT_iconst hK dX10_growWidth_10 ?_
        refine iv_X10_118 hK (s_takeBits5_k 1 w2_1 hT2_1 (by first | omega | (simp [up, setR] <;> omega))) (by decide) rfl ⟨by decide, by decide⟩ (by decide) rfl rfl (Nat.le_of_ble_eq_true rfl) ⟨by decide, by decide⟩ dX10_growWidth_11 ?_
        intro r9 g11_4 hp9
        obtain ⟨⟨hT_4, hG_4⟩, z11_4, hr9, hz_4, k51_4⟩ := hp9
        rw [hr9]
        have hF_4 : FR [5, 55] h g11_4 := FR_tr hF2_1 hG_4 (by decide)
        rw [show w2_1 5 1 = (w2_1 5) 1 from rfl] at k51_4
        show TT K ly 0 0 14 [(0, vR 44), (1, vR 5), (2, vI b), (3, vI i)] [vI z11_4] g11_4
        refine TT_iconst hK dX10_growWidth_14 ?_
        refine TT_icmp_ne hK (tgt := 34) (irm (by omega) (by omega)) (by decide) dX10_growWidth_15 (by decide) (fun hb15_5 => ?_) (fun hb15_5 => ?_)
        · refine TT_vret hK hQ ?_ dX10_growWidth_34
          have e6_5_1 : g11_4 5 1 = (g11_4 5) 1 := rfl
          exact ⟨⟨hT_4, hF_4⟩, rfl, (by rewrite [e6_5_1]; omega)⟩
        · refine TT_aload_n hK rfl 0 rfl dX10_growWidth_18 ?_
          refine gf_X10_25 hK (by decide) rfl (q := 55) rfl rfl dX10_growWidth_19 ?_
          refine TT_iload_n hK rfl 2 rfl dX10_growWidth_22 ?_
          refine TT_dup2 hK rfl rfl dX10_growWidth_23 ?_
          refine TT_iald hK (o := 55) (n := 10) (by decide) rfl (by first | omega | (simp [up, setR] <;> omega)) (by first | omega | (simp [up, setR] <;> omega)) (v := (w2_1 55) b) (rd_ (hG_4 55 (by decide)) rfl) dX10_growWidth_24 ?_
          have r7 := ty_55 (i := b) (v := (w2_1 55) b) hT_4 (rd_ (hG_4 55 (by decide)) rfl) (by omega) (by omega)
          refine TT_iconst hK dX10_growWidth_25 ?_
          refine TT_iadd hK dX10_growWidth_26 ?_
          refine TT_w32 (fun x27_8 hx8 => ?_)
          refine TT_iast hK (o := 55) (n := 10) (by decide) rfl (by omega) (by omega) dX10_growWidth_27 ?_
          refine TT_hp (h' := setO g11_4 55 (fup (w2_1 55) b x27_8)) (up_can (hG_4 55 (by decide)) rfl rfl) ?_
          have hT_9 : TY (setO g11_4 55 (fup (w2_1 55) b x27_8)) := tu_55 hT_4 (show up g11_4 55 b x27_8 = (setO g11_4 55 (fup (w2_1 55) b x27_8)) from up_can (hG_4 55 (by decide)) rfl rfl) (by omega)
          have hF_9 : FR [5, 55] h (setO g11_4 55 (fup (w2_1 55) b x27_8)) := FR_up (show up g11_4 55 b x27_8 = (setO g11_4 55 (fup (w2_1 55) b x27_8)) from up_can (hG_4 55 (by decide)) rfl rfl) hF_4 (by decide)
          refine TT_iinc hK (v := i + 1) (lv' := [(3, vI (i + 1)), (0, vR 44), (1, vR 5), (2, vI b)]) 3 rfl rfl (by decide) rfl dX10_growWidth_28 ?_
          refine TT_goto hK (tgt := 2) dX10_growWidth_31 (by decide) ?_
          refine TT_sub [1, 2, 3, 0] rfl ?_
          have e10_5_1 : (setO g11_4 55 (fup (w2_1 55) b x27_8)) 5 1 = (g11_4 5) 1 := rd_ (sOf_ne _ _ (by decide)) rfl
          exact ih1 (i + 1) (setO g11_4 55 (fup (w2_1 55) b x27_8)) hT_9 hF_9 (by first | omega | (simp [up, setR] <;> omega)) (by rewrite [e10_5_1]; first | omega | (simp [up, setR] <;> omega)) (by first | omega | (simp [up, setR] <;> omega))
  refine TT_sub [1, 2, 3, 0] rfl ?_
  have e11_5_1 : h 5 1 = (h 5) 1 := rfl
  exact L2_1 ((((8192 : Int) - 0).toNat) + 1) 0 h hT hF (by first | omega | (simp [up, setR] <;> omega)) (by rewrite [e11_5_1]; first | omega | (simp [up, setR] <;> omega)) (Nat.lt_succ_self _)
set_option maxRecDepth 20000 in
theorem s_readBandHead_k (b : Int) (h : Hp_) (hT : TY h) (hb : 0 ≤ b ∧ b ≤ 9) : Ctr yX10_readBandHead cX10_readBandHead 6 (some .int) (rmd 3) ly ly 0 0 [vR 44, vR 5, vI b] h (fun r h' => (TY h' ∧ FR [5, 53, 55, 56, 57] h h') ∧ ∃ z : Int, r = some (vI z) ∧ (-1 ≤ z ∧ z ≤ 1) ∧ ((h' 5 1) = (h 5 1))) := by
  refine Ctr_of (by decide) (Nat.le_of_ble_eq_true rfl) ⟨Nat.le_refl _, Nat.le_refl _⟩ (fun K hK hQ _ => ?_)
  show TT K ly 0 0 0 [(0, vR 44), (1, vR 5), (2, vI b)] [] h
  have hF : FR [5, 53, 55, 56, 57] h h := FR_rf _ _
  refine TT_aload_n hK rfl 1 rfl dX10_readBandHead_0 ?_
  refine TT_iconst hK dX10_readBandHead_1 ?_
  refine iv_X10_118 hK (s_takeBits5_k 1 h hT (by first | omega | (simp [up, setR] <;> omega))) (by decide) rfl ⟨by decide, by decide⟩ (by decide) rfl rfl (Nat.le_of_ble_eq_true rfl) ⟨by decide, by decide⟩ dX10_readBandHead_2 ?_
  intro r9 g2_1 hp9
  obtain ⟨⟨hT_1, hG_1⟩, z2_1, hr9, hz_1, k51_1⟩ := hp9
  rw [hr9]
  have hF_1 : FR [5, 53, 55, 56, 57] h g2_1 := FR_tr hF hG_1 (by decide)
  rw [show h 5 1 = (h 5) 1 from rfl] at k51_1
  show TT K ly 0 0 5 [(0, vR 44), (1, vR 5), (2, vI b)] [vI z2_1] g2_1
  refine TT_istore_n hK rfl (lv' := [(3, vI z2_1), (0, vR 44), (1, vR 5), (2, vI b)]) (by decide) rfl dX10_readBandHead_5 ?_
  refine TT_iload_n hK rfl 0 rfl dX10_readBandHead_6 ?_
  refine TT_iconst hK dX10_readBandHead_7 ?_
  refine TT_icmp_eq hK (tgt := 21) (irm (by omega) (by omega)) (by decide) dX10_readBandHead_8 (by decide) (fun hb8_2 => ?_) (fun hb8_2 => ?_)
  · have J66_3 : ∀ (w66_3 : Hp_), TY w66_3 → FR [5, 53, 55, 56, 57] h w66_3 → ((w66_3 5 1) = h 5 1) → TT K ly 0 0 66 [(0, vR 44), (1, vR 5), (2, vI b)] [] w66_3 := by
      intro w66_3 hT66_3 hF66_3 k51i
      refine TT_aload_n hK rfl 1 rfl dX10_readBandHead_66 ?_
      refine iv_X10_127 hK (s_readCount5_k w66_3 hT66_3 ) ⟨by decide, by decide⟩ (by decide) rfl rfl (Nat.le_of_ble_eq_true rfl) ⟨by decide, by decide⟩ dX10_readBandHead_67 ?_
      intro r9 g67_4 hp9
      obtain ⟨⟨hT_4, hG_4⟩, z67_4, hr9, hz_4, k51_4⟩ := hp9
      rw [hr9]
      have hF_4 : FR [5, 53, 55, 56, 57] h g67_4 := FR_tr hF66_3 hG_4 (by decide)
      rw [show w66_3 5 1 = (w66_3 5) 1 from rfl] at k51_4
      show TT K ly 0 0 70 [(0, vR 44), (1, vR 5), (2, vI b)] [vI z67_4] g67_4
      refine TT_istore hK (lv' := [(4, vI z67_4), (0, vR 44), (1, vR 5), (2, vI b)]) (by decide) rfl dX10_readBandHead_70 ?_
      refine TT_iload hK 0 rfl dX10_readBandHead_72 ?_
      refine TT_if_ge hK (tgt := 79) (irm (by omega) (by omega)) dX10_readBandHead_74 (by decide) (fun hb74_5 => ?_) (fun hb74_5 => ?_)
      · refine TT_aload_n hK rfl 1 rfl dX10_readBandHead_79 ?_
        refine gf_X10_22 hK (by decide) rfl (q := 54) rfl rfl dX10_readBandHead_80 ?_
        refine TT_iload_n hK rfl 3 rfl dX10_readBandHead_83 ?_
        refine TT_iald hK (o := 54) (n := 10) (by decide) rfl (by first | omega | (simp [up, setR] <;> omega)) (by first | omega | (simp [up, setR] <;> omega)) (v := (h 54) b) (rd_ (((hG_4 54 (by decide))).trans (hF66_3 54 (by decide))) rfl) dX10_readBandHead_84 ?_
        have r6 := ty_54 (i := b) (v := (h 54) b) hT_4 (rd_ (((hG_4 54 (by decide))).trans (hF66_3 54 (by decide))) rfl) (by omega) (by omega)
        refine TT_iload hK 0 rfl dX10_readBandHead_85 ?_
        refine TT_iadd hK dX10_readBandHead_87 ?_
        refine TT_w32 (fun x88_7 hx7 => ?_)
        refine TT_aload_n hK rfl 1 rfl dX10_readBandHead_88 ?_
        refine gf_X10_18 hK (by decide) rfl (q := 53) rfl rfl dX10_readBandHead_89 ?_
        refine TT_iload_n hK rfl 3 rfl dX10_readBandHead_92 ?_
        refine TT_iald hK (o := 53) (n := 10) (by decide) rfl (by first | omega | (simp [up, setR] <;> omega)) (by first | omega | (simp [up, setR] <;> omega)) (v := (w66_3 53) b) (rd_ (hG_4 53 (by decide)) rfl) dX10_readBandHead_93 ?_
        have r8 := ty_53 (i := b) (v := (w66_3 53) b) hT_4 (rd_ (hG_4 53 (by decide)) rfl) (by omega) (by omega)
        refine iv_X10_131 hK (s_X11_passesOf ((w66_3 53) b) g67_4 hT_4 (by first | omega | (simp [up, setR] <;> omega))) ⟨by decide, by decide⟩ (by decide) rfl rfl (Nat.le_of_ble_eq_true rfl) ⟨by decide, by decide⟩ dX10_readBandHead_94 ?_
        intro r9 g94_9 hp9
        obtain ⟨⟨hT_9, hG_9⟩, z94_9, hr9, hz_9⟩ := hp9
        rw [hr9]
        have hF_9 : FR [5, 53, 55, 56, 57] h g94_9 := FR_tr hF_4 hG_9 (by decide)
        show TT K ly 0 0 97 [(4, vI z67_4), (0, vR 44), (1, vR 5), (2, vI b)] [vI z94_9, vI x88_7] g94_9
        refine TT_icmp_le hK (tgt := 102) (irm (by omega) (by omega)) (irm (by omega) (by omega)) dX10_readBandHead_97 (by decide) (fun hb97_10 => ?_) (fun hb97_10 => ?_)
        · refine TT_aload_n hK rfl 1 rfl dX10_readBandHead_102 ?_
          refine TT_aload_n hK rfl 2 rfl dX10_readBandHead_103 ?_
          refine TT_iload_n hK rfl 3 rfl dX10_readBandHead_104 ?_
          refine iv_X10_134 hK (s_growWidth_k b g94_9 hT_9 (by first | omega | (simp [up, setR] <;> omega))) (by decide) rfl ⟨by decide, by decide⟩ (by decide) rfl rfl (Nat.le_of_ble_eq_true rfl) ⟨by decide, by decide⟩ dX10_readBandHead_105 ?_
          intro r9 g105_11 hp9
          obtain ⟨⟨hT_11, hG_11⟩, hr9, k51_11⟩ := hp9
          rw [hr9]
          have hF_11 : FR [5, 53, 55, 56, 57] h g105_11 := FR_tr hF_9 hG_11 (by decide)
          rw [show g94_9 5 1 = (g67_4 5) 1 from rd_ (hG_9 5 (by decide)) rfl] at k51_11
          show TT K ly 0 0 108 [(4, vI z67_4), (0, vR 44), (1, vR 5), (2, vI b)] [] g105_11
          refine TT_aload_n hK rfl 2 rfl dX10_readBandHead_108 ?_
          refine TT_aload_n hK rfl 1 rfl dX10_readBandHead_109 ?_
          refine gf_X10_25 hK (by decide) rfl (q := 55) rfl rfl dX10_readBandHead_110 ?_
          refine TT_iload_n hK rfl 3 rfl dX10_readBandHead_113 ?_
          refine TT_iald hK (o := 55) (n := 10) (by decide) rfl (by first | omega | (simp [up, setR] <;> omega)) (by first | omega | (simp [up, setR] <;> omega)) (v := (g105_11 55) b) rfl dX10_readBandHead_114 ?_
          have r12 := ty_55 (i := b) (v := (g105_11 55) b) hT_11 rfl (by omega) (by omega)
          refine TT_iload hK 0 rfl dX10_readBandHead_115 ?_
          refine iv_X10_138 hK (s_X11_bitsOf z67_4 g105_11 hT_11 (by first | omega | (simp [up, setR] <;> omega))) ⟨by decide, by decide⟩ (by decide) rfl rfl (Nat.le_of_ble_eq_true rfl) ⟨by decide, by decide⟩ dX10_readBandHead_117 ?_
          intro r9 g117_13 hp9
          obtain ⟨⟨hT_13, hG_13⟩, z117_13, hr9, hz_13⟩ := hp9
          rw [hr9]
          have hF_13 : FR [5, 53, 55, 56, 57] h g117_13 := FR_tr hF_11 hG_13 (by decide)
          show TT K ly 0 0 120 [(4, vI z67_4), (0, vR 44), (1, vR 5), (2, vI b)] [vI z117_13, vI ((g105_11 55) b), vR 5] g117_13
          refine TT_iadd hK dX10_readBandHead_120 ?_
          refine TT_w32 (fun x121_14 hx14 => ?_)
          refine TT_iconst hK dX10_readBandHead_121 ?_
          refine TT_isub hK dX10_readBandHead_122 ?_
          refine TT_w32 (fun x123_15 hx15 => ?_)
          refine iv_X10_118 hK (s_takeBits5_k x123_15 g117_13 hT_13 (by first | omega | (simp [up, setR] <;> omega))) (by decide) rfl ⟨by decide, by decide⟩ (by decide) rfl rfl (Nat.le_of_ble_eq_true rfl) ⟨by decide, by decide⟩ dX10_readBandHead_123 ?_
          intro r9 g123_16 hp9
          obtain ⟨⟨hT_16, hG_16⟩, z123_16, hr9, hz_16, k51_16⟩ := hp9
          rw [hr9]
          have hF_16 : FR [5, 53, 55, 56, 57] h g123_16 := FR_tr hF_13 hG_16 (by decide)
          rw [show g117_13 5 1 = (g105_11 5) 1 from rd_ (hG_13 5 (by decide)) rfl] at k51_16
          show TT K ly 0 0 126 [(4, vI z67_4), (0, vR 44), (1, vR 5), (2, vI b)] [vI z123_16] g123_16
          refine TT_istore hK (lv' := [(5, vI z123_16), (4, vI z67_4), (0, vR 44), (1, vR 5), (2, vI b)]) (by decide) rfl dX10_readBandHead_126 ?_
          refine TT_iload hK 0 rfl dX10_readBandHead_128 ?_
          refine TT_if_ge hK (tgt := 135) (irm (by omega) (by omega)) dX10_readBandHead_130 (by decide) (fun hb130_17 => ?_) (fun hb130_17 => ?_)
          · refine TT_aload_n hK rfl 2 rfl dX10_readBandHead_135 ?_
            refine gf_X10_28 hK (by decide) rfl (q := 56) rfl rfl dX10_readBandHead_136 ?_
            refine TT_iload_n hK rfl 4 rfl dX10_readBandHead_139 ?_
            refine TT_iload hK 1 rfl dX10_readBandHead_140 ?_
            refine TT_iast hK (o := 56) (n := 10) (by decide) rfl (by omega) (by omega) dX10_readBandHead_142 ?_
            refine TT_hp (h' := setO g123_16 56 (fup (w66_3 56) b z67_4)) (up_can (((hG_16 56 (by decide))).trans (((hG_13 56 (by decide))).trans (((hG_11 56 (by decide))).trans (((hG_9 56 (by decide))).trans (hG_4 56 (by decide)))))) rfl rfl) ?_
            have hT_18 : TY (setO g123_16 56 (fup (w66_3 56) b z67_4)) := tu_56 hT_16 (show up g123_16 56 b z67_4 = (setO g123_16 56 (fup (w66_3 56) b z67_4)) from up_can (((hG_16 56 (by decide))).trans (((hG_13 56 (by decide))).trans (((hG_11 56 (by decide))).trans (((hG_9 56 (by decide))).trans (hG_4 56 (by decide)))))) rfl rfl) (by omega)
            have hF_18 : FR [5, 53, 55, 56, 57] h (setO g123_16 56 (fup (w66_3 56) b z67_4)) := FR_up (show up g123_16 56 b z67_4 = (setO g123_16 56 (fup (w66_3 56) b z67_4)) from up_can (((hG_16 56 (by decide))).trans (((hG_13 56 (by decide))).trans (((hG_11 56 (by decide))).trans (((hG_9 56 (by decide))).trans (hG_4 56 (by decide)))))) rfl rfl) hF_16 (by decide)
            refine TT_aload_n hK rfl 2 rfl dX10_readBandHead_143 ?_
            refine gf_X10_31 hK (by decide) rfl (q := 57) rfl rfl dX10_readBandHead_144 ?_
            refine TT_iload_n hK rfl 4 rfl dX10_readBandHead_147 ?_
            refine TT_iload hK 0 rfl dX10_readBandHead_148 ?_
            refine TT_iast hK (o := 57) (n := 10) (by decide) rfl (by omega) (by omega) dX10_readBandHead_150 ?_
            refine TT_hp (h' := setO (setO g123_16 56 (fup (w66_3 56) b z67_4)) 57 (fup (w66_3 57) b z123_16)) (up_can ((sOf_ne _ _ (by decide)).trans (((hG_16 57 (by decide))).trans (((hG_13 57 (by decide))).trans (((hG_11 57 (by decide))).trans (((hG_9 57 (by decide))).trans (hG_4 57 (by decide))))))) rfl rfl) ?_
            have hT_19 : TY (setO (setO g123_16 56 (fup (w66_3 56) b z67_4)) 57 (fup (w66_3 57) b z123_16)) := tu_57 hT_18 (show up (setO g123_16 56 (fup (w66_3 56) b z67_4)) 57 b z123_16 = (setO (setO g123_16 56 (fup (w66_3 56) b z67_4)) 57 (fup (w66_3 57) b z123_16)) from up_can ((sOf_ne _ _ (by decide)).trans (((hG_16 57 (by decide))).trans (((hG_13 57 (by decide))).trans (((hG_11 57 (by decide))).trans (((hG_9 57 (by decide))).trans (hG_4 57 (by decide))))))) rfl rfl) (by omega)
            have hF_19 : FR [5, 53, 55, 56, 57] h (setO (setO g123_16 56 (fup (w66_3 56) b z67_4)) 57 (fup (w66_3 57) b z123_16)) := FR_up (show up (setO g123_16 56 (fup (w66_3 56) b z67_4)) 57 b z123_16 = (setO (setO g123_16 56 (fup (w66_3 56) b z67_4)) 57 (fup (w66_3 57) b z123_16)) from up_can ((sOf_ne _ _ (by decide)).trans (((hG_16 57 (by decide))).trans (((hG_13 57 (by decide))).trans (((hG_11 57 (by decide))).trans (((hG_9 57 (by decide))).trans (hG_4 57 (by decide))))))) rfl rfl) hF_18 (by decide)
            refine TT_iconst hK dX10_readBandHead_151 ?_
            refine TT_iret hK hQ ?_ dX10_readBandHead_152
            have e20_5_1 : (setO (setO g123_16 56 (fup (w66_3 56) b z67_4)) 57 (fup (w66_3 57) b z123_16)) 5 1 = (g123_16 5) 1 := rd_ ((sOf_ne _ _ (by decide)).trans (sOf_ne _ _ (by decide))) rfl
            exact ⟨⟨hT_19, hF_19⟩, 0, rfl, (by omega), (by rewrite [e20_5_1]; omega)⟩
          · refine TT_iconst hK dX10_readBandHead_133 ?_
            refine TT_iret hK hQ ?_ dX10_readBandHead_134
            have e21_5_1 : g123_16 5 1 = (g123_16 5) 1 := rfl
            exact ⟨⟨hT_16, hF_16⟩, 1, rfl, (by omega), (by rewrite [e21_5_1]; omega)⟩
        · refine TT_iconst hK dX10_readBandHead_100 ?_
          refine TT_iret hK hQ ?_ dX10_readBandHead_101
          have e22_5_1 : g94_9 5 1 = (g67_4 5) 1 := rd_ (hG_9 5 (by decide)) rfl
          exact ⟨⟨hT_9, hF_9⟩, (-1), rfl, (by omega), (by rewrite [e22_5_1]; omega)⟩
      · refine TT_iconst hK dX10_readBandHead_77 ?_
        refine TT_iret hK hQ ?_ dX10_readBandHead_78
        have e23_5_1 : g67_4 5 1 = (g67_4 5) 1 := rfl
        exact ⟨⟨hT_4, hF_4⟩, 1, rfl, (by omega), (by rewrite [e23_5_1]; omega)⟩
    refine TT_aload_n hK rfl 1 rfl dX10_readBandHead_21 ?_
    refine gf_X10_22 hK (by decide) rfl (q := 54) rfl rfl dX10_readBandHead_22 ?_
    refine TT_iload_n hK rfl 3 rfl dX10_readBandHead_25 ?_
    refine TT_iald hK (o := 54) (n := 10) (by decide) rfl (by first | omega | (simp [up, setR] <;> omega)) (by first | omega | (simp [up, setR] <;> omega)) (v := (h 54) b) (rd_ (hG_1 54 (by decide)) rfl) dX10_readBandHead_26 ?_
    have r24 := ty_54 (i := b) (v := (h 54) b) hT_1 (rd_ (hG_1 54 (by decide)) rfl) (by omega) (by omega)
    refine TT_if_ne hK (tgt := 66) (irm (by omega) (by omega)) dX10_readBandHead_27 (by decide) (fun hb27_25 => ?_) (fun hb27_25 => ?_)
    · refine TT_sub [1, 2, 3] rfl ?_
      have e26_5_1 : g2_1 5 1 = (g2_1 5) 1 := rfl
      exact J66_3 g2_1 hT_1 hF_1 (by rewrite [e26_5_1]; first | omega | (simp [up, setR] <;> omega))
    · refine TT_aload_n hK rfl 2 rfl dX10_readBandHead_30 ?_
      refine TT_iconst hK dX10_readBandHead_31 ?_
      refine iv_X10_118 hK (s_takeBits5_k 4 g2_1 hT_1 (by first | omega | (simp [up, setR] <;> omega))) (by decide) rfl ⟨by decide, by decide⟩ (by decide) rfl rfl (Nat.le_of_ble_eq_true rfl) ⟨by decide, by decide⟩ dX10_readBandHead_32 ?_
      intro r9 g32_27 hp9
      obtain ⟨⟨hT_27, hG_27⟩, z32_27, hr9, hz_27, k51_27⟩ := hp9
      rw [hr9]
      have hF_27 : FR [5, 53, 55, 56, 57] h g32_27 := FR_tr hF_1 hG_27 (by decide)
      rw [show g2_1 5 1 = (g2_1 5) 1 from rfl] at k51_27
      show TT K ly 0 0 35 [(3, vI z2_1), (0, vR 44), (1, vR 5), (2, vI b)] [vI z32_27] g32_27
      refine TT_istore hK (lv' := [(4, vI z32_27), (3, vI z2_1), (0, vR 44), (1, vR 5), (2, vI b)]) (by decide) rfl dX10_readBandHead_35 ?_
      refine TT_iload hK 0 rfl dX10_readBandHead_37 ?_
      refine TT_if_ge hK (tgt := 44) (irm (by omega) (by omega)) dX10_readBandHead_39 (by decide) (fun hb39_28 => ?_) (fun hb39_28 => ?_)
      · refine TT_iload hK 0 rfl dX10_readBandHead_44 ?_
        refine TT_if_eq hK (tgt := 56) (irm (by omega) (by omega)) dX10_readBandHead_46 (by decide) (fun hb46_29 => ?_) (fun hb46_29 => ?_)
        · refine TT_iconst hK dX10_readBandHead_56 ?_
          refine TT_iret hK hQ ?_ dX10_readBandHead_57
          have e30_5_1 : g32_27 5 1 = (g32_27 5) 1 := rfl
          exact ⟨⟨hT_27, hF_27⟩, (-1), rfl, (by omega), (by rewrite [e30_5_1]; omega)⟩
        · refine TT_iload hK 0 rfl dX10_readBandHead_49 ?_
          refine TT_bipush hK (by decide) dX10_readBandHead_51 ?_
          refine TT_icmp_le hK (tgt := 58) (irm (by omega) (by omega)) (by decide) dX10_readBandHead_53 (by decide) (fun hb53_31 => ?_) (fun hb53_31 => ?_)
          · refine TT_aload_n hK rfl 2 rfl dX10_readBandHead_58 ?_
            refine gf_X10_18 hK (by decide) rfl (q := 53) rfl rfl dX10_readBandHead_59 ?_
            refine TT_iload_n hK rfl 4 rfl dX10_readBandHead_62 ?_
            refine TT_iload hK 0 rfl dX10_readBandHead_63 ?_
            refine TT_iast hK (o := 53) (n := 10) (by decide) rfl (by omega) (by omega) dX10_readBandHead_65 ?_
            refine TT_hp (h' := setO g32_27 53 (fup (h 53) b z32_27)) (up_can (((hG_27 53 (by decide))).trans (hG_1 53 (by decide))) rfl rfl) ?_
            have hT_32 : TY (setO g32_27 53 (fup (h 53) b z32_27)) := tu_53 hT_27 (show up g32_27 53 b z32_27 = (setO g32_27 53 (fup (h 53) b z32_27)) from up_can (((hG_27 53 (by decide))).trans (hG_1 53 (by decide))) rfl rfl) (by omega)
            have hF_32 : FR [5, 53, 55, 56, 57] h (setO g32_27 53 (fup (h 53) b z32_27)) := FR_up (show up g32_27 53 b z32_27 = (setO g32_27 53 (fup (h 53) b z32_27)) from up_can (((hG_27 53 (by decide))).trans (hG_1 53 (by decide))) rfl rfl) hF_27 (by decide)
            refine TT_sub [2, 3, 4] rfl ?_
            have e33_5_1 : (setO g32_27 53 (fup (h 53) b z32_27)) 5 1 = (g32_27 5) 1 := rd_ (sOf_ne _ _ (by decide)) rfl
            exact J66_3 (setO g32_27 53 (fup (h 53) b z32_27)) hT_32 hF_32 (by rewrite [e33_5_1]; first | omega | (simp [up, setR] <;> omega))
          · refine TT_iconst hK dX10_readBandHead_56 ?_
            refine TT_iret hK hQ ?_ dX10_readBandHead_57
            have e34_5_1 : g32_27 5 1 = (g32_27 5) 1 := rfl
            exact ⟨⟨hT_27, hF_27⟩, (-1), rfl, (by omega), (by rewrite [e34_5_1]; omega)⟩
      · refine TT_iconst hK dX10_readBandHead_42 ?_
        refine TT_iret hK hQ ?_ dX10_readBandHead_43
        have e35_5_1 : g32_27 5 1 = (g32_27 5) 1 := rfl
        exact ⟨⟨hT_27, hF_27⟩, 1, rfl, (by omega), (by rewrite [e35_5_1]; omega)⟩
  · refine TT_iload_n hK rfl 0 rfl dX10_readBandHead_11 ?_
    refine TT_if_ne hK (tgt := 19) (irm (by omega) (by omega)) dX10_readBandHead_12 (by decide) (fun hb12_36 => ?_) (fun hb12_36 => ?_)
    · refine TT_iconst hK dX10_readBandHead_19 ?_
      refine TT_iret hK hQ ?_ dX10_readBandHead_20
      have e37_5_1 : g2_1 5 1 = (g2_1 5) 1 := rfl
      exact ⟨⟨hT_1, hF_1⟩, 1, rfl, (by omega), (by rewrite [e37_5_1]; omega)⟩
    · refine TT_iconst hK dX10_readBandHead_15 ?_
      refine TT_goto hK (tgt := 20) dX10_readBandHead_16 (by decide) ?_
      refine TT_iret hK hQ ?_ dX10_readBandHead_20
      have e38_5_1 : g2_1 5 1 = (g2_1 5) 1 := rfl
      exact ⟨⟨hT_1, hF_1⟩, 0, rfl, (by omega), (by rewrite [e38_5_1]; omega)⟩
set_option maxRecDepth 20000 in
theorem s_readHead_k (r : Int) (h : Hp_) (hT : TY h) (hr : 0 ≤ r ∧ r ≤ 3) : Ctr yX10_readHead cX10_readHead 6 (some .int) (rmd 4) ly ly 0 0 [vR 44, vR 5, vI r] h (fun r h' => (TY h' ∧ FR [5, 53, 55, 56, 57] h h') ∧ ∃ z : Int, r = some (vI z) ∧ (-1 ≤ z ∧ z ≤ 1) ∧ ((h' 5 1) = (h 5 1))) := by
  refine Ctr_of (by decide) (Nat.le_of_ble_eq_true rfl) ⟨Nat.le_refl _, Nat.le_refl _⟩ (fun K hK hQ _ => ?_)
  show TT K ly 0 0 0 [(0, vR 44), (1, vR 5), (2, vI r)] [] h
  have hF : FR [5, 53, 55, 56, 57] h h := FR_rf _ _
  refine TT_iload_n hK rfl 2 rfl dX10_readHead_0 ?_
  refine iv_X10_109 hK (s_X11_firstBandOf r h hT (by first | omega | (simp [up, setR] <;> omega))) ⟨by decide, by decide⟩ (by decide) rfl rfl (Nat.le_of_ble_eq_true rfl) ⟨by decide, by decide⟩ dX10_readHead_1 ?_
  intro r9 g1_1 hp9
  obtain ⟨⟨hT_1, hG_1⟩, z1_1, hr9, hz_1⟩ := hp9
  rw [hr9]
  have hF_1 : FR [5, 53, 55, 56, 57] h g1_1 := FR_tr hF hG_1 (by decide)
  show TT K ly 0 0 4 [(0, vR 44), (1, vR 5), (2, vI r)] [vI z1_1] g1_1
  refine TT_istore_n hK rfl (lv' := [(3, vI z1_1), (0, vR 44), (1, vR 5), (2, vI r)]) (by decide) rfl dX10_readHead_4 ?_
  have L5_2 : ∀ (k2 : Nat) (b1 : Int) (w5_2 : Hp_), TY w5_2 → FR [5, 53, 55, 56, 57] h w5_2 → (0 ≤ b1 ∧ b1 ≤ 10) → ((w5_2 5 1) = h 5 1) → ((10 : Int) - b1).toNat < k2 → TT K ly 0 0 5 [(0, vR 44), (1, vR 5), (2, vI r), (3, vI b1)] [] w5_2 := by
    intro k2
    induction k2 with
    | zero => intro b1 w5_2 hT5_2 hF5_2 hb1 k51i hk2; exact absurd hk2 (Nat.not_lt_zero _)
    | succ k2 ih2 =>
      intro b1 w5_2 hT5_2 hF5_2 hb1 k51i hk2
      refine TT_iload_n hK rfl 3 rfl dX10_readHead_5 ?_
      refine TT_iload_n hK rfl 2 rfl dX10_readHead_6 ?_
      refine iv_X10_112 hK (s_X11_lastBandOf r w5_2 hT5_2 (by first | omega | (simp [up, setR] <;> omega))) ⟨by decide, by decide⟩ (by decide) rfl rfl (Nat.le_of_ble_eq_true rfl) ⟨by decide, by decide⟩ dX10_readHead_7 ?_
      intro r9 g7_3 hp9
      obtain ⟨⟨hT_3, hG_3⟩, z7_3, hr9, hz_3⟩ := hp9
      rw [hr9]
      have hF_3 : FR [5, 53, 55, 56, 57] h g7_3 := FR_tr hF5_2 hG_3 (by decide)
      show TT K ly 0 0 10 [(0, vR 44), (1, vR 5), (2, vI r), (3, vI b1)] [vI z7_3, vI b1] g7_3
      refine TT_icmp_gt hK (tgt := 33) (irm (by omega) (by omega)) (irm (by omega) (by omega)) dX10_readHead_10 (by decide) (fun hb10_4 => ?_) (fun hb10_4 => ?_)
      · refine TT_aload_n hK rfl 1 rfl dX10_readHead_33 ?_
        refine TT_iconst hK dX10_readHead_34 ?_
        refine iv_X10_118 hK (s_takeBits5_k 1 g7_3 hT_3 (by first | omega | (simp [up, setR] <;> omega))) (by decide) rfl ⟨by decide, by decide⟩ (by decide) rfl rfl (Nat.le_of_ble_eq_true rfl) ⟨by decide, by decide⟩ dX10_readHead_35 ?_
        intro r9 g35_5 hp9
        obtain ⟨⟨hT_5, hG_5⟩, z35_5, hr9, hz_5, k51_5⟩ := hp9
        rw [hr9]
        have hF_5 : FR [5, 53, 55, 56, 57] h g35_5 := FR_tr hF_3 hG_5 (by decide)
        rw [show g7_3 5 1 = (w5_2 5) 1 from rd_ (hG_3 5 (by decide)) rfl] at k51_5
        show TT K ly 0 0 38 [(0, vR 44), (1, vR 5), (2, vI r), (3, vI b1)] [vI z35_5] g35_5
        refine TT_istore_n hK rfl (lv' := [(3, vI z35_5), (0, vR 44), (1, vR 5), (2, vI r)]) (by decide) rfl dX10_readHead_38 ?_
        refine TT_iload_n hK rfl 0 rfl dX10_readHead_39 ?_
        refine TT_iconst hK dX10_readHead_40 ?_
        refine TT_icmp_eq hK (tgt := 54) (irm (by omega) (by omega)) (by decide) dX10_readHead_41 (by decide) (fun hb41_6 => ?_) (fun hb41_6 => ?_)
        · refine TT_iload_n hK rfl 3 rfl dX10_readHead_54 ?_
          refine iv_X10_109 hK (s_X11_firstBandOf r g35_5 hT_5 (by first | omega | (simp [up, setR] <;> omega))) ⟨by decide, by decide⟩ (by decide) rfl rfl (Nat.le_of_ble_eq_true rfl) ⟨by decide, by decide⟩ dX10_readHead_55 ?_
          intro r9 g55_7 hp9
          obtain ⟨⟨hT_7, hG_7⟩, z55_7, hr9, hz_7⟩ := hp9
          rw [hr9]
          have hF_7 : FR [5, 53, 55, 56, 57] h g55_7 := FR_tr hF_5 hG_7 (by decide)
          show TT K ly 0 0 58 [(3, vI z35_5), (0, vR 44), (1, vR 5), (2, vI r)] [vI z55_7] g55_7
          refine TT_istore hK (lv' := [(4, vI z55_7), (3, vI z35_5), (0, vR 44), (1, vR 5), (2, vI r)]) (by decide) rfl dX10_readHead_58 ?_
          have L60_8 : ∀ (k8 : Nat) (b2 : Int) (w60_8 : Hp_), TY w60_8 → FR [5, 53, 55, 56, 57] h w60_8 → (0 ≤ b2 ∧ b2 ≤ 10) → ((w60_8 5 1) = h 5 1) → ((10 : Int) - b2).toNat < k8 → TT K ly 0 0 60 [(0, vR 44), (1, vR 5), (2, vI r), (3, vI z35_5), (4, vI b2)] [] w60_8 := by
            intro k8
            induction k8 with
            | zero => intro b2 w60_8 hT60_8 hF60_8 hb2 k51i hk8; exact absurd hk8 (Nat.not_lt_zero _)
            | succ k8 ih8 =>
              intro b2 w60_8 hT60_8 hF60_8 hb2 k51i hk8
              refine TT_iload hK 4 rfl dX10_readHead_60 ?_
              refine TT_iload_n hK rfl 2 rfl dX10_readHead_62 ?_
              refine iv_X10_112 hK (s_X11_lastBandOf r w60_8 hT60_8 (by first | omega | (simp [up, setR] <;> omega))) ⟨by decide, by decide⟩ (by decide) rfl rfl (Nat.le_of_ble_eq_true rfl) ⟨by decide, by decide⟩ dX10_readHead_63 ?_
              intro r9 g63_9 hp9
              obtain ⟨⟨hT_9, hG_9⟩, z63_9, hr9, hz_9⟩ := hp9
              rw [hr9]
              have hF_9 : FR [5, 53, 55, 56, 57] h g63_9 := FR_tr hF60_8 hG_9 (by decide)
              show TT K ly 0 0 66 [(0, vR 44), (1, vR 5), (2, vI r), (3, vI z35_5), (4, vI b2)] [vI z63_9, vI b2] g63_9
              refine TT_icmp_gt hK (tgt := 108) (irm (by omega) (by omega)) (irm (by omega) (by omega)) dX10_readHead_66 (by decide) (fun hb66_10 => ?_) (fun hb66_10 => ?_)
              · refine TT_iconst hK dX10_readHead_108 ?_
                refine TT_iret hK hQ ?_ dX10_readHead_109
                have e11_5_1 : g63_9 5 1 = (w60_8 5) 1 := rd_ (hG_9 5 (by decide)) rfl
                exact ⟨⟨hT_9, hF_9⟩, 0, rfl, (by omega), (by rewrite [e11_5_1]; omega)⟩
              · refine TT_aload_n hK rfl 0 rfl dX10_readHead_69 ?_
                refine gf_X10_12 hK (by decide) rfl (q := 45) rfl rfl dX10_readHead_70 ?_
                refine TT_iload hK 4 rfl dX10_readHead_73 ?_
                refine iv_X10_121 hK (s_X0_isEmpty_45 b2 g63_9 hT_9 (by first | omega | (simp [up, setR] <;> omega))) (by decide) rfl ⟨by decide, by decide⟩ (by decide) rfl rfl (Nat.le_of_ble_eq_true rfl) ⟨by decide, by decide⟩ dX10_readHead_75 ?_
                intro r9 g75_12 hp9
                obtain ⟨⟨hT_12, hG_12⟩, z75_12, hr9, hz_12⟩ := hp9
                rw [hr9]
                have hF_12 : FR [5, 53, 55, 56, 57] h g75_12 := FR_tr hF_9 hG_12 (by decide)
                show TT K ly 0 0 78 [(0, vR 44), (1, vR 5), (2, vI r), (3, vI z35_5), (4, vI b2)] [vI z75_12] g75_12
                refine TT_if_eq hK (tgt := 85) (irm (by omega) (by omega)) dX10_readHead_78 (by decide) (fun hb78_13 => ?_) (fun hb78_13 => ?_)
                · refine TT_aload_n hK rfl 0 rfl dX10_readHead_85 ?_
                  refine TT_aload_n hK rfl 1 rfl dX10_readHead_86 ?_
                  refine TT_iload hK 4 rfl dX10_readHead_87 ?_
                  refine iv_X10_124 hK (s_readBandHead_k b2 g75_12 hT_12 (by first | omega | (simp [up, setR] <;> omega))) (by decide) rfl ⟨by decide, by decide⟩ (by decide) rfl rfl (Nat.le_of_ble_eq_true rfl) ⟨by decide, by decide⟩ dX10_readHead_89 ?_
                  intro r9 g89_14 hp9
                  obtain ⟨⟨hT_14, hG_14⟩, z89_14, hr9, hz_14, k51_14⟩ := hp9
                  rw [hr9]
                  have hF_14 : FR [5, 53, 55, 56, 57] h g89_14 := FR_tr hF_12 hG_14 (by decide)
                  rw [show g75_12 5 1 = (w60_8 5) 1 from rd_ (((hG_12 5 (by decide))).trans (hG_9 5 (by decide))) rfl] at k51_14
                  show TT K ly 0 0 92 [(0, vR 44), (1, vR 5), (2, vI r), (3, vI z35_5), (4, vI b2)] [vI z89_14] g89_14
                  refine TT_istore hK (lv' := [(5, vI z89_14), (0, vR 44), (1, vR 5), (2, vI r), (3, vI z35_5), (4, vI b2)]) (by decide) rfl dX10_readHead_92 ?_
                  refine TT_iload hK 0 rfl dX10_readHead_94 ?_
                  refine TT_if_eq hK (tgt := 102) (irm (by omega) (by omega)) dX10_readHead_96 (by decide) (fun hb96_15 => ?_) (fun hb96_15 => ?_)
                  · refine TT_iinc hK (v := b2 + 1) (lv' := [(4, vI (b2 + 1)), (5, vI z89_14), (0, vR 44), (1, vR 5), (2, vI r), (3, vI z35_5)]) 5 rfl rfl (by decide) rfl dX10_readHead_102 ?_
                    refine TT_goto hK (tgt := 60) dX10_readHead_105 (by decide) ?_
                    refine TT_sub [2, 3, 4, 5, 0] rfl ?_
                    have e16_5_1 : g89_14 5 1 = (g89_14 5) 1 := rfl
                    exact ih8 (b2 + 1) g89_14 hT_14 hF_14 (by first | omega | (simp [up, setR] <;> omega)) (by rewrite [e16_5_1]; first | omega | (simp [up, setR] <;> omega)) (by first | omega | (simp [up, setR] <;> omega))
                  · refine TT_iload hK 0 rfl dX10_readHead_99 ?_
                    refine TT_iret hK hQ ?_ dX10_readHead_101
                    have e17_5_1 : g89_14 5 1 = (g89_14 5) 1 := rfl
                    exact ⟨⟨hT_14, hF_14⟩, z89_14, rfl, (by omega), (by rewrite [e17_5_1]; omega)⟩
                · refine TT_iconst hK dX10_readHead_81 ?_
                  refine TT_goto hK (tgt := 92) dX10_readHead_82 (by decide) ?_
                  refine TT_istore hK (lv' := [(5, vI 0), (0, vR 44), (1, vR 5), (2, vI r), (3, vI z35_5), (4, vI b2)]) (by decide) rfl dX10_readHead_92 ?_
                  refine TT_iload hK 0 rfl dX10_readHead_94 ?_
                  refine TT_if_eq hK (tgt := 102) (by decide) dX10_readHead_96 (by decide) (fun hb96_18 => ?_) (fun hb96_18 => ?_)
                  · refine TT_iinc hK (v := b2 + 1) (lv' := [(4, vI (b2 + 1)), (5, vI 0), (0, vR 44), (1, vR 5), (2, vI r), (3, vI z35_5)]) 5 rfl rfl (by decide) rfl dX10_readHead_102 ?_
                    refine TT_goto hK (tgt := 60) dX10_readHead_105 (by decide) ?_
                    refine TT_sub [2, 3, 4, 5, 0] rfl ?_
                    have e19_5_1 : g75_12 5 1 = (w60_8 5) 1 := rd_ (((hG_12 5 (by decide))).trans (hG_9 5 (by decide))) rfl
                    exact ih8 (b2 + 1) g75_12 hT_12 hF_12 (by first | omega | (simp [up, setR] <;> omega)) (by rewrite [e19_5_1]; first | omega | (simp [up, setR] <;> omega)) (by first | omega | (simp [up, setR] <;> omega))
                  · exact absurd hb96_18 (by decide)
          refine TT_sub [2, 3, 4, 1, 0] rfl ?_
          have e20_5_1 : g55_7 5 1 = (g35_5 5) 1 := rd_ (hG_7 5 (by decide)) rfl
          exact L60_8 ((((10 : Int) - z55_7).toNat) + 1) z55_7 g55_7 hT_7 hF_7 (by first | omega | (simp [up, setR] <;> omega)) (by rewrite [e20_5_1]; first | omega | (simp [up, setR] <;> omega)) (Nat.lt_succ_self _)
        · refine TT_iload_n hK rfl 0 rfl dX10_readHead_44 ?_
          refine TT_if_ne hK (tgt := 52) (irm (by omega) (by omega)) dX10_readHead_45 (by decide) (fun hb45_21 => ?_) (fun hb45_21 => ?_)
          · refine TT_iconst hK dX10_readHead_52 ?_
            refine TT_iret hK hQ ?_ dX10_readHead_53
            have e22_5_1 : g35_5 5 1 = (g35_5 5) 1 := rfl
            exact ⟨⟨hT_5, hF_5⟩, 1, rfl, (by omega), (by rewrite [e22_5_1]; omega)⟩
          · refine TT_iconst hK dX10_readHead_48 ?_
            refine TT_goto hK (tgt := 53) dX10_readHead_49 (by decide) ?_
            refine TT_iret hK hQ ?_ dX10_readHead_53
            have e23_5_1 : g35_5 5 1 = (g35_5 5) 1 := rfl
            exact ⟨⟨hT_5, hF_5⟩, 0, rfl, (by omega), (by rewrite [e23_5_1]; omega)⟩
      · refine TT_aload_n hK rfl 0 rfl dX10_readHead_13 ?_
        refine gf_X10_28 hK (by decide) rfl (q := 56) rfl rfl dX10_readHead_14 ?_
        refine TT_iload_n hK rfl 3 rfl dX10_readHead_17 ?_
        refine TT_iconst hK dX10_readHead_18 ?_
        refine TT_iast hK (o := 56) (n := 10) (by decide) rfl (by omega) (by omega) dX10_readHead_19 ?_
        refine TT_hp (h' := setO g7_3 56 (fup (w5_2 56) b1 0)) (up_can (hG_3 56 (by decide)) rfl rfl) ?_
        have hT_24 : TY (setO g7_3 56 (fup (w5_2 56) b1 0)) := tu_56 hT_3 (show up g7_3 56 b1 0 = (setO g7_3 56 (fup (w5_2 56) b1 0)) from up_can (hG_3 56 (by decide)) rfl rfl) (by omega)
        have hF_24 : FR [5, 53, 55, 56, 57] h (setO g7_3 56 (fup (w5_2 56) b1 0)) := FR_up (show up g7_3 56 b1 0 = (setO g7_3 56 (fup (w5_2 56) b1 0)) from up_can (hG_3 56 (by decide)) rfl rfl) hF_3 (by decide)
        refine TT_aload_n hK rfl 0 rfl dX10_readHead_20 ?_
        refine gf_X10_31 hK (by decide) rfl (q := 57) rfl rfl dX10_readHead_21 ?_
        refine TT_iload_n hK rfl 3 rfl dX10_readHead_24 ?_
        refine TT_iconst hK dX10_readHead_25 ?_
        refine TT_iast hK (o := 57) (n := 10) (by decide) rfl (by omega) (by omega) dX10_readHead_26 ?_
        refine TT_hp (h' := setO (setO g7_3 56 (fup (w5_2 56) b1 0)) 57 (fup (w5_2 57) b1 0)) (up_can ((sOf_ne _ _ (by decide)).trans (hG_3 57 (by decide))) rfl rfl) ?_
        have hT_25 : TY (setO (setO g7_3 56 (fup (w5_2 56) b1 0)) 57 (fup (w5_2 57) b1 0)) := tu_57 hT_24 (show up (setO g7_3 56 (fup (w5_2 56) b1 0)) 57 b1 0 = (setO (setO g7_3 56 (fup (w5_2 56) b1 0)) 57 (fup (w5_2 57) b1 0)) from up_can ((sOf_ne _ _ (by decide)).trans (hG_3 57 (by decide))) rfl rfl) (by omega)
        have hF_25 : FR [5, 53, 55, 56, 57] h (setO (setO g7_3 56 (fup (w5_2 56) b1 0)) 57 (fup (w5_2 57) b1 0)) := FR_up (show up (setO g7_3 56 (fup (w5_2 56) b1 0)) 57 b1 0 = (setO (setO g7_3 56 (fup (w5_2 56) b1 0)) 57 (fup (w5_2 57) b1 0)) from up_can ((sOf_ne _ _ (by decide)).trans (hG_3 57 (by decide))) rfl rfl) hF_24 (by decide)
        refine TT_iinc hK (v := b1 + 1) (lv' := [(3, vI (b1 + 1)), (0, vR 44), (1, vR 5), (2, vI r)]) 3 rfl rfl (by decide) rfl dX10_readHead_27 ?_
        refine TT_goto hK (tgt := 5) dX10_readHead_30 (by decide) ?_
        refine TT_sub [1, 2, 3, 0] rfl ?_
        have e26_5_1 : (setO (setO g7_3 56 (fup (w5_2 56) b1 0)) 57 (fup (w5_2 57) b1 0)) 5 1 = (w5_2 5) 1 := rd_ ((sOf_ne _ _ (by decide)).trans ((sOf_ne _ _ (by decide)).trans (hG_3 5 (by decide)))) rfl
        exact ih2 (b1 + 1) (setO (setO g7_3 56 (fup (w5_2 56) b1 0)) 57 (fup (w5_2 57) b1 0)) hT_25 hF_25 (by first | omega | (simp [up, setR] <;> omega)) (by rewrite [e26_5_1]; first | omega | (simp [up, setR] <;> omega)) (by first | omega | (simp [up, setR] <;> omega))
  refine TT_sub [1, 2, 3, 0] rfl ?_
  have e27_5_1 : g1_1 5 1 = (h 5) 1 := rd_ (hG_1 5 (by decide)) rfl
  exact L5_2 ((((10 : Int) - z1_1).toNat) + 1) z1_1 g1_1 hT_1 hF_1 (by first | omega | (simp [up, setR] <;> omega)) (by rewrite [e27_5_1]; first | omega | (simp [up, setR] <;> omega)) (Nat.lt_succ_self _)
set_option maxRecDepth 20000 in
theorem s_takePacket_k (n r : Int) (h : Hp_) (hT : TY h) (hn : -2147483648 ≤ n ∧ n ≤ 2147483647) (hr : 0 ≤ r ∧ r ≤ 3) : Ctr yX10_takePacket cX10_takePacket 8 (some .int) (rmd 5) ly ly 0 0 [vR 44, vR 5, vI n, vI r] h (fun r h' => (TY h' ∧ FR [5, 53, 54, 55, 56, 57, 58, 59, 60] h h') ∧ ∃ z : Int, r = some (vI z) ∧ (-1 ≤ z ∧ z ≤ 1) ∧ ((h' 5 1) = (h 5 1))) := by
  refine Ctr_of (by decide) (Nat.le_of_ble_eq_true rfl) ⟨Nat.le_refl _, Nat.le_refl _⟩ (fun K hK hQ _ => ?_)
  show TT K ly 0 0 0 [(0, vR 44), (1, vR 5), (2, vI n), (3, vI r)] [] h
  have hF : FR [5, 53, 54, 55, 56, 57, 58, 59, 60] h h := FR_rf _ _
  refine TT_aload_n hK rfl 0 rfl dX10_takePacket_0 ?_
  refine TT_aload_n hK rfl 1 rfl dX10_takePacket_1 ?_
  refine TT_iload_n hK rfl 3 rfl dX10_takePacket_2 ?_
  refine iv_X10_101 hK (s_readHead_k r h hT (by first | omega | (simp [up, setR] <;> omega))) (by decide) rfl ⟨by decide, by decide⟩ (by decide) rfl rfl (Nat.le_of_ble_eq_true rfl) ⟨by decide, by decide⟩ dX10_takePacket_3 ?_
  intro r9 g3_1 hp9
  obtain ⟨⟨hT_1, hG_1⟩, z3_1, hr9, hz_1, k51_1⟩ := hp9
  rw [hr9]
  have hF_1 : FR [5, 53, 54, 55, 56, 57, 58, 59, 60] h g3_1 := FR_tr hF hG_1 (by decide)
  rw [show h 5 1 = (h 5) 1 from rfl] at k51_1
  show TT K ly 0 0 6 [(0, vR 44), (1, vR 5), (2, vI n), (3, vI r)] [vI z3_1] g3_1
  refine TT_istore hK (lv' := [(4, vI z3_1), (0, vR 44), (1, vR 5), (2, vI n), (3, vI r)]) (by decide) rfl dX10_takePacket_6 ?_
  refine TT_iload hK 0 rfl dX10_takePacket_8 ?_
  refine TT_if_eq hK (tgt := 16) (irm (by omega) (by omega)) dX10_takePacket_10 (by decide) (fun hb10_2 => ?_) (fun hb10_2 => ?_)
  · refine TT_aload_n hK rfl 2 rfl dX10_takePacket_16 ?_
    refine iv_X10_105 hK (s_X1_byteBehindBits_5 g3_1 hT_1 ) (by decide) rfl ⟨by decide, by decide⟩ (by decide) rfl rfl (Nat.le_of_ble_eq_true rfl) ⟨by decide, by decide⟩ dX10_takePacket_17 ?_
    intro r9 g17_3 hp9
    obtain ⟨⟨hT_3, hG_3⟩, z17_3, hr9, hz_3⟩ := hp9
    rw [hr9]
    have hF_3 : FR [5, 53, 54, 55, 56, 57, 58, 59, 60] h g17_3 := FR_tr hF_1 hG_3 (by decide)
    show TT K ly 0 0 20 [(4, vI z3_1), (0, vR 44), (1, vR 5), (2, vI n), (3, vI r)] [vI z17_3] g17_3
    refine TT_istore hK (lv' := [(5, vI z17_3), (4, vI z3_1), (0, vR 44), (1, vR 5), (2, vI n), (3, vI r)]) (by decide) rfl dX10_takePacket_20 ?_
    refine TT_iconst hK dX10_takePacket_22 ?_
    refine TT_istore hK (lv' := [(6, vI 0), (5, vI z17_3), (4, vI z3_1), (0, vR 44), (1, vR 5), (2, vI n), (3, vI r)]) (by decide) rfl dX10_takePacket_23 ?_
    refine TT_iload_n hK rfl 6 rfl dX10_takePacket_25 ?_
    refine iv_X10_109 hK (s_X11_firstBandOf r g17_3 hT_3 (by first | omega | (simp [up, setR] <;> omega))) ⟨by decide, by decide⟩ (by decide) rfl rfl (Nat.le_of_ble_eq_true rfl) ⟨by decide, by decide⟩ dX10_takePacket_26 ?_
    intro r9 g26_4 hp9
    obtain ⟨⟨hT_4, hG_4⟩, z26_4, hr9, hz_4⟩ := hp9
    rw [hr9]
    have hF_4 : FR [5, 53, 54, 55, 56, 57, 58, 59, 60] h g26_4 := FR_tr hF_3 hG_4 (by decide)
    show TT K ly 0 0 29 [(6, vI 0), (5, vI z17_3), (4, vI z3_1), (0, vR 44), (1, vR 5), (2, vI n), (3, vI r)] [vI z26_4] g26_4
    refine TT_istore hK (lv' := [(7, vI z26_4), (6, vI 0), (5, vI z17_3), (4, vI z3_1), (0, vR 44), (1, vR 5), (2, vI n), (3, vI r)]) (by decide) rfl dX10_takePacket_29 ?_
    have L31_5 : ∀ (k5 : Nat) (sm : Int) (b1 : Int) (w31_5 : Hp_), TY w31_5 → FR [5, 53, 54, 55, 56, 57, 58, 59, 60] h w31_5 → (-2147483648 ≤ sm ∧ sm ≤ 2147483647) → (0 ≤ b1 ∧ b1 ≤ 10) → ((w31_5 5 1) = h 5 1) → ((10 : Int) - b1).toNat < k5 → TT K ly 0 0 31 [(0, vR 44), (1, vR 5), (2, vI n), (3, vI r), (4, vI z3_1), (5, vI z17_3), (6, vI sm), (7, vI b1)] [] w31_5 := by
      intro k5
      induction k5 with
      | zero => intro sm b1 w31_5 hT31_5 hF31_5 hsm hb1 k51i hk5; exact absurd hk5 (Nat.not_lt_zero _)
      | succ k5 ih5 =>
        intro sm b1 w31_5 hT31_5 hF31_5 hsm hb1 k51i hk5
        refine TT_iload hK 7 rfl dX10_takePacket_31 ?_
        refine TT_iload_n hK rfl 3 rfl dX10_takePacket_33 ?_
        refine iv_X10_112 hK (s_X11_lastBandOf r w31_5 hT31_5 (by first | omega | (simp [up, setR] <;> omega))) ⟨by decide, by decide⟩ (by decide) rfl rfl (Nat.le_of_ble_eq_true rfl) ⟨by decide, by decide⟩ dX10_takePacket_34 ?_
        intro r9 g34_6 hp9
        obtain ⟨⟨hT_6, hG_6⟩, z34_6, hr9, hz_6⟩ := hp9
        rw [hr9]
        have hF_6 : FR [5, 53, 54, 55, 56, 57, 58, 59, 60] h g34_6 := FR_tr hF31_5 hG_6 (by decide)
        show TT K ly 0 0 37 [(0, vR 44), (1, vR 5), (2, vI n), (3, vI r), (4, vI z3_1), (5, vI z17_3), (6, vI sm), (7, vI b1)] [vI z34_6, vI b1] g34_6
        refine TT_icmp_gt hK (tgt := 58) (irm (by omega) (by omega)) (irm (by omega) (by omega)) dX10_takePacket_37 (by decide) (fun hb37_7 => ?_) (fun hb37_7 => ?_)
        · refine TT_iload hK 6 rfl dX10_takePacket_58 ?_
          refine TT_iload_n hK rfl 2 rfl dX10_takePacket_60 ?_
          refine TT_iload hK 5 rfl dX10_takePacket_61 ?_
          refine TT_isub hK dX10_takePacket_63 ?_
          refine TT_w32 (fun x64_8 hx8 => ?_)
          refine TT_icmp_le hK (tgt := 69) (irm (by omega) (by omega)) (irm (by omega) (by omega)) dX10_takePacket_64 (by decide) (fun hb64_9 => ?_) (fun hb64_9 => ?_)
          · refine TT_iload_n hK rfl 3 rfl dX10_takePacket_69 ?_
            refine iv_X10_109 hK (s_X11_firstBandOf r g34_6 hT_6 (by first | omega | (simp [up, setR] <;> omega))) ⟨by decide, by decide⟩ (by decide) rfl rfl (Nat.le_of_ble_eq_true rfl) ⟨by decide, by decide⟩ dX10_takePacket_70 ?_
            intro r9 g70_10 hp9
            obtain ⟨⟨hT_10, hG_10⟩, z70_10, hr9, hz_10⟩ := hp9
            rw [hr9]
            have hF_10 : FR [5, 53, 54, 55, 56, 57, 58, 59, 60] h g70_10 := FR_tr hF_6 hG_10 (by decide)
            show TT K ly 0 0 73 [(0, vR 44), (1, vR 5), (2, vI n), (3, vI r), (4, vI z3_1), (5, vI z17_3), (6, vI sm), (7, vI b1)] [vI z70_10] g70_10
            refine TT_istore hK (lv' := [(7, vI z70_10), (0, vR 44), (1, vR 5), (2, vI n), (3, vI r), (4, vI z3_1), (5, vI z17_3), (6, vI sm)]) (by decide) rfl dX10_takePacket_73 ?_
            have L75_11 : ∀ (k11 : Nat) (st9 : Int) (b2 : Int) (w75_11 : Hp_), TY w75_11 → FR [5, 53, 54, 55, 56, 57, 58, 59, 60] h w75_11 → (-2147483648 ≤ st9 ∧ st9 ≤ 2147483647) → (0 ≤ b2 ∧ b2 ≤ 10) → ((w75_11 5 1) = h 5 1) → ((10 : Int) - b2).toNat < k11 → TT K ly 0 0 75 [(0, vR 44), (1, vR 5), (2, vI n), (3, vI r), (4, vI z3_1), (5, vI st9), (6, vI sm), (7, vI b2)] [] w75_11 := by
              intro k11
              induction k11 with
              | zero => intro st9 b2 w75_11 hT75_11 hF75_11 hst9 hb2 k51i hk11; exact absurd hk11 (Nat.not_lt_zero _)
              | succ k11 ih11 =>
                intro st9 b2 w75_11 hT75_11 hF75_11 hst9 hb2 k51i hk11
                refine TT_iload hK 7 rfl dX10_takePacket_75 ?_
                refine TT_iload_n hK rfl 3 rfl dX10_takePacket_77 ?_
                refine iv_X10_112 hK (s_X11_lastBandOf r w75_11 hT75_11 (by first | omega | (simp [up, setR] <;> omega))) ⟨by decide, by decide⟩ (by decide) rfl rfl (Nat.le_of_ble_eq_true rfl) ⟨by decide, by decide⟩ dX10_takePacket_78 ?_
                intro r9 g78_12 hp9
                obtain ⟨⟨hT_12, hG_12⟩, z78_12, hr9, hz_12⟩ := hp9
                rw [hr9]
                have hF_12 : FR [5, 53, 54, 55, 56, 57, 58, 59, 60] h g78_12 := FR_tr hF75_11 hG_12 (by decide)
                show TT K ly 0 0 81 [(0, vR 44), (1, vR 5), (2, vI n), (3, vI r), (4, vI z3_1), (5, vI st9), (6, vI sm), (7, vI b2)] [vI z78_12, vI b2] g78_12
                refine TT_icmp_gt hK (tgt := 134) (irm (by omega) (by omega)) (irm (by omega) (by omega)) dX10_takePacket_81 (by decide) (fun hb81_13 => ?_) (fun hb81_13 => ?_)
                · refine TT_aload_n hK rfl 1 rfl dX10_takePacket_134 ?_
                  refine TT_iload hK 5 rfl dX10_takePacket_135 ?_
                  refine TT_iload_n hK rfl 2 rfl dX10_takePacket_137 ?_
                  refine iv_X10_93 hK (s_takeFrom5_k st9 n g78_12 hT_12 (by first | omega | (simp [up, setR] <;> omega)) (by first | omega | (simp [up, setR] <;> omega))) (by decide) rfl ⟨by decide, by decide⟩ (by decide) rfl rfl (Nat.le_of_ble_eq_true rfl) ⟨by decide, by decide⟩ dX10_takePacket_138 ?_
                  intro r9 g138_14 hp9
                  obtain ⟨⟨hT_14, hG_14⟩, hr9, k51_14⟩ := hp9
                  rw [hr9]
                  have hF_14 : FR [5, 53, 54, 55, 56, 57, 58, 59, 60] h g138_14 := FR_tr hF_12 hG_14 (by decide)
                  rw [show g78_12 5 1 = (w75_11 5) 1 from rd_ (hG_12 5 (by decide)) rfl] at k51_14
                  show TT K ly 0 0 141 [(0, vR 44), (1, vR 5), (2, vI n), (3, vI r), (4, vI z3_1), (5, vI st9), (6, vI sm), (7, vI b2)] [] g138_14
                  refine TT_iconst hK dX10_takePacket_141 ?_
                  refine TT_iret hK hQ ?_ dX10_takePacket_142
                  have e15_5_1 : g138_14 5 1 = (g138_14 5) 1 := rfl
                  exact ⟨⟨hT_14, hF_14⟩, 0, rfl, (by omega), (by rewrite [e15_5_1]; omega)⟩
                · refine TT_aload_n hK rfl 0 rfl dX10_takePacket_84 ?_
                  refine gf_X10_22 hK (by decide) rfl (q := 54) rfl rfl dX10_takePacket_85 ?_
                  refine TT_iload hK 7 rfl dX10_takePacket_88 ?_
                  refine TT_dup2 hK rfl rfl dX10_takePacket_90 ?_
                  refine TT_iald hK (o := 54) (n := 10) (by decide) rfl (by first | omega | (simp [up, setR] <;> omega)) (by first | omega | (simp [up, setR] <;> omega)) (v := (w75_11 54) b2) (rd_ (hG_12 54 (by decide)) rfl) dX10_takePacket_91 ?_
                  have r16 := ty_54 (i := b2) (v := (w75_11 54) b2) hT_12 (rd_ (hG_12 54 (by decide)) rfl) (by omega) (by omega)
                  refine TT_aload_n hK rfl 0 rfl dX10_takePacket_92 ?_
                  refine gf_X10_28 hK (by decide) rfl (q := 56) rfl rfl dX10_takePacket_93 ?_
                  refine TT_iload hK 7 rfl dX10_takePacket_96 ?_
                  refine TT_iald hK (o := 56) (n := 10) (by decide) rfl (by first | omega | (simp [up, setR] <;> omega)) (by first | omega | (simp [up, setR] <;> omega)) (v := (w75_11 56) b2) (rd_ (hG_12 56 (by decide)) rfl) dX10_takePacket_98 ?_
                  have r17 := ty_56 (i := b2) (v := (w75_11 56) b2) hT_12 (rd_ (hG_12 56 (by decide)) rfl) (by omega) (by omega)
                  refine TT_iadd hK dX10_takePacket_99 ?_
                  refine TT_w32 (fun x100_18 hx18 => ?_)
                  refine TT_iast hK (o := 54) (n := 10) (by decide) rfl (by omega) (by omega) dX10_takePacket_100 ?_
                  refine TT_hp (h' := setO g78_12 54 (fup (w75_11 54) b2 x100_18)) (up_can (hG_12 54 (by decide)) rfl rfl) ?_
                  have hT_19 : TY (setO g78_12 54 (fup (w75_11 54) b2 x100_18)) := tu_54 hT_12 (show up g78_12 54 b2 x100_18 = (setO g78_12 54 (fup (w75_11 54) b2 x100_18)) from up_can (hG_12 54 (by decide)) rfl rfl) (by omega)
                  have hF_19 : FR [5, 53, 54, 55, 56, 57, 58, 59, 60] h (setO g78_12 54 (fup (w75_11 54) b2 x100_18)) := FR_up (show up g78_12 54 b2 x100_18 = (setO g78_12 54 (fup (w75_11 54) b2 x100_18)) from up_can (hG_12 54 (by decide)) rfl rfl) hF_12 (by decide)
                  refine TT_aload_n hK rfl 0 rfl dX10_takePacket_101 ?_
                  refine TT_iload hK 7 rfl dX10_takePacket_102 ?_
                  refine TT_iload hK 5 rfl dX10_takePacket_104 ?_
                  refine TT_aload_n hK rfl 0 rfl dX10_takePacket_106 ?_
                  refine gf_X10_31 hK (by decide) rfl (q := 57) rfl rfl dX10_takePacket_107 ?_
                  refine TT_iload hK 7 rfl dX10_takePacket_110 ?_
                  refine TT_iald hK (o := 57) (n := 10) (by decide) rfl (by first | omega | (simp [up, setR] <;> omega)) (by first | omega | (simp [up, setR] <;> omega)) (v := (w75_11 57) b2) (rd_ ((sOf_ne _ _ (by decide)).trans (hG_12 57 (by decide))) rfl) dX10_takePacket_112 ?_
                  have r20 := ty_57 (i := b2) (v := (w75_11 57) b2) hT_19 (rd_ ((sOf_ne _ _ (by decide)).trans (hG_12 57 (by decide))) rfl) (by omega) (by omega)
                  refine iv_X10_115 hK (s_X10_addPart_44 b2 st9 ((w75_11 57) b2) (setO g78_12 54 (fup (w75_11 54) b2 x100_18)) hT_19 (by first | omega | (simp [up, setR] <;> omega)) (by first | omega | (simp [up, setR] <;> omega)) (by first | omega | (simp [up, setR] <;> omega))) (by decide) rfl ⟨by decide, by decide⟩ (by decide) rfl rfl (Nat.le_of_ble_eq_true rfl) ⟨by decide, by decide⟩ dX10_takePacket_113 ?_
                  intro r9 g113_21 hp9
                  obtain ⟨⟨hT_21, hG_21⟩, hr9⟩ := hp9
                  rw [hr9]
                  have hF_21 : FR [5, 53, 54, 55, 56, 57, 58, 59, 60] h g113_21 := FR_tr hF_19 hG_21 (by decide)
                  show TT K ly 0 0 116 [(0, vR 44), (1, vR 5), (2, vI n), (3, vI r), (4, vI z3_1), (5, vI st9), (6, vI sm), (7, vI b2)] [] g113_21
                  refine TT_iload hK 5 rfl dX10_takePacket_116 ?_
                  refine TT_aload_n hK rfl 0 rfl dX10_takePacket_118 ?_
                  refine gf_X10_31 hK (by decide) rfl (q := 57) rfl rfl dX10_takePacket_119 ?_
                  refine TT_iload hK 7 rfl dX10_takePacket_122 ?_
                  refine TT_iald hK (o := 57) (n := 10) (by decide) rfl (by first | omega | (simp [up, setR] <;> omega)) (by first | omega | (simp [up, setR] <;> omega)) (v := (w75_11 57) b2) (rd_ (((hG_21 57 (by decide))).trans ((sOf_ne _ _ (by decide)).trans (hG_12 57 (by decide)))) rfl) dX10_takePacket_124 ?_
                  refine TT_iadd hK dX10_takePacket_125 ?_
                  refine TT_w32 (fun x126_22 hx22 => ?_)
                  refine TT_istore hK (lv' := [(5, vI x126_22), (0, vR 44), (1, vR 5), (2, vI n), (3, vI r), (4, vI z3_1), (6, vI sm), (7, vI b2)]) (by decide) rfl dX10_takePacket_126 ?_
                  refine TT_iinc hK (v := b2 + 1) (lv' := [(7, vI (b2 + 1)), (5, vI x126_22), (0, vR 44), (1, vR 5), (2, vI n), (3, vI r), (4, vI z3_1), (6, vI sm)]) 7 rfl rfl (by decide) rfl dX10_takePacket_128 ?_
                  refine TT_goto hK (tgt := 75) dX10_takePacket_131 (by decide) ?_
                  refine TT_sub [2, 3, 4, 5, 6, 1, 7, 0] rfl ?_
                  have e23_5_1 : g113_21 5 1 = (w75_11 5) 1 := rd_ (((hG_21 5 (by decide))).trans ((sOf_ne _ _ (by decide)).trans (hG_12 5 (by decide)))) rfl
                  exact ih11 x126_22 (b2 + 1) g113_21 hT_21 hF_21 (by first | omega | (simp [up, setR] <;> omega)) (by first | omega | (simp [up, setR] <;> omega)) (by rewrite [e23_5_1]; first | omega | (simp [up, setR] <;> omega)) (by first | omega | (simp [up, setR] <;> omega))
            refine TT_sub [1, 2, 3, 4, 5, 6, 7, 0] rfl ?_
            have e24_5_1 : g70_10 5 1 = (w31_5 5) 1 := rd_ (((hG_10 5 (by decide))).trans (hG_6 5 (by decide))) rfl
            exact L75_11 ((((10 : Int) - z70_10).toNat) + 1) z17_3 z70_10 g70_10 hT_10 hF_10 (by first | omega | (simp [up, setR] <;> omega)) (by first | omega | (simp [up, setR] <;> omega)) (by rewrite [e24_5_1]; first | omega | (simp [up, setR] <;> omega)) (Nat.lt_succ_self _)
          · refine TT_iconst hK dX10_takePacket_67 ?_
            refine TT_iret hK hQ ?_ dX10_takePacket_68
            have e25_5_1 : g34_6 5 1 = (w31_5 5) 1 := rd_ (hG_6 5 (by decide)) rfl
            exact ⟨⟨hT_6, hF_6⟩, 1, rfl, (by omega), (by rewrite [e25_5_1]; omega)⟩
        · refine TT_iload hK 6 rfl dX10_takePacket_40 ?_
          refine TT_aload_n hK rfl 0 rfl dX10_takePacket_42 ?_
          refine gf_X10_31 hK (by decide) rfl (q := 57) rfl rfl dX10_takePacket_43 ?_
          refine TT_iload hK 7 rfl dX10_takePacket_46 ?_
          refine TT_iald hK (o := 57) (n := 10) (by decide) rfl (by first | omega | (simp [up, setR] <;> omega)) (by first | omega | (simp [up, setR] <;> omega)) (v := (w31_5 57) b1) (rd_ (hG_6 57 (by decide)) rfl) dX10_takePacket_48 ?_
          have r26 := ty_57 (i := b1) (v := (w31_5 57) b1) hT_6 (rd_ (hG_6 57 (by decide)) rfl) (by omega) (by omega)
          refine TT_iadd hK dX10_takePacket_49 ?_
          refine TT_w32 (fun x50_27 hx27 => ?_)
          refine TT_istore hK (lv' := [(6, vI x50_27), (0, vR 44), (1, vR 5), (2, vI n), (3, vI r), (4, vI z3_1), (5, vI z17_3), (7, vI b1)]) (by decide) rfl dX10_takePacket_50 ?_
          refine TT_iinc hK (v := b1 + 1) (lv' := [(7, vI (b1 + 1)), (6, vI x50_27), (0, vR 44), (1, vR 5), (2, vI n), (3, vI r), (4, vI z3_1), (5, vI z17_3)]) 7 rfl rfl (by decide) rfl dX10_takePacket_52 ?_
          refine TT_goto hK (tgt := 31) dX10_takePacket_55 (by decide) ?_
          refine TT_sub [2, 3, 4, 5, 6, 7, 1, 0] rfl ?_
          have e28_5_1 : g34_6 5 1 = (w31_5 5) 1 := rd_ (hG_6 5 (by decide)) rfl
          exact ih5 x50_27 (b1 + 1) g34_6 hT_6 hF_6 (by first | omega | (simp [up, setR] <;> omega)) (by first | omega | (simp [up, setR] <;> omega)) (by rewrite [e28_5_1]; first | omega | (simp [up, setR] <;> omega)) (by first | omega | (simp [up, setR] <;> omega))
    refine TT_sub [4, 5, 6, 7, 3, 2, 1, 0] rfl ?_
    have e29_5_1 : g26_4 5 1 = (g3_1 5) 1 := rd_ (((hG_4 5 (by decide))).trans (hG_3 5 (by decide))) rfl
    exact L31_5 ((((10 : Int) - z26_4).toNat) + 1) 0 z26_4 g26_4 hT_4 hF_4 (by first | omega | (simp [up, setR] <;> omega)) (by first | omega | (simp [up, setR] <;> omega)) (by rewrite [e29_5_1]; first | omega | (simp [up, setR] <;> omega)) (Nat.lt_succ_self _)
  · refine TT_iload hK 0 rfl dX10_takePacket_13 ?_
    refine TT_iret hK hQ ?_ dX10_takePacket_15
    have e30_5_1 : g3_1 5 1 = (g3_1 5) 1 := rfl
    exact ⟨⟨hT_1, hF_1⟩, z3_1, rfl, (by omega), (by rewrite [e30_5_1]; omega)⟩
set_option maxRecDepth 20000 in
theorem s_takePackets_k (n : Int) (h : Hp_) (hT : TY h) (hn : -2147483648 ≤ n ∧ n ≤ 2147483647) (hbd : BDQ (h 47) (h 49) (h 48) (h 50)) : Ctr yX10_takePackets cX10_takePackets 7 (some .int) (rmd 6) ly ly 0 0 [vR 44, vR 5, vI n] h (fun r h' => (TY h' ∧ FR [5, 45, 47, 48, 49, 50, 53, 54, 55, 56, 57, 58, 59, 60] h h') ∧ ∃ z : Int, r = some (vI z) ∧ (-1 ≤ z ∧ z ≤ 12) ∧ (BDQ (h' 47) (h' 49) (h' 48) (h' 50)) ∧ ((h' 5 1) = (h 5 1))) := by
  refine Ctr_of (by decide) (Nat.le_of_ble_eq_true rfl) ⟨Nat.le_refl _, Nat.le_refl _⟩ (fun K hK hQ _ => ?_)
  show TT K ly 0 0 0 [(0, vR 44), (1, vR 5), (2, vI n)] [] h
  have hF : FR [5, 45, 47, 48, 49, 50, 53, 54, 55, 56, 57, 58, 59, 60] h h := FR_rf _ _
  refine TT_aload_n hK rfl 1 rfl dX10_takePackets_0 ?_
  refine TT_iconst hK dX10_takePackets_1 ?_
  refine iv_X10_67 hK (s_X1_at_5 2 h hT (by first | omega | (simp [up, setR] <;> omega))) (by decide) rfl ⟨by decide, by decide⟩ (by decide) rfl rfl (Nat.le_of_ble_eq_true rfl) ⟨by decide, by decide⟩ dX10_takePackets_2 ?_
  intro r9 g2_1 hp9
  obtain ⟨⟨hT_1, hG_1⟩, z2_1, hr9, hz_1, p1_1⟩ := hp9
  rw [hr9]
  have hF_1 : FR [5, 45, 47, 48, 49, 50, 53, 54, 55, 56, 57, 58, 59, 60] h g2_1 := FR_tr hF hG_1 (by decide)
  rw [show h 5 1 = (h 5) 1 from rfl] at p1_1
  show TT K ly 0 0 5 [(0, vR 44), (1, vR 5), (2, vI n)] [vI z2_1] g2_1
  refine TT_istore_n hK rfl (lv' := [(3, vI z2_1), (0, vR 44), (1, vR 5), (2, vI n)]) (by decide) rfl dX10_takePackets_5 ?_
  refine TT_aload_n hK rfl 2 rfl dX10_takePackets_6 ?_
  refine TT_iconst hK dX10_takePackets_7 ?_
  refine iv_X10_67 hK (s_X1_at_5 3 g2_1 hT_1 (by first | omega | (simp [up, setR] <;> omega))) (by decide) rfl ⟨by decide, by decide⟩ (by decide) rfl rfl (Nat.le_of_ble_eq_true rfl) ⟨by decide, by decide⟩ dX10_takePackets_8 ?_
  intro r9 g8_2 hp9
  obtain ⟨⟨hT_2, hG_2⟩, z8_2, hr9, hz_2, p1_2⟩ := hp9
  rw [hr9]
  have hF_2 : FR [5, 45, 47, 48, 49, 50, 53, 54, 55, 56, 57, 58, 59, 60] h g8_2 := FR_tr hF_1 hG_2 (by decide)
  rw [show g2_1 5 1 = (h 5) 1 from rd_ (hG_1 5 (by decide)) rfl] at p1_2
  rw [show g2_1 6 = h 6 from (hG_1 6 (by decide))] at p1_2
  show TT K ly 0 0 11 [(3, vI z2_1), (0, vR 44), (1, vR 5), (2, vI n)] [vI z8_2] g8_2
  refine TT_istore hK (lv' := [(4, vI z8_2), (3, vI z2_1), (0, vR 44), (1, vR 5), (2, vI n)]) (by decide) rfl dX10_takePackets_11 ?_
  refine TT_aload_n hK rfl 3 rfl dX10_takePackets_13 ?_
  refine TT_iconst hK dX10_takePackets_14 ?_
  refine iv_X10_67 hK (s_X1_at_5 0 g8_2 hT_2 (by first | omega | (simp [up, setR] <;> omega))) (by decide) rfl ⟨by decide, by decide⟩ (by decide) rfl rfl (Nat.le_of_ble_eq_true rfl) ⟨by decide, by decide⟩ dX10_takePackets_15 ?_
  intro r9 g15_3 hp9
  obtain ⟨⟨hT_3, hG_3⟩, z15_3, hr9, hz_3, p1_3⟩ := hp9
  rw [hr9]
  have hF_3 : FR [5, 45, 47, 48, 49, 50, 53, 54, 55, 56, 57, 58, 59, 60] h g15_3 := FR_tr hF_2 hG_3 (by decide)
  rw [show g8_2 5 1 = (h 5) 1 from rd_ (((hG_2 5 (by decide))).trans (hG_1 5 (by decide))) rfl] at p1_3
  rw [show g8_2 6 = h 6 from ((hG_2 6 (by decide))).trans (hG_1 6 (by decide))] at p1_3
  show TT K ly 0 0 18 [(4, vI z8_2), (3, vI z2_1), (0, vR 44), (1, vR 5), (2, vI n)] [vI z15_3] g15_3
  refine iv_X10_73 hK (s_X11_isSide z15_3 g15_3 hT_3 (by first | omega | (simp [up, setR] <;> omega))) ⟨by decide, by decide⟩ (by decide) rfl rfl (Nat.le_of_ble_eq_true rfl) ⟨by decide, by decide⟩ dX10_takePackets_18 ?_
  intro r9 g18_4 hp9
  obtain ⟨⟨hT_4, hG_4⟩, z18_4, hr9, hz_4, p1_4⟩ := hp9
  rw [hr9]
  have hF_4 : FR [5, 45, 47, 48, 49, 50, 53, 54, 55, 56, 57, 58, 59, 60] h g18_4 := FR_tr hF_3 hG_4 (by decide)
  show TT K ly 0 0 21 [(4, vI z8_2), (3, vI z2_1), (0, vR 44), (1, vR 5), (2, vI n)] [vI z18_4] g18_4
  refine TT_if_eq hK (tgt := 50) (irm (by omega) (by omega)) dX10_takePackets_21 (by decide) (fun hb21_5 => ?_) (fun hb21_5 => ?_)
  · refine TT_iconst hK dX10_takePackets_50 ?_
    refine TT_iret hK hQ ?_ dX10_takePackets_51
    have e6_47 : g18_4 47 = h 47 := ((hG_4 47 (by decide))).trans (((hG_3 47 (by decide))).trans (((hG_2 47 (by decide))).trans (hG_1 47 (by decide))))
    have e7_48 : g18_4 48 = h 48 := ((hG_4 48 (by decide))).trans (((hG_3 48 (by decide))).trans (((hG_2 48 (by decide))).trans (hG_1 48 (by decide))))
    have e8_49 : g18_4 49 = h 49 := ((hG_4 49 (by decide))).trans (((hG_3 49 (by decide))).trans (((hG_2 49 (by decide))).trans (hG_1 49 (by decide))))
    have e9_50 : g18_4 50 = h 50 := ((hG_4 50 (by decide))).trans (((hG_3 50 (by decide))).trans (((hG_2 50 (by decide))).trans (hG_1 50 (by decide))))
    have e10_5_1 : g18_4 5 1 = (h 5) 1 := rd_ (((hG_4 5 (by decide))).trans (((hG_3 5 (by decide))).trans (((hG_2 5 (by decide))).trans (hG_1 5 (by decide))))) rfl
    exact ⟨⟨hT_4, hF_4⟩, (-1), rfl, (by omega), (by rewrite [e6_47, e7_48, e8_49, e9_50]; assumption), (by rewrite [e10_5_1]; omega)⟩
  · refine TT_aload_n hK rfl 3 rfl dX10_takePackets_24 ?_
    refine TT_iconst hK dX10_takePackets_25 ?_
    refine iv_X10_67 hK (s_X1_at_5 1 g18_4 hT_4 (by first | omega | (simp [up, setR] <;> omega))) (by decide) rfl ⟨by decide, by decide⟩ (by decide) rfl rfl (Nat.le_of_ble_eq_true rfl) ⟨by decide, by decide⟩ dX10_takePackets_26 ?_
    intro r9 g26_11 hp9
    obtain ⟨⟨hT_11, hG_11⟩, z26_11, hr9, hz_11, p1_11⟩ := hp9
    rw [hr9]
    have hF_11 : FR [5, 45, 47, 48, 49, 50, 53, 54, 55, 56, 57, 58, 59, 60] h g26_11 := FR_tr hF_4 hG_11 (by decide)
    rw [show g18_4 5 1 = (h 5) 1 from rd_ (((hG_4 5 (by decide))).trans (((hG_3 5 (by decide))).trans (((hG_2 5 (by decide))).trans (hG_1 5 (by decide))))) rfl] at p1_11
    rw [show g18_4 6 = h 6 from ((hG_4 6 (by decide))).trans (((hG_3 6 (by decide))).trans (((hG_2 6 (by decide))).trans (hG_1 6 (by decide))))] at p1_11
    show TT K ly 0 0 29 [(4, vI z8_2), (3, vI z2_1), (0, vR 44), (1, vR 5), (2, vI n)] [vI z26_11] g26_11
    refine iv_X10_73 hK (s_X11_isSide z26_11 g26_11 hT_11 (by first | omega | (simp [up, setR] <;> omega))) ⟨by decide, by decide⟩ (by decide) rfl rfl (Nat.le_of_ble_eq_true rfl) ⟨by decide, by decide⟩ dX10_takePackets_29 ?_
    intro r9 g29_12 hp9
    obtain ⟨⟨hT_12, hG_12⟩, z29_12, hr9, hz_12, p1_12⟩ := hp9
    rw [hr9]
    have hF_12 : FR [5, 45, 47, 48, 49, 50, 53, 54, 55, 56, 57, 58, 59, 60] h g29_12 := FR_tr hF_11 hG_12 (by decide)
    show TT K ly 0 0 32 [(4, vI z8_2), (3, vI z2_1), (0, vR 44), (1, vR 5), (2, vI n)] [vI z29_12] g29_12
    refine TT_if_eq hK (tgt := 50) (irm (by omega) (by omega)) dX10_takePackets_32 (by decide) (fun hb32_13 => ?_) (fun hb32_13 => ?_)
    · refine TT_iconst hK dX10_takePackets_50 ?_
      refine TT_iret hK hQ ?_ dX10_takePackets_51
      have e14_47 : g29_12 47 = h 47 := ((hG_12 47 (by decide))).trans (((hG_11 47 (by decide))).trans (((hG_4 47 (by decide))).trans (((hG_3 47 (by decide))).trans (((hG_2 47 (by decide))).trans (hG_1 47 (by decide))))))
      have e15_48 : g29_12 48 = h 48 := ((hG_12 48 (by decide))).trans (((hG_11 48 (by decide))).trans (((hG_4 48 (by decide))).trans (((hG_3 48 (by decide))).trans (((hG_2 48 (by decide))).trans (hG_1 48 (by decide))))))
      have e16_49 : g29_12 49 = h 49 := ((hG_12 49 (by decide))).trans (((hG_11 49 (by decide))).trans (((hG_4 49 (by decide))).trans (((hG_3 49 (by decide))).trans (((hG_2 49 (by decide))).trans (hG_1 49 (by decide))))))
      have e17_50 : g29_12 50 = h 50 := ((hG_12 50 (by decide))).trans (((hG_11 50 (by decide))).trans (((hG_4 50 (by decide))).trans (((hG_3 50 (by decide))).trans (((hG_2 50 (by decide))).trans (hG_1 50 (by decide))))))
      have e18_5_1 : g29_12 5 1 = (h 5) 1 := rd_ (((hG_12 5 (by decide))).trans (((hG_11 5 (by decide))).trans (((hG_4 5 (by decide))).trans (((hG_3 5 (by decide))).trans (((hG_2 5 (by decide))).trans (hG_1 5 (by decide))))))) rfl
      exact ⟨⟨hT_12, hF_12⟩, (-1), rfl, (by omega), (by rewrite [e14_47, e15_48, e16_49, e17_50]; assumption), (by rewrite [e18_5_1]; omega)⟩
    · refine TT_iload_n hK rfl 1 rfl dX10_takePackets_35 ?_
      refine iv_X10_77 hK (s_X11_areLevels z2_1 g29_12 hT_12 (by first | omega | (simp [up, setR] <;> omega))) ⟨by decide, by decide⟩ (by decide) rfl rfl (Nat.le_of_ble_eq_true rfl) ⟨by decide, by decide⟩ dX10_takePackets_36 ?_
      intro r9 g36_19 hp9
      obtain ⟨⟨hT_19, hG_19⟩, z36_19, hr9, hz_19, p1_19⟩ := hp9
      rw [hr9]
      have hF_19 : FR [5, 45, 47, 48, 49, 50, 53, 54, 55, 56, 57, 58, 59, 60] h g36_19 := FR_tr hF_12 hG_19 (by decide)
      show TT K ly 0 0 39 [(4, vI z8_2), (3, vI z2_1), (0, vR 44), (1, vR 5), (2, vI n)] [vI z36_19] g36_19
      refine TT_if_eq hK (tgt := 50) (irm (by omega) (by omega)) dX10_takePackets_39 (by decide) (fun hb39_20 => ?_) (fun hb39_20 => ?_)
      · refine TT_iconst hK dX10_takePackets_50 ?_
        refine TT_iret hK hQ ?_ dX10_takePackets_51
        have e21_47 : g36_19 47 = h 47 := ((hG_19 47 (by decide))).trans (((hG_12 47 (by decide))).trans (((hG_11 47 (by decide))).trans (((hG_4 47 (by decide))).trans (((hG_3 47 (by decide))).trans (((hG_2 47 (by decide))).trans (hG_1 47 (by decide)))))))
        have e22_48 : g36_19 48 = h 48 := ((hG_19 48 (by decide))).trans (((hG_12 48 (by decide))).trans (((hG_11 48 (by decide))).trans (((hG_4 48 (by decide))).trans (((hG_3 48 (by decide))).trans (((hG_2 48 (by decide))).trans (hG_1 48 (by decide)))))))
        have e23_49 : g36_19 49 = h 49 := ((hG_19 49 (by decide))).trans (((hG_12 49 (by decide))).trans (((hG_11 49 (by decide))).trans (((hG_4 49 (by decide))).trans (((hG_3 49 (by decide))).trans (((hG_2 49 (by decide))).trans (hG_1 49 (by decide)))))))
        have e24_50 : g36_19 50 = h 50 := ((hG_19 50 (by decide))).trans (((hG_12 50 (by decide))).trans (((hG_11 50 (by decide))).trans (((hG_4 50 (by decide))).trans (((hG_3 50 (by decide))).trans (((hG_2 50 (by decide))).trans (hG_1 50 (by decide)))))))
        have e25_5_1 : g36_19 5 1 = (h 5) 1 := rd_ (((hG_19 5 (by decide))).trans (((hG_12 5 (by decide))).trans (((hG_11 5 (by decide))).trans (((hG_4 5 (by decide))).trans (((hG_3 5 (by decide))).trans (((hG_2 5 (by decide))).trans (hG_1 5 (by decide)))))))) rfl
        exact ⟨⟨hT_19, hF_19⟩, (-1), rfl, (by omega), (by rewrite [e21_47, e22_48, e23_49, e24_50]; assumption), (by rewrite [e25_5_1]; omega)⟩
      · refine TT_iload hK 0 rfl dX10_takePackets_42 ?_
        refine iv_X10_80 hK (s_X11_areLayers z8_2 g36_19 hT_19 (by first | omega | (simp [up, setR] <;> omega))) ⟨by decide, by decide⟩ (by decide) rfl rfl (Nat.le_of_ble_eq_true rfl) ⟨by decide, by decide⟩ dX10_takePackets_44 ?_
        intro r9 g44_26 hp9
        obtain ⟨⟨hT_26, hG_26⟩, z44_26, hr9, hz_26, p1_26⟩ := hp9
        rw [hr9]
        have hF_26 : FR [5, 45, 47, 48, 49, 50, 53, 54, 55, 56, 57, 58, 59, 60] h g44_26 := FR_tr hF_19 hG_26 (by decide)
        show TT K ly 0 0 47 [(4, vI z8_2), (3, vI z2_1), (0, vR 44), (1, vR 5), (2, vI n)] [vI z44_26] g44_26
        refine TT_if_ne hK (tgt := 52) (irm (by omega) (by omega)) dX10_takePackets_47 (by decide) (fun hb47_27 => ?_) (fun hb47_27 => ?_)
        · refine TT_aload_n hK rfl 2 rfl dX10_takePackets_52 ?_
          refine gf_X10_12 hK (by decide) rfl (q := 45) rfl rfl dX10_takePackets_53 ?_
          refine TT_aload_n hK rfl 3 rfl dX10_takePackets_56 ?_
          refine TT_iconst hK dX10_takePackets_57 ?_
          refine iv_X10_67 hK (s_X1_at_5 0 g44_26 hT_26 (by first | omega | (simp [up, setR] <;> omega))) (by decide) rfl ⟨by decide, by decide⟩ (by decide) rfl rfl (Nat.le_of_ble_eq_true rfl) ⟨by decide, by decide⟩ dX10_takePackets_58 ?_
          intro r9 g58_28 hp9
          obtain ⟨⟨hT_28, hG_28⟩, z58_28, hr9, hz_28, p1_28⟩ := hp9
          rw [hr9]
          have hF_28 : FR [5, 45, 47, 48, 49, 50, 53, 54, 55, 56, 57, 58, 59, 60] h g58_28 := FR_tr hF_26 hG_28 (by decide)
          rw [show g44_26 5 1 = (h 5) 1 from rd_ (((hG_26 5 (by decide))).trans (((hG_19 5 (by decide))).trans (((hG_12 5 (by decide))).trans (((hG_11 5 (by decide))).trans (((hG_4 5 (by decide))).trans (((hG_3 5 (by decide))).trans (((hG_2 5 (by decide))).trans (hG_1 5 (by decide))))))))) rfl] at p1_28
          rw [show g44_26 6 = h 6 from ((hG_26 6 (by decide))).trans (((hG_19 6 (by decide))).trans (((hG_12 6 (by decide))).trans (((hG_11 6 (by decide))).trans (((hG_4 6 (by decide))).trans (((hG_3 6 (by decide))).trans (((hG_2 6 (by decide))).trans (hG_1 6 (by decide))))))))] at p1_28
          show TT K ly 0 0 61 [(4, vI z8_2), (3, vI z2_1), (0, vR 44), (1, vR 5), (2, vI n)] [vI z58_28, vR 45] g58_28
          refine TT_aload_n hK rfl 3 rfl dX10_takePackets_61 ?_
          refine TT_iconst hK dX10_takePackets_62 ?_
          refine iv_X10_67 hK (s_X1_at_5 1 g58_28 hT_28 (by first | omega | (simp [up, setR] <;> omega))) (by decide) rfl ⟨by decide, by decide⟩ (by decide) rfl rfl (Nat.le_of_ble_eq_true rfl) ⟨by decide, by decide⟩ dX10_takePackets_63 ?_
          intro r9 g63_29 hp9
          obtain ⟨⟨hT_29, hG_29⟩, z63_29, hr9, hz_29, p1_29⟩ := hp9
          rw [hr9]
          have hF_29 : FR [5, 45, 47, 48, 49, 50, 53, 54, 55, 56, 57, 58, 59, 60] h g63_29 := FR_tr hF_28 hG_29 (by decide)
          rw [show g58_28 5 1 = (h 5) 1 from rd_ (((hG_28 5 (by decide))).trans (((hG_26 5 (by decide))).trans (((hG_19 5 (by decide))).trans (((hG_12 5 (by decide))).trans (((hG_11 5 (by decide))).trans (((hG_4 5 (by decide))).trans (((hG_3 5 (by decide))).trans (((hG_2 5 (by decide))).trans (hG_1 5 (by decide)))))))))) rfl] at p1_29
          rw [show g58_28 6 = h 6 from ((hG_28 6 (by decide))).trans (((hG_26 6 (by decide))).trans (((hG_19 6 (by decide))).trans (((hG_12 6 (by decide))).trans (((hG_11 6 (by decide))).trans (((hG_4 6 (by decide))).trans (((hG_3 6 (by decide))).trans (((hG_2 6 (by decide))).trans (hG_1 6 (by decide)))))))))] at p1_29
          show TT K ly 0 0 66 [(4, vI z8_2), (3, vI z2_1), (0, vR 44), (1, vR 5), (2, vI n)] [vI z63_29, vI z58_28, vR 45] g63_29
          refine TT_iload_n hK rfl 1 rfl dX10_takePackets_66 ?_
          have e30_47 : g63_29 47 = h 47 := ((hG_29 47 (by decide))).trans (((hG_28 47 (by decide))).trans (((hG_26 47 (by decide))).trans (((hG_19 47 (by decide))).trans (((hG_12 47 (by decide))).trans (((hG_11 47 (by decide))).trans (((hG_4 47 (by decide))).trans (((hG_3 47 (by decide))).trans (((hG_2 47 (by decide))).trans (hG_1 47 (by decide))))))))))
          have e31_48 : g63_29 48 = h 48 := ((hG_29 48 (by decide))).trans (((hG_28 48 (by decide))).trans (((hG_26 48 (by decide))).trans (((hG_19 48 (by decide))).trans (((hG_12 48 (by decide))).trans (((hG_11 48 (by decide))).trans (((hG_4 48 (by decide))).trans (((hG_3 48 (by decide))).trans (((hG_2 48 (by decide))).trans (hG_1 48 (by decide))))))))))
          have e32_49 : g63_29 49 = h 49 := ((hG_29 49 (by decide))).trans (((hG_28 49 (by decide))).trans (((hG_26 49 (by decide))).trans (((hG_19 49 (by decide))).trans (((hG_12 49 (by decide))).trans (((hG_11 49 (by decide))).trans (((hG_4 49 (by decide))).trans (((hG_3 49 (by decide))).trans (((hG_2 49 (by decide))).trans (hG_1 49 (by decide))))))))))
          have e33_50 : g63_29 50 = h 50 := ((hG_29 50 (by decide))).trans (((hG_28 50 (by decide))).trans (((hG_26 50 (by decide))).trans (((hG_19 50 (by decide))).trans (((hG_12 50 (by decide))).trans (((hG_11 50 (by decide))).trans (((hG_4 50 (by decide))).trans (((hG_3 50 (by decide))).trans (((hG_2 50 (by decide))).trans (hG_1 50 (by decide))))))))))
          refine iv_X10_83 hK (s_X0_lay_45 z58_28 z63_29 z2_1 g63_29 hT_29 (by first | omega | (simp [up, setR] <;> omega)) (by first | omega | (simp [up, setR] <;> omega)) (by first | omega | (simp [up, setR] <;> omega)) (by rewrite [e30_47, e31_48, e32_49, e33_50]; exact hbd)) (by decide) rfl ⟨by decide, by decide⟩ (by decide) rfl rfl (Nat.le_of_ble_eq_true rfl) ⟨by decide, by decide⟩ dX10_takePackets_67 ?_
          intro r9 g67_34 hp9
          obtain ⟨⟨hT_34, hG_34⟩, hr9, p1_34⟩ := hp9
          rw [hr9]
          have hF_34 : FR [5, 45, 47, 48, 49, 50, 53, 54, 55, 56, 57, 58, 59, 60] h g67_34 := FR_tr hF_29 hG_34 (by decide)
          show TT K ly 0 0 70 [(4, vI z8_2), (3, vI z2_1), (0, vR 44), (1, vR 5), (2, vI n)] [] g67_34
          refine TT_aload_n hK rfl 2 rfl dX10_takePackets_70 ?_
          refine gf_X10_22 hK (by decide) rfl (q := 54) rfl rfl dX10_takePackets_71 ?_
          refine TT_iconst hK dX10_takePackets_74 ?_
          refine iv_X10_87 hK (s_fill_54 0 g67_34 hT_34 (by first | omega | (simp [up, setR] <;> omega))) ⟨by decide, by decide⟩ (by decide) rfl rfl (Nat.le_of_ble_eq_true rfl) ⟨by decide, by decide⟩ dX10_takePackets_75 ?_
          intro r9 g75_35 hp9
          obtain ⟨⟨hT_35, hG_35⟩, hr9⟩ := hp9
          rw [hr9]
          have hF_35 : FR [5, 45, 47, 48, 49, 50, 53, 54, 55, 56, 57, 58, 59, 60] h g75_35 := FR_tr hF_34 hG_35 (by decide)
          show TT K ly 0 0 78 [(4, vI z8_2), (3, vI z2_1), (0, vR 44), (1, vR 5), (2, vI n)] [] g75_35
          refine TT_aload_n hK rfl 2 rfl dX10_takePackets_78 ?_
          refine gf_X10_25 hK (by decide) rfl (q := 55) rfl rfl dX10_takePackets_79 ?_
          refine TT_iconst hK dX10_takePackets_82 ?_
          refine iv_X10_87 hK (s_fill_55 3 g75_35 hT_35 (by first | omega | (simp [up, setR] <;> omega))) ⟨by decide, by decide⟩ (by decide) rfl rfl (Nat.le_of_ble_eq_true rfl) ⟨by decide, by decide⟩ dX10_takePackets_83 ?_
          intro r9 g83_36 hp9
          obtain ⟨⟨hT_36, hG_36⟩, hr9⟩ := hp9
          rw [hr9]
          have hF_36 : FR [5, 45, 47, 48, 49, 50, 53, 54, 55, 56, 57, 58, 59, 60] h g83_36 := FR_tr hF_35 hG_36 (by decide)
          show TT K ly 0 0 86 [(4, vI z8_2), (3, vI z2_1), (0, vR 44), (1, vR 5), (2, vI n)] [] g83_36
          refine TT_aload_n hK rfl 2 rfl dX10_takePackets_86 ?_
          refine gf_X10_34 hK (by decide) rfl (q := 58) rfl rfl dX10_takePackets_87 ?_
          refine TT_iconst hK dX10_takePackets_90 ?_
          refine iv_X10_87 hK (s_fill_58 0 g83_36 hT_36 (by first | omega | (simp [up, setR] <;> omega))) ⟨by decide, by decide⟩ (by decide) rfl rfl (Nat.le_of_ble_eq_true rfl) ⟨by decide, by decide⟩ dX10_takePackets_91 ?_
          intro r9 g91_37 hp9
          obtain ⟨⟨hT_37, hG_37⟩, hr9⟩ := hp9
          rw [hr9]
          have hF_37 : FR [5, 45, 47, 48, 49, 50, 53, 54, 55, 56, 57, 58, 59, 60] h g91_37 := FR_tr hF_36 hG_37 (by decide)
          show TT K ly 0 0 94 [(4, vI z8_2), (3, vI z2_1), (0, vR 44), (1, vR 5), (2, vI n)] [] g91_37
          refine TT_aload_n hK rfl 3 rfl dX10_takePackets_94 ?_
          refine TT_iconst hK dX10_takePackets_95 ?_
          refine TT_iload_n hK rfl 4 rfl dX10_takePackets_96 ?_
          refine iv_X10_93 hK (s_takeFrom5_k 4 n g91_37 hT_37 (by first | omega | (simp [up, setR] <;> omega)) (by first | omega | (simp [up, setR] <;> omega))) (by decide) rfl ⟨by decide, by decide⟩ (by decide) rfl rfl (Nat.le_of_ble_eq_true rfl) ⟨by decide, by decide⟩ dX10_takePackets_97 ?_
          intro r9 g97_38 hp9
          obtain ⟨⟨hT_38, hG_38⟩, hr9, k51_38⟩ := hp9
          rw [hr9]
          have hF_38 : FR [5, 45, 47, 48, 49, 50, 53, 54, 55, 56, 57, 58, 59, 60] h g97_38 := FR_tr hF_37 hG_38 (by decide)
          rw [show g91_37 5 1 = (h 5) 1 from rd_ (((hG_37 5 (by decide))).trans (((hG_36 5 (by decide))).trans (((hG_35 5 (by decide))).trans (((hG_34 5 (by decide))).trans (((hG_29 5 (by decide))).trans (((hG_28 5 (by decide))).trans (((hG_26 5 (by decide))).trans (((hG_19 5 (by decide))).trans (((hG_12 5 (by decide))).trans (((hG_11 5 (by decide))).trans (((hG_4 5 (by decide))).trans (((hG_3 5 (by decide))).trans (((hG_2 5 (by decide))).trans (hG_1 5 (by decide))))))))))))))) rfl] at k51_38
          show TT K ly 0 0 100 [(4, vI z8_2), (3, vI z2_1), (0, vR 44), (1, vR 5), (2, vI n)] [] g97_38
          refine TT_iconst hK dX10_takePackets_100 ?_
          refine TT_istore hK (lv' := [(5, vI 0), (4, vI z8_2), (3, vI z2_1), (0, vR 44), (1, vR 5), (2, vI n)]) (by decide) rfl dX10_takePackets_101 ?_
          have L103_39 : ∀ (k39 : Nat) (k : Int) (w103_39 : Hp_), TY w103_39 → FR [5, 45, 47, 48, 49, 50, 53, 54, 55, 56, 57, 58, 59, 60] h w103_39 → (0 ≤ k ∧ k ≤ 12) → (BDQ (w103_39 47) (w103_39 49) (w103_39 48) (w103_39 50)) → ((w103_39 5 1) = h 5 1) → ((12 : Int) - k).toNat < k39 → TT K ly 0 0 103 [(0, vR 44), (1, vR 5), (2, vI n), (3, vI z2_1), (4, vI z8_2), (5, vI k)] [] w103_39 := by
            intro k39
            induction k39 with
            | zero => intro k w103_39 hT103_39 hF103_39 hk hbd2 k51i hk39; exact absurd hk39 (Nat.not_lt_zero _)
            | succ k39 ih39 =>
              intro k w103_39 hT103_39 hF103_39 hk hbd2 k51i hk39
              refine TT_iload hK 5 rfl dX10_takePackets_103 ?_
              refine TT_iload hK 4 rfl dX10_takePackets_105 ?_
              refine TT_iload_n hK rfl 3 rfl dX10_takePackets_107 ?_
              refine TT_iconst hK dX10_takePackets_108 ?_
              refine TT_iadd hK dX10_takePackets_109 ?_
              refine TT_imul hK dX10_takePackets_110 ?_
              refine TT_nmI (fun m9 hm9 => ?_)
              refine TT_icmp_ge hK (tgt := 152) (irm (by have := pu2 hm9 (by omega) (by omega); omega) (by have := pu2 hm9 (by omega) (by omega); omega)) (irm (by have := pu2 hm9 (by omega) (by omega); omega) (by have := pu2 hm9 (by omega) (by omega); omega)) dX10_takePackets_111 (by decide) (fun hb111_40 => ?_) (fun hb111_40 => ?_)
              · refine TT_iload hK 4 rfl dX10_takePackets_152 ?_
                refine TT_iload_n hK rfl 3 rfl dX10_takePackets_154 ?_
                refine TT_iconst hK dX10_takePackets_155 ?_
                refine TT_iadd hK dX10_takePackets_156 ?_
                refine TT_imul hK dX10_takePackets_157 ?_
                refine TT_nmI (fun m8 hm8 => ?_)
                refine TT_iret hK hQ ?_ dX10_takePackets_158
                have e41_5_1 : w103_39 5 1 = (w103_39 5) 1 := rfl
                exact ⟨⟨hT103_39, hF103_39⟩, m8, rfl, (by have := pu2 hm8 (by omega) (by omega); omega), (by assumption), (by rewrite [e41_5_1]; omega)⟩
              · have hm8 := pu2 hm9 (by omega) (by omega)
                refine TT_aload_n hK rfl 0 rfl dX10_takePackets_114 ?_
                refine TT_aload_n hK rfl 1 rfl dX10_takePackets_115 ?_
                refine TT_iload_n hK rfl 2 rfl dX10_takePackets_116 ?_
                refine TT_iload hK 5 rfl dX10_takePackets_117 ?_
                refine TT_iload_n hK rfl 3 rfl dX10_takePackets_119 ?_
                refine TT_iconst hK dX10_takePackets_120 ?_
                refine TT_iadd hK dX10_takePackets_121 ?_
                refine TT_iremn hK (irm (by omega) (by omega)) (irm (by omega) (by omega)) (by first | omega | (simp [up, setR] <;> omega)) (by first | omega | (simp [up, setR] <;> omega)) dX10_takePackets_122 ?_
                have hq8 := pu3 k (l := z2_1) (by omega)
                refine iv_X10_97 hK (s_takePacket_k n (k % (z2_1 + 1)) w103_39 hT103_39 (by first | omega | (simp [up, setR] <;> omega)) (by first | omega | (simp [up, setR] <;> omega))) (by decide) rfl ⟨by decide, by decide⟩ (by decide) rfl rfl (Nat.le_of_ble_eq_true rfl) ⟨by decide, by decide⟩ dX10_takePackets_123 ?_
                intro r9 g123_42 hp9
                obtain ⟨⟨hT_42, hG_42⟩, z123_42, hr9, hz_42, k51_42⟩ := hp9
                rw [hr9]
                have hF_42 : FR [5, 45, 47, 48, 49, 50, 53, 54, 55, 56, 57, 58, 59, 60] h g123_42 := FR_tr hF103_39 hG_42 (by decide)
                rw [show w103_39 5 1 = (w103_39 5) 1 from rfl] at k51_42
                show TT K ly 0 0 126 [(0, vR 44), (1, vR 5), (2, vI n), (3, vI z2_1), (4, vI z8_2), (5, vI k)] [vI z123_42] g123_42
                refine TT_istore hK (lv' := [(6, vI z123_42), (0, vR 44), (1, vR 5), (2, vI n), (3, vI z2_1), (4, vI z8_2), (5, vI k)]) (by decide) rfl dX10_takePackets_126 ?_
                refine TT_iload hK 0 rfl dX10_takePackets_128 ?_
                refine TT_if_eq hK (tgt := 146) (irm (by omega) (by omega)) dX10_takePackets_130 (by decide) (fun hb130_43 => ?_) (fun hb130_43 => ?_)
                · refine TT_iinc hK (v := k + 1) (lv' := [(5, vI (k + 1)), (6, vI z123_42), (0, vR 44), (1, vR 5), (2, vI n), (3, vI z2_1), (4, vI z8_2)]) 6 rfl rfl (by decide) rfl dX10_takePackets_146 ?_
                  refine TT_goto hK (tgt := 103) dX10_takePackets_149 (by decide) ?_
                  refine TT_sub [2, 3, 4, 5, 6, 0] rfl ?_
                  have e44_47 : g123_42 47 = w103_39 47 := (hG_42 47 (by decide))
                  have e45_48 : g123_42 48 = w103_39 48 := (hG_42 48 (by decide))
                  have e46_49 : g123_42 49 = w103_39 49 := (hG_42 49 (by decide))
                  have e47_50 : g123_42 50 = w103_39 50 := (hG_42 50 (by decide))
                  have e48_5_1 : g123_42 5 1 = (g123_42 5) 1 := rfl
                  exact ih39 (k + 1) g123_42 hT_42 hF_42 (by first | omega | (simp [up, setR] <;> omega)) (by rewrite [e44_47, e45_48, e46_49, e47_50]; assumption) (by rewrite [e48_5_1]; first | omega | (simp [up, setR] <;> omega)) (by first | omega | (simp [up, setR] <;> omega))
                · refine TT_iload hK 0 rfl dX10_takePackets_133 ?_
                  refine TT_iconst hK dX10_takePackets_135 ?_
                  refine TT_icmp_ne hK (tgt := 144) (irm (by omega) (by omega)) (by decide) dX10_takePackets_136 (by decide) (fun hb136_49 => ?_) (fun hb136_49 => ?_)
                  · refine TT_iconst hK dX10_takePackets_144 ?_
                    refine TT_iret hK hQ ?_ dX10_takePackets_145
                    have e50_47 : g123_42 47 = w103_39 47 := (hG_42 47 (by decide))
                    have e51_48 : g123_42 48 = w103_39 48 := (hG_42 48 (by decide))
                    have e52_49 : g123_42 49 = w103_39 49 := (hG_42 49 (by decide))
                    have e53_50 : g123_42 50 = w103_39 50 := (hG_42 50 (by decide))
                    have e54_5_1 : g123_42 5 1 = (g123_42 5) 1 := rfl
                    exact ⟨⟨hT_42, hF_42⟩, (-1), rfl, (by omega), (by rewrite [e50_47, e51_48, e52_49, e53_50]; assumption), (by rewrite [e54_5_1]; omega)⟩
                  · refine TT_iload hK 6 rfl dX10_takePackets_139 ?_
                    refine TT_goto hK (tgt := 145) dX10_takePackets_141 (by decide) ?_
                    refine TT_iret hK hQ ?_ dX10_takePackets_145
                    have e55_47 : g123_42 47 = w103_39 47 := (hG_42 47 (by decide))
                    have e56_48 : g123_42 48 = w103_39 48 := (hG_42 48 (by decide))
                    have e57_49 : g123_42 49 = w103_39 49 := (hG_42 49 (by decide))
                    have e58_50 : g123_42 50 = w103_39 50 := (hG_42 50 (by decide))
                    have e59_5_1 : g123_42 5 1 = (g123_42 5) 1 := rfl
                    exact ⟨⟨hT_42, hF_42⟩, k, rfl, (by omega), (by rewrite [e55_47, e56_48, e57_49, e58_50]; assumption), (by rewrite [e59_5_1]; omega)⟩
          refine TT_sub [3, 4, 5, 2, 1, 0] rfl ?_
          have e60_47 : g97_38 47 = g67_34 47 := ((hG_38 47 (by decide))).trans (((hG_37 47 (by decide))).trans (((hG_36 47 (by decide))).trans (hG_35 47 (by decide))))
          have e61_48 : g97_38 48 = g67_34 48 := ((hG_38 48 (by decide))).trans (((hG_37 48 (by decide))).trans (((hG_36 48 (by decide))).trans (hG_35 48 (by decide))))
          have e62_49 : g97_38 49 = g67_34 49 := ((hG_38 49 (by decide))).trans (((hG_37 49 (by decide))).trans (((hG_36 49 (by decide))).trans (hG_35 49 (by decide))))
          have e63_50 : g97_38 50 = g67_34 50 := ((hG_38 50 (by decide))).trans (((hG_37 50 (by decide))).trans (((hG_36 50 (by decide))).trans (hG_35 50 (by decide))))
          have e64_5_1 : g97_38 5 1 = (g97_38 5) 1 := rfl
          exact L103_39 ((((12 : Int) - 0).toNat) + 1) 0 g97_38 hT_38 hF_38 (by first | omega | (simp [up, setR] <;> omega)) (by rewrite [e60_47, e61_48, e62_49, e63_50]; assumption) (by rewrite [e64_5_1]; first | omega | (simp [up, setR] <;> omega)) (Nat.lt_succ_self _)
        · refine TT_iconst hK dX10_takePackets_50 ?_
          refine TT_iret hK hQ ?_ dX10_takePackets_51
          have e65_47 : g44_26 47 = h 47 := ((hG_26 47 (by decide))).trans (((hG_19 47 (by decide))).trans (((hG_12 47 (by decide))).trans (((hG_11 47 (by decide))).trans (((hG_4 47 (by decide))).trans (((hG_3 47 (by decide))).trans (((hG_2 47 (by decide))).trans (hG_1 47 (by decide))))))))
          have e66_48 : g44_26 48 = h 48 := ((hG_26 48 (by decide))).trans (((hG_19 48 (by decide))).trans (((hG_12 48 (by decide))).trans (((hG_11 48 (by decide))).trans (((hG_4 48 (by decide))).trans (((hG_3 48 (by decide))).trans (((hG_2 48 (by decide))).trans (hG_1 48 (by decide))))))))
          have e67_49 : g44_26 49 = h 49 := ((hG_26 49 (by decide))).trans (((hG_19 49 (by decide))).trans (((hG_12 49 (by decide))).trans (((hG_11 49 (by decide))).trans (((hG_4 49 (by decide))).trans (((hG_3 49 (by decide))).trans (((hG_2 49 (by decide))).trans (hG_1 49 (by decide))))))))
          have e68_50 : g44_26 50 = h 50 := ((hG_26 50 (by decide))).trans (((hG_19 50 (by decide))).trans (((hG_12 50 (by decide))).trans (((hG_11 50 (by decide))).trans (((hG_4 50 (by decide))).trans (((hG_3 50 (by decide))).trans (((hG_2 50 (by decide))).trans (hG_1 50 (by decide))))))))
          have e69_5_1 : g44_26 5 1 = (h 5) 1 := rd_ (((hG_26 5 (by decide))).trans (((hG_19 5 (by decide))).trans (((hG_12 5 (by decide))).trans (((hG_11 5 (by decide))).trans (((hG_4 5 (by decide))).trans (((hG_3 5 (by decide))).trans (((hG_2 5 (by decide))).trans (hG_1 5 (by decide))))))))) rfl
          exact ⟨⟨hT_26, hF_26⟩, (-1), rfl, (by omega), (by rewrite [e65_47, e66_48, e67_49, e68_50]; assumption), (by rewrite [e69_5_1]; omega)⟩
set_option maxRecDepth 20000 in
theorem s_cdecode_k (n : Int) (h : Hp_) (hT : TY h) (hn : -2147483648 ≤ n ∧ n ≤ 2147483647) (hbd : BDQ (h 47) (h 49) (h 48) (h 50)) : CtrB yX11_decode cX11_decode 3 (some .int) rmB ly 1 6 [vR 0, vI n] h (fun r h' => (TY h' ∧ FR [3, 4, 5, 44, 45, 46, 47, 48, 49, 50, 51, 52, 53, 54, 55, 56, 57, 58, 59, 60, 61, 62, 64, 65, 66, 67, 68, 69, 70, 71, 72] h h') ∧ ∃ z : Int, r = some (vI z) ∧ (0 ≤ z ∧ z ≤ 12) ∧ (BDQ (h' 47) (h' 49) (h' 48) (h' 50)) ∧ ((h' 5 1) = (h 5 1))) (fun h' => (TY h' ∧ FR [3, 4, 5, 44, 45, 46, 47, 48, 49, 50, 51, 52, 53, 54, 55, 56, 57, 58, 59, 60, 61, 62, 64, 65, 66, 67, 68, 69, 70, 71, 72] h h') ∧ (BDQ (h' 47) (h' 49) (h' 48) (h' 50)) ∧ ((h' 5 1) = (h 5 1))) := by
  refine CtrB_of (by decide) (Nat.le_of_ble_eq_true rfl) ⟨by decide, by decide⟩ (fun K hK hQ => ?_)
  show TT K ly 0 0 0 [(0, vR 0), (1, vI n)] [] h
  have hF : FR [3, 4, 5, 44, 45, 46, 47, 48, 49, 50, 51, 52, 53, 54, 55, 56, 57, 58, 59, 60, 61, 62, 64, 65, 66, 67, 68, 69, 70, 71, 72] h h := FR_rf _ _
  refine TT_iload_n hK rfl 1 rfl dX11_decode_0 ?_
  refine TT_iconst hK dX11_decode_1 ?_
  refine TT_icmp_lt hK (tgt := 16) (irm (by omega) (by omega)) (by decide) dX11_decode_2 (by decide) (fun hb2_1 => ?_) (fun hb2_1 => ?_)
  · have e2_5_1 : h 5 1 = (h 5) 1 := rfl
    exact TT_throwB hK hQ 3 (by decide) ⟨⟨hT, hF⟩, (by first | assumption | exact hbd), (by rewrite [e2_5_1]; omega)⟩ (Nat.le_of_ble_eq_true rfl) ⟨by decide, by decide⟩ dX11_decode_16 dX11_decode_19 dX11_decode_20 dX11_decode_22 dX11_decode_25
  · refine TT_iload_n hK rfl 1 rfl dX11_decode_5 ?_
    refine TT_aload_n hK rfl 0 rfl dX11_decode_6 ?_
    refine gf_X11_22 hK (by decide) rfl (q := 5) rfl rfl dX11_decode_7 ?_
    refine iv_X11_81 hK (s_X1_length_5 h hT ) (by decide) rfl ⟨by decide, by decide⟩ (by decide) rfl rfl (Nat.le_of_ble_eq_true rfl) ⟨by decide, by decide⟩ dX11_decode_10 ?_
    intro r9 g10_3 hp9
    obtain ⟨⟨hT_3, hG_3⟩, z10_3, hr9, hz_3⟩ := hp9
    rw [hr9]
    have hF_3 : FR [3, 4, 5, 44, 45, 46, 47, 48, 49, 50, 51, 52, 53, 54, 55, 56, 57, 58, 59, 60, 61, 62, 64, 65, 66, 67, 68, 69, 70, 71, 72] h g10_3 := FR_tr hF hG_3 (by decide)
    show TT K ly 0 0 13 [(0, vR 0), (1, vI n)] [vI z10_3, vI n] g10_3
    refine TT_icmp_le hK (tgt := 26) (irm (by omega) (by omega)) (irm (by omega) (by omega)) dX11_decode_13 (by decide) (fun hb13_4 => ?_) (fun hb13_4 => ?_)
    · refine TT_aload_n hK rfl 0 rfl dX11_decode_26 ?_
      refine gf_X11_36 hK (by decide) rfl (q := 44) rfl rfl dX11_decode_27 ?_
      refine TT_aload_n hK rfl 0 rfl dX11_decode_30 ?_
      refine gf_X11_22 hK (by decide) rfl (q := 5) rfl rfl dX11_decode_31 ?_
      refine TT_iload_n hK rfl 1 rfl dX11_decode_34 ?_
      have e5_47 : g10_3 47 = h 47 := (hG_3 47 (by decide))
      have e6_48 : g10_3 48 = h 48 := (hG_3 48 (by decide))
      have e7_49 : g10_3 49 = h 49 := (hG_3 49 (by decide))
      have e8_50 : g10_3 50 = h 50 := (hG_3 50 (by decide))
      refine iv_X11_108 hK (s_takePackets_k n g10_3 hT_3 (by first | omega | (simp [up, setR] <;> omega)) (by rewrite [e5_47, e6_48, e7_49, e8_50]; first | assumption | exact hbd)) (by decide) rfl ⟨by decide, by decide⟩ (by decide) rfl rfl (Nat.le_of_ble_eq_true rfl) ⟨by decide, by decide⟩ dX11_decode_35 ?_
      intro r9 g35_9 hp9
      obtain ⟨⟨hT_9, hG_9⟩, z35_9, hr9, hz_9, p1_9, k51_9⟩ := hp9
      rw [hr9]
      have hF_9 : FR [3, 4, 5, 44, 45, 46, 47, 48, 49, 50, 51, 52, 53, 54, 55, 56, 57, 58, 59, 60, 61, 62, 64, 65, 66, 67, 68, 69, 70, 71, 72] h g35_9 := FR_tr hF_3 hG_9 (by decide)
      rw [show g10_3 5 1 = (h 5) 1 from rd_ (hG_3 5 (by decide)) rfl] at k51_9
      show TT K ly 0 0 38 [(0, vR 0), (1, vI n)] [vI z35_9] g35_9
      refine TT_istore_n hK rfl (lv' := [(2, vI z35_9), (0, vR 0), (1, vI n)]) (by decide) rfl dX11_decode_38 ?_
      refine TT_iload_n hK rfl 0 rfl dX11_decode_39 ?_
      refine TT_if_ge hK (tgt := 53) (irm (by omega) (by omega)) dX11_decode_40 (by decide) (fun hb40_10 => ?_) (fun hb40_10 => ?_)
      · refine TT_aload_n hK rfl 1 rfl dX11_decode_53 ?_
        refine gf_X11_36 hK (by decide) rfl (q := 44) rfl rfl dX11_decode_54 ?_
        refine TT_aload_n hK rfl 1 rfl dX11_decode_57 ?_
        refine gf_X11_22 hK (by decide) rfl (q := 5) rfl rfl dX11_decode_58 ?_
        refine TT_aload_n hK rfl 1 rfl dX11_decode_61 ?_
        refine gf_X11_16 hK (by decide) rfl (q := 3) rfl rfl dX11_decode_62 ?_
        refine iv_X11_114 hK (s_X10_restore_44 g35_9 hT_9 (by first | assumption | exact hbd)) (by decide) rfl ⟨by decide, by decide⟩ (by decide) rfl rfl (Nat.le_of_ble_eq_true rfl) ⟨by decide, by decide⟩ dX11_decode_65 ?_
        intro r9 g65_11 hp9
        obtain ⟨⟨hT_11, hG_11⟩, hr9, p1_11⟩ := hp9
        rw [hr9]
        have hF_11 : FR [3, 4, 5, 44, 45, 46, 47, 48, 49, 50, 51, 52, 53, 54, 55, 56, 57, 58, 59, 60, 61, 62, 64, 65, 66, 67, 68, 69, 70, 71, 72] h g65_11 := FR_tr hF_9 hG_11 (by decide)
        show TT K ly 0 0 68 [(2, vI z35_9), (0, vR 0), (1, vI n)] [] g65_11
        refine TT_iload_n hK rfl 0 rfl dX11_decode_68 ?_
        refine TT_widen (kc' := 1) (ks' := 6) (by decide) (by decide) ?_
        refine TT_iretB hK hQ ?_ dX11_decode_69
        have e12_47 : g65_11 47 = g35_9 47 := (hG_11 47 (by decide))
        have e13_48 : g65_11 48 = g35_9 48 := (hG_11 48 (by decide))
        have e14_49 : g65_11 49 = g35_9 49 := (hG_11 49 (by decide))
        have e15_50 : g65_11 50 = g35_9 50 := (hG_11 50 (by decide))
        have e16_5_1 : g65_11 5 1 = (g35_9 5) 1 := rd_ (hG_11 5 (by decide)) rfl
        exact ⟨⟨hT_11, hF_11⟩, z35_9, rfl, (by omega), (by rewrite [e12_47, e13_48, e14_49, e15_50]; first | assumption | exact hbd), (by rewrite [e16_5_1]; omega)⟩
      · have e17_5_1 : g35_9 5 1 = (g35_9 5) 1 := rfl
        exact TT_throwB hK hQ 4 (by decide) ⟨⟨hT_9, hF_9⟩, (by first | assumption | exact hbd), (by rewrite [e17_5_1]; omega)⟩ (Nat.le_of_ble_eq_true rfl) ⟨by decide, by decide⟩ dX11_decode_43 dX11_decode_46 dX11_decode_47 dX11_decode_49 dX11_decode_52
    · have e18_47 : g10_3 47 = h 47 := (hG_3 47 (by decide))
      have e19_48 : g10_3 48 = h 48 := (hG_3 48 (by decide))
      have e20_49 : g10_3 49 = h 49 := (hG_3 49 (by decide))
      have e21_50 : g10_3 50 = h 50 := (hG_3 50 (by decide))
      have e22_5_1 : g10_3 5 1 = (h 5) 1 := rd_ (hG_3 5 (by decide)) rfl
      exact TT_throwB hK hQ 3 (by decide) ⟨⟨hT_3, hF_3⟩, (by rewrite [e18_47, e19_48, e20_49, e21_50]; first | assumption | exact hbd), (by rewrite [e22_5_1]; omega)⟩ (Nat.le_of_ble_eq_true rfl) ⟨by decide, by decide⟩ dX11_decode_16 dX11_decode_19 dX11_decode_20 dX11_decode_22 dX11_decode_25

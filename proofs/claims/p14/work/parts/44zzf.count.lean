/-- the code of a count of passes -/
def cntS (n : Int) (s : PBS_) : PBS_ := if n = 1 then putS 0 1 s else if n = 2 then putS 2 2 s else if n ≤ 5 then putS (n - 3) 2 (putS 3 2 s) else putS (n - 6) 5 (putS 15 4 s)
theorem putS_n : ∀ (k : Nat) {s : PBS_} (v : Int), PBQ s → PBQ (putS v k s) ∧ 8 * (putS v k s).1 + (putS v k s).2.1 = 8 * s.1 + s.2.1 + (k : Int)
  | 0, s, v, h => ⟨h, by show 8 * s.1 + s.2.1 = 8 * s.1 + s.2.1 + ((0 : Nat) : Int); omega⟩
  | k + 1, s, v, h => by
    have b := bitS_n h (v / 2 ^ k % 2)
    have i := putS_n k v (bitS_q h (v01 v k)).1
    refine ⟨i.1, ?_⟩
    show 8 * (putS v k (bitS s (v / 2 ^ k % 2))).1 + (putS v k (bitS s (v / 2 ^ k % 2))).2.1 = _
    rw [i.2, b]
    omega
set_option maxRecDepth 20000 in
theorem s_writeCount5_e (s : PBS_) (n : Int) (h : Hp_) (hT : TY h) (hn : -100 ≤ n ∧ n ≤ 100) (hcb : CBR (h 5 1) (h 5 2) (h 6) s) (hpq : PBQ s) (hrm : 8 * s.1 + s.2.1 + 9 ≤ 8192) (hn9 : 1 ≤ n ∧ n ≤ 37) : Ctr yX3_writeCount cX3_writeCount 2 none (rmd 3) ly ly 0 0 [vI n, vR 5] h (fun r h' => (TY h' ∧ FR [5, 6] h h') ∧ r = none ∧ (CBR (h' 5 1) (h' 5 2) (h' 6) (cntS n s) ∧ PBQ (cntS n s))) := by
  refine Ctr_of (by decide) (Nat.le_of_ble_eq_true rfl) ⟨Nat.le_refl _, Nat.le_refl _⟩ (fun K hK hQ _ => ?_)
  show TT K ly 0 0 0 [(0, vI n), (1, vR 5)] [] h
  have hF : FR [5, 6] h h := FR_rf _ _
  refine TT_iload_n hK rfl 0 rfl dX3_writeCount_0 ?_
  refine TT_iconst hK dX3_writeCount_1 ?_
  refine TT_icmp_ne hK (tgt := 14) (irm (by omega) (by omega)) (by decide) dX3_writeCount_2 (by decide) (fun hb2_1 => ?_) (fun hb2_1 => ?_)
  · refine TT_iload_n hK rfl 0 rfl dX3_writeCount_14 ?_
    refine TT_iconst hK dX3_writeCount_15 ?_
    refine TT_icmp_ne hK (tgt := 28) (irm (by omega) (by omega)) (by decide) dX3_writeCount_16 (by decide) (fun hb16_2 => ?_) (fun hb16_2 => ?_)
    · refine TT_iload_n hK rfl 0 rfl dX3_writeCount_28 ?_
      refine TT_iconst hK dX3_writeCount_29 ?_
      refine TT_icmp_gt hK (tgt := 50) (irm (by omega) (by omega)) (by decide) dX3_writeCount_30 (by decide) (fun hb30_3 => ?_) (fun hb30_3 => ?_)
      · refine TT_aload_n hK rfl 1 rfl dX3_writeCount_50 ?_
        refine TT_bipush hK (by decide) dX3_writeCount_51 ?_
        refine TT_iconst hK dX3_writeCount_53 ?_
        have e4_5_1 : h 5 1 = (h 5) 1 := rfl
        have e5_5_2 : h 5 2 = (h 5) 2 := rfl
        refine iv_X3_207 hK (s_putBits5_e s 15 4 h hT (by first | omega | (simp [up, setR] <;> omega)) (by first | omega | (simp [up, setR] <;> omega)) (by rewrite [e4_5_1, e5_5_2]; exact hcb) (by exact hpq) (by first | omega | (simp [up, setR] <;> omega)) (by first | omega | (simp [up, setR] <;> omega))) (by decide) rfl ⟨by decide, by decide⟩ (by decide) rfl rfl (Nat.le_of_ble_eq_true rfl) ⟨by decide, by decide⟩ dX3_writeCount_54 ?_
        intro r9 g54_6 hp9
        obtain ⟨⟨hT_6, hG_6⟩, hr9, pb_6⟩ := hp9
        rw [hr9]
        have hF_6 : FR [5, 6] h g54_6 := FR_tr hF hG_6 (by decide)
        have pb_at54 := pb_6
        show TT K ly 0 0 57 [(0, vI n), (1, vR 5)] [] g54_6
        refine TT_aload_n hK rfl 1 rfl dX3_writeCount_57 ?_
        refine TT_iload_n hK rfl 0 rfl dX3_writeCount_58 ?_
        refine TT_bipush hK (by decide) dX3_writeCount_59 ?_
        refine TT_isub hK dX3_writeCount_61 ?_
        refine TT_iconst hK dX3_writeCount_62 ?_
        have e7_5_1 : g54_6 5 1 = (g54_6 5) 1 := rfl
        have e8_5_2 : g54_6 5 2 = (g54_6 5) 2 := rfl
        refine iv_X3_207 hK (s_putBits5_e (putS 15 4 s) (n - 6) 5 g54_6 hT_6 (by first | omega | (simp [up, setR] <;> omega)) (by first | omega | (simp [up, setR] <;> omega)) (by rewrite [e7_5_1, e8_5_2]; exact pb_at54.1) (by exact pb_at54.2) (by have p9 := (putS_n 4 15 hpq).2; omega) (by first | omega | (simp [up, setR] <;> omega))) (by decide) rfl ⟨by decide, by decide⟩ (by decide) rfl rfl (Nat.le_of_ble_eq_true rfl) ⟨by decide, by decide⟩ dX3_writeCount_63 ?_
        intro r9 g63_9 hp9
        obtain ⟨⟨hT_9, hG_9⟩, hr9, pb_9⟩ := hp9
        rw [hr9]
        have hF_9 : FR [5, 6] h g63_9 := FR_tr hF_6 hG_9 (by decide)
        have pb_at63 := pb_9
        show TT K ly 0 0 66 [(0, vI n), (1, vR 5)] [] g63_9
        refine TT_vret hK hQ ?_ dX3_writeCount_66
        have e10_5_1 : g63_9 5 1 = (g63_9 5) 1 := rfl
        have e11_5_2 : g63_9 5 2 = (g63_9 5) 2 := rfl
        exact ⟨⟨hT_9, hF_9⟩, rfl, (by rewrite [e10_5_1, e11_5_2]; unfold cntS; first | (rw [if_neg (by omega), if_neg (by omega), if_neg (by omega)]; exact pb_at63))⟩
      · refine TT_aload_n hK rfl 1 rfl dX3_writeCount_33 ?_
        refine TT_iconst hK dX3_writeCount_34 ?_
        refine TT_iconst hK dX3_writeCount_35 ?_
        have e12_5_1 : h 5 1 = (h 5) 1 := rfl
        have e13_5_2 : h 5 2 = (h 5) 2 := rfl
        refine iv_X3_207 hK (s_putBits5_e s 3 2 h hT (by first | omega | (simp [up, setR] <;> omega)) (by first | omega | (simp [up, setR] <;> omega)) (by rewrite [e12_5_1, e13_5_2]; exact hcb) (by exact hpq) (by first | omega | (simp [up, setR] <;> omega)) (by first | omega | (simp [up, setR] <;> omega))) (by decide) rfl ⟨by decide, by decide⟩ (by decide) rfl rfl (Nat.le_of_ble_eq_true rfl) ⟨by decide, by decide⟩ dX3_writeCount_36 ?_
        intro r9 g36_14 hp9
        obtain ⟨⟨hT_14, hG_14⟩, hr9, pb_14⟩ := hp9
        rw [hr9]
        have hF_14 : FR [5, 6] h g36_14 := FR_tr hF hG_14 (by decide)
        have pb_at36 := pb_14
        show TT K ly 0 0 39 [(0, vI n), (1, vR 5)] [] g36_14
        refine TT_aload_n hK rfl 1 rfl dX3_writeCount_39 ?_
        refine TT_iload_n hK rfl 0 rfl dX3_writeCount_40 ?_
        refine TT_iconst hK dX3_writeCount_41 ?_
        refine TT_isub hK dX3_writeCount_42 ?_
        refine TT_iconst hK dX3_writeCount_43 ?_
        have e15_5_1 : g36_14 5 1 = (g36_14 5) 1 := rfl
        have e16_5_2 : g36_14 5 2 = (g36_14 5) 2 := rfl
        refine iv_X3_207 hK (s_putBits5_e (putS 3 2 s) (n - 3) 2 g36_14 hT_14 (by first | omega | (simp [up, setR] <;> omega)) (by first | omega | (simp [up, setR] <;> omega)) (by rewrite [e15_5_1, e16_5_2]; exact pb_at36.1) (by exact pb_at36.2) (by have p9 := (putS_n 2 3 hpq).2; omega) (by first | omega | (simp [up, setR] <;> omega))) (by decide) rfl ⟨by decide, by decide⟩ (by decide) rfl rfl (Nat.le_of_ble_eq_true rfl) ⟨by decide, by decide⟩ dX3_writeCount_44 ?_
        intro r9 g44_17 hp9
        obtain ⟨⟨hT_17, hG_17⟩, hr9, pb_17⟩ := hp9
        rw [hr9]
        have hF_17 : FR [5, 6] h g44_17 := FR_tr hF_14 hG_17 (by decide)
        have pb_at44 := pb_17
        show TT K ly 0 0 47 [(0, vI n), (1, vR 5)] [] g44_17
        refine TT_goto hK (tgt := 66) dX3_writeCount_47 (by decide) ?_
        refine TT_vret hK hQ ?_ dX3_writeCount_66
        have e18_5_1 : g44_17 5 1 = (g44_17 5) 1 := rfl
        have e19_5_2 : g44_17 5 2 = (g44_17 5) 2 := rfl
        exact ⟨⟨hT_17, hF_17⟩, rfl, (by rewrite [e18_5_1, e19_5_2]; unfold cntS; first | (rw [if_neg (by omega), if_neg (by omega), if_pos (by omega)]; exact pb_at44))⟩
    · refine TT_aload_n hK rfl 1 rfl dX3_writeCount_19 ?_
      refine TT_iconst hK dX3_writeCount_20 ?_
      refine TT_iconst hK dX3_writeCount_21 ?_
      have e20_5_1 : h 5 1 = (h 5) 1 := rfl
      have e21_5_2 : h 5 2 = (h 5) 2 := rfl
      refine iv_X3_207 hK (s_putBits5_e s 2 2 h hT (by first | omega | (simp [up, setR] <;> omega)) (by first | omega | (simp [up, setR] <;> omega)) (by rewrite [e20_5_1, e21_5_2]; exact hcb) (by exact hpq) (by first | omega | (simp [up, setR] <;> omega)) (by first | omega | (simp [up, setR] <;> omega))) (by decide) rfl ⟨by decide, by decide⟩ (by decide) rfl rfl (Nat.le_of_ble_eq_true rfl) ⟨by decide, by decide⟩ dX3_writeCount_22 ?_
      intro r9 g22_22 hp9
      obtain ⟨⟨hT_22, hG_22⟩, hr9, pb_22⟩ := hp9
      rw [hr9]
      have hF_22 : FR [5, 6] h g22_22 := FR_tr hF hG_22 (by decide)
      have pb_at22 := pb_22
      show TT K ly 0 0 25 [(0, vI n), (1, vR 5)] [] g22_22
      refine TT_goto hK (tgt := 66) dX3_writeCount_25 (by decide) ?_
      refine TT_vret hK hQ ?_ dX3_writeCount_66
      have e23_5_1 : g22_22 5 1 = (g22_22 5) 1 := rfl
      have e24_5_2 : g22_22 5 2 = (g22_22 5) 2 := rfl
      exact ⟨⟨hT_22, hF_22⟩, rfl, (by rewrite [e23_5_1, e24_5_2]; unfold cntS; first | (rw [if_neg (by omega), if_pos (by omega)]; exact pb_at22))⟩
  · refine TT_aload_n hK rfl 1 rfl dX3_writeCount_5 ?_
    refine TT_iconst hK dX3_writeCount_6 ?_
    refine TT_iconst hK dX3_writeCount_7 ?_
    have e25_5_1 : h 5 1 = (h 5) 1 := rfl
    have e26_5_2 : h 5 2 = (h 5) 2 := rfl
    refine iv_X3_207 hK (s_putBits5_e s 0 1 h hT (by first | omega | (simp [up, setR] <;> omega)) (by first | omega | (simp [up, setR] <;> omega)) (by rewrite [e25_5_1, e26_5_2]; exact hcb) (by exact hpq) (by first | omega | (simp [up, setR] <;> omega)) (by first | omega | (simp [up, setR] <;> omega))) (by decide) rfl ⟨by decide, by decide⟩ (by decide) rfl rfl (Nat.le_of_ble_eq_true rfl) ⟨by decide, by decide⟩ dX3_writeCount_8 ?_
    intro r9 g8_27 hp9
    obtain ⟨⟨hT_27, hG_27⟩, hr9, pb_27⟩ := hp9
    rw [hr9]
    have hF_27 : FR [5, 6] h g8_27 := FR_tr hF hG_27 (by decide)
    have pb_at8 := pb_27
    show TT K ly 0 0 11 [(0, vI n), (1, vR 5)] [] g8_27
    refine TT_goto hK (tgt := 66) dX3_writeCount_11 (by decide) ?_
    refine TT_vret hK hQ ?_ dX3_writeCount_66
    have e28_5_1 : g8_27 5 1 = (g8_27 5) 1 := rfl
    have e29_5_2 : g8_27 5 2 = (g8_27 5) 2 := rfl
    exact ⟨⟨hT_27, hF_27⟩, rfl, (by rewrite [e28_5_1, e29_5_2]; unfold cntS; first | (rw [if_pos (by omega)]; exact pb_at8))⟩

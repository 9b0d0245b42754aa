def pas (x : Int) : Int := if x = 0 then 0 else 3 * x - 2
theorem fpP {p q : Int} (hp : 0 ≤ p ∧ p ≤ 12) (hq : q = 1 * 2 ^ p.toNat) : 1 ≤ q ∧ q ≤ 4096 ∧ (p = 12 → q = 4096) := by
  have key : ∀ n : Fin 13, (1 : Int) ≤ 2 ^ n.val ∧ (2 : Int) ^ n.val ≤ 4096 ∧ (n.val = 12 → (2 : Int) ^ n.val = 4096) := by decide
  have k := key ⟨p.toNat, by omega⟩
  rw [Int.one_mul] at hq
  rw [hq]
  exact ⟨k.1, k.2.1, fun e => k.2.2 (by show p.toNat = 12; omega)⟩
def MIQ (wa ws : Int → Int) : Prop := ∀ j : Int, 0 ≤ j → j < 10 → wa j + ws j ≤ 4400
theorem MIQ_up {wa ws : Int → Int} {b f v : Int} (h : MIQ wa ws) (hv : f + v ≤ 4400) : MIQ (fup wa b f) (fup ws b v) := by
  intro j h0 h1
  by_cases e : j = b
  · rw [e, fup_eq, fup_eq]; exact hv
  · rw [fup_ne _ _ e, fup_ne _ _ e]; exact h j h0 h1
def LQ (pl ws ll : Int → Int) (n : Int) : Prop := ∀ j : Int, 0 ≤ j → j < n → ∀ p q : Int, 0 ≤ p → p ≤ q → q ≤ 34 → q ≤ pas (pl j) → ll (35 * j + p) ≤ ll (35 * j + q) ∧ ll (35 * j + q) ≤ ws j
theorem LQ_1 {pl pl' ws ll : Int → Int} {b v u : Int} (h : LQ pl ws ll b) (he : ∀ j : Int, j ≠ b → pl' j = pl j) : LQ pl' (fup ws b v) (fup ll (35 * b) u) b := by
  intro j h0 h1 p q h2 h3 h4 h5
  have e : j ≠ b := by omega
  rw [he j e] at h5
  rw [fup_ne _ _ e, fup_ne _ _ (show 35 * j + p ≠ 35 * b by omega), fup_ne _ _ (show 35 * j + q ≠ 35 * b by omega)]
  exact h j h0 h1 p q h2 h3 h4 h5
theorem LQ_2 {pl ws ll : Int → Int} {b p u : Int} (h : LQ pl ws ll b) (hp : 0 ≤ p) : LQ pl ws (fup ll (35 * b + p) u) b := by
  intro j h0 h1 r q h2 h3 h4 h5
  rw [fup_ne _ _ (show 35 * j + r ≠ 35 * b + p by omega), fup_ne _ _ (show 35 * j + q ≠ 35 * b + p by omega)]
  exact h j h0 h1 r q h2 h3 h4 h5
theorem LQ_s {pl ws ll : Int → Int} {b : Int} (h : LQ pl ws ll b) (hb : ∀ p q : Int, 0 ≤ p → p ≤ q → q ≤ pas (pl b) → ll (35 * b + p) ≤ ll (35 * b + q) ∧ ll (35 * b + q) ≤ ws b) : LQ pl ws ll (b + 1) := by
  intro j h0 h1 p q h2 h3 h4 h5
  by_cases e : j = b
  · subst e; exact hb p q h2 h3 h5
  · exact h j h0 (by omega) p q h2 h3 h4 h5
theorem LQ_0 {pl pl' ws ll : Int → Int} {b : Int} (h : LQ pl ws ll b) (he : ∀ j : Int, j ≠ b → pl' j = pl j) (h0 : pl' b = 0) : LQ pl' (fup ws b 0) (fup ll (35 * b) 0) (b + 1) := by
  refine LQ_s (LQ_1 h he) (fun p q h1 h2 h3 => ?_)
  rw [h0] at h3
  have e1 : q = 0 := by unfold pas at h3; rw [if_pos rfl] at h3; omega
  have e2 : p = 0 := by omega
  rw [e1, e2, Int.add_zero, fup_eq, fup_eq]
  exact ⟨Int.le_refl _, Int.le_refl _⟩
theorem A64 {w e : Int} (hw : 0 ≤ w ∧ w ≤ 8) (he : 0 ≤ e ∧ e ≤ 8) : w * e ≤ 64 := by
  have h1 := Int.mul_le_mul_of_nonneg_right hw.2 he.1
  omega
set_option maxRecDepth 20000 in
theorem s_X12_findPlanes_73 (b : Int) (h : Hp_) (hT : TY h) (hb : 0 ≤ b ∧ b ≤ 9) : Ctr yX12_findPlanes cX12_findPlanes 3 none (rmd 0) ly ly 0 0 [vR 73, vI b] h (fun r h' => (TY h' ∧ FRM [83] [] h h') ∧ r = none ∧ (∀ j : Int, j ≠ b → (h' 83) j = (h 83) j)) := by
  refine Ctr_of (by decide) (Nat.le_of_ble_eq_true rfl) ⟨Nat.le_refl _, Nat.le_refl _⟩ (fun K hK hQ _ => ?_)
  show TT K ly 0 0 0 [(0, vR 73), (1, vI b)] [] h
  have hF : FRM [83] [] h h := FRM_rf _ _ _
  refine TT_aload_n hK rfl 0 rfl dX12_findPlanes_0 ?_
  refine gf_X12_44 hK (by decide) rfl (q := 83) rfl rfl dX12_findPlanes_1 ?_
  refine TT_iload_n hK rfl 1 rfl dX12_findPlanes_4 ?_
  refine TT_iconst hK dX12_findPlanes_5 ?_
  refine TT_iast hK (o := 83) (n := 20) (by decide) rfl (by omega) (by omega) dX12_findPlanes_6 ?_
  refine TT_hp (h' := setO h 83 (fup (h 83) b 0)) (up_can rfl rfl rfl) ?_
  have hT_1 : TY (setO h 83 (fup (h 83) b 0)) := tu_83 hT (show up h 83 b 0 = (setO h 83 (fup (h 83) b 0)) from up_can rfl rfl rfl) (by omega)
  have hF_1 : FRM [83] [] h (setO h 83 (fup (h 83) b 0)) := FRM_up (show up h 83 b 0 = (setO h 83 (fup (h 83) b 0)) from up_can rfl rfl rfl) hF (by decide) (by decide)
  refine TT_bipush hK (by decide) dX12_findPlanes_7 ?_
  refine TT_iload_n hK rfl 1 rfl dX12_findPlanes_9 ?_
  refine TT_imul hK dX12_findPlanes_10 ?_
  refine TT_istore_n hK rfl (lv' := [(2, vI (64 * b)), (0, vR 73), (1, vI b)]) (by decide) rfl dX12_findPlanes_11 ?_
  have L12_2 : ∀ (k2 : Nat) (k : Int) (w12_2 : Hp_), TY w12_2 → FRM [83] [] h w12_2 → (64 * b ≤ k ∧ k ≤ 64 * b + 64) → (∀ j : Int, j ≠ b → (w12_2 83) j = h 83 j) → (64 * b + 64 - k).toNat < k2 → TT K ly 0 0 12 [(0, vR 73), (1, vI b), (2, vI k)] [] w12_2 := by
    intro k2
    induction k2 with
    | zero => intro k w12_2 hT12_2 hF12_2 hk hfr hk2; exact absurd hk2 (Nat.not_lt_zero _)
    | succ k2 ih2 =>
      intro k w12_2 hT12_2 hF12_2 hk hfr hk2
      refine TT_iload_n hK rfl 2 rfl dX12_findPlanes_12 ?_
      refine TT_bipush hK (by decide) dX12_findPlanes_13 ?_
      refine TT_iload_n hK rfl 1 rfl dX12_findPlanes_15 ?_
      refine TT_imul hK dX12_findPlanes_16 ?_
      refine TT_bipush hK (by decide) dX12_findPlanes_17 ?_
      refine TT_iadd hK dX12_findPlanes_19 ?_
      refine TT_icmp_ge hK (tgt := 59) (irm (by omega) (by omega)) (irm (by omega) (by omega)) dX12_findPlanes_20 (by decide) (fun hb20_3 => ?_) (fun hb20_3 => ?_)
      · refine TT_vret hK hQ ?_ dX12_findPlanes_59
        exact ⟨⟨hT12_2, hF12_2⟩, rfl, (by exact hfr)⟩
      · have L23_4 : ∀ (k4 : Nat) (pl : Int) (w23_4 : Hp_), TY w23_4 → FRM [83] [] h w23_4 → ((w23_4 83) b = pl) → (0 ≤ pl ∧ pl ≤ 12) → (∀ j : Int, j ≠ b → (w23_4 83) j = h 83 j) → ((13 : Int) - pl).toNat < k4 → TT K ly 0 0 23 [(0, vR 73), (1, vI b), (2, vI k)] [] w23_4 := by
          intro k4
          induction k4 with
          | zero => intro pl w23_4 hT23_4 hF23_4 hpl hpl2 hfr2 hk4; exact absurd hk4 (Nat.not_lt_zero _)
          | succ k4 ih4 =>
            intro pl w23_4 hT23_4 hF23_4 hpl hpl2 hfr2 hk4
            refine TT_aload_n hK rfl 0 rfl dX12_findPlanes_23 ?_
            refine gf_X12_47 hK (by decide) rfl (q := 84) rfl rfl dX12_findPlanes_24 ?_
            refine TT_iload_n hK rfl 2 rfl dX12_findPlanes_27 ?_
            refine TT_iald hK (o := 84) (n := 1280) (by decide) rfl (by first | omega | (simp [up, setR] <;> omega)) (by first | omega | (simp [up, setR] <;> omega)) (v := (h 84) k) (rd_ (hF23_4.1 84 (by decide)) rfl) dX12_findPlanes_28 ?_
            have r5 := ty_84 (i := k) (v := (h 84) k) hT23_4 (rd_ (hF23_4.1 84 (by decide)) rfl) (by omega) (by omega)
            refine TT_iconst hK dX12_findPlanes_29 ?_
            refine TT_aload_n hK rfl 0 rfl dX12_findPlanes_30 ?_
            refine gf_X12_44 hK (by decide) rfl (q := 83) rfl rfl dX12_findPlanes_31 ?_
            refine TT_iload_n hK rfl 1 rfl dX12_findPlanes_34 ?_
            refine TT_iald hK (o := 83) (n := 20) (by decide) rfl (by first | omega | (simp [up, setR] <;> omega)) (by first | omega | (simp [up, setR] <;> omega)) (v := (w23_4 83) b) rfl dX12_findPlanes_35 ?_
            have r6 := ty_83 (i := b) (v := (w23_4 83) b) hT23_4 rfl (by omega) (by omega)
            refine TT_cgI (b := pl) (by first | exact hpl | rfl) ?_
            refine TT_ishl hK (by omega) (by omega) dX12_findPlanes_36 ?_
            refine TT_nmI (fun q9 hq9 => ?_)
            refine TT_icmp_lt hK (tgt := 53) (irm (by have k9 := fpP (p := pl) (by omega) hq9; omega) (by have k9 := fpP (p := pl) (by omega) hq9; omega)) (irm (by have k9 := fpP (p := pl) (by omega) hq9; omega) (by have k9 := fpP (p := pl) (by omega) hq9; omega)) dX12_findPlanes_37 (by decide) (fun hb37_7 => ?_) (fun hb37_7 => ?_)
            · refine TT_iinc hK (v := k + 1) (lv' := [(2, vI (k + 1)), (0, vR 73), (1, vI b)]) 2 rfl rfl (by decide) rfl dX12_findPlanes_53 ?_
              refine TT_goto hK (tgt := 12) dX12_findPlanes_56 (by decide) ?_
              refine TT_sub [1, 2, 0] rfl ?_
              exact ih2 (k + 1) w23_4 hT23_4 hF23_4 (by first | omega | (simp [up, setR] <;> omega)) (by exact hfr2) (by first | omega | (simp [up, setR] <;> omega))
            · have k9 := fpP (p := pl) (by omega) hq9
              refine TT_aload_n hK rfl 0 rfl dX12_findPlanes_40 ?_
              refine gf_X12_44 hK (by decide) rfl (q := 83) rfl rfl dX12_findPlanes_41 ?_
              refine TT_iload_n hK rfl 1 rfl dX12_findPlanes_44 ?_
              refine TT_dup2 hK rfl rfl dX12_findPlanes_45 ?_
              refine TT_iald hK (o := 83) (n := 20) (by decide) rfl (by first | omega | (simp [up, setR] <;> omega)) (by first | omega | (simp [up, setR] <;> omega)) (v := (w23_4 83) b) rfl dX12_findPlanes_46 ?_
              refine TT_iconst hK dX12_findPlanes_47 ?_
              refine TT_iadd hK dX12_findPlanes_48 ?_
              refine TT_iast hK (o := 83) (n := 20) (by decide) rfl (by omega) (by omega) dX12_findPlanes_49 ?_
              refine TT_hp (h' := setO w23_4 83 (fup (w23_4 83) b (((w23_4 83) b) + 1))) (up_can rfl rfl rfl) ?_
              have hT_8 : TY (setO w23_4 83 (fup (w23_4 83) b (((w23_4 83) b) + 1))) := tu_83 hT23_4 (show up w23_4 83 b (((w23_4 83) b) + 1) = (setO w23_4 83 (fup (w23_4 83) b (((w23_4 83) b) + 1))) from up_can rfl rfl rfl) (by omega)
              have hF_8 : FRM [83] [] h (setO w23_4 83 (fup (w23_4 83) b (((w23_4 83) b) + 1))) := FRM_up (show up w23_4 83 b (((w23_4 83) b) + 1) = (setO w23_4 83 (fup (w23_4 83) b (((w23_4 83) b) + 1))) from up_can rfl rfl rfl) hF23_4 (by decide) (by decide)
              refine TT_goto hK (tgt := 23) dX12_findPlanes_50 (by decide) ?_
              have e9_83 : (setO w23_4 83 (fup (w23_4 83) b (((w23_4 83) b) + 1))) 83 = fup (w23_4 83) b (((w23_4 83) b) + 1) := sOf_eq _ _ _
              have e10_83 : (setO w23_4 83 (fup (w23_4 83) b (((w23_4 83) b) + 1))) 83 = fup (w23_4 83) b (((w23_4 83) b) + 1) := sOf_eq _ _ _
              exact ih4 (((w23_4 83) b) + 1) (setO w23_4 83 (fup (w23_4 83) b (((w23_4 83) b) + 1))) hT_8 hF_8 (by rewrite [e9_83]; exact fup_eq _ _ _) (by first | omega | (simp [up, setR] <;> omega)) (by rewrite [e10_83]; intro j hj; rw [fup_ne _ _ hj]; exact hfr2 j hj) (by first | omega | (simp [up, setR] <;> omega))
        have r9 := ty_83 (i := b) (v := (w12_2 83) b) hT12_2 rfl (by omega) (by omega)
        exact L23_4 ((((13 : Int) - ((w12_2 83) b)).toNat) + 1) ((w12_2 83) b) w12_2 hT12_2 hF12_2 (by rfl) (by first | omega | (simp [up, setR] <;> omega)) (by exact hfr) (Nat.lt_succ_self _)
  refine TT_sub [1, 2, 0] rfl ?_
  have e11_83 : (setO h 83 (fup (h 83) b 0)) 83 = fup (h 83) b 0 := sOf_eq _ _ _
  exact L12_2 (((64 * b + 64 - (64 * b)).toNat) + 1) (64 * b) (setO h 83 (fup (h 83) b 0)) hT_1 hF_1 (by first | omega | (simp [up, setR] <;> omega)) (by rewrite [e11_83]; intro j hj; exact fup_ne _ _ hj) (Nat.lt_succ_self _)
set_option maxRecDepth 20000 in
theorem s_passesOf_x (b : Int) (h : Hp_) (hT : TY h) (hb : 0 ≤ b ∧ b ≤ 19) : Ctr yX12_passesOf cX12_passesOf 2 (some .int) (rmd 0) ly ly 0 0 [vR 73, vI b] h (fun r h' => (TY h' ∧ FRM [] [] h h') ∧ ∃ z : Int, r = some (vI z) ∧ (0 ≤ z ∧ z ≤ 43) ∧ (b < 10 → z ≤ 34) ∧ (z = pas ((h 83) b))) := by
  refine Ctr_of (by decide) (Nat.le_of_ble_eq_true rfl) ⟨Nat.le_refl _, Nat.le_refl _⟩ (fun K hK hQ _ => ?_)
  show TT K ly 0 0 0 [(0, vR 73), (1, vI b)] [] h
  have hF : FRM [] [] h h := FRM_rf _ _ _
  refine TT_aload_n hK rfl 0 rfl dX12_passesOf_0 ?_
  refine gf_X12_44 hK (by decide) rfl (q := 83) rfl rfl dX12_passesOf_1 ?_
  refine TT_iload_n hK rfl 1 rfl dX12_passesOf_4 ?_
  refine TT_iald hK (o := 83) (n := 20) (by decide) rfl (by first | omega | (simp [up, setR] <;> omega)) (by first | omega | (simp [up, setR] <;> omega)) (v := (h 83) b) rfl dX12_passesOf_5 ?_
  have r1 := ty_83 (i := b) (v := (h 83) b) hT rfl (by omega) (by omega)
  refine TT_if_ne hK (tgt := 13) (irm (by omega) (by omega)) dX12_passesOf_6 (by decide) (fun hb6_2 => ?_) (fun hb6_2 => ?_)
  · refine TT_iconst hK dX12_passesOf_13 ?_
    refine TT_aload_n hK rfl 0 rfl dX12_passesOf_14 ?_
    refine gf_X12_44 hK (by decide) rfl (q := 83) rfl rfl dX12_passesOf_15 ?_
    refine TT_iload_n hK rfl 1 rfl dX12_passesOf_18 ?_
    refine TT_iald hK (o := 83) (n := 20) (by decide) rfl (by first | omega | (simp [up, setR] <;> omega)) (by first | omega | (simp [up, setR] <;> omega)) (v := (h 83) b) rfl dX12_passesOf_19 ?_
    refine TT_imul hK dX12_passesOf_20 ?_
    refine TT_iconst hK dX12_passesOf_21 ?_
    refine TT_isub hK dX12_passesOf_22 ?_
    refine TT_iret hK hQ ?_ dX12_passesOf_23
    exact ⟨⟨hT, hF⟩, ((3 * ((h 83) b)) - 2), rfl, (by omega), (by omega), (by unfold pas; split <;> omega)⟩
  · refine TT_iconst hK dX12_passesOf_9 ?_
    refine TT_goto hK (tgt := 23) dX12_passesOf_10 (by decide) ?_
    refine TT_iret hK hQ ?_ dX12_passesOf_23
    exact ⟨⟨hT, hF⟩, 0, rfl, (by omega), (by omega), (by unfold pas; split <;> omega)⟩
set_option maxRecDepth 20000 in
theorem s_X12_useWord_73 (b : Int) (h : Hp_) (hT : TY h) (hb : 0 ≤ b ∧ b ≤ 9) (hmi : (h 90) b + (h 91) b ≤ 4400) : Ctr yX12_useWord cX12_useWord 3 none (rmd 0) ly ly 0 0 [vR 73, vI b] h (fun r h' => (TY h' ∧ FRM [99] [] h h') ∧ r = none) := by
  refine Ctr_of (by decide) (Nat.le_of_ble_eq_true rfl) ⟨Nat.le_refl _, Nat.le_refl _⟩ (fun K hK hQ _ => ?_)
  show TT K ly 0 0 0 [(0, vR 73), (1, vI b)] [] h
  have hF : FRM [99] [] h h := FRM_rf _ _ _
  refine TT_iconst hK dX12_useWord_0 ?_
  refine TT_istore_n hK rfl (lv' := [(2, vI 0), (0, vR 73), (1, vI b)]) (by decide) rfl dX12_useWord_1 ?_
  have L2_1 : ∀ (k1 : Nat) (i : Int) (w2_1 : Hp_), TY w2_1 → FRM [99] [] h w2_1 → (0 ≤ i ∧ i ≤ 4400) → ((4400 : Int) - i).toNat < k1 → TT K ly 0 0 2 [(0, vR 73), (1, vI b), (2, vI i)] [] w2_1 := by
    intro k1
    induction k1 with
    | zero => intro i w2_1 hT2_1 hF2_1 hi hk1; exact absurd hk1 (Nat.not_lt_zero _)
    | succ k1 ih1 =>
      intro i w2_1 hT2_1 hF2_1 hi hk1
      refine TT_iload_n hK rfl 2 rfl dX12_useWord_2 ?_
      refine TT_aload_n hK rfl 0 rfl dX12_useWord_3 ?_
      refine gf_X12_69 hK (by decide) rfl (q := 91) rfl rfl dX12_useWord_4 ?_
      refine TT_iload_n hK rfl 1 rfl dX12_useWord_7 ?_
      refine TT_iald hK (o := 91) (n := 10) (by decide) rfl (by first | omega | (simp [up, setR] <;> omega)) (by first | omega | (simp [up, setR] <;> omega)) (v := (h 91) b) (rd_ (hF2_1.1 91 (by decide)) rfl) dX12_useWord_8 ?_
      have r2 := ty_91 (i := b) (v := (h 91) b) hT2_1 (rd_ (hF2_1.1 91 (by decide)) rfl) (by omega) (by omega)
      refine TT_icmp_ge hK (tgt := 37) (irm (by omega) (by omega)) (irm (by omega) (by omega)) dX12_useWord_9 (by decide) (fun hb9_3 => ?_) (fun hb9_3 => ?_)
      · refine TT_vret hK hQ ?_ dX12_useWord_37
        exact ⟨⟨hT2_1, hF2_1⟩, rfl⟩
      · refine TT_aload_n hK rfl 0 rfl dX12_useWord_12 ?_
        refine gf_X12_93 hK (by decide) rfl (q := 99) rfl rfl dX12_useWord_13 ?_
        refine TT_iload_n hK rfl 2 rfl dX12_useWord_16 ?_
        refine TT_aload_n hK rfl 0 rfl dX12_useWord_17 ?_
        refine gf_X12_63 hK (by decide) rfl (q := 89) rfl rfl dX12_useWord_18 ?_
        refine TT_aload_n hK rfl 0 rfl dX12_useWord_21 ?_
        refine gf_X12_66 hK (by decide) rfl (q := 90) rfl rfl dX12_useWord_22 ?_
        refine TT_iload_n hK rfl 1 rfl dX12_useWord_25 ?_
        refine TT_iald hK (o := 90) (n := 10) (by decide) rfl (by first | omega | (simp [up, setR] <;> omega)) (by first | omega | (simp [up, setR] <;> omega)) (v := (h 90) b) (rd_ (hF2_1.1 90 (by decide)) rfl) dX12_useWord_26 ?_
        have r4 := ty_90 (i := b) (v := (h 90) b) hT2_1 (rd_ (hF2_1.1 90 (by decide)) rfl) (by omega) (by omega)
        refine TT_iload_n hK rfl 2 rfl dX12_useWord_27 ?_
        refine TT_iadd hK dX12_useWord_28 ?_
        refine TT_iald hK (o := 89) (n := 4400) (by decide) rfl (by first | omega | (simp [up, setR] <;> omega)) (by first | omega | (simp [up, setR] <;> omega)) (v := (h 89) (((h 90) b) + i)) (rd_ (hF2_1.1 89 (by decide)) rfl) dX12_useWord_29 ?_
        have r5 := ty_89 (i := ((h 90) b) + i) (v := (h 89) (((h 90) b) + i)) hT2_1 (rd_ (hF2_1.1 89 (by decide)) rfl) (by omega) (by omega)
        refine TT_iast hK (o := 99) (n := 4400) (by decide) rfl (by omega) (by omega) dX12_useWord_30 ?_
        refine TT_hp (h' := setO w2_1 99 (fup (w2_1 99) i ((h 89) (((h 90) b) + i)))) (up_can rfl rfl rfl) ?_
        have hT_6 : TY (setO w2_1 99 (fup (w2_1 99) i ((h 89) (((h 90) b) + i)))) := tu_99 hT2_1 (show up w2_1 99 i ((h 89) (((h 90) b) + i)) = (setO w2_1 99 (fup (w2_1 99) i ((h 89) (((h 90) b) + i)))) from up_can rfl rfl rfl) (by omega)
        have hF_6 : FRM [99] [] h (setO w2_1 99 (fup (w2_1 99) i ((h 89) (((h 90) b) + i)))) := FRM_up (show up w2_1 99 i ((h 89) (((h 90) b) + i)) = (setO w2_1 99 (fup (w2_1 99) i ((h 89) (((h 90) b) + i)))) from up_can rfl rfl rfl) hF2_1 (by decide) (by decide)
        refine TT_iinc hK (v := i + 1) (lv' := [(2, vI (i + 1)), (0, vR 73), (1, vI b)]) 2 rfl rfl (by decide) rfl dX12_useWord_31 ?_
        refine TT_goto hK (tgt := 2) dX12_useWord_34 (by decide) ?_
        refine TT_sub [1, 2, 0] rfl ?_
        exact ih1 (i + 1) (setO w2_1 99 (fup (w2_1 99) i ((h 89) (((h 90) b) + i)))) hT_6 hF_6 (by first | omega | (simp [up, setR] <;> omega)) (by first | omega | (simp [up, setR] <;> omega))
  refine TT_sub [1, 2, 0] rfl ?_
  exact L2_1 ((((4400 : Int) - 0).toNat) + 1) 0 h hT hF (by first | omega | (simp [up, setR] <;> omega)) (Nat.lt_succ_self _)

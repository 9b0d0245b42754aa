def pwB (k : Int) : Int := if k = 0 then 0 else if k = 1 then 1 else if k = 2 then 3 else if k = 3 then 7 else if k = 4 then 15 else if k = 5 then 31 else 536870911
theorem pwB0 : (0 : Int) ≤ pwB 0 := by decide
theorem pwS {k v b : Int} (hk : 0 ≤ k) (hv : 0 ≤ v ∧ v ≤ 536870911) (h : v ≤ pwB k) (h2 : v < 268435456) (hb : 0 ≤ b ∧ b ≤ 1) : 2 * v + b ≤ pwB (k + 1) := by
  rcases (show k = 0 ∨ k = 1 ∨ k = 2 ∨ k = 3 ∨ k = 4 ∨ 5 ≤ k by omega) with rfl | rfl | rfl | rfl | rfl | h5
  · rw [show pwB 0 = 0 by decide] at h; rw [show pwB (0 + 1) = 1 by decide]; omega
  · rw [show pwB 1 = 1 by decide] at h; rw [show pwB (1 + 1) = 3 by decide]; omega
  · rw [show pwB 2 = 3 by decide] at h; rw [show pwB (2 + 1) = 7 by decide]; omega
  · rw [show pwB 3 = 7 by decide] at h; rw [show pwB (3 + 1) = 15 by decide]; omega
  · rw [show pwB 4 = 15 by decide] at h; rw [show pwB (4 + 1) = 31 by decide]; omega
  · unfold pwB
    rw [if_neg (by omega), if_neg (by omega), if_neg (by omega), if_neg (by omega), if_neg (by omega), if_neg (by omega)]
    omega
theorem pwT {k v : Int} (hk : 0 ≤ k) (h : v ≤ pwB k) (h2 : 268435456 ≤ v) : v ≤ pwB (k + 1) := by
  unfold pwB at h ⊢
  (repeat' split at h) <;> (repeat' split) <;> omega
theorem pwX {n k v : Int} (hk : n ≤ k) (hk2 : 0 ≤ k ∧ (k ≤ n ∨ k = 0)) (h : v ≤ pwB k) : (n = 1 → v ≤ 1) ∧ (n = 2 → v ≤ 3) ∧ (n = 4 → v ≤ 15) ∧ (n = 5 → v ≤ 31) := by
  refine ⟨fun e => ?_, fun e => ?_, fun e => ?_, fun e => ?_⟩
  · rw [show k = 1 by omega, show pwB 1 = 1 by decide] at h; exact h
  · rw [show k = 2 by omega, show pwB 2 = 3 by decide] at h; exact h
  · rw [show k = 4 by omega, show pwB 4 = 15 by decide] at h; exact h
  · rw [show k = 5 by omega, show pwB 5 = 31 by decide] at h; exact h
theorem IS_mono {f : Int → Int} {b c : Int} (hb : 0 ≤ b) (hc : b ≤ c) (h : ∀ k : Int, 0 ≤ k → k < c → 0 ≤ f k) : IS f b ≤ IS f c := by
  obtain ⟨m, rfl⟩ : ∃ m : Nat, c = b + (m : Int) := ⟨(c - b).toNat, by omega⟩
  clear hc
  induction m with
  | zero => rw [show b + ((0 : Nat) : Int) = b by omega]; exact Int.le_refl _
  | succ m ih =>
    have i1 := ih (fun k h1 h2 => h k h1 (by omega))
    have i2 := h (b + (m : Int)) (by omega) (by omega)
    rw [show b + ((m + 1 : Nat) : Int) = (b + (m : Int)) + 1 by omega, IS_s (by omega)]
    omega
def PSQ (pc sz : Int → Int) (m : Int) : Prop := ∀ j : Int, 0 ≤ j → j ≤ 9 → pc j ≤ 3 → IS (fun q => sz (3 * j + q)) (pc j) ≤ m
def PAQ (pc pa sz : Int → Int) : Prop := ∀ j k : Int, 0 ≤ j → j ≤ 9 → 0 ≤ k → k < pc j → k ≤ 2 → pa (3 * j + k) + sz (3 * j + k) ≤ 4400
theorem PSQ_m {pc sz : Int → Int} {m m' : Int} (h : PSQ pc sz m) (hm : m ≤ m') : PSQ pc sz m' := fun j h0 h1 h2 => Int.le_trans (h j h0 h1 h2) hm
theorem PSQ_n {pc sz : Int → Int} {m b t : Int} (h : PSQ pc sz m) (hb : 0 ≤ b ∧ b ≤ 9) (hp : 0 ≤ pc b ∧ pc b ≤ 2) (ht : 0 ≤ t) : PSQ (fup pc b (pc b + 1)) (fup sz (3 * b + pc b) t) (m + t) := by
  intro j h0 h1 h2
  by_cases e : j = b
  · subst e
    rw [fup_eq, IS_s hp.1]
    have e1 : IS (fun q => fup sz (3 * j + pc j) t (3 * j + q)) (pc j) = IS (fun q => sz (3 * j + q)) (pc j) := IS_eq (fun k h3 h4 => fup_ne _ _ (by omega))
    have e2 : fup sz (3 * j + pc j) t (3 * j + pc j) = t := fup_eq _ _ _
    have := h j h0 h1 (by omega)
    show IS (fun q => fup sz (3 * j + pc j) t (3 * j + q)) (pc j) + fup sz (3 * j + pc j) t (3 * j + pc j) ≤ m + t
    rw [e1, e2]
    omega
  · rw [fup_ne _ _ e] at h2 ⊢
    have e1 : IS (fun q => fup sz (3 * b + pc b) t (3 * j + q)) (pc j) = IS (fun q => sz (3 * j + q)) (pc j) := IS_eq (fun k h3 h4 => fup_ne _ _ (by omega))
    rw [e1]
    have := h j h0 h1 h2
    omega
theorem PAQ_n {pc pa sz : Int → Int} {b t p : Int} (h : PAQ pc pa sz) (hb : 0 ≤ b ∧ b ≤ 9) (hp : 0 ≤ pc b ∧ pc b ≤ 2) (ht : p + t ≤ 4400) : PAQ (fup pc b (pc b + 1)) (fup pa (3 * b + pc b) p) (fup sz (3 * b + pc b) t) := by
  intro j k h0 h1 h2 h3 h4
  by_cases e : j = b
  · subst e
    rw [fup_eq] at h3
    by_cases e2 : k = pc j
    · rw [e2, fup_eq, fup_eq]; exact ht
    · rw [fup_ne _ _ (show 3 * j + k ≠ 3 * j + pc j by omega), fup_ne _ _ (show 3 * j + k ≠ 3 * j + pc j by omega)]
      exact h j k h0 h1 h2 (by omega) h4
  · rw [fup_ne _ _ e] at h3
    rw [fup_ne _ _ (show 3 * j + k ≠ 3 * b + pc b by omega), fup_ne _ _ (show 3 * j + k ≠ 3 * b + pc b by omega)]
    exact h j k h0 h1 h2 h3 h4
set_option maxRecDepth 20000 in
theorem s_X12_getBits_73 (n : Int) (h : Hp_) (hT : TY h) (hn : -2147483648 ≤ n ∧ n ≤ 2147483647) : Ctr yX12_getBits cX12_getBits 5 (some .int) (rmd 1) ly ly 0 0 [vR 73, vI n] h (fun r h' => (TY h' ∧ FRM [73] [42, 43, 45] h h') ∧ ∃ z : Int, r = some (vI z) ∧ (0 ≤ z ∧ z ≤ 536870911) ∧ ((n = 1 → z ≤ 1) ∧ (n = 2 → z ≤ 3) ∧ (n = 4 → z ≤ 15) ∧ (n = 5 → z ≤ 31)) ∧ ((h' 73 45) = 0 → n = 1 → 8 * (h' 73 42) + (h' 73 43) = 8 * (h 73 42) + (h 73 43) + 1 ∧ 8 * (h' 73 42) + (h' 73 43) ≤ 8 * (h 73 44)) ∧ (8 * (h 73 42) + (h 73 43) ≤ 8 * (h' 73 42) + (h' 73 43))) := by
  refine Ctr_of (by decide) (Nat.le_of_ble_eq_true rfl) ⟨Nat.le_refl _, Nat.le_refl _⟩ (fun K hK hQ _ => ?_)
  show TT K ly 0 0 0 [(0, vR 73), (1, vI n)] [] h
  have hF : FRM [73] [42, 43, 45] h h := FRM_rf _ _ _
  refine TT_iconst hK dX12_getBits_0 ?_
  refine TT_istore_n hK rfl (lv' := [(2, vI 0), (0, vR 73), (1, vI n)]) (by decide) rfl dX12_getBits_1 ?_
  refine TT_iconst hK dX12_getBits_2 ?_
  refine TT_istore_n hK rfl (lv' := [(3, vI 0), (2, vI 0), (0, vR 73), (1, vI n)]) (by decide) rfl dX12_getBits_3 ?_
  have L4_1 : ∀ (k1 : Nat) (v : Int) (k : Int) (w4_1 : Hp_), TY w4_1 → FRM [73] [42, 43, 45] h w4_1 → (0 ≤ k ∧ (k ≤ n ∨ k = 0)) → (0 ≤ v ∧ v ≤ 536870911) → (v ≤ pwB k) → ((w4_1 73 45) = 0 → 8 * (w4_1 73 42) + (w4_1 73 43) = 8 * (h 73 42) + (h 73 43) + k ∧ (k = 0 ∨ 8 * (w4_1 73 42) + (w4_1 73 43) ≤ 8 * h 73 44)) → (8 * (h 73 42) + (h 73 43) ≤ 8 * (w4_1 73 42) + (w4_1 73 43)) → (n - k).toNat < k1 → TT K ly 0 0 4 [(0, vR 73), (1, vI n), (2, vI v), (3, vI k)] [] w4_1 := by
    intro k1
    induction k1 with
    | zero => intro v k w4_1 hT4_1 hF4_1 hk hv hpv hu hu2 hk1; exact absurd hk1 (Nat.not_lt_zero _)
    | succ k1 ih1 =>
      intro v k w4_1 hT4_1 hF4_1 hk hv hpv hu hu2 hk1
      refine TT_iload_n hK rfl 3 rfl dX12_getBits_4 ?_
      refine TT_iload_n hK rfl 1 rfl dX12_getBits_5 ?_
      refine TT_icmp_ge hK (tgt := 103) (irm (by omega) (by omega)) (irm (by omega) (by omega)) dX12_getBits_6 (by decide) (fun hb6_2 => ?_) (fun hb6_2 => ?_)
      · refine TT_iload_n hK rfl 2 rfl dX12_getBits_103 ?_
        refine TT_iret hK hQ ?_ dX12_getBits_104
        have e3_73_42 : w4_1 73 42 = (w4_1 73) 42 := rfl
        have e4_73_43 : w4_1 73 43 = (w4_1 73) 43 := rfl
        have e5_73_45 : w4_1 73 45 = (w4_1 73) 45 := rfl
        have e6_73_42 : w4_1 73 42 = (w4_1 73) 42 := rfl
        have e7_73_43 : w4_1 73 43 = (w4_1 73) 43 := rfl
        exact ⟨⟨hT4_1, hF4_1⟩, v, rfl, (by omega), (by exact pwX (by omega) (by omega) hpv), (by rewrite [e3_73_42, e4_73_43, e5_73_45]; omega), (by rewrite [e6_73_42, e7_73_43]; omega)⟩
      · refine TT_aload_n hK rfl 0 rfl dX12_getBits_9 ?_
        refine TT_aload_n hK rfl 0 rfl dX12_getBits_10 ?_
        refine gf_X12_365 hK (by decide) rfl (v := (w4_1 73) 45) rfl dX12_getBits_11 ?_
        have r8 := ty_73_45 (v := (w4_1 73) 45) hT4_1 rfl
        refine TT_if_ne hK (tgt := 28) (irm (by omega) (by omega)) dX12_getBits_14 (by decide) (fun hb14_9 => ?_) (fun hb14_9 => ?_)
        · refine TT_iconst hK dX12_getBits_28 ?_
          refine TT_goto hK (tgt := 33) dX12_getBits_29 (by decide) ?_
          refine pf_X12_365 hK (by decide) rfl (by first | decide | omega) dX12_getBits_33 ?_
          refine TT_hp (h' := setO w4_1 73 (fup (w4_1 73) 45 1)) (up_can rfl rfl rfl) ?_
          have hT_10 : TY (setO w4_1 73 (fup (w4_1 73) 45 1)) := tu_73_45 hT4_1 (show up w4_1 73 45 1 = (setO w4_1 73 (fup (w4_1 73) 45 1)) from up_can rfl rfl rfl) (by omega)
          have hF_10 : FRM [73] [42, 43, 45] h (setO w4_1 73 (fup (w4_1 73) 45 1)) := FRM_f (show up w4_1 73 45 1 = (setO w4_1 73 (fup (w4_1 73) 45 1)) from up_can rfl rfl rfl) hF4_1 (by decide) (by decide)
          refine TT_aload_n hK rfl 0 rfl dX12_getBits_36 ?_
          refine gf_X12_365 hK (by decide) rfl (v := 1) (rd_ (sOf_eq _ _ _) (fup_eq _ _ _)) dX12_getBits_37 ?_
          refine TT_if_eq hK (tgt := 47) (by decide) dX12_getBits_40 (by decide) (fun hb40_11 => ?_) (fun hb40_11 => ?_)
          · exact absurd hb40_11 (by decide)
          · refine TT_iconst hK dX12_getBits_43 ?_
            refine TT_goto hK (tgt := 66) dX12_getBits_44 (by decide) ?_
            refine TT_istore hK (lv' := [(4, vI 0), (0, vR 73), (1, vI n), (2, vI v), (3, vI k)]) (by decide) rfl dX12_getBits_66 ?_
            refine TT_iload_n hK rfl 3 rfl dX12_getBits_68 ?_
            refine TT_ldcw hK lc_X12_371 dX12_getBits_69 ?_
            refine TT_icmp_lt hK (tgt := 79) (irm (by omega) (by omega)) (by decide) dX12_getBits_72 (by decide) (fun hb72_12 => ?_) (fun hb72_12 => ?_)
            · refine TT_iconst hK dX12_getBits_79 ?_
              refine TT_iload_n hK rfl 3 rfl dX12_getBits_80 ?_
              refine TT_imul hK dX12_getBits_81 ?_
              refine TT_iload hK 0 rfl dX12_getBits_82 ?_
              refine TT_iadd hK dX12_getBits_84 ?_
              refine TT_istore_n hK rfl (lv' := [(2, vI ((2 * v) + 0)), (4, vI 0), (0, vR 73), (1, vI n), (3, vI k)]) (by decide) rfl dX12_getBits_85 ?_
              refine TT_aload_n hK rfl 2 rfl dX12_getBits_86 ?_
              refine gf_X12_365 hK (by decide) rfl (v := 1) (rd_ (sOf_eq _ _ _) (fup_eq _ _ _)) dX12_getBits_87 ?_
              refine TT_if_ne hK (tgt := 97) (by decide) dX12_getBits_90 (by decide) (fun hb90_13 => ?_) (fun hb90_13 => ?_)
              · refine TT_iinc hK (v := k + 1) (lv' := [(3, vI (k + 1)), (2, vI ((2 * v) + 0)), (4, vI 0), (0, vR 73), (1, vI n)]) 4 rfl rfl (by decide) rfl dX12_getBits_97 ?_
                refine TT_goto hK (tgt := 4) dX12_getBits_100 (by decide) ?_
                refine TT_sub [3, 4, 1, 0] rfl ?_
                have e14_73_42 : (setO w4_1 73 (fup (w4_1 73) 45 1)) 73 42 = (w4_1 73) 42 := rd_ (sOf_eq _ _ _) (fup_ne _ _ (by decide))
                have e15_73_43 : (setO w4_1 73 (fup (w4_1 73) 45 1)) 73 43 = (w4_1 73) 43 := rd_ (sOf_eq _ _ _) (fup_ne _ _ (by decide))
                have e16_73_45 : (setO w4_1 73 (fup (w4_1 73) 45 1)) 73 45 = 1 := rd_ (sOf_eq _ _ _) (fup_eq _ _ _)
                have e17_73_42 : (setO w4_1 73 (fup (w4_1 73) 45 1)) 73 42 = (w4_1 73) 42 := rd_ (sOf_eq _ _ _) (fup_ne _ _ (by decide))
                have e18_73_43 : (setO w4_1 73 (fup (w4_1 73) 45 1)) 73 43 = (w4_1 73) 43 := rd_ (sOf_eq _ _ _) (fup_ne _ _ (by decide))
                exact ih1 ((2 * v) + 0) (k + 1) (setO w4_1 73 (fup (w4_1 73) 45 1)) hT_10 hF_10 (by first | omega | (simp [up, setR] <;> omega)) (by first | omega | (simp [up, setR] <;> omega)) (by first | exact pwS (by omega) hv hpv (by omega) (by omega) | exact pwT (by omega) hpv (by omega)) (by rewrite [e14_73_42, e15_73_43, e16_73_45]; first | omega | (simp [up, setR] <;> omega)) (by rewrite [e17_73_42, e18_73_43]; first | omega | (simp [up, setR] <;> omega)) (by first | omega | (simp [up, setR] <;> omega))
              · exact absurd hb90_13 (by decide)
            · refine TT_iload_n hK rfl 3 rfl dX12_getBits_75 ?_
              refine TT_goto hK (tgt := 85) dX12_getBits_76 (by decide) ?_
              refine TT_istore_n hK rfl (lv' := [(2, vI v), (4, vI 0), (0, vR 73), (1, vI n), (3, vI k)]) (by decide) rfl dX12_getBits_85 ?_
              refine TT_aload_n hK rfl 2 rfl dX12_getBits_86 ?_
              refine gf_X12_365 hK (by decide) rfl (v := 1) (rd_ (sOf_eq _ _ _) (fup_eq _ _ _)) dX12_getBits_87 ?_
              refine TT_if_ne hK (tgt := 97) (by decide) dX12_getBits_90 (by decide) (fun hb90_19 => ?_) (fun hb90_19 => ?_)
              · refine TT_iinc hK (v := k + 1) (lv' := [(3, vI (k + 1)), (2, vI v), (4, vI 0), (0, vR 73), (1, vI n)]) 4 rfl rfl (by decide) rfl dX12_getBits_97 ?_
                refine TT_goto hK (tgt := 4) dX12_getBits_100 (by decide) ?_
                refine TT_sub [3, 4, 1, 0] rfl ?_
                have e20_73_42 : (setO w4_1 73 (fup (w4_1 73) 45 1)) 73 42 = (w4_1 73) 42 := rd_ (sOf_eq _ _ _) (fup_ne _ _ (by decide))
                have e21_73_43 : (setO w4_1 73 (fup (w4_1 73) 45 1)) 73 43 = (w4_1 73) 43 := rd_ (sOf_eq _ _ _) (fup_ne _ _ (by decide))
                have e22_73_45 : (setO w4_1 73 (fup (w4_1 73) 45 1)) 73 45 = 1 := rd_ (sOf_eq _ _ _) (fup_eq _ _ _)
                have e23_73_42 : (setO w4_1 73 (fup (w4_1 73) 45 1)) 73 42 = (w4_1 73) 42 := rd_ (sOf_eq _ _ _) (fup_ne _ _ (by decide))
                have e24_73_43 : (setO w4_1 73 (fup (w4_1 73) 45 1)) 73 43 = (w4_1 73) 43 := rd_ (sOf_eq _ _ _) (fup_ne _ _ (by decide))
                exact ih1 v (k + 1) (setO w4_1 73 (fup (w4_1 73) 45 1)) hT_10 hF_10 (by first | omega | (simp [up, setR] <;> omega)) (by first | omega | (simp [up, setR] <;> omega)) (by first | exact pwS (by omega) hv hpv (by omega) (by omega) | exact pwT (by omega) hpv (by omega)) (by rewrite [e20_73_42, e21_73_43, e22_73_45]; first | omega | (simp [up, setR] <;> omega)) (by rewrite [e23_73_42, e24_73_43]; first | omega | (simp [up, setR] <;> omega)) (by first | omega | (simp [up, setR] <;> omega))
              · exact absurd hb90_19 (by decide)
        · refine TT_aload_n hK rfl 0 rfl dX12_getBits_17 ?_
          refine gf_X12_311 hK (by decide) rfl (v := (w4_1 73) 42) rfl dX12_getBits_18 ?_
          have r25 := ty_73_42 (v := (w4_1 73) 42) hT4_1 rfl
          refine TT_aload_n hK rfl 0 rfl dX12_getBits_21 ?_
          refine gf_X12_368 hK (by decide) rfl (v := (h 73) 44) (hF4_1.2 44 (by decide)) dX12_getBits_22 ?_
          have r26 := ty_73_44 (v := (h 73) 44) hT4_1 (hF4_1.2 44 (by decide))
          refine TT_icmp_lt hK (tgt := 32) (irm (by omega) (by omega)) (irm (by omega) (by omega)) dX12_getBits_25 (by decide) (fun hb25_27 => ?_) (fun hb25_27 => ?_)
          · refine TT_iconst hK dX12_getBits_32 ?_
            refine pf_X12_365 hK (by decide) rfl (by first | decide | omega) dX12_getBits_33 ?_
            refine TT_hp (h' := setO w4_1 73 (fup (w4_1 73) 45 0)) (up_can rfl rfl rfl) ?_
            have hT_28 : TY (setO w4_1 73 (fup (w4_1 73) 45 0)) := tu_73_45 hT4_1 (show up w4_1 73 45 0 = (setO w4_1 73 (fup (w4_1 73) 45 0)) from up_can rfl rfl rfl) (by omega)
            have hF_28 : FRM [73] [42, 43, 45] h (setO w4_1 73 (fup (w4_1 73) 45 0)) := FRM_f (show up w4_1 73 45 0 = (setO w4_1 73 (fup (w4_1 73) 45 0)) from up_can rfl rfl rfl) hF4_1 (by decide) (by decide)
            refine TT_aload_n hK rfl 0 rfl dX12_getBits_36 ?_
            refine gf_X12_365 hK (by decide) rfl (v := 0) (rd_ (sOf_eq _ _ _) (fup_eq _ _ _)) dX12_getBits_37 ?_
            refine TT_if_eq hK (tgt := 47) (by decide) dX12_getBits_40 (by decide) (fun hb40_29 => ?_) (fun hb40_29 => ?_)
            · refine TT_aload_n hK rfl 0 rfl dX12_getBits_47 ?_
              refine gf_X12_96 hK (by decide) rfl (q := 100) rfl rfl dX12_getBits_48 ?_
              refine TT_aload_n hK rfl 0 rfl dX12_getBits_51 ?_
              refine gf_X12_311 hK (by decide) rfl (v := (w4_1 73) 42) (rd_ (sOf_eq _ _ _) (fup_ne _ _ (by decide))) dX12_getBits_52 ?_
              refine TT_iald hK (o := 100) (n := 4700) (by decide) rfl (by first | omega | (simp [up, setR] <;> omega)) (by first | omega | (simp [up, setR] <;> omega)) (v := (h 100) ((w4_1 73) 42)) (rd_ ((sOf_ne _ _ (by decide)).trans (hF4_1.1 100 (by decide))) rfl) dX12_getBits_55 ?_
              have r30 := ty_100 (i := (w4_1 73) 42) (v := (h 100) ((w4_1 73) 42)) hT_28 (rd_ ((sOf_ne _ _ (by decide)).trans (hF4_1.1 100 (by decide))) rfl) (by omega) (by omega)
              refine TT_bipush hK (by decide) dX12_getBits_56 ?_
              refine TT_aload_n hK rfl 0 rfl dX12_getBits_58 ?_
              refine gf_X12_314 hK (by decide) rfl (v := (w4_1 73) 43) (rd_ (sOf_eq _ _ _) (fup_ne _ _ (by decide))) dX12_getBits_59 ?_
              have r31 := ty_73_43 (v := (w4_1 73) 43) hT_28 (rd_ (sOf_eq _ _ _) (fup_ne _ _ (by decide)))
              refine TT_isub hK dX12_getBits_62 ?_
              refine TT_ishr_a hK dX12_getBits_63 (fun x63_32 hx32 => ?_)
              refine TT_iconst hK dX12_getBits_64 ?_
              refine TT_iand hK dX12_getBits_65 ?_
              refine TT_cgI (iand_m x63_32 1 (by decide)) ?_
              show TT K ly 0 0 66 [(0, vR 73), (1, vI n), (2, vI v), (3, vI k)] (vI (x63_32 % 2) :: []) (setO w4_1 73 (fup (w4_1 73) 45 0))
              refine TT_istore hK (lv' := [(4, vI (x63_32 % 2)), (0, vR 73), (1, vI n), (2, vI v), (3, vI k)]) (by decide) rfl dX12_getBits_66 ?_
              refine TT_iload_n hK rfl 3 rfl dX12_getBits_68 ?_
              refine TT_ldcw hK lc_X12_371 dX12_getBits_69 ?_
              refine TT_icmp_lt hK (tgt := 79) (irm (by omega) (by omega)) (by decide) dX12_getBits_72 (by decide) (fun hb72_33 => ?_) (fun hb72_33 => ?_)
              · refine TT_iconst hK dX12_getBits_79 ?_
                refine TT_iload_n hK rfl 3 rfl dX12_getBits_80 ?_
                refine TT_imul hK dX12_getBits_81 ?_
                refine TT_iload hK 0 rfl dX12_getBits_82 ?_
                refine TT_iadd hK dX12_getBits_84 ?_
                refine TT_istore_n hK rfl (lv' := [(2, vI ((2 * v) + (x63_32 % 2))), (4, vI (x63_32 % 2)), (0, vR 73), (1, vI n), (3, vI k)]) (by decide) rfl dX12_getBits_85 ?_
                refine TT_aload_n hK rfl 2 rfl dX12_getBits_86 ?_
                refine gf_X12_365 hK (by decide) rfl (v := 0) (rd_ (sOf_eq _ _ _) (fup_eq _ _ _)) dX12_getBits_87 ?_
                refine TT_if_ne hK (tgt := 97) (by decide) dX12_getBits_90 (by decide) (fun hb90_34 => ?_) (fun hb90_34 => ?_)
                · exact absurd hb90_34 (by decide)
                · refine TT_aload_n hK rfl 2 rfl dX12_getBits_93 ?_
                  have e35_73_42 : (setO w4_1 73 (fup (w4_1 73) 45 0)) 73 42 = (w4_1 73) 42 := rd_ (sOf_eq _ _ _) (fup_ne _ _ (by decide))
                  refine iv_X12_317 hK (s_X12_stepBit_73 (setO w4_1 73 (fup (w4_1 73) 45 0)) hT_28 (by rewrite [e35_73_42]; first | omega | (simp [up, setR] <;> omega))) (by decide) rfl ⟨by decide, by decide⟩ (by decide) rfl rfl (Nat.le_of_ble_eq_true rfl) ⟨by decide, by decide⟩ dX12_getBits_94 ?_
                  intro r9 g94_36 hp9
                  obtain ⟨⟨hT_36, hG_36⟩, hr9, p1_36⟩ := hp9
                  rw [hr9]
                  have hF_36 : FRM [73] [42, 43, 45] h g94_36 := FRM_tr hF_28 hG_36 (by decide) (by decide)
                  rw [show (setO w4_1 73 (fup (w4_1 73) 45 0)) 73 42 = (w4_1 73) 42 from rd_ (sOf_eq _ _ _) (fup_ne _ _ (by decide))] at p1_36
                  rw [show (setO w4_1 73 (fup (w4_1 73) 45 0)) 73 43 = (w4_1 73) 43 from rd_ (sOf_eq _ _ _) (fup_ne _ _ (by decide))] at p1_36
                  show TT K ly 0 0 97 [(2, vI ((2 * v) + (x63_32 % 2))), (4, vI (x63_32 % 2)), (0, vR 73), (1, vI n), (3, vI k)] [] g94_36
                  refine TT_iinc hK (v := k + 1) (lv' := [(3, vI (k + 1)), (2, vI ((2 * v) + (x63_32 % 2))), (4, vI (x63_32 % 2)), (0, vR 73), (1, vI n)]) 4 rfl rfl (by decide) rfl dX12_getBits_97 ?_
                  refine TT_goto hK (tgt := 4) dX12_getBits_100 (by decide) ?_
                  refine TT_sub [3, 4, 1, 0] rfl ?_
                  have e37_73_42 : g94_36 73 42 = (g94_36 73) 42 := rfl
                  have e38_73_43 : g94_36 73 43 = (g94_36 73) 43 := rfl
                  have e39_73_45 : g94_36 73 45 = 0 := ((hG_36.2 45 (by decide))).trans (rd_ (sOf_eq _ _ _) (fup_eq _ _ _))
                  have e40_73_42 : g94_36 73 42 = (g94_36 73) 42 := rfl
                  have e41_73_43 : g94_36 73 43 = (g94_36 73) 43 := rfl
                  exact ih1 ((2 * v) + (x63_32 % 2)) (k + 1) g94_36 hT_36 hF_36 (by first | omega | (simp [up, setR] <;> omega)) (by first | omega | (simp [up, setR] <;> omega)) (by first | exact pwS (by omega) hv hpv (by omega) (by omega) | exact pwT (by omega) hpv (by omega)) (by rewrite [e37_73_42, e38_73_43, e39_73_45]; first | omega | (simp [up, setR] <;> omega)) (by rewrite [e40_73_42, e41_73_43]; first | omega | (simp [up, setR] <;> omega)) (by first | omega | (simp [up, setR] <;> omega))
              · refine TT_iload_n hK rfl 3 rfl dX12_getBits_75 ?_
                refine TT_goto hK (tgt := 85) dX12_getBits_76 (by decide) ?_
                refine TT_istore_n hK rfl (lv' := [(2, vI v), (4, vI (x63_32 % 2)), (0, vR 73), (1, vI n), (3, vI k)]) (by decide) rfl dX12_getBits_85 ?_
                refine TT_aload_n hK rfl 2 rfl dX12_getBits_86 ?_
                refine gf_X12_365 hK (by decide) rfl (v := 0) (rd_ (sOf_eq _ _ _) (fup_eq _ _ _)) dX12_getBits_87 ?_
                refine TT_if_ne hK (tgt := 97) (by decide) dX12_getBits_90 (by decide) (fun hb90_42 => ?_) (fun hb90_42 => ?_)
                · exact absurd hb90_42 (by decide)
                · refine TT_aload_n hK rfl 2 rfl dX12_getBits_93 ?_
                  have e43_73_42 : (setO w4_1 73 (fup (w4_1 73) 45 0)) 73 42 = (w4_1 73) 42 := rd_ (sOf_eq _ _ _) (fup_ne _ _ (by decide))
                  refine iv_X12_317 hK (s_X12_stepBit_73 (setO w4_1 73 (fup (w4_1 73) 45 0)) hT_28 (by rewrite [e43_73_42]; first | omega | (simp [up, setR] <;> omega))) (by decide) rfl ⟨by decide, by decide⟩ (by decide) rfl rfl (Nat.le_of_ble_eq_true rfl) ⟨by decide, by decide⟩ dX12_getBits_94 ?_
                  intro r9 g94_44 hp9
                  obtain ⟨⟨hT_44, hG_44⟩, hr9, p1_44⟩ := hp9
                  rw [hr9]
                  have hF_44 : FRM [73] [42, 43, 45] h g94_44 := FRM_tr hF_28 hG_44 (by decide) (by decide)
                  rw [show (setO w4_1 73 (fup (w4_1 73) 45 0)) 73 42 = (w4_1 73) 42 from rd_ (sOf_eq _ _ _) (fup_ne _ _ (by decide))] at p1_44
                  rw [show (setO w4_1 73 (fup (w4_1 73) 45 0)) 73 43 = (w4_1 73) 43 from rd_ (sOf_eq _ _ _) (fup_ne _ _ (by decide))] at p1_44
                  show TT K ly 0 0 97 [(2, vI v), (4, vI (x63_32 % 2)), (0, vR 73), (1, vI n), (3, vI k)] [] g94_44
                  refine TT_iinc hK (v := k + 1) (lv' := [(3, vI (k + 1)), (2, vI v), (4, vI (x63_32 % 2)), (0, vR 73), (1, vI n)]) 4 rfl rfl (by decide) rfl dX12_getBits_97 ?_
                  refine TT_goto hK (tgt := 4) dX12_getBits_100 (by decide) ?_
                  refine TT_sub [3, 4, 1, 0] rfl ?_
                  have e45_73_42 : g94_44 73 42 = (g94_44 73) 42 := rfl
                  have e46_73_43 : g94_44 73 43 = (g94_44 73) 43 := rfl
                  have e47_73_45 : g94_44 73 45 = 0 := ((hG_44.2 45 (by decide))).trans (rd_ (sOf_eq _ _ _) (fup_eq _ _ _))
                  have e48_73_42 : g94_44 73 42 = (g94_44 73) 42 := rfl
                  have e49_73_43 : g94_44 73 43 = (g94_44 73) 43 := rfl
                  exact ih1 v (k + 1) g94_44 hT_44 hF_44 (by first | omega | (simp [up, setR] <;> omega)) (by first | omega | (simp [up, setR] <;> omega)) (by first | exact pwS (by omega) hv hpv (by omega) (by omega) | exact pwT (by omega) hpv (by omega)) (by rewrite [e45_73_42, e46_73_43, e47_73_45]; first | omega | (simp [up, setR] <;> omega)) (by rewrite [e48_73_42, e49_73_43]; first | omega | (simp [up, setR] <;> omega)) (by first | omega | (simp [up, setR] <;> omega))
            · exact absurd hb40_29 (by decide)
          · refine TT_iconst hK dX12_getBits_28 ?_
            refine TT_goto hK (tgt := 33) dX12_getBits_29 (by decide) ?_
            refine pf_X12_365 hK (by decide) rfl (by first | decide | omega) dX12_getBits_33 ?_
            refine TT_hp (h' := setO w4_1 73 (fup (w4_1 73) 45 1)) (up_can rfl rfl rfl) ?_
            have hT_50 : TY (setO w4_1 73 (fup (w4_1 73) 45 1)) := tu_73_45 hT4_1 (show up w4_1 73 45 1 = (setO w4_1 73 (fup (w4_1 73) 45 1)) from up_can rfl rfl rfl) (by omega)
            have hF_50 : FRM [73] [42, 43, 45] h (setO w4_1 73 (fup (w4_1 73) 45 1)) := FRM_f (show up w4_1 73 45 1 = (setO w4_1 73 (fup (w4_1 73) 45 1)) from up_can rfl rfl rfl) hF4_1 (by decide) (by decide)
            refine TT_aload_n hK rfl 0 rfl dX12_getBits_36 ?_
            refine gf_X12_365 hK (by decide) rfl (v := 1) (rd_ (sOf_eq _ _ _) (fup_eq _ _ _)) dX12_getBits_37 ?_
            refine TT_if_eq hK (tgt := 47) (by decide) dX12_getBits_40 (by decide) (fun hb40_51 => ?_) (fun hb40_51 => ?_)
            · exact absurd hb40_51 (by decide)
            · refine TT_iconst hK dX12_getBits_43 ?_
              refine TT_goto hK (tgt := 66) dX12_getBits_44 (by decide) ?_
              refine TT_istore hK (lv' := [(4, vI 0), (0, vR 73), (1, vI n), (2, vI v), (3, vI k)]) (by decide) rfl dX12_getBits_66 ?_
              refine TT_iload_n hK rfl 3 rfl dX12_getBits_68 ?_
              refine TT_ldcw hK lc_X12_371 dX12_getBits_69 ?_
              refine TT_icmp_lt hK (tgt := 79) (irm (by omega) (by omega)) (by decide) dX12_getBits_72 (by decide) (fun hb72_52 => ?_) (fun hb72_52 => ?_)
              · refine TT_iconst hK dX12_getBits_79 ?_
                refine TT_iload_n hK rfl 3 rfl dX12_getBits_80 ?_
                refine TT_imul hK dX12_getBits_81 ?_
                refine TT_iload hK 0 rfl dX12_getBits_82 ?_
                refine TT_iadd hK dX12_getBits_84 ?_
                refine TT_istore_n hK rfl (lv' := [(2, vI ((2 * v) + 0)), (4, vI 0), (0, vR 73), (1, vI n), (3, vI k)]) (by decide) rfl dX12_getBits_85 ?_
                refine TT_aload_n hK rfl 2 rfl dX12_getBits_86 ?_
                refine gf_X12_365 hK (by decide) rfl (v := 1) (rd_ (sOf_eq _ _ _) (fup_eq _ _ _)) dX12_getBits_87 ?_
                refine TT_if_ne hK (tgt := 97) (by decide) dX12_getBits_90 (by decide) (fun hb90_53 => ?_) (fun hb90_53 => ?_)
                · refine TT_iinc hK (v := k + 1) (lv' := [(3, vI (k + 1)), (2, vI ((2 * v) + 0)), (4, vI 0), (0, vR 73), (1, vI n)]) 4 rfl rfl (by decide) rfl dX12_getBits_97 ?_
                  refine TT_goto hK (tgt := 4) dX12_getBits_100 (by decide) ?_
                  refine TT_sub [3, 4, 1, 0] rfl ?_
                  have e54_73_42 : (setO w4_1 73 (fup (w4_1 73) 45 1)) 73 42 = (w4_1 73) 42 := rd_ (sOf_eq _ _ _) (fup_ne _ _ (by decide))
                  have e55_73_43 : (setO w4_1 73 (fup (w4_1 73) 45 1)) 73 43 = (w4_1 73) 43 := rd_ (sOf_eq _ _ _) (fup_ne _ _ (by decide))
                  have e56_73_45 : (setO w4_1 73 (fup (w4_1 73) 45 1)) 73 45 = 1 := rd_ (sOf_eq _ _ _) (fup_eq _ _ _)
                  have e57_73_42 : (setO w4_1 73 (fup (w4_1 73) 45 1)) 73 42 = (w4_1 73) 42 := rd_ (sOf_eq _ _ _) (fup_ne _ _ (by decide))
                  have e58_73_43 : (setO w4_1 73 (fup (w4_1 73) 45 1)) 73 43 = (w4_1 73) 43 := rd_ (sOf_eq _ _ _) (fup_ne _ _ (by decide))
                  exact ih1 ((2 * v) + 0) (k + 1) (setO w4_1 73 (fup (w4_1 73) 45 1)) hT_50 hF_50 (by first | omega | (simp [up, setR] <;> omega)) (by first | omega | (simp [up, setR] <;> omega)) (by first | exact pwS (by omega) hv hpv (by omega) (by omega) | exact pwT (by omega) hpv (by omega)) (by rewrite [e54_73_42, e55_73_43, e56_73_45]; first | omega | (simp [up, setR] <;> omega)) (by rewrite [e57_73_42, e58_73_43]; first | omega | (simp [up, setR] <;> omega)) (by first | omega | (simp [up, setR] <;> omega))
                · exact absurd hb90_53 (by decide)
              · refine TT_iload_n hK rfl 3 rfl dX12_getBits_75 ?_
                refine TT_goto hK (tgt := 85) dX12_getBits_76 (by decide) ?_
                refine TT_istore_n hK rfl (lv' := [(2, vI v), (4, vI 0), (0, vR 73), (1, vI n), (3, vI k)]) (by decide) rfl dX12_getBits_85 ?_
                refine TT_aload_n hK rfl 2 rfl dX12_getBits_86 ?_
                refine gf_X12_365 hK (by decide) rfl (v := 1) (rd_ (sOf_eq _ _ _) (fup_eq _ _ _)) dX12_getBits_87 ?_
                refine TT_if_ne hK (tgt := 97) (by decide) dX12_getBits_90 (by decide) (fun hb90_59 => ?_) (fun hb90_59 => ?_)
                · refine TT_iinc hK (v := k + 1) (lv' := [(3, vI (k + 1)), (2, vI v), (4, vI 0), (0, vR 73), (1, vI n)]) 4 rfl rfl (by decide) rfl dX12_getBits_97 ?_
                  refine TT_goto hK (tgt := 4) dX12_getBits_100 (by decide) ?_
                  refine TT_sub [3, 4, 1, 0] rfl ?_
                  have e60_73_42 : (setO w4_1 73 (fup (w4_1 73) 45 1)) 73 42 = (w4_1 73) 42 := rd_ (sOf_eq _ _ _) (fup_ne _ _ (by decide))
                  have e61_73_43 : (setO w4_1 73 (fup (w4_1 73) 45 1)) 73 43 = (w4_1 73) 43 := rd_ (sOf_eq _ _ _) (fup_ne _ _ (by decide))
                  have e62_73_45 : (setO w4_1 73 (fup (w4_1 73) 45 1)) 73 45 = 1 := rd_ (sOf_eq _ _ _) (fup_eq _ _ _)
                  have e63_73_42 : (setO w4_1 73 (fup (w4_1 73) 45 1)) 73 42 = (w4_1 73) 42 := rd_ (sOf_eq _ _ _) (fup_ne _ _ (by decide))
                  have e64_73_43 : (setO w4_1 73 (fup (w4_1 73) 45 1)) 73 43 = (w4_1 73) 43 := rd_ (sOf_eq _ _ _) (fup_ne _ _ (by decide))
                  exact ih1 v (k + 1) (setO w4_1 73 (fup (w4_1 73) 45 1)) hT_50 hF_50 (by first | omega | (simp [up, setR] <;> omega)) (by first | omega | (simp [up, setR] <;> omega)) (by first | exact pwS (by omega) hv hpv (by omega) (by omega) | exact pwT (by omega) hpv (by omega)) (by rewrite [e60_73_42, e61_73_43, e62_73_45]; first | omega | (simp [up, setR] <;> omega)) (by rewrite [e63_73_42, e64_73_43]; first | omega | (simp [up, setR] <;> omega)) (by first | omega | (simp [up, setR] <;> omega))
                · exact absurd hb90_59 (by decide)
  refine TT_sub [2, 3, 1, 0] rfl ?_
  have e65_73_42 : h 73 42 = (h 73) 42 := rfl
  have e66_73_43 : h 73 43 = (h 73) 43 := rfl
  have e67_73_45 : h 73 45 = (h 73) 45 := rfl
  have e68_73_42 : h 73 42 = (h 73) 42 := rfl
  have e69_73_43 : h 73 43 = (h 73) 43 := rfl
  exact L4_1 (((n - 0).toNat) + 1) 0 0 h hT hF (by first | omega | (simp [up, setR] <;> omega)) (by first | omega | (simp [up, setR] <;> omega)) (by exact pwB0) (by rewrite [e65_73_42, e66_73_43, e67_73_45]; first | omega | (simp [up, setR] <;> omega)) (by rewrite [e68_73_42, e69_73_43]; first | omega | (simp [up, setR] <;> omega)) (Nat.lt_succ_self _)
set_option maxRecDepth 20000 in
theorem s_X12_getPasses_73 (h : Hp_) (hT : TY h)  : Ctr yX12_getPasses cX12_getPasses 2 (some .int) (rmd 2) ly ly 0 0 [vR 73] h (fun r h' => (TY h' ∧ FRM [73] [42, 43, 45] h h') ∧ ∃ z : Int, r = some (vI z) ∧ (1 ≤ z ∧ z ≤ 37) ∧ (8 * (h 73 42) + (h 73 43) ≤ 8 * (h' 73 42) + (h' 73 43))) := by
  refine Ctr_of (by decide) (Nat.le_of_ble_eq_true rfl) ⟨Nat.le_refl _, Nat.le_refl _⟩ (fun K hK hQ _ => ?_)
  show TT K ly 0 0 0 [(0, vR 73)] [] h
  have hF : FRM [73] [42, 43, 45] h h := FRM_rf _ _ _
  refine TT_aload_n hK rfl 0 rfl dX12_getPasses_0 ?_
  refine TT_iconst hK dX12_getPasses_1 ?_
  refine iv_X12_372 hK (s_X12_getBits_73 1 h hT (by first | omega | (simp [up, setR] <;> omega))) (by decide) rfl ⟨by decide, by decide⟩ (by decide) rfl rfl (Nat.le_of_ble_eq_true rfl) ⟨by decide, by decide⟩ dX12_getPasses_2 ?_
  intro r9 g2_1 hp9
  obtain ⟨⟨hT_1, hG_1⟩, z2_1, hr9, hz_1, p2_1, p3_1, p6_1⟩ := hp9
  rw [hr9]
  have hF_1 : FRM [73] [42, 43, 45] h g2_1 := FRM_tr hF hG_1 (by decide) (by decide)
  rw [show h 73 42 = (h 73) 42 from rfl] at p3_1
  rw [show h 73 43 = (h 73) 43 from rfl] at p3_1
  rw [show h 73 44 = (h 73) 44 from rfl] at p3_1
  rw [show h 73 42 = (h 73) 42 from rfl] at p6_1
  rw [show h 73 43 = (h 73) 43 from rfl] at p6_1
  show TT K ly 0 0 5 [(0, vR 73)] [vI z2_1] g2_1
  refine TT_if_ne hK (tgt := 10) (irm (by omega) (by omega)) dX12_getPasses_5 (by decide) (fun hb5_2 => ?_) (fun hb5_2 => ?_)
  · refine TT_aload_n hK rfl 0 rfl dX12_getPasses_10 ?_
    refine TT_iconst hK dX12_getPasses_11 ?_
    refine iv_X12_372 hK (s_X12_getBits_73 1 g2_1 hT_1 (by first | omega | (simp [up, setR] <;> omega))) (by decide) rfl ⟨by decide, by decide⟩ (by decide) rfl rfl (Nat.le_of_ble_eq_true rfl) ⟨by decide, by decide⟩ dX12_getPasses_12 ?_
    intro r9 g12_3 hp9
    obtain ⟨⟨hT_3, hG_3⟩, z12_3, hr9, hz_3, p2_3, p3_3, p6_3⟩ := hp9
    rw [hr9]
    have hF_3 : FRM [73] [42, 43, 45] h g12_3 := FRM_tr hF_1 hG_3 (by decide) (by decide)
    rw [show g2_1 73 42 = (g2_1 73) 42 from rfl] at p3_3
    rw [show g2_1 73 43 = (g2_1 73) 43 from rfl] at p3_3
    rw [show g2_1 73 44 = (h 73) 44 from (hG_1.2 44 (by decide))] at p3_3
    rw [show g2_1 73 42 = (g2_1 73) 42 from rfl] at p6_3
    rw [show g2_1 73 43 = (g2_1 73) 43 from rfl] at p6_3
    show TT K ly 0 0 15 [(0, vR 73)] [vI z12_3] g12_3
    refine TT_if_ne hK (tgt := 20) (irm (by omega) (by omega)) dX12_getPasses_15 (by decide) (fun hb15_4 => ?_) (fun hb15_4 => ?_)
    · refine TT_aload_n hK rfl 0 rfl dX12_getPasses_20 ?_
      refine TT_iconst hK dX12_getPasses_21 ?_
      refine iv_X12_372 hK (s_X12_getBits_73 2 g12_3 hT_3 (by first | omega | (simp [up, setR] <;> omega))) (by decide) rfl ⟨by decide, by decide⟩ (by decide) rfl rfl (Nat.le_of_ble_eq_true rfl) ⟨by decide, by decide⟩ dX12_getPasses_22 ?_
      intro r9 g22_5 hp9
      obtain ⟨⟨hT_5, hG_5⟩, z22_5, hr9, hz_5, p2_5, p3_5, p6_5⟩ := hp9
      rw [hr9]
      have hF_5 : FRM [73] [42, 43, 45] h g22_5 := FRM_tr hF_3 hG_5 (by decide) (by decide)
      rw [show g12_3 73 42 = (g12_3 73) 42 from rfl] at p3_5
      rw [show g12_3 73 43 = (g12_3 73) 43 from rfl] at p3_5
      rw [show g12_3 73 44 = (h 73) 44 from ((hG_3.2 44 (by decide))).trans (hG_1.2 44 (by decide))] at p3_5
      rw [show g12_3 73 42 = (g12_3 73) 42 from rfl] at p6_5
      rw [show g12_3 73 43 = (g12_3 73) 43 from rfl] at p6_5
      show TT K ly 0 0 25 [(0, vR 73)] [vI z22_5] g22_5
      refine TT_istore_n hK rfl (lv' := [(1, vI z22_5), (0, vR 73)]) (by decide) rfl dX12_getPasses_25 ?_
      refine TT_iload_n hK rfl 0 rfl dX12_getPasses_26 ?_
      refine TT_iconst hK dX12_getPasses_27 ?_
      refine TT_icmp_ge hK (tgt := 37) (irm (by omega) (by omega)) (by decide) dX12_getPasses_28 (by decide) (fun hb28_6 => ?_) (fun hb28_6 => ?_)
      · refine TT_bipush hK (by decide) dX12_getPasses_37 ?_
        refine TT_aload_n hK rfl 1 rfl dX12_getPasses_39 ?_
        refine TT_iconst hK dX12_getPasses_40 ?_
        refine iv_X12_372 hK (s_X12_getBits_73 5 g22_5 hT_5 (by first | omega | (simp [up, setR] <;> omega))) (by decide) rfl ⟨by decide, by decide⟩ (by decide) rfl rfl (Nat.le_of_ble_eq_true rfl) ⟨by decide, by decide⟩ dX12_getPasses_41 ?_
        intro r9 g41_7 hp9
        obtain ⟨⟨hT_7, hG_7⟩, z41_7, hr9, hz_7, p2_7, p3_7, p6_7⟩ := hp9
        rw [hr9]
        have hF_7 : FRM [73] [42, 43, 45] h g41_7 := FRM_tr hF_5 hG_7 (by decide) (by decide)
        rw [show g22_5 73 42 = (g22_5 73) 42 from rfl] at p3_7
        rw [show g22_5 73 43 = (g22_5 73) 43 from rfl] at p3_7
        rw [show g22_5 73 44 = (h 73) 44 from ((hG_5.2 44 (by decide))).trans (((hG_3.2 44 (by decide))).trans (hG_1.2 44 (by decide)))] at p3_7
        rw [show g22_5 73 42 = (g22_5 73) 42 from rfl] at p6_7
        rw [show g22_5 73 43 = (g22_5 73) 43 from rfl] at p6_7
        show TT K ly 0 0 44 [(1, vI z22_5), (0, vR 73)] [vI z41_7, vI 6] g41_7
        refine TT_iadd hK dX12_getPasses_44 ?_
        refine TT_iret hK hQ ?_ dX12_getPasses_45
        have e8_73_42 : g41_7 73 42 = (g41_7 73) 42 := rfl
        have e9_73_43 : g41_7 73 43 = (g41_7 73) 43 := rfl
        exact ⟨⟨hT_7, hF_7⟩, (6 + z41_7), rfl, (by omega), (by rewrite [e8_73_42, e9_73_43]; omega)⟩
      · refine TT_iconst hK dX12_getPasses_31 ?_
        refine TT_iload_n hK rfl 0 rfl dX12_getPasses_32 ?_
        refine TT_iadd hK dX12_getPasses_33 ?_
        refine TT_goto hK (tgt := 45) dX12_getPasses_34 (by decide) ?_
        refine TT_iret hK hQ ?_ dX12_getPasses_45
        have e10_73_42 : g22_5 73 42 = (g22_5 73) 42 := rfl
        have e11_73_43 : g22_5 73 43 = (g22_5 73) 43 := rfl
        exact ⟨⟨hT_5, hF_5⟩, (3 + z22_5), rfl, (by omega), (by rewrite [e10_73_42, e11_73_43]; omega)⟩
    · refine TT_iconst hK dX12_getPasses_18 ?_
      refine TT_iret hK hQ ?_ dX12_getPasses_19
      have e12_73_42 : g12_3 73 42 = (g12_3 73) 42 := rfl
      have e13_73_43 : g12_3 73 43 = (g12_3 73) 43 := rfl
      exact ⟨⟨hT_3, hF_3⟩, 2, rfl, (by omega), (by rewrite [e12_73_42, e13_73_43]; omega)⟩
  · refine TT_iconst hK dX12_getPasses_8 ?_
    refine TT_iret hK hQ ?_ dX12_getPasses_9
    have e14_73_42 : g2_1 73 42 = (g2_1 73) 42 := rfl
    have e15_73_43 : g2_1 73 43 = (g2_1 73) 43 := rfl
    exact ⟨⟨hT_1, hF_1⟩, 1, rfl, (by omega), (by rewrite [e14_73_42, e15_73_43]; omega)⟩
set_option maxRecDepth 20000 in
theorem s_X12_getHead_73 (b : Int) (h : Hp_) (hT : TY h) (hb : 10 ≤ b ∧ b ≤ 19) : Ctr yX12_getHead cX12_getHead 4 none (rmd 3) ly ly 0 0 [vR 73, vI b] h (fun r h' => (TY h' ∧ FRM [73, 83, 86, 88, 104] [42, 43, 45, 50] h h') ∧ r = none ∧ (8 * (h 73 42) + (h 73 43) ≤ 8 * (h' 73 42) + (h' 73 43))) := by
  refine Ctr_of (by decide) (Nat.le_of_ble_eq_true rfl) ⟨Nat.le_refl _, Nat.le_refl _⟩ (fun K hK hQ _ => ?_)
  show TT K ly 0 0 0 [(0, vR 73), (1, vI b)] [] h
  have hF : FRM [73, 83, 86, 88, 104] [42, 43, 45, 50] h h := FRM_rf _ _ _
  refine TT_aload_n hK rfl 0 rfl dX12_getHead_0 ?_
  refine TT_iconst hK dX12_getHead_1 ?_
  refine iv_X12_372 hK (s_X12_getBits_73 1 h hT (by first | omega | (simp [up, setR] <;> omega))) (by decide) rfl ⟨by decide, by decide⟩ (by decide) rfl rfl (Nat.le_of_ble_eq_true rfl) ⟨by decide, by decide⟩ dX12_getHead_2 ?_
  intro r9 g2_1 hp9
  obtain ⟨⟨hT_1, hG_1⟩, z2_1, hr9, hz_1, p2_1, p3_1, p6_1⟩ := hp9
  rw [hr9]
  have hF_1 : FRM [73, 83, 86, 88, 104] [42, 43, 45, 50] h g2_1 := FRM_tr hF hG_1 (by decide) (by decide)
  rw [show h 73 42 = (h 73) 42 from rfl] at p3_1
  rw [show h 73 43 = (h 73) 43 from rfl] at p3_1
  rw [show h 73 44 = (h 73) 44 from rfl] at p3_1
  rw [show h 73 42 = (h 73) 42 from rfl] at p6_1
  rw [show h 73 43 = (h 73) 43 from rfl] at p6_1
  show TT K ly 0 0 5 [(0, vR 73), (1, vI b)] [vI z2_1] g2_1
  refine TT_if_eq hK (tgt := 15) (irm (by omega) (by omega)) dX12_getHead_5 (by decide) (fun hb5_2 => ?_) (fun hb5_2 => ?_)
  · refine TT_vret hK hQ ?_ dX12_getHead_15
    have e3_73_42 : g2_1 73 42 = (g2_1 73) 42 := rfl
    have e4_73_43 : g2_1 73 43 = (g2_1 73) 43 := rfl
    exact ⟨⟨hT_1, hF_1⟩, rfl, (by rewrite [e3_73_42, e4_73_43]; omega)⟩
  · refine TT_aload_n hK rfl 0 rfl dX12_getHead_8 ?_
    refine gf_X12_365 hK (by decide) rfl (v := (g2_1 73) 45) rfl dX12_getHead_9 ?_
    have r5 := ty_73_45 (v := (g2_1 73) 45) hT_1 rfl
    refine TT_if_eq hK (tgt := 16) (irm (by omega) (by omega)) dX12_getHead_12 (by decide) (fun hb12_6 => ?_) (fun hb12_6 => ?_)
    · have J74_7 : ∀ (w74_7 : Hp_), TY w74_7 → FRM [73, 83, 86, 88, 104] [42, 43, 45, 50] h w74_7 → (8 * (h 73 42) + (h 73 43) ≤ 8 * (w74_7 73 42) + (w74_7 73 43)) → TT K ly 0 0 74 [(0, vR 73), (1, vI b)] [] w74_7 := by
        intro w74_7 hT74_7 hF74_7 hc1
        have J90_8 : ∀ (n : Int) (w90_8 : Hp_), TY w90_8 → FRM [73, 83, 86, 88, 104] [42, 43, 45, 50] h w90_8 → (1 ≤ n ∧ n ≤ 37) → (8 * (h 73 42) + (h 73 43) ≤ 8 * (w90_8 73 42) + (w90_8 73 43)) → TT K ly 0 0 90 [(0, vR 73), (1, vI b), (2, vI n)] [] w90_8 := by
          intro n w90_8 hT90_8 hF90_8 hn hc2
          have J129_9 : ∀ (w129_9 : Hp_), TY w129_9 → FRM [73, 83, 86, 88, 104] [42, 43, 45, 50] h w129_9 → (8 * (h 73 42) + (h 73 43) ≤ 8 * (w129_9 73 42) + (w129_9 73 43)) → TT K ly 0 0 129 [(0, vR 73), (1, vI b), (2, vI n)] [] w129_9 := by
            intro w129_9 hT129_9 hF129_9 hc3
            have J141_10 : ∀ (g0 : Int), (0 ≤ g0 ∧ g0 ≤ 1) → TT K ly 0 0 141 [(0, vR 73), (1, vI b), (2, vI n)] [vI g0] w129_9 := by
              intro g0 hg0
              refine TT_istore_n hK rfl (lv' := [(3, vI g0), (0, vR 73), (1, vI b), (2, vI n)]) (by decide) rfl dX12_getHead_141 ?_
              have L142_11 : ∀ (k11 : Nat) (gr : Int) (w142_11 : Hp_), TY w142_11 → FRM [73, 83, 86, 88, 104] [42, 43, 45, 50] h w142_11 → (0 ≤ gr ∧ gr ≤ 1) → (8 * (h 73 42) + (h 73 43) ≤ 8 * (w142_11 73 42) + (w142_11 73 43)) → (8 * (h 73 44) + 1 - (8 * (w142_11 73 42) + (w142_11 73 43))).toNat + gr.toNat < k11 → TT K ly 0 0 142 [(0, vR 73), (1, vI b), (2, vI n), (3, vI gr)] [] w142_11 := by
                intro k11
                induction k11 with
                | zero => intro gr w142_11 hT142_11 hF142_11 hgr hc4 hk11; exact absurd hk11 (Nat.not_lt_zero _)
                | succ k11 ih11 =>
                  intro gr w142_11 hT142_11 hF142_11 hgr hc4 hk11
                  refine TT_iload_n hK rfl 3 rfl dX12_getHead_142 ?_
                  refine TT_if_eq hK (tgt := 198) (irm (by omega) (by omega)) dX12_getHead_143 (by decide) (fun hb143_12 => ?_) (fun hb143_12 => ?_)
                  · refine TT_aload_n hK rfl 0 rfl dX12_getHead_198 ?_
                    refine gf_X12_375 hK (by decide) rfl (v := (w142_11 73) 50) rfl dX12_getHead_199 ?_
                    have r13 := ty_73_50 (v := (w142_11 73) 50) hT142_11 rfl
                    refine TT_if_ne hK (tgt := 259) (irm (by omega) (by omega)) dX12_getHead_202 (by decide) (fun hb202_14 => ?_) (fun hb202_14 => ?_)
                    · refine TT_vret hK hQ ?_ dX12_getHead_259
                      have e15_73_42 : w142_11 73 42 = (w142_11 73) 42 := rfl
                      have e16_73_43 : w142_11 73 43 = (w142_11 73) 43 := rfl
                      exact ⟨⟨hT142_11, hF142_11⟩, rfl, (by rewrite [e15_73_42, e16_73_43]; omega)⟩
                    · refine TT_aload_n hK rfl 0 rfl dX12_getHead_205 ?_
                      refine gf_X12_108 hK (by decide) rfl (q := 104) rfl rfl dX12_getHead_206 ?_
                      refine TT_iload_n hK rfl 1 rfl dX12_getHead_209 ?_
                      refine TT_bipush hK (by decide) dX12_getHead_210 ?_
                      refine TT_isub hK dX12_getHead_212 ?_
                      refine TT_aload_n hK rfl 0 rfl dX12_getHead_213 ?_
                      refine TT_aload_n hK rfl 0 rfl dX12_getHead_214 ?_
                      refine gf_X12_60 hK (by decide) rfl (q := 88) rfl rfl dX12_getHead_215 ?_
                      refine TT_iload_n hK rfl 1 rfl dX12_getHead_218 ?_
                      refine TT_iald hK (o := 88) (n := 20) (by decide) rfl (by first | omega | (simp [up, setR] <;> omega)) (by first | omega | (simp [up, setR] <;> omega)) (v := (w142_11 88) b) rfl dX12_getHead_219 ?_
                      have r17 := ty_88 (i := b) (v := (w142_11 88) b) hT142_11 rfl (by omega) (by omega)
                      refine TT_iload_n hK rfl 2 rfl dX12_getHead_220 ?_
                      refine iv_X12_323 hK (s_X12_log n w142_11 hT142_11 (by first | omega | (simp [up, setR] <;> omega))) ⟨by decide, by decide⟩ (by decide) rfl rfl (Nat.le_of_ble_eq_true rfl) ⟨by decide, by decide⟩ dX12_getHead_221 ?_
                      intro r9 g221_18 hp9
                      obtain ⟨⟨hT_18, hG_18⟩, z221_18, hr9, hz_18⟩ := hp9
                      rw [hr9]
                      have hF_18 : FRM [73, 83, 86, 88, 104] [42, 43, 45, 50] h g221_18 := FRM_tr hF142_11 hG_18 (by decide) (by decide)
                      show TT K ly 0 0 224 [(0, vR 73), (1, vI b), (2, vI n), (3, vI gr)] [vI z221_18, vI ((w142_11 88) b), vR 73, vI (b - 10), vR 104] g221_18
                      refine TT_iadd hK dX12_getHead_224 ?_
                      refine TT_w32 (fun x225_19 hx19 => ?_)
                      refine iv_X12_372 hK (s_X12_getBits_73 x225_19 g221_18 hT_18 (by first | omega | (simp [up, setR] <;> omega))) (by decide) rfl ⟨by decide, by decide⟩ (by decide) rfl rfl (Nat.le_of_ble_eq_true rfl) ⟨by decide, by decide⟩ dX12_getHead_225 ?_
                      intro r9 g225_20 hp9
                      obtain ⟨⟨hT_20, hG_20⟩, z225_20, hr9, hz_20, p2_20, p3_20, p6_20⟩ := hp9
                      rw [hr9]
                      have hF_20 : FRM [73, 83, 86, 88, 104] [42, 43, 45, 50] h g225_20 := FRM_tr hF_18 hG_20 (by decide) (by decide)
                      rw [show g221_18 73 42 = (w142_11 73) 42 from congrFun (hG_18.1 73 (by decide)) 42] at p3_20
                      rw [show g221_18 73 43 = (w142_11 73) 43 from congrFun (hG_18.1 73 (by decide)) 43] at p3_20
                      rw [show g221_18 73 44 = (h 73) 44 from (congrFun (hG_18.1 73 (by decide)) 44).trans (hF142_11.2 44 (by decide))] at p3_20
                      rw [show g221_18 73 42 = (w142_11 73) 42 from congrFun (hG_18.1 73 (by decide)) 42] at p6_20
                      rw [show g221_18 73 43 = (w142_11 73) 43 from congrFun (hG_18.1 73 (by decide)) 43] at p6_20
                      show TT K ly 0 0 228 [(0, vR 73), (1, vI b), (2, vI n), (3, vI gr)] [vI z225_20, vI (b - 10), vR 104] g225_20
                      refine TT_iast hK (o := 104) (n := 10) (by decide) rfl (by omega) (by omega) dX12_getHead_228 ?_
                      refine TT_hp (h' := setO g225_20 104 (fup (w142_11 104) (b - 10) z225_20)) (up_can (((hG_20.1 104 (by decide))).trans (hG_18.1 104 (by decide))) rfl rfl) ?_
                      have hT_21 : TY (setO g225_20 104 (fup (w142_11 104) (b - 10) z225_20)) := tu_104 hT_20 (show up g225_20 104 (b - 10) z225_20 = (setO g225_20 104 (fup (w142_11 104) (b - 10) z225_20)) from up_can (((hG_20.1 104 (by decide))).trans (hG_18.1 104 (by decide))) rfl rfl) (by omega)
                      have hF_21 : FRM [73, 83, 86, 88, 104] [42, 43, 45, 50] h (setO g225_20 104 (fup (w142_11 104) (b - 10) z225_20)) := FRM_up (show up g225_20 104 (b - 10) z225_20 = (setO g225_20 104 (fup (w142_11 104) (b - 10) z225_20)) from up_can (((hG_20.1 104 (by decide))).trans (hG_18.1 104 (by decide))) rfl rfl) hF_20 (by decide) (by decide)
                      refine TT_aload_n hK rfl 0 rfl dX12_getHead_229 ?_
                      refine gf_X12_54 hK (by decide) rfl (q := 86) rfl rfl dX12_getHead_230 ?_
                      refine TT_iload_n hK rfl 1 rfl dX12_getHead_233 ?_
                      refine TT_aload_n hK rfl 0 rfl dX12_getHead_234 ?_
                      refine gf_X12_365 hK (by decide) rfl (v := (g225_20 73) 45) (rd_ (sOf_ne _ _ (by decide)) rfl) dX12_getHead_235 ?_
                      have r22 := ty_73_45 (v := (g225_20 73) 45) hT_21 (rd_ (sOf_ne _ _ (by decide)) rfl)
                      refine TT_if_eq hK (tgt := 250) (irm (by omega) (by omega)) dX12_getHead_238 (by decide) (fun hb238_23 => ?_) (fun hb238_23 => ?_)
                      · refine TT_aload_n hK rfl 0 rfl dX12_getHead_250 ?_
                        refine gf_X12_54 hK (by decide) rfl (q := 86) rfl rfl dX12_getHead_251 ?_
                        refine TT_iload_n hK rfl 1 rfl dX12_getHead_254 ?_
                        refine TT_iald hK (o := 86) (n := 20) (by decide) rfl (by first | omega | (simp [up, setR] <;> omega)) (by first | omega | (simp [up, setR] <;> omega)) (v := (w142_11 86) b) (rd_ ((sOf_ne _ _ (by decide)).trans (((hG_20.1 86 (by decide))).trans (hG_18.1 86 (by decide)))) rfl) dX12_getHead_255 ?_
                        have r24 := ty_86 (i := b) (v := (w142_11 86) b) hT_21 (rd_ ((sOf_ne _ _ (by decide)).trans (((hG_20.1 86 (by decide))).trans (hG_18.1 86 (by decide)))) rfl) (by omega) (by omega)
                        refine TT_iload_n hK rfl 2 rfl dX12_getHead_256 ?_
                        refine TT_iadd hK dX12_getHead_257 ?_
                        refine TT_w32 (fun x258_25 hx25 => ?_)
                        refine TT_iast hK (o := 86) (n := 20) (by decide) rfl (by omega) (by omega) dX12_getHead_258 ?_
                        refine TT_hp (h' := setO (setO g225_20 86 (fup (w142_11 86) b x258_25)) 104 (fup (w142_11 104) (b - 10) z225_20)) (up_can ((sOf_ne _ _ (by decide)).trans (((hG_20.1 86 (by decide))).trans (hG_18.1 86 (by decide)))) rfl ((setO_comm _ _ _ (by decide)).trans (setO_cg rfl rfl))) ?_
                        have hT_26 : TY (setO (setO g225_20 86 (fup (w142_11 86) b x258_25)) 104 (fup (w142_11 104) (b - 10) z225_20)) := tu_86 hT_21 (show up (setO g225_20 104 (fup (w142_11 104) (b - 10) z225_20)) 86 b x258_25 = (setO (setO g225_20 86 (fup (w142_11 86) b x258_25)) 104 (fup (w142_11 104) (b - 10) z225_20)) from up_can ((sOf_ne _ _ (by decide)).trans (((hG_20.1 86 (by decide))).trans (hG_18.1 86 (by decide)))) rfl ((setO_comm _ _ _ (by decide)).trans (setO_cg rfl rfl))) (by omega)
                        have hF_26 : FRM [73, 83, 86, 88, 104] [42, 43, 45, 50] h (setO (setO g225_20 86 (fup (w142_11 86) b x258_25)) 104 (fup (w142_11 104) (b - 10) z225_20)) := FRM_up (show up (setO g225_20 104 (fup (w142_11 104) (b - 10) z225_20)) 86 b x258_25 = (setO (setO g225_20 86 (fup (w142_11 86) b x258_25)) 104 (fup (w142_11 104) (b - 10) z225_20)) from up_can ((sOf_ne _ _ (by decide)).trans (((hG_20.1 86 (by decide))).trans (hG_18.1 86 (by decide)))) rfl ((setO_comm _ _ _ (by decide)).trans (setO_cg rfl rfl))) hF_21 (by decide) (by decide)
                        refine TT_vret hK hQ ?_ dX12_getHead_259
                        have e27_73_42 : (setO (setO g225_20 86 (fup (w142_11 86) b x258_25)) 104 (fup (w142_11 104) (b - 10) z225_20)) 73 42 = (g225_20 73) 42 := rd_ ((sOf_ne _ _ (by decide)).trans (sOf_ne _ _ (by decide))) rfl
                        have e28_73_43 : (setO (setO g225_20 86 (fup (w142_11 86) b x258_25)) 104 (fup (w142_11 104) (b - 10) z225_20)) 73 43 = (g225_20 73) 43 := rd_ ((sOf_ne _ _ (by decide)).trans (sOf_ne _ _ (by decide))) rfl
                        exact ⟨⟨hT_26, hF_26⟩, rfl, (by rewrite [e27_73_42, e28_73_43]; omega)⟩
                      · refine TT_aload_n hK rfl 0 rfl dX12_getHead_241 ?_
                        refine gf_X12_54 hK (by decide) rfl (q := 86) rfl rfl dX12_getHead_242 ?_
                        refine TT_iload_n hK rfl 1 rfl dX12_getHead_245 ?_
                        refine TT_iald hK (o := 86) (n := 20) (by decide) rfl (by first | omega | (simp [up, setR] <;> omega)) (by first | omega | (simp [up, setR] <;> omega)) (v := (w142_11 86) b) (rd_ ((sOf_ne _ _ (by decide)).trans (((hG_20.1 86 (by decide))).trans (hG_18.1 86 (by decide)))) rfl) dX12_getHead_246 ?_
                        have r29 := ty_86 (i := b) (v := (w142_11 86) b) hT_21 (rd_ ((sOf_ne _ _ (by decide)).trans (((hG_20.1 86 (by decide))).trans (hG_18.1 86 (by decide)))) rfl) (by omega) (by omega)
                        refine TT_goto hK (tgt := 258) dX12_getHead_247 (by decide) ?_
                        refine TT_w32 (fun x258_30 hx30 => ?_)
                        refine TT_iast hK (o := 86) (n := 20) (by decide) rfl (by omega) (by omega) dX12_getHead_258 ?_
                        refine TT_hp (h' := setO (setO g225_20 86 (fup (w142_11 86) b x258_30)) 104 (fup (w142_11 104) (b - 10) z225_20)) (up_can ((sOf_ne _ _ (by decide)).trans (((hG_20.1 86 (by decide))).trans (hG_18.1 86 (by decide)))) rfl ((setO_comm _ _ _ (by decide)).trans (setO_cg rfl rfl))) ?_
                        have hT_31 : TY (setO (setO g225_20 86 (fup (w142_11 86) b x258_30)) 104 (fup (w142_11 104) (b - 10) z225_20)) := tu_86 hT_21 (show up (setO g225_20 104 (fup (w142_11 104) (b - 10) z225_20)) 86 b x258_30 = (setO (setO g225_20 86 (fup (w142_11 86) b x258_30)) 104 (fup (w142_11 104) (b - 10) z225_20)) from up_can ((sOf_ne _ _ (by decide)).trans (((hG_20.1 86 (by decide))).trans (hG_18.1 86 (by decide)))) rfl ((setO_comm _ _ _ (by decide)).trans (setO_cg rfl rfl))) (by omega)
                        have hF_31 : FRM [73, 83, 86, 88, 104] [42, 43, 45, 50] h (setO (setO g225_20 86 (fup (w142_11 86) b x258_30)) 104 (fup (w142_11 104) (b - 10) z225_20)) := FRM_up (show up (setO g225_20 104 (fup (w142_11 104) (b - 10) z225_20)) 86 b x258_30 = (setO (setO g225_20 86 (fup (w142_11 86) b x258_30)) 104 (fup (w142_11 104) (b - 10) z225_20)) from up_can ((sOf_ne _ _ (by decide)).trans (((hG_20.1 86 (by decide))).trans (hG_18.1 86 (by decide)))) rfl ((setO_comm _ _ _ (by decide)).trans (setO_cg rfl rfl))) hF_21 (by decide) (by decide)
                        refine TT_vret hK hQ ?_ dX12_getHead_259
                        have e32_73_42 : (setO (setO g225_20 86 (fup (w142_11 86) b x258_30)) 104 (fup (w142_11 104) (b - 10) z225_20)) 73 42 = (g225_20 73) 42 := rd_ ((sOf_ne _ _ (by decide)).trans (sOf_ne _ _ (by decide))) rfl
                        have e33_73_43 : (setO (setO g225_20 86 (fup (w142_11 86) b x258_30)) 104 (fup (w142_11 104) (b - 10) z225_20)) 73 43 = (g225_20 73) 43 := rd_ ((sOf_ne _ _ (by decide)).trans (sOf_ne _ _ (by decide))) rfl
                        exact ⟨⟨hT_31, hF_31⟩, rfl, (by rewrite [e32_73_42, e33_73_43]; omega)⟩
                  · refine TT_aload_n hK rfl 0 rfl dX12_getHead_146 ?_
                    refine TT_iconst hK dX12_getHead_147 ?_
                    refine iv_X12_372 hK (s_X12_getBits_73 1 w142_11 hT142_11 (by first | omega | (simp [up, setR] <;> omega))) (by decide) rfl ⟨by decide, by decide⟩ (by decide) rfl rfl (Nat.le_of_ble_eq_true rfl) ⟨by decide, by decide⟩ dX12_getHead_148 ?_
                    intro r9 g148_34 hp9
                    obtain ⟨⟨hT_34, hG_34⟩, z148_34, hr9, hz_34, p2_34, p3_34, p6_34⟩ := hp9
                    rw [hr9]
                    have hF_34 : FRM [73, 83, 86, 88, 104] [42, 43, 45, 50] h g148_34 := FRM_tr hF142_11 hG_34 (by decide) (by decide)
                    rw [show w142_11 73 42 = (w142_11 73) 42 from rfl] at p3_34
                    rw [show w142_11 73 43 = (w142_11 73) 43 from rfl] at p3_34
                    rw [show w142_11 73 44 = (h 73) 44 from (hF142_11.2 44 (by decide))] at p3_34
                    rw [show w142_11 73 42 = (w142_11 73) 42 from rfl] at p6_34
                    rw [show w142_11 73 43 = (w142_11 73) 43 from rfl] at p6_34
                    show TT K ly 0 0 151 [(0, vR 73), (1, vI b), (2, vI n), (3, vI gr)] [vI z148_34] g148_34
                    refine TT_iconst hK dX12_getHead_151 ?_
                    refine TT_icmp_ne hK (tgt := 166) (irm (by omega) (by omega)) (by decide) dX12_getHead_152 (by decide) (fun hb152_35 => ?_) (fun hb152_35 => ?_)
                    · refine TT_iconst hK dX12_getHead_166 ?_
                      refine TT_istore_n hK rfl (lv' := [(3, vI 0), (0, vR 73), (1, vI b), (2, vI n)]) (by decide) rfl dX12_getHead_167 ?_
                      refine TT_aload_n hK rfl 1 rfl dX12_getHead_168 ?_
                      refine gf_X12_60 hK (by decide) rfl (q := 88) rfl rfl dX12_getHead_169 ?_
                      refine TT_iload_n hK rfl 2 rfl dX12_getHead_172 ?_
                      refine TT_iload_n hK rfl 0 rfl dX12_getHead_173 ?_
                      refine TT_if_eq hK (tgt := 188) (by decide) dX12_getHead_174 (by decide) (fun hb174_36 => ?_) (fun hb174_36 => ?_)
                      · refine TT_aload_n hK rfl 1 rfl dX12_getHead_188 ?_
                        refine gf_X12_60 hK (by decide) rfl (q := 88) rfl rfl dX12_getHead_189 ?_
                        refine TT_iload_n hK rfl 2 rfl dX12_getHead_192 ?_
                        refine TT_iald hK (o := 88) (n := 20) (by decide) rfl (by first | omega | (simp [up, setR] <;> omega)) (by first | omega | (simp [up, setR] <;> omega)) (v := (w142_11 88) b) (rd_ (hG_34.1 88 (by decide)) rfl) dX12_getHead_193 ?_
                        have r37 := ty_88 (i := b) (v := (w142_11 88) b) hT_34 (rd_ (hG_34.1 88 (by decide)) rfl) (by omega) (by omega)
                        refine TT_iast hK (o := 88) (n := 20) (by decide) rfl (by omega) (by omega) dX12_getHead_194 ?_
                        refine TT_hp (h' := setO g148_34 88 (fup (w142_11 88) b ((w142_11 88) b))) (up_can (hG_34.1 88 (by decide)) rfl rfl) ?_
                        have hT_38 : TY (setO g148_34 88 (fup (w142_11 88) b ((w142_11 88) b))) := tu_88 hT_34 (show up g148_34 88 b ((w142_11 88) b) = (setO g148_34 88 (fup (w142_11 88) b ((w142_11 88) b))) from up_can (hG_34.1 88 (by decide)) rfl rfl) (by omega)
                        have hF_38 : FRM [73, 83, 86, 88, 104] [42, 43, 45, 50] h (setO g148_34 88 (fup (w142_11 88) b ((w142_11 88) b))) := FRM_up (show up g148_34 88 b ((w142_11 88) b) = (setO g148_34 88 (fup (w142_11 88) b ((w142_11 88) b))) from up_can (hG_34.1 88 (by decide)) rfl rfl) hF_34 (by decide) (by decide)
                        refine TT_goto hK (tgt := 142) dX12_getHead_195 (by decide) ?_
                        refine TT_sub [1, 2, 3, 0] rfl ?_
                        have e39_73_42 : (setO g148_34 88 (fup (w142_11 88) b ((w142_11 88) b))) 73 42 = (g148_34 73) 42 := rd_ (sOf_ne _ _ (by decide)) rfl
                        have e40_73_43 : (setO g148_34 88 (fup (w142_11 88) b ((w142_11 88) b))) 73 43 = (g148_34 73) 43 := rd_ (sOf_ne _ _ (by decide)) rfl
                        have e41_73_42 : (setO g148_34 88 (fup (w142_11 88) b ((w142_11 88) b))) 73 42 = (g148_34 73) 42 := rd_ (sOf_ne _ _ (by decide)) rfl
                        have e42_73_43 : (setO g148_34 88 (fup (w142_11 88) b ((w142_11 88) b))) 73 43 = (g148_34 73) 43 := rd_ (sOf_ne _ _ (by decide)) rfl
                        exact ih11 0 (setO g148_34 88 (fup (w142_11 88) b ((w142_11 88) b))) hT_38 hF_38 (by first | omega | (simp [up, setR] <;> omega)) (by rewrite [e39_73_42, e40_73_43]; first | omega | (simp [up, setR] <;> omega)) (by rewrite [e41_73_42, e42_73_43]; first | omega | (simp [up, setR] <;> omega))
                      · exact absurd hb174_36 (by decide)
                    · refine TT_aload_n hK rfl 0 rfl dX12_getHead_155 ?_
                      refine gf_X12_365 hK (by decide) rfl (v := (g148_34 73) 45) rfl dX12_getHead_156 ?_
                      have r43 := ty_73_45 (v := (g148_34 73) 45) hT_34 rfl
                      refine TT_if_ne hK (tgt := 166) (irm (by omega) (by omega)) dX12_getHead_159 (by decide) (fun hb159_44 => ?_) (fun hb159_44 => ?_)
                      · refine TT_iconst hK dX12_getHead_166 ?_
                        refine TT_istore_n hK rfl (lv' := [(3, vI 0), (0, vR 73), (1, vI b), (2, vI n)]) (by decide) rfl dX12_getHead_167 ?_
                        refine TT_aload_n hK rfl 1 rfl dX12_getHead_168 ?_
                        refine gf_X12_60 hK (by decide) rfl (q := 88) rfl rfl dX12_getHead_169 ?_
                        refine TT_iload_n hK rfl 2 rfl dX12_getHead_172 ?_
                        refine TT_iload_n hK rfl 0 rfl dX12_getHead_173 ?_
                        refine TT_if_eq hK (tgt := 188) (by decide) dX12_getHead_174 (by decide) (fun hb174_45 => ?_) (fun hb174_45 => ?_)
                        · refine TT_aload_n hK rfl 1 rfl dX12_getHead_188 ?_
                          refine gf_X12_60 hK (by decide) rfl (q := 88) rfl rfl dX12_getHead_189 ?_
                          refine TT_iload_n hK rfl 2 rfl dX12_getHead_192 ?_
                          refine TT_iald hK (o := 88) (n := 20) (by decide) rfl (by first | omega | (simp [up, setR] <;> omega)) (by first | omega | (simp [up, setR] <;> omega)) (v := (w142_11 88) b) (rd_ (hG_34.1 88 (by decide)) rfl) dX12_getHead_193 ?_
                          have r46 := ty_88 (i := b) (v := (w142_11 88) b) hT_34 (rd_ (hG_34.1 88 (by decide)) rfl) (by omega) (by omega)
                          refine TT_iast hK (o := 88) (n := 20) (by decide) rfl (by omega) (by omega) dX12_getHead_194 ?_
                          refine TT_hp (h' := setO g148_34 88 (fup (w142_11 88) b ((w142_11 88) b))) (up_can (hG_34.1 88 (by decide)) rfl rfl) ?_
                          have hT_47 : TY (setO g148_34 88 (fup (w142_11 88) b ((w142_11 88) b))) := tu_88 hT_34 (show up g148_34 88 b ((w142_11 88) b) = (setO g148_34 88 (fup (w142_11 88) b ((w142_11 88) b))) from up_can (hG_34.1 88 (by decide)) rfl rfl) (by omega)
                          have hF_47 : FRM [73, 83, 86, 88, 104] [42, 43, 45, 50] h (setO g148_34 88 (fup (w142_11 88) b ((w142_11 88) b))) := FRM_up (show up g148_34 88 b ((w142_11 88) b) = (setO g148_34 88 (fup (w142_11 88) b ((w142_11 88) b))) from up_can (hG_34.1 88 (by decide)) rfl rfl) hF_34 (by decide) (by decide)
                          refine TT_goto hK (tgt := 142) dX12_getHead_195 (by decide) ?_
                          refine TT_sub [1, 2, 3, 0] rfl ?_
                          have e48_73_42 : (setO g148_34 88 (fup (w142_11 88) b ((w142_11 88) b))) 73 42 = (g148_34 73) 42 := rd_ (sOf_ne _ _ (by decide)) rfl
                          have e49_73_43 : (setO g148_34 88 (fup (w142_11 88) b ((w142_11 88) b))) 73 43 = (g148_34 73) 43 := rd_ (sOf_ne _ _ (by decide)) rfl
                          have e50_73_42 : (setO g148_34 88 (fup (w142_11 88) b ((w142_11 88) b))) 73 42 = (g148_34 73) 42 := rd_ (sOf_ne _ _ (by decide)) rfl
                          have e51_73_43 : (setO g148_34 88 (fup (w142_11 88) b ((w142_11 88) b))) 73 43 = (g148_34 73) 43 := rd_ (sOf_ne _ _ (by decide)) rfl
                          exact ih11 0 (setO g148_34 88 (fup (w142_11 88) b ((w142_11 88) b))) hT_47 hF_47 (by first | omega | (simp [up, setR] <;> omega)) (by rewrite [e48_73_42, e49_73_43]; first | omega | (simp [up, setR] <;> omega)) (by rewrite [e50_73_42, e51_73_43]; first | omega | (simp [up, setR] <;> omega))
                        · exact absurd hb174_45 (by decide)
                      · refine TT_iconst hK dX12_getHead_162 ?_
                        refine TT_goto hK (tgt := 167) dX12_getHead_163 (by decide) ?_
                        refine TT_istore_n hK rfl (lv' := [(3, vI 1), (0, vR 73), (1, vI b), (2, vI n)]) (by decide) rfl dX12_getHead_167 ?_
                        refine TT_aload_n hK rfl 1 rfl dX12_getHead_168 ?_
                        refine gf_X12_60 hK (by decide) rfl (q := 88) rfl rfl dX12_getHead_169 ?_
                        refine TT_iload_n hK rfl 2 rfl dX12_getHead_172 ?_
                        refine TT_iload_n hK rfl 0 rfl dX12_getHead_173 ?_
                        refine TT_if_eq hK (tgt := 188) (by decide) dX12_getHead_174 (by decide) (fun hb174_52 => ?_) (fun hb174_52 => ?_)
                        · exact absurd hb174_52 (by decide)
                        · refine TT_aload_n hK rfl 1 rfl dX12_getHead_177 ?_
                          refine gf_X12_60 hK (by decide) rfl (q := 88) rfl rfl dX12_getHead_178 ?_
                          refine TT_iload_n hK rfl 2 rfl dX12_getHead_181 ?_
                          refine TT_iald hK (o := 88) (n := 20) (by decide) rfl (by first | omega | (simp [up, setR] <;> omega)) (by first | omega | (simp [up, setR] <;> omega)) (v := (w142_11 88) b) (rd_ (hG_34.1 88 (by decide)) rfl) dX12_getHead_182 ?_
                          have r53 := ty_88 (i := b) (v := (w142_11 88) b) hT_34 (rd_ (hG_34.1 88 (by decide)) rfl) (by omega) (by omega)
                          refine TT_iconst hK dX12_getHead_183 ?_
                          refine TT_iadd hK dX12_getHead_184 ?_
                          refine TT_w32 (fun x185_54 hx54 => ?_)
                          refine TT_goto hK (tgt := 194) dX12_getHead_185 (by decide) ?_
                          refine TT_iast hK (o := 88) (n := 20) (by decide) rfl (by omega) (by omega) dX12_getHead_194 ?_
                          refine TT_hp (h' := setO g148_34 88 (fup (w142_11 88) b x185_54)) (up_can (hG_34.1 88 (by decide)) rfl rfl) ?_
                          have hT_55 : TY (setO g148_34 88 (fup (w142_11 88) b x185_54)) := tu_88 hT_34 (show up g148_34 88 b x185_54 = (setO g148_34 88 (fup (w142_11 88) b x185_54)) from up_can (hG_34.1 88 (by decide)) rfl rfl) (by omega)
                          have hF_55 : FRM [73, 83, 86, 88, 104] [42, 43, 45, 50] h (setO g148_34 88 (fup (w142_11 88) b x185_54)) := FRM_up (show up g148_34 88 b x185_54 = (setO g148_34 88 (fup (w142_11 88) b x185_54)) from up_can (hG_34.1 88 (by decide)) rfl rfl) hF_34 (by decide) (by decide)
                          refine TT_goto hK (tgt := 142) dX12_getHead_195 (by decide) ?_
                          refine TT_sub [1, 2, 3, 0] rfl ?_
                          have e56_73_42 : (setO g148_34 88 (fup (w142_11 88) b x185_54)) 73 42 = (g148_34 73) 42 := rd_ (sOf_ne _ _ (by decide)) rfl
                          have e57_73_43 : (setO g148_34 88 (fup (w142_11 88) b x185_54)) 73 43 = (g148_34 73) 43 := rd_ (sOf_ne _ _ (by decide)) rfl
                          have e58_73_42 : (setO g148_34 88 (fup (w142_11 88) b x185_54)) 73 42 = (g148_34 73) 42 := rd_ (sOf_ne _ _ (by decide)) rfl
                          have e59_73_43 : (setO g148_34 88 (fup (w142_11 88) b x185_54)) 73 43 = (g148_34 73) 43 := rd_ (sOf_ne _ _ (by decide)) rfl
                          exact ih11 1 (setO g148_34 88 (fup (w142_11 88) b x185_54)) hT_55 hF_55 (by first | omega | (simp [up, setR] <;> omega)) (by rewrite [e56_73_42, e57_73_43]; first | omega | (simp [up, setR] <;> omega)) (by rewrite [e58_73_42, e59_73_43]; first | omega | (simp [up, setR] <;> omega))
              refine TT_sub [1, 2, 3, 0] rfl ?_
              have e60_73_42 : w129_9 73 42 = (w129_9 73) 42 := rfl
              have e61_73_43 : w129_9 73 43 = (w129_9 73) 43 := rfl
              exact L142_11 (((8 * (h 73 44) + 1 - (8 * (w129_9 73 42) + (w129_9 73 43))).toNat + g0.toNat) + 1) g0 w129_9 hT129_9 hF129_9 (by first | omega | (simp [up, setR] <;> omega)) (by rewrite [e60_73_42, e61_73_43]; first | omega | (simp [up, setR] <;> omega)) (Nat.lt_succ_self _)
            refine TT_aload_n hK rfl 0 rfl dX12_getHead_129 ?_
            refine gf_X12_375 hK (by decide) rfl (v := (w129_9 73) 50) rfl dX12_getHead_130 ?_
            have r62 := ty_73_50 (v := (w129_9 73) 50) hT129_9 rfl
            refine TT_if_ne hK (tgt := 140) (irm (by omega) (by omega)) dX12_getHead_133 (by decide) (fun hb133_63 => ?_) (fun hb133_63 => ?_)
            · refine TT_iconst hK dX12_getHead_140 ?_
              exact J141_10 0 (by first | omega | (simp [up, setR] <;> omega))
            · refine TT_iconst hK dX12_getHead_136 ?_
              refine TT_goto hK (tgt := 141) dX12_getHead_137 (by decide) ?_
              exact J141_10 1 (by first | omega | (simp [up, setR] <;> omega))
          refine TT_aload_n hK rfl 0 rfl dX12_getHead_90 ?_
          refine TT_aload_n hK rfl 0 rfl dX12_getHead_91 ?_
          refine gf_X12_375 hK (by decide) rfl (v := (w90_8 73) 50) rfl dX12_getHead_92 ?_
          have r64 := ty_73_50 (v := (w90_8 73) 50) hT90_8 rfl
          refine TT_if_ne hK (tgt := 121) (irm (by omega) (by omega)) dX12_getHead_95 (by decide) (fun hb95_65 => ?_) (fun hb95_65 => ?_)
          · refine TT_iconst hK dX12_getHead_121 ?_
            refine TT_goto hK (tgt := 126) dX12_getHead_122 (by decide) ?_
            refine pf_X12_375 hK (by decide) rfl (by first | decide | omega) dX12_getHead_126 ?_
            refine TT_hp (h' := setO w90_8 73 (fup (w90_8 73) 50 1)) (up_can rfl rfl rfl) ?_
            have hT_66 : TY (setO w90_8 73 (fup (w90_8 73) 50 1)) := tu_73_50 hT90_8 (show up w90_8 73 50 1 = (setO w90_8 73 (fup (w90_8 73) 50 1)) from up_can rfl rfl rfl) (by omega)
            have hF_66 : FRM [73, 83, 86, 88, 104] [42, 43, 45, 50] h (setO w90_8 73 (fup (w90_8 73) 50 1)) := FRM_f (show up w90_8 73 50 1 = (setO w90_8 73 (fup (w90_8 73) 50 1)) from up_can rfl rfl rfl) hF90_8 (by decide) (by decide)
            have e67_73_42 : (setO w90_8 73 (fup (w90_8 73) 50 1)) 73 42 = (w90_8 73) 42 := rd_ (sOf_eq _ _ _) (fup_ne _ _ (by decide))
            have e68_73_43 : (setO w90_8 73 (fup (w90_8 73) 50 1)) 73 43 = (w90_8 73) 43 := rd_ (sOf_eq _ _ _) (fup_ne _ _ (by decide))
            exact J129_9 (setO w90_8 73 (fup (w90_8 73) 50 1)) hT_66 hF_66 (by rewrite [e67_73_42, e68_73_43]; first | omega | (simp [up, setR] <;> omega))
          · refine TT_aload_n hK rfl 0 rfl dX12_getHead_98 ?_
            refine gf_X12_365 hK (by decide) rfl (v := (w90_8 73) 45) rfl dX12_getHead_99 ?_
            have r69 := ty_73_45 (v := (w90_8 73) 45) hT90_8 rfl
            refine TT_if_ne hK (tgt := 125) (irm (by omega) (by omega)) dX12_getHead_102 (by decide) (fun hb102_70 => ?_) (fun hb102_70 => ?_)
            · refine TT_iconst hK dX12_getHead_125 ?_
              refine pf_X12_375 hK (by decide) rfl (by first | decide | omega) dX12_getHead_126 ?_
              refine TT_hp (h' := setO w90_8 73 (fup (w90_8 73) 50 0)) (up_can rfl rfl rfl) ?_
              have hT_71 : TY (setO w90_8 73 (fup (w90_8 73) 50 0)) := tu_73_50 hT90_8 (show up w90_8 73 50 0 = (setO w90_8 73 (fup (w90_8 73) 50 0)) from up_can rfl rfl rfl) (by omega)
              have hF_71 : FRM [73, 83, 86, 88, 104] [42, 43, 45, 50] h (setO w90_8 73 (fup (w90_8 73) 50 0)) := FRM_f (show up w90_8 73 50 0 = (setO w90_8 73 (fup (w90_8 73) 50 0)) from up_can rfl rfl rfl) hF90_8 (by decide) (by decide)
              have e72_73_42 : (setO w90_8 73 (fup (w90_8 73) 50 0)) 73 42 = (w90_8 73) 42 := rd_ (sOf_eq _ _ _) (fup_ne _ _ (by decide))
              have e73_73_43 : (setO w90_8 73 (fup (w90_8 73) 50 0)) 73 43 = (w90_8 73) 43 := rd_ (sOf_eq _ _ _) (fup_ne _ _ (by decide))
              exact J129_9 (setO w90_8 73 (fup (w90_8 73) 50 0)) hT_71 hF_71 (by rewrite [e72_73_42, e73_73_43]; first | omega | (simp [up, setR] <;> omega))
            · refine TT_aload_n hK rfl 0 rfl dX12_getHead_105 ?_
              refine gf_X12_54 hK (by decide) rfl (q := 86) rfl rfl dX12_getHead_106 ?_
              refine TT_iload_n hK rfl 1 rfl dX12_getHead_109 ?_
              refine TT_iald hK (o := 86) (n := 20) (by decide) rfl (by first | omega | (simp [up, setR] <;> omega)) (by first | omega | (simp [up, setR] <;> omega)) (v := (w90_8 86) b) rfl dX12_getHead_110 ?_
              have r74 := ty_86 (i := b) (v := (w90_8 86) b) hT90_8 rfl (by omega) (by omega)
              refine TT_iload_n hK rfl 2 rfl dX12_getHead_111 ?_
              refine TT_iadd hK dX12_getHead_112 ?_
              refine TT_w32 (fun x113_75 hx75 => ?_)
              refine TT_aload_n hK rfl 0 rfl dX12_getHead_113 ?_
              refine TT_iload_n hK rfl 1 rfl dX12_getHead_114 ?_
              refine iv_X12_296 hK (s_X12_passesOf_73 b w90_8 hT90_8 (by first | omega | (simp [up, setR] <;> omega))) (by decide) rfl ⟨by decide, by decide⟩ (by decide) rfl rfl (Nat.le_of_ble_eq_true rfl) ⟨by decide, by decide⟩ dX12_getHead_115 ?_
              intro r9 g115_76 hp9
              obtain ⟨⟨hT_76, hG_76⟩, z115_76, hr9, hz_76, p1_76⟩ := hp9
              rw [hr9]
              have hF_76 : FRM [73, 83, 86, 88, 104] [42, 43, 45, 50] h g115_76 := FRM_tr hF90_8 hG_76 (by decide) (by decide)
              show TT K ly 0 0 118 [(0, vR 73), (1, vI b), (2, vI n)] [vI z115_76, vI x113_75, vR 73] g115_76
              refine TT_icmp_le hK (tgt := 125) (irm (by omega) (by omega)) (irm (by omega) (by omega)) dX12_getHead_118 (by decide) (fun hb118_77 => ?_) (fun hb118_77 => ?_)
              · refine TT_iconst hK dX12_getHead_125 ?_
                refine pf_X12_375 hK (by decide) rfl (by first | decide | omega) dX12_getHead_126 ?_
                refine TT_hp (h' := setO g115_76 73 (fup (w90_8 73) 50 0)) (up_can (hG_76.1 73 (by decide)) rfl rfl) ?_
                have hT_78 : TY (setO g115_76 73 (fup (w90_8 73) 50 0)) := tu_73_50 hT_76 (show up g115_76 73 50 0 = (setO g115_76 73 (fup (w90_8 73) 50 0)) from up_can (hG_76.1 73 (by decide)) rfl rfl) (by omega)
                have hF_78 : FRM [73, 83, 86, 88, 104] [42, 43, 45, 50] h (setO g115_76 73 (fup (w90_8 73) 50 0)) := FRM_f (show up g115_76 73 50 0 = (setO g115_76 73 (fup (w90_8 73) 50 0)) from up_can (hG_76.1 73 (by decide)) rfl rfl) hF_76 (by decide) (by decide)
                have e79_73_42 : (setO g115_76 73 (fup (w90_8 73) 50 0)) 73 42 = (w90_8 73) 42 := rd_ (sOf_eq _ _ _) (fup_ne _ _ (by decide))
                have e80_73_43 : (setO g115_76 73 (fup (w90_8 73) 50 0)) 73 43 = (w90_8 73) 43 := rd_ (sOf_eq _ _ _) (fup_ne _ _ (by decide))
                exact J129_9 (setO g115_76 73 (fup (w90_8 73) 50 0)) hT_78 hF_78 (by rewrite [e79_73_42, e80_73_43]; first | omega | (simp [up, setR] <;> omega))
              · refine TT_iconst hK dX12_getHead_121 ?_
                refine TT_goto hK (tgt := 126) dX12_getHead_122 (by decide) ?_
                refine pf_X12_375 hK (by decide) rfl (by first | decide | omega) dX12_getHead_126 ?_
                refine TT_hp (h' := setO g115_76 73 (fup (w90_8 73) 50 1)) (up_can (hG_76.1 73 (by decide)) rfl rfl) ?_
                have hT_81 : TY (setO g115_76 73 (fup (w90_8 73) 50 1)) := tu_73_50 hT_76 (show up g115_76 73 50 1 = (setO g115_76 73 (fup (w90_8 73) 50 1)) from up_can (hG_76.1 73 (by decide)) rfl rfl) (by omega)
                have hF_81 : FRM [73, 83, 86, 88, 104] [42, 43, 45, 50] h (setO g115_76 73 (fup (w90_8 73) 50 1)) := FRM_f (show up g115_76 73 50 1 = (setO g115_76 73 (fup (w90_8 73) 50 1)) from up_can (hG_76.1 73 (by decide)) rfl rfl) hF_76 (by decide) (by decide)
                have e82_73_42 : (setO g115_76 73 (fup (w90_8 73) 50 1)) 73 42 = (w90_8 73) 42 := rd_ (sOf_eq _ _ _) (fup_ne _ _ (by decide))
                have e83_73_43 : (setO g115_76 73 (fup (w90_8 73) 50 1)) 73 43 = (w90_8 73) 43 := rd_ (sOf_eq _ _ _) (fup_ne _ _ (by decide))
                exact J129_9 (setO g115_76 73 (fup (w90_8 73) 50 1)) hT_81 hF_81 (by rewrite [e82_73_42, e83_73_43]; first | omega | (simp [up, setR] <;> omega))
        refine TT_aload_n hK rfl 0 rfl dX12_getHead_74 ?_
        refine gf_X12_375 hK (by decide) rfl (v := (w74_7 73) 50) rfl dX12_getHead_75 ?_
        have r84 := ty_73_50 (v := (w74_7 73) 50) hT74_7 rfl
        refine TT_if_eq hK (tgt := 85) (irm (by omega) (by omega)) dX12_getHead_78 (by decide) (fun hb78_85 => ?_) (fun hb78_85 => ?_)
        · refine TT_aload_n hK rfl 0 rfl dX12_getHead_85 ?_
          refine iv_X12_378 hK (s_X12_getPasses_73 w74_7 hT74_7 ) (by decide) rfl ⟨by decide, by decide⟩ (by decide) rfl rfl (Nat.le_of_ble_eq_true rfl) ⟨by decide, by decide⟩ dX12_getHead_86 ?_
          intro r9 g86_86 hp9
          obtain ⟨⟨hT_86, hG_86⟩, z86_86, hr9, hz_86, p6_86⟩ := hp9
          rw [hr9]
          have hF_86 : FRM [73, 83, 86, 88, 104] [42, 43, 45, 50] h g86_86 := FRM_tr hF74_7 hG_86 (by decide) (by decide)
          rw [show w74_7 73 42 = (w74_7 73) 42 from rfl] at p6_86
          rw [show w74_7 73 43 = (w74_7 73) 43 from rfl] at p6_86
          show TT K ly 0 0 89 [(0, vR 73), (1, vI b)] [vI z86_86] g86_86
          refine TT_istore_n hK rfl (lv' := [(2, vI z86_86), (0, vR 73), (1, vI b)]) (by decide) rfl dX12_getHead_89 ?_
          refine TT_sub [1, 2, 0] rfl ?_
          have e87_73_42 : g86_86 73 42 = (g86_86 73) 42 := rfl
          have e88_73_43 : g86_86 73 43 = (g86_86 73) 43 := rfl
          exact J90_8 z86_86 g86_86 hT_86 hF_86 (by first | omega | (simp [up, setR] <;> omega)) (by rewrite [e87_73_42, e88_73_43]; first | omega | (simp [up, setR] <;> omega))
        · refine TT_iconst hK dX12_getHead_81 ?_
          refine TT_goto hK (tgt := 89) dX12_getHead_82 (by decide) ?_
          refine TT_istore_n hK rfl (lv' := [(2, vI 1), (0, vR 73), (1, vI b)]) (by decide) rfl dX12_getHead_89 ?_
          refine TT_sub [1, 2, 0] rfl ?_
          have e89_73_42 : w74_7 73 42 = (w74_7 73) 42 := rfl
          have e90_73_43 : w74_7 73 43 = (w74_7 73) 43 := rfl
          exact J90_8 1 w74_7 hT74_7 hF74_7 (by first | omega | (simp [up, setR] <;> omega)) (by rewrite [e89_73_42, e90_73_43]; first | omega | (simp [up, setR] <;> omega))
      refine TT_aload_n hK rfl 0 rfl dX12_getHead_16 ?_
      refine gf_X12_54 hK (by decide) rfl (q := 86) rfl rfl dX12_getHead_17 ?_
      refine TT_iload_n hK rfl 1 rfl dX12_getHead_20 ?_
      refine TT_iald hK (o := 86) (n := 20) (by decide) rfl (by first | omega | (simp [up, setR] <;> omega)) (by first | omega | (simp [up, setR] <;> omega)) (v := (h 86) b) (rd_ (hG_1.1 86 (by decide)) rfl) dX12_getHead_21 ?_
      have r91 := ty_86 (i := b) (v := (h 86) b) hT_1 (rd_ (hG_1.1 86 (by decide)) rfl) (by omega) (by omega)
      refine TT_if_ne hK (tgt := 74) (irm (by omega) (by omega)) dX12_getHead_22 (by decide) (fun hb22_92 => ?_) (fun hb22_92 => ?_)
      · have e93_73_42 : g2_1 73 42 = (g2_1 73) 42 := rfl
        have e94_73_43 : g2_1 73 43 = (g2_1 73) 43 := rfl
        exact J74_7 g2_1 hT_1 hF_1 (by rewrite [e93_73_42, e94_73_43]; first | omega | (simp [up, setR] <;> omega))
      · refine TT_aload_n hK rfl 0 rfl dX12_getHead_25 ?_
        refine gf_X12_44 hK (by decide) rfl (q := 83) rfl rfl dX12_getHead_26 ?_
        refine TT_iload_n hK rfl 1 rfl dX12_getHead_29 ?_
        refine TT_aload_n hK rfl 0 rfl dX12_getHead_30 ?_
        refine TT_iconst hK dX12_getHead_31 ?_
        refine iv_X12_372 hK (s_X12_getBits_73 4 g2_1 hT_1 (by first | omega | (simp [up, setR] <;> omega))) (by decide) rfl ⟨by decide, by decide⟩ (by decide) rfl rfl (Nat.le_of_ble_eq_true rfl) ⟨by decide, by decide⟩ dX12_getHead_32 ?_
        intro r9 g32_95 hp9
        obtain ⟨⟨hT_95, hG_95⟩, z32_95, hr9, hz_95, p2_95, p3_95, p6_95⟩ := hp9
        rw [hr9]
        have hF_95 : FRM [73, 83, 86, 88, 104] [42, 43, 45, 50] h g32_95 := FRM_tr hF_1 hG_95 (by decide) (by decide)
        rw [show g2_1 73 42 = (g2_1 73) 42 from rfl] at p3_95
        rw [show g2_1 73 43 = (g2_1 73) 43 from rfl] at p3_95
        rw [show g2_1 73 44 = (h 73) 44 from (hG_1.2 44 (by decide))] at p3_95
        rw [show g2_1 73 42 = (g2_1 73) 42 from rfl] at p6_95
        rw [show g2_1 73 43 = (g2_1 73) 43 from rfl] at p6_95
        show TT K ly 0 0 35 [(0, vR 73), (1, vI b)] [vI z32_95, vI b, vR 83] g32_95
        refine TT_iast hK (o := 83) (n := 20) (by decide) rfl (by omega) (by omega) dX12_getHead_35 ?_
        refine TT_hp (h' := setO g32_95 83 (fup (h 83) b z32_95)) (up_can (((hG_95.1 83 (by decide))).trans (hG_1.1 83 (by decide))) rfl rfl) ?_
        have hT_96 : TY (setO g32_95 83 (fup (h 83) b z32_95)) := tu_83 hT_95 (show up g32_95 83 b z32_95 = (setO g32_95 83 (fup (h 83) b z32_95)) from up_can (((hG_95.1 83 (by decide))).trans (hG_1.1 83 (by decide))) rfl rfl) (by omega)
        have hF_96 : FRM [73, 83, 86, 88, 104] [42, 43, 45, 50] h (setO g32_95 83 (fup (h 83) b z32_95)) := FRM_up (show up g32_95 83 b z32_95 = (setO g32_95 83 (fup (h 83) b z32_95)) from up_can (((hG_95.1 83 (by decide))).trans (hG_1.1 83 (by decide))) rfl rfl) hF_95 (by decide) (by decide)
        refine TT_aload_n hK rfl 0 rfl dX12_getHead_36 ?_
        refine TT_aload_n hK rfl 0 rfl dX12_getHead_37 ?_
        refine gf_X12_375 hK (by decide) rfl (v := (h 73) 50) ((rd_ (sOf_ne _ _ (by decide)) rfl).trans (((hG_95.2 50 (by decide))).trans (hG_1.2 50 (by decide)))) dX12_getHead_38 ?_
        have r97 := ty_73_50 (v := (h 73) 50) hT_96 ((rd_ (sOf_ne _ _ (by decide)) rfl).trans (((hG_95.2 50 (by decide))).trans (hG_1.2 50 (by decide))))
        refine TT_if_ne hK (tgt := 66) (irm (by omega) (by omega)) dX12_getHead_41 (by decide) (fun hb41_98 => ?_) (fun hb41_98 => ?_)
        · refine TT_iconst hK dX12_getHead_66 ?_
          refine TT_goto hK (tgt := 71) dX12_getHead_67 (by decide) ?_
          refine pf_X12_375 hK (by decide) rfl (by first | decide | omega) dX12_getHead_71 ?_
          refine TT_hp (h' := setO (setO g32_95 73 (fup (g32_95 73) 50 1)) 83 (fup (h 83) b z32_95)) (up_can (sOf_ne _ _ (by decide)) rfl ((setO_comm _ _ _ (by decide)).trans (setO_cg rfl rfl))) ?_
          have hT_99 : TY (setO (setO g32_95 73 (fup (g32_95 73) 50 1)) 83 (fup (h 83) b z32_95)) := tu_73_50 hT_96 (show up (setO g32_95 83 (fup (h 83) b z32_95)) 73 50 1 = (setO (setO g32_95 73 (fup (g32_95 73) 50 1)) 83 (fup (h 83) b z32_95)) from up_can (sOf_ne _ _ (by decide)) rfl ((setO_comm _ _ _ (by decide)).trans (setO_cg rfl rfl))) (by omega)
          have hF_99 : FRM [73, 83, 86, 88, 104] [42, 43, 45, 50] h (setO (setO g32_95 73 (fup (g32_95 73) 50 1)) 83 (fup (h 83) b z32_95)) := FRM_f (show up (setO g32_95 83 (fup (h 83) b z32_95)) 73 50 1 = (setO (setO g32_95 73 (fup (g32_95 73) 50 1)) 83 (fup (h 83) b z32_95)) from up_can (sOf_ne _ _ (by decide)) rfl ((setO_comm _ _ _ (by decide)).trans (setO_cg rfl rfl))) hF_96 (by decide) (by decide)
          have e100_73_42 : (setO (setO g32_95 73 (fup (g32_95 73) 50 1)) 83 (fup (h 83) b z32_95)) 73 42 = (g32_95 73) 42 := rd_ ((sOf_ne _ _ (by decide)).trans (sOf_eq _ _ _)) (fup_ne _ _ (by decide))
          have e101_73_43 : (setO (setO g32_95 73 (fup (g32_95 73) 50 1)) 83 (fup (h 83) b z32_95)) 73 43 = (g32_95 73) 43 := rd_ ((sOf_ne _ _ (by decide)).trans (sOf_eq _ _ _)) (fup_ne _ _ (by decide))
          exact J74_7 (setO (setO g32_95 73 (fup (g32_95 73) 50 1)) 83 (fup (h 83) b z32_95)) hT_99 hF_99 (by rewrite [e100_73_42, e101_73_43]; first | omega | (simp [up, setR] <;> omega))
        · refine TT_aload_n hK rfl 0 rfl dX12_getHead_44 ?_
          refine gf_X12_365 hK (by decide) rfl (v := (g32_95 73) 45) (rd_ (sOf_ne _ _ (by decide)) rfl) dX12_getHead_45 ?_
          have r102 := ty_73_45 (v := (g32_95 73) 45) hT_96 (rd_ (sOf_ne _ _ (by decide)) rfl)
          refine TT_if_ne hK (tgt := 70) (irm (by omega) (by omega)) dX12_getHead_48 (by decide) (fun hb48_103 => ?_) (fun hb48_103 => ?_)
          · refine TT_iconst hK dX12_getHead_70 ?_
            refine pf_X12_375 hK (by decide) rfl (by first | decide | omega) dX12_getHead_71 ?_
            refine TT_hp (h' := setO (setO g32_95 73 (fup (g32_95 73) 50 0)) 83 (fup (h 83) b z32_95)) (up_can (sOf_ne _ _ (by decide)) rfl ((setO_comm _ _ _ (by decide)).trans (setO_cg rfl rfl))) ?_
            have hT_104 : TY (setO (setO g32_95 73 (fup (g32_95 73) 50 0)) 83 (fup (h 83) b z32_95)) := tu_73_50 hT_96 (show up (setO g32_95 83 (fup (h 83) b z32_95)) 73 50 0 = (setO (setO g32_95 73 (fup (g32_95 73) 50 0)) 83 (fup (h 83) b z32_95)) from up_can (sOf_ne _ _ (by decide)) rfl ((setO_comm _ _ _ (by decide)).trans (setO_cg rfl rfl))) (by omega)
            have hF_104 : FRM [73, 83, 86, 88, 104] [42, 43, 45, 50] h (setO (setO g32_95 73 (fup (g32_95 73) 50 0)) 83 (fup (h 83) b z32_95)) := FRM_f (show up (setO g32_95 83 (fup (h 83) b z32_95)) 73 50 0 = (setO (setO g32_95 73 (fup (g32_95 73) 50 0)) 83 (fup (h 83) b z32_95)) from up_can (sOf_ne _ _ (by decide)) rfl ((setO_comm _ _ _ (by decide)).trans (setO_cg rfl rfl))) hF_96 (by decide) (by decide)
            have e105_73_42 : (setO (setO g32_95 73 (fup (g32_95 73) 50 0)) 83 (fup (h 83) b z32_95)) 73 42 = (g32_95 73) 42 := rd_ ((sOf_ne _ _ (by decide)).trans (sOf_eq _ _ _)) (fup_ne _ _ (by decide))
            have e106_73_43 : (setO (setO g32_95 73 (fup (g32_95 73) 50 0)) 83 (fup (h 83) b z32_95)) 73 43 = (g32_95 73) 43 := rd_ ((sOf_ne _ _ (by decide)).trans (sOf_eq _ _ _)) (fup_ne _ _ (by decide))
            exact J74_7 (setO (setO g32_95 73 (fup (g32_95 73) 50 0)) 83 (fup (h 83) b z32_95)) hT_104 hF_104 (by rewrite [e105_73_42, e106_73_43]; first | omega | (simp [up, setR] <;> omega))
          · refine TT_aload_n hK rfl 0 rfl dX12_getHead_51 ?_
            refine gf_X12_44 hK (by decide) rfl (q := 83) rfl rfl dX12_getHead_52 ?_
            refine TT_iload_n hK rfl 1 rfl dX12_getHead_55 ?_
            refine TT_iald hK (o := 83) (n := 20) (by decide) rfl (by first | omega | (simp [up, setR] <;> omega)) (by first | omega | (simp [up, setR] <;> omega)) (v := z32_95) (rd_ (sOf_eq _ _ _) (fup_eq _ _ _)) dX12_getHead_56 ?_
            have r107 := ty_83 (i := b) (v := z32_95) hT_96 (rd_ (sOf_eq _ _ _) (fup_eq _ _ _)) (by omega) (by omega)
            refine TT_iconst hK dX12_getHead_57 ?_
            refine TT_bipush hK (by decide) dX12_getHead_58 ?_
            refine iv_X12_120 hK (s_X12_within z32_95 1 12 (setO g32_95 83 (fup (h 83) b z32_95)) hT_96 (by first | omega | (simp [up, setR] <;> omega)) (by first | omega | (simp [up, setR] <;> omega)) (by first | omega | (simp [up, setR] <;> omega))) ⟨by decide, by decide⟩ (by decide) rfl rfl (Nat.le_of_ble_eq_true rfl) ⟨by decide, by decide⟩ dX12_getHead_60 ?_
            intro r9 g60_108 hp9
            obtain ⟨⟨hT_108, hG_108⟩, z60_108, hr9, hz_108, p1_108, p2_108⟩ := hp9
            rw [hr9]
            have hF_108 : FRM [73, 83, 86, 88, 104] [42, 43, 45, 50] h g60_108 := FRM_tr hF_96 hG_108 (by decide) (by decide)
            show TT K ly 0 0 63 [(0, vR 73), (1, vI b)] [vI z60_108, vR 73] g60_108
            refine TT_if_ne hK (tgt := 70) (irm (by omega) (by omega)) dX12_getHead_63 (by decide) (fun hb63_109 => ?_) (fun hb63_109 => ?_)
            · refine TT_iconst hK dX12_getHead_70 ?_
              refine pf_X12_375 hK (by decide) rfl (by first | decide | omega) dX12_getHead_71 ?_
              refine TT_hp (h' := setO g60_108 73 (fup (g32_95 73) 50 0)) (up_can (((hG_108.1 73 (by decide))).trans (sOf_ne _ _ (by decide))) rfl rfl) ?_
              have hT_110 : TY (setO g60_108 73 (fup (g32_95 73) 50 0)) := tu_73_50 hT_108 (show up g60_108 73 50 0 = (setO g60_108 73 (fup (g32_95 73) 50 0)) from up_can (((hG_108.1 73 (by decide))).trans (sOf_ne _ _ (by decide))) rfl rfl) (by omega)
              have hF_110 : FRM [73, 83, 86, 88, 104] [42, 43, 45, 50] h (setO g60_108 73 (fup (g32_95 73) 50 0)) := FRM_f (show up g60_108 73 50 0 = (setO g60_108 73 (fup (g32_95 73) 50 0)) from up_can (((hG_108.1 73 (by decide))).trans (sOf_ne _ _ (by decide))) rfl rfl) hF_108 (by decide) (by decide)
              have e111_73_42 : (setO g60_108 73 (fup (g32_95 73) 50 0)) 73 42 = (g32_95 73) 42 := rd_ (sOf_eq _ _ _) (fup_ne _ _ (by decide))
              have e112_73_43 : (setO g60_108 73 (fup (g32_95 73) 50 0)) 73 43 = (g32_95 73) 43 := rd_ (sOf_eq _ _ _) (fup_ne _ _ (by decide))
              exact J74_7 (setO g60_108 73 (fup (g32_95 73) 50 0)) hT_110 hF_110 (by rewrite [e111_73_42, e112_73_43]; first | omega | (simp [up, setR] <;> omega))
            · refine TT_iconst hK dX12_getHead_66 ?_
              refine TT_goto hK (tgt := 71) dX12_getHead_67 (by decide) ?_
              refine pf_X12_375 hK (by decide) rfl (by first | decide | omega) dX12_getHead_71 ?_
              refine TT_hp (h' := setO g60_108 73 (fup (g32_95 73) 50 1)) (up_can (((hG_108.1 73 (by decide))).trans (sOf_ne _ _ (by decide))) rfl rfl) ?_
              have hT_113 : TY (setO g60_108 73 (fup (g32_95 73) 50 1)) := tu_73_50 hT_108 (show up g60_108 73 50 1 = (setO g60_108 73 (fup (g32_95 73) 50 1)) from up_can (((hG_108.1 73 (by decide))).trans (sOf_ne _ _ (by decide))) rfl rfl) (by omega)
              have hF_113 : FRM [73, 83, 86, 88, 104] [42, 43, 45, 50] h (setO g60_108 73 (fup (g32_95 73) 50 1)) := FRM_f (show up g60_108 73 50 1 = (setO g60_108 73 (fup (g32_95 73) 50 1)) from up_can (((hG_108.1 73 (by decide))).trans (sOf_ne _ _ (by decide))) rfl rfl) hF_108 (by decide) (by decide)
              have e114_73_42 : (setO g60_108 73 (fup (g32_95 73) 50 1)) 73 42 = (g32_95 73) 42 := rd_ (sOf_eq _ _ _) (fup_ne _ _ (by decide))
              have e115_73_43 : (setO g60_108 73 (fup (g32_95 73) 50 1)) 73 43 = (g32_95 73) 43 := rd_ (sOf_eq _ _ _) (fup_ne _ _ (by decide))
              exact J74_7 (setO g60_108 73 (fup (g32_95 73) 50 1)) hT_113 hF_113 (by rewrite [e114_73_42, e115_73_43]; first | omega | (simp [up, setR] <;> omega))
    · refine TT_vret hK hQ ?_ dX12_getHead_15
      have e116_73_42 : g2_1 73 42 = (g2_1 73) 42 := rfl
      have e117_73_43 : g2_1 73 43 = (g2_1 73) 43 := rfl
      exact ⟨⟨hT_1, hF_1⟩, rfl, (by rewrite [e116_73_42, e117_73_43]; omega)⟩

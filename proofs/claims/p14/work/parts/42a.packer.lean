section US
variable {own : String} {cc : ByteArray} {nL : Nat} {ret : Option FieldType} {pc : Nat}
theorem TT_iushr_h {K : TC_} {rm : Room} {nn : Nat} {w : Ly_} {kc ks : Nat} {lv : List (Nat × PV_)} {st : List PV_} {h : Hp_} (hK : TOk K own cc nL ret rm nn) {a b : Int} {n : Nat} (ha : 0 ≤ a ∧ a ≤ 2147483647) (hb : b = ((n : Nat) : Int)) (hn : n = 1 ∨ n = 2 ∨ n = 4 ∨ n = 8 ∨ n = 16) (hd : decode cc pc = .ok (.iushr, 1)) (k : ∀ x : Int, 0 ≤ x ∧ 2 * x ≤ a → TT K w kc ks (pc + 1) lv (vI x :: st) h) : TT K w kc ks pc lv (vI b :: vI a :: st) h := by
  obtain ⟨m, rfl⟩ := Int.eq_ofNat_of_zero_le ha.1
  subst hb
  have h2 : 2 * (m / 2 ^ n) ≤ m := by rcases hn with rfl | rfl | rfl | rfl | rfl <;> omega
  have k2 := k (((m / 2 ^ n : Nat)) : Int) (by generalize m / 2 ^ n = z at h2 ⊢; omega)
  exact TT_iushr hK (by omega) hn hd k2
end US
theorem lc_J6_264 : Cond.constant RJ6 264 (Int32.ofInt (65536)) ∈ lw_good := gd_ (tb_3 162 rfl) rfl
set_option maxRecDepth 20000 in
theorem s_J6_numberOfLeadingZeros_0f7a4 (v : Int) (h : Hp_) (hT : TY h) (hv : -2147483648 ≤ v ∧ v ≤ 2147483647) : Ctr yJ6_numberOfLeadingZeros_0f7a4 cJ6_numberOfLeadingZeros_0f7a4 2 (some .int) (rmd 0) ly ly 0 0 [vI v] h (fun r h' => (TY h' ∧ FR [] h h') ∧ ∃ z : Int, r = some (vI z) ∧ (-1073741824 ≤ z ∧ z ≤ 32)) := by
  refine Ctr_of (by decide) (Nat.le_of_ble_eq_true rfl) ⟨Nat.le_refl _, Nat.le_refl _⟩ (fun K hK hQ _ => ?_)
  show TT K ly 0 0 0 [(0, vI v)] [] h
  have hF : FR [] h h := FR_rf _ _
  refine TT_iload_n hK rfl 0 rfl dJ6_numberOfLeadingZeros_0f7a4_0 ?_
  refine TT_if_gt hK (tgt := 15) (irm (by omega) (by omega)) dJ6_numberOfLeadingZeros_0f7a4_1 (by decide) (fun hb1_1 => ?_) (fun hb1_1 => ?_)
  · refine TT_bipush hK (by decide) dJ6_numberOfLeadingZeros_0f7a4_15 ?_
    refine TT_istore_n hK rfl (lv' := [(1, vI 31), (0, vI v)]) (by decide) rfl dJ6_numberOfLeadingZeros_0f7a4_17 ?_
    have J33_2 : ∀ (n : Int) (i : Int) (w33_2 : Hp_), TY w33_2 → FR [] h w33_2 → (15 ≤ n ∧ n ≤ 31) → (0 ≤ i ∧ i ≤ 2147483647) → TT K ly 0 0 33 [(0, vI i), (1, vI n)] [] w33_2 := by
      intro n i w33_2 hT33_2 hF33_2 hn hi
      have J48_3 : ∀ (n : Int) (i : Int) (w48_3 : Hp_), TY w48_3 → FR [] h w48_3 → (7 ≤ n ∧ n ≤ 31) → (0 ≤ i ∧ i ≤ 2147483647) → TT K ly 0 0 48 [(0, vI i), (1, vI n)] [] w48_3 := by
        intro n i w48_3 hT48_3 hF48_3 hn hi
        have J61_4 : ∀ (n : Int) (i : Int) (w61_4 : Hp_), TY w61_4 → FR [] h w61_4 → (3 ≤ n ∧ n ≤ 31) → (0 ≤ i ∧ i ≤ 2147483647) → TT K ly 0 0 61 [(0, vI i), (1, vI n)] [] w61_4 := by
          intro n i w61_4 hT61_4 hF61_4 hn hi
          have J73_5 : ∀ (n : Int) (i : Int) (w73_5 : Hp_), TY w73_5 → FR [] h w73_5 → (1 ≤ n ∧ n ≤ 31) → (0 ≤ i ∧ i ≤ 2147483647) → TT K ly 0 0 73 [(0, vI i), (1, vI n)] [] w73_5 := by
            intro n i w73_5 hT73_5 hF73_5 hn hi
            refine TT_iload_n hK rfl 1 rfl dJ6_numberOfLeadingZeros_0f7a4_73 ?_
            refine TT_iload_n hK rfl 0 rfl dJ6_numberOfLeadingZeros_0f7a4_74 ?_
            refine TT_iconst hK dJ6_numberOfLeadingZeros_0f7a4_75 ?_
            refine TT_iushr_h hK (n := 1) (by omega) rfl (by decide) dJ6_numberOfLeadingZeros_0f7a4_76 (fun x76_6 hx6 => ?_)
            refine TT_isub hK dJ6_numberOfLeadingZeros_0f7a4_77 ?_
            refine TT_iret hK hQ ?_ dJ6_numberOfLeadingZeros_0f7a4_78
            exact ⟨⟨hT73_5, hF73_5⟩, (n - x76_6), rfl, (by omega)⟩
          refine TT_iload_n hK rfl 0 rfl dJ6_numberOfLeadingZeros_0f7a4_61 ?_
          refine TT_iconst hK dJ6_numberOfLeadingZeros_0f7a4_62 ?_
          refine TT_icmp_lt hK (tgt := 73) (irm (by omega) (by omega)) (by decide) dJ6_numberOfLeadingZeros_0f7a4_63 (by decide) (fun hb63_7 => ?_) (fun hb63_7 => ?_)
          · exact J73_5 n i w61_4 hT61_4 hF61_4 (by first | omega | (simp [up, setR] <;> omega)) (by first | omega | (simp [up, setR] <;> omega))
          · refine TT_iinc hK (v := n - 2) (lv' := [(1, vI (n - 2)), (0, vI i)]) 1 rfl (by omega) (by decide) rfl dJ6_numberOfLeadingZeros_0f7a4_66 ?_
            refine TT_iload_n hK rfl 1 rfl dJ6_numberOfLeadingZeros_0f7a4_69 ?_
            refine TT_iconst hK dJ6_numberOfLeadingZeros_0f7a4_70 ?_
            refine TT_iushr_h hK (n := 2) (by omega) rfl (by decide) dJ6_numberOfLeadingZeros_0f7a4_71 (fun x71_8 hx8 => ?_)
            refine TT_istore_n hK rfl (lv' := [(0, vI x71_8), (1, vI (n - 2))]) (by decide) rfl dJ6_numberOfLeadingZeros_0f7a4_72 ?_
            exact J73_5 (n - 2) x71_8 w61_4 hT61_4 hF61_4 (by first | omega | (simp [up, setR] <;> omega)) (by first | omega | (simp [up, setR] <;> omega))
        refine TT_iload_n hK rfl 0 rfl dJ6_numberOfLeadingZeros_0f7a4_48 ?_
        refine TT_bipush hK (by decide) dJ6_numberOfLeadingZeros_0f7a4_49 ?_
        refine TT_icmp_lt hK (tgt := 61) (irm (by omega) (by omega)) (by decide) dJ6_numberOfLeadingZeros_0f7a4_51 (by decide) (fun hb51_9 => ?_) (fun hb51_9 => ?_)
        · exact J61_4 n i w48_3 hT48_3 hF48_3 (by first | omega | (simp [up, setR] <;> omega)) (by first | omega | (simp [up, setR] <;> omega))
        · refine TT_iinc hK (v := n - 4) (lv' := [(1, vI (n - 4)), (0, vI i)]) 1 rfl (by omega) (by decide) rfl dJ6_numberOfLeadingZeros_0f7a4_54 ?_
          refine TT_iload_n hK rfl 1 rfl dJ6_numberOfLeadingZeros_0f7a4_57 ?_
          refine TT_iconst hK dJ6_numberOfLeadingZeros_0f7a4_58 ?_
          refine TT_iushr_h hK (n := 4) (by omega) rfl (by decide) dJ6_numberOfLeadingZeros_0f7a4_59 (fun x59_10 hx10 => ?_)
          refine TT_istore_n hK rfl (lv' := [(0, vI x59_10), (1, vI (n - 4))]) (by decide) rfl dJ6_numberOfLeadingZeros_0f7a4_60 ?_
          exact J61_4 (n - 4) x59_10 w48_3 hT48_3 hF48_3 (by first | omega | (simp [up, setR] <;> omega)) (by first | omega | (simp [up, setR] <;> omega))
      refine TT_iload_n hK rfl 0 rfl dJ6_numberOfLeadingZeros_0f7a4_33 ?_
      refine TT_sipush hK (by decide) dJ6_numberOfLeadingZeros_0f7a4_34 ?_
      refine TT_icmp_lt hK (tgt := 48) (irm (by omega) (by omega)) (by decide) dJ6_numberOfLeadingZeros_0f7a4_37 (by decide) (fun hb37_11 => ?_) (fun hb37_11 => ?_)
      · exact J48_3 n i w33_2 hT33_2 hF33_2 (by first | omega | (simp [up, setR] <;> omega)) (by first | omega | (simp [up, setR] <;> omega))
      · refine TT_iinc hK (v := n - 8) (lv' := [(1, vI (n - 8)), (0, vI i)]) 1 rfl (by omega) (by decide) rfl dJ6_numberOfLeadingZeros_0f7a4_40 ?_
        refine TT_iload_n hK rfl 1 rfl dJ6_numberOfLeadingZeros_0f7a4_43 ?_
        refine TT_bipush hK (by decide) dJ6_numberOfLeadingZeros_0f7a4_44 ?_
        refine TT_iushr_h hK (n := 8) (by omega) rfl (by decide) dJ6_numberOfLeadingZeros_0f7a4_46 (fun x46_12 hx12 => ?_)
        refine TT_istore_n hK rfl (lv' := [(0, vI x46_12), (1, vI (n - 8))]) (by decide) rfl dJ6_numberOfLeadingZeros_0f7a4_47 ?_
        exact J48_3 (n - 8) x46_12 w33_2 hT33_2 hF33_2 (by first | omega | (simp [up, setR] <;> omega)) (by first | omega | (simp [up, setR] <;> omega))
    refine TT_iload_n hK rfl 1 rfl dJ6_numberOfLeadingZeros_0f7a4_18 ?_
    refine TT_ldcw hK lc_J6_264 dJ6_numberOfLeadingZeros_0f7a4_19 ?_
    refine TT_icmp_lt hK (tgt := 33) (irm (by omega) (by omega)) (by decide) dJ6_numberOfLeadingZeros_0f7a4_22 (by decide) (fun hb22_13 => ?_) (fun hb22_13 => ?_)
    · refine TT_sub [1, 0] rfl ?_
      exact J33_2 31 v h hT hF (by first | omega | (simp [up, setR] <;> omega)) (by first | omega | (simp [up, setR] <;> omega))
    · refine TT_iinc hK (v := 31 - 16) (lv' := [(1, vI (31 - 16)), (0, vI v)]) 0 rfl (by omega) (by decide) rfl dJ6_numberOfLeadingZeros_0f7a4_25 ?_
      refine TT_iload_n hK rfl 1 rfl dJ6_numberOfLeadingZeros_0f7a4_28 ?_
      refine TT_bipush hK (by decide) dJ6_numberOfLeadingZeros_0f7a4_29 ?_
      refine TT_iushr_h hK (n := 16) (by omega) rfl (by decide) dJ6_numberOfLeadingZeros_0f7a4_31 (fun x31_14 hx14 => ?_)
      refine TT_istore_n hK rfl (lv' := [(0, vI x31_14), (1, vI (31 - 16))]) (by decide) rfl dJ6_numberOfLeadingZeros_0f7a4_32 ?_
      exact J33_2 (31 - 16) x31_14 h hT hF (by first | omega | (simp [up, setR] <;> omega)) (by first | omega | (simp [up, setR] <;> omega))
  · refine TT_iload_n hK rfl 0 rfl dJ6_numberOfLeadingZeros_0f7a4_4 ?_
    refine TT_if_ne hK (tgt := 13) (irm (by omega) (by omega)) dJ6_numberOfLeadingZeros_0f7a4_5 (by decide) (fun hb5_15 => ?_) (fun hb5_15 => ?_)
    · refine TT_iconst hK dJ6_numberOfLeadingZeros_0f7a4_13 ?_
      refine TT_iret hK hQ ?_ dJ6_numberOfLeadingZeros_0f7a4_14
      exact ⟨⟨hT, hF⟩, 0, rfl, (by omega)⟩
    · refine TT_bipush hK (by decide) dJ6_numberOfLeadingZeros_0f7a4_8 ?_
      refine TT_goto hK (tgt := 14) dJ6_numberOfLeadingZeros_0f7a4_10 (by decide) ?_
      refine TT_iret hK hQ ?_ dJ6_numberOfLeadingZeros_0f7a4_14
      exact ⟨⟨hT, hF⟩, 32, rfl, (by omega)⟩
set_option maxRecDepth 20000 in
theorem s_X11_isSide (n : Int) (h : Hp_) (hT : TY h) (hn : -2147483648 ≤ n ∧ n ≤ 2147483647) : Ctr yX11_isSide cX11_isSide 1 (some .boolean) (rmd 0) ly ly 0 0 [vI n] h (fun r h' => (TY h' ∧ FR [] h h') ∧ ∃ z : Int, r = some (vI z) ∧ (0 ≤ z ∧ z ≤ 1) ∧ (z = 1 → 1 ≤ n ∧ n ≤ 8)) := by
  refine Ctr_of (by decide) (Nat.le_of_ble_eq_true rfl) ⟨Nat.le_refl _, Nat.le_refl _⟩ (fun K hK hQ _ => ?_)
  show TT K ly 0 0 0 [(0, vI n)] [] h
  have hF : FR [] h h := FR_rf _ _
  refine TT_iload_n hK rfl 0 rfl dX11_isSide_0 ?_
  refine TT_iconst hK dX11_isSide_1 ?_
  refine TT_icmp_lt hK (tgt := 15) (irm (by omega) (by omega)) (by decide) dX11_isSide_2 (by decide) (fun hb2_1 => ?_) (fun hb2_1 => ?_)
  · refine TT_iconst hK dX11_isSide_15 ?_
    refine TT_zret hK hQ (by decide) ?_ dX11_isSide_16
    exact ⟨⟨hT, hF⟩, 0, rfl, (by omega), (by omega)⟩
  · refine TT_iload_n hK rfl 0 rfl dX11_isSide_5 ?_
    refine TT_bipush hK (by decide) dX11_isSide_6 ?_
    refine TT_icmp_gt hK (tgt := 15) (irm (by omega) (by omega)) (by decide) dX11_isSide_8 (by decide) (fun hb8_2 => ?_) (fun hb8_2 => ?_)
    · refine TT_iconst hK dX11_isSide_15 ?_
      refine TT_zret hK hQ (by decide) ?_ dX11_isSide_16
      exact ⟨⟨hT, hF⟩, 0, rfl, (by omega), (by omega)⟩
    · refine TT_iconst hK dX11_isSide_11 ?_
      refine TT_goto hK (tgt := 16) dX11_isSide_12 (by decide) ?_
      refine TT_zret hK hQ (by decide) ?_ dX11_isSide_16
      exact ⟨⟨hT, hF⟩, 1, rfl, (by omega), (by omega)⟩
set_option maxRecDepth 20000 in
theorem s_X11_areLevels (n : Int) (h : Hp_) (hT : TY h) (hn : -2147483648 ≤ n ∧ n ≤ 2147483647) : Ctr yX11_areLevels cX11_areLevels 1 (some .boolean) (rmd 0) ly ly 0 0 [vI n] h (fun r h' => (TY h' ∧ FR [] h h') ∧ ∃ z : Int, r = some (vI z) ∧ (0 ≤ z ∧ z ≤ 1) ∧ (z = 1 → 0 ≤ n ∧ n ≤ 3)) := by
  refine Ctr_of (by decide) (Nat.le_of_ble_eq_true rfl) ⟨Nat.le_refl _, Nat.le_refl _⟩ (fun K hK hQ _ => ?_)
  show TT K ly 0 0 0 [(0, vI n)] [] h
  have hF : FR [] h h := FR_rf _ _
  refine TT_iload_n hK rfl 0 rfl dX11_areLevels_0 ?_
  refine TT_if_lt hK (tgt := 13) (irm (by omega) (by omega)) dX11_areLevels_1 (by decide) (fun hb1_1 => ?_) (fun hb1_1 => ?_)
  · refine TT_iconst hK dX11_areLevels_13 ?_
    refine TT_zret hK hQ (by decide) ?_ dX11_areLevels_14
    exact ⟨⟨hT, hF⟩, 0, rfl, (by omega), (by omega)⟩
  · refine TT_iload_n hK rfl 0 rfl dX11_areLevels_4 ?_
    refine TT_iconst hK dX11_areLevels_5 ?_
    refine TT_icmp_gt hK (tgt := 13) (irm (by omega) (by omega)) (by decide) dX11_areLevels_6 (by decide) (fun hb6_2 => ?_) (fun hb6_2 => ?_)
    · refine TT_iconst hK dX11_areLevels_13 ?_
      refine TT_zret hK hQ (by decide) ?_ dX11_areLevels_14
      exact ⟨⟨hT, hF⟩, 0, rfl, (by omega), (by omega)⟩
    · refine TT_iconst hK dX11_areLevels_9 ?_
      refine TT_goto hK (tgt := 14) dX11_areLevels_10 (by decide) ?_
      refine TT_zret hK hQ (by decide) ?_ dX11_areLevels_14
      exact ⟨⟨hT, hF⟩, 1, rfl, (by omega), (by omega)⟩
set_option maxRecDepth 20000 in
theorem s_X11_areLayers (n : Int) (h : Hp_) (hT : TY h) (hn : -2147483648 ≤ n ∧ n ≤ 2147483647) : Ctr yX11_areLayers cX11_areLayers 1 (some .boolean) (rmd 0) ly ly 0 0 [vI n] h (fun r h' => (TY h' ∧ FR [] h h') ∧ ∃ z : Int, r = some (vI z) ∧ (0 ≤ z ∧ z ≤ 1) ∧ (z = 1 → 1 ≤ n ∧ n ≤ 3)) := by
  refine Ctr_of (by decide) (Nat.le_of_ble_eq_true rfl) ⟨Nat.le_refl _, Nat.le_refl _⟩ (fun K hK hQ _ => ?_)
  show TT K ly 0 0 0 [(0, vI n)] [] h
  have hF : FR [] h h := FR_rf _ _
  refine TT_iload_n hK rfl 0 rfl dX11_areLayers_0 ?_
  refine TT_iconst hK dX11_areLayers_1 ?_
  refine TT_icmp_lt hK (tgt := 14) (irm (by omega) (by omega)) (by decide) dX11_areLayers_2 (by decide) (fun hb2_1 => ?_) (fun hb2_1 => ?_)
  · refine TT_iconst hK dX11_areLayers_14 ?_
    refine TT_zret hK hQ (by decide) ?_ dX11_areLayers_15
    exact ⟨⟨hT, hF⟩, 0, rfl, (by omega), (by omega)⟩
  · refine TT_iload_n hK rfl 0 rfl dX11_areLayers_5 ?_
    refine TT_iconst hK dX11_areLayers_6 ?_
    refine TT_icmp_gt hK (tgt := 14) (irm (by omega) (by omega)) (by decide) dX11_areLayers_7 (by decide) (fun hb7_2 => ?_) (fun hb7_2 => ?_)
    · refine TT_iconst hK dX11_areLayers_14 ?_
      refine TT_zret hK hQ (by decide) ?_ dX11_areLayers_15
      exact ⟨⟨hT, hF⟩, 0, rfl, (by omega), (by omega)⟩
    · refine TT_iconst hK dX11_areLayers_10 ?_
      refine TT_goto hK (tgt := 15) dX11_areLayers_11 (by decide) ?_
      refine TT_zret hK hQ (by decide) ?_ dX11_areLayers_15
      exact ⟨⟨hT, hF⟩, 1, rfl, (by omega), (by omega)⟩
set_option maxRecDepth 20000 in
theorem s_X11_firstBandOf (r : Int) (h : Hp_) (hT : TY h) (hr : 0 ≤ r ∧ r ≤ 3) : Ctr yX11_firstBandOf cX11_firstBandOf 1 (some .int) (rmd 0) ly ly 0 0 [vI r] h (fun r h' => (TY h' ∧ FR [] h h') ∧ ∃ z : Int, r = some (vI z) ∧ (0 ≤ z ∧ z ≤ 7)) := by
  refine Ctr_of (by decide) (Nat.le_of_ble_eq_true rfl) ⟨Nat.le_refl _, Nat.le_refl _⟩ (fun K hK hQ _ => ?_)
  show TT K ly 0 0 0 [(0, vI r)] [] h
  have hF : FR [] h h := FR_rf _ _
  refine TT_iload_n hK rfl 0 rfl dX11_firstBandOf_0 ?_
  refine TT_if_ne hK (tgt := 8) (irm (by omega) (by omega)) dX11_firstBandOf_1 (by decide) (fun hb1_1 => ?_) (fun hb1_1 => ?_)
  · refine TT_iconst hK dX11_firstBandOf_8 ?_
    refine TT_iload_n hK rfl 0 rfl dX11_firstBandOf_9 ?_
    refine TT_imul hK dX11_firstBandOf_10 ?_
    refine TT_iconst hK dX11_firstBandOf_11 ?_
    refine TT_isub hK dX11_firstBandOf_12 ?_
    refine TT_iret hK hQ ?_ dX11_firstBandOf_13
    exact ⟨⟨hT, hF⟩, ((3 * r) - 2), rfl, (by omega)⟩
  · refine TT_iconst hK dX11_firstBandOf_4 ?_
    refine TT_goto hK (tgt := 13) dX11_firstBandOf_5 (by decide) ?_
    refine TT_iret hK hQ ?_ dX11_firstBandOf_13
    exact ⟨⟨hT, hF⟩, 0, rfl, (by omega)⟩
set_option maxRecDepth 20000 in
theorem s_X11_lastBandOf (r : Int) (h : Hp_) (hT : TY h) (hr : 0 ≤ r ∧ r ≤ 3) : Ctr yX11_lastBandOf cX11_lastBandOf 1 (some .int) (rmd 0) ly ly 0 0 [vI r] h (fun r h' => (TY h' ∧ FR [] h h') ∧ ∃ z : Int, r = some (vI z) ∧ (0 ≤ z ∧ z ≤ 9)) := by
  refine Ctr_of (by decide) (Nat.le_of_ble_eq_true rfl) ⟨Nat.le_refl _, Nat.le_refl _⟩ (fun K hK hQ _ => ?_)
  show TT K ly 0 0 0 [(0, vI r)] [] h
  have hF : FR [] h h := FR_rf _ _
  refine TT_iconst hK dX11_lastBandOf_0 ?_
  refine TT_iload_n hK rfl 0 rfl dX11_lastBandOf_1 ?_
  refine TT_imul hK dX11_lastBandOf_2 ?_
  refine TT_iret hK hQ ?_ dX11_lastBandOf_3
  exact ⟨⟨hT, hF⟩, (3 * r), rfl, (by omega)⟩
set_option maxRecDepth 20000 in
theorem s_X11_passesOf (n : Int) (h : Hp_) (hT : TY h) (hn : 0 ≤ n ∧ n ≤ 12) : Ctr yX11_passesOf cX11_passesOf 1 (some .int) (rmd 0) ly ly 0 0 [vI n] h (fun r h' => (TY h' ∧ FR [] h h') ∧ ∃ z : Int, r = some (vI z) ∧ (0 ≤ z ∧ z ≤ 34)) := by
  refine Ctr_of (by decide) (Nat.le_of_ble_eq_true rfl) ⟨Nat.le_refl _, Nat.le_refl _⟩ (fun K hK hQ _ => ?_)
  show TT K ly 0 0 0 [(0, vI n)] [] h
  have hF : FR [] h h := FR_rf _ _
  refine TT_iload_n hK rfl 0 rfl dX11_passesOf_0 ?_
  refine TT_if_ne hK (tgt := 8) (irm (by omega) (by omega)) dX11_passesOf_1 (by decide) (fun hb1_1 => ?_) (fun hb1_1 => ?_)
  · refine TT_iconst hK dX11_passesOf_8 ?_
    refine TT_iload_n hK rfl 0 rfl dX11_passesOf_9 ?_
    refine TT_imul hK dX11_passesOf_10 ?_
    refine TT_iconst hK dX11_passesOf_11 ?_
    refine TT_isub hK dX11_passesOf_12 ?_
    refine TT_iret hK hQ ?_ dX11_passesOf_13
    exact ⟨⟨hT, hF⟩, ((3 * n) - 2), rfl, (by omega)⟩
  · refine TT_iconst hK dX11_passesOf_4 ?_
    refine TT_goto hK (tgt := 13) dX11_passesOf_5 (by decide) ?_
    refine TT_iret hK hQ ?_ dX11_passesOf_13
    exact ⟨⟨hT, hF⟩, 0, rfl, (by omega)⟩
set_option maxRecDepth 20000 in
theorem s_X11_bitsOf (n : Int) (h : Hp_) (hT : TY h) (hn : -2147483648 ≤ n ∧ n ≤ 2147483647) : Ctr yX11_bitsOf cX11_bitsOf 1 (some .int) (rmd 1) ly ly 0 0 [vI n] h (fun r h' => (TY h' ∧ FR [] h h') ∧ ∃ z : Int, r = some (vI z) ∧ (0 ≤ z ∧ z ≤ 1073741856)) := by
  refine Ctr_of (by decide) (Nat.le_of_ble_eq_true rfl) ⟨Nat.le_refl _, Nat.le_refl _⟩ (fun K hK hQ _ => ?_)
  show TT K ly 0 0 0 [(0, vI n)] [] h
  have hF : FR [] h h := FR_rf _ _
  refine TT_bipush hK (by decide) dX11_bitsOf_0 ?_
  refine TT_iload_n hK rfl 0 rfl dX11_bitsOf_2 ?_
  refine iv_X11_125 hK (s_J6_numberOfLeadingZeros_0f7a4 n h hT (by first | omega | (simp [up, setR] <;> omega))) ⟨by decide, by decide⟩ (by decide) rfl rfl (Nat.le_of_ble_eq_true rfl) ⟨by decide, by decide⟩ dX11_bitsOf_3 ?_
  intro r9 g3_1 hp9
  obtain ⟨⟨hT_1, hG_1⟩, z3_1, hr9, hz_1⟩ := hp9
  rw [hr9]
  have hF_1 : FR [] h g3_1 := FR_tr hF hG_1 (by decide)
  show TT K ly 0 0 6 [(0, vI n)] [vI z3_1, vI 32] g3_1
  refine TT_isub hK dX11_bitsOf_6 ?_
  refine TT_iret hK hQ ?_ dX11_bitsOf_7
  exact ⟨⟨hT_1, hF_1⟩, (32 - z3_1), rfl, (by omega)⟩
set_option maxRecDepth 20000 in
theorem s_X3_about_7 (b w : Int) (h : Hp_) (hT : TY h) (hb : -2147483648 ≤ b ∧ b ≤ 2147483647) (hw : -2147483648 ≤ w ∧ w ≤ 2147483647) : Ctr yX3_about cX3_about 3 (some .int) (rmd 1) ly ly 0 0 [vR 7, vI b, vI w] h (fun r h' => (TY h' ∧ FR [] h h') ∧ ∃ z : Int, r = some (vI z) ∧ (-2147483648 ≤ z ∧ z ≤ 2147483647)) := by
  refine Ctr_of (by decide) (Nat.le_of_ble_eq_true rfl) ⟨Nat.le_refl _, Nat.le_refl _⟩ (fun K hK hQ _ => ?_)
  show TT K ly 0 0 0 [(0, vR 7), (1, vI b), (2, vI w)] [] h
  have hF : FR [] h h := FR_rf _ _
  refine TT_aload_n hK rfl 0 rfl dX3_about_0 ?_
  refine gf_X3_12 hK (by decide) rfl (q := 8) rfl rfl dX3_about_1 ?_
  refine TT_iload_n hK rfl 1 rfl dX3_about_4 ?_
  refine iv_X3_74 hK (s_X0_hasBand_8 b h hT (by first | omega | (simp [up, setR] <;> omega))) (by decide) rfl ⟨by decide, by decide⟩ (by decide) rfl rfl (Nat.le_of_ble_eq_true rfl) ⟨by decide, by decide⟩ dX3_about_5 ?_
  intro r9 g5_1 hp9
  obtain ⟨⟨hT_1, hG_1⟩, z5_1, hr9, hz_1, p1_1⟩ := hp9
  rw [hr9]
  have hF_1 : FR [] h g5_1 := FR_tr hF hG_1 (by decide)
  show TT K ly 0 0 8 [(0, vR 7), (1, vI b), (2, vI w)] [vI z5_1] g5_1
  refine TT_if_ne hK (tgt := 14) (irm (by omega) (by omega)) dX3_about_8 (by decide) (fun hb8_2 => ?_) (fun hb8_2 => ?_)
  · refine TT_iload_n hK rfl 2 rfl dX3_about_14 ?_
    refine TT_table hK (irm (by omega) (by omega)) dX3_about_15 (fun hs15_3 => ⟨92, by decide, ?_⟩) (fun hs15_3a hs15_3b => ?_)
    · refine TT_ldc hK lc_X3_78 dX3_about_92 ?_
      refine TT_iret hK hQ ?_ dX3_about_94
      exact ⟨⟨hT_1, hF_1⟩, (-100000), rfl, (by omega)⟩
    · rcases (show w = 0 ∨ w = 1 ∨ w = 2 ∨ w = 3 ∨ w = 4 by omega) with hs15_3 | hs15_3 | hs15_3 | hs15_3 | hs15_3
      · refine ⟨33, 48, by rw [hs15_3]; rfl, by decide, ?_⟩
        refine TT_aload_n hK rfl 0 rfl dX3_about_48 ?_
        refine gf_X3_12 hK (by decide) rfl (q := 8) rfl rfl dX3_about_49 ?_
        refine gf_X3_79 hK (by decide) rfl (q := 12) rfl rfl dX3_about_52 ?_
        refine TT_iload_n hK rfl 1 rfl dX3_about_55 ?_
        refine TT_iald hK (o := 12) (n := 10) (by decide) rfl (by first | omega | (simp [up, setR] <;> omega)) (by first | omega | (simp [up, setR] <;> omega)) (v := (h 12) b) (rd_ (hG_1 12 (by decide)) rfl) dX3_about_56 ?_
        have r4 := ty_12 (i := b) (v := (h 12) b) hT_1 (rd_ (hG_1 12 (by decide)) rfl) (by omega) (by omega)
        refine TT_iret hK hQ ?_ dX3_about_57
        exact ⟨⟨hT_1, hF_1⟩, ((h 12) b), rfl, (by omega)⟩
      · refine ⟨43, 58, by rw [hs15_3]; rfl, by decide, ?_⟩
        refine TT_aload_n hK rfl 0 rfl dX3_about_58 ?_
        refine gf_X3_12 hK (by decide) rfl (q := 8) rfl rfl dX3_about_59 ?_
        refine gf_X3_82 hK (by decide) rfl (q := 13) rfl rfl dX3_about_62 ?_
        refine TT_iload_n hK rfl 1 rfl dX3_about_65 ?_
        refine TT_iald hK (o := 13) (n := 10) (by decide) rfl (by first | omega | (simp [up, setR] <;> omega)) (by first | omega | (simp [up, setR] <;> omega)) (v := (h 13) b) (rd_ (hG_1 13 (by decide)) rfl) dX3_about_66 ?_
        have r5 := ty_13 (i := b) (v := (h 13) b) hT_1 (rd_ (hG_1 13 (by decide)) rfl) (by omega) (by omega)
        refine TT_iret hK hQ ?_ dX3_about_67
        exact ⟨⟨hT_1, hF_1⟩, ((h 13) b), rfl, (by omega)⟩
      · refine ⟨53, 68, by rw [hs15_3]; rfl, by decide, ?_⟩
        refine TT_aload_n hK rfl 0 rfl dX3_about_68 ?_
        refine gf_X3_18 hK (by decide) rfl (q := 16) rfl rfl dX3_about_69 ?_
        refine TT_iload_n hK rfl 1 rfl dX3_about_72 ?_
        refine TT_iald hK (o := 16) (n := 10) (by decide) rfl (by first | omega | (simp [up, setR] <;> omega)) (by first | omega | (simp [up, setR] <;> omega)) (v := (h 16) b) (rd_ (hG_1 16 (by decide)) rfl) dX3_about_73 ?_
        have r6 := ty_16 (i := b) (v := (h 16) b) hT_1 (rd_ (hG_1 16 (by decide)) rfl) (by omega) (by omega)
        refine TT_iret hK hQ ?_ dX3_about_74
        exact ⟨⟨hT_1, hF_1⟩, ((h 16) b), rfl, (by omega)⟩
      · refine ⟨60, 75, by rw [hs15_3]; rfl, by decide, ?_⟩
        refine TT_aload_n hK rfl 0 rfl dX3_about_75 ?_
        refine gf_X3_18 hK (by decide) rfl (q := 16) rfl rfl dX3_about_76 ?_
        refine TT_iload_n hK rfl 1 rfl dX3_about_79 ?_
        refine TT_iald hK (o := 16) (n := 10) (by decide) rfl (by first | omega | (simp [up, setR] <;> omega)) (by first | omega | (simp [up, setR] <;> omega)) (v := (h 16) b) (rd_ (hG_1 16 (by decide)) rfl) dX3_about_80 ?_
        have r7 := ty_16 (i := b) (v := (h 16) b) hT_1 (rd_ (hG_1 16 (by decide)) rfl) (by omega) (by omega)
        refine iv_X3_85 hK (s_X11_passesOf ((h 16) b) g5_1 hT_1 (by first | omega | (simp [up, setR] <;> omega))) ⟨by decide, by decide⟩ (by decide) rfl rfl (Nat.le_of_ble_eq_true rfl) ⟨by decide, by decide⟩ dX3_about_81 ?_
        intro r9 g81_8 hp9
        obtain ⟨⟨hT_8, hG_8⟩, z81_8, hr9, hz_8⟩ := hp9
        rw [hr9]
        have hF_8 : FR [] h g81_8 := FR_tr hF_1 hG_8 (by decide)
        show TT K ly 0 0 84 [(0, vR 7), (1, vI b), (2, vI w)] [vI z81_8] g81_8
        refine TT_iret hK hQ ?_ dX3_about_84
        exact ⟨⟨hT_8, hF_8⟩, z81_8, rfl, (by omega)⟩
      · refine ⟨70, 85, by rw [hs15_3]; rfl, by decide, ?_⟩
        refine TT_aload_n hK rfl 0 rfl dX3_about_85 ?_
        refine gf_X3_25 hK (by decide) rfl (q := 18) rfl rfl dX3_about_86 ?_
        refine TT_iload_n hK rfl 1 rfl dX3_about_89 ?_
        refine TT_iald hK (o := 18) (n := 10) (by decide) rfl (by first | omega | (simp [up, setR] <;> omega)) (by first | omega | (simp [up, setR] <;> omega)) (v := (h 18) b) (rd_ (hG_1 18 (by decide)) rfl) dX3_about_90 ?_
        have r9 := ty_18 (i := b) (v := (h 18) b) hT_1 (rd_ (hG_1 18 (by decide)) rfl) (by omega) (by omega)
        refine TT_iret hK hQ ?_ dX3_about_91
        exact ⟨⟨hT_1, hF_1⟩, ((h 18) b), rfl, (by omega)⟩
  · refine TT_ldc hK lc_X3_78 dX3_about_11 ?_
    refine TT_iret hK hQ ?_ dX3_about_13
    exact ⟨⟨hT_1, hF_1⟩, (-100000), rfl, (by omega)⟩
set_option maxRecDepth 20000 in
theorem s_X3_codeByte_7 (b i : Int) (h : Hp_) (hT : TY h) (hb : -2147483648 ≤ b ∧ b ≤ 2147483647) (hi : -2147483648 ≤ i ∧ i ≤ 2147483647) : Ctr yX3_codeByte cX3_codeByte 3 (some .int) (rmd 1) ly ly 0 0 [vR 7, vI b, vI i] h (fun r h' => (TY h' ∧ FR [] h h') ∧ ∃ z : Int, r = some (vI z) ∧ (-2147483648 ≤ z ∧ z ≤ 2147483647)) := by
  refine Ctr_of (by decide) (Nat.le_of_ble_eq_true rfl) ⟨Nat.le_refl _, Nat.le_refl _⟩ (fun K hK hQ _ => ?_)
  show TT K ly 0 0 0 [(0, vR 7), (1, vI b), (2, vI i)] [] h
  have hF : FR [] h h := FR_rf _ _
  refine TT_aload_n hK rfl 0 rfl dX3_codeByte_0 ?_
  refine gf_X3_12 hK (by decide) rfl (q := 8) rfl rfl dX3_codeByte_1 ?_
  refine TT_iload_n hK rfl 1 rfl dX3_codeByte_4 ?_
  refine iv_X3_74 hK (s_X0_hasBand_8 b h hT (by first | omega | (simp [up, setR] <;> omega))) (by decide) rfl ⟨by decide, by decide⟩ (by decide) rfl rfl (Nat.le_of_ble_eq_true rfl) ⟨by decide, by decide⟩ dX3_codeByte_5 ?_
  intro r9 g5_1 hp9
  obtain ⟨⟨hT_1, hG_1⟩, z5_1, hr9, hz_1, p1_1⟩ := hp9
  rw [hr9]
  have hF_1 : FR [] h g5_1 := FR_tr hF hG_1 (by decide)
  show TT K ly 0 0 8 [(0, vR 7), (1, vI b), (2, vI i)] [vI z5_1] g5_1
  refine TT_if_eq hK (tgt := 25) (irm (by omega) (by omega)) dX3_codeByte_8 (by decide) (fun hb8_2 => ?_) (fun hb8_2 => ?_)
  · refine TT_ldc hK lc_X3_78 dX3_codeByte_25 ?_
    refine TT_iret hK hQ ?_ dX3_codeByte_27
    exact ⟨⟨hT_1, hF_1⟩, (-100000), rfl, (by omega)⟩
  · refine TT_iload_n hK rfl 2 rfl dX3_codeByte_11 ?_
    refine TT_if_lt hK (tgt := 25) (irm (by omega) (by omega)) dX3_codeByte_12 (by decide) (fun hb12_3 => ?_) (fun hb12_3 => ?_)
    · refine TT_ldc hK lc_X3_78 dX3_codeByte_25 ?_
      refine TT_iret hK hQ ?_ dX3_codeByte_27
      exact ⟨⟨hT_1, hF_1⟩, (-100000), rfl, (by omega)⟩
    · refine TT_iload_n hK rfl 2 rfl dX3_codeByte_15 ?_
      refine TT_aload_n hK rfl 0 rfl dX3_codeByte_16 ?_
      refine gf_X3_25 hK (by decide) rfl (q := 18) rfl rfl dX3_codeByte_17 ?_
      refine TT_iload_n hK rfl 1 rfl dX3_codeByte_20 ?_
      refine TT_iald hK (o := 18) (n := 10) (by decide) rfl (by first | omega | (simp [up, setR] <;> omega)) (by first | omega | (simp [up, setR] <;> omega)) (v := (h 18) b) (rd_ (hG_1 18 (by decide)) rfl) dX3_codeByte_21 ?_
      have r4 := ty_18 (i := b) (v := (h 18) b) hT_1 (rd_ (hG_1 18 (by decide)) rfl) (by omega) (by omega)
      refine TT_icmp_lt hK (tgt := 28) (irm (by omega) (by omega)) (irm (by omega) (by omega)) dX3_codeByte_22 (by decide) (fun hb22_5 => ?_) (fun hb22_5 => ?_)
      · refine TT_aload_n hK rfl 0 rfl dX3_codeByte_28 ?_
        refine gf_X3_40 hK (by decide) rfl (q := 22) rfl rfl dX3_codeByte_29 ?_
        refine TT_aload_n hK rfl 0 rfl dX3_codeByte_32 ?_
        refine gf_X3_22 hK (by decide) rfl (q := 17) rfl rfl dX3_codeByte_33 ?_
        refine TT_iload_n hK rfl 1 rfl dX3_codeByte_36 ?_
        refine TT_iald hK (o := 17) (n := 10) (by decide) rfl (by first | omega | (simp [up, setR] <;> omega)) (by first | omega | (simp [up, setR] <;> omega)) (v := (h 17) b) (rd_ (hG_1 17 (by decide)) rfl) dX3_codeByte_37 ?_
        have r6 := ty_17 (i := b) (v := (h 17) b) hT_1 (rd_ (hG_1 17 (by decide)) rfl) (by omega) (by omega)
        refine TT_iload_n hK rfl 2 rfl dX3_codeByte_38 ?_
        refine TT_iadd hK dX3_codeByte_39 ?_
        refine iv_X3_93 hK (s_X1_at_22 (((h 17) b) + i) g5_1 hT_1 (by first | omega | (simp [up, setR] <;> omega))) (by decide) rfl ⟨by decide, by decide⟩ (by decide) rfl rfl (Nat.le_of_ble_eq_true rfl) ⟨by decide, by decide⟩ dX3_codeByte_40 ?_
        intro r9 g40_7 hp9
        obtain ⟨⟨hT_7, hG_7⟩, z40_7, hr9, hz_7, p1_7⟩ := hp9
        rw [hr9]
        have hF_7 : FR [] h g40_7 := FR_tr hF_1 hG_7 (by decide)
        rw [show g5_1 22 1 = (h 22) 1 from rd_ (hG_1 22 (by decide)) rfl] at p1_7
        rw [show g5_1 23 = h 23 from (hG_1 23 (by decide))] at p1_7
        show TT K ly 0 0 43 [(0, vR 7), (1, vI b), (2, vI i)] [vI z40_7] g40_7
        refine TT_iret hK hQ ?_ dX3_codeByte_43
        exact ⟨⟨hT_7, hF_7⟩, z40_7, rfl, (by omega)⟩
      · refine TT_ldc hK lc_X3_78 dX3_codeByte_25 ?_
        refine TT_iret hK hQ ?_ dX3_codeByte_27
        exact ⟨⟨hT_1, hF_1⟩, (-100000), rfl, (by omega)⟩
set_option maxRecDepth 20000 in
theorem s_X3_leastLength_7 (b q : Int) (h : Hp_) (hT : TY h) (hb : -2147483648 ≤ b ∧ b ≤ 2147483647) (hq : -2147483648 ≤ q ∧ q ≤ 2147483647) : Ctr yX3_leastLength cX3_leastLength 3 (some .int) (rmd 1) ly ly 0 0 [vR 7, vI b, vI q] h (fun r h' => (TY h' ∧ FR [] h h') ∧ ∃ z : Int, r = some (vI z) ∧ (-100000 ≤ z ∧ z ≤ 1024)) := by
  refine Ctr_of (by decide) (Nat.le_of_ble_eq_true rfl) ⟨Nat.le_refl _, Nat.le_refl _⟩ (fun K hK hQ _ => ?_)
  show TT K ly 0 0 0 [(0, vR 7), (1, vI b), (2, vI q)] [] h
  have hF : FR [] h h := FR_rf _ _
  refine TT_aload_n hK rfl 0 rfl dX3_leastLength_0 ?_
  refine gf_X3_12 hK (by decide) rfl (q := 8) rfl rfl dX3_leastLength_1 ?_
  refine TT_iload_n hK rfl 1 rfl dX3_leastLength_4 ?_
  refine iv_X3_74 hK (s_X0_hasBand_8 b h hT (by first | omega | (simp [up, setR] <;> omega))) (by decide) rfl ⟨by decide, by decide⟩ (by decide) rfl rfl (Nat.le_of_ble_eq_true rfl) ⟨by decide, by decide⟩ dX3_leastLength_5 ?_
  intro r9 g5_1 hp9
  obtain ⟨⟨hT_1, hG_1⟩, z5_1, hr9, hz_1, p1_1⟩ := hp9
  rw [hr9]
  have hF_1 : FR [] h g5_1 := FR_tr hF hG_1 (by decide)
  show TT K ly 0 0 8 [(0, vR 7), (1, vI b), (2, vI q)] [vI z5_1] g5_1
  refine TT_if_eq hK (tgt := 28) (irm (by omega) (by omega)) dX3_leastLength_8 (by decide) (fun hb8_2 => ?_) (fun hb8_2 => ?_)
  · refine TT_ldc hK lc_X3_78 dX3_leastLength_28 ?_
    refine TT_iret hK hQ ?_ dX3_leastLength_30
    exact ⟨⟨hT_1, hF_1⟩, (-100000), rfl, (by omega)⟩
  · refine TT_iload_n hK rfl 2 rfl dX3_leastLength_11 ?_
    refine TT_if_lt hK (tgt := 28) (irm (by omega) (by omega)) dX3_leastLength_12 (by decide) (fun hb12_3 => ?_) (fun hb12_3 => ?_)
    · refine TT_ldc hK lc_X3_78 dX3_leastLength_28 ?_
      refine TT_iret hK hQ ?_ dX3_leastLength_30
      exact ⟨⟨hT_1, hF_1⟩, (-100000), rfl, (by omega)⟩
    · refine TT_iload_n hK rfl 2 rfl dX3_leastLength_15 ?_
      refine TT_aload_n hK rfl 0 rfl dX3_leastLength_16 ?_
      refine gf_X3_18 hK (by decide) rfl (q := 16) rfl rfl dX3_leastLength_17 ?_
      refine TT_iload_n hK rfl 1 rfl dX3_leastLength_20 ?_
      refine TT_iald hK (o := 16) (n := 10) (by decide) rfl (by first | omega | (simp [up, setR] <;> omega)) (by first | omega | (simp [up, setR] <;> omega)) (v := (h 16) b) (rd_ (hG_1 16 (by decide)) rfl) dX3_leastLength_21 ?_
      have r4 := ty_16 (i := b) (v := (h 16) b) hT_1 (rd_ (hG_1 16 (by decide)) rfl) (by omega) (by omega)
      refine iv_X3_85 hK (s_X11_passesOf ((h 16) b) g5_1 hT_1 (by first | omega | (simp [up, setR] <;> omega))) ⟨by decide, by decide⟩ (by decide) rfl rfl (Nat.le_of_ble_eq_true rfl) ⟨by decide, by decide⟩ dX3_leastLength_22 ?_
      intro r9 g22_5 hp9
      obtain ⟨⟨hT_5, hG_5⟩, z22_5, hr9, hz_5⟩ := hp9
      rw [hr9]
      have hF_5 : FR [] h g22_5 := FR_tr hF_1 hG_5 (by decide)
      show TT K ly 0 0 25 [(0, vR 7), (1, vI b), (2, vI q)] [vI z22_5, vI q] g22_5
      refine TT_icmp_le hK (tgt := 31) (irm (by omega) (by omega)) (irm (by omega) (by omega)) dX3_leastLength_25 (by decide) (fun hb25_6 => ?_) (fun hb25_6 => ?_)
      · refine TT_aload_n hK rfl 0 rfl dX3_leastLength_31 ?_
        refine gf_X3_28 hK (by decide) rfl (q := 19) rfl rfl dX3_leastLength_32 ?_
        refine TT_iload_n hK rfl 1 rfl dX3_leastLength_35 ?_
        refine TT_bipush hK (by decide) dX3_leastLength_36 ?_
        refine TT_imul hK dX3_leastLength_38 ?_
        refine TT_iload_n hK rfl 2 rfl dX3_leastLength_39 ?_
        refine TT_iadd hK dX3_leastLength_40 ?_
        refine TT_iald hK (o := 19) (n := 350) (by decide) rfl (by first | omega | (simp [up, setR] <;> omega)) (by first | omega | (simp [up, setR] <;> omega)) (v := (h 19) ((b * 35) + q)) (rd_ (((hG_5 19 (by decide))).trans (hG_1 19 (by decide))) rfl) dX3_leastLength_41 ?_
        have r7 := ty_19 (i := (b * 35) + q) (v := (h 19) ((b * 35) + q)) hT_5 (rd_ (((hG_5 19 (by decide))).trans (hG_1 19 (by decide))) rfl) (by omega) (by omega)
        refine TT_iret hK hQ ?_ dX3_leastLength_42
        exact ⟨⟨hT_5, hF_5⟩, ((h 19) ((b * 35) + q)), rfl, (by omega)⟩
      · refine TT_ldc hK lc_X3_78 dX3_leastLength_28 ?_
        refine TT_iret hK hQ ?_ dX3_leastLength_30
        exact ⟨⟨hT_5, hF_5⟩, (-100000), rfl, (by omega)⟩
set_option maxRecDepth 20000 in
theorem s_X3_numberOf_7 (b x y : Int) (h : Hp_) (hT : TY h) (hb : -2147483648 ≤ b ∧ b ≤ 2147483647) (hx : -2147483648 ≤ x ∧ x ≤ 2147483647) (hy : -2147483648 ≤ y ∧ y ≤ 2147483647) (hbd : BDQ (h 10) (h 12) (h 11) (h 13)) : Ctr yX3_numberOf cX3_numberOf 4 (some .int) (rmd 3) ly ly 0 0 [vR 7, vI b, vI x, vI y] h (fun r h' => (TY h' ∧ FR [] h h') ∧ ∃ z : Int, r = some (vI z) ∧ (-2147483648 ≤ z ∧ z ≤ 2147483647)) := by
  refine Ctr_of (by decide) (Nat.le_of_ble_eq_true rfl) ⟨Nat.le_refl _, Nat.le_refl _⟩ (fun K hK hQ _ => ?_)
  show TT K ly 0 0 0 [(0, vR 7), (1, vI b), (2, vI x), (3, vI y)] [] h
  have hF : FR [] h h := FR_rf _ _
  refine TT_aload_n hK rfl 0 rfl dX3_numberOf_0 ?_
  refine gf_X3_12 hK (by decide) rfl (q := 8) rfl rfl dX3_numberOf_1 ?_
  refine TT_iload_n hK rfl 1 rfl dX3_numberOf_4 ?_
  refine TT_iload_n hK rfl 2 rfl dX3_numberOf_5 ?_
  refine TT_iload_n hK rfl 3 rfl dX3_numberOf_6 ?_
  refine iv_X3_89 hK (s_X0_at_8 b x y h hT (by first | omega | (simp [up, setR] <;> omega)) (by first | omega | (simp [up, setR] <;> omega)) (by first | omega | (simp [up, setR] <;> omega)) (by exact hbd)) (by decide) rfl ⟨by decide, by decide⟩ (by decide) rfl rfl (Nat.le_of_ble_eq_true rfl) ⟨by decide, by decide⟩ dX3_numberOf_7 ?_
  intro r9 g7_1 hp9
  obtain ⟨⟨hT_1, hG_1⟩, z7_1, hr9, hz_1⟩ := hp9
  rw [hr9]
  have hF_1 : FR [] h g7_1 := FR_tr hF hG_1 (by decide)
  show TT K ly 0 0 10 [(0, vR 7), (1, vI b), (2, vI x), (3, vI y)] [vI z7_1] g7_1
  refine TT_iret hK hQ ?_ dX3_numberOf_10
  exact ⟨⟨hT_1, hF_1⟩, z7_1, rfl, (by omega)⟩
set_option maxRecDepth 20000 in
theorem s_X3_passesUpTo_7 (b a n : Int) (h : Hp_) (hT : TY h) (hb : 0 ≤ b ∧ b ≤ 9) (ha : 1 ≤ a ∧ a ≤ n) (hn : n ≤ 3) : Ctr yX3_passesUpTo cX3_passesUpTo 4 (some .int) (rmd 1) ly ly 0 0 [vR 7, vI b, vI a, vI n] h (fun r h' => (TY h' ∧ FR [] h h') ∧ ∃ z : Int, r = some (vI z) ∧ (0 ≤ z ∧ z ≤ 34)) := by
  refine Ctr_of (by decide) (Nat.le_of_ble_eq_true rfl) ⟨Nat.le_refl _, Nat.le_refl _⟩ (fun K hK hQ _ => ?_)
  show TT K ly 0 0 0 [(0, vR 7), (1, vI b), (2, vI a), (3, vI n)] [] h
  have hF : FR [] h h := FR_rf _ _
  refine TT_iload_n hK rfl 3 rfl dX3_passesUpTo_0 ?_
  refine TT_if_le hK (tgt := 20) (irm (by omega) (by omega)) dX3_passesUpTo_1 (by decide) (fun hb1_1 => ?_) (fun hb1_1 => ?_)
  · refine TT_iconst hK dX3_passesUpTo_20 ?_
    refine TT_iret hK hQ ?_ dX3_passesUpTo_21
    exact ⟨⟨hT, hF⟩, 0, rfl, (by omega)⟩
  · refine TT_iload_n hK rfl 2 rfl dX3_passesUpTo_4 ?_
    refine TT_aload_n hK rfl 0 rfl dX3_passesUpTo_5 ?_
    refine gf_X3_18 hK (by decide) rfl (q := 16) rfl rfl dX3_passesUpTo_6 ?_
    refine TT_iload_n hK rfl 1 rfl dX3_passesUpTo_9 ?_
    refine TT_iald hK (o := 16) (n := 10) (by decide) rfl (by first | omega | (simp [up, setR] <;> omega)) (by first | omega | (simp [up, setR] <;> omega)) (v := (h 16) b) rfl dX3_passesUpTo_10 ?_
    have r2 := ty_16 (i := b) (v := (h 16) b) hT rfl (by omega) (by omega)
    refine iv_X3_85 hK (s_X11_passesOf ((h 16) b) h hT (by first | omega | (simp [up, setR] <;> omega))) ⟨by decide, by decide⟩ (by decide) rfl rfl (Nat.le_of_ble_eq_true rfl) ⟨by decide, by decide⟩ dX3_passesUpTo_11 ?_
    intro r9 g11_3 hp9
    obtain ⟨⟨hT_3, hG_3⟩, z11_3, hr9, hz_3⟩ := hp9
    rw [hr9]
    have hF_3 : FR [] h g11_3 := FR_tr hF hG_3 (by decide)
    show TT K ly 0 0 14 [(0, vR 7), (1, vI b), (2, vI a), (3, vI n)] [vI z11_3, vI a] g11_3
    refine TT_imul hK dX3_passesUpTo_14 ?_
    refine TT_nmI (fun m9 hm9 => ?_)
    refine TT_iload_n hK rfl 3 rfl dX3_passesUpTo_15 ?_
    have hm := pu1 hm9 ha hn (by omega)
    refine TT_idivn hK (irm (by omega) (by omega)) (irm (by omega) (by omega)) (by first | omega | (simp [up, setR] <;> omega)) (by first | omega | (simp [up, setR] <;> omega)) dX3_passesUpTo_16 ?_
    refine TT_goto hK (tgt := 21) dX3_passesUpTo_17 (by decide) ?_
    refine TT_iret hK hQ ?_ dX3_passesUpTo_21
    exact ⟨⟨hT_3, hF_3⟩, (m9 / n), rfl, (by omega)⟩
set_option maxRecDepth 20000 in
theorem s_X3_planesOf_7 (b : Int) (h : Hp_) (hT : TY h) (hb : 0 ≤ b ∧ b ≤ 9) (hbd : BDQ (h 10) (h 12) (h 11) (h 13)) : Ctr yX3_planesOf cX3_planesOf 5 (some .int) (rmd 3) ly ly 0 0 [vR 7, vI b] h (fun r h' => (TY h' ∧ FR [] h h') ∧ ∃ z : Int, r = some (vI z) ∧ (0 ≤ z ∧ z ≤ 12)) := by
  refine Ctr_of (by decide) (Nat.le_of_ble_eq_true rfl) ⟨Nat.le_refl _, Nat.le_refl _⟩ (fun K hK hQ _ => ?_)
  show TT K ly 0 0 0 [(0, vR 7), (1, vI b)] [] h
  have hF : FR [] h h := FR_rf _ _
  refine TT_iconst hK dX3_planesOf_0 ?_
  refine TT_istore_n hK rfl (lv' := [(2, vI 0), (0, vR 7), (1, vI b)]) (by decide) rfl dX3_planesOf_1 ?_
  refine TT_iconst hK dX3_planesOf_2 ?_
  refine TT_istore_n hK rfl (lv' := [(3, vI 0), (2, vI 0), (0, vR 7), (1, vI b)]) (by decide) rfl dX3_planesOf_3 ?_
  have L4_1 : ∀ (k1 : Nat) (gr : Int) (y : Int) (w4_1 : Hp_), TY w4_1 → FR [] h w4_1 → (0 ≤ gr ∧ gr ≤ 2147483647) → (0 ≤ y ∧ y ≤ 8) → ((8 : Int) - y).toNat < k1 → TT K ly 0 0 4 [(0, vR 7), (1, vI b), (2, vI gr), (3, vI y)] [] w4_1 := by
    intro k1
    induction k1 with
    | zero => intro gr y w4_1 hT4_1 hF4_1 hgr hy hk1; exact absurd hk1 (Nat.not_lt_zero _)
    | succ k1 ih1 =>
      intro gr y w4_1 hT4_1 hF4_1 hgr hy hk1
      refine TT_iload_n hK rfl 3 rfl dX3_planesOf_4 ?_
      refine TT_aload_n hK rfl 0 rfl dX3_planesOf_5 ?_
      refine gf_X3_12 hK (by decide) rfl (q := 8) rfl rfl dX3_planesOf_6 ?_
      refine gf_X3_82 hK (by decide) rfl (q := 13) rfl rfl dX3_planesOf_9 ?_
      refine TT_iload_n hK rfl 1 rfl dX3_planesOf_12 ?_
      refine TT_iald hK (o := 13) (n := 10) (by decide) rfl (by first | omega | (simp [up, setR] <;> omega)) (by first | omega | (simp [up, setR] <;> omega)) (v := (h 13) b) (rd_ (hF4_1 13 (by decide)) rfl) dX3_planesOf_13 ?_
      have r2 := ty_13 (i := b) (v := (h 13) b) hT4_1 (rd_ (hF4_1 13 (by decide)) rfl) (by omega) (by omega)
      refine TT_icmp_ge hK (tgt := 65) (irm (by omega) (by omega)) (irm (by omega) (by omega)) dX3_planesOf_14 (by decide) (fun hb14_3 => ?_) (fun hb14_3 => ?_)
      · refine TT_bipush hK (by decide) dX3_planesOf_65 ?_
        refine TT_iload_n hK rfl 2 rfl dX3_planesOf_67 ?_
        refine iv_X3_147 hK (s_X11_bitsOf gr w4_1 hT4_1 (by first | omega | (simp [up, setR] <;> omega))) ⟨by decide, by decide⟩ (by decide) rfl rfl (Nat.le_of_ble_eq_true rfl) ⟨by decide, by decide⟩ dX3_planesOf_68 ?_
        intro r9 g68_4 hp9
        obtain ⟨⟨hT_4, hG_4⟩, z68_4, hr9, hz_4⟩ := hp9
        rw [hr9]
        have hF_4 : FR [] h g68_4 := FR_tr hF4_1 hG_4 (by decide)
        show TT K ly 0 0 71 [(0, vR 7), (1, vI b), (2, vI gr), (3, vI y)] [vI z68_4, vI 12] g68_4
        refine TT_mmin hK (by decide) (irm (by omega) (by omega)) iw_X3_150 (by decide) (Nat.le_of_ble_eq_true rfl) ⟨by decide, by decide⟩ dX3_planesOf_71 ?_
        refine TT_iret hK hQ ?_ dX3_planesOf_74
        exact ⟨⟨hT_4, hF_4⟩, (min 12 z68_4), rfl, (by omega)⟩
      · refine TT_iconst hK dX3_planesOf_17 ?_
        refine TT_istore hK (lv' := [(4, vI 0), (0, vR 7), (1, vI b), (2, vI gr), (3, vI y)]) (by decide) rfl dX3_planesOf_18 ?_
        have L20_5 : ∀ (k5 : Nat) (gr2 : Int) (x : Int) (w20_5 : Hp_), TY w20_5 → FR [] h w20_5 → (0 ≤ gr2 ∧ gr2 ≤ 2147483647) → (0 ≤ x ∧ x ≤ 8) → ((8 : Int) - x).toNat < k5 → TT K ly 0 0 20 [(0, vR 7), (1, vI b), (2, vI gr2), (3, vI y), (4, vI x)] [] w20_5 := by
          intro k5
          induction k5 with
          | zero => intro gr2 x w20_5 hT20_5 hF20_5 hgr2 hx hk5; exact absurd hk5 (Nat.not_lt_zero _)
          | succ k5 ih5 =>
            intro gr2 x w20_5 hT20_5 hF20_5 hgr2 hx hk5
            refine TT_iload hK 4 rfl dX3_planesOf_20 ?_
            refine TT_aload_n hK rfl 0 rfl dX3_planesOf_22 ?_
            refine gf_X3_12 hK (by decide) rfl (q := 8) rfl rfl dX3_planesOf_23 ?_
            refine gf_X3_79 hK (by decide) rfl (q := 12) rfl rfl dX3_planesOf_26 ?_
            refine TT_iload_n hK rfl 1 rfl dX3_planesOf_29 ?_
            refine TT_iald hK (o := 12) (n := 10) (by decide) rfl (by first | omega | (simp [up, setR] <;> omega)) (by first | omega | (simp [up, setR] <;> omega)) (v := (h 12) b) (rd_ (hF20_5 12 (by decide)) rfl) dX3_planesOf_30 ?_
            have r6 := ty_12 (i := b) (v := (h 12) b) hT20_5 (rd_ (hF20_5 12 (by decide)) rfl) (by omega) (by omega)
            refine TT_icmp_ge hK (tgt := 59) (irm (by omega) (by omega)) (irm (by omega) (by omega)) dX3_planesOf_31 (by decide) (fun hb31_7 => ?_) (fun hb31_7 => ?_)
            · refine TT_iinc hK (v := y + 1) (lv' := [(3, vI (y + 1)), (0, vR 7), (1, vI b), (2, vI gr2), (4, vI x)]) 3 rfl rfl (by decide) rfl dX3_planesOf_59 ?_
              refine TT_goto hK (tgt := 4) dX3_planesOf_62 (by decide) ?_
              refine TT_sub [1, 2, 3, 0] rfl ?_
              exact ih1 gr2 (y + 1) w20_5 hT20_5 hF20_5 (by first | omega | (simp [up, setR] <;> omega)) (by first | omega | (simp [up, setR] <;> omega)) (by first | omega | (simp [up, setR] <;> omega))
            · refine TT_iload_n hK rfl 2 rfl dX3_planesOf_34 ?_
              refine TT_aload_n hK rfl 0 rfl dX3_planesOf_35 ?_
              refine gf_X3_12 hK (by decide) rfl (q := 8) rfl rfl dX3_planesOf_36 ?_
              refine TT_iload_n hK rfl 1 rfl dX3_planesOf_39 ?_
              refine TT_iload hK 4 rfl dX3_planesOf_40 ?_
              refine TT_iload_n hK rfl 3 rfl dX3_planesOf_42 ?_
              have e8_10 : w20_5 10 = h 10 := (hF20_5 10 (by decide))
              have e9_11 : w20_5 11 = h 11 := (hF20_5 11 (by decide))
              have e10_12 : w20_5 12 = h 12 := (hF20_5 12 (by decide))
              have e11_13 : w20_5 13 = h 13 := (hF20_5 13 (by decide))
              refine iv_X3_89 hK (s_X0_at_8 b x y w20_5 hT20_5 (by first | omega | (simp [up, setR] <;> omega)) (by first | omega | (simp [up, setR] <;> omega)) (by first | omega | (simp [up, setR] <;> omega)) (by rw [e8_10, e9_11, e10_12, e11_13]; exact hbd)) (by decide) rfl ⟨by decide, by decide⟩ (by decide) rfl rfl (Nat.le_of_ble_eq_true rfl) ⟨by decide, by decide⟩ dX3_planesOf_43 ?_
              intro r9 g43_12 hp9
              obtain ⟨⟨hT_12, hG_12⟩, z43_12, hr9, hz_12⟩ := hp9
              rw [hr9]
              have hF_12 : FR [] h g43_12 := FR_tr hF20_5 hG_12 (by decide)
              show TT K ly 0 0 46 [(0, vR 7), (1, vI b), (2, vI gr2), (3, vI y), (4, vI x)] [vI z43_12, vI gr2] g43_12
              refine TT_mabs hK (irm (by omega) (by omega)) iw_X3_138 (by decide) (Nat.le_of_ble_eq_true rfl) ⟨by decide, by decide⟩ dX3_planesOf_46 ?_
              refine TT_w32 (fun x49_13 hx13 => ?_)
              refine TT_mmax hK (irm (by omega) (by omega)) (irm (by omega) (by omega)) iw_X3_143 (by decide) (Nat.le_of_ble_eq_true rfl) ⟨by decide, by decide⟩ dX3_planesOf_49 ?_
              refine TT_istore_n hK rfl (lv' := [(2, vI (max gr2 x49_13)), (0, vR 7), (1, vI b), (3, vI y), (4, vI x)]) (by decide) rfl dX3_planesOf_52 ?_
              refine TT_iinc hK (v := x + 1) (lv' := [(4, vI (x + 1)), (2, vI (max gr2 x49_13)), (0, vR 7), (1, vI b), (3, vI y)]) 4 rfl rfl (by decide) rfl dX3_planesOf_53 ?_
              refine TT_goto hK (tgt := 20) dX3_planesOf_56 (by decide) ?_
              refine TT_sub [2, 3, 1, 4, 0] rfl ?_
              exact ih5 (max gr2 x49_13) (x + 1) g43_12 hT_12 hF_12 (by first | omega | (simp [up, setR] <;> omega)) (by first | omega | (simp [up, setR] <;> omega)) (by first | omega | (simp [up, setR] <;> omega))
        refine TT_sub [1, 2, 3, 4, 0] rfl ?_
        exact L20_5 ((((8 : Int) - 0).toNat) + 1) gr 0 w4_1 hT4_1 hF4_1 (by first | omega | (simp [up, setR] <;> omega)) (by first | omega | (simp [up, setR] <;> omega)) (Nat.lt_succ_self _)
  refine TT_sub [2, 3, 1, 0] rfl ?_
  exact L4_1 ((((8 : Int) - 0).toNat) + 1) 0 0 h hT hF (by first | omega | (simp [up, setR] <;> omega)) (by first | omega | (simp [up, setR] <;> omega)) (Nat.lt_succ_self _)
set_option maxRecDepth 20000 in
theorem s_X3_tellBand_7 (b : Int) (h : Hp_) (hT : TY h) (hb : 0 ≤ b ∧ b ≤ 9) (hbd : BDQ (h 10) (h 12) (h 11) (h 13)) : Ctr yX3_tellBand cX3_tellBand 4 none (rmd 5) ly ly 0 0 [vR 7, vI b] h (fun r h' => (TY h' ∧ FR [17, 18, 22, 23, 24, 25, 26, 27, 28, 29, 30, 31, 32, 33, 34, 36, 37, 38] h h') ∧ r = none) := by
  refine Ctr_of (by decide) (Nat.le_of_ble_eq_true rfl) ⟨Nat.le_refl _, Nat.le_refl _⟩ (fun K hK hQ _ => ?_)
  show TT K ly 0 0 0 [(0, vR 7), (1, vI b)] [] h
  have hF : FR [17, 18, 22, 23, 24, 25, 26, 27, 28, 29, 30, 31, 32, 33, 34, 36, 37, 38] h h := FR_rf _ _
  refine TT_aload_n hK rfl 0 rfl dX3_tellBand_0 ?_
  refine gf_X3_22 hK (by decide) rfl (q := 17) rfl rfl dX3_tellBand_1 ?_
  refine TT_iload_n hK rfl 1 rfl dX3_tellBand_4 ?_
  refine TT_aload_n hK rfl 0 rfl dX3_tellBand_5 ?_
  refine gf_X3_40 hK (by decide) rfl (q := 22) rfl rfl dX3_tellBand_6 ?_
  refine iv_X3_153 hK (s_X1_length_22 h hT ) (by decide) rfl ⟨by decide, by decide⟩ (by decide) rfl rfl (Nat.le_of_ble_eq_true rfl) ⟨by decide, by decide⟩ dX3_tellBand_9 ?_
  intro r9 g9_1 hp9
  obtain ⟨⟨hT_1, hG_1⟩, z9_1, hr9, hz_1⟩ := hp9
  rw [hr9]
  have hF_1 : FR [17, 18, 22, 23, 24, 25, 26, 27, 28, 29, 30, 31, 32, 33, 34, 36, 37, 38] h g9_1 := FR_tr hF hG_1 (by decide)
  show TT K ly 0 0 12 [(0, vR 7), (1, vI b)] [vI z9_1, vI b, vR 17] g9_1
  refine TT_iast hK (o := 17) (n := 10) (by decide) rfl (by omega) (by omega) dX3_tellBand_12 ?_
  refine TT_hp (h' := setO g9_1 17 (fup (h 17) b z9_1)) (up_can (hG_1 17 (by decide)) rfl rfl) ?_
  have hT_2 : TY (setO g9_1 17 (fup (h 17) b z9_1)) := tu_17 hT_1 (show up g9_1 17 b z9_1 = (setO g9_1 17 (fup (h 17) b z9_1)) from up_can (hG_1 17 (by decide)) rfl rfl) (by omega)
  have hF_2 : FR [17, 18, 22, 23, 24, 25, 26, 27, 28, 29, 30, 31, 32, 33, 34, 36, 37, 38] h (setO g9_1 17 (fup (h 17) b z9_1)) := FR_up (show up g9_1 17 b z9_1 = (setO g9_1 17 (fup (h 17) b z9_1)) from up_can (hG_1 17 (by decide)) rfl rfl) hF_1 (by decide)
  refine TT_aload_n hK rfl 0 rfl dX3_tellBand_13 ?_
  refine gf_X3_25 hK (by decide) rfl (q := 18) rfl rfl dX3_tellBand_14 ?_
  refine TT_iload_n hK rfl 1 rfl dX3_tellBand_17 ?_
  refine TT_iconst hK dX3_tellBand_18 ?_
  refine TT_iast hK (o := 18) (n := 10) (by decide) rfl (by omega) (by omega) dX3_tellBand_19 ?_
  refine TT_hp (h' := setO (setO g9_1 17 (fup (h 17) b z9_1)) 18 (fup (h 18) b 0)) (up_can ((sOf_ne _ _ (by decide)).trans (hG_1 18 (by decide))) rfl rfl) ?_
  have hT_3 : TY (setO (setO g9_1 17 (fup (h 17) b z9_1)) 18 (fup (h 18) b 0)) := tu_18 hT_2 (show up (setO g9_1 17 (fup (h 17) b z9_1)) 18 b 0 = (setO (setO g9_1 17 (fup (h 17) b z9_1)) 18 (fup (h 18) b 0)) from up_can ((sOf_ne _ _ (by decide)).trans (hG_1 18 (by decide))) rfl rfl) (by omega)
  have hF_3 : FR [17, 18, 22, 23, 24, 25, 26, 27, 28, 29, 30, 31, 32, 33, 34, 36, 37, 38] h (setO (setO g9_1 17 (fup (h 17) b z9_1)) 18 (fup (h 18) b 0)) := FR_up (show up (setO g9_1 17 (fup (h 17) b z9_1)) 18 b 0 = (setO (setO g9_1 17 (fup (h 17) b z9_1)) 18 (fup (h 18) b 0)) from up_can ((sOf_ne _ _ (by decide)).trans (hG_1 18 (by decide))) rfl rfl) hF_2 (by decide)
  refine TT_aload_n hK rfl 0 rfl dX3_tellBand_20 ?_
  refine gf_X3_47 hK (by decide) rfl (q := 24) rfl rfl dX3_tellBand_21 ?_
  refine iv_X3_157 hK (s_X7_clear_24 (setO (setO g9_1 17 (fup (h 17) b z9_1)) 18 (fup (h 18) b 0)) hT_3 ) (by decide) rfl ⟨by decide, by decide⟩ (by decide) rfl rfl (Nat.le_of_ble_eq_true rfl) ⟨by decide, by decide⟩ dX3_tellBand_24 ?_
  intro r9 g24_4 hp9
  obtain ⟨⟨hT_4, hG_4⟩, hr9⟩ := hp9
  rw [hr9]
  have hF_4 : FR [17, 18, 22, 23, 24, 25, 26, 27, 28, 29, 30, 31, 32, 33, 34, 36, 37, 38] h g24_4 := FR_tr hF_3 hG_4 (by decide)
  show TT K ly 0 0 27 [(0, vR 7), (1, vI b)] [] g24_4
  refine TT_aload_n hK rfl 0 rfl dX3_tellBand_27 ?_
  refine gf_X3_18 hK (by decide) rfl (q := 16) rfl rfl dX3_tellBand_28 ?_
  refine TT_iload_n hK rfl 1 rfl dX3_tellBand_31 ?_
  refine TT_iald hK (o := 16) (n := 10) (by decide) rfl (by first | omega | (simp [up, setR] <;> omega)) (by first | omega | (simp [up, setR] <;> omega)) (v := (h 16) b) (rd_ (((hG_4 16 (by decide))).trans ((sOf_ne _ _ (by decide)).trans ((sOf_ne _ _ (by decide)).trans (hG_1 16 (by decide))))) rfl) dX3_tellBand_32 ?_
  have r5 := ty_16 (i := b) (v := (h 16) b) hT_4 (rd_ (((hG_4 16 (by decide))).trans ((sOf_ne _ _ (by decide)).trans ((sOf_ne _ _ (by decide)).trans (hG_1 16 (by decide))))) rfl) (by omega) (by omega)
  refine TT_if_ne hK (tgt := 37) (irm (by omega) (by omega)) dX3_tellBand_33 (by decide) (fun hb33_6 => ?_) (fun hb33_6 => ?_)
  · refine TT_aload_n hK rfl 0 rfl dX3_tellBand_37 ?_
    refine gf_X3_56 hK (by decide) rfl (q := 28) rfl rfl dX3_tellBand_38 ?_
    refine TT_aload_n hK rfl 0 rfl dX3_tellBand_41 ?_
    refine gf_X3_12 hK (by decide) rfl (q := 8) rfl rfl dX3_tellBand_42 ?_
    refine gf_X3_79 hK (by decide) rfl (q := 12) rfl rfl dX3_tellBand_45 ?_
    refine TT_iload_n hK rfl 1 rfl dX3_tellBand_48 ?_
    refine TT_iald hK (o := 12) (n := 10) (by decide) rfl (by first | omega | (simp [up, setR] <;> omega)) (by first | omega | (simp [up, setR] <;> omega)) (v := (h 12) b) (rd_ (((hG_4 12 (by decide))).trans ((sOf_ne _ _ (by decide)).trans ((sOf_ne _ _ (by decide)).trans (hG_1 12 (by decide))))) rfl) dX3_tellBand_49 ?_
    have r7 := ty_12 (i := b) (v := (h 12) b) hT_4 (rd_ (((hG_4 12 (by decide))).trans ((sOf_ne _ _ (by decide)).trans ((sOf_ne _ _ (by decide)).trans (hG_1 12 (by decide))))) rfl) (by omega) (by omega)
    refine TT_aload_n hK rfl 0 rfl dX3_tellBand_50 ?_
    refine gf_X3_12 hK (by decide) rfl (q := 8) rfl rfl dX3_tellBand_51 ?_
    refine gf_X3_82 hK (by decide) rfl (q := 13) rfl rfl dX3_tellBand_54 ?_
    refine TT_iload_n hK rfl 1 rfl dX3_tellBand_57 ?_
    refine TT_iald hK (o := 13) (n := 10) (by decide) rfl (by first | omega | (simp [up, setR] <;> omega)) (by first | omega | (simp [up, setR] <;> omega)) (v := (h 13) b) (rd_ (((hG_4 13 (by decide))).trans ((sOf_ne _ _ (by decide)).trans ((sOf_ne _ _ (by decide)).trans (hG_1 13 (by decide))))) rfl) dX3_tellBand_58 ?_
    have r8 := ty_13 (i := b) (v := (h 13) b) hT_4 (rd_ (((hG_4 13 (by decide))).trans ((sOf_ne _ _ (by decide)).trans ((sOf_ne _ _ (by decide)).trans (hG_1 13 (by decide))))) rfl) (by omega) (by omega)
    refine TT_aload_n hK rfl 0 rfl dX3_tellBand_59 ?_
    refine gf_X3_12 hK (by decide) rfl (q := 8) rfl rfl dX3_tellBand_60 ?_
    refine TT_iload_n hK rfl 1 rfl dX3_tellBand_63 ?_
    refine iv_X3_158 hK (s_X0_kindOf_8 b g24_4 hT_4 (by first | omega | (simp [up, setR] <;> omega))) (by decide) rfl ⟨by decide, by decide⟩ (by decide) rfl rfl (Nat.le_of_ble_eq_true rfl) ⟨by decide, by decide⟩ dX3_tellBand_64 ?_
    intro r9 g64_9 hp9
    obtain ⟨⟨hT_9, hG_9⟩, z64_9, hr9, hz_9⟩ := hp9
    rw [hr9]
    have hF_9 : FR [17, 18, 22, 23, 24, 25, 26, 27, 28, 29, 30, 31, 32, 33, 34, 36, 37, 38] h g64_9 := FR_tr hF_4 hG_9 (by decide)
    show TT K ly 0 0 67 [(0, vR 7), (1, vI b)] [vI z64_9, vI ((h 13) b), vI ((h 12) b), vR 28] g64_9
    refine iv_X3_161 hK (s_X4_begin_28 ((h 12) b) ((h 13) b) z64_9 g64_9 hT_9 (by first | omega | (simp [up, setR] <;> omega)) (by first | omega | (simp [up, setR] <;> omega)) (by first | omega | (simp [up, setR] <;> omega))) (by decide) rfl ⟨by decide, by decide⟩ (by decide) rfl rfl (Nat.le_of_ble_eq_true rfl) ⟨by decide, by decide⟩ dX3_tellBand_67 ?_
    intro r9 g67_10 hp9
    obtain ⟨⟨hT_10, hG_10⟩, hr9⟩ := hp9
    rw [hr9]
    have hF_10 : FR [17, 18, 22, 23, 24, 25, 26, 27, 28, 29, 30, 31, 32, 33, 34, 36, 37, 38] h g67_10 := FR_tr hF_9 hG_10 (by decide)
    show TT K ly 0 0 70 [(0, vR 7), (1, vI b)] [] g67_10
    refine TT_iconst hK dX3_tellBand_70 ?_
    refine TT_istore_n hK rfl (lv' := [(2, vI 0), (0, vR 7), (1, vI b)]) (by decide) rfl dX3_tellBand_71 ?_
    have L72_11 : ∀ (k11 : Nat) (y : Int) (w72_11 : Hp_), TY w72_11 → FR [17, 18, 22, 23, 24, 25, 26, 27, 28, 29, 30, 31, 32, 33, 34, 36, 37, 38] h w72_11 → (0 ≤ y ∧ y ≤ 8) → ((8 : Int) - y).toNat < k11 → TT K ly 0 0 72 [(0, vR 7), (1, vI b), (2, vI y)] [] w72_11 := by
      intro k11
      induction k11 with
      | zero => intro y w72_11 hT72_11 hF72_11 hy hk11; exact absurd hk11 (Nat.not_lt_zero _)
      | succ k11 ih11 =>
        intro y w72_11 hT72_11 hF72_11 hy hk11
        refine TT_iload_n hK rfl 2 rfl dX3_tellBand_72 ?_
        refine TT_aload_n hK rfl 0 rfl dX3_tellBand_73 ?_
        refine gf_X3_12 hK (by decide) rfl (q := 8) rfl rfl dX3_tellBand_74 ?_
        refine gf_X3_82 hK (by decide) rfl (q := 13) rfl rfl dX3_tellBand_77 ?_
        refine TT_iload_n hK rfl 1 rfl dX3_tellBand_80 ?_
        refine TT_iald hK (o := 13) (n := 10) (by decide) rfl (by first | omega | (simp [up, setR] <;> omega)) (by first | omega | (simp [up, setR] <;> omega)) (v := (h 13) b) (rd_ (hF72_11 13 (by decide)) rfl) dX3_tellBand_81 ?_
        have r12 := ty_13 (i := b) (v := (h 13) b) hT72_11 (rd_ (hF72_11 13 (by decide)) rfl) (by omega) (by omega)
        refine TT_icmp_ge hK (tgt := 131) (irm (by omega) (by omega)) (irm (by omega) (by omega)) dX3_tellBand_82 (by decide) (fun hb82_13 => ?_) (fun hb82_13 => ?_)
        · refine TT_iconst hK dX3_tellBand_131 ?_
          refine TT_istore_n hK rfl (lv' := [(2, vI 0), (0, vR 7), (1, vI b)]) (by decide) rfl dX3_tellBand_132 ?_
          have L133_14 : ∀ (k14 : Nat) (k : Int) (w133_14 : Hp_), TY w133_14 → FR [17, 18, 22, 23, 24, 25, 26, 27, 28, 29, 30, 31, 32, 33, 34, 36, 37, 38] h w133_14 → (0 ≤ k ∧ k ≤ 34) → ((34 : Int) - k).toNat < k14 → TT K ly 0 0 133 [(0, vR 7), (1, vI b), (2, vI k)] [] w133_14 := by
            intro k14
            induction k14 with
            | zero => intro k w133_14 hT133_14 hF133_14 hk hk14; exact absurd hk14 (Nat.not_lt_zero _)
            | succ k14 ih14 =>
              intro k w133_14 hT133_14 hF133_14 hk hk14
              refine TT_iload_n hK rfl 2 rfl dX3_tellBand_133 ?_
              refine TT_aload_n hK rfl 0 rfl dX3_tellBand_134 ?_
              refine gf_X3_18 hK (by decide) rfl (q := 16) rfl rfl dX3_tellBand_135 ?_
              refine TT_iload_n hK rfl 1 rfl dX3_tellBand_138 ?_
              refine TT_iald hK (o := 16) (n := 10) (by decide) rfl (by first | omega | (simp [up, setR] <;> omega)) (by first | omega | (simp [up, setR] <;> omega)) (v := (h 16) b) (rd_ (hF133_14 16 (by decide)) rfl) dX3_tellBand_139 ?_
              have r15 := ty_16 (i := b) (v := (h 16) b) hT133_14 (rd_ (hF133_14 16 (by decide)) rfl) (by omega) (by omega)
              refine iv_X3_85 hK (s_X11_passesOf ((h 16) b) w133_14 hT133_14 (by first | omega | (simp [up, setR] <;> omega))) ⟨by decide, by decide⟩ (by decide) rfl rfl (Nat.le_of_ble_eq_true rfl) ⟨by decide, by decide⟩ dX3_tellBand_140 ?_
              intro r9 g140_16 hp9
              obtain ⟨⟨hT_16, hG_16⟩, z140_16, hr9, hz_16⟩ := hp9
              rw [hr9]
              have hF_16 : FR [17, 18, 22, 23, 24, 25, 26, 27, 28, 29, 30, 31, 32, 33, 34, 36, 37, 38] h g140_16 := FR_tr hF133_14 hG_16 (by decide)
              show TT K ly 0 0 143 [(0, vR 7), (1, vI b), (2, vI k)] [vI z140_16, vI k] g140_16
              refine TT_icmp_ge hK (tgt := 173) (irm (by omega) (by omega)) (irm (by omega) (by omega)) dX3_tellBand_143 (by decide) (fun hb143_17 => ?_) (fun hb143_17 => ?_)
              · refine TT_aload_n hK rfl 0 rfl dX3_tellBand_173 ?_
                refine gf_X3_63 hK (by decide) rfl (q := 34) rfl rfl dX3_tellBand_174 ?_
                refine iv_X3_174 hK (s_X8_begin_34 g140_16 hT_16 ) (by decide) rfl ⟨by decide, by decide⟩ (by decide) rfl rfl (Nat.le_of_ble_eq_true rfl) ⟨by decide, by decide⟩ dX3_tellBand_177 ?_
                intro r9 g177_18 hp9
                obtain ⟨⟨hT_18, hG_18⟩, hr9, p1_18, p2_18⟩ := hp9
                rw [hr9]
                have hF_18 : FR [17, 18, 22, 23, 24, 25, 26, 27, 28, 29, 30, 31, 32, 33, 34, 36, 37, 38] h g177_18 := FR_tr hF_16 hG_18 (by decide)
                show TT K ly 0 0 180 [(0, vR 7), (1, vI b), (2, vI k)] [] g177_18
                refine TT_aload_n hK rfl 0 rfl dX3_tellBand_180 ?_
                refine gf_X3_47 hK (by decide) rfl (q := 24) rfl rfl dX3_tellBand_181 ?_
                refine TT_aload_n hK rfl 0 rfl dX3_tellBand_184 ?_
                refine gf_X3_63 hK (by decide) rfl (q := 34) rfl rfl dX3_tellBand_185 ?_
                have e19_34_5 : g177_18 34 5 = (g177_18 34) 5 := rfl
                have e20_34_2 : g177_18 34 2 = (g177_18 34) 2 := rfl
                refine iv_X3_176 hK (s_X7_tellTo_24 g177_18 hT_18 (by rw [e19_34_5]; first | omega | (simp [up, setR] <;> omega)) (by rw [e20_34_2]; first | omega | (simp [up, setR] <;> omega))) (by decide) rfl ⟨by decide, by decide⟩ (by decide) rfl rfl (Nat.le_of_ble_eq_true rfl) ⟨by decide, by decide⟩ dX3_tellBand_188 ?_
                intro r9 g188_21 hp9
                obtain ⟨⟨hT_21, hG_21⟩, hr9, p1_21, p2_21⟩ := hp9
                rw [hr9]
                have hF_21 : FR [17, 18, 22, 23, 24, 25, 26, 27, 28, 29, 30, 31, 32, 33, 34, 36, 37, 38] h g188_21 := FR_tr hF_18 hG_21 (by decide)
                show TT K ly 0 0 191 [(0, vR 7), (1, vI b), (2, vI k)] [] g188_21
                refine TT_aload_n hK rfl 0 rfl dX3_tellBand_191 ?_
                refine gf_X3_63 hK (by decide) rfl (q := 34) rfl rfl dX3_tellBand_192 ?_
                have e22_34_5 : g188_21 34 5 = (g188_21 34) 5 := rfl
                have e23_34_2 : g188_21 34 2 = (g188_21 34) 2 := rfl
                refine iv_X3_180 hK (s_X8_end_34 g188_21 hT_21 (by rw [e22_34_5]; first | omega | (simp [up, setR] <;> omega)) (by rw [e23_34_2]; first | omega | (simp [up, setR] <;> omega))) (by decide) rfl ⟨by decide, by decide⟩ (by decide) rfl rfl (Nat.le_of_ble_eq_true rfl) ⟨by decide, by decide⟩ dX3_tellBand_195 ?_
                intro r9 g195_24 hp9
                obtain ⟨⟨hT_24, hG_24⟩, hr9, p1_24, p2_24⟩ := hp9
                rw [hr9]
                have hF_24 : FR [17, 18, 22, 23, 24, 25, 26, 27, 28, 29, 30, 31, 32, 33, 34, 36, 37, 38] h g195_24 := FR_tr hF_21 hG_24 (by decide)
                show TT K ly 0 0 198 [(0, vR 7), (1, vI b), (2, vI k)] [] g195_24
                refine TT_aload_n hK rfl 0 rfl dX3_tellBand_198 ?_
                refine gf_X3_25 hK (by decide) rfl (q := 18) rfl rfl dX3_tellBand_199 ?_
                refine TT_iload_n hK rfl 1 rfl dX3_tellBand_202 ?_
                refine TT_aload_n hK rfl 0 rfl dX3_tellBand_203 ?_
                refine gf_X3_63 hK (by decide) rfl (q := 34) rfl rfl dX3_tellBand_204 ?_
                refine TT_aload_n hK rfl 0 rfl dX3_tellBand_207 ?_
                refine gf_X3_40 hK (by decide) rfl (q := 22) rfl rfl dX3_tellBand_208 ?_
                have e25_34_2 : g195_24 34 2 = (g195_24 34) 2 := rfl
                refine iv_X3_183 hK (s_X8_addBytesTo_34 g195_24 hT_24 (by rw [e25_34_2]; first | omega | (simp [up, setR] <;> omega))) (by decide) rfl ⟨by decide, by decide⟩ (by decide) rfl rfl (Nat.le_of_ble_eq_true rfl) ⟨by decide, by decide⟩ dX3_tellBand_211 ?_
                intro r9 g211_26 hp9
                obtain ⟨⟨hT_26, hG_26⟩, z211_26, hr9, hz_26⟩ := hp9
                rw [hr9]
                have hF_26 : FR [17, 18, 22, 23, 24, 25, 26, 27, 28, 29, 30, 31, 32, 33, 34, 36, 37, 38] h g211_26 := FR_tr hF_24 hG_26 (by decide)
                show TT K ly 0 0 214 [(0, vR 7), (1, vI b), (2, vI k)] [vI z211_26, vI b, vR 18] g211_26
                refine TT_iast hK (o := 18) (n := 10) (by decide) rfl (by omega) (by omega) dX3_tellBand_214 ?_
                refine TT_hp (h' := setO g211_26 18 (fup (w133_14 18) b z211_26)) (up_can (((hG_26 18 (by decide))).trans (((hG_24 18 (by decide))).trans (((hG_21 18 (by decide))).trans (((hG_18 18 (by decide))).trans (hG_16 18 (by decide)))))) rfl rfl) ?_
                have hT_27 : TY (setO g211_26 18 (fup (w133_14 18) b z211_26)) := tu_18 hT_26 (show up g211_26 18 b z211_26 = (setO g211_26 18 (fup (w133_14 18) b z211_26)) from up_can (((hG_26 18 (by decide))).trans (((hG_24 18 (by decide))).trans (((hG_21 18 (by decide))).trans (((hG_18 18 (by decide))).trans (hG_16 18 (by decide)))))) rfl rfl) (by omega)
                have hF_27 : FR [17, 18, 22, 23, 24, 25, 26, 27, 28, 29, 30, 31, 32, 33, 34, 36, 37, 38] h (setO g211_26 18 (fup (w133_14 18) b z211_26)) := FR_up (show up g211_26 18 b z211_26 = (setO g211_26 18 (fup (w133_14 18) b z211_26)) from up_can (((hG_26 18 (by decide))).trans (((hG_24 18 (by decide))).trans (((hG_21 18 (by decide))).trans (((hG_18 18 (by decide))).trans (hG_16 18 (by decide)))))) rfl rfl) hF_26 (by decide)
                refine TT_vret hK hQ ?_ dX3_tellBand_215
                exact ⟨⟨hT_27, hF_27⟩, rfl⟩
              · refine TT_aload_n hK rfl 0 rfl dX3_tellBand_146 ?_
                refine gf_X3_56 hK (by decide) rfl (q := 28) rfl rfl dX3_tellBand_147 ?_
                refine TT_iload_n hK rfl 2 rfl dX3_tellBand_150 ?_
                refine TT_aload_n hK rfl 0 rfl dX3_tellBand_151 ?_
                refine gf_X3_18 hK (by decide) rfl (q := 16) rfl rfl dX3_tellBand_152 ?_
                refine TT_iload_n hK rfl 1 rfl dX3_tellBand_155 ?_
                refine TT_iald hK (o := 16) (n := 10) (by decide) rfl (by first | omega | (simp [up, setR] <;> omega)) (by first | omega | (simp [up, setR] <;> omega)) (v := (h 16) b) (rd_ (((hG_16 16 (by decide))).trans (hF133_14 16 (by decide))) rfl) dX3_tellBand_156 ?_
                refine iv_X3_167 hK (s_X4_runPass_28 k ((h 16) b) g140_16 hT_16 (by first | omega | (simp [up, setR] <;> omega)) (by first | omega | (simp [up, setR] <;> omega))) (by decide) rfl ⟨by decide, by decide⟩ (by decide) rfl rfl (Nat.le_of_ble_eq_true rfl) ⟨by decide, by decide⟩ dX3_tellBand_157 ?_
                intro r9 g157_28 hp9
                obtain ⟨⟨hT_28, hG_28⟩, hr9⟩ := hp9
                rw [hr9]
                have hF_28 : FR [17, 18, 22, 23, 24, 25, 26, 27, 28, 29, 30, 31, 32, 33, 34, 36, 37, 38] h g157_28 := FR_tr hF_16 hG_28 (by decide)
                show TT K ly 0 0 160 [(0, vR 7), (1, vI b), (2, vI k)] [] g157_28
                refine TT_aload_n hK rfl 0 rfl dX3_tellBand_160 ?_
                refine gf_X3_47 hK (by decide) rfl (q := 24) rfl rfl dX3_tellBand_161 ?_
                refine iv_X3_171 hK (s_X7_endPass_24 g157_28 hT_28 ) (by decide) rfl ⟨by decide, by decide⟩ (by decide) rfl rfl (Nat.le_of_ble_eq_true rfl) ⟨by decide, by decide⟩ dX3_tellBand_164 ?_
                intro r9 g164_29 hp9
                obtain ⟨⟨hT_29, hG_29⟩, hr9⟩ := hp9
                rw [hr9]
                have hF_29 : FR [17, 18, 22, 23, 24, 25, 26, 27, 28, 29, 30, 31, 32, 33, 34, 36, 37, 38] h g164_29 := FR_tr hF_28 hG_29 (by decide)
                show TT K ly 0 0 167 [(0, vR 7), (1, vI b), (2, vI k)] [] g164_29
                refine TT_iinc hK (v := k + 1) (lv' := [(2, vI (k + 1)), (0, vR 7), (1, vI b)]) 2 rfl rfl (by decide) rfl dX3_tellBand_167 ?_
                refine TT_goto hK (tgt := 133) dX3_tellBand_170 (by decide) ?_
                refine TT_sub [1, 2, 0] rfl ?_
                exact ih14 (k + 1) g164_29 hT_29 hF_29 (by first | omega | (simp [up, setR] <;> omega)) (by first | omega | (simp [up, setR] <;> omega))
          refine TT_sub [1, 2, 0] rfl ?_
          exact L133_14 ((((34 : Int) - 0).toNat) + 1) 0 w72_11 hT72_11 hF72_11 (by first | omega | (simp [up, setR] <;> omega)) (Nat.lt_succ_self _)
        · refine TT_iconst hK dX3_tellBand_85 ?_
          refine TT_istore_n hK rfl (lv' := [(3, vI 0), (0, vR 7), (1, vI b), (2, vI y)]) (by decide) rfl dX3_tellBand_86 ?_
          have L87_30 : ∀ (k30 : Nat) (x : Int) (w87_30 : Hp_), TY w87_30 → FR [17, 18, 22, 23, 24, 25, 26, 27, 28, 29, 30, 31, 32, 33, 34, 36, 37, 38] h w87_30 → (0 ≤ x ∧ x ≤ 8) → ((8 : Int) - x).toNat < k30 → TT K ly 0 0 87 [(0, vR 7), (1, vI b), (2, vI y), (3, vI x)] [] w87_30 := by
            intro k30
            induction k30 with
            | zero => intro x w87_30 hT87_30 hF87_30 hx hk30; exact absurd hk30 (Nat.not_lt_zero _)
            | succ k30 ih30 =>
              intro x w87_30 hT87_30 hF87_30 hx hk30
              refine TT_iload_n hK rfl 3 rfl dX3_tellBand_87 ?_
              refine TT_aload_n hK rfl 0 rfl dX3_tellBand_88 ?_
              refine gf_X3_12 hK (by decide) rfl (q := 8) rfl rfl dX3_tellBand_89 ?_
              refine gf_X3_79 hK (by decide) rfl (q := 12) rfl rfl dX3_tellBand_92 ?_
              refine TT_iload_n hK rfl 1 rfl dX3_tellBand_95 ?_
              refine TT_iald hK (o := 12) (n := 10) (by decide) rfl (by first | omega | (simp [up, setR] <;> omega)) (by first | omega | (simp [up, setR] <;> omega)) (v := (h 12) b) (rd_ (hF87_30 12 (by decide)) rfl) dX3_tellBand_96 ?_
              have r31 := ty_12 (i := b) (v := (h 12) b) hT87_30 (rd_ (hF87_30 12 (by decide)) rfl) (by omega) (by omega)
              refine TT_icmp_ge hK (tgt := 125) (irm (by omega) (by omega)) (irm (by omega) (by omega)) dX3_tellBand_97 (by decide) (fun hb97_32 => ?_) (fun hb97_32 => ?_)
              · refine TT_iinc hK (v := y + 1) (lv' := [(2, vI (y + 1)), (0, vR 7), (1, vI b), (3, vI x)]) 2 rfl rfl (by decide) rfl dX3_tellBand_125 ?_
                refine TT_goto hK (tgt := 72) dX3_tellBand_128 (by decide) ?_
                refine TT_sub [1, 2, 0] rfl ?_
                exact ih11 (y + 1) w87_30 hT87_30 hF87_30 (by first | omega | (simp [up, setR] <;> omega)) (by first | omega | (simp [up, setR] <;> omega))
              · refine TT_aload_n hK rfl 0 rfl dX3_tellBand_100 ?_
                refine gf_X3_56 hK (by decide) rfl (q := 28) rfl rfl dX3_tellBand_101 ?_
                refine TT_iload_n hK rfl 3 rfl dX3_tellBand_104 ?_
                refine TT_iload_n hK rfl 2 rfl dX3_tellBand_105 ?_
                refine TT_aload_n hK rfl 0 rfl dX3_tellBand_106 ?_
                refine gf_X3_12 hK (by decide) rfl (q := 8) rfl rfl dX3_tellBand_107 ?_
                refine TT_iload_n hK rfl 1 rfl dX3_tellBand_110 ?_
                refine TT_iload_n hK rfl 3 rfl dX3_tellBand_111 ?_
                refine TT_iload_n hK rfl 2 rfl dX3_tellBand_112 ?_
                have e33_10 : w87_30 10 = h 10 := (hF87_30 10 (by decide))
                have e34_11 : w87_30 11 = h 11 := (hF87_30 11 (by decide))
                have e35_12 : w87_30 12 = h 12 := (hF87_30 12 (by decide))
                have e36_13 : w87_30 13 = h 13 := (hF87_30 13 (by decide))
                refine iv_X3_89 hK (s_X0_at_8 b x y w87_30 hT87_30 (by first | omega | (simp [up, setR] <;> omega)) (by first | omega | (simp [up, setR] <;> omega)) (by first | omega | (simp [up, setR] <;> omega)) (by rw [e33_10, e34_11, e35_12, e36_13]; exact hbd)) (by decide) rfl ⟨by decide, by decide⟩ (by decide) rfl rfl (Nat.le_of_ble_eq_true rfl) ⟨by decide, by decide⟩ dX3_tellBand_113 ?_
                intro r9 g113_37 hp9
                obtain ⟨⟨hT_37, hG_37⟩, z113_37, hr9, hz_37⟩ := hp9
                rw [hr9]
                have hF_37 : FR [17, 18, 22, 23, 24, 25, 26, 27, 28, 29, 30, 31, 32, 33, 34, 36, 37, 38] h g113_37 := FR_tr hF87_30 hG_37 (by decide)
                show TT K ly 0 0 116 [(0, vR 7), (1, vI b), (2, vI y), (3, vI x)] [vI z113_37, vI y, vI x, vR 28] g113_37
                refine iv_X3_164 hK (s_X4_mean_28 x y z113_37 g113_37 hT_37 (by first | omega | (simp [up, setR] <;> omega)) (by first | omega | (simp [up, setR] <;> omega)) (by first | omega | (simp [up, setR] <;> omega))) (by decide) rfl ⟨by decide, by decide⟩ (by decide) rfl rfl (Nat.le_of_ble_eq_true rfl) ⟨by decide, by decide⟩ dX3_tellBand_116 ?_
                intro r9 g116_38 hp9
                obtain ⟨⟨hT_38, hG_38⟩, hr9⟩ := hp9
                rw [hr9]
                have hF_38 : FR [17, 18, 22, 23, 24, 25, 26, 27, 28, 29, 30, 31, 32, 33, 34, 36, 37, 38] h g116_38 := FR_tr hF_37 hG_38 (by decide)
                show TT K ly 0 0 119 [(0, vR 7), (1, vI b), (2, vI y), (3, vI x)] [] g116_38
                refine TT_iinc hK (v := x + 1) (lv' := [(3, vI (x + 1)), (0, vR 7), (1, vI b), (2, vI y)]) 3 rfl rfl (by decide) rfl dX3_tellBand_119 ?_
                refine TT_goto hK (tgt := 87) dX3_tellBand_122 (by decide) ?_
                refine TT_sub [1, 2, 3, 0] rfl ?_
                exact ih30 (x + 1) g116_38 hT_38 hF_38 (by first | omega | (simp [up, setR] <;> omega)) (by first | omega | (simp [up, setR] <;> omega))
          refine TT_sub [1, 2, 3, 0] rfl ?_
          exact L87_30 ((((8 : Int) - 0).toNat) + 1) 0 w72_11 hT72_11 hF72_11 (by first | omega | (simp [up, setR] <;> omega)) (Nat.lt_succ_self _)
    refine TT_sub [1, 2, 0] rfl ?_
    exact L72_11 ((((8 : Int) - 0).toNat) + 1) 0 g67_10 hT_10 hF_10 (by first | omega | (simp [up, setR] <;> omega)) (Nat.lt_succ_self _)
  · refine TT_vret hK hQ ?_ dX3_tellBand_36
    exact ⟨⟨hT_4, hF_4⟩, rfl⟩
set_option maxRecDepth 20000 in
theorem s_X3_findLeasts_7 (b : Int) (h : Hp_) (hT : TY h) (hb : 0 ≤ b ∧ b ≤ 9) : Ctr yX3_findLeasts cX3_findLeasts 7 none (rmd 3) ly ly 0 0 [vR 7, vI b] h (fun r h' => (TY h' ∧ FR [19, 39, 41, 42, 43] h h') ∧ r = none) := by
  refine Ctr_of (by decide) (Nat.le_of_ble_eq_true rfl) ⟨Nat.le_refl _, Nat.le_refl _⟩ (fun K hK hQ _ => ?_)
  show TT K ly 0 0 0 [(0, vR 7), (1, vI b)] [] h
  have hF : FR [19, 39, 41, 42, 43] h h := FR_rf _ _
  refine TT_iload_n hK rfl 1 rfl dX3_findLeasts_0 ?_
  refine TT_bipush hK (by decide) dX3_findLeasts_1 ?_
  refine TT_imul hK dX3_findLeasts_3 ?_
  refine TT_istore_n hK rfl (lv' := [(2, vI (b * 35)), (0, vR 7), (1, vI b)]) (by decide) rfl dX3_findLeasts_4 ?_
  refine TT_aload_n hK rfl 1 rfl dX3_findLeasts_5 ?_
  refine gf_X3_18 hK (by decide) rfl (q := 16) rfl rfl dX3_findLeasts_6 ?_
  refine TT_iload_n hK rfl 2 rfl dX3_findLeasts_9 ?_
  refine TT_iald hK (o := 16) (n := 10) (by decide) rfl (by first | omega | (simp [up, setR] <;> omega)) (by first | omega | (simp [up, setR] <;> omega)) (v := (h 16) b) rfl dX3_findLeasts_10 ?_
  have r1 := ty_16 (i := b) (v := (h 16) b) hT rfl (by omega) (by omega)
  refine iv_X3_85 hK (s_X11_passesOf ((h 16) b) h hT (by first | omega | (simp [up, setR] <;> omega))) ⟨by decide, by decide⟩ (by decide) rfl rfl (Nat.le_of_ble_eq_true rfl) ⟨by decide, by decide⟩ dX3_findLeasts_11 ?_
  intro r9 g11_2 hp9
  obtain ⟨⟨hT_2, hG_2⟩, z11_2, hr9, hz_2⟩ := hp9
  rw [hr9]
  have hF_2 : FR [19, 39, 41, 42, 43] h g11_2 := FR_tr hF hG_2 (by decide)
  show TT K ly 0 0 14 [(2, vI (b * 35)), (0, vR 7), (1, vI b)] [vI z11_2] g11_2
  refine TT_istore_n hK rfl (lv' := [(3, vI z11_2), (2, vI (b * 35)), (0, vR 7), (1, vI b)]) (by decide) rfl dX3_findLeasts_14 ?_
  refine TT_aload_n hK rfl 2 rfl dX3_findLeasts_15 ?_
  refine gf_X3_28 hK (by decide) rfl (q := 19) rfl rfl dX3_findLeasts_16 ?_
  refine TT_iload_n hK rfl 1 rfl dX3_findLeasts_19 ?_
  refine TT_iconst hK dX3_findLeasts_20 ?_
  refine TT_iast hK (o := 19) (n := 350) (by decide) rfl (by omega) (by omega) dX3_findLeasts_21 ?_
  refine TT_hp (h' := setO g11_2 19 (fup (h 19) (b * 35) 0)) (up_can (hG_2 19 (by decide)) rfl rfl) ?_
  have hT_3 : TY (setO g11_2 19 (fup (h 19) (b * 35) 0)) := tu_19 hT_2 (show up g11_2 19 (b * 35) 0 = (setO g11_2 19 (fup (h 19) (b * 35) 0)) from up_can (hG_2 19 (by decide)) rfl rfl) (by omega)
  have hF_3 : FR [19, 39, 41, 42, 43] h (setO g11_2 19 (fup (h 19) (b * 35) 0)) := FR_up (show up g11_2 19 (b * 35) 0 = (setO g11_2 19 (fup (h 19) (b * 35) 0)) from up_can (hG_2 19 (by decide)) rfl rfl) hF_2 (by decide)
  refine TT_aload_n hK rfl 2 rfl dX3_findLeasts_22 ?_
  refine gf_X3_70 hK (by decide) rfl (q := 39) rfl rfl dX3_findLeasts_23 ?_
  refine iv_X3_187 hK (s_X6_clear_39 (setO g11_2 19 (fup (h 19) (b * 35) 0)) hT_3 ) (by decide) rfl ⟨by decide, by decide⟩ (by decide) rfl rfl (Nat.le_of_ble_eq_true rfl) ⟨by decide, by decide⟩ dX3_findLeasts_26 ?_
  intro r9 g26_4 hp9
  obtain ⟨⟨hT_4, hG_4⟩, hr9⟩ := hp9
  rw [hr9]
  have hF_4 : FR [19, 39, 41, 42, 43] h g26_4 := FR_tr hF_3 hG_4 (by decide)
  show TT K ly 0 0 29 [(3, vI z11_2), (2, vI (b * 35)), (0, vR 7), (1, vI b)] [] g26_4
  refine TT_aload_n hK rfl 2 rfl dX3_findLeasts_29 ?_
  refine gf_X3_70 hK (by decide) rfl (q := 39) rfl rfl dX3_findLeasts_30 ?_
  refine TT_aload_n hK rfl 2 rfl dX3_findLeasts_33 ?_
  refine gf_X3_40 hK (by decide) rfl (q := 22) rfl rfl dX3_findLeasts_34 ?_
  refine TT_aload_n hK rfl 2 rfl dX3_findLeasts_37 ?_
  refine gf_X3_22 hK (by decide) rfl (q := 17) rfl rfl dX3_findLeasts_38 ?_
  refine TT_iload_n hK rfl 3 rfl dX3_findLeasts_41 ?_
  refine TT_iald hK (o := 17) (n := 10) (by decide) rfl (by first | omega | (simp [up, setR] <;> omega)) (by first | omega | (simp [up, setR] <;> omega)) (v := (h 17) b) (rd_ (((hG_4 17 (by decide))).trans ((sOf_ne _ _ (by decide)).trans (hG_2 17 (by decide)))) rfl) dX3_findLeasts_42 ?_
  have r5 := ty_17 (i := b) (v := (h 17) b) hT_4 (rd_ (((hG_4 17 (by decide))).trans ((sOf_ne _ _ (by decide)).trans (hG_2 17 (by decide)))) rfl) (by omega) (by omega)
  refine TT_aload_n hK rfl 2 rfl dX3_findLeasts_43 ?_
  refine gf_X3_25 hK (by decide) rfl (q := 18) rfl rfl dX3_findLeasts_44 ?_
  refine TT_iload_n hK rfl 3 rfl dX3_findLeasts_47 ?_
  refine TT_iald hK (o := 18) (n := 10) (by decide) rfl (by first | omega | (simp [up, setR] <;> omega)) (by first | omega | (simp [up, setR] <;> omega)) (v := (h 18) b) (rd_ (((hG_4 18 (by decide))).trans ((sOf_ne _ _ (by decide)).trans (hG_2 18 (by decide)))) rfl) dX3_findLeasts_48 ?_
  have r6 := ty_18 (i := b) (v := (h 18) b) hT_4 (rd_ (((hG_4 18 (by decide))).trans ((sOf_ne _ _ (by decide)).trans (hG_2 18 (by decide)))) rfl) (by omega) (by omega)
  refine iv_X3_188 hK (s_X6_addFrom_39 ((h 17) b) ((h 18) b) g26_4 hT_4 (by first | omega | (simp [up, setR] <;> omega)) (by first | omega | (simp [up, setR] <;> omega))) (by decide) rfl ⟨by decide, by decide⟩ (by decide) rfl rfl (Nat.le_of_ble_eq_true rfl) ⟨by decide, by decide⟩ dX3_findLeasts_49 ?_
  intro r9 g49_7 hp9
  obtain ⟨⟨hT_7, hG_7⟩, hr9⟩ := hp9
  rw [hr9]
  have hF_7 : FR [19, 39, 41, 42, 43] h g49_7 := FR_tr hF_4 hG_7 (by decide)
  show TT K ly 0 0 52 [(3, vI z11_2), (2, vI (b * 35)), (0, vR 7), (1, vI b)] [] g49_7
  refine TT_iconst hK dX3_findLeasts_52 ?_
  refine TT_istore hK (lv' := [(4, vI 0), (3, vI z11_2), (2, vI (b * 35)), (0, vR 7), (1, vI b)]) (by decide) rfl dX3_findLeasts_53 ?_
  refine TT_iconst hK dX3_findLeasts_55 ?_
  refine TT_istore hK (lv' := [(5, vI 0), (4, vI 0), (3, vI z11_2), (2, vI (b * 35)), (0, vR 7), (1, vI b)]) (by decide) rfl dX3_findLeasts_56 ?_
  have L58_8 : ∀ (k8 : Nat) (kn : Int) (l : Int) (w58_8 : Hp_), TY w58_8 → FR [19, 39, 41, 42, 43] h w58_8 → (0 ≤ kn ∧ kn ≤ 34) → (0 ≤ l ∧ l ≤ 1025) → ((1025 : Int) - l).toNat < k8 → TT K ly 0 0 58 [(0, vR 7), (1, vI b), (2, vI (b * 35)), (3, vI z11_2), (4, vI kn), (5, vI l)] [] w58_8 := by
    intro k8
    induction k8 with
    | zero => intro kn l w58_8 hT58_8 hF58_8 hkn hl hk8; exact absurd hk8 (Nat.not_lt_zero _)
    | succ k8 ih8 =>
      intro kn l w58_8 hT58_8 hF58_8 hkn hl hk8
      refine TT_iload hK 5 rfl dX3_findLeasts_58 ?_
      refine TT_aload_n hK rfl 0 rfl dX3_findLeasts_60 ?_
      refine gf_X3_25 hK (by decide) rfl (q := 18) rfl rfl dX3_findLeasts_61 ?_
      refine TT_iload_n hK rfl 1 rfl dX3_findLeasts_64 ?_
      refine TT_iald hK (o := 18) (n := 10) (by decide) rfl (by first | omega | (simp [up, setR] <;> omega)) (by first | omega | (simp [up, setR] <;> omega)) (v := (h 18) b) (rd_ (hF58_8 18 (by decide)) rfl) dX3_findLeasts_65 ?_
      have r9 := ty_18 (i := b) (v := (h 18) b) hT58_8 (rd_ (hF58_8 18 (by decide)) rfl) (by omega) (by omega)
      refine TT_icmp_gt hK (tgt := 127) (irm (by omega) (by omega)) (irm (by omega) (by omega)) dX3_findLeasts_66 (by decide) (fun hb66_10 => ?_) (fun hb66_10 => ?_)
      · refine TT_vret hK hQ ?_ dX3_findLeasts_127
        exact ⟨⟨hT58_8, hF58_8⟩, rfl⟩
      · refine TT_iload hK 4 rfl dX3_findLeasts_69 ?_
        refine TT_iload_n hK rfl 3 rfl dX3_findLeasts_71 ?_
        refine TT_icmp_ge hK (tgt := 127) (irm (by omega) (by omega)) (irm (by omega) (by omega)) dX3_findLeasts_72 (by decide) (fun hb72_11 => ?_) (fun hb72_11 => ?_)
        · refine TT_vret hK hQ ?_ dX3_findLeasts_127
          exact ⟨⟨hT58_8, hF58_8⟩, rfl⟩
        · refine TT_aload_n hK rfl 0 rfl dX3_findLeasts_75 ?_
          refine gf_X3_70 hK (by decide) rfl (q := 39) rfl rfl dX3_findLeasts_76 ?_
          refine TT_iload hK 5 rfl dX3_findLeasts_79 ?_
          refine iv_X3_192 hK (s_X6_begin_39 l w58_8 hT58_8 (by first | omega | (simp [up, setR] <;> omega))) (by decide) rfl ⟨by decide, by decide⟩ (by decide) rfl rfl (Nat.le_of_ble_eq_true rfl) ⟨by decide, by decide⟩ dX3_findLeasts_81 ?_
          intro r9 g81_12 hp9
          obtain ⟨⟨hT_12, hG_12⟩, hr9⟩ := hp9
          rw [hr9]
          have hF_12 : FR [19, 39, 41, 42, 43] h g81_12 := FR_tr hF58_8 hG_12 (by decide)
          show TT K ly 0 0 84 [(0, vR 7), (1, vI b), (2, vI (b * 35)), (3, vI z11_2), (4, vI kn), (5, vI l)] [] g81_12
          refine TT_aload_n hK rfl 0 rfl dX3_findLeasts_84 ?_
          refine gf_X3_47 hK (by decide) rfl (q := 24) rfl rfl dX3_findLeasts_85 ?_
          refine TT_aload_n hK rfl 0 rfl dX3_findLeasts_88 ?_
          refine gf_X3_70 hK (by decide) rfl (q := 39) rfl rfl dX3_findLeasts_89 ?_
          refine iv_X3_194 hK (s_X7_passesReadRight_24 g81_12 hT_12 ) (by decide) rfl ⟨by decide, by decide⟩ (by decide) rfl rfl (Nat.le_of_ble_eq_true rfl) ⟨by decide, by decide⟩ dX3_findLeasts_92 ?_
          intro r9 g92_13 hp9
          obtain ⟨⟨hT_13, hG_13⟩, z92_13, hr9, hz_13⟩ := hp9
          rw [hr9]
          have hF_13 : FR [19, 39, 41, 42, 43] h g92_13 := FR_tr hF_12 hG_13 (by decide)
          show TT K ly 0 0 95 [(0, vR 7), (1, vI b), (2, vI (b * 35)), (3, vI z11_2), (4, vI kn), (5, vI l)] [vI z92_13] g92_13
          refine TT_istore hK (lv' := [(6, vI z92_13), (0, vR 7), (1, vI b), (2, vI (b * 35)), (3, vI z11_2), (4, vI kn), (5, vI l)]) (by decide) rfl dX3_findLeasts_95 ?_
          have L97_14 : ∀ (k14 : Nat) (k2 : Int) (w97_14 : Hp_), TY w97_14 → FR [19, 39, 41, 42, 43] h w97_14 → (0 ≤ k2 ∧ k2 ≤ 34) → ((34 : Int) - k2).toNat < k14 → TT K ly 0 0 97 [(0, vR 7), (1, vI b), (2, vI (b * 35)), (3, vI z11_2), (4, vI k2), (5, vI l), (6, vI z92_13)] [] w97_14 := by
            intro k14
            induction k14 with
            | zero => intro k2 w97_14 hT97_14 hF97_14 hk2 hk14; exact absurd hk14 (Nat.not_lt_zero _)
            | succ k14 ih14 =>
              intro k2 w97_14 hT97_14 hF97_14 hk2 hk14
              refine TT_iload hK 4 rfl dX3_findLeasts_97 ?_
              refine TT_iload hK 6 rfl dX3_findLeasts_99 ?_
              refine TT_icmp_ge hK (tgt := 121) (irm (by omega) (by omega)) (irm (by omega) (by omega)) dX3_findLeasts_101 (by decide) (fun hb101_15 => ?_) (fun hb101_15 => ?_)
              · refine TT_iinc hK (v := l + 1) (lv' := [(5, vI (l + 1)), (0, vR 7), (1, vI b), (2, vI (b * 35)), (3, vI z11_2), (4, vI k2), (6, vI z92_13)]) 5 rfl rfl (by decide) rfl dX3_findLeasts_121 ?_
                refine TT_goto hK (tgt := 58) dX3_findLeasts_124 (by decide) ?_
                refine TT_sub [1, 2, 3, 4, 5, 0] rfl ?_
                exact ih8 k2 (l + 1) w97_14 hT97_14 hF97_14 (by first | omega | (simp [up, setR] <;> omega)) (by first | omega | (simp [up, setR] <;> omega)) (by first | omega | (simp [up, setR] <;> omega))
              · refine TT_iinc hK (v := k2 + 1) (lv' := [(4, vI (k2 + 1)), (0, vR 7), (1, vI b), (2, vI (b * 35)), (3, vI z11_2), (5, vI l), (6, vI z92_13)]) 4 rfl rfl (by decide) rfl dX3_findLeasts_104 ?_
                refine TT_aload_n hK rfl 1 rfl dX3_findLeasts_107 ?_
                refine gf_X3_28 hK (by decide) rfl (q := 19) rfl rfl dX3_findLeasts_108 ?_
                refine TT_iload_n hK rfl 3 rfl dX3_findLeasts_111 ?_
                refine TT_iload hK 0 rfl dX3_findLeasts_112 ?_
                refine TT_iadd hK dX3_findLeasts_114 ?_
                refine TT_iload hK 5 rfl dX3_findLeasts_115 ?_
                refine TT_iast hK (o := 19) (n := 350) (by decide) rfl (by omega) (by omega) dX3_findLeasts_117 ?_
                refine TT_hp (h' := setO w97_14 19 (fup (w97_14 19) ((b * 35) + (k2 + 1)) l)) (up_can rfl rfl rfl) ?_
                have hT_16 : TY (setO w97_14 19 (fup (w97_14 19) ((b * 35) + (k2 + 1)) l)) := tu_19 hT97_14 (show up w97_14 19 ((b * 35) + (k2 + 1)) l = (setO w97_14 19 (fup (w97_14 19) ((b * 35) + (k2 + 1)) l)) from up_can rfl rfl rfl) (by omega)
                have hF_16 : FR [19, 39, 41, 42, 43] h (setO w97_14 19 (fup (w97_14 19) ((b * 35) + (k2 + 1)) l)) := FR_up (show up w97_14 19 ((b * 35) + (k2 + 1)) l = (setO w97_14 19 (fup (w97_14 19) ((b * 35) + (k2 + 1)) l)) from up_can rfl rfl rfl) hF97_14 (by decide)
                refine TT_goto hK (tgt := 97) dX3_findLeasts_118 (by decide) ?_
                refine TT_sub [1, 2, 3, 4, 0, 5, 6] rfl ?_
                exact ih14 (k2 + 1) (setO w97_14 19 (fup (w97_14 19) ((b * 35) + (k2 + 1)) l)) hT_16 hF_16 (by first | omega | (simp [up, setR] <;> omega)) (by first | omega | (simp [up, setR] <;> omega))
          refine TT_sub [1, 2, 3, 4, 5, 6, 0] rfl ?_
          exact L97_14 ((((34 : Int) - kn).toNat) + 1) kn g92_13 hT_13 hF_13 (by first | omega | (simp [up, setR] <;> omega)) (Nat.lt_succ_self _)
  refine TT_sub [4, 5, 3, 2, 1, 0] rfl ?_
  exact L58_8 ((((1025 : Int) - 0).toNat) + 1) 0 0 g49_7 hT_7 hF_7 (by first | omega | (simp [up, setR] <;> omega)) (by first | omega | (simp [up, setR] <;> omega)) (Nat.lt_succ_self _)
set_option maxRecDepth 20000 in
theorem s_writeCount_5 (n : Int) (h : Hp_) (hT : TY h) (hn : -100 ≤ n ∧ n ≤ 100) : Ctr yX3_writeCount cX3_writeCount 2 none (rmd 3) ly ly 0 0 [vI n, vR 5] h (fun r h' => (TY h' ∧ FR [5, 6] h h') ∧ r = none) := by
  refine Ctr_of (by decide) (Nat.le_of_ble_eq_true rfl) ⟨Nat.le_refl _, Nat.le_refl _⟩ (fun K hK hQ _ => ?_)
  show TT K ly 0 0 0 [(0, vI n), (1, vR 5)] [] h
  have hF : FR [5, 6] h h := FR_rf _ _
  refine TT_iload_n hK rfl 0 rfl dX3_writeCount_0 ?_
  refine TT_iconst hK dX3_writeCount_1 ?_
  refine TT_icmp_ne hK (tgt := 14) (irm (by omega) (by omega)) (by decide) dX3_writeCount_2 (by decide) (fun hb2_1 => ?_) (fun hb2_1 => ?_)
  · refine TT_iload_n hK rfl 0 rfl dX3_writeCount_14 ?_
    refine TT_iconst hK dX3_writeCount_15 ?_
    refine TT_icmp_ne hK (tgt := 28) (irm (by omega) (by omega)) (by decide) dX3_writeCount_16 (by decide) (fun hb16_2 => ?_) (fun hb16_2 => ?_)
    · refine TT_iload_n hK rfl 0 rfl dX3_writeCount_28 ?_
      refine TT_iconst hK dX3_writeCount_29 ?_
      refine TT_icmp_gt hK (tgt := 50) (irm (by omega) (by omega)) (by decide) dX3_writeCount_30 (by decide) (fun hb30_3 => ?_) (fun hb30_3 => ?_)
      · refine TT_aload_n hK rfl 1 rfl dX3_writeCount_50 ?_
        refine TT_bipush hK (by decide) dX3_writeCount_51 ?_
        refine TT_iconst hK dX3_writeCount_53 ?_
        refine iv_X3_207 hK (s_X1_putBits_5 15 4 h hT (by first | omega | (simp [up, setR] <;> omega)) (by first | omega | (simp [up, setR] <;> omega))) (by decide) rfl ⟨by decide, by decide⟩ (by decide) rfl rfl (Nat.le_of_ble_eq_true rfl) ⟨by decide, by decide⟩ dX3_writeCount_54 ?_
        intro r9 g54_4 hp9
        obtain ⟨⟨hT_4, hG_4⟩, hr9⟩ := hp9
        rw [hr9]
        have hF_4 : FR [5, 6] h g54_4 := FR_tr hF hG_4 (by decide)
        show TT K ly 0 0 57 [(0, vI n), (1, vR 5)] [] g54_4
        refine TT_aload_n hK rfl 1 rfl dX3_writeCount_57 ?_
        refine TT_iload_n hK rfl 0 rfl dX3_writeCount_58 ?_
        refine TT_bipush hK (by decide) dX3_writeCount_59 ?_
        refine TT_isub hK dX3_writeCount_61 ?_
        refine TT_iconst hK dX3_writeCount_62 ?_
        refine iv_X3_207 hK (s_X1_putBits_5 (n - 6) 5 g54_4 hT_4 (by first | omega | (simp [up, setR] <;> omega)) (by first | omega | (simp [up, setR] <;> omega))) (by decide) rfl ⟨by decide, by decide⟩ (by decide) rfl rfl (Nat.le_of_ble_eq_true rfl) ⟨by decide, by decide⟩ dX3_writeCount_63 ?_
        intro r9 g63_5 hp9
        obtain ⟨⟨hT_5, hG_5⟩, hr9⟩ := hp9
        rw [hr9]
        have hF_5 : FR [5, 6] h g63_5 := FR_tr hF_4 hG_5 (by decide)
        show TT K ly 0 0 66 [(0, vI n), (1, vR 5)] [] g63_5
        refine TT_vret hK hQ ?_ dX3_writeCount_66
        exact ⟨⟨hT_5, hF_5⟩, rfl⟩
      · refine TT_aload_n hK rfl 1 rfl dX3_writeCount_33 ?_
        refine TT_iconst hK dX3_writeCount_34 ?_
        refine TT_iconst hK dX3_writeCount_35 ?_
        refine iv_X3_207 hK (s_X1_putBits_5 3 2 h hT (by first | omega | (simp [up, setR] <;> omega)) (by first | omega | (simp [up, setR] <;> omega))) (by decide) rfl ⟨by decide, by decide⟩ (by decide) rfl rfl (Nat.le_of_ble_eq_true rfl) ⟨by decide, by decide⟩ dX3_writeCount_36 ?_
        intro r9 g36_6 hp9
        obtain ⟨⟨hT_6, hG_6⟩, hr9⟩ := hp9
        rw [hr9]
        have hF_6 : FR [5, 6] h g36_6 := FR_tr hF hG_6 (by decide)
        show TT K ly 0 0 39 [(0, vI n), (1, vR 5)] [] g36_6
        refine TT_aload_n hK rfl 1 rfl dX3_writeCount_39 ?_
        refine TT_iload_n hK rfl 0 rfl dX3_writeCount_40 ?_
        refine TT_iconst hK dX3_writeCount_41 ?_
        refine TT_isub hK dX3_writeCount_42 ?_
        refine TT_iconst hK dX3_writeCount_43 ?_
        refine iv_X3_207 hK (s_X1_putBits_5 (n - 3) 2 g36_6 hT_6 (by first | omega | (simp [up, setR] <;> omega)) (by first | omega | (simp [up, setR] <;> omega))) (by decide) rfl ⟨by decide, by decide⟩ (by decide) rfl rfl (Nat.le_of_ble_eq_true rfl) ⟨by decide, by decide⟩ dX3_writeCount_44 ?_
        intro r9 g44_7 hp9
        obtain ⟨⟨hT_7, hG_7⟩, hr9⟩ := hp9
        rw [hr9]
        have hF_7 : FR [5, 6] h g44_7 := FR_tr hF_6 hG_7 (by decide)
        show TT K ly 0 0 47 [(0, vI n), (1, vR 5)] [] g44_7
        refine TT_goto hK (tgt := 66) dX3_writeCount_47 (by decide) ?_
        refine TT_vret hK hQ ?_ dX3_writeCount_66
        exact ⟨⟨hT_7, hF_7⟩, rfl⟩
    · refine TT_aload_n hK rfl 1 rfl dX3_writeCount_19 ?_
      refine TT_iconst hK dX3_writeCount_20 ?_
      refine TT_iconst hK dX3_writeCount_21 ?_
      refine iv_X3_207 hK (s_X1_putBits_5 2 2 h hT (by first | omega | (simp [up, setR] <;> omega)) (by first | omega | (simp [up, setR] <;> omega))) (by decide) rfl ⟨by decide, by decide⟩ (by decide) rfl rfl (Nat.le_of_ble_eq_true rfl) ⟨by decide, by decide⟩ dX3_writeCount_22 ?_
      intro r9 g22_8 hp9
      obtain ⟨⟨hT_8, hG_8⟩, hr9⟩ := hp9
      rw [hr9]
      have hF_8 : FR [5, 6] h g22_8 := FR_tr hF hG_8 (by decide)
      show TT K ly 0 0 25 [(0, vI n), (1, vR 5)] [] g22_8
      refine TT_goto hK (tgt := 66) dX3_writeCount_25 (by decide) ?_
      refine TT_vret hK hQ ?_ dX3_writeCount_66
      exact ⟨⟨hT_8, hF_8⟩, rfl⟩
  · refine TT_aload_n hK rfl 1 rfl dX3_writeCount_5 ?_
    refine TT_iconst hK dX3_writeCount_6 ?_
    refine TT_iconst hK dX3_writeCount_7 ?_
    refine iv_X3_207 hK (s_X1_putBits_5 0 1 h hT (by first | omega | (simp [up, setR] <;> omega)) (by first | omega | (simp [up, setR] <;> omega))) (by decide) rfl ⟨by decide, by decide⟩ (by decide) rfl rfl (Nat.le_of_ble_eq_true rfl) ⟨by decide, by decide⟩ dX3_writeCount_8 ?_
    intro r9 g8_9 hp9
    obtain ⟨⟨hT_9, hG_9⟩, hr9⟩ := hp9
    rw [hr9]
    have hF_9 : FR [5, 6] h g8_9 := FR_tr hF hG_9 (by decide)
    show TT K ly 0 0 11 [(0, vI n), (1, vR 5)] [] g8_9
    refine TT_goto hK (tgt := 66) dX3_writeCount_11 (by decide) ?_
    refine TT_vret hK hQ ?_ dX3_writeCount_66
    exact ⟨⟨hT_9, hF_9⟩, rfl⟩
set_option maxRecDepth 20000 in
theorem s_X3_writeBandHead_7 (b q : Int) (h : Hp_) (hT : TY h) (hb : 0 ≤ b ∧ b ≤ 9) (hq : 0 ≤ q ∧ q ≤ 34) : Ctr yX3_writeBandHead cX3_writeBandHead 9 none (rmd 4) ly ly 0 0 [vR 7, vI b, vI q, vR 5] h (fun r h' => (TY h' ∧ FR [5, 6, 21] h h') ∧ r = none) := by
  refine Ctr_of (by decide) (Nat.le_of_ble_eq_true rfl) ⟨Nat.le_refl _, Nat.le_refl _⟩ (fun K hK hQ _ => ?_)
  show TT K ly 0 0 0 [(0, vR 7), (1, vI b), (2, vI q), (3, vR 5)] [] h
  have hF : FR [5, 6, 21] h h := FR_rf _ _
  refine TT_iload_n hK rfl 2 rfl dX3_writeBandHead_0 ?_
  refine TT_aload_n hK rfl 0 rfl dX3_writeBandHead_1 ?_
  refine gf_X3_31 hK (by decide) rfl (q := 20) rfl rfl dX3_writeBandHead_2 ?_
  refine TT_iload_n hK rfl 1 rfl dX3_writeBandHead_5 ?_
  refine TT_iald hK (o := 20) (n := 10) (by decide) rfl (by first | omega | (simp [up, setR] <;> omega)) (by first | omega | (simp [up, setR] <;> omega)) (v := (h 20) b) rfl dX3_writeBandHead_6 ?_
  have r1 := ty_20 (i := b) (v := (h 20) b) hT rfl (by omega) (by omega)
  refine TT_isub hK dX3_writeBandHead_7 ?_
  refine TT_istore hK (lv' := [(4, vI (q - ((h 20) b))), (0, vR 7), (1, vI b), (2, vI q), (3, vR 5)]) (by decide) rfl dX3_writeBandHead_8 ?_
  refine TT_aload_n hK rfl 4 rfl dX3_writeBandHead_10 ?_
  refine TT_iload hK 0 rfl dX3_writeBandHead_11 ?_
  refine TT_if_le hK (tgt := 20) (irm (by omega) (by omega)) dX3_writeBandHead_13 (by decide) (fun hb13_2 => ?_) (fun hb13_2 => ?_)
  · refine TT_iconst hK dX3_writeBandHead_20 ?_
    refine TT_iconst hK dX3_writeBandHead_21 ?_
    refine iv_X3_207 hK (s_X1_putBits_5 0 1 h hT (by first | omega | (simp [up, setR] <;> omega)) (by first | omega | (simp [up, setR] <;> omega))) (by decide) rfl ⟨by decide, by decide⟩ (by decide) rfl rfl (Nat.le_of_ble_eq_true rfl) ⟨by decide, by decide⟩ dX3_writeBandHead_22 ?_
    intro r9 g22_3 hp9
    obtain ⟨⟨hT_3, hG_3⟩, hr9⟩ := hp9
    rw [hr9]
    have hF_3 : FR [5, 6, 21] h g22_3 := FR_tr hF hG_3 (by decide)
    show TT K ly 0 0 25 [(4, vI (q - ((h 20) b))), (0, vR 7), (1, vI b), (2, vI q), (3, vR 5)] [] g22_3
    refine TT_iload hK 0 rfl dX3_writeBandHead_25 ?_
    refine TT_if_gt hK (tgt := 31) (irm (by omega) (by omega)) dX3_writeBandHead_27 (by decide) (fun hb27_4 => ?_) (fun hb27_4 => ?_)
    · exfalso; omega
    · refine TT_vret hK hQ ?_ dX3_writeBandHead_30
      exact ⟨⟨hT_3, hF_3⟩, rfl⟩
  · refine TT_iconst hK dX3_writeBandHead_16 ?_
    refine TT_goto hK (tgt := 21) dX3_writeBandHead_17 (by decide) ?_
    refine TT_iconst hK dX3_writeBandHead_21 ?_
    refine iv_X3_207 hK (s_X1_putBits_5 1 1 h hT (by first | omega | (simp [up, setR] <;> omega)) (by first | omega | (simp [up, setR] <;> omega))) (by decide) rfl ⟨by decide, by decide⟩ (by decide) rfl rfl (Nat.le_of_ble_eq_true rfl) ⟨by decide, by decide⟩ dX3_writeBandHead_22 ?_
    intro r9 g22_5 hp9
    obtain ⟨⟨hT_5, hG_5⟩, hr9⟩ := hp9
    rw [hr9]
    have hF_5 : FR [5, 6, 21] h g22_5 := FR_tr hF hG_5 (by decide)
    show TT K ly 0 0 25 [(4, vI (q - ((h 20) b))), (0, vR 7), (1, vI b), (2, vI q), (3, vR 5)] [] g22_5
    refine TT_iload hK 0 rfl dX3_writeBandHead_25 ?_
    refine TT_if_gt hK (tgt := 31) (irm (by omega) (by omega)) dX3_writeBandHead_27 (by decide) (fun hb27_6 => ?_) (fun hb27_6 => ?_)
    · have J51_7 : ∀ (w51_7 : Hp_), TY w51_7 → FR [5, 6, 21] h w51_7 → TT K ly 0 0 51 [(0, vR 7), (1, vI b), (2, vI q), (3, vR 5), (4, vI (q - ((h 20) b)))] [] w51_7 := by
        intro w51_7 hT51_7 hF51_7
        refine TT_iload hK 4 rfl dX3_writeBandHead_51 ?_
        refine TT_aload_n hK rfl 3 rfl dX3_writeBandHead_53 ?_
        refine iv_X3_224 hK (s_writeCount_5 (q - ((h 20) b)) w51_7 hT51_7 (by first | omega | (simp [up, setR] <;> omega))) ⟨by decide, by decide⟩ (by decide) rfl rfl (Nat.le_of_ble_eq_true rfl) ⟨by decide, by decide⟩ dX3_writeBandHead_54 ?_
        intro r9 g54_8 hp9
        obtain ⟨⟨hT_8, hG_8⟩, hr9⟩ := hp9
        rw [hr9]
        have hF_8 : FR [5, 6, 21] h g54_8 := FR_tr hF51_7 hG_8 (by decide)
        show TT K ly 0 0 57 [(0, vR 7), (1, vI b), (2, vI q), (3, vR 5), (4, vI (q - ((h 20) b)))] [] g54_8
        refine TT_aload_n hK rfl 0 rfl dX3_writeBandHead_57 ?_
        refine TT_iload_n hK rfl 1 rfl dX3_writeBandHead_58 ?_
        refine TT_iload_n hK rfl 2 rfl dX3_writeBandHead_59 ?_
        refine iv_X3_220 hK (s_X3_leastLength_7 b q g54_8 hT_8 (by first | omega | (simp [up, setR] <;> omega)) (by first | omega | (simp [up, setR] <;> omega))) (by decide) rfl ⟨by decide, by decide⟩ (by decide) rfl rfl (Nat.le_of_ble_eq_true rfl) ⟨by decide, by decide⟩ dX3_writeBandHead_60 ?_
        intro r9 g60_9 hp9
        obtain ⟨⟨hT_9, hG_9⟩, z60_9, hr9, hz_9⟩ := hp9
        rw [hr9]
        have hF_9 : FR [5, 6, 21] h g60_9 := FR_tr hF_8 hG_9 (by decide)
        show TT K ly 0 0 63 [(0, vR 7), (1, vI b), (2, vI q), (3, vR 5), (4, vI (q - ((h 20) b)))] [vI z60_9] g60_9
        refine TT_aload_n hK rfl 0 rfl dX3_writeBandHead_63 ?_
        refine TT_iload_n hK rfl 1 rfl dX3_writeBandHead_64 ?_
        refine TT_aload_n hK rfl 0 rfl dX3_writeBandHead_65 ?_
        refine gf_X3_31 hK (by decide) rfl (q := 20) rfl rfl dX3_writeBandHead_66 ?_
        refine TT_iload_n hK rfl 1 rfl dX3_writeBandHead_69 ?_
        refine TT_iald hK (o := 20) (n := 10) (by decide) rfl (by first | omega | (simp [up, setR] <;> omega)) (by first | omega | (simp [up, setR] <;> omega)) (v := (h 20) b) (rd_ (((hG_9 20 (by decide))).trans (((hG_8 20 (by decide))).trans (hF51_7 20 (by decide)))) rfl) dX3_writeBandHead_70 ?_
        have r10 := ty_20 (i := b) (v := (h 20) b) hT_9 (rd_ (((hG_9 20 (by decide))).trans (((hG_8 20 (by decide))).trans (hF51_7 20 (by decide)))) rfl) (by omega) (by omega)
        refine iv_X3_220 hK (s_X3_leastLength_7 b ((h 20) b) g60_9 hT_9 (by first | omega | (simp [up, setR] <;> omega)) (by first | omega | (simp [up, setR] <;> omega))) (by decide) rfl ⟨by decide, by decide⟩ (by decide) rfl rfl (Nat.le_of_ble_eq_true rfl) ⟨by decide, by decide⟩ dX3_writeBandHead_71 ?_
        intro r9 g71_11 hp9
        obtain ⟨⟨hT_11, hG_11⟩, z71_11, hr9, hz_11⟩ := hp9
        rw [hr9]
        have hF_11 : FR [5, 6, 21] h g71_11 := FR_tr hF_9 hG_11 (by decide)
        show TT K ly 0 0 74 [(0, vR 7), (1, vI b), (2, vI q), (3, vR 5), (4, vI (q - ((h 20) b)))] [vI z71_11, vI z60_9] g71_11
        refine TT_isub hK dX3_writeBandHead_74 ?_
        refine TT_istore hK (lv' := [(5, vI (z60_9 - z71_11)), (0, vR 7), (1, vI b), (2, vI q), (3, vR 5), (4, vI (q - ((h 20) b)))]) (by decide) rfl dX3_writeBandHead_75 ?_
        refine TT_iload hK 5 rfl dX3_writeBandHead_77 ?_
        refine iv_X3_147 hK (s_X11_bitsOf (q - ((h 20) b)) g71_11 hT_11 (by first | omega | (simp [up, setR] <;> omega))) ⟨by decide, by decide⟩ (by decide) rfl rfl (Nat.le_of_ble_eq_true rfl) ⟨by decide, by decide⟩ dX3_writeBandHead_79 ?_
        intro r9 g79_12 hp9
        obtain ⟨⟨hT_12, hG_12⟩, z79_12, hr9, hz_12⟩ := hp9
        rw [hr9]
        have hF_12 : FR [5, 6, 21] h g79_12 := FR_tr hF_11 hG_12 (by decide)
        show TT K ly 0 0 82 [(5, vI (z60_9 - z71_11)), (0, vR 7), (1, vI b), (2, vI q), (3, vR 5), (4, vI (q - ((h 20) b)))] [vI z79_12] g79_12
        refine TT_iconst hK dX3_writeBandHead_82 ?_
        refine TT_isub hK dX3_writeBandHead_83 ?_
        refine TT_istore hK (lv' := [(6, vI (z79_12 - 1)), (5, vI (z60_9 - z71_11)), (0, vR 7), (1, vI b), (2, vI q), (3, vR 5), (4, vI (q - ((h 20) b)))]) (by decide) rfl dX3_writeBandHead_84 ?_
        refine TT_iconst hK dX3_writeBandHead_86 ?_
        refine TT_iload hK 1 rfl dX3_writeBandHead_87 ?_
        refine iv_X3_147 hK (s_X11_bitsOf (z60_9 - z71_11) g79_12 hT_12 (by first | omega | (simp [up, setR] <;> omega))) ⟨by decide, by decide⟩ (by decide) rfl rfl (Nat.le_of_ble_eq_true rfl) ⟨by decide, by decide⟩ dX3_writeBandHead_89 ?_
        intro r9 g89_13 hp9
        obtain ⟨⟨hT_13, hG_13⟩, z89_13, hr9, hz_13⟩ := hp9
        rw [hr9]
        have hF_13 : FR [5, 6, 21] h g89_13 := FR_tr hF_12 hG_13 (by decide)
        show TT K ly 0 0 92 [(6, vI (z79_12 - 1)), (5, vI (z60_9 - z71_11)), (0, vR 7), (1, vI b), (2, vI q), (3, vR 5), (4, vI (q - ((h 20) b)))] [vI z89_13, vI 0] g89_13
        refine TT_aload_n hK rfl 2 rfl dX3_writeBandHead_92 ?_
        refine gf_X3_34 hK (by decide) rfl (q := 21) rfl rfl dX3_writeBandHead_93 ?_
        refine TT_iload_n hK rfl 3 rfl dX3_writeBandHead_96 ?_
        refine TT_iald hK (o := 21) (n := 10) (by decide) rfl (by first | omega | (simp [up, setR] <;> omega)) (by first | omega | (simp [up, setR] <;> omega)) (v := (w51_7 21) b) (rd_ (((hG_13 21 (by decide))).trans (((hG_12 21 (by decide))).trans (((hG_11 21 (by decide))).trans (((hG_9 21 (by decide))).trans (hG_8 21 (by decide)))))) rfl) dX3_writeBandHead_97 ?_
        have r14 := ty_21 (i := b) (v := (w51_7 21) b) hT_13 (rd_ (((hG_13 21 (by decide))).trans (((hG_12 21 (by decide))).trans (((hG_11 21 (by decide))).trans (((hG_9 21 (by decide))).trans (hG_8 21 (by decide)))))) rfl) (by omega) (by omega)
        refine TT_isub hK dX3_writeBandHead_98 ?_
        refine TT_w32 (fun x99_15 hx15 => ?_)
        refine TT_iload hK 0 rfl dX3_writeBandHead_99 ?_
        refine TT_isub hK dX3_writeBandHead_101 ?_
        refine TT_w32 (fun x102_16 hx16 => ?_)
        refine TT_mmax hK (by decide) (irm (by omega) (by omega)) iw_X3_143 (by decide) (Nat.le_of_ble_eq_true rfl) ⟨by decide, by decide⟩ dX3_writeBandHead_102 ?_
        refine TT_istore hK (lv' := [(7, vI (max 0 x102_16)), (6, vI (z79_12 - 1)), (5, vI (z60_9 - z71_11)), (0, vR 7), (1, vI b), (2, vI q), (3, vR 5), (4, vI (q - ((h 20) b)))]) (by decide) rfl dX3_writeBandHead_105 ?_
        refine TT_aload_n hK rfl 3 rfl dX3_writeBandHead_107 ?_
        refine gf_X3_34 hK (by decide) rfl (q := 21) rfl rfl dX3_writeBandHead_108 ?_
        refine TT_iload_n hK rfl 4 rfl dX3_writeBandHead_111 ?_
        refine TT_dup2 hK rfl rfl dX3_writeBandHead_112 ?_
        refine TT_iald hK (o := 21) (n := 10) (by decide) rfl (by first | omega | (simp [up, setR] <;> omega)) (by first | omega | (simp [up, setR] <;> omega)) (v := (w51_7 21) b) (rd_ (((hG_13 21 (by decide))).trans (((hG_12 21 (by decide))).trans (((hG_11 21 (by decide))).trans (((hG_9 21 (by decide))).trans (hG_8 21 (by decide)))))) rfl) dX3_writeBandHead_113 ?_
        refine TT_iload hK 0 rfl dX3_writeBandHead_114 ?_
        refine TT_iadd hK dX3_writeBandHead_116 ?_
        refine TT_w32 (fun x117_17 hx17 => ?_)
        refine TT_iast hK (o := 21) (n := 10) (by decide) rfl (by omega) (by omega) dX3_writeBandHead_117 ?_
        refine TT_hp (h' := setO g89_13 21 (fup (w51_7 21) b x117_17)) (up_can (((hG_13 21 (by decide))).trans (((hG_12 21 (by decide))).trans (((hG_11 21 (by decide))).trans (((hG_9 21 (by decide))).trans (hG_8 21 (by decide)))))) rfl rfl) ?_
        have hT_18 : TY (setO g89_13 21 (fup (w51_7 21) b x117_17)) := tu_21 hT_13 (show up g89_13 21 b x117_17 = (setO g89_13 21 (fup (w51_7 21) b x117_17)) from up_can (((hG_13 21 (by decide))).trans (((hG_12 21 (by decide))).trans (((hG_11 21 (by decide))).trans (((hG_9 21 (by decide))).trans (hG_8 21 (by decide)))))) rfl rfl) (by omega)
        have hF_18 : FR [5, 6, 21] h (setO g89_13 21 (fup (w51_7 21) b x117_17)) := FR_up (show up g89_13 21 b x117_17 = (setO g89_13 21 (fup (w51_7 21) b x117_17)) from up_can (((hG_13 21 (by decide))).trans (((hG_12 21 (by decide))).trans (((hG_11 21 (by decide))).trans (((hG_9 21 (by decide))).trans (hG_8 21 (by decide)))))) rfl rfl) hF_13 (by decide)
        refine TT_iconst hK dX3_writeBandHead_118 ?_
        refine TT_istore hK (lv' := [(8, vI 0), (7, vI (max 0 x102_16)), (6, vI (z79_12 - 1)), (5, vI (z60_9 - z71_11)), (0, vR 7), (1, vI b), (2, vI q), (3, vR 5), (4, vI (q - ((h 20) b)))]) (by decide) rfl dX3_writeBandHead_119 ?_
        have L121_19 : ∀ (k19 : Nat) (k : Int) (w121_19 : Hp_), TY w121_19 → FR [5, 6, 21] h w121_19 → (0 ≤ k ∧ k ≤ 2147483647) → ((2147483647 : Int) - k).toNat < k19 → TT K ly 0 0 121 [(0, vR 7), (1, vI b), (2, vI q), (3, vR 5), (4, vI (q - ((h 20) b))), (5, vI (z60_9 - z71_11)), (6, vI (z79_12 - 1)), (7, vI (max 0 x102_16)), (8, vI k)] [] w121_19 := by
          intro k19
          induction k19 with
          | zero => intro k w121_19 hT121_19 hF121_19 hk hk19; exact absurd hk19 (Nat.not_lt_zero _)
          | succ k19 ih19 =>
            intro k w121_19 hT121_19 hF121_19 hk hk19
            refine TT_iload hK 8 rfl dX3_writeBandHead_121 ?_
            refine TT_iload hK 7 rfl dX3_writeBandHead_123 ?_
            refine TT_icmp_ge hK (tgt := 140) (irm (by omega) (by omega)) (irm (by omega) (by omega)) dX3_writeBandHead_125 (by decide) (fun hb125_20 => ?_) (fun hb125_20 => ?_)
            · refine TT_aload_n hK rfl 3 rfl dX3_writeBandHead_140 ?_
              refine TT_iconst hK dX3_writeBandHead_141 ?_
              refine TT_iconst hK dX3_writeBandHead_142 ?_
              refine iv_X3_207 hK (s_X1_putBits_5 0 1 w121_19 hT121_19 (by first | omega | (simp [up, setR] <;> omega)) (by first | omega | (simp [up, setR] <;> omega))) (by decide) rfl ⟨by decide, by decide⟩ (by decide) rfl rfl (Nat.le_of_ble_eq_true rfl) ⟨by decide, by decide⟩ dX3_writeBandHead_143 ?_
              intro r9 g143_21 hp9
              obtain ⟨⟨hT_21, hG_21⟩, hr9⟩ := hp9
              rw [hr9]
              have hF_21 : FR [5, 6, 21] h g143_21 := FR_tr hF121_19 hG_21 (by decide)
              show TT K ly 0 0 146 [(0, vR 7), (1, vI b), (2, vI q), (3, vR 5), (4, vI (q - ((h 20) b))), (5, vI (z60_9 - z71_11)), (6, vI (z79_12 - 1)), (7, vI (max 0 x102_16)), (8, vI k)] [] g143_21
              refine TT_aload_n hK rfl 3 rfl dX3_writeBandHead_146 ?_
              refine TT_iload hK 5 rfl dX3_writeBandHead_147 ?_
              refine TT_aload_n hK rfl 0 rfl dX3_writeBandHead_149 ?_
              refine gf_X3_34 hK (by decide) rfl (q := 21) rfl rfl dX3_writeBandHead_150 ?_
              refine TT_iload_n hK rfl 1 rfl dX3_writeBandHead_153 ?_
              refine TT_iald hK (o := 21) (n := 10) (by decide) rfl (by first | omega | (simp [up, setR] <;> omega)) (by first | omega | (simp [up, setR] <;> omega)) (v := (w121_19 21) b) (rd_ (hG_21 21 (by decide)) rfl) dX3_writeBandHead_154 ?_
              have r22 := ty_21 (i := b) (v := (w121_19 21) b) hT_21 (rd_ (hG_21 21 (by decide)) rfl) (by omega) (by omega)
              refine TT_iload hK 6 rfl dX3_writeBandHead_155 ?_
              refine TT_iadd hK dX3_writeBandHead_157 ?_
              refine TT_w32 (fun x158_23 hx23 => ?_)
              refine iv_X3_207 hK (s_X1_putBits_5 (z60_9 - z71_11) x158_23 g143_21 hT_21 (by first | omega | (simp [up, setR] <;> omega)) (by first | omega | (simp [up, setR] <;> omega))) (by decide) rfl ⟨by decide, by decide⟩ (by decide) rfl rfl (Nat.le_of_ble_eq_true rfl) ⟨by decide, by decide⟩ dX3_writeBandHead_158 ?_
              intro r9 g158_24 hp9
              obtain ⟨⟨hT_24, hG_24⟩, hr9⟩ := hp9
              rw [hr9]
              have hF_24 : FR [5, 6, 21] h g158_24 := FR_tr hF_21 hG_24 (by decide)
              show TT K ly 0 0 161 [(0, vR 7), (1, vI b), (2, vI q), (3, vR 5), (4, vI (q - ((h 20) b))), (5, vI (z60_9 - z71_11)), (6, vI (z79_12 - 1)), (7, vI (max 0 x102_16)), (8, vI k)] [] g158_24
              refine TT_vret hK hQ ?_ dX3_writeBandHead_161
              exact ⟨⟨hT_24, hF_24⟩, rfl⟩
            · refine TT_aload_n hK rfl 3 rfl dX3_writeBandHead_128 ?_
              refine TT_iconst hK dX3_writeBandHead_129 ?_
              refine TT_iconst hK dX3_writeBandHead_130 ?_
              refine iv_X3_207 hK (s_X1_putBits_5 1 1 w121_19 hT121_19 (by first | omega | (simp [up, setR] <;> omega)) (by first | omega | (simp [up, setR] <;> omega))) (by decide) rfl ⟨by decide, by decide⟩ (by decide) rfl rfl (Nat.le_of_ble_eq_true rfl) ⟨by decide, by decide⟩ dX3_writeBandHead_131 ?_
              intro r9 g131_25 hp9
              obtain ⟨⟨hT_25, hG_25⟩, hr9⟩ := hp9
              rw [hr9]
              have hF_25 : FR [5, 6, 21] h g131_25 := FR_tr hF121_19 hG_25 (by decide)
              show TT K ly 0 0 134 [(0, vR 7), (1, vI b), (2, vI q), (3, vR 5), (4, vI (q - ((h 20) b))), (5, vI (z60_9 - z71_11)), (6, vI (z79_12 - 1)), (7, vI (max 0 x102_16)), (8, vI k)] [] g131_25
              refine TT_iinc hK (v := k + 1) (lv' := [(8, vI (k + 1)), (0, vR 7), (1, vI b), (2, vI q), (3, vR 5), (4, vI (q - ((h 20) b))), (5, vI (z60_9 - z71_11)), (6, vI (z79_12 - 1)), (7, vI (max 0 x102_16))]) 8 rfl rfl (by decide) rfl dX3_writeBandHead_134 ?_
              refine TT_goto hK (tgt := 121) dX3_writeBandHead_137 (by decide) ?_
              refine TT_sub [1, 2, 3, 4, 5, 6, 7, 8, 0] rfl ?_
              exact ih19 (k + 1) g131_25 hT_25 hF_25 (by first | omega | (simp [up, setR] <;> omega)) (by first | omega | (simp [up, setR] <;> omega))
        refine TT_sub [4, 5, 6, 7, 8, 3, 2, 1, 0] rfl ?_
        exact L121_19 ((((2147483647 : Int) - 0).toNat) + 1) 0 (setO g89_13 21 (fup (w51_7 21) b x117_17)) hT_18 hF_18 (by first | omega | (simp [up, setR] <;> omega)) (Nat.lt_succ_self _)
      refine TT_aload_n hK rfl 1 rfl dX3_writeBandHead_31 ?_
      refine gf_X3_31 hK (by decide) rfl (q := 20) rfl rfl dX3_writeBandHead_32 ?_
      refine TT_iload_n hK rfl 2 rfl dX3_writeBandHead_35 ?_
      refine TT_iald hK (o := 20) (n := 10) (by decide) rfl (by first | omega | (simp [up, setR] <;> omega)) (by first | omega | (simp [up, setR] <;> omega)) (v := (h 20) b) (rd_ (hG_5 20 (by decide)) rfl) dX3_writeBandHead_36 ?_
      refine TT_if_ne hK (tgt := 51) (irm (by omega) (by omega)) dX3_writeBandHead_37 (by decide) (fun hb37_26 => ?_) (fun hb37_26 => ?_)
      · refine TT_sub [1, 2, 3, 4, 0] rfl ?_
        exact J51_7 g22_5 hT_5 hF_5 
      · refine TT_aload_n hK rfl 4 rfl dX3_writeBandHead_40 ?_
        refine TT_aload_n hK rfl 1 rfl dX3_writeBandHead_41 ?_
        refine gf_X3_18 hK (by decide) rfl (q := 16) rfl rfl dX3_writeBandHead_42 ?_
        refine TT_iload_n hK rfl 2 rfl dX3_writeBandHead_45 ?_
        refine TT_iald hK (o := 16) (n := 10) (by decide) rfl (by first | omega | (simp [up, setR] <;> omega)) (by first | omega | (simp [up, setR] <;> omega)) (v := (h 16) b) (rd_ (hG_5 16 (by decide)) rfl) dX3_writeBandHead_46 ?_
        have r27 := ty_16 (i := b) (v := (h 16) b) hT_5 (rd_ (hG_5 16 (by decide)) rfl) (by omega) (by omega)
        refine TT_iconst hK dX3_writeBandHead_47 ?_
        refine iv_X3_207 hK (s_X1_putBits_5 ((h 16) b) 4 g22_5 hT_5 (by first | omega | (simp [up, setR] <;> omega)) (by first | omega | (simp [up, setR] <;> omega))) (by decide) rfl ⟨by decide, by decide⟩ (by decide) rfl rfl (Nat.le_of_ble_eq_true rfl) ⟨by decide, by decide⟩ dX3_writeBandHead_48 ?_
        intro r9 g48_28 hp9
        obtain ⟨⟨hT_28, hG_28⟩, hr9⟩ := hp9
        rw [hr9]
        have hF_28 : FR [5, 6, 21] h g48_28 := FR_tr hF_5 hG_28 (by decide)
        show TT K ly 0 0 51 [(4, vI (q - ((h 20) b))), (0, vR 7), (1, vI b), (2, vI q), (3, vR 5)] [] g48_28
        refine TT_sub [1, 2, 3, 4, 0] rfl ?_
        exact J51_7 g48_28 hT_28 hF_28 
    · exfalso; omega
set_option maxRecDepth 20000 in
theorem s_X3_writePacket_7 (r l n : Int) (h : Hp_) (hT : TY h) (hr : 0 ≤ r ∧ r ≤ 3) (hl : 1 ≤ l ∧ l ≤ n) (hn : n ≤ 3) : Ctr yX3_writePacket cX3_writePacket 9 none (rmd 5) ly ly 0 0 [vR 7, vI r, vI l, vI n, vR 5] h (fun r h' => (TY h' ∧ FR [5, 6, 20, 21] h h') ∧ r = none) := by
  refine Ctr_of (by decide) (Nat.le_of_ble_eq_true rfl) ⟨Nat.le_refl _, Nat.le_refl _⟩ (fun K hK hQ _ => ?_)
  show TT K ly 0 0 0 [(0, vR 7), (1, vI r), (2, vI l), (3, vI n), (4, vR 5)] [] h
  have hF : FR [5, 6, 20, 21] h h := FR_rf _ _
  refine TT_iconst hK dX3_writePacket_0 ?_
  refine TT_istore hK (lv' := [(5, vI 0), (0, vR 7), (1, vI r), (2, vI l), (3, vI n), (4, vR 5)]) (by decide) rfl dX3_writePacket_1 ?_
  refine TT_iload_n hK rfl 2 rfl dX3_writePacket_3 ?_
  refine iv_X3_198 hK (s_X11_firstBandOf r h hT (by first | omega | (simp [up, setR] <;> omega))) ⟨by decide, by decide⟩ (by decide) rfl rfl (Nat.le_of_ble_eq_true rfl) ⟨by decide, by decide⟩ dX3_writePacket_4 ?_
  intro r9 g4_1 hp9
  obtain ⟨⟨hT_1, hG_1⟩, z4_1, hr9, hz_1⟩ := hp9
  rw [hr9]
  have hF_1 : FR [5, 6, 20, 21] h g4_1 := FR_tr hF hG_1 (by decide)
  show TT K ly 0 0 7 [(5, vI 0), (0, vR 7), (1, vI r), (2, vI l), (3, vI n), (4, vR 5)] [vI z4_1] g4_1
  refine TT_istore hK (lv' := [(6, vI z4_1), (5, vI 0), (0, vR 7), (1, vI r), (2, vI l), (3, vI n), (4, vR 5)]) (by decide) rfl dX3_writePacket_7 ?_
  have L9_2 : ∀ (k2 : Nat) (an : Int) (b1 : Int) (w9_2 : Hp_), TY w9_2 → FR [5, 6, 20, 21] h w9_2 → (0 ≤ an ∧ an ≤ 1) → (0 ≤ b1 ∧ b1 ≤ 10) → ((10 : Int) - b1).toNat < k2 → TT K ly 0 0 9 [(0, vR 7), (1, vI r), (2, vI l), (3, vI n), (4, vR 5), (5, vI an), (6, vI b1)] [] w9_2 := by
    intro k2
    induction k2 with
    | zero => intro an b1 w9_2 hT9_2 hF9_2 han hb1 hk2; exact absurd hk2 (Nat.not_lt_zero _)
    | succ k2 ih2 =>
      intro an b1 w9_2 hT9_2 hF9_2 han hb1 hk2
      refine TT_iload hK 6 rfl dX3_writePacket_9 ?_
      refine TT_iload_n hK rfl 1 rfl dX3_writePacket_11 ?_
      refine iv_X3_201 hK (s_X11_lastBandOf r w9_2 hT9_2 (by first | omega | (simp [up, setR] <;> omega))) ⟨by decide, by decide⟩ (by decide) rfl rfl (Nat.le_of_ble_eq_true rfl) ⟨by decide, by decide⟩ dX3_writePacket_12 ?_
      intro r9 g12_3 hp9
      obtain ⟨⟨hT_3, hG_3⟩, z12_3, hr9, hz_3⟩ := hp9
      rw [hr9]
      have hF_3 : FR [5, 6, 20, 21] h g12_3 := FR_tr hF9_2 hG_3 (by decide)
      show TT K ly 0 0 15 [(0, vR 7), (1, vI r), (2, vI l), (3, vI n), (4, vR 5), (5, vI an), (6, vI b1)] [vI z12_3, vI b1] g12_3
      refine TT_icmp_gt hK (tgt := 54) (irm (by omega) (by omega)) (irm (by omega) (by omega)) dX3_writePacket_15 (by decide) (fun hb15_4 => ?_) (fun hb15_4 => ?_)
      · refine TT_aload hK 4 rfl dX3_writePacket_54 ?_
        refine TT_iload hK 5 rfl dX3_writePacket_56 ?_
        refine TT_if_eq hK (tgt := 65) (irm (by omega) (by omega)) dX3_writePacket_58 (by decide) (fun hb58_5 => ?_) (fun hb58_5 => ?_)
        · refine TT_iconst hK dX3_writePacket_65 ?_
          refine TT_iconst hK dX3_writePacket_66 ?_
          refine iv_X3_207 hK (s_X1_putBits_5 0 1 g12_3 hT_3 (by first | omega | (simp [up, setR] <;> omega)) (by first | omega | (simp [up, setR] <;> omega))) (by decide) rfl ⟨by decide, by decide⟩ (by decide) rfl rfl (Nat.le_of_ble_eq_true rfl) ⟨by decide, by decide⟩ dX3_writePacket_67 ?_
          intro r9 g67_6 hp9
          obtain ⟨⟨hT_6, hG_6⟩, hr9⟩ := hp9
          rw [hr9]
          have hF_6 : FR [5, 6, 20, 21] h g67_6 := FR_tr hF_3 hG_6 (by decide)
          show TT K ly 0 0 70 [(0, vR 7), (1, vI r), (2, vI l), (3, vI n), (4, vR 5), (5, vI an), (6, vI b1)] [] g67_6
          refine TT_iload hK 5 rfl dX3_writePacket_70 ?_
          refine TT_if_ne hK (tgt := 81) (irm (by omega) (by omega)) dX3_writePacket_72 (by decide) (fun hb72_7 => ?_) (fun hb72_7 => ?_)
          · exfalso; omega
          · refine TT_aload hK 4 rfl dX3_writePacket_75 ?_
            refine iv_X3_210 hK (s_X1_endBits_5 g67_6 hT_6 ) (by decide) rfl ⟨by decide, by decide⟩ (by decide) rfl rfl (Nat.le_of_ble_eq_true rfl) ⟨by decide, by decide⟩ dX3_writePacket_77 ?_
            intro r9 g77_8 hp9
            obtain ⟨⟨hT_8, hG_8⟩, hr9⟩ := hp9
            rw [hr9]
            have hF_8 : FR [5, 6, 20, 21] h g77_8 := FR_tr hF_6 hG_8 (by decide)
            show TT K ly 0 0 80 [(0, vR 7), (1, vI r), (2, vI l), (3, vI n), (4, vR 5), (5, vI an), (6, vI b1)] [] g77_8
            refine TT_vret hK hQ ?_ dX3_writePacket_80
            exact ⟨⟨hT_8, hF_8⟩, rfl⟩
        · refine TT_iconst hK dX3_writePacket_61 ?_
          refine TT_goto hK (tgt := 66) dX3_writePacket_62 (by decide) ?_
          refine TT_iconst hK dX3_writePacket_66 ?_
          refine iv_X3_207 hK (s_X1_putBits_5 1 1 g12_3 hT_3 (by first | omega | (simp [up, setR] <;> omega)) (by first | omega | (simp [up, setR] <;> omega))) (by decide) rfl ⟨by decide, by decide⟩ (by decide) rfl rfl (Nat.le_of_ble_eq_true rfl) ⟨by decide, by decide⟩ dX3_writePacket_67 ?_
          intro r9 g67_9 hp9
          obtain ⟨⟨hT_9, hG_9⟩, hr9⟩ := hp9
          rw [hr9]
          have hF_9 : FR [5, 6, 20, 21] h g67_9 := FR_tr hF_3 hG_9 (by decide)
          show TT K ly 0 0 70 [(0, vR 7), (1, vI r), (2, vI l), (3, vI n), (4, vR 5), (5, vI an), (6, vI b1)] [] g67_9
          refine TT_iload hK 5 rfl dX3_writePacket_70 ?_
          refine TT_if_ne hK (tgt := 81) (irm (by omega) (by omega)) dX3_writePacket_72 (by decide) (fun hb72_10 => ?_) (fun hb72_10 => ?_)
          · refine TT_iload_n hK rfl 1 rfl dX3_writePacket_81 ?_
            refine iv_X3_198 hK (s_X11_firstBandOf r g67_9 hT_9 (by first | omega | (simp [up, setR] <;> omega))) ⟨by decide, by decide⟩ (by decide) rfl rfl (Nat.le_of_ble_eq_true rfl) ⟨by decide, by decide⟩ dX3_writePacket_82 ?_
            intro r9 g82_11 hp9
            obtain ⟨⟨hT_11, hG_11⟩, z82_11, hr9, hz_11⟩ := hp9
            rw [hr9]
            have hF_11 : FR [5, 6, 20, 21] h g82_11 := FR_tr hF_9 hG_11 (by decide)
            show TT K ly 0 0 85 [(0, vR 7), (1, vI r), (2, vI l), (3, vI n), (4, vR 5), (5, vI an), (6, vI b1)] [vI z82_11] g82_11
            refine TT_istore hK (lv' := [(6, vI z82_11), (0, vR 7), (1, vI r), (2, vI l), (3, vI n), (4, vR 5), (5, vI an)]) (by decide) rfl dX3_writePacket_85 ?_
            have L87_12 : ∀ (k12 : Nat) (b2 : Int) (w87_12 : Hp_), TY w87_12 → FR [5, 6, 20, 21] h w87_12 → (0 ≤ b2 ∧ b2 ≤ 10) → ((10 : Int) - b2).toNat < k12 → TT K ly 0 0 87 [(0, vR 7), (1, vI r), (2, vI l), (3, vI n), (4, vR 5), (5, vI an), (6, vI b2)] [] w87_12 := by
              intro k12
              induction k12 with
              | zero => intro b2 w87_12 hT87_12 hF87_12 hb2 hk12; exact absurd hk12 (Nat.not_lt_zero _)
              | succ k12 ih12 =>
                intro b2 w87_12 hT87_12 hF87_12 hb2 hk12
                refine TT_iload hK 6 rfl dX3_writePacket_87 ?_
                refine TT_iload_n hK rfl 1 rfl dX3_writePacket_89 ?_
                refine iv_X3_201 hK (s_X11_lastBandOf r w87_12 hT87_12 (by first | omega | (simp [up, setR] <;> omega))) ⟨by decide, by decide⟩ (by decide) rfl rfl (Nat.le_of_ble_eq_true rfl) ⟨by decide, by decide⟩ dX3_writePacket_90 ?_
                intro r9 g90_13 hp9
                obtain ⟨⟨hT_13, hG_13⟩, z90_13, hr9, hz_13⟩ := hp9
                rw [hr9]
                have hF_13 : FR [5, 6, 20, 21] h g90_13 := FR_tr hF87_12 hG_13 (by decide)
                show TT K ly 0 0 93 [(0, vR 7), (1, vI r), (2, vI l), (3, vI n), (4, vR 5), (5, vI an), (6, vI b2)] [vI z90_13, vI b2] g90_13
                refine TT_icmp_gt hK (tgt := 130) (irm (by omega) (by omega)) (irm (by omega) (by omega)) dX3_writePacket_93 (by decide) (fun hb93_14 => ?_) (fun hb93_14 => ?_)
                · refine TT_aload hK 4 rfl dX3_writePacket_130 ?_
                  refine iv_X3_210 hK (s_X1_endBits_5 g90_13 hT_13 ) (by decide) rfl ⟨by decide, by decide⟩ (by decide) rfl rfl (Nat.le_of_ble_eq_true rfl) ⟨by decide, by decide⟩ dX3_writePacket_132 ?_
                  intro r9 g132_15 hp9
                  obtain ⟨⟨hT_15, hG_15⟩, hr9⟩ := hp9
                  rw [hr9]
                  have hF_15 : FR [5, 6, 20, 21] h g132_15 := FR_tr hF_13 hG_15 (by decide)
                  show TT K ly 0 0 135 [(0, vR 7), (1, vI r), (2, vI l), (3, vI n), (4, vR 5), (5, vI an), (6, vI b2)] [] g132_15
                  refine TT_iload_n hK rfl 1 rfl dX3_writePacket_135 ?_
                  refine iv_X3_198 hK (s_X11_firstBandOf r g132_15 hT_15 (by first | omega | (simp [up, setR] <;> omega))) ⟨by decide, by decide⟩ (by decide) rfl rfl (Nat.le_of_ble_eq_true rfl) ⟨by decide, by decide⟩ dX3_writePacket_136 ?_
                  intro r9 g136_16 hp9
                  obtain ⟨⟨hT_16, hG_16⟩, z136_16, hr9, hz_16⟩ := hp9
                  rw [hr9]
                  have hF_16 : FR [5, 6, 20, 21] h g136_16 := FR_tr hF_15 hG_16 (by decide)
                  show TT K ly 0 0 139 [(0, vR 7), (1, vI r), (2, vI l), (3, vI n), (4, vR 5), (5, vI an), (6, vI b2)] [vI z136_16] g136_16
                  refine TT_istore hK (lv' := [(6, vI z136_16), (0, vR 7), (1, vI r), (2, vI l), (3, vI n), (4, vR 5), (5, vI an)]) (by decide) rfl dX3_writePacket_139 ?_
                  have L141_17 : ∀ (k17 : Nat) (b3 : Int) (w141_17 : Hp_), TY w141_17 → FR [5, 6, 20, 21] h w141_17 → (0 ≤ b3 ∧ b3 ≤ 10) → ((10 : Int) - b3).toNat < k17 → TT K ly 0 0 141 [(0, vR 7), (1, vI r), (2, vI l), (3, vI n), (4, vR 5), (5, vI an), (6, vI b3)] [] w141_17 := by
                    intro k17
                    induction k17 with
                    | zero => intro b3 w141_17 hT141_17 hF141_17 hb3 hk17; exact absurd hk17 (Nat.not_lt_zero _)
                    | succ k17 ih17 =>
                      intro b3 w141_17 hT141_17 hF141_17 hb3 hk17
                      refine TT_iload hK 6 rfl dX3_writePacket_141 ?_
                      refine TT_iload_n hK rfl 1 rfl dX3_writePacket_143 ?_
                      refine iv_X3_201 hK (s_X11_lastBandOf r w141_17 hT141_17 (by first | omega | (simp [up, setR] <;> omega))) ⟨by decide, by decide⟩ (by decide) rfl rfl (Nat.le_of_ble_eq_true rfl) ⟨by decide, by decide⟩ dX3_writePacket_144 ?_
                      intro r9 g144_18 hp9
                      obtain ⟨⟨hT_18, hG_18⟩, z144_18, hr9, hz_18⟩ := hp9
                      rw [hr9]
                      have hF_18 : FR [5, 6, 20, 21] h g144_18 := FR_tr hF141_17 hG_18 (by decide)
                      show TT K ly 0 0 147 [(0, vR 7), (1, vI r), (2, vI l), (3, vI n), (4, vR 5), (5, vI an), (6, vI b3)] [vI z144_18, vI b3] g144_18
                      refine TT_icmp_gt hK (tgt := 220) (irm (by omega) (by omega)) (irm (by omega) (by omega)) dX3_writePacket_147 (by decide) (fun hb147_19 => ?_) (fun hb147_19 => ?_)
                      · refine TT_vret hK hQ ?_ dX3_writePacket_220
                        exact ⟨⟨hT_18, hF_18⟩, rfl⟩
                      · refine TT_aload_n hK rfl 0 rfl dX3_writePacket_150 ?_
                        refine TT_iload hK 6 rfl dX3_writePacket_151 ?_
                        refine TT_iload_n hK rfl 2 rfl dX3_writePacket_153 ?_
                        refine TT_iload_n hK rfl 3 rfl dX3_writePacket_154 ?_
                        refine iv_X3_204 hK (s_X3_passesUpTo_7 b3 l n g144_18 hT_18 (by first | omega | (simp [up, setR] <;> omega)) (by first | omega | (simp [up, setR] <;> omega)) (by first | omega | (simp [up, setR] <;> omega))) (by decide) rfl ⟨by decide, by decide⟩ (by decide) rfl rfl (Nat.le_of_ble_eq_true rfl) ⟨by decide, by decide⟩ dX3_writePacket_155 ?_
                        intro r9 g155_20 hp9
                        obtain ⟨⟨hT_20, hG_20⟩, z155_20, hr9, hz_20⟩ := hp9
                        rw [hr9]
                        have hF_20 : FR [5, 6, 20, 21] h g155_20 := FR_tr hF_18 hG_20 (by decide)
                        show TT K ly 0 0 158 [(0, vR 7), (1, vI r), (2, vI l), (3, vI n), (4, vR 5), (5, vI an), (6, vI b3)] [vI z155_20] g155_20
                        refine TT_istore hK (lv' := [(7, vI z155_20), (0, vR 7), (1, vI r), (2, vI l), (3, vI n), (4, vR 5), (5, vI an), (6, vI b3)]) (by decide) rfl dX3_writePacket_158 ?_
                        refine TT_aload_n hK rfl 1 rfl dX3_writePacket_160 ?_
                        refine TT_iload hK 7 rfl dX3_writePacket_161 ?_
                        refine TT_aload_n hK rfl 1 rfl dX3_writePacket_163 ?_
                        refine gf_X3_31 hK (by decide) rfl (q := 20) rfl rfl dX3_writePacket_164 ?_
                        refine TT_iload hK 7 rfl dX3_writePacket_167 ?_
                        refine TT_iald hK (o := 20) (n := 10) (by decide) rfl (by first | omega | (simp [up, setR] <;> omega)) (by first | omega | (simp [up, setR] <;> omega)) (v := (w141_17 20) b3) (rd_ (((hG_20 20 (by decide))).trans (hG_18 20 (by decide))) rfl) dX3_writePacket_169 ?_
                        have r21 := ty_20 (i := b3) (v := (w141_17 20) b3) hT_20 (rd_ (((hG_20 20 (by decide))).trans (hG_18 20 (by decide))) rfl) (by omega) (by omega)
                        refine iv_X3_220 hK (s_X3_leastLength_7 b3 ((w141_17 20) b3) g155_20 hT_20 (by first | omega | (simp [up, setR] <;> omega)) (by first | omega | (simp [up, setR] <;> omega))) (by decide) rfl ⟨by decide, by decide⟩ (by decide) rfl rfl (Nat.le_of_ble_eq_true rfl) ⟨by decide, by decide⟩ dX3_writePacket_170 ?_
                        intro r9 g170_22 hp9
                        obtain ⟨⟨hT_22, hG_22⟩, z170_22, hr9, hz_22⟩ := hp9
                        rw [hr9]
                        have hF_22 : FR [5, 6, 20, 21] h g170_22 := FR_tr hF_20 hG_22 (by decide)
                        show TT K ly 0 0 173 [(7, vI z155_20), (0, vR 7), (1, vI r), (2, vI l), (3, vI n), (4, vR 5), (5, vI an), (6, vI b3)] [vI z170_22] g170_22
                        refine TT_istore hK (lv' := [(8, vI z170_22), (7, vI z155_20), (0, vR 7), (1, vI r), (2, vI l), (3, vI n), (4, vR 5), (5, vI an), (6, vI b3)]) (by decide) rfl dX3_writePacket_173 ?_
                        refine TT_aload hK 6 rfl dX3_writePacket_175 ?_
                        refine TT_aload_n hK rfl 2 rfl dX3_writePacket_177 ?_
                        refine gf_X3_40 hK (by decide) rfl (q := 22) rfl rfl dX3_writePacket_178 ?_
                        refine TT_aload_n hK rfl 2 rfl dX3_writePacket_181 ?_
                        refine gf_X3_22 hK (by decide) rfl (q := 17) rfl rfl dX3_writePacket_182 ?_
                        refine TT_iload hK 8 rfl dX3_writePacket_185 ?_
                        refine TT_iald hK (o := 17) (n := 10) (by decide) rfl (by first | omega | (simp [up, setR] <;> omega)) (by first | omega | (simp [up, setR] <;> omega)) (v := (h 17) b3) (rd_ (((hG_22 17 (by decide))).trans (((hG_20 17 (by decide))).trans (((hG_18 17 (by decide))).trans (hF141_17 17 (by decide))))) rfl) dX3_writePacket_187 ?_
                        have r23 := ty_17 (i := b3) (v := (h 17) b3) hT_22 (rd_ (((hG_22 17 (by decide))).trans (((hG_20 17 (by decide))).trans (((hG_18 17 (by decide))).trans (hF141_17 17 (by decide))))) rfl) (by omega) (by omega)
                        refine TT_iload hK 0 rfl dX3_writePacket_188 ?_
                        refine TT_iadd hK dX3_writePacket_190 ?_
                        refine TT_aload_n hK rfl 2 rfl dX3_writePacket_191 ?_
                        refine TT_iload hK 8 rfl dX3_writePacket_192 ?_
                        refine TT_iload hK 1 rfl dX3_writePacket_194 ?_
                        refine iv_X3_220 hK (s_X3_leastLength_7 b3 z155_20 g170_22 hT_22 (by first | omega | (simp [up, setR] <;> omega)) (by first | omega | (simp [up, setR] <;> omega))) (by decide) rfl ⟨by decide, by decide⟩ (by decide) rfl rfl (Nat.le_of_ble_eq_true rfl) ⟨by decide, by decide⟩ dX3_writePacket_196 ?_
                        intro r9 g196_24 hp9
                        obtain ⟨⟨hT_24, hG_24⟩, z196_24, hr9, hz_24⟩ := hp9
                        rw [hr9]
                        have hF_24 : FR [5, 6, 20, 21] h g196_24 := FR_tr hF_22 hG_24 (by decide)
                        show TT K ly 0 0 199 [(8, vI z170_22), (7, vI z155_20), (0, vR 7), (1, vI r), (2, vI l), (3, vI n), (4, vR 5), (5, vI an), (6, vI b3)] [vI z196_24, vI (((h 17) b3) + z170_22), vR 22, vR 5] g196_24
                        refine TT_iload hK 0 rfl dX3_writePacket_199 ?_
                        refine TT_isub hK dX3_writePacket_201 ?_
                        refine iv_X3_223 hK (s_X1_addFrom_5 (((h 17) b3) + z170_22) (z196_24 - z170_22) g196_24 hT_24 (by first | omega | (simp [up, setR] <;> omega)) (by first | omega | (simp [up, setR] <;> omega))) (by decide) rfl ⟨by decide, by decide⟩ (by decide) rfl rfl (Nat.le_of_ble_eq_true rfl) ⟨by decide, by decide⟩ dX3_writePacket_202 ?_
                        intro r9 g202_25 hp9
                        obtain ⟨⟨hT_25, hG_25⟩, hr9⟩ := hp9
                        rw [hr9]
                        have hF_25 : FR [5, 6, 20, 21] h g202_25 := FR_tr hF_24 hG_25 (by decide)
                        show TT K ly 0 0 205 [(8, vI z170_22), (7, vI z155_20), (0, vR 7), (1, vI r), (2, vI l), (3, vI n), (4, vR 5), (5, vI an), (6, vI b3)] [] g202_25
                        refine TT_aload_n hK rfl 2 rfl dX3_writePacket_205 ?_
                        refine gf_X3_31 hK (by decide) rfl (q := 20) rfl rfl dX3_writePacket_206 ?_
                        refine TT_iload hK 8 rfl dX3_writePacket_209 ?_
                        refine TT_iload hK 1 rfl dX3_writePacket_211 ?_
                        refine TT_iast hK (o := 20) (n := 10) (by decide) rfl (by omega) (by omega) dX3_writePacket_213 ?_
                        refine TT_hp (h' := setO g202_25 20 (fup (w141_17 20) b3 z155_20)) (up_can (((hG_25 20 (by decide))).trans (((hG_24 20 (by decide))).trans (((hG_22 20 (by decide))).trans (((hG_20 20 (by decide))).trans (hG_18 20 (by decide)))))) rfl rfl) ?_
                        have hT_26 : TY (setO g202_25 20 (fup (w141_17 20) b3 z155_20)) := tu_20 hT_25 (show up g202_25 20 b3 z155_20 = (setO g202_25 20 (fup (w141_17 20) b3 z155_20)) from up_can (((hG_25 20 (by decide))).trans (((hG_24 20 (by decide))).trans (((hG_22 20 (by decide))).trans (((hG_20 20 (by decide))).trans (hG_18 20 (by decide)))))) rfl rfl) (by omega)
                        have hF_26 : FR [5, 6, 20, 21] h (setO g202_25 20 (fup (w141_17 20) b3 z155_20)) := FR_up (show up g202_25 20 b3 z155_20 = (setO g202_25 20 (fup (w141_17 20) b3 z155_20)) from up_can (((hG_25 20 (by decide))).trans (((hG_24 20 (by decide))).trans (((hG_22 20 (by decide))).trans (((hG_20 20 (by decide))).trans (hG_18 20 (by decide)))))) rfl rfl) hF_25 (by decide)
                        refine TT_iinc hK (v := b3 + 1) (lv' := [(6, vI (b3 + 1)), (8, vI z170_22), (7, vI z155_20), (0, vR 7), (1, vI r), (2, vI l), (3, vI n), (4, vR 5), (5, vI an)]) 8 rfl rfl (by decide) rfl dX3_writePacket_214 ?_
                        refine TT_goto hK (tgt := 141) dX3_writePacket_217 (by decide) ?_
                        refine TT_sub [3, 4, 5, 6, 7, 8, 0] rfl ?_
                        exact ih17 (b3 + 1) (setO g202_25 20 (fup (w141_17 20) b3 z155_20)) hT_26 hF_26 (by first | omega | (simp [up, setR] <;> omega)) (by first | omega | (simp [up, setR] <;> omega))
                  refine TT_sub [1, 2, 3, 4, 5, 6, 0] rfl ?_
                  exact L141_17 ((((10 : Int) - z136_16).toNat) + 1) z136_16 g136_16 hT_16 hF_16 (by first | omega | (simp [up, setR] <;> omega)) (Nat.lt_succ_self _)
                · refine TT_aload_n hK rfl 0 rfl dX3_writePacket_96 ?_
                  refine gf_X3_12 hK (by decide) rfl (q := 8) rfl rfl dX3_writePacket_97 ?_
                  refine TT_iload hK 6 rfl dX3_writePacket_100 ?_
                  refine iv_X3_213 hK (s_X0_isEmpty_8 b2 g90_13 hT_13 (by first | omega | (simp [up, setR] <;> omega))) (by decide) rfl ⟨by decide, by decide⟩ (by decide) rfl rfl (Nat.le_of_ble_eq_true rfl) ⟨by decide, by decide⟩ dX3_writePacket_102 ?_
                  intro r9 g102_27 hp9
                  obtain ⟨⟨hT_27, hG_27⟩, z102_27, hr9, hz_27⟩ := hp9
                  rw [hr9]
                  have hF_27 : FR [5, 6, 20, 21] h g102_27 := FR_tr hF_13 hG_27 (by decide)
                  show TT K ly 0 0 105 [(0, vR 7), (1, vI r), (2, vI l), (3, vI n), (4, vR 5), (5, vI an), (6, vI b2)] [vI z102_27] g102_27
                  refine TT_if_ne hK (tgt := 124) (irm (by omega) (by omega)) dX3_writePacket_105 (by decide) (fun hb105_28 => ?_) (fun hb105_28 => ?_)
                  · refine TT_iinc hK (v := b2 + 1) (lv' := [(6, vI (b2 + 1)), (0, vR 7), (1, vI r), (2, vI l), (3, vI n), (4, vR 5), (5, vI an)]) 6 rfl rfl (by decide) rfl dX3_writePacket_124 ?_
                    refine TT_goto hK (tgt := 87) dX3_writePacket_127 (by decide) ?_
                    refine TT_sub [1, 2, 3, 4, 5, 6, 0] rfl ?_
                    exact ih12 (b2 + 1) g102_27 hT_27 hF_27 (by first | omega | (simp [up, setR] <;> omega)) (by first | omega | (simp [up, setR] <;> omega))
                  · refine TT_aload_n hK rfl 0 rfl dX3_writePacket_108 ?_
                    refine TT_iload hK 6 rfl dX3_writePacket_109 ?_
                    refine TT_aload_n hK rfl 0 rfl dX3_writePacket_111 ?_
                    refine TT_iload hK 6 rfl dX3_writePacket_112 ?_
                    refine TT_iload_n hK rfl 2 rfl dX3_writePacket_114 ?_
                    refine TT_iload_n hK rfl 3 rfl dX3_writePacket_115 ?_
                    refine iv_X3_204 hK (s_X3_passesUpTo_7 b2 l n g102_27 hT_27 (by first | omega | (simp [up, setR] <;> omega)) (by first | omega | (simp [up, setR] <;> omega)) (by first | omega | (simp [up, setR] <;> omega))) (by decide) rfl ⟨by decide, by decide⟩ (by decide) rfl rfl (Nat.le_of_ble_eq_true rfl) ⟨by decide, by decide⟩ dX3_writePacket_116 ?_
                    intro r9 g116_29 hp9
                    obtain ⟨⟨hT_29, hG_29⟩, z116_29, hr9, hz_29⟩ := hp9
                    rw [hr9]
                    have hF_29 : FR [5, 6, 20, 21] h g116_29 := FR_tr hF_27 hG_29 (by decide)
                    show TT K ly 0 0 119 [(0, vR 7), (1, vI r), (2, vI l), (3, vI n), (4, vR 5), (5, vI an), (6, vI b2)] [vI z116_29, vI b2, vR 7] g116_29
                    refine TT_aload hK 4 rfl dX3_writePacket_119 ?_
                    refine iv_X3_216 hK (s_X3_writeBandHead_7 b2 z116_29 g116_29 hT_29 (by first | omega | (simp [up, setR] <;> omega)) (by first | omega | (simp [up, setR] <;> omega))) (by decide) rfl ⟨by decide, by decide⟩ (by decide) rfl rfl (Nat.le_of_ble_eq_true rfl) ⟨by decide, by decide⟩ dX3_writePacket_121 ?_
                    intro r9 g121_30 hp9
                    obtain ⟨⟨hT_30, hG_30⟩, hr9⟩ := hp9
                    rw [hr9]
                    have hF_30 : FR [5, 6, 20, 21] h g121_30 := FR_tr hF_29 hG_30 (by decide)
                    show TT K ly 0 0 124 [(0, vR 7), (1, vI r), (2, vI l), (3, vI n), (4, vR 5), (5, vI an), (6, vI b2)] [] g121_30
                    refine TT_iinc hK (v := b2 + 1) (lv' := [(6, vI (b2 + 1)), (0, vR 7), (1, vI r), (2, vI l), (3, vI n), (4, vR 5), (5, vI an)]) 6 rfl rfl (by decide) rfl dX3_writePacket_124 ?_
                    refine TT_goto hK (tgt := 87) dX3_writePacket_127 (by decide) ?_
                    refine TT_sub [1, 2, 3, 4, 5, 6, 0] rfl ?_
                    exact ih12 (b2 + 1) g121_30 hT_30 hF_30 (by first | omega | (simp [up, setR] <;> omega)) (by first | omega | (simp [up, setR] <;> omega))
            refine TT_sub [1, 2, 3, 4, 5, 6, 0] rfl ?_
            exact L87_12 ((((10 : Int) - z82_11).toNat) + 1) z82_11 g82_11 hT_11 hF_11 (by first | omega | (simp [up, setR] <;> omega)) (Nat.lt_succ_self _)
          · exfalso; omega
      · refine TT_iload hK 5 rfl dX3_writePacket_18 ?_
        refine TT_if_ne hK (tgt := 41) (irm (by omega) (by omega)) dX3_writePacket_20 (by decide) (fun hb20_31 => ?_) (fun hb20_31 => ?_)
        · refine TT_iconst hK dX3_writePacket_41 ?_
          refine TT_goto hK (tgt := 46) dX3_writePacket_42 (by decide) ?_
          refine TT_istore hK (lv' := [(5, vI 1), (0, vR 7), (1, vI r), (2, vI l), (3, vI n), (4, vR 5), (6, vI b1)]) (by decide) rfl dX3_writePacket_46 ?_
          refine TT_iinc hK (v := b1 + 1) (lv' := [(6, vI (b1 + 1)), (5, vI 1), (0, vR 7), (1, vI r), (2, vI l), (3, vI n), (4, vR 5)]) 6 rfl rfl (by decide) rfl dX3_writePacket_48 ?_
          refine TT_goto hK (tgt := 9) dX3_writePacket_51 (by decide) ?_
          refine TT_sub [2, 3, 4, 5, 6, 1, 0] rfl ?_
          exact ih2 1 (b1 + 1) g12_3 hT_3 hF_3 (by first | omega | (simp [up, setR] <;> omega)) (by first | omega | (simp [up, setR] <;> omega)) (by first | omega | (simp [up, setR] <;> omega))
        · refine TT_aload_n hK rfl 0 rfl dX3_writePacket_23 ?_
          refine TT_iload hK 6 rfl dX3_writePacket_24 ?_
          refine TT_iload_n hK rfl 2 rfl dX3_writePacket_26 ?_
          refine TT_iload_n hK rfl 3 rfl dX3_writePacket_27 ?_
          refine iv_X3_204 hK (s_X3_passesUpTo_7 b1 l n g12_3 hT_3 (by first | omega | (simp [up, setR] <;> omega)) (by first | omega | (simp [up, setR] <;> omega)) (by first | omega | (simp [up, setR] <;> omega))) (by decide) rfl ⟨by decide, by decide⟩ (by decide) rfl rfl (Nat.le_of_ble_eq_true rfl) ⟨by decide, by decide⟩ dX3_writePacket_28 ?_
          intro r9 g28_32 hp9
          obtain ⟨⟨hT_32, hG_32⟩, z28_32, hr9, hz_32⟩ := hp9
          rw [hr9]
          have hF_32 : FR [5, 6, 20, 21] h g28_32 := FR_tr hF_3 hG_32 (by decide)
          show TT K ly 0 0 31 [(0, vR 7), (1, vI r), (2, vI l), (3, vI n), (4, vR 5), (5, vI an), (6, vI b1)] [vI z28_32] g28_32
          refine TT_aload_n hK rfl 0 rfl dX3_writePacket_31 ?_
          refine gf_X3_31 hK (by decide) rfl (q := 20) rfl rfl dX3_writePacket_32 ?_
          refine TT_iload hK 6 rfl dX3_writePacket_35 ?_
          refine TT_iald hK (o := 20) (n := 10) (by decide) rfl (by first | omega | (simp [up, setR] <;> omega)) (by first | omega | (simp [up, setR] <;> omega)) (v := (w9_2 20) b1) (rd_ (((hG_32 20 (by decide))).trans (hG_3 20 (by decide))) rfl) dX3_writePacket_37 ?_
          have r33 := ty_20 (i := b1) (v := (w9_2 20) b1) hT_32 (rd_ (((hG_32 20 (by decide))).trans (hG_3 20 (by decide))) rfl) (by omega) (by omega)
          refine TT_icmp_le hK (tgt := 45) (irm (by omega) (by omega)) (irm (by omega) (by omega)) dX3_writePacket_38 (by decide) (fun hb38_34 => ?_) (fun hb38_34 => ?_)
          · refine TT_iconst hK dX3_writePacket_45 ?_
            refine TT_istore hK (lv' := [(5, vI 0), (0, vR 7), (1, vI r), (2, vI l), (3, vI n), (4, vR 5), (6, vI b1)]) (by decide) rfl dX3_writePacket_46 ?_
            refine TT_iinc hK (v := b1 + 1) (lv' := [(6, vI (b1 + 1)), (5, vI 0), (0, vR 7), (1, vI r), (2, vI l), (3, vI n), (4, vR 5)]) 6 rfl rfl (by decide) rfl dX3_writePacket_48 ?_
            refine TT_goto hK (tgt := 9) dX3_writePacket_51 (by decide) ?_
            refine TT_sub [2, 3, 4, 5, 6, 1, 0] rfl ?_
            exact ih2 0 (b1 + 1) g28_32 hT_32 hF_32 (by first | omega | (simp [up, setR] <;> omega)) (by first | omega | (simp [up, setR] <;> omega)) (by first | omega | (simp [up, setR] <;> omega))
          · refine TT_iconst hK dX3_writePacket_41 ?_
            refine TT_goto hK (tgt := 46) dX3_writePacket_42 (by decide) ?_
            refine TT_istore hK (lv' := [(5, vI 1), (0, vR 7), (1, vI r), (2, vI l), (3, vI n), (4, vR 5), (6, vI b1)]) (by decide) rfl dX3_writePacket_46 ?_
            refine TT_iinc hK (v := b1 + 1) (lv' := [(6, vI (b1 + 1)), (5, vI 1), (0, vR 7), (1, vI r), (2, vI l), (3, vI n), (4, vR 5)]) 6 rfl rfl (by decide) rfl dX3_writePacket_48 ?_
            refine TT_goto hK (tgt := 9) dX3_writePacket_51 (by decide) ?_
            refine TT_sub [2, 3, 4, 5, 6, 1, 0] rfl ?_
            exact ih2 1 (b1 + 1) g28_32 hT_32 hF_32 (by first | omega | (simp [up, setR] <;> omega)) (by first | omega | (simp [up, setR] <;> omega)) (by first | omega | (simp [up, setR] <;> omega))
  refine TT_sub [2, 3, 4, 5, 6, 1, 0] rfl ?_
  exact L9_2 ((((10 : Int) - z4_1).toNat) + 1) 0 z4_1 g4_1 hT_1 hF_1 (by first | omega | (simp [up, setR] <;> omega)) (by first | omega | (simp [up, setR] <;> omega)) (Nat.lt_succ_self _)
set_option maxRecDepth 20000 in
theorem s_X3_pack_7 (l n : Int) (h : Hp_) (hT : TY h) (hl : 0 ≤ l ∧ l ≤ 3) (hn : 1 ≤ n ∧ n ≤ 3) (hbd : BDQ (h 10) (h 12) (h 11) (h 13)) : Ctr yX3_pack cX3_pack 7 none (rmd 6) ly ly 0 0 [vR 7, vR 1, vI l, vI n, vR 5] h (fun r h' => (TY h' ∧ FR [5, 6, 8, 9, 10, 11, 12, 13, 14, 15, 16, 17, 18, 19, 20, 21, 22, 23, 24, 25, 26, 27, 28, 29, 30, 31, 32, 33, 34, 36, 37, 38, 39, 41, 42, 43] h h') ∧ r = none ∧ (BDQ (h' 10) (h' 12) (h' 11) (h' 13))) := by
  refine Ctr_of (by decide) (Nat.le_of_ble_eq_true rfl) ⟨Nat.le_refl _, Nat.le_refl _⟩ (fun K hK hQ _ => ?_)
  show TT K ly 0 0 0 [(0, vR 7), (1, vR 1), (2, vI l), (3, vI n), (4, vR 5)] [] h
  have hF : FR [5, 6, 8, 9, 10, 11, 12, 13, 14, 15, 16, 17, 18, 19, 20, 21, 22, 23, 24, 25, 26, 27, 28, 29, 30, 31, 32, 33, 34, 36, 37, 38, 39, 41, 42, 43] h h := FR_rf _ _
  refine TT_aload_n hK rfl 0 rfl dX3_pack_0 ?_
  refine gf_X3_12 hK (by decide) rfl (q := 8) rfl rfl dX3_pack_1 ?_
  refine TT_aload_n hK rfl 1 rfl dX3_pack_4 ?_
  refine gf_X3_95 hK (by decide) rfl (v := (h 1) 1) rfl dX3_pack_5 ?_
  have r1 := ty_1_1 (v := (h 1) 1) hT rfl
  refine TT_aload_n hK rfl 1 rfl dX3_pack_8 ?_
  refine gf_X3_101 hK (by decide) rfl (v := (h 1) 2) rfl dX3_pack_9 ?_
  have r2 := ty_1_2 (v := (h 1) 2) hT rfl
  refine TT_iload_n hK rfl 2 rfl dX3_pack_12 ?_
  refine iv_X3_104 hK (s_X0_lay_8 ((h 1) 1) ((h 1) 2) l h hT (by first | omega | (simp [up, setR] <;> omega)) (by first | omega | (simp [up, setR] <;> omega)) (by first | omega | (simp [up, setR] <;> omega)) (by exact hbd)) (by decide) rfl ⟨by decide, by decide⟩ (by decide) rfl rfl (Nat.le_of_ble_eq_true rfl) ⟨by decide, by decide⟩ dX3_pack_13 ?_
  intro r9 g13_3 hp9
  obtain ⟨⟨hT_3, hG_3⟩, hr9, p1_3⟩ := hp9
  rw [hr9]
  have hF_3 : FR [5, 6, 8, 9, 10, 11, 12, 13, 14, 15, 16, 17, 18, 19, 20, 21, 22, 23, 24, 25, 26, 27, 28, 29, 30, 31, 32, 33, 34, 36, 37, 38, 39, 41, 42, 43] h g13_3 := FR_tr hF hG_3 (by decide)
  show TT K ly 0 0 16 [(0, vR 7), (1, vR 1), (2, vI l), (3, vI n), (4, vR 5)] [] g13_3
  refine TT_aload_n hK rfl 0 rfl dX3_pack_16 ?_
  refine gf_X3_12 hK (by decide) rfl (q := 8) rfl rfl dX3_pack_17 ?_
  refine TT_aload_n hK rfl 1 rfl dX3_pack_20 ?_
  refine iv_X3_108 hK (s_X0_readPicture_8 g13_3 hT_3 ) (by decide) rfl ⟨by decide, by decide⟩ (by decide) rfl rfl (Nat.le_of_ble_eq_true rfl) ⟨by decide, by decide⟩ dX3_pack_21 ?_
  intro r9 g21_4 hp9
  obtain ⟨⟨hT_4, hG_4⟩, hr9⟩ := hp9
  rw [hr9]
  have hF_4 : FR [5, 6, 8, 9, 10, 11, 12, 13, 14, 15, 16, 17, 18, 19, 20, 21, 22, 23, 24, 25, 26, 27, 28, 29, 30, 31, 32, 33, 34, 36, 37, 38, 39, 41, 42, 43] h g21_4 := FR_tr hF_3 hG_4 (by decide)
  show TT K ly 0 0 24 [(0, vR 7), (1, vR 1), (2, vI l), (3, vI n), (4, vR 5)] [] g21_4
  refine TT_aload_n hK rfl 0 rfl dX3_pack_24 ?_
  refine gf_X3_12 hK (by decide) rfl (q := 8) rfl rfl dX3_pack_25 ?_
  refine iv_X3_112 hK (s_X0_goForth_8 g21_4 hT_4 ) (by decide) rfl ⟨by decide, by decide⟩ (by decide) rfl rfl (Nat.le_of_ble_eq_true rfl) ⟨by decide, by decide⟩ dX3_pack_28 ?_
  intro r9 g28_5 hp9
  obtain ⟨⟨hT_5, hG_5⟩, hr9⟩ := hp9
  rw [hr9]
  have hF_5 : FR [5, 6, 8, 9, 10, 11, 12, 13, 14, 15, 16, 17, 18, 19, 20, 21, 22, 23, 24, 25, 26, 27, 28, 29, 30, 31, 32, 33, 34, 36, 37, 38, 39, 41, 42, 43] h g28_5 := FR_tr hF_4 hG_5 (by decide)
  show TT K ly 0 0 31 [(0, vR 7), (1, vR 1), (2, vI l), (3, vI n), (4, vR 5)] [] g28_5
  refine TT_aload_n hK rfl 0 rfl dX3_pack_31 ?_
  refine gf_X3_40 hK (by decide) rfl (q := 22) rfl rfl dX3_pack_32 ?_
  refine iv_X3_115 hK (s_X1_clear_22 g28_5 hT_5 ) (by decide) rfl ⟨by decide, by decide⟩ (by decide) rfl rfl (Nat.le_of_ble_eq_true rfl) ⟨by decide, by decide⟩ dX3_pack_35 ?_
  intro r9 g35_6 hp9
  obtain ⟨⟨hT_6, hG_6⟩, hr9⟩ := hp9
  rw [hr9]
  have hF_6 : FR [5, 6, 8, 9, 10, 11, 12, 13, 14, 15, 16, 17, 18, 19, 20, 21, 22, 23, 24, 25, 26, 27, 28, 29, 30, 31, 32, 33, 34, 36, 37, 38, 39, 41, 42, 43] h g35_6 := FR_tr hF_5 hG_6 (by decide)
  show TT K ly 0 0 38 [(0, vR 7), (1, vR 1), (2, vI l), (3, vI n), (4, vR 5)] [] g35_6
  refine TT_iconst hK dX3_pack_38 ?_
  refine TT_istore hK (lv' := [(5, vI 0), (0, vR 7), (1, vR 1), (2, vI l), (3, vI n), (4, vR 5)]) (by decide) rfl dX3_pack_39 ?_
  have L41_7 : ∀ (k7 : Nat) (b : Int) (w41_7 : Hp_), TY w41_7 → FR [5, 6, 8, 9, 10, 11, 12, 13, 14, 15, 16, 17, 18, 19, 20, 21, 22, 23, 24, 25, 26, 27, 28, 29, 30, 31, 32, 33, 34, 36, 37, 38, 39, 41, 42, 43] h w41_7 → (0 ≤ b ∧ b ≤ 10) → (BDQ (w41_7 10) (w41_7 12) (w41_7 11) (w41_7 13)) → ((10 : Int) - b).toNat < k7 → TT K ly 0 0 41 [(0, vR 7), (1, vR 1), (2, vI l), (3, vI n), (4, vR 5), (5, vI b)] [] w41_7 := by
    intro k7
    induction k7 with
    | zero => intro b w41_7 hT41_7 hF41_7 hb hbd2 hk7; exact absurd hk7 (Nat.not_lt_zero _)
    | succ k7 ih7 =>
      intro b w41_7 hT41_7 hF41_7 hb hbd2 hk7
      refine TT_iload hK 5 rfl dX3_pack_41 ?_
      refine TT_aload_n hK rfl 0 rfl dX3_pack_43 ?_
      refine gf_X3_12 hK (by decide) rfl (q := 8) rfl rfl dX3_pack_44 ?_
      refine gf_X3_118 hK (by decide) rfl (v := (w41_7 8) 10) rfl dX3_pack_47 ?_
      have r8 := ty_8_10 (v := (w41_7 8) 10) hT41_7 rfl
      refine TT_icmp_ge hK (tgt := 100) (irm (by omega) (by omega)) (irm (by omega) (by omega)) dX3_pack_50 (by decide) (fun hb50_9 => ?_) (fun hb50_9 => ?_)
      · refine TT_aload hK 4 rfl dX3_pack_100 ?_
        refine iv_X3_115 hK (s_X1_clear_5 w41_7 hT41_7 ) (by decide) rfl ⟨by decide, by decide⟩ (by decide) rfl rfl (Nat.le_of_ble_eq_true rfl) ⟨by decide, by decide⟩ dX3_pack_102 ?_
        intro r9 g102_10 hp9
        obtain ⟨⟨hT_10, hG_10⟩, hr9⟩ := hp9
        rw [hr9]
        have hF_10 : FR [5, 6, 8, 9, 10, 11, 12, 13, 14, 15, 16, 17, 18, 19, 20, 21, 22, 23, 24, 25, 26, 27, 28, 29, 30, 31, 32, 33, 34, 36, 37, 38, 39, 41, 42, 43] h g102_10 := FR_tr hF41_7 hG_10 (by decide)
        show TT K ly 0 0 105 [(0, vR 7), (1, vR 1), (2, vI l), (3, vI n), (4, vR 5), (5, vI b)] [] g102_10
        refine TT_aload hK 4 rfl dX3_pack_105 ?_
        refine TT_aload_n hK rfl 1 rfl dX3_pack_107 ?_
        refine gf_X3_95 hK (by decide) rfl (v := (h 1) 1) (rd_ (((hG_10 1 (by decide))).trans (hF41_7 1 (by decide))) rfl) dX3_pack_108 ?_
        have r11 := ty_1_1 (v := (h 1) 1) hT_10 (rd_ (((hG_10 1 (by decide))).trans (hF41_7 1 (by decide))) rfl)
        refine iv_X3_131 hK (s_X1_add_5 ((h 1) 1) g102_10 hT_10 (by first | omega | (simp [up, setR] <;> omega))) (by decide) rfl ⟨by decide, by decide⟩ (by decide) rfl rfl (Nat.le_of_ble_eq_true rfl) ⟨by decide, by decide⟩ dX3_pack_111 ?_
        intro r9 g111_12 hp9
        obtain ⟨⟨hT_12, hG_12⟩, hr9⟩ := hp9
        rw [hr9]
        have hF_12 : FR [5, 6, 8, 9, 10, 11, 12, 13, 14, 15, 16, 17, 18, 19, 20, 21, 22, 23, 24, 25, 26, 27, 28, 29, 30, 31, 32, 33, 34, 36, 37, 38, 39, 41, 42, 43] h g111_12 := FR_tr hF_10 hG_12 (by decide)
        show TT K ly 0 0 114 [(0, vR 7), (1, vR 1), (2, vI l), (3, vI n), (4, vR 5), (5, vI b)] [] g111_12
        refine TT_aload hK 4 rfl dX3_pack_114 ?_
        refine TT_aload_n hK rfl 1 rfl dX3_pack_116 ?_
        refine gf_X3_101 hK (by decide) rfl (v := (h 1) 2) (rd_ (((hG_12 1 (by decide))).trans (((hG_10 1 (by decide))).trans (hF41_7 1 (by decide)))) rfl) dX3_pack_117 ?_
        have r13 := ty_1_2 (v := (h 1) 2) hT_12 (rd_ (((hG_12 1 (by decide))).trans (((hG_10 1 (by decide))).trans (hF41_7 1 (by decide)))) rfl)
        refine iv_X3_131 hK (s_X1_add_5 ((h 1) 2) g111_12 hT_12 (by first | omega | (simp [up, setR] <;> omega))) (by decide) rfl ⟨by decide, by decide⟩ (by decide) rfl rfl (Nat.le_of_ble_eq_true rfl) ⟨by decide, by decide⟩ dX3_pack_120 ?_
        intro r9 g120_14 hp9
        obtain ⟨⟨hT_14, hG_14⟩, hr9⟩ := hp9
        rw [hr9]
        have hF_14 : FR [5, 6, 8, 9, 10, 11, 12, 13, 14, 15, 16, 17, 18, 19, 20, 21, 22, 23, 24, 25, 26, 27, 28, 29, 30, 31, 32, 33, 34, 36, 37, 38, 39, 41, 42, 43] h g120_14 := FR_tr hF_12 hG_14 (by decide)
        show TT K ly 0 0 123 [(0, vR 7), (1, vR 1), (2, vI l), (3, vI n), (4, vR 5), (5, vI b)] [] g120_14
        refine TT_aload hK 4 rfl dX3_pack_123 ?_
        refine TT_iload_n hK rfl 2 rfl dX3_pack_125 ?_
        refine iv_X3_131 hK (s_X1_add_5 l g120_14 hT_14 (by first | omega | (simp [up, setR] <;> omega))) (by decide) rfl ⟨by decide, by decide⟩ (by decide) rfl rfl (Nat.le_of_ble_eq_true rfl) ⟨by decide, by decide⟩ dX3_pack_126 ?_
        intro r9 g126_15 hp9
        obtain ⟨⟨hT_15, hG_15⟩, hr9⟩ := hp9
        rw [hr9]
        have hF_15 : FR [5, 6, 8, 9, 10, 11, 12, 13, 14, 15, 16, 17, 18, 19, 20, 21, 22, 23, 24, 25, 26, 27, 28, 29, 30, 31, 32, 33, 34, 36, 37, 38, 39, 41, 42, 43] h g126_15 := FR_tr hF_14 hG_15 (by decide)
        show TT K ly 0 0 129 [(0, vR 7), (1, vR 1), (2, vI l), (3, vI n), (4, vR 5), (5, vI b)] [] g126_15
        refine TT_aload hK 4 rfl dX3_pack_129 ?_
        refine TT_iload_n hK rfl 3 rfl dX3_pack_131 ?_
        refine iv_X3_131 hK (s_X1_add_5 n g126_15 hT_15 (by first | omega | (simp [up, setR] <;> omega))) (by decide) rfl ⟨by decide, by decide⟩ (by decide) rfl rfl (Nat.le_of_ble_eq_true rfl) ⟨by decide, by decide⟩ dX3_pack_132 ?_
        intro r9 g132_16 hp9
        obtain ⟨⟨hT_16, hG_16⟩, hr9⟩ := hp9
        rw [hr9]
        have hF_16 : FR [5, 6, 8, 9, 10, 11, 12, 13, 14, 15, 16, 17, 18, 19, 20, 21, 22, 23, 24, 25, 26, 27, 28, 29, 30, 31, 32, 33, 34, 36, 37, 38, 39, 41, 42, 43] h g132_16 := FR_tr hF_15 hG_16 (by decide)
        show TT K ly 0 0 135 [(0, vR 7), (1, vR 1), (2, vI l), (3, vI n), (4, vR 5), (5, vI b)] [] g132_16
        refine TT_iconst hK dX3_pack_135 ?_
        refine TT_istore hK (lv' := [(5, vI 1), (0, vR 7), (1, vR 1), (2, vI l), (3, vI n), (4, vR 5)]) (by decide) rfl dX3_pack_136 ?_
        have L138_17 : ∀ (k17 : Nat) (y1 : Int) (w138_17 : Hp_), TY w138_17 → FR [5, 6, 8, 9, 10, 11, 12, 13, 14, 15, 16, 17, 18, 19, 20, 21, 22, 23, 24, 25, 26, 27, 28, 29, 30, 31, 32, 33, 34, 36, 37, 38, 39, 41, 42, 43] h w138_17 → (1 ≤ y1 ∧ y1 ≤ 4) → (BDQ (w138_17 10) (w138_17 12) (w138_17 11) (w138_17 13)) → ((4 : Int) - y1).toNat < k17 → TT K ly 0 0 138 [(0, vR 7), (1, vR 1), (2, vI l), (3, vI n), (4, vR 5), (5, vI y1)] [] w138_17 := by
          intro k17
          induction k17 with
          | zero => intro y1 w138_17 hT138_17 hF138_17 hy1 hbd3 hk17; exact absurd hk17 (Nat.not_lt_zero _)
          | succ k17 ih17 =>
            intro y1 w138_17 hT138_17 hF138_17 hy1 hbd3 hk17
            refine TT_iload hK 5 rfl dX3_pack_138 ?_
            refine TT_iload_n hK rfl 3 rfl dX3_pack_140 ?_
            refine TT_icmp_gt hK (tgt := 176) (irm (by omega) (by omega)) (irm (by omega) (by omega)) dX3_pack_141 (by decide) (fun hb141_18 => ?_) (fun hb141_18 => ?_)
            · refine TT_vret hK hQ ?_ dX3_pack_176
              exact ⟨⟨hT138_17, hF138_17⟩, rfl, (by assumption)⟩
            · refine TT_iconst hK dX3_pack_144 ?_
              refine TT_istore hK (lv' := [(6, vI 0), (0, vR 7), (1, vR 1), (2, vI l), (3, vI n), (4, vR 5), (5, vI y1)]) (by decide) rfl dX3_pack_145 ?_
              have L147_19 : ∀ (k19 : Nat) (r1 : Int) (w147_19 : Hp_), TY w147_19 → FR [5, 6, 8, 9, 10, 11, 12, 13, 14, 15, 16, 17, 18, 19, 20, 21, 22, 23, 24, 25, 26, 27, 28, 29, 30, 31, 32, 33, 34, 36, 37, 38, 39, 41, 42, 43] h w147_19 → (0 ≤ r1 ∧ r1 ≤ 4) → (BDQ (w147_19 10) (w147_19 12) (w147_19 11) (w147_19 13)) → ((4 : Int) - r1).toNat < k19 → TT K ly 0 0 147 [(0, vR 7), (1, vR 1), (2, vI l), (3, vI n), (4, vR 5), (5, vI y1), (6, vI r1)] [] w147_19 := by
                intro k19
                induction k19 with
                | zero => intro r1 w147_19 hT147_19 hF147_19 hr1 hbd4 hk19; exact absurd hk19 (Nat.not_lt_zero _)
                | succ k19 ih19 =>
                  intro r1 w147_19 hT147_19 hF147_19 hr1 hbd4 hk19
                  refine TT_iload hK 6 rfl dX3_pack_147 ?_
                  refine TT_iload_n hK rfl 2 rfl dX3_pack_149 ?_
                  refine TT_icmp_gt hK (tgt := 170) (irm (by omega) (by omega)) (irm (by omega) (by omega)) dX3_pack_150 (by decide) (fun hb150_20 => ?_) (fun hb150_20 => ?_)
                  · refine TT_iinc hK (v := y1 + 1) (lv' := [(5, vI (y1 + 1)), (0, vR 7), (1, vR 1), (2, vI l), (3, vI n), (4, vR 5), (6, vI r1)]) 5 rfl rfl (by decide) rfl dX3_pack_170 ?_
                    refine TT_goto hK (tgt := 138) dX3_pack_173 (by decide) ?_
                    refine TT_sub [1, 2, 3, 4, 5, 0] rfl ?_
                    exact ih17 (y1 + 1) w147_19 hT147_19 hF147_19 (by first | omega | (simp [up, setR] <;> omega)) (by assumption) (by first | omega | (simp [up, setR] <;> omega))
                  · refine TT_aload_n hK rfl 0 rfl dX3_pack_153 ?_
                    refine TT_iload hK 6 rfl dX3_pack_154 ?_
                    refine TT_iload hK 5 rfl dX3_pack_156 ?_
                    refine TT_iload_n hK rfl 3 rfl dX3_pack_158 ?_
                    refine TT_aload hK 4 rfl dX3_pack_159 ?_
                    refine iv_X3_134 hK (s_X3_writePacket_7 r1 y1 n w147_19 hT147_19 (by first | omega | (simp [up, setR] <;> omega)) (by first | omega | (simp [up, setR] <;> omega)) (by first | omega | (simp [up, setR] <;> omega))) (by decide) rfl ⟨by decide, by decide⟩ (by decide) rfl rfl (Nat.le_of_ble_eq_true rfl) ⟨by decide, by decide⟩ dX3_pack_161 ?_
                    intro r9 g161_21 hp9
                    obtain ⟨⟨hT_21, hG_21⟩, hr9⟩ := hp9
                    rw [hr9]
                    have hF_21 : FR [5, 6, 8, 9, 10, 11, 12, 13, 14, 15, 16, 17, 18, 19, 20, 21, 22, 23, 24, 25, 26, 27, 28, 29, 30, 31, 32, 33, 34, 36, 37, 38, 39, 41, 42, 43] h g161_21 := FR_tr hF147_19 hG_21 (by decide)
                    show TT K ly 0 0 164 [(0, vR 7), (1, vR 1), (2, vI l), (3, vI n), (4, vR 5), (5, vI y1), (6, vI r1)] [] g161_21
                    refine TT_iinc hK (v := r1 + 1) (lv' := [(6, vI (r1 + 1)), (0, vR 7), (1, vR 1), (2, vI l), (3, vI n), (4, vR 5), (5, vI y1)]) 6 rfl rfl (by decide) rfl dX3_pack_164 ?_
                    refine TT_goto hK (tgt := 147) dX3_pack_167 (by decide) ?_
                    refine TT_sub [1, 2, 3, 4, 5, 6, 0] rfl ?_
                    have e22_10 : g161_21 10 = w147_19 10 := (hG_21 10 (by decide))
                    have e23_11 : g161_21 11 = w147_19 11 := (hG_21 11 (by decide))
                    have e24_12 : g161_21 12 = w147_19 12 := (hG_21 12 (by decide))
                    have e25_13 : g161_21 13 = w147_19 13 := (hG_21 13 (by decide))
                    exact ih19 (r1 + 1) g161_21 hT_21 hF_21 (by first | omega | (simp [up, setR] <;> omega)) (by rw [e22_10, e23_11, e24_12, e25_13]; assumption) (by first | omega | (simp [up, setR] <;> omega))
              refine TT_sub [1, 2, 3, 4, 5, 6, 0] rfl ?_
              exact L147_19 ((((4 : Int) - 0).toNat) + 1) 0 w138_17 hT138_17 hF138_17 (by first | omega | (simp [up, setR] <;> omega)) (by assumption) (Nat.lt_succ_self _)
        refine TT_sub [1, 2, 3, 4, 5, 0] rfl ?_
        have e26_10 : g132_16 10 = w41_7 10 := ((hG_16 10 (by decide))).trans (((hG_15 10 (by decide))).trans (((hG_14 10 (by decide))).trans (((hG_12 10 (by decide))).trans (hG_10 10 (by decide)))))
        have e27_11 : g132_16 11 = w41_7 11 := ((hG_16 11 (by decide))).trans (((hG_15 11 (by decide))).trans (((hG_14 11 (by decide))).trans (((hG_12 11 (by decide))).trans (hG_10 11 (by decide)))))
        have e28_12 : g132_16 12 = w41_7 12 := ((hG_16 12 (by decide))).trans (((hG_15 12 (by decide))).trans (((hG_14 12 (by decide))).trans (((hG_12 12 (by decide))).trans (hG_10 12 (by decide)))))
        have e29_13 : g132_16 13 = w41_7 13 := ((hG_16 13 (by decide))).trans (((hG_15 13 (by decide))).trans (((hG_14 13 (by decide))).trans (((hG_12 13 (by decide))).trans (hG_10 13 (by decide)))))
        exact L138_17 ((((4 : Int) - 1).toNat) + 1) 1 g132_16 hT_16 hF_16 (by first | omega | (simp [up, setR] <;> omega)) (by rw [e26_10, e27_11, e28_12, e29_13]; assumption) (Nat.lt_succ_self _)
      · refine TT_aload_n hK rfl 0 rfl dX3_pack_53 ?_
        refine gf_X3_18 hK (by decide) rfl (q := 16) rfl rfl dX3_pack_54 ?_
        refine TT_iload hK 5 rfl dX3_pack_57 ?_
        refine TT_aload_n hK rfl 0 rfl dX3_pack_59 ?_
        refine TT_iload hK 5 rfl dX3_pack_60 ?_
        refine iv_X3_121 hK (s_X3_planesOf_7 b w41_7 hT41_7 (by first | omega | (simp [up, setR] <;> omega)) (by first | assumption | exact hbd)) (by decide) rfl ⟨by decide, by decide⟩ (by decide) rfl rfl (Nat.le_of_ble_eq_true rfl) ⟨by decide, by decide⟩ dX3_pack_62 ?_
        intro r9 g62_30 hp9
        obtain ⟨⟨hT_30, hG_30⟩, z62_30, hr9, hz_30⟩ := hp9
        rw [hr9]
        have hF_30 : FR [5, 6, 8, 9, 10, 11, 12, 13, 14, 15, 16, 17, 18, 19, 20, 21, 22, 23, 24, 25, 26, 27, 28, 29, 30, 31, 32, 33, 34, 36, 37, 38, 39, 41, 42, 43] h g62_30 := FR_tr hF41_7 hG_30 (by decide)
        show TT K ly 0 0 65 [(0, vR 7), (1, vR 1), (2, vI l), (3, vI n), (4, vR 5), (5, vI b)] [vI z62_30, vI b, vR 16] g62_30
        refine TT_iast hK (o := 16) (n := 10) (by decide) rfl (by omega) (by omega) dX3_pack_65 ?_
        refine TT_hp (h' := setO g62_30 16 (fup (w41_7 16) b z62_30)) (up_can (hG_30 16 (by decide)) rfl rfl) ?_
        have hT_31 : TY (setO g62_30 16 (fup (w41_7 16) b z62_30)) := tu_16 hT_30 (show up g62_30 16 b z62_30 = (setO g62_30 16 (fup (w41_7 16) b z62_30)) from up_can (hG_30 16 (by decide)) rfl rfl) (by omega)
        have hF_31 : FR [5, 6, 8, 9, 10, 11, 12, 13, 14, 15, 16, 17, 18, 19, 20, 21, 22, 23, 24, 25, 26, 27, 28, 29, 30, 31, 32, 33, 34, 36, 37, 38, 39, 41, 42, 43] h (setO g62_30 16 (fup (w41_7 16) b z62_30)) := FR_up (show up g62_30 16 b z62_30 = (setO g62_30 16 (fup (w41_7 16) b z62_30)) from up_can (hG_30 16 (by decide)) rfl rfl) hF_30 (by decide)
        refine TT_aload_n hK rfl 0 rfl dX3_pack_66 ?_
        refine gf_X3_31 hK (by decide) rfl (q := 20) rfl rfl dX3_pack_67 ?_
        refine TT_iload hK 5 rfl dX3_pack_70 ?_
        refine TT_iconst hK dX3_pack_72 ?_
        refine TT_iast hK (o := 20) (n := 10) (by decide) rfl (by omega) (by omega) dX3_pack_73 ?_
        refine TT_hp (h' := setO (setO g62_30 16 (fup (w41_7 16) b z62_30)) 20 (fup (w41_7 20) b 0)) (up_can ((sOf_ne _ _ (by decide)).trans (hG_30 20 (by decide))) rfl rfl) ?_
        have hT_32 : TY (setO (setO g62_30 16 (fup (w41_7 16) b z62_30)) 20 (fup (w41_7 20) b 0)) := tu_20 hT_31 (show up (setO g62_30 16 (fup (w41_7 16) b z62_30)) 20 b 0 = (setO (setO g62_30 16 (fup (w41_7 16) b z62_30)) 20 (fup (w41_7 20) b 0)) from up_can ((sOf_ne _ _ (by decide)).trans (hG_30 20 (by decide))) rfl rfl) (by omega)
        have hF_32 : FR [5, 6, 8, 9, 10, 11, 12, 13, 14, 15, 16, 17, 18, 19, 20, 21, 22, 23, 24, 25, 26, 27, 28, 29, 30, 31, 32, 33, 34, 36, 37, 38, 39, 41, 42, 43] h (setO (setO g62_30 16 (fup (w41_7 16) b z62_30)) 20 (fup (w41_7 20) b 0)) := FR_up (show up (setO g62_30 16 (fup (w41_7 16) b z62_30)) 20 b 0 = (setO (setO g62_30 16 (fup (w41_7 16) b z62_30)) 20 (fup (w41_7 20) b 0)) from up_can ((sOf_ne _ _ (by decide)).trans (hG_30 20 (by decide))) rfl rfl) hF_31 (by decide)
        refine TT_aload_n hK rfl 0 rfl dX3_pack_74 ?_
        refine gf_X3_34 hK (by decide) rfl (q := 21) rfl rfl dX3_pack_75 ?_
        refine TT_iload hK 5 rfl dX3_pack_78 ?_
        refine TT_iconst hK dX3_pack_80 ?_
        refine TT_iast hK (o := 21) (n := 10) (by decide) rfl (by omega) (by omega) dX3_pack_81 ?_
        refine TT_hp (h' := setO (setO (setO g62_30 16 (fup (w41_7 16) b z62_30)) 20 (fup (w41_7 20) b 0)) 21 (fup (w41_7 21) b 3)) (up_can ((sOf_ne _ _ (by decide)).trans ((sOf_ne _ _ (by decide)).trans (hG_30 21 (by decide)))) rfl rfl) ?_
        have hT_33 : TY (setO (setO (setO g62_30 16 (fup (w41_7 16) b z62_30)) 20 (fup (w41_7 20) b 0)) 21 (fup (w41_7 21) b 3)) := tu_21 hT_32 (show up (setO (setO g62_30 16 (fup (w41_7 16) b z62_30)) 20 (fup (w41_7 20) b 0)) 21 b 3 = (setO (setO (setO g62_30 16 (fup (w41_7 16) b z62_30)) 20 (fup (w41_7 20) b 0)) 21 (fup (w41_7 21) b 3)) from up_can ((sOf_ne _ _ (by decide)).trans ((sOf_ne _ _ (by decide)).trans (hG_30 21 (by decide)))) rfl rfl) (by omega)
        have hF_33 : FR [5, 6, 8, 9, 10, 11, 12, 13, 14, 15, 16, 17, 18, 19, 20, 21, 22, 23, 24, 25, 26, 27, 28, 29, 30, 31, 32, 33, 34, 36, 37, 38, 39, 41, 42, 43] h (setO (setO (setO g62_30 16 (fup (w41_7 16) b z62_30)) 20 (fup (w41_7 20) b 0)) 21 (fup (w41_7 21) b 3)) := FR_up (show up (setO (setO g62_30 16 (fup (w41_7 16) b z62_30)) 20 (fup (w41_7 20) b 0)) 21 b 3 = (setO (setO (setO g62_30 16 (fup (w41_7 16) b z62_30)) 20 (fup (w41_7 20) b 0)) 21 (fup (w41_7 21) b 3)) from up_can ((sOf_ne _ _ (by decide)).trans ((sOf_ne _ _ (by decide)).trans (hG_30 21 (by decide)))) rfl rfl) hF_32 (by decide)
        refine TT_aload_n hK rfl 0 rfl dX3_pack_82 ?_
        refine TT_iload hK 5 rfl dX3_pack_83 ?_
        have e34_10 : (setO (setO (setO g62_30 16 (fup (w41_7 16) b z62_30)) 20 (fup (w41_7 20) b 0)) 21 (fup (w41_7 21) b 3)) 10 = w41_7 10 := (sOf_ne _ _ (by decide)).trans ((sOf_ne _ _ (by decide)).trans ((sOf_ne _ _ (by decide)).trans (hG_30 10 (by decide))))
        have e35_11 : (setO (setO (setO g62_30 16 (fup (w41_7 16) b z62_30)) 20 (fup (w41_7 20) b 0)) 21 (fup (w41_7 21) b 3)) 11 = w41_7 11 := (sOf_ne _ _ (by decide)).trans ((sOf_ne _ _ (by decide)).trans ((sOf_ne _ _ (by decide)).trans (hG_30 11 (by decide))))
        have e36_12 : (setO (setO (setO g62_30 16 (fup (w41_7 16) b z62_30)) 20 (fup (w41_7 20) b 0)) 21 (fup (w41_7 21) b 3)) 12 = w41_7 12 := (sOf_ne _ _ (by decide)).trans ((sOf_ne _ _ (by decide)).trans ((sOf_ne _ _ (by decide)).trans (hG_30 12 (by decide))))
        have e37_13 : (setO (setO (setO g62_30 16 (fup (w41_7 16) b z62_30)) 20 (fup (w41_7 20) b 0)) 21 (fup (w41_7 21) b 3)) 13 = w41_7 13 := (sOf_ne _ _ (by decide)).trans ((sOf_ne _ _ (by decide)).trans ((sOf_ne _ _ (by decide)).trans (hG_30 13 (by decide))))
        refine iv_X3_124 hK (s_X3_tellBand_7 b (setO (setO (setO g62_30 16 (fup (w41_7 16) b z62_30)) 20 (fup (w41_7 20) b 0)) 21 (fup (w41_7 21) b 3)) hT_33 (by first | omega | (simp [up, setR] <;> omega)) (by rw [e34_10, e35_11, e36_12, e37_13]; first | assumption | exact hbd)) (by decide) rfl ⟨by decide, by decide⟩ (by decide) rfl rfl (Nat.le_of_ble_eq_true rfl) ⟨by decide, by decide⟩ dX3_pack_85 ?_
        intro r9 g85_38 hp9
        obtain ⟨⟨hT_38, hG_38⟩, hr9⟩ := hp9
        rw [hr9]
        have hF_38 : FR [5, 6, 8, 9, 10, 11, 12, 13, 14, 15, 16, 17, 18, 19, 20, 21, 22, 23, 24, 25, 26, 27, 28, 29, 30, 31, 32, 33, 34, 36, 37, 38, 39, 41, 42, 43] h g85_38 := FR_tr hF_33 hG_38 (by decide)
        show TT K ly 0 0 88 [(0, vR 7), (1, vR 1), (2, vI l), (3, vI n), (4, vR 5), (5, vI b)] [] g85_38
        refine TT_aload_n hK rfl 0 rfl dX3_pack_88 ?_
        refine TT_iload hK 5 rfl dX3_pack_89 ?_
        refine iv_X3_128 hK (s_X3_findLeasts_7 b g85_38 hT_38 (by first | omega | (simp [up, setR] <;> omega))) (by decide) rfl ⟨by decide, by decide⟩ (by decide) rfl rfl (Nat.le_of_ble_eq_true rfl) ⟨by decide, by decide⟩ dX3_pack_91 ?_
        intro r9 g91_39 hp9
        obtain ⟨⟨hT_39, hG_39⟩, hr9⟩ := hp9
        rw [hr9]
        have hF_39 : FR [5, 6, 8, 9, 10, 11, 12, 13, 14, 15, 16, 17, 18, 19, 20, 21, 22, 23, 24, 25, 26, 27, 28, 29, 30, 31, 32, 33, 34, 36, 37, 38, 39, 41, 42, 43] h g91_39 := FR_tr hF_38 hG_39 (by decide)
        show TT K ly 0 0 94 [(0, vR 7), (1, vR 1), (2, vI l), (3, vI n), (4, vR 5), (5, vI b)] [] g91_39
        refine TT_iinc hK (v := b + 1) (lv' := [(5, vI (b + 1)), (0, vR 7), (1, vR 1), (2, vI l), (3, vI n), (4, vR 5)]) 5 rfl rfl (by decide) rfl dX3_pack_94 ?_
        refine TT_goto hK (tgt := 41) dX3_pack_97 (by decide) ?_
        refine TT_sub [1, 2, 3, 4, 5, 0] rfl ?_
        have e40_10 : g91_39 10 = w41_7 10 := ((hG_39 10 (by decide))).trans (((hG_38 10 (by decide))).trans ((sOf_ne _ _ (by decide)).trans ((sOf_ne _ _ (by decide)).trans ((sOf_ne _ _ (by decide)).trans (hG_30 10 (by decide))))))
        have e41_11 : g91_39 11 = w41_7 11 := ((hG_39 11 (by decide))).trans (((hG_38 11 (by decide))).trans ((sOf_ne _ _ (by decide)).trans ((sOf_ne _ _ (by decide)).trans ((sOf_ne _ _ (by decide)).trans (hG_30 11 (by decide))))))
        have e42_12 : g91_39 12 = w41_7 12 := ((hG_39 12 (by decide))).trans (((hG_38 12 (by decide))).trans ((sOf_ne _ _ (by decide)).trans ((sOf_ne _ _ (by decide)).trans ((sOf_ne _ _ (by decide)).trans (hG_30 12 (by decide))))))
        have e43_13 : g91_39 13 = w41_7 13 := ((hG_39 13 (by decide))).trans (((hG_38 13 (by decide))).trans ((sOf_ne _ _ (by decide)).trans ((sOf_ne _ _ (by decide)).trans ((sOf_ne _ _ (by decide)).trans (hG_30 13 (by decide))))))
        exact ih7 (b + 1) g91_39 hT_39 hF_39 (by first | omega | (simp [up, setR] <;> omega)) (by rw [e40_10, e41_11, e42_12, e43_13]; assumption) (by first | omega | (simp [up, setR] <;> omega))
  refine TT_sub [1, 2, 3, 4, 5, 0] rfl ?_
  have e44_10 : g35_6 10 = g13_3 10 := ((hG_6 10 (by decide))).trans (((hG_5 10 (by decide))).trans (hG_4 10 (by decide)))
  have e45_11 : g35_6 11 = g13_3 11 := ((hG_6 11 (by decide))).trans (((hG_5 11 (by decide))).trans (hG_4 11 (by decide)))
  have e46_12 : g35_6 12 = g13_3 12 := ((hG_6 12 (by decide))).trans (((hG_5 12 (by decide))).trans (hG_4 12 (by decide)))
  have e47_13 : g35_6 13 = g13_3 13 := ((hG_6 13 (by decide))).trans (((hG_5 13 (by decide))).trans (hG_4 13 (by decide)))
  exact L41_7 ((((10 : Int) - 0).toNat) + 1) 0 g35_6 hT_6 hF_6 (by first | omega | (simp [up, setR] <;> omega)) (by rw [e44_10, e45_11, e46_12, e47_13]; assumption) (Nat.lt_succ_self _)

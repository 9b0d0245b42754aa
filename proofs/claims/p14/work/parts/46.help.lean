/-! the law's helpers, that catch -/
def rmh : Room := { frames := 11, cells := 1, slots := 6, locals := 440 }
theorem tab_ex (l : List ExceptionTableEntry) : ∃ hh, l = tableOf hh := by
  induction l with
  | nil => exact ⟨[], rfl⟩
  | cons x r ih =>
    obtain ⟨hh, h⟩ := ih
    cases x with
    | mk a b c d => exact ⟨(a, b, c, d) :: hh, by rw [h]; rfl⟩
theorem iae_ot : Cond.castable IAE_ IAE_ ∈ lw_ot := List.mem_filter.mpr ⟨tb_3 12 rfl, rfl⟩
theorem iae_cl : Cond.classLink RL 13 IAE_ ∈ lw_good := gd_ (tb_3 2 rfl) rfl
theorem hp_picture (a b : Int) (h : Hp_) (hT : TY h) (ha : -2147483648 ≤ a ∧ a ≤ 2147483647) (hb : -2147483648 ≤ b ∧ b ≤ 2147483647)  : CtrH yL_picture cL_picture 4 (some .int) [(0, 6, 9, 13)] rmh ly ly 1 6 [vR 0, vI a, vI b] h (fun r h' => ∃ z : Int, r = some (vI z) ∧ (TY h' ∧ FR [1, 2] h h') ∧ ((z = 0 ∧ ((1 ≤ a ∧ a ≤ 8) ∧ (1 ≤ b ∧ b ≤ 8)) ∧ h' 1 1 = a ∧ h' 1 2 = b ∧ ∀ j : Int, 0 ≤ j → j < 64 → h' 2 j = 0) ∨ (z = 1 ∧ ¬((1 ≤ a ∧ a ≤ 8) ∧ (1 ≤ b ∧ b ≤ 8)) ∧ h' 1 = h 1 ∧ h' 2 = h 2))) := by
  refine CtrH_of (y2 := yX12_picture) (by decide) (gd_ (tb_5 225 rfl) rfl) (Nat.le_of_ble_eq_true rfl) ⟨Nat.le_refl _, Nat.le_refl _⟩ (fun K hK hQ hH => ?_)
  show TT K ly 0 0 0 [(0, vR 0), (1, vI a), (2, vI b)] [] h
  refine TT_aload_n hK rfl 0 rfl dL_picture_0 ?_
  refine TT_iload_n hK rfl 1 rfl dL_picture_1 ?_
  refine TT_iload_n hK rfl 2 rfl dL_picture_2 ?_
  refine TT_callVB hK hH (y := yX11_picture) (As := [vI a, vI b]) (st := []) (n := 2) (o := 0) (ci := 10) (C := RX11) (T := TX11) (N := 5) (mc := 1) (ms := 6) (s_X11_picture_0 a b h hT ha hb) rfl (by decide) (by decide) rfl ⟨rfl, rfl⟩ ⟨by decide, by decide⟩ (gd_ (tb_3 6 rfl) rfl) ⟨rfl, by decide, by decide, by decide +kernel⟩ (List.forall_mem_cons.mpr ⟨(gd_ (tb_3 3 rfl) rfl), (List.forall_mem_cons.mpr ⟨(gd_ (tb_3 4 rfl) rfl), (List.forall_mem_cons.mpr ⟨(gd_ (tb_3 5 rfl) rfl), (List.forall_mem_cons.mpr ⟨(gd_ (tb_1 1 rfl) rfl), (fun _ z => absurd z List.not_mem_nil)⟩)⟩)⟩)⟩) rfl (Nat.le_refl _) rfl rfl (Nat.le_of_ble_eq_true rfl) ⟨by decide, by decide⟩ dL_picture_3 ⟨0, 6, 9, 13⟩ rfl rfl (by decide) iae_cl iae_ot (i := 3) (ln := 1) (by decide) (Or.inl ⟨3, rfl, dL_picture_9, rfl⟩) ?_ ?_
  · intro r9 h9 hp9
    obtain ⟨⟨hT9, hF9⟩, hr9, q1, q2, q3, q4⟩ := hp9
    rw [hr9]
    show TT K ly 1 6 6 [(0, vR 0), (1, vI a), (2, vI b)] [] h9
    refine TT_goto hK (tgt := 12) dL_picture_6 rfl ?_
    refine TT_iconst hK dL_picture_12 ?_
    exact TT_iret hK hQ ⟨0, rfl, ⟨hT9, hF9⟩, Or.inl ⟨rfl, q1, q2, q3, q4⟩⟩ dL_picture_13
  · intro h9 hp9
    obtain ⟨⟨hT9, hF9⟩, q1, q2, q3⟩ := hp9
    show TT K ly 1 6 10 [(0, vR 0), (1, vI a), (2, vI b)] [] h9
    refine TT_iconst hK dL_picture_10 ?_
    exact TT_iret hK hQ ⟨1, rfl, ⟨hT9, hF9⟩, Or.inr ⟨rfl, q1, q2, q3⟩⟩ dL_picture_11
theorem hp_paint (x y v : Int) (h : Hp_) (hT : TY h) (hx : -2147483648 ≤ x ∧ x ≤ 2147483647) (hy : -2147483648 ≤ y ∧ y ≤ 2147483647) (hv : -2147483648 ≤ v ∧ v ≤ 2147483647)  : CtrH yL_paint cL_paint 5 (some .int) [(0, 7, 10, 13)] rmh ly ly 1 6 [vR 0, vI x, vI y, vI v] h (fun r h' => ∃ z : Int, r = some (vI z) ∧ (TY h' ∧ FR [2] h h') ∧ ((z = 0 ∧ (((0 ≤ x ∧ x < h 1 1) ∧ (0 ≤ y ∧ y < h 1 2)) ∧ (0 ≤ v ∧ v ≤ 255)) ∧ h' 2 = fup (h 2) (y * 8 + x) v) ∨ (z = 1 ∧ ¬(((0 ≤ x ∧ x < h 1 1) ∧ (0 ≤ y ∧ y < h 1 2)) ∧ (0 ≤ v ∧ v ≤ 255)) ∧ h' 2 = h 2))) := by
  refine CtrH_of (y2 := yX12_tellBand) (by decide) (gd_ (tb_6 62 rfl) rfl) (Nat.le_of_ble_eq_true rfl) ⟨Nat.le_refl _, Nat.le_refl _⟩ (fun K hK hQ hH => ?_)
  show TT K ly 0 0 0 [(0, vR 0), (1, vI x), (2, vI y), (3, vI v)] [] h
  refine TT_aload_n hK rfl 0 rfl dL_paint_0 ?_
  refine TT_iload_n hK rfl 1 rfl dL_paint_1 ?_
  refine TT_iload_n hK rfl 2 rfl dL_paint_2 ?_
  refine TT_iload_n hK rfl 3 rfl dL_paint_3 ?_
  refine TT_callVB hK hH (y := yX11_paint) (As := [vI x, vI y, vI v]) (st := []) (n := 3) (o := 0) (ci := 10) (C := RX11) (T := TX11) (N := 5) (mc := 1) (ms := 6) (s_X11_paint_0 x y v h hT hx hy hv) rfl (by decide) (by decide) rfl ⟨rfl, rfl⟩ ⟨by decide, by decide⟩ (gd_ (tb_3 82 rfl) rfl) ⟨rfl, by decide, by decide, by decide +kernel⟩ (List.forall_mem_cons.mpr ⟨(gd_ (tb_3 79 rfl) rfl), (List.forall_mem_cons.mpr ⟨(gd_ (tb_3 80 rfl) rfl), (List.forall_mem_cons.mpr ⟨(gd_ (tb_3 81 rfl) rfl), (List.forall_mem_cons.mpr ⟨(gd_ (tb_1 1 rfl) rfl), (fun _ z => absurd z List.not_mem_nil)⟩)⟩)⟩)⟩) rfl (Nat.le_refl _) rfl rfl (Nat.le_of_ble_eq_true rfl) ⟨by decide, by decide⟩ dL_paint_4 ⟨0, 7, 10, 13⟩ rfl rfl (by decide) iae_cl iae_ot (i := 4) (ln := 2) (by decide) (Or.inr ⟨dL_paint_10, rfl⟩) ?_ ?_
  · intro r9 h9 hp9
    obtain ⟨⟨hT9, hF9⟩, hr9, q1, q2⟩ := hp9
    rw [hr9]
    show TT K ly 1 6 7 [(0, vR 0), (1, vI x), (2, vI y), (3, vI v)] [] h9
    refine TT_goto hK (tgt := 14) dL_paint_7 rfl ?_
    refine TT_iconst hK dL_paint_14 ?_
    exact TT_iret hK hQ ⟨0, rfl, ⟨hT9, hF9⟩, Or.inl ⟨rfl, q1, q2⟩⟩ dL_paint_15
  · intro h9 hp9
    obtain ⟨⟨hT9, hF9⟩, q1, q2⟩ := hp9
    show TT K ly 1 6 12 [(0, vR 0), (1, vI x), (2, vI y), (3, vI v)] [] h9
    refine TT_iconst hK dL_paint_12 ?_
    exact TT_iret hK hQ ⟨1, rfl, ⟨hT9, hF9⟩, Or.inr ⟨rfl, q1, q2⟩⟩ dL_paint_13
theorem hp_encode (a b : Int) (h : Hp_) (hT : TY h) (ha : -2147483648 ≤ a ∧ a ≤ 2147483647) (hb : -2147483648 ≤ b ∧ b ≤ 2147483647) (hbd : BDQ (h 10) (h 12) (h 11) (h 13)) (hsd : (1 ≤ h 1 1 ∧ h 1 1 ≤ 8) ∧ (1 ≤ h 1 2 ∧ h 1 2 ≤ 8)) : CtrH yL_encode cL_encode 5 (some .int) [(0, 10, 13, 13)] rmh ly ly 1 6 [vR 0, vI a, vI b, vR 107] h (fun r h' => ∃ z : Int, r = some (vI z) ∧ (TY h' ∧ FR [5, 6, 8, 9, 10, 11, 12, 13, 14, 15, 16, 17, 18, 19, 20, 21, 22, 23, 24, 25, 26, 27, 28, 29, 30, 31, 32, 33, 34, 36, 37, 38, 39, 41, 42, 43, 107] h h') ∧ (((z = 0 ∧ ((0 ≤ a ∧ a ≤ 3) ∧ (1 ≤ b ∧ b ≤ 3)) ∧ (h' 8 10) = 3 * a + 1 ∧ (∀ b : Int, 0 ≤ b → b < 3 * a + 1 → (h' 12) b = BW (h 1 1) a b ∧ (h' 13) b = BH (h 1 2) a b) ∧ (∀ b x2 y2 : Int, 0 ≤ b → b < 3 * a + 1 → 0 ≤ x2 → x2 < BW (h 1 1) a b → 0 ≤ y2 → y2 < BH (h 1 2) a b → (h' 9) (((h' 11) b + y2) * 8 + (h' 10) b + x2) = LE (h 1 1) (h 1 2) (fun i => (h 2) i - 128) a (8 * CY (h 1 2) a b + CX (h 1 1) a b + 8 * y2 + x2)) ∧ (CPQ (h 1 1) (h 1 2) (fun i => (h 2) i - 128) a (3 * a + 1) (h' 16) (h' 23) (h' 17) (h' 18)) ∧ (∀ c : Int, 0 ≤ c → c < (3 * a + 1) → 0 ≤ (h' 17) c ∧ (h' 17) c + (h' 18) c ≤ (h' 22 1)) ∧ (LSQ (h 1 1) (h 1 2) (fun i => (h 2) i - 128) a (3 * a + 1) (h' 16) (h' 23) (h' 17) (h' 18) (h' 19)) ∧ (CBR (h' 5 1) (h' 5 2) (h' 6) (stS ((h' 16), (h' 19), (h' 12), (h' 13), fun c i => (h' 23) ((h' 17) c + i)) b a b.toNat (y0S (h 1 1) (h 1 2) a b)).1 ∧ (0 ≤ (stS ((h' 16), (h' 19), (h' 12), (h' 13), fun c i => (h' 23) ((h' 17) c + i)) b a b.toNat (y0S (h 1 1) (h 1 2) a b)).1.1 ∧ (stS ((h' 16), (h' 19), (h' 12), (h' 13), fun c i => (h' 23) ((h' 17) c + i)) b a b.toNat (y0S (h 1 1) (h 1 2) a b)).1.2.1 = 0)) ∧ (LQ (h' 16) (h' 18) (h' 19) (3 * a + 1)) ∧ h' 107 0 = h' 5 1) ∨ (z = 1 ∧ ¬((0 ≤ a ∧ a ≤ 3) ∧ (1 ≤ b ∧ b ≤ 3)) ∧ h' 8 = h 8 ∧ h' 9 = h 9 ∧ h' 10 = h 10 ∧ h' 11 = h 11 ∧ h' 12 = h 12 ∧ h' 13 = h 13 ∧ h' 16 = h 16 ∧ h' 17 = h 17 ∧ h' 18 = h 18 ∧ h' 22 = h 22 ∧ h' 23 = h 23 ∧ h' 19 = h 19 ∧ h' 5 = h 5 ∧ h' 6 = h 6)) ∧ BDQ (h' 10) (h' 12) (h' 11) (h' 13))) := by
  refine CtrH_of (y2 := yX12_tellBand) (by decide) (gd_ (tb_6 62 rfl) rfl) (Nat.le_of_ble_eq_true rfl) ⟨Nat.le_refl _, Nat.le_refl _⟩ (fun K hK hQ hH => ?_)
  show TT K ly 0 0 0 [(0, vR 0), (1, vI a), (2, vI b), (3, vR 107)] [] h
  refine TT_aload_n hK rfl 3 rfl dL_encode_0 ?_
  refine TT_iconst hK dL_encode_1 ?_
  refine TT_aload_n hK rfl 0 rfl dL_encode_2 ?_
  refine TT_iload_n hK rfl 1 rfl dL_encode_3 ?_
  refine TT_iload_n hK rfl 2 rfl dL_encode_4 ?_
  refine TT_callVB hK hH (y := yX11_encode) (As := [vI a, vI b]) (st := [vI 0, vR 107]) (n := 2) (o := 0) (ci := 10) (C := RX11) (T := TX11) (N := 5) (mc := 1) (ms := 6) (s_cencode_s a b h hT ha hb hbd hsd) rfl (by decide) (by decide) rfl ⟨rfl, rfl⟩ ⟨by decide, by decide⟩ (gd_ (tb_3 95 rfl) rfl) ⟨rfl, by decide, by decide, by decide +kernel⟩ (List.forall_mem_cons.mpr ⟨(gd_ (tb_3 92 rfl) rfl), (List.forall_mem_cons.mpr ⟨(gd_ (tb_3 93 rfl) rfl), (List.forall_mem_cons.mpr ⟨(gd_ (tb_3 94 rfl) rfl), (List.forall_mem_cons.mpr ⟨(gd_ (tb_1 1 rfl) rfl), (fun _ z => absurd z List.not_mem_nil)⟩)⟩)⟩)⟩) rfl (Nat.le_refl _) rfl rfl (Nat.le_of_ble_eq_true rfl) ⟨by decide, by decide⟩ dL_encode_5 ⟨0, 10, 13, 13⟩ rfl rfl (by decide) iae_cl iae_ot (i := 4) (ln := 2) (by decide) (Or.inr ⟨dL_encode_13, rfl⟩) ?_ ?_
  · intro r9 h9 hp9
    obtain ⟨⟨hT9, hF9⟩, z9, hr9, hz9, q1, q2, q3, q4, q5, q6, q7, q8, q9, q10, q11⟩ := hp9
    rw [hr9]
    show TT K ly 1 6 8 [(0, vR 0), (1, vI a), (2, vI b), (3, vR 107)] [vI z9, vI 0, vR 107] h9
    refine TT_i2l hK (irm (by omega) (by omega)) dL_encode_8 ?_
    refine TT_last hK (o := 107) (n := 1) (by decide) rfl (by decide) (by decide) dL_encode_9 ?_
    refine TT_goto hK (tgt := 17) dL_encode_10 rfl ?_
    refine TT_iconst hK dL_encode_17 ?_
    exact TT_iret hK hQ ⟨0, rfl, ⟨(tu_107 (i := 0) (v := z9) hT9 rfl (by omega)), (FR_up (o := 107) (i := 0) (v := z9) rfl (FR_tr (FR_rf [5, 6, 8, 9, 10, 11, 12, 13, 14, 15, 16, 17, 18, 19, 20, 21, 22, 23, 24, 25, 26, 27, 28, 29, 30, 31, 32, 33, 34, 36, 37, 38, 39, 41, 42, 43, 107] h) hF9 (by decide)) (by decide))⟩, ⟨Or.inl ⟨rfl, q2, q3, q4, q5, q6, q7, q8, q9, q10, (up_eq _ _ _ _).trans q11⟩, q1⟩⟩ dL_encode_18
  · intro h9 hp9
    obtain ⟨⟨hT9, hF9⟩, q1, q2, q3, q4, q5, q6, q7, q8, q9⟩ := hp9
    show TT K ly 1 6 15 [(0, vR 0), (1, vI a), (2, vI b), (3, vR 107)] [] h9
    refine TT_iconst hK dL_encode_15 ?_
    exact TT_iret hK hQ ⟨1, rfl, ⟨hT9, (FR_tr (FR_rf [5, 6, 8, 9, 10, 11, 12, 13, 14, 15, 16, 17, 18, 19, 20, 21, 22, 23, 24, 25, 26, 27, 28, 29, 30, 31, 32, 33, 34, 36, 37, 38, 39, 41, 42, 43, 107] h) hF9 (by decide))⟩, ⟨Or.inr ⟨rfl, q2, by rw [q3], q4.1, q4.2.1, q4.2.2, q5.1, q5.2, q6.1, q6.2.1, q6.2.2, q7.1, q7.2, q8, q9.1, q9.2⟩, q1⟩⟩ dL_encode_16
theorem hp_decode (n : Int) (h : Hp_) (hT : TY h) (hn : -2147483648 ≤ n ∧ n ≤ 2147483647) (hbd : BDQ (h 47) (h 49) (h 48) (h 50)) (o9 : Int → Int) (ho : ∀ j : Int, 0 ≤ j → j < h 5 1 → h 6 j = o9 j) : CtrH yL_decode cL_decode 4 (some .int) [(0, 9, 12, 13)] rmh ly ly 1 6 [vR 0, vI n, vR 107] h (fun r h' => ∃ z : Int, r = some (vI z) ∧ (TY h' ∧ FR [3, 4, 5, 44, 45, 46, 47, 48, 49, 50, 51, 52, 53, 54, 55, 56, 57, 58, 59, 60, 61, 62, 64, 65, 66, 67, 68, 69, 70, 71, 72, 107] h h') ∧ (((z = 0 ∧ ((4 ≤ n ∧ n ≤ h 5 1) ∧ 0 ≤ (tpZ o9 n)) ∧ ((∀ j : Int, 0 ≤ j → j < 3 * o9 2 + 1 → h' 61 j = (tpS o9 n).2 j) ∧ h' 44 12 = 3 * o9 2 + 1) ∧ h' 107 0 = (tpZ o9 n)) ∨ (z = 1 ∧ ¬((4 ≤ n ∧ n ≤ h 5 1) ∧ 0 ≤ (tpZ o9 n)) ∧ (h' 61 = h 61 ∧ h' 44 12 = h 44 12))) ∧ BDQ (h' 47) (h' 49) (h' 48) (h' 50) ∧ h' 5 1 = h 5 1)) := by
  refine CtrH_of (y2 := yX12_picture) (by decide) (gd_ (tb_5 225 rfl) rfl) (Nat.le_of_ble_eq_true rfl) ⟨Nat.le_refl _, Nat.le_refl _⟩ (fun K hK hQ hH => ?_)
  show TT K ly 0 0 0 [(0, vR 0), (1, vI n), (2, vR 107)] [] h
  refine TT_aload_n hK rfl 2 rfl dL_decode_0 ?_
  refine TT_iconst hK dL_decode_1 ?_
  refine TT_aload_n hK rfl 0 rfl dL_decode_2 ?_
  refine TT_iload_n hK rfl 1 rfl dL_decode_3 ?_
  refine TT_callVB hK hH (y := yX11_decode) (As := [vI n]) (st := [vI 0, vR 107]) (n := 1) (o := 0) (ci := 10) (C := RX11) (T := TX11) (N := 5) (mc := 1) (ms := 6) (s_cdecode_t o9 n h hT hn hbd ho) rfl (by decide) (by decide) rfl ⟨rfl, rfl⟩ ⟨by decide, by decide⟩ (gd_ (tb_4 188 rfl) rfl) ⟨rfl, by decide, by decide, by decide +kernel⟩ (List.forall_mem_cons.mpr ⟨(gd_ (tb_4 185 rfl) rfl), (List.forall_mem_cons.mpr ⟨(gd_ (tb_4 186 rfl) rfl), (List.forall_mem_cons.mpr ⟨(gd_ (tb_4 187 rfl) rfl), (List.forall_mem_cons.mpr ⟨(gd_ (tb_1 1 rfl) rfl), (fun _ z => absurd z List.not_mem_nil)⟩)⟩)⟩)⟩) rfl (Nat.le_refl _) rfl rfl (Nat.le_of_ble_eq_true rfl) ⟨by decide, by decide⟩ dL_decode_4 ⟨0, 9, 12, 13⟩ rfl rfl (by decide) iae_cl iae_ot (i := 3) (ln := 1) (by decide) (Or.inl ⟨3, rfl, dL_decode_12, rfl⟩) ?_ ?_
  · intro r9 h9 hp9
    obtain ⟨⟨hT9, hF9⟩, z9, hr9, hz9, q1, q2, q3, q4⟩ := hp9
    rw [hr9]
    show TT K ly 1 6 7 [(0, vR 0), (1, vI n), (2, vR 107)] [vI z9, vI 0, vR 107] h9
    refine TT_i2l hK (irm (by omega) (by omega)) dL_decode_7 ?_
    refine TT_last hK (o := 107) (n := 1) (by decide) rfl (by decide) (by decide) dL_decode_8 ?_
    refine TT_goto hK (tgt := 15) dL_decode_9 rfl ?_
    refine TT_iconst hK dL_decode_15 ?_
    exact TT_iret hK hQ ⟨0, rfl, ⟨(tu_107 (i := 0) (v := z9) hT9 rfl (by omega)), (FR_up (o := 107) (i := 0) (v := z9) rfl (FR_tr (FR_rf [3, 4, 5, 44, 45, 46, 47, 48, 49, 50, 51, 52, 53, 54, 55, 56, 57, 58, 59, 60, 61, 62, 64, 65, 66, 67, 68, 69, 70, 71, 72, 107] h) hF9 (by decide)) (by decide))⟩, ⟨Or.inl ⟨rfl, q2.1, q4, (up_eq _ _ _ _).trans q2.2⟩, q1, q3⟩⟩ dL_decode_16
  · intro h9 hp9
    obtain ⟨⟨hT9, hF9⟩, q1, q2, q3, q4⟩ := hp9
    show TT K ly 1 6 13 [(0, vR 0), (1, vI n), (2, vR 107)] [] h9
    refine TT_iconst hK dL_decode_13 ?_
    exact TT_iret hK hQ ⟨1, rfl, ⟨hT9, (FR_tr (FR_rf [3, 4, 5, 44, 45, 46, 47, 48, 49, 50, 51, 52, 53, 54, 55, 56, 57, 58, 59, 60, 61, 62, 64, 65, 66, 67, 68, 69, 70, 71, 72, 107] h) hF9 (by decide))⟩, ⟨Or.inr ⟨rfl, q2, q4⟩, q1, q3⟩⟩ dL_decode_14

/-! p1's law: its helpers, its cases, its walk -/
noncomputable abbrev H0_ : Hp_ := tH Ne_24
def rmh : Room := { frames := 11, cells := 1, slots := 6, locals := 440 }
theorem tab_ex (l : List ExceptionTableEntry) : ∃ hh, l = tableOf hh := by
  induction l with
  | nil => exact ⟨[], rfl⟩
  | cons x r ih =>
    obtain ⟨hh, h⟩ := ih
    cases x with
    | mk a b c d => exact ⟨(a, b, c, d) :: hh, by rw [h]; rfl⟩
theorem iae_ot : Cond.castable IAE_ IAE_ ∈ lw_ot := List.mem_filter.mpr ⟨tb_3 12 rfl, rfl⟩
theorem iae_cl : Cond.classLink RL 13 IAE_ ∈ lw_good := gd_ (tb_3 2 rfl) rfl
theorem fH_1_1 : H0_ 1 1 = 1 := by decide +kernel
theorem fH_1_2 : H0_ 1 2 = 1 := by decide +kernel
theorem fH_3_1 : H0_ 3 1 = 0 := by decide +kernel
theorem fH_3_2 : H0_ 3 2 = 0 := by decide +kernel
theorem fH_5_1 : H0_ 5 1 = 0 := by decide +kernel
theorem fH_8_10 : H0_ 8 10 = 0 := by decide +kernel
theorem fH_44_12 : H0_ 44 12 = 0 := by decide +kernel
theorem fH_73_3 : H0_ 73 3 = 1 := by decide +kernel
theorem fH_73_4 : H0_ 73 4 = 1 := by decide +kernel
theorem fH_73_41 : H0_ 73 41 = 0 := by decide +kernel
theorem fH_73_18 : H0_ 73 18 = 0 := by decide +kernel
theorem fH_73_51 : H0_ 73 51 = 0 := by decide +kernel
theorem fH_73_55 : H0_ 73 55 = 0 := by decide +kernel
theorem fH_2_0 : H0_ 2 0 = 0 := by decide +kernel
theorem fH_76_0 : H0_ 76 0 = 0 := by decide +kernel
theorem hp_picture_v (a b : Int) (h : Hp_) (ira : ir_ a) (irb : ir_ b) (hV : (1 ≤ a ∧ a ≤ 8) ∧ (1 ≤ b ∧ b ≤ 8)) : CtrH yL_picture cL_picture 4 (some .int) [(0, 6, 9, 13)] rmh ly ly 1 6 [vR 0, vI a, vI b] h (fun r h' => r = some (vI 0) ∧ h' = setO (setO h 1 (fup (fup (h 1) 1 a) 2 b)) 2 (fsr (h 2) 0 64 (fun _ => 0))) := by
  refine CtrH_of (y2 := yX12_picture) (by decide) (gd_ (tb_5 229 rfl) rfl) (Nat.le_of_ble_eq_true rfl) ⟨Nat.le_refl _, Nat.le_refl _⟩ (fun K hK hQ hH => ?_)
  show TT K ly 0 0 0 [(0, vR 0), (1, vI a), (2, vI b)] [] h
  refine TT_aload_n hK rfl 0 rfl dL_picture_0 ?_
  refine TT_iload_n hK rfl 1 rfl dL_picture_1 ?_
  refine TT_iload_n hK rfl 2 rfl dL_picture_2 ?_

  refine iv_L_7 hK (c_X11_picture_v a b h ira irb hV) (by decide) rfl ⟨by decide, by decide⟩ (Nat.le_refl _) rfl rfl (Nat.le_of_ble_eq_true rfl) ⟨by decide, by decide⟩ dL_picture_3 ?_
  intro r9 h9 hp9
  rw [hp9.1, hp9.2]
  show TT K ly 0 0 6 [(0, vR 0), (1, vI a), (2, vI b)] [] (setO (setO h 1 (fup (fup (h 1) 1 a) 2 b)) 2 (fsr (h 2) 0 64 (fun _ => 0)))
  refine TT_goto hK (tgt := 12) dL_picture_6 rfl ?_
  refine TT_iconst hK dL_picture_12 ?_
  refine TT_widen (kc' := 1) (ks' := 6) (by decide) (by decide) ?_
  exact TT_iret hK hQ ⟨rfl, rfl⟩ dL_picture_13
theorem hp_picture_t (a b : Int) (h : Hp_) (ira : ir_ a) (irb : ir_ b) (hV : ¬((1 ≤ a ∧ a ≤ 8) ∧ (1 ≤ b ∧ b ≤ 8))) : CtrH yL_picture cL_picture 4 (some .int) [(0, 6, 9, 13)] rmh ly ly 1 6 [vR 0, vI a, vI b] h (fun r h' => r = some (vI 1) ∧ h' = h) := by
  refine CtrH_of (y2 := yX12_picture) (by decide) (gd_ (tb_5 229 rfl) rfl) (Nat.le_of_ble_eq_true rfl) ⟨Nat.le_refl _, Nat.le_refl _⟩ (fun K hK hQ hH => ?_)
  show TT K ly 0 0 0 [(0, vR 0), (1, vI a), (2, vI b)] [] h
  refine TT_aload_n hK rfl 0 rfl dL_picture_0 ?_
  refine TT_iload_n hK rfl 1 rfl dL_picture_1 ?_
  refine TT_iload_n hK rfl 2 rfl dL_picture_2 ?_
  refine TT_callVX hK hH (y := yX11_picture) (As := [vI a, vI b]) (st := []) (n := 2) (o := 0) (ci := 10) (C := RX11) (T := TX11) (N := 5) (mc := 1) (ms := 6) (c_X11_picture_t a b h ira irb hV) rfl (by decide) (by decide) rfl ⟨rfl, rfl⟩ ⟨by decide, by decide⟩ (gd_ (tb_3 6 rfl) rfl) ⟨rfl, by decide, by decide, by decide +kernel⟩ (List.forall_mem_cons.mpr ⟨(gd_ (tb_3 3 rfl) rfl), (List.forall_mem_cons.mpr ⟨(gd_ (tb_3 4 rfl) rfl), (List.forall_mem_cons.mpr ⟨(gd_ (tb_3 5 rfl) rfl), (List.forall_mem_cons.mpr ⟨(gd_ (tb_1 1 rfl) rfl), (fun _ z => absurd z List.not_mem_nil)⟩)⟩)⟩)⟩) rfl (Nat.le_refl _) rfl (Nat.le_of_ble_eq_true rfl) ⟨by decide, by decide⟩ dL_picture_3 ⟨0, 6, 9, 13⟩ rfl rfl (by decide) iae_cl iae_ot (i := 3) (ln := 1) (by decide) (Or.inl ⟨3, rfl, dL_picture_9, rfl⟩) ?_
  intro h9 hp9
  rw [hp9]
  show TT K ly 1 6 10 [(0, vR 0), (1, vI a), (2, vI b)] [] h
  refine TT_iconst hK dL_picture_10 ?_
  exact TT_iret hK hQ ⟨rfl, rfl⟩ dL_picture_11
theorem hp_paint_v (x y v : Int) (h : Hp_) (irx : ir_ x) (iry : ir_ y) (irv : ir_ v) (hw1 : 0 ≤ h 1 1 ∧ h 1 1 ≤ 8) (hw2 : 0 ≤ h 1 2 ∧ h 1 2 ≤ 8) (hP : ((0 ≤ x ∧ x < h 1 1) ∧ (0 ≤ y ∧ y < h 1 2))) (hv : 0 ≤ v ∧ v ≤ 255) : CtrH yL_paint cL_paint 5 (some .int) [(0, 7, 10, 13)] rmh ly ly 1 6 [vR 0, vI x, vI y, vI v] h (fun r h' => r = some (vI 0) ∧ h' = setO h 2 (fup (h 2) ((y * 8) + x) v)) := by
  refine CtrH_of (y2 := yX12_tellBand) (by decide) (gd_ (tb_6 66 rfl) rfl) (Nat.le_of_ble_eq_true rfl) ⟨Nat.le_refl _, Nat.le_refl _⟩ (fun K hK hQ hH => ?_)
  show TT K ly 0 0 0 [(0, vR 0), (1, vI x), (2, vI y), (3, vI v)] [] h
  refine TT_aload_n hK rfl 0 rfl dL_paint_0 ?_
  refine TT_iload_n hK rfl 1 rfl dL_paint_1 ?_
  refine TT_iload_n hK rfl 2 rfl dL_paint_2 ?_
  refine TT_iload_n hK rfl 3 rfl dL_paint_3 ?_

  refine iv_L_15 hK (c_X11_paint_v x y v h irx iry irv hw1 hw2 hP hv) (by decide) rfl ⟨by decide, by decide⟩ (Nat.le_refl _) rfl rfl (Nat.le_of_ble_eq_true rfl) ⟨by decide, by decide⟩ dL_paint_4 ?_
  intro r9 h9 hp9
  rw [hp9.1, hp9.2]
  show TT K ly 0 0 7 [(0, vR 0), (1, vI x), (2, vI y), (3, vI v)] [] (setO h 2 (fup (h 2) ((y * 8) + x) v))
  refine TT_goto hK (tgt := 14) dL_paint_7 rfl ?_
  refine TT_iconst hK dL_paint_14 ?_
  refine TT_widen (kc' := 1) (ks' := 6) (by decide) (by decide) ?_
  exact TT_iret hK hQ ⟨rfl, rfl⟩ dL_paint_15
theorem hp_paint_t (x y v : Int) (h : Hp_) (irx : ir_ x) (iry : ir_ y) (irv : ir_ v) (hw1 : 0 ≤ h 1 1 ∧ h 1 1 ≤ 8) (hw2 : 0 ≤ h 1 2 ∧ h 1 2 ≤ 8) (hV : ¬(((0 ≤ x ∧ x < h 1 1) ∧ (0 ≤ y ∧ y < h 1 2)) ∧ (0 ≤ v ∧ v ≤ 255))) : CtrH yL_paint cL_paint 5 (some .int) [(0, 7, 10, 13)] rmh ly ly 1 6 [vR 0, vI x, vI y, vI v] h (fun r h' => r = some (vI 1) ∧ h' = h) := by
  refine CtrH_of (y2 := yX12_tellBand) (by decide) (gd_ (tb_6 66 rfl) rfl) (Nat.le_of_ble_eq_true rfl) ⟨Nat.le_refl _, Nat.le_refl _⟩ (fun K hK hQ hH => ?_)
  show TT K ly 0 0 0 [(0, vR 0), (1, vI x), (2, vI y), (3, vI v)] [] h
  refine TT_aload_n hK rfl 0 rfl dL_paint_0 ?_
  refine TT_iload_n hK rfl 1 rfl dL_paint_1 ?_
  refine TT_iload_n hK rfl 2 rfl dL_paint_2 ?_
  refine TT_iload_n hK rfl 3 rfl dL_paint_3 ?_
  refine TT_callVX hK hH (y := yX11_paint) (As := [vI x, vI y, vI v]) (st := []) (n := 3) (o := 0) (ci := 10) (C := RX11) (T := TX11) (N := 5) (mc := 1) (ms := 6) (c_X11_paint_t x y v h irx iry irv hw1 hw2 hV) rfl (by decide) (by decide) rfl ⟨rfl, rfl⟩ ⟨by decide, by decide⟩ (gd_ (tb_3 82 rfl) rfl) ⟨rfl, by decide, by decide, by decide +kernel⟩ (List.forall_mem_cons.mpr ⟨(gd_ (tb_3 79 rfl) rfl), (List.forall_mem_cons.mpr ⟨(gd_ (tb_3 80 rfl) rfl), (List.forall_mem_cons.mpr ⟨(gd_ (tb_3 81 rfl) rfl), (List.forall_mem_cons.mpr ⟨(gd_ (tb_1 1 rfl) rfl), (fun _ z => absurd z List.not_mem_nil)⟩)⟩)⟩)⟩) rfl (Nat.le_refl _) rfl (Nat.le_of_ble_eq_true rfl) ⟨by decide, by decide⟩ dL_paint_4 ⟨0, 7, 10, 13⟩ rfl rfl (by decide) iae_cl iae_ot (i := 4) (ln := 2) (by decide) (Or.inr ⟨dL_paint_10, rfl⟩) ?_
  intro h9 hp9
  rw [hp9]
  show TT K ly 1 6 12 [(0, vR 0), (1, vI x), (2, vI y), (3, vI v)] [] h
  refine TT_iconst hK dL_paint_12 ?_
  exact TT_iret hK hQ ⟨rfl, rfl⟩ dL_paint_13
theorem hp_encode_t (a b : Int) (h : Hp_) (ira : ir_ a) (irb : ir_ b) (hV : ¬((0 ≤ a ∧ a ≤ 3) ∧ (1 ≤ b ∧ b ≤ 3))) : CtrH yL_encode cL_encode 5 (some .int) [(0, 10, 13, 13)] rmh ly ly 1 6 [vR 0, vI a, vI b, vR 107] h (fun r h' => r = some (vI 1) ∧ h' = h) := by
  refine CtrH_of (y2 := yX12_tellBand) (by decide) (gd_ (tb_6 66 rfl) rfl) (Nat.le_of_ble_eq_true rfl) ⟨Nat.le_refl _, Nat.le_refl _⟩ (fun K hK hQ hH => ?_)
  show TT K ly 0 0 0 [(0, vR 0), (1, vI a), (2, vI b), (3, vR 107)] [] h
  refine TT_aload_n hK rfl 3 rfl dL_encode_0 ?_
  refine TT_iconst hK dL_encode_1 ?_
  refine TT_aload_n hK rfl 0 rfl dL_encode_2 ?_
  refine TT_iload_n hK rfl 1 rfl dL_encode_3 ?_
  refine TT_iload_n hK rfl 2 rfl dL_encode_4 ?_
  refine TT_callVX hK hH (y := yX11_encode) (As := [vI a, vI b]) (st := [vI 0, vR 107]) (n := 2) (o := 0) (ci := 10) (C := RX11) (T := TX11) (N := 5) (mc := 1) (ms := 6) (c_X11_encode_t a b h ira irb hV) rfl (by decide) (by decide) rfl ⟨rfl, rfl⟩ ⟨by decide, by decide⟩ (gd_ (tb_3 95 rfl) rfl) ⟨rfl, by decide, by decide, by decide +kernel⟩ (List.forall_mem_cons.mpr ⟨(gd_ (tb_3 92 rfl) rfl), (List.forall_mem_cons.mpr ⟨(gd_ (tb_3 93 rfl) rfl), (List.forall_mem_cons.mpr ⟨(gd_ (tb_3 94 rfl) rfl), (List.forall_mem_cons.mpr ⟨(gd_ (tb_1 1 rfl) rfl), (fun _ z => absurd z List.not_mem_nil)⟩)⟩)⟩)⟩) rfl (Nat.le_refl _) rfl (Nat.le_of_ble_eq_true rfl) ⟨by decide, by decide⟩ dL_encode_5 ⟨0, 10, 13, 13⟩ rfl rfl (by decide) iae_cl iae_ot (i := 4) (ln := 2) (by decide) (Or.inr ⟨dL_encode_13, rfl⟩) ?_
  intro h9 hp9
  rw [hp9]
  show TT K ly 1 6 15 [(0, vR 0), (1, vI a), (2, vI b), (3, vR 107)] [] h
  refine TT_iconst hK dL_encode_15 ?_
  exact TT_iret hK hQ ⟨rfl, rfl⟩ dL_encode_16
theorem hp_decode_t (n : Int) (h : Hp_) (irn : ir_ n) (hl : h 5 1 = 0) : CtrH yL_decode cL_decode 4 (some .int) [(0, 9, 12, 13)] rmh ly ly 1 6 [vR 0, vI n, vR 107] h (fun r h' => r = some (vI 1) ∧ h' = h) := by
  refine CtrH_of (y2 := yX12_picture) (by decide) (gd_ (tb_5 229 rfl) rfl) (Nat.le_of_ble_eq_true rfl) ⟨Nat.le_refl _, Nat.le_refl _⟩ (fun K hK hQ hH => ?_)
  show TT K ly 0 0 0 [(0, vR 0), (1, vI n), (2, vR 107)] [] h
  refine TT_aload_n hK rfl 2 rfl dL_decode_0 ?_
  refine TT_iconst hK dL_decode_1 ?_
  refine TT_aload_n hK rfl 0 rfl dL_decode_2 ?_
  refine TT_iload_n hK rfl 1 rfl dL_decode_3 ?_
  refine TT_callVX hK hH (y := yX11_decode) (As := [vI n]) (st := [vI 0, vR 107]) (n := 1) (o := 0) (ci := 10) (C := RX11) (T := TX11) (N := 5) (mc := 1) (ms := 6) (c_X11_decode_t n h irn hl) rfl (by decide) (by decide) rfl ⟨rfl, rfl⟩ ⟨by decide, by decide⟩ (gd_ (tb_4 188 rfl) rfl) ⟨rfl, by decide, by decide, by decide +kernel⟩ (List.forall_mem_cons.mpr ⟨(gd_ (tb_4 185 rfl) rfl), (List.forall_mem_cons.mpr ⟨(gd_ (tb_4 186 rfl) rfl), (List.forall_mem_cons.mpr ⟨(gd_ (tb_4 187 rfl) rfl), (List.forall_mem_cons.mpr ⟨(gd_ (tb_1 1 rfl) rfl), (fun _ z => absurd z List.not_mem_nil)⟩)⟩)⟩)⟩) rfl (Nat.le_refl _) rfl (Nat.le_of_ble_eq_true rfl) ⟨by decide, by decide⟩ dL_decode_4 ⟨0, 9, 12, 13⟩ rfl rfl (by decide) iae_cl iae_ot (i := 3) (ln := 1) (by decide) (Or.inl ⟨3, rfl, dL_decode_12, rfl⟩) ?_
  intro h9 hp9
  rw [hp9]
  show TT K ly 1 6 13 [(0, vR 0), (1, vI n), (2, vR 107)] [] h
  refine TT_iconst hK dL_decode_13 ?_
  exact TT_iret hK hQ ⟨rfl, rfl⟩ dL_decode_14
theorem tG_c (N : Nat) : tG 0 108 HZ N = tH N := tG_all HZ (fun _ _ => rfl) N
theorem tH_hi {N1 N2 b o : Nat} (h : Nat.shiftRight N1 (48 * b) = Nat.shiftRight N2 (48 * b)) (hb : ∀ i, b ≤ adr o i) (i : Int) : tH N1 o i = tH N2 o i := by
  have key : ∀ N s, 48 * b ≤ s → dgt N s = dgt (N >>> (48 * b)) (s - 48 * b) := fun N s hs => by
    show (N >>> s) % _ = ((N >>> (48 * b)) >>> (s - 48 * b)) % _
    rw [← Nat.shiftRight_add, Nat.add_sub_cancel' hs]
  unfold tH
  by_cases q : 0 ≤ i ∧ o < 108
  · rw [if_pos q, if_pos q]
    unfold hget
    have h1 : 48 * b ≤ Nat.mul 48 (adr o i.toNat) := Nat.mul_le_mul_left 48 (hb _)
    rw [key N1 _ h1, key N2 _ h1]
    have h2 : N1 >>> (48 * b) = N2 >>> (48 * b) := h
    rw [h2]
  · rw [if_neg q, if_neg q]
theorem cap_hi : ∀ o : Fin 108, 73 ≤ o.val → 758 ≤ capT.get o / 8192 := by decide +kernel
theorem tG_law {Nc : Nat} {v : Int} (h : Nat.shiftRight Ne_24 (48 * 758) = Nat.shiftRight Nc (48 * 758)) : up (tH Nc) 107 0 v = tG 73 107 (up (tH Nc) 107 0 v) Ne_24 := by
  funext o i
  unfold tG
  by_cases q : 73 ≤ o ∧ o < 107
  · rw [if_pos q, tH_hi h (adr_ge (cap_hi ⟨o, by omega⟩ q.1) (by decide)) i]
    exact up_ne _ _ _ _ (by omega)
  · rw [if_neg q]
theorem hp_encode_01   : CtrH yL_encode cL_encode 5 (some .int) [(0, 10, 13, 13)] rmh ly ly 1 6 [vR 0, vI 0, vI 1, vR 107] H0_ (fun r h' => r = some (vI 0) ∧ h' = up (tH Ne_37) 107 0 8) := by
  refine CtrH_of (y2 := yX12_tellBand) (by decide) (gd_ (tb_6 66 rfl) rfl) (Nat.le_of_ble_eq_true rfl) ⟨Nat.le_refl _, Nat.le_refl _⟩ (fun K hK hQ hH => ?_)
  show TT K ly 0 0 0 [(0, vR 0), (1, vI 0), (2, vI 1), (3, vR 107)] [] H0_
  refine TT_aload_n hK rfl 3 rfl dL_encode_0 ?_
  refine TT_iconst hK dL_encode_1 ?_
  refine TT_aload_n hK rfl 0 rfl dL_encode_2 ?_
  refine TT_iload_n hK rfl 1 rfl dL_encode_3 ?_
  refine TT_iload_n hK rfl 2 rfl dL_encode_4 ?_
  obtain ⟨d0, hd0, hC⟩ := cl_ctr (TbC_ok (h0 := HZ)) cbe01
  have hC0 : Ctr (miT TbC 16).1 (miT TbC 16).2.1 (miT TbC 16).2.2.1 (miT TbC 16).2.2.2 (rmd d0) ly ly 0 0 [vR 0, vI 0, vI 1] (tH Ne_24) (fun r' h' => r' = some (vI 8) ∧ h' = tH Ne_37) := by
    have e1 := hC
    unfold CtrM at e1
    rw [tG_c, tG_c] at e1
    exact e1
  refine iv_L_19 hK (mcC_16 hC0) (by decide) rfl ⟨by show d0 + 1 ≤ 11; omega, by show _ ≤ 440; omega⟩ (Nat.le_refl _) rfl rfl (Nat.le_of_ble_eq_true rfl) ⟨by decide, by decide⟩ dL_encode_5 ?_
  intro r9 h9 hp9
  rw [hp9.1, hp9.2]
  show TT K ly 0 0 8 [(0, vR 0), (1, vI 0), (2, vI 1), (3, vR 107)] [vI 8, vI 0, vR 107] (tH Ne_37)
  refine TT_i2l hK (by decide) dL_encode_8 ?_
  refine TT_last hK (o := 107) (n := 1) (by decide) rfl (by decide) (by decide) dL_encode_9 ?_
  refine TT_goto hK (tgt := 17) dL_encode_10 rfl ?_
  refine TT_iconst hK dL_encode_17 ?_
  refine TT_widen (kc' := 1) (ks' := 6) (by decide) (by decide) ?_
  exact TT_iret hK hQ ⟨rfl, rfl⟩ dL_encode_18
theorem hp_encode_02   : CtrH yL_encode cL_encode 5 (some .int) [(0, 10, 13, 13)] rmh ly ly 1 6 [vR 0, vI 0, vI 2, vR 107] H0_ (fun r h' => r = some (vI 0) ∧ h' = up (tH Ne_38) 107 0 11) := by
  refine CtrH_of (y2 := yX12_tellBand) (by decide) (gd_ (tb_6 66 rfl) rfl) (Nat.le_of_ble_eq_true rfl) ⟨Nat.le_refl _, Nat.le_refl _⟩ (fun K hK hQ hH => ?_)
  show TT K ly 0 0 0 [(0, vR 0), (1, vI 0), (2, vI 2), (3, vR 107)] [] H0_
  refine TT_aload_n hK rfl 3 rfl dL_encode_0 ?_
  refine TT_iconst hK dL_encode_1 ?_
  refine TT_aload_n hK rfl 0 rfl dL_encode_2 ?_
  refine TT_iload_n hK rfl 1 rfl dL_encode_3 ?_
  refine TT_iload_n hK rfl 2 rfl dL_encode_4 ?_
  obtain ⟨d0, hd0, hC⟩ := cl_ctr (TbC_ok (h0 := HZ)) cbe02
  have hC0 : Ctr (miT TbC 16).1 (miT TbC 16).2.1 (miT TbC 16).2.2.1 (miT TbC 16).2.2.2 (rmd d0) ly ly 0 0 [vR 0, vI 0, vI 2] (tH Ne_24) (fun r' h' => r' = some (vI 11) ∧ h' = tH Ne_38) := by
    have e1 := hC
    unfold CtrM at e1
    rw [tG_c, tG_c] at e1
    exact e1
  refine iv_L_19 hK (mcC_16 hC0) (by decide) rfl ⟨by show d0 + 1 ≤ 11; omega, by show _ ≤ 440; omega⟩ (Nat.le_refl _) rfl rfl (Nat.le_of_ble_eq_true rfl) ⟨by decide, by decide⟩ dL_encode_5 ?_
  intro r9 h9 hp9
  rw [hp9.1, hp9.2]
  show TT K ly 0 0 8 [(0, vR 0), (1, vI 0), (2, vI 2), (3, vR 107)] [vI 11, vI 0, vR 107] (tH Ne_38)
  refine TT_i2l hK (by decide) dL_encode_8 ?_
  refine TT_last hK (o := 107) (n := 1) (by decide) rfl (by decide) (by decide) dL_encode_9 ?_
  refine TT_goto hK (tgt := 17) dL_encode_10 rfl ?_
  refine TT_iconst hK dL_encode_17 ?_
  refine TT_widen (kc' := 1) (ks' := 6) (by decide) (by decide) ?_
  exact TT_iret hK hQ ⟨rfl, rfl⟩ dL_encode_18
theorem hp_encode_03   : CtrH yL_encode cL_encode 5 (some .int) [(0, 10, 13, 13)] rmh ly ly 1 6 [vR 0, vI 0, vI 3, vR 107] H0_ (fun r h' => r = some (vI 0) ∧ h' = up (tH Ne_39) 107 0 14) := by
  refine CtrH_of (y2 := yX12_tellBand) (by decide) (gd_ (tb_6 66 rfl) rfl) (Nat.le_of_ble_eq_true rfl) ⟨Nat.le_refl _, Nat.le_refl _⟩ (fun K hK hQ hH => ?_)
  show TT K ly 0 0 0 [(0, vR 0), (1, vI 0), (2, vI 3), (3, vR 107)] [] H0_
  refine TT_aload_n hK rfl 3 rfl dL_encode_0 ?_
  refine TT_iconst hK dL_encode_1 ?_
  refine TT_aload_n hK rfl 0 rfl dL_encode_2 ?_
  refine TT_iload_n hK rfl 1 rfl dL_encode_3 ?_
  refine TT_iload_n hK rfl 2 rfl dL_encode_4 ?_
  obtain ⟨d0, hd0, hC⟩ := cl_ctr (TbC_ok (h0 := HZ)) cbe03
  have hC0 : Ctr (miT TbC 16).1 (miT TbC 16).2.1 (miT TbC 16).2.2.1 (miT TbC 16).2.2.2 (rmd d0) ly ly 0 0 [vR 0, vI 0, vI 3] (tH Ne_24) (fun r' h' => r' = some (vI 14) ∧ h' = tH Ne_39) := by
    have e1 := hC
    unfold CtrM at e1
    rw [tG_c, tG_c] at e1
    exact e1
  refine iv_L_19 hK (mcC_16 hC0) (by decide) rfl ⟨by show d0 + 1 ≤ 11; omega, by show _ ≤ 440; omega⟩ (Nat.le_refl _) rfl rfl (Nat.le_of_ble_eq_true rfl) ⟨by decide, by decide⟩ dL_encode_5 ?_
  intro r9 h9 hp9
  rw [hp9.1, hp9.2]
  show TT K ly 0 0 8 [(0, vR 0), (1, vI 0), (2, vI 3), (3, vR 107)] [vI 14, vI 0, vR 107] (tH Ne_39)
  refine TT_i2l hK (by decide) dL_encode_8 ?_
  refine TT_last hK (o := 107) (n := 1) (by decide) rfl (by decide) (by decide) dL_encode_9 ?_
  refine TT_goto hK (tgt := 17) dL_encode_10 rfl ?_
  refine TT_iconst hK dL_encode_17 ?_
  refine TT_widen (kc' := 1) (ks' := 6) (by decide) (by decide) ?_
  exact TT_iret hK hQ ⟨rfl, rfl⟩ dL_encode_18
theorem hp_encode_11   : CtrH yL_encode cL_encode 5 (some .int) [(0, 10, 13, 13)] rmh ly ly 1 6 [vR 0, vI 1, vI 1, vR 107] H0_ (fun r h' => r = some (vI 0) ∧ h' = up (tH Ne_40) 107 0 9) := by
  refine CtrH_of (y2 := yX12_tellBand) (by decide) (gd_ (tb_6 66 rfl) rfl) (Nat.le_of_ble_eq_true rfl) ⟨Nat.le_refl _, Nat.le_refl _⟩ (fun K hK hQ hH => ?_)
  show TT K ly 0 0 0 [(0, vR 0), (1, vI 1), (2, vI 1), (3, vR 107)] [] H0_
  refine TT_aload_n hK rfl 3 rfl dL_encode_0 ?_
  refine TT_iconst hK dL_encode_1 ?_
  refine TT_aload_n hK rfl 0 rfl dL_encode_2 ?_
  refine TT_iload_n hK rfl 1 rfl dL_encode_3 ?_
  refine TT_iload_n hK rfl 2 rfl dL_encode_4 ?_
  obtain ⟨d0, hd0, hC⟩ := cl_ctr (TbC_ok (h0 := HZ)) cbe11
  have hC0 : Ctr (miT TbC 16).1 (miT TbC 16).2.1 (miT TbC 16).2.2.1 (miT TbC 16).2.2.2 (rmd d0) ly ly 0 0 [vR 0, vI 1, vI 1] (tH Ne_24) (fun r' h' => r' = some (vI 9) ∧ h' = tH Ne_40) := by
    have e1 := hC
    unfold CtrM at e1
    rw [tG_c, tG_c] at e1
    exact e1
  refine iv_L_19 hK (mcC_16 hC0) (by decide) rfl ⟨by show d0 + 1 ≤ 11; omega, by show _ ≤ 440; omega⟩ (Nat.le_refl _) rfl rfl (Nat.le_of_ble_eq_true rfl) ⟨by decide, by decide⟩ dL_encode_5 ?_
  intro r9 h9 hp9
  rw [hp9.1, hp9.2]
  show TT K ly 0 0 8 [(0, vR 0), (1, vI 1), (2, vI 1), (3, vR 107)] [vI 9, vI 0, vR 107] (tH Ne_40)
  refine TT_i2l hK (by decide) dL_encode_8 ?_
  refine TT_last hK (o := 107) (n := 1) (by decide) rfl (by decide) (by decide) dL_encode_9 ?_
  refine TT_goto hK (tgt := 17) dL_encode_10 rfl ?_
  refine TT_iconst hK dL_encode_17 ?_
  refine TT_widen (kc' := 1) (ks' := 6) (by decide) (by decide) ?_
  exact TT_iret hK hQ ⟨rfl, rfl⟩ dL_encode_18
theorem hp_encode_12   : CtrH yL_encode cL_encode 5 (some .int) [(0, 10, 13, 13)] rmh ly ly 1 6 [vR 0, vI 1, vI 2, vR 107] H0_ (fun r h' => r = some (vI 0) ∧ h' = up (tH Ne_41) 107 0 13) := by
  refine CtrH_of (y2 := yX12_tellBand) (by decide) (gd_ (tb_6 66 rfl) rfl) (Nat.le_of_ble_eq_true rfl) ⟨Nat.le_refl _, Nat.le_refl _⟩ (fun K hK hQ hH => ?_)
  show TT K ly 0 0 0 [(0, vR 0), (1, vI 1), (2, vI 2), (3, vR 107)] [] H0_
  refine TT_aload_n hK rfl 3 rfl dL_encode_0 ?_
  refine TT_iconst hK dL_encode_1 ?_
  refine TT_aload_n hK rfl 0 rfl dL_encode_2 ?_
  refine TT_iload_n hK rfl 1 rfl dL_encode_3 ?_
  refine TT_iload_n hK rfl 2 rfl dL_encode_4 ?_
  obtain ⟨d0, hd0, hC⟩ := cl_ctr (TbC_ok (h0 := HZ)) cbe12
  have hC0 : Ctr (miT TbC 16).1 (miT TbC 16).2.1 (miT TbC 16).2.2.1 (miT TbC 16).2.2.2 (rmd d0) ly ly 0 0 [vR 0, vI 1, vI 2] (tH Ne_24) (fun r' h' => r' = some (vI 13) ∧ h' = tH Ne_41) := by
    have e1 := hC
    unfold CtrM at e1
    rw [tG_c, tG_c] at e1
    exact e1
  refine iv_L_19 hK (mcC_16 hC0) (by decide) rfl ⟨by show d0 + 1 ≤ 11; omega, by show _ ≤ 440; omega⟩ (Nat.le_refl _) rfl rfl (Nat.le_of_ble_eq_true rfl) ⟨by decide, by decide⟩ dL_encode_5 ?_
  intro r9 h9 hp9
  rw [hp9.1, hp9.2]
  show TT K ly 0 0 8 [(0, vR 0), (1, vI 1), (2, vI 2), (3, vR 107)] [vI 13, vI 0, vR 107] (tH Ne_41)
  refine TT_i2l hK (by decide) dL_encode_8 ?_
  refine TT_last hK (o := 107) (n := 1) (by decide) rfl (by decide) (by decide) dL_encode_9 ?_
  refine TT_goto hK (tgt := 17) dL_encode_10 rfl ?_
  refine TT_iconst hK dL_encode_17 ?_
  refine TT_widen (kc' := 1) (ks' := 6) (by decide) (by decide) ?_
  exact TT_iret hK hQ ⟨rfl, rfl⟩ dL_encode_18
theorem hp_encode_13   : CtrH yL_encode cL_encode 5 (some .int) [(0, 10, 13, 13)] rmh ly ly 1 6 [vR 0, vI 1, vI 3, vR 107] H0_ (fun r h' => r = some (vI 0) ∧ h' = up (tH Ne_42) 107 0 17) := by
  refine CtrH_of (y2 := yX12_tellBand) (by decide) (gd_ (tb_6 66 rfl) rfl) (Nat.le_of_ble_eq_true rfl) ⟨Nat.le_refl _, Nat.le_refl _⟩ (fun K hK hQ hH => ?_)
  show TT K ly 0 0 0 [(0, vR 0), (1, vI 1), (2, vI 3), (3, vR 107)] [] H0_
  refine TT_aload_n hK rfl 3 rfl dL_encode_0 ?_
  refine TT_iconst hK dL_encode_1 ?_
  refine TT_aload_n hK rfl 0 rfl dL_encode_2 ?_
  refine TT_iload_n hK rfl 1 rfl dL_encode_3 ?_
  refine TT_iload_n hK rfl 2 rfl dL_encode_4 ?_
  obtain ⟨d0, hd0, hC⟩ := cl_ctr (TbC_ok (h0 := HZ)) cbe13
  have hC0 : Ctr (miT TbC 16).1 (miT TbC 16).2.1 (miT TbC 16).2.2.1 (miT TbC 16).2.2.2 (rmd d0) ly ly 0 0 [vR 0, vI 1, vI 3] (tH Ne_24) (fun r' h' => r' = some (vI 17) ∧ h' = tH Ne_42) := by
    have e1 := hC
    unfold CtrM at e1
    rw [tG_c, tG_c] at e1
    exact e1
  refine iv_L_19 hK (mcC_16 hC0) (by decide) rfl ⟨by show d0 + 1 ≤ 11; omega, by show _ ≤ 440; omega⟩ (Nat.le_refl _) rfl rfl (Nat.le_of_ble_eq_true rfl) ⟨by decide, by decide⟩ dL_encode_5 ?_
  intro r9 h9 hp9
  rw [hp9.1, hp9.2]
  show TT K ly 0 0 8 [(0, vR 0), (1, vI 1), (2, vI 3), (3, vR 107)] [vI 17, vI 0, vR 107] (tH Ne_42)
  refine TT_i2l hK (by decide) dL_encode_8 ?_
  refine TT_last hK (o := 107) (n := 1) (by decide) rfl (by decide) (by decide) dL_encode_9 ?_
  refine TT_goto hK (tgt := 17) dL_encode_10 rfl ?_
  refine TT_iconst hK dL_encode_17 ?_
  refine TT_widen (kc' := 1) (ks' := 6) (by decide) (by decide) ?_
  exact TT_iret hK hQ ⟨rfl, rfl⟩ dL_encode_18
theorem hp_encode_21   : CtrH yL_encode cL_encode 5 (some .int) [(0, 10, 13, 13)] rmh ly ly 1 6 [vR 0, vI 2, vI 1, vR 107] H0_ (fun r h' => r = some (vI 0) ∧ h' = up (tH Ne_43) 107 0 10) := by
  refine CtrH_of (y2 := yX12_tellBand) (by decide) (gd_ (tb_6 66 rfl) rfl) (Nat.le_of_ble_eq_true rfl) ⟨Nat.le_refl _, Nat.le_refl _⟩ (fun K hK hQ hH => ?_)
  show TT K ly 0 0 0 [(0, vR 0), (1, vI 2), (2, vI 1), (3, vR 107)] [] H0_
  refine TT_aload_n hK rfl 3 rfl dL_encode_0 ?_
  refine TT_iconst hK dL_encode_1 ?_
  refine TT_aload_n hK rfl 0 rfl dL_encode_2 ?_
  refine TT_iload_n hK rfl 1 rfl dL_encode_3 ?_
  refine TT_iload_n hK rfl 2 rfl dL_encode_4 ?_
  obtain ⟨d0, hd0, hC⟩ := cl_ctr (TbC_ok (h0 := HZ)) cbe21
  have hC0 : Ctr (miT TbC 16).1 (miT TbC 16).2.1 (miT TbC 16).2.2.1 (miT TbC 16).2.2.2 (rmd d0) ly ly 0 0 [vR 0, vI 2, vI 1] (tH Ne_24) (fun r' h' => r' = some (vI 10) ∧ h' = tH Ne_43) := by
    have e1 := hC
    unfold CtrM at e1
    rw [tG_c, tG_c] at e1
    exact e1
  refine iv_L_19 hK (mcC_16 hC0) (by decide) rfl ⟨by show d0 + 1 ≤ 11; omega, by show _ ≤ 440; omega⟩ (Nat.le_refl _) rfl rfl (Nat.le_of_ble_eq_true rfl) ⟨by decide, by decide⟩ dL_encode_5 ?_
  intro r9 h9 hp9
  rw [hp9.1, hp9.2]
  show TT K ly 0 0 8 [(0, vR 0), (1, vI 2), (2, vI 1), (3, vR 107)] [vI 10, vI 0, vR 107] (tH Ne_43)
  refine TT_i2l hK (by decide) dL_encode_8 ?_
  refine TT_last hK (o := 107) (n := 1) (by decide) rfl (by decide) (by decide) dL_encode_9 ?_
  refine TT_goto hK (tgt := 17) dL_encode_10 rfl ?_
  refine TT_iconst hK dL_encode_17 ?_
  refine TT_widen (kc' := 1) (ks' := 6) (by decide) (by decide) ?_
  exact TT_iret hK hQ ⟨rfl, rfl⟩ dL_encode_18
theorem hp_encode_22   : CtrH yL_encode cL_encode 5 (some .int) [(0, 10, 13, 13)] rmh ly ly 1 6 [vR 0, vI 2, vI 2, vR 107] H0_ (fun r h' => r = some (vI 0) ∧ h' = up (tH Ne_44) 107 0 15) := by
  refine CtrH_of (y2 := yX12_tellBand) (by decide) (gd_ (tb_6 66 rfl) rfl) (Nat.le_of_ble_eq_true rfl) ⟨Nat.le_refl _, Nat.le_refl _⟩ (fun K hK hQ hH => ?_)
  show TT K ly 0 0 0 [(0, vR 0), (1, vI 2), (2, vI 2), (3, vR 107)] [] H0_
  refine TT_aload_n hK rfl 3 rfl dL_encode_0 ?_
  refine TT_iconst hK dL_encode_1 ?_
  refine TT_aload_n hK rfl 0 rfl dL_encode_2 ?_
  refine TT_iload_n hK rfl 1 rfl dL_encode_3 ?_
  refine TT_iload_n hK rfl 2 rfl dL_encode_4 ?_
  obtain ⟨d0, hd0, hC⟩ := cl_ctr (TbC_ok (h0 := HZ)) cbe22
  have hC0 : Ctr (miT TbC 16).1 (miT TbC 16).2.1 (miT TbC 16).2.2.1 (miT TbC 16).2.2.2 (rmd d0) ly ly 0 0 [vR 0, vI 2, vI 2] (tH Ne_24) (fun r' h' => r' = some (vI 15) ∧ h' = tH Ne_44) := by
    have e1 := hC
    unfold CtrM at e1
    rw [tG_c, tG_c] at e1
    exact e1
  refine iv_L_19 hK (mcC_16 hC0) (by decide) rfl ⟨by show d0 + 1 ≤ 11; omega, by show _ ≤ 440; omega⟩ (Nat.le_refl _) rfl rfl (Nat.le_of_ble_eq_true rfl) ⟨by decide, by decide⟩ dL_encode_5 ?_
  intro r9 h9 hp9
  rw [hp9.1, hp9.2]
  show TT K ly 0 0 8 [(0, vR 0), (1, vI 2), (2, vI 2), (3, vR 107)] [vI 15, vI 0, vR 107] (tH Ne_44)
  refine TT_i2l hK (by decide) dL_encode_8 ?_
  refine TT_last hK (o := 107) (n := 1) (by decide) rfl (by decide) (by decide) dL_encode_9 ?_
  refine TT_goto hK (tgt := 17) dL_encode_10 rfl ?_
  refine TT_iconst hK dL_encode_17 ?_
  refine TT_widen (kc' := 1) (ks' := 6) (by decide) (by decide) ?_
  exact TT_iret hK hQ ⟨rfl, rfl⟩ dL_encode_18
theorem hp_encode_23   : CtrH yL_encode cL_encode 5 (some .int) [(0, 10, 13, 13)] rmh ly ly 1 6 [vR 0, vI 2, vI 3, vR 107] H0_ (fun r h' => r = some (vI 0) ∧ h' = up (tH Ne_45) 107 0 20) := by
  refine CtrH_of (y2 := yX12_tellBand) (by decide) (gd_ (tb_6 66 rfl) rfl) (Nat.le_of_ble_eq_true rfl) ⟨Nat.le_refl _, Nat.le_refl _⟩ (fun K hK hQ hH => ?_)
  show TT K ly 0 0 0 [(0, vR 0), (1, vI 2), (2, vI 3), (3, vR 107)] [] H0_
  refine TT_aload_n hK rfl 3 rfl dL_encode_0 ?_
  refine TT_iconst hK dL_encode_1 ?_
  refine TT_aload_n hK rfl 0 rfl dL_encode_2 ?_
  refine TT_iload_n hK rfl 1 rfl dL_encode_3 ?_
  refine TT_iload_n hK rfl 2 rfl dL_encode_4 ?_
  obtain ⟨d0, hd0, hC⟩ := cl_ctr (TbC_ok (h0 := HZ)) cbe23
  have hC0 : Ctr (miT TbC 16).1 (miT TbC 16).2.1 (miT TbC 16).2.2.1 (miT TbC 16).2.2.2 (rmd d0) ly ly 0 0 [vR 0, vI 2, vI 3] (tH Ne_24) (fun r' h' => r' = some (vI 20) ∧ h' = tH Ne_45) := by
    have e1 := hC
    unfold CtrM at e1
    rw [tG_c, tG_c] at e1
    exact e1
  refine iv_L_19 hK (mcC_16 hC0) (by decide) rfl ⟨by show d0 + 1 ≤ 11; omega, by show _ ≤ 440; omega⟩ (Nat.le_refl _) rfl rfl (Nat.le_of_ble_eq_true rfl) ⟨by decide, by decide⟩ dL_encode_5 ?_
  intro r9 h9 hp9
  rw [hp9.1, hp9.2]
  show TT K ly 0 0 8 [(0, vR 0), (1, vI 2), (2, vI 3), (3, vR 107)] [vI 20, vI 0, vR 107] (tH Ne_45)
  refine TT_i2l hK (by decide) dL_encode_8 ?_
  refine TT_last hK (o := 107) (n := 1) (by decide) rfl (by decide) (by decide) dL_encode_9 ?_
  refine TT_goto hK (tgt := 17) dL_encode_10 rfl ?_
  refine TT_iconst hK dL_encode_17 ?_
  refine TT_widen (kc' := 1) (ks' := 6) (by decide) (by decide) ?_
  exact TT_iret hK hQ ⟨rfl, rfl⟩ dL_encode_18
theorem hp_encode_31   : CtrH yL_encode cL_encode 5 (some .int) [(0, 10, 13, 13)] rmh ly ly 1 6 [vR 0, vI 3, vI 1, vR 107] H0_ (fun r h' => r = some (vI 0) ∧ h' = up (tH Ne_46) 107 0 11) := by
  refine CtrH_of (y2 := yX12_tellBand) (by decide) (gd_ (tb_6 66 rfl) rfl) (Nat.le_of_ble_eq_true rfl) ⟨Nat.le_refl _, Nat.le_refl _⟩ (fun K hK hQ hH => ?_)
  show TT K ly 0 0 0 [(0, vR 0), (1, vI 3), (2, vI 1), (3, vR 107)] [] H0_
  refine TT_aload_n hK rfl 3 rfl dL_encode_0 ?_
  refine TT_iconst hK dL_encode_1 ?_
  refine TT_aload_n hK rfl 0 rfl dL_encode_2 ?_
  refine TT_iload_n hK rfl 1 rfl dL_encode_3 ?_
  refine TT_iload_n hK rfl 2 rfl dL_encode_4 ?_
  obtain ⟨d0, hd0, hC⟩ := cl_ctr (TbC_ok (h0 := HZ)) cbe31
  have hC0 : Ctr (miT TbC 16).1 (miT TbC 16).2.1 (miT TbC 16).2.2.1 (miT TbC 16).2.2.2 (rmd d0) ly ly 0 0 [vR 0, vI 3, vI 1] (tH Ne_24) (fun r' h' => r' = some (vI 11) ∧ h' = tH Ne_46) := by
    have e1 := hC
    unfold CtrM at e1
    rw [tG_c, tG_c] at e1
    exact e1
  refine iv_L_19 hK (mcC_16 hC0) (by decide) rfl ⟨by show d0 + 1 ≤ 11; omega, by show _ ≤ 440; omega⟩ (Nat.le_refl _) rfl rfl (Nat.le_of_ble_eq_true rfl) ⟨by decide, by decide⟩ dL_encode_5 ?_
  intro r9 h9 hp9
  rw [hp9.1, hp9.2]
  show TT K ly 0 0 8 [(0, vR 0), (1, vI 3), (2, vI 1), (3, vR 107)] [vI 11, vI 0, vR 107] (tH Ne_46)
  refine TT_i2l hK (by decide) dL_encode_8 ?_
  refine TT_last hK (o := 107) (n := 1) (by decide) rfl (by decide) (by decide) dL_encode_9 ?_
  refine TT_goto hK (tgt := 17) dL_encode_10 rfl ?_
  refine TT_iconst hK dL_encode_17 ?_
  refine TT_widen (kc' := 1) (ks' := 6) (by decide) (by decide) ?_
  exact TT_iret hK hQ ⟨rfl, rfl⟩ dL_encode_18
theorem hp_encode_32   : CtrH yL_encode cL_encode 5 (some .int) [(0, 10, 13, 13)] rmh ly ly 1 6 [vR 0, vI 3, vI 2, vR 107] H0_ (fun r h' => r = some (vI 0) ∧ h' = up (tH Ne_47) 107 0 17) := by
  refine CtrH_of (y2 := yX12_tellBand) (by decide) (gd_ (tb_6 66 rfl) rfl) (Nat.le_of_ble_eq_true rfl) ⟨Nat.le_refl _, Nat.le_refl _⟩ (fun K hK hQ hH => ?_)
  show TT K ly 0 0 0 [(0, vR 0), (1, vI 3), (2, vI 2), (3, vR 107)] [] H0_
  refine TT_aload_n hK rfl 3 rfl dL_encode_0 ?_
  refine TT_iconst hK dL_encode_1 ?_
  refine TT_aload_n hK rfl 0 rfl dL_encode_2 ?_
  refine TT_iload_n hK rfl 1 rfl dL_encode_3 ?_
  refine TT_iload_n hK rfl 2 rfl dL_encode_4 ?_
  obtain ⟨d0, hd0, hC⟩ := cl_ctr (TbC_ok (h0 := HZ)) cbe32
  have hC0 : Ctr (miT TbC 16).1 (miT TbC 16).2.1 (miT TbC 16).2.2.1 (miT TbC 16).2.2.2 (rmd d0) ly ly 0 0 [vR 0, vI 3, vI 2] (tH Ne_24) (fun r' h' => r' = some (vI 17) ∧ h' = tH Ne_47) := by
    have e1 := hC
    unfold CtrM at e1
    rw [tG_c, tG_c] at e1
    exact e1
  refine iv_L_19 hK (mcC_16 hC0) (by decide) rfl ⟨by show d0 + 1 ≤ 11; omega, by show _ ≤ 440; omega⟩ (Nat.le_refl _) rfl rfl (Nat.le_of_ble_eq_true rfl) ⟨by decide, by decide⟩ dL_encode_5 ?_
  intro r9 h9 hp9
  rw [hp9.1, hp9.2]
  show TT K ly 0 0 8 [(0, vR 0), (1, vI 3), (2, vI 2), (3, vR 107)] [vI 17, vI 0, vR 107] (tH Ne_47)
  refine TT_i2l hK (by decide) dL_encode_8 ?_
  refine TT_last hK (o := 107) (n := 1) (by decide) rfl (by decide) (by decide) dL_encode_9 ?_
  refine TT_goto hK (tgt := 17) dL_encode_10 rfl ?_
  refine TT_iconst hK dL_encode_17 ?_
  refine TT_widen (kc' := 1) (ks' := 6) (by decide) (by decide) ?_
  exact TT_iret hK hQ ⟨rfl, rfl⟩ dL_encode_18
theorem hp_encode_33   : CtrH yL_encode cL_encode 5 (some .int) [(0, 10, 13, 13)] rmh ly ly 1 6 [vR 0, vI 3, vI 3, vR 107] H0_ (fun r h' => r = some (vI 0) ∧ h' = up (tH Ne_48) 107 0 23) := by
  refine CtrH_of (y2 := yX12_tellBand) (by decide) (gd_ (tb_6 66 rfl) rfl) (Nat.le_of_ble_eq_true rfl) ⟨Nat.le_refl _, Nat.le_refl _⟩ (fun K hK hQ hH => ?_)
  show TT K ly 0 0 0 [(0, vR 0), (1, vI 3), (2, vI 3), (3, vR 107)] [] H0_
  refine TT_aload_n hK rfl 3 rfl dL_encode_0 ?_
  refine TT_iconst hK dL_encode_1 ?_
  refine TT_aload_n hK rfl 0 rfl dL_encode_2 ?_
  refine TT_iload_n hK rfl 1 rfl dL_encode_3 ?_
  refine TT_iload_n hK rfl 2 rfl dL_encode_4 ?_
  obtain ⟨d0, hd0, hC⟩ := cl_ctr (TbC_ok (h0 := HZ)) cbe33
  have hC0 : Ctr (miT TbC 16).1 (miT TbC 16).2.1 (miT TbC 16).2.2.1 (miT TbC 16).2.2.2 (rmd d0) ly ly 0 0 [vR 0, vI 3, vI 3] (tH Ne_24) (fun r' h' => r' = some (vI 23) ∧ h' = tH Ne_48) := by
    have e1 := hC
    unfold CtrM at e1
    rw [tG_c, tG_c] at e1
    exact e1
  refine iv_L_19 hK (mcC_16 hC0) (by decide) rfl ⟨by show d0 + 1 ≤ 11; omega, by show _ ≤ 440; omega⟩ (Nat.le_refl _) rfl rfl (Nat.le_of_ble_eq_true rfl) ⟨by decide, by decide⟩ dL_encode_5 ?_
  intro r9 h9 hp9
  rw [hp9.1, hp9.2]
  show TT K ly 0 0 8 [(0, vR 0), (1, vI 3), (2, vI 3), (3, vR 107)] [vI 23, vI 0, vR 107] (tH Ne_48)
  refine TT_i2l hK (by decide) dL_encode_8 ?_
  refine TT_last hK (o := 107) (n := 1) (by decide) rfl (by decide) (by decide) dL_encode_9 ?_
  refine TT_goto hK (tgt := 17) dL_encode_10 rfl ?_
  refine TT_iconst hK dL_encode_17 ?_
  refine TT_widen (kc' := 1) (ks' := 6) (by decide) (by decide) ?_
  exact TT_iret hK hQ ⟨rfl, rfl⟩ dL_encode_18
theorem law_c0 {K : TC_} {b : Nat} {xs : Nat → Int32} {hh0 : List (Nat × Nat × Nat × Nat)} (hK : TOk K RL code 7 ret room_1 0) (hX : TLX K b 4 xs) (hT : TH K hh0) (J : ∀ kc ks h, kc ≤ 115 → ks ≤ 29866 → TT K ly kc ks 674 [(4, vI 0), (0, vR 2000)] [] h)  : TT K ly 108 29820 108 [(4, vI 0), (3, vR 107), (2, vR 73), (1, vR 0), (0, vR 2000)] [] H0_ := by
  by_cases hV : (1 ≤ (xs 1).toInt ∧ (xs 1).toInt ≤ 8) ∧ (1 ≤ (xs 2).toInt ∧ (xs 2).toInt ≤ 8)
  ·
    refine TT_aload_n hK rfl 3 rfl dL_law_108 ?_
    refine TT_aload_n hK rfl 4 rfl dL_law_109 ?_
    refine TT_iload hK 0 rfl dL_law_110 ?_
    refine TT_iconst hK dL_law_112 ?_
    refine TT_iadd hK dL_law_113 ?_
    refine TT_cgI (b := 1) rfl ?_
    refine TT_sld hK hX (by decide) (by decide) (by decide) dL_law_114 ?_
    refine TT_cgI (b := (xs 1).toInt) rfl ?_
    refine TT_aload_n hK rfl 4 rfl dL_law_115 ?_
    refine TT_iload hK 0 rfl dL_law_116 ?_
    refine TT_iconst hK dL_law_118 ?_
    refine TT_iadd hK dL_law_119 ?_
    refine TT_cgI (b := 2) rfl ?_
    refine TT_sld hK hX (by decide) (by decide) (by decide) dL_law_120 ?_
    refine TT_cgI (b := (xs 2).toInt) rfl ?_
    refine TT_callH hK hT (y := yL_picture) (hh := [(0, 6, 9, 13)]) (As := [vR 0, vI (xs 1).toInt, vI (xs 2).toInt]) (st := []) (n := 3) (w1 := ly) (mc := 1) (ms := 6) (hp_picture_v (xs 1).toInt (xs 2).toInt H0_ (ir_of _) (ir_of _) hV) ⟨rfl, rfl⟩ ⟨by decide, by decide⟩ (gd_ (tb_3 1 rfl) rfl) ⟨by decide, by decide, by decide +kernel⟩ (List.forall_mem_cons.mpr ⟨(gd_ (tb_2 239 rfl) rfl), (List.forall_mem_cons.mpr ⟨(gd_ (tb_3 0 rfl) rfl), (List.forall_mem_cons.mpr ⟨(gd_ (tb_1 0 rfl) rfl), (fun _ z => absurd z List.not_mem_nil)⟩)⟩)⟩) rfl (Nat.zero_le _) rfl rfl (Nat.le_of_ble_eq_true rfl) ⟨by decide, Nat.le_of_ble_eq_true rfl⟩ dL_law_121 ?_
    intro r9 h9 hp9
    rw [hp9.1, hp9.2]
    show TT K ly 109 29826 124 [(4, vI 0), (3, vR 107), (2, vR 73), (1, vR 0), (0, vR 2000)] [vI 0] (setO (setO H0_ 1 (fup (fup (H0_ 1) 1 (xs 1).toInt) 2 (xs 2).toInt)) 2 (fsr (H0_ 2) 0 64 (fun _ => 0)))
    refine TT_istore hK (by decide) rfl dL_law_124 ?_
    show TT K ly 109 29826 126 [(5, vI 0), (4, vI 0), (3, vR 107), (2, vR 73), (1, vR 0), (0, vR 2000)] [] (setO (setO H0_ 1 (fup (fup (H0_ 1) 1 (xs 1).toInt) 2 (xs 2).toInt)) 2 (fsr (H0_ 2) 0 64 (fun _ => 0)))
    refine TT_aload_n hK rfl 3 rfl dL_law_126 ?_
    refine TT_aload_n hK rfl 5 rfl dL_law_127 ?_
    refine TT_iload hK 1 rfl dL_law_128 ?_
    refine TT_iconst hK dL_law_130 ?_
    refine TT_iadd hK dL_law_131 ?_
    refine TT_cgI (b := 1) rfl ?_
    refine TT_sld hK hX (by decide) (by decide) (by decide) dL_law_132 ?_
    refine TT_cgI (b := (xs 1).toInt) rfl ?_
    refine TT_aload_n hK rfl 5 rfl dL_law_133 ?_
    refine TT_iload hK 1 rfl dL_law_134 ?_
    refine TT_iconst hK dL_law_136 ?_
    refine TT_iadd hK dL_law_137 ?_
    refine TT_cgI (b := 2) rfl ?_
    refine TT_sld hK hX (by decide) (by decide) (by decide) dL_law_138 ?_
    refine TT_cgI (b := (xs 2).toInt) rfl ?_
    refine iv_L_36 hK (c_X12_picture_v (xs 1).toInt (xs 2).toInt (setO (setO H0_ 1 (fup (fup (H0_ 1) 1 (xs 1).toInt) 2 (xs 2).toInt)) 2 (fsr (H0_ 2) 0 64 (fun _ => 0))) (ir_of _) (ir_of _) hV) (by decide) rfl ⟨by decide, by decide⟩ (Nat.zero_le _) rfl rfl (Nat.le_of_ble_eq_true rfl) ⟨by decide, Nat.le_of_ble_eq_true rfl⟩ dL_law_139 ?_
    intro r9 h9 hp9
    rw [hp9.1, hp9.2]
    show TT K ly 109 29826 142 [(5, vI 0), (4, vI 0), (3, vR 107), (2, vR 73), (1, vR 0), (0, vR 2000)] [] (setO (setO (setO (setO H0_ 1 (fup (fup (H0_ 1) 1 (xs 1).toInt) 2 (xs 2).toInt)) 2 (fsr (H0_ 2) 0 64 (fun _ => 0))) 73 (fup (fup (fup ((setO (setO H0_ 1 (fup (fup (H0_ 1) 1 (xs 1).toInt) 2 (xs 2).toInt)) 2 (fsr (H0_ 2) 0 64 (fun _ => 0))) 73) 2 0) 3 (xs 1).toInt) 4 (xs 2).toInt)) 76 (fsr ((setO (setO H0_ 1 (fup (fup (H0_ 1) 1 (xs 1).toInt) 2 (xs 2).toInt)) 2 (fsr (H0_ 2) 0 64 (fun _ => 0))) 76) 0 64 (fun _ => 0)))
    refine TT_aload_n hK rfl 3 rfl dL_law_142 ?_
    refine iv_L_37 hK (c_X12_thrown_73 (setO (setO (setO (setO H0_ 1 (fup (fup (H0_ 1) 1 (xs 1).toInt) 2 (xs 2).toInt)) 2 (fsr (H0_ 2) 0 64 (fun _ => 0))) 73 (fup (fup (fup ((setO (setO H0_ 1 (fup (fup (H0_ 1) 1 (xs 1).toInt) 2 (xs 2).toInt)) 2 (fsr (H0_ 2) 0 64 (fun _ => 0))) 73) 2 0) 3 (xs 1).toInt) 4 (xs 2).toInt)) 76 (fsr ((setO (setO H0_ 1 (fup (fup (H0_ 1) 1 (xs 1).toInt) 2 (xs 2).toInt)) 2 (fsr (H0_ 2) 0 64 (fun _ => 0))) 76) 0 64 (fun _ => 0)))) (by decide) rfl ⟨by decide, by decide⟩ (Nat.zero_le _) rfl rfl (Nat.le_of_ble_eq_true rfl) ⟨by decide, Nat.le_of_ble_eq_true rfl⟩ dL_law_143 ?_
    intro r9 h9 hp9
    rw [hp9.1, hp9.2]
    show TT K ly 109 29826 146 [(5, vI 0), (4, vI 0), (3, vR 107), (2, vR 73), (1, vR 0), (0, vR 2000)] [vI ((setO (setO (setO (setO H0_ 1 (fup (fup (H0_ 1) 1 (xs 1).toInt) 2 (xs 2).toInt)) 2 (fsr (H0_ 2) 0 64 (fun _ => 0))) 73 (fup (fup (fup ((setO (setO H0_ 1 (fup (fup (H0_ 1) 1 (xs 1).toInt) 2 (xs 2).toInt)) 2 (fsr (H0_ 2) 0 64 (fun _ => 0))) 73) 2 0) 3 (xs 1).toInt) 4 (xs 2).toInt)) 76 (fsr ((setO (setO H0_ 1 (fup (fup (H0_ 1) 1 (xs 1).toInt) 2 (xs 2).toInt)) 2 (fsr (H0_ 2) 0 64 (fun _ => 0))) 76) 0 64 (fun _ => 0))) 73 2)] (setO (setO (setO (setO H0_ 1 (fup (fup (H0_ 1) 1 (xs 1).toInt) 2 (xs 2).toInt)) 2 (fsr (H0_ 2) 0 64 (fun _ => 0))) 73 (fup (fup (fup ((setO (setO H0_ 1 (fup (fup (H0_ 1) 1 (xs 1).toInt) 2 (xs 2).toInt)) 2 (fsr (H0_ 2) 0 64 (fun _ => 0))) 73) 2 0) 3 (xs 1).toInt) 4 (xs 2).toInt)) 76 (fsr ((setO (setO H0_ 1 (fup (fup (H0_ 1) 1 (xs 1).toInt) 2 (xs 2).toInt)) 2 (fsr (H0_ 2) 0 64 (fun _ => 0))) 76) 0 64 (fun _ => 0)))
    refine TT_cgI (b := 0) (by first | rfl | simp [setO, fup]) ?_
    refine TT_iload hK 0 rfl dL_law_146 ?_
    refine TT_icmp_eq hK (tgt := 153) (by decide) (by decide) dL_law_148 rfl (fun _ => ?_) (fun q => absurd rfl q)
    refine TT_goto hK (tgt := 674) dL_law_153 rfl ?_
    refine TT_sub [1, 5] rfl ?_
    exact J _ _ _ (by decide) (Nat.le_of_ble_eq_true rfl)
  ·
    refine TT_aload_n hK rfl 3 rfl dL_law_108 ?_
    refine TT_aload_n hK rfl 4 rfl dL_law_109 ?_
    refine TT_iload hK 0 rfl dL_law_110 ?_
    refine TT_iconst hK dL_law_112 ?_
    refine TT_iadd hK dL_law_113 ?_
    refine TT_cgI (b := 1) rfl ?_
    refine TT_sld hK hX (by decide) (by decide) (by decide) dL_law_114 ?_
    refine TT_cgI (b := (xs 1).toInt) rfl ?_
    refine TT_aload_n hK rfl 4 rfl dL_law_115 ?_
    refine TT_iload hK 0 rfl dL_law_116 ?_
    refine TT_iconst hK dL_law_118 ?_
    refine TT_iadd hK dL_law_119 ?_
    refine TT_cgI (b := 2) rfl ?_
    refine TT_sld hK hX (by decide) (by decide) (by decide) dL_law_120 ?_
    refine TT_cgI (b := (xs 2).toInt) rfl ?_
    refine TT_callH hK hT (y := yL_picture) (hh := [(0, 6, 9, 13)]) (As := [vR 0, vI (xs 1).toInt, vI (xs 2).toInt]) (st := []) (n := 3) (w1 := ly) (mc := 1) (ms := 6) (hp_picture_t (xs 1).toInt (xs 2).toInt H0_ (ir_of _) (ir_of _) hV) ⟨rfl, rfl⟩ ⟨by decide, by decide⟩ (gd_ (tb_3 1 rfl) rfl) ⟨by decide, by decide, by decide +kernel⟩ (List.forall_mem_cons.mpr ⟨(gd_ (tb_2 239 rfl) rfl), (List.forall_mem_cons.mpr ⟨(gd_ (tb_3 0 rfl) rfl), (List.forall_mem_cons.mpr ⟨(gd_ (tb_1 0 rfl) rfl), (fun _ z => absurd z List.not_mem_nil)⟩)⟩)⟩) rfl (Nat.zero_le _) rfl rfl (Nat.le_of_ble_eq_true rfl) ⟨by decide, Nat.le_of_ble_eq_true rfl⟩ dL_law_121 ?_
    intro r9 h9 hp9
    rw [hp9.1, hp9.2]
    show TT K ly 109 29826 124 [(4, vI 0), (3, vR 107), (2, vR 73), (1, vR 0), (0, vR 2000)] [vI 1] H0_
    refine TT_istore hK (by decide) rfl dL_law_124 ?_
    show TT K ly 109 29826 126 [(5, vI 1), (4, vI 0), (3, vR 107), (2, vR 73), (1, vR 0), (0, vR 2000)] [] H0_
    refine TT_aload_n hK rfl 3 rfl dL_law_126 ?_
    refine TT_aload_n hK rfl 5 rfl dL_law_127 ?_
    refine TT_iload hK 1 rfl dL_law_128 ?_
    refine TT_iconst hK dL_law_130 ?_
    refine TT_iadd hK dL_law_131 ?_
    refine TT_cgI (b := 1) rfl ?_
    refine TT_sld hK hX (by decide) (by decide) (by decide) dL_law_132 ?_
    refine TT_cgI (b := (xs 1).toInt) rfl ?_
    refine TT_aload_n hK rfl 5 rfl dL_law_133 ?_
    refine TT_iload hK 1 rfl dL_law_134 ?_
    refine TT_iconst hK dL_law_136 ?_
    refine TT_iadd hK dL_law_137 ?_
    refine TT_cgI (b := 2) rfl ?_
    refine TT_sld hK hX (by decide) (by decide) (by decide) dL_law_138 ?_
    refine TT_cgI (b := (xs 2).toInt) rfl ?_
    refine iv_L_36 hK (c_X12_picture_x (xs 1).toInt (xs 2).toInt H0_ (ir_of _) (ir_of _) hV) (by decide) rfl ⟨by decide, by decide⟩ (Nat.zero_le _) rfl rfl (Nat.le_of_ble_eq_true rfl) ⟨by decide, Nat.le_of_ble_eq_true rfl⟩ dL_law_139 ?_
    intro r9 h9 hp9
    rw [hp9.1, hp9.2]
    show TT K ly 109 29826 142 [(5, vI 1), (4, vI 0), (3, vR 107), (2, vR 73), (1, vR 0), (0, vR 2000)] [] (setO H0_ 73 (fup (H0_ 73) 2 1))
    refine TT_aload_n hK rfl 3 rfl dL_law_142 ?_
    refine iv_L_37 hK (c_X12_thrown_73 (setO H0_ 73 (fup (H0_ 73) 2 1))) (by decide) rfl ⟨by decide, by decide⟩ (Nat.zero_le _) rfl rfl (Nat.le_of_ble_eq_true rfl) ⟨by decide, Nat.le_of_ble_eq_true rfl⟩ dL_law_143 ?_
    intro r9 h9 hp9
    rw [hp9.1, hp9.2]
    show TT K ly 109 29826 146 [(5, vI 1), (4, vI 0), (3, vR 107), (2, vR 73), (1, vR 0), (0, vR 2000)] [vI ((setO H0_ 73 (fup (H0_ 73) 2 1)) 73 2)] (setO H0_ 73 (fup (H0_ 73) 2 1))
    refine TT_cgI (b := 1) (by first | rfl | simp [setO, fup]) ?_
    refine TT_iload hK 0 rfl dL_law_146 ?_
    refine TT_icmp_eq hK (tgt := 153) (by decide) (by decide) dL_law_148 rfl (fun _ => ?_) (fun q => absurd rfl q)
    refine TT_goto hK (tgt := 674) dL_law_153 rfl ?_
    refine TT_sub [1, 5] rfl ?_
    exact J _ _ _ (by decide) (Nat.le_of_ble_eq_true rfl)
theorem law_c1 {K : TC_} {b : Nat} {xs : Nat → Int32} {hh0 : List (Nat × Nat × Nat × Nat)} (hK : TOk K RL code 7 ret room_1 0) (hX : TLX K b 4 xs) (hT : TH K hh0) (J : ∀ kc ks h, kc ≤ 115 → ks ≤ 29866 → TT K ly kc ks 674 [(4, vI 0), (0, vR 2000)] [] h)  : TT K ly 108 29820 156 [(4, vI 0), (3, vR 107), (2, vR 73), (1, vR 0), (0, vR 2000)] [] H0_ := by
  by_cases hV : ((xs 1).toInt = 0 ∧ (xs 2).toInt = 0) ∧ (0 ≤ (xs 3).toInt ∧ (xs 3).toInt ≤ 255)
  ·
    refine TT_aload_n hK rfl 3 rfl dL_law_156 ?_
    refine TT_aload_n hK rfl 4 rfl dL_law_157 ?_
    refine TT_iload hK 0 rfl dL_law_158 ?_
    refine TT_iconst hK dL_law_160 ?_
    refine TT_iadd hK dL_law_161 ?_
    refine TT_cgI (b := 1) rfl ?_
    refine TT_sld hK hX (by decide) (by decide) (by decide) dL_law_162 ?_
    refine TT_cgI (b := (xs 1).toInt) rfl ?_
    refine TT_aload_n hK rfl 4 rfl dL_law_163 ?_
    refine TT_iload hK 0 rfl dL_law_164 ?_
    refine TT_iconst hK dL_law_166 ?_
    refine TT_iadd hK dL_law_167 ?_
    refine TT_cgI (b := 2) rfl ?_
    refine TT_sld hK hX (by decide) (by decide) (by decide) dL_law_168 ?_
    refine TT_cgI (b := (xs 2).toInt) rfl ?_
    refine TT_aload_n hK rfl 4 rfl dL_law_169 ?_
    refine TT_iload hK 0 rfl dL_law_170 ?_
    refine TT_iconst hK dL_law_172 ?_
    refine TT_iadd hK dL_law_173 ?_
    refine TT_cgI (b := 3) rfl ?_
    refine TT_sld hK hX (by decide) (by decide) (by decide) dL_law_174 ?_
    refine TT_cgI (b := (xs 3).toInt) rfl ?_
    refine TT_callH hK hT (y := yL_paint) (hh := [(0, 7, 10, 13)]) (As := [vR 0, vI (xs 1).toInt, vI (xs 2).toInt, vI (xs 3).toInt]) (st := []) (n := 4) (w1 := ly) (mc := 1) (ms := 6) (hp_paint_v (xs 1).toInt (xs 2).toInt (xs 3).toInt H0_ (ir_of _) (ir_of _) (ir_of _) (by rw [fH_1_1]; decide) (by rw [fH_1_2]; decide) (by rw [fH_1_1, fH_1_2]; omega) hV.2) ⟨rfl, rfl⟩ ⟨by decide, by decide⟩ (gd_ (tb_3 78 rfl) rfl) ⟨by decide, by decide, by decide +kernel⟩ (List.forall_mem_cons.mpr ⟨(gd_ (tb_3 76 rfl) rfl), (List.forall_mem_cons.mpr ⟨(gd_ (tb_3 77 rfl) rfl), (List.forall_mem_cons.mpr ⟨(gd_ (tb_1 0 rfl) rfl), (fun _ z => absurd z List.not_mem_nil)⟩)⟩)⟩) rfl (Nat.zero_le _) rfl rfl (Nat.le_of_ble_eq_true rfl) ⟨by decide, Nat.le_of_ble_eq_true rfl⟩ dL_law_175 ?_
    intro r9 h9 hp9
    rw [hp9.1, hp9.2]
    show TT K ly 109 29826 178 [(4, vI 0), (3, vR 107), (2, vR 73), (1, vR 0), (0, vR 2000)] [vI 0] (setO H0_ 2 (fup (H0_ 2) (((xs 2).toInt * 8) + (xs 1).toInt) (xs 3).toInt))
    refine TT_istore hK (by decide) rfl dL_law_178 ?_
    show TT K ly 109 29826 180 [(5, vI 0), (4, vI 0), (3, vR 107), (2, vR 73), (1, vR 0), (0, vR 2000)] [] (setO H0_ 2 (fup (H0_ 2) (((xs 2).toInt * 8) + (xs 1).toInt) (xs 3).toInt))
    refine TT_aload_n hK rfl 3 rfl dL_law_180 ?_
    refine TT_aload_n hK rfl 5 rfl dL_law_181 ?_
    refine TT_iload hK 1 rfl dL_law_182 ?_
    refine TT_iconst hK dL_law_184 ?_
    refine TT_iadd hK dL_law_185 ?_
    refine TT_cgI (b := 1) rfl ?_
    refine TT_sld hK hX (by decide) (by decide) (by decide) dL_law_186 ?_
    refine TT_cgI (b := (xs 1).toInt) rfl ?_
    refine TT_aload_n hK rfl 5 rfl dL_law_187 ?_
    refine TT_iload hK 1 rfl dL_law_188 ?_
    refine TT_iconst hK dL_law_190 ?_
    refine TT_iadd hK dL_law_191 ?_
    refine TT_cgI (b := 2) rfl ?_
    refine TT_sld hK hX (by decide) (by decide) (by decide) dL_law_192 ?_
    refine TT_cgI (b := (xs 2).toInt) rfl ?_
    refine TT_aload_n hK rfl 5 rfl dL_law_193 ?_
    refine TT_iload hK 1 rfl dL_law_194 ?_
    refine TT_iconst hK dL_law_196 ?_
    refine TT_iadd hK dL_law_197 ?_
    refine TT_cgI (b := 3) rfl ?_
    refine TT_sld hK hX (by decide) (by decide) (by decide) dL_law_198 ?_
    refine TT_cgI (b := (xs 3).toInt) rfl ?_
    have e3 : (setO H0_ 2 (fup (H0_ 2) (((xs 2).toInt * 8) + (xs 1).toInt) (xs 3).toInt)) 73 3 = 1 := fH_73_3
    have e4 : (setO H0_ 2 (fup (H0_ 2) (((xs 2).toInt * 8) + (xs 1).toInt) (xs 3).toInt)) 73 4 = 1 := fH_73_4
    refine iv_L_44 hK (c_X12_paint_v (xs 1).toInt (xs 2).toInt (xs 3).toInt (setO H0_ 2 (fup (H0_ 2) (((xs 2).toInt * 8) + (xs 1).toInt) (xs 3).toInt)) (ir_of _) (ir_of _) (ir_of _) (by rw [e3]; decide) (by rw [e4]; decide) (by rw [e3, e4]; omega) hV.2) (by decide) rfl ⟨by decide, by decide⟩ (Nat.zero_le _) rfl rfl (Nat.le_of_ble_eq_true rfl) ⟨by decide, Nat.le_of_ble_eq_true rfl⟩ dL_law_199 ?_
    intro r9 h9 hp9
    rw [hp9.1, hp9.2]
    show TT K ly 109 29826 202 [(5, vI 0), (4, vI 0), (3, vR 107), (2, vR 73), (1, vR 0), (0, vR 2000)] [] (setO (setO (setO H0_ 2 (fup (H0_ 2) (((xs 2).toInt * 8) + (xs 1).toInt) (xs 3).toInt)) 73 (fup ((setO H0_ 2 (fup (H0_ 2) (((xs 2).toInt * 8) + (xs 1).toInt) (xs 3).toInt)) 73) 2 0)) 76 (fup ((setO H0_ 2 (fup (H0_ 2) (((xs 2).toInt * 8) + (xs 1).toInt) (xs 3).toInt)) 76) ((8 * (xs 2).toInt) + (xs 1).toInt) (xs 3).toInt))
    refine TT_aload_n hK rfl 3 rfl dL_law_202 ?_
    refine iv_L_37 hK (c_X12_thrown_73 (setO (setO (setO H0_ 2 (fup (H0_ 2) (((xs 2).toInt * 8) + (xs 1).toInt) (xs 3).toInt)) 73 (fup ((setO H0_ 2 (fup (H0_ 2) (((xs 2).toInt * 8) + (xs 1).toInt) (xs 3).toInt)) 73) 2 0)) 76 (fup ((setO H0_ 2 (fup (H0_ 2) (((xs 2).toInt * 8) + (xs 1).toInt) (xs 3).toInt)) 76) ((8 * (xs 2).toInt) + (xs 1).toInt) (xs 3).toInt))) (by decide) rfl ⟨by decide, by decide⟩ (Nat.zero_le _) rfl rfl (Nat.le_of_ble_eq_true rfl) ⟨by decide, Nat.le_of_ble_eq_true rfl⟩ dL_law_203 ?_
    intro r9 h9 hp9
    rw [hp9.1, hp9.2]
    show TT K ly 109 29826 206 [(5, vI 0), (4, vI 0), (3, vR 107), (2, vR 73), (1, vR 0), (0, vR 2000)] [vI ((setO (setO (setO H0_ 2 (fup (H0_ 2) (((xs 2).toInt * 8) + (xs 1).toInt) (xs 3).toInt)) 73 (fup ((setO H0_ 2 (fup (H0_ 2) (((xs 2).toInt * 8) + (xs 1).toInt) (xs 3).toInt)) 73) 2 0)) 76 (fup ((setO H0_ 2 (fup (H0_ 2) (((xs 2).toInt * 8) + (xs 1).toInt) (xs 3).toInt)) 76) ((8 * (xs 2).toInt) + (xs 1).toInt) (xs 3).toInt)) 73 2)] (setO (setO (setO H0_ 2 (fup (H0_ 2) (((xs 2).toInt * 8) + (xs 1).toInt) (xs 3).toInt)) 73 (fup ((setO H0_ 2 (fup (H0_ 2) (((xs 2).toInt * 8) + (xs 1).toInt) (xs 3).toInt)) 73) 2 0)) 76 (fup ((setO H0_ 2 (fup (H0_ 2) (((xs 2).toInt * 8) + (xs 1).toInt) (xs 3).toInt)) 76) ((8 * (xs 2).toInt) + (xs 1).toInt) (xs 3).toInt))
    refine TT_cgI (b := 0) (by first | rfl | simp [setO, fup]) ?_
    refine TT_iload hK 0 rfl dL_law_206 ?_
    refine TT_icmp_eq hK (tgt := 213) (by decide) (by decide) dL_law_208 rfl (fun _ => ?_) (fun q => absurd rfl q)
    refine TT_goto hK (tgt := 674) dL_law_213 rfl ?_
    refine TT_sub [1, 5] rfl ?_
    exact J _ _ _ (by decide) (Nat.le_of_ble_eq_true rfl)
  ·
    refine TT_aload_n hK rfl 3 rfl dL_law_156 ?_
    refine TT_aload_n hK rfl 4 rfl dL_law_157 ?_
    refine TT_iload hK 0 rfl dL_law_158 ?_
    refine TT_iconst hK dL_law_160 ?_
    refine TT_iadd hK dL_law_161 ?_
    refine TT_cgI (b := 1) rfl ?_
    refine TT_sld hK hX (by decide) (by decide) (by decide) dL_law_162 ?_
    refine TT_cgI (b := (xs 1).toInt) rfl ?_
    refine TT_aload_n hK rfl 4 rfl dL_law_163 ?_
    refine TT_iload hK 0 rfl dL_law_164 ?_
    refine TT_iconst hK dL_law_166 ?_
    refine TT_iadd hK dL_law_167 ?_
    refine TT_cgI (b := 2) rfl ?_
    refine TT_sld hK hX (by decide) (by decide) (by decide) dL_law_168 ?_
    refine TT_cgI (b := (xs 2).toInt) rfl ?_
    refine TT_aload_n hK rfl 4 rfl dL_law_169 ?_
    refine TT_iload hK 0 rfl dL_law_170 ?_
    refine TT_iconst hK dL_law_172 ?_
    refine TT_iadd hK dL_law_173 ?_
    refine TT_cgI (b := 3) rfl ?_
    refine TT_sld hK hX (by decide) (by decide) (by decide) dL_law_174 ?_
    refine TT_cgI (b := (xs 3).toInt) rfl ?_
    refine TT_callH hK hT (y := yL_paint) (hh := [(0, 7, 10, 13)]) (As := [vR 0, vI (xs 1).toInt, vI (xs 2).toInt, vI (xs 3).toInt]) (st := []) (n := 4) (w1 := ly) (mc := 1) (ms := 6) (hp_paint_t (xs 1).toInt (xs 2).toInt (xs 3).toInt H0_ (ir_of _) (ir_of _) (ir_of _) (by rw [fH_1_1]; decide) (by rw [fH_1_2]; decide) (by rw [fH_1_1, fH_1_2]; omega)) ⟨rfl, rfl⟩ ⟨by decide, by decide⟩ (gd_ (tb_3 78 rfl) rfl) ⟨by decide, by decide, by decide +kernel⟩ (List.forall_mem_cons.mpr ⟨(gd_ (tb_3 76 rfl) rfl), (List.forall_mem_cons.mpr ⟨(gd_ (tb_3 77 rfl) rfl), (List.forall_mem_cons.mpr ⟨(gd_ (tb_1 0 rfl) rfl), (fun _ z => absurd z List.not_mem_nil)⟩)⟩)⟩) rfl (Nat.zero_le _) rfl rfl (Nat.le_of_ble_eq_true rfl) ⟨by decide, Nat.le_of_ble_eq_true rfl⟩ dL_law_175 ?_
    intro r9 h9 hp9
    rw [hp9.1, hp9.2]
    show TT K ly 109 29826 178 [(4, vI 0), (3, vR 107), (2, vR 73), (1, vR 0), (0, vR 2000)] [vI 1] H0_
    refine TT_istore hK (by decide) rfl dL_law_178 ?_
    show TT K ly 109 29826 180 [(5, vI 1), (4, vI 0), (3, vR 107), (2, vR 73), (1, vR 0), (0, vR 2000)] [] H0_
    refine TT_aload_n hK rfl 3 rfl dL_law_180 ?_
    refine TT_aload_n hK rfl 5 rfl dL_law_181 ?_
    refine TT_iload hK 1 rfl dL_law_182 ?_
    refine TT_iconst hK dL_law_184 ?_
    refine TT_iadd hK dL_law_185 ?_
    refine TT_cgI (b := 1) rfl ?_
    refine TT_sld hK hX (by decide) (by decide) (by decide) dL_law_186 ?_
    refine TT_cgI (b := (xs 1).toInt) rfl ?_
    refine TT_aload_n hK rfl 5 rfl dL_law_187 ?_
    refine TT_iload hK 1 rfl dL_law_188 ?_
    refine TT_iconst hK dL_law_190 ?_
    refine TT_iadd hK dL_law_191 ?_
    refine TT_cgI (b := 2) rfl ?_
    refine TT_sld hK hX (by decide) (by decide) (by decide) dL_law_192 ?_
    refine TT_cgI (b := (xs 2).toInt) rfl ?_
    refine TT_aload_n hK rfl 5 rfl dL_law_193 ?_
    refine TT_iload hK 1 rfl dL_law_194 ?_
    refine TT_iconst hK dL_law_196 ?_
    refine TT_iadd hK dL_law_197 ?_
    refine TT_cgI (b := 3) rfl ?_
    refine TT_sld hK hX (by decide) (by decide) (by decide) dL_law_198 ?_
    refine TT_cgI (b := (xs 3).toInt) rfl ?_
    have e3 : H0_ 73 3 = 1 := fH_73_3
    have e4 : H0_ 73 4 = 1 := fH_73_4
    refine iv_L_44 hK (c_X12_paint_x (xs 1).toInt (xs 2).toInt (xs 3).toInt H0_ (ir_of _) (ir_of _) (ir_of _) (by rw [e3]; decide) (by rw [e4]; decide) (by rw [e3, e4]; omega)) (by decide) rfl ⟨by decide, by decide⟩ (Nat.zero_le _) rfl rfl (Nat.le_of_ble_eq_true rfl) ⟨by decide, Nat.le_of_ble_eq_true rfl⟩ dL_law_199 ?_
    intro r9 h9 hp9
    rw [hp9.1, hp9.2]
    show TT K ly 109 29826 202 [(5, vI 1), (4, vI 0), (3, vR 107), (2, vR 73), (1, vR 0), (0, vR 2000)] [] (setO H0_ 73 (fup (H0_ 73) 2 1))
    refine TT_aload_n hK rfl 3 rfl dL_law_202 ?_
    refine iv_L_37 hK (c_X12_thrown_73 (setO H0_ 73 (fup (H0_ 73) 2 1))) (by decide) rfl ⟨by decide, by decide⟩ (Nat.zero_le _) rfl rfl (Nat.le_of_ble_eq_true rfl) ⟨by decide, Nat.le_of_ble_eq_true rfl⟩ dL_law_203 ?_
    intro r9 h9 hp9
    rw [hp9.1, hp9.2]
    show TT K ly 109 29826 206 [(5, vI 1), (4, vI 0), (3, vR 107), (2, vR 73), (1, vR 0), (0, vR 2000)] [vI ((setO H0_ 73 (fup (H0_ 73) 2 1)) 73 2)] (setO H0_ 73 (fup (H0_ 73) 2 1))
    refine TT_cgI (b := 1) (by first | rfl | simp [setO, fup]) ?_
    refine TT_iload hK 0 rfl dL_law_206 ?_
    refine TT_icmp_eq hK (tgt := 213) (by decide) (by decide) dL_law_208 rfl (fun _ => ?_) (fun q => absurd rfl q)
    refine TT_goto hK (tgt := 674) dL_law_213 rfl ?_
    refine TT_sub [1, 5] rfl ?_
    exact J _ _ _ (by decide) (Nat.le_of_ble_eq_true rfl)
def pxv (x y : Int) : Int := if x = 0 ∧ y = 0 then 0 else -100000
theorem pxv_r (x y : Int) : ir_ (pxv x y) := by unfold pxv; split <;> decide
theorem px_c (x y : Int) : (if (0 ≤ x ∧ x < H0_ 1 1) ∧ (0 ≤ y ∧ y < H0_ 1 2) then H0_ 2 (y * 8 + x) else -100000) = pxv x y := by
  rw [fH_1_1, fH_1_2]
  unfold pxv
  by_cases q : x = 0 ∧ y = 0
  · obtain ⟨rfl, rfl⟩ := q
    rw [if_pos (by decide), if_pos ⟨rfl, rfl⟩]
    exact fH_2_0
  · rw [if_neg (by omega), if_neg q]
theorem px_m (x y : Int) : (if ((0 ≤ x ∧ x ≤ H0_ 73 3 - 1) ∧ (0 ≤ y ∧ y ≤ H0_ 73 4 - 1)) then H0_ 76 ((8 * y) + x) else -100000) = pxv x y := by
  rw [fH_73_3, fH_73_4]
  unfold pxv
  by_cases q : x = 0 ∧ y = 0
  · obtain ⟨rfl, rfl⟩ := q
    rw [if_pos (by decide), if_pos ⟨rfl, rfl⟩]
    exact fH_76_0
  · rw [if_neg (by omega), if_neg q]
theorem law_c2 {K : TC_} {b : Nat} {xs : Nat → Int32} {hh0 : List (Nat × Nat × Nat × Nat)} (hK : TOk K RL code 7 ret room_1 0) (hX : TLX K b 4 xs) (hT : TH K hh0) (J : ∀ kc ks h, kc ≤ 115 → ks ≤ 29866 → TT K ly kc ks 674 [(4, vI 0), (0, vR 2000)] [] h)  : TT K ly 108 29820 216 [(4, vI 0), (3, vR 107), (2, vR 73), (1, vR 0), (0, vR 2000)] [] H0_ := by
  refine TT_aload_n hK rfl 3 rfl dL_law_216 ?_
  refine TT_aload_n hK rfl 4 rfl dL_law_217 ?_
  refine TT_iload hK 0 rfl dL_law_218 ?_
  refine TT_iconst hK dL_law_220 ?_
  refine TT_iadd hK dL_law_221 ?_
  refine TT_cgI (b := 1) rfl ?_
  refine TT_sld hK hX (by decide) (by decide) (by decide) dL_law_222 ?_
  refine TT_cgI (b := (xs 1).toInt) rfl ?_
  refine TT_aload_n hK rfl 4 rfl dL_law_223 ?_
  refine TT_iload hK 0 rfl dL_law_224 ?_
  refine TT_iconst hK dL_law_226 ?_
  refine TT_iadd hK dL_law_227 ?_
  refine TT_cgI (b := 2) rfl ?_
  refine TT_sld hK hX (by decide) (by decide) (by decide) dL_law_228 ?_
  refine TT_cgI (b := (xs 2).toInt) rfl ?_
  refine iv_L_45 hK (c_X11_pixel_0 (xs 1).toInt (xs 2).toInt H0_ (ir_of _) (ir_of _) (by rw [fH_1_1]; decide) (by rw [fH_1_2]; decide)) (by decide) rfl ⟨by decide, by decide⟩ (Nat.zero_le _) rfl rfl (Nat.le_of_ble_eq_true rfl) ⟨by decide, Nat.le_of_ble_eq_true rfl⟩ dL_law_229 ?_
  intro r9 h9 hp9
  rw [hp9.1, hp9.2]
  show TT K ly 108 29820 232 [(4, vI 0), (3, vR 107), (2, vR 73), (1, vR 0), (0, vR 2000)] [vI (if (0 ≤ (xs 1).toInt ∧ (xs 1).toInt < H0_ 1 1) ∧ (0 ≤ (xs 2).toInt ∧ (xs 2).toInt < H0_ 1 2) then H0_ 2 ((xs 2).toInt * 8 + (xs 1).toInt) else -100000)] H0_
  refine TT_cgI (b := (pxv (xs 1).toInt (xs 2).toInt)) (px_c _ _) ?_
  refine TT_aload_n hK rfl 2 rfl dL_law_232 ?_
  refine TT_aload_n hK rfl 4 rfl dL_law_233 ?_
  refine TT_iload hK 0 rfl dL_law_234 ?_
  refine TT_iconst hK dL_law_236 ?_
  refine TT_iadd hK dL_law_237 ?_
  refine TT_cgI (b := 1) rfl ?_
  refine TT_sld hK hX (by decide) (by decide) (by decide) dL_law_238 ?_
  refine TT_cgI (b := (xs 1).toInt) rfl ?_
  refine TT_aload_n hK rfl 4 rfl dL_law_239 ?_
  refine TT_iload hK 0 rfl dL_law_240 ?_
  refine TT_iconst hK dL_law_242 ?_
  refine TT_iadd hK dL_law_243 ?_
  refine TT_cgI (b := 2) rfl ?_
  refine TT_sld hK hX (by decide) (by decide) (by decide) dL_law_244 ?_
  refine TT_cgI (b := (xs 2).toInt) rfl ?_
  refine iv_L_48 hK (c_X12_pixel_73 (xs 1).toInt (xs 2).toInt H0_ (ir_of _) (ir_of _) (by rw [fH_73_3]; decide) (by rw [fH_73_4]; decide)) (by decide) rfl ⟨by decide, by decide⟩ (Nat.zero_le _) rfl rfl (Nat.le_of_ble_eq_true rfl) ⟨by decide, Nat.le_of_ble_eq_true rfl⟩ dL_law_245 ?_
  intro r9 h9 hp9
  rw [hp9.1, hp9.2]
  show TT K ly 108 29820 248 [(4, vI 0), (3, vR 107), (2, vR 73), (1, vR 0), (0, vR 2000)] [vI (if ((0 ≤ (xs 1).toInt ∧ (xs 1).toInt ≤ H0_ 73 3 - 1) ∧ (0 ≤ (xs 2).toInt ∧ (xs 2).toInt ≤ H0_ 73 4 - 1)) then H0_ 76 ((8 * (xs 2).toInt) + (xs 1).toInt) else -100000), vI (pxv (xs 1).toInt (xs 2).toInt)] (setO H0_ 73 (fup (H0_ 73) 2 0))
  refine TT_cgI (b := (pxv (xs 1).toInt (xs 2).toInt)) (px_m _ _) ?_
  refine TT_icmp_eq hK (tgt := 674) (pxv_r _ _) (pxv_r _ _) dL_law_248 rfl (fun _ => ?_) (fun q => absurd rfl q)
  refine TT_sub [0, 4] rfl ?_
  exact J _ _ _ (by decide) (Nat.le_of_ble_eq_true rfl)
theorem law_c4 {K : TC_} {b : Nat} {xs : Nat → Int32} {hh0 : List (Nat × Nat × Nat × Nat)} (hK : TOk K RL code 7 ret room_1 0) (hX : TLX K b 4 xs) (hT : TH K hh0) (J : ∀ kc ks h, kc ≤ 115 → ks ≤ 29866 → TT K ly kc ks 674 [(4, vI 0), (0, vR 2000)] [] h)  : TT K ly 108 29820 321 [(4, vI 0), (3, vR 107), (2, vR 73), (1, vR 0), (0, vR 2000)] [] H0_ := by
  refine TT_aload_n hK rfl 3 rfl dL_law_321 ?_
  refine TT_aload_n hK rfl 4 rfl dL_law_322 ?_
  refine TT_iload hK 0 rfl dL_law_323 ?_
  refine TT_iconst hK dL_law_325 ?_
  refine TT_iadd hK dL_law_326 ?_
  refine TT_cgI (b := 1) rfl ?_
  refine TT_sld hK hX (by decide) (by decide) (by decide) dL_law_327 ?_
  refine TT_cgI (b := (xs 1).toInt) rfl ?_
  refine iv_L_53 hK (c_X11_stream_0 (xs 1).toInt H0_ (ir_of _) fH_5_1) (by decide) rfl ⟨by decide, by decide⟩ (Nat.zero_le _) rfl rfl (Nat.le_of_ble_eq_true rfl) ⟨by decide, Nat.le_of_ble_eq_true rfl⟩ dL_law_328 ?_
  intro r9 h9 hp9
  rw [hp9.1, hp9.2]
  show TT K ly 108 29820 331 [(4, vI 0), (3, vR 107), (2, vR 73), (1, vR 0), (0, vR 2000)] [vI (-100000)] H0_
  refine TT_aload_n hK rfl 2 rfl dL_law_331 ?_
  refine TT_aload_n hK rfl 4 rfl dL_law_332 ?_
  refine TT_iload hK 0 rfl dL_law_333 ?_
  refine TT_iconst hK dL_law_335 ?_
  refine TT_iadd hK dL_law_336 ?_
  refine TT_cgI (b := 1) rfl ?_
  refine TT_sld hK hX (by decide) (by decide) (by decide) dL_law_337 ?_
  refine TT_cgI (b := (xs 1).toInt) rfl ?_
  refine iv_L_56 hK (c_X12_stream_0 (xs 1).toInt H0_ (ir_of _) fH_73_41) (by decide) rfl ⟨by decide, by decide⟩ (Nat.zero_le _) rfl rfl (Nat.le_of_ble_eq_true rfl) ⟨by decide, Nat.le_of_ble_eq_true rfl⟩ dL_law_338 ?_
  intro r9 h9 hp9
  rw [hp9.1, hp9.2]
  show TT K ly 108 29820 341 [(4, vI 0), (3, vR 107), (2, vR 73), (1, vR 0), (0, vR 2000)] [vI (-100000), vI (-100000)] (setO H0_ 73 (fup (H0_ 73) 2 0))
  refine TT_icmp_eq hK (tgt := 674) (by decide) (by decide) dL_law_341 rfl (fun _ => ?_) (fun q => absurd rfl q)
  refine TT_sub [0, 4] rfl ?_
  exact J _ _ _ (by decide) (Nat.le_of_ble_eq_true rfl)
theorem law_c5 {K : TC_} {b : Nat} {xs : Nat → Int32} {hh0 : List (Nat × Nat × Nat × Nat)} (hK : TOk K RL code 7 ret room_1 0) (hX : TLX K b 4 xs) (hT : TH K hh0) (J : ∀ kc ks h, kc ≤ 115 → ks ≤ 29866 → TT K ly kc ks 674 [(4, vI 0), (0, vR 2000)] [] h)  : TT K ly 108 29820 346 [(4, vI 0), (3, vR 107), (2, vR 73), (1, vR 0), (0, vR 2000)] [] H0_ := by
  refine TT_aload_n hK rfl 3 rfl dL_law_346 ?_
  refine TT_aload_n hK rfl 4 rfl dL_law_347 ?_
  refine TT_iload hK 0 rfl dL_law_348 ?_
  refine TT_iconst hK dL_law_350 ?_
  refine TT_iadd hK dL_law_351 ?_
  refine TT_cgI (b := 1) rfl ?_
  refine TT_sld hK hX (by decide) (by decide) (by decide) dL_law_352 ?_
  refine TT_cgI (b := (xs 1).toInt) rfl ?_
  refine TT_aload_n hK rfl 4 rfl dL_law_353 ?_
  refine TT_iload hK 0 rfl dL_law_354 ?_
  refine TT_iconst hK dL_law_356 ?_
  refine TT_iadd hK dL_law_357 ?_
  refine TT_cgI (b := 2) rfl ?_
  refine TT_sld hK hX (by decide) (by decide) (by decide) dL_law_358 ?_
  refine TT_cgI (b := (xs 2).toInt) rfl ?_
  refine iv_L_57 hK (c_X11_poke_0 (xs 1).toInt (xs 2).toInt H0_ (ir_of _) (ir_of _) fH_5_1) (by decide) rfl ⟨by decide, by decide⟩ (Nat.zero_le _) rfl rfl (Nat.le_of_ble_eq_true rfl) ⟨by decide, Nat.le_of_ble_eq_true rfl⟩ dL_law_359 ?_
  intro r9 h9 hp9
  rw [hp9.1, hp9.2]
  show TT K ly 108 29820 362 [(4, vI 0), (3, vR 107), (2, vR 73), (1, vR 0), (0, vR 2000)] [vI 0] H0_
  refine TT_aload_n hK rfl 2 rfl dL_law_362 ?_
  refine TT_aload_n hK rfl 4 rfl dL_law_363 ?_
  refine TT_iload hK 0 rfl dL_law_364 ?_
  refine TT_iconst hK dL_law_366 ?_
  refine TT_iadd hK dL_law_367 ?_
  refine TT_cgI (b := 1) rfl ?_
  refine TT_sld hK hX (by decide) (by decide) (by decide) dL_law_368 ?_
  refine TT_cgI (b := (xs 1).toInt) rfl ?_
  refine TT_aload_n hK rfl 4 rfl dL_law_369 ?_
  refine TT_iload hK 0 rfl dL_law_370 ?_
  refine TT_iconst hK dL_law_372 ?_
  refine TT_iadd hK dL_law_373 ?_
  refine TT_cgI (b := 2) rfl ?_
  refine TT_sld hK hX (by decide) (by decide) (by decide) dL_law_374 ?_
  refine TT_cgI (b := (xs 2).toInt) rfl ?_
  refine iv_L_61 hK (c_X12_poke_0 (xs 1).toInt (xs 2).toInt H0_ (ir_of _) (ir_of _) fH_73_41) (by decide) rfl ⟨by decide, by decide⟩ (Nat.zero_le _) rfl rfl (Nat.le_of_ble_eq_true rfl) ⟨by decide, Nat.le_of_ble_eq_true rfl⟩ dL_law_375 ?_
  intro r9 h9 hp9
  rw [hp9.1, hp9.2]
  show TT K ly 108 29820 378 [(4, vI 0), (3, vR 107), (2, vR 73), (1, vR 0), (0, vR 2000)] [vI 0, vI 0] (setO H0_ 73 (fup (H0_ 73) 2 0))
  refine TT_icmp_eq hK (tgt := 674) (by decide) (by decide) dL_law_378 rfl (fun _ => ?_) (fun q => absurd rfl q)
  refine TT_sub [0, 4] rfl ?_
  exact J _ _ _ (by decide) (Nat.le_of_ble_eq_true rfl)
theorem law_c6 {K : TC_} {b : Nat} {xs : Nat → Int32} {hh0 : List (Nat × Nat × Nat × Nat)} (hK : TOk K RL code 7 ret room_1 0) (hX : TLX K b 4 xs) (hT : TH K hh0) (J : ∀ kc ks h, kc ≤ 115 → ks ≤ 29866 → TT K ly kc ks 674 [(4, vI 0), (0, vR 2000)] [] h)  : TT K ly 108 29820 383 [(4, vI 0), (3, vR 107), (2, vR 73), (1, vR 0), (0, vR 2000)] [] H0_ := by
  refine TT_aload_n hK rfl 3 rfl dL_law_383 ?_
  refine TT_aload_n hK rfl 4 rfl dL_law_384 ?_
  refine TT_iload hK 0 rfl dL_law_385 ?_
  refine TT_iconst hK dL_law_387 ?_
  refine TT_iadd hK dL_law_388 ?_
  refine TT_cgI (b := 1) rfl ?_
  refine TT_sld hK hX (by decide) (by decide) (by decide) dL_law_389 ?_
  refine TT_cgI (b := (xs 1).toInt) rfl ?_
  refine TT_aload_n hK rfl 4 rfl dL_law_390 ?_
  refine TT_iload hK 0 rfl dL_law_391 ?_
  refine TT_iconst hK dL_law_393 ?_
  refine TT_iadd hK dL_law_394 ?_
  refine TT_cgI (b := 2) rfl ?_
  refine TT_sld hK hX (by decide) (by decide) (by decide) dL_law_395 ?_
  refine TT_cgI (b := (xs 2).toInt) rfl ?_
  refine iv_L_62 hK (c_X11_band_0 (xs 1).toInt (xs 2).toInt H0_ (ir_of _) fH_8_10) (by decide) rfl ⟨by decide, by decide⟩ (Nat.zero_le _) rfl rfl (Nat.le_of_ble_eq_true rfl) ⟨by decide, Nat.le_of_ble_eq_true rfl⟩ dL_law_396 ?_
  intro r9 h9 hp9
  rw [hp9.1, hp9.2]
  show TT K ly 108 29820 399 [(4, vI 0), (3, vR 107), (2, vR 73), (1, vR 0), (0, vR 2000)] [vI (-100000)] H0_
  refine TT_aload_n hK rfl 2 rfl dL_law_399 ?_
  refine TT_aload_n hK rfl 4 rfl dL_law_400 ?_
  refine TT_iload hK 0 rfl dL_law_401 ?_
  refine TT_iconst hK dL_law_403 ?_
  refine TT_iadd hK dL_law_404 ?_
  refine TT_cgI (b := 1) rfl ?_
  refine TT_sld hK hX (by decide) (by decide) (by decide) dL_law_405 ?_
  refine TT_cgI (b := (xs 1).toInt) rfl ?_
  refine TT_aload_n hK rfl 4 rfl dL_law_406 ?_
  refine TT_iload hK 0 rfl dL_law_407 ?_
  refine TT_iconst hK dL_law_409 ?_
  refine TT_iadd hK dL_law_410 ?_
  refine TT_cgI (b := 2) rfl ?_
  refine TT_sld hK hX (by decide) (by decide) (by decide) dL_law_411 ?_
  refine TT_cgI (b := (xs 2).toInt) rfl ?_
  refine iv_L_65 hK (c_X12_band_0 (xs 1).toInt (xs 2).toInt H0_ (ir_of _) fH_73_18) (by decide) rfl ⟨by decide, by decide⟩ (Nat.zero_le _) rfl rfl (Nat.le_of_ble_eq_true rfl) ⟨by decide, Nat.le_of_ble_eq_true rfl⟩ dL_law_412 ?_
  intro r9 h9 hp9
  rw [hp9.1, hp9.2]
  show TT K ly 108 29820 415 [(4, vI 0), (3, vR 107), (2, vR 73), (1, vR 0), (0, vR 2000)] [vI (-100000), vI (-100000)] (setO H0_ 73 (fup (H0_ 73) 2 0))
  refine TT_icmp_eq hK (tgt := 674) (by decide) (by decide) dL_law_415 rfl (fun _ => ?_) (fun q => absurd rfl q)
  refine TT_sub [0, 4] rfl ?_
  exact J _ _ _ (by decide) (Nat.le_of_ble_eq_true rfl)
theorem law_c7 {K : TC_} {b : Nat} {xs : Nat → Int32} {hh0 : List (Nat × Nat × Nat × Nat)} (hK : TOk K RL code 7 ret room_1 0) (hX : TLX K b 4 xs) (hT : TH K hh0) (J : ∀ kc ks h, kc ≤ 115 → ks ≤ 29866 → TT K ly kc ks 674 [(4, vI 0), (0, vR 2000)] [] h)  : TT K ly 108 29820 420 [(4, vI 0), (3, vR 107), (2, vR 73), (1, vR 0), (0, vR 2000)] [] H0_ := by
  refine TT_aload_n hK rfl 3 rfl dL_law_420 ?_
  refine TT_aload_n hK rfl 4 rfl dL_law_421 ?_
  refine TT_iload hK 0 rfl dL_law_422 ?_
  refine TT_iconst hK dL_law_424 ?_
  refine TT_iadd hK dL_law_425 ?_
  refine TT_cgI (b := 1) rfl ?_
  refine TT_sld hK hX (by decide) (by decide) (by decide) dL_law_426 ?_
  refine TT_cgI (b := (xs 1).toInt) rfl ?_
  refine TT_aload_n hK rfl 4 rfl dL_law_427 ?_
  refine TT_iload hK 0 rfl dL_law_428 ?_
  refine TT_iconst hK dL_law_430 ?_
  refine TT_iadd hK dL_law_431 ?_
  refine TT_cgI (b := 2) rfl ?_
  refine TT_sld hK hX (by decide) (by decide) (by decide) dL_law_432 ?_
  refine TT_cgI (b := (xs 2).toInt) rfl ?_
  refine TT_aload_n hK rfl 4 rfl dL_law_433 ?_
  refine TT_iload hK 0 rfl dL_law_434 ?_
  refine TT_iconst hK dL_law_436 ?_
  refine TT_iadd hK dL_law_437 ?_
  refine TT_cgI (b := 3) rfl ?_
  refine TT_sld hK hX (by decide) (by decide) (by decide) dL_law_438 ?_
  refine TT_cgI (b := (xs 3).toInt) rfl ?_
  refine iv_L_66 hK (c_X11_number_0 (xs 1).toInt (xs 2).toInt (xs 3).toInt H0_ (ir_of _) fH_8_10) (by decide) rfl ⟨by decide, by decide⟩ (Nat.zero_le _) rfl rfl (Nat.le_of_ble_eq_true rfl) ⟨by decide, Nat.le_of_ble_eq_true rfl⟩ dL_law_439 ?_
  intro r9 h9 hp9
  rw [hp9.1, hp9.2]
  show TT K ly 108 29820 442 [(4, vI 0), (3, vR 107), (2, vR 73), (1, vR 0), (0, vR 2000)] [vI (-100000)] H0_
  refine TT_aload_n hK rfl 2 rfl dL_law_442 ?_
  refine TT_aload_n hK rfl 4 rfl dL_law_443 ?_
  refine TT_iload hK 0 rfl dL_law_444 ?_
  refine TT_iconst hK dL_law_446 ?_
  refine TT_iadd hK dL_law_447 ?_
  refine TT_cgI (b := 1) rfl ?_
  refine TT_sld hK hX (by decide) (by decide) (by decide) dL_law_448 ?_
  refine TT_cgI (b := (xs 1).toInt) rfl ?_
  refine TT_aload_n hK rfl 4 rfl dL_law_449 ?_
  refine TT_iload hK 0 rfl dL_law_450 ?_
  refine TT_iconst hK dL_law_452 ?_
  refine TT_iadd hK dL_law_453 ?_
  refine TT_cgI (b := 2) rfl ?_
  refine TT_sld hK hX (by decide) (by decide) (by decide) dL_law_454 ?_
  refine TT_cgI (b := (xs 2).toInt) rfl ?_
  refine TT_aload_n hK rfl 4 rfl dL_law_455 ?_
  refine TT_iload hK 0 rfl dL_law_456 ?_
  refine TT_iconst hK dL_law_458 ?_
  refine TT_iadd hK dL_law_459 ?_
  refine TT_cgI (b := 3) rfl ?_
  refine TT_sld hK hX (by decide) (by decide) (by decide) dL_law_460 ?_
  refine TT_cgI (b := (xs 3).toInt) rfl ?_
  refine iv_L_70 hK (c_X12_number_0 (xs 1).toInt (xs 2).toInt (xs 3).toInt H0_ (ir_of _) fH_73_18) (by decide) rfl ⟨by decide, by decide⟩ (Nat.zero_le _) rfl rfl (Nat.le_of_ble_eq_true rfl) ⟨by decide, Nat.le_of_ble_eq_true rfl⟩ dL_law_461 ?_
  intro r9 h9 hp9
  rw [hp9.1, hp9.2]
  show TT K ly 108 29820 464 [(4, vI 0), (3, vR 107), (2, vR 73), (1, vR 0), (0, vR 2000)] [vI (-100000), vI (-100000)] (setO H0_ 73 (fup (H0_ 73) 2 0))
  refine TT_icmp_eq hK (tgt := 674) (by decide) (by decide) dL_law_464 rfl (fun _ => ?_) (fun q => absurd rfl q)
  refine TT_sub [0, 4] rfl ?_
  exact J _ _ _ (by decide) (Nat.le_of_ble_eq_true rfl)
theorem law_c8 {K : TC_} {b : Nat} {xs : Nat → Int32} {hh0 : List (Nat × Nat × Nat × Nat)} (hK : TOk K RL code 7 ret room_1 0) (hX : TLX K b 4 xs) (hT : TH K hh0) (J : ∀ kc ks h, kc ≤ 115 → ks ≤ 29866 → TT K ly kc ks 674 [(4, vI 0), (0, vR 2000)] [] h)  : TT K ly 108 29820 469 [(4, vI 0), (3, vR 107), (2, vR 73), (1, vR 0), (0, vR 2000)] [] H0_ := by
  refine TT_aload_n hK rfl 3 rfl dL_law_469 ?_
  refine TT_aload_n hK rfl 4 rfl dL_law_470 ?_
  refine TT_iload hK 0 rfl dL_law_471 ?_
  refine TT_iconst hK dL_law_473 ?_
  refine TT_iadd hK dL_law_474 ?_
  refine TT_cgI (b := 1) rfl ?_
  refine TT_sld hK hX (by decide) (by decide) (by decide) dL_law_475 ?_
  refine TT_cgI (b := (xs 1).toInt) rfl ?_
  refine TT_aload_n hK rfl 4 rfl dL_law_476 ?_
  refine TT_iload hK 0 rfl dL_law_477 ?_
  refine TT_iconst hK dL_law_479 ?_
  refine TT_iadd hK dL_law_480 ?_
  refine TT_cgI (b := 2) rfl ?_
  refine TT_sld hK hX (by decide) (by decide) (by decide) dL_law_481 ?_
  refine TT_cgI (b := (xs 2).toInt) rfl ?_
  refine iv_L_71 hK (c_X11_codeword_0 (xs 1).toInt (xs 2).toInt H0_ (ir_of _) fH_8_10) (by decide) rfl ⟨by decide, by decide⟩ (Nat.zero_le _) rfl rfl (Nat.le_of_ble_eq_true rfl) ⟨by decide, Nat.le_of_ble_eq_true rfl⟩ dL_law_482 ?_
  intro r9 h9 hp9
  rw [hp9.1, hp9.2]
  show TT K ly 108 29820 485 [(4, vI 0), (3, vR 107), (2, vR 73), (1, vR 0), (0, vR 2000)] [vI (-100000)] H0_
  refine TT_aload_n hK rfl 2 rfl dL_law_485 ?_
  refine TT_aload_n hK rfl 4 rfl dL_law_486 ?_
  refine TT_iload hK 0 rfl dL_law_487 ?_
  refine TT_iconst hK dL_law_489 ?_
  refine TT_iadd hK dL_law_490 ?_
  refine TT_cgI (b := 1) rfl ?_
  refine TT_sld hK hX (by decide) (by decide) (by decide) dL_law_491 ?_
  refine TT_cgI (b := (xs 1).toInt) rfl ?_
  refine TT_aload_n hK rfl 4 rfl dL_law_492 ?_
  refine TT_iload hK 0 rfl dL_law_493 ?_
  refine TT_iconst hK dL_law_495 ?_
  refine TT_iadd hK dL_law_496 ?_
  refine TT_cgI (b := 2) rfl ?_
  refine TT_sld hK hX (by decide) (by decide) (by decide) dL_law_497 ?_
  refine TT_cgI (b := (xs 2).toInt) rfl ?_
  refine iv_L_74 hK (c_X12_codeword_0 (xs 1).toInt (xs 2).toInt H0_ (ir_of _) fH_73_18) (by decide) rfl ⟨by decide, by decide⟩ (Nat.zero_le _) rfl rfl (Nat.le_of_ble_eq_true rfl) ⟨by decide, Nat.le_of_ble_eq_true rfl⟩ dL_law_498 ?_
  intro r9 h9 hp9
  rw [hp9.1, hp9.2]
  show TT K ly 108 29820 501 [(4, vI 0), (3, vR 107), (2, vR 73), (1, vR 0), (0, vR 2000)] [vI (-100000), vI (-100000)] (setO H0_ 73 (fup (H0_ 73) 2 0))
  refine TT_icmp_eq hK (tgt := 674) (by decide) (by decide) dL_law_501 rfl (fun _ => ?_) (fun q => absurd rfl q)
  refine TT_sub [0, 4] rfl ?_
  exact J _ _ _ (by decide) (Nat.le_of_ble_eq_true rfl)
theorem law_c9 {K : TC_} {b : Nat} {xs : Nat → Int32} {hh0 : List (Nat × Nat × Nat × Nat)} (hK : TOk K RL code 7 ret room_1 0) (hX : TLX K b 4 xs) (hT : TH K hh0) (J : ∀ kc ks h, kc ≤ 115 → ks ≤ 29866 → TT K ly kc ks 674 [(4, vI 0), (0, vR 2000)] [] h)  : TT K ly 108 29820 506 [(4, vI 0), (3, vR 107), (2, vR 73), (1, vR 0), (0, vR 2000)] [] H0_ := by
  refine TT_aload_n hK rfl 3 rfl dL_law_506 ?_
  refine TT_aload_n hK rfl 4 rfl dL_law_507 ?_
  refine TT_iload hK 0 rfl dL_law_508 ?_
  refine TT_iconst hK dL_law_510 ?_
  refine TT_iadd hK dL_law_511 ?_
  refine TT_cgI (b := 1) rfl ?_
  refine TT_sld hK hX (by decide) (by decide) (by decide) dL_law_512 ?_
  refine TT_cgI (b := (xs 1).toInt) rfl ?_
  refine TT_aload_n hK rfl 4 rfl dL_law_513 ?_
  refine TT_iload hK 0 rfl dL_law_514 ?_
  refine TT_iconst hK dL_law_516 ?_
  refine TT_iadd hK dL_law_517 ?_
  refine TT_cgI (b := 2) rfl ?_
  refine TT_sld hK hX (by decide) (by decide) (by decide) dL_law_518 ?_
  refine TT_cgI (b := (xs 2).toInt) rfl ?_
  refine iv_L_75 hK (c_X11_least_0 (xs 1).toInt (xs 2).toInt H0_ (ir_of _) fH_8_10) (by decide) rfl ⟨by decide, by decide⟩ (Nat.zero_le _) rfl rfl (Nat.le_of_ble_eq_true rfl) ⟨by decide, Nat.le_of_ble_eq_true rfl⟩ dL_law_519 ?_
  intro r9 h9 hp9
  rw [hp9.1, hp9.2]
  show TT K ly 108 29820 522 [(4, vI 0), (3, vR 107), (2, vR 73), (1, vR 0), (0, vR 2000)] [vI (-100000)] H0_
  refine TT_aload_n hK rfl 2 rfl dL_law_522 ?_
  refine TT_aload_n hK rfl 4 rfl dL_law_523 ?_
  refine TT_iload hK 0 rfl dL_law_524 ?_
  refine TT_iconst hK dL_law_526 ?_
  refine TT_iadd hK dL_law_527 ?_
  refine TT_cgI (b := 1) rfl ?_
  refine TT_sld hK hX (by decide) (by decide) (by decide) dL_law_528 ?_
  refine TT_cgI (b := (xs 1).toInt) rfl ?_
  refine TT_aload_n hK rfl 4 rfl dL_law_529 ?_
  refine TT_iload hK 0 rfl dL_law_530 ?_
  refine TT_iconst hK dL_law_532 ?_
  refine TT_iadd hK dL_law_533 ?_
  refine TT_cgI (b := 2) rfl ?_
  refine TT_sld hK hX (by decide) (by decide) (by decide) dL_law_534 ?_
  refine TT_cgI (b := (xs 2).toInt) rfl ?_
  refine iv_L_78 hK (c_X12_least_0 (xs 1).toInt (xs 2).toInt H0_ (ir_of _) fH_73_18) (by decide) rfl ⟨by decide, by decide⟩ (Nat.zero_le _) rfl rfl (Nat.le_of_ble_eq_true rfl) ⟨by decide, Nat.le_of_ble_eq_true rfl⟩ dL_law_535 ?_
  intro r9 h9 hp9
  rw [hp9.1, hp9.2]
  show TT K ly 108 29820 538 [(4, vI 0), (3, vR 107), (2, vR 73), (1, vR 0), (0, vR 2000)] [vI (-100000), vI (-100000)] (setO H0_ 73 (fup (H0_ 73) 2 0))
  refine TT_icmp_eq hK (tgt := 674) (by decide) (by decide) dL_law_538 rfl (fun _ => ?_) (fun q => absurd rfl q)
  refine TT_sub [0, 4] rfl ?_
  exact J _ _ _ (by decide) (Nat.le_of_ble_eq_true rfl)
theorem law_c11 {K : TC_} {b : Nat} {xs : Nat → Int32} {hh0 : List (Nat × Nat × Nat × Nat)} (hK : TOk K RL code 7 ret room_1 0) (hX : TLX K b 4 xs) (hT : TH K hh0) (J : ∀ kc ks h, kc ≤ 115 → ks ≤ 29866 → TT K ly kc ks 674 [(4, vI 0), (0, vR 2000)] [] h)  : TT K ly 108 29820 599 [(4, vI 0), (3, vR 107), (2, vR 73), (1, vR 0), (0, vR 2000)] [] H0_ := by
  refine TT_aload_n hK rfl 3 rfl dL_law_599 ?_
  refine TT_aload_n hK rfl 4 rfl dL_law_600 ?_
  refine TT_iload hK 0 rfl dL_law_601 ?_
  refine TT_iconst hK dL_law_603 ?_
  refine TT_iadd hK dL_law_604 ?_
  refine TT_cgI (b := 1) rfl ?_
  refine TT_sld hK hX (by decide) (by decide) (by decide) dL_law_605 ?_
  refine TT_cgI (b := (xs 1).toInt) rfl ?_
  refine TT_aload_n hK rfl 4 rfl dL_law_606 ?_
  refine TT_iload hK 0 rfl dL_law_607 ?_
  refine TT_iconst hK dL_law_609 ?_
  refine TT_iadd hK dL_law_610 ?_
  refine TT_cgI (b := 2) rfl ?_
  refine TT_sld hK hX (by decide) (by decide) (by decide) dL_law_611 ?_
  refine TT_cgI (b := (xs 2).toInt) rfl ?_
  refine iv_L_83 hK (c_X11_decoded_0 (xs 1).toInt (xs 2).toInt H0_ (ir_of _) (ir_of _) fH_3_1 fH_3_2) (by decide) rfl ⟨by decide, by decide⟩ (Nat.zero_le _) rfl rfl (Nat.le_of_ble_eq_true rfl) ⟨by decide, Nat.le_of_ble_eq_true rfl⟩ dL_law_612 ?_
  intro r9 h9 hp9
  rw [hp9.1, hp9.2]
  show TT K ly 108 29820 615 [(4, vI 0), (3, vR 107), (2, vR 73), (1, vR 0), (0, vR 2000)] [vI (-100000)] H0_
  refine TT_aload_n hK rfl 2 rfl dL_law_615 ?_
  refine TT_aload_n hK rfl 4 rfl dL_law_616 ?_
  refine TT_iload hK 0 rfl dL_law_617 ?_
  refine TT_iconst hK dL_law_619 ?_
  refine TT_iadd hK dL_law_620 ?_
  refine TT_cgI (b := 1) rfl ?_
  refine TT_sld hK hX (by decide) (by decide) (by decide) dL_law_621 ?_
  refine TT_cgI (b := (xs 1).toInt) rfl ?_
  refine TT_aload_n hK rfl 4 rfl dL_law_622 ?_
  refine TT_iload hK 0 rfl dL_law_623 ?_
  refine TT_iconst hK dL_law_625 ?_
  refine TT_iadd hK dL_law_626 ?_
  refine TT_cgI (b := 2) rfl ?_
  refine TT_sld hK hX (by decide) (by decide) (by decide) dL_law_627 ?_
  refine TT_cgI (b := (xs 2).toInt) rfl ?_
  refine iv_L_86 hK (c_X12_decoded_0 (xs 1).toInt (xs 2).toInt H0_ (ir_of _) (ir_of _) fH_73_51) (by decide) rfl ⟨by decide, by decide⟩ (Nat.zero_le _) rfl rfl (Nat.le_of_ble_eq_true rfl) ⟨by decide, Nat.le_of_ble_eq_true rfl⟩ dL_law_628 ?_
  intro r9 h9 hp9
  rw [hp9.1, hp9.2]
  show TT K ly 108 29820 631 [(4, vI 0), (3, vR 107), (2, vR 73), (1, vR 0), (0, vR 2000)] [vI (-100000), vI (-100000)] (setO H0_ 73 (fup (H0_ 73) 2 0))
  refine TT_icmp_eq hK (tgt := 674) (by decide) (by decide) dL_law_631 rfl (fun _ => ?_) (fun q => absurd rfl q)
  refine TT_sub [0, 4] rfl ?_
  exact J _ _ _ (by decide) (Nat.le_of_ble_eq_true rfl)
theorem law_c12 {K : TC_} {b : Nat} {xs : Nat → Int32} {hh0 : List (Nat × Nat × Nat × Nat)} (hK : TOk K RL code 7 ret room_1 0) (hX : TLX K b 4 xs) (hT : TH K hh0) (J : ∀ kc ks h, kc ≤ 115 → ks ≤ 29866 → TT K ly kc ks 674 [(4, vI 0), (0, vR 2000)] [] h)  : TT K ly 108 29820 636 [(4, vI 0), (3, vR 107), (2, vR 73), (1, vR 0), (0, vR 2000)] [] H0_ := by
  refine TT_aload_n hK rfl 3 rfl dL_law_636 ?_
  refine TT_aload_n hK rfl 4 rfl dL_law_637 ?_
  refine TT_iload hK 0 rfl dL_law_638 ?_
  refine TT_iconst hK dL_law_640 ?_
  refine TT_iadd hK dL_law_641 ?_
  refine TT_cgI (b := 1) rfl ?_
  refine TT_sld hK hX (by decide) (by decide) (by decide) dL_law_642 ?_
  refine TT_cgI (b := (xs 1).toInt) rfl ?_
  refine iv_L_87 hK (c_X11_taken_0 (xs 1).toInt H0_ (ir_of _) fH_44_12) (by decide) rfl ⟨by decide, by decide⟩ (Nat.zero_le _) rfl rfl (Nat.le_of_ble_eq_true rfl) ⟨by decide, Nat.le_of_ble_eq_true rfl⟩ dL_law_643 ?_
  intro r9 h9 hp9
  rw [hp9.1, hp9.2]
  show TT K ly 108 29820 646 [(4, vI 0), (3, vR 107), (2, vR 73), (1, vR 0), (0, vR 2000)] [vI (-100000)] H0_
  refine TT_aload_n hK rfl 2 rfl dL_law_646 ?_
  refine TT_aload_n hK rfl 4 rfl dL_law_647 ?_
  refine TT_iload hK 0 rfl dL_law_648 ?_
  refine TT_iconst hK dL_law_650 ?_
  refine TT_iadd hK dL_law_651 ?_
  refine TT_cgI (b := 1) rfl ?_
  refine TT_sld hK hX (by decide) (by decide) (by decide) dL_law_652 ?_
  refine TT_cgI (b := (xs 1).toInt) rfl ?_
  refine iv_L_90 hK (c_X12_taken_0 (xs 1).toInt H0_ (ir_of _) fH_73_55) (by decide) rfl ⟨by decide, by decide⟩ (Nat.zero_le _) rfl rfl (Nat.le_of_ble_eq_true rfl) ⟨by decide, Nat.le_of_ble_eq_true rfl⟩ dL_law_653 ?_
  intro r9 h9 hp9
  rw [hp9.1, hp9.2]
  show TT K ly 108 29820 656 [(4, vI 0), (3, vR 107), (2, vR 73), (1, vR 0), (0, vR 2000)] [vI (-100000), vI (-100000)] (setO H0_ 73 (fup (H0_ 73) 2 0))
  refine TT_icmp_eq hK (tgt := 674) (by decide) (by decide) dL_law_656 rfl (fun _ => ?_) (fun q => absurd rfl q)
  refine TT_sub [0, 4] rfl ?_
  exact J _ _ _ (by decide) (Nat.le_of_ble_eq_true rfl)
theorem law_c13 {K : TC_} {b : Nat} {xs : Nat → Int32} {hh0 : List (Nat × Nat × Nat × Nat)} (hK : TOk K RL code 7 ret room_1 0) (hX : TLX K b 4 xs) (hT : TH K hh0) (J : ∀ kc ks h, kc ≤ 115 → ks ≤ 29866 → TT K ly kc ks 674 [(4, vI 0), (0, vR 2000)] [] h)  : TT K ly 108 29820 661 [(4, vI 0), (3, vR 107), (2, vR 73), (1, vR 0), (0, vR 2000)] [] H0_ := by
  refine TT_aload_n hK rfl 3 rfl dL_law_661 ?_
  refine iv_L_91 hK (c_X11_difference_0 H0_ fH_1_1 fH_3_1) (by decide) rfl ⟨by decide, by decide⟩ (Nat.zero_le _) rfl rfl (Nat.le_of_ble_eq_true rfl) ⟨by decide, Nat.le_of_ble_eq_true rfl⟩ dL_law_662 ?_
  intro r9 h9 hp9
  rw [hp9.1, hp9.2]
  show TT K ly 108 29820 665 [(4, vI 0), (3, vR 107), (2, vR 73), (1, vR 0), (0, vR 2000)] [vI (-100000)] H0_
  refine TT_aload_n hK rfl 2 rfl dL_law_665 ?_
  refine iv_L_94 hK (c_X12_difference_0 H0_ fH_73_3 fH_73_51) (by decide) rfl ⟨by decide, by decide⟩ (Nat.zero_le _) rfl rfl (Nat.le_of_ble_eq_true rfl) ⟨by decide, Nat.le_of_ble_eq_true rfl⟩ dL_law_666 ?_
  intro r9 h9 hp9
  rw [hp9.1, hp9.2]
  show TT K ly 108 29820 669 [(4, vI 0), (3, vR 107), (2, vR 73), (1, vR 0), (0, vR 2000)] [vI (-100000), vI (-100000)] (setO H0_ 73 (fup (H0_ 73) 2 0))
  refine TT_icmp_eq hK (tgt := 674) (by decide) (by decide) dL_law_669 rfl (fun _ => ?_) (fun q => absurd rfl q)
  refine TT_sub [0, 4] rfl ?_
  exact J _ _ _ (by decide) (Nat.le_of_ble_eq_true rfl)
theorem law_c10 {K : TC_} {b : Nat} {xs : Nat → Int32} {hh0 : List (Nat × Nat × Nat × Nat)} (hK : TOk K RL code 7 ret room_1 0) (hX : TLX K b 4 xs) (hT : TH K hh0) (J : ∀ kc ks h, kc ≤ 115 → ks ≤ 29866 → TT K ly kc ks 674 [(4, vI 0), (0, vR 2000)] [] h)  : TT K ly 108 29820 543 [(4, vI 0), (3, vR 107), (2, vR 73), (1, vR 0), (0, vR 2000)] [] H0_ := by
  refine TT_aload_n hK rfl 3 rfl dL_law_543 ?_
  refine TT_aload_n hK rfl 4 rfl dL_law_544 ?_
  refine TT_iload hK 0 rfl dL_law_545 ?_
  refine TT_iconst hK dL_law_547 ?_
  refine TT_iadd hK dL_law_548 ?_
  refine TT_cgI (b := 1) rfl ?_
  refine TT_sld hK hX (by decide) (by decide) (by decide) dL_law_549 ?_
  refine TT_cgI (b := (xs 1).toInt) rfl ?_
  refine TT_aload_n hK rfl 1 rfl dL_law_550 ?_
  refine TT_callH hK hT (y := yL_decode) (hh := [(0, 9, 12, 13)]) (As := [vR 0, vI (xs 1).toInt, vR 107]) (st := []) (n := 3) (w1 := ly) (mc := 1) (ms := 6) (hp_decode_t (xs 1).toInt H0_ (ir_of _) fH_5_1) ⟨rfl, rfl⟩ ⟨by decide, by decide⟩ (gd_ (tb_4 184 rfl) rfl) ⟨by decide, by decide, by decide +kernel⟩ (List.forall_mem_cons.mpr ⟨(gd_ (tb_4 182 rfl) rfl), (List.forall_mem_cons.mpr ⟨(gd_ (tb_4 183 rfl) rfl), (List.forall_mem_cons.mpr ⟨(gd_ (tb_1 0 rfl) rfl), (fun _ z => absurd z List.not_mem_nil)⟩)⟩)⟩) rfl (Nat.zero_le _) rfl rfl (Nat.le_of_ble_eq_true rfl) ⟨by decide, Nat.le_of_ble_eq_true rfl⟩ dL_law_551 ?_
  intro r9 h9 hp9
  rw [hp9.1, hp9.2]
  show TT K ly 109 29826 554 [(4, vI 0), (3, vR 107), (2, vR 73), (1, vR 0), (0, vR 2000)] [vI 1] H0_
  refine TT_istore hK (by decide) rfl dL_law_554 ?_
  show TT K ly 109 29826 556 [(5, vI 1), (4, vI 0), (3, vR 107), (2, vR 73), (1, vR 0), (0, vR 2000)] [] H0_
  refine TT_aload_n hK rfl 3 rfl dL_law_556 ?_
  refine TT_aload_n hK rfl 5 rfl dL_law_557 ?_
  refine TT_iload hK 1 rfl dL_law_558 ?_
  refine TT_iconst hK dL_law_560 ?_
  refine TT_iadd hK dL_law_561 ?_
  refine TT_cgI (b := 1) rfl ?_
  refine TT_sld hK hX (by decide) (by decide) (by decide) dL_law_562 ?_
  refine TT_cgI (b := (xs 1).toInt) rfl ?_
  refine iv_L_82 hK (c_X12_decode_0 (xs 1).toInt H0_ (ir_of _) fH_73_41) (by decide) rfl ⟨by decide, by decide⟩ (Nat.zero_le _) rfl rfl (Nat.le_of_ble_eq_true rfl) ⟨by decide, Nat.le_of_ble_eq_true rfl⟩ dL_law_563 ?_
  intro r9 h9 hp9
  rw [hp9.1, hp9.2]
  show TT K ly 109 29826 566 [(5, vI 1), (4, vI 0), (3, vR 107), (2, vR 73), (1, vR 0), (0, vR 2000)] [vI 0] (setO H0_ 73 (fup (H0_ 73) 2 1))
  refine TT_istore hK (by decide) rfl dL_law_566 ?_
  show TT K ly 109 29826 568 [(6, vI 0), (5, vI 1), (4, vI 0), (3, vR 107), (2, vR 73), (1, vR 0), (0, vR 2000)] [] (setO H0_ 73 (fup (H0_ 73) 2 1))
  refine TT_aload_n hK rfl 4 rfl dL_law_568 ?_
  refine iv_L_37 hK (c_X12_thrown_73 (setO H0_ 73 (fup (H0_ 73) 2 1))) (by decide) rfl ⟨by decide, by decide⟩ (Nat.zero_le _) rfl rfl (Nat.le_of_ble_eq_true rfl) ⟨by decide, Nat.le_of_ble_eq_true rfl⟩ dL_law_569 ?_
  intro r9 h9 hp9
  rw [hp9.1, hp9.2]
  show TT K ly 109 29826 572 [(6, vI 0), (5, vI 1), (4, vI 0), (3, vR 107), (2, vR 73), (1, vR 0), (0, vR 2000)] [vI ((setO H0_ 73 (fup (H0_ 73) 2 1)) 73 2)] (setO H0_ 73 (fup (H0_ 73) 2 1))
  refine TT_cgI (b := 1) (by first | rfl | simp [setO, fup]) ?_
  refine TT_iload hK 1 rfl dL_law_572 ?_
  refine TT_icmp_eq hK (tgt := 579) (by decide) (by decide) dL_law_574 rfl (fun _ => ?_) (fun q => absurd rfl q)
  refine TT_iload hK 1 rfl dL_law_579 ?_
  refine TT_if_ne hK (tgt := 596) (by decide) dL_law_581 rfl (fun _ => ?_) (fun q => absurd q (by decide))
  refine TT_goto hK (tgt := 674) dL_law_596 rfl ?_
  refine TT_sub [2, 6] rfl ?_
  exact J _ _ _ (by decide) (Nat.le_of_ble_eq_true rfl)
theorem law_c3x {K : TC_} {b : Nat} {xs : Nat → Int32} {hh0 : List (Nat × Nat × Nat × Nat)} (hK : TOk K RL code 7 ret room_1 0) (hX : TLX K b 4 xs) (hT : TH K hh0) (J : ∀ kc ks h, kc ≤ 115 → ks ≤ 29866 → TT K ly kc ks 674 [(4, vI 0), (0, vR 2000)] [] h) (hV : ¬((0 ≤ (xs 1).toInt ∧ (xs 1).toInt ≤ 3) ∧ (1 ≤ (xs 2).toInt ∧ (xs 2).toInt ≤ 3))) : TT K ly 108 29820 253 [(4, vI 0), (3, vR 107), (2, vR 73), (1, vR 0), (0, vR 2000)] [] H0_ := by
  refine TT_aload_n hK rfl 3 rfl dL_law_253 ?_
  refine TT_aload_n hK rfl 4 rfl dL_law_254 ?_
  refine TT_iload hK 0 rfl dL_law_255 ?_
  refine TT_iconst hK dL_law_257 ?_
  refine TT_iadd hK dL_law_258 ?_
  refine TT_cgI (b := 1) rfl ?_
  refine TT_sld hK hX (by decide) (by decide) (by decide) dL_law_259 ?_
  refine TT_cgI (b := (xs 1).toInt) rfl ?_
  refine TT_aload_n hK rfl 4 rfl dL_law_260 ?_
  refine TT_iload hK 0 rfl dL_law_261 ?_
  refine TT_iconst hK dL_law_263 ?_
  refine TT_iadd hK dL_law_264 ?_
  refine TT_cgI (b := 2) rfl ?_
  refine TT_sld hK hX (by decide) (by decide) (by decide) dL_law_265 ?_
  refine TT_cgI (b := (xs 2).toInt) rfl ?_
  refine TT_aload_n hK rfl 1 rfl dL_law_266 ?_
  refine TT_callH hK hT (y := yL_encode) (hh := [(0, 10, 13, 13)]) (As := [vR 0, vI (xs 1).toInt, vI (xs 2).toInt, vR 107]) (st := []) (n := 4) (w1 := ly) (mc := 1) (ms := 6) (hp_encode_t (xs 1).toInt (xs 2).toInt H0_ (ir_of _) (ir_of _) hV) ⟨rfl, rfl⟩ ⟨by decide, by decide⟩ (gd_ (tb_3 91 rfl) rfl) ⟨by decide, by decide, by decide +kernel⟩ (List.forall_mem_cons.mpr ⟨(gd_ (tb_3 89 rfl) rfl), (List.forall_mem_cons.mpr ⟨(gd_ (tb_3 90 rfl) rfl), (List.forall_mem_cons.mpr ⟨(gd_ (tb_1 0 rfl) rfl), (fun _ z => absurd z List.not_mem_nil)⟩)⟩)⟩) rfl (Nat.zero_le _) rfl rfl (Nat.le_of_ble_eq_true rfl) ⟨by decide, Nat.le_of_ble_eq_true rfl⟩ dL_law_267 ?_
  intro r9 h9 hp9
  rw [hp9.1, hp9.2]
  show TT K ly 109 29826 270 [(4, vI 0), (3, vR 107), (2, vR 73), (1, vR 0), (0, vR 2000)] [vI 1] H0_
  refine TT_istore hK (by decide) rfl dL_law_270 ?_
  show TT K ly 109 29826 272 [(5, vI 1), (4, vI 0), (3, vR 107), (2, vR 73), (1, vR 0), (0, vR 2000)] [] H0_
  refine TT_aload_n hK rfl 3 rfl dL_law_272 ?_
  refine TT_aload_n hK rfl 5 rfl dL_law_273 ?_
  refine TT_iload hK 1 rfl dL_law_274 ?_
  refine TT_iconst hK dL_law_276 ?_
  refine TT_iadd hK dL_law_277 ?_
  refine TT_cgI (b := 1) rfl ?_
  refine TT_sld hK hX (by decide) (by decide) (by decide) dL_law_278 ?_
  refine TT_cgI (b := (xs 1).toInt) rfl ?_
  refine TT_aload_n hK rfl 5 rfl dL_law_279 ?_
  refine TT_iload hK 1 rfl dL_law_280 ?_
  refine TT_iconst hK dL_law_282 ?_
  refine TT_iadd hK dL_law_283 ?_
  refine TT_cgI (b := 2) rfl ?_
  refine TT_sld hK hX (by decide) (by decide) (by decide) dL_law_284 ?_
  refine TT_cgI (b := (xs 2).toInt) rfl ?_
  refine iv_L_52 hK (c_X12_encode_x (xs 1).toInt (xs 2).toInt H0_ (ir_of _) (ir_of _) hV) (by decide) rfl ⟨by decide, by decide⟩ (Nat.zero_le _) rfl rfl (Nat.le_of_ble_eq_true rfl) ⟨by decide, Nat.le_of_ble_eq_true rfl⟩ dL_law_285 ?_
  intro r9 h9 hp9
  rw [hp9.1, hp9.2]
  show TT K ly 109 29826 288 [(5, vI 1), (4, vI 0), (3, vR 107), (2, vR 73), (1, vR 0), (0, vR 2000)] [vI 0] (setO H0_ 73 (fup (H0_ 73) 2 1))
  refine TT_istore hK (by decide) rfl dL_law_288 ?_
  show TT K ly 109 29826 290 [(6, vI 0), (5, vI 1), (4, vI 0), (3, vR 107), (2, vR 73), (1, vR 0), (0, vR 2000)] [] (setO H0_ 73 (fup (H0_ 73) 2 1))
  refine TT_aload_n hK rfl 4 rfl dL_law_290 ?_
  refine iv_L_37 hK (c_X12_thrown_73 (setO H0_ 73 (fup (H0_ 73) 2 1))) (by decide) rfl ⟨by decide, by decide⟩ (Nat.zero_le _) rfl rfl (Nat.le_of_ble_eq_true rfl) ⟨by decide, Nat.le_of_ble_eq_true rfl⟩ dL_law_291 ?_
  intro r9 h9 hp9
  rw [hp9.1, hp9.2]
  show TT K ly 109 29826 294 [(6, vI 0), (5, vI 1), (4, vI 0), (3, vR 107), (2, vR 73), (1, vR 0), (0, vR 2000)] [vI ((setO H0_ 73 (fup (H0_ 73) 2 1)) 73 2)] (setO H0_ 73 (fup (H0_ 73) 2 1))
  refine TT_cgI (b := 1) (by first | rfl | simp [setO, fup]) ?_
  refine TT_iload hK 1 rfl dL_law_294 ?_
  refine TT_icmp_eq hK (tgt := 301) (by decide) (by decide) dL_law_296 rfl (fun _ => ?_) (fun q => absurd rfl q)
  refine TT_iload hK 1 rfl dL_law_301 ?_
  refine TT_if_ne hK (tgt := 318) (by decide) dL_law_303 rfl (fun _ => ?_) (fun q => absurd q (by decide))
  refine TT_goto hK (tgt := 674) dL_law_318 rfl ?_
  refine TT_sub [2, 6] rfl ?_
  exact J _ _ _ (by decide) (Nat.le_of_ble_eq_true rfl)
theorem law_c3_01 {K : TC_} {b : Nat} {xs : Nat → Int32} {hh0 : List (Nat × Nat × Nat × Nat)} (hK : TOk K RL code 7 ret room_1 0) (hX : TLX K b 4 xs) (hT : TH K hh0) (J : ∀ kc ks h, kc ≤ 115 → ks ≤ 29866 → TT K ly kc ks 674 [(4, vI 0), (0, vR 2000)] [] h) (h1 : (xs 1).toInt = 0) (h2 : (xs 2).toInt = 1) : TT K ly 108 29820 253 [(4, vI 0), (3, vR 107), (2, vR 73), (1, vR 0), (0, vR 2000)] [] H0_ := by
  refine TT_aload_n hK rfl 3 rfl dL_law_253 ?_
  refine TT_aload_n hK rfl 4 rfl dL_law_254 ?_
  refine TT_iload hK 0 rfl dL_law_255 ?_
  refine TT_iconst hK dL_law_257 ?_
  refine TT_iadd hK dL_law_258 ?_
  refine TT_cgI (b := 1) rfl ?_
  refine TT_sld hK hX (by decide) (by decide) (by decide) dL_law_259 ?_
  refine TT_cgI (b := (xs 1).toInt) rfl ?_
  rw [h1]
  refine TT_aload_n hK rfl 4 rfl dL_law_260 ?_
  refine TT_iload hK 0 rfl dL_law_261 ?_
  refine TT_iconst hK dL_law_263 ?_
  refine TT_iadd hK dL_law_264 ?_
  refine TT_cgI (b := 2) rfl ?_
  refine TT_sld hK hX (by decide) (by decide) (by decide) dL_law_265 ?_
  refine TT_cgI (b := (xs 2).toInt) rfl ?_
  rw [h2]
  refine TT_aload_n hK rfl 1 rfl dL_law_266 ?_
  refine TT_callH hK hT (y := yL_encode) (hh := [(0, 10, 13, 13)]) (As := [vR 0, vI 0, vI 1, vR 107]) (st := []) (n := 4) (w1 := ly) (mc := 1) (ms := 6) hp_encode_01 ⟨rfl, rfl⟩ ⟨by decide, by decide⟩ (gd_ (tb_3 91 rfl) rfl) ⟨by decide, by decide, by decide +kernel⟩ (List.forall_mem_cons.mpr ⟨(gd_ (tb_3 89 rfl) rfl), (List.forall_mem_cons.mpr ⟨(gd_ (tb_3 90 rfl) rfl), (List.forall_mem_cons.mpr ⟨(gd_ (tb_1 0 rfl) rfl), (fun _ z => absurd z List.not_mem_nil)⟩)⟩)⟩) rfl (Nat.zero_le _) rfl rfl (Nat.le_of_ble_eq_true rfl) ⟨by decide, Nat.le_of_ble_eq_true rfl⟩ dL_law_267 ?_
  intro r9 h9 hp9
  rw [hp9.1, hp9.2]
  show TT K ly 109 29826 270 [(4, vI 0), (3, vR 107), (2, vR 73), (1, vR 0), (0, vR 2000)] [vI 0] (up (tH Ne_37) 107 0 8)
  refine TT_istore hK (by decide) rfl dL_law_270 ?_
  show TT K ly 109 29826 272 [(5, vI 0), (4, vI 0), (3, vR 107), (2, vR 73), (1, vR 0), (0, vR 2000)] [] (up (tH Ne_37) 107 0 8)
  refine TT_aload_n hK rfl 3 rfl dL_law_272 ?_
  refine TT_aload_n hK rfl 5 rfl dL_law_273 ?_
  refine TT_iload hK 1 rfl dL_law_274 ?_
  refine TT_iconst hK dL_law_276 ?_
  refine TT_iadd hK dL_law_277 ?_
  refine TT_cgI (b := 1) rfl ?_
  refine TT_sld hK hX (by decide) (by decide) (by decide) dL_law_278 ?_
  refine TT_cgI (b := (xs 1).toInt) rfl ?_
  rw [h1]
  refine TT_aload_n hK rfl 5 rfl dL_law_279 ?_
  refine TT_iload hK 1 rfl dL_law_280 ?_
  refine TT_iconst hK dL_law_282 ?_
  refine TT_iadd hK dL_law_283 ?_
  refine TT_cgI (b := 2) rfl ?_
  refine TT_sld hK hX (by decide) (by decide) (by decide) dL_law_284 ?_
  refine TT_cgI (b := (xs 2).toInt) rfl ?_
  rw [h2]
  refine TT_hp (h' := (tG 73 107 (up (tH Ne_37) 107 0 8) Ne_24)) (tG_law (by decide +kernel)) ?_
  refine iv_L_52 hK (mcM_14 (rbe01 (h0 := (up (tH Ne_37) 107 0 8)))) (by decide) rfl ⟨by decide, by decide⟩ (Nat.zero_le _) rfl rfl (Nat.le_of_ble_eq_true rfl) ⟨by decide, Nat.le_of_ble_eq_true rfl⟩ dL_law_285 ?_
  intro r9 h9 hp9
  rw [hp9.1, hp9.2]
  show TT K ly 109 29826 288 [(5, vI 0), (4, vI 0), (3, vR 107), (2, vR 73), (1, vR 0), (0, vR 2000)] [vI 8] (tG 73 107 (up (tH Ne_37) 107 0 8) Ne_25)
  refine TT_istore hK (by decide) rfl dL_law_288 ?_
  show TT K ly 109 29826 290 [(6, vI 8), (5, vI 0), (4, vI 0), (3, vR 107), (2, vR 73), (1, vR 0), (0, vR 2000)] [] (tG 73 107 (up (tH Ne_37) 107 0 8) Ne_25)
  refine TT_aload_n hK rfl 4 rfl dL_law_290 ?_
  refine iv_L_37 hK (c_X12_thrown_73 (tG 73 107 (up (tH Ne_37) 107 0 8) Ne_25)) (by decide) rfl ⟨by decide, by decide⟩ (Nat.zero_le _) rfl rfl (Nat.le_of_ble_eq_true rfl) ⟨by decide, Nat.le_of_ble_eq_true rfl⟩ dL_law_291 ?_
  intro r9 h9 hp9
  rw [hp9.1, hp9.2]
  show TT K ly 109 29826 294 [(6, vI 8), (5, vI 0), (4, vI 0), (3, vR 107), (2, vR 73), (1, vR 0), (0, vR 2000)] [vI ((tG 73 107 (up (tH Ne_37) 107 0 8) Ne_25) 73 2)] (tG 73 107 (up (tH Ne_37) 107 0 8) Ne_25)
  refine TT_cgI (b := 0) (by show (if 73 ≤ 73 ∧ 73 < 107 then tH Ne_25 73 2 else _) = 0; rw [if_pos (by decide)]; decide +kernel) ?_
  refine TT_iload hK 1 rfl dL_law_294 ?_
  refine TT_icmp_eq hK (tgt := 301) (by decide) (by decide) dL_law_296 rfl (fun _ => ?_) (fun q => absurd rfl q)
  refine TT_iload hK 1 rfl dL_law_301 ?_
  refine TT_if_ne hK (tgt := 318) (by decide) dL_law_303 rfl (fun q => absurd q (by decide)) (fun _ => ?_)
  refine TT_aload_n hK rfl 3 rfl dL_law_306 ?_
  refine TT_iconst hK dL_law_307 ?_
  refine TT_lald hK (o := 107) (n := 1) (v := 8) (by decide) rfl (by decide) (by decide) (by show (if 73 ≤ 107 ∧ 107 < 107 then tH Ne_25 107 0 else (up (tH Ne_37) 107 0 8) 107 0) = 8; rw [if_neg (by decide)]; exact up_eq _ _ _ _) dL_law_308 ?_
  refine TT_iload hK 0 rfl dL_law_309 ?_
  refine TT_i2l hK (by decide) dL_law_311 ?_
  refine TT_lcmp hK (by decide) (by decide) dL_law_312 ?_
  refine TT_cgI (b := 0) (by decide) ?_
  refine TT_if_eq hK (tgt := 318) (by decide) dL_law_313 rfl (fun _ => ?_) (fun q => absurd rfl q)
  refine TT_goto hK (tgt := 674) dL_law_318 rfl ?_
  refine TT_sub [2, 6] rfl ?_
  exact J _ _ _ (by decide) (Nat.le_of_ble_eq_true rfl)
theorem law_c3_02 {K : TC_} {b : Nat} {xs : Nat → Int32} {hh0 : List (Nat × Nat × Nat × Nat)} (hK : TOk K RL code 7 ret room_1 0) (hX : TLX K b 4 xs) (hT : TH K hh0) (J : ∀ kc ks h, kc ≤ 115 → ks ≤ 29866 → TT K ly kc ks 674 [(4, vI 0), (0, vR 2000)] [] h) (h1 : (xs 1).toInt = 0) (h2 : (xs 2).toInt = 2) : TT K ly 108 29820 253 [(4, vI 0), (3, vR 107), (2, vR 73), (1, vR 0), (0, vR 2000)] [] H0_ := by
  refine TT_aload_n hK rfl 3 rfl dL_law_253 ?_
  refine TT_aload_n hK rfl 4 rfl dL_law_254 ?_
  refine TT_iload hK 0 rfl dL_law_255 ?_
  refine TT_iconst hK dL_law_257 ?_
  refine TT_iadd hK dL_law_258 ?_
  refine TT_cgI (b := 1) rfl ?_
  refine TT_sld hK hX (by decide) (by decide) (by decide) dL_law_259 ?_
  refine TT_cgI (b := (xs 1).toInt) rfl ?_
  rw [h1]
  refine TT_aload_n hK rfl 4 rfl dL_law_260 ?_
  refine TT_iload hK 0 rfl dL_law_261 ?_
  refine TT_iconst hK dL_law_263 ?_
  refine TT_iadd hK dL_law_264 ?_
  refine TT_cgI (b := 2) rfl ?_
  refine TT_sld hK hX (by decide) (by decide) (by decide) dL_law_265 ?_
  refine TT_cgI (b := (xs 2).toInt) rfl ?_
  rw [h2]
  refine TT_aload_n hK rfl 1 rfl dL_law_266 ?_
  refine TT_callH hK hT (y := yL_encode) (hh := [(0, 10, 13, 13)]) (As := [vR 0, vI 0, vI 2, vR 107]) (st := []) (n := 4) (w1 := ly) (mc := 1) (ms := 6) hp_encode_02 ⟨rfl, rfl⟩ ⟨by decide, by decide⟩ (gd_ (tb_3 91 rfl) rfl) ⟨by decide, by decide, by decide +kernel⟩ (List.forall_mem_cons.mpr ⟨(gd_ (tb_3 89 rfl) rfl), (List.forall_mem_cons.mpr ⟨(gd_ (tb_3 90 rfl) rfl), (List.forall_mem_cons.mpr ⟨(gd_ (tb_1 0 rfl) rfl), (fun _ z => absurd z List.not_mem_nil)⟩)⟩)⟩) rfl (Nat.zero_le _) rfl rfl (Nat.le_of_ble_eq_true rfl) ⟨by decide, Nat.le_of_ble_eq_true rfl⟩ dL_law_267 ?_
  intro r9 h9 hp9
  rw [hp9.1, hp9.2]
  show TT K ly 109 29826 270 [(4, vI 0), (3, vR 107), (2, vR 73), (1, vR 0), (0, vR 2000)] [vI 0] (up (tH Ne_38) 107 0 11)
  refine TT_istore hK (by decide) rfl dL_law_270 ?_
  show TT K ly 109 29826 272 [(5, vI 0), (4, vI 0), (3, vR 107), (2, vR 73), (1, vR 0), (0, vR 2000)] [] (up (tH Ne_38) 107 0 11)
  refine TT_aload_n hK rfl 3 rfl dL_law_272 ?_
  refine TT_aload_n hK rfl 5 rfl dL_law_273 ?_
  refine TT_iload hK 1 rfl dL_law_274 ?_
  refine TT_iconst hK dL_law_276 ?_
  refine TT_iadd hK dL_law_277 ?_
  refine TT_cgI (b := 1) rfl ?_
  refine TT_sld hK hX (by decide) (by decide) (by decide) dL_law_278 ?_
  refine TT_cgI (b := (xs 1).toInt) rfl ?_
  rw [h1]
  refine TT_aload_n hK rfl 5 rfl dL_law_279 ?_
  refine TT_iload hK 1 rfl dL_law_280 ?_
  refine TT_iconst hK dL_law_282 ?_
  refine TT_iadd hK dL_law_283 ?_
  refine TT_cgI (b := 2) rfl ?_
  refine TT_sld hK hX (by decide) (by decide) (by decide) dL_law_284 ?_
  refine TT_cgI (b := (xs 2).toInt) rfl ?_
  rw [h2]
  refine TT_hp (h' := (tG 73 107 (up (tH Ne_38) 107 0 11) Ne_24)) (tG_law (by decide +kernel)) ?_
  refine iv_L_52 hK (mcM_14 (rbe02 (h0 := (up (tH Ne_38) 107 0 11)))) (by decide) rfl ⟨by decide, by decide⟩ (Nat.zero_le _) rfl rfl (Nat.le_of_ble_eq_true rfl) ⟨by decide, Nat.le_of_ble_eq_true rfl⟩ dL_law_285 ?_
  intro r9 h9 hp9
  rw [hp9.1, hp9.2]
  show TT K ly 109 29826 288 [(5, vI 0), (4, vI 0), (3, vR 107), (2, vR 73), (1, vR 0), (0, vR 2000)] [vI 11] (tG 73 107 (up (tH Ne_38) 107 0 11) Ne_26)
  refine TT_istore hK (by decide) rfl dL_law_288 ?_
  show TT K ly 109 29826 290 [(6, vI 11), (5, vI 0), (4, vI 0), (3, vR 107), (2, vR 73), (1, vR 0), (0, vR 2000)] [] (tG 73 107 (up (tH Ne_38) 107 0 11) Ne_26)
  refine TT_aload_n hK rfl 4 rfl dL_law_290 ?_
  refine iv_L_37 hK (c_X12_thrown_73 (tG 73 107 (up (tH Ne_38) 107 0 11) Ne_26)) (by decide) rfl ⟨by decide, by decide⟩ (Nat.zero_le _) rfl rfl (Nat.le_of_ble_eq_true rfl) ⟨by decide, Nat.le_of_ble_eq_true rfl⟩ dL_law_291 ?_
  intro r9 h9 hp9
  rw [hp9.1, hp9.2]
  show TT K ly 109 29826 294 [(6, vI 11), (5, vI 0), (4, vI 0), (3, vR 107), (2, vR 73), (1, vR 0), (0, vR 2000)] [vI ((tG 73 107 (up (tH Ne_38) 107 0 11) Ne_26) 73 2)] (tG 73 107 (up (tH Ne_38) 107 0 11) Ne_26)
  refine TT_cgI (b := 0) (by show (if 73 ≤ 73 ∧ 73 < 107 then tH Ne_26 73 2 else _) = 0; rw [if_pos (by decide)]; decide +kernel) ?_
  refine TT_iload hK 1 rfl dL_law_294 ?_
  refine TT_icmp_eq hK (tgt := 301) (by decide) (by decide) dL_law_296 rfl (fun _ => ?_) (fun q => absurd rfl q)
  refine TT_iload hK 1 rfl dL_law_301 ?_
  refine TT_if_ne hK (tgt := 318) (by decide) dL_law_303 rfl (fun q => absurd q (by decide)) (fun _ => ?_)
  refine TT_aload_n hK rfl 3 rfl dL_law_306 ?_
  refine TT_iconst hK dL_law_307 ?_
  refine TT_lald hK (o := 107) (n := 1) (v := 11) (by decide) rfl (by decide) (by decide) (by show (if 73 ≤ 107 ∧ 107 < 107 then tH Ne_26 107 0 else (up (tH Ne_38) 107 0 11) 107 0) = 11; rw [if_neg (by decide)]; exact up_eq _ _ _ _) dL_law_308 ?_
  refine TT_iload hK 0 rfl dL_law_309 ?_
  refine TT_i2l hK (by decide) dL_law_311 ?_
  refine TT_lcmp hK (by decide) (by decide) dL_law_312 ?_
  refine TT_cgI (b := 0) (by decide) ?_
  refine TT_if_eq hK (tgt := 318) (by decide) dL_law_313 rfl (fun _ => ?_) (fun q => absurd rfl q)
  refine TT_goto hK (tgt := 674) dL_law_318 rfl ?_
  refine TT_sub [2, 6] rfl ?_
  exact J _ _ _ (by decide) (Nat.le_of_ble_eq_true rfl)
theorem law_c3_03 {K : TC_} {b : Nat} {xs : Nat → Int32} {hh0 : List (Nat × Nat × Nat × Nat)} (hK : TOk K RL code 7 ret room_1 0) (hX : TLX K b 4 xs) (hT : TH K hh0) (J : ∀ kc ks h, kc ≤ 115 → ks ≤ 29866 → TT K ly kc ks 674 [(4, vI 0), (0, vR 2000)] [] h) (h1 : (xs 1).toInt = 0) (h2 : (xs 2).toInt = 3) : TT K ly 108 29820 253 [(4, vI 0), (3, vR 107), (2, vR 73), (1, vR 0), (0, vR 2000)] [] H0_ := by
  refine TT_aload_n hK rfl 3 rfl dL_law_253 ?_
  refine TT_aload_n hK rfl 4 rfl dL_law_254 ?_
  refine TT_iload hK 0 rfl dL_law_255 ?_
  refine TT_iconst hK dL_law_257 ?_
  refine TT_iadd hK dL_law_258 ?_
  refine TT_cgI (b := 1) rfl ?_
  refine TT_sld hK hX (by decide) (by decide) (by decide) dL_law_259 ?_
  refine TT_cgI (b := (xs 1).toInt) rfl ?_
  rw [h1]
  refine TT_aload_n hK rfl 4 rfl dL_law_260 ?_
  refine TT_iload hK 0 rfl dL_law_261 ?_
  refine TT_iconst hK dL_law_263 ?_
  refine TT_iadd hK dL_law_264 ?_
  refine TT_cgI (b := 2) rfl ?_
  refine TT_sld hK hX (by decide) (by decide) (by decide) dL_law_265 ?_
  refine TT_cgI (b := (xs 2).toInt) rfl ?_
  rw [h2]
  refine TT_aload_n hK rfl 1 rfl dL_law_266 ?_
  refine TT_callH hK hT (y := yL_encode) (hh := [(0, 10, 13, 13)]) (As := [vR 0, vI 0, vI 3, vR 107]) (st := []) (n := 4) (w1 := ly) (mc := 1) (ms := 6) hp_encode_03 ⟨rfl, rfl⟩ ⟨by decide, by decide⟩ (gd_ (tb_3 91 rfl) rfl) ⟨by decide, by decide, by decide +kernel⟩ (List.forall_mem_cons.mpr ⟨(gd_ (tb_3 89 rfl) rfl), (List.forall_mem_cons.mpr ⟨(gd_ (tb_3 90 rfl) rfl), (List.forall_mem_cons.mpr ⟨(gd_ (tb_1 0 rfl) rfl), (fun _ z => absurd z List.not_mem_nil)⟩)⟩)⟩) rfl (Nat.zero_le _) rfl rfl (Nat.le_of_ble_eq_true rfl) ⟨by decide, Nat.le_of_ble_eq_true rfl⟩ dL_law_267 ?_
  intro r9 h9 hp9
  rw [hp9.1, hp9.2]
  show TT K ly 109 29826 270 [(4, vI 0), (3, vR 107), (2, vR 73), (1, vR 0), (0, vR 2000)] [vI 0] (up (tH Ne_39) 107 0 14)
  refine TT_istore hK (by decide) rfl dL_law_270 ?_
  show TT K ly 109 29826 272 [(5, vI 0), (4, vI 0), (3, vR 107), (2, vR 73), (1, vR 0), (0, vR 2000)] [] (up (tH Ne_39) 107 0 14)
  refine TT_aload_n hK rfl 3 rfl dL_law_272 ?_
  refine TT_aload_n hK rfl 5 rfl dL_law_273 ?_
  refine TT_iload hK 1 rfl dL_law_274 ?_
  refine TT_iconst hK dL_law_276 ?_
  refine TT_iadd hK dL_law_277 ?_
  refine TT_cgI (b := 1) rfl ?_
  refine TT_sld hK hX (by decide) (by decide) (by decide) dL_law_278 ?_
  refine TT_cgI (b := (xs 1).toInt) rfl ?_
  rw [h1]
  refine TT_aload_n hK rfl 5 rfl dL_law_279 ?_
  refine TT_iload hK 1 rfl dL_law_280 ?_
  refine TT_iconst hK dL_law_282 ?_
  refine TT_iadd hK dL_law_283 ?_
  refine TT_cgI (b := 2) rfl ?_
  refine TT_sld hK hX (by decide) (by decide) (by decide) dL_law_284 ?_
  refine TT_cgI (b := (xs 2).toInt) rfl ?_
  rw [h2]
  refine TT_hp (h' := (tG 73 107 (up (tH Ne_39) 107 0 14) Ne_24)) (tG_law (by decide +kernel)) ?_
  refine iv_L_52 hK (mcM_14 (rbe03 (h0 := (up (tH Ne_39) 107 0 14)))) (by decide) rfl ⟨by decide, by decide⟩ (Nat.zero_le _) rfl rfl (Nat.le_of_ble_eq_true rfl) ⟨by decide, Nat.le_of_ble_eq_true rfl⟩ dL_law_285 ?_
  intro r9 h9 hp9
  rw [hp9.1, hp9.2]
  show TT K ly 109 29826 288 [(5, vI 0), (4, vI 0), (3, vR 107), (2, vR 73), (1, vR 0), (0, vR 2000)] [vI 14] (tG 73 107 (up (tH Ne_39) 107 0 14) Ne_27)
  refine TT_istore hK (by decide) rfl dL_law_288 ?_
  show TT K ly 109 29826 290 [(6, vI 14), (5, vI 0), (4, vI 0), (3, vR 107), (2, vR 73), (1, vR 0), (0, vR 2000)] [] (tG 73 107 (up (tH Ne_39) 107 0 14) Ne_27)
  refine TT_aload_n hK rfl 4 rfl dL_law_290 ?_
  refine iv_L_37 hK (c_X12_thrown_73 (tG 73 107 (up (tH Ne_39) 107 0 14) Ne_27)) (by decide) rfl ⟨by decide, by decide⟩ (Nat.zero_le _) rfl rfl (Nat.le_of_ble_eq_true rfl) ⟨by decide, Nat.le_of_ble_eq_true rfl⟩ dL_law_291 ?_
  intro r9 h9 hp9
  rw [hp9.1, hp9.2]
  show TT K ly 109 29826 294 [(6, vI 14), (5, vI 0), (4, vI 0), (3, vR 107), (2, vR 73), (1, vR 0), (0, vR 2000)] [vI ((tG 73 107 (up (tH Ne_39) 107 0 14) Ne_27) 73 2)] (tG 73 107 (up (tH Ne_39) 107 0 14) Ne_27)
  refine TT_cgI (b := 0) (by show (if 73 ≤ 73 ∧ 73 < 107 then tH Ne_27 73 2 else _) = 0; rw [if_pos (by decide)]; decide +kernel) ?_
  refine TT_iload hK 1 rfl dL_law_294 ?_
  refine TT_icmp_eq hK (tgt := 301) (by decide) (by decide) dL_law_296 rfl (fun _ => ?_) (fun q => absurd rfl q)
  refine TT_iload hK 1 rfl dL_law_301 ?_
  refine TT_if_ne hK (tgt := 318) (by decide) dL_law_303 rfl (fun q => absurd q (by decide)) (fun _ => ?_)
  refine TT_aload_n hK rfl 3 rfl dL_law_306 ?_
  refine TT_iconst hK dL_law_307 ?_
  refine TT_lald hK (o := 107) (n := 1) (v := 14) (by decide) rfl (by decide) (by decide) (by show (if 73 ≤ 107 ∧ 107 < 107 then tH Ne_27 107 0 else (up (tH Ne_39) 107 0 14) 107 0) = 14; rw [if_neg (by decide)]; exact up_eq _ _ _ _) dL_law_308 ?_
  refine TT_iload hK 0 rfl dL_law_309 ?_
  refine TT_i2l hK (by decide) dL_law_311 ?_
  refine TT_lcmp hK (by decide) (by decide) dL_law_312 ?_
  refine TT_cgI (b := 0) (by decide) ?_
  refine TT_if_eq hK (tgt := 318) (by decide) dL_law_313 rfl (fun _ => ?_) (fun q => absurd rfl q)
  refine TT_goto hK (tgt := 674) dL_law_318 rfl ?_
  refine TT_sub [2, 6] rfl ?_
  exact J _ _ _ (by decide) (Nat.le_of_ble_eq_true rfl)
theorem law_c3_11 {K : TC_} {b : Nat} {xs : Nat → Int32} {hh0 : List (Nat × Nat × Nat × Nat)} (hK : TOk K RL code 7 ret room_1 0) (hX : TLX K b 4 xs) (hT : TH K hh0) (J : ∀ kc ks h, kc ≤ 115 → ks ≤ 29866 → TT K ly kc ks 674 [(4, vI 0), (0, vR 2000)] [] h) (h1 : (xs 1).toInt = 1) (h2 : (xs 2).toInt = 1) : TT K ly 108 29820 253 [(4, vI 0), (3, vR 107), (2, vR 73), (1, vR 0), (0, vR 2000)] [] H0_ := by
  refine TT_aload_n hK rfl 3 rfl dL_law_253 ?_
  refine TT_aload_n hK rfl 4 rfl dL_law_254 ?_
  refine TT_iload hK 0 rfl dL_law_255 ?_
  refine TT_iconst hK dL_law_257 ?_
  refine TT_iadd hK dL_law_258 ?_
  refine TT_cgI (b := 1) rfl ?_
  refine TT_sld hK hX (by decide) (by decide) (by decide) dL_law_259 ?_
  refine TT_cgI (b := (xs 1).toInt) rfl ?_
  rw [h1]
  refine TT_aload_n hK rfl 4 rfl dL_law_260 ?_
  refine TT_iload hK 0 rfl dL_law_261 ?_
  refine TT_iconst hK dL_law_263 ?_
  refine TT_iadd hK dL_law_264 ?_
  refine TT_cgI (b := 2) rfl ?_
  refine TT_sld hK hX (by decide) (by decide) (by decide) dL_law_265 ?_
  refine TT_cgI (b := (xs 2).toInt) rfl ?_
  rw [h2]
  refine TT_aload_n hK rfl 1 rfl dL_law_266 ?_
  refine TT_callH hK hT (y := yL_encode) (hh := [(0, 10, 13, 13)]) (As := [vR 0, vI 1, vI 1, vR 107]) (st := []) (n := 4) (w1 := ly) (mc := 1) (ms := 6) hp_encode_11 ⟨rfl, rfl⟩ ⟨by decide, by decide⟩ (gd_ (tb_3 91 rfl) rfl) ⟨by decide, by decide, by decide +kernel⟩ (List.forall_mem_cons.mpr ⟨(gd_ (tb_3 89 rfl) rfl), (List.forall_mem_cons.mpr ⟨(gd_ (tb_3 90 rfl) rfl), (List.forall_mem_cons.mpr ⟨(gd_ (tb_1 0 rfl) rfl), (fun _ z => absurd z List.not_mem_nil)⟩)⟩)⟩) rfl (Nat.zero_le _) rfl rfl (Nat.le_of_ble_eq_true rfl) ⟨by decide, Nat.le_of_ble_eq_true rfl⟩ dL_law_267 ?_
  intro r9 h9 hp9
  rw [hp9.1, hp9.2]
  show TT K ly 109 29826 270 [(4, vI 0), (3, vR 107), (2, vR 73), (1, vR 0), (0, vR 2000)] [vI 0] (up (tH Ne_40) 107 0 9)
  refine TT_istore hK (by decide) rfl dL_law_270 ?_
  show TT K ly 109 29826 272 [(5, vI 0), (4, vI 0), (3, vR 107), (2, vR 73), (1, vR 0), (0, vR 2000)] [] (up (tH Ne_40) 107 0 9)
  refine TT_aload_n hK rfl 3 rfl dL_law_272 ?_
  refine TT_aload_n hK rfl 5 rfl dL_law_273 ?_
  refine TT_iload hK 1 rfl dL_law_274 ?_
  refine TT_iconst hK dL_law_276 ?_
  refine TT_iadd hK dL_law_277 ?_
  refine TT_cgI (b := 1) rfl ?_
  refine TT_sld hK hX (by decide) (by decide) (by decide) dL_law_278 ?_
  refine TT_cgI (b := (xs 1).toInt) rfl ?_
  rw [h1]
  refine TT_aload_n hK rfl 5 rfl dL_law_279 ?_
  refine TT_iload hK 1 rfl dL_law_280 ?_
  refine TT_iconst hK dL_law_282 ?_
  refine TT_iadd hK dL_law_283 ?_
  refine TT_cgI (b := 2) rfl ?_
  refine TT_sld hK hX (by decide) (by decide) (by decide) dL_law_284 ?_
  refine TT_cgI (b := (xs 2).toInt) rfl ?_
  rw [h2]
  refine TT_hp (h' := (tG 73 107 (up (tH Ne_40) 107 0 9) Ne_24)) (tG_law (by decide +kernel)) ?_
  refine iv_L_52 hK (mcM_14 (rbe11 (h0 := (up (tH Ne_40) 107 0 9)))) (by decide) rfl ⟨by decide, by decide⟩ (Nat.zero_le _) rfl rfl (Nat.le_of_ble_eq_true rfl) ⟨by decide, Nat.le_of_ble_eq_true rfl⟩ dL_law_285 ?_
  intro r9 h9 hp9
  rw [hp9.1, hp9.2]
  show TT K ly 109 29826 288 [(5, vI 0), (4, vI 0), (3, vR 107), (2, vR 73), (1, vR 0), (0, vR 2000)] [vI 9] (tG 73 107 (up (tH Ne_40) 107 0 9) Ne_28)
  refine TT_istore hK (by decide) rfl dL_law_288 ?_
  show TT K ly 109 29826 290 [(6, vI 9), (5, vI 0), (4, vI 0), (3, vR 107), (2, vR 73), (1, vR 0), (0, vR 2000)] [] (tG 73 107 (up (tH Ne_40) 107 0 9) Ne_28)
  refine TT_aload_n hK rfl 4 rfl dL_law_290 ?_
  refine iv_L_37 hK (c_X12_thrown_73 (tG 73 107 (up (tH Ne_40) 107 0 9) Ne_28)) (by decide) rfl ⟨by decide, by decide⟩ (Nat.zero_le _) rfl rfl (Nat.le_of_ble_eq_true rfl) ⟨by decide, Nat.le_of_ble_eq_true rfl⟩ dL_law_291 ?_
  intro r9 h9 hp9
  rw [hp9.1, hp9.2]
  show TT K ly 109 29826 294 [(6, vI 9), (5, vI 0), (4, vI 0), (3, vR 107), (2, vR 73), (1, vR 0), (0, vR 2000)] [vI ((tG 73 107 (up (tH Ne_40) 107 0 9) Ne_28) 73 2)] (tG 73 107 (up (tH Ne_40) 107 0 9) Ne_28)
  refine TT_cgI (b := 0) (by show (if 73 ≤ 73 ∧ 73 < 107 then tH Ne_28 73 2 else _) = 0; rw [if_pos (by decide)]; decide +kernel) ?_
  refine TT_iload hK 1 rfl dL_law_294 ?_
  refine TT_icmp_eq hK (tgt := 301) (by decide) (by decide) dL_law_296 rfl (fun _ => ?_) (fun q => absurd rfl q)
  refine TT_iload hK 1 rfl dL_law_301 ?_
  refine TT_if_ne hK (tgt := 318) (by decide) dL_law_303 rfl (fun q => absurd q (by decide)) (fun _ => ?_)
  refine TT_aload_n hK rfl 3 rfl dL_law_306 ?_
  refine TT_iconst hK dL_law_307 ?_
  refine TT_lald hK (o := 107) (n := 1) (v := 9) (by decide) rfl (by decide) (by decide) (by show (if 73 ≤ 107 ∧ 107 < 107 then tH Ne_28 107 0 else (up (tH Ne_40) 107 0 9) 107 0) = 9; rw [if_neg (by decide)]; exact up_eq _ _ _ _) dL_law_308 ?_
  refine TT_iload hK 0 rfl dL_law_309 ?_
  refine TT_i2l hK (by decide) dL_law_311 ?_
  refine TT_lcmp hK (by decide) (by decide) dL_law_312 ?_
  refine TT_cgI (b := 0) (by decide) ?_
  refine TT_if_eq hK (tgt := 318) (by decide) dL_law_313 rfl (fun _ => ?_) (fun q => absurd rfl q)
  refine TT_goto hK (tgt := 674) dL_law_318 rfl ?_
  refine TT_sub [2, 6] rfl ?_
  exact J _ _ _ (by decide) (Nat.le_of_ble_eq_true rfl)
theorem law_c3_12 {K : TC_} {b : Nat} {xs : Nat → Int32} {hh0 : List (Nat × Nat × Nat × Nat)} (hK : TOk K RL code 7 ret room_1 0) (hX : TLX K b 4 xs) (hT : TH K hh0) (J : ∀ kc ks h, kc ≤ 115 → ks ≤ 29866 → TT K ly kc ks 674 [(4, vI 0), (0, vR 2000)] [] h) (h1 : (xs 1).toInt = 1) (h2 : (xs 2).toInt = 2) : TT K ly 108 29820 253 [(4, vI 0), (3, vR 107), (2, vR 73), (1, vR 0), (0, vR 2000)] [] H0_ := by
  refine TT_aload_n hK rfl 3 rfl dL_law_253 ?_
  refine TT_aload_n hK rfl 4 rfl dL_law_254 ?_
  refine TT_iload hK 0 rfl dL_law_255 ?_
  refine TT_iconst hK dL_law_257 ?_
  refine TT_iadd hK dL_law_258 ?_
  refine TT_cgI (b := 1) rfl ?_
  refine TT_sld hK hX (by decide) (by decide) (by decide) dL_law_259 ?_
  refine TT_cgI (b := (xs 1).toInt) rfl ?_
  rw [h1]
  refine TT_aload_n hK rfl 4 rfl dL_law_260 ?_
  refine TT_iload hK 0 rfl dL_law_261 ?_
  refine TT_iconst hK dL_law_263 ?_
  refine TT_iadd hK dL_law_264 ?_
  refine TT_cgI (b := 2) rfl ?_
  refine TT_sld hK hX (by decide) (by decide) (by decide) dL_law_265 ?_
  refine TT_cgI (b := (xs 2).toInt) rfl ?_
  rw [h2]
  refine TT_aload_n hK rfl 1 rfl dL_law_266 ?_
  refine TT_callH hK hT (y := yL_encode) (hh := [(0, 10, 13, 13)]) (As := [vR 0, vI 1, vI 2, vR 107]) (st := []) (n := 4) (w1 := ly) (mc := 1) (ms := 6) hp_encode_12 ⟨rfl, rfl⟩ ⟨by decide, by decide⟩ (gd_ (tb_3 91 rfl) rfl) ⟨by decide, by decide, by decide +kernel⟩ (List.forall_mem_cons.mpr ⟨(gd_ (tb_3 89 rfl) rfl), (List.forall_mem_cons.mpr ⟨(gd_ (tb_3 90 rfl) rfl), (List.forall_mem_cons.mpr ⟨(gd_ (tb_1 0 rfl) rfl), (fun _ z => absurd z List.not_mem_nil)⟩)⟩)⟩) rfl (Nat.zero_le _) rfl rfl (Nat.le_of_ble_eq_true rfl) ⟨by decide, Nat.le_of_ble_eq_true rfl⟩ dL_law_267 ?_
  intro r9 h9 hp9
  rw [hp9.1, hp9.2]
  show TT K ly 109 29826 270 [(4, vI 0), (3, vR 107), (2, vR 73), (1, vR 0), (0, vR 2000)] [vI 0] (up (tH Ne_41) 107 0 13)
  refine TT_istore hK (by decide) rfl dL_law_270 ?_
  show TT K ly 109 29826 272 [(5, vI 0), (4, vI 0), (3, vR 107), (2, vR 73), (1, vR 0), (0, vR 2000)] [] (up (tH Ne_41) 107 0 13)
  refine TT_aload_n hK rfl 3 rfl dL_law_272 ?_
  refine TT_aload_n hK rfl 5 rfl dL_law_273 ?_
  refine TT_iload hK 1 rfl dL_law_274 ?_
  refine TT_iconst hK dL_law_276 ?_
  refine TT_iadd hK dL_law_277 ?_
  refine TT_cgI (b := 1) rfl ?_
  refine TT_sld hK hX (by decide) (by decide) (by decide) dL_law_278 ?_
  refine TT_cgI (b := (xs 1).toInt) rfl ?_
  rw [h1]
  refine TT_aload_n hK rfl 5 rfl dL_law_279 ?_
  refine TT_iload hK 1 rfl dL_law_280 ?_
  refine TT_iconst hK dL_law_282 ?_
  refine TT_iadd hK dL_law_283 ?_
  refine TT_cgI (b := 2) rfl ?_
  refine TT_sld hK hX (by decide) (by decide) (by decide) dL_law_284 ?_
  refine TT_cgI (b := (xs 2).toInt) rfl ?_
  rw [h2]
  refine TT_hp (h' := (tG 73 107 (up (tH Ne_41) 107 0 13) Ne_24)) (tG_law (by decide +kernel)) ?_
  refine iv_L_52 hK (mcM_14 (rbe12 (h0 := (up (tH Ne_41) 107 0 13)))) (by decide) rfl ⟨by decide, by decide⟩ (Nat.zero_le _) rfl rfl (Nat.le_of_ble_eq_true rfl) ⟨by decide, Nat.le_of_ble_eq_true rfl⟩ dL_law_285 ?_
  intro r9 h9 hp9
  rw [hp9.1, hp9.2]
  show TT K ly 109 29826 288 [(5, vI 0), (4, vI 0), (3, vR 107), (2, vR 73), (1, vR 0), (0, vR 2000)] [vI 13] (tG 73 107 (up (tH Ne_41) 107 0 13) Ne_29)
  refine TT_istore hK (by decide) rfl dL_law_288 ?_
  show TT K ly 109 29826 290 [(6, vI 13), (5, vI 0), (4, vI 0), (3, vR 107), (2, vR 73), (1, vR 0), (0, vR 2000)] [] (tG 73 107 (up (tH Ne_41) 107 0 13) Ne_29)
  refine TT_aload_n hK rfl 4 rfl dL_law_290 ?_
  refine iv_L_37 hK (c_X12_thrown_73 (tG 73 107 (up (tH Ne_41) 107 0 13) Ne_29)) (by decide) rfl ⟨by decide, by decide⟩ (Nat.zero_le _) rfl rfl (Nat.le_of_ble_eq_true rfl) ⟨by decide, Nat.le_of_ble_eq_true rfl⟩ dL_law_291 ?_
  intro r9 h9 hp9
  rw [hp9.1, hp9.2]
  show TT K ly 109 29826 294 [(6, vI 13), (5, vI 0), (4, vI 0), (3, vR 107), (2, vR 73), (1, vR 0), (0, vR 2000)] [vI ((tG 73 107 (up (tH Ne_41) 107 0 13) Ne_29) 73 2)] (tG 73 107 (up (tH Ne_41) 107 0 13) Ne_29)
  refine TT_cgI (b := 0) (by show (if 73 ≤ 73 ∧ 73 < 107 then tH Ne_29 73 2 else _) = 0; rw [if_pos (by decide)]; decide +kernel) ?_
  refine TT_iload hK 1 rfl dL_law_294 ?_
  refine TT_icmp_eq hK (tgt := 301) (by decide) (by decide) dL_law_296 rfl (fun _ => ?_) (fun q => absurd rfl q)
  refine TT_iload hK 1 rfl dL_law_301 ?_
  refine TT_if_ne hK (tgt := 318) (by decide) dL_law_303 rfl (fun q => absurd q (by decide)) (fun _ => ?_)
  refine TT_aload_n hK rfl 3 rfl dL_law_306 ?_
  refine TT_iconst hK dL_law_307 ?_
  refine TT_lald hK (o := 107) (n := 1) (v := 13) (by decide) rfl (by decide) (by decide) (by show (if 73 ≤ 107 ∧ 107 < 107 then tH Ne_29 107 0 else (up (tH Ne_41) 107 0 13) 107 0) = 13; rw [if_neg (by decide)]; exact up_eq _ _ _ _) dL_law_308 ?_
  refine TT_iload hK 0 rfl dL_law_309 ?_
  refine TT_i2l hK (by decide) dL_law_311 ?_
  refine TT_lcmp hK (by decide) (by decide) dL_law_312 ?_
  refine TT_cgI (b := 0) (by decide) ?_
  refine TT_if_eq hK (tgt := 318) (by decide) dL_law_313 rfl (fun _ => ?_) (fun q => absurd rfl q)
  refine TT_goto hK (tgt := 674) dL_law_318 rfl ?_
  refine TT_sub [2, 6] rfl ?_
  exact J _ _ _ (by decide) (Nat.le_of_ble_eq_true rfl)
theorem law_c3_13 {K : TC_} {b : Nat} {xs : Nat → Int32} {hh0 : List (Nat × Nat × Nat × Nat)} (hK : TOk K RL code 7 ret room_1 0) (hX : TLX K b 4 xs) (hT : TH K hh0) (J : ∀ kc ks h, kc ≤ 115 → ks ≤ 29866 → TT K ly kc ks 674 [(4, vI 0), (0, vR 2000)] [] h) (h1 : (xs 1).toInt = 1) (h2 : (xs 2).toInt = 3) : TT K ly 108 29820 253 [(4, vI 0), (3, vR 107), (2, vR 73), (1, vR 0), (0, vR 2000)] [] H0_ := by
  refine TT_aload_n hK rfl 3 rfl dL_law_253 ?_
  refine TT_aload_n hK rfl 4 rfl dL_law_254 ?_
  refine TT_iload hK 0 rfl dL_law_255 ?_
  refine TT_iconst hK dL_law_257 ?_
  refine TT_iadd hK dL_law_258 ?_
  refine TT_cgI (b := 1) rfl ?_
  refine TT_sld hK hX (by decide) (by decide) (by decide) dL_law_259 ?_
  refine TT_cgI (b := (xs 1).toInt) rfl ?_
  rw [h1]
  refine TT_aload_n hK rfl 4 rfl dL_law_260 ?_
  refine TT_iload hK 0 rfl dL_law_261 ?_
  refine TT_iconst hK dL_law_263 ?_
  refine TT_iadd hK dL_law_264 ?_
  refine TT_cgI (b := 2) rfl ?_
  refine TT_sld hK hX (by decide) (by decide) (by decide) dL_law_265 ?_
  refine TT_cgI (b := (xs 2).toInt) rfl ?_
  rw [h2]
  refine TT_aload_n hK rfl 1 rfl dL_law_266 ?_
  refine TT_callH hK hT (y := yL_encode) (hh := [(0, 10, 13, 13)]) (As := [vR 0, vI 1, vI 3, vR 107]) (st := []) (n := 4) (w1 := ly) (mc := 1) (ms := 6) hp_encode_13 ⟨rfl, rfl⟩ ⟨by decide, by decide⟩ (gd_ (tb_3 91 rfl) rfl) ⟨by decide, by decide, by decide +kernel⟩ (List.forall_mem_cons.mpr ⟨(gd_ (tb_3 89 rfl) rfl), (List.forall_mem_cons.mpr ⟨(gd_ (tb_3 90 rfl) rfl), (List.forall_mem_cons.mpr ⟨(gd_ (tb_1 0 rfl) rfl), (fun _ z => absurd z List.not_mem_nil)⟩)⟩)⟩) rfl (Nat.zero_le _) rfl rfl (Nat.le_of_ble_eq_true rfl) ⟨by decide, Nat.le_of_ble_eq_true rfl⟩ dL_law_267 ?_
  intro r9 h9 hp9
  rw [hp9.1, hp9.2]
  show TT K ly 109 29826 270 [(4, vI 0), (3, vR 107), (2, vR 73), (1, vR 0), (0, vR 2000)] [vI 0] (up (tH Ne_42) 107 0 17)
  refine TT_istore hK (by decide) rfl dL_law_270 ?_
  show TT K ly 109 29826 272 [(5, vI 0), (4, vI 0), (3, vR 107), (2, vR 73), (1, vR 0), (0, vR 2000)] [] (up (tH Ne_42) 107 0 17)
  refine TT_aload_n hK rfl 3 rfl dL_law_272 ?_
  refine TT_aload_n hK rfl 5 rfl dL_law_273 ?_
  refine TT_iload hK 1 rfl dL_law_274 ?_
  refine TT_iconst hK dL_law_276 ?_
  refine TT_iadd hK dL_law_277 ?_
  refine TT_cgI (b := 1) rfl ?_
  refine TT_sld hK hX (by decide) (by decide) (by decide) dL_law_278 ?_
  refine TT_cgI (b := (xs 1).toInt) rfl ?_
  rw [h1]
  refine TT_aload_n hK rfl 5 rfl dL_law_279 ?_
  refine TT_iload hK 1 rfl dL_law_280 ?_
  refine TT_iconst hK dL_law_282 ?_
  refine TT_iadd hK dL_law_283 ?_
  refine TT_cgI (b := 2) rfl ?_
  refine TT_sld hK hX (by decide) (by decide) (by decide) dL_law_284 ?_
  refine TT_cgI (b := (xs 2).toInt) rfl ?_
  rw [h2]
  refine TT_hp (h' := (tG 73 107 (up (tH Ne_42) 107 0 17) Ne_24)) (tG_law (by decide +kernel)) ?_
  refine iv_L_52 hK (mcM_14 (rbe13 (h0 := (up (tH Ne_42) 107 0 17)))) (by decide) rfl ⟨by decide, by decide⟩ (Nat.zero_le _) rfl rfl (Nat.le_of_ble_eq_true rfl) ⟨by decide, Nat.le_of_ble_eq_true rfl⟩ dL_law_285 ?_
  intro r9 h9 hp9
  rw [hp9.1, hp9.2]
  show TT K ly 109 29826 288 [(5, vI 0), (4, vI 0), (3, vR 107), (2, vR 73), (1, vR 0), (0, vR 2000)] [vI 17] (tG 73 107 (up (tH Ne_42) 107 0 17) Ne_30)
  refine TT_istore hK (by decide) rfl dL_law_288 ?_
  show TT K ly 109 29826 290 [(6, vI 17), (5, vI 0), (4, vI 0), (3, vR 107), (2, vR 73), (1, vR 0), (0, vR 2000)] [] (tG 73 107 (up (tH Ne_42) 107 0 17) Ne_30)
  refine TT_aload_n hK rfl 4 rfl dL_law_290 ?_
  refine iv_L_37 hK (c_X12_thrown_73 (tG 73 107 (up (tH Ne_42) 107 0 17) Ne_30)) (by decide) rfl ⟨by decide, by decide⟩ (Nat.zero_le _) rfl rfl (Nat.le_of_ble_eq_true rfl) ⟨by decide, Nat.le_of_ble_eq_true rfl⟩ dL_law_291 ?_
  intro r9 h9 hp9
  rw [hp9.1, hp9.2]
  show TT K ly 109 29826 294 [(6, vI 17), (5, vI 0), (4, vI 0), (3, vR 107), (2, vR 73), (1, vR 0), (0, vR 2000)] [vI ((tG 73 107 (up (tH Ne_42) 107 0 17) Ne_30) 73 2)] (tG 73 107 (up (tH Ne_42) 107 0 17) Ne_30)
  refine TT_cgI (b := 0) (by show (if 73 ≤ 73 ∧ 73 < 107 then tH Ne_30 73 2 else _) = 0; rw [if_pos (by decide)]; decide +kernel) ?_
  refine TT_iload hK 1 rfl dL_law_294 ?_
  refine TT_icmp_eq hK (tgt := 301) (by decide) (by decide) dL_law_296 rfl (fun _ => ?_) (fun q => absurd rfl q)
  refine TT_iload hK 1 rfl dL_law_301 ?_
  refine TT_if_ne hK (tgt := 318) (by decide) dL_law_303 rfl (fun q => absurd q (by decide)) (fun _ => ?_)
  refine TT_aload_n hK rfl 3 rfl dL_law_306 ?_
  refine TT_iconst hK dL_law_307 ?_
  refine TT_lald hK (o := 107) (n := 1) (v := 17) (by decide) rfl (by decide) (by decide) (by show (if 73 ≤ 107 ∧ 107 < 107 then tH Ne_30 107 0 else (up (tH Ne_42) 107 0 17) 107 0) = 17; rw [if_neg (by decide)]; exact up_eq _ _ _ _) dL_law_308 ?_
  refine TT_iload hK 0 rfl dL_law_309 ?_
  refine TT_i2l hK (by decide) dL_law_311 ?_
  refine TT_lcmp hK (by decide) (by decide) dL_law_312 ?_
  refine TT_cgI (b := 0) (by decide) ?_
  refine TT_if_eq hK (tgt := 318) (by decide) dL_law_313 rfl (fun _ => ?_) (fun q => absurd rfl q)
  refine TT_goto hK (tgt := 674) dL_law_318 rfl ?_
  refine TT_sub [2, 6] rfl ?_
  exact J _ _ _ (by decide) (Nat.le_of_ble_eq_true rfl)
theorem law_c3_21 {K : TC_} {b : Nat} {xs : Nat → Int32} {hh0 : List (Nat × Nat × Nat × Nat)} (hK : TOk K RL code 7 ret room_1 0) (hX : TLX K b 4 xs) (hT : TH K hh0) (J : ∀ kc ks h, kc ≤ 115 → ks ≤ 29866 → TT K ly kc ks 674 [(4, vI 0), (0, vR 2000)] [] h) (h1 : (xs 1).toInt = 2) (h2 : (xs 2).toInt = 1) : TT K ly 108 29820 253 [(4, vI 0), (3, vR 107), (2, vR 73), (1, vR 0), (0, vR 2000)] [] H0_ := by
  refine TT_aload_n hK rfl 3 rfl dL_law_253 ?_
  refine TT_aload_n hK rfl 4 rfl dL_law_254 ?_
  refine TT_iload hK 0 rfl dL_law_255 ?_
  refine TT_iconst hK dL_law_257 ?_
  refine TT_iadd hK dL_law_258 ?_
  refine TT_cgI (b := 1) rfl ?_
  refine TT_sld hK hX (by decide) (by decide) (by decide) dL_law_259 ?_
  refine TT_cgI (b := (xs 1).toInt) rfl ?_
  rw [h1]
  refine TT_aload_n hK rfl 4 rfl dL_law_260 ?_
  refine TT_iload hK 0 rfl dL_law_261 ?_
  refine TT_iconst hK dL_law_263 ?_
  refine TT_iadd hK dL_law_264 ?_
  refine TT_cgI (b := 2) rfl ?_
  refine TT_sld hK hX (by decide) (by decide) (by decide) dL_law_265 ?_
  refine TT_cgI (b := (xs 2).toInt) rfl ?_
  rw [h2]
  refine TT_aload_n hK rfl 1 rfl dL_law_266 ?_
  refine TT_callH hK hT (y := yL_encode) (hh := [(0, 10, 13, 13)]) (As := [vR 0, vI 2, vI 1, vR 107]) (st := []) (n := 4) (w1 := ly) (mc := 1) (ms := 6) hp_encode_21 ⟨rfl, rfl⟩ ⟨by decide, by decide⟩ (gd_ (tb_3 91 rfl) rfl) ⟨by decide, by decide, by decide +kernel⟩ (List.forall_mem_cons.mpr ⟨(gd_ (tb_3 89 rfl) rfl), (List.forall_mem_cons.mpr ⟨(gd_ (tb_3 90 rfl) rfl), (List.forall_mem_cons.mpr ⟨(gd_ (tb_1 0 rfl) rfl), (fun _ z => absurd z List.not_mem_nil)⟩)⟩)⟩) rfl (Nat.zero_le _) rfl rfl (Nat.le_of_ble_eq_true rfl) ⟨by decide, Nat.le_of_ble_eq_true rfl⟩ dL_law_267 ?_
  intro r9 h9 hp9
  rw [hp9.1, hp9.2]
  show TT K ly 109 29826 270 [(4, vI 0), (3, vR 107), (2, vR 73), (1, vR 0), (0, vR 2000)] [vI 0] (up (tH Ne_43) 107 0 10)
  refine TT_istore hK (by decide) rfl dL_law_270 ?_
  show TT K ly 109 29826 272 [(5, vI 0), (4, vI 0), (3, vR 107), (2, vR 73), (1, vR 0), (0, vR 2000)] [] (up (tH Ne_43) 107 0 10)
  refine TT_aload_n hK rfl 3 rfl dL_law_272 ?_
  refine TT_aload_n hK rfl 5 rfl dL_law_273 ?_
  refine TT_iload hK 1 rfl dL_law_274 ?_
  refine TT_iconst hK dL_law_276 ?_
  refine TT_iadd hK dL_law_277 ?_
  refine TT_cgI (b := 1) rfl ?_
  refine TT_sld hK hX (by decide) (by decide) (by decide) dL_law_278 ?_
  refine TT_cgI (b := (xs 1).toInt) rfl ?_
  rw [h1]
  refine TT_aload_n hK rfl 5 rfl dL_law_279 ?_
  refine TT_iload hK 1 rfl dL_law_280 ?_
  refine TT_iconst hK dL_law_282 ?_
  refine TT_iadd hK dL_law_283 ?_
  refine TT_cgI (b := 2) rfl ?_
  refine TT_sld hK hX (by decide) (by decide) (by decide) dL_law_284 ?_
  refine TT_cgI (b := (xs 2).toInt) rfl ?_
  rw [h2]
  refine TT_hp (h' := (tG 73 107 (up (tH Ne_43) 107 0 10) Ne_24)) (tG_law (by decide +kernel)) ?_
  refine iv_L_52 hK (mcM_14 (rbe21 (h0 := (up (tH Ne_43) 107 0 10)))) (by decide) rfl ⟨by decide, by decide⟩ (Nat.zero_le _) rfl rfl (Nat.le_of_ble_eq_true rfl) ⟨by decide, Nat.le_of_ble_eq_true rfl⟩ dL_law_285 ?_
  intro r9 h9 hp9
  rw [hp9.1, hp9.2]
  show TT K ly 109 29826 288 [(5, vI 0), (4, vI 0), (3, vR 107), (2, vR 73), (1, vR 0), (0, vR 2000)] [vI 10] (tG 73 107 (up (tH Ne_43) 107 0 10) Ne_31)
  refine TT_istore hK (by decide) rfl dL_law_288 ?_
  show TT K ly 109 29826 290 [(6, vI 10), (5, vI 0), (4, vI 0), (3, vR 107), (2, vR 73), (1, vR 0), (0, vR 2000)] [] (tG 73 107 (up (tH Ne_43) 107 0 10) Ne_31)
  refine TT_aload_n hK rfl 4 rfl dL_law_290 ?_
  refine iv_L_37 hK (c_X12_thrown_73 (tG 73 107 (up (tH Ne_43) 107 0 10) Ne_31)) (by decide) rfl ⟨by decide, by decide⟩ (Nat.zero_le _) rfl rfl (Nat.le_of_ble_eq_true rfl) ⟨by decide, Nat.le_of_ble_eq_true rfl⟩ dL_law_291 ?_
  intro r9 h9 hp9
  rw [hp9.1, hp9.2]
  show TT K ly 109 29826 294 [(6, vI 10), (5, vI 0), (4, vI 0), (3, vR 107), (2, vR 73), (1, vR 0), (0, vR 2000)] [vI ((tG 73 107 (up (tH Ne_43) 107 0 10) Ne_31) 73 2)] (tG 73 107 (up (tH Ne_43) 107 0 10) Ne_31)
  refine TT_cgI (b := 0) (by show (if 73 ≤ 73 ∧ 73 < 107 then tH Ne_31 73 2 else _) = 0; rw [if_pos (by decide)]; decide +kernel) ?_
  refine TT_iload hK 1 rfl dL_law_294 ?_
  refine TT_icmp_eq hK (tgt := 301) (by decide) (by decide) dL_law_296 rfl (fun _ => ?_) (fun q => absurd rfl q)
  refine TT_iload hK 1 rfl dL_law_301 ?_
  refine TT_if_ne hK (tgt := 318) (by decide) dL_law_303 rfl (fun q => absurd q (by decide)) (fun _ => ?_)
  refine TT_aload_n hK rfl 3 rfl dL_law_306 ?_
  refine TT_iconst hK dL_law_307 ?_
  refine TT_lald hK (o := 107) (n := 1) (v := 10) (by decide) rfl (by decide) (by decide) (by show (if 73 ≤ 107 ∧ 107 < 107 then tH Ne_31 107 0 else (up (tH Ne_43) 107 0 10) 107 0) = 10; rw [if_neg (by decide)]; exact up_eq _ _ _ _) dL_law_308 ?_
  refine TT_iload hK 0 rfl dL_law_309 ?_
  refine TT_i2l hK (by decide) dL_law_311 ?_
  refine TT_lcmp hK (by decide) (by decide) dL_law_312 ?_
  refine TT_cgI (b := 0) (by decide) ?_
  refine TT_if_eq hK (tgt := 318) (by decide) dL_law_313 rfl (fun _ => ?_) (fun q => absurd rfl q)
  refine TT_goto hK (tgt := 674) dL_law_318 rfl ?_
  refine TT_sub [2, 6] rfl ?_
  exact J _ _ _ (by decide) (Nat.le_of_ble_eq_true rfl)
theorem law_c3_22 {K : TC_} {b : Nat} {xs : Nat → Int32} {hh0 : List (Nat × Nat × Nat × Nat)} (hK : TOk K RL code 7 ret room_1 0) (hX : TLX K b 4 xs) (hT : TH K hh0) (J : ∀ kc ks h, kc ≤ 115 → ks ≤ 29866 → TT K ly kc ks 674 [(4, vI 0), (0, vR 2000)] [] h) (h1 : (xs 1).toInt = 2) (h2 : (xs 2).toInt = 2) : TT K ly 108 29820 253 [(4, vI 0), (3, vR 107), (2, vR 73), (1, vR 0), (0, vR 2000)] [] H0_ := by
  refine TT_aload_n hK rfl 3 rfl dL_law_253 ?_
  refine TT_aload_n hK rfl 4 rfl dL_law_254 ?_
  refine TT_iload hK 0 rfl dL_law_255 ?_
  refine TT_iconst hK dL_law_257 ?_
  refine TT_iadd hK dL_law_258 ?_
  refine TT_cgI (b := 1) rfl ?_
  refine TT_sld hK hX (by decide) (by decide) (by decide) dL_law_259 ?_
  refine TT_cgI (b := (xs 1).toInt) rfl ?_
  rw [h1]
  refine TT_aload_n hK rfl 4 rfl dL_law_260 ?_
  refine TT_iload hK 0 rfl dL_law_261 ?_
  refine TT_iconst hK dL_law_263 ?_
  refine TT_iadd hK dL_law_264 ?_
  refine TT_cgI (b := 2) rfl ?_
  refine TT_sld hK hX (by decide) (by decide) (by decide) dL_law_265 ?_
  refine TT_cgI (b := (xs 2).toInt) rfl ?_
  rw [h2]
  refine TT_aload_n hK rfl 1 rfl dL_law_266 ?_
  refine TT_callH hK hT (y := yL_encode) (hh := [(0, 10, 13, 13)]) (As := [vR 0, vI 2, vI 2, vR 107]) (st := []) (n := 4) (w1 := ly) (mc := 1) (ms := 6) hp_encode_22 ⟨rfl, rfl⟩ ⟨by decide, by decide⟩ (gd_ (tb_3 91 rfl) rfl) ⟨by decide, by decide, by decide +kernel⟩ (List.forall_mem_cons.mpr ⟨(gd_ (tb_3 89 rfl) rfl), (List.forall_mem_cons.mpr ⟨(gd_ (tb_3 90 rfl) rfl), (List.forall_mem_cons.mpr ⟨(gd_ (tb_1 0 rfl) rfl), (fun _ z => absurd z List.not_mem_nil)⟩)⟩)⟩) rfl (Nat.zero_le _) rfl rfl (Nat.le_of_ble_eq_true rfl) ⟨by decide, Nat.le_of_ble_eq_true rfl⟩ dL_law_267 ?_
  intro r9 h9 hp9
  rw [hp9.1, hp9.2]
  show TT K ly 109 29826 270 [(4, vI 0), (3, vR 107), (2, vR 73), (1, vR 0), (0, vR 2000)] [vI 0] (up (tH Ne_44) 107 0 15)
  refine TT_istore hK (by decide) rfl dL_law_270 ?_
  show TT K ly 109 29826 272 [(5, vI 0), (4, vI 0), (3, vR 107), (2, vR 73), (1, vR 0), (0, vR 2000)] [] (up (tH Ne_44) 107 0 15)
  refine TT_aload_n hK rfl 3 rfl dL_law_272 ?_
  refine TT_aload_n hK rfl 5 rfl dL_law_273 ?_
  refine TT_iload hK 1 rfl dL_law_274 ?_
  refine TT_iconst hK dL_law_276 ?_
  refine TT_iadd hK dL_law_277 ?_
  refine TT_cgI (b := 1) rfl ?_
  refine TT_sld hK hX (by decide) (by decide) (by decide) dL_law_278 ?_
  refine TT_cgI (b := (xs 1).toInt) rfl ?_
  rw [h1]
  refine TT_aload_n hK rfl 5 rfl dL_law_279 ?_
  refine TT_iload hK 1 rfl dL_law_280 ?_
  refine TT_iconst hK dL_law_282 ?_
  refine TT_iadd hK dL_law_283 ?_
  refine TT_cgI (b := 2) rfl ?_
  refine TT_sld hK hX (by decide) (by decide) (by decide) dL_law_284 ?_
  refine TT_cgI (b := (xs 2).toInt) rfl ?_
  rw [h2]
  refine TT_hp (h' := (tG 73 107 (up (tH Ne_44) 107 0 15) Ne_24)) (tG_law (by decide +kernel)) ?_
  refine iv_L_52 hK (mcM_14 (rbe22 (h0 := (up (tH Ne_44) 107 0 15)))) (by decide) rfl ⟨by decide, by decide⟩ (Nat.zero_le _) rfl rfl (Nat.le_of_ble_eq_true rfl) ⟨by decide, Nat.le_of_ble_eq_true rfl⟩ dL_law_285 ?_
  intro r9 h9 hp9
  rw [hp9.1, hp9.2]
  show TT K ly 109 29826 288 [(5, vI 0), (4, vI 0), (3, vR 107), (2, vR 73), (1, vR 0), (0, vR 2000)] [vI 15] (tG 73 107 (up (tH Ne_44) 107 0 15) Ne_32)
  refine TT_istore hK (by decide) rfl dL_law_288 ?_
  show TT K ly 109 29826 290 [(6, vI 15), (5, vI 0), (4, vI 0), (3, vR 107), (2, vR 73), (1, vR 0), (0, vR 2000)] [] (tG 73 107 (up (tH Ne_44) 107 0 15) Ne_32)
  refine TT_aload_n hK rfl 4 rfl dL_law_290 ?_
  refine iv_L_37 hK (c_X12_thrown_73 (tG 73 107 (up (tH Ne_44) 107 0 15) Ne_32)) (by decide) rfl ⟨by decide, by decide⟩ (Nat.zero_le _) rfl rfl (Nat.le_of_ble_eq_true rfl) ⟨by decide, Nat.le_of_ble_eq_true rfl⟩ dL_law_291 ?_
  intro r9 h9 hp9
  rw [hp9.1, hp9.2]
  show TT K ly 109 29826 294 [(6, vI 15), (5, vI 0), (4, vI 0), (3, vR 107), (2, vR 73), (1, vR 0), (0, vR 2000)] [vI ((tG 73 107 (up (tH Ne_44) 107 0 15) Ne_32) 73 2)] (tG 73 107 (up (tH Ne_44) 107 0 15) Ne_32)
  refine TT_cgI (b := 0) (by show (if 73 ≤ 73 ∧ 73 < 107 then tH Ne_32 73 2 else _) = 0; rw [if_pos (by decide)]; decide +kernel) ?_
  refine TT_iload hK 1 rfl dL_law_294 ?_
  refine TT_icmp_eq hK (tgt := 301) (by decide) (by decide) dL_law_296 rfl (fun _ => ?_) (fun q => absurd rfl q)
  refine TT_iload hK 1 rfl dL_law_301 ?_
  refine TT_if_ne hK (tgt := 318) (by decide) dL_law_303 rfl (fun q => absurd q (by decide)) (fun _ => ?_)
  refine TT_aload_n hK rfl 3 rfl dL_law_306 ?_
  refine TT_iconst hK dL_law_307 ?_
  refine TT_lald hK (o := 107) (n := 1) (v := 15) (by decide) rfl (by decide) (by decide) (by show (if 73 ≤ 107 ∧ 107 < 107 then tH Ne_32 107 0 else (up (tH Ne_44) 107 0 15) 107 0) = 15; rw [if_neg (by decide)]; exact up_eq _ _ _ _) dL_law_308 ?_
  refine TT_iload hK 0 rfl dL_law_309 ?_
  refine TT_i2l hK (by decide) dL_law_311 ?_
  refine TT_lcmp hK (by decide) (by decide) dL_law_312 ?_
  refine TT_cgI (b := 0) (by decide) ?_
  refine TT_if_eq hK (tgt := 318) (by decide) dL_law_313 rfl (fun _ => ?_) (fun q => absurd rfl q)
  refine TT_goto hK (tgt := 674) dL_law_318 rfl ?_
  refine TT_sub [2, 6] rfl ?_
  exact J _ _ _ (by decide) (Nat.le_of_ble_eq_true rfl)
theorem law_c3_23 {K : TC_} {b : Nat} {xs : Nat → Int32} {hh0 : List (Nat × Nat × Nat × Nat)} (hK : TOk K RL code 7 ret room_1 0) (hX : TLX K b 4 xs) (hT : TH K hh0) (J : ∀ kc ks h, kc ≤ 115 → ks ≤ 29866 → TT K ly kc ks 674 [(4, vI 0), (0, vR 2000)] [] h) (h1 : (xs 1).toInt = 2) (h2 : (xs 2).toInt = 3) : TT K ly 108 29820 253 [(4, vI 0), (3, vR 107), (2, vR 73), (1, vR 0), (0, vR 2000)] [] H0_ := by
  refine TT_aload_n hK rfl 3 rfl dL_law_253 ?_
  refine TT_aload_n hK rfl 4 rfl dL_law_254 ?_
  refine TT_iload hK 0 rfl dL_law_255 ?_
  refine TT_iconst hK dL_law_257 ?_
  refine TT_iadd hK dL_law_258 ?_
  refine TT_cgI (b := 1) rfl ?_
  refine TT_sld hK hX (by decide) (by decide) (by decide) dL_law_259 ?_
  refine TT_cgI (b := (xs 1).toInt) rfl ?_
  rw [h1]
  refine TT_aload_n hK rfl 4 rfl dL_law_260 ?_
  refine TT_iload hK 0 rfl dL_law_261 ?_
  refine TT_iconst hK dL_law_263 ?_
  refine TT_iadd hK dL_law_264 ?_
  refine TT_cgI (b := 2) rfl ?_
  refine TT_sld hK hX (by decide) (by decide) (by decide) dL_law_265 ?_
  refine TT_cgI (b := (xs 2).toInt) rfl ?_
  rw [h2]
  refine TT_aload_n hK rfl 1 rfl dL_law_266 ?_
  refine TT_callH hK hT (y := yL_encode) (hh := [(0, 10, 13, 13)]) (As := [vR 0, vI 2, vI 3, vR 107]) (st := []) (n := 4) (w1 := ly) (mc := 1) (ms := 6) hp_encode_23 ⟨rfl, rfl⟩ ⟨by decide, by decide⟩ (gd_ (tb_3 91 rfl) rfl) ⟨by decide, by decide, by decide +kernel⟩ (List.forall_mem_cons.mpr ⟨(gd_ (tb_3 89 rfl) rfl), (List.forall_mem_cons.mpr ⟨(gd_ (tb_3 90 rfl) rfl), (List.forall_mem_cons.mpr ⟨(gd_ (tb_1 0 rfl) rfl), (fun _ z => absurd z List.not_mem_nil)⟩)⟩)⟩) rfl (Nat.zero_le _) rfl rfl (Nat.le_of_ble_eq_true rfl) ⟨by decide, Nat.le_of_ble_eq_true rfl⟩ dL_law_267 ?_
  intro r9 h9 hp9
  rw [hp9.1, hp9.2]
  show TT K ly 109 29826 270 [(4, vI 0), (3, vR 107), (2, vR 73), (1, vR 0), (0, vR 2000)] [vI 0] (up (tH Ne_45) 107 0 20)
  refine TT_istore hK (by decide) rfl dL_law_270 ?_
  show TT K ly 109 29826 272 [(5, vI 0), (4, vI 0), (3, vR 107), (2, vR 73), (1, vR 0), (0, vR 2000)] [] (up (tH Ne_45) 107 0 20)
  refine TT_aload_n hK rfl 3 rfl dL_law_272 ?_
  refine TT_aload_n hK rfl 5 rfl dL_law_273 ?_
  refine TT_iload hK 1 rfl dL_law_274 ?_
  refine TT_iconst hK dL_law_276 ?_
  refine TT_iadd hK dL_law_277 ?_
  refine TT_cgI (b := 1) rfl ?_
  refine TT_sld hK hX (by decide) (by decide) (by decide) dL_law_278 ?_
  refine TT_cgI (b := (xs 1).toInt) rfl ?_
  rw [h1]
  refine TT_aload_n hK rfl 5 rfl dL_law_279 ?_
  refine TT_iload hK 1 rfl dL_law_280 ?_
  refine TT_iconst hK dL_law_282 ?_
  refine TT_iadd hK dL_law_283 ?_
  refine TT_cgI (b := 2) rfl ?_
  refine TT_sld hK hX (by decide) (by decide) (by decide) dL_law_284 ?_
  refine TT_cgI (b := (xs 2).toInt) rfl ?_
  rw [h2]
  refine TT_hp (h' := (tG 73 107 (up (tH Ne_45) 107 0 20) Ne_24)) (tG_law (by decide +kernel)) ?_
  refine iv_L_52 hK (mcM_14 (rbe23 (h0 := (up (tH Ne_45) 107 0 20)))) (by decide) rfl ⟨by decide, by decide⟩ (Nat.zero_le _) rfl rfl (Nat.le_of_ble_eq_true rfl) ⟨by decide, Nat.le_of_ble_eq_true rfl⟩ dL_law_285 ?_
  intro r9 h9 hp9
  rw [hp9.1, hp9.2]
  show TT K ly 109 29826 288 [(5, vI 0), (4, vI 0), (3, vR 107), (2, vR 73), (1, vR 0), (0, vR 2000)] [vI 20] (tG 73 107 (up (tH Ne_45) 107 0 20) Ne_33)
  refine TT_istore hK (by decide) rfl dL_law_288 ?_
  show TT K ly 109 29826 290 [(6, vI 20), (5, vI 0), (4, vI 0), (3, vR 107), (2, vR 73), (1, vR 0), (0, vR 2000)] [] (tG 73 107 (up (tH Ne_45) 107 0 20) Ne_33)
  refine TT_aload_n hK rfl 4 rfl dL_law_290 ?_
  refine iv_L_37 hK (c_X12_thrown_73 (tG 73 107 (up (tH Ne_45) 107 0 20) Ne_33)) (by decide) rfl ⟨by decide, by decide⟩ (Nat.zero_le _) rfl rfl (Nat.le_of_ble_eq_true rfl) ⟨by decide, Nat.le_of_ble_eq_true rfl⟩ dL_law_291 ?_
  intro r9 h9 hp9
  rw [hp9.1, hp9.2]
  show TT K ly 109 29826 294 [(6, vI 20), (5, vI 0), (4, vI 0), (3, vR 107), (2, vR 73), (1, vR 0), (0, vR 2000)] [vI ((tG 73 107 (up (tH Ne_45) 107 0 20) Ne_33) 73 2)] (tG 73 107 (up (tH Ne_45) 107 0 20) Ne_33)
  refine TT_cgI (b := 0) (by show (if 73 ≤ 73 ∧ 73 < 107 then tH Ne_33 73 2 else _) = 0; rw [if_pos (by decide)]; decide +kernel) ?_
  refine TT_iload hK 1 rfl dL_law_294 ?_
  refine TT_icmp_eq hK (tgt := 301) (by decide) (by decide) dL_law_296 rfl (fun _ => ?_) (fun q => absurd rfl q)
  refine TT_iload hK 1 rfl dL_law_301 ?_
  refine TT_if_ne hK (tgt := 318) (by decide) dL_law_303 rfl (fun q => absurd q (by decide)) (fun _ => ?_)
  refine TT_aload_n hK rfl 3 rfl dL_law_306 ?_
  refine TT_iconst hK dL_law_307 ?_
  refine TT_lald hK (o := 107) (n := 1) (v := 20) (by decide) rfl (by decide) (by decide) (by show (if 73 ≤ 107 ∧ 107 < 107 then tH Ne_33 107 0 else (up (tH Ne_45) 107 0 20) 107 0) = 20; rw [if_neg (by decide)]; exact up_eq _ _ _ _) dL_law_308 ?_
  refine TT_iload hK 0 rfl dL_law_309 ?_
  refine TT_i2l hK (by decide) dL_law_311 ?_
  refine TT_lcmp hK (by decide) (by decide) dL_law_312 ?_
  refine TT_cgI (b := 0) (by decide) ?_
  refine TT_if_eq hK (tgt := 318) (by decide) dL_law_313 rfl (fun _ => ?_) (fun q => absurd rfl q)
  refine TT_goto hK (tgt := 674) dL_law_318 rfl ?_
  refine TT_sub [2, 6] rfl ?_
  exact J _ _ _ (by decide) (Nat.le_of_ble_eq_true rfl)
theorem law_c3_31 {K : TC_} {b : Nat} {xs : Nat → Int32} {hh0 : List (Nat × Nat × Nat × Nat)} (hK : TOk K RL code 7 ret room_1 0) (hX : TLX K b 4 xs) (hT : TH K hh0) (J : ∀ kc ks h, kc ≤ 115 → ks ≤ 29866 → TT K ly kc ks 674 [(4, vI 0), (0, vR 2000)] [] h) (h1 : (xs 1).toInt = 3) (h2 : (xs 2).toInt = 1) : TT K ly 108 29820 253 [(4, vI 0), (3, vR 107), (2, vR 73), (1, vR 0), (0, vR 2000)] [] H0_ := by
  refine TT_aload_n hK rfl 3 rfl dL_law_253 ?_
  refine TT_aload_n hK rfl 4 rfl dL_law_254 ?_
  refine TT_iload hK 0 rfl dL_law_255 ?_
  refine TT_iconst hK dL_law_257 ?_
  refine TT_iadd hK dL_law_258 ?_
  refine TT_cgI (b := 1) rfl ?_
  refine TT_sld hK hX (by decide) (by decide) (by decide) dL_law_259 ?_
  refine TT_cgI (b := (xs 1).toInt) rfl ?_
  rw [h1]
  refine TT_aload_n hK rfl 4 rfl dL_law_260 ?_
  refine TT_iload hK 0 rfl dL_law_261 ?_
  refine TT_iconst hK dL_law_263 ?_
  refine TT_iadd hK dL_law_264 ?_
  refine TT_cgI (b := 2) rfl ?_
  refine TT_sld hK hX (by decide) (by decide) (by decide) dL_law_265 ?_
  refine TT_cgI (b := (xs 2).toInt) rfl ?_
  rw [h2]
  refine TT_aload_n hK rfl 1 rfl dL_law_266 ?_
  refine TT_callH hK hT (y := yL_encode) (hh := [(0, 10, 13, 13)]) (As := [vR 0, vI 3, vI 1, vR 107]) (st := []) (n := 4) (w1 := ly) (mc := 1) (ms := 6) hp_encode_31 ⟨rfl, rfl⟩ ⟨by decide, by decide⟩ (gd_ (tb_3 91 rfl) rfl) ⟨by decide, by decide, by decide +kernel⟩ (List.forall_mem_cons.mpr ⟨(gd_ (tb_3 89 rfl) rfl), (List.forall_mem_cons.mpr ⟨(gd_ (tb_3 90 rfl) rfl), (List.forall_mem_cons.mpr ⟨(gd_ (tb_1 0 rfl) rfl), (fun _ z => absurd z List.not_mem_nil)⟩)⟩)⟩) rfl (Nat.zero_le _) rfl rfl (Nat.le_of_ble_eq_true rfl) ⟨by decide, Nat.le_of_ble_eq_true rfl⟩ dL_law_267 ?_
  intro r9 h9 hp9
  rw [hp9.1, hp9.2]
  show TT K ly 109 29826 270 [(4, vI 0), (3, vR 107), (2, vR 73), (1, vR 0), (0, vR 2000)] [vI 0] (up (tH Ne_46) 107 0 11)
  refine TT_istore hK (by decide) rfl dL_law_270 ?_
  show TT K ly 109 29826 272 [(5, vI 0), (4, vI 0), (3, vR 107), (2, vR 73), (1, vR 0), (0, vR 2000)] [] (up (tH Ne_46) 107 0 11)
  refine TT_aload_n hK rfl 3 rfl dL_law_272 ?_
  refine TT_aload_n hK rfl 5 rfl dL_law_273 ?_
  refine TT_iload hK 1 rfl dL_law_274 ?_
  refine TT_iconst hK dL_law_276 ?_
  refine TT_iadd hK dL_law_277 ?_
  refine TT_cgI (b := 1) rfl ?_
  refine TT_sld hK hX (by decide) (by decide) (by decide) dL_law_278 ?_
  refine TT_cgI (b := (xs 1).toInt) rfl ?_
  rw [h1]
  refine TT_aload_n hK rfl 5 rfl dL_law_279 ?_
  refine TT_iload hK 1 rfl dL_law_280 ?_
  refine TT_iconst hK dL_law_282 ?_
  refine TT_iadd hK dL_law_283 ?_
  refine TT_cgI (b := 2) rfl ?_
  refine TT_sld hK hX (by decide) (by decide) (by decide) dL_law_284 ?_
  refine TT_cgI (b := (xs 2).toInt) rfl ?_
  rw [h2]
  refine TT_hp (h' := (tG 73 107 (up (tH Ne_46) 107 0 11) Ne_24)) (tG_law (by decide +kernel)) ?_
  refine iv_L_52 hK (mcM_14 (rbe31 (h0 := (up (tH Ne_46) 107 0 11)))) (by decide) rfl ⟨by decide, by decide⟩ (Nat.zero_le _) rfl rfl (Nat.le_of_ble_eq_true rfl) ⟨by decide, Nat.le_of_ble_eq_true rfl⟩ dL_law_285 ?_
  intro r9 h9 hp9
  rw [hp9.1, hp9.2]
  show TT K ly 109 29826 288 [(5, vI 0), (4, vI 0), (3, vR 107), (2, vR 73), (1, vR 0), (0, vR 2000)] [vI 11] (tG 73 107 (up (tH Ne_46) 107 0 11) Ne_34)
  refine TT_istore hK (by decide) rfl dL_law_288 ?_
  show TT K ly 109 29826 290 [(6, vI 11), (5, vI 0), (4, vI 0), (3, vR 107), (2, vR 73), (1, vR 0), (0, vR 2000)] [] (tG 73 107 (up (tH Ne_46) 107 0 11) Ne_34)
  refine TT_aload_n hK rfl 4 rfl dL_law_290 ?_
  refine iv_L_37 hK (c_X12_thrown_73 (tG 73 107 (up (tH Ne_46) 107 0 11) Ne_34)) (by decide) rfl ⟨by decide, by decide⟩ (Nat.zero_le _) rfl rfl (Nat.le_of_ble_eq_true rfl) ⟨by decide, Nat.le_of_ble_eq_true rfl⟩ dL_law_291 ?_
  intro r9 h9 hp9
  rw [hp9.1, hp9.2]
  show TT K ly 109 29826 294 [(6, vI 11), (5, vI 0), (4, vI 0), (3, vR 107), (2, vR 73), (1, vR 0), (0, vR 2000)] [vI ((tG 73 107 (up (tH Ne_46) 107 0 11) Ne_34) 73 2)] (tG 73 107 (up (tH Ne_46) 107 0 11) Ne_34)
  refine TT_cgI (b := 0) (by show (if 73 ≤ 73 ∧ 73 < 107 then tH Ne_34 73 2 else _) = 0; rw [if_pos (by decide)]; decide +kernel) ?_
  refine TT_iload hK 1 rfl dL_law_294 ?_
  refine TT_icmp_eq hK (tgt := 301) (by decide) (by decide) dL_law_296 rfl (fun _ => ?_) (fun q => absurd rfl q)
  refine TT_iload hK 1 rfl dL_law_301 ?_
  refine TT_if_ne hK (tgt := 318) (by decide) dL_law_303 rfl (fun q => absurd q (by decide)) (fun _ => ?_)
  refine TT_aload_n hK rfl 3 rfl dL_law_306 ?_
  refine TT_iconst hK dL_law_307 ?_
  refine TT_lald hK (o := 107) (n := 1) (v := 11) (by decide) rfl (by decide) (by decide) (by show (if 73 ≤ 107 ∧ 107 < 107 then tH Ne_34 107 0 else (up (tH Ne_46) 107 0 11) 107 0) = 11; rw [if_neg (by decide)]; exact up_eq _ _ _ _) dL_law_308 ?_
  refine TT_iload hK 0 rfl dL_law_309 ?_
  refine TT_i2l hK (by decide) dL_law_311 ?_
  refine TT_lcmp hK (by decide) (by decide) dL_law_312 ?_
  refine TT_cgI (b := 0) (by decide) ?_
  refine TT_if_eq hK (tgt := 318) (by decide) dL_law_313 rfl (fun _ => ?_) (fun q => absurd rfl q)
  refine TT_goto hK (tgt := 674) dL_law_318 rfl ?_
  refine TT_sub [2, 6] rfl ?_
  exact J _ _ _ (by decide) (Nat.le_of_ble_eq_true rfl)
theorem law_c3_32 {K : TC_} {b : Nat} {xs : Nat → Int32} {hh0 : List (Nat × Nat × Nat × Nat)} (hK : TOk K RL code 7 ret room_1 0) (hX : TLX K b 4 xs) (hT : TH K hh0) (J : ∀ kc ks h, kc ≤ 115 → ks ≤ 29866 → TT K ly kc ks 674 [(4, vI 0), (0, vR 2000)] [] h) (h1 : (xs 1).toInt = 3) (h2 : (xs 2).toInt = 2) : TT K ly 108 29820 253 [(4, vI 0), (3, vR 107), (2, vR 73), (1, vR 0), (0, vR 2000)] [] H0_ := by
  refine TT_aload_n hK rfl 3 rfl dL_law_253 ?_
  refine TT_aload_n hK rfl 4 rfl dL_law_254 ?_
  refine TT_iload hK 0 rfl dL_law_255 ?_
  refine TT_iconst hK dL_law_257 ?_
  refine TT_iadd hK dL_law_258 ?_
  refine TT_cgI (b := 1) rfl ?_
  refine TT_sld hK hX (by decide) (by decide) (by decide) dL_law_259 ?_
  refine TT_cgI (b := (xs 1).toInt) rfl ?_
  rw [h1]
  refine TT_aload_n hK rfl 4 rfl dL_law_260 ?_
  refine TT_iload hK 0 rfl dL_law_261 ?_
  refine TT_iconst hK dL_law_263 ?_
  refine TT_iadd hK dL_law_264 ?_
  refine TT_cgI (b := 2) rfl ?_
  refine TT_sld hK hX (by decide) (by decide) (by decide) dL_law_265 ?_
  refine TT_cgI (b := (xs 2).toInt) rfl ?_
  rw [h2]
  refine TT_aload_n hK rfl 1 rfl dL_law_266 ?_
  refine TT_callH hK hT (y := yL_encode) (hh := [(0, 10, 13, 13)]) (As := [vR 0, vI 3, vI 2, vR 107]) (st := []) (n := 4) (w1 := ly) (mc := 1) (ms := 6) hp_encode_32 ⟨rfl, rfl⟩ ⟨by decide, by decide⟩ (gd_ (tb_3 91 rfl) rfl) ⟨by decide, by decide, by decide +kernel⟩ (List.forall_mem_cons.mpr ⟨(gd_ (tb_3 89 rfl) rfl), (List.forall_mem_cons.mpr ⟨(gd_ (tb_3 90 rfl) rfl), (List.forall_mem_cons.mpr ⟨(gd_ (tb_1 0 rfl) rfl), (fun _ z => absurd z List.not_mem_nil)⟩)⟩)⟩) rfl (Nat.zero_le _) rfl rfl (Nat.le_of_ble_eq_true rfl) ⟨by decide, Nat.le_of_ble_eq_true rfl⟩ dL_law_267 ?_
  intro r9 h9 hp9
  rw [hp9.1, hp9.2]
  show TT K ly 109 29826 270 [(4, vI 0), (3, vR 107), (2, vR 73), (1, vR 0), (0, vR 2000)] [vI 0] (up (tH Ne_47) 107 0 17)
  refine TT_istore hK (by decide) rfl dL_law_270 ?_
  show TT K ly 109 29826 272 [(5, vI 0), (4, vI 0), (3, vR 107), (2, vR 73), (1, vR 0), (0, vR 2000)] [] (up (tH Ne_47) 107 0 17)
  refine TT_aload_n hK rfl 3 rfl dL_law_272 ?_
  refine TT_aload_n hK rfl 5 rfl dL_law_273 ?_
  refine TT_iload hK 1 rfl dL_law_274 ?_
  refine TT_iconst hK dL_law_276 ?_
  refine TT_iadd hK dL_law_277 ?_
  refine TT_cgI (b := 1) rfl ?_
  refine TT_sld hK hX (by decide) (by decide) (by decide) dL_law_278 ?_
  refine TT_cgI (b := (xs 1).toInt) rfl ?_
  rw [h1]
  refine TT_aload_n hK rfl 5 rfl dL_law_279 ?_
  refine TT_iload hK 1 rfl dL_law_280 ?_
  refine TT_iconst hK dL_law_282 ?_
  refine TT_iadd hK dL_law_283 ?_
  refine TT_cgI (b := 2) rfl ?_
  refine TT_sld hK hX (by decide) (by decide) (by decide) dL_law_284 ?_
  refine TT_cgI (b := (xs 2).toInt) rfl ?_
  rw [h2]
  refine TT_hp (h' := (tG 73 107 (up (tH Ne_47) 107 0 17) Ne_24)) (tG_law (by decide +kernel)) ?_
  refine iv_L_52 hK (mcM_14 (rbe32 (h0 := (up (tH Ne_47) 107 0 17)))) (by decide) rfl ⟨by decide, by decide⟩ (Nat.zero_le _) rfl rfl (Nat.le_of_ble_eq_true rfl) ⟨by decide, Nat.le_of_ble_eq_true rfl⟩ dL_law_285 ?_
  intro r9 h9 hp9
  rw [hp9.1, hp9.2]
  show TT K ly 109 29826 288 [(5, vI 0), (4, vI 0), (3, vR 107), (2, vR 73), (1, vR 0), (0, vR 2000)] [vI 17] (tG 73 107 (up (tH Ne_47) 107 0 17) Ne_35)
  refine TT_istore hK (by decide) rfl dL_law_288 ?_
  show TT K ly 109 29826 290 [(6, vI 17), (5, vI 0), (4, vI 0), (3, vR 107), (2, vR 73), (1, vR 0), (0, vR 2000)] [] (tG 73 107 (up (tH Ne_47) 107 0 17) Ne_35)
  refine TT_aload_n hK rfl 4 rfl dL_law_290 ?_
  refine iv_L_37 hK (c_X12_thrown_73 (tG 73 107 (up (tH Ne_47) 107 0 17) Ne_35)) (by decide) rfl ⟨by decide, by decide⟩ (Nat.zero_le _) rfl rfl (Nat.le_of_ble_eq_true rfl) ⟨by decide, Nat.le_of_ble_eq_true rfl⟩ dL_law_291 ?_
  intro r9 h9 hp9
  rw [hp9.1, hp9.2]
  show TT K ly 109 29826 294 [(6, vI 17), (5, vI 0), (4, vI 0), (3, vR 107), (2, vR 73), (1, vR 0), (0, vR 2000)] [vI ((tG 73 107 (up (tH Ne_47) 107 0 17) Ne_35) 73 2)] (tG 73 107 (up (tH Ne_47) 107 0 17) Ne_35)
  refine TT_cgI (b := 0) (by show (if 73 ≤ 73 ∧ 73 < 107 then tH Ne_35 73 2 else _) = 0; rw [if_pos (by decide)]; decide +kernel) ?_
  refine TT_iload hK 1 rfl dL_law_294 ?_
  refine TT_icmp_eq hK (tgt := 301) (by decide) (by decide) dL_law_296 rfl (fun _ => ?_) (fun q => absurd rfl q)
  refine TT_iload hK 1 rfl dL_law_301 ?_
  refine TT_if_ne hK (tgt := 318) (by decide) dL_law_303 rfl (fun q => absurd q (by decide)) (fun _ => ?_)
  refine TT_aload_n hK rfl 3 rfl dL_law_306 ?_
  refine TT_iconst hK dL_law_307 ?_
  refine TT_lald hK (o := 107) (n := 1) (v := 17) (by decide) rfl (by decide) (by decide) (by show (if 73 ≤ 107 ∧ 107 < 107 then tH Ne_35 107 0 else (up (tH Ne_47) 107 0 17) 107 0) = 17; rw [if_neg (by decide)]; exact up_eq _ _ _ _) dL_law_308 ?_
  refine TT_iload hK 0 rfl dL_law_309 ?_
  refine TT_i2l hK (by decide) dL_law_311 ?_
  refine TT_lcmp hK (by decide) (by decide) dL_law_312 ?_
  refine TT_cgI (b := 0) (by decide) ?_
  refine TT_if_eq hK (tgt := 318) (by decide) dL_law_313 rfl (fun _ => ?_) (fun q => absurd rfl q)
  refine TT_goto hK (tgt := 674) dL_law_318 rfl ?_
  refine TT_sub [2, 6] rfl ?_
  exact J _ _ _ (by decide) (Nat.le_of_ble_eq_true rfl)
theorem law_c3_33 {K : TC_} {b : Nat} {xs : Nat → Int32} {hh0 : List (Nat × Nat × Nat × Nat)} (hK : TOk K RL code 7 ret room_1 0) (hX : TLX K b 4 xs) (hT : TH K hh0) (J : ∀ kc ks h, kc ≤ 115 → ks ≤ 29866 → TT K ly kc ks 674 [(4, vI 0), (0, vR 2000)] [] h) (h1 : (xs 1).toInt = 3) (h2 : (xs 2).toInt = 3) : TT K ly 108 29820 253 [(4, vI 0), (3, vR 107), (2, vR 73), (1, vR 0), (0, vR 2000)] [] H0_ := by
  refine TT_aload_n hK rfl 3 rfl dL_law_253 ?_
  refine TT_aload_n hK rfl 4 rfl dL_law_254 ?_
  refine TT_iload hK 0 rfl dL_law_255 ?_
  refine TT_iconst hK dL_law_257 ?_
  refine TT_iadd hK dL_law_258 ?_
  refine TT_cgI (b := 1) rfl ?_
  refine TT_sld hK hX (by decide) (by decide) (by decide) dL_law_259 ?_
  refine TT_cgI (b := (xs 1).toInt) rfl ?_
  rw [h1]
  refine TT_aload_n hK rfl 4 rfl dL_law_260 ?_
  refine TT_iload hK 0 rfl dL_law_261 ?_
  refine TT_iconst hK dL_law_263 ?_
  refine TT_iadd hK dL_law_264 ?_
  refine TT_cgI (b := 2) rfl ?_
  refine TT_sld hK hX (by decide) (by decide) (by decide) dL_law_265 ?_
  refine TT_cgI (b := (xs 2).toInt) rfl ?_
  rw [h2]
  refine TT_aload_n hK rfl 1 rfl dL_law_266 ?_
  refine TT_callH hK hT (y := yL_encode) (hh := [(0, 10, 13, 13)]) (As := [vR 0, vI 3, vI 3, vR 107]) (st := []) (n := 4) (w1 := ly) (mc := 1) (ms := 6) hp_encode_33 ⟨rfl, rfl⟩ ⟨by decide, by decide⟩ (gd_ (tb_3 91 rfl) rfl) ⟨by decide, by decide, by decide +kernel⟩ (List.forall_mem_cons.mpr ⟨(gd_ (tb_3 89 rfl) rfl), (List.forall_mem_cons.mpr ⟨(gd_ (tb_3 90 rfl) rfl), (List.forall_mem_cons.mpr ⟨(gd_ (tb_1 0 rfl) rfl), (fun _ z => absurd z List.not_mem_nil)⟩)⟩)⟩) rfl (Nat.zero_le _) rfl rfl (Nat.le_of_ble_eq_true rfl) ⟨by decide, Nat.le_of_ble_eq_true rfl⟩ dL_law_267 ?_
  intro r9 h9 hp9
  rw [hp9.1, hp9.2]
  show TT K ly 109 29826 270 [(4, vI 0), (3, vR 107), (2, vR 73), (1, vR 0), (0, vR 2000)] [vI 0] (up (tH Ne_48) 107 0 23)
  refine TT_istore hK (by decide) rfl dL_law_270 ?_
  show TT K ly 109 29826 272 [(5, vI 0), (4, vI 0), (3, vR 107), (2, vR 73), (1, vR 0), (0, vR 2000)] [] (up (tH Ne_48) 107 0 23)
  refine TT_aload_n hK rfl 3 rfl dL_law_272 ?_
  refine TT_aload_n hK rfl 5 rfl dL_law_273 ?_
  refine TT_iload hK 1 rfl dL_law_274 ?_
  refine TT_iconst hK dL_law_276 ?_
  refine TT_iadd hK dL_law_277 ?_
  refine TT_cgI (b := 1) rfl ?_
  refine TT_sld hK hX (by decide) (by decide) (by decide) dL_law_278 ?_
  refine TT_cgI (b := (xs 1).toInt) rfl ?_
  rw [h1]
  refine TT_aload_n hK rfl 5 rfl dL_law_279 ?_
  refine TT_iload hK 1 rfl dL_law_280 ?_
  refine TT_iconst hK dL_law_282 ?_
  refine TT_iadd hK dL_law_283 ?_
  refine TT_cgI (b := 2) rfl ?_
  refine TT_sld hK hX (by decide) (by decide) (by decide) dL_law_284 ?_
  refine TT_cgI (b := (xs 2).toInt) rfl ?_
  rw [h2]
  refine TT_hp (h' := (tG 73 107 (up (tH Ne_48) 107 0 23) Ne_24)) (tG_law (by decide +kernel)) ?_
  refine iv_L_52 hK (mcM_14 (rbe33 (h0 := (up (tH Ne_48) 107 0 23)))) (by decide) rfl ⟨by decide, by decide⟩ (Nat.zero_le _) rfl rfl (Nat.le_of_ble_eq_true rfl) ⟨by decide, Nat.le_of_ble_eq_true rfl⟩ dL_law_285 ?_
  intro r9 h9 hp9
  rw [hp9.1, hp9.2]
  show TT K ly 109 29826 288 [(5, vI 0), (4, vI 0), (3, vR 107), (2, vR 73), (1, vR 0), (0, vR 2000)] [vI 23] (tG 73 107 (up (tH Ne_48) 107 0 23) Ne_36)
  refine TT_istore hK (by decide) rfl dL_law_288 ?_
  show TT K ly 109 29826 290 [(6, vI 23), (5, vI 0), (4, vI 0), (3, vR 107), (2, vR 73), (1, vR 0), (0, vR 2000)] [] (tG 73 107 (up (tH Ne_48) 107 0 23) Ne_36)
  refine TT_aload_n hK rfl 4 rfl dL_law_290 ?_
  refine iv_L_37 hK (c_X12_thrown_73 (tG 73 107 (up (tH Ne_48) 107 0 23) Ne_36)) (by decide) rfl ⟨by decide, by decide⟩ (Nat.zero_le _) rfl rfl (Nat.le_of_ble_eq_true rfl) ⟨by decide, Nat.le_of_ble_eq_true rfl⟩ dL_law_291 ?_
  intro r9 h9 hp9
  rw [hp9.1, hp9.2]
  show TT K ly 109 29826 294 [(6, vI 23), (5, vI 0), (4, vI 0), (3, vR 107), (2, vR 73), (1, vR 0), (0, vR 2000)] [vI ((tG 73 107 (up (tH Ne_48) 107 0 23) Ne_36) 73 2)] (tG 73 107 (up (tH Ne_48) 107 0 23) Ne_36)
  refine TT_cgI (b := 0) (by show (if 73 ≤ 73 ∧ 73 < 107 then tH Ne_36 73 2 else _) = 0; rw [if_pos (by decide)]; decide +kernel) ?_
  refine TT_iload hK 1 rfl dL_law_294 ?_
  refine TT_icmp_eq hK (tgt := 301) (by decide) (by decide) dL_law_296 rfl (fun _ => ?_) (fun q => absurd rfl q)
  refine TT_iload hK 1 rfl dL_law_301 ?_
  refine TT_if_ne hK (tgt := 318) (by decide) dL_law_303 rfl (fun q => absurd q (by decide)) (fun _ => ?_)
  refine TT_aload_n hK rfl 3 rfl dL_law_306 ?_
  refine TT_iconst hK dL_law_307 ?_
  refine TT_lald hK (o := 107) (n := 1) (v := 23) (by decide) rfl (by decide) (by decide) (by show (if 73 ≤ 107 ∧ 107 < 107 then tH Ne_36 107 0 else (up (tH Ne_48) 107 0 23) 107 0) = 23; rw [if_neg (by decide)]; exact up_eq _ _ _ _) dL_law_308 ?_
  refine TT_iload hK 0 rfl dL_law_309 ?_
  refine TT_i2l hK (by decide) dL_law_311 ?_
  refine TT_lcmp hK (by decide) (by decide) dL_law_312 ?_
  refine TT_cgI (b := 0) (by decide) ?_
  refine TT_if_eq hK (tgt := 318) (by decide) dL_law_313 rfl (fun _ => ?_) (fun q => absurd rfl q)
  refine TT_goto hK (tgt := 674) dL_law_318 rfl ?_
  refine TT_sub [2, 6] rfl ?_
  exact J _ _ _ (by decide) (Nat.le_of_ble_eq_true rfl)
theorem law_c3 {K : TC_} {b : Nat} {xs : Nat → Int32} {hh0 : List (Nat × Nat × Nat × Nat)} (hK : TOk K RL code 7 ret room_1 0) (hX : TLX K b 4 xs) (hT : TH K hh0) (J : ∀ kc ks h, kc ≤ 115 → ks ≤ 29866 → TT K ly kc ks 674 [(4, vI 0), (0, vR 2000)] [] h) : TT K ly 108 29820 253 [(4, vI 0), (3, vR 107), (2, vR 73), (1, vR 0), (0, vR 2000)] [] H0_ := by
  by_cases hV : (0 ≤ (xs 1).toInt ∧ (xs 1).toInt ≤ 3) ∧ (1 ≤ (xs 2).toInt ∧ (xs 2).toInt ≤ 3)
  · have q1 : (xs 1).toInt = 0 ∨ (xs 1).toInt = 1 ∨ (xs 1).toInt = 2 ∨ (xs 1).toInt = 3 := by omega
    have q2 : (xs 2).toInt = 1 ∨ (xs 2).toInt = 2 ∨ (xs 2).toInt = 3 := by omega
    rcases q1 with q1 | q1 | q1 | q1 <;> rcases q2 with q2 | q2 | q2
    · exact law_c3_01 hK hX hT J q1 q2
    · exact law_c3_02 hK hX hT J q1 q2
    · exact law_c3_03 hK hX hT J q1 q2
    · exact law_c3_11 hK hX hT J q1 q2
    · exact law_c3_12 hK hX hT J q1 q2
    · exact law_c3_13 hK hX hT J q1 q2
    · exact law_c3_21 hK hX hT J q1 q2
    · exact law_c3_22 hK hX hT J q1 q2
    · exact law_c3_23 hK hX hT J q1 q2
    · exact law_c3_31 hK hX hT J q1 q2
    · exact law_c3_32 hK hX hT J q1 q2
    · exact law_c3_33 hK hX hT J q1 q2
  · exact law_c3x hK hX hT J hV
theorem law_body {K : TC_} {b L : Nat} {xs : Nat → Int32} {hh0 : List (Nat × Nat × Nat × Nat)} (hL : L ≤ 4) (hK : TOk K RL code 7 ret room_1 0) (hX : TLX K b L xs) (hT : TH K hh0) : TT K ly 108 29820 23 [(4, vI 0), (3, vR 107), (2, vR 73), (1, vR 0), (0, vR 2000)] [] H0_ := by
  have fin : ∀ kc ks lv h, kc ≤ 115 → ks ≤ 29866 → TT K ly kc ks 680 lv [] h := by
    intro kc ks lv h h1 h2
    refine TT_iconst hK dL_law_680 ?_
    exact TT_lend hK hX h1 h2 dL_law_681
  refine TT_iload hK 0 rfl dL_law_23 ?_
  refine TT_aload_n hK rfl 4 rfl dL_law_25 ?_
  refine TT_slen hK hX dL_law_26 ?_
  refine TT_iconst hK dL_law_27 ?_
  refine TT_isub hK dL_law_28 ?_
  refine TT_icmp_gt hK (tgt := 680) (by decide) (irm (by omega) (by omega)) dL_law_29 rfl (fun _ => fin _ _ _ _ (by decide) (Nat.le_of_ble_eq_true rfl)) (fun hq => ?_)
  have hL4 : L = 4 := by omega
  subst hL4
  have J : ∀ kc ks h, kc ≤ 115 → ks ≤ 29866 → TT K ly kc ks 674 [(4, vI 0), (0, vR 2000)] [] h := by
    intro kc ks h h1 h2
    refine TT_iinc hK 0 rfl (v := 4) rfl (by decide) rfl dL_law_674 ?_
    refine TT_goto hK (tgt := 23) dL_law_677 rfl ?_
    refine TT_iload hK 0 rfl dL_law_23 ?_
    refine TT_aload_n hK rfl 1 rfl dL_law_25 ?_
    refine TT_slen hK hX dL_law_26 ?_
    refine TT_iconst hK dL_law_27 ?_
    refine TT_isub hK dL_law_28 ?_
    exact TT_icmp_gt hK (tgt := 680) (by decide) (by decide) dL_law_29 rfl (fun _ => fin _ _ _ _ h1 h2) (fun q => absurd q (by decide))
  refine TT_aload_n hK rfl 4 rfl dL_law_32 ?_
  refine TT_iload hK 0 rfl dL_law_33 ?_
  refine TT_sld hK hX (by decide) (by decide) (by decide) dL_law_35 ?_
  refine TT_bipush hK (by decide) dL_law_36 ?_
  refine TT_iand hK dL_law_38 ?_
  generalize hz : iand_ (xs (0 : Int).toNat).toInt 15 = z
  have hz2 : ir_ z := by rw [← hz]; exact ir_and _ _
  refine TT_table hK hz2 dL_law_39 (fun _ => ⟨674, rfl, ?_⟩) (fun h0 h1 => ?_)
  · refine TT_sub [0, 4] rfl ?_
    exact J _ _ _ (by decide) (Nat.le_of_ble_eq_true rfl)
  · have hq : z = 0 ∨ z = 1 ∨ z = 2 ∨ z = 3 ∨ z = 4 ∨ z = 5 ∨ z = 6 ∨ z = 7 ∨ z = 8 ∨ z = 9 ∨ z = 10 ∨ z = 11 ∨ z = 12 ∨ z = 13 := by omega
    rcases hq with h | h | h | h | h | h | h | h | h | h | h | h | h | h
    · rw [h]; exact ⟨69, 108, rfl, rfl, law_c0 hK hX hT J⟩
    · rw [h]; exact ⟨117, 156, rfl, rfl, law_c1 hK hX hT J⟩
    · rw [h]; exact ⟨177, 216, rfl, rfl, law_c2 hK hX hT J⟩
    · rw [h]; exact ⟨214, 253, rfl, rfl, law_c3 hK hX hT J⟩
    · rw [h]; exact ⟨282, 321, rfl, rfl, law_c4 hK hX hT J⟩
    · rw [h]; exact ⟨307, 346, rfl, rfl, law_c5 hK hX hT J⟩
    · rw [h]; exact ⟨344, 383, rfl, rfl, law_c6 hK hX hT J⟩
    · rw [h]; exact ⟨381, 420, rfl, rfl, law_c7 hK hX hT J⟩
    · rw [h]; exact ⟨430, 469, rfl, rfl, law_c8 hK hX hT J⟩
    · rw [h]; exact ⟨467, 506, rfl, rfl, law_c9 hK hX hT J⟩
    · rw [h]; exact ⟨504, 543, rfl, rfl, law_c10 hK hX hT J⟩
    · rw [h]; exact ⟨560, 599, rfl, rfl, law_c11 hK hX hT J⟩
    · rw [h]; exact ⟨597, 636, rfl, rfl, law_c12 hK hX hT J⟩
    · rw [h]; exact ⟨622, 661, rfl, rfl, law_c13 hK hX hT J⟩
theorem law_walk {K : TC_} {b L : Nat} {xs : Nat → Int32} {hh0 : List (Nat × Nat × Nat × Nat)} (hL : L ≤ 4) (hK : TOk K RL code 7 ret room_1 0) (hX : TLX K b L xs) (hT : TH K hh0) : TT K (0, rL lz_0) 0 0 0 [(0, vR 2000)] [] HZ := by
  refine TT_new hK (ci := 10) (N := 5) (C := RX11) (T := TX11) rfl uin_11 tyX11_ok (gd_ (tb_1 20 rfl) rfl) (gd_ (tb_1 21 rfl) rfl) (gd_ (tb_1 1 rfl) rfl) (by decide) rfl rfl (by decide +kernel) (fun _ => rfl) (by decide +kernel) (Nat.zero_le _) (by decide) rfl rfl (by decide) (Nat.le_of_ble_eq_true rfl) dL_law_0 ?_
  show TT K (1, rL lz_0) 1 5 3 [(0, vR 2000)] [vR 0] HZ
  refine TT_dup hK rfl dL_law_3 ?_
  refine TT_callI hK ci_0 (As := []) (n := 0) (w1 := (73, rL lz_74)) (mc := 72) (ms := 9330) ⟨rfl, rfl⟩ ⟨by decide, by decide⟩ (gd_ (tb_1 24 rfl) rfl) ⟨by decide, by decide, by decide +kernel⟩ rfl (List.forall_mem_cons.mpr ⟨(gd_ (tb_1 22 rfl) rfl), (List.forall_mem_cons.mpr ⟨(gd_ (tb_1 23 rfl) rfl), (List.forall_mem_cons.mpr ⟨(gd_ (tb_1 1 rfl) rfl), (fun _ z => absurd z List.not_mem_nil)⟩)⟩)⟩) rfl (Nat.zero_le _) rfl rfl (Nat.le_of_ble_eq_true rfl) ⟨by decide, Nat.le_of_ble_eq_true rfl⟩ dL_law_4 ?_
  intro r9 h9 hp9
  rw [hp9.1, hp9.2]
  show TT K (73, rL lz_74) 73 9335 7 [(0, vR 2000)] [vR 0] (tH Nm_0)
  refine TT_astore_n hK rfl (by decide) rfl dL_law_7 ?_
  refine TT_new hK (ci := 11) (N := 56) (C := RX12) (T := TX12) rfl uin_12 tyX12_ok (gd_ (tb_5 47 rfl) rfl) (gd_ (tb_5 48 rfl) rfl) (gd_ (tb_1 13 rfl) rfl) (by decide) rfl rfl (by decide +kernel) (fun j => tH_gz (b := 758) (by decide +kernel) (adr_ge (Nat.le_of_ble_eq_true (by decide +kernel)) (by decide)) j) (by decide +kernel) (Nat.zero_le _) (by decide) rfl rfl (by decide) (Nat.le_of_ble_eq_true rfl) dL_law_8 ?_
  show TT K (74, rL lz_74) 74 9391 11 [(1, vR 0), (0, vR 2000)] [vR 73] (tH Nm_0)
  refine TT_dup hK rfl dL_law_11 ?_
  refine TT_callI hK ci_73 (As := []) (n := 0) (w1 := (107, rL lz_107)) (mc := 33) (ms := 20428) ⟨rfl, rfl⟩ ⟨by decide, by decide⟩ (gd_ (tb_5 51 rfl) rfl) ⟨by decide, by decide, by decide +kernel⟩ rfl (List.forall_mem_cons.mpr ⟨(gd_ (tb_5 49 rfl) rfl), (List.forall_mem_cons.mpr ⟨(gd_ (tb_5 50 rfl) rfl), (List.forall_mem_cons.mpr ⟨(gd_ (tb_1 13 rfl) rfl), (fun _ z => absurd z List.not_mem_nil)⟩)⟩)⟩) rfl (Nat.zero_le _) rfl rfl (Nat.le_of_ble_eq_true rfl) ⟨by decide, Nat.le_of_ble_eq_true rfl⟩ dL_law_12 ?_
  intro r9 h9 hp9
  rw [hp9.1, hp9.2]
  show TT K (107, rL lz_107) 107 29819 15 [(1, vR 0), (0, vR 2000)] [vR 73] (tH Nm_96)
  refine TT_astore_n hK rfl (by decide) rfl dL_law_15 ?_
  refine TT_iconst hK dL_law_16 ?_
  refine TT_newa hK (t := 14) (N := 1) (ty := .long) rfl (gd_ (tb_7 55 rfl) rfl) (by decide) rfl (fun j => tH_gz (b := 1341) (by decide +kernel) (adr_ge (Nat.le_of_ble_eq_true (by decide +kernel)) (by decide)) j) (by decide +kernel) (Nat.zero_le _) (by decide) (by decide) (by decide) (by decide) rfl rfl (by decide) (Nat.le_of_ble_eq_true rfl) dL_law_17 ?_
  show TT K (108, rL lz_107) 108 29820 19 [(2, vR 73), (1, vR 0), (0, vR 2000)] [vR 107] (tH Nm_96)
  refine TT_ly lz_full fn_64 ?_
  refine TT_hp (congrArg tH N0_e) ?_
  refine TT_astore_n hK rfl (by decide) rfl dL_law_19 ?_
  refine TT_iconst hK dL_law_20 ?_
  refine TT_istore hK (by decide) rfl dL_law_21 ?_
  exact law_body hL hK hX hT

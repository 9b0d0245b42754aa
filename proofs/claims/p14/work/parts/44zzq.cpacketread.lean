abbrev PS_ := Int × Int × (Int → Int) × (Int → Int) × (Int → Int)
/-- an equation of numbers that no tactic looks into -/
def EQI (a b : Int) : Prop := a = b
/-- an implication that no tactic splits -/
def IMQ (p q : Prop) : Prop := p → q
theorem EQI_0 {a b c : Int} (h : EQI a b) (e : a = c) : EQI c b := e ▸ h
theorem EQI_n {a b c : Int} (h : EQI a b) (e : a ≠ c) : b ≠ c := fun q => e (Eq.trans h q)
theorem EQI_y {a b c : Int} (h : EQI a b) (e : a = c) : b = c := Eq.trans (Eq.symm h) e
def smS (C : Int → Int) (f : Int) : Nat → Int
  | 0 => 0
  | k + 1 => smS C f k + C (f + (k : Int))
def paX (n f : Int) (m : Nat) (H : HS_) (s : PS_) : PS_ := if H.1 ≠ 0 then (H.1, s.2) else if n - (H.2.1 + 7) / 8 < smS H.2.2.2.2.2 f m then (1, s.2) else (0, 8 * ((H.2.1 + 7) / 8 + smS H.2.2.2.2.2 f m), H.2.2.1, (fun j => if f ≤ j ∧ j < f + (m : Int) then s.2.2.2.1 j + H.2.2.2.2.1 j else s.2.2.2.1 j), H.2.2.2.1)
def paS (o : Int → Int) (n : Int) (wd hd : Int → Int) (f : Int) (m : Nat) (s : PS_) : PS_ := paX n f m (hdP o (8 * n) wd hd s.2.2.2.1 f m s.2.1 s.2.2.1 s.2.2.2.2) s
theorem smS_s {C : Int → Int} {f b : Int} (hb : f ≤ b) : smS C f (b + 1 - f).toNat = smS C f (b - f).toNat + C b := by
  rw [show (b + 1 - f).toNat = (b - f).toNat + 1 by omega]
  show smS C f (b - f).toNat + C (f + ((b - f).toNat : Int)) = _
  rw [show f + ((b - f).toNat : Int) = b by omega]
theorem smS_cg {C D : Int → Int} {f : Int} : ∀ k : Nat, (∀ j : Int, f ≤ j → j < f + (k : Int) → C j = D j) → smS C f k = smS D f k
  | 0, _ => rfl
  | k + 1, h => by
    show smS C f k + C (f + (k : Int)) = smS D f k + D (f + (k : Int))
    rw [smS_cg k (fun j j0 j1 => h j j0 (by omega)), h _ (by omega) (by omega)]
theorem paX_1 {n f : Int} {m : Nat} {H : HS_} {s : PS_} (h : H.1 ≠ 0) : paX n f m H s = (H.1, s.2) := if_pos h
theorem paX_2 {n f : Int} {m : Nat} {H : HS_} {s : PS_} (h : H.1 = 0) (h2 : n - (H.2.1 + 7) / 8 < smS H.2.2.2.2.2 f m) : paX n f m H s = (1, s.2) := by
  unfold paX
  rw [if_neg (fun q => q h), if_pos h2]
theorem paX_3 {n f : Int} {m : Nat} {H : HS_} {s : PS_} (h : H.1 = 0) (h2 : ¬ n - (H.2.1 + 7) / 8 < smS H.2.2.2.2.2 f m) : paX n f m H s = (0, 8 * ((H.2.1 + 7) / 8 + smS H.2.2.2.2.2 f m), H.2.2.1, (fun j => if f ≤ j ∧ j < f + (m : Int) then s.2.2.2.1 j + H.2.2.2.2.1 j else s.2.2.2.1 j), H.2.2.2.1) := by
  unfold paX
  rw [if_neg (fun q => q h), if_neg h2]
/-- the cells behind a packet -/
def PRQ (p5 f t : Int) (c53 c54 c55 : Int → Int) (s : PS_) : Prop := p5 = s.2.1 ∧ ∀ j : Int, f ≤ j → j < t → (c54 j ≠ 0 → c53 j = s.2.2.1 j) ∧ c54 j = s.2.2.2.1 j ∧ c55 j = s.2.2.2.2 j
set_option maxRecDepth 20000 in
theorem s_takePacket_e (o9 P9 W9 : Int → Int) (n r : Int) (h : Hp_) (hT : TY h) (hn : -2147483648 ≤ n ∧ n ≤ 2147483647) (hr : 0 ≤ r ∧ r ≤ 3) (ho : ∀ j : Int, 0 ≤ j → j < (h 5 1) → (h 6) j = o9 j) (hp : (0 ≤ (h 5 3) ∧ (h 5 3) ≤ (h 5 4)) ∧ (h 5 4) ≤ 8 * (h 5 1)) (hwb : ∀ j : Int, 0 ≤ j → j < 10 → (3 ≤ (h 55) j ∧ (h 55) j ≤ 3 + (h 5 3)) ∧ (0 ≤ (h 54) j ∧ (h 54) j ≤ 34)) (h5n : (h 5 4) = 8 * n ∧ n ≤ 1024) (hpr : ∀ j : Int, FS r ≤ j → j < 3 * r + 1 → ((h 54) j ≠ 0 → (h 53) j = P9 j) ∧ (h 55) j = W9 j) : Ctr yX10_takePacket cX10_takePacket 8 (some .int) (rmd 5) ly ly 0 0 [vR 44, vR 5, vI n, vI r] h (fun rz h' => (TY h' ∧ FR [5, 53, 54, 55, 56, 57, 58, 59, 60] h h') ∧ ∃ z : Int, rz = some (vI z) ∧ (-1 ≤ z ∧ z ≤ 1) ∧ (EQI z (paS o9 n (h 49) (h 50) (FS r) (3 * r + 1 - FS r).toNat (0, (h 5 3), P9, (h 54), W9)).1) ∧ (IMQ (z = 0) (PRQ (h' 5 3) (FS r) (3 * r + 1) (h' 53) (h' 54) (h' 55) (paS o9 n (h 49) (h 50) (FS r) (3 * r + 1 - FS r).toNat (0, (h 5 3), P9, (h 54), W9)))) ∧ (IMQ (z = 0) (((h' 5 4) = (h 5 4) ∧ (h' 5 1) = (h 5 1)) ∧ (0 ≤ (h' 5 3) ∧ (h' 5 3) ≤ (h' 5 4)))) ∧ ((h' 5 1) = (h 5 1)) ∧ (IMQ (z ≠ 0) ((h' 54) = (h 54))) ∧ (∀ j : Int, (j < FS r ∨ 3 * r + 1 ≤ j) → (h' 53) j = (h 53) j ∧ (h' 54) j = (h 54) j ∧ (h' 55) j = (h 55) j) ∧ (IMQ (z = 0) (∀ j : Int, 0 ≤ j → j < 10 → (3 ≤ (h' 55) j ∧ (h' 55) j ≤ 3 + (h' 5 3)) ∧ (0 ≤ (h' 54) j ∧ (h' 54) j ≤ 34)))) := by
  refine Ctr_of (by decide) (Nat.le_of_ble_eq_true rfl) ⟨Nat.le_refl _, Nat.le_refl _⟩ (fun K hK hQ _ => ?_)
  show TT K ly 0 0 0 [(0, vR 44), (1, vR 5), (2, vI n), (3, vI r)] [] h
  have hF : FR [5, 53, 54, 55, 56, 57, 58, 59, 60] h h := FR_rf _ _
  have hfs := FS_r (r := r) (by omega)
  have h5n8 : h 5 4 = 8 * n := h5n.1
  refine TT_aload_n hK rfl 0 rfl dX10_takePacket_0 ?_
  refine TT_aload_n hK rfl 1 rfl dX10_takePacket_1 ?_
  refine TT_iload_n hK rfl 3 rfl dX10_takePacket_2 ?_
  have e1_5_1 : h 5 1 = (h 5) 1 := rfl
  have e2_5_1 : h 5 1 = (h 5) 1 := rfl
  have e3_5_3 : h 5 3 = (h 5) 3 := rfl
  have e4_5_4 : h 5 4 = (h 5) 4 := rfl
  have e5_5_3 : h 5 3 = (h 5) 3 := rfl
  have e6_5_4 : h 5 4 = (h 5) 4 := rfl
  refine iv_X10_101 hK (s_readHead_e o9 P9 W9 r h hT (by first | omega | (simp [up, setR] <;> omega)) (by rewrite [e1_5_1]; first | assumption | (intro j j0 j1; exact ho j j0 (by omega))) (by rewrite [e2_5_1, e3_5_3, e4_5_4]; first | omega | (simp [up, setR] <;> omega)) (by rewrite [e5_5_3]; first | assumption | exact hwb) (by rewrite [e6_5_4]; first | omega | (simp [up, setR] <;> omega)) (by exact hpr)) (by decide) rfl ⟨by decide, by decide⟩ (by decide) rfl rfl (Nat.le_of_ble_eq_true rfl) ⟨by decide, by decide⟩ dX10_takePacket_3 ?_
  intro r9 g3_7 hp9
  obtain ⟨⟨hT_7, hG_7⟩, z3_7, hr9, hz_7, hd_7, hr_7, k5_7, ko_7, kw_7, kg_7⟩ := hp9
  rw [hr9]
  have hF_7 : FR [5, 53, 54, 55, 56, 57, 58, 59, 60] h g3_7 := FR_tr hF hG_7 (by decide)
  rw [show h 5 3 = (h 5) 3 from rfl] at hd_7
  rw [show h 5 4 = (h 5) 4 from rfl] at hd_7
  rw [show h 5 3 = (h 5) 3 from rfl] at hr_7
  rw [show h 5 4 = (h 5) 4 from rfl] at hr_7
  rw [show h 5 1 = (h 5) 1 from rfl] at k5_7
  rw [show h 5 3 = (h 5) 3 from rfl] at k5_7
  rw [show h 5 4 = (h 5) 4 from rfl] at k5_7
  have hd_at3 := hd_7
  have hr_at3 := hr_7
  have k5_at3 := k5_7
  have ko_at3 := ko_7
  have kw_at3 := kw_7
  have kg_at3 := kg_7
  show TT K ly 0 0 6 [(0, vR 44), (1, vR 5), (2, vI n), (3, vI r)] [vI z3_7] g3_7
  have hd9 := hd_at3
  rw [h5n8] at hd9
  have hr9 := hr_at3
  rw [h5n8] at hr9
  refine TT_istore hK (lv' := [(4, vI z3_7), (0, vR 44), (1, vR 5), (2, vI n), (3, vI r)]) (by decide) rfl dX10_takePacket_6 ?_
  refine TT_iload hK 0 rfl dX10_takePacket_8 ?_
  refine TT_if_eq hK (tgt := 16) (irm (by omega) (by omega)) dX10_takePacket_10 (by decide) (fun hb10_8 => ?_) (fun hb10_8 => ?_)
  · have z0 : z3_7 = 0 := by omega
    have hq9 := hr9 z0
    have kw8 := kw_at3 z0
    have kg8 := kg_at3 z0
    have H0 : (hdP o9 (8 * n) (h 49) (h 50) (h 54) (FS r) (3 * r + 1 - FS r).toNat (h 5 3) P9 W9).1 = 0 := by rw [← hd9]; exact z0
    have hd2 : (0 ≤ (hdP o9 (8 * n) (h 49) (h 50) (h 54) (FS r) (3 * r + 1 - FS r).toNat (h 5 3) P9 W9).2.1 ∧ h 5 3 ≤ (hdP o9 (8 * n) (h 49) (h 50) (h 54) (FS r) (3 * r + 1 - FS r).toNat (h 5 3) P9 W9).2.1) ∧ (hdP o9 (8 * n) (h 49) (h 50) (h 54) (FS r) (3 * r + 1 - FS r).toNat (h 5 3) P9 W9).2.1 ≤ 8 * n := by
        rw [← hq9.2.1]
        omega
    refine TT_aload_n hK rfl 2 rfl dX10_takePacket_16 ?_
    have e9_5_3 : g3_7 5 3 = (g3_7 5) 3 := rfl
    refine iv_X10_105 hK (s_byteBehind5_e g3_7 hT_7 (by rewrite [e9_5_3]; first | omega | (simp [up, setR] <;> omega))) (by decide) rfl ⟨by decide, by decide⟩ (by decide) rfl rfl (Nat.le_of_ble_eq_true rfl) ⟨by decide, by decide⟩ dX10_takePacket_17 ?_
    intro r9 g17_10 hp9
    obtain ⟨⟨hT_10, hG_10⟩, z17_10, hr9, hz_10, bb_10⟩ := hp9
    rw [hr9]
    have hF_10 : FR [5, 53, 54, 55, 56, 57, 58, 59, 60] h g17_10 := FR_tr hF_7 hG_10 (by decide)
    rw [show g3_7 5 3 = (g3_7 5) 3 from rfl] at bb_10
    have bb_at17 := bb_10
    show TT K ly 0 0 20 [(4, vI z3_7), (0, vR 44), (1, vR 5), (2, vI n), (3, vI r)] [vI z17_10] g17_10
    refine TT_cgI (b := (((hdP o9 (8 * n) (h 49) (h 50) (h 54) (FS r) (3 * r + 1 - FS r).toNat (h 5 3) P9 W9).2.1 + 7) / 8)) (by rw [bb_at17, hq9.2.1]) ?_
    refine TT_istore hK (lv' := [(5, vI (((hdP o9 (8 * n) (h 49) (h 50) (h 54) (FS r) (3 * r + 1 - FS r).toNat (h 5 3) P9 W9).2.1 + 7) / 8)), (4, vI z3_7), (0, vR 44), (1, vR 5), (2, vI n), (3, vI r)]) (by decide) rfl dX10_takePacket_20 ?_
    refine TT_iconst hK dX10_takePacket_22 ?_
    refine TT_istore hK (lv' := [(6, vI 0), (5, vI (((hdP o9 (8 * n) (h 49) (h 50) (h 54) (FS r) (3 * r + 1 - FS r).toNat (h 5 3) P9 W9).2.1 + 7) / 8)), (4, vI z3_7), (0, vR 44), (1, vR 5), (2, vI n), (3, vI r)]) (by decide) rfl dX10_takePacket_23 ?_
    refine TT_iload_n hK rfl 6 rfl dX10_takePacket_25 ?_
    refine iv_X10_109 hK (s_firstBandOf_e r g17_10 hT_10 (by first | omega | (simp [up, setR] <;> omega))) ⟨by decide, by decide⟩ (by decide) rfl rfl (Nat.le_of_ble_eq_true rfl) ⟨by decide, by decide⟩ dX10_takePacket_26 ?_
    intro r9 g26_11 hp9
    obtain ⟨⟨hT_11, hG_11⟩, z26_11, hr9, hz_11, fb_11⟩ := hp9
    rw [hr9]
    have hF_11 : FR [5, 53, 54, 55, 56, 57, 58, 59, 60] h g26_11 := FR_tr hF_10 hG_11 (by decide)
    have fb_at26 := fb_11
    show TT K ly 0 0 29 [(6, vI 0), (5, vI (((hdP o9 (8 * n) (h 49) (h 50) (h 54) (FS r) (3 * r + 1 - FS r).toNat (h 5 3) P9 W9).2.1 + 7) / 8)), (4, vI z3_7), (0, vR 44), (1, vR 5), (2, vI n), (3, vI r)] [vI z26_11] g26_11
    refine TT_cgI (b := FS r) (by exact fb_at26) ?_
    refine TT_istore hK (lv' := [(7, vI (FS r)), (6, vI 0), (5, vI (((hdP o9 (8 * n) (h 49) (h 50) (h 54) (FS r) (3 * r + 1 - FS r).toNat (h 5 3) P9 W9).2.1 + 7) / 8)), (4, vI z3_7), (0, vR 44), (1, vR 5), (2, vI n), (3, vI r)]) (by decide) rfl dX10_takePacket_29 ?_
    have L31_12 : ∀ (k12 : Nat) (sm : Int) (b1 : Int) (C53 : Int → Int) (C55 : Int → Int) (C56 : Int → Int) (C57 : Int → Int) (w31_12 : Hp_), TY w31_12 → FR [5, 53, 54, 55, 56, 57, 58, 59, 60] h w31_12 → (0 ≤ b1 ∧ b1 ≤ 10) → (FS r ≤ b1 ∧ b1 ≤ 3 * r + 1) → ((w31_12 53) = C53) → ((w31_12 55) = C55) → ((w31_12 56) = C56) → ((w31_12 57) = C57) → ((w31_12 54) = h 54) → ((w31_12 5 4) = 8 * n ∧ (w31_12 5 1) = h 5 1) → (HRQ (hdP o9 (8 * n) (h 49) (h 50) (h 54) (FS r) (3 * r + 1 - FS r).toNat (h 5 3) P9 W9).2.1 (FS r) (3 * r + 1) (h 54) C53 C55 C56 C57 (hdP o9 (8 * n) (h 49) (h 50) (h 54) (FS r) (3 * r + 1 - FS r).toNat (h 5 3) P9 W9)) → (∀ j : Int, 0 ≤ j → j < 10 → (3 ≤ C55 j ∧ C55 j ≤ 3 + (hdP o9 (8 * n) (h 49) (h 50) (h 54) (FS r) (3 * r + 1 - FS r).toNat (h 5 3) P9 W9).2.1)) → (∀ j : Int, FS r ≤ j → j < 3 * r + 1 → (0 ≤ C56 j ∧ h 54 j + C56 j ≤ 34) ∧ (0 ≤ C57 j ∧ C57 j ≤ 1048576)) → (∀ j : Int, (j < FS r ∨ 3 * r + 1 ≤ j) → C53 j = h 53 j ∧ C55 j = h 55 j) → (sm = smS C57 (FS r) (b1 - FS r).toNat ∧ 0 ≤ sm ∧ sm ≤ 1048576 * (b1 - FS r)) → ((10 : Int) - b1).toNat < k12 → TT K ly 0 0 31 [(0, vR 44), (1, vR 5), (2, vI n), (3, vI r), (4, vI z3_7), (5, vI (((hdP o9 (8 * n) (h 49) (h 50) (h 54) (FS r) (3 * r + 1 - FS r).toNat (h 5 3) P9 W9).2.1 + 7) / 8)), (6, vI sm), (7, vI b1)] [] w31_12 := by
      intro k12
      induction k12 with
      | zero => intro sm b1 C53 C55 C56 C57 w31_12 hT31_12 hF31_12 hb1 hb_b1 q53 q55 q56 q57 k54 k5i hRc kwc kgc koc hsm9 hk12; exact absurd hk12 (Nat.not_lt_zero _)
      | succ k12 ih12 =>
        intro sm b1 C53 C55 C56 C57 w31_12 hT31_12 hF31_12 hb1 hb_b1 q53 q55 q56 q57 k54 k5i hRc kwc kgc koc hsm9 hk12
        refine TT_iload hK 7 rfl dX10_takePacket_31 ?_
        refine TT_iload_n hK rfl 3 rfl dX10_takePacket_33 ?_
        refine iv_X10_112 hK (s_lastBandOf_e r w31_12 hT31_12 (by first | omega | (simp [up, setR] <;> omega))) ⟨by decide, by decide⟩ (by decide) rfl rfl (Nat.le_of_ble_eq_true rfl) ⟨by decide, by decide⟩ dX10_takePacket_34 ?_
        intro r9 g34_13 hp9
        obtain ⟨⟨hT_13, hG_13⟩, z34_13, hr9, hz_13, lb_13⟩ := hp9
        rw [hr9]
        have hF_13 : FR [5, 53, 54, 55, 56, 57, 58, 59, 60] h g34_13 := FR_tr hF31_12 hG_13 (by decide)
        have lb_at34 := lb_13
        show TT K ly 0 0 37 [(0, vR 44), (1, vR 5), (2, vI n), (3, vI r), (4, vI z3_7), (5, vI (((hdP o9 (8 * n) (h 49) (h 50) (h 54) (FS r) (3 * r + 1 - FS r).toNat (h 5 3) P9 W9).2.1 + 7) / 8)), (6, vI sm), (7, vI b1)] [vI z34_13, vI b1] g34_13
        refine TT_cgI (b := 3 * r) (by exact lb_at34) ?_
        refine TT_icmp_gt hK (tgt := 58) (irm (by omega) (by omega)) (irm (by omega) (by omega)) dX10_takePacket_37 (by decide) (fun hb37_14 => ?_) (fun hb37_14 => ?_)
        · have b13 : b1 = 3 * r + 1 := by omega
          have hsm8 := hsm9
          rw [b13] at hsm8
          have esm : smS C57 (FS r) (3 * r + 1 - FS r).toNat = smS (hdP o9 (8 * n) (h 49) (h 50) (h 54) (FS r) (3 * r + 1 - FS r).toNat (h 5 3) P9 W9).2.2.2.2.2 (FS r) (3 * r + 1 - FS r).toNat := smS_cg _ (fun j j0 j1 => (hRc.2.2 j j0 (by omega)).2.2.2)
          refine TT_iload hK 6 rfl dX10_takePacket_58 ?_
          refine TT_iload_n hK rfl 2 rfl dX10_takePacket_60 ?_
          refine TT_iload hK 5 rfl dX10_takePacket_61 ?_
          refine TT_isub hK dX10_takePacket_63 ?_
          refine TT_icmp_le hK (tgt := 69) (irm (by omega) (by omega)) (irm (by omega) (by omega)) dX10_takePacket_64 (by decide) (fun hb64_15 => ?_) (fun hb64_15 => ?_)
          · have fin9 : (paS o9 n (h 49) (h 50) (FS r) (3 * r + 1 - FS r).toNat (0, h 5 3, P9, h 54, W9)) = (0, 8 * ((((hdP o9 (8 * n) (h 49) (h 50) (h 54) (FS r) (3 * r + 1 - FS r).toNat (h 5 3) P9 W9).2.1 + 7) / 8) + smS (hdP o9 (8 * n) (h 49) (h 50) (h 54) (FS r) (3 * r + 1 - FS r).toNat (h 5 3) P9 W9).2.2.2.2.2 (FS r) (3 * r + 1 - FS r).toNat), (hdP o9 (8 * n) (h 49) (h 50) (h 54) (FS r) (3 * r + 1 - FS r).toNat (h 5 3) P9 W9).2.2.1, (fun j => if FS r ≤ j ∧ j < FS r + ((3 * r + 1 - FS r).toNat : Int) then h 54 j + (hdP o9 (8 * n) (h 49) (h 50) (h 54) (FS r) (3 * r + 1 - FS r).toNat (h 5 3) P9 W9).2.2.2.2.1 j else h 54 j), (hdP o9 (8 * n) (h 49) (h 50) (h 54) (FS r) (3 * r + 1 - FS r).toNat (h 5 3) P9 W9).2.2.2.1) := by
                show paX n (FS r) (3 * r + 1 - FS r).toNat (hdP o9 (8 * n) (h 49) (h 50) (h 54) (FS r) (3 * r + 1 - FS r).toNat (h 5 3) P9 W9) ((0, h 5 3, P9, h 54, W9) : PS_) = _
                exact paX_3 H0 (by rw [← esm]; omega)
            refine TT_iload_n hK rfl 3 rfl dX10_takePacket_69 ?_
            refine iv_X10_109 hK (s_firstBandOf_e r g34_13 hT_13 (by first | omega | (simp [up, setR] <;> omega))) ⟨by decide, by decide⟩ (by decide) rfl rfl (Nat.le_of_ble_eq_true rfl) ⟨by decide, by decide⟩ dX10_takePacket_70 ?_
            intro r9 g70_16 hp9
            obtain ⟨⟨hT_16, hG_16⟩, z70_16, hr9, hz_16, fb_16⟩ := hp9
            rw [hr9]
            have hF_16 : FR [5, 53, 54, 55, 56, 57, 58, 59, 60] h g70_16 := FR_tr hF_13 hG_16 (by decide)
            have fb_at70 := fb_16
            show TT K ly 0 0 73 [(0, vR 44), (1, vR 5), (2, vI n), (3, vI r), (4, vI z3_7), (5, vI (((hdP o9 (8 * n) (h 49) (h 50) (h 54) (FS r) (3 * r + 1 - FS r).toNat (h 5 3) P9 W9).2.1 + 7) / 8)), (6, vI sm), (7, vI b1)] [vI z70_16] g70_16
            refine TT_cgI (b := FS r) (by exact fb_at70) ?_
            refine TT_istore hK (lv' := [(7, vI (FS r)), (0, vR 44), (1, vR 5), (2, vI n), (3, vI r), (4, vI z3_7), (5, vI (((hdP o9 (8 * n) (h 49) (h 50) (h 54) (FS r) (3 * r + 1 - FS r).toNat (h 5 3) P9 W9).2.1 + 7) / 8)), (6, vI sm)]) (by decide) rfl dX10_takePacket_73 ?_
            have L75_17 : ∀ (k17 : Nat) (st9 : Int) (b2 : Int) (w75_17 : Hp_), TY w75_17 → FR [5, 53, 54, 55, 56, 57, 58, 59, 60] h w75_17 → (0 ≤ b2 ∧ b2 ≤ 10) → (FS r ≤ b2 ∧ b2 ≤ 3 * r + 1) → ((w75_17 53) = C53) → ((w75_17 55) = C55) → ((w75_17 56) = C56) → ((w75_17 57) = C57) → ((w75_17 5 4) = 8 * n ∧ (w75_17 5 1) = h 5 1) → (st9 = (((hdP o9 (8 * n) (h 49) (h 50) (h 54) (FS r) (3 * r + 1 - FS r).toNat (h 5 3) P9 W9).2.1 + 7) / 8) + smS C57 (FS r) (b2 - FS r).toNat ∧ 0 ≤ st9 ∧ st9 ≤ 2000000 * (b2 - FS r + 1)) → (∀ j : Int, FS r ≤ j → j < b2 → (w75_17 54) j = h 54 j + C56 j) → (∀ j : Int, (j < FS r ∨ b2 ≤ j) → (w75_17 54) j = h 54 j) → ((10 : Int) - b2).toNat < k17 → TT K ly 0 0 75 [(0, vR 44), (1, vR 5), (2, vI n), (3, vI r), (4, vI z3_7), (5, vI st9), (6, vI sm), (7, vI b2)] [] w75_17 := by
              intro k17
              induction k17 with
              | zero => intro st9 b2 w75_17 hT75_17 hF75_17 hb2 hb_b2 q53 q55 q56 q57 k5i hst8 hT1 hT2 hk17; exact absurd hk17 (Nat.not_lt_zero _)
              | succ k17 ih17 =>
                intro st9 b2 w75_17 hT75_17 hF75_17 hb2 hb_b2 q53 q55 q56 q57 k5i hst8 hT1 hT2 hk17
                refine TT_iload hK 7 rfl dX10_takePacket_75 ?_
                refine TT_iload_n hK rfl 3 rfl dX10_takePacket_77 ?_
                refine iv_X10_112 hK (s_lastBandOf_e r w75_17 hT75_17 (by first | omega | (simp [up, setR] <;> omega))) ⟨by decide, by decide⟩ (by decide) rfl rfl (Nat.le_of_ble_eq_true rfl) ⟨by decide, by decide⟩ dX10_takePacket_78 ?_
                intro r9 g78_18 hp9
                obtain ⟨⟨hT_18, hG_18⟩, z78_18, hr9, hz_18, lb_18⟩ := hp9
                rw [hr9]
                have hF_18 : FR [5, 53, 54, 55, 56, 57, 58, 59, 60] h g78_18 := FR_tr hF75_17 hG_18 (by decide)
                have lb_at78 := lb_18
                show TT K ly 0 0 81 [(0, vR 44), (1, vR 5), (2, vI n), (3, vI r), (4, vI z3_7), (5, vI st9), (6, vI sm), (7, vI b2)] [vI z78_18, vI b2] g78_18
                refine TT_cgI (b := 3 * r) (by exact lb_at78) ?_
                refine TT_icmp_gt hK (tgt := 134) (irm (by omega) (by omega)) (irm (by omega) (by omega)) dX10_takePacket_81 (by decide) (fun hb81_19 => ?_) (fun hb81_19 => ?_)
                · have b23 : b2 = 3 * r + 1 := by omega
                  have hst7 := hst8
                  rw [b23, esm] at hst7
                  refine TT_aload_n hK rfl 1 rfl dX10_takePacket_134 ?_
                  refine TT_iload hK 5 rfl dX10_takePacket_135 ?_
                  refine TT_iload_n hK rfl 2 rfl dX10_takePacket_137 ?_
                  refine iv_X10_93 hK (s_takeFrom5_e st9 n g78_18 hT_18 (by first | omega | (simp [up, setR] <;> omega)) (by first | omega | (simp [up, setR] <;> omega)) (by first | omega | (simp [up, setR] <;> omega))) (by decide) rfl ⟨by decide, by decide⟩ (by decide) rfl rfl (Nat.le_of_ble_eq_true rfl) ⟨by decide, by decide⟩ dX10_takePacket_138 ?_
                  intro r9 g138_20 hp9
                  obtain ⟨⟨hT_20, hG_20⟩, hr9, tf_20, k5_20⟩ := hp9
                  rw [hr9]
                  have hF_20 : FR [5, 53, 54, 55, 56, 57, 58, 59, 60] h g138_20 := FR_tr hF_18 hG_20 (by decide)
                  rw [show g78_18 5 1 = (w75_17 5) 1 from rd_ (hG_18 5 (by decide)) rfl] at k5_20
                  have tf_at138 := tf_20
                  have k5_at138 := k5_20
                  show TT K ly 0 0 141 [(0, vR 44), (1, vR 5), (2, vI n), (3, vI r), (4, vI z3_7), (5, vI st9), (6, vI sm), (7, vI b2)] [] g138_20
                  refine TT_iconst hK dX10_takePacket_141 ?_
                  refine TT_iret hK hQ ?_ dX10_takePacket_142
                  have e21_5_3 : g138_20 5 3 = (g138_20 5) 3 := rfl
                  have e22_53 : g138_20 53 = w75_17 53 := ((hG_20 53 (by decide))).trans (hG_18 53 (by decide))
                  have e23_54 : g138_20 54 = w75_17 54 := ((hG_20 54 (by decide))).trans (hG_18 54 (by decide))
                  have e24_55 : g138_20 55 = w75_17 55 := ((hG_20 55 (by decide))).trans (hG_18 55 (by decide))
                  have e25_5_1 : g138_20 5 1 = (g138_20 5) 1 := rfl
                  have e26_5_3 : g138_20 5 3 = (g138_20 5) 3 := rfl
                  have e27_5_4 : g138_20 5 4 = (g138_20 5) 4 := rfl
                  have e28_5_1 : g138_20 5 1 = (g138_20 5) 1 := rfl
                  have e29_54 : g138_20 54 = w75_17 54 := ((hG_20 54 (by decide))).trans (hG_18 54 (by decide))
                  have e30_53 : g138_20 53 = w75_17 53 := ((hG_20 53 (by decide))).trans (hG_18 53 (by decide))
                  have e31_54 : g138_20 54 = w75_17 54 := ((hG_20 54 (by decide))).trans (hG_18 54 (by decide))
                  have e32_55 : g138_20 55 = w75_17 55 := ((hG_20 55 (by decide))).trans (hG_18 55 (by decide))
                  have e33_5_3 : g138_20 5 3 = (g138_20 5) 3 := rfl
                  have e34_54 : g138_20 54 = w75_17 54 := ((hG_20 54 (by decide))).trans (hG_18 54 (by decide))
                  have e35_55 : g138_20 55 = w75_17 55 := ((hG_20 55 (by decide))).trans (hG_18 55 (by decide))
                  exact ⟨⟨hT_20, hF_20⟩, 0, rfl, (by omega), (by unfold EQI; rw [fin9]), (by rewrite [e21_5_3, e22_53, e23_54, e24_55]; intro _; rw [fin9]; refine ⟨by show _ = 8 * ((((hdP o9 (8 * n) (h 49) (h 50) (h 54) (FS r) (3 * r + 1 - FS r).toNat (h 5 3) P9 W9).2.1 + 7) / 8) + smS (hdP o9 (8 * n) (h 49) (h 50) (h 54) (FS r) (3 * r + 1 - FS r).toNat (h 5 3) P9 W9).2.2.2.2.2 (FS r) (3 * r + 1 - FS r).toNat); omega, fun j j0 j1 => ?_⟩; have k9 := hRc.2.2 j j0 j1; have t9 := hT1 j j0 (by omega); rw [q53, q55]; refine ⟨fun q => k9.1 (by rw [← k9.2.2.1, ← t9]; exact q), ?_, k9.2.1⟩; show _ = if FS r ≤ j ∧ j < FS r + ((3 * r + 1 - FS r).toNat : Int) then h 54 j + (hdP o9 (8 * n) (h 49) (h 50) (h 54) (FS r) (3 * r + 1 - FS r).toNat (h 5 3) P9 W9).2.2.2.2.1 j else h 54 j; rw [if_pos (by omega), t9, k9.2.2.1]), (by rewrite [e25_5_1, e26_5_3, e27_5_4]; intro _; omega), (by rewrite [e28_5_1]; omega), (by rewrite [e29_54]; intro q; exact absurd rfl q), (by rewrite [e30_53, e31_54, e32_55]; intro j j0; rw [q53, q55, hT2 j (by omega)]; have k9 := koc j j0; exact ⟨k9.1, rfl, k9.2⟩), (by rewrite [e33_5_3, e34_54, e35_55]; intro _ j j0 j1; rw [q55]; have k9 := kwc j j0 j1; refine ⟨by omega, ?_⟩; by_cases e : FS r ≤ j ∧ j < 3 * r + 1; (rw [hT1 j e.1 (by omega)]; have k8 := kgc j e.1 e.2; have k7 := (hwb j j0 j1).2; omega); (rw [hT2 j (by omega)]; exact (hwb j j0 j1).2))⟩
                · have kgb := kgc b2 (by omega) (by omega)
                  have t54 := (hwb b2 (by omega) (by omega)).2
                  have t2b := hT2 b2 (Or.inr (Int.le_refl _))
                  refine TT_aload_n hK rfl 0 rfl dX10_takePacket_84 ?_
                  refine gf_X10_22 hK (by decide) rfl (q := 54) rfl rfl dX10_takePacket_85 ?_
                  refine TT_iload hK 7 rfl dX10_takePacket_88 ?_
                  refine TT_dup2 hK rfl rfl dX10_takePacket_90 ?_
                  refine TT_iald hK (o := 54) (n := 10) (by decide) rfl (by first | omega | (simp [up, setR] <;> omega)) (by first | omega | (simp [up, setR] <;> omega)) (v := (w75_17 54) b2) (rd_ (hG_18 54 (by decide)) rfl) dX10_takePacket_91 ?_
                  have r36 := ty_54 (i := b2) (v := (w75_17 54) b2) hT_18 (rd_ (hG_18 54 (by decide)) rfl) (by omega) (by omega)
                  refine TT_aload_n hK rfl 0 rfl dX10_takePacket_92 ?_
                  refine gf_X10_28 hK (by decide) rfl (q := 56) rfl rfl dX10_takePacket_93 ?_
                  refine TT_iload hK 7 rfl dX10_takePacket_96 ?_
                  refine TT_iald hK (o := 56) (n := 10) (by decide) rfl (by first | omega | (simp [up, setR] <;> omega)) (by first | omega | (simp [up, setR] <;> omega)) (v := (w75_17 56) b2) (rd_ (hG_18 56 (by decide)) rfl) dX10_takePacket_98 ?_
                  have r37 := ty_56 (i := b2) (v := (w75_17 56) b2) hT_18 (rd_ (hG_18 56 (by decide)) rfl) (by omega) (by omega)
                  refine TT_cgI (b := C56 b2) (by exact congrFun q56 b2) ?_
                  refine TT_iadd hK dX10_takePacket_99 ?_
                  refine TT_iast hK (o := 54) (n := 10) (by decide) rfl (by omega) (by omega) dX10_takePacket_100 ?_
                  refine TT_hp (h' := setO g78_18 54 (fup (w75_17 54) b2 (((w75_17 54) b2) + (C56 b2)))) (up_can (hG_18 54 (by decide)) rfl rfl) ?_
                  have hT_38 : TY (setO g78_18 54 (fup (w75_17 54) b2 (((w75_17 54) b2) + (C56 b2)))) := tu_54 hT_18 (show up g78_18 54 b2 (((w75_17 54) b2) + (C56 b2)) = (setO g78_18 54 (fup (w75_17 54) b2 (((w75_17 54) b2) + (C56 b2)))) from up_can (hG_18 54 (by decide)) rfl rfl) (by omega)
                  have hF_38 : FR [5, 53, 54, 55, 56, 57, 58, 59, 60] h (setO g78_18 54 (fup (w75_17 54) b2 (((w75_17 54) b2) + (C56 b2)))) := FR_up (show up g78_18 54 b2 (((w75_17 54) b2) + (C56 b2)) = (setO g78_18 54 (fup (w75_17 54) b2 (((w75_17 54) b2) + (C56 b2)))) from up_can (hG_18 54 (by decide)) rfl rfl) hF_18 (by decide)
                  refine TT_aload_n hK rfl 0 rfl dX10_takePacket_101 ?_
                  refine TT_iload hK 7 rfl dX10_takePacket_102 ?_
                  refine TT_iload hK 5 rfl dX10_takePacket_104 ?_
                  refine TT_aload_n hK rfl 0 rfl dX10_takePacket_106 ?_
                  refine gf_X10_31 hK (by decide) rfl (q := 57) rfl rfl dX10_takePacket_107 ?_
                  refine TT_iload hK 7 rfl dX10_takePacket_110 ?_
                  refine TT_iald hK (o := 57) (n := 10) (by decide) rfl (by first | omega | (simp [up, setR] <;> omega)) (by first | omega | (simp [up, setR] <;> omega)) (v := (w75_17 57) b2) (rd_ ((sOf_ne _ _ (by decide)).trans (hG_18 57 (by decide))) rfl) dX10_takePacket_112 ?_
                  have r39 := ty_57 (i := b2) (v := (w75_17 57) b2) hT_38 (rd_ ((sOf_ne _ _ (by decide)).trans (hG_18 57 (by decide))) rfl) (by omega) (by omega)
                  refine TT_cgI (b := C57 b2) (by exact congrFun q57 b2) ?_
                  refine iv_X10_115 hK (s_X10_addPart_44 b2 st9 (C57 b2) (setO g78_18 54 (fup (w75_17 54) b2 (((w75_17 54) b2) + (C56 b2)))) hT_38 (by first | omega | (simp [up, setR] <;> omega)) (by first | omega | (simp [up, setR] <;> omega)) (by first | omega | (simp [up, setR] <;> omega))) (by decide) rfl ⟨by decide, by decide⟩ (by decide) rfl rfl (Nat.le_of_ble_eq_true rfl) ⟨by decide, by decide⟩ dX10_takePacket_113 ?_
                  intro r9 g113_40 hp9
                  obtain ⟨⟨hT_40, hG_40⟩, hr9⟩ := hp9
                  rw [hr9]
                  have hF_40 : FR [5, 53, 54, 55, 56, 57, 58, 59, 60] h g113_40 := FR_tr hF_38 hG_40 (by decide)
                  show TT K ly 0 0 116 [(0, vR 44), (1, vR 5), (2, vI n), (3, vI r), (4, vI z3_7), (5, vI st9), (6, vI sm), (7, vI b2)] [] g113_40
                  refine TT_iload hK 5 rfl dX10_takePacket_116 ?_
                  refine TT_aload_n hK rfl 0 rfl dX10_takePacket_118 ?_
                  refine gf_X10_31 hK (by decide) rfl (q := 57) rfl rfl dX10_takePacket_119 ?_
                  refine TT_iload hK 7 rfl dX10_takePacket_122 ?_
                  refine TT_iald hK (o := 57) (n := 10) (by decide) rfl (by first | omega | (simp [up, setR] <;> omega)) (by first | omega | (simp [up, setR] <;> omega)) (v := (w75_17 57) b2) (rd_ (((hG_40 57 (by decide))).trans ((sOf_ne _ _ (by decide)).trans (hG_18 57 (by decide)))) rfl) dX10_takePacket_124 ?_
                  refine TT_cgI (b := C57 b2) (by exact congrFun q57 b2) ?_
                  refine TT_iadd hK dX10_takePacket_125 ?_
                  refine TT_istore hK (lv' := [(5, vI (st9 + (C57 b2))), (0, vR 44), (1, vR 5), (2, vI n), (3, vI r), (4, vI z3_7), (6, vI sm), (7, vI b2)]) (by decide) rfl dX10_takePacket_126 ?_
                  refine TT_iinc hK (v := b2 + 1) (lv' := [(7, vI (b2 + 1)), (5, vI (st9 + (C57 b2))), (0, vR 44), (1, vR 5), (2, vI n), (3, vI r), (4, vI z3_7), (6, vI sm)]) 7 rfl rfl (by decide) rfl dX10_takePacket_128 ?_
                  refine TT_goto hK (tgt := 75) dX10_takePacket_131 (by decide) ?_
                  refine TT_sub [2, 3, 4, 5, 6, 1, 7, 0] rfl ?_
                  have e41_53 : g113_40 53 = w75_17 53 := ((hG_40 53 (by decide))).trans ((sOf_ne _ _ (by decide)).trans (hG_18 53 (by decide)))
                  have e42_55 : g113_40 55 = w75_17 55 := ((hG_40 55 (by decide))).trans ((sOf_ne _ _ (by decide)).trans (hG_18 55 (by decide)))
                  have e43_56 : g113_40 56 = w75_17 56 := ((hG_40 56 (by decide))).trans ((sOf_ne _ _ (by decide)).trans (hG_18 56 (by decide)))
                  have e44_57 : g113_40 57 = w75_17 57 := ((hG_40 57 (by decide))).trans ((sOf_ne _ _ (by decide)).trans (hG_18 57 (by decide)))
                  have e45_5_1 : g113_40 5 1 = (w75_17 5) 1 := rd_ (((hG_40 5 (by decide))).trans ((sOf_ne _ _ (by decide)).trans (hG_18 5 (by decide)))) rfl
                  have e46_5_4 : g113_40 5 4 = (w75_17 5) 4 := rd_ (((hG_40 5 (by decide))).trans ((sOf_ne _ _ (by decide)).trans (hG_18 5 (by decide)))) rfl
                  have e47_54 : g113_40 54 = fup (w75_17 54) b2 (((w75_17 54) b2) + (C56 b2)) := ((hG_40 54 (by decide))).trans (sOf_eq _ _ _)
                  have e48_54 : g113_40 54 = fup (w75_17 54) b2 (((w75_17 54) b2) + (C56 b2)) := ((hG_40 54 (by decide))).trans (sOf_eq _ _ _)
                  exact ih17 (st9 + (C57 b2)) (b2 + 1) g113_40 hT_40 hF_40 (by first | omega | (simp [up, setR] <;> omega)) (by first | omega | (simp [up, setR] <;> omega)) (by rewrite [e41_53]; first | rfl | exact q53) (by rewrite [e42_55]; first | rfl | exact q55) (by rewrite [e43_56]; first | rfl | exact q56) (by rewrite [e44_57]; first | rfl | exact q57) (by rewrite [e45_5_1, e46_5_4]; first | omega | (simp [up, setR] <;> omega)) (by rw [smS_s (by omega)]; have k9 := kgc b2 (by omega) (by omega); exact ⟨by omega, by omega, by omega⟩) (by rewrite [e47_54]; intro j j0 j1; by_cases e : j = b2; (rw [e, fup_eq, hT2 b2 (Or.inr (Int.le_refl _))]); (rw [fup_ne _ _ e]; exact hT1 j j0 (by omega))) (by rewrite [e48_54]; intro j j0; rw [fup_ne _ _ (by omega)]; exact hT2 j (by omega)) (by first | omega | (simp [up, setR] <;> omega))
            refine TT_sub [1, 2, 3, 4, 5, 6, 7, 0] rfl ?_
            have e49_53 : g70_16 53 = w31_12 53 := ((hG_16 53 (by decide))).trans (hG_13 53 (by decide))
            have e50_55 : g70_16 55 = w31_12 55 := ((hG_16 55 (by decide))).trans (hG_13 55 (by decide))
            have e51_56 : g70_16 56 = w31_12 56 := ((hG_16 56 (by decide))).trans (hG_13 56 (by decide))
            have e52_57 : g70_16 57 = w31_12 57 := ((hG_16 57 (by decide))).trans (hG_13 57 (by decide))
            have e53_5_1 : g70_16 5 1 = (w31_12 5) 1 := rd_ (((hG_16 5 (by decide))).trans (hG_13 5 (by decide))) rfl
            have e54_5_4 : g70_16 5 4 = (w31_12 5) 4 := rd_ (((hG_16 5 (by decide))).trans (hG_13 5 (by decide))) rfl
            have e55_54 : g70_16 54 = w31_12 54 := ((hG_16 54 (by decide))).trans (hG_13 54 (by decide))
            have e56_54 : g70_16 54 = w31_12 54 := ((hG_16 54 (by decide))).trans (hG_13 54 (by decide))
            exact L75_17 ((((10 : Int) - (FS r)).toNat) + 1) (((hdP o9 (8 * n) (h 49) (h 50) (h 54) (FS r) (3 * r + 1 - FS r).toNat (h 5 3) P9 W9).2.1 + 7) / 8) (FS r) g70_16 hT_16 hF_16 (by first | omega | (simp [up, setR] <;> omega)) (by first | omega | (simp [up, setR] <;> omega)) (by rewrite [e49_53]; first | rfl | exact q53) (by rewrite [e50_55]; first | rfl | exact q55) (by rewrite [e51_56]; first | rfl | exact q56) (by rewrite [e52_57]; first | rfl | exact q57) (by rewrite [e53_5_1, e54_5_4]; first | omega | (simp [up, setR] <;> omega)) (by rw [show FS r - FS r = 0 by omega]; exact ⟨by show _ = (((hdP o9 (8 * n) (h 49) (h 50) (h 54) (FS r) (3 * r + 1 - FS r).toNat (h 5 3) P9 W9).2.1 + 7) / 8) + 0; omega, by omega, by omega⟩) (by rewrite [e55_54]; intro j j0 j1; exfalso; omega) (by rewrite [e56_54]; intro j _; rw [k54]) (Nat.lt_succ_self _)
          · have fin7 : (paS o9 n (h 49) (h 50) (FS r) (3 * r + 1 - FS r).toNat (0, h 5 3, P9, h 54, W9)) = (1, ((0, h 5 3, P9, h 54, W9) : PS_).2) := by
                show paX n (FS r) (3 * r + 1 - FS r).toNat (hdP o9 (8 * n) (h 49) (h 50) (h 54) (FS r) (3 * r + 1 - FS r).toNat (h 5 3) P9 W9) ((0, h 5 3, P9, h 54, W9) : PS_) = _
                exact paX_2 H0 (by rw [← esm]; omega)
            refine TT_iconst hK dX10_takePacket_67 ?_
            refine TT_iret hK hQ ?_ dX10_takePacket_68
            have e57_5_3 : g34_13 5 3 = (w31_12 5) 3 := rd_ (hG_13 5 (by decide)) rfl
            have e58_53 : g34_13 53 = w31_12 53 := (hG_13 53 (by decide))
            have e59_54 : g34_13 54 = w31_12 54 := (hG_13 54 (by decide))
            have e60_55 : g34_13 55 = w31_12 55 := (hG_13 55 (by decide))
            have e61_5_1 : g34_13 5 1 = (w31_12 5) 1 := rd_ (hG_13 5 (by decide)) rfl
            have e62_5_3 : g34_13 5 3 = (w31_12 5) 3 := rd_ (hG_13 5 (by decide)) rfl
            have e63_5_4 : g34_13 5 4 = (w31_12 5) 4 := rd_ (hG_13 5 (by decide)) rfl
            have e64_5_1 : g34_13 5 1 = (w31_12 5) 1 := rd_ (hG_13 5 (by decide)) rfl
            have e65_54 : g34_13 54 = w31_12 54 := (hG_13 54 (by decide))
            have e66_53 : g34_13 53 = w31_12 53 := (hG_13 53 (by decide))
            have e67_54 : g34_13 54 = w31_12 54 := (hG_13 54 (by decide))
            have e68_55 : g34_13 55 = w31_12 55 := (hG_13 55 (by decide))
            have e69_5_3 : g34_13 5 3 = (w31_12 5) 3 := rd_ (hG_13 5 (by decide)) rfl
            have e70_54 : g34_13 54 = w31_12 54 := (hG_13 54 (by decide))
            have e71_55 : g34_13 55 = w31_12 55 := (hG_13 55 (by decide))
            exact ⟨⟨hT_13, hF_13⟩, 1, rfl, (by omega), (by unfold EQI; rw [fin7]), (by rewrite [e57_5_3, e58_53, e59_54, e60_55]; intro q; exfalso; omega), (by rewrite [e61_5_1, e62_5_3, e63_5_4]; intro q; exfalso; omega), (by rewrite [e64_5_1]; omega), (by rewrite [e65_54]; intro _; exact k54), (by rewrite [e66_53, e67_54, e68_55]; intro j j0; rw [q53, q55, k54]; have k9 := koc j j0; exact ⟨k9.1, rfl, k9.2⟩), (by rewrite [e69_5_3, e70_54, e71_55]; intro q; exfalso; omega)⟩
        · refine TT_iload hK 6 rfl dX10_takePacket_40 ?_
          refine TT_aload_n hK rfl 0 rfl dX10_takePacket_42 ?_
          refine gf_X10_31 hK (by decide) rfl (q := 57) rfl rfl dX10_takePacket_43 ?_
          refine TT_iload hK 7 rfl dX10_takePacket_46 ?_
          refine TT_iald hK (o := 57) (n := 10) (by decide) rfl (by first | omega | (simp [up, setR] <;> omega)) (by first | omega | (simp [up, setR] <;> omega)) (v := (w31_12 57) b1) (rd_ (hG_13 57 (by decide)) rfl) dX10_takePacket_48 ?_
          have r72 := ty_57 (i := b1) (v := (w31_12 57) b1) hT_13 (rd_ (hG_13 57 (by decide)) rfl) (by omega) (by omega)
          refine TT_cgI (b := C57 b1) (by exact congrFun q57 b1) ?_
          refine TT_iadd hK dX10_takePacket_49 ?_
          refine TT_istore hK (lv' := [(6, vI (sm + (C57 b1))), (0, vR 44), (1, vR 5), (2, vI n), (3, vI r), (4, vI z3_7), (5, vI (((hdP o9 (8 * n) (h 49) (h 50) (h 54) (FS r) (3 * r + 1 - FS r).toNat (h 5 3) P9 W9).2.1 + 7) / 8)), (7, vI b1)]) (by decide) rfl dX10_takePacket_50 ?_
          refine TT_iinc hK (v := b1 + 1) (lv' := [(7, vI (b1 + 1)), (6, vI (sm + (C57 b1))), (0, vR 44), (1, vR 5), (2, vI n), (3, vI r), (4, vI z3_7), (5, vI (((hdP o9 (8 * n) (h 49) (h 50) (h 54) (FS r) (3 * r + 1 - FS r).toNat (h 5 3) P9 W9).2.1 + 7) / 8))]) 7 rfl rfl (by decide) rfl dX10_takePacket_52 ?_
          refine TT_goto hK (tgt := 31) dX10_takePacket_55 (by decide) ?_
          refine TT_sub [2, 3, 4, 5, 6, 7, 1, 0] rfl ?_
          have e73_53 : g34_13 53 = w31_12 53 := (hG_13 53 (by decide))
          have e74_55 : g34_13 55 = w31_12 55 := (hG_13 55 (by decide))
          have e75_56 : g34_13 56 = w31_12 56 := (hG_13 56 (by decide))
          have e76_57 : g34_13 57 = w31_12 57 := (hG_13 57 (by decide))
          have e77_54 : g34_13 54 = w31_12 54 := (hG_13 54 (by decide))
          have e78_5_1 : g34_13 5 1 = (w31_12 5) 1 := rd_ (hG_13 5 (by decide)) rfl
          have e79_5_4 : g34_13 5 4 = (w31_12 5) 4 := rd_ (hG_13 5 (by decide)) rfl
          exact ih12 (sm + (C57 b1)) (b1 + 1) C53 C55 C56 C57 g34_13 hT_13 hF_13 (by first | omega | (simp [up, setR] <;> omega)) (by first | omega | (simp [up, setR] <;> omega)) (by rewrite [e73_53]; first | rfl | exact q53) (by rewrite [e74_55]; first | rfl | exact q55) (by rewrite [e75_56]; first | rfl | exact q56) (by rewrite [e76_57]; first | rfl | exact q57) (by rewrite [e77_54]; first | rfl | exact k54) (by rewrite [e78_5_1, e79_5_4]; first | omega | (simp [up, setR] <;> omega)) (by exact hRc) (by exact kwc) (by exact kgc) (by exact koc) (by rw [smS_s (by omega), ← hsm9.1]; have k9 := kgc b1 (by omega) (by omega); exact ⟨by omega, by omega, by omega⟩) (by first | omega | (simp [up, setR] <;> omega))
    refine TT_sub [4, 5, 6, 7, 3, 2, 1, 0] rfl ?_
    have e80_53 : g26_11 53 = g3_7 53 := ((hG_11 53 (by decide))).trans (hG_10 53 (by decide))
    have e81_55 : g26_11 55 = g3_7 55 := ((hG_11 55 (by decide))).trans (hG_10 55 (by decide))
    have e82_56 : g26_11 56 = g3_7 56 := ((hG_11 56 (by decide))).trans (hG_10 56 (by decide))
    have e83_57 : g26_11 57 = g3_7 57 := ((hG_11 57 (by decide))).trans (hG_10 57 (by decide))
    have e84_54 : g26_11 54 = h 54 := ((hG_11 54 (by decide))).trans (((hG_10 54 (by decide))).trans (hG_7 54 (by decide)))
    have e85_5_1 : g26_11 5 1 = (g3_7 5) 1 := rd_ (((hG_11 5 (by decide))).trans (hG_10 5 (by decide))) rfl
    have e86_5_4 : g26_11 5 4 = (g3_7 5) 4 := rd_ (((hG_11 5 (by decide))).trans (hG_10 5 (by decide))) rfl
    exact L31_12 ((((10 : Int) - (FS r)).toNat) + 1) 0 (FS r) (g3_7 53) (g3_7 55) (g3_7 56) (g3_7 57) g26_11 hT_11 hF_11 (by first | omega | (simp [up, setR] <;> omega)) (by first | omega | (simp [up, setR] <;> omega)) (by rewrite [e80_53]; first | rfl) (by rewrite [e81_55]; first | rfl) (by rewrite [e82_56]; first | rfl) (by rewrite [e83_57]; first | rfl) (by rewrite [e84_54]; first | rfl) (by rewrite [e85_5_1, e86_5_4]; first | omega | (simp [up, setR] <;> omega)) (by rw [← hq9.2.1]; exact hq9) (by intro j j0 j1; have k9 := kw8 j j0 j1; rw [hq9.2.1] at k9; exact k9) (by exact kg8) (by exact ko_at3) (by rw [show FS r - FS r = 0 by omega]; exact ⟨rfl, by omega, by omega⟩) (Nat.lt_succ_self _)
  · have f1 : (hdP o9 (8 * n) (h 49) (h 50) (h 54) (FS r) (3 * r + 1 - FS r).toNat (h 5 3) P9 W9).1 ≠ 0 := by rw [← hd9]; omega
    have fin8 : (paS o9 n (h 49) (h 50) (FS r) (3 * r + 1 - FS r).toNat (0, h 5 3, P9, h 54, W9)).1 = (hdP o9 (8 * n) (h 49) (h 50) (h 54) (FS r) (3 * r + 1 - FS r).toNat (h 5 3) P9 W9).1 := by
        show (paX n (FS r) (3 * r + 1 - FS r).toNat (hdP o9 (8 * n) (h 49) (h 50) (h 54) (FS r) (3 * r + 1 - FS r).toNat (h 5 3) P9 W9) ((0, h 5 3, P9, h 54, W9) : PS_)).1 = _
        rw [paX_1 f1]
    refine TT_iload hK 0 rfl dX10_takePacket_13 ?_
    refine TT_iret hK hQ ?_ dX10_takePacket_15
    have e87_5_3 : g3_7 5 3 = (g3_7 5) 3 := rfl
    have e88_54 : g3_7 54 = h 54 := (hG_7 54 (by decide))
    have e89_5_1 : g3_7 5 1 = (g3_7 5) 1 := rfl
    have e90_5_3 : g3_7 5 3 = (g3_7 5) 3 := rfl
    have e91_5_4 : g3_7 5 4 = (g3_7 5) 4 := rfl
    have e92_5_1 : g3_7 5 1 = (g3_7 5) 1 := rfl
    have e93_54 : g3_7 54 = h 54 := (hG_7 54 (by decide))
    have e94_54 : g3_7 54 = h 54 := (hG_7 54 (by decide))
    have e95_5_3 : g3_7 5 3 = (g3_7 5) 3 := rfl
    have e96_54 : g3_7 54 = h 54 := (hG_7 54 (by decide))
    exact ⟨⟨hT_7, hF_7⟩, z3_7, rfl, (by omega), (by unfold EQI; rw [fin8]; exact hd9), (by rewrite [e87_5_3, e88_54]; intro q; exfalso; omega), (by rewrite [e89_5_1, e90_5_3, e91_5_4]; intro q; exfalso; omega), (by rewrite [e92_5_1]; omega), (by rewrite [e93_54]; intro _; rfl), (by rewrite [e94_54]; intro j j0; have k9 := ko_at3 j j0; exact ⟨k9.1, rfl, k9.2⟩), (by rewrite [e95_5_3, e96_54]; intro q; exfalso; omega)⟩

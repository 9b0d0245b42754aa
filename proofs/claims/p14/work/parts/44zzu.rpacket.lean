/-- the reference's cells while a head is read: places shifted by 10 -/
def RFQ (c83 c86 c88 c104 : Int → Int) (f t : Int) (T : Int → Int) (H : HS_) : Prop := ∀ j : Int, f ≤ j → j < t → c83 (10 + j) = H.2.2.1 j ∧ c86 (10 + j) = T j + H.2.2.2.2.1 j ∧ c88 (10 + j) = H.2.2.2.1 j ∧ RVQ (c104 j) (H.2.2.2.2.2 j)
theorem RVQ_0 : RVQ 0 0 := ⟨fun _ => rfl, fun h => absurd h (by decide)⟩
theorem hdP_1 {o : Int → Int} {e : Int} {wd hd T : Int → Int} {f : Int} {m : Nat} {p : Int} {P W : Int → Int} (h : e - p < 1) : (hdP o e wd hd T f m p P W).1 = 1 := by
  unfold hdP
  rw [if_pos h]
theorem hdP_2 {o : Int → Int} {e : Int} {wd hd T : Int → Int} {f : Int} {m : Nat} {p : Int} {P W : Int → Int} (h : ¬ e - p < 1) (h2 : tbS o p 1 ≠ 1) : hdP o e wd hd T f m p P W = hs0 (p + 1) P W := by
  unfold hdP
  rw [if_neg h, if_pos h2]
theorem hdP_3 {o : Int → Int} {e : Int} {wd hd T : Int → Int} {f : Int} {m : Nat} {p : Int} {P W : Int → Int} (h : ¬ e - p < 1) (h2 : ¬ tbS o p 1 ≠ 1) : hdP o e wd hd T f m p P W = hssS o e wd hd T f m (hs0 (p + 1) P W) := by
  unfold hdP
  rw [if_neg h, if_neg h2]
theorem RFQ_0 {c83 c86 c88 c104 : Int → Int} {f t p : Int} {T P W : Int → Int} (h : ∀ j : Int, f ≤ j → j < t → c83 (10 + j) = P j ∧ c86 (10 + j) = T j ∧ c88 (10 + j) = W j ∧ c104 j = 0) : RFQ c83 c86 c88 c104 f t T (hs0 p P W) := fun j j0 j1 => by
  have k := h j j0 j1
  refine ⟨k.1, ?_, k.2.2.1, ?_⟩
  · rw [k.2.1]
    show T j = T j + 0
    omega
  · rw [k.2.2.2]
    exact RVQ_0
/-- one band's head read: what it is in the pure state -/
theorem RF_b {c83 c86 c88 c104 : Int → Int} {f t b e p : Int} {T : Int → Int} {H : HS_} {o : Int → Int} (h : RFQ c83 c86 c88 c104 f t T H) (hb : f ≤ b ∧ b < t) (hG : H.2.2.2.2.1 b = 0) (hp : p = H.2.1) : hbS o e p (c83 (10 + b)) (c86 (10 + b)) (c88 (10 + b)) = hbS o e H.2.1 (H.2.2.1 b) (T b) (H.2.2.2.1 b) := by
  have k := h b hb.1 hb.2
  rw [k.1, k.2.1, k.2.2.1, hG, Int.add_zero, hp]
theorem hs1_p {o : Int → Int} {e b : Int} {wd hd T : Int → Int} {H : HS_} (h0 : H.1 = 0) (hc : ¬(wd b = 0 ∨ hd b = 0)) : hs1S o e wd hd T b H = hsR b (hbS o e H.2.1 (H.2.2.1 b) (T b) (H.2.2.2.1 b)) H := if_neg (fun y => by
  rcases y with y | y
  · exact y h0
  · exact hc y)
theorem RF_n {c83 c86 c88 c104 d83 d86 d88 d104 : Int → Int} {f t b e p p2 : Int} {T wd hd : Int → Int} {H : HS_} {o : Int → Int} (h : RFQ c83 c86 c88 c104 f t T H) (h0 : H.1 = 0) (hc : ¬(wd b = 0 ∨ hd b = 0)) (hb : f ≤ b ∧ b < t) (hG : H.2.2.2.2.1 b = 0) (hp : p = H.2.1) (hz : (hbS o e p (c83 (10 + b)) (c86 (10 + b)) (c88 (10 + b))).1 = 0)
    (hok : p2 = (hbS o e p (c83 (10 + b)) (c86 (10 + b)) (c88 (10 + b))).2.2.2.1 ∧ d83 (10 + b) = (hbS o e p (c83 (10 + b)) (c86 (10 + b)) (c88 (10 + b))).2.2.2.2.1 ∧ d86 (10 + b) = c86 (10 + b) + (hbS o e p (c83 (10 + b)) (c86 (10 + b)) (c88 (10 + b))).2.1 ∧ d88 (10 + b) = (hbS o e p (c83 (10 + b)) (c86 (10 + b)) (c88 (10 + b))).2.2.2.2.2 ∧ RVQ (d104 b) (hbS o e p (c83 (10 + b)) (c86 (10 + b)) (c88 (10 + b))).2.2.1)
    (hs : ∀ j : Int, j ≠ 10 + b → d83 j = c83 j ∧ d86 j = c86 j ∧ d88 j = c88 j) (hs2 : ∀ j : Int, j ≠ b → d104 j = c104 j) : RFQ d83 d86 d88 d104 f t T (hs1S o e wd hd T b H) ∧ (hs1S o e wd hd T b H).1 = 0 ∧ p2 = (hs1S o e wd hd T b H).2.1 := by
  have kb := h b hb.1 hb.2
  have e86 : c86 (10 + b) = T b := by rw [kb.2.1, hG, Int.add_zero]
  rw [RF_b h hb hG hp] at hz hok
  rw [hs1_p h0 hc]
  refine ⟨fun j j0 j1 => ?_, hz, hok.1⟩
  show d83 (10 + j) = fup H.2.2.1 b _ j ∧ d86 (10 + j) = T j + fup H.2.2.2.2.1 b _ j ∧ d88 (10 + j) = fup H.2.2.2.1 b _ j ∧ RVQ (d104 j) (fup H.2.2.2.2.2 b _ j)
  by_cases y : j = b
  · rw [y, fup_eq, fup_eq, fup_eq, fup_eq]
    exact ⟨hok.2.1, by rw [hok.2.2.1, e86], hok.2.2.2.1, hok.2.2.2.2⟩
  · rw [fup_ne _ _ y, fup_ne _ _ y, fup_ne _ _ y, fup_ne _ _ y]
    have u := hs (10 + j) (by omega)
    have v := h j j0 j1
    rw [u.1, u.2.1, u.2.2, hs2 j y]
    exact v
theorem RF_x {c83 c86 c88 c104 : Int → Int} {f t b e p : Int} {T wd hd : Int → Int} {H : HS_} {o : Int → Int} (h : RFQ c83 c86 c88 c104 f t T H) (h0 : H.1 = 0) (hc : ¬(wd b = 0 ∨ hd b = 0)) (hb : f ≤ b ∧ b < t) (hG : H.2.2.2.2.1 b = 0) (hp : p = H.2.1) : (hs1S o e wd hd T b H).1 = (hbS o e p (c83 (10 + b)) (c86 (10 + b)) (c88 (10 + b))).1 := by
  rw [RF_b h hb hG hp, hs1_p h0 hc]
  rfl
theorem SRV {r c : Int → Int} {f : Int} : ∀ k : Nat, (∀ j : Int, f ≤ j → j < f + (k : Int) → RVQ (r j) (c j) ∧ 0 ≤ c j ∧ 0 ≤ r j) → (0 ≤ smS c f k ∧ 0 ≤ smS r f k) ∧ RVQ (smS r f k) (smS c f k)
  | 0, _ => ⟨⟨Int.le_refl _, Int.le_refl _⟩, RVQ_0⟩
  | k + 1, h => by
    have i := SRV (r := r) (c := c) (f := f) k (fun j j0 j1 => h j j0 (by omega))
    have b := h (f + (k : Int)) (by omega) (by omega)
    have e1 : smS c f (k + 1) = smS c f k + c (f + (k : Int)) := rfl
    have e2 : smS r f (k + 1) = smS r f k + r (f + (k : Int)) := rfl
    unfold RVQ at i b ⊢
    rw [e1, e2]
    omega
theorem IS_sm {g : Int → Int} {a b : Int} (ha : 0 ≤ a) (hb : a ≤ b) : IS g b - IS g a = smS g a (b - a).toNat := by
  obtain ⟨m, rfl⟩ : ∃ m : Nat, b = a + (m : Int) := ⟨(b - a).toNat, by omega⟩
  clear hb
  rw [show (a + (m : Int) - a).toNat = m by omega]
  induction m with
  | zero =>
    rw [show a + ((0 : Nat) : Int) = a by omega]
    show IS g a - IS g a = 0
    omega
  | succ m ih =>
    rw [show a + ((m + 1 : Nat) : Int) = (a + (m : Int)) + 1 by omega, IS_s (by omega)]
    show _ = smS g a m + g (a + (m : Int))
    omega
theorem HK_0 {o : Int → Int} {e p z m m2 p2 : Int} (g : GBQ o e m p 1 z m2 p2) (hm : m = 0) (hz : z ≠ 1) : (m2 = 1 → e - p < 1) ∧ (m2 = 0 → ¬ e - p < 1 ∧ tbS o p 1 ≠ 1 ∧ p2 = p + 1) := by
  rcases GB_c (k := 1) g (by omega) rfl (by decide) with ⟨_, c1, e1, m20, ep⟩ | ⟨m21, c⟩
  · exact ⟨fun y => by omega, fun _ => ⟨by omega, by rw [← e1]; exact hz, ep⟩⟩
  · exact ⟨fun _ => by omega, fun y => by omega⟩
theorem HK_1 {o : Int → Int} {e p z m m2 p2 : Int} (g : GBQ o e m p 1 z m2 p2) (hm : m = 0) (hz : z = 1) : m2 = 0 ∧ ¬ e - p < 1 ∧ ¬ tbS o p 1 ≠ 1 ∧ p2 = p + 1 := by
  rcases GB_c (k := 1) g (by omega) rfl (by decide) with ⟨_, c1, e1, m20, ep⟩ | ⟨m21, c⟩
  · exact ⟨m20, by omega, fun y => y (by rw [← e1]; exact hz), ep⟩
  · exfalso
    have := g.2.2.2 rfl m21
    omega
def RZQ (c ml : Int) : Prop := (c = 1 ∧ ml = 0) ∨ (c = -1 ∧ ml = 1)
theorem RZ_1 {n f ml : Int} {m : Nat} {H : HS_} {s : PS_} (h : H.1 = -1) (hml : ml = 1) : RZQ (paX n f m H s).1 ml := by
  rw [paX_1 (by omega)]
  exact Or.inr ⟨h, hml⟩
theorem RZ_2 {n f ml : Int} {m : Nat} {H : HS_} {s : PS_} (h : H.1 = 1) (hml : ml = 0) : RZQ (paX n f m H s).1 ml := by
  rw [paX_1 (by omega)]
  exact Or.inl ⟨h, hml⟩
theorem RZ_3 {n f ml : Int} {m : Nat} {H : HS_} {s : PS_} (h : H.1 = 0) (h2 : n - (H.2.1 + 7) / 8 < smS H.2.2.2.2.2 f m) (hml : ml = 0) : RZQ (paX n f m H s).1 ml := by
  rw [paX_2 h h2]
  exact Or.inl ⟨rfl, hml⟩
theorem SV_x {r c x : Int} (h : RVQ r c) (a : x < r) (hx : x < 1048576) : x < c := by
  unfold RVQ at h
  omega
theorem SV_y {r c x : Int} (h : RVQ r c) (a : ¬ x < r) (hx : x < 1048576) : ¬ x < c ∧ r = c := by
  unfold RVQ at h
  omega
def PKQ (R : PS_) (z ml : Int) : Prop := ((R.1 = 0 → 8 * z = R.2.1 ∧ 0 ≤ z) ∧ (R.1 ≠ 0 → z = -1)) ∧ ((R.1 = 1 → ml = 0) ∧ (R.1 = -1 → ml = 1) ∧ (R.1 = 0 → ml = 0)) ∧ (R.1 = 0 ∨ R.1 = 1 ∨ R.1 = -1)
theorem PK_0 {R : PS_} {z ml : Int} (h : R.1 = 0) (h2 : R.2.1 = 8 * z) (hz : 0 ≤ z) (hml : ml = 0) : PKQ R z ml :=
  ⟨⟨fun _ => ⟨h2.symm, hz⟩, fun y => absurd h y⟩, ⟨fun _ => hml, fun y => by omega, fun _ => hml⟩, Or.inl h⟩
theorem PK_1 {R : PS_} {z ml : Int} (h : RZQ R.1 ml) (hz : z = -1) : PKQ R z ml := by
  unfold RZQ at h
  unfold PKQ
  omega
theorem PKQ_z {R : PS_} {z ml : Int} (h : PKQ R z ml) (hz : 0 ≤ z) : R.1 = 0 ∧ R.2.1 = 8 * z ∧ ml = 0 := by
  unfold PKQ at h
  omega
theorem PKQ_n {R : PS_} {z ml : Int} (h : PKQ R z ml) (hz : z < 0) : R.1 ≠ 0 ∧ (ml = 0 → R.1 = 1) ∧ (ml = 1 → R.1 ≠ 1) := by
  unfold PKQ at h
  omega
theorem RZ_n {c ml : Int} (h : RZQ c ml) : c ≠ 0 := by
  unfold RZQ at h
  omega
set_option maxRecDepth 20000 in
theorem s_getPacket_e (wd9 hd9 P9 T9 W9 : Int → Int) (u f n : Int) (h : Hp_) (hT : TY h) (hu : 0 ≤ u ∧ u ≤ 3) (hf : 0 ≤ f ∧ f ≤ n) (hn : n ≤ 4400) (hp2 : ∀ j : Int, FS u ≤ j → j ≤ 3 * u → (h 103) j ≤ 2) (hps : PSQ (h 103) (h 102) f) (hpa : PAQ (h 103) (h 101) (h 102)) (hmal : (h 73 50) = 0) (hgs : ∀ j : Int, FS u ≤ j → j < 3 * u + 1 → ((h 80) (10 + j) = wd9 j ∧ (h 81) (10 + j) = hd9 j) ∧ (h 83) (10 + j) = P9 j ∧ (h 86) (10 + j) = T9 j ∧ (h 88) (10 + j) = W9 j) (hwt : ∀ j : Int, FS u ≤ j → j < 3 * u + 1 → (3 ≤ (h 88) (10 + j) ∧ (h 88) (10 + j) ≤ 3 + 8 * f) ∧ (0 ≤ (h 86) (10 + j) ∧ (h 86) (10 + j) ≤ 34) ∧ (0 ≤ (h 83) (10 + j) ∧ (h 83) (10 + j) ≤ 12)) : Ctr yX12_getPacket cX12_getPacket 8 (some .int) (rmd 4) ly ly 0 0 [vR 73, vI u, vI f, vI n] h (fun r h' => (TY h' ∧ FRM [73, 83, 86, 87, 88, 101, 102, 103, 104] [42, 43, 44, 45, 50] h h') ∧ ∃ z : Int, r = some (vI z) ∧ (-1 ≤ z ∧ z ≤ 4400) ∧ (z ≤ n) ∧ (z < 0 → (h' 103) = (h 103) ∧ (h' 102) = (h 102) ∧ (h' 101) = (h 101)) ∧ (0 ≤ z → (∀ j : Int, (FS u ≤ j → j ≤ 3 * u → (h' 103) j = (h 103) j + 1) ∧ (j < FS u ∨ 3 * u < j → (h' 103) j = (h 103) j)) ∧ PSQ (h' 103) (h' 102) z ∧ PAQ (h' 103) (h' 101) (h' 102)) ∧ (∀ q : Int, q < 10 → (h' 83) q = (h 83) q) ∧ (PKQ (paS (h 100) n wd9 hd9 (FS u) (3 * u + 1 - FS u).toNat (0, 8 * f, P9, T9, W9)) z (h' 73 50)) ∧ (IMQ ((paS (h 100) n wd9 hd9 (FS u) (3 * u + 1 - FS u).toNat (0, 8 * f, P9, T9, W9)).1 = 0) (∀ j : Int, FS u ≤ j → j < 3 * u + 1 → (h' 83) (10 + j) = (paS (h 100) n wd9 hd9 (FS u) (3 * u + 1 - FS u).toNat (0, 8 * f, P9, T9, W9)).2.2.1 j ∧ ((h' 86) (10 + j) = (paS (h 100) n wd9 hd9 (FS u) (3 * u + 1 - FS u).toNat (0, 8 * f, P9, T9, W9)).2.2.2.1 j ∧ (h' 87) (10 + j) = (paS (h 100) n wd9 hd9 (FS u) (3 * u + 1 - FS u).toNat (0, 8 * f, P9, T9, W9)).2.2.2.1 j) ∧ (h' 88) (10 + j) = (paS (h 100) n wd9 hd9 (FS u) (3 * u + 1 - FS u).toNat (0, 8 * f, P9, T9, W9)).2.2.2.2 j)) ∧ (∀ j : Int, (j < FS u ∨ 3 * u + 1 ≤ j) → 0 ≤ j → (h' 83) (10 + j) = (h 83) (10 + j) ∧ (h' 86) (10 + j) = (h 86) (10 + j) ∧ (h' 87) (10 + j) = (h 87) (10 + j) ∧ (h' 88) (10 + j) = (h 88) (10 + j)) ∧ (IMQ ((paS (h 100) n wd9 hd9 (FS u) (3 * u + 1 - FS u).toNat (0, 8 * f, P9, T9, W9)).1 ≠ 0) ((h' 87) = (h 87))) ∧ (IMQ ((paS (h 100) n wd9 hd9 (FS u) (3 * u + 1 - FS u).toNat (0, 8 * f, P9, T9, W9)).1 = 0) (∀ j : Int, FS u ≤ j → j < 3 * u + 1 → (3 ≤ (h' 88) (10 + j) ∧ (h' 88) (10 + j) ≤ 3 + 8 * z) ∧ (0 ≤ (h' 86) (10 + j) ∧ (h' 86) (10 + j) ≤ 34) ∧ (0 ≤ (h' 83) (10 + j) ∧ (h' 83) (10 + j) ≤ 12))) ∧ (IMQ (0 ≤ z) (f ≤ z))) := by
  refine Ctr_of (by decide) (Nat.le_of_ble_eq_true rfl) ⟨Nat.le_refl _, Nat.le_refl _⟩ (fun K hK hQ _ => ?_)
  show TT K ly 0 0 0 [(0, vR 73), (1, vI u), (2, vI f), (3, vI n)] [] h
  have hF : FRM [73, 83, 86, 87, 88, 101, 102, 103, 104] [42, 43, 44, 45, 50] h h := FRM_rf _ _ _
  have hfs := FS_r (r := u) hu
  refine TT_aload_n hK rfl 0 rfl dX12_getPacket_0 ?_
  refine TT_iload_n hK rfl 2 rfl dX12_getPacket_1 ?_
  refine pf_X12_311 hK (by decide) rfl dX12_getPacket_2 ?_
  refine TT_hp (h' := setO h 73 (fup (h 73) 42 f)) (up_can rfl rfl rfl) ?_
  have hT_1 : TY (setO h 73 (fup (h 73) 42 f)) := tu_73_42 hT (show up h 73 42 f = (setO h 73 (fup (h 73) 42 f)) from up_can rfl rfl rfl) (by omega)
  have hF_1 : FRM [73, 83, 86, 87, 88, 101, 102, 103, 104] [42, 43, 44, 45, 50] h (setO h 73 (fup (h 73) 42 f)) := FRM_f (show up h 73 42 f = (setO h 73 (fup (h 73) 42 f)) from up_can rfl rfl rfl) hF (by decide) (by decide)
  refine TT_aload_n hK rfl 0 rfl dX12_getPacket_5 ?_
  refine TT_iconst hK dX12_getPacket_6 ?_
  refine pf_X12_314 hK (by decide) rfl dX12_getPacket_7 ?_
  refine TT_hp (h' := setO h 73 (fup (fup (h 73) 42 f) 43 0)) (up_can (sOf_eq _ _ _) rfl (setO_same _ _ _ _)) ?_
  have hT_2 : TY (setO h 73 (fup (fup (h 73) 42 f) 43 0)) := tu_73_43 hT_1 (show up (setO h 73 (fup (h 73) 42 f)) 73 43 0 = (setO h 73 (fup (fup (h 73) 42 f) 43 0)) from up_can (sOf_eq _ _ _) rfl (setO_same _ _ _ _)) (by omega)
  have hF_2 : FRM [73, 83, 86, 87, 88, 101, 102, 103, 104] [42, 43, 44, 45, 50] h (setO h 73 (fup (fup (h 73) 42 f) 43 0)) := FRM_f (show up (setO h 73 (fup (h 73) 42 f)) 73 43 0 = (setO h 73 (fup (fup (h 73) 42 f) 43 0)) from up_can (sOf_eq _ _ _) rfl (setO_same _ _ _ _)) hF_1 (by decide) (by decide)
  refine TT_aload_n hK rfl 0 rfl dX12_getPacket_10 ?_
  refine TT_iload_n hK rfl 3 rfl dX12_getPacket_11 ?_
  refine pf_X12_368 hK (by decide) rfl dX12_getPacket_12 ?_
  refine TT_hp (h' := setO h 73 (fup (fup (fup (h 73) 42 f) 43 0) 44 n)) (up_can (sOf_eq _ _ _) rfl (setO_same _ _ _ _)) ?_
  have hT_3 : TY (setO h 73 (fup (fup (fup (h 73) 42 f) 43 0) 44 n)) := tu_73_44 hT_2 (show up (setO h 73 (fup (fup (h 73) 42 f) 43 0)) 73 44 n = (setO h 73 (fup (fup (fup (h 73) 42 f) 43 0) 44 n)) from up_can (sOf_eq _ _ _) rfl (setO_same _ _ _ _)) (by omega)
  have hF_3 : FRM [73, 83, 86, 87, 88, 101, 102, 103, 104] [42, 43, 44, 45, 50] h (setO h 73 (fup (fup (fup (h 73) 42 f) 43 0) 44 n)) := FRM_f (show up (setO h 73 (fup (fup (h 73) 42 f) 43 0)) 73 44 n = (setO h 73 (fup (fup (fup (h 73) 42 f) 43 0) 44 n)) from up_can (sOf_eq _ _ _) rfl (setO_same _ _ _ _)) hF_2 (by decide) (by decide)
  refine TT_aload_n hK rfl 0 rfl dX12_getPacket_15 ?_
  refine TT_iconst hK dX12_getPacket_16 ?_
  refine pf_X12_365 hK (by decide) rfl (by first | decide | omega) dX12_getPacket_17 ?_
  refine TT_hp (h' := setO h 73 (fup (fup (fup (fup (h 73) 42 f) 43 0) 44 n) 45 0)) (up_can (sOf_eq _ _ _) rfl (setO_same _ _ _ _)) ?_
  have hT_4 : TY (setO h 73 (fup (fup (fup (fup (h 73) 42 f) 43 0) 44 n) 45 0)) := tu_73_45 hT_3 (show up (setO h 73 (fup (fup (fup (h 73) 42 f) 43 0) 44 n)) 73 45 0 = (setO h 73 (fup (fup (fup (fup (h 73) 42 f) 43 0) 44 n) 45 0)) from up_can (sOf_eq _ _ _) rfl (setO_same _ _ _ _)) (by omega)
  have hF_4 : FRM [73, 83, 86, 87, 88, 101, 102, 103, 104] [42, 43, 44, 45, 50] h (setO h 73 (fup (fup (fup (fup (h 73) 42 f) 43 0) 44 n) 45 0)) := FRM_f (show up (setO h 73 (fup (fup (fup (h 73) 42 f) 43 0) 44 n)) 73 45 0 = (setO h 73 (fup (fup (fup (fup (h 73) 42 f) 43 0) 44 n) 45 0)) from up_can (sOf_eq _ _ _) rfl (setO_same _ _ _ _)) hF_3 (by decide) (by decide)
  refine TT_iconst hK dX12_getPacket_20 ?_
  refine TT_istore hK (lv' := [(4, vI 0), (0, vR 73), (1, vI u), (2, vI f), (3, vI n)]) (by decide) rfl dX12_getPacket_21 ?_
  have L23_5 : ∀ (k5 : Nat) (k : Int) (w23_5 : Hp_), TY w23_5 → FRM [73, 83, 86, 87, 88, 101, 102, 103, 104] [42, 43, 44, 45, 50] h w23_5 → (0 ≤ k ∧ k ≤ 10) → (8 * f ≤ 8 * (w23_5 73 42) + (w23_5 73 43)) → ((w23_5 101) = h 101) → ((w23_5 102) = h 102) → ((w23_5 103) = h 103) → (∀ q : Int, q < 10 → (w23_5 83) q = h 83 q) → (((w23_5 73 42) = f ∧ (w23_5 73 43) = 0) ∧ ((w23_5 73 45) = 0 ∧ (w23_5 73 50) = 0) ∧ (w23_5 73 44) = n) → (∀ j : Int, 0 ≤ j → j < k → (w23_5 104) j = 0) → ((w23_5 83) = h 83) → ((w23_5 86) = h 86) → ((w23_5 87) = h 87) → ((w23_5 88) = h 88) → ((10 : Int) - k).toNat < k5 → TT K ly 0 0 23 [(0, vR 73), (1, vI u), (2, vI f), (3, vI n), (4, vI k)] [] w23_5 := by
    intro k5
    induction k5 with
    | zero => intro k w23_5 hT23_5 hF23_5 hk hau k101 k102 k103 k83i kf hz k83 k86 k87 k88 hk5; exact absurd hk5 (Nat.not_lt_zero _)
    | succ k5 ih5 =>
      intro k w23_5 hT23_5 hF23_5 hk hau k101 k102 k103 k83i kf hz k83 k86 k87 k88 hk5
      refine TT_iload hK 4 rfl dX12_getPacket_23 ?_
      refine TT_bipush hK (by decide) dX12_getPacket_25 ?_
      refine TT_icmp_ge hK (tgt := 44) (irm (by omega) (by omega)) (by decide) dX12_getPacket_27 (by decide) (fun hb27_6 => ?_) (fun hb27_6 => ?_)
      · have J120_7 : ∀ (w120_7 : Hp_), TY w120_7 → FRM [73, 83, 86, 87, 88, 101, 102, 103, 104] [42, 43, 44, 45, 50] h w120_7 → ((w120_7 101) = h 101) → ((w120_7 102) = h 102) → ((w120_7 103) = h 103) → (8 * f ≤ 8 * (w120_7 73 42) + (w120_7 73 43)) → (∀ q : Int, q < 10 → (w120_7 83) q = h 83 q) → ((0 ≤ (w120_7 73 45) ∧ (w120_7 73 45) ≤ 1) ∧ (0 ≤ (w120_7 73 50) ∧ (w120_7 73 50) ≤ 1)) → ((w120_7 73 44) = n) → ((w120_7 87) = h 87) → (∀ j : Int, (j < FS u ∨ 3 * u + 1 ≤ j) → 0 ≤ j → (w120_7 83) (10 + j) = h 83 (10 + j) ∧ (w120_7 86) (10 + j) = h 86 (10 + j) ∧ (w120_7 88) (10 + j) = h 88 (10 + j)) → (∀ j : Int, FS u ≤ j → j < 3 * u + 1 → (3 ≤ (w120_7 88) (10 + j) ∧ (w120_7 88) (10 + j) ≤ 3 + (8 * (w120_7 73 42) + (w120_7 73 43))) ∧ IM2 ((w120_7 73 50) = 0) ((w120_7 73 45) = 0) ((0 ≤ (w120_7 86) (10 + j) ∧ (w120_7 86) (10 + j) ≤ 34) ∧ (0 ≤ (w120_7 83) (10 + j) ∧ (w120_7 83) (10 + j) ≤ 12))) → (IM2 ((w120_7 73 50) = 0) ((w120_7 73 45) = 0) (((hdP (h 100) (8 * n) wd9 hd9 T9 (FS u) (3 * u + 1 - FS u).toNat (8 * f) P9 W9).1 = 0 ∧ 8 * (w120_7 73 42) + (w120_7 73 43) = (hdP (h 100) (8 * n) wd9 hd9 T9 (FS u) (3 * u + 1 - FS u).toNat (8 * f) P9 W9).2.1) ∧ RFQ (w120_7 83) (w120_7 86) (w120_7 88) (w120_7 104) (FS u) (3 * u + 1) T9 (hdP (h 100) (8 * n) wd9 hd9 T9 (FS u) (3 * u + 1 - FS u).toNat (8 * f) P9 W9))) → (IM2 ((w120_7 73 50) = 0) ((w120_7 73 45) = 1) ((hdP (h 100) (8 * n) wd9 hd9 T9 (FS u) (3 * u + 1 - FS u).toNat (8 * f) P9 W9).1 = 1)) → (IMQ ((w120_7 73 50) = 1) ((hdP (h 100) (8 * n) wd9 hd9 T9 (FS u) (3 * u + 1 - FS u).toNat (8 * f) P9 W9).1 = -1)) → (IM2 ((w120_7 73 50) = 0) ((w120_7 73 45) = 0) ((8 * f ≤ 8 * (w120_7 73 42) + (w120_7 73 43) ∧ 8 * (w120_7 73 42) + (w120_7 73 43) ≤ 8 * n) ∧ ∀ j : Int, FS u ≤ j → j < 3 * u + 1 → 0 ≤ (hdP (h 100) (8 * n) wd9 hd9 T9 (FS u) (3 * u + 1 - FS u).toNat (8 * f) P9 W9).2.2.2.2.2 j)) → TT K ly 0 0 120 [(0, vR 73), (1, vI u), (2, vI f), (3, vI n)] [] w120_7 := by
          intro w120_7 hT120_7 hF120_7 k101 k102 k103 hau k83i f01 k44 k87 fo fw f1 f2 f3 fe
          have J142_8 : ∀ (pl : Int), (f ≤ pl ∧ pl ≤ 4401) → (8 * (w120_7 73 42) + (w120_7 73 43) ≤ 8 * pl) → (IM2 ((w120_7 73 50) = 0) ((w120_7 73 45) = 0) (pl = ((hdP (h 100) (8 * n) wd9 hd9 T9 (FS u) (3 * u + 1 - FS u).toNat (8 * f) P9 W9).2.1 + 7) / 8)) → TT K ly 0 0 142 [(0, vR 73), (1, vI u), (2, vI f), (3, vI n)] [vJ pl] w120_7 := by
            intro pl hpl hpl8 hpl9
            refine TT_lstore hK (lv' := [(4, vJ pl), (0, vR 73), (1, vI u), (2, vI f), (3, vI n)]) (by decide) rfl dX12_getPacket_142 ?_
            refine TT_lload hK 0 rfl dX12_getPacket_144 ?_
            refine TT_l2i hK dX12_getPacket_146 ?_
            refine TT_istore hK (lv' := [(6, vI pl), (4, vJ pl), (0, vR 73), (1, vI u), (2, vI f), (3, vI n)]) (by decide) rfl dX12_getPacket_147 ?_
            refine TT_iload_n hK rfl 3 rfl dX12_getPacket_149 ?_
            refine iv_X12_326 hK (s_X12_firstOf u w120_7 hT120_7 (by first | omega | (simp [up, setR] <;> omega))) ⟨by decide, by decide⟩ (by decide) rfl rfl (Nat.le_of_ble_eq_true rfl) ⟨by decide, by decide⟩ dX12_getPacket_150 ?_
            intro r9 g150_9 hp9
            obtain ⟨⟨hT_9, hG_9⟩, z150_9, hr9, hz_9, p1_9⟩ := hp9
            rw [hr9]
            have hF_9 : FRM [73, 83, 86, 87, 88, 101, 102, 103, 104] [42, 43, 44, 45, 50] h g150_9 := FRM_tr hF120_7 hG_9 (by decide) (by decide)
            have p1_at150 := p1_9
            show TT K ly 0 0 153 [(6, vI pl), (4, vJ pl), (0, vR 73), (1, vI u), (2, vI f), (3, vI n)] [vI z150_9] g150_9
            refine TT_istore hK (lv' := [(7, vI z150_9), (6, vI pl), (4, vJ pl), (0, vR 73), (1, vI u), (2, vI f), (3, vI n)]) (by decide) rfl dX12_getPacket_153 ?_
            have L155_10 : ∀ (k10 : Nat) (bh : Int) (m : Int) (T4 : Int → Int) (m9 : Int) (ml9 : Int) (w155_10 : Hp_), TY w155_10 → FRM [73, 83, 86, 87, 88, 101, 102, 103, 104] [42, 43, 44, 45, 50] h w155_10 → (FS u ≤ m ∧ m ≤ 3 * u + 1) → ((w155_10 104) = T4) → (bh = pl + IS T4 m - IS T4 (FS u)) → (0 ≤ bh ∧ bh ≤ 4401 + 536870912 * (m - FS u)) → ((w155_10 101) = h 101) → ((w155_10 102) = h 102) → ((w155_10 103) = h 103) → (∀ q : Int, q < 10 → (w155_10 83) q = h 83 q) → ((w155_10 73 45) = m9 ∧ (w155_10 73 50) = ml9) → ((0 ≤ (w155_10 73 45) ∧ (w155_10 73 45) ≤ 1) ∧ (0 ≤ (w155_10 73 50) ∧ (w155_10 73 50) ≤ 1)) → ((w155_10 87) = h 87) → (8 * (w155_10 73 42) + (w155_10 73 43) ≤ 8 * pl) → (IM2 (ml9 = 0) (m9 = 0) (pl = ((hdP (h 100) (8 * n) wd9 hd9 T9 (FS u) (3 * u + 1 - FS u).toNat (8 * f) P9 W9).2.1 + 7) / 8)) → (∀ j : Int, (j < FS u ∨ 3 * u + 1 ≤ j) → 0 ≤ j → (w155_10 83) (10 + j) = h 83 (10 + j) ∧ (w155_10 86) (10 + j) = h 86 (10 + j) ∧ (w155_10 88) (10 + j) = h 88 (10 + j)) → (∀ j : Int, FS u ≤ j → j < 3 * u + 1 → (3 ≤ (w155_10 88) (10 + j) ∧ (w155_10 88) (10 + j) ≤ 3 + (8 * (w155_10 73 42) + (w155_10 73 43))) ∧ IM2 ((w155_10 73 50) = 0) ((w155_10 73 45) = 0) ((0 ≤ (w155_10 86) (10 + j) ∧ (w155_10 86) (10 + j) ≤ 34) ∧ (0 ≤ (w155_10 83) (10 + j) ∧ (w155_10 83) (10 + j) ≤ 12))) → (IM2 ((w155_10 73 50) = 0) ((w155_10 73 45) = 0) (((hdP (h 100) (8 * n) wd9 hd9 T9 (FS u) (3 * u + 1 - FS u).toNat (8 * f) P9 W9).1 = 0 ∧ 8 * (w155_10 73 42) + (w155_10 73 43) = (hdP (h 100) (8 * n) wd9 hd9 T9 (FS u) (3 * u + 1 - FS u).toNat (8 * f) P9 W9).2.1) ∧ RFQ (w155_10 83) (w155_10 86) (w155_10 88) (w155_10 104) (FS u) (3 * u + 1) T9 (hdP (h 100) (8 * n) wd9 hd9 T9 (FS u) (3 * u + 1 - FS u).toNat (8 * f) P9 W9))) → (IM2 ((w155_10 73 50) = 0) ((w155_10 73 45) = 1) ((hdP (h 100) (8 * n) wd9 hd9 T9 (FS u) (3 * u + 1 - FS u).toNat (8 * f) P9 W9).1 = 1)) → (IMQ ((w155_10 73 50) = 1) ((hdP (h 100) (8 * n) wd9 hd9 T9 (FS u) (3 * u + 1 - FS u).toNat (8 * f) P9 W9).1 = -1)) → (IM2 ((w155_10 73 50) = 0) ((w155_10 73 45) = 0) ((8 * f ≤ 8 * (w155_10 73 42) + (w155_10 73 43) ∧ 8 * (w155_10 73 42) + (w155_10 73 43) ≤ 8 * n) ∧ ∀ j : Int, FS u ≤ j → j < 3 * u + 1 → 0 ≤ (hdP (h 100) (8 * n) wd9 hd9 T9 (FS u) (3 * u + 1 - FS u).toNat (8 * f) P9 W9).2.2.2.2.2 j)) → (3 * u + 1 - m).toNat < k10 → TT K ly 0 0 155 [(0, vR 73), (1, vI u), (2, vI f), (3, vI n), (4, vJ bh), (6, vI pl), (7, vI m)] [] w155_10 := by
              intro k10
              induction k10 with
              | zero => intro bh m T4 m9 ml9 w155_10 hT155_10 hF155_10 hb5 hT4 hbh hbh2 k101 k102 k103 k83i km f01 k87 hp83 hp93 fo fw f1 f2 f3 fe hk10; exact absurd hk10 (Nat.not_lt_zero _)
              | succ k10 ih10 =>
                intro bh m T4 m9 ml9 w155_10 hT155_10 hF155_10 hb5 hT4 hbh hbh2 k101 k102 k103 k83i km f01 k87 hp83 hp93 fo fw f1 f2 f3 fe hk10
                refine TT_iload hK 6 rfl dX12_getPacket_155 ?_
                refine TT_iconst hK dX12_getPacket_157 ?_
                refine TT_iload_n hK rfl 1 rfl dX12_getPacket_158 ?_
                refine TT_imul hK dX12_getPacket_159 ?_
                refine TT_icmp_gt hK (tgt := 182) (irm (by omega) (by omega)) (irm (by omega) (by omega)) dX12_getPacket_160 (by decide) (fun hb160_11 => ?_) (fun hb160_11 => ?_)
                · have J204_12 : (RZQ (paS (h 100) n wd9 hd9 (FS u) (3 * u + 1 - FS u).toNat (0, 8 * f, P9, T9, W9)).1 (w155_10 73 50)) → TT K ly 0 0 204 [(0, vR 73)] [] w155_10 := by
                    intro rz
                    refine TT_iconst hK dX12_getPacket_204 ?_
                    refine TT_iret hK hQ ?_ dX12_getPacket_205
                    have e13_73_50 : w155_10 73 50 = (w155_10 73) 50 := rfl
                    exact ⟨⟨hT155_10, hF155_10⟩, (-1), rfl, (by omega), (by omega), (by first | exact (fun _ => ⟨k103, k102, k101⟩) | (intro h1; exfalso; omega)), (by first | (intro h1; exfalso; omega)), (by first | exact k83i | (intro q hq; rfl) | (intro q hq; exact fup_ne _ _ (by omega)) | (intro q hq; rw [fup_ne _ _ (by omega)]; exact k83i q hq)), (by rewrite [e13_73_50]; exact PK_1 rz rfl), (by intro q; exact absurd q (RZ_n rz)), (by intro j j0 j1; have k9 := fo j j0 j1; exact ⟨k9.1, k9.2.1, congrFun k87 _, k9.2.2⟩), (by exact fun _ => k87), (by intro q; exact absurd q (RZ_n rz)), (by intro q; exfalso; omega)⟩
                  have em : IS T4 m = IS T4 (3 * u + 1) := by rw [show m = 3 * u + 1 by omega]
                  have es9 : IS T4 (3 * u + 1) - IS T4 (FS u) = smS T4 (FS u) (3 * u + 1 - FS u).toNat := IS_sm (by omega) (by omega)
                  have sv9 : IM2 ((w155_10 73) 50 = 0) ((w155_10 73) 45 = 0) ((0 ≤ smS (hdP (h 100) (8 * n) wd9 hd9 T9 (FS u) (3 * u + 1 - FS u).toNat (8 * f) P9 W9).2.2.2.2.2 (FS u) (3 * u + 1 - FS u).toNat ∧ 0 ≤ smS T4 (FS u) (3 * u + 1 - FS u).toNat) ∧ RVQ (smS T4 (FS u) (3 * u + 1 - FS u).toNat) (smS (hdP (h 100) (8 * n) wd9 hd9 T9 (FS u) (3 * u + 1 - FS u).toNat (8 * f) P9 W9).2.2.2.2.2 (FS u) (3 * u + 1 - FS u).toNat)) := fun q q2 => SRV _ (fun j j0 j1 => by
                      have k9 := (f1 q q2).2 j j0 (by omega)
                      rw [hT4] at k9
                      exact ⟨k9.2.2.2, (fe q q2).2 j j0 (by omega), by rw [← hT4]; exact (ty_104 (i := j) (v := (w155_10 104) j) hT155_10 rfl (by omega) (by omega)).1⟩)
                  refine TT_aload_n hK rfl 0 rfl dX12_getPacket_182 ?_
                  refine gf_X12_375 hK (by decide) rfl (v := (w155_10 73) 50) rfl dX12_getPacket_183 ?_
                  have r14 := ty_73_50 (v := (w155_10 73) 50) hT155_10 rfl
                  refine TT_if_ne hK (tgt := 204) (irm (by omega) (by omega)) dX12_getPacket_186 (by decide) (fun hb186_15 => ?_) (fun hb186_15 => ?_)
                  · refine TT_sub [0] rfl ?_
                    have e16_73_50 : w155_10 73 50 = (w155_10 73) 50 := rfl
                    exact J204_12  (by rewrite [e16_73_50]; show RZQ (paX n (FS u) (3 * u + 1 - FS u).toNat (hdP (h 100) (8 * n) wd9 hd9 T9 (FS u) (3 * u + 1 - FS u).toNat (8 * f) P9 W9) ((0, 8 * f, P9, T9, W9) : PS_)).1 _; first | exact RZ_1 (f3 (by omega)) (by omega) | exact RZ_2 (f2 (by omega) (by omega)) (by omega) | exact RZ_3 (f1 (by omega) (by omega)).1.1 (by rw [← hp93 (by omega) (by omega)]; exact SV_x (sv9 (by omega) (by omega)).2 (by omega) (by omega)) (by omega))
                  · refine TT_aload_n hK rfl 0 rfl dX12_getPacket_189 ?_
                    refine gf_X12_365 hK (by decide) rfl (v := (w155_10 73) 45) rfl dX12_getPacket_190 ?_
                    have r17 := ty_73_45 (v := (w155_10 73) 45) hT155_10 rfl
                    refine TT_if_ne hK (tgt := 204) (irm (by omega) (by omega)) dX12_getPacket_193 (by decide) (fun hb193_18 => ?_) (fun hb193_18 => ?_)
                    · refine TT_sub [0] rfl ?_
                      have e19_73_50 : w155_10 73 50 = (w155_10 73) 50 := rfl
                      exact J204_12  (by rewrite [e19_73_50]; show RZQ (paX n (FS u) (3 * u + 1 - FS u).toNat (hdP (h 100) (8 * n) wd9 hd9 T9 (FS u) (3 * u + 1 - FS u).toNat (8 * f) P9 W9) ((0, 8 * f, P9, T9, W9) : PS_)).1 _; first | exact RZ_1 (f3 (by omega)) (by omega) | exact RZ_2 (f2 (by omega) (by omega)) (by omega) | exact RZ_3 (f1 (by omega) (by omega)).1.1 (by rw [← hp93 (by omega) (by omega)]; exact SV_x (sv9 (by omega) (by omega)).2 (by omega) (by omega)) (by omega))
                    · refine TT_lload hK 4 rfl dX12_getPacket_196 ?_
                      refine TT_iload_n hK rfl 3 rfl dX12_getPacket_198 ?_
                      refine TT_i2l hK (irm (by omega) (by omega)) dX12_getPacket_199 ?_
                      refine TT_lcmp hK (lrm (by omega) (by omega)) (lrm (by omega) (by omega)) dX12_getPacket_200 ?_
                      refine TT_if_le hK (tgt := 206) (lcmp_ir _ _) dX12_getPacket_201 (by decide) (fun hb201_20 => ?_) (fun hb201_20 => ?_)
                      · have hb201_20 := lcmp_le hb201_20
                        have t4n : ∀ k : Int, 0 ≤ k → k < 3 * u + 1 → 0 ≤ T4 k := fun k h1 h2 => by rw [← hT4]; exact (ty_104 (i := k) hT155_10 rfl h1 (by omega)).1
                        have q1h : HID _ := f1 (by omega) (by omega)
                        have q3h : HID _ := hp93 (by omega) (by omega)
                        have fw8 := fw
                        have q4a : HID _ := SV_y (x := n - pl) (sv9 (by omega) (by omega)).2 (by omega) (by omega)
                        have q4h : HID (smS T4 (FS u) (3 * u + 1 - FS u).toNat = smS (hdP (h 100) (8 * n) wd9 hd9 T9 (FS u) (3 * u + 1 - FS u).toNat (8 * f) P9 W9).2.2.2.2.2 (FS u) (3 * u + 1 - FS u).toNat) := q4a.2
                        have fin9 : (paS (h 100) n wd9 hd9 (FS u) (3 * u + 1 - FS u).toNat (0, 8 * f, P9, T9, W9)) = (0, 8 * (((hdP (h 100) (8 * n) wd9 hd9 T9 (FS u) (3 * u + 1 - FS u).toNat (8 * f) P9 W9).2.1 + 7) / 8 + smS (hdP (h 100) (8 * n) wd9 hd9 T9 (FS u) (3 * u + 1 - FS u).toNat (8 * f) P9 W9).2.2.2.2.2 (FS u) (3 * u + 1 - FS u).toNat), (hdP (h 100) (8 * n) wd9 hd9 T9 (FS u) (3 * u + 1 - FS u).toNat (8 * f) P9 W9).2.2.1, (fun j => if FS u ≤ j ∧ j < FS u + ((3 * u + 1 - FS u).toNat : Int) then T9 j + (hdP (h 100) (8 * n) wd9 hd9 T9 (FS u) (3 * u + 1 - FS u).toNat (8 * f) P9 W9).2.2.2.2.1 j else T9 j), (hdP (h 100) (8 * n) wd9 hd9 T9 (FS u) (3 * u + 1 - FS u).toNat (8 * f) P9 W9).2.2.2.1) := by
                            show paX n (FS u) (3 * u + 1 - FS u).toNat (hdP (h 100) (8 * n) wd9 hd9 T9 (FS u) (3 * u + 1 - FS u).toNat (8 * f) P9 W9) ((0, 8 * f, P9, T9, W9) : PS_) = _
                            exact paX_3 q1h.1.1 (by rw [← HI_e q3h]; exact q4a.1)
                        refine TT_iload_n hK rfl 1 rfl dX12_getPacket_206 ?_
                        refine iv_X12_326 hK (s_X12_firstOf u w155_10 hT155_10 (by first | omega | (simp [up, setR] <;> omega))) ⟨by decide, by decide⟩ (by decide) rfl rfl (Nat.le_of_ble_eq_true rfl) ⟨by decide, by decide⟩ dX12_getPacket_207 ?_
                        intro r9 g207_21 hp9
                        obtain ⟨⟨hT_21, hG_21⟩, z207_21, hr9, hz_21, p1_21⟩ := hp9
                        rw [hr9]
                        have hF_21 : FRM [73, 83, 86, 87, 88, 101, 102, 103, 104] [42, 43, 44, 45, 50] h g207_21 := FRM_tr hF155_10 hG_21 (by decide) (by decide)
                        have p1_at207 := p1_21
                        show TT K ly 0 0 210 [(0, vR 73), (1, vI u), (2, vI f), (3, vI n), (4, vJ bh), (6, vI pl), (7, vI m)] [vI z207_21] g207_21
                        refine TT_istore hK (lv' := [(7, vI z207_21), (0, vR 73), (1, vI u), (2, vI f), (3, vI n), (4, vJ bh), (6, vI pl)]) (by decide) rfl dX12_getPacket_210 ?_
                        have L212_22 : ∀ (k22 : Nat) (pl2 : Int) (b : Int) (w212_22 : Hp_), TY w212_22 → FRM [73, 83, 86, 87, 88, 101, 102, 103, 104] [42, 43, 44, 45, 50] h w212_22 → (FS u ≤ b ∧ b ≤ 3 * u + 1) → ((w212_22 104) = T4) → (pl2 = pl + IS T4 b - IS T4 (FS u)) → (∀ j : Int, (FS u ≤ j → j < b → (w212_22 103) j = h 103 j + 1) ∧ (j < FS u ∨ b ≤ j → (w212_22 103) j = h 103 j)) → (PSQ (w212_22 103) (w212_22 102) pl2) → (PAQ (w212_22 103) (w212_22 101) (w212_22 102)) → (∀ q : Int, q < 10 → (w212_22 83) q = h 83 q) → ((w212_22 73 45) = 0 ∧ (w212_22 73 50) = 0) → (∀ j : Int, (j < FS u ∨ 3 * u + 1 ≤ j) → 0 ≤ j → (w212_22 83) (10 + j) = h 83 (10 + j) ∧ (w212_22 86) (10 + j) = h 86 (10 + j) ∧ (w212_22 88) (10 + j) = h 88 (10 + j)) → (RFQ (w212_22 83) (w212_22 86) (w212_22 88) (w212_22 104) (FS u) (3 * u + 1) T9 (hdP (h 100) (8 * n) wd9 hd9 T9 (FS u) (3 * u + 1 - FS u).toNat (8 * f) P9 W9)) → (∀ j : Int, FS u ≤ j → j < 3 * u + 1 → (3 ≤ (w212_22 88) (10 + j) ∧ (w212_22 88) (10 + j) ≤ 3 + 8 * pl) ∧ (0 ≤ (w212_22 86) (10 + j) ∧ (w212_22 86) (10 + j) ≤ 34) ∧ (0 ≤ (w212_22 83) (10 + j) ∧ (w212_22 83) (10 + j) ≤ 12)) → (∀ j : Int, FS u ≤ j → j < b → (w212_22 87) (10 + j) = (w212_22 86) (10 + j)) → (∀ j : Int, (j < FS u ∨ b ≤ j) → (w212_22 87) (10 + j) = h 87 (10 + j)) → (3 * u + 1 - b).toNat < k22 → TT K ly 0 0 212 [(0, vR 73), (1, vI u), (2, vI f), (3, vI n), (6, vI pl2), (7, vI b)] [] w212_22 := by
                          intro k22
                          induction k22 with
                          | zero => intro pl2 b w212_22 hT212_22 hF212_22 hb hT4b hpl2 hpc hps2 hpa2 k83i km2 fo rf2 fw2 hh hh2 hk22; exact absurd hk22 (Nat.not_lt_zero _)
                          | succ k22 ih22 =>
                            intro pl2 b w212_22 hT212_22 hF212_22 hb hT4b hpl2 hpc hps2 hpa2 k83i km2 fo rf2 fw2 hh hh2 hk22
                            have il := IS_mono (f := T4) (b := FS u) (c := b) (by omega) (by omega) (fun k h1 h2 => t4n k h1 (by omega))
                            refine TT_iload hK 5 rfl dX12_getPacket_212 ?_
                            refine TT_iconst hK dX12_getPacket_214 ?_
                            refine TT_iload_n hK rfl 1 rfl dX12_getPacket_215 ?_
                            refine TT_imul hK dX12_getPacket_216 ?_
                            refine TT_icmp_gt hK (tgt := 312) (irm (by omega) (by omega)) (irm (by omega) (by omega)) dX12_getPacket_217 (by decide) (fun hb217_23 => ?_) (fun hb217_23 => ?_)
                            · have eb : IS T4 b = IS T4 (3 * u + 1) := by rw [show b = 3 * u + 1 by omega]
                              refine TT_iload hK 4 rfl dX12_getPacket_312 ?_
                              refine TT_iret hK hQ ?_ dX12_getPacket_314
                              have e24_73_50 : w212_22 73 50 = (w212_22 73) 50 := rfl
                              exact ⟨⟨hT212_22, hF212_22⟩, pl2, rfl, (by omega), (by omega), (by first | exact (fun _ => ⟨k103, k102, k101⟩) | (intro h1; exfalso; omega)), (by first | (intro h1; exfalso; omega) | exact (fun _ => ⟨fun j => ⟨fun h2 h3 => (hpc j).1 h2 (by omega), fun h2 => (hpc j).2 (by omega)⟩, hps2, hpa2⟩)), (by first | exact k83i | (intro q hq; rfl) | (intro q hq; exact fup_ne _ _ (by omega)) | (intro q hq; rw [fup_ne _ _ (by omega)]; exact k83i q hq)), (by rewrite [e24_73_50]; rw [fin9]; refine PK_0 rfl ?_ (by omega) (by omega); show 8 * (((hdP (h 100) (8 * n) wd9 hd9 T9 (FS u) (3 * u + 1 - FS u).toNat (8 * f) P9 W9).2.1 + 7) / 8 + smS (hdP (h 100) (8 * n) wd9 hd9 T9 (FS u) (3 * u + 1 - FS u).toNat (8 * f) P9 W9).2.2.2.2.2 (FS u) (3 * u + 1 - FS u).toNat) = _; rw [← HI_e q3h, ← HI_e q4h]; omega), (by intro _ j j0 j1; rw [fin9]; have k9 := rf2 j j0 j1; have k8 := hh j j0 (by omega); rw [k8]; refine ⟨k9.1, ?_, k9.2.2.1⟩; have k7 : (if FS u ≤ j ∧ j < FS u + ((3 * u + 1 - FS u).toNat : Int) then T9 j + (hdP (h 100) (8 * n) wd9 hd9 T9 (FS u) (3 * u + 1 - FS u).toNat (8 * f) P9 W9).2.2.2.2.1 j else T9 j) = T9 j + (hdP (h 100) (8 * n) wd9 hd9 T9 (FS u) (3 * u + 1 - FS u).toNat (8 * f) P9 W9).2.2.2.2.1 j := if_pos (by omega); exact ⟨k9.2.1.trans k7.symm, k9.2.1.trans k7.symm⟩), (by intro j j0 j1; have k9 := fo j j0 j1; exact ⟨k9.1, k9.2.1, hh2 j (by omega), k9.2.2⟩), (by intro q; rw [fin9] at q; exact absurd rfl q), (by intro _ j j0 j1; have k9 := fw2 j j0 j1; have k7 := k9.1; exact ⟨by omega, k9.2⟩), (by intro _; omega)⟩
                            · have is1 : IS T4 (b + 1) = IS T4 b + T4 b := IS_s (by omega)
                              have e4 := congrFun hT4b b
                              have t4b := t4n b (by omega) (by omega)
                              have im := IS_mono (f := T4) (b := b + 1) (c := 3 * u + 1) (by omega) (by omega) t4n
                              have hpb := (hpc b).2 (Or.inr (Int.le_refl _))
                              have hp2b := hp2 b (by omega) (by omega)
                              refine TT_aload_n hK rfl 0 rfl dX12_getPacket_220 ?_
                              refine gf_X12_99 hK (by decide) rfl (q := 101) rfl rfl dX12_getPacket_221 ?_
                              refine TT_iconst hK dX12_getPacket_224 ?_
                              refine TT_iload hK 5 rfl dX12_getPacket_225 ?_
                              refine TT_imul hK dX12_getPacket_227 ?_
                              refine TT_aload_n hK rfl 0 rfl dX12_getPacket_228 ?_
                              refine gf_X12_105 hK (by decide) rfl (q := 103) rfl rfl dX12_getPacket_229 ?_
                              refine TT_iload hK 5 rfl dX12_getPacket_232 ?_
                              refine TT_iald hK (o := 103) (n := 10) (by decide) rfl (by first | omega | (simp [up, setR] <;> omega)) (by first | omega | (simp [up, setR] <;> omega)) (v := (w212_22 103) b) rfl dX12_getPacket_234 ?_
                              have r25 := ty_103 (i := b) (v := (w212_22 103) b) hT212_22 rfl (by omega) (by omega)
                              refine TT_iadd hK dX12_getPacket_235 ?_
                              refine TT_iload hK 4 rfl dX12_getPacket_236 ?_
                              refine TT_iast hK (o := 101) (n := 30) (by decide) rfl (by omega) (by omega) dX12_getPacket_238 ?_
                              refine TT_hp (h' := setO w212_22 101 (fup (w212_22 101) ((3 * b) + ((w212_22 103) b)) pl2)) (up_can rfl rfl rfl) ?_
                              have hT_26 : TY (setO w212_22 101 (fup (w212_22 101) ((3 * b) + ((w212_22 103) b)) pl2)) := tu_101 hT212_22 (show up w212_22 101 ((3 * b) + ((w212_22 103) b)) pl2 = (setO w212_22 101 (fup (w212_22 101) ((3 * b) + ((w212_22 103) b)) pl2)) from up_can rfl rfl rfl) (by omega)
                              have hF_26 : FRM [73, 83, 86, 87, 88, 101, 102, 103, 104] [42, 43, 44, 45, 50] h (setO w212_22 101 (fup (w212_22 101) ((3 * b) + ((w212_22 103) b)) pl2)) := FRM_up (show up w212_22 101 ((3 * b) + ((w212_22 103) b)) pl2 = (setO w212_22 101 (fup (w212_22 101) ((3 * b) + ((w212_22 103) b)) pl2)) from up_can rfl rfl rfl) hF212_22 (by decide) (by decide)
                              refine TT_aload_n hK rfl 0 rfl dX12_getPacket_239 ?_
                              refine gf_X12_102 hK (by decide) rfl (q := 102) rfl rfl dX12_getPacket_240 ?_
                              refine TT_iconst hK dX12_getPacket_243 ?_
                              refine TT_iload hK 5 rfl dX12_getPacket_244 ?_
                              refine TT_imul hK dX12_getPacket_246 ?_
                              refine TT_aload_n hK rfl 0 rfl dX12_getPacket_247 ?_
                              refine gf_X12_105 hK (by decide) rfl (q := 103) rfl rfl dX12_getPacket_248 ?_
                              refine TT_iload hK 5 rfl dX12_getPacket_251 ?_
                              refine TT_iald hK (o := 103) (n := 10) (by decide) rfl (by first | omega | (simp [up, setR] <;> omega)) (by first | omega | (simp [up, setR] <;> omega)) (v := (w212_22 103) b) (rd_ (sOf_ne _ _ (by decide)) rfl) dX12_getPacket_253 ?_
                              refine TT_iadd hK dX12_getPacket_254 ?_
                              refine TT_aload_n hK rfl 0 rfl dX12_getPacket_255 ?_
                              refine gf_X12_108 hK (by decide) rfl (q := 104) rfl rfl dX12_getPacket_256 ?_
                              refine TT_iload hK 5 rfl dX12_getPacket_259 ?_
                              refine TT_iald hK (o := 104) (n := 10) (by decide) rfl (by first | omega | (simp [up, setR] <;> omega)) (by first | omega | (simp [up, setR] <;> omega)) (v := (w212_22 104) b) (rd_ (sOf_ne _ _ (by decide)) rfl) dX12_getPacket_261 ?_
                              have r27 := ty_104 (i := b) (v := (w212_22 104) b) hT_26 (rd_ (sOf_ne _ _ (by decide)) rfl) (by omega) (by omega)
                              refine TT_iast hK (o := 102) (n := 30) (by decide) rfl (by omega) (by omega) dX12_getPacket_262 ?_
                              refine TT_hp (h' := setO (setO w212_22 101 (fup (w212_22 101) ((3 * b) + ((w212_22 103) b)) pl2)) 102 (fup (w212_22 102) ((3 * b) + ((w212_22 103) b)) ((w212_22 104) b))) (up_can (sOf_ne _ _ (by decide)) rfl rfl) ?_
                              have hT_28 : TY (setO (setO w212_22 101 (fup (w212_22 101) ((3 * b) + ((w212_22 103) b)) pl2)) 102 (fup (w212_22 102) ((3 * b) + ((w212_22 103) b)) ((w212_22 104) b))) := tu_102 hT_26 (show up (setO w212_22 101 (fup (w212_22 101) ((3 * b) + ((w212_22 103) b)) pl2)) 102 ((3 * b) + ((w212_22 103) b)) ((w212_22 104) b) = (setO (setO w212_22 101 (fup (w212_22 101) ((3 * b) + ((w212_22 103) b)) pl2)) 102 (fup (w212_22 102) ((3 * b) + ((w212_22 103) b)) ((w212_22 104) b))) from up_can (sOf_ne _ _ (by decide)) rfl rfl) (by omega)
                              have hF_28 : FRM [73, 83, 86, 87, 88, 101, 102, 103, 104] [42, 43, 44, 45, 50] h (setO (setO w212_22 101 (fup (w212_22 101) ((3 * b) + ((w212_22 103) b)) pl2)) 102 (fup (w212_22 102) ((3 * b) + ((w212_22 103) b)) ((w212_22 104) b))) := FRM_up (show up (setO w212_22 101 (fup (w212_22 101) ((3 * b) + ((w212_22 103) b)) pl2)) 102 ((3 * b) + ((w212_22 103) b)) ((w212_22 104) b) = (setO (setO w212_22 101 (fup (w212_22 101) ((3 * b) + ((w212_22 103) b)) pl2)) 102 (fup (w212_22 102) ((3 * b) + ((w212_22 103) b)) ((w212_22 104) b))) from up_can (sOf_ne _ _ (by decide)) rfl rfl) hF_26 (by decide) (by decide)
                              refine TT_aload_n hK rfl 0 rfl dX12_getPacket_263 ?_
                              refine gf_X12_105 hK (by decide) rfl (q := 103) rfl rfl dX12_getPacket_264 ?_
                              refine TT_iload hK 5 rfl dX12_getPacket_267 ?_
                              refine TT_dup2 hK rfl rfl dX12_getPacket_269 ?_
                              refine TT_iald hK (o := 103) (n := 10) (by decide) rfl (by first | omega | (simp [up, setR] <;> omega)) (by first | omega | (simp [up, setR] <;> omega)) (v := (w212_22 103) b) (rd_ ((sOf_ne _ _ (by decide)).trans (sOf_ne _ _ (by decide))) rfl) dX12_getPacket_270 ?_
                              refine TT_iconst hK dX12_getPacket_271 ?_
                              refine TT_iadd hK dX12_getPacket_272 ?_
                              refine TT_iast hK (o := 103) (n := 10) (by decide) rfl (by omega) (by omega) dX12_getPacket_273 ?_
                              refine TT_hp (h' := setO (setO (setO w212_22 101 (fup (w212_22 101) ((3 * b) + ((w212_22 103) b)) pl2)) 102 (fup (w212_22 102) ((3 * b) + ((w212_22 103) b)) ((w212_22 104) b))) 103 (fup (w212_22 103) b (((w212_22 103) b) + 1))) (up_can ((sOf_ne _ _ (by decide)).trans (sOf_ne _ _ (by decide))) rfl rfl) ?_
                              have hT_29 : TY (setO (setO (setO w212_22 101 (fup (w212_22 101) ((3 * b) + ((w212_22 103) b)) pl2)) 102 (fup (w212_22 102) ((3 * b) + ((w212_22 103) b)) ((w212_22 104) b))) 103 (fup (w212_22 103) b (((w212_22 103) b) + 1))) := tu_103 hT_28 (show up (setO (setO w212_22 101 (fup (w212_22 101) ((3 * b) + ((w212_22 103) b)) pl2)) 102 (fup (w212_22 102) ((3 * b) + ((w212_22 103) b)) ((w212_22 104) b))) 103 b (((w212_22 103) b) + 1) = (setO (setO (setO w212_22 101 (fup (w212_22 101) ((3 * b) + ((w212_22 103) b)) pl2)) 102 (fup (w212_22 102) ((3 * b) + ((w212_22 103) b)) ((w212_22 104) b))) 103 (fup (w212_22 103) b (((w212_22 103) b) + 1))) from up_can ((sOf_ne _ _ (by decide)).trans (sOf_ne _ _ (by decide))) rfl rfl) (by omega)
                              have hF_29 : FRM [73, 83, 86, 87, 88, 101, 102, 103, 104] [42, 43, 44, 45, 50] h (setO (setO (setO w212_22 101 (fup (w212_22 101) ((3 * b) + ((w212_22 103) b)) pl2)) 102 (fup (w212_22 102) ((3 * b) + ((w212_22 103) b)) ((w212_22 104) b))) 103 (fup (w212_22 103) b (((w212_22 103) b) + 1))) := FRM_up (show up (setO (setO w212_22 101 (fup (w212_22 101) ((3 * b) + ((w212_22 103) b)) pl2)) 102 (fup (w212_22 102) ((3 * b) + ((w212_22 103) b)) ((w212_22 104) b))) 103 b (((w212_22 103) b) + 1) = (setO (setO (setO w212_22 101 (fup (w212_22 101) ((3 * b) + ((w212_22 103) b)) pl2)) 102 (fup (w212_22 102) ((3 * b) + ((w212_22 103) b)) ((w212_22 104) b))) 103 (fup (w212_22 103) b (((w212_22 103) b) + 1))) from up_can ((sOf_ne _ _ (by decide)).trans (sOf_ne _ _ (by decide))) rfl rfl) hF_28 (by decide) (by decide)
                              refine TT_iload hK 4 rfl dX12_getPacket_274 ?_
                              refine TT_aload_n hK rfl 0 rfl dX12_getPacket_276 ?_
                              refine gf_X12_108 hK (by decide) rfl (q := 104) rfl rfl dX12_getPacket_277 ?_
                              refine TT_iload hK 5 rfl dX12_getPacket_280 ?_
                              refine TT_iald hK (o := 104) (n := 10) (by decide) rfl (by first | omega | (simp [up, setR] <;> omega)) (by first | omega | (simp [up, setR] <;> omega)) (v := (w212_22 104) b) (rd_ ((sOf_ne _ _ (by decide)).trans ((sOf_ne _ _ (by decide)).trans (sOf_ne _ _ (by decide)))) rfl) dX12_getPacket_282 ?_
                              refine TT_iadd hK dX12_getPacket_283 ?_
                              refine TT_istore hK (lv' := [(6, vI (pl2 + ((w212_22 104) b))), (0, vR 73), (1, vI u), (2, vI f), (3, vI n), (7, vI b)]) (by decide) rfl dX12_getPacket_284 ?_
                              refine TT_aload_n hK rfl 1 rfl dX12_getPacket_286 ?_
                              refine gf_X12_57 hK (by decide) rfl (q := 87) rfl rfl dX12_getPacket_287 ?_
                              refine TT_bipush hK (by decide) dX12_getPacket_290 ?_
                              refine TT_iload hK 5 rfl dX12_getPacket_292 ?_
                              refine TT_iadd hK dX12_getPacket_294 ?_
                              refine TT_aload_n hK rfl 1 rfl dX12_getPacket_295 ?_
                              refine gf_X12_54 hK (by decide) rfl (q := 86) rfl rfl dX12_getPacket_296 ?_
                              refine TT_bipush hK (by decide) dX12_getPacket_299 ?_
                              refine TT_iload hK 5 rfl dX12_getPacket_301 ?_
                              refine TT_iadd hK dX12_getPacket_303 ?_
                              refine TT_iald hK (o := 86) (n := 20) (by decide) rfl (by first | omega | (simp [up, setR] <;> omega)) (by first | omega | (simp [up, setR] <;> omega)) (v := (w212_22 86) (10 + b)) (rd_ ((sOf_ne _ _ (by decide)).trans ((sOf_ne _ _ (by decide)).trans (sOf_ne _ _ (by decide)))) rfl) dX12_getPacket_304 ?_
                              have r30 := ty_86 (i := 10 + b) (v := (w212_22 86) (10 + b)) hT_29 (rd_ ((sOf_ne _ _ (by decide)).trans ((sOf_ne _ _ (by decide)).trans (sOf_ne _ _ (by decide)))) rfl) (by omega) (by omega)
                              refine TT_iast hK (o := 87) (n := 20) (by decide) rfl (by omega) (by omega) dX12_getPacket_305 ?_
                              refine TT_hp (h' := setO (setO (setO (setO w212_22 87 (fup (w212_22 87) (10 + b) ((w212_22 86) (10 + b)))) 101 (fup (w212_22 101) ((3 * b) + ((w212_22 103) b)) pl2)) 102 (fup (w212_22 102) ((3 * b) + ((w212_22 103) b)) ((w212_22 104) b))) 103 (fup (w212_22 103) b (((w212_22 103) b) + 1))) (up_can ((sOf_ne _ _ (by decide)).trans ((sOf_ne _ _ (by decide)).trans (sOf_ne _ _ (by decide)))) rfl ((setO_comm _ _ _ (by decide)).trans (setO_cg ((setO_comm _ _ _ (by decide)).trans (setO_cg ((setO_comm _ _ _ (by decide)).trans (setO_cg rfl rfl)) rfl)) rfl))) ?_
                              have hT_31 : TY (setO (setO (setO (setO w212_22 87 (fup (w212_22 87) (10 + b) ((w212_22 86) (10 + b)))) 101 (fup (w212_22 101) ((3 * b) + ((w212_22 103) b)) pl2)) 102 (fup (w212_22 102) ((3 * b) + ((w212_22 103) b)) ((w212_22 104) b))) 103 (fup (w212_22 103) b (((w212_22 103) b) + 1))) := tu_87 hT_29 (show up (setO (setO (setO w212_22 101 (fup (w212_22 101) ((3 * b) + ((w212_22 103) b)) pl2)) 102 (fup (w212_22 102) ((3 * b) + ((w212_22 103) b)) ((w212_22 104) b))) 103 (fup (w212_22 103) b (((w212_22 103) b) + 1))) 87 (10 + b) ((w212_22 86) (10 + b)) = (setO (setO (setO (setO w212_22 87 (fup (w212_22 87) (10 + b) ((w212_22 86) (10 + b)))) 101 (fup (w212_22 101) ((3 * b) + ((w212_22 103) b)) pl2)) 102 (fup (w212_22 102) ((3 * b) + ((w212_22 103) b)) ((w212_22 104) b))) 103 (fup (w212_22 103) b (((w212_22 103) b) + 1))) from up_can ((sOf_ne _ _ (by decide)).trans ((sOf_ne _ _ (by decide)).trans (sOf_ne _ _ (by decide)))) rfl ((setO_comm _ _ _ (by decide)).trans (setO_cg ((setO_comm _ _ _ (by decide)).trans (setO_cg ((setO_comm _ _ _ (by decide)).trans (setO_cg rfl rfl)) rfl)) rfl))) (by omega)
                              have hF_31 : FRM [73, 83, 86, 87, 88, 101, 102, 103, 104] [42, 43, 44, 45, 50] h (setO (setO (setO (setO w212_22 87 (fup (w212_22 87) (10 + b) ((w212_22 86) (10 + b)))) 101 (fup (w212_22 101) ((3 * b) + ((w212_22 103) b)) pl2)) 102 (fup (w212_22 102) ((3 * b) + ((w212_22 103) b)) ((w212_22 104) b))) 103 (fup (w212_22 103) b (((w212_22 103) b) + 1))) := FRM_up (show up (setO (setO (setO w212_22 101 (fup (w212_22 101) ((3 * b) + ((w212_22 103) b)) pl2)) 102 (fup (w212_22 102) ((3 * b) + ((w212_22 103) b)) ((w212_22 104) b))) 103 (fup (w212_22 103) b (((w212_22 103) b) + 1))) 87 (10 + b) ((w212_22 86) (10 + b)) = (setO (setO (setO (setO w212_22 87 (fup (w212_22 87) (10 + b) ((w212_22 86) (10 + b)))) 101 (fup (w212_22 101) ((3 * b) + ((w212_22 103) b)) pl2)) 102 (fup (w212_22 102) ((3 * b) + ((w212_22 103) b)) ((w212_22 104) b))) 103 (fup (w212_22 103) b (((w212_22 103) b) + 1))) from up_can ((sOf_ne _ _ (by decide)).trans ((sOf_ne _ _ (by decide)).trans (sOf_ne _ _ (by decide)))) rfl ((setO_comm _ _ _ (by decide)).trans (setO_cg ((setO_comm _ _ _ (by decide)).trans (setO_cg ((setO_comm _ _ _ (by decide)).trans (setO_cg rfl rfl)) rfl)) rfl))) hF_29 (by decide) (by decide)
                              refine TT_iinc hK (v := b + 1) (lv' := [(7, vI (b + 1)), (6, vI (pl2 + ((w212_22 104) b))), (0, vR 73), (1, vI u), (2, vI f), (3, vI n)]) 5 rfl rfl (by decide) rfl dX12_getPacket_306 ?_
                              refine TT_goto hK (tgt := 212) dX12_getPacket_309 (by decide) ?_
                              refine TT_sub [2, 3, 4, 5, 1, 0] rfl ?_
                              have e32_104 : (setO (setO (setO (setO w212_22 87 (fup (w212_22 87) (10 + b) ((w212_22 86) (10 + b)))) 101 (fup (w212_22 101) ((3 * b) + ((w212_22 103) b)) pl2)) 102 (fup (w212_22 102) ((3 * b) + ((w212_22 103) b)) ((w212_22 104) b))) 103 (fup (w212_22 103) b (((w212_22 103) b) + 1))) 104 = w212_22 104 := (sOf_ne _ _ (by decide)).trans ((sOf_ne _ _ (by decide)).trans ((sOf_ne _ _ (by decide)).trans (sOf_ne _ _ (by decide))))
                              have e33_103 : (setO (setO (setO (setO w212_22 87 (fup (w212_22 87) (10 + b) ((w212_22 86) (10 + b)))) 101 (fup (w212_22 101) ((3 * b) + ((w212_22 103) b)) pl2)) 102 (fup (w212_22 102) ((3 * b) + ((w212_22 103) b)) ((w212_22 104) b))) 103 (fup (w212_22 103) b (((w212_22 103) b) + 1))) 103 = fup (w212_22 103) b (((w212_22 103) b) + 1) := sOf_eq _ _ _
                              have e34_102 : (setO (setO (setO (setO w212_22 87 (fup (w212_22 87) (10 + b) ((w212_22 86) (10 + b)))) 101 (fup (w212_22 101) ((3 * b) + ((w212_22 103) b)) pl2)) 102 (fup (w212_22 102) ((3 * b) + ((w212_22 103) b)) ((w212_22 104) b))) 103 (fup (w212_22 103) b (((w212_22 103) b) + 1))) 102 = fup (w212_22 102) ((3 * b) + ((w212_22 103) b)) ((w212_22 104) b) := (sOf_ne _ _ (by decide)).trans (sOf_eq _ _ _)
                              have e35_103 : (setO (setO (setO (setO w212_22 87 (fup (w212_22 87) (10 + b) ((w212_22 86) (10 + b)))) 101 (fup (w212_22 101) ((3 * b) + ((w212_22 103) b)) pl2)) 102 (fup (w212_22 102) ((3 * b) + ((w212_22 103) b)) ((w212_22 104) b))) 103 (fup (w212_22 103) b (((w212_22 103) b) + 1))) 103 = fup (w212_22 103) b (((w212_22 103) b) + 1) := sOf_eq _ _ _
                              have e36_101 : (setO (setO (setO (setO w212_22 87 (fup (w212_22 87) (10 + b) ((w212_22 86) (10 + b)))) 101 (fup (w212_22 101) ((3 * b) + ((w212_22 103) b)) pl2)) 102 (fup (w212_22 102) ((3 * b) + ((w212_22 103) b)) ((w212_22 104) b))) 103 (fup (w212_22 103) b (((w212_22 103) b) + 1))) 101 = fup (w212_22 101) ((3 * b) + ((w212_22 103) b)) pl2 := (sOf_ne _ _ (by decide)).trans ((sOf_ne _ _ (by decide)).trans (sOf_eq _ _ _))
                              have e37_102 : (setO (setO (setO (setO w212_22 87 (fup (w212_22 87) (10 + b) ((w212_22 86) (10 + b)))) 101 (fup (w212_22 101) ((3 * b) + ((w212_22 103) b)) pl2)) 102 (fup (w212_22 102) ((3 * b) + ((w212_22 103) b)) ((w212_22 104) b))) 103 (fup (w212_22 103) b (((w212_22 103) b) + 1))) 102 = fup (w212_22 102) ((3 * b) + ((w212_22 103) b)) ((w212_22 104) b) := (sOf_ne _ _ (by decide)).trans (sOf_eq _ _ _)
                              have e38_103 : (setO (setO (setO (setO w212_22 87 (fup (w212_22 87) (10 + b) ((w212_22 86) (10 + b)))) 101 (fup (w212_22 101) ((3 * b) + ((w212_22 103) b)) pl2)) 102 (fup (w212_22 102) ((3 * b) + ((w212_22 103) b)) ((w212_22 104) b))) 103 (fup (w212_22 103) b (((w212_22 103) b) + 1))) 103 = fup (w212_22 103) b (((w212_22 103) b) + 1) := sOf_eq _ _ _
                              have e39_83 : (setO (setO (setO (setO w212_22 87 (fup (w212_22 87) (10 + b) ((w212_22 86) (10 + b)))) 101 (fup (w212_22 101) ((3 * b) + ((w212_22 103) b)) pl2)) 102 (fup (w212_22 102) ((3 * b) + ((w212_22 103) b)) ((w212_22 104) b))) 103 (fup (w212_22 103) b (((w212_22 103) b) + 1))) 83 = w212_22 83 := (sOf_ne _ _ (by decide)).trans ((sOf_ne _ _ (by decide)).trans ((sOf_ne _ _ (by decide)).trans (sOf_ne _ _ (by decide))))
                              have e40_73_45 : (setO (setO (setO (setO w212_22 87 (fup (w212_22 87) (10 + b) ((w212_22 86) (10 + b)))) 101 (fup (w212_22 101) ((3 * b) + ((w212_22 103) b)) pl2)) 102 (fup (w212_22 102) ((3 * b) + ((w212_22 103) b)) ((w212_22 104) b))) 103 (fup (w212_22 103) b (((w212_22 103) b) + 1))) 73 45 = (w212_22 73) 45 := rd_ ((sOf_ne _ _ (by decide)).trans ((sOf_ne _ _ (by decide)).trans ((sOf_ne _ _ (by decide)).trans (sOf_ne _ _ (by decide))))) rfl
                              have e41_73_50 : (setO (setO (setO (setO w212_22 87 (fup (w212_22 87) (10 + b) ((w212_22 86) (10 + b)))) 101 (fup (w212_22 101) ((3 * b) + ((w212_22 103) b)) pl2)) 102 (fup (w212_22 102) ((3 * b) + ((w212_22 103) b)) ((w212_22 104) b))) 103 (fup (w212_22 103) b (((w212_22 103) b) + 1))) 73 50 = (w212_22 73) 50 := rd_ ((sOf_ne _ _ (by decide)).trans ((sOf_ne _ _ (by decide)).trans ((sOf_ne _ _ (by decide)).trans (sOf_ne _ _ (by decide))))) rfl
                              have e42_83 : (setO (setO (setO (setO w212_22 87 (fup (w212_22 87) (10 + b) ((w212_22 86) (10 + b)))) 101 (fup (w212_22 101) ((3 * b) + ((w212_22 103) b)) pl2)) 102 (fup (w212_22 102) ((3 * b) + ((w212_22 103) b)) ((w212_22 104) b))) 103 (fup (w212_22 103) b (((w212_22 103) b) + 1))) 83 = w212_22 83 := (sOf_ne _ _ (by decide)).trans ((sOf_ne _ _ (by decide)).trans ((sOf_ne _ _ (by decide)).trans (sOf_ne _ _ (by decide))))
                              have e43_86 : (setO (setO (setO (setO w212_22 87 (fup (w212_22 87) (10 + b) ((w212_22 86) (10 + b)))) 101 (fup (w212_22 101) ((3 * b) + ((w212_22 103) b)) pl2)) 102 (fup (w212_22 102) ((3 * b) + ((w212_22 103) b)) ((w212_22 104) b))) 103 (fup (w212_22 103) b (((w212_22 103) b) + 1))) 86 = w212_22 86 := (sOf_ne _ _ (by decide)).trans ((sOf_ne _ _ (by decide)).trans ((sOf_ne _ _ (by decide)).trans (sOf_ne _ _ (by decide))))
                              have e44_88 : (setO (setO (setO (setO w212_22 87 (fup (w212_22 87) (10 + b) ((w212_22 86) (10 + b)))) 101 (fup (w212_22 101) ((3 * b) + ((w212_22 103) b)) pl2)) 102 (fup (w212_22 102) ((3 * b) + ((w212_22 103) b)) ((w212_22 104) b))) 103 (fup (w212_22 103) b (((w212_22 103) b) + 1))) 88 = w212_22 88 := (sOf_ne _ _ (by decide)).trans ((sOf_ne _ _ (by decide)).trans ((sOf_ne _ _ (by decide)).trans (sOf_ne _ _ (by decide))))
                              have e45_104 : (setO (setO (setO (setO w212_22 87 (fup (w212_22 87) (10 + b) ((w212_22 86) (10 + b)))) 101 (fup (w212_22 101) ((3 * b) + ((w212_22 103) b)) pl2)) 102 (fup (w212_22 102) ((3 * b) + ((w212_22 103) b)) ((w212_22 104) b))) 103 (fup (w212_22 103) b (((w212_22 103) b) + 1))) 104 = w212_22 104 := (sOf_ne _ _ (by decide)).trans ((sOf_ne _ _ (by decide)).trans ((sOf_ne _ _ (by decide)).trans (sOf_ne _ _ (by decide))))
                              have e46_83 : (setO (setO (setO (setO w212_22 87 (fup (w212_22 87) (10 + b) ((w212_22 86) (10 + b)))) 101 (fup (w212_22 101) ((3 * b) + ((w212_22 103) b)) pl2)) 102 (fup (w212_22 102) ((3 * b) + ((w212_22 103) b)) ((w212_22 104) b))) 103 (fup (w212_22 103) b (((w212_22 103) b) + 1))) 83 = w212_22 83 := (sOf_ne _ _ (by decide)).trans ((sOf_ne _ _ (by decide)).trans ((sOf_ne _ _ (by decide)).trans (sOf_ne _ _ (by decide))))
                              have e47_86 : (setO (setO (setO (setO w212_22 87 (fup (w212_22 87) (10 + b) ((w212_22 86) (10 + b)))) 101 (fup (w212_22 101) ((3 * b) + ((w212_22 103) b)) pl2)) 102 (fup (w212_22 102) ((3 * b) + ((w212_22 103) b)) ((w212_22 104) b))) 103 (fup (w212_22 103) b (((w212_22 103) b) + 1))) 86 = w212_22 86 := (sOf_ne _ _ (by decide)).trans ((sOf_ne _ _ (by decide)).trans ((sOf_ne _ _ (by decide)).trans (sOf_ne _ _ (by decide))))
                              have e48_88 : (setO (setO (setO (setO w212_22 87 (fup (w212_22 87) (10 + b) ((w212_22 86) (10 + b)))) 101 (fup (w212_22 101) ((3 * b) + ((w212_22 103) b)) pl2)) 102 (fup (w212_22 102) ((3 * b) + ((w212_22 103) b)) ((w212_22 104) b))) 103 (fup (w212_22 103) b (((w212_22 103) b) + 1))) 88 = w212_22 88 := (sOf_ne _ _ (by decide)).trans ((sOf_ne _ _ (by decide)).trans ((sOf_ne _ _ (by decide)).trans (sOf_ne _ _ (by decide))))
                              have e49_83 : (setO (setO (setO (setO w212_22 87 (fup (w212_22 87) (10 + b) ((w212_22 86) (10 + b)))) 101 (fup (w212_22 101) ((3 * b) + ((w212_22 103) b)) pl2)) 102 (fup (w212_22 102) ((3 * b) + ((w212_22 103) b)) ((w212_22 104) b))) 103 (fup (w212_22 103) b (((w212_22 103) b) + 1))) 83 = w212_22 83 := (sOf_ne _ _ (by decide)).trans ((sOf_ne _ _ (by decide)).trans ((sOf_ne _ _ (by decide)).trans (sOf_ne _ _ (by decide))))
                              have e50_86 : (setO (setO (setO (setO w212_22 87 (fup (w212_22 87) (10 + b) ((w212_22 86) (10 + b)))) 101 (fup (w212_22 101) ((3 * b) + ((w212_22 103) b)) pl2)) 102 (fup (w212_22 102) ((3 * b) + ((w212_22 103) b)) ((w212_22 104) b))) 103 (fup (w212_22 103) b (((w212_22 103) b) + 1))) 86 = w212_22 86 := (sOf_ne _ _ (by decide)).trans ((sOf_ne _ _ (by decide)).trans ((sOf_ne _ _ (by decide)).trans (sOf_ne _ _ (by decide))))
                              have e51_88 : (setO (setO (setO (setO w212_22 87 (fup (w212_22 87) (10 + b) ((w212_22 86) (10 + b)))) 101 (fup (w212_22 101) ((3 * b) + ((w212_22 103) b)) pl2)) 102 (fup (w212_22 102) ((3 * b) + ((w212_22 103) b)) ((w212_22 104) b))) 103 (fup (w212_22 103) b (((w212_22 103) b) + 1))) 88 = w212_22 88 := (sOf_ne _ _ (by decide)).trans ((sOf_ne _ _ (by decide)).trans ((sOf_ne _ _ (by decide)).trans (sOf_ne _ _ (by decide))))
                              have e52_86 : (setO (setO (setO (setO w212_22 87 (fup (w212_22 87) (10 + b) ((w212_22 86) (10 + b)))) 101 (fup (w212_22 101) ((3 * b) + ((w212_22 103) b)) pl2)) 102 (fup (w212_22 102) ((3 * b) + ((w212_22 103) b)) ((w212_22 104) b))) 103 (fup (w212_22 103) b (((w212_22 103) b) + 1))) 86 = w212_22 86 := (sOf_ne _ _ (by decide)).trans ((sOf_ne _ _ (by decide)).trans ((sOf_ne _ _ (by decide)).trans (sOf_ne _ _ (by decide))))
                              have e53_87 : (setO (setO (setO (setO w212_22 87 (fup (w212_22 87) (10 + b) ((w212_22 86) (10 + b)))) 101 (fup (w212_22 101) ((3 * b) + ((w212_22 103) b)) pl2)) 102 (fup (w212_22 102) ((3 * b) + ((w212_22 103) b)) ((w212_22 104) b))) 103 (fup (w212_22 103) b (((w212_22 103) b) + 1))) 87 = fup (w212_22 87) (10 + b) ((w212_22 86) (10 + b)) := (sOf_ne _ _ (by decide)).trans ((sOf_ne _ _ (by decide)).trans ((sOf_ne _ _ (by decide)).trans (sOf_eq _ _ _)))
                              have e54_87 : (setO (setO (setO (setO w212_22 87 (fup (w212_22 87) (10 + b) ((w212_22 86) (10 + b)))) 101 (fup (w212_22 101) ((3 * b) + ((w212_22 103) b)) pl2)) 102 (fup (w212_22 102) ((3 * b) + ((w212_22 103) b)) ((w212_22 104) b))) 103 (fup (w212_22 103) b (((w212_22 103) b) + 1))) 87 = fup (w212_22 87) (10 + b) ((w212_22 86) (10 + b)) := (sOf_ne _ _ (by decide)).trans ((sOf_ne _ _ (by decide)).trans ((sOf_ne _ _ (by decide)).trans (sOf_eq _ _ _)))
                              exact ih22 (pl2 + ((w212_22 104) b)) (b + 1) (setO (setO (setO (setO w212_22 87 (fup (w212_22 87) (10 + b) ((w212_22 86) (10 + b)))) 101 (fup (w212_22 101) ((3 * b) + ((w212_22 103) b)) pl2)) 102 (fup (w212_22 102) ((3 * b) + ((w212_22 103) b)) ((w212_22 104) b))) 103 (fup (w212_22 103) b (((w212_22 103) b) + 1))) hT_31 hF_31 (by first | omega | (simp [up, setR] <;> omega)) (by rewrite [e32_104]; exact hT4b) (by omega) (by rewrite [e33_103]; intro j; by_cases e : j = b; (rw [e, fup_eq]; exact ⟨fun h1 h2 => by omega, fun h1 => by omega⟩); (rw [fup_ne _ _ e]; exact ⟨fun h1 h2 => (hpc j).1 h1 (by omega), fun h1 => (hpc j).2 (by omega)⟩)) (by rewrite [e34_102, e35_103]; exact PSQ_n hps2 (by omega) (by omega) (by omega)) (by rewrite [e36_101, e37_102, e38_103]; exact PAQ_n hpa2 (by omega) (by omega) (by omega)) (by rewrite [e39_83]; first | exact k83i | (intro q hq; rfl) | (intro q hq; exact fup_ne _ _ (by omega)) | (intro q hq; rw [fup_ne _ _ (by omega)]; exact k83i q hq)) (by rewrite [e40_73_45, e41_73_50]; omega) (by rewrite [e42_83, e43_86, e44_88]; exact fo) (by rewrite [e45_104, e46_83, e47_86, e48_88]; exact rf2) (by rewrite [e49_83, e50_86, e51_88]; exact fw2) (by rewrite [e52_86, e53_87]; intro j j0 j1; by_cases y : j = b; (rw [y, fup_eq]); (rw [fup_ne _ _ (by omega)]; exact hh j j0 (by omega))) (by rewrite [e54_87]; intro j j0; rw [fup_ne _ _ (by omega)]; exact hh2 j (by omega)) (by first | omega | (simp [up, setR] <;> omega))
                        refine TT_sub [1, 2, 3, 4, 6, 0] rfl ?_
                        have e55_104 : g207_21 104 = w155_10 104 := (hG_21.1 104 (by decide))
                        have e56_103 : g207_21 103 = w155_10 103 := (hG_21.1 103 (by decide))
                        have e57_102 : g207_21 102 = w155_10 102 := (hG_21.1 102 (by decide))
                        have e58_103 : g207_21 103 = w155_10 103 := (hG_21.1 103 (by decide))
                        have e59_101 : g207_21 101 = w155_10 101 := (hG_21.1 101 (by decide))
                        have e60_102 : g207_21 102 = w155_10 102 := (hG_21.1 102 (by decide))
                        have e61_103 : g207_21 103 = w155_10 103 := (hG_21.1 103 (by decide))
                        have e62_83 : g207_21 83 = w155_10 83 := (hG_21.1 83 (by decide))
                        have e63_73_45 : g207_21 73 45 = (w155_10 73) 45 := congrFun (hG_21.1 73 (by decide)) 45
                        have e64_73_50 : g207_21 73 50 = (w155_10 73) 50 := congrFun (hG_21.1 73 (by decide)) 50
                        have e65_83 : g207_21 83 = w155_10 83 := (hG_21.1 83 (by decide))
                        have e66_86 : g207_21 86 = w155_10 86 := (hG_21.1 86 (by decide))
                        have e67_88 : g207_21 88 = w155_10 88 := (hG_21.1 88 (by decide))
                        have e68_104 : g207_21 104 = w155_10 104 := (hG_21.1 104 (by decide))
                        have e69_83 : g207_21 83 = w155_10 83 := (hG_21.1 83 (by decide))
                        have e70_86 : g207_21 86 = w155_10 86 := (hG_21.1 86 (by decide))
                        have e71_88 : g207_21 88 = w155_10 88 := (hG_21.1 88 (by decide))
                        have e72_83 : g207_21 83 = w155_10 83 := (hG_21.1 83 (by decide))
                        have e73_86 : g207_21 86 = w155_10 86 := (hG_21.1 86 (by decide))
                        have e74_88 : g207_21 88 = w155_10 88 := (hG_21.1 88 (by decide))
                        have e75_86 : g207_21 86 = w155_10 86 := (hG_21.1 86 (by decide))
                        have e76_87 : g207_21 87 = w155_10 87 := (hG_21.1 87 (by decide))
                        have e77_87 : g207_21 87 = w155_10 87 := (hG_21.1 87 (by decide))
                        have fs3 := p1_at207
                        exact L212_22 (((3 * u + 1 - z207_21).toNat) + 1) pl z207_21 g207_21 hT_21 hF_21 (by first | omega | (simp [up, setR] <;> omega)) (by rewrite [e55_104]; exact hT4) (by rw [fs3]; omega) (by rewrite [e56_103]; intro j; rw [k103]; exact ⟨fun h1 h2 => by exfalso; omega, fun _ => rfl⟩) (by rewrite [e57_102, e58_103]; rw [k103, k102]; exact PSQ_m hps hpl.1) (by rewrite [e59_101, e60_102, e61_103]; rw [k103, k101, k102]; exact hpa) (by rewrite [e62_83]; first | exact k83i | (intro q hq; rfl) | (intro q hq; exact fup_ne _ _ (by omega)) | (intro q hq; rw [fup_ne _ _ (by omega)]; exact k83i q hq)) (by rewrite [e63_73_45, e64_73_50]; omega) (by rewrite [e65_83, e66_86, e67_88]; exact fo) (by rewrite [e68_104, e69_83, e70_86, e71_88]; exact q1h.2) (by rewrite [e72_83, e73_86, e74_88]; intro j j0 j1; have k9 := fw8 j j0 j1; have k7 := k9.1; exact ⟨by omega, k9.2 (by omega) (by omega)⟩) (by rewrite [e75_86, e76_87]; intro j j0 j1; exfalso; omega) (by rewrite [e77_87]; intro j _; rw [k87]) (Nat.lt_succ_self _)
                      · have hb201_20 := lcmp_gt hb201_20
                        refine TT_sub [0] rfl ?_
                        have e78_73_50 : w155_10 73 50 = (w155_10 73) 50 := rfl
                        exact J204_12  (by rewrite [e78_73_50]; show RZQ (paX n (FS u) (3 * u + 1 - FS u).toNat (hdP (h 100) (8 * n) wd9 hd9 T9 (FS u) (3 * u + 1 - FS u).toNat (8 * f) P9 W9) ((0, 8 * f, P9, T9, W9) : PS_)).1 _; first | exact RZ_1 (f3 (by omega)) (by omega) | exact RZ_2 (f2 (by omega) (by omega)) (by omega) | exact RZ_3 (f1 (by omega) (by omega)).1.1 (by rw [← hp93 (by omega) (by omega)]; exact SV_x (sv9 (by omega) (by omega)).2 (by omega) (by omega)) (by omega))
                · refine TT_lload hK 4 rfl dX12_getPacket_163 ?_
                  refine TT_aload_n hK rfl 0 rfl dX12_getPacket_165 ?_
                  refine gf_X12_108 hK (by decide) rfl (q := 104) rfl rfl dX12_getPacket_166 ?_
                  refine TT_iload hK 6 rfl dX12_getPacket_169 ?_
                  refine TT_iald hK (o := 104) (n := 10) (by decide) rfl (by first | omega | (simp [up, setR] <;> omega)) (by first | omega | (simp [up, setR] <;> omega)) (v := (w155_10 104) m) rfl dX12_getPacket_171 ?_
                  have r79 := ty_104 (i := m) (v := (w155_10 104) m) hT155_10 rfl (by omega) (by omega)
                  refine TT_i2l hK (irm (by omega) (by omega)) dX12_getPacket_172 ?_
                  refine TT_ladd hK dX12_getPacket_173 ?_
                  refine TT_lstore hK (lv' := [(4, vJ (bh + ((w155_10 104) m))), (0, vR 73), (1, vI u), (2, vI f), (3, vI n), (6, vI pl), (7, vI m)]) (by decide) rfl dX12_getPacket_174 ?_
                  refine TT_iinc hK (v := m + 1) (lv' := [(7, vI (m + 1)), (4, vJ (bh + ((w155_10 104) m))), (0, vR 73), (1, vI u), (2, vI f), (3, vI n), (6, vI pl)]) 6 rfl rfl (by decide) rfl dX12_getPacket_176 ?_
                  refine TT_goto hK (tgt := 155) dX12_getPacket_179 (by decide) ?_
                  refine TT_sub [2, 3, 4, 5, 1, 6, 0] rfl ?_
                  have e80_73_45 : w155_10 73 45 = (w155_10 73) 45 := rfl
                  have e81_73_50 : w155_10 73 50 = (w155_10 73) 50 := rfl
                  have e82_73_45 : w155_10 73 45 = (w155_10 73) 45 := rfl
                  have e83_73_50 : w155_10 73 50 = (w155_10 73) 50 := rfl
                  have e84_73_42 : w155_10 73 42 = (w155_10 73) 42 := rfl
                  have e85_73_43 : w155_10 73 43 = (w155_10 73) 43 := rfl
                  have e86_73_42 : w155_10 73 42 = (w155_10 73) 42 := rfl
                  have e87_73_43 : w155_10 73 43 = (w155_10 73) 43 := rfl
                  have e88_73_45 : w155_10 73 45 = (w155_10 73) 45 := rfl
                  have e89_73_50 : w155_10 73 50 = (w155_10 73) 50 := rfl
                  have e90_73_42 : w155_10 73 42 = (w155_10 73) 42 := rfl
                  have e91_73_43 : w155_10 73 43 = (w155_10 73) 43 := rfl
                  have e92_73_45 : w155_10 73 45 = (w155_10 73) 45 := rfl
                  have e93_73_50 : w155_10 73 50 = (w155_10 73) 50 := rfl
                  have e94_73_45 : w155_10 73 45 = (w155_10 73) 45 := rfl
                  have e95_73_50 : w155_10 73 50 = (w155_10 73) 50 := rfl
                  have e96_73_50 : w155_10 73 50 = (w155_10 73) 50 := rfl
                  have e97_73_42 : w155_10 73 42 = (w155_10 73) 42 := rfl
                  have e98_73_43 : w155_10 73 43 = (w155_10 73) 43 := rfl
                  have e99_73_45 : w155_10 73 45 = (w155_10 73) 45 := rfl
                  have e100_73_50 : w155_10 73 50 = (w155_10 73) 50 := rfl
                  have is1 : IS T4 (m + 1) = IS T4 m + T4 m := IS_s (by omega)
                  have e4 := congrFun hT4 m
                  exact ih10 (bh + ((w155_10 104) m)) (m + 1) T4 m9 ml9 w155_10 hT155_10 hF155_10 (by first | omega | (simp [up, setR] <;> omega)) (by first | rfl | exact hT4) (by omega) (by first | omega | (simp [up, setR] <;> omega)) (by first | rfl | exact k101) (by first | rfl | exact k102) (by first | rfl | exact k103) (by first | exact k83i | (intro q hq; rfl) | (intro q hq; exact fup_ne _ _ (by omega)) | (intro q hq; rw [fup_ne _ _ (by omega)]; exact k83i q hq)) (by rewrite [e80_73_45, e81_73_50]; exact km) (by rewrite [e82_73_45, e83_73_50]; first | omega | (simp [up, setR] <;> omega)) (by first | rfl | exact k87) (by rewrite [e84_73_42, e85_73_43]; exact hp83) (by exact hp93) (by exact fo) (by rewrite [e86_73_42, e87_73_43, e88_73_45, e89_73_50]; exact fw) (by rewrite [e90_73_42, e91_73_43, e92_73_45, e93_73_50]; exact f1) (by rewrite [e94_73_45, e95_73_50]; exact f2) (by rewrite [e96_73_50]; exact f3) (by rewrite [e97_73_42, e98_73_43, e99_73_45, e100_73_50]; exact fe) (by first | omega | (simp [up, setR] <;> omega))
            refine TT_sub [3, 4, 5, 6, 2, 1, 0] rfl ?_
            have e101_104 : g150_9 104 = w120_7 104 := (hG_9.1 104 (by decide))
            have e102_101 : g150_9 101 = w120_7 101 := (hG_9.1 101 (by decide))
            have e103_102 : g150_9 102 = w120_7 102 := (hG_9.1 102 (by decide))
            have e104_103 : g150_9 103 = w120_7 103 := (hG_9.1 103 (by decide))
            have e105_83 : g150_9 83 = w120_7 83 := (hG_9.1 83 (by decide))
            have e106_73_45 : g150_9 73 45 = (w120_7 73) 45 := congrFun (hG_9.1 73 (by decide)) 45
            have e107_73_50 : g150_9 73 50 = (w120_7 73) 50 := congrFun (hG_9.1 73 (by decide)) 50
            have e108_73_45 : g150_9 73 45 = (w120_7 73) 45 := congrFun (hG_9.1 73 (by decide)) 45
            have e109_73_50 : g150_9 73 50 = (w120_7 73) 50 := congrFun (hG_9.1 73 (by decide)) 50
            have e110_87 : g150_9 87 = w120_7 87 := (hG_9.1 87 (by decide))
            have e111_73_42 : g150_9 73 42 = (w120_7 73) 42 := congrFun (hG_9.1 73 (by decide)) 42
            have e112_73_43 : g150_9 73 43 = (w120_7 73) 43 := congrFun (hG_9.1 73 (by decide)) 43
            have e113_83 : g150_9 83 = w120_7 83 := (hG_9.1 83 (by decide))
            have e114_86 : g150_9 86 = w120_7 86 := (hG_9.1 86 (by decide))
            have e115_88 : g150_9 88 = w120_7 88 := (hG_9.1 88 (by decide))
            have e116_73_42 : g150_9 73 42 = (w120_7 73) 42 := congrFun (hG_9.1 73 (by decide)) 42
            have e117_73_43 : g150_9 73 43 = (w120_7 73) 43 := congrFun (hG_9.1 73 (by decide)) 43
            have e118_73_45 : g150_9 73 45 = (w120_7 73) 45 := congrFun (hG_9.1 73 (by decide)) 45
            have e119_73_50 : g150_9 73 50 = (w120_7 73) 50 := congrFun (hG_9.1 73 (by decide)) 50
            have e120_83 : g150_9 83 = w120_7 83 := (hG_9.1 83 (by decide))
            have e121_86 : g150_9 86 = w120_7 86 := (hG_9.1 86 (by decide))
            have e122_88 : g150_9 88 = w120_7 88 := (hG_9.1 88 (by decide))
            have e123_104 : g150_9 104 = w120_7 104 := (hG_9.1 104 (by decide))
            have e124_73_42 : g150_9 73 42 = (w120_7 73) 42 := congrFun (hG_9.1 73 (by decide)) 42
            have e125_73_43 : g150_9 73 43 = (w120_7 73) 43 := congrFun (hG_9.1 73 (by decide)) 43
            have e126_73_45 : g150_9 73 45 = (w120_7 73) 45 := congrFun (hG_9.1 73 (by decide)) 45
            have e127_73_50 : g150_9 73 50 = (w120_7 73) 50 := congrFun (hG_9.1 73 (by decide)) 50
            have e128_83 : g150_9 83 = w120_7 83 := (hG_9.1 83 (by decide))
            have e129_86 : g150_9 86 = w120_7 86 := (hG_9.1 86 (by decide))
            have e130_88 : g150_9 88 = w120_7 88 := (hG_9.1 88 (by decide))
            have e131_73_45 : g150_9 73 45 = (w120_7 73) 45 := congrFun (hG_9.1 73 (by decide)) 45
            have e132_73_50 : g150_9 73 50 = (w120_7 73) 50 := congrFun (hG_9.1 73 (by decide)) 50
            have e133_73_50 : g150_9 73 50 = (w120_7 73) 50 := congrFun (hG_9.1 73 (by decide)) 50
            have e134_73_42 : g150_9 73 42 = (w120_7 73) 42 := congrFun (hG_9.1 73 (by decide)) 42
            have e135_73_43 : g150_9 73 43 = (w120_7 73) 43 := congrFun (hG_9.1 73 (by decide)) 43
            have e136_73_45 : g150_9 73 45 = (w120_7 73) 45 := congrFun (hG_9.1 73 (by decide)) 45
            have e137_73_50 : g150_9 73 50 = (w120_7 73) 50 := congrFun (hG_9.1 73 (by decide)) 50
            have fs2 := p1_at150
            exact L155_10 (((3 * u + 1 - z150_9).toNat) + 1) pl z150_9 (w120_7 104) ((w120_7 73) 45) ((w120_7 73) 50) g150_9 hT_9 hF_9 (by first | omega | (simp [up, setR] <;> omega)) (by rewrite [e101_104]; rfl) (by rw [fs2]; omega) (by first | omega | (simp [up, setR] <;> omega)) (by rewrite [e102_101]; first | rfl | exact k101) (by rewrite [e103_102]; first | rfl | exact k102) (by rewrite [e104_103]; first | rfl | exact k103) (by rewrite [e105_83]; first | exact k83i | (intro q hq; rfl) | (intro q hq; exact fup_ne _ _ (by omega)) | (intro q hq; rw [fup_ne _ _ (by omega)]; exact k83i q hq)) (by rewrite [e106_73_45, e107_73_50]; exact ⟨rfl, rfl⟩) (by rewrite [e108_73_45, e109_73_50]; first | omega | (simp [up, setR] <;> omega)) (by rewrite [e110_87]; first | rfl | exact k87) (by rewrite [e111_73_42, e112_73_43]; exact hpl8) (by exact hpl9) (by rewrite [e113_83, e114_86, e115_88]; first | exact fo) (by rewrite [e116_73_42, e117_73_43, e118_73_45, e119_73_50, e120_83, e121_86, e122_88]; first | exact fw) (by rewrite [e123_104, e124_73_42, e125_73_43, e126_73_45, e127_73_50, e128_83, e129_86, e130_88]; first | exact f1) (by rewrite [e131_73_45, e132_73_50]; first | exact f2) (by rewrite [e133_73_50]; first | exact f3) (by rewrite [e134_73_42, e135_73_43, e136_73_45, e137_73_50]; first | exact fe) (Nat.lt_succ_self _)
          refine TT_aload_n hK rfl 0 rfl dX12_getPacket_120 ?_
          refine gf_X12_314 hK (by decide) rfl (v := (w120_7 73) 43) rfl dX12_getPacket_121 ?_
          have r138 := ty_73_43 (v := (w120_7 73) 43) hT120_7 rfl
          refine TT_if_le hK (tgt := 137) (irm (by omega) (by omega)) dX12_getPacket_124 (by decide) (fun hb124_139 => ?_) (fun hb124_139 => ?_)
          · refine TT_aload_n hK rfl 0 rfl dX12_getPacket_137 ?_
            refine gf_X12_311 hK (by decide) rfl (v := (w120_7 73) 42) rfl dX12_getPacket_138 ?_
            have r140 := ty_73_42 (v := (w120_7 73) 42) hT120_7 rfl
            refine TT_i2l hK (irm (by omega) (by omega)) dX12_getPacket_141 ?_
            have e141_73_42 : w120_7 73 42 = (w120_7 73) 42 := rfl
            have e142_73_43 : w120_7 73 43 = (w120_7 73) 43 := rfl
            have e143_73_45 : w120_7 73 45 = (w120_7 73) 45 := rfl
            have e144_73_50 : w120_7 73 50 = (w120_7 73) 50 := rfl
            exact J142_8 ((w120_7 73) 42) (by first | omega | (simp [up, setR] <;> omega)) (by rewrite [e141_73_42, e142_73_43]; first | omega | (simp [up, setR] <;> omega)) (by rewrite [e143_73_45, e144_73_50]; intro q q2; rw [← (f1 q q2).1.2]; omega)
          · refine TT_aload_n hK rfl 0 rfl dX12_getPacket_127 ?_
            refine gf_X12_311 hK (by decide) rfl (v := (w120_7 73) 42) rfl dX12_getPacket_128 ?_
            have r145 := ty_73_42 (v := (w120_7 73) 42) hT120_7 rfl
            refine TT_iconst hK dX12_getPacket_131 ?_
            refine TT_iadd hK dX12_getPacket_132 ?_
            refine TT_i2l hK (irm (by omega) (by omega)) dX12_getPacket_133 ?_
            refine TT_goto hK (tgt := 142) dX12_getPacket_134 (by decide) ?_
            have e146_73_42 : w120_7 73 42 = (w120_7 73) 42 := rfl
            have e147_73_43 : w120_7 73 43 = (w120_7 73) 43 := rfl
            have e148_73_45 : w120_7 73 45 = (w120_7 73) 45 := rfl
            have e149_73_50 : w120_7 73 50 = (w120_7 73) 50 := rfl
            exact J142_8 (((w120_7 73) 42) + 1) (by first | omega | (simp [up, setR] <;> omega)) (by rewrite [e146_73_42, e147_73_43]; first | omega | (simp [up, setR] <;> omega)) (by rewrite [e148_73_45, e149_73_50]; intro q q2; rw [← (f1 q q2).1.2]; omega)
        refine TT_aload_n hK rfl 0 rfl dX12_getPacket_44 ?_
        refine TT_iconst hK dX12_getPacket_45 ?_
        have e150_73_44 : w23_5 73 44 = (w23_5 73) 44 := rfl
        have e151_73_45 : w23_5 73 45 = (w23_5 73) 45 := rfl
        refine iv_X12_372 hK (s_getBits_e 1 w23_5 hT23_5 (by first | omega | (simp [up, setR] <;> omega)) (by first | omega | (simp [up, setR] <;> omega)) (by rewrite [e150_73_44]; first | omega | (simp [up, setR] <;> omega)) (by rewrite [e151_73_45]; first | omega | (simp [up, setR] <;> omega))) (by decide) rfl ⟨by decide, by decide⟩ (by decide) rfl rfl (Nat.le_of_ble_eq_true rfl) ⟨by decide, by decide⟩ dX12_getPacket_46 ?_
        intro r9 g46_152 hp9
        obtain ⟨⟨hT_152, hG_152⟩, z46_152, hr9, hz_152, p2_152, p3_152, p6_152, gb_152, g01_152⟩ := hp9
        rw [hr9]
        have hF_152 : FRM [73, 83, 86, 87, 88, 101, 102, 103, 104] [42, 43, 44, 45, 50] h g46_152 := FRM_tr hF23_5 hG_152 (by decide) (by decide)
        rw [show w23_5 73 42 = (w23_5 73) 42 from rfl] at p3_152
        rw [show w23_5 73 43 = (w23_5 73) 43 from rfl] at p3_152
        rw [show w23_5 73 44 = (w23_5 73) 44 from rfl] at p3_152
        rw [show w23_5 73 42 = (w23_5 73) 42 from rfl] at p6_152
        rw [show w23_5 73 43 = (w23_5 73) 43 from rfl] at p6_152
        rw [show w23_5 100 = h 100 from (hF23_5.1 100 (by decide))] at gb_152
        rw [show w23_5 73 42 = (w23_5 73) 42 from rfl] at gb_152
        rw [show w23_5 73 43 = (w23_5 73) 43 from rfl] at gb_152
        rw [show w23_5 73 44 = (w23_5 73) 44 from rfl] at gb_152
        rw [show w23_5 73 45 = (w23_5 73) 45 from rfl] at gb_152
        have gb_at46 := gb_152
        have g01_at46 := g01_152
        show TT K ly 0 0 49 [(0, vR 73), (1, vI u), (2, vI f), (3, vI n), (4, vI k)] [vI z46_152] g46_152
        rw [kf.2.2] at gb_at46
        have g46 := GBQ_p (q := 8 * f) gb_at46 (by omega)
        refine TT_iconst hK dX12_getPacket_49 ?_
        refine TT_icmp_ne hK (tgt := 120) (irm (by omega) (by omega)) (by decide) dX12_getPacket_50 (by decide) (fun hb50_153 => ?_) (fun hb50_153 => ?_)
        · refine TT_sub [0, 1, 2, 3] rfl ?_
          have e154_101 : g46_152 101 = w23_5 101 := (hG_152.1 101 (by decide))
          have e155_102 : g46_152 102 = w23_5 102 := (hG_152.1 102 (by decide))
          have e156_103 : g46_152 103 = w23_5 103 := (hG_152.1 103 (by decide))
          have e157_73_42 : g46_152 73 42 = (g46_152 73) 42 := rfl
          have e158_73_43 : g46_152 73 43 = (g46_152 73) 43 := rfl
          have e159_83 : g46_152 83 = w23_5 83 := (hG_152.1 83 (by decide))
          have e160_73_45 : g46_152 73 45 = (g46_152 73) 45 := rfl
          have e161_73_50 : g46_152 73 50 = (w23_5 73) 50 := (hG_152.2 50 (by decide))
          have e162_73_44 : g46_152 73 44 = (w23_5 73) 44 := (hG_152.2 44 (by decide))
          have e163_87 : g46_152 87 = w23_5 87 := (hG_152.1 87 (by decide))
          have e164_83 : g46_152 83 = w23_5 83 := (hG_152.1 83 (by decide))
          have e165_86 : g46_152 86 = w23_5 86 := (hG_152.1 86 (by decide))
          have e166_88 : g46_152 88 = w23_5 88 := (hG_152.1 88 (by decide))
          have e167_73_42 : g46_152 73 42 = (g46_152 73) 42 := rfl
          have e168_73_43 : g46_152 73 43 = (g46_152 73) 43 := rfl
          have e169_73_45 : g46_152 73 45 = (g46_152 73) 45 := rfl
          have e170_73_50 : g46_152 73 50 = (w23_5 73) 50 := (hG_152.2 50 (by decide))
          have e171_83 : g46_152 83 = w23_5 83 := (hG_152.1 83 (by decide))
          have e172_86 : g46_152 86 = w23_5 86 := (hG_152.1 86 (by decide))
          have e173_88 : g46_152 88 = w23_5 88 := (hG_152.1 88 (by decide))
          have e174_104 : g46_152 104 = w23_5 104 := (hG_152.1 104 (by decide))
          have e175_73_42 : g46_152 73 42 = (g46_152 73) 42 := rfl
          have e176_73_43 : g46_152 73 43 = (g46_152 73) 43 := rfl
          have e177_73_45 : g46_152 73 45 = (g46_152 73) 45 := rfl
          have e178_73_50 : g46_152 73 50 = (w23_5 73) 50 := (hG_152.2 50 (by decide))
          have e179_83 : g46_152 83 = w23_5 83 := (hG_152.1 83 (by decide))
          have e180_86 : g46_152 86 = w23_5 86 := (hG_152.1 86 (by decide))
          have e181_88 : g46_152 88 = w23_5 88 := (hG_152.1 88 (by decide))
          have e182_73_45 : g46_152 73 45 = (g46_152 73) 45 := rfl
          have e183_73_50 : g46_152 73 50 = (w23_5 73) 50 := (hG_152.2 50 (by decide))
          have e184_73_50 : g46_152 73 50 = (w23_5 73) 50 := (hG_152.2 50 (by decide))
          have e185_73_42 : g46_152 73 42 = (g46_152 73) 42 := rfl
          have e186_73_43 : g46_152 73 43 = (g46_152 73) 43 := rfl
          have e187_73_45 : g46_152 73 45 = (g46_152 73) 45 := rfl
          have e188_73_50 : g46_152 73 50 = (w23_5 73) 50 := (hG_152.2 50 (by decide))
          exact J120_7 g46_152 hT_152 hF_152 (by rewrite [e154_101]; first | rfl | exact k101) (by rewrite [e155_102]; first | rfl | exact k102) (by rewrite [e156_103]; first | rfl | exact k103) (by rewrite [e157_73_42, e158_73_43]; first | omega | (simp [up, setR] <;> omega)) (by rewrite [e159_83]; first | exact k83i | (intro q hq; rfl) | (intro q hq; exact fup_ne _ _ (by omega)) | (intro q hq; rw [fup_ne _ _ (by omega)]; exact k83i q hq)) (by rewrite [e160_73_45, e161_73_50]; first | omega | (simp [up, setR] <;> omega)) (by rewrite [e162_73_44]; first | omega | (simp [up, setR] <;> omega)) (by rewrite [e163_87]; first | rfl | exact k87) (by rewrite [e164_83, e165_86, e166_88]; first | (intro j _ _; rw [k83, k86, k88]; exact ⟨rfl, rfl, rfl⟩)) (by rewrite [e167_73_42, e168_73_43, e169_73_45, e170_73_50, e171_83, e172_86, e173_88]; first | (intro j j0 j1; rw [k88, k86, k83]; have k9 := hwt j j0 j1; exact ⟨by omega, fun _ _ => k9.2⟩)) (by rewrite [e174_104, e175_73_42, e176_73_43, e177_73_45, e178_73_50, e179_83, e180_86, e181_88]; intro q q2; have u := (HK_0 g46 (by omega) (by omega)).2 q2; rw [hdP_2 u.1 u.2.1]; exact ⟨⟨rfl, u.2.2⟩, RFQ_0 (fun j j0 j1 => ⟨(congrFun k83 _).trans (hgs j j0 j1).2.1, (congrFun k86 _).trans (hgs j j0 j1).2.2.1, (congrFun k88 _).trans (hgs j j0 j1).2.2.2, hz j (by omega) (by omega)⟩)⟩) (by rewrite [e182_73_45, e183_73_50]; intro q q2; exact hdP_1 ((HK_0 g46 (by omega) (by omega)).1 q2)) (by rewrite [e184_73_50]; intro q; exfalso; omega) (by rewrite [e185_73_42, e186_73_43, e187_73_45, e188_73_50]; intro q q2; have u := (HK_0 g46 (by omega) (by omega)).2 q2; rw [hdP_2 u.1 u.2.1]; have u1 := u.1; have u2 := u.2.2; exact ⟨by omega, fun j _ _ => Int.le_refl _⟩)
        · have hk9 : HID _ := HK_1 g46 (by omega) (by omega)
          have hk0 := hk9.1
          have hk1 := hk9.2.2.2
          have hk2 := hk9.2.1
          have f3h : HID ((hdP (h 100) (8 * n) wd9 hd9 T9 (FS u) (3 * u + 1 - FS u).toNat (8 * f) P9 W9) = (hssS (h 100) (8 * n) wd9 hd9 T9 (FS u) (3 * u + 1 - FS u).toNat (hs0 (8 * f + 1) P9 W9))) := hdP_3 hk9.2.1 hk9.2.2.1
          refine TT_iload_n hK rfl 1 rfl dX12_getPacket_53 ?_
          refine iv_X12_326 hK (s_X12_firstOf u g46_152 hT_152 (by first | omega | (simp [up, setR] <;> omega))) ⟨by decide, by decide⟩ (by decide) rfl rfl (Nat.le_of_ble_eq_true rfl) ⟨by decide, by decide⟩ dX12_getPacket_54 ?_
          intro r9 g54_189 hp9
          obtain ⟨⟨hT_189, hG_189⟩, z54_189, hr9, hz_189, p1_189⟩ := hp9
          rw [hr9]
          have hF_189 : FRM [73, 83, 86, 87, 88, 101, 102, 103, 104] [42, 43, 44, 45, 50] h g54_189 := FRM_tr hF_152 hG_189 (by decide) (by decide)
          have p1_at54 := p1_189
          show TT K ly 0 0 57 [(0, vR 73), (1, vI u), (2, vI f), (3, vI n), (4, vI k)] [vI z54_189] g54_189
          refine TT_istore hK (lv' := [(4, vI z54_189), (0, vR 73), (1, vI u), (2, vI f), (3, vI n)]) (by decide) rfl dX12_getPacket_57 ?_
          have L59_190 : ∀ (k190 : Nat) (b : Int) (w59_190 : Hp_), TY w59_190 → FRM [73, 83, 86, 87, 88, 101, 102, 103, 104] [42, 43, 44, 45, 50] h w59_190 → (FS u ≤ b ∧ b ≤ 3 * u + 1) → (8 * f ≤ 8 * (w59_190 73 42) + (w59_190 73 43)) → ((w59_190 101) = h 101) → ((w59_190 102) = h 102) → ((w59_190 103) = h 103) → (∀ q : Int, q < 10 → (w59_190 83) q = h 83 q) → ((0 ≤ (w59_190 73 45) ∧ (w59_190 73 45) ≤ 1) ∧ (0 ≤ (w59_190 73 50) ∧ (w59_190 73 50) ≤ 1)) → ((w59_190 73 44) = n) → ((w59_190 87) = h 87) → (∀ j : Int, (j < FS u ∨ 3 * u + 1 ≤ j) → 0 ≤ j → (w59_190 83) (10 + j) = h 83 (10 + j) ∧ (w59_190 86) (10 + j) = h 86 (10 + j) ∧ (w59_190 88) (10 + j) = h 88 (10 + j)) → (∀ j : Int, FS u ≤ j → j < 3 * u + 1 → (3 ≤ (w59_190 88) (10 + j) ∧ (w59_190 88) (10 + j) ≤ 3 + (8 * (w59_190 73 42) + (w59_190 73 43))) ∧ IM2 ((w59_190 73 50) = 0) ((w59_190 73 45) = 0) ((0 ≤ (w59_190 86) (10 + j) ∧ (w59_190 86) (10 + j) ≤ 34) ∧ (0 ≤ (w59_190 83) (10 + j) ∧ (w59_190 83) (10 + j) ≤ 12))) → (IM2 ((w59_190 73 50) = 0) ((w59_190 73 45) = 0) (((hssS (h 100) (8 * n) wd9 hd9 T9 (FS u) (b - FS u).toNat (hs0 (8 * f + 1) P9 W9)).1 = 0 ∧ 8 * (w59_190 73 42) + (w59_190 73 43) = (hssS (h 100) (8 * n) wd9 hd9 T9 (FS u) (b - FS u).toNat (hs0 (8 * f + 1) P9 W9)).2.1) ∧ RFQ (w59_190 83) (w59_190 86) (w59_190 88) (w59_190 104) (FS u) (3 * u + 1) T9 (hssS (h 100) (8 * n) wd9 hd9 T9 (FS u) (b - FS u).toNat (hs0 (8 * f + 1) P9 W9)))) → (IM2 ((w59_190 73 50) = 0) ((w59_190 73 45) = 1) ((hdP (h 100) (8 * n) wd9 hd9 T9 (FS u) (3 * u + 1 - FS u).toNat (8 * f) P9 W9).1 = 1)) → (IMQ ((w59_190 73 50) = 1) ((hdP (h 100) (8 * n) wd9 hd9 T9 (FS u) (3 * u + 1 - FS u).toNat (8 * f) P9 W9).1 = -1)) → (IM2 ((w59_190 73 50) = 0) ((w59_190 73 45) = 0) ((8 * f ≤ 8 * (w59_190 73 42) + (w59_190 73 43) ∧ 8 * (w59_190 73 42) + (w59_190 73 43) ≤ 8 * n) ∧ ∀ j : Int, FS u ≤ j → j < 3 * u + 1 → 0 ≤ (hssS (h 100) (8 * n) wd9 hd9 T9 (FS u) (b - FS u).toNat (hs0 (8 * f + 1) P9 W9)).2.2.2.2.2 j)) → (∀ j : Int, b ≤ j → (w59_190 104) j = 0 ∨ 10 ≤ j) → (3 * u + 1 - b).toNat < k190 → TT K ly 0 0 59 [(0, vR 73), (1, vI u), (2, vI f), (3, vI n), (4, vI b)] [] w59_190 := by
            intro k190
            induction k190 with
            | zero => intro b w59_190 hT59_190 hF59_190 hb hau k101 k102 k103 k83i f01 k44 k87 fo fw e1 e2 e3 ee hgz hk190; exact absurd hk190 (Nat.not_lt_zero _)
            | succ k190 ih190 =>
              intro b w59_190 hT59_190 hF59_190 hb hau k101 k102 k103 k83i f01 k44 k87 fo fw e1 e2 e3 ee hgz hk190
              refine TT_iload hK 4 rfl dX12_getPacket_59 ?_
              refine TT_iconst hK dX12_getPacket_61 ?_
              refine TT_iload_n hK rfl 1 rfl dX12_getPacket_62 ?_
              refine TT_imul hK dX12_getPacket_63 ?_
              refine TT_icmp_gt hK (tgt := 120) (irm (by omega) (by omega)) (irm (by omega) (by omega)) dX12_getPacket_64 (by decide) (fun hb64_191 => ?_) (fun hb64_191 => ?_)
              · refine TT_sub [0, 1, 2, 3] rfl ?_
                have e192_73_42 : w59_190 73 42 = (w59_190 73) 42 := rfl
                have e193_73_43 : w59_190 73 43 = (w59_190 73) 43 := rfl
                have e194_73_45 : w59_190 73 45 = (w59_190 73) 45 := rfl
                have e195_73_50 : w59_190 73 50 = (w59_190 73) 50 := rfl
                have e196_73_44 : w59_190 73 44 = (w59_190 73) 44 := rfl
                have e197_73_42 : w59_190 73 42 = (w59_190 73) 42 := rfl
                have e198_73_43 : w59_190 73 43 = (w59_190 73) 43 := rfl
                have e199_73_45 : w59_190 73 45 = (w59_190 73) 45 := rfl
                have e200_73_50 : w59_190 73 50 = (w59_190 73) 50 := rfl
                have e201_73_42 : w59_190 73 42 = (w59_190 73) 42 := rfl
                have e202_73_43 : w59_190 73 43 = (w59_190 73) 43 := rfl
                have e203_73_45 : w59_190 73 45 = (w59_190 73) 45 := rfl
                have e204_73_50 : w59_190 73 50 = (w59_190 73) 50 := rfl
                have e205_73_45 : w59_190 73 45 = (w59_190 73) 45 := rfl
                have e206_73_50 : w59_190 73 50 = (w59_190 73) 50 := rfl
                have e207_73_50 : w59_190 73 50 = (w59_190 73) 50 := rfl
                have e208_73_42 : w59_190 73 42 = (w59_190 73) 42 := rfl
                have e209_73_43 : w59_190 73 43 = (w59_190 73) 43 := rfl
                have e210_73_45 : w59_190 73 45 = (w59_190 73) 45 := rfl
                have e211_73_50 : w59_190 73 50 = (w59_190 73) 50 := rfl
                exact J120_7 w59_190 hT59_190 hF59_190 (by first | rfl | exact k101) (by first | rfl | exact k102) (by first | rfl | exact k103) (by rewrite [e192_73_42, e193_73_43]; first | omega | (simp [up, setR] <;> omega)) (by first | exact k83i | (intro q hq; rfl) | (intro q hq; exact fup_ne _ _ (by omega)) | (intro q hq; rw [fup_ne _ _ (by omega)]; exact k83i q hq)) (by rewrite [e194_73_45, e195_73_50]; first | omega | (simp [up, setR] <;> omega)) (by rewrite [e196_73_44]; first | omega | (simp [up, setR] <;> omega)) (by first | rfl | exact k87) (by first | exact fo | (intro j _ _; rw [k83, k86, k88]; exact ⟨rfl, rfl, rfl⟩)) (by rewrite [e197_73_42, e198_73_43, e199_73_45, e200_73_50]; first | exact fw | (intro j j0 j1; rw [k88, k86, k83]; have k9 := hwt j j0 j1; exact ⟨by omega, fun _ _ => k9.2⟩)) (by rewrite [e201_73_42, e202_73_43, e203_73_45, e204_73_50]; intro q q2; rw [HI_e f3h, show (3 * u + 1 - FS u).toNat = (b - FS u).toNat by omega]; exact e1 q q2) (by rewrite [e205_73_45, e206_73_50]; intro q q2; exact e2 q q2) (by rewrite [e207_73_50]; intro q; exact e3 q) (by rewrite [e208_73_42, e209_73_43, e210_73_45, e211_73_50]; intro q q2; rw [HI_e f3h, show (3 * u + 1 - FS u).toNat = (b - FS u).toNat by omega]; exact ee q q2)
              · refine TT_aload_n hK rfl 0 rfl dX12_getPacket_67 ?_
                refine gf_X12_365 hK (by decide) rfl (v := (w59_190 73) 45) rfl dX12_getPacket_68 ?_
                have r212 := ty_73_45 (v := (w59_190 73) 45) hT59_190 rfl
                refine TT_if_ne hK (tgt := 120) (irm (by omega) (by omega)) dX12_getPacket_71 (by decide) (fun hb71_213 => ?_) (fun hb71_213 => ?_)
                · refine TT_sub [0, 1, 2, 3] rfl ?_
                  have e214_73_42 : w59_190 73 42 = (w59_190 73) 42 := rfl
                  have e215_73_43 : w59_190 73 43 = (w59_190 73) 43 := rfl
                  have e216_73_45 : w59_190 73 45 = (w59_190 73) 45 := rfl
                  have e217_73_50 : w59_190 73 50 = (w59_190 73) 50 := rfl
                  have e218_73_44 : w59_190 73 44 = (w59_190 73) 44 := rfl
                  have e219_73_42 : w59_190 73 42 = (w59_190 73) 42 := rfl
                  have e220_73_43 : w59_190 73 43 = (w59_190 73) 43 := rfl
                  have e221_73_45 : w59_190 73 45 = (w59_190 73) 45 := rfl
                  have e222_73_50 : w59_190 73 50 = (w59_190 73) 50 := rfl
                  have e223_73_42 : w59_190 73 42 = (w59_190 73) 42 := rfl
                  have e224_73_43 : w59_190 73 43 = (w59_190 73) 43 := rfl
                  have e225_73_45 : w59_190 73 45 = (w59_190 73) 45 := rfl
                  have e226_73_50 : w59_190 73 50 = (w59_190 73) 50 := rfl
                  have e227_73_45 : w59_190 73 45 = (w59_190 73) 45 := rfl
                  have e228_73_50 : w59_190 73 50 = (w59_190 73) 50 := rfl
                  have e229_73_50 : w59_190 73 50 = (w59_190 73) 50 := rfl
                  have e230_73_42 : w59_190 73 42 = (w59_190 73) 42 := rfl
                  have e231_73_43 : w59_190 73 43 = (w59_190 73) 43 := rfl
                  have e232_73_45 : w59_190 73 45 = (w59_190 73) 45 := rfl
                  have e233_73_50 : w59_190 73 50 = (w59_190 73) 50 := rfl
                  exact J120_7 w59_190 hT59_190 hF59_190 (by first | rfl | exact k101) (by first | rfl | exact k102) (by first | rfl | exact k103) (by rewrite [e214_73_42, e215_73_43]; first | omega | (simp [up, setR] <;> omega)) (by first | exact k83i | (intro q hq; rfl) | (intro q hq; exact fup_ne _ _ (by omega)) | (intro q hq; rw [fup_ne _ _ (by omega)]; exact k83i q hq)) (by rewrite [e216_73_45, e217_73_50]; first | omega | (simp [up, setR] <;> omega)) (by rewrite [e218_73_44]; first | omega | (simp [up, setR] <;> omega)) (by first | rfl | exact k87) (by first | exact fo | (intro j _ _; rw [k83, k86, k88]; exact ⟨rfl, rfl, rfl⟩)) (by rewrite [e219_73_42, e220_73_43, e221_73_45, e222_73_50]; first | exact fw | (intro j j0 j1; rw [k88, k86, k83]; have k9 := hwt j j0 j1; exact ⟨by omega, fun _ _ => k9.2⟩)) (by rewrite [e223_73_42, e224_73_43, e225_73_45, e226_73_50]; intro q q2; rw [HI_e f3h, show (3 * u + 1 - FS u).toNat = (b - FS u).toNat by omega]; exact e1 q q2) (by rewrite [e227_73_45, e228_73_50]; intro q q2; exact e2 q q2) (by rewrite [e229_73_50]; intro q; exact e3 q) (by rewrite [e230_73_42, e231_73_43, e232_73_45, e233_73_50]; intro q q2; rw [HI_e f3h, show (3 * u + 1 - FS u).toNat = (b - FS u).toNat by omega]; exact ee q q2)
                · refine TT_aload_n hK rfl 0 rfl dX12_getPacket_74 ?_
                  refine gf_X12_375 hK (by decide) rfl (v := (w59_190 73) 50) rfl dX12_getPacket_75 ?_
                  have r234 := ty_73_50 (v := (w59_190 73) 50) hT59_190 rfl
                  refine TT_if_ne hK (tgt := 120) (irm (by omega) (by omega)) dX12_getPacket_78 (by decide) (fun hb78_235 => ?_) (fun hb78_235 => ?_)
                  · refine TT_sub [0, 1, 2, 3] rfl ?_
                    have e236_73_42 : w59_190 73 42 = (w59_190 73) 42 := rfl
                    have e237_73_43 : w59_190 73 43 = (w59_190 73) 43 := rfl
                    have e238_73_45 : w59_190 73 45 = (w59_190 73) 45 := rfl
                    have e239_73_50 : w59_190 73 50 = (w59_190 73) 50 := rfl
                    have e240_73_44 : w59_190 73 44 = (w59_190 73) 44 := rfl
                    have e241_73_42 : w59_190 73 42 = (w59_190 73) 42 := rfl
                    have e242_73_43 : w59_190 73 43 = (w59_190 73) 43 := rfl
                    have e243_73_45 : w59_190 73 45 = (w59_190 73) 45 := rfl
                    have e244_73_50 : w59_190 73 50 = (w59_190 73) 50 := rfl
                    have e245_73_42 : w59_190 73 42 = (w59_190 73) 42 := rfl
                    have e246_73_43 : w59_190 73 43 = (w59_190 73) 43 := rfl
                    have e247_73_45 : w59_190 73 45 = (w59_190 73) 45 := rfl
                    have e248_73_50 : w59_190 73 50 = (w59_190 73) 50 := rfl
                    have e249_73_45 : w59_190 73 45 = (w59_190 73) 45 := rfl
                    have e250_73_50 : w59_190 73 50 = (w59_190 73) 50 := rfl
                    have e251_73_50 : w59_190 73 50 = (w59_190 73) 50 := rfl
                    have e252_73_42 : w59_190 73 42 = (w59_190 73) 42 := rfl
                    have e253_73_43 : w59_190 73 43 = (w59_190 73) 43 := rfl
                    have e254_73_45 : w59_190 73 45 = (w59_190 73) 45 := rfl
                    have e255_73_50 : w59_190 73 50 = (w59_190 73) 50 := rfl
                    exact J120_7 w59_190 hT59_190 hF59_190 (by first | rfl | exact k101) (by first | rfl | exact k102) (by first | rfl | exact k103) (by rewrite [e236_73_42, e237_73_43]; first | omega | (simp [up, setR] <;> omega)) (by first | exact k83i | (intro q hq; rfl) | (intro q hq; exact fup_ne _ _ (by omega)) | (intro q hq; rw [fup_ne _ _ (by omega)]; exact k83i q hq)) (by rewrite [e238_73_45, e239_73_50]; first | omega | (simp [up, setR] <;> omega)) (by rewrite [e240_73_44]; first | omega | (simp [up, setR] <;> omega)) (by first | rfl | exact k87) (by first | exact fo | (intro j _ _; rw [k83, k86, k88]; exact ⟨rfl, rfl, rfl⟩)) (by rewrite [e241_73_42, e242_73_43, e243_73_45, e244_73_50]; first | exact fw | (intro j j0 j1; rw [k88, k86, k83]; have k9 := hwt j j0 j1; exact ⟨by omega, fun _ _ => k9.2⟩)) (by rewrite [e245_73_42, e246_73_43, e247_73_45, e248_73_50]; intro q q2; rw [HI_e f3h, show (3 * u + 1 - FS u).toNat = (b - FS u).toNat by omega]; exact e1 q q2) (by rewrite [e249_73_45, e250_73_50]; intro q q2; exact e2 q q2) (by rewrite [e251_73_50]; intro q; exact e3 q) (by rewrite [e252_73_42, e253_73_43, e254_73_45, e255_73_50]; intro q q2; rw [HI_e f3h, show (3 * u + 1 - FS u).toNat = (b - FS u).toNat by omega]; exact ee q q2)
                  · refine TT_aload_n hK rfl 0 rfl dX12_getPacket_81 ?_
                    refine gf_X12_35 hK (by decide) rfl (q := 80) rfl rfl dX12_getPacket_82 ?_
                    refine TT_bipush hK (by decide) dX12_getPacket_85 ?_
                    refine TT_iload hK 4 rfl dX12_getPacket_87 ?_
                    refine TT_iadd hK dX12_getPacket_89 ?_
                    refine TT_iald hK (o := 80) (n := 20) (by decide) rfl (by first | omega | (simp [up, setR] <;> omega)) (by first | omega | (simp [up, setR] <;> omega)) (v := (h 80) (10 + b)) (rd_ (hF59_190.1 80 (by decide)) rfl) dX12_getPacket_90 ?_
                    have r256 := ty_80 (i := 10 + b) (v := (h 80) (10 + b)) hT59_190 (rd_ (hF59_190.1 80 (by decide)) rfl) (by omega) (by omega)
                    refine TT_aload_n hK rfl 0 rfl dX12_getPacket_91 ?_
                    refine gf_X12_38 hK (by decide) rfl (q := 81) rfl rfl dX12_getPacket_92 ?_
                    refine TT_bipush hK (by decide) dX12_getPacket_95 ?_
                    refine TT_iload hK 4 rfl dX12_getPacket_97 ?_
                    refine TT_iadd hK dX12_getPacket_99 ?_
                    refine TT_iald hK (o := 81) (n := 20) (by decide) rfl (by first | omega | (simp [up, setR] <;> omega)) (by first | omega | (simp [up, setR] <;> omega)) (v := (h 81) (10 + b)) (rd_ (hF59_190.1 81 (by decide)) rfl) dX12_getPacket_100 ?_
                    have r257 := ty_81 (i := 10 + b) (v := (h 81) (10 + b)) hT59_190 (rd_ (hF59_190.1 81 (by decide)) rfl) (by omega) (by omega)
                    refine TT_imul hK dX12_getPacket_101 ?_
                    refine TT_nmI (fun p9 hp9 => ?_)
                    refine TT_if_le hK (tgt := 114) (irm (by have k9 := mul_z (ty_80 (i := 10 + b) (v := h 80 (10 + b)) hT rfl (by omega) (by omega)) (ty_81 (i := 10 + b) (v := h 81 (10 + b)) hT rfl (by omega) (by omega)) hp9; omega) (by have k9 := mul_z (ty_80 (i := 10 + b) (v := h 80 (10 + b)) hT rfl (by omega) (by omega)) (ty_81 (i := 10 + b) (v := h 81 (10 + b)) hT rfl (by omega) (by omega)) hp9; omega)) dX12_getPacket_102 (by decide) (fun hb102_258 => ?_) (fun hb102_258 => ?_)
                    · have k9 := mul_z (ty_80 (i := 10 + b) (v := h 80 (10 + b)) hT rfl (by omega) (by omega)) (ty_81 (i := 10 + b) (v := h 81 (10 + b)) hT rfl (by omega) (by omega)) hp9
                      have em9 : HID (wd9 b = 0 ∨ hd9 b = 0) := by
                          show wd9 b = 0 ∨ hd9 b = 0
                          rw [← (hgs b (by omega) (by omega)).1.1, ← (hgs b (by omega) (by omega)).1.2]
                          exact k9.2.1 (by omega)
                      
                      refine TT_iinc hK (v := b + 1) (lv' := [(4, vI (b + 1)), (0, vR 73), (1, vI u), (2, vI f), (3, vI n)]) 4 rfl rfl (by decide) rfl dX12_getPacket_114 ?_
                      refine TT_goto hK (tgt := 59) dX12_getPacket_117 (by decide) ?_
                      refine TT_sub [1, 2, 3, 4, 0] rfl ?_
                      have e259_73_42 : w59_190 73 42 = (w59_190 73) 42 := rfl
                      have e260_73_43 : w59_190 73 43 = (w59_190 73) 43 := rfl
                      have e261_73_45 : w59_190 73 45 = (w59_190 73) 45 := rfl
                      have e262_73_50 : w59_190 73 50 = (w59_190 73) 50 := rfl
                      have e263_73_44 : w59_190 73 44 = (w59_190 73) 44 := rfl
                      have e264_73_42 : w59_190 73 42 = (w59_190 73) 42 := rfl
                      have e265_73_43 : w59_190 73 43 = (w59_190 73) 43 := rfl
                      have e266_73_45 : w59_190 73 45 = (w59_190 73) 45 := rfl
                      have e267_73_50 : w59_190 73 50 = (w59_190 73) 50 := rfl
                      have e268_73_42 : w59_190 73 42 = (w59_190 73) 42 := rfl
                      have e269_73_43 : w59_190 73 43 = (w59_190 73) 43 := rfl
                      have e270_73_45 : w59_190 73 45 = (w59_190 73) 45 := rfl
                      have e271_73_50 : w59_190 73 50 = (w59_190 73) 50 := rfl
                      have e272_73_45 : w59_190 73 45 = (w59_190 73) 45 := rfl
                      have e273_73_50 : w59_190 73 50 = (w59_190 73) 50 := rfl
                      have e274_73_50 : w59_190 73 50 = (w59_190 73) 50 := rfl
                      have e275_73_42 : w59_190 73 42 = (w59_190 73) 42 := rfl
                      have e276_73_43 : w59_190 73 43 = (w59_190 73) 43 := rfl
                      have e277_73_45 : w59_190 73 45 = (w59_190 73) 45 := rfl
                      have e278_73_50 : w59_190 73 50 = (w59_190 73) 50 := rfl
                      exact ih190 (b + 1) w59_190 hT59_190 hF59_190 (by first | omega | (simp [up, setR] <;> omega)) (by rewrite [e259_73_42, e260_73_43]; first | omega | (simp [up, setR] <;> omega)) (by first | rfl | exact k101) (by first | rfl | exact k102) (by first | rfl | exact k103) (by first | exact k83i | (intro q hq; rfl) | (intro q hq; exact fup_ne _ _ (by omega)) | (intro q hq; rw [fup_ne _ _ (by omega)]; exact k83i q hq)) (by rewrite [e261_73_45, e262_73_50]; first | omega | (simp [up, setR] <;> omega)) (by rewrite [e263_73_44]; first | omega | (simp [up, setR] <;> omega)) (by first | rfl | exact k87) (by exact fo) (by rewrite [e264_73_42, e265_73_43, e266_73_45, e267_73_50]; exact fw) (by rewrite [e268_73_42, e269_73_43, e270_73_45, e271_73_50]; intro q q2; rw [hssS_s (by omega), hs1S_e (wd := wd9) (hd := hd9) (T := T9) (HI_e em9)]; exact e1 q q2) (by rewrite [e272_73_45, e273_73_50]; exact e2) (by rewrite [e274_73_50]; exact e3) (by rewrite [e275_73_42, e276_73_43, e277_73_45, e278_73_50]; intro q q2; rw [hssS_s (by omega), hs1S_e (wd := wd9) (hd := hd9) (T := T9) (HI_e em9)]; exact ee q q2) (by intro j j0; exact hgz j (by omega)) (by first | omega | (simp [up, setR] <;> omega))
                    · have k9 := mul_z (ty_80 (i := 10 + b) (v := h 80 (10 + b)) hT rfl (by omega) (by omega)) (ty_81 (i := 10 + b) (v := h 81 (10 + b)) hT rfl (by omega) (by omega)) hp9
                      have em9 : HID (¬(wd9 b = 0 ∨ hd9 b = 0)) := by
                          show ¬(wd9 b = 0 ∨ hd9 b = 0)
                          rw [← (hgs b (by omega) (by omega)).1.1, ← (hgs b (by omega) (by omega)).1.2]
                          exact k9.2.2 (by omega)
                      have e1b : HID _ := e1 (by omega) (by omega)
                      have G0 : (hssS (h 100) (8 * n) wd9 hd9 T9 (FS u) (b - FS u).toNat (hs0 (8 * f + 1) P9 W9)).2.2.2.2.1 b = 0 := hssS_G _ _ (by omega)
                      have wtb := fw b (by omega) (by omega)
                      have wtc := wtb.2 (by omega) (by omega)
                      have eeb := (ee (by omega) (by omega)).1
                      have z104 := hgz b (Int.le_refl _)
                      refine TT_aload_n hK rfl 0 rfl dX12_getPacket_105 ?_
                      refine TT_bipush hK (by decide) dX12_getPacket_106 ?_
                      refine TT_iload hK 4 rfl dX12_getPacket_108 ?_
                      refine TT_iadd hK dX12_getPacket_110 ?_
                      have e279_73_44 : w59_190 73 44 = (w59_190 73) 44 := rfl
                      have e280_73_45 : w59_190 73 45 = (w59_190 73) 45 := rfl
                      have e281_73_50 : w59_190 73 50 = (w59_190 73) 50 := rfl
                      have e282_73_42 : w59_190 73 42 = (w59_190 73) 42 := rfl
                      have e283_73_43 : w59_190 73 43 = (w59_190 73) 43 := rfl
                      refine iv_X12_382 hK (s_getHead_e (10 + b) w59_190 hT59_190 (by first | omega | (simp [up, setR] <;> omega)) (by rewrite [e279_73_44]; omega) (by rewrite [e280_73_45, e281_73_50]; omega) (by exact wtc.1) (by rewrite [e282_73_42, e283_73_43]; exact wtb.1)) (by decide) rfl ⟨by decide, by decide⟩ (by decide) rfl rfl (Nat.le_of_ble_eq_true rfl) ⟨by decide, by decide⟩ dX12_getPacket_111 ?_
                      intro r9 g111_284 hp9
                      obtain ⟨⟨hT_284, hG_284⟩, hr9, p6_284, k83_284, gh_284, ks_284, kw_284⟩ := hp9
                      rw [hr9]
                      have hF_284 : FRM [73, 83, 86, 87, 88, 101, 102, 103, 104] [42, 43, 44, 45, 50] h g111_284 := FRM_tr hF59_190 hG_284 (by decide) (by decide)
                      rw [show w59_190 73 42 = (w59_190 73) 42 from rfl] at p6_284
                      rw [show w59_190 73 43 = (w59_190 73) 43 from rfl] at p6_284
                      rw [show w59_190 100 = h 100 from (hF59_190.1 100 (by decide))] at gh_284
                      rw [show w59_190 73 42 = (w59_190 73) 42 from rfl] at gh_284
                      rw [show w59_190 73 43 = (w59_190 73) 43 from rfl] at gh_284
                      rw [show w59_190 73 44 = (w59_190 73) 44 from rfl] at gh_284
                      have k83_at111 := k83_284
                      have gh_at111 := gh_284
                      have ks_at111 := ks_284
                      have kw_at111 := kw_284
                      show TT K ly 0 0 114 [(0, vR 73), (1, vI u), (2, vI f), (3, vI n), (4, vI b)] [] g111_284
                      have u45 := ty_73_45 (v := ((g111_284 73) 45)) hT_284 rfl
                      have u50 := ty_73_50 (v := ((g111_284 73) 50)) hT_284 rfl
                      have g9 := gh_at111
                      rw [k44, show 10 + b - 10 = b by omega] at g9
                      have ks9 := ks_at111
                      rw [show 10 + b - 10 = b by omega] at ks9
                      have rn9 : IMQ ((hbS (h 100) (8 * n) (8 * (w59_190 73 42) + (w59_190 73 43)) (w59_190 83 (10 + b)) (w59_190 86 (10 + b)) (w59_190 88 (10 + b))).1 = 0) _ := fun y => RF_n (wd := wd9) (hd := hd9) e1b.2 e1b.1.1 (HI_e em9) (by omega) G0 e1b.1.2 y ⟨(g9.1.1 y).2.1, (g9.1.1 y).2.2.1, (g9.1.1 y).2.2.2.1, (g9.1.1 y).2.2.2.2.1, by
                          rcases (g9.1.1 y).2.2.2.2.2 with q9 | q9
                          · exact q9
                          · rw [q9.1, q9.2]
                            rcases z104 with q8 | q8
                            · rw [q8]; exact RVQ_0
                            · exfalso; omega⟩ ks9.1 ks9.2
                      have rx9 : HID ((hs1S (h 100) (8 * n) wd9 hd9 T9 b (hssS (h 100) (8 * n) wd9 hd9 T9 (FS u) (b - FS u).toNat (hs0 (8 * f + 1) P9 W9))).1 = (hbS (h 100) (8 * n) (8 * (w59_190 73 42) + (w59_190 73 43)) (w59_190 83 (10 + b)) (w59_190 86 (10 + b)) (w59_190 88 (10 + b))).1) := RF_x e1b.2 e1b.1.1 (HI_e em9) (by omega) G0 e1b.1.2
                      have fwb : (3 ≤ (g111_284 88) (10 + b) ∧ (g111_284 88) (10 + b) ≤ 3 + (8 * ((g111_284 73) 42) + ((g111_284 73) 43))) ∧ IM2 (((g111_284 73) 50) = 0) (((g111_284 73) 45) = 0) ((0 ≤ (g111_284 86) (10 + b) ∧ (g111_284 86) (10 + b) ≤ 34) ∧ (0 ≤ (g111_284 83) (10 + b) ∧ (g111_284 83) (10 + b) ≤ 12)) := by
                          refine ⟨kw_at111, fun q q2 => ?_⟩
                          exact (GHP_r g9 (by omega) wtc.2 wtc.1 wtb.1.1 (GHP_k g9 q q2)).2.1
                      refine TT_iinc hK (v := b + 1) (lv' := [(4, vI (b + 1)), (0, vR 73), (1, vI u), (2, vI f), (3, vI n)]) 4 rfl rfl (by decide) rfl dX12_getPacket_114 ?_
                      refine TT_goto hK (tgt := 59) dX12_getPacket_117 (by decide) ?_
                      refine TT_sub [1, 2, 3, 4, 0] rfl ?_
                      have e285_73_42 : g111_284 73 42 = (g111_284 73) 42 := rfl
                      have e286_73_43 : g111_284 73 43 = (g111_284 73) 43 := rfl
                      have e287_101 : g111_284 101 = w59_190 101 := (hG_284.1 101 (by decide))
                      have e288_102 : g111_284 102 = w59_190 102 := (hG_284.1 102 (by decide))
                      have e289_103 : g111_284 103 = w59_190 103 := (hG_284.1 103 (by decide))
                      have e290_73_45 : g111_284 73 45 = (g111_284 73) 45 := rfl
                      have e291_73_50 : g111_284 73 50 = (g111_284 73) 50 := rfl
                      have e292_73_44 : g111_284 73 44 = (w59_190 73) 44 := (hG_284.2 44 (by decide))
                      have e293_87 : g111_284 87 = w59_190 87 := (hG_284.1 87 (by decide))
                      have e294_73_42 : g111_284 73 42 = (g111_284 73) 42 := rfl
                      have e295_73_43 : g111_284 73 43 = (g111_284 73) 43 := rfl
                      have e296_73_45 : g111_284 73 45 = (g111_284 73) 45 := rfl
                      have e297_73_50 : g111_284 73 50 = (g111_284 73) 50 := rfl
                      have e298_73_42 : g111_284 73 42 = (g111_284 73) 42 := rfl
                      have e299_73_43 : g111_284 73 43 = (g111_284 73) 43 := rfl
                      have e300_73_45 : g111_284 73 45 = (g111_284 73) 45 := rfl
                      have e301_73_50 : g111_284 73 50 = (g111_284 73) 50 := rfl
                      have e302_73_45 : g111_284 73 45 = (g111_284 73) 45 := rfl
                      have e303_73_50 : g111_284 73 50 = (g111_284 73) 50 := rfl
                      have e304_73_50 : g111_284 73 50 = (g111_284 73) 50 := rfl
                      have e305_73_42 : g111_284 73 42 = (g111_284 73) 42 := rfl
                      have e306_73_43 : g111_284 73 43 = (g111_284 73) 43 := rfl
                      have e307_73_45 : g111_284 73 45 = (g111_284 73) 45 := rfl
                      have e308_73_50 : g111_284 73 50 = (g111_284 73) 50 := rfl
                      exact ih190 (b + 1) g111_284 hT_284 hF_284 (by first | omega | (simp [up, setR] <;> omega)) (by rewrite [e285_73_42, e286_73_43]; first | omega | (simp [up, setR] <;> omega)) (by rewrite [e287_101]; first | rfl | exact k101) (by rewrite [e288_102]; first | rfl | exact k102) (by rewrite [e289_103]; first | rfl | exact k103) (by first | exact k83i | (intro q hq; rfl) | (intro q hq; exact (k83_at111 q hq).trans (k83i q hq)) | exact k83_at111 | (intro q hq; exact fup_ne _ _ (by omega)) | (intro q hq; rw [fup_ne _ _ (by omega)]; exact k83i q hq)) (by rewrite [e290_73_45, e291_73_50]; first | omega | (simp [up, setR] <;> omega)) (by rewrite [e292_73_44]; first | omega | (simp [up, setR] <;> omega)) (by rewrite [e293_87]; first | rfl | exact k87) (by intro j j0 j1; have k9 := ks_at111.1 (10 + j) (by omega); have k8 := fo j j0 j1; rw [k9.1, k9.2.1, k9.2.2]; exact k8) (by rewrite [e294_73_42, e295_73_43, e296_73_45, e297_73_50]; intro j j0 j1; by_cases y : j = b; (rw [y]; exact fwb); (have k9 := ks_at111.1 (10 + j) (by omega); have k8 := fw j j0 j1; have k7 := k8.2 (by omega) (by omega); have k6 := k8.1; rw [k9.1, k9.2.1, k9.2.2]; exact ⟨by omega, fun _ _ => k7⟩)) (by rewrite [e298_73_42, e299_73_43, e300_73_45, e301_73_50]; intro q q2; rw [hssS_s (by omega)]; have k9 := rn9 (GHP_k g9 q q2); exact ⟨⟨k9.2.1, k9.2.2⟩, k9.1⟩) (by rewrite [e302_73_45, e303_73_50]; intro q q2; have k9 := GHP_m g9 q2 q; rw [HI_e f3h, hssS_c (k := (b + 1 - FS u).toNat) _ (by omega) (by rw [hssS_s (by omega), HI_e rx9, k9]; decide), hssS_s (by omega), HI_e rx9]; exact k9) (by rewrite [e304_73_50]; intro q; have k9 := GHP_l g9 q; rw [HI_e f3h, hssS_c (k := (b + 1 - FS u).toNat) _ (by omega) (by rw [hssS_s (by omega), HI_e rx9, k9]; decide), hssS_s (by omega), HI_e rx9]; exact k9) (by rewrite [e305_73_42, e306_73_43, e307_73_45, e308_73_50]; intro q q2; have k9 := GHP_r g9 (by omega) wtc.2 wtc.1 wtb.1.1 (GHP_k g9 q q2); refine ⟨by have k8 := k9.1; omega, fun j j0 j1 => ?_⟩; rw [hssS_s (by omega), hs1_p e1b.1.1 (HI_e em9)]; show 0 ≤ fup _ b _ j; by_cases y : j = b; (rw [y, fup_eq, ← RF_b e1b.2 (by omega) G0 e1b.1.2]; exact k9.2.2); (rw [fup_ne _ _ y]; exact (ee (by omega) (by omega)).2 j j0 j1)) (by intro j j0; rw [ks9.2 j (by omega)]; exact hgz j (by omega)) (by first | omega | (simp [up, setR] <;> omega))
          refine TT_sub [1, 2, 3, 4, 0] rfl ?_
          have e309_73_42 : g54_189 73 42 = (g46_152 73) 42 := congrFun (hG_189.1 73 (by decide)) 42
          have e310_73_43 : g54_189 73 43 = (g46_152 73) 43 := congrFun (hG_189.1 73 (by decide)) 43
          have e311_101 : g54_189 101 = w23_5 101 := ((hG_189.1 101 (by decide))).trans (hG_152.1 101 (by decide))
          have e312_102 : g54_189 102 = w23_5 102 := ((hG_189.1 102 (by decide))).trans (hG_152.1 102 (by decide))
          have e313_103 : g54_189 103 = w23_5 103 := ((hG_189.1 103 (by decide))).trans (hG_152.1 103 (by decide))
          have e314_83 : g54_189 83 = w23_5 83 := ((hG_189.1 83 (by decide))).trans (hG_152.1 83 (by decide))
          have e315_73_45 : g54_189 73 45 = (g46_152 73) 45 := congrFun (hG_189.1 73 (by decide)) 45
          have e316_73_50 : g54_189 73 50 = (w23_5 73) 50 := (congrFun (hG_189.1 73 (by decide)) 50).trans (hG_152.2 50 (by decide))
          have e317_73_44 : g54_189 73 44 = (w23_5 73) 44 := (congrFun (hG_189.1 73 (by decide)) 44).trans (hG_152.2 44 (by decide))
          have e318_87 : g54_189 87 = w23_5 87 := ((hG_189.1 87 (by decide))).trans (hG_152.1 87 (by decide))
          have e319_83 : g54_189 83 = w23_5 83 := ((hG_189.1 83 (by decide))).trans (hG_152.1 83 (by decide))
          have e320_86 : g54_189 86 = w23_5 86 := ((hG_189.1 86 (by decide))).trans (hG_152.1 86 (by decide))
          have e321_88 : g54_189 88 = w23_5 88 := ((hG_189.1 88 (by decide))).trans (hG_152.1 88 (by decide))
          have e322_73_42 : g54_189 73 42 = (g46_152 73) 42 := congrFun (hG_189.1 73 (by decide)) 42
          have e323_73_43 : g54_189 73 43 = (g46_152 73) 43 := congrFun (hG_189.1 73 (by decide)) 43
          have e324_73_45 : g54_189 73 45 = (g46_152 73) 45 := congrFun (hG_189.1 73 (by decide)) 45
          have e325_73_50 : g54_189 73 50 = (w23_5 73) 50 := (congrFun (hG_189.1 73 (by decide)) 50).trans (hG_152.2 50 (by decide))
          have e326_83 : g54_189 83 = w23_5 83 := ((hG_189.1 83 (by decide))).trans (hG_152.1 83 (by decide))
          have e327_86 : g54_189 86 = w23_5 86 := ((hG_189.1 86 (by decide))).trans (hG_152.1 86 (by decide))
          have e328_88 : g54_189 88 = w23_5 88 := ((hG_189.1 88 (by decide))).trans (hG_152.1 88 (by decide))
          have e329_104 : g54_189 104 = w23_5 104 := ((hG_189.1 104 (by decide))).trans (hG_152.1 104 (by decide))
          have e330_73_42 : g54_189 73 42 = (g46_152 73) 42 := congrFun (hG_189.1 73 (by decide)) 42
          have e331_73_43 : g54_189 73 43 = (g46_152 73) 43 := congrFun (hG_189.1 73 (by decide)) 43
          have e332_73_45 : g54_189 73 45 = (g46_152 73) 45 := congrFun (hG_189.1 73 (by decide)) 45
          have e333_73_50 : g54_189 73 50 = (w23_5 73) 50 := (congrFun (hG_189.1 73 (by decide)) 50).trans (hG_152.2 50 (by decide))
          have e334_83 : g54_189 83 = w23_5 83 := ((hG_189.1 83 (by decide))).trans (hG_152.1 83 (by decide))
          have e335_86 : g54_189 86 = w23_5 86 := ((hG_189.1 86 (by decide))).trans (hG_152.1 86 (by decide))
          have e336_88 : g54_189 88 = w23_5 88 := ((hG_189.1 88 (by decide))).trans (hG_152.1 88 (by decide))
          have e337_73_45 : g54_189 73 45 = (g46_152 73) 45 := congrFun (hG_189.1 73 (by decide)) 45
          have e338_73_50 : g54_189 73 50 = (w23_5 73) 50 := (congrFun (hG_189.1 73 (by decide)) 50).trans (hG_152.2 50 (by decide))
          have e339_73_50 : g54_189 73 50 = (w23_5 73) 50 := (congrFun (hG_189.1 73 (by decide)) 50).trans (hG_152.2 50 (by decide))
          have e340_73_42 : g54_189 73 42 = (g46_152 73) 42 := congrFun (hG_189.1 73 (by decide)) 42
          have e341_73_43 : g54_189 73 43 = (g46_152 73) 43 := congrFun (hG_189.1 73 (by decide)) 43
          have e342_73_45 : g54_189 73 45 = (g46_152 73) 45 := congrFun (hG_189.1 73 (by decide)) 45
          have e343_73_50 : g54_189 73 50 = (w23_5 73) 50 := (congrFun (hG_189.1 73 (by decide)) 50).trans (hG_152.2 50 (by decide))
          have e344_104 : g54_189 104 = w23_5 104 := ((hG_189.1 104 (by decide))).trans (hG_152.1 104 (by decide))
          have fs1 := p1_at54
          exact L59_190 (((3 * u + 1 - z54_189).toNat) + 1) z54_189 g54_189 hT_189 hF_189 (by first | omega | (simp [up, setR] <;> omega)) (by rewrite [e309_73_42, e310_73_43]; first | omega | (simp [up, setR] <;> omega)) (by rewrite [e311_101]; first | rfl | exact k101) (by rewrite [e312_102]; first | rfl | exact k102) (by rewrite [e313_103]; first | rfl | exact k103) (by rewrite [e314_83]; first | exact k83i | (intro q hq; rfl) | (intro q hq; exact fup_ne _ _ (by omega)) | (intro q hq; rw [fup_ne _ _ (by omega)]; exact k83i q hq)) (by rewrite [e315_73_45, e316_73_50]; first | omega | (simp [up, setR] <;> omega)) (by rewrite [e317_73_44]; first | omega | (simp [up, setR] <;> omega)) (by rewrite [e318_87]; first | rfl | exact k87) (by rewrite [e319_83, e320_86, e321_88]; first | (intro j _ _; rw [k83, k86, k88]; exact ⟨rfl, rfl, rfl⟩)) (by rewrite [e322_73_42, e323_73_43, e324_73_45, e325_73_50, e326_83, e327_86, e328_88]; first | (intro j j0 j1; rw [k88, k86, k83]; have k9 := hwt j j0 j1; exact ⟨by omega, fun _ _ => k9.2⟩)) (by rewrite [e329_104, e330_73_42, e331_73_43, e332_73_45, e333_73_50, e334_83, e335_86, e336_88]; intro q q2; rw [fs1, show FS u - FS u = 0 by omega]; exact ⟨⟨rfl, hk1⟩, RFQ_0 (fun j j0 j1 => ⟨(congrFun k83 _).trans (hgs j j0 j1).2.1, (congrFun k86 _).trans (hgs j j0 j1).2.2.1, (congrFun k88 _).trans (hgs j j0 j1).2.2.2, hz j (by omega) (by omega)⟩)⟩) (by rewrite [e337_73_45, e338_73_50]; intro q q2; exact absurd (hk0.symm.trans q2) (by decide)) (by rewrite [e339_73_50]; intro q; exfalso; omega) (by rewrite [e340_73_42, e341_73_43, e342_73_45, e343_73_50]; intro q q2; rw [fs1, show FS u - FS u = 0 by omega]; exact ⟨by omega, fun j _ _ => Int.le_refl _⟩) (by rewrite [e344_104]; intro j j0; by_cases y : j < 10; exact Or.inl (hz j (by omega) (by omega)); exact Or.inr (by omega)) (Nat.lt_succ_self _)
      · refine TT_aload_n hK rfl 0 rfl dX12_getPacket_30 ?_
        refine gf_X12_108 hK (by decide) rfl (q := 104) rfl rfl dX12_getPacket_31 ?_
        refine TT_iload hK 4 rfl dX12_getPacket_34 ?_
        refine TT_iconst hK dX12_getPacket_36 ?_
        refine TT_iast hK (o := 104) (n := 10) (by decide) rfl (by omega) (by omega) dX12_getPacket_37 ?_
        refine TT_hp (h' := setO w23_5 104 (fup (w23_5 104) k 0)) (up_can rfl rfl rfl) ?_
        have hT_345 : TY (setO w23_5 104 (fup (w23_5 104) k 0)) := tu_104 hT23_5 (show up w23_5 104 k 0 = (setO w23_5 104 (fup (w23_5 104) k 0)) from up_can rfl rfl rfl) (by omega)
        have hF_345 : FRM [73, 83, 86, 87, 88, 101, 102, 103, 104] [42, 43, 44, 45, 50] h (setO w23_5 104 (fup (w23_5 104) k 0)) := FRM_up (show up w23_5 104 k 0 = (setO w23_5 104 (fup (w23_5 104) k 0)) from up_can rfl rfl rfl) hF23_5 (by decide) (by decide)
        refine TT_iinc hK (v := k + 1) (lv' := [(4, vI (k + 1)), (0, vR 73), (1, vI u), (2, vI f), (3, vI n)]) 4 rfl rfl (by decide) rfl dX12_getPacket_38 ?_
        refine TT_goto hK (tgt := 23) dX12_getPacket_41 (by decide) ?_
        refine TT_sub [1, 2, 3, 4, 0] rfl ?_
        have e346_73_42 : (setO w23_5 104 (fup (w23_5 104) k 0)) 73 42 = (w23_5 73) 42 := rd_ (sOf_ne _ _ (by decide)) rfl
        have e347_73_43 : (setO w23_5 104 (fup (w23_5 104) k 0)) 73 43 = (w23_5 73) 43 := rd_ (sOf_ne _ _ (by decide)) rfl
        have e348_101 : (setO w23_5 104 (fup (w23_5 104) k 0)) 101 = w23_5 101 := sOf_ne _ _ (by decide)
        have e349_102 : (setO w23_5 104 (fup (w23_5 104) k 0)) 102 = w23_5 102 := sOf_ne _ _ (by decide)
        have e350_103 : (setO w23_5 104 (fup (w23_5 104) k 0)) 103 = w23_5 103 := sOf_ne _ _ (by decide)
        have e351_83 : (setO w23_5 104 (fup (w23_5 104) k 0)) 83 = w23_5 83 := sOf_ne _ _ (by decide)
        have e352_73_42 : (setO w23_5 104 (fup (w23_5 104) k 0)) 73 42 = (w23_5 73) 42 := rd_ (sOf_ne _ _ (by decide)) rfl
        have e353_73_43 : (setO w23_5 104 (fup (w23_5 104) k 0)) 73 43 = (w23_5 73) 43 := rd_ (sOf_ne _ _ (by decide)) rfl
        have e354_73_44 : (setO w23_5 104 (fup (w23_5 104) k 0)) 73 44 = (w23_5 73) 44 := rd_ (sOf_ne _ _ (by decide)) rfl
        have e355_73_45 : (setO w23_5 104 (fup (w23_5 104) k 0)) 73 45 = (w23_5 73) 45 := rd_ (sOf_ne _ _ (by decide)) rfl
        have e356_73_50 : (setO w23_5 104 (fup (w23_5 104) k 0)) 73 50 = (w23_5 73) 50 := rd_ (sOf_ne _ _ (by decide)) rfl
        have e357_104 : (setO w23_5 104 (fup (w23_5 104) k 0)) 104 = fup (w23_5 104) k 0 := sOf_eq _ _ _
        have e358_83 : (setO w23_5 104 (fup (w23_5 104) k 0)) 83 = w23_5 83 := sOf_ne _ _ (by decide)
        have e359_86 : (setO w23_5 104 (fup (w23_5 104) k 0)) 86 = w23_5 86 := sOf_ne _ _ (by decide)
        have e360_87 : (setO w23_5 104 (fup (w23_5 104) k 0)) 87 = w23_5 87 := sOf_ne _ _ (by decide)
        have e361_88 : (setO w23_5 104 (fup (w23_5 104) k 0)) 88 = w23_5 88 := sOf_ne _ _ (by decide)
        exact ih5 (k + 1) (setO w23_5 104 (fup (w23_5 104) k 0)) hT_345 hF_345 (by first | omega | (simp [up, setR] <;> omega)) (by rewrite [e346_73_42, e347_73_43]; first | omega | (simp [up, setR] <;> omega)) (by rewrite [e348_101]; first | rfl | exact k101) (by rewrite [e349_102]; first | rfl | exact k102) (by rewrite [e350_103]; first | rfl | exact k103) (by rewrite [e351_83]; first | exact k83i | (intro q hq; rfl) | (intro q hq; exact fup_ne _ _ (by omega)) | (intro q hq; rw [fup_ne _ _ (by omega)]; exact k83i q hq)) (by rewrite [e352_73_42, e353_73_43, e354_73_44, e355_73_45, e356_73_50]; first | omega | (simp [up, setR] <;> omega)) (by rewrite [e357_104]; intro j h1 h2; by_cases e : j = k; (rw [e, fup_eq]); (rw [fup_ne _ _ e]; exact hz j h1 (by omega))) (by rewrite [e358_83]; first | rfl | exact k83) (by rewrite [e359_86]; first | rfl | exact k86) (by rewrite [e360_87]; first | rfl | exact k87) (by rewrite [e361_88]; first | rfl | exact k88) (by first | omega | (simp [up, setR] <;> omega))
  refine TT_sub [1, 2, 3, 4, 0] rfl ?_
  have e362_73_42 : (setO h 73 (fup (fup (fup (fup (h 73) 42 f) 43 0) 44 n) 45 0)) 73 42 = f := rd_ (sOf_eq _ _ _) ((fup_ne _ _ (by decide)).trans ((fup_ne _ _ (by decide)).trans ((fup_ne _ _ (by decide)).trans (fup_eq _ _ _))))
  have e363_73_43 : (setO h 73 (fup (fup (fup (fup (h 73) 42 f) 43 0) 44 n) 45 0)) 73 43 = 0 := rd_ (sOf_eq _ _ _) ((fup_ne _ _ (by decide)).trans ((fup_ne _ _ (by decide)).trans (fup_eq _ _ _)))
  have e364_101 : (setO h 73 (fup (fup (fup (fup (h 73) 42 f) 43 0) 44 n) 45 0)) 101 = h 101 := sOf_ne _ _ (by decide)
  have e365_102 : (setO h 73 (fup (fup (fup (fup (h 73) 42 f) 43 0) 44 n) 45 0)) 102 = h 102 := sOf_ne _ _ (by decide)
  have e366_103 : (setO h 73 (fup (fup (fup (fup (h 73) 42 f) 43 0) 44 n) 45 0)) 103 = h 103 := sOf_ne _ _ (by decide)
  have e367_83 : (setO h 73 (fup (fup (fup (fup (h 73) 42 f) 43 0) 44 n) 45 0)) 83 = h 83 := sOf_ne _ _ (by decide)
  have e368_73_42 : (setO h 73 (fup (fup (fup (fup (h 73) 42 f) 43 0) 44 n) 45 0)) 73 42 = f := rd_ (sOf_eq _ _ _) ((fup_ne _ _ (by decide)).trans ((fup_ne _ _ (by decide)).trans ((fup_ne _ _ (by decide)).trans (fup_eq _ _ _))))
  have e369_73_43 : (setO h 73 (fup (fup (fup (fup (h 73) 42 f) 43 0) 44 n) 45 0)) 73 43 = 0 := rd_ (sOf_eq _ _ _) ((fup_ne _ _ (by decide)).trans ((fup_ne _ _ (by decide)).trans (fup_eq _ _ _)))
  have e370_73_44 : (setO h 73 (fup (fup (fup (fup (h 73) 42 f) 43 0) 44 n) 45 0)) 73 44 = n := rd_ (sOf_eq _ _ _) ((fup_ne _ _ (by decide)).trans (fup_eq _ _ _))
  have e371_73_45 : (setO h 73 (fup (fup (fup (fup (h 73) 42 f) 43 0) 44 n) 45 0)) 73 45 = 0 := rd_ (sOf_eq _ _ _) (fup_eq _ _ _)
  have e372_73_50 : (setO h 73 (fup (fup (fup (fup (h 73) 42 f) 43 0) 44 n) 45 0)) 73 50 = (h 73) 50 := rd_ (sOf_eq _ _ _) ((fup_ne _ _ (by decide)).trans ((fup_ne _ _ (by decide)).trans ((fup_ne _ _ (by decide)).trans (fup_ne _ _ (by decide)))))
  have e373_104 : (setO h 73 (fup (fup (fup (fup (h 73) 42 f) 43 0) 44 n) 45 0)) 104 = h 104 := sOf_ne _ _ (by decide)
  have e374_83 : (setO h 73 (fup (fup (fup (fup (h 73) 42 f) 43 0) 44 n) 45 0)) 83 = h 83 := sOf_ne _ _ (by decide)
  have e375_86 : (setO h 73 (fup (fup (fup (fup (h 73) 42 f) 43 0) 44 n) 45 0)) 86 = h 86 := sOf_ne _ _ (by decide)
  have e376_87 : (setO h 73 (fup (fup (fup (fup (h 73) 42 f) 43 0) 44 n) 45 0)) 87 = h 87 := sOf_ne _ _ (by decide)
  have e377_88 : (setO h 73 (fup (fup (fup (fup (h 73) 42 f) 43 0) 44 n) 45 0)) 88 = h 88 := sOf_ne _ _ (by decide)
  exact L23_5 ((((10 : Int) - 0).toNat) + 1) 0 (setO h 73 (fup (fup (fup (fup (h 73) 42 f) 43 0) 44 n) 45 0)) hT_4 hF_4 (by first | omega | (simp [up, setR] <;> omega)) (by rewrite [e362_73_42, e363_73_43]; first | omega | (simp [up, setR] <;> omega)) (by rewrite [e364_101]; first | rfl) (by rewrite [e365_102]; first | rfl) (by rewrite [e366_103]; first | rfl) (by rewrite [e367_83]; first | (intro q hq; rfl) | (intro q hq; exact fup_ne _ _ (by omega))) (by rewrite [e368_73_42, e369_73_43, e370_73_44, e371_73_45, e372_73_50]; first | omega | (simp [up, setR] <;> omega)) (by rewrite [e373_104]; intro j h1 h2; exfalso; omega) (by rewrite [e374_83]; first | rfl) (by rewrite [e375_86]; first | rfl) (by rewrite [e376_87]; first | rfl) (by rewrite [e377_88]; first | rfl) (Nat.lt_succ_self _)

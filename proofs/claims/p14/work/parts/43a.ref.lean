def qT (s : Int) : Int := ([22017, 13313, 6145, 2753, 1313, 545, 22017, 21505, 18433, 14337, 12289, 9217, 7169, 5633, 22017, 21505, 20737, 18433, 14337, 13313, 12289, 10241, 9217, 8705, 7169, 6145, 5633, 5121, 4609, 4353, 2753, 2497, 2209, 1313, 1089, 673, 545, 321, 273, 133, 73, 37, 21, 9, 5, 1, 22017] : List Int).getD s.toNat 0
def pT (s : Int) : Int := ([101, 206, 309, 412, 529, 3833, 706, 814, 914, 1014, 1117, 1218, 1320, 2921, 1514, 1614, 1715, 1816, 1917, 2018, 2119, 2219, 2320, 2421, 2522, 2623, 2724, 2825, 2926, 3027, 3128, 3229, 3330, 3431, 3532, 3633, 3734, 3835, 3936, 4037, 4138, 4239, 4340, 4441, 4542, 4543, 4646] : List Int).getD s.toNat 0
def TBL (sz sp : Int → Int) : Prop := ∀ s, 0 ≤ s → s < 47 → sz s = qT s ∧ sp s = pT s
def ndb (a : Int) : Int := if 32768 ≤ a then 0 else if 16384 ≤ a then 1 else if 8192 ≤ a then 2 else if 4096 ≤ a then 3 else if 2048 ≤ a then 4 else if 1024 ≤ a then 5 else if 512 ≤ a then 6 else if 256 ≤ a then 7 else if 128 ≤ a then 8 else if 64 ≤ a then 9 else if 32 ≤ a then 10 else if 16 ≤ a then 11 else if 8 ≤ a then 12 else if 4 ≤ a then 13 else if 2 ≤ a then 14 else if 1 ≤ a then 15 else 16
def phS (s : Int) : Int := if s = 45 then 10 else if s = 44 then 6 else if s = 43 then 4 else if s = 42 then 2 else if s = 41 then 1 else 0
def PhS (st : Int → Int) : Int := phS (st 0) + phS (st 1) + phS (st 2) + phS (st 3) + phS (st 4) + phS (st 5) + phS (st 6) + phS (st 7) + phS (st 8) + phS (st 9) + phS (st 10) + phS (st 11) + phS (st 12) + phS (st 13) + phS (st 14) + phS (st 15) + phS (st 16) + phS (st 17) + phS (st 18)
theorem phS_r (s : Int) : 0 ≤ phS s ∧ phS s ≤ 10 := by unfold phS; repeat' split
                                                       all_goals omega
theorem PhS_r (st : Int → Int) : 0 ≤ PhS st ∧ PhS st ≤ 190 := by
  unfold PhS
  have := phS_r (st 0)
  have := phS_r (st 1)
  have := phS_r (st 2)
  have := phS_r (st 3)
  have := phS_r (st 4)
  have := phS_r (st 5)
  have := phS_r (st 6)
  have := phS_r (st 7)
  have := phS_r (st 8)
  have := phS_r (st 9)
  have := phS_r (st 10)
  have := phS_r (st 11)
  have := phS_r (st 12)
  have := phS_r (st 13)
  have := phS_r (st 14)
  have := phS_r (st 15)
  have := phS_r (st 16)
  have := phS_r (st 17)
  have := phS_r (st 18)
  omega
theorem PhS_up {st : Int → Int} {x v : Int} (hx : 0 ≤ x ∧ x ≤ 18) : PhS (fup st x v) = PhS st - phS (st x) + phS v := by
  unfold PhS
  rcases (show x = 0 ∨ x = 1 ∨ x = 2 ∨ x = 3 ∨ x = 4 ∨ x = 5 ∨ x = 6 ∨ x = 7 ∨ x = 8 ∨ x = 9 ∨ x = 10 ∨ x = 11 ∨ x = 12 ∨ x = 13 ∨ x = 14 ∨ x = 15 ∨ x = 16 ∨ x = 17 ∨ x = 18 by omega) with rfl | rfl | rfl | rfl | rfl | rfl | rfl | rfl | rfl | rfl | rfl | rfl | rfl | rfl | rfl | rfl | rfl | rfl | rfl
  all_goals
    simp only [fup_eq]
    (repeat rw [fup_ne _ _ (by decide)])
    omega
theorem ndb_2 {a : Int} (h1 : 1 ≤ a) (h2 : a < 32768) : ndb (2 * a) + 1 = ndb a := by
  unfold ndb
  (repeat' split) <;> omega
theorem ndb_0 {a : Int} (h : 32768 ≤ a) : ndb a = 0 := by unfold ndb; rw [if_pos h]
theorem ndb_r (a : Int) : 0 ≤ ndb a ∧ ndb a ≤ 16 := by
  unfold ndb
  (repeat' split) <;> omega
theorem ndb_s {a : Int} (h : 8192 ≤ a) : ndb a ≤ 2 := by
  unfold ndb
  (repeat' split) <;> omega
theorem TBL_k : ∀ n : Fin 47, (1 ≤ qT (n.val : Int) ∧ qT (n.val : Int) ≤ 22017) ∧ (0 ≤ pT (n.val : Int) % 100 ∧ pT (n.val : Int) % 100 ≤ 46) ∧ (0 ≤ pT (n.val : Int) / 100 ∧ pT (n.val : Int) / 100 ≤ 46) ∧ ndb (qT (n.val : Int)) + phS (pT (n.val : Int) % 100) ≤ 9 + phS (n.val : Int) ∧ phS (pT (n.val : Int) / 100) ≤ 7 + phS (n.val : Int) ∧ phS (pT (n.val : Int) % 100) ≤ 7 + phS (n.val : Int) := by decide +kernel
theorem TBL_r {sz sp : Int → Int} {s : Int} (htb : TBL sz sp) (h0 : 0 ≤ s) (h1 : s ≤ 46) : (1 ≤ sz s ∧ sz s ≤ 22017) ∧ (0 ≤ sp s % 100 ∧ sp s % 100 ≤ 46) ∧ (0 ≤ sp s / 100 ∧ sp s / 100 ≤ 46) ∧ ndb (sz s) + phS (sp s % 100) ≤ 9 + phS s ∧ phS (sp s / 100) ≤ 7 + phS s ∧ phS (sp s % 100) ≤ 7 + phS s := by
  obtain ⟨e1, e2⟩ := htb s h0 (by omega)
  rw [e1, e2]
  obtain ⟨n, rfl⟩ := Int.eq_ofNat_of_zero_le h0
  exact TBL_k ⟨n, by omega⟩
def FRM (ws : List Nat) (fs : List Int) (h h' : Hp_) : Prop := (∀ o, o ∉ ws → h' o = h o) ∧ (∀ k : Int, k ∉ fs → h' 73 k = h 73 k)
theorem FRM_rf (ws : List Nat) (fs : List Int) (h : Hp_) : FRM ws fs h h := ⟨fun _ _ => rfl, fun _ _ => rfl⟩
theorem FRM_up {ws : List Nat} {fs : List Int} {h h1 h2 : Hp_} {o : Nat} {i v : Int} (e : up h1 o i v = h2) (hF : FRM ws fs h h1) (ho : o ∈ ws) (h7 : o ≠ 73) : FRM ws fs h h2 := by
  refine ⟨FR_up e hF.1 ho, fun k hk => ?_⟩
  rw [← e, up_ne h1 i v k (fun z => h7 z.symm)]
  exact hF.2 k hk
theorem FRM_f {ws : List Nat} {fs : List Int} {h h1 h2 : Hp_} {i v : Int} (e : up h1 73 i v = h2) (hF : FRM ws fs h h1) (ho : 73 ∈ ws) (hi : i ∈ fs) : FRM ws fs h h2 := by
  refine ⟨FR_up e hF.1 ho, fun k hk => ?_⟩
  have hne : k ≠ i := fun z => hk (z ▸ hi)
  rw [← e]
  unfold up
  rw [if_neg (fun z => hne z.2)]
  exact hF.2 k hk
theorem FRM_tr {ws ws2 : List Nat} {fs fs2 : List Int} {h h1 h2 : Hp_} (hF : FRM ws fs h h1) (hG : FRM ws2 fs2 h1 h2) (hs : ∀ o ∈ ws2, o ∈ ws) (hs2 : ∀ o ∈ fs2, o ∈ fs) : FRM ws fs h h2 := ⟨FR_tr hF.1 hG.1 hs, fun k hk => (hG.2 k (fun z => hk (hs2 k z))).trans (hF.2 k hk)⟩
def SD4 (n l z : Int) : Prop := (l = 0 → z = n) ∧ (l = 1 → z = (n + 1) / 2) ∧ (l = 2 → z = (n + 3) / 4) ∧ (l = 3 → z = (n + 7) / 8) ∧ (l = 4 → z = (n + 15) / 16)
theorem sdP4 {l p : Int} (hl : 0 ≤ l ∧ l ≤ 4) (hp : p = 1 * 2 ^ l.toNat) : 1 ≤ p ∧ p ≤ 16 := by
  rcases (show l = 0 ∨ l = 1 ∨ l = 2 ∨ l = 3 ∨ l = 4 by omega) with rfl | rfl | rfl | rfl | rfl
  · rw [show (2 : Int) ^ (0 : Int).toNat = 1 from rfl] at hp; omega
  · rw [show (2 : Int) ^ (1 : Int).toNat = 2 from rfl] at hp; omega
  · rw [show (2 : Int) ^ (2 : Int).toNat = 4 from rfl] at hp; omega
  · rw [show (2 : Int) ^ (3 : Int).toNat = 8 from rfl] at hp; omega
  · rw [show (2 : Int) ^ (4 : Int).toNat = 16 from rfl] at hp; omega
theorem sdA4 {n l p z : Int} (hn : 0 ≤ n ∧ n ≤ 8) (hl : 0 ≤ l ∧ l ≤ 4) (hp : p = 1 * 2 ^ l.toNat) (hz : z = (n + p - 1) / 2 ^ l.toNat) : SD4 n l z ∧ 0 ≤ z ∧ z ≤ 8 := by
  unfold SD4
  rcases (show l = 0 ∨ l = 1 ∨ l = 2 ∨ l = 3 ∨ l = 4 by omega) with rfl | rfl | rfl | rfl | rfl
  · rw [show (2 : Int) ^ (0 : Int).toNat = 1 from rfl] at hp hz; omega
  · rw [show (2 : Int) ^ (1 : Int).toNat = 2 from rfl] at hp hz; omega
  · rw [show (2 : Int) ^ (2 : Int).toNat = 4 from rfl] at hp hz; omega
  · rw [show (2 : Int) ^ (3 : Int).toNat = 8 from rfl] at hp hz; omega
  · rw [show (2 : Int) ^ (4 : Int).toNat = 16 from rfl] at hp hz; omega
theorem SD4_le {n l z z' : Int} (hn : 0 ≤ n ∧ n ≤ 8) (hl : 0 ≤ l ∧ l ≤ 3) (h1 : SD4 n (l + 1) z) (h2 : SD4 n l z') : z ≤ z' := by
  unfold SD4 at h1 h2
  rcases (show l = 0 ∨ l = 1 ∨ l = 2 ∨ l = 3 by omega) with rfl | rfl | rfl | rfl <;> omega
set_option maxRecDepth 20000 in
theorem s_X12_within (v lo hi : Int) (h : Hp_) (hT : TY h) (hv : -2147483648 ≤ v ∧ v ≤ 2147483647) (hlo : -2147483648 ≤ lo ∧ lo ≤ 2147483647) (hhi : -2147483648 ≤ hi ∧ hi ≤ 2147483647) : Ctr yX12_within cX12_within 3 (some .boolean) (rmd 0) ly ly 0 0 [vI v, vI lo, vI hi] h (fun r h' => (TY h' ∧ FRM [] [] h h') ∧ ∃ z : Int, r = some (vI z) ∧ (0 ≤ z ∧ z ≤ 1) ∧ (z = 1 → lo ≤ v ∧ v ≤ hi) ∧ (z = 0 → v < lo ∨ hi < v)) := by
  refine Ctr_of (by decide) (Nat.le_of_ble_eq_true rfl) ⟨Nat.le_refl _, Nat.le_refl _⟩ (fun K hK hQ _ => ?_)
  show TT K ly 0 0 0 [(0, vI v), (1, vI lo), (2, vI hi)] [] h
  have hF : FRM [] [] h h := FRM_rf _ _ _
  refine TT_iload_n hK rfl 0 rfl dX12_within_0 ?_
  refine TT_iload_n hK rfl 1 rfl dX12_within_1 ?_
  refine TT_icmp_lt hK (tgt := 14) (irm (by omega) (by omega)) (irm (by omega) (by omega)) dX12_within_2 (by decide) (fun hb2_1 => ?_) (fun hb2_1 => ?_)
  · refine TT_iconst hK dX12_within_14 ?_
    refine TT_zret hK hQ (by decide) ?_ dX12_within_15
    exact ⟨⟨hT, hF⟩, 0, rfl, (by omega), (by omega), (by omega)⟩
  · refine TT_iload_n hK rfl 0 rfl dX12_within_5 ?_
    refine TT_iload_n hK rfl 2 rfl dX12_within_6 ?_
    refine TT_icmp_gt hK (tgt := 14) (irm (by omega) (by omega)) (irm (by omega) (by omega)) dX12_within_7 (by decide) (fun hb7_2 => ?_) (fun hb7_2 => ?_)
    · refine TT_iconst hK dX12_within_14 ?_
      refine TT_zret hK hQ (by decide) ?_ dX12_within_15
      exact ⟨⟨hT, hF⟩, 0, rfl, (by omega), (by omega), (by omega)⟩
    · refine TT_iconst hK dX12_within_10 ?_
      refine TT_goto hK (tgt := 15) dX12_within_11 (by decide) ?_
      refine TT_zret hK hQ (by decide) ?_ dX12_within_15
      exact ⟨⟨hT, hF⟩, 1, rfl, (by omega), (by omega), (by omega)⟩
set_option maxRecDepth 20000 in
theorem s_X12_isPixel_73 (x y : Int) (h : Hp_) (hT : TY h) (hx : -2147483648 ≤ x ∧ x ≤ 2147483647) (hy : -2147483648 ≤ y ∧ y ≤ 2147483647) : Ctr yX12_isPixel cX12_isPixel 3 (some .boolean) (rmd 1) ly ly 0 0 [vR 73, vI x, vI y] h (fun r h' => (TY h' ∧ FRM [] [] h h') ∧ ∃ z : Int, r = some (vI z) ∧ (0 ≤ z ∧ z ≤ 1) ∧ (z = 1 → (0 ≤ x ∧ x < 8) ∧ (0 ≤ y ∧ y < 8))) := by
  refine Ctr_of (by decide) (Nat.le_of_ble_eq_true rfl) ⟨Nat.le_refl _, Nat.le_refl _⟩ (fun K hK hQ _ => ?_)
  show TT K ly 0 0 0 [(0, vR 73), (1, vI x), (2, vI y)] [] h
  have hF : FRM [] [] h h := FRM_rf _ _ _
  refine TT_iload_n hK rfl 1 rfl dX12_isPixel_0 ?_
  refine TT_iconst hK dX12_isPixel_1 ?_
  refine TT_aload_n hK rfl 0 rfl dX12_isPixel_2 ?_
  refine gf_X12_16 hK (by decide) rfl (v := (h 73) 3) rfl dX12_isPixel_3 ?_
  have r1 := ty_73_3 (v := (h 73) 3) hT rfl
  refine TT_iconst hK dX12_isPixel_6 ?_
  refine TT_isub hK dX12_isPixel_7 ?_
  refine iv_X12_120 hK (s_X12_within x 0 (((h 73) 3) - 1) h hT (by first | omega | (simp [up, setR] <;> omega)) (by first | omega | (simp [up, setR] <;> omega)) (by first | omega | (simp [up, setR] <;> omega))) ⟨by decide, by decide⟩ (by decide) rfl rfl (Nat.le_of_ble_eq_true rfl) ⟨by decide, by decide⟩ dX12_isPixel_8 ?_
  intro r9 g8_2 hp9
  obtain ⟨⟨hT_2, hG_2⟩, z8_2, hr9, hz_2, p1_2, p2_2⟩ := hp9
  rw [hr9]
  have hF_2 : FRM [] [] h g8_2 := FRM_tr hF hG_2 (by decide) (by decide)
  show TT K ly 0 0 11 [(0, vR 73), (1, vI x), (2, vI y)] [vI z8_2] g8_2
  refine TT_if_eq hK (tgt := 32) (irm (by omega) (by omega)) dX12_isPixel_11 (by decide) (fun hb11_3 => ?_) (fun hb11_3 => ?_)
  · refine TT_iconst hK dX12_isPixel_32 ?_
    refine TT_zret hK hQ (by decide) ?_ dX12_isPixel_33
    exact ⟨⟨hT_2, hF_2⟩, 0, rfl, (by omega), (by omega)⟩
  · refine TT_iload_n hK rfl 2 rfl dX12_isPixel_14 ?_
    refine TT_iconst hK dX12_isPixel_15 ?_
    refine TT_aload_n hK rfl 0 rfl dX12_isPixel_16 ?_
    refine gf_X12_20 hK (by decide) rfl (v := (h 73) 4) (rd_ (hG_2.1 73 (by decide)) rfl) dX12_isPixel_17 ?_
    have r4 := ty_73_4 (v := (h 73) 4) hT_2 (rd_ (hG_2.1 73 (by decide)) rfl)
    refine TT_iconst hK dX12_isPixel_20 ?_
    refine TT_isub hK dX12_isPixel_21 ?_
    refine iv_X12_120 hK (s_X12_within y 0 (((h 73) 4) - 1) g8_2 hT_2 (by first | omega | (simp [up, setR] <;> omega)) (by first | omega | (simp [up, setR] <;> omega)) (by first | omega | (simp [up, setR] <;> omega))) ⟨by decide, by decide⟩ (by decide) rfl rfl (Nat.le_of_ble_eq_true rfl) ⟨by decide, by decide⟩ dX12_isPixel_22 ?_
    intro r9 g22_5 hp9
    obtain ⟨⟨hT_5, hG_5⟩, z22_5, hr9, hz_5, p1_5, p2_5⟩ := hp9
    rw [hr9]
    have hF_5 : FRM [] [] h g22_5 := FRM_tr hF_2 hG_5 (by decide) (by decide)
    show TT K ly 0 0 25 [(0, vR 73), (1, vI x), (2, vI y)] [vI z22_5] g22_5
    refine TT_if_eq hK (tgt := 32) (irm (by omega) (by omega)) dX12_isPixel_25 (by decide) (fun hb25_6 => ?_) (fun hb25_6 => ?_)
    · refine TT_iconst hK dX12_isPixel_32 ?_
      refine TT_zret hK hQ (by decide) ?_ dX12_isPixel_33
      exact ⟨⟨hT_5, hF_5⟩, 0, rfl, (by omega), (by omega)⟩
    · refine TT_iconst hK dX12_isPixel_28 ?_
      refine TT_goto hK (tgt := 33) dX12_isPixel_29 (by decide) ?_
      refine TT_zret hK hQ (by decide) ?_ dX12_isPixel_33
      exact ⟨⟨hT_5, hF_5⟩, 1, rfl, (by omega), (by omega)⟩
set_option maxRecDepth 20000 in
theorem s_X12_floor (v s : Int) (h : Hp_) (hT : TY h) (hv : -2147483648 ≤ v ∧ v ≤ 2147483647) (hs : 1 ≤ s ∧ s ≤ 2) : Ctr yX12_floor cX12_floor 4 (some .int) (rmd 0) ly ly 0 0 [vI v, vI s] h (fun r h' => (TY h' ∧ FRM [] [] h h') ∧ ∃ z : Int, r = some (vI z) ∧ (-2147483648 ≤ z ∧ z ≤ 2147483647)) := by
  refine Ctr_of (by decide) (Nat.le_of_ble_eq_true rfl) ⟨Nat.le_refl _, Nat.le_refl _⟩ (fun K hK hQ _ => ?_)
  show TT K ly 0 0 0 [(0, vI v), (1, vI s)] [] h
  have hF : FRM [] [] h h := FRM_rf _ _ _
  refine TT_iconst hK dX12_floor_0 ?_
  refine TT_iload_n hK rfl 1 rfl dX12_floor_1 ?_
  refine TT_ishl hK (by omega) (by omega) dX12_floor_2 ?_
  refine TT_nmI (fun u9 hu9 => ?_)
  refine TT_istore_n hK rfl (lv' := [(2, vI u9), (0, vI v), (1, vI s)]) (by decide) rfl dX12_floor_3 ?_
  have hu : u9 = 2 ∨ u9 = 4 := by rcases (show s = 1 ∨ s = 2 by omega) with rfl | rfl <;> first | exact Or.inl hu9 | exact Or.inr hu9
  refine TT_iload_n hK rfl 1 rfl dX12_floor_4 ?_
  refine TT_iload_n hK rfl 0 rfl dX12_floor_5 ?_
  refine TT_idiv hK (irm (by omega) (by omega)) (irm (by omega) (by omega)) (by omega) dX12_floor_6 ?_
  refine TT_w32 (fun x7_1 hx1 => ?_)
  refine TT_istore_n hK rfl (lv' := [(3, vI x7_1), (2, vI u9), (0, vI v), (1, vI s)]) (by decide) rfl dX12_floor_7 ?_
  refine TT_iload_n hK rfl 2 rfl dX12_floor_8 ?_
  refine TT_iload_n hK rfl 1 rfl dX12_floor_9 ?_
  refine TT_irem hK (irm (by omega) (by omega)) (irm (by omega) (by omega)) (by omega) dX12_floor_10 ?_
  refine TT_w32 (fun x11_2 hx2 => ?_)
  refine TT_if_ge hK (tgt := 20) (irm (by omega) (by omega)) dX12_floor_11 (by decide) (fun hb11_3 => ?_) (fun hb11_3 => ?_)
  · refine TT_iload_n hK rfl 0 rfl dX12_floor_20 ?_
    refine TT_iret hK hQ ?_ dX12_floor_21
    exact ⟨⟨hT, hF⟩, x7_1, rfl, (by omega)⟩
  · refine TT_iload_n hK rfl 0 rfl dX12_floor_14 ?_
    refine TT_iconst hK dX12_floor_15 ?_
    refine TT_isub hK dX12_floor_16 ?_
    refine TT_w32 (fun x17_4 hx4 => ?_)
    refine TT_goto hK (tgt := 21) dX12_floor_17 (by decide) ?_
    refine TT_iret hK hQ ?_ dX12_floor_21
    exact ⟨⟨hT, hF⟩, x17_4, rfl, (by omega)⟩
set_option maxRecDepth 20000 in
theorem s_X12_mirrored_73 (i n : Int) (h : Hp_) (hT : TY h) (hn : 2 ≤ n ∧ n ≤ 8) (hi : 0 ≤ i ∧ i ≤ n) : Ctr yX12_mirrored cX12_mirrored 3 (some .int) (rmd 0) ly ly 0 0 [vR 73, vI i, vI n] h (fun r h' => (TY h' ∧ FRM [] [] h h') ∧ ∃ z : Int, r = some (vI z) ∧ (-2147483648 ≤ z ∧ z ≤ 2147483647)) := by
  refine Ctr_of (by decide) (Nat.le_of_ble_eq_true rfl) ⟨Nat.le_refl _, Nat.le_refl _⟩ (fun K hK hQ _ => ?_)
  show TT K ly 0 0 0 [(0, vR 73), (1, vI i), (2, vI n)] [] h
  have hF : FRM [] [] h h := FRM_rf _ _ _
  refine TT_aload_n hK rfl 0 rfl dX12_mirrored_0 ?_
  refine gf_X12_29 hK (by decide) rfl (q := 78) rfl rfl dX12_mirrored_1 ?_
  refine TT_iload_n hK rfl 1 rfl dX12_mirrored_4 ?_
  refine TT_iload_n hK rfl 2 rfl dX12_mirrored_5 ?_
  refine TT_icmp_ge hK (tgt := 13) (irm (by omega) (by omega)) (irm (by omega) (by omega)) dX12_mirrored_6 (by decide) (fun hb6_1 => ?_) (fun hb6_1 => ?_)
  · refine TT_iconst hK dX12_mirrored_13 ?_
    refine TT_iload_n hK rfl 2 rfl dX12_mirrored_14 ?_
    refine TT_imul hK dX12_mirrored_15 ?_
    refine TT_iconst hK dX12_mirrored_16 ?_
    refine TT_isub hK dX12_mirrored_17 ?_
    refine TT_iload_n hK rfl 1 rfl dX12_mirrored_18 ?_
    refine TT_isub hK dX12_mirrored_19 ?_
    refine TT_iald hK (o := 78) (n := 8) (by decide) rfl (by first | omega | (simp [up, setR] <;> omega)) (by first | omega | (simp [up, setR] <;> omega)) (v := (h 78) (((2 * n) - 2) - i)) rfl dX12_mirrored_20 ?_
    have r2 := ty_78 (i := ((2 * n) - 2) - i) (v := (h 78) (((2 * n) - 2) - i)) hT rfl (by omega) (by omega)
    refine TT_iret hK hQ ?_ dX12_mirrored_21
    exact ⟨⟨hT, hF⟩, ((h 78) (((2 * n) - 2) - i)), rfl, (by omega)⟩
  · refine TT_iload_n hK rfl 1 rfl dX12_mirrored_9 ?_
    refine TT_goto hK (tgt := 20) dX12_mirrored_10 (by decide) ?_
    refine TT_iald hK (o := 78) (n := 8) (by decide) rfl (by first | omega | (simp [up, setR] <;> omega)) (by first | omega | (simp [up, setR] <;> omega)) (v := (h 78) i) rfl dX12_mirrored_20 ?_
    have r3 := ty_78 (i := i) (v := (h 78) i) hT rfl (by omega) (by omega)
    refine TT_iret hK hQ ?_ dX12_mirrored_21
    exact ⟨⟨hT, hF⟩, ((h 78) i), rfl, (by omega)⟩
set_option maxRecDepth 20000 in
theorem s_X12_detail_73 (k n : Int) (h : Hp_) (hT : TY h) (hn : 2 ≤ n ∧ n ≤ 8) (hk : -1 ≤ k ∧ k ≤ 8) : Ctr yX12_detail cX12_detail 4 (some .int) (rmd 2) ly ly 0 0 [vR 73, vI k, vI n] h (fun r h' => (TY h' ∧ FRM [] [] h h') ∧ ∃ z : Int, r = some (vI z) ∧ (-2147483648 ≤ z ∧ z ≤ 2147483647)) := by
  refine Ctr_of (by decide) (Nat.le_of_ble_eq_true rfl) ⟨Nat.le_refl _, Nat.le_refl _⟩ (fun K hK hQ _ => ?_)
  show TT K ly 0 0 0 [(0, vR 73), (1, vI k), (2, vI n)] [] h
  have hF : FRM [] [] h h := FRM_rf _ _ _
  have J25_1 : ∀ (i : Int) (w25_1 : Hp_), TY w25_1 → FRM [] [] h w25_1 → (0 ≤ i ∧ i ≤ n / 2 - 1) → TT K ly 0 0 25 [(0, vR 73), (1, vI k), (2, vI n), (3, vI i)] [] w25_1 := by
    intro i w25_1 hT25_1 hF25_1 hi
    refine TT_aload_n hK rfl 0 rfl dX12_detail_25 ?_
    refine gf_X12_29 hK (by decide) rfl (q := 78) rfl rfl dX12_detail_26 ?_
    refine TT_iconst hK dX12_detail_29 ?_
    refine TT_iload_n hK rfl 3 rfl dX12_detail_30 ?_
    refine TT_imul hK dX12_detail_31 ?_
    refine TT_iconst hK dX12_detail_32 ?_
    refine TT_iadd hK dX12_detail_33 ?_
    refine TT_iald hK (o := 78) (n := 8) (by decide) rfl (by first | omega | (simp [up, setR] <;> omega)) (by first | omega | (simp [up, setR] <;> omega)) (v := (h 78) ((2 * i) + 1)) (rd_ (hF25_1.1 78 (by decide)) rfl) dX12_detail_34 ?_
    have r2 := ty_78 (i := (2 * i) + 1) (v := (h 78) ((2 * i) + 1)) hT25_1 (rd_ (hF25_1.1 78 (by decide)) rfl) (by omega) (by omega)
    refine TT_aload_n hK rfl 0 rfl dX12_detail_35 ?_
    refine TT_iconst hK dX12_detail_36 ?_
    refine TT_iload_n hK rfl 3 rfl dX12_detail_37 ?_
    refine TT_imul hK dX12_detail_38 ?_
    refine TT_iload_n hK rfl 2 rfl dX12_detail_39 ?_
    refine iv_X12_129 hK (s_X12_mirrored_73 (2 * i) n w25_1 hT25_1 (by first | omega | (simp [up, setR] <;> omega)) (by first | omega | (simp [up, setR] <;> omega))) (by decide) rfl ⟨by decide, by decide⟩ (by decide) rfl rfl (Nat.le_of_ble_eq_true rfl) ⟨by decide, by decide⟩ dX12_detail_40 ?_
    intro r9 g40_3 hp9
    obtain ⟨⟨hT_3, hG_3⟩, z40_3, hr9, hz_3⟩ := hp9
    rw [hr9]
    have hF_3 : FRM [] [] h g40_3 := FRM_tr hF25_1 hG_3 (by decide) (by decide)
    show TT K ly 0 0 43 [(0, vR 73), (1, vI k), (2, vI n), (3, vI i)] [vI z40_3, vI ((h 78) ((2 * i) + 1))] g40_3
    refine TT_aload_n hK rfl 0 rfl dX12_detail_43 ?_
    refine TT_iconst hK dX12_detail_44 ?_
    refine TT_iload_n hK rfl 3 rfl dX12_detail_45 ?_
    refine TT_imul hK dX12_detail_46 ?_
    refine TT_iconst hK dX12_detail_47 ?_
    refine TT_iadd hK dX12_detail_48 ?_
    refine TT_iload_n hK rfl 2 rfl dX12_detail_49 ?_
    refine iv_X12_129 hK (s_X12_mirrored_73 ((2 * i) + 2) n g40_3 hT_3 (by first | omega | (simp [up, setR] <;> omega)) (by first | omega | (simp [up, setR] <;> omega))) (by decide) rfl ⟨by decide, by decide⟩ (by decide) rfl rfl (Nat.le_of_ble_eq_true rfl) ⟨by decide, by decide⟩ dX12_detail_50 ?_
    intro r9 g50_4 hp9
    obtain ⟨⟨hT_4, hG_4⟩, z50_4, hr9, hz_4⟩ := hp9
    rw [hr9]
    have hF_4 : FRM [] [] h g50_4 := FRM_tr hF_3 hG_4 (by decide) (by decide)
    show TT K ly 0 0 53 [(0, vR 73), (1, vI k), (2, vI n), (3, vI i)] [vI z50_4, vI z40_3, vI ((h 78) ((2 * i) + 1))] g50_4
    refine TT_iadd hK dX12_detail_53 ?_
    refine TT_w32 (fun x54_5 hx5 => ?_)
    refine TT_iconst hK dX12_detail_54 ?_
    refine iv_X12_133 hK (s_X12_floor x54_5 1 g50_4 hT_4 (by first | omega | (simp [up, setR] <;> omega)) (by first | omega | (simp [up, setR] <;> omega))) ⟨by decide, by decide⟩ (by decide) rfl rfl (Nat.le_of_ble_eq_true rfl) ⟨by decide, by decide⟩ dX12_detail_55 ?_
    intro r9 g55_6 hp9
    obtain ⟨⟨hT_6, hG_6⟩, z55_6, hr9, hz_6⟩ := hp9
    rw [hr9]
    have hF_6 : FRM [] [] h g55_6 := FRM_tr hF_4 hG_6 (by decide) (by decide)
    show TT K ly 0 0 58 [(0, vR 73), (1, vI k), (2, vI n), (3, vI i)] [vI z55_6, vI ((h 78) ((2 * i) + 1))] g55_6
    refine TT_isub hK dX12_detail_58 ?_
    refine TT_w32 (fun x59_7 hx7 => ?_)
    refine TT_iret hK hQ ?_ dX12_detail_59
    exact ⟨⟨hT_6, hF_6⟩, x59_7, rfl, (by omega)⟩
  refine TT_iload_n hK rfl 1 rfl dX12_detail_0 ?_
  refine TT_if_ge hK (tgt := 8) (irm (by omega) (by omega)) dX12_detail_1 (by decide) (fun hb1_8 => ?_) (fun hb1_8 => ?_)
  · refine TT_iload_n hK rfl 1 rfl dX12_detail_8 ?_
    refine TT_iload_n hK rfl 2 rfl dX12_detail_9 ?_
    refine TT_iconst hK dX12_detail_10 ?_
    refine TT_idivn hK (irm (by omega) (by omega)) (by decide) (by first | omega | (simp [up, setR] <;> omega)) (by first | omega | (simp [up, setR] <;> omega)) dX12_detail_11 ?_
    refine TT_icmp_lt hK (tgt := 23) (irm (by omega) (by omega)) (irm (by omega) (by omega)) dX12_detail_12 (by decide) (fun hb12_9 => ?_) (fun hb12_9 => ?_)
    · refine TT_iload_n hK rfl 1 rfl dX12_detail_23 ?_
      refine TT_istore_n hK rfl (lv' := [(3, vI k), (0, vR 73), (1, vI k), (2, vI n)]) (by decide) rfl dX12_detail_24 ?_
      refine TT_sub [1, 2, 3, 0] rfl ?_
      exact J25_1 k h hT hF (by first | omega | (simp [up, setR] <;> omega))
    · refine TT_iload_n hK rfl 2 rfl dX12_detail_15 ?_
      refine TT_iconst hK dX12_detail_16 ?_
      refine TT_idivn hK (irm (by omega) (by omega)) (by decide) (by first | omega | (simp [up, setR] <;> omega)) (by first | omega | (simp [up, setR] <;> omega)) dX12_detail_17 ?_
      refine TT_iconst hK dX12_detail_18 ?_
      refine TT_isub hK dX12_detail_19 ?_
      refine TT_goto hK (tgt := 24) dX12_detail_20 (by decide) ?_
      refine TT_istore_n hK rfl (lv' := [(3, vI ((n / 2) - 1)), (0, vR 73), (1, vI k), (2, vI n)]) (by decide) rfl dX12_detail_24 ?_
      refine TT_sub [1, 2, 3, 0] rfl ?_
      exact J25_1 ((n / 2) - 1) h hT hF (by first | omega | (simp [up, setR] <;> omega))
  · refine TT_iconst hK dX12_detail_4 ?_
    refine TT_goto hK (tgt := 24) dX12_detail_5 (by decide) ?_
    refine TT_istore_n hK rfl (lv' := [(3, vI 0), (0, vR 73), (1, vI k), (2, vI n)]) (by decide) rfl dX12_detail_24 ?_
    refine TT_sub [1, 2, 3, 0] rfl ?_
    exact J25_1 0 h hT hF (by first | omega | (simp [up, setR] <;> omega))
set_option maxRecDepth 20000 in
theorem s_X12_given_73 (k n : Int) (h : Hp_) (hT : TY h) (hn : 2 ≤ n ∧ n ≤ 8) (hk : -1 ≤ k ∧ k ≤ 8) : Ctr yX12_given cX12_given 4 (some .int) (rmd 0) ly ly 0 0 [vR 73, vI k, vI n] h (fun r h' => (TY h' ∧ FRM [] [] h h') ∧ ∃ z : Int, r = some (vI z) ∧ (-2147483648 ≤ z ∧ z ≤ 2147483647)) := by
  refine Ctr_of (by decide) (Nat.le_of_ble_eq_true rfl) ⟨Nat.le_refl _, Nat.le_refl _⟩ (fun K hK hQ _ => ?_)
  show TT K ly 0 0 0 [(0, vR 73), (1, vI k), (2, vI n)] [] h
  have hF : FRM [] [] h h := FRM_rf _ _ _
  have J25_1 : ∀ (i : Int) (w25_1 : Hp_), TY w25_1 → FRM [] [] h w25_1 → (0 ≤ i ∧ i ≤ n / 2 - 1) → TT K ly 0 0 25 [(0, vR 73), (1, vI k), (2, vI n), (3, vI i)] [] w25_1 := by
    intro i w25_1 hT25_1 hF25_1 hi
    refine TT_aload_n hK rfl 0 rfl dX12_given_25 ?_
    refine gf_X12_29 hK (by decide) rfl (q := 78) rfl rfl dX12_given_26 ?_
    refine TT_iload_n hK rfl 2 rfl dX12_given_29 ?_
    refine TT_iconst hK dX12_given_30 ?_
    refine TT_iadd hK dX12_given_31 ?_
    refine TT_iconst hK dX12_given_32 ?_
    refine TT_idivn hK (irm (by omega) (by omega)) (by decide) (by first | omega | (simp [up, setR] <;> omega)) (by first | omega | (simp [up, setR] <;> omega)) dX12_given_33 ?_
    refine TT_iload_n hK rfl 3 rfl dX12_given_34 ?_
    refine TT_iadd hK dX12_given_35 ?_
    refine TT_iald hK (o := 78) (n := 8) (by decide) rfl (by first | omega | (simp [up, setR] <;> omega)) (by first | omega | (simp [up, setR] <;> omega)) (v := (h 78) (((n + 1) / 2) + i)) (rd_ (hF25_1.1 78 (by decide)) rfl) dX12_given_36 ?_
    have r2 := ty_78 (i := ((n + 1) / 2) + i) (v := (h 78) (((n + 1) / 2) + i)) hT25_1 (rd_ (hF25_1.1 78 (by decide)) rfl) (by omega) (by omega)
    refine TT_iret hK hQ ?_ dX12_given_37
    exact ⟨⟨hT25_1, hF25_1⟩, ((h 78) (((n + 1) / 2) + i)), rfl, (by omega)⟩
  refine TT_iload_n hK rfl 1 rfl dX12_given_0 ?_
  refine TT_if_ge hK (tgt := 8) (irm (by omega) (by omega)) dX12_given_1 (by decide) (fun hb1_3 => ?_) (fun hb1_3 => ?_)
  · refine TT_iload_n hK rfl 1 rfl dX12_given_8 ?_
    refine TT_iload_n hK rfl 2 rfl dX12_given_9 ?_
    refine TT_iconst hK dX12_given_10 ?_
    refine TT_idivn hK (irm (by omega) (by omega)) (by decide) (by first | omega | (simp [up, setR] <;> omega)) (by first | omega | (simp [up, setR] <;> omega)) dX12_given_11 ?_
    refine TT_icmp_lt hK (tgt := 23) (irm (by omega) (by omega)) (irm (by omega) (by omega)) dX12_given_12 (by decide) (fun hb12_4 => ?_) (fun hb12_4 => ?_)
    · refine TT_iload_n hK rfl 1 rfl dX12_given_23 ?_
      refine TT_istore_n hK rfl (lv' := [(3, vI k), (0, vR 73), (1, vI k), (2, vI n)]) (by decide) rfl dX12_given_24 ?_
      refine TT_sub [1, 2, 3, 0] rfl ?_
      exact J25_1 k h hT hF (by first | omega | (simp [up, setR] <;> omega))
    · refine TT_iload_n hK rfl 2 rfl dX12_given_15 ?_
      refine TT_iconst hK dX12_given_16 ?_
      refine TT_idivn hK (irm (by omega) (by omega)) (by decide) (by first | omega | (simp [up, setR] <;> omega)) (by first | omega | (simp [up, setR] <;> omega)) dX12_given_17 ?_
      refine TT_iconst hK dX12_given_18 ?_
      refine TT_isub hK dX12_given_19 ?_
      refine TT_goto hK (tgt := 24) dX12_given_20 (by decide) ?_
      refine TT_istore_n hK rfl (lv' := [(3, vI ((n / 2) - 1)), (0, vR 73), (1, vI k), (2, vI n)]) (by decide) rfl dX12_given_24 ?_
      refine TT_sub [1, 2, 3, 0] rfl ?_
      exact J25_1 ((n / 2) - 1) h hT hF (by first | omega | (simp [up, setR] <;> omega))
  · refine TT_iconst hK dX12_given_4 ?_
    refine TT_goto hK (tgt := 24) dX12_given_5 (by decide) ?_
    refine TT_istore_n hK rfl (lv' := [(3, vI 0), (0, vR 73), (1, vI k), (2, vI n)]) (by decide) rfl dX12_given_24 ?_
    refine TT_sub [1, 2, 3, 0] rfl ?_
    exact J25_1 0 h hT hF (by first | omega | (simp [up, setR] <;> omega))
set_option maxRecDepth 20000 in
theorem s_X12_forward_73 (n : Int) (h : Hp_) (hT : TY h) (hn : 0 ≤ n ∧ n ≤ 8) : Ctr yX12_forward cX12_forward 4 none (rmd 3) ly ly 0 0 [vR 73, vI n] h (fun r h' => (TY h' ∧ FRM [79] [] h h') ∧ r = none) := by
  refine Ctr_of (by decide) (Nat.le_of_ble_eq_true rfl) ⟨Nat.le_refl _, Nat.le_refl _⟩ (fun K hK hQ _ => ?_)
  show TT K ly 0 0 0 [(0, vR 73), (1, vI n)] [] h
  have hF : FRM [79] [] h h := FRM_rf _ _ _
  refine TT_iload_n hK rfl 1 rfl dX12_forward_0 ?_
  refine TT_iconst hK dX12_forward_1 ?_
  refine TT_iadd hK dX12_forward_2 ?_
  refine TT_iconst hK dX12_forward_3 ?_
  refine TT_idivn hK (irm (by omega) (by omega)) (by decide) (by first | omega | (simp [up, setR] <;> omega)) (by first | omega | (simp [up, setR] <;> omega)) dX12_forward_4 ?_
  refine TT_istore_n hK rfl (lv' := [(2, vI ((n + 1) / 2)), (0, vR 73), (1, vI n)]) (by decide) rfl dX12_forward_5 ?_
  refine TT_iconst hK dX12_forward_6 ?_
  refine TT_istore_n hK rfl (lv' := [(3, vI 0), (2, vI ((n + 1) / 2)), (0, vR 73), (1, vI n)]) (by decide) rfl dX12_forward_7 ?_
  have L8_1 : ∀ (k1 : Nat) (k : Int) (w8_1 : Hp_), TY w8_1 → FRM [79] [] h w8_1 → (0 ≤ k ∧ k ≤ 8) → ((8 : Int) - k).toNat < k1 → TT K ly 0 0 8 [(0, vR 73), (1, vI n), (2, vI ((n + 1) / 2)), (3, vI k)] [] w8_1 := by
    intro k1
    induction k1 with
    | zero => intro k w8_1 hT8_1 hF8_1 hk hk1; exact absurd hk1 (Nat.not_lt_zero _)
    | succ k1 ih1 =>
      intro k w8_1 hT8_1 hF8_1 hk hk1
      refine TT_iload_n hK rfl 3 rfl dX12_forward_8 ?_
      refine TT_iload_n hK rfl 2 rfl dX12_forward_9 ?_
      refine TT_icmp_ge hK (tgt := 69) (irm (by omega) (by omega)) (irm (by omega) (by omega)) dX12_forward_10 (by decide) (fun hb10_2 => ?_) (fun hb10_2 => ?_)
      · refine TT_iconst hK dX12_forward_69 ?_
        refine TT_istore_n hK rfl (lv' := [(3, vI 0), (0, vR 73), (1, vI n), (2, vI ((n + 1) / 2))]) (by decide) rfl dX12_forward_70 ?_
        have L71_3 : ∀ (k3 : Nat) (k : Int) (w71_3 : Hp_), TY w71_3 → FRM [79] [] h w71_3 → (0 ≤ k ∧ k ≤ 8) → ((8 : Int) - k).toNat < k3 → TT K ly 0 0 71 [(0, vR 73), (1, vI n), (2, vI ((n + 1) / 2)), (3, vI k)] [] w71_3 := by
          intro k3
          induction k3 with
          | zero => intro k w71_3 hT71_3 hF71_3 hk hk3; exact absurd hk3 (Nat.not_lt_zero _)
          | succ k3 ih3 =>
            intro k w71_3 hT71_3 hF71_3 hk hk3
            refine TT_iload_n hK rfl 3 rfl dX12_forward_71 ?_
            refine TT_iload_n hK rfl 1 rfl dX12_forward_72 ?_
            refine TT_iconst hK dX12_forward_73 ?_
            refine TT_idivn hK (irm (by omega) (by omega)) (by decide) (by first | omega | (simp [up, setR] <;> omega)) (by first | omega | (simp [up, setR] <;> omega)) dX12_forward_74 ?_
            refine TT_icmp_ge hK (tgt := 98) (irm (by omega) (by omega)) (irm (by omega) (by omega)) dX12_forward_75 (by decide) (fun hb75_4 => ?_) (fun hb75_4 => ?_)
            · refine TT_vret hK hQ ?_ dX12_forward_98
              exact ⟨⟨hT71_3, hF71_3⟩, rfl⟩
            · refine TT_aload_n hK rfl 0 rfl dX12_forward_78 ?_
              refine gf_X12_32 hK (by decide) rfl (q := 79) rfl rfl dX12_forward_79 ?_
              refine TT_iload_n hK rfl 2 rfl dX12_forward_82 ?_
              refine TT_iload_n hK rfl 3 rfl dX12_forward_83 ?_
              refine TT_iadd hK dX12_forward_84 ?_
              refine TT_aload_n hK rfl 0 rfl dX12_forward_85 ?_
              refine TT_iload_n hK rfl 3 rfl dX12_forward_86 ?_
              refine TT_iload_n hK rfl 1 rfl dX12_forward_87 ?_
              refine iv_X12_136 hK (s_X12_detail_73 k n w71_3 hT71_3 (by first | omega | (simp [up, setR] <;> omega)) (by first | omega | (simp [up, setR] <;> omega))) (by decide) rfl ⟨by decide, by decide⟩ (by decide) rfl rfl (Nat.le_of_ble_eq_true rfl) ⟨by decide, by decide⟩ dX12_forward_88 ?_
              intro r9 g88_5 hp9
              obtain ⟨⟨hT_5, hG_5⟩, z88_5, hr9, hz_5⟩ := hp9
              rw [hr9]
              have hF_5 : FRM [79] [] h g88_5 := FRM_tr hF71_3 hG_5 (by decide) (by decide)
              show TT K ly 0 0 91 [(0, vR 73), (1, vI n), (2, vI ((n + 1) / 2)), (3, vI k)] [vI z88_5, vI (((n + 1) / 2) + k), vR 79] g88_5
              refine TT_iast hK (o := 79) (n := 8) (by decide) rfl (by omega) (by omega) dX12_forward_91 ?_
              refine TT_hp (h' := setO g88_5 79 (fup (w71_3 79) (((n + 1) / 2) + k) z88_5)) (up_can (hG_5.1 79 (by decide)) rfl rfl) ?_
              have hT_6 : TY (setO g88_5 79 (fup (w71_3 79) (((n + 1) / 2) + k) z88_5)) := tu_79 hT_5 (show up g88_5 79 (((n + 1) / 2) + k) z88_5 = (setO g88_5 79 (fup (w71_3 79) (((n + 1) / 2) + k) z88_5)) from up_can (hG_5.1 79 (by decide)) rfl rfl) (by omega)
              have hF_6 : FRM [79] [] h (setO g88_5 79 (fup (w71_3 79) (((n + 1) / 2) + k) z88_5)) := FRM_up (show up g88_5 79 (((n + 1) / 2) + k) z88_5 = (setO g88_5 79 (fup (w71_3 79) (((n + 1) / 2) + k) z88_5)) from up_can (hG_5.1 79 (by decide)) rfl rfl) hF_5 (by decide) (by decide)
              refine TT_iinc hK (v := k + 1) (lv' := [(3, vI (k + 1)), (0, vR 73), (1, vI n), (2, vI ((n + 1) / 2))]) 3 rfl rfl (by decide) rfl dX12_forward_92 ?_
              refine TT_goto hK (tgt := 71) dX12_forward_95 (by decide) ?_
              refine TT_sub [1, 2, 3, 0] rfl ?_
              exact ih3 (k + 1) (setO g88_5 79 (fup (w71_3 79) (((n + 1) / 2) + k) z88_5)) hT_6 hF_6 (by first | omega | (simp [up, setR] <;> omega)) (by first | omega | (simp [up, setR] <;> omega))
        refine TT_sub [1, 2, 3, 0] rfl ?_
        exact L71_3 ((((8 : Int) - 0).toNat) + 1) 0 w8_1 hT8_1 hF8_1 (by first | omega | (simp [up, setR] <;> omega)) (Nat.lt_succ_self _)
      · refine TT_aload_n hK rfl 0 rfl dX12_forward_13 ?_
        refine gf_X12_32 hK (by decide) rfl (q := 79) rfl rfl dX12_forward_14 ?_
        refine TT_iload_n hK rfl 3 rfl dX12_forward_17 ?_
        refine TT_iload_n hK rfl 1 rfl dX12_forward_18 ?_
        refine TT_iconst hK dX12_forward_19 ?_
        refine TT_icmp_ne hK (tgt := 32) (irm (by omega) (by omega)) (by decide) dX12_forward_20 (by decide) (fun hb20_7 => ?_) (fun hb20_7 => ?_)
        · refine TT_aload_n hK rfl 0 rfl dX12_forward_32 ?_
          refine gf_X12_29 hK (by decide) rfl (q := 78) rfl rfl dX12_forward_33 ?_
          refine TT_iconst hK dX12_forward_36 ?_
          refine TT_iload_n hK rfl 3 rfl dX12_forward_37 ?_
          refine TT_imul hK dX12_forward_38 ?_
          refine TT_iald hK (o := 78) (n := 8) (by decide) rfl (by first | omega | (simp [up, setR] <;> omega)) (by first | omega | (simp [up, setR] <;> omega)) (v := (h 78) (2 * k)) (rd_ (hF8_1.1 78 (by decide)) rfl) dX12_forward_39 ?_
          have r8 := ty_78 (i := 2 * k) (v := (h 78) (2 * k)) hT8_1 (rd_ (hF8_1.1 78 (by decide)) rfl) (by omega) (by omega)
          refine TT_aload_n hK rfl 0 rfl dX12_forward_40 ?_
          refine TT_iload_n hK rfl 3 rfl dX12_forward_41 ?_
          refine TT_iconst hK dX12_forward_42 ?_
          refine TT_isub hK dX12_forward_43 ?_
          refine TT_iload_n hK rfl 1 rfl dX12_forward_44 ?_
          refine iv_X12_136 hK (s_X12_detail_73 (k - 1) n w8_1 hT8_1 (by first | omega | (simp [up, setR] <;> omega)) (by first | omega | (simp [up, setR] <;> omega))) (by decide) rfl ⟨by decide, by decide⟩ (by decide) rfl rfl (Nat.le_of_ble_eq_true rfl) ⟨by decide, by decide⟩ dX12_forward_45 ?_
          intro r9 g45_9 hp9
          obtain ⟨⟨hT_9, hG_9⟩, z45_9, hr9, hz_9⟩ := hp9
          rw [hr9]
          have hF_9 : FRM [79] [] h g45_9 := FRM_tr hF8_1 hG_9 (by decide) (by decide)
          show TT K ly 0 0 48 [(0, vR 73), (1, vI n), (2, vI ((n + 1) / 2)), (3, vI k)] [vI z45_9, vI ((h 78) (2 * k)), vI k, vR 79] g45_9
          refine TT_aload_n hK rfl 0 rfl dX12_forward_48 ?_
          refine TT_iload_n hK rfl 3 rfl dX12_forward_49 ?_
          refine TT_iload_n hK rfl 1 rfl dX12_forward_50 ?_
          refine iv_X12_136 hK (s_X12_detail_73 k n g45_9 hT_9 (by first | omega | (simp [up, setR] <;> omega)) (by first | omega | (simp [up, setR] <;> omega))) (by decide) rfl ⟨by decide, by decide⟩ (by decide) rfl rfl (Nat.le_of_ble_eq_true rfl) ⟨by decide, by decide⟩ dX12_forward_51 ?_
          intro r9 g51_10 hp9
          obtain ⟨⟨hT_10, hG_10⟩, z51_10, hr9, hz_10⟩ := hp9
          rw [hr9]
          have hF_10 : FRM [79] [] h g51_10 := FRM_tr hF_9 hG_10 (by decide) (by decide)
          show TT K ly 0 0 54 [(0, vR 73), (1, vI n), (2, vI ((n + 1) / 2)), (3, vI k)] [vI z51_10, vI z45_9, vI ((h 78) (2 * k)), vI k, vR 79] g51_10
          refine TT_iadd hK dX12_forward_54 ?_
          refine TT_w32 (fun x55_11 hx11 => ?_)
          refine TT_iconst hK dX12_forward_55 ?_
          refine TT_iadd hK dX12_forward_56 ?_
          refine TT_w32 (fun x57_12 hx12 => ?_)
          refine TT_iconst hK dX12_forward_57 ?_
          refine iv_X12_133 hK (s_X12_floor x57_12 2 g51_10 hT_10 (by first | omega | (simp [up, setR] <;> omega)) (by first | omega | (simp [up, setR] <;> omega))) ⟨by decide, by decide⟩ (by decide) rfl rfl (Nat.le_of_ble_eq_true rfl) ⟨by decide, by decide⟩ dX12_forward_58 ?_
          intro r9 g58_13 hp9
          obtain ⟨⟨hT_13, hG_13⟩, z58_13, hr9, hz_13⟩ := hp9
          rw [hr9]
          have hF_13 : FRM [79] [] h g58_13 := FRM_tr hF_10 hG_13 (by decide) (by decide)
          show TT K ly 0 0 61 [(0, vR 73), (1, vI n), (2, vI ((n + 1) / 2)), (3, vI k)] [vI z58_13, vI ((h 78) (2 * k)), vI k, vR 79] g58_13
          refine TT_iadd hK dX12_forward_61 ?_
          refine TT_w32 (fun x62_14 hx14 => ?_)
          refine TT_iast hK (o := 79) (n := 8) (by decide) rfl (by omega) (by omega) dX12_forward_62 ?_
          refine TT_hp (h' := setO g58_13 79 (fup (w8_1 79) k x62_14)) (up_can (((hG_13.1 79 (by decide))).trans (((hG_10.1 79 (by decide))).trans (hG_9.1 79 (by decide)))) rfl rfl) ?_
          have hT_15 : TY (setO g58_13 79 (fup (w8_1 79) k x62_14)) := tu_79 hT_13 (show up g58_13 79 k x62_14 = (setO g58_13 79 (fup (w8_1 79) k x62_14)) from up_can (((hG_13.1 79 (by decide))).trans (((hG_10.1 79 (by decide))).trans (hG_9.1 79 (by decide)))) rfl rfl) (by omega)
          have hF_15 : FRM [79] [] h (setO g58_13 79 (fup (w8_1 79) k x62_14)) := FRM_up (show up g58_13 79 k x62_14 = (setO g58_13 79 (fup (w8_1 79) k x62_14)) from up_can (((hG_13.1 79 (by decide))).trans (((hG_10.1 79 (by decide))).trans (hG_9.1 79 (by decide)))) rfl rfl) hF_13 (by decide) (by decide)
          refine TT_iinc hK (v := k + 1) (lv' := [(3, vI (k + 1)), (0, vR 73), (1, vI n), (2, vI ((n + 1) / 2))]) 3 rfl rfl (by decide) rfl dX12_forward_63 ?_
          refine TT_goto hK (tgt := 8) dX12_forward_66 (by decide) ?_
          refine TT_sub [1, 2, 3, 0] rfl ?_
          exact ih1 (k + 1) (setO g58_13 79 (fup (w8_1 79) k x62_14)) hT_15 hF_15 (by first | omega | (simp [up, setR] <;> omega)) (by first | omega | (simp [up, setR] <;> omega))
        · refine TT_aload_n hK rfl 0 rfl dX12_forward_23 ?_
          refine gf_X12_29 hK (by decide) rfl (q := 78) rfl rfl dX12_forward_24 ?_
          refine TT_iconst hK dX12_forward_27 ?_
          refine TT_iald hK (o := 78) (n := 8) (by decide) rfl (by first | omega | (simp [up, setR] <;> omega)) (by first | omega | (simp [up, setR] <;> omega)) (v := (h 78) 0) (rd_ (hF8_1.1 78 (by decide)) rfl) dX12_forward_28 ?_
          have r16 := ty_78 (i := 0) (v := (h 78) 0) hT8_1 (rd_ (hF8_1.1 78 (by decide)) rfl) (by omega) (by omega)
          refine TT_goto hK (tgt := 62) dX12_forward_29 (by decide) ?_
          refine TT_w32 (fun x62_17 hx17 => ?_)
          refine TT_iast hK (o := 79) (n := 8) (by decide) rfl (by omega) (by omega) dX12_forward_62 ?_
          refine TT_hp (h' := setO w8_1 79 (fup (w8_1 79) k x62_17)) (up_can rfl rfl rfl) ?_
          have hT_18 : TY (setO w8_1 79 (fup (w8_1 79) k x62_17)) := tu_79 hT8_1 (show up w8_1 79 k x62_17 = (setO w8_1 79 (fup (w8_1 79) k x62_17)) from up_can rfl rfl rfl) (by omega)
          have hF_18 : FRM [79] [] h (setO w8_1 79 (fup (w8_1 79) k x62_17)) := FRM_up (show up w8_1 79 k x62_17 = (setO w8_1 79 (fup (w8_1 79) k x62_17)) from up_can rfl rfl rfl) hF8_1 (by decide) (by decide)
          refine TT_iinc hK (v := k + 1) (lv' := [(3, vI (k + 1)), (0, vR 73), (1, vI n), (2, vI ((n + 1) / 2))]) 3 rfl rfl (by decide) rfl dX12_forward_63 ?_
          refine TT_goto hK (tgt := 8) dX12_forward_66 (by decide) ?_
          refine TT_sub [1, 2, 3, 0] rfl ?_
          exact ih1 (k + 1) (setO w8_1 79 (fup (w8_1 79) k x62_17)) hT_18 hF_18 (by first | omega | (simp [up, setR] <;> omega)) (by first | omega | (simp [up, setR] <;> omega))
  refine TT_sub [2, 3, 1, 0] rfl ?_
  exact L8_1 ((((8 : Int) - 0).toNat) + 1) 0 h hT hF (by first | omega | (simp [up, setR] <;> omega)) (Nat.lt_succ_self _)
set_option maxRecDepth 20000 in
theorem s_X12_backward_73 (n : Int) (h : Hp_) (hT : TY h) (hn : 0 ≤ n ∧ n ≤ 8) : Ctr yX12_backward cX12_backward 5 none (rmd 3) ly ly 0 0 [vR 73, vI n] h (fun r h' => (TY h' ∧ FRM [79] [] h h') ∧ r = none) := by
  refine Ctr_of (by decide) (Nat.le_of_ble_eq_true rfl) ⟨Nat.le_refl _, Nat.le_refl _⟩ (fun K hK hQ _ => ?_)
  show TT K ly 0 0 0 [(0, vR 73), (1, vI n)] [] h
  have hF : FRM [79] [] h h := FRM_rf _ _ _
  refine TT_iload_n hK rfl 1 rfl dX12_backward_0 ?_
  refine TT_iconst hK dX12_backward_1 ?_
  refine TT_iadd hK dX12_backward_2 ?_
  refine TT_iconst hK dX12_backward_3 ?_
  refine TT_idivn hK (irm (by omega) (by omega)) (by decide) (by first | omega | (simp [up, setR] <;> omega)) (by first | omega | (simp [up, setR] <;> omega)) dX12_backward_4 ?_
  refine TT_istore_n hK rfl (lv' := [(2, vI ((n + 1) / 2)), (0, vR 73), (1, vI n)]) (by decide) rfl dX12_backward_5 ?_
  refine TT_iconst hK dX12_backward_6 ?_
  refine TT_istore_n hK rfl (lv' := [(3, vI 0), (2, vI ((n + 1) / 2)), (0, vR 73), (1, vI n)]) (by decide) rfl dX12_backward_7 ?_
  have L8_1 : ∀ (k1 : Nat) (k : Int) (w8_1 : Hp_), TY w8_1 → FRM [79] [] h w8_1 → (0 ≤ k ∧ k ≤ 8) → ((8 : Int) - k).toNat < k1 → TT K ly 0 0 8 [(0, vR 73), (1, vI n), (2, vI ((n + 1) / 2)), (3, vI k)] [] w8_1 := by
    intro k1
    induction k1 with
    | zero => intro k w8_1 hT8_1 hF8_1 hk hk1; exact absurd hk1 (Nat.not_lt_zero _)
    | succ k1 ih1 =>
      intro k w8_1 hT8_1 hF8_1 hk hk1
      refine TT_iload_n hK rfl 3 rfl dX12_backward_8 ?_
      refine TT_iload_n hK rfl 2 rfl dX12_backward_9 ?_
      refine TT_icmp_ge hK (tgt := 69) (irm (by omega) (by omega)) (irm (by omega) (by omega)) dX12_backward_10 (by decide) (fun hb10_2 => ?_) (fun hb10_2 => ?_)
      · refine TT_iconst hK dX12_backward_69 ?_
        refine TT_istore_n hK rfl (lv' := [(3, vI 0), (0, vR 73), (1, vI n), (2, vI ((n + 1) / 2))]) (by decide) rfl dX12_backward_70 ?_
        have L71_3 : ∀ (k3 : Nat) (k : Int) (w71_3 : Hp_), TY w71_3 → FRM [79] [] h w71_3 → (0 ≤ k ∧ k ≤ 8) → ((8 : Int) - k).toNat < k3 → TT K ly 0 0 71 [(0, vR 73), (1, vI n), (2, vI ((n + 1) / 2)), (3, vI k)] [] w71_3 := by
          intro k3
          induction k3 with
          | zero => intro k w71_3 hT71_3 hF71_3 hk hk3; exact absurd hk3 (Nat.not_lt_zero _)
          | succ k3 ih3 =>
            intro k w71_3 hT71_3 hF71_3 hk hk3
            refine TT_iload_n hK rfl 3 rfl dX12_backward_71 ?_
            refine TT_iload_n hK rfl 1 rfl dX12_backward_72 ?_
            refine TT_iconst hK dX12_backward_73 ?_
            refine TT_idivn hK (irm (by omega) (by omega)) (by decide) (by first | omega | (simp [up, setR] <;> omega)) (by first | omega | (simp [up, setR] <;> omega)) dX12_backward_74 ?_
            refine TT_icmp_ge hK (tgt := 143) (irm (by omega) (by omega)) (irm (by omega) (by omega)) dX12_backward_75 (by decide) (fun hb75_4 => ?_) (fun hb75_4 => ?_)
            · refine TT_vret hK hQ ?_ dX12_backward_143
              exact ⟨⟨hT71_3, hF71_3⟩, rfl⟩
            · have J100_5 : ∀ (rt : Int) (w100_5 : Hp_), TY w100_5 → FRM [79] [] h w100_5 → (0 ≤ rt ∧ rt < n) → TT K ly 0 0 100 [(0, vR 73), (1, vI n), (2, vI ((n + 1) / 2)), (3, vI k), (4, vI rt)] [] w100_5 := by
                intro rt w100_5 hT100_5 hF100_5 hrt
                refine TT_aload_n hK rfl 0 rfl dX12_backward_100 ?_
                refine gf_X12_32 hK (by decide) rfl (q := 79) rfl rfl dX12_backward_101 ?_
                refine TT_iconst hK dX12_backward_104 ?_
                refine TT_iload_n hK rfl 3 rfl dX12_backward_105 ?_
                refine TT_imul hK dX12_backward_106 ?_
                refine TT_iconst hK dX12_backward_107 ?_
                refine TT_iadd hK dX12_backward_108 ?_
                refine TT_aload_n hK rfl 0 rfl dX12_backward_109 ?_
                refine TT_iload_n hK rfl 3 rfl dX12_backward_110 ?_
                refine TT_iload_n hK rfl 1 rfl dX12_backward_111 ?_
                refine iv_X12_139 hK (s_X12_given_73 k n w100_5 hT100_5 (by first | omega | (simp [up, setR] <;> omega)) (by first | omega | (simp [up, setR] <;> omega))) (by decide) rfl ⟨by decide, by decide⟩ (by decide) rfl rfl (Nat.le_of_ble_eq_true rfl) ⟨by decide, by decide⟩ dX12_backward_112 ?_
                intro r9 g112_6 hp9
                obtain ⟨⟨hT_6, hG_6⟩, z112_6, hr9, hz_6⟩ := hp9
                rw [hr9]
                have hF_6 : FRM [79] [] h g112_6 := FRM_tr hF100_5 hG_6 (by decide) (by decide)
                show TT K ly 0 0 115 [(0, vR 73), (1, vI n), (2, vI ((n + 1) / 2)), (3, vI k), (4, vI rt)] [vI z112_6, vI ((2 * k) + 1), vR 79] g112_6
                refine TT_aload_n hK rfl 0 rfl dX12_backward_115 ?_
                refine gf_X12_32 hK (by decide) rfl (q := 79) rfl rfl dX12_backward_116 ?_
                refine TT_iconst hK dX12_backward_119 ?_
                refine TT_iload_n hK rfl 3 rfl dX12_backward_120 ?_
                refine TT_imul hK dX12_backward_121 ?_
                refine TT_iald hK (o := 79) (n := 8) (by decide) rfl (by first | omega | (simp [up, setR] <;> omega)) (by first | omega | (simp [up, setR] <;> omega)) (v := (w100_5 79) (2 * k)) (rd_ (hG_6.1 79 (by decide)) rfl) dX12_backward_122 ?_
                have r7 := ty_79 (i := 2 * k) (v := (w100_5 79) (2 * k)) hT_6 (rd_ (hG_6.1 79 (by decide)) rfl) (by omega) (by omega)
                refine TT_aload_n hK rfl 0 rfl dX12_backward_123 ?_
                refine gf_X12_32 hK (by decide) rfl (q := 79) rfl rfl dX12_backward_124 ?_
                refine TT_iload hK 4 rfl dX12_backward_127 ?_
                refine TT_iald hK (o := 79) (n := 8) (by decide) rfl (by first | omega | (simp [up, setR] <;> omega)) (by first | omega | (simp [up, setR] <;> omega)) (v := (w100_5 79) rt) (rd_ (hG_6.1 79 (by decide)) rfl) dX12_backward_129 ?_
                have r8 := ty_79 (i := rt) (v := (w100_5 79) rt) hT_6 (rd_ (hG_6.1 79 (by decide)) rfl) (by omega) (by omega)
                refine TT_iadd hK dX12_backward_130 ?_
                refine TT_w32 (fun x131_9 hx9 => ?_)
                refine TT_iconst hK dX12_backward_131 ?_
                refine iv_X12_133 hK (s_X12_floor x131_9 1 g112_6 hT_6 (by first | omega | (simp [up, setR] <;> omega)) (by first | omega | (simp [up, setR] <;> omega))) ⟨by decide, by decide⟩ (by decide) rfl rfl (Nat.le_of_ble_eq_true rfl) ⟨by decide, by decide⟩ dX12_backward_132 ?_
                intro r9 g132_10 hp9
                obtain ⟨⟨hT_10, hG_10⟩, z132_10, hr9, hz_10⟩ := hp9
                rw [hr9]
                have hF_10 : FRM [79] [] h g132_10 := FRM_tr hF_6 hG_10 (by decide) (by decide)
                show TT K ly 0 0 135 [(0, vR 73), (1, vI n), (2, vI ((n + 1) / 2)), (3, vI k), (4, vI rt)] [vI z132_10, vI z112_6, vI ((2 * k) + 1), vR 79] g132_10
                refine TT_iadd hK dX12_backward_135 ?_
                refine TT_w32 (fun x136_11 hx11 => ?_)
                refine TT_iast hK (o := 79) (n := 8) (by decide) rfl (by omega) (by omega) dX12_backward_136 ?_
                refine TT_hp (h' := setO g132_10 79 (fup (w100_5 79) ((2 * k) + 1) x136_11)) (up_can (((hG_10.1 79 (by decide))).trans (hG_6.1 79 (by decide))) rfl rfl) ?_
                have hT_12 : TY (setO g132_10 79 (fup (w100_5 79) ((2 * k) + 1) x136_11)) := tu_79 hT_10 (show up g132_10 79 ((2 * k) + 1) x136_11 = (setO g132_10 79 (fup (w100_5 79) ((2 * k) + 1) x136_11)) from up_can (((hG_10.1 79 (by decide))).trans (hG_6.1 79 (by decide))) rfl rfl) (by omega)
                have hF_12 : FRM [79] [] h (setO g132_10 79 (fup (w100_5 79) ((2 * k) + 1) x136_11)) := FRM_up (show up g132_10 79 ((2 * k) + 1) x136_11 = (setO g132_10 79 (fup (w100_5 79) ((2 * k) + 1) x136_11)) from up_can (((hG_10.1 79 (by decide))).trans (hG_6.1 79 (by decide))) rfl rfl) hF_10 (by decide) (by decide)
                refine TT_iinc hK (v := k + 1) (lv' := [(3, vI (k + 1)), (0, vR 73), (1, vI n), (2, vI ((n + 1) / 2)), (4, vI rt)]) 3 rfl rfl (by decide) rfl dX12_backward_137 ?_
                refine TT_goto hK (tgt := 71) dX12_backward_140 (by decide) ?_
                refine TT_sub [1, 2, 3, 0] rfl ?_
                exact ih3 (k + 1) (setO g132_10 79 (fup (w100_5 79) ((2 * k) + 1) x136_11)) hT_12 hF_12 (by first | omega | (simp [up, setR] <;> omega)) (by first | omega | (simp [up, setR] <;> omega))
              refine TT_iconst hK dX12_backward_78 ?_
              refine TT_iload_n hK rfl 3 rfl dX12_backward_79 ?_
              refine TT_imul hK dX12_backward_80 ?_
              refine TT_iconst hK dX12_backward_81 ?_
              refine TT_iadd hK dX12_backward_82 ?_
              refine TT_iload_n hK rfl 1 rfl dX12_backward_83 ?_
              refine TT_icmp_ge hK (tgt := 95) (irm (by omega) (by omega)) (irm (by omega) (by omega)) dX12_backward_84 (by decide) (fun hb84_13 => ?_) (fun hb84_13 => ?_)
              · refine TT_iload_n hK rfl 1 rfl dX12_backward_95 ?_
                refine TT_iconst hK dX12_backward_96 ?_
                refine TT_isub hK dX12_backward_97 ?_
                refine TT_istore hK (lv' := [(4, vI (n - 2)), (0, vR 73), (1, vI n), (2, vI ((n + 1) / 2)), (3, vI k)]) (by decide) rfl dX12_backward_98 ?_
                refine TT_sub [1, 2, 3, 4, 0] rfl ?_
                exact J100_5 (n - 2) w71_3 hT71_3 hF71_3 (by first | omega | (simp [up, setR] <;> omega))
              · refine TT_iconst hK dX12_backward_87 ?_
                refine TT_iload_n hK rfl 3 rfl dX12_backward_88 ?_
                refine TT_imul hK dX12_backward_89 ?_
                refine TT_iconst hK dX12_backward_90 ?_
                refine TT_iadd hK dX12_backward_91 ?_
                refine TT_goto hK (tgt := 98) dX12_backward_92 (by decide) ?_
                refine TT_istore hK (lv' := [(4, vI ((2 * k) + 2)), (0, vR 73), (1, vI n), (2, vI ((n + 1) / 2)), (3, vI k)]) (by decide) rfl dX12_backward_98 ?_
                refine TT_sub [1, 2, 3, 4, 0] rfl ?_
                exact J100_5 ((2 * k) + 2) w71_3 hT71_3 hF71_3 (by first | omega | (simp [up, setR] <;> omega))
        refine TT_sub [1, 2, 3, 0] rfl ?_
        exact L71_3 ((((8 : Int) - 0).toNat) + 1) 0 w8_1 hT8_1 hF8_1 (by first | omega | (simp [up, setR] <;> omega)) (Nat.lt_succ_self _)
      · refine TT_aload_n hK rfl 0 rfl dX12_backward_13 ?_
        refine gf_X12_32 hK (by decide) rfl (q := 79) rfl rfl dX12_backward_14 ?_
        refine TT_iconst hK dX12_backward_17 ?_
        refine TT_iload_n hK rfl 3 rfl dX12_backward_18 ?_
        refine TT_imul hK dX12_backward_19 ?_
        refine TT_iload_n hK rfl 1 rfl dX12_backward_20 ?_
        refine TT_iconst hK dX12_backward_21 ?_
        refine TT_icmp_ne hK (tgt := 34) (irm (by omega) (by omega)) (by decide) dX12_backward_22 (by decide) (fun hb22_14 => ?_) (fun hb22_14 => ?_)
        · refine TT_aload_n hK rfl 0 rfl dX12_backward_34 ?_
          refine gf_X12_29 hK (by decide) rfl (q := 78) rfl rfl dX12_backward_35 ?_
          refine TT_iload_n hK rfl 3 rfl dX12_backward_38 ?_
          refine TT_iald hK (o := 78) (n := 8) (by decide) rfl (by first | omega | (simp [up, setR] <;> omega)) (by first | omega | (simp [up, setR] <;> omega)) (v := (h 78) k) (rd_ (hF8_1.1 78 (by decide)) rfl) dX12_backward_39 ?_
          have r15 := ty_78 (i := k) (v := (h 78) k) hT8_1 (rd_ (hF8_1.1 78 (by decide)) rfl) (by omega) (by omega)
          refine TT_aload_n hK rfl 0 rfl dX12_backward_40 ?_
          refine TT_iload_n hK rfl 3 rfl dX12_backward_41 ?_
          refine TT_iconst hK dX12_backward_42 ?_
          refine TT_isub hK dX12_backward_43 ?_
          refine TT_iload_n hK rfl 1 rfl dX12_backward_44 ?_
          refine iv_X12_139 hK (s_X12_given_73 (k - 1) n w8_1 hT8_1 (by first | omega | (simp [up, setR] <;> omega)) (by first | omega | (simp [up, setR] <;> omega))) (by decide) rfl ⟨by decide, by decide⟩ (by decide) rfl rfl (Nat.le_of_ble_eq_true rfl) ⟨by decide, by decide⟩ dX12_backward_45 ?_
          intro r9 g45_16 hp9
          obtain ⟨⟨hT_16, hG_16⟩, z45_16, hr9, hz_16⟩ := hp9
          rw [hr9]
          have hF_16 : FRM [79] [] h g45_16 := FRM_tr hF8_1 hG_16 (by decide) (by decide)
          show TT K ly 0 0 48 [(0, vR 73), (1, vI n), (2, vI ((n + 1) / 2)), (3, vI k)] [vI z45_16, vI ((h 78) k), vI (2 * k), vR 79] g45_16
          refine TT_aload_n hK rfl 0 rfl dX12_backward_48 ?_
          refine TT_iload_n hK rfl 3 rfl dX12_backward_49 ?_
          refine TT_iload_n hK rfl 1 rfl dX12_backward_50 ?_
          refine iv_X12_139 hK (s_X12_given_73 k n g45_16 hT_16 (by first | omega | (simp [up, setR] <;> omega)) (by first | omega | (simp [up, setR] <;> omega))) (by decide) rfl ⟨by decide, by decide⟩ (by decide) rfl rfl (Nat.le_of_ble_eq_true rfl) ⟨by decide, by decide⟩ dX12_backward_51 ?_
          intro r9 g51_17 hp9
          obtain ⟨⟨hT_17, hG_17⟩, z51_17, hr9, hz_17⟩ := hp9
          rw [hr9]
          have hF_17 : FRM [79] [] h g51_17 := FRM_tr hF_16 hG_17 (by decide) (by decide)
          show TT K ly 0 0 54 [(0, vR 73), (1, vI n), (2, vI ((n + 1) / 2)), (3, vI k)] [vI z51_17, vI z45_16, vI ((h 78) k), vI (2 * k), vR 79] g51_17
          refine TT_iadd hK dX12_backward_54 ?_
          refine TT_w32 (fun x55_18 hx18 => ?_)
          refine TT_iconst hK dX12_backward_55 ?_
          refine TT_iadd hK dX12_backward_56 ?_
          refine TT_w32 (fun x57_19 hx19 => ?_)
          refine TT_iconst hK dX12_backward_57 ?_
          refine iv_X12_133 hK (s_X12_floor x57_19 2 g51_17 hT_17 (by first | omega | (simp [up, setR] <;> omega)) (by first | omega | (simp [up, setR] <;> omega))) ⟨by decide, by decide⟩ (by decide) rfl rfl (Nat.le_of_ble_eq_true rfl) ⟨by decide, by decide⟩ dX12_backward_58 ?_
          intro r9 g58_20 hp9
          obtain ⟨⟨hT_20, hG_20⟩, z58_20, hr9, hz_20⟩ := hp9
          rw [hr9]
          have hF_20 : FRM [79] [] h g58_20 := FRM_tr hF_17 hG_20 (by decide) (by decide)
          show TT K ly 0 0 61 [(0, vR 73), (1, vI n), (2, vI ((n + 1) / 2)), (3, vI k)] [vI z58_20, vI ((h 78) k), vI (2 * k), vR 79] g58_20
          refine TT_isub hK dX12_backward_61 ?_
          refine TT_w32 (fun x62_21 hx21 => ?_)
          refine TT_iast hK (o := 79) (n := 8) (by decide) rfl (by omega) (by omega) dX12_backward_62 ?_
          refine TT_hp (h' := setO g58_20 79 (fup (w8_1 79) (2 * k) x62_21)) (up_can (((hG_20.1 79 (by decide))).trans (((hG_17.1 79 (by decide))).trans (hG_16.1 79 (by decide)))) rfl rfl) ?_
          have hT_22 : TY (setO g58_20 79 (fup (w8_1 79) (2 * k) x62_21)) := tu_79 hT_20 (show up g58_20 79 (2 * k) x62_21 = (setO g58_20 79 (fup (w8_1 79) (2 * k) x62_21)) from up_can (((hG_20.1 79 (by decide))).trans (((hG_17.1 79 (by decide))).trans (hG_16.1 79 (by decide)))) rfl rfl) (by omega)
          have hF_22 : FRM [79] [] h (setO g58_20 79 (fup (w8_1 79) (2 * k) x62_21)) := FRM_up (show up g58_20 79 (2 * k) x62_21 = (setO g58_20 79 (fup (w8_1 79) (2 * k) x62_21)) from up_can (((hG_20.1 79 (by decide))).trans (((hG_17.1 79 (by decide))).trans (hG_16.1 79 (by decide)))) rfl rfl) hF_20 (by decide) (by decide)
          refine TT_iinc hK (v := k + 1) (lv' := [(3, vI (k + 1)), (0, vR 73), (1, vI n), (2, vI ((n + 1) / 2))]) 3 rfl rfl (by decide) rfl dX12_backward_63 ?_
          refine TT_goto hK (tgt := 8) dX12_backward_66 (by decide) ?_
          refine TT_sub [1, 2, 3, 0] rfl ?_
          exact ih1 (k + 1) (setO g58_20 79 (fup (w8_1 79) (2 * k) x62_21)) hT_22 hF_22 (by first | omega | (simp [up, setR] <;> omega)) (by first | omega | (simp [up, setR] <;> omega))
        · refine TT_aload_n hK rfl 0 rfl dX12_backward_25 ?_
          refine gf_X12_29 hK (by decide) rfl (q := 78) rfl rfl dX12_backward_26 ?_
          refine TT_iconst hK dX12_backward_29 ?_
          refine TT_iald hK (o := 78) (n := 8) (by decide) rfl (by first | omega | (simp [up, setR] <;> omega)) (by first | omega | (simp [up, setR] <;> omega)) (v := (h 78) 0) (rd_ (hF8_1.1 78 (by decide)) rfl) dX12_backward_30 ?_
          have r23 := ty_78 (i := 0) (v := (h 78) 0) hT8_1 (rd_ (hF8_1.1 78 (by decide)) rfl) (by omega) (by omega)
          refine TT_goto hK (tgt := 62) dX12_backward_31 (by decide) ?_
          refine TT_w32 (fun x62_24 hx24 => ?_)
          refine TT_iast hK (o := 79) (n := 8) (by decide) rfl (by omega) (by omega) dX12_backward_62 ?_
          refine TT_hp (h' := setO w8_1 79 (fup (w8_1 79) (2 * k) x62_24)) (up_can rfl rfl rfl) ?_
          have hT_25 : TY (setO w8_1 79 (fup (w8_1 79) (2 * k) x62_24)) := tu_79 hT8_1 (show up w8_1 79 (2 * k) x62_24 = (setO w8_1 79 (fup (w8_1 79) (2 * k) x62_24)) from up_can rfl rfl rfl) (by omega)
          have hF_25 : FRM [79] [] h (setO w8_1 79 (fup (w8_1 79) (2 * k) x62_24)) := FRM_up (show up w8_1 79 (2 * k) x62_24 = (setO w8_1 79 (fup (w8_1 79) (2 * k) x62_24)) from up_can rfl rfl rfl) hF8_1 (by decide) (by decide)
          refine TT_iinc hK (v := k + 1) (lv' := [(3, vI (k + 1)), (0, vR 73), (1, vI n), (2, vI ((n + 1) / 2))]) 3 rfl rfl (by decide) rfl dX12_backward_63 ?_
          refine TT_goto hK (tgt := 8) dX12_backward_66 (by decide) ?_
          refine TT_sub [1, 2, 3, 0] rfl ?_
          exact ih1 (k + 1) (setO w8_1 79 (fup (w8_1 79) (2 * k) x62_24)) hT_25 hF_25 (by first | omega | (simp [up, setR] <;> omega)) (by first | omega | (simp [up, setR] <;> omega))
  refine TT_sub [2, 3, 1, 0] rfl ?_
  exact L8_1 ((((8 : Int) - 0).toNat) + 1) 0 h hT hF (by first | omega | (simp [up, setR] <;> omega)) (Nat.lt_succ_self _)
set_option maxRecDepth 20000 in
theorem s_work_8_0 (f n : Int) (h : Hp_) (hT : TY h) (hf : 0 ≤ f ∧ f ≤ 7) (hn : 0 ≤ n ∧ n ≤ 8) : Ctr yX12_work cX12_work 6 none (rmd 4) ly ly 0 0 [vR 73, vI f, vI 8, vI n, vI 0] h (fun r h' => (TY h' ∧ FRM [77, 78, 79] [] h h') ∧ r = none) := by
  refine Ctr_of (by decide) (Nat.le_of_ble_eq_true rfl) ⟨Nat.le_refl _, Nat.le_refl _⟩ (fun K hK hQ _ => ?_)
  show TT K ly 0 0 0 [(0, vR 73), (1, vI f), (2, vI 8), (3, vI n), (4, vI 0)] [] h
  have hF : FRM [77, 78, 79] [] h h := FRM_rf _ _ _
  refine TT_iconst hK dX12_work_0 ?_
  refine TT_istore hK (lv' := [(5, vI 0), (0, vR 73), (1, vI f), (2, vI 8), (3, vI n), (4, vI 0)]) (by decide) rfl dX12_work_1 ?_
  have L3_1 : ∀ (k1 : Nat) (k : Int) (w3_1 : Hp_), TY w3_1 → FRM [77, 78, 79] [] h w3_1 → (0 ≤ k ∧ k ≤ 8) → ((8 : Int) - k).toNat < k1 → TT K ly 0 0 3 [(0, vR 73), (1, vI f), (2, vI 8), (3, vI n), (4, vI 0), (5, vI k)] [] w3_1 := by
    intro k1
    induction k1 with
    | zero => intro k w3_1 hT3_1 hF3_1 hk hk1; exact absurd hk1 (Nat.not_lt_zero _)
    | succ k1 ih1 =>
      intro k w3_1 hT3_1 hF3_1 hk hk1
      refine TT_iload hK 5 rfl dX12_work_3 ?_
      refine TT_iload_n hK rfl 3 rfl dX12_work_5 ?_
      refine TT_icmp_ge hK (tgt := 33) (irm (by omega) (by omega)) (irm (by omega) (by omega)) dX12_work_6 (by decide) (fun hb6_2 => ?_) (fun hb6_2 => ?_)
      · refine TT_iload hK 4 rfl dX12_work_33 ?_
        refine TT_if_eq hK (tgt := 46) (by decide) dX12_work_35 (by decide) (fun hb35_3 => ?_) (fun hb35_3 => ?_)
        · refine TT_aload_n hK rfl 0 rfl dX12_work_46 ?_
          refine TT_iload_n hK rfl 3 rfl dX12_work_47 ?_
          refine iv_X12_146 hK (s_X12_forward_73 n w3_1 hT3_1 (by first | omega | (simp [up, setR] <;> omega))) (by decide) rfl ⟨by decide, by decide⟩ (by decide) rfl rfl (Nat.le_of_ble_eq_true rfl) ⟨by decide, by decide⟩ dX12_work_48 ?_
          intro r9 g48_4 hp9
          obtain ⟨⟨hT_4, hG_4⟩, hr9⟩ := hp9
          rw [hr9]
          have hF_4 : FRM [77, 78, 79] [] h g48_4 := FRM_tr hF3_1 hG_4 (by decide) (by decide)
          show TT K ly 0 0 51 [(0, vR 73), (1, vI f), (2, vI 8), (3, vI n), (4, vI 0), (5, vI k)] [] g48_4
          refine TT_iconst hK dX12_work_51 ?_
          refine TT_istore hK (lv' := [(5, vI 0), (0, vR 73), (1, vI f), (2, vI 8), (3, vI n), (4, vI 0)]) (by decide) rfl dX12_work_52 ?_
          have L54_5 : ∀ (k5 : Nat) (k : Int) (w54_5 : Hp_), TY w54_5 → FRM [77, 78, 79] [] h w54_5 → (0 ≤ k ∧ k ≤ 8) → ((8 : Int) - k).toNat < k5 → TT K ly 0 0 54 [(0, vR 73), (1, vI f), (2, vI 8), (3, vI n), (4, vI 0), (5, vI k)] [] w54_5 := by
            intro k5
            induction k5 with
            | zero => intro k w54_5 hT54_5 hF54_5 hk hk5; exact absurd hk5 (Nat.not_lt_zero _)
            | succ k5 ih5 =>
              intro k w54_5 hT54_5 hF54_5 hk hk5
              refine TT_iload hK 5 rfl dX12_work_54 ?_
              refine TT_iload_n hK rfl 3 rfl dX12_work_56 ?_
              refine TT_icmp_ge hK (tgt := 84) (irm (by omega) (by omega)) (irm (by omega) (by omega)) dX12_work_57 (by decide) (fun hb57_6 => ?_) (fun hb57_6 => ?_)
              · refine TT_vret hK hQ ?_ dX12_work_84
                exact ⟨⟨hT54_5, hF54_5⟩, rfl⟩
              · refine TT_aload_n hK rfl 0 rfl dX12_work_60 ?_
                refine gf_X12_26 hK (by decide) rfl (q := 77) rfl rfl dX12_work_61 ?_
                refine TT_iload_n hK rfl 1 rfl dX12_work_64 ?_
                refine TT_iload_n hK rfl 2 rfl dX12_work_65 ?_
                refine TT_iload hK 5 rfl dX12_work_66 ?_
                refine TT_imul hK dX12_work_68 ?_
                refine TT_iadd hK dX12_work_69 ?_
                refine TT_aload_n hK rfl 0 rfl dX12_work_70 ?_
                refine gf_X12_32 hK (by decide) rfl (q := 79) rfl rfl dX12_work_71 ?_
                refine TT_iload hK 5 rfl dX12_work_74 ?_
                refine TT_iald hK (o := 79) (n := 8) (by decide) rfl (by first | omega | (simp [up, setR] <;> omega)) (by first | omega | (simp [up, setR] <;> omega)) (v := (w54_5 79) k) rfl dX12_work_76 ?_
                have r7 := ty_79 (i := k) (v := (w54_5 79) k) hT54_5 rfl (by omega) (by omega)
                refine TT_iast hK (o := 77) (n := 64) (by decide) rfl (by omega) (by omega) dX12_work_77 ?_
                refine TT_hp (h' := setO w54_5 77 (fup (w54_5 77) (f + (8 * k)) ((w54_5 79) k))) (up_can rfl rfl rfl) ?_
                have hT_8 : TY (setO w54_5 77 (fup (w54_5 77) (f + (8 * k)) ((w54_5 79) k))) := tu_77 hT54_5 (show up w54_5 77 (f + (8 * k)) ((w54_5 79) k) = (setO w54_5 77 (fup (w54_5 77) (f + (8 * k)) ((w54_5 79) k))) from up_can rfl rfl rfl) (by omega)
                have hF_8 : FRM [77, 78, 79] [] h (setO w54_5 77 (fup (w54_5 77) (f + (8 * k)) ((w54_5 79) k))) := FRM_up (show up w54_5 77 (f + (8 * k)) ((w54_5 79) k) = (setO w54_5 77 (fup (w54_5 77) (f + (8 * k)) ((w54_5 79) k))) from up_can rfl rfl rfl) hF54_5 (by decide) (by decide)
                refine TT_iinc hK (v := k + 1) (lv' := [(5, vI (k + 1)), (0, vR 73), (1, vI f), (2, vI 8), (3, vI n), (4, vI 0)]) 5 rfl rfl (by decide) rfl dX12_work_78 ?_
                refine TT_goto hK (tgt := 54) dX12_work_81 (by decide) ?_
                refine TT_sub [1, 2, 3, 4, 5, 0] rfl ?_
                exact ih5 (k + 1) (setO w54_5 77 (fup (w54_5 77) (f + (8 * k)) ((w54_5 79) k))) hT_8 hF_8 (by first | omega | (simp [up, setR] <;> omega)) (by first | omega | (simp [up, setR] <;> omega))
          refine TT_sub [1, 2, 3, 4, 5, 0] rfl ?_
          exact L54_5 ((((8 : Int) - 0).toNat) + 1) 0 g48_4 hT_4 hF_4 (by first | omega | (simp [up, setR] <;> omega)) (Nat.lt_succ_self _)
        · exact absurd hb35_3 (by decide)
      · refine TT_aload_n hK rfl 0 rfl dX12_work_9 ?_
        refine gf_X12_29 hK (by decide) rfl (q := 78) rfl rfl dX12_work_10 ?_
        refine TT_iload hK 5 rfl dX12_work_13 ?_
        refine TT_aload_n hK rfl 0 rfl dX12_work_15 ?_
        refine gf_X12_26 hK (by decide) rfl (q := 77) rfl rfl dX12_work_16 ?_
        refine TT_iload_n hK rfl 1 rfl dX12_work_19 ?_
        refine TT_iload_n hK rfl 2 rfl dX12_work_20 ?_
        refine TT_iload hK 5 rfl dX12_work_21 ?_
        refine TT_imul hK dX12_work_23 ?_
        refine TT_iadd hK dX12_work_24 ?_
        refine TT_iald hK (o := 77) (n := 64) (by decide) rfl (by first | omega | (simp [up, setR] <;> omega)) (by first | omega | (simp [up, setR] <;> omega)) (v := (w3_1 77) (f + (8 * k))) rfl dX12_work_25 ?_
        have r9 := ty_77 (i := f + (8 * k)) (v := (w3_1 77) (f + (8 * k))) hT3_1 rfl (by omega) (by omega)
        refine TT_iast hK (o := 78) (n := 8) (by decide) rfl (by omega) (by omega) dX12_work_26 ?_
        refine TT_hp (h' := setO w3_1 78 (fup (w3_1 78) k ((w3_1 77) (f + (8 * k))))) (up_can rfl rfl rfl) ?_
        have hT_10 : TY (setO w3_1 78 (fup (w3_1 78) k ((w3_1 77) (f + (8 * k))))) := tu_78 hT3_1 (show up w3_1 78 k ((w3_1 77) (f + (8 * k))) = (setO w3_1 78 (fup (w3_1 78) k ((w3_1 77) (f + (8 * k))))) from up_can rfl rfl rfl) (by omega)
        have hF_10 : FRM [77, 78, 79] [] h (setO w3_1 78 (fup (w3_1 78) k ((w3_1 77) (f + (8 * k))))) := FRM_up (show up w3_1 78 k ((w3_1 77) (f + (8 * k))) = (setO w3_1 78 (fup (w3_1 78) k ((w3_1 77) (f + (8 * k))))) from up_can rfl rfl rfl) hF3_1 (by decide) (by decide)
        refine TT_iinc hK (v := k + 1) (lv' := [(5, vI (k + 1)), (0, vR 73), (1, vI f), (2, vI 8), (3, vI n), (4, vI 0)]) 5 rfl rfl (by decide) rfl dX12_work_27 ?_
        refine TT_goto hK (tgt := 3) dX12_work_30 (by decide) ?_
        refine TT_sub [1, 2, 3, 4, 5, 0] rfl ?_
        exact ih1 (k + 1) (setO w3_1 78 (fup (w3_1 78) k ((w3_1 77) (f + (8 * k))))) hT_10 hF_10 (by first | omega | (simp [up, setR] <;> omega)) (by first | omega | (simp [up, setR] <;> omega))
  refine TT_sub [1, 2, 3, 4, 5, 0] rfl ?_
  exact L3_1 ((((8 : Int) - 0).toNat) + 1) 0 h hT hF (by first | omega | (simp [up, setR] <;> omega)) (Nat.lt_succ_self _)
set_option maxRecDepth 20000 in
theorem s_work_8_1 (f n : Int) (h : Hp_) (hT : TY h) (hf : 0 ≤ f ∧ f ≤ 7) (hn : 0 ≤ n ∧ n ≤ 8) : Ctr yX12_work cX12_work 6 none (rmd 4) ly ly 0 0 [vR 73, vI f, vI 8, vI n, vI 1] h (fun r h' => (TY h' ∧ FRM [77, 78, 79] [] h h') ∧ r = none) := by
  refine Ctr_of (by decide) (Nat.le_of_ble_eq_true rfl) ⟨Nat.le_refl _, Nat.le_refl _⟩ (fun K hK hQ _ => ?_)
  show TT K ly 0 0 0 [(0, vR 73), (1, vI f), (2, vI 8), (3, vI n), (4, vI 1)] [] h
  have hF : FRM [77, 78, 79] [] h h := FRM_rf _ _ _
  refine TT_iconst hK dX12_work_0 ?_
  refine TT_istore hK (lv' := [(5, vI 0), (0, vR 73), (1, vI f), (2, vI 8), (3, vI n), (4, vI 1)]) (by decide) rfl dX12_work_1 ?_
  have L3_1 : ∀ (k1 : Nat) (k : Int) (w3_1 : Hp_), TY w3_1 → FRM [77, 78, 79] [] h w3_1 → (0 ≤ k ∧ k ≤ 8) → ((8 : Int) - k).toNat < k1 → TT K ly 0 0 3 [(0, vR 73), (1, vI f), (2, vI 8), (3, vI n), (4, vI 1), (5, vI k)] [] w3_1 := by
    intro k1
    induction k1 with
    | zero => intro k w3_1 hT3_1 hF3_1 hk hk1; exact absurd hk1 (Nat.not_lt_zero _)
    | succ k1 ih1 =>
      intro k w3_1 hT3_1 hF3_1 hk hk1
      refine TT_iload hK 5 rfl dX12_work_3 ?_
      refine TT_iload_n hK rfl 3 rfl dX12_work_5 ?_
      refine TT_icmp_ge hK (tgt := 33) (irm (by omega) (by omega)) (irm (by omega) (by omega)) dX12_work_6 (by decide) (fun hb6_2 => ?_) (fun hb6_2 => ?_)
      · refine TT_iload hK 4 rfl dX12_work_33 ?_
        refine TT_if_eq hK (tgt := 46) (by decide) dX12_work_35 (by decide) (fun hb35_3 => ?_) (fun hb35_3 => ?_)
        · exact absurd hb35_3 (by decide)
        · refine TT_aload_n hK rfl 0 rfl dX12_work_38 ?_
          refine TT_iload_n hK rfl 3 rfl dX12_work_39 ?_
          refine iv_X12_142 hK (s_X12_backward_73 n w3_1 hT3_1 (by first | omega | (simp [up, setR] <;> omega))) (by decide) rfl ⟨by decide, by decide⟩ (by decide) rfl rfl (Nat.le_of_ble_eq_true rfl) ⟨by decide, by decide⟩ dX12_work_40 ?_
          intro r9 g40_4 hp9
          obtain ⟨⟨hT_4, hG_4⟩, hr9⟩ := hp9
          rw [hr9]
          have hF_4 : FRM [77, 78, 79] [] h g40_4 := FRM_tr hF3_1 hG_4 (by decide) (by decide)
          show TT K ly 0 0 43 [(0, vR 73), (1, vI f), (2, vI 8), (3, vI n), (4, vI 1), (5, vI k)] [] g40_4
          refine TT_goto hK (tgt := 51) dX12_work_43 (by decide) ?_
          refine TT_iconst hK dX12_work_51 ?_
          refine TT_istore hK (lv' := [(5, vI 0), (0, vR 73), (1, vI f), (2, vI 8), (3, vI n), (4, vI 1)]) (by decide) rfl dX12_work_52 ?_
          have L54_5 : ∀ (k5 : Nat) (k : Int) (w54_5 : Hp_), TY w54_5 → FRM [77, 78, 79] [] h w54_5 → (0 ≤ k ∧ k ≤ 8) → ((8 : Int) - k).toNat < k5 → TT K ly 0 0 54 [(0, vR 73), (1, vI f), (2, vI 8), (3, vI n), (4, vI 1), (5, vI k)] [] w54_5 := by
            intro k5
            induction k5 with
            | zero => intro k w54_5 hT54_5 hF54_5 hk hk5; exact absurd hk5 (Nat.not_lt_zero _)
            | succ k5 ih5 =>
              intro k w54_5 hT54_5 hF54_5 hk hk5
              refine TT_iload hK 5 rfl dX12_work_54 ?_
              refine TT_iload_n hK rfl 3 rfl dX12_work_56 ?_
              refine TT_icmp_ge hK (tgt := 84) (irm (by omega) (by omega)) (irm (by omega) (by omega)) dX12_work_57 (by decide) (fun hb57_6 => ?_) (fun hb57_6 => ?_)
              · refine TT_vret hK hQ ?_ dX12_work_84
                exact ⟨⟨hT54_5, hF54_5⟩, rfl⟩
              · refine TT_aload_n hK rfl 0 rfl dX12_work_60 ?_
                refine gf_X12_26 hK (by decide) rfl (q := 77) rfl rfl dX12_work_61 ?_
                refine TT_iload_n hK rfl 1 rfl dX12_work_64 ?_
                refine TT_iload_n hK rfl 2 rfl dX12_work_65 ?_
                refine TT_iload hK 5 rfl dX12_work_66 ?_
                refine TT_imul hK dX12_work_68 ?_
                refine TT_iadd hK dX12_work_69 ?_
                refine TT_aload_n hK rfl 0 rfl dX12_work_70 ?_
                refine gf_X12_32 hK (by decide) rfl (q := 79) rfl rfl dX12_work_71 ?_
                refine TT_iload hK 5 rfl dX12_work_74 ?_
                refine TT_iald hK (o := 79) (n := 8) (by decide) rfl (by first | omega | (simp [up, setR] <;> omega)) (by first | omega | (simp [up, setR] <;> omega)) (v := (w54_5 79) k) rfl dX12_work_76 ?_
                have r7 := ty_79 (i := k) (v := (w54_5 79) k) hT54_5 rfl (by omega) (by omega)
                refine TT_iast hK (o := 77) (n := 64) (by decide) rfl (by omega) (by omega) dX12_work_77 ?_
                refine TT_hp (h' := setO w54_5 77 (fup (w54_5 77) (f + (8 * k)) ((w54_5 79) k))) (up_can rfl rfl rfl) ?_
                have hT_8 : TY (setO w54_5 77 (fup (w54_5 77) (f + (8 * k)) ((w54_5 79) k))) := tu_77 hT54_5 (show up w54_5 77 (f + (8 * k)) ((w54_5 79) k) = (setO w54_5 77 (fup (w54_5 77) (f + (8 * k)) ((w54_5 79) k))) from up_can rfl rfl rfl) (by omega)
                have hF_8 : FRM [77, 78, 79] [] h (setO w54_5 77 (fup (w54_5 77) (f + (8 * k)) ((w54_5 79) k))) := FRM_up (show up w54_5 77 (f + (8 * k)) ((w54_5 79) k) = (setO w54_5 77 (fup (w54_5 77) (f + (8 * k)) ((w54_5 79) k))) from up_can rfl rfl rfl) hF54_5 (by decide) (by decide)
                refine TT_iinc hK (v := k + 1) (lv' := [(5, vI (k + 1)), (0, vR 73), (1, vI f), (2, vI 8), (3, vI n), (4, vI 1)]) 5 rfl rfl (by decide) rfl dX12_work_78 ?_
                refine TT_goto hK (tgt := 54) dX12_work_81 (by decide) ?_
                refine TT_sub [1, 2, 3, 4, 5, 0] rfl ?_
                exact ih5 (k + 1) (setO w54_5 77 (fup (w54_5 77) (f + (8 * k)) ((w54_5 79) k))) hT_8 hF_8 (by first | omega | (simp [up, setR] <;> omega)) (by first | omega | (simp [up, setR] <;> omega))
          refine TT_sub [1, 2, 3, 4, 5, 0] rfl ?_
          exact L54_5 ((((8 : Int) - 0).toNat) + 1) 0 g40_4 hT_4 hF_4 (by first | omega | (simp [up, setR] <;> omega)) (Nat.lt_succ_self _)
      · refine TT_aload_n hK rfl 0 rfl dX12_work_9 ?_
        refine gf_X12_29 hK (by decide) rfl (q := 78) rfl rfl dX12_work_10 ?_
        refine TT_iload hK 5 rfl dX12_work_13 ?_
        refine TT_aload_n hK rfl 0 rfl dX12_work_15 ?_
        refine gf_X12_26 hK (by decide) rfl (q := 77) rfl rfl dX12_work_16 ?_
        refine TT_iload_n hK rfl 1 rfl dX12_work_19 ?_
        refine TT_iload_n hK rfl 2 rfl dX12_work_20 ?_
        refine TT_iload hK 5 rfl dX12_work_21 ?_
        refine TT_imul hK dX12_work_23 ?_
        refine TT_iadd hK dX12_work_24 ?_
        refine TT_iald hK (o := 77) (n := 64) (by decide) rfl (by first | omega | (simp [up, setR] <;> omega)) (by first | omega | (simp [up, setR] <;> omega)) (v := (w3_1 77) (f + (8 * k))) rfl dX12_work_25 ?_
        have r9 := ty_77 (i := f + (8 * k)) (v := (w3_1 77) (f + (8 * k))) hT3_1 rfl (by omega) (by omega)
        refine TT_iast hK (o := 78) (n := 8) (by decide) rfl (by omega) (by omega) dX12_work_26 ?_
        refine TT_hp (h' := setO w3_1 78 (fup (w3_1 78) k ((w3_1 77) (f + (8 * k))))) (up_can rfl rfl rfl) ?_
        have hT_10 : TY (setO w3_1 78 (fup (w3_1 78) k ((w3_1 77) (f + (8 * k))))) := tu_78 hT3_1 (show up w3_1 78 k ((w3_1 77) (f + (8 * k))) = (setO w3_1 78 (fup (w3_1 78) k ((w3_1 77) (f + (8 * k))))) from up_can rfl rfl rfl) (by omega)
        have hF_10 : FRM [77, 78, 79] [] h (setO w3_1 78 (fup (w3_1 78) k ((w3_1 77) (f + (8 * k))))) := FRM_up (show up w3_1 78 k ((w3_1 77) (f + (8 * k))) = (setO w3_1 78 (fup (w3_1 78) k ((w3_1 77) (f + (8 * k))))) from up_can rfl rfl rfl) hF3_1 (by decide) (by decide)
        refine TT_iinc hK (v := k + 1) (lv' := [(5, vI (k + 1)), (0, vR 73), (1, vI f), (2, vI 8), (3, vI n), (4, vI 1)]) 5 rfl rfl (by decide) rfl dX12_work_27 ?_
        refine TT_goto hK (tgt := 3) dX12_work_30 (by decide) ?_
        refine TT_sub [1, 2, 3, 4, 5, 0] rfl ?_
        exact ih1 (k + 1) (setO w3_1 78 (fup (w3_1 78) k ((w3_1 77) (f + (8 * k))))) hT_10 hF_10 (by first | omega | (simp [up, setR] <;> omega)) (by first | omega | (simp [up, setR] <;> omega))
  refine TT_sub [1, 2, 3, 4, 5, 0] rfl ?_
  exact L3_1 ((((8 : Int) - 0).toNat) + 1) 0 h hT hF (by first | omega | (simp [up, setR] <;> omega)) (Nat.lt_succ_self _)
set_option maxRecDepth 20000 in
theorem s_work_1_0 (f n : Int) (h : Hp_) (hT : TY h) (hf : 0 ≤ f ∧ f ≤ 56) (hn : 0 ≤ n ∧ n ≤ 8) : Ctr yX12_work cX12_work 6 none (rmd 4) ly ly 0 0 [vR 73, vI f, vI 1, vI n, vI 0] h (fun r h' => (TY h' ∧ FRM [77, 78, 79] [] h h') ∧ r = none) := by
  refine Ctr_of (by decide) (Nat.le_of_ble_eq_true rfl) ⟨Nat.le_refl _, Nat.le_refl _⟩ (fun K hK hQ _ => ?_)
  show TT K ly 0 0 0 [(0, vR 73), (1, vI f), (2, vI 1), (3, vI n), (4, vI 0)] [] h
  have hF : FRM [77, 78, 79] [] h h := FRM_rf _ _ _
  refine TT_iconst hK dX12_work_0 ?_
  refine TT_istore hK (lv' := [(5, vI 0), (0, vR 73), (1, vI f), (2, vI 1), (3, vI n), (4, vI 0)]) (by decide) rfl dX12_work_1 ?_
  have L3_1 : ∀ (k1 : Nat) (k : Int) (w3_1 : Hp_), TY w3_1 → FRM [77, 78, 79] [] h w3_1 → (0 ≤ k ∧ k ≤ 8) → ((8 : Int) - k).toNat < k1 → TT K ly 0 0 3 [(0, vR 73), (1, vI f), (2, vI 1), (3, vI n), (4, vI 0), (5, vI k)] [] w3_1 := by
    intro k1
    induction k1 with
    | zero => intro k w3_1 hT3_1 hF3_1 hk hk1; exact absurd hk1 (Nat.not_lt_zero _)
    | succ k1 ih1 =>
      intro k w3_1 hT3_1 hF3_1 hk hk1
      refine TT_iload hK 5 rfl dX12_work_3 ?_
      refine TT_iload_n hK rfl 3 rfl dX12_work_5 ?_
      refine TT_icmp_ge hK (tgt := 33) (irm (by omega) (by omega)) (irm (by omega) (by omega)) dX12_work_6 (by decide) (fun hb6_2 => ?_) (fun hb6_2 => ?_)
      · refine TT_iload hK 4 rfl dX12_work_33 ?_
        refine TT_if_eq hK (tgt := 46) (by decide) dX12_work_35 (by decide) (fun hb35_3 => ?_) (fun hb35_3 => ?_)
        · refine TT_aload_n hK rfl 0 rfl dX12_work_46 ?_
          refine TT_iload_n hK rfl 3 rfl dX12_work_47 ?_
          refine iv_X12_146 hK (s_X12_forward_73 n w3_1 hT3_1 (by first | omega | (simp [up, setR] <;> omega))) (by decide) rfl ⟨by decide, by decide⟩ (by decide) rfl rfl (Nat.le_of_ble_eq_true rfl) ⟨by decide, by decide⟩ dX12_work_48 ?_
          intro r9 g48_4 hp9
          obtain ⟨⟨hT_4, hG_4⟩, hr9⟩ := hp9
          rw [hr9]
          have hF_4 : FRM [77, 78, 79] [] h g48_4 := FRM_tr hF3_1 hG_4 (by decide) (by decide)
          show TT K ly 0 0 51 [(0, vR 73), (1, vI f), (2, vI 1), (3, vI n), (4, vI 0), (5, vI k)] [] g48_4
          refine TT_iconst hK dX12_work_51 ?_
          refine TT_istore hK (lv' := [(5, vI 0), (0, vR 73), (1, vI f), (2, vI 1), (3, vI n), (4, vI 0)]) (by decide) rfl dX12_work_52 ?_
          have L54_5 : ∀ (k5 : Nat) (k : Int) (w54_5 : Hp_), TY w54_5 → FRM [77, 78, 79] [] h w54_5 → (0 ≤ k ∧ k ≤ 8) → ((8 : Int) - k).toNat < k5 → TT K ly 0 0 54 [(0, vR 73), (1, vI f), (2, vI 1), (3, vI n), (4, vI 0), (5, vI k)] [] w54_5 := by
            intro k5
            induction k5 with
            | zero => intro k w54_5 hT54_5 hF54_5 hk hk5; exact absurd hk5 (Nat.not_lt_zero _)
            | succ k5 ih5 =>
              intro k w54_5 hT54_5 hF54_5 hk hk5
              refine TT_iload hK 5 rfl dX12_work_54 ?_
              refine TT_iload_n hK rfl 3 rfl dX12_work_56 ?_
              refine TT_icmp_ge hK (tgt := 84) (irm (by omega) (by omega)) (irm (by omega) (by omega)) dX12_work_57 (by decide) (fun hb57_6 => ?_) (fun hb57_6 => ?_)
              · refine TT_vret hK hQ ?_ dX12_work_84
                exact ⟨⟨hT54_5, hF54_5⟩, rfl⟩
              · refine TT_aload_n hK rfl 0 rfl dX12_work_60 ?_
                refine gf_X12_26 hK (by decide) rfl (q := 77) rfl rfl dX12_work_61 ?_
                refine TT_iload_n hK rfl 1 rfl dX12_work_64 ?_
                refine TT_iload_n hK rfl 2 rfl dX12_work_65 ?_
                refine TT_iload hK 5 rfl dX12_work_66 ?_
                refine TT_imul hK dX12_work_68 ?_
                refine TT_iadd hK dX12_work_69 ?_
                refine TT_aload_n hK rfl 0 rfl dX12_work_70 ?_
                refine gf_X12_32 hK (by decide) rfl (q := 79) rfl rfl dX12_work_71 ?_
                refine TT_iload hK 5 rfl dX12_work_74 ?_
                refine TT_iald hK (o := 79) (n := 8) (by decide) rfl (by first | omega | (simp [up, setR] <;> omega)) (by first | omega | (simp [up, setR] <;> omega)) (v := (w54_5 79) k) rfl dX12_work_76 ?_
                have r7 := ty_79 (i := k) (v := (w54_5 79) k) hT54_5 rfl (by omega) (by omega)
                refine TT_iast hK (o := 77) (n := 64) (by decide) rfl (by omega) (by omega) dX12_work_77 ?_
                refine TT_hp (h' := setO w54_5 77 (fup (w54_5 77) (f + (1 * k)) ((w54_5 79) k))) (up_can rfl rfl rfl) ?_
                have hT_8 : TY (setO w54_5 77 (fup (w54_5 77) (f + (1 * k)) ((w54_5 79) k))) := tu_77 hT54_5 (show up w54_5 77 (f + (1 * k)) ((w54_5 79) k) = (setO w54_5 77 (fup (w54_5 77) (f + (1 * k)) ((w54_5 79) k))) from up_can rfl rfl rfl) (by omega)
                have hF_8 : FRM [77, 78, 79] [] h (setO w54_5 77 (fup (w54_5 77) (f + (1 * k)) ((w54_5 79) k))) := FRM_up (show up w54_5 77 (f + (1 * k)) ((w54_5 79) k) = (setO w54_5 77 (fup (w54_5 77) (f + (1 * k)) ((w54_5 79) k))) from up_can rfl rfl rfl) hF54_5 (by decide) (by decide)
                refine TT_iinc hK (v := k + 1) (lv' := [(5, vI (k + 1)), (0, vR 73), (1, vI f), (2, vI 1), (3, vI n), (4, vI 0)]) 5 rfl rfl (by decide) rfl dX12_work_78 ?_
                refine TT_goto hK (tgt := 54) dX12_work_81 (by decide) ?_
                refine TT_sub [1, 2, 3, 4, 5, 0] rfl ?_
                exact ih5 (k + 1) (setO w54_5 77 (fup (w54_5 77) (f + (1 * k)) ((w54_5 79) k))) hT_8 hF_8 (by first | omega | (simp [up, setR] <;> omega)) (by first | omega | (simp [up, setR] <;> omega))
          refine TT_sub [1, 2, 3, 4, 5, 0] rfl ?_
          exact L54_5 ((((8 : Int) - 0).toNat) + 1) 0 g48_4 hT_4 hF_4 (by first | omega | (simp [up, setR] <;> omega)) (Nat.lt_succ_self _)
        · exact absurd hb35_3 (by decide)
      · refine TT_aload_n hK rfl 0 rfl dX12_work_9 ?_
        refine gf_X12_29 hK (by decide) rfl (q := 78) rfl rfl dX12_work_10 ?_
        refine TT_iload hK 5 rfl dX12_work_13 ?_
        refine TT_aload_n hK rfl 0 rfl dX12_work_15 ?_
        refine gf_X12_26 hK (by decide) rfl (q := 77) rfl rfl dX12_work_16 ?_
        refine TT_iload_n hK rfl 1 rfl dX12_work_19 ?_
        refine TT_iload_n hK rfl 2 rfl dX12_work_20 ?_
        refine TT_iload hK 5 rfl dX12_work_21 ?_
        refine TT_imul hK dX12_work_23 ?_
        refine TT_iadd hK dX12_work_24 ?_
        refine TT_iald hK (o := 77) (n := 64) (by decide) rfl (by first | omega | (simp [up, setR] <;> omega)) (by first | omega | (simp [up, setR] <;> omega)) (v := (w3_1 77) (f + (1 * k))) rfl dX12_work_25 ?_
        have r9 := ty_77 (i := f + (1 * k)) (v := (w3_1 77) (f + (1 * k))) hT3_1 rfl (by omega) (by omega)
        refine TT_iast hK (o := 78) (n := 8) (by decide) rfl (by omega) (by omega) dX12_work_26 ?_
        refine TT_hp (h' := setO w3_1 78 (fup (w3_1 78) k ((w3_1 77) (f + (1 * k))))) (up_can rfl rfl rfl) ?_
        have hT_10 : TY (setO w3_1 78 (fup (w3_1 78) k ((w3_1 77) (f + (1 * k))))) := tu_78 hT3_1 (show up w3_1 78 k ((w3_1 77) (f + (1 * k))) = (setO w3_1 78 (fup (w3_1 78) k ((w3_1 77) (f + (1 * k))))) from up_can rfl rfl rfl) (by omega)
        have hF_10 : FRM [77, 78, 79] [] h (setO w3_1 78 (fup (w3_1 78) k ((w3_1 77) (f + (1 * k))))) := FRM_up (show up w3_1 78 k ((w3_1 77) (f + (1 * k))) = (setO w3_1 78 (fup (w3_1 78) k ((w3_1 77) (f + (1 * k))))) from up_can rfl rfl rfl) hF3_1 (by decide) (by decide)
        refine TT_iinc hK (v := k + 1) (lv' := [(5, vI (k + 1)), (0, vR 73), (1, vI f), (2, vI 1), (3, vI n), (4, vI 0)]) 5 rfl rfl (by decide) rfl dX12_work_27 ?_
        refine TT_goto hK (tgt := 3) dX12_work_30 (by decide) ?_
        refine TT_sub [1, 2, 3, 4, 5, 0] rfl ?_
        exact ih1 (k + 1) (setO w3_1 78 (fup (w3_1 78) k ((w3_1 77) (f + (1 * k))))) hT_10 hF_10 (by first | omega | (simp [up, setR] <;> omega)) (by first | omega | (simp [up, setR] <;> omega))
  refine TT_sub [1, 2, 3, 4, 5, 0] rfl ?_
  exact L3_1 ((((8 : Int) - 0).toNat) + 1) 0 h hT hF (by first | omega | (simp [up, setR] <;> omega)) (Nat.lt_succ_self _)
set_option maxRecDepth 20000 in
theorem s_work_1_1 (f n : Int) (h : Hp_) (hT : TY h) (hf : 0 ≤ f ∧ f ≤ 56) (hn : 0 ≤ n ∧ n ≤ 8) : Ctr yX12_work cX12_work 6 none (rmd 4) ly ly 0 0 [vR 73, vI f, vI 1, vI n, vI 1] h (fun r h' => (TY h' ∧ FRM [77, 78, 79] [] h h') ∧ r = none) := by
  refine Ctr_of (by decide) (Nat.le_of_ble_eq_true rfl) ⟨Nat.le_refl _, Nat.le_refl _⟩ (fun K hK hQ _ => ?_)
  show TT K ly 0 0 0 [(0, vR 73), (1, vI f), (2, vI 1), (3, vI n), (4, vI 1)] [] h
  have hF : FRM [77, 78, 79] [] h h := FRM_rf _ _ _
  refine TT_iconst hK dX12_work_0 ?_
  refine TT_istore hK (lv' := [(5, vI 0), (0, vR 73), (1, vI f), (2, vI 1), (3, vI n), (4, vI 1)]) (by decide) rfl dX12_work_1 ?_
  have L3_1 : ∀ (k1 : Nat) (k : Int) (w3_1 : Hp_), TY w3_1 → FRM [77, 78, 79] [] h w3_1 → (0 ≤ k ∧ k ≤ 8) → ((8 : Int) - k).toNat < k1 → TT K ly 0 0 3 [(0, vR 73), (1, vI f), (2, vI 1), (3, vI n), (4, vI 1), (5, vI k)] [] w3_1 := by
    intro k1
    induction k1 with
    | zero => intro k w3_1 hT3_1 hF3_1 hk hk1; exact absurd hk1 (Nat.not_lt_zero _)
    | succ k1 ih1 =>
      intro k w3_1 hT3_1 hF3_1 hk hk1
      refine TT_iload hK 5 rfl dX12_work_3 ?_
      refine TT_iload_n hK rfl 3 rfl dX12_work_5 ?_
      refine TT_icmp_ge hK (tgt := 33) (irm (by omega) (by omega)) (irm (by omega) (by omega)) dX12_work_6 (by decide) (fun hb6_2 => ?_) (fun hb6_2 => ?_)
      · refine TT_iload hK 4 rfl dX12_work_33 ?_
        refine TT_if_eq hK (tgt := 46) (by decide) dX12_work_35 (by decide) (fun hb35_3 => ?_) (fun hb35_3 => ?_)
        · exact absurd hb35_3 (by decide)
        · refine TT_aload_n hK rfl 0 rfl dX12_work_38 ?_
          refine TT_iload_n hK rfl 3 rfl dX12_work_39 ?_
          refine iv_X12_142 hK (s_X12_backward_73 n w3_1 hT3_1 (by first | omega | (simp [up, setR] <;> omega))) (by decide) rfl ⟨by decide, by decide⟩ (by decide) rfl rfl (Nat.le_of_ble_eq_true rfl) ⟨by decide, by decide⟩ dX12_work_40 ?_
          intro r9 g40_4 hp9
          obtain ⟨⟨hT_4, hG_4⟩, hr9⟩ := hp9
          rw [hr9]
          have hF_4 : FRM [77, 78, 79] [] h g40_4 := FRM_tr hF3_1 hG_4 (by decide) (by decide)
          show TT K ly 0 0 43 [(0, vR 73), (1, vI f), (2, vI 1), (3, vI n), (4, vI 1), (5, vI k)] [] g40_4
          refine TT_goto hK (tgt := 51) dX12_work_43 (by decide) ?_
          refine TT_iconst hK dX12_work_51 ?_
          refine TT_istore hK (lv' := [(5, vI 0), (0, vR 73), (1, vI f), (2, vI 1), (3, vI n), (4, vI 1)]) (by decide) rfl dX12_work_52 ?_
          have L54_5 : ∀ (k5 : Nat) (k : Int) (w54_5 : Hp_), TY w54_5 → FRM [77, 78, 79] [] h w54_5 → (0 ≤ k ∧ k ≤ 8) → ((8 : Int) - k).toNat < k5 → TT K ly 0 0 54 [(0, vR 73), (1, vI f), (2, vI 1), (3, vI n), (4, vI 1), (5, vI k)] [] w54_5 := by
            intro k5
            induction k5 with
            | zero => intro k w54_5 hT54_5 hF54_5 hk hk5; exact absurd hk5 (Nat.not_lt_zero _)
            | succ k5 ih5 =>
              intro k w54_5 hT54_5 hF54_5 hk hk5
              refine TT_iload hK 5 rfl dX12_work_54 ?_
              refine TT_iload_n hK rfl 3 rfl dX12_work_56 ?_
              refine TT_icmp_ge hK (tgt := 84) (irm (by omega) (by omega)) (irm (by omega) (by omega)) dX12_work_57 (by decide) (fun hb57_6 => ?_) (fun hb57_6 => ?_)
              · refine TT_vret hK hQ ?_ dX12_work_84
                exact ⟨⟨hT54_5, hF54_5⟩, rfl⟩
              · refine TT_aload_n hK rfl 0 rfl dX12_work_60 ?_
                refine gf_X12_26 hK (by decide) rfl (q := 77) rfl rfl dX12_work_61 ?_
                refine TT_iload_n hK rfl 1 rfl dX12_work_64 ?_
                refine TT_iload_n hK rfl 2 rfl dX12_work_65 ?_
                refine TT_iload hK 5 rfl dX12_work_66 ?_
                refine TT_imul hK dX12_work_68 ?_
                refine TT_iadd hK dX12_work_69 ?_
                refine TT_aload_n hK rfl 0 rfl dX12_work_70 ?_
                refine gf_X12_32 hK (by decide) rfl (q := 79) rfl rfl dX12_work_71 ?_
                refine TT_iload hK 5 rfl dX12_work_74 ?_
                refine TT_iald hK (o := 79) (n := 8) (by decide) rfl (by first | omega | (simp [up, setR] <;> omega)) (by first | omega | (simp [up, setR] <;> omega)) (v := (w54_5 79) k) rfl dX12_work_76 ?_
                have r7 := ty_79 (i := k) (v := (w54_5 79) k) hT54_5 rfl (by omega) (by omega)
                refine TT_iast hK (o := 77) (n := 64) (by decide) rfl (by omega) (by omega) dX12_work_77 ?_
                refine TT_hp (h' := setO w54_5 77 (fup (w54_5 77) (f + (1 * k)) ((w54_5 79) k))) (up_can rfl rfl rfl) ?_
                have hT_8 : TY (setO w54_5 77 (fup (w54_5 77) (f + (1 * k)) ((w54_5 79) k))) := tu_77 hT54_5 (show up w54_5 77 (f + (1 * k)) ((w54_5 79) k) = (setO w54_5 77 (fup (w54_5 77) (f + (1 * k)) ((w54_5 79) k))) from up_can rfl rfl rfl) (by omega)
                have hF_8 : FRM [77, 78, 79] [] h (setO w54_5 77 (fup (w54_5 77) (f + (1 * k)) ((w54_5 79) k))) := FRM_up (show up w54_5 77 (f + (1 * k)) ((w54_5 79) k) = (setO w54_5 77 (fup (w54_5 77) (f + (1 * k)) ((w54_5 79) k))) from up_can rfl rfl rfl) hF54_5 (by decide) (by decide)
                refine TT_iinc hK (v := k + 1) (lv' := [(5, vI (k + 1)), (0, vR 73), (1, vI f), (2, vI 1), (3, vI n), (4, vI 1)]) 5 rfl rfl (by decide) rfl dX12_work_78 ?_
                refine TT_goto hK (tgt := 54) dX12_work_81 (by decide) ?_
                refine TT_sub [1, 2, 3, 4, 5, 0] rfl ?_
                exact ih5 (k + 1) (setO w54_5 77 (fup (w54_5 77) (f + (1 * k)) ((w54_5 79) k))) hT_8 hF_8 (by first | omega | (simp [up, setR] <;> omega)) (by first | omega | (simp [up, setR] <;> omega))
          refine TT_sub [1, 2, 3, 4, 5, 0] rfl ?_
          exact L54_5 ((((8 : Int) - 0).toNat) + 1) 0 g40_4 hT_4 hF_4 (by first | omega | (simp [up, setR] <;> omega)) (Nat.lt_succ_self _)
      · refine TT_aload_n hK rfl 0 rfl dX12_work_9 ?_
        refine gf_X12_29 hK (by decide) rfl (q := 78) rfl rfl dX12_work_10 ?_
        refine TT_iload hK 5 rfl dX12_work_13 ?_
        refine TT_aload_n hK rfl 0 rfl dX12_work_15 ?_
        refine gf_X12_26 hK (by decide) rfl (q := 77) rfl rfl dX12_work_16 ?_
        refine TT_iload_n hK rfl 1 rfl dX12_work_19 ?_
        refine TT_iload_n hK rfl 2 rfl dX12_work_20 ?_
        refine TT_iload hK 5 rfl dX12_work_21 ?_
        refine TT_imul hK dX12_work_23 ?_
        refine TT_iadd hK dX12_work_24 ?_
        refine TT_iald hK (o := 77) (n := 64) (by decide) rfl (by first | omega | (simp [up, setR] <;> omega)) (by first | omega | (simp [up, setR] <;> omega)) (v := (w3_1 77) (f + (1 * k))) rfl dX12_work_25 ?_
        have r9 := ty_77 (i := f + (1 * k)) (v := (w3_1 77) (f + (1 * k))) hT3_1 rfl (by omega) (by omega)
        refine TT_iast hK (o := 78) (n := 8) (by decide) rfl (by omega) (by omega) dX12_work_26 ?_
        refine TT_hp (h' := setO w3_1 78 (fup (w3_1 78) k ((w3_1 77) (f + (1 * k))))) (up_can rfl rfl rfl) ?_
        have hT_10 : TY (setO w3_1 78 (fup (w3_1 78) k ((w3_1 77) (f + (1 * k))))) := tu_78 hT3_1 (show up w3_1 78 k ((w3_1 77) (f + (1 * k))) = (setO w3_1 78 (fup (w3_1 78) k ((w3_1 77) (f + (1 * k))))) from up_can rfl rfl rfl) (by omega)
        have hF_10 : FRM [77, 78, 79] [] h (setO w3_1 78 (fup (w3_1 78) k ((w3_1 77) (f + (1 * k))))) := FRM_up (show up w3_1 78 k ((w3_1 77) (f + (1 * k))) = (setO w3_1 78 (fup (w3_1 78) k ((w3_1 77) (f + (1 * k))))) from up_can rfl rfl rfl) hF3_1 (by decide) (by decide)
        refine TT_iinc hK (v := k + 1) (lv' := [(5, vI (k + 1)), (0, vR 73), (1, vI f), (2, vI 1), (3, vI n), (4, vI 1)]) 5 rfl rfl (by decide) rfl dX12_work_27 ?_
        refine TT_goto hK (tgt := 3) dX12_work_30 (by decide) ?_
        refine TT_sub [1, 2, 3, 4, 5, 0] rfl ?_
        exact ih1 (k + 1) (setO w3_1 78 (fup (w3_1 78) k ((w3_1 77) (f + (1 * k))))) hT_10 hF_10 (by first | omega | (simp [up, setR] <;> omega)) (by first | omega | (simp [up, setR] <;> omega))
  refine TT_sub [1, 2, 3, 4, 5, 0] rfl ?_
  exact L3_1 ((((8 : Int) - 0).toNat) + 1) 0 h hT hF (by first | omega | (simp [up, setR] <;> omega)) (Nat.lt_succ_self _)
set_option maxRecDepth 20000 in
theorem s_columns_0 (w e : Int) (h : Hp_) (hT : TY h) (hw : 0 ≤ w ∧ w ≤ 8) (he : 0 ≤ e ∧ e ≤ 8) : Ctr yX12_columns cX12_columns 5 none (rmd 5) ly ly 0 0 [vR 73, vI w, vI e, vI 0] h (fun r h' => (TY h' ∧ FRM [77, 78, 79] [] h h') ∧ r = none) := by
  refine Ctr_of (by decide) (Nat.le_of_ble_eq_true rfl) ⟨Nat.le_refl _, Nat.le_refl _⟩ (fun K hK hQ _ => ?_)
  show TT K ly 0 0 0 [(0, vR 73), (1, vI w), (2, vI e), (3, vI 0)] [] h
  have hF : FRM [77, 78, 79] [] h h := FRM_rf _ _ _
  refine TT_iconst hK dX12_columns_0 ?_
  refine TT_istore hK (lv' := [(4, vI 0), (0, vR 73), (1, vI w), (2, vI e), (3, vI 0)]) (by decide) rfl dX12_columns_1 ?_
  have L3_1 : ∀ (k1 : Nat) (i : Int) (w3_1 : Hp_), TY w3_1 → FRM [77, 78, 79] [] h w3_1 → (0 ≤ i ∧ i ≤ 8) → ((8 : Int) - i).toNat < k1 → TT K ly 0 0 3 [(0, vR 73), (1, vI w), (2, vI e), (3, vI 0), (4, vI i)] [] w3_1 := by
    intro k1
    induction k1 with
    | zero => intro i w3_1 hT3_1 hF3_1 hi hk1; exact absurd hk1 (Nat.not_lt_zero _)
    | succ k1 ih1 =>
      intro i w3_1 hT3_1 hF3_1 hi hk1
      refine TT_iload hK 4 rfl dX12_columns_3 ?_
      refine TT_iload_n hK rfl 1 rfl dX12_columns_5 ?_
      refine TT_icmp_ge hK (tgt := 25) (irm (by omega) (by omega)) (irm (by omega) (by omega)) dX12_columns_6 (by decide) (fun hb6_2 => ?_) (fun hb6_2 => ?_)
      · refine TT_vret hK hQ ?_ dX12_columns_25
        exact ⟨⟨hT3_1, hF3_1⟩, rfl⟩
      · refine TT_aload_n hK rfl 0 rfl dX12_columns_9 ?_
        refine TT_iload hK 4 rfl dX12_columns_10 ?_
        refine TT_bipush hK (by decide) dX12_columns_12 ?_
        refine TT_iload_n hK rfl 2 rfl dX12_columns_14 ?_
        refine TT_iload_n hK rfl 3 rfl dX12_columns_15 ?_
        refine iv_X12_149 hK (s_work_8_0 i e w3_1 hT3_1 (by first | omega | (simp [up, setR] <;> omega)) (by first | omega | (simp [up, setR] <;> omega))) (by decide) rfl ⟨by decide, by decide⟩ (by decide) rfl rfl (Nat.le_of_ble_eq_true rfl) ⟨by decide, by decide⟩ dX12_columns_16 ?_
        intro r9 g16_3 hp9
        obtain ⟨⟨hT_3, hG_3⟩, hr9⟩ := hp9
        rw [hr9]
        have hF_3 : FRM [77, 78, 79] [] h g16_3 := FRM_tr hF3_1 hG_3 (by decide) (by decide)
        show TT K ly 0 0 19 [(0, vR 73), (1, vI w), (2, vI e), (3, vI 0), (4, vI i)] [] g16_3
        refine TT_iinc hK (v := i + 1) (lv' := [(4, vI (i + 1)), (0, vR 73), (1, vI w), (2, vI e), (3, vI 0)]) 4 rfl rfl (by decide) rfl dX12_columns_19 ?_
        refine TT_goto hK (tgt := 3) dX12_columns_22 (by decide) ?_
        refine TT_sub [1, 2, 3, 4, 0] rfl ?_
        exact ih1 (i + 1) g16_3 hT_3 hF_3 (by first | omega | (simp [up, setR] <;> omega)) (by first | omega | (simp [up, setR] <;> omega))
  refine TT_sub [1, 2, 3, 4, 0] rfl ?_
  exact L3_1 ((((8 : Int) - 0).toNat) + 1) 0 h hT hF (by first | omega | (simp [up, setR] <;> omega)) (Nat.lt_succ_self _)
set_option maxRecDepth 20000 in
theorem s_rows_0 (w e : Int) (h : Hp_) (hT : TY h) (hw : 0 ≤ w ∧ w ≤ 8) (he : 0 ≤ e ∧ e ≤ 8) : Ctr yX12_rows cX12_rows 5 none (rmd 5) ly ly 0 0 [vR 73, vI w, vI e, vI 0] h (fun r h' => (TY h' ∧ FRM [77, 78, 79] [] h h') ∧ r = none) := by
  refine Ctr_of (by decide) (Nat.le_of_ble_eq_true rfl) ⟨Nat.le_refl _, Nat.le_refl _⟩ (fun K hK hQ _ => ?_)
  show TT K ly 0 0 0 [(0, vR 73), (1, vI w), (2, vI e), (3, vI 0)] [] h
  have hF : FRM [77, 78, 79] [] h h := FRM_rf _ _ _
  refine TT_iconst hK dX12_rows_0 ?_
  refine TT_istore hK (lv' := [(4, vI 0), (0, vR 73), (1, vI w), (2, vI e), (3, vI 0)]) (by decide) rfl dX12_rows_1 ?_
  have L3_1 : ∀ (k1 : Nat) (i : Int) (w3_1 : Hp_), TY w3_1 → FRM [77, 78, 79] [] h w3_1 → (0 ≤ i ∧ i ≤ 8) → ((8 : Int) - i).toNat < k1 → TT K ly 0 0 3 [(0, vR 73), (1, vI w), (2, vI e), (3, vI 0), (4, vI i)] [] w3_1 := by
    intro k1
    induction k1 with
    | zero => intro i w3_1 hT3_1 hF3_1 hi hk1; exact absurd hk1 (Nat.not_lt_zero _)
    | succ k1 ih1 =>
      intro i w3_1 hT3_1 hF3_1 hi hk1
      refine TT_iload hK 4 rfl dX12_rows_3 ?_
      refine TT_iload_n hK rfl 2 rfl dX12_rows_5 ?_
      refine TT_icmp_ge hK (tgt := 27) (irm (by omega) (by omega)) (irm (by omega) (by omega)) dX12_rows_6 (by decide) (fun hb6_2 => ?_) (fun hb6_2 => ?_)
      · refine TT_vret hK hQ ?_ dX12_rows_27
        exact ⟨⟨hT3_1, hF3_1⟩, rfl⟩
      · refine TT_aload_n hK rfl 0 rfl dX12_rows_9 ?_
        refine TT_bipush hK (by decide) dX12_rows_10 ?_
        refine TT_iload hK 4 rfl dX12_rows_12 ?_
        refine TT_imul hK dX12_rows_14 ?_
        refine TT_iconst hK dX12_rows_15 ?_
        refine TT_iload_n hK rfl 1 rfl dX12_rows_16 ?_
        refine TT_iload_n hK rfl 3 rfl dX12_rows_17 ?_
        refine iv_X12_149 hK (s_work_1_0 (8 * i) w w3_1 hT3_1 (by first | omega | (simp [up, setR] <;> omega)) (by first | omega | (simp [up, setR] <;> omega))) (by decide) rfl ⟨by decide, by decide⟩ (by decide) rfl rfl (Nat.le_of_ble_eq_true rfl) ⟨by decide, by decide⟩ dX12_rows_18 ?_
        intro r9 g18_3 hp9
        obtain ⟨⟨hT_3, hG_3⟩, hr9⟩ := hp9
        rw [hr9]
        have hF_3 : FRM [77, 78, 79] [] h g18_3 := FRM_tr hF3_1 hG_3 (by decide) (by decide)
        show TT K ly 0 0 21 [(0, vR 73), (1, vI w), (2, vI e), (3, vI 0), (4, vI i)] [] g18_3
        refine TT_iinc hK (v := i + 1) (lv' := [(4, vI (i + 1)), (0, vR 73), (1, vI w), (2, vI e), (3, vI 0)]) 4 rfl rfl (by decide) rfl dX12_rows_21 ?_
        refine TT_goto hK (tgt := 3) dX12_rows_24 (by decide) ?_
        refine TT_sub [1, 2, 3, 4, 0] rfl ?_
        exact ih1 (i + 1) g18_3 hT_3 hF_3 (by first | omega | (simp [up, setR] <;> omega)) (by first | omega | (simp [up, setR] <;> omega))
  refine TT_sub [1, 2, 3, 4, 0] rfl ?_
  exact L3_1 ((((8 : Int) - 0).toNat) + 1) 0 h hT hF (by first | omega | (simp [up, setR] <;> omega)) (Nat.lt_succ_self _)
set_option maxRecDepth 20000 in
theorem s_columns_1 (w e : Int) (h : Hp_) (hT : TY h) (hw : 0 ≤ w ∧ w ≤ 8) (he : 0 ≤ e ∧ e ≤ 8) : Ctr yX12_columns cX12_columns 5 none (rmd 5) ly ly 0 0 [vR 73, vI w, vI e, vI 1] h (fun r h' => (TY h' ∧ FRM [77, 78, 79] [] h h') ∧ r = none) := by
  refine Ctr_of (by decide) (Nat.le_of_ble_eq_true rfl) ⟨Nat.le_refl _, Nat.le_refl _⟩ (fun K hK hQ _ => ?_)
  show TT K ly 0 0 0 [(0, vR 73), (1, vI w), (2, vI e), (3, vI 1)] [] h
  have hF : FRM [77, 78, 79] [] h h := FRM_rf _ _ _
  refine TT_iconst hK dX12_columns_0 ?_
  refine TT_istore hK (lv' := [(4, vI 0), (0, vR 73), (1, vI w), (2, vI e), (3, vI 1)]) (by decide) rfl dX12_columns_1 ?_
  have L3_1 : ∀ (k1 : Nat) (i : Int) (w3_1 : Hp_), TY w3_1 → FRM [77, 78, 79] [] h w3_1 → (0 ≤ i ∧ i ≤ 8) → ((8 : Int) - i).toNat < k1 → TT K ly 0 0 3 [(0, vR 73), (1, vI w), (2, vI e), (3, vI 1), (4, vI i)] [] w3_1 := by
    intro k1
    induction k1 with
    | zero => intro i w3_1 hT3_1 hF3_1 hi hk1; exact absurd hk1 (Nat.not_lt_zero _)
    | succ k1 ih1 =>
      intro i w3_1 hT3_1 hF3_1 hi hk1
      refine TT_iload hK 4 rfl dX12_columns_3 ?_
      refine TT_iload_n hK rfl 1 rfl dX12_columns_5 ?_
      refine TT_icmp_ge hK (tgt := 25) (irm (by omega) (by omega)) (irm (by omega) (by omega)) dX12_columns_6 (by decide) (fun hb6_2 => ?_) (fun hb6_2 => ?_)
      · refine TT_vret hK hQ ?_ dX12_columns_25
        exact ⟨⟨hT3_1, hF3_1⟩, rfl⟩
      · refine TT_aload_n hK rfl 0 rfl dX12_columns_9 ?_
        refine TT_iload hK 4 rfl dX12_columns_10 ?_
        refine TT_bipush hK (by decide) dX12_columns_12 ?_
        refine TT_iload_n hK rfl 2 rfl dX12_columns_14 ?_
        refine TT_iload_n hK rfl 3 rfl dX12_columns_15 ?_
        refine iv_X12_149 hK (s_work_8_1 i e w3_1 hT3_1 (by first | omega | (simp [up, setR] <;> omega)) (by first | omega | (simp [up, setR] <;> omega))) (by decide) rfl ⟨by decide, by decide⟩ (by decide) rfl rfl (Nat.le_of_ble_eq_true rfl) ⟨by decide, by decide⟩ dX12_columns_16 ?_
        intro r9 g16_3 hp9
        obtain ⟨⟨hT_3, hG_3⟩, hr9⟩ := hp9
        rw [hr9]
        have hF_3 : FRM [77, 78, 79] [] h g16_3 := FRM_tr hF3_1 hG_3 (by decide) (by decide)
        show TT K ly 0 0 19 [(0, vR 73), (1, vI w), (2, vI e), (3, vI 1), (4, vI i)] [] g16_3
        refine TT_iinc hK (v := i + 1) (lv' := [(4, vI (i + 1)), (0, vR 73), (1, vI w), (2, vI e), (3, vI 1)]) 4 rfl rfl (by decide) rfl dX12_columns_19 ?_
        refine TT_goto hK (tgt := 3) dX12_columns_22 (by decide) ?_
        refine TT_sub [1, 2, 3, 4, 0] rfl ?_
        exact ih1 (i + 1) g16_3 hT_3 hF_3 (by first | omega | (simp [up, setR] <;> omega)) (by first | omega | (simp [up, setR] <;> omega))
  refine TT_sub [1, 2, 3, 4, 0] rfl ?_
  exact L3_1 ((((8 : Int) - 0).toNat) + 1) 0 h hT hF (by first | omega | (simp [up, setR] <;> omega)) (Nat.lt_succ_self _)
set_option maxRecDepth 20000 in
theorem s_rows_1 (w e : Int) (h : Hp_) (hT : TY h) (hw : 0 ≤ w ∧ w ≤ 8) (he : 0 ≤ e ∧ e ≤ 8) : Ctr yX12_rows cX12_rows 5 none (rmd 5) ly ly 0 0 [vR 73, vI w, vI e, vI 1] h (fun r h' => (TY h' ∧ FRM [77, 78, 79] [] h h') ∧ r = none) := by
  refine Ctr_of (by decide) (Nat.le_of_ble_eq_true rfl) ⟨Nat.le_refl _, Nat.le_refl _⟩ (fun K hK hQ _ => ?_)
  show TT K ly 0 0 0 [(0, vR 73), (1, vI w), (2, vI e), (3, vI 1)] [] h
  have hF : FRM [77, 78, 79] [] h h := FRM_rf _ _ _
  refine TT_iconst hK dX12_rows_0 ?_
  refine TT_istore hK (lv' := [(4, vI 0), (0, vR 73), (1, vI w), (2, vI e), (3, vI 1)]) (by decide) rfl dX12_rows_1 ?_
  have L3_1 : ∀ (k1 : Nat) (i : Int) (w3_1 : Hp_), TY w3_1 → FRM [77, 78, 79] [] h w3_1 → (0 ≤ i ∧ i ≤ 8) → ((8 : Int) - i).toNat < k1 → TT K ly 0 0 3 [(0, vR 73), (1, vI w), (2, vI e), (3, vI 1), (4, vI i)] [] w3_1 := by
    intro k1
    induction k1 with
    | zero => intro i w3_1 hT3_1 hF3_1 hi hk1; exact absurd hk1 (Nat.not_lt_zero _)
    | succ k1 ih1 =>
      intro i w3_1 hT3_1 hF3_1 hi hk1
      refine TT_iload hK 4 rfl dX12_rows_3 ?_
      refine TT_iload_n hK rfl 2 rfl dX12_rows_5 ?_
      refine TT_icmp_ge hK (tgt := 27) (irm (by omega) (by omega)) (irm (by omega) (by omega)) dX12_rows_6 (by decide) (fun hb6_2 => ?_) (fun hb6_2 => ?_)
      · refine TT_vret hK hQ ?_ dX12_rows_27
        exact ⟨⟨hT3_1, hF3_1⟩, rfl⟩
      · refine TT_aload_n hK rfl 0 rfl dX12_rows_9 ?_
        refine TT_bipush hK (by decide) dX12_rows_10 ?_
        refine TT_iload hK 4 rfl dX12_rows_12 ?_
        refine TT_imul hK dX12_rows_14 ?_
        refine TT_iconst hK dX12_rows_15 ?_
        refine TT_iload_n hK rfl 1 rfl dX12_rows_16 ?_
        refine TT_iload_n hK rfl 3 rfl dX12_rows_17 ?_
        refine iv_X12_149 hK (s_work_1_1 (8 * i) w w3_1 hT3_1 (by first | omega | (simp [up, setR] <;> omega)) (by first | omega | (simp [up, setR] <;> omega))) (by decide) rfl ⟨by decide, by decide⟩ (by decide) rfl rfl (Nat.le_of_ble_eq_true rfl) ⟨by decide, by decide⟩ dX12_rows_18 ?_
        intro r9 g18_3 hp9
        obtain ⟨⟨hT_3, hG_3⟩, hr9⟩ := hp9
        rw [hr9]
        have hF_3 : FRM [77, 78, 79] [] h g18_3 := FRM_tr hF3_1 hG_3 (by decide) (by decide)
        show TT K ly 0 0 21 [(0, vR 73), (1, vI w), (2, vI e), (3, vI 1), (4, vI i)] [] g18_3
        refine TT_iinc hK (v := i + 1) (lv' := [(4, vI (i + 1)), (0, vR 73), (1, vI w), (2, vI e), (3, vI 1)]) 4 rfl rfl (by decide) rfl dX12_rows_21 ?_
        refine TT_goto hK (tgt := 3) dX12_rows_24 (by decide) ?_
        refine TT_sub [1, 2, 3, 4, 0] rfl ?_
        exact ih1 (i + 1) g18_3 hT_3 hF_3 (by first | omega | (simp [up, setR] <;> omega)) (by first | omega | (simp [up, setR] <;> omega))
  refine TT_sub [1, 2, 3, 4, 0] rfl ?_
  exact L3_1 ((((8 : Int) - 0).toNat) + 1) 0 h hT hF (by first | omega | (simp [up, setR] <;> omega)) (Nat.lt_succ_self _)
set_option maxRecDepth 20000 in
theorem s_X12_left (n l : Int) (h : Hp_) (hT : TY h) (hn : 0 ≤ n ∧ n ≤ 8) (hl : 0 ≤ l ∧ l ≤ 4) : Ctr yX12_left cX12_left 2 (some .int) (rmd 0) ly ly 0 0 [vI n, vI l] h (fun r h' => (TY h' ∧ FRM [] [] h h') ∧ ∃ z : Int, r = some (vI z) ∧ (0 ≤ z ∧ z ≤ 8) ∧ (SD4 n l z)) := by
  refine Ctr_of (by decide) (Nat.le_of_ble_eq_true rfl) ⟨Nat.le_refl _, Nat.le_refl _⟩ (fun K hK hQ _ => ?_)
  show TT K ly 0 0 0 [(0, vI n), (1, vI l)] [] h
  have hF : FRM [] [] h h := FRM_rf _ _ _
  refine TT_iload_n hK rfl 0 rfl dX12_left_0 ?_
  refine TT_iconst hK dX12_left_1 ?_
  refine TT_iload_n hK rfl 1 rfl dX12_left_2 ?_
  refine TT_ishl hK (by omega) (by omega) dX12_left_3 ?_
  refine TT_nmI (fun p9 hp9 => ?_)
  refine TT_iadd hK dX12_left_4 ?_
  have k8 := sdP4 hl hp9
  refine TT_iconst hK dX12_left_5 ?_
  refine TT_isub hK dX12_left_6 ?_
  refine TT_iload_n hK rfl 1 rfl dX12_left_7 ?_
  refine TT_ishr hK (irm (by omega) (by omega)) (by omega) (by omega) dX12_left_8 ?_
  refine TT_nmI (fun z9 hz9 => ?_)
  refine TT_iret hK hQ ?_ dX12_left_9
  exact ⟨⟨hT, hF⟩, z9, rfl, (by have k9 := sdA4 hn hl hp9 hz9; omega), (by exact (sdA4 hn hl hp9 hz9).1)⟩
set_option maxRecDepth 20000 in
theorem s_X12_beBand_73 (b w e k : Int) (h : Hp_) (hT : TY h) (hb : 0 ≤ b ∧ b ≤ 19) (hw : 0 ≤ w ∧ w ≤ 8) (he : 0 ≤ e ∧ e ≤ 8) (hk : 0 ≤ k ∧ k ≤ 2) : Ctr yX12_beBand cX12_beBand 6 none (rmd 0) ly ly 0 0 [vR 73, vI b, vI w, vI e, vI k] h (fun r h' => (TY h' ∧ FRM [80, 81, 82, 83, 84, 85, 86, 87, 88] [] h h') ∧ r = none) := by
  refine Ctr_of (by decide) (Nat.le_of_ble_eq_true rfl) ⟨Nat.le_refl _, Nat.le_refl _⟩ (fun K hK hQ _ => ?_)
  show TT K ly 0 0 0 [(0, vR 73), (1, vI b), (2, vI w), (3, vI e), (4, vI k)] [] h
  have hF : FRM [80, 81, 82, 83, 84, 85, 86, 87, 88] [] h h := FRM_rf _ _ _
  refine TT_aload_n hK rfl 0 rfl dX12_beBand_0 ?_
  refine gf_X12_35 hK (by decide) rfl (q := 80) rfl rfl dX12_beBand_1 ?_
  refine TT_iload_n hK rfl 1 rfl dX12_beBand_4 ?_
  refine TT_iload_n hK rfl 2 rfl dX12_beBand_5 ?_
  refine TT_iast hK (o := 80) (n := 20) (by decide) rfl (by omega) (by omega) dX12_beBand_6 ?_
  refine TT_hp (h' := setO h 80 (fup (h 80) b w)) (up_can rfl rfl rfl) ?_
  have hT_1 : TY (setO h 80 (fup (h 80) b w)) := tu_80 hT (show up h 80 b w = (setO h 80 (fup (h 80) b w)) from up_can rfl rfl rfl) (by omega)
  have hF_1 : FRM [80, 81, 82, 83, 84, 85, 86, 87, 88] [] h (setO h 80 (fup (h 80) b w)) := FRM_up (show up h 80 b w = (setO h 80 (fup (h 80) b w)) from up_can rfl rfl rfl) hF (by decide) (by decide)
  refine TT_aload_n hK rfl 0 rfl dX12_beBand_7 ?_
  refine gf_X12_38 hK (by decide) rfl (q := 81) rfl rfl dX12_beBand_8 ?_
  refine TT_iload_n hK rfl 1 rfl dX12_beBand_11 ?_
  refine TT_iload_n hK rfl 3 rfl dX12_beBand_12 ?_
  refine TT_iast hK (o := 81) (n := 20) (by decide) rfl (by omega) (by omega) dX12_beBand_13 ?_
  refine TT_hp (h' := setO (setO h 80 (fup (h 80) b w)) 81 (fup (h 81) b e)) (up_can (sOf_ne _ _ (by decide)) rfl rfl) ?_
  have hT_2 : TY (setO (setO h 80 (fup (h 80) b w)) 81 (fup (h 81) b e)) := tu_81 hT_1 (show up (setO h 80 (fup (h 80) b w)) 81 b e = (setO (setO h 80 (fup (h 80) b w)) 81 (fup (h 81) b e)) from up_can (sOf_ne _ _ (by decide)) rfl rfl) (by omega)
  have hF_2 : FRM [80, 81, 82, 83, 84, 85, 86, 87, 88] [] h (setO (setO h 80 (fup (h 80) b w)) 81 (fup (h 81) b e)) := FRM_up (show up (setO h 80 (fup (h 80) b w)) 81 b e = (setO (setO h 80 (fup (h 80) b w)) 81 (fup (h 81) b e)) from up_can (sOf_ne _ _ (by decide)) rfl rfl) hF_1 (by decide) (by decide)
  refine TT_aload_n hK rfl 0 rfl dX12_beBand_14 ?_
  refine gf_X12_41 hK (by decide) rfl (q := 82) rfl rfl dX12_beBand_15 ?_
  refine TT_iload_n hK rfl 1 rfl dX12_beBand_18 ?_
  refine TT_iload hK 4 rfl dX12_beBand_19 ?_
  refine TT_iast hK (o := 82) (n := 20) (by decide) rfl (by omega) (by omega) dX12_beBand_21 ?_
  refine TT_hp (h' := setO (setO (setO h 80 (fup (h 80) b w)) 81 (fup (h 81) b e)) 82 (fup (h 82) b k)) (up_can ((sOf_ne _ _ (by decide)).trans (sOf_ne _ _ (by decide))) rfl rfl) ?_
  have hT_3 : TY (setO (setO (setO h 80 (fup (h 80) b w)) 81 (fup (h 81) b e)) 82 (fup (h 82) b k)) := tu_82 hT_2 (show up (setO (setO h 80 (fup (h 80) b w)) 81 (fup (h 81) b e)) 82 b k = (setO (setO (setO h 80 (fup (h 80) b w)) 81 (fup (h 81) b e)) 82 (fup (h 82) b k)) from up_can ((sOf_ne _ _ (by decide)).trans (sOf_ne _ _ (by decide))) rfl rfl) (by omega)
  have hF_3 : FRM [80, 81, 82, 83, 84, 85, 86, 87, 88] [] h (setO (setO (setO h 80 (fup (h 80) b w)) 81 (fup (h 81) b e)) 82 (fup (h 82) b k)) := FRM_up (show up (setO (setO h 80 (fup (h 80) b w)) 81 (fup (h 81) b e)) 82 b k = (setO (setO (setO h 80 (fup (h 80) b w)) 81 (fup (h 81) b e)) 82 (fup (h 82) b k)) from up_can ((sOf_ne _ _ (by decide)).trans (sOf_ne _ _ (by decide))) rfl rfl) hF_2 (by decide) (by decide)
  refine TT_aload_n hK rfl 0 rfl dX12_beBand_22 ?_
  refine gf_X12_44 hK (by decide) rfl (q := 83) rfl rfl dX12_beBand_23 ?_
  refine TT_iload_n hK rfl 1 rfl dX12_beBand_26 ?_
  refine TT_iconst hK dX12_beBand_27 ?_
  refine TT_iast hK (o := 83) (n := 20) (by decide) rfl (by omega) (by omega) dX12_beBand_28 ?_
  refine TT_hp (h' := setO (setO (setO (setO h 80 (fup (h 80) b w)) 81 (fup (h 81) b e)) 82 (fup (h 82) b k)) 83 (fup (h 83) b 0)) (up_can ((sOf_ne _ _ (by decide)).trans ((sOf_ne _ _ (by decide)).trans (sOf_ne _ _ (by decide)))) rfl rfl) ?_
  have hT_4 : TY (setO (setO (setO (setO h 80 (fup (h 80) b w)) 81 (fup (h 81) b e)) 82 (fup (h 82) b k)) 83 (fup (h 83) b 0)) := tu_83 hT_3 (show up (setO (setO (setO h 80 (fup (h 80) b w)) 81 (fup (h 81) b e)) 82 (fup (h 82) b k)) 83 b 0 = (setO (setO (setO (setO h 80 (fup (h 80) b w)) 81 (fup (h 81) b e)) 82 (fup (h 82) b k)) 83 (fup (h 83) b 0)) from up_can ((sOf_ne _ _ (by decide)).trans ((sOf_ne _ _ (by decide)).trans (sOf_ne _ _ (by decide)))) rfl rfl) (by omega)
  have hF_4 : FRM [80, 81, 82, 83, 84, 85, 86, 87, 88] [] h (setO (setO (setO (setO h 80 (fup (h 80) b w)) 81 (fup (h 81) b e)) 82 (fup (h 82) b k)) 83 (fup (h 83) b 0)) := FRM_up (show up (setO (setO (setO h 80 (fup (h 80) b w)) 81 (fup (h 81) b e)) 82 (fup (h 82) b k)) 83 b 0 = (setO (setO (setO (setO h 80 (fup (h 80) b w)) 81 (fup (h 81) b e)) 82 (fup (h 82) b k)) 83 (fup (h 83) b 0)) from up_can ((sOf_ne _ _ (by decide)).trans ((sOf_ne _ _ (by decide)).trans (sOf_ne _ _ (by decide)))) rfl rfl) hF_3 (by decide) (by decide)
  refine TT_aload_n hK rfl 0 rfl dX12_beBand_29 ?_
  refine gf_X12_54 hK (by decide) rfl (q := 86) rfl rfl dX12_beBand_30 ?_
  refine TT_iload_n hK rfl 1 rfl dX12_beBand_33 ?_
  refine TT_iconst hK dX12_beBand_34 ?_
  refine TT_iast hK (o := 86) (n := 20) (by decide) rfl (by omega) (by omega) dX12_beBand_35 ?_
  refine TT_hp (h' := setO (setO (setO (setO (setO h 80 (fup (h 80) b w)) 81 (fup (h 81) b e)) 82 (fup (h 82) b k)) 83 (fup (h 83) b 0)) 86 (fup (h 86) b 0)) (up_can ((sOf_ne _ _ (by decide)).trans ((sOf_ne _ _ (by decide)).trans ((sOf_ne _ _ (by decide)).trans (sOf_ne _ _ (by decide))))) rfl rfl) ?_
  have hT_5 : TY (setO (setO (setO (setO (setO h 80 (fup (h 80) b w)) 81 (fup (h 81) b e)) 82 (fup (h 82) b k)) 83 (fup (h 83) b 0)) 86 (fup (h 86) b 0)) := tu_86 hT_4 (show up (setO (setO (setO (setO h 80 (fup (h 80) b w)) 81 (fup (h 81) b e)) 82 (fup (h 82) b k)) 83 (fup (h 83) b 0)) 86 b 0 = (setO (setO (setO (setO (setO h 80 (fup (h 80) b w)) 81 (fup (h 81) b e)) 82 (fup (h 82) b k)) 83 (fup (h 83) b 0)) 86 (fup (h 86) b 0)) from up_can ((sOf_ne _ _ (by decide)).trans ((sOf_ne _ _ (by decide)).trans ((sOf_ne _ _ (by decide)).trans (sOf_ne _ _ (by decide))))) rfl rfl) (by omega)
  have hF_5 : FRM [80, 81, 82, 83, 84, 85, 86, 87, 88] [] h (setO (setO (setO (setO (setO h 80 (fup (h 80) b w)) 81 (fup (h 81) b e)) 82 (fup (h 82) b k)) 83 (fup (h 83) b 0)) 86 (fup (h 86) b 0)) := FRM_up (show up (setO (setO (setO (setO h 80 (fup (h 80) b w)) 81 (fup (h 81) b e)) 82 (fup (h 82) b k)) 83 (fup (h 83) b 0)) 86 b 0 = (setO (setO (setO (setO (setO h 80 (fup (h 80) b w)) 81 (fup (h 81) b e)) 82 (fup (h 82) b k)) 83 (fup (h 83) b 0)) 86 (fup (h 86) b 0)) from up_can ((sOf_ne _ _ (by decide)).trans ((sOf_ne _ _ (by decide)).trans ((sOf_ne _ _ (by decide)).trans (sOf_ne _ _ (by decide))))) rfl rfl) hF_4 (by decide) (by decide)
  refine TT_aload_n hK rfl 0 rfl dX12_beBand_36 ?_
  refine gf_X12_57 hK (by decide) rfl (q := 87) rfl rfl dX12_beBand_37 ?_
  refine TT_iload_n hK rfl 1 rfl dX12_beBand_40 ?_
  refine TT_iconst hK dX12_beBand_41 ?_
  refine TT_iast hK (o := 87) (n := 20) (by decide) rfl (by omega) (by omega) dX12_beBand_42 ?_
  refine TT_hp (h' := setO (setO (setO (setO (setO (setO h 80 (fup (h 80) b w)) 81 (fup (h 81) b e)) 82 (fup (h 82) b k)) 83 (fup (h 83) b 0)) 86 (fup (h 86) b 0)) 87 (fup (h 87) b 0)) (up_can ((sOf_ne _ _ (by decide)).trans ((sOf_ne _ _ (by decide)).trans ((sOf_ne _ _ (by decide)).trans ((sOf_ne _ _ (by decide)).trans (sOf_ne _ _ (by decide)))))) rfl rfl) ?_
  have hT_6 : TY (setO (setO (setO (setO (setO (setO h 80 (fup (h 80) b w)) 81 (fup (h 81) b e)) 82 (fup (h 82) b k)) 83 (fup (h 83) b 0)) 86 (fup (h 86) b 0)) 87 (fup (h 87) b 0)) := tu_87 hT_5 (show up (setO (setO (setO (setO (setO h 80 (fup (h 80) b w)) 81 (fup (h 81) b e)) 82 (fup (h 82) b k)) 83 (fup (h 83) b 0)) 86 (fup (h 86) b 0)) 87 b 0 = (setO (setO (setO (setO (setO (setO h 80 (fup (h 80) b w)) 81 (fup (h 81) b e)) 82 (fup (h 82) b k)) 83 (fup (h 83) b 0)) 86 (fup (h 86) b 0)) 87 (fup (h 87) b 0)) from up_can ((sOf_ne _ _ (by decide)).trans ((sOf_ne _ _ (by decide)).trans ((sOf_ne _ _ (by decide)).trans ((sOf_ne _ _ (by decide)).trans (sOf_ne _ _ (by decide)))))) rfl rfl) (by omega)
  have hF_6 : FRM [80, 81, 82, 83, 84, 85, 86, 87, 88] [] h (setO (setO (setO (setO (setO (setO h 80 (fup (h 80) b w)) 81 (fup (h 81) b e)) 82 (fup (h 82) b k)) 83 (fup (h 83) b 0)) 86 (fup (h 86) b 0)) 87 (fup (h 87) b 0)) := FRM_up (show up (setO (setO (setO (setO (setO h 80 (fup (h 80) b w)) 81 (fup (h 81) b e)) 82 (fup (h 82) b k)) 83 (fup (h 83) b 0)) 86 (fup (h 86) b 0)) 87 b 0 = (setO (setO (setO (setO (setO (setO h 80 (fup (h 80) b w)) 81 (fup (h 81) b e)) 82 (fup (h 82) b k)) 83 (fup (h 83) b 0)) 86 (fup (h 86) b 0)) 87 (fup (h 87) b 0)) from up_can ((sOf_ne _ _ (by decide)).trans ((sOf_ne _ _ (by decide)).trans ((sOf_ne _ _ (by decide)).trans ((sOf_ne _ _ (by decide)).trans (sOf_ne _ _ (by decide)))))) rfl rfl) hF_5 (by decide) (by decide)
  refine TT_aload_n hK rfl 0 rfl dX12_beBand_43 ?_
  refine gf_X12_60 hK (by decide) rfl (q := 88) rfl rfl dX12_beBand_44 ?_
  refine TT_iload_n hK rfl 1 rfl dX12_beBand_47 ?_
  refine TT_iconst hK dX12_beBand_48 ?_
  refine TT_iast hK (o := 88) (n := 20) (by decide) rfl (by omega) (by omega) dX12_beBand_49 ?_
  refine TT_hp (h' := setO (setO (setO (setO (setO (setO (setO h 80 (fup (h 80) b w)) 81 (fup (h 81) b e)) 82 (fup (h 82) b k)) 83 (fup (h 83) b 0)) 86 (fup (h 86) b 0)) 87 (fup (h 87) b 0)) 88 (fup (h 88) b 3)) (up_can ((sOf_ne _ _ (by decide)).trans ((sOf_ne _ _ (by decide)).trans ((sOf_ne _ _ (by decide)).trans ((sOf_ne _ _ (by decide)).trans ((sOf_ne _ _ (by decide)).trans (sOf_ne _ _ (by decide))))))) rfl rfl) ?_
  have hT_7 : TY (setO (setO (setO (setO (setO (setO (setO h 80 (fup (h 80) b w)) 81 (fup (h 81) b e)) 82 (fup (h 82) b k)) 83 (fup (h 83) b 0)) 86 (fup (h 86) b 0)) 87 (fup (h 87) b 0)) 88 (fup (h 88) b 3)) := tu_88 hT_6 (show up (setO (setO (setO (setO (setO (setO h 80 (fup (h 80) b w)) 81 (fup (h 81) b e)) 82 (fup (h 82) b k)) 83 (fup (h 83) b 0)) 86 (fup (h 86) b 0)) 87 (fup (h 87) b 0)) 88 b 3 = (setO (setO (setO (setO (setO (setO (setO h 80 (fup (h 80) b w)) 81 (fup (h 81) b e)) 82 (fup (h 82) b k)) 83 (fup (h 83) b 0)) 86 (fup (h 86) b 0)) 87 (fup (h 87) b 0)) 88 (fup (h 88) b 3)) from up_can ((sOf_ne _ _ (by decide)).trans ((sOf_ne _ _ (by decide)).trans ((sOf_ne _ _ (by decide)).trans ((sOf_ne _ _ (by decide)).trans ((sOf_ne _ _ (by decide)).trans (sOf_ne _ _ (by decide))))))) rfl rfl) (by omega)
  have hF_7 : FRM [80, 81, 82, 83, 84, 85, 86, 87, 88] [] h (setO (setO (setO (setO (setO (setO (setO h 80 (fup (h 80) b w)) 81 (fup (h 81) b e)) 82 (fup (h 82) b k)) 83 (fup (h 83) b 0)) 86 (fup (h 86) b 0)) 87 (fup (h 87) b 0)) 88 (fup (h 88) b 3)) := FRM_up (show up (setO (setO (setO (setO (setO (setO h 80 (fup (h 80) b w)) 81 (fup (h 81) b e)) 82 (fup (h 82) b k)) 83 (fup (h 83) b 0)) 86 (fup (h 86) b 0)) 87 (fup (h 87) b 0)) 88 b 3 = (setO (setO (setO (setO (setO (setO (setO h 80 (fup (h 80) b w)) 81 (fup (h 81) b e)) 82 (fup (h 82) b k)) 83 (fup (h 83) b 0)) 86 (fup (h 86) b 0)) 87 (fup (h 87) b 0)) 88 (fup (h 88) b 3)) from up_can ((sOf_ne _ _ (by decide)).trans ((sOf_ne _ _ (by decide)).trans ((sOf_ne _ _ (by decide)).trans ((sOf_ne _ _ (by decide)).trans ((sOf_ne _ _ (by decide)).trans (sOf_ne _ _ (by decide))))))) rfl rfl) hF_6 (by decide) (by decide)
  refine TT_bipush hK (by decide) dX12_beBand_50 ?_
  refine TT_iload_n hK rfl 1 rfl dX12_beBand_52 ?_
  refine TT_imul hK dX12_beBand_53 ?_
  refine TT_istore hK (lv' := [(5, vI (64 * b)), (0, vR 73), (1, vI b), (2, vI w), (3, vI e), (4, vI k)]) (by decide) rfl dX12_beBand_54 ?_
  have L56_8 : ∀ (k8 : Nat) (j : Int) (w56_8 : Hp_), TY w56_8 → FRM [80, 81, 82, 83, 84, 85, 86, 87, 88] [] h w56_8 → (64 * b ≤ j ∧ j ≤ 64 * b + 64) → (64 * b + 64 - j).toNat < k8 → TT K ly 0 0 56 [(0, vR 73), (1, vI b), (2, vI w), (3, vI e), (4, vI k), (5, vI j)] [] w56_8 := by
    intro k8
    induction k8 with
    | zero => intro j w56_8 hT56_8 hF56_8 hj hk8; exact absurd hk8 (Nat.not_lt_zero _)
    | succ k8 ih8 =>
      intro j w56_8 hT56_8 hF56_8 hj hk8
      refine TT_iload hK 5 rfl dX12_beBand_56 ?_
      refine TT_bipush hK (by decide) dX12_beBand_58 ?_
      refine TT_iload_n hK rfl 1 rfl dX12_beBand_60 ?_
      refine TT_imul hK dX12_beBand_61 ?_
      refine TT_bipush hK (by decide) dX12_beBand_62 ?_
      refine TT_iadd hK dX12_beBand_64 ?_
      refine TT_icmp_ge hK (tgt := 90) (irm (by omega) (by omega)) (irm (by omega) (by omega)) dX12_beBand_65 (by decide) (fun hb65_9 => ?_) (fun hb65_9 => ?_)
      · refine TT_vret hK hQ ?_ dX12_beBand_90
        exact ⟨⟨hT56_8, hF56_8⟩, rfl⟩
      · refine TT_aload_n hK rfl 0 rfl dX12_beBand_68 ?_
        refine gf_X12_47 hK (by decide) rfl (q := 84) rfl rfl dX12_beBand_69 ?_
        refine TT_iload hK 5 rfl dX12_beBand_72 ?_
        refine TT_iconst hK dX12_beBand_74 ?_
        refine TT_iast hK (o := 84) (n := 1280) (by decide) rfl (by omega) (by omega) dX12_beBand_75 ?_
        refine TT_hp (h' := setO w56_8 84 (fup (w56_8 84) j 0)) (up_can rfl rfl rfl) ?_
        have hT_10 : TY (setO w56_8 84 (fup (w56_8 84) j 0)) := tu_84 hT56_8 (show up w56_8 84 j 0 = (setO w56_8 84 (fup (w56_8 84) j 0)) from up_can rfl rfl rfl) (by omega)
        have hF_10 : FRM [80, 81, 82, 83, 84, 85, 86, 87, 88] [] h (setO w56_8 84 (fup (w56_8 84) j 0)) := FRM_up (show up w56_8 84 j 0 = (setO w56_8 84 (fup (w56_8 84) j 0)) from up_can rfl rfl rfl) hF56_8 (by decide) (by decide)
        refine TT_aload_n hK rfl 0 rfl dX12_beBand_76 ?_
        refine gf_X12_50 hK (by decide) rfl (q := 85) rfl rfl dX12_beBand_77 ?_
        refine TT_iload hK 5 rfl dX12_beBand_80 ?_
        refine TT_iconst hK dX12_beBand_82 ?_
        refine TT_zast hK (o := 85) (n := 1280) (by decide) rfl (by omega) (by omega) (by first | decide | omega) dX12_beBand_83 ?_
        refine TT_hp (h' := setO (setO w56_8 84 (fup (w56_8 84) j 0)) 85 (fup (w56_8 85) j 0)) (up_can (sOf_ne _ _ (by decide)) rfl rfl) ?_
        have hT_11 : TY (setO (setO w56_8 84 (fup (w56_8 84) j 0)) 85 (fup (w56_8 85) j 0)) := tu_85 hT_10 (show up (setO w56_8 84 (fup (w56_8 84) j 0)) 85 j 0 = (setO (setO w56_8 84 (fup (w56_8 84) j 0)) 85 (fup (w56_8 85) j 0)) from up_can (sOf_ne _ _ (by decide)) rfl rfl) (by omega)
        have hF_11 : FRM [80, 81, 82, 83, 84, 85, 86, 87, 88] [] h (setO (setO w56_8 84 (fup (w56_8 84) j 0)) 85 (fup (w56_8 85) j 0)) := FRM_up (show up (setO w56_8 84 (fup (w56_8 84) j 0)) 85 j 0 = (setO (setO w56_8 84 (fup (w56_8 84) j 0)) 85 (fup (w56_8 85) j 0)) from up_can (sOf_ne _ _ (by decide)) rfl rfl) hF_10 (by decide) (by decide)
        refine TT_iinc hK (v := j + 1) (lv' := [(5, vI (j + 1)), (0, vR 73), (1, vI b), (2, vI w), (3, vI e), (4, vI k)]) 5 rfl rfl (by decide) rfl dX12_beBand_84 ?_
        refine TT_goto hK (tgt := 56) dX12_beBand_87 (by decide) ?_
        refine TT_sub [1, 2, 3, 4, 5, 0] rfl ?_
        exact ih8 (j + 1) (setO (setO w56_8 84 (fup (w56_8 84) j 0)) 85 (fup (w56_8 85) j 0)) hT_11 hF_11 (by first | omega | (simp [up, setR] <;> omega)) (by first | omega | (simp [up, setR] <;> omega))
  refine TT_sub [1, 2, 3, 4, 5, 0] rfl ?_
  exact L56_8 (((64 * b + 64 - (64 * b)).toNat) + 1) (64 * b) (setO (setO (setO (setO (setO (setO (setO h 80 (fup (h 80) b w)) 81 (fup (h 81) b e)) 82 (fup (h 82) b k)) 83 (fup (h 83) b 0)) 86 (fup (h 86) b 0)) 87 (fup (h 87) b 0)) 88 (fup (h 88) b 3)) hT_7 hF_7 (by first | omega | (simp [up, setR] <;> omega)) (Nat.lt_succ_self _)
set_option maxRecDepth 20000 in
theorem s_X12_beBands_73 (f w e l : Int) (h : Hp_) (hT : TY h) (hf : f = 0 ∨ f = 10) (hw : 0 ≤ w ∧ w ≤ 8) (he : 0 ≤ e ∧ e ≤ 8) (hl : 0 ≤ l ∧ l ≤ 3) : Ctr yX12_beBands cX12_beBands 11 none (rmd 1) ly ly 0 0 [vR 73, vI f, vI w, vI e, vI l] h (fun r h' => (TY h' ∧ FRM [80, 81, 82, 83, 84, 85, 86, 87, 88] [] h h') ∧ r = none) := by
  refine Ctr_of (by decide) (Nat.le_of_ble_eq_true rfl) ⟨Nat.le_refl _, Nat.le_refl _⟩ (fun K hK hQ _ => ?_)
  show TT K ly 0 0 0 [(0, vR 73), (1, vI f), (2, vI w), (3, vI e), (4, vI l)] [] h
  have hF : FRM [80, 81, 82, 83, 84, 85, 86, 87, 88] [] h h := FRM_rf _ _ _
  refine TT_aload_n hK rfl 0 rfl dX12_beBands_0 ?_
  refine TT_iload_n hK rfl 1 rfl dX12_beBands_1 ?_
  refine TT_iload_n hK rfl 2 rfl dX12_beBands_2 ?_
  refine TT_iload hK 4 rfl dX12_beBands_3 ?_
  refine iv_X12_153 hK (s_X12_left w l h hT (by first | omega | (simp [up, setR] <;> omega)) (by first | omega | (simp [up, setR] <;> omega))) ⟨by decide, by decide⟩ (by decide) rfl rfl (Nat.le_of_ble_eq_true rfl) ⟨by decide, by decide⟩ dX12_beBands_5 ?_
  intro r9 g5_1 hp9
  obtain ⟨⟨hT_1, hG_1⟩, z5_1, hr9, hz_1, p1_1⟩ := hp9
  rw [hr9]
  have hF_1 : FRM [80, 81, 82, 83, 84, 85, 86, 87, 88] [] h g5_1 := FRM_tr hF hG_1 (by decide) (by decide)
  show TT K ly 0 0 8 [(0, vR 73), (1, vI f), (2, vI w), (3, vI e), (4, vI l)] [vI z5_1, vI f, vR 73] g5_1
  refine TT_iload_n hK rfl 3 rfl dX12_beBands_8 ?_
  refine TT_iload hK 4 rfl dX12_beBands_9 ?_
  refine iv_X12_153 hK (s_X12_left e l g5_1 hT_1 (by first | omega | (simp [up, setR] <;> omega)) (by first | omega | (simp [up, setR] <;> omega))) ⟨by decide, by decide⟩ (by decide) rfl rfl (Nat.le_of_ble_eq_true rfl) ⟨by decide, by decide⟩ dX12_beBands_11 ?_
  intro r9 g11_2 hp9
  obtain ⟨⟨hT_2, hG_2⟩, z11_2, hr9, hz_2, p1_2⟩ := hp9
  rw [hr9]
  have hF_2 : FRM [80, 81, 82, 83, 84, 85, 86, 87, 88] [] h g11_2 := FRM_tr hF_1 hG_2 (by decide) (by decide)
  show TT K ly 0 0 14 [(0, vR 73), (1, vI f), (2, vI w), (3, vI e), (4, vI l)] [vI z11_2, vI z5_1, vI f, vR 73] g11_2
  refine TT_iconst hK dX12_beBands_14 ?_
  refine iv_X12_156 hK (s_X12_beBand_73 f z5_1 z11_2 0 g11_2 hT_2 (by first | omega | (simp [up, setR] <;> omega)) (by first | omega | (simp [up, setR] <;> omega)) (by first | omega | (simp [up, setR] <;> omega)) (by first | omega | (simp [up, setR] <;> omega))) (by decide) rfl ⟨by decide, by decide⟩ (by decide) rfl rfl (Nat.le_of_ble_eq_true rfl) ⟨by decide, by decide⟩ dX12_beBands_15 ?_
  intro r9 g15_3 hp9
  obtain ⟨⟨hT_3, hG_3⟩, hr9⟩ := hp9
  rw [hr9]
  have hF_3 : FRM [80, 81, 82, 83, 84, 85, 86, 87, 88] [] h g15_3 := FRM_tr hF_2 hG_3 (by decide) (by decide)
  show TT K ly 0 0 18 [(0, vR 73), (1, vI f), (2, vI w), (3, vI e), (4, vI l)] [] g15_3
  refine TT_iconst hK dX12_beBands_18 ?_
  refine TT_istore hK (lv' := [(5, vI 1), (0, vR 73), (1, vI f), (2, vI w), (3, vI e), (4, vI l)]) (by decide) rfl dX12_beBands_19 ?_
  have L21_4 : ∀ (k4 : Nat) (r : Int) (w21_4 : Hp_), TY w21_4 → FRM [80, 81, 82, 83, 84, 85, 86, 87, 88] [] h w21_4 → (1 ≤ r ∧ r ≤ 4) → ((4 : Int) - r).toNat < k4 → TT K ly 0 0 21 [(0, vR 73), (1, vI f), (2, vI w), (3, vI e), (4, vI l), (5, vI r)] [] w21_4 := by
    intro k4
    induction k4 with
    | zero => intro r w21_4 hT21_4 hF21_4 hr hk4; exact absurd hk4 (Nat.not_lt_zero _)
    | succ k4 ih4 =>
      intro r w21_4 hT21_4 hF21_4 hr hk4
      refine TT_iload hK 5 rfl dX12_beBands_21 ?_
      refine TT_iload hK 4 rfl dX12_beBands_23 ?_
      refine TT_icmp_gt hK (tgt := 132) (irm (by omega) (by omega)) (irm (by omega) (by omega)) dX12_beBands_25 (by decide) (fun hb25_5 => ?_) (fun hb25_5 => ?_)
      · refine TT_vret hK hQ ?_ dX12_beBands_132
        exact ⟨⟨hT21_4, hF21_4⟩, rfl⟩
      · refine TT_iload hK 4 rfl dX12_beBands_28 ?_
        refine TT_iload hK 5 rfl dX12_beBands_30 ?_
        refine TT_isub hK dX12_beBands_32 ?_
        refine TT_istore hK (lv' := [(6, vI (l - r)), (0, vR 73), (1, vI f), (2, vI w), (3, vI e), (4, vI l), (5, vI r)]) (by decide) rfl dX12_beBands_33 ?_
        refine TT_iload_n hK rfl 3 rfl dX12_beBands_35 ?_
        refine TT_iload hK 0 rfl dX12_beBands_36 ?_
        refine TT_iconst hK dX12_beBands_38 ?_
        refine TT_iadd hK dX12_beBands_39 ?_
        refine iv_X12_153 hK (s_X12_left w ((l - r) + 1) w21_4 hT21_4 (by first | omega | (simp [up, setR] <;> omega)) (by first | omega | (simp [up, setR] <;> omega))) ⟨by decide, by decide⟩ (by decide) rfl rfl (Nat.le_of_ble_eq_true rfl) ⟨by decide, by decide⟩ dX12_beBands_40 ?_
        intro r9 g40_6 hp9
        obtain ⟨⟨hT_6, hG_6⟩, z40_6, hr9, hz_6, p1_6⟩ := hp9
        rw [hr9]
        have hF_6 : FRM [80, 81, 82, 83, 84, 85, 86, 87, 88] [] h g40_6 := FRM_tr hF21_4 hG_6 (by decide) (by decide)
        show TT K ly 0 0 43 [(6, vI (l - r)), (0, vR 73), (1, vI f), (2, vI w), (3, vI e), (4, vI l), (5, vI r)] [vI z40_6] g40_6
        refine TT_istore hK (lv' := [(7, vI z40_6), (6, vI (l - r)), (0, vR 73), (1, vI f), (2, vI w), (3, vI e), (4, vI l), (5, vI r)]) (by decide) rfl dX12_beBands_43 ?_
        refine TT_iload_n hK rfl 5 rfl dX12_beBands_45 ?_
        refine TT_iload hK 1 rfl dX12_beBands_46 ?_
        refine TT_iconst hK dX12_beBands_48 ?_
        refine TT_iadd hK dX12_beBands_49 ?_
        refine iv_X12_153 hK (s_X12_left e ((l - r) + 1) g40_6 hT_6 (by first | omega | (simp [up, setR] <;> omega)) (by first | omega | (simp [up, setR] <;> omega))) ⟨by decide, by decide⟩ (by decide) rfl rfl (Nat.le_of_ble_eq_true rfl) ⟨by decide, by decide⟩ dX12_beBands_50 ?_
        intro r9 g50_7 hp9
        obtain ⟨⟨hT_7, hG_7⟩, z50_7, hr9, hz_7, p1_7⟩ := hp9
        rw [hr9]
        have hF_7 : FRM [80, 81, 82, 83, 84, 85, 86, 87, 88] [] h g50_7 := FRM_tr hF_6 hG_7 (by decide) (by decide)
        show TT K ly 0 0 53 [(7, vI z40_6), (6, vI (l - r)), (0, vR 73), (1, vI f), (2, vI w), (3, vI e), (4, vI l), (5, vI r)] [vI z50_7] g50_7
        refine TT_istore hK (lv' := [(8, vI z50_7), (7, vI z40_6), (6, vI (l - r)), (0, vR 73), (1, vI f), (2, vI w), (3, vI e), (4, vI l), (5, vI r)]) (by decide) rfl dX12_beBands_53 ?_
        refine TT_iload_n hK rfl 5 rfl dX12_beBands_55 ?_
        refine TT_iload hK 2 rfl dX12_beBands_56 ?_
        refine iv_X12_153 hK (s_X12_left w (l - r) g50_7 hT_7 (by first | omega | (simp [up, setR] <;> omega)) (by first | omega | (simp [up, setR] <;> omega))) ⟨by decide, by decide⟩ (by decide) rfl rfl (Nat.le_of_ble_eq_true rfl) ⟨by decide, by decide⟩ dX12_beBands_58 ?_
        intro r9 g58_8 hp9
        obtain ⟨⟨hT_8, hG_8⟩, z58_8, hr9, hz_8, p1_8⟩ := hp9
        rw [hr9]
        have hF_8 : FRM [80, 81, 82, 83, 84, 85, 86, 87, 88] [] h g58_8 := FRM_tr hF_7 hG_8 (by decide) (by decide)
        show TT K ly 0 0 61 [(8, vI z50_7), (7, vI z40_6), (6, vI (l - r)), (0, vR 73), (1, vI f), (2, vI w), (3, vI e), (4, vI l), (5, vI r)] [vI z58_8] g58_8
        refine TT_iload hK 1 rfl dX12_beBands_61 ?_
        have ow : z40_6 ≤ z58_8 := SD4_le (n := w) (l := (l - r)) (by omega) (by omega) (by assumption) (by assumption)
        refine TT_isub hK dX12_beBands_63 ?_
        refine TT_istore hK (lv' := [(9, vI (z58_8 - z40_6)), (8, vI z50_7), (7, vI z40_6), (6, vI (l - r)), (0, vR 73), (1, vI f), (2, vI w), (3, vI e), (4, vI l), (5, vI r)]) (by decide) rfl dX12_beBands_64 ?_
        refine TT_iload_n hK rfl 7 rfl dX12_beBands_66 ?_
        refine TT_iload hK 3 rfl dX12_beBands_67 ?_
        refine iv_X12_153 hK (s_X12_left e (l - r) g58_8 hT_8 (by first | omega | (simp [up, setR] <;> omega)) (by first | omega | (simp [up, setR] <;> omega))) ⟨by decide, by decide⟩ (by decide) rfl rfl (Nat.le_of_ble_eq_true rfl) ⟨by decide, by decide⟩ dX12_beBands_69 ?_
        intro r9 g69_9 hp9
        obtain ⟨⟨hT_9, hG_9⟩, z69_9, hr9, hz_9, p1_9⟩ := hp9
        rw [hr9]
        have hF_9 : FRM [80, 81, 82, 83, 84, 85, 86, 87, 88] [] h g69_9 := FRM_tr hF_8 hG_9 (by decide) (by decide)
        show TT K ly 0 0 72 [(9, vI (z58_8 - z40_6)), (8, vI z50_7), (7, vI z40_6), (6, vI (l - r)), (0, vR 73), (1, vI f), (2, vI w), (3, vI e), (4, vI l), (5, vI r)] [vI z69_9] g69_9
        refine TT_iload hK 1 rfl dX12_beBands_72 ?_
        have oh : z50_7 ≤ z69_9 := SD4_le (n := e) (l := (l - r)) (by omega) (by omega) (by assumption) (by assumption)
        refine TT_isub hK dX12_beBands_74 ?_
        refine TT_istore hK (lv' := [(10, vI (z69_9 - z50_7)), (9, vI (z58_8 - z40_6)), (8, vI z50_7), (7, vI z40_6), (6, vI (l - r)), (0, vR 73), (1, vI f), (2, vI w), (3, vI e), (4, vI l), (5, vI r)]) (by decide) rfl dX12_beBands_75 ?_
        refine TT_aload_n hK rfl 5 rfl dX12_beBands_77 ?_
        refine TT_iload_n hK rfl 6 rfl dX12_beBands_78 ?_
        refine TT_iconst hK dX12_beBands_79 ?_
        refine TT_iload hK 10 rfl dX12_beBands_80 ?_
        refine TT_imul hK dX12_beBands_82 ?_
        refine TT_iadd hK dX12_beBands_83 ?_
        refine TT_iconst hK dX12_beBands_84 ?_
        refine TT_isub hK dX12_beBands_85 ?_
        refine TT_iload hK 1 rfl dX12_beBands_86 ?_
        refine TT_iload hK 2 rfl dX12_beBands_88 ?_
        refine TT_iconst hK dX12_beBands_90 ?_
        refine iv_X12_156 hK (s_X12_beBand_73 ((f + (3 * r)) - 2) (z58_8 - z40_6) z50_7 1 g69_9 hT_9 (by first | omega | (simp [up, setR] <;> omega)) (by first | omega | (simp [up, setR] <;> omega)) (by first | omega | (simp [up, setR] <;> omega)) (by first | omega | (simp [up, setR] <;> omega))) (by decide) rfl ⟨by decide, by decide⟩ (by decide) rfl rfl (Nat.le_of_ble_eq_true rfl) ⟨by decide, by decide⟩ dX12_beBands_91 ?_
        intro r9 g91_10 hp9
        obtain ⟨⟨hT_10, hG_10⟩, hr9⟩ := hp9
        rw [hr9]
        have hF_10 : FRM [80, 81, 82, 83, 84, 85, 86, 87, 88] [] h g91_10 := FRM_tr hF_9 hG_10 (by decide) (by decide)
        show TT K ly 0 0 94 [(10, vI (z69_9 - z50_7)), (9, vI (z58_8 - z40_6)), (8, vI z50_7), (7, vI z40_6), (6, vI (l - r)), (0, vR 73), (1, vI f), (2, vI w), (3, vI e), (4, vI l), (5, vI r)] [] g91_10
        refine TT_aload_n hK rfl 5 rfl dX12_beBands_94 ?_
        refine TT_iload_n hK rfl 6 rfl dX12_beBands_95 ?_
        refine TT_iconst hK dX12_beBands_96 ?_
        refine TT_iload hK 10 rfl dX12_beBands_97 ?_
        refine TT_imul hK dX12_beBands_99 ?_
        refine TT_iadd hK dX12_beBands_100 ?_
        refine TT_iconst hK dX12_beBands_101 ?_
        refine TT_isub hK dX12_beBands_102 ?_
        refine TT_iload hK 3 rfl dX12_beBands_103 ?_
        refine TT_iload hK 0 rfl dX12_beBands_105 ?_
        refine TT_iconst hK dX12_beBands_107 ?_
        refine iv_X12_156 hK (s_X12_beBand_73 ((f + (3 * r)) - 1) z40_6 (z69_9 - z50_7) 0 g91_10 hT_10 (by first | omega | (simp [up, setR] <;> omega)) (by first | omega | (simp [up, setR] <;> omega)) (by first | omega | (simp [up, setR] <;> omega)) (by first | omega | (simp [up, setR] <;> omega))) (by decide) rfl ⟨by decide, by decide⟩ (by decide) rfl rfl (Nat.le_of_ble_eq_true rfl) ⟨by decide, by decide⟩ dX12_beBands_108 ?_
        intro r9 g108_11 hp9
        obtain ⟨⟨hT_11, hG_11⟩, hr9⟩ := hp9
        rw [hr9]
        have hF_11 : FRM [80, 81, 82, 83, 84, 85, 86, 87, 88] [] h g108_11 := FRM_tr hF_10 hG_11 (by decide) (by decide)
        show TT K ly 0 0 111 [(10, vI (z69_9 - z50_7)), (9, vI (z58_8 - z40_6)), (8, vI z50_7), (7, vI z40_6), (6, vI (l - r)), (0, vR 73), (1, vI f), (2, vI w), (3, vI e), (4, vI l), (5, vI r)] [] g108_11
        refine TT_aload_n hK rfl 5 rfl dX12_beBands_111 ?_
        refine TT_iload_n hK rfl 6 rfl dX12_beBands_112 ?_
        refine TT_iconst hK dX12_beBands_113 ?_
        refine TT_iload hK 10 rfl dX12_beBands_114 ?_
        refine TT_imul hK dX12_beBands_116 ?_
        refine TT_iadd hK dX12_beBands_117 ?_
        refine TT_iload hK 1 rfl dX12_beBands_118 ?_
        refine TT_iload hK 0 rfl dX12_beBands_120 ?_
        refine TT_iconst hK dX12_beBands_122 ?_
        refine iv_X12_156 hK (s_X12_beBand_73 (f + (3 * r)) (z58_8 - z40_6) (z69_9 - z50_7) 2 g108_11 hT_11 (by first | omega | (simp [up, setR] <;> omega)) (by first | omega | (simp [up, setR] <;> omega)) (by first | omega | (simp [up, setR] <;> omega)) (by first | omega | (simp [up, setR] <;> omega))) (by decide) rfl ⟨by decide, by decide⟩ (by decide) rfl rfl (Nat.le_of_ble_eq_true rfl) ⟨by decide, by decide⟩ dX12_beBands_123 ?_
        intro r9 g123_12 hp9
        obtain ⟨⟨hT_12, hG_12⟩, hr9⟩ := hp9
        rw [hr9]
        have hF_12 : FRM [80, 81, 82, 83, 84, 85, 86, 87, 88] [] h g123_12 := FRM_tr hF_11 hG_12 (by decide) (by decide)
        show TT K ly 0 0 126 [(10, vI (z69_9 - z50_7)), (9, vI (z58_8 - z40_6)), (8, vI z50_7), (7, vI z40_6), (6, vI (l - r)), (0, vR 73), (1, vI f), (2, vI w), (3, vI e), (4, vI l), (5, vI r)] [] g123_12
        refine TT_iinc hK (v := r + 1) (lv' := [(5, vI (r + 1)), (10, vI (z69_9 - z50_7)), (9, vI (z58_8 - z40_6)), (8, vI z50_7), (7, vI z40_6), (6, vI (l - r)), (0, vR 73), (1, vI f), (2, vI w), (3, vI e), (4, vI l)]) 10 rfl rfl (by decide) rfl dX12_beBands_126 ?_
        refine TT_goto hK (tgt := 21) dX12_beBands_129 (by decide) ?_
        refine TT_sub [6, 7, 8, 9, 10, 0] rfl ?_
        exact ih4 (r + 1) g123_12 hT_12 hF_12 (by first | omega | (simp [up, setR] <;> omega)) (by first | omega | (simp [up, setR] <;> omega))
  refine TT_sub [1, 2, 3, 4, 5, 0] rfl ?_
  exact L21_4 ((((4 : Int) - 1).toNat) + 1) 1 g15_3 hT_3 hF_3 (by first | omega | (simp [up, setR] <;> omega)) (Nat.lt_succ_self _)
set_option maxRecDepth 20000 in
theorem s_X12_corner (b w e l : Int) (h : Hp_) (hT : TY h) (hb : 0 ≤ b ∧ b ≤ 3 * l) (hw : 0 ≤ w ∧ w ≤ 8) (he : 0 ≤ e ∧ e ≤ 8) (hl : 0 ≤ l ∧ l ≤ 3) : Ctr yX12_corner cX12_corner 7 (some .int) (rmd 1) ly ly 0 0 [vI b, vI w, vI e, vI l] h (fun r h' => (TY h' ∧ FRM [] [] h h') ∧ ∃ z : Int, r = some (vI z) ∧ (0 ≤ z ∧ z ≤ 72)) := by
  refine Ctr_of (by decide) (Nat.le_of_ble_eq_true rfl) ⟨Nat.le_refl _, Nat.le_refl _⟩ (fun K hK hQ _ => ?_)
  show TT K ly 0 0 0 [(0, vI b), (1, vI w), (2, vI e), (3, vI l)] [] h
  have hF : FRM [] [] h h := FRM_rf _ _ _
  refine TT_iload_n hK rfl 0 rfl dX12_corner_0 ?_
  refine TT_if_ne hK (tgt := 6) (irm (by omega) (by omega)) dX12_corner_1 (by decide) (fun hb1_1 => ?_) (fun hb1_1 => ?_)
  · refine TT_iload_n hK rfl 3 rfl dX12_corner_6 ?_
    refine TT_iload_n hK rfl 0 rfl dX12_corner_7 ?_
    refine TT_iconst hK dX12_corner_8 ?_
    refine TT_isub hK dX12_corner_9 ?_
    refine TT_iconst hK dX12_corner_10 ?_
    refine TT_idivn hK (irm (by omega) (by omega)) (by decide) (by first | omega | (simp [up, setR] <;> omega)) (by first | omega | (simp [up, setR] <;> omega)) dX12_corner_11 ?_
    refine TT_isub hK dX12_corner_12 ?_
    refine TT_istore hK (lv' := [(4, vI (l - ((b - 1) / 3))), (0, vI b), (1, vI w), (2, vI e), (3, vI l)]) (by decide) rfl dX12_corner_13 ?_
    refine TT_iload_n hK rfl 1 rfl dX12_corner_15 ?_
    refine TT_iconst hK dX12_corner_16 ?_
    refine TT_isub hK dX12_corner_17 ?_
    refine TT_iconst hK dX12_corner_18 ?_
    refine TT_iremn hK (irm (by omega) (by omega)) (by decide) (by first | omega | (simp [up, setR] <;> omega)) (by first | omega | (simp [up, setR] <;> omega)) dX12_corner_19 ?_
    refine TT_iconst hK dX12_corner_20 ?_
    refine TT_icmp_ne hK (tgt := 28) (irm (by omega) (by omega)) (by decide) dX12_corner_21 (by decide) (fun hb21_2 => ?_) (fun hb21_2 => ?_)
    · refine TT_iload_n hK rfl 2 rfl dX12_corner_28 ?_
      refine TT_iload hK 0 rfl dX12_corner_29 ?_
      refine iv_X12_153 hK (s_X12_left w (l - ((b - 1) / 3)) h hT (by first | omega | (simp [up, setR] <;> omega)) (by first | omega | (simp [up, setR] <;> omega))) ⟨by decide, by decide⟩ (by decide) rfl rfl (Nat.le_of_ble_eq_true rfl) ⟨by decide, by decide⟩ dX12_corner_31 ?_
      intro r9 g31_3 hp9
      obtain ⟨⟨hT_3, hG_3⟩, z31_3, hr9, hz_3, p1_3⟩ := hp9
      rw [hr9]
      have hF_3 : FRM [] [] h g31_3 := FRM_tr hF hG_3 (by decide) (by decide)
      show TT K ly 0 0 34 [(4, vI (l - ((b - 1) / 3))), (0, vI b), (1, vI w), (2, vI e), (3, vI l)] [vI z31_3] g31_3
      refine TT_istore hK (lv' := [(5, vI z31_3), (4, vI (l - ((b - 1) / 3))), (0, vI b), (1, vI w), (2, vI e), (3, vI l)]) (by decide) rfl dX12_corner_34 ?_
      refine TT_iload_n hK rfl 2 rfl dX12_corner_36 ?_
      refine TT_iconst hK dX12_corner_37 ?_
      refine TT_isub hK dX12_corner_38 ?_
      refine TT_iconst hK dX12_corner_39 ?_
      refine TT_iremn hK (irm (by omega) (by omega)) (by decide) (by first | omega | (simp [up, setR] <;> omega)) (by first | omega | (simp [up, setR] <;> omega)) dX12_corner_40 ?_
      refine TT_if_ne hK (tgt := 48) (irm (by omega) (by omega)) dX12_corner_41 (by decide) (fun hb41_4 => ?_) (fun hb41_4 => ?_)
      · refine TT_iload_n hK rfl 4 rfl dX12_corner_48 ?_
        refine TT_iload hK 1 rfl dX12_corner_49 ?_
        refine iv_X12_153 hK (s_X12_left e (l - ((b - 1) / 3)) g31_3 hT_3 (by first | omega | (simp [up, setR] <;> omega)) (by first | omega | (simp [up, setR] <;> omega))) ⟨by decide, by decide⟩ (by decide) rfl rfl (Nat.le_of_ble_eq_true rfl) ⟨by decide, by decide⟩ dX12_corner_51 ?_
        intro r9 g51_5 hp9
        obtain ⟨⟨hT_5, hG_5⟩, z51_5, hr9, hz_5, p1_5⟩ := hp9
        rw [hr9]
        have hF_5 : FRM [] [] h g51_5 := FRM_tr hF_3 hG_5 (by decide) (by decide)
        show TT K ly 0 0 54 [(5, vI z31_3), (4, vI (l - ((b - 1) / 3))), (0, vI b), (1, vI w), (2, vI e), (3, vI l)] [vI z51_5] g51_5
        refine TT_istore hK (lv' := [(6, vI z51_5), (5, vI z31_3), (4, vI (l - ((b - 1) / 3))), (0, vI b), (1, vI w), (2, vI e), (3, vI l)]) (by decide) rfl dX12_corner_54 ?_
        refine TT_bipush hK (by decide) dX12_corner_56 ?_
        refine TT_iload hK 0 rfl dX12_corner_58 ?_
        refine TT_imul hK dX12_corner_60 ?_
        refine TT_iload hK 1 rfl dX12_corner_61 ?_
        refine TT_iadd hK dX12_corner_63 ?_
        refine TT_iret hK hQ ?_ dX12_corner_64
        exact ⟨⟨hT_5, hF_5⟩, ((8 * z51_5) + z31_3), rfl, (by omega)⟩
      · refine TT_iconst hK dX12_corner_44 ?_
        refine TT_goto hK (tgt := 54) dX12_corner_45 (by decide) ?_
        refine TT_istore hK (lv' := [(6, vI 0), (5, vI z31_3), (4, vI (l - ((b - 1) / 3))), (0, vI b), (1, vI w), (2, vI e), (3, vI l)]) (by decide) rfl dX12_corner_54 ?_
        refine TT_bipush hK (by decide) dX12_corner_56 ?_
        refine TT_iload hK 0 rfl dX12_corner_58 ?_
        refine TT_imul hK dX12_corner_60 ?_
        refine TT_iload hK 1 rfl dX12_corner_61 ?_
        refine TT_iadd hK dX12_corner_63 ?_
        refine TT_iret hK hQ ?_ dX12_corner_64
        exact ⟨⟨hT_3, hF_3⟩, ((8 * 0) + z31_3), rfl, (by omega)⟩
    · refine TT_iconst hK dX12_corner_24 ?_
      refine TT_goto hK (tgt := 34) dX12_corner_25 (by decide) ?_
      refine TT_istore hK (lv' := [(5, vI 0), (4, vI (l - ((b - 1) / 3))), (0, vI b), (1, vI w), (2, vI e), (3, vI l)]) (by decide) rfl dX12_corner_34 ?_
      refine TT_iload_n hK rfl 2 rfl dX12_corner_36 ?_
      refine TT_iconst hK dX12_corner_37 ?_
      refine TT_isub hK dX12_corner_38 ?_
      refine TT_iconst hK dX12_corner_39 ?_
      refine TT_iremn hK (irm (by omega) (by omega)) (by decide) (by first | omega | (simp [up, setR] <;> omega)) (by first | omega | (simp [up, setR] <;> omega)) dX12_corner_40 ?_
      refine TT_if_ne hK (tgt := 48) (irm (by omega) (by omega)) dX12_corner_41 (by decide) (fun hb41_6 => ?_) (fun hb41_6 => ?_)
      · refine TT_iload_n hK rfl 4 rfl dX12_corner_48 ?_
        refine TT_iload hK 1 rfl dX12_corner_49 ?_
        refine iv_X12_153 hK (s_X12_left e (l - ((b - 1) / 3)) h hT (by first | omega | (simp [up, setR] <;> omega)) (by first | omega | (simp [up, setR] <;> omega))) ⟨by decide, by decide⟩ (by decide) rfl rfl (Nat.le_of_ble_eq_true rfl) ⟨by decide, by decide⟩ dX12_corner_51 ?_
        intro r9 g51_7 hp9
        obtain ⟨⟨hT_7, hG_7⟩, z51_7, hr9, hz_7, p1_7⟩ := hp9
        rw [hr9]
        have hF_7 : FRM [] [] h g51_7 := FRM_tr hF hG_7 (by decide) (by decide)
        show TT K ly 0 0 54 [(5, vI 0), (4, vI (l - ((b - 1) / 3))), (0, vI b), (1, vI w), (2, vI e), (3, vI l)] [vI z51_7] g51_7
        refine TT_istore hK (lv' := [(6, vI z51_7), (5, vI 0), (4, vI (l - ((b - 1) / 3))), (0, vI b), (1, vI w), (2, vI e), (3, vI l)]) (by decide) rfl dX12_corner_54 ?_
        refine TT_bipush hK (by decide) dX12_corner_56 ?_
        refine TT_iload hK 0 rfl dX12_corner_58 ?_
        refine TT_imul hK dX12_corner_60 ?_
        refine TT_iload hK 1 rfl dX12_corner_61 ?_
        refine TT_iadd hK dX12_corner_63 ?_
        refine TT_iret hK hQ ?_ dX12_corner_64
        exact ⟨⟨hT_7, hF_7⟩, ((8 * z51_7) + 0), rfl, (by omega)⟩
      · refine TT_iconst hK dX12_corner_44 ?_
        refine TT_goto hK (tgt := 54) dX12_corner_45 (by decide) ?_
        refine TT_istore hK (lv' := [(6, vI 0), (5, vI 0), (4, vI (l - ((b - 1) / 3))), (0, vI b), (1, vI w), (2, vI e), (3, vI l)]) (by decide) rfl dX12_corner_54 ?_
        refine TT_bipush hK (by decide) dX12_corner_56 ?_
        refine TT_iload hK 0 rfl dX12_corner_58 ?_
        refine TT_imul hK dX12_corner_60 ?_
        refine TT_iload hK 1 rfl dX12_corner_61 ?_
        refine TT_iadd hK dX12_corner_63 ?_
        refine TT_iret hK hQ ?_ dX12_corner_64
        exact ⟨⟨hT, hF⟩, ((8 * 0) + 0), rfl, (by omega)⟩
  · refine TT_iconst hK dX12_corner_4 ?_
    refine TT_iret hK hQ ?_ dX12_corner_5
    exact ⟨⟨hT, hF⟩, 0, rfl, (by omega)⟩
set_option maxRecDepth 20000 in
theorem s_X12_passesOf_73 (b : Int) (h : Hp_) (hT : TY h) (hb : 0 ≤ b ∧ b ≤ 19) : Ctr yX12_passesOf cX12_passesOf 2 (some .int) (rmd 0) ly ly 0 0 [vR 73, vI b] h (fun r h' => (TY h' ∧ FRM [] [] h h') ∧ ∃ z : Int, r = some (vI z) ∧ (0 ≤ z ∧ z ≤ 43) ∧ (b < 10 → z ≤ 34)) := by
  refine Ctr_of (by decide) (Nat.le_of_ble_eq_true rfl) ⟨Nat.le_refl _, Nat.le_refl _⟩ (fun K hK hQ _ => ?_)
  show TT K ly 0 0 0 [(0, vR 73), (1, vI b)] [] h
  have hF : FRM [] [] h h := FRM_rf _ _ _
  refine TT_aload_n hK rfl 0 rfl dX12_passesOf_0 ?_
  refine gf_X12_44 hK (by decide) rfl (q := 83) rfl rfl dX12_passesOf_1 ?_
  refine TT_iload_n hK rfl 1 rfl dX12_passesOf_4 ?_
  refine TT_iald hK (o := 83) (n := 20) (by decide) rfl (by first | omega | (simp [up, setR] <;> omega)) (by first | omega | (simp [up, setR] <;> omega)) (v := (h 83) b) rfl dX12_passesOf_5 ?_
  have r1 := ty_83 (i := b) (v := (h 83) b) hT rfl (by omega) (by omega)
  refine TT_if_ne hK (tgt := 13) (irm (by omega) (by omega)) dX12_passesOf_6 (by decide) (fun hb6_2 => ?_) (fun hb6_2 => ?_)
  · refine TT_iconst hK dX12_passesOf_13 ?_
    refine TT_aload_n hK rfl 0 rfl dX12_passesOf_14 ?_
    refine gf_X12_44 hK (by decide) rfl (q := 83) rfl rfl dX12_passesOf_15 ?_
    refine TT_iload_n hK rfl 1 rfl dX12_passesOf_18 ?_
    refine TT_iald hK (o := 83) (n := 20) (by decide) rfl (by first | omega | (simp [up, setR] <;> omega)) (by first | omega | (simp [up, setR] <;> omega)) (v := (h 83) b) rfl dX12_passesOf_19 ?_
    refine TT_imul hK dX12_passesOf_20 ?_
    refine TT_iconst hK dX12_passesOf_21 ?_
    refine TT_isub hK dX12_passesOf_22 ?_
    refine TT_iret hK hQ ?_ dX12_passesOf_23
    exact ⟨⟨hT, hF⟩, ((3 * ((h 83) b)) - 2), rfl, (by omega), (by omega)⟩
  · refine TT_iconst hK dX12_passesOf_9 ?_
    refine TT_goto hK (tgt := 23) dX12_passesOf_10 (by decide) ?_
    refine TT_iret hK hQ ?_ dX12_passesOf_23
    exact ⟨⟨hT, hF⟩, 0, rfl, (by omega), (by omega)⟩
set_option maxRecDepth 20000 in
theorem s_X12_forget_73 (h : Hp_) (hT : TY h)  : Ctr yX12_forget cX12_forget 2 none (rmd 0) ly ly 0 0 [vR 73] h (fun r h' => (TY h' ∧ FRM [96, 97] [] h h') ∧ r = none) := by
  refine Ctr_of (by decide) (Nat.le_of_ble_eq_true rfl) ⟨Nat.le_refl _, Nat.le_refl _⟩ (fun K hK hQ _ => ?_)
  show TT K ly 0 0 0 [(0, vR 73)] [] h
  have hF : FRM [96, 97] [] h h := FRM_rf _ _ _
  refine TT_iconst hK dX12_forget_0 ?_
  refine TT_istore_n hK rfl (lv' := [(1, vI 0), (0, vR 73)]) (by decide) rfl dX12_forget_1 ?_
  have L2_1 : ∀ (k1 : Nat) (i : Int) (w2_1 : Hp_), TY w2_1 → FRM [96, 97] [] h w2_1 → (0 ≤ i ∧ i ≤ 19) → ((19 : Int) - i).toNat < k1 → TT K ly 0 0 2 [(0, vR 73), (1, vI i)] [] w2_1 := by
    intro k1
    induction k1 with
    | zero => intro i w2_1 hT2_1 hF2_1 hi hk1; exact absurd hk1 (Nat.not_lt_zero _)
    | succ k1 ih1 =>
      intro i w2_1 hT2_1 hF2_1 hi hk1
      refine TT_iload_n hK rfl 1 rfl dX12_forget_2 ?_
      refine TT_bipush hK (by decide) dX12_forget_3 ?_
      refine TT_icmp_ge hK (tgt := 57) (irm (by omega) (by omega)) (by decide) dX12_forget_5 (by decide) (fun hb5_2 => ?_) (fun hb5_2 => ?_)
      · refine TT_vret hK hQ ?_ dX12_forget_57
        exact ⟨⟨hT2_1, hF2_1⟩, rfl⟩
      · refine TT_aload_n hK rfl 0 rfl dX12_forget_8 ?_
        refine gf_X12_84 hK (by decide) rfl (q := 96) rfl rfl dX12_forget_9 ?_
        refine TT_iload_n hK rfl 1 rfl dX12_forget_12 ?_
        refine TT_iload_n hK rfl 1 rfl dX12_forget_13 ?_
        refine TT_bipush hK (by decide) dX12_forget_14 ?_
        refine TT_icmp_ne hK (tgt := 24) (irm (by omega) (by omega)) (by decide) dX12_forget_16 (by decide) (fun hb16_3 => ?_) (fun hb16_3 => ?_)
        · refine TT_iload_n hK rfl 1 rfl dX12_forget_24 ?_
          refine TT_bipush hK (by decide) dX12_forget_25 ?_
          refine TT_icmp_ne hK (tgt := 34) (irm (by omega) (by omega)) (by decide) dX12_forget_27 (by decide) (fun hb27_4 => ?_) (fun hb27_4 => ?_)
          · refine TT_iload_n hK rfl 1 rfl dX12_forget_34 ?_
            refine TT_if_ne hK (tgt := 42) (irm (by omega) (by omega)) dX12_forget_35 (by decide) (fun hb35_5 => ?_) (fun hb35_5 => ?_)
            · refine TT_iconst hK dX12_forget_42 ?_
              refine TT_iast hK (o := 96) (n := 19) (by decide) rfl (by omega) (by omega) dX12_forget_43 ?_
              refine TT_hp (h' := setO w2_1 96 (fup (w2_1 96) i 0)) (up_can rfl rfl rfl) ?_
              have hT_6 : TY (setO w2_1 96 (fup (w2_1 96) i 0)) := tu_96 hT2_1 (show up w2_1 96 i 0 = (setO w2_1 96 (fup (w2_1 96) i 0)) from up_can rfl rfl rfl) (by omega)
              have hF_6 : FRM [96, 97] [] h (setO w2_1 96 (fup (w2_1 96) i 0)) := FRM_up (show up w2_1 96 i 0 = (setO w2_1 96 (fup (w2_1 96) i 0)) from up_can rfl rfl rfl) hF2_1 (by decide) (by decide)
              refine TT_aload_n hK rfl 0 rfl dX12_forget_44 ?_
              refine gf_X12_87 hK (by decide) rfl (q := 97) rfl rfl dX12_forget_45 ?_
              refine TT_iload_n hK rfl 1 rfl dX12_forget_48 ?_
              refine TT_iconst hK dX12_forget_49 ?_
              refine TT_iast hK (o := 97) (n := 19) (by decide) rfl (by omega) (by omega) dX12_forget_50 ?_
              refine TT_hp (h' := setO (setO w2_1 96 (fup (w2_1 96) i 0)) 97 (fup (w2_1 97) i 0)) (up_can (sOf_ne _ _ (by decide)) rfl rfl) ?_
              have hT_7 : TY (setO (setO w2_1 96 (fup (w2_1 96) i 0)) 97 (fup (w2_1 97) i 0)) := tu_97 hT_6 (show up (setO w2_1 96 (fup (w2_1 96) i 0)) 97 i 0 = (setO (setO w2_1 96 (fup (w2_1 96) i 0)) 97 (fup (w2_1 97) i 0)) from up_can (sOf_ne _ _ (by decide)) rfl rfl) (by omega)
              have hF_7 : FRM [96, 97] [] h (setO (setO w2_1 96 (fup (w2_1 96) i 0)) 97 (fup (w2_1 97) i 0)) := FRM_up (show up (setO w2_1 96 (fup (w2_1 96) i 0)) 97 i 0 = (setO (setO w2_1 96 (fup (w2_1 96) i 0)) 97 (fup (w2_1 97) i 0)) from up_can (sOf_ne _ _ (by decide)) rfl rfl) hF_6 (by decide) (by decide)
              refine TT_iinc hK (v := i + 1) (lv' := [(1, vI (i + 1)), (0, vR 73)]) 1 rfl rfl (by decide) rfl dX12_forget_51 ?_
              refine TT_goto hK (tgt := 2) dX12_forget_54 (by decide) ?_
              refine TT_sub [1, 0] rfl ?_
              exact ih1 (i + 1) (setO (setO w2_1 96 (fup (w2_1 96) i 0)) 97 (fup (w2_1 97) i 0)) hT_7 hF_7 (by first | omega | (simp [up, setR] <;> omega)) (by first | omega | (simp [up, setR] <;> omega))
            · refine TT_iconst hK dX12_forget_38 ?_
              refine TT_goto hK (tgt := 43) dX12_forget_39 (by decide) ?_
              refine TT_iast hK (o := 96) (n := 19) (by decide) rfl (by omega) (by omega) dX12_forget_43 ?_
              refine TT_hp (h' := setO w2_1 96 (fup (w2_1 96) i 4)) (up_can rfl rfl rfl) ?_
              have hT_8 : TY (setO w2_1 96 (fup (w2_1 96) i 4)) := tu_96 hT2_1 (show up w2_1 96 i 4 = (setO w2_1 96 (fup (w2_1 96) i 4)) from up_can rfl rfl rfl) (by omega)
              have hF_8 : FRM [96, 97] [] h (setO w2_1 96 (fup (w2_1 96) i 4)) := FRM_up (show up w2_1 96 i 4 = (setO w2_1 96 (fup (w2_1 96) i 4)) from up_can rfl rfl rfl) hF2_1 (by decide) (by decide)
              refine TT_aload_n hK rfl 0 rfl dX12_forget_44 ?_
              refine gf_X12_87 hK (by decide) rfl (q := 97) rfl rfl dX12_forget_45 ?_
              refine TT_iload_n hK rfl 1 rfl dX12_forget_48 ?_
              refine TT_iconst hK dX12_forget_49 ?_
              refine TT_iast hK (o := 97) (n := 19) (by decide) rfl (by omega) (by omega) dX12_forget_50 ?_
              refine TT_hp (h' := setO (setO w2_1 96 (fup (w2_1 96) i 4)) 97 (fup (w2_1 97) i 0)) (up_can (sOf_ne _ _ (by decide)) rfl rfl) ?_
              have hT_9 : TY (setO (setO w2_1 96 (fup (w2_1 96) i 4)) 97 (fup (w2_1 97) i 0)) := tu_97 hT_8 (show up (setO w2_1 96 (fup (w2_1 96) i 4)) 97 i 0 = (setO (setO w2_1 96 (fup (w2_1 96) i 4)) 97 (fup (w2_1 97) i 0)) from up_can (sOf_ne _ _ (by decide)) rfl rfl) (by omega)
              have hF_9 : FRM [96, 97] [] h (setO (setO w2_1 96 (fup (w2_1 96) i 4)) 97 (fup (w2_1 97) i 0)) := FRM_up (show up (setO w2_1 96 (fup (w2_1 96) i 4)) 97 i 0 = (setO (setO w2_1 96 (fup (w2_1 96) i 4)) 97 (fup (w2_1 97) i 0)) from up_can (sOf_ne _ _ (by decide)) rfl rfl) hF_8 (by decide) (by decide)
              refine TT_iinc hK (v := i + 1) (lv' := [(1, vI (i + 1)), (0, vR 73)]) 1 rfl rfl (by decide) rfl dX12_forget_51 ?_
              refine TT_goto hK (tgt := 2) dX12_forget_54 (by decide) ?_
              refine TT_sub [1, 0] rfl ?_
              exact ih1 (i + 1) (setO (setO w2_1 96 (fup (w2_1 96) i 4)) 97 (fup (w2_1 97) i 0)) hT_9 hF_9 (by first | omega | (simp [up, setR] <;> omega)) (by first | omega | (simp [up, setR] <;> omega))
          · refine TT_iconst hK dX12_forget_30 ?_
            refine TT_goto hK (tgt := 43) dX12_forget_31 (by decide) ?_
            refine TT_iast hK (o := 96) (n := 19) (by decide) rfl (by omega) (by omega) dX12_forget_43 ?_
            refine TT_hp (h' := setO w2_1 96 (fup (w2_1 96) i 3)) (up_can rfl rfl rfl) ?_
            have hT_10 : TY (setO w2_1 96 (fup (w2_1 96) i 3)) := tu_96 hT2_1 (show up w2_1 96 i 3 = (setO w2_1 96 (fup (w2_1 96) i 3)) from up_can rfl rfl rfl) (by omega)
            have hF_10 : FRM [96, 97] [] h (setO w2_1 96 (fup (w2_1 96) i 3)) := FRM_up (show up w2_1 96 i 3 = (setO w2_1 96 (fup (w2_1 96) i 3)) from up_can rfl rfl rfl) hF2_1 (by decide) (by decide)
            refine TT_aload_n hK rfl 0 rfl dX12_forget_44 ?_
            refine gf_X12_87 hK (by decide) rfl (q := 97) rfl rfl dX12_forget_45 ?_
            refine TT_iload_n hK rfl 1 rfl dX12_forget_48 ?_
            refine TT_iconst hK dX12_forget_49 ?_
            refine TT_iast hK (o := 97) (n := 19) (by decide) rfl (by omega) (by omega) dX12_forget_50 ?_
            refine TT_hp (h' := setO (setO w2_1 96 (fup (w2_1 96) i 3)) 97 (fup (w2_1 97) i 0)) (up_can (sOf_ne _ _ (by decide)) rfl rfl) ?_
            have hT_11 : TY (setO (setO w2_1 96 (fup (w2_1 96) i 3)) 97 (fup (w2_1 97) i 0)) := tu_97 hT_10 (show up (setO w2_1 96 (fup (w2_1 96) i 3)) 97 i 0 = (setO (setO w2_1 96 (fup (w2_1 96) i 3)) 97 (fup (w2_1 97) i 0)) from up_can (sOf_ne _ _ (by decide)) rfl rfl) (by omega)
            have hF_11 : FRM [96, 97] [] h (setO (setO w2_1 96 (fup (w2_1 96) i 3)) 97 (fup (w2_1 97) i 0)) := FRM_up (show up (setO w2_1 96 (fup (w2_1 96) i 3)) 97 i 0 = (setO (setO w2_1 96 (fup (w2_1 96) i 3)) 97 (fup (w2_1 97) i 0)) from up_can (sOf_ne _ _ (by decide)) rfl rfl) hF_10 (by decide) (by decide)
            refine TT_iinc hK (v := i + 1) (lv' := [(1, vI (i + 1)), (0, vR 73)]) 1 rfl rfl (by decide) rfl dX12_forget_51 ?_
            refine TT_goto hK (tgt := 2) dX12_forget_54 (by decide) ?_
            refine TT_sub [1, 0] rfl ?_
            exact ih1 (i + 1) (setO (setO w2_1 96 (fup (w2_1 96) i 3)) 97 (fup (w2_1 97) i 0)) hT_11 hF_11 (by first | omega | (simp [up, setR] <;> omega)) (by first | omega | (simp [up, setR] <;> omega))
        · refine TT_bipush hK (by decide) dX12_forget_19 ?_
          refine TT_goto hK (tgt := 43) dX12_forget_21 (by decide) ?_
          refine TT_iast hK (o := 96) (n := 19) (by decide) rfl (by omega) (by omega) dX12_forget_43 ?_
          refine TT_hp (h' := setO w2_1 96 (fup (w2_1 96) i 46)) (up_can rfl rfl rfl) ?_
          have hT_12 : TY (setO w2_1 96 (fup (w2_1 96) i 46)) := tu_96 hT2_1 (show up w2_1 96 i 46 = (setO w2_1 96 (fup (w2_1 96) i 46)) from up_can rfl rfl rfl) (by omega)
          have hF_12 : FRM [96, 97] [] h (setO w2_1 96 (fup (w2_1 96) i 46)) := FRM_up (show up w2_1 96 i 46 = (setO w2_1 96 (fup (w2_1 96) i 46)) from up_can rfl rfl rfl) hF2_1 (by decide) (by decide)
          refine TT_aload_n hK rfl 0 rfl dX12_forget_44 ?_
          refine gf_X12_87 hK (by decide) rfl (q := 97) rfl rfl dX12_forget_45 ?_
          refine TT_iload_n hK rfl 1 rfl dX12_forget_48 ?_
          refine TT_iconst hK dX12_forget_49 ?_
          refine TT_iast hK (o := 97) (n := 19) (by decide) rfl (by omega) (by omega) dX12_forget_50 ?_
          refine TT_hp (h' := setO (setO w2_1 96 (fup (w2_1 96) i 46)) 97 (fup (w2_1 97) i 0)) (up_can (sOf_ne _ _ (by decide)) rfl rfl) ?_
          have hT_13 : TY (setO (setO w2_1 96 (fup (w2_1 96) i 46)) 97 (fup (w2_1 97) i 0)) := tu_97 hT_12 (show up (setO w2_1 96 (fup (w2_1 96) i 46)) 97 i 0 = (setO (setO w2_1 96 (fup (w2_1 96) i 46)) 97 (fup (w2_1 97) i 0)) from up_can (sOf_ne _ _ (by decide)) rfl rfl) (by omega)
          have hF_13 : FRM [96, 97] [] h (setO (setO w2_1 96 (fup (w2_1 96) i 46)) 97 (fup (w2_1 97) i 0)) := FRM_up (show up (setO w2_1 96 (fup (w2_1 96) i 46)) 97 i 0 = (setO (setO w2_1 96 (fup (w2_1 96) i 46)) 97 (fup (w2_1 97) i 0)) from up_can (sOf_ne _ _ (by decide)) rfl rfl) hF_12 (by decide) (by decide)
          refine TT_iinc hK (v := i + 1) (lv' := [(1, vI (i + 1)), (0, vR 73)]) 1 rfl rfl (by decide) rfl dX12_forget_51 ?_
          refine TT_goto hK (tgt := 2) dX12_forget_54 (by decide) ?_
          refine TT_sub [1, 0] rfl ?_
          exact ih1 (i + 1) (setO (setO w2_1 96 (fup (w2_1 96) i 46)) 97 (fup (w2_1 97) i 0)) hT_13 hF_13 (by first | omega | (simp [up, setR] <;> omega)) (by first | omega | (simp [up, setR] <;> omega))
  refine TT_sub [1, 0] rfl ?_
  exact L2_1 ((((19 : Int) - 0).toNat) + 1) 0 h hT hF (by first | omega | (simp [up, setR] <;> omega)) (Nat.lt_succ_self _)
set_option maxRecDepth 20000 in
theorem s_X12_learn_73 (x o : Int) (h : Hp_) (hT : TY h) (hx : 0 ≤ x ∧ x ≤ 18) (ho : 0 ≤ o ∧ o ≤ 1) (htb : TBL (h 74) (h 75)) : Ctr yX12_learn cX12_learn 4 none (rmd 0) ly ly 0 0 [vR 73, vI x, vI o] h (fun r h' => (TY h' ∧ FRM [96, 97] [] h h') ∧ r = none ∧ (PhS (h' 96) = PhS (h 96) - phS ((h 96) x) + phS (if o = 0 then (h 75) ((h 96) x) / 100 else (h 75) ((h 96) x) % 100))) := by
  refine Ctr_of (by decide) (Nat.le_of_ble_eq_true rfl) ⟨Nat.le_refl _, Nat.le_refl _⟩ (fun K hK hQ _ => ?_)
  show TT K ly 0 0 0 [(0, vR 73), (1, vI x), (2, vI o)] [] h
  have hF : FRM [96, 97] [] h h := FRM_rf _ _ _
  refine TT_aload_n hK rfl 0 rfl dX12_learn_0 ?_
  refine gf_X12_84 hK (by decide) rfl (q := 96) rfl rfl dX12_learn_1 ?_
  refine TT_iload_n hK rfl 1 rfl dX12_learn_4 ?_
  refine TT_iald hK (o := 96) (n := 19) (by decide) rfl (by first | omega | (simp [up, setR] <;> omega)) (by first | omega | (simp [up, setR] <;> omega)) (v := (h 96) x) rfl dX12_learn_5 ?_
  have r1 := ty_96 (i := x) (v := (h 96) x) hT rfl (by omega) (by omega)
  refine TT_istore_n hK rfl (lv' := [(3, vI ((h 96) x)), (0, vR 73), (1, vI x), (2, vI o)]) (by decide) rfl dX12_learn_6 ?_
  have tq := TBL_r htb (s := h 96 x) (by omega) (by omega)
  refine TT_iload_n hK rfl 3 rfl dX12_learn_7 ?_
  refine TT_if_eq hK (tgt := 41) (irm (by omega) (by omega)) dX12_learn_8 (by decide) (fun hb8_2 => ?_) (fun hb8_2 => ?_)
  · refine TT_aload_n hK rfl 1 rfl dX12_learn_41 ?_
    refine gf_X12_84 hK (by decide) rfl (q := 96) rfl rfl dX12_learn_42 ?_
    refine TT_iload_n hK rfl 2 rfl dX12_learn_45 ?_
    refine TT_iload_n hK rfl 3 rfl dX12_learn_46 ?_
    refine TT_if_eq hK (tgt := 62) (irm (by omega) (by omega)) dX12_learn_47 (by decide) (fun hb47_3 => ?_) (fun hb47_3 => ?_)
    · refine TT_aload_n hK rfl 1 rfl dX12_learn_62 ?_
      refine gf_X12_13 hK (by decide) rfl (q := 75) rfl rfl dX12_learn_63 ?_
      refine TT_iload_n hK rfl 0 rfl dX12_learn_66 ?_
      refine TT_iald hK (o := 75) (n := 47) (by decide) rfl (by first | omega | (simp [up, setR] <;> omega)) (by first | omega | (simp [up, setR] <;> omega)) (v := (h 75) ((h 96) x)) rfl dX12_learn_67 ?_
      have r4 := ty_75 (i := (h 96) x) (v := (h 75) ((h 96) x)) hT rfl (by omega) (by omega)
      refine TT_bipush hK (by decide) dX12_learn_68 ?_
      refine TT_idivn hK (irm (by omega) (by omega)) (by decide) (by first | omega | (simp [up, setR] <;> omega)) (by first | omega | (simp [up, setR] <;> omega)) dX12_learn_70 ?_
      refine TT_iast hK (o := 96) (n := 19) (by decide) rfl (by omega) (by omega) dX12_learn_71 ?_
      refine TT_hp (h' := setO h 96 (fup (h 96) x (((h 75) ((h 96) x)) / 100))) (up_can rfl rfl rfl) ?_
      have hT_5 : TY (setO h 96 (fup (h 96) x (((h 75) ((h 96) x)) / 100))) := tu_96 hT (show up h 96 x (((h 75) ((h 96) x)) / 100) = (setO h 96 (fup (h 96) x (((h 75) ((h 96) x)) / 100))) from up_can rfl rfl rfl) (by omega)
      have hF_5 : FRM [96, 97] [] h (setO h 96 (fup (h 96) x (((h 75) ((h 96) x)) / 100))) := FRM_up (show up h 96 x (((h 75) ((h 96) x)) / 100) = (setO h 96 (fup (h 96) x (((h 75) ((h 96) x)) / 100))) from up_can rfl rfl rfl) hF (by decide) (by decide)
      refine TT_vret hK hQ ?_ dX12_learn_72
      have e6_96 : (setO h 96 (fup (h 96) x (((h 75) ((h 96) x)) / 100))) 96 = fup (h 96) x (((h 75) ((h 96) x)) / 100) := sOf_eq _ _ _
      exact ⟨⟨hT_5, hF_5⟩, rfl, (by rw [e6_96]; rw [PhS_up (by omega)]; first | rw [if_pos (by omega)] | rw [if_neg (by omega)])⟩
    · exfalso; omega
  · refine TT_iload_n hK rfl 0 rfl dX12_learn_11 ?_
    refine TT_if_eq hK (tgt := 27) (irm (by omega) (by omega)) dX12_learn_12 (by decide) (fun hb12_7 => ?_) (fun hb12_7 => ?_)
    · refine TT_aload_n hK rfl 1 rfl dX12_learn_27 ?_
      refine gf_X12_87 hK (by decide) rfl (q := 97) rfl rfl dX12_learn_28 ?_
      refine TT_iload_n hK rfl 2 rfl dX12_learn_31 ?_
      refine TT_iconst hK dX12_learn_32 ?_
      refine TT_aload_n hK rfl 1 rfl dX12_learn_33 ?_
      refine gf_X12_87 hK (by decide) rfl (q := 97) rfl rfl dX12_learn_34 ?_
      refine TT_iload_n hK rfl 2 rfl dX12_learn_37 ?_
      refine TT_iald hK (o := 97) (n := 19) (by decide) rfl (by first | omega | (simp [up, setR] <;> omega)) (by first | omega | (simp [up, setR] <;> omega)) (v := (h 97) x) rfl dX12_learn_38 ?_
      have r8 := ty_97 (i := x) (v := (h 97) x) hT rfl (by omega) (by omega)
      refine TT_isub hK dX12_learn_39 ?_
      refine TT_iast hK (o := 97) (n := 19) (by decide) rfl (by omega) (by omega) dX12_learn_40 ?_
      refine TT_hp (h' := setO h 97 (fup (h 97) x (1 - ((h 97) x)))) (up_can rfl rfl rfl) ?_
      have hT_9 : TY (setO h 97 (fup (h 97) x (1 - ((h 97) x)))) := tu_97 hT (show up h 97 x (1 - ((h 97) x)) = (setO h 97 (fup (h 97) x (1 - ((h 97) x)))) from up_can rfl rfl rfl) (by omega)
      have hF_9 : FRM [96, 97] [] h (setO h 97 (fup (h 97) x (1 - ((h 97) x)))) := FRM_up (show up h 97 x (1 - ((h 97) x)) = (setO h 97 (fup (h 97) x (1 - ((h 97) x)))) from up_can rfl rfl rfl) hF (by decide) (by decide)
      refine TT_aload_n hK rfl 1 rfl dX12_learn_41 ?_
      refine gf_X12_84 hK (by decide) rfl (q := 96) rfl rfl dX12_learn_42 ?_
      refine TT_iload_n hK rfl 2 rfl dX12_learn_45 ?_
      refine TT_iload_n hK rfl 3 rfl dX12_learn_46 ?_
      refine TT_if_eq hK (tgt := 62) (irm (by omega) (by omega)) dX12_learn_47 (by decide) (fun hb47_10 => ?_) (fun hb47_10 => ?_)
      · exfalso; omega
      · refine TT_aload_n hK rfl 1 rfl dX12_learn_50 ?_
        refine gf_X12_13 hK (by decide) rfl (q := 75) rfl rfl dX12_learn_51 ?_
        refine TT_iload_n hK rfl 0 rfl dX12_learn_54 ?_
        refine TT_iald hK (o := 75) (n := 47) (by decide) rfl (by first | omega | (simp [up, setR] <;> omega)) (by first | omega | (simp [up, setR] <;> omega)) (v := (h 75) ((h 96) x)) (rd_ (sOf_ne _ _ (by decide)) rfl) dX12_learn_55 ?_
        have r11 := ty_75 (i := (h 96) x) (v := (h 75) ((h 96) x)) hT_9 (rd_ (sOf_ne _ _ (by decide)) rfl) (by omega) (by omega)
        refine TT_bipush hK (by decide) dX12_learn_56 ?_
        refine TT_iremn hK (irm (by omega) (by omega)) (by decide) (by first | omega | (simp [up, setR] <;> omega)) (by first | omega | (simp [up, setR] <;> omega)) dX12_learn_58 ?_
        refine TT_goto hK (tgt := 71) dX12_learn_59 (by decide) ?_
        refine TT_iast hK (o := 96) (n := 19) (by decide) rfl (by omega) (by omega) dX12_learn_71 ?_
        refine TT_hp (h' := setO (setO h 96 (fup (h 96) x (((h 75) ((h 96) x)) % 100))) 97 (fup (h 97) x (1 - ((h 97) x)))) (up_can (sOf_ne _ _ (by decide)) rfl ((setO_comm _ _ _ (by decide)).trans (setO_cg rfl rfl))) ?_
        have hT_12 : TY (setO (setO h 96 (fup (h 96) x (((h 75) ((h 96) x)) % 100))) 97 (fup (h 97) x (1 - ((h 97) x)))) := tu_96 hT_9 (show up (setO h 97 (fup (h 97) x (1 - ((h 97) x)))) 96 x (((h 75) ((h 96) x)) % 100) = (setO (setO h 96 (fup (h 96) x (((h 75) ((h 96) x)) % 100))) 97 (fup (h 97) x (1 - ((h 97) x)))) from up_can (sOf_ne _ _ (by decide)) rfl ((setO_comm _ _ _ (by decide)).trans (setO_cg rfl rfl))) (by omega)
        have hF_12 : FRM [96, 97] [] h (setO (setO h 96 (fup (h 96) x (((h 75) ((h 96) x)) % 100))) 97 (fup (h 97) x (1 - ((h 97) x)))) := FRM_up (show up (setO h 97 (fup (h 97) x (1 - ((h 97) x)))) 96 x (((h 75) ((h 96) x)) % 100) = (setO (setO h 96 (fup (h 96) x (((h 75) ((h 96) x)) % 100))) 97 (fup (h 97) x (1 - ((h 97) x)))) from up_can (sOf_ne _ _ (by decide)) rfl ((setO_comm _ _ _ (by decide)).trans (setO_cg rfl rfl))) hF_9 (by decide) (by decide)
        refine TT_vret hK hQ ?_ dX12_learn_72
        have e13_96 : (setO (setO h 96 (fup (h 96) x (((h 75) ((h 96) x)) % 100))) 97 (fup (h 97) x (1 - ((h 97) x)))) 96 = fup (h 96) x (((h 75) ((h 96) x)) % 100) := (sOf_ne _ _ (by decide)).trans (sOf_eq _ _ _)
        exact ⟨⟨hT_12, hF_12⟩, rfl, (by rw [e13_96]; rw [PhS_up (by omega)]; first | rw [if_pos (by omega)] | rw [if_neg (by omega)])⟩
    · refine TT_iload_n hK rfl 0 rfl dX12_learn_15 ?_
      refine TT_bipush hK (by decide) dX12_learn_16 ?_
      refine TT_icmp_eq hK (tgt := 27) (irm (by omega) (by omega)) (by decide) dX12_learn_18 (by decide) (fun hb18_14 => ?_) (fun hb18_14 => ?_)
      · refine TT_aload_n hK rfl 1 rfl dX12_learn_27 ?_
        refine gf_X12_87 hK (by decide) rfl (q := 97) rfl rfl dX12_learn_28 ?_
        refine TT_iload_n hK rfl 2 rfl dX12_learn_31 ?_
        refine TT_iconst hK dX12_learn_32 ?_
        refine TT_aload_n hK rfl 1 rfl dX12_learn_33 ?_
        refine gf_X12_87 hK (by decide) rfl (q := 97) rfl rfl dX12_learn_34 ?_
        refine TT_iload_n hK rfl 2 rfl dX12_learn_37 ?_
        refine TT_iald hK (o := 97) (n := 19) (by decide) rfl (by first | omega | (simp [up, setR] <;> omega)) (by first | omega | (simp [up, setR] <;> omega)) (v := (h 97) x) rfl dX12_learn_38 ?_
        have r15 := ty_97 (i := x) (v := (h 97) x) hT rfl (by omega) (by omega)
        refine TT_isub hK dX12_learn_39 ?_
        refine TT_iast hK (o := 97) (n := 19) (by decide) rfl (by omega) (by omega) dX12_learn_40 ?_
        refine TT_hp (h' := setO h 97 (fup (h 97) x (1 - ((h 97) x)))) (up_can rfl rfl rfl) ?_
        have hT_16 : TY (setO h 97 (fup (h 97) x (1 - ((h 97) x)))) := tu_97 hT (show up h 97 x (1 - ((h 97) x)) = (setO h 97 (fup (h 97) x (1 - ((h 97) x)))) from up_can rfl rfl rfl) (by omega)
        have hF_16 : FRM [96, 97] [] h (setO h 97 (fup (h 97) x (1 - ((h 97) x)))) := FRM_up (show up h 97 x (1 - ((h 97) x)) = (setO h 97 (fup (h 97) x (1 - ((h 97) x)))) from up_can rfl rfl rfl) hF (by decide) (by decide)
        refine TT_aload_n hK rfl 1 rfl dX12_learn_41 ?_
        refine gf_X12_84 hK (by decide) rfl (q := 96) rfl rfl dX12_learn_42 ?_
        refine TT_iload_n hK rfl 2 rfl dX12_learn_45 ?_
        refine TT_iload_n hK rfl 3 rfl dX12_learn_46 ?_
        refine TT_if_eq hK (tgt := 62) (irm (by omega) (by omega)) dX12_learn_47 (by decide) (fun hb47_17 => ?_) (fun hb47_17 => ?_)
        · exfalso; omega
        · refine TT_aload_n hK rfl 1 rfl dX12_learn_50 ?_
          refine gf_X12_13 hK (by decide) rfl (q := 75) rfl rfl dX12_learn_51 ?_
          refine TT_iload_n hK rfl 0 rfl dX12_learn_54 ?_
          refine TT_iald hK (o := 75) (n := 47) (by decide) rfl (by first | omega | (simp [up, setR] <;> omega)) (by first | omega | (simp [up, setR] <;> omega)) (v := (h 75) ((h 96) x)) (rd_ (sOf_ne _ _ (by decide)) rfl) dX12_learn_55 ?_
          have r18 := ty_75 (i := (h 96) x) (v := (h 75) ((h 96) x)) hT_16 (rd_ (sOf_ne _ _ (by decide)) rfl) (by omega) (by omega)
          refine TT_bipush hK (by decide) dX12_learn_56 ?_
          refine TT_iremn hK (irm (by omega) (by omega)) (by decide) (by first | omega | (simp [up, setR] <;> omega)) (by first | omega | (simp [up, setR] <;> omega)) dX12_learn_58 ?_
          refine TT_goto hK (tgt := 71) dX12_learn_59 (by decide) ?_
          refine TT_iast hK (o := 96) (n := 19) (by decide) rfl (by omega) (by omega) dX12_learn_71 ?_
          refine TT_hp (h' := setO (setO h 96 (fup (h 96) x (((h 75) ((h 96) x)) % 100))) 97 (fup (h 97) x (1 - ((h 97) x)))) (up_can (sOf_ne _ _ (by decide)) rfl ((setO_comm _ _ _ (by decide)).trans (setO_cg rfl rfl))) ?_
          have hT_19 : TY (setO (setO h 96 (fup (h 96) x (((h 75) ((h 96) x)) % 100))) 97 (fup (h 97) x (1 - ((h 97) x)))) := tu_96 hT_16 (show up (setO h 97 (fup (h 97) x (1 - ((h 97) x)))) 96 x (((h 75) ((h 96) x)) % 100) = (setO (setO h 96 (fup (h 96) x (((h 75) ((h 96) x)) % 100))) 97 (fup (h 97) x (1 - ((h 97) x)))) from up_can (sOf_ne _ _ (by decide)) rfl ((setO_comm _ _ _ (by decide)).trans (setO_cg rfl rfl))) (by omega)
          have hF_19 : FRM [96, 97] [] h (setO (setO h 96 (fup (h 96) x (((h 75) ((h 96) x)) % 100))) 97 (fup (h 97) x (1 - ((h 97) x)))) := FRM_up (show up (setO h 97 (fup (h 97) x (1 - ((h 97) x)))) 96 x (((h 75) ((h 96) x)) % 100) = (setO (setO h 96 (fup (h 96) x (((h 75) ((h 96) x)) % 100))) 97 (fup (h 97) x (1 - ((h 97) x)))) from up_can (sOf_ne _ _ (by decide)) rfl ((setO_comm _ _ _ (by decide)).trans (setO_cg rfl rfl))) hF_16 (by decide) (by decide)
          refine TT_vret hK hQ ?_ dX12_learn_72
          have e20_96 : (setO (setO h 96 (fup (h 96) x (((h 75) ((h 96) x)) % 100))) 97 (fup (h 97) x (1 - ((h 97) x)))) 96 = fup (h 96) x (((h 75) ((h 96) x)) % 100) := (sOf_ne _ _ (by decide)).trans (sOf_eq _ _ _)
          exact ⟨⟨hT_19, hF_19⟩, rfl, (by rw [e20_96]; rw [PhS_up (by omega)]; first | rw [if_pos (by omega)] | rw [if_neg (by omega)])⟩
      · refine TT_iload_n hK rfl 0 rfl dX12_learn_21 ?_
        refine TT_bipush hK (by decide) dX12_learn_22 ?_
        refine TT_icmp_ne hK (tgt := 41) (irm (by omega) (by omega)) (by decide) dX12_learn_24 (by decide) (fun hb24_21 => ?_) (fun hb24_21 => ?_)
        · refine TT_aload_n hK rfl 1 rfl dX12_learn_41 ?_
          refine gf_X12_84 hK (by decide) rfl (q := 96) rfl rfl dX12_learn_42 ?_
          refine TT_iload_n hK rfl 2 rfl dX12_learn_45 ?_
          refine TT_iload_n hK rfl 3 rfl dX12_learn_46 ?_
          refine TT_if_eq hK (tgt := 62) (irm (by omega) (by omega)) dX12_learn_47 (by decide) (fun hb47_22 => ?_) (fun hb47_22 => ?_)
          · exfalso; omega
          · refine TT_aload_n hK rfl 1 rfl dX12_learn_50 ?_
            refine gf_X12_13 hK (by decide) rfl (q := 75) rfl rfl dX12_learn_51 ?_
            refine TT_iload_n hK rfl 0 rfl dX12_learn_54 ?_
            refine TT_iald hK (o := 75) (n := 47) (by decide) rfl (by first | omega | (simp [up, setR] <;> omega)) (by first | omega | (simp [up, setR] <;> omega)) (v := (h 75) ((h 96) x)) rfl dX12_learn_55 ?_
            have r23 := ty_75 (i := (h 96) x) (v := (h 75) ((h 96) x)) hT rfl (by omega) (by omega)
            refine TT_bipush hK (by decide) dX12_learn_56 ?_
            refine TT_iremn hK (irm (by omega) (by omega)) (by decide) (by first | omega | (simp [up, setR] <;> omega)) (by first | omega | (simp [up, setR] <;> omega)) dX12_learn_58 ?_
            refine TT_goto hK (tgt := 71) dX12_learn_59 (by decide) ?_
            refine TT_iast hK (o := 96) (n := 19) (by decide) rfl (by omega) (by omega) dX12_learn_71 ?_
            refine TT_hp (h' := setO h 96 (fup (h 96) x (((h 75) ((h 96) x)) % 100))) (up_can rfl rfl rfl) ?_
            have hT_24 : TY (setO h 96 (fup (h 96) x (((h 75) ((h 96) x)) % 100))) := tu_96 hT (show up h 96 x (((h 75) ((h 96) x)) % 100) = (setO h 96 (fup (h 96) x (((h 75) ((h 96) x)) % 100))) from up_can rfl rfl rfl) (by omega)
            have hF_24 : FRM [96, 97] [] h (setO h 96 (fup (h 96) x (((h 75) ((h 96) x)) % 100))) := FRM_up (show up h 96 x (((h 75) ((h 96) x)) % 100) = (setO h 96 (fup (h 96) x (((h 75) ((h 96) x)) % 100))) from up_can rfl rfl rfl) hF (by decide) (by decide)
            refine TT_vret hK hQ ?_ dX12_learn_72
            have e25_96 : (setO h 96 (fup (h 96) x (((h 75) ((h 96) x)) % 100))) 96 = fup (h 96) x (((h 75) ((h 96) x)) % 100) := sOf_eq _ _ _
            exact ⟨⟨hT_24, hF_24⟩, rfl, (by rw [e25_96]; rw [PhS_up (by omega)]; first | rw [if_pos (by omega)] | rw [if_neg (by omega)])⟩
        · refine TT_aload_n hK rfl 1 rfl dX12_learn_27 ?_
          refine gf_X12_87 hK (by decide) rfl (q := 97) rfl rfl dX12_learn_28 ?_
          refine TT_iload_n hK rfl 2 rfl dX12_learn_31 ?_
          refine TT_iconst hK dX12_learn_32 ?_
          refine TT_aload_n hK rfl 1 rfl dX12_learn_33 ?_
          refine gf_X12_87 hK (by decide) rfl (q := 97) rfl rfl dX12_learn_34 ?_
          refine TT_iload_n hK rfl 2 rfl dX12_learn_37 ?_
          refine TT_iald hK (o := 97) (n := 19) (by decide) rfl (by first | omega | (simp [up, setR] <;> omega)) (by first | omega | (simp [up, setR] <;> omega)) (v := (h 97) x) rfl dX12_learn_38 ?_
          have r26 := ty_97 (i := x) (v := (h 97) x) hT rfl (by omega) (by omega)
          refine TT_isub hK dX12_learn_39 ?_
          refine TT_iast hK (o := 97) (n := 19) (by decide) rfl (by omega) (by omega) dX12_learn_40 ?_
          refine TT_hp (h' := setO h 97 (fup (h 97) x (1 - ((h 97) x)))) (up_can rfl rfl rfl) ?_
          have hT_27 : TY (setO h 97 (fup (h 97) x (1 - ((h 97) x)))) := tu_97 hT (show up h 97 x (1 - ((h 97) x)) = (setO h 97 (fup (h 97) x (1 - ((h 97) x)))) from up_can rfl rfl rfl) (by omega)
          have hF_27 : FRM [96, 97] [] h (setO h 97 (fup (h 97) x (1 - ((h 97) x)))) := FRM_up (show up h 97 x (1 - ((h 97) x)) = (setO h 97 (fup (h 97) x (1 - ((h 97) x)))) from up_can rfl rfl rfl) hF (by decide) (by decide)
          refine TT_aload_n hK rfl 1 rfl dX12_learn_41 ?_
          refine gf_X12_84 hK (by decide) rfl (q := 96) rfl rfl dX12_learn_42 ?_
          refine TT_iload_n hK rfl 2 rfl dX12_learn_45 ?_
          refine TT_iload_n hK rfl 3 rfl dX12_learn_46 ?_
          refine TT_if_eq hK (tgt := 62) (irm (by omega) (by omega)) dX12_learn_47 (by decide) (fun hb47_28 => ?_) (fun hb47_28 => ?_)
          · exfalso; omega
          · refine TT_aload_n hK rfl 1 rfl dX12_learn_50 ?_
            refine gf_X12_13 hK (by decide) rfl (q := 75) rfl rfl dX12_learn_51 ?_
            refine TT_iload_n hK rfl 0 rfl dX12_learn_54 ?_
            refine TT_iald hK (o := 75) (n := 47) (by decide) rfl (by first | omega | (simp [up, setR] <;> omega)) (by first | omega | (simp [up, setR] <;> omega)) (v := (h 75) ((h 96) x)) (rd_ (sOf_ne _ _ (by decide)) rfl) dX12_learn_55 ?_
            have r29 := ty_75 (i := (h 96) x) (v := (h 75) ((h 96) x)) hT_27 (rd_ (sOf_ne _ _ (by decide)) rfl) (by omega) (by omega)
            refine TT_bipush hK (by decide) dX12_learn_56 ?_
            refine TT_iremn hK (irm (by omega) (by omega)) (by decide) (by first | omega | (simp [up, setR] <;> omega)) (by first | omega | (simp [up, setR] <;> omega)) dX12_learn_58 ?_
            refine TT_goto hK (tgt := 71) dX12_learn_59 (by decide) ?_
            refine TT_iast hK (o := 96) (n := 19) (by decide) rfl (by omega) (by omega) dX12_learn_71 ?_
            refine TT_hp (h' := setO (setO h 96 (fup (h 96) x (((h 75) ((h 96) x)) % 100))) 97 (fup (h 97) x (1 - ((h 97) x)))) (up_can (sOf_ne _ _ (by decide)) rfl ((setO_comm _ _ _ (by decide)).trans (setO_cg rfl rfl))) ?_
            have hT_30 : TY (setO (setO h 96 (fup (h 96) x (((h 75) ((h 96) x)) % 100))) 97 (fup (h 97) x (1 - ((h 97) x)))) := tu_96 hT_27 (show up (setO h 97 (fup (h 97) x (1 - ((h 97) x)))) 96 x (((h 75) ((h 96) x)) % 100) = (setO (setO h 96 (fup (h 96) x (((h 75) ((h 96) x)) % 100))) 97 (fup (h 97) x (1 - ((h 97) x)))) from up_can (sOf_ne _ _ (by decide)) rfl ((setO_comm _ _ _ (by decide)).trans (setO_cg rfl rfl))) (by omega)
            have hF_30 : FRM [96, 97] [] h (setO (setO h 96 (fup (h 96) x (((h 75) ((h 96) x)) % 100))) 97 (fup (h 97) x (1 - ((h 97) x)))) := FRM_up (show up (setO h 97 (fup (h 97) x (1 - ((h 97) x)))) 96 x (((h 75) ((h 96) x)) % 100) = (setO (setO h 96 (fup (h 96) x (((h 75) ((h 96) x)) % 100))) 97 (fup (h 97) x (1 - ((h 97) x)))) from up_can (sOf_ne _ _ (by decide)) rfl ((setO_comm _ _ _ (by decide)).trans (setO_cg rfl rfl))) hF_27 (by decide) (by decide)
            refine TT_vret hK hQ ?_ dX12_learn_72
            have e31_96 : (setO (setO h 96 (fup (h 96) x (((h 75) ((h 96) x)) % 100))) 97 (fup (h 97) x (1 - ((h 97) x)))) 96 = fup (h 96) x (((h 75) ((h 96) x)) % 100) := (sOf_ne _ _ (by decide)).trans (sOf_eq _ _ _)
            exact ⟨⟨hT_30, hF_30⟩, rfl, (by rw [e31_96]; rw [PhS_up (by omega)]; first | rw [if_pos (by omega)] | rw [if_neg (by omega)])⟩

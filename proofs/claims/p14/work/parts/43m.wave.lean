theorem flr (v d : Int) (hd : d = 2 ∨ d = 4) : (v.tmod d < 0 → v.tdiv d - 1 = v / d) ∧ (0 ≤ v.tmod d → v.tdiv d = v / d) ∧ -3 ≤ v.tmod d ∧ v.tmod d ≤ 3 := by
  rcases Int.le_total 0 v with h | h
  · rw [Int.tdiv_eq_ediv_of_nonneg h, Int.tmod_eq_emod_of_nonneg h]
    rcases hd with rfl | rfl <;> omega
  · obtain ⟨u, rfl⟩ : ∃ u : Int, v = -u := ⟨-v, (Int.neg_neg v).symm⟩
    rw [Int.neg_tdiv, Int.neg_tmod, Int.tdiv_eq_ediv_of_nonneg (by omega), Int.tmod_eq_emod_of_nonneg (by omega)]
    rcases hd with rfl | rfl <;> omega
def mI (i n : Int) : Int := if i < n then i else 2 * n - 2 - i
def dI (k n : Int) : Int := if k < 0 then 0 else if n / 2 ≤ k then n / 2 - 1 else k
def dE (g : Int → Int) (k n : Int) : Int := g (2 * dI k n + 1) - (g (mI (2 * dI k n) n) + g (mI (2 * dI k n + 2) n)) / 2
def fE (g : Int → Int) (n k : Int) : Int := if k < (n + 1) / 2 then (if n = 1 then g 0 else g (2 * k) + (dE g (k - 1) n + dE g k n + 2) / 4) else dE g (k - (n + 1) / 2) n
theorem dI_r {k n : Int} (hn : 2 ≤ n) : 0 ≤ dI k n ∧ dI k n ≤ n / 2 - 1 := by
  unfold dI
  (repeat' split) <;> omega
theorem mI_r {i n : Int} (hn : 2 ≤ n) (hi : 0 ≤ i ∧ i ≤ n) : 0 ≤ mI i n ∧ mI i n < n := by
  unfold mI
  split <;> omega
theorem dE_cg {g g' : Int → Int} {k n : Int} (hn : 2 ≤ n) (h : ∀ i : Int, 0 ≤ i → i < n → g i = g' i) : dE g k n = dE g' k n := by
  have d := dI_r (k := k) hn
  have m1 := mI_r (i := 2 * dI k n) hn (by omega)
  have m2 := mI_r (i := 2 * dI k n + 2) hn (by omega)
  unfold dE
  rw [h _ (by omega) (by omega), h _ m1.1 m1.2, h _ m2.1 m2.2]
theorem fE_cg {g g' : Int → Int} {k n : Int} (hn : 1 ≤ n) (hk : 0 ≤ k ∧ k < n) (h : ∀ i : Int, 0 ≤ i → i < n → g i = g' i) : fE g n k = fE g' n k := by
  unfold fE
  by_cases h1 : k < (n + 1) / 2
  · rw [if_pos h1, if_pos h1]
    by_cases h2 : n = 1
    · rw [if_pos h2, if_pos h2, h 0 (by omega) (by omega)]
    · rw [if_neg h2, if_neg h2, h (2 * k) (by omega) (by omega), dE_cg (by omega) h, dE_cg (by omega) h]
  · rw [if_neg h1, if_neg h1, dE_cg (by omega) h]
def wE8 (f n m : Int) (sq : Int → Int) (i : Int) : Int := if i % 8 = f ∧ i / 8 < m then fE (fun j => sq (f + 8 * j)) n (i / 8) else sq i
def wE1 (f n m : Int) (sq : Int → Int) (i : Int) : Int := if f ≤ i ∧ i < f + m then fE (fun j => sq (f + 1 * j)) n (i - f) else sq i
def cE (w e : Int) (sq : Int → Int) (i : Int) : Int := if i % 8 < w ∧ i / 8 < e then fE (fun j => sq (8 * j + i % 8)) e (i / 8) else sq i
def rE (w e : Int) (sq : Int → Int) (i : Int) : Int := if i % 8 < w ∧ i / 8 < e then fE (fun j => sq (8 * (i / 8) + j)) w (i % 8) else sq i
theorem cE0 (e : Int) (sq : Int → Int) (t : Int) : 0 ≤ t → cE 0 e sq t = sq t := by
  intro h
  unfold cE
  rw [if_neg (by omega)]
theorem rE0 (w : Int) (sq : Int → Int) (t : Int) : 0 ≤ t → rE w 0 sq t = sq t := by
  intro h
  unfold rE
  rw [if_neg (by omega)]
theorem cES {x e : Int} {s0 s1 : Int → Int} {t : Int} (hs : ∀ t : Int, 0 ≤ t → t < 64 → s1 t = cE x e s0 t) (hx : 0 ≤ x ∧ x < 8) (he : 1 ≤ e ∧ e ≤ 8) (ht : 0 ≤ t ∧ t < 64) : wE8 x e e s1 t = cE (x + 1) e s0 t := by
  unfold wE8
  by_cases c : t % 8 = x ∧ t / 8 < e
  · rw [if_pos c]
    unfold cE
    rw [if_pos (by omega), c.1]
    refine fE_cg he.1 (by omega) (fun j h1 h2 => ?_)
    show s1 (x + 8 * j) = s0 (8 * j + x)
    rw [hs _ (by omega) (by omega)]
    unfold cE
    rw [if_neg (by omega), Int.add_comm]
  · rw [if_neg c, hs t ht.1 ht.2]
    unfold cE
    by_cases c2 : t % 8 < x ∧ t / 8 < e
    · rw [if_pos c2, if_pos (by omega)]
    · rw [if_neg c2, if_neg (by omega)]
theorem rES {x w : Int} {s0 s1 : Int → Int} {t : Int} (hs : ∀ t : Int, 0 ≤ t → t < 64 → s1 t = rE w x s0 t) (hx : 0 ≤ x ∧ x < 8) (he : 1 ≤ w ∧ w ≤ 8) (ht : 0 ≤ t ∧ t < 64) : wE1 (8 * x) w w s1 t = rE w (x + 1) s0 t := by
  unfold wE1
  by_cases c : 8 * x ≤ t ∧ t < 8 * x + w
  · rw [if_pos c]
    unfold rE
    rw [if_pos (by omega), show t / 8 = x by omega, show t - 8 * x = t % 8 by omega]
    refine fE_cg he.1 (by omega) (fun j h1 h2 => ?_)
    show s1 (8 * x + 1 * j) = s0 (8 * x + j)
    rw [hs _ (by omega) (by omega)]
    unfold rE
    rw [if_neg (by omega), Int.one_mul]
  · rw [if_neg c, hs t ht.1 ht.2]
    unfold rE
    by_cases c2 : t % 8 < w ∧ t / 8 < x
    · rw [if_pos c2, if_pos (by omega)]
    · rw [if_neg c2, if_neg (by omega)]
theorem dE_b {g : Int → Int} {k n B : Int} (hn : 2 ≤ n) (h : ∀ i : Int, 0 ≤ i → i < n → -B ≤ g i ∧ g i ≤ B) : -(2 * B) ≤ dE g k n ∧ dE g k n ≤ 2 * B := by
  have d := dI_r (k := k) hn
  have m1 := mI_r (i := 2 * dI k n) hn (by omega)
  have m2 := mI_r (i := 2 * dI k n + 2) hn (by omega)
  have b0 := h (2 * dI k n + 1) (by omega) (by omega)
  have b1 := h _ m1.1 m1.2
  have b2 := h _ m2.1 m2.2
  unfold dE
  omega
theorem dF {g : Int → Int} {j k n B : Int} (hn : 2 ≤ n) (h : ∀ i : Int, 0 ≤ i → i < n → -B ≤ g i ∧ g i ≤ B) (hi : dI j n = k) : ∃ y z : Int, (-B ≤ y ∧ y ≤ B) ∧ (-B ≤ z ∧ z ≤ B) ∧ dE g j n = y - (g (2 * k) + z) / 2 := by
  have d := dI_r (k := j) hn
  rw [hi] at d
  have m2 := mI_r (i := 2 * k + 2) hn (by omega)
  refine ⟨g (2 * k + 1), g (mI (2 * k + 2) n), h _ (by omega) (by omega), h _ m2.1 m2.2, ?_⟩
  unfold dE
  rw [hi, show mI (2 * k) n = 2 * k by unfold mI; rw [if_pos (by omega)]]
theorem dG {g : Int → Int} {j k n B : Int} (hn : 2 ≤ n) (h : ∀ i : Int, 0 ≤ i → i < n → -B ≤ g i ∧ g i ≤ B) (hi : dI j n = k - 1) (h2 : 2 * k < n) : ∃ y z : Int, (-B ≤ y ∧ y ≤ B) ∧ (-B ≤ z ∧ z ≤ B) ∧ dE g j n = y - (z + g (2 * k)) / 2 := by
  have d := dI_r (k := j) hn
  rw [hi] at d
  refine ⟨g (2 * (k - 1) + 1), g (2 * (k - 1)), h _ (by omega) (by omega), h _ (by omega) (by omega), ?_⟩
  unfold dE
  rw [hi, show mI (2 * (k - 1)) n = 2 * (k - 1) by unfold mI; rw [if_pos (by omega)], show mI (2 * (k - 1) + 2) n = 2 * k by unfold mI; rw [if_pos (by omega)]; omega]
theorem fEb {g : Int → Int} {n k B : Int} (hn : 1 ≤ n ∧ n ≤ 8) (hk : 0 ≤ k ∧ k < n) (hB : 1 ≤ B) (h : ∀ i : Int, 0 ≤ i → i < n → -B ≤ g i ∧ g i ≤ B) : (k < (n + 1) / 2 → -((3 * B + 1) / 2) ≤ fE g n k ∧ fE g n k ≤ (3 * B + 1) / 2) ∧ (-(2 * B) ≤ fE g n k ∧ fE g n k ≤ 2 * B) := by
  unfold fE
  by_cases h1 : k < (n + 1) / 2
  · rw [if_pos h1]
    by_cases h2 : n = 1
    · rw [if_pos h2]
      have := h 0 (by omega) (by omega)
      omega
    · rw [if_neg h2]
      have b0 := h (2 * k) (by omega) (by omega)
      by_cases ca : k = 0
      · obtain ⟨y, z, hy, hz, e1⟩ := dF (j := k - 1) (k := k) (n := n) (by omega) h (by unfold dI; rw [if_pos (by omega), ca])
        obtain ⟨y2, z2, hy2, hz2, e2⟩ := dF (j := k) (k := k) (n := n) (by omega) h (by unfold dI; rw [if_neg (by omega), if_neg (by omega)])
        rw [e1, e2]
        omega
      · obtain ⟨y, z, hy, hz, e1⟩ := dG (j := k - 1) (k := k) (n := n) (by omega) h (by unfold dI; rw [if_neg (by omega), if_neg (by omega)]) (by omega)
        by_cases cb : k < n / 2
        · obtain ⟨y2, z2, hy2, hz2, e2⟩ := dF (j := k) (k := k) (n := n) (by omega) h (by unfold dI; rw [if_neg (by omega), if_neg (by omega)])
          rw [e1, e2]
          omega
        · obtain ⟨y2, z2, hy2, hz2, e2⟩ := dG (j := k) (k := k) (n := n) (by omega) h (by unfold dI; rw [if_neg (by omega), if_pos (by omega)]; omega) (by omega)
          rw [e1, e2]
          omega
  · rw [if_neg h1]
    have b := dE_b (k := k - (n + 1) / 2) (show 2 ≤ n by omega) h
    exact ⟨fun z => absurd z h1, b⟩
def LV (w e B : Int) (sq : Int → Int) : Prop := ∀ i : Int, 0 ≤ i → i < 64 → (-4095 ≤ sq i ∧ sq i ≤ 4095) ∧ (i % 8 < w → i / 8 < e → -B ≤ sq i ∧ sq i ≤ B)
theorem cEb {w e B : Int} {sq : Int → Int} (hw : 1 ≤ w ∧ w ≤ 8) (he : 1 ≤ e ∧ e ≤ 8) (hB : 1 ≤ B ∧ B ≤ 1000) (h : LV w e B sq) {i : Int} (h0 : 0 ≤ i) (h1 : i < 64) : (-4095 ≤ cE w e sq i ∧ cE w e sq i ≤ 4095) ∧ (i % 8 < w → i / 8 < e → (-(2 * B) ≤ cE w e sq i ∧ cE w e sq i ≤ 2 * B) ∧ (i / 8 < (e + 1) / 2 → -((3 * B + 1) / 2) ≤ cE w e sq i ∧ cE w e sq i ≤ (3 * B + 1) / 2)) := by
  unfold cE
  by_cases c : i % 8 < w ∧ i / 8 < e
  · rw [if_pos c]
    have b := fEb (g := fun j => sq (8 * j + i % 8)) (n := e) (k := i / 8) (B := B) he (by omega) hB.1 (fun j h2 h3 => (h (8 * j + i % 8) (by omega) (by omega)).2 (by omega) (by omega))
    exact ⟨by omega, fun _ _ => ⟨b.2, b.1⟩⟩
  · rw [if_neg c]
    exact ⟨(h i h0 h1).1, fun h2 h3 => absurd ⟨h2, h3⟩ c⟩
theorem rEb {w e B : Int} {s0 s1 s2 : Int → Int} (hw : 1 ≤ w ∧ w ≤ 8) (he : 1 ≤ e ∧ e ≤ 8) (hB : 1 ≤ B ∧ B ≤ 1000) (h : LV w e B s0) (hc : ∀ t : Int, 0 ≤ t → t < 64 → s1 t = cE w e s0 t) (hr : ∀ t : Int, 0 ≤ t → t < 64 → s2 t = rE w e s1 t) : LV ((w + 1) / 2) ((e + 1) / 2) ((3 * ((3 * B + 1) / 2) + 1) / 2) s2 := by
  intro i h0 h1
  rw [hr i h0 h1]
  unfold rE
  by_cases c : i % 8 < w ∧ i / 8 < e
  · rw [if_pos c]
    have q : ∀ j : Int, 0 ≤ j → j < w → (-(2 * B) ≤ s1 (8 * (i / 8) + j) ∧ s1 (8 * (i / 8) + j) ≤ 2 * B) ∧ (i / 8 < (e + 1) / 2 → -((3 * B + 1) / 2) ≤ s1 (8 * (i / 8) + j) ∧ s1 (8 * (i / 8) + j) ≤ (3 * B + 1) / 2) := by
      intro j h2 h3
      rw [hc _ (by omega) (by omega)]
      have b := (cEb hw he hB h (i := 8 * (i / 8) + j) (by omega) (by omega)).2 (by omega) (by omega)
      exact ⟨b.1, fun h4 => b.2 (by omega)⟩
    have b := fEb (g := fun j => s1 (8 * (i / 8) + j)) (n := w) (k := i % 8) (B := 2 * B) hw (by omega) (by omega) (fun j h2 h3 => (q j h2 h3).1)
    refine ⟨by omega, fun h2 h3 => ?_⟩
    exact (fEb (g := fun j => s1 (8 * (i / 8) + j)) (n := w) (k := i % 8) (B := (3 * B + 1) / 2) hw (by omega) (by omega) (fun j h4 h5 => (q j h4 h5).2 h3)).1 h2
  · rw [if_neg c]
    rw [hc i h0 h1]
    have b := (cEb hw he hB h h0 h1).1
    exact ⟨b, fun h2 h3 => absurd ⟨by omega, by omega⟩ c⟩
set_option maxRecDepth 20000 in
theorem s_floor_1 (v : Int) (h : Hp_) (hT : TY h) (hv : -30000 ≤ v ∧ v ≤ 30000) : Ctr yX12_floor cX12_floor 4 (some .int) (rmd 0) ly ly 0 0 [vI v, vI 1] h (fun r h' => (TY h' ∧ FRM [] [] h h') ∧ ∃ z : Int, r = some (vI z) ∧ (-30000 ≤ z ∧ z ≤ 30000) ∧ (z = v / 2)) := by
  refine Ctr_of (by decide) (Nat.le_of_ble_eq_true rfl) ⟨Nat.le_refl _, Nat.le_refl _⟩ (fun K hK hQ _ => ?_)
  show TT K ly 0 0 0 [(0, vI v), (1, vI 1)] [] h
  have hF : FRM [] [] h h := FRM_rf _ _ _
  refine TT_iconst hK dX12_floor_0 ?_
  refine TT_iload_n hK rfl 1 rfl dX12_floor_1 ?_
  refine TT_ishl hK (by omega) (by omega) dX12_floor_2 ?_
  refine TT_cgI (b := 1 * 2) rfl ?_
  refine TT_cgI (b := 2) (by rfl) ?_
  refine TT_istore_n hK rfl (lv' := [(2, vI 2), (0, vI v), (1, vI 1)]) (by decide) rfl dX12_floor_3 ?_
  refine TT_iload_n hK rfl 1 rfl dX12_floor_4 ?_
  refine TT_iload_n hK rfl 0 rfl dX12_floor_5 ?_
  refine TT_idiv hK (irm (by omega) (by omega)) (by decide) (by omega) dX12_floor_6 ?_
  refine TT_istore_n hK rfl (lv' := [(3, vI (Int.tdiv v 2)), (2, vI 2), (0, vI v), (1, vI 1)]) (by decide) rfl dX12_floor_7 ?_
  refine TT_iload_n hK rfl 2 rfl dX12_floor_8 ?_
  refine TT_iload_n hK rfl 1 rfl dX12_floor_9 ?_
  refine TT_irem hK (irm (by omega) (by omega)) (by decide) (by omega) dX12_floor_10 ?_
  have flm := (flr v 2 (by decide)).2.2
  refine TT_if_ge hK (tgt := 20) (irm (by omega) (by omega)) dX12_floor_11 (by decide) (fun hb11_1 => ?_) (fun hb11_1 => ?_)
  · have fl := (flr v 2 (by decide)).2.1 (by omega)
    refine TT_iload_n hK rfl 0 rfl dX12_floor_20 ?_
    refine TT_iret hK hQ ?_ dX12_floor_21
    exact ⟨⟨hT, hF⟩, (Int.tdiv v 2), rfl, (by omega), (by omega)⟩
  · have fl := (flr v 2 (by decide)).1 (by omega)
    refine TT_iload_n hK rfl 0 rfl dX12_floor_14 ?_
    refine TT_iconst hK dX12_floor_15 ?_
    refine TT_isub hK dX12_floor_16 ?_
    refine TT_goto hK (tgt := 21) dX12_floor_17 (by decide) ?_
    refine TT_iret hK hQ ?_ dX12_floor_21
    exact ⟨⟨hT, hF⟩, ((Int.tdiv v 2) - 1), rfl, (by omega), (by omega)⟩
set_option maxRecDepth 20000 in
theorem s_floor_2 (v : Int) (h : Hp_) (hT : TY h) (hv : -30000 ≤ v ∧ v ≤ 30000) : Ctr yX12_floor cX12_floor 4 (some .int) (rmd 0) ly ly 0 0 [vI v, vI 2] h (fun r h' => (TY h' ∧ FRM [] [] h h') ∧ ∃ z : Int, r = some (vI z) ∧ (-30000 ≤ z ∧ z ≤ 30000) ∧ (z = v / 4)) := by
  refine Ctr_of (by decide) (Nat.le_of_ble_eq_true rfl) ⟨Nat.le_refl _, Nat.le_refl _⟩ (fun K hK hQ _ => ?_)
  show TT K ly 0 0 0 [(0, vI v), (1, vI 2)] [] h
  have hF : FRM [] [] h h := FRM_rf _ _ _
  refine TT_iconst hK dX12_floor_0 ?_
  refine TT_iload_n hK rfl 1 rfl dX12_floor_1 ?_
  refine TT_ishl hK (by omega) (by omega) dX12_floor_2 ?_
  refine TT_cgI (b := 1 * 4) rfl ?_
  refine TT_cgI (b := 4) (by rfl) ?_
  refine TT_istore_n hK rfl (lv' := [(2, vI 4), (0, vI v), (1, vI 2)]) (by decide) rfl dX12_floor_3 ?_
  refine TT_iload_n hK rfl 1 rfl dX12_floor_4 ?_
  refine TT_iload_n hK rfl 0 rfl dX12_floor_5 ?_
  refine TT_idiv hK (irm (by omega) (by omega)) (by decide) (by omega) dX12_floor_6 ?_
  refine TT_istore_n hK rfl (lv' := [(3, vI (Int.tdiv v 4)), (2, vI 4), (0, vI v), (1, vI 2)]) (by decide) rfl dX12_floor_7 ?_
  refine TT_iload_n hK rfl 2 rfl dX12_floor_8 ?_
  refine TT_iload_n hK rfl 1 rfl dX12_floor_9 ?_
  refine TT_irem hK (irm (by omega) (by omega)) (by decide) (by omega) dX12_floor_10 ?_
  have flm := (flr v 4 (by decide)).2.2
  refine TT_if_ge hK (tgt := 20) (irm (by omega) (by omega)) dX12_floor_11 (by decide) (fun hb11_1 => ?_) (fun hb11_1 => ?_)
  · have fl := (flr v 4 (by decide)).2.1 (by omega)
    refine TT_iload_n hK rfl 0 rfl dX12_floor_20 ?_
    refine TT_iret hK hQ ?_ dX12_floor_21
    exact ⟨⟨hT, hF⟩, (Int.tdiv v 4), rfl, (by omega), (by omega)⟩
  · have fl := (flr v 4 (by decide)).1 (by omega)
    refine TT_iload_n hK rfl 0 rfl dX12_floor_14 ?_
    refine TT_iconst hK dX12_floor_15 ?_
    refine TT_isub hK dX12_floor_16 ?_
    refine TT_goto hK (tgt := 21) dX12_floor_17 (by decide) ?_
    refine TT_iret hK hQ ?_ dX12_floor_21
    exact ⟨⟨hT, hF⟩, ((Int.tdiv v 4) - 1), rfl, (by omega), (by omega)⟩
set_option maxRecDepth 20000 in
theorem s_mirrored_x (i n : Int) (h : Hp_) (hT : TY h) (hn : 2 ≤ n ∧ n ≤ 8) (hi : 0 ≤ i ∧ i ≤ n) (hB : ∀ j : Int, 0 ≤ j → j < n → -4095 ≤ (h 78) j ∧ (h 78) j ≤ 4095) : Ctr yX12_mirrored cX12_mirrored 3 (some .int) (rmd 0) ly ly 0 0 [vR 73, vI i, vI n] h (fun r h' => (TY h' ∧ FRM [] [] h h') ∧ ∃ z : Int, r = some (vI z) ∧ (-4095 ≤ z ∧ z ≤ 4095) ∧ (z = (h 78) (mI i n))) := by
  refine Ctr_of (by decide) (Nat.le_of_ble_eq_true rfl) ⟨Nat.le_refl _, Nat.le_refl _⟩ (fun K hK hQ _ => ?_)
  show TT K ly 0 0 0 [(0, vR 73), (1, vI i), (2, vI n)] [] h
  have hF : FRM [] [] h h := FRM_rf _ _ _
  refine TT_aload_n hK rfl 0 rfl dX12_mirrored_0 ?_
  refine gf_X12_29 hK (by decide) rfl (q := 78) rfl rfl dX12_mirrored_1 ?_
  refine TT_iload_n hK rfl 1 rfl dX12_mirrored_4 ?_
  refine TT_iload_n hK rfl 2 rfl dX12_mirrored_5 ?_
  refine TT_icmp_ge hK (tgt := 13) (irm (by omega) (by omega)) (irm (by omega) (by omega)) dX12_mirrored_6 (by decide) (fun hb6_1 => ?_) (fun hb6_1 => ?_)
  · refine TT_iconst hK dX12_mirrored_13 ?_
    refine TT_iload_n hK rfl 2 rfl dX12_mirrored_14 ?_
    refine TT_imul hK dX12_mirrored_15 ?_
    refine TT_iconst hK dX12_mirrored_16 ?_
    refine TT_isub hK dX12_mirrored_17 ?_
    refine TT_iload_n hK rfl 1 rfl dX12_mirrored_18 ?_
    refine TT_isub hK dX12_mirrored_19 ?_
    have b1 := hB (((2 * n) - 2) - i) (by omega) (by omega)
    refine TT_iald hK (o := 78) (n := 8) (by decide) rfl (by first | omega | (simp [up, setR] <;> omega)) (by first | omega | (simp [up, setR] <;> omega)) (v := (h 78) (((2 * n) - 2) - i)) rfl dX12_mirrored_20 ?_
    have r2 := ty_78 (i := ((2 * n) - 2) - i) (v := (h 78) (((2 * n) - 2) - i)) hT rfl (by omega) (by omega)
    refine TT_iret hK hQ ?_ dX12_mirrored_21
    exact ⟨⟨hT, hF⟩, ((h 78) (((2 * n) - 2) - i)), rfl, (by omega), (by unfold mI; first | rw [if_pos (by omega)] | rw [if_neg (by omega)])⟩
  · refine TT_iload_n hK rfl 1 rfl dX12_mirrored_9 ?_
    refine TT_goto hK (tgt := 20) dX12_mirrored_10 (by decide) ?_
    have b1 := hB (i) (by omega) (by omega)
    refine TT_iald hK (o := 78) (n := 8) (by decide) rfl (by first | omega | (simp [up, setR] <;> omega)) (by first | omega | (simp [up, setR] <;> omega)) (v := (h 78) i) rfl dX12_mirrored_20 ?_
    have r3 := ty_78 (i := i) (v := (h 78) i) hT rfl (by omega) (by omega)
    refine TT_iret hK hQ ?_ dX12_mirrored_21
    exact ⟨⟨hT, hF⟩, ((h 78) i), rfl, (by omega), (by unfold mI; first | rw [if_pos (by omega)] | rw [if_neg (by omega)])⟩
set_option maxRecDepth 20000 in
theorem s_detail_x (k n : Int) (h : Hp_) (hT : TY h) (hn : 2 ≤ n ∧ n ≤ 8) (hk : -1 ≤ k ∧ k ≤ 8) (hB : ∀ j : Int, 0 ≤ j → j < n → -4095 ≤ (h 78) j ∧ (h 78) j ≤ 4095) : Ctr yX12_detail cX12_detail 4 (some .int) (rmd 2) ly ly 0 0 [vR 73, vI k, vI n] h (fun r h' => (TY h' ∧ FRM [] [] h h') ∧ ∃ z : Int, r = some (vI z) ∧ (-8190 ≤ z ∧ z ≤ 8191) ∧ (z = dE (h 78) k n)) := by
  refine Ctr_of (by decide) (Nat.le_of_ble_eq_true rfl) ⟨Nat.le_refl _, Nat.le_refl _⟩ (fun K hK hQ _ => ?_)
  show TT K ly 0 0 0 [(0, vR 73), (1, vI k), (2, vI n)] [] h
  have hF : FRM [] [] h h := FRM_rf _ _ _
  have J25_1 : ∀ (i : Int), (0 ≤ i ∧ i ≤ n / 2 - 1) → (i = dI k n) → TT K ly 0 0 25 [(0, vR 73), (1, vI k), (2, vI n), (3, vI i)] [] h := by
    intro i hi hi0
    refine TT_aload_n hK rfl 0 rfl dX12_detail_25 ?_
    refine gf_X12_29 hK (by decide) rfl (q := 78) rfl rfl dX12_detail_26 ?_
    refine TT_iconst hK dX12_detail_29 ?_
    refine TT_iload_n hK rfl 3 rfl dX12_detail_30 ?_
    refine TT_imul hK dX12_detail_31 ?_
    refine TT_iconst hK dX12_detail_32 ?_
    refine TT_iadd hK dX12_detail_33 ?_
    refine TT_iald hK (o := 78) (n := 8) (by decide) rfl (by first | omega | (simp [up, setR] <;> omega)) (by first | omega | (simp [up, setR] <;> omega)) (v := (h 78) ((2 * i) + 1)) rfl dX12_detail_34 ?_
    have r2 := ty_78 (i := (2 * i) + 1) (v := (h 78) ((2 * i) + 1)) hT rfl (by omega) (by omega)
    have b1 := hB (2 * i + 1) (by omega) (by omega)
    refine TT_aload_n hK rfl 0 rfl dX12_detail_35 ?_
    refine TT_iconst hK dX12_detail_36 ?_
    refine TT_iload_n hK rfl 3 rfl dX12_detail_37 ?_
    refine TT_imul hK dX12_detail_38 ?_
    refine TT_iload_n hK rfl 2 rfl dX12_detail_39 ?_
    refine iv_X12_129 hK (s_mirrored_x (2 * i) n h hT (by first | omega | (simp [up, setR] <;> omega)) (by first | omega | (simp [up, setR] <;> omega)) (by first | assumption | exact hB)) (by decide) rfl ⟨by decide, by decide⟩ (by decide) rfl rfl (Nat.le_of_ble_eq_true rfl) ⟨by decide, by decide⟩ dX12_detail_40 ?_
    intro r9 g40_3 hp9
    obtain ⟨⟨hT_3, hG_3⟩, z40_3, hr9, hz_3, p1_3⟩ := hp9
    rw [hr9]
    have hF_3 : FRM [] [] h g40_3 := FRM_tr hF hG_3 (by decide) (by decide)
    show TT K ly 0 0 43 [(0, vR 73), (1, vI k), (2, vI n), (3, vI i)] [vI z40_3, vI ((h 78) ((2 * i) + 1))] g40_3
    refine TT_aload_n hK rfl 0 rfl dX12_detail_43 ?_
    refine TT_iconst hK dX12_detail_44 ?_
    refine TT_iload_n hK rfl 3 rfl dX12_detail_45 ?_
    refine TT_imul hK dX12_detail_46 ?_
    refine TT_iconst hK dX12_detail_47 ?_
    refine TT_iadd hK dX12_detail_48 ?_
    refine TT_iload_n hK rfl 2 rfl dX12_detail_49 ?_
    have e4_78 : g40_3 78 = h 78 := (hG_3.1 78 (by decide))
    refine iv_X12_129 hK (s_mirrored_x ((2 * i) + 2) n g40_3 hT_3 (by first | omega | (simp [up, setR] <;> omega)) (by first | omega | (simp [up, setR] <;> omega)) (by rewrite [e4_78]; first | assumption | exact hB)) (by decide) rfl ⟨by decide, by decide⟩ (by decide) rfl rfl (Nat.le_of_ble_eq_true rfl) ⟨by decide, by decide⟩ dX12_detail_50 ?_
    intro r9 g50_5 hp9
    obtain ⟨⟨hT_5, hG_5⟩, z50_5, hr9, hz_5, p1_5⟩ := hp9
    rw [hr9]
    have hF_5 : FRM [] [] h g50_5 := FRM_tr hF_3 hG_5 (by decide) (by decide)
    rw [show g40_3 78 = h 78 from (hG_3.1 78 (by decide))] at p1_5
    show TT K ly 0 0 53 [(0, vR 73), (1, vI k), (2, vI n), (3, vI i)] [vI z50_5, vI z40_3, vI ((h 78) ((2 * i) + 1))] g50_5
    refine TT_iadd hK dX12_detail_53 ?_
    refine TT_iconst hK dX12_detail_54 ?_
    refine iv_X12_133 hK (s_floor_1 (z40_3 + z50_5) g50_5 hT_5 (by first | omega | (simp [up, setR] <;> omega))) ⟨by decide, by decide⟩ (by decide) rfl rfl (Nat.le_of_ble_eq_true rfl) ⟨by decide, by decide⟩ dX12_detail_55 ?_
    intro r9 g55_6 hp9
    obtain ⟨⟨hT_6, hG_6⟩, z55_6, hr9, hz_6, p1_6⟩ := hp9
    rw [hr9]
    have hF_6 : FRM [] [] h g55_6 := FRM_tr hF_5 hG_6 (by decide) (by decide)
    show TT K ly 0 0 58 [(0, vR 73), (1, vI k), (2, vI n), (3, vI i)] [vI z55_6, vI ((h 78) ((2 * i) + 1))] g55_6
    refine TT_isub hK dX12_detail_58 ?_
    refine TT_iret hK hQ ?_ dX12_detail_59
    exact ⟨⟨hT_6, hF_6⟩, (((h 78) ((2 * i) + 1)) - z55_6), rfl, (by omega), (by unfold dE; rw [← hi0]; omega)⟩
  refine TT_iload_n hK rfl 1 rfl dX12_detail_0 ?_
  refine TT_if_ge hK (tgt := 8) (irm (by omega) (by omega)) dX12_detail_1 (by decide) (fun hb1_7 => ?_) (fun hb1_7 => ?_)
  · refine TT_iload_n hK rfl 1 rfl dX12_detail_8 ?_
    refine TT_iload_n hK rfl 2 rfl dX12_detail_9 ?_
    refine TT_iconst hK dX12_detail_10 ?_
    refine TT_idivn hK (irm (by omega) (by omega)) (by decide) (by first | omega | (simp [up, setR] <;> omega)) (by first | omega | (simp [up, setR] <;> omega)) dX12_detail_11 ?_
    refine TT_icmp_lt hK (tgt := 23) (irm (by omega) (by omega)) (irm (by omega) (by omega)) dX12_detail_12 (by decide) (fun hb12_8 => ?_) (fun hb12_8 => ?_)
    · refine TT_iload_n hK rfl 1 rfl dX12_detail_23 ?_
      refine TT_istore_n hK rfl (lv' := [(3, vI k), (0, vR 73), (1, vI k), (2, vI n)]) (by decide) rfl dX12_detail_24 ?_
      refine TT_sub [1, 2, 3, 0] rfl ?_
      exact J25_1 k (by first | omega | (simp [up, setR] <;> omega)) (by unfold dI; (repeat' split) <;> omega)
    · refine TT_iload_n hK rfl 2 rfl dX12_detail_15 ?_
      refine TT_iconst hK dX12_detail_16 ?_
      refine TT_idivn hK (irm (by omega) (by omega)) (by decide) (by first | omega | (simp [up, setR] <;> omega)) (by first | omega | (simp [up, setR] <;> omega)) dX12_detail_17 ?_
      refine TT_iconst hK dX12_detail_18 ?_
      refine TT_isub hK dX12_detail_19 ?_
      refine TT_goto hK (tgt := 24) dX12_detail_20 (by decide) ?_
      refine TT_istore_n hK rfl (lv' := [(3, vI ((n / 2) - 1)), (0, vR 73), (1, vI k), (2, vI n)]) (by decide) rfl dX12_detail_24 ?_
      refine TT_sub [1, 2, 3, 0] rfl ?_
      exact J25_1 ((n / 2) - 1) (by first | omega | (simp [up, setR] <;> omega)) (by unfold dI; (repeat' split) <;> omega)
  · refine TT_iconst hK dX12_detail_4 ?_
    refine TT_goto hK (tgt := 24) dX12_detail_5 (by decide) ?_
    refine TT_istore_n hK rfl (lv' := [(3, vI 0), (0, vR 73), (1, vI k), (2, vI n)]) (by decide) rfl dX12_detail_24 ?_
    refine TT_sub [1, 2, 3, 0] rfl ?_
    exact J25_1 0 (by first | omega | (simp [up, setR] <;> omega)) (by unfold dI; (repeat' split) <;> omega)
set_option maxRecDepth 20000 in
theorem s_forward_x (n : Int) (h : Hp_) (hT : TY h) (hn : 1 ≤ n ∧ n ≤ 8) (hB : ∀ j : Int, 0 ≤ j → j < n → -4095 ≤ (h 78) j ∧ (h 78) j ≤ 4095) : Ctr yX12_forward cX12_forward 4 none (rmd 3) ly ly 0 0 [vR 73, vI n] h (fun r h' => (TY h' ∧ FRM [79] [] h h') ∧ r = none ∧ (∀ j : Int, 0 ≤ j → j < n → (h' 79) j = fE (h 78) n j)) := by
  refine Ctr_of (by decide) (Nat.le_of_ble_eq_true rfl) ⟨Nat.le_refl _, Nat.le_refl _⟩ (fun K hK hQ _ => ?_)
  show TT K ly 0 0 0 [(0, vR 73), (1, vI n)] [] h
  have hF : FRM [79] [] h h := FRM_rf _ _ _
  refine TT_iload_n hK rfl 1 rfl dX12_forward_0 ?_
  refine TT_iconst hK dX12_forward_1 ?_
  refine TT_iadd hK dX12_forward_2 ?_
  refine TT_iconst hK dX12_forward_3 ?_
  refine TT_idivn hK (irm (by omega) (by omega)) (by decide) (by first | omega | (simp [up, setR] <;> omega)) (by first | omega | (simp [up, setR] <;> omega)) dX12_forward_4 ?_
  refine TT_istore_n hK rfl (lv' := [(2, vI ((n + 1) / 2)), (0, vR 73), (1, vI n)]) (by decide) rfl dX12_forward_5 ?_
  refine TT_iconst hK dX12_forward_6 ?_
  refine TT_istore_n hK rfl (lv' := [(3, vI 0), (2, vI ((n + 1) / 2)), (0, vR 73), (1, vI n)]) (by decide) rfl dX12_forward_7 ?_
  have L8_1 : ∀ (k1 : Nat) (k : Int) (w8_1 : Hp_), TY w8_1 → FRM [79] [] h w8_1 → (0 ≤ k ∧ k ≤ (n + 1) / 2) → (∀ j : Int, 0 ≤ j → j < k → (w8_1 79) j = fE (h 78) n j) → ((8 : Int) - k).toNat < k1 → TT K ly 0 0 8 [(0, vR 73), (1, vI n), (2, vI ((n + 1) / 2)), (3, vI k)] [] w8_1 := by
    intro k1
    induction k1 with
    | zero => intro k w8_1 hT8_1 hF8_1 hk hn1 hk1; exact absurd hk1 (Nat.not_lt_zero _)
    | succ k1 ih1 =>
      intro k w8_1 hT8_1 hF8_1 hk hn1 hk1
      refine TT_iload_n hK rfl 3 rfl dX12_forward_8 ?_
      refine TT_iload_n hK rfl 2 rfl dX12_forward_9 ?_
      refine TT_icmp_ge hK (tgt := 69) (irm (by omega) (by omega)) (irm (by omega) (by omega)) dX12_forward_10 (by decide) (fun hb10_2 => ?_) (fun hb10_2 => ?_)
      · refine TT_iconst hK dX12_forward_69 ?_
        refine TT_istore_n hK rfl (lv' := [(3, vI 0), (0, vR 73), (1, vI n), (2, vI ((n + 1) / 2))]) (by decide) rfl dX12_forward_70 ?_
        have L71_3 : ∀ (k3 : Nat) (k2 : Int) (w71_3 : Hp_), TY w71_3 → FRM [79] [] h w71_3 → (0 ≤ k2 ∧ k2 ≤ n / 2) → (∀ j : Int, 0 ≤ j → j < (n + 1) / 2 + k2 → (w71_3 79) j = fE (h 78) n j) → ((8 : Int) - k2).toNat < k3 → TT K ly 0 0 71 [(0, vR 73), (1, vI n), (2, vI ((n + 1) / 2)), (3, vI k2)] [] w71_3 := by
          intro k3
          induction k3 with
          | zero => intro k2 w71_3 hT71_3 hF71_3 hk2 hn2 hk3; exact absurd hk3 (Nat.not_lt_zero _)
          | succ k3 ih3 =>
            intro k2 w71_3 hT71_3 hF71_3 hk2 hn2 hk3
            refine TT_iload_n hK rfl 3 rfl dX12_forward_71 ?_
            refine TT_iload_n hK rfl 1 rfl dX12_forward_72 ?_
            refine TT_iconst hK dX12_forward_73 ?_
            refine TT_idivn hK (irm (by omega) (by omega)) (by decide) (by first | omega | (simp [up, setR] <;> omega)) (by first | omega | (simp [up, setR] <;> omega)) dX12_forward_74 ?_
            refine TT_icmp_ge hK (tgt := 98) (irm (by omega) (by omega)) (irm (by omega) (by omega)) dX12_forward_75 (by decide) (fun hb75_4 => ?_) (fun hb75_4 => ?_)
            · refine TT_vret hK hQ ?_ dX12_forward_98
              exact ⟨⟨hT71_3, hF71_3⟩, rfl, (by intro j h1 h2; exact hn2 j h1 (by omega))⟩
            · refine TT_aload_n hK rfl 0 rfl dX12_forward_78 ?_
              refine gf_X12_32 hK (by decide) rfl (q := 79) rfl rfl dX12_forward_79 ?_
              refine TT_iload_n hK rfl 2 rfl dX12_forward_82 ?_
              refine TT_iload_n hK rfl 3 rfl dX12_forward_83 ?_
              refine TT_iadd hK dX12_forward_84 ?_
              refine TT_aload_n hK rfl 0 rfl dX12_forward_85 ?_
              refine TT_iload_n hK rfl 3 rfl dX12_forward_86 ?_
              refine TT_iload_n hK rfl 1 rfl dX12_forward_87 ?_
              have e5_78 : w71_3 78 = h 78 := (hF71_3.1 78 (by decide))
              refine iv_X12_136 hK (s_detail_x k2 n w71_3 hT71_3 (by first | omega | (simp [up, setR] <;> omega)) (by first | omega | (simp [up, setR] <;> omega)) (by rewrite [e5_78]; first | assumption | exact hB)) (by decide) rfl ⟨by decide, by decide⟩ (by decide) rfl rfl (Nat.le_of_ble_eq_true rfl) ⟨by decide, by decide⟩ dX12_forward_88 ?_
              intro r9 g88_6 hp9
              obtain ⟨⟨hT_6, hG_6⟩, z88_6, hr9, hz_6, p1_6⟩ := hp9
              rw [hr9]
              have hF_6 : FRM [79] [] h g88_6 := FRM_tr hF71_3 hG_6 (by decide) (by decide)
              rw [show w71_3 78 = h 78 from (hF71_3.1 78 (by decide))] at p1_6
              show TT K ly 0 0 91 [(0, vR 73), (1, vI n), (2, vI ((n + 1) / 2)), (3, vI k2)] [vI z88_6, vI (((n + 1) / 2) + k2), vR 79] g88_6
              refine TT_iast hK (o := 79) (n := 8) (by decide) rfl (by omega) (by omega) dX12_forward_91 ?_
              refine TT_hp (h' := setO g88_6 79 (fup (w71_3 79) (((n + 1) / 2) + k2) z88_6)) (up_can (hG_6.1 79 (by decide)) rfl rfl) ?_
              have hT_7 : TY (setO g88_6 79 (fup (w71_3 79) (((n + 1) / 2) + k2) z88_6)) := tu_79 hT_6 (show up g88_6 79 (((n + 1) / 2) + k2) z88_6 = (setO g88_6 79 (fup (w71_3 79) (((n + 1) / 2) + k2) z88_6)) from up_can (hG_6.1 79 (by decide)) rfl rfl) (by omega)
              have hF_7 : FRM [79] [] h (setO g88_6 79 (fup (w71_3 79) (((n + 1) / 2) + k2) z88_6)) := FRM_up (show up g88_6 79 (((n + 1) / 2) + k2) z88_6 = (setO g88_6 79 (fup (w71_3 79) (((n + 1) / 2) + k2) z88_6)) from up_can (hG_6.1 79 (by decide)) rfl rfl) hF_6 (by decide) (by decide)
              refine TT_iinc hK (v := k2 + 1) (lv' := [(3, vI (k2 + 1)), (0, vR 73), (1, vI n), (2, vI ((n + 1) / 2))]) 3 rfl rfl (by decide) rfl dX12_forward_92 ?_
              refine TT_goto hK (tgt := 71) dX12_forward_95 (by decide) ?_
              refine TT_sub [1, 2, 3, 0] rfl ?_
              have e8_79 : (setO g88_6 79 (fup (w71_3 79) (((n + 1) / 2) + k2) z88_6)) 79 = fup (w71_3 79) (((n + 1) / 2) + k2) z88_6 := sOf_eq _ _ _
              exact ih3 (k2 + 1) (setO g88_6 79 (fup (w71_3 79) (((n + 1) / 2) + k2) z88_6)) hT_7 hF_7 (by first | omega | (simp [up, setR] <;> omega)) (by rewrite [e8_79]; intro j h1 h2; by_cases e : j = (n + 1) / 2 + k2; (rw [e, fup_eq]; unfold fE; rw [if_neg (by omega), show (n + 1) / 2 + k2 - (n + 1) / 2 = k2 by omega]; omega); (rw [fup_ne _ _ e]; exact hn2 j h1 (by omega))) (by first | omega | (simp [up, setR] <;> omega))
        refine TT_sub [1, 2, 3, 0] rfl ?_
        exact L71_3 ((((8 : Int) - 0).toNat) + 1) 0 w8_1 hT8_1 hF8_1 (by first | omega | (simp [up, setR] <;> omega)) (by intro j h1 h2; exact hn1 j h1 (by omega)) (Nat.lt_succ_self _)
      · refine TT_aload_n hK rfl 0 rfl dX12_forward_13 ?_
        refine gf_X12_32 hK (by decide) rfl (q := 79) rfl rfl dX12_forward_14 ?_
        refine TT_iload_n hK rfl 3 rfl dX12_forward_17 ?_
        refine TT_iload_n hK rfl 1 rfl dX12_forward_18 ?_
        refine TT_iconst hK dX12_forward_19 ?_
        refine TT_icmp_ne hK (tgt := 32) (irm (by omega) (by omega)) (by decide) dX12_forward_20 (by decide) (fun hb20_9 => ?_) (fun hb20_9 => ?_)
        · refine TT_aload_n hK rfl 0 rfl dX12_forward_32 ?_
          refine gf_X12_29 hK (by decide) rfl (q := 78) rfl rfl dX12_forward_33 ?_
          refine TT_iconst hK dX12_forward_36 ?_
          refine TT_iload_n hK rfl 3 rfl dX12_forward_37 ?_
          refine TT_imul hK dX12_forward_38 ?_
          refine TT_iald hK (o := 78) (n := 8) (by decide) rfl (by first | omega | (simp [up, setR] <;> omega)) (by first | omega | (simp [up, setR] <;> omega)) (v := (h 78) (2 * k)) (rd_ (hF8_1.1 78 (by decide)) rfl) dX12_forward_39 ?_
          have r10 := ty_78 (i := 2 * k) (v := (h 78) (2 * k)) hT8_1 (rd_ (hF8_1.1 78 (by decide)) rfl) (by omega) (by omega)
          have b1 := hB (2 * k) (by omega) (by omega)
          refine TT_aload_n hK rfl 0 rfl dX12_forward_40 ?_
          refine TT_iload_n hK rfl 3 rfl dX12_forward_41 ?_
          refine TT_iconst hK dX12_forward_42 ?_
          refine TT_isub hK dX12_forward_43 ?_
          refine TT_iload_n hK rfl 1 rfl dX12_forward_44 ?_
          have e11_78 : w8_1 78 = h 78 := (hF8_1.1 78 (by decide))
          refine iv_X12_136 hK (s_detail_x (k - 1) n w8_1 hT8_1 (by first | omega | (simp [up, setR] <;> omega)) (by first | omega | (simp [up, setR] <;> omega)) (by rewrite [e11_78]; first | assumption | exact hB)) (by decide) rfl ⟨by decide, by decide⟩ (by decide) rfl rfl (Nat.le_of_ble_eq_true rfl) ⟨by decide, by decide⟩ dX12_forward_45 ?_
          intro r9 g45_12 hp9
          obtain ⟨⟨hT_12, hG_12⟩, z45_12, hr9, hz_12, p1_12⟩ := hp9
          rw [hr9]
          have hF_12 : FRM [79] [] h g45_12 := FRM_tr hF8_1 hG_12 (by decide) (by decide)
          rw [show w8_1 78 = h 78 from (hF8_1.1 78 (by decide))] at p1_12
          show TT K ly 0 0 48 [(0, vR 73), (1, vI n), (2, vI ((n + 1) / 2)), (3, vI k)] [vI z45_12, vI ((h 78) (2 * k)), vI k, vR 79] g45_12
          refine TT_aload_n hK rfl 0 rfl dX12_forward_48 ?_
          refine TT_iload_n hK rfl 3 rfl dX12_forward_49 ?_
          refine TT_iload_n hK rfl 1 rfl dX12_forward_50 ?_
          have e13_78 : g45_12 78 = h 78 := ((hG_12.1 78 (by decide))).trans (hF8_1.1 78 (by decide))
          refine iv_X12_136 hK (s_detail_x k n g45_12 hT_12 (by first | omega | (simp [up, setR] <;> omega)) (by first | omega | (simp [up, setR] <;> omega)) (by rewrite [e13_78]; first | assumption | exact hB)) (by decide) rfl ⟨by decide, by decide⟩ (by decide) rfl rfl (Nat.le_of_ble_eq_true rfl) ⟨by decide, by decide⟩ dX12_forward_51 ?_
          intro r9 g51_14 hp9
          obtain ⟨⟨hT_14, hG_14⟩, z51_14, hr9, hz_14, p1_14⟩ := hp9
          rw [hr9]
          have hF_14 : FRM [79] [] h g51_14 := FRM_tr hF_12 hG_14 (by decide) (by decide)
          rw [show g45_12 78 = h 78 from ((hG_12.1 78 (by decide))).trans (hF8_1.1 78 (by decide))] at p1_14
          show TT K ly 0 0 54 [(0, vR 73), (1, vI n), (2, vI ((n + 1) / 2)), (3, vI k)] [vI z51_14, vI z45_12, vI ((h 78) (2 * k)), vI k, vR 79] g51_14
          refine TT_iadd hK dX12_forward_54 ?_
          refine TT_iconst hK dX12_forward_55 ?_
          refine TT_iadd hK dX12_forward_56 ?_
          refine TT_iconst hK dX12_forward_57 ?_
          refine iv_X12_133 hK (s_floor_2 ((z45_12 + z51_14) + 2) g51_14 hT_14 (by first | omega | (simp [up, setR] <;> omega))) ⟨by decide, by decide⟩ (by decide) rfl rfl (Nat.le_of_ble_eq_true rfl) ⟨by decide, by decide⟩ dX12_forward_58 ?_
          intro r9 g58_15 hp9
          obtain ⟨⟨hT_15, hG_15⟩, z58_15, hr9, hz_15, p1_15⟩ := hp9
          rw [hr9]
          have hF_15 : FRM [79] [] h g58_15 := FRM_tr hF_14 hG_15 (by decide) (by decide)
          show TT K ly 0 0 61 [(0, vR 73), (1, vI n), (2, vI ((n + 1) / 2)), (3, vI k)] [vI z58_15, vI ((h 78) (2 * k)), vI k, vR 79] g58_15
          refine TT_iadd hK dX12_forward_61 ?_
          refine TT_iast hK (o := 79) (n := 8) (by decide) rfl (by omega) (by omega) dX12_forward_62 ?_
          refine TT_hp (h' := setO g58_15 79 (fup (w8_1 79) k (((h 78) (2 * k)) + z58_15))) (up_can (((hG_15.1 79 (by decide))).trans (((hG_14.1 79 (by decide))).trans (hG_12.1 79 (by decide)))) rfl rfl) ?_
          have hT_16 : TY (setO g58_15 79 (fup (w8_1 79) k (((h 78) (2 * k)) + z58_15))) := tu_79 hT_15 (show up g58_15 79 k (((h 78) (2 * k)) + z58_15) = (setO g58_15 79 (fup (w8_1 79) k (((h 78) (2 * k)) + z58_15))) from up_can (((hG_15.1 79 (by decide))).trans (((hG_14.1 79 (by decide))).trans (hG_12.1 79 (by decide)))) rfl rfl) (by omega)
          have hF_16 : FRM [79] [] h (setO g58_15 79 (fup (w8_1 79) k (((h 78) (2 * k)) + z58_15))) := FRM_up (show up g58_15 79 k (((h 78) (2 * k)) + z58_15) = (setO g58_15 79 (fup (w8_1 79) k (((h 78) (2 * k)) + z58_15))) from up_can (((hG_15.1 79 (by decide))).trans (((hG_14.1 79 (by decide))).trans (hG_12.1 79 (by decide)))) rfl rfl) hF_15 (by decide) (by decide)
          refine TT_iinc hK (v := k + 1) (lv' := [(3, vI (k + 1)), (0, vR 73), (1, vI n), (2, vI ((n + 1) / 2))]) 3 rfl rfl (by decide) rfl dX12_forward_63 ?_
          refine TT_goto hK (tgt := 8) dX12_forward_66 (by decide) ?_
          refine TT_sub [1, 2, 3, 0] rfl ?_
          have e17_79 : (setO g58_15 79 (fup (w8_1 79) k (((h 78) (2 * k)) + z58_15))) 79 = fup (w8_1 79) k (((h 78) (2 * k)) + z58_15) := sOf_eq _ _ _
          exact ih1 (k + 1) (setO g58_15 79 (fup (w8_1 79) k (((h 78) (2 * k)) + z58_15))) hT_16 hF_16 (by first | omega | (simp [up, setR] <;> omega)) (by rewrite [e17_79]; intro j h1 h2; by_cases e : j = k; (rw [e, fup_eq]; unfold fE; rw [if_pos (by omega)]; first | rw [if_pos (by omega)] | (rw [if_neg (by omega)]; omega)); (rw [fup_ne _ _ e]; exact hn1 j h1 (by omega))) (by first | omega | (simp [up, setR] <;> omega))
        · have b1 := hB 0 (by omega) (by omega)
          refine TT_aload_n hK rfl 0 rfl dX12_forward_23 ?_
          refine gf_X12_29 hK (by decide) rfl (q := 78) rfl rfl dX12_forward_24 ?_
          refine TT_iconst hK dX12_forward_27 ?_
          refine TT_iald hK (o := 78) (n := 8) (by decide) rfl (by first | omega | (simp [up, setR] <;> omega)) (by first | omega | (simp [up, setR] <;> omega)) (v := (h 78) 0) (rd_ (hF8_1.1 78 (by decide)) rfl) dX12_forward_28 ?_
          have r18 := ty_78 (i := 0) (v := (h 78) 0) hT8_1 (rd_ (hF8_1.1 78 (by decide)) rfl) (by omega) (by omega)
          refine TT_goto hK (tgt := 62) dX12_forward_29 (by decide) ?_
          refine TT_iast hK (o := 79) (n := 8) (by decide) rfl (by omega) (by omega) dX12_forward_62 ?_
          refine TT_hp (h' := setO w8_1 79 (fup (w8_1 79) k ((h 78) 0))) (up_can rfl rfl rfl) ?_
          have hT_19 : TY (setO w8_1 79 (fup (w8_1 79) k ((h 78) 0))) := tu_79 hT8_1 (show up w8_1 79 k ((h 78) 0) = (setO w8_1 79 (fup (w8_1 79) k ((h 78) 0))) from up_can rfl rfl rfl) (by omega)
          have hF_19 : FRM [79] [] h (setO w8_1 79 (fup (w8_1 79) k ((h 78) 0))) := FRM_up (show up w8_1 79 k ((h 78) 0) = (setO w8_1 79 (fup (w8_1 79) k ((h 78) 0))) from up_can rfl rfl rfl) hF8_1 (by decide) (by decide)
          refine TT_iinc hK (v := k + 1) (lv' := [(3, vI (k + 1)), (0, vR 73), (1, vI n), (2, vI ((n + 1) / 2))]) 3 rfl rfl (by decide) rfl dX12_forward_63 ?_
          refine TT_goto hK (tgt := 8) dX12_forward_66 (by decide) ?_
          refine TT_sub [1, 2, 3, 0] rfl ?_
          have e20_79 : (setO w8_1 79 (fup (w8_1 79) k ((h 78) 0))) 79 = fup (w8_1 79) k ((h 78) 0) := sOf_eq _ _ _
          exact ih1 (k + 1) (setO w8_1 79 (fup (w8_1 79) k ((h 78) 0))) hT_19 hF_19 (by first | omega | (simp [up, setR] <;> omega)) (by rewrite [e20_79]; intro j h1 h2; by_cases e : j = k; (rw [e, fup_eq]; unfold fE; rw [if_pos (by omega)]; first | rw [if_pos (by omega)] | (rw [if_neg (by omega)]; omega)); (rw [fup_ne _ _ e]; exact hn1 j h1 (by omega))) (by first | omega | (simp [up, setR] <;> omega))
  refine TT_sub [2, 3, 1, 0] rfl ?_
  exact L8_1 ((((8 : Int) - 0).toNat) + 1) 0 h hT hF (by first | omega | (simp [up, setR] <;> omega)) (by intro j h1 h2; omega) (Nat.lt_succ_self _)
